theorem c_lightX {f b : Nat} {xs : Nat → Int32} {S : MM} {x aE aC e0 e1 m out c z : Nat} {u : Int32} (h : GG S x aE aC e0 e1 m out) (hc : c + 1 ≤ 600002) (hz : z + 6 ≤ 7302232) : wpn (kL_law b 5 xs) (f + 8) 553 [(4, .int 0), (3, .ref out), (2, .ref m), (1, .ref x), (0, .ref b)] [.int u, .int (xs ((0 : Int32) + 1).toNatClampNeg), .ref x] S c z := by
  obtain ⟨hB, hM, ho1, ho2⟩ := h
  refine And.intro ⟨hc, hz⟩ (s_Llight hB (fun q => ?_) (fun j hj e => ?_))
  · have hk : (1 : Int32) = if xs ((0 : Int32) + 1).toNatClampNeg < 0 ∨ 8 ≤ xs ((0 : Int32) + 1).toNatClampNeg then 1 else 2 := by rw [if_pos q]
    refine And.intro rfl (And.intro (v5 (i := 1) (by decide)) (And.intro rfl (And.intro (v5 (i := 2) (by decide)) (And.intro (fun _ => ?_) (fun _ => ?_)))))
    · show wpn (kL_law b 5 xs) (f + 6) 579 [(5, .int 1), (4, .int 0), (3, .ref out), (2, .ref m), (1, .ref x), (0, .ref b)] [.int 0, .int (xs ((0 : Int32) + 1).toNatClampNeg), .ref m] S (c + 1) (z + 6)
      exact c_lightM (f := f) hM hc hz hk
    · show wpn (kL_law b 5 xs) (f + 7) 579 [(5, .int 1), (4, .int 0), (3, .ref out), (2, .ref m), (1, .ref x), (0, .ref b)] [.int 1, .int (xs ((0 : Int32) + 1).toNatClampNeg), .ref m] S (c + 1) (z + 6)
      exact c_lightM (f := f + 1) hM hc hz hk
  · have hk : (2 : Int32) = if xs ((0 : Int32) + 1).toNatClampNeg < 0 ∨ 8 ≤ xs ((0 : Int32) + 1).toNatClampNeg then 1 else 2 := by rw [if_neg (fun q => no_8 q hj e)]
    refine And.intro rfl (And.intro (v5 (i := 1) (by decide)) (And.intro rfl (And.intro (v5 (i := 2) (by decide)) (And.intro (fun _ => ?_) (fun _ => ?_)))))
    · show wpn (kL_law b 5 xs) (f + 6) 579 [(5, .int 2), (4, .int 0), (3, .ref out), (2, .ref m), (1, .ref x), (0, .ref b)] [.int 0, .int (xs ((0 : Int32) + 1).toNatClampNeg), .ref m] S (c + 1) (z + 6)
      exact c_lightM (f := f) hM hc hz hk
    · show wpn (kL_law b 5 xs) (f + 7) 579 [(5, .int 2), (4, .int 0), (3, .ref out), (2, .ref m), (1, .ref x), (0, .ref b)] [.int 1, .int (xs ((0 : Int32) + 1).toNatClampNeg), .ref m] S (c + 1) (z + 6)
      exact c_lightM (f := f + 1) hM hc hz hk
theorem c_light {b : Nat} {xs : Nat → Int32} {S : MM} {x aE aC e0 e1 m out c z : Nat} (h : GG S x aE aC e0 e1 m out) (hc : c + 1 ≤ 600002) (hz : z + 6 ≤ 7302232) : wpn (kL_law b 5 xs) 10 532 [(4, .int 0), (3, .ref out), (2, .ref m), (1, .ref x), (0, .ref b)] [] S c z :=
  And.intro rfl (And.intro (v5 (i := 1) (by decide)) (And.intro rfl (And.intro (v5 (i := 2) (by decide)) (And.intro (fun _ => c_lightX (f := 0) h hc hz) (fun _ => c_lightX (f := 1) h hc hz)))))
