theorem s_Lmanner {S : MM} {x aE aC e0 e1 : Nat} {v w u1 u2 : Int32} {Q : Option Value → MM → Prop} (hB : B0 S x aE aC e0 e1) (hb : (v < 0 ∨ 2 ≤ v) ∨ (w < 0 ∨ 8 ≤ w) → Q (some (.int 1)) S) (ho : ∀ j i, j < 2 → v = nI j → i < 8 → w = nI i → ∀ S', Ex S S' (Kc S) → Q (some (.int 0)) S') : wL_manner [.ref x, .int v, .int w, .int u1, .int u2] S Q := by
  refine Exists.intro 3 (And.intro hB.1.1 (And.intro ⟨by decide, by decide⟩ (s_manner hB (fun h q => ?_) (fun j i hj e hi ei S' hS => ho j i hj e hi ei S' hS))))
  rw [hd1_1]; exact hb h
theorem s_Mmanner {S : MM} {m : Nat} {v w u1 u2 : Int32} {Q : Option Value → MM → Prop} (hM : MF S m) (y1 : u1 = 0 ∨ u1 = 1) (y2 : u2 = 0 ∨ u2 = 1) (hb : (v < 0 ∨ 2 ≤ v) ∨ (w < 0 ∨ 8 ≤ w) → Q none (pI S m 0 1)) (ho : ∀ j i, j < 2 → v = nI j → i < 8 → w = nI i → ∀ S', MR S S' m 0 → Q none S') : wX8_manner [.ref m, .int v, .int w, .int u1, .int u2] S Q := by
  have hm := hM.1
  obtain ⟨a, a1, a2, a3, a4, a5⟩ := hM.2.2.1 5 (by decide)
  obtain ⟨d, d1, d2, d3, d4, d5⟩ := hM.2.2.1 6 (by decide)
  have t : sI (pI S m 0 1) m 0 ≤ 0 → False := fun h => by rw [sI_pI, up2_self] at h; exact absurd h (by decide)
  refine Exists.intro 5 (And.intro ⟨by decide, by decide⟩ (s_MisEnd (fun h => if0 (And.intro hm (And.intro hm (And.intro (fun h0 => (t h0).elim) (fun _ => hb (Or.inl h)))))) (fun j hj e => if1 (And.intro ⟨by decide, by decide⟩ (s_MisPort (fun h => if0 (And.intro hm (And.intro hm (And.intro (fun h0 => (t h0).elim) (fun _ => hb (Or.inr h)))))) (fun i hi ei => if1 ?_))))))
  subst e ei
  have hv : ∀ q, sN S q = 16 → vp_in ((8 : Int32) * nI j + nI i) (sN S q) := fun q hq => by rw [ix8, hq]; exact in_nI (show 8 * j + i < 16 by omega) (by decide)
  refine And.intro hm (And.intro hm (And.intro (fun _ => ?_) (fun h => absurd (by rw [sI_pI, up2_self]; decide) h)))
  refine And.intro hm (useR a1 (And.intro a2 (And.intro (hv a a3) (And.intro y1 (And.intro hm (useR d1 (And.intro d2 (And.intro (hv d d3) (And.intro y2 (And.intro hm (And.intro ⟨by decide, by decide⟩ (Exists.intro 1 (And.intro hm ?_)))))))))))))
  refine ho j i hj rfl hi rfl _ ⟨rfl, rfl, rfl, ?_⟩
  rw [sI_pI, up2_ne (by simp), sI_pI, up2_ne (fun z => d5 z.1.symm), sI_pI, up2_ne (fun z => a5 z.1.symm), sI_pI, up2_self]
theorem c_mn407 {f b : Nat} {xs : Nat → Int32} {S : MM} {x m out c z : Nat} {v w u1 u2 k : Int32} (hM : MF S m) (y1 : u1 = 0 ∨ u1 = 1) (y2 : u2 = 0 ∨ u2 = 1) (hc : c ≤ 600002) (hz : z ≤ 7302232) (hk : k = if (v < 0 ∨ 2 ≤ v) ∨ (w < 0 ∨ 8 ≤ w) then 1 else 0) : wpn (kL_law b 5 xs) (f + 5) 407 [(5, .int k), (4, .int 0), (3, .ref out), (2, .ref m), (1, .ref x), (0, .ref b)] [.int u2, .int u1, .int w, .int v, .ref m] S c z := by
  refine And.intro hM.1 (And.intro ⟨hc, hz⟩ (s_Mmanner hM y1 y2 (fun q => And.intro hM.1 (And.intro ⟨hc, hz⟩ (s_thrown hM.1 ?_))) (fun j i hj e hi ei S2 hR => ?_)))
  · rw [if_pos q] at hk
    rw [sI_pI, up2_self, hk]
    exact And.intro (fun _ => And.intro rfl (And.intro (fun _ => rfl) (fun h => absurd (by decide) h))) (fun h => absurd rfl h)
  · rw [if_neg (fun q => q.elim (fun q => no_end q hj e) (fun q => no_8 q hi ei))] at hk
    have km : sK S2 m = 9 := by rw [hR.1]; exact hM.1
    refine And.intro km (And.intro ⟨hc, hz⟩ (s_thrown km ?_))
    rw [hR.2.2.2, hk]
    exact And.intro (fun _ => And.intro rfl (And.intro (fun _ => rfl) (fun h => absurd (by decide) h))) (fun h => absurd rfl h)
theorem c_mn406 {f b : Nat} {xs : Nat → Int32} {S : MM} {x m out c z : Nat} {v w u1 k : Int32} (hM : MF S m) (y1 : u1 = 0 ∨ u1 = 1) (hc : c ≤ 600002) (hz : z ≤ 7302232) (hk : k = if (v < 0 ∨ 2 ≤ v) ∨ (w < 0 ∨ 8 ≤ w) then 1 else 0) : wpn (kL_law b 5 xs) (f + 6) 406 [(5, .int k), (4, .int 0), (3, .ref out), (2, .ref m), (1, .ref x), (0, .ref b)] [.int u1, .int w, .int v, .ref m] S c z :=
  stp (show cI 0 (wpn (kL_law b 5 xs) (f + 5) 407) [(5, .int k), (4, .int 0), (3, .ref out), (2, .ref m), (1, .ref x), (0, .ref b)] [.int u1, .int w, .int v, .ref m] S c z from stI0 (c_mn407 (f := f) hM y1 (Or.inl rfl) hc hz hk))
theorem c_mn393 {f b : Nat} {xs : Nat → Int32} {S : MM} {x m out c z : Nat} {v w u1 k : Int32} (hM : MF S m) (y1 : u1 = 0 ∨ u1 = 1) (hc : c ≤ 600002) (hz : z ≤ 7302232) (hk : k = if (v < 0 ∨ 2 ≤ v) ∨ (w < 0 ∨ 8 ≤ w) then 1 else 0) : wpn (kL_law b 5 xs) (f + 7) 393 [(5, .int k), (4, .int 0), (3, .ref out), (2, .ref m), (1, .ref x), (0, .ref b)] [.int u1, .int w, .int v, .ref m] S c z :=
  And.intro rfl (And.intro (v5 (i := 4) (by decide)) (And.intro (fun _ => c_mn406 (f := f) (b := b) (xs := xs) (x := x) (out := out) hM y1 hc hz hk) (fun _ => stI0 (c_mn407 (f := f + 1) (b := b) (xs := xs) (x := x) (out := out) hM y1 (Or.inr rfl) hc hz hk))))
theorem c_mn392 {f b : Nat} {xs : Nat → Int32} {S : MM} {x m out c z : Nat} {v w k : Int32} (hM : MF S m) (hc : c ≤ 600002) (hz : z ≤ 7302232) (hk : k = if (v < 0 ∨ 2 ≤ v) ∨ (w < 0 ∨ 8 ≤ w) then 1 else 0) : wpn (kL_law b 5 xs) (f + 8) 392 [(5, .int k), (4, .int 0), (3, .ref out), (2, .ref m), (1, .ref x), (0, .ref b)] [.int w, .int v, .ref m] S c z :=
  stp (show cI 0 (wpn (kL_law b 5 xs) (f + 7) 393) [(5, .int k), (4, .int 0), (3, .ref out), (2, .ref m), (1, .ref x), (0, .ref b)] [.int w, .int v, .ref m] S c z from stI0 (c_mn393 (f := f) hM (Or.inl rfl) hc hz hk))
theorem c_mn361 {f b : Nat} {xs : Nat → Int32} {S : MM} {x aE aC e0 e1 m out c z : Nat} {u1 u2 : Int32} (h : GG S x aE aC e0 e1 m out) (hc : c + 1 ≤ 600002) (hz : z + 6 ≤ 7302232) : wpn (kL_law b 5 xs) (f + 9) 361 [(4, .int 0), (3, .ref out), (2, .ref m), (1, .ref x), (0, .ref b)] [.int u2, .int u1, .int (xs ((0 : Int32) + 2).toNatClampNeg), .int (xs ((0 : Int32) + 1).toNatClampNeg), .ref x] S c z := by
  obtain ⟨hB, hM, ho1, ho2⟩ := h
  refine And.intro ⟨hc, hz⟩ (s_Lmanner hB (fun q => ?_) (fun j i hj e hi ei S' hS => ?_))
  · have hk : (1 : Int32) = if (xs ((0 : Int32) + 1).toNatClampNeg < 0 ∨ 2 ≤ xs ((0 : Int32) + 1).toNatClampNeg) ∨ (xs ((0 : Int32) + 2).toNatClampNeg < 0 ∨ 8 ≤ xs ((0 : Int32) + 2).toNatClampNeg) then 1 else 0 := by rw [if_pos q]
    exact And.intro rfl (And.intro (v5 (i := 1) (by decide)) (And.intro rfl (And.intro (v5 (i := 2) (by decide)) (And.intro rfl (And.intro (v5 (i := 3) (by decide)) (And.intro (fun _ => c_mn392 (f := f) (b := b) (xs := xs) (x := x) (out := out) hM hc hz hk) (fun _ => stI0 (c_mn393 (f := f + 1) (b := b) (xs := xs) (x := x) (out := out) hM (Or.inr rfl) hc hz hk))))))))
  · have hk : (0 : Int32) = if (xs ((0 : Int32) + 1).toNatClampNeg < 0 ∨ 2 ≤ xs ((0 : Int32) + 1).toNatClampNeg) ∨ (xs ((0 : Int32) + 2).toNatClampNeg < 0 ∨ 8 ≤ xs ((0 : Int32) + 2).toNatClampNeg) then 1 else 0 := by rw [if_neg (fun q => q.elim (fun q => no_end q hj e) (fun q => no_8 q hi ei))]
    have hM2 := MF_Kc hM hS
    exact And.intro rfl (And.intro (v5 (i := 1) (by decide)) (And.intro rfl (And.intro (v5 (i := 2) (by decide)) (And.intro rfl (And.intro (v5 (i := 3) (by decide)) (And.intro (fun _ => c_mn392 (f := f) (b := b) (xs := xs) (x := x) (out := out) hM2 hc hz hk) (fun _ => stI0 (c_mn393 (f := f + 1) (b := b) (xs := xs) (x := x) (out := out) hM2 (Or.inr rfl) hc hz hk))))))))
theorem c_mn347 {f b : Nat} {xs : Nat → Int32} {S : MM} {x aE aC e0 e1 m out c z : Nat} {u1 : Int32} (h : GG S x aE aC e0 e1 m out) (hc : c + 1 ≤ 600002) (hz : z + 6 ≤ 7302232) : wpn (kL_law b 5 xs) (f + 11) 347 [(4, .int 0), (3, .ref out), (2, .ref m), (1, .ref x), (0, .ref b)] [.int u1, .int (xs ((0 : Int32) + 2).toNatClampNeg), .int (xs ((0 : Int32) + 1).toNatClampNeg), .ref x] S c z :=
  And.intro rfl (And.intro (v5 (i := 4) (by decide)) (And.intro (fun _ => stp (show cI 0 (wpn (kL_law b 5 xs) (f + 9) 361) [(4, .int 0), (3, .ref out), (2, .ref m), (1, .ref x), (0, .ref b)] [.int u1, .int (xs ((0 : Int32) + 2).toNatClampNeg), .int (xs ((0 : Int32) + 1).toNatClampNeg), .ref x] S c z from stI0 (c_mn361 (f := f) h hc hz))) (fun _ => stI0 (c_mn361 (f := f + 1) h hc hz))))
theorem c_manner {b : Nat} {xs : Nat → Int32} {S : MM} {x aE aC e0 e1 m out c z : Nat} (h : GG S x aE aC e0 e1 m out) (hc : c + 1 ≤ 600002) (hz : z + 6 ≤ 7302232) : wpn (kL_law b 5 xs) 13 320 [(4, .int 0), (3, .ref out), (2, .ref m), (1, .ref x), (0, .ref b)] [] S c z :=
  And.intro rfl (And.intro (v5 (i := 1) (by decide)) (And.intro rfl (And.intro (v5 (i := 2) (by decide)) (And.intro rfl (And.intro (v5 (i := 3) (by decide)) (And.intro (fun _ => stp (show cI 0 (wpn (kL_law b 5 xs) 11 347) [(4, .int 0), (3, .ref out), (2, .ref m), (1, .ref x), (0, .ref b)] [.int (xs ((0 : Int32) + 2).toNatClampNeg), .int (xs ((0 : Int32) + 1).toNatClampNeg), .ref x] S c z from stI0 (c_mn347 (f := 0) h hc hz))) (fun _ => stI0 (c_mn347 (f := 1) h hc hz))))))))
-- port
theorem s_isWord {S : MM} {v : Int32} {Q : Option Value → MM → Prop} (hb : v < 0 ∨ 65535 < v → Q (some (.int 0)) S) (ho : ¬ v < 0 → ¬ 65535 < v → Q (some (.int 1)) S) : wX7_isWord [.int v] S Q :=
  Exists.intro 3 (And.intro (fun h0 => And.intro (Or.inl rfl) (hb (Or.inl h0))) (fun h0 => And.intro (fun h1 => And.intro (Or.inl rfl) (hb (Or.inr h1))) (fun h1 => And.intro (Or.inr rfl) (ho h0 h1))))
def pB (v w k n : Int32) : Prop := (v < 0 ∨ 2 ≤ v) ∨ (w < 0 ∨ 8 ≤ w) ∨ (k < 0 ∨ 65535 < k) ∨ (n < 0 ∨ 65535 < n)
theorem s_port {S : MM} {x aE aC e0 e1 : Nat} {v w k n : Int32} {Q : Option Value → MM → Prop} {X : String → MM → Prop} (hB : B0 S x aE aC e0 e1) (hb : pB v w k n → X eI S) (ho : ¬ pB v w k n → ∀ S', Ex S S' (Kc S) → Q none S') : wX7_port [.ref x, .int v, .int w, .int k, .int n] S Q X := by
  have hB' := hB
  obtain ⟨hs, hz, hE0, hE1, hC⟩ := hB
  obtain ⟨b1, b2, b3, b4, b5, b6, b7, b8, b9, b10⟩ := hs
  have t : pB v w k n → ((0 : Nat) + 1 ≤ 1 ∧ (0 : Nat) + 6 ≤ 6) ∧ X eI S := fun h => ⟨⟨by decide, by decide⟩, hb h⟩
  refine Exists.intro 5 (And.intro ⟨by decide, by decide⟩ (s_isEnd2 (fun h => if0 (t (Or.inl h))) (fun j hj e => if1 (And.intro ⟨by decide, by decide⟩ (s_isPort (fun h => if0 (t (Or.inr (Or.inl h)))) (fun i hi ei => if1 (And.intro ⟨by decide, by decide⟩ (s_isWord (fun h => if0 (t (Or.inr (Or.inr (Or.inl h))))) (fun k1 k2 => if1 (And.intro ⟨by decide, by decide⟩ (s_isWord (fun h => if0 (t (Or.inr (Or.inr (Or.inr h))))) (fun n1 n2 => if1 ?_))))))))))))
  have nb : ¬ pB v w k n := fun q => by
    rcases q with q | q | q | q
    · exact no_end q hj e
    · exact no_8 q hi ei
    · exact q.elim k1 k2
    · exact q.elim n1 n2
  subst e ei
  obtain ⟨e, pa, p, sys, g1, g2, g3, g4, g5, g6, g7, -⟩ := port_at hB' hj hi
  obtain ⟨gv, ⟨t1, r1, r2⟩, -⟩ := g7
  refine And.intro b1 (useR b2 (And.intro b4 (And.intro (by rw [b5]; exact in_nI hj (by decide)) (useR g1 (And.intro g2 (useR g3 (And.intro g4 (And.intro (by rw [g5]; exact in_nI hi (by decide)) (useR g6 (And.intro gv.1 (useR r1 (And.intro r2.1 (And.intro r2.1 ?_)))))))))))))
  have fin : ∀ u, wX6_setBits [.ref t1, .int 4, .int u] (pI (pI S t1 1 k) t1 2 n) (fun v S' => ldA 0 (cV 0 7 wX7_noteChange 0 0 1 6 (rV Q)) [(5, .ref t1), (0, .ref x), (1, .int (nI j)), (2, .int (nI i)), (3, .int k), (4, .int n)] (v.toList ++ []) S' 0 0) := fun u => s_setBits r2.1 (fun w1 => And.intro b1 (And.intro ⟨by decide, by decide⟩ (s_nc (S := pI (pI (pI S t1 1 k) t1 2 n) t1 4 w1) ⟨b1, b2, b3, b4, b5, b6, b7, b8, b9, b10⟩ hE0.1.1 hE1.1.1 (Cbs_t (Cbs_t (Cbs_t (Cs_Cbs hC) (by rw [r2.1]; decide) (by rw [r2.1]; decide)) (by rw [sK_pI, r2.1]; decide) (by rw [sK_pI, r2.1]; decide)) (by rw [sK_pI, sK_pI, r2.1]; decide) (by rw [sK_pI, sK_pI, r2.1]; decide)) (ho nb _ ((((Ex.rf.pI (fun _ => Kc_of r2.1 (by decide))).pI (fun _ => Kc_of r2.1 (by decide))).pI (fun _ => Kc_of r2.1 (by decide))).pI (fun _ => Kc_of b1 (by decide)))))))
  exact And.intro (fun _ => And.intro r2.1 (And.intro ⟨by decide, by decide⟩ (fin 0))) (fun _ => And.intro r2.1 (And.intro ⟨by decide, by decide⟩ (fin 1)))
