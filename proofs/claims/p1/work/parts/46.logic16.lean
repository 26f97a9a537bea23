-- look
def lkN (w : Nat) : Int32 := if w = 1 then 100 else if w = 6 ∨ w = 8 then -1 else 0
theorem s_isLit0 {S : MM} {p : Nat} {Q : Option Value → MM → Prop} (hv : P0v S p) (h : Q (some (.int 0)) S) : wX5_isLit [.ref p] S Q :=
  Exists.intro 3 (And.intro hv.1 (And.intro (fun _ => And.intro (Or.inl rfl) h) (fun h0 => absurd hv.2.2.1 h0)))
def eB (v w : Int32) : Prop := (v < 0 ∨ 2 ≤ v) ∨ (w < 0 ∨ 8 ≤ w)
theorem s_look {S : MM} {x aE aC e0 e1 : Nat} {v w u : Int32} {Q : Option Value → MM → Prop} {X : String → MM → Prop} (hB : B0 S x aE aC e0 e1) (hb : eB v w → X nseC S) (hd : ¬ eB v w → u.toInt < 0 ∨ 15 < u.toInt → Q (some (.int (-1))) S) (hj : ¬ eB v w → ∀ t : Nat, t ≤ 15 → u.toInt = t → Q (some (.int (lkN t))) S) : wX7_look [.ref x, .int v, .int w, .int u] S Q X := by
  have hB' := hB
  obtain ⟨hs, hz, hE0, hE1, hC⟩ := hB
  obtain ⟨b1, b2, b3, b4, b5, b6, b7, b8, b9, b10⟩ := hs
  have tt : eB v w → ((0 : Nat) + 1 ≤ 1 ∧ (0 : Nat) + 6 ≤ 6) ∧ X nseC S := fun h => ⟨⟨by decide, by decide⟩, hb h⟩
  refine Exists.intro 6 (And.intro ⟨by decide, by decide⟩ (s_isEnd2 (fun h => if0 (tt (Or.inl h))) (fun j hj2 e => if1 (And.intro ⟨by decide, by decide⟩ (s_isPort (fun h => if0 (tt (Or.inr h))) (fun i hi ei => if1 ?_))))))
  have nb : ¬ eB v w := fun q => q.elim (fun q => no_end q hj2 e) (fun q => no_8 q hi ei)
  subst e ei
  obtain ⟨e, pa, p, sys, g1, g2, g3, g4, g5, g6, g7, -⟩ := port_at hB' hj2 hi
  obtain ⟨gv, ⟨t1, r1, r2⟩, ⟨t2, q1, q2⟩, -⟩ := g7
  have gv' := gv
  obtain ⟨k0, k2, k3, k4, k5, k10, k11, k12, k16, k17⟩ := gv
  refine And.intro b1 (useR b2 (And.intro b4 (And.intro (by rw [b5]; exact in_nI hj2 (by decide)) (useR g1 (And.intro g2 (useR g3 (And.intro g4 (And.intro (by rw [g5]; exact in_nI hi (by decide)) (useR g6 ?_)))))))))
  refine And.intro (fun h => hd nb h) (fun t et hle => ?_)
  have ht : t ≤ 15 := by omega
  have hq := hj nb t ht (by omega)
  match t, ht, hq with
  | 0, _, hq => exact And.intro k0 (useR r1 (And.intro r2.1 (by show Q (some (.int (sI S t1 1))) S; rw [r2.2.2.1]; exact hq)))
  | 1, _, hq => exact And.intro k0 (useR r1 (And.intro r2.1 (by show Q (some (.int (sI S t1 2))) S; rw [r2.2.2.2.1]; exact hq)))
  | 2, _, hq => exact And.intro k0 (useR r1 (And.intro r2.1 (by show Q (some (.int (sI S t1 4))) S; rw [r2.2.2.2.2.2]; exact hq)))
  | 3, _, hq => exact And.intro k0 (by show Q (some (.int (sI S p 3))) S; rw [k3]; exact hq)
  | 4, _, hq => exact And.intro k0 (by show Q (some (.int (sI S p 4))) S; rw [k4]; exact hq)
  | 5, _, hq => exact And.intro k0 (by show Q (some (.int (sI S p 5))) S; rw [k5]; exact hq)
  | 6, _, hq => exact And.intro k0 (And.intro ⟨by decide, by decide⟩ (s_isLit0 gv' (if0 hq)))
  | 7, _, hq => exact And.intro k0 (And.intro ⟨by decide, by decide⟩ (s_isLit0 gv' (if0 hq)))
  | 8, _, hq => exact And.intro k0 (by show Q (some (.int (sI S p 2))) S; rw [k2]; exact hq)
  | 9, _, hq => exact And.intro k0 (useR q1 (And.intro q2.1 (by show Q (some (.int (sI S t2 0))) S; rw [q2.2.1]; exact hq)))
  | 10, _, hq => exact And.intro k0 (useR q1 (And.intro q2.1 (by show Q (some (.int (sI S t2 1))) S; rw [q2.2.2.1]; exact hq)))
  | 11, _, hq => exact And.intro k0 (useR q1 (And.intro q2.1 (by show Q (some (.int (sI S t2 2))) S; rw [q2.2.2.2.1]; exact hq)))
  | 12, _, hq => exact And.intro k0 (useR q1 (And.intro q2.1 (by show Q (some (.int (sI S t2 3))) S; rw [q2.2.2.2.2.1]; exact hq)))
  | 13, _, hq => exact And.intro k0 (useR q1 (And.intro q2.1 (by show Q (some (.int (sI S t2 4))) S; rw [q2.2.2.2.2.2]; exact hq)))
  | 14, _, hq => exact And.intro k0 (by show Q (some (.int (sI S p 16))) S; rw [k16]; exact hq)
  | 15, _, hq => exact And.intro k0 (by show Q (some (.int (sI S p 17))) S; rw [k17]; exact hq)
  | n + 16, h, _ => omega
theorem s_Llook {S : MM} {x aE aC e0 e1 out : Nat} {v w u : Int32} {Q : Option Value → MM → Prop} (hB : B0 S x aE aC e0 e1) (o1 : sK S out = 18) (o2 : sN S out = 1) (hb : eB v w → Q (some (.int 1)) S) (hd : ¬ eB v w → u.toInt < 0 ∨ 15 < u.toInt → Q (some (.int 0)) (pJ S out 0 (Int32.toInt64 (-1)))) (hj : ¬ eB v w → ∀ t : Nat, t ≤ 15 → u.toInt = t → Q (some (.int 0)) (pJ S out 0 (Int32.toInt64 (lkN t)))) : wL_look [.ref x, .int v, .int w, .int u, .ref out] S Q := by
  refine Exists.intro 3 (And.intro hB.1.1 (And.intro ⟨by decide, by decide⟩ (s_look hB (fun h q => ?_) (fun nb h => ?_) (fun nb t ht e => ?_))))
  · rw [hd1_1]; exact hb h
  · exact And.intro o1 (And.intro (by show vp_in 0 (sN S out); rw [o2]; exact in_0 (by decide)) (hd nb h))
  · exact And.intro o1 (And.intro (by show vp_in 0 (sN S out); rw [o2]; exact in_0 (by decide)) (hj nb t ht e))
theorem s_Mbits0 {S : MM} {m y : Nat} {Q : Option Value → MM → Prop} (hM : MF S m) (hy : y < 16) (h : Q (some (.int 0)) S) : wX8_bits [.ref m, .int (nI y)] S Q := by
  have hm := hM.1
  obtain ⟨a9, p9, q9, l9, f9, -⟩ := hM.2.2.1 9 (by decide)
  obtain ⟨a5, p5, q5, l5, f5, -⟩ := hM.2.2.1 5 (by decide)
  obtain ⟨a6, p6, q6, l6, f6, -⟩ := hM.2.2.1 6 (by decide)
  obtain ⟨a3, p3, q3, l3, f3, -⟩ := hM.2.2.1 3 (by decide)
  have hv : ∀ q, sN S q = 16 → vp_in (nI y) (sN S q) := fun q hq => by rw [hq]; exact in_nI hy (by decide)
  have e9 : sI S a9 (nI y).toNatClampNeg = 0 := by rw [f9]; simp [fM, f0M]
  have e5 : sI S a5 (nI y).toNatClampNeg = 0 := by rw [f5]; simp [fM, f0M]
  have e6 : sI S a6 (nI y).toNatClampNeg = 0 := by rw [f6]; simp [fM, f0M]
  have e3 : sI S a3 (nI y).toNatClampNeg = 0 := by rw [f3]; simp [fM, f0M]
  refine Exists.intro 13 (And.intro hm (useR p9 (And.intro q9 (And.intro (hv a9 l9) ?_))))
  show stI 2 _ [(0, .ref m), (1, .int (nI y))] [.int (sI S a9 (nI y).toNatClampNeg)] S 0 0
  rw [e9]
  refine And.intro hm (useR p5 (And.intro q5 (And.intro (hv a5 l5) (And.intro (fun _ => ?_) (fun h => absurd e5 h)))))
  refine And.intro hm (useR p6 (And.intro q6 (And.intro (hv a6 l6) (And.intro (fun _ => ?_) (fun h => absurd e6 h)))))
  refine And.intro hm (useR p3 (And.intro q3 (And.intro (hv a3 l3) (And.intro (fun _ => ?_) (fun h => absurd (by rw [e3]; decide) h)))))
  exact And.intro (fun _ => And.intro (fun _ => And.intro (fun h => absurd h (by decide)) (fun _ => h)) (fun h => absurd (by decide) h)) (fun h => absurd (by decide) h)
theorem e32 {k : Kt} {m : Nat} {v w u : Int32} {S : MM} {c z : Nat} (h : stI 4 k [(0, .ref m), (1, .int v), (2, .int w), (3, .int u)] [.int ((8 : Int32) * v + w)] S c z) : cI 8 (ldI 1 (bop (fun x y => x * y) (ldI 2 (bop (fun x y => x + y) (stI 4 k))))) [(0, .ref m), (1, .int v), (2, .int w), (3, .int u)] [] S c z := h
theorem s_Mlook {S : MM} {m : Nat} {v w u : Int32} {Q : Option Value → MM → Prop} (hM : MF S m) (hb : eB v w → Q (some (.int 0)) (pI S m 0 1)) (hd : ¬ eB v w → u.toInt < 0 ∨ 15 < u.toInt → Q (some (.int (-1))) S) (hj : ¬ eB v w → ∀ t : Nat, t ≤ 15 → u.toInt = t → Q (some (.int (lkN t))) S) : wX8_look [.ref m, .int v, .int w, .int u] S Q := by
  have hm := hM.1
  have hz := hM.2.1
  obtain ⟨a3, p3, q3, l3, f3, -⟩ := hM.2.2.1 3 (by decide)
  obtain ⟨a4, p4, q4, l4, f4, -⟩ := hM.2.2.1 4 (by decide)
  obtain ⟨a7, p7, q7, l7, f7, -⟩ := hM.2.2.1 7 (by decide)
  obtain ⟨a8, p8, q8, l8, f8, -⟩ := hM.2.2.1 8 (by decide)
  obtain ⟨a9, p9, q9, l9, f9, -⟩ := hM.2.2.1 9 (by decide)
  obtain ⟨a12, p12, q12, l12, f12, -⟩ := hM.2.2.1 12 (by decide)
  obtain ⟨a13, p13, q13, l13, f13, -⟩ := hM.2.2.1 13 (by decide)
  obtain ⟨a11, p11, q11, l11, f11, -⟩ := hM.2.2.1 11 (by decide)
  obtain ⟨a18, p18, q18, l18, f18, -⟩ := hM.2.2.1 18 (by decide)
  obtain ⟨a16, p16, q16, l16, f16, -⟩ := hM.2.2.1 16 (by decide)
  obtain ⟨a17, p17, q17, l17, f17, -⟩ := hM.2.2.1 17 (by decide)
  have hsame : pI S m 0 0 = S := pI_same (hz 0)
  have tb : sI (pI S m 0 1) m 0 ≤ 0 → False := fun h => by rw [sI_pI, up2_self] at h; exact absurd h (by decide)
  refine Exists.intro 8 (And.intro ⟨by decide, by decide⟩ (s_MisEnd (fun h => if0 (And.intro hm (And.intro hm (And.intro (fun h0 => (tb h0).elim) (fun _ => hb (Or.inl h)))))) (fun j hj2 e => if1 (And.intro ⟨by decide, by decide⟩ (s_MisPort (fun h => if0 (And.intro hm (And.intro hm (And.intro (fun h0 => (tb h0).elim) (fun _ => hb (Or.inr h)))))) (fun i hi ei => if1 ?_))))))
  have nb : ¬ eB v w := fun q => q.elim (fun q => no_end q hj2 e) (fun q => no_8 q hi ei)
  subst e ei
  refine And.intro hm ?_
  show ldA 0 _ [(0, .ref m), (1, .int (nI j)), (2, .int (nI i)), (3, .int u)] [] (pI S m 0 0) 0 0
  rw [hsame]
  refine And.intro hm (And.intro (fun _ => ?_) (fun h => absurd (by rw [hz]; decide) h))
  refine stp ?_
  show bX8_look_32 Q (wpn (kX8_look Q) 4) [(0, .ref m), (1, .int (nI j)), (2, .int (nI i)), (3, .int u)] [] S 0 0
  unfold bX8_look_32
  refine e32 ?_
  rw [ix8]
  have hy : 8 * j + i < 16 := by omega
  generalize 8 * j + i = y at hy
  have hv : ∀ q, sN S q = 16 → vp_in (nI y) (sN S q) := fun q hq => by rw [hq]; exact in_nI hy (by decide)
  refine And.intro (fun h => hd nb h) (fun t et hle => ?_)
  have ht : t ≤ 15 := by omega
  have hq := hj nb t ht (by omega)
  have hu : u = nI t := w_of (by omega) (by omega)
  subst hu
  have hpt : ∀ t, t < 5 → (5 : Int32) * nI y + nI (t + 9) - 9 = nI (5 * y + t) := fun t ht => by
    rw [show (5 : Int32) = nI 5 from rfl, show (9 : Int32) = nI 9 from rfl, pk_mul, nI_add, pk_sub (by omega)]
    congr 1
  have pt : ∀ t, t < 5 → Q (some (.int 0)) S → aI 10 (rI Q) [(4, .int (nI y)), (0, .ref m), (1, .int (nI j)), (2, .int (nI i)), (3, .int (nI (t + 9)))] [.int ((5 : Int32) * nI y + nI (t + 9) - 9), .ref a18] S 0 0 := fun t ht hq => And.intro q18 (And.intro (by rw [hpt t ht, l18]; exact in_nI (show 5 * y + t < 80 by omega) (by decide)) (by
    show Q (some (.int (sI S a18 ((5 : Int32) * nI y + nI (t + 9) - 9).toNatClampNeg))) S
    rw [f18]
    exact (by simpa [fM, f0M] using hq)))
  match t, ht, hq with
  | 0, _, hq => exact And.intro hm (useR p3 (And.intro q3 (And.intro (hv a3 l3) (by
      show Q (some (.int (sI S a3 (nI y).toNatClampNeg))) S
      rw [f3]; exact (by simpa [fM, f0M, lkN] using hq)))))
  | 1, _, hq => exact And.intro hm (useR p4 (And.intro q4 (And.intro (hv a4 l4) (by
      show Q (some (.int (sI S a4 (nI y).toNatClampNeg))) S
      rw [f4]; have : fM 16 4 (nI y).toNatClampNeg = 100 := by rw [cl_nI (by omega)]; unfold fM; rw [if_pos ⟨rfl, hy⟩]
      rw [this]; exact hq))))
  | 2, _, hq => exact And.intro hm (And.intro ⟨by decide, by decide⟩ (s_Mbits0 hM hy hq))
  | 3, _, hq => exact And.intro hm (useR p7 (And.intro q7 (And.intro (hv a7 l7) (by
      show Q (some (.int (sI S a7 (nI y).toNatClampNeg))) S
      rw [f7]; exact (by simpa [fM, f0M, lkN] using hq)))))
  | 4, _, hq => exact And.intro hm (useR p8 (And.intro q8 (And.intro (hv a8 l8) (by
      show Q (some (.int (sI S a8 (nI y).toNatClampNeg))) S
      rw [f8]; exact (by simpa [fM, f0M, lkN] using hq)))))
  | 5, _, hq => exact And.intro hm (useR p9 (And.intro q9 (And.intro (hv a9 l9) (by
      show Q (some (.int (sI S a9 (nI y).toNatClampNeg))) S
      rw [f9]; exact (by simpa [fM, f0M, lkN] using hq)))))
  | 6, _, hq => exact And.intro hm (useR p12 (And.intro q12 (And.intro (hv a12 l12) (by
      show Q (some (.int (sI S a12 (nI y).toNatClampNeg))) S
      rw [f12]; have : fM 16 12 (nI y).toNatClampNeg = -1 := by rw [cl_nI (by omega)]; unfold fM; rw [if_neg (by simp), if_pos ⟨by simp, hy⟩]
      rw [this]; exact hq))))
  | 7, _, hq => exact And.intro hm (useR p13 (And.intro q13 (And.intro (hv a13 l13) (And.intro (fun _ => hq) (fun h => absurd (by rw [f13]; simp [fM, f0M]) h)))))
  | 8, _, hq => exact And.intro hm (useR p11 (And.intro q11 (And.intro (hv a11 l11) (by
      show Q (some (.int (sI S a11 (nI y).toNatClampNeg))) S
      rw [f11]; have : fM 16 11 (nI y).toNatClampNeg = -1 := by rw [cl_nI (by omega)]; unfold fM; rw [if_neg (by simp), if_pos ⟨by simp, hy⟩]
      rw [this]; exact hq))))
  | 9, _, hq => exact And.intro hm (useR p18 (pt 0 (by decide) hq))
  | 10, _, hq => exact And.intro hm (useR p18 (pt 1 (by decide) hq))
  | 11, _, hq => exact And.intro hm (useR p18 (pt 2 (by decide) hq))
  | 12, _, hq => exact And.intro hm (useR p18 (pt 3 (by decide) hq))
  | 13, _, hq => exact And.intro hm (useR p18 (pt 4 (by decide) hq))
  | 14, _, hq => exact And.intro hm (useR p16 (And.intro q16 (And.intro (hv a16 l16) (by
      show Q (some (.int (sI S a16 (nI y).toNatClampNeg))) S
      rw [f16]; exact (by simpa [fM, f0M, lkN] using hq)))))
  | 15, _, hq => exact And.intro hm (useR p17 (And.intro q17 (And.intro (hv a17 l17) (by
      show Q (some (.int (sI S a17 (nI y).toNatClampNeg))) S
      rw [f17]; exact (by simpa [fM, f0M, lkN] using hq)))))
  | n + 16, h, _ => omega
theorem c_look {b : Nat} {xs : Nat → Int32} {S : MM} {x aE aC e0 e1 m out c z : Nat} (h : GG S x aE aC e0 e1 m out) (hc : c + 1 ≤ 600002) (hz : z + 6 ≤ 7302232) : wpn (kL_law b 5 xs) 9 884 [(4, .int 0), (3, .ref out), (2, .ref m), (1, .ref x), (0, .ref b)] [] S c z := by
  obtain ⟨hB, hM, ho1, ho2⟩ := h
  refine And.intro rfl (And.intro (v5 (i := 1) (by decide)) (And.intro rfl (And.intro (v5 (i := 2) (by decide)) (And.intro rfl (And.intro (v5 (i := 3) (by decide)) (And.intro ⟨hc, hz⟩ (s_Llook hB ho1 ho2 (fun hb => ?_) (fun nb hu => ?_) (fun nb t ht e => ?_))))))))
  · refine And.intro rfl (And.intro (v5 (i := 1) (by decide)) (And.intro rfl (And.intro (v5 (i := 2) (by decide)) (And.intro rfl (And.intro (v5 (i := 3) (by decide)) (And.intro hM.1 (And.intro ⟨hc, hz⟩ (s_Mlook hM (fun _ => And.intro hM.1 (And.intro ⟨hc, hz⟩ (s_thrown hM.1 ?_))) (fun nb => absurd hb nb) (fun nb => absurd hb nb)))))))))
    rw [sI_pI, up2_self]
    exact And.intro (fun _ => And.intro (fun h => absurd h (by decide)) (fun _ => And.intro rfl (And.intro (fun _ => rfl) (fun h => absurd (by decide) h)))) (fun h => absurd rfl h)
  · have hM2 : MF (pJ S out 0 (Int32.toInt64 (-1))) m := MF_pJ hM ho1
    have jO : sJ (pJ S out 0 (Int32.toInt64 (-1))) out 0 = Int32.toInt64 (-1) := by rw [sJ_pJ, up2_self]
    have kO : sK (pJ S out 0 (Int32.toInt64 (-1))) out = 18 := ho1
    have nO : sN (pJ S out 0 (Int32.toInt64 (-1))) out = 1 := ho2
    generalize pJ S out 0 (Int32.toInt64 (-1)) = S2 at hM2 jO kO nO
    refine And.intro rfl (And.intro (v5 (i := 1) (by decide)) (And.intro rfl (And.intro (v5 (i := 2) (by decide)) (And.intro rfl (And.intro (v5 (i := 3) (by decide)) (And.intro hM2.1 (And.intro ⟨hc, hz⟩ (s_Mlook hM2 (fun q => absurd q nb) (fun _ _ => ?_) (fun _ t ht e => ?_)))))))))
    · refine And.intro hM2.1 (And.intro ⟨hc, hz⟩ (s_thrown hM2.1 ?_))
      rw [hM2.2.1 0]
      refine And.intro (fun _ => And.intro (fun _ => And.intro kO (And.intro (by rw [nO]; exact in_0 (by decide)) ?_)) (fun h => absurd rfl h)) (fun h => absurd rfl h)
      show ifz (fun x => x = 0) _ _ _ [.int (lg_cmp (sJ S2 out 0) (Int32.toInt64 (-1)))] S2 _ _
      rw [jO, lg_self]
      exact And.intro (fun _ => And.intro rfl (And.intro (fun _ => rfl) (fun h => absurd (by decide) h))) (fun h => absurd rfl h)
    · exfalso; omega
  · have hM2 : MF (pJ S out 0 (Int32.toInt64 (lkN t))) m := MF_pJ hM ho1
    have jO : sJ (pJ S out 0 (Int32.toInt64 (lkN t))) out 0 = Int32.toInt64 (lkN t) := by rw [sJ_pJ, up2_self]
    have kO : sK (pJ S out 0 (Int32.toInt64 (lkN t))) out = 18 := ho1
    have nO : sN (pJ S out 0 (Int32.toInt64 (lkN t))) out = 1 := ho2
    generalize pJ S out 0 (Int32.toInt64 (lkN t)) = S2 at hM2 jO kO nO
    refine And.intro rfl (And.intro (v5 (i := 1) (by decide)) (And.intro rfl (And.intro (v5 (i := 2) (by decide)) (And.intro rfl (And.intro (v5 (i := 3) (by decide)) (And.intro hM2.1 (And.intro ⟨hc, hz⟩ (s_Mlook hM2 (fun q => absurd q nb) (fun _ q => ?_) (fun _ t' ht' e' => ?_)))))))))
    · exfalso; omega
    · have : t' = t := by omega
      subst this
      refine And.intro hM2.1 (And.intro ⟨hc, hz⟩ (s_thrown hM2.1 ?_))
      rw [hM2.2.1 0]
      refine And.intro (fun _ => And.intro (fun _ => And.intro kO (And.intro (by rw [nO]; exact in_0 (by decide)) ?_)) (fun h => absurd rfl h)) (fun h => absurd rfl h)
      show ifz (fun x => x = 0) _ _ _ [.int (lg_cmp (sJ S2 out 0) (Int32.toInt64 (lkN t')))] S2 _ _
      rw [jO, lg_self]
      exact And.intro (fun _ => And.intro rfl (And.intro (fun _ => rfl) (fun h => absurd (by decide) h))) (fun h => absurd rfl h)
