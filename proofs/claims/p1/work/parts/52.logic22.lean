-- tick of the reference
def MA (S : MM) (m : Nat) : Prop := sK S m = 9 ∧ (∀ j, j ≠ 43 → j ≠ 44 → sI S m j = 0) ∧ ∀ k ∈ DM, ∃ a, sR S m k = some a ∧ sK S a = kdM k ∧ sN S a = lnM k ∧ (∀ j, sI S a j = fM 16 k j) ∧ a ≠ m
theorem MA_F {S : MM} {m : Nat} (h : MF S m) : MA S m := ⟨h.1, fun j _ _ => h.2.1 j, h.2.2.1⟩
theorem MA_pI {S : MM} {m j : Nat} {v : Int32} (h : MA S m) (hj : j = 43 ∨ j = 44) : MA (pI S m j v) m := by
  obtain ⟨h1, h2, h3⟩ := h
  refine ⟨h1, fun i i1 i2 => ?_, fun k hk => ?_⟩
  · rw [sI_pI, up2_ne (fun z => by rcases hj with q | q; exact i1 (z.2.trans q); exact i2 (z.2.trans q))]
    exact h2 i i1 i2
  · obtain ⟨a, a1, a2, a3, a4, a5⟩ := h3 k hk
    exact ⟨a, a1, a2, a3, fun i => by rw [sI_pI, up2_ne (fun z => a5 z.1)]; exact a4 i, a5⟩
theorem f_z {k : Nat} (h : k ≠ 4 ∧ k ≠ 11 ∧ k ≠ 12 ∧ k ≠ 21 ∧ k ≠ 1 ∧ k ≠ 2) (j : Nat) : fM 16 k j = 0 := by
  unfold fM f0M
  rw [if_neg (fun z => h.1 z.1), if_neg (fun z => by rcases z.1 with q | q | q; exact h.2.1 q; exact h.2.2.1 q; exact h.2.2.2.1 q), if_neg h.2.2.2.2.1, if_neg h.2.2.2.2.2]
/-- an array of the reference that holds 0 throughout -/
theorem MA_z {S : MM} {m k : Nat} (h : MA S m) (hk : k ∈ DM) (hz : k ≠ 4 ∧ k ≠ 11 ∧ k ≠ 12 ∧ k ≠ 21 ∧ k ≠ 1 ∧ k ≠ 2) : ∃ a, sR S m k = some a ∧ sK S a = kdM k ∧ sN S a = lnM k ∧ ∀ j, sI S a j = 0 := by
  obtain ⟨a, a1, a2, a3, a4, -⟩ := h.2.2 k hk
  exact ⟨a, a1, a2, a3, fun j => by rw [a4]; exact f_z hz j⟩
theorem s_TisLit {S : MM} {m j : Nat} {Q : Option Value → MM → Prop} (hM : MA S m) (hj : j < 16) (h : Q (some (.int 0)) S) : wX8_isLit [.ref m, .int (nI j)] S Q := by
  obtain ⟨a, p, q, l, f⟩ := MA_z hM (k := 7) (by decide) (by decide)
  exact Exists.intro 3 (And.intro hM.1 (useR p (And.intro q (And.intro (by rw [l]; exact in_nI hj (by decide)) (ifT (f _) (And.intro (Or.inl rfl) h))))))
theorem s_Tages {S : MM} {m j : Nat} {Q : Option Value → MM → Prop} (hM : MA S m) (hj : j < 16) (h : Q none S) : wX8_ages [.ref m, .int (nI j)] S Q := by
  obtain ⟨a, p, q, l, f⟩ := MA_z hM (k := 7) (by decide) (by decide)
  have hv : vp_in (nI j) (sN S a) := by rw [l]; exact in_nI hj (by decide)
  exact Exists.intro 2 (And.intro hM.1 (useR p (And.intro q (And.intro hv (ifF (fun z => absurd ((f _).symm.trans z) (by decide)) (And.intro hM.1 (useR p (And.intro q (And.intro hv (ifF (fun z => absurd ((f _).symm.trans z) (by decide)) h))))))))))
theorem s_Tfits {S : MM} {m j : Nat} {Q : Option Value → MM → Prop} (hM : MA S m) (hj : j < 16) (h : Q (some (.int 0)) S) : wX8_fits [.ref m, .int (nI j)] S Q := by
  obtain ⟨a, p, q, l, f⟩ := MA_z hM (k := 7) (by decide) (by decide)
  have hv : vp_in (nI j) (sN S a) := by rw [l]; exact in_nI hj (by decide)
  exact Exists.intro 4 (And.intro hM.1 (useR p (And.intro q (And.intro hv (ifF (fun z => absurd ((f _).symm.trans z) (by decide)) (And.intro hM.1 (useR p (And.intro q (And.intro hv (ifF (fun z => absurd ((f _).symm.trans z) (by decide)) (And.intro (Or.inl rfl) h)))))))))))
theorem s_Tsteps {S : MM} {m j : Nat} {Q : Option Value → MM → Prop} (hM : MA S m) (hj : j < 16) (h : Q none S) : wX8_steps [.ref m, .int (nI j)] S Q :=
  Exists.intro 2 (And.intro hM.1 (And.intro ⟨by decide, by decide⟩ (s_TisLit hM hj (if0 h))))
theorem s_Tputs {S : MM} {m j : Nat} {Q : Option Value → MM → Prop} (hM : MA S m) (hj : j < 16) (h : Q none S) : wX8_puts [.ref m, .int (nI j)] S Q :=
  Exists.intro 2 (And.intro hM.1 (And.intro ⟨by decide, by decide⟩ (s_TisLit hM hj (if0 h))))
theorem s_Tagrees {S : MM} {m j : Nat} {Q : Option Value → MM → Prop} (hM : MA S m) (hj : j < 8) (h : Q (some (.int 0)) S) : wX8_agrees [.ref m, .int (nI j)] S Q := by
  obtain ⟨a, p, q, l, f⟩ := MA_z hM (k := 24) (by decide) (by decide)
  exact Exists.intro 3 (And.intro hM.1 (useR p (And.intro q (And.intro (by rw [l]; exact in_nI hj (by decide)) (ifT (f _) (And.intro (Or.inl rfl) h))))))
theorem s_TisMeant {S : MM} {m j : Nat} {Q : Option Value → MM → Prop} (hM : MA S m) (hj : j < 8) (h : Q (some (.int 0)) S) : wX8_isMeant [.ref m, .int (nI j)] S Q :=
  Exists.intro 3 (And.intro hM.1 (And.intro ⟨by decide, by decide⟩ (s_Tagrees hM hj (if0 (And.intro (Or.inl rfl) h)))))
theorem gl_c16 {k : Kt} {m : Nat} {i u : Int32} {S : MM} {c z : Nat} (h : k [(2, .int (i + 1)), (1, .int u), (0, .ref m)] [] S c z) : inc 2 1 k [(2, .int i), (1, .int u), (0, .ref m)] [] S c z := h
theorem gl_c35 {k : Kt} {m : Nat} {i u : Int32} {S : MM} {c z : Nat} (h : k [(2, .int 0), (1, .int u), (0, .ref m)] [] S c z) : cI 0 (stI 2 k) [(2, .int i), (1, .int u), (0, .ref m)] [] S c z := h
theorem j_c35 {Q : Option Value → MM → Prop} {f : Nat} {m : Nat} {i u : Int32} {S : MM} {c z : Nat} (h : wpn (kX8_comes Q) f 37 [(2, .int 0), (1, .int u), (0, .ref m)] [] S c z) : wpn (kX8_comes Q) (f + 1) 35 [(2, .int i), (1, .int u), (0, .ref m)] [] S c z :=
  stp (show cI 0 (stI 2 (wpn (kX8_comes Q) f 37)) [(2, .int i), (1, .int u), (0, .ref m)] [] S c z from gl_c35 h)
theorem gl_c37a {k : Kt} {m : Nat} {i u : Int32} {S : MM} {c z : Nat} (h : k [(3, .int 0), (2, .int i), (1, .int u), (0, .ref m)] [] S c z) : cI 0 (stI 3 k) [(2, .int i), (1, .int u), (0, .ref m)] [] S c z := h
theorem gl_c37b {k : Kt} {m : Nat} {i u w : Int32} {S : MM} {c z : Nat} (h : k [(3, .int 0), (2, .int i), (1, .int u), (0, .ref m)] [] S c z) : cI 0 (stI 3 k) [(2, .int i), (3, .int w), (1, .int u), (0, .ref m)] [] S c z := h
theorem gl_c132 {k : Kt} {m : Nat} {i u w : Int32} {S : MM} {c z : Nat} (h : k [(2, .int (i + 1)), (3, .int w), (1, .int u), (0, .ref m)] [] S c z) : inc 2 1 k [(3, .int w), (2, .int i), (1, .int u), (0, .ref m)] [] S c z := h
theorem j_c132 {Q : Option Value → MM → Prop} {f : Nat} {m : Nat} {i u w : Int32} {S : MM} {c z : Nat} (h : wpn (kX8_comes Q) f 37 [(2, .int (i + 1)), (3, .int w), (1, .int u), (0, .ref m)] [] S c z) : wpn (kX8_comes Q) (f + 1) 132 [(3, .int w), (2, .int i), (1, .int u), (0, .ref m)] [] S c z :=
  stp (show inc 2 1 (wpn (kX8_comes Q) f 37) [(3, .int w), (2, .int i), (1, .int u), (0, .ref m)] [] S c z from gl_c132 h)
theorem s_c45 {Q : Option Value → MM → Prop} {f m : Nat} {u i : Int32} {S : MM} (hM : MA S m) (h : wpn (kX8_comes Q) f 37 [(2, .int (i + 1)), (3, .int 0), (1, .int u), (0, .ref m)] [] S 0 0) : wpn (kX8_comes Q) (f + 2) 45 [(3, .int 0), (2, .int i), (1, .int u), (0, .ref m)] [] S 0 0 :=
  And.intro hM.1 (ifT (by show sI S m 32 ≤ 0; rw [hM.2.1 32 (by decide) (by decide)]; decide) (j_c132 h))
theorem s_c181 {Q : Option Value → MM → Prop} {f m a : Nat} {u : Int32} {S : MM} (hM : MA S m) (hR : sR S m 42 = some a) (hk : sK S a = 10) (hN : sN S a = 2) (hf : ∀ j, sI S a j = 0) (hu : u = 0) (h : Q (some (.int 0)) S) : wpn (kX8_comes Q) (f + 1) 181 [(3, .int 0), (2, .int 0), (1, .int u), (0, .ref m)] [] S 0 0 := by
  have same : pI S m 32 0 = S := pI_same (hM.2.1 32 (by decide) (by decide))
  have v0 : vp_in 0 (sN S a) := by rw [hN]; exact in_0 (by decide)
  have v1 : vp_in 1 (sN S a) := by rw [hN]; exact in_nI (i := 1) (by decide) (by decide)
  refine And.intro hM.1 ?_
  show ldA 0 _ [(3, .int 0), (2, .int 0), (1, .int u), (0, .ref m)] [] (pI S m 32 0) 0 0
  rw [same]
  refine And.intro hM.1 (useR hR (And.intro hk (And.intro v0 (And.intro hM.1 (useR hR (And.intro hk (And.intro v1 ?_)))))))
  show Q (some (.int (sI S a 0 + sI S a (1 : Int32).toNatClampNeg - u))) S
  rw [hf, hf, hu]
  exact h
theorem s_c142 {Q : Option Value → MM → Prop} {f m a : Nat} {u : Int32} {S : MM} (hM : MA S m) (hR : sR S m 42 = some a) (hk : sK S a = 10) (hN : sN S a = 2) (hf : ∀ j, sI S a j = 0) (hu : u = 0) (h : Q (some (.int 0)) S) : wpn (kX8_comes Q) (f + 2) 142 [(3, .int 0), (2, .int 0), (1, .int u), (0, .ref m)] [] S 0 0 :=
  And.intro hM.1 (ifT (by show sI S m 32 ≤ 0; rw [hM.2.1 32 (by decide) (by decide)]; decide) (s_c181 hM hR hk hN hf hu h))
theorem gl_c138 {k : Kt} {m : Nat} {i u w : Int32} {S : MM} {c z : Nat} (h : k [(3, .int 0), (2, .int 0), (1, .int u), (0, .ref m)] [] S c z) : cI 0 (stI 2 (cI 0 (stI 3 k))) [(2, .int i), (3, .int w), (1, .int u), (0, .ref m)] [] S c z := h
theorem j_c138 {Q : Option Value → MM → Prop} {f : Nat} {m : Nat} {i u w : Int32} {S : MM} {c z : Nat} (h : wpn (kX8_comes Q) f 142 [(3, .int 0), (2, .int 0), (1, .int u), (0, .ref m)] [] S c z) : wpn (kX8_comes Q) (f + 1) 138 [(2, .int i), (3, .int w), (1, .int u), (0, .ref m)] [] S c z :=
  stp (show cI 0 (stI 2 (cI 0 (stI 3 (wpn (kX8_comes Q) f 142)))) [(2, .int i), (3, .int w), (1, .int u), (0, .ref m)] [] S c z from gl_c138 h)
set_option maxRecDepth 20000 in
theorem s_c37L {Q : Option Value → MM → Prop} {m : Nat} {u : Int32} {S : MM} (hM : MA S m) (K : wpn (kX8_comes Q) 2 142 [(3, .int 0), (2, .int 0), (1, .int u), (0, .ref m)] [] S 0 0) : ∀ (n i : Nat) (lv : Lv), i + n = 8 → ((lv = [(2, .int (nI i)), (1, .int u), (0, .ref m)] ∧ i = 0) ∨ lv = [(2, .int (nI i)), (3, .int 0), (1, .int u), (0, .ref m)]) → wpn (kX8_comes Q) (3 * n + 4) 37 lv [] S 0 0 := by
  intro n
  induction n with
  | zero =>
    intro i lv hi hl
    have e8 : i = 8 := by omega
    subst e8
    rcases hl with ⟨rfl, h0⟩ | rfl
    · cases h0
    · exact ifT (by decide) (j_c138 K)
  | succ n ih =>
    intro i lv hi hl
    have hi8 : i < 8 := by omega
    have nx := ih (i + 1) _ (by omega) (Or.inr rfl)
    rw [← nI_1 i] at nx
    rcases hl with ⟨rfl, -⟩ | rfl
    · exact ifF (n8_ge hi8) (gl_c37a (s_c45 hM nx))
    · exact ifF (n8_ge hi8) (gl_c37b (s_c45 hM nx))
set_option maxRecDepth 20000 in
theorem s_c16L {Q : Option Value → MM → Prop} {f m a : Nat} {u : Int32} {S : MM} (hM : MA S m) (hR : sR S m 15 = some a) (hk : sK S a = 11) (hN : sN S a = 16) (hf : ∀ j, sI S a j = 0) (K : wpn (kX8_comes Q) f 35 [(2, .int (nI 16)), (1, .int u), (0, .ref m)] [] S 0 0) : ∀ (n i : Nat), i + n = 16 → wpn (kX8_comes Q) (f + n + 1) 16 [(2, .int (nI i)), (1, .int u), (0, .ref m)] [] S 0 0 := by
  intro n
  induction n with
  | zero =>
    intro i hi
    have e8 : i = 16 := by omega
    subst e8
    exact ifT (by decide) K
  | succ n ih =>
    intro i hi
    have hi8 : i < 16 := by omega
    have nx := ih (i + 1) (by omega)
    rw [← nI_1 i] at nx
    refine ifF (n16_ge hi8) (And.intro hM.1 (useR hR (And.intro hk (And.intro (by rw [hN]; exact in_nI hi8 (by decide)) (And.intro (Or.inl rfl) ?_)))))
    show inc 2 1 _ [(2, .int (nI i)), (1, .int u), (0, .ref m)] [] (pI S a (nI i).toNatClampNeg 0) 0 0
    rw [pI_same (hf _)]
    exact gl_c16 nx
theorem s_Tcomes {S : MM} {m : Nat} {Q : Option Value → MM → Prop} (hM : MA S m) (h : Q (some (.int 0)) S) : wX8_comes [.ref m] S Q := by
  obtain ⟨a, p, q, l, f⟩ := MA_z hM (k := 42) (by decide) (by decide)
  obtain ⟨g, gp, gq, gl, gf⟩ := MA_z hM (k := 15) (by decide) (by decide)
  have v0 : vp_in 0 (sN S a) := by rw [l]; exact in_0 (by decide)
  have v1 : vp_in 1 (sN S a) := by rw [l]; exact in_nI (i := 1) (by decide) (by decide)
  have hu : sI S a 0 + sI S a (1 : Int32).toNatClampNeg = 0 := by rw [f, f]; rfl
  have L1 := s_c37L (u := sI S a 0 + sI S a (1 : Int32).toNatClampNeg) hM (s_c142 (Q := Q) (f := 0) hM p q l f hu h) 8 0 _ rfl (Or.inl ⟨rfl, rfl⟩)
  have L2 := s_c16L hM gp gq gl gf (j_c35 (i := nI 16) L1) 16 0 rfl
  exact Exists.intro 47 (And.intro hM.1 (useR p (And.intro q (And.intro v0 (And.intro hM.1 (useR p (And.intro q (And.intro v1 L2))))))))
theorem gl_h5a {k : Kt} {m : Nat} {i u : Int32} {S : MM} {c z : Nat} (h : k [(5, .int (8 * u)), (4, .int 0), (3, .int (-1)), (2, .int i), (0, .ref m), (1, .int u)] [] S c z) : cI (-1) (stI 3 (cI 0 (stI 4 (cI 8 (ldI 1 (bop (fun x y => x * y) (stI 5 k))))))) [(2, .int i), (0, .ref m), (1, .int u)] [] S c z := h
theorem gl_h5b {k : Kt} {m : Nat} {i u v w t : Int32} {S : MM} {c z : Nat} (h : k [(5, .int (8 * u)), (4, .int 0), (3, .int (-1)), (2, .int i), (0, .ref m), (1, .int u)] [] S c z) : cI (-1) (stI 3 (cI 0 (stI 4 (cI 8 (ldI 1 (bop (fun x y => x * y) (stI 5 k))))))) [(2, .int i), (5, .int v), (4, .int w), (3, .int t), (0, .ref m), (1, .int u)] [] S c z := h
theorem gl_h175 {k : Kt} {m : Nat} {i u v : Int32} {S : MM} {c z : Nat} (h : k [(2, .int (i + 1)), (5, .int v), (4, .int 0), (3, .int (-1)), (0, .ref m), (1, .int u)] [] S c z) : inc 2 1 k [(5, .int v), (4, .int 0), (3, .int (-1)), (2, .int i), (0, .ref m), (1, .int u)] [] S c z := h
theorem s_h175 {Q : Option Value → MM → Prop} {f m a y : Nat} {u v : Int32} {S : MM} (hk : sK S a = 11) (hN : sN S a = 16) (hf : ∀ j, sI S a j = 0) (hy : y < 16) (h : wpn (kX8_chooses Q) f 5 [(2, .int (nI y + 1)), (5, .int v), (4, .int 0), (3, .int (-1)), (0, .ref m), (1, .int u)] [] S 0 0) : wpn (kX8_chooses Q) (f + 1) 175 [(5, .int v), (4, .int 0), (3, .int (-1)), (2, .int (nI y)), (0, .ref m), (1, .int u)] [.int 0, .int (nI y), .ref a] S 0 0 := by
  refine stp ?_
  show bX8_chooses_175 Q (wpn (kX8_chooses Q) f) [(5, .int v), (4, .int 0), (3, .int (-1)), (2, .int (nI y)), (0, .ref m), (1, .int u)] [.int 0, .int (nI y), .ref a] S 0 0
  unfold bX8_chooses_175
  refine And.intro hk (And.intro (by rw [hN]; exact in_nI hy (by decide)) (And.intro (Or.inl rfl) ?_))
  show inc 2 1 _ [(5, .int v), (4, .int 0), (3, .int (-1)), (2, .int (nI y)), (0, .ref m), (1, .int u)] [] (pI S a (nI y).toNatClampNeg 0) 0 0
  rw [pI_same (hf _)]
  exact gl_h175 h
theorem s_h174 {Q : Option Value → MM → Prop} {f m a y : Nat} {u v : Int32} {S : MM} (h : wpn (kX8_chooses Q) f 175 [(5, .int v), (4, .int 0), (3, .int (-1)), (2, .int (nI y)), (0, .ref m), (1, .int u)] [.int 0, .int (nI y), .ref a] S 0 0) : wpn (kX8_chooses Q) (f + 1) 174 [(5, .int v), (4, .int 0), (3, .int (-1)), (2, .int (nI y)), (0, .ref m), (1, .int u)] [.int (nI y), .ref a] S 0 0 :=
  stp (show cI 0 (wpn (kX8_chooses Q) f 175) [(5, .int v), (4, .int 0), (3, .int (-1)), (2, .int (nI y)), (0, .ref m), (1, .int u)] [.int (nI y), .ref a] S 0 0 from stI0 h)
theorem s_h142 {Q : Option Value → MM → Prop} {f m y : Nat} {u v : Int32} {S : MM} (hM : MA S m) (hy : y < 16) (h : wpn (kX8_chooses Q) f 5 [(2, .int (nI y + 1)), (5, .int v), (4, .int 0), (3, .int (-1)), (0, .ref m), (1, .int u)] [] S 0 0) : wpn (kX8_chooses Q) (f + 3) 142 [(5, .int v), (4, .int 0), (3, .int (-1)), (2, .int (nI y)), (0, .ref m), (1, .int u)] [] S 0 0 := by
  obtain ⟨a, p, q, l, g, -⟩ := hM.2.2 12 (by decide)
  obtain ⟨b, bp, bq, bl, bf⟩ := MA_z hM (k := 13) (by decide) (by decide)
  have ez : sI S a (nI y).toNatClampNeg = -1 := by rw [g, cl_nI (by omega)]; unfold fM; rw [if_neg (by simp), if_pos ⟨by simp, by omega⟩]
  refine stp ?_
  show bX8_chooses_142 Q (wpn (kX8_chooses Q) (f + 2)) [(5, .int v), (4, .int 0), (3, .int (-1)), (2, .int (nI y)), (0, .ref m), (1, .int u)] [] S 0 0
  unfold bX8_chooses_142
  refine And.intro hM.1 (useR p (And.intro q (And.intro (by rw [l]; exact in_nI hy (by decide)) ?_)))
  show ldA 0 _ [(5, .int v), (4, .int 0), (3, .int (-1)), (2, .int (nI y)), (0, .ref m), (1, .int u)] [] (pI S a (nI y).toNatClampNeg (-1)) 0 0
  rw [pI_same ez]
  exact And.intro hM.1 (useR bp (ifT rfl (s_h174 (s_h175 bq bl bf hy h))))
theorem s_h112 {Q : Option Value → MM → Prop} {f m y : Nat} {u v : Int32} {S : MM} (hM : MA S m) (hy : y < 16) (h : wpn (kX8_chooses Q) f 5 [(2, .int (nI y + 1)), (5, .int v), (4, .int 0), (3, .int (-1)), (0, .ref m), (1, .int u)] [] S 0 0) : wpn (kX8_chooses Q) (f + 4) 112 [(5, .int v), (4, .int 0), (3, .int (-1)), (2, .int (nI y)), (0, .ref m), (1, .int u)] [] S 0 0 := by
  obtain ⟨b, bp, bq, bl, bf⟩ := MA_z hM (k := 9) (by decide) (by decide)
  refine stp ?_
  show bX8_chooses_112 Q (wpn (kX8_chooses Q) (f + 3)) [(5, .int v), (4, .int 0), (3, .int (-1)), (2, .int (nI y)), (0, .ref m), (1, .int u)] [] S 0 0
  unfold bX8_chooses_112
  exact And.intro hM.1 (useR bp (And.intro bq (And.intro (by rw [bl]; exact in_nI hy (by decide)) (ifF (fun z => absurd ((bf _).symm.trans z) (by decide)) (s_h142 hM hy h)))))
theorem s_h27 {Q : Option Value → MM → Prop} {f m y : Nat} {u : Int32} {S : MM} (hM : MA S m) (hy : y < 16) (hu : ¬ (8 : Int32) * u + 8 ≤ 8 * u) (h : wpn (kX8_chooses Q) f 5 [(2, .int (nI y + 1)), (5, .int (8 * u)), (4, .int 0), (3, .int (-1)), (0, .ref m), (1, .int u)] [] S 0 0) : wpn (kX8_chooses Q) (f + 5) 27 [(5, .int (8 * u)), (4, .int 0), (3, .int (-1)), (2, .int (nI y)), (0, .ref m), (1, .int u)] [] S 0 0 := by
  refine stp ?_
  show bX8_chooses_27 Q (wpn (kX8_chooses Q) (f + 4)) [(5, .int (8 * u)), (4, .int 0), (3, .int (-1)), (2, .int (nI y)), (0, .ref m), (1, .int u)] [] S 0 0
  unfold bX8_chooses_27
  exact ifF hu (And.intro hM.1 (And.intro ⟨by decide, by decide⟩ (s_Tfits hM hy (if0 (s_h112 hM hy h)))))
set_option maxRecDepth 20000 in
theorem s_hL {Q : Option Value → MM → Prop} {S : MM} {m j : Nat} (hM : MA S m) (hj : j < 2) (K : Q none S) : ∀ (r y : Nat) (lv : Lv), y + r = 8 * j + 8 → ((lv = [(2, .int (nI y)), (0, .ref m), (1, .int (nI j))]) ∨ lv = [(2, .int (nI y)), (5, .int (8 * nI j)), (4, .int 0), (3, .int (-1)), (0, .ref m), (1, .int (nI j))]) → wpn (kX8_chooses Q) (6 * r + 2) 5 lv [] S 0 0 := by
  have e8 : (8 : Int32) * nI j + 8 = nI (8 * j + 8) := by
    rw [show (8 : Int32) = nI 8 from rfl, pk_mul, nI_add]
  have e0 : (8 : Int32) * nI j = nI (8 * j) := by
    rw [show (8 : Int32) = nI 8 from rfl, pk_mul]
  have hu : ¬ (8 : Int32) * nI j + 8 ≤ 8 * nI j := by rw [e8, e0]; exact nI_ge (by omega) (by omega)
  intro r
  induction r with
  | zero =>
    intro y lv hy hl
    have ey : y = 8 * j + 8 := by omega
    subst ey
    rcases hl with rfl | rfl
    · exact ifT (by show (8 : Int32) * nI j + 8 ≤ nI (8 * j + 8); rw [e8]; exact Int32.le_refl _) K
    · exact ifT (by show (8 : Int32) * nI j + 8 ≤ nI (8 * j + 8); rw [e8]; exact Int32.le_refl _) K
  | succ r ih =>
    intro y lv hy hl
    have hy2 : y < 8 * j + 8 := by omega
    have nx := ih (y + 1) _ (by omega) (Or.inr rfl)
    rw [← nI_1 y] at nx
    have hc : ¬ (8 : Int32) * nI j + 8 ≤ nI y := by rw [e8]; exact nI_ge hy2 (by omega)
    rcases hl with rfl | rfl
    · exact ifF hc (gl_h5a (s_h27 hM (by omega) hu nx))
    · exact ifF hc (gl_h5b (s_h27 hM (by omega) hu nx))
theorem st_h0 {k : Kt} {m : Nat} {j : Int32} {S : MM} {c z : Nat} (h : k [(2, .int ((8 : Int32) * j)), (0, .ref m), (1, .int j)] [] S c z) : cI 8 (ldI 1 (bop (fun x y => x * y) (stI 2 k))) [(0, .ref m), (1, .int j)] [] S c z := h
theorem s_Tchooses {S : MM} {m j : Nat} {Q : Option Value → MM → Prop} (hM : MA S m) (hj : j < 2) (h : Q none S) : wX8_chooses [.ref m, .int (nI j)] S Q := by
  have L := s_hL (Q := Q) hM hj h 8 (8 * j) _ rfl (Or.inl rfl)
  have e8 : nI (8 * j) = (8 : Int32) * nI j := by rw [show (8 : Int32) = nI 8 from rfl, pk_mul]
  rw [e8] at L
  exact Exists.intro 51 (stp (show cI 8 (ldI 1 (bop (fun x y => x * y) (stI 2 (wpn (kX8_chooses Q) 50 5)))) [(0, .ref m), (1, .int (nI j))] [] S 0 0 from st_h0 L))
theorem gl_m48 {k : Kt} {m : Nat} {i : Int32} {S : MM} {c z : Nat} (h : k [(1, .int (i + 1)), (0, .ref m)] [] S c z) : inc 1 1 k [(1, .int i), (0, .ref m)] [] S c z := h
theorem j_m48 {Q : Option Value → MM → Prop} {f : Nat} {m : Nat} {i : Int32} {S : MM} {c z : Nat} (h : wpn (kX8_isAsMeant Q) f 2 [(1, .int (i + 1)), (0, .ref m)] [] S c z) : wpn (kX8_isAsMeant Q) (f + 1) 48 [(1, .int i), (0, .ref m)] [] S c z :=
  stp (show inc 1 1 (wpn (kX8_isAsMeant Q) f 2) [(1, .int i), (0, .ref m)] [] S c z from gl_m48 h)
theorem j_m87 {Q : Option Value → MM → Prop} {f : Nat} {m : Nat} {i : Int32} {S : MM} {c z : Nat} (h : wpn (kX8_isAsMeant Q) f 56 [(1, .int (i + 1)), (0, .ref m)] [] S c z) : wpn (kX8_isAsMeant Q) (f + 1) 87 [(1, .int i), (0, .ref m)] [] S c z :=
  stp (show inc 1 1 (wpn (kX8_isAsMeant Q) f 56) [(1, .int i), (0, .ref m)] [] S c z from gl_m48 h)
theorem gl_m54 {k : Kt} {m : Nat} {i : Int32} {S : MM} {c z : Nat} (h : k [(1, .int 0), (0, .ref m)] [] S c z) : cI 0 (stI 1 k) [(1, .int i), (0, .ref m)] [] S c z := h
theorem j_m54 {Q : Option Value → MM → Prop} {f : Nat} {m : Nat} {i : Int32} {S : MM} {c z : Nat} (h : wpn (kX8_isAsMeant Q) f 56 [(1, .int 0), (0, .ref m)] [] S c z) : wpn (kX8_isAsMeant Q) (f + 1) 54 [(1, .int i), (0, .ref m)] [] S c z :=
  stp (show cI 0 (stI 1 (wpn (kX8_isAsMeant Q) f 56)) [(1, .int i), (0, .ref m)] [] S c z from gl_m54 h)
theorem gl_m0 {k : Kt} {m : Nat} {S : MM} {c z : Nat} (h : k [(1, .int 0), (0, .ref m)] [] S c z) : cI 0 (stI 1 k) [(0, .ref m)] [] S c z := h
set_option maxRecDepth 20000 in
theorem s_m56L {Q : Option Value → MM → Prop} {m a : Nat} {S : MM} (hM : MA S m) (hR : sR S m 9 = some a) (hk : sK S a = 10) (hN : sN S a = 16) (hf : ∀ j, sI S a j = 0) (K : Q (some (.int 1)) S) : ∀ (n i : Nat), i + n = 16 → wpn (kX8_isAsMeant Q) (2 * n + 2) 56 [(1, .int (nI i)), (0, .ref m)] [] S 0 0 := by
  intro n
  induction n with
  | zero =>
    intro i hi
    have e8 : i = 16 := by omega
    subst e8
    exact ifT (by decide) (And.intro (Or.inr rfl) K)
  | succ n ih =>
    intro i hi
    have hi8 : i < 16 := by omega
    have nx := ih (i + 1) (by omega)
    rw [← nI_1 i] at nx
    exact ifF (n16_ge hi8) (And.intro hM.1 (useR hR (And.intro hk (And.intro (by rw [hN]; exact in_nI hi8 (by decide)) (ifF (fun z => absurd ((hf _).symm.trans z) (by decide)) (j_m87 nx))))))
set_option maxRecDepth 20000 in
theorem s_m2L {Q : Option Value → MM → Prop} {f m : Nat} {S : MM} (hM : MA S m) (K : wpn (kX8_isAsMeant Q) f 54 [(1, .int (nI 8)), (0, .ref m)] [] S 0 0) : ∀ (n i : Nat), i + n = 8 → wpn (kX8_isAsMeant Q) (f + 2 * n + 1) 2 [(1, .int (nI i)), (0, .ref m)] [] S 0 0 := by
  intro n
  induction n with
  | zero =>
    intro i hi
    have e8 : i = 8 := by omega
    subst e8
    exact ifT (by decide) K
  | succ n ih =>
    intro i hi
    have hi8 : i < 8 := by omega
    have nx := ih (i + 1) (by omega)
    rw [← nI_1 i] at nx
    exact ifF (n8_ge hi8) (And.intro hM.1 (And.intro ⟨by decide, by decide⟩ (s_TisMeant hM hi8 (if0 (j_m48 nx)))))
theorem s_TisAsMeant {S : MM} {m : Nat} {Q : Option Value → MM → Prop} (hM : MA S m) (h : Q (some (.int 1)) S) : wX8_isAsMeant [.ref m] S Q := by
  obtain ⟨a, p, q, l, f⟩ := MA_z hM (k := 9) (by decide) (by decide)
  have L := s_m2L hM (j_m54 (i := nI 8) (s_m56L hM p q l f h 16 0 rfl)) 8 0 rfl
  exact Exists.intro 53 (stp (show cI 0 (stI 1 (wpn (kX8_isAsMeant Q) 52 2)) [(0, .ref m)] [] S 0 0 from gl_m0 L))
set_option maxRecDepth 20000 in
theorem s_t7L {Q : Option Value → MM → Prop} {f m : Nat} {u : Int32} {S : MM} (hM : MA S m) (K : wpn (kX8_tick Q) f 24 [(2, .int (nI 16)), (1, .int u), (0, .ref m)] [] S 0 0) : ∀ (n i : Nat), i + n = 16 → wpn (kX8_tick Q) (f + n + 1) 7 [(2, .int (nI i)), (1, .int u), (0, .ref m)] [] S 0 0 := by
  intro n
  induction n with
  | zero =>
    intro i hi
    have e8 : i = 16 := by omega
    subst e8
    exact ifT (by decide) K
  | succ n ih =>
    intro i hi
    have hi8 : i < 16 := by omega
    have nx := ih (i + 1) (by omega)
    rw [← nI_1 i] at nx
    exact ifF (n16_ge hi8) (And.intro hM.1 (And.intro ⟨by decide, by decide⟩ (s_Tages hM hi8 (gl_c16 nx))))
set_option maxRecDepth 20000 in
theorem s_t36L {Q : Option Value → MM → Prop} {f m : Nat} {u : Int32} {S : MM} (hM : MA S m) (K : wpn (kX8_tick Q) f 53 [(2, .int (nI 16)), (1, .int u), (0, .ref m)] [] S 0 0) : ∀ (n i : Nat), i + n = 16 → wpn (kX8_tick Q) (f + n + 1) 36 [(2, .int (nI i)), (1, .int u), (0, .ref m)] [] S 0 0 := by
  intro n
  induction n with
  | zero =>
    intro i hi
    have e8 : i = 16 := by omega
    subst e8
    exact ifT (by decide) K
  | succ n ih =>
    intro i hi
    have hi8 : i < 16 := by omega
    have nx := ih (i + 1) (by omega)
    rw [← nI_1 i] at nx
    exact ifF (n16_ge hi8) (And.intro hM.1 (And.intro ⟨by decide, by decide⟩ (s_Tsteps hM hi8 (gl_c16 nx))))
set_option maxRecDepth 20000 in
theorem s_t60L {Q : Option Value → MM → Prop} {f m : Nat} {u : Int32} {S : MM} (hM : MA S m) (K : wpn (kX8_tick Q) f 77 [(2, .int (nI 16)), (1, .int u), (0, .ref m)] [] S 0 0) : ∀ (n i : Nat), i + n = 16 → wpn (kX8_tick Q) (f + n + 1) 60 [(2, .int (nI i)), (1, .int u), (0, .ref m)] [] S 0 0 := by
  intro n
  induction n with
  | zero =>
    intro i hi
    have e8 : i = 16 := by omega
    subst e8
    exact ifT (by decide) K
  | succ n ih =>
    intro i hi
    have hi8 : i < 16 := by omega
    have nx := ih (i + 1) (by omega)
    rw [← nI_1 i] at nx
    exact ifF (n16_ge hi8) (And.intro hM.1 (And.intro ⟨by decide, by decide⟩ (s_Tputs hM hi8 (gl_c16 nx))))
theorem s_t105 {Q : Option Value → MM → Prop} {f m : Nat} {i u v : Int32} {S : MM} (hM : MA S m) (hu : u = 0) (h : Q (some (.int 0)) (pI S m 44 v)) : wpn (kX8_tick Q) (f + 2) 105 [(2, .int i), (1, .int u), (0, .ref m)] [.int v, .ref m] S 0 0 := by
  have hM2 : MA (pI S m 44 v) m := MA_pI hM (Or.inr rfl)
  subst hu
  refine stp ?_
  show bX8_tick_105 Q (wpn (kX8_tick Q) (f + 1)) [(2, .int i), (1, .int 0), (0, .ref m)] [.int v, .ref m] S 0 0
  unfold bX8_tick_105
  exact And.intro hM.1 (And.intro hM2.1 (And.intro (fun _ => h) (fun _ => And.intro hM2.1 (And.intro ⟨by decide, by decide⟩ (s_TisAsMeant hM2 (if1 h))))))
theorem s_t77 {Q : Option Value → MM → Prop} {f m : Nat} {i u : Int32} {S : MM} (hM : MA S m) (hu : u = 0) (h : ∀ v t, Q (some (.int 0)) (pI (pI S m 43 v) m 44 t)) : wpn (kX8_tick Q) (f + 4) 77 [(2, .int i), (1, .int u), (0, .ref m)] [] S 0 0 := by
  have hM2 : MA (pI S m 43 (sI S m 43 + 1)) m := MA_pI hM (Or.inl rfl)
  refine stp ?_
  show bX8_tick_77 Q (wpn (kX8_tick Q) (f + 3)) [(2, .int i), (1, .int u), (0, .ref m)] [] S 0 0
  unfold bX8_tick_77
  refine And.intro hM.1 (And.intro hM.1 (And.intro hM2.1 (ifT (hM2.2.1 50 (by decide) (by decide)) ?_)))
  refine stp ?_
  show bX8_tick_99 Q (wpn (kX8_tick Q) (f + 2)) [(2, .int i), (1, .int u), (0, .ref m)] [.ref m] (pI S m 43 (sI S m 43 + 1)) 0 0
  unfold bX8_tick_99
  exact And.intro hM2.1 (s_t105 (f := f) hM2 hu (h _ _))
theorem s_t53 {Q : Option Value → MM → Prop} {f m : Nat} {i u : Int32} {S : MM} (hM : MA S m) (h : wpn (kX8_tick Q) f 60 [(2, .int 0), (1, .int u), (0, .ref m)] [] S 0 0) : wpn (kX8_tick Q) (f + 1) 53 [(2, .int i), (1, .int u), (0, .ref m)] [] S 0 0 := by
  refine stp ?_
  show bX8_tick_53 Q (wpn (kX8_tick Q) f) [(2, .int i), (1, .int u), (0, .ref m)] [] S 0 0
  unfold bX8_tick_53
  refine And.intro hM.1 (And.intro (Or.inl rfl) ?_)
  show cI 0 (stI 2 (wpn (kX8_tick Q) f 60)) [(2, .int i), (1, .int u), (0, .ref m)] [] (pI S m 50 0) 0 0
  rw [pI_same (hM.2.1 50 (by decide) (by decide))]
  exact gl_c35 h
theorem s_t24 {Q : Option Value → MM → Prop} {f m : Nat} {i u : Int32} {S : MM} (hM : MA S m) (h : wpn (kX8_tick Q) f 36 [(2, .int 0), (1, .int u), (0, .ref m)] [] S 0 0) : wpn (kX8_tick Q) (f + 1) 24 [(2, .int i), (1, .int u), (0, .ref m)] [] S 0 0 := by
  refine stp ?_
  show bX8_tick_24 Q (wpn (kX8_tick Q) f) [(2, .int i), (1, .int u), (0, .ref m)] [] S 0 0
  unfold bX8_tick_24
  exact And.intro hM.1 (And.intro ⟨by decide, by decide⟩ (s_Tchooses (j := 0) hM (by decide) (And.intro hM.1 (And.intro ⟨by decide, by decide⟩ (s_Tchooses (j := 1) hM (by decide) (gl_c35 h))))))
theorem s_Ttick {S : MM} {m : Nat} {Q : Option Value → MM → Prop} (hM : MA S m) (h : ∀ v t, Q (some (.int 0)) (pI (pI S m 43 v) m 44 t)) : wX8_tick [.ref m] S Q := by
  have L60 := s_t60L (u := 0) hM (s_t77 (f := 0) (i := nI 16) hM rfl h) 16 0 rfl
  have L36 := s_t36L hM (s_t53 (i := nI 16) hM L60) 16 0 rfl
  have L7 := s_t7L hM (s_t24 (i := nI 16) hM L36) 16 0 rfl
  exact Exists.intro 58 (And.intro hM.1 (And.intro ⟨by decide, by decide⟩ (s_Tcomes hM L7)))
theorem gl_tt {k : Kt} {m : Nat} {i u n : Int32} {S : MM} {c z : Nat} (h : k [(3, .int (i + 1)), (2, .int (u + 0)), (0, .ref m), (1, .int n)] [] S c z) : bop (fun x y => x + y) (stI 2 (inc 3 1 k)) [(3, .int i), (2, .int u), (0, .ref m), (1, .int n)] [.int 0, .int u] S c z := h
set_option maxRecDepth 20000 in
theorem s_ttL {Q : Option Value → MM → Prop} {m N : Nat} (hN : N < 2 ^ 31) : ∀ (n i : Nat) (u : Int32) (S : MM), i + n = N → u = 0 → MA S m → (∀ S', MR S S' m 0 → Q (some (.int 0)) S') → wpn (kX8_tick_ Q) (n + 2) 25 [(3, .int (nI i)), (2, .int u), (0, .ref m), (1, .int (nI N))] [] S 0 0 := by
  intro n
  induction n with
  | zero =>
    intro i u S hi hu hM K
    have e8 : i = N := by omega
    subst e8
    subst hu
    exact ifT (Int32.le_refl _) (K S ⟨rfl, rfl, rfl, hM.2.1 0 (by decide) (by decide)⟩)
  | succ n ih =>
    intro i u S hi hu hM K
    refine ifF (nI_ge (show i < N by omega) hN) (And.intro hM.1 (ifT (hM.2.1 0 (by decide) (by decide)) (And.intro hM.1 (And.intro ⟨by decide, by decide⟩ (s_Ttick hM (fun v t => ?_))))))
    have nx := ih (i + 1) (u + 0) (pI (pI S m 43 v) m 44 t) (by omega) (by rw [hu]; rfl) (MA_pI (MA_pI hM (Or.inl rfl)) (Or.inr rfl)) (fun S' r => K S' ⟨r.1, r.2.1, r.2.2.1, r.2.2.2⟩)
    rw [← nI_1 i] at nx
    exact gl_tt nx
theorem s_tt18 {Q : Option Value → MM → Prop} {f m : Nat} {n v : Int32} {S : MM} (hm : sK S m = 9) (h : wpn (kX8_tick_ Q) f 25 [(3, .int 0), (2, .int 0), (0, .ref m), (1, .int n)] [] (pI S m 0 v) 0 0) : wpn (kX8_tick_ Q) (f + 1) 18 [(0, .ref m), (1, .int n)] [.int v, .ref m] S 0 0 := by
  refine stp ?_
  show bX8_tick__18 Q (wpn (kX8_tick_ Q) f) [(0, .ref m), (1, .int n)] [.int v, .ref m] S 0 0
  unfold bX8_tick__18
  exact And.intro hm h
theorem s_tt13 {Q : Option Value → MM → Prop} {m : Nat} {n : Int32} {S : MM} (hm : sK S m = 9) (h : Q (some (.int 0)) (pI S m 0 1)) : wpn (kX8_tick_ Q) 4 13 [(0, .ref m), (1, .int n)] [.ref m] S 0 0 := by
  have L : wpn (kX8_tick_ Q) 2 25 [(3, .int 0), (2, .int 0), (0, .ref m), (1, .int n)] [] (pI S m 0 1) 0 0 := And.intro (fun _ => h) (fun _ => And.intro hm (ifF (by show ¬ sI (pI S m 0 1) m 0 = 0; rw [sI_pI, up2_self]; decide) h))
  exact stp (show cI 1 (wpn (kX8_tick_ Q) 3 18) [(0, .ref m), (1, .int n)] [.ref m] S 0 0 from stI0 (s_tt18 hm L))
theorem s_tt17 {Q : Option Value → MM → Prop} {m k : Nat} {S : MM} (hM : MF S m) (hk : k < 1001) (h : ∀ S', MR S S' m 0 → Q (some (.int 0)) S') : wpn (kX8_tick_ Q) (k + 4) 17 [(0, .ref m), (1, .int (nI k))] [.ref m] S 0 0 := by
  have same : pI S m 0 0 = S := pI_same (hM.2.1 0)
  have L := s_ttL (Q := Q) (m := m) (N := k) (by omega) k 0 0 S (by omega) rfl (MA_F hM) h
  have L2 : wpn (kX8_tick_ Q) (k + 3) 18 [(0, .ref m), (1, .int (nI k))] [.int 0, .ref m] S 0 0 := s_tt18 hM.1 (by rw [same]; exact L)
  exact stp (show cI 0 (wpn (kX8_tick_ Q) (k + 3) 18) [(0, .ref m), (1, .int (nI k))] [.ref m] S 0 0 from stI0 L2)
theorem s_Mtick {S : MM} {m : Nat} {v : Int32} {Q : Option Value → MM → Prop} (hM : MF S m) (hb : tB v → Q (some (.int 0)) (pI S m 0 1)) (ho : ¬ tB v → ∀ S', MR S S' m 0 → Q (some (.int 0)) S') : wX8_tick_ [.ref m, .int v] S Q := by
  by_cases h0 : v < 1
  · exact Exists.intro 5 (ifT h0 (s_tt13 hM.1 (hb (Or.inl h0))))
  · by_cases h1 : v ≤ 1000
    · obtain ⟨k, hk, e⟩ := tB_rng h0 h1
      have nb : ¬ tB v := fun q => q.elim h0 (fun z => z h1)
      have L := s_tt17 hM hk (ho nb)
      subst e
      exact Exists.intro (k + 5) (ifF h0 (ifT h1 L))
    · exact Exists.intro 5 (ifF h0 (ifF h1 (s_tt13 hM.1 (hb (Or.inr h1)))))
theorem c_tick {b : Nat} {xs : Nat → Int32} {S : MM} {x aE aC e0 e1 m out c z : Nat} (h : GG S x aE aC e0 e1 m out) (hc : c + 1 ≤ 600002) (hz : z + 6 ≤ 7302232) : wpn (kL_law b 5 xs) 9 656 [(4, .int 0), (3, .ref out), (2, .ref m), (1, .ref x), (0, .ref b)] [] S c z := by
  obtain ⟨hB, hM, ho1, ho2⟩ := h
  refine And.intro rfl (And.intro (v5 (i := 1) (by decide)) (And.intro ⟨hc, hz⟩ (s_Ltick hB ho1 ho2 (fun hb => ?_) (fun nb S' hS => ?_))))
  · refine And.intro rfl (And.intro (v5 (i := 1) (by decide)) (And.intro hM.1 (And.intro ⟨hc, hz⟩ (s_Mtick hM (fun _ => And.intro hM.1 (And.intro ⟨hc, hz⟩ (s_thrown hM.1 ?_))) (fun nb => absurd hb nb)))))
    rw [sI_pI, up2_self]
    exact And.intro (fun _ => And.intro (fun h => absurd h (by decide)) (fun _ => And.intro rfl (And.intro (fun _ => rfl) (fun h => absurd (by decide) h)))) (fun h => absurd rfl h)
  · have r := out_Kc ho1 hS
    have hM2 : MF (pJ S' out 0 (Int32.toInt64 0)) m := MF_pJ (MF_Kc hM hS) (by rw [r.1]; exact ho1)
    refine And.intro rfl (And.intro (v5 (i := 1) (by decide)) (And.intro hM2.1 (And.intro ⟨hc, hz⟩ (s_Mtick hM2 (fun q => absurd q nb) (fun _ S2 hR => ?_)))))
    have km : sK S2 m = 9 := by rw [hR.1]; exact hM2.1
    have kO : sK S2 out = 18 := by rw [hR.1, sK_pJ, r.1]; exact ho1
    have nO : sN S2 out = 1 := by rw [hR.2.1, sN_pJ, r.2.1]; exact ho2
    have jO : sJ S2 out 0 = Int32.toInt64 0 := by rw [hR.2.2.1, sJ_pJ, up2_self]
    refine And.intro km (And.intro ⟨hc, hz⟩ (s_thrown km ?_))
    rw [hR.2.2.2]
    refine And.intro (fun _ => And.intro (fun _ => And.intro kO (And.intro (by rw [nO]; exact in_0 (by decide)) ?_)) (fun h => absurd rfl h)) (fun h => absurd rfl h)
    show ifz (fun x => x = 0) _ _ _ [.int (lg_cmp (sJ S2 out 0) (Int32.toInt64 0))] S2 _ _
    rw [jO, lg_self]
    exact And.intro (fun _ => And.intro rfl (And.intro (fun _ => rfl) (fun h => absurd (by decide) h))) (fun h => absurd rfl h)
