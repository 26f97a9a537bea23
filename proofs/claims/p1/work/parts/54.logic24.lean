-- plug of the reference
def MK (S S' : MM) : Prop := sK S' = sK S ∧ sN S' = sN S ∧ sJ S' = sJ S
def MP (S : MM) (m a22 : Nat) : Prop := sK S m = 9 ∧ (∀ k ∈ DM, ∃ a, sR S m k = some a ∧ sK S a = kdM k ∧ sN S a = lnM k ∧ a ≠ m) ∧ (∀ k ∈ DM, ∀ k' ∈ DM, sR S m k = sR S m k' → k = k') ∧ sI S m 0 = 0 ∧ sR S m 22 = some a22 ∧ ∀ j, ∃ t, t < 8 ∧ sI S a22 j = nI t
theorem MP_F {S : MM} {m : Nat} (h : MF S m) : ∃ a, MP S m a := by
  obtain ⟨h1, h2, h3, h4⟩ := h
  obtain ⟨a, p, q, l, f, n⟩ := h3 22 (by decide)
  exact ⟨a, h1, fun k hk => by obtain ⟨b, c1, c2, c3, c4, c5⟩ := h3 k hk; exact ⟨b, c1, c2, c3, c5⟩, h4, h2 0, p, fun j => ⟨0, by decide, by rw [f]; rfl⟩⟩
/-- field k's array: written, the rest stays -/
theorem MP_w {S : MM} {m a22 k : Nat} (h : MP S m a22) (hk : k ∈ DM) (h22 : k ≠ 22) : ∃ a, sR S m k = some a ∧ sK S a = kdM k ∧ sN S a = lnM k ∧ ∀ j v, MP (pI S a j v) m a22 := by
  obtain ⟨h1, h2, h3, h4, h5, h6⟩ := h
  obtain ⟨a, p, q, l, n⟩ := h2 k hk
  refine ⟨a, p, q, l, fun j v => ⟨h1, h2, h3, ?_, h5, fun i => ?_⟩⟩
  · rw [sI_pI, up2_ne (fun z => n z.1.symm)]; exact h4
  · obtain ⟨t, t1, t2⟩ := h6 i
    exact ⟨t, t1, by rw [sI_pI, up2_ne (fun z => h22 (h3 k hk 22 (by decide) (by rw [p, h5, z.1])))]; exact t2⟩
theorem MP_22 {S : MM} {m a22 t : Nat} (h : MP S m a22) (ht : t < 8) : sK S a22 = 10 ∧ sN S a22 = 16 ∧ ∀ j, MP (pI S a22 j (nI t)) m a22 := by
  obtain ⟨h1, h2, h3, h4, h5, h6⟩ := h
  obtain ⟨a, p, q, l, n⟩ := h2 22 (by decide)
  have e : a = a22 := Option.some.inj (p.symm.trans h5)
  subst e
  refine ⟨q, l, fun j => ⟨h1, h2, h3, ?_, h5, fun i => ?_⟩⟩
  · rw [sI_pI, up2_ne (fun z => n z.1.symm)]; exact h4
  · by_cases hi : i = j
    · exact ⟨t, ht, by rw [sI_pI, hi, up2_self]⟩
    · obtain ⟨t, t1, t2⟩ := h6 i
      exact ⟨t, t1, by rw [sI_pI, up2_ne (fun z => hi z.2)]; exact t2⟩
theorem MP_44 {S : MM} {m a22 : Nat} {v : Int32} (h : MP S m a22) : MP (pI S m 44 v) m a22 := by
  obtain ⟨h1, h2, h3, h4, h5, h6⟩ := h
  obtain ⟨a, p, q, l, n⟩ := h2 22 (by decide)
  have e : a = a22 := Option.some.inj (p.symm.trans h5)
  subst e
  exact ⟨h1, h2, h3, by rw [sI_pI, up2_ne (by simp)]; exact h4, h5, fun i => by obtain ⟨t, t1, t2⟩ := h6 i; exact ⟨t, t1, by rw [sI_pI, up2_ne (fun z => n z.1)]; exact t2⟩⟩
theorem s_PisAnother {S : MM} {m j : Nat} {w : Int32} {Q : Option Value → MM → Prop} (hM : MF S m) (hj : j < 16) (h : Q (some (.int 0)) S) : wX8_isAnother [.ref m, .int (nI j), .int w] S Q := by
  obtain ⟨a, p, q, l, f, -⟩ := hM.2.2.1 11 (by decide)
  have ez : sI S a (nI j).toNatClampNeg = -1 := by rw [f, cl_nI (by omega)]; unfold fM; rw [if_neg (by simp), if_pos ⟨by simp, by omega⟩]
  exact Exists.intro 3 (And.intro hM.1 (useR p (And.intro q (And.intro (by rw [l]; exact in_nI hj (by decide)) (ifT ez (And.intro (Or.inl rfl) h))))))
theorem ix5 {i : Nat} : (5 : Int32) * nI i + 4 = nI (5 * i + 4) := by
  rw [show (5 : Int32) = nI 5 from rfl, show (4 : Int32) = nI 4 from rfl, pk_mul, nI_add]
theorem s_Pstops {S : MM} {m a22 j : Nat} {Q : Option Value → MM → Prop} (hM : MP S m a22) (hj : j < 16) (h : ∀ S', MP S' m a22 → MK S S' → Q none S') : wX8_partnerStops [.ref m, .int (nI j)] S Q := by
  obtain ⟨a, p, q, l, f⟩ := MP_w hM (k := 18) (by decide) (by decide)
  have hv : vp_in ((5 : Int32) * nI j + 4) (sN S a) := by rw [ix5, l]; exact in_nI (show 5 * j + 4 < 80 by omega) (by decide)
  exact Exists.intro 1 (And.intro hM.1 (useR p (And.intro q (And.intro hv (And.intro q (And.intro hv (h _ (f _ _) ⟨rfl, rfl, rfl⟩)))))))
theorem s_P38 {S : MM} {f m a22 j : Nat} {w : Int32} {Q : Option Value → MM → Prop} (hM : MP S m a22) (hj : j < 16) (h : ∀ S', MP S' m a22 → MK S S' → Q none S') : wpn (kX8_goesTo Q) (f + 1) 38 [(0, .ref m), (1, .int (nI j)), (2, .int w)] [] S 0 0 := by
  obtain ⟨a, p, q, l, g⟩ := MP_w hM (k := 9) (by decide) (by decide)
  exact And.intro hM.1 (useR p (And.intro q (And.intro (by rw [l]; exact in_nI hj (by decide)) (h _ (g _ _) ⟨rfl, rfl, rfl⟩))))
theorem d16 : ∀ j, j < 16 → (nI j) / 8 = nI (j / 8) := by decide
theorem s_P25 {S : MM} {f m a22 j : Nat} {w : Int32} {Q : Option Value → MM → Prop} (hM : MP S m a22) (hj : j < 16) (h : ∀ S', MP S' m a22 → MK S S' → Q none S') : wpn (kX8_goesTo Q) (f + 2) 25 [(0, .ref m), (1, .int (nI j)), (2, .int w)] [] S 0 0 := by
  obtain ⟨a, p, q, l, g⟩ := MP_w hM (k := 40) (by decide) (by decide)
  have hv : vp_in (nI j / 8) (sN S a) := by rw [d16 j hj, l]; exact in_nI (show j / 8 < 2 by omega) (by decide)
  refine stp ?_
  show bX8_goesTo_25 Q (wpn (kX8_goesTo Q) (f + 1)) [(0, .ref m), (1, .int (nI j)), (2, .int w)] [] S 0 0
  unfold bX8_goesTo_25
  exact And.intro hM.1 (useR p (And.intro (by decide) (And.intro q (And.intro hv (And.intro q (And.intro hv (s_P38 (g _ _) hj (fun S' h1 h2 => h S' h1 h2))))))))
theorem s_PgoesTo {S : MM} {m a22 j : Nat} {w : Int32} {Q : Option Value → MM → Prop} (hM : MP S m a22) (hj : j < 16) (h : ∀ S', MP S' m a22 → MK S S' → Q none S') : wX8_goesTo [.ref m, .int (nI j), .int w] S Q := by
  obtain ⟨a, p, q, l, g⟩ := MP_w hM (k := 9) (by decide) (by decide)
  have hv : vp_in (nI j) (sN S a) := by rw [l]; exact in_nI hj (by decide)
  exact Exists.intro 3 (And.intro hM.1 (useR p (And.intro q (And.intro hv (And.intro (fun _ => s_P38 hM hj h) (fun _ => And.intro (fun _ => s_P25 hM hj h) (fun _ => And.intro hM.1 (useR p (And.intro q (And.intro hv (And.intro (fun _ => s_P25 hM hj h) (fun _ => s_P38 hM hj h))))))))))))
theorem s_PisLitNow {S : MM} {m a22 j : Nat} {Q : Option Value → MM → Prop} (hM : MP S m a22) (hj : j < 16) (h : ∀ S', MP S' m a22 → MK S S' → Q none S') : wX8_isLitNow [.ref m, .int (nI j)] S Q := by
  obtain ⟨a, p, q, l, g⟩ := MP_w hM (k := 7) (by decide) (by decide)
  refine Exists.intro 1 (And.intro hM.1 (useR p (And.intro q (And.intro (by rw [l]; exact in_nI hj (by decide)) ?_))))
  have hM1 := g (nI j).toNatClampNeg 1
  obtain ⟨b, p1, q1, l1, g1⟩ := MP_w hM1 (k := 8) (by decide) (by decide)
  refine And.intro hM1.1 (useR p1 (And.intro q1 (And.intro (by rw [l1]; exact in_nI hj (by decide)) ?_)))
  have hM2 := g1 (nI j).toNatClampNeg 3
  refine And.intro hM2.1 (And.intro ⟨by decide, by decide⟩ (s_Pstops hM2 hj (fun S3 hM3 k3 => And.intro hM3.1 (And.intro ⟨by decide, by decide⟩ (s_PgoesTo hM3 hj (fun S4 hM4 k4 => ?_))))))
  obtain ⟨c, p4, q4, l4, g4⟩ := MP_w hM4 (k := 14) (by decide) (by decide)
  refine And.intro hM4.1 (useR p4 (And.intro q4 (And.intro (by rw [l4]; exact in_nI hj (by decide)) (And.intro (Or.inl rfl) ?_))))
  have hM5 := g4 (nI j).toNatClampNeg 0
  obtain ⟨d, p5, q5, l5, g5⟩ := MP_w hM5 (k := 21) (by decide) (by decide)
  exact And.intro hM5.1 (useR p5 (And.intro q5 (And.intro (by rw [l5]; exact in_nI hj (by decide)) (h _ (g5 _ _) ⟨k4.1.trans k3.1, k4.2.1.trans k3.2.1, k4.2.2.trans k3.2.2⟩))))
theorem s_PportAt {S : MM} {m a22 j e : Nat} {w : Int32} {Q : Option Value → MM → Prop} (hM : MP S m a22) (hj : j < 8) (he : e < 2) (hw : w = nI e) (h : ∀ i, i < 16 → Q (some (.int (nI i))) S) : wX8_portAt [.ref m, .int (nI j), .int w] S Q := by
  subst hw
  have k22 := MP_22 hM (t := 0) (by decide)
  have e2 : (2 : Int32) * nI j + nI e = nI (2 * j + e) := by rw [show (2 : Int32) = nI 2 from rfl, pk_mul, nI_add]
  obtain ⟨t, t1, t2⟩ := hM.2.2.2.2.2 ((2 : Int32) * nI j + nI e).toNatClampNeg
  refine Exists.intro 1 (And.intro hM.1 (useR hM.2.2.2.2.1 (And.intro k22.1 (And.intro (by show vp_in ((2 : Int32) * nI j + nI e) (sN S a22); rw [e2, k22.2.1]; exact in_nI (show 2 * j + e < 16 by omega) (by decide)) ?_))))
  show Q (some (.int ((8 : Int32) * nI e + sI S a22 ((2 : Int32) * nI j + nI e).toNatClampNeg))) S
  rw [t2, ix8]
  exact h _ (by omega)
theorem s_PisUp {S : MM} {m a22 j : Nat} {Q : Option Value → MM → Prop} (hM : MP S m a22) (hj : j < 8) (h : ∀ S', MP S' m a22 → MK S S' → Q none S') : wX8_isUp [.ref m, .int (nI j)] S Q := by
  obtain ⟨a, p, q, l, g⟩ := MP_w hM (k := 25) (by decide) (by decide)
  refine Exists.intro 1 (And.intro hM.1 (useR p (And.intro q (And.intro (by rw [l]; exact in_nI hj (by decide)) (And.intro (Or.inr rfl) ?_)))))
  have hM1 := g (nI j).toNatClampNeg 1
  exact And.intro hM1.1 (And.intro ⟨by decide, by decide⟩ (s_PportAt hM1 hj (e := 0) (by decide) rfl (fun i hi => And.intro hM1.1 (And.intro ⟨by decide, by decide⟩ (s_PisLitNow hM1 hi (fun S2 hM2 k2 => And.intro hM2.1 (And.intro ⟨by decide, by decide⟩ (s_PportAt hM2 hj (e := 1) (by decide) rfl (fun i2 hi2 => And.intro hM2.1 (And.intro ⟨by decide, by decide⟩ (s_PisLitNow hM2 hi2 (fun S3 hM3 k3 => h S3 hM3 ⟨k3.1.trans k2.1, k3.2.1.trans k2.2.1, k3.2.2.trans k2.2.2⟩))))))))))))
theorem s_PnotQ {S : MM} {m a22 : Nat} {Q : Option Value → MM → Prop} (hM : MP S m a22) (h : ∀ S', MP S' m a22 → MK S S' → Q none S') : wX8_isNotQuiet [.ref m] S Q :=
  Exists.intro 1 (And.intro hM.1 (h _ (MP_44 hM) ⟨rfl, rfl, rfl⟩))
theorem r_24 {K : Kt} {m a22 j i k : Nat} {n : Int32} {S : MM} (hM : MP S m a22) (hj : j < 8) (h : ∀ S', MP S' m a22 → MK S S' → K [(0, .ref m), (1, .int (nI j)), (2, .int (nI i)), (3, .int (nI k)), (4, .int n)] [] S' 0 0) : ldA 0 (gR 8 24 (ldI 1 (cI 1 (sAZ K)))) [(0, .ref m), (1, .int (nI j)), (2, .int (nI i)), (3, .int (nI k)), (4, .int n)] [] S 0 0 := by
  obtain ⟨a, p, q, l, g⟩ := MP_w hM (k := 24) (by decide) (by decide)
  exact And.intro hM.1 (useR p (And.intro q (And.intro (by rw [l]; exact in_nI hj (by decide)) (And.intro (Or.inr rfl) (h _ (g _ _) ⟨rfl, rfl, rfl⟩)))))
theorem e22 {j e : Nat} : (2 : Int32) * nI j + nI e = nI (2 * j + e) := by rw [show (2 : Int32) = nI 2 from rfl, pk_mul, nI_add]
theorem r_22a {K : Kt} {m a22 j i k : Nat} {n : Int32} {S : MM} (hM : MP S m a22) (hj : j < 8) (hi : i < 8) (h : ∀ S', MP S' m a22 → MK S S' → K [(0, .ref m), (1, .int (nI j)), (2, .int (nI i)), (3, .int (nI k)), (4, .int n)] [] S' 0 0) : ldA 0 (gR 8 22 (cI 2 (ldI 1 (bop (fun x y => x * y) (ldI 2 (sAI K)))))) [(0, .ref m), (1, .int (nI j)), (2, .int (nI i)), (3, .int (nI k)), (4, .int n)] [] S 0 0 := by
  have k22 := MP_22 hM hi
  have e : (2 : Int32) * nI j = nI (2 * j) := by rw [show (2 : Int32) = nI 2 from rfl, pk_mul]
  exact And.intro hM.1 (useR hM.2.2.2.2.1 (And.intro k22.1 (And.intro (by show vp_in ((2 : Int32) * nI j) (sN S a22); rw [e, k22.2.1]; exact in_nI (show 2 * j < 16 by omega) (by decide)) (h _ (k22.2.2 _) ⟨rfl, rfl, rfl⟩))))
theorem r_22b {K : Kt} {m a22 j i k : Nat} {n : Int32} {S : MM} (hM : MP S m a22) (hj : j < 8) (hk : k < 8) (h : ∀ S', MP S' m a22 → MK S S' → K [(0, .ref m), (1, .int (nI j)), (2, .int (nI i)), (3, .int (nI k)), (4, .int n)] [] S' 0 0) : ldA 0 (gR 8 22 (cI 2 (ldI 1 (bop (fun x y => x * y) (cI 1 (bop (fun x y => x + y) (ldI 3 (sAI K)))))))) [(0, .ref m), (1, .int (nI j)), (2, .int (nI i)), (3, .int (nI k)), (4, .int n)] [] S 0 0 := by
  have k22 := MP_22 hM hk
  have e : (2 : Int32) * nI j + 1 = nI (2 * j + 1) := e22 (e := 1)
  exact And.intro hM.1 (useR hM.2.2.2.2.1 (And.intro k22.1 (And.intro (by show vp_in ((2 : Int32) * nI j + 1) (sN S a22); rw [e, k22.2.1]; exact in_nI (show 2 * j + 1 < 16 by omega) (by decide)) (h _ (k22.2.2 _) ⟨rfl, rfl, rfl⟩))))
theorem r_23 {K : Kt} {m a22 j i k : Nat} {n : Int32} {S : MM} (hM : MP S m a22) (hj : j < 8) (h : ∀ S', MP S' m a22 → MK S S' → K [(0, .ref m), (1, .int (nI j)), (2, .int (nI i)), (3, .int (nI k)), (4, .int n)] [] S' 0 0) : ldA 0 (gR 8 23 (ldI 1 (ldI 4 (sAI K)))) [(0, .ref m), (1, .int (nI j)), (2, .int (nI i)), (3, .int (nI k)), (4, .int n)] [] S 0 0 := by
  obtain ⟨a, p, q, l, g⟩ := MP_w hM (k := 23) (by decide) (by decide)
  exact And.intro hM.1 (useR p (And.intro q (And.intro (by rw [l]; exact in_nI hj (by decide)) (h _ (g _ _) ⟨rfl, rfl, rfl⟩))))
theorem r_11a {K : Kt} {m a22 j i k : Nat} {n : Int32} {S : MM} (hM : MP S m a22) (hi : i < 8) (h : ∀ S', MP S' m a22 → MK S S' → K [(0, .ref m), (1, .int (nI j)), (2, .int (nI i)), (3, .int (nI k)), (4, .int n)] [] S' 0 0) : ldA 0 (gR 8 11 (ldI 2 (ldI 1 (sAI K)))) [(0, .ref m), (1, .int (nI j)), (2, .int (nI i)), (3, .int (nI k)), (4, .int n)] [] S 0 0 := by
  obtain ⟨a, p, q, l, g⟩ := MP_w hM (k := 11) (by decide) (by decide)
  exact And.intro hM.1 (useR p (And.intro q (And.intro (by rw [l]; exact in_nI (show i < 16 by omega) (by decide)) (h _ (g _ _) ⟨rfl, rfl, rfl⟩))))
theorem e80 {k : Nat} : (8 : Int32) + nI k = nI (8 + k) := by rw [show (8 : Int32) = nI 8 from rfl, nI_add]
theorem r_11b {K : Kt} {m a22 j i k : Nat} {n : Int32} {S : MM} (hM : MP S m a22) (hk : k < 8) (h : ∀ S', MP S' m a22 → MK S S' → K [(0, .ref m), (1, .int (nI j)), (2, .int (nI i)), (3, .int (nI k)), (4, .int n)] [] S' 0 0) : ldA 0 (gR 8 11 (cI 8 (ldI 3 (bop (fun x y => x + y) (ldI 1 (sAI K)))))) [(0, .ref m), (1, .int (nI j)), (2, .int (nI i)), (3, .int (nI k)), (4, .int n)] [] S 0 0 := by
  obtain ⟨a, p, q, l, g⟩ := MP_w hM (k := 11) (by decide) (by decide)
  exact And.intro hM.1 (useR p (And.intro q (And.intro (by show vp_in ((8 : Int32) + nI k) (sN S a); rw [e80, l]; exact in_nI (show 8 + k < 16 by omega) (by decide)) (h _ (g _ _) ⟨rfl, rfl, rfl⟩))))
theorem r_up {K : Kt} {m a22 j i k : Nat} {n : Int32} {S : MM} (hM : MP S m a22) (hj : j < 8) (h : ∀ S', MP S' m a22 → MK S S' → K [(0, .ref m), (1, .int (nI j)), (2, .int (nI i)), (3, .int (nI k)), (4, .int n)] [] S' 0 0) : ldA 0 (ldI 1 (cV 1 8 wX8_isUp 0 0 0 0 K)) [(0, .ref m), (1, .int (nI j)), (2, .int (nI i)), (3, .int (nI k)), (4, .int n)] [] S 0 0 :=
  And.intro hM.1 (And.intro ⟨by decide, by decide⟩ (s_PisUp hM hj h))
theorem r_nq {K : Kt} {m a22 j i k : Nat} {n : Int32} {S : MM} (hM : MP S m a22) (h : ∀ S', MP S' m a22 → MK S S' → K [(0, .ref m), (1, .int (nI j)), (2, .int (nI i)), (3, .int (nI k)), (4, .int n)] [] S' 0 0) : ldA 0 (cV 0 8 wX8_isNotQuiet 0 0 0 0 K) [(0, .ref m), (1, .int (nI j)), (2, .int (nI i)), (3, .int (nI k)), (4, .int n)] [] S 0 0 :=
  And.intro hM.1 (And.intro ⟨by decide, by decide⟩ (s_PnotQ hM h))
theorem MK.tr {S S1 S2 : MM} (h : MK S S1) (k : MK S1 S2) : MK S S2 := ⟨k.1.trans h.1, k.2.1.trans h.2.1, k.2.2.trans h.2.2⟩
theorem q_M90 {Q : Option Value → MM → Prop} {f m a22 j i k : Nat} {n : Int32} {S : MM} (hM : MP S m a22) (hj : j < 8) (hi : i < 8) (hk : k < 8) (h : ∀ S', MR S S' m 0 → Q none S') : wpn (kX8_plug Q) (f + 1) 90 [(0, .ref m), (1, .int (nI j)), (2, .int (nI i)), (3, .int (nI k)), (4, .int n)] [] S 0 0 := by
  refine stp ?_
  show bX8_plug_90 Q (wpn (kX8_plug Q) f) [(0, .ref m), (1, .int (nI j)), (2, .int (nI i)), (3, .int (nI k)), (4, .int n)] [] S 0 0
  unfold bX8_plug_90
  refine r_24 hM hj (fun S1 M1 k1 => r_22a M1 hj hi (fun S2 M2 k2 => r_22b M2 hj hk (fun S3 M3 k3 => r_23 M3 hj (fun S4 M4 k4 => r_11a M4 hi (fun S5 M5 k5 => r_11b M5 hk (fun S6 M6 k6 => r_up M6 hj (fun S7 M7 k7 => r_nq M7 (fun S8 M8 k8 => ?_))))))))
  have kk := (((((((k1.tr k2).tr k3).tr k4).tr k5).tr k6).tr k7).tr k8)
  exact h S8 ⟨kk.1, kk.2.1, kk.2.2, M8.2.2.2.1⟩
theorem q_M76 {Q : Option Value → MM → Prop} {f m j i k : Nat} {n : Int32} {S : MM} (hM : MF S m) (hj : j < 8) (hi : i < 8) (hk : k < 8) (h : ∀ S', MR S S' m 0 → Q none S') : wpn (kX8_plug Q) (f + 2) 76 [(0, .ref m), (1, .int (nI j)), (2, .int (nI i)), (3, .int (nI k)), (4, .int n)] [] S 0 0 := by
  obtain ⟨a, p, q, l, g, -⟩ := hM.2.2.1 24 (by decide)
  obtain ⟨a22, hP⟩ := MP_F hM
  refine stp ?_
  show bX8_plug_76 Q (wpn (kX8_plug Q) (f + 1)) [(0, .ref m), (1, .int (nI j)), (2, .int (nI i)), (3, .int (nI k)), (4, .int n)] [] S 0 0
  unfold bX8_plug_76
  exact And.intro hM.1 (useR p (And.intro q (And.intro (by rw [l]; exact in_nI hj (by decide)) (ifT (by show sI S a (nI j).toNatClampNeg = 0; rw [g]; rfl) (q_M90 hP hj hi hk h)))))
theorem q_M65 {Q : Option Value → MM → Prop} {f m j i k : Nat} {n : Int32} {S : MM} (hM : MF S m) (hj : j < 8) (hi : i < 8) (hk : k < 8) (h : ∀ S', MR S S' m 0 → Q none S') : wpn (kX8_plug Q) (f + 3) 65 [(0, .ref m), (1, .int (nI j)), (2, .int (nI i)), (3, .int (nI k)), (4, .int n)] [.int 0, .ref m] S 0 0 := by
  have same : pI S m 0 0 = S := pI_same (hM.2.1 0)
  refine stp ?_
  show bX8_plug_65 Q (wpn (kX8_plug Q) (f + 2)) [(0, .ref m), (1, .int (nI j)), (2, .int (nI i)), (3, .int (nI k)), (4, .int n)] [.int 0, .ref m] S 0 0
  unfold bX8_plug_65
  refine And.intro hM.1 ?_
  show ldA 0 _ [(0, .ref m), (1, .int (nI j)), (2, .int (nI i)), (3, .int (nI k)), (4, .int n)] [] (pI S m 0 0) 0 0
  rw [same]
  exact And.intro hM.1 (ifT (by show sI S m 0 ≤ 0; rw [hM.2.1]; decide) (q_M76 hM hj hi hk h))
theorem q_Mbad {Q : Option Value → MM → Prop} {f m : Nat} {lv : Lv} {S : MM} (hg : lvg lv 0 = some (.ref m)) (hm : sK S m = 9) (h : Q none (pI S m 0 1)) : wpn (kX8_plug Q) (f + 3) 65 lv [.int 1, .ref m] S 0 0 := by
  refine stp ?_
  show bX8_plug_65 Q (wpn (kX8_plug Q) (f + 2)) lv [.int 1, .ref m] S 0 0
  unfold bX8_plug_65
  refine And.intro hm ?_
  show ldA 0 _ lv [] (pI S m 0 1) 0 0
  unfold ldA
  rw [hg]
  exact And.intro hm (ifF (by show ¬ sI (pI S m 0 1) m 0 ≤ 0; rw [sI_pI, up2_self]; decide) h)
theorem q_M64 {Q : Option Value → MM → Prop} {f m j i k : Nat} {n : Int32} {S : MM} (hM : MF S m) (hj : j < 8) (hi : i < 8) (hk : k < 8) (h : ∀ S', MR S S' m 0 → Q none S') : wpn (kX8_plug Q) (f + 4) 64 [(0, .ref m), (1, .int (nI j)), (2, .int (nI i)), (3, .int (nI k)), (4, .int n)] [.ref m] S 0 0 :=
  stp (show cI 0 (wpn (kX8_plug Q) (f + 3) 65) [(0, .ref m), (1, .int (nI j)), (2, .int (nI i)), (3, .int (nI k)), (4, .int n)] [.ref m] S 0 0 from stI0 (q_M65 hM hj hi hk h))
theorem q_M35 {Q : Option Value → MM → Prop} {f m : Nat} {lv : Lv} {S : MM} (hg : lvg lv 0 = some (.ref m)) (hm : sK S m = 9) (h : Q none (pI S m 0 1)) : wpn (kX8_plug Q) (f + 4) 35 lv [.ref m] S 0 0 :=
  stp (show cI 1 (wpn (kX8_plug Q) (f + 3) 65) lv [.ref m] S 0 0 from stI0 (q_Mbad hg hm h))
theorem q_M39 {Q : Option Value → MM → Prop} {f m j i k : Nat} {n : Int32} {S : MM} (hM : MF S m) (hj : j < 8) (hi : i < 8) (hk : k < 8) (h : ∀ S', MR S S' m 0 → Q none S') : wpn (kX8_plug Q) (f + 5) 39 [(0, .ref m), (1, .int (nI j)), (2, .int (nI i)), (3, .int (nI k)), (4, .int n)] [.ref m] S 0 0 := by
  refine stp ?_
  show bX8_plug_39 Q (wpn (kX8_plug Q) (f + 4)) [(0, .ref m), (1, .int (nI j)), (2, .int (nI i)), (3, .int (nI k)), (4, .int n)] [.ref m] S 0 0
  unfold bX8_plug_39
  refine And.intro hM.1 (And.intro ⟨by decide, by decide⟩ (s_PisAnother hM (show i < 16 by omega) (if0 (And.intro hM.1 (And.intro ⟨by decide, by decide⟩ ?_)))))
  show wX8_isAnother [.ref m, .int ((8 : Int32) + nI k), .int (nI j)] S _
  rw [e80]
  exact s_PisAnother hM (show 8 + k < 16 by omega) (if0 (q_M64 hM hj hi hk h))
theorem s_Mplug {S : MM} {m : Nat} {v a b n : Int32} {Q : Option Value → MM → Prop} (hM : MF S m) (hb : gP v a b n → Q none (pI S m 0 1)) (ho : ¬ gP v a b n → ∀ S', MR S S' m 0 → Q none S') : wX8_plug [.ref m, .int v, .int a, .int b, .int n] S Q := by
  have t : gP v a b n → wpn (kX8_plug Q) 5 35 [(0, .ref m), (1, .int v), (2, .int a), (3, .int b), (4, .int n)] [.ref m] S 0 0 := fun h => q_M35 (f := 1) rfl hM.1 (hb h)
  refine Exists.intro 6 (And.intro ⟨by decide, by decide⟩ (s_MisCable (fun h => if0 (t (Or.inl h))) (fun j hj ej => if1 (And.intro ⟨by decide, by decide⟩ (s_MisPort (fun h => if0 (t (Or.inr (Or.inl h)))) (fun i hi ei => if1 (And.intro ⟨by decide, by decide⟩ (s_MisPort (fun h => if0 (t (Or.inr (Or.inr (Or.inl h))))) (fun k hk ek => if1 (And.intro (fun h => t (Or.inr (Or.inr (Or.inr (Or.inl h))))) (fun h0 => And.intro (fun h1 => ?_) (fun h => t (Or.inr (Or.inr (Or.inr (Or.inr h))))))))))))))))
  have nb := no_gP hj ej hi ei hk ek h0 h1
  subst ej ei ek
  exact q_M39 (f := 0) hM hj hi hk (ho nb)
theorem c_plug {b : Nat} {xs : Nat → Int32} {S : MM} {x aE aC e0 e1 m out c z : Nat} (h : GG S x aE aC e0 e1 m out) (hc : c + 1 ≤ 600002) (hz : z + 6 ≤ 7302232) : wpn (kL_law b 5 xs) 9 424 [(4, .int 0), (3, .ref out), (2, .ref m), (1, .ref x), (0, .ref b)] [] S c z := by
  obtain ⟨hB, hM, ho1, ho2⟩ := h
  refine And.intro rfl (And.intro (v5 (i := 1) (by decide)) (And.intro rfl (And.intro (v5 (i := 2) (by decide)) (And.intro rfl (And.intro (v5 (i := 3) (by decide)) (And.intro rfl (And.intro (v5 (i := 4) (by decide)) (And.intro ⟨hc, hz⟩ (s_Lplug hB (fun hb => ?_) (fun nb S' hS => ?_))))))))))
  · refine And.intro rfl (And.intro (v5 (i := 1) (by decide)) (And.intro rfl (And.intro (v5 (i := 2) (by decide)) (And.intro rfl (And.intro (v5 (i := 3) (by decide)) (And.intro rfl (And.intro (v5 (i := 4) (by decide)) (And.intro hM.1 (And.intro ⟨hc, hz⟩ (s_Mplug hM (fun _ => And.intro hM.1 (And.intro ⟨hc, hz⟩ (s_thrown hM.1 ?_))) (fun nb => absurd hb nb)))))))))))
    rw [sI_pI, up2_self]
    exact And.intro (fun _ => And.intro rfl (And.intro (fun _ => rfl) (fun h => absurd (by decide) h))) (fun h => absurd rfl h)
  · have hM2 : MF S' m := MF_Kc hM hS
    refine And.intro rfl (And.intro (v5 (i := 1) (by decide)) (And.intro rfl (And.intro (v5 (i := 2) (by decide)) (And.intro rfl (And.intro (v5 (i := 3) (by decide)) (And.intro rfl (And.intro (v5 (i := 4) (by decide)) (And.intro hM2.1 (And.intro ⟨hc, hz⟩ (s_Mplug hM2 (fun q => absurd q nb) (fun _ S2 hR => ?_)))))))))))
    have km : sK S2 m = 9 := by rw [hR.1]; exact hM2.1
    refine And.intro km (And.intro ⟨hc, hz⟩ (s_thrown km ?_))
    rw [hR.2.2.2]
    exact And.intro (fun _ => And.intro rfl (And.intro (fun _ => rfl) (fun h => absurd (by decide) h))) (fun h => absurd rfl h)
