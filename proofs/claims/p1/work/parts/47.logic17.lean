-- cable
def cbN (t : Nat) : Int32 := if t ≤ 2 then -1 else 0
theorem s_cable {S : MM} {x aE aC e0 e1 : Nat} {v w : Int32} {Q : Option Value → MM → Prop} {X : String → MM → Prop} (hB : B0 S x aE aC e0 e1) (hb : v < 0 ∨ 8 ≤ v → X nseC S) (hd : ¬ (v < 0 ∨ 8 ≤ v) → w.toInt < 0 ∨ 8 < w.toInt → Q (some (.int (-1))) S) (hj : ¬ (v < 0 ∨ 8 ≤ v) → ∀ t : Nat, t ≤ 8 → w.toInt = t → Q (some (.int (cbN t))) S) : wX7_cable [.ref x, .int v, .int w] S Q X := by
  obtain ⟨⟨b1, b2, b3, b4, b5, b6, b7, b8, b9, b10⟩, hz, hE0, hE1, hC⟩ := hB
  refine Exists.intro 5 (And.intro ⟨by decide, by decide⟩ (s_isCable (fun h => if0 (And.intro ⟨by decide, by decide⟩ (hb h))) (fun j hj8 e => if1 ?_)))
  have nb : ¬ (v < 0 ∨ 8 ≤ v) := fun q => no_8 q hj8 e
  subst e
  obtain ⟨a, a1, a2⟩ := hC j hj8
  obtain ⟨ac, a3, ll, l1, l2, l3, l4⟩ := a2
  obtain ⟨q0, m0, n0⟩ := l4 0 (by decide)
  obtain ⟨q1, m1, n1⟩ := l4 1 (by decide)
  have v0 : vp_in 0 (sN S ll) := by rw [l3]; exact in_0 (by decide)
  have v1 : vp_in 1 (sN S ll) := by rw [l3]; exact in_nI (i := 1) (by decide) (by decide)
  refine And.intro b1 (useR b3 (And.intro b6 (And.intro (by rw [b7]; exact in_nI hj8 (by decide)) (useR (v := some a) (by rw [cl_nI (by omega)]; exact a1) ?_))))
  refine And.intro (fun h => hd nb h) (fun t et hle => ?_)
  have ht : t ≤ 8 := by omega
  have hq := hj nb t ht (by omega)
  match t, ht, hq with
  | 0, _, hq => exact And.intro ac.1 (And.intro ⟨by decide, by decide⟩ (s_isPlugged0 ac (if0 hq)))
  | 1, _, hq => exact And.intro ac.1 (And.intro ⟨by decide, by decide⟩ (s_isPlugged0 ac (if0 hq)))
  | 2, _, hq => exact And.intro ac.1 (And.intro ⟨by decide, by decide⟩ (s_isPlugged0 ac (if0 hq)))
  | 3, _, hq => exact And.intro ac.1 (And.intro (fun _ => hq) (fun h => absurd ac.2.1 h))
  | 4, _, hq => exact And.intro ac.1 (And.intro (fun _ => hq) (fun h => absurd ac.2.2.1 h))
  | 5, _, hq => exact And.intro ac.1 (useR l1 (And.intro l2 (And.intro v0 (useR m0 (And.intro n0.1 (by show Q (some (.int (sI S q0 5))) S; rw [n0.2 5]; exact hq))))))
  | 6, _, hq => exact And.intro ac.1 (useR l1 (And.intro l2 (And.intro v1 (useR m1 (And.intro n1.1 (by show Q (some (.int (sI S q1 5))) S; rw [n1.2 5]; exact hq))))))
  | 7, _, hq => exact And.intro ac.1 (useR l1 (And.intro l2 (And.intro v0 (useR m0 (And.intro n0.1 (by show Q (some (.int (sI S q0 2))) S; rw [n0.2 2]; exact hq))))))
  | 8, _, hq => exact And.intro ac.1 (useR l1 (And.intro l2 (And.intro v1 (useR m1 (And.intro n1.1 (by show Q (some (.int (sI S q1 2))) S; rw [n1.2 2]; exact hq))))))
  | n + 9, h, _ => omega
theorem s_Lcable {S : MM} {x aE aC e0 e1 out : Nat} {v w : Int32} {Q : Option Value → MM → Prop} (hB : B0 S x aE aC e0 e1) (o1 : sK S out = 18) (o2 : sN S out = 1) (hb : v < 0 ∨ 8 ≤ v → Q (some (.int 1)) S) (hd : ¬ (v < 0 ∨ 8 ≤ v) → w.toInt < 0 ∨ 8 < w.toInt → Q (some (.int 0)) (pJ S out 0 (Int32.toInt64 (-1)))) (hj : ¬ (v < 0 ∨ 8 ≤ v) → ∀ t : Nat, t ≤ 8 → w.toInt = t → Q (some (.int 0)) (pJ S out 0 (Int32.toInt64 (cbN t)))) : wL_cable [.ref x, .int v, .int w, .ref out] S Q := by
  refine Exists.intro 3 (And.intro hB.1.1 (And.intro ⟨by decide, by decide⟩ (s_cable hB (fun h q => ?_) (fun nb h => ?_) (fun nb t ht e => ?_))))
  · rw [hd1_1]; exact hb h
  · exact And.intro o1 (And.intro (by show vp_in 0 (sN S out); rw [o2]; exact in_0 (by decide)) (hd nb h))
  · exact And.intro o1 (And.intro (by show vp_in 0 (sN S out); rw [o2]; exact in_0 (by decide)) (hj nb t ht e))
theorem s_Magrees0 {S : MM} {m j : Nat} {Q : Option Value → MM → Prop} (hM : MF S m) (hj : j < 8) (h : Q (some (.int 0)) S) : wX8_agrees [.ref m, .int (nI j)] S Q := by
  obtain ⟨a, a1, a2, a3, a4, -⟩ := hM.2.2.1 24 (by decide)
  exact Exists.intro 3 (And.intro hM.1 (useR a1 (And.intro a2 (And.intro (by rw [a3]; exact in_nI hj (by decide)) (And.intro (fun _ => And.intro (Or.inl rfl) h) (fun h0 => absurd (by rw [a4]; rfl) h0))))))
theorem s_MisMeant0 {S : MM} {m j : Nat} {Q : Option Value → MM → Prop} (hM : MF S m) (hj : j < 8) (h : Q (some (.int 0)) S) : wX8_isMeant [.ref m, .int (nI j)] S Q :=
  Exists.intro 3 (And.intro hM.1 (And.intro ⟨by decide, by decide⟩ (s_Magrees0 hM hj (if0 (And.intro (Or.inl rfl) h)))))
theorem s_Mon0 {S : MM} {m : Nat} {u v w : Int32} {Q : Option Value → MM → Prop} (hm : sK S m = 9) (hz : sI S m 32 = 0) (h : Q (some (.int 0)) S) : wX8_on [.ref m, .int u, .int v, .int w] S Q :=
  Exists.intro 3 (And.intro hm (And.intro (fun _ => h) (fun h0 => absurd (by rw [hz]; decide) h0)))
theorem s_Mcable {S : MM} {m : Nat} {v w : Int32} {Q : Option Value → MM → Prop} (hM : MF S m) (hb : v < 0 ∨ 8 ≤ v → Q (some (.int 0)) (pI S m 0 1)) (hd : ¬ (v < 0 ∨ 8 ≤ v) → w.toInt < 0 ∨ 8 < w.toInt → Q (some (.int (-1))) S) (hj : ¬ (v < 0 ∨ 8 ≤ v) → ∀ t : Nat, t ≤ 8 → w.toInt = t → Q (some (.int (cbN t))) S) : wX8_cable [.ref m, .int v, .int w] S Q := by
  have hm := hM.1
  have hz := hM.2.1
  obtain ⟨a, p, q, l, f, -⟩ := hM.2.2.1 24 (by decide)
  have hsame : pI S m 0 0 = S := pI_same (hz 0)
  have tb : sI (pI S m 0 1) m 0 ≤ 0 → False := fun h => by rw [sI_pI, up2_self] at h; exact absurd h (by decide)
  refine Exists.intro 7 (And.intro ⟨by decide, by decide⟩ (s_MisCable (fun h => if0 (And.intro hm (And.intro hm (And.intro (fun h0 => (tb h0).elim) (fun _ => hb h))))) (fun j hj8 e => if1 ?_)))
  have nb : ¬ (v < 0 ∨ 8 ≤ v) := fun q => no_8 q hj8 e
  subst e
  refine And.intro hm ?_
  show ldA 0 _ [(0, .ref m), (1, .int (nI j)), (2, .int w)] [] (pI S m 0 0) 0 0
  rw [hsame]
  refine And.intro hm (And.intro (fun _ => ?_) (fun h => absurd (by rw [hz]; decide) h))
  refine And.intro (fun h => hd nb h) (fun t et hle => ?_)
  have ht : t ≤ 8 := by omega
  have hq := hj nb t ht (by omega)
  have hv : vp_in (nI j) (sN S a) := by rw [l]; exact in_nI hj8 (by decide)
  have ez : sI S a (nI j).toNatClampNeg = 0 := by rw [f]; simp [fM, f0M]
  match t, ht, hq with
  | 0, _, hq => exact And.intro hm (useR p (And.intro q (And.intro hv (And.intro (fun _ => hq) (fun h => absurd ez h)))))
  | 1, _, hq => exact And.intro hm (useR p (And.intro q (And.intro hv (And.intro (fun _ => hq) (fun h => absurd ez h)))))
  | 2, _, hq => exact And.intro hm (useR p (And.intro q (And.intro hv (And.intro (fun _ => hq) (fun h => absurd ez h)))))
  | 3, _, hq => exact And.intro hm (useR p (And.intro q (And.intro hv (And.intro (fun _ => hq) (fun h => absurd ez h)))))
  | 4, _, hq => exact And.intro hm (And.intro ⟨by decide, by decide⟩ (s_MisMeant0 hM hj8 (if0 hq)))
  | 5, _, hq => exact And.intro hm (And.intro ⟨by decide, by decide⟩ (s_Mon0 hm (hz 32) hq))
  | 6, _, hq => exact And.intro hm (And.intro ⟨by decide, by decide⟩ (s_Mon0 hm (hz 32) hq))
  | 7, _, hq => exact And.intro hm (And.intro ⟨by decide, by decide⟩ (s_Mon0 hm (hz 32) hq))
  | 8, _, hq => exact And.intro hm (And.intro ⟨by decide, by decide⟩ (s_Mon0 hm (hz 32) hq))
  | n + 9, h, _ => omega
theorem c_cable {b : Nat} {xs : Nat → Int32} {S : MM} {x aE aC e0 e1 m out c z : Nat} (h : GG S x aE aC e0 e1 m out) (hc : c + 1 ≤ 600002) (hz : z + 6 ≤ 7302232) : wpn (kL_law b 5 xs) 9 964 [(4, .int 0), (3, .ref out), (2, .ref m), (1, .ref x), (0, .ref b)] [] S c z := by
  obtain ⟨hB, hM, ho1, ho2⟩ := h
  refine And.intro rfl (And.intro (v5 (i := 1) (by decide)) (And.intro rfl (And.intro (v5 (i := 2) (by decide)) (And.intro ⟨hc, hz⟩ (s_Lcable hB ho1 ho2 (fun hb => ?_) (fun nb hu => ?_) (fun nb t ht e => ?_))))))
  · refine And.intro rfl (And.intro (v5 (i := 1) (by decide)) (And.intro rfl (And.intro (v5 (i := 2) (by decide)) (And.intro hM.1 (And.intro ⟨hc, hz⟩ (s_Mcable hM (fun _ => And.intro hM.1 (And.intro ⟨hc, hz⟩ (s_thrown hM.1 ?_))) (fun nb => absurd hb nb) (fun nb => absurd hb nb)))))))
    rw [sI_pI, up2_self]
    exact And.intro (fun _ => And.intro (fun h => absurd h (by decide)) (fun _ => And.intro rfl (And.intro (fun _ => rfl) (fun h => absurd (by decide) h)))) (fun h => absurd rfl h)
  · have hM2 : MF (pJ S out 0 (Int32.toInt64 (-1))) m := MF_pJ hM ho1
    have jO : sJ (pJ S out 0 (Int32.toInt64 (-1))) out 0 = Int32.toInt64 (-1) := by rw [sJ_pJ, up2_self]
    have kO : sK (pJ S out 0 (Int32.toInt64 (-1))) out = 18 := ho1
    have nO : sN (pJ S out 0 (Int32.toInt64 (-1))) out = 1 := ho2
    generalize pJ S out 0 (Int32.toInt64 (-1)) = S2 at hM2 jO kO nO
    refine And.intro rfl (And.intro (v5 (i := 1) (by decide)) (And.intro rfl (And.intro (v5 (i := 2) (by decide)) (And.intro hM2.1 (And.intro ⟨hc, hz⟩ (s_Mcable hM2 (fun q => absurd q nb) (fun _ q => ?_) (fun _ t' ht' e' => ?_)))))))
    · refine And.intro hM2.1 (And.intro ⟨hc, hz⟩ (s_thrown hM2.1 ?_))
      rw [hM2.2.1 0]
      refine And.intro (fun _ => And.intro (fun _ => And.intro kO (And.intro (by rw [nO]; exact in_0 (by decide)) ?_)) (fun h => absurd rfl h)) (fun h => absurd rfl h)
      show ifz (fun x => x = 0) _ _ _ [.int (lg_cmp (sJ S2 out 0) (Int32.toInt64 (-1)))] S2 _ _
      rw [jO, lg_self]
      exact And.intro (fun _ => And.intro rfl (And.intro (fun _ => rfl) (fun h => absurd (by decide) h))) (fun h => absurd rfl h)
    · exfalso; omega
  · have hM2 : MF (pJ S out 0 (Int32.toInt64 (cbN t))) m := MF_pJ hM ho1
    have jO : sJ (pJ S out 0 (Int32.toInt64 (cbN t))) out 0 = Int32.toInt64 (cbN t) := by rw [sJ_pJ, up2_self]
    have kO : sK (pJ S out 0 (Int32.toInt64 (cbN t))) out = 18 := ho1
    have nO : sN (pJ S out 0 (Int32.toInt64 (cbN t))) out = 1 := ho2
    generalize pJ S out 0 (Int32.toInt64 (cbN t)) = S2 at hM2 jO kO nO
    refine And.intro rfl (And.intro (v5 (i := 1) (by decide)) (And.intro rfl (And.intro (v5 (i := 2) (by decide)) (And.intro hM2.1 (And.intro ⟨hc, hz⟩ (s_Mcable hM2 (fun q => absurd q nb) (fun _ q => ?_) (fun _ t' ht' e' => ?_)))))))
    · exfalso; omega
    · have : t' = t := by omega
      subst this
      refine And.intro hM2.1 (And.intro ⟨hc, hz⟩ (s_thrown hM2.1 ?_))
      rw [hM2.2.1 0]
      refine And.intro (fun _ => And.intro (fun _ => And.intro kO (And.intro (by rw [nO]; exact in_0 (by decide)) ?_)) (fun h => absurd rfl h)) (fun h => absurd rfl h)
      show ifz (fun x => x = 0) _ _ _ [.int (lg_cmp (sJ S2 out 0) (Int32.toInt64 (cbN t')))] S2 _ _
      rw [jO, lg_self]
      exact And.intro (fun _ => And.intro rfl (And.intro (fun _ => rfl) (fun h => absurd (by decide) h))) (fun h => absurd rfl h)
