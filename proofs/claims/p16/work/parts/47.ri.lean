/-! WHAT THE REFERENCE KEEPS of view V, stage G, cable of a port I, port of a cable Po, delay D, plugged P, up U -/
def RI (V G I Po D P U : Nat → Int32) : Prop :=
  (∀ c, c < 8 → U c ≠ 0 → P c ≠ 0) ∧
  (∀ c e p, c < 8 → e < 2 → p < 8 → P c ≠ 0 → Po (2 * c + e) = nI p → I (8 * e + p) = nI c) ∧
  (∀ c, c < 8 → P c ≠ 0 → ∃ d, 1 ≤ d ∧ d ≤ 8 ∧ D c = nI d) ∧
  (∀ e p, e < 2 → p < 8 → I (8 * e + p) = -1 ∨ ∃ c, c < 8 ∧ I (8 * e + p) = nI c ∧ P c ≠ 0 ∧ Po (2 * c + e) = nI p) ∧
  ∀ e p, e < 2 → p < 8 → (V (8 * e + p) ≠ 0 ∨ G (8 * e + p) = 4) → ∃ c, c < 8 ∧ I (8 * e + p) = nI c ∧ U c ≠ 0
theorem nI_inj {a b : Nat} (ha : a < 1000000) (hb : b < 1000000) (h : nI a = nI b) : a = b := by
  have := congrArg Int32.toInt h
  rw [nI_toInt (by omega), nI_toInt (by omega)] at this
  omega
theorem nI_m1 {a : Nat} (ha : a < 1000000) : nI a ≠ -1 := fun h => by
  have := congrArg Int32.toInt h
  rw [nI_toInt (by omega), show (-1 : Int32).toInt = -1 from by decide] at this
  omega
theorem upd2 {f : Nat → Int32} {a b j : Nat} {x : Int32} (h1 : j ≠ a) (h2 : j ≠ b) : upd (upd f a x) b x j = f j := by rw [pk_un h2, pk_un h1]
theorem upd2_in {f : Nat → Int32} {a b j : Nat} {x : Int32} (h : j = a ∨ j = b) : upd (upd f a x) b x j = x := by
  by_cases hb : j = b
  · rw [hb, pk_us]
  · rw [pk_un hb]
    rcases h with q | q
    · rw [q, pk_us]
    · exact absurd q hb
theorem RI_up {V G I Po D P U : Nat → Int32} {c p0 p1 : Nat} (h : RI V G I Po D P U) (hc : c < 8) (hP : P c ≠ 0) (h0 : p0 < 8) (h1 : p1 < 8) (e0 : Po (2 * c + 0) = nI p0) (e1 : Po (2 * c + 1) = nI p1) : RI (upd (upd V (8 * 0 + p0) (nI 1)) (8 * 1 + p1) (nI 1)) (upd (upd G (8 * 0 + p0) (nI 0)) (8 * 1 + p1) (nI 0)) I Po D P (upd U c (nI 1)) := by
  obtain ⟨i1, i2, i3, i4, i5⟩ := h
  have up1 : ∀ c', U c' ≠ 0 → upd U c (nI 1) c' ≠ 0 := fun c' hu => by
    by_cases hz : c' = c
    · rw [hz, pk_us]; decide
    · rw [pk_un hz]; exact hu
  refine ⟨fun c' hc' hu => ?_, i2, i3, i4, fun e p he hp hb => ?_⟩
  · by_cases hz : c' = c
    · rw [hz]; exact hP
    · rw [pk_un hz] at hu; exact i1 c' hc' hu
  · by_cases hx : 8 * e + p = 8 * 0 + p0 ∨ 8 * e + p = 8 * 1 + p1
    · refine ⟨c, hc, ?_, by rw [pk_us]; decide⟩
      rcases hx with q | q
      · have a1 : e = 0 := by omega
        have a2 : p = p0 := by omega
        subst a1 a2
        exact i2 c 0 p hc (by decide) hp hP e0
      · have a1 : e = 1 := by omega
        have a2 : p = p1 := by omega
        subst a1 a2
        exact i2 c 1 p hc (by decide) hp hP e1
    · have n1 : 8 * e + p ≠ 8 * 0 + p0 := fun z => hx (Or.inl z)
      have n2 : 8 * e + p ≠ 8 * 1 + p1 := fun z => hx (Or.inr z)
      rw [upd2 n1 n2, upd2 n1 n2] at hb
      obtain ⟨c', hc', q1, q2⟩ := i5 e p he hp hb
      exact ⟨c', hc', q1, up1 c' q2⟩
theorem RI_cut {V G I Po D P U : Nat → Int32} {c p0 p1 : Nat} (h : RI V G I Po D P U) (hc : c < 8) (h0 : p0 < 8) (h1 : p1 < 8) (e0 : Po (2 * c + 0) = nI p0) (e1 : Po (2 * c + 1) = nI p1) : RI (upd (upd V (8 * 0 + p0) (nI 0)) (8 * 1 + p1) (nI 0)) (upd (upd G (8 * 0 + p0) (nI 0)) (8 * 1 + p1) (nI 0)) I Po D P (upd U c (nI 0)) := by
  obtain ⟨i1, i2, i3, i4, i5⟩ := h
  refine ⟨fun c' hc' hu => ?_, i2, i3, i4, fun e p he hp hb => ?_⟩
  · by_cases hz : c' = c
    · rw [hz, pk_us] at hu; exact absurd rfl hu
    · rw [pk_un hz] at hu; exact i1 c' hc' hu
  · by_cases hx : 8 * e + p = 8 * 0 + p0 ∨ 8 * e + p = 8 * 1 + p1
    · rw [upd2_in hx, upd2_in hx] at hb
      rcases hb with q | q
      · exact absurd rfl q
      · exact absurd q (by decide)
    · have n1 : 8 * e + p ≠ 8 * 0 + p0 := fun z => hx (Or.inl z)
      have n2 : 8 * e + p ≠ 8 * 1 + p1 := fun z => hx (Or.inr z)
      rw [upd2 n1 n2, upd2 n1 n2] at hb
      obtain ⟨c', hc', q1, q2⟩ := i5 e p he hp hb
      have nc : c' ≠ c := fun z => by
        rcases i4 e p he hp with w | ⟨c2, w1, w2, w3, w4⟩
        · exact nI_m1 (by omega) (q1.symm.trans w)
        · have ec : c2 = c' := nI_inj (by omega) (by omega) (w2.symm.trans q1)
          rw [ec, z] at w4
          have he2 : e = 0 ∨ e = 1 := by omega
          rcases he2 with rfl | rfl
          · exact n1 (by rw [nI_inj (by omega) (by omega) (w4.symm.trans e0)])
          · exact n2 (by rw [nI_inj (by omega) (by omega) (w4.symm.trans e1)])
      exact ⟨c', hc', q1, by rw [pk_un nc]; exact q2⟩
theorem RI_pull {V G I Po D P U : Nat → Int32} {c p0 p1 : Nat} (h : RI V G I Po D P U) (hc : c < 8) (hP : P c ≠ 0) (hU : U c = 0) (h0 : p0 < 8) (h1 : p1 < 8) (e0 : Po (2 * c + 0) = nI p0) (e1 : Po (2 * c + 1) = nI p1) : RI V G (upd (upd I (8 * 0 + p0) (-1)) (8 * 1 + p1) (-1)) Po D (upd P c (nI 0)) U := by
  obtain ⟨i1, i2, i3, i4, i5⟩ := h
  have I0 : I (8 * 0 + p0) = nI c := i2 c 0 p0 hc (by decide) h0 hP e0
  have I1 : I (8 * 1 + p1) = nI c := i2 c 1 p1 hc (by decide) h1 hP e1
  have at_c : ∀ e p, 8 * e + p = 8 * 0 + p0 ∨ 8 * e + p = 8 * 1 + p1 → I (8 * e + p) = nI c := fun e p hx => by
    rcases hx with q | q
    · rw [q]; exact I0
    · rw [q]; exact I1
  have one : ∀ e p, e < 2 → Po (2 * c + e) = nI p → p < 8 → 8 * e + p = 8 * 0 + p0 ∨ 8 * e + p = 8 * 1 + p1 := fun e p he hp hp8 => by
    have he2 : e = 0 ∨ e = 1 := by omega
    rcases he2 with rfl | rfl
    · exact Or.inl (by rw [nI_inj (by omega) (by omega) (hp.symm.trans e0)])
    · exact Or.inr (by rw [nI_inj (by omega) (by omega) (hp.symm.trans e1)])
  refine ⟨fun c' hc' hu => ?_, fun c' e p hc' he hp hp' hpo => ?_, fun c' hc' hp' => ?_, fun e p he hp => ?_, fun e p he hp hb => ?_⟩
  · have nc : c' ≠ c := fun z => hu (by rw [z]; exact hU)
    rw [pk_un nc]; exact i1 c' hc' hu
  · have nc : c' ≠ c := fun z => hp' (by rw [z, pk_us]; rfl)
    rw [pk_un nc] at hp'
    have q := i2 c' e p hc' he hp hp' hpo
    have hx : ¬ (8 * e + p = 8 * 0 + p0 ∨ 8 * e + p = 8 * 1 + p1) := fun z => nc (nI_inj (by omega) (by omega) (q.symm.trans (at_c e p z)))
    rw [upd2 (fun z => hx (Or.inl z)) (fun z => hx (Or.inr z))]
    exact q
  · have nc : c' ≠ c := fun z => hp' (by rw [z, pk_us]; rfl)
    rw [pk_un nc] at hp'
    exact i3 c' hc' hp'
  · by_cases hx : 8 * e + p = 8 * 0 + p0 ∨ 8 * e + p = 8 * 1 + p1
    · exact Or.inl (upd2_in hx)
    · rw [upd2 (fun z => hx (Or.inl z)) (fun z => hx (Or.inr z))]
      rcases i4 e p he hp with q | ⟨c2, q1, q2, q3, q4⟩
      · exact Or.inl q
      · have nc : c2 ≠ c := fun z => hx (one e p he (by rw [← z]; exact q4) hp)
        exact Or.inr ⟨c2, q1, q2, by rw [pk_un nc]; exact q3, q4⟩
  · obtain ⟨c', hc', q1, q2⟩ := i5 e p he hp hb
    have hx : ¬ (8 * e + p = 8 * 0 + p0 ∨ 8 * e + p = 8 * 1 + p1) := fun z => q2 (by
      rw [nI_inj (by omega) (by omega) (q1.symm.trans (at_c e p z))]
      exact hU)
    rw [upd2 (fun z => hx (Or.inl z)) (fun z => hx (Or.inr z))]
    exact ⟨c', hc', q1, q2⟩
