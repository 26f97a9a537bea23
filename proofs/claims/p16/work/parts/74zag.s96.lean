/-! SIMULATION 96: settled as the reference has it -/
theorem mcl_01 {I : Mm} {R : Nat → Nat → Option Nat} {b c : Nat} : mcl I R b c = nI 0 ∨ mcl I R b c = nI 1 := by
  unfold mcl
  repeat' split
  all_goals first | exact Or.inl rfl | exact Or.inr rfl
theorem isS_8 {R : Nat → Nat → Option Nat} {b : Nat} {I : Mm} : ∀ r i, i + r = 8 → (g_X7_isSettled_2 R b r i I = 0 ↔ ∃ c, i ≤ c ∧ c < 8 ∧ f_X0_isSettled I R b c = 0) := by
  intro r
  induction r with
  | zero =>
    intro i hi
    rw [g_X7_isSettled_2]
    exact ⟨fun h => absurd h (by decide), fun ⟨c, h1, h2, _⟩ => absurd h2 (by omega)⟩
  | succ r ih =>
    intro i hi
    rw [g_X7_isSettled_2]
    by_cases h : f_X0_isSettled I R b i = 0
    · rw [if_pos h]
      exact ⟨fun _ => ⟨i, Nat.le_refl i, by omega, h⟩, fun _ => rfl⟩
    · rw [if_neg h, ih (i + 1) (by omega)]
      refine ⟨fun ⟨c, h1, h2, h3⟩ => ⟨c, by omega, h2, h3⟩, fun ⟨c, h1, h2, h3⟩ => ⟨c, ?_, h2, h3⟩⟩
      have : c ≠ i := fun z => h (by rw [← z]; exact h3)
      omega
theorem isA_56 {m : Nat} {A : Nat → Nat} {J : Mm} : ∀ r i, i + r = 16 → (g_X8_isAsMeant_56 m A r i J = 0 ↔ ∃ x, i ≤ x ∧ x < 16 ∧ J (A 9) x = nI 4 ∧ f_X8_isMeant J m A (J (A 11) x).toNatClampNeg = 0) := by
  intro r
  induction r with
  | zero =>
    intro i hi
    rw [g_X8_isAsMeant_56]
    exact ⟨fun h => absurd h (by decide), fun ⟨c, h1, h2, _⟩ => absurd h2 (by omega)⟩
  | succ r ih =>
    intro i hi
    rw [g_X8_isAsMeant_56]
    have nx : ¬ (J (A 9) i = nI 4 ∧ f_X8_isMeant J m A (J (A 11) i).toNatClampNeg = 0) → (g_X8_isAsMeant_56 m A r (i + 1) J = 0 ↔ ∃ x, i ≤ x ∧ x < 16 ∧ J (A 9) x = nI 4 ∧ f_X8_isMeant J m A (J (A 11) x).toNatClampNeg = 0) := fun n => by
      rw [ih (i + 1) (by omega)]
      refine ⟨fun ⟨c, h1, h2, h3⟩ => ⟨c, by omega, h2, h3⟩, fun ⟨c, h1, h2, h3⟩ => ⟨c, ?_, h2, h3⟩⟩
      have : c ≠ i := fun z => n (by rw [← z]; exact h3)
      omega
    by_cases h : J (A 9) i = nI 4
    · rw [if_pos h]
      by_cases h2 : f_X8_isMeant J m A (J (A 11) i).toNatClampNeg = 0
      · rw [if_pos h2]
        exact ⟨fun _ => ⟨i, Nat.le_refl i, by omega, h, h2⟩, fun _ => rfl⟩
      · rw [if_neg h2]
        exact nx (fun z => h2 z.2)
    · rw [if_neg h]
      exact nx (fun z => h z.1)
theorem isA_2 {m : Nat} {A : Nat → Nat} {J : Mm} : ∀ r i, i + r = 8 → (g_X8_isAsMeant_2 m A r i J = 0 ↔ (∃ c, i ≤ c ∧ c < 8 ∧ ¬ f_X8_isMeant J m A c = 0 ∧ ¬ (J (A 9) (f_X8_portAt J m A c 0) = nI 4 ∧ J (A 9) (f_X8_portAt J m A c 1) = nI 4)) ∨ ∃ x, x < 16 ∧ J (A 9) x = nI 4 ∧ f_X8_isMeant J m A (J (A 11) x).toNatClampNeg = 0) := by
  intro r
  induction r with
  | zero =>
    intro i hi
    rw [g_X8_isAsMeant_2, isA_56 16 0 rfl]
    refine ⟨fun ⟨x, _, h⟩ => Or.inr ⟨x, h⟩, fun h => ?_⟩
    rcases h with ⟨c, h1, h2, _⟩ | ⟨x, h⟩
    · exact absurd h2 (by omega)
    · exact ⟨x, Nat.zero_le x, h⟩
  | succ r ih =>
    intro i hi
    rw [g_X8_isAsMeant_2]
    have nx : ¬ (¬ f_X8_isMeant J m A i = 0 ∧ ¬ (J (A 9) (f_X8_portAt J m A i 0) = nI 4 ∧ J (A 9) (f_X8_portAt J m A i 1) = nI 4)) → (g_X8_isAsMeant_2 m A r (i + 1) J = 0 ↔ (∃ c, i ≤ c ∧ c < 8 ∧ ¬ f_X8_isMeant J m A c = 0 ∧ ¬ (J (A 9) (f_X8_portAt J m A c 0) = nI 4 ∧ J (A 9) (f_X8_portAt J m A c 1) = nI 4)) ∨ ∃ x, x < 16 ∧ J (A 9) x = nI 4 ∧ f_X8_isMeant J m A (J (A 11) x).toNatClampNeg = 0) := fun n => by
      rw [ih (i + 1) (by omega)]
      refine ⟨fun h => ?_, fun h => ?_⟩
      · rcases h with ⟨c, h1, h2, h3⟩ | h
        · exact Or.inl ⟨c, by omega, h2, h3⟩
        · exact Or.inr h
      · rcases h with ⟨c, h1, h2, h3⟩ | h
        · have : c ≠ i := fun z => n (by rw [← z]; exact h3)
          exact Or.inl ⟨c, by omega, h2, h3⟩
        · exact Or.inr h
    have yes : (¬ f_X8_isMeant J m A i = 0 ∧ ¬ (J (A 9) (f_X8_portAt J m A i 0) = nI 4 ∧ J (A 9) (f_X8_portAt J m A i 1) = nI 4)) → (nI 0 = 0 ↔ (∃ c, i ≤ c ∧ c < 8 ∧ ¬ f_X8_isMeant J m A c = 0 ∧ ¬ (J (A 9) (f_X8_portAt J m A c 0) = nI 4 ∧ J (A 9) (f_X8_portAt J m A c 1) = nI 4)) ∨ ∃ x, x < 16 ∧ J (A 9) x = nI 4 ∧ f_X8_isMeant J m A (J (A 11) x).toNatClampNeg = 0) := fun y => ⟨fun _ => Or.inl ⟨i, Nat.le_refl i, by omega, y⟩, fun _ => rfl⟩
    by_cases h0 : f_X8_isMeant J m A i = 0
    · rw [if_pos h0]; exact nx (fun z => z.1 h0)
    · rw [if_neg h0]
      by_cases h1 : J (A 9) (f_X8_portAt J m A i 0) = nI 4
      · rw [if_pos h1]
        by_cases h2 : J (A 9) (f_X8_portAt J m A i 1) = nI 4
        · rw [if_pos h2]; exact nx (fun z => z.2 ⟨h1, h2⟩)
        · rw [if_neg h2]; exact yes ⟨h0, fun z => h2 z.2⟩
      · rw [if_neg h1]; exact yes ⟨h0, fun z => h1 z.1⟩
/-- a cable of the class is settled -/
theorem isS_c {I : Mm} {R : Nat → Nat → Option Nat} {b c : Nat} (h01 : I (Cb R b c) 4 = nI 0 ∨ I (Cb R b c) 4 = nI 1) : f_X0_isSettled I R b c = 0 ↔ plg R b c ∧ ¬ ((I ((R (ppd R b c) 0).getD 0) 5 = nI 4 ↔ ¬ I (Cb R b c) 4 = 0) ∧ (I ((R (ppd R b c) 1).getD 0) 5 = nI 4 ↔ ¬ I (Cb R b c) 4 = 0)) := by
  have E : f_X0_isSettled I R b c = if plg R b c then (if (if I ((R (ppd R b c) 0).getD 0) 5 = nI 4 then nI 1 else nI 0) = I (Cb R b c) 4 then (if (if I ((R (ppd R b c) 1).getD 0) 5 = nI 4 then nI 1 else nI 0) = I (Cb R b c) 4 then nI 1 else nI 0) else nI 0) else nI 1 := by
    unfold f_X0_isSettled g_X0_isSettled_25 g_X0_isSettled_50
    repeat' split
    all_goals first | rfl | contradiction
  rw [E]
  by_cases pl : plg R b c
  · rw [if_pos pl]
    rcases h01 with h | h <;> rw [h] <;> by_cases a : I ((R (ppd R b c) 0).getD 0) 5 = nI 4 <;> by_cases d : I ((R (ppd R b c) 1).getD 0) 5 = nI 4 <;> simp [a, d, pl, show ¬ (nI 1 = nI 0) by decide, show ¬ (nI 0 = nI 1) by decide, show ¬ (nI 1 = 0) by decide, show ¬ ((0 : Int32) = nI 1) by decide, show nI 0 = 0 from rfl] <;> exact pl
  · rw [if_neg pl]
    exact ⟨fun z => absurd z (by decide), fun z => absurd z.1 pl⟩
theorem set_eq {R : Nat → Nat → Option Nat} {b m cl nt : Nat} {I J : Mm} {A : Nat → Nat} (h : NRl R b m A I J cl nt) (mt : ∀ c, c < 8 → I (Cb R b c) 4 = mcl I R b c) : f_X7_isSettled I R b = 0 ↔ f_X8_isAsMeant J m A = 0 := by
  have mm : ∀ c, c < 8 → f_X8_isMeant J m A c = I (Cb R b c) 4 := fun c hc => by rw [mt c hc, mcl_m h hc]
  have h01 : ∀ c, c < 8 → I (Cb R b c) 4 = nI 0 ∨ I (Cb R b c) 4 = nI 1 := fun c hc => by rw [mt c hc]; exact mcl_01
  obtain ⟨h1, h2, h3, h4, h5, h6, h7, h8, h9, h10, h11⟩ := h
  have pt : ∀ c, c < 8 → J (A 24) c ≠ 0 → ∀ e, e < 2 → ∃ p, p < 8 ∧ J (A 22) (2 * c + e) = nI p ∧ I ((R (ppd R b c) e).getD 0) 5 = J (A 9) (8 * e + p) ∧ f_X8_portAt J m A c e = 8 * e + p ∧ J (A 11) (8 * e + p) = nI c := fun c hc hp e he => by
    rcases h7.2.2 c hc with ⟨q, _⟩ | ⟨_, p0, p1, q0, q1, q2, q3, q4, q5⟩
    · exact absurd q hp
    · have fin : ∀ p, p < 8 → J (A 22) (2 * c + e) = nI p → R (ppd R b c) e = some (Pt R b e p) → ∃ p, p < 8 ∧ J (A 22) (2 * c + e) = nI p ∧ I ((R (ppd R b c) e).getD 0) 5 = J (A 9) (8 * e + p) ∧ f_X8_portAt J m A c e = 8 * e + p ∧ J (A 11) (8 * e + p) = nI c := fun p hp8 e1 e2 => by
        refine ⟨p, hp8, e1, ?_, ?_, h6.2.1 c e p hc he hp8 hp e1⟩
        · rw [e2]
          show I (Pt R b e p) 5 = _
          rw [← px_e hp8]
          exact (h1 (8 * e + p) (by omega)).1.1.2.2.2.1
        · unfold f_X8_portAt
          rw [e1, nI_cl (by omega)]
      have e01 : e = 0 ∨ e = 1 := by omega
      rcases e01 with rfl | rfl
      · exact fin p0 q0 q2 q4
      · exact fin p1 q1 q3 q5
  have E1 : f_X7_isSettled I R b = g_X7_isSettled_2 R b 8 0 I := rfl
  have E2 : f_X8_isAsMeant J m A = g_X8_isAsMeant_2 m A 8 0 J := rfl
  rw [E1, E2, isS_8 8 0 rfl, isA_2 8 0 rfl]
  refine ⟨fun ⟨c, _, hc, q⟩ => ?_, fun q => ?_⟩
  · obtain ⟨pl, no⟩ := (isS_c (h01 c hc)).mp q
    have hp := (plg_24 h7 hc).mp pl
    obtain ⟨p0, hp0, a1, a2, a3, a4⟩ := pt c hc hp 0 (by decide)
    obtain ⟨p1, hp1, b1, b2, b3, b4⟩ := pt c hc hp 1 (by decide)
    rw [a2, b2] at no
    by_cases M : I (Cb R b c) 4 = 0
    · by_cases s0 : J (A 9) (8 * 0 + p0) = nI 4
      · exact Or.inr ⟨8 * 0 + p0, by omega, s0, by rw [a4, nI_cl (by omega), mm c hc]; exact M⟩
      · by_cases s1 : J (A 9) (8 * 1 + p1) = nI 4
        · exact Or.inr ⟨8 * 1 + p1, by omega, s1, by rw [b4, nI_cl (by omega), mm c hc]; exact M⟩
        · exact absurd ⟨⟨fun z => absurd z s0, fun z => absurd M z⟩, ⟨fun z => absurd z s1, fun z => absurd M z⟩⟩ no
    · refine Or.inl ⟨c, Nat.zero_le c, hc, by rw [mm c hc]; exact M, fun z => no ?_⟩
      rw [a3, b3] at z
      exact ⟨⟨fun _ => M, fun _ => z.1⟩, ⟨fun _ => M, fun _ => z.2⟩⟩
  · rcases q with ⟨c, _, hc, M, no⟩ | ⟨x, hx, s4, M⟩
    · have hp : J (A 24) c ≠ 0 := fun z => M (by
        unfold f_X8_isMeant f_X8_agrees
        rw [if_pos z]
        rfl)
      obtain ⟨p0, hp0, a1, a2, a3, a4⟩ := pt c hc hp 0 (by decide)
      obtain ⟨p1, hp1, b1, b2, b3, b4⟩ := pt c hc hp 1 (by decide)
      rw [mm c hc] at M
      refine ⟨c, Nat.zero_le c, hc, (isS_c (h01 c hc)).mpr ⟨(plg_24 h7 hc).mpr hp, fun z => no ?_⟩⟩
      rw [a2, b2] at z
      rw [a3, b3]
      exact ⟨z.1.mpr M, z.2.mpr M⟩
    · obtain ⟨c, hc, e11, u⟩ := RI_lit h6 hx (Or.inr s4)
      have hp : J (A 24) c ≠ 0 := h6.1 c hc u
      rw [e11, nI_cl (by omega), mm c hc] at M
      have ex : 8 * (x / 8) + x % 8 = x := by omega
      obtain ⟨p, hp8, a1, a2, a3, a4⟩ := pt c hc hp (x / 8) (by omega)
      have epp : p = x % 8 := by
        rcases h6.2.2.2.1 (x / 8) (x % 8) (by omega) (by omega) with z | ⟨c', hc', z1, z2, z3⟩
        · have z' : J (A 11) (8 * (x / 8) + x % 8) = -1 := z
          rw [ex, e11] at z'
          exact absurd z' (nI_m1 (by omega))
        · have z1' : J (A 11) (8 * (x / 8) + x % 8) = nI c' := z1
          rw [ex, e11] at z1'
          have ec : c = c' := nI_inj (by omega) (by omega) z1'
          subst ec
          exact nI_inj (by omega) (by omega) (a1.symm.trans z3)
      subst epp
      rw [ex] at a2
      refine ⟨c, Nat.zero_le c, hc, (isS_c (h01 c hc)).mpr ⟨(plg_24 h7 hc).mpr hp, fun z => ?_⟩⟩
      have e01 : x / 8 = 0 ∨ x / 8 = 1 := by omega
      rcases e01 with q | q
      · rw [q] at a2
        exact (z.1.mp (a2.trans s4)) M
      · rw [q] at a2
        exact (z.2.mp (a2.trans s4)) M
