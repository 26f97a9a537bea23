/-! SIMULATION 33: the reference's cells behind isCut, isUp -/
theorem idn {J : Mm} {m x : Nat} {A : Nat → Nat} (hA : AD m A) : (f_X8_isDarkNow J m A x (A 7) x = 0 ∧ f_X8_isDarkNow J m A x (A 8) x = 0 ∧ f_X8_isDarkNow J m A x (A 9) x = 0 ∧ ∀ k, k < 5 → f_X8_isDarkNow J m A x (A 18) (5 * x + k) = 0) ∧ (∀ k j, dm k → k ≠ 40 → ow k j ≠ x → f_X8_isDarkNow J m A x (A k) j = J (A k) j) ∧ (∀ k j, dm k → k ≠ 7 → k ≠ 8 → k ≠ 9 → k ≠ 12 → k ≠ 13 → k ≠ 14 → k ≠ 18 → k ≠ 21 → k ≠ 40 → f_X8_isDarkNow J m A x (A k) j = J (A k) j) ∧ ∀ j, f_X8_isDarkNow J m A x m j = J m j := by
  refine ⟨⟨?_, ?_, ?_, fun k hk => ?_⟩, ?_, fun k j a a1 a2 a3 a4 a5 a6 a7 a8 a9 => congrFun (nm_X8_isDarkNow (fun l hl z => ?_)) j, fun j => congrFun (nm_X8_isDarkNow (fun l hl z => hA.2 l ((show ∀ l ∈ ([7, 8, 9, 12, 13, 14, 18, 21, 40] : List Nat), dm l by decide) l hl) z.symm)) j⟩
  · unfold f_X8_isDarkNow f_X8_forgets f_X8_goesTo
    dsimp only
    repeat' split
    all_goals simp (disch := first | decide | omega) only [mu_o hA, up2_self, mu_j]
    all_goals rfl
  · unfold f_X8_isDarkNow f_X8_forgets f_X8_goesTo
    dsimp only
    repeat' split
    all_goals simp (disch := first | decide | omega) only [mu_o hA, up2_self, mu_j]
    all_goals rfl
  · unfold f_X8_isDarkNow f_X8_forgets f_X8_goesTo
    dsimp only
    repeat' split
    all_goals simp (disch := first | decide | omega) only [mu_o hA, up2_self, mu_j]
    all_goals rfl
  · have ck : k = 0 ∨ k = 1 ∨ k = 2 ∨ k = 3 ∨ k = 4 := by omega
    unfold f_X8_isDarkNow f_X8_forgets
    dsimp only
    rcases ck with rfl | rfl | rfl | rfl | rfl
    all_goals simp (disch := first | decide | omega) only [mu_o hA, up2_self, mu_j]
    all_goals rfl
  · have mf : MF A x J (f_X8_isDarkNow J m A x) := by
      unfold f_X8_isDarkNow f_X8_forgets f_X8_goesTo
      dsimp only
      repeat' split
      all_goals repeat (first | exact MF.rf | refine MF.w4 hA ?_ | refine MF.w hA (by decide) (by first | exact ow_x (by decide) | exact ow_5 (by decide) (by decide) | exact ow_50 (by decide)) ?_)
    exact fun k j a b c => mf k j a b c
  · have d : ∀ l ∈ ([7, 8, 9, 12, 13, 14, 18, 21, 40] : List Nat), dm l := by decide
    have := hA.1 k l a (d l hl) z
    simp at hl
    omega
theorem iln {J : Mm} {m x : Nat} {A : Nat → Nat} (hA : AD m A) (s0 : J (A 9) x = 0) : (f_X8_isLitNow J m A x (A 7) x = nI 1 ∧ f_X8_isLitNow J m A x (A 8) x = nI 3 ∧ f_X8_isLitNow J m A x (A 9) x = nI 0 ∧ f_X8_isLitNow J m A x (A 18) (5 * x + 4) = (J (A 18) (5 * x + 4) &&& (-57 : Int32)) ∧ f_X8_isLitNow J m A x (A 21) x = -1 ∧ ∀ k, k < 4 → f_X8_isLitNow J m A x (A 18) (5 * x + k) = J (A 18) (5 * x + k)) ∧ (∀ k j, dm k → k ≠ 40 → ow k j ≠ x → f_X8_isLitNow J m A x (A k) j = J (A k) j) ∧ (∀ k j, dm k → k ≠ 7 → k ≠ 8 → k ≠ 9 → k ≠ 14 → k ≠ 18 → k ≠ 21 → k ≠ 40 → f_X8_isLitNow J m A x (A k) j = J (A k) j) ∧ ∀ j, f_X8_isLitNow J m A x m j = J m j := by
  refine ⟨⟨?_, ?_, ?_, ?_, ?_, fun k hk => ?_⟩, ?_, fun k j a a1 a2 a3 a4 a5 a6 a7 => congrFun (nm_X8_isLitNow (fun l hl z => ?_)) j, fun j => congrFun (nm_X8_isLitNow (fun l hl z => hA.2 l ((show ∀ l ∈ ([7, 8, 9, 14, 18, 21, 40] : List Nat), dm l by decide) l hl) z.symm)) j⟩
  · unfold f_X8_isLitNow f_X8_partnerStops f_X8_goesTo
    dsimp only
    repeat' split
    all_goals simp (disch := first | decide | omega) only [mu_o hA, up2_self, mu_j]
  · unfold f_X8_isLitNow f_X8_partnerStops f_X8_goesTo
    dsimp only
    repeat' split
    all_goals simp (disch := first | decide | omega) only [mu_o hA, up2_self, mu_j]
  · unfold f_X8_isLitNow f_X8_partnerStops f_X8_goesTo
    dsimp only
    repeat' split
    all_goals simp (disch := first | decide | omega) only [mu_o hA, up2_self, mu_j]
  · unfold f_X8_isLitNow f_X8_partnerStops f_X8_goesTo
    dsimp only
    repeat' split
    all_goals simp (disch := first | decide | omega) only [mu_o hA, up2_self, mu_j]
  · unfold f_X8_isLitNow f_X8_partnerStops f_X8_goesTo
    dsimp only
    repeat' split
    all_goals simp (disch := first | decide | omega) only [mu_o hA, up2_self, mu_j]
  · unfold f_X8_isLitNow f_X8_partnerStops f_X8_goesTo
    dsimp only
    repeat' split
    all_goals simp (disch := first | decide | omega) only [mu_o hA, up2_self, mu_j]
  · have mf : MF A x J (f_X8_isLitNow J m A x) := by
      unfold f_X8_isLitNow f_X8_partnerStops f_X8_goesTo
      dsimp only
      repeat' split
      all_goals repeat (first | exact MF.rf | refine MF.w4 hA ?_ | refine MF.w hA (by decide) (by first | exact ow_x (by decide) | exact ow_5 (by decide) (by decide) | exact ow_50 (by decide)) ?_)
    exact fun k j a b c => mf k j a b c
  · have d : ∀ l ∈ ([7, 8, 9, 14, 18, 21, 40] : List Nat), dm l := by decide
    have := hA.1 k l a (d l hl) z
    simp at hl
    omega
theorem g_emp {m nt c : Nat} {A : Nat → Nat} (hA : AD m A) (hc : c < 8) : ∀ r i k (J : Mm), k ≤ i → (∀ t, i ≤ t → (∃ e, e < 8 ∧ J (A 27) t = nI e) ∧ nI (J (A 28) t).toNatClampNeg = J (A 28) t) → ∃ n, n ≤ k + r ∧ (g_X8_empties_4 m A c nt r i k J) m 32 = nI n ∧ TG (g_X8_empties_4 m A c nt r i k J) A n = TG J A k ++ ((List.range' i r).map (tg J A)).filter (nc c) ∧ (∀ kk j, dm kk → (kk < 27 ∨ 31 < kk) → (g_X8_empties_4 m A c nt r i k J) (A kk) j = J (A kk) j) ∧ ∀ j, j ≠ 32 → j ≠ 46 → (g_X8_empties_4 m A c nt r i k J) m j = J m j := by
  intro r
  induction r with
  | zero =>
    intro i k J _ _
    rw [g_X8_empties_4]
    try dsimp only
    refine ⟨k, by omega, up2_self _ _ _ _, ?_, fun kk j a _ => mm_a hA a, fun j h _ => mm_j h⟩
    rw [TG_c (J := J) (fun t _ => tg_k (fun kk hk => by
      have : ∀ kk ∈ ([27, 28, 29, 30, 31] : List Nat), dm kk := by decide
      funext j
      exact mm_a hA (this kk hk)))]
    simp
  | succ r ih =>
    intro i k J hk hr
    obtain ⟨⟨e, he, ee⟩, e28⟩ := hr i (Nat.le_refl i)
    have e0 : tg J A i 0 = J (A 27) i := rfl
    rw [g_X8_empties_4]
    try dsimp only
    rw [ee, nI_cl (by omega)]
    by_cases q : e = c
    · rw [if_pos q]
      have fl : nc c (tg J A i) = false := by unfold nc; rw [e0, ee, q]; simp
      have go : ∀ J2 : Mm, (∀ kk, dm kk → J2 (A kk) = J (A kk)) → (∀ j, j ≠ 46 → J2 m j = J m j) → ∃ n, n ≤ k + (r + 1) ∧ (g_X8_empties_4 m A c nt r (i + 1) k J2) m 32 = nI n ∧ TG (g_X8_empties_4 m A c nt r (i + 1) k J2) A n = TG J A k ++ ((List.range' i (r + 1)).map (tg J A)).filter (nc c) ∧ (∀ kk j, dm kk → (kk < 27 ∨ 31 < kk) → (g_X8_empties_4 m A c nt r (i + 1) k J2) (A kk) j = J (A kk) j) ∧ ∀ j, j ≠ 32 → j ≠ 46 → (g_X8_empties_4 m A c nt r (i + 1) k J2) m j = J m j := fun J2 a1 a2 => by
        have tgE : ∀ t, tg J2 A t = tg J A t := fun t => tg_k (fun kk hk => a1 kk ((show ∀ kk ∈ ([27, 28, 29, 30, 31] : List Nat), dm kk by decide) kk hk))
        obtain ⟨n, h1, h2, h3, h4, h5⟩ := ih (i + 1) k J2 (by omega) (fun t ht => by rw [a1 27 (by decide), a1 28 (by decide)]; exact hr t (by omega))
        refine ⟨n, by omega, h2, ?_, fun kk j a b => by rw [h4 kk j a b, a1 kk a], fun j h g => by rw [h5 j h g, a2 j g]⟩
        rw [h3, List.range'_succ, List.map_cons, List.filter_cons_of_neg (by rw [fl]; decide), rg_s (fun t _ => tgE t), TG_c (fun t _ => tgE t)]
      split
      · exact go _ (fun kk a => funext (fun j => by first | rfl | exact mm_a hA a)) (fun j hj => by first | rfl | exact mm_j hj)
      · exact go _ (fun kk a => funext (fun j => by first | rfl | exact mm_a hA a)) (fun j hj => by first | rfl | exact mm_j hj)
    · rw [if_neg q]
      have tn : ∀ t, t ≠ k → tg (f_X8_moves J m A i k) A t = tg J A t := fun t ht => mv_n hA ht
      have tu := mv_u (u := k) hA (show nI (J (A 27) i).toNatClampNeg = J (A 27) i by rw [ee, nI_cl (by omega)]) e28
      obtain ⟨n, h1, h2, h3, h4, h5⟩ := ih (i + 1) (k + 1) (f_X8_moves J m A i k) (by omega) (fun t ht => by
        have z := tn t (by omega)
        have q0 : f_X8_moves J m A i k (A 27) t = J (A 27) t := congrFun z 0
        have q1 : f_X8_moves J m A i k (A 28) t = J (A 28) t := congrFun z 1
        rw [q0, q1]
        exact hr t (by omega))
      refine ⟨n, by omega, h2, ?_, fun kk j a b => (h4 kk j a b).trans (mv_o hA a b), fun j h g => (h5 j h g).trans (mv_m hA)⟩
      have fl : nc c (tg J A i) = true := by
        unfold nc
        rw [e0, ee]
        have : ¬ nI e = nI c := fun z => q (nI_inj (by omega) (by omega) z)
        simp [this]
      rw [h3, List.range'_succ, List.map_cons, List.filter_cons_of_pos fl, rg_s (fun t ht => tn t (by omega)), TG_s, tu, TG_c (fun t ht => tn t (by omega)), List.append_assoc]
      rfl
/-- behind isCut -/
def CUT (J J' : Mm) (m nt n' c p0 p1 : Nat) (A : Nat → Nat) : Prop := (∀ x, (x = p0 ∨ x = 8 + p1) → J' (A 7) x = 0 ∧ J' (A 8) x = 0 ∧ J' (A 9) x = 0 ∧ ∀ k, k < 5 → J' (A 18) (5 * x + k) = 0) ∧ (∀ x, x ≠ p0 → x ≠ 8 + p1 → ∀ k j, dm k → k ≤ 21 → ow k j = x → J' (A k) j = J (A k) j) ∧ (∀ k j, dm k → k ≠ 7 → k ≠ 8 → k ≠ 9 → k ≠ 12 → k ≠ 13 → k ≠ 14 → k ≠ 18 → k ≠ 21 → k ≠ 25 → k ≠ 40 → (k < 27 ∨ 31 < k) → J' (A k) j = J (A k) j) ∧ (∀ e, e ≠ c → J' (A 25) e = J (A 25) e) ∧ J' (A 25) c = 0 ∧ (∀ j, j ≠ 32 → j ≠ 46 → J' m j = J m j) ∧ J' m 32 = nI n' ∧ n' ≤ nt ∧ TG J' A n' = (TG J A nt).filter (nc c)
theorem cut_R {J : Mm} {m nt c p0 p1 : Nat} {A : Nat → Nat} (hA : AD m A) (hc : c < 8) (h0 : p0 < 8) (h1 : p1 < 8) (s27 : ∀ t, ∃ k, k < 8 ∧ J (A 27) t = nI k) (s28 : ∀ t, ∃ e, e < 2 ∧ J (A 28) t = nI e) (P0 : J (A 22) (2 * c + 0) = nI p0) (P1 : J (A 22) (2 * c + 1) = nI p1) : ∃ n', CUT J (f_X8_isCut J m A c nt) m nt n' c p0 p1 A := by
  obtain ⟨n, e1, e2, e3, e4, e5⟩ := g_emp (nt := nt) hA hc nt 0 0 J (Nat.le_refl 0) (fun t _ => ⟨s27 t, by obtain ⟨e, he, ee⟩ := s28 t; rw [ee, nI_cl (by omega)]⟩)
  have E : f_X8_isCut J m A c nt = f_X8_isDarkNow (f_X8_isDarkNow (up2 (g_X8_empties_4 m A c nt nt 0 0 J) (A 25) c (nI 0)) m A (f_X8_portAt (up2 (g_X8_empties_4 m A c nt nt 0 0 J) (A 25) c (nI 0)) m A c 0)) m A (f_X8_portAt (f_X8_isDarkNow (up2 (g_X8_empties_4 m A c nt nt 0 0 J) (A 25) c (nI 0)) m A (f_X8_portAt (up2 (g_X8_empties_4 m A c nt nt 0 0 J) (A 25) c (nI 0)) m A c 0)) m A c 1) := rfl
  rw [E]
  clear E
  generalize g_X8_empties_4 m A c nt nt 0 0 J = J1 at e2 e3 e4 e5 ⊢
  have u1 : ∀ k j, dm k → k ≠ 25 → up2 J1 (A 25) c (nI 0) (A k) j = J1 (A k) j := fun k j a b => mu_o hA (by decide) a b
  have u2 : ∀ j, up2 J1 (A 25) c (nI 0) m j = J1 m j := fun j => am_m hA (by decide)
  have u3 : up2 J1 (A 25) c (nI 0) (A 25) c = 0 := up2_self _ _ _ _
  have u4 : ∀ e, e ≠ c → up2 J1 (A 25) c (nI 0) (A 25) e = J1 (A 25) e := fun e he => mu_j he
  generalize up2 J1 (A 25) c (nI 0) = J2 at u1 u2 u3 u4 ⊢
  have x0 : f_X8_portAt J2 m A c 0 = p0 := by
    unfold f_X8_portAt
    rw [u1 22 _ (by decide) (by decide), e4 22 _ (by decide) (by decide), P0, nI_cl (by omega)]
    omega
  rw [x0]
  obtain ⟨a1, a2, a4, a3⟩ := idn (J := J2) (m := m) (x := p0) hA
  have q22 : f_X8_isDarkNow J2 m A p0 (A 22) (2 * c + 1) = nI p1 := by
    rw [a2 22 _ (by decide) (by decide) (by rw [ow_hi (Or.inl (by decide))]; omega), u1 22 _ (by decide) (by decide), e4 22 _ (by decide) (by decide), P1]
  generalize f_X8_isDarkNow J2 m A p0 = J3 at a1 a2 a3 a4 q22 ⊢
  have x1 : f_X8_portAt J3 m A c 1 = 8 + p1 := by
    unfold f_X8_portAt
    rw [q22, nI_cl (by omega)]
  rw [x1]
  obtain ⟨b1, b2, b4, b3⟩ := idn (J := J3) (m := m) (x := 8 + p1) hA
  generalize f_X8_isDarkNow J3 m A (8 + p1) = J4 at b1 b2 b3 b4 ⊢
  have n01 : p0 ≠ 8 + p1 := by omega
  have hi : ∀ k j, dm k → 22 ≤ k → k ≠ 40 → J4 (A k) j = J2 (A k) j := fun k j a b d => by rw [b2 k j a d (by rw [ow_hi (Or.inl b)]; omega), a2 k j a d (by rw [ow_hi (Or.inl b)]; omega)]
  have gen : ∀ k j, dm k → k ≠ 40 → ow k j ≠ p0 → ow k j ≠ 8 + p1 → J4 (A k) j = J2 (A k) j := fun k j a d o0 o1 => by rw [b2 k j a d o1, a2 k j a d o0]
  refine ⟨n, ?_, fun x n0 n1 k j a b o => ?_, ?_, fun e he => ?_, ?_, fun j h g => ?_, ?_, by omega, ?_⟩
  · intro x q
    rcases q with rfl | rfl
    · exact ⟨by rw [b2 7 _ (by decide) (by decide) (by rw [ow_x (by decide)]; exact n01)]; exact a1.1, by rw [b2 8 _ (by decide) (by decide) (by rw [ow_x (by decide)]; exact n01)]; exact a1.2.1, by rw [b2 9 _ (by decide) (by decide) (by rw [ow_x (by decide)]; exact n01)]; exact a1.2.2.1, fun k hk => by rw [b2 18 _ (by decide) (by decide) (by rw [ow_5 (by decide) hk]; exact n01)]; exact a1.2.2.2 k hk⟩
    · exact b1
  · rw [gen k j a (by omega) (by rw [o]; exact n0) (by rw [o]; exact n1), u1 k j a (by omega), e4 k j a (by omega)]
  · intro k j a c1 c2 c3 c4 c5 c6 c7 c8 c9 c10 c11
    rw [b4 k j a c1 c2 c3 c4 c5 c6 c7 c8 c10, a4 k j a c1 c2 c3 c4 c5 c6 c7 c8 c10, u1 k j a c9, e4 k j a c11]
  · rw [hi 25 e (by decide) (by decide) (by decide), u4 e he, e4 25 e (by decide) (by decide)]
  · rw [hi 25 c (by decide) (by decide) (by decide)]; exact u3
  · rw [b3, a3, u2, e5 j h g]
  · rw [b3, a3, u2]; exact e2
  · rw [TG_c (J := J1) (fun t _ => tg_k (fun k hk => by
      have z : ∀ k ∈ ([27, 28, 29, 30, 31] : List Nat), dm k ∧ 22 ≤ k ∧ k ≠ 40 ∧ k ≠ 25 := by decide
      obtain ⟨z1, z2, z3, z4⟩ := z k hk
      funext j
      rw [hi k j z1 z2 z3, u1 k j z1 z4])), e3, ← List.range_eq_range']
    rfl
