/-! SIMULATION 4: a port steps -/
theorem zz_0_1 : (nI 0 = nI 1) = False := by decide
theorem zz_0_2 : (nI 0 = nI 2) = False := by decide
theorem zz_0_3 : (nI 0 = nI 3) = False := by decide
theorem zz_0_4 : (nI 0 = nI 4) = False := by decide
theorem zz_1_0 : (nI 1 = nI 0) = False := by decide
theorem zz_1_2 : (nI 1 = nI 2) = False := by decide
theorem zz_1_3 : (nI 1 = nI 3) = False := by decide
theorem zz_1_4 : (nI 1 = nI 4) = False := by decide
theorem zz_2_0 : (nI 2 = nI 0) = False := by decide
theorem zz_2_1 : (nI 2 = nI 1) = False := by decide
theorem zz_2_3 : (nI 2 = nI 3) = False := by decide
theorem zz_2_4 : (nI 2 = nI 4) = False := by decide
theorem zz_3_0 : (nI 3 = nI 0) = False := by decide
theorem zz_3_1 : (nI 3 = nI 1) = False := by decide
theorem zz_3_2 : (nI 3 = nI 2) = False := by decide
theorem zz_3_4 : (nI 3 = nI 4) = False := by decide
theorem zz_4_0 : (nI 4 = nI 0) = False := by decide
theorem zz_4_1 : (nI 4 = nI 1) = False := by decide
theorem zz_4_2 : (nI 4 = nI 2) = False := by decide
theorem zz_4_3 : (nI 4 = nI 3) = False := by decide
theorem zo_1 : (nI 1 = 0) = False := by decide
theorem zo_2 : (nI 2 = 0) = False := by decide
theorem zo_3 : (nI 3 = 0) = False := by decide
theorem zo_4 : (nI 4 = 0) = False := by decide
theorem zo_0 : (nI 0 = 0) = True := by decide
theorem zl_1 : (nI 1 ≤ 0) = False := by decide
theorem zl_2 : (nI 2 ≤ 0) = False := by decide
theorem zl_3 : (nI 3 ≤ 0) = False := by decide
theorem zl_4 : (nI 4 ≤ 0) = False := by decide
theorem zl_0 : (nI 0 ≤ 0) = True := by decide
theorem mv12 {re rp ro : Nat → Int32} {v : Int32} : (r_X1_moveTo re rp ro v).1 = (r_X5_setStage rp ro v).1 ∧ (r_X1_moveTo re rp ro v).2.1 = (r_X5_setStage rp ro v).2 := by
  unfold r_X1_moveTo
  by_cases a : rp 5 = nI 4 <;> by_cases b : v = nI 4 <;> simp [a, b]
theorem r_sbd {rp ro rq : Nat → Int32} : (r_X5_isStillBound rp ro rq = 0) = ¬ (ro 1 = rp 7 ∧ rq 0 = rp 8 ∧ rq 1 = rp 9) := by
  unfold r_X5_isStillBound
  by_cases e0 : ro 1 = rp 7 <;> by_cases e1 : rq 0 = rp 8 <;> by_cases e2 : rq 1 = rp 9 <;> simp [e0, e1, e2, show ¬ nI 1 = 0 by decide, show nI 0 = 0 by decide]
theorem f_oth {J : Mm} {m : Nat} {A : Nat → Nat} {x : Nat} : (f_X8_isOther J m A x = 0) = (J (A 9) x ≤ 0 ∨ (J (A 19) (3 * x) = J (A 3) x ∧ J (A 19) (3 * x + 1) = J (A 18) (5 * x) ∧ J (A 19) (3 * x + 2) = J (A 18) (5 * x + 1))) := by
  unfold f_X8_isOther
  by_cases e3 : J (A 9) x ≤ 0 <;> by_cases e0 : J (A 19) (3 * x) = J (A 3) x <;> by_cases e1 : J (A 19) (3 * x + 1) = J (A 18) (5 * x) <;> by_cases e2 : J (A 19) (3 * x + 2) = J (A 18) (5 * x + 1) <;> simp [e3, e0, e1, e2, show ¬ nI 1 = 0 by decide, show nI 0 = 0 by decide]
theorem f_ptn {J : Mm} {m : Nat} {A : Nat → Nat} {x : Nat} {v : Int32} : (f_X8_isPartner J m A x v = 0) = (J (A 18) (5 * x + 4) &&& v = 0) := by
  unfold f_X8_isPartner
  exact if_y
theorem f_lit {J : Mm} {m : Nat} {A : Nat → Nat} {x : Nat} : (f_X8_isLit J m A x = 0) = (J (A 7) x = 0) := by
  unfold f_X8_isLit
  exact if_y
theorem r_has {ra : Nat → Int32} {v : Int32} : (r_X6_has ra v = 0) = (ra 4 &&& v = 0) := by
  unfold r_X6_has
  exact if_y
theorem s_step {m x : Nat} {A : Nat → Nat} {J : Mm} {rp ro rq rl : Nat → Int32} (hA : AD m A) (h : PR rp ro rq J A x) (hv : PV J A x) (hl : PLk rp rl J A x) {re : Nat → Int32} (hc : rp 11 = J (A 13) x) (lit : ¬ J (A 7) x = 0) : PR (r_X1_moveTo re (r_X5_step rp ro rq).1 ro (r_X5_step rp ro rq).2).1 (r_X1_moveTo re (r_X5_step rp ro rq).1 ro (r_X5_step rp ro rq).2).2.1 rq (f_X8_steps J m A x) A x ∧ PV (f_X8_steps J m A x) A x ∧ PLk (r_X1_moveTo re (r_X5_step rp ro rq).1 ro (r_X5_step rp ro rq).2).1 rl (f_X8_steps J m A x) A x ∧ (r_X1_moveTo re (r_X5_step rp ro rq).1 ro (r_X5_step rp ro rq).2).1 12 = rp 12 ∧ (r_X1_moveTo re (r_X5_step rp ro rq).1 ro (r_X5_step rp ro rq).2).1 10 = rp 10 ∧ MF A x J (f_X8_steps J m A x) := by
  have hl := hl lit
  obtain ⟨h2, h3, h4, h5, h6, h7, h8, h9, o0, o1, o2, o3, o4, q0, q1, q2, q3, q4⟩ := h
  obtain ⟨v1, v2, v3, v4⟩ := hv
  obtain ⟨s, hs, es⟩ := v1
  rw [es] at o4 h5
  have key : ∀ (rp1 : Nat → Int32) (v : Nat) (J1 : Mm), v < 5 → r_X5_step rp ro rq = (rp1, nI v) → f_X8_steps J m A x = J1 → (∀ k, k ≠ 6 → k ≠ 7 → k ≠ 8 → k ≠ 9 → rp1 k = rp k) → (∀ k j, dm k → k ≠ 9 → k ≠ 10 → k ≠ 19 → k ≠ 40 → J1 (A k) j = J (A k) j) → rp1 6 = J1 (A 10) x → rp1 7 = J1 (A 19) (3 * x) → rp1 8 = J1 (A 19) (3 * x + 1) → rp1 9 = J1 (A 19) (3 * x + 2) → J1 (A 9) x = nI v → (v = 1 → J1 (A 10) x = nI 1 ∨ J1 (A 10) x = nI 2) → MF A x J J1 → PR (r_X1_moveTo re (r_X5_step rp ro rq).1 ro (r_X5_step rp ro rq).2).1 (r_X1_moveTo re (r_X5_step rp ro rq).1 ro (r_X5_step rp ro rq).2).2.1 rq (f_X8_steps J m A x) A x ∧ PV (f_X8_steps J m A x) A x ∧ PLk (r_X1_moveTo re (r_X5_step rp ro rq).1 ro (r_X5_step rp ro rq).2).1 rl (f_X8_steps J m A x) A x ∧ (r_X1_moveTo re (r_X5_step rp ro rq).1 ro (r_X5_step rp ro rq).2).1 12 = rp 12 ∧ (r_X1_moveTo re (r_X5_step rp ro rq).1 ro (r_X5_step rp ro rq).2).1 10 = rp 10 ∧ MF A x J (f_X8_steps J m A x) := by
    intro rp1 v J1 hv e1 e2 hp hj r6 r7 r8 r9 g9 wt mf
    rw [e1, e2]
    have S := r_stage (rp := rp1) (v := v) hs hv o4
    rw [mv12.1, mv12.2]
    simp only [S]
    refine ⟨⟨?_, ?_, ?_, ?_, ?_, ?_, ?_, ?_, ?_, ?_, ?_, ?_, ?_, ?_, ?_, ?_, ?_, ?_⟩, ⟨⟨v, hv, g9⟩, ?_, ?_, ?_⟩, fun _ => ⟨?_, fun z => ?_⟩, ?_, ?_, mf⟩
    · rw [pk_un (by decide), hp 2 (by decide) (by decide) (by decide) (by decide), hj 11 x (by decide) (by decide) (by decide) (by decide) (by decide)]; exact h2
    · rw [pk_un (by decide), hp 3 (by decide) (by decide) (by decide) (by decide), hj 7 x (by decide) (by decide) (by decide) (by decide) (by decide)]; exact h3
    · rw [pk_un (by decide), hp 4 (by decide) (by decide) (by decide) (by decide), hj 8 x (by decide) (by decide) (by decide) (by decide) (by decide)]; exact h4
    · rw [pk_us]; exact g9.symm
    · rw [pk_un (by decide)]; exact r6
    · rw [pk_un (by decide)]; exact r7
    · rw [pk_un (by decide)]; exact r8
    · rw [pk_un (by decide)]; exact r9
    · rw [pk_un (by decide), hj 1 (x / 8) (by decide) (by decide) (by decide) (by decide) (by decide)]; exact o0
    · rw [pk_un (by decide), hj 3 x (by decide) (by decide) (by decide) (by decide) (by decide)]; exact o1
    · rw [pk_un (by decide), hj 4 x (by decide) (by decide) (by decide) (by decide) (by decide)]; exact o2
    · rw [pk_un (by decide)]; exact o3
    · rw [pk_us, hj 5 x (by decide) (by decide) (by decide) (by decide) (by decide), hj 6 x (by decide) (by decide) (by decide) (by decide) (by decide), hj 3 x (by decide) (by decide) (by decide) (by decide) (by decide), g9]
    · rw [hj 18 (5 * x) (by decide) (by decide) (by decide) (by decide) (by decide)]; exact q0
    · rw [hj 18 (5 * x + 1) (by decide) (by decide) (by decide) (by decide) (by decide)]; exact q1
    · rw [hj 18 (5 * x + 2) (by decide) (by decide) (by decide) (by decide) (by decide)]; exact q2
    · rw [hj 18 (5 * x + 3) (by decide) (by decide) (by decide) (by decide) (by decide)]; exact q3
    · rw [hj 18 (5 * x + 4) (by decide) (by decide) (by decide) (by decide) (by decide)]; exact q4
    · rw [hj 7 x (by decide) (by decide) (by decide) (by decide) (by decide)]; exact fun z => absurd z lit
    · rw [g9]; exact fun z => wt ((nI_lt5 v hv).2.2.2.2.2.1.mp z)
    · rw [hj 18 (5 * x + 4) (by decide) (by decide) (by decide) (by decide) (by decide)]; exact v4
    · rw [pk_un (by decide), hp 15 (by decide) (by decide) (by decide) (by decide), hj 21 x (by decide) (by decide) (by decide) (by decide) (by decide)]; exact hl.1
    · rw [hj 21 x (by decide) (by decide) (by decide) (by decide) (by decide)] at z; rw [pk_un (by decide), hp 13 (by decide) (by decide) (by decide) (by decide), hj 14 x (by decide) (by decide) (by decide) (by decide) (by decide), hj 20 (5 * x) (by decide) (by decide) (by decide) (by decide) (by decide), hj 20 (5 * x + 1) (by decide) (by decide) (by decide) (by decide) (by decide), hj 20 (5 * x + 2) (by decide) (by decide) (by decide) (by decide) (by decide), hj 20 (5 * x + 3) (by decide) (by decide) (by decide) (by decide) (by decide), hj 20 (5 * x + 4) (by decide) (by decide) (by decide) (by decide) (by decide)]; exact hl.2 z
    · rw [pk_un (by decide)]; exact hp 12 (by decide) (by decide) (by decide) (by decide)
    · rw [pk_un (by decide)]; exact hp 10 (by decide) (by decide) (by decide) (by decide)
  by_cases c0 : J (A 13) x = 0
  · skip
    refine key rp 0 (f_X8_goesTo J m A x (nI 0)) (by decide) ?_ ?_ ?_ ?_ ?_ ?_ ?_ ?_ ?_ ?_ ?_
    · simp only [r_X5_step, hc, c0, if_true]
    · simp only [f_X8_steps, f_lit, lit, c0, if_true, if_false]
    · intro k k6 k7 k8 k9; first | rfl | simp (disch := assumption) only [r_X5_bind, pk_un]
    · intro k j hk k9 k10 k19 k40; first | rfl | simp (disch := first | assumption | decide) only [mu_o hA, gt_o hA]
    · first | exact h6 | (try simp only [r_X5_bind]); simp (disch := first | decide | omega) only [mu_o hA, up2_self, mu_j, pk_us, pk_un, gt_o hA, gt_s hA] <;> (try assumption) <;> (try rw [h6])
    · first | exact h7 | (try simp only [r_X5_bind]); simp (disch := first | decide | omega) only [mu_o hA, up2_self, mu_j, pk_us, pk_un, gt_o hA, gt_s hA] <;> (try assumption)
    · first | exact h8 | (try simp only [r_X5_bind]); simp (disch := first | decide | omega) only [mu_o hA, up2_self, mu_j, pk_us, pk_un, gt_o hA, gt_s hA] <;> (try assumption)
    · first | exact h9 | (try simp only [r_X5_bind]); simp (disch := first | decide | omega) only [mu_o hA, up2_self, mu_j, pk_us, pk_un, gt_o hA, gt_s hA] <;> (try assumption)
    · first | exact es | (simp (disch := first | decide | omega) only [mu_o hA, up2_self, mu_j, pk_us, pk_un, gt_o hA, gt_s hA]; exact es) | (simp (disch := first | decide | omega) only [mu_o hA, up2_self, mu_j, pk_us, pk_un, gt_o hA, gt_s hA]; done)
    · first | exact fun z => absurd z (by decide) | (intro _; simp (disch := first | decide | omega) only [mu_o hA, up2_self, mu_j, pk_us, pk_un, gt_o hA, gt_s hA]; first | exact Or.inl rfl | exact Or.inr rfl | exact Or.inl trivial | exact Or.inr trivial)
    · first | exact MF.rf | exact MF.gt hA MF.rf | (repeat (first | exact MF.rf | exact MF.gt hA MF.rf | refine MF.gt hA ?_ | refine MF.w hA (by decide) (by first | exact ow_x (by decide) | exact ow_3 (by decide) | exact ow_30) ?_))
  · have sc : s = 0 ∨ s = 1 ∨ s = 2 ∨ s = 3 ∨ s = 4 := by omega
    by_cases B : ro 1 = rp 7 ∧ rq 0 = rp 8 ∧ rq 1 = rp 9
    · have BM : J (A 19) (3 * x) = J (A 3) x ∧ J (A 19) (3 * x + 1) = J (A 18) (5 * x) ∧ J (A 19) (3 * x + 2) = J (A 18) (5 * x + 1) := by rw [← h7, ← h8, ← h9, ← o1, ← q0, ← q1]; exact ⟨B.1.symm, B.2.1.symm, B.2.2.symm⟩
      have B' : (ro 1 = rp 7 ∧ rq 0 = rp 8 ∧ rq 1 = rp 9) = True := eq_true B
      have BM' : (J (A 19) (3 * x) = J (A 3) x ∧ J (A 19) (3 * x + 1) = J (A 18) (5 * x) ∧ J (A 19) (3 * x + 2) = J (A 18) (5 * x + 1)) = True := eq_true BM
      rcases sc with rfl | rfl | rfl | rfl | rfl
      · skip
        refine key (r_X5_bind rp ro rq) 1 (up2 (up2 (up2 (up2 (f_X8_goesTo J m A x (nI 1)) (A 10) x (nI 2)) (A 19) (3 * x) (J (A 3) x)) (A 19) (3 * x + 1) (J (A 18) (5 * x))) (A 19) (3 * x + 2) (J (A 18) (5 * x + 1))) (by decide) ?_ ?_ ?_ ?_ ?_ ?_ ?_ ?_ ?_ ?_ ?_
        · simp only [r_X5_step, hc, c0, h5, r_sbd, r_has, q4, zz_0_1, zz_0_2, zz_0_3, zz_0_4, zz_1_0, zz_1_2, zz_1_3, zz_1_4, zz_2_0, zz_2_1, zz_2_3, zz_2_4, zz_3_0, zz_3_1, zz_3_2, zz_3_4, zz_4_0, zz_4_1, zz_4_2, zz_4_3, zo_1, zo_2, zo_3, zo_4, zo_0, zl_1, zl_2, zl_3, zl_4, zl_0, B', if_true, if_false, not_true, not_false_eq_true, pk_us, eq_self]
        · simp only [f_X8_steps, f_lit, lit, c0, es, f_oth, f_ptn, up2_self, zz_0_1, zz_0_2, zz_0_3, zz_0_4, zz_1_0, zz_1_2, zz_1_3, zz_1_4, zz_2_0, zz_2_1, zz_2_3, zz_2_4, zz_3_0, zz_3_1, zz_3_2, zz_3_4, zz_4_0, zz_4_1, zz_4_2, zz_4_3, zo_1, zo_2, zo_3, zo_4, zo_0, zl_1, zl_2, zl_3, zl_4, zl_0, BM', if_true, if_false, true_or, false_or, eq_self]; simp (disch := first | decide | omega) only [mu_o hA, up2_self, mu_j, pk_us, pk_un, gt_o hA, gt_s hA]
        · intro k k6 k7 k8 k9; first | rfl | simp (disch := assumption) only [r_X5_bind, pk_un]
        · intro k j hk k9 k10 k19 k40; first | rfl | simp (disch := first | assumption | decide) only [mu_o hA, gt_o hA]
        · first | exact h6 | (try simp only [r_X5_bind]); simp (disch := first | decide | omega) only [mu_o hA, up2_self, mu_j, pk_us, pk_un, gt_o hA, gt_s hA] <;> (try assumption) <;> (try rw [h6])
        · first | exact h7 | (try simp only [r_X5_bind]); simp (disch := first | decide | omega) only [mu_o hA, up2_self, mu_j, pk_us, pk_un, gt_o hA, gt_s hA] <;> (try assumption)
        · first | exact h8 | (try simp only [r_X5_bind]); simp (disch := first | decide | omega) only [mu_o hA, up2_self, mu_j, pk_us, pk_un, gt_o hA, gt_s hA] <;> (try assumption)
        · first | exact h9 | (try simp only [r_X5_bind]); simp (disch := first | decide | omega) only [mu_o hA, up2_self, mu_j, pk_us, pk_un, gt_o hA, gt_s hA] <;> (try assumption)
        · first | exact es | (simp (disch := first | decide | omega) only [mu_o hA, up2_self, mu_j, pk_us, pk_un, gt_o hA, gt_s hA]; exact es) | (simp (disch := first | decide | omega) only [mu_o hA, up2_self, mu_j, pk_us, pk_un, gt_o hA, gt_s hA]; done)
        · first | exact fun z => absurd z (by decide) | (intro _; simp (disch := first | decide | omega) only [mu_o hA, up2_self, mu_j, pk_us, pk_un, gt_o hA, gt_s hA]; first | exact Or.inl rfl | exact Or.inr rfl | exact Or.inl trivial | exact Or.inr trivial)
        · first | exact MF.rf | exact MF.gt hA MF.rf | (repeat (first | exact MF.rf | exact MF.gt hA MF.rf | refine MF.gt hA ?_ | refine MF.w hA (by decide) (by first | exact ow_x (by decide) | exact ow_3 (by decide) | exact ow_30) ?_))
      · rcases v3 es with wv | wv
        · skip
          refine key (upd rp 6 (nI 0)) 2 (f_X8_goesTo (up2 J (A 10) x (nI 0)) m A x (nI 2)) (by decide) ?_ ?_ ?_ ?_ ?_ ?_ ?_ ?_ ?_ ?_ ?_
          · have w0 : rp 6 - nI 1 = nI 0 := by rw [h6, wv]; decide
            simp only [r_X5_step, hc, c0, h5, r_sbd, r_has, q4, zz_0_1, zz_0_2, zz_0_3, zz_0_4, zz_1_0, zz_1_2, zz_1_3, zz_1_4, zz_2_0, zz_2_1, zz_2_3, zz_2_4, zz_3_0, zz_3_1, zz_3_2, zz_3_4, zz_4_0, zz_4_1, zz_4_2, zz_4_3, zo_1, zo_2, zo_3, zo_4, zo_0, zl_1, zl_2, zl_3, zl_4, zl_0, B', if_true, if_false, not_true, not_false_eq_true, pk_us, w0, eq_self]
          · have w0 : J (A 10) x - nI 1 = nI 0 := by rw [wv]; decide
            simp only [f_X8_steps, f_lit, lit, c0, es, f_oth, f_ptn, up2_self, w0, zz_0_1, zz_0_2, zz_0_3, zz_0_4, zz_1_0, zz_1_2, zz_1_3, zz_1_4, zz_2_0, zz_2_1, zz_2_3, zz_2_4, zz_3_0, zz_3_1, zz_3_2, zz_3_4, zz_4_0, zz_4_1, zz_4_2, zz_4_3, zo_1, zo_2, zo_3, zo_4, zo_0, zl_1, zl_2, zl_3, zl_4, zl_0, BM', if_true, if_false, true_or, false_or, eq_self]
          · intro k k6 k7 k8 k9; first | rfl | simp (disch := assumption) only [r_X5_bind, pk_un]
          · intro k j hk k9 k10 k19 k40; first | rfl | simp (disch := first | assumption | decide) only [mu_o hA, gt_o hA]
          · first | exact h6 | (try simp only [r_X5_bind]); simp (disch := first | decide | omega) only [mu_o hA, up2_self, mu_j, pk_us, pk_un, gt_o hA, gt_s hA] <;> (try assumption) <;> (try rw [h6])
          · first | exact h7 | (try simp only [r_X5_bind]); simp (disch := first | decide | omega) only [mu_o hA, up2_self, mu_j, pk_us, pk_un, gt_o hA, gt_s hA] <;> (try assumption)
          · first | exact h8 | (try simp only [r_X5_bind]); simp (disch := first | decide | omega) only [mu_o hA, up2_self, mu_j, pk_us, pk_un, gt_o hA, gt_s hA] <;> (try assumption)
          · first | exact h9 | (try simp only [r_X5_bind]); simp (disch := first | decide | omega) only [mu_o hA, up2_self, mu_j, pk_us, pk_un, gt_o hA, gt_s hA] <;> (try assumption)
          · first | exact es | (simp (disch := first | decide | omega) only [mu_o hA, up2_self, mu_j, pk_us, pk_un, gt_o hA, gt_s hA]; exact es) | (simp (disch := first | decide | omega) only [mu_o hA, up2_self, mu_j, pk_us, pk_un, gt_o hA, gt_s hA]; done)
          · first | exact fun z => absurd z (by decide) | (intro _; simp (disch := first | decide | omega) only [mu_o hA, up2_self, mu_j, pk_us, pk_un, gt_o hA, gt_s hA]; first | exact Or.inl rfl | exact Or.inr rfl | exact Or.inl trivial | exact Or.inr trivial)
          · first | exact MF.rf | exact MF.gt hA MF.rf | (repeat (first | exact MF.rf | exact MF.gt hA MF.rf | refine MF.gt hA ?_ | refine MF.w hA (by decide) (by first | exact ow_x (by decide) | exact ow_3 (by decide) | exact ow_30) ?_))
        · skip
          refine key (upd rp 6 (nI 1)) 1 (up2 J (A 10) x (nI 1)) (by decide) ?_ ?_ ?_ ?_ ?_ ?_ ?_ ?_ ?_ ?_ ?_
          · have w0 : rp 6 - nI 1 = nI 1 := by rw [h6, wv]; decide
            simp only [r_X5_step, hc, c0, h5, r_sbd, r_has, q4, zz_0_1, zz_0_2, zz_0_3, zz_0_4, zz_1_0, zz_1_2, zz_1_3, zz_1_4, zz_2_0, zz_2_1, zz_2_3, zz_2_4, zz_3_0, zz_3_1, zz_3_2, zz_3_4, zz_4_0, zz_4_1, zz_4_2, zz_4_3, zo_1, zo_2, zo_3, zo_4, zo_0, zl_1, zl_2, zl_3, zl_4, zl_0, B', if_true, if_false, not_true, not_false_eq_true, pk_us, w0, eq_self]
          · have w0 : J (A 10) x - nI 1 = nI 1 := by rw [wv]; decide
            simp only [f_X8_steps, f_lit, lit, c0, es, f_oth, f_ptn, up2_self, w0, zz_0_1, zz_0_2, zz_0_3, zz_0_4, zz_1_0, zz_1_2, zz_1_3, zz_1_4, zz_2_0, zz_2_1, zz_2_3, zz_2_4, zz_3_0, zz_3_1, zz_3_2, zz_3_4, zz_4_0, zz_4_1, zz_4_2, zz_4_3, zo_1, zo_2, zo_3, zo_4, zo_0, zl_1, zl_2, zl_3, zl_4, zl_0, BM', if_true, if_false, true_or, false_or, eq_self]
          · intro k k6 k7 k8 k9; first | rfl | simp (disch := assumption) only [r_X5_bind, pk_un]
          · intro k j hk k9 k10 k19 k40; first | rfl | simp (disch := first | assumption | decide) only [mu_o hA, gt_o hA]
          · first | exact h6 | (try simp only [r_X5_bind]); simp (disch := first | decide | omega) only [mu_o hA, up2_self, mu_j, pk_us, pk_un, gt_o hA, gt_s hA] <;> (try assumption) <;> (try rw [h6])
          · first | exact h7 | (try simp only [r_X5_bind]); simp (disch := first | decide | omega) only [mu_o hA, up2_self, mu_j, pk_us, pk_un, gt_o hA, gt_s hA] <;> (try assumption)
          · first | exact h8 | (try simp only [r_X5_bind]); simp (disch := first | decide | omega) only [mu_o hA, up2_self, mu_j, pk_us, pk_un, gt_o hA, gt_s hA] <;> (try assumption)
          · first | exact h9 | (try simp only [r_X5_bind]); simp (disch := first | decide | omega) only [mu_o hA, up2_self, mu_j, pk_us, pk_un, gt_o hA, gt_s hA] <;> (try assumption)
          · first | exact es | (simp (disch := first | decide | omega) only [mu_o hA, up2_self, mu_j, pk_us, pk_un, gt_o hA, gt_s hA]; exact es) | (simp (disch := first | decide | omega) only [mu_o hA, up2_self, mu_j, pk_us, pk_un, gt_o hA, gt_s hA]; done)
          · first | exact fun z => absurd z (by decide) | (intro _; simp (disch := first | decide | omega) only [mu_o hA, up2_self, mu_j, pk_us, pk_un, gt_o hA, gt_s hA]; first | exact Or.inl rfl | exact Or.inr rfl | exact Or.inl trivial | exact Or.inr trivial)
          · first | exact MF.rf | exact MF.gt hA MF.rf | (repeat (first | exact MF.rf | exact MF.gt hA MF.rf | refine MF.gt hA ?_ | refine MF.w hA (by decide) (by first | exact ow_x (by decide) | exact ow_3 (by decide) | exact ow_30) ?_))
      · by_cases i8 : J (A 18) (5 * x + 4) &&& nI 8 = 0
        · skip
          refine key rp 2 J (by decide) ?_ ?_ ?_ ?_ ?_ ?_ ?_ ?_ ?_ ?_ ?_
          · simp only [r_X5_step, hc, c0, h5, r_sbd, r_has, q4, zz_0_1, zz_0_2, zz_0_3, zz_0_4, zz_1_0, zz_1_2, zz_1_3, zz_1_4, zz_2_0, zz_2_1, zz_2_3, zz_2_4, zz_3_0, zz_3_1, zz_3_2, zz_3_4, zz_4_0, zz_4_1, zz_4_2, zz_4_3, zo_1, zo_2, zo_3, zo_4, zo_0, zl_1, zl_2, zl_3, zl_4, zl_0, B', if_true, if_false, not_true, not_false_eq_true, i8, eq_self]
          · simp only [f_X8_steps, f_lit, lit, c0, es, f_oth, f_ptn, i8, zz_0_1, zz_0_2, zz_0_3, zz_0_4, zz_1_0, zz_1_2, zz_1_3, zz_1_4, zz_2_0, zz_2_1, zz_2_3, zz_2_4, zz_3_0, zz_3_1, zz_3_2, zz_3_4, zz_4_0, zz_4_1, zz_4_2, zz_4_3, zo_1, zo_2, zo_3, zo_4, zo_0, zl_1, zl_2, zl_3, zl_4, zl_0, BM', if_true, if_false, true_or, false_or, eq_self]
          · intro k k6 k7 k8 k9; first | rfl | simp (disch := assumption) only [r_X5_bind, pk_un]
          · intro k j hk k9 k10 k19 k40; first | rfl | simp (disch := first | assumption | decide) only [mu_o hA, gt_o hA]
          · first | exact h6 | (try simp only [r_X5_bind]); simp (disch := first | decide | omega) only [mu_o hA, up2_self, mu_j, pk_us, pk_un, gt_o hA, gt_s hA] <;> (try assumption) <;> (try rw [h6])
          · first | exact h7 | (try simp only [r_X5_bind]); simp (disch := first | decide | omega) only [mu_o hA, up2_self, mu_j, pk_us, pk_un, gt_o hA, gt_s hA] <;> (try assumption)
          · first | exact h8 | (try simp only [r_X5_bind]); simp (disch := first | decide | omega) only [mu_o hA, up2_self, mu_j, pk_us, pk_un, gt_o hA, gt_s hA] <;> (try assumption)
          · first | exact h9 | (try simp only [r_X5_bind]); simp (disch := first | decide | omega) only [mu_o hA, up2_self, mu_j, pk_us, pk_un, gt_o hA, gt_s hA] <;> (try assumption)
          · first | exact es | (simp (disch := first | decide | omega) only [mu_o hA, up2_self, mu_j, pk_us, pk_un, gt_o hA, gt_s hA]; exact es) | (simp (disch := first | decide | omega) only [mu_o hA, up2_self, mu_j, pk_us, pk_un, gt_o hA, gt_s hA]; done)
          · first | exact fun z => absurd z (by decide) | (intro _; simp (disch := first | decide | omega) only [mu_o hA, up2_self, mu_j, pk_us, pk_un, gt_o hA, gt_s hA]; first | exact Or.inl rfl | exact Or.inr rfl | exact Or.inl trivial | exact Or.inr trivial)
          · first | exact MF.rf | exact MF.gt hA MF.rf | (repeat (first | exact MF.rf | exact MF.gt hA MF.rf | refine MF.gt hA ?_ | refine MF.w hA (by decide) (by first | exact ow_x (by decide) | exact ow_3 (by decide) | exact ow_30) ?_))
        · skip
          refine key rp 3 (f_X8_goesTo J m A x (nI 3)) (by decide) ?_ ?_ ?_ ?_ ?_ ?_ ?_ ?_ ?_ ?_ ?_
          · simp only [r_X5_step, hc, c0, h5, r_sbd, r_has, q4, zz_0_1, zz_0_2, zz_0_3, zz_0_4, zz_1_0, zz_1_2, zz_1_3, zz_1_4, zz_2_0, zz_2_1, zz_2_3, zz_2_4, zz_3_0, zz_3_1, zz_3_2, zz_3_4, zz_4_0, zz_4_1, zz_4_2, zz_4_3, zo_1, zo_2, zo_3, zo_4, zo_0, zl_1, zl_2, zl_3, zl_4, zl_0, B', if_true, if_false, not_true, not_false_eq_true, i8, eq_self]
          · simp only [f_X8_steps, f_lit, lit, c0, es, f_oth, f_ptn, i8, zz_0_1, zz_0_2, zz_0_3, zz_0_4, zz_1_0, zz_1_2, zz_1_3, zz_1_4, zz_2_0, zz_2_1, zz_2_3, zz_2_4, zz_3_0, zz_3_1, zz_3_2, zz_3_4, zz_4_0, zz_4_1, zz_4_2, zz_4_3, zo_1, zo_2, zo_3, zo_4, zo_0, zl_1, zl_2, zl_3, zl_4, zl_0, BM', if_true, if_false, true_or, false_or, eq_self]
          · intro k k6 k7 k8 k9; first | rfl | simp (disch := assumption) only [r_X5_bind, pk_un]
          · intro k j hk k9 k10 k19 k40; first | rfl | simp (disch := first | assumption | decide) only [mu_o hA, gt_o hA]
          · first | exact h6 | (try simp only [r_X5_bind]); simp (disch := first | decide | omega) only [mu_o hA, up2_self, mu_j, pk_us, pk_un, gt_o hA, gt_s hA] <;> (try assumption) <;> (try rw [h6])
          · first | exact h7 | (try simp only [r_X5_bind]); simp (disch := first | decide | omega) only [mu_o hA, up2_self, mu_j, pk_us, pk_un, gt_o hA, gt_s hA] <;> (try assumption)
          · first | exact h8 | (try simp only [r_X5_bind]); simp (disch := first | decide | omega) only [mu_o hA, up2_self, mu_j, pk_us, pk_un, gt_o hA, gt_s hA] <;> (try assumption)
          · first | exact h9 | (try simp only [r_X5_bind]); simp (disch := first | decide | omega) only [mu_o hA, up2_self, mu_j, pk_us, pk_un, gt_o hA, gt_s hA] <;> (try assumption)
          · first | exact es | (simp (disch := first | decide | omega) only [mu_o hA, up2_self, mu_j, pk_us, pk_un, gt_o hA, gt_s hA]; exact es) | (simp (disch := first | decide | omega) only [mu_o hA, up2_self, mu_j, pk_us, pk_un, gt_o hA, gt_s hA]; done)
          · first | exact fun z => absurd z (by decide) | (intro _; simp (disch := first | decide | omega) only [mu_o hA, up2_self, mu_j, pk_us, pk_un, gt_o hA, gt_s hA]; first | exact Or.inl rfl | exact Or.inr rfl | exact Or.inl trivial | exact Or.inr trivial)
          · first | exact MF.rf | exact MF.gt hA MF.rf | (repeat (first | exact MF.rf | exact MF.gt hA MF.rf | refine MF.gt hA ?_ | refine MF.w hA (by decide) (by first | exact ow_x (by decide) | exact ow_3 (by decide) | exact ow_30) ?_))
      · by_cases i8 : J (A 18) (5 * x + 4) &&& nI 8 = 0
        · skip
          refine key rp 2 (f_X8_goesTo J m A x (nI 2)) (by decide) ?_ ?_ ?_ ?_ ?_ ?_ ?_ ?_ ?_ ?_ ?_
          · simp only [r_X5_step, hc, c0, h5, r_sbd, r_has, q4, zz_0_1, zz_0_2, zz_0_3, zz_0_4, zz_1_0, zz_1_2, zz_1_3, zz_1_4, zz_2_0, zz_2_1, zz_2_3, zz_2_4, zz_3_0, zz_3_1, zz_3_2, zz_3_4, zz_4_0, zz_4_1, zz_4_2, zz_4_3, zo_1, zo_2, zo_3, zo_4, zo_0, zl_1, zl_2, zl_3, zl_4, zl_0, B', if_true, if_false, not_true, not_false_eq_true, i8, eq_self]
          · simp only [f_X8_steps, f_lit, lit, c0, es, f_oth, f_ptn, i8, zz_0_1, zz_0_2, zz_0_3, zz_0_4, zz_1_0, zz_1_2, zz_1_3, zz_1_4, zz_2_0, zz_2_1, zz_2_3, zz_2_4, zz_3_0, zz_3_1, zz_3_2, zz_3_4, zz_4_0, zz_4_1, zz_4_2, zz_4_3, zo_1, zo_2, zo_3, zo_4, zo_0, zl_1, zl_2, zl_3, zl_4, zl_0, BM', if_true, if_false, true_or, false_or, eq_self]
          · intro k k6 k7 k8 k9; first | rfl | simp (disch := assumption) only [r_X5_bind, pk_un]
          · intro k j hk k9 k10 k19 k40; first | rfl | simp (disch := first | assumption | decide) only [mu_o hA, gt_o hA]
          · first | exact h6 | (try simp only [r_X5_bind]); simp (disch := first | decide | omega) only [mu_o hA, up2_self, mu_j, pk_us, pk_un, gt_o hA, gt_s hA] <;> (try assumption) <;> (try rw [h6])
          · first | exact h7 | (try simp only [r_X5_bind]); simp (disch := first | decide | omega) only [mu_o hA, up2_self, mu_j, pk_us, pk_un, gt_o hA, gt_s hA] <;> (try assumption)
          · first | exact h8 | (try simp only [r_X5_bind]); simp (disch := first | decide | omega) only [mu_o hA, up2_self, mu_j, pk_us, pk_un, gt_o hA, gt_s hA] <;> (try assumption)
          · first | exact h9 | (try simp only [r_X5_bind]); simp (disch := first | decide | omega) only [mu_o hA, up2_self, mu_j, pk_us, pk_un, gt_o hA, gt_s hA] <;> (try assumption)
          · first | exact es | (simp (disch := first | decide | omega) only [mu_o hA, up2_self, mu_j, pk_us, pk_un, gt_o hA, gt_s hA]; exact es) | (simp (disch := first | decide | omega) only [mu_o hA, up2_self, mu_j, pk_us, pk_un, gt_o hA, gt_s hA]; done)
          · first | exact fun z => absurd z (by decide) | (intro _; simp (disch := first | decide | omega) only [mu_o hA, up2_self, mu_j, pk_us, pk_un, gt_o hA, gt_s hA]; first | exact Or.inl rfl | exact Or.inr rfl | exact Or.inl trivial | exact Or.inr trivial)
          · first | exact MF.rf | exact MF.gt hA MF.rf | (repeat (first | exact MF.rf | exact MF.gt hA MF.rf | refine MF.gt hA ?_ | refine MF.w hA (by decide) (by first | exact ow_x (by decide) | exact ow_3 (by decide) | exact ow_30) ?_))
        · by_cases i16 : J (A 18) (5 * x + 4) &&& nI 16 = 0
          · skip
            refine key rp 3 J (by decide) ?_ ?_ ?_ ?_ ?_ ?_ ?_ ?_ ?_ ?_ ?_
            · simp only [r_X5_step, hc, c0, h5, r_sbd, r_has, q4, zz_0_1, zz_0_2, zz_0_3, zz_0_4, zz_1_0, zz_1_2, zz_1_3, zz_1_4, zz_2_0, zz_2_1, zz_2_3, zz_2_4, zz_3_0, zz_3_1, zz_3_2, zz_3_4, zz_4_0, zz_4_1, zz_4_2, zz_4_3, zo_1, zo_2, zo_3, zo_4, zo_0, zl_1, zl_2, zl_3, zl_4, zl_0, B', if_true, if_false, not_true, not_false_eq_true, i8, i16, eq_self]
            · simp only [f_X8_steps, f_lit, lit, c0, es, f_oth, f_ptn, i8, i16, zz_0_1, zz_0_2, zz_0_3, zz_0_4, zz_1_0, zz_1_2, zz_1_3, zz_1_4, zz_2_0, zz_2_1, zz_2_3, zz_2_4, zz_3_0, zz_3_1, zz_3_2, zz_3_4, zz_4_0, zz_4_1, zz_4_2, zz_4_3, zo_1, zo_2, zo_3, zo_4, zo_0, zl_1, zl_2, zl_3, zl_4, zl_0, BM', if_true, if_false, true_or, false_or, eq_self]
            · intro k k6 k7 k8 k9; first | rfl | simp (disch := assumption) only [r_X5_bind, pk_un]
            · intro k j hk k9 k10 k19 k40; first | rfl | simp (disch := first | assumption | decide) only [mu_o hA, gt_o hA]
            · first | exact h6 | (try simp only [r_X5_bind]); simp (disch := first | decide | omega) only [mu_o hA, up2_self, mu_j, pk_us, pk_un, gt_o hA, gt_s hA] <;> (try assumption) <;> (try rw [h6])
            · first | exact h7 | (try simp only [r_X5_bind]); simp (disch := first | decide | omega) only [mu_o hA, up2_self, mu_j, pk_us, pk_un, gt_o hA, gt_s hA] <;> (try assumption)
            · first | exact h8 | (try simp only [r_X5_bind]); simp (disch := first | decide | omega) only [mu_o hA, up2_self, mu_j, pk_us, pk_un, gt_o hA, gt_s hA] <;> (try assumption)
            · first | exact h9 | (try simp only [r_X5_bind]); simp (disch := first | decide | omega) only [mu_o hA, up2_self, mu_j, pk_us, pk_un, gt_o hA, gt_s hA] <;> (try assumption)
            · first | exact es | (simp (disch := first | decide | omega) only [mu_o hA, up2_self, mu_j, pk_us, pk_un, gt_o hA, gt_s hA]; exact es) | (simp (disch := first | decide | omega) only [mu_o hA, up2_self, mu_j, pk_us, pk_un, gt_o hA, gt_s hA]; done)
            · first | exact fun z => absurd z (by decide) | (intro _; simp (disch := first | decide | omega) only [mu_o hA, up2_self, mu_j, pk_us, pk_un, gt_o hA, gt_s hA]; first | exact Or.inl rfl | exact Or.inr rfl | exact Or.inl trivial | exact Or.inr trivial)
            · first | exact MF.rf | exact MF.gt hA MF.rf | (repeat (first | exact MF.rf | exact MF.gt hA MF.rf | refine MF.gt hA ?_ | refine MF.w hA (by decide) (by first | exact ow_x (by decide) | exact ow_3 (by decide) | exact ow_30) ?_))
          · skip
            refine key rp 4 (f_X8_goesTo J m A x (nI 4)) (by decide) ?_ ?_ ?_ ?_ ?_ ?_ ?_ ?_ ?_ ?_ ?_
            · simp only [r_X5_step, hc, c0, h5, r_sbd, r_has, q4, zz_0_1, zz_0_2, zz_0_3, zz_0_4, zz_1_0, zz_1_2, zz_1_3, zz_1_4, zz_2_0, zz_2_1, zz_2_3, zz_2_4, zz_3_0, zz_3_1, zz_3_2, zz_3_4, zz_4_0, zz_4_1, zz_4_2, zz_4_3, zo_1, zo_2, zo_3, zo_4, zo_0, zl_1, zl_2, zl_3, zl_4, zl_0, B', if_true, if_false, not_true, not_false_eq_true, i8, i16, eq_self]
            · simp only [f_X8_steps, f_lit, lit, c0, es, f_oth, f_ptn, i8, i16, zz_0_1, zz_0_2, zz_0_3, zz_0_4, zz_1_0, zz_1_2, zz_1_3, zz_1_4, zz_2_0, zz_2_1, zz_2_3, zz_2_4, zz_3_0, zz_3_1, zz_3_2, zz_3_4, zz_4_0, zz_4_1, zz_4_2, zz_4_3, zo_1, zo_2, zo_3, zo_4, zo_0, zl_1, zl_2, zl_3, zl_4, zl_0, BM', if_true, if_false, true_or, false_or, eq_self]
            · intro k k6 k7 k8 k9; first | rfl | simp (disch := assumption) only [r_X5_bind, pk_un]
            · intro k j hk k9 k10 k19 k40; first | rfl | simp (disch := first | assumption | decide) only [mu_o hA, gt_o hA]
            · first | exact h6 | (try simp only [r_X5_bind]); simp (disch := first | decide | omega) only [mu_o hA, up2_self, mu_j, pk_us, pk_un, gt_o hA, gt_s hA] <;> (try assumption) <;> (try rw [h6])
            · first | exact h7 | (try simp only [r_X5_bind]); simp (disch := first | decide | omega) only [mu_o hA, up2_self, mu_j, pk_us, pk_un, gt_o hA, gt_s hA] <;> (try assumption)
            · first | exact h8 | (try simp only [r_X5_bind]); simp (disch := first | decide | omega) only [mu_o hA, up2_self, mu_j, pk_us, pk_un, gt_o hA, gt_s hA] <;> (try assumption)
            · first | exact h9 | (try simp only [r_X5_bind]); simp (disch := first | decide | omega) only [mu_o hA, up2_self, mu_j, pk_us, pk_un, gt_o hA, gt_s hA] <;> (try assumption)
            · first | exact es | (simp (disch := first | decide | omega) only [mu_o hA, up2_self, mu_j, pk_us, pk_un, gt_o hA, gt_s hA]; exact es) | (simp (disch := first | decide | omega) only [mu_o hA, up2_self, mu_j, pk_us, pk_un, gt_o hA, gt_s hA]; done)
            · first | exact fun z => absurd z (by decide) | (intro _; simp (disch := first | decide | omega) only [mu_o hA, up2_self, mu_j, pk_us, pk_un, gt_o hA, gt_s hA]; first | exact Or.inl rfl | exact Or.inr rfl | exact Or.inl trivial | exact Or.inr trivial)
            · first | exact MF.rf | exact MF.gt hA MF.rf | (repeat (first | exact MF.rf | exact MF.gt hA MF.rf | refine MF.gt hA ?_ | refine MF.w hA (by decide) (by first | exact ow_x (by decide) | exact ow_3 (by decide) | exact ow_30) ?_))
      · by_cases i8 : J (A 18) (5 * x + 4) &&& nI 8 = 0
        · skip
          refine key rp 2 (f_X8_goesTo J m A x (nI 2)) (by decide) ?_ ?_ ?_ ?_ ?_ ?_ ?_ ?_ ?_ ?_ ?_
          · simp only [r_X5_step, hc, c0, h5, r_sbd, r_has, q4, zz_0_1, zz_0_2, zz_0_3, zz_0_4, zz_1_0, zz_1_2, zz_1_3, zz_1_4, zz_2_0, zz_2_1, zz_2_3, zz_2_4, zz_3_0, zz_3_1, zz_3_2, zz_3_4, zz_4_0, zz_4_1, zz_4_2, zz_4_3, zo_1, zo_2, zo_3, zo_4, zo_0, zl_1, zl_2, zl_3, zl_4, zl_0, B', if_true, if_false, not_true, not_false_eq_true, i8, eq_self]
          · simp only [f_X8_steps, f_lit, lit, c0, es, f_oth, f_ptn, i8, zz_0_1, zz_0_2, zz_0_3, zz_0_4, zz_1_0, zz_1_2, zz_1_3, zz_1_4, zz_2_0, zz_2_1, zz_2_3, zz_2_4, zz_3_0, zz_3_1, zz_3_2, zz_3_4, zz_4_0, zz_4_1, zz_4_2, zz_4_3, zo_1, zo_2, zo_3, zo_4, zo_0, zl_1, zl_2, zl_3, zl_4, zl_0, BM', if_true, if_false, true_or, false_or, eq_self]
          · intro k k6 k7 k8 k9; first | rfl | simp (disch := assumption) only [r_X5_bind, pk_un]
          · intro k j hk k9 k10 k19 k40; first | rfl | simp (disch := first | assumption | decide) only [mu_o hA, gt_o hA]
          · first | exact h6 | (try simp only [r_X5_bind]); simp (disch := first | decide | omega) only [mu_o hA, up2_self, mu_j, pk_us, pk_un, gt_o hA, gt_s hA] <;> (try assumption) <;> (try rw [h6])
          · first | exact h7 | (try simp only [r_X5_bind]); simp (disch := first | decide | omega) only [mu_o hA, up2_self, mu_j, pk_us, pk_un, gt_o hA, gt_s hA] <;> (try assumption)
          · first | exact h8 | (try simp only [r_X5_bind]); simp (disch := first | decide | omega) only [mu_o hA, up2_self, mu_j, pk_us, pk_un, gt_o hA, gt_s hA] <;> (try assumption)
          · first | exact h9 | (try simp only [r_X5_bind]); simp (disch := first | decide | omega) only [mu_o hA, up2_self, mu_j, pk_us, pk_un, gt_o hA, gt_s hA] <;> (try assumption)
          · first | exact es | (simp (disch := first | decide | omega) only [mu_o hA, up2_self, mu_j, pk_us, pk_un, gt_o hA, gt_s hA]; exact es) | (simp (disch := first | decide | omega) only [mu_o hA, up2_self, mu_j, pk_us, pk_un, gt_o hA, gt_s hA]; done)
          · first | exact fun z => absurd z (by decide) | (intro _; simp (disch := first | decide | omega) only [mu_o hA, up2_self, mu_j, pk_us, pk_un, gt_o hA, gt_s hA]; first | exact Or.inl rfl | exact Or.inr rfl | exact Or.inl trivial | exact Or.inr trivial)
          · first | exact MF.rf | exact MF.gt hA MF.rf | (repeat (first | exact MF.rf | exact MF.gt hA MF.rf | refine MF.gt hA ?_ | refine MF.w hA (by decide) (by first | exact ow_x (by decide) | exact ow_3 (by decide) | exact ow_30) ?_))
        · by_cases i16 : J (A 18) (5 * x + 4) &&& nI 16 = 0
          · skip
            refine key rp 3 (f_X8_goesTo J m A x (nI 3)) (by decide) ?_ ?_ ?_ ?_ ?_ ?_ ?_ ?_ ?_ ?_ ?_
            · simp only [r_X5_step, hc, c0, h5, r_sbd, r_has, q4, zz_0_1, zz_0_2, zz_0_3, zz_0_4, zz_1_0, zz_1_2, zz_1_3, zz_1_4, zz_2_0, zz_2_1, zz_2_3, zz_2_4, zz_3_0, zz_3_1, zz_3_2, zz_3_4, zz_4_0, zz_4_1, zz_4_2, zz_4_3, zo_1, zo_2, zo_3, zo_4, zo_0, zl_1, zl_2, zl_3, zl_4, zl_0, B', if_true, if_false, not_true, not_false_eq_true, i8, i16, eq_self]
            · simp only [f_X8_steps, f_lit, lit, c0, es, f_oth, f_ptn, i8, i16, zz_0_1, zz_0_2, zz_0_3, zz_0_4, zz_1_0, zz_1_2, zz_1_3, zz_1_4, zz_2_0, zz_2_1, zz_2_3, zz_2_4, zz_3_0, zz_3_1, zz_3_2, zz_3_4, zz_4_0, zz_4_1, zz_4_2, zz_4_3, zo_1, zo_2, zo_3, zo_4, zo_0, zl_1, zl_2, zl_3, zl_4, zl_0, BM', if_true, if_false, true_or, false_or, eq_self]
            · intro k k6 k7 k8 k9; first | rfl | simp (disch := assumption) only [r_X5_bind, pk_un]
            · intro k j hk k9 k10 k19 k40; first | rfl | simp (disch := first | assumption | decide) only [mu_o hA, gt_o hA]
            · first | exact h6 | (try simp only [r_X5_bind]); simp (disch := first | decide | omega) only [mu_o hA, up2_self, mu_j, pk_us, pk_un, gt_o hA, gt_s hA] <;> (try assumption) <;> (try rw [h6])
            · first | exact h7 | (try simp only [r_X5_bind]); simp (disch := first | decide | omega) only [mu_o hA, up2_self, mu_j, pk_us, pk_un, gt_o hA, gt_s hA] <;> (try assumption)
            · first | exact h8 | (try simp only [r_X5_bind]); simp (disch := first | decide | omega) only [mu_o hA, up2_self, mu_j, pk_us, pk_un, gt_o hA, gt_s hA] <;> (try assumption)
            · first | exact h9 | (try simp only [r_X5_bind]); simp (disch := first | decide | omega) only [mu_o hA, up2_self, mu_j, pk_us, pk_un, gt_o hA, gt_s hA] <;> (try assumption)
            · first | exact es | (simp (disch := first | decide | omega) only [mu_o hA, up2_self, mu_j, pk_us, pk_un, gt_o hA, gt_s hA]; exact es) | (simp (disch := first | decide | omega) only [mu_o hA, up2_self, mu_j, pk_us, pk_un, gt_o hA, gt_s hA]; done)
            · first | exact fun z => absurd z (by decide) | (intro _; simp (disch := first | decide | omega) only [mu_o hA, up2_self, mu_j, pk_us, pk_un, gt_o hA, gt_s hA]; first | exact Or.inl rfl | exact Or.inr rfl | exact Or.inl trivial | exact Or.inr trivial)
            · first | exact MF.rf | exact MF.gt hA MF.rf | (repeat (first | exact MF.rf | exact MF.gt hA MF.rf | refine MF.gt hA ?_ | refine MF.w hA (by decide) (by first | exact ow_x (by decide) | exact ow_3 (by decide) | exact ow_30) ?_))
          · skip
            refine key rp 4 J (by decide) ?_ ?_ ?_ ?_ ?_ ?_ ?_ ?_ ?_ ?_ ?_
            · simp only [r_X5_step, hc, c0, h5, r_sbd, r_has, q4, zz_0_1, zz_0_2, zz_0_3, zz_0_4, zz_1_0, zz_1_2, zz_1_3, zz_1_4, zz_2_0, zz_2_1, zz_2_3, zz_2_4, zz_3_0, zz_3_1, zz_3_2, zz_3_4, zz_4_0, zz_4_1, zz_4_2, zz_4_3, zo_1, zo_2, zo_3, zo_4, zo_0, zl_1, zl_2, zl_3, zl_4, zl_0, B', if_true, if_false, not_true, not_false_eq_true, i8, i16, eq_self]
            · simp only [f_X8_steps, f_lit, lit, c0, es, f_oth, f_ptn, i8, i16, zz_0_1, zz_0_2, zz_0_3, zz_0_4, zz_1_0, zz_1_2, zz_1_3, zz_1_4, zz_2_0, zz_2_1, zz_2_3, zz_2_4, zz_3_0, zz_3_1, zz_3_2, zz_3_4, zz_4_0, zz_4_1, zz_4_2, zz_4_3, zo_1, zo_2, zo_3, zo_4, zo_0, zl_1, zl_2, zl_3, zl_4, zl_0, BM', if_true, if_false, true_or, false_or, eq_self]
            · intro k k6 k7 k8 k9; first | rfl | simp (disch := assumption) only [r_X5_bind, pk_un]
            · intro k j hk k9 k10 k19 k40; first | rfl | simp (disch := first | assumption | decide) only [mu_o hA, gt_o hA]
            · first | exact h6 | (try simp only [r_X5_bind]); simp (disch := first | decide | omega) only [mu_o hA, up2_self, mu_j, pk_us, pk_un, gt_o hA, gt_s hA] <;> (try assumption) <;> (try rw [h6])
            · first | exact h7 | (try simp only [r_X5_bind]); simp (disch := first | decide | omega) only [mu_o hA, up2_self, mu_j, pk_us, pk_un, gt_o hA, gt_s hA] <;> (try assumption)
            · first | exact h8 | (try simp only [r_X5_bind]); simp (disch := first | decide | omega) only [mu_o hA, up2_self, mu_j, pk_us, pk_un, gt_o hA, gt_s hA] <;> (try assumption)
            · first | exact h9 | (try simp only [r_X5_bind]); simp (disch := first | decide | omega) only [mu_o hA, up2_self, mu_j, pk_us, pk_un, gt_o hA, gt_s hA] <;> (try assumption)
            · first | exact es | (simp (disch := first | decide | omega) only [mu_o hA, up2_self, mu_j, pk_us, pk_un, gt_o hA, gt_s hA]; exact es) | (simp (disch := first | decide | omega) only [mu_o hA, up2_self, mu_j, pk_us, pk_un, gt_o hA, gt_s hA]; done)
            · first | exact fun z => absurd z (by decide) | (intro _; simp (disch := first | decide | omega) only [mu_o hA, up2_self, mu_j, pk_us, pk_un, gt_o hA, gt_s hA]; first | exact Or.inl rfl | exact Or.inr rfl | exact Or.inl trivial | exact Or.inr trivial)
            · first | exact MF.rf | exact MF.gt hA MF.rf | (repeat (first | exact MF.rf | exact MF.gt hA MF.rf | refine MF.gt hA ?_ | refine MF.w hA (by decide) (by first | exact ow_x (by decide) | exact ow_3 (by decide) | exact ow_30) ?_))
    · have BM : ¬ (J (A 19) (3 * x) = J (A 3) x ∧ J (A 19) (3 * x + 1) = J (A 18) (5 * x) ∧ J (A 19) (3 * x + 2) = J (A 18) (5 * x + 1)) := by rw [← h7, ← h8, ← h9, ← o1, ← q0, ← q1]; exact fun z => B ⟨z.1.symm, z.2.1.symm, z.2.2.symm⟩
      have B' : (ro 1 = rp 7 ∧ rq 0 = rp 8 ∧ rq 1 = rp 9) = False := eq_false B
      have BM' : (J (A 19) (3 * x) = J (A 3) x ∧ J (A 19) (3 * x + 1) = J (A 18) (5 * x) ∧ J (A 19) (3 * x + 2) = J (A 18) (5 * x + 1)) = False := eq_false BM
      rcases sc with rfl | rfl | rfl | rfl | rfl
      · skip
        refine key (r_X5_bind rp ro rq) 1 (up2 (up2 (up2 (up2 (f_X8_goesTo J m A x (nI 1)) (A 10) x (nI 2)) (A 19) (3 * x) (J (A 3) x)) (A 19) (3 * x + 1) (J (A 18) (5 * x))) (A 19) (3 * x + 2) (J (A 18) (5 * x + 1))) (by decide) ?_ ?_ ?_ ?_ ?_ ?_ ?_ ?_ ?_ ?_ ?_
        · simp only [r_X5_step, hc, c0, h5, r_sbd, r_has, q4, zz_0_1, zz_0_2, zz_0_3, zz_0_4, zz_1_0, zz_1_2, zz_1_3, zz_1_4, zz_2_0, zz_2_1, zz_2_3, zz_2_4, zz_3_0, zz_3_1, zz_3_2, zz_3_4, zz_4_0, zz_4_1, zz_4_2, zz_4_3, zo_1, zo_2, zo_3, zo_4, zo_0, zl_1, zl_2, zl_3, zl_4, zl_0, B', if_true, if_false, not_true, not_false_eq_true, pk_us, eq_self]
        · simp only [f_X8_steps, f_lit, lit, c0, es, f_oth, f_ptn, up2_self, zz_0_1, zz_0_2, zz_0_3, zz_0_4, zz_1_0, zz_1_2, zz_1_3, zz_1_4, zz_2_0, zz_2_1, zz_2_3, zz_2_4, zz_3_0, zz_3_1, zz_3_2, zz_3_4, zz_4_0, zz_4_1, zz_4_2, zz_4_3, zo_1, zo_2, zo_3, zo_4, zo_0, zl_1, zl_2, zl_3, zl_4, zl_0, BM', if_true, if_false, true_or, false_or, eq_self]; simp (disch := first | decide | omega) only [mu_o hA, up2_self, mu_j, pk_us, pk_un, gt_o hA, gt_s hA]
        · intro k k6 k7 k8 k9; first | rfl | simp (disch := assumption) only [r_X5_bind, pk_un]
        · intro k j hk k9 k10 k19 k40; first | rfl | simp (disch := first | assumption | decide) only [mu_o hA, gt_o hA]
        · first | exact h6 | (try simp only [r_X5_bind]); simp (disch := first | decide | omega) only [mu_o hA, up2_self, mu_j, pk_us, pk_un, gt_o hA, gt_s hA] <;> (try assumption) <;> (try rw [h6])
        · first | exact h7 | (try simp only [r_X5_bind]); simp (disch := first | decide | omega) only [mu_o hA, up2_self, mu_j, pk_us, pk_un, gt_o hA, gt_s hA] <;> (try assumption)
        · first | exact h8 | (try simp only [r_X5_bind]); simp (disch := first | decide | omega) only [mu_o hA, up2_self, mu_j, pk_us, pk_un, gt_o hA, gt_s hA] <;> (try assumption)
        · first | exact h9 | (try simp only [r_X5_bind]); simp (disch := first | decide | omega) only [mu_o hA, up2_self, mu_j, pk_us, pk_un, gt_o hA, gt_s hA] <;> (try assumption)
        · first | exact es | (simp (disch := first | decide | omega) only [mu_o hA, up2_self, mu_j, pk_us, pk_un, gt_o hA, gt_s hA]; exact es) | (simp (disch := first | decide | omega) only [mu_o hA, up2_self, mu_j, pk_us, pk_un, gt_o hA, gt_s hA]; done)
        · first | exact fun z => absurd z (by decide) | (intro _; simp (disch := first | decide | omega) only [mu_o hA, up2_self, mu_j, pk_us, pk_un, gt_o hA, gt_s hA]; first | exact Or.inl rfl | exact Or.inr rfl | exact Or.inl trivial | exact Or.inr trivial)
        · first | exact MF.rf | exact MF.gt hA MF.rf | (repeat (first | exact MF.rf | exact MF.gt hA MF.rf | refine MF.gt hA ?_ | refine MF.w hA (by decide) (by first | exact ow_x (by decide) | exact ow_3 (by decide) | exact ow_30) ?_))
      · skip
        refine key rp 0 (f_X8_goesTo J m A x (nI 0)) (by decide) ?_ ?_ ?_ ?_ ?_ ?_ ?_ ?_ ?_ ?_ ?_
        · simp only [r_X5_step, hc, c0, h5, r_sbd, r_has, q4, zz_0_1, zz_0_2, zz_0_3, zz_0_4, zz_1_0, zz_1_2, zz_1_3, zz_1_4, zz_2_0, zz_2_1, zz_2_3, zz_2_4, zz_3_0, zz_3_1, zz_3_2, zz_3_4, zz_4_0, zz_4_1, zz_4_2, zz_4_3, zo_1, zo_2, zo_3, zo_4, zo_0, zl_1, zl_2, zl_3, zl_4, zl_0, B', if_true, if_false, not_true, not_false_eq_true, pk_us, eq_self]
        · simp only [f_X8_steps, f_lit, lit, c0, es, f_oth, f_ptn, up2_self, zz_0_1, zz_0_2, zz_0_3, zz_0_4, zz_1_0, zz_1_2, zz_1_3, zz_1_4, zz_2_0, zz_2_1, zz_2_3, zz_2_4, zz_3_0, zz_3_1, zz_3_2, zz_3_4, zz_4_0, zz_4_1, zz_4_2, zz_4_3, zo_1, zo_2, zo_3, zo_4, zo_0, zl_1, zl_2, zl_3, zl_4, zl_0, BM', if_true, if_false, true_or, false_or, eq_self]
        · intro k k6 k7 k8 k9; first | rfl | simp (disch := assumption) only [r_X5_bind, pk_un]
        · intro k j hk k9 k10 k19 k40; first | rfl | simp (disch := first | assumption | decide) only [mu_o hA, gt_o hA]
        · first | exact h6 | (try simp only [r_X5_bind]); simp (disch := first | decide | omega) only [mu_o hA, up2_self, mu_j, pk_us, pk_un, gt_o hA, gt_s hA] <;> (try assumption) <;> (try rw [h6])
        · first | exact h7 | (try simp only [r_X5_bind]); simp (disch := first | decide | omega) only [mu_o hA, up2_self, mu_j, pk_us, pk_un, gt_o hA, gt_s hA] <;> (try assumption)
        · first | exact h8 | (try simp only [r_X5_bind]); simp (disch := first | decide | omega) only [mu_o hA, up2_self, mu_j, pk_us, pk_un, gt_o hA, gt_s hA] <;> (try assumption)
        · first | exact h9 | (try simp only [r_X5_bind]); simp (disch := first | decide | omega) only [mu_o hA, up2_self, mu_j, pk_us, pk_un, gt_o hA, gt_s hA] <;> (try assumption)
        · first | exact es | (simp (disch := first | decide | omega) only [mu_o hA, up2_self, mu_j, pk_us, pk_un, gt_o hA, gt_s hA]; exact es) | (simp (disch := first | decide | omega) only [mu_o hA, up2_self, mu_j, pk_us, pk_un, gt_o hA, gt_s hA]; done)
        · first | exact fun z => absurd z (by decide) | (intro _; simp (disch := first | decide | omega) only [mu_o hA, up2_self, mu_j, pk_us, pk_un, gt_o hA, gt_s hA]; first | exact Or.inl rfl | exact Or.inr rfl | exact Or.inl trivial | exact Or.inr trivial)
        · first | exact MF.rf | exact MF.gt hA MF.rf | (repeat (first | exact MF.rf | exact MF.gt hA MF.rf | refine MF.gt hA ?_ | refine MF.w hA (by decide) (by first | exact ow_x (by decide) | exact ow_3 (by decide) | exact ow_30) ?_))
      · skip
        refine key rp 0 (f_X8_goesTo J m A x (nI 0)) (by decide) ?_ ?_ ?_ ?_ ?_ ?_ ?_ ?_ ?_ ?_ ?_
        · simp only [r_X5_step, hc, c0, h5, r_sbd, r_has, q4, zz_0_1, zz_0_2, zz_0_3, zz_0_4, zz_1_0, zz_1_2, zz_1_3, zz_1_4, zz_2_0, zz_2_1, zz_2_3, zz_2_4, zz_3_0, zz_3_1, zz_3_2, zz_3_4, zz_4_0, zz_4_1, zz_4_2, zz_4_3, zo_1, zo_2, zo_3, zo_4, zo_0, zl_1, zl_2, zl_3, zl_4, zl_0, B', if_true, if_false, not_true, not_false_eq_true, pk_us, eq_self]
        · simp only [f_X8_steps, f_lit, lit, c0, es, f_oth, f_ptn, up2_self, zz_0_1, zz_0_2, zz_0_3, zz_0_4, zz_1_0, zz_1_2, zz_1_3, zz_1_4, zz_2_0, zz_2_1, zz_2_3, zz_2_4, zz_3_0, zz_3_1, zz_3_2, zz_3_4, zz_4_0, zz_4_1, zz_4_2, zz_4_3, zo_1, zo_2, zo_3, zo_4, zo_0, zl_1, zl_2, zl_3, zl_4, zl_0, BM', if_true, if_false, true_or, false_or, eq_self]
        · intro k k6 k7 k8 k9; first | rfl | simp (disch := assumption) only [r_X5_bind, pk_un]
        · intro k j hk k9 k10 k19 k40; first | rfl | simp (disch := first | assumption | decide) only [mu_o hA, gt_o hA]
        · first | exact h6 | (try simp only [r_X5_bind]); simp (disch := first | decide | omega) only [mu_o hA, up2_self, mu_j, pk_us, pk_un, gt_o hA, gt_s hA] <;> (try assumption) <;> (try rw [h6])
        · first | exact h7 | (try simp only [r_X5_bind]); simp (disch := first | decide | omega) only [mu_o hA, up2_self, mu_j, pk_us, pk_un, gt_o hA, gt_s hA] <;> (try assumption)
        · first | exact h8 | (try simp only [r_X5_bind]); simp (disch := first | decide | omega) only [mu_o hA, up2_self, mu_j, pk_us, pk_un, gt_o hA, gt_s hA] <;> (try assumption)
        · first | exact h9 | (try simp only [r_X5_bind]); simp (disch := first | decide | omega) only [mu_o hA, up2_self, mu_j, pk_us, pk_un, gt_o hA, gt_s hA] <;> (try assumption)
        · first | exact es | (simp (disch := first | decide | omega) only [mu_o hA, up2_self, mu_j, pk_us, pk_un, gt_o hA, gt_s hA]; exact es) | (simp (disch := first | decide | omega) only [mu_o hA, up2_self, mu_j, pk_us, pk_un, gt_o hA, gt_s hA]; done)
        · first | exact fun z => absurd z (by decide) | (intro _; simp (disch := first | decide | omega) only [mu_o hA, up2_self, mu_j, pk_us, pk_un, gt_o hA, gt_s hA]; first | exact Or.inl rfl | exact Or.inr rfl | exact Or.inl trivial | exact Or.inr trivial)
        · first | exact MF.rf | exact MF.gt hA MF.rf | (repeat (first | exact MF.rf | exact MF.gt hA MF.rf | refine MF.gt hA ?_ | refine MF.w hA (by decide) (by first | exact ow_x (by decide) | exact ow_3 (by decide) | exact ow_30) ?_))
      · skip
        refine key rp 0 (f_X8_goesTo J m A x (nI 0)) (by decide) ?_ ?_ ?_ ?_ ?_ ?_ ?_ ?_ ?_ ?_ ?_
        · simp only [r_X5_step, hc, c0, h5, r_sbd, r_has, q4, zz_0_1, zz_0_2, zz_0_3, zz_0_4, zz_1_0, zz_1_2, zz_1_3, zz_1_4, zz_2_0, zz_2_1, zz_2_3, zz_2_4, zz_3_0, zz_3_1, zz_3_2, zz_3_4, zz_4_0, zz_4_1, zz_4_2, zz_4_3, zo_1, zo_2, zo_3, zo_4, zo_0, zl_1, zl_2, zl_3, zl_4, zl_0, B', if_true, if_false, not_true, not_false_eq_true, pk_us, eq_self]
        · simp only [f_X8_steps, f_lit, lit, c0, es, f_oth, f_ptn, up2_self, zz_0_1, zz_0_2, zz_0_3, zz_0_4, zz_1_0, zz_1_2, zz_1_3, zz_1_4, zz_2_0, zz_2_1, zz_2_3, zz_2_4, zz_3_0, zz_3_1, zz_3_2, zz_3_4, zz_4_0, zz_4_1, zz_4_2, zz_4_3, zo_1, zo_2, zo_3, zo_4, zo_0, zl_1, zl_2, zl_3, zl_4, zl_0, BM', if_true, if_false, true_or, false_or, eq_self]
        · intro k k6 k7 k8 k9; first | rfl | simp (disch := assumption) only [r_X5_bind, pk_un]
        · intro k j hk k9 k10 k19 k40; first | rfl | simp (disch := first | assumption | decide) only [mu_o hA, gt_o hA]
        · first | exact h6 | (try simp only [r_X5_bind]); simp (disch := first | decide | omega) only [mu_o hA, up2_self, mu_j, pk_us, pk_un, gt_o hA, gt_s hA] <;> (try assumption) <;> (try rw [h6])
        · first | exact h7 | (try simp only [r_X5_bind]); simp (disch := first | decide | omega) only [mu_o hA, up2_self, mu_j, pk_us, pk_un, gt_o hA, gt_s hA] <;> (try assumption)
        · first | exact h8 | (try simp only [r_X5_bind]); simp (disch := first | decide | omega) only [mu_o hA, up2_self, mu_j, pk_us, pk_un, gt_o hA, gt_s hA] <;> (try assumption)
        · first | exact h9 | (try simp only [r_X5_bind]); simp (disch := first | decide | omega) only [mu_o hA, up2_self, mu_j, pk_us, pk_un, gt_o hA, gt_s hA] <;> (try assumption)
        · first | exact es | (simp (disch := first | decide | omega) only [mu_o hA, up2_self, mu_j, pk_us, pk_un, gt_o hA, gt_s hA]; exact es) | (simp (disch := first | decide | omega) only [mu_o hA, up2_self, mu_j, pk_us, pk_un, gt_o hA, gt_s hA]; done)
        · first | exact fun z => absurd z (by decide) | (intro _; simp (disch := first | decide | omega) only [mu_o hA, up2_self, mu_j, pk_us, pk_un, gt_o hA, gt_s hA]; first | exact Or.inl rfl | exact Or.inr rfl | exact Or.inl trivial | exact Or.inr trivial)
        · first | exact MF.rf | exact MF.gt hA MF.rf | (repeat (first | exact MF.rf | exact MF.gt hA MF.rf | refine MF.gt hA ?_ | refine MF.w hA (by decide) (by first | exact ow_x (by decide) | exact ow_3 (by decide) | exact ow_30) ?_))
      · skip
        refine key rp 0 (f_X8_goesTo J m A x (nI 0)) (by decide) ?_ ?_ ?_ ?_ ?_ ?_ ?_ ?_ ?_ ?_ ?_
        · simp only [r_X5_step, hc, c0, h5, r_sbd, r_has, q4, zz_0_1, zz_0_2, zz_0_3, zz_0_4, zz_1_0, zz_1_2, zz_1_3, zz_1_4, zz_2_0, zz_2_1, zz_2_3, zz_2_4, zz_3_0, zz_3_1, zz_3_2, zz_3_4, zz_4_0, zz_4_1, zz_4_2, zz_4_3, zo_1, zo_2, zo_3, zo_4, zo_0, zl_1, zl_2, zl_3, zl_4, zl_0, B', if_true, if_false, not_true, not_false_eq_true, pk_us, eq_self]
        · simp only [f_X8_steps, f_lit, lit, c0, es, f_oth, f_ptn, up2_self, zz_0_1, zz_0_2, zz_0_3, zz_0_4, zz_1_0, zz_1_2, zz_1_3, zz_1_4, zz_2_0, zz_2_1, zz_2_3, zz_2_4, zz_3_0, zz_3_1, zz_3_2, zz_3_4, zz_4_0, zz_4_1, zz_4_2, zz_4_3, zo_1, zo_2, zo_3, zo_4, zo_0, zl_1, zl_2, zl_3, zl_4, zl_0, BM', if_true, if_false, true_or, false_or, eq_self]
        · intro k k6 k7 k8 k9; first | rfl | simp (disch := assumption) only [r_X5_bind, pk_un]
        · intro k j hk k9 k10 k19 k40; first | rfl | simp (disch := first | assumption | decide) only [mu_o hA, gt_o hA]
        · first | exact h6 | (try simp only [r_X5_bind]); simp (disch := first | decide | omega) only [mu_o hA, up2_self, mu_j, pk_us, pk_un, gt_o hA, gt_s hA] <;> (try assumption) <;> (try rw [h6])
        · first | exact h7 | (try simp only [r_X5_bind]); simp (disch := first | decide | omega) only [mu_o hA, up2_self, mu_j, pk_us, pk_un, gt_o hA, gt_s hA] <;> (try assumption)
        · first | exact h8 | (try simp only [r_X5_bind]); simp (disch := first | decide | omega) only [mu_o hA, up2_self, mu_j, pk_us, pk_un, gt_o hA, gt_s hA] <;> (try assumption)
        · first | exact h9 | (try simp only [r_X5_bind]); simp (disch := first | decide | omega) only [mu_o hA, up2_self, mu_j, pk_us, pk_un, gt_o hA, gt_s hA] <;> (try assumption)
        · first | exact es | (simp (disch := first | decide | omega) only [mu_o hA, up2_self, mu_j, pk_us, pk_un, gt_o hA, gt_s hA]; exact es) | (simp (disch := first | decide | omega) only [mu_o hA, up2_self, mu_j, pk_us, pk_un, gt_o hA, gt_s hA]; done)
        · first | exact fun z => absurd z (by decide) | (intro _; simp (disch := first | decide | omega) only [mu_o hA, up2_self, mu_j, pk_us, pk_un, gt_o hA, gt_s hA]; first | exact Or.inl rfl | exact Or.inr rfl | exact Or.inl trivial | exact Or.inr trivial)
        · first | exact MF.rf | exact MF.gt hA MF.rf | (repeat (first | exact MF.rf | exact MF.gt hA MF.rf | refine MF.gt hA ?_ | refine MF.w hA (by decide) (by first | exact ow_x (by decide) | exact ow_3 (by decide) | exact ow_30) ?_))
