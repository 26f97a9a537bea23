/-! SIMULATION 3: a port hears a note; a port steps -/
theorem c_hear {rp ro rq rn rno rnp : Nat → Int32} : (r_X5_hear rp ro rq rn rno rnp).1 0 = rno 0 ∧ (r_X5_hear rp ro rq rn rno rnp).1 1 = rno 1 ∧ (r_X5_hear rp ro rq rn rno rnp).1 2 = rno 2 ∧ (r_X5_hear rp ro rq rn rno rnp).1 3 = rno 3 ∧ (r_X5_hear rp ro rq rn rno rnp).1 4 = (if kn ro rnp ∧ (rnp 4 &&& nI 4 = 0 ↔ ro 4 &&& nI 4 = 0) then rno 4 else rno 4 &&& (-9 : Int32)) ∧ (r_X5_hear rp ro rq rn rno rnp).2 3 = nI 2 ∧ (r_X5_hear rp ro rq rn rno rnp).2 4 = (if ro 4 &&& nI 2 = 0 then nI 90 else nI 3) ∧ (r_X5_hear rp ro rq rn rno rnp).2 12 = nI 1 ∧ (r_X5_hear rp ro rq rn rno rnp).2 13 = (if kn ro rnp ∧ rnp 4 = ro 4 then rp 13 else nI 1) ∧ ∀ k, k ≠ 3 → k ≠ 4 → k ≠ 12 → k ≠ 13 → k ≠ 17 → (r_X5_hear rp ro rq rn rno rnp).2 k = rp k := by
  simp only [r_X5_hear, r_ns, r_is, r_sb, if_z, r_X6_has, if_y, if_yy, show decide (¬ nI 0 = 0) = false by decide, sbv, x9, Bool.false_eq_true, if_false, r_X6_copyFrom]
  rcases Classical.propComplete (kn ro rnp) with e1 | e1 <;> rcases Classical.propComplete (rnp 4 &&& nI 4 = 0 ↔ ro 4 &&& nI 4 = 0) with e2 | e2 <;> rcases Classical.propComplete (ro 4 &&& nI 2 = 0) with e3 | e3 <;> rcases Classical.propComplete (rnp 4 = ro 4) with e4 | e4 <;> simp only [e1, e2, e3, not_true, not_false_eq_true, if_true, if_false, true_and, false_and, and_true, and_false] <;> (try simp only [e4, not_true, not_false_eq_true, if_true, if_false]) <;> refine ⟨?_, ?_, ?_, ?_, ?_, ?_, ?_, ?_, ?_, fun k k3 k4 k12 k13 k17 => ?_⟩ <;> simp (disch := first | assumption | decide) only [pk_us, pk_un]
def flg (b : Bool) : Int32 := if b then nI 1 else nI 0
theorem nc_0 {J : Mm} {m t x : Nat} {A : Nat → Nat} {a b : Bool} : g_X8_noteComes_8_0 J m A t x (flg a) (flg b) = g_X8_noteComes_8_1 J m A t x (flg (a && decide (J (A 31) (10 * t + 5 + 0) = f_own0 J m A x))) (flg (b && decide (J (A 31) (10 * t + 5 + 0) = f_own0 J m A x))) := by
  unfold g_X8_noteComes_8_0 g_X8_noteComes_52_0 g_X8_noteComes_98_0 flg
  by_cases e : J (A 31) (10 * t + 5 + 0) = f_own0 J m A x <;> cases a <;> cases b <;> simp [e, show ¬ nI 1 = 0 by decide, show nI 0 = 0 by decide]
theorem nc_1 {J : Mm} {m t x : Nat} {A : Nat → Nat} {a b : Bool} : g_X8_noteComes_8_1 J m A t x (flg a) (flg b) = g_X8_noteComes_8_2 J m A t x (flg (a && decide (J (A 31) (10 * t + 5 + 1) = f_own1 J m A x))) (flg (b && decide (J (A 31) (10 * t + 5 + 1) = f_own1 J m A x))) := by
  unfold g_X8_noteComes_8_1 g_X8_noteComes_52_1 g_X8_noteComes_98_1 flg
  by_cases e : J (A 31) (10 * t + 5 + 1) = f_own1 J m A x <;> cases a <;> cases b <;> simp [e, show ¬ nI 1 = 0 by decide, show nI 0 = 0 by decide]
theorem nc_2 {J : Mm} {m t x : Nat} {A : Nat → Nat} {a b : Bool} : g_X8_noteComes_8_2 J m A t x (flg a) (flg b) = g_X8_noteComes_8_3 J m A t x (flg (a && decide (J (A 31) (10 * t + 5 + 2) = f_own2 J m A x))) (flg (b && decide (J (A 31) (10 * t + 5 + 2) = f_own2 J m A x))) := by
  unfold g_X8_noteComes_8_2 g_X8_noteComes_52_2 g_X8_noteComes_98_2 flg
  by_cases e : J (A 31) (10 * t + 5 + 2) = f_own2 J m A x <;> cases a <;> cases b <;> simp [e, show ¬ nI 1 = 0 by decide, show nI 0 = 0 by decide]
theorem nc_3 {J : Mm} {m t x : Nat} {A : Nat → Nat} {a b : Bool} : g_X8_noteComes_8_3 J m A t x (flg a) (flg b) = g_X8_noteComes_8_4 J m A t x (flg (a && decide (J (A 31) (10 * t + 5 + 3) = f_own3 J m A x))) (flg (b && decide (J (A 31) (10 * t + 5 + 3) = f_own3 J m A x))) := by
  unfold g_X8_noteComes_8_3 g_X8_noteComes_52_3 g_X8_noteComes_98_3 flg
  by_cases e : J (A 31) (10 * t + 5 + 3) = f_own3 J m A x <;> cases a <;> cases b <;> simp [e, show ¬ nI 1 = 0 by decide, show nI 0 = 0 by decide]
theorem nc_4 {J : Mm} {m t x : Nat} {A : Nat → Nat} {a b : Bool} : g_X8_noteComes_8_4 J m A t x (flg a) (flg b) = g_X8_noteComes_105 J m A t x (flg (a && decide (J (A 31) (10 * t + 5 + 4) &&& nI 4 = f_X8_bits J m A x &&& nI 4))) (flg (b && decide (J (A 31) (10 * t + 5 + 4) = f_own4 J m A x))) := by
  unfold g_X8_noteComes_8_4 g_X8_noteComes_52_4 g_X8_noteComes_98_4 g_X8_noteComes_8_5 flg
  rcases Classical.propComplete (J (A 31) (10 * t + 5 + 4) = f_own4 J m A x) with e | e <;> rcases Classical.propComplete (J (A 31) (10 * t + 5 + 4) &&& nI 4 = f_X8_bits J m A x &&& nI 4) with e2 | e2 <;> cases a <;> cases b <;> simp only [e, e2, if_true, if_false, show (nI 1 = 0) = False by decide, show (nI 0 = 0) = True by decide, Bool.true_and, Bool.false_and, decide_true, decide_false, Bool.false_eq_true]
theorem and4 : ∀ n, n < 64 → (nI n &&& nI 4 = 0 ∨ nI n &&& nI 4 = nI 4) := by decide +kernel
theorem and4e {v w : Int32} (hv : ∃ n, n < 64 ∧ v = nI n) (hw : ∃ n, n < 64 ∧ w = nI n) : (v &&& nI 4 = w &&& nI 4) = (v &&& nI 4 = 0 ↔ w &&& nI 4 = 0) := by
  obtain ⟨a, ha, rfl⟩ := hv
  obtain ⟨b, hb, rfl⟩ := hw
  rcases and4 a ha with e | e <;> rcases and4 b hb with f | f <;> rw [e, f] <;> simp [show ¬ nI 4 = 0 by decide]
  exact fun z => absurd z.symm (by decide)
theorem gt_o {m : Nat} {A : Nat → Nat} {J : Mm} {x k j : Nat} {v : Int32} (hA : AD m A) (hk : dm k) (h9 : k ≠ 9) (h40 : k ≠ 40) : (f_X8_goesTo J m A x v) (A k) j = J (A k) j := by
  unfold f_X8_goesTo
  repeat' split
  all_goals simp (disch := first | assumption | decide) only [mu_o hA]
theorem gt_s {m : Nat} {A : Nat → Nat} {J : Mm} {x : Nat} {v : Int32} (_hA : AD m A) : (f_X8_goesTo J m A x v) (A 9) x = v := by
  unfold f_X8_goesTo
  repeat' split
  all_goals exact up2_self _ _ _ _
theorem MF.gt {m : Nat} {A : Nat → Nat} {J J' : Mm} {x : Nat} {v : Int32} (hA : AD m A) (h : MF A x J J') : MF A x J (f_X8_goesTo J' m A x v) := by
  unfold f_X8_goesTo
  repeat' split
  all_goals repeat (first | exact h | refine MF.w4 hA ?_ | refine MF.w hA (by decide) (ow_x (by decide)) ?_)
