/-! SIMULATION 2: one port of the class against one port of the reference -/
theorem mu_o {m : Nat} {A : Nat → Nat} {J : Mm} {k k' j j' : Nat} {v : Int32} (hA : AD m A) (hk : dm k) (hk' : dm k') (hn : k' ≠ k) : up2 J (A k) j v (A k') j' = J (A k') j' := up2_ne (fun z => hn (hA.1 k' k hk' hk z.1))
theorem mu_j {A : Nat → Nat} {J : Mm} {k j j' : Nat} {v : Int32} (hn : j' ≠ j) : up2 J (A k) j v (A k) j' = J (A k) j' := up2_ne (fun z => hn z.2)
def PR (rp ro rq : Nat → Int32) (J : Mm) (A : Nat → Nat) (x : Nat) : Prop := rp 2 = J (A 11) x ∧ rp 3 = J (A 7) x ∧ rp 4 = J (A 8) x ∧ rp 5 = J (A 9) x ∧ rp 6 = J (A 10) x ∧ rp 7 = J (A 19) (3 * x) ∧ rp 8 = J (A 19) (3 * x + 1) ∧ rp 9 = J (A 19) (3 * x + 2) ∧ ro 0 = J (A 1) (x / 8) ∧ ro 1 = J (A 3) x ∧ ro 2 = J (A 4) x ∧ ro 3 = nI (x % 8) ∧ ro 4 = btv (J (A 5) x) (J (A 6) x) (J (A 3) x) (J (A 9) x) ∧ rq 0 = J (A 18) (5 * x) ∧ rq 1 = J (A 18) (5 * x + 1) ∧ rq 2 = J (A 18) (5 * x + 2) ∧ rq 3 = J (A 18) (5 * x + 3) ∧ rq 4 = J (A 18) (5 * x + 4)
def PV (J : Mm) (A : Nat → Nat) (x : Nat) : Prop := (∃ s, s < 5 ∧ J (A 9) x = nI s) ∧ (J (A 7) x = 0 → J (A 9) x = 0) ∧ (J (A 9) x = nI 1 → J (A 10) x = nI 1 ∨ J (A 10) x = nI 2) ∧ ∃ n, n < 64 ∧ J (A 18) (5 * x + 4) = nI n
def PLk (rp rl : Nat → Int32) (J : Mm) (A : Nat → Nat) (x : Nat) : Prop := ¬ J (A 7) x = 0 → rp 15 = J (A 21) x ∧ (¬ J (A 21) x = -1 → rp 13 = J (A 14) x ∧ rl 0 = J (A 20) (5 * x) ∧ rl 1 = J (A 20) (5 * x + 1) ∧ rl 2 = J (A 20) (5 * x + 2) ∧ rl 3 = J (A 20) (5 * x + 3) ∧ rl 4 = J (A 20) (5 * x + 4))
theorem n64_57 : ∀ n, n < 64 → nI n &&& (-57 : Int32) = nI (n % 8) := by decide +kernel
theorem n64_9 : ∀ n, n < 64 → ∃ k, k < 64 ∧ nI n &&& (-9 : Int32) = nI k := fun n hn => ⟨n &&& 55, by have := Nat.and_le_left (n := n) (m := 55); omega, by revert n; decide +kernel⟩
theorem x57 : (nI 56 ^^^ (-1 : Int32)) = -57 := by decide
theorem x9 : (nI 8 ^^^ (-1 : Int32)) = -9 := by decide
theorem s_age {m x : Nat} {A : Nat → Nat} {J : Mm} {rp ro rq rl : Nat → Int32} (hA : AD m A) (h : PR rp ro rq J A x) (hv : PV J A x) (hl : PLk rp rl J A x) (h12 : rp 12 = J (A 15) x) : PR (r_X5_age rp rq).1 ro (r_X5_age rp rq).2 (f_X8_ages J m A x) A x ∧ PV (f_X8_ages J m A x) A x ∧ PLk (r_X5_age rp rq).1 rl (f_X8_ages J m A x) A x ∧ (r_X5_age rp rq).1 12 = nI 0 ∧ MF A x J (f_X8_ages J m A x) := by
  obtain ⟨h2, h3, h4, h5, h6, h7, h8, h9, o0, o1, o2, o3, o4, q0, q1, q2, q3, q4⟩ := h
  obtain ⟨v1, v2, v3, v4⟩ := hv
  have a3 : upd rp 12 (nI 0) 3 = J (A 7) x := by rw [pk_un (by decide)]; exact h3
  have a4 : upd rp 12 (nI 0) 4 = J (A 8) x := by rw [pk_un (by decide)]; exact h4
  have b3 : ∀ v, upd (upd rp 12 (nI 0)) 4 v 3 = J (A 7) x := fun v => by rw [pk_un (by decide)]; exact a3
  have b4 : ∀ v, upd (upd rp 12 (nI 0)) 4 v 4 = v := fun v => pk_us
  have c7 : ∀ v, up2 J (A 8) x v (A 7) x = J (A 7) x := fun v => mu_o hA (by decide) (by decide) (by decide)
  have c8 : ∀ v, up2 J (A 8) x v (A 8) x = v := fun v => up2_self _ _ _ _
  by_cases k0 : (J (A 7) x = nI 1 ∨ J (A 7) x = nI 2) ∧ J (A 15) x = 0
  · have lit : ¬ J (A 7) x = 0 := fun z => by rcases k0.1 with q | q <;> rw [q] at z <;> exact absurd z (by decide)
    by_cases k1 : J (A 8) x - nI 1 ≤ 0
    · rcases k0.1 with q | q
      · have e1 : r_X5_age rp rq = (upd (upd (upd rp 12 (nI 0)) 4 (J (A 8) x - nI 1)) 3 (nI 3), r_X6_clear rq) := by
          simp only [r_X5_age, h12, k0.2, a3, a4, b3, b4, q, k1, if_true, show ¬ nI 1 = nI 2 by decide, if_false]
        have e2 : f_X8_ages J m A x = f_X8_forgets (up2 (up2 J (A 8) x (J (A 8) x - nI 1)) (A 7) x (nI 3)) m A x := by
          simp only [f_X8_ages, k0.2, c7, c8, q, k1, if_true, show ¬ nI 1 = nI 2 by decide, if_false]
        rw [e1, e2]
        simp only [f_X8_forgets, r_X6_clear, Nat.add_zero]
        refine ⟨⟨?_, ?_, ?_, ?_, ?_, ?_, ?_, ?_, ?_, ?_, ?_, ?_, ?_, ?_, ?_, ?_, ?_, ?_⟩, ⟨?_, ?_, ?_, ?_⟩, fun _ => ?_, ?_, ?_⟩
        · (try simp (disch := first | decide | omega) only [mu_o hA, up2_self, mu_j, pk_us, pk_un]) <;> assumption
        · (try simp (disch := first | decide | omega) only [mu_o hA, up2_self, mu_j, pk_us, pk_un]) <;> assumption
        · (try simp (disch := first | decide | omega) only [mu_o hA, up2_self, mu_j, pk_us, pk_un]) <;> assumption
        · (try simp (disch := first | decide | omega) only [mu_o hA, up2_self, mu_j, pk_us, pk_un]) <;> assumption
        · (try simp (disch := first | decide | omega) only [mu_o hA, up2_self, mu_j, pk_us, pk_un]) <;> assumption
        · (try simp (disch := first | decide | omega) only [mu_o hA, up2_self, mu_j, pk_us, pk_un]) <;> assumption
        · (try simp (disch := first | decide | omega) only [mu_o hA, up2_self, mu_j, pk_us, pk_un]) <;> assumption
        · (try simp (disch := first | decide | omega) only [mu_o hA, up2_self, mu_j, pk_us, pk_un]) <;> assumption
        · (try simp (disch := first | decide | omega) only [mu_o hA, up2_self, mu_j, pk_us, pk_un]) <;> assumption
        · (try simp (disch := first | decide | omega) only [mu_o hA, up2_self, mu_j, pk_us, pk_un]) <;> assumption
        · (try simp (disch := first | decide | omega) only [mu_o hA, up2_self, mu_j, pk_us, pk_un]) <;> assumption
        · (try simp (disch := first | decide | omega) only [mu_o hA, up2_self, mu_j, pk_us, pk_un]) <;> assumption
        · (try simp (disch := first | decide | omega) only [mu_o hA, up2_self, mu_j, pk_us, pk_un]) <;> assumption
        · (try simp (disch := first | decide | omega) only [mu_o hA, up2_self, mu_j, pk_us, pk_un]) <;> assumption
        · (try simp (disch := first | decide | omega) only [mu_o hA, up2_self, mu_j, pk_us, pk_un]) <;> assumption
        · (try simp (disch := first | decide | omega) only [mu_o hA, up2_self, mu_j, pk_us, pk_un]) <;> assumption
        · (try simp (disch := first | decide | omega) only [mu_o hA, up2_self, mu_j, pk_us, pk_un]) <;> assumption
        · (try simp (disch := first | decide | omega) only [mu_o hA, up2_self, mu_j, pk_us, pk_un]) <;> assumption
        · (try simp (disch := first | decide | omega) only [mu_o hA, up2_self, mu_j, pk_us, pk_un]) <;> assumption
        · simp (disch := first | decide | omega) only [mu_o hA, up2_self, mu_j, pk_us, pk_un]
          exact fun z => absurd z (by decide)
        · (try simp (disch := first | decide | omega) only [mu_o hA, up2_self, mu_j, pk_us, pk_un]) <;> assumption
        · exact ⟨0, by decide, by simp (disch := first | decide | omega) only [mu_o hA, up2_self, mu_j, pk_us, pk_un]⟩
        · simp (disch := first | decide | omega) only [mu_o hA, up2_self, mu_j, pk_us, pk_un]
          exact hl lit
        · simp (disch := first | decide | omega) only [mu_o hA, up2_self, mu_j, pk_us, pk_un]
        · repeat (first | exact MF.rf | refine MF.w hA (by decide) (by first | exact ow_x (by decide) | exact ow_5 (by decide) (by decide) | exact ow_50 (by decide)) ?_)
      · have e1 : r_X5_age rp rq = (upd (upd (upd (upd rp 12 (nI 0)) 4 (J (A 8) x - nI 1)) 3 (nI 1)) 4 (nI 3), r_X6_setBits rq (nI 56) (nI 0)) := by
          simp only [r_X5_age, h12, k0.2, a3, a4, b3, b4, q, k1, if_true, show ¬ nI 2 = nI 1 by decide, if_false]
        have e2 : f_X8_ages J m A x = f_X8_partnerStops (up2 (up2 (up2 J (A 8) x (J (A 8) x - nI 1)) (A 7) x (nI 1)) (A 8) x (nI 3)) m A x := by
          simp only [f_X8_ages, k0.2, c7, c8, q, k1, if_true, show ¬ nI 2 = nI 1 by decide, if_false]
        rw [e1, e2, r_sb]
        simp only [f_X8_partnerStops, sbv, show ¬ (nI 0 : Int32) ≠ 0 by decide, x57, show decide (¬ nI 0 = 0) = false by decide, if_false, Bool.false_eq_true]
        refine ⟨⟨?_, ?_, ?_, ?_, ?_, ?_, ?_, ?_, ?_, ?_, ?_, ?_, ?_, ?_, ?_, ?_, ?_, ?_⟩, ⟨?_, ?_, ?_, ?_⟩, fun _ => ?_, ?_, ?_⟩
        · (try simp (disch := first | decide | omega) only [mu_o hA, up2_self, mu_j, pk_us, pk_un]) <;> assumption
        · (try simp (disch := first | decide | omega) only [mu_o hA, up2_self, mu_j, pk_us, pk_un]) <;> assumption
        · (try simp (disch := first | decide | omega) only [mu_o hA, up2_self, mu_j, pk_us, pk_un]) <;> assumption
        · (try simp (disch := first | decide | omega) only [mu_o hA, up2_self, mu_j, pk_us, pk_un]) <;> assumption
        · (try simp (disch := first | decide | omega) only [mu_o hA, up2_self, mu_j, pk_us, pk_un]) <;> assumption
        · (try simp (disch := first | decide | omega) only [mu_o hA, up2_self, mu_j, pk_us, pk_un]) <;> assumption
        · (try simp (disch := first | decide | omega) only [mu_o hA, up2_self, mu_j, pk_us, pk_un]) <;> assumption
        · (try simp (disch := first | decide | omega) only [mu_o hA, up2_self, mu_j, pk_us, pk_un]) <;> assumption
        · (try simp (disch := first | decide | omega) only [mu_o hA, up2_self, mu_j, pk_us, pk_un]) <;> assumption
        · (try simp (disch := first | decide | omega) only [mu_o hA, up2_self, mu_j, pk_us, pk_un]) <;> assumption
        · (try simp (disch := first | decide | omega) only [mu_o hA, up2_self, mu_j, pk_us, pk_un]) <;> assumption
        · (try simp (disch := first | decide | omega) only [mu_o hA, up2_self, mu_j, pk_us, pk_un]) <;> assumption
        · (try simp (disch := first | decide | omega) only [mu_o hA, up2_self, mu_j, pk_us, pk_un]) <;> assumption
        · (try simp (disch := first | decide | omega) only [mu_o hA, up2_self, mu_j, pk_us, pk_un]) <;> assumption
        · (try simp (disch := first | decide | omega) only [mu_o hA, up2_self, mu_j, pk_us, pk_un]) <;> assumption
        · (try simp (disch := first | decide | omega) only [mu_o hA, up2_self, mu_j, pk_us, pk_un]) <;> assumption
        · (try simp (disch := first | decide | omega) only [mu_o hA, up2_self, mu_j, pk_us, pk_un]) <;> assumption
        · simp (disch := first | decide | omega) only [mu_o hA, up2_self, mu_j, pk_us, pk_un]; rw [q4]; simp
        · (try simp (disch := first | decide | omega) only [mu_o hA, up2_self, mu_j, pk_us, pk_un]) <;> assumption
        · simp (disch := first | decide | omega) only [mu_o hA, up2_self, mu_j, pk_us, pk_un]
          exact fun z => absurd z (by decide)
        · (try simp (disch := first | decide | omega) only [mu_o hA, up2_self, mu_j, pk_us, pk_un]) <;> assumption
        · obtain ⟨n, hn, en⟩ := v4
          exact ⟨n % 8, by omega, by simp (disch := first | decide | omega) only [mu_o hA, up2_self, mu_j, pk_us, pk_un]; rw [en]; exact n64_57 n hn⟩
        · simp (disch := first | decide | omega) only [mu_o hA, up2_self, mu_j, pk_us, pk_un]
          exact hl lit
        · simp (disch := first | decide | omega) only [mu_o hA, up2_self, mu_j, pk_us, pk_un]
        · repeat (first | exact MF.rf | refine MF.w hA (by decide) (by first | exact ow_x (by decide) | exact ow_5 (by decide) (by decide) | exact ow_50 (by decide)) ?_)
    · have e1 : r_X5_age rp rq = (upd (upd rp 12 (nI 0)) 4 (J (A 8) x - nI 1), rq) := by
        rcases k0.1 with q | q
        · simp only [r_X5_age, h12, k0.2, a3, a4, b3, b4, q, k1, if_true, show ¬ nI 1 = nI 2 by decide, if_false]
        · simp only [r_X5_age, h12, k0.2, a3, a4, b3, b4, q, k1, if_true, show ¬ nI 2 = nI 1 by decide, if_false]
      have e2 : f_X8_ages J m A x = up2 J (A 8) x (J (A 8) x - nI 1) := by
        rcases k0.1 with q | q
        · simp only [f_X8_ages, k0.2, c7, c8, q, k1, if_true, show ¬ nI 1 = nI 2 by decide, if_false]
        · simp only [f_X8_ages, k0.2, c7, c8, q, k1, if_true, show ¬ nI 2 = nI 1 by decide, if_false]
      rw [e1, e2]
      refine ⟨⟨?_, ?_, ?_, ?_, ?_, ?_, ?_, ?_, ?_, ?_, ?_, ?_, ?_, ?_, ?_, ?_, ?_, ?_⟩, ⟨?_, ?_, ?_, ?_⟩, fun _ => ?_, ?_, ?_⟩
      · (try simp (disch := first | decide | omega) only [mu_o hA, up2_self, mu_j, pk_us, pk_un]) <;> assumption
      · (try simp (disch := first | decide | omega) only [mu_o hA, up2_self, mu_j, pk_us, pk_un]) <;> assumption
      · (try simp (disch := first | decide | omega) only [mu_o hA, up2_self, mu_j, pk_us, pk_un]) <;> assumption
      · (try simp (disch := first | decide | omega) only [mu_o hA, up2_self, mu_j, pk_us, pk_un]) <;> assumption
      · (try simp (disch := first | decide | omega) only [mu_o hA, up2_self, mu_j, pk_us, pk_un]) <;> assumption
      · (try simp (disch := first | decide | omega) only [mu_o hA, up2_self, mu_j, pk_us, pk_un]) <;> assumption
      · (try simp (disch := first | decide | omega) only [mu_o hA, up2_self, mu_j, pk_us, pk_un]) <;> assumption
      · (try simp (disch := first | decide | omega) only [mu_o hA, up2_self, mu_j, pk_us, pk_un]) <;> assumption
      · (try simp (disch := first | decide | omega) only [mu_o hA, up2_self, mu_j, pk_us, pk_un]) <;> assumption
      · (try simp (disch := first | decide | omega) only [mu_o hA, up2_self, mu_j, pk_us, pk_un]) <;> assumption
      · (try simp (disch := first | decide | omega) only [mu_o hA, up2_self, mu_j, pk_us, pk_un]) <;> assumption
      · (try simp (disch := first | decide | omega) only [mu_o hA, up2_self, mu_j, pk_us, pk_un]) <;> assumption
      · (try simp (disch := first | decide | omega) only [mu_o hA, up2_self, mu_j, pk_us, pk_un]) <;> assumption
      · (try simp (disch := first | decide | omega) only [mu_o hA, up2_self, mu_j, pk_us, pk_un]) <;> assumption
      · (try simp (disch := first | decide | omega) only [mu_o hA, up2_self, mu_j, pk_us, pk_un]) <;> assumption
      · (try simp (disch := first | decide | omega) only [mu_o hA, up2_self, mu_j, pk_us, pk_un]) <;> assumption
      · (try simp (disch := first | decide | omega) only [mu_o hA, up2_self, mu_j, pk_us, pk_un]) <;> assumption
      · (try simp (disch := first | decide | omega) only [mu_o hA, up2_self, mu_j, pk_us, pk_un]) <;> assumption
      · (try simp (disch := first | decide | omega) only [mu_o hA, up2_self, mu_j, pk_us, pk_un]) <;> assumption
      · (try simp (disch := first | decide | omega) only [mu_o hA, up2_self, mu_j, pk_us, pk_un]) <;> assumption
      · (try simp (disch := first | decide | omega) only [mu_o hA, up2_self, mu_j, pk_us, pk_un]) <;> assumption
      · (try simp (disch := first | decide | omega) only [mu_o hA, up2_self, mu_j, pk_us, pk_un]) <;> assumption
      · simp (disch := first | decide | omega) only [mu_o hA, up2_self, mu_j, pk_us, pk_un]
        exact hl lit
      · simp (disch := first | decide | omega) only [mu_o hA, up2_self, mu_j, pk_us, pk_un]
      · exact MF.w hA (by decide) (ow_x (by decide)) MF.rf
  · have e1 : r_X5_age rp rq = (upd rp 12 (nI 0), rq) := by
      simp only [r_X5_age, h12, a3]
      by_cases q : J (A 15) x = 0
      · have q1 : ¬ J (A 7) x = nI 1 := fun z => k0 ⟨Or.inl z, q⟩
        have q2 : ¬ J (A 7) x = nI 2 := fun z => k0 ⟨Or.inr z, q⟩
        rw [if_pos q, if_neg q1, if_neg q2]
      · rw [if_neg q]
    have e2 : f_X8_ages J m A x = J := by
      simp only [f_X8_ages]
      by_cases q : J (A 15) x = 0
      · have q1 : ¬ J (A 7) x = nI 1 := fun z => k0 ⟨Or.inl z, q⟩
        have q2 : ¬ J (A 7) x = nI 2 := fun z => k0 ⟨Or.inr z, q⟩
        rw [if_neg q1, if_neg q2]
      · rw [if_neg q]; split <;> (try split) <;> rfl
    rw [e1, e2]
    refine ⟨⟨?_, ?_, ?_, ?_, ?_, ?_, ?_, ?_, ?_, ?_, ?_, ?_, ?_, ?_, ?_, ?_, ?_, ?_⟩, ⟨v1, v2, v3, v4⟩, fun z => ?_, ?_, MF.rf⟩
    · (try simp (disch := first | decide | omega) only [mu_o hA, up2_self, mu_j, pk_us, pk_un]) <;> assumption
    · (try simp (disch := first | decide | omega) only [mu_o hA, up2_self, mu_j, pk_us, pk_un]) <;> assumption
    · (try simp (disch := first | decide | omega) only [mu_o hA, up2_self, mu_j, pk_us, pk_un]) <;> assumption
    · (try simp (disch := first | decide | omega) only [mu_o hA, up2_self, mu_j, pk_us, pk_un]) <;> assumption
    · (try simp (disch := first | decide | omega) only [mu_o hA, up2_self, mu_j, pk_us, pk_un]) <;> assumption
    · (try simp (disch := first | decide | omega) only [mu_o hA, up2_self, mu_j, pk_us, pk_un]) <;> assumption
    · (try simp (disch := first | decide | omega) only [mu_o hA, up2_self, mu_j, pk_us, pk_un]) <;> assumption
    · (try simp (disch := first | decide | omega) only [mu_o hA, up2_self, mu_j, pk_us, pk_un]) <;> assumption
    · (try simp (disch := first | decide | omega) only [mu_o hA, up2_self, mu_j, pk_us, pk_un]) <;> assumption
    · (try simp (disch := first | decide | omega) only [mu_o hA, up2_self, mu_j, pk_us, pk_un]) <;> assumption
    · (try simp (disch := first | decide | omega) only [mu_o hA, up2_self, mu_j, pk_us, pk_un]) <;> assumption
    · (try simp (disch := first | decide | omega) only [mu_o hA, up2_self, mu_j, pk_us, pk_un]) <;> assumption
    · (try simp (disch := first | decide | omega) only [mu_o hA, up2_self, mu_j, pk_us, pk_un]) <;> assumption
    · (try simp (disch := first | decide | omega) only [mu_o hA, up2_self, mu_j, pk_us, pk_un]) <;> assumption
    · (try simp (disch := first | decide | omega) only [mu_o hA, up2_self, mu_j, pk_us, pk_un]) <;> assumption
    · (try simp (disch := first | decide | omega) only [mu_o hA, up2_self, mu_j, pk_us, pk_un]) <;> assumption
    · (try simp (disch := first | decide | omega) only [mu_o hA, up2_self, mu_j, pk_us, pk_un]) <;> assumption
    · (try simp (disch := first | decide | omega) only [mu_o hA, up2_self, mu_j, pk_us, pk_un]) <;> assumption
    · simp (disch := first | decide | omega) only [mu_o hA, up2_self, mu_j, pk_us, pk_un]
      exact hl z
    · simp (disch := first | decide | omega) only [mu_o hA, up2_self, mu_j, pk_us, pk_un]
abbrev kn (ro rnp : Nat → Int32) : Prop := rnp 0 = ro 0 ∧ rnp 1 = ro 1 ∧ rnp 2 = ro 2 ∧ rnp 3 = ro 3
theorem r_ns {ra rb : Nat → Int32} : r_X6_namesSame ra rb = if kn rb ra then nI 1 else nI 0 := by
  unfold r_X6_namesSame kn
  by_cases e0 : ra 0 = rb 0 <;> by_cases e1 : ra 1 = rb 1 <;> by_cases e2 : ra 2 = rb 2 <;> by_cases e3 : ra 3 = rb 3 <;> simp [e0, e1, e2, e3]
theorem r_is {ra rb : Nat → Int32} : r_X6_isSame ra rb = if kn rb ra ∧ ra 4 = rb 4 then nI 1 else nI 0 := by
  unfold r_X6_isSame
  rw [r_ns]
  by_cases e0 : kn rb ra <;> by_cases e1 : ra 4 = rb 4 <;> simp [e0, e1, show ¬ nI 1 = 0 by decide, show nI 0 = 0 by decide]
theorem if_z {c : Prop} [Decidable c] : ((if c then nI 1 else nI 0) = 0) = ¬ c := by
  by_cases h : c <;> simp [h, show ¬ nI 1 = 0 by decide, show nI 0 = 0 by decide]
theorem if_y {c : Prop} [Decidable c] : ((if c then nI 0 else nI 1) = 0) = c := by
  by_cases h : c <;> simp [h, show ¬ nI 1 = 0 by decide, show nI 0 = 0 by decide]
theorem if_yy {c d : Prop} [Decidable c] [Decidable d] : ((if c then nI 0 else nI 1) = (if d then nI 0 else nI 1)) = (c ↔ d) := by
  by_cases h : c <;> by_cases h2 : d <;> simp [h, h2, show ¬ nI 1 = nI 0 by decide, show ¬ nI 0 = nI 1 by decide]
def hrP (rp ro rnp : Nat → Int32) : Nat → Int32 := fun k => if k = 3 then nI 2 else if k = 4 then (if ro 4 &&& nI 2 = 0 then nI 90 else nI 3) else if k = 12 then nI 1 else if k = 13 then (if kn ro rnp ∧ rnp 4 = ro 4 then rp 13 else nI 1) else if k = 17 then rp 17 + nI 1 else rp k
def hrQ (ro rq rno rnp : Nat → Int32) : Nat → Int32 := fun k => if k = 4 then (if kn ro rnp ∧ (rnp 4 &&& nI 4 = 0 ↔ ro 4 &&& nI 4 = 0) then rno 4 else rno 4 &&& (-9 : Int32)) else if k < 4 then rno k else rq k
