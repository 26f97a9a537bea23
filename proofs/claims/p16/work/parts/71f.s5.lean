/-! SIMULATION 5: a port tells -/
theorem am_m {m : Nat} {A : Nat → Nat} {J : Mm} {k j i : Nat} {v : Int32} (hA : AD m A) (hk : dm k) : up2 J (A k) j v m i = J m i := up2_ne (fun z => hA.2 k hk z.1.symm)
theorem mm_a {m : Nat} {A : Nat → Nat} {J : Mm} {k j i : Nat} {v : Int32} (hA : AD m A) (hk : dm k) : up2 J m i v (A k) j = J (A k) j := up2_ne (fun z => hA.2 k hk z.1)
theorem mm_j {m : Nat} {J : Mm} {j i : Nat} {v : Int32} (hn : j ≠ i) : up2 J m i v m j = J m j := up2_ne (fun z => hn z.2)
abbrev TD (J : Mm) (A : Nat → Nat) (x : Nat) : Prop := ¬ J (A 21) x = -1 ∧ J (A 20) (5 * x) = J (A 1) (x / 8) ∧ J (A 20) (5 * x + 1) = J (A 3) x ∧ J (A 20) (5 * x + 2) = J (A 4) x ∧ J (A 20) (5 * x + 3) = nI (x % 8) ∧ J (A 20) (5 * x + 4) = btv (J (A 5) x) (J (A 6) x) (J (A 3) x) (J (A 9) x)
def TK (J : Mm) (A : Nat → Nat) (x : Nat) : Int32 := if J (A 7) x = nI 2 then (if J (A 18) (5 * x + 4) &&& nI 2 = 0 then nI 30 else nI 1) else nI 1
abbrev PC (J : Mm) (m : Nat) (A : Nat → Nat) (x : Nat) : Prop := ¬ J (A 7) x = 0 ∧ (¬ J (A 5) x = 0 ∨ ¬ J (A 18) (5 * x + 4) &&& nI 1 = 0) ∧ ¬ (TD J A x ∧ J (A 14) x = 0 ∧ ¬ TK J A x ≤ J m 43 - J (A 21) x)
theorem f_told {J : Mm} {m : Nat} {A : Nat → Nat} {x : Nat} : (f_X8_isTold J m A x = 0) = ¬ TD J A x := by
  unfold f_X8_isTold TD
  simp only [f_own0, f_own1, f_own2, f_own3, f_own4, bits_btv, Nat.add_zero]
  by_cases e0 : J (A 21) x = -1 <;> by_cases e1 : J (A 20) (5 * x) = J (A 1) (x / 8) <;> by_cases e2 : J (A 20) (5 * x + 1) = J (A 3) x <;> by_cases e3 : J (A 20) (5 * x + 2) = J (A 4) x <;> by_cases e4 : J (A 20) (5 * x + 3) = nI (x % 8) <;> by_cases e5 : J (A 20) (5 * x + 4) = btv (J (A 5) x) (J (A 6) x) (J (A 3) x) (J (A 9) x) <;> simp only [e0, e1, e2, e3, e4, e5, if_true, if_false, not_true, not_false_eq_true, and_true, true_and, and_false, false_and, show (nI 1 = 0) = False by decide, show (nI 0 = 0) = True by decide, and_self]
theorem m_puts {J : Mm} {m : Nat} {A : Nat → Nat} {x nt c : Nat} : f_X8_puts J m A x nt c = if PC J m A x then g_X8_puts_86 J m A x nt c else J := by
  unfold f_X8_puts g_X8_puts_27 g_X8_puts_52
  simp only [f_lit, f_ptn, f_told, PC, TK]
  rcases Classical.propComplete (J (A 7) x = 0) with e0 | e0 <;> rcases Classical.propComplete (J (A 5) x = 0) with e1 | e1 <;> rcases Classical.propComplete (J (A 18) (5 * x + 4) &&& nI 1 = 0) with e2 | e2 <;> simp only [e0, e1, e2, if_true, if_false, not_true, not_false_eq_true, and_true, true_and, and_false, false_and, or_true, true_or, or_false, false_or, ite_self]
  all_goals (rcases Classical.propComplete (TD J A x) with e4 | e4 <;> rcases Classical.propComplete (J (A 14) x = 0) with e5 | e5 <;> rcases Classical.propComplete (J (A 7) x = nI 2) with e3 | e3 <;> rcases Classical.propComplete (J (A 18) (5 * x + 4) &&& nI 2 = 0) with e6 | e6 <;> simp only [e3, e4, e5, e6, if_true, if_false, not_true, not_false_eq_true, and_true, true_and, and_false, false_and, or_true, true_or, or_false, false_or, ite_self, Classical.not_not])
theorem lt_nle {a b : Int32} : (a < b) = ¬ b ≤ a := propext Int32.not_le.symm
theorem r_lit {rp : Nat → Int32} : (r_X5_isLit rp = 0) = (rp 3 = 0) := by
  unfold r_X5_isLit
  exact if_y
theorem s_must {m x : Nat} {A : Nat → Nat} {J : Mm} {rp ro rq rl : Nat → Int32} (hA : AD m A) (h : PR rp ro rq J A x) (hv : PV J A x) (hl : PLk rp rl J A x) : (r_X5_mustTell rp ro rq rl (J m 43) = 0) = ¬ PC J m A x := by
  obtain ⟨h2, h3, h4, h5, h6, h7, h8, h9, o0, o1, o2, o3, o4, q0, q1, q2, q3, q4⟩ := h
  obtain ⟨v1, v2, v3, v4⟩ := hv
  obtain ⟨s, hs, es⟩ := v1
  have ha : (ro 4 &&& nI 1 = 0) = (J (A 5) x = 0) := by rw [o4, es]; exact has_a hs
  unfold r_X5_mustTell
  simp only [r_lit, r_has, r_is, if_z, h3, ha, q4, lt_nle, kn]
  by_cases e0 : J (A 7) x = 0
  · simp [e0, show nI 0 = 0 by decide]
  have hl := hl e0
  by_cases e7 : J (A 21) x = -1
  · have r15 : rp 15 = -1 := hl.1.trans e7
    by_cases e1 : J (A 5) x = 0 <;> by_cases e2 : J (A 18) (5 * x + 4) &&& nI 1 = 0 <;> by_cases e5 : rp 13 = 0 <;> simp [e0, e1, e2, e5, r15, e7, show ¬ nI 1 = 0 by decide, show nI 0 = 0 by decide]
  · obtain ⟨l13, l0, l1, l2, l3, l4⟩ := hl.2 e7
    have r15 := hl.1
    have td : ((rl 0 = ro 0 ∧ rl 1 = ro 1 ∧ rl 2 = ro 2 ∧ rl 3 = ro 3) ∧ rl 4 = ro 4) = TD J A x := by
      rw [l0, l1, l2, l3, l4, o0, o1, o2, o3, o4]
      exact propext ⟨fun z => ⟨e7, z.1.1, z.1.2.1, z.1.2.2.1, z.1.2.2.2, z.2⟩, fun z => ⟨⟨z.2.1, z.2.2.1, z.2.2.2.1, z.2.2.2.2.1⟩, z.2.2.2.2.2⟩⟩
    simp only [td, l13, r15, e7, TK, PC]
    by_cases e4 : TD J A x <;> by_cases e5 : J (A 14) x = 0 <;> by_cases e1 : J (A 5) x = 0 <;> by_cases e2 : J (A 18) (5 * x + 4) &&& nI 1 = 0 <;> by_cases e3 : J (A 7) x = nI 2 <;> by_cases e6 : J (A 18) (5 * x + 4) &&& nI 2 = 0 <;> simp only [e0, e1, e2, e3, e4, e5, e6, if_true, if_false, not_true, not_false_eq_true, and_true, true_and, and_false, false_and, or_true, true_or, or_false, false_or, show (nI 1 = 0) = False by decide, show (nI 0 = 0) = True by decide, show (nI 2 = 0) = False by decide] <;> first | done | (split <;> simp_all [show ¬ nI 1 = 0 by decide, show nI 0 = 0 by decide])
/-! what the reference remembers, and the thing that it puts -/
def JR (J : Mm) (m : Nat) (A : Nat → Nat) (x : Nat) : Mm := up2 (up2 (up2 (up2 (up2 (up2 (up2 (up2 J (A 14) x (nI 0)) (A 16) x (J (A 16) x + nI 1)) (A 21) x (J m 43)) (A 20) (5 * x) (J (A 1) (x / 8))) (A 20) (5 * x + 1) (J (A 3) x)) (A 20) (5 * x + 2) (J (A 4) x)) (A 20) (5 * x + 3) (nI (x % 8))) (A 20) (5 * x + 4) (btv (J (A 5) x) (J (A 6) x) (J (A 3) x) (J (A 9) x))
theorem p86 {J : Mm} {m x nt c : Nat} {A : Nat → Nat} (hA : AD m A) : g_X8_puts_86 J m A x nt c = g_X8_puts_142 (JR J m A x) m A x nt c := by
  simp only [g_X8_puts_86, g_X8_puts_115_0, g_X8_puts_115_1, g_X8_puts_115_2, g_X8_puts_115_3, g_X8_puts_115_4, g_X8_puts_115_5, f_own0, f_own1, f_own2, f_own3, f_own4, bits_btv, JR, Nat.add_zero]
  simp (disch := first | decide | omega) only [mu_o hA, up2_self, mu_j, pk_us, pk_un, am_m hA, mm_a hA, mm_j]
def JN (K : Mm) (m : Nat) (A : Nat → Nat) (x nt c e : Nat) : Mm := up2 (up2 (up2 (up2 (up2 (up2 (up2 (up2 (up2 (up2 (up2 (up2 (up2 (up2 (up2 K (A 31) (10 * nt) (K (A 1) (x / 8))) (A 31) (10 * nt + 5) (K (A 18) (5 * x))) (A 31) (10 * nt + 1) (K (A 3) x)) (A 31) (10 * nt + 5 + 1) (K (A 18) (5 * x + 1))) (A 31) (10 * nt + 2) (K (A 4) x)) (A 31) (10 * nt + 5 + 2) (K (A 18) (5 * x + 2))) (A 31) (10 * nt + 3) (nI (x % 8))) (A 31) (10 * nt + 5 + 3) (K (A 18) (5 * x + 3))) (A 31) (10 * nt + 4) (btv (K (A 5) x) (K (A 6) x) (K (A 3) x) (K (A 9) x))) (A 31) (10 * nt + 5 + 4) (K (A 18) (5 * x + 4))) (A 27) nt (nI c)) (A 28) nt (nI e)) (A 29) nt (K m 43 + K (A 23) c)) (A 30) nt (-1 : Int32)) m 32 (nI (nt + 1))
theorem p193 {K : Mm} {m x nt c e : Nat} {A : Nat → Nat} (hA : AD m A) : g_X8_puts_193_0 K m A x nt c e = JN K m A x nt c e := by
  simp only [g_X8_puts_193_0, g_X8_puts_193_1, g_X8_puts_193_2, g_X8_puts_193_3, g_X8_puts_193_4, g_X8_puts_193_5, f_X8_comesOn, f_own0, f_own1, f_own2, f_own3, f_own4, bits_btv, JN, Nat.add_zero]
  simp (disch := first | decide | omega) only [mu_o hA, up2_self, mu_j, pk_us, pk_un, am_m hA, mm_a hA, mm_j]
def JL (K : Mm) (m : Nat) (A : Nat → Nat) (x c : Nat) : Mm := up2 (up2 K (A 26) (2 * c + x / 8) (K (A 26) (2 * c + x / 8) - nI 1)) m 50 (nI 1)
theorem p142 {K : Mm} {m x nt c : Nat} {A : Nat → Nat} (hA : AD m A) : g_X8_puts_142 K m A x nt c = if K (A 26) (2 * c + x / 8) ≤ 0 then JN K m A x nt c (x / 8) else JL K m A x c := by
  unfold g_X8_puts_142
  rw [p193 hA]
  rfl
def tg (J : Mm) (A : Nat → Nat) (t : Nat) : Nat → Int32 := fun i => if i = 0 then J (A 27) t else if i = 1 then J (A 28) t else if i = 2 then J (A 29) t else if i = 3 then J (A 30) t else if i < 14 then J (A 31) (10 * t + (i - 4)) else 0
def TG (J : Mm) (A : Nat → Nat) (n : Nat) : List (Nat → Int32) := (List.range n).map (tg J A)
def isL (c e : Nat) (q : Nat → Int32) : Bool := decide (q 0 = nI c ∧ q 1 = nI e ∧ q 3 = -1)
def nq (c e : Nat) (due : Int32) (ro rq : Nat → Int32) : Nat → Int32 := fun i => if i = 0 then nI c else if i = 1 then nI e else if i = 2 then due else if i = 3 then -1 else if i < 9 then ro (i - 4) else if i < 14 then rq (i - 9) else 0
theorem TG_s {J : Mm} {A : Nat → Nat} {n : Nat} : TG J A (n + 1) = TG J A n ++ [tg J A n] := by simp [TG, List.range_succ]
theorem TG_c {J J' : Mm} {A : Nat → Nat} {n : Nat} (h : ∀ j, j < n → tg J' A j = tg J A j) : TG J' A n = TG J A n := List.map_congr_left (fun j hj => h j (List.mem_range.mp hj))
theorem tg_k {J J' : Mm} {A : Nat → Nat} {t : Nat} (h : ∀ k ∈ ([27, 28, 29, 30, 31] : List Nat), J' (A k) = J (A k)) : tg J' A t = tg J A t := by
  unfold tg
  rw [h 27 (by decide), h 28 (by decide), h 29 (by decide), h 30 (by decide), h 31 (by decide)]
theorem tg_old {K : Mm} {m x nt c e t : Nat} {A : Nat → Nat} (hA : AD m A) (ht : t < nt) : tg (JN K m A x nt c e) A t = tg K A t := by
  funext i
  unfold tg JN
  repeat' split
  all_goals simp (disch := first | decide | omega) only [mu_o hA, up2_self, mu_j, pk_us, pk_un, am_m hA, mm_a hA, mm_j]
theorem tg_new {K : Mm} {m x nt c e : Nat} {A : Nat → Nat} {ro rq : Nat → Int32} (hA : AD m A) (o0 : ro 0 = K (A 1) (x / 8)) (o1 : ro 1 = K (A 3) x) (o2 : ro 2 = K (A 4) x) (o3 : ro 3 = nI (x % 8)) (o4 : ro 4 = btv (K (A 5) x) (K (A 6) x) (K (A 3) x) (K (A 9) x)) (q0 : rq 0 = K (A 18) (5 * x)) (q1 : rq 1 = K (A 18) (5 * x + 1)) (q2 : rq 2 = K (A 18) (5 * x + 2)) (q3 : rq 3 = K (A 18) (5 * x + 3)) (q4 : rq 4 = K (A 18) (5 * x + 4)) : tg (JN K m A x nt c e) A nt = nq c e (K m 43 + K (A 23) c) ro rq := by
  funext i
  have ci : i = 0 ∨ i = 1 ∨ i = 2 ∨ i = 3 ∨ i = 4 ∨ i = 5 ∨ i = 6 ∨ i = 7 ∨ i = 8 ∨ i = 9 ∨ i = 10 ∨ i = 11 ∨ i = 12 ∨ i = 13 ∨ 14 ≤ i := by omega
  rcases ci with rfl | rfl | rfl | rfl | rfl | rfl | rfl | rfl | rfl | rfl | rfl | rfl | rfl | rfl | hi
  · show JN K m A x nt c e (A 27) nt = _
    unfold JN
    simp (disch := first | decide | omega) only [mu_o hA, up2_self, mu_j, pk_us, pk_un, am_m hA, mm_a hA, mm_j]
    try rfl
  · show JN K m A x nt c e (A 28) nt = _
    unfold JN
    simp (disch := first | decide | omega) only [mu_o hA, up2_self, mu_j, pk_us, pk_un, am_m hA, mm_a hA, mm_j]
    try rfl
  · show JN K m A x nt c e (A 29) nt = _
    unfold JN
    simp (disch := first | decide | omega) only [mu_o hA, up2_self, mu_j, pk_us, pk_un, am_m hA, mm_a hA, mm_j]
    try rfl
  · show JN K m A x nt c e (A 30) nt = _
    unfold JN
    simp (disch := first | decide | omega) only [mu_o hA, up2_self, mu_j, pk_us, pk_un, am_m hA, mm_a hA, mm_j]
    try rfl
  · show JN K m A x nt c e (A 31) (10 * nt) = ro 0
    unfold JN
    simp (disch := first | decide | omega) only [mu_o hA, up2_self, mu_j, pk_us, pk_un, am_m hA, mm_a hA, mm_j]
    exact o0.symm
  · show JN K m A x nt c e (A 31) (10 * nt + 1) = ro 1
    unfold JN
    simp (disch := first | decide | omega) only [mu_o hA, up2_self, mu_j, pk_us, pk_un, am_m hA, mm_a hA, mm_j]
    exact o1.symm
  · show JN K m A x nt c e (A 31) (10 * nt + 2) = ro 2
    unfold JN
    simp (disch := first | decide | omega) only [mu_o hA, up2_self, mu_j, pk_us, pk_un, am_m hA, mm_a hA, mm_j]
    exact o2.symm
  · show JN K m A x nt c e (A 31) (10 * nt + 3) = ro 3
    unfold JN
    simp (disch := first | decide | omega) only [mu_o hA, up2_self, mu_j, pk_us, pk_un, am_m hA, mm_a hA, mm_j]
    exact o3.symm
  · show JN K m A x nt c e (A 31) (10 * nt + 4) = ro 4
    unfold JN
    simp (disch := first | decide | omega) only [mu_o hA, up2_self, mu_j, pk_us, pk_un, am_m hA, mm_a hA, mm_j]
    exact o4.symm
  · show JN K m A x nt c e (A 31) (10 * nt + 5) = rq 0
    unfold JN
    simp (disch := first | decide | omega) only [mu_o hA, up2_self, mu_j, pk_us, pk_un, am_m hA, mm_a hA, mm_j]
    exact q0.symm
  · show JN K m A x nt c e (A 31) (10 * nt + 5 + 1) = rq 1
    unfold JN
    simp (disch := first | decide | omega) only [mu_o hA, up2_self, mu_j, pk_us, pk_un, am_m hA, mm_a hA, mm_j]
    exact q1.symm
  · show JN K m A x nt c e (A 31) (10 * nt + 5 + 2) = rq 2
    unfold JN
    simp (disch := first | decide | omega) only [mu_o hA, up2_self, mu_j, pk_us, pk_un, am_m hA, mm_a hA, mm_j]
    exact q2.symm
  · show JN K m A x nt c e (A 31) (10 * nt + 5 + 3) = rq 3
    unfold JN
    simp (disch := first | decide | omega) only [mu_o hA, up2_self, mu_j, pk_us, pk_un, am_m hA, mm_a hA, mm_j]
    exact q3.symm
  · show JN K m A x nt c e (A 31) (10 * nt + 5 + 4) = rq 4
    unfold JN
    simp (disch := first | decide | omega) only [mu_o hA, up2_self, mu_j, pk_us, pk_un, am_m hA, mm_a hA, mm_j]
    exact q4.symm
  · unfold tg nq
    rw [if_neg (by omega), if_neg (by omega), if_neg (by omega), if_neg (by omega), if_neg (by omega), if_neg (by omega), if_neg (by omega), if_neg (by omega), if_neg (by omega), if_neg (by omega), if_neg (by omega)]
