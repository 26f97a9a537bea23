/-! SIMULATION 13: dues; what a port tells, class and reference -/
def dqn (q : Nat → Int32) : Nat := (q 2).toNatClampNeg
/-- a note's bits are small numbers -/
def BB (q : Nat → Int32) : Prop := (∃ n, n < 64 ∧ q 8 = nI n) ∧ ∃ n, n < 64 ∧ q 13 = nI n
def DU (L : List (Nat → Int32)) (a B : Nat) : Prop := (∀ q ∈ L, (q 2 = nI (dqn q) ∧ BB q) ∧ a ≤ dqn q ∧ dqn q < B) ∧ L.Pairwise (fun q q' => dqn q < dqn q')
theorem DU_len : ∀ (L : List (Nat → Int32)) (a B : Nat), DU L a B → L.length ≤ B - a
  | [], a, B, _ => Nat.zero_le _
  | q :: L, a, B, h => by
    have hq := h.1 q (List.mem_cons_self)
    have hp := List.pairwise_cons.mp h.2
    have g : DU L (dqn q + 1) B := ⟨fun p hp' => ⟨(h.1 p (List.mem_cons_of_mem q hp')).1, hp.1 p hp', (h.1 p (List.mem_cons_of_mem q hp')).2.2⟩, hp.2⟩
    have := DU_len L (dqn q + 1) B g
    simp only [List.length_cons]
    omega
theorem DU_app {L : List (Nat → Int32)} {a B : Nat} {q : Nat → Int32} (h : DU L a B) (e : q 2 = nI B) (hq : BB q) (ha : a ≤ B) (hB : B < 2 ^ 31) : DU (L ++ [q]) a (B + 1) := by
  have d : dqn q = B := by unfold dqn; rw [e, nI_cl hB]
  refine ⟨fun p hp => ?_, List.pairwise_append.mpr ⟨h.2, List.pairwise_singleton _ _, fun p hp p' hp' => ?_⟩⟩
  · rcases List.mem_append.mp hp with m | m
    · have := h.1 p m
      exact ⟨this.1, this.2.1, by omega⟩
    · rw [List.mem_singleton.mp m, d]
      exact ⟨⟨e, hq⟩, ha, by omega⟩
  · rw [List.mem_singleton.mp hp', d]
    exact (h.1 p hp).2.2
theorem DU_w {L : List (Nat → Int32)} {a B B' : Nat} (h : DU L a B) (hB : B ≤ B') : DU L a B' := ⟨fun q hq => ⟨(h.1 q hq).1, (h.1 q hq).2.1, by have := (h.1 q hq).2.2; omega⟩, h.2⟩
/-- what is due now is the first one, or none -/
theorem DU_due {L : List (Nat → Int32)} {a B : Nat} (h : DU L a B) (ha : B < 2 ^ 31) : (∃ q L', L = q :: L' ∧ q 2 = nI a ∧ DU L' (a + 1) B ∧ L.filter (fun p => !(decide (p 2 = nI a))) = L' ∧ L.filter (fun p => decide (p 2 = nI a)) = [q]) ∨ (DU L (a + 1) B ∧ L.filter (fun p => !(decide (p 2 = nI a))) = L ∧ L.filter (fun p => decide (p 2 = nI a)) = []) := by
  have out : ∀ M : List (Nat → Int32), DU M (a + 1) B → M.filter (fun p => !(decide (p 2 = nI a))) = M ∧ M.filter (fun p => decide (p 2 = nI a)) = [] := fun M g => by
    have n : ∀ p ∈ M, ¬ p 2 = nI a := fun p hp z => by
      have q := g.1 p hp
      have : dqn p = a := by unfold dqn; rw [z, nI_cl (by omega)]
      omega
    refine ⟨List.filter_eq_self.mpr (fun p hp => by simp [n p hp]), List.filter_eq_nil_iff.mpr (fun p hp => by simp [n p hp])⟩
  cases L with
  | nil => exact Or.inr ⟨⟨fun q hq => absurd hq (List.not_mem_nil), List.Pairwise.nil⟩, rfl, rfl⟩
  | cons q L =>
    have hq := h.1 q (List.mem_cons_self)
    have hp := List.pairwise_cons.mp h.2
    by_cases c : dqn q = a
    · have e : q 2 = nI a := by rw [hq.1.1, c]
      have g : DU L (a + 1) B := ⟨fun p hp' => ⟨(h.1 p (List.mem_cons_of_mem q hp')).1, by have := hp.1 p hp'; omega, (h.1 p (List.mem_cons_of_mem q hp')).2.2⟩, hp.2⟩
      refine Or.inl ⟨q, L, rfl, e, g, ?_, ?_⟩
      · rw [List.filter_cons_of_neg (by simp [e])]; exact (out L g).1
      · rw [List.filter_cons_of_pos (by simp [e]), (out L g).2]
    · have g : DU (q :: L) (a + 1) B := ⟨fun p hp' => by
        have k := h.1 p hp'
        refine ⟨k.1, ?_, k.2.2⟩
        rcases List.mem_cons.mp hp' with m | m
        · rw [m]; omega
        · have := hp.1 p m; omega, h.2⟩
      exact Or.inr ⟨g, out _ g⟩
theorem JR_o {J : Mm} {m x k j : Nat} {A : Nat → Nat} (hA : AD m A) (hk : dm k) (h14 : k ≠ 14) (h16 : k ≠ 16) (h20 : k ≠ 20) (h21 : k ≠ 21) : JR J m A x (A k) j = J (A k) j := by
  unfold JR
  simp (disch := first | assumption | decide) only [mu_o hA]
theorem JR_m {J : Mm} {m x j : Nat} {A : Nat → Nat} (hA : AD m A) : JR J m A x m j = J m j := by
  unfold JR
  simp (disch := decide) only [am_m hA]
theorem JR_14 {J : Mm} {m x : Nat} {A : Nat → Nat} (hA : AD m A) : JR J m A x (A 14) x = nI 0 := by
  unfold JR
  simp (disch := first | decide | omega) only [mu_o hA, up2_self, mu_j]
theorem JR_21 {J : Mm} {m x : Nat} {A : Nat → Nat} (hA : AD m A) : JR J m A x (A 21) x = J m 43 := by
  unfold JR
  simp (disch := first | decide | omega) only [mu_o hA, up2_self, mu_j]
theorem JR_200 {J : Mm} {m x : Nat} {A : Nat → Nat} (_hA : AD m A) : JR J m A x (A 20) (5 * x) = J (A 1) (x / 8) := by
  unfold JR
  simp (disch := omega) only [up2_self, mu_j]
theorem JR_201 {J : Mm} {m x : Nat} {A : Nat → Nat} (_hA : AD m A) : JR J m A x (A 20) (5 * x + 1) = J (A 3) x := by
  unfold JR
  simp (disch := omega) only [up2_self, mu_j]
theorem JR_202 {J : Mm} {m x : Nat} {A : Nat → Nat} (_hA : AD m A) : JR J m A x (A 20) (5 * x + 2) = J (A 4) x := by
  unfold JR
  simp (disch := omega) only [up2_self, mu_j]
theorem JR_203 {J : Mm} {m x : Nat} {A : Nat → Nat} (_hA : AD m A) : JR J m A x (A 20) (5 * x + 3) = nI (x % 8) := by
  unfold JR
  simp (disch := omega) only [up2_self, mu_j]
theorem JR_204 {J : Mm} {m x : Nat} {A : Nat → Nat} (_hA : AD m A) : JR J m A x (A 20) (5 * x + 4) = btv (J (A 5) x) (J (A 6) x) (J (A 3) x) (J (A 9) x) := by
  unfold JR
  simp (disch := omega) only [up2_self, mu_j]
theorem JR_f {J : Mm} {m x : Nat} {A : Nat → Nat} (hA : AD m A) : MF A x J (JR J m A x) := by
  unfold JR
  repeat (first | exact MF.rf | refine MF.w hA (by decide) (by first | exact ow_x (by decide) | exact ow_5 (by decide) (by decide) | exact ow_50 (by decide)) ?_)
theorem JN_o {K : Mm} {m x nt c e k j : Nat} {A : Nat → Nat} (hA : AD m A) (hk : dm k) (h : k < 27 ∨ 31 < k) : JN K m A x nt c e (A k) j = K (A k) j := by
  have n27 : k ≠ 27 := by omega
  have n28 : k ≠ 28 := by omega
  have n29 : k ≠ 29 := by omega
  have n30 : k ≠ 30 := by omega
  have n31 : k ≠ 31 := by omega
  unfold JN
  simp (disch := first | assumption | decide) only [mu_o hA, mm_a hA]
theorem JN_m {K : Mm} {m x nt c e j : Nat} {A : Nat → Nat} (hA : AD m A) (h : j ≠ 32) : JN K m A x nt c e m j = K m j := by
  unfold JN
  simp (disch := first | assumption | decide) only [mm_j, am_m hA]
theorem JN_32 {K : Mm} {m x nt c e : Nat} {A : Nat → Nat} : JN K m A x nt c e m 32 = nI (nt + 1) := up2_self _ _ _ _
theorem JL_o {K : Mm} {m x c k j : Nat} {A : Nat → Nat} (hA : AD m A) (hk : dm k) (h : k ≠ 26) : JL K m A x c (A k) j = K (A k) j := by
  unfold JL
  simp (disch := first | assumption | decide) only [mu_o hA, mm_a hA]
theorem JL_m {K : Mm} {m x c j : Nat} {A : Nat → Nat} (hA : AD m A) (h : j ≠ 50) : JL K m A x c m j = K m j := by
  unfold JL
  simp (disch := first | assumption | decide) only [mm_j, am_m hA]
theorem JL_26 {K : Mm} {m x c j : Nat} {A : Nat → Nat} (hA : AD m A) : JL K m A x c (A 26) j = if j = 2 * c + x / 8 then K (A 26) (2 * c + x / 8) - nI 1 else K (A 26) j := by
  unfold JL
  rw [mm_a hA (by decide)]
  by_cases q : j = 2 * c + x / 8
  · rw [if_pos q, q, up2_self]
  · rw [if_neg q, mu_j q]
theorem s_rem {m x : Nat} {A : Nat → Nat} {J : Mm} {rp ro rq rl : Nat → Int32} (hA : AD m A) (h : PR rp ro rq J A x) (hv : PV J A x) {J' : Mm} {v : Int32} (hj : ∀ k j, dm k → k ≠ 14 → k ≠ 16 → k ≠ 20 → k ≠ 21 → k ≠ 26 → (k < 27 ∨ 31 < k) → J' (A k) j = J (A k) j) (j21 : J' (A 21) x = v) (j14 : J' (A 14) x = nI 0) (j200 : J' (A 20) (5 * x) = J (A 1) (x / 8)) (j201 : J' (A 20) (5 * x + 1) = J (A 3) x) (j202 : J' (A 20) (5 * x + 2) = J (A 4) x) (j203 : J' (A 20) (5 * x + 3) = nI (x % 8)) (j204 : J' (A 20) (5 * x + 4) = btv (J (A 5) x) (J (A 6) x) (J (A 3) x) (J (A 9) x)) : PR (r_X5_rememberTelling rp ro rl v).2 ro rq J' A x ∧ PV J' A x ∧ PLk (r_X5_rememberTelling rp ro rl v).2 (r_X5_rememberTelling rp ro rl v).1 J' A x ∧ (r_X5_rememberTelling rp ro rl v).2 12 = rp 12 := by
  obtain ⟨h2, h3, h4, h5, h6, h7, h8, h9, o0, o1, o2, o3, o4, q0, q1, q2, q3, q4⟩ := h
  have bk : ∀ k, k ≠ 13 → k ≠ 15 → k ≠ 16 → (r_X5_rememberTelling rp ro rl v).2 k = rp k := fun k a1 a2 a3 => by unfold r_X5_rememberTelling; simp (disch := assumption) only [pk_un]
  have b13 : (r_X5_rememberTelling rp ro rl v).2 13 = nI 0 := by unfold r_X5_rememberTelling; simp (disch := decide) only [pk_us, pk_un]
  have b15 : (r_X5_rememberTelling rp ro rl v).2 15 = v := by unfold r_X5_rememberTelling; simp (disch := decide) only [pk_us, pk_un]
  have l0 : (r_X5_rememberTelling rp ro rl v).1 0 = ro 0 := by unfold r_X5_rememberTelling r_X6_copyFrom; simp (disch := decide) only [pk_us, pk_un]
  have l1 : (r_X5_rememberTelling rp ro rl v).1 1 = ro 1 := by unfold r_X5_rememberTelling r_X6_copyFrom; simp (disch := decide) only [pk_us, pk_un]
  have l2 : (r_X5_rememberTelling rp ro rl v).1 2 = ro 2 := by unfold r_X5_rememberTelling r_X6_copyFrom; simp (disch := decide) only [pk_us, pk_un]
  have l3 : (r_X5_rememberTelling rp ro rl v).1 3 = ro 3 := by unfold r_X5_rememberTelling r_X6_copyFrom; simp (disch := decide) only [pk_us, pk_un]
  have l4 : (r_X5_rememberTelling rp ro rl v).1 4 = ro 4 := by unfold r_X5_rememberTelling r_X6_copyFrom; simp (disch := decide) only [pk_us, pk_un]
  unfold PR PV PLk
  rw [bk 2 (by decide) (by decide) (by decide), bk 3 (by decide) (by decide) (by decide), bk 4 (by decide) (by decide) (by decide), bk 5 (by decide) (by decide) (by decide), bk 6 (by decide) (by decide) (by decide), bk 7 (by decide) (by decide) (by decide), bk 8 (by decide) (by decide) (by decide), bk 9 (by decide) (by decide) (by decide), bk 12 (by decide) (by decide) (by decide), b13, b15, l0, l1, l2, l3, l4, j21, j14, j200, j201, j202, j203, j204]
  rw [hj 11 x (by decide) (by decide) (by decide) (by decide) (by decide) (by decide) (by decide), hj 7 x (by decide) (by decide) (by decide) (by decide) (by decide) (by decide) (by decide), hj 8 x (by decide) (by decide) (by decide) (by decide) (by decide) (by decide) (by decide), hj 9 x (by decide) (by decide) (by decide) (by decide) (by decide) (by decide) (by decide), hj 10 x (by decide) (by decide) (by decide) (by decide) (by decide) (by decide) (by decide), hj 19 (3 * x) (by decide) (by decide) (by decide) (by decide) (by decide) (by decide) (by decide), hj 19 (3 * x + 1) (by decide) (by decide) (by decide) (by decide) (by decide) (by decide) (by decide), hj 19 (3 * x + 2) (by decide) (by decide) (by decide) (by decide) (by decide) (by decide) (by decide), hj 1 (x / 8) (by decide) (by decide) (by decide) (by decide) (by decide) (by decide) (by decide), hj 3 x (by decide) (by decide) (by decide) (by decide) (by decide) (by decide) (by decide), hj 4 x (by decide) (by decide) (by decide) (by decide) (by decide) (by decide) (by decide), hj 5 x (by decide) (by decide) (by decide) (by decide) (by decide) (by decide) (by decide), hj 6 x (by decide) (by decide) (by decide) (by decide) (by decide) (by decide) (by decide), hj 18 (5 * x) (by decide) (by decide) (by decide) (by decide) (by decide) (by decide) (by decide), hj 18 (5 * x + 1) (by decide) (by decide) (by decide) (by decide) (by decide) (by decide) (by decide), hj 18 (5 * x + 2) (by decide) (by decide) (by decide) (by decide) (by decide) (by decide) (by decide), hj 18 (5 * x + 3) (by decide) (by decide) (by decide) (by decide) (by decide) (by decide) (by decide), hj 18 (5 * x + 4) (by decide) (by decide) (by decide) (by decide) (by decide) (by decide) (by decide)]
  exact ⟨⟨h2, h3, h4, h5, h6, h7, h8, h9, o0, o1, o2, o3, o4, q0, q1, q2, q3, q4⟩, hv, fun _ => ⟨rfl, fun _ => ⟨rfl, o0, o1, o2, o3, o4⟩⟩, rfl⟩
theorem an_E {S : MM} {b c e e2 x : Nat} {I : Mm} {v : Int32} : ∃ s, s < 8 ∧ ((f_X3_addNote I (sR S) b c e e2 x v = I) ∨ f_X3_addNote I (sR S) b c e e2 x v = up2 (up2 (f_X6_copyFrom (f_X6_copyFrom I (NtO (sR S) b c e s) (Ow (sR S) b e2 x)) (NtP (sR S) b c e s) (Pa (sR S) b e2 x)) (Nt (sR S) b c e s) 2 v) (Ln (sR S) b c e) 2 (nI ((I (Ln (sR S) b c e) 2).toNatClampNeg + 1))) := by
  refine ⟨((I (Ln (sR S) b c e) 1).toNatClampNeg + (I (Ln (sR S) b c e) 2).toNatClampNeg) % 8, by omega, ?_⟩
  unfold f_X3_addNote
  by_cases q : (I (Ln (sR S) b c e) 2).toNatClampNeg < 8
  · rw [if_pos q]; exact Or.inr rfl
  · rw [if_neg q]; exact Or.inl rfl
theorem an_k {S : MM} {b c e e2 x z : Nat} {I : Mm} {v : Int32} (h1 : ∀ s, s < 8 → z ≠ NtO (sR S) b c e s ∧ z ≠ NtP (sR S) b c e s ∧ z ≠ Nt (sR S) b c e s) (h4 : z ≠ Ln (sR S) b c e) : f_X3_addNote I (sR S) b c e e2 x v z = I z := by
  obtain ⟨s, hs, q | q⟩ := an_E (S := S) (b := b) (c := c) (e := e) (e2 := e2) (x := x) (I := I) (v := v)
  · rw [q]
  · rw [q, up2_row h4, up2_row (h1 s hs).2.2, n_X6_copyFrom (h1 s hs).2.1, n_X6_copyFrom (h1 s hs).1]
theorem an_l {S : MM} {b c e e2 x k : Nat} {I : Mm} {v : Int32} (hL : LY S b) (hc : c < 8) (he : e < 2) (hk : k ≠ 2) : f_X3_addNote I (sR S) b c e e2 x v (Ln (sR S) b c e) k = I (Ln (sR S) b c e) k := by
  have kL := (ly_N hL hc he).2.1
  obtain ⟨s, hs, q | q⟩ := an_E (S := S) (b := b) (c := c) (e := e) (e2 := e2) (x := x) (I := I) (v := v)
  · rw [q]
  · rw [q, up2_jn hk, up2_row (ne_k kL (ly_T hL hc he hs).2.1 (by decide)), n_X6_copyFrom (ne_k kL (ly_TP hL hc he hs).2.1 (by decide)), n_X6_copyFrom (ne_k kL (ly_TO hL hc he hs).2.1 (by decide))]
