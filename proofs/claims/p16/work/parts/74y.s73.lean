/-! SIMULATION 73: both sides give at the same port -/
theorem px_e {R : Nat → Nat → Option Nat} {b e j : Nat} (hj : j < 8) : px R b (8 * e + j) = Pt R b e j := by
  show Pt R b ((8 * e + j) / 8) ((8 * e + j) % 8) = _
  rw [show (8 * e + j) / 8 = e by omega, show (8 * e + j) % 8 = j by omega]
theorem gc_gcB {S : MM} {A : Nat → Nat} {e : Nat} {b : Int32} : ∀ j, gc S A e b j = gcB (gv S A e b) j := by
  intro j
  induction j with
  | zero => rfl
  | succ j ih => rw [gc_s, gcB, ih]
theorem gv_e {R : Nat → Nat → Option Nat} {b e j : Nat} {I : Mm} {S : MM} {A : Nat → Nat} {v : Int32} (he : e < 2) (hj : j < 8) (rp : RP R b I (sI S) A (8 * e + j)) (bn : BN R b I (sI S) A) : gvB I R b e v j = gv S A e v j := by
  have r5 : I (Pt R b e j) 5 = sI S (A 9) (8 * e + j) := by rw [← px_e hj]; exact rp.1.2.2.2.1
  unfold gvB gv
  by_cases h4 : sI S (A 9) (8 * e + j) = nI 4
  · have r10 : I (Pt R b e j) 10 = sI S (A 12) (8 * e + j) := by rw [← px_e hj]; exact (bn (8 * e + j) (by omega) h4).1
    rw [r5, r10]
    have h4' : sI S (A 9) (8 * e + j) = 4 := h4
    rw [decide_eq_true h4', Bool.and_true]
    exact decide_eq_decide.mpr ⟨fun z => z.2, fun z => ⟨h4, z⟩⟩
  · have h4' : ¬ sI S (A 9) (8 * e + j) = 4 := h4
    rw [decide_eq_false h4', Bool.and_false, decide_eq_false (fun z => h4 (r5.symm.trans z.1))]
theorem gc_e {R : Nat → Nat → Option Nat} {b e : Nat} {I : Mm} {S : MM} {A : Nat → Nat} {v : Int32} (he : e < 2) (rp : ∀ x, x < 16 → RP R b I (sI S) A x) (bn : BN R b I (sI S) A) (j : Nat) (hj : j ≤ 8) : gcB (gvB I R b e v) j = gc S A e v j := by
  rw [gc_gcB]
  exact gcB_c j (fun i hi => gv_e he (by omega) (rp _ (by omega)) bn)
theorem gv_neg {R : Nat → Nat → Option Nat} {b e j : Nat} {I J : Mm} {A : Nat → Nat} {v : Int32} (he : e < 2) (hj : j < 8) (rp : RP R b I J A (8 * e + j)) (bn : BN R b I J A) (hv : v < 0) : gvB I R b e v j = false := by
  refine decide_eq_false (fun z => ?_)
  have r5 : I (Pt R b e j) 5 = J (A 9) (8 * e + j) := by rw [← px_e hj]; exact rp.1.2.2.2.1
  obtain ⟨r10, k, hk, ek⟩ := bn (8 * e + j) (by omega) (r5.symm.trans z.1)
  rw [px_e hj, z.2, ek] at r10
  rw [r10] at hv
  exact nI_pos (by omega) hv
theorem gcB_0 {g : Nat → Bool} : ∀ n, (∀ i, i < n → g i = false) → gcB g n = 0 := by
  intro n
  induction n with
  | zero => intro _; rfl
  | succ n ih =>
    intro h
    rw [gcB, ih (fun i hi => h i (by omega)), h n (by omega)]
    rfl
/-- the port is one, by its count -/
theorem gcB_u {g : Nat → Bool} {i j : Nat} (hi : g i = true) (hj : g j = true) (e : gcB g i = gcB g j) : i = j := by
  have mono : ∀ d a, gcB g a ≤ gcB g (a + d) := by
    intro d
    induction d with
    | zero => intro a; exact Nat.le_refl _
    | succ d ih =>
      intro a
      rw [show a + (d + 1) = (a + d) + 1 by omega, gcB]
      have := ih a
      omega
  have st : ∀ a, g a = true → gcB g (a + 1) = gcB g a + 1 := fun a ha => by rw [gcB, if_pos ha]
  by_cases l : i < j
  · have := mono (j - (i + 1)) (i + 1)
    rw [show i + 1 + (j - (i + 1)) = j by omega, st i hi] at this
    omega
  · by_cases l2 : j < i
    · have := mono (i - (j + 1)) (j + 1)
      rw [show j + 1 + (i - (j + 1)) = i by omega, st j hj] at this
      omega
    · omega
