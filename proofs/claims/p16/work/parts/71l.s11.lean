/-! SIMULATION 11: bundles and chosen ports of both ends -/
theorem r15_s {R : Nat → Nat → Option Nat} {b r i : Nat} {I : Mm} {w1 : Int32} : g_X7_runTick_15 R b (r + 1) i I w1 = g_X7_runTick_15 R b r (i + 1) (f_X1_formBundles I R b i (if nI i = w1 then nI 1 else nI 0)) w1 := by
  rw [g_X7_runTick_15]
  split <;> rfl
theorem r15 {R : Nat → Nat → Option Nat} {b : Nat} {I : Mm} {w1 : Int32} : g_X7_runTick_15 R b 2 0 I w1 = g_X7_runTick_15 R b 0 2 (f_X1_formBundles (f_X1_formBundles I R b 0 (if nI 0 = w1 then nI 1 else nI 0)) R b 1 (if nI 1 = w1 then nI 1 else nI 0)) w1 := (r15_s (r := 1) (i := 0)).trans (r15_s (r := 0) (i := 1))
theorem str_lt {J : Mm} {m : Nat} {A : Nat → Nat} : f_X8_stronger J m A < 2 := by
  unfold f_X8_stronger
  split <;> decide
theorem str_e {R : Nat → Nat → Option Nat} {b m : Nat} {I J : Mm} {A : Nat → Nat} (g : ∀ e, e < 2 → I (En R b e) 1 = J (A 1) e) : f_X7_strongerEnd I R b = f_X8_stronger J m A := by
  unfold f_X7_strongerEnd f_X8_stronger
  rw [g 0 (by decide), g 1 (by decide)]
theorem flag_e {s e : Nat} (hs : s < 2) (he : e < 2) : ((if nI e = nI s then nI 1 else nI 0) = 0) ↔ ¬ e = s := by
  have hs : s = 0 ∨ s = 1 := by omega
  have he : e = 0 ∨ e = 1 := by omega
  rcases hs with rfl | rfl <;> rcases he with rfl | rfl <;> decide
theorem sim_form {S : MM} {b m : Nat} {A : Nat → Nat} {I J : Mm} (hL : LY S b) (hO : OC S) (hA : AD m A) (h : ∀ x, x < 16 → RP (sR S) b I J A x ∧ I (px (sR S) b x) 12 = nI 0) (g : ∀ e, e < 2 → I (En (sR S) b e) 1 = J (A 1) e ∧ I (En (sR S) b e) 2 = J (A 2) e) : ∃ I2, g_X7_runTick_15 (sR S) b 2 0 I (nI (f_X7_strongerEnd I (sR S) b)) = g_X7_runTick_15 (sR S) b 0 2 I2 (nI (f_X7_strongerEnd I (sR S) b)) ∧ (∀ x, x < 16 → RP (sR S) b I2 (f_X8_chooses (f_X8_chooses J m A 0) m A 1) A x ∧ I2 (px (sR S) b x) 12 = nI 0 ∧ I2 (px (sR S) b x) 11 = (f_X8_chooses (f_X8_chooses J m A 0) m A 1) (A 13) x ∧ I2 (px (sR S) b x) 10 = (f_X8_chooses (f_X8_chooses J m A 0) m A 1) (A 12) x) ∧ (∀ z, NE (sR S) b z → I2 z = I z) ∧ (∀ e, e < 2 → ∀ k, k ≠ 8 → I2 (En (sR S) b e) k = I (En (sR S) b e) k) ∧ MC m A J (f_X8_chooses (f_X8_chooses J m A 0) m A 1) := by
  refine ⟨_, r15, ?_⟩
  rw [str_e (m := m) (fun e he => (g e he).1)]
  have hs := str_lt (J := J) (m := m) (A := A)
  have s0 := sim_end hL hO hA (e := 0) (by decide) (fun x hx => (h x hx).1) (g 0 (by decide)).2 (flag_e hs (by decide))
  generalize f_X1_formBundles I (sR S) b 0 (if nI 0 = nI (f_X8_stronger J m A) then nI 1 else nI 0) = I1 at s0 ⊢
  generalize f_X8_chooses J m A 0 = J1 at s0 ⊢
  obtain ⟨a1, a2, a3, a4, a5⟩ := s0
  have k2 : ∀ e, e < 2 → sK S (En (sR S) b e) = 2 := fun e he => (ly_E hL he).2.1
  have nE : ∀ e e', e < 2 → e' < 2 → e ≠ e' → En (sR S) b e ≠ En (sR S) b e' := fun e e' he he' n z => n (i_E hL hO he he' z)
  have nP : ∀ e e' i, e < 2 → e' < 2 → i < 8 → En (sR S) b e ≠ Pt (sR S) b e' i := fun e e' i he he' hi => ne_k (k2 e he) (ly_P hL he' hi).2.1 (by decide)
  have r1 : I1 (En (sR S) b 1) = I (En (sR S) b 1) := a3.1 _ (fun i hi => nP 1 0 i (by decide) (by decide) hi) (nE 1 0 (by decide) (by decide) (by decide))
  have s1 := sim_end hL hO hA (e := 1) (v := if nI 1 = nI (f_X8_stronger J m A) then nI 1 else nI 0) (by decide) a1 (by rw [r1, a4.1 2 1 (by decide) (by decide) (by decide) (by decide)]; exact (g 1 (by decide)).2) (by rw [str_c a4]; exact flag_e hs (by decide))
  generalize f_X1_formBundles I1 (sR S) b 1 (if nI 1 = nI (f_X8_stronger J m A) then nI 1 else nI 0) = I2 at s1 ⊢
  generalize f_X8_chooses J1 m A 1 = J2 at s1 ⊢
  obtain ⟨b1, b2, b3, b4, b5⟩ := s1
  have nP2 : ∀ e e' i i', e < 2 → e' < 2 → i < 8 → i' < 8 → e ≠ e' → Pt (sR S) b e i ≠ Pt (sR S) b e' i' := fun e e' i i' he he' hi hi' n z => n (i_Pt hL hO he he' hi hi' z).1
  refine ⟨fun x hx => ⟨b1 x hx, ?_, ?_⟩, fun z hz => ?_, fun e he k hk => ?_, a4.tr b4⟩
  · have hq : x / 8 = 0 ∨ x / 8 = 1 := by omega
    rcases hq with q | q
    · have e2 : I2 (px (sR S) b x) = I1 (px (sR S) b x) := b3.1 _ (fun i hi => by show Pt (sR S) b (x / 8) (x % 8) ≠ _; rw [q]; exact nP2 0 1 _ i (by decide) (by decide) (by omega) hi (by decide)) (fun z => nP 1 (x / 8) (x % 8) (by decide) (by omega) (by omega) z.symm)
      have e1 := a3.2.1 (x % 8) (by omega) 12 (by decide) (by decide)
      rw [e2]
      have z : I (Pt (sR S) b (x / 8) (x % 8)) 12 = nI 0 := (h x hx).2
      rw [q] at z
      show I1 (Pt (sR S) b (x / 8) (x % 8)) 12 = nI 0
      rw [q, e1]
      exact z
    · have e2 := b3.2.1 (x % 8) (by omega) 12 (by decide) (by decide)
      have e1 : I1 (px (sR S) b x) = I (px (sR S) b x) := a3.1 _ (fun i hi => by show Pt (sR S) b (x / 8) (x % 8) ≠ _; rw [q]; exact nP2 1 0 _ i (by decide) (by decide) (by omega) hi (by decide)) (fun z => nP 0 (x / 8) (x % 8) (by decide) (by omega) (by omega) z.symm)
      show I2 (Pt (sR S) b (x / 8) (x % 8)) 12 = nI 0
      rw [q, e2, ← q]
      show I1 (px (sR S) b x) 12 = nI 0
      rw [e1]
      exact (h x hx).2
  · have hq : x / 8 = 0 ∨ x / 8 = 1 := by omega
    rcases hq with q | q
    · have e2 : I2 (px (sR S) b x) = I1 (px (sR S) b x) := b3.1 _ (fun i hi => by show Pt (sR S) b (x / 8) (x % 8) ≠ _; rw [q]; exact nP2 0 1 _ i (by decide) (by decide) (by omega) hi (by decide)) (fun z => nP 1 (x / 8) (x % 8) (by decide) (by omega) (by omega) z.symm)
      have c := a2 (x % 8) (by omega)
      have d := b5 x (by omega)
      have ex : 8 * 0 + x % 8 = x := by omega
      rw [ex, ← q] at c
      rw [e2, d.1, d.2]
      exact c
    · have c := b2 (x % 8) (by omega)
      have ex : 8 * 1 + x % 8 = x := by omega
      rw [ex, ← q] at c
      exact c
  · have m1 : ∀ e, e < 2 → ∀ i, i < 8 → z ≠ Pt (sR S) b e i := fun e he i hi y => (hz.1 (8 * e + i) (by omega)).1 (by show z = Pt (sR S) b ((8 * e + i) / 8) ((8 * e + i) % 8); rw [show (8 * e + i) / 8 = e by omega, show (8 * e + i) % 8 = i by omega]; exact y)
    rw [b3.1 z (m1 1 (by decide)) (hz.2 1 (by decide)), a3.1 z (m1 0 (by decide)) (hz.2 0 (by decide))]
  · have hq : e = 0 ∨ e = 1 := by omega
    rcases hq with rfl | rfl
    · rw [b3.1 _ (fun i hi => nP 0 1 i (by decide) (by decide) hi) (nE 0 1 (by decide) (by decide) (by decide))]
      exact a3.2.2 k hk
    · rw [b3.2.2 k hk, r1]
