/-! SIMULATION 9: bundles and chosen ports, one end -/
def CE (R : Nat → Nat → Option Nat) (b e : Nat) (I J : Mm) (A : Nat → Nat) : Prop := ∀ i, i < 8 → I (Pt R b e i) 3 = J (A 7) (8 * e + i) ∧ I (Ow R b e i) 1 = J (A 3) (8 * e + i) ∧ I (Ow R b e i) 2 = J (A 4) (8 * e + i) ∧ I (Ow R b e i) 3 = nI i ∧ I (Pa R b e i) 0 = J (A 18) (5 * (8 * e + i)) ∧ I (Pa R b e i) 1 = J (A 18) (5 * (8 * e + i) + 1) ∧ I (Pa R b e i) 2 = J (A 18) (5 * (8 * e + i) + 2) ∧ I (Pa R b e i) 3 = J (A 18) (5 * (8 * e + i) + 3) ∧ I (Pa R b e i) 4 = J (A 18) (5 * (8 * e + i) + 4)
theorem ce_fit {R : Nat → Nat → Option Nat} {b e i m : Nat} {I J : Mm} {A : Nat → Nat} (h : CE R b e I J A) (hi : i < 8) : (f_X5_fits I (Pt R b e i) (Ow R b e i) (Pa R b e i) = 0) = (f_X8_fits J m A (8 * e + i) = 0) := by
  obtain ⟨a, c, _, _, d, f, _, _, g⟩ := h i hi
  rw [rr_X5_fits, r_fit, f_fit, a, c, d, f, g]
theorem ce_like {R : Nat → Nat → Option Nat} {b e i j : Nat} {I J : Mm} {A : Nat → Nat} (h : CE R b e I J A) (hi : i < 8) (hj : j < 8) : (f_X5_isLike I (Pt R b e i) (Ow R b e i) (Pa R b e i) (Pt R b e j) (Ow R b e j) (Pa R b e j) = 0) = ¬ KM J A e i j := by
  obtain ⟨_, c, _, _, d, f, _, _, _⟩ := h i hi
  obtain ⟨_, c', _, _, d', f', _, _, _⟩ := h j hj
  rw [rr_X5_isLike, r_like, c, d, f, c', d', f']
theorem ce_ahead {R : Nat → Nat → Option Nat} {b e i j m : Nat} {I J : Mm} {A : Nat → Nat} {v : Int32} (h : CE R b e I J A) (hv : (v = 0) ↔ ¬ e = f_X8_stronger J m A) (hi : i < 8) (hj : j < 8) : (f_X5_isAheadOf I (Pt R b e i) (Ow R b e i) (Pa R b e i) (Pt R b e j) (Ow R b e j) (Pa R b e j) v = 0) = (f_X8_isAhead J m A (8 * e + i) (8 * e + j) = 0) := by
  obtain ⟨_, _, p, n, _, _, q, r, _⟩ := h i hi
  obtain ⟨_, _, p', n', _, _, q', r', _⟩ := h j hj
  rw [rr_X5_isAheadOf]
  by_cases s : e = f_X8_stronger J m A
  · rw [r_ahO (fun z => (hv.mp z) s) hi hj n n', f_ahO s hi hj, p, p']
  · rw [r_ahP hi hj n n' (hv.mpr s), f_ahP s hi hj, q, q', r, r']
theorem ah_irr {J : Mm} {m e i : Nat} {A : Nat → Nat} (hi : i < 8) : f_X8_isAhead J m A (8 * e + i) (8 * e + i) = 0 := by
  by_cases s : e = f_X8_stronger J m A
  · rw [f_ahO s hi hi]
    unfold ahO
    simp
  · rw [f_ahP s hi hi]
    unfold ahP
    simp
theorem KM_r {J : Mm} {A : Nat → Nat} {e : Nat} (i : Nat) : KM J A e i i := ⟨rfl, rfl, rfl⟩
theorem KM_s {J : Mm} {A : Nat → Nat} {e : Nat} (i j : Nat) (h : KM J A e i j) : KM J A e j i := ⟨h.1.symm, h.2.1.symm, h.2.2.symm⟩
theorem KM_t {J : Mm} {A : Nat → Nat} {e : Nat} (i j k : Nat) (h : KM J A e i j) (g : KM J A e j k) : KM J A e i k := ⟨h.1.trans g.1, h.2.1.trans g.2.1, h.2.2.trans g.2.2⟩
theorem bo18 {R : Nat → Nat → Option Nat} {b e x : Nat} {I J : Mm} {A : Nat → Nat} (h : CE R b e I J A) (hx : x < 8) : ∀ r j, j + r = x → (∃ a, j ≤ a ∧ a < x ∧ g_X1_bundleOf_18 R b e x r j I = nI a ∧ I (Pt R b e a) 10 = nI a ∧ KM J A e a x) ∨ (g_X1_bundleOf_18 R b e x r j I = nI x ∧ ∀ a, j ≤ a → a < x → ¬ (I (Pt R b e a) 10 = nI a ∧ KM J A e a x)) := by
  intro r
  induction r with
  | zero => intro j hj; exact Or.inr ⟨rfl, fun a h1 h2 => absurd h1 (by omega)⟩
  | succ r ih =>
    intro j hj
    rw [g_X1_bundleOf_18]
    have nx : ¬ (I (Pt R b e j) 10 = nI j ∧ KM J A e j x) → ((∃ a, j ≤ a ∧ a < x ∧ g_X1_bundleOf_18 R b e x r (j + 1) I = nI a ∧ I (Pt R b e a) 10 = nI a ∧ KM J A e a x) ∨ (g_X1_bundleOf_18 R b e x r (j + 1) I = nI x ∧ ∀ a, j ≤ a → a < x → ¬ (I (Pt R b e a) 10 = nI a ∧ KM J A e a x))) := fun nn => by
      rcases ih (j + 1) (by omega) with ⟨a, h1, h2, h3, h4, h5⟩ | ⟨h1, h2⟩
      · exact Or.inl ⟨a, by omega, h2, h3, h4, h5⟩
      · exact Or.inr ⟨h1, fun a k1 k2 => by
          by_cases q : a = j
          · subst q; exact nn
          · exact h2 a (by omega) k2⟩
    by_cases c1 : I (Pt R b e j) 10 = nI j
    · rw [if_pos c1]
      by_cases c2 : f_X5_isLike I (Pt R b e j) (Ow R b e j) (Pa R b e j) (Pt R b e x) (Ow R b e x) (Pa R b e x) = 0
      · rw [if_pos c2]
        rw [ce_like h (by omega) hx] at c2
        exact nx (fun z => c2 z.2)
      · rw [if_neg c2]
        rw [ce_like h (by omega) hx] at c2
        exact Or.inl ⟨j, Nat.le_refl j, by omega, rfl, c1, Classical.byContradiction c2⟩
    · rw [if_neg c1]
      exact nx (fun z => c1 z.1)
theorem bo_L {R : Nat → Nat → Option Nat} {b e x m : Nat} {I J : Mm} {A : Nat → Nat} (h : CE R b e I J A) (hx : x < 8) (hB : ∀ j, j < x → Lst (FM J m A e) (KM J A e) j (I (Pt R b e j) 10)) : Lst (FM J m A e) (KM J A e) x (f_X1_bundleOf I R b e x) := by
  refine Lst_b (B := fun j => I (Pt R b e j) 10) KM_r KM_s KM_t hx hB (fun n => ?_) (fun f => ?_)
  · unfold f_X1_bundleOf
    rw [if_pos (by rw [ce_fit (m := m) h hx]; exact Classical.byContradiction (fun z => n z))]
  · have e1 : f_X1_bundleOf I R b e x = g_X1_bundleOf_18 R b e x x 0 I := by
      unfold f_X1_bundleOf
      rw [if_neg (by rw [ce_fit (m := m) h hx]; exact f)]
    rw [e1]
    rcases bo18 h hx x 0 (Nat.zero_add x) with ⟨a, h1, h2, h3, h4, h5⟩ | ⟨h1, h2⟩
    · exact Or.inl ⟨a, h2, h3, h4, h5⟩
    · exact Or.inr ⟨h1, fun a ha => h2 a (Nat.zero_le a) ha⟩
/-! loop 1 -/
def FB (S : MM) (b e : Nat) (I0 I : Mm) : Prop := (∀ z, (∀ i, i < 8 → z ≠ Pt (sR S) b e i) → z ≠ En (sR S) b e → I z = I0 z) ∧ (∀ i, i < 8 → ∀ k, k ≠ 10 → k ≠ 11 → I (Pt (sR S) b e i) k = I0 (Pt (sR S) b e i) k) ∧ ∀ k, k ≠ 8 → I (En (sR S) b e) k = I0 (En (sR S) b e) k
theorem FB.rf {S : MM} {b e : Nat} {I : Mm} : FB S b e I I := ⟨fun _ _ _ => rfl, fun _ _ _ _ _ => rfl, fun _ _ => rfl⟩
theorem FB.p {S : MM} {b e i k : Nat} {v : Int32} {I0 I : Mm} (hL : LY S b) (hO : OC S) (he : e < 2) (hi : i < 8) (hk : k = 10 ∨ k = 11) (h : FB S b e I0 I) : FB S b e I0 (up2 I (Pt (sR S) b e i) k v) := by
  refine ⟨fun z h1 h2 => ?_, fun j hj l h1 h2 => ?_, fun l hl => ?_⟩
  · rw [up2_row (h1 i hi)]; exact h.1 z h1 h2
  · rw [up2_ne (fun z => by rcases hk with q | q <;> omega)]; exact h.2.1 j hj l h1 h2
  · rw [up2_ne (fun z => absurd z.1 (ne_k (ly_E hL he).2.1 (ly_P hL he hi).2.1 (by decide)))]; exact h.2.2 l hl
theorem FB.n {S : MM} {b e : Nat} {v : Int32} {I0 I : Mm} (hL : LY S b) (he : e < 2) (h : FB S b e I0 I) : FB S b e I0 (up2 I (En (sR S) b e) 8 v) := by
  refine ⟨fun z h1 h2 => ?_, fun j hj l h1 h2 => ?_, fun l hl => ?_⟩
  · rw [up2_row h2]; exact h.1 z h1 h2
  · rw [up2_ne (fun z => absurd z.1 (ne_k (ly_P hL he hj).2.1 (ly_E hL he).2.1 (by decide)))]; exact h.2.1 j hj l h1 h2
  · rw [up2_ne (fun z => hl z.2)]; exact h.2.2 l hl
theorem CE_FB {S : MM} {b e : Nat} {I0 I J : Mm} {A : Nat → Nat} (hL : LY S b) (he : e < 2) (h : CE (sR S) b e I0 J A) (f : FB S b e I0 I) : CE (sR S) b e I J A := fun i hi => by
  have eo : I (Ow (sR S) b e i) = I0 (Ow (sR S) b e i) := f.1 _ (fun j hj => ne_k (ly_O hL he hi).2.1 (ly_P hL he hj).2.1 (by decide)) (ne_k (ly_O hL he hi).2.1 (ly_E hL he).2.1 (by decide))
  have eq : I (Pa (sR S) b e i) = I0 (Pa (sR S) b e i) := f.1 _ (fun j hj => ne_k (ly_Q hL he hi).2.1 (ly_P hL he hj).2.1 (by decide)) (ne_k (ly_Q hL he hi).2.1 (ly_E hL he).2.1 (by decide))
  rw [eo, eq, f.2.1 i hi 3 (by decide) (by decide)]
  exact h i hi
theorem fb1 {S : MM} {b e m : Nat} {v w1 : Int32} {I0 J : Mm} {A : Nat → Nat} (hL : LY S b) (hO : OC S) (he : e < 2) (h0 : CE (sR S) b e I0 J A) : ∀ r i I, i + r = 8 → FB S b e I0 I → (∀ j, j < i → Lst (FM J m A e) (KM J A e) j (I (Pt (sR S) b e j) 10)) → ∃ I1, g_X1_formBundles_2 (sR S) b e v r i I w1 = g_X1_formBundles_63 (sR S) b e v 8 0 I1 w1 ∧ FB S b e I0 I1 ∧ ∀ j, j < 8 → Lst (FM J m A e) (KM J A e) j (I1 (Pt (sR S) b e j) 10) := by
  intro r
  induction r with
  | zero =>
    intro i I hi f hB
    exact ⟨I, rfl, f, fun j hj => hB j (by omega)⟩
  | succ r ih =>
    intro i I hi f hB
    have hi8 : i < 8 := by omega
    have L := bo_L (m := m) (CE_FB hL he h0 f) hi8 hB
    have go : ∀ I2 : Mm, FB S b e I0 I2 → (∀ j, j < i → I2 (Pt (sR S) b e j) 10 = I (Pt (sR S) b e j) 10) → (∀ j, j < i + 1 → Lst (FM J m A e) (KM J A e) j (up2 I2 (Pt (sR S) b e i) 10 (f_X1_bundleOf I (sR S) b e i) (Pt (sR S) b e j) 10)) := fun I2 _ e2 j hj => by
      by_cases q : j = i
      · subst q; rw [up2_self]; exact L
      · rw [up2_ne (fun z => q (i_Pt hL hO he he (by omega) hi8 z.1).2), e2 j (by omega)]
        exact hB j (by omega)
    rw [g_X1_formBundles_2]
    dsimp only
    have nE : ∀ j, j < 8 → Pt (sR S) b e j ≠ En (sR S) b e := fun j hj => ne_k (ly_P hL he hj).2.1 (ly_E hL he).2.1 (by decide)
    split
    · split
      · exact ih (i + 1) _ (by omega) (FB.p hL hO he hi8 (Or.inl rfl) f) (go I f (fun _ _ => rfl))
      · exact ih (i + 1) _ (by omega) (FB.p hL hO he hi8 (Or.inl rfl) (FB.n hL he f)) (go _ (FB.n hL he f) (fun j hj => by rw [up2_row (nE j (by omega))]))
    · exact ih (i + 1) _ (by omega) (FB.p hL hO he hi8 (Or.inl rfl) f) (go I f (fun _ _ => rfl))
/-! how many are ahead -/
theorem cnt_e {R : Nat → Nat → Option Nat} {b e x m : Nat} {I J : Mm} {A : Nat → Nat} {v w2 : Int32} (h : CE R b e I J A) (hv : (w2 = 0) ↔ ¬ e = f_X8_stronger J m A) (hx : x < 8) (hB : ∀ j, j < 8 → Lst (FM J m A e) (KM J A e) j (I (Pt R b e j) 10)) (f : FM J m A e x) : ∀ r j w3 w, j + r = 8 → g_X1_countAhead_5 R b e x v r j I w2 w = (g_X8_chooses_27 m A e r (8 * e + j) (8 * e + x) J w3 w).2.2 := by
  have n1 : ¬ I (Pt R b e x) 10 = -1 := fun z => by
    obtain ⟨a, ha, ea, _⟩ := (hB x hx).2 f
    exact nI_m8 a ha (ea.symm.trans z)
  have z0 : ∀ w : Int32, w + nI 0 = w := fun w => Int32.add_zero w
  intro r
  induction r with
  | zero => intro j w3 w hj; rfl
  | succ r ih =>
    intro j w3 w hj
    have hj8 : j < 8 := by omega
    have ss := Lst_same (B := fun j => I (Pt R b e j) 10) KM_s KM_t (hB x hx) (hB j hj8) n1
    have ah := ce_ahead (m := m) h hv hj8 hx
    rw [g_X1_countAhead_5, g_X8_chooses_27, if_neg f]
    by_cases c1 : I (Pt R b e j) 10 = I (Pt R b e x) 10
    · obtain ⟨fj, kj⟩ := ss.mp c1
      have lk : ¬ f_X8_areLike J m A (8 * e + x) (8 * e + j) = 0 := by rw [f_like]; exact fun z => z kj
      rw [if_pos c1, if_neg fj, if_neg lk]
      by_cases q : j = x
      · subst q
        have a0 := ah_irr (J := J) (m := m) (e := e) (A := A) hj8
        rw [if_pos (by rw [ah]; exact a0)]
        have q1 : 8 * e + j = 8 * e + j := rfl
        split <;> first | (rw [if_pos q1, z0]; exact ih (j + 1) _ w (by omega)) | (rw [z0]; exact ih (j + 1) _ w (by omega))
      · have q1 : ¬ 8 * e + j = 8 * e + x := by omega
        by_cases c2 : f_X8_isAhead J m A (8 * e + j) (8 * e + x) = 0
        · rw [if_pos (by rw [ah]; exact c2)]
          split <;> first | (rw [if_neg q1, if_pos c2, z0]; exact ih (j + 1) _ w (by omega)) | (rw [if_pos c2, z0]; exact ih (j + 1) _ w (by omega)) | (rw [z0]; exact ih (j + 1) _ w (by omega))
        · rw [if_neg (by rw [ah]; exact c2)]
          split <;> first | (rw [if_neg q1, if_neg c2]; exact ih (j + 1) _ (w + nI 1) (by omega)) | (rw [if_neg c2]; exact ih (j + 1) _ (w + nI 1) (by omega)) | exact ih (j + 1) _ (w + nI 1) (by omega)
    · rw [if_neg c1]
      have nn : ¬ (FM J m A e j ∧ KM J A e x j) := fun z => c1 (ss.mpr z)
      by_cases f1 : f_X8_fits J m A (8 * e + j) = 0
      · rw [if_pos f1]
        exact ih (j + 1) w3 w (by omega)
      · have lk : f_X8_areLike J m A (8 * e + x) (8 * e + j) = 0 := by rw [f_like]; exact fun z => nn ⟨f1, z⟩
        rw [if_neg f1, if_pos lk]
        exact ih (j + 1) w3 w (by omega)
