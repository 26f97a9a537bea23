/-! SIMULATION 8: fits, like, ahead: the same of class and reference -/
def fitV (v k s p q : Int32) : Bool := (decide (v = nI 1) || decide (v = nI 2)) && !(decide (k ≤ 0)) && !(decide (s ≤ 0)) && !(decide (p ≤ 0)) && !(decide (q &&& nI 4 = 0))
theorem r_fit {rp ro rq : Nat → Int32} : (r_X5_fits rp ro rq = 0) = (fitV (rp 3) (ro 1) (rq 0) (rq 1) (rq 4) = false) := by
  unfold r_X5_fits fitV
  simp only [r_has]
  by_cases e1 : rp 3 = nI 1 <;> by_cases e2 : rp 3 = nI 2 <;> by_cases e3 : ro 1 ≤ 0 <;> by_cases e4 : rq 0 ≤ 0 <;> by_cases e5 : rq 1 ≤ 0 <;> by_cases e6 : rq 4 &&& nI 4 = 0 <;> simp [e1, e2, e3, e4, e5, e6, show ¬ nI 1 = 0 by decide, show nI 0 = 0 by decide, show ¬ nI 1 = nI 2 by decide, show ¬ nI 2 = nI 1 by decide]
theorem f_fit {J : Mm} {m x : Nat} {A : Nat → Nat} : (f_X8_fits J m A x = 0) = (fitV (J (A 7) x) (J (A 3) x) (J (A 18) (5 * x)) (J (A 18) (5 * x + 1)) (J (A 18) (5 * x + 4)) = false) := by
  unfold f_X8_fits fitV
  simp only [f_ptn]
  by_cases e1 : J (A 7) x = nI 1 <;> by_cases e2 : J (A 7) x = nI 2 <;> by_cases e3 : J (A 3) x ≤ 0 <;> by_cases e4 : J (A 18) (5 * x) ≤ 0 <;> by_cases e5 : J (A 18) (5 * x + 1) ≤ 0 <;> by_cases e6 : J (A 18) (5 * x + 4) &&& nI 4 = 0 <;> simp [e1, e2, e3, e4, e5, e6, show ¬ nI 1 = 0 by decide, show nI 0 = 0 by decide, show ¬ nI 1 = nI 2 by decide, show ¬ nI 2 = nI 1 by decide]
theorem r_like {rp ro rq rb rbo rbq : Nat → Int32} : (r_X5_isLike rp ro rq rb rbo rbq = 0) = ¬ (ro 1 = rbo 1 ∧ rq 0 = rbq 0 ∧ rq 1 = rbq 1) := by
  unfold r_X5_isLike
  by_cases e0 : ro 1 = rbo 1 <;> by_cases e1 : rq 0 = rbq 0 <;> by_cases e2 : rq 1 = rbq 1 <;> simp [e0, e1, e2, show ¬ nI 1 = 0 by decide, show nI 0 = 0 by decide]
theorem f_like {J : Mm} {m x y : Nat} {A : Nat → Nat} : (f_X8_areLike J m A x y = 0) = ¬ (J (A 3) x = J (A 3) y ∧ J (A 18) (5 * x) = J (A 18) (5 * y) ∧ J (A 18) (5 * x + 1) = J (A 18) (5 * y + 1)) := by
  unfold f_X8_areLike
  by_cases e0 : J (A 3) x = J (A 3) y <;> by_cases e1 : J (A 18) (5 * x) = J (A 18) (5 * y) <;> by_cases e2 : J (A 18) (5 * x + 1) = J (A 18) (5 * y + 1) <;> simp [e0, e1, e2, show ¬ nI 1 = 0 by decide, show nI 0 = 0 by decide]
def ahO (a1 a2 : Int32) (i j : Nat) : Bool := if a1 = a2 then decide (i < j) else !(decide (a2 ≤ a1))
def ahP (a1 a2 b1 b2 : Int32) (i j : Nat) : Bool := if a1 = a2 then (if b1 = b2 then decide (i < j) else !(decide (b2 ≤ b1))) else !(decide (a2 ≤ a1))
theorem nI_le8a : ∀ i, i < 8 → ∀ j, j < 8 → ((nI j ≤ nI i) ↔ j ≤ i) := by decide +kernel
theorem nI_le8 (i j : Nat) (hi : i < 8) (hj : j < 8) : ((nI j ≤ nI i) ↔ j ≤ i) := nI_le8a i hi j hj
theorem r_ahO {rp ro rq rb rbo rbq : Nat → Int32} {v : Int32} {i j : Nat} (hv : ¬ v = 0) (hi : i < 8) (hj : j < 8) (e : ro 3 = nI i) (e' : rbo 3 = nI j) : (r_X5_isAheadOf rp ro rq rb rbo rbq v = 0) = (ahO (ro 2) (rbo 2) i j = false) := by
  unfold r_X5_isAheadOf ahO
  rw [e, e']
  have l : (nI j ≤ nI i) = (j ≤ i) := propext (nI_le8 i j hi hj)
  simp only [hv, if_false, l]
  by_cases c1 : ro 2 = rbo 2 <;> by_cases c2 : j ≤ i <;> by_cases c3 : rbo 2 ≤ ro 2 <;> by_cases c4 : nI i = nI j <;> simp [c1, c2, c3, c4, show ¬ nI 1 = 0 by decide, show nI 0 = 0 by decide] <;> omega
theorem r_ahP {rp ro rq rb rbo rbq : Nat → Int32} {i j : Nat} (hi : i < 8) (hj : j < 8) (e : ro 3 = nI i) (e' : rbo 3 = nI j) {v : Int32} (hv : v = 0) : (r_X5_isAheadOf rp ro rq rb rbo rbq v = 0) = (ahP (rq 2) (rbq 2) (rq 3) (rbq 3) i j = false) := by
  unfold r_X5_isAheadOf ahP
  rw [e, e']
  have l : (nI j ≤ nI i) = (j ≤ i) := propext (nI_le8 i j hi hj)
  simp only [hv, if_true, l]
  by_cases c1 : rq 2 = rbq 2 <;> by_cases c2 : j ≤ i <;> by_cases c3 : rbq 2 ≤ rq 2 <;> by_cases c4 : rq 3 = rbq 3 <;> by_cases c5 : rbq 3 ≤ rq 3 <;> simp [c1, c2, c3, c4, c5, show ¬ nI 1 = 0 by decide, show nI 0 = 0 by decide] <;> omega
theorem f_ahO {J : Mm} {m e i j : Nat} {A : Nat → Nat} (he : e = f_X8_stronger J m A) (hi : i < 8) (hj : j < 8) : (f_X8_isAhead J m A (8 * e + i) (8 * e + j) = 0) = (ahO (J (A 4) (8 * e + i)) (J (A 4) (8 * e + j)) i j = false) := by
  unfold f_X8_isAhead ahO
  rw [if_pos (show (8 * e + i) / 8 = f_X8_stronger J m A by rw [← he]; omega)]
  by_cases c1 : J (A 4) (8 * e + i) = J (A 4) (8 * e + j) <;> by_cases c2 : j ≤ i <;> by_cases c3 : J (A 4) (8 * e + j) ≤ J (A 4) (8 * e + i) <;> by_cases c4 : i = j <;> simp [c1, c2, c3, c4, show ¬ nI 1 = 0 by decide, show nI 0 = 0 by decide] <;> omega
theorem f_ahP {J : Mm} {m e i j : Nat} {A : Nat → Nat} (he : ¬ e = f_X8_stronger J m A) (hi : i < 8) (hj : j < 8) : (f_X8_isAhead J m A (8 * e + i) (8 * e + j) = 0) = (ahP (J (A 18) (5 * (8 * e + i) + 2)) (J (A 18) (5 * (8 * e + j) + 2)) (J (A 18) (5 * (8 * e + i) + 3)) (J (A 18) (5 * (8 * e + j) + 3)) i j = false) := by
  unfold f_X8_isAhead ahP
  rw [if_neg (show ¬ (8 * e + i) / 8 = f_X8_stronger J m A by rw [show (8 * e + i) / 8 = e by omega]; exact he)]
  generalize J (A 18) (5 * (8 * e + i) + 2) = a1
  generalize J (A 18) (5 * (8 * e + j) + 2) = a2
  generalize J (A 18) (5 * (8 * e + i) + 3) = b1
  generalize J (A 18) (5 * (8 * e + j) + 3) = b2
  by_cases c1 : a1 = a2 <;> by_cases c2 : j ≤ i <;> by_cases c3 : a2 ≤ a1 <;> by_cases c4 : b1 = b2 <;> by_cases c5 : b2 ≤ b1 <;> simp [c1, c2, c3, c4, c5, show ¬ nI 1 = 0 by decide, show nI 0 = 0 by decide] <;> omega
/-! the least port that fits and is like this one -/
def Lst (F : Nat → Prop) (K : Nat → Nat → Prop) (i : Nat) (v : Int32) : Prop := (¬ F i → v = -1) ∧ (F i → ∃ j, j < 8 ∧ v = nI j ∧ F j ∧ K i j ∧ ∀ k, k < j → ¬ (F k ∧ K i k))
theorem Lst_u {F : Nat → Prop} {K : Nat → Nat → Prop} {i : Nat} {v w : Int32} (h : Lst F K i v) (g : Lst F K i w) : v = w := by
  by_cases f : F i
  · obtain ⟨j, _, e, fj, kj, mj⟩ := h.2 f
    obtain ⟨j', _, e', fj', kj', mj'⟩ := g.2 f
    have : j = j' := by
      rcases Nat.lt_trichotomy j j' with q | q | q
      · exact absurd ⟨fj, kj⟩ (mj' j q)
      · exact q
      · exact absurd ⟨fj', kj'⟩ (mj j' q)
    rw [e, e', this]
  · rw [h.1 f, g.1 f]
theorem nI_i8a : ∀ i, i < 8 → ∀ j, j < 8 → nI i = nI j → i = j := by decide +kernel
theorem nI_i8 (i j : Nat) (hi : i < 8) (hj : j < 8) (h : nI i = nI j) : i = j := nI_i8a i hi j hj h
theorem nI_m8 : ∀ i, i < 8 → ¬ nI i = -1 := by decide +kernel
theorem Lst_b {F : Nat → Prop} {K : Nat → Nat → Prop} (kr : ∀ i, K i i) (ks : ∀ i j, K i j → K j i) (kt : ∀ i j k, K i j → K j k → K i k) {B : Nat → Int32} {i : Nat} (hi : i < 8) (hB : ∀ j, j < i → Lst F K j (B j)) {v : Int32} (h0 : ¬ F i → v = -1) (h1 : F i → (∃ j, j < i ∧ v = nI j ∧ B j = nI j ∧ K j i) ∨ (v = nI i ∧ ∀ j, j < i → ¬ (B j = nI j ∧ K j i))) : Lst F K i v := by
  refine ⟨h0, fun f => ?_⟩
  rcases h1 f with ⟨j, hj, e, bj, kj⟩ | ⟨e, n⟩
  · have L := hB j hj
    have fj : F j := Classical.byContradiction (fun z => nI_m8 j (by omega) (bj.symm.trans (L.1 z)))
    obtain ⟨j', hj', e', fj', kj', mj'⟩ := L.2 fj
    have : j' = j := nI_i8 j' j hj' (by omega) (e'.symm.trans bj)
    subst this
    exact ⟨j', hj', e, fj, ks _ _ kj, fun k hk z => mj' k hk ⟨z.1, kt _ _ _ kj z.2⟩⟩
  · refine ⟨i, hi, e, f, kr i, fun k hk z => ?_⟩
    obtain ⟨j, hj, ej, fj, kj, mj⟩ := (hB k hk).2 z.1
    have jk : j ≤ k := Nat.le_of_not_lt (fun q => mj k q ⟨z.1, kr k⟩)
    have L : Lst F K j (nI j) := ⟨fun q => absurd fj q, fun _ => ⟨j, hj, rfl, fj, kr j, fun l hl y => mj l hl ⟨y.1, kt _ _ _ kj y.2⟩⟩⟩
    exact n j (by omega) ⟨Lst_u (hB j (by omega)) L, ks _ _ (kt _ _ _ z.2 kj)⟩
theorem Lst_same {F : Nat → Prop} {K : Nat → Nat → Prop} (ks : ∀ i j, K i j → K j i) (kt : ∀ i j k, K i j → K j k → K i k) {B : Nat → Int32} {i j : Nat} (hi : Lst F K i (B i)) (hj : Lst F K j (B j)) (n : ¬ B i = -1) : (B j = B i) ↔ (F j ∧ K i j) := by
  have fi : F i := Classical.byContradiction (fun z => n (hi.1 z))
  obtain ⟨a, ha, ea, fa, ka, ma⟩ := hi.2 fi
  refine ⟨fun z => ?_, fun z => ?_⟩
  · have fj : F j := Classical.byContradiction (fun y => n (z.symm.trans (hj.1 y)))
    obtain ⟨c, hc, ec, fc, kc, mc⟩ := hj.2 fj
    have : c = a := nI_i8 c a hc ha (by rw [← ec, ← ea, z])
    subst this
    exact ⟨fj, kt _ _ _ ka (ks _ _ kc)⟩
  · obtain ⟨c, hc, ec, fc, kc, mc⟩ := hj.2 z.1
    have : c = a := by
      rcases Nat.lt_trichotomy c a with q | q | q
      · exact absurd ⟨fc, kt _ _ _ z.2 kc⟩ (ma c q)
      · exact q
      · exact absurd ⟨fa, kt _ _ _ (ks _ _ z.2) ka⟩ (mc a q)
    rw [ea, ec, this]
/-! the reference's choice -/
abbrev FM (J : Mm) (m : Nat) (A : Nat → Nat) (e : Nat) (i : Nat) : Prop := ¬ f_X8_fits J m A (8 * e + i) = 0
abbrev KM (J : Mm) (A : Nat → Nat) (e : Nat) (i j : Nat) : Prop := J (A 3) (8 * e + i) = J (A 3) (8 * e + j) ∧ J (A 18) (5 * (8 * e + i)) = J (A 18) (5 * (8 * e + j)) ∧ J (A 18) (5 * (8 * e + i) + 1) = J (A 18) (5 * (8 * e + j) + 1)
theorem g27_no {J : Mm} {m e i r y : Nat} {A : Nat → Nat} {w3 w4 : Int32} (h : ¬ FM J m A e i) : g_X8_chooses_27 m A e r y (8 * e + i) J w3 w4 = (J, w3, w4) := by
  cases r with
  | zero => rfl
  | succ r =>
    rw [g_X8_chooses_27, if_pos (Classical.byContradiction (fun z => h z))]
theorem g27_1 {J : Mm} {m e i : Nat} {A : Nat → Nat} : ∀ r y w3 w4, (g_X8_chooses_27 m A e r y (8 * e + i) J w3 w4).1 = J := by
  intro r
  induction r with
  | zero => intro y w3 w4; rfl
  | succ r ih =>
    intro y w3 w4
    rw [g_X8_chooses_27]
    repeat' split
    all_goals first | rfl | exact ih _ _ _
theorem g27_2 {J : Mm} {m e i : Nat} {A : Nat → Nat} (f : FM J m A e i) (_he : e < 2) : ∀ r j w3 w4, j + r = 8 → (¬ w3 = -1 → (g_X8_chooses_27 m A e r (8 * e + j) (8 * e + i) J w3 w4).2.1 = w3) ∧ (w3 = -1 → (∃ a, j ≤ a ∧ a < 8 ∧ (g_X8_chooses_27 m A e r (8 * e + j) (8 * e + i) J w3 w4).2.1 = nI a ∧ FM J m A e a ∧ KM J A e i a ∧ ∀ k, j ≤ k → k < a → ¬ (FM J m A e k ∧ KM J A e i k)) ∨ ((g_X8_chooses_27 m A e r (8 * e + j) (8 * e + i) J w3 w4).2.1 = -1 ∧ ∀ k, j ≤ k → k < 8 → ¬ (FM J m A e k ∧ KM J A e i k))) := by
  intro r
  induction r with
  | zero => intro j w3 w4 hj; exact ⟨fun _ => rfl, fun z => Or.inr ⟨z, fun k h1 h2 => absurd h1 (by omega)⟩⟩
  | succ r ih =>
    intro j w3 w4 hj
    rw [g_X8_chooses_27, if_neg f]
    have nx : ∀ w3 w4, ¬ (FM J m A e j ∧ KM J A e i j) → ((¬ w3 = -1 → (g_X8_chooses_27 m A e r (8 * e + j + 1) (8 * e + i) J w3 w4).2.1 = w3) ∧ (w3 = -1 → (∃ a, j ≤ a ∧ a < 8 ∧ (g_X8_chooses_27 m A e r (8 * e + j + 1) (8 * e + i) J w3 w4).2.1 = nI a ∧ FM J m A e a ∧ KM J A e i a ∧ ∀ k, j ≤ k → k < a → ¬ (FM J m A e k ∧ KM J A e i k)) ∨ ((g_X8_chooses_27 m A e r (8 * e + j + 1) (8 * e + i) J w3 w4).2.1 = -1 ∧ ∀ k, j ≤ k → k < 8 → ¬ (FM J m A e k ∧ KM J A e i k)))) := fun w3 w4 nn => by
      have I := ih (j + 1) w3 w4 (by omega)
      refine ⟨I.1, fun z => ?_⟩
      rcases I.2 z with ⟨a, h1, h2, h3, h4, h5, h6⟩ | ⟨h1, h2⟩
      · exact Or.inl ⟨a, by omega, h2, h3, h4, h5, fun k k1 k2 => by
          by_cases q : k = j
          · subst q; exact nn
          · exact h6 k (by omega) k2⟩
      · exact Or.inr ⟨h1, fun k k1 k2 => by
          by_cases q : k = j
          · subst q; exact nn
          · exact h2 k (by omega) k2⟩
    by_cases f1 : f_X8_fits J m A (8 * e + j) = 0
    · rw [if_pos f1]
      exact nx w3 w4 (fun z => z.1 f1)
    · rw [if_neg f1]
      by_cases l1 : f_X8_areLike J m A (8 * e + i) (8 * e + j) = 0
      · rw [if_pos l1]
        rw [f_like] at l1
        exact nx w3 w4 (fun z => l1 z.2)
      · rw [if_neg l1]
        rw [f_like] at l1
        have K : KM J A e i j := Classical.byContradiction l1
        have m8 : (8 * e + j) % 8 = j := by omega
        by_cases w : w3 = -1
        · rw [if_pos w, m8]
          have nn : ¬ nI j = -1 := nI_m8 j (by omega)
          have fin : ∀ w4, (g_X8_chooses_27 m A e r (8 * e + j + 1) (8 * e + i) J (nI j) w4).2.1 = nI j := fun w4 => (ih (j + 1) (nI j) w4 (by omega)).1 nn
          refine ⟨fun z => absurd w z, fun _ => Or.inl ⟨j, Nat.le_refl j, by omega, ?_, f1, K, fun k k1 k2 => absurd k1 (by omega)⟩⟩
          repeat' split
          all_goals exact fin _
        · rw [if_neg w]
          refine ⟨fun _ => ?_, fun z => absurd z w⟩
          repeat' split
          all_goals exact (ih (j + 1) w3 _ (by omega)).1 w
theorem g27_L {J : Mm} {m e i : Nat} {A : Nat → Nat} (he : e < 2) (hi : i < 8) : Lst (FM J m A e) (KM J A e) i (g_X8_chooses_27 m A e 8 (8 * e) (8 * e + i) J (-1) (nI 0)).2.1 := by
  refine ⟨fun n => by rw [g27_no n], fun f => ?_⟩
  rcases (g27_2 f he 8 0 (-1) (nI 0) rfl).2 rfl with ⟨a, h1, h2, h3, h4, h5, h6⟩ | ⟨h1, h2⟩
  · exact ⟨a, h2, h3, h4, h5, fun k hk => h6 k (Nat.zero_le k) hk⟩
  · exact absurd ⟨f, rfl, rfl, rfl⟩ (h2 i (Nat.zero_le i) hi)
