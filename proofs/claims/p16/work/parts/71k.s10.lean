/-! SIMULATION 10: bundles and chosen ports, both sides -/
def MC (m : Nat) (A : Nat → Nat) (J J' : Mm) : Prop := (∀ k j, dm k → k ≠ 12 → k ≠ 13 → k ≠ 40 → J' (A k) j = J (A k) j) ∧ ∀ j, J' m j = J m j
theorem MC.rf {m : Nat} {A : Nat → Nat} {J : Mm} : MC m A J J := ⟨fun _ _ _ _ _ _ => rfl, fun _ => rfl⟩
theorem MC.tr {m : Nat} {A : Nat → Nat} {J J1 J2 : Mm} (h : MC m A J J1) (g : MC m A J1 J2) : MC m A J J2 := ⟨fun k j a c d e => (g.1 k j a c d e).trans (h.1 k j a c d e), fun j => (g.2 j).trans (h.2 j)⟩
theorem MC.w {m : Nat} {A : Nat → Nat} {J J1 : Mm} {k j : Nat} {v : Int32} (hA : AD m A) (hk : k = 12 ∨ k = 13 ∨ k = 40) (h : MC m A J J1) : MC m A J (up2 J1 (A k) j v) := by
  have dk : dm k := by rcases hk with rfl | rfl | rfl <;> decide
  refine ⟨fun k' j' a c d e => ?_, fun i => ?_⟩
  · rw [up2_ne (fun z => by have q := hA.1 k' k a dk z.1; omega)]; exact h.1 k' j' a c d e
  · rw [up2_ne (fun z => hA.2 k dk z.1.symm)]; exact h.2 i
theorem fit_c {m x : Nat} {A : Nat → Nat} {J J' : Mm} (h : MC m A J J') : f_X8_fits J' m A x = f_X8_fits J m A x := by
  unfold f_X8_fits f_X8_isPartner
  rw [h.1 7 x (by decide) (by decide) (by decide) (by decide), h.1 3 x (by decide) (by decide) (by decide) (by decide), h.1 18 (5 * x) (by decide) (by decide) (by decide) (by decide), h.1 18 (5 * x + 1) (by decide) (by decide) (by decide) (by decide), h.1 18 (5 * x + 4) (by decide) (by decide) (by decide) (by decide)]
theorem like_c {m x y : Nat} {A : Nat → Nat} {J J' : Mm} (h : MC m A J J') : f_X8_areLike J' m A x y = f_X8_areLike J m A x y := by
  unfold f_X8_areLike
  rw [h.1 3 x (by decide) (by decide) (by decide) (by decide), h.1 3 y (by decide) (by decide) (by decide) (by decide), h.1 18 (5 * x) (by decide) (by decide) (by decide) (by decide), h.1 18 (5 * y) (by decide) (by decide) (by decide) (by decide), h.1 18 (5 * x + 1) (by decide) (by decide) (by decide) (by decide), h.1 18 (5 * y + 1) (by decide) (by decide) (by decide) (by decide)]
theorem str_c {m : Nat} {A : Nat → Nat} {J J' : Mm} (h : MC m A J J') : f_X8_stronger J' m A = f_X8_stronger J m A := by
  unfold f_X8_stronger
  rw [h.1 1 0 (by decide) (by decide) (by decide) (by decide), h.1 1 1 (by decide) (by decide) (by decide) (by decide)]
theorem ahead_c {m x y : Nat} {A : Nat → Nat} {J J' : Mm} (h : MC m A J J') : f_X8_isAhead J' m A x y = f_X8_isAhead J m A x y := by
  unfold f_X8_isAhead
  rw [str_c h]
  rw [h.1 4 x (by decide) (by decide) (by decide) (by decide), h.1 4 y (by decide) (by decide) (by decide) (by decide), h.1 18 (5 * x + 2) (by decide) (by decide) (by decide) (by decide), h.1 18 (5 * y + 2) (by decide) (by decide) (by decide) (by decide), h.1 18 (5 * x + 3) (by decide) (by decide) (by decide) (by decide), h.1 18 (5 * y + 3) (by decide) (by decide) (by decide) (by decide)]
theorem g27_c {m e x : Nat} {A : Nat → Nat} {J J' : Mm} (h : MC m A J J') : ∀ r y w3 w4, (g_X8_chooses_27 m A e r y x J' w3 w4).2 = (g_X8_chooses_27 m A e r y x J w3 w4).2 := by
  intro r
  induction r with
  | zero => intro y w3 w4; rfl
  | succ r ih =>
    intro y w3 w4
    rw [g_X8_chooses_27, g_X8_chooses_27, fit_c h, fit_c h, like_c h, ahead_c h]
    repeat' split
    all_goals first | rfl | exact ih _ _ _
def lvm (J : Mm) (m : Nat) (A : Nat → Nat) (e j : Nat) : Int32 := (g_X8_chooses_27 m A e 8 (8 * e) (8 * e + j) J (-1) (nI 0)).2.1
def cvm (J : Mm) (m : Nat) (A : Nat → Nat) (e j : Nat) : Int32 := if lvm J m A e j = -1 then nI 0 else (if J (A 2) e ≤ (g_X8_chooses_27 m A e 8 (8 * e) (8 * e + j) J (-1) (nI 0)).2.2 then nI 0 else nI 1)
theorem ch5_s {m e i r : Nat} {A : Nat → Nat} {J J' : Mm} (hA : AD m A) (h : MC m A J J') : ∃ J1, (J1 = J' ∨ ∃ v, J1 = up2 J' (A 40) e v) ∧ g_X8_chooses_5 m A e (r + 1) (8 * e + i) J' = g_X8_chooses_5 m A e r (8 * e + i + 1) (up2 (up2 J1 (A 12) (8 * e + i) (lvm J m A e i)) (A 13) (8 * e + i) (cvm J m A e i)) := by
  rw [g_X8_chooses_5]
  simp only [g27_1]
  have c := g27_c (e := e) (x := 8 * e + i) h 8 (8 * e) (-1) (nI 0)
  rw [c]
  have rd : ∀ (K : Mm) (v : Int32), up2 K (A 12) (8 * e + i) v (A 2) e = K (A 2) e := fun K v => mu_o hA (by decide) (by decide) (by decide)
  have rd4 : ∀ (K : Mm) (v : Int32), up2 K (A 40) e v (A 2) e = K (A 2) e := fun K v => mu_o hA (by decide) (by decide) (by decide)
  have r2 : J' (A 2) e = J (A 2) e := h.1 2 e (by decide) (by decide) (by decide) (by decide)
  simp only [rd, rd4, r2]
  unfold cvm lvm
  generalize (g_X8_chooses_27 m A e 8 (8 * e) (8 * e + i) J (-1) (nI 0)).2 = z
  rcases Classical.propComplete (J' (A 9) (8 * e + i) = nI 4) with c1 | c1 <;> rcases Classical.propComplete (z.1 = J' (A 12) (8 * e + i)) with c2 | c2 <;> rcases Classical.propComplete (z.1 = -1) with c3 | c3 <;> rcases Classical.propComplete (J (A 2) e ≤ z.2) with c4 | c4 <;> simp only [c1, c2, c3, c4, if_true, if_false] <;> first | exact ⟨J', Or.inl rfl, rfl⟩ | exact ⟨_, Or.inr ⟨_, rfl⟩, rfl⟩
theorem ch5 {m e : Nat} {A : Nat → Nat} {J : Mm} (hA : AD m A) : ∀ r i J', i + r = 8 → MC m A J J' → MC m A J (g_X8_chooses_5 m A e r (8 * e + i) J') ∧ (∀ y, y < 8 * e + i ∨ 8 * e + 8 ≤ y → (g_X8_chooses_5 m A e r (8 * e + i) J') (A 12) y = J' (A 12) y ∧ (g_X8_chooses_5 m A e r (8 * e + i) J') (A 13) y = J' (A 13) y) ∧ ∀ j, i ≤ j → j < 8 → (g_X8_chooses_5 m A e r (8 * e + i) J') (A 12) (8 * e + j) = lvm J m A e j ∧ (g_X8_chooses_5 m A e r (8 * e + i) J') (A 13) (8 * e + j) = cvm J m A e j := by
  intro r
  induction r with
  | zero => intro i J' hi h; exact ⟨h, fun _ _ => ⟨rfl, rfl⟩, fun j h1 h2 => absurd h1 (by omega)⟩
  | succ r ih =>
    intro i J' hi h
    obtain ⟨J1, h1, h2⟩ := ch5_s (e := e) (i := i) (r := r) hA h
    have m1 : MC m A J J1 := by
      rcases h1 with rfl | ⟨v, rfl⟩
      · exact h
      · exact h.w hA (Or.inr (Or.inr rfl))
    have k1 : ∀ y, J1 (A 12) y = J' (A 12) y ∧ J1 (A 13) y = J' (A 13) y := fun y => by
      rcases h1 with rfl | ⟨v, rfl⟩
      · exact ⟨rfl, rfl⟩
      · exact ⟨mu_o hA (by decide) (by decide) (by decide), mu_o hA (by decide) (by decide) (by decide)⟩
    obtain ⟨a1, a2, a3⟩ := ih (i + 1) _ (by omega) ((m1.w hA (Or.inl rfl) (j := 8 * e + i) (v := lvm J m A e i)).w hA (Or.inr (Or.inl rfl)) (j := 8 * e + i) (v := cvm J m A e i))
    rw [← Nat.add_assoc] at a1 a2 a3
    rw [← h2] at a1 a2 a3
    refine ⟨a1, fun y hy => ?_, fun j j1 j2 => ?_⟩
    · obtain ⟨b1, b2⟩ := a2 y (by omega)
      rw [b1, b2, mu_o hA (by decide) (by decide) (by decide), mu_j (by omega), mu_j (by omega), mu_o hA (by decide) (by decide) (by decide)]
      exact k1 y
    · by_cases q : j = i
      · subst q
        obtain ⟨b1, b2⟩ := a2 (8 * e + j) (by omega)
        rw [b1, b2, mu_o hA (by decide) (by decide) (by decide), up2_self, up2_self]
        exact ⟨rfl, rfl⟩
      · exact a3 j (by omega) j2
theorem fb2 {S : MM} {b e m : Nat} {v w1 : Int32} {J : Mm} {A : Nat → Nat} (hL : LY S b) (hO : OC S) (he : e < 2) (hv : (w1 = 0) ↔ ¬ e = f_X8_stronger J m A) : ∀ r i I, i + r = 8 → CE (sR S) b e I J A → (∀ j, j < 8 → Lst (FM J m A e) (KM J A e) j (I (Pt (sR S) b e j) 10)) → I (En (sR S) b e) 2 = J (A 2) e → FB S b e I (g_X1_formBundles_63 (sR S) b e v r i I w1) ∧ (∀ j, j < 8 → (g_X1_formBundles_63 (sR S) b e v r i I w1) (Pt (sR S) b e j) 10 = I (Pt (sR S) b e j) 10) ∧ (∀ j, j < i → (g_X1_formBundles_63 (sR S) b e v r i I w1) (Pt (sR S) b e j) 11 = I (Pt (sR S) b e j) 11) ∧ ∀ j, i ≤ j → j < 8 → (g_X1_formBundles_63 (sR S) b e v r i I w1) (Pt (sR S) b e j) 11 = cvm J m A e j := by
  intro r
  induction r with
  | zero => intro i I hi _ _ _; exact ⟨FB.rf, fun _ _ => rfl, fun _ _ => rfl, fun j h1 h2 => absurd h1 (by omega)⟩
  | succ r ih =>
    intro i I hi ce hB lm
    have hi8 : i < 8 := by omega
    have el : I (Pt (sR S) b e i) 10 = lvm J m A e i := Lst_u (hB i hi8) (g27_L he hi8)
    have E : g_X1_formBundles_63 (sR S) b e v (r + 1) i I w1 = g_X1_formBundles_63 (sR S) b e v r (i + 1) (up2 I (Pt (sR S) b e i) 11 (cvm J m A e i)) w1 := by
      rw [g_X1_formBundles_63]
      dsimp only
      unfold cvm
      rw [el, lm]
      by_cases c3 : lvm J m A e i = -1
      · rw [if_pos c3, if_pos c3]
      · have f : FM J m A e i := fun z => c3 ((g27_L (J := J) (m := m) (A := A) he hi8).1 (fun y => y z))
        have cn : f_X1_countAhead I (sR S) b e i w1 = (g_X8_chooses_27 m A e 8 (8 * e) (8 * e + i) J (-1) (nI 0)).2.2 := cnt_e ce hv hi8 hB f 8 0 (-1) (nI 0) rfl
        rw [if_neg c3, if_neg c3, cn]
        split <;> rfl
    have fb : FB S b e I (up2 I (Pt (sR S) b e i) 11 (cvm J m A e i)) := FB.p hL hO he hi8 (Or.inr rfl) FB.rf
    have t10 : ∀ j, (up2 I (Pt (sR S) b e i) 11 (cvm J m A e i)) (Pt (sR S) b e j) 10 = I (Pt (sR S) b e j) 10 := fun j => up2_ne (fun z => absurd z.2 (by decide))
    obtain ⟨a1, a2, a3, a4⟩ := ih (i + 1) (up2 I (Pt (sR S) b e i) 11 (cvm J m A e i)) (by omega) (CE_FB hL he ce fb) (fun j hj => by rw [t10]; exact hB j hj) (by rw [fb.2.2 2 (by decide)]; exact lm)
    rw [E]
    refine ⟨⟨fun z h1 h2 => (a1.1 z h1 h2).trans (fb.1 z h1 h2), fun j hj k h1 h2 => (a1.2.1 j hj k h1 h2).trans (fb.2.1 j hj k h1 h2), fun k hk => (a1.2.2 k hk).trans (fb.2.2 k hk)⟩, fun j hj => (a2 j hj).trans (t10 j), fun j hj => ?_, fun j j1 j2 => ?_⟩
    · rw [a3 j (by omega), up2_ne (fun z => absurd (i_Pt hL hO he he (by omega) hi8 z.1).2 (by omega))]
    · by_cases q : j = i
      · subst q
        rw [a3 j (by omega), up2_self]
      · exact a4 j (by omega) j2
theorem RP_f {R : Nat → Nat → Option Nat} {b x : Nat} {I J I' J' : Mm} {A : Nat → Nat} (h : RP R b I J A x) (ep : ∀ k, k ≠ 10 → k ≠ 11 → I' (px R b x) k = I (px R b x) k) (eo : I' (ox R b x) = I (ox R b x)) (eq : I' (qx R b x) = I (qx R b x)) (el : I' (lx R b x) = I (lx R b x)) (e : ∀ k j, dm k → k ≠ 12 → k ≠ 13 → k ≠ 40 → J' (A k) j = J (A k) j) : RP R b I' J' A x := by
  unfold RP PR PV PLk at h ⊢
  rw [eo, eq, el, ep 2 (by decide) (by decide), ep 3 (by decide) (by decide), ep 4 (by decide) (by decide), ep 5 (by decide) (by decide), ep 6 (by decide) (by decide), ep 7 (by decide) (by decide), ep 8 (by decide) (by decide), ep 9 (by decide) (by decide), ep 15 (by decide) (by decide), ep 13 (by decide) (by decide)]
  rw [e 11 x (by decide) (by decide) (by decide) (by decide), e 7 x (by decide) (by decide) (by decide) (by decide), e 8 x (by decide) (by decide) (by decide) (by decide), e 9 x (by decide) (by decide) (by decide) (by decide), e 10 x (by decide) (by decide) (by decide) (by decide), e 19 (3 * x) (by decide) (by decide) (by decide) (by decide), e 19 (3 * x + 1) (by decide) (by decide) (by decide) (by decide), e 19 (3 * x + 2) (by decide) (by decide) (by decide) (by decide), e 1 (x / 8) (by decide) (by decide) (by decide) (by decide), e 3 x (by decide) (by decide) (by decide) (by decide), e 4 x (by decide) (by decide) (by decide) (by decide), e 5 x (by decide) (by decide) (by decide) (by decide), e 6 x (by decide) (by decide) (by decide) (by decide), e 18 (5 * x) (by decide) (by decide) (by decide) (by decide), e 18 (5 * x + 1) (by decide) (by decide) (by decide) (by decide), e 18 (5 * x + 2) (by decide) (by decide) (by decide) (by decide), e 18 (5 * x + 3) (by decide) (by decide) (by decide) (by decide), e 18 (5 * x + 4) (by decide) (by decide) (by decide) (by decide), e 21 x (by decide) (by decide) (by decide) (by decide), e 14 x (by decide) (by decide) (by decide) (by decide), e 20 (5 * x) (by decide) (by decide) (by decide) (by decide), e 20 (5 * x + 1) (by decide) (by decide) (by decide) (by decide), e 20 (5 * x + 2) (by decide) (by decide) (by decide) (by decide), e 20 (5 * x + 3) (by decide) (by decide) (by decide) (by decide), e 20 (5 * x + 4) (by decide) (by decide) (by decide) (by decide)]
  exact h
theorem CE_of {S : MM} {b e : Nat} {I J : Mm} {A : Nat → Nat} (he : e < 2) (h : ∀ x, x < 16 → RP (sR S) b I J A x) : CE (sR S) b e I J A := fun i hi => by
  have H := (h (8 * e + i) (by omega)).1
  have d : (8 * e + i) / 8 = e := by omega
  have r : (8 * e + i) % 8 = i := by omega
  unfold PR px ox qx at H
  rw [d, r] at H
  obtain ⟨_, h3, _, _, _, _, _, _, _, o1, o2, o3, _, q0, q1, q2, q3, q4⟩ := H
  exact ⟨h3, o1, o2, o3, q0, q1, q2, q3, q4⟩
theorem sim_end {S : MM} {b m e : Nat} {A : Nat → Nat} {I J : Mm} {v : Int32} (hL : LY S b) (hO : OC S) (hA : AD m A) (he : e < 2) (h : ∀ x, x < 16 → RP (sR S) b I J A x) (lm : I (En (sR S) b e) 2 = J (A 2) e) (hv : (v = 0) ↔ ¬ e = f_X8_stronger J m A) : (∀ x, x < 16 → RP (sR S) b (f_X1_formBundles I (sR S) b e v) (f_X8_chooses J m A e) A x) ∧ (∀ i, i < 8 → (f_X1_formBundles I (sR S) b e v) (Pt (sR S) b e i) 11 = (f_X8_chooses J m A e) (A 13) (8 * e + i) ∧ (f_X1_formBundles I (sR S) b e v) (Pt (sR S) b e i) 10 = (f_X8_chooses J m A e) (A 12) (8 * e + i)) ∧ FB S b e I (f_X1_formBundles I (sR S) b e v) ∧ MC m A J (f_X8_chooses J m A e) ∧ ∀ y, y < 8 * e ∨ 8 * e + 8 ≤ y → (f_X8_chooses J m A e) (A 12) y = J (A 12) y ∧ (f_X8_chooses J m A e) (A 13) y = J (A 13) y := by
  have ce := CE_of he h
  obtain ⟨I1, e1, f1, L1⟩ := fb1 (m := m) (v := v) (w1 := v) hL hO he ce 8 0 I rfl FB.rf (fun j hj => absurd hj (by omega))
  obtain ⟨a1, a2, _, a4⟩ := fb2 (v := v) hL hO he hv 8 0 I1 rfl (CE_FB hL he ce f1) L1 (by rw [f1.2.2 2 (by decide)]; exact lm)
  obtain ⟨c1, c2, c3⟩ := ch5 (e := e) (J := J) hA 8 0 J rfl MC.rf
  have E1 : f_X1_formBundles I (sR S) b e v = g_X1_formBundles_63 (sR S) b e v 8 0 I1 v := e1
  have E2 : f_X8_chooses J m A e = g_X8_chooses_5 m A e 8 (8 * e + 0) J := rfl
  rw [← E1] at a1 a2 a4
  rw [← E2] at c1 c2 c3
  have fb : FB S b e I (f_X1_formBundles I (sR S) b e v) := ⟨fun z h1 h2 => (a1.1 z h1 h2).trans (f1.1 z h1 h2), fun j hj k h1 h2 => (a1.2.1 j hj k h1 h2).trans (f1.2.1 j hj k h1 h2), fun k hk => (a1.2.2 k hk).trans (f1.2.2 k hk)⟩
  refine ⟨fun x hx => ?_, fun i hi => ⟨?_, ?_⟩, fb, c1, fun y hy => c2 y (by omega)⟩
  · have n7 : ∀ z, sK S z = 7 → (f_X1_formBundles I (sR S) b e v) z = I z := fun z kz => fb.1 z (fun i hi => ne_k kz (ly_P hL he hi).2.1 (by decide)) (ne_k kz (ly_E hL he).2.1 (by decide))
    refine RP_f (h x hx) (fun k h1 h2 => ?_) (n7 _ (k_ox hL hx)) (n7 _ (k_qx hL hx)) (n7 _ (k_lx hL hx)) c1.1
    by_cases q : x / 8 = e
    · have := fb.2.1 (x % 8) (by omega) k h1 h2
      rw [← q] at this
      rw [← q]
      exact this
    · rw [fb.1 (px (sR S) b x) (fun i hi z => q (i_Pt hL hO (by omega) he (by omega) hi z).1) (ne_k (k_px hL hx) (ly_E hL he).2.1 (by decide))]
  · rw [a4 i (Nat.zero_le i) hi, (c3 i (Nat.zero_le i) hi).2]
  · rw [a2 i hi, (c3 i (Nat.zero_le i) hi).1]
    exact Lst_u (L1 i hi) (g27_L he hi)
