/-! SIMULATION 71: give of the reference: which port -/
theorem w_gv118 {Q : Option Value → MM → Prop} {S : MM} {m e cv f0 w0 : Nat} {A : Nat → Nat} {b u : Int32} (hM : MS S m A) (he : e < 2) (hw0 : w0 < gc S A e b 8) (hw1 : w0 < 1000) (K : ∀ f lv j, f0 ≤ f → j < 8 → sI S (A 9) (8 * e + j) = 4 → gv S A e b j = true → gc S A e b j = w0 → LG lv m e b cv u → lvg lv 7 = some (.int (nI (8 * e + j))) → wpn (kX8_give Q) f 183 lv [] S 0 0) : ∀ (r j w f : Nat) (lv : Lv), j + r = 8 → f0 + 4 * r + 1 ≤ f → gc S A e b j + w = w0 → LG lv m e b cv u → lvg lv 6 = some (.int (nI w)) → lvg lv 7 = some (.int (nI (8 * e + j))) → wpn (kX8_give Q) f 118 lv [] S 0 0 := by
  intro r
  induction r with
  | zero =>
    intro j w f lv hj hf hw L l6 l7
    have ej : j = 8 := by omega
    subst ej
    exact absurd hw0 (by omega)
  | succ r ih =>
    intro j w f lv hj hf hw L l6 l7
    obtain ⟨g, rfl⟩ : ∃ g, f = g + 4 := ⟨f - 4, by omega⟩
    have s174 : ∀ a f', a ≤ w → g ≤ f' → gc S A e b (j + 1) = gc S A e b j + a → wpn (kX8_give Q) (f' + 1) 174 lv [.int (nI a), .int (nI w)] S 0 0 := fun a f' ha hf' ea => by
      refine u_X8_give_174 ?_
      unfold bX8_give_174
      exact e_sub ha (e_stI (e_inc (lvg_ne l7 rfl (by decide)) (ih (j + 1) (w - a) f' _ (by omega) (by omega) (by omega) (LG_s (LG_s L (by decide)) (by decide)) (lvg_ne lvg_self rfl (by decide)) lvg_self)))
    have s173 : gv S A e b j = false → wpn (kX8_give Q) (g + 2) 173 lv [.int (nI w)] S 0 0 := fun hg => by
      refine u_X8_give_173 ?_
      unfold bX8_give_173
      refine e_cN 0 rfl (s174 0 g (by omega) (Nat.le_refl _) ?_)
      rw [gc_s, hg]
      rfl
    have s145 : (gv S A e b j = true → 0 < w) → wpn (kX8_give Q) (g + 3) 145 lv [] S 0 0 := fun hg => by
      refine u_X8_give_145 ?_
      unfold bX8_give_145
      refine e_ldI l6 (e_ldA L.1 (e_gR hM.1 (hM.2.1 12 (by decide)).1 (e_ldI l7 (e_aI (N := 16) (kdA hM (by decide) rfl) (lnA hM (by decide) rfl) (by omega) (by decide) (fun v12 h12 => e_ldI L.2.2.1 ⟨fun hq => ?_, fun hq => s173 (by unfold gv; rw [h12]; simp [show ¬ v12 = b from hq])⟩)))))
      refine e_ldA L.1 (e_gR hM.1 (hM.2.1 9 (by decide)).1 (e_ldI l7 (e_aI (N := 16) (kdA hM (by decide) rfl) (lnA hM (by decide) rfl) (by omega) (by decide) (fun v9 h9 => e_cI ⟨fun h4 => ?_, fun h4 => s173 (by unfold gv; rw [h9]; simp [show ¬ v9 = 4 from h4])⟩))))
      have tr : gv S A e b j = true := by unfold gv; rw [h12, h9]; simp [show v12 = b from hq, show v9 = 4 from h4]
      exact e_cN 1 rfl (s174 1 (g + 1) (hg tr) (by omega) (by rw [gc_s, tr]; rfl))
    refine u_X8_give_118 ?_
    unfold bX8_give_118
    refine e_ldA L.1 (e_gR hM.1 (hM.2.1 12 (by decide)).1 (e_ldI l7 (e_aI (N := 16) (kdA hM (by decide) rfl) (lnA hM (by decide) rfl) (by omega) (by decide) (fun v12 h12 => e_ldI L.2.2.1 ⟨fun hq => ?_, fun hq => s145 (fun z => absurd z (by unfold gv; rw [h12]; simp [show ¬ v12 = b from hq]))⟩))))
    refine e_ldA L.1 (e_gR hM.1 (hM.2.1 9 (by decide)).1 (e_ldI l7 (e_aI (N := 16) (kdA hM (by decide) rfl) (lnA hM (by decide) rfl) (by omega) (by decide) (fun v9 h9 => e_cI ⟨fun h4 => ?_, fun h4 => s145 (fun z => absurd z (by unfold gv; rw [h9]; simp [show ¬ v9 = 4 from h4]))⟩))))
    exact e_ldI l6 (e_lez (by omega) (fun hz0 => K (g + 3) lv j (by omega) (by omega) (h9.trans h4) (by unfold gv; rw [h12, h9]; simp [show v12 = b from hq, show v9 = 4 from h4]) (by omega) L l7) (fun hz => s145 (fun _ => by omega)))
