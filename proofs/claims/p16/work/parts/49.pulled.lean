def RV (S : MM) (A : Nat → Nat) : Prop := RI (sI S (A 7)) (sI S (A 9)) (sI S (A 11)) (sI S (A 22)) (sI S (A 23)) (sI S (A 24)) (sI S (A 25))
theorem RV_SM {W : List Nat} {S S' : MM} {m : Nat} {A : Nat → Nat} (h : RV S A) (hM : MS S m A) (e : SM W m A S S') (hw : ∀ k ∈ [7, 9, 11, 22, 23, 24, 25], k ∉ W) : RV S' A := by
  unfold RV at h ⊢
  rw [SM_a e hM (k := 7) (by decide) (hw 7 (by decide)), SM_a e hM (k := 9) (by decide) (hw 9 (by decide)), SM_a e hM (k := 11) (by decide) (hw 11 (by decide)), SM_a e hM (k := 22) (by decide) (hw 22 (by decide)), SM_a e hM (k := 23) (by decide) (hw 23 (by decide)), SM_a e hM (k := 24) (by decide) (hw 24 (by decide)), SM_a e hM (k := 25) (by decide) (hw 25 (by decide))]
  exact h
theorem u_X8_isPulled_0 {Q : Option Value → MM → Prop} {n : Nat} {lv : Lv} {st : List Value} {S : MM} {c z : Nat} (h : bX8_isPulled_0 Q (wpn (kX8_isPulled Q) n) lv st S c z) : wpn (kX8_isPulled Q) (n + 1) 0 lv st S c z := h
theorem u_X8_isPulled_14 {Q : Option Value → MM → Prop} {n : Nat} {lv : Lv} {st : List Value} {S : MM} {c z : Nat} (h : bX8_isPulled_14 Q (wpn (kX8_isPulled Q) n) lv st S c z) : wpn (kX8_isPulled Q) (n + 1) 14 lv st S c z := h
theorem q_ip14 {Q : Option Value → MM → Prop} {S0 : MM} {f m c : Nat} {A : Nat → Nat} {lv : Lv} (hM : MS S0 m A) (im : IM S0 m A) (hc : c < 8) (hR : RV S0 A) (hP : sI S0 (A 24) c ≠ 0) (hU : sI S0 (A 25) c = 0) (l0 : lvg lv 0 = some (.ref m)) (l1 : lvg lv 1 = some (.int (nI c))) (K : ∀ S', SM [11, 24] m A S0 S' → IM S' m A → RV S' A → sI S' (A 24) = upd (sI S0 (A 24)) c (nI 0) → (∀ x, sI S' (A 11) x = -1 ∨ sI S' (A 11) x = sI S0 (A 11) x) → Q none S') : wpn (kX8_isPulled Q) (f + 1) 14 lv [] S0 0 0 := by
  refine u_X8_isPulled_14 ?_
  unfold bX8_isPulled_14
  refine e_ldA l0 (e_gR hM.1 (hM.2.1 11 (by decide)).1 (e_ldA l0 (e_ldI l1 (e_cN 0 rfl (And.intro hM.1 (And.intro ⟨by decide, by decide⟩ (z_f_portAt hM im hc (by decide) (fun p0 hp0 e0 => e_cI (y_mA (N := 16) (W := [11, 24]) hM SM.rf im (by decide) rfl rfl (show 8 * 0 + p0 < 16 by omega) (by decide) (by decide) (fun N e => nomatch (show (none : Option Nat) = some N from e)) (fun e => absurd e (by decide)) (fun S1 h1 sh1 im1 => ?_))))))))))
  have hM1 := MS_SM hM sh1
  have o1 : ∀ k ∈ [7, 9, 22, 23, 24, 25], sI S1 (A k) = sI S0 (A k) := fun k hk => fn_o h1 rfl (ne_A hM (by
    simp only [List.mem_cons, List.not_mem_nil, or_false] at hk
    rcases hk with rfl | rfl | rfl | rfl | rfl | rfl <;> decide) (by decide) (by
    simp only [List.mem_cons, List.not_mem_nil, or_false] at hk
    rcases hk with rfl | rfl | rfl | rfl | rfl | rfl <;> decide))
  have a11 : sI S1 (A 11) = upd (sI S0 (A 11)) (8 * 0 + p0) (-1) := fn_s h1 rfl
  refine e_ldA l0 (e_gR hM1.1 (hM1.2.1 11 (by decide)).1 (e_ldA l0 (e_ldI l1 (e_cN 1 rfl (And.intro hM1.1 (And.intro ⟨by decide, by decide⟩ (z_f_portAt hM1 im1 hc (by decide) (fun p1 hp1 e1 => e_cI (y_mA (N := 16) hM sh1 im1 (by decide) rfl rfl (show 8 * 1 + p1 < 16 by omega) (by decide) (by decide) (fun N e => nomatch (show (none : Option Nat) = some N from e)) (fun e => absurd e (by decide)) (fun S2 h2 sh2 im2 => ?_))))))))))
  have hM2 := MS_SM hM sh2
  have o2 : ∀ k ∈ [7, 9, 22, 23, 24, 25], sI S2 (A k) = sI S0 (A k) := fun k hk => (fn_o h2 (o1 k hk) (ne_A hM (by
    simp only [List.mem_cons, List.not_mem_nil, or_false] at hk
    rcases hk with rfl | rfl | rfl | rfl | rfl | rfl <;> decide) (by decide) (by
    simp only [List.mem_cons, List.not_mem_nil, or_false] at hk
    rcases hk with rfl | rfl | rfl | rfl | rfl | rfl <;> decide)))
  have b11 : sI S2 (A 11) = upd (upd (sI S0 (A 11)) (8 * 0 + p0) (-1)) (8 * 1 + p1) (-1) := fn_s h2 a11
  refine e_ldA l0 (e_gR hM2.1 (hM2.2.1 24 (by decide)).1 (e_ldI l1 (e_cN 0 rfl (y_mB (N := 8) hM sh2 im2 (by decide) rfl rfl hc (by decide) (by decide) (by decide) (fun N e => nomatch (show (none : Option Nat) = some N from e)) (fun e => absurd e (by decide)) (fun S3 h3 sh3 im3 => ?_)))))
  have o3 : ∀ k ∈ [7, 9, 22, 23, 25], sI S3 (A k) = sI S0 (A k) := fun k hk => by
    simp only [List.mem_cons, List.not_mem_nil, or_false] at hk
    rcases hk with rfl | rfl | rfl | rfl | rfl
    · exact fn_o h3 (o2 7 (by decide)) (ne_A hM (by decide) (by decide) (by decide))
    · exact fn_o h3 (o2 9 (by decide)) (ne_A hM (by decide) (by decide) (by decide))
    · exact fn_o h3 (o2 22 (by decide)) (ne_A hM (by decide) (by decide) (by decide))
    · exact fn_o h3 (o2 23 (by decide)) (ne_A hM (by decide) (by decide) (by decide))
    · exact fn_o h3 (o2 25 (by decide)) (ne_A hM (by decide) (by decide) (by decide))
  have c11 : sI S3 (A 11) = upd (upd (sI S0 (A 11)) (8 * 0 + p0) (-1)) (8 * 1 + p1) (-1) := fn_o h3 b11 (ne_A hM (by decide) (by decide) (by decide))
  have c24 : sI S3 (A 24) = upd (sI S0 (A 24)) c (nI 0) := fn_s h3 (o2 24 (by decide))
  have f1 : sI S0 (A 22) (2 * c + 1) = nI p1 := by rw [← o1 22 (by decide)]; exact e1
  refine e_rV (K S3 sh3 im3 ?_ c24 (fun x => ?_))
  · unfold RV
    rw [o3 7 (by decide), o3 9 (by decide), o3 22 (by decide), o3 23 (by decide), o3 25 (by decide), c11, c24]
    exact RI_pull hR hc hP hU hp0 hp1 e0 f1
  · rw [c11]
    by_cases hx : x = 8 * 0 + p0 ∨ x = 8 * 1 + p1
    · exact Or.inl (upd2_in hx)
    · exact Or.inr (upd2 (fun z => hx (Or.inl z)) (fun z => hx (Or.inr z)))
