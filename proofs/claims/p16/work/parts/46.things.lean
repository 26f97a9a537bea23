/-! THE THINGS UNDER WAY AS A LIST -/
def th (S : MM) (A : Nat → Nat) (t : Nat) : Int32 × Int32 × Int32 × Int32 := (sI S (A 27) t, sI S (A 28) t, sI S (A 29) t, sI S (A 30) t)
def TL (S : MM) (A : Nat → Nat) (n : Nat) : List (Int32 × Int32 × Int32 × Int32) := (List.range n).map (th S A)
theorem TL_s {S : MM} {A : Nat → Nat} {n : Nat} : TL S A (n + 1) = TL S A n ++ [th S A n] := by simp [TL, List.range_succ]
theorem TL_c {S S' : MM} {A : Nat → Nat} {n : Nat} (h : ∀ j, j < n → th S' A j = th S A j) : TL S' A n = TL S A n := List.map_congr_left (fun j hj => h j (List.mem_range.mp hj))
theorem th_mv {S S' : MM} {A : Nat → Nat} {t u : Nat} (h27 : sI S' (A 27) = upd (sI S (A 27)) u (sI S (A 27) t)) (h28 : sI S' (A 28) = upd (sI S (A 28)) u (sI S (A 28) t)) (h29 : sI S' (A 29) = upd (sI S (A 29)) u (sI S (A 29) t)) (h30 : sI S' (A 30) = upd (sI S (A 30)) u (sI S (A 30) t)) (j : Nat) : th S' A j = if j = u then th S A t else th S A j := by
  unfold th
  rw [h27, h28, h29, h30]
  by_cases hj : j = u
  · rw [if_pos hj, hj, pk_us, pk_us, pk_us, pk_us]
  · rw [if_neg hj, pk_un hj, pk_un hj, pk_un hj, pk_un hj]
theorem th_SM {W : List Nat} {S S' : MM} {m : Nat} {A : Nat → Nat} (e : SM W m A S S') (hM : MS S m A) (hw : 27 ∉ W ∧ 28 ∉ W ∧ 29 ∉ W ∧ 30 ∉ W) (j : Nat) : th S' A j = th S A j := by
  unfold th
  rw [SM_a e hM (by decide) hw.1, SM_a e hM (by decide) hw.2.1, SM_a e hM (by decide) hw.2.2.1, SM_a e hM (by decide) hw.2.2.2]
def pC (c : Nat) (q : Int32 × Int32 × Int32 × Int32) : Bool := !(decide (q.1 = nI c))
theorem u_X8_empties_0 {Q : Option Value → MM → Prop} {n : Nat} {lv : Lv} {st : List Value} {S : MM} {c z : Nat} (h : bX8_empties_0 Q (wpn (kX8_empties Q) n) lv st S c z) : wpn (kX8_empties Q) (n + 1) 0 lv st S c z := h
theorem u_X8_empties_4 {Q : Option Value → MM → Prop} {n : Nat} {lv : Lv} {st : List Value} {S : MM} {c z : Nat} (h : bX8_empties_4 Q (wpn (kX8_empties Q) n) lv st S c z) : wpn (kX8_empties Q) (n + 1) 4 lv st S c z := h
theorem u_X8_empties_41 {Q : Option Value → MM → Prop} {n : Nat} {lv : Lv} {st : List Value} {S : MM} {c z : Nat} (h : bX8_empties_41 Q (wpn (kX8_empties Q) n) lv st S c z) : wpn (kX8_empties Q) (n + 1) 41 lv st S c z := h
theorem u_X8_empties_42 {Q : Option Value → MM → Prop} {n : Nat} {lv : Lv} {st : List Value} {S : MM} {c z : Nat} (h : bX8_empties_42 Q (wpn (kX8_empties Q) n) lv st S c z) : wpn (kX8_empties Q) (n + 1) 42 lv st S c z := h
theorem u_X8_empties_49 {Q : Option Value → MM → Prop} {n : Nat} {lv : Lv} {st : List Value} {S : MM} {c z : Nat} (h : bX8_empties_49 Q (wpn (kX8_empties Q) n) lv st S c z) : wpn (kX8_empties Q) (n + 1) 49 lv st S c z := h
theorem u_X8_empties_58 {Q : Option Value → MM → Prop} {n : Nat} {lv : Lv} {st : List Value} {S : MM} {c z : Nat} (h : bX8_empties_58 Q (wpn (kX8_empties Q) n) lv st S c z) : wpn (kX8_empties Q) (n + 1) 58 lv st S c z := h
theorem u_X8_empties_64 {Q : Option Value → MM → Prop} {n : Nat} {lv : Lv} {st : List Value} {S : MM} {c z : Nat} (h : bX8_empties_64 Q (wpn (kX8_empties Q) n) lv st S c z) : wpn (kX8_empties Q) (n + 1) 64 lv st S c z := h
theorem q_em42 {Q : Option Value → MM → Prop} {S0 S : MM} {f m t : Nat} {A : Nat → Nat} {lv : Lv} {a b : Int32} {g1 g2 : Int32} (hM : MS S0 m A) (sh : SM [27, 28, 29, 30, 31, 32, 46] m A S0 S) (im : IM S m A) (l0 : lvg lv 0 = some (.ref m)) (l1 : lvg lv 1 = some (.int g1)) (l2 : lvg lv 2 = some (.int g2)) (l3 : lvg lv 3 = some (.int (nI t))) (h : ∀ lv' S', lvg lv' 0 = some (.ref m) → lvg lv' 1 = some (.int g1) → lvg lv' 2 = some (.int g2) → lvg lv' 3 = some (.int (nI (t + 1))) → SM [27, 28, 29, 30, 31, 32, 46] m A S0 S' → IM S' m A → sI S' m 32 = sI S m 32 → (∀ j, th S' A j = th S A j) → wpn (kX8_empties Q) f 4 lv' [] S' 0 0) : wpn (kX8_empties Q) (f + 2) 42 lv [.int b, .int a, .ref m] S 0 0 := by
  refine u_X8_empties_42 ?_
  unfold bX8_empties_42
  refine e_bopU (fun r => y_mI hM sh im (by decide) (fun N e => nomatch (show (none : Option Nat) = some N from e)) (fun S1 he sh1 im1 => u_X8_empties_58 ?_))
  unfold bX8_empties_58
  refine e_inc l3 (h _ S1 (lvg_ne l0 rfl (by decide)) (lvg_ne l1 rfl (by decide)) (lvg_ne l2 rfl (by decide)) lvg_self sh1 im1 ?_ (fun j => ?_))
  · rw [he]; exact rd_k rfl (by decide)
  · unfold th
    rw [fn_o (a := A 27) he rfl (ne_m hM (by decide)), fn_o (a := A 28) he rfl (ne_m hM (by decide)), fn_o (a := A 29) he rfl (ne_m hM (by decide)), fn_o (a := A 30) he rfl (ne_m hM (by decide))]
theorem q_em4 {Q : Option Value → MM → Prop} {S0 : MM} {m c n : Nat} {A : Nat → Nat} (hM : MS S0 m A) (hc : c < 8) (hn : n < 4001) (K : ∀ S' k, k ≤ n → SM [27, 28, 29, 30, 31, 32, 46] m A S0 S' → IM S' m A → sI S' m 32 = nI k → TL S' A k = (TL S0 A n).filter (pC c) → Q none S') : ∀ (r t k f : Nat) (lv : Lv) (S : MM), 4 * r + 2 ≤ f → t + r = n → k ≤ t → lvg lv 0 = some (.ref m) → lvg lv 1 = some (.int (nI c)) → lvg lv 2 = some (.int (nI k)) → lvg lv 3 = some (.int (nI t)) → SM [27, 28, 29, 30, 31, 32, 46] m A S0 S → IM S m A → sI S m 32 = nI n → TL S A k = (TL S0 A t).filter (pC c) → (∀ j, t ≤ j → th S A j = th S0 A j) → wpn (kX8_empties Q) f 4 lv [] S 0 0 := by
  intro r
  induction r with
  | zero =>
    intro t k f lv S hf hr hk l0 l1 l2 l3 sh im e32 eT eJ
    have et : t = n := by omega
    subst et
    obtain ⟨g, rfl⟩ : ∃ g, f = g + 2 := ⟨f - 2, by omega⟩
    refine u_X8_empties_4 ?_
    unfold bX8_empties_4
    refine e_ldI l3 (e_ldA l0 (e_gV (v := nI t) (SM_k sh hM.1) e32 (e_ge (by omega) (by omega) (fun _ => u_X8_empties_64 ?_) (fun h => absurd h (by omega)))))
    unfold bX8_empties_64
    refine e_ldA l0 (e_ldI l2 (y_mI hM sh im (by decide) (fun N e => by have e2 : some 4001 = some N := e; cases e2; exact ⟨k, by omega, rfl⟩) (fun S1 he sh1 im1 => e_rV (K S1 k hk sh1 im1 (by rw [he]; exact rd_s) ?_))))
    rw [← eT]
    refine TL_c (fun j _ => ?_)
    unfold th
    rw [fn_o (a := A 27) he rfl (ne_m hM (by decide)), fn_o (a := A 28) he rfl (ne_m hM (by decide)), fn_o (a := A 29) he rfl (ne_m hM (by decide)), fn_o (a := A 30) he rfl (ne_m hM (by decide))]
  | succ r ih =>
    intro t k f lv S hf hr hk l0 l1 l2 l3 sh im e32 eT eJ
    have hM1 := MS_SM hM sh
    obtain ⟨g, rfl⟩ : ∃ g, f = g + 4 := ⟨f - 4, by omega⟩
    obtain ⟨d, hd, ed⟩ := im.1 27 8 rfl t
    have e0 : (th S0 A t).1 = nI d := by rw [← eJ t (Nat.le_refl _)]; exact ed
    refine u_X8_empties_4 ?_
    unfold bX8_empties_4
    refine e_ldI l3 (e_ldA l0 (e_gV (v := nI n) (SM_k sh hM.1) e32 (e_ge (by omega) (by omega) (fun h => absurd h (by omega)) (fun _ => e_ldA l0 (e_gR hM1.1 (hM1.2.1 27 (by decide)).1 (e_ldI l3 (e_aV (N := 4000) (v := nI d) (kdA hM1 (by decide) rfl) (lnA hM1 (by decide) rfl) (by omega) (by decide) ed (e_ldI l1 (e_eq (by omega) (by omega) (fun hdc => ?_) (fun hdc => ?_))))))))))
    · have drop : (TL S0 A (t + 1)).filter (pC c) = (TL S0 A t).filter (pC c) := by
        rw [TL_s, List.filter_append]
        have : pC c (th S0 A t) = false := by unfold pC; rw [e0, hdc]; simp
        simp [this]
      refine e_ldA l0 (e_duA (e_gI (SM_k sh hM.1) (fun v46 _ => e_ldA l0 (e_gR hM1.1 (hM1.2.1 30 (by decide)).1 (e_ldI l3 (e_aI (N := 4000) (kdA hM1 (by decide) rfl) (lnA hM1 (by decide) rfl) (by omega) (by decide) (fun v30 _ => e_cI (e_ifc ?_ ?_))))))))
      · exact e_cI (q_em42 (f := g + 1) hM sh im l0 l1 l2 l3 (fun lv' S' a0 a1 a2 a3 s' i' m32 hth => (ih (t + 1) k (g + 1) lv' S' (by omega) (by omega) (by omega) a0 a1 a2 a3 s' i' (m32.trans e32) ((TL_c (fun j _ => hth j)).trans (eT.trans drop.symm)) (fun j hj => (hth j).trans (eJ j (by omega))))))
      · refine u_X8_empties_41 ?_
        unfold bX8_empties_41
        exact e_cI (q_em42 (f := g) hM sh im l0 l1 l2 l3 (fun lv' S' a0 a1 a2 a3 s' i' m32 hth => ih (t + 1) k g lv' S' (by omega) (by omega) (by omega) a0 a1 a2 a3 s' i' (m32.trans e32) ((TL_c (fun j _ => hth j)).trans (eT.trans drop.symm)) (fun j hj => (hth j).trans (eJ j (by omega)))))
    · have keep : (TL S0 A (t + 1)).filter (pC c) = (TL S0 A t).filter (pC c) ++ [th S0 A t] := by
        rw [TL_s, List.filter_append]
        have : pC c (th S0 A t) = true := by
          unfold pC
          rw [e0]
          have : nI d ≠ nI c := fun z => hdc (by
            have := congrArg Int32.toInt z
            rw [nI_toInt (by omega), nI_toInt (by omega)] at this
            omega)
          simp [this]
        simp [this]
      refine u_X8_empties_49 ?_
      unfold bX8_empties_49
      refine e_ldA l0 (e_ldI l3 (e_ldI l2 (And.intro hM1.1 (And.intro ⟨by decide, by decide⟩ (z_f_moves hM1 im (by omega) (by omega) (fun S1 s1 im1 m27 m28 m29 m30 => e_inc l2 (u_X8_empties_58 ?_)))))))
      unfold bX8_empties_58
      have hth := th_mv m27 m28 m29 m30
      refine e_inc (lvg_ne l3 rfl (by decide)) (ih (t + 1) (k + 1) (g + 1) _ S1 (by omega) (by omega) (by omega) (lvg_ne (lvg_ne l0 rfl (by decide)) rfl (by decide)) (lvg_ne (lvg_ne l1 rfl (by decide)) rfl (by decide)) (lvg_ne lvg_self rfl (by decide)) lvg_self (SM.tr sh s1 (by decide)) im1 ((s1.2.2.2.2.2 32 (by decide)).trans e32) ?_ (fun j hj => ?_))
      · rw [TL_s, keep, hth k, if_pos rfl, eJ t (Nat.le_refl _), ← eT]
        congr 1
        exact TL_c (fun j hj => by rw [hth j, if_neg (by omega)])
      · rw [hth j, if_neg (by omega)]
        exact eJ j (by omega)
theorem z_f_empties {Q : Option Value → MM → Prop} {S0 : MM} {m c n : Nat} {A : Nat → Nat} (hM : MS S0 m A) (im : IM S0 m A) (hc : c < 8) (hn : n < 4001) (e32 : sI S0 m 32 = nI n) (K : ∀ S' k, k ≤ n → SM [27, 28, 29, 30, 31, 32, 46] m A S0 S' → IM S' m A → sI S' m 32 = nI k → TL S' A k = (TL S0 A n).filter (pC c) → Q none S') : wX8_empties [.ref m, .int (nI c)] S0 Q := by
  refine Exists.intro (4 * n + 3) (u_X8_empties_0 ?_)
  unfold bX8_empties_0
  exact e_cN 0 rfl (e_stI (e_cN 0 rfl (e_stI (q_em4 hM hc hn K n 0 0 (4 * n + 2) _ S0 (by omega) (by omega) (by omega) (lvg_ne (lvg_ne rfl rfl (by decide)) rfl (by decide)) (lvg_ne (lvg_ne rfl rfl (by decide)) rfl (by decide)) (lvg_ne lvg_self rfl (by decide)) lvg_self SM.rf im e32 rfl (fun _ _ => rfl)))))
