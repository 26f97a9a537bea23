/-! noteComes: of view only the port's own cell changes -/
def RO (A : Nat → Nat) (x : Nat) (S0 S : MM) : Prop := ∀ j, j ≠ x → sI S (A 7) j = sI S0 (A 7) j
theorem RO_w {S0 S S' : MM} {k i x : Nat} {A : Nat → Nat} {v : Int32} (he : S' = pI S (A k) i v) (hn : A 7 ≠ A k) (h : RO A x S0 S) : RO A x S0 S' := fun j hj => by rw [he, sI_pI, up2_row hn]; exact h j hj
theorem RO_7 {S0 S S' : MM} {i x : Nat} {A : Nat → Nat} {v : Int32} (he : S' = pI S (A 7) i v) (hi : i = x) (h : RO A x S0 S) : RO A x S0 S' := fun j hj => by rw [he, sI_pI, up2_ne (fun z => hj (z.2.trans hi))]; exact h j hj
theorem RO_SM {W : List Nat} {S0 S S' : MM} {m x : Nat} {A : Nat → Nat} (e : SM W m A S S') (hM : MS S m A) (hw : 7 ∉ W) (h : RO A x S0 S) : RO A x S0 S' := fun j hj => by rw [SM_a e hM (by decide) hw]; exact h j hj
theorem RV_RO {W : List Nat} {S S' : MM} {m x : Nat} {A : Nat → Nat} (h : RV S A) (hM : MS S m A) (e : SM W m A S S') (hw : ∀ k ∈ [9, 11, 22, 23, 24, 25], k ∉ W) (ho : RO A x S S') (hx : x < 16) (hl : ∃ c, c < 8 ∧ sI S (A 11) x = nI c ∧ sI S (A 25) c ≠ 0) : RV S' A := by
  obtain ⟨c, hc, h1, h2⟩ := hl
  have ex : 8 * (x / 8) + x % 8 = x := by omega
  have e7 : sI S' (A 7) = upd (sI S (A 7)) x (sI S' (A 7) x) := by
    funext j
    by_cases hj : j = x
    · rw [hj, pk_us]
    · rw [pk_un hj]; exact ho j hj
  unfold RV
  rw [e7, SM_a e hM (k := 9) (by decide) (hw 9 (by decide)), SM_a e hM (k := 11) (by decide) (hw 11 (by decide)), SM_a e hM (k := 22) (by decide) (hw 22 (by decide)), SM_a e hM (k := 23) (by decide) (hw 23 (by decide)), SM_a e hM (k := 24) (by decide) (hw 24 (by decide)), SM_a e hM (k := 25) (by decide) (hw 25 (by decide))]
  have q := RI_view (v := sI S' (A 7) x) (e := x / 8) (p := x % 8) h (by omega) (by omega) hc (by rw [ex]; exact h1) h2
  rw [ex] at q
  exact q
def P_f_noteComes_0 (Q : Option Value → MM → Prop) (S0 : MM) (m : Nat) (A : Nat → Nat) (x : Nat) (n : Nat) : Prop := ∀ (lv : Lv) (S : MM) (i1 : Nat) (i2 : Nat), lvg lv 0 = some (.ref m) → lvg lv 1 = some (.int (nI i1)) → i1 < 4000 → lvg lv 2 = some (.int (nI i2)) → i2 < 16 → SM [7, 8, 14, 15, 17, 18] m A S0 S → IM S m A → i2 = x → RO A x S0 S → 5766 ≤ n → wpn (kX8_noteComes Q) n 0 lv [] S 0 0
def P_f_noteComes_8 (Q : Option Value → MM → Prop) (S0 : MM) (m : Nat) (A : Nat → Nat) (x : Nat) (n : Nat) : Prop := ∀ (lv : Lv) (S : MM) (i1 : Nat) (i2 : Nat) (i3 : Nat) (i4 : Nat) (i5 : Nat), lvg lv 0 = some (.ref m) → lvg lv 1 = some (.int (nI i1)) → i1 < 4000 → lvg lv 2 = some (.int (nI i2)) → i2 < 16 → lvg lv 3 = some (.int (nI i3)) → i3 < 2 → lvg lv 4 = some (.int (nI i4)) → i4 < 2 → lvg lv 5 = some (.int (nI i5)) → i5 < 6 → SM [7, 8, 14, 15, 17, 18] m A S0 S → IM S m A → i2 = x → RO A x S0 S → 930 + 961 * (5 - i5) ≤ n → wpn (kX8_noteComes Q) n 8 lv [] S 0 0
def P_f_noteComes_52 (Q : Option Value → MM → Prop) (S0 : MM) (m : Nat) (A : Nat → Nat) (x : Nat) (n : Nat) : Prop := ∀ (lv : Lv) (S : MM) (i1 : Nat) (i2 : Nat) (i3 : Nat) (i4 : Nat) (i5 : Nat) (w6 : Int32) (is0 : Nat), lvg lv 0 = some (.ref m) → lvg lv 1 = some (.int (nI i1)) → i1 < 4000 → lvg lv 2 = some (.int (nI i2)) → i2 < 16 → lvg lv 3 = some (.int (nI i3)) → i3 < 2 → lvg lv 4 = some (.int (nI i4)) → i4 < 2 → lvg lv 5 = some (.int (nI i5)) → i5 < 5 → lvg lv 6 = some (.int w6) → is0 < 2 → SM [7, 8, 14, 15, 17, 18] m A S0 S → IM S m A → i2 = x → RO A x S0 S → 31 + 961 * (5 - i5) ≤ n → wpn (kX8_noteComes Q) n 52 lv [.int (nI is0)] S 0 0
def P_f_noteComes_108 (Q : Option Value → MM → Prop) (S0 : MM) (m : Nat) (A : Nat → Nat) (x : Nat) (n : Nat) : Prop := ∀ (lv : Lv) (S : MM) (i1 : Nat) (i2 : Nat) (i3 : Nat) (i4 : Nat) (i5 : Nat), lvg lv 0 = some (.ref m) → lvg lv 1 = some (.int (nI i1)) → i1 < 4000 → lvg lv 2 = some (.int (nI i2)) → i2 < 16 → lvg lv 3 = some (.int (nI i3)) → i3 < 2 → lvg lv 4 = some (.int (nI i4)) → i4 < 2 → lvg lv 5 = some (.int (nI i5)) → i5 < 6 → SM [7, 8, 14, 15, 17, 18] m A S0 S → IM S m A → i2 = x → RO A x S0 S → 124 + 155 * (5 - i5) ≤ n → wpn (kX8_noteComes Q) n 108 lv [] S 0 0
def P_f_noteComes_162 (Q : Option Value → MM → Prop) (S0 : MM) (m : Nat) (A : Nat → Nat) (x : Nat) (n : Nat) : Prop := ∀ (lv : Lv) (S : MM) (i1 : Nat) (i2 : Nat) (i3 : Nat) (i4 : Nat) (i5 : Nat), lvg lv 0 = some (.ref m) → lvg lv 1 = some (.int (nI i1)) → i1 < 4000 → lvg lv 2 = some (.int (nI i2)) → i2 < 16 → lvg lv 3 = some (.int (nI i3)) → i3 < 2 → lvg lv 4 = some (.int (nI i4)) → i4 < 2 → lvg lv 5 = some (.int (nI i5)) → i5 < 6 → SM [7, 8, 14, 15, 17, 18] m A S0 S → IM S m A → i2 = x → RO A x S0 S → 93 ≤ n → wpn (kX8_noteComes Q) n 162 lv [] S 0 0
def P_f_noteComes_189 (Q : Option Value → MM → Prop) (S0 : MM) (m : Nat) (A : Nat → Nat) (x : Nat) (n : Nat) : Prop := ∀ (lv : Lv) (S : MM) (i1 : Nat) (i2 : Nat) (i3 : Nat) (i4 : Nat) (i5 : Nat) (is0 : Nat) (is1 : Nat), lvg lv 0 = some (.ref m) → lvg lv 1 = some (.int (nI i1)) → i1 < 4000 → lvg lv 2 = some (.int (nI i2)) → i2 < 16 → lvg lv 3 = some (.int (nI i3)) → i3 < 2 → lvg lv 4 = some (.int (nI i4)) → i4 < 2 → lvg lv 5 = some (.int (nI i5)) → i5 < 6 → is0 < 91 → is1 < 16 → SM [7, 8, 14, 15, 17, 18] m A S0 S → IM S m A → i2 = x → RO A x S0 S → 62 ≤ n → wpn (kX8_noteComes Q) n 189 lv [.int (nI is0), .int (nI is1), .ref (A 8)] S 0 0
def P_f_noteComes_202 (Q : Option Value → MM → Prop) (S0 : MM) (m : Nat) (A : Nat → Nat) (x : Nat) (n : Nat) : Prop := ∀ (lv : Lv) (S : MM) (i1 : Nat) (i2 : Nat) (i3 : Nat) (i4 : Nat) (i5 : Nat), lvg lv 0 = some (.ref m) → lvg lv 1 = some (.int (nI i1)) → i1 < 4000 → lvg lv 2 = some (.int (nI i2)) → i2 < 16 → lvg lv 3 = some (.int (nI i3)) → i3 < 2 → lvg lv 4 = some (.int (nI i4)) → i4 < 2 → lvg lv 5 = some (.int (nI i5)) → i5 < 6 → SM [7, 8, 14, 15, 17, 18] m A S0 S → IM S m A → i2 = x → RO A x S0 S → 31 ≤ n → wpn (kX8_noteComes Q) n 202 lv [] S 0 0
theorem B_f_noteComes_0 {Q : Option Value → MM → Prop} {S0 : MM} {m : Nat} {A : Nat → Nat} {x : Nat} {n : Nat} (hM : MS S0 m A) (K : ∀ S', SM [7, 8, 14, 15, 17, 18] m A S0 S' → IM S' m A → RO A x S0 S' → Q none S') (t_8 : ∀ k, k ≤ n → P_f_noteComes_8 Q S0 m A x k) : P_f_noteComes_0 Q S0 m A x (n + 1) := by
  intro lv S i1 i2 g0 g1 h1 g2 h2 sh im ex ro hF
  refine u_X8_noteComes_0 ?_
  unfold bX8_noteComes_0
  refine e_cN 1 rfl ?_
  refine e_stI ?_
  refine e_cN 1 rfl ?_
  refine e_stI ?_
  refine e_cN 0 rfl ?_
  refine e_stI ?_
  exact t_8 n (by omega) _ _ i1 i2 1 1 0 (lvg_ne (lvg_ne (lvg_ne g0 rfl (by decide)) rfl (by decide)) rfl (by decide)) (lvg_ne (lvg_ne (lvg_ne g1 rfl (by decide)) rfl (by decide)) rfl (by decide)) (by omega) (lvg_ne (lvg_ne (lvg_ne g2 rfl (by decide)) rfl (by decide)) rfl (by decide)) (by omega) (lvg_ne (lvg_ne lvg_self rfl (by decide)) rfl (by decide)) (by omega) (lvg_ne lvg_self rfl (by decide)) (by omega) lvg_self (by omega) sh im ex ro (by omega)
theorem B_f_noteComes_8 {Q : Option Value → MM → Prop} {S0 : MM} {m : Nat} {A : Nat → Nat} {x : Nat} {n : Nat} (hM : MS S0 m A) (K : ∀ S', SM [7, 8, 14, 15, 17, 18] m A S0 S' → IM S' m A → RO A x S0 S' → Q none S') (t_52 : ∀ k, k ≤ n → P_f_noteComes_52 Q S0 m A x k) (t_108 : ∀ k, k ≤ n → P_f_noteComes_108 Q S0 m A x k) : P_f_noteComes_8 Q S0 m A x (n + 1) := by
  intro lv S i1 i2 i3 i4 i5 g0 g1 h1 g2 h2 g3 h3 g4 h4 g5 h5 sh im ex ro hF
  refine u_X8_noteComes_8 ?_
  unfold bX8_noteComes_8
  refine e_ldI g5 ?_
  refine e_cN 5 rfl ?_
  refine e_ge (by omega) (by omega) (fun h1 => ?_) (fun h1 => ?_)
  · obtain ⟨q2, rfl⟩ : ∃ q, n = q + 1 := ⟨n - 1, by omega⟩
    refine u_X8_noteComes_105 ?_
    unfold bX8_noteComes_105
    refine e_cN 0 rfl ?_
    refine e_stI ?_
    exact t_108 q2 (by omega) _ _ i1 i2 i3 i4 0 (lvg_ne g0 rfl (by decide)) (lvg_ne g1 rfl (by decide)) (by omega) (lvg_ne g2 rfl (by decide)) (by omega) (lvg_ne g3 rfl (by decide)) (by omega) (lvg_ne g4 rfl (by decide)) (by omega) lvg_self (by omega) sh im ex ro (by omega)
  · refine e_ldA g0 ?_
    refine e_gR (SM_k sh hM.1) (SM_r sh (hM.2.1 31 (by decide)).1) ?_
    refine e_cN 10 rfl ?_
    refine e_ldI g1 ?_
    refine e_mul ?_
    refine e_cN 5 rfl ?_
    refine e_add ?_
    refine e_ldI g5 ?_
    refine e_add ?_
    refine e_aI (N := 40000) (SM_k sh (hM.2.1 31 (by decide)).2.1) (SM_n sh (hM.2.1 31 (by decide)).2.2.1) (by omega) (by decide) (fun v3 hv4 => ?_)
    refine e_stI ?_
    refine e_ldI (lvg_ne g4 rfl (by decide)) ?_
    refine e_ifN (by omega) (fun h5 => ?_) (fun h5 => ?_)
    · obtain ⟨q6, rfl⟩ : ∃ q, n = q + 1 := ⟨n - 1, by omega⟩
      refine u_X8_noteComes_51 ?_
      unfold bX8_noteComes_51
      refine e_cN 0 rfl ?_
      exact t_52 q6 (by omega) _ _ i1 i2 i3 i4 i5 _ 0 (lvg_ne g0 rfl (by decide)) (lvg_ne g1 rfl (by decide)) (by omega) (lvg_ne g2 rfl (by decide)) (by omega) (lvg_ne g3 rfl (by decide)) (by omega) (lvg_ne g4 rfl (by decide)) (by omega) (lvg_ne g5 rfl (by decide)) (by omega) lvg_self (by omega) sh im ex ro (by omega)
    · refine e_ldI lvg_self ?_
      refine e_ldA (lvg_ne g0 rfl (by decide)) ?_
      refine e_ldI (lvg_ne g2 rfl (by decide)) ?_
      refine e_ldI (lvg_ne g5 rfl (by decide)) ?_
      refine And.intro (SM_k sh hM.1) (And.intro ⟨by decide, by decide⟩ (z_X8_own (MS_SM hM sh) im (show i2 < 16 by omega) (fun r11 S7 s8 ir9 => ?_)))
      have sh10 := SM.tr sh s8 (by decide)
      have ro12 := RO_SM s8 (MS_SM hM sh) (by decide) ro
      refine e_ifc ?_ ?_
      · refine e_cN 1 rfl ?_
        exact t_52 n (by omega) _ _ i1 i2 i3 i4 i5 _ 1 (lvg_ne g0 rfl (by decide)) (lvg_ne g1 rfl (by decide)) (by omega) (lvg_ne g2 rfl (by decide)) (by omega) (lvg_ne g3 rfl (by decide)) (by omega) (lvg_ne g4 rfl (by decide)) (by omega) (lvg_ne g5 rfl (by decide)) (by omega) lvg_self (by omega) sh10 ir9 ex ro12 (by omega)
      · obtain ⟨q13, rfl⟩ : ∃ q, n = q + 1 := ⟨n - 1, by omega⟩
        refine u_X8_noteComes_51 ?_
        unfold bX8_noteComes_51
        refine e_cN 0 rfl ?_
        exact t_52 q13 (by omega) _ _ i1 i2 i3 i4 i5 _ 0 (lvg_ne g0 rfl (by decide)) (lvg_ne g1 rfl (by decide)) (by omega) (lvg_ne g2 rfl (by decide)) (by omega) (lvg_ne g3 rfl (by decide)) (by omega) (lvg_ne g4 rfl (by decide)) (by omega) (lvg_ne g5 rfl (by decide)) (by omega) lvg_self (by omega) sh10 ir9 ex ro12 (by omega)
theorem B_f_noteComes_52 {Q : Option Value → MM → Prop} {S0 : MM} {m : Nat} {A : Nat → Nat} {x : Nat} {n : Nat} (hM : MS S0 m A) (K : ∀ S', SM [7, 8, 14, 15, 17, 18] m A S0 S' → IM S' m A → RO A x S0 S' → Q none S') (t_8 : ∀ k, k ≤ n → P_f_noteComes_8 Q S0 m A x k) : P_f_noteComes_52 Q S0 m A x (n + 1) := by
  intro lv S i1 i2 i3 i4 i5 w6 is0 g0 g1 h1 g2 h2 g3 h3 g4 h4 g5 h5 g6 hs0 sh im ex ro hF
  refine u_X8_noteComes_52 ?_
  unfold bX8_noteComes_52
  refine e_stI ?_
  refine e_ldI (lvg_ne g3 rfl (by decide)) ?_
  refine e_ifN (by omega) (fun h1 => ?_) (fun h1 => ?_)
  · obtain ⟨q2, rfl⟩ : ∃ q, n = q + 1 := ⟨n - 1, by omega⟩
    refine u_X8_noteComes_97 ?_
    unfold bX8_noteComes_97
    refine e_cN 0 rfl ?_
    obtain ⟨q3, rfl⟩ : ∃ q, q2 = q + 1 := ⟨q2 - 1, by omega⟩
    refine u_X8_noteComes_98 ?_
    unfold bX8_noteComes_98
    refine e_stI ?_
    refine e_inc (lvg_ne (lvg_ne g5 rfl (by decide)) rfl (by decide)) ?_
    exact t_8 q3 (by omega) _ _ i1 i2 0 is0 (i5 + 1) (lvg_ne (lvg_ne (lvg_ne g0 rfl (by decide)) rfl (by decide)) rfl (by decide)) (lvg_ne (lvg_ne (lvg_ne g1 rfl (by decide)) rfl (by decide)) rfl (by decide)) (by omega) (lvg_ne (lvg_ne (lvg_ne g2 rfl (by decide)) rfl (by decide)) rfl (by decide)) (by omega) (lvg_ne lvg_self rfl (by decide)) (by omega) (lvg_ne (lvg_ne lvg_self rfl (by decide)) rfl (by decide)) (by omega) lvg_self (by omega) sh im ex ro (by omega)
  · refine e_ldI (lvg_ne g5 rfl (by decide)) ?_
    refine e_cN 4 rfl ?_
    refine e_ge (by omega) (by omega) (fun h4 => ?_) (fun h4 => ?_)
    · obtain ⟨q5, rfl⟩ : ∃ q, n = q + 1 := ⟨n - 1, by omega⟩
      refine u_X8_noteComes_79 ?_
      unfold bX8_noteComes_79
      refine e_ldI (lvg_ne g6 rfl (by decide)) ?_
      refine e_cN 4 rfl ?_
      refine e_bopU (fun r6 => ?_)
      refine e_ldA (lvg_ne g0 rfl (by decide)) ?_
      refine e_ldI (lvg_ne g2 rfl (by decide)) ?_
      refine And.intro (SM_k sh hM.1) (And.intro ⟨by decide, by decide⟩ (z_X8_bits (MS_SM hM sh) im (show i2 < 16 by omega) (fun r11 S7 s8 ir9 => ?_)))
      have sh10 := SM.tr sh s8 (by decide)
      have ro12 := RO_SM s8 (MS_SM hM sh) (by decide) ro
      refine e_cN 4 rfl ?_
      refine e_bopU (fun r13 => ?_)
      refine e_ifc ?_ ?_
      · obtain ⟨q14, rfl⟩ : ∃ q, q5 = q + 1 := ⟨q5 - 1, by omega⟩
        refine u_X8_noteComes_93 ?_
        unfold bX8_noteComes_93
        refine e_cN 1 rfl ?_
        obtain ⟨q15, rfl⟩ : ∃ q, q14 = q + 1 := ⟨q14 - 1, by omega⟩
        refine u_X8_noteComes_98 ?_
        unfold bX8_noteComes_98
        refine e_stI ?_
        refine e_inc (lvg_ne (lvg_ne g5 rfl (by decide)) rfl (by decide)) ?_
        exact t_8 q15 (by omega) _ _ i1 i2 1 is0 (i5 + 1) (lvg_ne (lvg_ne (lvg_ne g0 rfl (by decide)) rfl (by decide)) rfl (by decide)) (lvg_ne (lvg_ne (lvg_ne g1 rfl (by decide)) rfl (by decide)) rfl (by decide)) (by omega) (lvg_ne (lvg_ne (lvg_ne g2 rfl (by decide)) rfl (by decide)) rfl (by decide)) (by omega) (lvg_ne lvg_self rfl (by decide)) (by omega) (lvg_ne (lvg_ne lvg_self rfl (by decide)) rfl (by decide)) (by omega) lvg_self (by omega) sh10 ir9 ex ro12 (by omega)
      · obtain ⟨q16, rfl⟩ : ∃ q, q5 = q + 1 := ⟨q5 - 1, by omega⟩
        refine u_X8_noteComes_97 ?_
        unfold bX8_noteComes_97
        refine e_cN 0 rfl ?_
        obtain ⟨q17, rfl⟩ : ∃ q, q16 = q + 1 := ⟨q16 - 1, by omega⟩
        refine u_X8_noteComes_98 ?_
        unfold bX8_noteComes_98
        refine e_stI ?_
        refine e_inc (lvg_ne (lvg_ne g5 rfl (by decide)) rfl (by decide)) ?_
        exact t_8 q17 (by omega) _ _ i1 i2 0 is0 (i5 + 1) (lvg_ne (lvg_ne (lvg_ne g0 rfl (by decide)) rfl (by decide)) rfl (by decide)) (lvg_ne (lvg_ne (lvg_ne g1 rfl (by decide)) rfl (by decide)) rfl (by decide)) (by omega) (lvg_ne (lvg_ne (lvg_ne g2 rfl (by decide)) rfl (by decide)) rfl (by decide)) (by omega) (lvg_ne lvg_self rfl (by decide)) (by omega) (lvg_ne (lvg_ne lvg_self rfl (by decide)) rfl (by decide)) (by omega) lvg_self (by omega) sh10 ir9 ex ro12 (by omega)
    · refine e_ldI (lvg_ne g6 rfl (by decide)) ?_
      refine e_ldA (lvg_ne g0 rfl (by decide)) ?_
      refine e_ldI (lvg_ne g2 rfl (by decide)) ?_
      refine e_ldI (lvg_ne g5 rfl (by decide)) ?_
      refine And.intro (SM_k sh hM.1) (And.intro ⟨by decide, by decide⟩ (z_X8_own (MS_SM hM sh) im (show i2 < 16 by omega) (fun r22 S18 s19 ir20 => ?_)))
      have sh21 := SM.tr sh s19 (by decide)
      have ro23 := RO_SM s19 (MS_SM hM sh) (by decide) ro
      refine e_ifc ?_ ?_
      · obtain ⟨q24, rfl⟩ : ∃ q, n = q + 1 := ⟨n - 1, by omega⟩
        refine u_X8_noteComes_93 ?_
        unfold bX8_noteComes_93
        refine e_cN 1 rfl ?_
        obtain ⟨q25, rfl⟩ : ∃ q, q24 = q + 1 := ⟨q24 - 1, by omega⟩
        refine u_X8_noteComes_98 ?_
        unfold bX8_noteComes_98
        refine e_stI ?_
        refine e_inc (lvg_ne (lvg_ne g5 rfl (by decide)) rfl (by decide)) ?_
        exact t_8 q25 (by omega) _ _ i1 i2 1 is0 (i5 + 1) (lvg_ne (lvg_ne (lvg_ne g0 rfl (by decide)) rfl (by decide)) rfl (by decide)) (lvg_ne (lvg_ne (lvg_ne g1 rfl (by decide)) rfl (by decide)) rfl (by decide)) (by omega) (lvg_ne (lvg_ne (lvg_ne g2 rfl (by decide)) rfl (by decide)) rfl (by decide)) (by omega) (lvg_ne lvg_self rfl (by decide)) (by omega) (lvg_ne (lvg_ne lvg_self rfl (by decide)) rfl (by decide)) (by omega) lvg_self (by omega) sh21 ir20 ex ro23 (by omega)
      · obtain ⟨q26, rfl⟩ : ∃ q, n = q + 1 := ⟨n - 1, by omega⟩
        refine u_X8_noteComes_97 ?_
        unfold bX8_noteComes_97
        refine e_cN 0 rfl ?_
        obtain ⟨q27, rfl⟩ : ∃ q, q26 = q + 1 := ⟨q26 - 1, by omega⟩
        refine u_X8_noteComes_98 ?_
        unfold bX8_noteComes_98
        refine e_stI ?_
        refine e_inc (lvg_ne (lvg_ne g5 rfl (by decide)) rfl (by decide)) ?_
        exact t_8 q27 (by omega) _ _ i1 i2 0 is0 (i5 + 1) (lvg_ne (lvg_ne (lvg_ne g0 rfl (by decide)) rfl (by decide)) rfl (by decide)) (lvg_ne (lvg_ne (lvg_ne g1 rfl (by decide)) rfl (by decide)) rfl (by decide)) (by omega) (lvg_ne (lvg_ne (lvg_ne g2 rfl (by decide)) rfl (by decide)) rfl (by decide)) (by omega) (lvg_ne lvg_self rfl (by decide)) (by omega) (lvg_ne (lvg_ne lvg_self rfl (by decide)) rfl (by decide)) (by omega) lvg_self (by omega) sh21 ir20 ex ro23 (by omega)
theorem B_f_noteComes_108 {Q : Option Value → MM → Prop} {S0 : MM} {m : Nat} {A : Nat → Nat} {x : Nat} {n : Nat} (hM : MS S0 m A) (K : ∀ S', SM [7, 8, 14, 15, 17, 18] m A S0 S' → IM S' m A → RO A x S0 S' → Q none S') (t_108 : ∀ k, k ≤ n → P_f_noteComes_108 Q S0 m A x k) (t_162 : ∀ k, k ≤ n → P_f_noteComes_162 Q S0 m A x k) : P_f_noteComes_108 Q S0 m A x (n + 1) := by
  intro lv S i1 i2 i3 i4 i5 g0 g1 h1 g2 h2 g3 h3 g4 h4 g5 h5 sh im ex ro hF
  refine u_X8_noteComes_108 ?_
  unfold bX8_noteComes_108
  refine e_ldI g5 ?_
  refine e_cN 5 rfl ?_
  refine e_ge (by omega) (by omega) (fun h1 => ?_) (fun h1 => ?_)
  · obtain ⟨q2, rfl⟩ : ∃ q, n = q + 1 := ⟨n - 1, by omega⟩
    refine u_X8_noteComes_143 ?_
    unfold bX8_noteComes_143
    refine e_ldI g3 ?_
    refine e_ifN (by omega) (fun h3 => ?_) (fun h3 => ?_)
    · refine e_ldA g0 ?_
      refine e_gR (SM_k sh hM.1) (SM_r sh (hM.2.1 18 (by decide)).1) ?_
      refine e_cN 5 rfl ?_
      refine e_ldI g2 ?_
      refine e_mul ?_
      refine e_cN 4 rfl ?_
      refine e_add ?_
      refine e_du2 ?_
      refine e_aI (N := 80) (SM_k sh (hM.2.1 18 (by decide)).2.1) (SM_n sh (hM.2.1 18 (by decide)).2.2.1) (by omega) (by decide) (fun v4 hv5 => ?_)
      refine e_cI ?_
      refine e_bopU (fun r6 => ?_)
      refine y_mA (N := 80) hM sh im (by decide) rfl rfl (by omega) (by decide) (by decide) (fun N e => nomatch (show (none : Option Nat) = some N from e)) (fun e => absurd e (by decide)) (fun S7 he8 sh9 ir10 => ?_)
      have ro11 := RO_w he8 (ne_A hM (by decide) (by decide) (by decide)) ro
      exact t_162 q2 (by omega) _ _ i1 i2 i3 i4 i5 g0 g1 (by omega) g2 (by omega) g3 (by omega) g4 (by omega) g5 (by omega) sh9 ir10 ex ro11 (by omega)
    · exact t_162 q2 (by omega) _ _ i1 i2 i3 i4 i5 g0 g1 (by omega) g2 (by omega) g3 (by omega) g4 (by omega) g5 (by omega) sh im ex ro (by omega)
  · refine e_ldA g0 ?_
    refine e_gR (SM_k sh hM.1) (SM_r sh (hM.2.1 18 (by decide)).1) ?_
    refine e_cN 5 rfl ?_
    refine e_ldI g2 ?_
    refine e_mul ?_
    refine e_ldI g5 ?_
    refine e_add ?_
    refine e_ldA g0 ?_
    refine e_gR (SM_k sh hM.1) (SM_r sh (hM.2.1 31 (by decide)).1) ?_
    refine e_cN 10 rfl ?_
    refine e_ldI g1 ?_
    refine e_mul ?_
    refine e_ldI g5 ?_
    refine e_add ?_
    refine e_aI (N := 40000) (SM_k sh (hM.2.1 31 (by decide)).2.1) (SM_n sh (hM.2.1 31 (by decide)).2.2.1) (by omega) (by decide) (fun v12 hv13 => ?_)
    refine y_mA (N := 80) hM sh im (by decide) rfl rfl (by omega) (by decide) (by decide) (fun N e => nomatch (show (none : Option Nat) = some N from e)) (fun e => absurd e (by decide)) (fun S14 he15 sh16 ir17 => ?_)
    have ro18 := RO_w he15 (ne_A hM (by decide) (by decide) (by decide)) ro
    refine e_inc g5 ?_
    exact t_108 n (by omega) _ _ i1 i2 i3 i4 (i5 + 1) (lvg_ne g0 rfl (by decide)) (lvg_ne g1 rfl (by decide)) (by omega) (lvg_ne g2 rfl (by decide)) (by omega) (lvg_ne g3 rfl (by decide)) (by omega) (lvg_ne g4 rfl (by decide)) (by omega) lvg_self (by omega) sh16 ir17 ex ro18 (by omega)
theorem B_f_noteComes_162 {Q : Option Value → MM → Prop} {S0 : MM} {m : Nat} {A : Nat → Nat} {x : Nat} {n : Nat} (hM : MS S0 m A) (K : ∀ S', SM [7, 8, 14, 15, 17, 18] m A S0 S' → IM S' m A → RO A x S0 S' → Q none S') (t_189 : ∀ k, k ≤ n → P_f_noteComes_189 Q S0 m A x k) : P_f_noteComes_162 Q S0 m A x (n + 1) := by
  intro lv S i1 i2 i3 i4 i5 g0 g1 h1 g2 h2 g3 h3 g4 h4 g5 h5 sh im ex ro hF
  refine u_X8_noteComes_162 ?_
  unfold bX8_noteComes_162
  refine e_ldA g0 ?_
  refine e_gR (SM_k sh hM.1) (SM_r sh (hM.2.1 7 (by decide)).1) ?_
  refine e_ldI g2 ?_
  refine e_cN 2 rfl ?_
  refine y_mA (N := 16) hM sh im (by decide) rfl rfl (by omega) (by decide) (by decide) (fun N e => nomatch (show (none : Option Nat) = some N from e)) (fun e => absurd e (by decide)) (fun S1 he2 sh3 ir4 => ?_)
  have ro5 := RO_7 he2 ex ro
  refine e_ldA g0 ?_
  refine e_gR (SM_k sh3 hM.1) (SM_r sh3 (hM.2.1 8 (by decide)).1) ?_
  refine e_ldI g2 ?_
  refine e_ldA g0 ?_
  refine e_gR (SM_k sh3 hM.1) (SM_r sh3 (hM.2.1 6 (by decide)).1) ?_
  refine e_ldI g2 ?_
  refine e_aI (N := 16) (SM_k sh3 (hM.2.1 6 (by decide)).2.1) (SM_n sh3 (hM.2.1 6 (by decide)).2.2.1) (by omega) (by decide) (fun v6 hv7 => ?_)
  refine e_if0 (fun h8 => ?_) (fun h8 => ?_)
  · obtain ⟨q9, rfl⟩ : ∃ q, n = q + 1 := ⟨n - 1, by omega⟩
    refine u_X8_noteComes_187 ?_
    unfold bX8_noteComes_187
    refine e_cN 90 rfl ?_
    exact t_189 q9 (by omega) _ _ i1 i2 i3 i4 i5 90 i2 g0 g1 (by omega) g2 (by omega) g3 (by omega) g4 (by omega) g5 (by omega) (by omega) (by omega) sh3 ir4 ex ro5 (by omega)
  · refine e_cN 3 rfl ?_
    exact t_189 n (by omega) _ _ i1 i2 i3 i4 i5 3 i2 g0 g1 (by omega) g2 (by omega) g3 (by omega) g4 (by omega) g5 (by omega) (by omega) (by omega) sh3 ir4 ex ro5 (by omega)
theorem B_f_noteComes_189 {Q : Option Value → MM → Prop} {S0 : MM} {m : Nat} {A : Nat → Nat} {x : Nat} {n : Nat} (hM : MS S0 m A) (K : ∀ S', SM [7, 8, 14, 15, 17, 18] m A S0 S' → IM S' m A → RO A x S0 S' → Q none S') (t_202 : ∀ k, k ≤ n → P_f_noteComes_202 Q S0 m A x k) : P_f_noteComes_189 Q S0 m A x (n + 1) := by
  intro lv S i1 i2 i3 i4 i5 is0 is1 g0 g1 h1 g2 h2 g3 h3 g4 h4 g5 h5 hs0 hs1 sh im ex ro hF
  refine u_X8_noteComes_189 ?_
  unfold bX8_noteComes_189
  refine y_mA (N := 16) hM sh im (by decide) rfl rfl (by omega) (by decide) (by decide) (fun N e => nomatch (show (none : Option Nat) = some N from e)) (fun e => absurd e (by decide)) (fun S1 he2 sh3 ir4 => ?_)
  have ro5 := RO_w he2 (ne_A hM (by decide) (by decide) (by decide)) ro
  refine e_ldI g4 ?_
  refine e_ifN (by omega) (fun h6 => ?_) (fun h6 => ?_)
  · refine e_ldA g0 ?_
    refine e_gR (SM_k sh3 hM.1) (SM_r sh3 (hM.2.1 14 (by decide)).1) ?_
    refine e_ldI g2 ?_
    refine e_cN 1 rfl ?_
    refine y_mB (N := 16) hM sh3 ir4 (by decide) rfl rfl (by omega) (by decide) (by omega) (by decide) (fun N e => nomatch (show (none : Option Nat) = some N from e)) (fun e => absurd e (by decide)) (fun S7 he8 sh9 ir10 => ?_)
    have ro11 := RO_w he8 (ne_A hM (by decide) (by decide) (by decide)) ro5
    exact t_202 n (by omega) _ _ i1 i2 i3 i4 i5 g0 g1 (by omega) g2 (by omega) g3 (by omega) g4 (by omega) g5 (by omega) sh9 ir10 ex ro11 (by omega)
  · exact t_202 n (by omega) _ _ i1 i2 i3 i4 i5 g0 g1 (by omega) g2 (by omega) g3 (by omega) g4 (by omega) g5 (by omega) sh3 ir4 ex ro5 (by omega)
theorem B_f_noteComes_202 {Q : Option Value → MM → Prop} {S0 : MM} {m : Nat} {A : Nat → Nat} {x : Nat} {n : Nat} (hM : MS S0 m A) (K : ∀ S', SM [7, 8, 14, 15, 17, 18] m A S0 S' → IM S' m A → RO A x S0 S' → Q none S')  : P_f_noteComes_202 Q S0 m A x (n + 1) := by
  intro lv S i1 i2 i3 i4 i5 g0 g1 h1 g2 h2 g3 h3 g4 h4 g5 h5 sh im ex ro hF
  refine u_X8_noteComes_202 ?_
  unfold bX8_noteComes_202
  refine e_ldA g0 ?_
  refine e_gR (SM_k sh hM.1) (SM_r sh (hM.2.1 15 (by decide)).1) ?_
  refine e_ldI g2 ?_
  refine e_cN 1 rfl ?_
  refine y_mB (N := 16) hM sh im (by decide) rfl rfl (by omega) (by decide) (by omega) (by decide) (fun N e => nomatch (show (none : Option Nat) = some N from e)) (fun e => absurd e (by decide)) (fun S1 he2 sh3 ir4 => ?_)
  have ro5 := RO_w he2 (ne_A hM (by decide) (by decide) (by decide)) ro
  refine e_ldA g0 ?_
  refine e_gR (SM_k sh3 hM.1) (SM_r sh3 (hM.2.1 17 (by decide)).1) ?_
  refine e_ldI g2 ?_
  refine e_du2 ?_
  refine e_aI (N := 16) (SM_k sh3 (hM.2.1 17 (by decide)).2.1) (SM_n sh3 (hM.2.1 17 (by decide)).2.2.1) (by omega) (by decide) (fun v6 hv7 => ?_)
  refine e_cN 1 rfl ?_
  refine e_bopU (fun r8 => ?_)
  refine y_mA (N := 16) hM sh3 ir4 (by decide) rfl rfl (by omega) (by decide) (by decide) (fun N e => nomatch (show (none : Option Nat) = some N from e)) (fun e => absurd e (by decide)) (fun S9 he10 sh11 ir12 => ?_)
  have ro13 := RO_w he10 (ne_A hM (by decide) (by decide) (by decide)) ro5
  exact e_rV (K _ sh11 ir12 ro13)
theorem A_f_noteComes {Q : Option Value → MM → Prop} {S0 : MM} {m : Nat} {A : Nat → Nat} {x : Nat} (hM : MS S0 m A) (K : ∀ S', SM [7, 8, 14, 15, 17, 18] m A S0 S' → IM S' m A → RO A x S0 S' → Q none S') : ∀ n k, k ≤ n → P_f_noteComes_0 Q S0 m A x k ∧ P_f_noteComes_8 Q S0 m A x k ∧ P_f_noteComes_52 Q S0 m A x k ∧ P_f_noteComes_108 Q S0 m A x k ∧ P_f_noteComes_162 Q S0 m A x k ∧ P_f_noteComes_189 Q S0 m A x k ∧ P_f_noteComes_202 Q S0 m A x k := by
  intro n
  induction n with
  | zero =>
    intro k hk
    have e : k = 0 := by omega
    subst e
    exact ⟨(fun lv S i1 i2 _ _ _ _ _ _ _ _ _ hF => absurd hF (by omega)), (fun lv S i1 i2 i3 i4 i5 _ _ _ _ _ _ _ _ _ _ _ _ _ _ _ hF => absurd hF (by omega)), (fun lv S i1 i2 i3 i4 i5 w6 is0 _ _ _ _ _ _ _ _ _ _ _ _ _ _ _ _ _ hF => absurd hF (by omega)), (fun lv S i1 i2 i3 i4 i5 _ _ _ _ _ _ _ _ _ _ _ _ _ _ _ hF => absurd hF (by omega)), (fun lv S i1 i2 i3 i4 i5 _ _ _ _ _ _ _ _ _ _ _ _ _ _ _ hF => absurd hF (by omega)), (fun lv S i1 i2 i3 i4 i5 is0 is1 _ _ _ _ _ _ _ _ _ _ _ _ _ _ _ _ _ hF => absurd hF (by omega)), (fun lv S i1 i2 i3 i4 i5 _ _ _ _ _ _ _ _ _ _ _ _ _ _ _ hF => absurd hF (by omega))⟩
  | succ n ih =>
    intro k hk
    by_cases hn : k ≤ n
    · exact ih k hn
    · have e : k = n + 1 := by omega
      subst e
      have T_0 : ∀ k, k ≤ n → P_f_noteComes_0 Q S0 m A x k := fun k hk => (ih k hk).1
      have T_8 : ∀ k, k ≤ n → P_f_noteComes_8 Q S0 m A x k := fun k hk => (ih k hk).2.1
      have T_52 : ∀ k, k ≤ n → P_f_noteComes_52 Q S0 m A x k := fun k hk => (ih k hk).2.2.1
      have T_108 : ∀ k, k ≤ n → P_f_noteComes_108 Q S0 m A x k := fun k hk => (ih k hk).2.2.2.1
      have T_162 : ∀ k, k ≤ n → P_f_noteComes_162 Q S0 m A x k := fun k hk => (ih k hk).2.2.2.2.1
      have T_189 : ∀ k, k ≤ n → P_f_noteComes_189 Q S0 m A x k := fun k hk => (ih k hk).2.2.2.2.2.1
      have T_202 : ∀ k, k ≤ n → P_f_noteComes_202 Q S0 m A x k := fun k hk => (ih k hk).2.2.2.2.2.2
      exact ⟨B_f_noteComes_0 hM K T_8, B_f_noteComes_8 hM K T_52 T_108, B_f_noteComes_52 hM K T_8, B_f_noteComes_108 hM K T_108 T_162, B_f_noteComes_162 hM K T_189, B_f_noteComes_189 hM K T_202, B_f_noteComes_202 hM K ⟩
theorem z_f_noteComes {Q : Option Value → MM → Prop} {S0 : MM} {m : Nat} {A : Nat → Nat} {x : Nat} {i1 : Nat} {i2 : Nat} (hM : MS S0 m A) (im : IM S0 m A) (h1 : i1 < 4000) (h2 : i2 < 16) (hx : i2 = x) (K : ∀ S', SM [7, 8, 14, 15, 17, 18] m A S0 S' → IM S' m A → RO A x S0 S' → Q none S') : wX8_noteComes [.ref m, .int (nI i1), .int (nI i2)] S0 Q := by
  exact Exists.intro 5766 ((A_f_noteComes hM K 5766 5766 (Nat.le_refl _)).1 _ S0 i1 i2 rfl rfl h1 rfl h2 SM.rf im hx (fun _ _ => rfl) (by omega))
theorem z_v_noteComes {Q : Option Value → MM → Prop} {S0 : MM} {m t x : Nat} {A : Nat → Nat} (hM : MS S0 m A) (im : IM S0 m A) (hR : RV S0 A) (ht : t < 4000) (hx : x < 16) (hl : ∃ c, c < 8 ∧ sI S0 (A 11) x = nI c ∧ sI S0 (A 25) c ≠ 0) (K : ∀ S', SM [7, 8, 14, 15, 17, 18] m A S0 S' → IM S' m A → RV S' A → Q none S') : wX8_noteComes [.ref m, .int (nI t), .int (nI x)] S0 Q := z_f_noteComes hM im ht hx rfl (fun S' s i r => K S' s i (RV_RO hR hM s (by decide) r hx hl))
