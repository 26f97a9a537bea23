/-! SIMULATION 103: the calls that make it unquiet, with the counters -/
theorem zq_notQuiet {Q : Option Value → MM → Prop} {S0 : MM} {m : Nat} {A : Nat → Nat} (hM : MS S0 m A) (im : IM S0 m A) (K : ∀ S', SM [44] m A S0 S' → IM S' m A → sI S' m 44 = 0 → Q none S') : wX8_isNotQuiet [.ref m] S0 Q := by
  have sh : SM [44] m A S0 S0 := SM.rf
  refine Exists.intro 60 (u_X8_isNotQuiet_0 ?_)
  unfold bX8_isNotQuiet_0
  refine e_ldA rfl (e_cN 0 rfl (y_mI hM sh im (by decide) (fun N e => nomatch (show (none : Option Nat) = some N from e)) (fun S1 he2 sh3 ir4 => e_rV (K _ sh3 ir4 (by rw [he2]; exact rd_s)))))
theorem y_Mlimit {Q : Option Value → MM → Prop} {S0 : MM} {m : Nat} {A : Nat → Nat} {v w : Int32} (hM : MS S0 m A) (im : IM S0 m A) (hb : LIB v w → ∀ S', SM [0] m A S0 S' → IM S' m A → sI S' m 0 = nI 1 → Q (some (.int 0)) S') (ho : ∀ j, j < 2 → v = nI j → ¬ LIB v w → ∀ S', SM [0, 2, 44] m A S0 S' → IM S' m A → sI S' m 0 = nI 0 → sI S' (A 2) = upd (sI S0 (A 2)) j w → sI S' m 44 = 0 → Q (some (.int (sI S0 (A 2) j))) S') : wX8_limit [.ref m, .int v, .int w] S0 Q := by
  have th : LIB v w → wpn (kX8_limit Q) 9 19 (lv_args 0 [.ref m, .int v, .int w]) [.ref m] S0 0 0 := fun h => q_Ml_bad (n := 7) hM im rfl (hb h)
  refine Exists.intro 10 (u_X8_limit_0 ?_)
  unfold bX8_limit_0
  refine e_ldA rfl (e_ldI rfl (And.intro ⟨by decide, by decide⟩ (z_MisEnd' (fun h => e_ifN (by decide) (fun _ => th (Or.inl h)) (fun q => absurd rfl q)) (fun j hj ej => e_ifN (by decide) (fun q => absurd q (by decide)) (fun _ => ?_)))))
  refine e_ldI rfl (e_cI ⟨fun h => th (Or.inr (Or.inl h)), fun h1 => e_ldI rfl (e_cI ⟨fun h2 => ?_, fun h => th (Or.inr (Or.inr h))⟩)⟩)
  have nb : ¬ LIB v w := fun q => by
    rcases q with q | q | q
    · exact nbE hj (ej ▸ q)
    · exact h1 q
    · exact q h2
  have K := ho j hj ej nb
  subst ej
  refine u_X8_limit_23 ?_
  unfold bX8_limit_23
  refine e_cI (u_X8_limit_24 ?_)
  unfold bX8_limit_24
  refine y_mI (W := [0, 2, 44]) hM SM.rf im (by decide) (fun N e => nomatch (show (none : Option Nat) = some N from e)) (fun S1 he sh im1 => ?_)
  have v0 : sI S1 m 0 = 0 := by rw [he]; exact rd_s
  have hM1 := MS_SM hM sh
  have a2 : sI S1 (A 2) = sI S0 (A 2) := fn_o he rfl (ne_m hM (by decide))
  refine e_ldA rfl (e_gV (v := 0) (SM_k sh hM.1) v0 ⟨fun _ => u_X8_limit_36 ?_, fun z => absurd (by decide) z⟩)
  unfold bX8_limit_36
  refine e_ldA rfl (e_gR hM1.1 (hM1.2.1 2 (by decide)).1 (e_ldI rfl (e_aV (N := 2) (v := sI S0 (A 2) j) (kdA hM1 (by decide) rfl) (lnA hM1 (by decide) rfl) hj (by decide) (by rw [a2]) (e_stI (e_ldA (lvg_ne rfl rfl (by decide)) (e_gR hM1.1 (hM1.2.1 2 (by decide)).1 (e_ldI (lvg_ne rfl rfl (by decide)) (e_ldI (lvg_ne rfl rfl (by decide)) (y_mA (N := 2) hM sh im1 (by decide) rfl rfl hj (by decide) (by decide) (fun N e => nomatch (show (none : Option Nat) = some N from e)) (fun e => absurd e (by decide)) (fun S2 he2 sh2 im2 => ?_))))))))))
  have v2 : sI S2 m 0 = 0 := by rw [he2]; exact rd_a v0 (Ne.symm (ne_m hM (by decide)))
  have hM2 := MS_SM hM sh2
  exact e_ldA (lvg_ne rfl rfl (by decide)) (And.intro (SM_k sh2 hM.1) (And.intro ⟨by decide, by decide⟩ (zq_notQuiet hM2 im2 (fun S9 s9 im9 q9 => e_ldI lvg_self (e_rI (K S9 (SM.tr sh2 s9 (by decide)) im9 ((s9.2.2.2.2.2 0 (by decide)).trans v2) ((SM_a s9 hM2 (by decide) (by decide)).trans (fn_s he2 a2)) q9))))))
theorem y_Msystem {Q : Option Value → MM → Prop} {S0 : MM} {m : Nat} {A : Nat → Nat} {v w : Int32} (hM : MS S0 m A) (im : IM S0 m A) (hb : SIB v w → ∀ S', SM [0] m A S0 S' → IM S' m A → sI S' m 0 = nI 1 → Q (some (.int 0)) S') (hs : ∀ j, j < 2 → v = nI j → ¬ SIB v w → sI S0 (A 1) (1 - j) = w → ∀ S', SM [0] m A S0 S' → IM S' m A → sI S' m 0 = nI 2 → Q (some (.int 0)) S') (ho : ∀ j, j < 2 → v = nI j → ¬ SIB v w → ¬ sI S0 (A 1) (1 - j) = w → ∀ S', SM [0, 1, 44] m A S0 S' → IM S' m A → sI S' m 0 = nI 0 → sI S' (A 1) = upd (sI S0 (A 1)) j w → sI S' m 44 = 0 → Q (some (.int (sI S0 (A 1) j))) S') : wX8_system [.ref m, .int v, .int w] S0 Q := by
  have th : SIB v w → wpn (kX8_system Q) 9 19 (lv_args 0 [.ref m, .int v, .int w]) [.ref m] S0 0 0 := fun h => by
    refine u_X8_system_19 ?_
    unfold bX8_system_19
    exact e_cN 1 rfl (q_Ms_bad (n := 7) (k := 1) (by decide) hM im rfl (hb h))
  refine Exists.intro 10 (u_X8_system_0 ?_)
  unfold bX8_system_0
  refine e_ldA rfl (e_ldI rfl (And.intro ⟨by decide, by decide⟩ (z_MisEnd' (fun h => e_ifN (by decide) (fun _ => th (Or.inl h)) (fun q => absurd rfl q)) (fun j hj ej => e_ifN (by decide) (fun q => absurd q (by decide)) (fun _ => ?_)))))
  refine e_ldI rfl (e_cI ⟨fun h => th (Or.inr (Or.inl h)), fun h1 => e_ldI rfl (e_cI ⟨fun h2 => ?_, fun h => th (Or.inr (Or.inr h))⟩)⟩)
  have nb : ¬ SIB v w := fun q => by
    rcases q with q | q | q
    · exact nbE hj (ej ▸ q)
    · exact h1 q
    · exact q h2
  have K := ho j hj ej nb
  have KS := hs j hj ej nb
  subst ej
  refine u_X8_system_23 ?_
  unfold bX8_system_23
  refine e_ldA rfl (e_gR hM.1 (hM.2.1 1 (by decide)).1 (e_cN 1 rfl (e_ldI rfl (e_sub (by omega) (e_aV (N := 2) (v := sI S0 (A 1) (1 - j)) (kdA hM (by decide) rfl) (lnA hM (by decide) rfl) (by omega) (by decide) rfl (e_ldI rfl ⟨fun he => e_cN 2 rfl (q_Ms_bad (n := 7) (k := 2) (by decide) hM im rfl (KS he)), fun hn => u_X8_system_39 ?_⟩))))))
  unfold bX8_system_39
  refine e_cI (u_X8_system_40 ?_)
  unfold bX8_system_40
  refine y_mI (W := [0, 1, 44]) hM SM.rf im (by decide) (fun N e => nomatch (show (none : Option Nat) = some N from e)) (fun S1 he sh im1 => ?_)
  have v0 : sI S1 m 0 = 0 := by rw [he]; exact rd_s
  have hM1 := MS_SM hM sh
  have a2 : sI S1 (A 1) = sI S0 (A 1) := fn_o he rfl (ne_m hM (by decide))
  refine e_ldA rfl (e_gV (v := 0) (SM_k sh hM.1) v0 ⟨fun _ => u_X8_system_52 ?_, fun z => absurd (by decide) z⟩)
  unfold bX8_system_52
  refine e_ldA rfl (e_gR hM1.1 (hM1.2.1 1 (by decide)).1 (e_ldI rfl (e_aV (N := 2) (v := sI S0 (A 1) j) (kdA hM1 (by decide) rfl) (lnA hM1 (by decide) rfl) hj (by decide) (by rw [a2]) (e_stI (e_ldA (lvg_ne rfl rfl (by decide)) (e_gR hM1.1 (hM1.2.1 1 (by decide)).1 (e_ldI (lvg_ne rfl rfl (by decide)) (e_ldI (lvg_ne rfl rfl (by decide)) (y_mA (N := 2) hM sh im1 (by decide) rfl rfl hj (by decide) (by decide) (fun N e => nomatch (show (none : Option Nat) = some N from e)) (fun e => absurd e (by decide)) (fun S2 he2 sh2 im2 => ?_))))))))))
  have v2 : sI S2 m 0 = 0 := by rw [he2]; exact rd_a v0 (Ne.symm (ne_m hM (by decide)))
  have hM2 := MS_SM hM sh2
  exact e_ldA (lvg_ne rfl rfl (by decide)) (And.intro (SM_k sh2 hM.1) (And.intro ⟨by decide, by decide⟩ (zq_notQuiet hM2 im2 (fun S9 s9 im9 q9 => e_ldI lvg_self (e_rI (K hn S9 (SM.tr sh2 s9 (by decide)) im9 ((s9.2.2.2.2.2 0 (by decide)).trans v2) ((SM_a s9 hM2 (by decide) (by decide)).trans (fn_s he2 a2)) q9))))))
theorem yqx_port_good {Q : Option Value → MM → Prop} {S0 : MM} {m n : Nat} {A : Nat → Nat} {lv : Lv} {j i : Nat} {k p : Int32} (hj : j < 2) (hi : i < 8) (hM : MS S0 m A) (im : IM S0 m A) (g0 : lvg lv 0 = some (.ref m)) (g1 : lvg lv 1 = some (.int (nI j))) (g2 : lvg lv 2 = some (.int (nI i))) (g3 : lvg lv 3 = some (.int k)) (g4 : lvg lv 4 = some (.int p)) (h : ∀ S', SM [0, 3, 4, 44] m A S0 S' → IM S' m A → sI S' (A 3) = upd (sI S0 (A 3)) (8 * j + i) k → sI S' (A 4) = upd (sI S0 (A 4)) (8 * j + i) p → sI S' m 44 = 0 → Q none S') : wpn (kX8_port Q) (n + 3) 41 lv [.ref m] S0 0 0 := by
  refine u_X8_port_41 ?_
  unfold bX8_port_41
  refine e_cI (u_X8_port_42 ?_)
  unfold bX8_port_42
  refine y_mI (W := [0, 3, 4, 44]) hM SM.rf im (by decide) (fun N e => nomatch (show (none : Option Nat) = some N from e)) (fun S1 he sh im1 => ?_)
  have v0 : sI S1 m 0 = 0 := by rw [he]; exact rd_s
  refine e_ldA g0 (e_gV (v := 0) (SM_k sh hM.1) v0 ⟨fun _ => u_X8_port_53 ?_, fun z => absurd (by decide) z⟩)
  unfold bX8_port_53
  refine e_ldA g0 (e_gR (SM_k sh hM.1) (SM_r sh (hM.2.1 3 (by decide)).1) (e_cN 8 rfl (e_ldI g1 (e_mul (e_ldI g2 (e_add (e_ldI g3 (y_mA (N := 16) hM sh im1 (by decide) rfl rfl (by omega) (by decide) (by decide) (fun N e => nomatch (show (none : Option Nat) = some N from e)) (fun e => absurd e (by decide)) (fun S2 he2 sh2 im2 => ?_)))))))))
  have v2 : sI S2 m 0 = 0 := by rw [he2]; exact rd_a v0 (Ne.symm (ne_m hM (by decide)))
  refine e_ldA g0 (e_gR (SM_k sh2 hM.1) (SM_r sh2 (hM.2.1 4 (by decide)).1) (e_cN 8 rfl (e_ldI g1 (e_mul (e_ldI g2 (e_add (e_ldI g4 (y_mA (N := 16) hM sh2 im2 (by decide) rfl rfl (by omega) (by decide) (by decide) (fun N e => nomatch (show (none : Option Nat) = some N from e)) (fun e => absurd e (by decide)) (fun S3 he3 sh3 im3 => ?_)))))))))
  have v3 : sI S3 m 0 = 0 := by rw [he3]; exact rd_a v2 (Ne.symm (ne_m hM (by decide)))
  exact e_ldA g0 (And.intro (SM_k sh3 hM.1) (And.intro ⟨by decide, by decide⟩ (zq_notQuiet (MS_SM hM sh3) im3 (fun S9 s9 im9 q9 => e_rV (h S9 (SM.tr sh3 s9 (by decide)) im9 (by rw [SM_a s9 (MS_SM hM sh3) (by decide) (by decide), he3, sI_pI, up2_row (ne_A hM (by decide) (by decide) (by decide)), he2, sI_pI, up2_upd, he, sI_pI, up2_row (ne_m hM (by decide))]) (by rw [SM_a s9 (MS_SM hM sh3) (by decide) (by decide), he3, sI_pI, up2_upd, he2, sI_pI, up2_row (ne_A hM (by decide) (by decide) (by decide)), he, sI_pI, up2_row (ne_m hM (by decide))]) q9)))))
theorem yx_Mport {Q : Option Value → MM → Prop} {S0 : MM} {m : Nat} {A : Nat → Nat} {v w k p : Int32} (hM : MS S0 m A) (im : IM S0 m A) (hb : PB v w k p → ∀ S', SM [0] m A S0 S' → IM S' m A → Q none S') (ho : ∀ j i, j < 2 → i < 8 → v = nI j → w = nI i → ¬ PB v w k p → ∀ S', SM [0, 3, 4, 44] m A S0 S' → IM S' m A → sI S' (A 3) = upd (sI S0 (A 3)) (8 * j + i) k → sI S' (A 4) = upd (sI S0 (A 4)) (8 * j + i) p → sI S' m 44 = 0 → Q none S') : wX8_port [.ref m, .int v, .int w, .int k, .int p] S0 Q := by
  have th : PB v w k p → wpn (kX8_port Q) 9 37 (lv_args 0 [.ref m, .int v, .int w, .int k, .int p]) [.ref m] S0 0 0 := fun h => qx_port_bad (n := 7) hM im rfl (hb h)
  refine Exists.intro 10 (u_X8_port_0 ?_)
  unfold bX8_port_0
  refine e_ldA rfl (e_ldI rfl (And.intro ⟨by decide, by decide⟩ (z_MisEnd' (fun h => e_ifN (by decide) (fun _ => th (Or.inl h)) (fun q => absurd rfl q)) (fun j hj ej => e_ifN (by decide) (fun q => absurd q (by decide)) (fun _ => ?_)))))
  refine e_ldI rfl (And.intro ⟨by decide, by decide⟩ (z_MisPort' (fun h => e_ifN (by decide) (fun _ => th (Or.inr (Or.inl h))) (fun q => absurd rfl q)) (fun i hi ei => e_ifN (by decide) (fun q => absurd q (by decide)) (fun _ => ?_))))
  refine e_ldI rfl ⟨fun h => th (Or.inr (Or.inr (Or.inl (Or.inl h)))), fun k0 => e_ldI rfl (e_cI ⟨fun h => th (Or.inr (Or.inr (Or.inl (Or.inr h)))), fun k1 => ?_⟩)⟩
  refine e_ldI rfl ⟨fun h => th (Or.inr (Or.inr (Or.inr (Or.inl h)))), fun p0 => e_ldI rfl (e_cI ⟨fun p1 => ?_, fun h => th (Or.inr (Or.inr (Or.inr (Or.inr (not_le' h)))))⟩)⟩
  have nb : ¬ PB v w k p := fun q => by
    rcases q with q | q | q | q
    · exact nbE hj (ej ▸ q)
    · exact nb8 hi (ei ▸ q)
    · exact q.elim k0 k1
    · exact q.elim p0 (fun z => absurd p1 (fun y => by
        have a := Int32.lt_iff_toInt_lt.mp z
        have b := Int32.le_iff_toInt_le.mp y
        omega))
  have ho3 := ho j i hj hi ej ei nb
  subst ej ei
  exact yqx_port_good (n := 6) hj hi hM im rfl rfl rfl rfl rfl ho3
theorem yqx_manner_good {Q : Option Value → MM → Prop} {S0 : MM} {m n : Nat} {A : Nat → Nat} {lv : Lv} {j i a b : Nat} (hj : j < 2) (hi : i < 8) (ha : a < 2) (hb : b < 2) (hM : MS S0 m A) (im : IM S0 m A) (g0 : lvg lv 0 = some (.ref m)) (g1 : lvg lv 1 = some (.int (nI j))) (g2 : lvg lv 2 = some (.int (nI i))) (g3 : lvg lv 3 = some (.int (nI a))) (g4 : lvg lv 4 = some (.int (nI b))) (h : ∀ S', SM [0, 5, 6, 44] m A S0 S' → IM S' m A → sI S' (A 5) = upd (sI S0 (A 5)) (8 * j + i) (nI a) → sI S' (A 6) = upd (sI S0 (A 6)) (8 * j + i) (nI b) → sI S' m 44 = 0 → Q none S') : wpn (kX8_manner Q) (n + 3) 19 lv [.ref m] S0 0 0 := by
  refine u_X8_manner_19 ?_
  unfold bX8_manner_19
  refine e_cI (u_X8_manner_20 ?_)
  unfold bX8_manner_20
  refine y_mI (W := [0, 5, 6, 44]) hM SM.rf im (by decide) (fun N e => nomatch (show (none : Option Nat) = some N from e)) (fun S1 he sh im1 => ?_)
  have v0 : sI S1 m 0 = 0 := by rw [he]; exact rd_s
  refine e_ldA g0 (e_gV (v := 0) (SM_k sh hM.1) v0 ⟨fun _ => u_X8_manner_31 ?_, fun z => absurd (by decide) z⟩)
  unfold bX8_manner_31
  refine e_ldA g0 (e_gR (SM_k sh hM.1) (SM_r sh (hM.2.1 5 (by decide)).1) (e_cN 8 rfl (e_ldI g1 (e_mul (e_ldI g2 (e_add (e_ldI g3 (y_mB (N := 16) hM sh im1 (by decide) rfl rfl (by omega) (by decide) ha (by decide) (fun N e => nomatch (show (none : Option Nat) = some N from e)) (fun e => absurd e (by decide)) (fun S2 he2 sh2 im2 => ?_)))))))))
  have v2 : sI S2 m 0 = 0 := by rw [he2]; exact rd_a v0 (Ne.symm (ne_m hM (by decide)))
  refine e_ldA g0 (e_gR (SM_k sh2 hM.1) (SM_r sh2 (hM.2.1 6 (by decide)).1) (e_cN 8 rfl (e_ldI g1 (e_mul (e_ldI g2 (e_add (e_ldI g4 (y_mB (N := 16) hM sh2 im2 (by decide) rfl rfl (by omega) (by decide) hb (by decide) (fun N e => nomatch (show (none : Option Nat) = some N from e)) (fun e => absurd e (by decide)) (fun S3 he3 sh3 im3 => ?_)))))))))
  have v3 : sI S3 m 0 = 0 := by rw [he3]; exact rd_a v2 (Ne.symm (ne_m hM (by decide)))
  exact e_ldA g0 (And.intro (SM_k sh3 hM.1) (And.intro ⟨by decide, by decide⟩ (zq_notQuiet (MS_SM hM sh3) im3 (fun S9 s9 im9 q9 => e_rV (h S9 (SM.tr sh3 s9 (by decide)) im9 (by rw [SM_a s9 (MS_SM hM sh3) (by decide) (by decide), he3, sI_pI, up2_row (ne_A hM (by decide) (by decide) (by decide)), he2, sI_pI, up2_upd, he, sI_pI, up2_row (ne_m hM (by decide))]) (by rw [SM_a s9 (MS_SM hM sh3) (by decide) (by decide), he3, sI_pI, up2_upd, he2, sI_pI, up2_row (ne_A hM (by decide) (by decide) (by decide)), he, sI_pI, up2_row (ne_m hM (by decide))]) q9)))))
theorem yx_Mmanner {Q : Option Value → MM → Prop} {S0 : MM} {m a b : Nat} {A : Nat → Nat} {v w : Int32} (hM : MS S0 m A) (im : IM S0 m A) (ha : a < 2) (hb2 : b < 2) (hb : MB v w → ∀ S', SM [0] m A S0 S' → IM S' m A → Q none S') (ho : ∀ j i, j < 2 → i < 8 → v = nI j → w = nI i → ¬ MB v w → ∀ S', SM [0, 5, 6, 44] m A S0 S' → IM S' m A → sI S' (A 5) = upd (sI S0 (A 5)) (8 * j + i) (nI a) → sI S' (A 6) = upd (sI S0 (A 6)) (8 * j + i) (nI b) → sI S' m 44 = 0 → Q none S') : wX8_manner [.ref m, .int v, .int w, .int (nI a), .int (nI b)] S0 Q := by
  have th : MB v w → wpn (kX8_manner Q) 9 15 (lv_args 0 [.ref m, .int v, .int w, .int (nI a), .int (nI b)]) [.ref m] S0 0 0 := fun h => qx_manner_bad (n := 7) hM im rfl (hb h)
  refine Exists.intro 10 (u_X8_manner_0 ?_)
  unfold bX8_manner_0
  refine e_ldA rfl (e_ldI rfl (And.intro ⟨by decide, by decide⟩ (z_MisEnd' (fun h => e_ifN (by decide) (fun _ => th (Or.inl h)) (fun q => absurd rfl q)) (fun j hj ej => e_ifN (by decide) (fun q => absurd q (by decide)) (fun _ => ?_)))))
  refine e_ldI rfl (And.intro ⟨by decide, by decide⟩ (z_MisPort' (fun h => e_ifN (by decide) (fun _ => th (Or.inr h)) (fun q => absurd rfl q)) (fun i hi ei => e_ifN (by decide) (fun q => absurd q (by decide)) (fun _ => ?_))))
  have nb : ¬ MB v w := fun q => q.elim (fun z => nbE hj (ej ▸ z)) (fun z => nb8 hi (ei ▸ z))
  have ho3 := ho j i hj hi ej ei nb
  subst ej ei
  exact yqx_manner_good (n := 6) hj hi ha hb2 hM im rfl rfl rfl rfl rfl ho3
theorem yqx_lose_good {Q : Option Value → MM → Prop} {S0 : MM} {m n : Nat} {A : Nat → Nat} {lv : Lv} {j i : Nat} {p : Int32} (hj : j < 2) (hi : i < 8) (hM : MS S0 m A) (im : IM S0 m A) (g0 : lvg lv 0 = some (.ref m)) (g1 : lvg lv 1 = some (.int (nI j))) (g2 : lvg lv 2 = some (.int (nI i))) (g3 : lvg lv 3 = some (.int p)) (h : ∀ S', SM [0, 26, 44] m A S0 S' → IM S' m A → sI S' (A 26) = upd (sI S0 (A 26)) (2 * i + j) p → sI S' m 44 = 0 → Q none S') : wpn (kX8_lose Q) (n + 3) 29 lv [.ref m] S0 0 0 := by
  refine u_X8_lose_29 ?_
  unfold bX8_lose_29
  refine e_cI (u_X8_lose_30 ?_)
  unfold bX8_lose_30
  refine y_mI (W := [0, 26, 44]) hM SM.rf im (by decide) (fun N e => nomatch (show (none : Option Nat) = some N from e)) (fun S1 he sh im1 => ?_)
  have v0 : sI S1 m 0 = 0 := by rw [he]; exact rd_s
  refine e_ldA g0 (e_gV (v := 0) (SM_k sh hM.1) v0 ⟨fun _ => u_X8_lose_41 ?_, fun z => absurd (by decide) z⟩)
  unfold bX8_lose_41
  refine e_ldA g0 (e_gR (SM_k sh hM.1) (SM_r sh (hM.2.1 26 (by decide)).1) (e_cN 2 rfl (e_ldI g2 (e_mul (e_ldI g1 (e_add (e_ldI g3 (y_mA (N := 16) hM sh im1 (by decide) rfl rfl (by omega) (by decide) (by decide) (fun N e => nomatch (show (none : Option Nat) = some N from e)) (fun e => absurd e (by decide)) (fun S2 he2 sh2 im2 => ?_)))))))))
  have v2 : sI S2 m 0 = 0 := by rw [he2]; exact rd_a v0 (Ne.symm (ne_m hM (by decide)))
  exact e_ldA g0 (And.intro (SM_k sh2 hM.1) (And.intro ⟨by decide, by decide⟩ (zq_notQuiet (MS_SM hM sh2) im2 (fun S9 s9 im9 q9 => e_rV (h S9 (SM.tr sh2 s9 (by decide)) im9 (by rw [SM_a s9 (MS_SM hM sh2) (by decide) (by decide), he2, sI_pI, up2_upd, he, sI_pI, up2_row (ne_m hM (by decide))]) q9)))))
theorem yx_Mlose {Q : Option Value → MM → Prop} {S0 : MM} {m : Nat} {A : Nat → Nat} {v w p : Int32} (hM : MS S0 m A) (im : IM S0 m A) (hb : LB v w p → ∀ S', SM [0] m A S0 S' → IM S' m A → Q none S') (ho : ∀ j i, j < 2 → i < 8 → v = nI j → w = nI i → ¬ LB v w p → ∀ S', SM [0, 26, 44] m A S0 S' → IM S' m A → sI S' (A 26) = upd (sI S0 (A 26)) (2 * i + j) p → sI S' m 44 = 0 → Q none S') : wX8_lose [.ref m, .int v, .int w, .int p] S0 Q := by
  have th : LB v w p → wpn (kX8_lose Q) 9 25 (lv_args 0 [.ref m, .int v, .int w, .int p]) [.ref m] S0 0 0 := fun h => qx_lose_bad (n := 7) hM im rfl (hb h)
  refine Exists.intro 10 (u_X8_lose_0 ?_)
  unfold bX8_lose_0
  refine e_ldA rfl (e_ldI rfl (And.intro ⟨by decide, by decide⟩ (z_MisEnd' (fun h => e_ifN (by decide) (fun _ => th (Or.inl h)) (fun q => absurd rfl q)) (fun j hj ej => e_ifN (by decide) (fun q => absurd q (by decide)) (fun _ => ?_)))))
  refine e_ldI rfl (And.intro ⟨by decide, by decide⟩ (z_MisCable' (fun h => e_ifN (by decide) (fun _ => th (Or.inr (Or.inl h))) (fun q => absurd rfl q)) (fun i hi ei => e_ifN (by decide) (fun q => absurd q (by decide)) (fun _ => ?_))))
  refine e_ldI rfl ⟨fun h => th (Or.inr (Or.inr (Or.inl h))), fun p0 => e_ldI rfl (e_cI ⟨fun p1 => ?_, fun h => th (Or.inr (Or.inr (Or.inr h)))⟩)⟩
  have nb : ¬ LB v w p := fun q => by
    rcases q with q | q | q
    · exact nbE hj (ej ▸ q)
    · exact nb8 hi (ei ▸ q)
    · exact q.elim p0 (fun z => z p1)
  have ho3 := ho j i hj hi ej ei nb
  subst ej ei
  exact yqx_lose_good (n := 6) hj hi hM im rfl rfl rfl rfl ho3
def XW : List Nat := [27, 28, 29, 30, 31, 32, 33, 34, 35, 37, 38, 39, 40, 45, 46, 47, 48, 49]
theorem xs_ok {W : List Nat} {S S1 S2 : MM} {x m out i : Nat} {A : Nat → Nat} (hX : GX S x m out A i) (hh : GH S S1 x m out A) (er : sR S1 = sR S) (fa : FA S x (sI S) (sI S1)) (hE : ∀ e, e < 2 → ∀ k, (k = 7 ∨ k = 8) → sI S1 (En (sR S) x e) k = sI S (En (sR S) x e) k) (cj : ∀ j, j ≠ 3 → sI S1 x j = sI S x j) (e : SM W m A S1 S2) (hw : ∀ k ∈ XW, k ∉ W) (ct : sI S1 x 3 = sI S2 m 44) : XSs S2 x m A := by
  obtain ⟨hP, _, φ, ⟨x3, x4, x5, x6, x7, x8⟩, ep, xg⟩ := hX
  have hL := ly_of hP.1
  have hM0 := hP.1.2.2.2.2.2.1
  have hM1 := MS_b hh
  have ek := hh.2.2.2.2.2.2.2.2
  have em := hh.2.2.2.2.2.2.2.1
  have f2 : FA S x (sI S1) (sI S2) := fa_z hL hM0 (fz_SM hM1 e)
  have cell : ∀ z k, sK S z = k → k ≠ 9 ∧ k ≠ 10 ∧ k ≠ 11 → sI S2 z = sI S1 z := fun z k hz hk => fz_SM hM1 e z (no_ref hM0 hz hk).1 (no_ref hM0 hz hk).2
  have bx : sI S2 x = sI S1 x := cell x 8 hL.2 (by decide)
  have jk : ∀ k, k ∈ XW → k ∈ DM → sI S2 (A k) = sI S (A k) := fun k hk hd => by rw [SM_a e hM1 hd (hw k hk), ek k hd]
  have jm : ∀ j, j ∈ XW → sI S2 m j = sI S m j := fun j hj => by rw [e.2.2.2.2.2 j (hw j hj), em]
  have fok : ∀ c e, c < 8 → e < 2 → FOK (sI S) (sR S) x c e := fun c e hc he => (hP.2.1.2.1 c e hc he).1
  refine ⟨φ, ⟨?_, ?_, ?_, ?_, ?_, ?_⟩, fun e' he' => ?_, ?_⟩
  · rw [bx]; exact ct
  · rw [bx, cj 4 (by decide), jm 45 (by decide)]; exact x4
  · rw [bx, cj 5 (by decide), jm 46 (by decide)]; exact x5
  · rw [bx, cj 6 (by decide), jm 47 (by decide)]; exact x6
  · rw [bx, cj 7 (by decide), jm 48 (by decide)]; exact x7
  · rw [bx, cj 8 (by decide), jm 49 (by decide)]; exact x8
  · rw [e.2.2.1, er, cell _ 2 (ly_E hL he').2.1 (by decide), hE e' he' 8 (Or.inr rfl), hE e' he' 7 (Or.inl rfl), jk 40 (by decide) (by decide), jk 33 (by decide) (by decide), jm 39 (by decide)]
    exact ep e' he'
  · rw [e.2.2.1, er, jm 32 (by decide), jm 39 (by decide)]
    exact XG_t hL fok (fa.tr f2) (fun k hk => jk k (by rcases hk with rfl | rfl | rfl | rfl | rfl <;> decide) (by rcases hk with rfl | rfl | rfl | rfl | rfl <;> decide)) (TG_c (fun t _ => tg_k (fun k hk => jk k ((show ∀ k ∈ ([27, 28, 29, 30, 31] : List Nat), k ∈ XW by decide) k hk) ((show ∀ k ∈ ([27, 28, 29, 30, 31] : List Nat), k ∈ DM by decide) k hk)))) xg
theorem gx_bad {S S1 S2 : MM} {x m out i : Nat} {A : Nat → Nat} (hX : GX S x m out A i) (hh : GH S S1 x m out A) (er : sR S1 = sR S) (ei : sI S1 = sI S) (e : SM [0] m A S1 S2) (im : IM S2 m A) : GX S2 x m out A (i + 1) := by
  obtain ⟨φ, ⟨x3, _⟩, _⟩ := id hX.2.2
  exact ⟨p_same hX.1 hh er ei e im, cm_fs hh (cm_same hX.2.1 er ei) (FS.sm (MS_b hh) e), xs_ok hX hh er (by rw [ei]; exact FA.rf) (fun _ _ _ _ => by rw [ei]) (fun _ _ => by rw [ei]) e (by decide) (by rw [ei, x3, e.2.2.2.2.2 44 (by decide), hh.2.2.2.2.2.2.2.1])⟩
theorem gx_ok {W : List Nat} {S S1 S2 : MM} {x m out i : Nat} {A : Nat → Nat} (hX : GX S x m out A i) (hh : GH S S1 x m out A) (cm : CMt S1 x) (ce : CEx S S1 x) (e : SM W m A S1 S2) (hw : ∀ k ∈ XW, k ∉ W) (q : sI S2 m 44 = 0) (hP : GP S2 x m out A (i + 1)) : GX S2 x m out A (i + 1) := ⟨hP, cm_fs hh cm (FS.sm (MS_b hh) e), xs_ok hX hh ce.1 ce.2.1 ce.2.2.2.2 ce.2.2.2.1 e hw (by rw [ce.2.2.1, q]; rfl)⟩
theorem rn_o {S : MM} {b e : Nat} {I : Mm} {v : Int32} (hL : LY S b) (hO : OC S) (he : e < 2) : f_X1_rename I (sR S) b e v b = I b ∧ ∀ e', e' < 2 → ∀ k, (k = 7 ∨ k = 8) → f_X1_rename I (sR S) b e v (En (sR S) b e') k = I (En (sR S) b e') k := by
  have E : f_X1_rename I (sR S) b e v = g_X1_rename_7 (sR S) b e v 8 0 (up2 I (En (sR S) b e) 1 v) v := rfl
  have r := (rn_row (v := v) hL hO he 8 0 (up2 I (En (sR S) b e) 1 v) rfl).1
  rw [E]
  refine ⟨by rw [r b (fun j hj => ne_k hL.2 (ly_O hL he hj).2.1 (by decide)), up2_row (ne_k hL.2 (ly_E hL he).2.1 (by decide))], fun e' he' k hk => ?_⟩
  rw [r _ (fun j hj => ne_k (ly_E hL he').2.1 (ly_O hL he hj).2.1 (by decide)), up2_ne (fun y => by have := y.2; omega)]
theorem sb_o {S : MM} {a : Nat} {I : Mm} {v w : Int32} (ka : sK S a = 7) : ∀ z k, sK S z = k → k ≠ 7 → f_X6_setBits I a v w z = I z := fun z k hz hk => n_X6_setBits (ne_k hz ka hk)
theorem h_system {Q : Option Value → MM → Prop} {S S1 : MM} {x m out i : Nat} {A : Nat → Nat} {v w : Int32} (hX : GX S x m out A i) (hh : GH S S1 x m out A) (md : MDs S S1 x v w) (K : ∀ k S2, GX S2 x m out A (i + 1) → Q (some (.int k)) S2) : wX8_system [.ref m, .int v, .int w] S1 Q := by
  have hP := hX.1
  have hG := hP.1
  have md0 := md
  have hM1 := hh.2.2.2.2.2.1
  have hL := ly_of hG
  have hO := hG.2.2.2.2.2.2.1
  obtain ⟨g1, g2, g3, g4, g5, g6, g7, nt, F, cl, bi, n0, fr, hF, hc⟩ := id hG
  have im1 := (BI_h hh.2.2.2.2.2.2.2.1 hh.2.2.2.2.2.2.2.2 bi).1.1
  have e1 : ∀ j, j < 2 → sI S (En (sR S) x j) 1 = sI S1 (A 1) j := fun j hj => by rw [hh.2.2.2.2.2.2.2.2 1 (by decide)]; exact (n0.2.2.2.2.1 j hj).1
  refine y_Msystem hM1 im1 (fun h S2 e im _ => ?_) (fun j hj ej nb h S2 e im _ => ?_) (fun j hj ej nb h S2 e im _ ea q9 => ?_)
  · rcases md with ⟨er, ei, _⟩ | ⟨j, hj, ej, nb, _⟩
    · exact K _ S2 (gx_bad hX hh er ei e im)
    · exact absurd h nb
  · rcases md with ⟨er, ei, _⟩ | ⟨j', hj', ej', _, nh, _⟩
    · exact K _ S2 (gx_bad hX hh er ei e im)
    · have := nI_inj (by omega) (by omega) (ej.symm.trans ej')
      subst this
      exact absurd ((e1 (1 - j) (by omega)).trans h) nh
  · rcases md with ⟨er, ei, q | ⟨j', hj', ej', _, hw⟩⟩ | ⟨j', hj', ej', _, _, er, ei⟩
    · exact absurd q nb
    · have := nI_inj (by omega) (by omega) (ej.symm.trans ej')
      subst this
      exact absurd ((e1 (1 - j) (by omega)).symm.trans hw) h
    · have := nI_inj (by omega) (by omega) (ej.symm.trans ej')
      subst this
      refine K _ S2 (gx_ok hX hh (cm_s hX.2.1 hh md0) (CEx_of hL er ei (fa_rn hL hO hj) (rn_o hL hO hj).1 (rn_o hL hO hj).2) e (by decide) q9 ⟨r_fin hG hh e im (by decide) (fun cl nt n0 n1 => ?_), FRs_t hP hh er (by rw [ei]; exact fa_nc hL (fa_rn hL hO hj)) (by rw [ei]; exact p6_nc hL (p6_rn hL hO hj)) e (by decide)⟩)
      rw [er, ei]
      refine NR_I hL (ca_nc hL) (sys_sim (w := w) hL hO hj n1 (fun q => ?_) (fun k q a b => by rw [SM_a e hM1 (dm_DM a) (by simp; omega)]) (e.2.2.2.2.2 43 (by decide)) (e.2.2.2.2.2 32 (by decide)))
      rw [ea]
      unfold upd
      rfl
theorem h_limit {Q : Option Value → MM → Prop} {S S1 : MM} {x m out i : Nat} {A : Nat → Nat} {v w : Int32} (hX : GX S x m out A i) (hh : GH S S1 x m out A) (md : MDl S S1 x v w) (K : ∀ k S2, GX S2 x m out A (i + 1) → Q (some (.int k)) S2) : wX8_limit [.ref m, .int v, .int w] S1 Q := by
  have hP := hX.1
  have hG := hP.1
  have md0 := md
  have hM1 := hh.2.2.2.2.2.1
  have hL := ly_of hG
  have hO := hG.2.2.2.2.2.2.1
  obtain ⟨g1, g2, g3, g4, g5, g6, g7, nt, F, cl, bi, n0, fr, hF, hc⟩ := id hG
  have im1 := (BI_h hh.2.2.2.2.2.2.2.1 hh.2.2.2.2.2.2.2.2 bi).1.1
  refine y_Mlimit hM1 im1 (fun h S2 e im _ => ?_) (fun j hj ej nb S2 e im _ ea q9 => ?_)
  · rcases md with ⟨er, ei, _⟩ | ⟨j, hj, ej, nb, _⟩
    · exact K _ S2 (gx_bad hX hh er ei e im)
    · exact absurd h nb
  · rcases md with ⟨er, ei, q⟩ | ⟨j', hj', ej', _, er, ei⟩
    · exact absurd q nb
    · have := nI_inj (by omega) (by omega) (ej.symm.trans ej')
      subst this
      refine K _ S2 (gx_ok hX hh (cm_l hX.2.1 hh md0) (CEx_of hL er ei (FA.rf.w hL (ly_E hL hj).2.1 (by omega)) (up2_row (ne_k hL.2 (ly_E hL hj).2.1 (by decide))) (fun e' he' k hk => up2_ne (fun y => by have := y.2; omega))) e (by decide) q9 ⟨r_fin hG hh e im (by decide) (fun cl nt n0 n1 => ?_), FRs_t hP hh er (by rw [ei]; exact fa_nc hL (FA.rf.w hL (ly_E hL hj).2.1 (by omega))) (by rw [ei]; exact p6_nc hL (P6.rf.w (ly_E hL hj).2.1 (Or.inl (by decide)))) e (by decide)⟩)
      rw [er, ei]
      refine NR_I hL (ca_nc hL) (lim_sim (w := w) hL hO hj n1 (fun q => ?_) (fun k q a b => by rw [SM_a e hM1 (dm_DM a) (by simp; omega)]) (e.2.2.2.2.2 43 (by decide)) (e.2.2.2.2.2 32 (by decide)))
      rw [ea]
      unfold upd
      rfl
theorem h_port {Q : Option Value → MM → Prop} {S S1 : MM} {x m out i : Nat} {A : Nat → Nat} {v w k p : Int32} (hX : GX S x m out A i) (hh : GH S S1 x m out A) (md : MDp S S1 x v w k p) (K : ∀ S2, GX S2 x m out A (i + 1) → Q none S2) : wX8_port [.ref m, .int v, .int w, .int k, .int p] S1 Q := by
  have hP := hX.1
  have hG := hP.1
  have md0 := md
  have hM1 := hh.2.2.2.2.2.1
  have hL := ly_of hG
  have hO := hG.2.2.2.2.2.2.1
  obtain ⟨g1, g2, g3, g4, g5, g6, g7, nt, F, cl, bi, n0, fr, hF, hc⟩ := id hG
  have im1 := (BI_h hh.2.2.2.2.2.2.2.1 hh.2.2.2.2.2.2.2.2 bi).1.1
  refine yx_Mport hM1 im1 (fun h S2 e im => ?_) (fun j i hj hi ej ei nb S2 e im ea eb q9 => ?_)
  · rcases md with ⟨er, ei, _⟩ | ⟨j, i, hj, hi, ej, ei, nb, _⟩
    · exact K S2 (gx_bad hX hh er ei e im)
    · exact absurd h nb
  · rcases md with ⟨er, ei, q⟩ | ⟨j', i', hj', hi', ej', ei', _, er, es⟩
    · exact absurd q nb
    · have q1 := nI_inj (by omega) (by omega) (ej.symm.trans ej')
      have q2 := nI_inj (by omega) (by omega) (ei.symm.trans ei')
      subst q1 q2
      refine K S2 (gx_ok hX hh (cm_p hX.2.1 hh md0) (CEx_of hL er es (fa_sb hL ((FA.rf.w hL (ly_O hL hj hi).2.1 (by omega)).w hL (ly_O hL hj hi).2.1 (by omega)) (ly_O hL hj hi).2.1) (by rw [sb_o (ly_O hL hj hi).2.1 x 8 hL.2 (by decide), up2_row (ne_k hL.2 (ly_O hL hj hi).2.1 (by decide)), up2_row (ne_k hL.2 (ly_O hL hj hi).2.1 (by decide))]) (fun e' he' k hk => by rw [sb_o (ly_O hL hj hi).2.1 _ 2 (ly_E hL he').2.1 (by decide), up2_row (ne_k (ly_E hL he').2.1 (ly_O hL hj hi).2.1 (by decide)), up2_row (ne_k (ly_E hL he').2.1 (ly_O hL hj hi).2.1 (by decide))])) e (by decide) q9 ⟨r_fin hG hh e im (by decide) (fun cl nt n0 n1 => ?_), FRs_t hP hh er (by rw [es]; exact fa_nc hL (fa_sb hL ((FA.rf.w hL (ly_O hL hj hi).2.1 (by omega)).w hL (ly_O hL hj hi).2.1 (by omega)) (ly_O hL hj hi).2.1)) (by rw [es]; exact p6_nc hL (p6_sb ((P6.rf.w (ly_O hL hj hi).2.1 (Or.inl (by decide))).w (ly_O hL hj hi).2.1 (Or.inl (by decide))) (ly_O hL hj hi).2.1)) e (by decide)⟩)
      rw [er, es]
      refine NR_I hL (ca_nc hL) (prt_sim hL hO hj hi n1 (by rw [ea, pk_us]) (by rw [eb, pk_us]) (fun q y a b c d => ?_) (fun q y a b c => by rw [SM_a e hM1 (dm_DM a) (by simp; omega)]) (e.2.2.2.2.2 43 (by decide)) (e.2.2.2.2.2 32 (by decide)))
      have : q = 3 ∨ q = 4 := by omega
      rcases this with rfl | rfl
      · rw [ea, pk_un d]
      · rw [eb, pk_un d]
theorem h_manner {Q : Option Value → MM → Prop} {S S1 : MM} {x m out i a b : Nat} {A : Nat → Nat} {v w : Int32} (ha : a < 2) (hb : b < 2) (hX : GX S x m out A i) (hh : GH S S1 x m out A) (md : MDm S S1 x a b v w) (K : ∀ S2, GX S2 x m out A (i + 1) → Q none S2) : wX8_manner [.ref m, .int v, .int w, .int (nI a), .int (nI b)] S1 Q := by
  have hP := hX.1
  have hG := hP.1
  have md0 := md
  have hM1 := hh.2.2.2.2.2.1
  have hL := ly_of hG
  have hO := hG.2.2.2.2.2.2.1
  obtain ⟨g1, g2, g3, g4, g5, g6, g7, nt, F, cl, bi, n0, fr, hF, hc⟩ := id hG
  have im1 := (BI_h hh.2.2.2.2.2.2.2.1 hh.2.2.2.2.2.2.2.2 bi).1.1
  refine yx_Mmanner hM1 im1 ha hb (fun h S2 e im => ?_) (fun j i hj hi ej ei nb S2 e im ea eb q9 => ?_)
  · rcases md with ⟨er, ei, _⟩ | ⟨j, i, hj, hi, ej, ei, nb, _⟩
    · exact K S2 (gx_bad hX hh er ei e im)
    · exact absurd h nb
  · rcases md with ⟨er, ei, q⟩ | ⟨j', i', hj', hi', ej', ei', _, er, es⟩
    · exact absurd q nb
    · have q1 := nI_inj (by omega) (by omega) (ej.symm.trans ej')
      have q2 := nI_inj (by omega) (by omega) (ei.symm.trans ei')
      subst q1 q2
      refine K S2 (gx_ok hX hh (cm_m hX.2.1 hh md0) (CEx_of hL er es (fa_sb hL (fa_sb hL FA.rf (ly_O hL hj hi).2.1) (ly_O hL hj hi).2.1) (by rw [sb_o (ly_O hL hj hi).2.1 x 8 hL.2 (by decide), sb_o (ly_O hL hj hi).2.1 x 8 hL.2 (by decide)]) (fun e' he' k hk => by rw [sb_o (ly_O hL hj hi).2.1 _ 2 (ly_E hL he').2.1 (by decide), sb_o (ly_O hL hj hi).2.1 _ 2 (ly_E hL he').2.1 (by decide)])) e (by decide) q9 ⟨r_fin hG hh e im (by decide) (fun cl nt n0 n1 => ?_), FRs_t hP hh er (by rw [es]; exact fa_nc hL (fa_sb hL (fa_sb hL FA.rf (ly_O hL hj hi).2.1) (ly_O hL hj hi).2.1)) (by rw [es]; exact p6_nc hL (p6_sb (p6_sb P6.rf (ly_O hL hj hi).2.1) (ly_O hL hj hi).2.1)) e (by decide)⟩)
      rw [er, es]
      refine NR_I hL (ca_nc hL) (man_sim hL hO hj hi n1 (by rw [ea, pk_us]) (by rw [eb, pk_us]) (fun q y a b c d => ?_) (fun q y a b c => by rw [SM_a e hM1 (dm_DM a) (by simp; omega)]) (e.2.2.2.2.2 43 (by decide)) (e.2.2.2.2.2 32 (by decide)))
      have : q = 5 ∨ q = 6 := by omega
      rcases this with rfl | rfl
      · rw [ea, pk_un d]
      · rw [eb, pk_un d]
theorem h_lose {Q : Option Value → MM → Prop} {S S1 : MM} {x m out i : Nat} {A : Nat → Nat} {v w p : Int32} (hX : GX S x m out A i) (hh : GH S S1 x m out A) (md : MDo S S1 x v w p) (K : ∀ S2, GX S2 x m out A (i + 1) → Q none S2) : wX8_lose [.ref m, .int v, .int w, .int p] S1 Q := by
  have hP := hX.1
  have hG := hP.1
  have md0 := md
  have hM1 := hh.2.2.2.2.2.1
  have hL := ly_of hG
  have hO := hG.2.2.2.2.2.2.1
  obtain ⟨g1, g2, g3, g4, g5, g6, g7, nt, F, cl, bi, n0, fr, hF, hc⟩ := id hG
  have im1 := (BI_h hh.2.2.2.2.2.2.2.1 hh.2.2.2.2.2.2.2.2 bi).1.1
  refine yx_Mlose hM1 im1 (fun h S2 e im => ?_) (fun j i hj hi ej ei nb S2 e im ea q9 => ?_)
  · rcases md with ⟨er, ei, _⟩ | ⟨j, i, hj, hi, ej, ei, nb, _⟩
    · exact K S2 (gx_bad hX hh er ei e im)
    · exact absurd h nb
  · rcases md with ⟨er, ei, q⟩ | ⟨j', i', hj', hi', ej', ei', _, er, es⟩
    · exact absurd q nb
    · have q1 := nI_inj (by omega) (by omega) (ej.symm.trans ej')
      have q2 := nI_inj (by omega) (by omega) (ei.symm.trans ei')
      subst q1 q2
      refine K S2 (gx_ok hX hh (cm_o hX.2.1 hh md0) (CEx_of hL er es (FA.rf.w hL (ly_N hL hi hj).2.1 (by omega)) (up2_row (ne_k hL.2 (ly_N hL hi hj).2.1 (by decide))) (fun e' he' k hk => by rw [up2_row (ne_k (ly_E hL he').2.1 (ly_N hL hi hj).2.1 (by decide))])) e (by decide) q9 ⟨r_fin hG hh e im (by decide) (fun cl nt n0 n1 => ?_), FRs_t hP hh er (by rw [es]; exact fa_nc hL (FA.rf.w hL (ly_N hL hi hj).2.1 (by omega))) (by rw [es]; exact p6_nc hL (P6.rf.w (ly_N hL hi hj).2.1 (Or.inl (by decide)))) e (by decide)⟩)
      rw [er, es]
      refine NR_I hL (ca_nc hL) (los_sim hL hO hi hj n1 (fun q => ?_) (fun q y a b => by rw [SM_a e hM1 (dm_DM a) (by simp; omega)]) (e.2.2.2.2.2 43 (by decide)) (e.2.2.2.2.2 32 (by decide)))
      rw [ea]
      unfold upd
      rfl
theorem h_came {Q : Option Value → MM → Prop} {S S1 : MM} {x m out i : Nat} {A : Nat → Nat} {v w u : Int32} (hi : i < 3000) (hX : GX S x m out A i) (hh : GH S S1 x m out A) (md : MDr S S1) (K : ∀ k S2, GX S2 x m out A (i + 1) → Q (some (.int k)) S2) : wX8_came [.ref m, .int v, .int w, .int u] S1 Q := by
  obtain ⟨g1, g2, g3, g4, g5, g6, g7, nt, F, cl, bi, n0, fr, hF, hc⟩ := id hX.1.1
  have bi1 := BI_h hh.2.2.2.2.2.2.2.1 hh.2.2.2.2.2.2.2.2 bi
  exact z_f_came hh.2.2.2.2.2.1 (BI_42 bi1 (by omega)) bi1.1.1 (fun r S2 e im => K r S2 (gx_bad hX hh md.1 md.2 e im))
theorem h_look {Q : Option Value → MM → Prop} {S S1 : MM} {x m out i : Nat} {A : Nat → Nat} {v w u : Int32} (hX : GX S x m out A i) (hh : GH S S1 x m out A) (md : MDr S S1) (K : ∀ k S2, GX S2 x m out A (i + 1) → Q (some (.int k)) S2) : wX8_look [.ref m, .int v, .int w, .int u] S1 Q := z_X8_look hh.2.2.2.2.2.1 (im_h hX.1.1 hh) (fun r S2 e im => K r S2 (gx_bad hX hh md.1 md.2 e im))
theorem h_count {Q : Option Value → MM → Prop} {S S1 : MM} {x m out i : Nat} {A : Nat → Nat} {v : Int32} (hX : GX S x m out A i) (hh : GH S S1 x m out A) (md : MDr S S1) (K : ∀ k S2, GX S2 x m out A (i + 1) → Q (some (.int k)) S2) : wX8_count [.ref m, .int v] S1 Q := z_X8_count hh.2.2.2.2.2.1 (im_h hX.1.1 hh) (fun r S2 e im => K r S2 (gx_bad hX hh md.1 md.2 e im))
theorem h_cable {Q : Option Value → MM → Prop} {S S1 : MM} {x m out i : Nat} {A : Nat → Nat} {v w : Int32} (hX : GX S x m out A i) (hh : GH S S1 x m out A) (md : MDr S S1) (K : ∀ k S2, GX S2 x m out A (i + 1) → Q (some (.int k)) S2) : wX8_cable [.ref m, .int v, .int w] S1 Q := z_X8_cable hh.2.2.2.2.2.1 (im_h hX.1.1 hh) (fun r S2 e im => K r S2 (gx_bad hX hh md.1 md.2 e im))
theorem h_note {Q : Option Value → MM → Prop} {S : MM} {x m out i : Nat} {A : Nat → Nat} {v w u r : Int32} (hX : GX S x m out A i) (md : MDn S x v w u r) (K : ∀ S2, GX S2 x m out A (i + 1) → Q (some (.int r)) S2) : wX8_note [.ref m, .int v, .int w, .int u] S Q := by
  have hG := hX.1.1
  have hM := hG.2.2.2.2.2.1
  have im := im_h hG (GH_0 hG)
  have s1 : SM [0] m A S (pI S m 0 0) := SM.wm SM.rf (by decide)
  have fin : IM (pI S m 0 0) m A → GX (pI S m 0 0) x m out A (i + 1) := fun im1 => gx_bad hX (GH_0 hG) rfl rfl s1 im1
  have th : IM (pI S m 0 0) m A → NBq v w u → wpn (kX8_note Q) 19 29 (lv_args 0 [.ref m, .int v, .int w, .int u]) [] (pI S m 0 0) 0 0 := fun im1 q => by
    refine u_X8_note_29 ?_
    unfold bX8_note_29
    rcases md with ⟨_, rfl⟩ | ⟨e, p, k, he, hp, hk, rfl, rfl, rfl, _⟩
    · exact e_cI (e_rI (K _ (fin im1)))
    · exact absurd q (nbq he hp hk)
  refine Exists.intro 20 (u_X8_note_0 ?_)
  unfold bX8_note_0
  refine e_ldA rfl (e_cN 0 rfl (e_mT hM im hM.1 (fun N e => nomatch (show (none : Option Nat) = some N from e)) (fun im1 => ?_)))
  refine e_ldI rfl (And.intro ⟨by decide, by decide⟩ (z_MisEnd' (fun h => e_ifN (by decide) (fun _ => th im1 (Or.inl h)) (fun q => absurd rfl q)) (fun e he ee => e_ifN (by decide) (fun q => absurd q (by decide)) (fun _ => ?_))))
  refine e_ldI rfl (And.intro ⟨by decide, by decide⟩ (z_MisPort' (fun h => e_ifN (by decide) (fun _ => th im1 (Or.inr (Or.inl h))) (fun q => absurd rfl q)) (fun p hp ep => e_ifN (by decide) (fun q => absurd q (by decide)) (fun _ => ?_))))
  have le22 : u ≤ 21 ↔ u < 22 := by
    rw [Int32.lt_iff_toInt_lt, Int32.le_iff_toInt_le, show (22 : Int32).toInt = 22 from by decide, show (21 : Int32).toInt = 21 from by decide]
    omega
  refine e_ldI rfl ⟨fun h => th im1 (Or.inr (Or.inr (Or.inl h))), fun h0 => e_ldI rfl (e_cI ⟨fun h1 => ?_, fun h => th im1 (Or.inr (Or.inr (Or.inr (fun z => h (le22.mpr z)))))⟩)⟩
  obtain ⟨k, hk, ek⟩ := lt22 h0 (le22.mp h1)
  subst ee ep ek
  rcases md with ⟨q, _⟩ | ⟨e', p', k', he', hp', hk', ee, ep, ek, er⟩
  · exact absurd q (nbq he hp hk)
  · have := nI_inj (by omega) (by omega) ee
    have := nI_inj (by omega) (by omega) ep
    have := nI_inj (by omega) (by omega) ek
    subst e' p' k'
    refine y_X8_note_31 hM he hp hk im1 rfl rfl rfl rfl (by decide) ?_
    obtain ⟨g1, g2, g3, g4, g5, g6, g7, nt, F, cl, bi, n0, fr, hF, hc⟩ := (fin im1).1.1
    have q := note_eq (m := m) he hp hk (n0.1 (8 * e + p) (by omega)).1
    have q2 : g_X7_note_26 (sI (pI S m 0 0)) (sR S) x e p k = g_X7_note_26 (sI S) (sR S) x e p k := by
      have nO : Ow (sR S) x e p ≠ m := ne_k (ly_O (ly_of hG) he hp).2.1 hM.1 (by decide)
      have nP : Pa (sR S) x e p ≠ m := ne_k (ly_Q (ly_of hG) he hp).2.1 hM.1 (by decide)
      have b : ∀ a, a ≠ m → f_X6_byteAt (sI (pI S m 0 0)) a = f_X6_byteAt (sI S) a := fun a ha => by
        funext j
        unfold f_X6_byteAt
        rw [sI_pI, up2_row ha]
      unfold g_X7_note_26
      rw [b _ nO, b _ nP]
    have q3 : g_X8_note_31 (sI (pI S m 0 (nI 0))) m A e p k = r := by
      rw [er, ← q2]
      exact q.symm
    show Q (some (.int (g_X8_note_31 (sI (pI S m 0 (nI 0))) m A e p k))) (pI S m 0 (nI 0))
    rw [q3]
    exact K _ (fin im1)
