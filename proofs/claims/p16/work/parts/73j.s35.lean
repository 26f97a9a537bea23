/-! SIMULATION 35: port, manner, lose of the reference exactly; their pairs -/
theorem qx_port_bad {Q : Option Value → MM → Prop} {S0 : MM} {m n : Nat} {A : Nat → Nat} {lv : Lv} (hM : MS S0 m A) (im : IM S0 m A) (g0 : lvg lv 0 = some (.ref m)) (h : ∀ S', SM [0] m A S0 S' → IM S' m A → Q none S') : wpn (kX8_port Q) (n + 2) 37 lv [.ref m] S0 0 0 := by
  refine u_X8_port_37 ?_
  unfold bX8_port_37
  refine e_cI (u_X8_port_42 ?_)
  unfold bX8_port_42
  refine y_mI (W := [0]) hM SM.rf im (by decide) (fun N e => nomatch (show (none : Option Nat) = some N from e)) (fun S1 he sh im1 => ?_)
  have v0 : sI S1 m 0 = 1 := by rw [he]; exact rd_s
  exact e_ldA g0 (e_gV (v := 1) (SM_k sh hM.1) v0 ⟨fun z => absurd z (by decide), fun _ => e_rV (h S1 sh im1)⟩)
theorem qx_port_good {Q : Option Value → MM → Prop} {S0 : MM} {m n : Nat} {A : Nat → Nat} {lv : Lv} {j i : Nat} {k p : Int32} (hj : j < 2) (hi : i < 8) (hM : MS S0 m A) (im : IM S0 m A) (g0 : lvg lv 0 = some (.ref m)) (g1 : lvg lv 1 = some (.int (nI j))) (g2 : lvg lv 2 = some (.int (nI i))) (g3 : lvg lv 3 = some (.int k)) (g4 : lvg lv 4 = some (.int p)) (h : ∀ S', SM [0, 3, 4, 44] m A S0 S' → IM S' m A → sI S' (A 3) = upd (sI S0 (A 3)) (8 * j + i) k → sI S' (A 4) = upd (sI S0 (A 4)) (8 * j + i) p → Q none S') : wpn (kX8_port Q) (n + 3) 41 lv [.ref m] S0 0 0 := by
  refine u_X8_port_41 ?_
  unfold bX8_port_41
  refine e_cI (u_X8_port_42 ?_)
  unfold bX8_port_42
  refine y_mI (W := [0, 3, 4, 44]) hM SM.rf im (by decide) (fun N e => nomatch (show (none : Option Nat) = some N from e)) (fun S1 he sh im1 => ?_)
  have v0 : sI S1 m 0 = 0 := by rw [he]; exact rd_s
  refine e_ldA g0 (e_gV (v := 0) (SM_k sh hM.1) v0 ⟨fun _ => u_X8_port_53 ?_, fun z => absurd (by decide) z⟩)
  unfold bX8_port_53
  refine e_ldA g0 (e_gR (SM_k sh hM.1) (SM_r sh (hM.2.1 3 (by decide)).1) (e_cN 8 rfl (e_ldI g1 (e_mul (e_ldI g2 (e_add (e_ldI g3 (y_mA (N := 16) hM sh im1 (by decide) rfl rfl (by omega) (by decide) (by decide) (fun N e => nomatch (show (none : Option Nat) = some N from e)) (fun e => absurd e (by decide)) (fun S2 he2 sh2 im2 => ?_)))))))))
  have v2 : sI S2 m 0 = 0 := by rw [he2]; exact rd_a v0 (Ne.symm (ne_m hM (by decide)))
  refine e_ldA g0 (e_gR (SM_k sh2 hM.1) (SM_r sh2 (hM.2.1 4 (by decide)).1) (e_cN 8 rfl (e_ldI g1 (e_mul (e_ldI g2 (e_add (e_ldI g4 (y_mA (N := 16) hM sh2 im2 (by decide) rfl rfl (by omega) (by decide) (by decide) (fun N e => nomatch (show (none : Option Nat) = some N from e)) (fun e => absurd e (by decide)) (fun S3 he3 sh3 im3 => ?_)))))))))
  have v3 : sI S3 m 0 = 0 := by rw [he3]; exact rd_a v2 (Ne.symm (ne_m hM (by decide)))
  exact e_ldA g0 (And.intro (SM_k sh3 hM.1) (And.intro ⟨by decide, by decide⟩ (z_X8_isNotQuiet (MS_SM hM sh3) im3 (fun S9 s9 im9 => e_rV (h S9 (SM.tr sh3 s9 (by decide)) im9 (by rw [SM_a s9 (MS_SM hM sh3) (by decide) (by decide), he3, sI_pI, up2_row (ne_A hM (by decide) (by decide) (by decide)), he2, sI_pI, up2_upd, he, sI_pI, up2_row (ne_m hM (by decide))]) (by rw [SM_a s9 (MS_SM hM sh3) (by decide) (by decide), he3, sI_pI, up2_upd, he2, sI_pI, up2_row (ne_A hM (by decide) (by decide) (by decide)), he, sI_pI, up2_row (ne_m hM (by decide))]))))))
theorem zx_Mport {Q : Option Value → MM → Prop} {S0 : MM} {m : Nat} {A : Nat → Nat} {v w k p : Int32} (hM : MS S0 m A) (im : IM S0 m A) (hb : PB v w k p → ∀ S', SM [0] m A S0 S' → IM S' m A → Q none S') (ho : ∀ j i, j < 2 → i < 8 → v = nI j → w = nI i → ¬ PB v w k p → ∀ S', SM [0, 3, 4, 44] m A S0 S' → IM S' m A → sI S' (A 3) = upd (sI S0 (A 3)) (8 * j + i) k → sI S' (A 4) = upd (sI S0 (A 4)) (8 * j + i) p → Q none S') : wX8_port [.ref m, .int v, .int w, .int k, .int p] S0 Q := by
  have th : PB v w k p → wpn (kX8_port Q) 9 37 (lv_args 0 [.ref m, .int v, .int w, .int k, .int p]) [.ref m] S0 0 0 := fun h => qx_port_bad (n := 7) hM im rfl (hb h)
  refine Exists.intro 10 (u_X8_port_0 ?_)
  unfold bX8_port_0
  refine e_ldA rfl (e_ldI rfl (And.intro ⟨by decide, by decide⟩ (z_MisEnd' (fun h => e_ifN (by decide) (fun _ => th (Or.inl h)) (fun q => absurd rfl q)) (fun j hj ej => e_ifN (by decide) (fun q => absurd q (by decide)) (fun _ => ?_)))))
  refine e_ldI rfl (And.intro ⟨by decide, by decide⟩ (z_MisPort' (fun h => e_ifN (by decide) (fun _ => th (Or.inr (Or.inl h))) (fun q => absurd rfl q)) (fun i hi ei => e_ifN (by decide) (fun q => absurd q (by decide)) (fun _ => ?_))))
  refine e_ldI rfl ⟨fun h => th (Or.inr (Or.inr (Or.inl (Or.inl h)))), fun k0 => e_ldI rfl (e_cI ⟨fun h => th (Or.inr (Or.inr (Or.inl (Or.inr h)))), fun k1 => ?_⟩)⟩
  refine e_ldI rfl ⟨fun h => th (Or.inr (Or.inr (Or.inr (Or.inl h)))), fun p0 => e_ldI rfl (e_cI ⟨fun p1 => ?_, fun h => th (Or.inr (Or.inr (Or.inr (Or.inr (not_le' h)))))⟩)⟩
  have nb : ¬ PB v w k p := fun q => by
    rcases q with q | q | q | q
    · exact nbE hj (ej ▸ q)
    · exact nb8 hi (ei ▸ q)
    · exact q.elim k0 k1
    · exact q.elim p0 (fun z => absurd p1 (fun y => by
        have a := Int32.lt_iff_toInt_lt.mp z
        have b := Int32.le_iff_toInt_le.mp y
        omega))
  have ho3 := ho j i hj hi ej ei nb
  subst ej ei
  exact qx_port_good (n := 6) hj hi hM im rfl rfl rfl rfl rfl ho3
theorem qx_manner_bad {Q : Option Value → MM → Prop} {S0 : MM} {m n : Nat} {A : Nat → Nat} {lv : Lv} (hM : MS S0 m A) (im : IM S0 m A) (g0 : lvg lv 0 = some (.ref m)) (h : ∀ S', SM [0] m A S0 S' → IM S' m A → Q none S') : wpn (kX8_manner Q) (n + 2) 15 lv [.ref m] S0 0 0 := by
  refine u_X8_manner_15 ?_
  unfold bX8_manner_15
  refine e_cI (u_X8_manner_20 ?_)
  unfold bX8_manner_20
  refine y_mI (W := [0]) hM SM.rf im (by decide) (fun N e => nomatch (show (none : Option Nat) = some N from e)) (fun S1 he sh im1 => ?_)
  have v0 : sI S1 m 0 = 1 := by rw [he]; exact rd_s
  exact e_ldA g0 (e_gV (v := 1) (SM_k sh hM.1) v0 ⟨fun z => absurd z (by decide), fun _ => e_rV (h S1 sh im1)⟩)
theorem qx_manner_good {Q : Option Value → MM → Prop} {S0 : MM} {m n : Nat} {A : Nat → Nat} {lv : Lv} {j i a b : Nat} (hj : j < 2) (hi : i < 8) (ha : a < 2) (hb : b < 2) (hM : MS S0 m A) (im : IM S0 m A) (g0 : lvg lv 0 = some (.ref m)) (g1 : lvg lv 1 = some (.int (nI j))) (g2 : lvg lv 2 = some (.int (nI i))) (g3 : lvg lv 3 = some (.int (nI a))) (g4 : lvg lv 4 = some (.int (nI b))) (h : ∀ S', SM [0, 5, 6, 44] m A S0 S' → IM S' m A → sI S' (A 5) = upd (sI S0 (A 5)) (8 * j + i) (nI a) → sI S' (A 6) = upd (sI S0 (A 6)) (8 * j + i) (nI b) → Q none S') : wpn (kX8_manner Q) (n + 3) 19 lv [.ref m] S0 0 0 := by
  refine u_X8_manner_19 ?_
  unfold bX8_manner_19
  refine e_cI (u_X8_manner_20 ?_)
  unfold bX8_manner_20
  refine y_mI (W := [0, 5, 6, 44]) hM SM.rf im (by decide) (fun N e => nomatch (show (none : Option Nat) = some N from e)) (fun S1 he sh im1 => ?_)
  have v0 : sI S1 m 0 = 0 := by rw [he]; exact rd_s
  refine e_ldA g0 (e_gV (v := 0) (SM_k sh hM.1) v0 ⟨fun _ => u_X8_manner_31 ?_, fun z => absurd (by decide) z⟩)
  unfold bX8_manner_31
  refine e_ldA g0 (e_gR (SM_k sh hM.1) (SM_r sh (hM.2.1 5 (by decide)).1) (e_cN 8 rfl (e_ldI g1 (e_mul (e_ldI g2 (e_add (e_ldI g3 (y_mB (N := 16) hM sh im1 (by decide) rfl rfl (by omega) (by decide) ha (by decide) (fun N e => nomatch (show (none : Option Nat) = some N from e)) (fun e => absurd e (by decide)) (fun S2 he2 sh2 im2 => ?_)))))))))
  have v2 : sI S2 m 0 = 0 := by rw [he2]; exact rd_a v0 (Ne.symm (ne_m hM (by decide)))
  refine e_ldA g0 (e_gR (SM_k sh2 hM.1) (SM_r sh2 (hM.2.1 6 (by decide)).1) (e_cN 8 rfl (e_ldI g1 (e_mul (e_ldI g2 (e_add (e_ldI g4 (y_mB (N := 16) hM sh2 im2 (by decide) rfl rfl (by omega) (by decide) hb (by decide) (fun N e => nomatch (show (none : Option Nat) = some N from e)) (fun e => absurd e (by decide)) (fun S3 he3 sh3 im3 => ?_)))))))))
  have v3 : sI S3 m 0 = 0 := by rw [he3]; exact rd_a v2 (Ne.symm (ne_m hM (by decide)))
  exact e_ldA g0 (And.intro (SM_k sh3 hM.1) (And.intro ⟨by decide, by decide⟩ (z_X8_isNotQuiet (MS_SM hM sh3) im3 (fun S9 s9 im9 => e_rV (h S9 (SM.tr sh3 s9 (by decide)) im9 (by rw [SM_a s9 (MS_SM hM sh3) (by decide) (by decide), he3, sI_pI, up2_row (ne_A hM (by decide) (by decide) (by decide)), he2, sI_pI, up2_upd, he, sI_pI, up2_row (ne_m hM (by decide))]) (by rw [SM_a s9 (MS_SM hM sh3) (by decide) (by decide), he3, sI_pI, up2_upd, he2, sI_pI, up2_row (ne_A hM (by decide) (by decide) (by decide)), he, sI_pI, up2_row (ne_m hM (by decide))]))))))
theorem zx_Mmanner {Q : Option Value → MM → Prop} {S0 : MM} {m a b : Nat} {A : Nat → Nat} {v w : Int32} (hM : MS S0 m A) (im : IM S0 m A) (ha : a < 2) (hb2 : b < 2) (hb : MB v w → ∀ S', SM [0] m A S0 S' → IM S' m A → Q none S') (ho : ∀ j i, j < 2 → i < 8 → v = nI j → w = nI i → ¬ MB v w → ∀ S', SM [0, 5, 6, 44] m A S0 S' → IM S' m A → sI S' (A 5) = upd (sI S0 (A 5)) (8 * j + i) (nI a) → sI S' (A 6) = upd (sI S0 (A 6)) (8 * j + i) (nI b) → Q none S') : wX8_manner [.ref m, .int v, .int w, .int (nI a), .int (nI b)] S0 Q := by
  have th : MB v w → wpn (kX8_manner Q) 9 15 (lv_args 0 [.ref m, .int v, .int w, .int (nI a), .int (nI b)]) [.ref m] S0 0 0 := fun h => qx_manner_bad (n := 7) hM im rfl (hb h)
  refine Exists.intro 10 (u_X8_manner_0 ?_)
  unfold bX8_manner_0
  refine e_ldA rfl (e_ldI rfl (And.intro ⟨by decide, by decide⟩ (z_MisEnd' (fun h => e_ifN (by decide) (fun _ => th (Or.inl h)) (fun q => absurd rfl q)) (fun j hj ej => e_ifN (by decide) (fun q => absurd q (by decide)) (fun _ => ?_)))))
  refine e_ldI rfl (And.intro ⟨by decide, by decide⟩ (z_MisPort' (fun h => e_ifN (by decide) (fun _ => th (Or.inr h)) (fun q => absurd rfl q)) (fun i hi ei => e_ifN (by decide) (fun q => absurd q (by decide)) (fun _ => ?_))))
  have nb : ¬ MB v w := fun q => q.elim (fun z => nbE hj (ej ▸ z)) (fun z => nb8 hi (ei ▸ z))
  have ho3 := ho j i hj hi ej ei nb
  subst ej ei
  exact qx_manner_good (n := 6) hj hi ha hb2 hM im rfl rfl rfl rfl rfl ho3
theorem qx_lose_bad {Q : Option Value → MM → Prop} {S0 : MM} {m n : Nat} {A : Nat → Nat} {lv : Lv} (hM : MS S0 m A) (im : IM S0 m A) (g0 : lvg lv 0 = some (.ref m)) (h : ∀ S', SM [0] m A S0 S' → IM S' m A → Q none S') : wpn (kX8_lose Q) (n + 2) 25 lv [.ref m] S0 0 0 := by
  refine u_X8_lose_25 ?_
  unfold bX8_lose_25
  refine e_cI (u_X8_lose_30 ?_)
  unfold bX8_lose_30
  refine y_mI (W := [0]) hM SM.rf im (by decide) (fun N e => nomatch (show (none : Option Nat) = some N from e)) (fun S1 he sh im1 => ?_)
  have v0 : sI S1 m 0 = 1 := by rw [he]; exact rd_s
  exact e_ldA g0 (e_gV (v := 1) (SM_k sh hM.1) v0 ⟨fun z => absurd z (by decide), fun _ => e_rV (h S1 sh im1)⟩)
theorem qx_lose_good {Q : Option Value → MM → Prop} {S0 : MM} {m n : Nat} {A : Nat → Nat} {lv : Lv} {j i : Nat} {p : Int32} (hj : j < 2) (hi : i < 8) (hM : MS S0 m A) (im : IM S0 m A) (g0 : lvg lv 0 = some (.ref m)) (g1 : lvg lv 1 = some (.int (nI j))) (g2 : lvg lv 2 = some (.int (nI i))) (g3 : lvg lv 3 = some (.int p)) (h : ∀ S', SM [0, 26, 44] m A S0 S' → IM S' m A → sI S' (A 26) = upd (sI S0 (A 26)) (2 * i + j) p → Q none S') : wpn (kX8_lose Q) (n + 3) 29 lv [.ref m] S0 0 0 := by
  refine u_X8_lose_29 ?_
  unfold bX8_lose_29
  refine e_cI (u_X8_lose_30 ?_)
  unfold bX8_lose_30
  refine y_mI (W := [0, 26, 44]) hM SM.rf im (by decide) (fun N e => nomatch (show (none : Option Nat) = some N from e)) (fun S1 he sh im1 => ?_)
  have v0 : sI S1 m 0 = 0 := by rw [he]; exact rd_s
  refine e_ldA g0 (e_gV (v := 0) (SM_k sh hM.1) v0 ⟨fun _ => u_X8_lose_41 ?_, fun z => absurd (by decide) z⟩)
  unfold bX8_lose_41
  refine e_ldA g0 (e_gR (SM_k sh hM.1) (SM_r sh (hM.2.1 26 (by decide)).1) (e_cN 2 rfl (e_ldI g2 (e_mul (e_ldI g1 (e_add (e_ldI g3 (y_mA (N := 16) hM sh im1 (by decide) rfl rfl (by omega) (by decide) (by decide) (fun N e => nomatch (show (none : Option Nat) = some N from e)) (fun e => absurd e (by decide)) (fun S2 he2 sh2 im2 => ?_)))))))))
  have v2 : sI S2 m 0 = 0 := by rw [he2]; exact rd_a v0 (Ne.symm (ne_m hM (by decide)))
  exact e_ldA g0 (And.intro (SM_k sh2 hM.1) (And.intro ⟨by decide, by decide⟩ (z_X8_isNotQuiet (MS_SM hM sh2) im2 (fun S9 s9 im9 => e_rV (h S9 (SM.tr sh2 s9 (by decide)) im9 (by rw [SM_a s9 (MS_SM hM sh2) (by decide) (by decide), he2, sI_pI, up2_upd, he, sI_pI, up2_row (ne_m hM (by decide))]))))))
theorem zx_Mlose {Q : Option Value → MM → Prop} {S0 : MM} {m : Nat} {A : Nat → Nat} {v w p : Int32} (hM : MS S0 m A) (im : IM S0 m A) (hb : LB v w p → ∀ S', SM [0] m A S0 S' → IM S' m A → Q none S') (ho : ∀ j i, j < 2 → i < 8 → v = nI j → w = nI i → ¬ LB v w p → ∀ S', SM [0, 26, 44] m A S0 S' → IM S' m A → sI S' (A 26) = upd (sI S0 (A 26)) (2 * i + j) p → Q none S') : wX8_lose [.ref m, .int v, .int w, .int p] S0 Q := by
  have th : LB v w p → wpn (kX8_lose Q) 9 25 (lv_args 0 [.ref m, .int v, .int w, .int p]) [.ref m] S0 0 0 := fun h => qx_lose_bad (n := 7) hM im rfl (hb h)
  refine Exists.intro 10 (u_X8_lose_0 ?_)
  unfold bX8_lose_0
  refine e_ldA rfl (e_ldI rfl (And.intro ⟨by decide, by decide⟩ (z_MisEnd' (fun h => e_ifN (by decide) (fun _ => th (Or.inl h)) (fun q => absurd rfl q)) (fun j hj ej => e_ifN (by decide) (fun q => absurd q (by decide)) (fun _ => ?_)))))
  refine e_ldI rfl (And.intro ⟨by decide, by decide⟩ (z_MisCable' (fun h => e_ifN (by decide) (fun _ => th (Or.inr (Or.inl h))) (fun q => absurd rfl q)) (fun i hi ei => e_ifN (by decide) (fun q => absurd q (by decide)) (fun _ => ?_))))
  refine e_ldI rfl ⟨fun h => th (Or.inr (Or.inr (Or.inl h))), fun p0 => e_ldI rfl (e_cI ⟨fun p1 => ?_, fun h => th (Or.inr (Or.inr (Or.inr h)))⟩)⟩
  have nb : ¬ LB v w p := fun q => by
    rcases q with q | q | q
    · exact nbE hj (ej ▸ q)
    · exact nb8 hi (ei ▸ q)
    · exact q.elim p0 (fun z => z p1)
  have ho3 := ho j i hj hi ej ei nb
  subst ej ei
  exact qx_lose_good (n := 6) hj hi hM im rfl rfl rfl rfl ho3
/-! port -/
def MDp (S S1 : MM) (x : Nat) (v w k p : Int32) : Prop := (sR S1 = sR S ∧ sI S1 = sI S ∧ PB v w k p) ∨ ∃ j i, j < 2 ∧ i < 8 ∧ v = nI j ∧ w = nI i ∧ ¬ PB v w k p ∧ sR S1 = sR S ∧ sI S1 = f_X7_noteChange (f_X6_setBits (up2 (up2 (sI S) (Ow (sR S) x j i) 1 k) (Ow (sR S) x j i) 2 p) (Ow (sR S) x j i) (nI 4) (if k ≤ 0 then nI 0 else nI 1)) (sR S) x
theorem g39_e {I : Mm} {R : Nat → Nat → Option Nat} {b j i : Nat} {k p : Int32} : g_X7_port_39 I R b j i 0 0 k p = f_X7_noteChange (f_X6_setBits (up2 (up2 I (Ow R b j i) 1 k) (Ow R b j i) 2 p) (Ow R b j i) (nI 4) (if k ≤ 0 then nI 0 else nI 1)) R b := by
  unfold g_X7_port_39
  dsimp only
  split <;> rfl
theorem fo_sb {S : MM} {I0 I : Mm} {a : Nat} {v w : Int32} (h : FO S I0 I) (ka : sK S a = 7) : FO S I0 (f_X6_setBits I a v w) := fun z hz => by
  rw [n_X6_setBits (fo_ne hz ka (by decide) rfl)]
  exact h z hz
theorem k_port {Q : Option Value → MM → Prop} {S : MM} {x m out i : Nat} {A : Nat → Nat} {v w k p : Int32} (hG : GN S x m out A i) (K : ∀ r S1, GH S S1 x m out A → MDp S S1 x v w k p → Q (some (.int r)) S1) : wL_port [.ref x, .int v, .int w, .int k, .int p] S Q := by
  have hL := ly_of hG
  refine Exists.intro 3 (And.intro hL.2 (And.intro ⟨by decide, by decide⟩ (c_port hL hG.2.1 (fun h q => ?_) (fun j i hj hi ej ei nb ir => ?_))))
  · rw [hd1_1]; exact K _ S (GH_0 hG) (Or.inl ⟨rfl, rfl, h⟩)
  · rw [g39_e] at ir ⊢
    have ko := (ly_O hL hj hi).2.1
    exact K _ _ (GH_w hG ir ((fo_sb (FO.w (FO.rf.w ko (by decide) rfl) ko (by decide) rfl) ko).tr (fo_nc hL))) (Or.inr ⟨j, i, hj, hi, ej, ei, nb, rfl, rfl⟩)
theorem r_port {Q : Option Value → MM → Prop} {S S1 : MM} {x m out i : Nat} {A : Nat → Nat} {v w k p : Int32} (hG : GN S x m out A i) (hh : GH S S1 x m out A) (md : MDp S S1 x v w k p) (K : ∀ S2, GN S2 x m out A (i + 1) → Q none S2) : wX8_port [.ref m, .int v, .int w, .int k, .int p] S1 Q := by
  have hM1 := hh.2.2.2.2.2.1
  have hL := ly_of hG
  have hO := hG.2.2.2.2.2.2.1
  obtain ⟨g1, g2, g3, g4, g5, g6, g7, nt, F, cl, bi, n0, fr, hF, hc⟩ := id hG
  have im1 := (BI_h hh.2.2.2.2.2.2.2.1 hh.2.2.2.2.2.2.2.2 bi).1.1
  refine zx_Mport hM1 im1 (fun h S2 e im => ?_) (fun j i hj hi ej ei nb S2 e im ea eb => ?_)
  · rcases md with ⟨er, ei, _⟩ | ⟨j, i, hj, hi, ej, ei, nb, _⟩
    · exact K S2 (r_same hG hh er (ca_e ei) e im)
    · exact absurd h nb
  · rcases md with ⟨er, ei, q⟩ | ⟨j', i', hj', hi', ej', ei', _, er, es⟩
    · exact absurd q nb
    · have q1 := nI_inj (by omega) (by omega) (ej.symm.trans ej')
      have q2 := nI_inj (by omega) (by omega) (ei.symm.trans ei')
      subst q1 q2
      refine K S2 (r_fin hG hh e im (by decide) (fun cl nt n0 n1 => ?_))
      rw [er, es]
      refine NR_I hL (ca_nc hL) (prt_sim hL hO hj hi n1 (by rw [ea, pk_us]) (by rw [eb, pk_us]) (fun q y a b c d => ?_) (fun q y a b c => by rw [SM_a e hM1 (dm_DM a) (by simp; omega)]) (e.2.2.2.2.2 43 (by decide)) (e.2.2.2.2.2 32 (by decide)))
      have : q = 3 ∨ q = 4 := by omega
      rcases this with rfl | rfl
      · rw [ea, pk_un d]
      · rw [eb, pk_un d]
/-! manner -/
def MDm (S S1 : MM) (x a b : Nat) (v w : Int32) : Prop := (sR S1 = sR S ∧ sI S1 = sI S ∧ MB v w) ∨ ∃ j i, j < 2 ∧ i < 8 ∧ v = nI j ∧ w = nI i ∧ ¬ MB v w ∧ sR S1 = sR S ∧ sI S1 = f_X7_noteChange (f_X6_setBits (f_X6_setBits (sI S) (Ow (sR S) x j i) (nI 1) (nI a)) (Ow (sR S) x j i) (nI 2) (nI b)) (sR S) x
theorem k_manner {Q : Option Value → MM → Prop} {S : MM} {x m out i a b : Nat} {A : Nat → Nat} {v w : Int32} (hG : GN S x m out A i) (K : ∀ r S1, GH S S1 x m out A → MDm S S1 x a b v w → Q (some (.int r)) S1) : wL_manner [.ref x, .int v, .int w, .int (nI a), .int (nI b)] S Q := by
  have hL := ly_of hG
  refine Exists.intro 3 (And.intro hL.2 (And.intro ⟨by decide, by decide⟩ (c_manner hL hG.2.1 (fun h q => ?_) (fun j i hj hi ej ei nb ir => ?_))))
  · rw [hd1_1]; exact K _ S (GH_0 hG) (Or.inl ⟨rfl, rfl, h⟩)
  · have ko := (ly_O hL hj hi).2.1
    exact K _ _ (GH_w hG ir ((fo_sb (fo_sb FO.rf ko) ko).tr (fo_nc hL))) (Or.inr ⟨j, i, hj, hi, ej, ei, nb, rfl, rfl⟩)
theorem r_manner {Q : Option Value → MM → Prop} {S S1 : MM} {x m out i a b : Nat} {A : Nat → Nat} {v w : Int32} (ha : a < 2) (hb : b < 2) (hG : GN S x m out A i) (hh : GH S S1 x m out A) (md : MDm S S1 x a b v w) (K : ∀ S2, GN S2 x m out A (i + 1) → Q none S2) : wX8_manner [.ref m, .int v, .int w, .int (nI a), .int (nI b)] S1 Q := by
  have hM1 := hh.2.2.2.2.2.1
  have hL := ly_of hG
  have hO := hG.2.2.2.2.2.2.1
  obtain ⟨g1, g2, g3, g4, g5, g6, g7, nt, F, cl, bi, n0, fr, hF, hc⟩ := id hG
  have im1 := (BI_h hh.2.2.2.2.2.2.2.1 hh.2.2.2.2.2.2.2.2 bi).1.1
  refine zx_Mmanner hM1 im1 ha hb (fun h S2 e im => ?_) (fun j i hj hi ej ei nb S2 e im ea eb => ?_)
  · rcases md with ⟨er, ei, _⟩ | ⟨j, i, hj, hi, ej, ei, nb, _⟩
    · exact K S2 (r_same hG hh er (ca_e ei) e im)
    · exact absurd h nb
  · rcases md with ⟨er, ei, q⟩ | ⟨j', i', hj', hi', ej', ei', _, er, es⟩
    · exact absurd q nb
    · have q1 := nI_inj (by omega) (by omega) (ej.symm.trans ej')
      have q2 := nI_inj (by omega) (by omega) (ei.symm.trans ei')
      subst q1 q2
      refine K S2 (r_fin hG hh e im (by decide) (fun cl nt n0 n1 => ?_))
      rw [er, es]
      refine NR_I hL (ca_nc hL) (man_sim hL hO hj hi n1 (by rw [ea, pk_us]) (by rw [eb, pk_us]) (fun q y a b c d => ?_) (fun q y a b c => by rw [SM_a e hM1 (dm_DM a) (by simp; omega)]) (e.2.2.2.2.2 43 (by decide)) (e.2.2.2.2.2 32 (by decide)))
      have : q = 5 ∨ q = 6 := by omega
      rcases this with rfl | rfl
      · rw [ea, pk_un d]
      · rw [eb, pk_un d]
/-! lose -/
def MDo (S S1 : MM) (x : Nat) (v w p : Int32) : Prop := (sR S1 = sR S ∧ sI S1 = sI S ∧ LB v w p) ∨ ∃ j i, j < 2 ∧ i < 8 ∧ v = nI j ∧ w = nI i ∧ ¬ LB v w p ∧ sR S1 = sR S ∧ sI S1 = f_X7_noteChange (up2 (sI S) (Ln (sR S) x i j) 6 p) (sR S) x
theorem k_lose {Q : Option Value → MM → Prop} {S : MM} {x m out i : Nat} {A : Nat → Nat} {v w p : Int32} (hG : GN S x m out A i) (K : ∀ r S1, GH S S1 x m out A → MDo S S1 x v w p → Q (some (.int r)) S1) : wL_lose [.ref x, .int v, .int w, .int p] S Q := by
  have hL := ly_of hG
  refine Exists.intro 3 (And.intro hL.2 (And.intro ⟨by decide, by decide⟩ (c_lose hL hG.2.1 (fun h q => ?_) (fun j i hj hi ej ei nb ir => ?_))))
  · rw [hd1_1]; exact K _ S (GH_0 hG) (Or.inl ⟨rfl, rfl, h⟩)
  · exact K _ _ (GH_w hG ir ((FO.rf.w (ly_N hL hi hj).2.1 (by decide) rfl).tr (fo_nc hL))) (Or.inr ⟨j, i, hj, hi, ej, ei, nb, rfl, rfl⟩)
theorem r_lose {Q : Option Value → MM → Prop} {S S1 : MM} {x m out i : Nat} {A : Nat → Nat} {v w p : Int32} (hG : GN S x m out A i) (hh : GH S S1 x m out A) (md : MDo S S1 x v w p) (K : ∀ S2, GN S2 x m out A (i + 1) → Q none S2) : wX8_lose [.ref m, .int v, .int w, .int p] S1 Q := by
  have hM1 := hh.2.2.2.2.2.1
  have hL := ly_of hG
  have hO := hG.2.2.2.2.2.2.1
  obtain ⟨g1, g2, g3, g4, g5, g6, g7, nt, F, cl, bi, n0, fr, hF, hc⟩ := id hG
  have im1 := (BI_h hh.2.2.2.2.2.2.2.1 hh.2.2.2.2.2.2.2.2 bi).1.1
  refine zx_Mlose hM1 im1 (fun h S2 e im => ?_) (fun j i hj hi ej ei nb S2 e im ea => ?_)
  · rcases md with ⟨er, ei, _⟩ | ⟨j, i, hj, hi, ej, ei, nb, _⟩
    · exact K S2 (r_same hG hh er (ca_e ei) e im)
    · exact absurd h nb
  · rcases md with ⟨er, ei, q⟩ | ⟨j', i', hj', hi', ej', ei', _, er, es⟩
    · exact absurd q nb
    · have q1 := nI_inj (by omega) (by omega) (ej.symm.trans ej')
      have q2 := nI_inj (by omega) (by omega) (ei.symm.trans ei')
      subst q1 q2
      refine K S2 (r_fin hG hh e im (by decide) (fun cl nt n0 n1 => ?_))
      rw [er, es]
      refine NR_I hL (ca_nc hL) (los_sim hL hO hi hj n1 (fun q => ?_) (fun q y a b => by rw [SM_a e hM1 (dm_DM a) (by simp; omega)]) (e.2.2.2.2.2 43 (by decide)) (e.2.2.2.2.2 32 (by decide)))
      rw [ea]
      unfold upd
      rfl
