theorem q_manner_bad {Q : Option Value → MM → Prop} {S0 : MM} {m n : Nat} {A : Nat → Nat} {lv : Lv} (hM : MS S0 m A) (im : IM S0 m A) (g0 : lvg lv 0 = some (.ref m)) (h : ∀ S', SM [0, 5, 6, 44] m A S0 S' → IM S' m A → sI S' m 0 = 1 → Q none S') : wpn (kX8_manner Q) (n + 2) 15 lv [.ref m] S0 0 0 := by
  refine u_X8_manner_15 ?_
  unfold bX8_manner_15
  refine e_cI (u_X8_manner_20 ?_)
  unfold bX8_manner_20
  refine y_mI (W := [0, 5, 6, 44]) hM SM.rf im (by decide) (fun N e => nomatch (show (none : Option Nat) = some N from e)) (fun S1 he sh im1 => ?_)
  have v0 : sI S1 m 0 = 1 := by rw [he]; exact rd_s
  exact e_ldA g0 (e_gV (v := 1) (SM_k sh hM.1) v0 ⟨fun z => absurd z (by decide), fun _ => e_rV (h S1 sh im1 v0)⟩)
theorem q_manner_good {Q : Option Value → MM → Prop} {S0 : MM} {m n : Nat} {A : Nat → Nat} {lv : Lv} {j i a b : Nat} (hj : j < 2) (hi : i < 8) (ha : a < 2) (hb : b < 2) (hM : MS S0 m A) (im : IM S0 m A) (g0 : lvg lv 0 = some (.ref m)) (g1 : lvg lv 1 = some (.int (nI j))) (g2 : lvg lv 2 = some (.int (nI i))) (g3 : lvg lv 3 = some (.int (nI a))) (g4 : lvg lv 4 = some (.int (nI b))) (h : ∀ S', SM [0, 5, 6, 44] m A S0 S' → IM S' m A → sI S' m 0 = 0 → Q none S') : wpn (kX8_manner Q) (n + 3) 19 lv [.ref m] S0 0 0 := by
  refine u_X8_manner_19 ?_
  unfold bX8_manner_19
  refine e_cI (u_X8_manner_20 ?_)
  unfold bX8_manner_20
  refine y_mI (W := [0, 5, 6, 44]) hM SM.rf im (by decide) (fun N e => nomatch (show (none : Option Nat) = some N from e)) (fun S1 he sh im1 => ?_)
  have v0 : sI S1 m 0 = 0 := by rw [he]; exact rd_s
  refine e_ldA g0 (e_gV (v := 0) (SM_k sh hM.1) v0 ⟨fun _ => u_X8_manner_31 ?_, fun z => absurd (by decide) z⟩)
  unfold bX8_manner_31
  refine e_ldA g0 (e_gR (SM_k sh hM.1) (SM_r sh (hM.2.1 5 (by decide)).1) (e_cN 8 rfl (e_ldI g1 (e_mul (e_ldI g2 (e_add (e_ldI g3 (y_mB (N := 16) hM sh im1 (by decide) rfl rfl (by omega) (by decide) ha (by decide) (fun N e => nomatch (show (none : Option Nat) = some N from e)) (fun e => absurd e (by decide)) (fun S2 he2 sh2 im2 => ?_)))))))))
  have v2 : sI S2 m 0 = 0 := by rw [he2]; exact rd_a v0 (Ne.symm (ne_m hM (by decide)))
  refine e_ldA g0 (e_gR (SM_k sh2 hM.1) (SM_r sh2 (hM.2.1 6 (by decide)).1) (e_cN 8 rfl (e_ldI g1 (e_mul (e_ldI g2 (e_add (e_ldI g4 (y_mB (N := 16) hM sh2 im2 (by decide) rfl rfl (by omega) (by decide) hb (by decide) (fun N e => nomatch (show (none : Option Nat) = some N from e)) (fun e => absurd e (by decide)) (fun S3 he3 sh3 im3 => ?_)))))))))
  have v3 : sI S3 m 0 = 0 := by rw [he3]; exact rd_a v2 (Ne.symm (ne_m hM (by decide)))
  exact e_ldA g0 (And.intro (SM_k sh3 hM.1) (And.intro ⟨by decide, by decide⟩ (z_X8_isNotQuiet (MS_SM hM sh3) im3 (fun S9 s9 im9 => e_rV (h S9 (SM.tr sh3 s9 (by decide)) im9 ((s9.2.2.2.2.2 0 (by decide)).trans v3))))))
theorem z_Mmanner {Q : Option Value → MM → Prop} {S0 : MM} {m a b : Nat} {A : Nat → Nat} {v w : Int32} (hM : MS S0 m A) (im : IM S0 m A) (ha : a < 2) (hb2 : b < 2) (hb : MB v w → ∀ S', SM [0, 5, 6, 44] m A S0 S' → IM S' m A → sI S' m 0 = 1 → Q none S') (ho : ¬ MB v w → ∀ S', SM [0, 5, 6, 44] m A S0 S' → IM S' m A → sI S' m 0 = 0 → Q none S') : wX8_manner [.ref m, .int v, .int w, .int (nI a), .int (nI b)] S0 Q := by
  have th : MB v w → wpn (kX8_manner Q) 9 15 (lv_args 0 [.ref m, .int v, .int w, .int (nI a), .int (nI b)]) [.ref m] S0 0 0 := fun h => q_manner_bad (n := 7) hM im rfl (hb h)
  refine Exists.intro 10 (u_X8_manner_0 ?_)
  unfold bX8_manner_0
  refine e_ldA rfl (e_ldI rfl (And.intro ⟨by decide, by decide⟩ (z_MisEnd' (fun h => e_ifN (by decide) (fun _ => th (Or.inl h)) (fun q => absurd rfl q)) (fun j hj ej => e_ifN (by decide) (fun q => absurd q (by decide)) (fun _ => ?_)))))
  refine e_ldI rfl (And.intro ⟨by decide, by decide⟩ (z_MisPort' (fun h => e_ifN (by decide) (fun _ => th (Or.inr h)) (fun q => absurd rfl q)) (fun i hi ei => e_ifN (by decide) (fun q => absurd q (by decide)) (fun _ => ?_))))
  have nb : ¬ MB v w := fun q => q.elim (fun z => nbE hj (ej ▸ z)) (fun z => nb8 hi (ei ▸ z))
  subst ej ei
  exact q_manner_good (n := 6) hj hi ha hb2 hM im rfl rfl rfl rfl rfl (ho nb)
theorem q_lose_bad {Q : Option Value → MM → Prop} {S0 : MM} {m n : Nat} {A : Nat → Nat} {lv : Lv} (hM : MS S0 m A) (im : IM S0 m A) (g0 : lvg lv 0 = some (.ref m)) (h : ∀ S', SM [0, 26, 44] m A S0 S' → IM S' m A → sI S' m 0 = 1 → Q none S') : wpn (kX8_lose Q) (n + 2) 25 lv [.ref m] S0 0 0 := by
  refine u_X8_lose_25 ?_
  unfold bX8_lose_25
  refine e_cI (u_X8_lose_30 ?_)
  unfold bX8_lose_30
  refine y_mI (W := [0, 26, 44]) hM SM.rf im (by decide) (fun N e => nomatch (show (none : Option Nat) = some N from e)) (fun S1 he sh im1 => ?_)
  have v0 : sI S1 m 0 = 1 := by rw [he]; exact rd_s
  exact e_ldA g0 (e_gV (v := 1) (SM_k sh hM.1) v0 ⟨fun z => absurd z (by decide), fun _ => e_rV (h S1 sh im1 v0)⟩)
theorem q_lose_good {Q : Option Value → MM → Prop} {S0 : MM} {m n : Nat} {A : Nat → Nat} {lv : Lv} {j i : Nat} {p : Int32} (hj : j < 2) (hi : i < 8) (hM : MS S0 m A) (im : IM S0 m A) (g0 : lvg lv 0 = some (.ref m)) (g1 : lvg lv 1 = some (.int (nI j))) (g2 : lvg lv 2 = some (.int (nI i))) (g3 : lvg lv 3 = some (.int p)) (h : ∀ S', SM [0, 26, 44] m A S0 S' → IM S' m A → sI S' m 0 = 0 → Q none S') : wpn (kX8_lose Q) (n + 3) 29 lv [.ref m] S0 0 0 := by
  refine u_X8_lose_29 ?_
  unfold bX8_lose_29
  refine e_cI (u_X8_lose_30 ?_)
  unfold bX8_lose_30
  refine y_mI (W := [0, 26, 44]) hM SM.rf im (by decide) (fun N e => nomatch (show (none : Option Nat) = some N from e)) (fun S1 he sh im1 => ?_)
  have v0 : sI S1 m 0 = 0 := by rw [he]; exact rd_s
  refine e_ldA g0 (e_gV (v := 0) (SM_k sh hM.1) v0 ⟨fun _ => u_X8_lose_41 ?_, fun z => absurd (by decide) z⟩)
  unfold bX8_lose_41
  refine e_ldA g0 (e_gR (SM_k sh hM.1) (SM_r sh (hM.2.1 26 (by decide)).1) (e_cN 2 rfl (e_ldI g2 (e_mul (e_ldI g1 (e_add (e_ldI g3 (y_mA (N := 16) hM sh im1 (by decide) rfl rfl (by omega) (by decide) (by decide) (fun N e => nomatch (show (none : Option Nat) = some N from e)) (fun e => absurd e (by decide)) (fun S2 he2 sh2 im2 => ?_)))))))))
  have v2 : sI S2 m 0 = 0 := by rw [he2]; exact rd_a v0 (Ne.symm (ne_m hM (by decide)))
  exact e_ldA g0 (And.intro (SM_k sh2 hM.1) (And.intro ⟨by decide, by decide⟩ (z_X8_isNotQuiet (MS_SM hM sh2) im2 (fun S9 s9 im9 => e_rV (h S9 (SM.tr sh2 s9 (by decide)) im9 ((s9.2.2.2.2.2 0 (by decide)).trans v2))))))
theorem z_Mlose {Q : Option Value → MM → Prop} {S0 : MM} {m : Nat} {A : Nat → Nat} {v w p : Int32} (hM : MS S0 m A) (im : IM S0 m A) (hb : LB v w p → ∀ S', SM [0, 26, 44] m A S0 S' → IM S' m A → sI S' m 0 = 1 → Q none S') (ho : ¬ LB v w p → ∀ S', SM [0, 26, 44] m A S0 S' → IM S' m A → sI S' m 0 = 0 → Q none S') : wX8_lose [.ref m, .int v, .int w, .int p] S0 Q := by
  have th : LB v w p → wpn (kX8_lose Q) 9 25 (lv_args 0 [.ref m, .int v, .int w, .int p]) [.ref m] S0 0 0 := fun h => q_lose_bad (n := 7) hM im rfl (hb h)
  refine Exists.intro 10 (u_X8_lose_0 ?_)
  unfold bX8_lose_0
  refine e_ldA rfl (e_ldI rfl (And.intro ⟨by decide, by decide⟩ (z_MisEnd' (fun h => e_ifN (by decide) (fun _ => th (Or.inl h)) (fun q => absurd rfl q)) (fun j hj ej => e_ifN (by decide) (fun q => absurd q (by decide)) (fun _ => ?_)))))
  refine e_ldI rfl (And.intro ⟨by decide, by decide⟩ (z_MisCable' (fun h => e_ifN (by decide) (fun _ => th (Or.inr (Or.inl h))) (fun q => absurd rfl q)) (fun i hi ei => e_ifN (by decide) (fun q => absurd q (by decide)) (fun _ => ?_))))
  refine e_ldI rfl ⟨fun h => th (Or.inr (Or.inr (Or.inl h))), fun p0 => e_ldI rfl (e_cI ⟨fun p1 => ?_, fun h => th (Or.inr (Or.inr (Or.inr h)))⟩)⟩
  have nb : ¬ LB v w p := fun q => by
    rcases q with q | q | q
    · exact nbE hj (ej ▸ q)
    · exact nb8 hi (ei ▸ q)
    · exact q.elim p0 (fun z => z p1)
  subst ej ei
  exact q_lose_good (n := 6) hj hi hM im rfl rfl rfl rfl (ho nb)
/-! view and stage of one port -/
theorem RI_view {V G I Po D P U : Nat → Int32} {e p c : Nat} {v : Int32} (h : RI V G I Po D P U) (he : e < 2) (hp : p < 8) (hc : c < 8) (hI : I (8 * e + p) = nI c) (hU : U c ≠ 0) : RI (upd V (8 * e + p) v) G I Po D P U := by
  obtain ⟨i1, i2, i3, i4, i5⟩ := h
  refine ⟨i1, i2, i3, i4, fun e' p' he' hp' hb => ?_⟩
  by_cases hx : 8 * e' + p' = 8 * e + p
  · rw [hx]; exact ⟨c, hc, hI, hU⟩
  · rw [pk_un hx] at hb; exact i5 e' p' he' hp' hb
theorem RI_stage {V G I Po D P U : Nat → Int32} {e p c : Nat} {v : Int32} (h : RI V G I Po D P U) (he : e < 2) (hp : p < 8) (hc : c < 8) (hI : I (8 * e + p) = nI c) (hU : U c ≠ 0) : RI V (upd G (8 * e + p) v) I Po D P U := by
  obtain ⟨i1, i2, i3, i4, i5⟩ := h
  refine ⟨i1, i2, i3, i4, fun e' p' he' hp' hb => ?_⟩
  by_cases hx : 8 * e' + p' = 8 * e + p
  · rw [hx]; exact ⟨c, hc, hI, hU⟩
  · rw [pk_un hx] at hb; exact i5 e' p' he' hp' hb
/-- a port that is lit is of a cable that is up -/
theorem RI_lit {V G I Po D P U : Nat → Int32} {x : Nat} (h : RI V G I Po D P U) (hx : x < 16) (hb : V x ≠ 0 ∨ G x = 4) : ∃ c, c < 8 ∧ I x = nI c ∧ U c ≠ 0 := by
  have e : 8 * (x / 8) + x % 8 = x := by omega
  have q := h.2.2.2.2 (x / 8) (x % 8) (by omega) (by omega)
  rw [e] at q
  exact q hb
