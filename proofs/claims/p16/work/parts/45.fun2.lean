-- portAt, isUp, moves with what they make of the arrays
theorem kdA {S : MM} {m k kd : Nat} {A : Nat → Nat} (hM : MS S m A) (hk : k ∈ DM) (h : kdM k = kd) : sK S (A k) = kd := (hM.2.1 k hk).2.1.trans h
theorem lnA {S : MM} {m k n : Nat} {A : Nat → Nat} (hM : MS S m A) (hk : k ∈ DM) (h : lnM k = n) : sN S (A k) = n := (hM.2.1 k hk).2.2.1.trans h
theorem z_f_portAt {Q : Option Value → MM → Prop} {S0 : MM} {m c e : Nat} {A : Nat → Nat} (hM : MS S0 m A) (im : IM S0 m A) (hc : c < 8) (he : e < 2) (K : ∀ p, p < 8 → sI S0 (A 22) (2 * c + e) = nI p → Q (some (.int (nI (8 * e + p)))) S0) : wX8_portAt [.ref m, .int (nI c), .int (nI e)] S0 Q := by
  obtain ⟨p, hp, ep⟩ := im.1 22 8 rfl (2 * c + e)
  refine Exists.intro 1 (u_X8_portAt_0 ?_)
  unfold bX8_portAt_0
  exact e_cN 8 rfl (e_ldI rfl (e_mul (e_ldA rfl (e_gR hM.1 (hM.2.1 22 (by decide)).1 (e_cN 2 rfl (e_ldI rfl (e_mul (e_ldI rfl (e_add (e_aV (N := 16) (v := nI p) (kdA hM (by decide) rfl) (lnA hM (by decide) rfl) (by omega) (by decide) ep (e_add (e_rI (K p hp ep)))))))))))))
theorem z_f_isUp {Q : Option Value → MM → Prop} {S0 : MM} {m c : Nat} {A : Nat → Nat} (hM : MS S0 m A) (im : IM S0 m A) (hc : c < 8) (K : ∀ S' p0 p1, p0 < 8 → p1 < 8 → sI S0 (A 22) (2 * c + 0) = nI p0 → sI S0 (A 22) (2 * c + 1) = nI p1 → SM [7, 8, 9, 14, 18, 21, 25, 40] m A S0 S' → IM S' m A → sI S' (A 25) = upd (sI S0 (A 25)) c (nI 1) → sI S' (A 7) = upd (upd (sI S0 (A 7)) (8 * 0 + p0) (nI 1)) (8 * 1 + p1) (nI 1) → sI S' (A 9) = upd (upd (sI S0 (A 9)) (8 * 0 + p0) (nI 0)) (8 * 1 + p1) (nI 0) → Q none S') : wX8_isUp [.ref m, .int (nI c)] S0 Q := by
  refine Exists.intro 1 (u_X8_isUp_0 ?_)
  unfold bX8_isUp_0
  refine e_ldA rfl (e_gR hM.1 (hM.2.1 25 (by decide)).1 (e_ldI rfl (e_cN 1 rfl (y_mB (N := 8) (W := [7, 8, 9, 14, 18, 21, 25, 40]) hM SM.rf im (by decide) rfl rfl (by omega) (by decide) (by decide) (by decide) (fun N e => nomatch (show (none : Option Nat) = some N from e)) (fun e => absurd e (by decide)) (fun S1 h1 sh1 im1 => ?_)))))
  have hM1 := MS_SM hM sh1
  have a25 : sI S1 (A 25) = upd (sI S0 (A 25)) c (nI 1) := fn_s h1 rfl
  have a22 : sI S1 (A 22) = sI S0 (A 22) := fn_o h1 rfl (ne_A hM (by decide) (by decide) (by decide))
  have a7 : sI S1 (A 7) = sI S0 (A 7) := fn_o h1 rfl (ne_A hM (by decide) (by decide) (by decide))
  have a9 : sI S1 (A 9) = sI S0 (A 9) := fn_o h1 rfl (ne_A hM (by decide) (by decide) (by decide))
  refine e_ldA rfl (e_ldA rfl (e_ldI rfl (e_cN 0 rfl (And.intro (SM_k sh1 hM.1) (And.intro ⟨by decide, by decide⟩ (z_f_portAt hM1 im1 hc (by decide) (fun p0 hp0 e0 => And.intro (SM_k sh1 hM.1) (And.intro ⟨by decide, by decide⟩ (z_f_isLitNow hM1 im1 (show 8 * 0 + p0 < 16 by omega) (fun S2 s2 im2 b7 b9 => ?_))))))))))
  have sh2 := SM.tr sh1 s2 (by decide)
  have hM2 := MS_SM hM sh2
  have b22 : sI S2 (A 22) = sI S0 (A 22) := (SM_a s2 hM1 (by decide) (by decide)).trans a22
  have b25 : sI S2 (A 25) = upd (sI S0 (A 25)) c (nI 1) := (SM_a s2 hM1 (by decide) (by decide)).trans a25
  refine e_ldA rfl (e_ldA rfl (e_ldI rfl (e_cN 1 rfl (And.intro (SM_k sh2 hM.1) (And.intro ⟨by decide, by decide⟩ (z_f_portAt hM2 im2 hc (by decide) (fun p1 hp1 e1 => And.intro (SM_k sh2 hM.1) (And.intro ⟨by decide, by decide⟩ (z_f_isLitNow hM2 im2 (show 8 * 1 + p1 < 16 by omega) (fun S3 s3 im3 c7 c9 => ?_))))))))))
  exact e_rV (K S3 p0 p1 hp0 hp1 (by rw [← a22]; exact e0) (by rw [← b22]; exact e1) (SM.tr sh2 s3 (by decide)) im3 ((SM_a s3 hM2 (by decide) (by decide)).trans b25) (by rw [c7, b7, a7]) (by rw [c9, b9, a9]))
theorem q_mv50 {Q : Option Value → MM → Prop} {S0 : MM} {m t u : Nat} {A : Nat → Nat} (hM : MS S0 m A) (ht : t < 4000) (hu : u < 4000) (K : ∀ S', SM [31] m A S0 S' → IM S' m A → Q none S') : ∀ (n i : Nat) (lv : Lv) (S : MM), i + n = 10 → lvg lv 0 = some (.ref m) → lvg lv 1 = some (.int (nI t)) → lvg lv 2 = some (.int (nI u)) → lvg lv 3 = some (.int (nI i)) → SM [31] m A S0 S → IM S m A → wpn (kX8_moves Q) (n + 2) 50 lv [] S 0 0 := by
  intro n
  induction n with
  | zero =>
    intro i lv S hi g0 g1 g2 g3 sh im
    refine u_X8_moves_50 ?_
    unfold bX8_moves_50
    refine e_ldI g3 (e_cN 10 rfl (e_ge (by omega) (by decide) (fun _ => u_X8_moves_84 ?_) (fun h => absurd h (by omega))))
    unfold bX8_moves_84
    exact e_rV (K S sh im)
  | succ n ih =>
    intro i lv S hi g0 g1 g2 g3 sh im
    have hM1 := MS_SM hM sh
    refine u_X8_moves_50 ?_
    unfold bX8_moves_50
    refine e_ldI g3 (e_cN 10 rfl (e_ge (by omega) (by decide) (fun h => absurd h (by omega)) (fun _ => e_ldA g0 (e_gR hM1.1 (hM1.2.1 31 (by decide)).1 (e_cN 10 rfl (e_ldI g2 (e_mul (e_ldI g3 (e_add (e_ldA g0 (e_gR hM1.1 (hM1.2.1 31 (by decide)).1 (e_cN 10 rfl (e_ldI g1 (e_mul (e_ldI g3 (e_add (e_aI (N := 40000) (kdA hM1 (by decide) rfl) (lnA hM1 (by decide) rfl) (by omega) (by decide) (fun v hv => ?_))))))))))))))))))
    refine y_mA (N := 40000) hM sh im (by decide) rfl rfl (by omega) (by decide) (by decide) (fun N e => nomatch (show (none : Option Nat) = some N from e)) (fun e => absurd e (by decide)) (fun S1 he sh1 im1 => ?_)
    exact e_inc g3 (ih (i + 1) _ S1 (by omega) (lvg_ne g0 rfl (by decide)) (lvg_ne g1 rfl (by decide)) (lvg_ne g2 rfl (by decide)) lvg_self sh1 im1)
theorem z_f_moves {Q : Option Value → MM → Prop} {S0 : MM} {m t u : Nat} {A : Nat → Nat} (hM : MS S0 m A) (im : IM S0 m A) (ht : t < 4000) (hu : u < 4000) (K : ∀ S', SM [27, 28, 29, 30, 31] m A S0 S' → IM S' m A → sI S' (A 27) = upd (sI S0 (A 27)) u (sI S0 (A 27) t) → sI S' (A 28) = upd (sI S0 (A 28)) u (sI S0 (A 28) t) → sI S' (A 29) = upd (sI S0 (A 29)) u (sI S0 (A 29) t) → sI S' (A 30) = upd (sI S0 (A 30)) u (sI S0 (A 30) t) → Q none S') : wX8_moves [.ref m, .int (nI t), .int (nI u)] S0 Q := by
  refine Exists.intro 13 (u_X8_moves_0 ?_)
  unfold bX8_moves_0
  obtain ⟨n27, h27, e27⟩ := im.1 27 8 rfl t
  refine e_ldA rfl (e_gR hM.1 (hM.2.1 27 (by decide)).1 (e_ldI rfl (e_ldA rfl (e_gR hM.1 (hM.2.1 27 (by decide)).1 (e_ldI rfl (e_aV (N := 4000) (v := sI S0 (A 27) t) (kdA hM (by decide) rfl) (lnA hM (by decide) rfl) ht (by decide) rfl (y_mA (N := 4000) (W := [27, 28, 29, 30, 31]) hM SM.rf im (by decide) rfl rfl hu (by decide) (by decide) (fun N e => by have e2 : some 8 = some N := e; cases e2; exact ⟨n27, h27, e27⟩) (fun e => absurd e (by decide)) (fun S1 he1 sh1 im1 => ?_))))))))
  have hM1 := MS_SM hM sh1
  have f27_1 : sI S1 (A 27) = upd (sI S0 (A 27)) u (sI S0 (A 27) t) := fn_s he1 rfl
  have f28_1 : sI S1 (A 28) = sI S0 (A 28) := fn_o he1 rfl (ne_A hM (by decide) (by decide) (by decide))
  have f29_1 : sI S1 (A 29) = sI S0 (A 29) := fn_o he1 rfl (ne_A hM (by decide) (by decide) (by decide))
  have f30_1 : sI S1 (A 30) = sI S0 (A 30) := fn_o he1 rfl (ne_A hM (by decide) (by decide) (by decide))
  obtain ⟨n28, h28, e28⟩ := im.1 28 2 rfl t
  refine e_ldA rfl (e_gR hM1.1 (hM1.2.1 28 (by decide)).1 (e_ldI rfl (e_ldA rfl (e_gR hM1.1 (hM1.2.1 28 (by decide)).1 (e_ldI rfl (e_aV (N := 4000) (v := sI S0 (A 28) t) (kdA hM1 (by decide) rfl) (lnA hM1 (by decide) rfl) ht (by decide) (by rw [f28_1]) (y_mA (N := 4000) hM sh1 im1 (by decide) rfl rfl hu (by decide) (by decide) (fun N e => by have e2 : some 2 = some N := e; cases e2; exact ⟨n28, h28, e28⟩) (fun e => absurd e (by decide)) (fun S2 he2 sh2 im2 => ?_))))))))
  have hM2 := MS_SM hM sh2
  have f27_2 : sI S2 (A 27) = upd (sI S0 (A 27)) u (sI S0 (A 27) t) := fn_o he2 f27_1 (ne_A hM (by decide) (by decide) (by decide))
  have f28_2 : sI S2 (A 28) = upd (sI S0 (A 28)) u (sI S0 (A 28) t) := fn_s he2 f28_1
  have f29_2 : sI S2 (A 29) = sI S0 (A 29) := fn_o he2 f29_1 (ne_A hM (by decide) (by decide) (by decide))
  have f30_2 : sI S2 (A 30) = sI S0 (A 30) := fn_o he2 f30_1 (ne_A hM (by decide) (by decide) (by decide))
  refine e_ldA rfl (e_gR hM2.1 (hM2.2.1 29 (by decide)).1 (e_ldI rfl (e_ldA rfl (e_gR hM2.1 (hM2.2.1 29 (by decide)).1 (e_ldI rfl (e_aV (N := 4000) (v := sI S0 (A 29) t) (kdA hM2 (by decide) rfl) (lnA hM2 (by decide) rfl) ht (by decide) (by rw [f29_2]) (y_mA (N := 4000) hM sh2 im2 (by decide) rfl rfl hu (by decide) (by decide) (fun N e => nomatch (show (none : Option Nat) = some N from e)) (fun e => absurd e (by decide)) (fun S3 he3 sh3 im3 => ?_))))))))
  have hM3 := MS_SM hM sh3
  have f27_3 : sI S3 (A 27) = upd (sI S0 (A 27)) u (sI S0 (A 27) t) := fn_o he3 f27_2 (ne_A hM (by decide) (by decide) (by decide))
  have f28_3 : sI S3 (A 28) = upd (sI S0 (A 28)) u (sI S0 (A 28) t) := fn_o he3 f28_2 (ne_A hM (by decide) (by decide) (by decide))
  have f29_3 : sI S3 (A 29) = upd (sI S0 (A 29)) u (sI S0 (A 29) t) := fn_s he3 f29_2
  have f30_3 : sI S3 (A 30) = sI S0 (A 30) := fn_o he3 f30_2 (ne_A hM (by decide) (by decide) (by decide))
  refine e_ldA rfl (e_gR hM3.1 (hM3.2.1 30 (by decide)).1 (e_ldI rfl (e_ldA rfl (e_gR hM3.1 (hM3.2.1 30 (by decide)).1 (e_ldI rfl (e_aV (N := 4000) (v := sI S0 (A 30) t) (kdA hM3 (by decide) rfl) (lnA hM3 (by decide) rfl) ht (by decide) (by rw [f30_3]) (y_mA (N := 4000) hM sh3 im3 (by decide) rfl rfl hu (by decide) (by decide) (fun N e => nomatch (show (none : Option Nat) = some N from e)) (fun _ => im.2.2 t) (fun S4 he4 sh4 im4 => ?_))))))))
  have hM4 := MS_SM hM sh4
  have f27_4 : sI S4 (A 27) = upd (sI S0 (A 27)) u (sI S0 (A 27) t) := fn_o he4 f27_3 (ne_A hM (by decide) (by decide) (by decide))
  have f28_4 : sI S4 (A 28) = upd (sI S0 (A 28)) u (sI S0 (A 28) t) := fn_o he4 f28_3 (ne_A hM (by decide) (by decide) (by decide))
  have f29_4 : sI S4 (A 29) = upd (sI S0 (A 29)) u (sI S0 (A 29) t) := fn_o he4 f29_3 (ne_A hM (by decide) (by decide) (by decide))
  have f30_4 : sI S4 (A 30) = upd (sI S0 (A 30)) u (sI S0 (A 30) t) := fn_s he4 f30_3
  refine e_cN 0 rfl (e_stI (q_mv50 (S0 := S4) hM4 ht hu (fun S5 s5 im5 => K S5 (SM.tr sh4 s5 (by decide)) im5 ((SM_a s5 hM4 (by decide) (by decide)).trans f27_4) ((SM_a s5 hM4 (by decide) (by decide)).trans f28_4) ((SM_a s5 hM4 (by decide) (by decide)).trans f29_4) ((SM_a s5 hM4 (by decide) (by decide)).trans f30_4)) 10 0 _ S4 rfl (lvg_ne rfl rfl (by decide)) (lvg_ne rfl rfl (by decide)) (lvg_ne rfl rfl (by decide)) lvg_self SM.rf im4))
