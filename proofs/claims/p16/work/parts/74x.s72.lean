/-! SIMULATION 72: give of the reference exactly -/
/-- no frame is taken -/
def GNm (S1 : MM) (A : Nat → Nat) (nt e cv : Nat) (b : Int32) : Prop := (b < 0 ∨ gc S1 A e b 8 = 0) ∨ ∃ j c, j < 8 ∧ c < 8 ∧ ¬ b < 0 ∧ gv S1 A e b j = true ∧ gc S1 A e b j = cv % gc S1 A e b 8 ∧ sI S1 (A 11) (8 * e + j) = nI c ∧ ¬ gcB (fun t => isG c e (tg (sI S1) A t)) nt < 200
/-- a frame is taken at this port, for this cable -/
def GYm (S1 : MM) (A : Nat → Nat) (nt e cv : Nat) (b : Int32) (j c : Nat) : Prop := j < 8 ∧ c < 8 ∧ ¬ b < 0 ∧ gv S1 A e b j = true ∧ gc S1 A e b j = cv % gc S1 A e b 8 ∧ sI S1 (A 11) (8 * e + j) = nI c ∧ gcB (fun t => isG c e (tg (sI S1) A t)) nt < 200
theorem w_v_give {Q : Option Value → MM → Prop} {S0 : MM} {m nt F : Nat} {A : Nat → Nat} {v b w u : Int32} (hM : MS S0 m A) (hI : IV S0 m A nt) (hnt : nt < 4000) (e39 : sI S0 m 39 = nI F) (hF : F < 4200) (KB : GVB v w → ∀ r S', SM [0] m A S0 S' → IM S' m A → sI S' m 0 = 1 → Q (some (.int r)) S') (KN : ∀ e cv, e < 2 → cv < 256 → v = nI e → w = nI cv → ∀ S1, SM [0] m A S0 S1 → IM S1 m A → sI S1 m 0 = 0 → GNm S1 A nt e cv b → Q (some (.int (-1))) S1) (KA : ∀ e cv j c d S1 S', e < 2 → cv < 256 → v = nI e → w = nI cv → 1 ≤ d → d ≤ 8 → sI S0 (A 23) c = nI d → SM [0] m A S0 S1 → sI S1 m 0 = 0 → GYm S1 A nt e cv b j c → SM WG m A S0 S' → SM [27, 28, 29, 30, 32, 33, 34, 35, 36, 37, 38, 39, 48] m A S1 S' → IV S' m A (nt + 1) → sI S' m 39 = nI (F + 1) → TL S' A (nt + 1) = TL S0 A nt ++ [(nI c, nI e, sI S0 m 43 + nI d, nI F)] → sI S' (A 35) = upd (sI S1 (A 35)) F (nI cv) → sI S' (A 36) = upd (sI S1 (A 36)) F u → Q (some (.int (nI j))) S') : wX8_give [.ref m, .int v, .int b, .int w, .int u] S0 Q := by
  have bad : GVB v w → ∀ f, wpn (kX8_give Q) (f + 2) 19 (lv_args 0 [.ref m, .int v, .int b, .int w, .int u]) [.ref m] S0 0 0 := fun hbad f => by
    refine u_X8_give_19 ?_
    unfold bX8_give_19
    refine e_cI (u_X8_give_24 ?_)
    unfold bX8_give_24
    refine y_mI (W := [0]) hM SM.rf hI.1 (by decide) (fun N e => nomatch (show (none : Option Nat) = some N from e)) (fun S1 he sh im1 => ?_)
    obtain ⟨iv, tl⟩ := IV_SM hI hM sh im1 (by decide)
    exact e_ldA rfl (e_gV (v := 1) (SM_k sh hM.1) (by rw [he]; exact rd_s) ⟨fun z => absurd z (by decide), fun _ => e_cI (e_rI (KB hbad _ S1 sh im1 (by rw [he]; exact rd_s)))⟩)
  refine Exists.intro 200 (u_X8_give_0 ?_)
  unfold bX8_give_0
  refine e_ldA rfl (e_ldI rfl (And.intro ⟨by decide, by decide⟩ (z_MisEnd' (fun h => e_ifN (by decide) (fun _ => bad (Or.inl h) 197) (fun q => absurd rfl q)) (fun e he ee => e_ifN (by decide) (fun q => absurd q (by decide)) (fun _ => ?_)))))
  refine e_ldI rfl ⟨fun hn => bad (Or.inr (Or.inl hn)) 197, fun w0 => e_ldI rfl (e_cI ⟨fun w1 => ?_, fun hn => bad (Or.inr (Or.inr hn)) 197⟩)⟩
  obtain ⟨cv, hcv, ecv⟩ := nn_nat w0
  subst ee ecv
  have hcv2 : cv < 256 := by
    have q := Int32.le_iff_toInt_le.mp (show nI cv ≤ 255 from w1)
    rw [nI_toInt (by omega), show (255 : Int32).toInt = 255 from by decide] at q
    omega
  refine u_X8_give_23 ?_
  unfold bX8_give_23
  refine e_cI (u_X8_give_24 ?_)
  unfold bX8_give_24
  refine y_mI (W := [0]) hM SM.rf hI.1 (by decide) (fun N e => nomatch (show (none : Option Nat) = some N from e)) (fun S1 he1 sh im1 => ?_)
  have hM1 := MS_SM hM sh
  obtain ⟨iv, tl⟩ := IV_SM hI hM sh im1 (by decide)
  obtain ⟨j1, j2, j3, j4, j5⟩ := id iv
  have f39 : sI S1 m 39 = nI F := (sh.2.2.2.2.2 39 (by decide)).trans e39
  have z0 : sI S1 m 0 = 0 := by rw [he1]; exact rd_s
  refine e_ldA rfl (e_gV (v := 0) (SM_k sh hM.1) (by rw [he1]; exact rd_s) ⟨fun _ => u_X8_give_36 ?_, fun z => absurd (by decide) z⟩)
  unfold bX8_give_36
  have L0 : LG (lv_args 0 [.ref m, .int (nI e), .int b, .int (nI cv), .int u]) m e b cv u := ⟨rfl, rfl, rfl, rfl, rfl⟩
  refine e_cN 0 rfl (e_stI (e_cN 8 rfl (e_ldI (lvg_ne L0.2.1 rfl (by decide)) (e_mul (e_stI (q_gv45 (S := S1) (f0 := 100) hM1 he (fun f lv k hf hk h1 h2 L l5 => ?_) 8 0 0 196 _ rfl (by decide) (by decide) (fun _ => rfl) (fun _ => rfl) (LG_s (LG_s L0 (by decide)) (by decide)) (lvg_ne lvg_self rfl (by decide)) lvg_self))))))
  obtain ⟨g, rfl⟩ : ∃ g, f = g + 2 := ⟨f - 2, by omega⟩
  refine u_X8_give_99 ?_
  unfold bX8_give_99
  refine e_ldI l5 (e_ifN (by omega) (fun hk0 => e_cI (e_rI (KN e cv he hcv2 rfl rfl S1 sh im1 z0 (Or.inl (Classical.byContradiction (fun y => by
    have nb : ¬ b < 0 := fun q => y (Or.inl q)
    exact y (Or.inr ((h1 nb).symm.trans hk0)))))))) (fun hk0 => u_X8_give_106 ?_))
  have nb : ¬ b < 0 := fun z => hk0 (h2 z)
  have ek := h1 nb
  unfold bX8_give_106
  refine e_ldI L.2.2.2.1 (e_ldI l5 (e_rem (by omega) (by omega) (by omega) (e_stI (e_cN 8 rfl (e_ldI (lvg_ne L.2.1 rfl (by decide)) (e_mul (e_stI (w_gv118 (S := S1) (f0 := 20) (w0 := cv % k) (u := u) (cv := cv) hM1 he (by rw [← ek]; exact Nat.mod_lt _ (by omega)) (by have := Nat.mod_lt cv (show 0 < k by omega); omega) (fun f2 lv2 j hf2 hj h4 hgv hgc L2 l7 => ?_) 8 0 (cv % k) g _ rfl (by omega) (by show 0 + cv % k = cv % k; omega) (LG_s (LG_s L (by decide)) (by decide)) (lvg_ne lvg_self rfl (by decide)) lvg_self))))))))
  obtain ⟨c, hc, h11, h25⟩ := RI_lit j2 (show 8 * e + j < 16 by omega) (Or.inr h4)
  obtain ⟨d, hd1, hd2, hd⟩ := j2.2.2.1 c hc (j2.1 c hc h25)
  rw [ek] at hgc
  refine w_give183 (x := 8 * e + j) (F := F) (nt := nt) hM1 im1 (by omega) hc he h11 f39 hF j3 hnt hcv2 (fun hful => KN e cv he hcv2 rfl rfl S1 sh im1 z0 (Or.inr ⟨j, c, hj, hc, nb, hgv, hgc, h11, hful⟩)) (fun S' s i v32 v39 t hlt a35 a36 => ?_) (by omega) L2.1 L2.2.1 L2.2.2.1 L2.2.2.2.1 L2.2.2.2.2 l7
  have t' : TL S' A (nt + 1) = TL S0 A nt ++ [(nI c, nI e, sI S0 m 43 + nI d, nI F)] := by rw [t, hd, tl, sh.2.2.2.2.2 43 (by decide)]
  rw [show (8 * e + j) % 8 = j by omega]
  refine KA e cv j c d S1 S' he hcv2 rfl rfl hd1 hd2 (by rw [← SM_a sh hM (k := 23) (by decide) (by decide)]; exact hd) sh z0 ⟨hj, hc, nb, hgv, hgc, h11, hlt⟩ (SM.tr (SM.tr SM.rf sh (by decide)) s (by decide)) s ⟨i, RV_SM j2 hM1 s (by decide), v32, by omega, fun q hq => ?_⟩ v39 t' a35 a36
  rw [t'] at hq
  rw [SM_a s hM1 (k := 25) (by decide) (by decide)]
  rcases List.mem_append.mp hq with z | z
  · exact j5 q (by rw [tl]; exact z)
  · have ez := List.mem_singleton.mp z
    subst ez
    exact ⟨c, hc, rfl, h25⟩
