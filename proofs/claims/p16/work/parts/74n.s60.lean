/-! SIMULATION 60: tick as a pair of halves, with frames and answer -/
theorem c_Mtickf {Q : Option Value → MM → Prop} {S : MM} {b m cl nt F : Nat} {A : Nat → Nat} {I : Mm} {v : Int32} (hL : LY S b) (hO : OC S) (hM : MS S m A) (im : IM S m A) (K1 : TB v → ∀ r S', SM [0] m A S S' → IM S' m A → sI S' m 0 = 1 → Q (some (.int r)) S') (hF : F < 3000) (hcl : cl + 1000 < 1000000000) (h : ¬ TB v → ∃ n, n ≤ 1000 ∧ v = nI n ∧ (∀ j, j ≤ n → ∀ c e, c < 8 → e < 2 → ∃ n, n < 8 ∧ itC (sR S) b j I (Ln (sR S) b c e) 1 = nI n) ∧ NRl (sR S) b m A I (sI S) cl nt ∧ FRj (sI S) A nt F ∧ BI S m A nt F cl ∧ FRl (sR S) b A I (sI S) cl nt ∧ BN (sR S) b I (sI S) A ∧ ∀ r F' nt', NRl (sR S) b m A (itC (sR S) b n I) F' (cl + n) nt' → FRj F' A nt' F → BI (wI S F') m A nt' F (cl + n) → (∀ z, z ≠ m → (∀ k ∈ DM, z ≠ A k) → F' z = sI S z) → F' m 0 = 0 → FRl (sR S) b A (itC (sR S) b n I) F' (cl + n) nt' → r = F' (A 42) 0 + F' (A 42) 1 - (sI S (A 42) 0 + sI S (A 42) 1) → BN (sR S) b (itC (sR S) b n I) F' A → Q (some (.int r)) (wI S F')) : wX8_tick_ [.ref m, .int v] S Q := by
  have bad : TB v → ∀ f, wpn (kX8_tick_ Q) (f + 4) 13 (lv_args 0 [.ref m, .int v]) [.ref m] S 0 0 := fun tb f => by
    refine u_X8_tick__13 ?_
    unfold bX8_tick__13
    refine e_cI (u_X8_tick__18 ?_)
    unfold bX8_tick__18
    refine y_mI (W := [0]) hM SM.rf im (by decide) (fun N e => nomatch (show (none : Option Nat) = some N from e)) (fun S1 he sh im1 => e_cN 0 rfl (e_stI (e_cN 0 rfl (e_stI (u_X8_tick__25 ?_)))))
    unfold bX8_tick__25
    refine e_ldI lvg_self (e_ldI (lvg_ne (lvg_ne rfl rfl (by decide)) rfl (by decide)) ⟨fun _ => q_tc50 (lvg_ne lvg_self rfl (by decide)) (K1 tb _ S1 sh im1 (by rw [he]; exact rd_s)), fun _ => ?_⟩)
    exact e_ldA (lvg_ne (lvg_ne rfl rfl (by decide)) rfl (by decide)) (e_gV (v := 1) (SM_k sh hM.1) (by rw [he]; exact rd_s) ⟨fun z => absurd z (by decide), fun _ => q_tc50 (lvg_ne lvg_self rfl (by decide)) (K1 tb _ S1 sh im1 (by rw [he]; exact rd_s))⟩)
  refine Exists.intro 1100 (u_X8_tick__0 ?_)
  unfold bX8_tick__0
  refine e_ldA rfl (e_ldI rfl (e_cI ⟨fun h1 => bad (Or.inl h1) 1095, fun h1 => e_ldI rfl (e_cI ⟨fun h2 => u_X8_tick__17 ?_, fun h2 => bad (Or.inr h2) 1095⟩)⟩))
  have ntb : ¬ TB v := fun q => q.elim h1 (fun z => z h2)
  obtain ⟨n, hn2, en, l1, nr, fr, hB, frl, bn, K⟩ := h ntb
  subst en
  unfold bX8_tick__17
  refine e_cI (u_X8_tick__18 ?_)
  unfold bX8_tick__18
  refine e_mT hM im hM.1 (fun N e => nomatch (show (none : Option Nat) = some N from e)) (fun im1 => e_cN 0 rfl (e_stI (e_cN 0 rfl (e_stI ?_))))
  have hA := AD_of hM
  have kk : ∀ k j, dm k → (up2 (sI S) m 0 (0 : Int32)) (A k) j = sI S (A k) j := fun k j hk => mm_a hA hk
  have km : ∀ j, j ≠ 0 → (up2 (sI S) m 0 (0 : Int32)) m j = sI S m j := fun j hj => mm_j hj
  have s1 : SM [0] m A S (pI S m 0 0) := SM.wm SM.rf (by decide)
  have hB1 := BI_SM hB hM s1 im1 (by decide)
  exact y_tc25f (b0 := sI S (A 42) 0 + sI S (A 42) 1) (S := S) (n := n) (cl := cl) (F := F) (I := I) hL hO hM hF (by omega) hn2 l1 K n 0 1097 nt _ (up2 (sI S) m 0 0) _ (by omega) (by omega) (lvg_ne (lvg_ne rfl rfl (by decide)) rfl (by decide)) (lvg_ne (lvg_ne rfl rfl (by decide)) rfl (by decide)) (lvg_ne lvg_self rfl (by decide)) lvg_self (up2_self _ _ _ _) (NR_J nr kk km) (fun t ht => by rw [kk 30 t (by decide)]; exact fr t ht) hB1 (fun z h1 _ => up2_row h1) (FR_t hL (fa_z hL hM (fun z _ _ => rfl)) (fun k hk => funext (fun j => kk k j ((show ∀ k ∈ KF, dm k by decide) k hk))) frl) (by rw [kk 42 0 (by decide), kk 42 1 (by decide)]; exact (i_sub0 _).symm) (BN_t hL P6.rf (fun x _ e4 => by rw [kk 9 x (by decide)] at e4; exact ⟨e4, kk 12 x (by decide)⟩) bn)
theorem k_tickx {Q : Option Value → MM → Prop} {S : MM} {x m out i : Nat} {A : Nat → Nat} {v : Int32} (hG : GN S x m out A i) (K0 : TB v → Q (some (.int (nI 1))) S) (K1 : ¬ TB v → ∀ S1 k, GH S S1 x m out A → sR S1 = sR S → k ≤ 1000 → v = nI k → sI S1 = itC (sR S) x k (sI S) → (∀ j, j ≤ k → IR (wI S (itC (sR S) x j (sI S)))) → sJ S1 out 0 = (ar (sR S) x (itC (sR S) x k (sI S)) - ar (sR S) x (sI S)).toInt64 → Q (some (.int (nI 0))) S1) : wL_tick [.ref x, .int v, .ref out] S Q := by
  have hL := ly_of hG
  refine Exists.intro 3 (And.intro hL.2 (And.intro ⟨by decide, by decide⟩ (c_tickx hL hG.2.1 (fun tb q => ?_) (fun k hk ev nb ir => ?_))))
  · rw [hd1_1]; exact K0 tb
  · have g : GH S (wI S (itC (sR S) x k (sI S))) x m out A := GH_w hG (ir k (Nat.le_refl k)) (fo_itC hL k _ FO.rf)
    exact And.intro hG.2.2.2.1 (And.intro (by show vp_in 0 (sN S out); rw [hG.2.2.2.2.1]; exact in_0 (by decide)) (K1 nb (pJ (wI S (itC (sR S) x k (sI S))) out 0 _) k (GH_p g) rfl hk ev rfl ir (up2_self _ _ _ _)))
theorem p_tickx {Q : Option Value → MM → Prop} {S S1 : MM} {x m out i k : Nat} {A : Nat → Nat} {v : Int32} (hi : i < 3000) (hP : GP S x m out A i) (nb : ¬ TB v) (hh : GH S S1 x m out A) (er : sR S1 = sR S) (hk : k ≤ 1000) (ev : v = nI k) (ei : sI S1 = itC (sR S) x k (sI S)) (irs : ∀ j, j ≤ k → IR (wI S (itC (sR S) x j (sI S)))) (K : ∀ S2, GP S2 x m out A (i + 1) → sI S2 m 0 = 0 → sJ S2 = sJ S1 → Q (some (.int (ar (sR S) x (itC (sR S) x k (sI S)) - ar (sR S) x (sI S)))) S2) : wX8_tick_ [.ref m, .int v] S1 Q := by
  have hG := hP.1
  have hM1 := hh.2.2.2.2.2.1
  have hL := ly_of hG
  obtain ⟨g1, g2, g3, g4, g5, g6, g7, nt, F, cl, bi, n0, fr, hF, hc⟩ := id hG
  have bi1 := BI_h hh.2.2.2.2.2.2.2.1 hh.2.2.2.2.2.2.2.2 bi
  have ek := hh.2.2.2.2.2.2.2.2
  have hnt := bi.1.2.2.2.1
  have hL1 : LY S1 x := ⟨hh.1, hh.2.2.1⟩
  have frl := FRs_at hP n0 (by omega) (by omega)
  have frl1 : FRl (sR S) x A (sI S) (sI S1) cl nt := FR_t hL FA.rf (fun k hk => ek k ((show ∀ k ∈ KF, k ∈ DM by decide) k hk)) frl
  refine c_Mtickf (S := S1) (I := sI S) (cl := cl) (nt := nt) (F := F) hL1 hh.2.2.2.2.2.2.1 hM1 bi1.1.1 (fun tb r S2 e im _ => absurd tb nb) (by omega) (by omega) (fun _ => ?_)
  rw [er]
  refine ⟨k, hk, ev, fun j hj c e hc he => irs j hj (Ln (sR S) x c e) 4 1 8 (ly_N hL hc he).2.1 rfl, NR_h hh n0, fun t ht => ?_, bi1, frl1, BN_t hL P6.rf (fun y _ e4 => by rw [ek 9 (by decide)] at e4; exact ⟨e4, by rw [ek 12 (by decide)]⟩) hP.2.2, fun r F' nt' nr fr' bi' fz f0 frl' er' bn' => ?_⟩
  · rw [ek 30 (by decide)]
    exact fr t ht
  · have g2 : GN (wI S1 F') x m out A (i + 1) := FIN (S2 := wI S1 F') hh rfl rfl rfl fz (by rw [er, ei]; exact nr) bi' fr' (by omega) (by omega)
    have f2 : FRl (sR S) x A F' F' (cl + k) nt' := FR_t hL (fa_z hL g6 (fun z h1 h2 => by rw [fz z h1 h2, ei])) (fun _ _ => rfl) frl'
    have n2 := bi'.1.2.2.2.1
    have frs : FRs (wI S1 F') x m A := FRs_of (by rw [er]; exact BN_t hL (fun z hz => by rw [fz z (no_ref g6 hz (by decide)).1 (no_ref g6 hz (by decide)).2, ei]) (fun _ _ e4 => ⟨e4, rfl⟩) bn') (by rw [er]; exact f2) nr.2.2.2.1.2.1 nr.2.2.2.1.2.2 (by omega) (by omega)
    have a0 : ∀ e, e < 2 → F' (A 42) e = itC (sR S) x k (sI S) (En (sR S) x e) 3 := fun e he => by
      obtain ⟨s, q1, q2, _⟩ := frl'.2.2 e he
      rw [q1.1, q2.1]
    have b0 : ∀ e, e < 2 → sI S1 (A 42) e = sI S (En (sR S) x e) 3 := fun e he => by
      obtain ⟨s, q1, q2, _⟩ := frl1.2.2 e he
      rw [q1.1, q2.1]
    have er2 : r = ar (sR S) x (itC (sR S) x k (sI S)) - ar (sR S) x (sI S) := by
      rw [er', a0 0 (by decide), a0 1 (by decide), b0 0 (by decide), b0 1 (by decide)]
      rfl
    rw [er2]
    exact K (wI S1 F') ⟨g2, frs⟩ f0 rfl
theorem p_tick0 {Q : Option Value → MM → Prop} {S : MM} {x m out i : Nat} {A : Nat → Nat} {v : Int32} (hi : i < 3000) (hP : GP S x m out A i) (tb : TB v) (K : ∀ r S2, GP S2 x m out A (i + 1) → sI S2 m 0 = 1 → Q (some (.int r)) S2) : wX8_tick_ [.ref m, .int v] S Q := by
  have hG := hP.1
  have hL := ly_of hG
  obtain ⟨g1, g2, g3, g4, g5, g6, g7, nt, F, cl, bi, n0, fr, hF, hc⟩ := id hG
  exact c_Mtickf (S := S) (I := sI S) (cl := cl) (nt := nt) (F := F) hL g7 g6 bi.1.1 (fun _ r S2 e im e0 => K r S2 (p_same hP (GH_0 hG) rfl rfl e im) e0) (by omega) (by omega) (fun z => absurd tb z)
