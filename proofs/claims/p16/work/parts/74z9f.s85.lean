/-! SIMULATION 85: ticks and give, with what they leave -/
theorem x_tick1g {Q : Option Value → MM → Prop} {S : MM} {b m cl nt F : Nat} {A : Nat → Nat} {I : Mm} (hL : LY S b) (hO : OC S) (hM : MS S m A) (l1 : ∀ c e, c < 8 → e < 2 → ∃ n, n < 8 ∧ I (Ln (sR S) b c e) 1 = nI n) (h : NRl (sR S) b m A I (sI S) cl nt) (fr : FRj (sI S) A nt F) (hB : BI S m A nt F cl) (frl : FRl (sR S) b A I (sI S) cl nt) (hF : F < 3000) (hcl : cl < 1000000000) (K : ∀ r F' nt', NRl (sR S) b m A (f_X7_runTick I (sR S) b) F' (cl + 1) nt' → FRj F' A nt' F → BI (wI S F') m A nt' F (cl + 1) → (∀ z, z ≠ m → (∀ k ∈ DM, z ≠ A k) → F' z = sI S z) → F' m 0 = sI S m 0 → FRl (sR S) b A (f_X7_runTick I (sR S) b) F' (cl + 1) nt' → r = F' (A 42) 0 + F' (A 42) 1 - (sI S (A 42) 0 + sI S (A 42) 1) → BN (sR S) b (f_X7_runTick I (sR S) b) F' A → (∀ k ∈ KMt, F' (A k) = sI S (A k)) → Q (some (.int r)) (wI S F')) : wX8_tick [.ref m] S Q := by
  have hl := BI_len hB
  have hA := AD_of hM
  obtain ⟨⟨im, rv, m32, hnt, ut⟩, m39, m43, lv, s, cm, hs⟩ := hB
  have s22 : ∀ t, ∃ p, p < 8 ∧ sI S (A 22) t = nI p := im.1 22 8 rfl
  have s27 : ∀ t, ∃ p, p < 8 ∧ sI S (A 27) t = nI p := im.1 27 8 rfl
  have s28 : ∀ t, ∃ p, p < 2 ∧ sI S (A 28) t = nI p := im.1 28 2 rfl
  have ri := h.2.2.2.2.2.1
  obtain ⟨⟨t1, t2⟩, nt', new, nr, hnew, tgE, nw, jk, j42, jm, _⟩ := tick_sim (nf := F) hL hO hA hcl s27 s28 l1 h (by omega)
  have hb42 : ∀ e, e < 2 → ∃ n, n ≤ 4000 ∧ sI S (A 42) e = nI n := fun e he => by
    obtain ⟨n0, n1, h0, h1, h2⟩ := cm
    have q : e = 0 ∨ e = 1 := by omega
    rcases q with rfl | rfl
    · exact ⟨n0, by omega, h0⟩
    · exact ⟨n1, by omega, h1⟩
  have frl' := tick_f (nf := F) hL hO hA hcl s27 s28 s22 h (by omega) frl hb42 tgE (fun q hq => by obtain ⟨x, c, hx, hc, lit, e11, q0, q1, q2, q3⟩ := nw q hq; exact q3) (fun c _ => bd_e ⟨jk 23 c (by decide) (by decide) (by decide) (by decide) (by decide) (by decide) (by decide) (by decide) (by decide) (by decide) (by decide) (by decide) (by decide), jk 24 c (by decide) (by decide) (by decide) (by decide) (by decide) (by decide) (by decide) (by decide) (by decide) (by decide) (by decide) (by decide) (by decide)⟩)
  have an := tick_an (nt := nt) (nf := F) (J := sI S) hA
  have bn' := tick_b (nt := nt) (nf := F) hL hO hA hcl s27 s28 l1 h
  have cm' := comes_cm (nt := nt) (nf := F) (cl := cl) (N := s) hM m43 s22 s27 s28 (by omega) (by omega) cm
  have fz := fun z (h1 : z ≠ m) (h2 : ∀ k ∈ DM, z ≠ A k) => nm_X8_tick (I := sI S) (m := m) (A := A) (nt := nt) (nf := F) (z := z) (fun k hk => h2 k (mem_sub k hk (by decide))) h1
  unfold mid8 at t1 t2
  dsimp only at t1 t2
  refine x_X8_tick (B := 40000) hM hnt (by omega) im m32 m39 ⟨by decide, fun e he => ?_⟩ fr t1 t2 (fun im' => ?_)
  · obtain ⟨n0, n1, h0, h1, h2⟩ := cm
    have q : e = 0 ∨ e = 1 := by omega
    rcases q with rfl | rfl
    · exact ⟨n0, by omega, h0⟩
    · exact ⟨n1, by omega, h1⟩
  clear t1 t2
  generalize (f_X8_tick (sI S) m A nt F).2 = r at im' an ⊢
  generalize (f_X8_tick (sI S) m A nt F).1 = F' at nr tgE jk j42 jm fz im' frl' an bn' ⊢
  have kmE : ∀ k ∈ KMt, F' (A k) = sI S (A k) := fun k hk => by
    obtain ⟨h0, h1, h2, h3, h4, h5, h6, h7, h8, h9, h10, h11, h12⟩ := (show ∀ k ∈ KMt, dm k ∧ ¬ wC k ∧ k ≠ 9 ∧ k ≠ 10 ∧ k ≠ 12 ∧ k ≠ 13 ∧ k ≠ 14 ∧ k ≠ 16 ∧ k ≠ 19 ∧ k ≠ 20 ∧ k ≠ 21 ∧ k ≠ 26 ∧ k ≠ 40 by decide) k hk
    exact funext (fun j => jk k j h0 h1 h2 h3 h4 h5 h6 h7 h8 h9 h10 h11 h12)
  generalize (f_X8_comes (sI S) m A nt F).1 = J1 at j42 cm'
  have len : nt' = ((TG (sI S) A nt).filter (nd cl) ++ new).length := by rw [← tgE]; unfold TG; simp
  have hnt' : nt' < 4001 := by
    rw [List.length_append] at len
    have q1 := List.length_filter_le (nd cl) (TG (sI S) A nt)
    have q2 : (TG (sI S) A nt).length = nt := by unfold TG; simp
    omega
  have tl : TL (wI S F') A nt' = (TL S A nt).filter (pD (nI cl)) ++ new.map pr4 := by
    rw [TL_TG, TL_TG]
    show (TG F' A nt').map pr4 = _
    rw [tgE, List.map_append, pr_flt]
  have nwl : NW (nI cl) (new.map pr4) := fun q hq => by
    obtain ⟨p, hp, rfl⟩ := List.mem_map.mp hq
    obtain ⟨x, c, hx, hc, lit, e11, q0, q1, q2, q3⟩ := nw p hp
    obtain ⟨c', hc', ec', uc'⟩ := ri.2.2.2.2 (x / 8) (x % 8) (by omega) (by omega) (Or.inl (by rw [show 8 * (x / 8) + x % 8 = x by omega]; exact lit))
    rw [show 8 * (x / 8) + x % 8 = x by omega, e11] at ec'
    have := nI_inj (by omega) (by omega) ec'
    subst this
    obtain ⟨d, d1, d2, ed⟩ := ri.2.2.1 c hc (ri.1 c hc uc')
    exact ⟨q3, d, d1, d2, by show p 2 = _; rw [q2, m43, ed]⟩
  refine K r F' nt' nr (fun t ht => ?_) ⟨⟨im', nr.2.2.2.2.2.1, nr.2.2.2.1.2.2, hnt', fun q hq => ?_⟩, (jm 39 (by decide) (by decide) (by decide) (by decide) (by decide) (by decide) (by decide)).trans m39, nr.2.2.2.1.2.1, ?_, s + (TG (sI S) A nt).countP (fDa cl), ?_, ?_⟩ fz (jm 0 (by decide) (by decide) (by decide) (by decide) (by decide) (by decide) (by decide)) frl' an bn' kmE
  · have all : ∀ q ∈ TG F' A nt', ¬ q 3 = -1 → (q 3).toNatClampNeg < F := fun q hq => by
      rw [tgE] at hq
      rcases List.mem_append.mp hq with hq | hq
      · obtain ⟨u, hu, rfl⟩ := List.mem_map.mp (List.mem_filter.mp hq).1
        exact fr u (List.mem_range.mp hu)
      · obtain ⟨x, c, hx, hc, lit, e11, q0, q1, q2, q3⟩ := nw q hq
        exact fun z => absurd q3 z
    exact tg_mem all t ht
  · rw [TL_TG] at hq
    obtain ⟨p, hp, rfl⟩ := List.mem_map.mp hq
    obtain ⟨u, hu, rfl⟩ := List.mem_map.mp hp
    exact nr.2.2.2.2.2.2.2.2.2.1 u (List.mem_range.mp hu)
  · rw [tl]
    exact LV_tick lv (by omega) (by rw [List.length_map]; exact hnew) nwl
  · exact CMj_e cm' (fun j => j42 j) (Nat.le_refl _)
  · rw [tl, List.countP_append, NW_cnt nwl]
    have q1 := cnt_fD (nI cl) (TL S A nt)
    have q2 : (TL S A nt).countP (fD (nI cl)) = (TG (sI S) A nt).countP (fDa cl) := by rw [TL_TG]; exact pr_cnt
    omega
theorem y_tc25g {Q : Option Value → MM → Prop} {S : MM} {b m n cl F : Nat} {A : Nat → Nat} {I : Mm} {b0 : Int32} (hL : LY S b) (hO : OC S) (hM : MS S m A) (hF : F < 3000) (hcl : cl + n < 1000000000) (hn : n ≤ 1000) (l1 : ∀ j, j ≤ n → ∀ c e, c < 8 → e < 2 → ∃ n, n < 8 ∧ itC (sR S) b j I (Ln (sR S) b c e) 1 = nI n) (K : ∀ r F' nt', NRl (sR S) b m A (itC (sR S) b n I) F' (cl + n) nt' → FRj F' A nt' F → BI (wI S F') m A nt' F (cl + n) → (∀ z, z ≠ m → (∀ k ∈ DM, z ≠ A k) → F' z = sI S z) → F' m 0 = 0 → FRl (sR S) b A (itC (sR S) b n I) F' (cl + n) nt' → r = F' (A 42) 0 + F' (A 42) 1 - b0 → BN (sR S) b (itC (sR S) b n I) F' A → (∀ k ∈ KMt, F' (A k) = sI S (A k)) → Q (some (.int r)) (wI S F')) : ∀ (r i f nt : Nat) (lv : Lv) (G : Mm) (a : Int32), i + r = n → r + 2 ≤ f → lvg lv 0 = some (.ref m) → lvg lv 1 = some (.int (nI n)) → lvg lv 2 = some (.int a) → lvg lv 3 = some (.int (nI i)) → G m 0 = 0 → NRl (sR S) b m A (itC (sR S) b i I) G (cl + i) nt → FRj G A nt F → BI (wI S G) m A nt F (cl + i) → (∀ z, z ≠ m → (∀ k ∈ DM, z ≠ A k) → G z = sI S z) → FRl (sR S) b A (itC (sR S) b i I) G (cl + i) nt → a = G (A 42) 0 + G (A 42) 1 - b0 → BN (sR S) b (itC (sR S) b i I) G A → (∀ k ∈ KMt, G (A k) = sI S (A k)) → wpn (kX8_tick_ Q) f 25 lv [] (wI S G) 0 0 := by
  intro r
  induction r with
  | zero =>
    intro i f nt lv G a hi hf l0 l1 l2 l3 t0 nr fr hB fz frl ha bn km
    have e : i = n := by omega
    subst e
    obtain ⟨g, rfl⟩ : ∃ g, f = g + 2 := ⟨f - 2, by omega⟩
    refine u_X8_tick__25 ?_
    unfold bX8_tick__25
    exact e_ldI l3 (e_ldI l1 (e_ge (by omega) (by omega) (fun _ => q_tc50 l2 (K a G nt nr fr hB fz t0 frl ha bn km)) (fun h => absurd h (by omega))))
  | succ r ih =>
    intro i f nt lv G a hi hf l0 l1' l2 l3 t0 nr fr hB fz frl ha bn km
    obtain ⟨g, rfl⟩ : ∃ g, f = g + 1 := ⟨f - 1, by omega⟩
    refine u_X8_tick__25 ?_
    unfold bX8_tick__25
    refine e_ldI l3 (e_ldI l1' (e_ge (by omega) (by omega) (fun h => absurd h (by omega)) (fun _ => e_ldA l0 (e_gV (v := 0) hM.1 t0 ⟨fun _ => ?_, fun z => absurd rfl z⟩))))
    refine e_ldI l2 (e_ldA l0 (And.intro hM.1 (And.intro ⟨by decide, by decide⟩ (x_tick1g (S := wI S G) (I := itC (sR S) b i I) hL hO hM (l1 i (by omega)) nr fr hB frl hF (by omega) (fun r1 G1 nt1 nr1 fr1 hB1 fz1 k0 frl1 er1 bn1 km1 => e_bopE (e_stI (e_inc (lvg_ne l3 rfl (by decide)) ?_)))))))
    refine ih (i + 1) g nt1 _ G1 (a + r1) (by omega) (by omega) (lvg_ne (lvg_ne l0 rfl (by decide)) rfl (by decide)) (lvg_ne (lvg_ne l1' rfl (by decide)) rfl (by decide)) (lvg_ne lvg_self rfl (by decide)) lvg_self (k0.trans t0) ?_ fr1 hB1 (fun z h1 h2 => (fz1 z h1 h2).trans (fz z h1 h2)) ?_ ?_ (by rw [itC_s]; exact bn1) (fun k hk => (km1 k hk).trans (km k hk))
    · rw [itC_s]
      exact nr1
    · rw [itC_s]
      exact frl1
    · rw [er1, ha]
      exact i_tel b0 (G (A 42) 0 + G (A 42) 1) (G1 (A 42) 0 + G1 (A 42) 1)
theorem c_Mtickg {Q : Option Value → MM → Prop} {S : MM} {b m cl nt F : Nat} {A : Nat → Nat} {I : Mm} {v : Int32} (hL : LY S b) (hO : OC S) (hM : MS S m A) (im : IM S m A) (K1 : TB v → ∀ r S', SM [0] m A S S' → IM S' m A → sI S' m 0 = 1 → Q (some (.int r)) S') (hF : F < 3000) (hcl : cl + 1000 < 1000000000) (h : ¬ TB v → ∃ n, n ≤ 1000 ∧ v = nI n ∧ (∀ j, j ≤ n → ∀ c e, c < 8 → e < 2 → ∃ n, n < 8 ∧ itC (sR S) b j I (Ln (sR S) b c e) 1 = nI n) ∧ NRl (sR S) b m A I (sI S) cl nt ∧ FRj (sI S) A nt F ∧ BI S m A nt F cl ∧ FRl (sR S) b A I (sI S) cl nt ∧ BN (sR S) b I (sI S) A ∧ ∀ r F' nt', NRl (sR S) b m A (itC (sR S) b n I) F' (cl + n) nt' → FRj F' A nt' F → BI (wI S F') m A nt' F (cl + n) → (∀ z, z ≠ m → (∀ k ∈ DM, z ≠ A k) → F' z = sI S z) → F' m 0 = 0 → FRl (sR S) b A (itC (sR S) b n I) F' (cl + n) nt' → r = F' (A 42) 0 + F' (A 42) 1 - (sI S (A 42) 0 + sI S (A 42) 1) → BN (sR S) b (itC (sR S) b n I) F' A → (∀ k ∈ KMt, F' (A k) = sI S (A k)) → Q (some (.int r)) (wI S F')) : wX8_tick_ [.ref m, .int v] S Q := by
  have bad : TB v → ∀ f, wpn (kX8_tick_ Q) (f + 4) 13 (lv_args 0 [.ref m, .int v]) [.ref m] S 0 0 := fun tb f => by
    refine u_X8_tick__13 ?_
    unfold bX8_tick__13
    refine e_cI (u_X8_tick__18 ?_)
    unfold bX8_tick__18
    refine y_mI (W := [0]) hM SM.rf im (by decide) (fun N e => nomatch (show (none : Option Nat) = some N from e)) (fun S1 he sh im1 => e_cN 0 rfl (e_stI (e_cN 0 rfl (e_stI (u_X8_tick__25 ?_)))))
    unfold bX8_tick__25
    refine e_ldI lvg_self (e_ldI (lvg_ne (lvg_ne rfl rfl (by decide)) rfl (by decide)) ⟨fun _ => q_tc50 (lvg_ne lvg_self rfl (by decide)) (K1 tb _ S1 sh im1 (by rw [he]; exact rd_s)), fun _ => ?_⟩)
    exact e_ldA (lvg_ne (lvg_ne rfl rfl (by decide)) rfl (by decide)) (e_gV (v := 1) (SM_k sh hM.1) (by rw [he]; exact rd_s) ⟨fun z => absurd z (by decide), fun _ => q_tc50 (lvg_ne lvg_self rfl (by decide)) (K1 tb _ S1 sh im1 (by rw [he]; exact rd_s))⟩)
  refine Exists.intro 1100 (u_X8_tick__0 ?_)
  unfold bX8_tick__0
  refine e_ldA rfl (e_ldI rfl (e_cI ⟨fun h1 => bad (Or.inl h1) 1095, fun h1 => e_ldI rfl (e_cI ⟨fun h2 => u_X8_tick__17 ?_, fun h2 => bad (Or.inr h2) 1095⟩)⟩))
  have ntb : ¬ TB v := fun q => q.elim h1 (fun z => z h2)
  obtain ⟨n, hn2, en, l1, nr, fr, hB, frl, bn, K⟩ := h ntb
  subst en
  unfold bX8_tick__17
  refine e_cI (u_X8_tick__18 ?_)
  unfold bX8_tick__18
  refine e_mT hM im hM.1 (fun N e => nomatch (show (none : Option Nat) = some N from e)) (fun im1 => e_cN 0 rfl (e_stI (e_cN 0 rfl (e_stI ?_))))
  have hA := AD_of hM
  have kk : ∀ k j, dm k → (up2 (sI S) m 0 (0 : Int32)) (A k) j = sI S (A k) j := fun k j hk => mm_a hA hk
  have km : ∀ j, j ≠ 0 → (up2 (sI S) m 0 (0 : Int32)) m j = sI S m j := fun j hj => mm_j hj
  have s1 : SM [0] m A S (pI S m 0 0) := SM.wm SM.rf (by decide)
  have hB1 := BI_SM hB hM s1 im1 (by decide)
  exact y_tc25g (b0 := sI S (A 42) 0 + sI S (A 42) 1) (S := S) (n := n) (cl := cl) (F := F) (I := I) hL hO hM hF (by omega) hn2 l1 K n 0 1097 nt _ (up2 (sI S) m 0 0) _ (by omega) (by omega) (lvg_ne (lvg_ne rfl rfl (by decide)) rfl (by decide)) (lvg_ne (lvg_ne rfl rfl (by decide)) rfl (by decide)) (lvg_ne lvg_self rfl (by decide)) lvg_self (up2_self _ _ _ _) (NR_J nr kk km) (fun t ht => by rw [kk 30 t (by decide)]; exact fr t ht) hB1 (fun z h1 _ => up2_row h1) (FR_t hL (fa_z hL hM (fun z _ _ => rfl)) (fun k hk => funext (fun j => kk k j ((show ∀ k ∈ KF, dm k by decide) k hk))) frl) (by rw [kk 42 0 (by decide), kk 42 1 (by decide)]; exact (i_sub0 _).symm) (BN_t hL P6.rf (fun x _ e4 => by rw [kk 9 x (by decide)] at e4; exact ⟨e4, kk 12 x (by decide)⟩) bn) (fun k hk => funext (fun j => kk k j ((show ∀ k ∈ KMt, dm k by decide) k hk)))
theorem q_tickx {Q : Option Value → MM → Prop} {S S1 : MM} {x m out i k : Nat} {A : Nat → Nat} {v : Int32} (hi : i < 3000) (hP : GP S x m out A i) (nb : ¬ TB v) (hh : GH S S1 x m out A) (er : sR S1 = sR S) (hk : k ≤ 1000) (ev : v = nI k) (ei : sI S1 = itC (sR S) x k (sI S)) (irs : ∀ j, j ≤ k → IR (wI S (itC (sR S) x j (sI S)))) (K : ∀ S2, GP S2 x m out A (i + 1) → sI S2 m 0 = 0 → FS m A S1 S2 → (∀ k ∈ KMt, sI S2 (A k) = sI S1 (A k)) → Q (some (.int (ar (sR S) x (itC (sR S) x k (sI S)) - ar (sR S) x (sI S)))) S2) : wX8_tick_ [.ref m, .int v] S1 Q := by
  have hG := hP.1
  have hM1 := hh.2.2.2.2.2.1
  have hL := ly_of hG
  obtain ⟨g1, g2, g3, g4, g5, g6, g7, nt, F, cl, bi, n0, fr, hF, hc⟩ := id hG
  have bi1 := BI_h hh.2.2.2.2.2.2.2.1 hh.2.2.2.2.2.2.2.2 bi
  have ek := hh.2.2.2.2.2.2.2.2
  have hnt := bi.1.2.2.2.1
  have hL1 : LY S1 x := ⟨hh.1, hh.2.2.1⟩
  have frl := FRs_at hP n0 (by omega) (by omega)
  have frl1 : FRl (sR S) x A (sI S) (sI S1) cl nt := FR_t hL FA.rf (fun k hk => ek k ((show ∀ k ∈ KF, k ∈ DM by decide) k hk)) frl
  refine c_Mtickg (S := S1) (I := sI S) (cl := cl) (nt := nt) (F := F) hL1 hh.2.2.2.2.2.2.1 hM1 bi1.1.1 (fun tb r S2 e im _ => absurd tb nb) (by omega) (by omega) (fun _ => ?_)
  rw [er]
  refine ⟨k, hk, ev, fun j hj c e hc he => irs j hj (Ln (sR S) x c e) 4 1 8 (ly_N hL hc he).2.1 rfl, NR_h hh n0, fun t ht => ?_, bi1, frl1, BN_t hL P6.rf (fun y _ e4 => by rw [ek 9 (by decide)] at e4; exact ⟨e4, by rw [ek 12 (by decide)]⟩) hP.2.2, fun r F' nt' nr fr' bi' fz f0 frl' er' bn' km => ?_⟩
  · rw [ek 30 (by decide)]
    exact fr t ht
  · have g2 : GN (wI S1 F') x m out A (i + 1) := FIN (S2 := wI S1 F') hh rfl rfl rfl fz (by rw [er, ei]; exact nr) bi' fr' (by omega) (by omega)
    have f2 : FRl (sR S) x A F' F' (cl + k) nt' := FR_t hL (fa_z hL g6 (fun z h1 h2 => by rw [fz z h1 h2, ei])) (fun _ _ => rfl) frl'
    have n2 := bi'.1.2.2.2.1
    have frs : FRs (wI S1 F') x m A := FRs_of (by rw [er]; exact BN_t hL (fun z hz => by rw [fz z (no_ref g6 hz (by decide)).1 (no_ref g6 hz (by decide)).2, ei]) (fun _ _ e4 => ⟨e4, rfl⟩) bn') (by rw [er]; exact f2) nr.2.2.2.1.2.1 nr.2.2.2.1.2.2 (by omega) (by omega)
    have a0 : ∀ e, e < 2 → F' (A 42) e = itC (sR S) x k (sI S) (En (sR S) x e) 3 := fun e he => by
      obtain ⟨s, q1, q2, _⟩ := frl'.2.2 e he
      rw [q1.1, q2.1]
    have b0 : ∀ e, e < 2 → sI S1 (A 42) e = sI S (En (sR S) x e) 3 := fun e he => by
      obtain ⟨s, q1, q2, _⟩ := frl1.2.2 e he
      rw [q1.1, q2.1]
    have er2 : r = ar (sR S) x (itC (sR S) x k (sI S)) - ar (sR S) x (sI S) := by
      rw [er', a0 0 (by decide), a0 1 (by decide), b0 0 (by decide), b0 1 (by decide)]
      rfl
    rw [er2]
    exact K (wI S1 F') ⟨g2, frs⟩ f0 (FS.w fz) km
theorem q_tick0 {Q : Option Value → MM → Prop} {S : MM} {x m out i : Nat} {A : Nat → Nat} {v : Int32} (hi : i < 3000) (hP : GP S x m out A i) (tb : TB v) (K : ∀ r S2, GP S2 x m out A (i + 1) → sI S2 m 0 = 1 → FS m A S S2 → Q (some (.int r)) S2) : wX8_tick_ [.ref m, .int v] S Q := by
  have hG := hP.1
  have hL := ly_of hG
  obtain ⟨g1, g2, g3, g4, g5, g6, g7, nt, F, cl, bi, n0, fr, hF, hc⟩ := id hG
  exact c_Mtickf (S := S) (I := sI S) (cl := cl) (nt := nt) (F := F) hL g7 g6 bi.1.1 (fun _ r S2 e im e0 => K r S2 (p_same hP (GH_0 hG) rfl rfl e im) e0 (FS.sm g6 e)) (by omega) (by omega) (fun z => absurd tb z)
theorem q_give0 {Q : Option Value → MM → Prop} {S : MM} {x m out i : Nat} {A : Nat → Nat} {v w u y : Int32} (hi : i < 3000) (hP : GP S x m out A i) (gb : GVB v u) (K : ∀ r S2, GP S2 x m out A (i + 1) → sI S2 m 0 = 1 → FS m A S S2 → Q (some (.int r)) S2) : wX8_give [.ref m, .int v, .int w, .int u, .int y] S Q := by
  have hG := hP.1
  obtain ⟨g1, g2, g3, g4, g5, g6, g7, nt, F, cl, bi, n0, fr, hF, hc⟩ := id hG
  have hl := BI_len bi
  obtain ⟨h1, h2, h3, h4, s, h5, h6⟩ := bi
  exact w_v_give g6 h1 (by omega) h2 (by omega) (fun _ r S2 e im e0 => K r S2 (p_same hP (GH_0 hG) rfl rfl e im) e0 (FS.sm g6 e)) (fun e cv he hcv e1 e2 _ _ _ _ _ => absurd gb (by rw [e1, e2]; exact gvb_no he hcv)) (fun e cv _ _ _ _ _ he hcv e1 e2 _ _ _ _ _ _ _ _ _ _ _ _ _ => absurd gb (by rw [e1, e2]; exact gvb_no he hcv))
theorem q_giveN {Q : Option Value → MM → Prop} {S : MM} {x m out i e cv : Nat} {A : Nat → Nat} {v u w y : Int32} {z : Int64} (hi : i < 3000) (hP : GP S x m out A i) (he : e < 2) (hcv : cv < 256) (ev : v = nI e) (eu : u = nI cv) (gn : GNo (sI S) (sR S) x e cv w) (K : ∀ S2, GP S2 x m out A (i + 1) → sI S2 m 0 = 0 → FS m A (pJ S out 0 z) S2 → Q (some (.int (-1))) S2) : wX8_give [.ref m, .int v, .int w, .int u, .int y] (pJ S out 0 z) Q := by
  subst ev eu
  have hG := hP.1
  have hL := ly_of hG
  have hh : GH S (pJ S out 0 z) x m out A := GH_p (GH_0 hG)
  obtain ⟨g1, g2, g3, g4, g5, g6, g7, nt, F, cl, bi, n0, fr, hF, hc⟩ := id hG
  have hl := BI_len bi
  have hnt := bi.1.2.2.2.1
  have frl := FRs_at hP n0 (by omega) (by omega)
  have hM1 := MS_b hh
  have bi1 := BI_h hh.2.2.2.2.2.2.2.1 hh.2.2.2.2.2.2.2.2 bi
  obtain ⟨h1, h2, h3, h4, s, h5, h6⟩ := bi1
  refine w_v_give hM1 h1 (by omega) h2 (by omega) (fun gb _ _ _ _ _ => absurd gb (gvb_no he hcv)) (fun e' cv' _ _ _ _ S2 sm im e0 _ => K S2 (p_same hP hh rfl rfl sm im) e0 (FS.sm hM1 sm)) (fun e' cv' j c d S1 S2 he' hcv' e1 e2 _ _ _ sm _ gy _ _ _ _ _ _ _ => ?_)
  have ee : e = e' := nI_inj (by omega) (by omega) e1
  have ec : cv = cv' := nI_inj (by omega) (by omega) e2
  subst ee ec
  have kA : ∀ k, k ∈ DM → sI S1 (A k) = sI S (A k) := fun k hk => (show sI S1 (A k) = sI (pJ S out 0 z) (A k) from SM_a sm hM1 hk ((show ∀ k ∈ DM, k ∉ ([0] : List Nat) by decide) k hk))
  have rp : ∀ x', x' < 16 → RP (sR S) x (sI S) (sI S1) A x' := fun x' hx' => RP_g (n0.1 x' hx').1 AG.rf (fun k j a b _ => by rw [kA k (dm_DM a)])
  have bn : BN (sR S) x (sI S) (sI S1) A := BN_t hL P6.rf (fun y _ e4 => by rw [kA 9 (by decide)] at e4; exact ⟨e4, by rw [kA 12 (by decide)]⟩) hP.2.2
  have fl := (FR_t hL FA.rf (fun k hk => kA k ((show ∀ k ∈ KF, k ∈ DM by decide) k hk)) frl).1
  exact (gn_gy he rp bn fl gn gy).elim
theorem q_giveA {Q : Option Value → MM → Prop} {S Sa S' : MM} {x m out i e cv j c nf a : Nat} {A : Nat → Nat} {v u w y : Int32} {z : Int64} (hi : i < 3000) (hP : GP S x m out A i) (he : e < 2) (hcv : cv < 256) (ev : v = nI e) (eu : u = nI cv) (gy : GYs (sI S) (sR S) x e cv w j c nf) (af : AF S Sa (Ln (sR S) x c e) a nf) (ch : CHn Sa S' a (En (sR S) x e) x (nI cv) y (sI S x 2 + sI S (Cb (sR S) x c) 2)) (gv : GV S S') (gh : GH S S' x m out A) (K : ∀ S2, GP S2 x m out A (i + 1) → sI S2 m 0 = 0 → FS m A (pJ S' out 0 z) S2 → (∀ k ∈ KMt, sI S2 (A k) = sI S (A k)) → Q (some (.int (nI j))) S2) : wX8_give [.ref m, .int v, .int w, .int u, .int y] (pJ S' out 0 z) Q := by
  subst ev eu
  have hG := hP.1
  have hL := ly_of hG
  have hh : GH S (pJ S' out 0 z) x m out A := GH_p gh
  obtain ⟨g1, g2, g3, g4, g5, g6, g7, nt, F, cl, bi, n0, fr, hF, hc0⟩ := id hG
  have hl := BI_len bi
  have hnt := bi.1.2.2.2.1
  have frl := FRs_at hP n0 (by omega) (by omega)
  have hM1 := MS_b hh
  have bi1 := BI_h hh.2.2.2.2.2.2.2.1 hh.2.2.2.2.2.2.2.2 bi
  have nr1 : NRl (sR S') x m A (sI S') (sI S') cl nt := MDw_of hG gv cl nt (NR_h gh n0)
  have gk : ∀ k, k ∈ DM → sI S' (A k) = sI S (A k) := gh.2.2.2.2.2.2.2.2
  have fr1 : FRj (sI S') A nt F := fun t ht => by rw [gk 30 (by decide)]; exact fr t ht
  have rs : ∀ z, sK S z ≠ 0 → sK S z ≠ 14 → sR S' z = sR S z := fun z h0 h14 => (gv.1 z h0).2.2.2.2 (by
    unfold rc
    rw [if_neg h14]
    split
    · exact Or.inl (by decide)
    · exact Or.inr rfl)
  have le := lye14 (R' := sR S') hL rs
  have kS : ∀ {St : MM}, SM [0] m A (pJ S' out 0 z) St → ∀ k, k ∈ DM → sI St (A k) = sI S (A k) := fun sm k hk => (SM_a sm hM1 hk ((show ∀ k ∈ DM, k ∉ ([0] : List Nat) by decide) k hk)).trans (gk k hk)
  have rp : ∀ {St : MM}, SM [0] m A (pJ S' out 0 z) St → ∀ x', x' < 16 → RP (sR S) x (sI S) (sI St) A x' := fun sm x' hx' => RP_g (n0.1 x' hx').1 AG.rf (fun k j a b _ => by rw [kS sm k (dm_DM a)])
  have bn : ∀ {St : MM}, SM [0] m A (pJ S' out 0 z) St → BN (sR S) x (sI S) (sI St) A := fun sm => BN_t hL P6.rf (fun y _ e4 => by rw [kS sm 9 (by decide)] at e4; exact ⟨e4, by rw [kS sm 12 (by decide)]⟩) hP.2.2
  have fl : ∀ {St : MM}, SM [0] m A (pJ S' out 0 z) St → FLr (sR S) x (sI S) (sI St) A nt := fun sm => (FR_t hL FA.rf (fun k hk => kS sm k ((show ∀ k ∈ KF, k ∈ DM by decide) k hk)) frl).1
  obtain ⟨h1, h2, h3, h4, s, h5, h6⟩ := id bi1
  refine w_v_give hM1 h1 (by omega) h2 (by omega) (fun gb _ _ _ _ _ => absurd gb (gvb_no he hcv)) (fun e' cv' _ _ e1 e2 St sm im e0 gn => ?_) (fun e' cv' j' c' d St S2 he' hcv' e1 e2 hd1 hd2 h23 sm st0 gym sh sh2 iv f39 tl a35 a36 => ?_)
  · have ee : e = e' := nI_inj (by omega) (by omega) e1
    have ec : cv = cv' := nI_inj (by omega) (by omega) e2
    subst ee ec
    exact (gy_gn he (rp sm) (bn sm) (fl sm) gy gn).elim
  have ee : e = e' := nI_inj (by omega) (by omega) e1
  have ec : cv = cv' := nI_inj (by omega) (by omega) e2
  subst ee ec
  obtain ⟨ej, ec, st4, h11⟩ := gy_gy he (rp sm) (bn sm) gy gym
  subst ej ec
  have hj : j' < 8 := gy.1
  have hc : c' < 8 := gy.2.2.2.1
  rw [kS sm 9 (by decide)] at st4
  rw [kS sm 11 (by decide)] at h11
  have h23' : sI S (A 23) c' = nI d := by rw [← gk 23 (by decide)]; exact h23
  have ri := n0.2.2.2.2.2.1
  obtain ⟨c0, hc0', i11, h25⟩ := RI_lit ri (show 8 * e + j' < 16 by omega) (Or.inr st4)
  have e0 : c0 = c' := nI_inj (by omega) (by omega) (i11.symm.trans h11)
  subst e0
  have h24 : sI S (A 24) c0 ≠ 0 := ri.1 c0 hc h25
  have hb : bd (sI S) A c0 = d := by
    unfold bd
    rw [if_neg h24, h23', nI_cl (by omega)]
  have cb : sI S (Cb (sR S) x c0) 2 = nI d := (n0.2.2.2.2.2.2.2.2.1 c0 hc h24).trans h23'
  rw [cb, n0.2.2.2.1.1] at ch
  have e43 : sI (pJ S' out 0 z) m 43 = nI cl := h3
  rw [e43] at tl
  obtain ⟨gn2, t2, thn⟩ := gn_give (S1 := pJ S' out 0 z) hi hh nr1 bi1 fr1 hF hc0 hd1 hd2 sh iv f39 tl
  have hL1 : LY (pJ S' out 0 z) x := ⟨hh.1, hh.2.2.1⟩
  have tP : TG (sI (pJ S' out 0 z)) A nt = TG (sI S) A nt := TG_c (fun t _ => tg_k (fun k hk => gk k ((show ∀ k ∈ ([27, 28, 29, 30, 31] : List Nat), k ∈ DM by decide) k hk)))
  have fr2 : FRl (sR S') x A (sI S') (sI S2) cl (nt + 1) := by
    refine fr_give (J := sI S) (F := F) (d := d) hL g7 hc he gy.2.2.2.2.2.2 gy.2.2.2.2.2.1 af ch le frl hb (by omega) fr (by omega) (t2.trans tP) (congrArg (fun q => q.1) thn) (congrArg (fun q => q.2.1) thn) (congrArg (fun q => q.2.2.1) thn) (congrArg (fun q => q.2.2.2) thn) ?_ ?_ (fun k hk => ?_)
    · rw [a35, kS sm 35 (by decide)]
    · rw [a36, kS sm 36 (by decide)]
    · rw [SM_a sh hM1 (by rcases hk with rfl | rfl | rfl | rfl <;> decide) (by rcases hk with rfl | rfl | rfl | rfl <;> decide)]
      exact gk k (by rcases hk with rfl | rfl | rfl | rfl <;> decide)
  have fr3 : FRl (sR S') x A (sI S2) (sI S2) cl (nt + 1) := FR_t hL1 (fa_z hL1 hM1 (fz_SM hM1 sh)) (fun _ _ => rfl) fr2
  have p6 : P6 S (sI S) (sI S') := fun z hz => by rw [(gv.2.1 z (by rw [hz]; decide)).1 (Or.inr (Or.inl hz))]
  have k9 : ∀ k, (k = 9 ∨ k = 12) → sI S2 (A k) = sI S (A k) := fun k hk => by
    rw [SM_a sh hM1 (by rcases hk with rfl | rfl <;> decide) (by rcases hk with rfl | rfl <;> decide)]
    exact gk k (by rcases hk with rfl | rfl <;> decide)
  have bn2 : BN (sR S') x (sI S2) (sI S2) A := fun x' hx' e4 => by
    rw [k9 9 (by omega)] at e4
    obtain ⟨b1, b2⟩ := hP.2.2 x' hx' e4
    have kp := k_px hL hx'
    rw [px_le le hx', k9 12 (by omega), fz_SM hM1 sh _ (no_ref g6 kp (by decide)).1 (no_ref g6 kp (by decide)).2]
    exact ⟨(p6 _ kp).trans b1, b2⟩
  refine K S2 ⟨gn2, FRs_2 (cl := cl) (n' := nt + 1) (by rw [sh.2.2.1]; exact bn2) (by rw [sh.2.2.1]; exact fr3) ((sh.2.2.2.2.2 43 (by decide)).trans h3) iv.2.2.1 (by omega) (by omega)⟩ ((sh2.2.2.2.2.2 0 (by decide)).trans st0) (FS.sm hM1 sh) (fun k hk => (SM_a sh hM1 ((show ∀ k ∈ KMt, k ∈ DM by decide) k hk) ((show ∀ k ∈ KMt, k ∉ WG by decide) k hk)).trans (gk k ((show ∀ k ∈ KMt, k ∈ DM by decide) k hk)))
