/-! SIMULATION 100: ticks with the counters -/
def XC (R : Nat → Nat → Option Nat) (b m : Nat) (A : Nat → Nat) (I J : Mm) (nt F : Nat) (φ : Nat → Nat) : Prop := XRl R b m A I J nt F φ ∧ ∀ c, c < 8 → I (Cb R b c) 4 = mcl I R b c
theorem x_tick1h {Q : Option Value → MM → Prop} {S : MM} {b m cl nt F : Nat} {A : Nat → Nat} {I : Mm} {φ : Nat → Nat} (hL : LY S b) (hO : OC S) (hM : MS S m A) (l1 : ∀ c e, c < 8 → e < 2 → ∃ n, n < 8 ∧ I (Ln (sR S) b c e) 1 = nI n) (h : NRl (sR S) b m A I (sI S) cl nt) (fr : FRj (sI S) A nt F) (hB : BI S m A nt F cl) (frl : FRl (sR S) b A I (sI S) cl nt) (bnI : BN (sR S) b I (sI S) A) (xc : XC (sR S) b m A I (sI S) nt F φ) (hF : F < 3000) (hcl : cl < 1000000000) (K : ∀ r F' nt', NRl (sR S) b m A (f_X7_runTick I (sR S) b) F' (cl + 1) nt' → FRj F' A nt' F → BI (wI S F') m A nt' F (cl + 1) → (∀ z, z ≠ m → (∀ k ∈ DM, z ≠ A k) → F' z = sI S z) → F' m 0 = sI S m 0 → FRl (sR S) b A (f_X7_runTick I (sR S) b) F' (cl + 1) nt' → r = F' (A 42) 0 + F' (A 42) 1 - (sI S (A 42) 0 + sI S (A 42) 1) → BN (sR S) b (f_X7_runTick I (sR S) b) F' A → (∀ k ∈ KMt, F' (A k) = sI S (A k)) → XC (sR S) b m A (f_X7_runTick I (sR S) b) F' nt' F φ → Q (some (.int r)) (wI S F')) : wX8_tick [.ref m] S Q := by
  have hl := BI_len hB
  have hA := AD_of hM
  obtain ⟨⟨im, rv, m32, hnt, ut⟩, m39, m43, lv, s, cm, hs⟩ := hB
  have s22 : ∀ t, ∃ p, p < 8 ∧ sI S (A 22) t = nI p := im.1 22 8 rfl
  have s27 : ∀ t, ∃ p, p < 8 ∧ sI S (A 27) t = nI p := im.1 27 8 rfl
  have s28 : ∀ t, ∃ p, p < 2 ∧ sI S (A 28) t = nI p := im.1 28 2 rfl
  have ri := h.2.2.2.2.2.1
  obtain ⟨⟨t1, t2⟩, nt', new, nr, hnew, tgE, nw, jk, j42, jm, _⟩ := tick_sim (nf := F) hL hO hA hcl s27 s28 l1 h (by omega)
  have hb42 : ∀ e, e < 2 → ∃ n, n ≤ 4000 ∧ sI S (A 42) e = nI n := fun e he => by
    obtain ⟨n0, n1, h0, h1, h2⟩ := cm
    have q : e = 0 ∨ e = 1 := by omega
    rcases q with rfl | rfl
    · exact ⟨n0, by omega, h0⟩
    · exact ⟨n1, by omega, h1⟩
  have frl' := tick_f (nf := F) hL hO hA hcl s27 s28 s22 h (by omega) frl hb42 tgE (fun q hq => by obtain ⟨x, c, hx, hc, lit, e11, q0, q1, q2, q3⟩ := nw q hq; exact q3) (fun c _ => bd_e ⟨jk 23 c (by decide) (by decide) (by decide) (by decide) (by decide) (by decide) (by decide) (by decide) (by decide) (by decide) (by decide) (by decide) (by decide), jk 24 c (by decide) (by decide) (by decide) (by decide) (by decide) (by decide) (by decide) (by decide) (by decide) (by decide) (by decide) (by decide) (by decide)⟩)
  have an := tick_an (nt := nt) (nf := F) (J := sI S) hA
  have bn' := tick_b (nt := nt) (nf := F) hL hO hA hcl s27 s28 l1 h
  have kmE0 : ∀ k ∈ KMt, (f_X8_tick (sI S) m A nt F).1 (A k) = sI S (A k) := fun k hk => by
    obtain ⟨h0, h1, h2, h3, h4, h5, h6, h7, h8, h9, h10, h11, h12⟩ := (show ∀ k ∈ KMt, dm k ∧ ¬ wC k ∧ k ≠ 9 ∧ k ≠ 10 ∧ k ≠ 12 ∧ k ≠ 13 ∧ k ≠ 14 ∧ k ≠ 16 ∧ k ≠ 19 ∧ k ≠ 20 ∧ k ≠ 21 ∧ k ≠ 26 ∧ k ≠ 40 by decide) k hk
    exact funext (fun j => jk k j h0 h1 h2 h3 h4 h5 h6 h7 h8 h9 h10 h11 h12)
  have xc' : XC (sR S) b m A (f_X7_runTick I (sR S) b) (f_X8_tick (sI S) m A nt F).1 nt' F φ := tick_x (nf := F) hL hO hA hcl s27 s28 s22 l1 h (by omega) (by omega) frl bnI hb42 xc.2 xc.1 tgE (fun q hq => by obtain ⟨x, c, hx, hc, lit, e11, q0, q1, q2, q3⟩ := nw q hq; exact q3) nr kmE0
  have cm' := comes_cm (nt := nt) (nf := F) (cl := cl) (N := s) hM m43 s22 s27 s28 (by omega) (by omega) cm
  have fz := fun z (h1 : z ≠ m) (h2 : ∀ k ∈ DM, z ≠ A k) => nm_X8_tick (I := sI S) (m := m) (A := A) (nt := nt) (nf := F) (z := z) (fun k hk => h2 k (mem_sub k hk (by decide))) h1
  unfold mid8 at t1 t2
  dsimp only at t1 t2
  refine x_X8_tick (B := 40000) hM hnt (by omega) im m32 m39 ⟨by decide, fun e he => ?_⟩ fr t1 t2 (fun im' => ?_)
  · obtain ⟨n0, n1, h0, h1, h2⟩ := cm
    have q : e = 0 ∨ e = 1 := by omega
    rcases q with rfl | rfl
    · exact ⟨n0, by omega, h0⟩
    · exact ⟨n1, by omega, h1⟩
  clear t1 t2
  generalize (f_X8_tick (sI S) m A nt F).2 = r at im' an ⊢
  generalize (f_X8_tick (sI S) m A nt F).1 = F' at nr tgE jk j42 jm fz im' frl' an bn' xc' kmE0 ⊢
  have kmE : ∀ k ∈ KMt, F' (A k) = sI S (A k) := fun k hk => by
    obtain ⟨h0, h1, h2, h3, h4, h5, h6, h7, h8, h9, h10, h11, h12⟩ := (show ∀ k ∈ KMt, dm k ∧ ¬ wC k ∧ k ≠ 9 ∧ k ≠ 10 ∧ k ≠ 12 ∧ k ≠ 13 ∧ k ≠ 14 ∧ k ≠ 16 ∧ k ≠ 19 ∧ k ≠ 20 ∧ k ≠ 21 ∧ k ≠ 26 ∧ k ≠ 40 by decide) k hk
    exact funext (fun j => jk k j h0 h1 h2 h3 h4 h5 h6 h7 h8 h9 h10 h11 h12)
  generalize (f_X8_comes (sI S) m A nt F).1 = J1 at j42 cm'
  have len : nt' = ((TG (sI S) A nt).filter (nd cl) ++ new).length := by rw [← tgE]; unfold TG; simp
  have hnt' : nt' < 4001 := by
    rw [List.length_append] at len
    have q1 := List.length_filter_le (nd cl) (TG (sI S) A nt)
    have q2 : (TG (sI S) A nt).length = nt := by unfold TG; simp
    omega
  have tl : TL (wI S F') A nt' = (TL S A nt).filter (pD (nI cl)) ++ new.map pr4 := by
    rw [TL_TG, TL_TG]
    show (TG F' A nt').map pr4 = _
    rw [tgE, List.map_append, pr_flt]
  have nwl : NW (nI cl) (new.map pr4) := fun q hq => by
    obtain ⟨p, hp, rfl⟩ := List.mem_map.mp hq
    obtain ⟨x, c, hx, hc, lit, e11, q0, q1, q2, q3⟩ := nw p hp
    obtain ⟨c', hc', ec', uc'⟩ := ri.2.2.2.2 (x / 8) (x % 8) (by omega) (by omega) (Or.inl (by rw [show 8 * (x / 8) + x % 8 = x by omega]; exact lit))
    rw [show 8 * (x / 8) + x % 8 = x by omega, e11] at ec'
    have := nI_inj (by omega) (by omega) ec'
    subst this
    obtain ⟨d, d1, d2, ed⟩ := ri.2.2.1 c hc (ri.1 c hc uc')
    exact ⟨q3, d, d1, d2, by show p 2 = _; rw [q2, m43, ed]⟩
  refine K r F' nt' nr (fun t ht => ?_) ⟨⟨im', nr.2.2.2.2.2.1, nr.2.2.2.1.2.2, hnt', fun q hq => ?_⟩, (jm 39 (by decide) (by decide) (by decide) (by decide) (by decide) (by decide) (by decide)).trans m39, nr.2.2.2.1.2.1, ?_, s + (TG (sI S) A nt).countP (fDa cl), ?_, ?_⟩ fz (jm 0 (by decide) (by decide) (by decide) (by decide) (by decide) (by decide) (by decide)) frl' an bn' kmE xc'
  · have all : ∀ q ∈ TG F' A nt', ¬ q 3 = -1 → (q 3).toNatClampNeg < F := fun q hq => by
      rw [tgE] at hq
      rcases List.mem_append.mp hq with hq | hq
      · obtain ⟨u, hu, rfl⟩ := List.mem_map.mp (List.mem_filter.mp hq).1
        exact fr u (List.mem_range.mp hu)
      · obtain ⟨x, c, hx, hc, lit, e11, q0, q1, q2, q3⟩ := nw q hq
        exact fun z => absurd q3 z
    exact tg_mem all t ht
  · rw [TL_TG] at hq
    obtain ⟨p, hp, rfl⟩ := List.mem_map.mp hq
    obtain ⟨u, hu, rfl⟩ := List.mem_map.mp hp
    exact nr.2.2.2.2.2.2.2.2.2.1 u (List.mem_range.mp hu)
  · rw [tl]
    exact LV_tick lv (by omega) (by rw [List.length_map]; exact hnew) nwl
  · exact CMj_e cm' (fun j => j42 j) (Nat.le_refl _)
  · rw [tl, List.countP_append, NW_cnt nwl]
    have q1 := cnt_fD (nI cl) (TL S A nt)
    have q2 : (TL S A nt).countP (fD (nI cl)) = (TG (sI S) A nt).countP (fDa cl) := by rw [TL_TG]; exact pr_cnt
    omega
theorem y_tc25h {Q : Option Value → MM → Prop} {S : MM} {b m n cl F : Nat} {A : Nat → Nat} {I : Mm} {b0 : Int32} {φ : Nat → Nat} (hL : LY S b) (hO : OC S) (hM : MS S m A) (hF : F < 3000) (hcl : cl + n < 1000000000) (hn : n ≤ 1000) (l1 : ∀ j, j ≤ n → ∀ c e, c < 8 → e < 2 → ∃ n, n < 8 ∧ itC (sR S) b j I (Ln (sR S) b c e) 1 = nI n) (K : ∀ r F' nt', NRl (sR S) b m A (itC (sR S) b n I) F' (cl + n) nt' → FRj F' A nt' F → BI (wI S F') m A nt' F (cl + n) → (∀ z, z ≠ m → (∀ k ∈ DM, z ≠ A k) → F' z = sI S z) → F' m 0 = 0 → FRl (sR S) b A (itC (sR S) b n I) F' (cl + n) nt' → r = F' (A 42) 0 + F' (A 42) 1 - b0 → BN (sR S) b (itC (sR S) b n I) F' A → (∀ k ∈ KMt, F' (A k) = sI S (A k)) → XC (sR S) b m A (itC (sR S) b n I) F' nt' F φ → Q (some (.int r)) (wI S F')) : ∀ (r i f nt : Nat) (lv : Lv) (G : Mm) (a : Int32), i + r = n → r + 2 ≤ f → lvg lv 0 = some (.ref m) → lvg lv 1 = some (.int (nI n)) → lvg lv 2 = some (.int a) → lvg lv 3 = some (.int (nI i)) → G m 0 = 0 → NRl (sR S) b m A (itC (sR S) b i I) G (cl + i) nt → FRj G A nt F → BI (wI S G) m A nt F (cl + i) → (∀ z, z ≠ m → (∀ k ∈ DM, z ≠ A k) → G z = sI S z) → FRl (sR S) b A (itC (sR S) b i I) G (cl + i) nt → a = G (A 42) 0 + G (A 42) 1 - b0 → BN (sR S) b (itC (sR S) b i I) G A → (∀ k ∈ KMt, G (A k) = sI S (A k)) → XC (sR S) b m A (itC (sR S) b i I) G nt F φ → wpn (kX8_tick_ Q) f 25 lv [] (wI S G) 0 0 := by
  intro r
  induction r with
  | zero =>
    intro i f nt lv G a hi hf l0 l1 l2 l3 t0 nr fr hB fz frl ha bn km xc
    have e : i = n := by omega
    subst e
    obtain ⟨g, rfl⟩ : ∃ g, f = g + 2 := ⟨f - 2, by omega⟩
    refine u_X8_tick__25 ?_
    unfold bX8_tick__25
    exact e_ldI l3 (e_ldI l1 (e_ge (by omega) (by omega) (fun _ => q_tc50 l2 (K a G nt nr fr hB fz t0 frl ha bn km xc)) (fun h => absurd h (by omega))))
  | succ r ih =>
    intro i f nt lv G a hi hf l0 l1' l2 l3 t0 nr fr hB fz frl ha bn km xc
    obtain ⟨g, rfl⟩ : ∃ g, f = g + 1 := ⟨f - 1, by omega⟩
    refine u_X8_tick__25 ?_
    unfold bX8_tick__25
    refine e_ldI l3 (e_ldI l1' (e_ge (by omega) (by omega) (fun h => absurd h (by omega)) (fun _ => e_ldA l0 (e_gV (v := 0) hM.1 t0 ⟨fun _ => ?_, fun z => absurd rfl z⟩))))
    refine e_ldI l2 (e_ldA l0 (And.intro hM.1 (And.intro ⟨by decide, by decide⟩ (x_tick1h (φ := φ) (S := wI S G) (I := itC (sR S) b i I) hL hO hM (l1 i (by omega)) nr fr hB frl bn xc hF (by omega) (fun r1 G1 nt1 nr1 fr1 hB1 fz1 k0 frl1 er1 bn1 km1 xc1 => e_bopE (e_stI (e_inc (lvg_ne l3 rfl (by decide)) ?_)))))))
    refine ih (i + 1) g nt1 _ G1 (a + r1) (by omega) (by omega) (lvg_ne (lvg_ne l0 rfl (by decide)) rfl (by decide)) (lvg_ne (lvg_ne l1' rfl (by decide)) rfl (by decide)) (lvg_ne lvg_self rfl (by decide)) lvg_self (k0.trans t0) ?_ fr1 hB1 (fun z h1 h2 => (fz1 z h1 h2).trans (fz z h1 h2)) ?_ ?_ (by rw [itC_s]; exact bn1) (fun k hk => (km1 k hk).trans (km k hk)) (by rw [itC_s]; exact xc1)
    · rw [itC_s]
      exact nr1
    · rw [itC_s]
      exact frl1
    · rw [er1, ha]
      exact i_tel b0 (G (A 42) 0 + G (A 42) 1) (G1 (A 42) 0 + G1 (A 42) 1)
theorem XC_J {R : Nat → Nat → Option Nat} {b m nt F : Nat} {A : Nat → Nat} {I J J' : Mm} {φ : Nat → Nat} (hA : AD m A) (h : XC R b m A I J nt F φ) (kk : ∀ k, dm k → J' (A k) = J (A k)) (km : ∀ j, j ≠ 0 → J' m j = J m j) : XC R b m A I J' nt F φ := by
  obtain ⟨⟨⟨x3, x4, x5, x6, x7, x8⟩, xe, ph, xs⟩, c⟩ := h
  have tE : TG J' A nt = TG J A nt := TG_c (fun t _ => tg_k (fun k hk => kk k ((show ∀ k ∈ ([27, 28, 29, 30, 31] : List Nat), dm k by decide) k hk)))
  refine ⟨⟨⟨by rw [km 44 (by decide)]; exact x3, by rw [km 45 (by decide)]; exact x4, by rw [km 46 (by decide)]; exact x5, by rw [km 47 (by decide)]; exact x6, by rw [km 48 (by decide)]; exact x7, by rw [km 49 (by decide)]; exact x8⟩, fun e he => by rw [kk 40 (by decide), kk 33 (by decide)]; exact xe e he, fun c e hc he => by rw [tE]; exact ph c e hc he, fun e he => ⟨fun c hc z hz => ?_, fun c hc z hz => ?_⟩⟩, c⟩
  · have q := (xs e he).1 c hc z hz
    unfold SRz at q ⊢
    rw [kk 33 (by decide), kk 34 (by decide), kk 35 (by decide), kk 37 (by decide)]
    exact q
  · rw [(xs e he).2 c hc z hz, kk 38 (by decide)]
    unfold LAt
    rw [LAb_c (J := J) (J' := J') (fun k hk => kk k (by rcases hk with rfl | rfl | rfl | rfl <;> decide)) (fun _ _ => Iff.rfl)]
theorem c_Mtickh {Q : Option Value → MM → Prop} {S : MM} {b m cl nt F : Nat} {A : Nat → Nat} {I : Mm} {v : Int32} {φ : Nat → Nat} (hL : LY S b) (hO : OC S) (hM : MS S m A) (im : IM S m A) (K1 : TB v → ∀ r S', SM [0] m A S S' → IM S' m A → sI S' m 0 = 1 → Q (some (.int r)) S') (hF : F < 3000) (hcl : cl + 1000 < 1000000000) (h : ¬ TB v → ∃ n, n ≤ 1000 ∧ v = nI n ∧ (∀ j, j ≤ n → ∀ c e, c < 8 → e < 2 → ∃ n, n < 8 ∧ itC (sR S) b j I (Ln (sR S) b c e) 1 = nI n) ∧ NRl (sR S) b m A I (sI S) cl nt ∧ FRj (sI S) A nt F ∧ BI S m A nt F cl ∧ FRl (sR S) b A I (sI S) cl nt ∧ BN (sR S) b I (sI S) A ∧ XC (sR S) b m A I (sI S) nt F φ ∧ ∀ r F' nt', NRl (sR S) b m A (itC (sR S) b n I) F' (cl + n) nt' → FRj F' A nt' F → BI (wI S F') m A nt' F (cl + n) → (∀ z, z ≠ m → (∀ k ∈ DM, z ≠ A k) → F' z = sI S z) → F' m 0 = 0 → FRl (sR S) b A (itC (sR S) b n I) F' (cl + n) nt' → r = F' (A 42) 0 + F' (A 42) 1 - (sI S (A 42) 0 + sI S (A 42) 1) → BN (sR S) b (itC (sR S) b n I) F' A → (∀ k ∈ KMt, F' (A k) = sI S (A k)) → XC (sR S) b m A (itC (sR S) b n I) F' nt' F φ → Q (some (.int r)) (wI S F')) : wX8_tick_ [.ref m, .int v] S Q := by
  have bad : TB v → ∀ f, wpn (kX8_tick_ Q) (f + 4) 13 (lv_args 0 [.ref m, .int v]) [.ref m] S 0 0 := fun tb f => by
    refine u_X8_tick__13 ?_
    unfold bX8_tick__13
    refine e_cI (u_X8_tick__18 ?_)
    unfold bX8_tick__18
    refine y_mI (W := [0]) hM SM.rf im (by decide) (fun N e => nomatch (show (none : Option Nat) = some N from e)) (fun S1 he sh im1 => e_cN 0 rfl (e_stI (e_cN 0 rfl (e_stI (u_X8_tick__25 ?_)))))
    unfold bX8_tick__25
    refine e_ldI lvg_self (e_ldI (lvg_ne (lvg_ne rfl rfl (by decide)) rfl (by decide)) ⟨fun _ => q_tc50 (lvg_ne lvg_self rfl (by decide)) (K1 tb _ S1 sh im1 (by rw [he]; exact rd_s)), fun _ => ?_⟩)
    exact e_ldA (lvg_ne (lvg_ne rfl rfl (by decide)) rfl (by decide)) (e_gV (v := 1) (SM_k sh hM.1) (by rw [he]; exact rd_s) ⟨fun z => absurd z (by decide), fun _ => q_tc50 (lvg_ne lvg_self rfl (by decide)) (K1 tb _ S1 sh im1 (by rw [he]; exact rd_s))⟩)
  refine Exists.intro 1100 (u_X8_tick__0 ?_)
  unfold bX8_tick__0
  refine e_ldA rfl (e_ldI rfl (e_cI ⟨fun h1 => bad (Or.inl h1) 1095, fun h1 => e_ldI rfl (e_cI ⟨fun h2 => u_X8_tick__17 ?_, fun h2 => bad (Or.inr h2) 1095⟩)⟩))
  have ntb : ¬ TB v := fun q => q.elim h1 (fun z => z h2)
  obtain ⟨n, hn2, en, l1, nr, fr, hB, frl, bn, xc, K⟩ := h ntb
  subst en
  unfold bX8_tick__17
  refine e_cI (u_X8_tick__18 ?_)
  unfold bX8_tick__18
  refine e_mT hM im hM.1 (fun N e => nomatch (show (none : Option Nat) = some N from e)) (fun im1 => e_cN 0 rfl (e_stI (e_cN 0 rfl (e_stI ?_))))
  have hA := AD_of hM
  have kk : ∀ k j, dm k → (up2 (sI S) m 0 (0 : Int32)) (A k) j = sI S (A k) j := fun k j hk => mm_a hA hk
  have km : ∀ j, j ≠ 0 → (up2 (sI S) m 0 (0 : Int32)) m j = sI S m j := fun j hj => mm_j hj
  have s1 : SM [0] m A S (pI S m 0 0) := SM.wm SM.rf (by decide)
  have hB1 := BI_SM hB hM s1 im1 (by decide)
  exact y_tc25h (φ := φ) (b0 := sI S (A 42) 0 + sI S (A 42) 1) (S := S) (n := n) (cl := cl) (F := F) (I := I) hL hO hM hF (by omega) hn2 l1 K n 0 1097 nt _ (up2 (sI S) m 0 0) _ (by omega) (by omega) (lvg_ne (lvg_ne rfl rfl (by decide)) rfl (by decide)) (lvg_ne (lvg_ne rfl rfl (by decide)) rfl (by decide)) (lvg_ne lvg_self rfl (by decide)) lvg_self (up2_self _ _ _ _) (NR_J nr kk km) (fun t ht => by rw [kk 30 t (by decide)]; exact fr t ht) hB1 (fun z h1 _ => up2_row h1) (FR_t hL (fa_z hL hM (fun z _ _ => rfl)) (fun k hk => funext (fun j => kk k j ((show ∀ k ∈ KF, dm k by decide) k hk))) frl) (by rw [kk 42 0 (by decide), kk 42 1 (by decide)]; exact (i_sub0 _).symm) (BN_t hL P6.rf (fun x _ e4 => by rw [kk 9 x (by decide)] at e4; exact ⟨e4, kk 12 x (by decide)⟩) bn) (fun k hk => funext (fun j => kk k j ((show ∀ k ∈ KMt, dm k by decide) k hk))) (XC_J hA xc (fun k hk => funext (fun j => kk k j hk)) (fun j hj => km j hj))
