/-! SIMULATION 104: light, pull, plug with the counters -/
theorem XR_T {S : MM} {b m nt F : Nat} {A : Nat → Nat} {I I' J J' : Mm} {φ : Nat → Nat} (hL : LY S b) (fok : ∀ c e, c < 8 → e < 2 → FOK I (sR S) b c e) (fa : FA S b I I') (bj : ∀ j, 3 ≤ j → j ≤ 8 → I' b j = I b j) (en : ∀ e, e < 2 → ∀ k, (k = 7 ∨ k = 8) → I' (En (sR S) b e) k = I (En (sR S) b e) k) (jk : ∀ k, (k = 33 ∨ k = 34 ∨ k = 35 ∨ k = 37 ∨ k = 38 ∨ k = 40) → J' (A k) = J (A k)) (jm : ∀ j, 44 ≤ j → j ≤ 49 → J' m j = J m j) (tg : TG J' A nt = TG J A nt) (h : XRl (sR S) b m A I J nt F φ) : XRl (sR S) b m A I' J' nt F φ := by
  obtain ⟨⟨x3, x4, x5, x6, x7, x8⟩, ep, xg⟩ := h
  refine ⟨⟨?_, ?_, ?_, ?_, ?_, ?_⟩, fun e he => ?_, XG_t hL fok fa (fun k hk => jk k (by omega)) tg xg⟩
  · rw [bj 3 (by decide) (by decide), jm 44 (by decide) (by decide)]; exact x3
  · rw [bj 4 (by decide) (by decide), jm 45 (by decide) (by decide)]; exact x4
  · rw [bj 5 (by decide) (by decide), jm 46 (by decide) (by decide)]; exact x5
  · rw [bj 6 (by decide) (by decide), jm 47 (by decide) (by decide)]; exact x6
  · rw [bj 7 (by decide) (by decide), jm 48 (by decide) (by decide)]; exact x7
  · rw [bj 8 (by decide) (by decide), jm 49 (by decide) (by decide)]; exact x8
  · rw [en e he 8 (Or.inr rfl), en e he 7 (Or.inl rfl), jk 40 (by omega), jk 33 (by omega)]
    exact ep e he
theorem XR_R {S : MM} {R' : Nat → Nat → Option Nat} {b m nt F : Nat} {A : Nat → Nat} {I J : Mm} {φ : Nat → Nat} (hL : LY S b) (hr : ∀ z, sK S z ≠ 0 → sK S z ≠ 17 → R' z = sR S z) (h : XRl (sR S) b m A I J nt F φ) : XRl R' b m A I J nt F φ := by
  have r : ∀ z k, sK S z = k → k ≠ 17 → k ≠ 0 → R' z = sR S z := fun z k hz h1 h0 => hr z (by rw [hz]; exact h0) (by rw [hz]; exact h1)
  have e0 : ead R' b = ead (sR S) b := by unfold ead; rw [r b 8 hL.2 (by decide) (by decide)]
  have E : ∀ e, En R' b e = En (sR S) b e := fun e => by unfold En; rw [e0, r _ 13 (ly_ea hL).2.1 (by decide) (by decide)]
  obtain ⟨ct, ep, xg⟩ := h
  exact ⟨ct, fun e he => by rw [E e]; exact ep e he, XG_R hL hr xg⟩
theorem xr_nc {S : MM} {b m nt F : Nat} {A : Nat → Nat} {I J : Mm} {φ : Nat → Nat} (hL : LY S b) (hA : AD m A) (fok : ∀ c e, c < 8 → e < 2 → FOK I (sR S) b c e) (h : XRl (sR S) b m A I J nt F φ) : XRl (sR S) b m A (f_X7_noteChange I (sR S) b) (up2 J m 44 (nI 0)) nt F φ := by
  obtain ⟨n1, n2, n3⟩ := nc_o (I := I) hL
  obtain ⟨⟨x3, x4, x5, x6, x7, x8⟩, ep, xg⟩ := h
  have r : ∀ k, dm k → up2 J m 44 (nI 0) (A k) = J (A k) := fun k hk => up2_row (hA.2 k hk)
  refine ⟨⟨?_, ?_, ?_, ?_, ?_, ?_⟩, fun e he => ?_, XG_t hL fok (fa_nc hL FA.rf) (fun k hk => r k (by rcases hk with rfl | rfl | rfl | rfl | rfl <;> decide)) (TG_c (fun t _ => tg_k (fun k hk => r k ((show ∀ k ∈ ([27, 28, 29, 30, 31] : List Nat), dm k by decide) k hk)))) xg⟩
  · rw [n1, up2_self]
  · rw [n2 4 (by decide), mm_j (by decide)]; exact x4
  · rw [n2 5 (by decide), mm_j (by decide)]; exact x5
  · rw [n2 6 (by decide), mm_j (by decide)]; exact x6
  · rw [n2 7 (by decide), mm_j (by decide)]; exact x7
  · rw [n2 8 (by decide), mm_j (by decide)]; exact x8
  · rw [n3 e he, r 40 (by decide), r 33 (by decide)]
    exact ep e he
theorem fok_x {S : MM} {b c : Nat} {I I' : Mm} (fok : ∀ c e, c < 8 → e < 2 → FOK I (sR S) b c e) (fx : FAx S b c I I') : ∀ c e, c < 8 → e < 2 → FOK I' (sR S) b c e := fun c' e hc' he => by
  by_cases q : c' = c
  · obtain ⟨f1, f2, f3⟩ := fok c' e hc' he
    refine ⟨by rw [(fx.2.2 c' e hc' he).1]; exact f1, ⟨0, by decide, (fx.2.2 c' e hc' he).2.2 q⟩, fun k hk => ?_⟩
    rw [(fx.2.2 c' e hc' he).2.2 q, nI_cl (by decide)] at hk
    exact absurd hk (Nat.not_lt_zero k)
  · exact FOK_e (fx.2.2 c' e hc' he).1 ((fx.2.2 c' e hc' he).2.1 q) (fok c' e hc' he)
theorem fok_a {S : MM} {b : Nat} {I I' : Mm} (fok : ∀ c e, c < 8 → e < 2 → FOK I (sR S) b c e) (fa : FA S b I I') : ∀ c e, c < 8 → e < 2 → FOK I' (sR S) b c e := fun c e hc he => FOK_e (fa.2.1 c e hc he).1 (fa.2.1 c e hc he).2 (fok c e hc he)
/-- both sides cut a cable -/
theorem xr_off {S : MM} {b m c cl nt n' p0 p1 F : Nat} {A : Nat → Nat} {I J : Mm} {φ : Nat → Nat} (hL : LY S b) (hO : OC S) (hA : AD m A) (hc : c < 8) (h0 : p0 < 8) (h1 : p1 < 8) (s27 : ∀ t, ∃ k, k < 8 ∧ J (A 27) t = nI k) (s28 : ∀ t, ∃ e, e < 2 ∧ J (A 28) t = nI e) (P0 : J (A 22) (2 * c + 0) = nI p0) (P1 : J (A 22) (2 * c + 1) = nI p1) (r0 : sR S (ppd (sR S) b c) 0 = some (px (sR S) b p0)) (r1 : sR S (ppd (sR S) b c) 1 = some (px (sR S) b (8 + p1))) (rp : ∀ x, x < 16 → RP (sR S) b I J A x) (fr : FRl (sR S) b A I J cl nt) (cut : CUT J (f_X8_isCut J m A c nt) m nt n' c p0 p1 A) (xr : XRl (sR S) b m A I J nt F φ) : XRl (sR S) b m A (f_X7_switchOff I (sR S) b c) (f_X8_isCut J m A c nt) n' F φ := by
  have pl : plg (sR S) b c := ⟨by rw [r0]; simp, by rw [r1]; simp⟩
  have t0 : ptc (sR S) b c 0 = px (sR S) b p0 := by unfold ptc; rw [r0]; rfl
  have t1 : ptc (sR S) b c 1 = px (sR S) b (8 + p1) := by unfold ptc; rw [r1]; rfl
  have nd : ptc (sR S) b c 1 ≠ ptc (sR S) b c 0 := fun y => by
    rw [t0, t1] at y
    have := i_px hL hO (by omega) (by omega) y
    omega
  obtain ⟨o5, oj, oe⟩ := off_x (I := I) hL hO hc pl nd
  obtain ⟨m46, a0, a1⟩ := cut_x (nt := nt) hA hc h0 h1 s27 s28 P0 P1
  obtain ⟨c1, c2, c3, c4, c5, c6, c7, c8, c9⟩ := cut
  obtain ⟨⟨x3, x4, x5, x6, x7, x8⟩, ep, xg⟩ := xr
  have fok : ∀ c e, c < 8 → e < 2 → FOK I (sR S) b c e := fun c e hc he => (fr.2.1 c e hc he).1
  have ln : ∀ e, e < 2 → (I (Ln (sR S) b c e) 5).toNatClampNeg = ((TG J A nt).filter (isG c e)).length := fun e he => by
    have q := congrArg List.length (fr.1 c e hc he)
    rw [List.length_map, List.length_map] at q
    rw [← q]
    unfold CF
    rw [List.length_map, List.length_range]
  have jk : ∀ k, (k = 33 ∨ k = 34 ∨ k = 35 ∨ k = 37 ∨ k = 38) → f_X8_isCut J m A c nt (A k) = J (A k) := fun k hk => funext (fun j => c3 k j (by omega) (by omega) (by omega) (by omega) (by omega) (by omega) (by omega) (by omega) (by omega) (by omega) (by omega) (by omega))
  refine ⟨⟨?_, ?_, ?_, ?_, ?_, ?_⟩, fun e he => ?_, XG_cut hL hc fok (fx_off hL hO hc pl) jk c9 xg⟩
  · rw [oj 3 (by decide), c6 44 (by decide) (by decide)]; exact x3
  · rw [oj 4 (by decide), c6 45 (by decide) (by decide)]; exact x4
  · rw [o5, m46, ln 0 (by decide), ln 1 (by decide), x5]
  · rw [oj 6 (by decide), c6 47 (by decide) (by decide)]; exact x6
  · rw [oj 7 (by decide), c6 48 (by decide) (by decide)]; exact x7
  · rw [oj 8 (by decide), c6 49 (by decide) (by decide)]; exact x8
  · rw [(oe e he).1, (oe e he).2, jk 33 (by omega)]
    refine ⟨?_, (ep e he).2⟩
    have q : e = 0 ∨ e = 1 := by omega
    rcases q with rfl | rfl
    · rw [a0, t0, (rp p0 (by omega)).1.2.2.2.1, (ep 0 he).1]
    · rw [a1, t1, (rp (8 + p1) (by omega)).1.2.2.2.1, (ep 1 he).1]
/-- both sides light a cable whose ports are dark -/
theorem xr_on {S : MM} {b m c nt p0 p1 F : Nat} {A : Nat → Nat} {I J : Mm} {φ : Nat → Nat} (hL : LY S b) (hA : AD m A) (hc : c < 8) (h0 : p0 < 8) (h1 : p1 < 8) (P0 : J (A 22) (2 * c + 0) = nI p0) (P1 : J (A 22) (2 * c + 1) = nI p1) (s0 : J (A 9) p0 = 0) (s1 : J (A 9) (8 + p1) = 0) (pl : plg (sR S) b c) (fok : ∀ c e, c < 8 → e < 2 → FOK I (sR S) b c e) (up : UPD J (f_X8_isUp J m A c) m c p0 p1 A) (xr : XRl (sR S) b m A I J nt F φ) : XRl (sR S) b m A (f_X7_switchOn I (sR S) b c) (f_X8_isUp J m A c) nt F φ := by
  obtain ⟨c1, c2, c3, c4, c5, c6⟩ := up
  have a40 := up_x (m := m) hA h0 h1 P0 P1 s0 s1
  have on : ∀ z k, sK S z = k → k ≠ 1 → k ≠ 6 → k ≠ 7 → f_X7_switchOn I (sR S) b c z = I z := fun z k hz n1 n6 n7 => by
    have kp : ∀ i, i < 2 → sK S ((sR S (ppd (sR S) b c) i).getD 0) = 6 := fun i hi => ly_nn hL.1 (ly_pp hL hc).2.1 rfl (plg_i pl hi)
    have kq : ∀ i, i < 2 → sK S ((sR S ((sR S (ppd (sR S) b c) i).getD 0) 1).getD 0) = 7 := fun i hi => (ly_f hL.1 (kp i hi) (show rf 6 1 = some (7, 0) from rfl)).2.1
    have E : f_X7_switchOn I (sR S) b c = f_X5_becomeLit (f_X5_becomeLit (up2 I (Cb (sR S) b c) 3 (nI 1)) ((sR S (ppd (sR S) b c) 0).getD 0) ((sR S ((sR S (ppd (sR S) b c) 0).getD 0) 1).getD 0)) ((sR S (ppd (sR S) b c) 1).getD 0) ((sR S ((sR S (ppd (sR S) b c) 1).getD 0) 1).getD 0) := rfl
    rw [E, n_X5_becomeLit (ne_k hz (kp 1 (by decide)) n6) (ne_k hz (kq 1 (by decide)) n7), n_X5_becomeLit (ne_k hz (kp 0 (by decide)) n6) (ne_k hz (kq 0 (by decide)) n7), up2_row (ne_k hz (ly_C hL hc).2.1 n1)]
  have jk : ∀ k, dm k → 22 ≤ k → k ≠ 25 → k ≠ 40 → f_X8_isUp J m A c (A k) = J (A k) := fun k hk h22 h25 h40 => funext (fun j => c3 k j hk (by omega) (by omega) (by omega) (by omega) (by omega) (by omega) h25 h40)
  refine XR_T hL fok (fa_on hL hc pl FA.rf) (fun j _ _ => by rw [on b 8 hL.2 (by decide) (by decide) (by decide)]) (fun e he k _ => by rw [on _ 2 (ly_E hL he).2.1 (by decide) (by decide) (by decide)]) (fun k hk => ?_) (fun j _ _ => c6 j) (TG_c (fun t _ => tg_k (fun k hk => jk k ((show ∀ k ∈ ([27, 28, 29, 30, 31] : List Nat), dm k by decide) k hk) ((show ∀ k ∈ ([27, 28, 29, 30, 31] : List Nat), 22 ≤ k by decide) k hk) ((show ∀ k ∈ ([27, 28, 29, 30, 31] : List Nat), k ≠ 25 by decide) k hk) ((show ∀ k ∈ ([27, 28, 29, 30, 31] : List Nat), k ≠ 40 by decide) k hk)))) xr
  by_cases q : k = 40
  · subst q; exact funext a40
  · exact jk k (by rcases hk with rfl | rfl | rfl | rfl | rfl | rfl <;> first | decide | exact absurd rfl q) (by omega) (by omega) q
/-- behind both halves: the class's cells are as they were behind its own -/
theorem xs_w {S1 : MM} {x m cl n' F : Nat} {A : Nat → Nat} {F' : Mm} {φ : Nat → Nat} (hL : LY S1 x) (hM : MS S1 m A) (fok : ∀ c e, c < 8 → e < 2 → FOK (sI S1) (sR S1) x c e) (nz : ∀ z, z ≠ m → (∀ k ∈ DM, z ≠ A k) → F' z = sI S1 z) (e32 : F' m 32 = nI n') (e39 : F' m 39 = nI F) (hn : n' < 2 ^ 31) (hF : F < 2 ^ 31) (h : XRl (sR S1) x m A (sI S1) F' n' F φ) : XSs (wI S1 F') x m A := by
  have cell : ∀ z k, sK S1 z = k → k ≠ 9 ∧ k ≠ 10 ∧ k ≠ 11 → F' z = sI S1 z := fun z k hz hk => nz z (no_ref hM hz hk).1 (no_ref hM hz hk).2
  refine ⟨φ, ?_⟩
  show XRl (sR S1) x m A F' F' (F' m 32).toNatClampNeg (F' m 39).toNatClampNeg φ
  rw [e32, e39, nI_cl hn, nI_cl hF]
  exact XR_T hL fok (fa_z hL hM nz) (fun j _ _ => by rw [cell x 8 hL.2 (by decide)]) (fun e he k _ => by rw [cell _ 2 (ly_E hL he).2.1 (by decide)]) (fun _ _ => rfl) (fun _ _ _ => rfl) rfl h
/-- the counters between two calls, at the numbers of the things and the frames -/
theorem XS_at {S : MM} {x m out i cl nt F : Nat} {A : Nat → Nat} (hX : GX S x m out A i) (n0 : NRl (sR S) x m A (sI S) (sI S) cl nt) (hnt : nt < 2 ^ 31) (e39 : sI S m 39 = nI F) (hF : F < 2 ^ 31) : ∃ φ, XRl (sR S) x m A (sI S) (sI S) nt F φ := by
  obtain ⟨φ, h⟩ := hX.2.2
  rw [n0.2.2.2.1.2.2, e39, nI_cl hnt, nI_cl hF] at h
  exact ⟨φ, h⟩
theorem FOK_R {S : MM} {R' : Nat → Nat → Option Nat} {b : Nat} {I : Mm} (hL : LY S b) (hr : ∀ z, sK S z ≠ 0 → sK S z ≠ 17 → R' z = sR S z) (h : ∀ c e, c < 8 → e < 2 → FOK I (sR S) b c e) : ∀ c e, c < 8 → e < 2 → FOK I R' b c e := fun c e hc he => by
  have r : ∀ z k, sK S z = k → k ≠ 17 → k ≠ 0 → R' z = sR S z := fun z k hz h1 h0 => hr z (by rw [hz]; exact h0) (by rw [hz]; exact h1)
  have c0 : cad R' b = cad (sR S) b := by unfold cad; rw [r b 8 hL.2 (by decide) (by decide)]
  have C : ∀ c, Cb R' b c = Cb (sR S) b c := fun c => by unfold Cb; rw [c0, r _ 12 (ly_ca hL).2.1 (by decide) (by decide)]
  have ld : lad R' b c = lad (sR S) b c := by unfold lad; rw [C, r _ 1 (ly_C hL hc).2.1 (by decide) (by decide)]
  have N : Ln R' b c e = Ln (sR S) b c e := by unfold Ln; rw [ld, r _ 15 (ly_la hL hc).2.1 (by decide) (by decide)]
  have Fa : fad R' b c e = fad (sR S) b c e := by unfold fad; rw [N, r _ 4 (ly_N hL hc he).2.1 (by decide) (by decide)]
  have Ff : R' (fad R' b c e) = sR S (fad (sR S) b c e) := by rw [Fa, r _ 14 (ly_fa hL hc he).2.1 (by decide) (by decide)]
  unfold FOK
  rw [N, Ff]
  exact h c e hc he
/-- both sides pull a cable: as far as the counters go -/
theorem xr_pul {S : MM} {b m c cl nt p0 p1 F : Nat} {A : Nat → Nat} {I J : Mm} {φ : Nat → Nat} (hL : LY S b) (hO : OC S) (hA : AD m A) (hc : c < 8) (h0 : p0 < 8) (h1 : p1 < 8) (s27 : ∀ t, ∃ k, k < 8 ∧ J (A 27) t = nI k) (s28 : ∀ t, ∃ e, e < 2 ∧ J (A 28) t = nI e) (P0 : J (A 22) (2 * c + 0) = nI p0) (P1 : J (A 22) (2 * c + 1) = nI p1) (p24 : J (A 24) c ≠ 0) (r0 : sR S (ppd (sR S) b c) 0 = some (px (sR S) b p0)) (r1 : sR S (ppd (sR S) b c) 1 = some (px (sR S) b (8 + p1))) (n1 : NRl (sR S) b m A I J cl nt) (fr : FRl (sR S) b A I J cl nt) (xr : XRl (sR S) b m A I J nt F φ) : ∃ n', f_X8_isPulled J m A c nt m 32 = nI n' ∧ n' ≤ nt ∧ XRl (sR S) b m A (f_X7_switchOff I (sR S) b c) (f_X8_isPulled J m A c nt) n' F φ := by
  have pl : plg (sR S) b c := ⟨by rw [r0]; simp, by rw [r1]; simp⟩
  have fok : ∀ c e, c < 8 → e < 2 → FOK I (sR S) b c e := fun c e hc he => (fr.2.1 c e hc he).1
  have rp := fun y hy => (n1.1 y hy).1
  have tail : ∀ (J1 J2 : Mm) (n' : Nat), (∀ k j, dm k → k ≠ 11 → k ≠ 24 → J2 (A k) j = J1 (A k) j) → (∀ j, J2 m j = J1 m j) → XRl (sR S) b m A (f_X7_switchOff I (sR S) b c) J1 n' F φ → XRl (sR S) b m A (f_X7_switchOff I (sR S) b c) J2 n' F φ := fun J1 J2 n' a3 a4 h => XR_T hL (fok_x fok (fx_off hL hO hc pl)) FA.rf (fun _ _ _ => rfl) (fun _ _ _ _ => rfl) (fun k hk => funext (fun j => a3 k j (by rcases hk with rfl | rfl | rfl | rfl | rfl | rfl <;> decide) (by omega) (by omega))) (fun j _ _ => a4 j) (TG_c (fun t _ => tg_k (fun k hk => funext (fun j => a3 k j ((show ∀ k ∈ ([27, 28, 29, 30, 31] : List Nat), dm k by decide) k hk) ((show ∀ k ∈ ([27, 28, 29, 30, 31] : List Nat), k ≠ 11 by decide) k hk) ((show ∀ k ∈ ([27, 28, 29, 30, 31] : List Nat), k ≠ 24 by decide) k hk))))) h
  by_cases uc : J (A 25) c = 0
  · obtain ⟨J2, e2, a1, a2, a3, a4⟩ := pul_w (m := m) hA h0 h1 P0 P1
    have E : f_X8_isPulled J m A c nt = J2 := by unfold f_X8_isPulled; rw [if_pos uc, e2]
    rw [E]
    refine ⟨nt, by rw [a4]; exact n1.2.2.2.1.2.2, Nat.le_refl _, tail J J2 nt a3 a4 ?_⟩
    have no := no_th n1 hc uc
    have ri := n1.2.2.2.2.2.1
    have t0 : ptc (sR S) b c 0 = px (sR S) b p0 := by unfold ptc; rw [r0]; rfl
    have t1 : ptc (sR S) b c 1 = px (sR S) b (8 + p1) := by unfold ptc; rw [r1]; rfl
    have nd : ptc (sR S) b c 1 ≠ ptc (sR S) b c 0 := fun y => by
      rw [t0, t1] at y
      have := i_px hL hO (by omega) (by omega) y
      omega
    obtain ⟨o5, oj, oe⟩ := off_x (I := I) hL hO hc pl nd
    have nil : ∀ e, e < 2 → (I (Ln (sR S) b c e) 5).toNatClampNeg = 0 := fun e he => by
      have q := congrArg List.length (CF_nil (fr.1 c e hc he) no)
      unfold CF at q
      rw [List.length_map, List.length_range] at q
      exact q
    have n4 : ∀ y, y < 16 → J (A 11) y = nI c → ¬ J (A 9) y = nI 4 := fun y hy h11 h4 => by
      obtain ⟨c', hc', e', u'⟩ := RI_lit ri hy (Or.inr h4)
      have := nI_inj (by omega) (by omega) (h11.symm.trans e')
      subst this
      exact u' uc
    have i0 : J (A 11) p0 = nI c := by have := ri.2.1 c 0 p0 hc (by decide) h0 p24 P0; rw [show 8 * 0 + p0 = p0 by omega] at this; exact this
    have i1 : J (A 11) (8 + p1) = nI c := by have := ri.2.1 c 1 p1 hc (by decide) h1 p24 P1; rw [show 8 * 1 + p1 = 8 + p1 by omega] at this; exact this
    have dz : ∀ a, ¬ a = nI 4 → (if dlt a (nI 0) = true then 1 else 0) = 0 := fun a ha => by
      unfold dlt
      rw [decide_eq_false ha, decide_eq_false (show ¬ nI 0 = nI 4 by decide)]
      rfl
    obtain ⟨⟨x3, x4, x5, x6, x7, x8⟩, ep, xg⟩ := xr
    have tgn : TG J A nt = (TG J A nt).filter (nc c) := (List.filter_eq_self.mpr (fun q hq => by
      obtain ⟨t', ht', rfl⟩ := List.mem_map.mp hq
      unfold nc
      rw [decide_eq_false (show ¬ tg J A t' 0 = nI c from no t' (List.mem_range.mp ht'))]
      rfl)).symm
    refine ⟨⟨?_, ?_, ?_, ?_, ?_, ?_⟩, fun e he => ?_, XG_cut hL hc fok (fx_off hL hO hc pl) (fun _ _ => rfl) tgn xg⟩
    · rw [oj 3 (by decide)]; exact x3
    · rw [oj 4 (by decide)]; exact x4
    · rw [o5, nil 0 (by decide), nil 1 (by decide)]
      exact (i_add0 _).trans x5
    · rw [oj 6 (by decide)]; exact x6
    · rw [oj 7 (by decide)]; exact x7
    · rw [oj 8 (by decide)]; exact x8
    · rw [(oe e he).1, (oe e he).2]
      refine ⟨?_, (ep e he).2⟩
      have q : e = 0 ∨ e = 1 := by omega
      rcases q with rfl | rfl
      · rw [t0, (rp p0 (by omega)).1.2.2.2.1, dz _ (n4 p0 (by omega) i0), i_add0]; exact (ep 0 he).1
      · rw [t1, (rp (8 + p1) (by omega)).1.2.2.2.1, dz _ (n4 (8 + p1) (by omega) i1), i_add0]; exact (ep 1 he).1
  · obtain ⟨n', cut⟩ := cut_R (nt := nt) hA hc h0 h1 s27 s28 P0 P1
    have j22 : ∀ j, f_X8_isCut J m A c nt (A 22) j = J (A 22) j := fun j => cut.2.2.1 22 j (by decide) (by decide) (by decide) (by decide) (by decide) (by decide) (by decide) (by decide) (by decide) (by decide) (by decide) (by decide)
    obtain ⟨J2, e2, a1, a2, a3, a4⟩ := pul_w (J := f_X8_isCut J m A c nt) (m := m) hA h0 h1 (by rw [j22]; exact P0) (by rw [j22]; exact P1)
    have E : f_X8_isPulled J m A c nt = J2 := by unfold f_X8_isPulled; rw [if_neg uc, e2]
    rw [E]
    exact ⟨n', by rw [a4]; exact cut.2.2.2.2.2.2.1, cut.2.2.2.2.2.2.2.1, tail _ J2 n' a3 a4 (xr_off hL hO hA hc h0 h1 s27 s28 P0 P1 r0 r1 rp fr cut xr)⟩
/-- the counters at the reference's memory as its half of a call begins -/
theorem xr_0 {S S1 : MM} {x m out i cl nt F : Nat} {A : Nat → Nat} (hX : GX S x m out A i) (hh : GH S S1 x m out A) (n0 : NRl (sR S) x m A (sI S) (sI S) cl nt) (hnt : nt < 2 ^ 31) (hcl : cl < 2 ^ 31) (e39 : sI S m 39 = nI F) (hF : F < 2 ^ 31) : ∃ φ, XRl (sR S) x m A (sI S) (up2 (sI S1) m 0 0) nt F φ ∧ FRl (sR S) x A (sI S) (up2 (sI S1) m 0 0) cl nt := by
  have hL := ly_of hX.1.1
  have hA := AD_of (MS_b hh)
  have ek := hh.2.2.2.2.2.2.2.2
  have em := hh.2.2.2.2.2.2.2.1
  obtain ⟨φ, h⟩ := XS_at hX n0 hnt e39 hF
  have frl := FRs_at hX.1 n0 hcl hnt
  have r : ∀ k, k ∈ DM → dm k → up2 (sI S1) m 0 0 (A k) = sI S (A k) := fun k hd hk => by rw [up2_row (hA.2 k hk)]; exact ek k hd
  refine ⟨φ, XR_T hL (fun c e hc he => (frl.2.1 c e hc he).1) FA.rf (fun _ _ _ => rfl) (fun _ _ _ _ => rfl) (fun k hk => r k (by rcases hk with rfl | rfl | rfl | rfl | rfl | rfl <;> decide) (by rcases hk with rfl | rfl | rfl | rfl | rfl | rfl <;> decide)) (fun j h44 _ => by rw [mm_j (by omega), em]) (TG_c (fun t _ => tg_k (fun k hk => r k ((show ∀ k ∈ ([27, 28, 29, 30, 31] : List Nat), k ∈ DM by decide) k hk) ((show ∀ k ∈ ([27, 28, 29, 30, 31] : List Nat), dm k by decide) k hk)))) h, FR_t hL FA.rf (fun k hk => r k ((show ∀ k ∈ KF, k ∈ DM by decide) k hk) ((show ∀ k ∈ KF, dm k by decide) k hk)) frl⟩
theorem xr_tk {S S' : MM} {b m c q0 q1 n' F : Nat} {A : Nat → Nat} {J : Mm} {φ : Nat → Nat} (hL : LY S b) (hO : OC S) (hc : c < 8) (h0 : q0 < 8) (h1 : q1 < 8) (pl : plg (sR S) b c) (tk : TKO S S' b c (px (sR S) b q0) (px (sR S) b (8 + q1))) (fok : ∀ c e, c < 8 → e < 2 → FOK (sI S) (sR S) b c e) (h : XRl (sR S) b m A (f_X7_switchOff (sI S) (sR S) b c) J n' F φ) : (∀ c e, c < 8 → e < 2 → FOK (sI S') (sR S') b c e) ∧ XRl (sR S') b m A (sI S') J n' F φ := by
  have k0 := k_px hL (show q0 < 16 by omega)
  have k1 := k_px hL (show 8 + q1 < 16 by omega)
  have hr : ∀ z, sK S z ≠ 0 → sK S z ≠ 17 → sR S' z = sR S z := fun z _ h17 => tk.2.2.2.1 z (fun y => h17 (by rw [y]; exact (ly_pp hL hc).2.1))
  have fok1 := fok_x fok (fx_off (I := sI S) hL hO hc pl)
  have fa : FA S b (f_X7_switchOff (sI S) (sR S) b c) (sI S') := by
    rw [tk.2.2.2.2.2.1]
    exact (FA.rf.w hL k0 (by omega)).w hL k1 (by omega)
  have row : ∀ z k, sK S z = k → k ≠ 6 → sI S' z = f_X7_switchOff (sI S) (sR S) b c z := fun z k hz hk => by rw [tk.2.2.2.2.2.1, up2_row (ne_k hz k1 hk), up2_row (ne_k hz k0 hk)]
  exact ⟨FOK_R hL hr (fok_a fok1 fa), XR_R hL hr (XR_T hL fok1 fa (fun j _ _ => by rw [row b 8 hL.2 (by decide)]) (fun e he k _ => by rw [row _ 2 (ly_E hL he).2.1 (by decide)]) (fun _ _ => rfl) (fun _ _ _ => rfl) rfl h)⟩
theorem h_light {Q : Option Value → MM → Prop} {S S1 : MM} {x m out i u : Nat} {A : Nat → Nat} {v : Int32} (hi : i < 100000) (hu : u < 2) (hX : GX S x m out A i) (hh : GH S S1 x m out A) (md : MDg S S1 x u v) (K : ∀ S2, GX S2 x m out A (i + 1) → Q none S2) : wX8_light [.ref m, .int v, .int (nI u)] S1 Q := by
  have hP := hX.1
  have hG := hP.1
  have md0 := md
  have hM1 := hh.2.2.2.2.2.1
  have hA := AD_of hM1
  have hL := ly_of hG
  have hO := hG.2.2.2.2.2.2.1
  obtain ⟨g1, g2, g3, g4, g5, g6, g7, nt, F, cl, bi, n0, fr, hF, hcl⟩ := id hG
  have bi1 := BI_h hh.2.2.2.2.2.2.2.1 hh.2.2.2.2.2.2.2.2 bi
  have ek := hh.2.2.2.2.2.2.2.2
  have up3 : ∀ c, c < 8 → sI S (Cb (sR S) x c) 3 = sI S (A 25) c := fun c hc => n0.2.2.2.2.2.2.1.1 c hc
  refine c_Mlight hu hM1 bi1.1 (fun h S2 e im => ?_) (fun c hc ec h S2 e im => ?_) (fun c hc ec hp hn im => ?_)
  · rcases md with ⟨er, ei, _⟩ | ⟨c, hc, ec, _⟩
    · exact K S2 (gx_bad hX hh er ei e im)
    · exact absurd h (by rw [ec]; exact nb8 hc)
  · rcases md with ⟨er, ei, _⟩ | ⟨c', hc', ec', pl, nu, _⟩
    · exact K S2 (gx_bad hX hh er ei e im)
    · have := nI_inj (by omega) (by omega) (ec.symm.trans ec')
      subst this
      rw [ek 24 (by decide), ek 25 (by decide)] at h
      rcases h with h | h
      · rcases pls n0 hc with ⟨z, _⟩ | ⟨_, z, _⟩
        · exact absurd pl z
        · exact absurd h z
      · exact absurd ((up3 c hc).trans h) nu
  · rcases md with ⟨er, ei, q | ⟨c', hc', ec', q⟩⟩ | ⟨c', hc', ec', pl, nu, er, ei⟩
    · exact absurd q (by rw [ec]; exact nb8 hc)
    · have := nI_inj (by omega) (by omega) (ec.symm.trans ec')
      subst this
      rw [ek 24 (by decide)] at hp
      rw [ek 25 (by decide)] at hn
      rcases q with q | q
      · rcases pls n0 hc with ⟨_, z⟩ | ⟨z, _⟩
        · exact absurd z hp
        · exact absurd z q
      · exact absurd ((up3 c hc).symm.trans q) hn
    · have := nI_inj (by omega) (by omega) (ec.symm.trans ec')
      subst this
      have s27 : ∀ t, ∃ k, k < 8 ∧ up2 (sI S1) m 0 0 (A 27) t = nI k := fun t => by rw [(J0_k hA).1 27 t (by decide)]; exact bi1.1.1.1 27 8 rfl t
      have s28 : ∀ t, ∃ k, k < 2 ∧ up2 (sI S1) m 0 0 (A 28) t = nI k := fun t => by rw [(J0_k hA).1 28 t (by decide)]; exact bi1.1.1.1 28 2 rfl t
      have n1 := NR_K (NR_h hh n0) (J0_k (J := sI S1) hA).1 ((J0_k (J := sI S1) hA).2 43 (by decide)) ((J0_k (J := sI S1) hA).2 32 (by decide))
      have tg0 : ∀ n, TG (up2 (sI S1) m 0 0) A n = TG (sI S1) A n := fun n => tg_same (J0_k hA).1
      rcases pls n1 hc with ⟨z, _⟩ | ⟨_, pl24, p0, p1, h0, h1, P0, P1, r0, r1⟩
      · exact absurd pl z
      obtain ⟨φ, xr0, frl0⟩ := xr_0 (F := F) hX hh n0 (by have := bi1.1.2.2.2.1; omega) (by omega) bi.2.1 (by omega)
      have fok0 : ∀ c e, c < 8 → e < 2 → FOK (sI S) (sR S) x c e := fun c e hc he => (frl0.2.1 c e hc he).1
      have hL1 : LY S1 x := ⟨hh.1, hh.2.2.1⟩
      have hnt0 := bi1.1.2.2.2.1
      have r0x : sR S (ppd (sR S) x c) 0 = some (px (sR S) x p0) := by rw [r0]; exact congrArg some (by show Pt (sR S) x 0 p0 = Pt (sR S) x (p0 / 8) (p0 % 8); rw [show p0 / 8 = 0 by omega, show p0 % 8 = p0 by omega])
      have r1x : sR S (ppd (sR S) x c) 1 = some (px (sR S) x (8 + p1)) := by rw [r1]; exact congrArg some (by show Pt (sR S) x 1 p1 = Pt (sR S) x ((8 + p1) / 8) ((8 + p1) % 8); rw [show (8 + p1) / 8 = 1 by omega, show (8 + p1) % 8 = p1 by omega])
      have hu2 : u = 0 ∨ u = 1 := by omega
      rcases hu2 with rfl | rfl
      · obtain ⟨n', cutE⟩ := cut_R (nt := nt) hA hc h0 h1 s27 s28 P0 P1
        obtain ⟨c1, c2, c3, c4, c5, c6, c7, c8, c9⟩ := id cutE
        have xx := xr_nc hL hA (fok_x fok0 (fx_off hL hO hc pl)) (xr_off hL hO hA hc h0 h1 s27 s28 P0 P1 r0x r1x (fun y hy => (n1.1 y hy).1) frl0 cutE xr0)
        have E : g_X8_light_47 (up2 (sI S1) m 0 0) m A c 0 nt = up2 (f_X8_isCut (up2 (sI S1) m 0 0) m A c nt) m 44 (nI 0) := rfl
        rw [E] at im ⊢
        have nz : ∀ z, z ≠ m → (∀ k ∈ DM, z ≠ A k) → f_X8_isCut (up2 (sI S1) m 0 0) m A c nt z = sI S1 z := fun z h1 h2 => by rw [nm_X8_isCut (fun k hk => h2 k (mem_sub k hk (by decide))) h1, up2_row h1]
        clear cutE
        generalize f_X8_isCut (up2 (sI S1) m 0 0) m A c nt = J' at c1 c2 c3 c4 c5 c6 c7 c9 xx nz im ⊢
        have os := off_sim hL hc h0 h1 (off_C hL hO hc h0 h1 r0 r1) n1 P0 P1 pl24 c1 c2 c3 c4 c5 (c6 43 (by decide) (by decide)) c7 c9
        have j9 : ∀ y, y < 16 → up2 J' m 44 (nI 0) (A 9) y = nI 4 → sI S1 (A 9) y = nI 4 ∧ up2 J' m 44 (nI 0) (A 12) y = sI S1 (A 12) y := fun y hy e4 => by
          rw [mm_a hA (by decide)] at e4
          rw [mm_a hA (by decide)]
          by_cases q : y = p0 ∨ y = 8 + p1
          · rw [(c1 y q).2.2.1] at e4; exact absurd e4 (by decide)
          · rw [c2 y (fun z => q (Or.inl z)) (fun z => q (Or.inr z)) 9 y (by decide) (by decide) (ow_x (by decide)), (J0_k hA).1 9 y (by decide)] at e4
            exact ⟨e4, by rw [c2 y (fun z => q (Or.inl z)) (fun z => q (Or.inr z)) 12 y (by decide) (by decide) (ow_x (by decide))]; exact (J0_k hA).1 12 y (by decide)⟩
        have qk : ∀ k, (k = 23 ∨ k = 24 ∨ k = 34 ∨ k = 35 ∨ k = 36 ∨ k = 37 ∨ k = 41 ∨ k = 42) → ∀ j, up2 J' m 44 (nI 0) (A k) j = sI S1 (A k) j := fun k hk j => by rw [mm_a hA (by omega), c3 k j (by omega) (by omega) (by omega) (by omega) (by omega) (by omega) (by omega) (by omega) (by omega) (by omega) (by omega) (by omega)]; exact (J0_k hA).1 k j (by omega)
        have frs : FRs (wI S1 (up2 J' m 44 (nI 0))) x m A := frs_c (n' := n') hP hh n0 (by omega) (by have := bi1.1.2.2.2.1; omega) c8 hc (fun z _ _ => by rw [er]) (fun _ _ => by rw [er]) (by rw [ei]; exact p6_nc hL (p6_off hL hc pl P6.rf)) j9 (by rw [ei]; exact (fx_off hL hO hc pl).fa (fa_nc hL FA.rf)) (fun z h1 h2 => by rw [up2_row h1]; exact nz z h1 h2) (fun k hk j => qk k (by simp at hk; omega) j) (fun c' hc' _ => ⟨qk 23 (by omega) c', qk 24 (by omega) c'⟩) (by rw [mm_j (by decide), c6 43 (by decide) (by decide)]; exact (J0_k hA).2 43 (by decide)) (by rw [mm_j (by decide)]; exact c7) (by rw [tg_same (fun k j a => mm_a hA a), c9, tg0])
        refine K (wI S1 (up2 J' m 44 (nI 0))) ⟨⟨r_exact (n' := n') hh bi1 fr hF hcl im (fun z h1 h2 => by rw [up2_row h1]; exact nz z h1 h2) (fun j => by rw [mm_a hA (by decide), c3 42 j (by decide) (by decide) (by decide) (by decide) (by decide) (by decide) (by decide) (by decide) (by decide) (by decide) (by decide) (by decide)]; exact (J0_k hA).1 42 j (by decide)) (by rw [mm_j (by decide), c6 39 (by decide) (by decide)]; exact (J0_k hA).2 39 (by decide)) ?_ ?_, frs⟩, cm_fs hh (cm_g hX.2.1 hh md0) (FS.w (fun z h1 h2 => by rw [up2_row h1]; exact nz z h1 h2)), xs_w (cl := cl) hL1 hM1 (by rw [er, ei]; exact fok_a (fok_x fok0 (fx_off hL hO hc pl)) (fa_nc hL FA.rf)) (fun z h1 h2 => by rw [up2_row h1]; exact nz z h1 h2) (by rw [mm_j (by decide)]; exact c7) (by rw [mm_j (by decide), c6 39 (by decide) (by decide)]; exact ((J0_k hA).2 39 (by decide)).trans bi1.2.1) (by omega) (by omega) (by rw [er, ei]; exact xx)⟩
        · rw [er, ei]
          exact NR_I hL (ca_nc hL) (NR_K os (fun k j a => mm_a hA a) (mm_j (by decide)) (mm_j (by decide)))
        · rw [tg_same (fun k j a => mm_a hA a), c9, tg0]
          exact List.filter_sublist
      · have uc : up2 (sI S1) m 0 0 (A 25) c = 0 := by
          rcases (n1.2.2.2.2.2.2.2.1 c hc).1 with z | z
          · exact z
          · rw [(J0_k hA).1 25 c (by decide)] at z
            exact absurd z hn
        have dkp : ∀ y, y < 16 → up2 (sI S1) m 0 0 (A 11) y = nI c → up2 (sI S1) m 0 0 (A 7) y = 0 := fun y hy hi => Classical.byContradiction (fun z => by
          obtain ⟨c', hc', ec', u'⟩ := n1.2.2.2.2.2.1.2.2.2.2 (y / 8) (y % 8) (by omega) (by omega) (Or.inl (by rw [show 8 * (y / 8) + y % 8 = y by omega]; exact z))
          rw [show 8 * (y / 8) + y % 8 = y by omega, hi] at ec'
          have := nI_inj (by omega) (by omega) ec'
          subst this
          exact u' uc)
        have i0 := n1.2.2.2.2.2.1.2.1 c 0 p0 hc (by decide) h0 pl24 P0
        have i1 := n1.2.2.2.2.2.1.2.1 c 1 p1 hc (by decide) h1 pl24 P1
        rw [show 8 * 0 + p0 = p0 by omega] at i0
        rw [show 8 * 1 + p1 = 8 + p1 by omega] at i1
        have d0 := dkp p0 (by omega) i0
        have d1 := dkp (8 + p1) (by omega) i1
        have updE := up_R hA hc h0 h1 P0 P1 ((n1.1 p0 (by omega)).1.2.1.2.1 d0) ((n1.1 (8 + p1) (by omega)).1.2.1.2.1 d1)
        obtain ⟨c1, c2, c3, c4, c5, c6⟩ := id updE
        have xx := xr_nc hL hA (fok_a fok0 (fa_on hL hc pl FA.rf)) (xr_on hL hA hc h0 h1 P0 P1 ((n1.1 p0 (by omega)).1.2.1.2.1 d0) ((n1.1 (8 + p1) (by omega)).1.2.1.2.1 d1) pl fok0 updE xr0)
        have E : g_X8_light_47 (up2 (sI S1) m 0 0) m A c 1 nt = up2 (f_X8_isUp (up2 (sI S1) m 0 0) m A c) m 44 (nI 0) := rfl
        rw [E] at im ⊢
        have nz : ∀ z, z ≠ m → (∀ k ∈ DM, z ≠ A k) → f_X8_isUp (up2 (sI S1) m 0 0) m A c z = sI S1 z := fun z h1 h2 => by rw [nm_X8_isUp (fun k hk => h2 k (mem_sub k hk (by decide))), up2_row h1]
        clear updE
        generalize f_X8_isUp (up2 (sI S1) m 0 0) m A c = J' at c1 c2 c3 c4 c5 c6 xx nz im ⊢
        have os := on_sim hL hc h0 h1 (on_C hL hO hc h0 h1 r0 r1) n1 P0 P1 pl24 ⟨d0, d1⟩ c1 c2 c3 c4 c5 (c6 43) (c6 32)
        have j9 : ∀ y, y < 16 → up2 J' m 44 (nI 0) (A 9) y = nI 4 → sI S1 (A 9) y = nI 4 ∧ up2 J' m 44 (nI 0) (A 12) y = sI S1 (A 12) y := fun y hy e4 => by
          rw [mm_a hA (by decide)] at e4
          rw [mm_a hA (by decide)]
          by_cases q : y = p0 ∨ y = 8 + p1
          · rw [(c1 y q).2.2.1] at e4; exact absurd e4 (by decide)
          · rw [c2 y (fun z => q (Or.inl z)) (fun z => q (Or.inr z)) 9 y (by decide) (by decide) (ow_x (by decide)), (J0_k hA).1 9 y (by decide)] at e4
            exact ⟨e4, by rw [c2 y (fun z => q (Or.inl z)) (fun z => q (Or.inr z)) 12 y (by decide) (by decide) (ow_x (by decide))]; exact (J0_k hA).1 12 y (by decide)⟩
        have qk : ∀ k ∈ KF, ∀ j, up2 J' m 44 (nI 0) (A k) j = sI S1 (A k) j := fun k hk j => by
          have q : ∀ k ∈ KF, dm k ∧ k ≠ 7 ∧ k ≠ 8 ∧ k ≠ 9 ∧ k ≠ 14 ∧ k ≠ 18 ∧ k ≠ 21 ∧ k ≠ 25 ∧ k ≠ 40 := by decide
          obtain ⟨z0, z1, z2, z3, z4, z5, z6, z7, z8⟩ := q k hk
          rw [mm_a hA z0, c3 k j z0 z1 z2 z3 z4 z5 z6 z7 z8]
          exact (J0_k hA).1 k j z0
        have frs : FRs (wI S1 (up2 J' m 44 (nI 0))) x m A := frs_a hP hh n0 (by omega) (by have := bi1.1.2.2.2.1; omega) er (by rw [ei]; exact p6_nc hL (p6_on hL hc pl P6.rf)) j9 (by rw [ei]; exact fa_nc hL (fa_on hL hc pl FA.rf)) (fun z h1 h2 => by rw [up2_row h1]; exact nz z h1 h2) qk (by rw [mm_j (by decide), c6 43]; exact (J0_k hA).2 43 (by decide)) (by rw [mm_j (by decide), c6 32]; exact (J0_k hA).2 32 (by decide))
        refine K (wI S1 (up2 J' m 44 (nI 0))) ⟨⟨r_exact (n' := nt) hh bi1 fr hF hcl im (fun z h1 h2 => by rw [up2_row h1]; exact nz z h1 h2) (fun j => by rw [mm_a hA (by decide), c3 42 j (by decide) (by decide) (by decide) (by decide) (by decide) (by decide) (by decide) (by decide) (by decide)]; exact (J0_k hA).1 42 j (by decide)) (by rw [mm_j (by decide), c6 39]; exact (J0_k hA).2 39 (by decide)) ?_ ?_, frs⟩, cm_fs hh (cm_g hX.2.1 hh md0) (FS.w (fun z h1 h2 => by rw [up2_row h1]; exact nz z h1 h2)), xs_w (cl := cl) hL1 hM1 (by rw [er, ei]; exact fok_a (fok_a fok0 (fa_on hL hc pl FA.rf)) (fa_nc hL FA.rf)) (fun z h1 h2 => by rw [up2_row h1]; exact nz z h1 h2) (by rw [mm_j (by decide), c6 32]; exact ((J0_k hA).2 32 (by decide)).trans bi1.1.2.2.1) (by rw [mm_j (by decide), c6 39]; exact ((J0_k hA).2 39 (by decide)).trans bi1.2.1) (by omega) (by omega) (by rw [er, ei]; exact xx)⟩
        · rw [er, ei]
          exact NR_I hL (ca_nc hL) (NR_K os (fun k j a => mm_a hA a) (mm_j (by decide)) (mm_j (by decide)))
        · have : TG (up2 J' m 44 (nI 0)) A nt = TG (sI S1) A nt := by
            rw [tg_same (fun k j a => mm_a hA a), ← tg0]
            exact TG_c (fun t _ => tg_k (fun k hk => by
              have q : ∀ k ∈ ([27, 28, 29, 30, 31] : List Nat), dm k ∧ k ≠ 7 ∧ k ≠ 8 ∧ k ≠ 9 ∧ k ≠ 14 ∧ k ≠ 18 ∧ k ≠ 21 ∧ k ≠ 25 ∧ k ≠ 40 := by decide
              obtain ⟨a0, a1, a2, a3, a4, a5, a6, a7, a8⟩ := q k hk
              funext j
              exact c3 k j a0 a1 a2 a3 a4 a5 a6 a7 a8))
          rw [this]
          exact List.Sublist.refl _
theorem h_pull {Q : Option Value → MM → Prop} {S S1 : MM} {x m out i : Nat} {A : Nat → Nat} {v : Int32} (hi : i < 100000) (hX : GX S x m out A i) (hh : GH S S1 x m out A) (md : MDu S S1 x v) (K : ∀ S2, GX S2 x m out A (i + 1) → Q none S2) : wX8_pull [.ref m, .int v] S1 Q := by
  have hP := hX.1
  have hG := hP.1
  have md0 := md
  have hM1 := hh.2.2.2.2.2.1
  have hA := AD_of hM1
  have hL := ly_of hG
  have hO := hG.2.2.2.2.2.2.1
  obtain ⟨g1, g2, g3, g4, g5, g6, g7, nt, F, cl, bi, n0, fr, hF, hcl⟩ := id hG
  have bi1 := BI_h hh.2.2.2.2.2.2.2.1 hh.2.2.2.2.2.2.2.2 bi
  have ek := hh.2.2.2.2.2.2.2.2
  refine c_Mpull hM1 bi1.1 (fun h S2 e im => ?_) (fun c hc ec h S2 e im => ?_) (fun c hc ec hp im => ?_)
  · rcases md with ⟨er, ei, _⟩ | ⟨c, p0, p1, S', hc, ec, _⟩
    · exact K S2 (gx_bad hX hh er ei e im)
    · exact absurd h (by rw [ec]; exact nb8 hc)
  · rcases md with ⟨er, ei, _⟩ | ⟨c', p0, p1, S', hc', ec', r0, r1, _, tk, _⟩
    · exact K S2 (gx_bad hX hh er ei e im)
    · have := nI_inj (by omega) (by omega) (ec.symm.trans ec')
      subst this
      rw [ek 24 (by decide)] at h
      obtain ⟨_, q0, q1, _, _, _, _, _, _, z⟩ := fo_tk hG hc r0 r1 tk
      exact absurd h z
  · rcases md with ⟨er, ei, q | ⟨c', hc', ec', q⟩⟩ | ⟨c', p0, p1, S', hc', ec', r0, r1, t', tk, er, ei⟩
    · exact absurd q (by rw [ec]; exact nb8 hc)
    · have := nI_inj (by omega) (by omega) (ec.symm.trans ec')
      subst this
      rw [ek 24 (by decide)] at hp
      rcases pls n0 hc with ⟨_, z⟩ | ⟨z, _⟩
      · exact absurd z hp
      · exact absurd z q
    · have := nI_inj (by omega) (by omega) (ec.symm.trans ec')
      subst this
      have s27 : ∀ t, ∃ k, k < 8 ∧ up2 (sI S1) m 0 0 (A 27) t = nI k := fun t => by rw [(J0_k hA).1 27 t (by decide)]; exact bi1.1.1.1 27 8 rfl t
      have s28 : ∀ t, ∃ k, k < 2 ∧ up2 (sI S1) m 0 0 (A 28) t = nI k := fun t => by rw [(J0_k hA).1 28 t (by decide)]; exact bi1.1.1.1 28 2 rfl t
      have n1 := NR_K (NR_h hh n0) (J0_k (J := sI S1) hA).1 ((J0_k (J := sI S1) hA).2 43 (by decide)) ((J0_k (J := sI S1) hA).2 32 (by decide))
      have tg0 : ∀ n, TG (up2 (sI S1) m 0 0) A n = TG (sI S1) A n := fun n => tg_same (J0_k hA).1
      obtain ⟨_, q0, q1, h0, h1, e0, e1, P0, P1, p24⟩ := fo_tk hG hc r0 r1 tk
      subst e0 e1
      have P0' : up2 (sI S1) m 0 0 (A 22) (2 * c + 0) = nI q0 := by rw [(J0_k hA).1 22 _ (by decide), ek 22 (by decide)]; exact P0
      have P1' : up2 (sI S1) m 0 0 (A 22) (2 * c + 1) = nI q1 := by rw [(J0_k hA).1 22 _ (by decide), ek 22 (by decide)]; exact P1
      have p24' : up2 (sI S1) m 0 0 (A 24) c ≠ 0 := by rw [(J0_k hA).1 24 _ (by decide), ek 24 (by decide)]; exact p24
      obtain ⟨φ, xr0, frl0⟩ := xr_0 (F := F) hX hh n0 (by have := bi1.1.2.2.2.1; omega) (by omega) bi.2.1 (by omega)
      have fok0 : ∀ c e, c < 8 → e < 2 → FOK (sI S) (sR S) x c e := fun c e hc he => (frl0.2.1 c e hc he).1
      have hL1 : LY S1 x := ⟨hh.1, hh.2.2.1⟩
      have hnt0 := bi1.1.2.2.2.1
      have pl0 : plg (sR S) x c := ⟨by rw [r0]; simp, by rw [r1]; simp⟩
      obtain ⟨nx, e32x, hnx, xp⟩ := xr_pul hL hO hA hc h0 h1 s27 s28 P0' P1' p24' r0 r1 n1 frl0 xr0
      have tyS0 : LY S' x := ⟨t', by rw [tk.1]; exact hL.2⟩
      obtain ⟨fok', xq⟩ := xr_tk hL hO hc h0 h1 pl0 tk fok0 xp
      have xx := xr_nc tyS0 hA fok' xq
      obtain ⟨J1, n', cut, a1, a2, a3, a4⟩ := pul_R hA n1 s27 s28 hc h0 h1 P0' P1' p24'
      have E : g_X8_pull_37 (up2 (sI S1) m 0 0) m A c nt = up2 (f_X8_isPulled (up2 (sI S1) m 0 0) m A c nt) m 44 (nI 0) := rfl
      rw [E] at im ⊢
      have nz : ∀ z, z ≠ m → (∀ k ∈ DM, z ≠ A k) → f_X8_isPulled (up2 (sI S1) m 0 0) m A c nt z = sI S1 z := fun z h1 h2 => by rw [nm_X8_isPulled (fun k hk => h2 k (mem_sub k hk (by decide))) h1, up2_row h1]
      clear xp xq
      generalize f_X8_isPulled (up2 (sI S1) m 0 0) m A c nt = J2 at a1 a2 a3 a4 e32x xx nz im ⊢
      have ts := tk_sim hL hO hc h0 h1 tk r0 r1 n1 P0' P1' p24' cut a1 a2 a3 (a4 43) (a4 32)
      have tgE : TG (up2 J2 m 44 (nI 0)) A n' = TG J1 A n' := by
        rw [tg_same (fun k j a => mm_a hA a)]
        exact TG_c (fun t _ => tg_k (fun k hk => by
          have q : ∀ k ∈ ([27, 28, 29, 30, 31] : List Nat), dm k ∧ k ≠ 11 ∧ k ≠ 24 := by decide
          funext j
          exact a3 k j (q k hk).1 (q k hk).2.1 (q k hk).2.2))
      have c42 : ∀ j, J1 (A 42) j = up2 (sI S1) m 0 0 (A 42) j := fun j => cut.2.2.1 42 j (by decide) (by decide) (by decide) (by decide) (by decide) (by decide) (by decide) (by decide) (by decide) (by decide) (by decide) (by decide)
      have hLe : LYE (sR S) (sR S') x := lye hL (Or.inl ⟨(ly_pp hL hc).2.1, (ly_pp hL hc).2.2⟩) (fun z _ hz => tk.2.2.2.1 z hz)
      have pl : plg (sR S) x c := ⟨by rw [r0]; simp, by rw [r1]; simp⟩
      have fx : FAx S x c (sI S) (sI S1) := by
        rw [ei, tk.2.2.2.2.2.1]
        have f1 := (fx_off (I := sI S) hL hO hc pl).fa ((FA.rf.w (k := 2) (v := -1) hL (k_px hL (show q0 < 16 by omega)) (by omega)).w (k := 2) (v := -1) hL (k_px hL (show 8 + q1 < 16 by omega)) (by omega))
        have tyS' : LY S' x := ⟨t', by rw [tk.1]; exact hL.2⟩
        exact f1.fa (FA_S tk.1 tk.2.1 hLe (fa_nc tyS' FA.rf))
      have p6 : P6 S (sI S) (sI S1) := by
        rw [ei, tk.2.2.2.2.2.1]
        have f1 : P6 S (sI S) _ := ((p6_off (I0 := sI S) (I := sI S) hL hc pl P6.rf).w (k := 2) (v := -1) (k_px hL (show q0 < 16 by omega)) (Or.inr (by decide))).w (k := 2) (v := -1) (k_px hL (show 8 + q1 < 16 by omega)) (Or.inr (by decide))
        have tyS' : LY S' x := ⟨t', by rw [tk.1]; exact hL.2⟩
        exact f1.tr (fun z hz => p6_nc tyS' P6.rf z (by rw [tk.1]; exact hz))
      have j9 : ∀ y, y < 16 → up2 J2 m 44 (nI 0) (A 9) y = nI 4 → sI S1 (A 9) y = nI 4 ∧ up2 J2 m 44 (nI 0) (A 12) y = sI S1 (A 12) y := fun y hy e4 => by
        rw [mm_a hA (by decide), a3 9 y (by decide) (by decide) (by decide)] at e4
        rw [mm_a hA (by decide), a3 12 y (by decide) (by decide) (by decide)]
        by_cases q : y = q0 ∨ y = 8 + q1
        · rw [(cut.1 y q).2.2.1] at e4; exact absurd e4 (by decide)
        · rw [cut.2.1 y (fun z => q (Or.inl z)) (fun z => q (Or.inr z)) 9 y (by decide) (by decide) (ow_x (by decide)), (J0_k hA).1 9 y (by decide)] at e4
          exact ⟨e4, by rw [cut.2.1 y (fun z => q (Or.inl z)) (fun z => q (Or.inr z)) 12 y (by decide) (by decide) (ow_x (by decide))]; exact (J0_k hA).1 12 y (by decide)⟩
      have qk : ∀ k, (k = 23 ∨ k = 34 ∨ k = 35 ∨ k = 36 ∨ k = 37 ∨ k = 41 ∨ k = 42) → ∀ j, up2 J2 m 44 (nI 0) (A k) j = sI S1 (A k) j := fun k hk j => by rw [mm_a hA (by omega), a3 k j (by omega) (by omega) (by omega), cut.2.2.1 k j (by omega) (by omega) (by omega) (by omega) (by omega) (by omega) (by omega) (by omega) (by omega) (by omega) (by omega) (by omega)]; exact (J0_k hA).1 k j (by omega)
      have frs : FRs (wI S1 (up2 J2 m 44 (nI 0))) x m A := frs_c (n' := n') hP hh n0 (by omega) (by have := bi1.1.2.2.2.1; omega) cut.2.2.2.2.2.2.2.1 hc (fun z _ h17 => by rw [er]; exact tk.2.2.2.1 z (fun y => h17 (by rw [y]; exact (ly_pp hL hc).2.1))) (fun y hy => by rw [er]; exact hLe.P (y / 8) (y % 8) (by omega) (by omega)) p6 j9 fx (fun z h1 h2 => by rw [up2_row h1]; exact nz z h1 h2) (fun k hk j => qk k (by simp at hk; omega) j) (fun c' hc' n => ⟨qk 23 (by omega) c', by rw [mm_a hA (by decide), a2, if_neg n, cut.2.2.1 24 c' (by decide) (by decide) (by decide) (by decide) (by decide) (by decide) (by decide) (by decide) (by decide) (by decide) (by decide) (by decide)]; exact (J0_k hA).1 24 c' (by decide)⟩) (by rw [mm_j (by decide), a4 43, cut.2.2.2.2.2.1 43 (by decide) (by decide)]; exact (J0_k hA).2 43 (by decide)) (by rw [mm_j (by decide), a4 32]; exact cut.2.2.2.2.2.2.1) (by rw [tgE, cut.2.2.2.2.2.2.2.2, tg0])
      refine K (wI S1 (up2 J2 m 44 (nI 0))) ⟨⟨r_exact (n' := n') hh bi1 fr hF hcl im (fun z h1 h2 => by rw [up2_row h1]; exact nz z h1 h2) (fun j => by rw [mm_a hA (by decide), a3 42 j (by decide) (by decide) (by decide), c42]; exact (J0_k hA).1 42 j (by decide)) (by rw [mm_j (by decide), a4 39, cut.2.2.2.2.2.1 39 (by decide) (by decide)]; exact (J0_k hA).2 39 (by decide)) ?_ (by rw [tgE, ← tg0]; exact cut_tg cut), frs⟩, cm_fs hh (cm_u hX.2.1 hh md0) (FS.w (fun z h1 h2 => by rw [up2_row h1]; exact nz z h1 h2)), xs_w (cl := cl) hL1 hM1 (by rw [er, ei]; exact fok_a fok' (fa_nc tyS0 FA.rf)) (fun z h1 h2 => by rw [up2_row h1]; exact nz z h1 h2) (by rw [mm_j (by decide)]; exact e32x) (by rw [mm_j (by decide), a4 39, cut.2.2.2.2.2.1 39 (by decide) (by decide)]; exact ((J0_k hA).2 39 (by decide)).trans bi1.2.1) (by omega) (by omega) (by rw [er, ei]; exact xx)⟩
      rw [er, ei]
      have tyS' : LY S' x := ⟨t', by rw [tk.1]; exact hL.2⟩
      exact NR_I tyS' (ca_nc tyS') (NR_K ts (fun k j a => mm_a hA a) (mm_j (by decide)) (mm_j (by decide)))
theorem h_plug {Q : Option Value → MM → Prop} {S S1 : MM} {x m out i0 : Nat} {A : Nat → Nat} {v w u t : Int32} (hi0 : i0 < 100000) (hX : GX S x m out A i0) (hh : GH S S1 x m out A) (md : MDq S S1 x v w u t) (K : ∀ S2, GX S2 x m out A (i0 + 1) → Q none S2) : wX8_plug [.ref m, .int v, .int w, .int u, .int t] S1 Q := by
  have hP := hX.1
  have hG := hP.1
  have md0 := md
  have hM1 := hh.2.2.2.2.2.1
  have hA := AD_of hM1
  have hL := ly_of hG
  have hO := hG.2.2.2.2.2.2.1
  obtain ⟨g1, g2, g3, g4, g5, g6, g7, nt, F, cl, bi, n0, fr, hF, hcl⟩ := id hG
  have bi1 := BI_h hh.2.2.2.2.2.2.2.1 hh.2.2.2.2.2.2.2.2 bi
  have ek := hh.2.2.2.2.2.2.2.2
  have pc0 : ∀ i, i < 8 → sI S (Pt (sR S) x 0 i) 2 = sI S1 (A 11) i := fun i hi => by
    have := n0.2.2.2.2.2.2.1.2.1 0 i (by decide) hi
    rw [show 8 * 0 + i = i by omega] at this
    rw [ek 11 (by decide)]
    exact this
  have pc1 : ∀ k, k < 8 → sI S (Pt (sR S) x 1 k) 2 = sI S1 (A 11) (8 + k) := fun k hk => by
    have := n0.2.2.2.2.2.2.1.2.1 1 k (by decide) hk
    rw [show 8 * 1 + k = 8 + k by omega] at this
    rw [ek 11 (by decide)]
    exact this
  refine c_Mplug hM1 bi1.1 (fun h S2 e im => ?_) (fun c i k hc hi hk ec ei ek' nb h S2 e im => ?_) (fun c i k d hc hi hk hd1 hd2 ec ei ekk ed nb xa xb im => ?_)
  · rcases md with ⟨er, es, _⟩ | ⟨c, i, k, Sa, Sb, _, nb, _⟩
    · exact K S2 (gx_bad hX hh er es e im)
    · exact absurd h nb
  · rcases md with ⟨er, es, _⟩ | ⟨c', i', k', Sa, Sb, ⟨hc', hi', hk', ec', ei', ek''⟩, _, ⟨ya, yb⟩, _⟩
    · exact K S2 (gx_bad hX hh er es e im)
    · have q1 := nI_inj (by omega) (by omega) (ec.symm.trans ec')
      have q2 := nI_inj (by omega) (by omega) (ei.symm.trans ei')
      have q3 := nI_inj (by omega) (by omega) (ek'.symm.trans ek'')
      subst q1 q2 q3
      rw [pc0 i hi] at ya
      rw [pc1 k hk] at yb
      exact absurd ⟨ya, yb⟩ h
  · rcases md with ⟨er, es, q | ⟨c', i', k', hc', hi', hk', ec', ei', ek', q⟩⟩ | ⟨c', i', k', Sa, Sb, ⟨hc', hi', hk', ec', ei', ek'⟩, _, ⟨ya, yb⟩, ta, tk, tb, pin, hOa, hOb, er, es⟩
    · exact absurd q nb
    · have q1 := nI_inj (by omega) (by omega) (ec.symm.trans ec')
      have q2 := nI_inj (by omega) (by omega) (ei.symm.trans ei')
      have q3 := nI_inj (by omega) (by omega) (ekk.symm.trans ek')
      subst q1 q2 q3
      rw [pc0 i hi, pc1 k hk] at q
      exact absurd ⟨xa, xb⟩ q
    · have q1 := nI_inj (by omega) (by omega) (ec.symm.trans ec')
      have q2 := nI_inj (by omega) (by omega) (ei.symm.trans ei')
      have q3 := nI_inj (by omega) (by omega) (ekk.symm.trans ek')
      subst q1 q2 q3
      rw [ed] at pin
      have s27 : ∀ t, ∃ k, k < 8 ∧ up2 (sI S1) m 0 0 (A 27) t = nI k := fun t => by rw [(J0_k hA).1 27 t (by decide)]; exact bi1.1.1.1 27 8 rfl t
      have s28 : ∀ t, ∃ k, k < 2 ∧ up2 (sI S1) m 0 0 (A 28) t = nI k := fun t => by rw [(J0_k hA).1 28 t (by decide)]; exact bi1.1.1.1 28 2 rfl t
      have n1 := NR_K (NR_h hh n0) (J0_k (J := sI S1) hA).1 ((J0_k (J := sI S1) hA).2 43 (by decide)) ((J0_k (J := sI S1) hA).2 32 (by decide))
      have tg0 : ∀ n, TG (up2 (sI S1) m 0 0) A n = TG (sI S1) A n := fun n => tg_same (J0_k hA).1
      rw [← (J0_k (J := sI S1) hA).1 11 i (by decide)] at xa
      rw [← (J0_k (J := sI S1) hA).1 11 (8 + k) (by decide)] at xb
      have j42 : ∀ j, up2 (sI S1) m 0 0 (A 42) j = sI S1 (A 42) j := fun j => (J0_k hA).1 42 j (by decide)
      have j39 : up2 (sI S1) m 0 0 m 39 = sI S1 m 39 := (J0_k hA).2 39 (by decide)
      have jz : ∀ z, z ≠ m → up2 (sI S1) m 0 0 z = sI S1 z := fun z hz => up2_row hz
      rw [g76] at im ⊢
      obtain ⟨φ, xr0, frl0⟩ := xr_0 (F := F) hX hh n0 (by have := bi1.1.2.2.2.1; omega) (by omega) bi.2.1 (by omega)
      have fok0 : ∀ c e, c < 8 → e < 2 → FOK (sI S) (sR S) x c e := fun c e hc he => (frl0.2.1 c e hc he).1
      have hL1 : LY S1 x := ⟨hh.1, hh.2.2.1⟩
      have hnt0 := bi1.1.2.2.2.1
      have xA : ∃ nx, (if up2 (sI S1) m 0 0 (A 24) c = 0 then up2 (sI S1) m 0 0 else f_X8_isPulled (up2 (sI S1) m 0 0) m A c nt) m 32 = nI nx ∧ nx ≤ nt ∧ (∀ c e, c < 8 → e < 2 → FOK (sI Sa) (sR Sa) x c e) ∧ XRl (sR Sa) x m A (sI Sa) (if up2 (sI S1) m 0 0 (A 24) c = 0 then up2 (sI S1) m 0 0 else f_X8_isPulled (up2 (sI S1) m 0 0) m A c nt) nx F φ := by
        rcases tk with ⟨npl, e⟩ | ⟨p0, p1, r0, r1, tk⟩
        · subst e
          rcases pls n1 hc with ⟨_, z⟩ | ⟨z, _⟩
          · rw [if_pos z]
            exact ⟨nt, n1.2.2.2.1.2.2, Nat.le_refl _, fok0, xr0⟩
          · exact absurd z npl
        · obtain ⟨_, q0, q1, h0, h1, e0, e1, P0, P1, p24⟩ := fo_tk hG hc r0 r1 tk
          subst e0 e1
          have P0' : up2 (sI S1) m 0 0 (A 22) (2 * c + 0) = nI q0 := by rw [(J0_k hA).1 22 _ (by decide), ek 22 (by decide)]; exact P0
          have P1' : up2 (sI S1) m 0 0 (A 22) (2 * c + 1) = nI q1 := by rw [(J0_k hA).1 22 _ (by decide), ek 22 (by decide)]; exact P1
          have p24' : ¬ up2 (sI S1) m 0 0 (A 24) c = 0 := by rw [(J0_k hA).1 24 _ (by decide), ek 24 (by decide)]; exact p24
          rw [if_neg p24']
          have pl0 : plg (sR S) x c := ⟨by rw [r0]; simp, by rw [r1]; simp⟩
          obtain ⟨nx, e32x, hnx, xp⟩ := xr_pul hL hO hA hc h0 h1 s27 s28 P0' P1' p24' r0 r1 n1 frl0 xr0
          obtain ⟨fok', xq⟩ := xr_tk hL hO hc h0 h1 pl0 tk fok0 xp
          exact ⟨nx, e32x, hnx, fok', xq⟩
      -- behind the pull, if there was one
      have stA : ∃ n', NRl (sR Sa) x m A (sI Sa) (if up2 (sI S1) m 0 0 (A 24) c = 0 then up2 (sI S1) m 0 0 else f_X8_isPulled (up2 (sI S1) m 0 0) m A c nt) cl n' ∧ (if up2 (sI S1) m 0 0 (A 24) c = 0 then up2 (sI S1) m 0 0 else f_X8_isPulled (up2 (sI S1) m 0 0) m A c nt) (A 24) c = 0 ∧ (if up2 (sI S1) m 0 0 (A 24) c = 0 then up2 (sI S1) m 0 0 else f_X8_isPulled (up2 (sI S1) m 0 0) m A c nt) (A 25) c = 0 ∧ (∀ y, (if up2 (sI S1) m 0 0 (A 24) c = 0 then up2 (sI S1) m 0 0 else f_X8_isPulled (up2 (sI S1) m 0 0) m A c nt) (A 11) y = -1 ∨ (if up2 (sI S1) m 0 0 (A 24) c = 0 then up2 (sI S1) m 0 0 else f_X8_isPulled (up2 (sI S1) m 0 0) m A c nt) (A 11) y = up2 (sI S1) m 0 0 (A 11) y) ∧ (TG (if up2 (sI S1) m 0 0 (A 24) c = 0 then up2 (sI S1) m 0 0 else f_X8_isPulled (up2 (sI S1) m 0 0) m A c nt) A n').Sublist (TG (sI S1) A nt) ∧ (∀ j, (if up2 (sI S1) m 0 0 (A 24) c = 0 then up2 (sI S1) m 0 0 else f_X8_isPulled (up2 (sI S1) m 0 0) m A c nt) (A 42) j = sI S1 (A 42) j) ∧ (if up2 (sI S1) m 0 0 (A 24) c = 0 then up2 (sI S1) m 0 0 else f_X8_isPulled (up2 (sI S1) m 0 0) m A c nt) m 39 = sI S1 m 39 ∧ (∀ z, z ≠ m → (∀ k ∈ DM, z ≠ A k) → (if up2 (sI S1) m 0 0 (A 24) c = 0 then up2 (sI S1) m 0 0 else f_X8_isPulled (up2 (sI S1) m 0 0) m A c nt) z = sI S1 z) ∧ n' ≤ nt ∧ TG (if up2 (sI S1) m 0 0 (A 24) c = 0 then up2 (sI S1) m 0 0 else f_X8_isPulled (up2 (sI S1) m 0 0) m A c nt) A n' = (TG (sI S1) A nt).filter (nc c) ∧ (∀ k, (k = 23 ∨ k = 34 ∨ k = 35 ∨ k = 36 ∨ k = 37 ∨ k = 41 ∨ k = 42) → ∀ j, (if up2 (sI S1) m 0 0 (A 24) c = 0 then up2 (sI S1) m 0 0 else f_X8_isPulled (up2 (sI S1) m 0 0) m A c nt) (A k) j = sI S1 (A k) j) ∧ (∀ c', c' ≠ c → (if up2 (sI S1) m 0 0 (A 24) c = 0 then up2 (sI S1) m 0 0 else f_X8_isPulled (up2 (sI S1) m 0 0) m A c nt) (A 24) c' = sI S1 (A 24) c') ∧ ∀ y, y < 16 → (if up2 (sI S1) m 0 0 (A 24) c = 0 then up2 (sI S1) m 0 0 else f_X8_isPulled (up2 (sI S1) m 0 0) m A c nt) (A 9) y = nI 4 → sI S1 (A 9) y = nI 4 ∧ (if up2 (sI S1) m 0 0 (A 24) c = 0 then up2 (sI S1) m 0 0 else f_X8_isPulled (up2 (sI S1) m 0 0) m A c nt) (A 12) y = sI S1 (A 12) y := by
        rcases tk with ⟨npl, e⟩ | ⟨p0, p1, r0, r1, tk⟩
        · subst e
          rcases pls n1 hc with ⟨_, z⟩ | ⟨z, _⟩
          · rw [if_pos z]
            exact ⟨nt, n1, z, Classical.byContradiction (fun y => n1.2.2.2.2.2.1.1 c hc y z), fun y => Or.inr rfl, by rw [tg0]; exact List.Sublist.refl _, j42, j39, fun z h1 _ => jz z h1, Nat.le_refl _, by rw [tg0]; exact (List.filter_eq_self.mpr (fun q hq => by obtain ⟨t', ht', rfl⟩ := List.mem_map.mp hq; have no := no_th n1 hc (Classical.byContradiction (fun y => n1.2.2.2.2.2.1.1 c hc y z)) t' (List.mem_range.mp ht'); rw [(J0_k hA).1 27 t' (by decide)] at no; unfold nc; rw [decide_eq_false (show ¬ tg (sI S1) A t' 0 = nI c from no)]; rfl)).symm, fun k hk j => (J0_k hA).1 k j (by omega), fun c' _ => (J0_k hA).1 24 c' (by decide), fun y _ e4 => by rw [(J0_k hA).1 9 y (by decide)] at e4; exact ⟨e4, (J0_k hA).1 12 y (by decide)⟩⟩
          · exact absurd z npl
        · obtain ⟨_, q0, q1, h0, h1, e0, e1, P0, P1, p24⟩ := fo_tk hG hc r0 r1 tk
          subst e0 e1
          have P0' : up2 (sI S1) m 0 0 (A 22) (2 * c + 0) = nI q0 := by rw [(J0_k hA).1 22 _ (by decide), ek 22 (by decide)]; exact P0
          have P1' : up2 (sI S1) m 0 0 (A 22) (2 * c + 1) = nI q1 := by rw [(J0_k hA).1 22 _ (by decide), ek 22 (by decide)]; exact P1
          have p24' : ¬ up2 (sI S1) m 0 0 (A 24) c = 0 := by rw [(J0_k hA).1 24 _ (by decide), ek 24 (by decide)]; exact p24
          rw [if_neg p24']
          obtain ⟨J1, n', cut, a1, a2, a3, a4⟩ := pul_R hA n1 s27 s28 hc h0 h1 P0' P1' p24'
          have nz : ∀ z, z ≠ m → (∀ k ∈ DM, z ≠ A k) → f_X8_isPulled (up2 (sI S1) m 0 0) m A c nt z = sI S1 z := fun z h1 h2 => by rw [nm_X8_isPulled (fun k hk => h2 k (mem_sub k hk (by decide))) h1, up2_row h1]
          generalize f_X8_isPulled (up2 (sI S1) m 0 0) m A c nt = J2 at a1 a2 a3 a4 nz ⊢
          have ts := tk_sim hL hO hc h0 h1 tk r0 r1 n1 P0' P1' p24' cut a1 a2 a3 (a4 43) (a4 32)
          have tgE : TG J2 A n' = TG J1 A n' := TG_c (fun t _ => tg_k (fun k hk => by
            have q : ∀ k ∈ ([27, 28, 29, 30, 31] : List Nat), dm k ∧ k ≠ 11 ∧ k ≠ 24 := by decide
            funext j
            exact a3 k j (q k hk).1 (q k hk).2.1 (q k hk).2.2))
          have c42 : ∀ j, J1 (A 42) j = up2 (sI S1) m 0 0 (A 42) j := fun j => cut.2.2.1 42 j (by decide) (by decide) (by decide) (by decide) (by decide) (by decide) (by decide) (by decide) (by decide) (by decide) (by decide) (by decide)
          have c11 : ∀ j, J1 (A 11) j = up2 (sI S1) m 0 0 (A 11) j := fun j => cut.2.2.1 11 j (by decide) (by decide) (by decide) (by decide) (by decide) (by decide) (by decide) (by decide) (by decide) (by decide) (by decide) (by decide)
          refine ⟨n', ts, by rw [a2, if_pos rfl]; rfl, by rw [a3 25 c (by decide) (by decide) (by decide)]; exact cut.2.2.2.2.1, fun y => ?_, by rw [tgE, ← tg0]; exact cut_tg cut, fun j => by rw [a3 42 j (by decide) (by decide) (by decide), c42]; exact j42 j, by rw [a4 39, cut.2.2.2.2.2.1 39 (by decide) (by decide)]; exact j39, nz, cut.2.2.2.2.2.2.2.1, by rw [tgE, cut.2.2.2.2.2.2.2.2, tg0], fun k hk j => by rw [a3 k j (by omega) (by omega) (by omega), cut.2.2.1 k j (by omega) (by omega) (by omega) (by omega) (by omega) (by omega) (by omega) (by omega) (by omega) (by omega) (by omega) (by omega)]; exact (J0_k hA).1 k j (by omega), fun c' n => by rw [a2, if_neg n, cut.2.2.1 24 c' (by decide) (by decide) (by decide) (by decide) (by decide) (by decide) (by decide) (by decide) (by decide) (by decide) (by decide) (by decide)]; exact (J0_k hA).1 24 c' (by decide), fun y hy e4 => by
            rw [a3 9 y (by decide) (by decide) (by decide)] at e4
            rw [a3 12 y (by decide) (by decide) (by decide)]
            by_cases q : y = q0 ∨ y = 8 + q1
            · rw [(cut.1 y q).2.2.1] at e4; exact absurd e4 (by decide)
            · rw [cut.2.1 y (fun z => q (Or.inl z)) (fun z => q (Or.inr z)) 9 y (by decide) (by decide) (ow_x (by decide)), (J0_k hA).1 9 y (by decide)] at e4
              exact ⟨e4, by rw [cut.2.1 y (fun z => q (Or.inl z)) (fun z => q (Or.inr z)) 12 y (by decide) (by decide) (ow_x (by decide))]; exact (J0_k hA).1 12 y (by decide)⟩⟩
          rw [a1 y]
          split
          · exact Or.inl rfl
          · exact Or.inr (c11 y)
      generalize (if up2 (sI S1) m 0 0 (A 24) c = 0 then up2 (sI S1) m 0 0 else f_X8_isPulled (up2 (sI S1) m 0 0) m A c nt) = Ka at stA xA im ⊢
      obtain ⟨nx, e32x, hnx, fokA, xA⟩ := xA
      obtain ⟨n', na, a24, a25, a11, sub, a42, a39, az, xn, xt, xk, x24, x9⟩ := stA
      have free : ∀ y, y < 16 → (up2 (sI S1) m 0 0 (A 11) y = -1 ∨ up2 (sI S1) m 0 0 (A 11) y = nI c) → Ka (A 11) y = -1 := fun y hy h => by
        rcases na.2.2.2.2.2.1.2.2.2.1 (y / 8) (y % 8) (by omega) (by omega) with z | ⟨c', hc', e', pc, _⟩
        · rw [show 8 * (y / 8) + y % 8 = y by omega] at z; exact z
        · rw [show 8 * (y / 8) + y % 8 = y by omega] at e'
          rcases a11 y with z | z
          · exact z
          · rw [z] at e' ⊢
            rcases h with h | h
            · exact h
            · rw [h] at e'
              have := nI_inj (by omega) (by omega) e'
              subst this
              exact absurd a24 pc
      have fi := free i (by omega) xa
      have fk := free (8 + k) (by omega) xb
      -- the cable is put in
      have ska : sK Sa = sK S ∧ sN Sa = sN S := by
        rcases tk with ⟨_, e⟩ | ⟨p0, p1, _, _, tk⟩
        · subst e; exact ⟨rfl, rfl⟩
        · exact ⟨tk.1, tk.2.1⟩
      have hLa : LY Sa x := LY_ne hL ska.1 ta
      obtain ⟨kb, nb', _, rb, rcb, eb, rjb⟩ := id pin
      have hLb : LY Sb x := LY_ne hLa kb tb
      have leb : LYE (sR Sa) (sR Sb) x := lye hLa (Or.inl ⟨(ly_pp hLa hc).2.1, (ly_pp hLa hc).2.2⟩) (fun z _ hz => rb z hz)
      obtain ⟨b11, b24, b23, b22, bk, bm⟩ := plW_f (J := Ka) (m := m) (c := c) (p := i) (q := k) (w := nI d) hA hi
      generalize hKb : plW Ka A c i k (nI d) = Kb at b11 b24 b23 b22 bk bm im ⊢
      have bz : ∀ z, z ≠ m → (∀ k ∈ DM, z ≠ A k) → Kb z = Ka z := fun z h1 h2 => by
        rw [← hKb]
        unfold plW
        rw [up2_row (h2 11 (by decide)), up2_row (h2 11 (by decide)), up2_row (h2 23 (by decide)), up2_row (h2 22 (by decide)), up2_row (h2 22 (by decide)), up2_row (h2 24 (by decide))]
      have e0 : Pt (sR Sa) x 0 i = px (sR Sa) x i := by
        show _ = Pt (sR Sa) x (i / 8) (i % 8)
        rw [show i / 8 = 0 by omega, show i % 8 = i by omega]
      have e1 : Pt (sR Sa) x 1 k = px (sR Sa) x (8 + k) := by
        show _ = Pt (sR Sa) x ((8 + k) / 8) ((8 + k) % 8)
        rw [show (8 + k) / 8 = 1 by omega, show (8 + k) % 8 = k by omega]
      have ps := pin_sim (d := d) hLa hOa hc hi hk hd1 hd2 leb (fun e he ne => rb _ (fun z => ne (pp_i hLa hOa he hc z))) rcb na a24 a25 fi fk b11 b24 b23 b22 bk (bm 43) (bm 32)
      rw [← e0, ← e1, ← eb] at ps
      -- and is up
      have r0b : sR Sb (ppd (sR Sb) x c) 0 = some (Pt (sR Sb) x 0 i) := by rw [leb.PP c hc, leb.P 0 i (by decide) hi]; exact rcb.1
      have r1b : sR Sb (ppd (sR Sb) x c) 1 = some (Pt (sR Sb) x 1 k) := by rw [leb.PP c hc, leb.P 1 k (by decide) hk]; exact rcb.2
      have P0 : Kb (A 22) (2 * c + 0) = nI i := by rw [b22, if_pos (by omega)]
      have P1 : Kb (A 22) (2 * c + 1) = nI k := by rw [b22, if_neg (by omega), if_pos rfl]
      have p24 : Kb (A 24) c ≠ 0 := by rw [b24, if_pos rfl]; decide
      have u25 : Kb (A 25) c = 0 := by rw [bk 25 c (by decide) (by decide) (by decide) (by decide) (by decide)]; exact a25
      have dkp : ∀ y, y < 16 → Kb (A 11) y = nI c → Kb (A 7) y = 0 := fun y hy hi => Classical.byContradiction (fun z => by
        obtain ⟨c', hc', ec', u'⟩ := ps.2.2.2.2.2.1.2.2.2.2 (y / 8) (y % 8) (by omega) (by omega) (Or.inl (by rw [show 8 * (y / 8) + y % 8 = y by omega]; exact z))
        rw [show 8 * (y / 8) + y % 8 = y by omega, hi] at ec'
        have := nI_inj (by omega) (by omega) ec'
        subst this
        exact u' u25)
      have d0 := dkp i (by omega) (by rw [b11, if_pos (Or.inl rfl)])
      have d1 := dkp (8 + k) (by omega) (by rw [b11, if_pos (Or.inr rfl)])
      have updE := up_R (m := m) hA hc hi hk P0 P1 ((ps.1 i (by omega)).1.2.1.2.1 d0) ((ps.1 (8 + k) (by omega)).1.2.1.2.1 d1)
      obtain ⟨c1, c2, c3, c4, c5, c6⟩ := id updE
      have kAP : ∀ e p, e < 2 → p < 8 → sK Sa (Pt (sR Sa) x e p) = 6 := fun e p he hp => (ly_P hLa he hp).2.1
      have faAB : FA Sa x (sI Sa) (sI Sb) := by
        rw [eb]
        exact ((FA.rf.w hLa (kAP 0 i (by decide) hi) (by omega)).w hLa (kAP 1 k (by decide) hk) (by omega)).w hLa (ly_C hLa hc).2.1 (by omega)
      have rowAB : ∀ z q, sK Sa z = q → q ≠ 1 → q ≠ 6 → sI Sb z = sI Sa z := fun z q hz h1 h6 => by rw [eb, up2_row (ne_k hz (ly_C hLa hc).2.1 h1), up2_row (ne_k hz (kAP 1 k (by decide) hk) h6), up2_row (ne_k hz (kAP 0 i (by decide) hi) h6)]
      have hrAB : ∀ z, sK Sa z ≠ 0 → sK Sa z ≠ 17 → sR Sb z = sR Sa z := fun z _ h17 => rb z (fun y => h17 (by rw [y]; exact (ly_pp hLa hc).2.1))
      have fokB := FOK_R hLa hrAB (fok_a fokA faAB)
      have xB : XRl (sR Sb) x m A (sI Sb) Kb nx F φ := XR_R hLa hrAB (XR_T hLa fokA faAB (fun j _ _ => by rw [rowAB x 8 hLa.2 (by decide) (by decide)]) (fun e he q _ => by rw [rowAB _ 2 (ly_E hLa he).2.1 (by decide) (by decide)]) (fun l hl => funext (fun j => bk l j (by rcases hl with rfl | rfl | rfl | rfl | rfl | rfl <;> decide) (by omega) (by omega) (by omega) (by omega))) (fun j _ _ => bm j) (TG_c (fun t _ => tg_k (fun l hl => funext (fun j => bk l j ((show ∀ k ∈ ([27, 28, 29, 30, 31] : List Nat), dm k by decide) l hl) ((show ∀ k ∈ ([27, 28, 29, 30, 31] : List Nat), k ≠ 11 by decide) l hl) ((show ∀ k ∈ ([27, 28, 29, 30, 31] : List Nat), k ≠ 24 by decide) l hl) ((show ∀ k ∈ ([27, 28, 29, 30, 31] : List Nat), k ≠ 23 by decide) l hl) ((show ∀ k ∈ ([27, 28, 29, 30, 31] : List Nat), k ≠ 22 by decide) l hl))))) xA)
      have plb0 : plg (sR Sb) x c := ⟨by rw [r0b]; simp, by rw [r1b]; simp⟩
      have xx := xr_nc hLb hA (fok_a fokB (fa_on hLb hc plb0 FA.rf)) (xr_on hLb hA hc hi hk P0 P1 ((ps.1 i (by omega)).1.2.1.2.1 d0) ((ps.1 (8 + k) (by omega)).1.2.1.2.1 d1) plb0 fokB updE xB)
      have nz : ∀ z, z ≠ m → (∀ k ∈ DM, z ≠ A k) → f_X8_isUp Kb m A c z = sI S1 z := fun z h1 h2 => by rw [nm_X8_isUp (fun k hk => h2 k (mem_sub k hk (by decide))), bz z h1 h2, az z h1 h2]
      clear updE
      generalize f_X8_isUp Kb m A c = J' at c1 c2 c3 c4 c5 c6 xx nz im ⊢
      have os := on_sim hLb hc hi hk (on_C hLb hOb hc hi hk r0b r1b) ps P0 P1 p24 ⟨d0, d1⟩ c1 c2 c3 c4 c5 (c6 43) (c6 32)
      have c42 : ∀ j, J' (A 42) j = sI S1 (A 42) j := fun j => by rw [c3 42 j (by decide) (by decide) (by decide) (by decide) (by decide) (by decide) (by decide) (by decide) (by decide), bk 42 j (by decide) (by decide) (by decide) (by decide) (by decide)]; exact a42 j
      have tgE : TG (up2 J' m 44 (nI 0)) A n' = TG Ka A n' := by
        rw [tg_same (fun k j a => mm_a hA a)]
        exact TG_c (fun t _ => tg_k (fun l hl => by
          have q : ∀ k ∈ ([27, 28, 29, 30, 31] : List Nat), dm k ∧ k ≠ 7 ∧ k ≠ 8 ∧ k ≠ 9 ∧ k ≠ 14 ∧ k ≠ 18 ∧ k ≠ 21 ∧ k ≠ 25 ∧ k ≠ 40 ∧ k ≠ 11 ∧ k ≠ 24 ∧ k ≠ 23 ∧ k ≠ 22 := by decide
          obtain ⟨z0, z1, z2, z3, z4, z5, z6, z7, z8, z9, z10, z11, z12⟩ := q l hl
          funext j
          rw [c3 l j z0 z1 z2 z3 z4 z5 z6 z7 z8, bk l j z0 z9 z10 z11 z12]))
      have fr0 := FRs_at hP n0 (by omega) (by have := bi1.1.2.2.2.1; omega)
      have fA : (FAx S x c (sI S) (sI Sa) ∧ P6 S (sI S) (sI Sa)) ∧ LYE (sR S) (sR Sa) x ∧ ∀ z, z ≠ ppd (sR S) x c → sR Sa z = sR S z := by
        rcases tk with ⟨npl, e⟩ | ⟨p0, p1, r0, r1, tk⟩
        · subst e
          rcases pls n0 hc with ⟨_, z⟩ | ⟨z, _⟩
          · exact ⟨⟨FAx_0 fr0 hc (no_th n0 hc (Classical.byContradiction (fun y => n0.2.2.2.2.2.1.1 c hc y z))), P6.rf⟩, LYE.rf, fun _ _ => rfl⟩
          · exact absurd z npl
        · obtain ⟨_, q0, q1, h0, h1, e0, e1, _⟩ := fo_tk hG hc r0 r1 tk
          have pl : plg (sR S) x c := ⟨by rw [r0]; simp, by rw [r1]; simp⟩
          refine ⟨?_, lye hL (Or.inl ⟨(ly_pp hL hc).2.1, (ly_pp hL hc).2.2⟩) (fun z _ hz => tk.2.2.2.1 z hz), fun z hz => tk.2.2.2.1 z hz⟩
          rw [tk.2.2.2.2.2.1, e0, e1]
          refine ⟨?_, ((p6_off (I0 := sI S) (I := sI S) hL hc pl P6.rf).w (k := 2) (v := -1) (k_px hL (show q0 < 16 by omega)) (Or.inr (by decide))).w (k := 2) (v := -1) (k_px hL (show 8 + q1 < 16 by omega)) (Or.inr (by decide))⟩
          exact (fx_off (I := sI S) hL hO hc pl).fa ((FA.rf.w (k := 2) (v := -1) hL (k_px hL (show q0 < 16 by omega)) (by omega)).w (k := 2) (v := -1) hL (k_px hL (show 8 + q1 < 16 by omega)) (by omega))
      obtain ⟨⟨fA1, pA1⟩, fA2, fA3⟩ := fA
      have kSb : sK Sb = sK S := kb.trans ska.1
      have plb : plg (sR Sb) x c := ⟨by rw [r0b]; simp, by rw [r1b]; simp⟩
      have fB : FA S x (sI Sa) (sI Sb) := by
        rw [eb]
        exact (((FA.rf.w hL (show sK S (Pt (sR Sa) x 0 i) = 6 by rw [← ska.1]; exact (ly_P hLa (by decide) hi).2.1) (by omega)).w hL (show sK S (Pt (sR Sa) x 1 k) = 6 by rw [← ska.1]; exact (ly_P hLa (by decide) hk).2.1) (by omega)).w hL (show sK S (Cb (sR Sa) x c) = 1 by rw [← ska.1]; exact (ly_C hLa hc).2.1) (by omega))
      have pB : P6 S (sI Sa) (sI Sb) := by
        rw [eb]
        exact ((P6.rf.w (show sK S (Pt (sR Sa) x 0 i) = 6 by rw [← ska.1]; exact (ly_P hLa (by decide) hi).2.1) (Or.inr (by decide))).w (show sK S (Pt (sR Sa) x 1 k) = 6 by rw [← ska.1]; exact (ly_P hLa (by decide) hk).2.1) (Or.inr (by decide))).w (show sK S (Cb (sR Sa) x c) = 1 by rw [← ska.1]; exact (ly_C hLa hc).2.1) (Or.inl (by decide))
      have pC : P6 S (sI Sb) (sI S1) := by
        rw [es]
        exact fun z hz => p6_nc hLb (p6_on hLb hc plb P6.rf) z (by rw [kSb]; exact hz)
      have j9 : ∀ y, y < 16 → up2 J' m 44 (nI 0) (A 9) y = nI 4 → sI S1 (A 9) y = nI 4 ∧ up2 J' m 44 (nI 0) (A 12) y = sI S1 (A 12) y := fun y hy e4 => by
        rw [mm_a hA (by decide)] at e4
        rw [mm_a hA (by decide)]
        by_cases q : y = i ∨ y = 8 + k
        · rw [(c1 y q).2.2.1] at e4; exact absurd e4 (by decide)
        · rw [c2 y (fun z => q (Or.inl z)) (fun z => q (Or.inr z)) 9 y (by decide) (by decide) (ow_x (by decide)), bk 9 y (by decide) (by decide) (by decide) (by decide) (by decide)] at e4
          obtain ⟨z1, z2⟩ := x9 y hy e4
          exact ⟨z1, by rw [c2 y (fun z => q (Or.inl z)) (fun z => q (Or.inr z)) 12 y (by decide) (by decide) (ow_x (by decide)), bk 12 y (by decide) (by decide) (by decide) (by decide) (by decide)]; exact z2⟩
      have fC : FA S x (sI Sb) (sI S1) := by
        rw [es]
        exact FA_S kSb (nb'.trans ska.2) (fA2.tr leb) (fa_nc hLb (fa_on hLb hc plb FA.rf))
      have qk : ∀ k, (k = 34 ∨ k = 35 ∨ k = 36 ∨ k = 37 ∨ k = 41 ∨ k = 42) → ∀ j, up2 J' m 44 (nI 0) (A k) j = sI S1 (A k) j := fun l hl j => by rw [mm_a hA (by omega), c3 l j (by omega) (by omega) (by omega) (by omega) (by omega) (by omega) (by omega) (by omega) (by omega), bk l j (by omega) (by omega) (by omega) (by omega) (by omega)]; exact xk l (by omega) j
      have frs : FRs (wI S1 (up2 J' m 44 (nI 0))) x m A := frs_c (n' := n') hP hh n0 (by omega) (by have := bi1.1.2.2.2.1; omega) xn hc (fun z _ h17 => by rw [er, rb z (fun y => h17 (by rw [y, fA2.PP c hc]; exact (ly_pp hL hc).2.1))]; exact fA3 z (fun y => h17 (by rw [y]; exact (ly_pp hL hc).2.1))) (fun y hy => by rw [er]; exact (fA2.tr leb).P (y / 8) (y % 8) (by omega) (by omega)) ((pA1.tr pB).tr pC) j9 ((fA1.fa fB).fa fC) (fun z h1 h2 => by rw [up2_row h1]; exact nz z h1 h2) (fun l hl j => qk l (by simp at hl; omega) j) (fun c' hc' n => ⟨by rw [mm_a hA (by decide), c3 23 c' (by decide) (by decide) (by decide) (by decide) (by decide) (by decide) (by decide) (by decide) (by decide), b23, if_neg n]; exact xk 23 (by omega) c', by rw [mm_a hA (by decide), c3 24 c' (by decide) (by decide) (by decide) (by decide) (by decide) (by decide) (by decide) (by decide) (by decide), b24, if_neg n]; exact x24 c' n⟩) (by rw [mm_j (by decide), c6 43, bm 43, na.2.2.2.1.2.1, hh.2.2.2.2.2.2.2.1]; exact n0.2.2.2.1.2.1.symm) (by rw [mm_j (by decide), c6 32, bm 32]; exact na.2.2.2.1.2.2) (by rw [tgE, xt])
      refine K (wI S1 (up2 J' m 44 (nI 0))) ⟨⟨r_exact (n' := n') hh bi1 fr hF hcl im (fun z h1 h2 => by rw [up2_row h1]; exact nz z h1 h2) (fun j => by rw [mm_a hA (by decide)]; exact c42 j) (by rw [mm_j (by decide), c6 39, bm 39]; exact a39) ?_ (by rw [tgE]; exact sub), frs⟩, cm_fs hh (cm_q hX.2.1 hh md0) (FS.w (fun z h1 h2 => by rw [up2_row h1]; exact nz z h1 h2)), xs_w (cl := cl) hL1 hM1 (by rw [er, es]; exact fok_a (fok_a fokB (fa_on hLb hc plb0 FA.rf)) (fa_nc hLb FA.rf)) (fun z h1 h2 => by rw [up2_row h1]; exact nz z h1 h2) (by rw [mm_j (by decide), c6 32, bm 32]; exact e32x) (by rw [mm_j (by decide), c6 39, bm 39]; exact a39.trans bi1.2.1) (by omega) (by omega) (by rw [er, es]; exact xx)⟩
      rw [er, es]
      exact NR_I hLb (ca_nc hLb) (NR_K os (fun k j a => mm_a hA a) (mm_j (by decide)) (mm_j (by decide)))
