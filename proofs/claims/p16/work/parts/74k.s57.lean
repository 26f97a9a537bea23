/-! SIMULATION 57: light, pull, plug: the second halves with the frames -/
theorem FRs_at {S : MM} {x m out i cl nt : Nat} {A : Nat → Nat} (hP : GP S x m out A i) (n0 : NRl (sR S) x m A (sI S) (sI S) cl nt) (hcl : cl < 2 ^ 31) (hnt : nt < 2 ^ 31) : FRl (sR S) x A (sI S) (sI S) cl nt := by
  have h := hP.2.1
  rw [n0.2.2.2.1.2.1, n0.2.2.2.1.2.2, nI_cl hcl, nI_cl hnt] at h
  exact h
theorem BN_R {R R' : Nat → Nat → Option Nat} {b : Nat} {A : Nat → Nat} {I J : Mm} (hp : ∀ x, x < 16 → px R' b x = px R b x) (h : BN R b I J A) : BN R' b I J A := fun x hx e => by rw [hp x hx]; exact h x hx e
theorem FRs_of {S1 : MM} {x m cl n' : Nat} {A : Nat → Nat} {F' : Mm} (bn : BN (sR S1) x F' F' A) (h : FRl (sR S1) x A F' F' cl n') (e43 : F' m 43 = nI cl) (e32 : F' m 32 = nI n') (hcl : cl < 2 ^ 31) (hn : n' < 2 ^ 31) : FRs (wI S1 F') x m A := by
  refine ⟨?_, bn⟩
  show FRl (sR S1) x A F' F' (F' m 43).toNatClampNeg (F' m 32).toNatClampNeg
  rw [e43, e32, nI_cl hcl, nI_cl hn]
  exact h
theorem bn_h {S S1 : MM} {x m out i : Nat} {A : Nat → Nat} {F' : Mm} (hP : GP S x m out A i) (hh : GH S S1 x m out A) (hp : ∀ y, y < 16 → px (sR S1) x y = px (sR S) x y) (p6 : P6 S (sI S) (sI S1)) (nz : ∀ z, z ≠ m → (∀ k ∈ DM, z ≠ A k) → F' z = sI S1 z) (j9 : ∀ y, y < 16 → F' (A 9) y = nI 4 → sI S1 (A 9) y = nI 4 ∧ F' (A 12) y = sI S1 (A 12) y) : BN (sR S1) x F' F' A := by
  have hL := ly_of hP.1
  have hM := hP.1.2.2.2.2.2.1
  have ek := hh.2.2.2.2.2.2.2.2
  refine BN_R hp (BN_t hL (p6.tr (fun z hz => ?_)) (fun y hy e => ?_) hP.2.2)
  · rw [nz z (no_ref hM hz (by decide)).1 (no_ref hM hz (by decide)).2]
  · have := j9 y hy e
    rw [ek 9 (by decide), ek 12 (by decide)] at this
    exact this
theorem bd_e {J J' : Mm} {A : Nat → Nat} {c : Nat} (h : J' (A 23) c = J (A 23) c ∧ J' (A 24) c = J (A 24) c) : bd J' A c = bd J A c := by unfold bd; rw [h.1, h.2]
theorem frs_c {S S1 : MM} {x m out i c cl nt n' : Nat} {A : Nat → Nat} {F' : Mm} (hP : GP S x m out A i) (hh : GH S S1 x m out A) (n0 : NRl (sR S) x m A (sI S) (sI S) cl nt) (hcl : cl < 2 ^ 31) (hnt : nt < 2 ^ 31) (hn : n' ≤ nt) (hc : c < 8) (hr : ∀ z, sK S z ≠ 0 → sK S z ≠ 17 → sR S1 z = sR S z) (hp : ∀ y, y < 16 → px (sR S1) x y = px (sR S) x y) (p6 : P6 S (sI S) (sI S1)) (j9 : ∀ y, y < 16 → F' (A 9) y = nI 4 → sI S1 (A 9) y = nI 4 ∧ F' (A 12) y = sI S1 (A 12) y) (fx : FAx S x c (sI S) (sI S1)) (nz : ∀ z, z ≠ m → (∀ k ∈ DM, z ≠ A k) → F' z = sI S1 z) (jk : ∀ k ∈ ([34, 35, 36, 37, 41, 42] : List Nat), ∀ j, F' (A k) j = sI S1 (A k) j) (jb : ∀ c', c' < 8 → c' ≠ c → F' (A 23) c' = sI S1 (A 23) c' ∧ F' (A 24) c' = sI S1 (A 24) c') (e43 : F' m 43 = sI S1 m 43) (e32 : F' m 32 = nI n') (tg : TG F' A n' = (TG (sI S1) A nt).filter (nc c)) : FRs (wI S1 F') x m A := by
  have hL := ly_of hP.1
  have hM := hP.1.2.2.2.2.2.1
  have ek := hh.2.2.2.2.2.2.2.2
  have t1 : TG (sI S1) A nt = TG (sI S) A nt := TG_c (fun t _ => tg_k (fun k hk => ek k ((show ∀ k ∈ ([27, 28, 29, 30, 31] : List Nat), k ∈ DM by decide) k hk)))
  have f := FR_cut (I' := F') (J' := F') hL hc (fx.fa (fa_z hL hM nz)) (fun k hk => by rw [← ek k ((show ∀ k ∈ ([34, 35, 36, 37, 41, 42] : List Nat), k ∈ DM by decide) k hk)]; exact funext (jk k hk)) (fun c' hc' n => bd_e (by rw [← ek 23 (by decide), ← ek 24 (by decide)]; exact jb c' hc' n)) (by rw [tg, t1]) (FRs_at hP n0 hcl hnt)
  exact FRs_of (bn_h hP hh hp p6 nz j9) (FR_R hL hr f) (by rw [e43, hh.2.2.2.2.2.2.2.1]; exact n0.2.2.2.1.2.1) e32 hcl (by omega)
theorem frs_a {S S1 : MM} {x m out i cl nt : Nat} {A : Nat → Nat} {F' : Mm} (hP : GP S x m out A i) (hh : GH S S1 x m out A) (n0 : NRl (sR S) x m A (sI S) (sI S) cl nt) (hcl : cl < 2 ^ 31) (hnt : nt < 2 ^ 31) (er : sR S1 = sR S) (p6 : P6 S (sI S) (sI S1)) (j9 : ∀ y, y < 16 → F' (A 9) y = nI 4 → sI S1 (A 9) y = nI 4 ∧ F' (A 12) y = sI S1 (A 12) y) (fa : FA S x (sI S) (sI S1)) (nz : ∀ z, z ≠ m → (∀ k ∈ DM, z ≠ A k) → F' z = sI S1 z) (jk : ∀ k ∈ KF, ∀ j, F' (A k) j = sI S1 (A k) j) (e43 : F' m 43 = sI S1 m 43) (e32 : F' m 32 = sI S1 m 32) : FRs (wI S1 F') x m A := by
  have hL := ly_of hP.1
  have hM := hP.1.2.2.2.2.2.1
  have ek := hh.2.2.2.2.2.2.2.2
  have f := FR_t (I' := F') (J' := F') hL (fa.tr (fa_z hL hM nz)) (fun k hk => by rw [← ek k ((show ∀ k ∈ KF, k ∈ DM by decide) k hk)]; exact funext (jk k hk)) (FRs_at hP n0 hcl hnt)
  rw [← er] at f
  exact FRs_of (bn_h hP hh (fun _ _ => by rw [er]) p6 nz j9) f (by rw [e43, hh.2.2.2.2.2.2.2.1]; exact n0.2.2.2.1.2.1) (by rw [e32, hh.2.2.2.2.2.2.2.1]; exact n0.2.2.2.1.2.2) hcl hnt
theorem FA_S {S S' : MM} {b : Nat} {I I' : Mm} (hk : sK S' = sK S) (hn : sN S' = sN S) (le : LYE (sR S) (sR S') b) (h : FA S' b I I') : FA S b I I' := ⟨fun z hz => h.1 z (by rw [hk, hn]; exact hz), fun c e hc he => by rw [← le.N c e hc he]; exact h.2.1 c e hc he, fun e he k q => by rw [← le.E e he]; exact h.2.2 e he k q⟩
theorem LYE_n {R R' : Nat → Nat → Option Nat} {b : Nat} (h : LYE R R' b) : (∀ e, e < 2 → En R' b e = En R b e) ∧ ∀ c e, c < 8 → e < 2 → Ln R' b c e = Ln R b c e := ⟨fun e he => h.E e he, fun c e hc he => h.N c e hc he⟩
/-- a lane with no things has no frames -/
theorem ln_0f {R : Nat → Nat → Option Nat} {b cl nt c e : Nat} {A : Nat → Nat} {I J : Mm} (h : FRl R b A I J cl nt) (hc : c < 8) (he : e < 2) (no : ∀ t, t < nt → ¬ J (A 27) t = nI c) : I (Ln R b c e) 5 = nI 0 := by
  have nil := CF_nil (h.1 c e hc he) no
  obtain ⟨_, ⟨n, hn, en⟩, _⟩ := (h.2.1 c e hc he).1
  have len : (CF I R b c e).length = n := by
    unfold CF
    rw [List.length_map, List.length_range, en, nI_cl (by omega)]
  rw [nil] at len
  rw [en, ← len]
  rfl
theorem p_light {Q : Option Value → MM → Prop} {S S1 : MM} {x m out i u : Nat} {A : Nat → Nat} {v : Int32} (hi : i < 100000) (hu : u < 2) (hP : GP S x m out A i) (hh : GH S S1 x m out A) (md : MDg S S1 x u v) (K : ∀ S2, GP S2 x m out A (i + 1) → Q none S2) : wX8_light [.ref m, .int v, .int (nI u)] S1 Q := by
  have hG := hP.1
  have hM1 := hh.2.2.2.2.2.1
  have hA := AD_of hM1
  have hL := ly_of hG
  have hO := hG.2.2.2.2.2.2.1
  obtain ⟨g1, g2, g3, g4, g5, g6, g7, nt, F, cl, bi, n0, fr, hF, hcl⟩ := id hG
  have bi1 := BI_h hh.2.2.2.2.2.2.2.1 hh.2.2.2.2.2.2.2.2 bi
  have ek := hh.2.2.2.2.2.2.2.2
  have up3 : ∀ c, c < 8 → sI S (Cb (sR S) x c) 3 = sI S (A 25) c := fun c hc => n0.2.2.2.2.2.2.1.1 c hc
  refine c_Mlight hu hM1 bi1.1 (fun h S2 e im => ?_) (fun c hc ec h S2 e im => ?_) (fun c hc ec hp hn im => ?_)
  · rcases md with ⟨er, ei, _⟩ | ⟨c, hc, ec, _⟩
    · exact K S2 (p_same hP hh er ei e im)
    · exact absurd h (by rw [ec]; exact nb8 hc)
  · rcases md with ⟨er, ei, _⟩ | ⟨c', hc', ec', pl, nu, _⟩
    · exact K S2 (p_same hP hh er ei e im)
    · have := nI_inj (by omega) (by omega) (ec.symm.trans ec')
      subst this
      rw [ek 24 (by decide), ek 25 (by decide)] at h
      rcases h with h | h
      · rcases pls n0 hc with ⟨z, _⟩ | ⟨_, z, _⟩
        · exact absurd pl z
        · exact absurd h z
      · exact absurd ((up3 c hc).trans h) nu
  · rcases md with ⟨er, ei, q | ⟨c', hc', ec', q⟩⟩ | ⟨c', hc', ec', pl, nu, er, ei⟩
    · exact absurd q (by rw [ec]; exact nb8 hc)
    · have := nI_inj (by omega) (by omega) (ec.symm.trans ec')
      subst this
      rw [ek 24 (by decide)] at hp
      rw [ek 25 (by decide)] at hn
      rcases q with q | q
      · rcases pls n0 hc with ⟨_, z⟩ | ⟨z, _⟩
        · exact absurd z hp
        · exact absurd z q
      · exact absurd ((up3 c hc).symm.trans q) hn
    · have := nI_inj (by omega) (by omega) (ec.symm.trans ec')
      subst this
      have s27 : ∀ t, ∃ k, k < 8 ∧ up2 (sI S1) m 0 0 (A 27) t = nI k := fun t => by rw [(J0_k hA).1 27 t (by decide)]; exact bi1.1.1.1 27 8 rfl t
      have s28 : ∀ t, ∃ k, k < 2 ∧ up2 (sI S1) m 0 0 (A 28) t = nI k := fun t => by rw [(J0_k hA).1 28 t (by decide)]; exact bi1.1.1.1 28 2 rfl t
      have n1 := NR_K (NR_h hh n0) (J0_k (J := sI S1) hA).1 ((J0_k (J := sI S1) hA).2 43 (by decide)) ((J0_k (J := sI S1) hA).2 32 (by decide))
      have tg0 : ∀ n, TG (up2 (sI S1) m 0 0) A n = TG (sI S1) A n := fun n => tg_same (J0_k hA).1
      rcases pls n1 hc with ⟨z, _⟩ | ⟨_, pl24, p0, p1, h0, h1, P0, P1, r0, r1⟩
      · exact absurd pl z
      have hu2 : u = 0 ∨ u = 1 := by omega
      rcases hu2 with rfl | rfl
      · obtain ⟨n', c1, c2, c3, c4, c5, c6, c7, c8, c9⟩ := cut_R (nt := nt) hA hc h0 h1 s27 s28 P0 P1
        have E : g_X8_light_47 (up2 (sI S1) m 0 0) m A c 0 nt = up2 (f_X8_isCut (up2 (sI S1) m 0 0) m A c nt) m 44 (nI 0) := rfl
        rw [E] at im ⊢
        have nz : ∀ z, z ≠ m → (∀ k ∈ DM, z ≠ A k) → f_X8_isCut (up2 (sI S1) m 0 0) m A c nt z = sI S1 z := fun z h1 h2 => by rw [nm_X8_isCut (fun k hk => h2 k (mem_sub k hk (by decide))) h1, up2_row h1]
        generalize f_X8_isCut (up2 (sI S1) m 0 0) m A c nt = J' at c1 c2 c3 c4 c5 c6 c7 c9 nz im ⊢
        have os := off_sim hL hc h0 h1 (off_C hL hO hc h0 h1 r0 r1) n1 P0 P1 pl24 c1 c2 c3 c4 c5 (c6 43 (by decide) (by decide)) c7 c9
        have j9 : ∀ y, y < 16 → up2 J' m 44 (nI 0) (A 9) y = nI 4 → sI S1 (A 9) y = nI 4 ∧ up2 J' m 44 (nI 0) (A 12) y = sI S1 (A 12) y := fun y hy e4 => by
          rw [mm_a hA (by decide)] at e4
          rw [mm_a hA (by decide)]
          by_cases q : y = p0 ∨ y = 8 + p1
          · rw [(c1 y q).2.2.1] at e4; exact absurd e4 (by decide)
          · rw [c2 y (fun z => q (Or.inl z)) (fun z => q (Or.inr z)) 9 y (by decide) (by decide) (ow_x (by decide)), (J0_k hA).1 9 y (by decide)] at e4
            exact ⟨e4, by rw [c2 y (fun z => q (Or.inl z)) (fun z => q (Or.inr z)) 12 y (by decide) (by decide) (ow_x (by decide))]; exact (J0_k hA).1 12 y (by decide)⟩
        have qk : ∀ k, (k = 23 ∨ k = 24 ∨ k = 34 ∨ k = 35 ∨ k = 36 ∨ k = 37 ∨ k = 41 ∨ k = 42) → ∀ j, up2 J' m 44 (nI 0) (A k) j = sI S1 (A k) j := fun k hk j => by rw [mm_a hA (by omega), c3 k j (by omega) (by omega) (by omega) (by omega) (by omega) (by omega) (by omega) (by omega) (by omega) (by omega) (by omega) (by omega)]; exact (J0_k hA).1 k j (by omega)
        have frs : FRs (wI S1 (up2 J' m 44 (nI 0))) x m A := frs_c (n' := n') hP hh n0 (by omega) (by have := bi1.1.2.2.2.1; omega) c8 hc (fun z _ _ => by rw [er]) (fun _ _ => by rw [er]) (by rw [ei]; exact p6_nc hL (p6_off hL hc pl P6.rf)) j9 (by rw [ei]; exact (fx_off hL hO hc pl).fa (fa_nc hL FA.rf)) (fun z h1 h2 => by rw [up2_row h1]; exact nz z h1 h2) (fun k hk j => qk k (by simp at hk; omega) j) (fun c' hc' _ => ⟨qk 23 (by omega) c', qk 24 (by omega) c'⟩) (by rw [mm_j (by decide), c6 43 (by decide) (by decide)]; exact (J0_k hA).2 43 (by decide)) (by rw [mm_j (by decide)]; exact c7) (by rw [tg_same (fun k j a => mm_a hA a), c9, tg0])
        refine K (wI S1 (up2 J' m 44 (nI 0))) ⟨r_exact (n' := n') hh bi1 fr hF hcl im (fun z h1 h2 => by rw [up2_row h1]; exact nz z h1 h2) (fun j => by rw [mm_a hA (by decide), c3 42 j (by decide) (by decide) (by decide) (by decide) (by decide) (by decide) (by decide) (by decide) (by decide) (by decide) (by decide) (by decide)]; exact (J0_k hA).1 42 j (by decide)) (by rw [mm_j (by decide), c6 39 (by decide) (by decide)]; exact (J0_k hA).2 39 (by decide)) ?_ ?_, frs⟩
        · rw [er, ei]
          exact NR_I hL (ca_nc hL) (NR_K os (fun k j a => mm_a hA a) (mm_j (by decide)) (mm_j (by decide)))
        · rw [tg_same (fun k j a => mm_a hA a), c9, tg0]
          exact List.filter_sublist
      · have uc : up2 (sI S1) m 0 0 (A 25) c = 0 := by
          rcases (n1.2.2.2.2.2.2.2.1 c hc).1 with z | z
          · exact z
          · rw [(J0_k hA).1 25 c (by decide)] at z
            exact absurd z hn
        have dkp : ∀ y, y < 16 → up2 (sI S1) m 0 0 (A 11) y = nI c → up2 (sI S1) m 0 0 (A 7) y = 0 := fun y hy hi => Classical.byContradiction (fun z => by
          obtain ⟨c', hc', ec', u'⟩ := n1.2.2.2.2.2.1.2.2.2.2 (y / 8) (y % 8) (by omega) (by omega) (Or.inl (by rw [show 8 * (y / 8) + y % 8 = y by omega]; exact z))
          rw [show 8 * (y / 8) + y % 8 = y by omega, hi] at ec'
          have := nI_inj (by omega) (by omega) ec'
          subst this
          exact u' uc)
        have i0 := n1.2.2.2.2.2.1.2.1 c 0 p0 hc (by decide) h0 pl24 P0
        have i1 := n1.2.2.2.2.2.1.2.1 c 1 p1 hc (by decide) h1 pl24 P1
        rw [show 8 * 0 + p0 = p0 by omega] at i0
        rw [show 8 * 1 + p1 = 8 + p1 by omega] at i1
        have d0 := dkp p0 (by omega) i0
        have d1 := dkp (8 + p1) (by omega) i1
        obtain ⟨c1, c2, c3, c4, c5, c6⟩ := up_R hA hc h0 h1 P0 P1 ((n1.1 p0 (by omega)).1.2.1.2.1 d0) ((n1.1 (8 + p1) (by omega)).1.2.1.2.1 d1)
        have E : g_X8_light_47 (up2 (sI S1) m 0 0) m A c 1 nt = up2 (f_X8_isUp (up2 (sI S1) m 0 0) m A c) m 44 (nI 0) := rfl
        rw [E] at im ⊢
        have nz : ∀ z, z ≠ m → (∀ k ∈ DM, z ≠ A k) → f_X8_isUp (up2 (sI S1) m 0 0) m A c z = sI S1 z := fun z h1 h2 => by rw [nm_X8_isUp (fun k hk => h2 k (mem_sub k hk (by decide))), up2_row h1]
        generalize f_X8_isUp (up2 (sI S1) m 0 0) m A c = J' at c1 c2 c3 c4 c5 c6 nz im ⊢
        have os := on_sim hL hc h0 h1 (on_C hL hO hc h0 h1 r0 r1) n1 P0 P1 pl24 ⟨d0, d1⟩ c1 c2 c3 c4 c5 (c6 43) (c6 32)
        have j9 : ∀ y, y < 16 → up2 J' m 44 (nI 0) (A 9) y = nI 4 → sI S1 (A 9) y = nI 4 ∧ up2 J' m 44 (nI 0) (A 12) y = sI S1 (A 12) y := fun y hy e4 => by
          rw [mm_a hA (by decide)] at e4
          rw [mm_a hA (by decide)]
          by_cases q : y = p0 ∨ y = 8 + p1
          · rw [(c1 y q).2.2.1] at e4; exact absurd e4 (by decide)
          · rw [c2 y (fun z => q (Or.inl z)) (fun z => q (Or.inr z)) 9 y (by decide) (by decide) (ow_x (by decide)), (J0_k hA).1 9 y (by decide)] at e4
            exact ⟨e4, by rw [c2 y (fun z => q (Or.inl z)) (fun z => q (Or.inr z)) 12 y (by decide) (by decide) (ow_x (by decide))]; exact (J0_k hA).1 12 y (by decide)⟩
        have qk : ∀ k ∈ KF, ∀ j, up2 J' m 44 (nI 0) (A k) j = sI S1 (A k) j := fun k hk j => by
          have q : ∀ k ∈ KF, dm k ∧ k ≠ 7 ∧ k ≠ 8 ∧ k ≠ 9 ∧ k ≠ 14 ∧ k ≠ 18 ∧ k ≠ 21 ∧ k ≠ 25 ∧ k ≠ 40 := by decide
          obtain ⟨z0, z1, z2, z3, z4, z5, z6, z7, z8⟩ := q k hk
          rw [mm_a hA z0, c3 k j z0 z1 z2 z3 z4 z5 z6 z7 z8]
          exact (J0_k hA).1 k j z0
        have frs : FRs (wI S1 (up2 J' m 44 (nI 0))) x m A := frs_a hP hh n0 (by omega) (by have := bi1.1.2.2.2.1; omega) er (by rw [ei]; exact p6_nc hL (p6_on hL hc pl P6.rf)) j9 (by rw [ei]; exact fa_nc hL (fa_on hL hc pl FA.rf)) (fun z h1 h2 => by rw [up2_row h1]; exact nz z h1 h2) qk (by rw [mm_j (by decide), c6 43]; exact (J0_k hA).2 43 (by decide)) (by rw [mm_j (by decide), c6 32]; exact (J0_k hA).2 32 (by decide))
        refine K (wI S1 (up2 J' m 44 (nI 0))) ⟨r_exact (n' := nt) hh bi1 fr hF hcl im (fun z h1 h2 => by rw [up2_row h1]; exact nz z h1 h2) (fun j => by rw [mm_a hA (by decide), c3 42 j (by decide) (by decide) (by decide) (by decide) (by decide) (by decide) (by decide) (by decide) (by decide)]; exact (J0_k hA).1 42 j (by decide)) (by rw [mm_j (by decide), c6 39]; exact (J0_k hA).2 39 (by decide)) ?_ ?_, frs⟩
        · rw [er, ei]
          exact NR_I hL (ca_nc hL) (NR_K os (fun k j a => mm_a hA a) (mm_j (by decide)) (mm_j (by decide)))
        · have : TG (up2 J' m 44 (nI 0)) A nt = TG (sI S1) A nt := by
            rw [tg_same (fun k j a => mm_a hA a), ← tg0]
            exact TG_c (fun t _ => tg_k (fun k hk => by
              have q : ∀ k ∈ ([27, 28, 29, 30, 31] : List Nat), dm k ∧ k ≠ 7 ∧ k ≠ 8 ∧ k ≠ 9 ∧ k ≠ 14 ∧ k ≠ 18 ∧ k ≠ 21 ∧ k ≠ 25 ∧ k ≠ 40 := by decide
              obtain ⟨a0, a1, a2, a3, a4, a5, a6, a7, a8⟩ := q k hk
              funext j
              exact c3 k j a0 a1 a2 a3 a4 a5 a6 a7 a8))
          rw [this]
          exact List.Sublist.refl _
theorem p_pull {Q : Option Value → MM → Prop} {S S1 : MM} {x m out i : Nat} {A : Nat → Nat} {v : Int32} (hi : i < 100000) (hP : GP S x m out A i) (hh : GH S S1 x m out A) (md : MDu S S1 x v) (K : ∀ S2, GP S2 x m out A (i + 1) → Q none S2) : wX8_pull [.ref m, .int v] S1 Q := by
  have hG := hP.1
  have hM1 := hh.2.2.2.2.2.1
  have hA := AD_of hM1
  have hL := ly_of hG
  have hO := hG.2.2.2.2.2.2.1
  obtain ⟨g1, g2, g3, g4, g5, g6, g7, nt, F, cl, bi, n0, fr, hF, hcl⟩ := id hG
  have bi1 := BI_h hh.2.2.2.2.2.2.2.1 hh.2.2.2.2.2.2.2.2 bi
  have ek := hh.2.2.2.2.2.2.2.2
  refine c_Mpull hM1 bi1.1 (fun h S2 e im => ?_) (fun c hc ec h S2 e im => ?_) (fun c hc ec hp im => ?_)
  · rcases md with ⟨er, ei, _⟩ | ⟨c, p0, p1, S', hc, ec, _⟩
    · exact K S2 (p_same hP hh er ei e im)
    · exact absurd h (by rw [ec]; exact nb8 hc)
  · rcases md with ⟨er, ei, _⟩ | ⟨c', p0, p1, S', hc', ec', r0, r1, _, tk, _⟩
    · exact K S2 (p_same hP hh er ei e im)
    · have := nI_inj (by omega) (by omega) (ec.symm.trans ec')
      subst this
      rw [ek 24 (by decide)] at h
      obtain ⟨_, q0, q1, _, _, _, _, _, _, z⟩ := fo_tk hG hc r0 r1 tk
      exact absurd h z
  · rcases md with ⟨er, ei, q | ⟨c', hc', ec', q⟩⟩ | ⟨c', p0, p1, S', hc', ec', r0, r1, t', tk, er, ei⟩
    · exact absurd q (by rw [ec]; exact nb8 hc)
    · have := nI_inj (by omega) (by omega) (ec.symm.trans ec')
      subst this
      rw [ek 24 (by decide)] at hp
      rcases pls n0 hc with ⟨_, z⟩ | ⟨z, _⟩
      · exact absurd z hp
      · exact absurd z q
    · have := nI_inj (by omega) (by omega) (ec.symm.trans ec')
      subst this
      have s27 : ∀ t, ∃ k, k < 8 ∧ up2 (sI S1) m 0 0 (A 27) t = nI k := fun t => by rw [(J0_k hA).1 27 t (by decide)]; exact bi1.1.1.1 27 8 rfl t
      have s28 : ∀ t, ∃ k, k < 2 ∧ up2 (sI S1) m 0 0 (A 28) t = nI k := fun t => by rw [(J0_k hA).1 28 t (by decide)]; exact bi1.1.1.1 28 2 rfl t
      have n1 := NR_K (NR_h hh n0) (J0_k (J := sI S1) hA).1 ((J0_k (J := sI S1) hA).2 43 (by decide)) ((J0_k (J := sI S1) hA).2 32 (by decide))
      have tg0 : ∀ n, TG (up2 (sI S1) m 0 0) A n = TG (sI S1) A n := fun n => tg_same (J0_k hA).1
      obtain ⟨_, q0, q1, h0, h1, e0, e1, P0, P1, p24⟩ := fo_tk hG hc r0 r1 tk
      subst e0 e1
      have P0' : up2 (sI S1) m 0 0 (A 22) (2 * c + 0) = nI q0 := by rw [(J0_k hA).1 22 _ (by decide), ek 22 (by decide)]; exact P0
      have P1' : up2 (sI S1) m 0 0 (A 22) (2 * c + 1) = nI q1 := by rw [(J0_k hA).1 22 _ (by decide), ek 22 (by decide)]; exact P1
      have p24' : up2 (sI S1) m 0 0 (A 24) c ≠ 0 := by rw [(J0_k hA).1 24 _ (by decide), ek 24 (by decide)]; exact p24
      obtain ⟨J1, n', cut, a1, a2, a3, a4⟩ := pul_R hA n1 s27 s28 hc h0 h1 P0' P1' p24'
      have E : g_X8_pull_37 (up2 (sI S1) m 0 0) m A c nt = up2 (f_X8_isPulled (up2 (sI S1) m 0 0) m A c nt) m 44 (nI 0) := rfl
      rw [E] at im ⊢
      have nz : ∀ z, z ≠ m → (∀ k ∈ DM, z ≠ A k) → f_X8_isPulled (up2 (sI S1) m 0 0) m A c nt z = sI S1 z := fun z h1 h2 => by rw [nm_X8_isPulled (fun k hk => h2 k (mem_sub k hk (by decide))) h1, up2_row h1]
      generalize f_X8_isPulled (up2 (sI S1) m 0 0) m A c nt = J2 at a1 a2 a3 a4 nz im ⊢
      have ts := tk_sim hL hO hc h0 h1 tk r0 r1 n1 P0' P1' p24' cut a1 a2 a3 (a4 43) (a4 32)
      have tgE : TG (up2 J2 m 44 (nI 0)) A n' = TG J1 A n' := by
        rw [tg_same (fun k j a => mm_a hA a)]
        exact TG_c (fun t _ => tg_k (fun k hk => by
          have q : ∀ k ∈ ([27, 28, 29, 30, 31] : List Nat), dm k ∧ k ≠ 11 ∧ k ≠ 24 := by decide
          funext j
          exact a3 k j (q k hk).1 (q k hk).2.1 (q k hk).2.2))
      have c42 : ∀ j, J1 (A 42) j = up2 (sI S1) m 0 0 (A 42) j := fun j => cut.2.2.1 42 j (by decide) (by decide) (by decide) (by decide) (by decide) (by decide) (by decide) (by decide) (by decide) (by decide) (by decide) (by decide)
      have hLe : LYE (sR S) (sR S') x := lye hL (Or.inl ⟨(ly_pp hL hc).2.1, (ly_pp hL hc).2.2⟩) (fun z _ hz => tk.2.2.2.1 z hz)
      have pl : plg (sR S) x c := ⟨by rw [r0]; simp, by rw [r1]; simp⟩
      have fx : FAx S x c (sI S) (sI S1) := by
        rw [ei, tk.2.2.2.2.2.1]
        have f1 := (fx_off (I := sI S) hL hO hc pl).fa ((FA.rf.w (k := 2) (v := -1) hL (k_px hL (show q0 < 16 by omega)) (by omega)).w (k := 2) (v := -1) hL (k_px hL (show 8 + q1 < 16 by omega)) (by omega))
        have tyS' : LY S' x := ⟨t', by rw [tk.1]; exact hL.2⟩
        exact f1.fa (FA_S tk.1 tk.2.1 hLe (fa_nc tyS' FA.rf))
      have p6 : P6 S (sI S) (sI S1) := by
        rw [ei, tk.2.2.2.2.2.1]
        have f1 : P6 S (sI S) _ := ((p6_off (I0 := sI S) (I := sI S) hL hc pl P6.rf).w (k := 2) (v := -1) (k_px hL (show q0 < 16 by omega)) (Or.inr (by decide))).w (k := 2) (v := -1) (k_px hL (show 8 + q1 < 16 by omega)) (Or.inr (by decide))
        have tyS' : LY S' x := ⟨t', by rw [tk.1]; exact hL.2⟩
        exact f1.tr (fun z hz => p6_nc tyS' P6.rf z (by rw [tk.1]; exact hz))
      have j9 : ∀ y, y < 16 → up2 J2 m 44 (nI 0) (A 9) y = nI 4 → sI S1 (A 9) y = nI 4 ∧ up2 J2 m 44 (nI 0) (A 12) y = sI S1 (A 12) y := fun y hy e4 => by
        rw [mm_a hA (by decide), a3 9 y (by decide) (by decide) (by decide)] at e4
        rw [mm_a hA (by decide), a3 12 y (by decide) (by decide) (by decide)]
        by_cases q : y = q0 ∨ y = 8 + q1
        · rw [(cut.1 y q).2.2.1] at e4; exact absurd e4 (by decide)
        · rw [cut.2.1 y (fun z => q (Or.inl z)) (fun z => q (Or.inr z)) 9 y (by decide) (by decide) (ow_x (by decide)), (J0_k hA).1 9 y (by decide)] at e4
          exact ⟨e4, by rw [cut.2.1 y (fun z => q (Or.inl z)) (fun z => q (Or.inr z)) 12 y (by decide) (by decide) (ow_x (by decide))]; exact (J0_k hA).1 12 y (by decide)⟩
      have qk : ∀ k, (k = 23 ∨ k = 34 ∨ k = 35 ∨ k = 36 ∨ k = 37 ∨ k = 41 ∨ k = 42) → ∀ j, up2 J2 m 44 (nI 0) (A k) j = sI S1 (A k) j := fun k hk j => by rw [mm_a hA (by omega), a3 k j (by omega) (by omega) (by omega), cut.2.2.1 k j (by omega) (by omega) (by omega) (by omega) (by omega) (by omega) (by omega) (by omega) (by omega) (by omega) (by omega) (by omega)]; exact (J0_k hA).1 k j (by omega)
      have frs : FRs (wI S1 (up2 J2 m 44 (nI 0))) x m A := frs_c (n' := n') hP hh n0 (by omega) (by have := bi1.1.2.2.2.1; omega) cut.2.2.2.2.2.2.2.1 hc (fun z _ h17 => by rw [er]; exact tk.2.2.2.1 z (fun y => h17 (by rw [y]; exact (ly_pp hL hc).2.1))) (fun y hy => by rw [er]; exact hLe.P (y / 8) (y % 8) (by omega) (by omega)) p6 j9 fx (fun z h1 h2 => by rw [up2_row h1]; exact nz z h1 h2) (fun k hk j => qk k (by simp at hk; omega) j) (fun c' hc' n => ⟨qk 23 (by omega) c', by rw [mm_a hA (by decide), a2, if_neg n, cut.2.2.1 24 c' (by decide) (by decide) (by decide) (by decide) (by decide) (by decide) (by decide) (by decide) (by decide) (by decide) (by decide) (by decide)]; exact (J0_k hA).1 24 c' (by decide)⟩) (by rw [mm_j (by decide), a4 43, cut.2.2.2.2.2.1 43 (by decide) (by decide)]; exact (J0_k hA).2 43 (by decide)) (by rw [mm_j (by decide), a4 32]; exact cut.2.2.2.2.2.2.1) (by rw [tgE, cut.2.2.2.2.2.2.2.2, tg0])
      refine K (wI S1 (up2 J2 m 44 (nI 0))) ⟨r_exact (n' := n') hh bi1 fr hF hcl im (fun z h1 h2 => by rw [up2_row h1]; exact nz z h1 h2) (fun j => by rw [mm_a hA (by decide), a3 42 j (by decide) (by decide) (by decide), c42]; exact (J0_k hA).1 42 j (by decide)) (by rw [mm_j (by decide), a4 39, cut.2.2.2.2.2.1 39 (by decide) (by decide)]; exact (J0_k hA).2 39 (by decide)) ?_ (by rw [tgE, ← tg0]; exact cut_tg cut), frs⟩
      rw [er, ei]
      have tyS' : LY S' x := ⟨t', by rw [tk.1]; exact hL.2⟩
      exact NR_I tyS' (ca_nc tyS') (NR_K ts (fun k j a => mm_a hA a) (mm_j (by decide)) (mm_j (by decide)))
