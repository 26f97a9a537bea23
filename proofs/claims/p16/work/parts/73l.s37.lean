/-! SIMULATION 37: light, pull: the two halves -/
theorem pls {R : Nat → Nat → Option Nat} {b m cl nt c : Nat} {A : Nat → Nat} {I J : Mm} (h : NRl R b m A I J cl nt) (hc : c < 8) : (¬ plg R b c ∧ J (A 24) c = 0) ∨ (plg R b c ∧ J (A 24) c ≠ 0 ∧ ∃ p0 p1, p0 < 8 ∧ p1 < 8 ∧ J (A 22) (2 * c + 0) = nI p0 ∧ J (A 22) (2 * c + 1) = nI p1 ∧ R (ppd R b c) 0 = some (Pt R b 0 p0) ∧ R (ppd R b c) 1 = some (Pt R b 1 p1)) := by
  rcases h.2.2.2.2.2.2.1.2.2 c hc with ⟨z, r0, r1⟩ | ⟨z, p0, p1, a1, a2, a3, a4, a5, a6⟩
  · have r0 : R (ppd R b c) 0 = none := r0
    exact Or.inl ⟨fun p => p.1 r0, z⟩
  · have a5 : R (ppd R b c) 0 = some (Pt R b 0 p0) := a5
    have a6 : R (ppd R b c) 1 = some (Pt R b 1 p1) := a6
    exact Or.inr ⟨⟨by rw [a5]; simp, by rw [a6]; simp⟩, z, p0, p1, a1, a2, a3, a4, a5, a6⟩
theorem r_exact {S S1 : MM} {x m out i nt n' F cl : Nat} {A : Nat → Nat} {F' : Mm} (hh : GH S S1 x m out A) (bi1 : BI S1 m A nt F cl) (fr : FRj (sI S) A nt F) (hF : F ≤ i) (hcl : cl ≤ 1000 * i) (im' : IM (wI S1 F') m A) (fz : ∀ z, z ≠ m → (∀ k ∈ DM, z ≠ A k) → F' z = sI S1 z) (a42 : ∀ j, F' (A 42) j = sI S1 (A 42) j) (m39 : F' m 39 = sI S1 m 39) (nr : NRl (sR S1) x m A (sI S1) F' cl n') (sub : (TG F' A n').Sublist (TG (sI S1) A nt)) : GN (wI S1 F') x m out A (i + 1) := by
  have fr1 : FRj (sI S1) A nt F := fun t ht => by rw [hh.2.2.2.2.2.2.2.2 30 (by decide)]; exact fr t ht
  exact FIN (S2 := wI S1 F') hh rfl rfl rfl fz nr (BI_sub bi1 im' nr sub a42 m39) (FR_sub fr1 sub) (by omega) (by omega)
/-- the reference's cells with thrown = 0 -/
theorem J0_k {J : Mm} {m : Nat} {A : Nat → Nat} (hA : AD m A) : (∀ k j, dm k → up2 J m 0 0 (A k) j = J (A k) j) ∧ ∀ j, j ≠ 0 → up2 J m 0 0 m j = J m j := ⟨fun k j a => mm_a hA a, fun j hj => mm_j hj⟩
theorem tg_same {J J' : Mm} {A : Nat → Nat} {n : Nat} (h : ∀ k j, dm k → J' (A k) j = J (A k) j) : TG J' A n = TG J A n := TG_c (fun t _ => tg_k (fun k hk => funext (fun j => h k j ((show ∀ k ∈ ([27, 28, 29, 30, 31] : List Nat), dm k by decide) k hk))))
def MDg (S S1 : MM) (x u : Nat) (v : Int32) : Prop := (sR S1 = sR S ∧ sI S1 = sI S ∧ (b8 v ∨ ∃ c, c < 8 ∧ v = nI c ∧ (¬ plg (sR S) x c ∨ sI S (Cb (sR S) x c) 3 = nI u))) ∨ ∃ c, c < 8 ∧ v = nI c ∧ plg (sR S) x c ∧ ¬ sI S (Cb (sR S) x c) 3 = nI u ∧ sR S1 = sR S ∧ sI S1 = g_X7_light_49 (sI S) (sR S) x u c
theorem k_light {Q : Option Value → MM → Prop} {S : MM} {x m out i u : Nat} {A : Nat → Nat} {v : Int32} (hu : u < 2) (hG : GN S x m out A i) (K : ∀ r S1, GH S S1 x m out A → MDg S S1 x u v → Q (some (.int r)) S1) : wL_light [.ref x, .int v, .int (nI u)] S Q := by
  have hL := ly_of hG
  have hO := hG.2.2.2.2.2.2.1
  obtain ⟨_, _, _, _, _, _, _, nt, F, cl, bi, n0, fr, hF, hc⟩ := id hG
  refine Exists.intro 3 (And.intro hL.2 (And.intro ⟨by decide, by decide⟩ (c_light hu hL hG.2.1 (fun h q => ?_) (fun c hc ec h q => ?_) (fun c hc ec pl h ir => ?_))))
  · rw [hd2_1]; exact K _ S (GH_0 hG) (Or.inl ⟨rfl, rfl, Or.inl h⟩)
  · rw [hd2_2]; exact K _ S (GH_0 hG) (Or.inl ⟨rfl, rfl, Or.inr ⟨c, hc, ec, h⟩⟩)
  · refine K _ _ (GH_w hG ir ?_) (Or.inr ⟨c, hc, ec, pl, h, rfl, rfl⟩)
    rcases pls n0 hc with ⟨z, _⟩ | ⟨_, _, p0, p1, h0, h1, P0, P1, r0, r1⟩
    · exact absurd pl z
    · unfold g_X7_light_49
      dsimp only
      split
      · exact (off_C hL hO hc h0 h1 r0 r1).2.2.2.2.2.2.tr (fo_nc hL)
      · exact (on_C hL hO hc h0 h1 r0 r1).2.2.2.2.2.tr (fo_nc hL)
theorem r_light {Q : Option Value → MM → Prop} {S S1 : MM} {x m out i u : Nat} {A : Nat → Nat} {v : Int32} (hu : u < 2) (hG : GN S x m out A i) (hh : GH S S1 x m out A) (md : MDg S S1 x u v) (K : ∀ S2, GN S2 x m out A (i + 1) → Q none S2) : wX8_light [.ref m, .int v, .int (nI u)] S1 Q := by
  have hM1 := hh.2.2.2.2.2.1
  have hA := AD_of hM1
  have hL := ly_of hG
  have hO := hG.2.2.2.2.2.2.1
  obtain ⟨g1, g2, g3, g4, g5, g6, g7, nt, F, cl, bi, n0, fr, hF, hcl⟩ := id hG
  have bi1 := BI_h hh.2.2.2.2.2.2.2.1 hh.2.2.2.2.2.2.2.2 bi
  have ek := hh.2.2.2.2.2.2.2.2
  have up3 : ∀ c, c < 8 → sI S (Cb (sR S) x c) 3 = sI S (A 25) c := fun c hc => n0.2.2.2.2.2.2.1.1 c hc
  refine c_Mlight hu hM1 bi1.1 (fun h S2 e im => ?_) (fun c hc ec h S2 e im => ?_) (fun c hc ec hp hn im => ?_)
  · rcases md with ⟨er, ei, _⟩ | ⟨c, hc, ec, _⟩
    · exact K S2 (r_same hG hh er (ca_e ei) e im)
    · exact absurd h (by rw [ec]; exact nb8 hc)
  · rcases md with ⟨er, ei, _⟩ | ⟨c', hc', ec', pl, nu, _⟩
    · exact K S2 (r_same hG hh er (ca_e ei) e im)
    · have := nI_inj (by omega) (by omega) (ec.symm.trans ec')
      subst this
      rw [ek 24 (by decide), ek 25 (by decide)] at h
      rcases h with h | h
      · rcases pls n0 hc with ⟨z, _⟩ | ⟨_, z, _⟩
        · exact absurd pl z
        · exact absurd h z
      · exact absurd ((up3 c hc).trans h) nu
  · rcases md with ⟨er, ei, q | ⟨c', hc', ec', q⟩⟩ | ⟨c', hc', ec', pl, nu, er, ei⟩
    · exact absurd q (by rw [ec]; exact nb8 hc)
    · have := nI_inj (by omega) (by omega) (ec.symm.trans ec')
      subst this
      rw [ek 24 (by decide)] at hp
      rw [ek 25 (by decide)] at hn
      rcases q with q | q
      · rcases pls n0 hc with ⟨_, z⟩ | ⟨z, _⟩
        · exact absurd z hp
        · exact absurd z q
      · exact absurd ((up3 c hc).symm.trans q) hn
    · have := nI_inj (by omega) (by omega) (ec.symm.trans ec')
      subst this
      have s27 : ∀ t, ∃ k, k < 8 ∧ up2 (sI S1) m 0 0 (A 27) t = nI k := fun t => by rw [(J0_k hA).1 27 t (by decide)]; exact bi1.1.1.1 27 8 rfl t
      have s28 : ∀ t, ∃ k, k < 2 ∧ up2 (sI S1) m 0 0 (A 28) t = nI k := fun t => by rw [(J0_k hA).1 28 t (by decide)]; exact bi1.1.1.1 28 2 rfl t
      have n1 := NR_K (NR_h hh n0) (J0_k (J := sI S1) hA).1 ((J0_k (J := sI S1) hA).2 43 (by decide)) ((J0_k (J := sI S1) hA).2 32 (by decide))
      have tg0 : ∀ n, TG (up2 (sI S1) m 0 0) A n = TG (sI S1) A n := fun n => tg_same (J0_k hA).1
      rcases pls n1 hc with ⟨z, _⟩ | ⟨_, pl24, p0, p1, h0, h1, P0, P1, r0, r1⟩
      · exact absurd pl z
      have hu2 : u = 0 ∨ u = 1 := by omega
      rcases hu2 with rfl | rfl
      · obtain ⟨n', c1, c2, c3, c4, c5, c6, c7, c8, c9⟩ := cut_R (nt := nt) hA hc h0 h1 s27 s28 P0 P1
        have E : g_X8_light_47 (up2 (sI S1) m 0 0) m A c 0 nt = up2 (f_X8_isCut (up2 (sI S1) m 0 0) m A c nt) m 44 (nI 0) := rfl
        rw [E] at im ⊢
        have nz : ∀ z, z ≠ m → (∀ k ∈ DM, z ≠ A k) → f_X8_isCut (up2 (sI S1) m 0 0) m A c nt z = sI S1 z := fun z h1 h2 => by rw [nm_X8_isCut (fun k hk => h2 k (mem_sub k hk (by decide))) h1, up2_row h1]
        generalize f_X8_isCut (up2 (sI S1) m 0 0) m A c nt = J' at c1 c2 c3 c4 c5 c6 c7 c9 nz im ⊢
        have os := off_sim hL hc h0 h1 (off_C hL hO hc h0 h1 r0 r1) n1 P0 P1 pl24 c1 c2 c3 c4 c5 (c6 43 (by decide) (by decide)) c7 c9
        refine K (wI S1 (up2 J' m 44 (nI 0))) (r_exact (n' := n') hh bi1 fr hF hcl im (fun z h1 h2 => by rw [up2_row h1]; exact nz z h1 h2) (fun j => by rw [mm_a hA (by decide), c3 42 j (by decide) (by decide) (by decide) (by decide) (by decide) (by decide) (by decide) (by decide) (by decide) (by decide) (by decide) (by decide)]; exact (J0_k hA).1 42 j (by decide)) (by rw [mm_j (by decide), c6 39 (by decide) (by decide)]; exact (J0_k hA).2 39 (by decide)) ?_ ?_)
        · rw [er, ei]
          exact NR_I hL (ca_nc hL) (NR_K os (fun k j a => mm_a hA a) (mm_j (by decide)) (mm_j (by decide)))
        · rw [tg_same (fun k j a => mm_a hA a), c9, tg0]
          exact List.filter_sublist
      · have uc : up2 (sI S1) m 0 0 (A 25) c = 0 := by
          rcases (n1.2.2.2.2.2.2.2.1 c hc).1 with z | z
          · exact z
          · rw [(J0_k hA).1 25 c (by decide)] at z
            exact absurd z hn
        have dkp : ∀ y, y < 16 → up2 (sI S1) m 0 0 (A 11) y = nI c → up2 (sI S1) m 0 0 (A 7) y = 0 := fun y hy hi => Classical.byContradiction (fun z => by
          obtain ⟨c', hc', ec', u'⟩ := n1.2.2.2.2.2.1.2.2.2.2 (y / 8) (y % 8) (by omega) (by omega) (Or.inl (by rw [show 8 * (y / 8) + y % 8 = y by omega]; exact z))
          rw [show 8 * (y / 8) + y % 8 = y by omega, hi] at ec'
          have := nI_inj (by omega) (by omega) ec'
          subst this
          exact u' uc)
        have i0 := n1.2.2.2.2.2.1.2.1 c 0 p0 hc (by decide) h0 pl24 P0
        have i1 := n1.2.2.2.2.2.1.2.1 c 1 p1 hc (by decide) h1 pl24 P1
        rw [show 8 * 0 + p0 = p0 by omega] at i0
        rw [show 8 * 1 + p1 = 8 + p1 by omega] at i1
        have d0 := dkp p0 (by omega) i0
        have d1 := dkp (8 + p1) (by omega) i1
        obtain ⟨c1, c2, c3, c4, c5, c6⟩ := up_R hA hc h0 h1 P0 P1 ((n1.1 p0 (by omega)).1.2.1.2.1 d0) ((n1.1 (8 + p1) (by omega)).1.2.1.2.1 d1)
        have E : g_X8_light_47 (up2 (sI S1) m 0 0) m A c 1 nt = up2 (f_X8_isUp (up2 (sI S1) m 0 0) m A c) m 44 (nI 0) := rfl
        rw [E] at im ⊢
        have nz : ∀ z, z ≠ m → (∀ k ∈ DM, z ≠ A k) → f_X8_isUp (up2 (sI S1) m 0 0) m A c z = sI S1 z := fun z h1 h2 => by rw [nm_X8_isUp (fun k hk => h2 k (mem_sub k hk (by decide))), up2_row h1]
        generalize f_X8_isUp (up2 (sI S1) m 0 0) m A c = J' at c1 c2 c3 c4 c5 c6 nz im ⊢
        have os := on_sim hL hc h0 h1 (on_C hL hO hc h0 h1 r0 r1) n1 P0 P1 pl24 ⟨d0, d1⟩ c1 c2 c3 c4 c5 (c6 43) (c6 32)
        refine K (wI S1 (up2 J' m 44 (nI 0))) (r_exact (n' := nt) hh bi1 fr hF hcl im (fun z h1 h2 => by rw [up2_row h1]; exact nz z h1 h2) (fun j => by rw [mm_a hA (by decide), c3 42 j (by decide) (by decide) (by decide) (by decide) (by decide) (by decide) (by decide) (by decide) (by decide)]; exact (J0_k hA).1 42 j (by decide)) (by rw [mm_j (by decide), c6 39]; exact (J0_k hA).2 39 (by decide)) ?_ ?_)
        · rw [er, ei]
          exact NR_I hL (ca_nc hL) (NR_K os (fun k j a => mm_a hA a) (mm_j (by decide)) (mm_j (by decide)))
        · have : TG (up2 J' m 44 (nI 0)) A nt = TG (sI S1) A nt := by
            rw [tg_same (fun k j a => mm_a hA a), ← tg0]
            exact TG_c (fun t _ => tg_k (fun k hk => by
              have q : ∀ k ∈ ([27, 28, 29, 30, 31] : List Nat), dm k ∧ k ≠ 7 ∧ k ≠ 8 ∧ k ≠ 9 ∧ k ≠ 14 ∧ k ≠ 18 ∧ k ≠ 21 ∧ k ≠ 25 ∧ k ≠ 40 := by decide
              obtain ⟨a0, a1, a2, a3, a4, a5, a6, a7, a8⟩ := q k hk
              funext j
              exact c3 k j a0 a1 a2 a3 a4 a5 a6 a7 a8))
          rw [this]
          exact List.Sublist.refl _
/-! pull -/
theorem OC_pp {S S' : MM} {pp : Nat} (h : OC S) (k : sK S' = sK S) (n : sN S' = sN S) (kp : sK S pp = 17) (np : sN S pp = 2) (r : ∀ z, z ≠ pp → sR S' z = sR S z) (rp : ∀ j b, sR S' pp j = some b → sK S b ≠ 0) : OC S' := by
  have e : ∀ a, rc S' a = rc S a := fun a => by unfold rc; rw [k, n]
  have q : rc S pp = 117 := rc_17 kp np
  refine ⟨fun a a' j j' b h1 h2 h3 h4 h5 h6 => ?_, fun a j b h1 h2 => ?_⟩
  · rw [e] at h3 h4
    rw [k] at h1 h2
    rw [r a (fun z => h3 (by rw [z]; exact q))] at h5
    rw [r a' (fun z => h4 (by rw [z]; exact q))] at h6
    exact h.1 a a' j j' b h1 h2 h3 h4 h5 h6
  · rw [k] at h1 ⊢
    by_cases z : a = pp
    · subst z; exact rp j b h2
    · rw [r a z] at h2; exact h.2 a j b h1 h2
theorem MS_pp {S S' : MM} {m pp : Nat} {A : Nat → Nat} (h : MS S m A) (k : sK S' = sK S) (n : sN S' = sN S) (kp : sK S pp = 17) (r : ∀ z, z ≠ pp → sR S' z = sR S z) : MS S' m A := by
  unfold MS
  rw [k, n, r m (ne_k h.1 kp (by decide))]
  exact h
def MDu (S S1 : MM) (x : Nat) (v : Int32) : Prop := (sR S1 = sR S ∧ sI S1 = sI S ∧ (b8 v ∨ ∃ c, c < 8 ∧ v = nI c ∧ ¬ plg (sR S) x c)) ∨ ∃ c p0 p1 S', c < 8 ∧ v = nI c ∧ sR S (ppd (sR S) x c) 0 = some p0 ∧ sR S (ppd (sR S) x c) 1 = some p1 ∧ TY S' ∧ TKO S S' x c p0 p1 ∧ sR S1 = sR S' ∧ sI S1 = f_X7_noteChange (sI S') (sR S') x
theorem fo_tk {S S' : MM} {x m out i c p0 p1 : Nat} {A : Nat → Nat} (hG : GN S x m out A i) (hc : c < 8) (r0 : sR S (ppd (sR S) x c) 0 = some p0) (r1 : sR S (ppd (sR S) x c) 1 = some p1) (tk : TKO S S' x c p0 p1) : FO S (sI S) (sI S') ∧ ∃ q0 q1, q0 < 8 ∧ q1 < 8 ∧ p0 = px (sR S) x q0 ∧ p1 = px (sR S) x (8 + q1) ∧ sI S (A 22) (2 * c + 0) = nI q0 ∧ sI S (A 22) (2 * c + 1) = nI q1 ∧ sI S (A 24) c ≠ 0 := by
  have hL := ly_of hG
  have hO := hG.2.2.2.2.2.2.1
  obtain ⟨_, _, _, _, _, _, _, nt, F, cl, bi, n0, fr, hF, hcl⟩ := id hG
  rcases pls n0 hc with ⟨z, _⟩ | ⟨_, pl24, q0, q1, h0, h1, P0, P1, s0, s1⟩
  · exact absurd ⟨by rw [r0]; simp, by rw [r1]; simp⟩ z
  · have e0 : p0 = px (sR S) x q0 := by
      have := Option.some.inj (r0.symm.trans s0)
      rw [this]
      show _ = Pt (sR S) x (q0 / 8) (q0 % 8)
      rw [show q0 / 8 = 0 by omega, show q0 % 8 = q0 by omega]
    have e1 : p1 = px (sR S) x (8 + q1) := by
      have := Option.some.inj (r1.symm.trans s1)
      rw [this]
      show _ = Pt (sR S) x ((8 + q1) / 8) ((8 + q1) % 8)
      rw [show (8 + q1) / 8 = 1 by omega, show (8 + q1) % 8 = q1 by omega]
    refine ⟨?_, q0, q1, h0, h1, e0, e1, P0, P1, pl24⟩
    rw [tk.2.2.2.2.2.1]
    have k0 : sK S p0 = 6 := by rw [e0]; exact k_px hL (by omega)
    have k1 : sK S p1 = 6 := by rw [e1]; exact k_px hL (by omega)
    exact FO.w (FO.w (off_C hL hO hc h0 h1 s0 s1).2.2.2.2.2.2 k0 (by decide) rfl) k1 (by decide) rfl
theorem GH_tk {S S' : MM} {x m out i c p0 p1 : Nat} {A : Nat → Nat} (hG : GN S x m out A i) (hc : c < 8) (r0 : sR S (ppd (sR S) x c) 0 = some p0) (r1 : sR S (ppd (sR S) x c) 1 = some p1) (tk : TKO S S' x c p0 p1) (t : TY S') {F : Mm} (ir : IR (wI S' F)) (fo : FO S (sI S') F) : GH S (wI S' F) x m out A := by
  have hL := ly_of hG
  obtain ⟨h1, h2, h3, h4, h5, h6, h7, h8⟩ := id hG
  obtain ⟨k, n, _, r, ⟨z0, z1⟩, _, rj⟩ := id tk
  have kp := (ly_pp hL hc).2.1
  have np := (ly_pp hL hc).2.2
  have f := ((fo_tk hG hc r0 r1 tk).1).tr fo
  refine ⟨t, ir, by show sK S' x = 8; rw [k]; exact h3, by show sK S' out = 18; rw [k]; exact h4, by show sN S' out = 1; rw [n]; exact h5, MS_pp h6 k n kp r, OC_pp h7 k n kp np r (fun j b hb => ?_), f m (fo_m h6), fun q hq => f (A q) (fo_A h6 hq)⟩
  have hb : sR S' (ppd (sR S) x c) j = some b := hb
  by_cases q0 : j = 0
  · rw [q0, z0] at hb; cases hb
  · by_cases q1 : j = 1
    · rw [q1, z1] at hb; cases hb
    · rw [rj j q0 q1] at hb
      exact h7.2 _ j b (by rw [kp]; rfl) hb
theorem k_pull {Q : Option Value → MM → Prop} {S : MM} {x m out i : Nat} {A : Nat → Nat} {v : Int32} (hG : GN S x m out A i) (K : ∀ r S1, GH S S1 x m out A → MDu S S1 x v → Q (some (.int r)) S1) : wL_pull [.ref x, .int v] S Q := by
  have hL := ly_of hG
  refine Exists.intro 3 (And.intro hL.2 (And.intro ⟨by decide, by decide⟩ (c_pull hL hG.2.1 (fun h q => ?_) (fun c hc ec h q => ?_) (fun c p0 p1 S' hc ec r0 r1 t tk ir => ?_))))
  · rw [hd2_1]; exact K _ S (GH_0 hG) (Or.inl ⟨rfl, rfl, Or.inl h⟩)
  · rw [hd2_2]; exact K _ S (GH_0 hG) (Or.inl ⟨rfl, rfl, Or.inr ⟨c, hc, ec, h⟩⟩)
  · have hL' : LY S' x := LY_ne hL tk.1 t
    have f := fo_nc (I := sI S') hL'
    have fS : FO S (sI S') (f_X7_noteChange (sI S') (sR S') x) := fun z hz => f z (by rw [wk_eq (S := S) tk.1 tk.2.1]; exact hz)
    exact K _ _ (GH_tk hG hc r0 r1 tk t ir fS) (Or.inr ⟨c, p0, p1, S', hc, ec, r0, r1, t, tk, rfl, rfl⟩)
/-- the class has taken a cable out; the reference, with thrown = 0, goes on from J -/
theorem tk_sim {S S' : MM} {x m cl nt n' c q0 q1 : Nat} {A : Nat → Nat} {J J1 J2 : Mm} (hL : LY S x) (hO : OC S) (hc : c < 8) (h0 : q0 < 8) (h1 : q1 < 8) (tk : TKO S S' x c (px (sR S) x q0) (px (sR S) x (8 + q1))) (s0 : sR S (ppd (sR S) x c) 0 = some (px (sR S) x q0)) (s1 : sR S (ppd (sR S) x c) 1 = some (px (sR S) x (8 + q1))) (n1 : NRl (sR S) x m A (sI S) J cl nt) (P0 : J (A 22) (2 * c + 0) = nI q0) (P1 : J (A 22) (2 * c + 1) = nI q1) (pl24 : J (A 24) c ≠ 0) (cut : CUT J J1 m nt n' c q0 q1 A) (j11 : ∀ j, J2 (A 11) j = if j = q0 ∨ j = 8 + q1 then -1 else J1 (A 11) j) (j24 : ∀ j, J2 (A 24) j = if j = c then nI 0 else J1 (A 24) j) (jk : ∀ k j, dm k → k ≠ 11 → k ≠ 24 → J2 (A k) j = J1 (A k) j) (m43 : J2 m 43 = J1 m 43) (m32 : J2 m 32 = J1 m 32) : NRl (sR S') x m A (sI S') J2 cl n' := by
  have e0 : Pt (sR S) x 0 q0 = px (sR S) x q0 := by
    show _ = Pt (sR S) x (q0 / 8) (q0 % 8)
    rw [show q0 / 8 = 0 by omega, show q0 % 8 = q0 by omega]
  have e1 : Pt (sR S) x 1 q1 = px (sR S) x (8 + q1) := by
    show _ = Pt (sR S) x ((8 + q1) / 8) ((8 + q1) % 8)
    rw [show (8 + q1) / 8 = 1 by omega, show (8 + q1) % 8 = q1 by omega]
  obtain ⟨k, n, _, r, rc, ei, rj⟩ := id tk
  obtain ⟨c1, c2, c3, c4, c5, c6, c7, c8, c9⟩ := id cut
  have os := off_sim hL hc h0 h1 (off_C hL hO hc h0 h1 (by rw [e0]; exact s0) (by rw [e1]; exact s1)) n1 P0 P1 pl24 c1 c2 c3 c4 c5 (c6 43 (by decide) (by decide)) c7 c9
  have le : LYE (sR S) (sR S') x := lye hL (Or.inl ⟨(ly_pp hL hc).2.1, (ly_pp hL hc).2.2⟩) (fun z _ hz => r z hz)
  have j22 : ∀ j, J1 (A 22) j = J (A 22) j := fun j => c3 22 j (by decide) (by decide) (by decide) (by decide) (by decide) (by decide) (by decide) (by decide) (by decide) (by decide) (by decide) (by decide)
  have j24' : J1 (A 24) c = J (A 24) c := c3 24 c (by decide) (by decide) (by decide) (by decide) (by decide) (by decide) (by decide) (by decide) (by decide) (by decide) (by decide) (by decide)
  rw [ei]
  exact unp_sim hL hO hc h0 h1 le (fun d hd ne => r _ (fun z => ne (pp_i hL hO hd hc z))) rc os (by rw [j22]; exact P0) (by rw [j22]; exact P1) (by rw [j24']; exact pl24) c5 j11 j24 jk m43 m32
/-- where the cable is down nothing is cut -/
theorem cut_0 {R : Nat → Nat → Option Nat} {b m cl nt c q0 q1 : Nat} {A : Nat → Nat} {I J : Mm} (n1 : NRl R b m A I J cl nt) (hc : c < 8) (h0 : q0 < 8) (h1 : q1 < 8) (P0 : J (A 22) (2 * c + 0) = nI q0) (P1 : J (A 22) (2 * c + 1) = nI q1) (pl24 : J (A 24) c ≠ 0) (uc : J (A 25) c = 0) : CUT J J m nt nt c q0 q1 A := by
  have dkp : ∀ y, y < 16 → J (A 11) y = nI c → J (A 7) y = 0 := fun y hy hi => Classical.byContradiction (fun z => by
    obtain ⟨c', hc', ec', u'⟩ := n1.2.2.2.2.2.1.2.2.2.2 (y / 8) (y % 8) (by omega) (by omega) (Or.inl (by rw [show 8 * (y / 8) + y % 8 = y by omega]; exact z))
    rw [show 8 * (y / 8) + y % 8 = y by omega, hi] at ec'
    have := nI_inj (by omega) (by omega) ec'
    subst this
    exact u' uc)
  have i0 := n1.2.2.2.2.2.1.2.1 c 0 q0 hc (by decide) h0 pl24 P0
  have i1 := n1.2.2.2.2.2.1.2.1 c 1 q1 hc (by decide) h1 pl24 P1
  rw [show 8 * 0 + q0 = q0 by omega] at i0
  rw [show 8 * 1 + q1 = 8 + q1 by omega] at i1
  refine ⟨fun x q => ?_, fun _ _ _ _ _ _ _ _ => rfl, fun _ _ _ _ _ _ _ _ _ _ _ _ _ _ => rfl, fun _ _ => rfl, uc, fun _ _ _ => rfl, n1.2.2.2.1.2.2, Nat.le_refl _, ?_⟩
  · have hx : x < 16 := by omega
    have d : J (A 7) x = 0 := by rcases q with rfl | rfl; exact dkp _ hx i0; exact dkp _ hx i1
    obtain ⟨z8, z18⟩ := n1.2.2.2.2.2.2.2.2.2.2 x hx d
    exact ⟨d, z8, (n1.1 x hx).1.2.1.2.1 d, z18⟩
  · refine (List.filter_eq_self.mpr (fun q hq => ?_)).symm
    obtain ⟨t, ht, rfl⟩ := List.mem_map.mp hq
    obtain ⟨c', hc', ec', u'⟩ := n1.2.2.2.2.2.2.2.2.2.1 t (List.mem_range.mp ht)
    have e0 : tg J A t 0 = nI c' := ec'
    have : ¬ nI c' = nI c := fun z => by
      have := nI_inj (by omega) (by omega) z
      subst this
      exact u' uc
    unfold nc
    rw [e0]
    simp [this]
