/-! SIMULATION 38: pull, plug: the reference's half -/
theorem pul_w {J : Mm} {m c q0 q1 : Nat} {A : Nat → Nat} (hA : AD m A) (h0 : q0 < 8) (h1 : q1 < 8) (P0 : J (A 22) (2 * c + 0) = nI q0) (P1 : J (A 22) (2 * c + 1) = nI q1) : ∃ J2, J2 = (let I4 := up2 J (A 11) (f_X8_portAt J m A c 0) (-1 : Int32); let I7 := up2 I4 (A 11) (f_X8_portAt I4 m A c 1) (-1 : Int32); let I9 := up2 I7 (A 24) c (nI 0); I9) ∧ (∀ j, J2 (A 11) j = if j = q0 ∨ j = 8 + q1 then -1 else J (A 11) j) ∧ (∀ j, J2 (A 24) j = if j = c then nI 0 else J (A 24) j) ∧ (∀ k j, dm k → k ≠ 11 → k ≠ 24 → J2 (A k) j = J (A k) j) ∧ ∀ j, J2 m j = J m j := by
  refine ⟨_, rfl, ?_⟩
  try dsimp only
  have x0 : f_X8_portAt J m A c 0 = q0 := by unfold f_X8_portAt; rw [P0, nI_cl (by omega)]; omega
  rw [x0]
  have x1 : f_X8_portAt (up2 J (A 11) q0 (-1)) m A c 1 = 8 + q1 := by unfold f_X8_portAt; rw [mu_o hA (by decide) (by decide) (by decide), P1, nI_cl (by omega)]
  rw [x1]
  refine ⟨fun j => ?_, fun j => ?_, fun k j a a1 a2 => ?_, fun j => ?_⟩
  · rw [mu_o hA (by decide) (by decide) (by decide)]
    by_cases q : j = 8 + q1
    · rw [q, up2_self, if_pos (Or.inr rfl)]
    · rw [mu_j q]
      by_cases q' : j = q0
      · rw [q', up2_self, if_pos (Or.inl rfl)]
      · rw [mu_j q', if_neg (fun z => z.elim q' q)]
  · by_cases q : j = c
    · rw [q, up2_self, if_pos rfl]
    · rw [mu_j q, if_neg q, mu_o hA (by decide) (by decide) (by decide), mu_o hA (by decide) (by decide) (by decide)]
  · rw [mu_o hA (by decide) a a2, mu_o hA (by decide) a a1, mu_o hA (by decide) a a1]
  · rw [am_m hA (by decide), am_m hA (by decide), am_m hA (by decide)]
theorem pul_R {R : Nat → Nat → Option Nat} {b m cl nt c q0 q1 : Nat} {A : Nat → Nat} {I J : Mm} (hA : AD m A) (n1 : NRl R b m A I J cl nt) (s27 : ∀ t, ∃ k, k < 8 ∧ J (A 27) t = nI k) (s28 : ∀ t, ∃ e, e < 2 ∧ J (A 28) t = nI e) (hc : c < 8) (h0 : q0 < 8) (h1 : q1 < 8) (P0 : J (A 22) (2 * c + 0) = nI q0) (P1 : J (A 22) (2 * c + 1) = nI q1) (pl24 : J (A 24) c ≠ 0) : ∃ J1 n', CUT J J1 m nt n' c q0 q1 A ∧ (∀ j, f_X8_isPulled J m A c nt (A 11) j = if j = q0 ∨ j = 8 + q1 then -1 else J1 (A 11) j) ∧ (∀ j, f_X8_isPulled J m A c nt (A 24) j = if j = c then nI 0 else J1 (A 24) j) ∧ (∀ k j, dm k → k ≠ 11 → k ≠ 24 → f_X8_isPulled J m A c nt (A k) j = J1 (A k) j) ∧ ∀ j, f_X8_isPulled J m A c nt m j = J1 m j := by
  by_cases uc : J (A 25) c = 0
  · obtain ⟨J2, e2, a1, a2, a3, a4⟩ := pul_w (m := m) hA h0 h1 P0 P1
    have E : f_X8_isPulled J m A c nt = J2 := by unfold f_X8_isPulled; rw [if_pos uc, e2]
    rw [E]
    exact ⟨J, nt, cut_0 n1 hc h0 h1 P0 P1 pl24 uc, a1, a2, a3, a4⟩
  · obtain ⟨n', cut⟩ := cut_R (nt := nt) hA hc h0 h1 s27 s28 P0 P1
    have j22 : ∀ j, f_X8_isCut J m A c nt (A 22) j = J (A 22) j := fun j => cut.2.2.1 22 j (by decide) (by decide) (by decide) (by decide) (by decide) (by decide) (by decide) (by decide) (by decide) (by decide) (by decide) (by decide)
    obtain ⟨J2, e2, a1, a2, a3, a4⟩ := pul_w (J := f_X8_isCut J m A c nt) (m := m) hA h0 h1 (by rw [j22]; exact P0) (by rw [j22]; exact P1)
    have E : f_X8_isPulled J m A c nt = J2 := by unfold f_X8_isPulled; rw [if_neg uc, e2]
    rw [E]
    exact ⟨_, n', cut, a1, a2, a3, a4⟩
theorem cut_tg {J J1 : Mm} {m nt n' c q0 q1 : Nat} {A : Nat → Nat} (h : CUT J J1 m nt n' c q0 q1 A) : (TG J1 A n').Sublist (TG J A nt) := by rw [h.2.2.2.2.2.2.2.2]; exact List.filter_sublist
theorem r_pull {Q : Option Value → MM → Prop} {S S1 : MM} {x m out i : Nat} {A : Nat → Nat} {v : Int32} (hG : GN S x m out A i) (hh : GH S S1 x m out A) (md : MDu S S1 x v) (K : ∀ S2, GN S2 x m out A (i + 1) → Q none S2) : wX8_pull [.ref m, .int v] S1 Q := by
  have hM1 := hh.2.2.2.2.2.1
  have hA := AD_of hM1
  have hL := ly_of hG
  have hO := hG.2.2.2.2.2.2.1
  obtain ⟨g1, g2, g3, g4, g5, g6, g7, nt, F, cl, bi, n0, fr, hF, hcl⟩ := id hG
  have bi1 := BI_h hh.2.2.2.2.2.2.2.1 hh.2.2.2.2.2.2.2.2 bi
  have ek := hh.2.2.2.2.2.2.2.2
  refine c_Mpull hM1 bi1.1 (fun h S2 e im => ?_) (fun c hc ec h S2 e im => ?_) (fun c hc ec hp im => ?_)
  · rcases md with ⟨er, ei, _⟩ | ⟨c, p0, p1, S', hc, ec, _⟩
    · exact K S2 (r_same hG hh er (ca_e ei) e im)
    · exact absurd h (by rw [ec]; exact nb8 hc)
  · rcases md with ⟨er, ei, _⟩ | ⟨c', p0, p1, S', hc', ec', r0, r1, _, tk, _⟩
    · exact K S2 (r_same hG hh er (ca_e ei) e im)
    · have := nI_inj (by omega) (by omega) (ec.symm.trans ec')
      subst this
      rw [ek 24 (by decide)] at h
      obtain ⟨_, q0, q1, _, _, _, _, _, _, z⟩ := fo_tk hG hc r0 r1 tk
      exact absurd h z
  · rcases md with ⟨er, ei, q | ⟨c', hc', ec', q⟩⟩ | ⟨c', p0, p1, S', hc', ec', r0, r1, t', tk, er, ei⟩
    · exact absurd q (by rw [ec]; exact nb8 hc)
    · have := nI_inj (by omega) (by omega) (ec.symm.trans ec')
      subst this
      rw [ek 24 (by decide)] at hp
      rcases pls n0 hc with ⟨_, z⟩ | ⟨z, _⟩
      · exact absurd z hp
      · exact absurd z q
    · have := nI_inj (by omega) (by omega) (ec.symm.trans ec')
      subst this
      have s27 : ∀ t, ∃ k, k < 8 ∧ up2 (sI S1) m 0 0 (A 27) t = nI k := fun t => by rw [(J0_k hA).1 27 t (by decide)]; exact bi1.1.1.1 27 8 rfl t
      have s28 : ∀ t, ∃ k, k < 2 ∧ up2 (sI S1) m 0 0 (A 28) t = nI k := fun t => by rw [(J0_k hA).1 28 t (by decide)]; exact bi1.1.1.1 28 2 rfl t
      have n1 := NR_K (NR_h hh n0) (J0_k (J := sI S1) hA).1 ((J0_k (J := sI S1) hA).2 43 (by decide)) ((J0_k (J := sI S1) hA).2 32 (by decide))
      have tg0 : ∀ n, TG (up2 (sI S1) m 0 0) A n = TG (sI S1) A n := fun n => tg_same (J0_k hA).1
      obtain ⟨_, q0, q1, h0, h1, e0, e1, P0, P1, p24⟩ := fo_tk hG hc r0 r1 tk
      subst e0 e1
      have P0' : up2 (sI S1) m 0 0 (A 22) (2 * c + 0) = nI q0 := by rw [(J0_k hA).1 22 _ (by decide), ek 22 (by decide)]; exact P0
      have P1' : up2 (sI S1) m 0 0 (A 22) (2 * c + 1) = nI q1 := by rw [(J0_k hA).1 22 _ (by decide), ek 22 (by decide)]; exact P1
      have p24' : up2 (sI S1) m 0 0 (A 24) c ≠ 0 := by rw [(J0_k hA).1 24 _ (by decide), ek 24 (by decide)]; exact p24
      obtain ⟨J1, n', cut, a1, a2, a3, a4⟩ := pul_R hA n1 s27 s28 hc h0 h1 P0' P1' p24'
      have E : g_X8_pull_37 (up2 (sI S1) m 0 0) m A c nt = up2 (f_X8_isPulled (up2 (sI S1) m 0 0) m A c nt) m 44 (nI 0) := rfl
      rw [E] at im ⊢
      have nz : ∀ z, z ≠ m → (∀ k ∈ DM, z ≠ A k) → f_X8_isPulled (up2 (sI S1) m 0 0) m A c nt z = sI S1 z := fun z h1 h2 => by rw [nm_X8_isPulled (fun k hk => h2 k (mem_sub k hk (by decide))) h1, up2_row h1]
      generalize f_X8_isPulled (up2 (sI S1) m 0 0) m A c nt = J2 at a1 a2 a3 a4 nz im ⊢
      have ts := tk_sim hL hO hc h0 h1 tk r0 r1 n1 P0' P1' p24' cut a1 a2 a3 (a4 43) (a4 32)
      have tgE : TG (up2 J2 m 44 (nI 0)) A n' = TG J1 A n' := by
        rw [tg_same (fun k j a => mm_a hA a)]
        exact TG_c (fun t _ => tg_k (fun k hk => by
          have q : ∀ k ∈ ([27, 28, 29, 30, 31] : List Nat), dm k ∧ k ≠ 11 ∧ k ≠ 24 := by decide
          funext j
          exact a3 k j (q k hk).1 (q k hk).2.1 (q k hk).2.2))
      have c42 : ∀ j, J1 (A 42) j = up2 (sI S1) m 0 0 (A 42) j := fun j => cut.2.2.1 42 j (by decide) (by decide) (by decide) (by decide) (by decide) (by decide) (by decide) (by decide) (by decide) (by decide) (by decide) (by decide)
      refine K (wI S1 (up2 J2 m 44 (nI 0))) (r_exact (n' := n') hh bi1 fr hF hcl im (fun z h1 h2 => by rw [up2_row h1]; exact nz z h1 h2) (fun j => by rw [mm_a hA (by decide), a3 42 j (by decide) (by decide) (by decide), c42]; exact (J0_k hA).1 42 j (by decide)) (by rw [mm_j (by decide), a4 39, cut.2.2.2.2.2.1 39 (by decide) (by decide)]; exact (J0_k hA).2 39 (by decide)) ?_ (by rw [tgE, ← tg0]; exact cut_tg cut))
      rw [er, ei]
      have tyS' : LY S' x := ⟨t', by rw [tk.1]; exact hL.2⟩
      exact NR_I tyS' (ca_nc tyS') (NR_K ts (fun k j a => mm_a hA a) (mm_j (by decide)) (mm_j (by decide)))
/-! plug -/
def MDq (S S1 : MM) (x : Nat) (v w u t : Int32) : Prop := (sR S1 = sR S ∧ sI S1 = sI S ∧ (PGB v w u t ∨ ∃ c i k, c < 8 ∧ i < 8 ∧ k < 8 ∧ v = nI c ∧ w = nI i ∧ u = nI k ∧ ¬ ((sI S (Pt (sR S) x 0 i) 2 = -1 ∨ sI S (Pt (sR S) x 0 i) 2 = nI c) ∧ (sI S (Pt (sR S) x 1 k) 2 = -1 ∨ sI S (Pt (sR S) x 1 k) 2 = nI c)))) ∨ ∃ c i k Sa Sb, (c < 8 ∧ i < 8 ∧ k < 8 ∧ v = nI c ∧ w = nI i ∧ u = nI k) ∧ ¬ PGB v w u t ∧ ((sI S (Pt (sR S) x 0 i) 2 = -1 ∨ sI S (Pt (sR S) x 0 i) 2 = nI c) ∧ (sI S (Pt (sR S) x 1 k) 2 = -1 ∨ sI S (Pt (sR S) x 1 k) 2 = nI c)) ∧ TY Sa ∧ ((¬ plg (sR S) x c ∧ Sa = S) ∨ ∃ p0 p1, sR S (ppd (sR S) x c) 0 = some p0 ∧ sR S (ppd (sR S) x c) 1 = some p1 ∧ TKO S Sa x c p0 p1) ∧ TY Sb ∧ PIN Sa Sb x c i k t ∧ OC Sa ∧ OC Sb ∧ sR S1 = sR Sb ∧ sI S1 = f_X7_noteChange (f_X7_switchOn (sI Sb) (sR Sb) x c) (sR Sb) x
theorem FO_k {S S' : MM} {I I' : Mm} (k : sK S' = sK S) (n : sN S' = sN S) (h : FO S' I I') : FO S I I' := fun z hz => h z (by rw [wk_eq (S := S) k n]; exact hz)
theorem k_plug {Q : Option Value → MM → Prop} {S : MM} {x m out i : Nat} {A : Nat → Nat} {v w u t : Int32} (hG : GN S x m out A i) (K : ∀ r S1, GH S S1 x m out A → MDq S S1 x v w u t → Q (some (.int r)) S1) : wL_plug [.ref x, .int v, .int w, .int u, .int t] S Q := by
  have hL := ly_of hG
  have hO := hG.2.2.2.2.2.2.1
  refine Exists.intro 3 (And.intro hL.2 (And.intro ⟨by decide, by decide⟩ (c_plug hL hG.2.1 (fun h q => ?_) (fun c i k hc hi hk ec ei ek nb h q => ?_) (fun c i k Sa Sb hc hi hk ec ei ek nb xa xb ta tk tb pin G eG ir => ?_))))
  · rw [hd2_1]; exact K _ S (GH_0 hG) (Or.inl ⟨rfl, rfl, Or.inl h⟩)
  · rw [hd2_2]; exact K _ S (GH_0 hG) (Or.inl ⟨rfl, rfl, Or.inr ⟨c, i, k, hc, hi, hk, ec, ei, ek, h⟩⟩)
  · -- Sa: the cable is out
    have A1 : sK Sa = sK S ∧ sN Sa = sN S ∧ MS Sa m A ∧ OC Sa ∧ FO S (sI S) (sI Sa) ∧ ppd (sR Sa) x c = ppd (sR S) x c := by
      rcases tk with ⟨_, e⟩ | ⟨p0, p1, r0, r1, tk⟩
      · subst e; exact ⟨rfl, rfl, hG.2.2.2.2.2.1, hO, FO.rf, rfl⟩
      · obtain ⟨k', n', _, r, ⟨z0, z1⟩, _, rj⟩ := id tk
        have kp := (ly_pp hL hc).2.1
        have np := (ly_pp hL hc).2.2
        refine ⟨k', n', MS_pp hG.2.2.2.2.2.1 k' n' kp r, OC_pp hO k' n' kp np r (fun j b hb => ?_), (fo_tk hG hc r0 r1 tk).1, (lye hL (Or.inl ⟨kp, np⟩) (fun z _ hz => r z hz)).PP c hc⟩
        by_cases q0 : j = 0
        · rw [q0, z0] at hb; cases hb
        · by_cases q1 : j = 1
          · rw [q1, z1] at hb; cases hb
          · rw [rj j q0 q1] at hb
            exact hO.2 _ j b (by rw [kp]; rfl) hb
    obtain ⟨ka, na, hMa, hOa, foa, epp⟩ := A1
    have hLa : LY Sa x := LY_ne hL ka ta
    obtain ⟨kb, nb', _, rb, ⟨y0, y1⟩, eb, rjb⟩ := id pin
    have kpa := (ly_pp hLa hc).2.1
    have npa := (ly_pp hLa hc).2.2
    have P0 := ly_P hLa (show 0 < 2 by decide) hi
    have P1 := ly_P hLa (show 1 < 2 by decide) hk
    have hMb : MS Sb m A := MS_pp hMa kb nb' kpa rb
    have hOb : OC Sb := OC_pp hOa kb nb' kpa npa rb (fun j b hb => by
      by_cases q0 : j = 0
      · rw [q0, y0] at hb; cases hb; rw [P0.2.1]; decide
      · by_cases q1 : j = 1
        · rw [q1, y1] at hb; cases hb; rw [P1.2.1]; decide
        · rw [rjb j q0 q1] at hb
          exact hOa.2 _ j b (by rw [kpa]; rfl) hb)
    have hLb : LY Sb x := LY_ne hLa kb tb
    have leb : LYE (sR Sa) (sR Sb) x := lye hLa (Or.inl ⟨kpa, npa⟩) (fun z _ hz => rb z hz)
    have r0b : sR Sb (ppd (sR Sb) x c) 0 = some (Pt (sR Sb) x 0 i) := by rw [leb.PP c hc, leb.P 0 i (by decide) hi]; exact y0
    have r1b : sR Sb (ppd (sR Sb) x c) 1 = some (Pt (sR Sb) x 1 k) := by rw [leb.PP c hc, leb.P 1 k (by decide) hk]; exact y1
    have fb : FO Sa (sI Sa) (sI Sb) := by
      rw [eb]
      exact ((FO.rf.w P0.2.1 (by decide) rfl).w P1.2.1 (by decide) rfl).w (ly_C hLa hc).2.1 (by decide) rfl
    have fc : FO Sb (sI Sb) G := by
      rw [eG]
      exact (on_C hLb hOb hc hi hk r0b r1b).2.2.2.2.2.tr (fo_nc hLb)
    have f : FO S (sI S) G := (foa.tr (FO_k ka na fb)).tr (FO_k (kb.trans ka) (nb'.trans na) fc)
    obtain ⟨h1, h2, h3, h4, h5, h6, h7, h8⟩ := id hG
    refine K _ (wI Sb G) ⟨tb, ir, by show sK Sb x = 8; rw [kb, ka]; exact h3, by show sK Sb out = 18; rw [kb, ka]; exact h4, by show sN Sb out = 1; rw [nb', na]; exact h5, hMb, hOb, f m (fo_m h6), fun q hq => f (A q) (fo_A h6 hq)⟩ (Or.inr ⟨c, i, k, Sa, Sb, ⟨hc, hi, hk, ec, ei, ek⟩, nb, ⟨xa, xb⟩, ta, tk, tb, pin, hOa, hOb, rfl, eG⟩)
