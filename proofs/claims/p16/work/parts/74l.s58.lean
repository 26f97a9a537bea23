/-! SIMULATION 58: plug: the second half with the frames -/
theorem FAx_0 {S : MM} {b c cl nt : Nat} {A : Nat → Nat} {I J : Mm} (h : FRl (sR S) b A I J cl nt) (hc : c < 8) (no : ∀ t, t < nt → ¬ J (A 27) t = nI c) : FAx S b c I I := ⟨fun _ _ => rfl, fun _ _ _ _ => rfl, fun c' e' _ he' => ⟨rfl, fun _ => rfl, fun q => by subst q; exact ln_0f h hc he' no⟩⟩
theorem no_th {R : Nat → Nat → Option Nat} {b m cl nt c : Nat} {A : Nat → Nat} {I J : Mm} (h : NRl R b m A I J cl nt) (hc : c < 8) (u : J (A 25) c = 0) : ∀ t, t < nt → ¬ J (A 27) t = nI c := fun t ht e => by
  obtain ⟨c', hc', e', u'⟩ := h.2.2.2.2.2.2.2.2.2.1 t ht
  have := nI_inj (by omega) (by omega) (e.symm.trans e')
  subst this
  exact u' u
theorem p_plug {Q : Option Value → MM → Prop} {S S1 : MM} {x m out i0 : Nat} {A : Nat → Nat} {v w u t : Int32} (hi0 : i0 < 100000) (hP : GP S x m out A i0) (hh : GH S S1 x m out A) (md : MDq S S1 x v w u t) (K : ∀ S2, GP S2 x m out A (i0 + 1) → Q none S2) : wX8_plug [.ref m, .int v, .int w, .int u, .int t] S1 Q := by
  have hG := hP.1
  have hM1 := hh.2.2.2.2.2.1
  have hA := AD_of hM1
  have hL := ly_of hG
  have hO := hG.2.2.2.2.2.2.1
  obtain ⟨g1, g2, g3, g4, g5, g6, g7, nt, F, cl, bi, n0, fr, hF, hcl⟩ := id hG
  have bi1 := BI_h hh.2.2.2.2.2.2.2.1 hh.2.2.2.2.2.2.2.2 bi
  have ek := hh.2.2.2.2.2.2.2.2
  have pc0 : ∀ i, i < 8 → sI S (Pt (sR S) x 0 i) 2 = sI S1 (A 11) i := fun i hi => by
    have := n0.2.2.2.2.2.2.1.2.1 0 i (by decide) hi
    rw [show 8 * 0 + i = i by omega] at this
    rw [ek 11 (by decide)]
    exact this
  have pc1 : ∀ k, k < 8 → sI S (Pt (sR S) x 1 k) 2 = sI S1 (A 11) (8 + k) := fun k hk => by
    have := n0.2.2.2.2.2.2.1.2.1 1 k (by decide) hk
    rw [show 8 * 1 + k = 8 + k by omega] at this
    rw [ek 11 (by decide)]
    exact this
  refine c_Mplug hM1 bi1.1 (fun h S2 e im => ?_) (fun c i k hc hi hk ec ei ek' nb h S2 e im => ?_) (fun c i k d hc hi hk hd1 hd2 ec ei ekk ed nb xa xb im => ?_)
  · rcases md with ⟨er, es, _⟩ | ⟨c, i, k, Sa, Sb, _, nb, _⟩
    · exact K S2 (p_same hP hh er es e im)
    · exact absurd h nb
  · rcases md with ⟨er, es, _⟩ | ⟨c', i', k', Sa, Sb, ⟨hc', hi', hk', ec', ei', ek''⟩, _, ⟨ya, yb⟩, _⟩
    · exact K S2 (p_same hP hh er es e im)
    · have q1 := nI_inj (by omega) (by omega) (ec.symm.trans ec')
      have q2 := nI_inj (by omega) (by omega) (ei.symm.trans ei')
      have q3 := nI_inj (by omega) (by omega) (ek'.symm.trans ek'')
      subst q1 q2 q3
      rw [pc0 i hi] at ya
      rw [pc1 k hk] at yb
      exact absurd ⟨ya, yb⟩ h
  · rcases md with ⟨er, es, q | ⟨c', i', k', hc', hi', hk', ec', ei', ek', q⟩⟩ | ⟨c', i', k', Sa, Sb, ⟨hc', hi', hk', ec', ei', ek'⟩, _, ⟨ya, yb⟩, ta, tk, tb, pin, hOa, hOb, er, es⟩
    · exact absurd q nb
    · have q1 := nI_inj (by omega) (by omega) (ec.symm.trans ec')
      have q2 := nI_inj (by omega) (by omega) (ei.symm.trans ei')
      have q3 := nI_inj (by omega) (by omega) (ekk.symm.trans ek')
      subst q1 q2 q3
      rw [pc0 i hi, pc1 k hk] at q
      exact absurd ⟨xa, xb⟩ q
    · have q1 := nI_inj (by omega) (by omega) (ec.symm.trans ec')
      have q2 := nI_inj (by omega) (by omega) (ei.symm.trans ei')
      have q3 := nI_inj (by omega) (by omega) (ekk.symm.trans ek')
      subst q1 q2 q3
      rw [ed] at pin
      have s27 : ∀ t, ∃ k, k < 8 ∧ up2 (sI S1) m 0 0 (A 27) t = nI k := fun t => by rw [(J0_k hA).1 27 t (by decide)]; exact bi1.1.1.1 27 8 rfl t
      have s28 : ∀ t, ∃ k, k < 2 ∧ up2 (sI S1) m 0 0 (A 28) t = nI k := fun t => by rw [(J0_k hA).1 28 t (by decide)]; exact bi1.1.1.1 28 2 rfl t
      have n1 := NR_K (NR_h hh n0) (J0_k (J := sI S1) hA).1 ((J0_k (J := sI S1) hA).2 43 (by decide)) ((J0_k (J := sI S1) hA).2 32 (by decide))
      have tg0 : ∀ n, TG (up2 (sI S1) m 0 0) A n = TG (sI S1) A n := fun n => tg_same (J0_k hA).1
      rw [← (J0_k (J := sI S1) hA).1 11 i (by decide)] at xa
      rw [← (J0_k (J := sI S1) hA).1 11 (8 + k) (by decide)] at xb
      have j42 : ∀ j, up2 (sI S1) m 0 0 (A 42) j = sI S1 (A 42) j := fun j => (J0_k hA).1 42 j (by decide)
      have j39 : up2 (sI S1) m 0 0 m 39 = sI S1 m 39 := (J0_k hA).2 39 (by decide)
      have jz : ∀ z, z ≠ m → up2 (sI S1) m 0 0 z = sI S1 z := fun z hz => up2_row hz
      rw [g76] at im ⊢
      -- behind the pull, if there was one
      have stA : ∃ n', NRl (sR Sa) x m A (sI Sa) (if up2 (sI S1) m 0 0 (A 24) c = 0 then up2 (sI S1) m 0 0 else f_X8_isPulled (up2 (sI S1) m 0 0) m A c nt) cl n' ∧ (if up2 (sI S1) m 0 0 (A 24) c = 0 then up2 (sI S1) m 0 0 else f_X8_isPulled (up2 (sI S1) m 0 0) m A c nt) (A 24) c = 0 ∧ (if up2 (sI S1) m 0 0 (A 24) c = 0 then up2 (sI S1) m 0 0 else f_X8_isPulled (up2 (sI S1) m 0 0) m A c nt) (A 25) c = 0 ∧ (∀ y, (if up2 (sI S1) m 0 0 (A 24) c = 0 then up2 (sI S1) m 0 0 else f_X8_isPulled (up2 (sI S1) m 0 0) m A c nt) (A 11) y = -1 ∨ (if up2 (sI S1) m 0 0 (A 24) c = 0 then up2 (sI S1) m 0 0 else f_X8_isPulled (up2 (sI S1) m 0 0) m A c nt) (A 11) y = up2 (sI S1) m 0 0 (A 11) y) ∧ (TG (if up2 (sI S1) m 0 0 (A 24) c = 0 then up2 (sI S1) m 0 0 else f_X8_isPulled (up2 (sI S1) m 0 0) m A c nt) A n').Sublist (TG (sI S1) A nt) ∧ (∀ j, (if up2 (sI S1) m 0 0 (A 24) c = 0 then up2 (sI S1) m 0 0 else f_X8_isPulled (up2 (sI S1) m 0 0) m A c nt) (A 42) j = sI S1 (A 42) j) ∧ (if up2 (sI S1) m 0 0 (A 24) c = 0 then up2 (sI S1) m 0 0 else f_X8_isPulled (up2 (sI S1) m 0 0) m A c nt) m 39 = sI S1 m 39 ∧ (∀ z, z ≠ m → (∀ k ∈ DM, z ≠ A k) → (if up2 (sI S1) m 0 0 (A 24) c = 0 then up2 (sI S1) m 0 0 else f_X8_isPulled (up2 (sI S1) m 0 0) m A c nt) z = sI S1 z) ∧ n' ≤ nt ∧ TG (if up2 (sI S1) m 0 0 (A 24) c = 0 then up2 (sI S1) m 0 0 else f_X8_isPulled (up2 (sI S1) m 0 0) m A c nt) A n' = (TG (sI S1) A nt).filter (nc c) ∧ (∀ k, (k = 23 ∨ k = 34 ∨ k = 35 ∨ k = 36 ∨ k = 37 ∨ k = 41 ∨ k = 42) → ∀ j, (if up2 (sI S1) m 0 0 (A 24) c = 0 then up2 (sI S1) m 0 0 else f_X8_isPulled (up2 (sI S1) m 0 0) m A c nt) (A k) j = sI S1 (A k) j) ∧ (∀ c', c' ≠ c → (if up2 (sI S1) m 0 0 (A 24) c = 0 then up2 (sI S1) m 0 0 else f_X8_isPulled (up2 (sI S1) m 0 0) m A c nt) (A 24) c' = sI S1 (A 24) c') ∧ ∀ y, y < 16 → (if up2 (sI S1) m 0 0 (A 24) c = 0 then up2 (sI S1) m 0 0 else f_X8_isPulled (up2 (sI S1) m 0 0) m A c nt) (A 9) y = nI 4 → sI S1 (A 9) y = nI 4 ∧ (if up2 (sI S1) m 0 0 (A 24) c = 0 then up2 (sI S1) m 0 0 else f_X8_isPulled (up2 (sI S1) m 0 0) m A c nt) (A 12) y = sI S1 (A 12) y := by
        rcases tk with ⟨npl, e⟩ | ⟨p0, p1, r0, r1, tk⟩
        · subst e
          rcases pls n1 hc with ⟨_, z⟩ | ⟨z, _⟩
          · rw [if_pos z]
            exact ⟨nt, n1, z, Classical.byContradiction (fun y => n1.2.2.2.2.2.1.1 c hc y z), fun y => Or.inr rfl, by rw [tg0]; exact List.Sublist.refl _, j42, j39, fun z h1 _ => jz z h1, Nat.le_refl _, by rw [tg0]; exact (List.filter_eq_self.mpr (fun q hq => by obtain ⟨t', ht', rfl⟩ := List.mem_map.mp hq; have no := no_th n1 hc (Classical.byContradiction (fun y => n1.2.2.2.2.2.1.1 c hc y z)) t' (List.mem_range.mp ht'); rw [(J0_k hA).1 27 t' (by decide)] at no; unfold nc; rw [decide_eq_false (show ¬ tg (sI S1) A t' 0 = nI c from no)]; rfl)).symm, fun k hk j => (J0_k hA).1 k j (by omega), fun c' _ => (J0_k hA).1 24 c' (by decide), fun y _ e4 => by rw [(J0_k hA).1 9 y (by decide)] at e4; exact ⟨e4, (J0_k hA).1 12 y (by decide)⟩⟩
          · exact absurd z npl
        · obtain ⟨_, q0, q1, h0, h1, e0, e1, P0, P1, p24⟩ := fo_tk hG hc r0 r1 tk
          subst e0 e1
          have P0' : up2 (sI S1) m 0 0 (A 22) (2 * c + 0) = nI q0 := by rw [(J0_k hA).1 22 _ (by decide), ek 22 (by decide)]; exact P0
          have P1' : up2 (sI S1) m 0 0 (A 22) (2 * c + 1) = nI q1 := by rw [(J0_k hA).1 22 _ (by decide), ek 22 (by decide)]; exact P1
          have p24' : ¬ up2 (sI S1) m 0 0 (A 24) c = 0 := by rw [(J0_k hA).1 24 _ (by decide), ek 24 (by decide)]; exact p24
          rw [if_neg p24']
          obtain ⟨J1, n', cut, a1, a2, a3, a4⟩ := pul_R hA n1 s27 s28 hc h0 h1 P0' P1' p24'
          have nz : ∀ z, z ≠ m → (∀ k ∈ DM, z ≠ A k) → f_X8_isPulled (up2 (sI S1) m 0 0) m A c nt z = sI S1 z := fun z h1 h2 => by rw [nm_X8_isPulled (fun k hk => h2 k (mem_sub k hk (by decide))) h1, up2_row h1]
          generalize f_X8_isPulled (up2 (sI S1) m 0 0) m A c nt = J2 at a1 a2 a3 a4 nz ⊢
          have ts := tk_sim hL hO hc h0 h1 tk r0 r1 n1 P0' P1' p24' cut a1 a2 a3 (a4 43) (a4 32)
          have tgE : TG J2 A n' = TG J1 A n' := TG_c (fun t _ => tg_k (fun k hk => by
            have q : ∀ k ∈ ([27, 28, 29, 30, 31] : List Nat), dm k ∧ k ≠ 11 ∧ k ≠ 24 := by decide
            funext j
            exact a3 k j (q k hk).1 (q k hk).2.1 (q k hk).2.2))
          have c42 : ∀ j, J1 (A 42) j = up2 (sI S1) m 0 0 (A 42) j := fun j => cut.2.2.1 42 j (by decide) (by decide) (by decide) (by decide) (by decide) (by decide) (by decide) (by decide) (by decide) (by decide) (by decide) (by decide)
          have c11 : ∀ j, J1 (A 11) j = up2 (sI S1) m 0 0 (A 11) j := fun j => cut.2.2.1 11 j (by decide) (by decide) (by decide) (by decide) (by decide) (by decide) (by decide) (by decide) (by decide) (by decide) (by decide) (by decide)
          refine ⟨n', ts, by rw [a2, if_pos rfl]; rfl, by rw [a3 25 c (by decide) (by decide) (by decide)]; exact cut.2.2.2.2.1, fun y => ?_, by rw [tgE, ← tg0]; exact cut_tg cut, fun j => by rw [a3 42 j (by decide) (by decide) (by decide), c42]; exact j42 j, by rw [a4 39, cut.2.2.2.2.2.1 39 (by decide) (by decide)]; exact j39, nz, cut.2.2.2.2.2.2.2.1, by rw [tgE, cut.2.2.2.2.2.2.2.2, tg0], fun k hk j => by rw [a3 k j (by omega) (by omega) (by omega), cut.2.2.1 k j (by omega) (by omega) (by omega) (by omega) (by omega) (by omega) (by omega) (by omega) (by omega) (by omega) (by omega) (by omega)]; exact (J0_k hA).1 k j (by omega), fun c' n => by rw [a2, if_neg n, cut.2.2.1 24 c' (by decide) (by decide) (by decide) (by decide) (by decide) (by decide) (by decide) (by decide) (by decide) (by decide) (by decide) (by decide)]; exact (J0_k hA).1 24 c' (by decide), fun y hy e4 => by
            rw [a3 9 y (by decide) (by decide) (by decide)] at e4
            rw [a3 12 y (by decide) (by decide) (by decide)]
            by_cases q : y = q0 ∨ y = 8 + q1
            · rw [(cut.1 y q).2.2.1] at e4; exact absurd e4 (by decide)
            · rw [cut.2.1 y (fun z => q (Or.inl z)) (fun z => q (Or.inr z)) 9 y (by decide) (by decide) (ow_x (by decide)), (J0_k hA).1 9 y (by decide)] at e4
              exact ⟨e4, by rw [cut.2.1 y (fun z => q (Or.inl z)) (fun z => q (Or.inr z)) 12 y (by decide) (by decide) (ow_x (by decide))]; exact (J0_k hA).1 12 y (by decide)⟩⟩
          rw [a1 y]
          split
          · exact Or.inl rfl
          · exact Or.inr (c11 y)
      generalize (if up2 (sI S1) m 0 0 (A 24) c = 0 then up2 (sI S1) m 0 0 else f_X8_isPulled (up2 (sI S1) m 0 0) m A c nt) = Ka at stA im ⊢
      obtain ⟨n', na, a24, a25, a11, sub, a42, a39, az, xn, xt, xk, x24, x9⟩ := stA
      have free : ∀ y, y < 16 → (up2 (sI S1) m 0 0 (A 11) y = -1 ∨ up2 (sI S1) m 0 0 (A 11) y = nI c) → Ka (A 11) y = -1 := fun y hy h => by
        rcases na.2.2.2.2.2.1.2.2.2.1 (y / 8) (y % 8) (by omega) (by omega) with z | ⟨c', hc', e', pc, _⟩
        · rw [show 8 * (y / 8) + y % 8 = y by omega] at z; exact z
        · rw [show 8 * (y / 8) + y % 8 = y by omega] at e'
          rcases a11 y with z | z
          · exact z
          · rw [z] at e' ⊢
            rcases h with h | h
            · exact h
            · rw [h] at e'
              have := nI_inj (by omega) (by omega) e'
              subst this
              exact absurd a24 pc
      have fi := free i (by omega) xa
      have fk := free (8 + k) (by omega) xb
      -- the cable is put in
      have ska : sK Sa = sK S ∧ sN Sa = sN S := by
        rcases tk with ⟨_, e⟩ | ⟨p0, p1, _, _, tk⟩
        · subst e; exact ⟨rfl, rfl⟩
        · exact ⟨tk.1, tk.2.1⟩
      have hLa : LY Sa x := LY_ne hL ska.1 ta
      obtain ⟨kb, nb', _, rb, rcb, eb, rjb⟩ := id pin
      have hLb : LY Sb x := LY_ne hLa kb tb
      have leb : LYE (sR Sa) (sR Sb) x := lye hLa (Or.inl ⟨(ly_pp hLa hc).2.1, (ly_pp hLa hc).2.2⟩) (fun z _ hz => rb z hz)
      obtain ⟨b11, b24, b23, b22, bk, bm⟩ := plW_f (J := Ka) (m := m) (c := c) (p := i) (q := k) (w := nI d) hA hi
      generalize hKb : plW Ka A c i k (nI d) = Kb at b11 b24 b23 b22 bk bm im ⊢
      have bz : ∀ z, z ≠ m → (∀ k ∈ DM, z ≠ A k) → Kb z = Ka z := fun z h1 h2 => by
        rw [← hKb]
        unfold plW
        rw [up2_row (h2 11 (by decide)), up2_row (h2 11 (by decide)), up2_row (h2 23 (by decide)), up2_row (h2 22 (by decide)), up2_row (h2 22 (by decide)), up2_row (h2 24 (by decide))]
      have e0 : Pt (sR Sa) x 0 i = px (sR Sa) x i := by
        show _ = Pt (sR Sa) x (i / 8) (i % 8)
        rw [show i / 8 = 0 by omega, show i % 8 = i by omega]
      have e1 : Pt (sR Sa) x 1 k = px (sR Sa) x (8 + k) := by
        show _ = Pt (sR Sa) x ((8 + k) / 8) ((8 + k) % 8)
        rw [show (8 + k) / 8 = 1 by omega, show (8 + k) % 8 = k by omega]
      have ps := pin_sim (d := d) hLa hOa hc hi hk hd1 hd2 leb (fun e he ne => rb _ (fun z => ne (pp_i hLa hOa he hc z))) rcb na a24 a25 fi fk b11 b24 b23 b22 bk (bm 43) (bm 32)
      rw [← e0, ← e1, ← eb] at ps
      -- and is up
      have r0b : sR Sb (ppd (sR Sb) x c) 0 = some (Pt (sR Sb) x 0 i) := by rw [leb.PP c hc, leb.P 0 i (by decide) hi]; exact rcb.1
      have r1b : sR Sb (ppd (sR Sb) x c) 1 = some (Pt (sR Sb) x 1 k) := by rw [leb.PP c hc, leb.P 1 k (by decide) hk]; exact rcb.2
      have P0 : Kb (A 22) (2 * c + 0) = nI i := by rw [b22, if_pos (by omega)]
      have P1 : Kb (A 22) (2 * c + 1) = nI k := by rw [b22, if_neg (by omega), if_pos rfl]
      have p24 : Kb (A 24) c ≠ 0 := by rw [b24, if_pos rfl]; decide
      have u25 : Kb (A 25) c = 0 := by rw [bk 25 c (by decide) (by decide) (by decide) (by decide) (by decide)]; exact a25
      have dkp : ∀ y, y < 16 → Kb (A 11) y = nI c → Kb (A 7) y = 0 := fun y hy hi => Classical.byContradiction (fun z => by
        obtain ⟨c', hc', ec', u'⟩ := ps.2.2.2.2.2.1.2.2.2.2 (y / 8) (y % 8) (by omega) (by omega) (Or.inl (by rw [show 8 * (y / 8) + y % 8 = y by omega]; exact z))
        rw [show 8 * (y / 8) + y % 8 = y by omega, hi] at ec'
        have := nI_inj (by omega) (by omega) ec'
        subst this
        exact u' u25)
      have d0 := dkp i (by omega) (by rw [b11, if_pos (Or.inl rfl)])
      have d1 := dkp (8 + k) (by omega) (by rw [b11, if_pos (Or.inr rfl)])
      obtain ⟨c1, c2, c3, c4, c5, c6⟩ := up_R (m := m) hA hc hi hk P0 P1 ((ps.1 i (by omega)).1.2.1.2.1 d0) ((ps.1 (8 + k) (by omega)).1.2.1.2.1 d1)
      have nz : ∀ z, z ≠ m → (∀ k ∈ DM, z ≠ A k) → f_X8_isUp Kb m A c z = sI S1 z := fun z h1 h2 => by rw [nm_X8_isUp (fun k hk => h2 k (mem_sub k hk (by decide))), bz z h1 h2, az z h1 h2]
      generalize f_X8_isUp Kb m A c = J' at c1 c2 c3 c4 c5 c6 nz im ⊢
      have os := on_sim hLb hc hi hk (on_C hLb hOb hc hi hk r0b r1b) ps P0 P1 p24 ⟨d0, d1⟩ c1 c2 c3 c4 c5 (c6 43) (c6 32)
      have c42 : ∀ j, J' (A 42) j = sI S1 (A 42) j := fun j => by rw [c3 42 j (by decide) (by decide) (by decide) (by decide) (by decide) (by decide) (by decide) (by decide) (by decide), bk 42 j (by decide) (by decide) (by decide) (by decide) (by decide)]; exact a42 j
      have tgE : TG (up2 J' m 44 (nI 0)) A n' = TG Ka A n' := by
        rw [tg_same (fun k j a => mm_a hA a)]
        exact TG_c (fun t _ => tg_k (fun l hl => by
          have q : ∀ k ∈ ([27, 28, 29, 30, 31] : List Nat), dm k ∧ k ≠ 7 ∧ k ≠ 8 ∧ k ≠ 9 ∧ k ≠ 14 ∧ k ≠ 18 ∧ k ≠ 21 ∧ k ≠ 25 ∧ k ≠ 40 ∧ k ≠ 11 ∧ k ≠ 24 ∧ k ≠ 23 ∧ k ≠ 22 := by decide
          obtain ⟨z0, z1, z2, z3, z4, z5, z6, z7, z8, z9, z10, z11, z12⟩ := q l hl
          funext j
          rw [c3 l j z0 z1 z2 z3 z4 z5 z6 z7 z8, bk l j z0 z9 z10 z11 z12]))
      have fr0 := FRs_at hP n0 (by omega) (by have := bi1.1.2.2.2.1; omega)
      have fA : (FAx S x c (sI S) (sI Sa) ∧ P6 S (sI S) (sI Sa)) ∧ LYE (sR S) (sR Sa) x ∧ ∀ z, z ≠ ppd (sR S) x c → sR Sa z = sR S z := by
        rcases tk with ⟨npl, e⟩ | ⟨p0, p1, r0, r1, tk⟩
        · subst e
          rcases pls n0 hc with ⟨_, z⟩ | ⟨z, _⟩
          · exact ⟨⟨FAx_0 fr0 hc (no_th n0 hc (Classical.byContradiction (fun y => n0.2.2.2.2.2.1.1 c hc y z))), P6.rf⟩, LYE.rf, fun _ _ => rfl⟩
          · exact absurd z npl
        · obtain ⟨_, q0, q1, h0, h1, e0, e1, _⟩ := fo_tk hG hc r0 r1 tk
          have pl : plg (sR S) x c := ⟨by rw [r0]; simp, by rw [r1]; simp⟩
          refine ⟨?_, lye hL (Or.inl ⟨(ly_pp hL hc).2.1, (ly_pp hL hc).2.2⟩) (fun z _ hz => tk.2.2.2.1 z hz), fun z hz => tk.2.2.2.1 z hz⟩
          rw [tk.2.2.2.2.2.1, e0, e1]
          refine ⟨?_, ((p6_off (I0 := sI S) (I := sI S) hL hc pl P6.rf).w (k := 2) (v := -1) (k_px hL (show q0 < 16 by omega)) (Or.inr (by decide))).w (k := 2) (v := -1) (k_px hL (show 8 + q1 < 16 by omega)) (Or.inr (by decide))⟩
          exact (fx_off (I := sI S) hL hO hc pl).fa ((FA.rf.w (k := 2) (v := -1) hL (k_px hL (show q0 < 16 by omega)) (by omega)).w (k := 2) (v := -1) hL (k_px hL (show 8 + q1 < 16 by omega)) (by omega))
      obtain ⟨⟨fA1, pA1⟩, fA2, fA3⟩ := fA
      have kSb : sK Sb = sK S := kb.trans ska.1
      have plb : plg (sR Sb) x c := ⟨by rw [r0b]; simp, by rw [r1b]; simp⟩
      have fB : FA S x (sI Sa) (sI Sb) := by
        rw [eb]
        exact (((FA.rf.w hL (show sK S (Pt (sR Sa) x 0 i) = 6 by rw [← ska.1]; exact (ly_P hLa (by decide) hi).2.1) (by omega)).w hL (show sK S (Pt (sR Sa) x 1 k) = 6 by rw [← ska.1]; exact (ly_P hLa (by decide) hk).2.1) (by omega)).w hL (show sK S (Cb (sR Sa) x c) = 1 by rw [← ska.1]; exact (ly_C hLa hc).2.1) (by omega))
      have pB : P6 S (sI Sa) (sI Sb) := by
        rw [eb]
        exact ((P6.rf.w (show sK S (Pt (sR Sa) x 0 i) = 6 by rw [← ska.1]; exact (ly_P hLa (by decide) hi).2.1) (Or.inr (by decide))).w (show sK S (Pt (sR Sa) x 1 k) = 6 by rw [← ska.1]; exact (ly_P hLa (by decide) hk).2.1) (Or.inr (by decide))).w (show sK S (Cb (sR Sa) x c) = 1 by rw [← ska.1]; exact (ly_C hLa hc).2.1) (Or.inl (by decide))
      have pC : P6 S (sI Sb) (sI S1) := by
        rw [es]
        exact fun z hz => p6_nc hLb (p6_on hLb hc plb P6.rf) z (by rw [kSb]; exact hz)
      have j9 : ∀ y, y < 16 → up2 J' m 44 (nI 0) (A 9) y = nI 4 → sI S1 (A 9) y = nI 4 ∧ up2 J' m 44 (nI 0) (A 12) y = sI S1 (A 12) y := fun y hy e4 => by
        rw [mm_a hA (by decide)] at e4
        rw [mm_a hA (by decide)]
        by_cases q : y = i ∨ y = 8 + k
        · rw [(c1 y q).2.2.1] at e4; exact absurd e4 (by decide)
        · rw [c2 y (fun z => q (Or.inl z)) (fun z => q (Or.inr z)) 9 y (by decide) (by decide) (ow_x (by decide)), bk 9 y (by decide) (by decide) (by decide) (by decide) (by decide)] at e4
          obtain ⟨z1, z2⟩ := x9 y hy e4
          exact ⟨z1, by rw [c2 y (fun z => q (Or.inl z)) (fun z => q (Or.inr z)) 12 y (by decide) (by decide) (ow_x (by decide)), bk 12 y (by decide) (by decide) (by decide) (by decide) (by decide)]; exact z2⟩
      have fC : FA S x (sI Sb) (sI S1) := by
        rw [es]
        exact FA_S kSb (nb'.trans ska.2) (fA2.tr leb) (fa_nc hLb (fa_on hLb hc plb FA.rf))
      have qk : ∀ k, (k = 34 ∨ k = 35 ∨ k = 36 ∨ k = 37 ∨ k = 41 ∨ k = 42) → ∀ j, up2 J' m 44 (nI 0) (A k) j = sI S1 (A k) j := fun l hl j => by rw [mm_a hA (by omega), c3 l j (by omega) (by omega) (by omega) (by omega) (by omega) (by omega) (by omega) (by omega) (by omega), bk l j (by omega) (by omega) (by omega) (by omega) (by omega)]; exact xk l (by omega) j
      have frs : FRs (wI S1 (up2 J' m 44 (nI 0))) x m A := frs_c (n' := n') hP hh n0 (by omega) (by have := bi1.1.2.2.2.1; omega) xn hc (fun z _ h17 => by rw [er, rb z (fun y => h17 (by rw [y, fA2.PP c hc]; exact (ly_pp hL hc).2.1))]; exact fA3 z (fun y => h17 (by rw [y]; exact (ly_pp hL hc).2.1))) (fun y hy => by rw [er]; exact (fA2.tr leb).P (y / 8) (y % 8) (by omega) (by omega)) ((pA1.tr pB).tr pC) j9 ((fA1.fa fB).fa fC) (fun z h1 h2 => by rw [up2_row h1]; exact nz z h1 h2) (fun l hl j => qk l (by simp at hl; omega) j) (fun c' hc' n => ⟨by rw [mm_a hA (by decide), c3 23 c' (by decide) (by decide) (by decide) (by decide) (by decide) (by decide) (by decide) (by decide) (by decide), b23, if_neg n]; exact xk 23 (by omega) c', by rw [mm_a hA (by decide), c3 24 c' (by decide) (by decide) (by decide) (by decide) (by decide) (by decide) (by decide) (by decide) (by decide), b24, if_neg n]; exact x24 c' n⟩) (by rw [mm_j (by decide), c6 43, bm 43, na.2.2.2.1.2.1, hh.2.2.2.2.2.2.2.1]; exact n0.2.2.2.1.2.1.symm) (by rw [mm_j (by decide), c6 32, bm 32]; exact na.2.2.2.1.2.2) (by rw [tgE, xt])
      refine K (wI S1 (up2 J' m 44 (nI 0))) ⟨r_exact (n' := n') hh bi1 fr hF hcl im (fun z h1 h2 => by rw [up2_row h1]; exact nz z h1 h2) (fun j => by rw [mm_a hA (by decide)]; exact c42 j) (by rw [mm_j (by decide), c6 39, bm 39]; exact a39) ?_ (by rw [tgE]; exact sub), frs⟩
      rw [er, es]
      exact NR_I hLb (ca_nc hLb) (NR_K os (fun k j a => mm_a hA a) (mm_j (by decide)) (mm_j (by decide)))
