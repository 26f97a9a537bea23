/-! SIMULATION 39: plug: the reference's half -/
/-- the reference's six writes of a plug -/
def plW (J : Mm) (A : Nat → Nat) (c p q : Nat) (w : Int32) : Mm := up2 (up2 (up2 (up2 (up2 (up2 J (A 24) c (nI 1)) (A 22) (2 * c) (nI p)) (A 22) (2 * c + 1) (nI q)) (A 23) c w) (A 11) p (nI c)) (A 11) (8 + q) (nI c)
theorem g76 {J : Mm} {m nt c p q : Nat} {A : Nat → Nat} {v w : Int32} : g_X8_plug_76 J m A c p q v nt w = up2 (f_X8_isUp (plW (if J (A 24) c = 0 then J else f_X8_isPulled J m A c nt) A c p q w) m A c) m 44 (nI 0) := by
  unfold g_X8_plug_76 plW f_X8_isNotQuiet
  dsimp only
  split <;> rfl
theorem plW_f {J : Mm} {m c p q : Nat} {A : Nat → Nat} {w : Int32} (hA : AD m A) (hp : p < 8) : (∀ j, plW J A c p q w (A 11) j = if j = p ∨ j = 8 + q then nI c else J (A 11) j) ∧ (∀ j, plW J A c p q w (A 24) j = if j = c then nI 1 else J (A 24) j) ∧ (∀ j, plW J A c p q w (A 23) j = if j = c then w else J (A 23) j) ∧ (∀ j, plW J A c p q w (A 22) j = if j = 2 * c then nI p else if j = 2 * c + 1 then nI q else J (A 22) j) ∧ (∀ k j, dm k → k ≠ 11 → k ≠ 24 → k ≠ 23 → k ≠ 22 → plW J A c p q w (A k) j = J (A k) j) ∧ ∀ j, plW J A c p q w m j = J m j := by
  unfold plW
  refine ⟨fun j => ?_, fun j => ?_, fun j => ?_, fun j => ?_, fun k j a a1 a2 a3 a4 => ?_, fun j => ?_⟩
  · by_cases q1 : j = 8 + q
    · rw [q1, up2_self, if_pos (Or.inr rfl)]
    · rw [mu_j q1]
      by_cases q0 : j = p
      · rw [q0, up2_self, if_pos (Or.inl rfl)]
      · rw [mu_j q0, if_neg (fun z => z.elim q0 q1)]
        simp (disch := decide) only [mu_o hA]
  · simp (disch := decide) only [mu_o hA]
    by_cases q0 : j = c
    · rw [q0, up2_self, if_pos rfl]
    · rw [mu_j q0, if_neg q0]
  · rw [mu_o hA (by decide) (by decide) (by decide), mu_o hA (by decide) (by decide) (by decide)]
    by_cases q0 : j = c
    · rw [q0, up2_self, if_pos rfl]
    · rw [mu_j q0, if_neg q0]
      simp (disch := decide) only [mu_o hA]
  · rw [mu_o hA (by decide) (by decide) (by decide), mu_o hA (by decide) (by decide) (by decide), mu_o hA (by decide) (by decide) (by decide)]
    by_cases q1 : j = 2 * c + 1
    · rw [q1, up2_self, if_neg (by omega), if_pos rfl]
    · rw [mu_j q1]
      by_cases q0 : j = 2 * c
      · rw [q0, up2_self, if_pos rfl]
      · rw [mu_j q0, if_neg q0, if_neg q1]
        simp (disch := decide) only [mu_o hA]
  · simp (disch := first | assumption | decide) only [mu_o hA]
  · simp (disch := decide) only [am_m hA]
theorem r_plug {Q : Option Value → MM → Prop} {S S1 : MM} {x m out i0 : Nat} {A : Nat → Nat} {v w u t : Int32} (hG : GN S x m out A i0) (hh : GH S S1 x m out A) (md : MDq S S1 x v w u t) (K : ∀ S2, GN S2 x m out A (i0 + 1) → Q none S2) : wX8_plug [.ref m, .int v, .int w, .int u, .int t] S1 Q := by
  have hM1 := hh.2.2.2.2.2.1
  have hA := AD_of hM1
  have hL := ly_of hG
  have hO := hG.2.2.2.2.2.2.1
  obtain ⟨g1, g2, g3, g4, g5, g6, g7, nt, F, cl, bi, n0, fr, hF, hcl⟩ := id hG
  have bi1 := BI_h hh.2.2.2.2.2.2.2.1 hh.2.2.2.2.2.2.2.2 bi
  have ek := hh.2.2.2.2.2.2.2.2
  have pc0 : ∀ i, i < 8 → sI S (Pt (sR S) x 0 i) 2 = sI S1 (A 11) i := fun i hi => by
    have := n0.2.2.2.2.2.2.1.2.1 0 i (by decide) hi
    rw [show 8 * 0 + i = i by omega] at this
    rw [ek 11 (by decide)]
    exact this
  have pc1 : ∀ k, k < 8 → sI S (Pt (sR S) x 1 k) 2 = sI S1 (A 11) (8 + k) := fun k hk => by
    have := n0.2.2.2.2.2.2.1.2.1 1 k (by decide) hk
    rw [show 8 * 1 + k = 8 + k by omega] at this
    rw [ek 11 (by decide)]
    exact this
  refine c_Mplug hM1 bi1.1 (fun h S2 e im => ?_) (fun c i k hc hi hk ec ei ek' nb h S2 e im => ?_) (fun c i k d hc hi hk hd1 hd2 ec ei ekk ed nb xa xb im => ?_)
  · rcases md with ⟨er, es, _⟩ | ⟨c, i, k, Sa, Sb, _, nb, _⟩
    · exact K S2 (r_same hG hh er (ca_e es) e im)
    · exact absurd h nb
  · rcases md with ⟨er, es, _⟩ | ⟨c', i', k', Sa, Sb, ⟨hc', hi', hk', ec', ei', ek''⟩, _, ⟨ya, yb⟩, _⟩
    · exact K S2 (r_same hG hh er (ca_e es) e im)
    · have q1 := nI_inj (by omega) (by omega) (ec.symm.trans ec')
      have q2 := nI_inj (by omega) (by omega) (ei.symm.trans ei')
      have q3 := nI_inj (by omega) (by omega) (ek'.symm.trans ek'')
      subst q1 q2 q3
      rw [pc0 i hi] at ya
      rw [pc1 k hk] at yb
      exact absurd ⟨ya, yb⟩ h
  · rcases md with ⟨er, es, q | ⟨c', i', k', hc', hi', hk', ec', ei', ek', q⟩⟩ | ⟨c', i', k', Sa, Sb, ⟨hc', hi', hk', ec', ei', ek'⟩, _, ⟨ya, yb⟩, ta, tk, tb, pin, hOa, hOb, er, es⟩
    · exact absurd q nb
    · have q1 := nI_inj (by omega) (by omega) (ec.symm.trans ec')
      have q2 := nI_inj (by omega) (by omega) (ei.symm.trans ei')
      have q3 := nI_inj (by omega) (by omega) (ekk.symm.trans ek')
      subst q1 q2 q3
      rw [pc0 i hi, pc1 k hk] at q
      exact absurd ⟨xa, xb⟩ q
    · have q1 := nI_inj (by omega) (by omega) (ec.symm.trans ec')
      have q2 := nI_inj (by omega) (by omega) (ei.symm.trans ei')
      have q3 := nI_inj (by omega) (by omega) (ekk.symm.trans ek')
      subst q1 q2 q3
      rw [ed] at pin
      have s27 : ∀ t, ∃ k, k < 8 ∧ up2 (sI S1) m 0 0 (A 27) t = nI k := fun t => by rw [(J0_k hA).1 27 t (by decide)]; exact bi1.1.1.1 27 8 rfl t
      have s28 : ∀ t, ∃ k, k < 2 ∧ up2 (sI S1) m 0 0 (A 28) t = nI k := fun t => by rw [(J0_k hA).1 28 t (by decide)]; exact bi1.1.1.1 28 2 rfl t
      have n1 := NR_K (NR_h hh n0) (J0_k (J := sI S1) hA).1 ((J0_k (J := sI S1) hA).2 43 (by decide)) ((J0_k (J := sI S1) hA).2 32 (by decide))
      have tg0 : ∀ n, TG (up2 (sI S1) m 0 0) A n = TG (sI S1) A n := fun n => tg_same (J0_k hA).1
      rw [← (J0_k (J := sI S1) hA).1 11 i (by decide)] at xa
      rw [← (J0_k (J := sI S1) hA).1 11 (8 + k) (by decide)] at xb
      have j42 : ∀ j, up2 (sI S1) m 0 0 (A 42) j = sI S1 (A 42) j := fun j => (J0_k hA).1 42 j (by decide)
      have j39 : up2 (sI S1) m 0 0 m 39 = sI S1 m 39 := (J0_k hA).2 39 (by decide)
      have jz : ∀ z, z ≠ m → up2 (sI S1) m 0 0 z = sI S1 z := fun z hz => up2_row hz
      rw [g76] at im ⊢
      -- behind the pull, if there was one
      have stA : ∃ n', NRl (sR Sa) x m A (sI Sa) (if up2 (sI S1) m 0 0 (A 24) c = 0 then up2 (sI S1) m 0 0 else f_X8_isPulled (up2 (sI S1) m 0 0) m A c nt) cl n' ∧ (if up2 (sI S1) m 0 0 (A 24) c = 0 then up2 (sI S1) m 0 0 else f_X8_isPulled (up2 (sI S1) m 0 0) m A c nt) (A 24) c = 0 ∧ (if up2 (sI S1) m 0 0 (A 24) c = 0 then up2 (sI S1) m 0 0 else f_X8_isPulled (up2 (sI S1) m 0 0) m A c nt) (A 25) c = 0 ∧ (∀ y, (if up2 (sI S1) m 0 0 (A 24) c = 0 then up2 (sI S1) m 0 0 else f_X8_isPulled (up2 (sI S1) m 0 0) m A c nt) (A 11) y = -1 ∨ (if up2 (sI S1) m 0 0 (A 24) c = 0 then up2 (sI S1) m 0 0 else f_X8_isPulled (up2 (sI S1) m 0 0) m A c nt) (A 11) y = up2 (sI S1) m 0 0 (A 11) y) ∧ (TG (if up2 (sI S1) m 0 0 (A 24) c = 0 then up2 (sI S1) m 0 0 else f_X8_isPulled (up2 (sI S1) m 0 0) m A c nt) A n').Sublist (TG (sI S1) A nt) ∧ (∀ j, (if up2 (sI S1) m 0 0 (A 24) c = 0 then up2 (sI S1) m 0 0 else f_X8_isPulled (up2 (sI S1) m 0 0) m A c nt) (A 42) j = sI S1 (A 42) j) ∧ (if up2 (sI S1) m 0 0 (A 24) c = 0 then up2 (sI S1) m 0 0 else f_X8_isPulled (up2 (sI S1) m 0 0) m A c nt) m 39 = sI S1 m 39 ∧ ∀ z, z ≠ m → (∀ k ∈ DM, z ≠ A k) → (if up2 (sI S1) m 0 0 (A 24) c = 0 then up2 (sI S1) m 0 0 else f_X8_isPulled (up2 (sI S1) m 0 0) m A c nt) z = sI S1 z := by
        rcases tk with ⟨npl, e⟩ | ⟨p0, p1, r0, r1, tk⟩
        · subst e
          rcases pls n1 hc with ⟨_, z⟩ | ⟨z, _⟩
          · rw [if_pos z]
            exact ⟨nt, n1, z, Classical.byContradiction (fun y => n1.2.2.2.2.2.1.1 c hc y z), fun y => Or.inr rfl, by rw [tg0]; exact List.Sublist.refl _, j42, j39, fun z h1 _ => jz z h1⟩
          · exact absurd z npl
        · obtain ⟨_, q0, q1, h0, h1, e0, e1, P0, P1, p24⟩ := fo_tk hG hc r0 r1 tk
          subst e0 e1
          have P0' : up2 (sI S1) m 0 0 (A 22) (2 * c + 0) = nI q0 := by rw [(J0_k hA).1 22 _ (by decide), ek 22 (by decide)]; exact P0
          have P1' : up2 (sI S1) m 0 0 (A 22) (2 * c + 1) = nI q1 := by rw [(J0_k hA).1 22 _ (by decide), ek 22 (by decide)]; exact P1
          have p24' : ¬ up2 (sI S1) m 0 0 (A 24) c = 0 := by rw [(J0_k hA).1 24 _ (by decide), ek 24 (by decide)]; exact p24
          rw [if_neg p24']
          obtain ⟨J1, n', cut, a1, a2, a3, a4⟩ := pul_R hA n1 s27 s28 hc h0 h1 P0' P1' p24'
          have nz : ∀ z, z ≠ m → (∀ k ∈ DM, z ≠ A k) → f_X8_isPulled (up2 (sI S1) m 0 0) m A c nt z = sI S1 z := fun z h1 h2 => by rw [nm_X8_isPulled (fun k hk => h2 k (mem_sub k hk (by decide))) h1, up2_row h1]
          generalize f_X8_isPulled (up2 (sI S1) m 0 0) m A c nt = J2 at a1 a2 a3 a4 nz ⊢
          have ts := tk_sim hL hO hc h0 h1 tk r0 r1 n1 P0' P1' p24' cut a1 a2 a3 (a4 43) (a4 32)
          have tgE : TG J2 A n' = TG J1 A n' := TG_c (fun t _ => tg_k (fun k hk => by
            have q : ∀ k ∈ ([27, 28, 29, 30, 31] : List Nat), dm k ∧ k ≠ 11 ∧ k ≠ 24 := by decide
            funext j
            exact a3 k j (q k hk).1 (q k hk).2.1 (q k hk).2.2))
          have c42 : ∀ j, J1 (A 42) j = up2 (sI S1) m 0 0 (A 42) j := fun j => cut.2.2.1 42 j (by decide) (by decide) (by decide) (by decide) (by decide) (by decide) (by decide) (by decide) (by decide) (by decide) (by decide) (by decide)
          have c11 : ∀ j, J1 (A 11) j = up2 (sI S1) m 0 0 (A 11) j := fun j => cut.2.2.1 11 j (by decide) (by decide) (by decide) (by decide) (by decide) (by decide) (by decide) (by decide) (by decide) (by decide) (by decide) (by decide)
          refine ⟨n', ts, by rw [a2, if_pos rfl]; rfl, by rw [a3 25 c (by decide) (by decide) (by decide)]; exact cut.2.2.2.2.1, fun y => ?_, by rw [tgE, ← tg0]; exact cut_tg cut, fun j => by rw [a3 42 j (by decide) (by decide) (by decide), c42]; exact j42 j, by rw [a4 39, cut.2.2.2.2.2.1 39 (by decide) (by decide)]; exact j39, nz⟩
          rw [a1 y]
          split
          · exact Or.inl rfl
          · exact Or.inr (c11 y)
      generalize (if up2 (sI S1) m 0 0 (A 24) c = 0 then up2 (sI S1) m 0 0 else f_X8_isPulled (up2 (sI S1) m 0 0) m A c nt) = Ka at stA im ⊢
      obtain ⟨n', na, a24, a25, a11, sub, a42, a39, az⟩ := stA
      have free : ∀ y, y < 16 → (up2 (sI S1) m 0 0 (A 11) y = -1 ∨ up2 (sI S1) m 0 0 (A 11) y = nI c) → Ka (A 11) y = -1 := fun y hy h => by
        rcases na.2.2.2.2.2.1.2.2.2.1 (y / 8) (y % 8) (by omega) (by omega) with z | ⟨c', hc', e', pc, _⟩
        · rw [show 8 * (y / 8) + y % 8 = y by omega] at z; exact z
        · rw [show 8 * (y / 8) + y % 8 = y by omega] at e'
          rcases a11 y with z | z
          · exact z
          · rw [z] at e' ⊢
            rcases h with h | h
            · exact h
            · rw [h] at e'
              have := nI_inj (by omega) (by omega) e'
              subst this
              exact absurd a24 pc
      have fi := free i (by omega) xa
      have fk := free (8 + k) (by omega) xb
      -- the cable is put in
      have ska : sK Sa = sK S ∧ sN Sa = sN S := by
        rcases tk with ⟨_, e⟩ | ⟨p0, p1, _, _, tk⟩
        · subst e; exact ⟨rfl, rfl⟩
        · exact ⟨tk.1, tk.2.1⟩
      have hLa : LY Sa x := LY_ne hL ska.1 ta
      obtain ⟨kb, nb', _, rb, rcb, eb, rjb⟩ := id pin
      have hLb : LY Sb x := LY_ne hLa kb tb
      have leb : LYE (sR Sa) (sR Sb) x := lye hLa (Or.inl ⟨(ly_pp hLa hc).2.1, (ly_pp hLa hc).2.2⟩) (fun z _ hz => rb z hz)
      obtain ⟨b11, b24, b23, b22, bk, bm⟩ := plW_f (J := Ka) (m := m) (c := c) (p := i) (q := k) (w := nI d) hA hi
      generalize hKb : plW Ka A c i k (nI d) = Kb at b11 b24 b23 b22 bk bm im ⊢
      have bz : ∀ z, z ≠ m → (∀ k ∈ DM, z ≠ A k) → Kb z = Ka z := fun z h1 h2 => by
        rw [← hKb]
        unfold plW
        rw [up2_row (h2 11 (by decide)), up2_row (h2 11 (by decide)), up2_row (h2 23 (by decide)), up2_row (h2 22 (by decide)), up2_row (h2 22 (by decide)), up2_row (h2 24 (by decide))]
      have e0 : Pt (sR Sa) x 0 i = px (sR Sa) x i := by
        show _ = Pt (sR Sa) x (i / 8) (i % 8)
        rw [show i / 8 = 0 by omega, show i % 8 = i by omega]
      have e1 : Pt (sR Sa) x 1 k = px (sR Sa) x (8 + k) := by
        show _ = Pt (sR Sa) x ((8 + k) / 8) ((8 + k) % 8)
        rw [show (8 + k) / 8 = 1 by omega, show (8 + k) % 8 = k by omega]
      have ps := pin_sim (d := d) hLa hOa hc hi hk hd1 hd2 leb (fun e he ne => rb _ (fun z => ne (pp_i hLa hOa he hc z))) rcb na a24 a25 fi fk b11 b24 b23 b22 bk (bm 43) (bm 32)
      rw [← e0, ← e1, ← eb] at ps
      -- and is up
      have r0b : sR Sb (ppd (sR Sb) x c) 0 = some (Pt (sR Sb) x 0 i) := by rw [leb.PP c hc, leb.P 0 i (by decide) hi]; exact rcb.1
      have r1b : sR Sb (ppd (sR Sb) x c) 1 = some (Pt (sR Sb) x 1 k) := by rw [leb.PP c hc, leb.P 1 k (by decide) hk]; exact rcb.2
      have P0 : Kb (A 22) (2 * c + 0) = nI i := by rw [b22, if_pos (by omega)]
      have P1 : Kb (A 22) (2 * c + 1) = nI k := by rw [b22, if_neg (by omega), if_pos rfl]
      have p24 : Kb (A 24) c ≠ 0 := by rw [b24, if_pos rfl]; decide
      have u25 : Kb (A 25) c = 0 := by rw [bk 25 c (by decide) (by decide) (by decide) (by decide) (by decide)]; exact a25
      have dkp : ∀ y, y < 16 → Kb (A 11) y = nI c → Kb (A 7) y = 0 := fun y hy hi => Classical.byContradiction (fun z => by
        obtain ⟨c', hc', ec', u'⟩ := ps.2.2.2.2.2.1.2.2.2.2 (y / 8) (y % 8) (by omega) (by omega) (Or.inl (by rw [show 8 * (y / 8) + y % 8 = y by omega]; exact z))
        rw [show 8 * (y / 8) + y % 8 = y by omega, hi] at ec'
        have := nI_inj (by omega) (by omega) ec'
        subst this
        exact u' u25)
      have d0 := dkp i (by omega) (by rw [b11, if_pos (Or.inl rfl)])
      have d1 := dkp (8 + k) (by omega) (by rw [b11, if_pos (Or.inr rfl)])
      obtain ⟨c1, c2, c3, c4, c5, c6⟩ := up_R (m := m) hA hc hi hk P0 P1 ((ps.1 i (by omega)).1.2.1.2.1 d0) ((ps.1 (8 + k) (by omega)).1.2.1.2.1 d1)
      have nz : ∀ z, z ≠ m → (∀ k ∈ DM, z ≠ A k) → f_X8_isUp Kb m A c z = sI S1 z := fun z h1 h2 => by rw [nm_X8_isUp (fun k hk => h2 k (mem_sub k hk (by decide))), bz z h1 h2, az z h1 h2]
      generalize f_X8_isUp Kb m A c = J' at c1 c2 c3 c4 c5 c6 nz im ⊢
      have os := on_sim hLb hc hi hk (on_C hLb hOb hc hi hk r0b r1b) ps P0 P1 p24 ⟨d0, d1⟩ c1 c2 c3 c4 c5 (c6 43) (c6 32)
      have c42 : ∀ j, J' (A 42) j = sI S1 (A 42) j := fun j => by rw [c3 42 j (by decide) (by decide) (by decide) (by decide) (by decide) (by decide) (by decide) (by decide) (by decide), bk 42 j (by decide) (by decide) (by decide) (by decide) (by decide)]; exact a42 j
      have tgE : TG (up2 J' m 44 (nI 0)) A n' = TG Ka A n' := by
        rw [tg_same (fun k j a => mm_a hA a)]
        exact TG_c (fun t _ => tg_k (fun l hl => by
          have q : ∀ k ∈ ([27, 28, 29, 30, 31] : List Nat), dm k ∧ k ≠ 7 ∧ k ≠ 8 ∧ k ≠ 9 ∧ k ≠ 14 ∧ k ≠ 18 ∧ k ≠ 21 ∧ k ≠ 25 ∧ k ≠ 40 ∧ k ≠ 11 ∧ k ≠ 24 ∧ k ≠ 23 ∧ k ≠ 22 := by decide
          obtain ⟨z0, z1, z2, z3, z4, z5, z6, z7, z8, z9, z10, z11, z12⟩ := q l hl
          funext j
          rw [c3 l j z0 z1 z2 z3 z4 z5 z6 z7 z8, bk l j z0 z9 z10 z11 z12]))
      refine K (wI S1 (up2 J' m 44 (nI 0))) (r_exact (n' := n') hh bi1 fr hF hcl im (fun z h1 h2 => by rw [up2_row h1]; exact nz z h1 h2) (fun j => by rw [mm_a hA (by decide)]; exact c42 j) (by rw [mm_j (by decide), c6 39, bm 39]; exact a39) ?_ (by rw [tgE]; exact sub))
      rw [er, es]
      exact NR_I hLb (ca_nc hLb) (NR_K os (fun k j a => mm_a hA a) (mm_j (by decide)) (mm_j (by decide)))
