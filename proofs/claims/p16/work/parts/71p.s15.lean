/-! SIMULATION 15: all ports tell, together -/
theorem tell_ports {S : MM} {b m i : Nat} {A : Nat → Nat} {I I' J J' : Mm} {v : Int32} (hL : LY S b) (hO : OC S) (hA : AD m A) (hi : i < 16) (h1 : ∀ x, x < 16 → RP (sR S) b I J A x ∧ I (px (sR S) b x) 12 = nI 0) (kI : ∀ y, y < 16 → AG (sR S) b y (f_X5_rememberTelling I (px (sR S) b i) (ox (sR S) b i) (lx (sR S) b i) v) I') (hj : ∀ k j, dm k → k ≠ 14 → k ≠ 16 → k ≠ 20 → k ≠ 21 → k ≠ 26 → (k < 27 ∨ 31 < k) → J' (A k) j = J (A k) j) (jo : ∀ k j, dm k → k ≤ 21 → ow k j ≠ i → J' (A k) j = J (A k) j) (j21 : J' (A 21) i = v) (j14 : J' (A 14) i = nI 0) (j200 : J' (A 20) (5 * i) = J (A 1) (i / 8)) (j201 : J' (A 20) (5 * i + 1) = J (A 3) i) (j202 : J' (A 20) (5 * i + 2) = J (A 4) i) (j203 : J' (A 20) (5 * i + 3) = nI (i % 8)) (j204 : J' (A 20) (5 * i + 4) = btv (J (A 5) i) (J (A 6) i) (J (A 3) i) (J (A 9) i)) : ∀ y, y < 16 → RP (sR S) b I' J' A y ∧ I' (px (sR S) b y) 12 = nI 0 := by
  intro y hy
  have n : ∀ z, z ≠ lx (sR S) b i → z ≠ px (sR S) b i → f_X5_rememberTelling I (px (sR S) b i) (ox (sR S) b i) (lx (sR S) b i) v z = I z := fun z h1 h2 => n_X5_rememberTelling h1 h2
  by_cases q : y = i
  · subst q
    have k := kI y hy
    have rr := rr_X5_rememberTelling (I := I) (v := v) (d_po hL hO hy hy) (d_pl hL hO hy hy) (d_ol hL hO hy hy)
    have eo := n _ (d_ol hL hO hy hy) (d_op hL hO hy hy)
    have eq := n _ (d_ql hL hO hy hy) (d_qp hL hO hy hy)
    have s := s_rem (rl := I (lx (sR S) b y)) (J' := J') (v := v) hA (h1 y hy).1.1 (h1 y hy).1.2.1 hj j21 j14 j200 j201 j202 j203 j204
    refine ⟨⟨?_, s.2.1, ?_⟩, ?_⟩
    · rw [k.1, k.2.1, k.2.2.1, rr.2, eo, eq]; exact s.1
    · rw [k.1, k.2.2.2, rr.1, rr.2]; exact s.2.2.1
    · rw [k.1, rr.2, s.2.2.2]; exact (h1 y hy).2
  · have k := kI y hy
    have ag : AG (sR S) b y I I' := ⟨k.1.trans (n _ (d_pl hL hO hy hi) (d_pp hL hO hy hi q)), k.2.1.trans (n _ (d_ol hL hO hy hi) (d_op hL hO hy hi)), k.2.2.1.trans (n _ (d_ql hL hO hy hi) (d_qp hL hO hy hi)), k.2.2.2.trans (n _ (d_ll hL hO hy hi q) (d_lp hL hO hy hi))⟩
    refine ⟨RP_g (h1 y hy).1 ag (fun k j a c d => jo k j a c (by omega)), ?_⟩
    rw [ag.1]; exact (h1 y hy).2
theorem tell_step {S : MM} {b m cl : Nat} {A Bd : Nat → Nat} {I0 J0 : Mm} (hL : LY S b) (hO : OC S) (hA : AD m A) (ht : HT J0 A Bd) (hcl : cl < 1000000000) (c0 : I0 b 2 = nI cl) (m43 : J0 m 43 = nI cl) (cb : ∀ x, x < 16 → ¬ J0 (A 7) x = 0 → ∀ c, c < 8 → J0 (A 11) x = nI c → I0 (Cb (sR S) b c) 2 = J0 (A 23) c) (i : Nat) (I J : Mm) (hi : i < 16) (h : PT S b m cl A Bd I0 J0 i I J) : PT S b m cl A Bd I0 J0 (i + 1) (teE (sR S) b (i / 8) (i % 8) I) (f_putsW J m A i) := by
  obtain ⟨h1, ⟨nt, e32, hnt, ln⟩, du, ⟨ib, icb, ien⟩, jk, jm⟩ := h
  have he : i / 8 < 2 := by omega
  have RPi := h1 i hi
  have v43 : I b 2 = J m 43 := by rw [ib, c0, jm 43 (by decide) (by decide), m43]
  have must := s_must hA RPi.1.1 RPi.1.2.1 RPi.1.2.2
  rw [← v43] at must
  have nts : (J m 32).toNatClampNeg = nt := by rw [e32, nI_cl (by omega)]
  by_cases pc : PC J m A i
  · have lit : ¬ J0 (A 7) i = 0 := by
      have := pc.1
      rw [jk 7 i (by decide) (by decide) (by decide) (by decide) (by decide) (by decide) (by decide)] at this
      exact this
    obtain ⟨c, hc, ec0, ed⟩ := ht.1 i hi lit
    have ec : J (A 11) i = nI c := by rw [jk 11 i (by decide) (by decide) (by decide) (by decide) (by decide) (by decide) (by decide)]; exact ec0
    have eI : I (px (sR S) b i) 2 = nI c := RPi.1.1.1.trans ec
    have tE : teE (sR S) b (i / 8) (i % 8) I = (f_X7_tellFrom I (sR S) b (i / 8) (i % 8)).1 := by
      unfold teE
      rw [rr_X5_mustTell, if_neg (by rw [must]; exact fun z => z pc)]
    have pE : f_putsW J m A i = g_X8_puts_142 (JR J m A i) m A i nt c := by
      unfold f_putsW
      rw [nts, ec, nI_cl (by omega), m_puts, if_pos pc, p86 hA]
    rw [p142 hA, JR_o hA (by decide) (by decide) (by decide) (by decide) (by decide)] at pE
    rw [tf_E hL hO hi hc eI] at tE
    have l6 : I (Ln (sR S) b c (i / 8)) 6 = J (A 26) (2 * c + i / 8) := (ln c (i / 8) hc he).2.1
    rw [l6] at tE
    have kp := k_px hL hi
    have kl := k_lx hL hi
    have n : ∀ z, z ≠ lx (sR S) b i → z ≠ px (sR S) b i → f_X5_rememberTelling I (px (sR S) b i) (ox (sR S) b i) (lx (sR S) b i) (I b 2) z = I z := fun z h1 h2 => n_X5_rememberTelling h1 h2
    have nb : f_X5_rememberTelling I (px (sR S) b i) (ox (sR S) b i) (lx (sR S) b i) (I b 2) b = I b := n _ (ne_k hL.2 kl (by decide)) (ne_k hL.2 kp (by decide))
    have nC : ∀ d, d < 8 → f_X5_rememberTelling I (px (sR S) b i) (ox (sR S) b i) (lx (sR S) b i) (I b 2) (Cb (sR S) b d) = I (Cb (sR S) b d) := fun d hd => n _ (ne_k (ly_C hL hd).2.1 kl (by decide)) (ne_k (ly_C hL hd).2.1 kp (by decide))
    have nEn : ∀ d, d < 2 → f_X5_rememberTelling I (px (sR S) b i) (ox (sR S) b i) (lx (sR S) b i) (I b 2) (En (sR S) b d) = I (En (sR S) b d) := fun d hd => n _ (ne_k (ly_E hL hd).2.1 kl (by decide)) (ne_k (ly_E hL hd).2.1 kp (by decide))
    have nL : ∀ d e, d < 8 → e < 2 → f_X5_rememberTelling I (px (sR S) b i) (ox (sR S) b i) (lx (sR S) b i) (I b 2) (Ln (sR S) b d e) = I (Ln (sR S) b d e) := fun d e hd he => n _ (ne_k (ly_N hL hd he).2.1 kl (by decide)) (ne_k (ly_N hL hd he).2.1 kp (by decide))
    have nCN : ∀ d e, d < 8 → e < 2 → CN (f_X5_rememberTelling I (px (sR S) b i) (ox (sR S) b i) (lx (sR S) b i) (I b 2)) (sR S) b d e = CN I (sR S) b d e := fun d e hd he => CN_c (rm_lc hL hO hi hd he)
    have nOw : f_X5_rememberTelling I (px (sR S) b i) (ox (sR S) b i) (lx (sR S) b i) (I b 2) (ox (sR S) b i) = I (ox (sR S) b i) := n _ (d_ol hL hO hi hi) (d_op hL hO hi hi)
    have nPa : f_X5_rememberTelling I (px (sR S) b i) (ox (sR S) b i) (lx (sR S) b i) (I b 2) (qx (sR S) b i) = I (qx (sR S) b i) := n _ (d_ql hL hO hi hi) (d_qp hL hO hi hi)
    have d0 := du c (i / 8) hc he
    have dI := d0.2 i (Nat.le_refl i) hi lit rfl ec0
    have bd := ht.2.2 c hc
    have tgJ : TG (JR J m A i) A nt = TG J A nt := TG_c (fun t _ => tg_k (fun k hk => by
      have : ∀ k ∈ ([27, 28, 29, 30, 31] : List Nat), dm k ∧ k ≠ 14 ∧ k ≠ 16 ∧ k ≠ 20 ∧ k ≠ 21 := by decide
      obtain ⟨a1, a2, a3, a4, a5⟩ := this k hk
      funext j
      exact JR_o hA a1 a2 a3 a4 a5))
    have other : ∀ d e, ¬ (d = c ∧ e = i / 8) → ∀ x, i + 1 ≤ x → x / 8 = e → J0 (A 11) x = nI d → i ≤ x := fun d e _ x hx _ _ => by omega
    by_cases lo : J (A 26) (2 * c + i / 8) ≤ 0
    · rw [if_pos lo] at pE tE
      rw [tE, pE]
      clear tE pE
      have len : (f_X5_rememberTelling I (px (sR S) b i) (ox (sR S) b i) (lx (sR S) b i) (I b 2) (Ln (sR S) b c (i / 8)) 2).toNatClampNeg < 8 := by
        rw [nL c _ hc he, ← CN_len]
        have := DU_len _ _ _ dI
        omega
      have rg2 : ∃ n, n < 9 ∧ f_X5_rememberTelling I (px (sR S) b i) (ox (sR S) b i) (lx (sR S) b i) (I b 2) (Ln (sR S) b c (i / 8)) 2 = nI n := by rw [nL c _ hc he]; exact (ln c _ hc he).2.2
      have ca := cn_add (v := I b 2 + I (Cb (sR S) b c) 2) (x := i % 8) (e2 := i / 8) hL hO hc he he (by omega) len rg2
      rw [nCN c _ hc he] at ca
      have due : I b 2 + I (Cb (sR S) b c) 2 = nI (cl + Bd c) := by rw [ib, c0, icb c hc, cb i hi lit c hc ec0, ed, nI_add]
      generalize hI3 : f_X5_rememberTelling I (px (sR S) b i) (ox (sR S) b i) (lx (sR S) b i) (I b 2) = I3 at *
      have rows : ∀ z, (sK S z = 6 ∨ sK S z = 8 ∨ sK S z = 1 ∨ sK S z = 2) → f_X3_addNote I3 (sR S) b c (i / 8) (i / 8) (i % 8) (I b 2 + I (Cb (sR S) b c) 2) z = I3 z := fun z hz => by
        refine an_k (fun s hs => ⟨?_, ?_, ?_⟩) ?_ <;> rcases hz with k | k | k | k
        all_goals first | exact ne_k k (ly_TO hL hc he hs).2.1 (by decide) | exact ne_k k (ly_TP hL hc he hs).2.1 (by decide) | exact ne_k k (ly_T hL hc he hs).2.1 (by decide) | exact ne_k k (ly_N hL hc he).2.1 (by decide)
      have told : ∀ z a j, TO S z a j → sK S a = 6 → sK S z = 7 → f_X3_addNote I3 (sR S) b c (i / 8) (i / 8) (i % 8) (I b 2 + I (Cb (sR S) b c) 2) z = I3 z := fun z a j t ka kz => an_k (fun s hs => ⟨to_a hO t (to_nO hL hc he hs) (ne_k ka (ly_T hL hc he hs).2.1 (by decide)), to_a hO t (to_nP hL hc he hs) (ne_k ka (ly_T hL hc he hs).2.1 (by decide)), ne_k kz (ly_T hL hc he hs).2.1 (by decide)⟩) (ne_k kz (ly_N hL hc he).2.1 (by decide))
      have ro := RPi.1.1
      have tn := tg_new (K := JR J m A i) (m := m) (x := i) (nt := nt) (c := c) (e := i / 8) (ro := I (ox (sR S) b i)) (rq := I (qx (sR S) b i)) hA (by rw [JR_o hA (by decide) (by decide) (by decide) (by decide) (by decide)]; exact ro.2.2.2.2.2.2.2.2.1) (by rw [JR_o hA (by decide) (by decide) (by decide) (by decide) (by decide)]; exact ro.2.2.2.2.2.2.2.2.2.1) (by rw [JR_o hA (by decide) (by decide) (by decide) (by decide) (by decide)]; exact ro.2.2.2.2.2.2.2.2.2.2.1) ro.2.2.2.2.2.2.2.2.2.2.2.1 (by rw [JR_o hA (by decide) (by decide) (by decide) (by decide) (by decide), JR_o hA (by decide) (by decide) (by decide) (by decide) (by decide), JR_o hA (by decide) (by decide) (by decide) (by decide) (by decide), JR_o hA (by decide) (by decide) (by decide) (by decide) (by decide)]; exact ro.2.2.2.2.2.2.2.2.2.2.2.2.1) (by rw [JR_o hA (by decide) (by decide) (by decide) (by decide) (by decide)]; exact ro.2.2.2.2.2.2.2.2.2.2.2.2.2.1) (by rw [JR_o hA (by decide) (by decide) (by decide) (by decide) (by decide)]; exact ro.2.2.2.2.2.2.2.2.2.2.2.2.2.2.1) (by rw [JR_o hA (by decide) (by decide) (by decide) (by decide) (by decide)]; exact ro.2.2.2.2.2.2.2.2.2.2.2.2.2.2.2.1) (by rw [JR_o hA (by decide) (by decide) (by decide) (by decide) (by decide)]; exact ro.2.2.2.2.2.2.2.2.2.2.2.2.2.2.2.2.1) (by rw [JR_o hA (by decide) (by decide) (by decide) (by decide) (by decide)]; exact ro.2.2.2.2.2.2.2.2.2.2.2.2.2.2.2.2.2)
      have bq : BB (nq c (i / 8) (I b 2 + I (Cb (sR S) b c) 2) (I (ox (sR S) b i)) (I (qx (sR S) b i))) := by
        obtain ⟨s9, hs9, es9⟩ := RPi.1.2.1.1
        refine ⟨?_, ?_⟩
        · show ∃ n, n < 64 ∧ I (ox (sR S) b i) 4 = nI n
          rw [ro.2.2.2.2.2.2.2.2.2.2.2.2.1, es9]
          exact btv_r hs9
        · show ∃ n, n < 64 ∧ I (qx (sR S) b i) 4 = nI n
          rw [ro.2.2.2.2.2.2.2.2.2.2.2.2.2.2.2.2.2]
          exact RPi.1.2.1.2.2.2
      have jdue : JR J m A i m 43 + JR J m A i (A 23) c = I b 2 + I (Cb (sR S) b c) 2 := by rw [JR_m hA, JR_o hA (by decide) (by decide) (by decide) (by decide) (by decide), ← v43, icb c hc, cb i hi lit c hc ec0, jk 23 c (by decide) (by decide) (by decide) (by decide) (by decide) (by decide) (by decide)]
      rw [jdue] at tn
      have tgN : TG (JN (JR J m A i) m A i nt c (i / 8)) A (nt + 1) = TG J A nt ++ [nq c (i / 8) (I b 2 + I (Cb (sR S) b c) 2) (I (ox (sR S) b i)) (I (qx (sR S) b i))] := by
        rw [TG_s, tn, TG_c (fun t ht => tg_old hA ht), tgJ]
      have caE : CN (f_X3_addNote I3 (sR S) b c (i / 8) (i / 8) (i % 8) (I b 2 + I (Cb (sR S) b c) 2)) (sR S) b c (i / 8) = CN I (sR S) b c (i / 8) ++ [nq c (i / 8) (I b 2 + I (Cb (sR S) b c) 2) (I (ox (sR S) b i)) (I (qx (sR S) b i))] := by
        rw [ca]
        rw [show I3 (Ow (sR S) b (i / 8) (i % 8)) = I (ox (sR S) b i) from nOw, show I3 (Pa (sR S) b (i / 8) (i % 8)) = I (qx (sR S) b i) from nPa]
      have cnO : ∀ d e, d < 8 → e < 2 → ¬ (d = c ∧ e = i / 8) → CN (f_X3_addNote I3 (sR S) b c (i / 8) (i / 8) (i % 8) (I b 2 + I (Cb (sR S) b c) 2)) (sR S) b d e = CN I (sR S) b d e := fun d e hd he2 ne => (CN_c (an_lc hL hO hc he hd he2 ne).1).trans (nCN d e hd he2)
      have jN : ∀ k j, dm k → k ≠ 14 → k ≠ 16 → k ≠ 20 → k ≠ 21 → (k < 27 ∨ 31 < k) → JN (JR J m A i) m A i nt c (i / 8) (A k) j = J (A k) j := fun k j a1 a2 a3 a4 a5 a6 => (JN_o hA a1 a6).trans (JR_o hA a1 a2 a3 a4 a5)
      refine ⟨?_, ⟨nt + 1, JN_32, by omega, fun d e hd he2 => ?_⟩, fun d e hd he2 => ?_, ⟨(rows b (Or.inr (Or.inl hL.2))).trans (nb.trans ib), fun d hd => (rows _ (Or.inr (Or.inr (Or.inl (ly_C hL hd).2.1)))).trans ((nC d hd).trans (icb d hd)), fun d hd => (rows _ (Or.inr (Or.inr (Or.inr (ly_E hL hd).2.1)))).trans ((nEn d hd).trans (ien d hd))⟩, fun k j a1 a2 a3 a4 a5 a6 a7 => (jN k j a1 a2 a3 a4 a5 a7).trans (jk k j a1 a2 a3 a4 a5 a6 a7), fun j a1 a2 => ((JN_m hA a1).trans (JR_m hA)).trans (jm j a1 a2)⟩
      · subst hI3
        refine tell_ports (J := J) (v := I b 2) hL hO hA hi h1 (fun y hy => ⟨rows _ (Or.inl (k_px hL hy)), told _ _ _ (to_ox hL hy) (k_px hL hy) (k_ox hL hy), told _ _ _ (to_qx hL hy) (k_px hL hy) (k_qx hL hy), told _ _ _ (to_lx hL hy) (k_px hL hy) (k_lx hL hy)⟩) (fun k j a1 a2 a3 a4 a5 a6 a7 => jN k j a1 a2 a3 a4 a5 a7) (fun k j a1 a2 a3 => (JN_o hA a1 (by omega)).trans (JR_f hA k j a1 (by omega) a3)) ?_ ?_ ?_ ?_ ?_ ?_ ?_
        · rw [JN_o hA (by decide) (by decide), JR_21 hA, v43]
        · rw [JN_o hA (by decide) (by decide), JR_14 hA]
        · rw [JN_o hA (by decide) (by decide), JR_200 hA]
        · rw [JN_o hA (by decide) (by decide), JR_201 hA]
        · rw [JN_o hA (by decide) (by decide), JR_202 hA]
        · rw [JN_o hA (by decide) (by decide), JR_203 hA]
        · rw [JN_o hA (by decide) (by decide), JR_204 hA]
      · rw [tgN, List.filter_append, jN 26 _ (by decide) (by decide) (by decide) (by decide) (by decide) (by decide)]
        have iq := isL_nq (d := I b 2 + I (Cb (sR S) b c) 2) (ro := I (ox (sR S) b i)) (rq := I (qx (sR S) b i)) hc he hd he2
        by_cases ne : d = c ∧ e = i / 8
        · obtain ⟨rfl, rfl⟩ := ne
          refine ⟨?_, ?_, ?_⟩
          · rw [caE, (ln d _ hd he).1, List.filter_cons_of_pos (by rw [iq]; simp), List.filter_nil]
          · rw [an_l hL hd he (by decide), nL d _ hd he]; exact l6
          · obtain ⟨n0, hn0, en0⟩ := rg2
            rw [en0, nI_cl (by omega)] at len
            have q := CN_len (I := f_X3_addNote I3 (sR S) b d (i / 8) (i / 8) (i % 8) (I b 2 + I (Cb (sR S) b d) 2)) (R := sR S) (b := b) (c := d) (e := i / 8)
            refine ⟨n0 + 1, by omega, ?_⟩
            unfold f_X3_addNote
            rw [en0, nI_cl (by omega), if_pos len]
            exact up2_self _ _ _ _
        · refine ⟨?_, ?_, ?_⟩
          · rw [cnO d e hd he2 ne, (ln d e hd he2).1, List.filter_cons_of_neg (by rw [iq]; simp [ne]), List.filter_nil, List.append_nil]
          · rw [(an_lc hL hO hc he hd he2 ne).2, nL d e hd he2]; exact (ln d e hd he2).2.1
          · rw [(an_lc hL hO hc he hd he2 ne).2, nL d e hd he2]; exact (ln d e hd he2).2.2
      · by_cases ne : d = c ∧ e = i / 8
        · obtain ⟨rfl, rfl⟩ := ne
          rw [caE]
          exact ⟨DU_app dI due bq (by omega) (by omega), fun x hx1 hx2 lx ex cx => absurd (ht.2.1 x i d hx2 hi hd ex cx ec0) (by omega)⟩
        · rw [cnO d e hd he2 ne]
          exact ⟨(du d e hd he2).1, fun x hx1 hx2 lx ex cx => (du d e hd he2).2 x (by omega) hx2 lx ex cx⟩
    · rw [if_neg lo] at pE tE
      rw [tE, pE]
      clear tE pE
      generalize hI3 : f_X5_rememberTelling I (px (sR S) b i) (ox (sR S) b i) (lx (sR S) b i) (I b 2) = I3 at *
      have rows : ∀ z, sK S z ≠ 4 → up2 I3 (Ln (sR S) b c (i / 8)) 6 (J (A 26) (2 * c + i / 8) - nI 1) z = I3 z := fun z hz => up2_row (fun y => hz (by rw [y]; exact (ly_N hL hc he).2.1))
      have lcs : ∀ d e, d < 8 → e < 2 → CN (up2 I3 (Ln (sR S) b c (i / 8)) 6 (J (A 26) (2 * c + i / 8) - nI 1)) (sR S) b d e = CN I (sR S) b d e := fun d e hd he2 => (CN_c (I := I3) ⟨up2_ne (fun z => absurd z.2 (by decide)), up2_ne (fun z => absurd z.2 (by decide)), fun s hs => ⟨by rw [rows _ (by rw [(ly_T hL hd he2 hs).2.1]; decide)], rows _ (by rw [(ly_TO hL hd he2 hs).2.1]; decide), rows _ (by rw [(ly_TP hL hd he2 hs).2.1]; decide)⟩⟩).trans (nCN d e hd he2)
      have jL : ∀ k j, dm k → k ≠ 14 → k ≠ 16 → k ≠ 20 → k ≠ 21 → k ≠ 26 → JL (JR J m A i) m A i c (A k) j = J (A k) j := fun k j a1 a2 a3 a4 a5 a6 => (JL_o hA a1 a6).trans (JR_o hA a1 a2 a3 a4 a5)
      have tgL : TG (JL (JR J m A i) m A i c) A nt = TG J A nt := TG_c (fun t _ => tg_k (fun k hk => by
        have : ∀ k ∈ ([27, 28, 29, 30, 31] : List Nat), dm k ∧ k ≠ 14 ∧ k ≠ 16 ∧ k ≠ 20 ∧ k ≠ 21 ∧ k ≠ 26 := by decide
        obtain ⟨a1, a2, a3, a4, a5, a6⟩ := this k hk
        funext j
        exact jL k j a1 a2 a3 a4 a5 a6))
      refine ⟨?_, ⟨nt, ?_, by omega, fun d e hd he2 => ?_⟩, fun d e hd he2 => ?_, ⟨(rows b (by rw [hL.2]; decide)).trans (nb.trans ib), fun d hd => (rows _ (by rw [(ly_C hL hd).2.1]; decide)).trans ((nC d hd).trans (icb d hd)), fun d hd => (rows _ (by rw [(ly_E hL hd).2.1]; decide)).trans ((nEn d hd).trans (ien d hd))⟩, fun k j a1 a2 a3 a4 a5 a6 a7 => (jL k j a1 a2 a3 a4 a5 a6).trans (jk k j a1 a2 a3 a4 a5 a6 a7), fun j a1 a2 => ((JL_m hA a2).trans (JR_m hA)).trans (jm j a1 a2)⟩
      · subst hI3
        refine tell_ports (J := J) (v := I b 2) hL hO hA hi h1 (fun y hy => ⟨rows _ (by rw [k_px hL hy]; decide), rows _ (by rw [k_ox hL hy]; decide), rows _ (by rw [k_qx hL hy]; decide), rows _ (by rw [k_lx hL hy]; decide)⟩) (fun k j a1 a2 a3 a4 a5 a6 a7 => jL k j a1 a2 a3 a4 a5 a6) (fun k j a1 a2 a3 => (JL_o hA a1 (by omega)).trans (JR_f hA k j a1 (by omega) a3)) ?_ ?_ ?_ ?_ ?_ ?_ ?_
        · rw [JL_o hA (by decide) (by decide), JR_21 hA, v43]
        · rw [JL_o hA (by decide) (by decide), JR_14 hA]
        · rw [JL_o hA (by decide) (by decide), JR_200 hA]
        · rw [JL_o hA (by decide) (by decide), JR_201 hA]
        · rw [JL_o hA (by decide) (by decide), JR_202 hA]
        · rw [JL_o hA (by decide) (by decide), JR_203 hA]
        · rw [JL_o hA (by decide) (by decide), JR_204 hA]
      · rw [JL_m hA (by decide), JR_m hA, e32]
      · rw [tgL, lcs d e hd he2, JL_26 hA]
        refine ⟨(ln d e hd he2).1, ?_, ?_⟩
        · by_cases ne : d = c ∧ e = i / 8
          · obtain ⟨rfl, rfl⟩ := ne
            rw [up2_self, if_pos rfl, JR_o hA (by decide) (by decide) (by decide) (by decide) (by decide)]
          · rw [if_neg (by omega), JR_o hA (by decide) (by decide) (by decide) (by decide) (by decide), up2_row (fun z => ne (i_Ln hL hO hd hc he2 he z)), nL d e hd he2]
            exact (ln d e hd he2).2.1
        · rw [up2_ne (fun z => absurd z.2 (by decide)), nL d e hd he2]
          exact (ln d e hd he2).2.2
      · rw [lcs d e hd he2]
        exact ⟨(du d e hd he2).1, fun x hx1 hx2 lx ex cx => (du d e hd he2).2 x (by omega) hx2 lx ex cx⟩
  · have tE : teE (sR S) b (i / 8) (i % 8) I = I := by
      unfold teE
      rw [rr_X5_mustTell, if_pos (by rw [must]; exact pc)]
    have pE : f_putsW J m A i = J := by
      unfold f_putsW
      rw [m_puts, if_neg pc]
    rw [tE, pE]
    exact ⟨h1, ⟨nt, e32, by omega, ln⟩, fun c e hc he2 => ⟨(du c e hc he2).1, fun x hx1 hx2 lx ex cx => (du c e hc he2).2 x (by omega) hx2 lx ex cx⟩, ⟨ib, icb, ien⟩, jk, jm⟩
theorem sim_tell {S : MM} {b m cl : Nat} {A Bd : Nat → Nat} {I0 J0 : Mm} (hL : LY S b) (hO : OC S) (hA : AD m A) (ht : HT J0 A Bd) (hcl : cl < 1000000000) (c0 : I0 b 2 = nI cl) (m43 : J0 m 43 = nI cl) (cb : ∀ x, x < 16 → ¬ J0 (A 7) x = 0 → ∀ c, c < 8 → J0 (A 11) x = nI c → I0 (Cb (sR S) b c) 2 = J0 (A 23) c) (h : PT S b m cl A Bd I0 J0 0 I0 J0) : PT S b m cl A Bd I0 J0 16 (f_X7_tellAll I0 (sR S) b).1 (fd (fun x J => f_putsW J m A x) 16 0 J0) := by
  rw [fd_tell]
  exact fd_sim (N := 16) (f := fun x => teE (sR S) b (x / 8) (x % 8)) (g := fun x J => f_putsW J m A x) (P := PT S b m cl A Bd I0 J0) (fun i I J hi p => tell_step hL hO hA ht hcl c0 m43 cb i I J hi p) 16 0 I0 J0 rfl h
