/-! SIMULATION 99: a tick keeps the counters and what they hang on -/
def XRl (R : Nat → Nat → Option Nat) (b m : Nat) (A : Nat → Nat) (I J : Mm) (nt F : Nat) (φ : Nat → Nat) : Prop := (I b 3 = J m 44 ∧ I b 4 = J m 45 ∧ I b 5 = J m 46 ∧ I b 6 = J m 47 ∧ I b 7 = J m 48 ∧ I b 8 = J m 49) ∧ (∀ e, e < 2 → I (En R b e) 8 = J (A 40) e ∧ I (En R b e) 7 = nI (gcB (fun g => decide (J (A 33) g = nI e)) F)) ∧ PHl R b I J A nt φ ∧ ∀ e, e < 2 → SRc R b e I J A F φ ∧ LTc R b e I J A F φ (J (A 38))
theorem fE_of {R : Nat → Nat → Option Nat} {b nt F : Nat} {A : Nat → Nat} {I J : Mm} {φ : Nat → Nat} (s27 : ∀ t, ∃ k, k < 8 ∧ J (A 27) t = nI k) (s28 : ∀ t, ∃ e, e < 2 ∧ J (A 28) t = nI e) (ph : PHl R b I J A nt φ) (sr : ∀ e, e < 2 → SRc R b e I J A F φ) : ∀ t, t < nt → ¬ J (A 30) t = -1 → J (A 33) (J (A 30) t).toNatClampNeg = J (A 28) t := fun t ht hn => by
  obtain ⟨c, hc, ec⟩ := s27 t
  obtain ⟨e, he, ee⟩ := s28 t
  have hm : (J (A 30) t).toNatClampNeg ∈ ((TG J A nt).filter (isG c e)).map (fun q => (q 3).toNatClampNeg) := List.mem_map.mpr ⟨tg J A t, List.mem_filter.mpr ⟨List.mem_map.mpr ⟨t, List.mem_range.mpr ht, rfl⟩, decide_eq_true ⟨ec, ee, hn⟩⟩, rfl⟩
  rw [← ph c e hc he] at hm
  obtain ⟨z, hz, ez⟩ := List.mem_map.mp hm
  rw [← ez, (sr e he c hc z hz).2.1, ee]
theorem m_row {m : Nat} {A : Nat → Nat} {L : List Nat} (hA : AD m A) (hL : ∀ l ∈ L, dm l) : ∀ l ∈ L, m ≠ A l := fun l hl y => hA.2 l (hL l hl) y.symm
/-- the reference's own numbers from the frames' coming to the telling -/
theorem mid_m {m nt nf : Nat} {A : Nat → Nat} {J : Mm} (hA : AD m A) : (mid8 J m A nt nf).1 m 50 = nI 0 ∧ ∀ j, j ≠ 50 → (mid8 J m A nt nf).1 m j = (f_X8_comes J m A nt nf).1 m j := by
  unfold mid8
  try dsimp only
  refine ⟨up2_self _ _ _ _, fun j hj => ?_⟩
  rw [mm_j hj, fd_steps]
  generalize (g_X8_tick_7 m A nt nf 16 0 (f_X8_comes J m A nt nf).1 (f_X8_comes J m A nt nf).2).2 = w
  have q2 : ∀ K : Mm, (fd (fun x J => f_X8_steps J m A x) 16 0 K) m = K m := fun K => fd_keep (N := 16) (f := fun x J => f_X8_steps J m A x) (P := fun J' => J' m = K m) (fun i J' _ p => (nm_X8_steps (m_row hA (by decide))).trans p) 16 0 K rfl rfl
  have q3 : ∀ (K : Mm) (e : Nat), f_X8_chooses K m A e m = K m := fun K e => nm_X8_chooses (m_row hA (by decide))
  have q4 : ∀ K : Mm, (fd (fun x J => f_X8_ages J m A x) 16 0 K) m = K m := fun K => fd_keep (N := 16) (f := fun x J => f_X8_ages J m A x) (P := fun J' => J' m = K m) (fun i J' _ p => (nm_X8_ages (m_row hA (by decide))).trans p) 16 0 K rfl rfl
  rw [q2, q3, q3, fd_ages, q4]
theorem tick_x {S : MM} {b m cl nt nt' nf : Nat} {A : Nat → Nat} {I J : Mm} {new : List (Nat → Int32)} {φ : Nat → Nat} (hL : LY S b) (hO : OC S) (hA : AD m A) (hcl : cl < 1000000000) (s27 : ∀ t, ∃ k, k < 8 ∧ J (A 27) t = nI k) (s28 : ∀ t, ∃ e, e < 2 ∧ J (A 28) t = nI e) (s22 : ∀ t, ∃ p, p < 8 ∧ J (A 22) t = nI p) (l1 : ∀ c e, c < 8 → e < 2 → ∃ n, n < 8 ∧ I (Ln (sR S) b c e) 1 = nI n) (h : NRl (sR S) b m A I J cl nt) (hnt : nt + 16 ≤ 4000) (hF : nf < 4200) (fr : FRl (sR S) b A I J cl nt) (bn : BN (sR S) b I J A) (hb : ∀ e, e < 2 → ∃ n, n ≤ 4000 ∧ J (A 42) e = nI n) (cmt : ∀ c, c < 8 → I (Cb (sR S) b c) 4 = mcl I (sR S) b c) (xr : XRl (sR S) b m A I J nt nf φ) (tgE : TG (f_X8_tick J m A nt nf).1 A nt' = (TG J A nt).filter (nd cl) ++ new) (nw : ∀ q ∈ new, q 3 = -1) (nr' : NRl (sR S) b m A (f_X7_runTick I (sR S) b) (f_X8_tick J m A nt nf).1 (cl + 1) nt') (kmE : ∀ k ∈ KMt, (f_X8_tick J m A nt nf).1 (A k) = J (A k)) : XRl (sR S) b m A (f_X7_runTick I (sR S) b) (f_X8_tick J m A nt nf).1 nt' nf φ ∧ ∀ c, c < 8 → f_X7_runTick I (sR S) b (Cb (sR S) b c) 4 = mcl (f_X7_runTick I (sR S) b) (sR S) b c := by
  obtain ⟨⟨x3, x4, x5, x6, x7, x8⟩, xe, ph, xs⟩ := xr
  have cm' : ∀ c, c < 8 → f_X7_runTick I (sR S) b (Cb (sR S) b c) 4 = mcl (f_X7_runTick I (sR S) b) (sR S) b c := fun c hc => by
    rw [mcl_m nr' hc, isM_c kmE, ← mcl_m h hc, ← cmt c hc, f2_run hL FO2.rf _ (by rw [wk_17 (ly_C hL hc).2.1 (by decide)]; rfl)]
  refine ⟨?_, cm'⟩
  have epT := ep_tick (nt := nt) (nf := nf) hL hO hA hcl s27 s28 l1 h bn (fun e he => (xe e he).1)
  obtain ⟨I3, w, n, rt, hn, pt, t5, r32, ⟨ib, jb⟩, en, v7, cb, jk5, dk5, j42, jm, nez⟩ := tick_mid (nf := nf) hL hO hA hcl s27 s28 l1 h hnt
  have seq := set_eq nr' cm'
  have md := mid_m (J := J) (nt := nt) (nf := nf) hA
  have Z := h
  obtain ⟨h1, h2, h3, ⟨h4a, h4b, h4c⟩, h5, h6, h7, h8, h9, h10, h11⟩ := Z
  have fEE := fE_of s27 s28 ph (fun e he => (xs e he).1)
  -- frames that come
  obtain ⟨fl, fk, fe⟩ := fr
  have fa := fa_run (I := I) hL hO
  have fbe := fbe_all hL hO 8 0 I rfl
  have tk := fun k (hk : dm k) (h1 : 32 ≤ k) (h2 : k ≠ 40) j => tick_k (nt := nt) (nf := nf) (J := J) hA hk h1 h2 j
  have ht := HT_of h6
  have E1 : f_X7_bringAll I (sR S) b = g_X7_bringAll_2 (sR S) b 8 0 I := rfl
  have E2 : f_X8_comes J m A nt nf = g_X8_comes_142 m A nt nf nt 0 0 (g_X8_comes_37 m A nt nf 8 0 (g_X8_comes_16 m A nt nf 16 0 J (J (A 42) 0 + J (A 42) 1)).1 (g_X8_comes_16 m A nt nf 16 0 J (J (A 42) 0 + J (A 42) 1)).2).1 (g_X8_comes_37 m A nt nf 8 0 (g_X8_comes_16 m A nt nf 16 0 J (J (A 42) 0 + J (A 42) 1)).1 (g_X8_comes_16 m A nt nf 16 0 J (J (A 42) 0 + J (A 42) 1)).2).2 := rfl
  rw [E1] at fa nez
  rw [E2] at tk md
  obtain ⟨a1, a2, a3, _⟩ := g16 (nt := nt) (nf := nf) hA 16 0 J (J (A 42) 0 + J (A 42) 1) (by omega)
  generalize (g_X8_comes_16 m A nt nf 16 0 J (J (A 42) 0 + J (A 42) 1)).2 = w1 at tk md
  generalize (g_X8_comes_16 m A nt nf 16 0 J (J (A 42) 0 + J (A 42) 1)).1 = J1 at a1 a2 a3 tk md
  have st1 : ST m A J J1 := ⟨fun k j a _ _ _ h15 _ _ _ _ _ => a1 k j a h15, fun j _ _ => a2 j⟩
  have pf0 : PF S b m cl 4000 A I J 0 I J1 := by
    refine ⟨fun _ _ _ _ => rfl, fun c e hc he => ⟨fun _ => ⟨rfl, rfl⟩, fun z => absurd z (by omega)⟩, fun _ _ => rfl, h4a, st1, fun e he => ?_⟩
    obtain ⟨s, s1, s2, s3⟩ := fe e he
    obtain ⟨n, hn, en⟩ := hb e he
    have : s.1 = n := nI_j2 (by omega) (by omega) (s2.1.symm.trans en)
    exact ⟨s, s1, EKm_e s2 (a1 42 e (by decide) (by decide)) (fun j => a1 41 j (by decide) (by decide)), by omega⟩
  have px0 : PXx S b m nf A J φ I J1 := by
    refine ⟨by rw [a2]; exact x4, by rw [a2]; exact x8, fun e he => ?_⟩
    rw [show J1 (A 38) = J (A 38) from funext (fun j => a1 38 j (by decide) (by decide))]
    exact (xs e he).2
  have hBB : ∀ c, c < 8 → (fun c => cl + bd J A c + 1) c < 2 ^ 31 := fun c hc => by have := (ht.2.2 c hc).2; show cl + bd J A c + 1 < _; omega
  have key := pf_all (nf := nf) (Bc := fun c => cl + bd J A c + 1) hL hO hA hBB (by omega) (show nt ≤ 4000 by omega) (Nat.le_refl 4000) h4b (fun t _ => s27 t) (fun t _ => s28 t) s22 fl fk (fun x hx => (h1 x hx).1) (cx_of h) 8 0 I J1 w1 rfl (fun _ _ => rfl) pf0
  have kex := px_all (nf := nf) (Bc := fun c => cl + bd J A c + 1) hL hO hA hBB (by omega) (show nt ≤ 4000 by omega) (Nat.le_refl 4000) hF h4b (fun t _ => s27 t) (fun t _ => s28 t) s22 fEE fl ph fk (fun e he => (xs e he).1) (fun x hx => (h1 x hx).1) (cx_of h) 8 0 I J1 w1 rfl (fun _ _ => rfl) pf0 px0
  generalize (g_X8_comes_37 m A nt nf 8 0 J1 w1).2 = w2 at tk md
  generalize (g_X8_comes_37 m A nt nf 8 0 J1 w1).1 = J2 at key kex tk md
  generalize g_X7_bringAll_2 (sR S) b 8 0 I = I' at key kex fa fbe nez
  obtain ⟨k1, k2, k3, k4, k5, k6⟩ := key
  obtain ⟨y4, y8, yl⟩ := kex
  have c27 : ∀ t, nI (J2 (A 27) t).toNatClampNeg = J2 (A 27) t ∧ nI (J2 (A 28) t).toNatClampNeg = J2 (A 28) t := fun t => by
    obtain ⟨k, hk, ek⟩ := s27 t
    obtain ⟨e, he, ee⟩ := s28 t
    rw [st_k k5 (by decide), st_k k5 (by decide), ek, ee, nI_cl (by omega), nI_cl (by omega)]
    exact ⟨rfl, rfl⟩
  obtain ⟨n', n1, n2, n3, n4, n5⟩ := g142 (nt := nt) (nf := nf) (cl := cl) hA nt 0 0 J2 w2 (Nat.le_refl 0) ((k5.2 43 (by decide) (by decide)).trans h4b) (fun t _ => c27 t)
  generalize (g_X8_comes_142 m A nt nf nt 0 0 J2 w2).1 = J3 at n2 n3 n4 n5 tk md
  -- the telling and the end
  rw [tick_8, fd_puts] at *
  generalize (mid8 J m A nt nf).2 = w8 at *
  generalize (mid8 J m A nt nf).1 = J5 at *
  have c11 : ∀ j, J5 (A 11) j = J (A 11) j := fun j => jk5 11 j (by decide) (by decide) (by decide) (by decide) (by decide) (by decide) (by decide) (by decide)
  have c22 : ∀ j, J5 (A 22) j = J (A 22) j := fun j => jk5 22 j (by decide) (by decide) (by decide) (by decide) (by decide) (by decide) (by decide) (by decide)
  have c23 : ∀ j, J5 (A 23) j = J (A 23) j := fun j => jk5 23 j (by decide) (by decide) (by decide) (by decide) (by decide) (by decide) (by decide) (by decide)
  have c24 : ∀ j, J5 (A 24) j = J (A 24) j := fun j => jk5 24 j (by decide) (by decide) (by decide) (by decide) (by decide) (by decide) (by decide) (by decide)
  have c25 : ∀ j, J5 (A 25) j = J (A 25) j := fun j => jk5 25 j (by decide) (by decide) (by decide) (by decide) (by decide) (by decide) (by decide) (by decide)
  have s4 : ∀ x, x < 16 → J5 (A 9) x = nI 4 → ¬ J5 (A 7) x = 0 := fun x hx e z => by
    have := (pt.1 x hx).1.2.1.2.1 z
    rw [e] at this
    exact absurd this (by decide)
  have ri5 : RIj J5 A := by
    obtain ⟨r1, r2, r3, r4, r5⟩ := h6
    unfold RIj
    rw [show J5 (A 11) = J (A 11) from funext c11, show J5 (A 22) = J (A 22) from funext c22, show J5 (A 23) = J (A 23) from funext c23, show J5 (A 24) = J (A 24) from funext c24, show J5 (A 25) = J (A 25) from funext c25]
    refine ⟨r1, r2, r3, r4, fun e p he hp z => r5 e p he hp (Or.inl (fun y => ?_))⟩
    have k : ¬ J5 (A 7) (8 * e + p) = 0 := by
      rcases z with z | z
      · exact z
      · exact s4 _ (by omega) z
    exact k ((v7 _ (by omega)).mpr y)
  have ht5 : HT J5 A (bd J A) := by
    have q : bd J5 A = bd J A := by funext c; unfold bd; rw [c23, c24]
    rw [← q]
    exact HT_of ri5
  have cbx : ∀ x, x < 16 → ¬ J5 (A 7) x = 0 → ∀ c, c < 8 → J5 (A 11) x = nI c → f_X7_stepAll I3 (sR S) b (Cb (sR S) b c) 2 = J5 (A 23) c := fun x hx lit c hc ec => by
    rw [cb c hc, c23]
    have lit0 : ¬ J (A 7) x = 0 := fun z => lit ((v7 x hx).mpr z)
    obtain ⟨c', hc', ec', uc'⟩ := h6.2.2.2.2 (x / 8) (x % 8) (by omega) (by omega) (Or.inl (by rw [show 8 * (x / 8) + x % 8 = x by omega]; exact lit0))
    rw [show 8 * (x / 8) + x % 8 = x by omega, ← c11, ec] at ec'
    have := nI_inj (by omega) (by omega) ec'
    subst this
    exact h9 c hc (h6.1 c hc uc')
  have tl := sim_tell hL hO hA ht5 hcl ib jb cbx pt
  have lo := sim_lost hL hO hA ht5 hcl ib jb cbx pt md.1
  obtain ⟨fc3, fc6, fcj⟩ := fin_c (G := f_X7_runTick I (sR S) b) hL rt
  obtain ⟨fm4, ⟨d, fm7, dd⟩, fmj⟩ := fin_m (nt := nt) (nf := nf) (i := 0 + 16) (J := fd (fun x J => f_putsW J m A x) 16 0 J5) (w := w8) hA rfl
  have tb : (f_X7_tellAll (f_X7_stepAll I3 (sR S) b) (sR S) b).1 b = I' b := tl.2.2.2.1.1.trans (nez b ⟨fun x hx => ⟨ne_k hL.2 (k_px hL hx) (by decide), ne_k hL.2 (k_ox hL hx) (by decide), ne_k hL.2 (k_qx hL hx) (by decide), ne_k hL.2 (k_lx hL hx) (by decide)⟩, fun e he => ne_k hL.2 (ly_E hL he).2.1 (by decide)⟩)
  have tm : ∀ j, j ≠ 32 → j ≠ 50 → fd (fun x J => f_putsW J m A x) 16 0 J5 m j = J5 m j := tl.2.2.2.2.2
  rw [tb, lo] at fc3
  rw [tb] at fc6 fcj
  have q44 : J5 m 44 = J m 44 := jm 44 (by decide) (by decide) (by decide) (by decide)
  have e3 : f_X7_runTick I (sR S) b b 3 = (g_X8_tick_60 m A nt nf 0 (0 + 16) (fd (fun x J => f_putsW J m A x) 16 0 J5) w8).1 m 44 := by
    rw [fc3, fm4, tm 44 (by decide) (by decide), q44, ← x3, fbe.1 3 (by decide) (by decide)]
  have e6 : f_X7_runTick I (sR S) b b 6 = (g_X8_tick_60 m A nt nf 0 (0 + 16) (fd (fun x J => f_putsW J m A x) 16 0 J5) w8).1 m 47 := by
    rw [fc6, fm7, tm 47 (by decide) (by decide), jm 47 (by decide) (by decide) (by decide) (by decide), ← x6, fbe.1 6 (by decide) (by decide), e3]
    refine congrArg (fun n => I b 6 + nI n) ?_
    rcases dd with ⟨d1, q⟩ | ⟨d0, q⟩
    · rw [d1, if_pos ⟨q.1, seq.mpr q.2⟩]
    · rw [d0, if_neg (fun z => q ⟨z.1, seq.mp z.2⟩)]
  have e4 : f_X7_runTick I (sR S) b b 4 = (g_X8_tick_60 m A nt nf 0 (0 + 16) (fd (fun x J => f_putsW J m A x) 16 0 J5) w8).1 m 45 := by
    rw [fcj 4 (by decide) (by decide) (by decide), fmj 45 (by decide) (by decide) (by decide), tm 45 (by decide) (by decide), md.2 45 (by decide), n5 45 (by decide), y4]
  have e8 : f_X7_runTick I (sR S) b b 8 = (g_X8_tick_60 m A nt nf 0 (0 + 16) (fd (fun x J => f_putsW J m A x) 16 0 J5) w8).1 m 49 := by
    rw [fcj 8 (by decide) (by decide) (by decide), fmj 49 (by decide) (by decide) (by decide), tm 49 (by decide) (by decide), md.2 49 (by decide), n5 49 (by decide), y8]
  have e5 : f_X7_runTick I (sR S) b b 5 = (g_X8_tick_60 m A nt nf 0 (0 + 16) (fd (fun x J => f_putsW J m A x) 16 0 J5) w8).1 m 46 := by
    rw [fcj 5 (by decide) (by decide) (by decide), fmj 46 (by decide) (by decide) (by decide), tm 46 (by decide) (by decide), jm 46 (by decide) (by decide) (by decide) (by decide), fbe.1 5 (by decide) (by decide), x5]
  have e7 : f_X7_runTick I (sR S) b b 7 = (g_X8_tick_60 m A nt nf 0 (0 + 16) (fd (fun x J => f_putsW J m A x) 16 0 J5) w8).1 m 48 := by
    rw [fcj 7 (by decide) (by decide) (by decide), fmj 48 (by decide) (by decide) (by decide), tm 48 (by decide) (by decide), jm 48 (by decide) (by decide) (by decide) (by decide), fbe.1 7 (by decide) (by decide), x7]
  generalize (g_X8_tick_60 m A nt nf 0 (0 + 16) (fd (fun x J => f_putsW J m A x) 16 0 J5) w8).1 = J' at *
  generalize f_X7_runTick I (sR S) b = I2 at *
  have jk : ∀ k, (k = 33 ∨ k = 34 ∨ k = 35 ∨ k = 37) → J' (A k) = J (A k) := fun k hk => funext (fun j => by
    rw [tk k (by omega) (by omega) (by omega) j, n4 k j (by omega) (by omega)]
    exact k5.1 k j (by omega) (by omega) (by omega) (by omega) (by omega) (by omega) (by omega) (by omega) (by omega) (by omega))
  have j38 : J' (A 38) = J2 (A 38) := funext (fun j => by rw [tk 38 (by decide) (by decide) (by decide) j, n4 38 j (by decide) (by decide)])
  have cfE : ∀ c e, c < 8 → e < 2 → CF I2 (sR S) b c e = (CF I (sR S) b c e).filter (fun z => !(dueB I cl z)) ∧ CF I2 (sR S) b c e = CF I' (sR S) b c e := fun c e hc he => by
    obtain ⟨q1, q2⟩ := (k2 c e hc he).2 hc
    obtain ⟨l4, l5⟩ := fa.2.1 c e hc he
    rw [CF_e l4 l5]
    exact ⟨q1, rfl⟩
  have kz : ∀ c e, c < 8 → e < 2 → ∀ z ∈ CF I (sR S) b c e, sK S z = 3 := fun c e hc he => CF_k hL hc he (fk c e hc he).1
  have rowE : ∀ c e, c < 8 → e < 2 → ∀ z ∈ CF I (sR S) b c e, ∀ j, j ≠ 6 → I2 z j = I z j := fun c e hc he z hz j hj => by
    rw [fa.1 z (Or.inl (kz c e hc he z hz))]
    exact k1 z j (kz c e hc he z hz) hj
  have subE : ∀ c e, c < 8 → e < 2 → ∀ z ∈ CF I2 (sR S) b c e, z ∈ CF I (sR S) b c e := fun c e hc he z hz => by
    rw [(cfE c e hc he).1] at hz
    exact (List.mem_filter.mp hz).1
  have skE : ∀ f g, skf J' A f g ↔ skf J A f g := fun f g => by
    unfold skf
    rw [jk 33 (by omega), jk 34 (by omega), jk 35 (by omega), jk 37 (by omega)]
  refine ⟨⟨e3, e4, e5, e6, e7, e8⟩, fun e he => ⟨(epT e he).1, ?_⟩, fun c e hc he => ?_, fun e he => ⟨fun c hc z hz => ?_, fun c hc z hz => ?_⟩⟩
  · rw [(epT e he).2, jk 33 (by omega)]
    exact (xe e he).2
  · rw [(cfE c e hc he).1, tgE, List.filter_append]
    have nn : new.filter (isG c e) = [] := List.filter_eq_nil_iff.mpr (fun q hq z => (of_decide_eq_true z).2.2 (nw q hq))
    rw [nn, List.append_nil, flt_comm]
    have mm := map_flt (p := fun v : FV × Nat => !(decide (v.1.1 = nI cl))) (map_pr (fl c e hc he) (ph c e hc he))
    have m2 := congrArg (List.map (fun v : FV × Nat => v.2)) mm
    rw [List.map_map, List.map_map] at m2
    exact m2
  · have hz0 := subE c e hc he z hz
    have q := SRz_e ((xs e he).1 c hc z hz0) (fun j hj => rowE c e hc he z hz0 j hj)
    unfold SRz at q ⊢
    rw [jk 33 (by omega), jk 34 (by omega), jk 35 (by omega), jk 37 (by omega)]
    exact q
  · have hz0 := subE c e hc he z hz
    rw [(cfE c e hc he).2] at hz
    rw [fa.1 z (Or.inl (kz c e hc he z hz0)), yl e he c hc z hz, j38]
    unfold LAt
    rw [LAb_c (J := J) (J' := J') jk (fun _ _ => Iff.rfl)]
