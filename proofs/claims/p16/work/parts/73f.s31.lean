/-! SIMULATION 31: a cable comes up; it is taken out, put in -/
theorem sb56 {v : Int32} : sbv v (nI 56) (decide (¬ (nI 0 : Int32) = 0)) = v &&& (-57 : Int32) := by
  rw [show decide (¬ (nI 0 : Int32) = 0) = false by decide]
  unfold sbv
  rw [if_neg (by decide), x57]
theorem lt_port {rp ro rq rl : Nat → Int32} {J J' : Mm} {A : Nat → Nat} {x : Nat} (h : PR rp ro rq J A x) (hv : PV J A x) (dk : J (A 7) x = 0) (z7 : J' (A 7) x = nI 1) (z8 : J' (A 8) x = nI 3) (z9 : J' (A 9) x = nI 0) (z18 : J' (A 18) (5 * x + 4) = J (A 18) (5 * x + 4) &&& (-57 : Int32)) (z21 : J' (A 21) x = -1) (y18 : ∀ k, k < 4 → J' (A 18) (5 * x + k) = J (A 18) (5 * x + k)) (e : ∀ k j, dm k → k ≤ 19 → k ≠ 7 → k ≠ 8 → k ≠ 9 → k ≠ 14 → k ≠ 18 → J' (A k) j = J (A k) j) : PR (r_X5_becomeLit rp rq).1 ro (r_X5_becomeLit rp rq).2 J' A x ∧ PV J' A x ∧ PLk (r_X5_becomeLit rp rq).1 rl J' A x ∧ (r_X5_becomeLit rp rq).1 12 = rp 12 := by
  obtain ⟨h2, h3, h4, h5, h6, h7, h8, h9, o0, o1, o2, o3, o4, q0, q1, q2, q3, q4⟩ := h
  obtain ⟨v1, v2, v3, v4⟩ := hv
  have s0 := v2 dk
  obtain ⟨n, hn, en⟩ := v4
  unfold r_X5_becomeLit
  dsimp only
  rw [r_sb, sb56]
  unfold PR PV PLk
  rw [z7, z8, z9, z18, z21, show J' (A 18) (5 * x) = J (A 18) (5 * x) from y18 0 (by decide), y18 1 (by decide), y18 2 (by decide), y18 3 (by decide), e 11 x (by decide) (by decide) (by decide) (by decide) (by decide) (by decide) (by decide), e 10 x (by decide) (by decide) (by decide) (by decide) (by decide) (by decide) (by decide), e 19 (3 * x) (by decide) (by decide) (by decide) (by decide) (by decide) (by decide) (by decide), e 19 (3 * x + 1) (by decide) (by decide) (by decide) (by decide) (by decide) (by decide) (by decide), e 19 (3 * x + 2) (by decide) (by decide) (by decide) (by decide) (by decide) (by decide) (by decide), e 1 (x / 8) (by decide) (by decide) (by decide) (by decide) (by decide) (by decide) (by decide), e 3 x (by decide) (by decide) (by decide) (by decide) (by decide) (by decide) (by decide), e 4 x (by decide) (by decide) (by decide) (by decide) (by decide) (by decide) (by decide), e 5 x (by decide) (by decide) (by decide) (by decide) (by decide) (by decide) (by decide), e 6 x (by decide) (by decide) (by decide) (by decide) (by decide) (by decide) (by decide)]
  simp (disch := decide) only [pk_us, pk_un]
  rw [s0] at h5 o4
  refine ⟨⟨h2, trivial, trivial, h5, h6, h7, h8, h9, o0, o1, o2, o3, o4, q0, q1, q2, q3, ?_⟩, ⟨⟨0, by decide, rfl⟩, fun z => rfl, fun z => absurd z (by decide), ?_⟩, fun _ => ⟨trivial, fun z => absurd trivial z⟩, trivial⟩
  · rw [q4]
  · rw [en, n64_57 n hn]
    exact ⟨n % 8, by omega, rfl⟩
def LITR (R : Nat → Nat → Option Nat) (b x : Nat) (I F : Mm) : Prop := F (px R b x) = (r_X5_becomeLit (I (px R b x)) (I (qx R b x))).1 ∧ F (qx R b x) = (r_X5_becomeLit (I (px R b x)) (I (qx R b x))).2 ∧ F (ox R b x) = I (ox R b x) ∧ F (lx R b x) = I (lx R b x)
def ONN (S : MM) (b c y0 y1 : Nat) (I F : Mm) : Prop := (∀ x, x < 16 → x ≠ y0 → x ≠ y1 → AG (sR S) b x I F) ∧ (LITR (sR S) b y0 I F ∧ LITR (sR S) b y1 I F) ∧ (∀ z, sK S z = 2 ∨ sK S z = 4 ∨ sK S z = 5 ∨ sK S z = 8 → F z = I z) ∧ (∀ d f s, d < 8 → f < 2 → s < 8 → F (NtO (sR S) b d f s) = I (NtO (sR S) b d f s) ∧ F (NtP (sR S) b d f s) = I (NtP (sR S) b d f s)) ∧ (∀ d, d < 8 → F (Cb (sR S) b d) 3 = (if d = c then nI 1 else I (Cb (sR S) b d) 3) ∧ F (Cb (sR S) b d) 2 = I (Cb (sR S) b d) 2) ∧ FO S I F
theorem onE_f {S : MM} {b y : Nat} {I : Mm} (hL : LY S b) (hO : OC S) (hy : y < 16) : (∀ z, z ≠ px (sR S) b y → z ≠ qx (sR S) b y → f_X5_becomeLit I (px (sR S) b y) (qx (sR S) b y) z = I z) ∧ LITR (sR S) b y I (f_X5_becomeLit I (px (sR S) b y) (qx (sR S) b y)) := by
  have nz : ∀ z, z ≠ px (sR S) b y → z ≠ qx (sR S) b y → f_X5_becomeLit I (px (sR S) b y) (qx (sR S) b y) z = I z := fun z h1 h2 => n_X5_becomeLit h1 h2
  have r := rr_X5_becomeLit (I := I) (d_pq hL hO hy hy)
  exact ⟨nz, r.1, r.2, nz _ (d_op hL hO hy hy) (d_oq hL hO hy hy), nz _ (d_lp hL hO hy hy) (d_lq hL hO hy hy)⟩
theorem on_C {S : MM} {b c p0 p1 : Nat} {I : Mm} (hL : LY S b) (hO : OC S) (hc : c < 8) (h0 : p0 < 8) (h1 : p1 < 8) (r0 : sR S (ppd (sR S) b c) 0 = some (Pt (sR S) b 0 p0)) (r1 : sR S (ppd (sR S) b c) 1 = some (Pt (sR S) b 1 p1)) : ONN S b c p0 (8 + p1) I (f_X7_switchOn I (sR S) b c) := by
  have y0 : p0 < 16 := by omega
  have y1 : 8 + p1 < 16 := by omega
  have n01 : p0 ≠ 8 + p1 := by omega
  have ep0 : Pt (sR S) b 0 p0 = px (sR S) b p0 := by show _ = Pt (sR S) b (p0 / 8) (p0 % 8); rw [show p0 / 8 = 0 by omega, show p0 % 8 = p0 by omega]
  have ep1 : Pt (sR S) b 1 p1 = px (sR S) b (8 + p1) := by show _ = Pt (sR S) b ((8 + p1) / 8) ((8 + p1) % 8); rw [show (8 + p1) / 8 = 1 by omega, show (8 + p1) % 8 = p1 by omega]
  have E : f_X7_switchOn I (sR S) b c = f_X5_becomeLit (f_X5_becomeLit (up2 I (Cb (sR S) b c) 3 (nI 1)) (px (sR S) b p0) (qx (sR S) b p0)) (px (sR S) b (8 + p1)) (qx (sR S) b (8 + p1)) := by
    unfold f_X7_switchOn
    dsimp only
    rw [g_X7_switchOn_7, g_X7_switchOn_7, g_X7_switchOn_7, r0, r1, ep0, ep1]
    rfl
  rw [E]
  have kC := (ly_C hL hc).2.1
  have uk : ∀ z k, sK S z = k → k ≠ 1 → up2 I (Cb (sR S) b c) 3 (nI 1) z = I z := fun z k hz hk => up2_row (ne_k hz kC hk)
  have ucz : ∀ d, d < 8 → up2 I (Cb (sR S) b c) 3 (nI 1) (Cb (sR S) b d) 3 = (if d = c then nI 1 else I (Cb (sR S) b d) 3) ∧ up2 I (Cb (sR S) b c) 3 (nI 1) (Cb (sR S) b d) 2 = I (Cb (sR S) b d) 2 := fun d hd => by
    by_cases q : d = c
    · subst q
      rw [up2_self, if_pos rfl, up2_jn (by decide)]
      exact ⟨rfl, rfl⟩
    · rw [up2_row (fun z => q (i_C hL hO hd hc z)), if_neg q]
      exact ⟨rfl, rfl⟩
  have uf : FO S I (up2 I (Cb (sR S) b c) 3 (nI 1)) := FO.rf.w kC (by decide) rfl
  generalize up2 I (Cb (sR S) b c) 3 (nI 1) = U at uk ucz uf ⊢
  obtain ⟨a1, a2⟩ := onE_f (I := U) hL hO y0
  generalize f_X5_becomeLit U (px (sR S) b p0) (qx (sR S) b p0) = V at a1 a2 ⊢
  obtain ⟨b1, b2⟩ := onE_f (I := V) hL hO y1
  generalize f_X5_becomeLit V (px (sR S) b (8 + p1)) (qx (sR S) b (8 + p1)) = F at b1 b2 ⊢
  have up : ∀ x, x < 16 → AG (sR S) b x I U := fun x hx => ⟨uk _ 6 (k_px hL hx) (by decide), uk _ 7 (k_ox hL hx) (by decide), uk _ 7 (k_qx hL hx) (by decide), uk _ 7 (k_lx hL hx) (by decide)⟩
  have vp : ∀ x, x < 16 → x ≠ p0 → AG (sR S) b x U V := fun x hx n => ⟨a1 _ (d_pp hL hO hx y0 n) (d_pq hL hO hx y0), a1 _ (d_op hL hO hx y0) (d_oq hL hO hx y0), a1 _ (d_qp hL hO hx y0) (d_qq hL hO hx y0 n), a1 _ (d_lp hL hO hx y0) (d_lq hL hO hx y0)⟩
  have fp : ∀ x, x < 16 → x ≠ 8 + p1 → AG (sR S) b x V F := fun x hx n => ⟨b1 _ (d_pp hL hO hx y1 n) (d_pq hL hO hx y1), b1 _ (d_op hL hO hx y1) (d_oq hL hO hx y1), b1 _ (d_qp hL hO hx y1) (d_qq hL hO hx y1 n), b1 _ (d_lp hL hO hx y1) (d_lq hL hO hx y1)⟩
  have oth : ∀ z k, sK S z = k → k ≠ 6 → k ≠ 7 → F z = U z := fun z k hz h6 h7 => by rw [b1 z (ne_k hz (k_px hL y1) h6) (ne_k hz (k_qx hL y1) h7), a1 z (ne_k hz (k_px hL y0) h6) (ne_k hz (k_qx hL y0) h7)]
  have told : ∀ z a j, TO S z a j → sK S a = 5 → sK S z = 7 → F z = I z := fun z a j t ka kz => by
    rw [b1 z (ne_k kz (k_px hL y1) (by decide)) (to_a hO t (to_qx hL y1) (ne_k ka (k_px hL y1) (by decide))), a1 z (ne_k kz (k_px hL y0) (by decide)) (to_a hO t (to_qx hL y0) (ne_k ka (k_px hL y0) (by decide))), uk z 7 kz (by decide)]
  refine ⟨fun x hx n0 n1 => ((up x hx).tr (vp x hx n0)).tr (fp x hx n1), ⟨?_, ?_⟩, fun z hz => ?_, fun d f s hd hf hs => ⟨told _ _ _ (to_nO hL hd hf hs) (ly_T hL hd hf hs).2.1 (ly_TO hL hd hf hs).2.1, told _ _ _ (to_nP hL hd hf hs) (ly_T hL hd hf hs).2.1 (ly_TP hL hd hf hs).2.1⟩, fun d hd => ?_, fun z hz => ?_⟩
  · have g := fp p0 y0 n01
    have u := up p0 y0
    unfold LITR
    rw [g.1, g.2.1, g.2.2.1, g.2.2.2, ← u.1, ← u.2.1, ← u.2.2.1, ← u.2.2.2]
    exact a2
  · have v := vp (8 + p1) y1 n01.symm
    have u := up (8 + p1) y1
    unfold LITR
    rw [← u.1, ← u.2.1, ← u.2.2.1, ← u.2.2.2, ← v.1, ← v.2.1, ← v.2.2.1, ← v.2.2.2]
    exact b2
  · rcases hz with k | k | k | k
    · rw [oth z 2 k (by decide) (by decide), uk z 2 k (by decide)]
    · rw [oth z 4 k (by decide) (by decide), uk z 4 k (by decide)]
    · rw [oth z 5 k (by decide) (by decide), uk z 5 k (by decide)]
    · rw [oth z 8 k (by decide) (by decide), uk z 8 k (by decide)]
  · rw [oth _ 1 (ly_C hL hd).2.1 (by decide) (by decide)]
    exact ucz d hd
  · rw [b1 z (fo_ne hz (k_px hL y1) (by decide) rfl) (fo_ne hz (k_qx hL y1) (by decide) rfl), a1 z (fo_ne hz (k_px hL y0) (by decide) rfl) (fo_ne hz (k_qx hL y0) (by decide) rfl)]
    exact uf z hz
theorem on_sim {S : MM} {b m cl nt c p0 p1 : Nat} {A : Nat → Nat} {I F J J' : Mm} (hL : LY S b) (hc : c < 8) (h0 : p0 < 8) (h1 : p1 < 8) (on : ONN S b c p0 (8 + p1) I F) (h : NRl (sR S) b m A I J cl nt) (P0 : J (A 22) (2 * c + 0) = nI p0) (P1 : J (A 22) (2 * c + 1) = nI p1) (pl : J (A 24) c ≠ 0) (dk : J (A 7) p0 = 0 ∧ J (A 7) (8 + p1) = 0) (d : ∀ x, (x = p0 ∨ x = 8 + p1) → J' (A 7) x = nI 1 ∧ J' (A 8) x = nI 3 ∧ J' (A 9) x = nI 0 ∧ J' (A 18) (5 * x + 4) = (J (A 18) (5 * x + 4) &&& (-57 : Int32)) ∧ J' (A 21) x = -1 ∧ ∀ k, k < 4 → J' (A 18) (5 * x + k) = J (A 18) (5 * x + k)) (jo : ∀ x, x ≠ p0 → x ≠ 8 + p1 → ∀ k j, dm k → k ≤ 21 → ow k j = x → J' (A k) j = J (A k) j) (jk : ∀ k j, dm k → k ≠ 7 → k ≠ 8 → k ≠ 9 → k ≠ 14 → k ≠ 18 → k ≠ 21 → k ≠ 25 → k ≠ 40 → J' (A k) j = J (A k) j) (u : ∀ e, e ≠ c → J' (A 25) e = J (A 25) e) (uc : J' (A 25) c = nI 1) (m43 : J' m 43 = J m 43) (m32 : J' m 32 = J m 32) : NRl (sR S) b m A F J' cl nt := by
  obtain ⟨n1, n2, n3, ⟨n4a, n4b, n4c⟩, n5, n6, n7, n8, n9, n10, n11⟩ := h
  obtain ⟨f1, ⟨f2a, f2b⟩, f3, f3b, f4, _⟩ := on
  have r : ∀ k, dm k → k ≠ 7 → k ≠ 8 → k ≠ 9 → k ≠ 14 → k ≠ 18 → k ≠ 21 → k ≠ 25 → k ≠ 40 → J' (A k) = J (A k) := fun k a a1 a2 a3 a4 a5 a6 a7 a8 => funext (fun j => jk k j a a1 a2 a3 a4 a5 a6 a7 a8)
  have r22 := r 22 (by decide) (by decide) (by decide) (by decide) (by decide) (by decide) (by decide) (by decide) (by decide)
  have r23 := r 23 (by decide) (by decide) (by decide) (by decide) (by decide) (by decide) (by decide) (by decide) (by decide)
  have r24 := r 24 (by decide) (by decide) (by decide) (by decide) (by decide) (by decide) (by decide) (by decide) (by decide)
  have r11 := r 11 (by decide) (by decide) (by decide) (by decide) (by decide) (by decide) (by decide) (by decide) (by decide)
  have r26 := r 26 (by decide) (by decide) (by decide) (by decide) (by decide) (by decide) (by decide) (by decide) (by decide)
  have r27 := r 27 (by decide) (by decide) (by decide) (by decide) (by decide) (by decide) (by decide) (by decide) (by decide)
  have r1 := r 1 (by decide) (by decide) (by decide) (by decide) (by decide) (by decide) (by decide) (by decide) (by decide)
  have r2 := r 2 (by decide) (by decide) (by decide) (by decide) (by decide) (by decide) (by decide) (by decide) (by decide)
  have tG : TG J' A nt = TG J A nt := TG_c (fun t _ => tg_k (fun k hk => by
    have q : ∀ k ∈ ([27, 28, 29, 30, 31] : List Nat), dm k ∧ k ≠ 7 ∧ k ≠ 8 ∧ k ≠ 9 ∧ k ≠ 14 ∧ k ≠ 18 ∧ k ≠ 21 ∧ k ≠ 25 ∧ k ≠ 40 := by decide
    obtain ⟨a0, a1, a2, a3, a4, a5, a6, a7, a8⟩ := q k hk
    exact r k a0 a1 a2 a3 a4 a5 a6 a7 a8))
  have i0 : J (A 11) p0 = nI c := by have := n6.2.1 c 0 p0 hc (by decide) h0 pl P0; rw [show 8 * 0 + p0 = p0 by omega] at this; exact this
  have i1 : J (A 11) (8 + p1) = nI c := by have := n6.2.1 c 1 p1 hc (by decide) h1 pl P1; rw [show 8 * 1 + p1 = 8 + p1 by omega] at this; exact this
  have lc : ∀ e f, e < 8 → f < 2 → LC2 I F (sR S) b e f := fun e f he hf => by
    have eL := f3 _ (Or.inr (Or.inl (ly_N hL he hf).2.1))
    exact ⟨by rw [eL], by rw [eL], fun s hs => ⟨by rw [f3 _ (Or.inr (Or.inr (Or.inl (ly_T hL he hf hs).2.1)))], (f3b e f s he hf hs).1, (f3b e f s he hf hs).2⟩⟩
  have lit : ∀ x, x < 16 → (x = p0 ∨ x = 8 + p1) → (RP (sR S) b F J' A x ∧ F (px (sR S) b x) 12 = nI 0) ∧ F (px (sR S) b x) 2 = I (px (sR S) b x) 2 := fun x hx q => by
    have lr : LITR (sR S) b x I F := by rcases q with rfl | rfl; exact f2a; exact f2b
    have dx : J (A 7) x = 0 := by rcases q with rfl | rfl; exact dk.1; exact dk.2
    obtain ⟨d7, d8, d9, d18, d21, dy⟩ := d x q
    have k := lt_port (rl := I (lx (sR S) b x)) (n1 x hx).1.1 (n1 x hx).1.2.1 dx d7 d8 d9 d18 d21 dy (fun k j a b c1 c2 c3 c4 c5 => jk k j a c1 c2 c3 c4 c5 (by omega) (by omega) (by omega))
    rw [← lr.1, ← lr.2.1, ← lr.2.2.1, ← lr.2.2.2] at k
    refine ⟨⟨⟨k.1, k.2.1, k.2.2.1⟩, k.2.2.2.trans (n1 x hx).2⟩, ?_⟩
    rw [k.1.1, r11]
    exact (n1 x hx).1.1.1.symm
  refine ⟨fun x hx => ?_, fun e f he hf => ?_, fun e f he hf => ?_, ⟨by rw [f3 b (by rw [hL.2]; decide)]; exact n4a, m43.trans n4b, m32.trans n4c⟩, fun e he => ?_, ?_, ⟨fun e he => ?_, fun e p he hp => ?_, ?_⟩, ?_, fun e he ue => ?_, ?_, fun x hx dkx => ?_⟩
  · by_cases q : x = p0 ∨ x = 8 + p1
    · exact (lit x hx q).1
    · have ag := f1 x hx (fun z => q (Or.inl z)) (fun z => q (Or.inr z))
      refine ⟨RP_h (n1 x hx).1 ag (fun k j a b _ o => ?_), by rw [ag.1]; exact (n1 x hx).2⟩
      rcases o with o | o
      · exact jo x (fun z => q (Or.inl z)) (fun z => q (Or.inr z)) k j a b o
      · exact jo 99 (by omega) (by omega) k j a b o
  · rw [CN_c (lc e f he hf), tG, f3 _ (Or.inr (Or.inl (ly_N hL he hf).2.1)), r26]; exact n2 e f he hf
  · rw [CN_c (lc e f he hf)]; unfold bd; rw [r23, r24]; exact n3 e f he hf
  · rw [f3 _ (Or.inl (ly_E hL he).2.1), r1, r2]; exact n5 e he
  · obtain ⟨i1', i2', i3', i4', i5'⟩ := n6
    unfold RIj
    rw [r11, r22, r23, r24]
    refine ⟨fun e he ue => ?_, i2', i3', i4', fun e p he hp z => ?_⟩
    · by_cases q : e = c
      · subst q; exact pl
      · rw [u e q] at ue; exact i1' e he ue
    · by_cases q : 8 * e + p = p0 ∨ 8 * e + p = 8 + p1
      · refine ⟨c, hc, ?_, by rw [uc]; decide⟩
        rcases q with q | q
        · rw [q]; exact i0
        · rw [q]; exact i1
      · have o := jo (8 * e + p) (fun z => q (Or.inl z)) (fun z => q (Or.inr z))
        rw [o 7 _ (by decide) (by decide) (ow_x (by decide)), o 9 _ (by decide) (by decide) (ow_x (by decide))] at z
        obtain ⟨c', hc', e', u'⟩ := i5' e p he hp z
        refine ⟨c', hc', e', ?_⟩
        by_cases qc : c' = c
        · rw [qc, uc]; decide
        · rw [u c' qc]; exact u'
  · show F (Cb (sR S) b e) 3 = _
    rw [(f4 e he).1]
    by_cases q : e = c
    · rw [if_pos q, q, uc]
    · rw [if_neg q, u e q]; exact n7.1 e he
  · show F (Pt (sR S) b e p) 2 = _
    rw [r11]
    have ep : Pt (sR S) b e p = px (sR S) b (8 * e + p) := by
      show _ = Pt (sR S) b ((8 * e + p) / 8) ((8 * e + p) % 8)
      rw [show (8 * e + p) / 8 = e by omega, show (8 * e + p) % 8 = p by omega]
    have hx : 8 * e + p < 16 := by omega
    rw [ep]
    by_cases q : 8 * e + p = p0 ∨ 8 * e + p = 8 + p1
    · rw [(lit _ hx q).2]; exact (n1 _ hx).1.1.1
    · rw [(f1 _ hx (fun z => q (Or.inl z)) (fun z => q (Or.inr z))).1]; exact (n1 _ hx).1.1.1
  · rw [r24, r22]; exact n7.2.2
  · refine fun e he => ⟨?_, fun ue f p hf hp po => ?_⟩
    · by_cases q : e = c
      · rw [q]; exact Or.inr uc
      · rw [u e q]; exact (n8 e he).1
    rw [r22] at po
    by_cases q : 8 * f + p = p0 ∨ 8 * f + p = 8 + p1
    · rw [(d _ q).1]; decide
    · rw [jo (8 * f + p) (fun z => q (Or.inl z)) (fun z => q (Or.inr z)) 7 _ (by decide) (by decide) (ow_x (by decide))]
      have ne : e ≠ c := fun z => by
        subst z
        have ie := n6.2.1 e f p he hf hp pl po
        rcases n6.2.2.2.1 f p hf hp with y | ⟨c', hc', e', _, po'⟩
        · rw [ie] at y; exact absurd y (nI_m1 (by omega))
        · have qf : f = 0 ∨ f = 1 := by omega
          rcases qf with rfl | rfl
          · have := nI_inj (by omega) (by omega) (po.symm.trans P0); exact q (Or.inl (by omega))
          · have := nI_inj (by omega) (by omega) (po.symm.trans P1); exact q (Or.inr (by omega))
      rw [u e ne] at ue
      exact (n8 e he).2 ue f p hf hp po
  · rw [(f4 e he).2, r23]
    rw [r24] at ue
    exact n9 e he ue
  · intro t ht
    obtain ⟨e, he, ee, ue⟩ := n10 t ht
    refine ⟨e, he, by rw [r27]; exact ee, ?_⟩
    by_cases q : e = c
    · rw [q, uc]; decide
    · rw [u e q]; exact ue
  · by_cases q : x = p0 ∨ x = 8 + p1
    · rw [(d x q).1] at dkx; exact absurd dkx (by decide)
    · have o := jo x (fun z => q (Or.inl z)) (fun z => q (Or.inr z))
      rw [o 7 x (by decide) (by decide) (ow_x (by decide))] at dkx
      obtain ⟨z8, z18⟩ := n11 x hx dkx
      exact ⟨by rw [o 8 x (by decide) (by decide) (ow_x (by decide))]; exact z8, fun k hk => by rw [o 18 _ (by decide) (by decide) (ow_5 (by decide) hk)]; exact z18 k hk⟩
