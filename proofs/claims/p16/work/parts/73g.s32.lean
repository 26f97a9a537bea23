/-! SIMULATION 32: a cable's ports are others -/
theorem cn_le {R R' : Nat → Nat → Option Nat} {b c e : Nat} {I : Mm} (le : LYE R R' b) (hc : c < 8) (he : e < 2) : CN I R' b c e = CN I R b c e := by
  unfold CN sl
  rw [le.N c e hc he]
  refine List.map_congr_left (fun k _ => ?_)
  have s8 : ((I (Ln R b c e) 1).toNatClampNeg + k) % 8 < 8 := by omega
  unfold cnq
  rw [le.T c e _ hc he s8, le.TO c e _ hc he s8, le.TP c e _ hc he s8]
theorem NR_R {R R' : Nat → Nat → Option Nat} {b m cl nt : Nat} {A : Nat → Nat} {I J : Mm} (le : LYE R R' b) (h1 : ∀ x, x < 16 → RP R b I J A x ∧ I (px R b x) 12 = nI 0) (h2 : LN R b I J A nt) (h3 : ∀ c e, c < 8 → e < 2 → DU (CN I R b c e) cl (cl + bd J A c)) (h4 : I b 2 = nI cl ∧ J m 43 = nI cl ∧ J m 32 = nI nt) (h5 : ∀ e, e < 2 → I (En R b e) 1 = J (A 1) e ∧ I (En R b e) 2 = J (A 2) e) (h6 : RIj J A) (h7 : RLj R' b I J A) (h8 : LTj J A) (h9 : DLj R b I J A) (h10 : UTj J A nt) (h11 : DKj J A) : NRl R' b m A I J cl nt := by
  refine ⟨fun x hx => ?_, fun c e hc he => ?_, fun c e hc he => ?_, h4, fun e he => ?_, h6, h7, h8, fun c hc u => ?_, h10, h11⟩
  · have ep : px R' b x = px R b x := le.P (x / 8) (x % 8) (by omega) (by omega)
    have eo : ox R' b x = ox R b x := le.O (x / 8) (x % 8) (by omega) (by omega)
    have eq : qx R' b x = qx R b x := le.Q (x / 8) (x % 8) (by omega) (by omega)
    have el : lx R' b x = lx R b x := le.L (x / 8) (x % 8) (by omega) (by omega)
    unfold RP
    rw [ep, eo, eq, el]
    exact h1 x hx
  · rw [cn_le le hc he, le.N c e hc he]; exact h2 c e hc he
  · rw [cn_le le hc he]; exact h3 c e hc he
  · rw [le.E e he]; exact h5 e he
  · rw [le.C c hc]; exact h9 c hc u
theorem pp_i {S : MM} {b c d : Nat} (hL : LY S b) (hO : OC S) (hc : c < 8) (hd : d < 8) (z : ppd (sR S) b c = ppd (sR S) b d) : c = d := by
  have h1 := (ly_pp hL hc).1
  have h2 := (ly_pp hL hd).1
  rw [← z] at h2
  exact i_C hL hO hc hd (oc_i hO (ly_C hL hc).2.1 (ly_C hL hd).2.1 rfl rfl (Or.inl (by decide)) (Or.inl (by decide)) h1 h2).1
/-- the cables of two ports have changed: ports, lanes, ends -/
theorem pt2_rp {S : MM} {b y0 y1 : Nat} {A : Nat → Nat} {I J J' : Mm} {w : Int32} (hL : LY S b) (hO : OC S) (hy0 : y0 < 16) (hy1 : y1 < 16) (h : ∀ x, x < 16 → RP (sR S) b I J A x ∧ I (px (sR S) b x) 12 = nI 0) (j11 : ∀ j, J' (A 11) j = if j = y0 ∨ j = y1 then w else J (A 11) j) (jk : ∀ k j, dm k → k ≤ 21 → k ≠ 11 → J' (A k) j = J (A k) j) (x : Nat) (hx : x < 16) : RP (sR S) b (up2 (up2 I (px (sR S) b y0) 2 w) (px (sR S) b y1) 2 w) J' A x ∧ (up2 (up2 I (px (sR S) b y0) 2 w) (px (sR S) b y1) 2 w) (px (sR S) b x) 12 = nI 0 := by
  have f : ∀ k, k ≠ 2 → (up2 (up2 I (px (sR S) b y0) 2 w) (px (sR S) b y1) 2 w) (px (sR S) b x) k = I (px (sR S) b x) k := fun k hk => by rw [up2_ne (fun z => hk z.2), up2_ne (fun z => hk z.2)]
  have f2 : (up2 (up2 I (px (sR S) b y0) 2 w) (px (sR S) b y1) 2 w) (px (sR S) b x) 2 = J' (A 11) x := by
    rw [j11]
    by_cases q1 : x = y1
    · rw [q1, up2_self, if_pos (Or.inr rfl)]
    · rw [up2_row (d_pp hL hO hx hy1 q1)]
      by_cases q0 : x = y0
      · rw [q0, up2_self, if_pos (Or.inl rfl)]
      · rw [up2_row (d_pp hL hO hx hy0 q0), if_neg (fun z => z.elim q0 q1)]
        exact (h x hx).1.1.1
  have fo' : (up2 (up2 I (px (sR S) b y0) 2 w) (px (sR S) b y1) 2 w) (ox (sR S) b x) = I (ox (sR S) b x) := by rw [up2_row (d_op hL hO hx hy1), up2_row (d_op hL hO hx hy0)]
  have fq : (up2 (up2 I (px (sR S) b y0) 2 w) (px (sR S) b y1) 2 w) (qx (sR S) b x) = I (qx (sR S) b x) := by rw [up2_row (d_qp hL hO hx hy1), up2_row (d_qp hL hO hx hy0)]
  have fl : (up2 (up2 I (px (sR S) b y0) 2 w) (px (sR S) b y1) 2 w) (lx (sR S) b x) = I (lx (sR S) b x) := by rw [up2_row (d_lp hL hO hx hy1), up2_row (d_lp hL hO hx hy0)]
  generalize up2 (up2 I (px (sR S) b y0) 2 w) (px (sR S) b y1) 2 w = F at f f2 fo' fq fl ⊢
  obtain ⟨⟨⟨h2, h3, h4, h5, h6, h7, h8, h9, o0, o1, o2, o3, o4, q0, q1, q2, q3, q4⟩, hv, hl⟩, h12⟩ := h x hx
  have e : ∀ k j, dm k → k ≤ 21 → k ≠ 11 → J' (A k) j = J (A k) j := jk
  unfold RP PR PV PLk at *
  rw [fo', fq, fl, f2, f 3 (by decide), f 4 (by decide), f 5 (by decide), f 6 (by decide), f 7 (by decide), f 8 (by decide), f 9 (by decide), f 12 (by decide), f 13 (by decide), f 15 (by decide)]
  rw [e 7 x (by decide) (by decide) (by decide), e 8 x (by decide) (by decide) (by decide), e 9 x (by decide) (by decide) (by decide), e 10 x (by decide) (by decide) (by decide), e 19 (3 * x) (by decide) (by decide) (by decide), e 19 (3 * x + 1) (by decide) (by decide) (by decide), e 19 (3 * x + 2) (by decide) (by decide) (by decide), e 1 (x / 8) (by decide) (by decide) (by decide), e 3 x (by decide) (by decide) (by decide), e 4 x (by decide) (by decide) (by decide), e 5 x (by decide) (by decide) (by decide), e 6 x (by decide) (by decide) (by decide), e 18 (5 * x) (by decide) (by decide) (by decide), e 18 (5 * x + 1) (by decide) (by decide) (by decide), e 18 (5 * x + 2) (by decide) (by decide) (by decide), e 18 (5 * x + 3) (by decide) (by decide) (by decide), e 18 (5 * x + 4) (by decide) (by decide) (by decide), e 21 x (by decide) (by decide) (by decide), e 14 x (by decide) (by decide) (by decide), e 20 (5 * x) (by decide) (by decide) (by decide), e 20 (5 * x + 1) (by decide) (by decide) (by decide), e 20 (5 * x + 2) (by decide) (by decide) (by decide), e 20 (5 * x + 3) (by decide) (by decide) (by decide), e 20 (5 * x + 4) (by decide) (by decide) (by decide)]
  exact ⟨⟨⟨rfl, h3, h4, h5, h6, h7, h8, h9, o0, o1, o2, o3, o4, q0, q1, q2, q3, q4⟩, hv, hl⟩, h12⟩
theorem cn_dn {R : Nat → Nat → Option Nat} {b m cl nt c e : Nat} {I J : Mm} {A : Nat → Nat} (h : NRl R b m A I J cl nt) (hc : c < 8) (he : e < 2) (u : J (A 25) c = 0) : CN I R b c e = [] := by
  rw [(h.2.1 c e hc he).1]
  refine tg_nil (fun t ht z => ?_)
  obtain ⟨c', hc', e', u'⟩ := h.2.2.2.2.2.2.2.2.2.1 t ht
  rw [z] at e'
  have := nI_inj (by omega) (by omega) e'
  subst this
  exact u' u
theorem unp_sim {S : MM} {R' : Nat → Nat → Option Nat} {b m cl nt c p0 p1 : Nat} {A : Nat → Nat} {I J J' : Mm} (hL : LY S b) (hO : OC S) (hc : c < 8) (h0 : p0 < 8) (h1 : p1 < 8) (le : LYE (sR S) R' b) (rr : ∀ d, d < 8 → d ≠ c → R' (ppd (sR S) b d) = sR S (ppd (sR S) b d)) (rc : R' (ppd (sR S) b c) 0 = none ∧ R' (ppd (sR S) b c) 1 = none) (h : NRl (sR S) b m A I J cl nt) (P0 : J (A 22) (2 * c + 0) = nI p0) (P1 : J (A 22) (2 * c + 1) = nI p1) (pl : J (A 24) c ≠ 0) (uc : J (A 25) c = 0) (j11 : ∀ j, J' (A 11) j = if j = p0 ∨ j = 8 + p1 then -1 else J (A 11) j) (j24 : ∀ j, J' (A 24) j = if j = c then nI 0 else J (A 24) j) (jk : ∀ k j, dm k → k ≠ 11 → k ≠ 24 → J' (A k) j = J (A k) j) (m43 : J' m 43 = J m 43) (m32 : J' m 32 = J m 32) : NRl R' b m A (up2 (up2 I (px (sR S) b p0) 2 (-1)) (px (sR S) b (8 + p1)) 2 (-1)) J' cl nt := by
  have y0 : p0 < 16 := by omega
  have y1 : 8 + p1 < 16 := by omega
  have rp := pt2_rp (w := -1) hL hO y0 y1 h.1 j11 (fun k j a b d => jk k j a d (by omega))
  have oth : ∀ z k, sK S z = k → k ≠ 6 → (up2 (up2 I (px (sR S) b p0) 2 (-1)) (px (sR S) b (8 + p1)) 2 (-1)) z = I z := fun z k hz hk => by rw [up2_row (ne_k hz (k_px hL y1) hk), up2_row (ne_k hz (k_px hL y0) hk)]
  generalize up2 (up2 I (px (sR S) b p0) 2 (-1)) (px (sR S) b (8 + p1)) 2 (-1) = F at rp oth ⊢
  have nil := fun e he => cn_dn (e := e) h hc he uc
  obtain ⟨n1, n2, n3, ⟨n4a, n4b, n4c⟩, n5, n6, n7, n8, n9, n10, n11⟩ := h
  have r : ∀ k, dm k → k ≠ 11 → k ≠ 24 → J' (A k) = J (A k) := fun k a a1 a2 => funext (fun j => jk k j a a1 a2)
  have tG : TG J' A nt = TG J A nt := TG_c (fun t _ => tg_k (fun k hk => by
    have q : ∀ k ∈ ([27, 28, 29, 30, 31] : List Nat), dm k ∧ k ≠ 11 ∧ k ≠ 24 := by decide
    exact r k (q k hk).1 (q k hk).2.1 (q k hk).2.2))
  have lc : ∀ e f, e < 8 → f < 2 → LC2 I F (sR S) b e f := fun e f he hf => by
    have eL := oth _ 4 (ly_N hL he hf).2.1 (by decide)
    exact ⟨by rw [eL], by rw [eL], fun s hs => ⟨by rw [oth _ 5 (ly_T hL he hf hs).2.1 (by decide)], oth _ 7 (ly_TO hL he hf hs).2.1 (by decide), oth _ 7 (ly_TP hL he hf hs).2.1 (by decide)⟩⟩
  have e11 : J' (A 11) = upd (upd (J (A 11)) (8 * 0 + p0) (-1)) (8 * 1 + p1) (-1) := funext (fun j => by
    rw [j11]
    by_cases q1 : j = 8 * 1 + p1
    · rw [q1, pk_us, if_pos (Or.inr (by omega))]
    · rw [pk_un q1]
      by_cases q0 : j = 8 * 0 + p0
      · rw [q0, pk_us, if_pos (Or.inl (by omega))]
      · rw [pk_un q0, if_neg (by omega)])
  have e24 : J' (A 24) = upd (J (A 24)) c (nI 0) := funext (fun j => by
    rw [j24]
    by_cases q : j = c
    · rw [q, pk_us, if_pos rfl]
    · rw [pk_un q, if_neg q])
  refine NR_R le (fun x hx => rp x hx) (fun e f he hf => ?_) (fun e f he hf => ?_) ⟨by rw [oth b 8 hL.2 (by decide)]; exact n4a, m43.trans n4b, m32.trans n4c⟩ (fun e he => ?_) ?_ ⟨fun e he => ?_, fun e p he hp => ?_, fun e he => ?_⟩ ?_ (fun e he ue => ?_) ?_ ?_
  · rw [CN_c (lc e f he hf), tG, oth _ 4 (ly_N hL he hf).2.1 (by decide), r 26 (by decide) (by decide) (by decide)]; exact n2 e f he hf
  · rw [CN_c (lc e f he hf)]
    by_cases q : e = c
    · subst q
      rw [nil f hf]
      exact ⟨fun q hq => absurd hq List.not_mem_nil, List.Pairwise.nil⟩
    · unfold bd
      rw [j24, if_neg q, r 23 (by decide) (by decide) (by decide)]
      exact n3 e f he hf
  · rw [oth _ 2 (ly_E hL he).2.1 (by decide), r 1 (by decide) (by decide) (by decide), r 2 (by decide) (by decide) (by decide)]; exact n5 e he
  · unfold RIj
    rw [e11, e24, r 7 (by decide) (by decide) (by decide), r 9 (by decide) (by decide) (by decide), r 22 (by decide) (by decide) (by decide), r 23 (by decide) (by decide) (by decide), r 25 (by decide) (by decide) (by decide)]
    exact RI_pull n6 hc pl uc h0 h1 P0 P1
  · show F (Cb R' b e) 3 = _
    rw [le.C e he, oth _ 1 (ly_C hL he).2.1 (by decide), r 25 (by decide) (by decide) (by decide)]; exact n7.1 e he
  · show F (Pt R' b e p) 2 = _
    have hx : 8 * e + p < 16 := by omega
    have q := (rp (8 * e + p) hx).1.1.1
    rw [le.P e p he hp, ← q]
    show _ = F (Pt (sR S) b ((8 * e + p) / 8) ((8 * e + p) % 8)) 2
    rw [show (8 * e + p) / 8 = e by omega, show (8 * e + p) % 8 = p by omega]
  · show (J' (A 24) e = 0 ∧ R' (ppd R' b e) 0 = none ∧ R' (ppd R' b e) 1 = none) ∨ (J' (A 24) e ≠ 0 ∧ ∃ p0 p1, p0 < 8 ∧ p1 < 8 ∧ J' (A 22) (2 * e + 0) = nI p0 ∧ J' (A 22) (2 * e + 1) = nI p1 ∧ R' (ppd R' b e) 0 = some (Pt R' b 0 p0) ∧ R' (ppd R' b e) 1 = some (Pt R' b 1 p1))
    rw [le.PP e he, j24, r 22 (by decide) (by decide) (by decide)]
    by_cases q : e = c
    · subst q
      exact Or.inl ⟨by rw [if_pos rfl]; rfl, rc.1, rc.2⟩
    · rw [if_neg q, rr e he q]
      rcases n7.2.2 e he with z | ⟨z, p0, p1, a1, a2, a3, a4, a5, a6⟩
      · exact Or.inl z
      · exact Or.inr ⟨z, p0, p1, a1, a2, a3, a4, by rw [le.P 0 p0 (by decide) a1]; exact a5, by rw [le.P 1 p1 (by decide) a2]; exact a6⟩
  · unfold LTj; rw [r 25 (by decide) (by decide) (by decide), r 22 (by decide) (by decide) (by decide), r 7 (by decide) (by decide) (by decide)]; exact n8
  · rw [oth _ 1 (ly_C hL he).2.1 (by decide), r 23 (by decide) (by decide) (by decide)]
    rw [j24] at ue
    by_cases q : e = c
    · rw [if_pos q] at ue; exact absurd rfl ue
    · rw [if_neg q] at ue; exact n9 e he ue
  · unfold UTj; rw [r 27 (by decide) (by decide) (by decide), r 25 (by decide) (by decide) (by decide)]; exact n10
  · unfold DKj; rw [r 7 (by decide) (by decide) (by decide), r 8 (by decide) (by decide) (by decide), r 18 (by decide) (by decide) (by decide)]; exact n11
theorem pin_sim {S : MM} {R' : Nat → Nat → Option Nat} {b m cl nt c i k d : Nat} {A : Nat → Nat} {I J J' : Mm} (hL : LY S b) (hO : OC S) (hc : c < 8) (hi : i < 8) (hk : k < 8) (hd1 : 1 ≤ d) (hd2 : d ≤ 8) (le : LYE (sR S) R' b) (rr : ∀ e, e < 8 → e ≠ c → R' (ppd (sR S) b e) = sR S (ppd (sR S) b e)) (rc : R' (ppd (sR S) b c) 0 = some (Pt (sR S) b 0 i) ∧ R' (ppd (sR S) b c) 1 = some (Pt (sR S) b 1 k)) (h : NRl (sR S) b m A I J cl nt) (pl : J (A 24) c = 0) (uc : J (A 25) c = 0) (fi : J (A 11) i = -1) (fk : J (A 11) (8 + k) = -1) (j11 : ∀ j, J' (A 11) j = if j = i ∨ j = 8 + k then nI c else J (A 11) j) (j24 : ∀ j, J' (A 24) j = if j = c then nI 1 else J (A 24) j) (j23 : ∀ j, J' (A 23) j = if j = c then nI d else J (A 23) j) (j22 : ∀ j, J' (A 22) j = if j = 2 * c then nI i else if j = 2 * c + 1 then nI k else J (A 22) j) (jk : ∀ q j, dm q → q ≠ 11 → q ≠ 24 → q ≠ 23 → q ≠ 22 → J' (A q) j = J (A q) j) (m43 : J' m 43 = J m 43) (m32 : J' m 32 = J m 32) : NRl R' b m A (up2 (up2 (up2 I (px (sR S) b i) 2 (nI c)) (px (sR S) b (8 + k)) 2 (nI c)) (Cb (sR S) b c) 2 (nI d)) J' cl nt := by
  have y0 : i < 16 := by omega
  have y1 : 8 + k < 16 := by omega
  have kC := (ly_C hL hc).2.1
  have rp0 := pt2_rp (w := nI c) hL hO y0 y1 h.1 j11 (fun k j a b d => jk k j a d (by omega) (by omega) (by omega))
  have oth : ∀ z k', sK S z = k' → k' ≠ 6 → k' ≠ 1 → (up2 (up2 (up2 I (px (sR S) b i) 2 (nI c)) (px (sR S) b (8 + k)) 2 (nI c)) (Cb (sR S) b c) 2 (nI d)) z = I z := fun z k' hz h6 hC => by rw [up2_row (ne_k hz kC hC), up2_row (ne_k hz (k_px hL y1) h6), up2_row (ne_k hz (k_px hL y0) h6)]
  have cb : ∀ e, e < 8 → (up2 (up2 (up2 I (px (sR S) b i) 2 (nI c)) (px (sR S) b (8 + k)) 2 (nI c)) (Cb (sR S) b c) 2 (nI d)) (Cb (sR S) b e) 3 = I (Cb (sR S) b e) 3 ∧ (up2 (up2 (up2 I (px (sR S) b i) 2 (nI c)) (px (sR S) b (8 + k)) 2 (nI c)) (Cb (sR S) b c) 2 (nI d)) (Cb (sR S) b e) 2 = if e = c then nI d else I (Cb (sR S) b e) 2 := fun e he => by
    have nz : (up2 (up2 I (px (sR S) b i) 2 (nI c)) (px (sR S) b (8 + k)) 2 (nI c)) (Cb (sR S) b e) = I (Cb (sR S) b e) := by rw [up2_row (ne_k (ly_C hL he).2.1 (k_px hL y1) (by decide)), up2_row (ne_k (ly_C hL he).2.1 (k_px hL y0) (by decide))]
    refine ⟨by rw [up2_ne (fun z => absurd z.2 (by decide)), nz], ?_⟩
    by_cases q : e = c
    · rw [q, up2_self, if_pos rfl]
    · rw [up2_row (fun z => q (i_C hL hO he hc z)), if_neg q, nz]
  have ag : ∀ x, x < 16 → AG (sR S) b x (up2 (up2 I (px (sR S) b i) 2 (nI c)) (px (sR S) b (8 + k)) 2 (nI c)) (up2 (up2 (up2 I (px (sR S) b i) 2 (nI c)) (px (sR S) b (8 + k)) 2 (nI c)) (Cb (sR S) b c) 2 (nI d)) := fun x hx => ⟨up2_row (ne_k (k_px hL hx) kC (by decide)), up2_row (ne_k (k_ox hL hx) kC (by decide)), up2_row (ne_k (k_qx hL hx) kC (by decide)), up2_row (ne_k (k_lx hL hx) kC (by decide))⟩
  have rp : ∀ x, x < 16 → RP (sR S) b (up2 (up2 (up2 I (px (sR S) b i) 2 (nI c)) (px (sR S) b (8 + k)) 2 (nI c)) (Cb (sR S) b c) 2 (nI d)) J' A x ∧ (up2 (up2 (up2 I (px (sR S) b i) 2 (nI c)) (px (sR S) b (8 + k)) 2 (nI c)) (Cb (sR S) b c) 2 (nI d)) (px (sR S) b x) 12 = nI 0 := fun x hx => ⟨RP_g (rp0 x hx).1 (ag x hx) (fun _ _ _ _ _ => rfl), by rw [(ag x hx).1]; exact (rp0 x hx).2⟩
  clear rp0 ag
  generalize up2 (up2 (up2 I (px (sR S) b i) 2 (nI c)) (px (sR S) b (8 + k)) 2 (nI c)) (Cb (sR S) b c) 2 (nI d) = F at rp oth cb ⊢
  have nil := fun e he => cn_dn (e := e) h hc he uc
  obtain ⟨n1, n2, n3, ⟨n4a, n4b, n4c⟩, n5, n6, n7, n8, n9, n10, n11⟩ := h
  have r : ∀ q, dm q → q ≠ 11 → q ≠ 24 → q ≠ 23 → q ≠ 22 → J' (A q) = J (A q) := fun q a a1 a2 a3 a4 => funext (fun j => jk q j a a1 a2 a3 a4)
  have tG : TG J' A nt = TG J A nt := TG_c (fun t _ => tg_k (fun q hq => by
    have z : ∀ k ∈ ([27, 28, 29, 30, 31] : List Nat), dm k ∧ k ≠ 11 ∧ k ≠ 24 ∧ k ≠ 23 ∧ k ≠ 22 := by decide
    obtain ⟨a0, a1, a2, a3, a4⟩ := z q hq
    exact r q a0 a1 a2 a3 a4))
  have lc : ∀ e f, e < 8 → f < 2 → LC2 I F (sR S) b e f := fun e f he hf => by
    have eL := oth _ 4 (ly_N hL he hf).2.1 (by decide) (by decide)
    exact ⟨by rw [eL], by rw [eL], fun s hs => ⟨by rw [oth _ 5 (ly_T hL he hf hs).2.1 (by decide) (by decide)], oth _ 7 (ly_TO hL he hf hs).2.1 (by decide) (by decide), oth _ 7 (ly_TP hL he hf hs).2.1 (by decide) (by decide)⟩⟩
  have e11 : J' (A 11) = upd (upd (J (A 11)) (8 * 0 + i) (nI c)) (8 * 1 + k) (nI c) := funext (fun j => by
    rw [j11]
    by_cases q1 : j = 8 * 1 + k
    · rw [q1, pk_us, if_pos (Or.inr (by omega))]
    · rw [pk_un q1]
      by_cases q0 : j = 8 * 0 + i
      · rw [q0, pk_us, if_pos (Or.inl (by omega))]
      · rw [pk_un q0, if_neg (by omega)])
  have e24 : J' (A 24) = upd (J (A 24)) c (nI 1) := funext (fun j => by
    rw [j24]
    by_cases q : j = c
    · rw [q, pk_us, if_pos rfl]
    · rw [pk_un q, if_neg q])
  have e23 : J' (A 23) = upd (J (A 23)) c (nI d) := funext (fun j => by
    rw [j23]
    by_cases q : j = c
    · rw [q, pk_us, if_pos rfl]
    · rw [pk_un q, if_neg q])
  have e22 : J' (A 22) = upd (upd (J (A 22)) (2 * c) (nI i)) (2 * c + 1) (nI k) := funext (fun j => by
    rw [j22]
    by_cases q1 : j = 2 * c + 1
    · rw [q1, pk_us, if_neg (by omega), if_pos rfl]
    · rw [pk_un q1]
      by_cases q0 : j = 2 * c
      · rw [q0, pk_us, if_pos rfl]
      · rw [pk_un q0, if_neg q0, if_neg q1])
  have po : ∀ e f, e < 8 → f < 2 → e ≠ c → J' (A 22) (2 * e + f) = J (A 22) (2 * e + f) := fun e f he hf ne => by rw [j22, if_neg (by omega), if_neg (by omega)]
  refine NR_R le (fun x hx => rp x hx) (fun e f he hf => ?_) (fun e f he hf => ?_) ⟨by rw [oth b 8 hL.2 (by decide) (by decide)]; exact n4a, m43.trans n4b, m32.trans n4c⟩ (fun e he => ?_) ?_ ⟨fun e he => ?_, fun e p he hp => ?_, fun e he => ?_⟩ ?_ (fun e he ue => ?_) ?_ ?_
  · rw [CN_c (lc e f he hf), tG, oth _ 4 (ly_N hL he hf).2.1 (by decide) (by decide), r 26 (by decide) (by decide) (by decide) (by decide) (by decide)]; exact n2 e f he hf
  · rw [CN_c (lc e f he hf)]
    by_cases q : e = c
    · subst q
      rw [nil f hf]
      exact ⟨fun q hq => absurd hq List.not_mem_nil, List.Pairwise.nil⟩
    · unfold bd
      rw [j24, if_neg q, j23, if_neg q]
      exact n3 e f he hf
  · rw [oth _ 2 (ly_E hL he).2.1 (by decide) (by decide), r 1 (by decide) (by decide) (by decide) (by decide) (by decide), r 2 (by decide) (by decide) (by decide) (by decide) (by decide)]; exact n5 e he
  · unfold RIj
    rw [e11, e24, e23, e22, r 7 (by decide) (by decide) (by decide) (by decide) (by decide), r 9 (by decide) (by decide) (by decide) (by decide) (by decide), r 25 (by decide) (by decide) (by decide) (by decide) (by decide)]
    exact RI_plug n6 hc pl hi hk (by rw [show 8 * 0 + i = i by omega]; exact fi) (by rw [show 8 * 1 + k = 8 + k by omega]; exact fk) hd1 hd2
  · show F (Cb R' b e) 3 = _
    rw [le.C e he, (cb e he).1, r 25 (by decide) (by decide) (by decide) (by decide) (by decide)]; exact n7.1 e he
  · show F (Pt R' b e p) 2 = _
    have hx : 8 * e + p < 16 := by omega
    have q := (rp (8 * e + p) hx).1.1.1
    rw [le.P e p he hp, ← q]
    show _ = F (Pt (sR S) b ((8 * e + p) / 8) ((8 * e + p) % 8)) 2
    rw [show (8 * e + p) / 8 = e by omega, show (8 * e + p) % 8 = p by omega]
  · show (J' (A 24) e = 0 ∧ R' (ppd R' b e) 0 = none ∧ R' (ppd R' b e) 1 = none) ∨ (J' (A 24) e ≠ 0 ∧ ∃ p0 p1, p0 < 8 ∧ p1 < 8 ∧ J' (A 22) (2 * e + 0) = nI p0 ∧ J' (A 22) (2 * e + 1) = nI p1 ∧ R' (ppd R' b e) 0 = some (Pt R' b 0 p0) ∧ R' (ppd R' b e) 1 = some (Pt R' b 1 p1))
    rw [le.PP e he, j24]
    by_cases q : e = c
    · subst q
      refine Or.inr ⟨by rw [if_pos rfl]; decide, i, k, hi, hk, ?_, ?_, by rw [le.P 0 i (by decide) hi]; exact rc.1, by rw [le.P 1 k (by decide) hk]; exact rc.2⟩
      · rw [j22, if_pos (by omega)]
      · rw [j22, if_neg (by omega), if_pos rfl]
    · rw [if_neg q, rr e he q, po e 0 he (by decide) q, po e 1 he (by decide) q]
      rcases n7.2.2 e he with z | ⟨z, p0, p1, a1, a2, a3, a4, a5, a6⟩
      · exact Or.inl z
      · exact Or.inr ⟨z, p0, p1, a1, a2, a3, a4, by rw [le.P 0 p0 (by decide) a1]; exact a5, by rw [le.P 1 p1 (by decide) a2]; exact a6⟩
  · refine fun e he => ⟨by rw [r 25 (by decide) (by decide) (by decide) (by decide) (by decide)]; exact (n8 e he).1, fun ue f p hf hp pof => ?_⟩
    rw [r 25 (by decide) (by decide) (by decide) (by decide) (by decide)] at ue
    have ne : e ≠ c := fun z => by subst z; exact ue uc
    rw [po e f he hf ne] at pof
    rw [r 7 (by decide) (by decide) (by decide) (by decide) (by decide)]
    exact (n8 e he).2 ue f p hf hp pof
  · rw [(cb e he).2, j23]
    rw [j24] at ue
    by_cases q : e = c
    · rw [if_pos q, if_pos q]
    · rw [if_neg q] at ue
      rw [if_neg q, if_neg q]; exact n9 e he ue
  · unfold UTj; rw [r 27 (by decide) (by decide) (by decide) (by decide) (by decide), r 25 (by decide) (by decide) (by decide) (by decide) (by decide)]; exact n10
  · unfold DKj; rw [r 7 (by decide) (by decide) (by decide) (by decide) (by decide), r 8 (by decide) (by decide) (by decide) (by decide) (by decide), r 18 (by decide) (by decide) (by decide) (by decide) (by decide)]; exact n11
