/-! SIMULATION 28: what the public calls do to the relation: the small ones -/
/-- the cells of the class that the notes hang on are the same -/
def CA (S : MM) (I I' : Mm) : Prop := (∀ z, (sK S z = 5 ∨ sK S z = 6 ∨ sK S z = 7) → I' z = I z) ∧ (∀ z, sK S z = 4 → ∀ k, (k = 1 ∨ k = 2 ∨ k = 6) → I' z k = I z k) ∧ (∀ z, sK S z = 1 → ∀ k, (k = 2 ∨ k = 3) → I' z k = I z k) ∧ (∀ z, sK S z = 2 → ∀ k, (k = 1 ∨ k = 2) → I' z k = I z k) ∧ ∀ z, sK S z = 8 → I' z 2 = I z 2
theorem CA.rf {S : MM} {I : Mm} : CA S I I := ⟨fun _ _ => rfl, fun _ _ _ _ => rfl, fun _ _ _ _ => rfl, fun _ _ _ _ => rfl, fun _ _ => rfl⟩
theorem CA.tr {S : MM} {I I1 I2 : Mm} (h : CA S I I1) (g : CA S I1 I2) : CA S I I2 := ⟨fun z a => (g.1 z a).trans (h.1 z a), fun z a k b => (g.2.1 z a k b).trans (h.2.1 z a k b), fun z a k b => (g.2.2.1 z a k b).trans (h.2.2.1 z a k b), fun z a k b => (g.2.2.2.1 z a k b).trans (h.2.2.2.1 z a k b), fun z a => (g.2.2.2.2 z a).trans (h.2.2.2.2 z a)⟩
theorem CA.ag {S : MM} {b x : Nat} {I I' : Mm} (hL : LY S b) (hx : x < 16) (h : CA S I I') : AG (sR S) b x I I' := ⟨h.1 _ (Or.inr (Or.inl (k_px hL hx))), h.1 _ (Or.inr (Or.inr (k_ox hL hx))), h.1 _ (Or.inr (Or.inr (k_qx hL hx))), h.1 _ (Or.inr (Or.inr (k_lx hL hx)))⟩
theorem CA.lc {S : MM} {b c e : Nat} {I I' : Mm} (hL : LY S b) (hc : c < 8) (he : e < 2) (h : CA S I I') : LC2 I I' (sR S) b c e := ⟨h.2.1 _ (ly_N hL hc he).2.1 1 (Or.inl rfl), h.2.1 _ (ly_N hL hc he).2.1 2 (Or.inr (Or.inl rfl)), fun s hs => ⟨by rw [h.1 _ (Or.inl (ly_T hL hc he hs).2.1)], h.1 _ (Or.inr (Or.inr (ly_TO hL hc he hs).2.1)), h.1 _ (Or.inr (Or.inr (ly_TP hL hc he hs).2.1))⟩⟩
theorem NR_I {S : MM} {b m cl nt : Nat} {A : Nat → Nat} {I I' J : Mm} (hL : LY S b) (ca : CA S I I') (h : NRl (sR S) b m A I J cl nt) : NRl (sR S) b m A I' J cl nt := by
  obtain ⟨h1, h2, h3, ⟨h4a, h4b, h4c⟩, h5, h6, h7, h8, h9, h10, h11⟩ := h
  refine ⟨fun x hx => ⟨RP_g (h1 x hx).1 (ca.ag hL hx) (fun _ _ _ _ _ => rfl), ?_⟩, fun c e hc he => ?_, fun c e hc he => ?_, ⟨(ca.2.2.2.2 b hL.2).trans h4a, h4b, h4c⟩, fun e he => ?_, h6, ⟨fun c hc => ?_, fun e p he hp => ?_, h7.2.2⟩, h8, fun c hc u => ?_, h10, h11⟩
  · rw [(ca.ag hL hx).1]; exact (h1 x hx).2
  · rw [CN_c (ca.lc hL hc he), ca.2.1 _ (ly_N hL hc he).2.1 6 (Or.inr (Or.inr rfl)), ca.2.1 _ (ly_N hL hc he).2.1 2 (Or.inr (Or.inl rfl))]
    exact h2 c e hc he
  · rw [CN_c (ca.lc hL hc he)]; exact h3 c e hc he
  · rw [ca.2.2.2.1 _ (ly_E hL he).2.1 1 (Or.inl rfl), ca.2.2.2.1 _ (ly_E hL he).2.1 2 (Or.inr rfl)]; exact h5 e he
  · show I' (Cb (sR S) b c) 3 = _
    rw [ca.2.2.1 _ (ly_C hL hc).2.1 3 (Or.inr rfl)]; exact h7.1 c hc
  · show I' (Pt (sR S) b e p) 2 = _
    rw [ca.1 _ (Or.inr (Or.inl (ly_P hL he hp).2.1))]; exact h7.2.1 e p he hp
  · rw [ca.2.2.1 _ (ly_C hL hc).2.1 2 (Or.inl rfl)]; exact h9 c hc u
theorem CA.w {S : MM} {I I' : Mm} {a k kd : Nat} {v : Int32} (h : CA S I I') (ka : sK S a = kd) (hk : (kd = 4 ∧ k ≠ 1 ∧ k ≠ 2 ∧ k ≠ 6) ∨ (kd = 1 ∧ k ≠ 2 ∧ k ≠ 3) ∨ (kd = 2 ∧ k ≠ 1 ∧ k ≠ 2) ∨ (kd = 8 ∧ k ≠ 2) ∨ kd = 3 ∨ 9 ≤ kd) : CA S I (up2 I' a k v) := by
  refine ⟨fun z hz => ?_, fun z hz j hj => ?_, fun z hz j hj => ?_, fun z hz j hj => ?_, fun z hz => ?_⟩
  · rw [up2_row (fun y => by subst y; omega)]; exact h.1 z hz
  · rw [up2_ne (fun y => by obtain ⟨y1, y2⟩ := y; subst y1; omega)]; exact h.2.1 z hz j hj
  · rw [up2_ne (fun y => by obtain ⟨y1, y2⟩ := y; subst y1; omega)]; exact h.2.2.1 z hz j hj
  · rw [up2_ne (fun y => by obtain ⟨y1, y2⟩ := y; subst y1; omega)]; exact h.2.2.2.1 z hz j hj
  · rw [up2_ne (fun y => by obtain ⟨y1, y2⟩ := y; subst y1; omega)]; exact h.2.2.2.2 z hz
theorem ca_nc {S : MM} {b : Nat} {I : Mm} (hL : LY S b) : CA S I (f_X7_noteChange I (sR S) b) := by
  have q : ∀ r i (I' : Mm) (w : Int32), i + r = 8 → CA S I I' → CA S I (g_X7_noteChange_29 (sR S) b r i I' w) := by
    intro r
    induction r with
    | zero => intro i I' w _ h; exact h
    | succ r ih =>
      intro i I' w hi h
      rw [g_X7_noteChange_29]
      have kC := (ly_C hL (show i < 8 by omega)).2.1
      split
      · exact ih _ _ _ (by omega) (h.w kC (by omega))
      · split
        · exact ih _ _ _ (by omega) (h.w kC (by omega))
        · exact ih _ _ _ (by omega) (h.w kC (by omega))
  unfold f_X7_noteChange
  exact q 8 0 _ _ rfl (CA.rf.w hL.2 (by omega))
theorem fo_nc {S : MM} {b : Nat} {I : Mm} (hL : LY S b) : FO S I (f_X7_noteChange I (sR S) b) := by
  have q : ∀ r i (I' : Mm) (w : Int32), i + r = 8 → FO S I I' → FO S I (g_X7_noteChange_29 (sR S) b r i I' w) := by
    intro r
    induction r with
    | zero => intro i I' w _ h; exact h
    | succ r ih =>
      intro i I' w hi h
      rw [g_X7_noteChange_29]
      have kC := (ly_C hL (show i < 8 by omega)).2.1
      split
      · exact ih _ _ _ (by omega) (h.w kC (by decide) rfl)
      · split
        · exact ih _ _ _ (by omega) (h.w kC (by decide) rfl)
        · exact ih _ _ _ (by omega) (h.w kC (by decide) rfl)
  unfold f_X7_noteChange
  exact q 8 0 _ _ rfl (FO.rf.w hL.2 (by decide) rfl)
theorem RP_o {R : Nat → Nat → Option Nat} {b x : Nat} {I J I' J' : Mm} {A : Nat → Nat} (h : RP R b I J A x) (ep : I' (px R b x) = I (px R b x)) (eq : I' (qx R b x) = I (qx R b x)) (el : I' (lx R b x) = I (lx R b x)) (o0 : I' (ox R b x) 0 = J' (A 1) (x / 8)) (o1 : I' (ox R b x) 1 = J' (A 3) x) (o2 : I' (ox R b x) 2 = J' (A 4) x) (o3 : I' (ox R b x) 3 = nI (x % 8)) (o4 : I' (ox R b x) 4 = btv (J' (A 5) x) (J' (A 6) x) (J' (A 3) x) (J' (A 9) x)) (e : ∀ k j, dm k → 7 ≤ k → J' (A k) j = J (A k) j) : RP R b I' J' A x := by
  obtain ⟨⟨h2, h3, h4, h5, h6, h7, h8, h9, _, _, _, _, _, q0, q1, q2, q3, q4⟩, hv, hl⟩ := h
  unfold RP PR PV PLk at *
  rw [ep, eq, el, e 11 x (by decide) (by decide), e 7 x (by decide) (by decide), e 8 x (by decide) (by decide), e 9 x (by decide) (by decide), e 10 x (by decide) (by decide), e 19 (3 * x) (by decide) (by decide), e 19 (3 * x + 1) (by decide) (by decide), e 19 (3 * x + 2) (by decide) (by decide), e 18 (5 * x) (by decide) (by decide), e 18 (5 * x + 1) (by decide) (by decide), e 18 (5 * x + 2) (by decide) (by decide), e 18 (5 * x + 3) (by decide) (by decide), e 18 (5 * x + 4) (by decide) (by decide), e 21 x (by decide) (by decide), e 14 x (by decide) (by decide), e 20 (5 * x) (by decide) (by decide), e 20 (5 * x + 1) (by decide) (by decide), e 20 (5 * x + 2) (by decide) (by decide), e 20 (5 * x + 3) (by decide) (by decide), e 20 (5 * x + 4) (by decide) (by decide)]
  rw [e 9 x (by decide) (by decide)] at o4
  exact ⟨⟨h2, h3, h4, h5, h6, h7, h8, h9, o0, o1, o2, o3, o4, q0, q1, q2, q3, q4⟩, hv, hl⟩
/-- only what ports tell of themselves, and what is written of the ends, has changed -/
theorem NR_own {S : MM} {b m cl nt : Nat} {A : Nat → Nat} {I I' J J' : Mm} (hL : LY S b) (h : NRl (sR S) b m A I J cl nt) (rp : ∀ x, x < 16 → RP (sR S) b I' J' A x) (r6 : ∀ z, sK S z = 6 ∨ sK S z = 5 ∨ sK S z = 4 ∨ sK S z = 1 ∨ sK S z = 8 → I' z = I z) (rt : ∀ c e s, c < 8 → e < 2 → s < 8 → I' (NtO (sR S) b c e s) = I (NtO (sR S) b c e s) ∧ I' (NtP (sR S) b c e s) = I (NtP (sR S) b c e s)) (en : ∀ e, e < 2 → I' (En (sR S) b e) 1 = J' (A 1) e ∧ I' (En (sR S) b e) 2 = J' (A 2) e) (jk : ∀ k j, dm k → 7 ≤ k → J' (A k) j = J (A k) j) (j43 : J' m 43 = J m 43) (j32 : J' m 32 = J m 32) : NRl (sR S) b m A I' J' cl nt := by
  obtain ⟨h1, h2, h3, ⟨h4a, h4b, h4c⟩, h5, h6, h7, h8, h9, h10, h11⟩ := h
  have r : ∀ k, dm k → 7 ≤ k → J' (A k) = J (A k) := fun k hk h7 => funext (fun j => jk k j hk h7)
  have tG : TG J' A nt = TG J A nt := TG_c (fun t _ => tg_k (fun k hk => r k ((show ∀ k ∈ ([27, 28, 29, 30, 31] : List Nat), dm k ∧ 7 ≤ k by decide) k hk).1 ((show ∀ k ∈ ([27, 28, 29, 30, 31] : List Nat), dm k ∧ 7 ≤ k by decide) k hk).2))
  have lc : ∀ c e, c < 8 → e < 2 → LC2 I I' (sR S) b c e := fun c e hc he => by
    have eL := r6 _ (Or.inr (Or.inr (Or.inl (ly_N hL hc he).2.1)))
    exact ⟨by rw [eL], by rw [eL], fun s hs => ⟨by rw [r6 _ (Or.inr (Or.inl (ly_T hL hc he hs).2.1))], (rt c e s hc he hs).1, (rt c e s hc he hs).2⟩⟩
  refine ⟨fun x hx => ⟨rp x hx, ?_⟩, fun c e hc he => ?_, fun c e hc he => ?_, ⟨?_, j43.trans h4b, j32.trans h4c⟩, en, ?_, ⟨fun c hc => ?_, fun e p he hp => ?_, ?_⟩, ?_, fun c hc u => ?_, ?_, ?_⟩
  · rw [r6 _ (Or.inl (k_px hL hx))]; exact (h1 x hx).2
  · rw [CN_c (lc c e hc he), tG, r6 _ (Or.inr (Or.inr (Or.inl (ly_N hL hc he).2.1))), r 26 (by decide) (by decide)]; exact h2 c e hc he
  · rw [CN_c (lc c e hc he)]; unfold bd; rw [r 23 (by decide) (by decide), r 24 (by decide) (by decide)]; exact h3 c e hc he
  · rw [r6 b (by rw [hL.2]; decide)]; exact h4a
  · unfold RIj; rw [r 7 (by decide) (by decide), r 9 (by decide) (by decide), r 11 (by decide) (by decide), r 22 (by decide) (by decide), r 23 (by decide) (by decide), r 24 (by decide) (by decide), r 25 (by decide) (by decide)]; exact h6
  · show I' (Cb (sR S) b c) 3 = _
    rw [r6 _ (by rw [(ly_C hL hc).2.1]; decide), r 25 (by decide) (by decide)]; exact h7.1 c hc
  · show I' (Pt (sR S) b e p) 2 = _
    rw [r6 _ (Or.inl (ly_P hL he hp).2.1), r 11 (by decide) (by decide)]; exact h7.2.1 e p he hp
  · rw [r 24 (by decide) (by decide), r 22 (by decide) (by decide)]; exact h7.2.2
  · unfold LTj; rw [r 25 (by decide) (by decide), r 22 (by decide) (by decide), r 7 (by decide) (by decide)]; exact h8
  · rw [r6 _ (by rw [(ly_C hL hc).2.1]; decide), r 23 (by decide) (by decide)]
    rw [r 24 (by decide) (by decide)] at u
    exact h9 c hc u
  · unfold UTj; rw [r 27 (by decide) (by decide), r 25 (by decide) (by decide)]; exact h10
  · unfold DKj; rw [r 7 (by decide) (by decide), r 8 (by decide) (by decide), r 18 (by decide) (by decide)]; exact h11
theorem ow_i {S : MM} {b e e' i i' : Nat} (hL : LY S b) (hO : OC S) (he : e < 2) (he' : e' < 2) (hi : i < 8) (hi' : i' < 8) (z : Ow (sR S) b e i = Ow (sR S) b e' i') : e = e' ∧ i = i' := by
  have h1 : TO S (Ow (sR S) b e i) (Pt (sR S) b e i) 0 := ⟨(ly_O hL he hi).1, Or.inl (ly_P hL he hi).2.1⟩
  have h2 : TO S (Ow (sR S) b e' i') (Pt (sR S) b e' i') 0 := ⟨(ly_O hL he' hi').1, Or.inl (ly_P hL he' hi').2.1⟩
  rw [z] at h1
  exact i_Pt hL hO he he' hi hi' (to_i hO h1 h2).1
/-! system -/
theorem rn_row {S : MM} {b e : Nat} {v : Int32} (hL : LY S b) (hO : OC S) (he : e < 2) : ∀ r i (I : Mm), i + r = 8 → (∀ z, (∀ j, j < 8 → z ≠ Ow (sR S) b e j) → g_X1_rename_7 (sR S) b e v r i I v z = I z) ∧ ∀ j, j < 8 → g_X1_rename_7 (sR S) b e v r i I v (Ow (sR S) b e j) = if i ≤ j then upd (I (Ow (sR S) b e j)) 0 v else I (Ow (sR S) b e j) := by
  intro r
  induction r with
  | zero => intro i I hi; exact ⟨fun _ _ => rfl, fun j hj => by rw [if_neg (by omega)]; rfl⟩
  | succ r ih =>
    intro i I hi
    rw [g_X1_rename_7]
    try dsimp only
    obtain ⟨h1, h2⟩ := ih (i + 1) (up2 I (Ow (sR S) b e i) 0 v) (by omega)
    refine ⟨fun z hz => ?_, fun j hj => ?_⟩
    · rw [h1 z hz, up2_row (hz i (by omega))]
    · rw [h2 j hj]
      by_cases q : j = i
      · subst q
        rw [if_neg (by omega), if_pos (by omega), up2_upd]
      · have ne : Ow (sR S) b e j ≠ Ow (sR S) b e i := fun z => q (ow_i hL hO he he hj (by omega) z).2
        rw [up2_row ne]
        by_cases q2 : i + 1 ≤ j
        · rw [if_pos q2, if_pos (by omega)]
        · rw [if_neg q2, if_neg (by omega)]
theorem oxe {R : Nat → Nat → Option Nat} {b e j : Nat} (hj : j < 8) : Ow R b e j = ox R b (8 * e + j) := by
  show _ = Ow R b ((8 * e + j) / 8) ((8 * e + j) % 8)
  rw [show (8 * e + j) / 8 = e by omega, show (8 * e + j) % 8 = j by omega]
/-- a cell that is no port's own -/
def NO (R : Nat → Nat → Option Nat) (b z : Nat) : Prop := ∀ y, y < 16 → z ≠ ox R b y
theorem no_k {S : MM} {b z k : Nat} (hL : LY S b) (hz : sK S z = k) (h : k ≠ 7) : NO (sR S) b z := fun _ hy => ne_k hz (k_ox hL hy) h
theorem no_q {S : MM} {b x : Nat} (hL : LY S b) (hO : OC S) (hx : x < 16) : NO (sR S) b (qx (sR S) b x) := fun _ hy => d_qo hL hO hx hy
theorem no_l {S : MM} {b x : Nat} (hL : LY S b) (hO : OC S) (hx : x < 16) : NO (sR S) b (lx (sR S) b x) := fun _ hy => d_lo hL hO hx hy
theorem no_T {S : MM} {b c e s : Nat} (hL : LY S b) (hO : OC S) (hc : c < 8) (he : e < 2) (hs : s < 8) : NO (sR S) b (NtO (sR S) b c e s) ∧ NO (sR S) b (NtP (sR S) b c e s) := ⟨fun _ hy => to_a hO (to_nO hL hc he hs) (to_ox hL hy) (ne_k (ly_T hL hc he hs).2.1 (k_px hL hy) (by decide)), fun _ hy => to_a hO (to_nP hL hc he hs) (to_ox hL hy) (ne_k (ly_T hL hc he hs).2.1 (k_px hL hy) (by decide))⟩
theorem PR_o {rp ro rq : Nat → Int32} {J : Mm} {A : Nat → Nat} {x : Nat} (h : PR rp ro rq J A x) : ro 0 = J (A 1) (x / 8) ∧ ro 1 = J (A 3) x ∧ ro 2 = J (A 4) x ∧ ro 3 = nI (x % 8) ∧ ro 4 = btv (J (A 5) x) (J (A 6) x) (J (A 3) x) (J (A 9) x) := ⟨h.2.2.2.2.2.2.2.2.1, h.2.2.2.2.2.2.2.2.2.1, h.2.2.2.2.2.2.2.2.2.2.1, h.2.2.2.2.2.2.2.2.2.2.2.1, h.2.2.2.2.2.2.2.2.2.2.2.2.1⟩
theorem sys_sim {S : MM} {b m cl nt e : Nat} {A : Nat → Nat} {I J J' : Mm} {w : Int32} (hL : LY S b) (hO : OC S) (he : e < 2) (h : NRl (sR S) b m A I J cl nt) (j1 : ∀ j, J' (A 1) j = if j = e then w else J (A 1) j) (jk : ∀ k j, dm k → k ≠ 1 → J' (A k) j = J (A k) j) (j43 : J' m 43 = J m 43) (j32 : J' m 32 = J m 32) : NRl (sR S) b m A (f_X1_rename I (sR S) b e w) J' cl nt := by
  have kE := (ly_E hL he).2.1
  obtain ⟨q1, q2⟩ := rn_row (v := w) hL hO he 8 0 (up2 I (En (sR S) b e) 1 w) rfl
  have E : f_X1_rename I (sR S) b e w = g_X1_rename_7 (sR S) b e w 8 0 (up2 I (En (sR S) b e) 1 w) w := rfl
  rw [E]
  generalize g_X1_rename_7 (sR S) b e w 8 0 (up2 I (En (sR S) b e) 1 w) w = F at q1 q2 ⊢
  have n : ∀ z, NO (sR S) b z → F z = up2 I (En (sR S) b e) 1 w z := fun z hz => q1 z (fun j hj => by rw [oxe hj]; exact hz _ (by omega))
  have nk : ∀ z k, sK S z = k → k ≠ 7 → k ≠ 2 → F z = I z := fun z k hz h7 h2 => by rw [n z (no_k hL hz h7), up2_row (ne_k hz kE h2)]
  have ro : ∀ x, x < 16 → F (ox (sR S) b x) = if x / 8 = e then upd (I (ox (sR S) b x)) 0 w else I (ox (sR S) b x) := fun x hx => by
    by_cases q : x / 8 = e
    · subst q
      rw [if_pos rfl, q2 (x % 8) (by omega), if_pos (Nat.zero_le _), up2_row (ne_k (k_ox hL hx) kE (by decide))]
    · rw [if_neg q, q1 _ (fun j hj => by rw [oxe hj]; exact d_oo hL hO hx (by omega) (by omega)), up2_row (ne_k (k_ox hL hx) kE (by decide))]
  have h0 := h
  refine NR_own hL h (fun x hx => ?_) (fun z hz => ?_) (fun c f s hc hf hs => ?_) (fun f hf => ?_) (fun k j a b => jk k j a (by omega)) j43 j32
  · have hr := (h0.1 x hx).1
    obtain ⟨o0, o1, o2, o3, o4⟩ := PR_o hr.1
    refine RP_o hr (nk _ 6 (k_px hL hx) (by decide) (by decide)) (by rw [n _ (no_q hL hO hx), up2_row (ne_k (k_qx hL hx) kE (by decide))]) (by rw [n _ (no_l hL hO hx), up2_row (ne_k (k_lx hL hx) kE (by decide))]) ?_ ?_ ?_ ?_ ?_ (fun k j a b => jk k j a (by omega))
    · rw [ro x hx, j1]
      split
      · exact pk_us
      · exact o0
    · rw [ro x hx, jk 3 x (by decide) (by decide)]
      split
      · rw [pk_un (by decide)]; exact o1
      · exact o1
    · rw [ro x hx, jk 4 x (by decide) (by decide)]
      split
      · rw [pk_un (by decide)]; exact o2
      · exact o2
    · rw [ro x hx]
      split
      · rw [pk_un (by decide)]; exact o3
      · exact o3
    · rw [ro x hx, jk 5 x (by decide) (by decide), jk 6 x (by decide) (by decide), jk 3 x (by decide) (by decide), jk 9 x (by decide) (by decide)]
      split
      · rw [pk_un (by decide)]; exact o4
      · exact o4
  · rcases hz with k | k | k | k | k
    · exact nk z 6 k (by decide) (by decide)
    · exact nk z 5 k (by decide) (by decide)
    · exact nk z 4 k (by decide) (by decide)
    · exact nk z 1 k (by decide) (by decide)
    · exact nk z 8 k (by decide) (by decide)
  · exact ⟨by rw [n _ (no_T hL hO hc hf hs).1, up2_row (ne_k (ly_TO hL hc hf hs).2.1 kE (by decide))], by rw [n _ (no_T hL hO hc hf hs).2, up2_row (ne_k (ly_TP hL hc hf hs).2.1 kE (by decide))]⟩
  · have g := h0.2.2.2.2.1 f hf
    rw [n _ (no_k hL (ly_E hL hf).2.1 (by decide)), j1, jk 2 f (by decide) (by decide)]
    by_cases q : f = e
    · subst q
      rw [up2_self, up2_jn (by decide), if_pos rfl]
      exact ⟨rfl, g.2⟩
    · rw [up2_row (fun z => q (i_E hL hO hf he z)), if_neg q]
      exact g
theorem lim_sim {S : MM} {b m cl nt e : Nat} {A : Nat → Nat} {I J J' : Mm} {w : Int32} (hL : LY S b) (hO : OC S) (he : e < 2) (h : NRl (sR S) b m A I J cl nt) (j2 : ∀ j, J' (A 2) j = if j = e then w else J (A 2) j) (jk : ∀ k j, dm k → k ≠ 2 → J' (A k) j = J (A k) j) (j43 : J' m 43 = J m 43) (j32 : J' m 32 = J m 32) : NRl (sR S) b m A (up2 I (En (sR S) b e) 2 w) J' cl nt := by
  have kE := (ly_E hL he).2.1
  have nk : ∀ z k, sK S z = k → k ≠ 2 → up2 I (En (sR S) b e) 2 w z = I z := fun z k hz h2 => up2_row (ne_k hz kE h2)
  have h0 := h
  refine NR_own hL h (fun x hx => ?_) (fun z hz => ?_) (fun c f s hc hf hs => ⟨nk _ 7 (ly_TO hL hc hf hs).2.1 (by decide), nk _ 7 (ly_TP hL hc hf hs).2.1 (by decide)⟩) (fun f hf => ?_) (fun k j a b => jk k j a (by omega)) j43 j32
  · have hr := (h0.1 x hx).1
    obtain ⟨o0, o1, o2, o3, o4⟩ := PR_o hr.1
    refine RP_o hr (nk _ 6 (k_px hL hx) (by decide)) (nk _ 7 (k_qx hL hx) (by decide)) (nk _ 7 (k_lx hL hx) (by decide)) ?_ ?_ ?_ ?_ ?_ (fun k j a b => jk k j a (by omega))
    all_goals rw [nk _ 7 (k_ox hL hx) (by decide)]
    · rw [jk 1 _ (by decide) (by decide)]; exact o0
    · rw [jk 3 _ (by decide) (by decide)]; exact o1
    · rw [jk 4 _ (by decide) (by decide)]; exact o2
    · exact o3
    · rw [jk 5 x (by decide) (by decide), jk 6 x (by decide) (by decide), jk 3 x (by decide) (by decide), jk 9 x (by decide) (by decide)]; exact o4
  · rcases hz with k | k | k | k | k
    · exact nk z 6 k (by decide)
    · exact nk z 5 k (by decide)
    · exact nk z 4 k (by decide)
    · exact nk z 1 k (by decide)
    · exact nk z 8 k (by decide)
  · have g := h0.2.2.2.2.1 f hf
    rw [j2, jk 1 f (by decide) (by decide)]
    by_cases q : f = e
    · subst q
      rw [up2_self, up2_jn (by decide), if_pos rfl]
      exact ⟨g.1, rfl⟩
    · rw [up2_row (fun z => q (i_E hL hO hf he z)), if_neg q]
      exact g
/-- one port's own has changed -/
theorem own_sim {S : MM} {b m cl nt y : Nat} {A : Nat → Nat} {I F J J' : Mm} (hL : LY S b) (hO : OC S) (hy : y < 16) (h : NRl (sR S) b m A I J cl nt) (fz : ∀ z, z ≠ ox (sR S) b y → F z = I z) (f0 : F (ox (sR S) b y) 0 = I (ox (sR S) b y) 0) (f1 : F (ox (sR S) b y) 1 = J' (A 3) y) (f2 : F (ox (sR S) b y) 2 = J' (A 4) y) (f3 : F (ox (sR S) b y) 3 = I (ox (sR S) b y) 3) (f4 : F (ox (sR S) b y) 4 = btv (J' (A 5) y) (J' (A 6) y) (J' (A 3) y) (J' (A 9) y)) (jo : ∀ k j, dm k → 3 ≤ k → k ≤ 6 → j ≠ y → J' (A k) j = J (A k) j) (jk : ∀ k j, dm k → k < 3 ∨ 7 ≤ k → J' (A k) j = J (A k) j) (j43 : J' m 43 = J m 43) (j32 : J' m 32 = J m 32) : NRl (sR S) b m A F J' cl nt := by
  have h0 := h
  have ko := k_ox hL hy
  have nk : ∀ z k, sK S z = k → k ≠ 7 → F z = I z := fun z k hz h7 => fz z (ne_k hz ko h7)
  refine NR_own hL h (fun x hx => ?_) (fun z hz => ?_) (fun c f s hc hf hs => ⟨fz _ ((no_T hL hO hc hf hs).1 y hy), fz _ ((no_T hL hO hc hf hs).2 y hy)⟩) (fun f hf => ?_) (fun k j a b => jk k j a (Or.inr b)) j43 j32
  · have hr := (h0.1 x hx).1
    obtain ⟨o0, o1, o2, o3, o4⟩ := PR_o hr.1
    refine RP_o hr (nk _ 6 (k_px hL hx) (by decide)) (fz _ (d_qo hL hO hx hy)) (fz _ (d_lo hL hO hx hy)) ?_ ?_ ?_ ?_ ?_ (fun k j a b => jk k j a (Or.inr b))
    all_goals by_cases q : x = y
    all_goals try subst q
    · rw [f0, jk 1 _ (by decide) (by decide)]; exact o0
    · rw [fz _ (d_oo hL hO hx hy q), jk 1 _ (by decide) (by decide)]; exact o0
    · exact f1
    · rw [fz _ (d_oo hL hO hx hy q), jo 3 x (by decide) (by decide) (by decide) q]; exact o1
    · exact f2
    · rw [fz _ (d_oo hL hO hx hy q), jo 4 x (by decide) (by decide) (by decide) q]; exact o2
    · rw [f3]; exact o3
    · rw [fz _ (d_oo hL hO hx hy q)]; exact o3
    · exact f4
    · rw [fz _ (d_oo hL hO hx hy q), jo 5 x (by decide) (by decide) (by decide) q, jo 6 x (by decide) (by decide) (by decide) q, jo 3 x (by decide) (by decide) (by decide) q, jk 9 x (by decide) (by decide)]; exact o4
  · rcases hz with k | k | k | k | k
    · exact nk z 6 k (by decide)
    · exact nk z 5 k (by decide)
    · exact nk z 4 k (by decide)
    · exact nk z 1 k (by decide)
    · exact nk z 8 k (by decide)
  · have g := h0.2.2.2.2.1 f hf
    rw [nk _ 2 (ly_E hL hf).2.1 (by decide), jk 1 f (by decide) (by decide), jk 2 f (by decide) (by decide)]
    exact g
theorem los_sim {S : MM} {b m cl nt c e : Nat} {A : Nat → Nat} {I J J' : Mm} {w : Int32} (hL : LY S b) (hO : OC S) (hc : c < 8) (he : e < 2) (h : NRl (sR S) b m A I J cl nt) (j26 : ∀ j, J' (A 26) j = if j = 2 * c + e then w else J (A 26) j) (jk : ∀ k j, dm k → k ≠ 26 → J' (A k) j = J (A k) j) (j43 : J' m 43 = J m 43) (j32 : J' m 32 = J m 32) : NRl (sR S) b m A (up2 I (Ln (sR S) b c e) 6 w) J' cl nt := by
  have kN := (ly_N hL hc he).2.1
  have nk : ∀ z k, sK S z = k → k ≠ 4 → up2 I (Ln (sR S) b c e) 6 w z = I z := fun z k hz h4 => up2_row (ne_k hz kN h4)
  have lc : ∀ d f, d < 8 → f < 2 → LC2 I (up2 I (Ln (sR S) b c e) 6 w) (sR S) b d f := fun d f hd hf => ⟨up2_ne (fun z => absurd z.2 (by decide)), up2_ne (fun z => absurd z.2 (by decide)), fun s hs => ⟨by rw [nk _ 5 (ly_T hL hd hf hs).2.1 (by decide)], nk _ 7 (ly_TO hL hd hf hs).2.1 (by decide), nk _ 7 (ly_TP hL hd hf hs).2.1 (by decide)⟩⟩
  obtain ⟨h1, h2, h3, ⟨h4a, h4b, h4c⟩, h5, h6, h7, h8, h9, h10, h11⟩ := h
  have r : ∀ k, dm k → k ≠ 26 → J' (A k) = J (A k) := fun k hk h26 => funext (fun j => jk k j hk h26)
  have tG : TG J' A nt = TG J A nt := TG_c (fun t _ => tg_k (fun k hk => r k ((show ∀ k ∈ ([27, 28, 29, 30, 31] : List Nat), dm k ∧ k ≠ 26 by decide) k hk).1 ((show ∀ k ∈ ([27, 28, 29, 30, 31] : List Nat), dm k ∧ k ≠ 26 by decide) k hk).2))
  refine ⟨fun x hx => ⟨RP_g (h1 x hx).1 ⟨nk _ 6 (k_px hL hx) (by decide), nk _ 7 (k_ox hL hx) (by decide), nk _ 7 (k_qx hL hx) (by decide), nk _ 7 (k_lx hL hx) (by decide)⟩ (fun k j a b _ => jk k j a (by omega)), ?_⟩, fun d f hd hf => ?_, fun d f hd hf => ?_, ⟨?_, j43.trans h4b, j32.trans h4c⟩, fun f hf => ?_, ?_, ⟨fun d hd => ?_, fun f p hf hp => ?_, ?_⟩, ?_, fun d hd u => ?_, ?_, ?_⟩
  · rw [nk _ 6 (k_px hL hx) (by decide)]; exact (h1 x hx).2
  · obtain ⟨a1, a2, a3⟩ := h2 d f hd hf
    rw [CN_c (lc d f hd hf), tG, j26, (lc d f hd hf).2.1]
    refine ⟨a1, ?_, a3⟩
    by_cases q : d = c ∧ f = e
    · obtain ⟨rfl, rfl⟩ := q
      rw [up2_self, if_pos rfl]
    · rw [up2_row (fun z => q (i_Ln hL hO hd hc hf he z)), if_neg (by omega)]
      exact a2
  · rw [CN_c (lc d f hd hf)]; unfold bd; rw [r 23 (by decide) (by decide), r 24 (by decide) (by decide)]; exact h3 d f hd hf
  · rw [nk _ 8 hL.2 (by decide)]; exact h4a
  · rw [nk _ 2 (ly_E hL hf).2.1 (by decide), r 1 (by decide) (by decide), r 2 (by decide) (by decide)]; exact h5 f hf
  · unfold RIj; rw [r 7 (by decide) (by decide), r 9 (by decide) (by decide), r 11 (by decide) (by decide), r 22 (by decide) (by decide), r 23 (by decide) (by decide), r 24 (by decide) (by decide), r 25 (by decide) (by decide)]; exact h6
  · show up2 I (Ln (sR S) b c e) 6 w (Cb (sR S) b d) 3 = _
    rw [nk _ 1 (ly_C hL hd).2.1 (by decide), r 25 (by decide) (by decide)]; exact h7.1 d hd
  · show up2 I (Ln (sR S) b c e) 6 w (Pt (sR S) b f p) 2 = _
    rw [nk _ 6 (ly_P hL hf hp).2.1 (by decide), r 11 (by decide) (by decide)]; exact h7.2.1 f p hf hp
  · rw [r 24 (by decide) (by decide), r 22 (by decide) (by decide)]; exact h7.2.2
  · unfold LTj; rw [r 25 (by decide) (by decide), r 22 (by decide) (by decide), r 7 (by decide) (by decide)]; exact h8
  · rw [nk _ 1 (ly_C hL hd).2.1 (by decide), r 23 (by decide) (by decide)]
    rw [r 24 (by decide) (by decide)] at u
    exact h9 d hd u
  · unfold UTj; rw [r 27 (by decide) (by decide), r 25 (by decide) (by decide)]; exact h10
  · unfold DKj; rw [r 7 (by decide) (by decide), r 8 (by decide) (by decide), r 18 (by decide) (by decide)]; exact h11
