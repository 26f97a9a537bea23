/-! SIMULATION 14: all ports tell -/
theorem RP_g {R : Nat → Nat → Option Nat} {b x : Nat} {I J I' J' : Mm} {A : Nat → Nat} (h : RP R b I J A x) (a : AG R b x I I') (e : ∀ k j, dm k → k ≤ 21 → (ow k j = x ∨ ow k j = 99) → J' (A k) j = J (A k) j) : RP R b I' J' A x := by
  unfold RP PR PV PLk at h ⊢
  rw [a.1, a.2.1, a.2.2.1, a.2.2.2]
  rw [e 11 x (by decide) (by decide) (Or.inl (ow_x (by decide))), e 7 x (by decide) (by decide) (Or.inl (ow_x (by decide))), e 8 x (by decide) (by decide) (Or.inl (ow_x (by decide))), e 9 x (by decide) (by decide) (Or.inl (ow_x (by decide))), e 10 x (by decide) (by decide) (Or.inl (ow_x (by decide))), e 19 (3 * x) (by decide) (by decide) (Or.inl ow_30), e 19 (3 * x + 1) (by decide) (by decide) (Or.inl (ow_3 (by decide))), e 19 (3 * x + 2) (by decide) (by decide) (Or.inl (ow_3 (by decide))), e 1 (x / 8) (by decide) (by decide) (Or.inr rfl), e 3 x (by decide) (by decide) (Or.inl (ow_x (by decide))), e 4 x (by decide) (by decide) (Or.inl (ow_x (by decide))), e 5 x (by decide) (by decide) (Or.inl (ow_x (by decide))), e 6 x (by decide) (by decide) (Or.inl (ow_x (by decide))), e 18 (5 * x) (by decide) (by decide) (Or.inl (ow_50 (by decide))), e 18 (5 * x + 1) (by decide) (by decide) (Or.inl (ow_5 (by decide) (by decide))), e 18 (5 * x + 2) (by decide) (by decide) (Or.inl (ow_5 (by decide) (by decide))), e 18 (5 * x + 3) (by decide) (by decide) (Or.inl (ow_5 (by decide) (by decide))), e 18 (5 * x + 4) (by decide) (by decide) (Or.inl (ow_5 (by decide) (by decide))), e 21 x (by decide) (by decide) (Or.inl (ow_x (by decide))), e 14 x (by decide) (by decide) (Or.inl (ow_x (by decide))), e 20 (5 * x) (by decide) (by decide) (Or.inl (ow_50 (by decide))), e 20 (5 * x + 1) (by decide) (by decide) (Or.inl (ow_5 (by decide) (by decide))), e 20 (5 * x + 2) (by decide) (by decide) (Or.inl (ow_5 (by decide) (by decide))), e 20 (5 * x + 3) (by decide) (by decide) (Or.inl (ow_5 (by decide) (by decide))), e 20 (5 * x + 4) (by decide) (by decide) (Or.inl (ow_5 (by decide) (by decide)))]
  exact h
def teE (R : Nat → Nat → Option Nat) (b e i : Nat) (I : Mm) : Mm := if f_X5_mustTell I (Pt R b e i) (Ow R b e i) (Pa R b e i) (La R b e i) (I b 2) = 0 then I else (f_X7_tellFrom I R b e i).1
theorem te11 {R : Nat → Nat → Option Nat} {b e : Nat} : ∀ r i (I : Mm) (w : Int32), (g_X7_tellAll_11 R b r i e I w).1 = fd (teE R b e) r i I := by
  intro r
  induction r with
  | zero => intro i I w; rfl
  | succ r ih =>
    intro i I w
    show (g_X7_tellAll_11 R b (r + 1) i e I w).1 = fd (teE R b e) r (i + 1) (teE R b e i I)
    rw [g_X7_tellAll_11]
    unfold teE
    split
    · exact ih _ _ _
    · dsimp only
      split
      · exact ih _ _ _
      · exact ih _ _ _
theorem te4_s {R : Nat → Nat → Option Nat} {b r e : Nat} {I : Mm} {w : Int32} : g_X7_tellAll_4 R b (r + 1) e I w = g_X7_tellAll_4 R b r (e + 1) (g_X7_tellAll_11 R b 8 0 e I w).1 (g_X7_tellAll_11 R b 8 0 e I w).2 := by
  rw [g_X7_tellAll_4]
theorem te4_0 {R : Nat → Nat → Option Nat} {b e : Nat} {I : Mm} {w : Int32} : (g_X7_tellAll_4 R b 0 e I w).1 = I := by
  rw [g_X7_tellAll_4]
theorem fd_tell {R : Nat → Nat → Option Nat} {b : Nat} {I : Mm} : (f_X7_tellAll I R b).1 = fd (fun x => teE R b (x / 8) (x % 8)) 16 0 I := by
  rw [← fd_two (f := teE R b), ← te11 (e := 0) 8 0 I (nI 0), ← te11 (e := 1) 8 0 _ (g_X7_tellAll_11 R b 8 0 0 I (nI 0)).2]
  unfold f_X7_tellAll
  rw [te4_s (r := 1), te4_s (r := 0), te4_0]
theorem fd_puts {m nt nf : Nat} {A : Nat → Nat} {w : Int32} : ∀ r i (J : Mm), g_X8_tick_60 m A nt nf r i J w = g_X8_tick_60 m A nt nf 0 (i + r) (fd (fun x J => f_putsW J m A x) r i J) w := by
  intro r
  induction r with
  | zero => intro i J; rfl
  | succ r ih =>
    intro i J
    show g_X8_tick_60 m A nt nf (r + 1) i J w = g_X8_tick_60 m A nt nf 0 (i + (r + 1)) (fd (fun x J => f_putsW J m A x) r (i + 1) (f_putsW J m A i)) w
    rw [g_X8_tick_60]
    have := ih (i + 1) (f_putsW J m A i)
    rw [show i + 1 + r = i + (r + 1) by omega] at this
    exact this
theorem tf_E {S : MM} {b c x : Nat} {I : Mm} (hL : LY S b) (hO : OC S) (hx : x < 16) (hc : c < 8) (ec : I (px (sR S) b x) 2 = nI c) : (f_X7_tellFrom I (sR S) b (x / 8) (x % 8)).1 = if I (Ln (sR S) b c (x / 8)) 6 ≤ 0 then f_X3_addNote (f_X5_rememberTelling I (px (sR S) b x) (ox (sR S) b x) (lx (sR S) b x) (I b 2)) (sR S) b c (x / 8) (x / 8) (x % 8) (I b 2 + I (Cb (sR S) b c) 2) else up2 (f_X5_rememberTelling I (px (sR S) b x) (ox (sR S) b x) (lx (sR S) b x) (I b 2)) (Ln (sR S) b c (x / 8)) 6 (I (Ln (sR S) b c (x / 8)) 6 - nI 1) := by
  have he : x / 8 < 2 := by omega
  have kp := k_px hL hx
  have kl := k_lx hL hx
  have cb : cbl (I (px (sR S) b x) 2) := by
    rw [ec]
    exact (show ∀ c, c < 8 → cbl (nI c) by decide +kernel) c hc
  have cc : (I (px (sR S) b x) 2).toNatClampNeg = c := by rw [ec, nI_cl (by omega)]
  have n : ∀ z, z ≠ lx (sR S) b x → z ≠ px (sR S) b x → f_X5_rememberTelling I (px (sR S) b x) (ox (sR S) b x) (lx (sR S) b x) (I b 2) z = I z := fun z h1 h2 => n_X5_rememberTelling h1 h2
  have nL := n _ (ne_k (ly_N hL hc he).2.1 kl (by decide)) (ne_k (ly_N hL hc he).2.1 kp (by decide))
  have nb := n _ (ne_k hL.2 kl (by decide)) (ne_k hL.2 kp (by decide))
  have nC := n _ (ne_k (ly_C hL hc).2.1 kl (by decide)) (ne_k (ly_C hL hc).2.1 kp (by decide))
  unfold f_X7_tellFrom
  rw [if_pos cb]
  dsimp only
  rw [cc, nL, nb, nC]
  split <;> rfl
def LN (R : Nat → Nat → Option Nat) (b : Nat) (I J : Mm) (A : Nat → Nat) (nt : Nat) : Prop := ∀ c e, c < 8 → e < 2 → CN I R b c e = (TG J A nt).filter (isL c e) ∧ I (Ln R b c e) 6 = J (A 26) (2 * c + e) ∧ ∃ n, n < 9 ∧ I (Ln R b c e) 2 = nI n
/-- what a lit port's cable is, and that no other port of its end has it -/
def HT (J : Mm) (A : Nat → Nat) (Bd : Nat → Nat) : Prop := (∀ x, x < 16 → ¬ J (A 7) x = 0 → ∃ c, c < 8 ∧ J (A 11) x = nI c ∧ J (A 23) c = nI (Bd c)) ∧ (∀ x y c, x < 16 → y < 16 → c < 8 → x / 8 = y / 8 → J (A 11) x = nI c → J (A 11) y = nI c → x = y) ∧ ∀ c, c < 8 → 1 ≤ Bd c ∧ Bd c ≤ 8
def PT (S : MM) (b m cl : Nat) (A Bd : Nat → Nat) (I0 J0 : Mm) (i : Nat) (I J : Mm) : Prop := (∀ x, x < 16 → RP (sR S) b I J A x ∧ I (px (sR S) b x) 12 = nI 0) ∧ (∃ nt, J m 32 = nI nt ∧ nt + (16 - i) ≤ 4000 ∧ LN (sR S) b I J A nt) ∧ (∀ c e, c < 8 → e < 2 → DU (CN I (sR S) b c e) (cl + 1) (cl + Bd c + 1) ∧ ∀ x, i ≤ x → x < 16 → ¬ J0 (A 7) x = 0 → x / 8 = e → J0 (A 11) x = nI c → DU (CN I (sR S) b c e) (cl + 1) (cl + Bd c)) ∧ (I b = I0 b ∧ (∀ c, c < 8 → I (Cb (sR S) b c) = I0 (Cb (sR S) b c)) ∧ ∀ e, e < 2 → I (En (sR S) b e) = I0 (En (sR S) b e)) ∧ (∀ k j, dm k → k ≠ 14 → k ≠ 16 → k ≠ 20 → k ≠ 21 → k ≠ 26 → (k < 27 ∨ 31 < k) → J (A k) j = J0 (A k) j) ∧ ∀ j, j ≠ 32 → j ≠ 50 → J m j = J0 m j
theorem CN_len {I : Mm} {R : Nat → Nat → Option Nat} {b c e : Nat} : (CN I R b c e).length = (I (Ln R b c e) 2).toNatClampNeg := by simp [CN]
theorem rm_lc {S : MM} {b x c e : Nat} {I : Mm} {v : Int32} (hL : LY S b) (hO : OC S) (hx : x < 16) (hc : c < 8) (he : e < 2) : LC2 I (f_X5_rememberTelling I (px (sR S) b x) (ox (sR S) b x) (lx (sR S) b x) v) (sR S) b c e := by
  have kp := k_px hL hx
  have kl := k_lx hL hx
  have n : ∀ z, z ≠ lx (sR S) b x → z ≠ px (sR S) b x → f_X5_rememberTelling I (px (sR S) b x) (ox (sR S) b x) (lx (sR S) b x) v z = I z := fun z h1 h2 => n_X5_rememberTelling h1 h2
  have nL := n _ (ne_k (ly_N hL hc he).2.1 kl (by decide)) (ne_k (ly_N hL hc he).2.1 kp (by decide))
  refine ⟨by rw [nL], by rw [nL], fun s hs => ⟨?_, ?_, ?_⟩⟩
  · rw [n _ (ne_k (ly_T hL hc he hs).2.1 kl (by decide)) (ne_k (ly_T hL hc he hs).2.1 kp (by decide))]
  · exact n _ (to_j hO (to_nO hL hc he hs) (to_lx hL hx) (by decide)) (ne_k (ly_TO hL hc he hs).2.1 kp (by decide))
  · exact n _ (to_j hO (to_nP hL hc he hs) (to_lx hL hx) (by decide)) (ne_k (ly_TP hL hc he hs).2.1 kp (by decide))
theorem an_lc {S : MM} {b c e c' e' e2 x : Nat} {I : Mm} {v : Int32} (hL : LY S b) (hO : OC S) (hc : c < 8) (he : e < 2) (hc' : c' < 8) (he' : e' < 2) (n : ¬ (c' = c ∧ e' = e)) : LC2 I (f_X3_addNote I (sR S) b c e e2 x v) (sR S) b c' e' ∧ f_X3_addNote I (sR S) b c e e2 x v (Ln (sR S) b c' e') = I (Ln (sR S) b c' e') := by
  have kL := (ly_N hL hc' he').2.1
  have eL : f_X3_addNote I (sR S) b c e e2 x v (Ln (sR S) b c' e') = I (Ln (sR S) b c' e') := an_k (fun s hs => ⟨ne_k kL (ly_TO hL hc he hs).2.1 (by decide), ne_k kL (ly_TP hL hc he hs).2.1 (by decide), ne_k kL (ly_T hL hc he hs).2.1 (by decide)⟩) (fun z => n (i_Ln hL hO hc' hc he' he z))
  have nT : ∀ s s', s < 8 → s' < 8 → Nt (sR S) b c' e' s' ≠ Nt (sR S) b c e s := fun s s' hs hs' z => n (i_Nt hL hO hc' hc he' he hs' hs z).1
  refine ⟨⟨by rw [eL], by rw [eL], fun s' hs' => ⟨?_, ?_, ?_⟩⟩, eL⟩
  · rw [an_k (fun s hs => ⟨ne_k (ly_T hL hc' he' hs').2.1 (ly_TO hL hc he hs).2.1 (by decide), ne_k (ly_T hL hc' he' hs').2.1 (ly_TP hL hc he hs).2.1 (by decide), nT s s' hs hs'⟩) (ne_k (ly_T hL hc' he' hs').2.1 (ly_N hL hc he).2.1 (by decide))]
  · exact an_k (fun s hs => ⟨to_a hO (to_nO hL hc' he' hs') (to_nO hL hc he hs) (nT s s' hs hs'), to_j hO (to_nO hL hc' he' hs') (to_nP hL hc he hs) (by decide), ne_k (ly_TO hL hc' he' hs').2.1 (ly_T hL hc he hs).2.1 (by decide)⟩) (ne_k (ly_TO hL hc' he' hs').2.1 (ly_N hL hc he).2.1 (by decide))
  · exact an_k (fun s hs => ⟨to_j hO (to_nP hL hc' he' hs') (to_nO hL hc he hs) (by decide), to_a hO (to_nP hL hc' he' hs') (to_nP hL hc he hs) (nT s s' hs hs'), ne_k (ly_TP hL hc' he' hs').2.1 (ly_T hL hc he hs).2.1 (by decide)⟩) (ne_k (ly_TP hL hc' he' hs').2.1 (ly_N hL hc he).2.1 (by decide))
theorem isL_nq {c e c' e' : Nat} {d : Int32} {ro rq : Nat → Int32} (hc : c < 8) (he : e < 2) (hc' : c' < 8) (he' : e' < 2) : isL c' e' (nq c e d ro rq) = decide (c' = c ∧ e' = e) := by
  have a : nq c e d ro rq 0 = nI c := rfl
  have a1 : nq c e d ro rq 1 = nI e := rfl
  have a3 : nq c e d ro rq 3 = -1 := rfl
  unfold isL
  rw [a, a1, a3]
  have i8 := nI_i8 c c' hc hc'
  have i2 := nI_i8 e e' (by omega) (by omega)
  by_cases q : c' = c ∧ e' = e
  · rw [q.1, q.2]; simp
  · have : ¬ (nI c = nI c' ∧ nI e = nI e' ∧ (-1 : Int32) = -1) := fun z => q ⟨(i8 z.1).symm, (i2 z.2.1).symm⟩
    simp [q]
    exact fun z1 z2 => this ⟨z1, z2, rfl⟩
