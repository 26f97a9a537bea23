/-! SIMULATION 6: where the ports' cells are; all ports age -/
abbrev px (R : Nat → Nat → Option Nat) (b x : Nat) : Nat := Pt R b (x / 8) (x % 8)
abbrev ox (R : Nat → Nat → Option Nat) (b x : Nat) : Nat := Ow R b (x / 8) (x % 8)
abbrev qx (R : Nat → Nat → Option Nat) (b x : Nat) : Nat := Pa R b (x / 8) (x % 8)
abbrev lx (R : Nat → Nat → Option Nat) (b x : Nat) : Nat := La R b (x / 8) (x % 8)
theorem oc_i {S : MM} (hO : OC S) {a a' j j' t k k' : Nat} (ka : sK S a = k) (ka' : sK S a' = k') (hk : cl k = true) (hk' : cl k' = true) (n : k ≠ 17 ∨ sN S a ≠ 2) (n' : k' ≠ 17 ∨ sN S a' ≠ 2) (e : sR S a j = some t) (e' : sR S a' j' = some t) : a = a' ∧ j = j' := by
  have r : ∀ a k, sK S a = k → (k ≠ 17 ∨ sN S a ≠ 2) → rc S a ≠ 117 := fun a k ka n => by
    unfold rc
    split
    · decide
    · rw [if_neg (fun z => by rcases n with q | q; exact q (ka ▸ z.1); exact q z.2)]
      decide
  exact hO.1 a a' j j' t (by rw [ka]; exact hk) (by rw [ka']; exact hk') (r a k ka n) (r a' k' ka' n') e e'
theorem ne_k {S : MM} {a c k k' : Nat} (h : sK S a = k) (h' : sK S c = k') (n : k ≠ k') : a ≠ c := fun z => n (by rw [← h, ← h', z])
theorem k_px {S : MM} {b x : Nat} (hL : LY S b) (hx : x < 16) : sK S (px (sR S) b x) = 6 := (ly_P hL (by omega) (by omega)).2.1
theorem k_ox {S : MM} {b x : Nat} (hL : LY S b) (hx : x < 16) : sK S (ox (sR S) b x) = 7 := (ly_O hL (by omega) (by omega)).2.1
theorem k_qx {S : MM} {b x : Nat} (hL : LY S b) (hx : x < 16) : sK S (qx (sR S) b x) = 7 := (ly_Q hL (by omega) (by omega)).2.1
theorem k_lx {S : MM} {b x : Nat} (hL : LY S b) (hx : x < 16) : sK S (lx (sR S) b x) = 7 := (ly_L hL (by omega) (by omega)).2.1
theorem i_E {S : MM} {b e e' : Nat} (hL : LY S b) (hO : OC S) (he : e < 2) (he' : e' < 2) (z : En (sR S) b e = En (sR S) b e') : e = e' := by
  have h1 := (ly_E hL he).1
  have h2 := (ly_E hL he').1
  rw [← z] at h2
  exact (oc_i hO (ly_ea hL).2.1 (ly_ea hL).2.1 rfl rfl (Or.inl (by decide)) (Or.inl (by decide)) h1 h2).2
theorem i_Pt {S : MM} {b e e' i i' : Nat} (hL : LY S b) (hO : OC S) (he : e < 2) (he' : e' < 2) (hi : i < 8) (hi' : i' < 8) (z : Pt (sR S) b e i = Pt (sR S) b e' i') : e = e' ∧ i = i' := by
  have h1 := ly_P hL he hi
  have h2 := (ly_P hL he' hi').1
  rw [← z] at h2
  have n : ∀ e, e < 2 → sN S (pad (sR S) b e) ≠ 2 := fun e he => by rw [(ly_pa hL he).2.2]; decide
  have q := oc_i hO (ly_pa hL he).2.1 (ly_pa hL he').2.1 rfl rfl (Or.inr (n e he)) (Or.inr (n e' he')) h1.1 h2
  have h3 := (ly_pa hL he).1
  have h4 := (ly_pa hL he').1
  rw [← q.1] at h4
  have q2 := oc_i hO (ly_E hL he).2.1 (ly_E hL he').2.1 rfl rfl (Or.inl (by decide)) (Or.inl (by decide)) h3 h4
  exact ⟨i_E hL hO he he' q2.1, q.2⟩
theorem i_px {S : MM} {b x y : Nat} (hL : LY S b) (hO : OC S) (hx : x < 16) (hy : y < 16) (z : px (sR S) b x = px (sR S) b y) : x = y := by
  have q := i_Pt hL hO (by omega) (by omega) (by omega) (by omega) z
  omega
/-- whose a told cell is -/
def TO (S : MM) (t a j : Nat) : Prop := sR S a j = some t ∧ (sK S a = 6 ∨ sK S a = 5)
theorem to_i {S : MM} (hO : OC S) {t a a' j j' : Nat} (h : TO S t a j) (h' : TO S t a' j') : a = a' ∧ j = j' := by
  rcases h.2 with k | k <;> rcases h'.2 with k' | k' <;> exact oc_i hO k k' rfl rfl (Or.inl (by decide)) (Or.inl (by decide)) h.1 h'.1
theorem to_ox {S : MM} {b x : Nat} (hL : LY S b) (hx : x < 16) : TO S (ox (sR S) b x) (px (sR S) b x) 0 := ⟨(ly_O hL (by omega) (by omega)).1, Or.inl (k_px hL hx)⟩
theorem to_qx {S : MM} {b x : Nat} (hL : LY S b) (hx : x < 16) : TO S (qx (sR S) b x) (px (sR S) b x) 1 := ⟨(ly_Q hL (by omega) (by omega)).1, Or.inl (k_px hL hx)⟩
theorem to_lx {S : MM} {b x : Nat} (hL : LY S b) (hx : x < 16) : TO S (lx (sR S) b x) (px (sR S) b x) 14 := ⟨(ly_L hL (by omega) (by omega)).1, Or.inl (k_px hL hx)⟩
theorem to_nO {S : MM} {b c e i : Nat} (hL : LY S b) (hc : c < 8) (he : e < 2) (hi : i < 8) : TO S (NtO (sR S) b c e i) (Nt (sR S) b c e i) 0 := ⟨(ly_TO hL hc he hi).1, Or.inr (ly_T hL hc he hi).2.1⟩
theorem to_nP {S : MM} {b c e i : Nat} (hL : LY S b) (hc : c < 8) (he : e < 2) (hi : i < 8) : TO S (NtP (sR S) b c e i) (Nt (sR S) b c e i) 1 := ⟨(ly_TP hL hc he hi).1, Or.inr (ly_T hL hc he hi).2.1⟩
theorem to_j {S : MM} (hO : OC S) {t t' a a' j j' : Nat} (h : TO S t a j) (h' : TO S t' a' j') (n : j ≠ j') : t ≠ t' := fun z => n (to_i hO h (z ▸ h')).2
theorem to_a {S : MM} (hO : OC S) {t t' a a' j j' : Nat} (h : TO S t a j) (h' : TO S t' a' j') (n : a ≠ a') : t ≠ t' := fun z => n (to_i hO h (z ▸ h')).1
/-! the cells of the ports are apart -/
theorem d_pp {S : MM} {b x y : Nat} (hL : LY S b) (hO : OC S) (hx : x < 16) (hy : y < 16) (hn : x ≠ y) : px (sR S) b x ≠ px (sR S) b y := fun z => hn (i_px hL hO hx hy z)
theorem d_po {S : MM} {b x y : Nat} (hL : LY S b) (_hO : OC S) (hx : x < 16) (hy : y < 16) : px (sR S) b x ≠ ox (sR S) b y := ne_k (k_px hL hx) (k_ox hL hy) (by decide)
theorem d_pq {S : MM} {b x y : Nat} (hL : LY S b) (_hO : OC S) (hx : x < 16) (hy : y < 16) : px (sR S) b x ≠ qx (sR S) b y := ne_k (k_px hL hx) (k_qx hL hy) (by decide)
theorem d_pl {S : MM} {b x y : Nat} (hL : LY S b) (_hO : OC S) (hx : x < 16) (hy : y < 16) : px (sR S) b x ≠ lx (sR S) b y := ne_k (k_px hL hx) (k_lx hL hy) (by decide)
theorem d_op {S : MM} {b x y : Nat} (hL : LY S b) (_hO : OC S) (hx : x < 16) (hy : y < 16) : ox (sR S) b x ≠ px (sR S) b y := ne_k (k_ox hL hx) (k_px hL hy) (by decide)
theorem d_oo {S : MM} {b x y : Nat} (hL : LY S b) (hO : OC S) (hx : x < 16) (hy : y < 16) (hn : x ≠ y) : ox (sR S) b x ≠ ox (sR S) b y := to_a hO (to_ox hL hx) (to_ox hL hy) (fun z => hn (i_px hL hO hx hy z))
theorem d_oq {S : MM} {b x y : Nat} (hL : LY S b) (hO : OC S) (hx : x < 16) (hy : y < 16) : ox (sR S) b x ≠ qx (sR S) b y := to_j hO (to_ox hL hx) (to_qx hL hy) (by decide)
theorem d_ol {S : MM} {b x y : Nat} (hL : LY S b) (hO : OC S) (hx : x < 16) (hy : y < 16) : ox (sR S) b x ≠ lx (sR S) b y := to_j hO (to_ox hL hx) (to_lx hL hy) (by decide)
theorem d_qp {S : MM} {b x y : Nat} (hL : LY S b) (_hO : OC S) (hx : x < 16) (hy : y < 16) : qx (sR S) b x ≠ px (sR S) b y := ne_k (k_qx hL hx) (k_px hL hy) (by decide)
theorem d_qo {S : MM} {b x y : Nat} (hL : LY S b) (hO : OC S) (hx : x < 16) (hy : y < 16) : qx (sR S) b x ≠ ox (sR S) b y := to_j hO (to_qx hL hx) (to_ox hL hy) (by decide)
theorem d_qq {S : MM} {b x y : Nat} (hL : LY S b) (hO : OC S) (hx : x < 16) (hy : y < 16) (hn : x ≠ y) : qx (sR S) b x ≠ qx (sR S) b y := to_a hO (to_qx hL hx) (to_qx hL hy) (fun z => hn (i_px hL hO hx hy z))
theorem d_ql {S : MM} {b x y : Nat} (hL : LY S b) (hO : OC S) (hx : x < 16) (hy : y < 16) : qx (sR S) b x ≠ lx (sR S) b y := to_j hO (to_qx hL hx) (to_lx hL hy) (by decide)
theorem d_lp {S : MM} {b x y : Nat} (hL : LY S b) (_hO : OC S) (hx : x < 16) (hy : y < 16) : lx (sR S) b x ≠ px (sR S) b y := ne_k (k_lx hL hx) (k_px hL hy) (by decide)
theorem d_lo {S : MM} {b x y : Nat} (hL : LY S b) (hO : OC S) (hx : x < 16) (hy : y < 16) : lx (sR S) b x ≠ ox (sR S) b y := to_j hO (to_lx hL hx) (to_ox hL hy) (by decide)
theorem d_lq {S : MM} {b x y : Nat} (hL : LY S b) (hO : OC S) (hx : x < 16) (hy : y < 16) : lx (sR S) b x ≠ qx (sR S) b y := to_j hO (to_lx hL hx) (to_qx hL hy) (by decide)
theorem d_ll {S : MM} {b x y : Nat} (hL : LY S b) (hO : OC S) (hx : x < 16) (hy : y < 16) (hn : x ≠ y) : lx (sR S) b x ≠ lx (sR S) b y := to_a hO (to_lx hL hx) (to_lx hL hy) (fun z => hn (i_px hL hO hx hy z))
/-! one port, in the memory -/
def RP (R : Nat → Nat → Option Nat) (b : Nat) (I J : Mm) (A : Nat → Nat) (x : Nat) : Prop := PR (I (px R b x)) (I (ox R b x)) (I (qx R b x)) J A x ∧ PV J A x ∧ PLk (I (px R b x)) (I (lx R b x)) J A x
theorem RP_e {R : Nat → Nat → Option Nat} {b x : Nat} {I J I' J' : Mm} {A : Nat → Nat} (h : RP R b I J A x) (ep : I' (px R b x) = I (px R b x)) (eo : I' (ox R b x) = I (ox R b x)) (eq : I' (qx R b x) = I (qx R b x)) (el : I' (lx R b x) = I (lx R b x)) (e : ∀ k j, dm k → k ≠ 40 → (ow k j = x ∨ ow k j = 99) → J' (A k) j = J (A k) j) : RP R b I' J' A x := by
  unfold RP PR PV PLk at h ⊢
  rw [ep, eo, eq, el]
  rw [e 11 x (by decide) (by decide) (Or.inl (ow_x (by decide))), e 7 x (by decide) (by decide) (Or.inl (ow_x (by decide))), e 8 x (by decide) (by decide) (Or.inl (ow_x (by decide))), e 9 x (by decide) (by decide) (Or.inl (ow_x (by decide))), e 10 x (by decide) (by decide) (Or.inl (ow_x (by decide))), e 19 (3 * x) (by decide) (by decide) (Or.inl ow_30), e 19 (3 * x + 1) (by decide) (by decide) (Or.inl (ow_3 (by decide))), e 19 (3 * x + 2) (by decide) (by decide) (Or.inl (ow_3 (by decide))), e 1 (x / 8) (by decide) (by decide) (Or.inr rfl), e 3 x (by decide) (by decide) (Or.inl (ow_x (by decide))), e 4 x (by decide) (by decide) (Or.inl (ow_x (by decide))), e 5 x (by decide) (by decide) (Or.inl (ow_x (by decide))), e 6 x (by decide) (by decide) (Or.inl (ow_x (by decide))), e 18 (5 * x) (by decide) (by decide) (Or.inl (ow_50 (by decide))), e 18 (5 * x + 1) (by decide) (by decide) (Or.inl (ow_5 (by decide) (by decide))), e 18 (5 * x + 2) (by decide) (by decide) (Or.inl (ow_5 (by decide) (by decide))), e 18 (5 * x + 3) (by decide) (by decide) (Or.inl (ow_5 (by decide) (by decide))), e 18 (5 * x + 4) (by decide) (by decide) (Or.inl (ow_5 (by decide) (by decide))), e 21 x (by decide) (by decide) (Or.inl (ow_x (by decide))), e 14 x (by decide) (by decide) (Or.inl (ow_x (by decide))), e 20 (5 * x) (by decide) (by decide) (Or.inl (ow_50 (by decide))), e 20 (5 * x + 1) (by decide) (by decide) (Or.inl (ow_5 (by decide) (by decide))), e 20 (5 * x + 2) (by decide) (by decide) (Or.inl (ow_5 (by decide) (by decide))), e 20 (5 * x + 3) (by decide) (by decide) (Or.inl (ow_5 (by decide) (by decide))), e 20 (5 * x + 4) (by decide) (by decide) (Or.inl (ow_5 (by decide) (by decide)))]
  exact h
theorem ow_l {k j : Nat} (_h : dm k) : ow k j = 99 ∨ ow k j = j ∨ ow k j = j / 5 ∨ ow k j = j / 3 := by unfold ow; split; exact Or.inr (Or.inr (Or.inl rfl)); split; exact Or.inr (Or.inr (Or.inr rfl)); split; exact Or.inr (Or.inl rfl); exact Or.inl rfl
theorem MF_e {A : Nat → Nat} {x y : Nat} {J J' : Mm} (mf : MF A y J J') (hn : x ≠ y) (hy : y < 16) : ∀ k j, dm k → k ≠ 40 → (ow k j = x ∨ ow k j = 99) → J' (A k) j = J (A k) j := fun k j hk h4 q => mf k j hk h4 (by rcases q with q | q <;> omega)
/-- neither a port nor what it tells -/
def NP (R : Nat → Nat → Option Nat) (b z : Nat) : Prop := ∀ x, x < 16 → z ≠ px R b x ∧ z ≠ ox R b x ∧ z ≠ qx R b x ∧ z ≠ lx R b x
def MG (m : Nat) (A : Nat → Nat) (J J' : Mm) : Prop := (∀ k j, dm k → k ≠ 40 → ow k j = 99 → J' (A k) j = J (A k) j) ∧ ∀ j, J' m j = J m j
theorem MG.tr {m : Nat} {A : Nat → Nat} {J J1 J2 : Mm} (h : MG m A J J1) (g : MG m A J1 J2) : MG m A J J2 := ⟨fun k j a c d => (g.1 k j a c d).trans (h.1 k j a c d), fun j => (g.2 j).trans (h.2 j)⟩
theorem MG_mf {m : Nat} {A : Nat → Nat} {y : Nat} {J J' : Mm} (mf : MF A y J J') (hy : y < 16) (e : ∀ j, J' m j = J m j) : MG m A J J' := ⟨fun k j hk h4 q => mf k j hk h4 (by omega), e⟩
theorem fd_age {R : Nat → Nat → Option Nat} {b : Nat} {I : Mm} : f_X7_ageAll I R b = fd (fun x I => f_X5_age I (px R b x) (qx R b x)) 16 0 I := rfl
theorem fd_ages {m nt nf : Nat} {A : Nat → Nat} {J : Mm} {w : Int32} : (g_X8_tick_7 m A nt nf 16 0 J w).1 = fd (fun x J => f_X8_ages J m A x) 16 0 J := by
  have q : ∀ (r i : Nat) (J : Mm), (g_X8_tick_7 m A nt nf r i J w).1 = fd (fun x J => f_X8_ages J m A x) r i J := by
    intro r
    induction r with
    | zero => intro i J; rfl
    | succ r ih =>
      intro i J
      rw [g_X8_tick_7]
      exact ih (i + 1) (f_X8_ages J m A i)
  exact q 16 0 J
theorem m_age {m x j : Nat} {A : Nat → Nat} {J : Mm} (hA : AD m A) : (f_X8_ages J m A x) m j = J m j := congrFun (nm_X8_ages (fun k hk z => hA.2 k ((show ∀ k ∈ ([7, 8, 18] : List Nat), dm k by decide) k hk) z.symm)) j
theorem sim_age {S : MM} {b m nt nf : Nat} {A : Nat → Nat} {I J : Mm} {w : Int32} (hL : LY S b) (hO : OC S) (hA : AD m A) (h : ∀ x, x < 16 → RP (sR S) b I J A x ∧ I (px (sR S) b x) 12 = J (A 15) x) : (∀ x, x < 16 → RP (sR S) b (f_X7_ageAll I (sR S) b) (g_X8_tick_7 m A nt nf 16 0 J w).1 A x ∧ (f_X7_ageAll I (sR S) b) (px (sR S) b x) 12 = nI 0) ∧ (∀ z, NP (sR S) b z → (f_X7_ageAll I (sR S) b) z = I z) ∧ MG m A J (g_X8_tick_7 m A nt nf 16 0 J w).1 := by
  rw [fd_age, fd_ages]
  have key := fd_sim (N := 16) (f := fun x I => f_X5_age I (px (sR S) b x) (qx (sR S) b x)) (g := fun x J => f_X8_ages J m A x) (P := fun i I' J' => (∀ x, x < 16 → RP (sR S) b I' J' A x ∧ (x < i → I' (px (sR S) b x) 12 = nI 0) ∧ (i ≤ x → I' (px (sR S) b x) 12 = J' (A 15) x)) ∧ (∀ z, NP (sR S) b z → I' z = I z) ∧ MG m A J J') ?_ 16 0 I J rfl ⟨fun x hx => ⟨(h x hx).1, fun z => absurd z (by omega), fun _ => (h x hx).2⟩, fun _ _ => rfl, fun _ _ _ _ _ => rfl, fun _ => rfl⟩
  · exact ⟨fun x hx => ⟨(key.1 x hx).1, (key.1 x hx).2.1 hx⟩, key.2⟩
  · intro i I' J' hi ⟨h1, h2, h3⟩
    have hi' := h1 i hi
    have rr := rr_X5_age (I := I') (d_pq hL hO hi hi)
    have s := s_age (m := m) hA hi'.1.1 hi'.1.2.1 hi'.1.2.2 (hi'.2.2 (Nat.le_refl i))
    have eo : f_X5_age I' (px (sR S) b i) (qx (sR S) b i) (ox (sR S) b i) = I' (ox (sR S) b i) := n_X5_age (d_op hL hO hi hi) (d_oq hL hO hi hi)
    have el : f_X5_age I' (px (sR S) b i) (qx (sR S) b i) (lx (sR S) b i) = I' (lx (sR S) b i) := n_X5_age (d_lp hL hO hi hi) (d_lq hL hO hi hi)
    refine ⟨fun x hx => ?_, fun z hz => (n_X5_age (hz i hi).1 (hz i hi).2.2.1).trans (h2 z hz), h3.tr (MG_mf s.2.2.2.2 hi (fun j => m_age hA))⟩
    by_cases hn : x = i
    · subst hn
      refine ⟨⟨?_, s.2.1, ?_⟩, fun _ => ?_, fun z => absurd z (by omega)⟩
      · show PR (f_X5_age I' (px (sR S) b x) (qx (sR S) b x) (px (sR S) b x)) _ _ _ A x
        rw [rr.1, rr.2, eo]
        exact s.1
      · show PLk (f_X5_age I' (px (sR S) b x) (qx (sR S) b x) (px (sR S) b x)) _ _ A x
        rw [rr.1, el]
        exact s.2.2.1
      · show f_X5_age I' (px (sR S) b x) (qx (sR S) b x) (px (sR S) b x) 12 = nI 0
        rw [rr.1]
        exact s.2.2.2.1
    · have hx' := h1 x hx
      have ep : f_X5_age I' (px (sR S) b i) (qx (sR S) b i) (px (sR S) b x) = I' (px (sR S) b x) := n_X5_age (d_pp hL hO hx hi hn) (d_pq hL hO hx hi)
      have e15 := MF_e s.2.2.2.2 hn hi 15 x (by decide) (by decide) (Or.inl (ow_x (by decide)))
      refine ⟨RP_e hx'.1 ep (n_X5_age (d_op hL hO hx hi) (d_oq hL hO hx hi)) (n_X5_age (d_qp hL hO hx hi) (d_qq hL hO hx hi hn)) (n_X5_age (d_lp hL hO hx hi) (d_lq hL hO hx hi)) (MF_e s.2.2.2.2 hn hi), fun z => ?_, fun z => ?_⟩
      · show f_X5_age I' (px (sR S) b i) (qx (sR S) b i) (px (sR S) b x) 12 = nI 0
        rw [ep]
        exact hx'.2.1 (by omega)
      · show f_X5_age I' (px (sR S) b i) (qx (sR S) b i) (px (sR S) b x) 12 = f_X8_ages J' m A i (A 15) x
        rw [ep, e15]
        exact hx'.2.2 (by omega)
