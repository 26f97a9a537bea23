/-! SIMULATION 7: port by port; all ports step -/
def AG (R : Nat → Nat → Option Nat) (b x : Nat) (I I' : Mm) : Prop := I' (px R b x) = I (px R b x) ∧ I' (ox R b x) = I (ox R b x) ∧ I' (qx R b x) = I (qx R b x) ∧ I' (lx R b x) = I (lx R b x)
def AJ (A : Nat → Nat) (x : Nat) (J J' : Mm) : Prop := ∀ k j, dm k → k ≠ 40 → (ow k j = x ∨ ow k j = 99) → J' (A k) j = J (A k) j
theorem RP_a {R : Nat → Nat → Option Nat} {b x : Nat} {I J I' J' : Mm} {A : Nat → Nat} (h : RP R b I J A x) (a : AG R b x I I') (j : AJ A x J J') : RP R b I' J' A x := RP_e h a.1 a.2.1 a.2.2.1 a.2.2.2 j
theorem sim_ports {R : Nat → Nat → Option Nat} {b m : Nat} {A : Nat → Nat} {f g : Nat → Mm → Mm} {Pre Post : Nat → Mm → Mm → Prop} {Z : Nat → Prop} (hpre : ∀ x I J I' J', x < 16 → AG R b x I I' → AJ A x J J' → Pre x I J → Pre x I' J') (hpost : ∀ x I J I' J', x < 16 → AG R b x I I' → AJ A x J J' → Post x I J → Post x I' J') (hs : ∀ i I J, i < 16 → Pre i I J → Post i (f i I) (g i J) ∧ (∀ x, x < 16 → x ≠ i → AG R b x I (f i I)) ∧ (∀ z, Z z → f i I z = I z) ∧ MF A i J (g i J) ∧ ∀ j, g i J m j = J m j) {I J : Mm} (h : ∀ x, x < 16 → Pre x I J) : (∀ x, x < 16 → Post x (fd f 16 0 I) (fd g 16 0 J)) ∧ (∀ z, Z z → fd f 16 0 I z = I z) ∧ MG m A J (fd g 16 0 J) := by
  have key := fd_sim (N := 16) (f := f) (g := g) (P := fun i I' J' => (∀ x, x < 16 → (x < i → Post x I' J') ∧ (i ≤ x → Pre x I' J')) ∧ (∀ z, Z z → I' z = I z) ∧ MG m A J J') ?_ 16 0 I J rfl ⟨fun x hx => ⟨fun z => absurd z (by omega), fun _ => h x hx⟩, fun _ _ => rfl, fun _ _ _ _ _ => rfl, fun _ => rfl⟩
  · exact ⟨fun x hx => (key.1 x hx).1 hx, key.2⟩
  · intro i I' J' hi ⟨h1, h2, h3⟩
    obtain ⟨s1, s2, s3, s4, s5⟩ := hs i I' J' hi ((h1 i hi).2 (Nat.le_refl i))
    refine ⟨fun x hx => ?_, fun z hz => (s3 z hz).trans (h2 z hz), h3.tr (MG_mf s4 hi s5)⟩
    by_cases hn : x = i
    · subst hn
      exact ⟨fun _ => s1, fun z => absurd z (by omega)⟩
    · exact ⟨fun z => hpost x _ _ _ _ hx (s2 x hx hn) (MF_e s4 hn hi) ((h1 x hx).1 (by omega)), fun z => hpre x _ _ _ _ hx (s2 x hx hn) (MF_e s4 hn hi) ((h1 x hx).2 (by omega))⟩
def stE (R : Nat → Nat → Option Nat) (b e i : Nat) (I : Mm) : Mm := if f_X5_isLit I (Pt R b e i) = 0 then I else f_X1_moveTo (f_X5_step I (Pt R b e i) (Ow R b e i) (Pa R b e i)).1 (En R b e) (Pt R b e i) (Ow R b e i) (f_X5_step I (Pt R b e i) (Ow R b e i) (Pa R b e i)).2
theorem st9 {R : Nat → Nat → Option Nat} {b e : Nat} : ∀ r i (I : Mm), g_X7_stepAll_9 R b r i e I = fd (stE R b e) r i I := by
  intro r
  induction r with
  | zero => intro i I; rfl
  | succ r ih =>
    intro i I
    show g_X7_stepAll_9 R b (r + 1) i e I = fd (stE R b e) r (i + 1) (stE R b e i I)
    rw [← ih]
    unfold stE
    rw [g_X7_stepAll_9]
    split <;> rfl
theorem fd_two {f : Nat → Nat → Mm → Mm} {I : Mm} : fd (f 1) 8 0 (fd (f 0) 8 0 I) = fd (fun x => f (x / 8) (x % 8)) 16 0 I := rfl
theorem fd_step {R : Nat → Nat → Option Nat} {b : Nat} {I : Mm} : f_X7_stepAll I R b = fd (fun x => stE R b (x / 8) (x % 8)) 16 0 I := by
  rw [← fd_two (f := stE R b), ← st9, ← st9]
  rfl
theorem fd_steps {m nt nf : Nat} {A : Nat → Nat} {J : Mm} {w : Int32} : (g_X8_tick_36 m A nt nf 16 0 J w).1 = fd (fun x J => f_X8_steps J m A x) 16 0 J := by
  have q : ∀ (r i : Nat) (J : Mm), (g_X8_tick_36 m A nt nf r i J w).1 = fd (fun x J => f_X8_steps J m A x) r i J := by
    intro r
    induction r with
    | zero => intro i J; rfl
    | succ r ih =>
      intro i J
      rw [g_X8_tick_36]
      exact ih (i + 1) (f_X8_steps J m A i)
  exact q 16 0 J
theorem m_step {m x j : Nat} {A : Nat → Nat} {J : Mm} (hA : AD m A) : (f_X8_steps J m A x) m j = J m j := congrFun (nm_X8_steps (fun k hk z => hA.2 k ((show ∀ k ∈ ([9, 10, 19, 40] : List Nat), dm k by decide) k hk) z.symm)) j
/-- neither a port, nor what it tells, nor an end -/
def NE (R : Nat → Nat → Option Nat) (b z : Nat) : Prop := NP R b z ∧ ∀ e, e < 2 → z ≠ En R b e
theorem sim_step {S : MM} {b m nt nf : Nat} {A : Nat → Nat} {I J : Mm} {w : Int32} (hL : LY S b) (hO : OC S) (hA : AD m A) (h : ∀ x, x < 16 → RP (sR S) b I J A x ∧ I (px (sR S) b x) 12 = nI 0 ∧ I (px (sR S) b x) 11 = J (A 13) x) : (∀ x, x < 16 → RP (sR S) b (f_X7_stepAll I (sR S) b) (g_X8_tick_36 m A nt nf 16 0 J w).1 A x ∧ (f_X7_stepAll I (sR S) b) (px (sR S) b x) 12 = nI 0) ∧ (∀ z, NE (sR S) b z → (f_X7_stepAll I (sR S) b) z = I z) ∧ MG m A J (g_X8_tick_36 m A nt nf 16 0 J w).1 := by
  rw [fd_step, fd_steps]
  refine sim_ports (R := sR S) (b := b) (Z := NE (sR S) b) (Pre := fun x I J => RP (sR S) b I J A x ∧ I (px (sR S) b x) 12 = nI 0 ∧ I (px (sR S) b x) 11 = J (A 13) x) (Post := fun x I J => RP (sR S) b I J A x ∧ I (px (sR S) b x) 12 = nI 0) ?_ ?_ ?_ h
  · intro x I J I' J' hx a j p
    refine ⟨RP_a p.1 a j, ?_, ?_⟩
    · rw [a.1]; exact p.2.1
    · rw [a.1, j 13 x (by decide) (by decide) (Or.inl (ow_x (by decide)))]; exact p.2.2
  · intro x I J I' J' hx a j p
    refine ⟨RP_a p.1 a j, ?_⟩
    rw [a.1]; exact p.2
  · intro i I J hi p
    by_cases lit : J (A 7) i = 0
    · have e1 : stE (sR S) b (i / 8) (i % 8) I = I := by
        unfold stE
        rw [rr_X5_isLit, if_pos (by rw [r_lit, p.1.1.2.1]; exact lit)]
      have e2 : f_X8_steps J m A i = J := by
        unfold f_X8_steps
        rw [if_pos (by rw [f_lit]; exact lit)]
      show _ ∧ (∀ x, x < 16 → x ≠ i → AG _ _ _ _ (stE (sR S) b (i / 8) (i % 8) I)) ∧ _
      simp only [e1, e2]
      exact ⟨⟨p.1, p.2.1⟩, fun _ _ _ => ⟨rfl, rfl, rfl, rfl⟩, fun _ _ => trivial, MF.rf, fun _ => trivial⟩
    · have hE : i / 8 < 2 := by omega
      have kE := (ly_E hL hE).2.1
      have nEp : ∀ x, x < 16 → px (sR S) b x ≠ En (sR S) b (i / 8) := fun x hx => ne_k (k_px hL hx) kE (by decide)
      have nEo : ∀ x, x < 16 → ox (sR S) b x ≠ En (sR S) b (i / 8) := fun x hx => ne_k (k_ox hL hx) kE (by decide)
      have nEq : ∀ x, x < 16 → qx (sR S) b x ≠ En (sR S) b (i / 8) := fun x hx => ne_k (k_qx hL hx) kE (by decide)
      have nEl : ∀ x, x < 16 → lx (sR S) b x ≠ En (sR S) b (i / 8) := fun x hx => ne_k (k_lx hL hx) kE (by decide)
      have e1 : stE (sR S) b (i / 8) (i % 8) I = f_X1_moveTo (f_X5_step I (px (sR S) b i) (ox (sR S) b i) (qx (sR S) b i)).1 (En (sR S) b (i / 8)) (px (sR S) b i) (ox (sR S) b i) (f_X5_step I (px (sR S) b i) (ox (sR S) b i) (qx (sR S) b i)).2 := by
        unfold stE
        rw [rr_X5_isLit, if_neg (by rw [r_lit, p.1.1.2.1]; exact lit)]
      have r1 := rr_X5_step (I := I) (d_po hL hO hi hi) (d_pq hL hO hi hi)
      have n1 : ∀ z, z ≠ px (sR S) b i → (f_X5_step I (px (sR S) b i) (ox (sR S) b i) (qx (sR S) b i)).1 z = I z := fun z hz => n_X5_step hz
      have r2 := rr_X1_moveTo (I := (f_X5_step I (px (sR S) b i) (ox (sR S) b i) (qx (sR S) b i)).1) (v := (f_X5_step I (px (sR S) b i) (ox (sR S) b i) (qx (sR S) b i)).2) (nEp i hi).symm (nEo i hi).symm (d_po hL hO hi hi)
      have n2 : ∀ z, z ≠ px (sR S) b i → z ≠ ox (sR S) b i → z ≠ En (sR S) b (i / 8) → stE (sR S) b (i / 8) (i % 8) I z = I z := fun z h1 h2 h3 => by rw [e1, n_X1_moveTo h1 h2 h3]; exact n1 z h1
      rw [r1.1, n1 _ (d_op hL hO hi hi), n1 _ (nEp i hi).symm, r1.2] at r2
      have s := s_step (m := m) (re := I (En (sR S) b (i / 8))) hA p.1.1 p.1.2.1 p.1.2.2 p.2.2 lit
      have ep : stE (sR S) b (i / 8) (i % 8) I (px (sR S) b i) = (r_X1_moveTo (I (En (sR S) b (i / 8))) (r_X5_step (I (px (sR S) b i)) (I (ox (sR S) b i)) (I (qx (sR S) b i))).1 (I (ox (sR S) b i)) (r_X5_step (I (px (sR S) b i)) (I (ox (sR S) b i)) (I (qx (sR S) b i))).2).1 := by rw [e1, r1.2]; exact r2.1
      have eo : stE (sR S) b (i / 8) (i % 8) I (ox (sR S) b i) = (r_X1_moveTo (I (En (sR S) b (i / 8))) (r_X5_step (I (px (sR S) b i)) (I (ox (sR S) b i)) (I (qx (sR S) b i))).1 (I (ox (sR S) b i)) (r_X5_step (I (px (sR S) b i)) (I (ox (sR S) b i)) (I (qx (sR S) b i))).2).2.1 := by rw [e1, r1.2]; exact r2.2.1
      have eq := n2 _ (d_qp hL hO hi hi) (d_qo hL hO hi hi) (nEq i hi)
      have el := n2 _ (d_lp hL hO hi hi) (d_lo hL hO hi hi) (nEl i hi)
      refine ⟨⟨⟨?_, s.2.1, ?_⟩, ?_⟩, fun x hx hn => ⟨n2 _ (d_pp hL hO hx hi hn) (d_po hL hO hx hi) (nEp x hx), n2 _ (d_op hL hO hx hi) (d_oo hL hO hx hi hn) (nEo x hx), n2 _ (d_qp hL hO hx hi) (d_qo hL hO hx hi) (nEq x hx), n2 _ (d_lp hL hO hx hi) (d_lo hL hO hx hi) (nEl x hx)⟩, fun z hz => n2 z (hz.1 i hi).1 (hz.1 i hi).2.1 (hz.2 _ hE), s.2.2.2.2.2, fun j => m_step hA⟩
      · show PR (stE (sR S) b (i / 8) (i % 8) I (px (sR S) b i)) (stE (sR S) b (i / 8) (i % 8) I (ox (sR S) b i)) (stE (sR S) b (i / 8) (i % 8) I (qx (sR S) b i)) _ A i
        rw [ep, eo, eq]
        exact s.1
      · show PLk (stE (sR S) b (i / 8) (i % 8) I (px (sR S) b i)) (stE (sR S) b (i / 8) (i % 8) I (lx (sR S) b i)) _ A i
        rw [ep, el]
        exact s.2.2.1
      · show stE (sR S) b (i / 8) (i % 8) I (px (sR S) b i) 12 = nI 0
        rw [ep, s.2.2.2.1]
        exact p.2.1
