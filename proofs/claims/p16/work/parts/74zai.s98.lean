/-! SIMULATION 98: epochs in a whole tick -/
theorem p6_hear {S : MM} {p o q n no np : Nat} {I0 I : Mm} (h : P6 S I0 I) (kp : sK S p = 6) (kq : sK S q = 7) : P6 S I0 (f_X5_hear I p o q n no np) := h.o (fun z hz => by
  have nq : z ≠ q := ne_k hz kq (by decide)
  by_cases e : z = p
  · subst e
    unfold f_X5_hear
    try dsimp only
    repeat' split
    all_goals
      repeat rw [up2_jn (by decide)]
      first
        | rw [n_X6_setBits nq, n_X6_copyFrom nq]
        | rw [n_X6_copyFrom nq]
  · rw [n_X5_hear nq e])
theorem p6_notes {S : MM} {b p c e : Nat} {I0 : Mm} (hL : LY S b) (kp : sK S p = 6) (hc : c < 8) (he : e < 2) : ∀ r i (I : Mm), P6 S I0 I → P6 S I0 (g_X7_bringNotes_2 (sR S) b p c e r i I) := by
  have kN := (ly_N hL hc he).2.1
  have tk : ∀ (I : Mm) (v : Int32), P6 S I0 I → P6 S I0 (f_X3_takeDueNote I (sR S) b c e v).1 := fun I v h => by
    unfold f_X3_takeDueNote
    repeat' split
    all_goals first | exact h | exact (h.w kN (Or.inl (by decide))).w kN (Or.inl (by decide))
  have kq : sK S ((sR S p 1).getD 0) = 7 := (ly_f hL.1 kp (show rf 6 1 = some (7, 0) from rfl)).2.1
  intro r
  induction r with
  | zero => intro i I h; exact h
  | succ r ih =>
    intro i I h
    rw [g_X7_bringNotes_2]
    try dsimp only
    split
    · exact tk I _ h
    · exact ih _ _ (p6_hear (tk I _ h) kp kq)
theorem p6_bf {S : MM} {b p c e : Nat} {I0 : Mm} (hL : LY S b) (hc : c < 8) (he : e < 2) : ∀ r i (I : Mm), P6 S I0 I → P6 S I0 (g_X7_bringFrames_3 (sR S) b p c e r i I) := by
  have kN := (ly_N hL hc he).2.1
  have he1 : 1 - e < 2 := by omega
  have tk : ∀ (I : Mm) (v : Int32), P6 S I0 I → P6 S I0 (f_X3_takeDueFrame I (sR S) b c e v).1 := fun I v h => by
    unfold f_X3_takeDueFrame
    repeat' split
    all_goals first | exact h | exact (h.w kN (Or.inl (by decide))).w kN (Or.inl (by decide))
  intro r
  induction r with
  | zero => intro i I h; exact h
  | succ r ih =>
    intro i I h
    rw [g_X7_bringFrames_3]
    try dsimp only
    split
    · exact tk I _ h
    · split
      · exact ih _ _ ((tk I _ h).w hL.2 (Or.inl (by decide)))
      · refine ih _ _ ((tk I (I b 2) h).o (fun z hz => ?_))
        rw [KO_d hL (ko_receive hL he) hz (Or.inl (by decide)) (Or.inl (by decide)), keep_row (ne_k hz (ly_ka hL he1).2.1 (by decide)) (ne_k hz (ly_E hL he1).2.1 (by decide))]
theorem p6_all {S : MM} {b : Nat} {I0 : Mm} (hL : LY S b) : ∀ r i (I : Mm), i + r = 8 → P6 S I0 I → P6 S I0 (g_X7_bringAll_2 (sR S) b r i I) := by
  intro r
  induction r with
  | zero => intro i I _ h; exact h
  | succ r ih =>
    intro i I hi h
    rw [bc_s]
    refine ih _ _ (by omega) ?_
    have hi8 : i < 8 := by omega
    unfold bcE
    split
    · exact h
    · split
      · rename_i pl
        have q : ∀ r j (I : Mm), j + r = 2 → P6 S I0 I → P6 S I0 (g_X7_bringAll_31 (sR S) b r j i I) := by
          intro r
          induction r with
          | zero => intro j I _ h; exact h
          | succ r ih2 =>
            intro j I hj h
            have kp : sK S ((sR S (ppd (sR S) b i) (1 - j)).getD 0) = 6 := ly_nn hL.1 (ly_pp hL hi8).2.1 rfl (plg_i pl (by omega))
            rw [g_X7_bringAll_31]
            exact ih2 _ _ (by omega) (p6_bf hL hi8 (show j < 2 by omega) 200 0 _ (p6_notes hL kp hi8 (show j < 2 by omega) 8 0 I h))
        exact q 2 0 I rfl h
      · exact h
theorem p6_age {S : MM} {b : Nat} {I0 I : Mm} (hL : LY S b) (h : P6 S I0 I) : P6 S I0 (f_X7_ageAll I (sR S) b) := by
  rw [fd_age]
  refine fd_keep (N := 16) (f := fun x I => f_X5_age I (px (sR S) b x) (qx (sR S) b x)) (P := fun I' => P6 S I0 I') (fun i I' hi p => p.o (fun z hz => ?_)) 16 0 I rfl h
  have nq : z ≠ qx (sR S) b i := ne_k hz (k_qx hL hi) (by decide)
  show f_X5_age I' (px (sR S) b i) (qx (sR S) b i) z 10 = I' z 10
  by_cases e : z = px (sR S) b i
  · rw [e] at nq ⊢
    generalize px (sR S) b i = p at nq ⊢
    unfold f_X5_age
    try dsimp only
    repeat' split
    all_goals
      first
        | rw [n_X6_setBits nq]
        | rw [n_X6_clear nq]
        | skip
      repeat rw [up2_jn (by decide)]
  · rw [n_X5_age e nq]
/-- tellAll leaves the ends -/
theorem te_En {S : MM} {b e : Nat} {I : Mm} (hL : LY S b) (he : e < 2) : (f_X7_tellAll I (sR S) b).1 (En (sR S) b e) = I (En (sR S) b e) := f4_tellAll hL _ (by rw [wk_17 (ly_E hL he).2.1 (by decide)]; rfl)
theorem sim_form2 {S : MM} {b m : Nat} {A : Nat → Nat} {I J : Mm} (hL : LY S b) (hO : OC S) (hA : AD m A) (h : ∀ x, x < 16 → RP (sR S) b I J A x ∧ I (px (sR S) b x) 12 = nI 0) (g : ∀ e, e < 2 → I (En (sR S) b e) 1 = J (A 1) e ∧ I (En (sR S) b e) 2 = J (A 2) e) : ∀ I2, I2 = f_X1_formBundles (f_X1_formBundles I (sR S) b 0 (if nI 0 = nI (f_X7_strongerEnd I (sR S) b) then nI 1 else nI 0)) (sR S) b 1 (if nI 1 = nI (f_X7_strongerEnd I (sR S) b) then nI 1 else nI 0) → (∀ x, x < 16 → RP (sR S) b I2 (f_X8_chooses (f_X8_chooses J m A 0) m A 1) A x ∧ I2 (px (sR S) b x) 12 = nI 0 ∧ I2 (px (sR S) b x) 11 = (f_X8_chooses (f_X8_chooses J m A 0) m A 1) (A 13) x ∧ I2 (px (sR S) b x) 10 = (f_X8_chooses (f_X8_chooses J m A 0) m A 1) (A 12) x) ∧ (∀ z, NE (sR S) b z → I2 z = I z) ∧ (∀ e, e < 2 → ∀ k, k ≠ 8 → I2 (En (sR S) b e) k = I (En (sR S) b e) k) ∧ MC m A J (f_X8_chooses (f_X8_chooses J m A 0) m A 1) := by
  intro I2 eI2
  subst eI2
  rw [str_e (m := m) (fun e he => (g e he).1)]
  have hs := str_lt (J := J) (m := m) (A := A)
  have s0 := sim_end hL hO hA (e := 0) (by decide) (fun x hx => (h x hx).1) (g 0 (by decide)).2 (flag_e hs (by decide))
  generalize f_X1_formBundles I (sR S) b 0 (if nI 0 = nI (f_X8_stronger J m A) then nI 1 else nI 0) = I1 at s0 ⊢
  generalize f_X8_chooses J m A 0 = J1 at s0 ⊢
  obtain ⟨a1, a2, a3, a4, a5⟩ := s0
  have k2 : ∀ e, e < 2 → sK S (En (sR S) b e) = 2 := fun e he => (ly_E hL he).2.1
  have nE : ∀ e e', e < 2 → e' < 2 → e ≠ e' → En (sR S) b e ≠ En (sR S) b e' := fun e e' he he' n z => n (i_E hL hO he he' z)
  have nP : ∀ e e' i, e < 2 → e' < 2 → i < 8 → En (sR S) b e ≠ Pt (sR S) b e' i := fun e e' i he he' hi => ne_k (k2 e he) (ly_P hL he' hi).2.1 (by decide)
  have r1 : I1 (En (sR S) b 1) = I (En (sR S) b 1) := a3.1 _ (fun i hi => nP 1 0 i (by decide) (by decide) hi) (nE 1 0 (by decide) (by decide) (by decide))
  have s1 := sim_end hL hO hA (e := 1) (v := if nI 1 = nI (f_X8_stronger J m A) then nI 1 else nI 0) (by decide) a1 (by rw [r1, a4.1 2 1 (by decide) (by decide) (by decide) (by decide)]; exact (g 1 (by decide)).2) (by rw [str_c a4]; exact flag_e hs (by decide))
  generalize f_X1_formBundles I1 (sR S) b 1 (if nI 1 = nI (f_X8_stronger J m A) then nI 1 else nI 0) = I2 at s1 ⊢
  generalize f_X8_chooses J1 m A 1 = J2 at s1 ⊢
  obtain ⟨b1, b2, b3, b4, b5⟩ := s1
  have nP2 : ∀ e e' i i', e < 2 → e' < 2 → i < 8 → i' < 8 → e ≠ e' → Pt (sR S) b e i ≠ Pt (sR S) b e' i' := fun e e' i i' he he' hi hi' n z => n (i_Pt hL hO he he' hi hi' z).1
  refine ⟨fun x hx => ⟨b1 x hx, ?_, ?_⟩, fun z hz => ?_, fun e he k hk => ?_, a4.tr b4⟩
  · have hq : x / 8 = 0 ∨ x / 8 = 1 := by omega
    rcases hq with q | q
    · have e2 : I2 (px (sR S) b x) = I1 (px (sR S) b x) := b3.1 _ (fun i hi => by show Pt (sR S) b (x / 8) (x % 8) ≠ _; rw [q]; exact nP2 0 1 _ i (by decide) (by decide) (by omega) hi (by decide)) (fun z => nP 1 (x / 8) (x % 8) (by decide) (by omega) (by omega) z.symm)
      have e1 := a3.2.1 (x % 8) (by omega) 12 (by decide) (by decide)
      rw [e2]
      have z : I (Pt (sR S) b (x / 8) (x % 8)) 12 = nI 0 := (h x hx).2
      rw [q] at z
      show I1 (Pt (sR S) b (x / 8) (x % 8)) 12 = nI 0
      rw [q, e1]
      exact z
    · have e2 := b3.2.1 (x % 8) (by omega) 12 (by decide) (by decide)
      have e1 : I1 (px (sR S) b x) = I (px (sR S) b x) := a3.1 _ (fun i hi => by show Pt (sR S) b (x / 8) (x % 8) ≠ _; rw [q]; exact nP2 1 0 _ i (by decide) (by decide) (by omega) hi (by decide)) (fun z => nP 0 (x / 8) (x % 8) (by decide) (by omega) (by omega) z.symm)
      show I2 (Pt (sR S) b (x / 8) (x % 8)) 12 = nI 0
      rw [q, e2, ← q]
      show I1 (px (sR S) b x) 12 = nI 0
      rw [e1]
      exact (h x hx).2
  · have hq : x / 8 = 0 ∨ x / 8 = 1 := by omega
    rcases hq with q | q
    · have e2 : I2 (px (sR S) b x) = I1 (px (sR S) b x) := b3.1 _ (fun i hi => by show Pt (sR S) b (x / 8) (x % 8) ≠ _; rw [q]; exact nP2 0 1 _ i (by decide) (by decide) (by omega) hi (by decide)) (fun z => nP 1 (x / 8) (x % 8) (by decide) (by omega) (by omega) z.symm)
      have c := a2 (x % 8) (by omega)
      have d := b5 x (by omega)
      have ex : 8 * 0 + x % 8 = x := by omega
      rw [ex, ← q] at c
      rw [e2, d.1, d.2]
      exact c
    · have c := b2 (x % 8) (by omega)
      have ex : 8 * 1 + x % 8 = x := by omega
      rw [ex, ← q] at c
      exact c
  · have m1 : ∀ e, e < 2 → ∀ i, i < 8 → z ≠ Pt (sR S) b e i := fun e he i hi y => (hz.1 (8 * e + i) (by omega)).1 (by show z = Pt (sR S) b ((8 * e + i) / 8) ((8 * e + i) % 8); rw [show (8 * e + i) / 8 = e by omega, show (8 * e + i) % 8 = i by omega]; exact y)
    rw [b3.1 z (m1 1 (by decide)) (hz.2 1 (by decide)), a3.1 z (m1 0 (by decide)) (hz.2 0 (by decide))]
  · have hq : e = 0 ∨ e = 1 := by omega
    rcases hq with rfl | rfl
    · rw [b3.1 _ (fun i hi => nP 0 1 i (by decide) (by decide) hi) (nE 0 1 (by decide) (by decide) (by decide))]
      exact a3.2.2 k hk
    · rw [b3.2.2 k hk, r1]
theorem ep_tick {S : MM} {b m cl nt nf : Nat} {A : Nat → Nat} {I J : Mm} (hL : LY S b) (hO : OC S) (hA : AD m A) (hcl : cl < 1000000000) (s27 : ∀ t, ∃ k, k < 8 ∧ J (A 27) t = nI k) (s28 : ∀ t, ∃ e, e < 2 ∧ J (A 28) t = nI e) (l1 : ∀ c e, c < 8 → e < 2 → ∃ n, n < 8 ∧ I (Ln (sR S) b c e) 1 = nI n) (h : NRl (sR S) b m A I J cl nt) (bn : BN (sR S) b I J A) (ep : ∀ e, e < 2 → I (En (sR S) b e) 8 = J (A 40) e) : ∀ e, e < 2 → f_X7_runTick I (sR S) b (En (sR S) b e) 8 = (f_X8_tick J m A nt nf).1 (A 40) e ∧ f_X7_runTick I (sR S) b (En (sR S) b e) 7 = I (En (sR S) b e) 7 := by
  have cx := cx_of h
  obtain ⟨h1, h2, h3, ⟨h4a, h4b, h4c⟩, h5, h6, h7, h8, h9, h10, h11⟩ := h
  have hbd := (HT_of h6).2.2
  have T1 : f_X7_runTick I (sR S) b = g_X7_runTick_15 (sR S) b 2 0 (f_X7_ageAll (f_X7_bringAll I (sR S) b) (sR S) b) (nI (f_X7_strongerEnd (f_X7_ageAll (f_X7_bringAll I (sR S) b) (sR S) b) (sR S) b)) := rfl
  have T2 : mid8 J m A nt nf = (up2 (g_X8_tick_36 m A nt nf 16 0 (f_X8_chooses (f_X8_chooses (g_X8_tick_7 m A nt nf 16 0 (f_X8_comes J m A nt nf).1 (f_X8_comes J m A nt nf).2).1 m A 0) m A 1) (g_X8_tick_7 m A nt nf 16 0 (f_X8_comes J m A nt nf).1 (f_X8_comes J m A nt nf).2).2).1 m 50 (nI 0), (g_X8_tick_36 m A nt nf 16 0 (f_X8_chooses (f_X8_chooses (g_X8_tick_7 m A nt nf 16 0 (f_X8_comes J m A nt nf).1 (f_X8_comes J m A nt nf).2).1 m A 0) m A 1) (g_X8_tick_7 m A nt nf 16 0 (f_X8_comes J m A nt nf).1 (f_X8_comes J m A nt nf).2).2).2) := rfl
  have end40 : ∀ e, (f_X8_tick J m A nt nf).1 (A 40) e = (mid8 J m A nt nf).1 (A 40) e := fun e => by
    rw [tick_8, fd_puts, (g60_0 hA).1 40 e (by decide)]
    have q1 : (fd (fun x J => f_putsW J m A x) 16 0 (mid8 J m A nt nf).1) (A 40) = (mid8 J m A nt nf).1 (A 40) := fd_keep (N := 16) (f := fun x J => f_putsW J m A x) (P := fun J' => J' (A 40) = (mid8 J m A nt nf).1 (A 40)) (fun i J' _ p => (nm_putsW (fun l hl z => by
      have hl' : dm l := (show ∀ l ∈ ([14, 16, 20, 21, 26, 27, 28, 29, 30, 31] : List Nat), dm l by decide) l hl
      have := hA.1 40 l (by decide) hl' z
      subst this
      simp at hl) (hA.2 40 (by decide))).trans p) 16 0 _ rfl rfl
    rw [q1]
  have E1 : f_X7_bringAll I (sR S) b = g_X7_bringAll_2 (sR S) b 8 0 I := rfl
  have fb := fbe_all hL hO 8 0 I rfl
  have p6 : P6 S I (f_X7_ageAll (f_X7_bringAll I (sR S) b) (sR S) b) := p6_age hL (p6_all hL 8 0 I rfl P6.rf)
  rw [← E1] at fb
  obtain ⟨n, n1, n2, n3, n4, n5, n6, n7, n8, n9, n10⟩ := sim_comes (nf := nf) (Bc := fun c => cl + bd J A c) hL hO hA (fun c hc => by have := hbd c hc; omega) (by omega) h4a h4b s27 s28 h2 h3 l1 cx h1
  intro e he
  rw [end40 e, T1, T2]
  clear T1 T2 end40
  generalize (f_X8_comes J m A nt nf).2 = w1
  generalize (f_X8_comes J m A nt nf).1 = J1 at n2 n3 n4 n5 n9 n10 ⊢
  generalize f_X7_bringAll I (sR S) b = I1 at n4 n5 n6 n7 n8 fb p6 ⊢
  obtain ⟨a1, a2, a3⟩ := sim_age (nt := nt) (nf := nf) (w := w1) hL hO hA n4
  have a4 := fun k y hk h => ages_o (J := J1) (nt := nt) (nf := nf) (k := k) (y := y) (w := w1) hA hk h
  generalize (g_X8_tick_7 m A nt nf 16 0 J1 w1).2 = w2
  generalize (g_X8_tick_7 m A nt nf 16 0 J1 w1).1 = J2 at a1 a3 a4 ⊢
  generalize f_X7_ageAll I1 (sR S) b = I2 at a1 a2 p6 ⊢
  have e1 : ∀ e, e < 2 → I2 (En (sR S) b e) = I1 (En (sR S) b e) := fun e he => a2 _ (fun x hx => ⟨ne_k (ly_E hL he).2.1 (k_px hL hx) (by decide), ne_k (ly_E hL he).2.1 (k_ox hL hx) (by decide), ne_k (ly_E hL he).2.1 (k_qx hL hx) (by decide), ne_k (ly_E hL he).2.1 (k_lx hL hx) (by decide)⟩)
  have g12 : ∀ e, e < 2 → I2 (En (sR S) b e) 1 = J2 (A 1) e ∧ I2 (En (sR S) b e) 2 = J2 (A 2) e := fun e he => by
    rw [e1 e he, (n7.2.2.1 e he).1, (n7.2.2.1 e he).2, a4 1 e (by decide) (by decide), a4 2 e (by decide) (by decide), n9 1 e (by decide) (by decide), n9 2 e (by decide) (by decide)]
    exact h5 e he
  have ep2 : ∀ e, e < 2 → I2 (En (sR S) b e) 8 = J2 (A 40) e := fun e he => by
    rw [e1 e he, fb.2 e he 8 (Or.inr rfl), a4 40 e (by decide) (by decide), n9 40 e (by decide) (by decide)]
    exact ep e he
  have bn2 : ∀ x, x < 16 → J2 (A 9) x = nI 4 → I2 (px (sR S) b x) 10 = J2 (A 12) x := fun x hx q => by
    rw [a4 9 x (by decide) (by decide), n9 9 x (by decide) (by decide)] at q
    rw [p6 _ (k_px hL hx), a4 12 x (by decide) (by decide), n9 12 x (by decide) (by decide)]
    exact (bn x hx q).1
  have sf := sim_form2 (m := m) hL hO hA a1 g12 _ rfl
  rw [str_e (m := m) (fun e he => (g12 e he).1)] at sf
  rw [r15, str_e (m := m) (fun e he => (g12 e he).1)]
  have hs := str_lt (J := J2) (m := m) (A := A)
  have rp2 := fun x hx => (a1 x hx).1
  have s0 := sim_end hL hO hA (e := 0) (v := if nI 0 = nI (f_X8_stronger J2 m A) then nI 1 else nI 0) (by decide) rp2 (g12 0 (by decide)).2 (flag_e hs (by decide))
  have q0 := ep_end hL hO hA (e := 0) (v := if nI 0 = nI (f_X8_stronger J2 m A) then nI 1 else nI 0) (by decide) rp2 (g12 0 (by decide)).2 (flag_e hs (by decide)) (fun y hy q => by
    rw [← px_e hy]
    exact bn2 _ (by omega) q) ep2
  generalize f_X1_formBundles I2 (sR S) b 0 (if nI 0 = nI (f_X8_stronger J2 m A) then nI 1 else nI 0) = I3 at s0 q0 sf ⊢
  generalize f_X8_chooses J2 m A 0 = J3 at s0 q0 sf ⊢
  obtain ⟨c1, c2, c3, c4, c5⟩ := s0
  have nE : ∀ e e', e < 2 → e' < 2 → e ≠ e' → En (sR S) b e ≠ En (sR S) b e' := fun e e' he he' n z => n (i_E hL hO he he' z)
  have nP : ∀ e e' i, e < 2 → e' < 2 → i < 8 → En (sR S) b e ≠ Pt (sR S) b e' i := fun e e' i he he' hi => ne_k (ly_E hL he).2.1 (ly_P hL he' hi).2.1 (by decide)
  have r1 : I3 (En (sR S) b 1) = I2 (En (sR S) b 1) := c3.1 _ (fun i hi => nP 1 0 i (by decide) (by decide) hi) (nE 1 0 (by decide) (by decide) (by decide))
  have lm1 : I3 (En (sR S) b 1) 2 = J3 (A 2) 1 := by rw [r1, c4.1 2 1 (by decide) (by decide) (by decide) (by decide)]; exact (g12 1 (by decide)).2
  have fl1 : ((if nI 1 = nI (f_X8_stronger J2 m A) then nI 1 else nI 0) = 0) ↔ ¬ 1 = f_X8_stronger J3 m A := by rw [str_c c4]; exact flag_e hs (by decide)
  have s1 := sim_end hL hO hA (e := 1) (by decide) c1 lm1 fl1
  have q1 := ep_end hL hO hA (e := 1) (by decide) c1 lm1 fl1 (fun y hy q => by
    rw [c3.1 _ (fun i hi z => absurd (i_Pt hL hO (show 1 < 2 by decide) (show 0 < 2 by decide) hy hi z).1 (by decide)) (fun z => nP 0 1 y (by decide) (by decide) hy z.symm), (c5 (8 * 1 + y) (by omega)).1, ← px_e hy]
    refine bn2 _ (by omega) ?_
    rw [← c4.1 9 (8 * 1 + y) (by decide) (by decide) (by decide) (by decide)]
    exact q) q0
  generalize f_X1_formBundles I3 (sR S) b 1 (if nI 1 = nI (f_X8_stronger J2 m A) then nI 1 else nI 0) = I4 at s1 q1 sf ⊢
  generalize f_X8_chooses J3 m A 1 = J4 at s1 q1 sf ⊢
  have f7 : ∀ e, e < 2 → I4 (En (sR S) b e) 7 = I (En (sR S) b e) 7 := fun e he => by
    have k7 : I3 (En (sR S) b e) 7 = I2 (En (sR S) b e) 7 := by
      have q : e = 0 ∨ e = 1 := by omega
      rcases q with rfl | rfl
      · exact c3.2.2 7 (by decide)
      · rw [r1]
    have k8 : I4 (En (sR S) b e) 7 = I3 (En (sR S) b e) 7 := by
      have q : e = 0 ∨ e = 1 := by omega
      rcases q with rfl | rfl
      · rw [s1.2.2.1.1 _ (fun i hi => nP 0 1 i (by decide) (by decide) hi) (nE 0 1 (by decide) (by decide) (by decide))]
      · exact s1.2.2.1.2.2 7 (by decide)
    rw [k8, k7, e1 e he, fb.2 e he 7 (Or.inl rfl)]
  obtain ⟨f2, f3, f4, f5⟩ := sf
  obtain ⟨t1, t2, t3⟩ := sim_step (nt := nt) (nf := nf) (w := w2) hL hO hA (fun x hx => ⟨(f2 x hx).1, (f2 x hx).2.1, (f2 x hx).2.2.1⟩)
  have kE := (ly_E hL he).2.1
  have gE := (g15_0 (R := sR S) (b := b) (I := I4) (w := nI (f_X8_stronger J2 m A))).1 (En (sR S) b e) (ne_k kE hL.2 (by decide))
  have mA : ∀ y, (up2 (g_X8_tick_36 m A nt nf 16 0 J4 w2).1 m 50 (nI 0), (g_X8_tick_36 m A nt nf 16 0 J4 w2).2).1 (A 40) y = (g_X8_tick_36 m A nt nf 16 0 J4 w2).1 (A 40) y := fun y => mm_a hA (by decide)
  rw [gE, te_En hL he, mA]
  refine ⟨?_, (st_en hL hO he (by decide)).trans (f7 e he)⟩
  rw [ep_step hL hO he, ep_steps hA, q1 e he]
  refine congrArg (fun n => J4 (A 40) e + nI n) (gcB_c 16 (fun x hx => ?_))
  rw [(f2 x hx).1.1.2.2.2.1, (t1 x hx).1.1.2.2.2.1]
