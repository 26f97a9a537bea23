/-! SIMULATION 94: epochs -/
def dlt (a c : Int32) : Bool := decide (a = nI 4) != decide (c = nI 4)
theorem dlt_0 {a : Int32} : dlt a a = false := by
  unfold dlt
  cases decide (a = nI 4) <;> rfl
/-- a number that a fold over the ports raises where a port's value changes so -/
theorem ep_fd {f : Nat → Mm → Mm} {N : Nat} {ep : Mm → Int32} {st : Mm → Nat → Int32} {D : Nat → Int32 → Int32 → Bool} (h1 : ∀ x I y, x < N → y < N → y ≠ x → st (f x I) y = st I y) (h2 : ∀ x I, x < N → ep (f x I) = ep I + nI (if D x (st I x) (st (f x I) x) = true then 1 else 0)) (I0 : Mm) : ∀ r i I, i + r = N → (∀ y, i ≤ y → y < N → st I y = st I0 y) → ep I = ep I0 + nI (gcB (fun x => D x (st I0 x) (st I x)) i) → ep (fd f r i I) = ep I0 + nI (gcB (fun x => D x (st I0 x) (st (fd f r i I) x)) N) := by
  intro r
  induction r with
  | zero =>
    intro i I hi _ h
    have : i = N := by omega
    subst this
    exact h
  | succ r ih =>
    intro i I hi hs h
    have hin : i < N := by omega
    refine ih (i + 1) (f i I) (by omega) (fun y a b => (h1 i I y hin b (by omega)).trans (hs y (by omega) b)) ?_
    rw [h2 i I hin, h, i_nn, gcB, gcB_c (g := fun x => D x (st I0 x) (st (f i I) x)) (h := fun x => D x (st I0 x) (st I x)) i (fun y hy => by
      show D y (st I0 y) (st (f i I) y) = D y (st I0 y) (st I y)
      rw [h1 i I y hin (by omega) (by omega)]), hs i (Nat.le_refl i) hin]
theorem gcB_f {g : Nat → Bool} (h : ∀ x, g x = false) (n : Nat) : gcB g n = 0 := by
  induction n with
  | zero => rfl
  | succ n ih => rw [gcB, ih, h n]; rfl
theorem mv_8 {I : Mm} {E p o : Nat} {v : Int32} (hEp : E ≠ p) (hEo : E ≠ o) : f_X1_moveTo I E p o v E 8 = I E 8 + nI (if dlt (I p 5) v = true then 1 else 0) := by
  unfold f_X1_moveTo dlt
  by_cases h1 : I p 5 = nI 4
  · rw [if_pos h1, decide_eq_true h1]
    by_cases h2 : v = nI 4
    · rw [if_pos h2, decide_eq_true h2]
      try dsimp only
      rw [n_X5_setStage hEp hEo]
      exact (i_add0 _).symm
    · rw [if_neg h2, decide_eq_false h2]
      try dsimp only
      rw [n_X5_setStage hEp hEo, up2_self]
      rfl
  · rw [if_neg h1, decide_eq_false h1]
    by_cases h2 : v = nI 4
    · rw [if_pos h2, decide_eq_true h2]
      try dsimp only
      rw [n_X5_setStage hEp hEo, up2_self]
      rfl
    · rw [if_neg h2, decide_eq_false h2]
      try dsimp only
      rw [n_X5_setStage hEp hEo]
      exact (i_add0 _).symm
theorem bd_5 {I : Mm} {p o q : Nat} : f_X5_bind I p o q p 5 = I p 5 := by
  unfold f_X5_bind
  try dsimp only
  rw [up2_jn (by decide), up2_jn (by decide), up2_jn (by decide), up2_jn (by decide)]
theorem st_5 {I : Mm} {p o q : Nat} : (f_X5_step I p o q).1 p 5 = I p 5 := by
  unfold f_X5_step
  try dsimp only
  repeat' split
  all_goals first | rfl | exact bd_5 | exact up2_jn (by decide)
/-- the class's steps -/
theorem ep_step {S : MM} {b e : Nat} {I : Mm} (hL : LY S b) (hO : OC S) (he : e < 2) : f_X7_stepAll I (sR S) b (En (sR S) b e) 8 = I (En (sR S) b e) 8 + nI (gcB (fun x => decide (x / 8 = e) && dlt (I (px (sR S) b x) 5) (f_X7_stepAll I (sR S) b (px (sR S) b x) 5)) 16) := by
  rw [fd_step]
  have hE : ∀ x, x < 16 → x / 8 < 2 := fun x hx => by omega
  refine ep_fd (f := fun x => stE (sR S) b (x / 8) (x % 8)) (N := 16) (ep := fun I => I (En (sR S) b e) 8) (st := fun I x => I (px (sR S) b x) 5) (D := fun x a c => decide (x / 8 = e) && dlt a c) (fun x I y hx hy hn => ?_) (fun x I hx => ?_) I 16 0 I rfl (fun _ _ _ => rfl) ?_
  · show stE (sR S) b (x / 8) (x % 8) I (px (sR S) b y) 5 = I (px (sR S) b y) 5
    unfold stE
    split
    · rfl
    · have n1 : px (sR S) b y ≠ px (sR S) b x := fun z => hn (i_px hL hO hy hx z)
      show f_X1_moveTo (f_X5_step I (px (sR S) b x) (ox (sR S) b x) (qx (sR S) b x)).1 (En (sR S) b (x / 8)) (px (sR S) b x) (ox (sR S) b x) (f_X5_step I (px (sR S) b x) (ox (sR S) b x) (qx (sR S) b x)).2 (px (sR S) b y) 5 = _
      rw [n_X1_moveTo n1 (ne_k (k_px hL hy) (k_ox hL hx) (by decide)) (ne_k (k_px hL hy) (ly_E hL (hE x hx)).2.1 (by decide)), n_X5_step n1]
  · show stE (sR S) b (x / 8) (x % 8) I (En (sR S) b e) 8 = I (En (sR S) b e) 8 + nI (if (decide (x / 8 = e) && dlt (I (px (sR S) b x) 5) (stE (sR S) b (x / 8) (x % 8) I (px (sR S) b x) 5)) = true then 1 else 0)
    unfold stE
    split
    · rw [dlt_0, Bool.and_false, if_neg (by decide), i_add0]
    · have kE := (ly_E hL (hE x hx)).2.1
      have nEp : En (sR S) b e ≠ px (sR S) b x := ne_k (ly_E hL he).2.1 (k_px hL hx) (by decide)
      have nEo : En (sR S) b e ≠ ox (sR S) b x := ne_k (ly_E hL he).2.1 (k_ox hL hx) (by decide)
      show f_X1_moveTo (f_X5_step I (px (sR S) b x) (ox (sR S) b x) (qx (sR S) b x)).1 (En (sR S) b (x / 8)) (px (sR S) b x) (ox (sR S) b x) (f_X5_step I (px (sR S) b x) (ox (sR S) b x) (qx (sR S) b x)).2 (En (sR S) b e) 8 = I (En (sR S) b e) 8 + nI (if (decide (x / 8 = e) && dlt (I (px (sR S) b x) 5) (f_X1_moveTo (f_X5_step I (px (sR S) b x) (ox (sR S) b x) (qx (sR S) b x)).1 (En (sR S) b (x / 8)) (px (sR S) b x) (ox (sR S) b x) (f_X5_step I (px (sR S) b x) (ox (sR S) b x) (qx (sR S) b x)).2 (px (sR S) b x) 5)) = true then 1 else 0)
      rw [(rr_X1_moveTo (ne_k kE (k_px hL hx) (by decide)) (ne_k kE (k_ox hL hx) (by decide)) (ne_k (k_px hL hx) (k_ox hL hx) (by decide))).1, r_mv1.2]
      by_cases q : x / 8 = e
      · rw [q, decide_eq_true rfl, Bool.true_and, mv_8 nEp nEo, st_5, n_X5_step nEp]
      · rw [decide_eq_false q, Bool.false_and, if_neg (by decide), i_add0, n_X1_moveTo nEp nEo (fun z => q (i_E hL hO he (hE x hx) z).symm), n_X5_step nEp]
  · rw [gcB]
    exact (i_add0 _).symm
theorem go_40 {J : Mm} {m x : Nat} {A : Nat → Nat} {v : Int32} (hA : AD m A) : f_X8_goesTo J m A x v (A 40) (x / 8) = J (A 40) (x / 8) + nI (if dlt (J (A 9) x) v = true then 1 else 0) ∧ (∀ e, e ≠ x / 8 → f_X8_goesTo J m A x v (A 40) e = J (A 40) e) ∧ f_X8_goesTo J m A x v (A 9) x = v ∧ ∀ y, y ≠ x → f_X8_goesTo J m A x v (A 9) y = J (A 9) y := by
  unfold f_X8_goesTo dlt
  by_cases h0 : v = J (A 9) x
  · rw [if_pos h0, ← h0]
    try dsimp only
    refine ⟨?_, fun e he => mu_o hA (by decide) (by decide) (by decide), up2_self _ _ _ _, fun y hy => mu_j hy⟩
    rw [mu_o hA (by decide) (by decide) (by decide)]
    have : (decide (v = nI 4) != decide (v = nI 4)) = false := by cases decide (v = nI 4) <;> rfl
    rw [this, if_neg (by decide), i_add0]
  · rw [if_neg h0]
    by_cases h1 : v = nI 4
    · rw [if_pos h1, decide_eq_true h1, decide_eq_false (fun z => h0 (h1.trans z.symm))]
      try dsimp only
      refine ⟨?_, fun e he => ?_, up2_self _ _ _ _, fun y hy => ?_⟩
      · rw [mu_o hA (by decide) (by decide) (by decide), up2_self]; rfl
      · rw [mu_o hA (by decide) (by decide) (by decide), mu_j he]
      · rw [mu_j hy, mu_o hA (by decide) (by decide) (by decide)]
    · rw [if_neg h1, decide_eq_false h1]
      by_cases h2 : J (A 9) x = nI 4
      · rw [if_pos h2, decide_eq_true h2]
        try dsimp only
        refine ⟨?_, fun e he => ?_, up2_self _ _ _ _, fun y hy => ?_⟩
        · rw [mu_o hA (by decide) (by decide) (by decide), up2_self]; rfl
        · rw [mu_o hA (by decide) (by decide) (by decide), mu_j he]
        · rw [mu_j hy, mu_o hA (by decide) (by decide) (by decide)]
      · rw [if_neg h2, decide_eq_false h2]
        try dsimp only
        refine ⟨?_, fun e he => mu_o hA (by decide) (by decide) (by decide), up2_self _ _ _ _, fun y hy => mu_j hy⟩
        rw [mu_o hA (by decide) (by decide) (by decide)]
        exact (i_add0 _).symm
/-- where a step of the reference goes by one goesTo, or nowhere -/
def GO1 (m : Nat) (A : Nat → Nat) (x : Nat) (J J' : Mm) : Prop := (∀ e, J' (A 40) e = J (A 40) e + nI (if (decide (x / 8 = e) && dlt (J (A 9) x) (J' (A 9) x)) = true then 1 else 0)) ∧ ∀ y, y ≠ x → J' (A 9) y = J (A 9) y
theorem GO1.rf {m x : Nat} {A : Nat → Nat} {J : Mm} : GO1 m A x J J := ⟨fun e => by rw [dlt_0, Bool.and_false, if_neg (by decide), i_add0], fun _ _ => rfl⟩
theorem GO1.go {m x : Nat} {A : Nat → Nat} {J J1 : Mm} {v : Int32} (hA : AD m A) (h40 : J1 (A 40) = J (A 40)) (h9 : J1 (A 9) = J (A 9)) : GO1 m A x J (f_X8_goesTo J1 m A x v) := by
  obtain ⟨g1, g2, g3, g4⟩ := go_40 (J := J1) (x := x) (v := v) hA
  refine ⟨fun e => ?_, fun y hy => by rw [g4 y hy, h9]⟩
  by_cases q : x / 8 = e
  · rw [← q, decide_eq_true rfl, Bool.true_and, g1, g3, h40, h9]
  · rw [decide_eq_false q, Bool.false_and, if_neg (by decide), i_add0, g2 e (fun z => q z.symm), h40]
theorem GO1.e {m x : Nat} {A : Nat → Nat} {J J1 J2 : Mm} (h : GO1 m A x J J1) (h40 : J2 (A 40) = J1 (A 40)) (h9 : J2 (A 9) = J1 (A 9)) : GO1 m A x J J2 := by
  unfold GO1
  rw [h40, h9]
  exact h
theorem up_o {J : Mm} {m k l x : Nat} {A : Nat → Nat} {v : Int32} (hA : AD m A) (hk : dm k) (hl : dm l) (n : k ≠ l) : up2 J (A l) x v (A k) = J (A k) := funext (fun j => mu_o hA hl hk n)
theorem go_steps {J : Mm} {m x : Nat} {A : Nat → Nat} (hA : AD m A) : GO1 m A x J (f_X8_steps J m A x) := by
  unfold f_X8_steps
  try dsimp only
  repeat' split
  all_goals first
    | exact GO1.rf
    | exact GO1.go hA rfl rfl
    | exact GO1.go hA (up_o hA (by decide) (by decide) (by decide)) (up_o hA (by decide) (by decide) (by decide))
    | exact GO1.e GO1.rf (up_o hA (by decide) (by decide) (by decide)) (up_o hA (by decide) (by decide) (by decide))
    | exact (((GO1.e (GO1.go hA rfl rfl) (up_o hA (by decide) (by decide) (by decide)) (up_o hA (by decide) (by decide) (by decide))).e (up_o hA (by decide) (by decide) (by decide)) (up_o hA (by decide) (by decide) (by decide))).e (up_o hA (by decide) (by decide) (by decide)) (up_o hA (by decide) (by decide) (by decide))).e (up_o hA (by decide) (by decide) (by decide)) (up_o hA (by decide) (by decide) (by decide))
/-- the reference's steps -/
theorem ep_steps {m nt nf e : Nat} {A : Nat → Nat} {J : Mm} {w : Int32} (hA : AD m A) : (g_X8_tick_36 m A nt nf 16 0 J w).1 (A 40) e = J (A 40) e + nI (gcB (fun x => decide (x / 8 = e) && dlt (J (A 9) x) ((g_X8_tick_36 m A nt nf 16 0 J w).1 (A 9) x)) 16) := by
  rw [fd_steps]
  refine ep_fd (f := fun x J => f_X8_steps J m A x) (N := 16) (ep := fun J => J (A 40) e) (st := fun J x => J (A 9) x) (D := fun x a c => decide (x / 8 = e) && dlt a c) (fun x J y hx hy hn => (go_steps hA).2 y hn) (fun x J hx => (go_steps hA).1 e) J 16 0 J rfl (fun _ _ _ => rfl) ?_
  rw [gcB]
  exact (i_add0 _).symm
/-- the class's bundles -/
theorem fb63_o {S : MM} {b e : Nat} {v : Int32} (hL : LY S b) (he : e < 2) : ∀ r i (I : Mm) (w : Int32), i + r = 8 → (∀ e', e' < 2 → g_X1_formBundles_63 (sR S) b e v r i I w (En (sR S) b e') = I (En (sR S) b e')) ∧ ∀ z k, k ≠ 11 → g_X1_formBundles_63 (sR S) b e v r i I w z k = I z k := by
  intro r
  induction r with
  | zero => intro i I w _; exact ⟨fun _ _ => rfl, fun _ _ _ => rfl⟩
  | succ r ih =>
    intro i I w hi
    have kp := (ly_P hL he (show i < 8 by omega)).2.1
    have st : ∀ u, (∀ e', e' < 2 → g_X1_formBundles_63 (sR S) b e v r (i + 1) (up2 I (Pt (sR S) b e i) 11 u) w (En (sR S) b e') = I (En (sR S) b e')) ∧ ∀ z k, k ≠ 11 → g_X1_formBundles_63 (sR S) b e v r (i + 1) (up2 I (Pt (sR S) b e i) 11 u) w z k = I z k := fun u => by
      obtain ⟨a1, a2⟩ := ih (i + 1) (up2 I (Pt (sR S) b e i) 11 u) w (by omega)
      exact ⟨fun e' he' => (a1 e' he').trans (up2_row (ne_k (ly_E hL he').2.1 kp (by decide))), fun z k hk => (a2 z k hk).trans (up2_ne (fun y => hk y.2))⟩
    rw [g_X1_formBundles_63]
    try dsimp only
    repeat' split
    all_goals exact st _
theorem ep_fb2 {S : MM} {b e : Nat} {v : Int32} {I0 : Mm} (hL : LY S b) (hO : OC S) (he : e < 2) : ∀ r i (I : Mm) (w : Int32), i + r = 8 → (∀ y, i ≤ y → y < 8 → I (Pt (sR S) b e y) 10 = I0 (Pt (sR S) b e y) 10) → (∀ y, y < 8 → I (Pt (sR S) b e y) 5 = I0 (Pt (sR S) b e y) 5) → I (En (sR S) b e) 8 = I0 (En (sR S) b e) 8 + nI (gcB (fun y => decide (I0 (Pt (sR S) b e y) 5 = nI 4) && !decide (I (Pt (sR S) b e y) 10 = I0 (Pt (sR S) b e y) 10)) i) → g_X1_formBundles_2 (sR S) b e v r i I w (En (sR S) b e) 8 = I0 (En (sR S) b e) 8 + nI (gcB (fun y => decide (I0 (Pt (sR S) b e y) 5 = nI 4) && !decide (g_X1_formBundles_2 (sR S) b e v r i I w (Pt (sR S) b e y) 10 = I0 (Pt (sR S) b e y) 10)) 8) := by
  intro r
  induction r with
  | zero =>
    intro i I w hi h1 h2 h3
    have : i = 8 := by omega
    subst this
    have E : g_X1_formBundles_2 (sR S) b e v 0 8 I w = g_X1_formBundles_63 (sR S) b e v 8 0 I w := rfl
    obtain ⟨a1, a2⟩ := fb63_o (v := v) hL he 8 0 I w rfl
    have q10 : ∀ y, g_X1_formBundles_63 (sR S) b e v 8 0 I w (Pt (sR S) b e y) 10 = I (Pt (sR S) b e y) 10 := fun y => a2 _ 10 (by decide)
    rw [E, a1 e he, h3]
    simp only [q10]
  | succ r ih =>
    intro i I w hi h1 h2 h3
    have hi8 : i < 8 := by omega
    have kp := (ly_P hL he hi8).2.1
    have nP : ∀ y, y < 8 → y ≠ i → Pt (sR S) b e y ≠ Pt (sR S) b e i := fun y hy hn z => hn (i_Pt hL hO he he hy hi8 z).2
    have nE : En (sR S) b e ≠ Pt (sR S) b e i := ne_k (ly_E hL he).2.1 kp (by decide)
    have nE' : ∀ y, y < 8 → Pt (sR S) b e y ≠ En (sR S) b e := fun y hy => ne_k (ly_P hL he hy).2.1 (ly_E hL he).2.1 (by decide)
    have go : ∀ (I1 : Mm) (u : Int32) (d : Nat), (∀ y, y < 8 → ∀ k, I1 (Pt (sR S) b e y) k = I (Pt (sR S) b e y) k) → I1 (En (sR S) b e) 8 = I (En (sR S) b e) 8 + nI d → d = (if (decide (I0 (Pt (sR S) b e i) 5 = nI 4) && !decide (u = I0 (Pt (sR S) b e i) 10)) = true then 1 else 0) → g_X1_formBundles_2 (sR S) b e v r (i + 1) (up2 I1 (Pt (sR S) b e i) 10 u) w (En (sR S) b e) 8 = I0 (En (sR S) b e) 8 + nI (gcB (fun y => decide (I0 (Pt (sR S) b e y) 5 = nI 4) && !decide (g_X1_formBundles_2 (sR S) b e v r (i + 1) (up2 I1 (Pt (sR S) b e i) 10 u) w (Pt (sR S) b e y) 10 = I0 (Pt (sR S) b e y) 10)) 8) := fun I1 u d r1 e1 ed => by
      refine ih (i + 1) _ w (by omega) (fun y a c => ?_) (fun y hy => ?_) ?_
      · rw [up2_row (nP y c (by omega)), r1 y c]
        exact h1 y (by omega) c
      · rw [up2_ne (fun z => absurd z.2 (by decide)), r1 y hy]
        exact h2 y hy
      · rw [up2_row nE, e1, h3, i_nn, gcB, up2_self, ← ed, gcB_c (g := fun y => decide (I0 (Pt (sR S) b e y) 5 = nI 4) && !decide (up2 I1 (Pt (sR S) b e i) 10 u (Pt (sR S) b e y) 10 = I0 (Pt (sR S) b e y) 10)) (h := fun y => decide (I0 (Pt (sR S) b e y) 5 = nI 4) && !decide (I (Pt (sR S) b e y) 10 = I0 (Pt (sR S) b e y) 10)) i (fun y hy => by
          show (decide (I0 (Pt (sR S) b e y) 5 = nI 4) && !decide (up2 I1 (Pt (sR S) b e i) 10 u (Pt (sR S) b e y) 10 = I0 (Pt (sR S) b e y) 10)) = _
          rw [up2_row (nP y (by omega) (by omega)), r1 y (by omega)])]
    rw [g_X1_formBundles_2]
    try dsimp only
    have h10 := h1 i (Nat.le_refl i) hi8
    have h5 := h2 i hi8
    by_cases q4 : I (Pt (sR S) b e i) 5 = nI 4
    · rw [if_pos q4]
      have d4 : decide (I0 (Pt (sR S) b e i) 5 = nI 4) = true := decide_eq_true (h5.symm.trans q4)
      by_cases qb : I (Pt (sR S) b e i) 10 = f_X1_bundleOf I (sR S) b e i
      · rw [if_pos qb]
        exact go I _ 0 (fun _ _ _ => rfl) (i_add0 _).symm (by rw [d4, ← qb, h10, decide_eq_true rfl]; rfl)
      · rw [if_neg qb]
        refine go (up2 I (En (sR S) b e) 8 (I (En (sR S) b e) 8 + nI 1)) _ 1 (fun y hy k => by rw [up2_row (nE' y hy)]) (up2_self _ _ _ _) ?_
        rw [d4, decide_eq_false (fun z => qb (h10.trans z.symm))]
        rfl
    · rw [if_neg q4]
      exact go I _ 0 (fun _ _ _ => rfl) (i_add0 _).symm (by rw [decide_eq_false (fun z => q4 (h5.trans z))]; rfl)
/-- a round of chooses, with its epoch -/
theorem ch5_e {m e i r : Nat} {A : Nat → Nat} {J : Mm} : ∃ J1 l c, ((J1 = J ∧ ¬ (J (A 9) (8 * e + i) = nI 4 ∧ ¬ l = J (A 12) (8 * e + i))) ∨ (J1 = up2 J (A 40) e (J (A 40) e + nI 1) ∧ (J (A 9) (8 * e + i) = nI 4 ∧ ¬ l = J (A 12) (8 * e + i)))) ∧ g_X8_chooses_5 m A e (r + 1) (8 * e + i) J = g_X8_chooses_5 m A e r (8 * e + i + 1) (up2 (up2 J1 (A 12) (8 * e + i) l) (A 13) (8 * e + i) c) := by
  rw [g_X8_chooses_5]
  try dsimp only
  rw [g27_1]
  generalize (g_X8_chooses_27 m A e 8 (8 * e) (8 * e + i) J (-1 : Int32) (nI 0)).2.1 = l
  generalize (g_X8_chooses_27 m A e 8 (8 * e) (8 * e + i) J (-1 : Int32) (nI 0)).2.2 = k
  by_cases h9 : J (A 9) (8 * e + i) = nI 4
  · rw [if_pos h9]
    by_cases hl : l = J (A 12) (8 * e + i)
    · rw [if_pos hl]
      by_cases h1 : l = -1
      · rw [if_pos h1]
        exact ⟨J, l, _, Or.inl ⟨rfl, fun z => z.2 hl⟩, rfl⟩
      · rw [if_neg h1]
        by_cases h2 : up2 J (A 12) (8 * e + i) l (A 2) e ≤ k
        · rw [if_pos h2]
          exact ⟨J, l, _, Or.inl ⟨rfl, fun z => z.2 hl⟩, rfl⟩
        · rw [if_neg h2]
          exact ⟨J, l, _, Or.inl ⟨rfl, fun z => z.2 hl⟩, rfl⟩
    · rw [if_neg hl]
      by_cases h1 : l = -1
      · rw [if_pos h1]
        exact ⟨_, l, _, Or.inr ⟨rfl, h9, hl⟩, rfl⟩
      · rw [if_neg h1]
        by_cases h2 : up2 (up2 J (A 40) e (J (A 40) e + nI 1)) (A 12) (8 * e + i) l (A 2) e ≤ k
        · rw [if_pos h2]
          exact ⟨_, l, _, Or.inr ⟨rfl, h9, hl⟩, rfl⟩
        · rw [if_neg h2]
          exact ⟨_, l, _, Or.inr ⟨rfl, h9, hl⟩, rfl⟩
  · rw [if_neg h9]
    by_cases h1 : l = -1
    · rw [if_pos h1]
      exact ⟨J, l, _, Or.inl ⟨rfl, fun z => h9 z.1⟩, rfl⟩
    · rw [if_neg h1]
      by_cases h2 : up2 J (A 12) (8 * e + i) l (A 2) e ≤ k
      · rw [if_pos h2]
        exact ⟨J, l, _, Or.inl ⟨rfl, fun z => h9 z.1⟩, rfl⟩
      · rw [if_neg h2]
        exact ⟨J, l, _, Or.inl ⟨rfl, fun z => h9 z.1⟩, rfl⟩
theorem ep_ch {m e : Nat} {A : Nat → Nat} {J0 : Mm} (hA : AD m A) : ∀ r i J, i + r = 8 → (∀ y, i ≤ y → y < 8 → J (A 12) (8 * e + y) = J0 (A 12) (8 * e + y)) → J (A 9) = J0 (A 9) → J (A 40) e = J0 (A 40) e + nI (gcB (fun y => decide (J0 (A 9) (8 * e + y) = nI 4) && !decide (J (A 12) (8 * e + y) = J0 (A 12) (8 * e + y))) i) → (∀ e', e' ≠ e → J (A 40) e' = J0 (A 40) e') → g_X8_chooses_5 m A e r (8 * e + i) J (A 40) e = J0 (A 40) e + nI (gcB (fun y => decide (J0 (A 9) (8 * e + y) = nI 4) && !decide (g_X8_chooses_5 m A e r (8 * e + i) J (A 12) (8 * e + y) = J0 (A 12) (8 * e + y))) 8) ∧ ∀ e', e' ≠ e → g_X8_chooses_5 m A e r (8 * e + i) J (A 40) e' = J0 (A 40) e' := by
  intro r
  induction r with
  | zero =>
    intro i J hi h1 h2 h3 h4
    have : i = 8 := by omega
    subst this
    exact ⟨h3, h4⟩
  | succ r ih =>
    intro i J hi h1 h2 h3 h4
    have hi8 : i < 8 := by omega
    obtain ⟨J1, l, c, hJ, hG⟩ := ch5_e (m := m) (e := e) (i := i) (r := r) (A := A) (J := J)
    rw [hG, show 8 * e + i + 1 = 8 * e + (i + 1) by omega]
    have h12 := h1 i (Nat.le_refl i) hi8
    have a12 : ∀ y, J1 (A 12) y = J (A 12) y := fun y => by
      rcases hJ with ⟨q, _⟩ | ⟨q, _⟩
      · rw [q]
      · rw [q, mu_o hA (by decide) (by decide) (by decide)]
    have a9 : J1 (A 9) = J (A 9) := by
      rcases hJ with ⟨q, _⟩ | ⟨q, _⟩
      · rw [q]
      · rw [q, up_o hA (by decide) (by decide) (by decide)]
    have b12 : ∀ y, up2 (up2 J1 (A 12) (8 * e + i) l) (A 13) (8 * e + i) c (A 12) y = if y = 8 * e + i then l else J (A 12) y := fun y => by
      rw [mu_o hA (by decide) (by decide) (by decide)]
      by_cases q : y = 8 * e + i
      · rw [if_pos q, q, up2_self]
      · rw [if_neg q, mu_j q, a12]
    have b9 : up2 (up2 J1 (A 12) (8 * e + i) l) (A 13) (8 * e + i) c (A 9) = J0 (A 9) := by
      rw [up_o hA (by decide) (by decide) (by decide), up_o hA (by decide) (by decide) (by decide), a9, h2]
    have b40 : ∀ e', up2 (up2 J1 (A 12) (8 * e + i) l) (A 13) (8 * e + i) c (A 40) e' = J1 (A 40) e' := fun e' => by
      rw [mu_o hA (by decide) (by decide) (by decide), mu_o hA (by decide) (by decide) (by decide)]
    refine ih (i + 1) _ (by omega) (fun y a b => ?_) b9 ?_ (fun e' he' => ?_)
    · rw [b12, if_neg (by omega)]
      exact h1 y (by omega) b
    · have g1 : gcB (fun y => decide (J0 (A 9) (8 * e + y) = nI 4) && !decide (up2 (up2 J1 (A 12) (8 * e + i) l) (A 13) (8 * e + i) c (A 12) (8 * e + y) = J0 (A 12) (8 * e + y))) i = gcB (fun y => decide (J0 (A 9) (8 * e + y) = nI 4) && !decide (J (A 12) (8 * e + y) = J0 (A 12) (8 * e + y))) i := gcB_c i (fun y hy => by rw [b12, if_neg (by omega)])
      rw [gcB, g1, b40, b12, if_pos rfl, ← i_nn, ← h3, ← h12, ← h2]
      rcases hJ with ⟨q, n⟩ | ⟨q, n1, n2⟩
      · rw [q, if_neg (fun z => n (by
          rw [Bool.and_eq_true] at z
          refine ⟨of_decide_eq_true z.1, fun y => ?_⟩
          have := z.2
          rw [decide_eq_true y] at this
          exact absurd this (by decide))), i_add0]
      · rw [q, up2_self, if_pos (by rw [decide_eq_true n1, decide_eq_false n2]; rfl)]
    · rw [b40]
      rcases hJ with ⟨q, _⟩ | ⟨q, _⟩
      · rw [q]; exact h4 e' he'
      · rw [q, mu_j he']; exact h4 e' he'
/-- both sides' epochs, where an end's bundles are formed -/
theorem ep_end {S : MM} {b m e : Nat} {A : Nat → Nat} {I J : Mm} {v : Int32} (hL : LY S b) (hO : OC S) (hA : AD m A) (he : e < 2) (h : ∀ x, x < 16 → RP (sR S) b I J A x) (lm : I (En (sR S) b e) 2 = J (A 2) e) (hv : (v = 0) ↔ ¬ e = f_X8_stronger J m A) (bn : ∀ y, y < 8 → J (A 9) (8 * e + y) = nI 4 → I (Pt (sR S) b e y) 10 = J (A 12) (8 * e + y)) (ep : ∀ e', e' < 2 → I (En (sR S) b e') 8 = J (A 40) e') : ∀ e', e' < 2 → f_X1_formBundles I (sR S) b e v (En (sR S) b e') 8 = f_X8_chooses J m A e (A 40) e' := by
  obtain ⟨s1, s2, s3, s4, s5⟩ := sim_end (v := v) hL hO hA he h lm hv
  have c0 := ep_fb2 (v := v) (I0 := I) hL hO he 8 0 I v rfl (fun _ _ _ => rfl) (fun _ _ => rfl) (by rw [gcB]; exact (i_add0 _).symm)
  have E1 : f_X1_formBundles I (sR S) b e v = g_X1_formBundles_2 (sR S) b e v 8 0 I v := rfl
  have E2 : f_X8_chooses J m A e = g_X8_chooses_5 m A e 8 (8 * e + 0) J := rfl
  obtain ⟨r0, r1⟩ := ep_ch (e := e) (J0 := J) hA 8 0 J rfl (fun _ _ _ => rfl) rfl (by rw [gcB]; exact (i_add0 _).symm) (fun _ _ => rfl)
  rw [← E1] at c0
  rw [← E2] at r0 r1
  intro e' he'
  by_cases q : e' = e
  · subst q
    rw [c0, r0, ep e' he']
    refine congrArg (fun n => J (A 40) e' + nI n) (gcB_c 8 (fun y hy => ?_))
    have e5 : I (Pt (sR S) b e' y) 5 = J (A 9) (8 * e' + y) := by rw [← px_e hy]; exact (h (8 * e' + y) (by omega)).1.2.2.2.1
    rw [e5, (s2 y hy).2]
    by_cases g : J (A 9) (8 * e' + y) = nI 4
    · rw [bn y hy g]
    · rw [decide_eq_false g, Bool.false_and, Bool.false_and]
  · rw [r1 e' q, s3.1 _ (fun i hi => ne_k (ly_E hL he').2.1 (ly_P hL he hi).2.1 (by decide)) (fun z => q (i_E hL hO he' he z))]
    exact ep e' he'
