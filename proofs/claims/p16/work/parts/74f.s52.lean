/-! SIMULATION 52: what the rest of a tick leaves of the frames; a whole tick -/
def FA (S : MM) (b : Nat) (I I' : Mm) : Prop := (∀ z, (sK S z = 3 ∨ (sK S z = 10 ∧ sN S z = 200)) → I' z = I z) ∧ (∀ c e, c < 8 → e < 2 → I' (Ln (sR S) b c e) 4 = I (Ln (sR S) b c e) 4 ∧ I' (Ln (sR S) b c e) 5 = I (Ln (sR S) b c e) 5) ∧ ∀ e, e < 2 → ∀ k, (k = 3 ∨ k = 5 ∨ k = 6) → I' (En (sR S) b e) k = I (En (sR S) b e) k
theorem FA.rf {S : MM} {b : Nat} {I : Mm} : FA S b I I := ⟨fun _ _ => rfl, fun _ _ _ _ => ⟨rfl, rfl⟩, fun _ _ _ _ => rfl⟩
theorem FA.tr {S : MM} {b : Nat} {I I1 I2 : Mm} (h : FA S b I I1) (g : FA S b I1 I2) : FA S b I I2 := ⟨fun z a => (g.1 z a).trans (h.1 z a), fun c e a d => ⟨(g.2.1 c e a d).1.trans (h.2.1 c e a d).1, (g.2.1 c e a d).2.trans (h.2.1 c e a d).2⟩, fun e a k d => (g.2.2 e a k d).trans (h.2.2 e a k d)⟩
theorem FA.w {S : MM} {b a k kd : Nat} {I I' : Mm} {v : Int32} (hL : LY S b) (h : FA S b I I') (ka : sK S a = kd) (hk : (kd = 4 ∧ k ≠ 4 ∧ k ≠ 5) ∨ (kd = 2 ∧ k ≠ 3 ∧ k ≠ 5 ∧ k ≠ 6) ∨ kd = 1 ∨ kd = 5 ∨ kd = 6 ∨ kd = 7 ∨ kd = 8 ∨ kd = 9 ∨ kd = 17) : FA S b I (up2 I' a k v) := by
  refine ⟨fun z hz => ?_, fun c e hc he => ⟨?_, ?_⟩, fun e he j hj => ?_⟩
  · rw [up2_row (fun y => by subst y; omega)]; exact h.1 z hz
  · have kN := (ly_N hL hc he).2.1
    rw [up2_ne (fun y => by obtain ⟨y1, y2⟩ := y; rw [y1] at kN; omega)]
    exact (h.2.1 c e hc he).1
  · have kN := (ly_N hL hc he).2.1
    rw [up2_ne (fun y => by obtain ⟨y1, y2⟩ := y; rw [y1] at kN; omega)]
    exact (h.2.1 c e hc he).2
  · have kE := (ly_E hL he).2.1
    rw [up2_ne (fun y => by obtain ⟨y1, y2⟩ := y; rw [y1] at kE; omega)]
    exact h.2.2 e he j hj
/-- where only cells of these kinds are other -/
theorem FA.o {S : MM} {b : Nat} {I I0 I' : Mm} (hL : LY S b) (h : FA S b I0 I) (g : ∀ z k, sK S z = k → (k = 2 ∨ k = 3 ∨ k = 4 ∨ k = 10) → I' z = I z) : FA S b I0 I' := h.tr ⟨fun z hz => by rcases hz with q | q; exact g z 3 q (by decide); exact g z 10 q.1 (by decide), fun c e hc he => by rw [g _ 4 (ly_N hL hc he).2.1 (by decide)]; exact ⟨rfl, rfl⟩, fun e he k _ => by rw [g _ 2 (ly_E hL he).2.1 (by decide)]⟩
theorem fa_age {S : MM} {b : Nat} {I0 I : Mm} (hL : LY S b) (h : FA S b I0 I) : FA S b I0 (f_X7_ageAll I (sR S) b) := by
  rw [fd_age]
  exact fd_keep (N := 16) (f := fun x I => f_X5_age I (px (sR S) b x) (qx (sR S) b x)) (P := fun I' => FA S b I0 I') (fun i I' hi p => FA.o hL p (fun z k hz hk => by
    show f_X5_age I' (px (sR S) b i) (qx (sR S) b i) z = I' z
    exact n_X5_age (ne_k hz (k_px hL hi) (by omega)) (ne_k hz (k_qx hL hi) (by omega)))) 16 0 I rfl h
theorem fa_step {S : MM} {b : Nat} {I0 I : Mm} (hL : LY S b) (hO : OC S) (h : FA S b I0 I) : FA S b I0 (f_X7_stepAll I (sR S) b) := by
  rw [fd_step]
  refine fd_keep (N := 16) (f := fun x => stE (sR S) b (x / 8) (x % 8)) (P := fun I' => FA S b I0 I') (fun i I' hi p => p.tr ?_) 16 0 I rfl h
  show FA S b I' (stE (sR S) b (i / 8) (i % 8) I')
  have row : ∀ z k, sK S z = k → (k = 3 ∨ k = 4 ∨ k = 10) → stE (sR S) b (i / 8) (i % 8) I' z = I' z := fun z k hz hk => by
    unfold stE
    split
    · rfl
    · have np : z ≠ px (sR S) b i := ne_k hz (k_px hL hi) (by omega)
      show f_X1_moveTo (f_X5_step I' (px (sR S) b i) (ox (sR S) b i) (qx (sR S) b i)).1 (En (sR S) b (i / 8)) (px (sR S) b i) (ox (sR S) b i) (f_X5_step I' (px (sR S) b i) (ox (sR S) b i) (qx (sR S) b i)).2 z = _
      rw [n_X1_moveTo np (ne_k hz (k_ox hL hi) (by omega)) (ne_k hz (ly_E hL (show i / 8 < 2 by omega)).2.1 (by omega)), n_X5_step np]
  refine ⟨fun z hz => by rcases hz with q | q; exact row z 3 q (by decide); exact row z 10 q.1 (by decide), fun c e hc he => by rw [row _ 4 (ly_N hL hc he).2.1 (by decide)]; exact ⟨rfl, rfl⟩, fun e he k hk => stE_en hL hO hi he (by omega)⟩
theorem fa_fb63 {S : MM} {b e : Nat} {I0 : Mm} {v : Int32} (hL : LY S b) (he : e < 2) : ∀ r i (I : Mm) (w : Int32), i + r = 8 → FA S b I0 I → FA S b I0 (g_X1_formBundles_63 (sR S) b e v r i I w) := by
  intro r
  induction r with
  | zero => intro i I w _ h; exact h
  | succ r ih =>
    intro i I w hi h
    have kp := (ly_P hL he (show i < 8 by omega)).2.1
    rw [g_X1_formBundles_63]
    split
    · exact ih _ _ _ (by omega) (h.w hL kp (by omega))
    · split
      · exact ih _ _ _ (by omega) (h.w hL kp (by omega))
      · exact ih _ _ _ (by omega) (h.w hL kp (by omega))
theorem fa_fb2 {S : MM} {b e : Nat} {I0 : Mm} {v : Int32} (hL : LY S b) (he : e < 2) : ∀ r i (I : Mm) (w : Int32), i + r = 8 → FA S b I0 I → FA S b I0 (g_X1_formBundles_2 (sR S) b e v r i I w) := by
  intro r
  induction r with
  | zero => intro i I w _ h; exact fa_fb63 hL he 8 0 I w rfl h
  | succ r ih =>
    intro i I w hi h
    have kp := (ly_P hL he (show i < 8 by omega)).2.1
    have kE := (ly_E hL he).2.1
    rw [g_X1_formBundles_2]
    split
    · split
      · exact ih _ _ _ (by omega) (h.w hL kp (by omega))
      · exact ih _ _ _ (by omega) ((h.w hL kE (by omega)).w hL kp (by omega))
    · exact ih _ _ _ (by omega) (h.w hL kp (by omega))
theorem fa_tellFrom {S : MM} {b e x : Nat} {I0 I : Mm} (hL : LY S b) (hO : OC S) (he : e < 2) (hx : x < 8) (h : FA S b I0 I) : FA S b I0 (f_X7_tellFrom I (sR S) b e x).1 := by
  have kp := (ly_P hL he hx).2.1
  have kl := (ly_L hL he hx).2.1
  have rm : FA S b I0 (f_X5_rememberTelling I (Pt (sR S) b e x) (Ow (sR S) b e x) (La (sR S) b e x) (I b 2)) := FA.o hL h (fun z k hz hk => n_X5_rememberTelling (ne_k hz kl (by omega)) (ne_k hz kp (by omega)))
  unfold f_X7_tellFrom
  by_cases cb : cbl (I (Pt (sR S) b e x) 2)
  · have hc := (cbl_e cb).2
    rw [if_pos cb]
    dsimp only
    generalize (I (Pt (sR S) b e x) 2).toNatClampNeg = c at hc ⊢
    generalize f_X5_rememberTelling I (Pt (sR S) b e x) (Ow (sR S) b e x) (La (sR S) b e x) (I b 2) = I3 at rm ⊢
    split
    · dsimp only
      refine rm.tr ?_
      have row : ∀ z k (v : Int32), sK S z = k → (k = 2 ∨ k = 3 ∨ k = 10) → f_X3_addNote I3 (sR S) b c e e x v z = I3 z := fun z k v hz hk => an_k (fun s hs => ⟨ne_k hz (ly_TO hL hc he hs).2.1 (by omega), ne_k hz (ly_TP hL hc he hs).2.1 (by omega), ne_k hz (ly_T hL hc he hs).2.1 (by omega)⟩) (ne_k hz (ly_N hL hc he).2.1 (by omega))
      refine ⟨fun z hz => by rcases hz with q | q; exact row z 3 _ q (by decide); exact row z 10 _ q.1 (by decide), fun c' e' hc' he' => ?_, fun e' he' k hk => by rw [row _ 2 _ (ly_E hL he').2.1 (by decide)]⟩
      by_cases q : c' = c ∧ e' = e
      · obtain ⟨rfl, rfl⟩ := q
        exact ⟨an_l hL hc he (by decide), an_l hL hc he (by decide)⟩
      · rw [(an_lc hL hO hc he hc' he' q).2]
        exact ⟨rfl, rfl⟩
    · exact rm.w hL (ly_N hL hc he).2.1 (by omega)
  · rw [if_neg cb]; exact h
theorem fa_tellAll {S : MM} {b : Nat} {I0 I : Mm} (hL : LY S b) (hO : OC S) (h : FA S b I0 I) : FA S b I0 (f_X7_tellAll I (sR S) b).1 := by
  rw [fd_tell]
  refine fd_keep (N := 16) (f := fun x => teE (sR S) b (x / 8) (x % 8)) (P := fun I' => FA S b I0 I') (fun i I' hi p => ?_) 16 0 I rfl h
  show FA S b I0 (teE (sR S) b (i / 8) (i % 8) I')
  unfold teE
  split
  · exact p
  · exact fa_tellFrom hL hO (by omega) (by omega) p
theorem fa_g15 {S : MM} {b : Nat} {I0 : Mm} (hL : LY S b) (hO : OC S) : ∀ r i (I : Mm) (w : Int32), i + r = 2 → FA S b I0 I → FA S b I0 (g_X7_runTick_15 (sR S) b r i I w) := by
  intro r
  induction r with
  | zero =>
    intro i I w hi h
    have : i = 2 := by omega
    subst this
    exact FA.o hL (fa_tellAll hL hO (fa_step hL hO h)) (fun z k hz hk => (g15_0 (R := sR S) (b := b) (I := I) (w := w)).1 z (ne_k hz hL.2 (by omega)))
  | succ r ih =>
    intro i I w hi h
    rw [g_X7_runTick_15]
    split
    · exact ih _ _ _ (by omega) (fa_fb2 hL (by omega) 8 0 _ _ rfl h)
    · exact ih _ _ _ (by omega) (fa_fb2 hL (by omega) 8 0 _ _ rfl h)
theorem fa_run {S : MM} {b : Nat} {I : Mm} (hL : LY S b) (hO : OC S) : FA S b (f_X7_bringAll I (sR S) b) (f_X7_runTick I (sR S) b) := by
  unfold f_X7_runTick
  exact fa_g15 hL hO 2 0 _ _ rfl (fa_age hL FA.rf)
/-- what a tick of the reference leaves, once all has come -/
theorem tick_k {m nt nf : Nat} {A : Nat → Nat} {J : Mm} (hA : AD m A) {k : Nat} (hk : dm k) (hn : 32 ≤ k) (h40 : k ≠ 40) (j : Nat) : (f_X8_tick J m A nt nf).1 (A k) j = (f_X8_comes J m A nt nf).1 (A k) j := by
  have ne : ∀ l, dm l → l < 32 ∨ l = 40 → A k ≠ A l := fun l hl h z => by have := hA.1 k l hk hl z; omega
  rw [tick_8, fd_puts, (g60_0 hA).1 k j hk]
  have q1 : (fd (fun x J => f_putsW J m A x) 16 0 (mid8 J m A nt nf).1) (A k) = (mid8 J m A nt nf).1 (A k) := fd_keep (N := 16) (f := fun x J => f_putsW J m A x) (P := fun J' => J' (A k) = (mid8 J m A nt nf).1 (A k)) (fun i J' _ p => (nm_putsW (fun l hl => ne l ((show ∀ l ∈ ([14, 16, 20, 21, 26, 27, 28, 29, 30, 31] : List Nat), dm l by decide) l hl) (Or.inl ((show ∀ l ∈ ([14, 16, 20, 21, 26, 27, 28, 29, 30, 31] : List Nat), l < 32 by decide) l hl))) (hA.2 k hk)).trans p) 16 0 _ rfl rfl
  rw [q1]
  unfold mid8
  dsimp only
  rw [mm_a hA hk, fd_steps]
  generalize (g_X8_tick_7 m A nt nf 16 0 (f_X8_comes J m A nt nf).1 (f_X8_comes J m A nt nf).2).2 = w
  have q2 : ∀ K : Mm, (fd (fun x J => f_X8_steps J m A x) 16 0 K) (A k) = K (A k) := fun K => fd_keep (N := 16) (f := fun x J => f_X8_steps J m A x) (P := fun J' => J' (A k) = K (A k)) (fun i J' _ p => (nm_X8_steps (fun l hl => ne l ((show ∀ l ∈ ([9, 10, 19, 40] : List Nat), dm l by decide) l hl) ((show ∀ l ∈ ([9, 10, 19, 40] : List Nat), l < 32 ∨ l = 40 by decide) l hl))).trans p) 16 0 K rfl rfl
  have q3 : ∀ (K : Mm) (e : Nat), f_X8_chooses K m A e (A k) = K (A k) := fun K e => nm_X8_chooses (fun l hl => ne l ((show ∀ l ∈ ([12, 13, 40] : List Nat), dm l by decide) l hl) ((show ∀ l ∈ ([12, 13, 40] : List Nat), l < 32 ∨ l = 40 by decide) l hl))
  have q4 : ∀ K : Mm, (fd (fun x J => f_X8_ages J m A x) 16 0 K) (A k) = K (A k) := fun K => fd_keep (N := 16) (f := fun x J => f_X8_ages J m A x) (P := fun J' => J' (A k) = K (A k)) (fun i J' _ p => (nm_X8_ages (fun l hl => ne l ((show ∀ l ∈ ([7, 8, 18] : List Nat), dm l by decide) l hl) ((show ∀ l ∈ ([7, 8, 18] : List Nat), l < 32 ∨ l = 40 by decide) l hl))).trans p) 16 0 K rfl rfl
  rw [q2, q3, q3, fd_ages, q4]
