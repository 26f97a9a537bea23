/-! SIMULATION 83: the class's tick leaves the cables -/
def fo2 (k : Nat) : Bool := k == 1 || k == 9 || k == 10 || k == 11 || k == 18
def FO2 (S : MM) (I I' : Mm) : Prop := ∀ z, fo2 (wk S z) = true → I' z = I z
theorem f2_ne {S : MM} {z a k : Nat} (hz : fo2 (wk S z) = true) (ha : sK S a = k) (h10 : k ≠ 10) (hf : fo2 k = false) : z ≠ a := fun e => by
  subst e
  rw [wk_17 ha h10, hf] at hz
  cases hz
theorem f2_n10 {S : MM} {z a : Nat} (hz : fo2 (wk S z) = true) (ha : sK S a = 10) (hn : sN S a = 200) : z ≠ a := fun e => by
  subst e
  unfold wk at hz
  rw [if_pos ⟨ha, hn⟩] at hz
  cases hz
theorem FO2.rf {S : MM} {I : Mm} : FO2 S I I := fun _ _ => rfl
theorem FO2.tr {S : MM} {I I1 I2 : Mm} (h : FO2 S I I1) (g : FO2 S I1 I2) : FO2 S I I2 := fun z hz => (g z hz).trans (h z hz)
theorem FO2.w {S : MM} {I I' : Mm} {a j k : Nat} {v : Int32} (h : FO2 S I I') (ha : sK S a = k) (h10 : k ≠ 10) (hf : fo2 k = false) : FO2 S I (up2 I' a j v) := fun z hz => by
  rw [up2_row (f2_ne hz ha h10 hf)]
  exact h z hz
theorem FO2.w10 {S : MM} {I I' : Mm} {a j : Nat} {v : Int32} (h : FO2 S I I') (ha : sK S a = 10) (hn : sN S a = 200) : FO2 S I (up2 I' a j v) := fun z hz => by
  rw [up2_row (f2_n10 hz ha hn)]
  exact h z hz
theorem f2_take {S : MM} {b c e : Nat} {I0 I : Mm} {v : Int32} (hL : LY S b) (hc : c < 8) (he : e < 2) (h : FO2 S I0 I) : FO2 S I0 (f_X3_takeDueFrame I (sR S) b c e v).1 := by
  have k := (ly_N hL hc he).2.1
  unfold f_X3_takeDueFrame
  repeat' split
  all_goals first | exact h | exact FO2.w (FO2.w h k (by decide) rfl) k (by decide) rfl
theorem f2_keep {S : MM} {b p e : Nat} {I0 I : Mm} {v w : Int32} (hL : LY S b) (he : e < 2) (h : FO2 S I0 I) : FO2 S I0 (f_X1_keep I (sR S) b p e v w) := by
  have kE := (ly_E hL he).2.1
  have kk := (ly_ka hL he).2.1
  have kn := (ly_ka hL he).2.2
  unfold f_X1_keep
  exact FO2.w (FO2.w (FO2.w (FO2.w10 (FO2.w10 (FO2.w10 (FO2.w10 h kk kn) kk kn) kk kn) kk kn) kE (by decide) rfl) kE (by decide) rfl) kE (by decide) rfl
theorem f2_mark {S : MM} {b p c e fc ff : Nat} {I0 : Mm} (hL : LY S b) (hc : c < 8) (he : e < 2) : ∀ r i (I : Mm), FO2 S I0 I → FO2 S I0 (g_X3_markOvertaken_2 (sR S) b p c e fc ff r i I) := by
  intro r
  induction r with
  | zero => intro i I h; exact h
  | succ r ih =>
    intro i I h
    rw [g_X3_markOvertaken_2]
    by_cases c1 : sR S (fad (sR S) b c e) ((ff + i) % 200) = none
    · rw [if_pos c1]; exact ih _ _ h
    · have k3 := ly_nn (j := (ff + i) % 200) hL.1 (ly_fa hL hc he).2.1 rfl c1
      rw [if_neg c1]
      split
      · exact ih _ _ h
      · exact ih _ _ (FO2.w h k3 (by decide) rfl)
theorem f2_rec43 {S : MM} {b p q e : Nat} {I0 : Mm} (hL : LY S b) (he : e < 2) : ∀ r i (I : Mm), i + r = 8 → FO2 S I0 I → FO2 S I0 (g_X7_receive_43 (sR S) b p q e r i I) := by
  intro r
  induction r with
  | zero => intro i I _ h; exact h
  | succ r ih =>
    intro i I hi h
    rw [g_X7_receive_43]
    exact ih _ _ (by omega) (f2_mark hL (by omega) he _ _ _ h)
theorem f2_receive {S : MM} {b p q e : Nat} {I0 I : Mm} (hL : LY S b) (he : e < 2) (h : FO2 S I0 I) : FO2 S I0 (f_X7_receive I (sR S) b p q e) := by
  have hk := f2_keep (p := p) (v := I ((sR S q 0).getD 0) 3) (w := I b 2) hL (show 1 - e < 2 by omega) h
  unfold f_X7_receive g_X7_receive_40
  dsimp only
  split
  · exact f2_rec43 hL he 8 0 _ rfl hk
  · exact f2_rec43 hL he 8 0 _ rfl (FO2.w hk hL.2 (by decide) rfl)
theorem f2_bring3 {S : MM} {b p c e : Nat} {I0 : Mm} (hL : LY S b) (hc : c < 8) (he : e < 2) : ∀ r i (I : Mm), FO2 S I0 I → FO2 S I0 (g_X7_bringFrames_3 (sR S) b p c e r i I) := by
  intro r
  induction r with
  | zero => intro i I h; exact h
  | succ r ih =>
    intro i I h
    have ht := f2_take (v := I b 2) hL hc he h
    rw [g_X7_bringFrames_3]
    dsimp only
    split
    · exact ht
    · split
      · exact ih _ _ (FO2.w ht hL.2 (by decide) rfl)
      · exact ih _ _ (f2_receive hL he ht)
theorem f2_takeN {S : MM} {b c e : Nat} {I0 I : Mm} {v : Int32} (hL : LY S b) (hc : c < 8) (he : e < 2) (h : FO2 S I0 I) : FO2 S I0 (f_X3_takeDueNote I (sR S) b c e v).1 := by
  have k := (ly_N hL hc he).2.1
  unfold f_X3_takeDueNote
  repeat' split
  all_goals first | exact h | exact FO2.w (FO2.w h k (by decide) rfl) k (by decide) rfl
theorem f2_notes {S : MM} {b p c e : Nat} {I0 : Mm} (hL : LY S b) (kp : sK S p = 6) (hc : c < 8) (he : e < 2) : ∀ r i (I : Mm), FO2 S I0 I → FO2 S I0 (g_X7_bringNotes_2 (sR S) b p c e r i I) := by
  have kq : sK S ((sR S p 1).getD 0) = 7 := (ly_f hL.1 kp (show rf 6 1 = some (7, 0) from rfl)).2.1
  intro r
  induction r with
  | zero => intro i I h; exact h
  | succ r ih =>
    intro i I h
    have ht := f2_takeN (v := I b 2) hL hc he h
    rw [g_X7_bringNotes_2]
    dsimp only
    split
    · exact ht
    · refine ih _ _ (fun z hz => ?_)
      rw [n_X5_hear (f2_ne hz kq (by decide) rfl) (f2_ne hz kp (by decide) rfl)]
      exact ht z hz
theorem f2_cable {S : MM} {b c : Nat} {I0 : Mm} (hL : LY S b) (hc : c < 8) (pl : plg (sR S) b c) : ∀ r i (I : Mm), i + r = 2 → FO2 S I0 I → FO2 S I0 (g_X7_bringAll_31 (sR S) b r i c I) := by
  intro r
  induction r with
  | zero => intro i I _ h; exact h
  | succ r ih =>
    intro i I hi h
    have kp : sK S ((sR S (ppd (sR S) b c) (1 - i)).getD 0) = 6 := ly_nn hL.1 (ly_pp hL hc).2.1 rfl (plg_i pl (by omega))
    rw [g_X7_bringAll_31]
    exact ih _ _ (by omega) (f2_bring3 hL hc (by omega) 200 0 _ (f2_notes hL kp hc (by omega) 8 0 _ h))
theorem f2_bringAll {S : MM} {b : Nat} {I0 : Mm} (hL : LY S b) : ∀ r i (I : Mm), i + r = 8 → FO2 S I0 I → FO2 S I0 (g_X7_bringAll_2 (sR S) b r i I) := by
  intro r
  induction r with
  | zero => intro i I _ h; exact h
  | succ r ih =>
    intro i I hi h
    rw [bc_s]
    refine ih _ _ (by omega) ?_
    unfold bcE
    split
    · exact h
    · split
      · exact f2_cable hL (by omega) (by assumption) 2 0 I rfl h
      · exact h
theorem f2_tellFrom {S : MM} {b e x : Nat} {I0 I : Mm} (hL : LY S b) (he : e < 2) (hx : x < 8) (h : FO2 S I0 I) : FO2 S I0 (f_X7_tellFrom I (sR S) b e x).1 := by
  have kp := (ly_P hL he hx).2.1
  have kl := (ly_L hL he hx).2.1
  have rm : FO2 S I0 (f_X5_rememberTelling I (Pt (sR S) b e x) (Ow (sR S) b e x) (La (sR S) b e x) (I b 2)) := fun z hz => by
    rw [n_X5_rememberTelling (f2_ne hz kl (by decide) rfl) (f2_ne hz kp (by decide) rfl)]
    exact h z hz
  unfold f_X7_tellFrom
  by_cases cb : cbl (I (Pt (sR S) b e x) 2)
  · have hc := (cbl_e cb).2
    rw [if_pos cb]
    dsimp only
    generalize (I (Pt (sR S) b e x) 2).toNatClampNeg = c at hc ⊢
    split
    · intro z hz
      dsimp only
      rw [an_k (fun s hs => ⟨f2_ne hz (ly_TO hL hc he hs).2.1 (by decide) rfl, f2_ne hz (ly_TP hL hc he hs).2.1 (by decide) rfl, f2_ne hz (ly_T hL hc he hs).2.1 (by decide) rfl⟩) (f2_ne hz (ly_N hL hc he).2.1 (by decide) rfl)]
      exact rm z hz
    · exact FO2.w rm (ly_N hL hc he).2.1 (by decide) rfl
  · rw [if_neg cb]; exact h
theorem f2_tellAll {S : MM} {b : Nat} {I : Mm} (hL : LY S b) : FO2 S I (f_X7_tellAll I (sR S) b).1 := by
  rw [fd_tell]
  have q : ∀ r i (I' : Mm), i + r = 16 → FO2 S I I' → FO2 S I (fd (fun x => teE (sR S) b (x / 8) (x % 8)) r i I') := by
    intro r
    induction r with
    | zero => intro i I' _ h; exact h
    | succ r ih =>
      intro i I' hi h
      refine ih (i + 1) _ (by omega) ?_
      show FO2 S I (teE (sR S) b (i / 8) (i % 8) I')
      unfold teE
      split
      · exact h
      · exact f2_tellFrom hL (by omega) (by omega) h
  exact q 16 0 I rfl FO2.rf
theorem f2_age {S : MM} {b : Nat} {I0 I : Mm} (hL : LY S b) (h : FO2 S I0 I) : FO2 S I0 (f_X7_ageAll I (sR S) b) := by
  rw [fd_age]
  exact fd_keep (N := 16) (f := fun x I => f_X5_age I (px (sR S) b x) (qx (sR S) b x)) (P := fun I' => FO2 S I0 I') (fun i I' hi p z hz => by
    show f_X5_age I' (px (sR S) b i) (qx (sR S) b i) z = I0 z
    rw [n_X5_age (f2_ne hz (k_px hL hi) (by decide) rfl) (f2_ne hz (k_qx hL hi) (by decide) rfl)]
    exact p z hz) 16 0 I rfl h
theorem f2_step {S : MM} {b : Nat} {I0 I : Mm} (hL : LY S b) (h : FO2 S I0 I) : FO2 S I0 (f_X7_stepAll I (sR S) b) := by
  rw [fd_step]
  refine fd_keep (N := 16) (f := fun x => stE (sR S) b (x / 8) (x % 8)) (P := fun I' => FO2 S I0 I') (fun i I' hi p => ?_) 16 0 I rfl h
  show FO2 S I0 (stE (sR S) b (i / 8) (i % 8) I')
  unfold stE
  split
  · exact p
  · intro z hz
    have np : z ≠ px (sR S) b i := f2_ne hz (k_px hL hi) (by decide) rfl
    show f_X1_moveTo (f_X5_step I' (px (sR S) b i) (ox (sR S) b i) (qx (sR S) b i)).1 (En (sR S) b (i / 8)) (px (sR S) b i) (ox (sR S) b i) (f_X5_step I' (px (sR S) b i) (ox (sR S) b i) (qx (sR S) b i)).2 z = _
    rw [n_X1_moveTo np (f2_ne hz (k_ox hL hi) (by decide) rfl) (f2_ne hz (ly_E hL (show i / 8 < 2 by omega)).2.1 (by decide) rfl), n_X5_step np]
    exact p z hz
theorem f2_fb63 {S : MM} {b e : Nat} {I0 : Mm} {v : Int32} (hL : LY S b) (he : e < 2) : ∀ r i (I : Mm) (w : Int32), i + r = 8 → FO2 S I0 I → FO2 S I0 (g_X1_formBundles_63 (sR S) b e v r i I w) := by
  intro r
  induction r with
  | zero => intro i I w _ h; exact h
  | succ r ih =>
    intro i I w hi h
    have kp := (ly_P hL he (show i < 8 by omega)).2.1
    rw [g_X1_formBundles_63]
    split
    · exact ih _ _ _ (by omega) (h.w kp (by decide) rfl)
    · split
      · exact ih _ _ _ (by omega) (h.w kp (by decide) rfl)
      · exact ih _ _ _ (by omega) (h.w kp (by decide) rfl)
theorem f2_fb2 {S : MM} {b e : Nat} {I0 : Mm} {v : Int32} (hL : LY S b) (he : e < 2) : ∀ r i (I : Mm) (w : Int32), i + r = 8 → FO2 S I0 I → FO2 S I0 (g_X1_formBundles_2 (sR S) b e v r i I w) := by
  intro r
  induction r with
  | zero => intro i I w _ h; exact f2_fb63 hL he 8 0 I w rfl h
  | succ r ih =>
    intro i I w hi h
    have kp := (ly_P hL he (show i < 8 by omega)).2.1
    have kE := (ly_E hL he).2.1
    rw [g_X1_formBundles_2]
    split
    · split
      · exact ih _ _ _ (by omega) (h.w kp (by decide) rfl)
      · exact ih _ _ _ (by omega) ((h.w kE (by decide) rfl).w kp (by decide) rfl)
    · exact ih _ _ _ (by omega) (h.w kp (by decide) rfl)
theorem f2_g15 {S : MM} {b : Nat} {I0 : Mm} (hL : LY S b) : ∀ r i (I : Mm) (w : Int32), i + r = 2 → FO2 S I0 I → FO2 S I0 (g_X7_runTick_15 (sR S) b r i I w) := by
  intro r
  induction r with
  | zero =>
    intro i I w hi h
    have : i = 2 := by omega
    subst this
    intro z hz
    rw [(g15_0 (R := sR S) (b := b) (I := I) (w := w)).1 z (f2_ne hz hL.2 (by decide) rfl)]
    exact ((f2_step hL h).tr (f2_tellAll hL)) z hz
  | succ r ih =>
    intro i I w hi h
    rw [g_X7_runTick_15]
    split
    · exact ih _ _ _ (by omega) (f2_fb2 hL (by omega) 8 0 _ _ rfl h)
    · exact ih _ _ _ (by omega) (f2_fb2 hL (by omega) 8 0 _ _ rfl h)
theorem f2_run {S : MM} {b : Nat} {I0 I : Mm} (hL : LY S b) (h : FO2 S I0 I) : FO2 S I0 (f_X7_runTick I (sR S) b) := by
  unfold f_X7_runTick
  exact f2_g15 hL 2 0 _ _ rfl (f2_age hL (f2_bringAll hL 8 0 I rfl h))
theorem f2_itC {S : MM} {b : Nat} {I0 : Mm} (hL : LY S b) : ∀ n (I : Mm), FO2 S I0 I → FO2 S I0 (itC (sR S) b n I) := by
  intro n
  induction n with
  | zero => intro I h; exact h
  | succ n ih => intro I h; exact ih _ (f2_run hL h)
theorem cb_itC {S : MM} {b c n : Nat} {I : Mm} (hL : LY S b) (hc : c < 8) : itC (sR S) b n I (Cb (sR S) b c) = I (Cb (sR S) b c) := f2_itC hL n I FO2.rf _ (by rw [wk_17 (ly_C hL hc).2.1 (by decide)]; rfl)
