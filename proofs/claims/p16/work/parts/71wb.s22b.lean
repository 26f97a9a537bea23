/-! SIMULATION 22b: the class's tick leaves the reference's cells -/
def FO (S : MM) (I I' : Mm) : Prop := ∀ z, fo (wk S z) = true → I' z = I z
theorem fo_ne {S : MM} {z a k : Nat} (hz : fo (wk S z) = true) (ha : sK S a = k) (h10 : k ≠ 10) (hf : fo k = false) : z ≠ a := fun e => by
  subst e
  rw [wk_17 ha h10, hf] at hz
  cases hz
theorem fo_n10 {S : MM} {z a : Nat} (hz : fo (wk S z) = true) (ha : sK S a = 10) (hn : sN S a = 200) : z ≠ a := fun e => by
  subst e
  unfold wk at hz
  rw [if_pos ⟨ha, hn⟩] at hz
  cases hz
theorem FO.rf {S : MM} {I : Mm} : FO S I I := fun _ _ => rfl
theorem FO.tr {S : MM} {I I1 I2 : Mm} (h : FO S I I1) (g : FO S I1 I2) : FO S I I2 := fun z hz => (g z hz).trans (h z hz)
theorem FO.w {S : MM} {I I' : Mm} {a j k : Nat} {v : Int32} (h : FO S I I') (ha : sK S a = k) (h10 : k ≠ 10) (hf : fo k = false) : FO S I (up2 I' a j v) := fun z hz => by
  rw [up2_row (fo_ne hz ha h10 hf)]
  exact h z hz
theorem FO.w10 {S : MM} {I I' : Mm} {a j : Nat} {v : Int32} (h : FO S I I') (ha : sK S a = 10) (hn : sN S a = 200) : FO S I (up2 I' a j v) := fun z hz => by
  rw [up2_row (fo_n10 hz ha hn)]
  exact h z hz
theorem fo_take {S : MM} {b c e : Nat} {I0 I : Mm} {v : Int32} (hL : LY S b) (hc : c < 8) (he : e < 2) (h : FO S I0 I) : FO S I0 (f_X3_takeDueFrame I (sR S) b c e v).1 := by
  have k := (ly_N hL hc he).2.1
  unfold f_X3_takeDueFrame
  repeat' split
  all_goals first | exact h | exact FO.w (FO.w h k (by decide) rfl) k (by decide) rfl
theorem fo_keep {S : MM} {b p e : Nat} {I0 I : Mm} {v w : Int32} (hL : LY S b) (he : e < 2) (h : FO S I0 I) : FO S I0 (f_X1_keep I (sR S) b p e v w) := by
  have kE := (ly_E hL he).2.1
  have kk := (ly_ka hL he).2.1
  have kn := (ly_ka hL he).2.2
  unfold f_X1_keep
  exact FO.w (FO.w (FO.w (FO.w10 (FO.w10 (FO.w10 (FO.w10 h kk kn) kk kn) kk kn) kk kn) kE (by decide) rfl) kE (by decide) rfl) kE (by decide) rfl
theorem fo_mark {S : MM} {b p c e fc ff : Nat} {I0 : Mm} (hL : LY S b) (hc : c < 8) (he : e < 2) : ∀ r i (I : Mm), FO S I0 I → FO S I0 (g_X3_markOvertaken_2 (sR S) b p c e fc ff r i I) := by
  intro r
  induction r with
  | zero => intro i I h; exact h
  | succ r ih =>
    intro i I h
    rw [g_X3_markOvertaken_2]
    by_cases c1 : sR S (fad (sR S) b c e) ((ff + i) % 200) = none
    · rw [if_pos c1]; exact ih _ _ h
    · have k3 := ly_nn (j := (ff + i) % 200) hL.1 (ly_fa hL hc he).2.1 rfl c1
      rw [if_neg c1]
      split
      · exact ih _ _ h
      · exact ih _ _ (FO.w h k3 (by decide) rfl)
theorem fo_rec43 {S : MM} {b p q e : Nat} {I0 : Mm} (hL : LY S b) (he : e < 2) : ∀ r i (I : Mm), i + r = 8 → FO S I0 I → FO S I0 (g_X7_receive_43 (sR S) b p q e r i I) := by
  intro r
  induction r with
  | zero => intro i I _ h; exact h
  | succ r ih =>
    intro i I hi h
    rw [g_X7_receive_43]
    exact ih _ _ (by omega) (fo_mark hL (by omega) he _ _ _ h)
theorem fo_receive {S : MM} {b p q e : Nat} {I0 I : Mm} (hL : LY S b) (he : e < 2) (h : FO S I0 I) : FO S I0 (f_X7_receive I (sR S) b p q e) := by
  have hk := fo_keep (p := p) (v := I ((sR S q 0).getD 0) 3) (w := I b 2) hL (show 1 - e < 2 by omega) h
  unfold f_X7_receive g_X7_receive_40
  dsimp only
  split
  · exact fo_rec43 hL he 8 0 _ rfl hk
  · exact fo_rec43 hL he 8 0 _ rfl (FO.w hk hL.2 (by decide) rfl)
theorem fo_bring3 {S : MM} {b p c e : Nat} {I0 : Mm} (hL : LY S b) (hc : c < 8) (he : e < 2) : ∀ r i (I : Mm), FO S I0 I → FO S I0 (g_X7_bringFrames_3 (sR S) b p c e r i I) := by
  intro r
  induction r with
  | zero => intro i I h; exact h
  | succ r ih =>
    intro i I h
    have ht := fo_take (v := I b 2) hL hc he h
    rw [g_X7_bringFrames_3]
    dsimp only
    split
    · exact ht
    · split
      · exact ih _ _ (FO.w ht hL.2 (by decide) rfl)
      · exact ih _ _ (fo_receive hL he ht)
theorem fo_takeN {S : MM} {b c e : Nat} {I0 I : Mm} {v : Int32} (hL : LY S b) (hc : c < 8) (he : e < 2) (h : FO S I0 I) : FO S I0 (f_X3_takeDueNote I (sR S) b c e v).1 := by
  have k := (ly_N hL hc he).2.1
  unfold f_X3_takeDueNote
  repeat' split
  all_goals first | exact h | exact FO.w (FO.w h k (by decide) rfl) k (by decide) rfl
theorem fo_notes {S : MM} {b p c e : Nat} {I0 : Mm} (hL : LY S b) (kp : sK S p = 6) (hc : c < 8) (he : e < 2) : ∀ r i (I : Mm), FO S I0 I → FO S I0 (g_X7_bringNotes_2 (sR S) b p c e r i I) := by
  have kq : sK S ((sR S p 1).getD 0) = 7 := (ly_f hL.1 kp (show rf 6 1 = some (7, 0) from rfl)).2.1
  intro r
  induction r with
  | zero => intro i I h; exact h
  | succ r ih =>
    intro i I h
    have ht := fo_takeN (v := I b 2) hL hc he h
    rw [g_X7_bringNotes_2]
    dsimp only
    split
    · exact ht
    · refine ih _ _ (fun z hz => ?_)
      rw [n_X5_hear (fo_ne hz kq (by decide) rfl) (fo_ne hz kp (by decide) rfl)]
      exact ht z hz
theorem fo_cable {S : MM} {b c : Nat} {I0 : Mm} (hL : LY S b) (hc : c < 8) (pl : plg (sR S) b c) : ∀ r i (I : Mm), i + r = 2 → FO S I0 I → FO S I0 (g_X7_bringAll_31 (sR S) b r i c I) := by
  intro r
  induction r with
  | zero => intro i I _ h; exact h
  | succ r ih =>
    intro i I hi h
    have kp : sK S ((sR S (ppd (sR S) b c) (1 - i)).getD 0) = 6 := ly_nn hL.1 (ly_pp hL hc).2.1 rfl (plg_i pl (by omega))
    rw [g_X7_bringAll_31]
    exact ih _ _ (by omega) (fo_bring3 hL hc (by omega) 200 0 _ (fo_notes hL kp hc (by omega) 8 0 _ h))
theorem fo_bringAll {S : MM} {b : Nat} {I0 : Mm} (hL : LY S b) : ∀ r i (I : Mm), i + r = 8 → FO S I0 I → FO S I0 (g_X7_bringAll_2 (sR S) b r i I) := by
  intro r
  induction r with
  | zero => intro i I _ h; exact h
  | succ r ih =>
    intro i I hi h
    rw [bc_s]
    refine ih _ _ (by omega) ?_
    unfold bcE
    split
    · exact h
    · split
      · exact fo_cable hL (by omega) (by assumption) 2 0 I rfl h
      · exact h
theorem fo_tellFrom {S : MM} {b e x : Nat} {I0 I : Mm} (hL : LY S b) (he : e < 2) (hx : x < 8) (h : FO S I0 I) : FO S I0 (f_X7_tellFrom I (sR S) b e x).1 := by
  have kp := (ly_P hL he hx).2.1
  have kl := (ly_L hL he hx).2.1
  have rm : FO S I0 (f_X5_rememberTelling I (Pt (sR S) b e x) (Ow (sR S) b e x) (La (sR S) b e x) (I b 2)) := fun z hz => by
    rw [n_X5_rememberTelling (fo_ne hz kl (by decide) rfl) (fo_ne hz kp (by decide) rfl)]
    exact h z hz
  unfold f_X7_tellFrom
  by_cases cb : cbl (I (Pt (sR S) b e x) 2)
  · have hc := (cbl_e cb).2
    rw [if_pos cb]
    dsimp only
    generalize (I (Pt (sR S) b e x) 2).toNatClampNeg = c at hc ⊢
    split
    · intro z hz
      dsimp only
      rw [an_k (fun s hs => ⟨fo_ne hz (ly_TO hL hc he hs).2.1 (by decide) rfl, fo_ne hz (ly_TP hL hc he hs).2.1 (by decide) rfl, fo_ne hz (ly_T hL hc he hs).2.1 (by decide) rfl⟩) (fo_ne hz (ly_N hL hc he).2.1 (by decide) rfl)]
      exact rm z hz
    · exact FO.w rm (ly_N hL hc he).2.1 (by decide) rfl
  · rw [if_neg cb]; exact h
theorem fo_tellAll {S : MM} {b : Nat} {I : Mm} (hL : LY S b) : FO S I (f_X7_tellAll I (sR S) b).1 := by
  rw [fd_tell]
  have q : ∀ r i (I' : Mm), i + r = 16 → FO S I I' → FO S I (fd (fun x => teE (sR S) b (x / 8) (x % 8)) r i I') := by
    intro r
    induction r with
    | zero => intro i I' _ h; exact h
    | succ r ih =>
      intro i I' hi h
      refine ih (i + 1) _ (by omega) ?_
      show FO S I (teE (sR S) b (i / 8) (i % 8) I')
      unfold teE
      split
      · exact h
      · exact fo_tellFrom hL (by omega) (by omega) h
  exact q 16 0 I rfl FO.rf
