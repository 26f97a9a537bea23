/-! SIMULATION 97: the pair's own numbers in a tick -/
def fo3 (k : Nat) : Bool := k == 1 || k == 8 || k == 9 || k == 10 || k == 11 || k == 18
def FO3 (S : MM) (I I' : Mm) : Prop := ∀ z, fo3 (wk S z) = true → I' z = I z
theorem f3_ne {S : MM} {z a k : Nat} (hz : fo3 (wk S z) = true) (ha : sK S a = k) (h10 : k ≠ 10) (hf : fo3 k = false) : z ≠ a := fun e => by
  subst e
  rw [wk_17 ha h10, hf] at hz
  cases hz
theorem f3_n10 {S : MM} {z a : Nat} (hz : fo3 (wk S z) = true) (ha : sK S a = 10) (hn : sN S a = 200) : z ≠ a := fun e => by
  subst e
  unfold wk at hz
  rw [if_pos ⟨ha, hn⟩] at hz
  cases hz
theorem FO3.rf {S : MM} {I : Mm} : FO3 S I I := fun _ _ => rfl
theorem FO3.tr {S : MM} {I I1 I2 : Mm} (h : FO3 S I I1) (g : FO3 S I1 I2) : FO3 S I I2 := fun z hz => (g z hz).trans (h z hz)
theorem FO3.w {S : MM} {I I' : Mm} {a j k : Nat} {v : Int32} (h : FO3 S I I') (ha : sK S a = k) (h10 : k ≠ 10) (hf : fo3 k = false) : FO3 S I (up2 I' a j v) := fun z hz => by
  rw [up2_row (f3_ne hz ha h10 hf)]
  exact h z hz
theorem FO3.w10 {S : MM} {I I' : Mm} {a j : Nat} {v : Int32} (h : FO3 S I I') (ha : sK S a = 10) (hn : sN S a = 200) : FO3 S I (up2 I' a j v) := fun z hz => by
  rw [up2_row (f3_n10 hz ha hn)]
  exact h z hz
theorem f3_tellFrom {S : MM} {b e x : Nat} {I0 I : Mm} (hL : LY S b) (he : e < 2) (hx : x < 8) (h : FO3 S I0 I) : FO3 S I0 (f_X7_tellFrom I (sR S) b e x).1 := by
  have kp := (ly_P hL he hx).2.1
  have kl := (ly_L hL he hx).2.1
  have rm : FO3 S I0 (f_X5_rememberTelling I (Pt (sR S) b e x) (Ow (sR S) b e x) (La (sR S) b e x) (I b 2)) := fun z hz => by
    rw [n_X5_rememberTelling (f3_ne hz kl (by decide) rfl) (f3_ne hz kp (by decide) rfl)]
    exact h z hz
  unfold f_X7_tellFrom
  by_cases cb : cbl (I (Pt (sR S) b e x) 2)
  · have hc := (cbl_e cb).2
    rw [if_pos cb]
    try dsimp only
    generalize (I (Pt (sR S) b e x) 2).toNatClampNeg = c at hc ⊢
    split
    · intro z hz
      try dsimp only
      rw [an_k (fun s hs => ⟨f3_ne hz (ly_TO hL hc he hs).2.1 (by decide) rfl, f3_ne hz (ly_TP hL hc he hs).2.1 (by decide) rfl, f3_ne hz (ly_T hL hc he hs).2.1 (by decide) rfl⟩) (f3_ne hz (ly_N hL hc he).2.1 (by decide) rfl)]
      exact rm z hz
    · exact FO3.w rm (ly_N hL hc he).2.1 (by decide) rfl
  · rw [if_neg cb]; exact h
theorem f3_tellAll {S : MM} {b : Nat} {I : Mm} (hL : LY S b) : FO3 S I (f_X7_tellAll I (sR S) b).1 := by
  rw [fd_tell]
  have q : ∀ r i (I' : Mm), i + r = 16 → FO3 S I I' → FO3 S I (fd (fun x => teE (sR S) b (x / 8) (x % 8)) r i I') := by
    intro r
    induction r with
    | zero => intro i I' _ h; exact h
    | succ r ih =>
      intro i I' hi h
      refine ih (i + 1) _ (by omega) ?_
      show FO3 S I (teE (sR S) b (i / 8) (i % 8) I')
      unfold teE
      split
      · exact h
      · exact f3_tellFrom hL (by omega) (by omega) h
  exact q 16 0 I rfl FO3.rf
theorem f3_age {S : MM} {b : Nat} {I0 I : Mm} (hL : LY S b) (h : FO3 S I0 I) : FO3 S I0 (f_X7_ageAll I (sR S) b) := by
  rw [fd_age]
  exact fd_keep (N := 16) (f := fun x I => f_X5_age I (px (sR S) b x) (qx (sR S) b x)) (P := fun I' => FO3 S I0 I') (fun i I' hi p z hz => by
    show f_X5_age I' (px (sR S) b i) (qx (sR S) b i) z = I0 z
    rw [n_X5_age (f3_ne hz (k_px hL hi) (by decide) rfl) (f3_ne hz (k_qx hL hi) (by decide) rfl)]
    exact p z hz) 16 0 I rfl h
theorem f3_step {S : MM} {b : Nat} {I0 I : Mm} (hL : LY S b) (h : FO3 S I0 I) : FO3 S I0 (f_X7_stepAll I (sR S) b) := by
  rw [fd_step]
  refine fd_keep (N := 16) (f := fun x => stE (sR S) b (x / 8) (x % 8)) (P := fun I' => FO3 S I0 I') (fun i I' hi p => ?_) 16 0 I rfl h
  show FO3 S I0 (stE (sR S) b (i / 8) (i % 8) I')
  unfold stE
  split
  · exact p
  · intro z hz
    have np : z ≠ px (sR S) b i := f3_ne hz (k_px hL hi) (by decide) rfl
    show f_X1_moveTo (f_X5_step I' (px (sR S) b i) (ox (sR S) b i) (qx (sR S) b i)).1 (En (sR S) b (i / 8)) (px (sR S) b i) (ox (sR S) b i) (f_X5_step I' (px (sR S) b i) (ox (sR S) b i) (qx (sR S) b i)).2 z = _
    rw [n_X1_moveTo np (f3_ne hz (k_ox hL hi) (by decide) rfl) (f3_ne hz (ly_E hL (show i / 8 < 2 by omega)).2.1 (by decide) rfl), n_X5_step np]
    exact p z hz
theorem f3_fb63 {S : MM} {b e : Nat} {I0 : Mm} {v : Int32} (hL : LY S b) (he : e < 2) : ∀ r i (I : Mm) (w : Int32), i + r = 8 → FO3 S I0 I → FO3 S I0 (g_X1_formBundles_63 (sR S) b e v r i I w) := by
  intro r
  induction r with
  | zero => intro i I w _ h; exact h
  | succ r ih =>
    intro i I w hi h
    have kp := (ly_P hL he (show i < 8 by omega)).2.1
    rw [g_X1_formBundles_63]
    split
    · exact ih _ _ _ (by omega) (h.w kp (by decide) rfl)
    · split
      · exact ih _ _ _ (by omega) (h.w kp (by decide) rfl)
      · exact ih _ _ _ (by omega) (h.w kp (by decide) rfl)
theorem f3_fb2 {S : MM} {b e : Nat} {I0 : Mm} {v : Int32} (hL : LY S b) (he : e < 2) : ∀ r i (I : Mm) (w : Int32), i + r = 8 → FO3 S I0 I → FO3 S I0 (g_X1_formBundles_2 (sR S) b e v r i I w) := by
  intro r
  induction r with
  | zero => intro i I w _ h; exact f3_fb63 hL he 8 0 I w rfl h
  | succ r ih =>
    intro i I w hi h
    have kp := (ly_P hL he (show i < 8 by omega)).2.1
    have kE := (ly_E hL he).2.1
    rw [g_X1_formBundles_2]
    split
    · split
      · exact ih _ _ _ (by omega) (h.w kp (by decide) rfl)
      · exact ih _ _ _ (by omega) ((h.w kE (by decide) rfl).w kp (by decide) rfl)
    · exact ih _ _ _ (by omega) (h.w kp (by decide) rfl)
def fo4 (k : Nat) : Bool := k == 1 || k == 2 || k == 8 || k == 9 || k == 10 || k == 11 || k == 18
def FO4 (S : MM) (I I' : Mm) : Prop := ∀ z, fo4 (wk S z) = true → I' z = I z
theorem f4_ne {S : MM} {z a k : Nat} (hz : fo4 (wk S z) = true) (ha : sK S a = k) (h10 : k ≠ 10) (hf : fo4 k = false) : z ≠ a := fun e => by
  subst e
  rw [wk_17 ha h10, hf] at hz
  cases hz
theorem f4_n10 {S : MM} {z a : Nat} (hz : fo4 (wk S z) = true) (ha : sK S a = 10) (hn : sN S a = 200) : z ≠ a := fun e => by
  subst e
  unfold wk at hz
  rw [if_pos ⟨ha, hn⟩] at hz
  cases hz
theorem FO4.rf {S : MM} {I : Mm} : FO4 S I I := fun _ _ => rfl
theorem FO4.tr {S : MM} {I I1 I2 : Mm} (h : FO4 S I I1) (g : FO4 S I1 I2) : FO4 S I I2 := fun z hz => (g z hz).trans (h z hz)
theorem FO4.w {S : MM} {I I' : Mm} {a j k : Nat} {v : Int32} (h : FO4 S I I') (ha : sK S a = k) (h10 : k ≠ 10) (hf : fo4 k = false) : FO4 S I (up2 I' a j v) := fun z hz => by
  rw [up2_row (f4_ne hz ha h10 hf)]
  exact h z hz
theorem FO4.w10 {S : MM} {I I' : Mm} {a j : Nat} {v : Int32} (h : FO4 S I I') (ha : sK S a = 10) (hn : sN S a = 200) : FO4 S I (up2 I' a j v) := fun z hz => by
  rw [up2_row (f4_n10 hz ha hn)]
  exact h z hz
theorem f4_tellFrom {S : MM} {b e x : Nat} {I0 I : Mm} (hL : LY S b) (he : e < 2) (hx : x < 8) (h : FO4 S I0 I) : FO4 S I0 (f_X7_tellFrom I (sR S) b e x).1 := by
  have kp := (ly_P hL he hx).2.1
  have kl := (ly_L hL he hx).2.1
  have rm : FO4 S I0 (f_X5_rememberTelling I (Pt (sR S) b e x) (Ow (sR S) b e x) (La (sR S) b e x) (I b 2)) := fun z hz => by
    rw [n_X5_rememberTelling (f4_ne hz kl (by decide) rfl) (f4_ne hz kp (by decide) rfl)]
    exact h z hz
  unfold f_X7_tellFrom
  by_cases cb : cbl (I (Pt (sR S) b e x) 2)
  · have hc := (cbl_e cb).2
    rw [if_pos cb]
    try dsimp only
    generalize (I (Pt (sR S) b e x) 2).toNatClampNeg = c at hc ⊢
    split
    · intro z hz
      try dsimp only
      rw [an_k (fun s hs => ⟨f4_ne hz (ly_TO hL hc he hs).2.1 (by decide) rfl, f4_ne hz (ly_TP hL hc he hs).2.1 (by decide) rfl, f4_ne hz (ly_T hL hc he hs).2.1 (by decide) rfl⟩) (f4_ne hz (ly_N hL hc he).2.1 (by decide) rfl)]
      exact rm z hz
    · exact FO4.w rm (ly_N hL hc he).2.1 (by decide) rfl
  · rw [if_neg cb]; exact h
theorem f4_tellAll {S : MM} {b : Nat} {I : Mm} (hL : LY S b) : FO4 S I (f_X7_tellAll I (sR S) b).1 := by
  rw [fd_tell]
  have q : ∀ r i (I' : Mm), i + r = 16 → FO4 S I I' → FO4 S I (fd (fun x => teE (sR S) b (x / 8) (x % 8)) r i I') := by
    intro r
    induction r with
    | zero => intro i I' _ h; exact h
    | succ r ih =>
      intro i I' hi h
      refine ih (i + 1) _ (by omega) ?_
      show FO4 S I (teE (sR S) b (i / 8) (i % 8) I')
      unfold teE
      split
      · exact h
      · exact f4_tellFrom hL (by omega) (by omega) h
  exact q 16 0 I rfl FO4.rf
theorem f3_b {S : MM} {b : Nat} (hL : LY S b) : fo3 (wk S b) = true := by rw [wk_17 hL.2 (by decide)]; rfl
/-- frames and notes that come leave the rest of the pair's numbers, and an end's given and epoch -/
def FBE (S : MM) (b : Nat) (I I' : Mm) : Prop := (∀ j, j ≠ 4 → j ≠ 8 → I' b j = I b j) ∧ ∀ e, e < 2 → ∀ k, (k = 7 ∨ k = 8) → I' (En (sR S) b e) k = I (En (sR S) b e) k
theorem FBE.rf {S : MM} {b : Nat} {I : Mm} : FBE S b I I := ⟨fun _ _ _ => rfl, fun _ _ _ _ => rfl⟩
theorem FBE.tr {S : MM} {b : Nat} {I I1 I2 : Mm} (h : FBE S b I I1) (g : FBE S b I1 I2) : FBE S b I I2 := ⟨fun j a c => (g.1 j a c).trans (h.1 j a c), fun e he k hk => (g.2 e he k hk).trans (h.2 e he k hk)⟩
theorem fbe_ko {S : MM} {b : Nat} {I I' : Mm} (hL : LY S b) (h : KO S b I I') : FBE S b I I' := ⟨fun j a c => h b j (fun y => by rw [hL.2] at y; exact absurd y.1 (by decide)) (fun y => by rcases y.2 with z | z; exact c z; exact a z), fun e he k _ => KO_d hL h (ly_E hL he).2.1 (Or.inl (by decide)) (Or.inl (by decide))⟩
theorem fbe_keep {S : MM} {b p e : Nat} {I : Mm} {v w : Int32} (hL : LY S b) (hO : OC S) (he : e < 2) : FBE S b I (f_X1_keep I (sR S) b p e v w) := by
  refine ⟨fun j _ _ => by rw [keep_row (ne_k hL.2 (ly_ka hL he).2.1 (by decide)) (ne_k hL.2 (ly_E hL he).2.1 (by decide))], fun e' he' k hk => ?_⟩
  have nK : En (sR S) b e' ≠ kad (sR S) b e := ne_k (ly_E hL he').2.1 (ly_ka hL he).2.1 (by decide)
  unfold f_X1_keep
  try dsimp only
  rw [up2_ne (fun y => by have := y.2; omega), up2_ne (fun y => by have := y.2; omega), up2_ne (fun y => by have := y.2; omega), up2_row nK, up2_row nK, up2_row nK, up2_row nK]
theorem fbe_bf {S : MM} {b p c e : Nat} (hL : LY S b) (hO : OC S) (hc : c < 8) (he : e < 2) : ∀ r i (I : Mm), FBE S b I (g_X7_bringFrames_3 (sR S) b p c e r i I) := by
  have tk : ∀ (I : Mm) (v : Int32), FBE S b I (f_X3_takeDueFrame I (sR S) b c e v).1 := fun I v => by
    have k := (ly_N hL hc he).2.1
    have st : ∀ u w : Int32, FBE S b I (up2 (up2 I (Ln (sR S) b c e) 4 u) (Ln (sR S) b c e) 5 w) := fun u w => ⟨fun j _ _ => by rw [up2_row (ne_k hL.2 k (by decide)), up2_row (ne_k hL.2 k (by decide))], fun e' he' k' _ => by rw [up2_row (ne_k (ly_E hL he').2.1 k (by decide)), up2_row (ne_k (ly_E hL he').2.1 k (by decide))]⟩
    unfold f_X3_takeDueFrame
    repeat' split
    all_goals first | exact FBE.rf | exact st _ _
  have dr : ∀ (K : Mm) (v : Int32), FBE S b K (up2 K b 4 v) := fun K v => ⟨fun j a c => up2_jn a, fun e' he' k' _ => congrFun (up2_row (ne_k (ly_E hL he').2.1 hL.2 (by decide))) k'⟩
  intro r
  induction r with
  | zero => intro i I; exact FBE.rf
  | succ r ih =>
    intro i I
    rw [g_X7_bringFrames_3]
    try dsimp only
    split
    · exact tk I _
    · split
      · exact (tk I _).tr ((dr _ _).tr (ih _ _))
      · exact (tk I _).tr (((fbe_keep hL hO (show 1 - e < 2 by omega)).tr (fbe_ko hL (ko_receive hL he))).tr (ih _ _))
theorem fbe_31 {S : MM} {b c : Nat} (hL : LY S b) (hO : OC S) (hc : c < 8) (pl : plg (sR S) b c) : ∀ r i (I : Mm), i + r = 2 → FBE S b I (g_X7_bringAll_31 (sR S) b r i c I) := by
  intro r
  induction r with
  | zero => intro i I _; exact FBE.rf
  | succ r ih =>
    intro i I hi
    have kp : sK S ((sR S (ppd (sR S) b c) (1 - i)).getD 0) = 6 := ly_nn hL.1 (ly_pp hL hc).2.1 rfl (plg_i pl (by omega))
    have kq : sK S ((sR S ((sR S (ppd (sR S) b c) (1 - i)).getD 0) 1).getD 0) = 7 := (ly_f hL.1 kp (show rf 6 1 = some (7, 0) from rfl)).2.1
    have n1 := nf_notes (e := i) (I0 := I) hL kp hc (show i < 2 by omega) 8 0 I NFm.rf
    have nf : FBE S b I (f_X7_bringNotes I (sR S) b ((sR S (ppd (sR S) b c) (1 - i)).getD 0) c i) := ⟨fun j _ _ => congrFun (n1.1 b (by rw [hL.2]; decide) (ne_k hL.2 kp (by decide)) (ne_k hL.2 kq (by decide))) j, fun e' he' k _ => congrFun (n1.1 _ (by rw [(ly_E hL he').2.1]; decide) (ne_k (ly_E hL he').2.1 kp (by decide)) (ne_k (ly_E hL he').2.1 kq (by decide))) k⟩
    rw [g_X7_bringAll_31]
    exact nf.tr ((fbe_bf hL hO hc (show i < 2 by omega) 200 0 _).tr (ih _ _ (by omega)))
theorem fbe_all {S : MM} {b : Nat} (hL : LY S b) (hO : OC S) : ∀ r i (I : Mm), i + r = 8 → FBE S b I (g_X7_bringAll_2 (sR S) b r i I) := by
  intro r
  induction r with
  | zero => intro i I _; exact FBE.rf
  | succ r ih =>
    intro i I hi
    rw [bc_s]
    refine FBE.tr ?_ (ih _ _ (by omega))
    unfold bcE
    split
    · exact FBE.rf
    · split
      · rename_i pl
        exact fbe_31 hL hO (by omega) pl 2 0 I rfl
      · exact FBE.rf
theorem isS_b {S : MM} {b k : Nat} {I : Mm} {v : Int32} (hL : LY S b) : f_X7_isSettled (up2 I b k v) (sR S) b = f_X7_isSettled I (sR S) b := by
  have q : ∀ r i, i + r = 8 → g_X7_isSettled_2 (sR S) b r i (up2 I b k v) = g_X7_isSettled_2 (sR S) b r i I := by
    intro r
    induction r with
    | zero => intro i _; rfl
    | succ r ih =>
      intro i hi
      rw [g_X7_isSettled_2, g_X7_isSettled_2, ih (i + 1) (by omega)]
      have hi8 : i < 8 := by omega
      have eC : up2 I b k v (Cb (sR S) b i) = I (Cb (sR S) b i) := up2_row (ne_k (ly_C hL hi8).2.1 hL.2 (by decide))
      have E : f_X0_isSettled (up2 I b k v) (sR S) b i = f_X0_isSettled I (sR S) b i := by
        unfold f_X0_isSettled
        by_cases pl : plg (sR S) b i
        · have kp : ∀ j, j < 2 → up2 I b k v ((sR S (ppd (sR S) b i) j).getD 0) = I ((sR S (ppd (sR S) b i) j).getD 0) := fun j hj => up2_row (ne_k (ly_nn hL.1 (ly_pp hL hi8).2.1 rfl (plg_i pl hj)) hL.2 (by decide))
          rw [if_pos pl, if_pos pl]
          unfold g_X0_isSettled_25 g_X0_isSettled_50
          rw [kp 0 (by decide), kp 1 (by decide), eC]
        · rw [if_neg pl, if_neg pl]
      rw [E]
  exact q 8 0 rfl
/-- the end of the class's tick -/
theorem fin_c {S : MM} {b : Nat} {I G : Mm} {w1 : Int32} (hL : LY S b) (hG : G = g_X7_runTick_15 (sR S) b 0 2 I w1) : G b 3 = (if (f_X7_tellAll (f_X7_stepAll I (sR S) b) (sR S) b).2 = 0 then (f_X7_tellAll (f_X7_stepAll I (sR S) b) (sR S) b).1 b 3 + nI 1 else nI 0) ∧ G b 6 = (f_X7_tellAll (f_X7_stepAll I (sR S) b) (sR S) b).1 b 6 + nI (if ¬ G b 3 < nI 300 ∧ f_X7_isSettled G (sR S) b = 0 then 1 else 0) ∧ ∀ j, j ≠ 2 → j ≠ 3 → j ≠ 6 → G b j = (f_X7_tellAll (f_X7_stepAll I (sR S) b) (sR S) b).1 b j := by
  rw [g_X7_runTick_15] at hG
  dsimp only at hG
  generalize (f_X7_tellAll (f_X7_stepAll I (sR S) b) (sR S) b).2 = w at hG ⊢
  generalize (f_X7_tellAll (f_X7_stepAll I (sR S) b) (sR S) b).1 = I4 at hG ⊢
  have fin : ∀ (I9 : Mm) (u : Int32), I9 b 3 = u → (∀ j, j ≠ 2 → j ≠ 3 → I9 b j = I4 b j) → G = (if I9 b 3 < nI 300 then I9 else if f_X7_isSettled I9 (sR S) b = 0 then up2 I9 b 6 (I9 b 6 + nI 1) else I9) → G b 3 = u ∧ G b 6 = I4 b 6 + nI (if ¬ G b 3 < nI 300 ∧ f_X7_isSettled G (sR S) b = 0 then 1 else 0) ∧ ∀ j, j ≠ 2 → j ≠ 3 → j ≠ 6 → G b j = I4 b j := fun I9 u e3 eo e => by
    by_cases h : I9 b 3 < nI 300
    · rw [if_pos h] at e
      subst e
      exact ⟨e3, by rw [if_neg (fun z => z.1 h), i_add0, eo 6 (by decide) (by decide)], fun j a c _ => eo j a c⟩
    · rw [if_neg h] at e
      by_cases s : f_X7_isSettled I9 (sR S) b = 0
      · rw [if_pos s] at e
        subst e
        have b3 : up2 I9 b 6 (I9 b 6 + nI 1) b 3 = I9 b 3 := up2_jn (by decide)
        refine ⟨by rw [b3]; exact e3, ?_, fun j a c d => by rw [up2_jn d]; exact eo j a c⟩
        rw [b3, isS_b hL, if_pos ⟨h, s⟩, up2_self, eo 6 (by decide) (by decide)]
      · rw [if_neg s] at e
        subst e
        exact ⟨e3, by rw [if_neg (fun z => s z.2), i_add0, eo 6 (by decide) (by decide)], fun j a c _ => eo j a c⟩
  by_cases hw : w = 0
  · rw [if_pos hw] at hG ⊢
    exact fin (up2 (up2 I4 b 2 (I4 b 2 + nI 1)) b 3 (up2 I4 b 2 (I4 b 2 + nI 1) b 3 + nI 1)) _ (by rw [up2_self, up2_jn (by decide)]) (fun j a c => by rw [up2_jn c, up2_jn a]) hG
  · rw [if_neg hw] at hG ⊢
    exact fin (up2 (up2 I4 b 2 (I4 b 2 + nI 1)) b 3 (nI 0)) _ (up2_self _ _ _ _) (fun j a c => by rw [up2_jn c, up2_jn a]) hG
theorem isA_m {m k : Nat} {A : Nat → Nat} {J : Mm} {v : Int32} (hA : AD m A) : f_X8_isAsMeant (up2 J m k v) m A = 0 ↔ f_X8_isAsMeant J m A = 0 := by
  have r : ∀ l, dm l → up2 J m k v (A l) = J (A l) := fun l hl => up2_row (hA.2 l hl)
  have im : ∀ c, f_X8_isMeant (up2 J m k v) m A c = f_X8_isMeant J m A c := fun c => isM_c (fun l hl => r l ((show ∀ l ∈ KMt, dm l by decide) l hl))
  have E : ∀ K : Mm, f_X8_isAsMeant K m A = g_X8_isAsMeant_2 m A 8 0 K := fun K => rfl
  have pa : ∀ c e, f_X8_portAt (up2 J m k v) m A c e = f_X8_portAt J m A c e := fun c e => by
    unfold f_X8_portAt
    rw [r 22 (by decide)]
  rw [E, E, isA_2 8 0 rfl, isA_2 8 0 rfl]
  simp only [im, pa, r 9 (by decide), r 11 (by decide)]
/-- the end of the reference's tick -/
theorem fin_m {m nt nf i : Nat} {A : Nat → Nat} {J G : Mm} {w : Int32} (hA : AD m A) (hG : G = (g_X8_tick_60 m A nt nf 0 i J w).1) : G m 44 = (if J m 50 = 0 then J m 44 + nI 1 else nI 0) ∧ (∃ d, G m 47 = J m 47 + nI d ∧ (d = 1 ∧ (¬ G m 44 < nI 300 ∧ f_X8_isAsMeant G m A = 0) ∨ d = 0 ∧ ¬ (¬ G m 44 < nI 300 ∧ f_X8_isAsMeant G m A = 0))) ∧ ∀ j, j ≠ 43 → j ≠ 44 → j ≠ 47 → G m j = J m j := by
  rw [g_X8_tick_60] at hG
  dsimp only at hG
  have m50 : up2 J m 43 (J m 43 + nI 1) m 50 = J m 50 := mm_j (by decide)
  rw [m50] at hG
  have fin : ∀ (J9 : Mm) (u : Int32), J9 m 44 = u → (∀ j, j ≠ 43 → j ≠ 44 → J9 m j = J m j) → G = (if J9 m 44 < nI 300 then (J9, w) else if f_X8_isAsMeant J9 m A = 0 then (up2 J9 m 47 (J9 m 47 + nI 1), w) else (J9, w)).1 → G m 44 = u ∧ (∃ d, G m 47 = J m 47 + nI d ∧ (d = 1 ∧ (¬ G m 44 < nI 300 ∧ f_X8_isAsMeant G m A = 0) ∨ d = 0 ∧ ¬ (¬ G m 44 < nI 300 ∧ f_X8_isAsMeant G m A = 0))) ∧ ∀ j, j ≠ 43 → j ≠ 44 → j ≠ 47 → G m j = J m j := fun J9 u e4 eo e => by
    by_cases h : J9 m 44 < nI 300
    · rw [if_pos h] at e
      subst e
      exact ⟨e4, ⟨0, by rw [i_add0]; exact eo 47 (by decide) (by decide), Or.inr ⟨rfl, fun z => z.1 h⟩⟩, fun j a c _ => eo j a c⟩
    · rw [if_neg h] at e
      by_cases s : f_X8_isAsMeant J9 m A = 0
      · rw [if_pos s] at e
        subst e
        have b4 : up2 J9 m 47 (J9 m 47 + nI 1) m 44 = J9 m 44 := mm_j (by decide)
        refine ⟨by show up2 J9 m 47 (J9 m 47 + nI 1) m 44 = u; rw [b4]; exact e4, ⟨1, ?_, Or.inl ⟨rfl, ?_, ?_⟩⟩, fun j a c d => ?_⟩
        · show up2 J9 m 47 (J9 m 47 + nI 1) m 47 = _
          rw [up2_self, eo 47 (by decide) (by decide)]
        · show ¬ up2 J9 m 47 (J9 m 47 + nI 1) m 44 < nI 300
          rw [b4]; exact h
        · exact (isA_m hA).mpr s
        · show up2 J9 m 47 (J9 m 47 + nI 1) m j = _
          rw [mm_j d]; exact eo j a c
      · rw [if_neg s] at e
        subst e
        exact ⟨e4, ⟨0, by rw [i_add0]; exact eo 47 (by decide) (by decide), Or.inr ⟨rfl, fun z => s z.2⟩⟩, fun j a c _ => eo j a c⟩
  by_cases hw : J m 50 = 0
  · rw [if_pos hw] at hG ⊢
    exact fin (up2 (up2 J m 43 (J m 43 + nI 1)) m 44 (up2 J m 43 (J m 43 + nI 1) m 44 + nI 1)) _ (by rw [up2_self, mm_j (by decide)]) (fun j a c => by rw [mm_j c, mm_j a]) hG
  · rw [if_neg hw] at hG ⊢
    exact fin (up2 (up2 J m 43 (J m 43 + nI 1)) m 44 (nI 0)) _ (up2_self _ _ _ _) (fun j a c => by rw [mm_j c, mm_j a]) hG
