/-! SIMULATION 41: what a tick of the class leaves; tick as a pair of halves -/
theorem fo_age {S : MM} {b : Nat} {I0 I : Mm} (hL : LY S b) (h : FO S I0 I) : FO S I0 (f_X7_ageAll I (sR S) b) := by
  rw [fd_age]
  exact fd_keep (N := 16) (f := fun x I => f_X5_age I (px (sR S) b x) (qx (sR S) b x)) (P := fun I' => FO S I0 I') (fun i I' hi p z hz => by
    show f_X5_age I' (px (sR S) b i) (qx (sR S) b i) z = I0 z
    rw [n_X5_age (fo_ne hz (k_px hL hi) (by decide) rfl) (fo_ne hz (k_qx hL hi) (by decide) rfl)]
    exact p z hz) 16 0 I rfl h
theorem fo_step {S : MM} {b : Nat} {I0 I : Mm} (hL : LY S b) (h : FO S I0 I) : FO S I0 (f_X7_stepAll I (sR S) b) := by
  rw [fd_step]
  refine fd_keep (N := 16) (f := fun x => stE (sR S) b (x / 8) (x % 8)) (P := fun I' => FO S I0 I') (fun i I' hi p => ?_) 16 0 I rfl h
  show FO S I0 (stE (sR S) b (i / 8) (i % 8) I')
  unfold stE
  split
  · exact p
  · intro z hz
    have np : z ≠ px (sR S) b i := fo_ne hz (k_px hL hi) (by decide) rfl
    show f_X1_moveTo (f_X5_step I' (px (sR S) b i) (ox (sR S) b i) (qx (sR S) b i)).1 (En (sR S) b (i / 8)) (px (sR S) b i) (ox (sR S) b i) (f_X5_step I' (px (sR S) b i) (ox (sR S) b i) (qx (sR S) b i)).2 z = _
    rw [n_X1_moveTo np (fo_ne hz (k_ox hL hi) (by decide) rfl) (fo_ne hz (ly_E hL (show i / 8 < 2 by omega)).2.1 (by decide) rfl), n_X5_step np]
    exact p z hz
theorem fo_fb63 {S : MM} {b e : Nat} {I0 : Mm} {v : Int32} (hL : LY S b) (he : e < 2) : ∀ r i (I : Mm) (w : Int32), i + r = 8 → FO S I0 I → FO S I0 (g_X1_formBundles_63 (sR S) b e v r i I w) := by
  intro r
  induction r with
  | zero => intro i I w _ h; exact h
  | succ r ih =>
    intro i I w hi h
    have kp := (ly_P hL he (show i < 8 by omega)).2.1
    rw [g_X1_formBundles_63]
    split
    · exact ih _ _ _ (by omega) (h.w kp (by decide) rfl)
    · split
      · exact ih _ _ _ (by omega) (h.w kp (by decide) rfl)
      · exact ih _ _ _ (by omega) (h.w kp (by decide) rfl)
theorem fo_fb2 {S : MM} {b e : Nat} {I0 : Mm} {v : Int32} (hL : LY S b) (he : e < 2) : ∀ r i (I : Mm) (w : Int32), i + r = 8 → FO S I0 I → FO S I0 (g_X1_formBundles_2 (sR S) b e v r i I w) := by
  intro r
  induction r with
  | zero => intro i I w _ h; exact fo_fb63 hL he 8 0 I w rfl h
  | succ r ih =>
    intro i I w hi h
    have kp := (ly_P hL he (show i < 8 by omega)).2.1
    have kE := (ly_E hL he).2.1
    rw [g_X1_formBundles_2]
    split
    · split
      · exact ih _ _ _ (by omega) (h.w kp (by decide) rfl)
      · exact ih _ _ _ (by omega) ((h.w kE (by decide) rfl).w kp (by decide) rfl)
    · exact ih _ _ _ (by omega) (h.w kp (by decide) rfl)
theorem fo_g15 {S : MM} {b : Nat} {I0 : Mm} (hL : LY S b) : ∀ r i (I : Mm) (w : Int32), i + r = 2 → FO S I0 I → FO S I0 (g_X7_runTick_15 (sR S) b r i I w) := by
  intro r
  induction r with
  | zero =>
    intro i I w hi h
    have : i = 2 := by omega
    subst this
    intro z hz
    rw [(g15_0 (R := sR S) (b := b) (I := I) (w := w)).1 z (fo_ne hz hL.2 (by decide) rfl)]
    exact ((fo_step hL h).tr (fo_tellAll hL)) z hz
  | succ r ih =>
    intro i I w hi h
    rw [g_X7_runTick_15]
    split
    · exact ih _ _ _ (by omega) (fo_fb2 hL (by omega) 8 0 _ _ rfl h)
    · exact ih _ _ _ (by omega) (fo_fb2 hL (by omega) 8 0 _ _ rfl h)
theorem fo_run {S : MM} {b : Nat} {I0 I : Mm} (hL : LY S b) (h : FO S I0 I) : FO S I0 (f_X7_runTick I (sR S) b) := by
  unfold f_X7_runTick
  exact fo_g15 hL 2 0 _ _ rfl (fo_age hL (fo_bringAll hL 8 0 I rfl h))
theorem fo_itC {S : MM} {b : Nat} {I0 : Mm} (hL : LY S b) : ∀ n (I : Mm), FO S I0 I → FO S I0 (itC (sR S) b n I) := by
  intro n
  induction n with
  | zero => intro I h; exact h
  | succ n ih => intro I h; exact ih _ (fo_run hL h)
def MDt (S S1 : MM) (x : Nat) (v : Int32) : Prop := sR S1 = sR S ∧ ((sI S1 = sI S ∧ TB v) ∨ ∃ k, k ≤ 1000 ∧ v = nI k ∧ ¬ TB v ∧ sI S1 = itC (sR S) x k (sI S) ∧ ∀ j, j ≤ k → IR (wI S (itC (sR S) x j (sI S))))
theorem k_tick {Q : Option Value → MM → Prop} {S : MM} {x m out i : Nat} {A : Nat → Nat} {v : Int32} (hG : GN S x m out A i) (K : ∀ k S1, GH S S1 x m out A → MDt S S1 x v → Q (some (.int k)) S1) : wL_tick [.ref x, .int v, .ref out] S Q := by
  have hL := ly_of hG
  refine Exists.intro 3 (And.intro hL.2 (And.intro ⟨by decide, by decide⟩ (c_tick hL hG.2.1 (fun tb q => ?_) (fun k hk ev nb ir r => ?_))))
  · rw [hd1_1]; exact K _ S (GH_0 hG) ⟨rfl, Or.inl ⟨rfl, tb⟩⟩
  · have g : GH S (wI S (itC (sR S) x k (sI S))) x m out A := GH_w hG (ir k (Nat.le_refl k)) (fo_itC hL k _ FO.rf)
    exact And.intro hG.2.2.2.1 (And.intro (by show vp_in 0 (sN S out); rw [hG.2.2.2.2.1]; exact in_0 (by decide)) (K 0 (pJ (wI S (itC (sR S) x k (sI S))) out 0 _) (GH_p g) ⟨rfl, Or.inr ⟨k, hk, ev, nb, rfl, ir⟩⟩))
theorem r_tick {Q : Option Value → MM → Prop} {S S1 : MM} {x m out i : Nat} {A : Nat → Nat} {v : Int32} (hi : i < 3000) (hG : GN S x m out A i) (hh : GH S S1 x m out A) (md : MDt S S1 x v) (K : ∀ k S2, GN S2 x m out A (i + 1) → Q (some (.int k)) S2) : wX8_tick_ [.ref m, .int v] S1 Q := by
  have hM1 := hh.2.2.2.2.2.1
  have hL := ly_of hG
  obtain ⟨er, md⟩ := md
  obtain ⟨g1, g2, g3, g4, g5, g6, g7, nt, F, cl, bi, n0, fr, hF, hc⟩ := id hG
  have bi1 := BI_h hh.2.2.2.2.2.2.2.1 hh.2.2.2.2.2.2.2.2 bi
  have hL1 : LY S1 x := ⟨hh.1, hh.2.2.1⟩
  refine c_Mtick (S := S1) (I := sI S) (cl := cl) (nt := nt) (F := F) hL1 hh.2.2.2.2.2.2.1 hM1 bi1.1.1 (fun tb r S2 e im => ?_) (by omega) (by omega) (fun ntb => ?_)
  · rcases md with ⟨ei, _⟩ | ⟨k, _, _, nb, _⟩
    · exact K _ S2 (r_same hG hh er (ca_e ei) e im)
    · exact absurd tb nb
  · rcases md with ⟨_, tb⟩ | ⟨k, hk, ev, _, ei, irs⟩
    · exact absurd tb ntb
    · rw [er]
      refine ⟨k, hk, ev, fun j hj c e hc he => irs j hj (Ln (sR S) x c e) 4 1 8 (ly_N hL hc he).2.1 rfl, NR_h hh n0, fun t ht => ?_, bi1, fun r F' nt' nr fr' bi' fz => ?_⟩
      · rw [hh.2.2.2.2.2.2.2.2 30 (by decide)]
        exact fr t ht
      · refine K r _ (FIN (S2 := wI S1 F') hh rfl rfl rfl fz ?_ bi' fr' (by omega) (by omega))
        rw [er, ei]
        exact nr
