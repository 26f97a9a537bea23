/-! SIMULATION 80: meant: what noteChange finds, and that it is what the reference finds -/
def mlim (I : Mm) (R : Nat → Nat → Option Nat) (b : Nat) : Int32 := if I (En R b 1) 2 < I (En R b 0) 2 then I (En R b 1) 2 else I (En R b 0) 2
def mcl (I : Mm) (R : Nat → Nat → Option Nat) (b c : Nat) : Int32 := if f_X0_agrees I R b c = 0 then nI 0 else if mlim I R b ≤ f_X7_countMeantAhead I R b c then nI 0 else nI 1
/-- what meant hangs on is the same -/
def AGm (S : MM) (b : Nat) (I I' : Mm) : Prop := (∀ z, sK S z = 7 → I' z = I z) ∧ (∀ c, c < 8 → I' (Cb (sR S) b c) 3 = I (Cb (sR S) b c) 3) ∧ ∀ e, e < 2 → ∀ k, (k = 1 ∨ k = 2) → I' (En (sR S) b e) k = I (En (sR S) b e) k
theorem AGm.rf {S : MM} {b : Nat} {I : Mm} : AGm S b I I := ⟨fun _ _ => rfl, fun _ _ => rfl, fun _ _ _ _ => rfl⟩
/-- where the own of a plugged cable's port lies -/
def tlo (R : Nat → Nat → Option Nat) (b c e : Nat) : Nat := (R ((R (ppd R b c) e).getD 0) 0).getD 0
theorem k_tlo {S : MM} {b c e : Nat} (hL : LY S b) (hc : c < 8) (he : e < 2) (pl : plg (sR S) b c) : sK S (tlo (sR S) b c e) = 7 := by
  have kp : sK S ((sR S (ppd (sR S) b c) e).getD 0) = 6 := ly_nn hL.1 (ly_pp hL hc).2.1 rfl (plg_i pl he)
  exact (ly_f hL.1 kp (show rf 6 0 = some (7, 0) from rfl)).2.1
theorem agr_eq {I : Mm} {R : Nat → Nat → Option Nat} {b c : Nat} : f_X0_agrees I R b c = if I (Cb R b c) 3 = 0 then nI 0 else if plg R b c then (if f_X6_has I (tlo R b c 0) (nI 4) = 0 then nI 0 else if f_X6_has I (tlo R b c 1) (nI 4) = 0 then nI 0 else if f_X6_has I (tlo R b c 0) (nI 1) = 0 then (if f_X6_has I (tlo R b c 1) (nI 1) = 0 then nI 0 else nI 1) else nI 1) else nI 0 := rfl
theorem agr_plg {I : Mm} {R : Nat → Nat → Option Nat} {b c : Nat} (h : ¬ f_X0_agrees I R b c = 0) : plg R b c := by
  refine Classical.byContradiction (fun n => h ?_)
  rw [agr_eq, if_neg n]
  split <;> rfl
theorem agr_c {S : MM} {b c : Nat} {I I' : Mm} (hL : LY S b) (hc : c < 8) (a : AGm S b I I') : f_X0_agrees I' (sR S) b c = f_X0_agrees I (sR S) b c := by
  rw [agr_eq, agr_eq, a.2.1 c hc]
  by_cases pl : plg (sR S) b c
  · have e0 := a.1 _ (k_tlo hL hc (show 0 < 2 by decide) pl)
    have e1 := a.1 _ (k_tlo hL hc (show 1 < 2 by decide) pl)
    unfold f_X6_has
    rw [e0, e1]
  · rw [if_neg pl, if_neg pl]
theorem grp_eq {I : Mm} {R : Nat → Nat → Option Nat} {b c d : Nat} (pc : plg R b c) (pd : plg R b d) : f_X0_isInGroupOf I R b c d = if I (tlo R b c 0) 1 = I (tlo R b d 0) 1 then (if I (tlo R b c 1) 1 = I (tlo R b d 1) 1 then nI 1 else nI 0) else nI 0 := by
  have E : f_X0_isInGroupOf I R b c d = if plg R b c then (if plg R b d then (if I (tlo R b c 0) 1 = I (tlo R b d 0) 1 then (if I (tlo R b c 1) 1 = I (tlo R b d 1) 1 then nI 1 else nI 0) else nI 0) else nI 0) else nI 0 := rfl
  rw [E, if_pos pc, if_pos pd]
def ahQ (I : Mm) (o bo : Nat) : Int32 := if I o 2 = I bo 2 then (if I bo 3 ≤ I o 3 then nI 0 else nI 1) else (if I bo 2 ≤ I o 2 then nI 0 else nI 1)
theorem ah_eq {I : Mm} {p o q b bo bq : Nat} : f_X5_isAheadOf I p o q b bo bq (nI 1) = ahQ I o bo := by
  unfold f_X5_isAheadOf ahQ
  rw [if_neg (by decide), if_neg (by decide)]
  by_cases h : I o 2 = I bo 2
  · rw [if_pos h, if_pos h]
    split <;> rfl
  · rw [if_neg h, if_neg h]
/-- a round of the count -/
theorem cnt_r {I : Mm} {R : Nat → Nat → Option Nat} {b c r i s : Nat} {w : Int32} : g_X7_countMeantAhead_10 R b c (r + 1) i s I w = if f_X0_agrees I R b i = 0 then g_X7_countMeantAhead_10 R b c r (i + 1) s I w else if f_X0_isInGroupOf I R b i c = 0 then g_X7_countMeantAhead_10 R b c r (i + 1) s I w else if ahQ I (tlo R b i s) (tlo R b c s) = 0 then g_X7_countMeantAhead_10 R b c r (i + 1) s I w else g_X7_countMeantAhead_10 R b c r (i + 1) s I (w + 1) := by
  rw [g_X7_countMeantAhead_10, ah_eq]
  rfl
theorem cnt_c {S : MM} {b c s : Nat} {I I' : Mm} (hL : LY S b) (hc : c < 8) (hs : s < 2) (pc : plg (sR S) b c) (a : AGm S b I I') : ∀ (r i : Nat) (w : Int32), i + r = 8 → g_X7_countMeantAhead_10 (sR S) b c r i s I' w = g_X7_countMeantAhead_10 (sR S) b c r i s I w := by
  intro r
  induction r with
  | zero => intro i w _; rfl
  | succ r ih =>
    intro i w hi
    have hi8 : i < 8 := by omega
    rw [cnt_r, cnt_r, agr_c hL hi8 a]
    by_cases h : f_X0_agrees I (sR S) b i = 0
    · rw [if_pos h, if_pos h]; exact ih _ _ (by omega)
    · rw [if_neg h, if_neg h]
      have pi := agr_plg h
      have k0 := a.1 _ (k_tlo hL hi8 (show 0 < 2 by decide) pi)
      have k1 := a.1 _ (k_tlo hL hi8 (show 1 < 2 by decide) pi)
      have ks := a.1 _ (k_tlo hL hi8 hs pi)
      have c0 := a.1 _ (k_tlo hL hc (show 0 < 2 by decide) pc)
      have c1 := a.1 _ (k_tlo hL hc (show 1 < 2 by decide) pc)
      have cs := a.1 _ (k_tlo hL hc hs pc)
      rw [grp_eq pi pc, grp_eq pi pc, k0, k1, c0, c1]
      unfold ahQ
      rw [ks, cs, ih _ _ (by omega), ih _ _ (by omega)]
theorem se_2 {I : Mm} {R : Nat → Nat → Option Nat} {b : Nat} : f_X7_strongerEnd I R b < 2 := by
  unfold f_X7_strongerEnd
  split <;> decide
theorem mlim_c {S : MM} {b : Nat} {I I' : Mm} (a : AGm S b I I') : mlim I' (sR S) b = mlim I (sR S) b := by
  unfold mlim
  rw [a.2.2 0 (by decide) 2 (by decide), a.2.2 1 (by decide) 2 (by decide)]
theorem cma_c {S : MM} {b c : Nat} {I I' : Mm} (hL : LY S b) (hc : c < 8) (a : AGm S b I I') (pc : plg (sR S) b c) : f_X7_countMeantAhead I' (sR S) b c = f_X7_countMeantAhead I (sR S) b c := by
  unfold f_X7_countMeantAhead
  have e : f_X7_strongerEnd I' (sR S) b = f_X7_strongerEnd I (sR S) b := by
    unfold f_X7_strongerEnd
    rw [a.2.2 0 (by decide) 1 (by decide), a.2.2 1 (by decide) 1 (by decide)]
  rw [e]
  exact cnt_c hL hc se_2 pc a 8 0 _ rfl
theorem mcl_c {S : MM} {b c : Nat} {I I' : Mm} (hL : LY S b) (hc : c < 8) (a : AGm S b I I') : mcl I' (sR S) b c = mcl I (sR S) b c := by
  unfold mcl
  rw [agr_c hL hc a, mlim_c a]
  by_cases h : f_X0_agrees I (sR S) b c = 0
  · rw [if_pos h, if_pos h]
  · rw [if_neg h, if_neg h, cma_c hL hc a (agr_plg h)]
theorem AGm.w4 {S : MM} {b c : Nat} {I I' : Mm} {v : Int32} (hL : LY S b) (h : AGm S b I I') (hc : c < 8) : AGm S b I (up2 I' (Cb (sR S) b c) 4 v) := by
  have kC := (ly_C hL hc).2.1
  refine ⟨fun z hz => by rw [up2_row (ne_k hz kC (by decide))]; exact h.1 z hz, fun d hd => ?_, fun e he k hk => by rw [up2_row (ne_k (ly_E hL he).2.1 kC (by decide))]; exact h.2.2 e he k hk⟩
  rw [up2_ne (fun y => absurd y.2 (by decide))]
  exact h.2.1 d hd
theorem AGm.b3 {S : MM} {b : Nat} {I I' : Mm} {v : Int32} (hL : LY S b) (h : AGm S b I I') : AGm S b I (up2 I' b 3 v) := by
  have kb := hL.2
  exact ⟨fun z hz => by rw [up2_row (ne_k hz kb (by decide))]; exact h.1 z hz, fun d hd => by rw [up2_row (ne_k (ly_C hL hd).2.1 kb (by decide))]; exact h.2.1 d hd, fun e he k hk => by rw [up2_row (ne_k (ly_E hL he).2.1 kb (by decide))]; exact h.2.2 e he k hk⟩
theorem nc_loop {S : MM} {b c : Nat} {I0 : Mm} (hL : LY S b) (hO : OC S) (hc : c < 8) : ∀ (r i : Nat) (I : Mm) (w : Int32), i + r = 8 → AGm S b I0 I → w = mlim I0 (sR S) b → AGm S b I0 (g_X7_noteChange_29 (sR S) b r i I w) ∧ g_X7_noteChange_29 (sR S) b r i I w (Cb (sR S) b c) 4 = if c < i then I (Cb (sR S) b c) 4 else mcl I0 (sR S) b c := by
  intro r
  induction r with
  | zero =>
    intro i I w hi a _
    rw [if_pos (by omega)]
    exact ⟨a, rfl⟩
  | succ r ih =>
    intro i I w hi a hw
    have hi8 : i < 8 := by omega
    have fin : ∀ v, v = mcl I0 (sR S) b i → AGm S b I0 (g_X7_noteChange_29 (sR S) b r (i + 1) (up2 I (Cb (sR S) b i) 4 v) w) ∧ g_X7_noteChange_29 (sR S) b r (i + 1) (up2 I (Cb (sR S) b i) 4 v) w (Cb (sR S) b c) 4 = if c < i then I (Cb (sR S) b c) 4 else mcl I0 (sR S) b c := fun v hv => by
      obtain ⟨q1, q2⟩ := ih (i + 1) (up2 I (Cb (sR S) b i) 4 v) w (by omega) (a.w4 hL hi8) hw
      refine ⟨q1, q2.trans ?_⟩
      by_cases h : c = i
      · subst h
        rw [if_pos (by omega), if_neg (by omega), up2_self, hv]
      · have n : Cb (sR S) b c ≠ Cb (sR S) b i := fun y => h (i_C hL hO hc hi8 y)
        rw [up2_row n]
        by_cases h2 : c < i
        · rw [if_pos (by omega), if_pos h2]
        · rw [if_neg (by omega), if_neg h2]
    rw [g_X7_noteChange_29]
    have ea := agr_c hL hi8 a
    by_cases h : f_X0_agrees I (sR S) b i = 0
    · rw [if_pos h]
      refine fin _ ?_
      unfold mcl
      rw [if_pos (ea.symm.trans h)]
    · rw [if_neg h]
      have pi := agr_plg h
      have ec := cma_c hL hi8 a pi
      by_cases h2 : w ≤ f_X7_countMeantAhead I (sR S) b i
      · rw [if_pos h2]
        refine fin _ ?_
        unfold mcl
        rw [if_neg (fun z => h (ea.trans z)), if_pos (by rw [← ec, ← hw]; exact h2)]
      · rw [if_neg h2]
        refine fin _ ?_
        unfold mcl
        rw [if_neg (fun z => h (ea.trans z)), if_neg (by rw [← ec, ← hw]; exact h2)]
/-- behind noteChange every cable's meant is found anew -/
theorem nc_mcl {S : MM} {b c : Nat} {I : Mm} (hL : LY S b) (hO : OC S) (hc : c < 8) : f_X7_noteChange I (sR S) b (Cb (sR S) b c) 4 = mcl (f_X7_noteChange I (sR S) b) (sR S) b c := by
  have a1 : AGm S b I (up2 I b 3 (nI 0)) := AGm.rf.b3 hL
  have a2 : AGm S b (up2 I b 3 (nI 0)) (up2 I b 3 (nI 0)) := AGm.rf
  obtain ⟨q1, q2⟩ := nc_loop (c := c) (I0 := up2 I b 3 (nI 0)) hL hO hc 8 0 (up2 I b 3 (nI 0)) (mlim (up2 I b 3 (nI 0)) (sR S) b) rfl a2 rfl
  have E : f_X7_noteChange I (sR S) b = g_X7_noteChange_29 (sR S) b 8 0 (up2 I b 3 (nI 0)) (mlim (up2 I b 3 (nI 0)) (sR S) b) := rfl
  rw [E, q2, if_neg (by omega)]
  exact (mcl_c hL hc q1).symm
