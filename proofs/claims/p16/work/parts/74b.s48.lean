/-! SIMULATION 48: frames that come, on the class's side -/
def fax (I : Mm) (R : Nat → Nat → Option Nat) (b c e k : Nat) : Nat := (R (fad R b c e) (((I (Ln R b c e) 4).toNatClampNeg + k) % 200)).getD 0
/-- the frames that wait in a lane, first come first -/
def CF (I : Mm) (R : Nat → Nat → Option Nat) (b c e : Nat) : List Nat := (List.range (I (Ln R b c e) 5).toNatClampNeg).map (fax I R b c e)
def FOK (I : Mm) (R : Nat → Nat → Option Nat) (b c e : Nat) : Prop := (∃ f, f < 200 ∧ I (Ln R b c e) 4 = nI f) ∧ (∃ n, n < 201 ∧ I (Ln R b c e) 5 = nI n) ∧ ∀ k, k < (I (Ln R b c e) 5).toNatClampNeg → ¬ R (fad R b c e) (((I (Ln R b c e) 4).toNatClampNeg + k) % 200) = none
theorem CF_e {I I' : Mm} {R : Nat → Nat → Option Nat} {b c e : Nat} (h4 : I' (Ln R b c e) 4 = I (Ln R b c e) 4) (h5 : I' (Ln R b c e) 5 = I (Ln R b c e) 5) : CF I' R b c e = CF I R b c e := by
  unfold CF fax
  rw [h4, h5]
theorem FOK_e {I I' : Mm} {R : Nat → Nat → Option Nat} {b c e : Nat} (h4 : I' (Ln R b c e) 4 = I (Ln R b c e) 4) (h5 : I' (Ln R b c e) 5 = I (Ln R b c e) 5) (h : FOK I R b c e) : FOK I' R b c e := by
  unfold FOK
  rw [h4, h5]
  exact h
def popF (I : Mm) (R : Nat → Nat → Option Nat) (b c e : Nat) : Mm := up2 (up2 I (Ln R b c e) 4 (nI (((I (Ln R b c e) 4).toNatClampNeg + 1) % 200))) (Ln R b c e) 5 (nI ((I (Ln R b c e) 5).toNatClampNeg - 1))
theorem popF_4 {I : Mm} {R : Nat → Nat → Option Nat} {b c e : Nat} : popF I R b c e (Ln R b c e) 4 = nI (((I (Ln R b c e) 4).toNatClampNeg + 1) % 200) := by
  unfold popF
  rw [up2_jn (by decide), up2_self]
theorem popF_5 {I : Mm} {R : Nat → Nat → Option Nat} {b c e : Nat} : popF I R b c e (Ln R b c e) 5 = nI ((I (Ln R b c e) 5).toNatClampNeg - 1) := by
  unfold popF
  rw [up2_self]
theorem popF_o {I : Mm} {R : Nat → Nat → Option Nat} {b c e z : Nat} (h : z ≠ Ln R b c e) : popF I R b c e z = I z := by
  unfold popF
  rw [up2_row h, up2_row h]
theorem CF_cons {I : Mm} {R : Nat → Nat → Option Nat} {b c e n : Nat} (hn : n < 200) (h5 : I (Ln R b c e) 5 = nI (n + 1)) : CF I R b c e = fax I R b c e 0 :: CF (popF I R b c e) R b c e := by
  have e5 : (I (Ln R b c e) 5).toNatClampNeg = n + 1 := by rw [h5, nI_cl (by omega)]
  unfold CF
  rw [popF_5, e5, nI_cl (by omega), List.range_succ_eq_map, List.map_cons, List.map_map]
  refine congrArg _ (List.map_congr_left (fun k _ => ?_))
  show fax I R b c e (k + 1) = _
  unfold fax
  rw [popF_4, nI_cl (by omega)]
  have : (((I (Ln R b c e) 4).toNatClampNeg + 1) % 200 + k) % 200 = ((I (Ln R b c e) 4).toNatClampNeg + (k + 1)) % 200 := by omega
  rw [this]
theorem FOK_pop {I : Mm} {R : Nat → Nat → Option Nat} {b c e n : Nat} (hn : n < 200) (h5 : I (Ln R b c e) 5 = nI (n + 1)) (h : FOK I R b c e) : FOK (popF I R b c e) R b c e := by
  have e5 : (I (Ln R b c e) 5).toNatClampNeg = n + 1 := by rw [h5, nI_cl (by omega)]
  refine ⟨⟨_, Nat.mod_lt _ (by decide), popF_4⟩, ⟨_, by omega, popF_5⟩, fun k hk => ?_⟩
  rw [popF_5, e5, nI_cl (by omega)] at hk
  rw [popF_4, nI_cl (by omega)]
  have : (((I (Ln R b c e) 4).toNatClampNeg + 1) % 200 + k) % 200 = ((I (Ln R b c e) 4).toNatClampNeg + (k + 1)) % 200 := by omega
  rw [this]
  exact h.2.2 (k + 1) (by omega)
/-- the dues of a lane's frames: in order, none past -/
def DF (I : Mm) (L : List Nat) (a B : Nat) : Prop := (∀ z ∈ L, ∃ d, I z 3 = nI d ∧ a ≤ d ∧ d < B) ∧ L.Pairwise (fun z z' => (I z 3).toNatClampNeg ≤ (I z' 3).toNatClampNeg)
theorem DF_e {I I' : Mm} {L : List Nat} {a B : Nat} (h : DF I L a B) (e : ∀ z ∈ L, I' z 3 = I z 3) : DF I' L a B := by
  refine ⟨fun z hz => by rw [e z hz]; exact h.1 z hz, ?_⟩
  exact h.2.imp_of_mem (fun ha hb q => by rw [e _ ha, e _ hb]; exact q)
def EKc (I : Mm) (R : Nat → Nat → Option Nat) (b e : Nat) (s : EK) : Prop := I (En R b e) 3 = nI s.1 ∧ I (En R b e) 6 = nI (s.1 % 50) ∧ I (En R b e) 5 = nI (if 50 < s.1 then 50 else s.1) ∧ ∀ j, j < 200 → I (kad R b e) j = s.2 j
theorem EKc_e {I I' : Mm} {R : Nat → Nat → Option Nat} {b e : Nat} {s : EK} (h : EKc I R b e s) (h1 : ∀ k, (k = 3 ∨ k = 5 ∨ k = 6) → I' (En R b e) k = I (En R b e) k) (h2 : I' (kad R b e) = I (kad R b e)) : EKc I' R b e s := by
  unfold EKc
  rw [h1 3 (by omega), h1 5 (by omega), h1 6 (by omega), h2]
  exact h
theorem i_ka {S : MM} {b e e' : Nat} (hL : LY S b) (hO : OC S) (he : e < 2) (he' : e' < 2) (z : kad (sR S) b e = kad (sR S) b e') : e = e' := by
  have h1 := (ly_ka hL he).1
  have h2 := (ly_ka hL he').1
  rw [← z] at h2
  exact i_E hL hO he he' (oc_i hO (ly_E hL he).2.1 (ly_E hL he').2.1 rfl rfl (Or.inl (by decide)) (Or.inl (by decide)) h1 h2).1
theorem keep_row {S : MM} {b p e : Nat} {I : Mm} {v w : Int32} {z : Nat} (h1 : z ≠ kad (sR S) b e) (h2 : z ≠ En (sR S) b e) : f_X1_keep I (sR S) b p e v w z = I z := by
  unfold f_X1_keep
  try dsimp only
  rw [up2_row h2, up2_row h2, up2_row h2, up2_row h1, up2_row h1, up2_row h1, up2_row h1]
theorem keep_ek {S : MM} {b p e : Nat} {I : Mm} {v w : Int32} {s : EK} (hL : LY S b) (he : e < 2) (kpd : sK S p = 3) (hs : EKc I (sR S) b e s) (hb : s.1 < 2000000000) : EKc (f_X1_keep I (sR S) b p e v w) (sR S) b e (kp s (v, I p 0, I p 1, w)) := by
  obtain ⟨h3, h6, h5, hk⟩ := hs
  have kE := (ly_E hL he).2.1
  have kK := (ly_ka hL he).2.1
  have nEK : En (sR S) b e ≠ kad (sR S) b e := ne_k kE kK (by decide)
  have npK : p ≠ kad (sR S) b e := ne_k kpd kK (by decide)
  have hm : s.1 % 50 < 50 := Nat.mod_lt _ (by decide)
  have c6 : (I (En (sR S) b e) 6).toNatClampNeg = s.1 % 50 := by rw [h6, nI_cl (by omega)]
  unfold f_X1_keep
  dsimp only
  rw [c6]
  refine ⟨?_, ?_, ?_, fun j hj => ?_⟩
  · rw [up2_self, up2_jn (by decide), up2_jn (by decide), up2_row nEK, up2_row nEK, up2_row nEK, up2_row nEK, h3, nI_add]
    rfl
  · rw [up2_jn (by decide), up2_jn (by decide), up2_self]
    show nI ((s.1 % 50 + 1) % 50) = nI ((s.1 + 1) % 50)
    rw [show (s.1 % 50 + 1) % 50 = (s.1 + 1) % 50 by omega]
  · rw [up2_jn (by decide), up2_self, up2_jn (by decide), up2_row nEK, up2_row nEK, up2_row nEK, up2_row nEK, h5]
    have : (nI (if 50 < s.1 then 50 else s.1)).toNatClampNeg = (if 50 < s.1 then 50 else s.1) := nI_cl (by split <;> omega)
    rw [this]
    show nI _ = nI (if 50 < s.1 + 1 then 50 else s.1 + 1)
    refine congrArg nI ?_
    repeat' split
    all_goals omega
  · rw [up2_row (Ne.symm nEK), up2_row (Ne.symm nEK), up2_row (Ne.symm nEK)]
    show _ = kpR s.2 (s.1 % 50) _ j
    unfold kpR
    rw [show s.1 % 50 * 4 = 4 * (s.1 % 50) by omega]
    generalize 4 * (s.1 % 50) = a
    by_cases q3 : j = a + 3
    · rw [if_pos q3, q3, up2_self]
    · rw [if_neg q3, up2_ne (fun z => q3 z.2)]
      by_cases q2 : j = a + 2
      · rw [if_pos q2, q2, up2_self, up2_row npK, up2_row npK]
      · rw [if_neg q2, up2_ne (fun z => q2 z.2)]
        by_cases q1 : j = a + 1
        · rw [if_pos q1, q1, up2_self, up2_row npK]
        · rw [if_neg q1, up2_ne (fun z => q1 z.2)]
          by_cases q0 : j = a
          · rw [if_pos q0, q0, up2_self]
          · rw [if_neg q0, up2_ne (fun z => q0 z.2)]
            exact hk j hj
/-- only marks on frames, and the two counters of the object -/
def KO (S : MM) (b : Nat) (I I' : Mm) : Prop := ∀ z j, ¬ (sK S z = 3 ∧ j = 6) → ¬ (z = b ∧ (j = 8 ∨ j = 4)) → I' z j = I z j
theorem KO.rf {S : MM} {b : Nat} {I : Mm} : KO S b I I := fun _ _ _ _ => rfl
theorem KO.w {S : MM} {b a : Nat} {I I' : Mm} {v : Int32} (h : KO S b I I') (ka : sK S a = 3) : KO S b I (up2 I' a 6 v) := fun z j h1 h2 => by
  rw [up2_ne (fun y => h1 ⟨by rw [y.1]; exact ka, y.2⟩)]
  exact h z j h1 h2
theorem KO.b {S : MM} {b j : Nat} {I I' : Mm} {v : Int32} (h : KO S b I I') (hj : j = 8 ∨ j = 4) : KO S b I (up2 I' b j v) := fun z j' h1 h2 => by
  rw [up2_ne (fun y => h2 ⟨y.1, by rw [y.2]; exact hj⟩)]
  exact h z j' h1 h2
theorem ko_mark {S : MM} {b p c e fc ff : Nat} {I0 : Mm} (hL : LY S b) (hc : c < 8) (he : e < 2) : ∀ r i (I : Mm), KO S b I0 I → KO S b I0 (g_X3_markOvertaken_2 (sR S) b p c e fc ff r i I) := by
  intro r
  induction r with
  | zero => intro i I h; exact h
  | succ r ih =>
    intro i I h
    rw [g_X3_markOvertaken_2]
    by_cases c1 : sR S (fad (sR S) b c e) ((ff + i) % 200) = none
    · rw [if_pos c1]; exact ih _ _ h
    · have k3 := ly_nn (j := (ff + i) % 200) hL.1 (ly_fa hL hc he).2.1 rfl c1
      rw [if_neg c1]
      split
      · exact ih _ _ h
      · exact ih _ _ (h.w k3)
theorem ko_rec43 {S : MM} {b p q e : Nat} {I0 : Mm} (hL : LY S b) (he : e < 2) : ∀ r i (I : Mm), i + r = 8 → KO S b I0 I → KO S b I0 (g_X7_receive_43 (sR S) b p q e r i I) := by
  intro r
  induction r with
  | zero => intro i I _ h; exact h
  | succ r ih =>
    intro i I hi h
    rw [g_X7_receive_43]
    exact ih _ _ (by omega) (ko_mark hL (by omega) he _ _ _ h)
theorem ko_receive {S : MM} {b p q e : Nat} {I : Mm} (hL : LY S b) (he : e < 2) : KO S b (f_X1_keep I (sR S) b p (1 - e) (I ((sR S q 0).getD 0) 3) (I b 2)) (f_X7_receive I (sR S) b p q e) := by
  unfold f_X7_receive g_X7_receive_40
  dsimp only
  split
  · exact ko_rec43 hL he 8 0 _ rfl KO.rf
  · exact ko_rec43 hL he 8 0 _ rfl (KO.rf.b (Or.inl rfl))
