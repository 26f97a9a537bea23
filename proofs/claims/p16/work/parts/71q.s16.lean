/-! SIMULATION 16: what the coming of frames leaves as it was (class) -/
def BF (S : MM) (I I' : Mm) : Prop := (∀ z, sK S z ≠ 3 → sK S z ≠ 4 → sK S z ≠ 2 → sK S z ≠ 8 → sK S z ≠ 10 → I' z = I z) ∧ (∀ z, sK S z = 4 → ∀ k, k ≠ 4 → k ≠ 5 → I' z k = I z k) ∧ (∀ z, sK S z = 2 → ∀ k, k ≠ 3 → k ≠ 5 → k ≠ 6 → I' z k = I z k) ∧ ∀ z, sK S z = 8 → ∀ k, k ≠ 4 → k ≠ 8 → I' z k = I z k
theorem BF.rf {S : MM} {I : Mm} : BF S I I := ⟨fun _ _ _ _ _ _ => rfl, fun _ _ _ _ _ => rfl, fun _ _ _ _ _ _ => rfl, fun _ _ _ _ _ => rfl⟩
theorem BF.tr {S : MM} {I I1 I2 : Mm} (h : BF S I I1) (g : BF S I1 I2) : BF S I I2 := ⟨fun z a b c d e => (g.1 z a b c d e).trans (h.1 z a b c d e), fun z a k b c => (g.2.1 z a k b c).trans (h.2.1 z a k b c), fun z a k b c d => (g.2.2.1 z a k b c d).trans (h.2.2.1 z a k b c d), fun z a k b c => (g.2.2.2 z a k b c).trans (h.2.2.2 z a k b c)⟩
theorem BF.w {S : MM} {I I' : Mm} {a k : Nat} {v : Int32} (ha : sK S a = 3 ∨ sK S a = 10 ∨ (sK S a = 4 ∧ (k = 4 ∨ k = 5)) ∨ (sK S a = 2 ∧ (k = 3 ∨ k = 5 ∨ k = 6)) ∨ (sK S a = 8 ∧ (k = 4 ∨ k = 8))) (h : BF S I I') : BF S I (up2 I' a k v) := by
  refine ⟨fun z h3 h4 h2 h8 h10 => ?_, fun z hz j h4 h5 => ?_, fun z hz j h3 h5 h6 => ?_, fun z hz j h4 h8 => ?_⟩
  · rw [up2_row (fun y => by subst y; omega)]; exact h.1 z h3 h4 h2 h8 h10
  · rw [up2_ne (fun y => by obtain ⟨y1, y2⟩ := y; subst y1; omega)]; exact h.2.1 z hz j h4 h5
  · rw [up2_ne (fun y => by obtain ⟨y1, y2⟩ := y; subst y1; omega)]; exact h.2.2.1 z hz j h3 h5 h6
  · rw [up2_ne (fun y => by obtain ⟨y1, y2⟩ := y; subst y1; omega)]; exact h.2.2.2 z hz j h4 h8
theorem bf_take {S : MM} {b c e : Nat} {I0 I : Mm} {v : Int32} (hL : LY S b) (hc : c < 8) (he : e < 2) (h : BF S I0 I) : BF S I0 (f_X3_takeDueFrame I (sR S) b c e v).1 := by
  have k := (ly_N hL hc he).2.1
  unfold f_X3_takeDueFrame
  repeat' split
  all_goals first | exact h | exact BF.w (Or.inr (Or.inr (Or.inl ⟨k, Or.inr rfl⟩))) (BF.w (Or.inr (Or.inr (Or.inl ⟨k, Or.inl rfl⟩))) h)
theorem tdf_k {S : MM} {b c e : Nat} {I : Mm} {v : Int32} (hL : LY S b) (hc : c < 8) (he : e < 2) (hn : ¬ (f_X3_takeDueFrame I (sR S) b c e v).2 = none) : sK S ((f_X3_takeDueFrame I (sR S) b c e v).2.getD 0) = 3 := by
  unfold f_X3_takeDueFrame at hn ⊢
  by_cases c1 : sR S (fad (sR S) b c e) (I (Ln (sR S) b c e) 4).toNatClampNeg = none
  · rw [if_pos c1] at hn
    exfalso
    split at hn <;> exact hn rfl
  · have k3 := ly_nn (j := (I (Ln (sR S) b c e) 4).toNatClampNeg) hL.1 (ly_fa hL hc he).2.1 rfl c1
    rw [if_neg c1] at hn ⊢
    split at hn
    · exact absurd rfl hn
    · rename_i c2
      rw [if_neg c2] at ⊢
      split at hn
      · rename_i c3
        rw [if_pos c3]
        exact k3
      · exact absurd rfl hn
theorem bf_keep {S : MM} {b p e : Nat} {I0 I : Mm} {v w : Int32} (hL : LY S b) (he : e < 2) (h : BF S I0 I) : BF S I0 (f_X1_keep I (sR S) b p e v w) := by
  have kE := (ly_E hL he).2.1
  have kk := (ly_ka hL he).2.1
  unfold f_X1_keep
  refine BF.w (Or.inr (Or.inr (Or.inr (Or.inl ⟨kE, Or.inl rfl⟩)))) (BF.w (Or.inr (Or.inr (Or.inr (Or.inl ⟨kE, Or.inr (Or.inl rfl)⟩)))) (BF.w (Or.inr (Or.inr (Or.inr (Or.inl ⟨kE, Or.inr (Or.inr rfl)⟩)))) ?_))
  exact BF.w (Or.inr (Or.inl kk)) (BF.w (Or.inr (Or.inl kk)) (BF.w (Or.inr (Or.inl kk)) (BF.w (Or.inr (Or.inl kk)) h)))
theorem bf_mark {S : MM} {b p c e fc ff : Nat} {I0 : Mm} (hL : LY S b) (hc : c < 8) (he : e < 2) : ∀ r i (I : Mm), BF S I0 I → BF S I0 (g_X3_markOvertaken_2 (sR S) b p c e fc ff r i I) := by
  intro r
  induction r with
  | zero => intro i I h; exact h
  | succ r ih =>
    intro i I h
    rw [g_X3_markOvertaken_2]
    by_cases c1 : sR S (fad (sR S) b c e) ((ff + i) % 200) = none
    · rw [if_pos c1]; exact ih _ _ h
    · have k3 := ly_nn (j := (ff + i) % 200) hL.1 (ly_fa hL hc he).2.1 rfl c1
      rw [if_neg c1]
      split
      · exact ih _ _ h
      · exact ih _ _ (BF.w (Or.inl k3) h)
theorem bf_rec43 {S : MM} {b p q e : Nat} {I0 : Mm} (hL : LY S b) (he : e < 2) : ∀ r i (I : Mm), i + r = 8 → BF S I0 I → BF S I0 (g_X7_receive_43 (sR S) b p q e r i I) := by
  intro r
  induction r with
  | zero => intro i I _ h; exact h
  | succ r ih =>
    intro i I hi h
    rw [g_X7_receive_43]
    exact ih _ _ (by omega) (bf_mark hL (by omega) he _ _ _ h)
theorem bf_receive {S : MM} {b p q e : Nat} {I0 I : Mm} (hL : LY S b) (he : e < 2) (h : BF S I0 I) : BF S I0 (f_X7_receive I (sR S) b p q e) := by
  have hk := bf_keep (p := p) (v := I ((sR S q 0).getD 0) 3) (w := I b 2) hL (show 1 - e < 2 by omega) h
  unfold f_X7_receive g_X7_receive_40
  dsimp only
  split
  · exact bf_rec43 hL he 8 0 _ rfl hk
  · exact bf_rec43 hL he 8 0 _ rfl (BF.w (Or.inr (Or.inr (Or.inr (Or.inr ⟨hL.2, Or.inr rfl⟩)))) hk)
theorem bf_bring3 {S : MM} {b p c e : Nat} {I0 : Mm} (hL : LY S b) (hc : c < 8) (he : e < 2) : ∀ r i (I : Mm), BF S I0 I → BF S I0 (g_X7_bringFrames_3 (sR S) b p c e r i I) := by
  intro r
  induction r with
  | zero => intro i I h; exact h
  | succ r ih =>
    intro i I h
    have ht := bf_take (v := I b 2) hL hc he h
    rw [g_X7_bringFrames_3]
    dsimp only
    split
    · exact ht
    · split
      · exact ih _ _ (BF.w (Or.inr (Or.inr (Or.inr (Or.inr ⟨hL.2, Or.inl rfl⟩)))) ht)
      · exact ih _ _ (bf_receive hL he ht)
theorem bf_bring {S : MM} {b p c e : Nat} {I : Mm} (hL : LY S b) (hc : c < 8) (he : e < 2) : BF S I (f_X7_bringFrames I (sR S) b p c e) := bf_bring3 hL hc he 200 0 I BF.rf
/-! a lane's note comes -/
def popL (I : Mm) (R : Nat → Nat → Option Nat) (b c e : Nat) : Mm := up2 (up2 I (Ln R b c e) 1 (nI (((I (Ln R b c e) 1).toNatClampNeg + 1) % 8))) (Ln R b c e) 2 (nI ((I (Ln R b c e) 2).toNatClampNeg - 1))
theorem nle {a d : Nat} (ha : a < 2 ^ 31) (hd : d < 2 ^ 31) : (nI d ≤ nI a) ↔ d ≤ a := by
  rw [Int32.le_iff_toInt_le, nI_toInt ha, nI_toInt hd]
  omega
theorem CN_cons {I : Mm} {R : Nat → Nat → Option Nat} {b c e n : Nat} (h2 : I (Ln R b c e) 2 = nI (n + 1)) (hn : n < 8) : CN I R b c e = cnq I R b c e (sl I R b c e 0) :: (List.range n).map (fun k => cnq I R b c e (sl I R b c e (k + 1))) := by
  unfold CN
  rw [h2, nI_cl (by omega), List.range_succ_eq_map, List.map_cons, List.map_map]
  rfl
theorem td_no {I : Mm} {R : Nat → Nat → Option Nat} {b c e cl B : Nat} {v : Int32} (hB : B < 2 ^ 31) (hv : v = nI cl) (hc : cl < 2 ^ 31) (h1 : ∃ n, n < 8 ∧ I (Ln R b c e) 1 = nI n) (h2 : ∃ n, n < 9 ∧ I (Ln R b c e) 2 = nI n) (du : DU (CN I R b c e) (cl + 1) B) : f_X3_takeDueNote I R b c e v = (I, none) := by
  obtain ⟨f, hf, ef⟩ := h1
  obtain ⟨n, hn, en⟩ := h2
  unfold f_X3_takeDueNote
  rw [en, ef, nI_cl (by omega), nI_cl (by omega)]
  cases n with
  | zero => rw [if_pos rfl]
  | succ n =>
    rw [if_neg (by omega)]
    have cc := CN_cons en (by omega)
    rw [cc] at du
    have q := du.1 _ List.mem_cons_self
    have s0 : sl I R b c e 0 = f := by unfold sl; rw [ef, nI_cl (by omega)]; omega
    rw [s0] at q
    have e2 : cnq I R b c e f 2 = I (Nt R b c e f) 2 := rfl
    rw [e2] at q
    rw [hv, q.1.1, if_neg (by rw [nle hc (by omega)]; omega)]
theorem td_yes {I : Mm} {R : Nat → Nat → Option Nat} {b c e cl n f : Nat} {v : Int32} (hv : v = nI cl) (hf : f < 8) (ef : I (Ln R b c e) 1 = nI f) (hn : n < 8) (en : I (Ln R b c e) 2 = nI (n + 1)) (ed : I (Nt R b c e f) 2 = nI cl) : f_X3_takeDueNote I R b c e v = (popL I R b c e, some (Nt R b c e f)) := by
  unfold f_X3_takeDueNote popL
  rw [en, ef, nI_cl (by omega), nI_cl (by omega), if_neg (by omega), ed, hv, if_pos (Int32.le_refl _)]
