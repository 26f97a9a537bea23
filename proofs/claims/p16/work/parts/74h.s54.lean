/-! SIMULATION 54: between two calls, with the frames; the calls that leave them -/
def FRs (S : MM) (x m : Nat) (A : Nat → Nat) : Prop := FRl (sR S) x A (sI S) (sI S) (sI S m 43).toNatClampNeg (sI S m 32).toNatClampNeg ∧ BN (sR S) x (sI S) (sI S) A
/-- the bundle that a port of the class has is the same -/
def P6 (S : MM) (I I' : Mm) : Prop := ∀ z, sK S z = 6 → I' z 10 = I z 10
theorem P6.rf {S : MM} {I : Mm} : P6 S I I := fun _ _ => rfl
theorem P6.tr {S : MM} {I I1 I2 : Mm} (h : P6 S I I1) (g : P6 S I1 I2) : P6 S I I2 := fun z hz => (g z hz).trans (h z hz)
theorem P6.w {S : MM} {a k kd : Nat} {I I' : Mm} {v : Int32} (h : P6 S I I') (ka : sK S a = kd) (hk : kd ≠ 6 ∨ k ≠ 10) : P6 S I (up2 I' a k v) := fun z hz => by
  rw [up2_ne (fun y => by obtain ⟨y1, y2⟩ := y; rw [y1, ka] at hz; omega)]
  exact h z hz
theorem P6.o {S : MM} {I I0 I' : Mm} (h : P6 S I0 I) (g : ∀ z, sK S z = 6 → I' z 10 = I z 10) : P6 S I0 I' := h.tr g
theorem BN_t {S : MM} {b : Nat} {A : Nat → Nat} {I I' J J' : Mm} (hL : LY S b) (p6 : P6 S I I') (j9 : ∀ x, x < 16 → J' (A 9) x = nI 4 → J (A 9) x = nI 4 ∧ J' (A 12) x = J (A 12) x) (h : BN (sR S) b I J A) : BN (sR S) b I' J' A := fun x hx e => by
  obtain ⟨e1, e2⟩ := j9 x hx e
  rw [p6 _ (k_px hL hx), e2]
  exact h x hx e1
theorem p6_nc {S : MM} {b : Nat} {I0 I : Mm} (hL : LY S b) (h : P6 S I0 I) : P6 S I0 (f_X7_noteChange I (sR S) b) := by
  have q : ∀ r i (I' : Mm) (w : Int32), i + r = 8 → P6 S I0 I' → P6 S I0 (g_X7_noteChange_29 (sR S) b r i I' w) := by
    intro r
    induction r with
    | zero => intro i I' w _ h; exact h
    | succ r ih =>
      intro i I' w hi h
      rw [g_X7_noteChange_29]
      have kC := (ly_C hL (show i < 8 by omega)).2.1
      split
      · exact ih _ _ _ (by omega) (h.w kC (Or.inl (by decide)))
      · split
        · exact ih _ _ _ (by omega) (h.w kC (Or.inl (by decide)))
        · exact ih _ _ _ (by omega) (h.w kC (Or.inl (by decide)))
  unfold f_X7_noteChange
  exact q 8 0 _ _ rfl (h.w hL.2 (Or.inl (by decide)))
theorem p6_rn {S : MM} {b e : Nat} {I : Mm} {v : Int32} (hL : LY S b) (hO : OC S) (he : e < 2) : P6 S I (f_X1_rename I (sR S) b e v) := fun z hz => by
  have E : f_X1_rename I (sR S) b e v = g_X1_rename_7 (sR S) b e v 8 0 (up2 I (En (sR S) b e) 1 v) v := rfl
  rw [E, (rn_row (v := v) hL hO he 8 0 (up2 I (En (sR S) b e) 1 v) rfl).1 z (fun j hj => ne_k hz (ly_O hL he hj).2.1 (by decide)), up2_row (ne_k hz (ly_E hL he).2.1 (by decide))]
theorem p6_sb {S : MM} {a : Nat} {I0 I : Mm} {v w : Int32} (h : P6 S I0 I) (ka : sK S a = 7) : P6 S I0 (f_X6_setBits I a v w) := h.o (fun z hz => by
  have n : z ≠ a := ne_k hz ka (by decide)
  unfold f_X6_setBits
  split <;> exact congrFun (up2_row n) 10)
theorem p6_on {S : MM} {b c : Nat} {I0 I : Mm} (hL : LY S b) (hc : c < 8) (pl : plg (sR S) b c) (h : P6 S I0 I) : P6 S I0 (f_X7_switchOn I (sR S) b c) := by
  have q : ∀ r i (I : Mm), i + r = 2 → P6 S I0 I → P6 S I0 (g_X7_switchOn_7 (sR S) b c r i I) := by
    intro r
    induction r with
    | zero => intro i I _ h; exact h
    | succ r ih =>
      intro i I hi h
      have kp : sK S ((sR S (ppd (sR S) b c) i).getD 0) = 6 := ly_nn hL.1 (ly_pp hL hc).2.1 rfl (plg_i pl (by omega))
      have kq : sK S ((sR S ((sR S (ppd (sR S) b c) i).getD 0) 1).getD 0) = 7 := (ly_f hL.1 kp (show rf 6 1 = some (7, 0) from rfl)).2.1
      rw [g_X7_switchOn_7]
      refine ih _ _ (by omega) ?_
      unfold f_X5_becomeLit
      exact P6.w (p6_sb ((h.w kp (Or.inr (by decide))).w kp (Or.inr (by decide))) kq) kp (Or.inr (by decide))
  unfold f_X7_switchOn
  exact q 2 0 _ rfl (h.w (ly_C hL hc).2.1 (Or.inl (by decide)))
theorem p6_off {S : MM} {b c : Nat} {I0 I : Mm} (hL : LY S b) (hc : c < 8) (pl : plg (sR S) b c) (h : P6 S I0 I) : P6 S I0 (f_X7_switchOff I (sR S) b c) := by
  have q : ∀ r i (I : Mm), i + r = 2 → P6 S I0 I → P6 S I0 (g_X7_switchOff_7 (sR S) b c r i I) := by
    intro r
    induction r with
    | zero => intro i I _ h; exact h
    | succ r ih =>
      intro i I hi h
      have kp : sK S ((sR S (ppd (sR S) b c) i).getD 0) = 6 := ly_nn hL.1 (ly_pp hL hc).2.1 rfl (plg_i pl (by omega))
      have ko : sK S ((sR S ((sR S (ppd (sR S) b c) i).getD 0) 0).getD 0) = 7 := (ly_f hL.1 kp (show rf 6 0 = some (7, 0) from rfl)).2.1
      have kq : sK S ((sR S ((sR S (ppd (sR S) b c) i).getD 0) 1).getD 0) = 7 := (ly_f hL.1 kp (show rf 6 1 = some (7, 0) from rfl)).2.1
      have kE := (ly_E hL (show i < 2 by omega)).2.1
      rw [g_X7_switchOff_7]
      try dsimp only
      generalize (sR S (ppd (sR S) b c) i).getD 0 = p at kp ko kq ⊢
      generalize (sR S p 0).getD 0 = o at ko ⊢
      generalize (sR S p 1).getD 0 = qq at kq ⊢
      refine ih _ _ (by omega) ?_
      have h1 : P6 S I0 (f_X3_clear (up2 I b 5 (I b 5 + nI (I (Ln (sR S) b c i) 5).toNatClampNeg)) (sR S) b c i) := by
        unfold f_X3_clear
        exact P6.w (P6.w (h.w hL.2 (Or.inl (by decide))) (ly_N hL hc (by omega)).2.1 (Or.inl (by decide))) (ly_N hL hc (by omega)).2.1 (Or.inl (by decide))
      generalize f_X3_clear (up2 I b 5 (I b 5 + nI (I (Ln (sR S) b c i) 5).toNatClampNeg)) (sR S) b c i = I5 at h1 ⊢
      have h2 : P6 S I0 (f_X1_moveTo I5 (En (sR S) b i) p o (nI 0)) := h1.o (fun z hz => by
        by_cases e : z = p
        · rw [e, (rr_X1_moveTo (ne_k kE kp (by decide)) (ne_k kE ko (by decide)) (ne_k kp ko (by decide))).1, r_mv1.1]
        · rw [n_X1_moveTo e (ne_k hz ko (by decide)) (ne_k hz kE (by decide))])
      generalize f_X1_moveTo I5 (En (sR S) b i) p o (nI 0) = I7 at h2 ⊢
      refine h2.o (fun z hz => ?_)
      have nq : z ≠ qq := ne_k hz kq (by decide)
      have E : f_X5_becomeDark I7 p qq z 10 = (up2 (up2 I7 p 3 (nI 0)) p 4 (nI 0)) z 10 := by
        by_cases e : z = p
        · have := (rr_X5_becomeDark (I := I7) (p := p) (q := qq) (ne_k kp kq (by decide))).1
          rw [e, this]
          unfold r_X5_becomeDark upd
          rw [up2_ne (fun y => absurd y.2 (by decide)), up2_ne (fun y => absurd y.2 (by decide))]
          simp
        · rw [n_X5_becomeDark e nq, up2_row e, up2_row e]
      rw [E, up2_ne (fun y => absurd y.2 (by decide)), up2_ne (fun y => absurd y.2 (by decide))]
  unfold f_X7_switchOff
  exact q 2 0 _ rfl (h.w (ly_C hL hc).2.1 (Or.inl (by decide)))
def GP (S : MM) (x m out : Nat) (A : Nat → Nat) (i : Nat) : Prop := GN S x m out A i ∧ FRs S x m A
def KF : List Nat := [23, 24, 27, 28, 29, 30, 31, 34, 35, 36, 37, 41, 42]
theorem FR_t {S : MM} {b cl nt : Nat} {A : Nat → Nat} {I I' J J' : Mm} (hL : LY S b) (fa : FA S b I I') (jk : ∀ k ∈ KF, J' (A k) = J (A k)) (h : FRl (sR S) b A I J cl nt) : FRl (sR S) b A I' J' cl nt := by
  obtain ⟨fl, fk, fe⟩ := h
  have tG : TG J' A nt = TG J A nt := TG_c (fun t _ => tg_k (fun k hk => jk k ((show ∀ k ∈ ([27, 28, 29, 30, 31] : List Nat), k ∈ KF by decide) k hk)))
  have cf : ∀ c e, c < 8 → e < 2 → CF I' (sR S) b c e = CF I (sR S) b c e := fun c e hc he => CF_e (fa.2.1 c e hc he).1 (fa.2.1 c e hc he).2
  have row : ∀ c e, c < 8 → e < 2 → ∀ z ∈ CF I (sR S) b c e, I' z = I z := fun c e hc he z hz => fa.1 z (Or.inl (CF_k hL hc he (fk c e hc he).1 z hz))
  refine ⟨fun c e hc he => ?_, fun c e hc he => ⟨FOK_e (fa.2.1 c e hc he).1 (fa.2.1 c e hc he).2 (fk c e hc he).1, ?_⟩, fun e he => ?_⟩
  · rw [cf c e hc he, tG]
    have e1 : (CF I (sR S) b c e).map (fr5 I') = (CF I (sR S) b c e).map (fr5 I) := List.map_congr_left (fun z hz => by unfold fr5; rw [row c e hc he z hz])
    have e2 : fq5 J' A = fq5 J A := by
      funext q
      unfold fq5
      rw [jk 35 (by decide), jk 36 (by decide)]
    rw [e1, e2]
    exact fl c e hc he
  · rw [cf c e hc he]
    have eb : bd J' A c = bd J A c := by unfold bd; rw [jk 23 (by decide), jk 24 (by decide)]
    rw [eb]
    exact DF_e (fk c e hc he).2 (fun z hz => by rw [row c e hc he z hz])
  · obtain ⟨s, q1, q2, q3⟩ := fe e he
    exact ⟨s, EKc_e q1 (fun k hk => fa.2.2 e he k hk) (fa.1 _ (Or.inr (ly_ka hL he).2)), EKm_e q2 (by rw [jk 42 (by decide)]) (fun j => by rw [jk 41 (by decide)]), q3⟩
/-- cells of the class that hold frames are none of the reference's -/
theorem fa_z {S : MM} {b m : Nat} {A : Nat → Nat} {I I' : Mm} (hL : LY S b) (hM : MS S m A) (h : ∀ z, z ≠ m → (∀ k ∈ DM, z ≠ A k) → I' z = I z) : FA S b I I' := by
  have nd : ∀ z q, sK S z = q → q ≠ 9 ∧ q ≠ 10 ∧ q ≠ 11 → I' z = I z := fun z q hz hq => h z (no_ref hM hz hq).1 (no_ref hM hz hq).2
  refine ⟨fun z hz => ?_, fun c e hc he => by rw [nd _ 4 (ly_N hL hc he).2.1 (by decide)]; exact ⟨rfl, rfl⟩, fun e he k _ => by rw [nd _ 2 (ly_E hL he).2.1 (by decide)]⟩
  rcases hz with q | q
  · exact nd z 3 q (by decide)
  · refine h z (ne_k q.1 hM.1 (by decide)) (fun k hk e => ?_)
    have := (hM.2.1 k hk).2.2.1
    rw [← e, q.2] at this
    exact lnM_200 k hk this.symm
theorem MS_b {S S1 : MM} {x m out : Nat} {A : Nat → Nat} (hh : GH S S1 x m out A) : MS S1 m A := hh.2.2.2.2.2.1
/-- the frames' relation behind both halves, where neither touches a frame -/
theorem FRs_t {W : List Nat} {S S1 S2 : MM} {x m out i : Nat} {A : Nat → Nat} (hP : GP S x m out A i) (hh : GH S S1 x m out A) (er : sR S1 = sR S) (fa : FA S x (sI S) (sI S1)) (p6 : P6 S (sI S) (sI S1)) (e : SM W m A S1 S2) (hw : ∀ k ∈ 32 :: 43 :: 9 :: 12 :: KF, k ∉ W) : FRs S2 x m A := by
  have hL := ly_of hP.1
  have hM1 := MS_b hh
  have hM0 := hP.1.2.2.2.2.2.1
  have f2 : FA S x (sI S1) (sI S2) := fa_z hL hM0 (fz_SM hM1 e)
  have jj : ∀ k ∈ KF, sI S2 (A k) = sI S (A k) := fun k hk => by
    have hd : k ∈ DM := (show ∀ k ∈ KF, k ∈ DM by decide) k hk
    rw [SM_a e hM1 hd (hw k (List.mem_cons_of_mem _ (List.mem_cons_of_mem _ (List.mem_cons_of_mem _ (List.mem_cons_of_mem _ hk))))), hh.2.2.2.2.2.2.2.2 k hd]
  unfold FRs
  rw [e.2.2.1, er, e.2.2.2.2.2 43 (hw 43 (by decide)), e.2.2.2.2.2 32 (hw 32 (by decide)), hh.2.2.2.2.2.2.2.1]
  have j9 : ∀ k, (k = 9 ∨ k = 12) → sI S2 (A k) = sI S (A k) := fun k hk => by
    have hd : k ∈ DM := by rcases hk with rfl | rfl <;> decide
    rw [SM_a e hM1 hd (hw k (by rcases hk with rfl | rfl <;> decide)), hh.2.2.2.2.2.2.2.2 k hd]
  refine ⟨FR_t hL (fa.tr f2) jj hP.2.1, BN_t hL (p6.tr (fun z hz => ?_)) (fun x _ e4 => ?_) hP.2.2⟩
  · rw [fz_SM hM1 e z (no_ref hM0 hz (by decide)).1 (no_ref hM0 hz (by decide)).2]
  · rw [j9 9 (by omega)] at e4
    exact ⟨e4, by rw [j9 12 (by omega)]⟩
theorem p_same {S S1 S2 : MM} {x m out i : Nat} {A : Nat → Nat} (hP : GP S x m out A i) (hh : GH S S1 x m out A) (er : sR S1 = sR S) (ei : sI S1 = sI S) (e : SM [0] m A S1 S2) (im : IM S2 m A) : GP S2 x m out A (i + 1) := ⟨r_same hP.1 hh er (ca_e ei) e im, FRs_t hP hh er (by rw [ei]; exact FA.rf) (by rw [ei]; exact P6.rf) e (by decide)⟩
theorem fa_nc {S : MM} {b : Nat} {I0 I : Mm} (hL : LY S b) (h : FA S b I0 I) : FA S b I0 (f_X7_noteChange I (sR S) b) := by
  have q : ∀ r i (I' : Mm) (w : Int32), i + r = 8 → FA S b I0 I' → FA S b I0 (g_X7_noteChange_29 (sR S) b r i I' w) := by
    intro r
    induction r with
    | zero => intro i I' w _ h; exact h
    | succ r ih =>
      intro i I' w hi h
      rw [g_X7_noteChange_29]
      have kC := (ly_C hL (show i < 8 by omega)).2.1
      split
      · exact ih _ _ _ (by omega) (h.w hL kC (by omega))
      · split
        · exact ih _ _ _ (by omega) (h.w hL kC (by omega))
        · exact ih _ _ _ (by omega) (h.w hL kC (by omega))
  unfold f_X7_noteChange
  exact q 8 0 _ _ rfl (h.w hL hL.2 (by omega))
theorem fa_rn {S : MM} {b e : Nat} {I : Mm} {v : Int32} (hL : LY S b) (hO : OC S) (he : e < 2) : FA S b I (f_X1_rename I (sR S) b e v) := by
  have E : f_X1_rename I (sR S) b e v = g_X1_rename_7 (sR S) b e v 8 0 (up2 I (En (sR S) b e) 1 v) v := rfl
  rw [E]
  refine FA.o hL (FA.rf.w hL (ly_E hL he).2.1 (by omega)) (fun z k hz hk => (rn_row (v := v) hL hO he 8 0 (up2 I (En (sR S) b e) 1 v) rfl).1 z (fun j hj => ne_k hz (ly_O hL he hj).2.1 (by omega)))
theorem fa_sb {S : MM} {b a : Nat} {I0 I : Mm} {v w : Int32} (hL : LY S b) (h : FA S b I0 I) (ka : sK S a = 7) : FA S b I0 (f_X6_setBits I a v w) := FA.o hL h (fun z k hz hk => by
  have n : z ≠ a := ne_k hz ka (by omega)
  unfold f_X6_setBits
  split <;> exact up2_row n)
