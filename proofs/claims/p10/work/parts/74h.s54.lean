/-! SIMULATION 54: between two calls, with the frames; the calls that leave them -/
def FRs (S : MM) (x m : Nat) (A : Nat → Nat) : Prop := FRl (sR S) x A (sI S) (sI S) (sI S m 43).toNatClampNeg (sI S m 32).toNatClampNeg
def GP (S : MM) (x m out : Nat) (A : Nat → Nat) (i : Nat) : Prop := GN S x m out A i ∧ FRs S x m A
def KF : List Nat := [23, 24, 27, 28, 29, 30, 31, 34, 35, 36, 37, 41, 42]
theorem FR_t {S : MM} {b cl nt : Nat} {A : Nat → Nat} {I I' J J' : Mm} (hL : LY S b) (fa : FA S b I I') (jk : ∀ k ∈ KF, J' (A k) = J (A k)) (h : FRl (sR S) b A I J cl nt) : FRl (sR S) b A I' J' cl nt := by
  obtain ⟨fl, fk, fe⟩ := h
  have tG : TG J' A nt = TG J A nt := TG_c (fun t _ => tg_k (fun k hk => jk k ((show ∀ k ∈ ([27, 28, 29, 30, 31] : List Nat), k ∈ KF by decide) k hk)))
  have cf : ∀ c e, c < 8 → e < 2 → CF I' (sR S) b c e = CF I (sR S) b c e := fun c e hc he => CF_e (fa.2.1 c e hc he).1 (fa.2.1 c e hc he).2
  have row : ∀ c e, c < 8 → e < 2 → ∀ z ∈ CF I (sR S) b c e, I' z = I z := fun c e hc he z hz => fa.1 z (Or.inl (CF_k hL hc he (fk c e hc he).1 z hz))
  refine ⟨fun c e hc he => ?_, fun c e hc he => ⟨FOK_e (fa.2.1 c e hc he).1 (fa.2.1 c e hc he).2 (fk c e hc he).1, ?_⟩, fun e he => ?_⟩
  · rw [cf c e hc he, tG]
    have e1 : (CF I (sR S) b c e).map (fr5 I') = (CF I (sR S) b c e).map (fr5 I) := List.map_congr_left (fun z hz => by unfold fr5; rw [row c e hc he z hz])
    have e2 : fq5 J' A = fq5 J A := by
      funext q
      unfold fq5
      rw [jk 35 (by decide), jk 36 (by decide)]
    rw [e1, e2]
    exact fl c e hc he
  · rw [cf c e hc he]
    have eb : bd J' A c = bd J A c := by unfold bd; rw [jk 23 (by decide), jk 24 (by decide)]
    rw [eb]
    exact DF_e (fk c e hc he).2 (fun z hz => by rw [row c e hc he z hz])
  · obtain ⟨s, q1, q2, q3⟩ := fe e he
    exact ⟨s, EKc_e q1 (fun k hk => fa.2.2 e he k hk) (fa.1 _ (Or.inr (ly_ka hL he).2)), EKm_e q2 (by rw [jk 42 (by decide)]) (fun j => by rw [jk 41 (by decide)]), q3⟩
/-- cells of the class that hold frames are none of the reference's -/
theorem fa_z {S : MM} {b m : Nat} {A : Nat → Nat} {I I' : Mm} (hL : LY S b) (hM : MS S m A) (h : ∀ z, z ≠ m → (∀ k ∈ DM, z ≠ A k) → I' z = I z) : FA S b I I' := by
  have nd : ∀ z q, sK S z = q → q ≠ 9 ∧ q ≠ 10 ∧ q ≠ 11 → I' z = I z := fun z q hz hq => h z (no_ref hM hz hq).1 (no_ref hM hz hq).2
  refine ⟨fun z hz => ?_, fun c e hc he => by rw [nd _ 4 (ly_N hL hc he).2.1 (by decide)]; exact ⟨rfl, rfl⟩, fun e he k _ => by rw [nd _ 2 (ly_E hL he).2.1 (by decide)]⟩
  rcases hz with q | q
  · exact nd z 3 q (by decide)
  · refine h z (ne_k q.1 hM.1 (by decide)) (fun k hk e => ?_)
    have := (hM.2.1 k hk).2.2.1
    rw [← e, q.2] at this
    exact lnM_200 k hk this.symm
theorem MS_b {S S1 : MM} {x m out : Nat} {A : Nat → Nat} (hh : GH S S1 x m out A) : MS S1 m A := hh.2.2.2.2.2.1
/-- the frames' relation behind both halves, where neither touches a frame -/
theorem FRs_t {W : List Nat} {S S1 S2 : MM} {x m out i : Nat} {A : Nat → Nat} (hP : GP S x m out A i) (hh : GH S S1 x m out A) (er : sR S1 = sR S) (fa : FA S x (sI S) (sI S1)) (e : SM W m A S1 S2) (hw : ∀ k ∈ 32 :: 43 :: KF, k ∉ W) : FRs S2 x m A := by
  have hL := ly_of hP.1
  have hM1 := MS_b hh
  have hM0 := hP.1.2.2.2.2.2.1
  have f2 : FA S x (sI S1) (sI S2) := fa_z hL hM0 (fz_SM hM1 e)
  have jj : ∀ k ∈ KF, sI S2 (A k) = sI S (A k) := fun k hk => by
    have hd : k ∈ DM := (show ∀ k ∈ KF, k ∈ DM by decide) k hk
    rw [SM_a e hM1 hd (hw k (List.mem_cons_of_mem _ (List.mem_cons_of_mem _ hk))), hh.2.2.2.2.2.2.2.2 k hd]
  unfold FRs
  rw [e.2.2.1, er, e.2.2.2.2.2 43 (hw 43 (by decide)), e.2.2.2.2.2 32 (hw 32 (by decide)), hh.2.2.2.2.2.2.2.1]
  exact FR_t hL (fa.tr f2) jj hP.2
theorem p_same {S S1 S2 : MM} {x m out i : Nat} {A : Nat → Nat} (hP : GP S x m out A i) (hh : GH S S1 x m out A) (er : sR S1 = sR S) (ei : sI S1 = sI S) (e : SM [0] m A S1 S2) (im : IM S2 m A) : GP S2 x m out A (i + 1) := ⟨r_same hP.1 hh er (ca_e ei) e im, FRs_t hP hh er (by rw [ei]; exact FA.rf) e (by decide)⟩
theorem fa_nc {S : MM} {b : Nat} {I0 I : Mm} (hL : LY S b) (h : FA S b I0 I) : FA S b I0 (f_X7_noteChange I (sR S) b) := by
  have q : ∀ r i (I' : Mm) (w : Int32), i + r = 8 → FA S b I0 I' → FA S b I0 (g_X7_noteChange_29 (sR S) b r i I' w) := by
    intro r
    induction r with
    | zero => intro i I' w _ h; exact h
    | succ r ih =>
      intro i I' w hi h
      rw [g_X7_noteChange_29]
      have kC := (ly_C hL (show i < 8 by omega)).2.1
      split
      · exact ih _ _ _ (by omega) (h.w hL kC (by omega))
      · split
        · exact ih _ _ _ (by omega) (h.w hL kC (by omega))
        · exact ih _ _ _ (by omega) (h.w hL kC (by omega))
  unfold f_X7_noteChange
  exact q 8 0 _ _ rfl (h.w hL hL.2 (by omega))
theorem fa_rn {S : MM} {b e : Nat} {I : Mm} {v : Int32} (hL : LY S b) (hO : OC S) (he : e < 2) : FA S b I (f_X1_rename I (sR S) b e v) := by
  have E : f_X1_rename I (sR S) b e v = g_X1_rename_7 (sR S) b e v 8 0 (up2 I (En (sR S) b e) 1 v) v := rfl
  rw [E]
  refine FA.o hL (FA.rf.w hL (ly_E hL he).2.1 (by omega)) (fun z k hz hk => (rn_row (v := v) hL hO he 8 0 (up2 I (En (sR S) b e) 1 v) rfl).1 z (fun j hj => ne_k hz (ly_O hL he hj).2.1 (by omega)))
theorem fa_sb {S : MM} {b a : Nat} {I0 I : Mm} {v w : Int32} (hL : LY S b) (h : FA S b I0 I) (ka : sK S a = 7) : FA S b I0 (f_X6_setBits I a v w) := FA.o hL h (fun z k hz hk => by
  have n : z ≠ a := ne_k hz ka (by omega)
  unfold f_X6_setBits
  split <;> exact up2_row n)
