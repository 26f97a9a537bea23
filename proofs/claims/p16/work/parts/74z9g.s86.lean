/-! SIMULATION 86: meant is kept -/
def CMt (S : MM) (x : Nat) : Prop := ∀ c, c < 8 → sI S (Cb (sR S) x c) 4 = mcl (sI S) (sR S) x c
def GQ (S : MM) (x m out : Nat) (A : Nat → Nat) (i : Nat) : Prop := GP S x m out A i ∧ CMt S x
theorem cm_fs {S S1 S2 : MM} {x m out : Nat} {A : Nat → Nat} (hh : GH S S1 x m out A) (h : CMt S1 x) (fs : FS m A S1 S2) : CMt S2 x := by
  have hM := MS_b hh
  have hL : LY S1 x := ⟨hh.1, hh.2.2.1⟩
  obtain ⟨f1, f2, f3, f4, f5⟩ := fs
  have nd : ∀ z q, sK S1 z = q → q ≠ 9 ∧ q ≠ 10 ∧ q ≠ 11 → sI S2 z = sI S1 z := fun z q hz hq => f5 z (no_ref hM hz hq).1 (no_ref hM hz hq).2
  have ag : AGm S1 x (sI S1) (sI S2) := ⟨fun z hz => nd z 7 hz (by decide), fun c hc => by rw [nd _ 1 (ly_C hL hc).2.1 (by decide)], fun e he k _ => by rw [nd _ 2 (ly_E hL he).2.1 (by decide)]⟩
  intro c hc
  rw [f3, nd _ 1 (ly_C hL hc).2.1 (by decide), h c hc, mcl_c hL hc ag]
theorem cm_same {S S1 : MM} {x : Nat} (h : CMt S x) (er : sR S1 = sR S) (ei : sI S1 = sI S) : CMt S1 x := by
  unfold CMt
  rw [er, ei]
  exact h
theorem cm_nc {S S1 : MM} {x m out : Nat} {A : Nat → Nat} {I : Mm} (hh : GH S S1 x m out A) (ei : sI S1 = f_X7_noteChange I (sR S1) x) : CMt S1 x := by
  intro c hc
  rw [ei]
  exact nc_mcl ⟨hh.1, hh.2.2.1⟩ hh.2.2.2.2.2.2.1 hc
theorem cm_s {S S1 : MM} {x m out : Nat} {A : Nat → Nat} {v w : Int32} (h : CMt S x) (hh : GH S S1 x m out A) (md : MDs S S1 x v w) : CMt S1 x := by
  rcases md with ⟨er, ei, _⟩ | ⟨j, hj, _, _, _, er, ei⟩
  · exact cm_same h er ei
  · rw [← er] at ei; exact cm_nc hh ei
theorem cm_l {S S1 : MM} {x m out : Nat} {A : Nat → Nat} {v w : Int32} (h : CMt S x) (hh : GH S S1 x m out A) (md : MDl S S1 x v w) : CMt S1 x := by
  rcases md with ⟨er, ei, _⟩ | ⟨j, hj, _, _, er, ei⟩
  · exact cm_same h er ei
  · rw [← er] at ei; exact cm_nc hh ei
theorem cm_p {S S1 : MM} {x m out : Nat} {A : Nat → Nat} {v w k p : Int32} (h : CMt S x) (hh : GH S S1 x m out A) (md : MDp S S1 x v w k p) : CMt S1 x := by
  rcases md with ⟨er, ei, _⟩ | ⟨j, i, hj, hi, _, _, _, er, ei⟩
  · exact cm_same h er ei
  · rw [← er] at ei; exact cm_nc hh ei
theorem cm_m {S S1 : MM} {x m out a b : Nat} {A : Nat → Nat} {v w : Int32} (h : CMt S x) (hh : GH S S1 x m out A) (md : MDm S S1 x a b v w) : CMt S1 x := by
  rcases md with ⟨er, ei, _⟩ | ⟨j, i, hj, hi, _, _, _, er, ei⟩
  · exact cm_same h er ei
  · rw [← er] at ei; exact cm_nc hh ei
theorem cm_o {S S1 : MM} {x m out : Nat} {A : Nat → Nat} {v w p : Int32} (h : CMt S x) (hh : GH S S1 x m out A) (md : MDo S S1 x v w p) : CMt S1 x := by
  rcases md with ⟨er, ei, _⟩ | ⟨j, i, hj, hi, _, _, _, er, ei⟩
  · exact cm_same h er ei
  · rw [← er] at ei; exact cm_nc hh ei
theorem cm_g {S S1 : MM} {x m out u : Nat} {A : Nat → Nat} {v : Int32} (h : CMt S x) (hh : GH S S1 x m out A) (md : MDg S S1 x u v) : CMt S1 x := by
  rcases md with ⟨er, ei, _⟩ | ⟨c, hc, _, _, _, er, ei⟩
  · exact cm_same h er ei
  · unfold g_X7_light_49 at ei
    rw [← er] at ei
    by_cases hu : u = 0
    · rw [if_pos hu] at ei
      exact cm_nc hh ei
    · rw [if_neg hu] at ei
      exact cm_nc hh ei
theorem cm_u {S S1 : MM} {x m out : Nat} {A : Nat → Nat} {v : Int32} (h : CMt S x) (hh : GH S S1 x m out A) (md : MDu S S1 x v) : CMt S1 x := by
  rcases md with ⟨er, ei, _⟩ | ⟨c, p0, p1, S', hc, _, _, _, _, _, er, ei⟩
  · exact cm_same h er ei
  · rw [← er] at ei; exact cm_nc hh ei
theorem cm_q {S S1 : MM} {x m out : Nat} {A : Nat → Nat} {v w u t : Int32} (h : CMt S x) (hh : GH S S1 x m out A) (md : MDq S S1 x v w u t) : CMt S1 x := by
  rcases md with ⟨er, ei, _⟩ | ⟨c, i, k, Sa, Sb, _, _, _, _, _, _, _, _, _, er, ei⟩
  · exact cm_same h er ei
  · rw [← er] at ei; exact cm_nc hh ei
/-- where neither side touches what meant hangs on -/
theorem cm_km {S S2 : MM} {x m out i i2 : Nat} {A : Nat → Nat} (hQ : GQ S x m out A i) (hP : GP S2 x m out A i2) (eC : ∀ c, c < 8 → sI S2 (Cb (sR S2) x c) 4 = sI S (Cb (sR S) x c) 4) (km : ∀ k ∈ KMt, sI S2 (A k) = sI S (A k)) : GQ S2 x m out A i2 := by
  refine ⟨hP, fun c hc => ?_⟩
  obtain ⟨g1, g2, g3, g4, g5, g6, g7, nt, F, cl, bi, n0, fr, hF, hc0⟩ := id hQ.1.1
  obtain ⟨k1, k2, k3, k4, k5, k6, k7, nt2, F2, cl2, bi2, n2, fr2, hF2, hc2⟩ := id hP.1
  rw [eC c hc, hQ.2 c hc, mcl_m n0 hc, mcl_m n2 hc, isM_c km]
theorem cm_tick {S S1 S2 : MM} {x m out i k i2 : Nat} {A : Nat → Nat} (hQ : GQ S x m out A i) (hh : GH S S1 x m out A) (er : sR S1 = sR S) (ei : sI S1 = itC (sR S) x k (sI S)) (hP : GP S2 x m out A i2) (fs : FS m A S1 S2) (km : ∀ k ∈ KMt, sI S2 (A k) = sI S1 (A k)) : GQ S2 x m out A i2 := by
  have hL := ly_of hQ.1.1
  have hM := hQ.1.1.2.2.2.2.2.1
  refine cm_km hQ hP (fun c hc => ?_) (fun k hk => (km k hk).trans (hh.2.2.2.2.2.2.2.2 k ((show ∀ k ∈ KMt, k ∈ DM by decide) k hk)))
  have kC := (ly_C hL hc).2.1
  rw [fs.2.2.1, er, fs.2.2.2.2 _ (no_ref hM kC (by decide)).1 (no_ref hM kC (by decide)).2, ei, cb_itC hL hc]
theorem cm_give {S Sa S' S2 : MM} {x m out i i2 c e a nf : Nat} {A : Nat → Nat} {v0 v1 v3 : Int32} {z : Int64} (hQ : GQ S x m out A i) (hc : c < 8) (he : e < 2) (af : AF S Sa (Ln (sR S) x c e) a nf) (ch : CHn Sa S' a (En (sR S) x e) x v0 v1 v3) (gv : GV S S') (gh : GH S S' x m out A) (hP : GP S2 x m out A i2) (fs : FS m A (pJ S' out 0 z) S2) (km : ∀ k ∈ KMt, sI S2 (A k) = sI S (A k)) : GQ S2 x m out A i2 := by
  have hL := ly_of hQ.1.1
  have hM := hQ.1.1.2.2.2.2.2.1
  have rs : ∀ z, sK S z ≠ 0 → sK S z ≠ 14 → sR S' z = sR S z := fun z h0 h14 => (gv.1 z h0).2.2.2.2 (by
    unfold rc
    rw [if_neg h14]
    split
    · exact Or.inl (by decide)
    · exact Or.inr rfl)
  have le := lye14 (R' := sR S') hL rs
  obtain ⟨f, hf, e4, rr, ii, l1, l5, new⟩ := AF_f hL hc he af
  refine cm_km hQ hP (fun d hd => ?_) km
  have kC := (ly_C hL hd).2.1
  have ka : sK S a = 0 ∨ sK S a = 3 := by
    rcases new with n | n
    · exact Or.inl n
    · refine Or.inr ?_
      have := ly_nn (j := (f + nf) % 200) hL.1 (ly_fa hL hc he).2.1 rfl (by rw [n]; simp)
      rw [n] at this
      exact this
  have na : Cb (sR S) x d ≠ a := fun y => by rw [y] at kC; omega
  have e1 : sR S2 = sR S' := fs.2.2.1
  have e2 : sI S2 (Cb (sR S) x d) = sI S' (Cb (sR S) x d) := fs.2.2.2.2 _ (no_ref hM kC (by decide)).1 (no_ref hM kC (by decide)).2
  rw [e1, le.C d hd, e2, ch.2.2.1 _ na (ne_k kC (ly_E hL he).2.1 (by decide)) (ne_k kC hL.2 (by decide)), ii _ (by rw [kC]; decide) (ne_k kC (ly_N hL hc he).2.1 (by decide))]
theorem CMt_0 {S : MM} {x aE aC e0 e1 : Nat} (hB : BQ0 S x aE aC e0 e1) : CMt S x := fun c hc => by
  have h := (ln_0 hB hc (show 0 < 2 by decide)).2.1
  have e3 : sI S (Cb (sR S) x c) 3 = 0 := h.2.1
  have e4 : sI S (Cb (sR S) x c) 4 = 0 := h.2.2.1
  rw [e4]
  unfold mcl
  rw [agr_eq, if_pos e3, if_pos (show nI 0 = 0 from rfl)]
  rfl
