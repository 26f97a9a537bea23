/-! SIMULATION 34: between two calls; the two halves of a call -/
def GN (S : MM) (x m out : Nat) (A : Nat → Nat) (i : Nat) : Prop := TY S ∧ IR S ∧ sK S x = 8 ∧ sK S out = 18 ∧ sN S out = 1 ∧ MS S m A ∧ OC S ∧ ∃ nt F cl, BI S m A nt F cl ∧ NRl (sR S) x m A (sI S) (sI S) cl nt ∧ FRj (sI S) A nt F ∧ F ≤ i ∧ cl ≤ 1000 * i
/-- behind the class's half -/
def GH (S S1 : MM) (x m out : Nat) (A : Nat → Nat) : Prop := TY S1 ∧ IR S1 ∧ sK S1 x = 8 ∧ sK S1 out = 18 ∧ sN S1 out = 1 ∧ MS S1 m A ∧ OC S1 ∧ sI S1 m = sI S m ∧ ∀ k, k ∈ DM → sI S1 (A k) = sI S (A k)
theorem fo_m {S : MM} {m : Nat} {A : Nat → Nat} (hM : MS S m A) : fo (wk S m) = true := by rw [wk_17 hM.1 (by decide)]; rfl
theorem fo_A {S : MM} {m k : Nat} {A : Nat → Nat} (hM : MS S m A) (hk : k ∈ DM) : fo (wk S (A k)) = true := by
  have q := (show ∀ k ∈ DM, ¬ (kdM k = 10 ∧ lnM k = 200) ∧ fo (kdM k) = true by decide) k hk
  have h := hM.2.1 k hk
  unfold wk
  rw [h.2.1, h.2.2.1, if_neg q.1]
  exact q.2
theorem GH_w {S : MM} {x m out i : Nat} {A : Nat → Nat} {F : Mm} (h : GN S x m out A i) (ir : IR (wI S F)) (f : FO S (sI S) F) : GH S (wI S F) x m out A := by
  obtain ⟨h1, h2, h3, h4, h5, h6, h7, h8⟩ := h
  exact ⟨h1, ir, h3, h4, h5, h6, h7, f m (fo_m h6), fun k hk => f (A k) (fo_A h6 hk)⟩
theorem GH_0 {S : MM} {x m out i : Nat} {A : Nat → Nat} (h : GN S x m out A i) : GH S S x m out A := by
  obtain ⟨h1, h2, h3, h4, h5, h6, h7, h8⟩ := h
  exact ⟨h1, h2, h3, h4, h5, h6, h7, rfl, fun _ _ => rfl⟩
theorem GH_p {S S1 : MM} {x m out : Nat} {A : Nat → Nat} {v : Int64} (h : GH S S1 x m out A) : GH S (pJ S1 out 0 v) x m out A := h
theorem BI_h {S S1 : MM} {m nt F cl : Nat} {A : Nat → Nat} (e0 : sI S1 m = sI S m) (ek : ∀ k, k ∈ DM → sI S1 (A k) = sI S (A k)) (h : BI S m A nt F cl) : BI S1 m A nt F cl := by
  obtain ⟨⟨im, rv, m32, hnt, ut⟩, m39, m43, lv, s, cm, hs⟩ := h
  have tl : TL S1 A nt = TL S A nt := TL_c (fun j _ => by unfold th; rw [ek 27 (by decide), ek 28 (by decide), ek 29 (by decide), ek 30 (by decide)])
  refine ⟨⟨⟨fun k N hr j => by rw [ek k (ra_DM hr)]; exact im.1 k N hr j, fun j N hr => by rw [e0]; exact im.2.1 j N hr, fun j => by rw [ek 30 (by decide)]; exact im.2.2 j⟩, ?_, by rw [e0]; exact m32, hnt, ?_⟩, by rw [e0]; exact m39, by rw [e0]; exact m43, by rw [tl]; exact lv, s, ?_, by rw [tl]; exact hs⟩
  · unfold RV
    rw [ek 7 (by decide), ek 9 (by decide), ek 11 (by decide), ek 22 (by decide), ek 23 (by decide), ek 24 (by decide), ek 25 (by decide)]
    exact rv
  · unfold UT
    rw [tl, ek 25 (by decide)]
    exact ut
  · unfold CM
    rw [ek 42 (by decide)]
    exact cm
theorem no_ref {S : MM} {m z k : Nat} {A : Nat → Nat} (hM : MS S m A) (hz : sK S z = k) (h : k ≠ 9 ∧ k ≠ 10 ∧ k ≠ 11) : z ≠ m ∧ ∀ q ∈ DM, z ≠ A q := by
  refine ⟨ne_k hz hM.1 h.1, fun q hq e => ?_⟩
  have d := (show ∀ k ∈ DM, kdM k = 10 ∨ kdM k = 11 by decide) q hq
  have := (hM.2.1 q hq).2.1
  rw [← e, hz] at this
  rcases d with d | d
  · exact h.2.1 (this.trans d)
  · exact h.2.2 (this.trans d)
theorem rg_k {kd j N : Nat} (h : rg kd j = some N) : kd ≠ 9 ∧ kd ≠ 10 ∧ kd ≠ 11 := by
  unfold rg at h
  split at h
  all_goals first | decide | cases h
theorem FIN {S S1 S2 : MM} {x m out i nt F cl : Nat} {A : Nat → Nat} (h : GH S S1 x m out A) (k : sK S2 = sK S1) (n : sN S2 = sN S1) (r : sR S2 = sR S1) (fz : ∀ z, z ≠ m → (∀ k ∈ DM, z ≠ A k) → sI S2 z = sI S1 z) (nr : NRl (sR S1) x m A (sI S1) (sI S2) cl nt) (bi : BI S2 m A nt F cl) (fr : FRj (sI S2) A nt F) (hF : F ≤ i) (hc : cl ≤ 1000 * i) : GN S2 x m out A i := by
  obtain ⟨h1, h2, h3, h4, h5, h6, h7, _⟩ := h
  have same : ∀ z q, sK S1 z = q → q ≠ 9 ∧ q ≠ 10 ∧ q ≠ 11 → sI S2 z = sI S1 z := fun z q hz hq => fz z (no_ref h6 hz hq).1 (no_ref h6 hz hq).2
  refine ⟨?_, fun a kd j N ha hr => ?_, by rw [k]; exact h3, by rw [k]; exact h4, by rw [n]; exact h5, ?_, ?_, nt, F, cl, bi, ?_, fr, hF, hc⟩
  · unfold TY; rw [k, n, r]; exact h1
  · rw [k] at ha
    rw [same a kd ha (rg_k hr)]
    exact h2 a kd j N ha hr
  · unfold MS; rw [k, n, r]; exact h6
  · unfold OC rc; rw [k, n, r]; exact h7
  · rw [r]
    refine NR_I ⟨h1, h3⟩ ⟨fun z hz => ?_, fun z hz j _ => ?_, fun z hz j _ => ?_, fun z hz j _ => ?_, fun z hz => ?_⟩ nr
    · rcases hz with q | q | q
      · exact same z 5 q (by decide)
      · exact same z 6 q (by decide)
      · exact same z 7 q (by decide)
    · rw [same z 4 hz (by decide)]
    · rw [same z 1 hz (by decide)]
    · rw [same z 2 hz (by decide)]
    · rw [same z 8 hz (by decide)]
theorem fz_SM {W : List Nat} {S S' : MM} {m : Nat} {A : Nat → Nat} (hM : MS S m A) (e : SM W m A S S') : ∀ z, z ≠ m → (∀ k ∈ DM, z ≠ A k) → sI S' z = sI S z := fun z h1 h2 => e.2.2.2.2.1 z h1 (fun k _ y => by
  by_cases q : k ∈ DM
  · exact h2 k q y
  · rw [hM.2.2.2 k q] at y; exact h1 y)
/-- the relation, seen from the class's half on -/
theorem NR_h {S S1 : MM} {x m out cl nt : Nat} {A : Nat → Nat} {R : Nat → Nat → Option Nat} {I : Mm} (hh : GH S S1 x m out A) (h : NRl R x m A I (sI S) cl nt) : NRl R x m A I (sI S1) cl nt := NR_J h (fun k j a => by rw [hh.2.2.2.2.2.2.2.2 k (dm_DM a)]) (fun j _ => by rw [hh.2.2.2.2.2.2.2.1])
theorem r_same {S S1 S2 : MM} {x m out i : Nat} {A : Nat → Nat} (hG : GN S x m out A i) (hh : GH S S1 x m out A) (er : sR S1 = sR S) (ca : CA S (sI S) (sI S1)) (e : SM [0] m A S1 S2) (im : IM S2 m A) : GN S2 x m out A (i + 1) := by
  obtain ⟨g1, g2, g3, g4, g5, g6, g7, nt, F, cl, bi, nr, fr, hF, hc⟩ := hG
  have hM1 := hh.2.2.2.2.2.1
  have bi1 := BI_h hh.2.2.2.2.2.2.2.1 hh.2.2.2.2.2.2.2.2 bi
  have nr1 := NR_h hh (NR_I ⟨g1, g3⟩ ca nr)
  have r2 : ∀ k, k ∈ DM → sI S2 (A k) = sI S1 (A k) := fun k hk => SM_a e hM1 hk (by
    intro z
    have : k = 0 := by simpa using z
    subst this
    exact absurd hk (by decide))
  refine FIN hh e.1 e.2.1 e.2.2.1 (fz_SM hM1 e) (NR_J (by rw [er]; exact nr1) (fun k j a => by rw [r2 k (dm_DM a)]) (fun j hj => e.2.2.2.2.2 j (by simpa using hj))) (BI_SM bi1 hM1 e im (by decide)) (fun t ht => ?_) (by omega) (by omega)
  rw [r2 30 (by decide), hh.2.2.2.2.2.2.2.2 30 (by decide)]
  exact fr t ht
/-- the reference's half, where no thing and no frame is touched -/
theorem r_fin {W : List Nat} {S S1 S2 : MM} {x m out i : Nat} {A : Nat → Nat} (hG : GN S x m out A i) (hh : GH S S1 x m out A) (e : SM W m A S1 S2) (im : IM S2 m A) (hw : ∀ k ∈ [7, 9, 11, 22, 23, 24, 25, 27, 28, 29, 30, 32, 39, 42, 43], k ∉ W) (nr : ∀ cl nt, NRl (sR S) x m A (sI S) (sI S) cl nt → NRl (sR S) x m A (sI S) (sI S1) cl nt → NRl (sR S1) x m A (sI S1) (sI S2) cl nt) : GN S2 x m out A (i + 1) := by
  obtain ⟨g1, g2, g3, g4, g5, g6, g7, nt, F, cl, bi, n0, fr, hF, hc⟩ := hG
  have hM1 := hh.2.2.2.2.2.1
  have bi1 := BI_h hh.2.2.2.2.2.2.2.1 hh.2.2.2.2.2.2.2.2 bi
  refine FIN hh e.1 e.2.1 e.2.2.1 (fz_SM hM1 e) (nr cl nt n0 (NR_h hh n0)) (BI_SM bi1 hM1 e im hw) (fun t ht => ?_) (by omega) (by omega)
  rw [SM_a e hM1 (by decide) (hw 30 (by decide)), hh.2.2.2.2.2.2.2.2 30 (by decide)]
  exact fr t ht
theorem ly_of {S : MM} {x m out i : Nat} {A : Nat → Nat} (h : GN S x m out A i) : LY S x := ⟨h.1, h.2.2.1⟩
/-! system -/
def MDs (S S1 : MM) (x : Nat) (v w : Int32) : Prop := (sR S1 = sR S ∧ sI S1 = sI S ∧ (SIB v w ∨ ∃ j, j < 2 ∧ v = nI j ∧ ¬ SIB v w ∧ sI S (En (sR S) x (1 - j)) 1 = w)) ∨ ∃ j, j < 2 ∧ v = nI j ∧ ¬ SIB v w ∧ ¬ sI S (En (sR S) x (1 - j)) 1 = w ∧ sR S1 = sR S ∧ sI S1 = f_X7_noteChange (f_X1_rename (sI S) (sR S) x j w) (sR S) x
theorem fo_rn {S : MM} {b e : Nat} {I : Mm} {v : Int32} (hL : LY S b) (hO : OC S) (he : e < 2) : FO S I (f_X1_rename I (sR S) b e v) := fun z hz => by
  have E : f_X1_rename I (sR S) b e v = g_X1_rename_7 (sR S) b e v 8 0 (up2 I (En (sR S) b e) 1 v) v := rfl
  rw [E, (rn_row (v := v) hL hO he 8 0 (up2 I (En (sR S) b e) 1 v) rfl).1 z (fun j hj => fo_ne hz (ly_O hL he hj).2.1 (by decide) rfl), up2_row (fo_ne hz (ly_E hL he).2.1 (by decide) rfl)]
theorem k_system {Q : Option Value → MM → Prop} {S : MM} {x m out i : Nat} {A : Nat → Nat} {v w : Int32} (hG : GN S x m out A i) (K : ∀ k S1, GH S S1 x m out A → MDs S S1 x v w → Q (some (.int k)) S1) : wL_system [.ref x, .int v, .int w, .ref out] S Q := by
  have hL := ly_of hG
  have hO := hG.2.2.2.2.2.2.1
  refine Exists.intro 3 (And.intro hL.2 (And.intro ⟨by decide, by decide⟩ (c_system hL hG.2.1 (fun h q => ?_) (fun j hj ej nb h q => ?_) (fun j hj ej nb h ir => ?_))))
  · rw [hd2_1]; exact K _ S (GH_0 hG) (Or.inl ⟨rfl, rfl, Or.inl h⟩)
  · rw [hd2_2]; exact K _ S (GH_0 hG) (Or.inl ⟨rfl, rfl, Or.inr ⟨j, hj, ej, nb, h⟩⟩)
  · have g : GH S (wI S (g_X7_system_53 (sI S) (sR S) x j 0 w).1) x m out A := GH_w hG ir ((fo_rn hL hO hj).tr (fo_nc hL))
    exact And.intro hG.2.2.2.1 (And.intro (by show vp_in 0 (sN S out); rw [hG.2.2.2.2.1]; exact in_0 (by decide)) (K 0 (pJ (wI S (g_X7_system_53 (sI S) (sR S) x j 0 w).1) out 0 _) (GH_p g) (Or.inr ⟨j, hj, ej, nb, h, rfl, rfl⟩)))
theorem ca_e {S : MM} {I I' : Mm} (h : I' = I) : CA S I I' := by rw [h]; exact CA.rf
theorem r_system {Q : Option Value → MM → Prop} {S S1 : MM} {x m out i : Nat} {A : Nat → Nat} {v w : Int32} (hG : GN S x m out A i) (hh : GH S S1 x m out A) (md : MDs S S1 x v w) (K : ∀ k S2, GN S2 x m out A (i + 1) → Q (some (.int k)) S2) : wX8_system [.ref m, .int v, .int w] S1 Q := by
  have hM1 := hh.2.2.2.2.2.1
  have hL := ly_of hG
  have hO := hG.2.2.2.2.2.2.1
  obtain ⟨g1, g2, g3, g4, g5, g6, g7, nt, F, cl, bi, n0, fr, hF, hc⟩ := id hG
  have im1 := (BI_h hh.2.2.2.2.2.2.2.1 hh.2.2.2.2.2.2.2.2 bi).1.1
  have e1 : ∀ j, j < 2 → sI S (En (sR S) x j) 1 = sI S1 (A 1) j := fun j hj => by rw [hh.2.2.2.2.2.2.2.2 1 (by decide)]; exact (n0.2.2.2.2.1 j hj).1
  refine z_Msystem hM1 im1 (fun h S2 e im _ => ?_) (fun j hj ej nb h S2 e im _ => ?_) (fun j hj ej nb h S2 e im _ ea => ?_)
  · rcases md with ⟨er, ei, _⟩ | ⟨j, hj, ej, nb, _⟩
    · exact K _ S2 (r_same hG hh er (ca_e ei) e im)
    · exact absurd h nb
  · rcases md with ⟨er, ei, _⟩ | ⟨j', hj', ej', _, nh, _⟩
    · exact K _ S2 (r_same hG hh er (ca_e ei) e im)
    · have := nI_inj (by omega) (by omega) (ej.symm.trans ej')
      subst this
      exact absurd ((e1 (1 - j) (by omega)).trans h) nh
  · rcases md with ⟨er, ei, q | ⟨j', hj', ej', _, hw⟩⟩ | ⟨j', hj', ej', _, _, er, ei⟩
    · exact absurd q nb
    · have := nI_inj (by omega) (by omega) (ej.symm.trans ej')
      subst this
      exact absurd ((e1 (1 - j) (by omega)).symm.trans hw) h
    · have := nI_inj (by omega) (by omega) (ej.symm.trans ej')
      subst this
      refine K _ S2 (r_fin hG hh e im (by decide) (fun cl nt n0 n1 => ?_))
      rw [er, ei]
      refine NR_I hL (ca_nc hL) (sys_sim (w := w) hL hO hj n1 (fun q => ?_) (fun k q a b => by rw [SM_a e hM1 (dm_DM a) (by simp; omega)]) (e.2.2.2.2.2 43 (by decide)) (e.2.2.2.2.2 32 (by decide)))
      rw [ea]
      unfold upd
      rfl
/-! limit -/
def MDl (S S1 : MM) (x : Nat) (v w : Int32) : Prop := (sR S1 = sR S ∧ sI S1 = sI S ∧ LIB v w) ∨ ∃ j, j < 2 ∧ v = nI j ∧ ¬ LIB v w ∧ sR S1 = sR S ∧ sI S1 = f_X7_noteChange (up2 (sI S) (En (sR S) x j) 2 w) (sR S) x
theorem k_limit {Q : Option Value → MM → Prop} {S : MM} {x m out i : Nat} {A : Nat → Nat} {v w : Int32} (hG : GN S x m out A i) (K : ∀ k S1, GH S S1 x m out A → MDl S S1 x v w → Q (some (.int k)) S1) : wL_limit [.ref x, .int v, .int w, .ref out] S Q := by
  have hL := ly_of hG
  refine Exists.intro 3 (And.intro hL.2 (And.intro ⟨by decide, by decide⟩ (c_limit hL hG.2.1 (fun h q => ?_) (fun j hj ej nb ir => ?_))))
  · rw [hd1_1]; exact K _ S (GH_0 hG) (Or.inl ⟨rfl, rfl, h⟩)
  · have g : GH S (wI S (g_X7_limit_28 (sI S) (sR S) x j 0 w).1) x m out A := GH_w hG ir ((FO.rf.w (ly_E hL hj).2.1 (by decide) rfl).tr (fo_nc hL))
    exact And.intro hG.2.2.2.1 (And.intro (by show vp_in 0 (sN S out); rw [hG.2.2.2.2.1]; exact in_0 (by decide)) (K 0 (pJ (wI S (g_X7_limit_28 (sI S) (sR S) x j 0 w).1) out 0 _) (GH_p g) (Or.inr ⟨j, hj, ej, nb, rfl, rfl⟩)))
theorem r_limit {Q : Option Value → MM → Prop} {S S1 : MM} {x m out i : Nat} {A : Nat → Nat} {v w : Int32} (hG : GN S x m out A i) (hh : GH S S1 x m out A) (md : MDl S S1 x v w) (K : ∀ k S2, GN S2 x m out A (i + 1) → Q (some (.int k)) S2) : wX8_limit [.ref m, .int v, .int w] S1 Q := by
  have hM1 := hh.2.2.2.2.2.1
  have hL := ly_of hG
  have hO := hG.2.2.2.2.2.2.1
  obtain ⟨g1, g2, g3, g4, g5, g6, g7, nt, F, cl, bi, n0, fr, hF, hc⟩ := id hG
  have im1 := (BI_h hh.2.2.2.2.2.2.2.1 hh.2.2.2.2.2.2.2.2 bi).1.1
  refine z_Mlimit hM1 im1 (fun h S2 e im _ => ?_) (fun j hj ej nb S2 e im _ ea => ?_)
  · rcases md with ⟨er, ei, _⟩ | ⟨j, hj, ej, nb, _⟩
    · exact K _ S2 (r_same hG hh er (ca_e ei) e im)
    · exact absurd h nb
  · rcases md with ⟨er, ei, q⟩ | ⟨j', hj', ej', _, er, ei⟩
    · exact absurd q nb
    · have := nI_inj (by omega) (by omega) (ej.symm.trans ej')
      subst this
      refine K _ S2 (r_fin hG hh e im (by decide) (fun cl nt n0 n1 => ?_))
      rw [er, ei]
      refine NR_I hL (ca_nc hL) (lim_sim (w := w) hL hO hj n1 (fun q => ?_) (fun k q a b => by rw [SM_a e hM1 (dm_DM a) (by simp; omega)]) (e.2.2.2.2.2 43 (by decide)) (e.2.2.2.2.2 32 (by decide)))
      rw [ea]
      unfold upd
      rfl
