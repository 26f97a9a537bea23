/-! BETWEEN TWO CALLS OF THE LAW: what class and reference keep -/
theorem hd1_1 {E : String} {k : Kt} : hd1 E k E = k := if_pos rfl
theorem hd2_1 {E E2 : String} {k k2 : Kt} : hd2 E E2 k k2 E = k := if_pos rfl
theorem hd2_2 {k k2 : Kt} : hd2 eI eS k k2 eS = k2 := by
  unfold hd2
  rw [if_neg (by decide), if_pos rfl]
def GJ (V : List Nat) (S S' : MM) : Prop := ∀ a, sK S a ≠ 0 → sK S' a = sK S a ∧ sN S' a = sN S a ∧ (fo (wk S a) = true → sI S' a = sI S a ∧ sR S' a = sR S a) ∧ (∀ j, wj S a j ∈ V → sI S' a j = sI S a j) ∧ (rc S a ∈ V ∨ rc S a = 0 → sR S' a = sR S a)
theorem GJ.of {V V' : List Nat} {S S' : MM} (h : GL V S S') (hv : ∀ k ∈ V', k ∈ V) : GJ V' S S' := fun a ha => ⟨(h a ha).1, (h a ha).2.1, fun hf => ⟨((h a ha).2.2.1 hf).1, ((h a ha).2.2.1 hf).2.1⟩, fun j hj => (h a ha).2.2.2.1 j (hv _ hj), fun hr => (h a ha).2.2.2.2 (hr.elim (fun z => Or.inl (hv _ z)) Or.inr)⟩
theorem GJ.sh {V W : List Nat} {S S' : MM} (h : SH W S S') (hw : ∀ k ∈ W, fo k = false ∧ k ∉ V) : GJ V S S' := GJ.of (GL.of h hw) (fun _ h => h)
theorem GJ.weak {V V' : List Nat} {S S' : MM} (h : GJ V S S') (hv : ∀ k ∈ V', k ∈ V) : GJ V' S S' := fun a ha => ⟨(h a ha).1, (h a ha).2.1, (h a ha).2.2.1, fun j hj => (h a ha).2.2.2.1 j (hv _ hj), fun hr => (h a ha).2.2.2.2 (hr.elim (fun z => Or.inl (hv _ z)) Or.inr)⟩
theorem GJ.rf {V : List Nat} {S : MM} : GJ V S S := fun _ _ => ⟨rfl, rfl, fun _ => ⟨rfl, rfl⟩, fun _ _ => rfl, fun _ => rfl⟩
def V0 : List Nat := [21, 22, 23, 24, 117]
def VQ : List Nat := [21, 22]
theorem GJ.tr {V : List Nat} {S S1 S2 : MM} (h : GJ V S S1) (k : GJ V S1 S2) : GJ V S S2 := fun a ha => by
  obtain ⟨h1, h2, h3, h4, h5⟩ := h a ha
  obtain ⟨k1, k2, k3, k4, k5⟩ := k a (by rw [h1]; exact ha)
  refine ⟨k1.trans h1, k2.trans h2, fun hf => ?_, fun j hj => ?_, fun hr => ?_⟩
  · obtain ⟨p1, p2⟩ := h3 hf
    obtain ⟨q1, q2⟩ := k3 (by unfold wk at hf ⊢; rw [h1, h2]; exact hf)
    exact ⟨q1.trans p1, q2.trans p2⟩
  · exact (k4 j (by unfold wj at hj ⊢; rw [h1, h2]; exact hj)).trans (h4 j hj)
  · exact (k5 (by unfold rc at hr ⊢; rw [h1, h2]; exact hr)).trans (h5 hr)
theorem lnM_200 : ∀ k ∈ DM, lnM k ≠ 200 := by decide
theorem kdM_fo (k : Nat) : fo (kdM k) = true := by unfold kdM; split <;> rfl
theorem kdM_0 (k : Nat) : kdM k ≠ 0 := by unfold kdM; split <;> decide
theorem MS_GJ {S S' : MM} {m : Nat} {A : Nat → Nat} {V : List Nat} (hM : MS S m A) (g : GJ V S S') : MS S' m A ∧ sI S' m = sI S m ∧ ∀ k, sI S' (A k) = sI S (A k) := by
  have gm := g m (by rw [hM.1]; decide)
  have fm : fo (wk S m) = true := by unfold wk; rw [hM.1, if_neg (fun z => absurd z.1 (by decide))]; rfl
  have gm2 := gm.2.2.1 fm
  have ga : ∀ k ∈ DM, sK S' (A k) = sK S (A k) ∧ sN S' (A k) = sN S (A k) ∧ sI S' (A k) = sI S (A k) := fun k hk => by
    obtain ⟨h1, h2, h3, h4⟩ := hM.2.1 k hk
    have q := g (A k) (by rw [h2]; exact kdM_0 k)
    have f : fo (wk S (A k)) = true := by
      unfold wk
      rw [h2, h3, if_neg (fun z => lnM_200 k hk z.2)]
      exact kdM_fo k
    exact ⟨q.1, q.2.1, (q.2.2.1 f).1⟩
  refine ⟨⟨gm.1.trans hM.1, fun k hk => ?_, hM.2.2.1, hM.2.2.2⟩, gm2.1, fun k => ?_⟩
  · obtain ⟨h1, h2, h3, h4⟩ := hM.2.1 k hk
    exact ⟨by rw [gm2.2]; exact h1, (ga k hk).1.trans h2, (ga k hk).2.1.trans h3, h4⟩
  · by_cases hk : k ∈ DM
    · exact (ga k hk).2.2
    · rw [hM.2.2.2 k hk]
      exact gm2.1
theorem BI_eq {S S' : MM} {m nt F cl : Nat} {A : Nat → Nat} (h : BI S m A nt F cl) (em : sI S' m = sI S m) (ek : ∀ k, sI S' (A k) = sI S (A k)) : BI S' m A nt F cl := by
  have t : ∀ n, TL S' A n = TL S A n := fun n => TL_c (fun j _ => by unfold th; rw [ek, ek, ek, ek])
  unfold BI IV IM UT RV CM at h ⊢
  simp only [em, ek, t]
  exact h
def GI (S : MM) (x m out : Nat) (A : Nat → Nat) (i : Nat) : Prop := TY S ∧ IR S ∧ sK S x = 8 ∧ sK S out = 18 ∧ sN S out = 1 ∧ MS S m A ∧ ∃ nt F cl, BI S m A nt F cl ∧ F ≤ i ∧ cl ≤ 1000 * i
theorem GI_c {S S' : MM} {x m out i : Nat} {A : Nat → Nat} {V : List Nat} (h : GI S x m out A i) (t : TY S') (r : IR S') (g : GJ V S S') : GI S' x m out A i := by
  obtain ⟨h1, h2, h3, h4, h5, h6, nt, F, cl, h7, h8, h9⟩ := h
  have go := g out (by rw [h4]; decide)
  obtain ⟨m1, m2, m3⟩ := MS_GJ h6 g
  exact ⟨t, r, (g x (by rw [h3]; decide)).1.trans h3, go.1.trans h4, go.2.1.trans h5, m1, nt, F, cl, BI_eq h7 m2 m3, h8, h9⟩
theorem SM_row {W : List Nat} {S S' : MM} {m a kd : Nat} {A : Nat → Nat} (hM : MS S m A) (e : SM W m A S S') (hk : sK S a = kd) (h9 : kd ≠ 9) (h10 : kd ≠ 10) (h11 : kd ≠ 11) : sI S' a = sI S a := by
  refine e.2.2.2.2.1 a (fun z => h9 (by rw [← hk, z, hM.1])) (fun k _ z => ?_)
  by_cases hd : k ∈ DM
  · have := (hM.2.1 k hd).2.1
    rw [← z, hk] at this
    unfold kdM at this
    split at this
    · exact h11 this
    · exact h10 this
  · rw [hM.2.2.2 k hd] at z
    exact h9 (by rw [← hk, z, hM.1])
theorem rg_kd {kd j N : Nat} (h : rg kd j = some N) : kd = 4 ∨ kd = 2 := by
  unfold rg at h
  split at h <;> simp at h <;> omega
theorem GI_r {W : List Nat} {S S' : MM} {x m out i nt F cl : Nat} {A : Nat → Nat} (h : GI S x m out A i) (e : SM W m A S S') (hB : BI S' m A nt F cl) (hF : F ≤ i + 1) (hc : cl ≤ 1000 * (i + 1)) : GI S' x m out A (i + 1) := by
  obtain ⟨h1, h2, h3, h4, h5, h6, -⟩ := h
  refine ⟨?_, fun a kd j N ha hr => ?_, SM_k e h3, SM_k e h4, SM_n e h5, MS_SM h6 e, nt, F, cl, hB, hF, hc⟩
  · unfold TY at h1 ⊢
    rw [e.1, e.2.1, e.2.2.1]
    exact h1
  · rw [e.1] at ha
    rw [SM_row h6 e ha (by rcases rg_kd hr with z | z <;> rw [z] <;> decide) (by rcases rg_kd hr with z | z <;> rw [z] <;> decide) (by rcases rg_kd hr with z | z <;> rw [z] <;> decide)]
    exact h2 a kd j N ha hr
theorem l_system_s {Q : Option Value → MM → Prop} {S : MM} {x out : Nat} {v : Int32} {w : Int32}  (hT : TY S) (ir : IR S) (kx : sK S x = 8) (o1 : sK S out = 18) (o2 : sN S out = 1) (K : ∀ k S', TY S' → IR S' → GJ [22, 23, 24, 117] S S' → Q (some (.int k)) S') : wL_system [.ref x, .int v, .int w, .ref out] S Q := by
  refine Exists.intro 3 (And.intro kx (And.intro ⟨by decide, by decide⟩ (z_X7_system hT ir kx (fun r S' s i => ?_) (fun S' s i q => ?_) (fun S' s i q => ?_))))
  · have j0 : GJ [22, 23, 24, 117] S S' := (GJ.sh (V := [22, 23, 24, 117]) s (by decide))
    have go := j0 out (by rw [o1]; decide)
    have t0 : TY S' := TY_SH hT s
    exact And.intro (go.1.trans o1) (And.intro (by show vp_in 0 (sN S' out); rw [go.2.1, o2]; exact in_0 (by decide)) (K 0 (pJ S' out 0 r.toInt64) t0 i j0))
  · rw [hd2_1]; exact K 1 S' (TY_SH hT s) i (GJ.sh (V := [22, 23, 24, 117]) s (by decide))
  · rw [hd2_2]; exact K 2 S' (TY_SH hT s) i (GJ.sh (V := [22, 23, 24, 117]) s (by decide))
theorem l_limit_s {Q : Option Value → MM → Prop} {S : MM} {x out : Nat} {v : Int32} {w : Int32}  (hT : TY S) (ir : IR S) (kx : sK S x = 8) (o1 : sK S out = 18) (o2 : sN S out = 1) (K : ∀ k S', TY S' → IR S' → GJ [21, 23, 24, 117] S S' → Q (some (.int k)) S') : wL_limit [.ref x, .int v, .int w, .ref out] S Q := by
  refine Exists.intro 3 (And.intro kx (And.intro ⟨by decide, by decide⟩ (z_X7_limit hT ir kx (fun r S' s i => ?_) (fun S' s i q => ?_))))
  · have j0 : GJ [21, 23, 24, 117] S S' := (GJ.sh (V := [21, 23, 24, 117]) s (by decide))
    have go := j0 out (by rw [o1]; decide)
    have t0 : TY S' := TY_SH hT s
    exact And.intro (go.1.trans o1) (And.intro (by show vp_in 0 (sN S' out); rw [go.2.1, o2]; exact in_0 (by decide)) (K 0 (pJ S' out 0 r.toInt64) t0 i j0))
  · rw [hd1_1]; exact K 1 S' (TY_SH hT s) i (GJ.sh (V := [21, 23, 24, 117]) s (by decide))
theorem l_plug {Q : Option Value → MM → Prop} {S : MM} {x : Nat} {v : Int32} {w : Int32} {u : Int32} {t : Int32}  (hT : TY S) (ir : IR S) (kx : sK S x = 8)  (K : ∀ k S', TY S' → IR S' → GJ VQ S S' → Q (some (.int k)) S') : wL_plug [.ref x, .int v, .int w, .int u, .int t] S Q := by
  refine Exists.intro 3 (And.intro kx (And.intro ⟨by decide, by decide⟩ (z_X7_plug hT ir kx (fun S' g ty i => ?_) (fun S' g ty i q => ?_) (fun S' g ty i q => ?_))))
  · exact K 0 S' ty i (GJ.of (V' := VQ) g (by decide))
  · rw [hd2_1]; exact K 1 S' ty i (GJ.of (V' := VQ) g (by decide))
  · rw [hd2_2]; exact K 2 S' ty i (GJ.of (V' := VQ) g (by decide))
theorem l_pull {Q : Option Value → MM → Prop} {S : MM} {x : Nat} {v : Int32}  (hT : TY S) (ir : IR S) (kx : sK S x = 8)  (K : ∀ k S', TY S' → IR S' → GJ VQ S S' → Q (some (.int k)) S') : wL_pull [.ref x, .int v] S Q := by
  refine Exists.intro 3 (And.intro kx (And.intro ⟨by decide, by decide⟩ (z_X7_pull hT ir kx (fun S' g t i => ?_) (fun S' g t i q => ?_) (fun S' g t i q => ?_))))
  · exact K 0 S' t i (GJ.of (V' := VQ) g (by decide))
  · rw [hd2_1]; exact K 1 S' t i (GJ.of (V' := VQ) g (by decide))
  · rw [hd2_2]; exact K 2 S' t i (GJ.of (V' := VQ) g (by decide))
theorem l_light {Q : Option Value → MM → Prop} {S : MM} {x : Nat} {v : Int32} {b : Nat} (hb : b < 2) (hT : TY S) (ir : IR S) (kx : sK S x = 8)  (K : ∀ k S', TY S' → IR S' → GJ [21, 22, 24, 117] S S' → Q (some (.int k)) S') : wL_light [.ref x, .int v, .int (nI b)] S Q := by
  refine Exists.intro 3 (And.intro kx (And.intro ⟨by decide, by decide⟩ (z_X7_light hT ir kx hb (fun S' s i => ?_) (fun S' s i q => ?_) (fun S' s i q => ?_))))
  · exact K 0 S' (TY_SH hT s) i (GJ.sh (V := [21, 22, 24, 117]) s (by decide))
  · rw [hd2_1]; exact K 1 S' (TY_SH hT s) i (GJ.sh (V := [21, 22, 24, 117]) s (by decide))
  · rw [hd2_2]; exact K 2 S' (TY_SH hT s) i (GJ.sh (V := [21, 22, 24, 117]) s (by decide))
theorem l_tick {Q : Option Value → MM → Prop} {S : MM} {x out : Nat} {v : Int32}  (hT : TY S) (ir : IR S) (kx : sK S x = 8) (o1 : sK S out = 18) (o2 : sN S out = 1) (K : ∀ k S', TY S' → IR S' → GJ V0 S S' → Q (some (.int k)) S') : wL_tick [.ref x, .int v, .ref out] S Q := by
  refine Exists.intro 3 (And.intro kx (And.intro ⟨by decide, by decide⟩ (z_tick hT ir kx (fun r S' s i => ?_) (fun S' s i q => ?_))))
  · have j0 : GJ V0 S S' := (GJ.sh (V := V0) s (by decide))
    have go := j0 out (by rw [o1]; decide)
    have t0 : TY S' := TY_SH hT s
    exact And.intro (go.1.trans o1) (And.intro (by show vp_in 0 (sN S' out); rw [go.2.1, o2]; exact in_0 (by decide)) (K 0 (pJ S' out 0 r.toInt64) t0 i j0))
  · rw [hd1_1]; exact K 1 S' (TY_SH hT s) i (GJ.sh (V := V0) s (by decide))
theorem l_give {Q : Option Value → MM → Prop} {S : MM} {x out : Nat} {v : Int32} {w : Int32} {u : Int32} {y : Int32}  (hT : TY S) (ir : IR S) (kx : sK S x = 8) (o1 : sK S out = 18) (o2 : sN S out = 1) (K : ∀ k S', TY S' → IR S' → GJ V0 S S' → Q (some (.int k)) S') : wL_give [.ref x, .int v, .int w, .int u, .int y, .ref out] S Q := by
  refine Exists.intro 3 (And.intro kx (And.intro ⟨by decide, by decide⟩ (z_X7_give hT ir kx (fun r S' g t i => ?_) (fun S' g t i q => ?_))))
  · have j0 : GJ V0 S S' := (GJ.of (V' := V0) g (by decide))
    have go := j0 out (by rw [o1]; decide)
    have t0 : TY S' := t
    exact And.intro (go.1.trans o1) (And.intro (by show vp_in 0 (sN S' out); rw [go.2.1, o2]; exact in_0 (by decide)) (K 0 (pJ S' out 0 r.toInt64) t0 i j0))
  · rw [hd1_1]; exact K 1 S' t i (GJ.of (V' := V0) g (by decide))
theorem l_came {Q : Option Value → MM → Prop} {S : MM} {x out : Nat} {v : Int32} {w : Int32} {u : Int32}  (hT : TY S) (ir : IR S) (kx : sK S x = 8) (o1 : sK S out = 18) (o2 : sN S out = 1) (K : ∀ k S', TY S' → IR S' → GJ V0 S S' → Q (some (.int k)) S') : wL_came [.ref x, .int v, .int w, .int u, .ref out] S Q := by
  refine Exists.intro 3 (And.intro kx (And.intro ⟨by decide, by decide⟩ (z_X7_came hT ir kx (fun r S' s i => ?_) (fun S' s i q => ?_))))
  · have j0 : GJ V0 S S' := (GJ.sh (V := V0) s (by decide))
    have go := j0 out (by rw [o1]; decide)
    have t0 : TY S' := TY_SH hT s
    exact And.intro (go.1.trans o1) (And.intro (by show vp_in 0 (sN S' out); rw [go.2.1, o2]; exact in_0 (by decide)) (K 0 (pJ S' out 0 r.toInt64) t0 i j0))
  · rw [hd1_1]; exact K 1 S' (TY_SH hT s) i (GJ.sh (V := V0) s (by decide))
theorem l_look {Q : Option Value → MM → Prop} {S : MM} {x out : Nat} {v : Int32} {w : Int32} {u : Int32}  (hT : TY S) (ir : IR S) (kx : sK S x = 8) (o1 : sK S out = 18) (o2 : sN S out = 1) (K : ∀ k S', TY S' → IR S' → GJ V0 S S' → Q (some (.int k)) S') : wL_look [.ref x, .int v, .int w, .int u, .ref out] S Q := by
  refine Exists.intro 3 (And.intro kx (And.intro ⟨by decide, by decide⟩ (z_X7_look hT ir kx (fun r S' s i => ?_) (fun S' s i q => ?_))))
  · have j0 : GJ V0 S S' := (GJ.sh (V := V0) s (by decide))
    have go := j0 out (by rw [o1]; decide)
    have t0 : TY S' := TY_SH hT s
    exact And.intro (go.1.trans o1) (And.intro (by show vp_in 0 (sN S' out); rw [go.2.1, o2]; exact in_0 (by decide)) (K 0 (pJ S' out 0 r.toInt64) t0 i j0))
  · rw [hd1_1]; exact K 1 S' (TY_SH hT s) i (GJ.sh (V := V0) s (by decide))
theorem l_cable {Q : Option Value → MM → Prop} {S : MM} {x out : Nat} {v : Int32} {w : Int32}  (hT : TY S) (ir : IR S) (kx : sK S x = 8) (o1 : sK S out = 18) (o2 : sN S out = 1) (K : ∀ k S', TY S' → IR S' → GJ V0 S S' → Q (some (.int k)) S') : wL_cable [.ref x, .int v, .int w, .ref out] S Q := by
  refine Exists.intro 3 (And.intro kx (And.intro ⟨by decide, by decide⟩ (z_X7_cable hT ir kx (fun r S' s i => ?_) (fun S' s i q => ?_))))
  · have j0 : GJ V0 S S' := (GJ.sh (V := V0) s (by decide))
    have go := j0 out (by rw [o1]; decide)
    have t0 : TY S' := TY_SH hT s
    exact And.intro (go.1.trans o1) (And.intro (by show vp_in 0 (sN S' out); rw [go.2.1, o2]; exact in_0 (by decide)) (K 0 (pJ S' out 0 r.toInt64) t0 i j0))
  · rw [hd1_1]; exact K 1 S' (TY_SH hT s) i (GJ.sh (V := V0) s (by decide))
theorem l_port {Q : Option Value → MM → Prop} {S : MM} {x : Nat} {v : Int32} {w : Int32} {k : Int32} {p : Int32}  (hT : TY S) (ir : IR S) (kx : sK S x = 8) (K1 : PB v w k p → Q (some (.int (nI 1))) S) (K0 : ¬ PB v w k p → ∀ S', TY S' → IR S' → GJ V0 S S' → Q (some (.int (nI 0))) S') : wL_port [.ref x, .int v, .int w, .int k, .int p] S Q := by
  refine Exists.intro 3 (And.intro kx (And.intro ⟨by decide, by decide⟩ (z_port hT ir kx (fun h q => ?_) (fun h S' s i => ?_))))
  · rw [hd1_1]; exact K1 h
  · exact K0 h S' (TY_SH hT s) i (GJ.sh s (by decide))
theorem l_manner {Q : Option Value → MM → Prop} {S : MM} {x : Nat} {v : Int32} {w : Int32} {a : Nat} (ha : a < 2) {b : Nat} (hb : b < 2) (hT : TY S) (ir : IR S) (kx : sK S x = 8) (K1 : MB v w → Q (some (.int (nI 1))) S) (K0 : ¬ MB v w → ∀ S', TY S' → IR S' → GJ V0 S S' → Q (some (.int (nI 0))) S') : wL_manner [.ref x, .int v, .int w, .int (nI a), .int (nI b)] S Q := by
  refine Exists.intro 3 (And.intro kx (And.intro ⟨by decide, by decide⟩ (z_manner hT ir kx ha hb (fun h q => ?_) (fun h S' s i => ?_))))
  · rw [hd1_1]; exact K1 h
  · exact K0 h S' (TY_SH hT s) i (GJ.sh s (by decide))
theorem l_lose {Q : Option Value → MM → Prop} {S : MM} {x : Nat} {v : Int32} {w : Int32} {p : Int32}  (hT : TY S) (ir : IR S) (kx : sK S x = 8) (K1 : LB v w p → Q (some (.int (nI 1))) S) (K0 : ¬ LB v w p → ∀ S', TY S' → IR S' → GJ V0 S S' → Q (some (.int (nI 0))) S') : wL_lose [.ref x, .int v, .int w, .int p] S Q := by
  refine Exists.intro 3 (And.intro kx (And.intro ⟨by decide, by decide⟩ (z_lose hT ir kx (fun h q => ?_) (fun h S' s i => ?_))))
  · rw [hd1_1]; exact K1 h
  · exact K0 h S' (TY_SH hT s) i (GJ.sh s (by decide))
theorem l_limit_x {Q : Option Value → MM → Prop} {S : MM} {x out aE e0 e1 : Nat} {v w : Int32} (hT : TY S) (ir : IR S) (kx : sK S x = 8) (hE : ED S x aE e0 e1) (o1 : sK S out = 18) (o2 : sN S out = 1) (K1 : LIB v w → Q (some (.int (nI 1))) S) (K0 : ∀ j, j < 2 → v = nI j → ¬ LIB v w → ∀ S', TY S' → IR S' → GJ [21] S S' → (∀ k, k < 2 → sI S' (eE e0 e1 k) 2 = if k = j then w else sI S (eE e0 e1 k) 2) → Q (some (.int (nI 0))) (pJ S' out 0 (sI S (eE e0 e1 j) 2).toInt64)) : wL_limit [.ref x, .int v, .int w, .ref out] S Q := by
  refine Exists.intro 3 (And.intro kx (And.intro ⟨by decide, by decide⟩ (z_limit hT ir kx hE (fun h q => ?_) (fun j hj ej nb S' s i f => ?_))))
  · rw [hd1_1]; exact K1 h
  · have j0 : GJ [21] S S' := GJ.sh s (by decide)
    have go := j0 out (by rw [o1]; decide)
    exact And.intro (go.1.trans o1) (And.intro (by show vp_in 0 (sN S' out); rw [go.2.1, o2]; exact in_0 (by decide)) (K0 j hj ej nb S' (TY_SH hT s) i j0 f))
theorem l_system_x {Q : Option Value → MM → Prop} {S : MM} {x out aE e0 e1 : Nat} {v w : Int32} (hT : TY S) (ir : IR S) (kx : sK S x = 8) (hE : ED S x aE e0 e1) (o1 : sK S out = 18) (o2 : sN S out = 1) (K1 : SIB v w → Q (some (.int (nI 1))) S) (K2 : ∀ j, j < 2 → v = nI j → ¬ SIB v w → sI S (eE e0 e1 (1 - j)) 1 = w → Q (some (.int (nI 2))) S) (K0 : ∀ j, j < 2 → v = nI j → ¬ SIB v w → ¬ sI S (eE e0 e1 (1 - j)) 1 = w → ∀ S', TY S' → IR S' → GJ [22] S S' → (∀ k, k < 2 → sI S' (eE e0 e1 k) 1 = if k = j then w else sI S (eE e0 e1 k) 1) → Q (some (.int (nI 0))) (pJ S' out 0 (sI S (eE e0 e1 j) 1).toInt64)) : wL_system [.ref x, .int v, .int w, .ref out] S Q := by
  refine Exists.intro 3 (And.intro kx (And.intro ⟨by decide, by decide⟩ (z_system hT ir kx hE (fun h q => ?_) (fun j hj ej nb h q => ?_) (fun j hj ej nb h S' s i f => ?_))))
  · rw [hd2_1]; exact K1 h
  · rw [hd2_2]; exact K2 j hj ej nb h
  · have j0 : GJ [22] S S' := GJ.sh s (by decide)
    have go := j0 out (by rw [o1]; decide)
    exact And.intro (go.1.trans o1) (And.intro (by show vp_in 0 (sN S' out); rw [go.2.1, o2]; exact in_0 (by decide)) (K0 j hj ej nb h S' (TY_SH hT s) i j0 f))
/-- an end's system (f = 1) or limit (f = 2) is the reference's -/
def SY (f : Nat) (S : MM) (x : Nat) (A : Nat → Nat) (aE e0 e1 : Nat) : Prop := ED S x aE e0 e1 ∧ ∀ k, k < 2 → sI S (eE e0 e1 k) f = sI S (A f) k
theorem rc_0 {S : MM} {a kd : Nat} (h : sK S a = kd) (h1 : kd ≠ 14) (h2 : kd ≠ 17) : rc S a = 0 := by unfold rc; rw [if_neg (by rw [h]; exact h1), if_neg (fun z => h2 (h.symm.trans z.1))]
theorem ED_GJ {V : List Nat} {S S' : MM} {x aE e0 e1 : Nat} (hT : TY S) (kx : sK S x = 8) (h : ED S x aE e0 e1) (g : GJ V S S') : ED S' x aE e0 e1 := by
  obtain ⟨kE, nE, kj⟩ := ED_k hT kx h
  obtain ⟨h1, h2, h3, h4⟩ := h
  have gx := (g x (by rw [kx]; decide)).2.2.2.2 (Or.inr (rc_0 kx (by decide) (by decide)))
  have ge := (g aE (by rw [kE]; decide)).2.2.2.2 (Or.inr (rc_0 kE (by decide) (by decide)))
  exact ⟨by rw [gx]; exact h1, by rw [ge]; exact h2, by rw [ge]; exact h3, h4⟩
theorem SY_c {f : Nat} {V : List Nat} {S S' : MM} {x m out i aE e0 e1 : Nat} {A : Nat → Nat} (h : SY f S x A aE e0 e1) (hG : GI S x m out A i) (g : GJ V S S') (hv : cd 2 f ∈ V) : SY f S' x A aE e0 e1 := by
  obtain ⟨hT, ir, kx, -, -, hM, -⟩ := hG
  obtain ⟨kE, nE, kj⟩ := ED_k hT kx h.1
  refine ⟨ED_GJ hT kx h.1 g, fun k hk => ?_⟩
  have gk := (g (eE e0 e1 k) (by rw [kj k hk]; decide)).2.2.2.1 f (by rw [wj_kd (kj k hk) (by decide)]; exact hv)
  rw [gk, (MS_GJ hM g).2.2 f]
  exact h.2 k hk
theorem SY_r {f : Nat} {W : List Nat} {S S' : MM} {x m out i aE e0 e1 : Nat} {A : Nat → Nat} (h : SY f S x A aE e0 e1) (hG : GI S x m out A i) (e : SM W m A S S') (hf : f ∈ DM) (hw : f ∉ W) : SY f S' x A aE e0 e1 := by
  obtain ⟨hT, ir, kx, -, -, hM, -⟩ := hG
  obtain ⟨kE, nE, kj⟩ := ED_k hT kx h.1
  refine ⟨?_, fun k hk => ?_⟩
  · unfold ED
    rw [e.2.2.1]
    exact h.1
  · rw [SM_row hM e (kj k hk) (by decide) (by decide) (by decide), SM_a e hM hf hw]
    exact h.2 k hk
theorem SY_x {f : Nat} {V W : List Nat} {S S1 S2 : MM} {x m out i aE e0 e1 j : Nat} {A : Nat → Nat} {w : Int32} {v : Int64} (h : SY f S x A aE e0 e1) (hG : GI S x m out A i) (g : GJ V S S1) (t1 : TY S1) (kx1 : sK (pJ S1 out 0 v) x = 8) (hM1 : MS (pJ S1 out 0 v) m A) (e : SM W m A (pJ S1 out 0 v) S2) (hj : j < 2) (f9 : ∀ k, k < 2 → sI S1 (eE e0 e1 k) f = if k = j then w else sI S (eE e0 e1 k) f) (u9 : sI S2 (A f) = upd (sI (pJ S1 out 0 v) (A f)) j w) : SY f S2 x A aE e0 e1 := by
  obtain ⟨hT, ir, kx, -, -, hM, -⟩ := hG
  have hE1 : ED S1 x aE e0 e1 := ED_GJ hT kx h.1 g
  obtain ⟨kE, nE, kj⟩ := ED_k t1 kx1 hE1
  refine ⟨?_, fun k hk => ?_⟩
  · unfold ED
    rw [e.2.2.1]
    exact hE1
  · have a9 : sI (pJ S1 out 0 v) (A f) k = sI S (A f) k := congrFun ((MS_GJ hM g).2.2 f) k
    rw [SM_row hM1 e (kj k hk) (by decide) (by decide) (by decide), u9]
    show sI S1 (eE e0 e1 k) f = _
    rw [f9 k hk]
    by_cases hz : k = j
    · rw [if_pos hz, hz, pk_us]
    · rw [if_neg hz, pk_un hz, a9]
      exact h.2 k hk
theorem l_pull_x {Q : Option Value → MM → Prop} {S : MM} {x : Nat} {ca pp : Nat → Nat} {v : Int32} (hT : TY S) (ir : IR S) (kx : sK S x = 8) (hL : CLy S x ca pp) (K1 : b8 v → Q (some (.int (nI 1))) S) (K2 : ∀ c, c < 8 → v = nI c → (sR S (pp c) 0 = none ∨ sR S (pp c) 1 = none) → Q (some (.int (nI 2))) S) (K : ∀ c p0 p1 S', c < 8 → v = nI c → sR S (pp c) 0 = some p0 → sR S (pp c) 1 = some p1 → TY S' → IR S' → CCh S S' (ca c) (pp c) (nI 0) p0 p1 (-1) none none → Q (some (.int (nI 0))) S') : wL_pull [.ref x, .int v] S Q := by
  refine Exists.intro 3 (And.intro kx (And.intro ⟨by decide, by decide⟩ (x_pull hT ir kx hL (fun h q => ?_) (fun c hc ec h q => ?_) (fun c p0 p1 S' hc ec r0 r1 t i cc => ?_))))
  · rw [hd2_1]; exact K1 h
  · rw [hd2_2]; exact K2 c hc ec h
  · exact K c p0 p1 S' hc ec r0 r1 t i cc
theorem l_light_x {Q : Option Value → MM → Prop} {S : MM} {x b : Nat} {ca pp : Nat → Nat} {v : Int32} (hb : b < 2) (hT : TY S) (ir : IR S) (kx : sK S x = 8) (hL : CLy S x ca pp) (K1 : b8 v → Q (some (.int (nI 1))) S) (K2 : ∀ c, c < 8 → v = nI c → ((sR S (pp c) 0 = none ∨ sR S (pp c) 1 = none) ∨ sI S (ca c) 3 = nI b) → Q (some (.int (nI 2))) S) (K : ∀ c p0 p1 S', c < 8 → v = nI c → sR S (pp c) 0 = some p0 → sR S (pp c) 1 = some p1 → ¬ sI S (ca c) 3 = nI b → TY S' → IR S' → LCh S S' (ca c) (nI b) → Q (some (.int (nI 0))) S') : wL_light [.ref x, .int v, .int (nI b)] S Q := by
  refine Exists.intro 3 (And.intro kx (And.intro ⟨by decide, by decide⟩ (x_light hb hT ir kx hL (fun h q => ?_) (fun c hc ec h q => ?_) (fun c p0 p1 S' hc ec r0 r1 nu t i cc => ?_))))
  · rw [hd2_1]; exact K1 h
  · rw [hd2_2]; exact K2 c hc ec h
  · exact K c p0 p1 S' hc ec r0 r1 nu t i cc
theorem l_plug_x {Q : Option Value → MM → Prop} {S : MM} {x : Nat} {ca pp : Nat → Nat} {pt : Nat → Nat → Nat} {v w u t : Int32} (hT : TY S) (ir : IR S) (kx : sK S x = 8) (hL : CLy S x ca pp) (hP : PLy S x pt) (hne : ∀ i k, i < 8 → k < 8 → pt 0 i ≠ pt 1 k) (K1 : PGB v w u t → Q (some (.int (nI 1))) S) (K2 : ∀ j i k, j < 8 → i < 8 → k < 8 → v = nI j → w = nI i → u = nI k → ¬ PGB v w u t → ¬ ((sI S (pt 0 i) 2 = -1 ∨ sI S (pt 0 i) 2 = nI j) ∧ (sI S (pt 1 k) 2 = -1 ∨ sI S (pt 1 k) 2 = nI j)) → Q (some (.int (nI 2))) S) (K : ∀ j i k S', j < 8 → i < 8 → k < 8 → v = nI j → w = nI i → u = nI k → ¬ PGB v w u t → (sI S (pt 0 i) 2 = -1 ∨ sI S (pt 0 i) 2 = nI j) → (sI S (pt 1 k) 2 = -1 ∨ sI S (pt 1 k) 2 = nI j) → TY S' → IR S' → ((sR S (pp j) 0 = none ∨ sR S (pp j) 1 = none) ∧ CCh S S' (ca j) (pp j) (nI 1) (pt 0 i) (pt 1 k) (nI j) (some (pt 0 i)) (some (pt 1 k)) ∨ ∃ p0 p1 S1, sR S (pp j) 0 = some p0 ∧ sR S (pp j) 1 = some p1 ∧ TY S1 ∧ CCh S S1 (ca j) (pp j) (nI 0) p0 p1 (-1) none none ∧ CCh S1 S' (ca j) (pp j) (nI 1) (pt 0 i) (pt 1 k) (nI j) (some (pt 0 i)) (some (pt 1 k))) → Q (some (.int (nI 0))) S') : wL_plug [.ref x, .int v, .int w, .int u, .int t] S Q := by
  refine Exists.intro 3 (And.intro kx (And.intro ⟨by decide, by decide⟩ (x_plug hT ir kx hL hP hne (fun h q => ?_) (fun j i k hj hi hk ej ei ek nb h q => ?_) (fun j i k S' hj hi hk ej ei ek nb xa xb t i' cc => ?_))))
  · rw [hd2_1]; exact K1 h
  · rw [hd2_2]; exact K2 j i k hj hi hk ej ei ek nb h
  · exact K j i k S' hj hi hk ej ei ek nb xa xb t i' cc
