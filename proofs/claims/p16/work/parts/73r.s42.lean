/-! SIMULATION 42: the calls that only read, and give, as pairs of halves -/
def MDr (S S1 : MM) : Prop := sR S1 = sR S ∧ sI S1 = sI S
theorem GH_s {S S' : MM} {x m out i : Nat} {A : Nat → Nat} (h : GN S x m out A i) (s : SH [] S S') (ir : IR S') : GH S S' x m out A ∧ MDr S S' := by
  obtain ⟨h1, h2, h3, h4, h5, h6, h7, h8⟩ := h
  have ei : sI S' = sI S := funext (fun z => funext (fun j => s.2.2.2.2 z j List.not_mem_nil))
  refine ⟨⟨TY_SH h1 s, ir, by rw [s.1]; exact h3, by rw [s.1]; exact h4, by rw [s.2.1]; exact h5, ?_, OC_SH s h7, by rw [ei], fun k _ => by rw [ei]⟩, s.2.2.1, ei⟩
  unfold MS
  rw [s.1, s.2.1, s.2.2.1]
  exact h6
theorem MDr_p {S S1 : MM} {out : Nat} {v : Int64} (h : MDr S S1) : MDr S (pJ S1 out 0 v) := h
theorem r_read {S S1 S2 : MM} {x m out i : Nat} {A : Nat → Nat} (hG : GN S x m out A i) (hh : GH S S1 x m out A) (md : MDr S S1) (e : SM [0] m A S1 S2) (im : IM S2 m A) : GN S2 x m out A (i + 1) := r_same hG hh md.1 (ca_e md.2) e im
theorem im_h {S S1 : MM} {x m out i : Nat} {A : Nat → Nat} (hG : GN S x m out A i) (hh : GH S S1 x m out A) : IM S1 m A := by
  obtain ⟨g1, g2, g3, g4, g5, g6, g7, nt, F, cl, bi, n0, fr, hF, hc⟩ := hG
  exact (BI_h hh.2.2.2.2.2.2.2.1 hh.2.2.2.2.2.2.2.2 bi).1.1
theorem k_came {Q : Option Value → MM → Prop} {S : MM} {x m out i : Nat} {A : Nat → Nat} {v w u : Int32} (hG : GN S x m out A i) (K : ∀ k S1, GH S S1 x m out A → MDr S S1 → Q (some (.int k)) S1) : wL_came [.ref x, .int v, .int w, .int u, .ref out] S Q := by
  refine Exists.intro 3 (And.intro hG.2.2.1 (And.intro ⟨by decide, by decide⟩ (z_X7_came hG.1 hG.2.1 hG.2.2.1 (fun r S' s i => ?_) (fun S' s i q => ?_))))
  · obtain ⟨g, md⟩ := GH_s hG s i
    exact And.intro g.2.2.2.1 (And.intro (by show vp_in 0 (sN S' out); rw [g.2.2.2.2.1]; exact in_0 (by decide)) (K 0 (pJ S' out 0 r.toInt64) (GH_p g) (MDr_p md)))
  · obtain ⟨g, md⟩ := GH_s hG s i
    rw [hd1_1]; exact K 1 S' g md
theorem k_look {Q : Option Value → MM → Prop} {S : MM} {x m out i : Nat} {A : Nat → Nat} {v w u : Int32} (hG : GN S x m out A i) (K : ∀ k S1, GH S S1 x m out A → MDr S S1 → Q (some (.int k)) S1) : wL_look [.ref x, .int v, .int w, .int u, .ref out] S Q := by
  refine Exists.intro 3 (And.intro hG.2.2.1 (And.intro ⟨by decide, by decide⟩ (z_X7_look hG.1 hG.2.1 hG.2.2.1 (fun r S' s i => ?_) (fun S' s i q => ?_))))
  · obtain ⟨g, md⟩ := GH_s hG s i
    exact And.intro g.2.2.2.1 (And.intro (by show vp_in 0 (sN S' out); rw [g.2.2.2.2.1]; exact in_0 (by decide)) (K 0 (pJ S' out 0 r.toInt64) (GH_p g) (MDr_p md)))
  · obtain ⟨g, md⟩ := GH_s hG s i
    rw [hd1_1]; exact K 1 S' g md
theorem k_cable {Q : Option Value → MM → Prop} {S : MM} {x m out i : Nat} {A : Nat → Nat} {v w : Int32} (hG : GN S x m out A i) (K : ∀ k S1, GH S S1 x m out A → MDr S S1 → Q (some (.int k)) S1) : wL_cable [.ref x, .int v, .int w, .ref out] S Q := by
  refine Exists.intro 3 (And.intro hG.2.2.1 (And.intro ⟨by decide, by decide⟩ (z_X7_cable hG.1 hG.2.1 hG.2.2.1 (fun r S' s i => ?_) (fun S' s i q => ?_))))
  · obtain ⟨g, md⟩ := GH_s hG s i
    exact And.intro g.2.2.2.1 (And.intro (by show vp_in 0 (sN S' out); rw [g.2.2.2.2.1]; exact in_0 (by decide)) (K 0 (pJ S' out 0 r.toInt64) (GH_p g) (MDr_p md)))
  · obtain ⟨g, md⟩ := GH_s hG s i
    rw [hd1_1]; exact K 1 S' g md
theorem k_count {Q : Option Value → MM → Prop} {S : MM} {x m out i : Nat} {A : Nat → Nat} {v : Int32} (hG : GN S x m out A i) (K : ∀ k S1, GH S S1 x m out A → MDr S S1 → Q (some (.int k)) S1) : wX7_count [.ref x, .int v] S Q :=
  z_X7_count hG.1 hG.2.1 hG.2.2.1 (fun r S' s i => K r S' (GH_s hG s i).1 (GH_s hG s i).2)
theorem r_came {Q : Option Value → MM → Prop} {S S1 : MM} {x m out i : Nat} {A : Nat → Nat} {v w u : Int32} (hi : i < 3000) (hG : GN S x m out A i) (hh : GH S S1 x m out A) (md : MDr S S1) (K : ∀ k S2, GN S2 x m out A (i + 1) → Q (some (.int k)) S2) : wX8_came [.ref m, .int v, .int w, .int u] S1 Q := by
  obtain ⟨g1, g2, g3, g4, g5, g6, g7, nt, F, cl, bi, n0, fr, hF, hc⟩ := id hG
  have bi1 := BI_h hh.2.2.2.2.2.2.2.1 hh.2.2.2.2.2.2.2.2 bi
  exact z_f_came hh.2.2.2.2.2.1 (BI_42 bi1 (by omega)) bi1.1.1 (fun r S2 e im => K r S2 (r_read hG hh md e im))
theorem r_look {Q : Option Value → MM → Prop} {S S1 : MM} {x m out i : Nat} {A : Nat → Nat} {v w u : Int32} (hG : GN S x m out A i) (hh : GH S S1 x m out A) (md : MDr S S1) (K : ∀ k S2, GN S2 x m out A (i + 1) → Q (some (.int k)) S2) : wX8_look [.ref m, .int v, .int w, .int u] S1 Q := z_X8_look hh.2.2.2.2.2.1 (im_h hG hh) (fun r S2 e im => K r S2 (r_read hG hh md e im))
theorem r_cable {Q : Option Value → MM → Prop} {S S1 : MM} {x m out i : Nat} {A : Nat → Nat} {v w : Int32} (hG : GN S x m out A i) (hh : GH S S1 x m out A) (md : MDr S S1) (K : ∀ k S2, GN S2 x m out A (i + 1) → Q (some (.int k)) S2) : wX8_cable [.ref m, .int v, .int w] S1 Q := z_X8_cable hh.2.2.2.2.2.1 (im_h hG hh) (fun r S2 e im => K r S2 (r_read hG hh md e im))
theorem r_count {Q : Option Value → MM → Prop} {S S1 : MM} {x m out i : Nat} {A : Nat → Nat} {v : Int32} (hG : GN S x m out A i) (hh : GH S S1 x m out A) (md : MDr S S1) (K : ∀ k S2, GN S2 x m out A (i + 1) → Q (some (.int k)) S2) : wX8_count [.ref m, .int v] S1 Q := z_X8_count hh.2.2.2.2.2.1 (im_h hG hh) (fun r S2 e im => K r S2 (r_read hG hh md e im))
/-! give -/
theorem lye14 {S : MM} {R' : Nat → Nat → Option Nat} {b : Nat} (hL : LY S b) (h : ∀ z, sK S z ≠ 0 → sK S z ≠ 14 → R' z = sR S z) : LYE (sR S) R' b := by
  have r : ∀ z k, sK S z = k → k ≠ 14 → k ≠ 0 → R' z = sR S z := fun z k hz h14 h0 => h z (by rw [hz]; exact h0) (by rw [hz]; exact h14)
  have e0 : ead R' b = ead (sR S) b := by unfold ead; rw [r b 8 hL.2 (by decide) (by decide)]
  have c0 : cad R' b = cad (sR S) b := by unfold cad; rw [r b 8 hL.2 (by decide) (by decide)]
  have E : ∀ e, En R' b e = En (sR S) b e := fun e => by unfold En; rw [e0, r _ 13 (ly_ea hL).2.1 (by decide) (by decide)]
  have C : ∀ c, Cb R' b c = Cb (sR S) b c := fun c => by unfold Cb; rw [c0, r _ 12 (ly_ca hL).2.1 (by decide) (by decide)]
  have pd : ∀ e, e < 2 → pad R' b e = pad (sR S) b e := fun e he => by unfold pad; rw [E, r _ 2 (ly_E hL he).2.1 (by decide) (by decide)]
  have P : ∀ e i, e < 2 → i < 8 → Pt R' b e i = Pt (sR S) b e i := fun e i he hi => by
    unfold Pt
    rw [pd e he, r _ 17 (ly_pa hL he).2.1 (by decide) (by decide)]
  have ld : ∀ c, c < 8 → lad R' b c = lad (sR S) b c := fun c hc => by unfold lad; rw [C, r _ 1 (ly_C hL hc).2.1 (by decide) (by decide)]
  have N : ∀ c e, c < 8 → e < 2 → Ln R' b c e = Ln (sR S) b c e := fun c e hc he => by unfold Ln; rw [ld c hc, r _ 15 (ly_la hL hc).2.1 (by decide) (by decide)]
  have nd' : ∀ c e, c < 8 → e < 2 → nad R' b c e = nad (sR S) b c e := fun c e hc he => by unfold nad; rw [N c e hc he, r _ 4 (ly_N hL hc he).2.1 (by decide) (by decide)]
  have T : ∀ c e s, c < 8 → e < 2 → s < 8 → Nt R' b c e s = Nt (sR S) b c e s := fun c e s hc he hs => by unfold Nt; rw [nd' c e hc he, r _ 16 (ly_na hL hc he).2.1 (by decide) (by decide)]
  refine ⟨fun e _ => E e, P, fun e i he hi => ?_, fun e i he hi => ?_, fun e i he hi => ?_, fun c _ => C c, fun c hc => ?_, N, T, fun c e s hc he hs => ?_, fun c e s hc he hs => ?_⟩
  · unfold Ow; rw [P e i he hi, r _ 6 (ly_P hL he hi).2.1 (by decide) (by decide)]
  · unfold Pa; rw [P e i he hi, r _ 6 (ly_P hL he hi).2.1 (by decide) (by decide)]
  · unfold La; rw [P e i he hi, r _ 6 (ly_P hL he hi).2.1 (by decide) (by decide)]
  · unfold ppd; rw [C, r _ 1 (ly_C hL hc).2.1 (by decide) (by decide)]
  · unfold NtO; rw [T c e s hc he hs, r _ 5 (ly_T hL hc he hs).2.1 (by decide) (by decide)]
  · unfold NtP; rw [T c e s hc he hs, r _ 5 (ly_T hL hc he hs).2.1 (by decide) (by decide)]
/-- what the class's half of give leaves: the relation of the notes -/
def MDw (S S1 : MM) (x m : Nat) (A : Nat → Nat) : Prop := ∀ cl nt, NRl (sR S) x m A (sI S) (sI S1) cl nt → NRl (sR S1) x m A (sI S1) (sI S1) cl nt
theorem MDw_of {S S1 : MM} {x m out i : Nat} {A : Nat → Nat} (hG : GN S x m out A i) (g : GV S S1) : MDw S S1 x m A := by
  have hL := ly_of hG
  have rs : ∀ z, sK S z ≠ 0 → sK S z ≠ 14 → sR S1 z = sR S z := fun z h0 h14 => (g.1 z h0).2.2.2.2 (by
    unfold rc
    rw [if_neg h14]
    split
    · exact Or.inl (by decide)
    · exact Or.inr rfl)
  have le := lye14 (R' := sR S1) hL rs
  have ca : CA S (sI S) (sI S1) := ⟨fun z hz => (g.2.1 z (by omega)).1 hz, fun z hz => (g.2.1 z (by omega)).2.1 hz, fun z hz => (g.2.1 z (by omega)).2.2.1 hz, fun z hz => (g.2.1 z (by omega)).2.2.2.1 hz, fun z hz => (g.2.1 z (by omega)).2.2.2.2 hz⟩
  intro cl nt h
  obtain ⟨h1, h2, h3, h4, h5, h6, h7, h8, h9, h10, h11⟩ := NR_I hL ca h
  refine NR_R le h1 h2 h3 h4 h5 h6 ⟨fun c hc => ?_, fun e p he hp => ?_, fun c hc => ?_⟩ h8 h9 h10 h11
  · show sI S1 (Cb (sR S1) x c) 3 = _
    rw [le.C c hc]; exact h7.1 c hc
  · show sI S1 (Pt (sR S1) x e p) 2 = _
    rw [le.P e p he hp]; exact h7.2.1 e p he hp
  · show (_ ∧ sR S1 (ppd (sR S1) x c) 0 = none ∧ sR S1 (ppd (sR S1) x c) 1 = none) ∨ (_ ∧ ∃ p0 p1, p0 < 8 ∧ p1 < 8 ∧ _ ∧ _ ∧ sR S1 (ppd (sR S1) x c) 0 = some (Pt (sR S1) x 0 p0) ∧ sR S1 (ppd (sR S1) x c) 1 = some (Pt (sR S1) x 1 p1))
    rw [le.PP c hc, rs _ (by rw [(ly_pp hL hc).2.1]; decide) (by rw [(ly_pp hL hc).2.1]; decide)]
    rcases h7.2.2 c hc with q | ⟨q, p0, p1, q0, q1, q2, q3, q4, q5⟩
    · exact Or.inl q
    · exact Or.inr ⟨q, p0, p1, q0, q1, q2, q3, by rw [le.P 0 p0 (by decide) q0]; exact q4, by rw [le.P 1 p1 (by decide) q1]; exact q5⟩
theorem GH_g {S S1 : MM} {x m out i : Nat} {A : Nat → Nat} (h : GN S x m out A i) (g : GV S S1) (t : TY S1) (ir : IR S1) : GH S S1 x m out A := by
  obtain ⟨h1, h2, h3, h4, h5, h6, h7, h8⟩ := h
  obtain ⟨m1, m2, m3⟩ := MS_GJ h6 (GJ.of (V' := V0) g.1 (by decide))
  have go := g.1 out (by rw [h4]; decide)
  exact ⟨t, ir, (g.1 x (by rw [h3]; decide)).1.trans h3, go.1.trans h4, go.2.1.trans h5, m1, g.2.2 h7, m2, fun k _ => m3 k⟩
theorem k_give {Q : Option Value → MM → Prop} {S : MM} {x m out i : Nat} {A : Nat → Nat} {v w u y : Int32} (hG : GN S x m out A i) (K : ∀ k S1, GH S S1 x m out A → MDw S S1 x m A → Q (some (.int k)) S1) : wL_give [.ref x, .int v, .int w, .int u, .int y, .ref out] S Q := by
  refine Exists.intro 3 (And.intro hG.2.2.1 (And.intro ⟨by decide, by decide⟩ (v_X7_give hG.1 hG.2.1 hG.2.2.1 (fun r S' g t i => ?_) (fun S' g t i q => ?_))))
  · have gh := GH_g hG g t i
    have md := MDw_of hG g
    exact And.intro gh.2.2.2.1 (And.intro (by show vp_in 0 (sN S' out); rw [gh.2.2.2.2.1]; exact in_0 (by decide)) (K 0 (pJ S' out 0 r.toInt64) (GH_p gh) md))
  · rw [hd1_1]; exact K 1 S' (GH_g hG g t i) (MDw_of hG g)
/-- the things have changed by frames alone -/
theorem NR_T {R : Nat → Nat → Option Nat} {b m cl nt nt' : Nat} {A : Nat → Nat} {I J J' : Mm} (h : NRl R b m A I J cl nt) (kk : ∀ k, dm k → k ≤ 26 → J' (A k) = J (A k)) (k43 : J' m 43 = J m 43) (k32 : J' m 32 = nI nt') (flt : ∀ c e, c < 8 → e < 2 → (TG J' A nt').filter (isL c e) = (TG J A nt).filter (isL c e)) (ut : UTj J' A nt') : NRl R b m A I J' cl nt' := by
  obtain ⟨h1, h2, h3, ⟨h4a, h4b, h4c⟩, h5, h6, h7, h8, h9, h10, h11⟩ := h
  refine ⟨fun x hx => ⟨RP_g (h1 x hx).1 AG.rf (fun k j a b _ => by rw [kk k a (by omega)]), (h1 x hx).2⟩, fun c e hc he => ?_, fun c e hc he => ?_, ⟨h4a, k43.trans h4b, k32⟩, fun e he => ?_, ?_, ?_, ?_, ?_, ut, ?_⟩
  · rw [flt c e hc he, kk 26 (by decide) (by decide)]; exact h2 c e hc he
  · unfold bd; rw [kk 23 (by decide) (by decide), kk 24 (by decide) (by decide)]; exact h3 c e hc he
  · rw [kk 1 (by decide) (by decide), kk 2 (by decide) (by decide)]; exact h5 e he
  · unfold RIj; rw [kk 7 (by decide) (by decide), kk 9 (by decide) (by decide), kk 11 (by decide) (by decide), kk 22 (by decide) (by decide), kk 23 (by decide) (by decide), kk 24 (by decide) (by decide), kk 25 (by decide) (by decide)]; exact h6
  · unfold RLj; rw [kk 11 (by decide) (by decide), kk 22 (by decide) (by decide), kk 24 (by decide) (by decide), kk 25 (by decide) (by decide)]; exact h7
  · unfold LTj; rw [kk 25 (by decide) (by decide), kk 22 (by decide) (by decide), kk 7 (by decide) (by decide)]; exact h8
  · unfold DLj; rw [kk 24 (by decide) (by decide), kk 23 (by decide) (by decide)]; exact h9
  · unfold DKj; rw [kk 7 (by decide) (by decide), kk 8 (by decide) (by decide), kk 18 (by decide) (by decide)]; exact h11
theorem TL_at {S S' : MM} {A : Nat → Nat} {n t : Nat} (h : TL S' A n = TL S A n) (ht : t < n) : th S' A t = th S A t := by
  have q := congrArg (fun l => l[t]?) h
  simpa [TL, ht] using q
theorem tg_th {S S' : MM} {A : Nat → Nat} {t : Nat} (h : th S' A t = th S A t) (e : sI S' (A 31) = sI S (A 31)) : tg (sI S') A t = tg (sI S) A t := by
  have q1 : sI S' (A 27) t = sI S (A 27) t := congrArg (fun q => q.1) h
  have q2 : sI S' (A 28) t = sI S (A 28) t := congrArg (fun q => q.2.1) h
  have q3 : sI S' (A 29) t = sI S (A 29) t := congrArg (fun q => q.2.2.1) h
  have q4 : sI S' (A 30) t = sI S (A 30) t := congrArg (fun q => q.2.2.2) h
  unfold tg
  rw [q1, q2, q3, q4, e]
theorem UTj_of {S : MM} {A : Nat → Nat} {n : Nat} (h : UT S A n) : UTj (sI S) A n := fun t ht => h (th S A t) (List.mem_map.mpr ⟨t, List.mem_range.mpr ht, rfl⟩)
theorem r_give {Q : Option Value → MM → Prop} {S S1 : MM} {x m out i : Nat} {A : Nat → Nat} {v w u y : Int32} (hi : i < 3000) (hG : GN S x m out A i) (hh : GH S S1 x m out A) (md : MDw S S1 x m A) (K : ∀ k S2, GN S2 x m out A (i + 1) → Q (some (.int k)) S2) : wX8_give [.ref m, .int v, .int w, .int u, .int y] S1 Q := by
  have hM1 := hh.2.2.2.2.2.1
  obtain ⟨g1, g2, g3, g4, g5, g6, g7, nt, F, cl, bi, n0, fr, hF, hc⟩ := id hG
  have bi1 := BI_h hh.2.2.2.2.2.2.2.1 hh.2.2.2.2.2.2.2.2 bi
  have nr1 := md cl nt (NR_h hh n0)
  have fr1 : FRj (sI S1) A nt F := fun t ht => by rw [hh.2.2.2.2.2.2.2.2 30 (by decide)]; exact fr t ht
  have hl := BI_len bi1
  obtain ⟨h1, h2, h3, h4, s, h5, h6⟩ := bi1
  have same : ∀ {S2 : MM}, SM WG m A S1 S2 → ∀ k, dm k → k ≤ 26 → sI S2 (A k) = sI S1 (A k) := fun e k a b => SM_a e hM1 (dm_DM a) (by unfold WG; simp; omega)
  refine z_v_give hM1 h1 (by omega) h2 (by omega) (fun r S2 sh iv tl f39 => ?_) (fun r S2 c e d hc' he hd1 hd2 sh iv f39 tl => ?_)
  · have bi2 : BI S2 m A nt F cl := ⟨iv, f39, (sh.2.2.2.2.2 43 (by decide)).trans h3, by rw [tl]; exact h4, s, CM_eq h5 (SM_a sh hM1 (by decide) (by decide)) (Nat.le_refl _), by rw [tl]; exact h6⟩
    have t2 : TG (sI S2) A nt = TG (sI S1) A nt := TG_c (fun t ht => tg_th (TL_at tl ht) (SM_a sh hM1 (by decide) (by decide)))
    refine K r S2 (FIN hh sh.1 sh.2.1 sh.2.2.1 (fz_SM hM1 sh) (NR_T nr1 (same sh) (sh.2.2.2.2.2 43 (by decide)) iv.2.2.1 (fun c e _ _ => by rw [t2]) (UTj_of iv.2.2.2.2)) bi2 (fun t ht => ?_) (by omega) (by omega))
    have q4 : sI S2 (A 30) t = sI S1 (A 30) t := congrArg (fun q => q.2.2.2) (TL_at tl ht)
    rw [q4]
    exact fr1 t ht
  · rw [h3] at tl
    have bi2 : BI S2 m A (nt + 1) (F + 1) cl := by
      refine ⟨iv, f39, (sh.2.2.2.2.2 43 (by decide)).trans h3, by rw [tl]; exact LV_give h4 (by omega) hd1 hd2 (by omega), s, CM_eq h5 (SM_a sh hM1 (by decide) (by decide)) (Nat.le_refl _), ?_⟩
      have : isF ((nI c, nI e, nI cl + nI d, nI F) : TQ) = true := by
        unfold isF
        simp [nI_m1 (show F < 1000000 by omega)]
      rw [tl, List.countP_append, List.countP_singleton, this]
      simp
      omega
    rw [TL_s] at tl
    have tl1 := (List.append_inj' tl rfl).1
    have tl2 : th S2 A nt = (nI c, nI e, nI cl + nI d, nI F) := by simpa using (List.append_inj' tl rfl).2
    have n30 : sI S2 (A 30) nt = nI F := congrArg (fun q => q.2.2.2) tl2
    have t2 : TG (sI S2) A nt = TG (sI S1) A nt := TG_c (fun t ht => tg_th (TL_at tl1 ht) (SM_a sh hM1 (by decide) (by decide)))
    refine K r S2 (FIN (F := F + 1) hh sh.1 sh.2.1 sh.2.2.1 (fz_SM hM1 sh) (NR_T nr1 (same sh) (sh.2.2.2.2.2 43 (by decide)) iv.2.2.1 (fun c' e' _ _ => ?_) (UTj_of iv.2.2.2.2)) bi2 (fun t ht => ?_) (by omega) (by omega))
    · rw [TG_s, t2, List.filter_append]
      have : isL c' e' (tg (sI S2) A nt) = false := by
        unfold isL
        refine decide_eq_false (fun z => ?_)
        have z3 : sI S2 (A 30) nt = -1 := z.2.2
        rw [n30] at z3
        exact nI_m1 (by omega) z3
      rw [List.filter_cons_of_neg (by rw [this]; decide), List.filter_nil, List.append_nil]
    · by_cases q : t < nt
      · have q4 : sI S2 (A 30) t = sI S1 (A 30) t := congrArg (fun q => q.2.2.2) (TL_at tl1 q)
        rw [q4]
        exact fun z => Nat.lt_succ_of_lt (fr1 t q z)
      · have : t = nt := by omega
        subst this
        intro _
        rw [n30, cl_nI (by omega)]
        omega
