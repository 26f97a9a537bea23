/-! SIMULATION 87: cable as a pair of halves, with its answers -/
theorem at_y {R : Nat → Nat → Option Nat} {b c e : Nat} {I J : Mm} {A : Nat → Nat} (rl : RLj R b I J A) (hc : c < 8) (he : e < 2) (h : J (A 24) c ≠ 0) : ∃ p, p < 8 ∧ J (A 22) (2 * c + e) = nI p ∧ tlo R b c e = ox R b (8 * e + p) := by
  rcases rl.2.2 c hc with ⟨q, _⟩ | ⟨_, p0, p1, q0, q1, q2, q3, q4, q5⟩
  · exact absurd q h
  · have e' : e = 0 ∨ e = 1 := by omega
    have o : ∀ e p, p < 8 → ox R b (8 * e + p) = Ow R b e p := fun e p hp => by
      show Ow R b ((8 * e + p) / 8) ((8 * e + p) % 8) = _
      rw [show (8 * e + p) / 8 = e by omega, show (8 * e + p) % 8 = p by omega]
    rcases e' with rfl | rfl
    · refine ⟨p0, q0, q2, ?_⟩
      rw [o 0 p0 q0]
      unfold tlo
      have q4' : R (ppd R b c) 0 = some (Pt R b 0 p0) := q4
      rw [q4']
      rfl
    · refine ⟨p1, q1, q3, ?_⟩
      rw [o 1 p1 q1]
      unfold tlo
      have q5' : R (ppd R b c) 1 = some (Pt R b 1 p1) := q5
      rw [q5']
      rfl
theorem num_eq {R : Nat → Nat → Option Nat} {b c e : Nat} {I J : Mm} {A : Nat → Nat} (rp : ∀ x, x < 16 → RP R b I J A x) (rl : RLj R b I J A) (hc : c < 8) (he : e < 2) : (if plg R b c then I (tlo R b c e) 3 else -1) = if J (A 24) c = 0 then -1 else J (A 22) (2 * c + e) := by
  by_cases h : J (A 24) c = 0
  · rw [if_pos h, if_neg (fun z => (plg_24 rl hc).mp z h)]
  · rw [if_neg h, if_pos ((plg_24 rl hc).mpr h)]
    obtain ⟨p, hp, e1, e2⟩ := at_y rl hc he h
    rw [e2, e1, (rp (8 * e + p) (by omega)).1.2.2.2.2.2.2.2.2.2.2.2.1, show (8 * e + p) % 8 = p by omega]
theorem onN_len {R : Nat → Nat → Option Nat} {b c e nt : Nat} {I J : Mm} {A : Nat → Nat} (ln : LN R b I J A nt) (hc : c < 8) (he : e < 2) : I (Ln R b c e) 2 = nI (gcB (fun t => isL c e (tg J A t)) nt) := by
  obtain ⟨h1, _, n, hn, h2⟩ := ln c e hc he
  have h := congrArg List.length h1
  have e2 : (List.filter (isL c e) (TG J A nt)) = ((List.range nt).filter (fun t => isL c e (tg J A t))).map (tg J A) := flt_map
  rw [e2, List.length_map] at h
  unfold CN at h
  rw [List.length_map, List.length_range, h2, nI_cl (by omega)] at h
  rw [gcB_len, ← h, h2]
theorem onF_len {R : Nat → Nat → Option Nat} {b c e cl nt : Nat} {I J : Mm} {A : Nat → Nat} (fr : FRl R b A I J cl nt) (hc : c < 8) (he : e < 2) : I (Ln R b c e) 5 = nI (gcB (fun t => isG c e (tg J A t)) nt) := by
  obtain ⟨n, hn, e5⟩ := (fr.2.1 c e hc he).1.2.1
  rw [on_len (fr.1 c e hc he), CF_ln e5 (by omega), e5]
theorem cb_eq {R : Nat → Nat → Option Nat} {b m c cl nt : Nat} {I J : Mm} {A : Nat → Nat} (h : NRl R b m A I J cl nt) (fr : FRl R b A I J cl nt) (mt : I (Cb R b c) 4 = f_X8_isMeant J m A c) (hc : c < 8) : ∀ j, j < 9 → cbA I R b c j = cbM J m A nt c j := by
  obtain ⟨h1, h2, h3, h4, h5, h6, h7, h8, h9, h10, h11⟩ := h
  have rp := fun x hx => (h1 x hx).1
  intro j hj
  match j, hj with
  | 0, _ => exact num_eq rp h7 hc (by decide)
  | 1, _ => exact num_eq rp h7 hc (by decide)
  | 2, _ =>
    show (if plg R b c then I (Cb R b c) 2 else -1) = if J (A 24) c = 0 then -1 else J (A 23) c
    by_cases h : J (A 24) c = 0
    · rw [if_pos h, if_neg (fun z => (plg_24 h7 hc).mp z h)]
    · rw [if_neg h, if_pos ((plg_24 h7 hc).mpr h)]
      exact h9 c hc h
  | 3, _ =>
    show (if I (Cb R b c) 3 = 0 then nI 0 else nI 1) = if J (A 24) c = 0 then nI 0 else if J (A 25) c = 0 then nI 0 else nI 1
    have e3 : I (Cb R b c) 3 = J (A 25) c := h7.1 c hc
    rw [e3]
    by_cases h : J (A 24) c = 0
    · rw [if_pos h, if_pos (Classical.byContradiction (fun n => h6.1 c hc n h))]
    · rw [if_neg h]
  | 4, _ =>
    show (if I (Cb R b c) 4 = 0 then nI 0 else nI 1) = if f_X8_isMeant J m A c = 0 then nI 0 else nI 1
    rw [mt]
  | 5, _ => exact onF_len fr hc (by decide)
  | 6, _ => exact onF_len fr hc (by decide)
  | 7, _ => exact onN_len h2 hc (by decide)
  | 8, _ => exact onN_len h2 hc (by decide)
  | n + 9, hh => exact absurd hh (by omega)
theorem k_cablex {Q : Option Value → MM → Prop} {S : MM} {x m out i : Nat} {A : Nat → Nat} {v w : Int32} (hG : GN S x m out A i) (K0 : b8 v → Q (some (.int (nI 1))) S) (KD : ∀ c, c < 8 → v = nI c → (w.toInt < 0 ∨ 8 < w.toInt) → Q (some (.int (nI 0))) (pJ S out 0 (-1 : Int32).toInt64)) (KA : ∀ c j, c < 8 → v = nI c → j < 9 → w = nI j → Q (some (.int (nI 0))) (pJ S out 0 (cbA (sI S) (sR S) x c j).toInt64)) : wL_cable [.ref x, .int v, .int w, .ref out] S Q := by
  refine Exists.intro 3 (And.intro hG.2.2.1 (And.intro ⟨by decide, by decide⟩ (w_X7_cable hG.1 hG.2.2.1 (fun hb q => ?_) (fun c hc ev hd => ?_) (fun c j hc ev hj ew => ?_))))
  · rw [hd1_1]; exact K0 hb
  · exact And.intro hG.2.2.2.1 (And.intro (by show vp_in 0 (sN S out); rw [hG.2.2.2.2.1]; exact in_0 (by decide)) (KD c hc ev hd))
  · exact And.intro hG.2.2.2.1 (And.intro (by show vp_in 0 (sN S out); rw [hG.2.2.2.2.1]; exact in_0 (by decide)) (KA c j hc ev hj ew))
theorem gq_same {S S1 S2 : MM} {x m out i : Nat} {A : Nat → Nat} (hQ : GQ S x m out A i) (hh : GH S S1 x m out A) (er : sR S1 = sR S) (ei : sI S1 = sI S) (e : SM [0] m A S1 S2) (im : IM S2 m A) : GQ S2 x m out A (i + 1) := ⟨p_same hQ.1 hh er ei e im, cm_fs hh (cm_same hQ.2 er ei) (FS.sm (MS_b hh) e)⟩
theorem q_cable0 {Q : Option Value → MM → Prop} {S : MM} {x m out i : Nat} {A : Nat → Nat} {v w : Int32} (hQ : GQ S x m out A i) (hi : i < 3000) (hb : b8 v) (K : ∀ r S2, GQ S2 x m out A (i + 1) → sI S2 m 0 = 1 → Q (some (.int r)) S2) : wX8_cable [.ref m, .int v, .int w] S Q := by
  obtain ⟨g1, g2, g3, g4, g5, g6, g7, nt, F, cl, bi, n0, fr, hF, hc0⟩ := id hQ.1.1
  have hl := BI_len bi
  exact w_X8_cable (nt := nt) g6 bi.1.1 bi.1.2.2.1 (by omega) (fun _ r S2 e im e0 => K r S2 (gq_same hQ (GH_0 hQ.1.1) rfl rfl e im) e0) (fun c hc ev => absurd hb (by rw [ev]; exact b8_no hc)) (fun c j hc ev => absurd hb (by rw [ev]; exact b8_no hc))
theorem q_cableD {Q : Option Value → MM → Prop} {S : MM} {x m out i c : Nat} {A : Nat → Nat} {v w : Int32} {z : Int64} (hQ : GQ S x m out A i) (hi : i < 3000) (hc : c < 8) (ev : v = nI c) (hd : w.toInt < 0 ∨ 8 < w.toInt) (K : ∀ S2, GQ S2 x m out A (i + 1) → sI S2 m 0 = 0 → sJ S2 = sJ (pJ S out 0 z) → Q (some (.int (-1))) S2) : wX8_cable [.ref m, .int v, .int w] (pJ S out 0 z) Q := by
  obtain ⟨g1, g2, g3, g4, g5, g6, g7, nt, F, cl, bi, n0, fr, hF, hc0⟩ := id hQ.1.1
  have hl := BI_len bi
  have hh : GH S (pJ S out 0 z) x m out A := GH_p (GH_0 hQ.1.1)
  have bi1 := BI_h hh.2.2.2.2.2.2.2.1 hh.2.2.2.2.2.2.2.2 bi
  refine w_X8_cable (S0 := pJ S out 0 z) (nt := nt) (MS_b hh) bi1.1.1 bi1.1.2.2.1 (by omega) (fun hb => absurd hb (by rw [ev]; exact b8_no hc)) (fun _ _ _ _ S2 e im e0 => K S2 (gq_same hQ hh rfl rfl e im) e0 e.2.2.2.1) (fun _ j _ _ hj ew => absurd hd (by
    rw [ew, nI_toInt (by omega)]
    omega))
theorem q_cableA {Q : Option Value → MM → Prop} {S : MM} {x m out i c j : Nat} {A : Nat → Nat} {v w : Int32} {z : Int64} (hQ : GQ S x m out A i) (hi : i < 3000) (hc : c < 8) (ev : v = nI c) (hj : j < 9) (ew : w = nI j) (K : ∀ S2, GQ S2 x m out A (i + 1) → sI S2 m 0 = 0 → sJ S2 = sJ (pJ S out 0 z) → Q (some (.int (cbA (sI S) (sR S) x c j))) S2) : wX8_cable [.ref m, .int v, .int w] (pJ S out 0 z) Q := by
  obtain ⟨g1, g2, g3, g4, g5, g6, g7, nt, F, cl, bi, n0, fr, hF, hc0⟩ := id hQ.1.1
  have hl := BI_len bi
  have hnt := bi.1.2.2.2.1
  have hh : GH S (pJ S out 0 z) x m out A := GH_p (GH_0 hQ.1.1)
  have hM1 := MS_b hh
  have bi1 := BI_h hh.2.2.2.2.2.2.2.1 hh.2.2.2.2.2.2.2.2 bi
  have frl := FRs_at hQ.1 n0 (by omega) (by omega)
  have hL := ly_of hQ.1.1
  refine w_X8_cable (S0 := pJ S out 0 z) (nt := nt) hM1 bi1.1.1 bi1.1.2.2.1 (by omega) (fun hb => absurd hb (by rw [ev]; exact b8_no hc)) (fun _ _ _ hd => absurd hd (by
    rw [ew, nI_toInt (by omega)]
    omega)) (fun c' j' hc' ev' hj' ew' S2 e im e0 => ?_)
  have ec : c = c' := nI_inj (by omega) (by omega) (ev.symm.trans ev')
  have ej : j = j' := nI_inj (by omega) (by omega) (ew.symm.trans ew')
  subst ec ej
  have kA : ∀ k, k ∈ DM → sI S2 (A k) = sI S (A k) := fun k hk => (show sI S2 (A k) = sI (pJ S out 0 z) (A k) from SM_a e hM1 hk ((show ∀ k ∈ DM, k ∉ ([0] : List Nat) by decide) k hk))
  have n2 : NRl (sR S) x m A (sI S) (sI S2) cl nt := NR_J n0 (fun k j a => by rw [kA k (dm_DM a)]) (fun j hj => e.2.2.2.2.2 j (by
    intro q
    exact hj (List.mem_singleton.mp q)))
  have f2 : FRl (sR S) x A (sI S) (sI S2) cl nt := FR_t hL FA.rf (fun k hk => kA k ((show ∀ k ∈ KF, k ∈ DM by decide) k hk)) frl
  have q := cb_eq n2 f2 ((hQ.2 c hc).trans (mcl_m n2 hc)) hc j hj
  rw [← q]
  exact K S2 (gq_same hQ hh rfl rfl e im) e0 e.2.2.2.1
