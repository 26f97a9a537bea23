/-! SIMULATION 81: meant is what the reference means -/
theorem has_1 {R : Nat → Nat → Option Nat} {b x : Nat} {I J : Mm} {A : Nat → Nat} (h : RP R b I J A x) : (f_X6_has I (ox R b x) (nI 1) = 0) ↔ J (A 5) x = 0 := by
  obtain ⟨⟨h2, h3, h4, h5, h6, h7, h8, h9, o0, o1, o2, o3, o4, q0, q1, q2, q3, q4⟩, ⟨⟨s, hs, es⟩, _⟩, hl⟩ := h
  have B := (bt_f (decide (¬ J (A 5) x = 0)) (decide (¬ J (A 6) x = 0)) (decide (¬ J (A 3) x ≤ 0)) ⟨s, hs⟩).1
  unfold f_X6_has
  rw [o4, es, btv_b hs]
  have B' : (btb (decide (¬ J (A 5) x = 0)) (decide (¬ J (A 6) x = 0)) (decide (¬ J (A 3) x ≤ 0)) s &&& nI 1 = 0) ↔ J (A 5) x = 0 := by
    refine B.trans ⟨fun z => ?_, fun z => decide_eq_false (fun y => y z)⟩
    exact Classical.byContradiction (fun n => of_decide_eq_false z n)
  refine Iff.trans ?_ B'
  split
  · rename_i q; exact ⟨fun _ => q, fun _ => rfl⟩
  · rename_i q; exact ⟨fun z => absurd z (by decide), fun z => absurd z q⟩
theorem has_4 {R : Nat → Nat → Option Nat} {b x : Nat} {I J : Mm} {A : Nat → Nat} (h : RP R b I J A x) : (f_X6_has I (ox R b x) (nI 4) = 0) ↔ J (A 3) x ≤ 0 := by
  obtain ⟨⟨h2, h3, h4, h5, h6, h7, h8, h9, o0, o1, o2, o3, o4, q0, q1, q2, q3, q4⟩, ⟨⟨s, hs, es⟩, _⟩, hl⟩ := h
  have B := (bt_f (decide (¬ J (A 5) x = 0)) (decide (¬ J (A 6) x = 0)) (decide (¬ J (A 3) x ≤ 0)) ⟨s, hs⟩).2.2.1
  unfold f_X6_has
  rw [o4, es, btv_b hs]
  have B' : (btb (decide (¬ J (A 5) x = 0)) (decide (¬ J (A 6) x = 0)) (decide (¬ J (A 3) x ≤ 0)) s &&& nI 4 = 0) ↔ J (A 3) x ≤ 0 := by
    refine B.trans ⟨fun z => ?_, fun z => decide_eq_false (fun y => y z)⟩
    exact Classical.byContradiction (fun n => of_decide_eq_false z n)
  refine Iff.trans ?_ B'
  split
  · rename_i q; exact ⟨fun _ => q, fun _ => rfl⟩
  · rename_i q; exact ⟨fun z => absurd z (by decide), fun z => absurd z q⟩
/-- a plugged cable's ports on both sides -/
theorem at_x {R : Nat → Nat → Option Nat} {b m c e : Nat} {I J : Mm} {A : Nat → Nat} (rl : RLj R b I J A) (hc : c < 8) (he : e < 2) (h : J (A 24) c ≠ 0) : ∃ p, p < 8 ∧ f_X8_portAt J m A c e = 8 * e + p ∧ tlo R b c e = ox R b (8 * e + p) := by
  rcases rl.2.2 c hc with ⟨q, _⟩ | ⟨_, p0, p1, q0, q1, q2, q3, q4, q5⟩
  · exact absurd q h
  · have e' : e = 0 ∨ e = 1 := by omega
    have o : ∀ e p, p < 8 → ox R b (8 * e + p) = Ow R b e p := fun e p hp => by
      show Ow R b ((8 * e + p) / 8) ((8 * e + p) % 8) = _
      rw [show (8 * e + p) / 8 = e by omega, show (8 * e + p) % 8 = p by omega]
    rcases e' with rfl | rfl
    · refine ⟨p0, q0, ?_, ?_⟩
      · unfold f_X8_portAt
        rw [q2, nI_cl (by omega)]
      · rw [o 0 p0 q0]
        unfold tlo
        have q4' : R (ppd R b c) 0 = some (Pt R b 0 p0) := q4
        rw [q4']
        rfl
    · refine ⟨p1, q1, ?_, ?_⟩
      · unfold f_X8_portAt
        rw [q3, nI_cl (by omega)]
      · rw [o 1 p1 q1]
        unfold tlo
        have q5' : R (ppd R b c) 1 = some (Pt R b 1 p1) := q5
        rw [q5']
        rfl
theorem plg_24 {R : Nat → Nat → Option Nat} {b c : Nat} {I J : Mm} {A : Nat → Nat} (rl : RLj R b I J A) (hc : c < 8) : plg R b c ↔ J (A 24) c ≠ 0 := by
  rcases rl.2.2 c hc with ⟨q, q0, q1⟩ | ⟨q, p0, p1, _, _, _, _, q4, q5⟩
  · exact ⟨fun h => absurd q0 h.1, fun h => absurd q h⟩
  · have q4' : R (ppd R b c) 0 = some (Pt R b 0 p0) := q4
    have q5' : R (ppd R b c) 1 = some (Pt R b 1 p1) := q5
    exact ⟨fun _ => q, fun _ => ⟨by rw [q4']; simp, by rw [q5']; simp⟩⟩
theorem agr_m {R : Nat → Nat → Option Nat} {b m c : Nat} {I J : Mm} {A : Nat → Nat} (rp : ∀ x, x < 16 → RP R b I J A x) (rl : RLj R b I J A) (hc : c < 8) : f_X0_agrees I R b c = f_X8_agrees J m A c := by
  rw [agr_eq]
  unfold f_X8_agrees
  have e3 : I (Cb R b c) 3 = J (A 25) c := rl.1 c hc
  rw [e3]
  by_cases h : J (A 24) c = 0
  · rw [if_pos h, if_neg (fun z => (plg_24 rl hc).mp z h)]
    split <;> rfl
  · rw [if_neg h, if_pos ((plg_24 rl hc).mpr h)]
    obtain ⟨p0, hp0, x0, t0⟩ := at_x (m := m) rl hc (show 0 < 2 by decide) h
    obtain ⟨p1, hp1, x1, t1⟩ := at_x (m := m) rl hc (show 1 < 2 by decide) h
    rw [t0, t1, x0, x1]
    have a0 := has_1 (rp (8 * 0 + p0) (by omega))
    have a1 := has_1 (rp (8 * 1 + p1) (by omega))
    have b0 := has_4 (rp (8 * 0 + p0) (by omega))
    have b1 := has_4 (rp (8 * 1 + p1) (by omega))
    simp only [a0, a1, b0, b1]
theorem se_m {R : Nat → Nat → Option Nat} {b m : Nat} {I J : Mm} {A : Nat → Nat} (h5 : ∀ e, e < 2 → I (En R b e) 1 = J (A 1) e ∧ I (En R b e) 2 = J (A 2) e) : f_X7_strongerEnd I R b = f_X8_stronger J m A := by
  unfold f_X7_strongerEnd f_X8_stronger
  rw [(h5 0 (by decide)).1, (h5 1 (by decide)).1]
theorem i_add0 (w : Int32) : w + nI 0 = w := by
  apply Int32.toBitVec_inj.mp
  rw [Int32.toBitVec_add]
  show w.toBitVec + 0#32 = w.toBitVec
  bv_omega
theorem cnt_m {R : Nat → Nat → Option Nat} {b m c : Nat} {I J : Mm} {A : Nat → Nat} (rp : ∀ x, x < 16 → RP R b I J A x) (rl : RLj R b I J A) (h5 : ∀ e, e < 2 → I (En R b e) 1 = J (A 1) e ∧ I (En R b e) 2 = J (A 2) e) (hc : c < 8) (pc : J (A 24) c ≠ 0) : ∀ (r i : Nat) (w : Int32), i + r = 8 → (if mlim I R b ≤ g_X7_countMeantAhead_10 R b c r i (f_X7_strongerEnd I R b) I w then nI 0 else nI 1) = g_X8_isMeant_14 m A c r i J w := by
  have hs : f_X7_strongerEnd I R b < 2 := se_2
  have plc := (plg_24 rl hc).mpr pc
  have own : ∀ x, x < 16 → I (ox R b x) 1 = J (A 3) x ∧ I (ox R b x) 2 = J (A 4) x ∧ I (ox R b x) 3 = nI (x % 8) := fun x hx => ⟨(rp x hx).1.2.2.2.2.2.2.2.2.2.1, (rp x hx).1.2.2.2.2.2.2.2.2.2.2.1, (rp x hx).1.2.2.2.2.2.2.2.2.2.2.2.1⟩
  intro r
  induction r with
  | zero =>
    intro i w _
    rw [g_X8_isMeant_14, g_X7_countMeantAhead_10]
    unfold mlim
    rw [(h5 0 (by decide)).2, (h5 1 (by decide)).2]
  | succ r ih =>
    intro i w hi
    have hi8 : i < 8 := by omega
    rw [g_X8_isMeant_14, cnt_r, agr_m (m := m) rp rl hi8]
    by_cases ag : f_X8_agrees J m A i = 0
    · rw [if_pos ag, ih _ _ (by omega), if_pos ag]
      split <;> rfl
    · rw [if_neg ag, if_neg ag]
      have pi : J (A 24) i ≠ 0 := fun z => ag (by unfold f_X8_agrees; rw [if_pos z]; rfl)
      have pli := (plg_24 rl hi8).mpr pi
      obtain ⟨p0, hp0, x0, t0⟩ := at_x (m := m) rl hi8 (show 0 < 2 by decide) pi
      obtain ⟨p1, hp1, x1, t1⟩ := at_x (m := m) rl hi8 (show 1 < 2 by decide) pi
      obtain ⟨ps, hps, xs, ts⟩ := at_x (m := m) rl hi8 hs pi
      obtain ⟨c0, hc0, y0, u0⟩ := at_x (m := m) rl hc (show 0 < 2 by decide) pc
      obtain ⟨c1, hc1, y1, u1⟩ := at_x (m := m) rl hc (show 1 < 2 by decide) pc
      obtain ⟨cs, hcs, ys, us⟩ := at_x (m := m) rl hc hs pc
      have os := own _ (show 8 * f_X7_strongerEnd I R b + ps < 16 by omega)
      have oc := own _ (show 8 * f_X7_strongerEnd I R b + cs < 16 by omega)
      rw [grp_eq pli plc, t0, t1, u0, u1, (own _ (show 8 * 0 + p0 < 16 by omega)).1, (own _ (show 8 * 1 + p1 < 16 by omega)).1, (own _ (show 8 * 0 + c0 < 16 by omega)).1, (own _ (show 8 * 1 + c1 < 16 by omega)).1]
      unfold ahQ
      rw [ts, us, os.2.1, os.2.2, oc.2.1, oc.2.2, ← se_m (m := m) h5, x0, x1, xs, y0, y1, ys, i_add0, show w + nI 1 = w + 1 from rfl, ← ih (i + 1) w (by omega), ← ih (i + 1) (w + 1) (by omega)]
      have m1 : (8 * f_X7_strongerEnd I R b + ps) % 8 = ps := by omega
      have m2 : (8 * f_X7_strongerEnd I R b + cs) % 8 = cs := by omega
      rw [m1, m2]
      have le := nI_leI (show cs < 2 ^ 31 by omega) (show ps < 2 ^ 31 by omega)
      by_cases ic : i = c
      · subst ic
        have e0 : p0 = c0 := by omega
        have e1 : p1 = c1 := by omega
        have es : ps = cs := by omega
        subst e0 e1 es
        rw [if_pos (show i = i from rfl)]
        simp [le]
        rw [if_neg (show ¬ (nI 1 = 0) by decide), if_pos (show nI 0 = 0 from rfl)]
      · rw [if_neg ic]
        by_cases k0 : J (A 3) (8 * 0 + p0) = J (A 3) (8 * 0 + c0)
        · rw [if_pos k0, if_pos k0.symm]
          by_cases k1 : J (A 3) (8 * 1 + p1) = J (A 3) (8 * 1 + c1)
          · rw [if_pos k1, if_pos k1.symm, if_neg (show ¬ (nI 1 = 0) by decide)]
            by_cases k2 : J (A 4) (8 * f_X7_strongerEnd I R b + ps) = J (A 4) (8 * f_X7_strongerEnd I R b + cs)
            · rw [if_pos k2, if_pos k2]
              by_cases k3 : cs ≤ ps
              · rw [if_pos (le.mpr k3), if_pos (show nI 0 = 0 from rfl), if_pos (show 8 * f_X7_strongerEnd I R b + cs ≤ 8 * f_X7_strongerEnd I R b + ps by omega)]
              · rw [if_neg (fun z => k3 (le.mp z)), if_neg (show ¬ (nI 1 = 0) by decide), if_neg (show ¬ 8 * f_X7_strongerEnd I R b + cs ≤ 8 * f_X7_strongerEnd I R b + ps by omega)]
            · rw [if_neg k2, if_neg k2]
              by_cases k3 : J (A 4) (8 * f_X7_strongerEnd I R b + cs) ≤ J (A 4) (8 * f_X7_strongerEnd I R b + ps)
              · rw [if_pos k3, if_pos (show nI 0 = 0 from rfl), if_pos k3]
              · rw [if_neg k3, if_neg (show ¬ (nI 1 = 0) by decide), if_neg k3]
          · rw [if_neg k1, if_pos (show nI 0 = 0 from rfl), if_neg (show ¬ J (A 3) (8 * 1 + c1) = J (A 3) (8 * 1 + p1) from fun z => k1 z.symm)]
        · rw [if_neg k0, if_pos (show nI 0 = 0 from rfl), if_neg (show ¬ J (A 3) (8 * 0 + c0) = J (A 3) (8 * 0 + p0) from fun z => k0 z.symm)]
theorem mcl_m {R : Nat → Nat → Option Nat} {b m c cl nt : Nat} {I J : Mm} {A : Nat → Nat} (h : NRl R b m A I J cl nt) (hc : c < 8) : mcl I R b c = f_X8_isMeant J m A c := by
  obtain ⟨h1, h2, h3, h4, h5, h6, h7, h8, h9, h10, h11⟩ := h
  have rp := fun x hx => (h1 x hx).1
  unfold mcl f_X8_isMeant
  rw [agr_m (m := m) rp h7 hc]
  by_cases ag : f_X8_agrees J m A c = 0
  · rw [if_pos ag, if_pos ag]
  · have pc : J (A 24) c ≠ 0 := fun z => ag (by unfold f_X8_agrees; rw [if_pos z]; rfl)
    rw [if_neg ag, if_neg ag]
    exact cnt_m rp h7 h5 hc pc 8 0 (nI 0) rfl
/-- what it hangs on -/
def KMt : List Nat := [1, 2, 3, 4, 5, 22, 24, 25]
theorem agM_c {m c : Nat} {J J' : Mm} {A : Nat → Nat} (h : ∀ k ∈ KMt, J' (A k) = J (A k)) : f_X8_agrees J' m A c = f_X8_agrees J m A c := by
  unfold f_X8_agrees f_X8_portAt
  rw [h 3 (by decide), h 5 (by decide), h 22 (by decide), h 24 (by decide), h 25 (by decide)]
theorem isM_c {m c : Nat} {J J' : Mm} {A : Nat → Nat} (h : ∀ k ∈ KMt, J' (A k) = J (A k)) : f_X8_isMeant J' m A c = f_X8_isMeant J m A c := by
  have pa : ∀ d e, f_X8_portAt J' m A d e = f_X8_portAt J m A d e := fun d e => by
    unfold f_X8_portAt
    rw [h 22 (by decide)]
  have st : f_X8_stronger J' m A = f_X8_stronger J m A := by
    unfold f_X8_stronger
    rw [h 1 (by decide)]
  have q : ∀ r i w, g_X8_isMeant_14 m A c r i J' w = g_X8_isMeant_14 m A c r i J w := by
    intro r
    induction r with
    | zero =>
      intro i w
      rw [g_X8_isMeant_14, g_X8_isMeant_14, h 2 (by decide)]
    | succ r ih =>
      intro i w
      rw [g_X8_isMeant_14, g_X8_isMeant_14]
      simp only [agM_c h, pa, st, h 3 (by decide), h 4 (by decide), ih]
  unfold f_X8_isMeant
  rw [agM_c h, q]
