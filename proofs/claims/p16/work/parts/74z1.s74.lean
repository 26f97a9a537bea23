/-! SIMULATION 74: both sides give alike -/
theorem gcB_pos {g : Nat → Bool} {n j : Nat} (hj : j < n) (h : g j = true) : gcB g n ≠ 0 := by
  induction n with
  | zero => exact absurd hj (by omega)
  | succ n ih =>
    rw [gcB]
    by_cases q : j = n
    · rw [← q, if_pos h]; omega
    · have := ih (by omega)
      omega
theorem gvb_no {e cv : Nat} (he : e < 2) (hcv : cv < 256) : ¬ GVB (nI e) (nI cv) := fun h => by
  rcases h with (h | h) | h | h
  · exact nI_pos (by omega) h
  · have q := Int32.le_iff_toInt_le.mp h
    rw [nI_toInt (by omega), show (2 : Int32).toInt = 2 from by decide] at q
    omega
  · exact nI_pos (by omega) h
  · refine h (Int32.le_iff_toInt_le.mpr ?_)
    rw [nI_toInt (by omega), show (255 : Int32).toInt = 255 from by decide]
    omega
theorem b8_no {c : Nat} (hc : c < 8) : ¬ b8 (nI c) := fun h => by
  rcases h with h | h
  · exact nI_pos (by omega) h
  · have q := Int32.le_iff_toInt_le.mp h
    rw [nI_toInt (by omega), show (8 : Int32).toInt = 8 from by decide] at q
    omega
theorem p_two {R : Nat → Nat → Option Nat} {b e j : Nat} {I J : Mm} {A : Nat → Nat} (hj : j < 8) (rp : RP R b I J A (8 * e + j)) : I (Pt R b e j) 2 = J (A 11) (8 * e + j) := by
  rw [← px_e hj]; exact rp.1.1
/-- the same port -/
theorem gv_same {R : Nat → Nat → Option Nat} {b e cv j j' : Nat} {I : Mm} {S : MM} {A : Nat → Nat} {v : Int32} (he : e < 2) (rp : ∀ x, x < 16 → RP R b I (sI S) A x) (bn : BN R b I (sI S) A) (hj : j < 8) (hj' : j' < 8) (h1 : gvB I R b e v j = true) (h2 : gcB (gvB I R b e v) j = cv % gcB (gvB I R b e v) 8) (h3 : gv S A e v j' = true) (h4 : gc S A e v j' = cv % gc S A e v 8) : j = j' := by
  have e8 := gc_e (v := v) he rp bn 8 (by omega)
  have e1 := gc_e (v := v) he rp bn j' (by omega)
  have e2 := gv_e (v := v) he hj' (rp _ (by omega)) bn
  refine gcB_u (g := gvB I R b e v) h1 (e2.trans h3) ?_
  rw [h2, e1, h4, e8]
theorem CF_ln {R : Nat → Nat → Option Nat} {b c e n : Nat} {I : Mm} (h : I (Ln R b c e) 5 = nI n) (hn : n < 2 ^ 31) : (CF I R b c e).length = n := by
  unfold CF
  rw [List.length_map, List.length_range, h, nI_cl hn]
theorem gn_gy {R : Nat → Nat → Option Nat} {b e cv nt j c : Nat} {I : Mm} {S : MM} {A : Nat → Nat} {v : Int32} (he : e < 2) (rp : ∀ x, x < 16 → RP R b I (sI S) A x) (bn : BN R b I (sI S) A) (fl : FLr R b I (sI S) A nt) (h : GNo I R b e cv v) (g : GYm S A nt e cv v j c) : False := by
  obtain ⟨hj, hc, nv, g1, g2, g3, g4⟩ := g
  rcases h with h | ⟨j', hj', h1, h2, h3⟩
  · rw [gc_e he rp bn 8 (by omega), gc_gcB] at h
    exact gcB_pos hj g1 h
  · have ej := gv_same he rp bn hj' hj h1 h2 g1 g2
    subst ej
    have e2 := p_two hj (rp _ (show 8 * e + j' < 16 by omega))
    rw [g3] at e2
    rcases h3 with h3 | ⟨c', hc', h3, h4⟩
    · rw [e2] at h3
      exact b8_no hc h3
    · have ec : c = c' := nI_inj (by omega) (by omega) (e2.symm.trans h3)
      subst ec
      rw [on_len (fl c e hc he), CF_ln h4 (by omega)] at g4
      omega
theorem gy_gn {R : Nat → Nat → Option Nat} {b e cv nt j c nf : Nat} {I : Mm} {S : MM} {A : Nat → Nat} {v : Int32} (he : e < 2) (rp : ∀ x, x < 16 → RP R b I (sI S) A x) (bn : BN R b I (sI S) A) (fl : FLr R b I (sI S) A nt) (g : GYs I R b e cv v j c nf) (h : GNm S A nt e cv v) : False := by
  obtain ⟨hj, h1, h2, hc, h3, h4, h5⟩ := g
  rcases h with (h | h) | ⟨j', c', hj', hc', nv, g1, g2, g3, g4⟩
  · rw [gv_neg he hj (rp _ (by omega)) bn h] at h1
    exact absurd h1 (by decide)
  · rw [← gc_e he rp bn 8 (by omega)] at h
    exact gcB_pos hj h1 h
  · have ej := gv_same he rp bn hj hj' h1 h2 g1 g2
    subst ej
    have e2 := p_two hj (rp _ (show 8 * e + j < 16 by omega))
    rw [g3, h3] at e2
    have ec : c = c' := nI_inj (by omega) (by omega) e2
    subst ec
    rw [on_len (fl c e hc he), CF_ln h5 (by omega)] at g4
    omega
theorem gy_gy {R : Nat → Nat → Option Nat} {b e cv nt j c nf j' c' : Nat} {I : Mm} {S : MM} {A : Nat → Nat} {v : Int32} (he : e < 2) (rp : ∀ x, x < 16 → RP R b I (sI S) A x) (bn : BN R b I (sI S) A) (g : GYs I R b e cv v j c nf) (h : GYm S A nt e cv v j' c') : j' = j ∧ c' = c ∧ sI S (A 9) (8 * e + j) = nI 4 ∧ sI S (A 11) (8 * e + j) = nI c := by
  obtain ⟨hj, h1, h2, hc, h3, h4, h5⟩ := g
  obtain ⟨hj', hc', nv, g1, g2, g3, g4⟩ := h
  have ej := gv_same he rp bn hj hj' h1 h2 g1 g2
  subst ej
  have e2 := p_two hj (rp _ (show 8 * e + j < 16 by omega))
  rw [g3, h3] at e2
  have ec : c = c' := nI_inj (by omega) (by omega) e2
  subst ec
  unfold gv at g1
  rw [Bool.and_eq_true] at g1
  exact ⟨rfl, rfl, of_decide_eq_true g1.2, g3⟩
theorem fq_old {J J' : Mm} {A : Nat → Nat} {nt F c e : Nat} {x y : Int32} (frj : FRj J A nt F) (k35 : J' (A 35) = upd (J (A 35)) F x) (k36 : J' (A 36) = upd (J (A 36)) F y) : ((TG J A nt).filter (isG c e)).map (fq5 J' A) = ((TG J A nt).filter (isG c e)).map (fq5 J A) := by
  refine List.map_congr_left (fun q hq => ?_)
  obtain ⟨hq1, hq2⟩ := List.mem_filter.mp hq
  obtain ⟨t, ht, et⟩ := List.mem_map.mp hq1
  have n1 : ¬ q 3 = -1 := (of_decide_eq_true hq2).2.2
  have q3 : q 3 = J (A 30) t := by rw [← et]; rfl
  have lt : (q 3).toNatClampNeg < F := by rw [q3]; exact frj t (List.mem_range.mp ht) (by rw [← q3]; exact n1)
  unfold fq5
  rw [k35, k36]
  unfold upd
  rw [if_neg (by omega), if_neg (by omega)]
theorem fr_give {S S1 S' : MM} {b c e a nf cl nt F cv d : Nat} {y : Int32} {A : Nat → Nat} {J J' : Mm} (hL : LY S b) (hO : OC S) (hc : c < 8) (he : e < 2) (n5 : sI S (Ln (sR S) b c e) 5 = nI nf) (hnf : nf < 200) (af : AF S S1 (Ln (sR S) b c e) a nf) (ch : CHn S1 S' a (En (sR S) b e) b (nI cv) y (nI cl + nI d)) (le : LYE (sR S) (sR S') b) (h : FRl (sR S) b A (sI S) J cl nt) (hd : bd J A c = d) (hcl : cl + d < 2000000000) (frj : FRj J A nt F) (hF : F < 4200) (tgo : TG J' A nt = TG J A nt) (t27 : J' (A 27) nt = nI c) (t28 : J' (A 28) nt = nI e) (t29 : J' (A 29) nt = nI cl + nI d) (t30 : J' (A 30) nt = nI F) (k35 : J' (A 35) = upd (J (A 35)) F (nI cv)) (k36 : J' (A 36) = upd (J (A 36)) F y) (kk : ∀ k, (k = 23 ∨ k = 24 ∨ k = 41 ∨ k = 42) → J' (A k) = J (A k)) : FRl (sR S') b A (sI S') J' cl (nt + 1) := by
  obtain ⟨fl, fk, fe⟩ := h
  obtain ⟨g1, g2, g3, g4, g5, g6⟩ := giv_c hL hO hc he (fun c' e' hc' he' => (fk c' e' hc' he').1) n5 hnf af ch le
  have bde : ∀ c', bd J' A c' = bd J A c' := fun c' => by unfold bd; rw [kk 23 (by omega), kk 24 (by omega)]
  have row : ∀ c' e', c' < 8 → e' < 2 → (CF (sI S) (sR S) b c' e').map (fr5 (sI S')) = (CF (sI S) (sR S) b c' e').map (fr5 (sI S)) := fun c' e' hc' he' => List.map_congr_left (fun z hz => by unfold fr5; rw [g3 c' e' hc' he' z hz])
  have a3 : sI S' a 3 = nI (cl + d) := by rw [ch.2.2.2.2.2.2.2, nI_add]
  refine ⟨fun c' e' hc' he' => ?_, fun c' e' hc' he' => ⟨g4 c' e' hc' he', ?_⟩, fun e' he' => ?_⟩
  · rw [TG_s, tgo, List.filter_append, List.map_append, fq_old frj k35 k36, ← fl c' e' hc' he']
    by_cases q : c' = c ∧ e' = e
    · obtain ⟨rfl, rfl⟩ := q
      have yes : isG c' e' (tg J' A nt) = true := decide_eq_true ⟨t27, t28, fun z => nI_m1 (show F < 1000000 by omega) (t30.symm.trans z)⟩
      rw [g1, List.map_append, row c' e' hc he, List.filter_cons_of_pos yes, List.filter_nil]
      congr 1
      show [fr5 (sI S') a] = [fq5 J' A (tg J' A nt)]
      have e2 : tg J' A nt 2 = nI cl + nI d := t29
      have e3 : tg J' A nt 3 = nI F := t30
      unfold fr5 fq5
      rw [e2, e3, k35, k36, nI_cl (by omega), ch.2.2.2.2.2.1, ch.2.2.2.2.2.2.1, ch.2.2.2.2.2.2.2]
      unfold upd
      rw [if_pos rfl, if_pos rfl]
    · have no : isG c' e' (tg J' A nt) = false := decide_eq_false (fun z => q ⟨nI_inj (by omega) (by omega) (z.1.symm.trans t27), nI_inj (by omega) (by omega) (z.2.1.symm.trans t28)⟩)
      rw [g2 c' e' hc' he' q, row c' e' hc' he', List.filter_cons_of_neg (by rw [no]; decide), List.filter_nil]
      exact (List.append_nil _).symm
  · rw [bde]
    have old : DF (sI S') (CF (sI S) (sR S) b c' e') cl (cl + bd J A c' + 1) := DF_e (fk c' e' hc' he').2 (fun z hz => by rw [g3 c' e' hc' he' z hz])
    by_cases q : c' = c ∧ e' = e
    · obtain ⟨rfl, rfl⟩ := q
      rw [g1]
      refine ⟨fun z hz => ?_, List.pairwise_append.mpr ⟨old.2, List.pairwise_singleton _ _, fun z hz z' hz' => ?_⟩⟩
      · rcases List.mem_append.mp hz with y | y
        · exact old.1 z y
        · rw [List.mem_singleton.mp y]
          exact ⟨cl + d, a3, by omega, by omega⟩
      · rw [List.mem_singleton.mp hz', a3, nI_cl (by omega)]
        obtain ⟨dz, h1, h2, h3⟩ := old.1 z hz
        rw [h1, nI_cl (by omega)]
        omega
    · rw [g2 c' e' hc' he' q]
      exact old
  · obtain ⟨s, q1, q2, q3⟩ := fe e' he'
    exact ⟨s, g5 e' he' s q1, EKm_e q2 (by rw [kk 42 (by omega)]) (fun j => by rw [kk 41 (by omega)]), q3⟩
