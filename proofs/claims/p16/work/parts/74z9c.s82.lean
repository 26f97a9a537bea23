/-! SIMULATION 82: cable of both sides exactly -/
theorem x_onN6 {Q : Option Value → MM → Prop} {S : MM} {m c e nt : Nat} {A : Nat → Nat} (hM : MS S m A) (e32 : sI S m 32 = nI nt) (hnt : nt ≤ 4000) (K : Q (some (.int (nI (gcB (fun t => isL c e (tg (sI S) A t)) nt)))) S) : ∀ (r i n : Nat) (lv : Lv), i + r = nt → 5 * r + 3 ≤ n → lvg lv 0 = some (.ref m) → lvg lv 1 = some (.int (nI c)) → lvg lv 2 = some (.int (nI e)) → lvg lv 3 = some (.int (nI 1)) → lvg lv 4 = some (.int (nI (gcB (fun t => isL c e (tg (sI S) A t)) i))) → lvg lv 5 = some (.int (nI i)) → wpn (kX8_on Q) n 6 lv [] S 0 0 := by
  intro r
  induction r with
  | zero =>
    intro i n lv hi hn l0 l1 l2 l3 l4 l5
    have : i = nt := by omega
    subst this
    obtain ⟨n, rfl⟩ : ∃ q, n = q + 2 := ⟨n - 2, by omega⟩
    refine u_X8_on_6 ?_
    unfold bX8_on_6
    refine e_ldI l5 (e_ldA l0 (e_gV (v := nI i) hM.1 e32 (e_ge (by omega) (by omega) (fun _ => u_X8_on_73 ?_) (fun z => absurd z (by omega)))))
    unfold bX8_on_73
    exact e_ldI l4 (e_rI K)
  | succ r ih =>
    intro i n lv hi hn l0 l1 l2 l3 l4 l5
    obtain ⟨n, rfl⟩ : ∃ q, n = q + 4 := ⟨n - 4, by omega⟩
    have hin : i < 4000 := by omega
    have kk : gcB (fun t => isL c e (tg (sI S) A t)) (i + 1) = gcB (fun t => isL c e (tg (sI S) A t)) i + (if isL c e (tg (sI S) A i) = true then 1 else 0) := rfl
    have go : ∀ v n', 5 * r + 3 ≤ n' → gcB (fun t => isL c e (tg (sI S) A t)) i + v = gcB (fun t => isL c e (tg (sI S) A t)) (i + 1) → wpn (kX8_on Q) (n' + 1) 64 lv [.int (nI v), .int (nI (gcB (fun t => isL c e (tg (sI S) A t)) i))] S 0 0 := fun v n' hn' ev => by
      refine u_X8_on_64 ?_
      unfold bX8_on_64
      refine e_add (e_stI (e_inc (lvg_ne l5 rfl (by decide)) ?_))
      exact ih (i + 1) n' _ (by omega) hn' (lvg_ne (lvg_ne l0 rfl (by decide)) rfl (by decide)) (lvg_ne (lvg_ne l1 rfl (by decide)) rfl (by decide)) (lvg_ne (lvg_ne l2 rfl (by decide)) rfl (by decide)) (lvg_ne (lvg_ne l3 rfl (by decide)) rfl (by decide)) (by rw [ev]; exact lvg_ne lvg_self rfl (by decide)) lvg_self
    have no : ∀ n', 5 * r + 4 ≤ n' → ¬ isL c e (tg (sI S) A i) = true → wpn (kX8_on Q) (n' + 1) 63 lv [.int (nI (gcB (fun t => isL c e (tg (sI S) A t)) i))] S 0 0 := fun n' hn' q => by
      obtain ⟨n', rfl⟩ : ∃ q, n' = q + 1 := ⟨n' - 1, by omega⟩
      refine u_X8_on_63 ?_
      unfold bX8_on_63
      exact e_cN 0 rfl (go 0 n' (by omega) (by rw [kk, if_neg q]))
    refine u_X8_on_6 ?_
    unfold bX8_on_6
    refine e_ldI l5 (e_ldA l0 (e_gV (v := nI nt) hM.1 e32 (e_ge (by omega) (by omega) (fun z => absurd z (by omega)) (fun _ => ?_))))
    refine e_ldI l4 (e_ldA l0 (e_gR hM.1 (hM.2.1 27 (by decide)).1 (e_ldI l5 (e_aV (N := 4000) (v := sI S (A 27) i) (hM.2.1 27 (by decide)).2.1 (hM.2.1 27 (by decide)).2.2.1 hin (by decide) rfl (e_ldI l1 ⟨fun h1 => ?_, fun h1 => no (n + 2) (by omega) (fun z => h1 (of_decide_eq_true z).1)⟩)))))
    refine e_ldA l0 (e_gR hM.1 (hM.2.1 28 (by decide)).1 (e_ldI l5 (e_aV (N := 4000) (v := sI S (A 28) i) (hM.2.1 28 (by decide)).2.1 (hM.2.1 28 (by decide)).2.2.1 hin (by decide) rfl (e_ldI l2 ⟨fun h2 => ?_, fun h2 => no (n + 2) (by omega) (fun z => h2 (of_decide_eq_true z).2.1)⟩))))
    refine e_ldA l0 (e_gR hM.1 (hM.2.1 30 (by decide)).1 (e_ldI l5 (e_aV (N := 4000) (v := sI S (A 30) i) (hM.2.1 30 (by decide)).2.1 (hM.2.1 30 (by decide)).2.2.1 hin (by decide) rfl (e_cI ⟨fun h3 => e_cN 1 rfl (u_X8_on_55 ?_), fun h3 => u_X8_on_54 ?_⟩))))
    · unfold bX8_on_55
      refine e_ldI l3 (e_eq (by decide) (by decide) (fun _ => e_cN 1 rfl (go 1 (n + 1) (by omega) ?_)) (fun z => absurd rfl z))
      have yes : isL c e (tg (sI S) A i) = true := decide_eq_true ⟨h1, h2, h3⟩
      rw [kk, if_pos yes]
    · unfold bX8_on_54
      refine e_cN 0 rfl (u_X8_on_55 ?_)
      unfold bX8_on_55
      exact e_ldI l3 (e_eq (by decide) (by decide) (fun z => absurd z (by decide)) (fun _ => no n (by omega) (fun z => h3 (of_decide_eq_true z).2.2)))
theorem x_onN {Q : Option Value → MM → Prop} {S : MM} {m c e nt : Nat} {A : Nat → Nat} (hM : MS S m A) (e32 : sI S m 32 = nI nt) (hnt : nt ≤ 4000) (K : Q (some (.int (nI (gcB (fun t => isL c e (tg (sI S) A t)) nt)))) S) : wX8_on [.ref m, .int (nI c), .int (nI e), .int (nI 1)] S Q := by
  refine Exists.intro (5 * nt + 10) (u_X8_on_0 ?_)
  unfold bX8_on_0
  refine e_cN 0 rfl (e_stI (e_cN 0 rfl (e_stI ?_)))
  exact x_onN6 hM e32 hnt K nt 0 (5 * nt + 9) _ (by omega) (by omega) (lvg_ne (lvg_ne rfl rfl (by decide)) rfl (by decide)) (lvg_ne (lvg_ne rfl rfl (by decide)) rfl (by decide)) (lvg_ne (lvg_ne rfl rfl (by decide)) rfl (by decide)) (lvg_ne (lvg_ne rfl rfl (by decide)) rfl (by decide)) (lvg_ne lvg_self rfl (by decide)) lvg_self
theorem e_sw0x {hi : Int} {ts : Nat → Kt} {t : Kt} {lv : Lv} {st : List Value} {S : MM} {c z : Nat} {x : Int32} (hh : hi < 1000) (h1 : (x.toInt < 0 ∨ hi < x.toInt) → t lv st S c z) (h2 : ∀ j : Nat, (j : Int) ≤ hi → x = nI j → ts j lv st S c z) : swt 0 hi ts t lv (.int x :: st) S c z := ⟨fun h => h1 h, fun j e hj => h2 j (by omega) (Int32.toInt_inj.mp (by rw [e, nI_toInt (by omega)]; omega))⟩
def cbA (I : Mm) (R : Nat → Nat → Option Nat) (b c : Nat) : Nat → Int32
  | 0 => if plg R b c then I (tlo R b c 0) 3 else -1
  | 1 => if plg R b c then I (tlo R b c 1) 3 else -1
  | 2 => if plg R b c then I (Cb R b c) 2 else -1
  | 3 => if I (Cb R b c) 3 = 0 then nI 0 else nI 1
  | 4 => if I (Cb R b c) 4 = 0 then nI 0 else nI 1
  | 5 => I (Ln R b c 0) 5
  | 6 => I (Ln R b c 1) 5
  | 7 => I (Ln R b c 0) 2
  | 8 => I (Ln R b c 1) 2
  | _ => -1
def cbM (J : Mm) (m : Nat) (A : Nat → Nat) (nt c : Nat) : Nat → Int32
  | 0 => if J (A 24) c = 0 then -1 else J (A 22) (2 * c + 0)
  | 1 => if J (A 24) c = 0 then -1 else J (A 22) (2 * c + 1)
  | 2 => if J (A 24) c = 0 then -1 else J (A 23) c
  | 3 => if J (A 24) c = 0 then nI 0 else if J (A 25) c = 0 then nI 0 else nI 1
  | 4 => if f_X8_isMeant J m A c = 0 then nI 0 else nI 1
  | 5 => nI (gcB (fun t => isG c 0 (tg J A t)) nt)
  | 6 => nI (gcB (fun t => isG c 1 (tg J A t)) nt)
  | 7 => nI (gcB (fun t => isL c 0 (tg J A t)) nt)
  | 8 => nI (gcB (fun t => isL c 1 (tg J A t)) nt)
  | _ => -1
theorem w_X7_cable {Q : Option Value → MM → Prop} {X : String → MM → Prop} {S0 : MM} {x0 : Nat} {w1 w2 : Int32} (hT : TY S0) (k0 : sK S0 x0 = 8) (XB : b8 w1 → X nseC S0) (KD : ∀ c, c < 8 → w1 = nI c → (w2.toInt < 0 ∨ 8 < w2.toInt) → Q (some (.int (-1))) S0) (K : ∀ c j, c < 8 → w1 = nI c → j < 9 → w2 = nI j → Q (some (.int (cbA (sI S0) (sR S0) x0 c j))) S0) : wX7_cable [.ref x0, .int w1, .int w2] S0 Q X := by
  have hL : LY S0 x0 := ⟨hT, k0⟩
  refine Exists.intro 40 (u_X7_cable_0 ?_)
  unfold bX7_cable_0
  refine e_ldI rfl (And.intro ⟨by decide, by decide⟩ (z_isCable' (fun hnc => ?_) (fun c hc e3 => ?_)))
  · exact e_ifN (by omega) (fun h4 => And.intro ⟨by decide, by decide⟩ (XB hnc)) (fun h4 => absurd rfl h4)
  subst e3
  have kC := (ly_C hL hc).2.1
  refine e_ifN (by omega) (fun h5 => absurd h5 (by decide)) (fun h5 => u_X7_cable_17 ?_)
  unfold bX7_cable_17
  refine e_ldA rfl (e_gR k0 (ly_ca hL).1 (e_ldI rfl (e_aR (N := 8) (ly_ca hL).2.1 (ly_ca hL).2.2 hc (by decide) (ly_C hL hc).1 (e_stA (e_ldI (lvg_ne rfl rfl (by decide)) (e_sw0x (by decide) (fun hd => u_X7_cable_206 ?_) (fun j h15 e18 => ?_)))))))
  · unfold bX7_cable_206
    exact e_cI (e_rI (KD c hc rfl hd))
  match j, h15, e18 with
  | 0, _, e18 =>
    subst e18
    refine u_X7_cable_76 ?_
    unfold bX7_cable_76
    have kk : Q (some (.int (if plg (sR S0) x0 c then sI S0 (tlo (sR S0) x0 c 0) 3 else -1))) S0 := K c 0 hc rfl (by decide) rfl
    refine e_ldA lvg_self (And.intro kC (And.intro ⟨by decide, by decide⟩ (x_plg hL hc (fun np => ?_) (fun pl => ?_))))
    · rw [if_neg np] at kk
      refine e_ifN (by omega) (fun _ => u_X7_cable_98 ?_) (fun h => absurd rfl h)
      unfold bX7_cable_98
      refine e_cI (u_X7_cable_99 ?_)
      unfold bX7_cable_99
      exact e_rI kk
    · rw [if_pos pl] at kk
      have nn : ¬ sR S0 (ppd (sR S0) x0 c) 0 = none := plg_i pl (by decide)
      obtain ⟨p, rp⟩ : ∃ p, sR S0 (ppd (sR S0) x0 c) 0 = some p := by
        cases q : sR S0 (ppd (sR S0) x0 c) 0 with
        | none => exact absurd q nn
        | some p => exact ⟨p, rfl⟩
      have kp : sK S0 p = 6 := by
        have := ly_nn hL.1 (ly_pp hL hc).2.1 rfl nn
        rw [rp] at this
        exact this
      obtain ⟨o, ro, ko, no⟩ := hT.1 p 6 0 7 0 kp rfl
      have et : tlo (sR S0) x0 c 0 = o := by
        unfold tlo
        rw [rp]
        show (sR S0 p 0).getD 0 = o
        rw [ro]
        rfl
      rw [et] at kk
      refine e_ifN (by omega) (fun h => absurd h (by decide)) (fun _ => e_ldA lvg_self (e_gR kC (ly_pp hL hc).1 (e_cN 0 rfl (e_aR (N := 2) (ly_pp hL hc).2.1 (ly_pp hL hc).2.2 (by decide) (by decide) rp (e_gR kp ro (e_gV ko rfl (u_X7_cable_99 ?_)))))))
      unfold bX7_cable_99
      exact e_rI kk
  | 1, _, e18 =>
    subst e18
    refine u_X7_cable_100 ?_
    unfold bX7_cable_100
    have kk : Q (some (.int (if plg (sR S0) x0 c then sI S0 (tlo (sR S0) x0 c 1) 3 else -1))) S0 := K c 1 hc rfl (by decide) rfl
    refine e_ldA lvg_self (And.intro kC (And.intro ⟨by decide, by decide⟩ (x_plg hL hc (fun np => ?_) (fun pl => ?_))))
    · rw [if_neg np] at kk
      refine e_ifN (by omega) (fun _ => u_X7_cable_122 ?_) (fun h => absurd rfl h)
      unfold bX7_cable_122
      refine e_cI (u_X7_cable_123 ?_)
      unfold bX7_cable_123
      exact e_rI kk
    · rw [if_pos pl] at kk
      have nn : ¬ sR S0 (ppd (sR S0) x0 c) 1 = none := plg_i pl (by decide)
      obtain ⟨p, rp⟩ : ∃ p, sR S0 (ppd (sR S0) x0 c) 1 = some p := by
        cases q : sR S0 (ppd (sR S0) x0 c) 1 with
        | none => exact absurd q nn
        | some p => exact ⟨p, rfl⟩
      have kp : sK S0 p = 6 := by
        have := ly_nn hL.1 (ly_pp hL hc).2.1 rfl nn
        rw [rp] at this
        exact this
      obtain ⟨o, ro, ko, no⟩ := hT.1 p 6 0 7 0 kp rfl
      have et : tlo (sR S0) x0 c 1 = o := by
        unfold tlo
        rw [rp]
        show (sR S0 p 0).getD 0 = o
        rw [ro]
        rfl
      rw [et] at kk
      refine e_ifN (by omega) (fun h => absurd h (by decide)) (fun _ => e_ldA lvg_self (e_gR kC (ly_pp hL hc).1 (e_cN 1 rfl (e_aR (N := 2) (ly_pp hL hc).2.1 (ly_pp hL hc).2.2 (by decide) (by decide) rp (e_gR kp ro (e_gV ko rfl (u_X7_cable_123 ?_)))))))
      unfold bX7_cable_123
      exact e_rI kk
  | 2, _, e18 =>
    subst e18
    refine u_X7_cable_124 ?_
    unfold bX7_cable_124
    have kk : Q (some (.int (if plg (sR S0) x0 c then sI S0 (Cb (sR S0) x0 c) 2 else -1))) S0 := K c 2 hc rfl (by decide) rfl
    refine e_ldA lvg_self (And.intro kC (And.intro ⟨by decide, by decide⟩ (x_plg hL hc (fun np => ?_) (fun pl => ?_))))
    · rw [if_neg np] at kk
      refine e_ifN (by omega) (fun _ => u_X7_cable_138 ?_) (fun h => absurd rfl h)
      unfold bX7_cable_138
      refine e_cI (u_X7_cable_139 ?_)
      unfold bX7_cable_139
      exact e_rI kk
    · rw [if_pos pl] at kk
      refine e_ifN (by omega) (fun h => absurd h (by decide)) (fun _ => e_ldA lvg_self (e_gV kC rfl (u_X7_cable_139 ?_)))
      unfold bX7_cable_139
      exact e_rI kk
  | 3, _, e18 =>
    subst e18
    refine u_X7_cable_140 ?_
    unfold bX7_cable_140
    have kk : Q (some (.int (if sI S0 (Cb (sR S0) x0 c) 3 = 0 then nI 0 else nI 1))) S0 := K c 3 hc rfl (by decide) rfl
    refine e_ldA lvg_self (e_gV kC rfl (e_if0 (fun h0 => u_X7_cable_151 ?_) (fun h0 => e_cN 1 rfl (u_X7_cable_152 ?_))))
    · unfold bX7_cable_151
      refine e_cN 0 rfl (u_X7_cable_152 ?_)
      unfold bX7_cable_152
      rw [if_pos h0] at kk
      exact e_rI kk
    · unfold bX7_cable_152
      rw [if_neg h0] at kk
      exact e_rI kk
  | 4, _, e18 =>
    subst e18
    refine u_X7_cable_153 ?_
    unfold bX7_cable_153
    have kk : Q (some (.int (if sI S0 (Cb (sR S0) x0 c) 4 = 0 then nI 0 else nI 1))) S0 := K c 4 hc rfl (by decide) rfl
    refine e_ldA lvg_self (e_gV kC rfl (e_if0 (fun h0 => u_X7_cable_164 ?_) (fun h0 => e_cN 1 rfl (u_X7_cable_165 ?_))))
    · unfold bX7_cable_164
      refine e_cN 0 rfl (u_X7_cable_165 ?_)
      unfold bX7_cable_165
      rw [if_pos h0] at kk
      exact e_rI kk
    · unfold bX7_cable_165
      rw [if_neg h0] at kk
      exact e_rI kk
  | 5, _, e18 =>
    subst e18
    refine u_X7_cable_166 ?_
    unfold bX7_cable_166
    exact e_ldA lvg_self (e_gR kC (ly_la hL hc).1 (e_cN 0 rfl (e_aR (N := 2) (ly_la hL hc).2.1 (ly_la hL hc).2.2 (by decide) (by decide) (ly_N hL hc (by decide)).1 (e_gV (ly_N hL hc (by decide)).2.1 rfl (e_rI (K c 5 hc rfl (by decide) rfl))))))
  | 6, _, e18 =>
    subst e18
    refine u_X7_cable_176 ?_
    unfold bX7_cable_176
    exact e_ldA lvg_self (e_gR kC (ly_la hL hc).1 (e_cN 1 rfl (e_aR (N := 2) (ly_la hL hc).2.1 (ly_la hL hc).2.2 (by decide) (by decide) (ly_N hL hc (by decide)).1 (e_gV (ly_N hL hc (by decide)).2.1 rfl (e_rI (K c 6 hc rfl (by decide) rfl))))))
  | 7, _, e18 =>
    subst e18
    refine u_X7_cable_186 ?_
    unfold bX7_cable_186
    exact e_ldA lvg_self (e_gR kC (ly_la hL hc).1 (e_cN 0 rfl (e_aR (N := 2) (ly_la hL hc).2.1 (ly_la hL hc).2.2 (by decide) (by decide) (ly_N hL hc (by decide)).1 (e_gV (ly_N hL hc (by decide)).2.1 rfl (e_rI (K c 7 hc rfl (by decide) rfl))))))
  | 8, _, e18 =>
    subst e18
    refine u_X7_cable_196 ?_
    unfold bX7_cable_196
    exact e_ldA lvg_self (e_gR kC (ly_la hL hc).1 (e_cN 1 rfl (e_aR (N := 2) (ly_la hL hc).2.1 (ly_la hL hc).2.2 (by decide) (by decide) (ly_N hL hc (by decide)).1 (e_gV (ly_N hL hc (by decide)).2.1 rfl (e_rI (K c 8 hc rfl (by decide) rfl))))))
  | nn + 9, hh, _ => exact absurd hh (by omega)
theorem w_X8_cable {Q : Option Value → MM → Prop} {S0 : MM} {m nt : Nat} {A : Nat → Nat} {w1 w2 : Int32} (hM : MS S0 m A) (im : IM S0 m A) (e32 : sI S0 m 32 = nI nt) (hnt : nt ≤ 4000) (KB : b8 w1 → ∀ r S', SM [0] m A S0 S' → IM S' m A → sI S' m 0 = 1 → Q (some (.int r)) S') (KD : ∀ c, c < 8 → w1 = nI c → (w2.toInt < 0 ∨ 8 < w2.toInt) → ∀ S', SM [0] m A S0 S' → IM S' m A → sI S' m 0 = 0 → Q (some (.int (-1))) S') (K : ∀ c j, c < 8 → w1 = nI c → j < 9 → w2 = nI j → ∀ S', SM [0] m A S0 S' → IM S' m A → sI S' m 0 = 0 → Q (some (.int (cbM (sI S') m A nt c j))) S') : wX8_cable [.ref m, .int w1, .int w2] S0 Q := by
  have sh : SM [0] m A S0 S0 := SM.rf
  refine Exists.intro 60 (u_X8_cable_0 ?_)
  unfold bX8_cable_0
  refine e_ldA rfl (e_ldI rfl (And.intro ⟨by decide, by decide⟩ (z_MisCable' (fun hb => ?_) (fun c hc e3 => ?_))))
  · refine e_ifN (by omega) (fun h4 => u_X8_cable_12 ?_) (fun h4 => absurd rfl h4)
    unfold bX8_cable_12
    refine e_cN 1 rfl (u_X8_cable_13 ?_)
    unfold bX8_cable_13
    refine y_mI hM sh im (by decide) (fun N e => nomatch (show (none : Option Nat) = some N from e)) (fun S5 he6 sh7 ir8 => ?_)
    exact e_ldA rfl (e_gV (v := nI 1) (SM_k sh7 hM.1) (by rw [he6]; exact rd_s) (e_lez (by omega) (fun h9 => absurd h9 (by decide)) (fun h9 => e_cN 0 rfl (e_rI (KB hb _ _ sh7 ir8 (by rw [he6]; exact rd_s))))))
  subst e3
  refine e_ifN (by omega) (fun h => absurd h (by decide)) (fun h => e_cN 0 rfl (u_X8_cable_13 ?_))
  unfold bX8_cable_13
  refine y_mI hM sh im (by decide) (fun N e => nomatch (show (none : Option Nat) = some N from e)) (fun S1 he1 sh1 im1 => ?_)
  have z0 : sI S1 m 0 = 0 := by rw [he1]; exact rd_s
  have hM1 := MS_SM hM sh1
  have f32 : sI S1 m 32 = nI nt := (sh1.2.2.2.2.2 32 (by decide)).trans e32
  refine e_ldA rfl (e_gV (v := nI 0) (SM_k sh1 hM.1) (by rw [he1]; exact rd_s) (e_lez (by omega) (fun h15 => u_X8_cable_25 ?_) (fun h15 => absurd rfl h15)))
  unfold bX8_cable_25
  refine e_ldI rfl (e_sw0x (by decide) (fun hd => u_X8_cable_179 ?_) (fun j h15 e18 => ?_))
  · unfold bX8_cable_179
    exact e_cI (e_rI (KD c hc rfl hd S1 sh1 im1 z0))
  match j, h15, e18 with
  | 0, _, e18 =>
    subst e18
    refine u_X8_cable_76 ?_
    unfold bX8_cable_76
    have kk : Q (some (.int (if sI S1 (A 24) c = 0 then -1 else sI S1 (A 22) (2 * c + 0)))) S1 := K c 0 hc rfl (by decide) rfl S1 sh1 im1 z0
    refine e_ldA rfl (e_gR hM1.1 (hM1.2.1 24 (by decide)).1 (e_ldI rfl (e_aV (N := 8) (hM1.2.1 24 (by decide)).2.1 (hM1.2.1 24 (by decide)).2.2.1 hc (by decide) rfl (e_if0 (fun h0 => u_X8_cable_98 ?_) (fun h0 => ?_)))))
    · rw [if_pos h0] at kk
      unfold bX8_cable_98
      refine e_cI (u_X8_cable_99 ?_)
      unfold bX8_cable_99
      exact e_rI kk
    · rw [if_neg h0] at kk
      refine e_ldA rfl (e_gR hM1.1 (hM1.2.1 22 (by decide)).1 (e_cN 2 rfl (e_ldI rfl (e_mul (e_ldI rfl (e_add (e_aV (N := 16) (hM1.2.1 22 (by decide)).2.1 (hM1.2.1 22 (by decide)).2.2.1 (by omega) (by decide) rfl (u_X8_cable_99 ?_))))))))
      unfold bX8_cable_99
      exact e_rI kk
  | 1, _, e18 =>
    subst e18
    refine u_X8_cable_76 ?_
    unfold bX8_cable_76
    have kk : Q (some (.int (if sI S1 (A 24) c = 0 then -1 else sI S1 (A 22) (2 * c + 1)))) S1 := K c 1 hc rfl (by decide) rfl S1 sh1 im1 z0
    refine e_ldA rfl (e_gR hM1.1 (hM1.2.1 24 (by decide)).1 (e_ldI rfl (e_aV (N := 8) (hM1.2.1 24 (by decide)).2.1 (hM1.2.1 24 (by decide)).2.2.1 hc (by decide) rfl (e_if0 (fun h0 => u_X8_cable_98 ?_) (fun h0 => ?_)))))
    · rw [if_pos h0] at kk
      unfold bX8_cable_98
      refine e_cI (u_X8_cable_99 ?_)
      unfold bX8_cable_99
      exact e_rI kk
    · rw [if_neg h0] at kk
      refine e_ldA rfl (e_gR hM1.1 (hM1.2.1 22 (by decide)).1 (e_cN 2 rfl (e_ldI rfl (e_mul (e_ldI rfl (e_add (e_aV (N := 16) (hM1.2.1 22 (by decide)).2.1 (hM1.2.1 22 (by decide)).2.2.1 (by omega) (by decide) rfl (u_X8_cable_99 ?_))))))))
      unfold bX8_cable_99
      exact e_rI kk
  | 2, _, e18 =>
    subst e18
    refine u_X8_cable_100 ?_
    unfold bX8_cable_100
    have kk : Q (some (.int (if sI S1 (A 24) c = 0 then -1 else sI S1 (A 23) c))) S1 := K c 2 hc rfl (by decide) rfl S1 sh1 im1 z0
    refine e_ldA rfl (e_gR hM1.1 (hM1.2.1 24 (by decide)).1 (e_ldI rfl (e_aV (N := 8) (hM1.2.1 24 (by decide)).2.1 (hM1.2.1 24 (by decide)).2.2.1 hc (by decide) rfl (e_if0 (fun h0 => u_X8_cable_118 ?_) (fun h0 => ?_)))))
    · rw [if_pos h0] at kk
      unfold bX8_cable_118
      refine e_cI (u_X8_cable_119 ?_)
      unfold bX8_cable_119
      exact e_rI kk
    · rw [if_neg h0] at kk
      refine e_ldA rfl (e_gR hM1.1 (hM1.2.1 23 (by decide)).1 (e_ldI rfl (e_aV (N := 8) (hM1.2.1 23 (by decide)).2.1 (hM1.2.1 23 (by decide)).2.2.1 hc (by decide) rfl (u_X8_cable_119 ?_))))
      unfold bX8_cable_119
      exact e_rI kk
  | 3, _, e18 =>
    subst e18
    refine u_X8_cable_120 ?_
    unfold bX8_cable_120
    have kk : Q (some (.int (if sI S1 (A 24) c = 0 then nI 0 else if sI S1 (A 25) c = 0 then nI 0 else nI 1))) S1 := K c 3 hc rfl (by decide) rfl S1 sh1 im1 z0
    refine e_ldA rfl (e_gR hM1.1 (hM1.2.1 24 (by decide)).1 (e_ldI rfl (e_aV (N := 8) (hM1.2.1 24 (by decide)).2.1 (hM1.2.1 24 (by decide)).2.2.1 hc (by decide) rfl (e_if0 (fun h0 => u_X8_cable_142 ?_) (fun h0 => ?_)))))
    · rw [if_pos h0] at kk
      unfold bX8_cable_142
      refine e_cN 0 rfl (u_X8_cable_143 ?_)
      unfold bX8_cable_143
      exact e_rI kk
    · rw [if_neg h0] at kk
      refine e_ldA rfl (e_gR hM1.1 (hM1.2.1 25 (by decide)).1 (e_ldI rfl (e_aV (N := 8) (hM1.2.1 25 (by decide)).2.1 (hM1.2.1 25 (by decide)).2.2.1 hc (by decide) rfl (e_if0 (fun h1 => u_X8_cable_142 ?_) (fun h1 => e_cN 1 rfl (u_X8_cable_143 ?_))))))
      · rw [if_pos h1] at kk
        unfold bX8_cable_142
        refine e_cN 0 rfl (u_X8_cable_143 ?_)
        unfold bX8_cable_143
        exact e_rI kk
      · rw [if_neg h1] at kk
        unfold bX8_cable_143
        exact e_rI kk
  | 4, _, e18 =>
    subst e18
    refine u_X8_cable_144 ?_
    unfold bX8_cable_144
    have kk : Q (some (.int (if f_X8_isMeant (sI S1) m A c = 0 then nI 0 else nI 1))) S1 := K c 4 hc rfl (by decide) rfl S1 sh1 im1 z0
    refine e_ldA rfl (e_ldI rfl (And.intro hM1.1 (And.intro ⟨by decide, by decide⟩ (x_X8_isMeant hM1 hc im1 ?_))))
    unfold KP
    refine e_if0 (fun h0 => u_X8_cable_156 ?_) (fun h0 => e_cN 1 rfl (u_X8_cable_157 ?_))
    · rw [if_pos h0] at kk
      unfold bX8_cable_156
      refine e_cN 0 rfl (u_X8_cable_157 ?_)
      unfold bX8_cable_157
      exact e_rI kk
    · rw [if_neg h0] at kk
      unfold bX8_cable_157
      exact e_rI kk
  | 5, _, e18 =>
    subst e18
    refine u_X8_cable_158 ?_
    unfold bX8_cable_158
    exact e_ldA rfl (e_ldI rfl (e_ldI rfl (e_cN 5 rfl (e_sub (by omega) (e_cN 0 rfl (And.intro hM1.1 (And.intro ⟨by decide, by decide⟩ (x_on (e := 0) hM1 f32 hnt (e_rI (K c 5 hc rfl (by decide) rfl S1 sh1 im1 z0))))))))))
  | 6, _, e18 =>
    subst e18
    refine u_X8_cable_158 ?_
    unfold bX8_cable_158
    exact e_ldA rfl (e_ldI rfl (e_ldI rfl (e_cN 5 rfl (e_sub (by omega) (e_cN 0 rfl (And.intro hM1.1 (And.intro ⟨by decide, by decide⟩ (x_on (e := 1) hM1 f32 hnt (e_rI (K c 6 hc rfl (by decide) rfl S1 sh1 im1 z0))))))))))
  | 7, _, e18 =>
    subst e18
    refine u_X8_cable_168 ?_
    unfold bX8_cable_168
    exact e_ldA rfl (e_ldI rfl (e_ldI rfl (e_cN 7 rfl (e_sub (by omega) (e_cN 1 rfl (And.intro hM1.1 (And.intro ⟨by decide, by decide⟩ (x_onN (e := 0) hM1 f32 hnt (e_rI (K c 7 hc rfl (by decide) rfl S1 sh1 im1 z0))))))))))
  | 8, _, e18 =>
    subst e18
    refine u_X8_cable_168 ?_
    unfold bX8_cable_168
    exact e_ldA rfl (e_ldI rfl (e_ldI rfl (e_cN 7 rfl (e_sub (by omega) (e_cN 1 rfl (And.intro hM1.1 (And.intro ⟨by decide, by decide⟩ (x_onN (e := 1) hM1 f32 hnt (e_rI (K c 8 hc rfl (by decide) rfl S1 sh1 im1 z0))))))))))
  | nn + 9, hh, _ => exact absurd hh (by omega)
