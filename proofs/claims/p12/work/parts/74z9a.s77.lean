/-! SIMULATION 77: came of both sides exactly -/
theorem rem50_j {v : Int32} {t : Int} (h : v.toInt = t) (h0 : 0 ≤ t) (h1 : t < 50) : ∃ j : Nat, j < 50 ∧ v = nI j ∧ (j : Int) = t := by
  refine ⟨t.toNat, by omega, Int32.toInt_inj.mp ?_, by omega⟩
  rw [nI_toInt (by omega), h]
  omega
theorem z_floorModx {S : MM} {v : Int32} {Q : Option Value → MM → Prop} (K : ∀ j : Nat, j < 50 → (j : Int) = v.toInt % 50 → Q (some (.int (nI j))) S) : wM_floorMod [.int v, .int (nI 50)] S Q := by
  have b1 := Int.tmod_lt_of_pos v.toInt (show (0 : Int) < 50 by decide)
  have b2 := Int.lt_tmod_of_pos v.toInt (show (0 : Int) < 50 by decide)
  have hr := rem50 v
  have hm := Int.mul_tdiv_add_tmod v.toInt 50
  have b3 : 0 ≤ v.toInt → 0 ≤ v.toInt.tmod 50 := fun h => Int.tmod_nonneg 50 h
  have fin : (∃ j : Nat, j < 50 ∧ v - v / 50 * 50 = nI j ∧ (j : Int) = v.toInt % 50) → ∀ lv, lvg lv 2 = some (.int (v - v / 50 * 50)) → wpn (kM_floorMod Q) 2 18 lv [] S 0 0 := fun ⟨j, hj, e, e2⟩ lv g => by
    refine u_M_floorMod_18 ?_
    unfold bM_floorMod_18
    refine e_ldI g ?_
    rw [e]
    exact e_rI (K j hj e2)
  refine Exists.intro 3 (u_M_floorMod_0 ?_)
  unfold bM_floorMod_0
  refine e_ldI rfl (e_ldI rfl (And.intro (nI_n0 (by decide) (by decide)) (e_stI (e_ldI rfl (e_ldI rfl ?_)))))
  show ifz (fun x => 0 ≤ x) _ _ _ [.int (v ^^^ 50)] S 0 0
  refine ⟨fun h => ?_, fun h => ?_⟩
  · have h0 : 0 ≤ v.toInt := by
      have := Int32.le_iff_toInt_le.mp ((xor50 v).mp h)
      rw [show (0 : Int32).toInt = 0 from by decide] at this
      exact this
    obtain ⟨j, hj, ej, e2⟩ := rem50_j hr (Int.tmod_nonneg _ h0) b1
    exact fin ⟨j, hj, ej, by omega⟩ _ lvg_self
  · refine e_ldI lvg_self (e_if0 (fun h0 => ?_) (fun h0 => ?_))
    · have h0' : v - v / 50 * 50 = 0 := h0
      rw [h0', show (0 : Int32).toInt = 0 from by decide] at hr
      exact fin ⟨0, by decide, h0, by omega⟩ _ lvg_self
    · have hneg : v.toInt < 0 := by
        rcases Int.lt_or_le v.toInt 0 with q | q
        · exact q
        · exact absurd ((xor50 v).mpr (by rw [Int32.le_iff_toInt_le, show (0 : Int32).toInt = 0 from by decide]; exact q)) h
      have hle : v.toInt.tmod 50 ≤ 0 := by
        have := Int.tmod_nonneg (a := -v.toInt) 50 (by omega)
        rw [Int.neg_tmod] at this
        omega
      have hne : v.toInt.tmod 50 ≠ 0 := fun z => h0 (Int32.toInt_inj.mp (by show (v - v / 50 * 50).toInt = _; rw [hr, z]; decide))
      have hs : (v - v / 50 * 50 + 50).toInt = v.toInt.tmod 50 + 50 := by
        rw [Int32.toInt_add, hr, show (50 : Int32).toInt = 50 from by decide]
        exact bm32 (by omega) (by omega)
      obtain ⟨j, hj, e, e2⟩ := rem50_j hs (by omega) (by omega)
      refine e_ldI lvg_self (e_ldI rfl ?_)
      show Q (some (.int (v - v / 50 * 50 + 50))) S
      rw [e]
      exact K j hj (by omega)
def mn (n : Nat) : Nat := if 50 < n then 50 else n
/-- no such frame -/
def CAB (n : Nat → Nat) (v w : Int32) : Prop := bE v ∨ w < 0 ∨ ∃ e i, e < 2 ∧ v = nI e ∧ w = nI i ∧ i < 2147483648 ∧ ¬ i < mn (n e)
/-- the i-th frame of end e -/
def CAG (n : Nat → Nat) (v w : Int32) (e i : Nat) : Prop := e < 2 ∧ v = nI e ∧ w = nI i ∧ i < mn (n e)
theorem mn_50 (n : Nat) : mn n ≤ 50 := by
  unfold mn
  split <;> omega
theorem mn_le (n : Nat) : mn n ≤ n := by
  unfold mn
  split <;> omega
theorem cm_no {n : Nat → Nat} {v w : Int32} {e i : Nat} (g : CAG n v w e i) : ¬ CAB n v w := fun h => by
  obtain ⟨he, rfl, rfl, hi⟩ := g
  have := mn_50 (n e)
  rcases h with (h | h) | h | ⟨e', i', he', ee, ei, hi', h⟩
  · exact nI_pos (by omega) h
  · have q := Int32.le_iff_toInt_le.mp h
    rw [nI_toInt (by omega), show (2 : Int32).toInt = 2 from by decide] at q
    omega
  · exact nI_pos (by omega) h
  · have e1 : e = e' := nI_inj (by omega) (by omega) ee
    have e2 : i = i' := nI_j2 (by omega) (by omega) ei
    subst e1 e2
    exact h hi
theorem c4 {w : Int32} (h : w < 0) : w < 0 ∨ 4 ≤ w := Or.inl h
theorem c4n {q : Nat} (hq : q < 2147483648) (h : 4 ≤ q) : nI q < 0 ∨ 4 ≤ nI q := Or.inr (Int32.le_iff_toInt_le.mpr (by rw [nI_toInt (by omega), show (4 : Int32).toInt = 4 from by decide]; omega))
theorem c4_no {q : Nat} (hq : q < 4) : ¬ (nI q < 0 ∨ 4 ≤ nI q) := fun h => by
  rcases h with h | h
  · exact nI_pos (by omega) h
  · have z := Int32.le_iff_toInt_le.mp h
    rw [nI_toInt (by omega), show (4 : Int32).toInt = 4 from by decide] at z
    omega
theorem cm_slot {n i : Nat} (hi : i < mn n) {j : Nat} (h : (j : Int) = (nI (n % 50) - nI 1 - nI i).toInt % 50) : j = (n - 1 - i) % 50 := by
  have h5 := mn_50 n
  have hl := mn_le n
  have e : (nI (n % 50) - nI 1 - nI i).toInt = (n % 50 : Nat) - 1 - (i : Int) := by
    rw [Int32.toInt_sub, Int32.toInt_sub, nI_toInt (by omega), nI_toInt (by omega), nI_toInt (by omega), bm32 (x := ((n % 50 : Nat) : Int) - ((1 : Nat) : Int)) (by omega) (by omega), bm32 (by omega) (by omega)]
    rfl
  rw [e] at h
  omega
theorem w_X7_came {Q : Option Value → MM → Prop} {X : String → MM → Prop} {S0 : MM} {x0 : Nat} {w1 w2 w3 : Int32} {n : Nat → Nat} {g : Nat → Nat → Int32} (hT : TY S0) (ir : IR S0) (k0 : sK S0 x0 = 8) (ek : ∀ e, e < 2 → EKc (sI S0) (sR S0) x0 e (n e, g e)) (XB : CAB n w1 w2 → X nseC S0) (KN : ∀ e i, CAG n w1 w2 e i → (w3 < 0 ∨ 4 ≤ w3) → Q (some (.int (-1))) S0) (KA : ∀ e i q, CAG n w1 w2 e i → q < 4 → w3 = nI q → Q (some (.int (g e (4 * ((n e - 1 - i) % 50) + q)))) S0) : wX7_came [.ref x0, .int w1, .int w2, .int w3] S0 Q X := by
  have sh : SH [] S0 S0 := SH.rf
  refine Exists.intro 40 (u_X7_came_0 ?_)
  unfold bX7_came_0
  refine e_ldI rfl ?_
  refine And.intro ⟨by decide, by decide⟩ (z_isEnd' (fun hbE => ?_) (fun j1 hj2 e3 => ?_))
  · refine e_ifN (by omega) (fun h4 => ?_) (fun h4 => ?_)
    · refine u_X7_came_24 ?_
      unfold bX7_came_24
      exact And.intro ⟨by decide, by decide⟩ (XB (Or.inl hbE))
    · exact absurd rfl h4
  · subst e3
    refine e_ifN (by omega) (fun h5 => ?_) (fun h5 => ?_)
    · exact absurd h5 (by decide)
    · refine e_ldI rfl ?_
      refine ⟨fun hlt => ?_, fun hlt => ?_⟩
      · refine u_X7_came_24 ?_
        unfold bX7_came_24
        exact And.intro ⟨by decide, by decide⟩ (XB (Or.inr (Or.inl hlt)))
      · obtain ⟨j6, hj7, e8⟩ := nn_nat hlt
        subst e8
        refine e_ldI rfl ?_
        refine e_ldA rfl ?_
        obtain ⟨b9, rb10, kb11, nb12⟩ := hT.1 x0 8 0 13 2 k0 rfl
        refine e_gR (SH_k sh k0) (SH_r sh rb10) ?_
        refine e_ldI rfl ?_
        obtain ⟨b13, rb14, kb15, nb16⟩ := hT.2.1 b9 13 2 2 j1 kb11 nb12 rfl (by omega)
        refine e_aR (SH_k sh kb11) (SH_n sh nb12) (by omega) (by decide) (SH_r sh rb14) ?_
        have eE : b13 = En (sR S0) x0 j1 := by
          unfold En ead
          rw [rb10]
          show b13 = (sR S0 b9 j1).getD 0
          rw [rb14]
          rfl
        subst eE
        obtain ⟨q1, q2, q3, q4⟩ := ek j1 hj2
        have m50 := mn_50 (n j1)
        refine e_gV (v := nI (mn (n j1))) (SH_k sh kb15) q3 ?_
        refine e_lt (by omega) (by omega) (fun h20 => ?_) (fun h20 => ?_)
        · refine u_X7_came_34 ?_
          unfold bX7_came_34
          refine e_ldI rfl ?_
          refine ⟨fun hlt2 => ?_, fun hlt2 => ?_⟩
          · refine u_X7_came_43 ?_
            unfold bX7_came_43
            refine e_cI ?_
            exact e_rI (KN j1 j6 ⟨hj2, rfl, rfl, h20⟩ (c4 hlt2))
          · obtain ⟨j21, hj22, e23⟩ := nn_nat hlt2
            subst e23
            refine e_ldI rfl ?_
            refine e_cN 4 rfl ?_
            refine e_lt (by omega) (by omega) (fun h24 => ?_) (fun h24 => ?_)
            · refine u_X7_came_45 ?_
              unfold bX7_came_45
              refine e_ldA rfl ?_
              refine e_gR (SH_k sh k0) (SH_r sh rb10) ?_
              refine e_ldI rfl ?_
              refine e_aR (SH_k sh kb11) (SH_n sh nb12) (by omega) (by decide) (SH_r sh rb14) ?_
              refine e_gV (v := nI (n j1 % 50)) (SH_k sh kb15) q2 ?_
              refine e_cN 1 rfl ?_
              refine e_bopE ?_
              refine e_ldI rfl ?_
              refine e_bopE ?_
              refine e_cN 50 rfl ?_
              refine And.intro ⟨by decide, by decide⟩ (z_floorModx (fun n30 hn31 en30 => ?_))
              have es := cm_slot h20 en30
              refine e_stI ?_
              refine e_ldA (lvg_ne rfl rfl (by decide)) ?_
              refine e_gR (SH_k sh k0) (SH_r sh rb10) ?_
              refine e_ldI (lvg_ne rfl rfl (by decide)) ?_
              refine e_aR (SH_k sh kb11) (SH_n sh nb12) (by omega) (by decide) (SH_r sh rb14) ?_
              obtain ⟨b32, rb33, kb34, nb35⟩ := hT.1 (En (sR S0) x0 j1) 2 4 10 200 kb15 rfl
              refine e_gR (SH_k sh kb15) (SH_r sh rb33) ?_
              refine e_ldI lvg_self ?_
              refine e_cN 4 rfl ?_
              refine e_mul ?_
              refine e_ldI (lvg_ne rfl rfl (by decide)) ?_
              refine e_add ?_
              have eK : b32 = kad (sR S0) x0 j1 := by
                unfold kad
                rw [rb33]
                rfl
              have v36 : sI S0 b32 (n30 * 4 + j21) = g j1 (4 * ((n j1 - 1 - j6) % 50) + j21) := by
                rw [eK, q4 _ (by omega), es]
                show g j1 ((n j1 - 1 - j6) % 50 * 4 + j21) = _
                rw [Nat.mul_comm]
              refine e_aV (SH_k sh kb34) (SH_n sh nb35) (by omega) (by decide) v36 ?_
              exact e_rI (KA j1 j6 j21 ⟨hj2, rfl, rfl, h20⟩ h24 rfl)
            · refine u_X7_came_43 ?_
              unfold bX7_came_43
              refine e_cI ?_
              exact e_rI (KN j1 j6 ⟨hj2, rfl, rfl, h20⟩ (c4n hj22 h24))
        · refine u_X7_came_24 ?_
          unfold bX7_came_24
          exact And.intro ⟨by decide, by decide⟩ (XB (Or.inr (Or.inr ⟨j1, j6, hj2, rfl, rfl, hj7, by omega⟩)))
theorem w_f_came {Q : Option Value → MM → Prop} {S0 : MM} {m : Nat} {A : Nat → Nat} {w1 w2 w3 : Int32} {n : Nat → Nat} {g : Nat → Nat → Int32} (hM : MS S0 m A) (ek : ∀ e, e < 2 → EKm (sI S0) A e (n e, g e)) (hn : ∀ e, e < 2 → n e ≤ 100000) (im : IM S0 m A) (KB : CAB n w1 w2 → ∀ r S', SM [0] m A S0 S' → IM S' m A → sI S' m 0 = 1 → Q (some (.int r)) S') (KN : ∀ e i, CAG n w1 w2 e i → (w3 < 0 ∨ 4 ≤ w3) → ∀ S', SM [0] m A S0 S' → IM S' m A → sI S' m 0 = 0 → Q (some (.int (-1))) S') (KA : ∀ e i q, CAG n w1 w2 e i → q < 4 → w3 = nI q → ∀ S', SM [0] m A S0 S' → IM S' m A → sI S' m 0 = 0 → Q (some (.int (g e (4 * ((n e - 1 - i) % 50) + q)))) S') : wX8_came [.ref m, .int w1, .int w2, .int w3] S0 Q := by
  have sh : SM [0] m A S0 S0 := SM.rf
  refine Exists.intro 60 (u_X8_came_0 ?_)
  unfold bX8_came_0
  refine e_ldA rfl ?_
  refine e_ldI rfl ?_
  refine And.intro ⟨by decide, by decide⟩ (z_MisEnd' (fun hbE => ?_) (fun j1 hj2 e3 => ?_))
  · refine e_ifN (by omega) (fun h4 => ?_) (fun h4 => ?_)
    · refine u_X8_came_27 ?_
      unfold bX8_came_27
      refine e_cN 1 rfl ?_
      refine u_X8_came_32 ?_
      unfold bX8_came_32
      refine y_mI hM sh im (by decide) (fun N e => nomatch (show (none : Option Nat) = some N from e)) (fun S5 he6 sh7 ir8 => ?_)
      refine e_ldA rfl ?_
      refine e_gV (v := nI 1) (SM_k sh7 hM.1) (by rw [he6]; exact rd_s) ?_
      refine e_lez (by omega) (fun h9 => ?_) (fun h9 => ?_)
      · exact absurd h9 (by decide)
      · refine e_cN 0 rfl ?_
        exact e_rI (KB (Or.inl hbE) _ _ sh7 ir8 (by rw [he6]; exact rd_s))
    · exact absurd rfl h4
  · subst e3
    refine e_ifN (by omega) (fun h10 => ?_) (fun h10 => ?_)
    · exact absurd h10 (by decide)
    · refine e_ldI rfl ?_
      refine ⟨fun hlt => ?_, fun hlt => ?_⟩
      · refine u_X8_came_27 ?_
        unfold bX8_came_27
        refine e_cN 1 rfl ?_
        refine u_X8_came_32 ?_
        unfold bX8_came_32
        refine y_mI hM sh im (by decide) (fun N e => nomatch (show (none : Option Nat) = some N from e)) (fun S14 he15 sh16 ir17 => ?_)
        refine e_ldA rfl ?_
        refine e_gV (v := nI 1) (SM_k sh16 hM.1) (by rw [he15]; exact rd_s) ?_
        refine e_lez (by omega) (fun h18 => ?_) (fun h18 => ?_)
        · exact absurd h18 (by decide)
        · refine e_cN 0 rfl ?_
          exact e_rI (KB (Or.inr (Or.inl hlt)) _ _ sh16 ir17 (by rw [he15]; exact rd_s))
      · obtain ⟨j11, hj12, e13⟩ := nn_nat hlt
        subst e13
        refine e_ldI rfl ?_
        refine e_ldA rfl ?_
        refine e_gR (SM_k sh hM.1) (SM_r sh (hM.2.1 42 (by decide)).1) ?_
        refine e_ldI rfl ?_
        have hn19 := hn j1 hj2
        obtain ⟨en21, q4⟩ := ek j1 hj2
        have m50 := mn_50 (n j1)
        have mle := mn_le (n j1)
        refine e_aV (N := 2) (v := nI (n j1)) (SM_k sh (hM.2.1 42 (by decide)).2.1) (SM_n sh (hM.2.1 42 (by decide)).2.2.1) (by omega) (by decide) (by rw [SM_a sh hM (by decide) (by decide)]; exact en21) ?_
        refine e_cN 50 rfl ?_
        refine e_mMN rfl (by omega) (by omega) ?_
        rw [show (if 50 < n j1 then 50 else n j1) = mn (n j1) from rfl]
        refine e_lt (by omega) (by omega) (fun h25 => ?_) (fun h25 => ?_)
        · refine u_X8_came_31 ?_
          unfold bX8_came_31
          refine e_cN 0 rfl ?_
          refine u_X8_came_32 ?_
          unfold bX8_came_32
          refine y_mI hM sh im (by decide) (fun N e => nomatch (show (none : Option Nat) = some N from e)) (fun S26 he27 sh28 ir29 => ?_)
          refine e_ldA rfl ?_
          refine e_gV (v := nI 0) (SM_k sh28 hM.1) (by rw [he27]; exact rd_s) ?_
          refine e_lez (by omega) (fun h30 => ?_) (fun h30 => ?_)
          · refine u_X8_came_44 ?_
            unfold bX8_came_44
            refine e_ldI rfl ?_
            refine ⟨fun hlt2 => ?_, fun hlt2 => ?_⟩
            · refine u_X8_came_53 ?_
              unfold bX8_came_53
              refine e_cI ?_
              refine u_X8_came_84 ?_
              unfold bX8_came_84
              exact e_rI (KN j1 j11 ⟨hj2, rfl, rfl, h25⟩ (c4 hlt2) _ sh28 ir29 (by rw [he27]; exact rd_s))
            · obtain ⟨j31, hj32, e33⟩ := nn_nat hlt2
              subst e33
              refine e_ldI rfl ?_
              refine e_cN 3 rfl ?_
              refine e_le (by omega) (by omega) (fun h34 => ?_) (fun h34 => ?_)
              · refine u_X8_came_57 ?_
                unfold bX8_came_57
                refine e_ldA rfl ?_
                refine e_gR (SM_k sh28 hM.1) (SM_r sh28 (hM.2.1 41 (by decide)).1) ?_
                refine e_cN 4 rfl ?_
                refine e_cN 50 rfl ?_
                refine e_ldI rfl ?_
                refine e_mul ?_
                refine e_ldA rfl ?_
                refine e_gR (SM_k sh28 hM.1) (SM_r sh28 (hM.2.1 42 (by decide)).1) ?_
                refine e_ldI rfl ?_
                refine e_aV (N := 2) (v := nI (n j1)) (SM_k sh28 (hM.2.1 42 (by decide)).2.1) (SM_n sh28 (hM.2.1 42 (by decide)).2.2.1) (by omega) (by decide) (by rw [SM_a sh28 hM (by decide) (by decide)]; exact en21) ?_
                refine e_cN 1 rfl ?_
                refine e_sub (by omega) ?_
                refine e_ldI rfl ?_
                refine e_sub (by omega) ?_
                refine e_cN 50 rfl ?_
                refine e_rem (by omega) (by decide) (by decide) ?_
                refine e_add ?_
                refine e_mul ?_
                refine e_ldI rfl ?_
                refine e_add ?_
                refine e_aV (N := 400) (v := g j1 (4 * ((n j1 - 1 - j11) % 50) + j31)) (SM_k sh28 (hM.2.1 41 (by decide)).2.1) (SM_n sh28 (hM.2.1 41 (by decide)).2.2.1) (by omega) (by decide) (by
                  rw [SM_a sh28 hM (by decide) (by decide), show 4 * (50 * j1 + (n j1 - 1 - j11) % 50) + j31 = 200 * j1 + (4 * ((n j1 - 1 - j11) % 50) + j31) by omega]
                  exact q4 _ (by omega)) ?_
                refine u_X8_came_84 ?_
                unfold bX8_came_84
                exact e_rI (KA j1 j11 j31 ⟨hj2, rfl, rfl, h25⟩ (by omega) rfl _ sh28 ir29 (by rw [he27]; exact rd_s))
              · refine u_X8_came_53 ?_
                unfold bX8_came_53
                refine e_cI ?_
                refine u_X8_came_84 ?_
                unfold bX8_came_84
                exact e_rI (KN j1 j11 ⟨hj2, rfl, rfl, h25⟩ (c4n hj32 (by omega)) _ sh28 ir29 (by rw [he27]; exact rd_s))
          · exact absurd rfl h30
        · refine u_X8_came_27 ?_
          unfold bX8_came_27
          refine e_cN 1 rfl ?_
          refine u_X8_came_32 ?_
          unfold bX8_came_32
          refine y_mI hM sh im (by decide) (fun N e => nomatch (show (none : Option Nat) = some N from e)) (fun S37 he38 sh39 ir40 => ?_)
          refine e_ldA rfl ?_
          refine e_gV (v := nI 1) (SM_k sh39 hM.1) (by rw [he38]; exact rd_s) ?_
          refine e_lez (by omega) (fun h41 => ?_) (fun h41 => ?_)
          · exact absurd h41 (by decide)
          · refine e_cN 0 rfl ?_
            exact e_rI (KB (Or.inr (Or.inr ⟨j1, j11, hj2, rfl, rfl, hj12, by omega⟩)) _ _ sh39 ir40 (by rw [he38]; exact rd_s))
