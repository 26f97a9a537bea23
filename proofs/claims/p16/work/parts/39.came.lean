theorem bm32 {x : Int} (h1 : -2147483648 ≤ x) (h2 : x < 2147483648) : x.bmod (2 ^ 32) = x := Int.bmod_eq_of_le (by omega) (by omega)
theorem rem50 (v : Int32) : (v - v / 50 * 50).toInt = v.toInt.tmod 50 := by
  have hv1 := Int32.le_toInt v
  have hv2 := Int32.toInt_lt v
  have h50 : (50 : Int32).toInt = 50 := by decide
  have hm := Int.mul_tdiv_add_tmod v.toInt 50
  have e1 : (v / 50).toInt = v.toInt.tdiv 50 := by
    rw [Int32.toInt_div, h50]
    apply bm32
    · rcases Int.le_total 0 v.toInt with h | h
      · have := Int.tdiv_nonneg h (show (0 : Int) ≤ 50 by decide); omega
      · have := Int.tmod_lt_of_pos v.toInt (show (0 : Int) < 50 by decide)
        omega
    · have := Int.lt_tmod_of_pos v.toInt (show (0 : Int) < 50 by decide)
      omega
  have b1 := Int.tmod_lt_of_pos v.toInt (show (0 : Int) < 50 by decide)
  have b2 := Int.lt_tmod_of_pos v.toInt (show (0 : Int) < 50 by decide)
  have e2 : (v / 50 * 50).toInt = v.toInt.tdiv 50 * 50 := by
    rw [Int32.toInt_mul, e1, h50]
    apply bm32
    · rcases Int.le_total 0 v.toInt with h | h
      · have := Int.tdiv_nonneg h (show (0 : Int) ≤ 50 by decide); omega
      · have : v.toInt.tmod 50 ≤ 0 := by
          have := Int.tmod_nonneg (a := -v.toInt) 50 (by omega)
          rw [Int.neg_tmod] at this
          omega
        omega
    · rcases Int.le_total 0 v.toInt with h | h
      · have := Int.tmod_nonneg (a := v.toInt) 50 h
        omega
      · omega
  rw [Int32.toInt_sub, e2]
  rw [bm32 (by omega) (by omega)]
  omega
theorem rem50_i {v : Int32} {t : Int} (h : v.toInt = t) (h0 : 0 ≤ t) (h1 : t < 50) : ∃ j, j < 50 ∧ v = nI j := by
  refine ⟨t.toNat, by omega, Int32.toInt_inj.mp ?_⟩
  rw [nI_toInt (by omega), h]
  omega
theorem xor50 (v : Int32) : 0 ≤ (v ^^^ 50) ↔ 0 ≤ v := by
  have e : (v ^^^ 50).toBitVec.msb = v.toBitVec.msb := by
    rw [Int32.toBitVec_xor, BitVec.msb_xor]
    have : (50 : Int32).toBitVec.msb = false := by decide
    rw [this, Bool.xor_false]
  rw [Int32.le_iff_toInt_le, Int32.le_iff_toInt_le, show (0 : Int32).toInt = 0 from by decide, ← Int32.toInt_toBitVec, ← Int32.toInt_toBitVec, BitVec.toInt_eq_msb_cond, BitVec.toInt_eq_msb_cond, e]
  have h1 := (v ^^^ 50).toBitVec.isLt
  have h2 := v.toBitVec.isLt
  split <;> constructor <;> intro _ <;> omega
theorem u_M_floorMod_0 {Q : Option Value → MM → Prop} {n : Nat} {lv : Lv} {st : List Value} {S : MM} {c z : Nat} (h : bM_floorMod_0 Q (wpn (kM_floorMod Q) n) lv st S c z) : wpn (kM_floorMod Q) (n + 1) 0 lv st S c z := h
theorem u_M_floorMod_18 {Q : Option Value → MM → Prop} {n : Nat} {lv : Lv} {st : List Value} {S : MM} {c z : Nat} (h : bM_floorMod_18 Q (wpn (kM_floorMod Q) n) lv st S c z) : wpn (kM_floorMod Q) (n + 1) 18 lv st S c z := h
theorem z_floorMod {S : MM} {v : Int32} {Q : Option Value → MM → Prop} (K : ∀ j, j < 50 → Q (some (.int (nI j))) S) : wM_floorMod [.int v, .int (nI 50)] S Q := by
  have b1 := Int.tmod_lt_of_pos v.toInt (show (0 : Int) < 50 by decide)
  have b2 := Int.lt_tmod_of_pos v.toInt (show (0 : Int) < 50 by decide)
  have hr := rem50 v
  have fin : (∃ j, j < 50 ∧ v - v / 50 * 50 = nI j) → ∀ lv, lvg lv 2 = some (.int (v - v / 50 * 50)) → wpn (kM_floorMod Q) 2 18 lv [] S 0 0 := fun ⟨j, hj, e⟩ lv g => by
    refine u_M_floorMod_18 ?_
    unfold bM_floorMod_18
    refine e_ldI g ?_
    rw [e]
    exact e_rI (K j hj)
  refine Exists.intro 3 (u_M_floorMod_0 ?_)
  unfold bM_floorMod_0
  refine e_ldI rfl (e_ldI rfl (And.intro (nI_n0 (by decide) (by decide)) (e_stI (e_ldI rfl (e_ldI rfl ?_)))))
  show ifz (fun x => 0 ≤ x) _ _ _ [.int (v ^^^ 50)] S 0 0
  refine ⟨fun h => ?_, fun h => ?_⟩
  · have h0 : 0 ≤ v.toInt := by
      have := Int32.le_iff_toInt_le.mp ((xor50 v).mp h)
      rw [show (0 : Int32).toInt = 0 from by decide] at this
      exact this
    exact fin (rem50_i hr (Int.tmod_nonneg _ h0) b1) _ lvg_self
  · refine e_ldI lvg_self (e_if0 (fun h0 => ?_) (fun h0 => ?_))
    · exact fin ⟨0, by decide, h0⟩ _ lvg_self
    · have hneg : v.toInt < 0 := by
        rcases Int.lt_or_le v.toInt 0 with q | q
        · exact q
        · exact absurd ((xor50 v).mpr (by rw [Int32.le_iff_toInt_le, show (0 : Int32).toInt = 0 from by decide]; exact q)) h
      have hle : v.toInt.tmod 50 ≤ 0 := by
        have := Int.tmod_nonneg (a := -v.toInt) 50 (by omega)
        rw [Int.neg_tmod] at this
        omega
      have hne : v.toInt.tmod 50 ≠ 0 := fun z => h0 (Int32.toInt_inj.mp (by show (v - v / 50 * 50).toInt = _; rw [hr, z]; decide))
      have hs : (v - v / 50 * 50 + 50).toInt = v.toInt.tmod 50 + 50 := by
        rw [Int32.toInt_add, hr, show (50 : Int32).toInt = 50 from by decide]
        exact bm32 (by omega) (by omega)
      obtain ⟨j, hj, e⟩ := rem50_i hs (by omega) (by omega)
      refine e_ldI lvg_self (e_ldI rfl ?_)
      show Q (some (.int (v - v / 50 * 50 + 50))) S
      rw [e]
      exact K j hj
theorem u_X7_came_0 {Q : Option Value → MM → Prop} {X : String → MM → Prop} {n : Nat} {lv : Lv} {st : List Value} {S : MM} {c z : Nat} (h : bX7_came_0 Q X (wpn (kX7_came Q X) n) lv st S c z) : wpn (kX7_came Q X) (n + 1) 0 lv st S c z := h
theorem u_X7_came_24 {Q : Option Value → MM → Prop} {X : String → MM → Prop} {n : Nat} {lv : Lv} {st : List Value} {S : MM} {c z : Nat} (h : bX7_came_24 Q X (wpn (kX7_came Q X) n) lv st S c z) : wpn (kX7_came Q X) (n + 1) 24 lv st S c z := h
theorem u_X7_came_34 {Q : Option Value → MM → Prop} {X : String → MM → Prop} {n : Nat} {lv : Lv} {st : List Value} {S : MM} {c z : Nat} (h : bX7_came_34 Q X (wpn (kX7_came Q X) n) lv st S c z) : wpn (kX7_came Q X) (n + 1) 34 lv st S c z := h
theorem u_X7_came_43 {Q : Option Value → MM → Prop} {X : String → MM → Prop} {n : Nat} {lv : Lv} {st : List Value} {S : MM} {c z : Nat} (h : bX7_came_43 Q X (wpn (kX7_came Q X) n) lv st S c z) : wpn (kX7_came Q X) (n + 1) 43 lv st S c z := h
theorem u_X7_came_45 {Q : Option Value → MM → Prop} {X : String → MM → Prop} {n : Nat} {lv : Lv} {st : List Value} {S : MM} {c z : Nat} (h : bX7_came_45 Q X (wpn (kX7_came Q X) n) lv st S c z) : wpn (kX7_came Q X) (n + 1) 45 lv st S c z := h
theorem z_X7_came {Q : Option Value → MM → Prop} {X : String → MM → Prop} {S0 : MM} {x0 : Nat} {w1 : Int32} {w2 : Int32} {w3 : Int32} (hT : TY S0) (ir : IR S0) (k0 : sK S0 x0 = 8) (K : ∀ r S', SH [] S0 S' → IR S' → Q (some (.int r)) S') (XnseC : ∀ S', SH [] S0 S' → IR S' → X nseC S') : wX7_came [.ref x0, .int w1, .int w2, .int w3] S0 Q X := by
  have sh : SH [] S0 S0 := SH.rf
  refine Exists.intro 40 (u_X7_came_0 ?_)
  unfold bX7_came_0
  refine e_ldI rfl ?_
  refine And.intro ⟨by decide, by decide⟩ (z_isEnd ?_ (fun j1 hj2 e3 => ?_))
  · refine e_ifN (by omega) (fun h4 => ?_) (fun h4 => ?_)
    · refine u_X7_came_24 ?_
      unfold bX7_came_24
      exact And.intro ⟨by decide, by decide⟩ (XnseC _ sh ir)
    · exact absurd rfl h4
  · subst e3
    refine e_ifN (by omega) (fun h5 => ?_) (fun h5 => ?_)
    · exact absurd h5 (by decide)
    · refine e_ldI rfl ?_
      refine e_ltz ?_ (fun j6 hj7 e8 => ?_)
      · refine u_X7_came_24 ?_
        unfold bX7_came_24
        exact And.intro ⟨by decide, by decide⟩ (XnseC _ sh ir)
      · subst e8
        refine e_ldI rfl ?_
        refine e_ldA rfl ?_
        obtain ⟨b9, rb10, kb11, nb12⟩ := hT.1 x0 8 0 13 2 k0 rfl
        refine e_gR (SH_k sh k0) (SH_r sh rb10) ?_
        refine e_ldI rfl ?_
        obtain ⟨b13, rb14, kb15, nb16⟩ := hT.2.1 b9 13 2 2 j1 kb11 nb12 rfl (by omega)
        refine e_aR (SH_k sh kb11) (SH_n sh nb12) (by omega) (by decide) (SH_r sh rb14) ?_
        obtain ⟨n17, hn18, vn19⟩ := ir b13 2 5 51 (SH_k sh kb15) rfl
        refine e_gV (SH_k sh kb15) vn19 ?_
        refine e_lt (by omega) (by omega) (fun h20 => ?_) (fun h20 => ?_)
        · refine u_X7_came_34 ?_
          unfold bX7_came_34
          refine e_ldI rfl ?_
          refine e_ltz ?_ (fun j21 hj22 e23 => ?_)
          · refine u_X7_came_43 ?_
            unfold bX7_came_43
            refine e_cI ?_
            exact e_rI (K _ _ sh ir)
          · subst e23
            refine e_ldI rfl ?_
            refine e_cN 4 rfl ?_
            refine e_lt (by omega) (by omega) (fun h24 => ?_) (fun h24 => ?_)
            · refine u_X7_came_45 ?_
              unfold bX7_came_45
              refine e_ldA rfl ?_
              refine e_gR (SH_k sh k0) (SH_r sh rb10) ?_
              refine e_ldI rfl ?_
              refine e_aR (SH_k sh kb11) (SH_n sh nb12) (by omega) (by decide) (SH_r sh rb14) ?_
              obtain ⟨n25, hn26, vn27⟩ := ir b13 2 6 50 (SH_k sh kb15) rfl
              refine e_gV (SH_k sh kb15) vn27 ?_
              refine e_cN 1 rfl ?_
              refine e_bopU (fun r28 => ?_)
              refine e_ldI rfl ?_
              refine e_bopU (fun r29 => ?_)
              refine e_cN 50 rfl ?_
              refine And.intro ⟨by decide, by decide⟩ (z_floorMod (fun n30 hn31 => ?_))
              refine e_stI ?_
              refine e_ldA (lvg_ne rfl rfl (by decide)) ?_
              refine e_gR (SH_k sh k0) (SH_r sh rb10) ?_
              refine e_ldI (lvg_ne rfl rfl (by decide)) ?_
              refine e_aR (SH_k sh kb11) (SH_n sh nb12) (by omega) (by decide) (SH_r sh rb14) ?_
              obtain ⟨b32, rb33, kb34, nb35⟩ := hT.1 b13 2 4 10 200 kb15 rfl
              refine e_gR (SH_k sh kb15) (SH_r sh rb33) ?_
              refine e_ldI lvg_self ?_
              refine e_cN 4 rfl ?_
              refine e_mul ?_
              refine e_ldI (lvg_ne rfl rfl (by decide)) ?_
              refine e_add ?_
              refine e_aI (SH_k sh kb34) (SH_n sh nb35) (by omega) (by decide) (fun v36 hv37 => ?_)
              exact e_rI (K _ _ sh ir)
            · refine u_X7_came_43 ?_
              unfold bX7_came_43
              refine e_cI ?_
              exact e_rI (K _ _ sh ir)
        · refine u_X7_came_24 ?_
          unfold bX7_came_24
          exact And.intro ⟨by decide, by decide⟩ (XnseC _ sh ir)
