theorem u_X7_system_0 {Q : Option Value → MM → Prop} {X : String → MM → Prop} {n : Nat} {lv : Lv} {st : List Value} {S : MM} {c z : Nat} (h : bX7_system_0 Q X (wpn (kX7_system Q X) n) lv st S c z) : wpn (kX7_system Q X) (n + 1) 0 lv st S c z := h
theorem u_X7_system_18 {Q : Option Value → MM → Prop} {X : String → MM → Prop} {n : Nat} {lv : Lv} {st : List Value} {S : MM} {c z : Nat} (h : bX7_system_18 Q X (wpn (kX7_system Q X) n) lv st S c z) : wpn (kX7_system Q X) (n + 1) 18 lv st S c z := h
theorem u_X7_system_28 {Q : Option Value → MM → Prop} {X : String → MM → Prop} {n : Nat} {lv : Lv} {st : List Value} {S : MM} {c z : Nat} (h : bX7_system_28 Q X (wpn (kX7_system Q X) n) lv st S c z) : wpn (kX7_system Q X) (n + 1) 28 lv st S c z := h
theorem u_X7_system_53 {Q : Option Value → MM → Prop} {X : String → MM → Prop} {n : Nat} {lv : Lv} {st : List Value} {S : MM} {c z : Nat} (h : bX7_system_53 Q X (wpn (kX7_system Q X) n) lv st S c z) : wpn (kX7_system Q X) (n + 1) 53 lv st S c z := h
theorem z_X7_system {Q : Option Value → MM → Prop} {X : String → MM → Prop} {S0 : MM} {x0 : Nat} {w1 : Int32} {w2 : Int32} (hT : TY S0) (ir : IR S0) (k0 : sK S0 x0 = 8) (K : ∀ r S', SH [1, 7, 8, 21] S0 S' → IR S' → Q (some (.int r)) S') (XeI : ∀ S', SH [1, 7, 8, 21] S0 S' → IR S' → X eI S') (XeS : ∀ S', SH [1, 7, 8, 21] S0 S' → IR S' → X eS S') : wX7_system [.ref x0, .int w1, .int w2] S0 Q X := by
  have sh : SH [1, 7, 8, 21] S0 S0 := SH.rf
  refine Exists.intro 40 (u_X7_system_0 ?_)
  unfold bX7_system_0
  refine e_ldI rfl ?_
  refine And.intro ⟨by decide, by decide⟩ (z_isEnd ?_ (fun j1 hj2 e3 => ?_))
  · refine e_ifN (by omega) (fun h4 => ?_) (fun h4 => ?_)
    · refine u_X7_system_18 ?_
      unfold bX7_system_18
      exact And.intro ⟨by decide, by decide⟩ (XeI _ sh ir)
    · exact absurd rfl h4
  · subst e3
    refine e_ifN (by omega) (fun h5 => ?_) (fun h5 => ?_)
    · exact absurd h5 (by decide)
    · refine e_ldI rfl ?_
      refine e_cN 1 rfl ?_
      refine e_ifc ?_ ?_
      · refine u_X7_system_18 ?_
        unfold bX7_system_18
        exact And.intro ⟨by decide, by decide⟩ (XeI _ sh ir)
      · refine e_ldI rfl ?_
        refine e_cN 1000000 rfl ?_
        refine e_ifc ?_ ?_
        · refine u_X7_system_28 ?_
          unfold bX7_system_28
          refine e_ldA rfl ?_
          obtain ⟨b6, rb7, kb8, nb9⟩ := hT.1 x0 8 0 13 2 k0 rfl
          refine e_gR (SH_k sh k0) (SH_r sh rb7) ?_
          refine e_cN 1 rfl ?_
          refine e_ldI rfl ?_
          refine e_sub (by omega) ?_
          obtain ⟨b10, rb11, kb12, nb13⟩ := hT.2.1 b6 13 2 2 (1 - j1) kb8 nb9 rfl (by omega)
          refine e_aR (SH_k sh kb8) (SH_n sh nb9) (by omega) (by decide) (SH_r sh rb11) ?_
          refine e_gI (SH_k sh kb12) (fun v14 hv15 => ?_)
          refine e_ldI rfl ?_
          refine e_ifc ?_ ?_
          · exact And.intro ⟨by decide, by decide⟩ (XeS _ sh ir)
          · refine u_X7_system_53 ?_
            unfold bX7_system_53
            refine e_ldA rfl ?_
            refine e_gR (SH_k sh k0) (SH_r sh rb7) ?_
            refine e_ldI rfl ?_
            obtain ⟨b16, rb17, kb18, nb19⟩ := hT.2.1 b6 13 2 2 j1 kb8 nb9 rfl (by omega)
            refine e_aR (SH_k sh kb8) (SH_n sh nb9) (by omega) (by decide) (SH_r sh rb17) ?_
            refine e_gI (SH_k sh kb18) (fun v20 hv21 => ?_)
            refine e_stI ?_
            refine e_ldA (lvg_ne rfl rfl (by decide)) ?_
            refine e_gR (SH_k sh k0) (SH_r sh rb7) ?_
            refine e_ldI (lvg_ne rfl rfl (by decide)) ?_
            refine e_aR (SH_k sh kb8) (SH_n sh nb9) (by omega) (by decide) (SH_r sh rb17) ?_
            refine e_ldI (lvg_ne rfl rfl (by decide)) ?_
            refine And.intro (SH_k sh kb18) (And.intro ⟨by decide, by decide⟩ (z_X1_rename (TY_SH hT sh) ir (SH_k sh kb18) (fun S22 s23 ir24 => ?_)))
            have sh25 := SH.tr sh s23 (by decide)
            refine e_ldA (lvg_ne rfl rfl (by decide)) ?_
            refine And.intro (SH_k sh25 k0) (And.intro ⟨by decide, by decide⟩ (z_X7_noteChange (TY_SH hT sh25) ir24 (SH_k sh25 k0) (fun S26 s27 ir28 => ?_)))
            have sh29 := SH.tr sh25 s27 (by decide)
            refine e_ldI lvg_self ?_
            exact e_rI (K _ _ sh29 ir28)
        · refine u_X7_system_18 ?_
          unfold bX7_system_18
          exact And.intro ⟨by decide, by decide⟩ (XeI _ sh ir)
theorem u_X7_limit_0 {Q : Option Value → MM → Prop} {X : String → MM → Prop} {n : Nat} {lv : Lv} {st : List Value} {S : MM} {c z : Nat} (h : bX7_limit_0 Q X (wpn (kX7_limit Q X) n) lv st S c z) : wpn (kX7_limit Q X) (n + 1) 0 lv st S c z := h
theorem u_X7_limit_18 {Q : Option Value → MM → Prop} {X : String → MM → Prop} {n : Nat} {lv : Lv} {st : List Value} {S : MM} {c z : Nat} (h : bX7_limit_18 Q X (wpn (kX7_limit Q X) n) lv st S c z) : wpn (kX7_limit Q X) (n + 1) 18 lv st S c z := h
theorem u_X7_limit_28 {Q : Option Value → MM → Prop} {X : String → MM → Prop} {n : Nat} {lv : Lv} {st : List Value} {S : MM} {c z : Nat} (h : bX7_limit_28 Q X (wpn (kX7_limit Q X) n) lv st S c z) : wpn (kX7_limit Q X) (n + 1) 28 lv st S c z := h
theorem z_X7_limit {Q : Option Value → MM → Prop} {X : String → MM → Prop} {S0 : MM} {x0 : Nat} {w1 : Int32} {w2 : Int32} (hT : TY S0) (ir : IR S0) (k0 : sK S0 x0 = 8) (K : ∀ r S', SH [1, 8, 22] S0 S' → IR S' → Q (some (.int r)) S') (XeI : ∀ S', SH [1, 8, 22] S0 S' → IR S' → X eI S') : wX7_limit [.ref x0, .int w1, .int w2] S0 Q X := by
  have sh : SH [1, 8, 22] S0 S0 := SH.rf
  refine Exists.intro 40 (u_X7_limit_0 ?_)
  unfold bX7_limit_0
  refine e_ldI rfl ?_
  refine And.intro ⟨by decide, by decide⟩ (z_isEnd ?_ (fun j1 hj2 e3 => ?_))
  · refine e_ifN (by omega) (fun h4 => ?_) (fun h4 => ?_)
    · refine u_X7_limit_18 ?_
      unfold bX7_limit_18
      exact And.intro ⟨by decide, by decide⟩ (XeI _ sh ir)
    · exact absurd rfl h4
  · subst e3
    refine e_ifN (by omega) (fun h5 => ?_) (fun h5 => ?_)
    · exact absurd h5 (by decide)
    · refine e_ldI rfl ?_
      refine e_cN 1 rfl ?_
      refine e_ifc ?_ ?_
      · refine u_X7_limit_18 ?_
        unfold bX7_limit_18
        exact And.intro ⟨by decide, by decide⟩ (XeI _ sh ir)
      · refine e_ldI rfl ?_
        refine e_cN 8 rfl ?_
        refine e_ifc ?_ ?_
        · refine u_X7_limit_28 ?_
          unfold bX7_limit_28
          refine e_ldA rfl ?_
          obtain ⟨b6, rb7, kb8, nb9⟩ := hT.1 x0 8 0 13 2 k0 rfl
          refine e_gR (SH_k sh k0) (SH_r sh rb7) ?_
          refine e_ldI rfl ?_
          obtain ⟨b10, rb11, kb12, nb13⟩ := hT.2.1 b6 13 2 2 j1 kb8 nb9 rfl (by omega)
          refine e_aR (SH_k sh kb8) (SH_n sh nb9) (by omega) (by decide) (SH_r sh rb11) ?_
          refine e_gI (SH_k sh kb12) (fun v14 hv15 => ?_)
          refine e_stI ?_
          refine e_ldA (lvg_ne rfl rfl (by decide)) ?_
          refine e_gR (SH_k sh k0) (SH_r sh rb7) ?_
          refine e_ldI (lvg_ne rfl rfl (by decide)) ?_
          refine e_aR (SH_k sh kb8) (SH_n sh nb9) (by omega) (by decide) (SH_r sh rb11) ?_
          refine e_ldI (lvg_ne rfl rfl (by decide)) ?_
          refine y_tI (SH_k sh kb12) sh ir (by decide) (by decide) (fun N e => nomatch (show (none : Option Nat) = some N from e)) (fun S16 he17 sh18 ir19 => ?_)
          refine e_ldA (lvg_ne rfl rfl (by decide)) ?_
          refine And.intro (SH_k sh18 k0) (And.intro ⟨by decide, by decide⟩ (z_X7_noteChange (TY_SH hT sh18) ir19 (SH_k sh18 k0) (fun S20 s21 ir22 => ?_)))
          have sh23 := SH.tr sh18 s21 (by decide)
          refine e_ldI lvg_self ?_
          exact e_rI (K _ _ sh23 ir22)
        · refine u_X7_limit_18 ?_
          unfold bX7_limit_18
          exact And.intro ⟨by decide, by decide⟩ (XeI _ sh ir)
theorem u_X7_light_0 {Q : Option Value → MM → Prop} {X : String → MM → Prop} {n : Nat} {lv : Lv} {st : List Value} {S : MM} {c z : Nat} (h : bX7_light_0 Q X (wpn (kX7_light Q X) n) lv st S c z) : wpn (kX7_light Q X) (n + 1) 0 lv st S c z := h
theorem u_X7_light_17 {Q : Option Value → MM → Prop} {X : String → MM → Prop} {n : Nat} {lv : Lv} {st : List Value} {S : MM} {c z : Nat} (h : bX7_light_17 Q X (wpn (kX7_light Q X) n) lv st S c z) : wpn (kX7_light Q X) (n + 1) 17 lv st S c z := h
theorem u_X7_light_39 {Q : Option Value → MM → Prop} {X : String → MM → Prop} {n : Nat} {lv : Lv} {st : List Value} {S : MM} {c z : Nat} (h : bX7_light_39 Q X (wpn (kX7_light Q X) n) lv st S c z) : wpn (kX7_light Q X) (n + 1) 39 lv st S c z := h
theorem u_X7_light_49 {Q : Option Value → MM → Prop} {X : String → MM → Prop} {n : Nat} {lv : Lv} {st : List Value} {S : MM} {c z : Nat} (h : bX7_light_49 Q X (wpn (kX7_light Q X) n) lv st S c z) : wpn (kX7_light Q X) (n + 1) 49 lv st S c z := h
theorem u_X7_light_61 {Q : Option Value → MM → Prop} {X : String → MM → Prop} {n : Nat} {lv : Lv} {st : List Value} {S : MM} {c z : Nat} (h : bX7_light_61 Q X (wpn (kX7_light Q X) n) lv st S c z) : wpn (kX7_light Q X) (n + 1) 61 lv st S c z := h
theorem u_X7_light_66 {Q : Option Value → MM → Prop} {X : String → MM → Prop} {n : Nat} {lv : Lv} {st : List Value} {S : MM} {c z : Nat} (h : bX7_light_66 Q X (wpn (kX7_light Q X) n) lv st S c z) : wpn (kX7_light Q X) (n + 1) 66 lv st S c z := h
theorem z_X7_light {Q : Option Value → MM → Prop} {X : String → MM → Prop} {S0 : MM} {x0 : Nat} {w1 : Int32} {i2 : Nat} (hT : TY S0) (ir : IR S0) (k0 : sK S0 x0 = 8) (h2 : i2 < 2) (K : ∀ S', SH [1, 2, 4, 6, 7, 8, 23] S0 S' → IR S' → Q none S') (XeI : ∀ S', SH [1, 2, 4, 6, 7, 8, 23] S0 S' → IR S' → X eI S') (XeS : ∀ S', SH [1, 2, 4, 6, 7, 8, 23] S0 S' → IR S' → X eS S') : wX7_light [.ref x0, .int w1, .int (nI i2)] S0 Q X := by
  have sh : SH [1, 2, 4, 6, 7, 8, 23] S0 S0 := SH.rf
  refine Exists.intro 40 (u_X7_light_0 ?_)
  unfold bX7_light_0
  refine e_ldI rfl ?_
  refine And.intro ⟨by decide, by decide⟩ (z_isCable ?_ (fun j1 hj2 e3 => ?_))
  · refine e_ifN (by omega) (fun h4 => ?_) (fun h4 => ?_)
    · exact And.intro ⟨by decide, by decide⟩ (XeI _ sh ir)
    · exact absurd rfl h4
  · subst e3
    refine e_ifN (by omega) (fun h5 => ?_) (fun h5 => ?_)
    · exact absurd h5 (by decide)
    · refine u_X7_light_17 ?_
      unfold bX7_light_17
      refine e_ldA rfl ?_
      obtain ⟨b6, rb7, kb8, nb9⟩ := hT.1 x0 8 1 12 8 k0 rfl
      refine e_gR (SH_k sh k0) (SH_r sh rb7) ?_
      refine e_ldI rfl ?_
      obtain ⟨b10, rb11, kb12, nb13⟩ := hT.2.1 b6 12 8 1 j1 kb8 nb9 rfl (by omega)
      refine e_aR (SH_k sh kb8) (SH_n sh nb9) (by omega) (by decide) (SH_r sh rb11) ?_
      refine e_stA ?_
      refine e_ldA lvg_self ?_
      refine And.intro (SH_k sh kb12) (And.intro ⟨by decide, by decide⟩ (z_X0_isPlugged (TY_SH hT sh) (SH_k sh kb12) ?_ (fun hp14 => ?_)))
      · refine e_ifN (by omega) (fun h15 => ?_) (fun h15 => ?_)
        · refine u_X7_light_39 ?_
          unfold bX7_light_39
          exact And.intro ⟨by decide, by decide⟩ (XeS _ sh ir)
        · exact absurd rfl h15
      · refine e_ifN (by omega) (fun h16 => ?_) (fun h16 => ?_)
        · exact absurd h16 (by decide)
        · refine e_ldA lvg_self ?_
          refine e_gI (SH_k sh kb12) (fun v17 hv18 => ?_)
          refine e_ldI (lvg_ne rfl rfl (by decide)) ?_
          refine e_ifc ?_ ?_
          · refine u_X7_light_39 ?_
            unfold bX7_light_39
            exact And.intro ⟨by decide, by decide⟩ (XeS _ sh ir)
          · refine u_X7_light_49 ?_
            unfold bX7_light_49
            refine e_ldI (lvg_ne rfl rfl (by decide)) ?_
            refine e_ifN (by omega) (fun h19 => ?_) (fun h19 => ?_)
            · refine u_X7_light_61 ?_
              unfold bX7_light_61
              refine e_ldA (lvg_ne rfl rfl (by decide)) ?_
              refine e_ldA lvg_self ?_
              refine And.intro (SH_k sh k0) (And.intro ⟨by decide, by decide⟩ (z_X7_switchOff (TY_SH hT sh) ir (SH_k sh k0) (SH_k sh kb12) (PL_SH (PL_SH' hp14 sh) sh) (fun S20 s21 ir22 => ?_)))
              have sh23 := SH.tr sh s21 (by decide)
              refine u_X7_light_66 ?_
              unfold bX7_light_66
              refine e_ldA (lvg_ne rfl rfl (by decide)) ?_
              refine And.intro (SH_k sh23 k0) (And.intro ⟨by decide, by decide⟩ (z_X7_noteChange (TY_SH hT sh23) ir22 (SH_k sh23 k0) (fun S24 s25 ir26 => ?_)))
              have sh27 := SH.tr sh23 s25 (by decide)
              exact e_rV (K _ sh27 ir26)
            · refine e_ldA (lvg_ne rfl rfl (by decide)) ?_
              refine e_ldA lvg_self ?_
              refine And.intro (SH_k sh k0) (And.intro ⟨by decide, by decide⟩ (z_X7_switchOn (TY_SH hT sh) ir (SH_k sh k0) (SH_k sh kb12) (PL_SH (PL_SH' hp14 sh) sh) (fun S28 s29 ir30 => ?_)))
              have sh31 := SH.tr sh s29 (by decide)
              refine u_X7_light_66 ?_
              unfold bX7_light_66
              refine e_ldA (lvg_ne rfl rfl (by decide)) ?_
              refine And.intro (SH_k sh31 k0) (And.intro ⟨by decide, by decide⟩ (z_X7_noteChange (TY_SH hT sh31) ir30 (SH_k sh31 k0) (fun S32 s33 ir34 => ?_)))
              have sh35 := SH.tr sh31 s33 (by decide)
              exact e_rV (K _ sh35 ir34)
theorem u_X7_look_0 {Q : Option Value → MM → Prop} {X : String → MM → Prop} {n : Nat} {lv : Lv} {st : List Value} {S : MM} {c z : Nat} (h : bX7_look_0 Q X (wpn (kX7_look Q X) n) lv st S c z) : wpn (kX7_look Q X) (n + 1) 0 lv st S c z := h
theorem u_X7_look_14 {Q : Option Value → MM → Prop} {X : String → MM → Prop} {n : Nat} {lv : Lv} {st : List Value} {S : MM} {c z : Nat} (h : bX7_look_14 Q X (wpn (kX7_look Q X) n) lv st S c z) : wpn (kX7_look Q X) (n + 1) 14 lv st S c z := h
theorem u_X7_look_24 {Q : Option Value → MM → Prop} {X : String → MM → Prop} {n : Nat} {lv : Lv} {st : List Value} {S : MM} {c z : Nat} (h : bX7_look_24 Q X (wpn (kX7_look Q X) n) lv st S c z) : wpn (kX7_look Q X) (n + 1) 24 lv st S c z := h
theorem u_X7_look_116 {Q : Option Value → MM → Prop} {X : String → MM → Prop} {n : Nat} {lv : Lv} {st : List Value} {S : MM} {c z : Nat} (h : bX7_look_116 Q X (wpn (kX7_look Q X) n) lv st S c z) : wpn (kX7_look Q X) (n + 1) 116 lv st S c z := h
theorem u_X7_look_125 {Q : Option Value → MM → Prop} {X : String → MM → Prop} {n : Nat} {lv : Lv} {st : List Value} {S : MM} {c z : Nat} (h : bX7_look_125 Q X (wpn (kX7_look Q X) n) lv st S c z) : wpn (kX7_look Q X) (n + 1) 125 lv st S c z := h
theorem u_X7_look_134 {Q : Option Value → MM → Prop} {X : String → MM → Prop} {n : Nat} {lv : Lv} {st : List Value} {S : MM} {c z : Nat} (h : bX7_look_134 Q X (wpn (kX7_look Q X) n) lv st S c z) : wpn (kX7_look Q X) (n + 1) 134 lv st S c z := h
theorem u_X7_look_143 {Q : Option Value → MM → Prop} {X : String → MM → Prop} {n : Nat} {lv : Lv} {st : List Value} {S : MM} {c z : Nat} (h : bX7_look_143 Q X (wpn (kX7_look Q X) n) lv st S c z) : wpn (kX7_look Q X) (n + 1) 143 lv st S c z := h
theorem u_X7_look_149 {Q : Option Value → MM → Prop} {X : String → MM → Prop} {n : Nat} {lv : Lv} {st : List Value} {S : MM} {c z : Nat} (h : bX7_look_149 Q X (wpn (kX7_look Q X) n) lv st S c z) : wpn (kX7_look Q X) (n + 1) 149 lv st S c z := h
theorem u_X7_look_155 {Q : Option Value → MM → Prop} {X : String → MM → Prop} {n : Nat} {lv : Lv} {st : List Value} {S : MM} {c z : Nat} (h : bX7_look_155 Q X (wpn (kX7_look Q X) n) lv st S c z) : wpn (kX7_look Q X) (n + 1) 155 lv st S c z := h
theorem u_X7_look_161 {Q : Option Value → MM → Prop} {X : String → MM → Prop} {n : Nat} {lv : Lv} {st : List Value} {S : MM} {c z : Nat} (h : bX7_look_161 Q X (wpn (kX7_look Q X) n) lv st S c z) : wpn (kX7_look Q X) (n + 1) 161 lv st S c z := h
theorem u_X7_look_177 {Q : Option Value → MM → Prop} {X : String → MM → Prop} {n : Nat} {lv : Lv} {st : List Value} {S : MM} {c z : Nat} (h : bX7_look_177 Q X (wpn (kX7_look Q X) n) lv st S c z) : wpn (kX7_look Q X) (n + 1) 177 lv st S c z := h
theorem u_X7_look_178 {Q : Option Value → MM → Prop} {X : String → MM → Prop} {n : Nat} {lv : Lv} {st : List Value} {S : MM} {c z : Nat} (h : bX7_look_178 Q X (wpn (kX7_look Q X) n) lv st S c z) : wpn (kX7_look Q X) (n + 1) 178 lv st S c z := h
theorem u_X7_look_179 {Q : Option Value → MM → Prop} {X : String → MM → Prop} {n : Nat} {lv : Lv} {st : List Value} {S : MM} {c z : Nat} (h : bX7_look_179 Q X (wpn (kX7_look Q X) n) lv st S c z) : wpn (kX7_look Q X) (n + 1) 179 lv st S c z := h
theorem u_X7_look_199 {Q : Option Value → MM → Prop} {X : String → MM → Prop} {n : Nat} {lv : Lv} {st : List Value} {S : MM} {c z : Nat} (h : bX7_look_199 Q X (wpn (kX7_look Q X) n) lv st S c z) : wpn (kX7_look Q X) (n + 1) 199 lv st S c z := h
theorem u_X7_look_200 {Q : Option Value → MM → Prop} {X : String → MM → Prop} {n : Nat} {lv : Lv} {st : List Value} {S : MM} {c z : Nat} (h : bX7_look_200 Q X (wpn (kX7_look Q X) n) lv st S c z) : wpn (kX7_look Q X) (n + 1) 200 lv st S c z := h
theorem u_X7_look_201 {Q : Option Value → MM → Prop} {X : String → MM → Prop} {n : Nat} {lv : Lv} {st : List Value} {S : MM} {c z : Nat} (h : bX7_look_201 Q X (wpn (kX7_look Q X) n) lv st S c z) : wpn (kX7_look Q X) (n + 1) 201 lv st S c z := h
theorem u_X7_look_207 {Q : Option Value → MM → Prop} {X : String → MM → Prop} {n : Nat} {lv : Lv} {st : List Value} {S : MM} {c z : Nat} (h : bX7_look_207 Q X (wpn (kX7_look Q X) n) lv st S c z) : wpn (kX7_look Q X) (n + 1) 207 lv st S c z := h
theorem u_X7_look_216 {Q : Option Value → MM → Prop} {X : String → MM → Prop} {n : Nat} {lv : Lv} {st : List Value} {S : MM} {c z : Nat} (h : bX7_look_216 Q X (wpn (kX7_look Q X) n) lv st S c z) : wpn (kX7_look Q X) (n + 1) 216 lv st S c z := h
theorem u_X7_look_225 {Q : Option Value → MM → Prop} {X : String → MM → Prop} {n : Nat} {lv : Lv} {st : List Value} {S : MM} {c z : Nat} (h : bX7_look_225 Q X (wpn (kX7_look Q X) n) lv st S c z) : wpn (kX7_look Q X) (n + 1) 225 lv st S c z := h
theorem u_X7_look_234 {Q : Option Value → MM → Prop} {X : String → MM → Prop} {n : Nat} {lv : Lv} {st : List Value} {S : MM} {c z : Nat} (h : bX7_look_234 Q X (wpn (kX7_look Q X) n) lv st S c z) : wpn (kX7_look Q X) (n + 1) 234 lv st S c z := h
theorem u_X7_look_243 {Q : Option Value → MM → Prop} {X : String → MM → Prop} {n : Nat} {lv : Lv} {st : List Value} {S : MM} {c z : Nat} (h : bX7_look_243 Q X (wpn (kX7_look Q X) n) lv st S c z) : wpn (kX7_look Q X) (n + 1) 243 lv st S c z := h
theorem u_X7_look_252 {Q : Option Value → MM → Prop} {X : String → MM → Prop} {n : Nat} {lv : Lv} {st : List Value} {S : MM} {c z : Nat} (h : bX7_look_252 Q X (wpn (kX7_look Q X) n) lv st S c z) : wpn (kX7_look Q X) (n + 1) 252 lv st S c z := h
theorem u_X7_look_258 {Q : Option Value → MM → Prop} {X : String → MM → Prop} {n : Nat} {lv : Lv} {st : List Value} {S : MM} {c z : Nat} (h : bX7_look_258 Q X (wpn (kX7_look Q X) n) lv st S c z) : wpn (kX7_look Q X) (n + 1) 258 lv st S c z := h
theorem u_X7_look_264 {Q : Option Value → MM → Prop} {X : String → MM → Prop} {n : Nat} {lv : Lv} {st : List Value} {S : MM} {c z : Nat} (h : bX7_look_264 Q X (wpn (kX7_look Q X) n) lv st S c z) : wpn (kX7_look Q X) (n + 1) 264 lv st S c z := h
theorem z_X7_look {Q : Option Value → MM → Prop} {X : String → MM → Prop} {S0 : MM} {x0 : Nat} {w1 : Int32} {w2 : Int32} {w3 : Int32} (hT : TY S0) (ir : IR S0) (k0 : sK S0 x0 = 8) (K : ∀ r S', SH [] S0 S' → IR S' → Q (some (.int r)) S') (XnseC : ∀ S', SH [] S0 S' → IR S' → X nseC S') : wX7_look [.ref x0, .int w1, .int w2, .int w3] S0 Q X := by
  have sh : SH [] S0 S0 := SH.rf
  refine Exists.intro 40 (u_X7_look_0 ?_)
  unfold bX7_look_0
  refine e_ldI rfl ?_
  refine And.intro ⟨by decide, by decide⟩ (z_isEnd ?_ (fun j1 hj2 e3 => ?_))
  · refine e_ifN (by omega) (fun h4 => ?_) (fun h4 => ?_)
    · refine u_X7_look_14 ?_
      unfold bX7_look_14
      exact And.intro ⟨by decide, by decide⟩ (XnseC _ sh ir)
    · exact absurd rfl h4
  · subst e3
    refine e_ifN (by omega) (fun h5 => ?_) (fun h5 => ?_)
    · exact absurd h5 (by decide)
    · refine e_ldI rfl ?_
      refine And.intro ⟨by decide, by decide⟩ (z_isPort ?_ (fun j6 hj7 e8 => ?_))
      · refine e_ifN (by omega) (fun h9 => ?_) (fun h9 => ?_)
        · refine u_X7_look_14 ?_
          unfold bX7_look_14
          exact And.intro ⟨by decide, by decide⟩ (XnseC _ sh ir)
        · exact absurd rfl h9
      · subst e8
        refine e_ifN (by omega) (fun h10 => ?_) (fun h10 => ?_)
        · exact absurd h10 (by decide)
        · refine u_X7_look_24 ?_
          unfold bX7_look_24
          refine e_ldA rfl ?_
          obtain ⟨b11, rb12, kb13, nb14⟩ := hT.1 x0 8 0 13 2 k0 rfl
          refine e_gR (SH_k sh k0) (SH_r sh rb12) ?_
          refine e_ldI rfl ?_
          obtain ⟨b15, rb16, kb17, nb18⟩ := hT.2.1 b11 13 2 2 j1 kb13 nb14 rfl (by omega)
          refine e_aR (SH_k sh kb13) (SH_n sh nb14) (by omega) (by decide) (SH_r sh rb16) ?_
          obtain ⟨b19, rb20, kb21, nb22⟩ := hT.1 b15 2 0 17 8 kb17 rfl
          refine e_gR (SH_k sh kb17) (SH_r sh rb20) ?_
          refine e_ldI rfl ?_
          obtain ⟨b23, rb24, kb25, nb26⟩ := hT.2.1 b19 17 8 6 j6 kb21 nb22 rfl (by omega)
          refine e_aR (SH_k sh kb21) (SH_n sh nb22) (by omega) (by decide) (SH_r sh rb24) ?_
          refine e_stA ?_
          refine e_ldI (lvg_ne rfl rfl (by decide)) ?_
          refine e_swt ?_ (fun j27 h28 => ?_)
          · refine u_X7_look_264 ?_
            unfold bX7_look_264
            refine e_cI ?_
            exact e_rI (K _ _ sh ir)
          · match j27, h28 with
            | 0, _ =>
              refine u_X7_look_116 ?_
              unfold bX7_look_116
              refine e_ldA lvg_self ?_
              obtain ⟨b29, rb30, kb31, nb32⟩ := hT.1 b23 6 0 7 0 kb25 rfl
              refine e_gR (SH_k sh kb25) (SH_r sh rb30) ?_
              refine e_gI (SH_k sh kb31) (fun v33 hv34 => ?_)
              exact e_rI (K _ _ sh ir)
            | 1, _ =>
              refine u_X7_look_125 ?_
              unfold bX7_look_125
              refine e_ldA lvg_self ?_
              obtain ⟨b35, rb36, kb37, nb38⟩ := hT.1 b23 6 0 7 0 kb25 rfl
              refine e_gR (SH_k sh kb25) (SH_r sh rb36) ?_
              refine e_gI (SH_k sh kb37) (fun v39 hv40 => ?_)
              exact e_rI (K _ _ sh ir)
            | 2, _ =>
              refine u_X7_look_134 ?_
              unfold bX7_look_134
              refine e_ldA lvg_self ?_
              obtain ⟨b41, rb42, kb43, nb44⟩ := hT.1 b23 6 0 7 0 kb25 rfl
              refine e_gR (SH_k sh kb25) (SH_r sh rb42) ?_
              refine e_gI (SH_k sh kb43) (fun v45 hv46 => ?_)
              exact e_rI (K _ _ sh ir)
            | 3, _ =>
              refine u_X7_look_143 ?_
              unfold bX7_look_143
              refine e_ldA lvg_self ?_
              refine e_gI (SH_k sh kb25) (fun v47 hv48 => ?_)
              exact e_rI (K _ _ sh ir)
            | 4, _ =>
              refine u_X7_look_149 ?_
              unfold bX7_look_149
              refine e_ldA lvg_self ?_
              refine e_gI (SH_k sh kb25) (fun v49 hv50 => ?_)
              exact e_rI (K _ _ sh ir)
            | 5, _ =>
              refine u_X7_look_155 ?_
              unfold bX7_look_155
              refine e_ldA lvg_self ?_
              refine e_gI (SH_k sh kb25) (fun v51 hv52 => ?_)
              exact e_rI (K _ _ sh ir)
            | 6, _ =>
              refine u_X7_look_161 ?_
              unfold bX7_look_161
              refine e_ldA lvg_self ?_
              refine And.intro (SH_k sh kb25) (And.intro ⟨by decide, by decide⟩ (z_X5_isLit (TY_SH hT sh) ir (SH_k sh kb25) (fun n57 S53 s54 ir55 hn58 => ?_)))
              have sh56 := SH.tr sh s54 (by decide)
              refine e_ifN (by omega) (fun h59 => ?_) (fun h59 => ?_)
              · refine u_X7_look_177 ?_
                unfold bX7_look_177
                refine e_cI ?_
                refine u_X7_look_178 ?_
                unfold bX7_look_178
                exact e_rI (K _ _ sh56 ir55)
              · refine e_ldA lvg_self ?_
                refine e_gI (SH_k sh56 kb25) (fun v60 hv61 => ?_)
                refine u_X7_look_178 ?_
                unfold bX7_look_178
                exact e_rI (K _ _ sh56 ir55)
            | 7, _ =>
              refine u_X7_look_179 ?_
              unfold bX7_look_179
              refine e_ldA lvg_self ?_
              refine And.intro (SH_k sh kb25) (And.intro ⟨by decide, by decide⟩ (z_X5_isLit (TY_SH hT sh) ir (SH_k sh kb25) (fun n66 S62 s63 ir64 hn67 => ?_)))
              have sh65 := SH.tr sh s63 (by decide)
              refine e_ifN (by omega) (fun h68 => ?_) (fun h68 => ?_)
              · refine u_X7_look_199 ?_
                unfold bX7_look_199
                refine e_cN 0 rfl ?_
                refine u_X7_look_200 ?_
                unfold bX7_look_200
                exact e_rI (K _ _ sh65 ir64)
              · refine e_ldA lvg_self ?_
                refine e_gI (SH_k sh65 kb25) (fun v69 hv70 => ?_)
                refine e_if0 (fun h71 => ?_) (fun h71 => ?_)
                · refine u_X7_look_199 ?_
                  unfold bX7_look_199
                  refine e_cN 0 rfl ?_
                  refine u_X7_look_200 ?_
                  unfold bX7_look_200
                  exact e_rI (K _ _ sh65 ir64)
                · refine e_cN 1 rfl ?_
                  refine u_X7_look_200 ?_
                  unfold bX7_look_200
                  exact e_rI (K _ _ sh65 ir64)
            | 8, _ =>
              refine u_X7_look_201 ?_
              unfold bX7_look_201
              refine e_ldA lvg_self ?_
              refine e_gI (SH_k sh kb25) (fun v72 hv73 => ?_)
              exact e_rI (K _ _ sh ir)
            | 9, _ =>
              refine u_X7_look_207 ?_
              unfold bX7_look_207
              refine e_ldA lvg_self ?_
              obtain ⟨b74, rb75, kb76, nb77⟩ := hT.1 b23 6 1 7 0 kb25 rfl
              refine e_gR (SH_k sh kb25) (SH_r sh rb75) ?_
              refine e_gI (SH_k sh kb76) (fun v78 hv79 => ?_)
              exact e_rI (K _ _ sh ir)
            | 10, _ =>
              refine u_X7_look_216 ?_
              unfold bX7_look_216
              refine e_ldA lvg_self ?_
              obtain ⟨b80, rb81, kb82, nb83⟩ := hT.1 b23 6 1 7 0 kb25 rfl
              refine e_gR (SH_k sh kb25) (SH_r sh rb81) ?_
              refine e_gI (SH_k sh kb82) (fun v84 hv85 => ?_)
              exact e_rI (K _ _ sh ir)
            | 11, _ =>
              refine u_X7_look_225 ?_
              unfold bX7_look_225
              refine e_ldA lvg_self ?_
              obtain ⟨b86, rb87, kb88, nb89⟩ := hT.1 b23 6 1 7 0 kb25 rfl
              refine e_gR (SH_k sh kb25) (SH_r sh rb87) ?_
              refine e_gI (SH_k sh kb88) (fun v90 hv91 => ?_)
              exact e_rI (K _ _ sh ir)
            | 12, _ =>
              refine u_X7_look_234 ?_
              unfold bX7_look_234
              refine e_ldA lvg_self ?_
              obtain ⟨b92, rb93, kb94, nb95⟩ := hT.1 b23 6 1 7 0 kb25 rfl
              refine e_gR (SH_k sh kb25) (SH_r sh rb93) ?_
              refine e_gI (SH_k sh kb94) (fun v96 hv97 => ?_)
              exact e_rI (K _ _ sh ir)
            | 13, _ =>
              refine u_X7_look_243 ?_
              unfold bX7_look_243
              refine e_ldA lvg_self ?_
              obtain ⟨b98, rb99, kb100, nb101⟩ := hT.1 b23 6 1 7 0 kb25 rfl
              refine e_gR (SH_k sh kb25) (SH_r sh rb99) ?_
              refine e_gI (SH_k sh kb100) (fun v102 hv103 => ?_)
              exact e_rI (K _ _ sh ir)
            | 14, _ =>
              refine u_X7_look_252 ?_
              unfold bX7_look_252
              refine e_ldA lvg_self ?_
              refine e_gI (SH_k sh kb25) (fun v104 hv105 => ?_)
              exact e_rI (K _ _ sh ir)
            | 15, _ =>
              refine u_X7_look_258 ?_
              unfold bX7_look_258
              refine e_ldA lvg_self ?_
              refine e_gI (SH_k sh kb25) (fun v106 hv107 => ?_)
              exact e_rI (K _ _ sh ir)
            | nn + 16, hh => exact absurd hh (by omega)
theorem u_X7_cable_0 {Q : Option Value → MM → Prop} {X : String → MM → Prop} {n : Nat} {lv : Lv} {st : List Value} {S : MM} {c z : Nat} (h : bX7_cable_0 Q X (wpn (kX7_cable Q X) n) lv st S c z) : wpn (kX7_cable Q X) (n + 1) 0 lv st S c z := h
theorem u_X7_cable_17 {Q : Option Value → MM → Prop} {X : String → MM → Prop} {n : Nat} {lv : Lv} {st : List Value} {S : MM} {c z : Nat} (h : bX7_cable_17 Q X (wpn (kX7_cable Q X) n) lv st S c z) : wpn (kX7_cable Q X) (n + 1) 17 lv st S c z := h
theorem u_X7_cable_76 {Q : Option Value → MM → Prop} {X : String → MM → Prop} {n : Nat} {lv : Lv} {st : List Value} {S : MM} {c z : Nat} (h : bX7_cable_76 Q X (wpn (kX7_cable Q X) n) lv st S c z) : wpn (kX7_cable Q X) (n + 1) 76 lv st S c z := h
theorem u_X7_cable_98 {Q : Option Value → MM → Prop} {X : String → MM → Prop} {n : Nat} {lv : Lv} {st : List Value} {S : MM} {c z : Nat} (h : bX7_cable_98 Q X (wpn (kX7_cable Q X) n) lv st S c z) : wpn (kX7_cable Q X) (n + 1) 98 lv st S c z := h
theorem u_X7_cable_99 {Q : Option Value → MM → Prop} {X : String → MM → Prop} {n : Nat} {lv : Lv} {st : List Value} {S : MM} {c z : Nat} (h : bX7_cable_99 Q X (wpn (kX7_cable Q X) n) lv st S c z) : wpn (kX7_cable Q X) (n + 1) 99 lv st S c z := h
theorem u_X7_cable_100 {Q : Option Value → MM → Prop} {X : String → MM → Prop} {n : Nat} {lv : Lv} {st : List Value} {S : MM} {c z : Nat} (h : bX7_cable_100 Q X (wpn (kX7_cable Q X) n) lv st S c z) : wpn (kX7_cable Q X) (n + 1) 100 lv st S c z := h
theorem u_X7_cable_122 {Q : Option Value → MM → Prop} {X : String → MM → Prop} {n : Nat} {lv : Lv} {st : List Value} {S : MM} {c z : Nat} (h : bX7_cable_122 Q X (wpn (kX7_cable Q X) n) lv st S c z) : wpn (kX7_cable Q X) (n + 1) 122 lv st S c z := h
theorem u_X7_cable_123 {Q : Option Value → MM → Prop} {X : String → MM → Prop} {n : Nat} {lv : Lv} {st : List Value} {S : MM} {c z : Nat} (h : bX7_cable_123 Q X (wpn (kX7_cable Q X) n) lv st S c z) : wpn (kX7_cable Q X) (n + 1) 123 lv st S c z := h
theorem u_X7_cable_124 {Q : Option Value → MM → Prop} {X : String → MM → Prop} {n : Nat} {lv : Lv} {st : List Value} {S : MM} {c z : Nat} (h : bX7_cable_124 Q X (wpn (kX7_cable Q X) n) lv st S c z) : wpn (kX7_cable Q X) (n + 1) 124 lv st S c z := h
theorem u_X7_cable_138 {Q : Option Value → MM → Prop} {X : String → MM → Prop} {n : Nat} {lv : Lv} {st : List Value} {S : MM} {c z : Nat} (h : bX7_cable_138 Q X (wpn (kX7_cable Q X) n) lv st S c z) : wpn (kX7_cable Q X) (n + 1) 138 lv st S c z := h
theorem u_X7_cable_139 {Q : Option Value → MM → Prop} {X : String → MM → Prop} {n : Nat} {lv : Lv} {st : List Value} {S : MM} {c z : Nat} (h : bX7_cable_139 Q X (wpn (kX7_cable Q X) n) lv st S c z) : wpn (kX7_cable Q X) (n + 1) 139 lv st S c z := h
theorem u_X7_cable_140 {Q : Option Value → MM → Prop} {X : String → MM → Prop} {n : Nat} {lv : Lv} {st : List Value} {S : MM} {c z : Nat} (h : bX7_cable_140 Q X (wpn (kX7_cable Q X) n) lv st S c z) : wpn (kX7_cable Q X) (n + 1) 140 lv st S c z := h
theorem u_X7_cable_151 {Q : Option Value → MM → Prop} {X : String → MM → Prop} {n : Nat} {lv : Lv} {st : List Value} {S : MM} {c z : Nat} (h : bX7_cable_151 Q X (wpn (kX7_cable Q X) n) lv st S c z) : wpn (kX7_cable Q X) (n + 1) 151 lv st S c z := h
theorem u_X7_cable_152 {Q : Option Value → MM → Prop} {X : String → MM → Prop} {n : Nat} {lv : Lv} {st : List Value} {S : MM} {c z : Nat} (h : bX7_cable_152 Q X (wpn (kX7_cable Q X) n) lv st S c z) : wpn (kX7_cable Q X) (n + 1) 152 lv st S c z := h
theorem u_X7_cable_153 {Q : Option Value → MM → Prop} {X : String → MM → Prop} {n : Nat} {lv : Lv} {st : List Value} {S : MM} {c z : Nat} (h : bX7_cable_153 Q X (wpn (kX7_cable Q X) n) lv st S c z) : wpn (kX7_cable Q X) (n + 1) 153 lv st S c z := h
theorem u_X7_cable_164 {Q : Option Value → MM → Prop} {X : String → MM → Prop} {n : Nat} {lv : Lv} {st : List Value} {S : MM} {c z : Nat} (h : bX7_cable_164 Q X (wpn (kX7_cable Q X) n) lv st S c z) : wpn (kX7_cable Q X) (n + 1) 164 lv st S c z := h
theorem u_X7_cable_165 {Q : Option Value → MM → Prop} {X : String → MM → Prop} {n : Nat} {lv : Lv} {st : List Value} {S : MM} {c z : Nat} (h : bX7_cable_165 Q X (wpn (kX7_cable Q X) n) lv st S c z) : wpn (kX7_cable Q X) (n + 1) 165 lv st S c z := h
theorem u_X7_cable_166 {Q : Option Value → MM → Prop} {X : String → MM → Prop} {n : Nat} {lv : Lv} {st : List Value} {S : MM} {c z : Nat} (h : bX7_cable_166 Q X (wpn (kX7_cable Q X) n) lv st S c z) : wpn (kX7_cable Q X) (n + 1) 166 lv st S c z := h
theorem u_X7_cable_176 {Q : Option Value → MM → Prop} {X : String → MM → Prop} {n : Nat} {lv : Lv} {st : List Value} {S : MM} {c z : Nat} (h : bX7_cable_176 Q X (wpn (kX7_cable Q X) n) lv st S c z) : wpn (kX7_cable Q X) (n + 1) 176 lv st S c z := h
theorem u_X7_cable_186 {Q : Option Value → MM → Prop} {X : String → MM → Prop} {n : Nat} {lv : Lv} {st : List Value} {S : MM} {c z : Nat} (h : bX7_cable_186 Q X (wpn (kX7_cable Q X) n) lv st S c z) : wpn (kX7_cable Q X) (n + 1) 186 lv st S c z := h
theorem u_X7_cable_196 {Q : Option Value → MM → Prop} {X : String → MM → Prop} {n : Nat} {lv : Lv} {st : List Value} {S : MM} {c z : Nat} (h : bX7_cable_196 Q X (wpn (kX7_cable Q X) n) lv st S c z) : wpn (kX7_cable Q X) (n + 1) 196 lv st S c z := h
theorem u_X7_cable_206 {Q : Option Value → MM → Prop} {X : String → MM → Prop} {n : Nat} {lv : Lv} {st : List Value} {S : MM} {c z : Nat} (h : bX7_cable_206 Q X (wpn (kX7_cable Q X) n) lv st S c z) : wpn (kX7_cable Q X) (n + 1) 206 lv st S c z := h
theorem z_X7_cable {Q : Option Value → MM → Prop} {X : String → MM → Prop} {S0 : MM} {x0 : Nat} {w1 : Int32} {w2 : Int32} (hT : TY S0) (ir : IR S0) (k0 : sK S0 x0 = 8) (K : ∀ r S', SH [] S0 S' → IR S' → Q (some (.int r)) S') (XnseC : ∀ S', SH [] S0 S' → IR S' → X nseC S') : wX7_cable [.ref x0, .int w1, .int w2] S0 Q X := by
  have sh : SH [] S0 S0 := SH.rf
  refine Exists.intro 40 (u_X7_cable_0 ?_)
  unfold bX7_cable_0
  refine e_ldI rfl ?_
  refine And.intro ⟨by decide, by decide⟩ (z_isCable ?_ (fun j1 hj2 e3 => ?_))
  · refine e_ifN (by omega) (fun h4 => ?_) (fun h4 => ?_)
    · exact And.intro ⟨by decide, by decide⟩ (XnseC _ sh ir)
    · exact absurd rfl h4
  · subst e3
    refine e_ifN (by omega) (fun h5 => ?_) (fun h5 => ?_)
    · exact absurd h5 (by decide)
    · refine u_X7_cable_17 ?_
      unfold bX7_cable_17
      refine e_ldA rfl ?_
      obtain ⟨b6, rb7, kb8, nb9⟩ := hT.1 x0 8 1 12 8 k0 rfl
      refine e_gR (SH_k sh k0) (SH_r sh rb7) ?_
      refine e_ldI rfl ?_
      obtain ⟨b10, rb11, kb12, nb13⟩ := hT.2.1 b6 12 8 1 j1 kb8 nb9 rfl (by omega)
      refine e_aR (SH_k sh kb8) (SH_n sh nb9) (by omega) (by decide) (SH_r sh rb11) ?_
      refine e_stA ?_
      refine e_ldI (lvg_ne rfl rfl (by decide)) ?_
      refine e_swt ?_ (fun j14 h15 => ?_)
      · refine u_X7_cable_206 ?_
        unfold bX7_cable_206
        refine e_cI ?_
        exact e_rI (K _ _ sh ir)
      · match j14, h15 with
        | 0, _ =>
          refine u_X7_cable_76 ?_
          unfold bX7_cable_76
          refine e_ldA lvg_self ?_
          refine And.intro (SH_k sh kb12) (And.intro ⟨by decide, by decide⟩ (z_X0_isPlugged (TY_SH hT sh) (SH_k sh kb12) ?_ (fun hp16 => ?_)))
          · refine e_ifN (by omega) (fun h17 => ?_) (fun h17 => ?_)
            · refine u_X7_cable_98 ?_
              unfold bX7_cable_98
              refine e_cI ?_
              refine u_X7_cable_99 ?_
              unfold bX7_cable_99
              exact e_rI (K _ _ sh ir)
            · exact absurd rfl h17
          · refine e_ifN (by omega) (fun h18 => ?_) (fun h18 => ?_)
            · exact absurd h18 (by decide)
            · refine e_ldA lvg_self ?_
              obtain ⟨b19, rb20, kb21, nb22⟩ := hT.1 b10 1 0 17 2 kb12 rfl
              refine e_gR (SH_k sh kb12) (SH_r sh rb20) ?_
              refine e_cN 0 rfl ?_
              obtain ⟨b23, rb24⟩ := (PL_SH' hp16 sh) b19 0 rb20 (by omega)
              obtain ⟨kb25, nb26⟩ := hT.2.2 b19 17 6 0 b23 kb21 rfl rb24
              refine e_aR (SH_k sh kb21) (SH_n sh nb22) (by omega) (by decide) (SH_r sh rb24) ?_
              obtain ⟨b27, rb28, kb29, nb30⟩ := hT.1 b23 6 0 7 0 kb25 rfl
              refine e_gR (SH_k sh kb25) (SH_r sh rb28) ?_
              refine e_gI (SH_k sh kb29) (fun v31 hv32 => ?_)
              refine u_X7_cable_99 ?_
              unfold bX7_cable_99
              exact e_rI (K _ _ sh ir)
        | 1, _ =>
          refine u_X7_cable_100 ?_
          unfold bX7_cable_100
          refine e_ldA lvg_self ?_
          refine And.intro (SH_k sh kb12) (And.intro ⟨by decide, by decide⟩ (z_X0_isPlugged (TY_SH hT sh) (SH_k sh kb12) ?_ (fun hp33 => ?_)))
          · refine e_ifN (by omega) (fun h34 => ?_) (fun h34 => ?_)
            · refine u_X7_cable_122 ?_
              unfold bX7_cable_122
              refine e_cI ?_
              refine u_X7_cable_123 ?_
              unfold bX7_cable_123
              exact e_rI (K _ _ sh ir)
            · exact absurd rfl h34
          · refine e_ifN (by omega) (fun h35 => ?_) (fun h35 => ?_)
            · exact absurd h35 (by decide)
            · refine e_ldA lvg_self ?_
              obtain ⟨b36, rb37, kb38, nb39⟩ := hT.1 b10 1 0 17 2 kb12 rfl
              refine e_gR (SH_k sh kb12) (SH_r sh rb37) ?_
              refine e_cN 1 rfl ?_
              obtain ⟨b40, rb41⟩ := (PL_SH' hp33 sh) b36 1 rb37 (by omega)
              obtain ⟨kb42, nb43⟩ := hT.2.2 b36 17 6 1 b40 kb38 rfl rb41
              refine e_aR (SH_k sh kb38) (SH_n sh nb39) (by omega) (by decide) (SH_r sh rb41) ?_
              obtain ⟨b44, rb45, kb46, nb47⟩ := hT.1 b40 6 0 7 0 kb42 rfl
              refine e_gR (SH_k sh kb42) (SH_r sh rb45) ?_
              refine e_gI (SH_k sh kb46) (fun v48 hv49 => ?_)
              refine u_X7_cable_123 ?_
              unfold bX7_cable_123
              exact e_rI (K _ _ sh ir)
        | 2, _ =>
          refine u_X7_cable_124 ?_
          unfold bX7_cable_124
          refine e_ldA lvg_self ?_
          refine And.intro (SH_k sh kb12) (And.intro ⟨by decide, by decide⟩ (z_X0_isPlugged (TY_SH hT sh) (SH_k sh kb12) ?_ (fun hp50 => ?_)))
          · refine e_ifN (by omega) (fun h51 => ?_) (fun h51 => ?_)
            · refine u_X7_cable_138 ?_
              unfold bX7_cable_138
              refine e_cI ?_
              refine u_X7_cable_139 ?_
              unfold bX7_cable_139
              exact e_rI (K _ _ sh ir)
            · exact absurd rfl h51
          · refine e_ifN (by omega) (fun h52 => ?_) (fun h52 => ?_)
            · exact absurd h52 (by decide)
            · refine e_ldA lvg_self ?_
              refine e_gI (SH_k sh kb12) (fun v53 hv54 => ?_)
              refine u_X7_cable_139 ?_
              unfold bX7_cable_139
              exact e_rI (K _ _ sh ir)
        | 3, _ =>
          refine u_X7_cable_140 ?_
          unfold bX7_cable_140
          refine e_ldA lvg_self ?_
          refine e_gI (SH_k sh kb12) (fun v55 hv56 => ?_)
          refine e_if0 (fun h57 => ?_) (fun h57 => ?_)
          · refine u_X7_cable_151 ?_
            unfold bX7_cable_151
            refine e_cN 0 rfl ?_
            refine u_X7_cable_152 ?_
            unfold bX7_cable_152
            exact e_rI (K _ _ sh ir)
          · refine e_cN 1 rfl ?_
            refine u_X7_cable_152 ?_
            unfold bX7_cable_152
            exact e_rI (K _ _ sh ir)
        | 4, _ =>
          refine u_X7_cable_153 ?_
          unfold bX7_cable_153
          refine e_ldA lvg_self ?_
          refine e_gI (SH_k sh kb12) (fun v58 hv59 => ?_)
          refine e_if0 (fun h60 => ?_) (fun h60 => ?_)
          · refine u_X7_cable_164 ?_
            unfold bX7_cable_164
            refine e_cN 0 rfl ?_
            refine u_X7_cable_165 ?_
            unfold bX7_cable_165
            exact e_rI (K _ _ sh ir)
          · refine e_cN 1 rfl ?_
            refine u_X7_cable_165 ?_
            unfold bX7_cable_165
            exact e_rI (K _ _ sh ir)
        | 5, _ =>
          refine u_X7_cable_166 ?_
          unfold bX7_cable_166
          refine e_ldA lvg_self ?_
          obtain ⟨b61, rb62, kb63, nb64⟩ := hT.1 b10 1 1 15 2 kb12 rfl
          refine e_gR (SH_k sh kb12) (SH_r sh rb62) ?_
          refine e_cN 0 rfl ?_
          obtain ⟨b65, rb66, kb67, nb68⟩ := hT.2.1 b61 15 2 4 0 kb63 nb64 rfl (by omega)
          refine e_aR (SH_k sh kb63) (SH_n sh nb64) (by omega) (by decide) (SH_r sh rb66) ?_
          obtain ⟨n69, hn70, vn71⟩ := ir b65 4 5 201 (SH_k sh kb67) rfl
          refine e_gV (SH_k sh kb67) vn71 ?_
          exact e_rI (K _ _ sh ir)
        | 6, _ =>
          refine u_X7_cable_176 ?_
          unfold bX7_cable_176
          refine e_ldA lvg_self ?_
          obtain ⟨b72, rb73, kb74, nb75⟩ := hT.1 b10 1 1 15 2 kb12 rfl
          refine e_gR (SH_k sh kb12) (SH_r sh rb73) ?_
          refine e_cN 1 rfl ?_
          obtain ⟨b76, rb77, kb78, nb79⟩ := hT.2.1 b72 15 2 4 1 kb74 nb75 rfl (by omega)
          refine e_aR (SH_k sh kb74) (SH_n sh nb75) (by omega) (by decide) (SH_r sh rb77) ?_
          obtain ⟨n80, hn81, vn82⟩ := ir b76 4 5 201 (SH_k sh kb78) rfl
          refine e_gV (SH_k sh kb78) vn82 ?_
          exact e_rI (K _ _ sh ir)
        | 7, _ =>
          refine u_X7_cable_186 ?_
          unfold bX7_cable_186
          refine e_ldA lvg_self ?_
          obtain ⟨b83, rb84, kb85, nb86⟩ := hT.1 b10 1 1 15 2 kb12 rfl
          refine e_gR (SH_k sh kb12) (SH_r sh rb84) ?_
          refine e_cN 0 rfl ?_
          obtain ⟨b87, rb88, kb89, nb90⟩ := hT.2.1 b83 15 2 4 0 kb85 nb86 rfl (by omega)
          refine e_aR (SH_k sh kb85) (SH_n sh nb86) (by omega) (by decide) (SH_r sh rb88) ?_
          obtain ⟨n91, hn92, vn93⟩ := ir b87 4 2 9 (SH_k sh kb89) rfl
          refine e_gV (SH_k sh kb89) vn93 ?_
          exact e_rI (K _ _ sh ir)
        | 8, _ =>
          refine u_X7_cable_196 ?_
          unfold bX7_cable_196
          refine e_ldA lvg_self ?_
          obtain ⟨b94, rb95, kb96, nb97⟩ := hT.1 b10 1 1 15 2 kb12 rfl
          refine e_gR (SH_k sh kb12) (SH_r sh rb95) ?_
          refine e_cN 1 rfl ?_
          obtain ⟨b98, rb99, kb100, nb101⟩ := hT.2.1 b94 15 2 4 1 kb96 nb97 rfl (by omega)
          refine e_aR (SH_k sh kb96) (SH_n sh nb97) (by omega) (by decide) (SH_r sh rb99) ?_
          obtain ⟨n102, hn103, vn104⟩ := ir b98 4 2 9 (SH_k sh kb100) rfl
          refine e_gV (SH_k sh kb100) vn104 ?_
          exact e_rI (K _ _ sh ir)
        | nn + 9, hh => exact absurd hh (by omega)
theorem u_X7_tick_0 {Q : Option Value → MM → Prop} {X : String → MM → Prop} {n : Nat} {lv : Lv} {st : List Value} {S : MM} {c z : Nat} (h : bX7_tick_0 Q X (wpn (kX7_tick Q X) n) lv st S c z) : wpn (kX7_tick Q X) (n + 1) 0 lv st S c z := h
theorem u_X7_tick_12 {Q : Option Value → MM → Prop} {X : String → MM → Prop} {n : Nat} {lv : Lv} {st : List Value} {S : MM} {c z : Nat} (h : bX7_tick_12 Q X (wpn (kX7_tick Q X) n) lv st S c z) : wpn (kX7_tick Q X) (n + 1) 12 lv st S c z := h
theorem u_X7_tick_22 {Q : Option Value → MM → Prop} {X : String → MM → Prop} {n : Nat} {lv : Lv} {st : List Value} {S : MM} {c z : Nat} (h : bX7_tick_22 Q X (wpn (kX7_tick Q X) n) lv st S c z) : wpn (kX7_tick Q X) (n + 1) 22 lv st S c z := h
theorem u_X7_tick_44 {Q : Option Value → MM → Prop} {X : String → MM → Prop} {n : Nat} {lv : Lv} {st : List Value} {S : MM} {c z : Nat} (h : bX7_tick_44 Q X (wpn (kX7_tick Q X) n) lv st S c z) : wpn (kX7_tick Q X) (n + 1) 44 lv st S c z := h
theorem u_X7_tick_59 {Q : Option Value → MM → Prop} {X : String → MM → Prop} {n : Nat} {lv : Lv} {st : List Value} {S : MM} {c z : Nat} (h : bX7_tick_59 Q X (wpn (kX7_tick Q X) n) lv st S c z) : wpn (kX7_tick Q X) (n + 1) 59 lv st S c z := h
def P_X7_tick_0 (Q : Option Value → MM → Prop) (X : String → MM → Prop) (S0 : MM) (n : Nat) : Prop := ∀ (lv : Lv) (S : MM) (x0 : Nat) (i1 : Nat), lvg lv 0 = some (.ref x0) → sK S0 x0 = 8 → lvg lv 1 = some (.int (nI i1)) → i1 < 1001 → SH [2, 3, 4, 5, 6, 7, 8, 19] S0 S → IR S → 62062 ≤ n → wpn (kX7_tick Q X) n 0 lv [] S 0 0
def P_X7_tick_44 (Q : Option Value → MM → Prop) (X : String → MM → Prop) (S0 : MM) (n : Nat) : Prop := ∀ (lv : Lv) (S : MM) (x0 : Nat) (i1 : Nat) (w2 : Int32) (i3 : Nat), lvg lv 0 = some (.ref x0) → sK S0 x0 = 8 → lvg lv 1 = some (.int (nI i1)) → i1 < 1001 → lvg lv 2 = some (.int w2) → lvg lv 3 = some (.int (nI i3)) → i3 < 1001 → SH [2, 3, 4, 5, 6, 7, 8, 19] S0 S → IR S → 31 + 62 * (1000 - i3) ≤ n → wpn (kX7_tick Q X) n 44 lv [] S 0 0
theorem B_X7_tick_0 {Q : Option Value → MM → Prop} {X : String → MM → Prop} {S0 : MM} {n : Nat} (hT : TY S0) (K : ∀ r S', SH [2, 3, 4, 5, 6, 7, 8, 19] S0 S' → IR S' → Q (some (.int r)) S') (XeI : ∀ S', SH [2, 3, 4, 5, 6, 7, 8, 19] S0 S' → IR S' → X eI S') (t_44 : ∀ k, k ≤ n → P_X7_tick_44 Q X S0 k) : P_X7_tick_0 Q X S0 (n + 1) := by
  intro lv S x0 i1 g0 k0 g1 h1 sh ir hF
  refine u_X7_tick_0 ?_
  unfold bX7_tick_0
  refine e_ldI g1 ?_
  refine e_cN 1 rfl ?_
  refine e_lt (by omega) (by omega) (fun h1 => ?_) (fun h1 => ?_)
  · obtain ⟨q2, rfl⟩ : ∃ q, n = q + 1 := ⟨n - 1, by omega⟩
    refine u_X7_tick_12 ?_
    unfold bX7_tick_12
    exact And.intro ⟨by decide, by decide⟩ (XeI _ sh ir)
  · refine e_ldI g1 ?_
    refine e_cN 1000 rfl ?_
    refine e_le (by omega) (by omega) (fun h3 => ?_) (fun h3 => ?_)
    · obtain ⟨q4, rfl⟩ : ∃ q, n = q + 1 := ⟨n - 1, by omega⟩
      refine u_X7_tick_22 ?_
      unfold bX7_tick_22
      refine e_ldA g0 ?_
      obtain ⟨b5, rb6, kb7, nb8⟩ := hT.1 x0 8 0 13 2 k0 rfl
      refine e_gR (SH_k sh k0) (SH_r sh rb6) ?_
      refine e_cN 0 rfl ?_
      obtain ⟨b9, rb10, kb11, nb12⟩ := hT.2.1 b5 13 2 2 0 kb7 nb8 rfl (by omega)
      refine e_aR (SH_k sh kb7) (SH_n sh nb8) (by omega) (by decide) (SH_r sh rb10) ?_
      refine e_gI (SH_k sh kb11) (fun v13 hv14 => ?_)
      refine e_ldA g0 ?_
      refine e_gR (SH_k sh k0) (SH_r sh rb6) ?_
      refine e_cN 1 rfl ?_
      obtain ⟨b15, rb16, kb17, nb18⟩ := hT.2.1 b5 13 2 2 1 kb7 nb8 rfl (by omega)
      refine e_aR (SH_k sh kb7) (SH_n sh nb8) (by omega) (by decide) (SH_r sh rb16) ?_
      refine e_gI (SH_k sh kb17) (fun v19 hv20 => ?_)
      refine e_bopU (fun r21 => ?_)
      refine e_stI ?_
      refine e_cN 0 rfl ?_
      refine e_stI ?_
      exact t_44 q4 (by omega) _ _ x0 i1 _ 0 (lvg_ne (lvg_ne g0 rfl (by decide)) rfl (by decide)) k0 (lvg_ne (lvg_ne g1 rfl (by decide)) rfl (by decide)) (by omega) (lvg_ne lvg_self rfl (by decide)) lvg_self (by omega) sh ir (by omega)
    · obtain ⟨q22, rfl⟩ : ∃ q, n = q + 1 := ⟨n - 1, by omega⟩
      refine u_X7_tick_12 ?_
      unfold bX7_tick_12
      exact And.intro ⟨by decide, by decide⟩ (XeI _ sh ir)
theorem B_X7_tick_44 {Q : Option Value → MM → Prop} {X : String → MM → Prop} {S0 : MM} {n : Nat} (hT : TY S0) (K : ∀ r S', SH [2, 3, 4, 5, 6, 7, 8, 19] S0 S' → IR S' → Q (some (.int r)) S') (XeI : ∀ S', SH [2, 3, 4, 5, 6, 7, 8, 19] S0 S' → IR S' → X eI S') (t_44 : ∀ k, k ≤ n → P_X7_tick_44 Q X S0 k) : P_X7_tick_44 Q X S0 (n + 1) := by
  intro lv S x0 i1 w2 i3 g0 k0 g1 h1 g2 g3 h3 sh ir hF
  refine u_X7_tick_44 ?_
  unfold bX7_tick_44
  refine e_ldI g3 ?_
  refine e_ldI g1 ?_
  refine e_ge (by omega) (by omega) (fun h1 => ?_) (fun h1 => ?_)
  · obtain ⟨q2, rfl⟩ : ∃ q, n = q + 1 := ⟨n - 1, by omega⟩
    refine u_X7_tick_59 ?_
    unfold bX7_tick_59
    refine e_ldA g0 ?_
    obtain ⟨b3, rb4, kb5, nb6⟩ := hT.1 x0 8 0 13 2 k0 rfl
    refine e_gR (SH_k sh k0) (SH_r sh rb4) ?_
    refine e_cN 0 rfl ?_
    obtain ⟨b7, rb8, kb9, nb10⟩ := hT.2.1 b3 13 2 2 0 kb5 nb6 rfl (by omega)
    refine e_aR (SH_k sh kb5) (SH_n sh nb6) (by omega) (by decide) (SH_r sh rb8) ?_
    refine e_gI (SH_k sh kb9) (fun v11 hv12 => ?_)
    refine e_ldA g0 ?_
    refine e_gR (SH_k sh k0) (SH_r sh rb4) ?_
    refine e_cN 1 rfl ?_
    obtain ⟨b13, rb14, kb15, nb16⟩ := hT.2.1 b3 13 2 2 1 kb5 nb6 rfl (by omega)
    refine e_aR (SH_k sh kb5) (SH_n sh nb6) (by omega) (by decide) (SH_r sh rb14) ?_
    refine e_gI (SH_k sh kb15) (fun v17 hv18 => ?_)
    refine e_bopU (fun r19 => ?_)
    refine e_ldI g2 ?_
    refine e_bopU (fun r20 => ?_)
    exact e_rI (K _ _ sh ir)
  · refine e_ldA g0 ?_
    refine And.intro (SH_k sh k0) (And.intro ⟨by decide, by decide⟩ (z_X7_runTick (TY_SH hT sh) ir (SH_k sh k0) (fun S21 s22 ir23 => ?_)))
    have sh24 := SH.tr sh s22 (by decide)
    refine e_inc g3 ?_
    exact t_44 n (by omega) _ _ x0 i1 _ (i3 + 1) (lvg_ne g0 rfl (by decide)) k0 (lvg_ne g1 rfl (by decide)) (by omega) (lvg_ne g2 rfl (by decide)) lvg_self (by omega) sh24 ir23 (by omega)
theorem A_X7_tick {Q : Option Value → MM → Prop} {X : String → MM → Prop} {S0 : MM} (hT : TY S0) (K : ∀ r S', SH [2, 3, 4, 5, 6, 7, 8, 19] S0 S' → IR S' → Q (some (.int r)) S') (XeI : ∀ S', SH [2, 3, 4, 5, 6, 7, 8, 19] S0 S' → IR S' → X eI S') : ∀ n k, k ≤ n → P_X7_tick_0 Q X S0 k ∧ P_X7_tick_44 Q X S0 k := by
  intro n
  induction n with
  | zero =>
    intro k hk
    have e : k = 0 := by omega
    subst e
    exact ⟨(fun lv S x0 i1 _ _ _ _ _ _ hF => absurd hF (by omega)), (fun lv S x0 i1 w2 i3 _ _ _ _ _ _ _ _ _ hF => absurd hF (by omega))⟩
  | succ n ih =>
    intro k hk
    by_cases hn : k ≤ n
    · exact ih k hn
    · have e : k = n + 1 := by omega
      subst e
      have T_0 : ∀ k, k ≤ n → P_X7_tick_0 Q X S0 k := fun k hk => (ih k hk).1
      have T_44 : ∀ k, k ≤ n → P_X7_tick_44 Q X S0 k := fun k hk => (ih k hk).2
      exact ⟨B_X7_tick_0 hT K XeI T_44, B_X7_tick_44 hT K XeI T_44⟩
theorem z_X7_tick {Q : Option Value → MM → Prop} {X : String → MM → Prop} {S0 : MM} {x0 : Nat} {i1 : Nat} (hT : TY S0) (ir : IR S0) (k0 : sK S0 x0 = 8) (h1 : i1 < 1001) (K : ∀ r S', SH [2, 3, 4, 5, 6, 7, 8, 19] S0 S' → IR S' → Q (some (.int r)) S') (XeI : ∀ S', SH [2, 3, 4, 5, 6, 7, 8, 19] S0 S' → IR S' → X eI S') : wX7_tick [.ref x0, .int (nI i1)] S0 Q X := by
  exact Exists.intro 62062 ((A_X7_tick hT K XeI 62062 62062 (Nat.le_refl _)).1 _ S0 x0 i1 rfl k0 rfl h1 SH.rf ir (by omega))
