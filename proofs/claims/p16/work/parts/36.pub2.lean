theorem y_sA14 {kt : Kt} {lv : Lv} {st : List Value} {S : MM} {c z a j v : Nat} (hT : TY S) (ir : IR S) (hk : sK S a = 14) (hn : sN S a = 200) (hj : j < 200) (hv : sK S v = 3) (nv : sN S v = 0) (h : ∀ S', TY S' → IR S' → GL VG S S' → (∀ b, sK S b ≠ 0 → sI S' b = sI S b) → kt lv st S' c z) : sAR 2 kt lv (.ref v :: .int (nI j) :: .ref a :: st) S c z :=
  y_sAR hk hn hj (by decide) hv (h _ (TY_p14 hT hk hv nv) ir (GL_pR hk (by decide) rfl (by rw [rc_14 hk]; decide)) (fun _ _ => rfl))
theorem y_nO {kt : Kt} {lv : Lv} {st : List Value} {S : MM} {c z MC MS : Nat} (hT : TY S) (ir : IR S) (hr : c + 1 ≤ MC ∧ z + 7 ≤ MS) (h : ∀ q S', TY S' → IR S' → GL VG S S' → (∀ b, sK S b ≠ 0 → sI S' b = sI S b) → sK S' q = 3 → sN S' q = 0 → kt lv (.ref q :: st) S' (c + 1) (z + 7)) : nO 2 MC MS kt lv st S c z :=
  And.intro hr (fun q hq => h q _ (TY_nw hT hq) (IR_nw ir) (GL_nw hq) (fun b hb => cl2_row (fun w => hb (by rw [w]; exact hq))) (va_up_self _ _ _) (va_up_self _ _ _))
theorem z_X3_isFull2 {S : MM} {a : Nat} {Q : Option Value → MM → Prop} (ir : IR S) (ka : sK S a = 4) (K0 : ∀ n, n < 200 → sI S a 5 = nI n → Q (some (.int (nI 0))) S) (K1 : Q (some (.int (nI 1))) S) : wX3_isFull [.ref a] S Q := by
  obtain ⟨n, hn, vn⟩ := ir a 4 5 201 ka rfl
  refine Exists.intro 40 (u_X3_isFull_0 ?_)
  unfold bX3_isFull_0
  refine e_ldA rfl (e_gV (v := nI n) ka vn (e_cN 200 rfl (e_lt (by omega) (by decide) (fun h => u_X3_isFull_14 ?_) (fun _ => e_cN 1 rfl (u_X3_isFull_15 ?_)))))
  · unfold bX3_isFull_14
    refine e_cN 0 rfl (u_X3_isFull_15 ?_)
    unfold bX3_isFull_15
    exact e_rZ (by decide) (K0 n h vn)
  · unfold bX3_isFull_15
    exact e_rZ (by decide) K1
theorem u_X3_addFrame_0 {Q : Option Value → MM → Prop} {n : Nat} {lv : Lv} {st : List Value} {S : MM} {c z : Nat} (h : bX3_addFrame_0 Q (wpn (kX3_addFrame Q) n) lv st S c z) : wpn (kX3_addFrame Q) (n + 1) 0 lv st S c z := h
theorem u_X3_addFrame_40 {Q : Option Value → MM → Prop} {n : Nat} {lv : Lv} {st : List Value} {S : MM} {c z : Nat} (h : bX3_addFrame_40 Q (wpn (kX3_addFrame Q) n) lv st S c z) : wpn (kX3_addFrame Q) (n + 1) 40 lv st S c z := h
theorem z_X3_addFrame {Q : Option Value → MM → Prop} {S0 : MM} {x0 : Nat} (hT : TY S0) (ir : IR S0) (k0 : sK S0 x0 = 4) {nf : Nat} (hfc : sI S0 x0 5 = nI nf) (hnf : nf < 200) (K : ∀ b S', GL VG S0 S' → TY S' → IR S' → sK S' b = 3 → sN S' b = 0 → Q (some (.ref b)) S') : wX3_addFrame [.ref x0] S0 Q := by
  have sh : SH [4] S0 S0 := SH.rf
  refine Exists.intro 40 (u_X3_addFrame_0 ?_)
  unfold bX3_addFrame_0
  refine e_ldA rfl ?_
  obtain ⟨n1, hn2, vn3⟩ := ir x0 4 4 200 (SH_k sh k0) rfl
  refine e_gV (SH_k sh k0) vn3 ?_
  refine e_ldA rfl ?_
  refine e_gV (v := nI nf) (SH_k sh k0) hfc ?_
  refine e_add ?_
  refine e_cN 200 rfl ?_
  refine e_rem (by omega) (by decide) (by decide) ?_
  refine e_stI ?_
  refine e_ldA (lvg_ne rfl rfl (by decide)) ?_
  obtain ⟨b4, rb5, kb6, nb7⟩ := hT.1 x0 4 3 14 200 k0 rfl
  refine e_gR (SH_k sh k0) (SH_r sh rb5) ?_
  refine e_ldI lvg_self ?_
  refine e_aO (SH_k sh kb6) (SH_n sh nb7) (by omega) (by decide) (fun _ => ?_) (fun b8 rb9 => ?_)
  · refine e_stN ?_
    refine e_ldN lvg_self ?_
    refine e_nnN ?_
    refine y_nO (TY_SH hT sh) ir ⟨by decide, by decide⟩ (fun q17 S12 hT13 ir14 gl15 hi16 kq18 nq19 => ?_)
    have sh20 : SH [4] S12 S12 := SH.rf
    have G21 := GL.tr (GL.of (V := VG) sh (by decide)) gl15
    have k22 := GL_k gl15 (SH_k sh k0) (by decide)
    refine e_duA ?_
    refine And.intro ⟨by decide, by decide⟩ (z_X2_init ?_)
    refine e_stA ?_
    refine e_ldA (lvg_ne (lvg_ne (lvg_ne rfl rfl (by decide)) rfl (by decide)) rfl (by decide)) ?_
    obtain ⟨b23, rb24, kb25, nb26⟩ := hT13.1 x0 4 3 14 200 k22 rfl
    refine e_gR (SH_k sh20 k22) (SH_r sh20 rb24) ?_
    refine e_ldI (lvg_ne (lvg_ne lvg_self rfl (by decide)) rfl (by decide)) ?_
    refine e_ldA lvg_self ?_
    refine y_sA14 (TY_SH hT13 sh20) ir14 (SH_k sh20 kb25) (SH_n sh20 nb26) (by omega) (SH_k sh20 kq18) (SH_n sh20 nq19) (fun S27 hT28 ir29 gl30 hi31 => ?_)
    have sh32 : SH [4] S27 S27 := SH.rf
    have G33 := GL.tr (GL.tr G21 (GL.of (V := VG) sh20 (by decide))) gl30
    have k34 := GL_k gl30 (SH_k sh20 k22) (by decide)
    have k35 := GL_k gl30 (SH_k sh20 kq18) (by decide)
    have n36 := GL_n gl30 (SH_k sh20 kq18) (by decide) (SH_n sh20 nq19)
    refine u_X3_addFrame_40 ?_
    unfold bX3_addFrame_40
    refine e_ldA (lvg_ne (lvg_ne (lvg_ne rfl rfl (by decide)) rfl (by decide)) rfl (by decide)) ?_
    refine e_duA ?_
    refine e_gV (v := nI nf) (SH_k sh32 k34) (by rw [hi31 x0 (by rw [SH_k sh20 k22]; decide)]; exact (by rw [hi16 x0 (by rw [SH_k sh k0]; decide)]; exact hfc)) ?_
    refine e_cN 1 rfl ?_
    refine e_add ?_
    refine y_tI (SH_k sh32 k34) sh32 ir29 (by decide) (by decide) (fun N e => by have e2 : some 201 = some N := e; cases e2; exact ⟨(nf + 1), by omega, rfl⟩) (fun S37 he38 sh39 ir40 => ?_)
    refine e_ldA lvg_self ?_
    exact e_rA (K q17 _ (GL.tr G33 (GL.of (V := VG) sh39 (by decide))) (TY_SH hT28 sh39) ir40 (SH_k sh39 k35) (SH_n sh39 n36))
  · obtain ⟨kb10, nb11⟩ := hT.2.2 b4 14 3 ((n1 + nf) % 200) b8 kb6 rfl (SH_r' sh rb9)
    refine e_stA ?_
    refine e_ldA lvg_self ?_
    refine e_nnA ?_
    refine u_X3_addFrame_40 ?_
    unfold bX3_addFrame_40
    refine e_ldA (lvg_ne (lvg_ne rfl rfl (by decide)) rfl (by decide)) ?_
    refine e_duA ?_
    refine e_gV (v := nI nf) (SH_k sh k0) hfc ?_
    refine e_cN 1 rfl ?_
    refine e_add ?_
    refine y_tI (SH_k sh k0) sh ir (by decide) (by decide) (fun N e => by have e2 : some 201 = some N := e; cases e2; exact ⟨(nf + 1), by omega, rfl⟩) (fun S41 he42 sh43 ir44 => ?_)
    refine e_ldA lvg_self ?_
    exact e_rA (K b8 _ (GL.of (V := VG) sh43 (by decide)) (TY_SH hT sh43) ir44 (SH_k sh43 kb10) (SH_n sh43 nb11))
theorem u_X7_pull_0 {Q : Option Value → MM → Prop} {X : String → MM → Prop} {n : Nat} {lv : Lv} {st : List Value} {S : MM} {c z : Nat} (h : bX7_pull_0 Q X (wpn (kX7_pull Q X) n) lv st S c z) : wpn (kX7_pull Q X) (n + 1) 0 lv st S c z := h
theorem u_X7_pull_17 {Q : Option Value → MM → Prop} {X : String → MM → Prop} {n : Nat} {lv : Lv} {st : List Value} {S : MM} {c z : Nat} (h : bX7_pull_17 Q X (wpn (kX7_pull Q X) n) lv st S c z) : wpn (kX7_pull Q X) (n + 1) 17 lv st S c z := h
theorem u_X7_pull_39 {Q : Option Value → MM → Prop} {X : String → MM → Prop} {n : Nat} {lv : Lv} {st : List Value} {S : MM} {c z : Nat} (h : bX7_pull_39 Q X (wpn (kX7_pull Q X) n) lv st S c z) : wpn (kX7_pull Q X) (n + 1) 39 lv st S c z := h
theorem z_X7_pull {Q : Option Value → MM → Prop} {X : String → MM → Prop} {S0 : MM} {x0 : Nat} {w1 : Int32} (hT : TY S0) (ir : IR S0) (k0 : sK S0 x0 = 8) (K : ∀ S', GL VP S0 S' → TY S' → IR S' → Q none S') (XeI : ∀ S', GL VP S0 S' → TY S' → IR S' → X eI S') (XeS : ∀ S', GL VP S0 S' → TY S' → IR S' → X eS S') : wX7_pull [.ref x0, .int w1] S0 Q X := by
  have sh : SH [1, 8] S0 S0 := SH.rf
  refine Exists.intro 40 (u_X7_pull_0 ?_)
  unfold bX7_pull_0
  refine e_ldI rfl ?_
  refine And.intro ⟨by decide, by decide⟩ (z_isCable ?_ (fun j1 hj2 e3 => ?_))
  · refine e_ifN (by omega) (fun h4 => ?_) (fun h4 => ?_)
    · exact And.intro ⟨by decide, by decide⟩ (XeI _ (GL.of (V := VP) sh (by decide)) (TY_SH hT sh) ir)
    · exact absurd rfl h4
  · subst e3
    refine e_ifN (by omega) (fun h5 => ?_) (fun h5 => ?_)
    · exact absurd h5 (by decide)
    · refine u_X7_pull_17 ?_
      unfold bX7_pull_17
      refine e_ldA rfl ?_
      obtain ⟨b6, rb7, kb8, nb9⟩ := hT.1 x0 8 1 12 8 k0 rfl
      refine e_gR (SH_k sh k0) (SH_r sh rb7) ?_
      refine e_ldI rfl ?_
      obtain ⟨b10, rb11, kb12, nb13⟩ := hT.2.1 b6 12 8 1 j1 kb8 nb9 rfl (by omega)
      refine e_aR (SH_k sh kb8) (SH_n sh nb9) (by omega) (by decide) (SH_r sh rb11) ?_
      refine And.intro (SH_k sh kb12) (And.intro ⟨by decide, by decide⟩ (z_X0_isPlugged (TY_SH hT sh) (SH_k sh kb12) ?_ (fun hp14 => ?_)))
      · refine e_ifN (by omega) (fun h15 => ?_) (fun h15 => ?_)
        · exact And.intro ⟨by decide, by decide⟩ (XeS _ (GL.of (V := VP) sh (by decide)) (TY_SH hT sh) ir)
        · exact absurd rfl h15
      · refine e_ifN (by omega) (fun h16 => ?_) (fun h16 => ?_)
        · exact absurd h16 (by decide)
        · refine u_X7_pull_39 ?_
          unfold bX7_pull_39
          refine e_ldA rfl ?_
          refine e_ldA rfl ?_
          refine e_gR (SH_k sh k0) (SH_r sh rb7) ?_
          refine e_ldI rfl ?_
          refine e_aR (SH_k sh kb8) (SH_n sh nb9) (by omega) (by decide) (SH_r sh rb11) ?_
          refine And.intro (SH_k sh k0) (And.intro ⟨by decide, by decide⟩ (z_X7_takeOut (TY_SH hT sh) ir (SH_k sh k0) (SH_k sh kb12) (fun S17 gl20 hT18 ir19 _ _ _ => ?_)))
          have sh25 : SH [1, 8] S17 S17 := SH.rf
          have G26 := GL.tr (GL.of (V := VP) sh (by decide)) gl20
          have k27 := GL_k gl20 (SH_k sh k0) (by decide)
          refine e_ldA rfl ?_
          refine And.intro (SH_k sh25 k27) (And.intro ⟨by decide, by decide⟩ (z_X7_noteChange (TY_SH hT18 sh25) ir19 (SH_k sh25 k27) (fun S28 s29 ir30 => ?_)))
          have sh31 := SH.tr sh25 s29 (by decide)
          exact e_rV (K _ (GL.tr G26 (GL.of (V := VP) sh31 (by decide))) (TY_SH hT18 sh31) ir30)
theorem u_X7_give_0 {Q : Option Value → MM → Prop} {X : String → MM → Prop} {n : Nat} {lv : Lv} {st : List Value} {S : MM} {c z : Nat} (h : bX7_give_0 Q X (wpn (kX7_give Q X) n) lv st S c z) : wpn (kX7_give Q X) (n + 1) 0 lv st S c z := h
theorem u_X7_give_18 {Q : Option Value → MM → Prop} {X : String → MM → Prop} {n : Nat} {lv : Lv} {st : List Value} {S : MM} {c z : Nat} (h : bX7_give_18 Q X (wpn (kX7_give Q X) n) lv st S c z) : wpn (kX7_give Q X) (n + 1) 18 lv st S c z := h
theorem u_X7_give_28 {Q : Option Value → MM → Prop} {X : String → MM → Prop} {n : Nat} {lv : Lv} {st : List Value} {S : MM} {c z : Nat} (h : bX7_give_28 Q X (wpn (kX7_give Q X) n) lv st S c z) : wpn (kX7_give Q X) (n + 1) 28 lv st S c z := h
theorem u_X7_give_57 {Q : Option Value → MM → Prop} {X : String → MM → Prop} {n : Nat} {lv : Lv} {st : List Value} {S : MM} {c z : Nat} (h : bX7_give_57 Q X (wpn (kX7_give Q X) n) lv st S c z) : wpn (kX7_give Q X) (n + 1) 57 lv st S c z := h
theorem u_X7_give_59 {Q : Option Value → MM → Prop} {X : String → MM → Prop} {n : Nat} {lv : Lv} {st : List Value} {S : MM} {c z : Nat} (h : bX7_give_59 Q X (wpn (kX7_give Q X) n) lv st S c z) : wpn (kX7_give Q X) (n + 1) 59 lv st S c z := h
theorem u_X7_give_90 {Q : Option Value → MM → Prop} {X : String → MM → Prop} {n : Nat} {lv : Lv} {st : List Value} {S : MM} {c z : Nat} (h : bX7_give_90 Q X (wpn (kX7_give Q X) n) lv st S c z) : wpn (kX7_give Q X) (n + 1) 90 lv st S c z := h
theorem u_X7_give_182 {Q : Option Value → MM → Prop} {X : String → MM → Prop} {n : Nat} {lv : Lv} {st : List Value} {S : MM} {c z : Nat} (h : bX7_give_182 Q X (wpn (kX7_give Q X) n) lv st S c z) : wpn (kX7_give Q X) (n + 1) 182 lv st S c z := h
theorem u_X7_give_195 {Q : Option Value → MM → Prop} {X : String → MM → Prop} {n : Nat} {lv : Lv} {st : List Value} {S : MM} {c z : Nat} (h : bX7_give_195 Q X (wpn (kX7_give Q X) n) lv st S c z) : wpn (kX7_give Q X) (n + 1) 195 lv st S c z := h
theorem z_X7_give {Q : Option Value → MM → Prop} {X : String → MM → Prop} {S0 : MM} {x0 : Nat} {w1 : Int32} {w2 : Int32} {w3 : Int32} {w4 : Int32} (hT : TY S0) (ir : IR S0) (k0 : sK S0 x0 = 8) (K : ∀ r S', GL VG S0 S' → TY S' → IR S' → Q (some (.int r)) S') (XeI : ∀ S', GL VG S0 S' → TY S' → IR S' → X eI S') : wX7_give [.ref x0, .int w1, .int w2, .int w3, .int w4] S0 Q X := by
  have sh : SH [2, 3, 4, 8] S0 S0 := SH.rf
  refine Exists.intro 40 (u_X7_give_0 ?_)
  unfold bX7_give_0
  refine e_ldI rfl ?_
  refine And.intro ⟨by decide, by decide⟩ (z_isEnd ?_ (fun j1 hj2 e3 => ?_))
  · refine e_ifN (by omega) (fun h4 => ?_) (fun h4 => ?_)
    · refine u_X7_give_18 ?_
      unfold bX7_give_18
      exact And.intro ⟨by decide, by decide⟩ (XeI _ (GL.of (V := VG) sh (by decide)) (TY_SH hT sh) ir)
    · exact absurd rfl h4
  · subst e3
    refine e_ifN (by omega) (fun h5 => ?_) (fun h5 => ?_)
    · exact absurd h5 (by decide)
    · refine e_ldI rfl ?_
      refine e_ifz ?_ ?_
      · refine u_X7_give_18 ?_
        unfold bX7_give_18
        exact And.intro ⟨by decide, by decide⟩ (XeI _ (GL.of (V := VG) sh (by decide)) (TY_SH hT sh) ir)
      · refine e_ldI rfl ?_
        refine e_cN 255 rfl ?_
        refine e_ifc ?_ ?_
        · refine u_X7_give_28 ?_
          unfold bX7_give_28
          refine e_ldA rfl ?_
          obtain ⟨b6, rb7, kb8, nb9⟩ := hT.1 x0 8 0 13 2 k0 rfl
          refine e_gR (SH_k sh k0) (SH_r sh rb7) ?_
          refine e_ldI rfl ?_
          obtain ⟨b10, rb11, kb12, nb13⟩ := hT.2.1 b6 13 2 2 j1 kb8 nb9 rfl (by omega)
          refine e_aR (SH_k sh kb8) (SH_n sh nb9) (by omega) (by decide) (SH_r sh rb11) ?_
          refine e_ldI rfl ?_
          refine e_ldI rfl ?_
          refine And.intro (SH_k sh kb12) (And.intro ⟨by decide, by decide⟩ (z_X1_giverOf (TY_SH hT sh) ir (SH_k sh kb12) (fun S14 s15 ir16 => ?_) (fun b18 S14 s15 ir16 kb19 => ?_)))
          · have sh17 := SH.tr sh s15 (by decide)
            refine e_stN ?_
            refine e_ldN lvg_self ?_
            refine e_nnN ?_
            refine u_X7_give_57 ?_
            unfold bX7_give_57
            refine e_cI ?_
            exact e_rI (K _ _ (GL.of (V := VG) sh17 (by decide)) (TY_SH hT sh17) ir16)
          · have sh17 := SH.tr sh s15 (by decide)
            refine e_stA ?_
            refine e_ldA lvg_self ?_
            refine e_nnA ?_
            refine e_ldA lvg_self ?_
            refine e_gI (SH_k sh17 (SH_k' sh kb19)) (fun v20 hv21 => ?_)
            refine And.intro ⟨by decide, by decide⟩ (z_isCable ?_ (fun j22 hj23 e24 => ?_))
            · refine e_ifN (by omega) (fun h25 => ?_) (fun h25 => ?_)
              · refine u_X7_give_57 ?_
                unfold bX7_give_57
                refine e_cI ?_
                exact e_rI (K _ _ (GL.of (V := VG) sh17 (by decide)) (TY_SH hT sh17) ir16)
              · exact absurd rfl h25
            · subst e24
              refine e_ifN (by omega) (fun h26 => ?_) (fun h26 => ?_)
              · exact absurd h26 (by decide)
              · refine u_X7_give_59 ?_
                unfold bX7_give_59
                refine e_ldA (lvg_ne rfl rfl (by decide)) ?_
                obtain ⟨b27, rb28, kb29, nb30⟩ := hT.1 x0 8 1 12 8 k0 rfl
                refine e_gR (SH_k sh17 k0) (SH_r sh17 rb28) ?_
                refine e_ldA lvg_self ?_
                refine e_gV (v := nI j22) (SH_k sh17 (SH_k' sh kb19)) hv21 ?_
                obtain ⟨b31, rb32, kb33, nb34⟩ := hT.2.1 b27 12 8 1 j22 kb29 nb30 rfl (by omega)
                refine e_aR (SH_k sh17 kb29) (SH_n sh17 nb30) (by omega) (by decide) (SH_r sh17 rb32) ?_
                refine e_stA ?_
                refine e_ldA lvg_self ?_
                obtain ⟨b35, rb36, kb37, nb38⟩ := hT.1 b31 1 1 15 2 kb33 rfl
                refine e_gR (SH_k sh17 kb33) (SH_r sh17 rb36) ?_
                refine e_ldI (lvg_ne (lvg_ne rfl rfl (by decide)) rfl (by decide)) ?_
                obtain ⟨b39, rb40, kb41, nb42⟩ := hT.2.1 b35 15 2 4 j1 kb37 nb38 rfl (by omega)
                refine e_aR (SH_k sh17 kb37) (SH_n sh17 nb38) (by omega) (by decide) (SH_r sh17 rb40) ?_
                refine e_stA ?_
                refine e_ldA lvg_self ?_
                refine And.intro (SH_k sh17 kb41) (And.intro ⟨by decide, by decide⟩ (z_X3_isFull2 ir16 (SH_k sh17 kb41) (fun n43 hn44 vn45 => ?_) ?_))
                · refine e_ifN (by omega) (fun h46 => ?_) (fun h46 => ?_)
                  · refine u_X7_give_90 ?_
                    unfold bX7_give_90
                    refine e_ldA lvg_self ?_
                    refine And.intro (SH_k sh17 kb41) (And.intro ⟨by decide, by decide⟩ (z_X3_addFrame (TY_SH hT sh17) ir16 (SH_k sh17 kb41) vn45 (by omega) (fun b52 S47 gl50 hT48 ir49 kq53 nq54 => ?_)))
                    have sh55 : SH [2, 3, 4, 8] S47 S47 := SH.rf
                    have G56 := GL.tr (GL.of (V := VG) sh17 (by decide)) gl50
                    have k57 := GL_k gl50 (SH_k sh17 k0) (by decide)
                    have k58 := GL_k gl50 (SH_k sh17 (SH_k' sh kb19)) (by decide)
                    have k59 := GL_k gl50 (SH_k sh17 kb33) (by decide)
                    have n60 := GL_n gl50 (SH_k sh17 kb33) (by decide) (SH_n sh17 nb34)
                    have k61 := GL_k gl50 (SH_k sh17 kb41) (by decide)
                    have n62 := GL_n gl50 (SH_k sh17 kb41) (by decide) (SH_n sh17 nb42)
                    refine e_stA ?_
                    refine e_ldA lvg_self ?_
                    refine e_ldI (lvg_ne (lvg_ne (lvg_ne (lvg_ne rfl rfl (by decide)) rfl (by decide)) rfl (by decide)) rfl (by decide)) ?_
                    refine y_tI (SH_k sh55 kq53) sh55 ir49 (by decide) (by decide) (fun N e => nomatch (show (none : Option Nat) = some N from e)) (fun S63 he64 sh65 ir66 => ?_)
                    refine e_ldA lvg_self ?_
                    refine e_ldI (lvg_ne (lvg_ne (lvg_ne (lvg_ne rfl rfl (by decide)) rfl (by decide)) rfl (by decide)) rfl (by decide)) ?_
                    refine y_tI (SH_k sh65 kq53) sh65 ir66 (by decide) (by decide) (fun N e => nomatch (show (none : Option Nat) = some N from e)) (fun S67 he68 sh69 ir70 => ?_)
                    refine e_ldA lvg_self ?_
                    refine e_ldI (lvg_ne (lvg_ne (lvg_ne (lvg_ne rfl rfl (by decide)) rfl (by decide)) rfl (by decide)) rfl (by decide)) ?_
                    refine y_tI (SH_k sh69 kq53) sh69 ir70 (by decide) (by decide) (fun N e => nomatch (show (none : Option Nat) = some N from e)) (fun S71 he72 sh73 ir74 => ?_)
                    refine e_ldA lvg_self ?_
                    refine e_ldA (lvg_ne (lvg_ne (lvg_ne (lvg_ne rfl rfl (by decide)) rfl (by decide)) rfl (by decide)) rfl (by decide)) ?_
                    refine e_gI (SH_k sh73 k57) (fun v75 hv76 => ?_)
                    refine e_ldA (lvg_ne (lvg_ne lvg_self rfl (by decide)) rfl (by decide)) ?_
                    refine e_gI (SH_k sh73 k59) (fun v77 hv78 => ?_)
                    refine e_bopU (fun r79 => ?_)
                    refine y_tI (SH_k sh73 kq53) sh73 ir74 (by decide) (by decide) (fun N e => nomatch (show (none : Option Nat) = some N from e)) (fun S80 he81 sh82 ir83 => ?_)
                    refine e_ldA lvg_self ?_
                    refine e_ldA (lvg_ne (lvg_ne (lvg_ne (lvg_ne rfl rfl (by decide)) rfl (by decide)) rfl (by decide)) rfl (by decide)) ?_
                    obtain ⟨b84, rb85, kb86, nb87⟩ := hT48.1 x0 8 0 13 2 k57 rfl
                    refine e_gR (SH_k sh82 k57) (SH_r sh82 rb85) ?_
                    refine e_ldI (lvg_ne (lvg_ne (lvg_ne (lvg_ne rfl rfl (by decide)) rfl (by decide)) rfl (by decide)) rfl (by decide)) ?_
                    obtain ⟨b88, rb89, kb90, nb91⟩ := hT48.2.1 b84 13 2 2 j1 kb86 nb87 rfl (by omega)
                    refine e_aR (SH_k sh82 kb86) (SH_n sh82 nb87) (by omega) (by decide) (SH_r sh82 rb89) ?_
                    refine e_gI (SH_k sh82 kb90) (fun v92 hv93 => ?_)
                    refine y_tI (SH_k sh82 kq53) sh82 ir83 (by decide) (by decide) (fun N e => nomatch (show (none : Option Nat) = some N from e)) (fun S94 he95 sh96 ir97 => ?_)
                    refine e_ldA lvg_self ?_
                    refine e_ldA (lvg_ne (lvg_ne (lvg_ne (lvg_ne rfl rfl (by decide)) rfl (by decide)) rfl (by decide)) rfl (by decide)) ?_
                    refine e_gR (SH_k sh96 k57) (SH_r sh96 rb85) ?_
                    refine e_ldI (lvg_ne (lvg_ne (lvg_ne (lvg_ne rfl rfl (by decide)) rfl (by decide)) rfl (by decide)) rfl (by decide)) ?_
                    refine e_aR (SH_k sh96 kb86) (SH_n sh96 nb87) (by omega) (by decide) (SH_r sh96 rb89) ?_
                    refine e_duA ?_
                    refine e_gI (SH_k sh96 kb90) (fun v98 hv99 => ?_)
                    refine e_dux ?_
                    refine e_cN 1 rfl ?_
                    refine e_bopU (fun r100 => ?_)
                    refine y_tI (SH_k sh96 kb90) sh96 ir97 (by decide) (by decide) (fun N e => nomatch (show (none : Option Nat) = some N from e)) (fun S101 he102 sh103 ir104 => ?_)
                    refine y_tI (SH_k sh103 kq53) sh103 ir104 (by decide) (by decide) (fun N e => nomatch (show (none : Option Nat) = some N from e)) (fun S105 he106 sh107 ir108 => ?_)
                    refine e_ldA lvg_self ?_
                    refine e_cN 0 rfl ?_
                    refine y_tZ (SH_k sh107 kq53) (by omega) sh107 ir108 (by decide) (by decide) (fun N e => nomatch (show (none : Option Nat) = some N from e)) (fun S109 he110 sh111 ir112 => ?_)
                    refine e_ldA (lvg_ne (lvg_ne (lvg_ne lvg_self rfl (by decide)) rfl (by decide)) rfl (by decide)) ?_
                    obtain ⟨b113, rb114, kb115, nb116⟩ := hT48.1 b18 6 1 7 0 k58 rfl
                    refine e_gR (SH_k sh111 k58) (SH_r sh111 rb114) ?_
                    refine e_cN 16 rfl ?_
                    refine And.intro (SH_k sh111 kb115) (And.intro ⟨by decide, by decide⟩ (z_X6_has (TY_SH hT48 sh111) ir112 (SH_k sh111 kb115) (fun n121 S117 s118 ir119 hn122 => ?_)))
                    have sh120 := SH.tr sh111 s118 (by decide)
                    refine u_X7_give_182 ?_
                    unfold bX7_give_182
                    refine e_ifN (by omega) (fun h123 => ?_) (fun h123 => ?_)
                    · refine e_ldA (lvg_ne (lvg_ne (lvg_ne (lvg_ne rfl rfl (by decide)) rfl (by decide)) rfl (by decide)) rfl (by decide)) ?_
                      refine e_duA ?_
                      refine e_gI (SH_k sh120 k57) (fun v124 hv125 => ?_)
                      refine e_cN 1 rfl ?_
                      refine e_bopU (fun r126 => ?_)
                      refine y_tI (SH_k sh120 k57) sh120 ir119 (by decide) (by decide) (fun N e => nomatch (show (none : Option Nat) = some N from e)) (fun S127 he128 sh129 ir130 => ?_)
                      refine u_X7_give_195 ?_
                      unfold bX7_give_195
                      refine e_ldA (lvg_ne (lvg_ne (lvg_ne lvg_self rfl (by decide)) rfl (by decide)) rfl (by decide)) ?_
                      obtain ⟨b131, rb132, kb133, nb134⟩ := hT48.1 b18 6 0 7 0 k58 rfl
                      refine e_gR (SH_k sh129 k58) (SH_r sh129 rb132) ?_
                      refine e_gI (SH_k sh129 kb133) (fun v135 hv136 => ?_)
                      exact e_rI (K _ _ (GL.tr G56 (GL.of (V := VG) sh129 (by decide))) (TY_SH hT48 sh129) ir130)
                    · refine u_X7_give_195 ?_
                      unfold bX7_give_195
                      refine e_ldA (lvg_ne (lvg_ne (lvg_ne lvg_self rfl (by decide)) rfl (by decide)) rfl (by decide)) ?_
                      obtain ⟨b137, rb138, kb139, nb140⟩ := hT48.1 b18 6 0 7 0 k58 rfl
                      refine e_gR (SH_k sh120 k58) (SH_r sh120 rb138) ?_
                      refine e_gI (SH_k sh120 kb139) (fun v141 hv142 => ?_)
                      exact e_rI (K _ _ (GL.tr G56 (GL.of (V := VG) sh120 (by decide))) (TY_SH hT48 sh120) ir119)
                  · exact absurd rfl h46
                · refine e_ifN (by omega) (fun h143 => ?_) (fun h143 => ?_)
                  · exact absurd h143 (by decide)
                  · refine e_cI ?_
                    exact e_rI (K _ _ (GL.of (V := VG) sh17 (by decide)) (TY_SH hT sh17) ir16)
        · refine u_X7_give_18 ?_
          unfold bX7_give_18
          exact And.intro ⟨by decide, by decide⟩ (XeI _ (GL.of (V := VG) sh (by decide)) (TY_SH hT sh) ir)
