/-! SIMULATION 40: give: what the notes hang on stays -/
/-- the cells that were there: those that the notes hang on are the same -/
def VC (S S' : MM) : Prop := ∀ z, sK S z ≠ 0 → ((sK S z = 5 ∨ sK S z = 6 ∨ sK S z = 7) → sI S' z = sI S z) ∧ (sK S z = 4 → ∀ k, (k = 1 ∨ k = 2 ∨ k = 6) → sI S' z k = sI S z k) ∧ (sK S z = 1 → ∀ k, (k = 2 ∨ k = 3) → sI S' z k = sI S z k) ∧ (sK S z = 2 → ∀ k, (k = 1 ∨ k = 2) → sI S' z k = sI S z k) ∧ (sK S z = 8 → sI S' z 2 = sI S z 2)
theorem VC.eq {S S' : MM} (h : ∀ z, sK S z ≠ 0 → sI S' z = sI S z) : VC S S' := fun z hz => by
  rw [h z hz]
  exact ⟨fun _ => rfl, fun _ _ _ => rfl, fun _ _ _ => rfl, fun _ _ _ => rfl, fun _ => rfl⟩
theorem VC.rf {S : MM} : VC S S := VC.eq (fun _ _ => rfl)
theorem VC.tr {S S1 S2 : MM} (gl : GL VG S S1) (h : VC S S1) (g : VC S1 S2) : VC S S2 := fun z hz => by
  have k := (gl z hz).1
  obtain ⟨h1, h2, h3, h4, h5⟩ := h z hz
  obtain ⟨g1, g2, g3, g4, g5⟩ := g z (by rw [k]; exact hz)
  rw [k] at g1 g2 g3 g4 g5
  exact ⟨fun q => (g1 q).trans (h1 q), fun q k' hk => (g2 q k' hk).trans (h2 q k' hk), fun q k' hk => (g3 q k' hk).trans (h3 q k' hk), fun q k' hk => (g4 q k' hk).trans (h4 q k' hk), fun q => (g5 q).trans (h5 q)⟩
theorem VC.w {W : List Nat} {S S1 S2 : MM} {a k kd : Nat} {v : Int32} (h : VC S S1) (e : S2 = pI S1 a k v) (sh : SH W S S1) (ka : sK S1 a = kd) (hk : (kd = 4 ∧ k ≠ 1 ∧ k ≠ 2 ∧ k ≠ 6) ∨ (kd = 2 ∧ k ≠ 1 ∧ k ≠ 2) ∨ (kd = 8 ∧ k ≠ 2) ∨ kd = 3) : VC S S2 := fun z hz => by
  rw [sh.1] at ka
  obtain ⟨h1, h2, h3, h4, h5⟩ := h z hz
  rw [e, sI_pI]
  refine ⟨fun q => ?_, fun q j hj => ?_, fun q j hj => ?_, fun q j hj => ?_, fun q => ?_⟩
  · rw [up2_row (fun y => by subst y; omega)]; exact h1 q
  · rw [up2_ne (fun y => by obtain ⟨y1, y2⟩ := y; subst y1; omega)]; exact h2 q j hj
  · rw [up2_ne (fun y => by obtain ⟨y1, y2⟩ := y; subst y1; omega)]; exact h3 q j hj
  · rw [up2_ne (fun y => by obtain ⟨y1, y2⟩ := y; subst y1; omega)]; exact h4 q j hj
  · rw [up2_ne (fun y => by obtain ⟨y1, y2⟩ := y; subst y1; omega)]; exact h5 q
theorem VC.sh {S S1 S2 : MM} (h : VC S S1) (s : SH [] S1 S2) : VC S S2 := fun z hz => by
  have : sI S2 z = sI S1 z := funext (fun j => s.2.2.2.2 z j (List.not_mem_nil))
  rw [this]
  exact h z hz
def GV (S S' : MM) : Prop := GL VG S S' ∧ VC S S' ∧ (OC S → OC S')
theorem OC_SH {W : List Nat} {S S' : MM} (s : SH W S S') (h : OC S) : OC S' := by
  unfold OC rc
  rw [s.1, s.2.1, s.2.2.1]
  exact h
theorem GV.sh {W : List Nat} {S S' : MM} (s : SH W S S') (hw : ∀ k ∈ W, fo k = false ∧ k ∉ VG) (v : VC S S') : GV S S' := ⟨GL.of s hw, v, OC_SH s⟩
theorem GV.tr {S S1 S2 : MM} (h : GV S S1) (g : GV S1 S2) : GV S S2 := ⟨GL.tr h.1 g.1, VC.tr h.1 h.2.1 g.2.1, fun o => g.2.2 (h.2.2 o)⟩
theorem y_nO2 {kt : Kt} {lv : Lv} {st : List Value} {S : MM} {c z MC MS : Nat} (hT : TY S) (ir : IR S) (hr : c + 1 ≤ MC ∧ z + 7 ≤ MS) (h : ∀ q S', TY S' → IR S' → GL VG S S' → (∀ b, sK S b ≠ 0 → sI S' b = sI S b) → sK S' q = 3 → sN S' q = 0 → S' = nw S q 3 0 → sK S q = 0 → kt lv (.ref q :: st) S' (c + 1) (z + 7)) : nO 2 MC MS kt lv st S c z :=
  And.intro hr (fun q hq => h q _ (TY_nw hT hq) (IR_nw ir) (GL_nw hq) (fun b hb => cl2_row (fun w => hb (by rw [w]; exact hq))) (va_up_self _ _ _) (va_up_self _ _ _) rfl hq)
theorem y_sA142 {kt : Kt} {lv : Lv} {st : List Value} {S : MM} {c z a j v : Nat} (hT : TY S) (ir : IR S) (hk : sK S a = 14) (hn : sN S a = 200) (hj : j < 200) (hv : sK S v = 3) (nv : sN S v = 0) (h : ∀ S', TY S' → IR S' → GL VG S S' → (∀ b, sK S b ≠ 0 → sI S' b = sI S b) → S' = pR S a j (some v) → kt lv st S' c z) : sAR 2 kt lv (.ref v :: .int (nI j) :: .ref a :: st) S c z :=
  y_sAR hk hn hj (by decide) hv (h _ (TY_p14 hT hk hv nv) ir (GL_pR hk (by decide) rfl (by rw [rc_14 hk]; decide)) (fun _ _ => rfl) rfl)
theorem GV_add {S S1 S2 S3 : MM} {W : List Nat} {q a j x0 : Nat} {v : Int32} (e1 : S1 = nw S q 3 0) (hq : sK S q = 0) (e2 : S2 = pR S1 a j (some q)) (g : GL VG S S2) (hi : ∀ z, sK S z ≠ 0 → sI S2 z = sI S z) (e3 : S3 = pI S2 x0 5 v) (s3 : SH W S2 S3) (hw : ∀ k ∈ W, fo k = false ∧ k ∉ VG) (k0 : sK S2 x0 = 4) : GV S S3 := by
  refine ⟨GL.tr g (GL.of s3 hw), VC.tr g (VC.eq hi) (VC.w VC.rf e3 (SH.rf (W := W)) k0 (by omega)), fun o => OC_SH s3 ?_⟩
  rw [e2]
  refine OC_pR ?_ ?_ ?_
  · rw [e1]; exact OC_nw o hq
  · rw [e1]; exact NR_nw o hq
  · rw [e1, sK_nw, va_up_self]; decide
theorem v_X3_addFrame {Q : Option Value → MM → Prop} {S0 : MM} {x0 : Nat} (hT : TY S0) (ir : IR S0) (k0 : sK S0 x0 = 4) {nf : Nat} (hfc : sI S0 x0 5 = nI nf) (hnf : nf < 200) (K : ∀ b S', GV S0 S' → TY S' → IR S' → sK S' b = 3 → sN S' b = 0 → Q (some (.ref b)) S') : wX3_addFrame [.ref x0] S0 Q := by
  have sh : SH [4] S0 S0 := SH.rf
  refine Exists.intro 40 (u_X3_addFrame_0 ?_)
  unfold bX3_addFrame_0
  refine e_ldA rfl ?_
  obtain ⟨n1, hn2, vn3⟩ := ir x0 4 4 200 (SH_k sh k0) rfl
  refine e_gV (SH_k sh k0) vn3 ?_
  refine e_ldA rfl ?_
  refine e_gV (v := nI nf) (SH_k sh k0) hfc ?_
  refine e_add ?_
  refine e_cN 200 rfl ?_
  refine e_rem (by omega) (by decide) (by decide) ?_
  refine e_stI ?_
  refine e_ldA (lvg_ne rfl rfl (by decide)) ?_
  obtain ⟨b4, rb5, kb6, nb7⟩ := hT.1 x0 4 3 14 200 k0 rfl
  refine e_gR (SH_k sh k0) (SH_r sh rb5) ?_
  refine e_ldI lvg_self ?_
  refine e_aO (SH_k sh kb6) (SH_n sh nb7) (by omega) (by decide) (fun _ => ?_) (fun b8 rb9 => ?_)
  · refine e_stN ?_
    refine e_ldN lvg_self ?_
    refine e_nnN ?_
    refine y_nO2 (TY_SH hT sh) ir ⟨by decide, by decide⟩ (fun q17 S12 hT13 ir14 gl15 hi16 kq18 nq19 en0 eq0 => ?_)
    have sh20 : SH [4] S12 S12 := SH.rf
    have G21 := GL.tr (GL.of (V := VG) sh (by decide)) gl15
    have k22 := GL_k gl15 (SH_k sh k0) (by decide)
    refine e_duA ?_
    refine And.intro ⟨by decide, by decide⟩ (z_X2_init ?_)
    refine e_stA ?_
    refine e_ldA (lvg_ne (lvg_ne (lvg_ne rfl rfl (by decide)) rfl (by decide)) rfl (by decide)) ?_
    obtain ⟨b23, rb24, kb25, nb26⟩ := hT13.1 x0 4 3 14 200 k22 rfl
    refine e_gR (SH_k sh20 k22) (SH_r sh20 rb24) ?_
    refine e_ldI (lvg_ne (lvg_ne lvg_self rfl (by decide)) rfl (by decide)) ?_
    refine e_ldA lvg_self ?_
    refine y_sA142 (TY_SH hT13 sh20) ir14 (SH_k sh20 kb25) (SH_n sh20 nb26) (by omega) (SH_k sh20 kq18) (SH_n sh20 nq19) (fun S27 hT28 ir29 gl30 hi31 ep0 => ?_)
    have sh32 : SH [4] S27 S27 := SH.rf
    have G33 := GL.tr (GL.tr G21 (GL.of (V := VG) sh20 (by decide))) gl30
    have k34 := GL_k gl30 (SH_k sh20 k22) (by decide)
    have k35 := GL_k gl30 (SH_k sh20 kq18) (by decide)
    have n36 := GL_n gl30 (SH_k sh20 kq18) (by decide) (SH_n sh20 nq19)
    refine u_X3_addFrame_40 ?_
    unfold bX3_addFrame_40
    refine e_ldA (lvg_ne (lvg_ne (lvg_ne rfl rfl (by decide)) rfl (by decide)) rfl (by decide)) ?_
    refine e_duA ?_
    refine e_gV (v := nI nf) (SH_k sh32 k34) (by rw [hi31 x0 (by rw [SH_k sh20 k22]; decide)]; exact (by rw [hi16 x0 (by rw [SH_k sh k0]; decide)]; exact hfc)) ?_
    refine e_cN 1 rfl ?_
    refine e_add ?_
    refine y_tI (SH_k sh32 k34) sh32 ir29 (by decide) (by decide) (fun N e => by have e2 : some 201 = some N := e; cases e2; exact ⟨(nf + 1), by omega, rfl⟩) (fun S37 he38 sh39 ir40 => ?_)
    refine e_ldA lvg_self ?_
    exact e_rA (K q17 _ (GV_add en0 eq0 ep0 (GL.tr gl15 gl30) (fun z hz => (hi31 z (by rw [(gl15 z hz).1]; exact hz)).trans (hi16 z hz)) he38 sh39 (by decide) k34) (TY_SH hT28 sh39) ir40 (SH_k sh39 k35) (SH_n sh39 n36))
  · obtain ⟨kb10, nb11⟩ := hT.2.2 b4 14 3 ((n1 + nf) % 200) b8 kb6 rfl (SH_r' sh rb9)
    refine e_stA ?_
    refine e_ldA lvg_self ?_
    refine e_nnA ?_
    refine u_X3_addFrame_40 ?_
    unfold bX3_addFrame_40
    refine e_ldA (lvg_ne (lvg_ne rfl rfl (by decide)) rfl (by decide)) ?_
    refine e_duA ?_
    refine e_gV (v := nI nf) (SH_k sh k0) hfc ?_
    refine e_cN 1 rfl ?_
    refine e_add ?_
    refine y_tI (SH_k sh k0) sh ir (by decide) (by decide) (fun N e => by have e2 : some 201 = some N := e; cases e2; exact ⟨(nf + 1), by omega, rfl⟩) (fun S41 he42 sh43 ir44 => ?_)
    refine e_ldA lvg_self ?_
    exact e_rA (K b8 _ (GV.sh sh43 (by decide) (VC.w VC.rf he42 sh (SH_k sh k0) (by omega))) (TY_SH hT sh43) ir44 (SH_k sh43 kb10) (SH_n sh43 nb11))
theorem v_X7_give {Q : Option Value → MM → Prop} {X : String → MM → Prop} {S0 : MM} {x0 : Nat} {w1 : Int32} {w2 : Int32} {w3 : Int32} {w4 : Int32} (hT : TY S0) (ir : IR S0) (k0 : sK S0 x0 = 8) (K : ∀ r S', GV S0 S' → TY S' → IR S' → Q (some (.int r)) S') (XeI : ∀ S', GV S0 S' → TY S' → IR S' → X eI S') : wX7_give [.ref x0, .int w1, .int w2, .int w3, .int w4] S0 Q X := by
  have sh : SH [2, 3, 4, 8] S0 S0 := SH.rf
  have vsh : VC S0 S0 := VC.rf
  refine Exists.intro 40 (u_X7_give_0 ?_)
  unfold bX7_give_0
  refine e_ldI rfl ?_
  refine And.intro ⟨by decide, by decide⟩ (z_isEnd ?_ (fun j1 hj2 e3 => ?_))
  · refine e_ifN (by omega) (fun h4 => ?_) (fun h4 => ?_)
    · refine u_X7_give_18 ?_
      unfold bX7_give_18
      exact And.intro ⟨by decide, by decide⟩ (XeI _ (GV.sh sh (by decide) vsh) (TY_SH hT sh) ir)
    · exact absurd rfl h4
  · subst e3
    refine e_ifN (by omega) (fun h5 => ?_) (fun h5 => ?_)
    · exact absurd h5 (by decide)
    · refine e_ldI rfl ?_
      refine e_ifz ?_ ?_
      · refine u_X7_give_18 ?_
        unfold bX7_give_18
        exact And.intro ⟨by decide, by decide⟩ (XeI _ (GV.sh sh (by decide) vsh) (TY_SH hT sh) ir)
      · refine e_ldI rfl ?_
        refine e_cN 255 rfl ?_
        refine e_ifc ?_ ?_
        · refine u_X7_give_28 ?_
          unfold bX7_give_28
          refine e_ldA rfl ?_
          obtain ⟨b6, rb7, kb8, nb9⟩ := hT.1 x0 8 0 13 2 k0 rfl
          refine e_gR (SH_k sh k0) (SH_r sh rb7) ?_
          refine e_ldI rfl ?_
          obtain ⟨b10, rb11, kb12, nb13⟩ := hT.2.1 b6 13 2 2 j1 kb8 nb9 rfl (by omega)
          refine e_aR (SH_k sh kb8) (SH_n sh nb9) (by omega) (by decide) (SH_r sh rb11) ?_
          refine e_ldI rfl ?_
          refine e_ldI rfl ?_
          refine And.intro (SH_k sh kb12) (And.intro ⟨by decide, by decide⟩ (z_X1_giverOf (TY_SH hT sh) ir (SH_k sh kb12) (fun S14 s15 ir16 => ?_) (fun b18 S14 s15 ir16 kb19 => ?_)))
          · have sh17 := SH.tr sh s15 (by decide)
            have vsh17 := VC.sh vsh s15
            refine e_stN ?_
            refine e_ldN lvg_self ?_
            refine e_nnN ?_
            refine u_X7_give_57 ?_
            unfold bX7_give_57
            refine e_cI ?_
            exact e_rI (K _ _ (GV.sh sh17 (by decide) vsh17) (TY_SH hT sh17) ir16)
          · have sh17 := SH.tr sh s15 (by decide)
            have vsh17 := VC.sh vsh s15
            refine e_stA ?_
            refine e_ldA lvg_self ?_
            refine e_nnA ?_
            refine e_ldA lvg_self ?_
            refine e_gI (SH_k sh17 (SH_k' sh kb19)) (fun v20 hv21 => ?_)
            refine And.intro ⟨by decide, by decide⟩ (z_isCable ?_ (fun j22 hj23 e24 => ?_))
            · refine e_ifN (by omega) (fun h25 => ?_) (fun h25 => ?_)
              · refine u_X7_give_57 ?_
                unfold bX7_give_57
                refine e_cI ?_
                exact e_rI (K _ _ (GV.sh sh17 (by decide) vsh17) (TY_SH hT sh17) ir16)
              · exact absurd rfl h25
            · subst e24
              refine e_ifN (by omega) (fun h26 => ?_) (fun h26 => ?_)
              · exact absurd h26 (by decide)
              · refine u_X7_give_59 ?_
                unfold bX7_give_59
                refine e_ldA (lvg_ne rfl rfl (by decide)) ?_
                obtain ⟨b27, rb28, kb29, nb30⟩ := hT.1 x0 8 1 12 8 k0 rfl
                refine e_gR (SH_k sh17 k0) (SH_r sh17 rb28) ?_
                refine e_ldA lvg_self ?_
                refine e_gV (v := nI j22) (SH_k sh17 (SH_k' sh kb19)) hv21 ?_
                obtain ⟨b31, rb32, kb33, nb34⟩ := hT.2.1 b27 12 8 1 j22 kb29 nb30 rfl (by omega)
                refine e_aR (SH_k sh17 kb29) (SH_n sh17 nb30) (by omega) (by decide) (SH_r sh17 rb32) ?_
                refine e_stA ?_
                refine e_ldA lvg_self ?_
                obtain ⟨b35, rb36, kb37, nb38⟩ := hT.1 b31 1 1 15 2 kb33 rfl
                refine e_gR (SH_k sh17 kb33) (SH_r sh17 rb36) ?_
                refine e_ldI (lvg_ne (lvg_ne rfl rfl (by decide)) rfl (by decide)) ?_
                obtain ⟨b39, rb40, kb41, nb42⟩ := hT.2.1 b35 15 2 4 j1 kb37 nb38 rfl (by omega)
                refine e_aR (SH_k sh17 kb37) (SH_n sh17 nb38) (by omega) (by decide) (SH_r sh17 rb40) ?_
                refine e_stA ?_
                refine e_ldA lvg_self ?_
                refine And.intro (SH_k sh17 kb41) (And.intro ⟨by decide, by decide⟩ (z_X3_isFull2 ir16 (SH_k sh17 kb41) (fun n43 hn44 vn45 => ?_) ?_))
                · refine e_ifN (by omega) (fun h46 => ?_) (fun h46 => ?_)
                  · refine u_X7_give_90 ?_
                    unfold bX7_give_90
                    refine e_ldA lvg_self ?_
                    refine And.intro (SH_k sh17 kb41) (And.intro ⟨by decide, by decide⟩ (v_X3_addFrame (TY_SH hT sh17) ir16 (SH_k sh17 kb41) vn45 (by omega) (fun b52 S47 gl50 hT48 ir49 kq53 nq54 => ?_)))
                    have sh55 : SH [2, 3, 4, 8] S47 S47 := SH.rf
                    have vsh55 : VC S47 S47 := VC.rf
                    have G56 := GV.tr (GV.sh sh17 (by decide) vsh17) gl50
                    have k57 := GL_k gl50.1 (SH_k sh17 k0) (by decide)
                    have k58 := GL_k gl50.1 (SH_k sh17 (SH_k' sh kb19)) (by decide)
                    have k59 := GL_k gl50.1 (SH_k sh17 kb33) (by decide)
                    have n60 := GL_n gl50.1 (SH_k sh17 kb33) (by decide) (SH_n sh17 nb34)
                    have k61 := GL_k gl50.1 (SH_k sh17 kb41) (by decide)
                    have n62 := GL_n gl50.1 (SH_k sh17 kb41) (by decide) (SH_n sh17 nb42)
                    refine e_stA ?_
                    refine e_ldA lvg_self ?_
                    refine e_ldI (lvg_ne (lvg_ne (lvg_ne (lvg_ne rfl rfl (by decide)) rfl (by decide)) rfl (by decide)) rfl (by decide)) ?_
                    refine y_tI (SH_k sh55 kq53) sh55 ir49 (by decide) (by decide) (fun N e => nomatch (show (none : Option Nat) = some N from e)) (fun S63 he64 sh65 ir66 => ?_)
                    have vsh65 := VC.w vsh55 he64 sh55 (SH_k sh55 kq53) (by omega)
                    refine e_ldA lvg_self ?_
                    refine e_ldI (lvg_ne (lvg_ne (lvg_ne (lvg_ne rfl rfl (by decide)) rfl (by decide)) rfl (by decide)) rfl (by decide)) ?_
                    refine y_tI (SH_k sh65 kq53) sh65 ir66 (by decide) (by decide) (fun N e => nomatch (show (none : Option Nat) = some N from e)) (fun S67 he68 sh69 ir70 => ?_)
                    have vsh69 := VC.w vsh65 he68 sh65 (SH_k sh65 kq53) (by omega)
                    refine e_ldA lvg_self ?_
                    refine e_ldI (lvg_ne (lvg_ne (lvg_ne (lvg_ne rfl rfl (by decide)) rfl (by decide)) rfl (by decide)) rfl (by decide)) ?_
                    refine y_tI (SH_k sh69 kq53) sh69 ir70 (by decide) (by decide) (fun N e => nomatch (show (none : Option Nat) = some N from e)) (fun S71 he72 sh73 ir74 => ?_)
                    have vsh73 := VC.w vsh69 he72 sh69 (SH_k sh69 kq53) (by omega)
                    refine e_ldA lvg_self ?_
                    refine e_ldA (lvg_ne (lvg_ne (lvg_ne (lvg_ne rfl rfl (by decide)) rfl (by decide)) rfl (by decide)) rfl (by decide)) ?_
                    refine e_gI (SH_k sh73 k57) (fun v75 hv76 => ?_)
                    refine e_ldA (lvg_ne (lvg_ne lvg_self rfl (by decide)) rfl (by decide)) ?_
                    refine e_gI (SH_k sh73 k59) (fun v77 hv78 => ?_)
                    refine e_bopU (fun r79 => ?_)
                    refine y_tI (SH_k sh73 kq53) sh73 ir74 (by decide) (by decide) (fun N e => nomatch (show (none : Option Nat) = some N from e)) (fun S80 he81 sh82 ir83 => ?_)
                    have vsh82 := VC.w vsh73 he81 sh73 (SH_k sh73 kq53) (by omega)
                    refine e_ldA lvg_self ?_
                    refine e_ldA (lvg_ne (lvg_ne (lvg_ne (lvg_ne rfl rfl (by decide)) rfl (by decide)) rfl (by decide)) rfl (by decide)) ?_
                    obtain ⟨b84, rb85, kb86, nb87⟩ := hT48.1 x0 8 0 13 2 k57 rfl
                    refine e_gR (SH_k sh82 k57) (SH_r sh82 rb85) ?_
                    refine e_ldI (lvg_ne (lvg_ne (lvg_ne (lvg_ne rfl rfl (by decide)) rfl (by decide)) rfl (by decide)) rfl (by decide)) ?_
                    obtain ⟨b88, rb89, kb90, nb91⟩ := hT48.2.1 b84 13 2 2 j1 kb86 nb87 rfl (by omega)
                    refine e_aR (SH_k sh82 kb86) (SH_n sh82 nb87) (by omega) (by decide) (SH_r sh82 rb89) ?_
                    refine e_gI (SH_k sh82 kb90) (fun v92 hv93 => ?_)
                    refine y_tI (SH_k sh82 kq53) sh82 ir83 (by decide) (by decide) (fun N e => nomatch (show (none : Option Nat) = some N from e)) (fun S94 he95 sh96 ir97 => ?_)
                    have vsh96 := VC.w vsh82 he95 sh82 (SH_k sh82 kq53) (by omega)
                    refine e_ldA lvg_self ?_
                    refine e_ldA (lvg_ne (lvg_ne (lvg_ne (lvg_ne rfl rfl (by decide)) rfl (by decide)) rfl (by decide)) rfl (by decide)) ?_
                    refine e_gR (SH_k sh96 k57) (SH_r sh96 rb85) ?_
                    refine e_ldI (lvg_ne (lvg_ne (lvg_ne (lvg_ne rfl rfl (by decide)) rfl (by decide)) rfl (by decide)) rfl (by decide)) ?_
                    refine e_aR (SH_k sh96 kb86) (SH_n sh96 nb87) (by omega) (by decide) (SH_r sh96 rb89) ?_
                    refine e_duA ?_
                    refine e_gI (SH_k sh96 kb90) (fun v98 hv99 => ?_)
                    refine e_dux ?_
                    refine e_cN 1 rfl ?_
                    refine e_bopU (fun r100 => ?_)
                    refine y_tI (SH_k sh96 kb90) sh96 ir97 (by decide) (by decide) (fun N e => nomatch (show (none : Option Nat) = some N from e)) (fun S101 he102 sh103 ir104 => ?_)
                    have vsh103 := VC.w vsh96 he102 sh96 (SH_k sh96 kb90) (by omega)
                    refine y_tI (SH_k sh103 kq53) sh103 ir104 (by decide) (by decide) (fun N e => nomatch (show (none : Option Nat) = some N from e)) (fun S105 he106 sh107 ir108 => ?_)
                    have vsh107 := VC.w vsh103 he106 sh103 (SH_k sh103 kq53) (by omega)
                    refine e_ldA lvg_self ?_
                    refine e_cN 0 rfl ?_
                    refine y_tZ (SH_k sh107 kq53) (by omega) sh107 ir108 (by decide) (by decide) (fun N e => nomatch (show (none : Option Nat) = some N from e)) (fun S109 he110 sh111 ir112 => ?_)
                    have vsh111 := VC.w vsh107 he110 sh107 (SH_k sh107 kq53) (by omega)
                    refine e_ldA (lvg_ne (lvg_ne (lvg_ne lvg_self rfl (by decide)) rfl (by decide)) rfl (by decide)) ?_
                    obtain ⟨b113, rb114, kb115, nb116⟩ := hT48.1 b18 6 1 7 0 k58 rfl
                    refine e_gR (SH_k sh111 k58) (SH_r sh111 rb114) ?_
                    refine e_cN 16 rfl ?_
                    refine And.intro (SH_k sh111 kb115) (And.intro ⟨by decide, by decide⟩ (z_X6_has (TY_SH hT48 sh111) ir112 (SH_k sh111 kb115) (fun n121 S117 s118 ir119 hn122 => ?_)))
                    have sh120 := SH.tr sh111 s118 (by decide)
                    have vsh120 := VC.sh vsh111 s118
                    refine u_X7_give_182 ?_
                    unfold bX7_give_182
                    refine e_ifN (by omega) (fun h123 => ?_) (fun h123 => ?_)
                    · refine e_ldA (lvg_ne (lvg_ne (lvg_ne (lvg_ne rfl rfl (by decide)) rfl (by decide)) rfl (by decide)) rfl (by decide)) ?_
                      refine e_duA ?_
                      refine e_gI (SH_k sh120 k57) (fun v124 hv125 => ?_)
                      refine e_cN 1 rfl ?_
                      refine e_bopU (fun r126 => ?_)
                      refine y_tI (SH_k sh120 k57) sh120 ir119 (by decide) (by decide) (fun N e => nomatch (show (none : Option Nat) = some N from e)) (fun S127 he128 sh129 ir130 => ?_)
                      have vsh129 := VC.w vsh120 he128 sh120 (SH_k sh120 k57) (by omega)
                      refine u_X7_give_195 ?_
                      unfold bX7_give_195
                      refine e_ldA (lvg_ne (lvg_ne (lvg_ne lvg_self rfl (by decide)) rfl (by decide)) rfl (by decide)) ?_
                      obtain ⟨b131, rb132, kb133, nb134⟩ := hT48.1 b18 6 0 7 0 k58 rfl
                      refine e_gR (SH_k sh129 k58) (SH_r sh129 rb132) ?_
                      refine e_gI (SH_k sh129 kb133) (fun v135 hv136 => ?_)
                      exact e_rI (K _ _ (GV.tr G56 (GV.sh sh129 (by decide) vsh129)) (TY_SH hT48 sh129) ir130)
                    · refine u_X7_give_195 ?_
                      unfold bX7_give_195
                      refine e_ldA (lvg_ne (lvg_ne (lvg_ne lvg_self rfl (by decide)) rfl (by decide)) rfl (by decide)) ?_
                      obtain ⟨b137, rb138, kb139, nb140⟩ := hT48.1 b18 6 0 7 0 k58 rfl
                      refine e_gR (SH_k sh120 k58) (SH_r sh120 rb138) ?_
                      refine e_gI (SH_k sh120 kb139) (fun v141 hv142 => ?_)
                      exact e_rI (K _ _ (GV.tr G56 (GV.sh sh120 (by decide) vsh120)) (TY_SH hT48 sh120) ir119)
                  · exact absurd rfl h46
                · refine e_ifN (by omega) (fun h143 => ?_) (fun h143 => ?_)
                  · exact absurd h143 (by decide)
                  · refine e_cI ?_
                    exact e_rI (K _ _ (GV.sh sh17 (by decide) vsh17) (TY_SH hT sh17) ir16)
        · refine u_X7_give_18 ?_
          unfold bX7_give_18
          exact And.intro ⟨by decide, by decide⟩ (XeI _ (GV.sh sh (by decide) vsh) (TY_SH hT sh) ir)

