/-! SIMULATION 64: give of the class: the frame that is added -/
/-- a lane has one frame more: an old cell of the ring, or a new one -/
def AF (S S' : MM) (l a nf : Nat) : Prop := ∃ fa f, sR S l 3 = some fa ∧ f < 200 ∧ sI S l 4 = nI f ∧ ((sR S fa ((f + nf) % 200) = some a ∧ S' = pI S l 5 (nI (nf + 1))) ∨ (sK S a = 0 ∧ sR S fa ((f + nf) % 200) = none ∧ S' = pI (pR (nw S a 3 0) fa ((f + nf) % 200) (some a)) l 5 (nI (nf + 1))))
theorem w_X3_addFrame {Q : Option Value → MM → Prop} {S0 : MM} {x0 : Nat} (hT : TY S0) (ir : IR S0) (k0 : sK S0 x0 = 4) {nf : Nat} (hfc : sI S0 x0 5 = nI nf) (hnf : nf < 200) (K : ∀ b S', GV S0 S' → TY S' → IR S' → sK S' b = 3 → sN S' b = 0 → AF S0 S' x0 b nf → Q (some (.ref b)) S') : wX3_addFrame [.ref x0] S0 Q := by
  have sh : SH [4] S0 S0 := SH.rf
  refine Exists.intro 40 (u_X3_addFrame_0 ?_)
  unfold bX3_addFrame_0
  refine e_ldA rfl ?_
  obtain ⟨n1, hn2, vn3⟩ := ir x0 4 4 200 (SH_k sh k0) rfl
  refine e_gV (SH_k sh k0) vn3 ?_
  refine e_ldA rfl ?_
  refine e_gV (v := nI nf) (SH_k sh k0) hfc ?_
  refine e_add ?_
  refine e_cN 200 rfl ?_
  refine e_rem (by omega) (by decide) (by decide) ?_
  refine e_stI ?_
  refine e_ldA (lvg_ne rfl rfl (by decide)) ?_
  obtain ⟨b4, rb5, kb6, nb7⟩ := hT.1 x0 4 3 14 200 k0 rfl
  refine e_gR (SH_k sh k0) (SH_r sh rb5) ?_
  refine e_ldI lvg_self ?_
  refine e_aO (SH_k sh kb6) (SH_n sh nb7) (by omega) (by decide) (fun hno => ?_) (fun b8 rb9 => ?_)
  · refine e_stN ?_
    refine e_ldN lvg_self ?_
    refine e_nnN ?_
    refine y_nO2 (TY_SH hT sh) ir ⟨by decide, by decide⟩ (fun q17 S12 hT13 ir14 gl15 hi16 kq18 nq19 en0 eq0 => ?_)
    have sh20 : SH [4] S12 S12 := SH.rf
    have G21 := GL.tr (GL.of (V := VG) sh (by decide)) gl15
    have k22 := GL_k gl15 (SH_k sh k0) (by decide)
    refine e_duA ?_
    refine And.intro ⟨by decide, by decide⟩ (z_X2_init ?_)
    refine e_stA ?_
    refine e_ldA (lvg_ne (lvg_ne (lvg_ne rfl rfl (by decide)) rfl (by decide)) rfl (by decide)) ?_
    obtain ⟨b23, rb24, kb25, nb26⟩ := hT13.1 x0 4 3 14 200 k22 rfl
    refine e_gR (SH_k sh20 k22) (SH_r sh20 rb24) ?_
    refine e_ldI (lvg_ne (lvg_ne lvg_self rfl (by decide)) rfl (by decide)) ?_
    refine e_ldA lvg_self ?_
    refine y_sA142 (TY_SH hT13 sh20) ir14 (SH_k sh20 kb25) (SH_n sh20 nb26) (by omega) (SH_k sh20 kq18) (SH_n sh20 nq19) (fun S27 hT28 ir29 gl30 hi31 ep0 => ?_)
    have sh32 : SH [4] S27 S27 := SH.rf
    have G33 := GL.tr (GL.tr G21 (GL.of (V := VG) sh20 (by decide))) gl30
    have k34 := GL_k gl30 (SH_k sh20 k22) (by decide)
    have k35 := GL_k gl30 (SH_k sh20 kq18) (by decide)
    have n36 := GL_n gl30 (SH_k sh20 kq18) (by decide) (SH_n sh20 nq19)
    refine u_X3_addFrame_40 ?_
    unfold bX3_addFrame_40
    refine e_ldA (lvg_ne (lvg_ne (lvg_ne rfl rfl (by decide)) rfl (by decide)) rfl (by decide)) ?_
    refine e_duA ?_
    refine e_gV (v := nI nf) (SH_k sh32 k34) (by rw [hi31 x0 (by rw [SH_k sh20 k22]; decide)]; exact (by rw [hi16 x0 (by rw [SH_k sh k0]; decide)]; exact hfc)) ?_
    refine e_cN 1 rfl ?_
    refine e_add ?_
    refine y_tI (SH_k sh32 k34) sh32 ir29 (by decide) (by decide) (fun N e => by have e2 : some 201 = some N := e; cases e2; exact ⟨(nf + 1), by omega, rfl⟩) (fun S37 he38 sh39 ir40 => ?_)
    refine e_ldA lvg_self ?_
    exact e_rA (K q17 _ (GV_add en0 eq0 ep0 (GL.tr gl15 gl30) (fun z hz => (hi31 z (by rw [(gl15 z hz).1]; exact hz)).trans (hi16 z hz)) he38 sh39 (by decide) k34) (TY_SH hT28 sh39) ir40 (SH_k sh39 k35) (SH_n sh39 n36) ⟨b4, n1, rb5, hn2, vn3, Or.inr ⟨eq0, hno, by
      have ebb : b23 = b4 := by
        have q : sR S12 x0 3 = sR S0 x0 3 := by rw [en0, sR_nw, cl2_row (fun y => by rw [y] at k0; rw [k0] at eq0; cases eq0)]
        rw [rb24, rb5] at q
        exact Option.some.inj q
      rw [he38, ep0, en0, ebb]⟩⟩)
  · obtain ⟨kb10, nb11⟩ := hT.2.2 b4 14 3 ((n1 + nf) % 200) b8 kb6 rfl (SH_r' sh rb9)
    refine e_stA ?_
    refine e_ldA lvg_self ?_
    refine e_nnA ?_
    refine u_X3_addFrame_40 ?_
    unfold bX3_addFrame_40
    refine e_ldA (lvg_ne (lvg_ne rfl rfl (by decide)) rfl (by decide)) ?_
    refine e_duA ?_
    refine e_gV (v := nI nf) (SH_k sh k0) hfc ?_
    refine e_cN 1 rfl ?_
    refine e_add ?_
    refine y_tI (SH_k sh k0) sh ir (by decide) (by decide) (fun N e => by have e2 : some 201 = some N := e; cases e2; exact ⟨(nf + 1), by omega, rfl⟩) (fun S41 he42 sh43 ir44 => ?_)
    refine e_ldA lvg_self ?_
    exact e_rA (K b8 _ (GV.sh sh43 (by decide) (VC.w VC.rf he42 sh (SH_k sh k0) (by omega))) (TY_SH hT sh43) ir44 (SH_k sh43 kb10) (SH_n sh43 nb11) ⟨b4, n1, rb5, hn2, vn3, Or.inl ⟨rb9, he42⟩⟩)
