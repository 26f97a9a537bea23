theorem u_X7_plug_90 {Q : Option Value → MM → Prop} {X : String → MM → Prop} {n : Nat} {lv : Lv} {st : List Value} {S : MM} {c z : Nat} (h : bX7_plug_90 Q X (wpn (kX7_plug Q X) n) lv st S c z) : wpn (kX7_plug Q X) (n + 1) 90 lv st S c z := h
theorem q_plug90 {Q : Option Value → MM → Prop} {X : String → MM → Prop} {n x j i k : Nat} {v : Int32} {lv : Lv} {S : MM} (hT : TY S) (ir : IR S) (kx : sK S x = 8) (hj : j < 8) (hi : i < 8) (hk : k < 8) (g0 : lvg lv 0 = some (.ref x)) (g1 : lvg lv 1 = some (.int (nI j))) (g2 : lvg lv 2 = some (.int (nI i))) (g3 : lvg lv 3 = some (.int (nI k))) (g4 : lvg lv 4 = some (.int v)) (K : ∀ S', GL VP S S' → TY S' → IR S' → Q none S') : wpn (kX7_plug Q X) (n + 1) 90 lv [] S 0 0 := by
  obtain ⟨aE, rE, kE, nE⟩ := hT.1 x 8 0 13 2 kx rfl
  obtain ⟨aC, rC, kC, nC⟩ := hT.1 x 8 1 12 8 kx rfl
  obtain ⟨a, ra, ka, na⟩ := hT.2.1 aC 12 8 1 j kC nC rfl hj
  obtain ⟨pp, rp, kp, np⟩ := hT.1 a 1 0 17 2 ka rfl
  obtain ⟨e0, r0, k0, n0⟩ := hT.2.1 aE 13 2 2 0 kE nE rfl (by decide)
  obtain ⟨e1, r1, k1, n1⟩ := hT.2.1 aE 13 2 2 1 kE nE rfl (by decide)
  obtain ⟨A0, q0, l0, m0⟩ := hT.1 e0 2 0 17 8 k0 rfl
  obtain ⟨A1, q1, l1, m1⟩ := hT.1 e1 2 0 17 8 k1 rfl
  refine u_X7_plug_90 ?_
  unfold bX7_plug_90
  refine e_ldA g0 (e_ldA g0 (e_gR kx rC (e_ldI g1 (e_aR kC nC hj (by decide) ra (And.intro kx (And.intro ⟨by decide, by decide⟩ (z_X7_takeOut hT ir kx ka (fun S1 gl1 hT1 ir1 rr kk nn => ?_))))))))
  have rr' : ∀ b kd, sK S b = kd → kd ≠ 17 → sR S1 b = sR S b := fun b kd hb hn => rr b (by rw [hb]; exact hn)
  obtain ⟨p0, s0, t0, w0⟩ := hT1.2.1 A0 17 8 6 i (by rw [kk]; exact l0) (by rw [nn]; exact m0) rfl hi
  have kp1 : sK S1 pp = 17 := by rw [kk]; exact kp
  have np1 : sN S1 pp = 2 := by rw [nn]; exact np
  refine e_ldA g0 (e_ldI g1 (e_cN 0 rfl (e_ldA g0 (e_gR (by rw [kk]; exact kx) (by rw [rr' x 8 kx (by decide)]; exact rE) (e_cN 0 rfl (e_aR (N := 2) (by rw [kk]; exact kE) (by rw [nn]; exact nE) (by decide) (by decide) (by rw [rr' aE 13 kE (by decide)]; exact r0) (e_gR (by rw [kk]; exact k0) (by rw [rr' e0 2 k0 (by decide)]; exact q0) (e_ldI g2 (e_aR (N := 8) (by rw [kk]; exact l0) (by rw [nn]; exact m0) hi (by decide) s0 (And.intro (by rw [kk]; exact kx) (And.intro ⟨by decide, by decide⟩ (z_X7_putIn (e := 0) (by rw [kk]; exact kx) (by rw [rr' x 8 kx (by decide)]; exact rC) (by rw [kk]; exact kC) (by rw [nn]; exact nC) hj (by rw [rr' aC 12 kC (by decide)]; exact ra) (by rw [kk]; exact ka) (by rw [rr' a 1 ka (by decide)]; exact rp) kp1 np1 (by decide) t0 ?_))))))))))))
  have hT2 : TY (pI (pR S1 pp 0 (some p0)) p0 2 (nI j)) := TY_p17 hT1 kp1 np1 (fun b hb => by cases hb; exact ⟨t0, w0⟩)
  have ir2 : IR (pI (pR S1 pp 0 (some p0)) p0 2 (nI j)) := IR_w (S := pR S1 pp 0 (some p0)) ir1 t0 (fun N e => nomatch (show (none : Option Nat) = some N from e))
  have gl2 : GL VP S (pI (pR S1 pp 0 (some p0)) p0 2 (nI j)) := (gl1.tr (GL_p17 kp1 np1)).tr (GL_pI (S := pR S1 pp 0 (some p0)) t0 (by decide) rfl (by decide))
  have kk2 : sK (pI (pR S1 pp 0 (some p0)) p0 2 (nI j)) = sK S := kk
  have nn2 : sN (pI (pR S1 pp 0 (some p0)) p0 2 (nI j)) = sN S := nn
  have rr2 : ∀ b kd, sK S b = kd → kd ≠ 17 → sR (pI (pR S1 pp 0 (some p0)) p0 2 (nI j)) b = sR S b := fun b kd hb hn => by
    rw [sR_pI, sR_pR, up2_row (fun z => hn (by rw [← hb, z]; exact kp))]
    exact rr' b kd hb hn
  have z2 : sR (pI (pR S1 pp 0 (some p0)) p0 2 (nI j)) pp 0 = some p0 := by rw [sR_pI, sR_pR, up2_self]
  generalize pI (pR S1 pp 0 (some p0)) p0 2 (nI j) = S2 at hT2 ir2 gl2 kk2 nn2 rr2 z2
  obtain ⟨p1, s1, t1, w1⟩ := hT2.2.1 A1 17 8 6 k (by rw [kk2]; exact l1) (by rw [nn2]; exact m1) rfl hk
  have kp2 : sK S2 pp = 17 := by rw [kk2]; exact kp
  have np2 : sN S2 pp = 2 := by rw [nn2]; exact np
  refine e_ldA g0 (e_ldI g1 (e_cN 1 rfl (e_ldA g0 (e_gR (by rw [kk2]; exact kx) (by rw [rr2 x 8 kx (by decide)]; exact rE) (e_cN 1 rfl (e_aR (N := 2) (by rw [kk2]; exact kE) (by rw [nn2]; exact nE) (by decide) (by decide) (by rw [rr2 aE 13 kE (by decide)]; exact r1) (e_gR (by rw [kk2]; exact k1) (by rw [rr2 e1 2 k1 (by decide)]; exact q1) (e_ldI g3 (e_aR (N := 8) (by rw [kk2]; exact l1) (by rw [nn2]; exact m1) hk (by decide) s1 (And.intro (by rw [kk2]; exact kx) (And.intro ⟨by decide, by decide⟩ (z_X7_putIn (e := 1) (by rw [kk2]; exact kx) (by rw [rr2 x 8 kx (by decide)]; exact rC) (by rw [kk2]; exact kC) (by rw [nn2]; exact nC) hj (by rw [rr2 aC 12 kC (by decide)]; exact ra) (by rw [kk2]; exact ka) (by rw [rr2 a 1 ka (by decide)]; exact rp) kp2 np2 (by decide) t1 ?_))))))))))))
  have hT3 : TY (pI (pR S2 pp 1 (some p1)) p1 2 (nI j)) := TY_p17 hT2 kp2 np2 (fun b hb => by cases hb; exact ⟨t1, w1⟩)
  have ir3 : IR (pI (pR S2 pp 1 (some p1)) p1 2 (nI j)) := IR_w (S := pR S2 pp 1 (some p1)) ir2 t1 (fun N e => nomatch (show (none : Option Nat) = some N from e))
  have gl3 : GL VP S (pI (pR S2 pp 1 (some p1)) p1 2 (nI j)) := (gl2.tr (GL_p17 kp2 np2)).tr (GL_pI (S := pR S2 pp 1 (some p1)) t1 (by decide) rfl (by decide))
  have kk3 : sK (pI (pR S2 pp 1 (some p1)) p1 2 (nI j)) = sK S := kk2
  have nn3 : sN (pI (pR S2 pp 1 (some p1)) p1 2 (nI j)) = sN S := nn2
  have rr3 : ∀ b kd, sK S b = kd → kd ≠ 17 → sR (pI (pR S2 pp 1 (some p1)) p1 2 (nI j)) b = sR S b := fun b kd hb hn => by
    rw [sR_pI, sR_pR, up2_row (fun z => hn (by rw [← hb, z]; exact kp))]
    exact rr2 b kd hb hn
  have y0 : sR (pI (pR S2 pp 1 (some p1)) p1 2 (nI j)) pp 0 = some p0 := by rw [sR_pI, sR_pR, up2_ne (by simp)]; exact z2
  have y1 : sR (pI (pR S2 pp 1 (some p1)) p1 2 (nI j)) pp 1 = some p1 := by rw [sR_pI, sR_pR, up2_self]
  generalize pI (pR S2 pp 1 (some p1)) p1 2 (nI j) = S3 at hT3 ir3 gl3 kk3 nn3 rr3 y0 y1
  have kx3 : sK S3 x = 8 := by rw [kk3]; exact kx
  have ka3 : sK S3 a = 1 := by rw [kk3]; exact ka
  have rC3 : sR S3 x 1 = some aC := by rw [rr3 x 8 kx (by decide)]; exact rC
  have ra3 : sR S3 aC j = some a := by rw [rr3 aC 12 kC (by decide)]; exact ra
  have kC3 : sK S3 aC = 12 := by rw [kk3]; exact kC
  have nC3 : sN S3 aC = 8 := by rw [nn3]; exact nC
  refine e_ldA g0 (e_gR kx3 rC3 (e_ldI g1 (e_aR kC3 nC3 hj (by decide) ra3 (e_ldI g4 (e_tI ka3 ?_)))))
  have hT4 : TY (pI S3 a 2 v) := hT3
  have ir4 : IR (pI S3 a 2 v) := IR_w ir3 ka3 (fun N e => nomatch (show (none : Option Nat) = some N from e))
  have gl4 : GL VP S (pI S3 a 2 v) := gl3.tr (GL_pI ka3 (by decide) rfl (by decide))
  have pl4 : PL (pI S3 a 2 v) a := fun qq t hq ht => by
    have hq' : sR S3 a 0 = some qq := hq
    rw [rr3 a 1 ka (by decide), rp] at hq'
    cases hq'
    have : t = 0 ∨ t = 1 := by omega
    rcases this with rfl | rfl
    · exact ⟨p0, y0⟩
    · exact ⟨p1, y1⟩
  refine e_ldA g0 (e_ldA g0 (e_gR (S := pI S3 a 2 v) kx3 rC3 (e_ldI g1 (e_aR (S := pI S3 a 2 v) kC3 nC3 hj (by decide) ra3 (And.intro kx3 (And.intro ⟨by decide, by decide⟩ (z_X7_switchOn hT4 ir4 kx3 ka3 pl4 (fun S5 s5 ir5 => ?_))))))))
  exact e_ldA g0 (And.intro (SH_k s5 kx3) (And.intro ⟨by decide, by decide⟩ (z_X7_noteChange (TY_SH hT4 s5) ir5 (SH_k s5 kx3) (fun S6 s6 ir6 => e_rV (K S6 ((gl4.tr (GL.of s5 (by decide))).tr (GL.of s6 (by decide))) (TY_SH (TY_SH hT4 s5) s6) ir6)))))
theorem u_X7_plug_0 {Q : Option Value → MM → Prop} {X : String → MM → Prop} {n : Nat} {lv : Lv} {st : List Value} {S : MM} {c z : Nat} (h : bX7_plug_0 Q X (wpn (kX7_plug Q X) n) lv st S c z) : wpn (kX7_plug Q X) (n + 1) 0 lv st S c z := h
theorem u_X7_plug_34 {Q : Option Value → MM → Prop} {X : String → MM → Prop} {n : Nat} {lv : Lv} {st : List Value} {S : MM} {c z : Nat} (h : bX7_plug_34 Q X (wpn (kX7_plug Q X) n) lv st S c z) : wpn (kX7_plug Q X) (n + 1) 34 lv st S c z := h
theorem u_X7_plug_44 {Q : Option Value → MM → Prop} {X : String → MM → Prop} {n : Nat} {lv : Lv} {st : List Value} {S : MM} {c z : Nat} (h : bX7_plug_44 Q X (wpn (kX7_plug Q X) n) lv st S c z) : wpn (kX7_plug Q X) (n + 1) 44 lv st S c z := h
theorem u_X7_plug_80 {Q : Option Value → MM → Prop} {X : String → MM → Prop} {n : Nat} {lv : Lv} {st : List Value} {S : MM} {c z : Nat} (h : bX7_plug_80 Q X (wpn (kX7_plug Q X) n) lv st S c z) : wpn (kX7_plug Q X) (n + 1) 80 lv st S c z := h
theorem z_X7_plug {Q : Option Value → MM → Prop} {X : String → MM → Prop} {S0 : MM} {x0 : Nat} {w1 : Int32} {w2 : Int32} {w3 : Int32} {w4 : Int32} (hT : TY S0) (ir : IR S0) (k0 : sK S0 x0 = 8) (K : ∀ S', GL VP S0 S' → TY S' → IR S' → Q none S') (XeI : ∀ S', GL VP S0 S' → TY S' → IR S' → X eI S') (XeS : ∀ S', GL VP S0 S' → TY S' → IR S' → X eS S') : wX7_plug [.ref x0, .int w1, .int w2, .int w3, .int w4] S0 Q X := by
  have sh : SH [] S0 S0 := SH.rf
  refine Exists.intro 40 (u_X7_plug_0 ?_)
  unfold bX7_plug_0
  refine e_ldI rfl ?_
  refine And.intro ⟨by decide, by decide⟩ (z_isCable ?_ (fun j1 hj2 e3 => ?_))
  · refine e_ifN (by omega) (fun h4 => ?_) (fun h4 => ?_)
    · refine u_X7_plug_34 ?_
      unfold bX7_plug_34
      exact And.intro ⟨by decide, by decide⟩ (XeI _ (GL.of (V := VP) sh (by decide)) (TY_SH hT sh) ir)
    · exact absurd rfl h4
  · subst e3
    refine e_ifN (by omega) (fun h5 => ?_) (fun h5 => ?_)
    · exact absurd h5 (by decide)
    · refine e_ldI rfl ?_
      refine And.intro ⟨by decide, by decide⟩ (z_isPort ?_ (fun j6 hj7 e8 => ?_))
      · refine e_ifN (by omega) (fun h9 => ?_) (fun h9 => ?_)
        · refine u_X7_plug_34 ?_
          unfold bX7_plug_34
          exact And.intro ⟨by decide, by decide⟩ (XeI _ (GL.of (V := VP) sh (by decide)) (TY_SH hT sh) ir)
        · exact absurd rfl h9
      · subst e8
        refine e_ifN (by omega) (fun h10 => ?_) (fun h10 => ?_)
        · exact absurd h10 (by decide)
        · refine e_ldI rfl ?_
          refine And.intro ⟨by decide, by decide⟩ (z_isPort ?_ (fun j11 hj12 e13 => ?_))
          · refine e_ifN (by omega) (fun h14 => ?_) (fun h14 => ?_)
            · refine u_X7_plug_34 ?_
              unfold bX7_plug_34
              exact And.intro ⟨by decide, by decide⟩ (XeI _ (GL.of (V := VP) sh (by decide)) (TY_SH hT sh) ir)
            · exact absurd rfl h14
          · subst e13
            refine e_ifN (by omega) (fun h15 => ?_) (fun h15 => ?_)
            · exact absurd h15 (by decide)
            · refine e_ldI rfl ?_
              refine e_cN 1 rfl ?_
              refine e_ifc ?_ ?_
              · refine u_X7_plug_34 ?_
                unfold bX7_plug_34
                exact And.intro ⟨by decide, by decide⟩ (XeI _ (GL.of (V := VP) sh (by decide)) (TY_SH hT sh) ir)
              · refine e_ldI rfl ?_
                refine e_cN 8 rfl ?_
                refine e_ifc ?_ ?_
                · refine u_X7_plug_44 ?_
                  unfold bX7_plug_44
                  refine e_ldA rfl ?_
                  obtain ⟨b16, rb17, kb18, nb19⟩ := hT.1 x0 8 0 13 2 k0 rfl
                  refine e_gR (SH_k sh k0) (SH_r sh rb17) ?_
                  refine e_cN 0 rfl ?_
                  obtain ⟨b20, rb21, kb22, nb23⟩ := hT.2.1 b16 13 2 2 0 kb18 nb19 rfl (by omega)
                  refine e_aR (SH_k sh kb18) (SH_n sh nb19) (by omega) (by decide) (SH_r sh rb21) ?_
                  obtain ⟨b24, rb25, kb26, nb27⟩ := hT.1 b20 2 0 17 8 kb22 rfl
                  refine e_gR (SH_k sh kb22) (SH_r sh rb25) ?_
                  refine e_ldI rfl ?_
                  obtain ⟨b28, rb29, kb30, nb31⟩ := hT.2.1 b24 17 8 6 j6 kb26 nb27 rfl (by omega)
                  refine e_aR (SH_k sh kb26) (SH_n sh nb27) (by omega) (by decide) (SH_r sh rb29) ?_
                  refine e_ldI rfl ?_
                  refine And.intro ⟨by decide, by decide⟩ (z_X7_isTaken (TY_SH hT sh) ir (SH_k sh kb30) (fun n36 S32 s33 ir34 hn37 => ?_))
                  have sh35 := SH.tr sh s33 (by decide)
                  refine e_ifN (by omega) (fun h38 => ?_) (fun h38 => ?_)
                  · refine e_ldA rfl ?_
                    refine e_gR (SH_k sh35 k0) (SH_r sh35 rb17) ?_
                    refine e_cN 1 rfl ?_
                    obtain ⟨b39, rb40, kb41, nb42⟩ := hT.2.1 b16 13 2 2 1 kb18 nb19 rfl (by omega)
                    refine e_aR (SH_k sh35 kb18) (SH_n sh35 nb19) (by omega) (by decide) (SH_r sh35 rb40) ?_
                    obtain ⟨b43, rb44, kb45, nb46⟩ := hT.1 b39 2 0 17 8 kb41 rfl
                    refine e_gR (SH_k sh35 kb41) (SH_r sh35 rb44) ?_
                    refine e_ldI rfl ?_
                    obtain ⟨b47, rb48, kb49, nb50⟩ := hT.2.1 b43 17 8 6 j11 kb45 nb46 rfl (by omega)
                    refine e_aR (SH_k sh35 kb45) (SH_n sh35 nb46) (by omega) (by decide) (SH_r sh35 rb48) ?_
                    refine e_ldI rfl ?_
                    refine And.intro ⟨by decide, by decide⟩ (z_X7_isTaken (TY_SH hT sh35) ir34 (SH_k sh35 kb49) (fun n55 S51 s52 ir53 hn56 => ?_))
                    have sh54 := SH.tr sh35 s52 (by decide)
                    refine e_ifN (by omega) (fun h57 => ?_) (fun h57 => ?_)
                    · exact q_plug90 (TY_SH hT sh54) ir53 (SH_k sh54 k0) (by omega) (by omega) (by omega) rfl rfl rfl rfl rfl (fun S9 g9 hT9 ir9 => K S9 (GL.tr (GL.of sh54 (by decide)) g9) hT9 ir9)
                    · refine u_X7_plug_80 ?_
                      unfold bX7_plug_80
                      exact And.intro ⟨by decide, by decide⟩ (XeS _ (GL.of (V := VP) sh54 (by decide)) (TY_SH hT sh54) ir53)
                  · refine u_X7_plug_80 ?_
                    unfold bX7_plug_80
                    exact And.intro ⟨by decide, by decide⟩ (XeS _ (GL.of (V := VP) sh35 (by decide)) (TY_SH hT sh35) ir34)
                · refine u_X7_plug_34 ?_
                  unfold bX7_plug_34
                  exact And.intro ⟨by decide, by decide⟩ (XeI _ (GL.of (V := VP) sh (by decide)) (TY_SH hT sh) ir)
