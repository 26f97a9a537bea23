/-! CABLES: class and reference alike -/
def RelF (u : Nat → Int32) (pc : Nat → Nat → Int32) (rf : Nat → Nat → Option Nat) (pt : Nat → Nat → Nat) (I Po P U : Nat → Int32) : Prop := (∀ c, c < 8 → u c = U c) ∧ (∀ e p, e < 2 → p < 8 → pc e p = I (8 * e + p)) ∧ ∀ c, c < 8 → (P c = 0 ∧ rf c 0 = none ∧ rf c 1 = none) ∨ (P c ≠ 0 ∧ ∃ p0 p1, p0 < 8 ∧ p1 < 8 ∧ Po (2 * c + 0) = nI p0 ∧ Po (2 * c + 1) = nI p1 ∧ rf c 0 = some (pt 0 p0) ∧ rf c 1 = some (pt 1 p1))
theorem RelF_ch {u u' : Nat → Int32} {pc pc' : Nat → Nat → Int32} {rf rf' : Nat → Nat → Option Nat} {pt : Nat → Nat → Nat} {I Po P U I' Po' P' U' : Nat → Int32} {c i k : Nat} {x w : Int32} (h : RelF u pc rf pt I Po P U) (hu : ∀ d, d < 8 → u' d = if d = c then x else u d) (hU : ∀ d, d < 8 → U' d = if d = c then x else U d) (hpc : ∀ e p, e < 2 → p < 8 → pc' e p = if (e = 0 ∧ p = i) ∨ (e = 1 ∧ p = k) then w else pc e p) (hI : ∀ e p, e < 2 → p < 8 → I' (8 * e + p) = if (e = 0 ∧ p = i) ∨ (e = 1 ∧ p = k) then w else I (8 * e + p)) (hrf : ∀ d, d < 8 → d ≠ c → rf' d 0 = rf d 0 ∧ rf' d 1 = rf d 1) (hP : ∀ d, d < 8 → d ≠ c → P' d = P d ∧ Po' (2 * d + 0) = Po (2 * d + 0) ∧ Po' (2 * d + 1) = Po (2 * d + 1)) (hc : (P' c = 0 ∧ rf' c 0 = none ∧ rf' c 1 = none) ∨ (P' c ≠ 0 ∧ ∃ p0 p1, p0 < 8 ∧ p1 < 8 ∧ Po' (2 * c + 0) = nI p0 ∧ Po' (2 * c + 1) = nI p1 ∧ rf' c 0 = some (pt 0 p0) ∧ rf' c 1 = some (pt 1 p1))) : RelF u' pc' rf' pt I' Po' P' U' := by
  obtain ⟨h1, h2, h3⟩ := h
  refine ⟨fun d hd => ?_, fun e p he hp => ?_, fun d hd => ?_⟩
  · rw [hu d hd, hU d hd]
    split
    · rfl
    · exact h1 d hd
  · rw [hpc e p he hp, hI e p he hp]
    split
    · rfl
    · exact h2 e p he hp
  · by_cases hz : d = c
    · rw [hz]; exact hc
    · obtain ⟨a1, a2⟩ := hrf d hd hz
      obtain ⟨b1, b2, b3⟩ := hP d hd hz
      rw [a1, a2, b1, b2, b3]
      exact h3 d hd
def CInj (ca pp : Nat → Nat) (pt : Nat → Nat → Nat) : Prop := (∀ c c', c < 8 → c' < 8 → ca c = ca c' → c = c') ∧ (∀ c c', c < 8 → c' < 8 → pp c = pp c' → c = c') ∧ ∀ e p e' p', e < 2 → p < 8 → e' < 2 → p' < 8 → pt e p = pt e' p' → e = e' ∧ p = p'
def CRel (S : MM) (x : Nat) (A ca pp : Nat → Nat) (pt : Nat → Nat → Nat) : Prop := CLy S x ca pp ∧ PLy S x pt ∧ RelF (fun c => sI S (ca c) 3) (fun e p => sI S (pt e p) 2) (fun c j => sR S (pp c) j) pt (sI S (A 11)) (sI S (A 22)) (sI S (A 24)) (sI S (A 25))
theorem ptk {S : MM} {x e p : Nat} {pt : Nat → Nat → Nat} (hT : TY S) (kx : sK S x = 8) (hP : PLy S x pt) (he : e < 2) (hp : p < 8) : sK S (pt e p) = 6 := by
  obtain ⟨aE, rE, kE, nE, he2⟩ := PLy_k hT kx hP
  obtain ⟨en, pa, r1, k1, q1, l1, m1, u1⟩ := he2 e he
  exact (u1 p hp).2
theorem cak {S : MM} {x c : Nat} {ca pp : Nat → Nat} (hT : TY S) (kx : sK S x = 8) (hL : CLy S x ca pp) (hc : c < 8) : sK S (ca c) = 1 ∧ sK S (pp c) = 17 ∧ sN S (pp c) = 2 := by
  obtain ⟨aC, rC, kC, nC, hc8⟩ := CLy_k hT kx hL
  obtain ⟨ra, ka, rp, kp, np⟩ := hc8 c hc
  exact ⟨ka, kp, np⟩
theorem LY_GJ {V : List Nat} {S S' : MM} {x : Nat} {ca pp : Nat → Nat} {pt : Nat → Nat → Nat} (hT : TY S) (kx : sK S x = 8) (hL : CLy S x ca pp) (hP : PLy S x pt) (g : GJ V S S') : CLy S' x ca pp ∧ PLy S' x pt := by
  obtain ⟨aC, rC, kC, nC, hc8⟩ := CLy_k hT kx hL
  obtain ⟨aE, rE, kE, nE, he2⟩ := PLy_k hT kx hP
  have row : ∀ b kd, sK S b = kd → kd ≠ 0 → kd ≠ 14 → kd ≠ 17 → sR S' b = sR S b := fun b kd hb h0 h1 h2 => (g b (by rw [hb]; exact h0)).2.2.2.2 (Or.inr (rc_0 hb h1 h2))
  refine ⟨⟨aC, by rw [row x 8 kx (by decide) (by decide) (by decide)]; exact rC, fun c hc => ?_⟩, ⟨aE, by rw [row x 8 kx (by decide) (by decide) (by decide)]; exact rE, fun e he => ?_⟩⟩
  · obtain ⟨ra, ka, rp, kp, np⟩ := hc8 c hc
    exact ⟨by rw [row aC 12 kC (by decide) (by decide) (by decide)]; exact ra, by rw [row (ca c) 1 ka (by decide) (by decide) (by decide)]; exact rp⟩
  · obtain ⟨en, pa, r1, k1, q1, l1, m1, u1⟩ := he2 e he
    have rpa : sR S' pa = sR S pa := (g pa (by rw [l1]; decide)).2.2.2.2 (Or.inr (by unfold rc; rw [if_neg (by rw [l1]; decide), if_neg (fun z => by rw [m1] at z; exact absurd z.2 (by decide))]))
    exact ⟨en, pa, by rw [row aE 13 kE (by decide) (by decide) (by decide)]; exact r1, by rw [row en 2 k1 (by decide) (by decide) (by decide)]; exact q1, fun p hp => by rw [rpa]; exact (u1 p hp).1⟩
theorem CRel_c {V : List Nat} {S S' : MM} {x m out i : Nat} {A ca pp : Nat → Nat} {pt : Nat → Nat → Nat} (h : CRel S x A ca pp pt) (hG : GI S x m out A i) (g : GJ V S S') (hv : 23 ∈ V ∧ 24 ∈ V ∧ 117 ∈ V) : CRel S' x A ca pp pt := by
  obtain ⟨hT, ir, kx, -, -, hM, -⟩ := hG
  obtain ⟨hL, hP, h1, h2, h3⟩ := h
  obtain ⟨l1, l2⟩ := LY_GJ hT kx hL hP g
  have ek := (MS_GJ hM g).2.2
  refine ⟨l1, l2, fun c hc => ?_, fun e p he hp => ?_, fun c hc => ?_⟩
  · have ka := (cak hT kx hL hc).1
    show sI S' (ca c) 3 = _
    rw [(g (ca c) (by rw [ka]; decide)).2.2.2.1 3 (by rw [wj_kd ka (by decide)]; exact hv.1), ek]
    exact h1 c hc
  · have kp := ptk hT kx hP he hp
    show sI S' (pt e p) 2 = _
    rw [(g (pt e p) (by rw [kp]; decide)).2.2.2.1 2 (by rw [wj_kd kp (by decide)]; exact hv.2.1), ek]
    exact h2 e p he hp
  · obtain ⟨ka, kp, np⟩ := cak hT kx hL hc
    have rp : sR S' (pp c) = sR S (pp c) := (g (pp c) (by rw [kp]; decide)).2.2.2.2 (Or.inl (by rw [rc_17 kp np]; exact hv.2.2))
    show (sI S' (A 24) c = 0 ∧ sR S' (pp c) 0 = none ∧ sR S' (pp c) 1 = none) ∨ (sI S' (A 24) c ≠ 0 ∧ ∃ p0 p1, p0 < 8 ∧ p1 < 8 ∧ sI S' (A 22) (2 * c + 0) = nI p0 ∧ sI S' (A 22) (2 * c + 1) = nI p1 ∧ sR S' (pp c) 0 = some (pt 0 p0) ∧ sR S' (pp c) 1 = some (pt 1 p1))
    rw [ek, ek, rp]
    exact h3 c hc
theorem CRel_r {W : List Nat} {S S' : MM} {x m out i : Nat} {A ca pp : Nat → Nat} {pt : Nat → Nat → Nat} (h : CRel S x A ca pp pt) (hG : GI S x m out A i) (e : SM W m A S S') (hw : ∀ k ∈ [11, 22, 24, 25], k ∉ W) : CRel S' x A ca pp pt := by
  obtain ⟨hT, ir, kx, -, -, hM, -⟩ := hG
  obtain ⟨hL, hP, h1, h2, h3⟩ := h
  refine ⟨?_, ?_, fun c hc => ?_, fun e' p he hp => ?_, fun c hc => ?_⟩
  · unfold CLy; rw [e.2.2.1]; exact hL
  · unfold PLy; rw [e.2.2.1]; exact hP
  · show sI S' (ca c) 3 = _
    rw [SM_row hM e (cak hT kx hL hc).1 (by decide) (by decide) (by decide), SM_a e hM (k := 25) (by decide) (hw 25 (by decide))]
    exact h1 c hc
  · show sI S' (pt e' p) 2 = _
    rw [SM_row hM e (ptk hT kx hP he hp) (by decide) (by decide) (by decide), SM_a e hM (k := 11) (by decide) (hw 11 (by decide))]
    exact h2 e' p he hp
  · show (sI S' (A 24) c = 0 ∧ sR S' (pp c) 0 = none ∧ sR S' (pp c) 1 = none) ∨ _
    rw [SM_a e hM (k := 24) (by decide) (hw 24 (by decide)), SM_a e hM (k := 22) (by decide) (hw 22 (by decide)), e.2.2.1]
    exact h3 c hc
theorem GJ_CCh {S S' : MM} {a pc q0 q1 : Nat} {u w : Int32} {r0 r1 : Option Nat} (h : CCh S S' a pc u q0 q1 w r0 r1) (kc : sK S pc = 17) (nc : sN S pc = 2) : GJ [] S S' := fun b hb => by
  refine ⟨by rw [h.1], by rw [h.2.1], fun hf => ⟨h.2.2.2.2.2.2.2.2.2.2 b hf, h.2.2.1 b (fun z => ?_)⟩, fun j hj => absurd hj List.not_mem_nil, fun hr => h.2.2.1 b (fun z => ?_)⟩
  · subst z; rw [wk_17 kc (by decide)] at hf; cases hf
  · subst z
    rcases hr with q | q
    · exact absurd q List.not_mem_nil
    · rw [rc_17 kc nc] at q; cases q
theorem GJ_LCh {S S' : MM} {a : Nat} {u : Int32} (h : LCh S S' a u) : GJ [] S S' := fun b hb => ⟨by rw [h.1], by rw [h.2.1], fun hf => ⟨h.2.2.2.2.2.2 b hf, by rw [h.2.2.1]⟩, fun j hj => absurd hj List.not_mem_nil, fun _ => by rw [h.2.2.1]⟩
/-- the class's side of a change of cable c, seen by cables and ports -/
theorem CCh_u {S S' : MM} {x c i k : Nat} {ca pp : Nat → Nat} {pt : Nat → Nat → Nat} {u w : Int32} {r0 r1 : Option Nat} (hT : TY S) (kx : sK S x = 8) (hL : CLy S x ca pp) (hP : PLy S x pt) (hJ : CInj ca pp pt) (hc : c < 8) (hi : i < 8) (hk : k < 8) (h : CCh S S' (ca c) (pp c) u (pt 0 i) (pt 1 k) w r0 r1) : (∀ d, d < 8 → sI S' (ca d) 3 = if d = c then u else sI S (ca d) 3) ∧ (∀ e p, e < 2 → p < 8 → sI S' (pt e p) 2 = if (e = 0 ∧ p = i) ∨ (e = 1 ∧ p = k) then w else sI S (pt e p) 2) ∧ (∀ d, d < 8 → d ≠ c → sR S' (pp d) = sR S (pp d)) ∧ sR S' (pp c) 0 = r0 ∧ sR S' (pp c) 1 = r1 := by
  obtain ⟨c1, c2, c3, c4, c5, c6, c7, c8, c9, c10, c11⟩ := h
  refine ⟨fun d hd => ?_, fun e p he hp => ?_, fun d hd hn => c3 (pp d) (fun z => hn (hJ.2.1 d c hd hc z)), c4, c5⟩
  · by_cases hz : d = c
    · rw [if_pos hz, hz]; exact c7
    · rw [if_neg hz]; exact c6 (ca d) (cak hT kx hL hd).1 (fun z => hz (hJ.1 d c hd hc z))
  · by_cases hz : (e = 0 ∧ p = i) ∨ (e = 1 ∧ p = k)
    · rw [if_pos hz]
      rcases hz with ⟨z1, z2⟩ | ⟨z1, z2⟩
      · rw [z1, z2]; exact c9
      · rw [z1, z2]; exact c10
    · rw [if_neg hz]
      exact c8 (pt e p) (ptk hT kx hP he hp) (fun z => hz (Or.inl (hJ.2.2 e p 0 i he hp (by decide) hi z))) (fun z => hz (Or.inr (hJ.2.2 e p 1 k he hp (by decide) hk z)))
theorem upd2_p {I : Nat → Int32} {i k e p : Nat} {w : Int32} (hi : i < 8) (hk : k < 8) (he : e < 2) (hp : p < 8) : upd (upd I (8 * 0 + i) w) (8 * 1 + k) w (8 * e + p) = if (e = 0 ∧ p = i) ∨ (e = 1 ∧ p = k) then w else I (8 * e + p) := by
  by_cases hz : (e = 0 ∧ p = i) ∨ (e = 1 ∧ p = k)
  · rw [if_pos hz]
    exact upd2_in (by omega)
  · rw [if_neg hz]
    exact upd2 (by omega) (by omega)
theorem CRel_of {W : List Nat} {S1 S2 : MM} {x m : Nat} {A ca pp : Nat → Nat} {pt : Nat → Nat → Nat} (t1 : TY S1) (kx1 : sK S1 x = 8) (hM1 : MS S1 m A) (e : SM W m A S1 S2) (hL : CLy S1 x ca pp) (hP : PLy S1 x pt) (h : RelF (fun c => sI S1 (ca c) 3) (fun e p => sI S1 (pt e p) 2) (fun c j => sR S1 (pp c) j) pt (sI S2 (A 11)) (sI S2 (A 22)) (sI S2 (A 24)) (sI S2 (A 25))) : CRel S2 x A ca pp pt := by
  obtain ⟨h1, h2, h3⟩ := h
  refine ⟨?_, ?_, fun c hc => ?_, fun e' p he hp => ?_, fun c hc => ?_⟩
  · unfold CLy; rw [e.2.2.1]; exact hL
  · unfold PLy; rw [e.2.2.1]; exact hP
  · show sI S2 (ca c) 3 = _
    rw [SM_row hM1 e (cak t1 kx1 hL hc).1 (by decide) (by decide) (by decide)]
    exact h1 c hc
  · show sI S2 (pt e' p) 2 = _
    rw [SM_row hM1 e (ptk t1 kx1 hP he hp) (by decide) (by decide) (by decide)]
    exact h2 e' p he hp
  · show (sI S2 (A 24) c = 0 ∧ sR S2 (pp c) 0 = none ∧ sR S2 (pp c) 1 = none) ∨ _
    rw [e.2.2.1]
    exact h3 c hc
theorem CRel_refs {S : MM} {x c q0 q1 : Nat} {A ca pp : Nat → Nat} {pt : Nat → Nat → Nat} (h : CRel S x A ca pp pt) (hc : c < 8) (r0 : sR S (pp c) 0 = some q0) (r1 : sR S (pp c) 1 = some q1) : sI S (A 24) c ≠ 0 ∧ ∃ p0 p1, p0 < 8 ∧ p1 < 8 ∧ sI S (A 22) (2 * c + 0) = nI p0 ∧ sI S (A 22) (2 * c + 1) = nI p1 ∧ q0 = pt 0 p0 ∧ q1 = pt 1 p1 := by
  rcases h.2.2.2.2 c hc with ⟨a1, a2, a3⟩ | ⟨a1, p0, p1, a2, a3, a4, a5, a6, a7⟩
  · have : sR S (pp c) 0 = none := a2
    rw [r0] at this
    cases this
  · have b0 : sR S (pp c) 0 = some (pt 0 p0) := a6
    have b1 : sR S (pp c) 1 = some (pt 1 p1) := a7
    exact ⟨a1, p0, p1, a2, a3, a4, a5, Option.some.inj (r0.symm.trans b0), Option.some.inj (r1.symm.trans b1)⟩
theorem CRel_none {S : MM} {x c : Nat} {A ca pp : Nat → Nat} {pt : Nat → Nat → Nat} (h : CRel S x A ca pp pt) (hc : c < 8) (hn : sR S (pp c) 0 = none ∨ sR S (pp c) 1 = none) : sI S (A 24) c = 0 := by
  rcases h.2.2.2.2 c hc with ⟨a1, a2, a3⟩ | ⟨a1, p0, p1, a2, a3, a4, a5, a6, a7⟩
  · exact a1
  · rcases hn with z | z
    · have : sR S (pp c) 0 = some (pt 0 p0) := a6
      rw [z] at this
      cases this
    · have : sR S (pp c) 1 = some (pt 1 p1) := a7
      rw [z] at this
      cases this
/-- RelF behind a pull, the reference's arrays given -/
theorem RelF_pull {S S1 : MM} {x c q0 q1 : Nat} {A ca pp : Nat → Nat} {pt : Nat → Nat → Nat} {I' P' U' : Nat → Int32} (hT : TY S) (kx : sK S x = 8) (h : CRel S x A ca pp pt) (hJ : CInj ca pp pt) (hc : c < 8) (r0 : sR S (pp c) 0 = some q0) (r1 : sR S (pp c) 1 = some q1) (cc : CCh S S1 (ca c) (pp c) (nI 0) q0 q1 (-1) none none) (hP' : P' = upd (sI S (A 24)) c (nI 0)) (hU : ∀ d, d ≠ c → U' d = sI S (A 25) d) (hUc : U' c = 0) (hI : ∃ p0 p1, p0 < 8 ∧ p1 < 8 ∧ sI S (A 22) (2 * c + 0) = nI p0 ∧ sI S (A 22) (2 * c + 1) = nI p1 ∧ I' = upd (upd (sI S (A 11)) (8 * 0 + p0) (-1)) (8 * 1 + p1) (-1)) : RelF (fun c => sI S1 (ca c) 3) (fun e p => sI S1 (pt e p) 2) (fun c j => sR S1 (pp c) j) pt I' (sI S (A 22)) P' U' := by
  obtain ⟨a1, y0, y1, z0, z1, w0, w1, e0, e1⟩ := CRel_refs h hc r0 r1
  obtain ⟨p0, p1, hp0, hp1, v0, v1, eI'⟩ := hI
  have f0 : p0 = y0 := nI_inj (by omega) (by omega) (v0.symm.trans w0)
  have f1 : p1 = y1 := nI_inj (by omega) (by omega) (v1.symm.trans w1)
  subst f0 f1 e0 e1
  obtain ⟨c1, c2, c3, c4, c5⟩ := CCh_u hT kx h.1 h.2.1 hJ hc z0 z1 cc
  refine RelF_ch (c := c) (i := p0) (k := p1) (x := nI 0) (w := -1) h.2.2 c1 (fun d hd => ?_) c2 (fun e p he hp => by rw [eI']; exact upd2_p z0 z1 he hp) (fun d hd hn => by show sR S1 (pp d) 0 = _ ∧ sR S1 (pp d) 1 = _; rw [c3 d hd hn]; exact ⟨rfl, rfl⟩) (fun d hd hn => ⟨by rw [hP', pk_un hn], rfl, rfl⟩) (Or.inl ⟨by rw [hP', pk_us]; rfl, c4, c5⟩)
  by_cases hz : d = c
  · rw [if_pos hz, hz, hUc]; rfl
  · rw [if_neg hz]; exact hU d hz
theorem CRel_pull {S S1 S2 : MM} {x m out i c q0 q1 : Nat} {A ca pp : Nat → Nat} {pt : Nat → Nat → Nat} (h : CRel S x A ca pp pt) (hJ : CInj ca pp pt) (hG : GI S x m out A i) (hc : c < 8) (r0 : sR S (pp c) 0 = some q0) (r1 : sR S (pp c) 1 = some q1) (cc : CCh S S1 (ca c) (pp c) (nI 0) q0 q1 (-1) none none) (t1 : TY S1) (hM1 : MS S1 m A) (e : SM WP m A S1 S2) (pl : PLM S1 S2 A c) : CRel S2 x A ca pp pt := by
  obtain ⟨hT, ir, kx, -, -, hM, -⟩ := hG
  obtain ⟨ka, kp, np⟩ := cak hT kx h.1 hc
  have ek := (MS_GJ hM (GJ_CCh cc kp np)).2.2
  obtain ⟨hL1, hP1⟩ := LY_CCh hT kx h.1 h.2.1 cc kp np
  obtain ⟨l1, l2, l3, l4, l5⟩ := pl
  have q := RelF_pull (I' := sI S2 (A 11)) (P' := sI S2 (A 24)) (U' := sI S2 (A 25)) hT kx h hJ hc r0 r1 cc (by rw [l2, ek]) (fun d hd => by rw [l3 d hd, ek]) l4 (by
    obtain ⟨p0, p1, a1, a2, a3, a4, a5⟩ := l5
    exact ⟨p0, p1, a1, a2, by rw [← ek]; exact a3, by rw [← ek]; exact a4, by rw [a5, ek]⟩)
  rw [show sI S (A 22) = sI S2 (A 22) by rw [l1, ek]] at q
  exact CRel_of t1 (by rw [cc.1]; exact kx) hM1 e hL1 hP1 q
theorem CRel_light {S S1 S2 : MM} {x m out i c b : Nat} {A ca pp : Nat → Nat} {pt : Nat → Nat → Nat} (h : CRel S x A ca pp pt) (hJ : CInj ca pp pt) (hG : GI S x m out A i) (hc : c < 8) (ll : LCh S S1 (ca c) (nI b)) (t1 : TY S1) (hM1 : MS S1 m A) (e : SM WP m A S1 S2) (lt : LTM S1 S2 A c b) : CRel S2 x A ca pp pt := by
  obtain ⟨hT, ir, kx, -, -, hM, -⟩ := hG
  have ek := (MS_GJ hM (GJ_LCh ll)).2.2
  obtain ⟨c1, c2, c3, c4, c5, c6, c7⟩ := ll
  obtain ⟨l1, l2, l3, l4⟩ := lt
  obtain ⟨hL, hP, h1, h2, h3⟩ := h
  refine CRel_of t1 (by rw [c1]; exact kx) hM1 e (by unfold CLy; rw [c3]; exact hL) (by unfold PLy; rw [c3]; exact hP) ⟨fun d hd => ?_, fun e' p he hp => ?_, fun d hd => ?_⟩
  · show sI S1 (ca d) 3 = _
    rw [l4, ek]
    by_cases hz : d = c
    · rw [hz, pk_us]; exact c5
    · rw [pk_un hz, c4 (ca d) (cak hT kx hL hd).1 (fun z => hz (hJ.1 d c hd hc z))]
      exact h1 d hd
  · show sI S1 (pt e' p) 2 = _
    rw [c6 _ (ptk hT kx hP he hp), l1, ek]
    exact h2 e' p he hp
  · show (sI S2 (A 24) d = 0 ∧ sR S1 (pp d) 0 = none ∧ sR S1 (pp d) 1 = none) ∨ _
    rw [l3, l2, ek, ek, c3]
    exact h3 d hd
/-- RelF behind a cable has been put in -/
theorem RelF_in {S S1 : MM} {x c a b : Nat} {ca pp : Nat → Nat} {pt : Nat → Nat → Nat} {I Po P U : Nat → Int32} (hT : TY S) (kx : sK S x = 8) (hL : CLy S x ca pp) (hP : PLy S x pt) (h : RelF (fun c => sI S (ca c) 3) (fun e p => sI S (pt e p) 2) (fun c j => sR S (pp c) j) pt I Po P U) (hJ : CInj ca pp pt) (hc : c < 8) (ha : a < 8) (hb : b < 8) (cc : CCh S S1 (ca c) (pp c) (nI 1) (pt 0 a) (pt 1 b) (nI c) (some (pt 0 a)) (some (pt 1 b))) : RelF (fun c => sI S1 (ca c) 3) (fun e p => sI S1 (pt e p) 2) (fun c j => sR S1 (pp c) j) pt (upd (upd I a (nI c)) (8 + b) (nI c)) (upd (upd Po (2 * c) (nI a)) (2 * c + 1) (nI b)) (upd P c (nI 1)) (upd U c (nI 1)) := by
  obtain ⟨c1, c2, c3, c4, c5⟩ := CCh_u hT kx hL hP hJ hc ha hb cc
  refine RelF_ch (c := c) (i := a) (k := b) (x := nI 1) (w := nI c) h c1 (fun d hd => ?_) c2 (fun e p he hp => ?_) (fun d hd hn => by show sR S1 (pp d) 0 = _ ∧ sR S1 (pp d) 1 = _; rw [c3 d hd hn]; exact ⟨rfl, rfl⟩) (fun d hd hn => ⟨pk_un hn, by rw [pk_un (by omega), pk_un (by omega)], by rw [pk_un (by omega), pk_un (by omega)]⟩) (Or.inr ⟨by rw [pk_us]; decide, a, b, ha, hb, by rw [pk_un (by omega), Nat.add_zero, pk_us], by rw [pk_us], c4, c5⟩)
  · by_cases hz : d = c
    · rw [if_pos hz, hz, pk_us]
    · rw [if_neg hz, pk_un hz]
  · have q := upd2_p (I := I) (w := nI c) ha hb he hp
    rw [Nat.mul_zero, Nat.zero_add, Nat.mul_one] at q
    exact q
theorem CRel_plug {S S2 S3 : MM} {x m out i c a b : Nat} {A ca pp : Nat → Nat} {pt : Nat → Nat → Nat} (h : CRel S x A ca pp pt) (hJ : CInj ca pp pt) (hG : GI S x m out A i) (hc : c < 8) (ha : a < 8) (hb : b < 8) (cc : (sR S (pp c) 0 = none ∨ sR S (pp c) 1 = none) ∧ CCh S S2 (ca c) (pp c) (nI 1) (pt 0 a) (pt 1 b) (nI c) (some (pt 0 a)) (some (pt 1 b)) ∨ ∃ p0 p1 S1, sR S (pp c) 0 = some p0 ∧ sR S (pp c) 1 = some p1 ∧ TY S1 ∧ CCh S S1 (ca c) (pp c) (nI 0) p0 p1 (-1) none none ∧ CCh S1 S2 (ca c) (pp c) (nI 1) (pt 0 a) (pt 1 b) (nI c) (some (pt 0 a)) (some (pt 1 b))) (t2 : TY S2) (hM2 : MS S2 m A) (ek : ∀ k, sI S2 (A k) = sI S (A k)) (e : SM WP m A S2 S3) (pg : PGM S2 S3 A c a b) : CRel S3 x A ca pp pt := by
  obtain ⟨hT, ir, kx, -, -, hM, -⟩ := hG
  obtain ⟨ka, kp, np⟩ := cak hT kx h.1 hc
  obtain ⟨I, Po, P, U, hd, g1, g2, g3, g4⟩ := pg
  rcases cc with ⟨hn, cc⟩ | ⟨p0, p1, S1, r0, r1, t1, c1, c2⟩
  · have p0 := CRel_none h hc hn
    rcases hd with ⟨d1, d2, d3, d4, d5⟩ | ⟨d1, -⟩
    · obtain ⟨hL1, hP1⟩ := LY_CCh hT kx h.1 h.2.1 cc kp np
      have q := RelF_in hT kx h.1 h.2.1 h.2.2 hJ hc ha hb cc
      refine CRel_of t2 (by rw [cc.1]; exact kx) hM2 e hL1 hP1 ?_
      rw [g1, g2, g3, g4, d2, d3, d4, d5, ek, ek, ek, ek]
      exact q
    · rw [ek] at d1
      exact absurd p0 d1
  · obtain ⟨n0, -⟩ := CRel_refs h hc r0 r1
    rcases hd with ⟨d1, -⟩ | ⟨d1, d2, d3, d4, d5, d6⟩
    · rw [ek] at d1
      exact absurd d1 n0
    · have q1 := RelF_pull (I' := I) (P' := P) (U' := U) hT kx h hJ hc r0 r1 c1 (by rw [d3, ek]) (fun d hd => by rw [d4 d hd, ek]) d5 (by
        obtain ⟨y0, y1, a1, a2, a3, a4, a5⟩ := d6
        exact ⟨y0, y1, a1, a2, by rw [← ek]; exact a3, by rw [← ek]; exact a4, by rw [a5, ek]⟩)
      obtain ⟨hL1, hP1⟩ := LY_CCh hT kx h.1 h.2.1 c1 kp np
      have kx1 : sK S1 x = 8 := by rw [c1.1]; exact kx
      obtain ⟨hL2, hP2⟩ := LY_CCh t1 kx1 hL1 hP1 c2 (by rw [c1.1]; exact kp) (by rw [c1.2.1]; exact np)
      have q := RelF_in t1 kx1 hL1 hP1 q1 hJ hc ha hb c2
      refine CRel_of t2 (by rw [c2.1]; exact kx1) hM2 e hL2 hP2 ?_
      rw [g1, g2, g3, g4, d2, ek]
      exact q
theorem CRel_a {S : MM} {x i : Nat} {A ca pp : Nat → Nat} {pt : Nat → Nat → Nat} (h : CRel S x A ca pp pt) (hi : i < 8) : sI S (pt 0 i) 2 = sI S (A 11) i := by
  have q := h.2.2.2.1 0 i (by decide) hi
  rw [Nat.mul_zero, Nat.zero_add] at q
  exact q
theorem CRel_b {S : MM} {x i : Nat} {A ca pp : Nat → Nat} {pt : Nat → Nat → Nat} (h : CRel S x A ca pp pt) (hi : i < 8) : sI S (pt 1 i) 2 = sI S (A 11) (8 + i) := by
  have q := h.2.2.2.1 1 i (by decide) hi
  rw [Nat.mul_one] at q
  exact q
theorem GJ_plug {S S2 : MM} {c a b : Nat} {ca pp : Nat → Nat} {pt : Nat → Nat → Nat} (kp : sK S (pp c) = 17) (np : sN S (pp c) = 2) (cc : (sR S (pp c) 0 = none ∨ sR S (pp c) 1 = none) ∧ CCh S S2 (ca c) (pp c) (nI 1) (pt 0 a) (pt 1 b) (nI c) (some (pt 0 a)) (some (pt 1 b)) ∨ ∃ p0 p1 S1, sR S (pp c) 0 = some p0 ∧ sR S (pp c) 1 = some p1 ∧ TY S1 ∧ CCh S S1 (ca c) (pp c) (nI 0) p0 p1 (-1) none none ∧ CCh S1 S2 (ca c) (pp c) (nI 1) (pt 0 a) (pt 1 b) (nI c) (some (pt 0 a)) (some (pt 1 b))) : GJ [] S S2 := by
  rcases cc with ⟨-, cc⟩ | ⟨p0, p1, S1, -, -, -, c1, c2⟩
  · exact GJ_CCh cc kp np
  · exact (GJ_CCh c1 kp np).tr (GJ_CCh c2 (by rw [c1.1]; exact kp) (by rw [c1.2.1]; exact np))
/-! the start -/
theorem CRel_0 {S : MM} {x aE aC e0 e1 : Nat} {A : Nat → Nat} (hT : TY S) (hO : OC S) (hB : B0 S x aE aC e0 e1) (hv : ∀ k ∈ DM, ∀ j, sI S (A k) j = fM 16 k j) : ∃ ca pp pt, CInj ca pp pt ∧ CRel S x A ca pp pt := by
  obtain ⟨⟨b1, b2, b3, b4, b5, b6, b7, b8, b9, b10⟩, hz, hE0, hE1, hC⟩ := hB
  obtain ⟨hv0, pa0, f1, f2, f3, f4⟩ := hE0
  obtain ⟨hv1, pa1, g1, g2, g3, g4⟩ := hE1
  have hca : ∀ c, c < 8 → sR S aC c = some ((sR S aC c).getD 0) ∧ C0 S ((sR S aC c).getD 0) := fun c hc => by
    obtain ⟨a, a1, a2⟩ := hC c hc
    rw [a1]
    exact ⟨rfl, a2⟩
  have hpp : ∀ c, c < 8 → sR S ((sR S aC c).getD 0) 0 = some ((sR S ((sR S aC c).getD 0) 0).getD 0) ∧ sR S ((sR S ((sR S aC c).getD 0) 0).getD 0) 0 = none ∧ sR S ((sR S ((sR S aC c).getD 0) 0).getD 0) 1 = none := fun c hc => by
    obtain ⟨-, ⟨⟨h1, h2, h3, pp, p1, p2, p3, p4, p5⟩, -⟩⟩ := hca c hc
    rw [p1]
    exact ⟨rfl, p4, p5⟩
  have hpt : ∀ e p, e < 2 → p < 8 → ∃ q, sR S (if e = 0 then pa0 else pa1) p = some q ∧ sK S q = 6 ∧ sI S q 2 = -1 := fun e p he hp => by
    have : e = 0 ∨ e = 1 := by omega
    rcases this with rfl | rfl
    · obtain ⟨q, q1, q2⟩ := f4 p hp
      exact ⟨q, q1, q2.1.1, q2.1.2.1⟩
    · obtain ⟨q, q1, q2⟩ := g4 p hp
      exact ⟨q, q1, q2.1.1, q2.1.2.1⟩
  have hpg : ∀ e p, e < 2 → p < 8 → sR S (if e = 0 then pa0 else pa1) p = some ((sR S (if e = 0 then pa0 else pa1) p).getD 0) ∧ sI S ((sR S (if e = 0 then pa0 else pa1) p).getD 0) 2 = -1 := fun e p he hp => by
    obtain ⟨q, q1, q2, q3⟩ := hpt e p he hp
    rw [q1]
    exact ⟨rfl, q3⟩
  have kpa : ∀ e, e < 2 → sK S (if e = 0 then pa0 else pa1) = 17 ∧ sN S (if e = 0 then pa0 else pa1) = 8 := fun e he => by
    have : e = 0 ∨ e = 1 := by omega
    rcases this with rfl | rfl
    · exact ⟨f2, f3⟩
    · exact ⟨g2, g3⟩
  have rc8 : ∀ a, sK S a = 17 → sN S a = 8 → rc S a ≠ 117 := fun a h1 h2 => by
    unfold rc
    rw [if_neg (by rw [h1]; decide), if_neg (fun z => by rw [h2] at z; exact absurd z.2 (by decide))]
    decide
  have npa : pa0 ≠ pa1 := fun z => b10 (hO.1 e0 e1 0 0 pa0 (by rw [hv0.1]; rfl) (by rw [hv1.1]; rfl) (by rw [rc_0 hv0.1 (by decide) (by decide)]; decide) (by rw [rc_0 hv1.1 (by decide) (by decide)]; decide) f1 (by rw [z]; exact g1)).1
  have z : ∀ k ∈ DM, k ≠ 1 → k ≠ 2 → k ≠ 4 → k ≠ 11 → k ≠ 12 → k ≠ 21 → ∀ j, sI S (A k) j = 0 := fun k h1 h2 h3 h4 h5 h6 h7 j => by
    rw [hv k h1 j]
    unfold fM f0M
    rw [if_neg (fun z => h4 z.1), if_neg (fun z => by rcases z.1 with q | q | q <;> contradiction), if_neg h2, if_neg h3]
  refine ⟨fun c => (sR S aC c).getD 0, fun c => (sR S ((sR S aC c).getD 0) 0).getD 0, fun e p => (sR S (if e = 0 then pa0 else pa1) p).getD 0, ⟨fun c c' hc hc' e => ?_, fun c c' hc hc' e => ?_, fun e p e' p' he hp he' hp' eq => ?_⟩, ⟨aC, b3, fun c hc => ⟨(hca c hc).1, (hpp c hc).1⟩⟩, ⟨aE, b2, fun e he => ?_⟩, fun c hc => ?_, fun e p he hp => ?_, fun c hc => Or.inl ⟨z 24 (by decide) (by decide) (by decide) (by decide) (by decide) (by decide) (by decide) c, (hpp c hc).2.1, (hpp c hc).2.2⟩⟩
  · have e' : (sR S aC c).getD 0 = (sR S aC c').getD 0 := e
    exact (hO.1 aC aC c c' ((sR S aC c).getD 0) (by rw [b6]; rfl) (by rw [b6]; rfl) (by rw [rc_0 b6 (by decide) (by decide)]; decide) (by rw [rc_0 b6 (by decide) (by decide)]; decide) (hca c hc).1 (by rw [e']; exact (hca c' hc').1)).2
  · have e' : (sR S ((sR S aC c).getD 0) 0).getD 0 = (sR S ((sR S aC c').getD 0) 0).getD 0 := e
    have k1 := (hca c hc).2.1.1
    have k2 := (hca c' hc').2.1.1
    have q := (hO.1 _ _ 0 0 ((sR S ((sR S aC c).getD 0) 0).getD 0) (by rw [k1]; rfl) (by rw [k2]; rfl) (by rw [rc_0 k1 (by decide) (by decide)]; decide) (by rw [rc_0 k2 (by decide) (by decide)]; decide) (hpp c hc).1 (by rw [e']; exact (hpp c' hc').1)).1
    exact (hO.1 aC aC c c' ((sR S aC c).getD 0) (by rw [b6]; rfl) (by rw [b6]; rfl) (by rw [rc_0 b6 (by decide) (by decide)]; decide) (by rw [rc_0 b6 (by decide) (by decide)]; decide) (hca c hc).1 (by rw [q]; exact (hca c' hc').1)).2
  · have eq' : (sR S (if e = 0 then pa0 else pa1) p).getD 0 = (sR S (if e' = 0 then pa0 else pa1) p').getD 0 := eq
    obtain ⟨ka, na⟩ := kpa e he
    obtain ⟨kb, nb⟩ := kpa e' he'
    obtain ⟨q1, q2⟩ := hO.1 _ _ p p' _ (by rw [ka]; rfl) (by rw [kb]; rfl) (rc8 _ ka na) (rc8 _ kb nb) (hpg e p he hp).1 (by rw [eq']; exact (hpg e' p' he' hp').1)
    refine ⟨?_, q2⟩
    have h1 : e = 0 ∨ e = 1 := by omega
    have h2 : e' = 0 ∨ e' = 1 := by omega
    rcases h1 with rfl | rfl <;> rcases h2 with rfl | rfl
    · rfl
    · exact absurd q1 npa
    · exact absurd q1.symm npa
    · rfl
  · have : e = 0 ∨ e = 1 := by omega
    rcases this with rfl | rfl
    · exact ⟨e0, pa0, b8, f1, fun p hp => (hpg 0 p (by decide) hp).1⟩
    · exact ⟨e1, pa1, b9, g1, fun p hp => (hpg 1 p (by decide) hp).1⟩
  · show sI S ((sR S aC c).getD 0) 3 = _
    rw [(hca c hc).2.1.2.1, z 25 (by decide) (by decide) (by decide) (by decide) (by decide) (by decide) (by decide) c]
  · show sI S ((sR S (if e = 0 then pa0 else pa1) p).getD 0) 2 = _
    rw [(hpg e p he hp).2, hv 11 (by decide)]
    unfold fM
    rw [if_neg (fun z => absurd z.1 (by decide)), if_pos ⟨Or.inl rfl, by omega⟩]
