/-! WHAT A PUBLIC CALL KEEPS where references change, or a cell is made: every cell that was there keeps kind and length, and those of the reference keep all -/
def fo (k : Nat) : Bool := k == 9 || k == 10 || k == 11 || k == 18
def rc (S : MM) (a : Nat) : Nat := if sK S a = 14 then 114 else if sK S a = 17 ∧ sN S a = 2 then 117 else 0
/-- V: what stays as it was beyond the reference's cells and most references -/
def GL (V : List Nat) (S S' : MM) : Prop := ∀ a, sK S a ≠ 0 → sK S' a = sK S a ∧ sN S' a = sN S a ∧ (fo (wk S a) = true → sI S' a = sI S a ∧ sR S' a = sR S a ∧ sJ S' a = sJ S a) ∧ (∀ j, wj S a j ∈ V → sI S' a j = sI S a j) ∧ (rc S a ∈ V ∨ rc S a = 0 → sR S' a = sR S a)
def VP : List Nat := [21, 22, 114]
def VG : List Nat := [21, 22, 23, 24, 117]
theorem GL.rf {V : List Nat} {S : MM} : GL V S S := fun _ _ => ⟨rfl, rfl, fun _ => ⟨rfl, rfl, rfl⟩, fun _ _ => rfl, fun _ => rfl⟩
theorem fo_wj {S : MM} {a j : Nat} (h : fo (wk S a) = true) : wj S a j = wk S a := by
  unfold wj
  unfold wk at h ⊢
  split
  · rfl
  · next hn =>
    rw [if_neg hn] at h
    have : sK S a = 9 ∨ sK S a = 10 ∨ sK S a = 11 ∨ sK S a = 18 := by
      unfold fo at h
      simp at h
      omega
    rcases this with z | z | z | z <;> rw [z] <;> simp [cd]
theorem GL.of {V W : List Nat} {S S' : MM} (h : SH W S S') (hw : ∀ k ∈ W, fo k = false ∧ k ∉ V) : GL V S S' := fun a _ => ⟨by rw [h.1], by rw [h.2.1], fun hf => ⟨funext (fun j => h.2.2.2.2 a j (fun z => by rw [fo_wj hf] at z; rw [(hw _ z).1] at hf; cases hf)), by rw [h.2.2.1], by rw [h.2.2.2.1]⟩, fun j hj => h.2.2.2.2 a j (fun z => (hw _ z).2 hj), fun _ => by rw [h.2.2.1]⟩
theorem GL.tr {V : List Nat} {S S1 S2 : MM} (h : GL V S S1) (k : GL V S1 S2) : GL V S S2 := fun a ha => by
  obtain ⟨h1, h2, h3, h4, h5⟩ := h a ha
  obtain ⟨k1, k2, k3, k4, k5⟩ := k a (by rw [h1]; exact ha)
  refine ⟨k1.trans h1, k2.trans h2, fun hf => ?_, fun j hj => ?_, fun hr => ?_⟩
  · obtain ⟨p1, p2, p3⟩ := h3 hf
    obtain ⟨q1, q2, q3⟩ := k3 (by unfold wk at hf ⊢; rw [h1, h2]; exact hf)
    exact ⟨q1.trans p1, q2.trans p2, q3.trans p3⟩
  · exact (k4 j (by unfold wj at hj ⊢; rw [h1, h2]; exact hj)).trans (h4 j hj)
  · exact (k5 (by unfold rc at hr ⊢; rw [h1, h2]; exact hr)).trans (h5 hr)
theorem GL_k {V : List Nat} {S S' : MM} {a n : Nat} (e : GL V S S') (h : sK S a = n) (hn : n ≠ 0) : sK S' a = n := by rw [(e a (by rw [h]; exact hn)).1]; exact h
theorem GL_n {V : List Nat} {S S' : MM} {a n N : Nat} (e : GL V S S') (h : sK S a = n) (hn : n ≠ 0) (k : sN S a = N) : sN S' a = N := by rw [(e a (by rw [h]; exact hn)).2.1]; exact k
theorem wk_17 {S : MM} {a kd : Nat} (h : sK S a = kd) (hk : kd ≠ 10) : wk S a = kd := by unfold wk; rw [h, if_neg (fun z => hk z.1)]
theorem GL_pR {V : List Nat} {S : MM} {a j kd : Nat} {o : Option Nat} (hk : sK S a = kd) (h10 : kd ≠ 10) (hf : fo kd = false) (hr : ¬ (rc S a ∈ V ∨ rc S a = 0)) : GL V S (pR S a j o) := fun b _ => ⟨rfl, rfl, fun h => by
  have nb : b ≠ a := fun z => by subst z; rw [wk_17 hk h10, hf] at h; cases h
  exact ⟨rfl, up2_row nb, rfl⟩, fun _ _ => rfl, fun h => up2_row (fun z => hr (by rw [← z]; exact h))⟩
theorem rc_14 {S : MM} {a : Nat} (h : sK S a = 14) : rc S a = 114 := by unfold rc; rw [if_pos h]
theorem rc_17 {S : MM} {a : Nat} (h : sK S a = 17) (hn : sN S a = 2) : rc S a = 117 := by unfold rc; rw [if_neg (by rw [h]; decide), if_pos ⟨h, hn⟩]
theorem GL_p17 {S : MM} {a j : Nat} {o : Option Nat} (hk : sK S a = 17) (hn : sN S a = 2) : GL VP S (pR S a j o) := GL_pR hk (by decide) rfl (by rw [rc_17 hk hn]; decide)
theorem GL_pI {V : List Nat} {S : MM} {a j kd : Nat} {v : Int32} (hk : sK S a = kd) (h10 : kd ≠ 10) (hf : fo kd = false) (hv : cd kd j ∉ V) : GL V S (pI S a j v) := fun b _ => ⟨rfl, rfl, fun h => by
  have nb : b ≠ a := fun z => by subst z; rw [wk_17 hk h10, hf] at h; cases h
  exact ⟨up2_row nb, rfl, rfl⟩, fun i hi => by rw [sI_pI, up2_ne (fun z => hv (by rw [← wj_kd hk h10, ← z.1, ← z.2]; exact hi))], fun _ => rfl⟩
theorem GL_nw {V : List Nat} {S : MM} {q kd n : Nat} (hq : sK S q = 0) : GL V S (nw S q kd n) := fun b hb => by
  have nb : b ≠ q := fun z => hb (by rw [z]; exact hq)
  exact ⟨va_up_ne _ _ nb, va_up_ne _ _ nb, fun _ => ⟨cl2_row nb, cl2_row nb, cl2_row nb⟩, fun j _ => by show cl2 (sI S) q 0 b j = _; rw [cl2_row nb], fun _ => cl2_row nb⟩
theorem TY_pR {S : MM} {a j : Nat} {o : Option Nat} (h : TY S) (hf : ∀ j, rf (sK S a) j = none) (he : re (sK S a) (sN S a) = none) (hn : ∀ b k, o = some b → rn (sK S a) = some k → sK S b = k ∧ sN S b = 0) : TY (pR S a j o) := by
  obtain ⟨h1, h2, h3⟩ := h
  refine ⟨fun b kd i k n hk hr => ?_, fun b kd n k i hk hN hr hi => ?_, fun b kd k i c hk hr hc => ?_⟩
  · have nb : b ≠ a := fun z => by
      subst z
      have hk' : sK S b = kd := hk
      rw [← hk', hf] at hr
      cases hr
    obtain ⟨c, c1, c2, c3⟩ := h1 b kd i k n hk hr
    exact ⟨c, by rw [sR_pR, up2_row nb]; exact c1, c2, c3⟩
  · have nb : b ≠ a := fun z => by
      subst z
      have hk' : sK S b = kd := hk
      have hN' : sN S b = n := hN
      rw [← hk', ← hN', he] at hr
      cases hr
    obtain ⟨c, c1, c2⟩ := h2 b kd n k i hk hN hr hi
    exact ⟨c, by rw [sR_pR, up2_row nb]; exact c1, c2⟩
  · by_cases hz : b = a ∧ i = j
    · obtain ⟨z1, z2⟩ := hz
      subst z1 z2
      rw [sR_pR, up2_self] at hc
      have hk' : sK S b = kd := hk
      exact hn c k hc (by rw [hk']; exact hr)
    · rw [sR_pR, up2_ne hz] at hc
      exact h3 b kd k i c hk hr hc
theorem rf_17 (j : Nat) : rf 17 j = none := by simp [rf]
theorem rf_14 (j : Nat) : rf 14 j = none := by simp [rf]
theorem rf_3 (j : Nat) : rf 3 j = none := by simp [rf]
theorem re_3 (n : Nat) : re 3 n = none := by simp [re]
theorem re_14 (n : Nat) : re 14 n = none := by simp [re]
theorem rg_3 (j : Nat) : rg 3 j = none := by simp [rg]
theorem TY_p17 {S : MM} {a j : Nat} {o : Option Nat} (h : TY S) (hk : sK S a = 17) (hn : sN S a = 2) (ho : ∀ b, o = some b → sK S b = 6 ∧ sN S b = 0) : TY (pR S a j o) := TY_pR h (fun j => by rw [hk]; exact rf_17 j) (by rw [hk, hn]; rfl) (fun b k hb hr => by rw [hk] at hr; cases hr; exact ho b hb)
theorem TY_p14 {S : MM} {a j b : Nat} (h : TY S) (hk : sK S a = 14) (hb : sK S b = 3) (nb : sN S b = 0) : TY (pR S a j (some b)) := TY_pR h (fun j => by rw [hk]; exact rf_14 j) (by rw [hk]; exact re_14 _) (fun b' k hb' hr => by rw [hk] at hr; cases hr; cases hb'; exact ⟨hb, nb⟩)
theorem rf_pos {kd j k n : Nat} (h : rf kd j = some (k, n)) : k ≠ 0 := by
  unfold rf at h
  split at h <;> first | (cases h; decide) | cases h
theorem re_pos {kd n k : Nat} (h : re kd n = some k) : k ≠ 0 := by
  unfold re at h
  split at h <;> first | (cases h; decide) | cases h
theorem rn_pos {kd k : Nat} (h : rn kd = some k) : k ≠ 0 := by
  unfold rn at h
  split at h <;> first | (cases h; decide) | cases h
theorem TY_nw {S : MM} {q : Nat} (h : TY S) (hq : sK S q = 0) : TY (nw S q 3 0) := by
  obtain ⟨h1, h2, h3⟩ := h
  have old : ∀ b k, sK S b = k → k ≠ 0 → b ≠ q := fun b k hb hk z => hk (by rw [← hb, z]; exact hq)
  have ks : sK (nw S q 3 0) q = 3 := va_up_self _ _ _
  refine ⟨fun b kd i k n hk hr => ?_, fun b kd n k i hk hN hr hi => ?_, fun b kd k i c hk hr hc => ?_⟩
  · have nb : b ≠ q := fun z => by
      subst z
      rw [ks] at hk
      rw [← hk, rf_3] at hr
      cases hr
    rw [sK_nw, va_up_ne _ _ nb] at hk
    obtain ⟨c, c1, c2, c3⟩ := h1 b kd i k n hk hr
    have nc := old c k c2 (rf_pos hr)
    exact ⟨c, by rw [sR_nw, cl2_row nb]; exact c1, by rw [sK_nw, va_up_ne _ _ nc]; exact c2, by rw [sN_nw, va_up_ne _ _ nc]; exact c3⟩
  · have nb : b ≠ q := fun z => by
      subst z
      rw [ks] at hk
      rw [← hk, re_3] at hr
      cases hr
    rw [sK_nw, va_up_ne _ _ nb] at hk
    rw [sN_nw, va_up_ne _ _ nb] at hN
    obtain ⟨c, c1, c2, c3⟩ := h2 b kd n k i hk hN hr hi
    have nc := old c k c2 (re_pos hr)
    exact ⟨c, by rw [sR_nw, cl2_row nb]; exact c1, by rw [sK_nw, va_up_ne _ _ nc]; exact c2, by rw [sN_nw, va_up_ne _ _ nc]; exact c3⟩
  · have nb : b ≠ q := fun z => by
      subst z
      rw [ks] at hk
      rw [← hk] at hr
      cases hr
    rw [sK_nw, va_up_ne _ _ nb] at hk
    rw [sR_nw, cl2_row nb] at hc
    obtain ⟨c2, c3⟩ := h3 b kd k i c hk hr hc
    have nc := old c k c2 (rn_pos hr)
    exact ⟨by rw [sK_nw, va_up_ne _ _ nc]; exact c2, by rw [sN_nw, va_up_ne _ _ nc]; exact c3⟩
theorem IR_nw {S : MM} {q : Nat} (h : IR S) : IR (nw S q 3 0) := by
  intro b kd j N hk hr
  have nb : b ≠ q := fun z => by
    subst z
    rw [sK_nw, va_up_self] at hk
    rw [← hk, rg_3] at hr
    cases hr
  rw [sK_nw, va_up_ne _ _ nb] at hk
  obtain ⟨n, n1, n2⟩ := h b kd j N hk hr
  exact ⟨n, n1, by rw [sI_nw, cl2_row nb]; exact n2⟩
theorem y_sAR {ci : Nat} {kt : Kt} {lv : Lv} {st : List Value} {S : MM} {c z a j N v : Nat} (hk : sK S a = ci + 12) (hn : sN S a = N) (hj : j < N) (hN : N < 2 ^ 31) (hv : sK S v = ci + 1) (h : kt lv st (pR S a j (some v)) c z) : sAR ci kt lv (.ref v :: .int (nI j) :: .ref a :: st) S c z :=
  And.intro hk (And.intro (by rw [hn]; exact vp_in_nI hj hN) (And.intro hv (by rw [nI_clamp (by omega)]; exact h)))
theorem y_sAN {ci : Nat} {kt : Kt} {lv : Lv} {st : List Value} {S : MM} {c z a j N : Nat} (hk : sK S a = ci + 12) (hn : sN S a = N) (hj : j < N) (hN : N < 2 ^ 31) (h : kt lv st (pR S a j none) c z) : sAR ci kt lv (.null :: .int (nI j) :: .ref a :: st) S c z :=
  And.intro hk (And.intro (by rw [hn]; exact vp_in_nI hj hN) (by rw [nI_clamp (by omega)]; exact h))
theorem z_X2_init {S : MM} {a : Nat} {Q : Option Value → MM → Prop} (h : Q none S) : wX2_init [.ref a] S Q := Exists.intro 1 h
/-- putIn, as it is -/
theorem u_X7_putIn_0 {Q : Option Value → MM → Prop} {n : Nat} {lv : Lv} {st : List Value} {S : MM} {c z : Nat} (h : bX7_putIn_0 Q (wpn (kX7_putIn Q) n) lv st S c z) : wpn (kX7_putIn Q) (n + 1) 0 lv st S c z := h
theorem z_X7_putIn {S : MM} {x aC a pp p j e : Nat} {Q : Option Value → MM → Prop} (hx : sK S x = 8) (hR : sR S x 1 = some aC) (hk : sK S aC = 12) (hN : sN S aC = 8) (hj : j < 8) (ha : sR S aC j = some a) (ka : sK S a = 1) (ra : sR S a 0 = some pp) (kp : sK S pp = 17) (np : sN S pp = 2) (he : e < 2) (kq : sK S p = 6) (h : Q none (pI (pR S pp e (some p)) p 2 (nI j))) : wX7_putIn [.ref x, .int (nI j), .int (nI e), .ref p] S Q := by
  refine Exists.intro 1 (u_X7_putIn_0 ?_)
  unfold bX7_putIn_0
  exact e_ldA rfl (e_gR hx hR (e_ldI rfl (e_aR hk hN hj (by decide) ha (e_gR ka ra (e_ldI rfl (e_ldA rfl (y_sAR kp np he (by decide) kq (e_ldA rfl (e_ldI rfl (e_tI kq (e_rV h)))))))))))
theorem u_X7_takeOut_0 {Q : Option Value → MM → Prop} {n : Nat} {lv : Lv} {st : List Value} {S : MM} {c z : Nat} (h : bX7_takeOut_0 Q (wpn (kX7_takeOut Q) n) lv st S c z) : wpn (kX7_takeOut Q) (n + 1) 0 lv st S c z := h
theorem u_X7_takeOut_8 {Q : Option Value → MM → Prop} {n : Nat} {lv : Lv} {st : List Value} {S : MM} {c z : Nat} (h : bX7_takeOut_8 Q (wpn (kX7_takeOut Q) n) lv st S c z) : wpn (kX7_takeOut Q) (n + 1) 8 lv st S c z := h
theorem u_X7_takeOut_15 {Q : Option Value → MM → Prop} {n : Nat} {lv : Lv} {st : List Value} {S : MM} {c z : Nat} (h : bX7_takeOut_15 Q (wpn (kX7_takeOut Q) n) lv st S c z) : wpn (kX7_takeOut Q) (n + 1) 15 lv st S c z := h
theorem u_X7_takeOut_43 {Q : Option Value → MM → Prop} {n : Nat} {lv : Lv} {st : List Value} {S : MM} {c z : Nat} (h : bX7_takeOut_43 Q (wpn (kX7_takeOut Q) n) lv st S c z) : wpn (kX7_takeOut Q) (n + 1) 43 lv st S c z := h
/-- one turn of takeOut's loop -/
theorem q_to15 {Q : Option Value → MM → Prop} {n x a pp p j : Nat} {lv : Lv} {S : MM} (hT : TY S) (ir : IR S) (g0 : lvg lv 0 = some (.ref x)) (g1 : lvg lv 1 = some (.ref a)) (g2 : lvg lv 2 = some (.int (nI j))) (ka : sK S a = 1) (ra : sR S a 0 = some pp) (kp : sK S pp = 17) (np : sN S pp = 2) (hj : j < 2) (rp : sR S pp j = some p) (h : ∀ lv' S', lvg lv' 0 = some (.ref x) → lvg lv' 1 = some (.ref a) → lvg lv' 2 = some (.int (nI (j + 1))) → S' = pR (pI S p 2 (-1)) pp j none → TY S' → IR S' → GL VP S S' → wpn (kX7_takeOut Q) n 15 lv' [] S' 0 0) : wpn (kX7_takeOut Q) (n + 1) 15 lv [] S 0 0 := by
  obtain ⟨kq, nq⟩ := hT.2.2 pp 17 6 j p kp rfl rp
  have hT2 : TY (pI S p 2 (-1)) := hT
  have ir2 : IR (pI S p 2 (-1)) := IR_w ir kq (fun N e => nomatch (show (none : Option Nat) = some N from e))
  refine u_X7_takeOut_15 ?_
  unfold bX7_takeOut_15
  refine e_ldI g2 (e_cN 2 rfl (e_ge (by omega) (by decide) (fun h => absurd h (by omega)) (fun _ => e_ldA g1 (e_gR ka ra (e_ldI g2 (e_aR kp np hj (by decide) rp (e_cI (e_tI kq (e_ldA g1 (e_gR (S := pI S p 2 (-1)) ka ra (e_ldI g2 (e_nul (y_sAN (S := pI S p 2 (-1)) kp np hj (by decide) (e_inc g2 ?_))))))))))))))
  exact h _ _ (lvg_ne g0 rfl (by decide)) (lvg_ne g1 rfl (by decide)) lvg_self rfl (TY_p17 hT2 kp np (fun b hb => nomatch hb)) ir2 ((GL_pI kq (by decide) rfl (by decide)).tr (GL_p17 (S := pI S p 2 (-1)) kp np))
theorem z_X7_takeOut {Q : Option Value → MM → Prop} {S0 : MM} {x0 x1 : Nat} (hT : TY S0) (ir : IR S0) (k0 : sK S0 x0 = 8) (k1 : sK S0 x1 = 1) (K : ∀ S', GL VP S0 S' → TY S' → IR S' → (∀ a, sK S0 a ≠ 17 → sR S' a = sR S0 a) → sK S' = sK S0 → sN S' = sN S0 → Q none S') : wX7_takeOut [.ref x0, .ref x1] S0 Q := by
  refine Exists.intro 6 (u_X7_takeOut_0 ?_)
  unfold bX7_takeOut_0
  refine e_ldA rfl (And.intro k1 (And.intro ⟨by decide, by decide⟩ (z_X0_isPlugged hT k1 ?_ (fun hp => ?_))))
  · exact e_ifN (by decide) (fun _ => e_rV (K _ GL.rf hT ir (fun _ _ => rfl) rfl rfl)) (fun h => absurd rfl h)
  · refine e_ifN (by decide) (fun h => absurd h (by decide)) (fun _ => u_X7_takeOut_8 ?_)
    unfold bX7_takeOut_8
    refine e_ldA rfl (e_ldA rfl (And.intro k0 (And.intro ⟨by decide, by decide⟩ (z_X7_switchOff hT ir k0 k1 hp (fun S1 s1 ir1 => ?_)))))
    obtain ⟨pp, rp, kp, np⟩ := hT.1 x1 1 0 17 2 k1 rfl
    obtain ⟨p0, r0⟩ := hp pp 0 rp (by decide)
    obtain ⟨p1, r1⟩ := hp pp 1 rp (by decide)
    have hT1 := TY_SH hT s1
    have g1 : GL VP S0 S1 := GL.of s1 (by decide)
    refine e_cN 0 rfl (e_stI ?_)
    refine q_to15 (x := x0) (a := x1) (j := 0) hT1 ir1 (lvg_ne rfl rfl (by decide)) (lvg_ne rfl rfl (by decide)) lvg_self (SH_k s1 k1) (SH_r s1 rp) (SH_k s1 kp) (SH_n s1 np) (by decide) (SH_r s1 r0) (fun lv2 S2 a0 a1 a2 e2 hT2 ir2 g2 => ?_)
    have kk2 : sK S2 = sK S0 := by rw [e2]; exact s1.1
    have nn2 : sN S2 = sN S0 := by rw [e2]; exact s1.2.1
    have nap : x1 ≠ pp := ne_kd k1 kp (by decide)
    have rr2 : ∀ a, a ≠ pp → sR S2 a = sR S0 a := fun a ha => by rw [e2, sR_pR, up2_row ha, sR_pI, s1.2.2.1]
    have r12 : sR S2 pp 1 = some p1 := by rw [e2, sR_pR, up2_ne (by simp), sR_pI]; exact SH_r s1 r1
    refine q_to15 (x := x0) (a := x1) (j := 1) hT2 ir2 a0 a1 a2 (by rw [kk2]; exact k1) (by rw [rr2 x1 nap]; exact rp) (by rw [kk2]; exact kp) (by rw [nn2]; exact np) (by decide) r12 (fun lv3 S3 b0 b1 b2 e3 hT3 ir3 g3 => ?_)
    refine u_X7_takeOut_15 ?_
    unfold bX7_takeOut_15
    refine e_ldI b2 (e_cN 2 rfl (e_ge (by decide) (by decide) (fun _ => u_X7_takeOut_43 ?_) (fun h => absurd h (by decide))))
    unfold bX7_takeOut_43
    exact e_rV (K S3 ((g1.tr g2).tr g3) hT3 ir3 (fun a ha => by rw [e3, sR_pR, up2_row (fun z => ha (by rw [z]; exact kp)), sR_pI]; exact rr2 a (fun z => ha (by rw [z]; exact kp))) (by rw [e3]; exact kk2) (by rw [e3]; exact nn2))
