/-! SIMULATION 45: the start: a port as it is new, with all the numbers that the relation asks -/
def PQv (S : MM) (p : Nat) : Prop := sK S p = 6 ∧ sI S p 2 = -1 ∧ sI S p 3 = 0 ∧ sI S p 4 = 0 ∧ sI S p 5 = 0 ∧ sI S p 10 = -1 ∧ sI S p 11 = 0 ∧ sI S p 12 = 0 ∧ sI S p 16 = 0 ∧ sI S p 17 = 0 ∧ sI S p 6 = 0 ∧ sI S p 7 = 0 ∧ sI S p 8 = 0 ∧ sI S p 9 = 0
def PQ0 (S : MM) (p : Nat) (sys nm : Int32) : Prop := PQv S p ∧ (∃ t, sR S p 0 = some t ∧ T0 S t sys 100 nm) ∧ (∃ t, sR S p 1 = some t ∧ T0 S t 0 0 0) ∧ ∃ t, sR S p 14 = some t ∧ sK S t = 7
theorem PQv_ext {S S' : MM} {p : Nat} (h : PQv S p) (r : RS S S' p) : PQv S' p := by
  unfold PQv at h ⊢
  rw [r.1, r.2.2.1]
  exact h
theorem PQ0_ext {S S' : MM} {p : Nat} {sys nm : Int32} (h : PQ0 S p sys nm) (r : ∀ a, sK S a = 6 ∨ sK S a = 7 → RS S S' a) : PQ0 S' p sys nm := by
  obtain ⟨hv, ⟨t1, a1, b1⟩, ⟨t2, a2, b2⟩, t3, a3, b3⟩ := h
  have rp := r p (Or.inl hv.1)
  exact ⟨PQv_ext hv rp, ⟨t1, by rw [rp.2.2.2.1]; exact a1, T0_ext b1 (r t1 (Or.inr b1.1))⟩, ⟨t2, by rw [rp.2.2.2.1]; exact a2, T0_ext b2 (r t2 (Or.inr b2.1))⟩, t3, by rw [rp.2.2.2.1]; exact a3, by rw [(r t3 (Or.inr b3)).1]; exact b3⟩
def PQs (S : MM) (pa : Nat) (sys : Int32) (n : Nat) : Prop := ∀ j, j < n → ∃ p, sR S pa j = some p ∧ PQ0 S p sys (nI j)
def EQ0 (S : MM) (e : Nat) (sys : Int32) : Prop := E0v S e sys ∧ ∃ pa, sR S e 0 = some pa ∧ sK S pa = 17 ∧ sN S pa = 8 ∧ PQs S pa sys 8 ∧ ∃ ka, sR S e 4 = some ka ∧ sK S ka = 10 ∧ sN S ka = 200 ∧ ∀ j, sI S ka j = 0
theorem EQ0_ext {S S' : MM} {e : Nat} {sys : Int32} (h : EQ0 S e sys) (re : RS S S' e) (r : ∀ a, sK S a = 6 ∨ sK S a = 7 ∨ (sK S a = 17 ∧ sN S a = 8) ∨ (sK S a = 10 ∧ sN S a = 200) → RS S S' a) : EQ0 S' e sys := by
  obtain ⟨hv, pa, h1, h2, h3, h4, ka, c1, c2, c3, c4⟩ := h
  have rp := r pa (Or.inr (Or.inr (Or.inl ⟨h2, h3⟩)))
  have rk := r ka (Or.inr (Or.inr (Or.inr ⟨c2, c3⟩)))
  refine ⟨by unfold E0v at hv ⊢; rw [re.1, re.2.2.1]; exact hv, pa, by rw [re.2.2.2.1]; exact h1, by rw [rp.1]; exact h2, by rw [rp.2.1]; exact h3, fun j hj => ?_, ka, by rw [re.2.2.2.1]; exact c1, by rw [rk.1]; exact c2, by rw [rk.2.1]; exact c3, fun j => by rw [rk.2.2.1]; exact c4 j⟩
  obtain ⟨p, a1, a2⟩ := h4 j hj
  exact ⟨p, by rw [rp.2.2.2.1]; exact a1, PQ0_ext a2 (fun a ha => r a (ha.elim Or.inl (fun z => Or.inr (Or.inl z))))⟩
def BQ0 (S : MM) (x aE aC e0 e1 : Nat) : Prop := B0s S x aE aC e0 e1 ∧ (∀ j, sI S x j = 0) ∧ EQ0 S e0 10 ∧ EQ0 S e1 20 ∧ Cs S aC 8
theorem q_port0 {S : MM} {o : Nat} {Q : Option Value → MM → Prop} {U : Nat → Prop} (hU : TYU S U) (uo : U o) (hO : OC S) (hk : sK S o = 6) (hz : ∀ j, sI S o j = 0) (h : ∀ S' t1 t2 t3, Ex S S' (fun a => a = o) → PQv S' o → sR S' o 0 = some t1 → sR S' o 1 = some t2 → sR S' o 14 = some t3 → T0 S' t1 0 0 0 → T0 S' t2 0 0 0 → sK S' t3 = 7 → t1 ≠ t2 → t1 ≠ t3 → sK S t1 = 0 → sK S t2 = 0 → sN S' o = sN S o → TYU S' (fun a => U a ∧ a ≠ o) → OC S' → RX S S' → Q none S') : wX5_init [.ref o] S Q := by
  refine Exists.intro 1 (And.intro ⟨by decide, by decide⟩ (fun q1 hq1 => ?_))
  have n1 : o ≠ q1 := fun z => by rw [← z, hk] at hq1; cases hq1
  have k1 : sK (nw S q1 7 0) o = 6 := by rw [sK_nw, va_up_ne _ _ n1]; exact hk
  refine And.intro ⟨by decide, by decide⟩ (s_told0 (And.intro k1 (And.intro ⟨by decide, by decide⟩ (fun q2 hq2 => ?_))))
  have n2 : o ≠ q2 := fun z => by rw [← z] at hq2; exact absurd (k1.symm.trans hq2) (by decide)
  have n3 : q1 ≠ q2 := fun z => by rw [← z, sK_pR, sK_nw, va_up_self] at hq2; cases hq2
  have k2 : sK (nw (pR (nw S q1 7 0) o 0 (some q1)) q2 7 0) o = 6 := by rw [sK_nw, va_up_ne _ _ n2]; exact k1
  refine And.intro ⟨by decide, by decide⟩ (s_told0 (And.intro k2 (And.intro k2 (And.intro k2 (And.intro ⟨by decide, by decide⟩ (fun q3 hq3 => ?_))))))
  have n4 : o ≠ q3 := fun z => by rw [← z] at hq3; exact absurd (k2.symm.trans hq3) (by decide)
  have n5 : q1 ≠ q3 := fun z => by rw [← z, sK_pI, sK_pI, sK_pR, sK_nw, va_up_ne _ _ n3, sK_pR, sK_nw, va_up_self] at hq3; cases hq3
  have n6 : q2 ≠ q3 := fun z => by rw [← z, sK_pI, sK_pI, sK_pR, sK_nw, va_up_self] at hq3; cases hq3
  have k3 : sK (nw (pI (pI (pR (nw (pR (nw S q1 7 0) o 0 (some q1)) q2 7 0) o 1 (some q2)) o 2 (-1)) o 10 (-1)) q3 7 0) o = 6 := by rw [sK_nw, va_up_ne _ _ n4]; exact k2
  have e0 : Ex S (pR (nw (pR (nw S q1 7 0) o 0 (some q1)) q2 7 0) o 1 (some q2)) (fun a => a = o) := ((((Ex.rf (P := fun a => a = o)).nw hq1).pR (fun _ => rfl)).nw hq2).pR (fun _ => rfl)
  have z2 : sK S q2 = 0 := (((Ex.rf (P := fun a => a = o)).nw hq1).pR (k := 0) (v := some q1) (fun _ => rfl)).fr hq2 (fun z => n2 z.symm)
  have tu := TYU_wI (k := 15) (v := -1) (TYU_wR (k := 14) (v := some q3) (TYU_nwt (n := 0) (TYU_wI (k := 10) (v := -1) (TYU_wI (k := 2) (v := -1) (TYU_wR (k := 1) (v := some q2) (TYU_nwt (n := 0) (TYU_wR (k := 0) (v := some q1) (TYU_nwt (n := 0) hU hq1 (show tv 7 = true from rfl)) uo) hq2 (show tv 7 = true from rfl)) uo) uo) uo) hq3 (show tv 7 = true from rfl)) uo) uo
  have tc : TC (pI (pR (nw (pI (pI (pR (nw (pR (nw S q1 7 0) o 0 (some q1)) q2 7 0) o 1 (some q2)) o 2 (-1)) o 10 (-1)) q3 7 0) o 14 (some q3)) o 15 (-1)) o := by
    refine TCo (kd := 6) k3 (fun j k n e => ?_) (fun n => by simp [re]) rfl (fun j N e => by simp [rg] at e)
    have hj : j = 0 ∨ j = 1 ∨ j = 14 := by
      unfold rf at e
      split at e <;> simp at e <;> omega
    rcases hj with rfl | rfl | rfl
    · have e' : some (7, 0) = some (k, n) := e
      cases e'
      exact ⟨q1, by rw [sR_pI, sR_pR, up2_ne (by simp), sR_nw, cl2_row n4, sR_pI, sR_pI, sR_pR, up2_ne (by simp), sR_nw, cl2_row n2, sR_pR, up2_self], by rw [sK_pI, sK_pR, sK_nw, va_up_ne _ _ n5, sK_pI, sK_pI, sK_pR, sK_nw, va_up_ne _ _ n3, sK_pR, sK_nw, va_up_self], by rw [sN_pI, sN_pR, sN_nw, va_up_ne _ _ n5, sN_pI, sN_pI, sN_pR, sN_nw, va_up_ne _ _ n3, sN_pR, sN_nw, va_up_self]⟩
    · have e' : some (7, 0) = some (k, n) := e
      cases e'
      exact ⟨q2, by rw [sR_pI, sR_pR, up2_ne (by simp), sR_nw, cl2_row n4, sR_pI, sR_pI, sR_pR, up2_self], by rw [sK_pI, sK_pR, sK_nw, va_up_ne _ _ n6, sK_pI, sK_pI, sK_pR, sK_nw, va_up_self], by rw [sN_pI, sN_pR, sN_nw, va_up_ne _ _ n6, sN_pI, sN_pI, sN_pR, sN_nw, va_up_self]⟩
    · have e' : some (7, 0) = some (k, n) := e
      cases e'
      exact ⟨q3, by rw [sR_pI, sR_pR, up2_self], by rw [sK_pI, sK_pR, sK_nw, va_up_self], by rw [sN_pI, sN_pR, sN_nw, va_up_self]⟩
  have nn : sN (pI (pR (nw (pI (pI (pR (nw (pR (nw S q1 7 0) o 0 (some q1)) q2 7 0) o 1 (some q2)) o 2 (-1)) o 10 (-1)) q3 7 0) o 14 (some q3)) o 15 (-1)) o = sN S o := by rw [sN_pI, sN_pR, sN_nw, va_up_ne _ _ n4, sN_pI, sN_pI, sN_pR, sN_nw, va_up_ne _ _ n2, sN_pR, sN_nw, va_up_ne _ _ n1]
  have O2 : OC (pR (nw S q1 7 0) o 0 (some q1)) := OC_pR (OC_nw hO hq1) (NR_nw hO hq1) (nz_nw (by decide))
  have O4 : OC (pI (pI (pR (nw (pR (nw S q1 7 0) o 0 (some q1)) q2 7 0) o 1 (some q2)) o 2 (-1)) o 10 (-1)) := OC_pR (S := nw (pR (nw S q1 7 0) o 0 (some q1)) q2 7 0) (OC_nw O2 hq2) (NR_nw O2 hq2) (nz_nw (by decide))
  have O6 : OC (pI (pR (nw (pI (pI (pR (nw (pR (nw S q1 7 0) o 0 (some q1)) q2 7 0) o 1 (some q2)) o 2 (-1)) o 10 (-1)) q3 7 0) o 14 (some q3)) o 15 (-1)) := OC_pR (S := nw (pI (pI (pR (nw (pR (nw S q1 7 0) o 0 (some q1)) q2 7 0) o 1 (some q2)) o 2 (-1)) o 10 (-1)) q3 7 0) (OC_nw O4 hq3) (NR_nw O4 hq3) (nz_nw (by decide))
  have g2 : GK S (pR (nw S q1 7 0) o 0 (some q1)) := (GK.rf.nw hq1).pR
  have g4 : GK S (pI (pI (pR (nw (pR (nw S q1 7 0) o 0 (some q1)) q2 7 0) o 1 (some q2)) o 2 (-1)) o 10 (-1)) := (g2.nw (S1 := (pR (nw S q1 7 0) o 0 (some q1))) hq2)
  have R2 : RX S (pR (nw S q1 7 0) o 0 (some q1)) := RX_pR (RX_nw RX.rf) hq1
  have R4 : RX S (pI (pI (pR (nw (pR (nw S q1 7 0) o 0 (some q1)) q2 7 0) o 1 (some q2)) o 2 (-1)) o 10 (-1)) := RX_pR (S := nw (pR (nw S q1 7 0) o 0 (some q1)) q2 7 0) (RX_nw R2) (GK_0 g2 hq2)
  have R6 : RX S (pI (pR (nw (pI (pI (pR (nw (pR (nw S q1 7 0) o 0 (some q1)) q2 7 0) o 1 (some q2)) o 2 (-1)) o 10 (-1)) q3 7 0) o 14 (some q3)) o 15 (-1)) := RX_pR (S := nw (pI (pI (pR (nw (pR (nw S q1 7 0) o 0 (some q1)) q2 7 0) o 1 (some q2)) o 2 (-1)) o 10 (-1)) q3 7 0) (RX_nw R4) (GK_0 g4 hq3)
  refine And.intro ⟨by decide, by decide⟩ (s_told0 (And.intro k3 (And.intro k3 (h _ q1 q2 q3 ((((e0.pI (fun _ => rfl)).pI (fun _ => rfl)).nw hq3).pR (fun _ => rfl) |>.pI (fun _ => rfl)) ?_ ?_ ?_ ?_ ?_ ?_ ?_ n3 n5 hq1 z2 nn (TYU_fin tu tc (fun a h1 h2 => ⟨h1, h2⟩)) O6 R6))))
  · have hI : ∀ j, sI (pI (pR (nw (pI (pI (pR (nw (pR (nw S q1 7 0) o 0 (some q1)) q2 7 0) o 1 (some q2)) o 2 (-1)) o 10 (-1)) q3 7 0) o 14 (some q3)) o 15 (-1)) o j = if j = 15 then -1 else if j = 10 then -1 else if j = 2 then -1 else 0 := by
      intro j
      rw [sI_pI, sI_pR, sI_nw]
      unfold up2
      rw [cl2_row n4, sI_pI, sI_pI]
      unfold up2
      rw [sI_pR, sI_nw, cl2_row n2, sI_pR, sI_nw, cl2_row n1, hz]
      simp
    exact ⟨k3, by rw [hI]; rfl, by rw [hI]; rfl, by rw [hI]; rfl, by rw [hI]; rfl, by rw [hI]; rfl, by rw [hI]; rfl, by rw [hI]; rfl, by rw [hI]; rfl, by rw [hI]; rfl, by rw [hI]; rfl, by rw [hI]; rfl, by rw [hI]; rfl, by rw [hI]; rfl⟩
  · rw [sR_pI, sR_pR, up2_ne (by simp), sR_nw, cl2_row n4, sR_pI, sR_pI, sR_pR, up2_ne (by simp), sR_nw, cl2_row n2, sR_pR, up2_self]
  · rw [sR_pI, sR_pR, up2_ne (by simp), sR_nw, cl2_row n4, sR_pI, sR_pI, sR_pR, up2_self]
  · rw [sR_pI, sR_pR, up2_self]
  · have r1 : RS (nw S q1 7 0) (pI (pR (nw (pI (pI (pR (nw (pR (nw S q1 7 0) o 0 (some q1)) q2 7 0) o 1 (some q2)) o 2 (-1)) o 10 (-1)) q3 7 0) o 14 (some q3)) o 15 (-1)) q1 := (((((((RS_pR n1.symm).tr (RS_nw n3)).tr (RS_pR n1.symm)).tr (RS_pI n1.symm)).tr (RS_pI n1.symm)).tr (RS_nw n5)).tr (RS_pR n1.symm)).tr (RS_pI n1.symm)
    refine T0_ext ?_ r1
    exact ⟨by rw [sK_nw, va_up_self], by rw [sI_nw, cl2_self], by rw [sI_nw, cl2_self], by rw [sI_nw, cl2_self], by rw [sI_nw, cl2_self], by rw [sI_nw, cl2_self]⟩
  · have r1 : RS (nw (pR (nw S q1 7 0) o 0 (some q1)) q2 7 0) (pI (pR (nw (pI (pI (pR (nw (pR (nw S q1 7 0) o 0 (some q1)) q2 7 0) o 1 (some q2)) o 2 (-1)) o 10 (-1)) q3 7 0) o 14 (some q3)) o 15 (-1)) q2 := (((((RS_pR n2.symm).tr (RS_pI n2.symm)).tr (RS_pI n2.symm)).tr (RS_nw n6)).tr (RS_pR n2.symm)).tr (RS_pI n2.symm)
    refine T0_ext ?_ r1
    exact ⟨by rw [sK_nw, va_up_self], by rw [sI_nw, cl2_self], by rw [sI_nw, cl2_self], by rw [sI_nw, cl2_self], by rw [sI_nw, cl2_self], by rw [sI_nw, cl2_self]⟩
  · rw [sK_pI, sK_pR, sK_nw, va_up_self]
set_option maxHeartbeats 1000000 in
theorem q_endL {Q : Option Value → MM → Prop} {o pa : Nat} {sys : Int32} {U : Nat → Prop} (uo : U o) (up : U pa) : ∀ (n i : Nat) (ex : Lv) (S : MM) (c z : Nat), i + n = 8 → (ex = [] ∨ ∃ w, ex = [(3, .ref w)]) → sK S o = 2 → sR S o 0 = some pa → sK S pa = 17 → sN S pa = 8 → PQs S pa sys i → TYU S U → AI S pa 6 i → OC S → c + 4 * n ≤ 34 → z + 33 * n ≤ 472 →
    (∀ S', Ex S S' (fun a => a = pa) → sK S' pa = 17 → sN S' pa = 8 → PQs S' pa sys 8 → TYU S' U → AI S' pa 6 8 → GK S S' → OC S' → RX S S' → Q none S') → wpn (kX1_init Q) (n + 2) 35 ((2, .int (nI i)) :: (ex ++ [(0, .ref o), (1, .int sys)])) [] S c z := by
  intro n
  induction n with
  | zero =>
    intro i ex S c z hi hex ho hoR hp hpN hps hU hA hO hc hz K
    have e8 : i = 8 := by omega
    subst e8
    rcases hex with rfl | ⟨w, rfl⟩
    · exact And.intro (fun _ => K S Ex.rf hp hpN hps hU hA (fun _ _ => ⟨rfl, rfl⟩) hO RX.rf) (fun h => absurd (by decide) h)
    · exact And.intro (fun _ => K S Ex.rf hp hpN hps hU hA (fun _ _ => ⟨rfl, rfl⟩) hO RX.rf) (fun h => absurd (by decide) h)
  | succ n ih =>
    intro i ex S c z hi hex ho hoR hp hpN hps hU hA hO hc hz K
    have hi8 : i < 8 := by omega
    have body : ∀ q, sK S q = 0 → ∀ S' t1 t2 t3, Ex (nw S q 6 0) S' (fun a => a = q) → PQv S' q → sR S' q 0 = some t1 → sR S' q 1 = some t2 → sR S' q 14 = some t3 → T0 S' t1 0 0 0 → T0 S' t2 0 0 0 → sK S' t3 = 7 → t1 ≠ t2 → t1 ≠ t3 → sK (nw S q 6 0) t1 = 0 → sK (nw S q 6 0) t2 = 0 →
        (sK S' o = 2 ∧ sR S' o 0 = some pa ∧ sK S' pa = 17 ∧ sN S' pa = 8) ∧ (∀ S6, S6 = pR (pI (pI (pI S' t1 0 sys) t1 2 100) t1 3 (nI i)) pa i (some q) → Ex S S6 (fun a => a = pa) ∧ PQs S6 pa sys (i + 1)) := by
      intro q hq S' t1 t2 t3 hE hv h0 h1 h2 hT1 hT2 hT3 n12 n13 f1 f2
      have old : ∀ a, sK S a ≠ 0 → a ≠ q ∧ RS S S' a := fun a ha => by
        have hn : a ≠ q := fun z => ha (by rw [z]; exact hq)
        have r1 : RS S (nw S q 6 0) a := RS_nw hn
        exact ⟨hn, r1.tr (hE a (by rw [r1.1]; exact ha) hn)⟩
      have oo := (old o (by rw [ho]; decide)).2
      have op := (old pa (by rw [hp]; decide)).2
      have qt : q ≠ t1 := fun z => by have := hv.1; rw [z, hT1.1] at this; cases this
      have qt2 : q ≠ t2 := fun z => by have := hv.1; rw [z, hT2.1] at this; cases this
      have qp : q ≠ pa := fun z => by have := hp; rw [← z, hq] at this; cases this
      have g1 : sK S t1 = 0 := by rw [sK_nw, va_up_ne _ _ qt.symm] at f1; exact f1
      have g2 : sK S t2 = 0 := by rw [sK_nw, va_up_ne _ _ qt2.symm] at f2; exact f2
      refine ⟨⟨by rw [oo.1]; exact ho, by rw [oo.2.2.2.1]; exact hoR, by rw [op.1]; exact hp, by rw [op.2.1]; exact hpN⟩, ?_⟩
      intro S6 hS6
      have st : ∀ a, a ≠ t1 → a ≠ pa → RS S' S6 a := fun a a1 a2 => by
        rw [hS6]
        exact (((RS_pI a1).tr (RS_pI a1)).tr (RS_pI a1)).tr (RS_pR a2)
      have ol6 : ∀ a, sK S a ≠ 0 → a ≠ pa → RS S S6 a := fun a ha h2 => (old a ha).2.tr (st a (fun z => ha (by rw [z]; exact g1)) h2)
      refine ⟨fun a ha h2 => ol6 a ha h2, fun j hj => ?_⟩
      by_cases hji : j = i
      · subst hji
        have pt1 : pa ≠ t1 := fun z => by have := hp; rw [z, g1] at this; cases this
        have pt2 : t2 ≠ pa := fun z => by have := hp; rw [← z, g2] at this; cases this
        refine ⟨q, by rw [hS6, sR_pR, up2_self], PQv_ext hv (st q qt qp), ⟨t1, by rw [(st q qt qp).2.2.2.1]; exact h0, ?_⟩, ⟨t2, by rw [(st q qt qp).2.2.2.1]; exact h1, T0_ext hT2 (st t2 n12.symm pt2)⟩, t3, by rw [(st q qt qp).2.2.2.1]; exact h2, ?_⟩
        · obtain ⟨x0, x1, x2, x3, x4, x5⟩ := hT1
          rw [hS6]
          unfold T0
          rw [sK_pR, sI_pR, sI_pI, sI_pI, sI_pI]
          refine ⟨x0, ?_, ?_, ?_, ?_, ?_⟩
          · rw [up2_ne (by simp), up2_ne (by simp), up2_self]
          · rw [up2_ne (by simp), up2_ne (by simp), up2_ne (by simp)]; exact x2
          · rw [up2_ne (by simp), up2_self]
          · rw [up2_self]
          · rw [up2_ne (by simp), up2_ne (by simp), up2_ne (by simp)]; exact x5
        · rw [hS6]; exact hT3
      · obtain ⟨p, a1, a2⟩ := hps j (by omega)
        refine ⟨p, ?_, PQ0_ext a2 (fun a ha => ol6 a (by rcases ha with h | h <;> rw [h] <;> decide) (fun z => by rw [z, hp] at ha; rcases ha with h | h <;> cases h))⟩
        rw [hS6, sR_pR, up2_ne (fun z => hji z.2)]
        show sR S' pa j = some p
        rw [op.2.2.2.1]
        exact a1
    have hv8 : vp_in (nI i) 8 := in_nI hi8 (by decide)
    have hcl : (nI i).toNatClampNeg = i := cl_nI (by omega)
    rcases hex with rfl | ⟨w, rfl⟩ <;>
    · refine And.intro (fun h => absurd h (n8_ge hi8)) (fun _ => And.intro ⟨by omega, by show z + 18 ≤ 472; omega⟩ (fun q hq => And.intro ⟨by omega, by show z + 18 + 15 ≤ 472; omega⟩ ?_))
      refine q_port0 (U := fun a => U a ∨ a = q) (TYU_nw hU hq) (Or.inr rfl) (OC_nw hO hq) (by rw [sK_nw, va_up_self]) (fun j => by rw [sI_nw, cl2_self]) (fun S' t1 t2 t3 hE hv h0 h1 h2 hT1 hT2 hT3 n12 n13 f1 f2 nq tq oc rx => ?_)
      obtain ⟨⟨b1, b2, b3, b4⟩, hb2⟩ := body q hq S' t1 t2 t3 hE hv h0 h1 h2 hT1 hT2 hT3 n12 n13 f1 f2
      obtain ⟨hE6, hP6⟩ := hb2 _ rfl
      have nq0 : sN S' q = 0 := by rw [nq, sN_nw, va_up_self]
      have tU : TYU S' U := TYU_weak tq (fun a ha => ha.1.elim id (fun z => absurd z ha.2))
      have gk : GK S S' := (GK_nw hq).tr (Ex_GK hE (by rw [hv.1, sK_nw, va_up_self]) nq)
      have rp : RS S S' pa := by
        have hn : pa ≠ q := fun z => by rw [z, hq] at hp; cases hp
        have r1 : RS S (nw S q 6 0) pa := RS_nw hn
        exact r1.tr (hE pa (by rw [r1.1, hp]; decide) hn)
      have tv1 : tv (sK S' t1) = true := by rw [hT1.1]; rfl
      have tU6 : TYU (pR (pI (pI (pI S' t1 0 sys) t1 2 100) t1 3 (nI i)) pa i (some q)) U := TYU_wR (TYU_tI (TYU_tI (TYU_tI tU tv1) tv1) tv1) up
      have hA5 : AI S' pa 6 i := AI_ext hA rp gk (by decide)
      have hA6 : AI (pR (pI (pI (pI S' t1 0 sys) t1 2 100) t1 3 (nI i)) pa i (some q)) pa 6 (i + 1) := AI_put (S := pI (pI (pI S' t1 0 sys) t1 2 100) t1 3 (nI i)) hA5 hv.1 nq0
      have rx1 : RX S S' := RX.tr (RX_nw RX.rf) rx (GK_nw hq)
      have nrq : NR S' q := NR_rx (NR_nw hO hq) rx (nz_nw (by decide))
      have oc6 : OC (pR (pI (pI (pI S' t1 0 sys) t1 2 100) t1 3 (nI i)) pa i (some q)) := OC_pR (S := pI (pI (pI S' t1 0 sys) t1 2 100) t1 3 (nI i)) oc nrq (by show sK S' q ≠ 0; rw [hv.1]; decide)
      have rx6 : RX S (pR (pI (pI (pI S' t1 0 sys) t1 2 100) t1 3 (nI i)) pa i (some q)) := RX_pR (S := pI (pI (pI S' t1 0 sys) t1 2 100) t1 3 (nI i)) rx1 hq
      have nx := ih (i + 1) [(3, .ref q)] (pR (pI (pI (pI S' t1 0 sys) t1 2 100) t1 3 (nI i)) pa i (some q)) (c + 1 + 3) (z + 18 + 15) (by omega) (Or.inr ⟨q, rfl⟩) b1 (by rw [sR_pR, up2_ne (fun z => by have h9 := b1; rw [z.1, b3] at h9; cases h9)]; exact b2) b3 b4 hP6 tU6 hA6 oc6 (by omega) (by omega) (fun S9 e9 k9 n9 p9 t9 a9 g9 o9 x9 => K S9 (hE6.tr e9 (fun _ _ h => h) (fun _ _ h => h)) k9 n9 p9 t9 a9 (gk.tr (GK.tr (fun _ _ => ⟨rfl, rfl⟩) g9)) o9 (RX.tr rx6 x9 gk))
      rw [← nI_1 i] at nx
      refine And.intro hv.1 (useR h0 (And.intro hT1.1 (And.intro hv.1 (useR h0 (And.intro hT1.1 (And.intro hv.1 (useR h0 (And.intro hT1.1 (And.intro b1 (useR b2 (And.intro b3 (And.intro (by show vp_in (nI i) (sN S' pa); rw [b4]; exact hv8) (And.intro hv.1 ?_)))))))))))))
      show wpn (kX1_init Q) (n + 2) 35 _ [] (pR (pI (pI (pI S' t1 0 sys) t1 2 100) t1 3 (nI i)) pa (nI i).toNatClampNeg (some q)) _ _
      rw [hcl]
      exact nx
theorem q_end0 {S : MM} {o : Nat} {sys : Int32} {Q : Option Value → MM → Prop} {U : Nat → Prop} (hU : TYU S U) (uo : U o) (hO : OC S) (hk : sK S o = 2) (hz : ∀ j, sI S o j = 0) (h : ∀ S', Ex S S' (fun a => a = o) → EQ0 S' o sys → sN S' o = sN S o → TYU S' (fun a => U a ∧ a ≠ o) → OC S' → RX S S' → Q none S') : wX1_init [.ref o, .int sys] S Q := by
  refine Exists.intro 11 (And.intro (by decide) (And.intro ⟨by decide, by decide, by decide⟩ (fun pa hpa => ?_)))
  have n1 : o ≠ pa := fun z => by rw [← z, hk] at hpa; cases hpa
  have k1 : sK (nw S pa 17 8) o = 2 := by rw [sK_nw, va_up_ne _ _ n1]; exact hk
  refine And.intro k1 (And.intro k1 (And.intro (by decide) (And.intro ⟨by decide, by decide, by decide⟩ (fun ka hka => ?_))))
  have n2 : o ≠ ka := fun z => by rw [← z] at hka; exact absurd (k1.symm.trans hka) (by decide)
  have n3 : pa ≠ ka := fun z => by rw [← z, sK_pI, sK_pR, sK_nw, va_up_self] at hka; cases hka
  have k2 : sK (nw (pI (pR (nw S pa 17 8) o 0 (some pa)) o 2 8) ka 10 200) o = 2 := by rw [sK_nw, va_up_ne _ _ n2]; exact k1
  refine And.intro k2 (And.intro k2 ?_)
  have e0 : Ex S (pI (pR (nw (pI (pR (nw S pa 17 8) o 0 (some pa)) o 2 8) ka 10 200) o 4 (some ka)) o 1 sys) (fun a => a = o) := ((((((Ex.rf (P := fun a => a = o)).nw hpa).pR (fun _ => rfl)).pI (fun _ => rfl)).nw hka).pR (fun _ => rfl)).pI (fun _ => rfl)
  have tu0 : TYU (pI (pR (nw (pI (pR (nw S pa 17 8) o 0 (some pa)) o 2 8) ka 10 200) o 4 (some ka)) o 1 sys) (fun a => U a ∨ a = pa) := TYU_wI (TYU_wR (TYU_nwt (TYU_wI (TYU_wR (TYU_nw hU hpa) (Or.inl uo)) (Or.inl uo)) hka rfl) (Or.inl uo)) (Or.inl uo)
  have rA0 : ∀ j, sR (pI (pR (nw (pI (pR (nw S pa 17 8) o 0 (some pa)) o 2 8) ka 10 200) o 4 (some ka)) o 1 sys) pa j = none := fun j => by rw [sR_pI, sR_pR, up2_ne (fun z => n1 z.1.symm), sR_nw, cl2_row n3, sR_pI, sR_pR, up2_ne (fun z => n1 z.1.symm), sR_nw, cl2_self]
  have rK0 : sR (pI (pR (nw (pI (pR (nw S pa 17 8) o 0 (some pa)) o 2 8) ka 10 200) o 4 (some ka)) o 1 sys) o 4 = some ka := by rw [sR_pI, sR_pR, up2_self]
  have kK0 : sK (pI (pR (nw (pI (pR (nw S pa 17 8) o 0 (some pa)) o 2 8) ka 10 200) o 4 (some ka)) o 1 sys) ka = 10 := by rw [sK_pI, sK_pR, sK_nw, va_up_self]
  have nK0 : sN (pI (pR (nw (pI (pR (nw S pa 17 8) o 0 (some pa)) o 2 8) ka 10 200) o 4 (some ka)) o 1 sys) ka = 200 := by rw [sN_pI, sN_pR, sN_nw, va_up_self]
  have vK0 : ∀ j, sI (pI (pR (nw (pI (pR (nw S pa 17 8) o 0 (some pa)) o 2 8) ka 10 200) o 4 (some ka)) o 1 sys) ka j = 0 := fun j => by rw [sI_pI, up2_ne (fun z => n2 z.1.symm), sI_pR, sI_nw, cl2_self]
  have nO0 : sN (pI (pR (nw (pI (pR (nw S pa 17 8) o 0 (some pa)) o 2 8) ka 10 200) o 4 (some ka)) o 1 sys) o = sN S o := by rw [sN_pI, sN_pR, sN_nw, va_up_ne _ _ n2, sN_pI, sN_pR, sN_nw, va_up_ne _ _ n1]
  have oc1 : OC (pI (pR (nw S pa 17 8) o 0 (some pa)) o 2 8) := OC_pR (S := nw S pa 17 8) (OC_nw hO hpa) (NR_nw hO hpa) (nz_nw (by decide))
  have oc2 : OC (pI (pR (nw (pI (pR (nw S pa 17 8) o 0 (some pa)) o 2 8) ka 10 200) o 4 (some ka)) o 1 sys) := OC_pR (S := nw (pI (pR (nw S pa 17 8) o 0 (some pa)) o 2 8) ka 10 200) (OC_nw oc1 hka) (NR_nw oc1 hka) (nz_nw (by decide))
  have gk1 : GK S (pI (pR (nw S pa 17 8) o 0 (some pa)) o 2 8) := (GK.rf.nw hpa)
  have gk2 : GK S (pI (pR (nw (pI (pR (nw S pa 17 8) o 0 (some pa)) o 2 8) ka 10 200) o 4 (some ka)) o 1 sys) := gk1.nw (S1 := (pI (pR (nw S pa 17 8) o 0 (some pa)) o 2 8)) hka
  have rx1 : RX S (pI (pR (nw S pa 17 8) o 0 (some pa)) o 2 8) := RX_pR (S := nw S pa 17 8) (RX_nw RX.rf) hpa
  have rx2 : RX S (pI (pR (nw (pI (pR (nw S pa 17 8) o 0 (some pa)) o 2 8) ka 10 200) o 4 (some ka)) o 1 sys) := RX_pR (S := nw (pI (pR (nw S pa 17 8) o 0 (some pa)) o 2 8) ka 10 200) (RX_nw rx1) (GK_0 gk1 hka)
  generalize hS1 : pI (pR (nw (pI (pR (nw S pa 17 8) o 0 (some pa)) o 2 8) ka 10 200) o 4 (some ka)) o 1 sys = S1 at e0 oc2 gk2 rx2 tu0 rA0 rK0 kK0 nK0 vK0 nO0
  have kS : sK S1 o = 2 := by rw [← hS1]; exact k2
  have rS : sR S1 o 0 = some pa := by rw [← hS1, sR_pI, sR_pR, up2_ne (by simp), sR_nw, cl2_row n2, sR_pI, sR_pR, up2_self]
  have kP : sK S1 pa = 17 := by rw [← hS1, sK_pI, sK_pR, sK_nw, va_up_ne _ _ n3, sK_pI, sK_pR, sK_nw, va_up_self]
  have nP : sN S1 pa = 8 := by rw [← hS1, sN_pI, sN_pR, sN_nw, va_up_ne _ _ n3, sN_pI, sN_pR, sN_nw, va_up_self]
  have vS : ∀ j, sI S1 o j = if j = 1 then sys else if j = 2 then 8 else 0 := by
    intro j
    rw [← hS1, sI_pI, sI_pR, sI_nw]
    unfold up2
    rw [cl2_row n2, sI_pI]
    unfold up2
    rw [sI_pR, sI_nw, cl2_row n1, hz]
    simp
  have key := q_endL (Q := Q) (o := o) (pa := pa) (sys := sys) (U := fun a => U a ∨ a = pa) (Or.inl uo) (Or.inr rfl) 8 0 [] S1 2 208 rfl (Or.inl rfl) kS rS kP nP (fun j hj => by omega) tu0 (AI_none rA0) oc2 (by decide) (by decide) (fun S' e9 k9 n9 p9 t9 a9 g9 o9 x9 => ?_)
  · rw [← hS1] at key
    exact key
  · have ro := e9 o (by rw [kS]; decide) n1
    have rkk := e9 ka (by rw [kK0]; decide) (Ne.symm n3)
    have tcp : TC S' pa := TCa (ka := 17) (na := 8) (kd := 6) k9 n9 (fun j => by simp [rf]) (Or.inl rfl) (Or.inl rfl) (fun j => by simp [rg]) (Or.inl a9)
    have vo : ∀ j, sI S' o j = if j = 1 then sys else if j = 2 then 8 else 0 := fun j => by rw [ro.2.2.1]; exact vS j
    have tco : TC S' o := by
      refine TCo (kd := 2) (by rw [ro.1]; exact kS) (fun j k n e => ?_) (fun n => by simp [re]) rfl (fun j N e => ?_)
      · have hj : j = 0 ∨ j = 4 := by
          unfold rf at e
          split at e <;> simp at e <;> omega
        rcases hj with rfl | rfl
        · have e' : some (17, 8) = some (k, n) := e
          cases e'
          exact ⟨pa, by rw [ro.2.2.2.1]; exact rS, k9, n9⟩
        · have e' : some (10, 200) = some (k, n) := e
          cases e'
          have gk := g9 ka (by rw [kK0]; decide)
          exact ⟨ka, by rw [ro.2.2.2.1]; exact rK0, by rw [gk.1]; exact kK0, by rw [gk.2]; exact nK0⟩
      · have hj : j = 5 ∨ j = 6 := by
          unfold rg at e
          split at e <;> simp at e <;> omega
        rcases hj with rfl | rfl
        · have e' : some 51 = some N := e
          cases e'
          exact ⟨0, by decide, by rw [vo]; rfl⟩
        · have e' : some 50 = some N := e
          cases e'
          exact ⟨0, by decide, by rw [vo]; rfl⟩
    refine h S' (e0.tr e9 (fun _ _ z => z) (fun a ha z => by rw [z] at ha; exact absurd hpa ha)) ⟨⟨by rw [ro.1]; exact kS, ?_⟩, pa, by rw [ro.2.2.2.1]; exact rS, k9, n9, p9, ka, by rw [ro.2.2.2.1]; exact rK0, by rw [rkk.1]; exact kK0, by rw [rkk.2.1]; exact nK0, fun j => by rw [rkk.2.2.1]; exact vK0 j⟩ (by rw [ro.2.1]; exact nO0) (TYU_fin (TYU_fin t9 tcp (U' := U) (fun a h1 h2 => h1.elim id (fun z => absurd z h2))) tco (fun a h1 h2 => ⟨h1, h2⟩)) o9 (RX.tr rx2 x9 gk2)
    rw [ro.2.2.1]
    exact ⟨by rw [vS]; rfl, by rw [vS]; rfl, by rw [vS]; rfl, by rw [vS]; rfl, by rw [vS]; rfl, by rw [vS]; rfl, by rw [vS]; rfl⟩
set_option maxRecDepth 20000 in
set_option maxHeartbeats 1000000 in
theorem q_bp0 {S : MM} {x : Nat} {Q : Option Value → MM → Prop} {U : Nat → Prop} (hU : TYU S U) (uo : U x) (hO : OC S) (hk : sK S x = 8) (hz : ∀ j, sI S x j = 0) (h : ∀ S' aE aC e0 e1, Ex S S' (fun a => a = x) → BQ0 S' x aE aC e0 e1 → TYU S' (fun a => U a ∧ a ≠ x) → OC S' → Q none S') : wX7_init [.ref x] S Q := by
  refine Exists.intro 11 (And.intro (by decide) (And.intro ⟨by decide, by decide, by decide⟩ (fun aE haE => ?_)))
  have n1 : x ≠ aE := fun z => by rw [← z, hk] at haE; cases haE
  have k1 : sK (nw S aE 13 2) x = 8 := by rw [sK_nw, va_up_ne _ _ n1]; exact hk
  refine And.intro k1 (And.intro (by decide) (And.intro ⟨by decide, by decide, by decide⟩ (fun aC haC => ?_)))
  have n2 : x ≠ aC := fun z => by rw [← z] at haC; exact absurd (k1.symm.trans haC) (by decide)
  have n3 : aE ≠ aC := fun z => by rw [← z, sK_pR, sK_nw, va_up_self] at haC; cases haC
  have z2 : sK S aC = 0 := (((Ex.rf (P := fun a => a = x)).nw haE).pR (k := 0) (v := some aE) (fun _ => rfl)).fr haC (fun z => n2 z.symm)
  have k2 : sK (nw (pR (nw S aE 13 2) x 0 (some aE)) aC 12 8) x = 8 := by rw [sK_nw, va_up_ne _ _ n2]; exact k1
  have ex1 : Ex S (pR (nw (pR (nw S aE 13 2) x 0 (some aE)) aC 12 8) x 1 (some aC)) (fun a => a = x) := ((((Ex.rf (P := fun a => a = x)).nw haE).pR (fun _ => rfl)).nw haC).pR (fun _ => rfl)
  have w1 : sR (pR (nw (pR (nw S aE 13 2) x 0 (some aE)) aC 12 8) x 1 (some aC)) x 0 = some aE := by rw [sR_pR, up2_ne (by simp), sR_nw, cl2_row n2, sR_pR, up2_self]
  have w2 : sR (pR (nw (pR (nw S aE 13 2) x 0 (some aE)) aC 12 8) x 1 (some aC)) x 1 = some aC := by rw [sR_pR, up2_self]
  have w3 : sK (pR (nw (pR (nw S aE 13 2) x 0 (some aE)) aC 12 8) x 1 (some aC)) aE = 13 := by rw [sK_pR, sK_nw, va_up_ne _ _ n3, sK_pR, sK_nw, va_up_self]
  have w4 : sN (pR (nw (pR (nw S aE 13 2) x 0 (some aE)) aC 12 8) x 1 (some aC)) aE = 2 := by rw [sN_pR, sN_nw, va_up_ne _ _ n3, sN_pR, sN_nw, va_up_self]
  have w5 : sK (pR (nw (pR (nw S aE 13 2) x 0 (some aE)) aC 12 8) x 1 (some aC)) aC = 12 := by rw [sK_pR, sK_nw, va_up_self]
  have w6 : sN (pR (nw (pR (nw S aE 13 2) x 0 (some aE)) aC 12 8) x 1 (some aC)) aC = 8 := by rw [sN_pR, sN_nw, va_up_self]
  have w7 : ∀ j, sI (pR (nw (pR (nw S aE 13 2) x 0 (some aE)) aC 12 8) x 1 (some aC)) x j = 0 := fun j => by rw [sI_pR, sI_nw, cl2_row n2, sI_pR, sI_nw, cl2_row n1]; exact hz j
  have w0 : sK (pR (nw (pR (nw S aE 13 2) x 0 (some aE)) aC 12 8) x 1 (some aC)) x = 8 := by rw [sK_pR]; exact k2
  have rE0 : ∀ j, sR (pR (nw (pR (nw S aE 13 2) x 0 (some aE)) aC 12 8) x 1 (some aC)) aE j = none := fun j => by rw [sR_pR, up2_ne (fun z => n1 z.1.symm), sR_nw, cl2_row n3, sR_pR, up2_ne (fun z => n1 z.1.symm), sR_nw, cl2_self]
  have rC0 : ∀ j, sR (pR (nw (pR (nw S aE 13 2) x 0 (some aE)) aC 12 8) x 1 (some aC)) aC j = none := fun j => by rw [sR_pR, up2_ne (fun z => n2 z.1.symm), sR_nw, cl2_self]
  have aiE : AI (pR (nw (pR (nw S aE 13 2) x 0 (some aE)) aC 12 8) x 1 (some aC)) aE 2 0 := AI_none rE0
  have aiC : AI (pR (nw (pR (nw S aE 13 2) x 0 (some aE)) aC 12 8) x 1 (some aC)) aC 1 0 := AI_none rC0
  have tu1 : TYU (pR (nw (pR (nw S aE 13 2) x 0 (some aE)) aC 12 8) x 1 (some aC)) (fun a => (U a ∨ a = aE) ∨ a = aC) := TYU_wR (TYU_nw (TYU_wR (TYU_nw hU haE) (Or.inl uo)) haC) (Or.inl (Or.inl uo))
  have oc1 : OC (pR (nw S aE 13 2) x 0 (some aE)) := OC_pR (OC_nw hO haE) (NR_nw hO haE) (nz_nw (by decide))
  have oc2 : OC (pR (nw (pR (nw S aE 13 2) x 0 (some aE)) aC 12 8) x 1 (some aC)) := OC_pR (OC_nw oc1 haC) (NR_nw oc1 haC) (nz_nw (by decide))
  refine And.intro k2 ?_
  show ldA 0 _ [(0, .ref x)] [] (pR (nw (pR (nw S aE 13 2) x 0 (some aE)) aC 12 8) x 1 (some aC)) 2 10
  generalize pR (nw (pR (nw S aE 13 2) x 0 (some aE)) aC 12 8) x 1 (some aC) = S1 at oc2 tu1 aiE aiC ex1 w0 w1 w2 w3 w4 w5 w6 w7 ⊢
  refine And.intro w0 (useR w1 (And.intro ⟨by decide, by decide⟩ (fun e0 he0 => And.intro ⟨by decide, by decide⟩ ?_)))
  refine q_end0 (U := fun a => ((U a ∨ a = aE) ∨ a = aC) ∨ a = e0) (TYU_nw tu1 he0) (Or.inr rfl) (OC_nw oc2 he0) (by rw [sK_nw, va_up_self]) (fun j => by rw [sI_nw, cl2_self]) (fun S2 hE2 hF0 nq0 tq0 ocA rxA => ?_)
  have old2 : ∀ a, sK S1 a ≠ 0 → a ≠ e0 ∧ RS S1 S2 a := fun a ha => by
    have hn : a ≠ e0 := fun z => ha (by rw [z]; exact he0)
    have r1 : RS S1 (nw S1 e0 2 0) a := RS_nw hn
    exact ⟨hn, r1.tr (hE2 a (by rw [r1.1]; exact ha) hn)⟩
  have rE := (old2 aE (by rw [w3]; decide))
  refine And.intro (by rw [rE.2.1]; exact w3) (And.intro (by show vp_in 0 (sN S2 aE); rw [rE.2.2.1, w4]; exact in_0 (by decide)) (And.intro hF0.1.1 ?_))
  have tu2 : TYU (pR S2 aE 0 (some e0)) (fun a => (U a ∨ a = aE) ∨ a = aC) := TYU_wR (TYU_weak tq0 (fun a ha => ha.1.elim id (fun z => absurd z ha.2))) (Or.inl (Or.inr rfl))
  have gk2 : GK S1 S2 := (GK_nw he0).tr (Ex_GK hE2 (by rw [hF0.1.1, sK_nw, va_up_self]) nq0)
  have aiE2 : AI (pR S2 aE 0 (some e0)) aE 2 1 := AI_put (AI_ext aiE rE.2 gk2 (by decide)) hF0.1.1 (by rw [nq0, sN_nw, va_up_self])
  have aiC2 : AI (pR S2 aE 0 (some e0)) aC 1 0 := AI_ext aiC ((old2 aC (by rw [w5]; decide)).2.tr (RS_pR (fun z => n3 z.symm))) (gk2.tr (fun _ _ => ⟨rfl, rfl⟩)) (by decide)
  have oc3 : OC (pR S2 aE 0 (some e0)) := OC_pR ocA (NR_rx (NR_nw oc2 he0) rxA (nz_nw (by decide))) (by rw [hF0.1.1]; decide)
  show ldA 0 _ [(0, .ref x)] [] (pR S2 aE 0 (some e0)) 37 491
  have old3 : ∀ a, sK S1 a ≠ 0 → a ≠ aE → RS S1 (pR S2 aE 0 (some e0)) a := fun a ha hn => (old2 a ha).2.tr (RS_pR hn)
  have v1 : sK (pR S2 aE 0 (some e0)) aE = 13 := by rw [sK_pR, rE.2.1]; exact w3
  have v2 : sN (pR S2 aE 0 (some e0)) aE = 2 := by rw [sN_pR, rE.2.2.1]; exact w4
  have v3 : sR (pR S2 aE 0 (some e0)) aE 0 = some e0 := by rw [sR_pR, up2_self]
  have st3 : ∀ a, sK S2 a ≠ 13 → RS S2 (pR S2 aE 0 (some e0)) a := fun a ha => RS_pR (fun z => ha (by rw [z, rE.2.1]; exact w3))
  have v4 : EQ0 (pR S2 aE 0 (some e0)) e0 10 := EQ0_ext hF0 (st3 e0 (by rw [hF0.1.1]; decide)) (fun a ha => st3 a (by rcases ha with h | h | h | h <;> first | (rw [h]; decide) | (rw [h.1]; decide)))
  have v5 := old3 x (by rw [w0]; decide) n1
  have v6 := old3 aC (by rw [w5]; decide) (fun z => n3 z.symm)
  have ex3 : Ex S (pR S2 aE 0 (some e0)) (fun a => a = x) := fun a ha hn => (ex1 a ha hn).tr (old3 a (by rw [(ex1 a ha hn).1]; exact ha) (fun z => ha (by rw [z]; exact haE)))
  generalize pR S2 aE 0 (some e0) = S3 at oc3 tu2 aiE2 aiC2 v1 v2 v3 v4 v5 v6 ex3 old3 ⊢
  have x1 : sK S3 x = 8 := by rw [v5.1]; exact w0
  have x2 : sR S3 x 0 = some aE := by rw [v5.2.2.2.1]; exact w1
  refine And.intro x1 (useR x2 (And.intro ⟨by decide, by decide⟩ (fun e1 he1 => And.intro ⟨by decide, by decide⟩ ?_)))
  refine q_end0 (U := fun a => ((U a ∨ a = aE) ∨ a = aC) ∨ a = e1) (TYU_nw tu2 he1) (Or.inr rfl) (OC_nw oc3 he1) (by rw [sK_nw, va_up_self]) (fun j => by rw [sI_nw, cl2_self]) (fun S4 hE4 hF1 nq1 tq1 ocB rxB => ?_)
  have old4 : ∀ a, sK S3 a ≠ 0 → a ≠ e1 ∧ RS S3 S4 a := fun a ha => by
    have hn : a ≠ e1 := fun z => ha (by rw [z]; exact he1)
    have r1 : RS S3 (nw S3 e1 2 0) a := RS_nw hn
    exact ⟨hn, r1.tr (hE4 a (by rw [r1.1]; exact ha) hn)⟩
  have rE4 := old4 aE (by rw [v1]; decide)
  refine And.intro (by rw [rE4.2.1]; exact v1) (And.intro (by show vp_in 1 (sN S4 aE); rw [rE4.2.2.1, v2]; exact in_nI (i := 1) (by decide) (by decide)) (And.intro hF1.1.1 ?_))
  have n01 : e0 ≠ e1 := (old4 e0 (by rw [v4.1.1]; decide)).1
  have st5 : ∀ a, sK S4 a ≠ 13 → RS S4 (pR S4 aE 1 (some e1)) a := fun a ha => RS_pR (fun z => ha (by rw [z, rE4.2.1]; exact v1))
  have old5 : ∀ a, sK S3 a ≠ 0 → sK S3 a ≠ 13 → RS S3 (pR S4 aE 1 (some e1)) a := fun a ha h13 => (old4 a ha).2.tr (st5 a (by rw [(old4 a ha).2.1]; exact h13))
  have u1 : EQ0 (pR S4 aE 1 (some e1)) e1 20 := EQ0_ext hF1 (st5 e1 (by rw [hF1.1.1]; decide)) (fun a ha => st5 a (by rcases ha with h | h | h | h <;> first | (rw [h]; decide) | (rw [h.1]; decide)))
  have u0 : EQ0 (pR S4 aE 1 (some e1)) e0 10 := EQ0_ext v4 (old5 e0 (by rw [v4.1.1]; decide) (by rw [v4.1.1]; decide)) (fun a ha => old5 a (by rcases ha with h | h | h | h <;> first | (rw [h]; decide) | (rw [h.1]; decide)) (by rcases ha with h | h | h | h <;> first | (rw [h]; decide) | (rw [h.1]; decide)))
  have ux := old5 x (by rw [x1]; decide) (by rw [x1]; decide)
  have y5 : sK S3 aC = 12 := by rw [v6.1]; exact w5
  have uC := old5 aC (by rw [y5]; decide) (by rw [y5]; decide)
  have q1 : sR (pR S4 aE 1 (some e1)) aE 0 = some e0 := by rw [sR_pR, up2_ne (by simp), rE4.2.2.2.2.1]; exact v3
  have q2 : sR (pR S4 aE 1 (some e1)) aE 1 = some e1 := by rw [sR_pR, up2_self]
  have q3 : sK (pR S4 aE 1 (some e1)) aE = 13 := by rw [sK_pR, rE4.2.1]; exact v1
  have q4 : sN (pR S4 aE 1 (some e1)) aE = 2 := by rw [sN_pR, rE4.2.2.1]; exact v2
  have ex5 : Ex S (pR S4 aE 1 (some e1)) (fun a => a = x) := fun a ha hn => by
    have r3 := ex3 a ha hn
    exact r3.tr ((old4 a (by rw [r3.1]; exact ha)).2.tr (RS_pR (fun z => ha (by rw [z]; exact haE))))
  have gk4 : GK S3 S4 := (GK_nw he1).tr (Ex_GK hE4 (by rw [hF1.1.1, sK_nw, va_up_self]) nq1)
  have aiE3 : AI (pR S4 aE 1 (some e1)) aE 2 2 := AI_put (AI_ext aiE2 rE4.2 gk4 (by decide)) hF1.1.1 (by rw [nq1, sN_nw, va_up_self])
  have aiC3 : AI (pR S4 aE 1 (some e1)) aC 1 0 := AI_ext aiC2 uC (gk4.tr (fun _ _ => ⟨rfl, rfl⟩)) (by decide)
  have tcE : TC (pR S4 aE 1 (some e1)) aE := TCa (ka := 13) (na := 2) (kd := 2) q3 q4 (fun j => by simp [rf]) (Or.inl rfl) (Or.inr rfl) (fun j => by simp [rg]) (Or.inl aiE3)
  have tu3 : TYU (pR S4 aE 1 (some e1)) (fun a => U a ∨ a = aC) := TYU_fin (TYU_wR (TYU_weak tq1 (U' := fun a => (U a ∨ a = aE) ∨ a = aC) (fun a ha => ha.1.elim id (fun z => absurd z ha.2))) (Or.inl (Or.inr rfl))) tcE (fun a h1 h2 => h1.elim (fun z => z.elim Or.inl (fun y => absurd y h2)) Or.inr)
  have oc4 : OC (pR S4 aE 1 (some e1)) := OC_pR ocB (NR_rx (NR_nw oc3 he1) rxB (nz_nw (by decide))) (by rw [hF1.1.1]; decide)
  have key := t_bpL (Q := Q) (U := fun a => U a ∨ a = aC) (Or.inl uo) (Or.inr rfl) (x := x) (aC := aC) 8 0 (pR S4 aE 1 (some e1)) 72 972 rfl (by rw [ux.1]; exact x1) (by rw [ux.2.2.2.1, v5.2.2.2.1]; exact w2) (by rw [uC.1]; exact y5) (by rw [uC.2.1, v6.2.1]; exact w6) (fun c hc => by omega) tu3 aiC3 oc4 (by decide) (by decide) (fun S' e9 k9 n9 c9 t9 a9 g9 o9 x9 => ?_)
  · exact key
  · have r9 : ∀ a, sK (pR S4 aE 1 (some e1)) a ≠ 0 → sK (pR S4 aE 1 (some e1)) a ≠ 12 → RS (pR S4 aE 1 (some e1)) S' a := fun a h1 h2 => e9 a h1 (fun z => h2 (by rw [z, uC.1]; exact y5))
    have kx : sK (pR S4 aE 1 (some e1)) x = 8 := by rw [ux.1]; exact x1
    have rx := r9 x (by rw [kx]; decide) (by rw [kx]; decide)
    have rA := r9 aE (by rw [q3]; decide) (by rw [q3]; decide)
    have tcC : TC S' aC := TCa (ka := 12) (na := 8) (kd := 1) k9 n9 (fun j => by simp [rf]) (Or.inl rfl) (Or.inr rfl) (fun j => by simp [rg]) (Or.inl a9)
    have tcx : TC S' x := by
      refine TCo (kd := 8) (by rw [rx.1]; exact kx) (fun j k n e => ?_) (fun n => by simp [re]) rfl (fun j N e => by simp [rg] at e)
      have hj : j = 0 ∨ j = 1 := by
        unfold rf at e
        split at e <;> simp at e <;> omega
      rcases hj with rfl | rfl
      · have e' : some (13, 2) = some (k, n) := e
        cases e'
        exact ⟨aE, by rw [rx.2.2.2.1, ux.2.2.2.1]; exact x2, by rw [rA.1]; exact q3, by rw [rA.2.1]; exact q4⟩
      · have e' : some (12, 8) = some (k, n) := e
        cases e'
        exact ⟨aC, by rw [rx.2.2.2.1, ux.2.2.2.1, v5.2.2.2.1]; exact w2, k9, n9⟩
    have tf : TYU S' (fun a => U a ∧ a ≠ x) := TYU_fin (TYU_fin t9 tcC (U' := U) (fun a h1 h2 => h1.elim id (fun z => absurd z h2))) tcx (fun a h1 h2 => ⟨h1, h2⟩)
    refine h S' aE aC e0 e1 (ex5.tr e9 (fun _ _ z => z) (fun a ha z => by rw [z] at ha; exact absurd z2 ha)) ⟨⟨by rw [rx.1]; exact kx, by rw [rx.2.2.2.1, ux.2.2.2.1]; exact x2, by rw [rx.2.2.2.1, ux.2.2.2.1, v5.2.2.2.1]; exact w2, by rw [rA.1]; exact q3, by rw [rA.2.1]; exact q4, k9, n9, by rw [rA.2.2.2.1]; exact q1, by rw [rA.2.2.2.1]; exact q2, n01⟩, fun j => by rw [rx.2.2.1, ux.2.2.1, v5.2.2.1]; exact w7 j, ?_, ?_, c9⟩ tf o9
    · exact EQ0_ext u0 (r9 e0 (by rw [u0.1.1]; decide) (by rw [u0.1.1]; decide)) (fun a ha => r9 a (by rcases ha with h | h | h | h <;> first | (rw [h]; decide) | (rw [h.1]; decide)) (by rcases ha with h | h | h | h <;> first | (rw [h]; decide) | (rw [h.1]; decide)))
    · exact EQ0_ext u1 (r9 e1 (by rw [u1.1.1]; decide) (by rw [u1.1.1]; decide)) (fun a ha => r9 a (by rcases ha with h | h | h | h <;> first | (rw [h]; decide) | (rw [h.1]; decide)) (by rcases ha with h | h | h | h <;> first | (rw [h]; decide) | (rw [h.1]; decide)))
theorem BQ0_ext {S S' : MM} {x aE aC e0 e1 : Nat} (h : BQ0 S x aE aC e0 e1) (st : ∀ a, sK S a ≠ 0 → RS S S' a) : BQ0 S' x aE aC e0 e1 := by
  obtain ⟨⟨b1, b2, b3, b4, b5, b6, b7, b8, b9, b10⟩, hz, hE0, hE1, hC⟩ := h
  have rx := st x (by rw [b1]; decide)
  have re := st aE (by rw [b4]; decide)
  have rc := st aC (by rw [b6]; decide)
  refine ⟨⟨by rw [rx.1]; exact b1, by rw [rx.2.2.2.1]; exact b2, by rw [rx.2.2.2.1]; exact b3, by rw [re.1]; exact b4, by rw [re.2.1]; exact b5, by rw [rc.1]; exact b6, by rw [rc.2.1]; exact b7, by rw [re.2.2.2.1]; exact b8, by rw [re.2.2.2.1]; exact b9, b10⟩, fun j => by rw [rx.2.2.1]; exact hz j, ?_, ?_, fun c hc => ?_⟩
  · exact EQ0_ext hE0 (st e0 (by rw [hE0.1.1]; decide)) (fun a ha => st a (by rcases ha with q | q | q | q; rw [q]; decide; rw [q]; decide; rw [q.1]; decide; rw [q.1]; decide))
  · exact EQ0_ext hE1 (st e1 (by rw [hE1.1.1]; decide)) (fun a ha => st a (by rcases ha with q | q | q | q; rw [q]; decide; rw [q]; decide; rw [q.1]; decide; rw [q.1]; decide))
  · obtain ⟨a, a1, a2⟩ := hC c hc
    exact ⟨a, by rw [rc.2.2.2.1]; exact a1, C0_ext a2 (st a (by rw [a2.1.1]; decide)) (fun a ha => st a (by rcases ha with q | q | q; rw [q]; decide; rw [q]; decide; rw [q.1]; decide))⟩
theorem MS_of {S0 S : MM} {m : Nat} (h : MI S0 S m DM (fM 16)) : ∃ A, MS S m A ∧ (∀ j, sI S m j = 0) ∧ ∀ k ∈ DM, ∀ j, sI S (A k) j = fM 16 k j := by
  obtain ⟨h1, h2, h3, h4, h5⟩ := h
  have at' : ∀ k ∈ DM, (if k ∈ DM then (sR S m k).getD m else m) = (sR S m k).getD m := fun k hk => if_pos hk
  refine ⟨fun k => if k ∈ DM then (sR S m k).getD m else m, ⟨h2, fun k hk => ?_, fun k hk k' hk' e => ?_, fun k hk => if_neg hk⟩, h3, fun k hk j => ?_⟩
  · obtain ⟨a, a1, a2, a3, a4, a5, a6⟩ := h4 k hk
    have ea : (if k ∈ DM then (sR S m k).getD m else m) = a := by rw [at' k hk, a1]; rfl
    exact ⟨by show sR S m k = some (if k ∈ DM then (sR S m k).getD m else m); rw [ea]; exact a1, by show sK S (if k ∈ DM then (sR S m k).getD m else m) = _; rw [ea]; exact a2, by show sN S (if k ∈ DM then (sR S m k).getD m else m) = _; rw [ea]; exact a3, by show (if k ∈ DM then (sR S m k).getD m else m) ≠ m; rw [ea]; exact a6⟩
  · have e' : (if k ∈ DM then (sR S m k).getD m else m) = (if k' ∈ DM then (sR S m k').getD m else m) := e
    rw [at' k hk, at' k' hk'] at e'
    obtain ⟨a, a1, -⟩ := h4 k hk
    obtain ⟨a', b1, -⟩ := h4 k' hk'
    rw [a1, b1] at e'
    have e2 : a = a' := e'
    exact h5 k hk k' hk' (by rw [a1, b1, e2])
  · obtain ⟨a, a1, a2, a3, a4, a5, a6⟩ := h4 k hk
    show sI S (if k ∈ DM then (sR S m k).getD m else m) j = _
    rw [at' k hk, a1]
    exact a4 j
theorem BI_0 {S : MM} {m : Nat} {A : Nat → Nat} (h0 : ∀ j, sI S m j = 0) (hk : ∀ k ∈ DM, ∀ j, sI S (A k) j = fM 16 k j) : BI S m A 0 0 0 := by
  have z : ∀ k ∈ DM, k ≠ 1 → k ≠ 2 → k ≠ 4 → k ≠ 11 → k ≠ 12 → k ≠ 21 → ∀ j, sI S (A k) j = 0 := fun k h1 h2 h3 h4 h5 h6 h7 j => by
    rw [hk k h1 j]
    unfold fM f0M
    rw [if_neg (fun z => h4 z.1), if_neg (fun z => by rcases z.1 with q | q | q <;> contradiction), if_neg h2, if_neg h3]
  refine ⟨⟨⟨fun k N hr j => ?_, fun j N hr => ⟨0, ?_, h0 j⟩, fun j => Or.inr ⟨0, by decide, z 30 (by decide) (by decide) (by decide) (by decide) (by decide) (by decide) (by decide) j⟩⟩, ⟨?_, ?_, ?_, ?_, ?_⟩, h0 32, by decide, fun q hq => absurd hq List.not_mem_nil⟩, h0 39, h0 43, ⟨fun q hq => absurd hq List.not_mem_nil, fun k hk => Nat.zero_le _⟩, 0, ⟨0, 0, z 42 (by decide) (by decide) (by decide) (by decide) (by decide) (by decide) (by decide) 0, z 42 (by decide) (by decide) (by decide) (by decide) (by decide) (by decide) (by decide) 1, by decide⟩, Nat.le_refl 0⟩
  · unfold ra at hr
    split at hr
    · cases hr; exact ⟨0, by decide, z 22 (by decide) (by decide) (by decide) (by decide) (by decide) (by decide) (by decide) j⟩
    · cases hr; exact ⟨0, by decide, z 27 (by decide) (by decide) (by decide) (by decide) (by decide) (by decide) (by decide) j⟩
    · cases hr; exact ⟨0, by decide, z 28 (by decide) (by decide) (by decide) (by decide) (by decide) (by decide) (by decide) j⟩
    · cases hr
  · unfold rs at hr
    split at hr
    · cases hr; decide
    · cases hr
  · exact fun c hc hu => absurd (z 25 (by decide) (by decide) (by decide) (by decide) (by decide) (by decide) (by decide) c) hu
  · exact fun c e p hc he hp hu => absurd (z 24 (by decide) (by decide) (by decide) (by decide) (by decide) (by decide) (by decide) c) hu
  · exact fun c hc hu => absurd (z 24 (by decide) (by decide) (by decide) (by decide) (by decide) (by decide) (by decide) c) hu
  · refine fun e p he hp => Or.inl ?_
    rw [hk 11 (by decide)]
    unfold fM
    rw [if_neg (fun z => absurd z.1 (by decide)), if_pos ⟨Or.inl rfl, by omega⟩]
  · refine fun e p he hp hu => ?_
    rcases hu with q | q
    · exact absurd (z 7 (by decide) (by decide) (by decide) (by decide) (by decide) (by decide) (by decide) _) q
    · rw [z 9 (by decide) (by decide) (by decide) (by decide) (by decide) (by decide) (by decide)] at q
      exact absurd q (by decide)
