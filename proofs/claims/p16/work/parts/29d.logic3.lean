theorem in_nI {i n : Nat} (h : i < n) (hn : n < 2 ^ 31) : vp_in (nI i) n := vp_in_nI h hn
theorem n8_ge {i : Nat} (h : i < 8) : ¬ (8 : Int32) ≤ nI i := nI_ge (b := 8) h (by decide)
theorem n2_ge {i : Nat} (h : i < 2) : ¬ (2 : Int32) ≤ nI i := nI_ge (b := 2) h (by decide)
theorem cl_nI {i : Nat} (h : i < 2 ^ 31) : (nI i).toNatClampNeg = i := nI_clamp h
/-- an end's ports -/
def Ps (S : MM) (pa : Nat) (sys : Int32) (n : Nat) : Prop := ∀ j, j < n → ∃ p, sR S pa j = some p ∧ P0 S p sys (nI j)
set_option maxHeartbeats 1000000 in
theorem s_endL {Q : Option Value → MM → Prop} {o pa : Nat} {sys : Int32} : ∀ (n i : Nat) (ex : Lv) (S : MM) (c z : Nat), i + n = 8 → (ex = [] ∨ ∃ w, ex = [(3, .ref w)]) → sK S o = 2 → sR S o 0 = some pa → sK S pa = 17 → sN S pa = 8 → Ps S pa sys i → c + 4 * n ≤ 34 → z + 33 * n ≤ 472 →
    (∀ S', Ex S S' (fun a => a = pa) → sK S' pa = 17 → sN S' pa = 8 → Ps S' pa sys 8 → Q none S') → wpn (kX1_init Q) (n + 2) 35 ((2, .int (nI i)) :: (ex ++ [(0, .ref o), (1, .int sys)])) [] S c z := by
  intro n
  induction n with
  | zero =>
    intro i ex S c z hi hex ho hoR hp hpN hps hc hz K
    have e8 : i = 8 := by omega
    subst e8
    rcases hex with rfl | ⟨w, rfl⟩
    · exact And.intro (fun _ => K S Ex.rf hp hpN hps) (fun h => absurd (by decide) h)
    · exact And.intro (fun _ => K S Ex.rf hp hpN hps) (fun h => absurd (by decide) h)
  | succ n ih =>
    intro i ex S c z hi hex ho hoR hp hpN hps hc hz K
    have hi8 : i < 8 := by omega
    have body : ∀ q, sK S q = 0 → ∀ S' t1 t2 t3, Ex (nw S q 6 0) S' (fun a => a = q) → P0v S' q → sR S' q 0 = some t1 → sR S' q 1 = some t2 → sR S' q 14 = some t3 → T0 S' t1 0 0 0 → T0 S' t2 0 0 0 → sK S' t3 = 7 → t1 ≠ t2 → t1 ≠ t3 → sK (nw S q 6 0) t1 = 0 → sK (nw S q 6 0) t2 = 0 →
        (sK S' o = 2 ∧ sR S' o 0 = some pa ∧ sK S' pa = 17 ∧ sN S' pa = 8) ∧ (∀ S6, S6 = pR (pI (pI (pI S' t1 0 sys) t1 2 100) t1 3 (nI i)) pa i (some q) → Ex S S6 (fun a => a = pa) ∧ Ps S6 pa sys (i + 1)) := by
      intro q hq S' t1 t2 t3 hE hv h0 h1 h2 hT1 hT2 hT3 n12 n13 f1 f2
      have old : ∀ a, sK S a ≠ 0 → a ≠ q ∧ RS S S' a := fun a ha => by
        have hn : a ≠ q := fun z => ha (by rw [z]; exact hq)
        have r1 : RS S (nw S q 6 0) a := RS_nw hn
        exact ⟨hn, r1.tr (hE a (by rw [r1.1]; exact ha) hn)⟩
      have oo := (old o (by rw [ho]; decide)).2
      have op := (old pa (by rw [hp]; decide)).2
      have qt : q ≠ t1 := fun z => by have := hv.1; rw [z, hT1.1] at this; cases this
      have qt2 : q ≠ t2 := fun z => by have := hv.1; rw [z, hT2.1] at this; cases this
      have qp : q ≠ pa := fun z => by have := hp; rw [← z, hq] at this; cases this
      have g1 : sK S t1 = 0 := by rw [sK_nw, va_up_ne _ _ qt.symm] at f1; exact f1
      have g2 : sK S t2 = 0 := by rw [sK_nw, va_up_ne _ _ qt2.symm] at f2; exact f2
      refine ⟨⟨by rw [oo.1]; exact ho, by rw [oo.2.2.2.1]; exact hoR, by rw [op.1]; exact hp, by rw [op.2.1]; exact hpN⟩, ?_⟩
      intro S6 hS6
      have st : ∀ a, a ≠ t1 → a ≠ pa → RS S' S6 a := fun a a1 a2 => by
        rw [hS6]
        exact (((RS_pI a1).tr (RS_pI a1)).tr (RS_pI a1)).tr (RS_pR a2)
      have ol6 : ∀ a, sK S a ≠ 0 → a ≠ pa → RS S S6 a := fun a ha h2 => (old a ha).2.tr (st a (fun z => ha (by rw [z]; exact g1)) h2)
      refine ⟨fun a ha h2 => ol6 a ha h2, fun j hj => ?_⟩
      by_cases hji : j = i
      · subst hji
        have pt1 : pa ≠ t1 := fun z => by have := hp; rw [z, g1] at this; cases this
        have pt2 : t2 ≠ pa := fun z => by have := hp; rw [← z, g2] at this; cases this
        refine ⟨q, by rw [hS6, sR_pR, up2_self], P0v_ext hv (st q qt qp), ⟨t1, by rw [(st q qt qp).2.2.2.1]; exact h0, ?_⟩, ⟨t2, by rw [(st q qt qp).2.2.2.1]; exact h1, T0_ext hT2 (st t2 n12.symm pt2)⟩, t3, by rw [(st q qt qp).2.2.2.1]; exact h2, ?_⟩
        · obtain ⟨x0, x1, x2, x3, x4, x5⟩ := hT1
          rw [hS6]
          unfold T0
          rw [sK_pR, sI_pR, sI_pI, sI_pI, sI_pI]
          refine ⟨x0, ?_, ?_, ?_, ?_, ?_⟩
          · rw [up2_ne (by simp), up2_ne (by simp), up2_self]
          · rw [up2_ne (by simp), up2_ne (by simp), up2_ne (by simp)]; exact x2
          · rw [up2_ne (by simp), up2_self]
          · rw [up2_self]
          · rw [up2_ne (by simp), up2_ne (by simp), up2_ne (by simp)]; exact x5
        · rw [hS6]; exact hT3
      · obtain ⟨p, a1, a2⟩ := hps j (by omega)
        refine ⟨p, ?_, P0_ext a2 (fun a ha => ol6 a (by rcases ha with h | h <;> rw [h] <;> decide) (fun z => by rw [z, hp] at ha; rcases ha with h | h <;> cases h))⟩
        rw [hS6, sR_pR, up2_ne (fun z => hji z.2)]
        show sR S' pa j = some p
        rw [op.2.2.2.1]
        exact a1
    have hv8 : vp_in (nI i) 8 := in_nI hi8 (by decide)
    have hcl : (nI i).toNatClampNeg = i := cl_nI (by omega)
    rcases hex with rfl | ⟨w, rfl⟩ <;>
    · refine And.intro (fun h => absurd h (n8_ge hi8)) (fun _ => And.intro ⟨by omega, by show z + 18 ≤ 472; omega⟩ (fun q hq => And.intro ⟨by omega, by show z + 18 + 15 ≤ 472; omega⟩ ?_))
      refine s_port0 (by rw [sK_nw, va_up_self]) (fun j => by rw [sI_nw, cl2_self]) (fun S' t1 t2 t3 hE hv h0 h1 h2 hT1 hT2 hT3 n12 n13 f1 f2 => ?_)
      obtain ⟨⟨b1, b2, b3, b4⟩, hb2⟩ := body q hq S' t1 t2 t3 hE hv h0 h1 h2 hT1 hT2 hT3 n12 n13 f1 f2
      obtain ⟨hE6, hP6⟩ := hb2 _ rfl
      have nx := ih (i + 1) [(3, .ref q)] (pR (pI (pI (pI S' t1 0 sys) t1 2 100) t1 3 (nI i)) pa i (some q)) (c + 1 + 3) (z + 18 + 15) (by omega) (Or.inr ⟨q, rfl⟩) b1 (by rw [sR_pR, up2_ne (fun z => by have h9 := b1; rw [z.1, b3] at h9; cases h9)]; exact b2) b3 b4 hP6 (by omega) (by omega) (fun S9 e9 k9 n9 p9 => K S9 (hE6.tr e9 (fun _ _ h => h) (fun _ _ h => h)) k9 n9 p9)
      rw [← nI_1 i] at nx
      refine And.intro hv.1 (useR h0 (And.intro hT1.1 (And.intro hv.1 (useR h0 (And.intro hT1.1 (And.intro hv.1 (useR h0 (And.intro hT1.1 (And.intro b1 (useR b2 (And.intro b3 (And.intro (by show vp_in (nI i) (sN S' pa); rw [b4]; exact hv8) (And.intro hv.1 ?_)))))))))))))
      show wpn (kX1_init Q) (n + 2) 35 _ [] (pR (pI (pI (pI S' t1 0 sys) t1 2 100) t1 3 (nI i)) pa (nI i).toNatClampNeg (some q)) _ _
      rw [hcl]
      exact nx
/-- an end as it is new -/
def E0v (S : MM) (e : Nat) (sys : Int32) : Prop := sK S e = 2 ∧ sI S e 1 = sys ∧ sI S e 2 = 8 ∧ sI S e 3 = 0 ∧ sI S e 5 = 0 ∧ sI S e 6 = 0 ∧ sI S e 7 = 0 ∧ sI S e 8 = 0
def E0 (S : MM) (e : Nat) (sys : Int32) : Prop := E0v S e sys ∧ ∃ pa, sR S e 0 = some pa ∧ sK S pa = 17 ∧ sN S pa = 8 ∧ Ps S pa sys 8
theorem E0_ext {S S' : MM} {e : Nat} {sys : Int32} (h : E0 S e sys) (re : RS S S' e) (r : ∀ a, sK S a = 6 ∨ sK S a = 7 ∨ (sK S a = 17 ∧ sN S a = 8) → RS S S' a) : E0 S' e sys := by
  obtain ⟨hv, pa, h1, h2, h3, h4⟩ := h
  have rp := r pa (Or.inr (Or.inr ⟨h2, h3⟩))
  refine ⟨by unfold E0v at hv ⊢; rw [re.1, re.2.2.1]; exact hv, pa, by rw [re.2.2.2.1]; exact h1, by rw [rp.1]; exact h2, by rw [rp.2.1]; exact h3, fun j hj => ?_⟩
  obtain ⟨p, a1, a2⟩ := h4 j hj
  exact ⟨p, by rw [rp.2.2.2.1]; exact a1, P0_ext a2 (fun a ha => r a (ha.elim Or.inl (fun z => Or.inr (Or.inl z))))⟩
theorem s_end0 {S : MM} {o : Nat} {sys : Int32} {Q : Option Value → MM → Prop} (hk : sK S o = 2) (hz : ∀ j, sI S o j = 0) (h : ∀ S', Ex S S' (fun a => a = o) → E0 S' o sys → Q none S') : wX1_init [.ref o, .int sys] S Q := by
  refine Exists.intro 11 (And.intro (by decide) (And.intro ⟨by decide, by decide, by decide⟩ (fun pa hpa => ?_)))
  have n1 : o ≠ pa := fun z => by rw [← z, hk] at hpa; cases hpa
  have k1 : sK (nw S pa 17 8) o = 2 := by rw [sK_nw, va_up_ne _ _ n1]; exact hk
  refine And.intro k1 (And.intro k1 (And.intro (by decide) (And.intro ⟨by decide, by decide, by decide⟩ (fun ka hka => ?_))))
  have n2 : o ≠ ka := fun z => by rw [← z] at hka; exact absurd (k1.symm.trans hka) (by decide)
  have n3 : pa ≠ ka := fun z => by rw [← z, sK_pI, sK_pR, sK_nw, va_up_self] at hka; cases hka
  have k2 : sK (nw (pI (pR (nw S pa 17 8) o 0 (some pa)) o 2 8) ka 10 200) o = 2 := by rw [sK_nw, va_up_ne _ _ n2]; exact k1
  refine And.intro k2 (And.intro k2 ?_)
  have e0 : Ex S (pI (pR (nw (pI (pR (nw S pa 17 8) o 0 (some pa)) o 2 8) ka 10 200) o 4 (some ka)) o 1 sys) (fun a => a = o) := ((((((Ex.rf (P := fun a => a = o)).nw hpa).pR (fun _ => rfl)).pI (fun _ => rfl)).nw hka).pR (fun _ => rfl)).pI (fun _ => rfl)
  generalize hS1 : pI (pR (nw (pI (pR (nw S pa 17 8) o 0 (some pa)) o 2 8) ka 10 200) o 4 (some ka)) o 1 sys = S1 at e0
  have kS : sK S1 o = 2 := by rw [← hS1]; exact k2
  have rS : sR S1 o 0 = some pa := by rw [← hS1, sR_pI, sR_pR, up2_ne (by simp), sR_nw, cl2_row n2, sR_pI, sR_pR, up2_self]
  have kP : sK S1 pa = 17 := by rw [← hS1, sK_pI, sK_pR, sK_nw, va_up_ne _ _ n3, sK_pI, sK_pR, sK_nw, va_up_self]
  have nP : sN S1 pa = 8 := by rw [← hS1, sN_pI, sN_pR, sN_nw, va_up_ne _ _ n3, sN_pI, sN_pR, sN_nw, va_up_self]
  have vS : ∀ j, sI S1 o j = if j = 1 then sys else if j = 2 then 8 else 0 := by
    intro j
    rw [← hS1, sI_pI, sI_pR, sI_nw]
    unfold up2
    rw [cl2_row n2, sI_pI]
    unfold up2
    rw [sI_pR, sI_nw, cl2_row n1, hz]
    simp
  have key := s_endL (Q := Q) (o := o) (pa := pa) (sys := sys) 8 0 [] S1 2 208 rfl (Or.inl rfl) kS rS kP nP (fun j hj => by omega) (by decide) (by decide) (fun S' e9 k9 n9 p9 => ?_)
  · rw [← hS1] at key
    exact key
  · have ro := e9 o (by rw [kS]; decide) n1
    refine h S' (e0.tr e9 (fun _ _ z => z) (fun a ha z => by rw [z] at ha; exact absurd hpa ha)) ⟨⟨by rw [ro.1]; exact kS, ?_⟩, pa, by rw [ro.2.2.2.1]; exact rS, k9, n9, p9⟩
    rw [ro.2.2.1]
    exact ⟨by rw [vS]; rfl, by rw [vS]; rfl, by rw [vS]; rfl, by rw [vS]; rfl, by rw [vS]; rfl, by rw [vS]; rfl, by rw [vS]; rfl⟩
