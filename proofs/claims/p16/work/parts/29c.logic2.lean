/-! CELLS AND WHAT CHANGES: RS: the cell a is as it was; Ex S S' P: every cell that was there is as it was, but those of P -/
def RS (S S' : MM) (a : Nat) : Prop := sK S' a = sK S a ∧ sN S' a = sN S a ∧ sI S' a = sI S a ∧ sR S' a = sR S a ∧ sJ S' a = sJ S a
theorem RS.rf {S : MM} {a : Nat} : RS S S a := ⟨rfl, rfl, rfl, rfl, rfl⟩
theorem RS.tr {S S1 S2 : MM} {a : Nat} (h : RS S S1 a) (k : RS S1 S2 a) : RS S S2 a := ⟨k.1.trans h.1, k.2.1.trans h.2.1, k.2.2.1.trans h.2.2.1, k.2.2.2.1.trans h.2.2.2.1, k.2.2.2.2.trans h.2.2.2.2⟩
theorem RS_pI {S : MM} {a o k : Nat} {v : Int32} (h : a ≠ o) : RS S (pI S o k v) a := ⟨rfl, rfl, up2_row h, rfl, rfl⟩
theorem RS_pR {S : MM} {a o k : Nat} {v : Option Nat} (h : a ≠ o) : RS S (pR S o k v) a := ⟨rfl, rfl, rfl, up2_row h, rfl⟩
theorem RS_pJ {S : MM} {a o k : Nat} {v : Int64} (h : a ≠ o) : RS S (pJ S o k v) a := ⟨rfl, rfl, rfl, rfl, up2_row h⟩
theorem cl2_row {α : Type} {f : Nat → Nat → α} {a b : Nat} {v : α} (h : b ≠ a) : cl2 f a v b = f b := by funext j; simp [cl2, h]
theorem cl2_self {α : Type} (f : Nat → Nat → α) (a j : Nat) (v : α) : cl2 f a v a j = v := by simp [cl2]
theorem RS_nw {S : MM} {a q kd n : Nat} (h : a ≠ q) : RS S (nw S q kd n) a := ⟨va_up_ne _ _ h, va_up_ne _ _ h, cl2_row h, cl2_row h, cl2_row h⟩
def Ex (S S' : MM) (P : Nat → Prop) : Prop := ∀ a, sK S a ≠ 0 → ¬ P a → RS S S' a
theorem Ex.rf {S : MM} {P : Nat → Prop} : Ex S S P := fun _ _ _ => RS.rf
theorem Ex.weak {S S' : MM} {P P' : Nat → Prop} (h : Ex S S' P) (hp : ∀ a, sK S a ≠ 0 → P a → P' a) : Ex S S' P' := fun a h1 h2 => h a h1 (fun z => h2 (hp a h1 z))
theorem Ex.tr {S S1 S2 : MM} {P P1 P' : Nat → Prop} (h : Ex S S1 P) (k : Ex S1 S2 P1) (h1 : ∀ a, sK S a ≠ 0 → P a → P' a) (h2 : ∀ a, sK S a ≠ 0 → P1 a → P' a) : Ex S S2 P' := fun a ha hn => by
  have r1 := h a ha (fun z => hn (h1 a ha z))
  exact r1.tr (k a (by rw [r1.1]; exact ha) (fun z => hn (h2 a ha z)))
theorem Ex.pI {S S1 : MM} {P : Nat → Prop} (h : Ex S S1 P) {o k : Nat} {v : Int32} (ho : sK S o ≠ 0 → P o) : Ex S (pI S1 o k v) P := fun a ha hn => (h a ha hn).tr (RS_pI (fun z => hn (by subst z; exact ho ha)))
theorem Ex.pR {S S1 : MM} {P : Nat → Prop} (h : Ex S S1 P) {o k : Nat} {v : Option Nat} (ho : sK S o ≠ 0 → P o) : Ex S (pR S1 o k v) P := fun a ha hn => (h a ha hn).tr (RS_pR (fun z => hn (by subst z; exact ho ha)))
theorem Ex.nw {S S1 : MM} {P : Nat → Prop} (h : Ex S S1 P) {q kd n : Nat} (hq : sK S1 q = 0) : Ex S (nw S1 q kd n) P := fun a ha hn => by
  have r := h a ha hn
  exact r.tr (RS_nw (fun z => ha (by subst z; rw [← r.1]; exact hq)))
/-- what was free stays free or isn't old -/
theorem Ex.fr {S S1 : MM} {P : Nat → Prop} (h : Ex S S1 P) {q : Nat} (hq : sK S1 q = 0) (hP : ¬ P q) : sK S q = 0 := by
  by_cases hz : sK S q = 0
  · exact hz
  · exact absurd ((h q hz hP).1.symm.trans hq) hz
theorem s_told0 {S : MM} {a : Nat} {Q : Option Value → MM → Prop} (h : Q none S) : wX6_init [.ref a] S Q := Exists.intro 1 h
theorem s_frame0 {S : MM} {a : Nat} {Q : Option Value → MM → Prop} (h : Q none S) : wX2_init [.ref a] S Q := Exists.intro 1 h
theorem s_note0 {S : MM} {o : Nat} {Q : Option Value → MM → Prop} (hk : sK S o = 5) (h : ∀ S', Ex S S' (fun a => a = o) → sK S' o = 5 → Q none S') : wX4_init [.ref o] S Q := by
  refine Exists.intro 1 (And.intro ⟨by decide, by decide⟩ (fun q1 hq1 => ?_))
  have n1 : o ≠ q1 := fun z => by rw [← z, hk] at hq1; cases hq1
  have k1 : sK (nw S q1 7 0) o = 5 := by rw [sK_nw, va_up_ne _ _ n1]; exact hk
  refine And.intro ⟨by decide, by decide⟩ (s_told0 (And.intro k1 (And.intro ⟨by decide, by decide⟩ (fun q2 hq2 => ?_))))
  have n2 : o ≠ q2 := fun z => by rw [← z] at hq2; exact absurd (k1.symm.trans hq2) (by decide)
  have k2 : sK (nw (pR (nw S q1 7 0) o 0 (some q1)) q2 7 0) o = 5 := by rw [sK_nw, va_up_ne _ _ n2]; exact k1
  exact And.intro ⟨by decide, by decide⟩ (s_told0 (And.intro k2 (h _ (((((Ex.rf (P := fun a => a = o)).nw hq1).pR (fun _ => rfl)).nw hq2).pR (fun _ => rfl)) k2)))
/-- a Told, a port, an end, a lane, a cable as they are new -/
def T0 (S : MM) (t : Nat) (sys pr nm : Int32) : Prop := sK S t = 7 ∧ sI S t 0 = sys ∧ sI S t 1 = 0 ∧ sI S t 2 = pr ∧ sI S t 3 = nm ∧ sI S t 4 = 0
def P0v (S : MM) (p : Nat) : Prop := sK S p = 6 ∧ sI S p 2 = -1 ∧ sI S p 3 = 0 ∧ sI S p 4 = 0 ∧ sI S p 5 = 0 ∧ sI S p 10 = -1 ∧ sI S p 11 = 0 ∧ sI S p 12 = 0 ∧ sI S p 16 = 0 ∧ sI S p 17 = 0
def P0 (S : MM) (p : Nat) (sys nm : Int32) : Prop := P0v S p ∧ (∃ t, sR S p 0 = some t ∧ T0 S t sys 100 nm) ∧ (∃ t, sR S p 1 = some t ∧ T0 S t 0 0 0) ∧ ∃ t, sR S p 14 = some t ∧ sK S t = 7
theorem T0_ext {S S' : MM} {t : Nat} {a b c : Int32} (h : T0 S t a b c) (r : RS S S' t) : T0 S' t a b c := by
  obtain ⟨h0, h1, h2, h3, h4, h5⟩ := h
  unfold T0
  rw [r.1, r.2.2.1]
  exact ⟨h0, h1, h2, h3, h4, h5⟩
theorem P0v_ext {S S' : MM} {p : Nat} (h : P0v S p) (r : RS S S' p) : P0v S' p := by
  unfold P0v at h ⊢
  rw [r.1, r.2.2.1]
  exact h
theorem P0_ext {S S' : MM} {p : Nat} {sys nm : Int32} (h : P0 S p sys nm) (r : ∀ a, sK S a = 6 ∨ sK S a = 7 → RS S S' a) : P0 S' p sys nm := by
  obtain ⟨hv, ⟨t1, a1, b1⟩, ⟨t2, a2, b2⟩, t3, a3, b3⟩ := h
  have rp := r p (Or.inl hv.1)
  exact ⟨P0v_ext hv rp, ⟨t1, by rw [rp.2.2.2.1]; exact a1, T0_ext b1 (r t1 (Or.inr b1.1))⟩, ⟨t2, by rw [rp.2.2.2.1]; exact a2, T0_ext b2 (r t2 (Or.inr b2.1))⟩, t3, by rw [rp.2.2.2.1]; exact a3, by rw [(r t3 (Or.inr b3)).1]; exact b3⟩
/-- a port's constructor, at a cell that is blank -/
theorem s_port0 {S : MM} {o : Nat} {Q : Option Value → MM → Prop} (hk : sK S o = 6) (hz : ∀ j, sI S o j = 0) (h : ∀ S' t1 t2 t3, Ex S S' (fun a => a = o) → P0v S' o → sR S' o 0 = some t1 → sR S' o 1 = some t2 → sR S' o 14 = some t3 → T0 S' t1 0 0 0 → T0 S' t2 0 0 0 → sK S' t3 = 7 → t1 ≠ t2 → t1 ≠ t3 → sK S t1 = 0 → sK S t2 = 0 → Q none S') : wX5_init [.ref o] S Q := by
  refine Exists.intro 1 (And.intro ⟨by decide, by decide⟩ (fun q1 hq1 => ?_))
  have n1 : o ≠ q1 := fun z => by rw [← z, hk] at hq1; cases hq1
  have k1 : sK (nw S q1 7 0) o = 6 := by rw [sK_nw, va_up_ne _ _ n1]; exact hk
  refine And.intro ⟨by decide, by decide⟩ (s_told0 (And.intro k1 (And.intro ⟨by decide, by decide⟩ (fun q2 hq2 => ?_))))
  have n2 : o ≠ q2 := fun z => by rw [← z] at hq2; exact absurd (k1.symm.trans hq2) (by decide)
  have n3 : q1 ≠ q2 := fun z => by rw [← z, sK_pR, sK_nw, va_up_self] at hq2; cases hq2
  have k2 : sK (nw (pR (nw S q1 7 0) o 0 (some q1)) q2 7 0) o = 6 := by rw [sK_nw, va_up_ne _ _ n2]; exact k1
  refine And.intro ⟨by decide, by decide⟩ (s_told0 (And.intro k2 (And.intro k2 (And.intro k2 (And.intro ⟨by decide, by decide⟩ (fun q3 hq3 => ?_))))))
  have n4 : o ≠ q3 := fun z => by rw [← z] at hq3; exact absurd (k2.symm.trans hq3) (by decide)
  have n5 : q1 ≠ q3 := fun z => by rw [← z, sK_pI, sK_pI, sK_pR, sK_nw, va_up_ne _ _ n3, sK_pR, sK_nw, va_up_self] at hq3; cases hq3
  have n6 : q2 ≠ q3 := fun z => by rw [← z, sK_pI, sK_pI, sK_pR, sK_nw, va_up_self] at hq3; cases hq3
  have k3 : sK (nw (pI (pI (pR (nw (pR (nw S q1 7 0) o 0 (some q1)) q2 7 0) o 1 (some q2)) o 2 (-1)) o 10 (-1)) q3 7 0) o = 6 := by rw [sK_nw, va_up_ne _ _ n4]; exact k2
  have e0 : Ex S (pR (nw (pR (nw S q1 7 0) o 0 (some q1)) q2 7 0) o 1 (some q2)) (fun a => a = o) := ((((Ex.rf (P := fun a => a = o)).nw hq1).pR (fun _ => rfl)).nw hq2).pR (fun _ => rfl)
  have z2 : sK S q2 = 0 := (((Ex.rf (P := fun a => a = o)).nw hq1).pR (k := 0) (v := some q1) (fun _ => rfl)).fr hq2 (fun z => n2 z.symm)
  refine And.intro ⟨by decide, by decide⟩ (s_told0 (And.intro k3 (And.intro k3 (h _ q1 q2 q3 ((((e0.pI (fun _ => rfl)).pI (fun _ => rfl)).nw hq3).pR (fun _ => rfl) |>.pI (fun _ => rfl)) ?_ ?_ ?_ ?_ ?_ ?_ ?_ n3 n5 hq1 z2))))
  · have hI : ∀ j, sI (pI (pR (nw (pI (pI (pR (nw (pR (nw S q1 7 0) o 0 (some q1)) q2 7 0) o 1 (some q2)) o 2 (-1)) o 10 (-1)) q3 7 0) o 14 (some q3)) o 15 (-1)) o j = if j = 15 then -1 else if j = 10 then -1 else if j = 2 then -1 else 0 := by
      intro j
      rw [sI_pI, sI_pR, sI_nw]
      unfold up2
      rw [cl2_row n4, sI_pI, sI_pI]
      unfold up2
      rw [sI_pR, sI_nw, cl2_row n2, sI_pR, sI_nw, cl2_row n1, hz]
      simp
    exact ⟨k3, by rw [hI]; rfl, by rw [hI]; rfl, by rw [hI]; rfl, by rw [hI]; rfl, by rw [hI]; rfl, by rw [hI]; rfl, by rw [hI]; rfl, by rw [hI]; rfl, by rw [hI]; rfl⟩
  · rw [sR_pI, sR_pR, up2_ne (by simp), sR_nw, cl2_row n4, sR_pI, sR_pI, sR_pR, up2_ne (by simp), sR_nw, cl2_row n2, sR_pR, up2_self]
  · rw [sR_pI, sR_pR, up2_ne (by simp), sR_nw, cl2_row n4, sR_pI, sR_pI, sR_pR, up2_self]
  · rw [sR_pI, sR_pR, up2_self]
  · have r1 : RS (nw S q1 7 0) (pI (pR (nw (pI (pI (pR (nw (pR (nw S q1 7 0) o 0 (some q1)) q2 7 0) o 1 (some q2)) o 2 (-1)) o 10 (-1)) q3 7 0) o 14 (some q3)) o 15 (-1)) q1 := (((((((RS_pR n1.symm).tr (RS_nw n3)).tr (RS_pR n1.symm)).tr (RS_pI n1.symm)).tr (RS_pI n1.symm)).tr (RS_nw n5)).tr (RS_pR n1.symm)).tr (RS_pI n1.symm)
    refine T0_ext ?_ r1
    exact ⟨by rw [sK_nw, va_up_self], by rw [sI_nw, cl2_self], by rw [sI_nw, cl2_self], by rw [sI_nw, cl2_self], by rw [sI_nw, cl2_self], by rw [sI_nw, cl2_self]⟩
  · have r1 : RS (nw (pR (nw S q1 7 0) o 0 (some q1)) q2 7 0) (pI (pR (nw (pI (pI (pR (nw (pR (nw S q1 7 0) o 0 (some q1)) q2 7 0) o 1 (some q2)) o 2 (-1)) o 10 (-1)) q3 7 0) o 14 (some q3)) o 15 (-1)) q2 := (((((RS_pR n2.symm).tr (RS_pI n2.symm)).tr (RS_pI n2.symm)).tr (RS_nw n6)).tr (RS_pR n2.symm)).tr (RS_pI n2.symm)
    refine T0_ext ?_ r1
    exact ⟨by rw [sK_nw, va_up_self], by rw [sI_nw, cl2_self], by rw [sI_nw, cl2_self], by rw [sI_nw, cl2_self], by rw [sI_nw, cl2_self], by rw [sI_nw, cl2_self]⟩
  · rw [sK_pI, sK_pR, sK_nw, va_up_self]
