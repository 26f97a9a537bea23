/-! TYPED CONSTRUCTORS: what is new is of the right kind -/
def TC (S : MM) (a : Nat) : Prop := (∀ kd j k n, sK S a = kd → rf kd j = some (k, n) → ∃ b, sR S a j = some b ∧ sK S b = k ∧ sN S b = n) ∧ (∀ kd n k j, sK S a = kd → sN S a = n → re kd n = some k → j < n → ∃ b, sR S a j = some b ∧ sK S b = k ∧ sN S b = 0) ∧ (∀ kd k j b, sK S a = kd → rn kd = some k → sR S a j = some b → sK S b = k ∧ sN S b = 0) ∧ ∀ kd j N, sK S a = kd → rg kd j = some N → ∃ n, n < N ∧ sI S a j = nI n
def TYU (S : MM) (U : Nat → Prop) : Prop := ∀ a, ¬ U a → TC S a
theorem TYU_TY {S : MM} {U : Nat → Prop} (h : TYU S U) (hu : ∀ a, ¬ U a) : TY S ∧ IR S := ⟨⟨fun a kd j k n h1 h2 => (h a (hu a)).1 kd j k n h1 h2, fun a kd n k j h1 h2 h3 h4 => (h a (hu a)).2.1 kd n k j h1 h2 h3 h4, fun a kd k j b h1 h2 h3 => (h a (hu a)).2.2.1 kd k j b h1 h2 h3⟩, fun a kd j N h1 h2 => (h a (hu a)).2.2.2 kd j N h1 h2⟩
theorem rf_ne {kd j k n : Nat} (h : rf kd j = some (k, n)) : k ≠ 0 := by
  unfold rf at h
  split at h <;> simp at h <;> omega
theorem re_ne {kd n k : Nat} (h : re kd n = some k) : k ≠ 0 := by
  unfold re at h
  split at h <;> simp at h <;> omega
theorem rn_ne {kd k : Nat} (h : rn kd = some k) : k ≠ 0 := by
  unfold rn at h
  split at h <;> simp at h <;> omega
def GK (S S' : MM) : Prop := ∀ b, sK S b ≠ 0 → sK S' b = sK S b ∧ sN S' b = sN S b
theorem TC_ext {S S' : MM} {a : Nat} (h : TC S a) (r : RS S S' a) (g : GK S S') : TC S' a := by
  obtain ⟨h1, h2, h3, h4⟩ := h
  refine ⟨fun kd j k n e1 e2 => ?_, fun kd n k j e1 e2 e3 e4 => ?_, fun kd k j b e1 e2 e3 => ?_, fun kd j N e1 e2 => ?_⟩
  · obtain ⟨b, b1, b2, b3⟩ := h1 kd j k n (by rw [← r.1]; exact e1) e2
    have gb := g b (by rw [b2]; exact rf_ne e2)
    exact ⟨b, by rw [r.2.2.2.1]; exact b1, by rw [gb.1]; exact b2, by rw [gb.2]; exact b3⟩
  · obtain ⟨b, b1, b2, b3⟩ := h2 kd n k j (by rw [← r.1]; exact e1) (by rw [← r.2.1]; exact e2) e3 e4
    have gb := g b (by rw [b2]; exact re_ne e3)
    exact ⟨b, by rw [r.2.2.2.1]; exact b1, by rw [gb.1]; exact b2, by rw [gb.2]; exact b3⟩
  · obtain ⟨b2, b3⟩ := h3 kd k j b (by rw [← r.1]; exact e1) e2 (by rw [← r.2.2.2.1]; exact e3)
    have gb := g b (by rw [b2]; exact rn_ne e2)
    exact ⟨by rw [gb.1]; exact b2, by rw [gb.2]; exact b3⟩
  · obtain ⟨n, n1, n2⟩ := h4 kd j N (by rw [← r.1]; exact e1) e2
    exact ⟨n, n1, by rw [r.2.2.1]; exact n2⟩
def tv (k : Nat) : Bool := k == 0 || k == 3 || k == 7 || k == 9 || k == 10 || k == 11 || k == 18
theorem TC_tv {S : MM} {a : Nat} (h : tv (sK S a) = true) : TC S a := by
  have h' : sK S a = 0 ∨ sK S a = 3 ∨ sK S a = 7 ∨ sK S a = 9 ∨ sK S a = 10 ∨ sK S a = 11 ∨ sK S a = 18 := by
    unfold tv at h
    simp at h
    omega
  refine ⟨fun kd j k n e1 e2 => ?_, fun kd n k j e1 e2 e3 e4 => ?_, fun kd k j b e1 e2 e3 => ?_, fun kd j N e1 e2 => ?_⟩
  · subst e1
    rcases h' with z | z | z | z | z | z | z <;> rw [z] at e2 <;> simp [rf] at e2
  · subst e1
    rcases h' with z | z | z | z | z | z | z <;> rw [z] at e3 <;> simp [re] at e3
  · subst e1
    rcases h' with z | z | z | z | z | z | z <;> rw [z] at e2 <;> simp [rn] at e2
  · subst e1
    rcases h' with z | z | z | z | z | z | z <;> rw [z] at e2 <;> simp [rg] at e2
theorem GK_nw {S : MM} {q kd n : Nat} (hq : sK S q = 0) : GK S (nw S q kd n) := fun b hb => by
  have hn : b ≠ q := fun z => hb (by rw [z]; exact hq)
  exact ⟨va_up_ne _ _ hn, va_up_ne _ _ hn⟩
theorem TYU_nw {S : MM} {U : Nat → Prop} {q kd n : Nat} (h : TYU S U) (hq : sK S q = 0) : TYU (nw S q kd n) (fun a => U a ∨ a = q) := fun a ha => TC_ext (h a (fun z => ha (Or.inl z))) (RS_nw (fun z => ha (Or.inr z))) (GK_nw hq)
theorem TYU_nwt {S : MM} {U : Nat → Prop} {q kd n : Nat} (h : TYU S U) (hq : sK S q = 0) (ht : tv kd = true) : TYU (nw S q kd n) U := fun a ha => by
  by_cases hz : a = q
  · exact TC_tv (by rw [hz, sK_nw, va_up_self]; exact ht)
  · exact TC_ext (h a ha) (RS_nw hz) (GK_nw hq)
theorem TYU_wI {S : MM} {U : Nat → Prop} {o k : Nat} {v : Int32} (h : TYU S U) (uo : U o) : TYU (pI S o k v) U := fun a ha => TC_ext (h a ha) (RS_pI (fun z => ha (by rw [z]; exact uo))) (fun _ _ => ⟨rfl, rfl⟩)
theorem TYU_wR {S : MM} {U : Nat → Prop} {o k : Nat} {v : Option Nat} (h : TYU S U) (uo : U o) : TYU (pR S o k v) U := fun a ha => TC_ext (h a ha) (RS_pR (fun z => ha (by rw [z]; exact uo))) (fun _ _ => ⟨rfl, rfl⟩)
theorem TYU_tI {S : MM} {U : Nat → Prop} {o k : Nat} {v : Int32} (h : TYU S U) (ht : tv (sK S o) = true) : TYU (pI S o k v) U := fun a ha => by
  by_cases hz : a = o
  · subst hz
    exact TC_tv ht
  · exact TC_ext (h a ha) (RS_pI hz) (fun _ _ => ⟨rfl, rfl⟩)
theorem TYU_tR {S : MM} {U : Nat → Prop} {o k : Nat} {v : Option Nat} (h : TYU S U) (ht : tv (sK S o) = true) : TYU (pR S o k v) U := fun a ha => by
  by_cases hz : a = o
  · subst hz
    exact TC_tv ht
  · exact TC_ext (h a ha) (RS_pR hz) (fun _ _ => ⟨rfl, rfl⟩)
theorem TYU_fin {S : MM} {U U' : Nat → Prop} {q : Nat} (h : TYU S U) (hc : TC S q) (hu : ∀ a, U a → a ≠ q → U' a) : TYU S U' := fun a ha => by
  by_cases hz : a = q
  · rw [hz]; exact hc
  · exact h a (fun z => ha (hu a z hz))
theorem TYU_weak {S : MM} {U U' : Nat → Prop} (h : TYU S U) (hu : ∀ a, U a → U' a) : TYU S U' := fun a ha => h a (fun z => ha (hu a z))
theorem TCo {S : MM} {a kd : Nat} (hk : sK S a = kd) (hf : ∀ j k n, rf kd j = some (k, n) → ∃ b, sR S a j = some b ∧ sK S b = k ∧ sN S b = n) (h2 : ∀ n, re kd n = none) (h3 : rn kd = none) (h4 : ∀ j N, rg kd j = some N → ∃ n, n < N ∧ sI S a j = nI n) : TC S a := by
  refine ⟨fun kd' j k n e1 e2 => ?_, fun kd' n k j e1 e2 e3 e4 => ?_, fun kd' k j b e1 e2 e3 => ?_, fun kd' j N e1 e2 => ?_⟩
  · have e : kd' = kd := e1.symm.trans hk
    subst e
    exact hf j k n e2
  · have e : kd' = kd := e1.symm.trans hk
    subst e
    rw [h2] at e3
    cases e3
  · have e : kd' = kd := e1.symm.trans hk
    subst e
    rw [h3] at e2
    cases e2
  · have e : kd' = kd := e1.symm.trans hk
    subst e
    exact h4 j N e2
/-- an array of references, its first i cells filled -/
def AI (S : MM) (pa kd i : Nat) : Prop := (∀ j, j < i → ∃ b, sR S pa j = some b ∧ sK S b = kd ∧ sN S b = 0) ∧ ∀ j b, sR S pa j = some b → sK S b = kd ∧ sN S b = 0
theorem AI_ext {S S' : MM} {pa kd i : Nat} (h : AI S pa kd i) (r : RS S S' pa) (g : GK S S') (h0 : kd ≠ 0) : AI S' pa kd i := by
  refine ⟨fun j hj => ?_, fun j b e => ?_⟩
  · obtain ⟨b, b1, b2, b3⟩ := h.1 j hj
    have gb := g b (by rw [b2]; exact h0)
    exact ⟨b, by rw [r.2.2.2.1]; exact b1, by rw [gb.1]; exact b2, by rw [gb.2]; exact b3⟩
  · obtain ⟨b2, b3⟩ := h.2 j b (by rw [← r.2.2.2.1]; exact e)
    have gb := g b (by rw [b2]; exact h0)
    exact ⟨by rw [gb.1]; exact b2, by rw [gb.2]; exact b3⟩
theorem AI_put {S : MM} {pa kd i q : Nat} (h : AI S pa kd i) (hq : sK S q = kd) (hn : sN S q = 0) : AI (pR S pa i (some q)) pa kd (i + 1) := by
  refine ⟨fun j hj => ?_, fun j b e => ?_⟩
  · by_cases hz : j = i
    · exact ⟨q, by rw [hz, sR_pR, up2_self], hq, hn⟩
    · obtain ⟨b, b1, b2, b3⟩ := h.1 j (by omega)
      exact ⟨b, by rw [sR_pR, up2_ne (fun z => hz z.2)]; exact b1, b2, b3⟩
  · by_cases hz : j = i
    · rw [hz, sR_pR, up2_self] at e
      cases e
      exact ⟨hq, hn⟩
    · rw [sR_pR, up2_ne (fun z => hz z.2)] at e
      exact h.2 j b e
theorem AI_none {S : MM} {pa kd : Nat} (h : ∀ j, sR S pa j = none) : AI S pa kd 0 := ⟨fun j hj => absurd hj (Nat.not_lt_zero _), fun j b e => by rw [h j] at e; cases e⟩
theorem TCa {S : MM} {a ka na kd : Nat} (hk : sK S a = ka) (hn : sN S a = na) (h1 : ∀ j, rf ka j = none) (h2 : re ka na = some kd ∨ re ka na = none) (h3 : rn ka = some kd ∨ rn ka = none) (h4 : ∀ j, rg ka j = none) (h : AI S a kd na ∨ (re ka na = none ∧ AI S a kd 0)) : TC S a := by
  refine ⟨fun kd' j k n e1 e2 => ?_, fun kd' n k j e1 e2 e3 e4 => ?_, fun kd' k j b e1 e2 e3 => ?_, fun kd' j N e1 e2 => ?_⟩
  · have e : kd' = ka := e1.symm.trans hk
    subst e
    rw [h1] at e2
    cases e2
  · have e : kd' = ka := e1.symm.trans hk
    have e' : n = na := e2.symm.trans hn
    subst e e'
    rcases h2 with z | z
    · rw [z] at e3
      cases e3
      rcases h with q | q
      · exact q.1 j e4
      · rw [q.1] at z
        cases z
    · rw [z] at e3
      cases e3
  · have e : kd' = ka := e1.symm.trans hk
    subst e
    rcases h3 with z | z
    · rw [z] at e2
      cases e2
      rcases h with q | q
      · exact q.2 j b e3
      · exact q.2.2 j b e3
    · rw [z] at e2
      cases e2
  · have e : kd' = ka := e1.symm.trans hk
    subst e
    rw [h4] at e2
    cases e2
theorem Ex_GK {S S' : MM} {o : Nat} (h : Ex S S' (fun a => a = o)) (hk : sK S' o = sK S o) (hn : sN S' o = sN S o) : GK S S' := fun b hb => by
  by_cases hz : b = o
  · subst hz
    exact ⟨hk, hn⟩
  · have r := h b hb hz
    exact ⟨r.1, r.2.1⟩
theorem GK.tr {S S1 S2 : MM} (h : GK S S1) (k : GK S1 S2) : GK S S2 := fun b hb => by
  have h1 := h b hb
  have h2 := k b (by rw [h1.1]; exact hb)
  exact ⟨h2.1.trans h1.1, h2.2.trans h1.2⟩
/-! every cell has one owner (but for the ports of a cable), and what is new is owned by what is new -/
def cl (k : Nat) : Bool := !(k == 0) && !(fo k)
def OC (S : MM) : Prop := (∀ a a' j j' b, cl (sK S a) = true → cl (sK S a') = true → rc S a ≠ 117 → rc S a' ≠ 117 → sR S a j = some b → sR S a' j' = some b → a = a' ∧ j = j') ∧ ∀ a j b, cl (sK S a) = true → sR S a j = some b → sK S b ≠ 0
def NR (S : MM) (q : Nat) : Prop := ∀ a j, cl (sK S a) = true → sR S a j ≠ some q
def RX (S S' : MM) : Prop := ∀ a j b, cl (sK S' a) = true → sR S' a j = some b → (cl (sK S a) = true ∧ sR S a j = some b) ∨ sK S b = 0
theorem RX.rf {S : MM} : RX S S := fun _ _ _ h1 h2 => Or.inl ⟨h1, h2⟩
theorem RX.tr {S S1 S2 : MM} (h : RX S S1) (k : RX S1 S2) (g : GK S S1) : RX S S2 := fun a j b h1 h2 => by
  rcases k a j b h1 h2 with ⟨c1, c2⟩ | c
  · exact h a j b c1 c2
  · by_cases hz : sK S b = 0
    · exact Or.inr hz
    · exact absurd c (by rw [(g b hz).1]; exact hz)
theorem nw_live {S : MM} {q kd n a : Nat} (hn : a ≠ q) (h : cl (sK (nw S q kd n) a) = true) : cl (sK S a) = true := by rw [sK_nw, va_up_ne _ _ hn] at h; exact h
theorem nw_row {S : MM} {q kd n a j b : Nat} (h : sR (nw S q kd n) a j = some b) : a ≠ q ∧ sR S a j = some b := by
  by_cases hz : a = q
  · rw [hz, sR_nw, cl2_self] at h; cases h
  · rw [sR_nw, cl2_row hz] at h; exact ⟨hz, h⟩
theorem rc_nw {S : MM} {q kd n a : Nat} (hn : a ≠ q) : rc (nw S q kd n) a = rc S a := by unfold rc; rw [sK_nw, sN_nw, va_up_ne _ _ hn, va_up_ne _ _ hn]
theorem OC_nw {S : MM} {q kd n : Nat} (h : OC S) (hq : sK S q = 0) : OC (nw S q kd n) := by
  refine ⟨fun a a' j j' b h1 h2 h3 h4 h5 h6 => ?_, fun a j b h1 h2 => ?_⟩
  · obtain ⟨n1, r1⟩ := nw_row h5
    obtain ⟨n2, r2⟩ := nw_row h6
    exact h.1 a a' j j' b (nw_live n1 h1) (nw_live n2 h2) (by rw [← rc_nw n1]; exact h3) (by rw [← rc_nw n2]; exact h4) r1 r2
  · obtain ⟨n1, r1⟩ := nw_row h2
    have := h.2 a j b (nw_live n1 h1) r1
    rw [(GK_nw hq b this).1]
    exact this
theorem NR_nw {S : MM} {q kd n : Nat} (h : OC S) (hq : sK S q = 0) : NR (nw S q kd n) q := fun a j h1 h2 => by
  obtain ⟨n1, r1⟩ := nw_row h2
  exact h.2 a j q (nw_live n1 h1) r1 hq
theorem NR_rx {S S' : MM} {q : Nat} (h : NR S q) (r : RX S S') (hq : sK S q ≠ 0) : NR S' q := fun a j h1 h2 => by
  rcases r a j q h1 h2 with ⟨c1, c2⟩ | c
  · exact h a j c1 c2
  · exact hq c
theorem OC_pR {S : MM} {o k q : Nat} (h : OC S) (hn : NR S q) (hq : sK S q ≠ 0) : OC (pR S o k (some q)) := by
  have row : ∀ a j b, sR (pR S o k (some q)) a j = some b → (a = o ∧ j = k ∧ b = q) ∨ (¬ (a = o ∧ j = k) ∧ sR S a j = some b) := fun a j b e => by
    by_cases hz : a = o ∧ j = k
    · rw [sR_pR, hz.1, hz.2, up2_self] at e
      exact Or.inl ⟨hz.1, hz.2, (Option.some.inj e).symm⟩
    · rw [sR_pR, up2_ne hz] at e
      exact Or.inr ⟨hz, e⟩
  refine ⟨fun a a' j j' b h1 h2 h3 h4 h5 h6 => ?_, fun a j b h1 h2 => ?_⟩
  · rcases row a j b h5 with ⟨c1, c2, c3⟩ | ⟨-, c⟩
    · rcases row a' j' b h6 with ⟨d1, d2, d3⟩ | ⟨-, d⟩
      · exact ⟨c1.trans d1.symm, c2.trans d2.symm⟩
      · rw [c3] at d
        exact absurd d (hn a' j' h2)
    · rcases row a' j' b h6 with ⟨d1, d2, d3⟩ | ⟨-, d⟩
      · rw [d3] at c
        exact absurd c (hn a j h1)
      · exact h.1 a a' j j' b h1 h2 h3 h4 c d
  · rcases row a j b h2 with ⟨c1, c2, c3⟩ | ⟨-, c⟩
    · rw [c3]; exact hq
    · exact h.2 a j b h1 c
theorem RX_nw {S0 S : MM} {q kd n : Nat} (h : RX S0 S) : RX S0 (nw S q kd n) := fun a j b h1 h2 => by
  obtain ⟨n1, r1⟩ := nw_row h2
  exact h a j b (nw_live n1 h1) r1
theorem RX_pR {S0 S : MM} {o k q : Nat} (h : RX S0 S) (hq : sK S0 q = 0) : RX S0 (pR S o k (some q)) := fun a j b h1 h2 => by
  by_cases hz : a = o ∧ j = k
  · rw [sR_pR, hz.1, hz.2, up2_self] at h2
    cases h2
    exact Or.inr hq
  · rw [sR_pR, up2_ne hz] at h2
    exact h a j b h1 h2
theorem GK_0 {S S' : MM} {q : Nat} (g : GK S S') (h : sK S' q = 0) : sK S q = 0 := by
  by_cases hz : sK S q = 0
  · exact hz
  · rw [(g q hz).1] at h; exact h
theorem GK.rf {S : MM} : GK S S := fun _ _ => ⟨rfl, rfl⟩
theorem GK.nw {S S1 : MM} {q kd n : Nat} (g : GK S S1) (hq : sK S1 q = 0) : GK S (nw S1 q kd n) := g.tr (GK_nw hq)
theorem GK.pI {S S1 : MM} {o k : Nat} {v : Int32} (g : GK S S1) : GK S (pI S1 o k v) := g
theorem GK.pR {S S1 : MM} {o k : Nat} {v : Option Nat} (g : GK S S1) : GK S (pR S1 o k v) := g
theorem nz_nw {S : MM} {q kd n : Nat} (h : kd ≠ 0) : sK (nw S q kd n) q ≠ 0 := by rw [sK_nw, va_up_self]; exact h
theorem nz_ne {S : MM} {q kd n a k : Nat} (hq : sK S q = 0) (h : sK S a = k) (hk : k ≠ 0) : sK (nw S q kd n) a ≠ 0 := by
  have hn : a ≠ q := fun z => hk (by rw [← h, z]; exact hq)
  rw [sK_nw, va_up_ne _ _ hn, h]
  exact hk
theorem t_note0 {S : MM} {o : Nat} {Q : Option Value → MM → Prop} {U : Nat → Prop} (hU : TYU S U) (uo : U o) (hO : OC S) (hk : sK S o = 5) (h : ∀ S', Ex S S' (fun a => a = o) → sK S' o = 5 → sN S' o = sN S o → TYU S' (fun a => U a ∧ a ≠ o) → OC S' → RX S S' → Q none S') : wX4_init [.ref o] S Q := by
  refine Exists.intro 1 (And.intro ⟨by decide, by decide⟩ (fun q1 hq1 => ?_))
  have n1 : o ≠ q1 := fun z => by rw [← z, hk] at hq1; cases hq1
  have k1 : sK (nw S q1 7 0) o = 5 := by rw [sK_nw, va_up_ne _ _ n1]; exact hk
  refine And.intro ⟨by decide, by decide⟩ (s_told0 (And.intro k1 (And.intro ⟨by decide, by decide⟩ (fun q2 hq2 => ?_))))
  have n2 : o ≠ q2 := fun z => by rw [← z] at hq2; exact absurd (k1.symm.trans hq2) (by decide)
  have n3 : q1 ≠ q2 := fun z => by rw [← z, sK_pR, sK_nw, va_up_self] at hq2; cases hq2
  have k2 : sK (nw (pR (nw S q1 7 0) o 0 (some q1)) q2 7 0) o = 5 := by rw [sK_nw, va_up_ne _ _ n2]; exact k1
  have tu := TYU_wR (k := 1) (v := some q2) (TYU_nwt (n := 0) (TYU_wR (k := 0) (v := some q1) (TYU_nwt (n := 0) hU hq1 (show tv 7 = true from rfl)) uo) hq2 (show tv 7 = true from rfl)) uo
  have tc : TC (pR (nw (pR (nw S q1 7 0) o 0 (some q1)) q2 7 0) o 1 (some q2)) o := by
    refine TCo (kd := 5) k2 (fun j k n e => ?_) (fun n => by simp [re]) rfl (fun j N e => by simp [rg] at e)
    match j, e with
    | 0, e =>
      have e' : some (7, 0) = some (k, n) := e
      cases e'
      exact ⟨q1, by rw [sR_pR, up2_ne (by simp), sR_nw, cl2_row n2, sR_pR, up2_self], by rw [sK_pR, sK_nw, va_up_ne _ _ n3, sK_pR, sK_nw, va_up_self], by rw [sN_pR, sN_nw, va_up_ne _ _ n3, sN_pR, sN_nw, va_up_self]⟩
    | 1, e =>
      have e' : some (7, 0) = some (k, n) := e
      cases e'
      exact ⟨q2, by rw [sR_pR, up2_self], by rw [sK_pR, sK_nw, va_up_self], by rw [sN_pR, sN_nw, va_up_self]⟩
    | j + 2, e => simp [rf] at e
  have nn : sN (pR (nw (pR (nw S q1 7 0) o 0 (some q1)) q2 7 0) o 1 (some q2)) o = sN S o := by rw [sN_pR, sN_nw, va_up_ne _ _ n2, sN_pR, sN_nw, va_up_ne _ _ n1]
  have O2 : OC (pR (nw S q1 7 0) o 0 (some q1)) := OC_pR (OC_nw hO hq1) (NR_nw hO hq1) (nz_nw (by decide))
  have O4 : OC (pR (nw (pR (nw S q1 7 0) o 0 (some q1)) q2 7 0) o 1 (some q2)) := OC_pR (OC_nw O2 hq2) (NR_nw O2 hq2) (nz_nw (by decide))
  have g2 : GK S (pR (nw S q1 7 0) o 0 (some q1)) := (GK.rf.nw hq1).pR
  have R4 : RX S (pR (nw (pR (nw S q1 7 0) o 0 (some q1)) q2 7 0) o 1 (some q2)) := RX_pR (RX_nw (RX_pR (RX_nw RX.rf) hq1)) (GK_0 g2 hq2)
  exact And.intro ⟨by decide, by decide⟩ (s_told0 (And.intro k2 (h _ (((((Ex.rf (P := fun a => a = o)).nw hq1).pR (fun _ => rfl)).nw hq2).pR (fun _ => rfl)) k2 nn (TYU_fin tu tc (fun a h1 h2 => ⟨h1, h2⟩)) O4 R4)))
theorem t_port0 {S : MM} {o : Nat} {Q : Option Value → MM → Prop} {U : Nat → Prop} (hU : TYU S U) (uo : U o) (hO : OC S) (hk : sK S o = 6) (hz : ∀ j, sI S o j = 0) (h : ∀ S' t1 t2 t3, Ex S S' (fun a => a = o) → P0v S' o → sR S' o 0 = some t1 → sR S' o 1 = some t2 → sR S' o 14 = some t3 → T0 S' t1 0 0 0 → T0 S' t2 0 0 0 → sK S' t3 = 7 → t1 ≠ t2 → t1 ≠ t3 → sK S t1 = 0 → sK S t2 = 0 → sN S' o = sN S o → TYU S' (fun a => U a ∧ a ≠ o) → OC S' → RX S S' → Q none S') : wX5_init [.ref o] S Q := by
  refine Exists.intro 1 (And.intro ⟨by decide, by decide⟩ (fun q1 hq1 => ?_))
  have n1 : o ≠ q1 := fun z => by rw [← z, hk] at hq1; cases hq1
  have k1 : sK (nw S q1 7 0) o = 6 := by rw [sK_nw, va_up_ne _ _ n1]; exact hk
  refine And.intro ⟨by decide, by decide⟩ (s_told0 (And.intro k1 (And.intro ⟨by decide, by decide⟩ (fun q2 hq2 => ?_))))
  have n2 : o ≠ q2 := fun z => by rw [← z] at hq2; exact absurd (k1.symm.trans hq2) (by decide)
  have n3 : q1 ≠ q2 := fun z => by rw [← z, sK_pR, sK_nw, va_up_self] at hq2; cases hq2
  have k2 : sK (nw (pR (nw S q1 7 0) o 0 (some q1)) q2 7 0) o = 6 := by rw [sK_nw, va_up_ne _ _ n2]; exact k1
  refine And.intro ⟨by decide, by decide⟩ (s_told0 (And.intro k2 (And.intro k2 (And.intro k2 (And.intro ⟨by decide, by decide⟩ (fun q3 hq3 => ?_))))))
  have n4 : o ≠ q3 := fun z => by rw [← z] at hq3; exact absurd (k2.symm.trans hq3) (by decide)
  have n5 : q1 ≠ q3 := fun z => by rw [← z, sK_pI, sK_pI, sK_pR, sK_nw, va_up_ne _ _ n3, sK_pR, sK_nw, va_up_self] at hq3; cases hq3
  have n6 : q2 ≠ q3 := fun z => by rw [← z, sK_pI, sK_pI, sK_pR, sK_nw, va_up_self] at hq3; cases hq3
  have k3 : sK (nw (pI (pI (pR (nw (pR (nw S q1 7 0) o 0 (some q1)) q2 7 0) o 1 (some q2)) o 2 (-1)) o 10 (-1)) q3 7 0) o = 6 := by rw [sK_nw, va_up_ne _ _ n4]; exact k2
  have e0 : Ex S (pR (nw (pR (nw S q1 7 0) o 0 (some q1)) q2 7 0) o 1 (some q2)) (fun a => a = o) := ((((Ex.rf (P := fun a => a = o)).nw hq1).pR (fun _ => rfl)).nw hq2).pR (fun _ => rfl)
  have z2 : sK S q2 = 0 := (((Ex.rf (P := fun a => a = o)).nw hq1).pR (k := 0) (v := some q1) (fun _ => rfl)).fr hq2 (fun z => n2 z.symm)
  have tu := TYU_wI (k := 15) (v := -1) (TYU_wR (k := 14) (v := some q3) (TYU_nwt (n := 0) (TYU_wI (k := 10) (v := -1) (TYU_wI (k := 2) (v := -1) (TYU_wR (k := 1) (v := some q2) (TYU_nwt (n := 0) (TYU_wR (k := 0) (v := some q1) (TYU_nwt (n := 0) hU hq1 (show tv 7 = true from rfl)) uo) hq2 (show tv 7 = true from rfl)) uo) uo) uo) hq3 (show tv 7 = true from rfl)) uo) uo
  have tc : TC (pI (pR (nw (pI (pI (pR (nw (pR (nw S q1 7 0) o 0 (some q1)) q2 7 0) o 1 (some q2)) o 2 (-1)) o 10 (-1)) q3 7 0) o 14 (some q3)) o 15 (-1)) o := by
    refine TCo (kd := 6) k3 (fun j k n e => ?_) (fun n => by simp [re]) rfl (fun j N e => by simp [rg] at e)
    have hj : j = 0 ∨ j = 1 ∨ j = 14 := by
      unfold rf at e
      split at e <;> simp at e <;> omega
    rcases hj with rfl | rfl | rfl
    · have e' : some (7, 0) = some (k, n) := e
      cases e'
      exact ⟨q1, by rw [sR_pI, sR_pR, up2_ne (by simp), sR_nw, cl2_row n4, sR_pI, sR_pI, sR_pR, up2_ne (by simp), sR_nw, cl2_row n2, sR_pR, up2_self], by rw [sK_pI, sK_pR, sK_nw, va_up_ne _ _ n5, sK_pI, sK_pI, sK_pR, sK_nw, va_up_ne _ _ n3, sK_pR, sK_nw, va_up_self], by rw [sN_pI, sN_pR, sN_nw, va_up_ne _ _ n5, sN_pI, sN_pI, sN_pR, sN_nw, va_up_ne _ _ n3, sN_pR, sN_nw, va_up_self]⟩
    · have e' : some (7, 0) = some (k, n) := e
      cases e'
      exact ⟨q2, by rw [sR_pI, sR_pR, up2_ne (by simp), sR_nw, cl2_row n4, sR_pI, sR_pI, sR_pR, up2_self], by rw [sK_pI, sK_pR, sK_nw, va_up_ne _ _ n6, sK_pI, sK_pI, sK_pR, sK_nw, va_up_self], by rw [sN_pI, sN_pR, sN_nw, va_up_ne _ _ n6, sN_pI, sN_pI, sN_pR, sN_nw, va_up_self]⟩
    · have e' : some (7, 0) = some (k, n) := e
      cases e'
      exact ⟨q3, by rw [sR_pI, sR_pR, up2_self], by rw [sK_pI, sK_pR, sK_nw, va_up_self], by rw [sN_pI, sN_pR, sN_nw, va_up_self]⟩
  have nn : sN (pI (pR (nw (pI (pI (pR (nw (pR (nw S q1 7 0) o 0 (some q1)) q2 7 0) o 1 (some q2)) o 2 (-1)) o 10 (-1)) q3 7 0) o 14 (some q3)) o 15 (-1)) o = sN S o := by rw [sN_pI, sN_pR, sN_nw, va_up_ne _ _ n4, sN_pI, sN_pI, sN_pR, sN_nw, va_up_ne _ _ n2, sN_pR, sN_nw, va_up_ne _ _ n1]
  have O2 : OC (pR (nw S q1 7 0) o 0 (some q1)) := OC_pR (OC_nw hO hq1) (NR_nw hO hq1) (nz_nw (by decide))
  have O4 : OC (pI (pI (pR (nw (pR (nw S q1 7 0) o 0 (some q1)) q2 7 0) o 1 (some q2)) o 2 (-1)) o 10 (-1)) := OC_pR (S := nw (pR (nw S q1 7 0) o 0 (some q1)) q2 7 0) (OC_nw O2 hq2) (NR_nw O2 hq2) (nz_nw (by decide))
  have O6 : OC (pI (pR (nw (pI (pI (pR (nw (pR (nw S q1 7 0) o 0 (some q1)) q2 7 0) o 1 (some q2)) o 2 (-1)) o 10 (-1)) q3 7 0) o 14 (some q3)) o 15 (-1)) := OC_pR (S := nw (pI (pI (pR (nw (pR (nw S q1 7 0) o 0 (some q1)) q2 7 0) o 1 (some q2)) o 2 (-1)) o 10 (-1)) q3 7 0) (OC_nw O4 hq3) (NR_nw O4 hq3) (nz_nw (by decide))
  have g2 : GK S (pR (nw S q1 7 0) o 0 (some q1)) := (GK.rf.nw hq1).pR
  have g4 : GK S (pI (pI (pR (nw (pR (nw S q1 7 0) o 0 (some q1)) q2 7 0) o 1 (some q2)) o 2 (-1)) o 10 (-1)) := (g2.nw (S1 := (pR (nw S q1 7 0) o 0 (some q1))) hq2)
  have R2 : RX S (pR (nw S q1 7 0) o 0 (some q1)) := RX_pR (RX_nw RX.rf) hq1
  have R4 : RX S (pI (pI (pR (nw (pR (nw S q1 7 0) o 0 (some q1)) q2 7 0) o 1 (some q2)) o 2 (-1)) o 10 (-1)) := RX_pR (S := nw (pR (nw S q1 7 0) o 0 (some q1)) q2 7 0) (RX_nw R2) (GK_0 g2 hq2)
  have R6 : RX S (pI (pR (nw (pI (pI (pR (nw (pR (nw S q1 7 0) o 0 (some q1)) q2 7 0) o 1 (some q2)) o 2 (-1)) o 10 (-1)) q3 7 0) o 14 (some q3)) o 15 (-1)) := RX_pR (S := nw (pI (pI (pR (nw (pR (nw S q1 7 0) o 0 (some q1)) q2 7 0) o 1 (some q2)) o 2 (-1)) o 10 (-1)) q3 7 0) (RX_nw R4) (GK_0 g4 hq3)
  refine And.intro ⟨by decide, by decide⟩ (s_told0 (And.intro k3 (And.intro k3 (h _ q1 q2 q3 ((((e0.pI (fun _ => rfl)).pI (fun _ => rfl)).nw hq3).pR (fun _ => rfl) |>.pI (fun _ => rfl)) ?_ ?_ ?_ ?_ ?_ ?_ ?_ n3 n5 hq1 z2 nn (TYU_fin tu tc (fun a h1 h2 => ⟨h1, h2⟩)) O6 R6))))
  · have hI : ∀ j, sI (pI (pR (nw (pI (pI (pR (nw (pR (nw S q1 7 0) o 0 (some q1)) q2 7 0) o 1 (some q2)) o 2 (-1)) o 10 (-1)) q3 7 0) o 14 (some q3)) o 15 (-1)) o j = if j = 15 then -1 else if j = 10 then -1 else if j = 2 then -1 else 0 := by
      intro j
      rw [sI_pI, sI_pR, sI_nw]
      unfold up2
      rw [cl2_row n4, sI_pI, sI_pI]
      unfold up2
      rw [sI_pR, sI_nw, cl2_row n2, sI_pR, sI_nw, cl2_row n1, hz]
      simp
    exact ⟨k3, by rw [hI]; rfl, by rw [hI]; rfl, by rw [hI]; rfl, by rw [hI]; rfl, by rw [hI]; rfl, by rw [hI]; rfl, by rw [hI]; rfl, by rw [hI]; rfl, by rw [hI]; rfl⟩
  · rw [sR_pI, sR_pR, up2_ne (by simp), sR_nw, cl2_row n4, sR_pI, sR_pI, sR_pR, up2_ne (by simp), sR_nw, cl2_row n2, sR_pR, up2_self]
  · rw [sR_pI, sR_pR, up2_ne (by simp), sR_nw, cl2_row n4, sR_pI, sR_pI, sR_pR, up2_self]
  · rw [sR_pI, sR_pR, up2_self]
  · have r1 : RS (nw S q1 7 0) (pI (pR (nw (pI (pI (pR (nw (pR (nw S q1 7 0) o 0 (some q1)) q2 7 0) o 1 (some q2)) o 2 (-1)) o 10 (-1)) q3 7 0) o 14 (some q3)) o 15 (-1)) q1 := (((((((RS_pR n1.symm).tr (RS_nw n3)).tr (RS_pR n1.symm)).tr (RS_pI n1.symm)).tr (RS_pI n1.symm)).tr (RS_nw n5)).tr (RS_pR n1.symm)).tr (RS_pI n1.symm)
    refine T0_ext ?_ r1
    exact ⟨by rw [sK_nw, va_up_self], by rw [sI_nw, cl2_self], by rw [sI_nw, cl2_self], by rw [sI_nw, cl2_self], by rw [sI_nw, cl2_self], by rw [sI_nw, cl2_self]⟩
  · have r1 : RS (nw (pR (nw S q1 7 0) o 0 (some q1)) q2 7 0) (pI (pR (nw (pI (pI (pR (nw (pR (nw S q1 7 0) o 0 (some q1)) q2 7 0) o 1 (some q2)) o 2 (-1)) o 10 (-1)) q3 7 0) o 14 (some q3)) o 15 (-1)) q2 := (((((RS_pR n2.symm).tr (RS_pI n2.symm)).tr (RS_pI n2.symm)).tr (RS_nw n6)).tr (RS_pR n2.symm)).tr (RS_pI n2.symm)
    refine T0_ext ?_ r1
    exact ⟨by rw [sK_nw, va_up_self], by rw [sI_nw, cl2_self], by rw [sI_nw, cl2_self], by rw [sI_nw, cl2_self], by rw [sI_nw, cl2_self], by rw [sI_nw, cl2_self]⟩
  · rw [sK_pI, sK_pR, sK_nw, va_up_self]
set_option maxHeartbeats 1000000 in
theorem t_endL {Q : Option Value → MM → Prop} {o pa : Nat} {sys : Int32} {U : Nat → Prop} (uo : U o) (up : U pa) : ∀ (n i : Nat) (ex : Lv) (S : MM) (c z : Nat), i + n = 8 → (ex = [] ∨ ∃ w, ex = [(3, .ref w)]) → sK S o = 2 → sR S o 0 = some pa → sK S pa = 17 → sN S pa = 8 → Ps S pa sys i → TYU S U → AI S pa 6 i → OC S → c + 4 * n ≤ 34 → z + 33 * n ≤ 472 →
    (∀ S', Ex S S' (fun a => a = pa) → sK S' pa = 17 → sN S' pa = 8 → Ps S' pa sys 8 → TYU S' U → AI S' pa 6 8 → GK S S' → OC S' → RX S S' → Q none S') → wpn (kX1_init Q) (n + 2) 35 ((2, .int (nI i)) :: (ex ++ [(0, .ref o), (1, .int sys)])) [] S c z := by
  intro n
  induction n with
  | zero =>
    intro i ex S c z hi hex ho hoR hp hpN hps hU hA hO hc hz K
    have e8 : i = 8 := by omega
    subst e8
    rcases hex with rfl | ⟨w, rfl⟩
    · exact And.intro (fun _ => K S Ex.rf hp hpN hps hU hA (fun _ _ => ⟨rfl, rfl⟩) hO RX.rf) (fun h => absurd (by decide) h)
    · exact And.intro (fun _ => K S Ex.rf hp hpN hps hU hA (fun _ _ => ⟨rfl, rfl⟩) hO RX.rf) (fun h => absurd (by decide) h)
  | succ n ih =>
    intro i ex S c z hi hex ho hoR hp hpN hps hU hA hO hc hz K
    have hi8 : i < 8 := by omega
    have body : ∀ q, sK S q = 0 → ∀ S' t1 t2 t3, Ex (nw S q 6 0) S' (fun a => a = q) → P0v S' q → sR S' q 0 = some t1 → sR S' q 1 = some t2 → sR S' q 14 = some t3 → T0 S' t1 0 0 0 → T0 S' t2 0 0 0 → sK S' t3 = 7 → t1 ≠ t2 → t1 ≠ t3 → sK (nw S q 6 0) t1 = 0 → sK (nw S q 6 0) t2 = 0 →
        (sK S' o = 2 ∧ sR S' o 0 = some pa ∧ sK S' pa = 17 ∧ sN S' pa = 8) ∧ (∀ S6, S6 = pR (pI (pI (pI S' t1 0 sys) t1 2 100) t1 3 (nI i)) pa i (some q) → Ex S S6 (fun a => a = pa) ∧ Ps S6 pa sys (i + 1)) := by
      intro q hq S' t1 t2 t3 hE hv h0 h1 h2 hT1 hT2 hT3 n12 n13 f1 f2
      have old : ∀ a, sK S a ≠ 0 → a ≠ q ∧ RS S S' a := fun a ha => by
        have hn : a ≠ q := fun z => ha (by rw [z]; exact hq)
        have r1 : RS S (nw S q 6 0) a := RS_nw hn
        exact ⟨hn, r1.tr (hE a (by rw [r1.1]; exact ha) hn)⟩
      have oo := (old o (by rw [ho]; decide)).2
      have op := (old pa (by rw [hp]; decide)).2
      have qt : q ≠ t1 := fun z => by have := hv.1; rw [z, hT1.1] at this; cases this
      have qt2 : q ≠ t2 := fun z => by have := hv.1; rw [z, hT2.1] at this; cases this
      have qp : q ≠ pa := fun z => by have := hp; rw [← z, hq] at this; cases this
      have g1 : sK S t1 = 0 := by rw [sK_nw, va_up_ne _ _ qt.symm] at f1; exact f1
      have g2 : sK S t2 = 0 := by rw [sK_nw, va_up_ne _ _ qt2.symm] at f2; exact f2
      refine ⟨⟨by rw [oo.1]; exact ho, by rw [oo.2.2.2.1]; exact hoR, by rw [op.1]; exact hp, by rw [op.2.1]; exact hpN⟩, ?_⟩
      intro S6 hS6
      have st : ∀ a, a ≠ t1 → a ≠ pa → RS S' S6 a := fun a a1 a2 => by
        rw [hS6]
        exact (((RS_pI a1).tr (RS_pI a1)).tr (RS_pI a1)).tr (RS_pR a2)
      have ol6 : ∀ a, sK S a ≠ 0 → a ≠ pa → RS S S6 a := fun a ha h2 => (old a ha).2.tr (st a (fun z => ha (by rw [z]; exact g1)) h2)
      refine ⟨fun a ha h2 => ol6 a ha h2, fun j hj => ?_⟩
      by_cases hji : j = i
      · subst hji
        have pt1 : pa ≠ t1 := fun z => by have := hp; rw [z, g1] at this; cases this
        have pt2 : t2 ≠ pa := fun z => by have := hp; rw [← z, g2] at this; cases this
        refine ⟨q, by rw [hS6, sR_pR, up2_self], P0v_ext hv (st q qt qp), ⟨t1, by rw [(st q qt qp).2.2.2.1]; exact h0, ?_⟩, ⟨t2, by rw [(st q qt qp).2.2.2.1]; exact h1, T0_ext hT2 (st t2 n12.symm pt2)⟩, t3, by rw [(st q qt qp).2.2.2.1]; exact h2, ?_⟩
        · obtain ⟨x0, x1, x2, x3, x4, x5⟩ := hT1
          rw [hS6]
          unfold T0
          rw [sK_pR, sI_pR, sI_pI, sI_pI, sI_pI]
          refine ⟨x0, ?_, ?_, ?_, ?_, ?_⟩
          · rw [up2_ne (by simp), up2_ne (by simp), up2_self]
          · rw [up2_ne (by simp), up2_ne (by simp), up2_ne (by simp)]; exact x2
          · rw [up2_ne (by simp), up2_self]
          · rw [up2_self]
          · rw [up2_ne (by simp), up2_ne (by simp), up2_ne (by simp)]; exact x5
        · rw [hS6]; exact hT3
      · obtain ⟨p, a1, a2⟩ := hps j (by omega)
        refine ⟨p, ?_, P0_ext a2 (fun a ha => ol6 a (by rcases ha with h | h <;> rw [h] <;> decide) (fun z => by rw [z, hp] at ha; rcases ha with h | h <;> cases h))⟩
        rw [hS6, sR_pR, up2_ne (fun z => hji z.2)]
        show sR S' pa j = some p
        rw [op.2.2.2.1]
        exact a1
    have hv8 : vp_in (nI i) 8 := in_nI hi8 (by decide)
    have hcl : (nI i).toNatClampNeg = i := cl_nI (by omega)
    rcases hex with rfl | ⟨w, rfl⟩ <;>
    · refine And.intro (fun h => absurd h (n8_ge hi8)) (fun _ => And.intro ⟨by omega, by show z + 18 ≤ 472; omega⟩ (fun q hq => And.intro ⟨by omega, by show z + 18 + 15 ≤ 472; omega⟩ ?_))
      refine t_port0 (U := fun a => U a ∨ a = q) (TYU_nw hU hq) (Or.inr rfl) (OC_nw hO hq) (by rw [sK_nw, va_up_self]) (fun j => by rw [sI_nw, cl2_self]) (fun S' t1 t2 t3 hE hv h0 h1 h2 hT1 hT2 hT3 n12 n13 f1 f2 nq tq oc rx => ?_)
      obtain ⟨⟨b1, b2, b3, b4⟩, hb2⟩ := body q hq S' t1 t2 t3 hE hv h0 h1 h2 hT1 hT2 hT3 n12 n13 f1 f2
      obtain ⟨hE6, hP6⟩ := hb2 _ rfl
      have nq0 : sN S' q = 0 := by rw [nq, sN_nw, va_up_self]
      have tU : TYU S' U := TYU_weak tq (fun a ha => ha.1.elim id (fun z => absurd z ha.2))
      have gk : GK S S' := (GK_nw hq).tr (Ex_GK hE (by rw [hv.1, sK_nw, va_up_self]) nq)
      have rp : RS S S' pa := by
        have hn : pa ≠ q := fun z => by rw [z, hq] at hp; cases hp
        have r1 : RS S (nw S q 6 0) pa := RS_nw hn
        exact r1.tr (hE pa (by rw [r1.1, hp]; decide) hn)
      have tv1 : tv (sK S' t1) = true := by rw [hT1.1]; rfl
      have tU6 : TYU (pR (pI (pI (pI S' t1 0 sys) t1 2 100) t1 3 (nI i)) pa i (some q)) U := TYU_wR (TYU_tI (TYU_tI (TYU_tI tU tv1) tv1) tv1) up
      have hA5 : AI S' pa 6 i := AI_ext hA rp gk (by decide)
      have hA6 : AI (pR (pI (pI (pI S' t1 0 sys) t1 2 100) t1 3 (nI i)) pa i (some q)) pa 6 (i + 1) := AI_put (S := pI (pI (pI S' t1 0 sys) t1 2 100) t1 3 (nI i)) hA5 hv.1 nq0
      have rx1 : RX S S' := RX.tr (RX_nw RX.rf) rx (GK_nw hq)
      have nrq : NR S' q := NR_rx (NR_nw hO hq) rx (nz_nw (by decide))
      have oc6 : OC (pR (pI (pI (pI S' t1 0 sys) t1 2 100) t1 3 (nI i)) pa i (some q)) := OC_pR (S := pI (pI (pI S' t1 0 sys) t1 2 100) t1 3 (nI i)) oc nrq (by show sK S' q ≠ 0; rw [hv.1]; decide)
      have rx6 : RX S (pR (pI (pI (pI S' t1 0 sys) t1 2 100) t1 3 (nI i)) pa i (some q)) := RX_pR (S := pI (pI (pI S' t1 0 sys) t1 2 100) t1 3 (nI i)) rx1 hq
      have nx := ih (i + 1) [(3, .ref q)] (pR (pI (pI (pI S' t1 0 sys) t1 2 100) t1 3 (nI i)) pa i (some q)) (c + 1 + 3) (z + 18 + 15) (by omega) (Or.inr ⟨q, rfl⟩) b1 (by rw [sR_pR, up2_ne (fun z => by have h9 := b1; rw [z.1, b3] at h9; cases h9)]; exact b2) b3 b4 hP6 tU6 hA6 oc6 (by omega) (by omega) (fun S9 e9 k9 n9 p9 t9 a9 g9 o9 x9 => K S9 (hE6.tr e9 (fun _ _ h => h) (fun _ _ h => h)) k9 n9 p9 t9 a9 (gk.tr (GK.tr (fun _ _ => ⟨rfl, rfl⟩) g9)) o9 (RX.tr rx6 x9 gk))
      rw [← nI_1 i] at nx
      refine And.intro hv.1 (useR h0 (And.intro hT1.1 (And.intro hv.1 (useR h0 (And.intro hT1.1 (And.intro hv.1 (useR h0 (And.intro hT1.1 (And.intro b1 (useR b2 (And.intro b3 (And.intro (by show vp_in (nI i) (sN S' pa); rw [b4]; exact hv8) (And.intro hv.1 ?_)))))))))))))
      show wpn (kX1_init Q) (n + 2) 35 _ [] (pR (pI (pI (pI S' t1 0 sys) t1 2 100) t1 3 (nI i)) pa (nI i).toNatClampNeg (some q)) _ _
      rw [hcl]
      exact nx
theorem t_end0 {S : MM} {o : Nat} {sys : Int32} {Q : Option Value → MM → Prop} {U : Nat → Prop} (hU : TYU S U) (uo : U o) (hO : OC S) (hk : sK S o = 2) (hz : ∀ j, sI S o j = 0) (h : ∀ S', Ex S S' (fun a => a = o) → E0 S' o sys → sN S' o = sN S o → TYU S' (fun a => U a ∧ a ≠ o) → OC S' → RX S S' → Q none S') : wX1_init [.ref o, .int sys] S Q := by
  refine Exists.intro 11 (And.intro (by decide) (And.intro ⟨by decide, by decide, by decide⟩ (fun pa hpa => ?_)))
  have n1 : o ≠ pa := fun z => by rw [← z, hk] at hpa; cases hpa
  have k1 : sK (nw S pa 17 8) o = 2 := by rw [sK_nw, va_up_ne _ _ n1]; exact hk
  refine And.intro k1 (And.intro k1 (And.intro (by decide) (And.intro ⟨by decide, by decide, by decide⟩ (fun ka hka => ?_))))
  have n2 : o ≠ ka := fun z => by rw [← z] at hka; exact absurd (k1.symm.trans hka) (by decide)
  have n3 : pa ≠ ka := fun z => by rw [← z, sK_pI, sK_pR, sK_nw, va_up_self] at hka; cases hka
  have k2 : sK (nw (pI (pR (nw S pa 17 8) o 0 (some pa)) o 2 8) ka 10 200) o = 2 := by rw [sK_nw, va_up_ne _ _ n2]; exact k1
  refine And.intro k2 (And.intro k2 ?_)
  have e0 : Ex S (pI (pR (nw (pI (pR (nw S pa 17 8) o 0 (some pa)) o 2 8) ka 10 200) o 4 (some ka)) o 1 sys) (fun a => a = o) := ((((((Ex.rf (P := fun a => a = o)).nw hpa).pR (fun _ => rfl)).pI (fun _ => rfl)).nw hka).pR (fun _ => rfl)).pI (fun _ => rfl)
  have tu0 : TYU (pI (pR (nw (pI (pR (nw S pa 17 8) o 0 (some pa)) o 2 8) ka 10 200) o 4 (some ka)) o 1 sys) (fun a => U a ∨ a = pa) := TYU_wI (TYU_wR (TYU_nwt (TYU_wI (TYU_wR (TYU_nw hU hpa) (Or.inl uo)) (Or.inl uo)) hka rfl) (Or.inl uo)) (Or.inl uo)
  have rA0 : ∀ j, sR (pI (pR (nw (pI (pR (nw S pa 17 8) o 0 (some pa)) o 2 8) ka 10 200) o 4 (some ka)) o 1 sys) pa j = none := fun j => by rw [sR_pI, sR_pR, up2_ne (fun z => n1 z.1.symm), sR_nw, cl2_row n3, sR_pI, sR_pR, up2_ne (fun z => n1 z.1.symm), sR_nw, cl2_self]
  have rK0 : sR (pI (pR (nw (pI (pR (nw S pa 17 8) o 0 (some pa)) o 2 8) ka 10 200) o 4 (some ka)) o 1 sys) o 4 = some ka := by rw [sR_pI, sR_pR, up2_self]
  have kK0 : sK (pI (pR (nw (pI (pR (nw S pa 17 8) o 0 (some pa)) o 2 8) ka 10 200) o 4 (some ka)) o 1 sys) ka = 10 := by rw [sK_pI, sK_pR, sK_nw, va_up_self]
  have nK0 : sN (pI (pR (nw (pI (pR (nw S pa 17 8) o 0 (some pa)) o 2 8) ka 10 200) o 4 (some ka)) o 1 sys) ka = 200 := by rw [sN_pI, sN_pR, sN_nw, va_up_self]
  have nO0 : sN (pI (pR (nw (pI (pR (nw S pa 17 8) o 0 (some pa)) o 2 8) ka 10 200) o 4 (some ka)) o 1 sys) o = sN S o := by rw [sN_pI, sN_pR, sN_nw, va_up_ne _ _ n2, sN_pI, sN_pR, sN_nw, va_up_ne _ _ n1]
  have oc1 : OC (pI (pR (nw S pa 17 8) o 0 (some pa)) o 2 8) := OC_pR (S := nw S pa 17 8) (OC_nw hO hpa) (NR_nw hO hpa) (nz_nw (by decide))
  have oc2 : OC (pI (pR (nw (pI (pR (nw S pa 17 8) o 0 (some pa)) o 2 8) ka 10 200) o 4 (some ka)) o 1 sys) := OC_pR (S := nw (pI (pR (nw S pa 17 8) o 0 (some pa)) o 2 8) ka 10 200) (OC_nw oc1 hka) (NR_nw oc1 hka) (nz_nw (by decide))
  have gk1 : GK S (pI (pR (nw S pa 17 8) o 0 (some pa)) o 2 8) := (GK.rf.nw hpa)
  have gk2 : GK S (pI (pR (nw (pI (pR (nw S pa 17 8) o 0 (some pa)) o 2 8) ka 10 200) o 4 (some ka)) o 1 sys) := gk1.nw (S1 := (pI (pR (nw S pa 17 8) o 0 (some pa)) o 2 8)) hka
  have rx1 : RX S (pI (pR (nw S pa 17 8) o 0 (some pa)) o 2 8) := RX_pR (S := nw S pa 17 8) (RX_nw RX.rf) hpa
  have rx2 : RX S (pI (pR (nw (pI (pR (nw S pa 17 8) o 0 (some pa)) o 2 8) ka 10 200) o 4 (some ka)) o 1 sys) := RX_pR (S := nw (pI (pR (nw S pa 17 8) o 0 (some pa)) o 2 8) ka 10 200) (RX_nw rx1) (GK_0 gk1 hka)
  generalize hS1 : pI (pR (nw (pI (pR (nw S pa 17 8) o 0 (some pa)) o 2 8) ka 10 200) o 4 (some ka)) o 1 sys = S1 at e0 oc2 gk2 rx2 tu0 rA0 rK0 kK0 nK0 nO0
  have kS : sK S1 o = 2 := by rw [← hS1]; exact k2
  have rS : sR S1 o 0 = some pa := by rw [← hS1, sR_pI, sR_pR, up2_ne (by simp), sR_nw, cl2_row n2, sR_pI, sR_pR, up2_self]
  have kP : sK S1 pa = 17 := by rw [← hS1, sK_pI, sK_pR, sK_nw, va_up_ne _ _ n3, sK_pI, sK_pR, sK_nw, va_up_self]
  have nP : sN S1 pa = 8 := by rw [← hS1, sN_pI, sN_pR, sN_nw, va_up_ne _ _ n3, sN_pI, sN_pR, sN_nw, va_up_self]
  have vS : ∀ j, sI S1 o j = if j = 1 then sys else if j = 2 then 8 else 0 := by
    intro j
    rw [← hS1, sI_pI, sI_pR, sI_nw]
    unfold up2
    rw [cl2_row n2, sI_pI]
    unfold up2
    rw [sI_pR, sI_nw, cl2_row n1, hz]
    simp
  have key := t_endL (Q := Q) (o := o) (pa := pa) (sys := sys) (U := fun a => U a ∨ a = pa) (Or.inl uo) (Or.inr rfl) 8 0 [] S1 2 208 rfl (Or.inl rfl) kS rS kP nP (fun j hj => by omega) tu0 (AI_none rA0) oc2 (by decide) (by decide) (fun S' e9 k9 n9 p9 t9 a9 g9 o9 x9 => ?_)
  · rw [← hS1] at key
    exact key
  · have ro := e9 o (by rw [kS]; decide) n1
    have tcp : TC S' pa := TCa (ka := 17) (na := 8) (kd := 6) k9 n9 (fun j => by simp [rf]) (Or.inl rfl) (Or.inl rfl) (fun j => by simp [rg]) (Or.inl a9)
    have vo : ∀ j, sI S' o j = if j = 1 then sys else if j = 2 then 8 else 0 := fun j => by rw [ro.2.2.1]; exact vS j
    have tco : TC S' o := by
      refine TCo (kd := 2) (by rw [ro.1]; exact kS) (fun j k n e => ?_) (fun n => by simp [re]) rfl (fun j N e => ?_)
      · have hj : j = 0 ∨ j = 4 := by
          unfold rf at e
          split at e <;> simp at e <;> omega
        rcases hj with rfl | rfl
        · have e' : some (17, 8) = some (k, n) := e
          cases e'
          exact ⟨pa, by rw [ro.2.2.2.1]; exact rS, k9, n9⟩
        · have e' : some (10, 200) = some (k, n) := e
          cases e'
          have gk := g9 ka (by rw [kK0]; decide)
          exact ⟨ka, by rw [ro.2.2.2.1]; exact rK0, by rw [gk.1]; exact kK0, by rw [gk.2]; exact nK0⟩
      · have hj : j = 5 ∨ j = 6 := by
          unfold rg at e
          split at e <;> simp at e <;> omega
        rcases hj with rfl | rfl
        · have e' : some 51 = some N := e
          cases e'
          exact ⟨0, by decide, by rw [vo]; rfl⟩
        · have e' : some 50 = some N := e
          cases e'
          exact ⟨0, by decide, by rw [vo]; rfl⟩
    refine h S' (e0.tr e9 (fun _ _ z => z) (fun a ha z => by rw [z] at ha; exact absurd hpa ha)) ⟨⟨by rw [ro.1]; exact kS, ?_⟩, pa, by rw [ro.2.2.2.1]; exact rS, k9, n9, p9⟩ (by rw [ro.2.1]; exact nO0) (TYU_fin (TYU_fin t9 tcp (U' := U) (fun a h1 h2 => h1.elim id (fun z => absurd z h2))) tco (fun a h1 h2 => ⟨h1, h2⟩)) o9 (RX.tr rx2 x9 gk2)
    rw [ro.2.2.1]
    exact ⟨by rw [vS]; rfl, by rw [vS]; rfl, by rw [vS]; rfl, by rw [vS]; rfl, by rw [vS]; rfl, by rw [vS]; rfl, by rw [vS]; rfl⟩
set_option maxRecDepth 20000 in
theorem t_laneL {Q : Option Value → MM → Prop} {o na : Nat} {U : Nat → Prop} (uo : U o) (un : U na) : ∀ (n i : Nat) (S : MM) (c z : Nat), i + n = 8 → sK S o = 4 → sR S o 0 = some na → sK S na = 16 → sN S na = 8 → TYU S U → AI S na 5 i → OC S → c + 3 * n ≤ 26 → z + 13 * n ≤ 312 → (∀ S', Ex S S' (fun a => a = na) → sK S' na = 16 → sN S' na = 8 → TYU S' U → AI S' na 5 8 → GK S S' → OC S' → RX S S' → Q none S') → wpn (kX3_init Q) (n + 2) 25 [(1, .int (nI i)), (0, .ref o)] [] S c z := by
  intro n
  induction n with
  | zero =>
    intro i S c z hi ho hR hn hN hU hA hO hc hz K
    have e8 : i = 8 := by omega
    subst e8
    exact And.intro (fun _ => K S Ex.rf hn hN hU hA (fun _ _ => ⟨rfl, rfl⟩) hO RX.rf) (fun h => absurd (by decide) h)
  | succ n ih =>
    intro i S c z hi ho hR hn hN hU hA hO hc hz K
    have hi8 : i < 8 := by omega
    refine And.intro (fun h => absurd h (n8_ge hi8)) (fun _ => And.intro ho (useR hR (And.intro ⟨by omega, by show z + 3 ≤ 312; omega⟩ (fun q hq => And.intro ⟨by omega, by show z + 3 + 10 ≤ 312; omega⟩ ?_))))
    refine t_note0 (U := fun a => U a ∨ a = q) (TYU_nw hU hq) (Or.inr rfl) (OC_nw hO hq) (by rw [sK_nw, va_up_self]) (fun S' hE hk nq tq oc rx => ?_)
    have old : ∀ a, sK S a ≠ 0 → RS S S' a := fun a ha => by
      have hn : a ≠ q := fun z => ha (by rw [z]; exact hq)
      have r1 : RS S (nw S q 5 0) a := RS_nw hn
      exact r1.tr (hE a (by rw [r1.1]; exact ha) hn)
    have ro := old o (by rw [ho]; decide)
    have rn := old na (by rw [hn]; decide)
    have nq0 : sN S' q = 0 := by rw [nq, sN_nw, va_up_self]
    have tU : TYU S' U := TYU_weak tq (fun a ha => ha.1.elim id (fun z => absurd z ha.2))
    have gk : GK S S' := (GK_nw hq).tr (Ex_GK hE (by rw [hk, sK_nw, va_up_self]) nq)
    have tU6 : TYU (pR S' na i (some q)) U := TYU_wR tU un
    have hA6 : AI (pR S' na i (some q)) na 5 (i + 1) := AI_put (AI_ext hA rn gk (by decide)) hk nq0
    have rx1 : RX S S' := RX.tr (RX_nw RX.rf) rx (GK_nw hq)
    have oc6 : OC (pR S' na i (some q)) := OC_pR oc (NR_rx (NR_nw hO hq) rx (nz_nw (by decide))) (by rw [hk]; decide)
    have rx6 : RX S (pR S' na i (some q)) := RX_pR rx1 hq
    have nx := ih (i + 1) (pR S' na i (some q)) (c + 1 + 2) (z + 3 + 10) (by omega) (by rw [sK_pR, ro.1]; exact ho) (by rw [sR_pR, up2_ne (fun z => by have h9 := ho; rw [z.1, hn] at h9; cases h9), ro.2.2.2.1]; exact hR) (by rw [sK_pR, rn.1]; exact hn) (by rw [sN_pR, rn.2.1]; exact hN) tU6 hA6 oc6 (by omega) (by omega) (fun S9 e9 k9 n9 t9 a9 g9 o9 x9 => K S9 (Ex.tr (fun a ha hna => (old a ha).tr (RS_pR hna)) e9 (fun _ _ h => h) (fun _ _ h => h)) k9 n9 t9 a9 (gk.tr (GK.tr (fun _ _ => ⟨rfl, rfl⟩) g9)) o9 (RX.tr rx6 x9 gk))
    rw [← nI_1 i] at nx
    refine And.intro (by rw [rn.1]; exact hn) (And.intro (by show vp_in (nI i) (sN S' na); rw [rn.2.1, hN]; exact in_nI hi8 (by decide)) (And.intro hk ?_))
    show wpn (kX3_init Q) (n + 2) 25 _ [] (pR S' na (nI i).toNatClampNeg (some q)) _ _
    rw [cl_nI (by omega)]
    exact nx
theorem t_lane0 {S : MM} {o : Nat} {Q : Option Value → MM → Prop} {U : Nat → Prop} (hU : TYU S U) (uo : U o) (hO : OC S) (hk : sK S o = 4) (hz : ∀ j, sI S o j = 0) (h : ∀ S', Ex S S' (fun a => a = o) → L0 S' o → sN S' o = sN S o → TYU S' (fun a => U a ∧ a ≠ o) → OC S' → RX S S' → Q none S') : wX3_init [.ref o] S Q := by
  refine Exists.intro 11 (And.intro (by decide) (And.intro ⟨by decide, by decide, by decide⟩ (fun na hna => ?_)))
  have n1 : o ≠ na := fun z => by rw [← z, hk] at hna; cases hna
  have k1 : sK (nw S na 16 8) o = 4 := by rw [sK_nw, va_up_ne _ _ n1]; exact hk
  refine And.intro k1 (And.intro (by decide) (And.intro ⟨by decide, by decide, by decide⟩ (fun fa hfa => ?_)))
  have n2 : o ≠ fa := fun z => by rw [← z] at hfa; exact absurd (k1.symm.trans hfa) (by decide)
  have n3 : na ≠ fa := fun z => by rw [← z, sK_pR, sK_nw, va_up_self] at hfa; cases hfa
  have k2 : sK (nw (pR (nw S na 16 8) o 0 (some na)) fa 14 200) o = 4 := by rw [sK_nw, va_up_ne _ _ n2]; exact k1
  refine And.intro k2 ?_
  have e0 : Ex S (pR (nw (pR (nw S na 16 8) o 0 (some na)) fa 14 200) o 3 (some fa)) (fun a => a = o) := ((((Ex.rf (P := fun a => a = o)).nw hna).pR (fun _ => rfl)).nw hfa).pR (fun _ => rfl)
  have rN : ∀ j, sR (pR (nw (pR (nw S na 16 8) o 0 (some na)) fa 14 200) o 3 (some fa)) na j = none := fun j => by rw [sR_pR, up2_ne (fun z => n1 z.1.symm), sR_nw, cl2_row n3, sR_pR, up2_ne (fun z => n1 z.1.symm), sR_nw, cl2_self]
  have rF : ∀ j, sR (pR (nw (pR (nw S na 16 8) o 0 (some na)) fa 14 200) o 3 (some fa)) fa j = none := fun j => by rw [sR_pR, up2_ne (fun z => n2 z.1.symm), sR_nw, cl2_self]
  have kF : sK (pR (nw (pR (nw S na 16 8) o 0 (some na)) fa 14 200) o 3 (some fa)) fa = 14 := by rw [sK_pR, sK_nw, va_up_self]
  have nF : sN (pR (nw (pR (nw S na 16 8) o 0 (some na)) fa 14 200) o 3 (some fa)) fa = 200 := by rw [sN_pR, sN_nw, va_up_self]
  have tcf : TC (pR (nw (pR (nw S na 16 8) o 0 (some na)) fa 14 200) o 3 (some fa)) fa := TCa (ka := 14) (na := 200) (kd := 3) kF nF (fun j => by simp [rf]) (Or.inr (by simp [re])) (Or.inl rfl) (fun j => by simp [rg]) (Or.inr ⟨by simp [re], AI_none rF⟩)
  have tu : TYU (pR (nw (pR (nw S na 16 8) o 0 (some na)) fa 14 200) o 3 (some fa)) (fun a => U a ∨ a = na) := TYU_fin (TYU_wR (TYU_nw (TYU_wR (TYU_nw hU hna) (Or.inl uo)) hfa) (Or.inl (Or.inl uo))) tcf (fun a h1 h2 => h1.elim id (fun z => absurd z h2))
  have oc1 : OC (pR (nw S na 16 8) o 0 (some na)) := OC_pR (OC_nw hO hna) (NR_nw hO hna) (nz_nw (by decide))
  have oc2 : OC (pR (nw (pR (nw S na 16 8) o 0 (some na)) fa 14 200) o 3 (some fa)) := OC_pR (OC_nw oc1 hfa) (NR_nw oc1 hfa) (nz_nw (by decide))
  have gk1 : GK S (pR (nw S na 16 8) o 0 (some na)) := (GK.rf.nw hna)
  have gk2 : GK S (pR (nw (pR (nw S na 16 8) o 0 (some na)) fa 14 200) o 3 (some fa)) := gk1.nw (S1 := (pR (nw S na 16 8) o 0 (some na))) hfa
  have rx2 : RX S (pR (nw (pR (nw S na 16 8) o 0 (some na)) fa 14 200) o 3 (some fa)) := RX_pR (RX_nw (RX_pR (RX_nw RX.rf) hna)) (GK_0 gk1 hfa)
  refine t_laneL (Q := Q) (U := fun a => U a ∨ a = na) (Or.inl uo) (Or.inr rfl) (o := o) (na := na) 8 0 (pR (nw (pR (nw S na 16 8) o 0 (some na)) fa 14 200) o 3 (some fa)) 2 208 rfl k2 ?_ ?_ ?_ tu (AI_none rN) oc2 (by decide) (by decide) (fun S' e9 k9 n9 t9 a9 g9 o9 x9 => ?_)
  · rw [sR_pR, up2_ne (by simp), sR_nw, cl2_row n2, sR_pR, up2_self]
  · rw [sK_pR, sK_nw, va_up_ne _ _ n3, sK_pR, sK_nw, va_up_self]
  · rw [sN_pR, sN_nw, va_up_ne _ _ n3, sN_pR, sN_nw, va_up_self]
  · have ro := e9 o (by rw [sK_pR, k2]; decide) n1
    have tcn : TC S' na := TCa (ka := 16) (na := 8) (kd := 5) k9 n9 (fun j => by simp [rf]) (Or.inl rfl) (Or.inr rfl) (fun j => by simp [rg]) (Or.inl a9)
    have vo : ∀ j, sI S' o j = 0 := fun j => by rw [ro.2.2.1, sI_pR, sI_nw, cl2_row n2, sI_pR, sI_nw, cl2_row n1]; exact hz j
    have tco : TC S' o := by
      refine TCo (kd := 4) (by rw [ro.1]; exact k2) (fun j k n e => ?_) (fun n => by simp [re]) rfl (fun j N e => ⟨0, ?_, by rw [vo]; rfl⟩)
      · have hj : j = 0 ∨ j = 3 := by
          unfold rf at e
          split at e <;> simp at e <;> omega
        rcases hj with rfl | rfl
        · have e' : some (16, 8) = some (k, n) := e
          cases e'
          exact ⟨na, by rw [ro.2.2.2.1, sR_pR, up2_ne (by simp), sR_nw, cl2_row n2, sR_pR, up2_self], k9, n9⟩
        · have e' : some (14, 200) = some (k, n) := e
          cases e'
          have gk := g9 fa (by rw [kF]; decide)
          exact ⟨fa, by rw [ro.2.2.2.1, sR_pR, up2_self], by rw [gk.1]; exact kF, by rw [gk.2]; exact nF⟩
      · unfold rg at e
        split at e <;> simp at e <;> omega
    refine h S' (e0.tr e9 (fun _ _ z => z) (fun a ha z => by rw [z] at ha; exact absurd hna ha)) ⟨by rw [ro.1]; exact k2, fun j => ?_⟩ (by rw [ro.2.1, sN_pR, sN_nw, va_up_ne _ _ n2, sN_pR, sN_nw, va_up_ne _ _ n1]) (TYU_fin (TYU_fin t9 tcn (U' := U) (fun a h1 h2 => h1.elim id (fun z => absurd z h2))) tco (fun a h1 h2 => ⟨h1, h2⟩)) o9 (RX.tr rx2 x9 gk2)
    exact vo j
set_option maxRecDepth 20000 in
theorem t_cabL {Q : Option Value → MM → Prop} {o ll : Nat} {U : Nat → Prop} (uo : U o) (ul : U ll) : ∀ (n i : Nat) (S : MM) (c z : Nat), i + n = 2 → sK S o = 1 → sR S o 1 = some ll → sK S ll = 15 → sN S ll = 2 → Ls S ll i → TYU S U → AI S ll 4 i → OC S → c + 27 * n ≤ 56 → z + 319 * n ≤ 642 → (∀ S', Ex S S' (fun a => a = ll) → sK S' ll = 15 → sN S' ll = 2 → Ls S' ll 2 → TYU S' U → AI S' ll 4 2 → GK S S' → OC S' → RX S S' → Q none S') → wpn (kX0_init Q) (n + 2) 22 [(1, .int (nI i)), (0, .ref o)] [] S c z := by
  intro n
  induction n with
  | zero =>
    intro i S c z hi ho hR hn hN hls hU hA hO hc hz K
    have e8 : i = 2 := by omega
    subst e8
    exact And.intro (fun _ => K S Ex.rf hn hN hls hU hA (fun _ _ => ⟨rfl, rfl⟩) hO RX.rf) (fun h => absurd (by decide) h)
  | succ n ih =>
    intro i S c z hi ho hR hn hN hls hU hA hO hc hz K
    have hi8 : i < 2 := by omega
    refine And.intro (fun h => absurd h (n2_ge hi8)) (fun _ => And.intro ho (useR hR (And.intro ⟨by omega, by show z + 7 ≤ 642; omega⟩ (fun q hq => And.intro ⟨by omega, by show z + 7 + 312 ≤ 642; omega⟩ ?_))))
    refine t_lane0 (U := fun a => U a ∨ a = q) (TYU_nw hU hq) (Or.inr rfl) (OC_nw hO hq) (by rw [sK_nw, va_up_self]) (fun j => by rw [sI_nw, cl2_self]) (fun S' hE hL nq tq oc rx => ?_)
    have old : ∀ a, sK S a ≠ 0 → a ≠ q ∧ RS S S' a := fun a ha => by
      have hn : a ≠ q := fun z => ha (by rw [z]; exact hq)
      have r1 : RS S (nw S q 4 0) a := RS_nw hn
      exact ⟨hn, r1.tr (hE a (by rw [r1.1]; exact ha) hn)⟩
    have ro := (old o (by rw [ho]; decide)).2
    have rn := (old ll (by rw [hn]; decide)).2
    have hls2 : Ls (pR S' ll i (some q)) ll (i + 1) := fun e he => by
      by_cases hei : e = i
      · subst hei
        exact ⟨q, by rw [sR_pR, up2_self], hL⟩
      · obtain ⟨l, a1, a2, a3⟩ := hls e (by omega)
        have rl := (old l (by rw [a2]; decide)).2
        exact ⟨l, by rw [sR_pR, up2_ne (fun z => hei z.2), rn.2.2.2.1]; exact a1, by rw [sK_pR, rl.1]; exact a2, fun j => by rw [sI_pR, rl.2.2.1]; exact a3 j⟩
    have nq0 : sN S' q = 0 := by rw [nq, sN_nw, va_up_self]
    have tU : TYU S' U := TYU_weak tq (fun a ha => ha.1.elim id (fun z => absurd z ha.2))
    have gk : GK S S' := (GK_nw hq).tr (Ex_GK hE (by rw [hL.1, sK_nw, va_up_self]) nq)
    have tU6 : TYU (pR S' ll i (some q)) U := TYU_wR tU ul
    have hA6 : AI (pR S' ll i (some q)) ll 4 (i + 1) := AI_put (AI_ext hA rn gk (by decide)) hL.1 nq0
    have rx1 : RX S S' := RX.tr (RX_nw RX.rf) rx (GK_nw hq)
    have oc6 : OC (pR S' ll i (some q)) := OC_pR oc (NR_rx (NR_nw hO hq) rx (nz_nw (by decide))) (by rw [hL.1]; decide)
    have rx6 : RX S (pR S' ll i (some q)) := RX_pR rx1 hq
    have nx := ih (i + 1) (pR S' ll i (some q)) (c + 1 + 26) (z + 7 + 312) (by omega) (by rw [sK_pR, ro.1]; exact ho) (by rw [sR_pR, up2_ne (fun z => by have h9 := ho; rw [z.1, hn] at h9; cases h9), ro.2.2.2.1]; exact hR) (by rw [sK_pR, rn.1]; exact hn) (by rw [sN_pR, rn.2.1]; exact hN) hls2 tU6 hA6 oc6 (by omega) (by omega) (fun S9 e9 k9 n9 l9 t9 a9 g9 o9 x9 => K S9 (Ex.tr (fun a ha hna => (old a ha).2.tr (RS_pR hna)) e9 (fun _ _ h => h) (fun _ _ h => h)) k9 n9 l9 t9 a9 (gk.tr (GK.tr (fun _ _ => ⟨rfl, rfl⟩) g9)) o9 (RX.tr rx6 x9 gk))
    rw [← nI_1 i] at nx
    refine And.intro (by rw [rn.1]; exact hn) (And.intro (by show vp_in (nI i) (sN S' ll); rw [rn.2.1, hN]; exact in_nI hi8 (by decide)) (And.intro hL.1 ?_))
    show wpn (kX0_init Q) (n + 2) 22 _ [] (pR S' ll (nI i).toNatClampNeg (some q)) _ _
    rw [cl_nI (by omega)]
    exact nx
theorem t_cab0 {S : MM} {o : Nat} {Q : Option Value → MM → Prop} {U : Nat → Prop} (hU : TYU S U) (uo : U o) (hO : OC S) (hk : sK S o = 1) (hz : ∀ j, sI S o j = 0) (h : ∀ S', Ex S S' (fun a => a = o) → C0 S' o → sN S' o = sN S o → TYU S' (fun a => U a ∧ a ≠ o) → OC S' → RX S S' → Q none S') : wX0_init [.ref o] S Q := by
  refine Exists.intro 5 (And.intro (by decide) (And.intro ⟨by decide, by decide, by decide⟩ (fun pp hpp => ?_)))
  have n1 : o ≠ pp := fun z => by rw [← z, hk] at hpp; cases hpp
  have k1 : sK (nw S pp 17 2) o = 1 := by rw [sK_nw, va_up_ne _ _ n1]; exact hk
  refine And.intro k1 (And.intro (by decide) (And.intro ⟨by decide, by decide, by decide⟩ (fun ll hll => ?_)))
  have n2 : o ≠ ll := fun z => by rw [← z] at hll; exact absurd (k1.symm.trans hll) (by decide)
  have n3 : pp ≠ ll := fun z => by rw [← z, sK_pR, sK_nw, va_up_self] at hll; cases hll
  have k2 : sK (nw (pR (nw S pp 17 2) o 0 (some pp)) ll 15 2) o = 1 := by rw [sK_nw, va_up_ne _ _ n2]; exact k1
  refine And.intro k2 ?_
  have e0 : Ex S (pR (nw (pR (nw S pp 17 2) o 0 (some pp)) ll 15 2) o 1 (some ll)) (fun a => a = o) := ((((Ex.rf (P := fun a => a = o)).nw hpp).pR (fun _ => rfl)).nw hll).pR (fun _ => rfl)
  have kp : sK (pR (nw (pR (nw S pp 17 2) o 0 (some pp)) ll 15 2) o 1 (some ll)) pp = 17 := by rw [sK_pR, sK_nw, va_up_ne _ _ n3, sK_pR, sK_nw, va_up_self]
  have rP0 : ∀ j, sR (pR (nw (pR (nw S pp 17 2) o 0 (some pp)) ll 15 2) o 1 (some ll)) pp j = none := fun j => by rw [sR_pR, up2_ne (fun z => n1 z.1.symm), sR_nw, cl2_row n3, sR_pR, up2_ne (fun z => n1 z.1.symm), sR_nw, cl2_self]
  have rL0 : ∀ j, sR (pR (nw (pR (nw S pp 17 2) o 0 (some pp)) ll 15 2) o 1 (some ll)) ll j = none := fun j => by rw [sR_pR, up2_ne (fun z => n2 z.1.symm), sR_nw, cl2_self]
  have np0 : sN (pR (nw (pR (nw S pp 17 2) o 0 (some pp)) ll 15 2) o 1 (some ll)) pp = 2 := by rw [sN_pR, sN_nw, va_up_ne _ _ n3, sN_pR, sN_nw, va_up_self]
  have tcp : TC (pR (nw (pR (nw S pp 17 2) o 0 (some pp)) ll 15 2) o 1 (some ll)) pp := TCa (ka := 17) (na := 2) (kd := 6) kp np0 (fun j => by simp [rf]) (Or.inr (by simp [re])) (Or.inl rfl) (fun j => by simp [rg]) (Or.inr ⟨by simp [re], AI_none rP0⟩)
  have tu : TYU (pR (nw (pR (nw S pp 17 2) o 0 (some pp)) ll 15 2) o 1 (some ll)) (fun a => U a ∨ a = ll) := TYU_fin (TYU_wR (TYU_nw (TYU_wR (TYU_nw hU hpp) (Or.inl uo)) hll) (Or.inl (Or.inl uo))) tcp (fun a h1 h2 => h1.elim (fun z => z.elim Or.inl (fun y => absurd y h2)) Or.inr)
  have oc1 : OC (pR (nw S pp 17 2) o 0 (some pp)) := OC_pR (OC_nw hO hpp) (NR_nw hO hpp) (nz_nw (by decide))
  have oc2 : OC (pR (nw (pR (nw S pp 17 2) o 0 (some pp)) ll 15 2) o 1 (some ll)) := OC_pR (OC_nw oc1 hll) (NR_nw oc1 hll) (nz_nw (by decide))
  have gk1 : GK S (pR (nw S pp 17 2) o 0 (some pp)) := (GK.rf.nw hpp)
  have gk2 : GK S (pR (nw (pR (nw S pp 17 2) o 0 (some pp)) ll 15 2) o 1 (some ll)) := gk1.nw (S1 := (pR (nw S pp 17 2) o 0 (some pp))) hll
  have rx2 : RX S (pR (nw (pR (nw S pp 17 2) o 0 (some pp)) ll 15 2) o 1 (some ll)) := RX_pR (RX_nw (RX_pR (RX_nw RX.rf) hpp)) (GK_0 gk1 hll)
  refine t_cabL (Q := Q) (U := fun a => U a ∨ a = ll) (Or.inl uo) (Or.inr rfl) (o := o) (ll := ll) 2 0 (pR (nw (pR (nw S pp 17 2) o 0 (some pp)) ll 15 2) o 1 (some ll)) 2 4 rfl k2 ?_ ?_ ?_ (fun e he => by omega) tu (AI_none rL0) oc2 (by decide) (by decide) (fun S' e9 k9 n9 l9 t9 a9 g9 o9 x9 => ?_)
  · rw [sR_pR, up2_self]
  · rw [sK_pR, sK_nw, va_up_self]
  · rw [sN_pR, sN_nw, va_up_self]
  · have ro := e9 o (by rw [sK_pR, k2]; decide) n2
    have rp := e9 pp (by rw [kp]; decide) n3
    have hI : ∀ j, sI S' o j = 0 := fun j => by rw [ro.2.2.1, sI_pR, sI_nw, cl2_row n2, sI_pR, sI_nw, cl2_row n1]; exact hz j
    have hRp : ∀ j, sR S' pp j = none := fun j => by rw [rp.2.2.2.1, sR_pR, up2_ne (fun z => n1 z.1.symm), sR_nw, cl2_row n3, sR_pR, up2_ne (fun z => n1 z.1.symm), sR_nw, cl2_self]
    have tcl : TC S' ll := TCa (ka := 15) (na := 2) (kd := 4) k9 n9 (fun j => by simp [rf]) (Or.inl rfl) (Or.inr rfl) (fun j => by simp [rg]) (Or.inl a9)
    have tco : TC S' o := by
      refine TCo (kd := 1) (by rw [ro.1]; exact k2) (fun j k n e => ?_) (fun n => by simp [re]) rfl (fun j N e => by simp [rg] at e)
      have hj : j = 0 ∨ j = 1 := by
        unfold rf at e
        split at e <;> simp at e <;> omega
      rcases hj with rfl | rfl
      · have e' : some (17, 2) = some (k, n) := e
        cases e'
        exact ⟨pp, by rw [ro.2.2.2.1, sR_pR, up2_ne (by simp), sR_nw, cl2_row n2, sR_pR, up2_self], by rw [rp.1]; exact kp, by rw [rp.2.1]; exact np0⟩
      · have e' : some (15, 2) = some (k, n) := e
        cases e'
        exact ⟨ll, by rw [ro.2.2.2.1, sR_pR, up2_self], k9, n9⟩
    refine h S' (e0.tr e9 (fun _ _ z => z) (fun a ha z => ?_)) ⟨⟨by rw [ro.1]; exact k2, hI 3, hI 4, pp, ?_, by rw [rp.1]; exact kp, ?_, hRp 0, hRp 1⟩, hI 2, ll, ?_, k9, n9, l9⟩ (by rw [ro.2.1, sN_pR, sN_nw, va_up_ne _ _ n2, sN_pR, sN_nw, va_up_ne _ _ n1]) (TYU_fin (TYU_fin t9 tcl (U' := U) (fun a h1 h2 => h1.elim id (fun z => absurd z h2))) tco (fun a h1 h2 => ⟨h1, h2⟩)) o9 (RX.tr rx2 x9 gk2)
    · rw [z] at ha
      have h0 : sK S ll = 0 := (((Ex.rf (P := fun a => a = o)).nw hpp).pR (k := 0) (v := some pp) (fun _ => rfl)).fr hll (fun z => n2 z.symm)
      exact absurd h0 ha
    · rw [ro.2.2.2.1, sR_pR, up2_ne (by simp), sR_nw, cl2_row n2, sR_pR, up2_self]
    · rw [rp.2.1, sN_pR, sN_nw, va_up_ne _ _ n3, sN_pR, sN_nw, va_up_self]
    · rw [ro.2.2.2.1, sR_pR, up2_self]
set_option maxRecDepth 20000 in
theorem t_bpL {Q : Option Value → MM → Prop} {x aC : Nat} {U : Nat → Prop} (ux : U x) (uc : U aC) : ∀ (n i : Nat) (S : MM) (c z : Nat), i + n = 8 → sK S x = 8 → sR S x 1 = some aC → sK S aC = 12 → sN S aC = 8 → Cs S aC i → TYU S U → AI S aC 1 i → OC S → c + 57 * n ≤ 528 → z + 647 * n ≤ 6148 → (∀ S', Ex S S' (fun a => a = aC) → sK S' aC = 12 → sN S' aC = 8 → Cs S' aC 8 → TYU S' U → AI S' aC 1 8 → GK S S' → OC S' → RX S S' → Q none S') → wpn (kX7_init Q) (n + 2) 53 [(1, .int (nI i)), (0, .ref x)] [] S c z := by
  intro n
  induction n with
  | zero =>
    intro i S c z hi ho hR hn hN hls hU hA hO hc hz K
    have e8 : i = 8 := by omega
    subst e8
    exact And.intro (fun _ => K S Ex.rf hn hN hls hU hA (fun _ _ => ⟨rfl, rfl⟩) hO RX.rf) (fun h => absurd (by decide) h)
  | succ n ih =>
    intro i S c z hi ho hR hn hN hls hU hA hO hc hz K
    have hi8 : i < 8 := by omega
    refine And.intro (fun h => absurd h (n8_ge hi8)) (fun _ => And.intro ho (useR hR (And.intro ⟨by omega, by show z + 5 ≤ 6148; omega⟩ (fun q hq => And.intro ⟨by omega, by show z + 5 + 642 ≤ 6148; omega⟩ ?_))))
    refine t_cab0 (U := fun a => U a ∨ a = q) (TYU_nw hU hq) (Or.inr rfl) (OC_nw hO hq) (by rw [sK_nw, va_up_self]) (fun j => by rw [sI_nw, cl2_self]) (fun S' hE hL nq tq oc rx => ?_)
    have old : ∀ a, sK S a ≠ 0 → a ≠ q ∧ RS S S' a := fun a ha => by
      have hn : a ≠ q := fun z => ha (by rw [z]; exact hq)
      have r1 : RS S (nw S q 1 0) a := RS_nw hn
      exact ⟨hn, r1.tr (hE a (by rw [r1.1]; exact ha) hn)⟩
    have ro := (old x (by rw [ho]; decide)).2
    have rn := (old aC (by rw [hn]; decide)).2
    have st : ∀ a, sK S' a ≠ 12 → RS S' (pR S' aC i (some q)) a := fun a ha => RS_pR (fun z => ha (by rw [z, rn.1]; exact hn))
    have hls2 : Cs (pR S' aC i (some q)) aC (i + 1) := fun e he => by
      by_cases hei : e = i
      · subst hei
        exact ⟨q, by rw [sR_pR, up2_self], C0_ext hL (st q (by rw [hL.1.1]; decide)) (fun a ha => st a (by rcases ha with h | h | h <;> first | (rw [h]; decide) | (rw [h.1]; decide)))⟩
      · obtain ⟨l, a1, a2⟩ := hls e (by omega)
        refine ⟨l, by rw [sR_pR, up2_ne (fun z => hei z.2), rn.2.2.2.1]; exact a1, ?_⟩
        have c1 : C0 S' l := C0_ext a2 (old l (by rw [a2.1.1]; decide)).2 (fun a ha => (old a (by rcases ha with h | h | h <;> first | (rw [h]; decide) | (rw [h.1]; decide))).2)
        exact C0_ext c1 (st l (by rw [c1.1.1]; decide)) (fun a ha => st a (by rcases ha with h | h | h <;> first | (rw [h]; decide) | (rw [h.1]; decide)))
    have nq0 : sN S' q = 0 := by rw [nq, sN_nw, va_up_self]
    have tU : TYU S' U := TYU_weak tq (fun a ha => ha.1.elim id (fun z => absurd z ha.2))
    have gk : GK S S' := (GK_nw hq).tr (Ex_GK hE (by rw [hL.1.1, sK_nw, va_up_self]) nq)
    have tU6 : TYU (pR S' aC i (some q)) U := TYU_wR tU uc
    have hA6 : AI (pR S' aC i (some q)) aC 1 (i + 1) := AI_put (AI_ext hA rn gk (by decide)) hL.1.1 nq0
    have rx1 : RX S S' := RX.tr (RX_nw RX.rf) rx (GK_nw hq)
    have oc6 : OC (pR S' aC i (some q)) := OC_pR oc (NR_rx (NR_nw hO hq) rx (nz_nw (by decide))) (by rw [hL.1.1]; decide)
    have rx6 : RX S (pR S' aC i (some q)) := RX_pR rx1 hq
    have nx := ih (i + 1) (pR S' aC i (some q)) (c + 1 + 56) (z + 5 + 642) (by omega) (by rw [sK_pR, ro.1]; exact ho) (by rw [sR_pR, up2_ne (fun z => by have h9 := ho; rw [z.1, hn] at h9; cases h9), ro.2.2.2.1]; exact hR) (by rw [sK_pR, rn.1]; exact hn) (by rw [sN_pR, rn.2.1]; exact hN) hls2 tU6 hA6 oc6 (by omega) (by omega) (fun S9 e9 k9 n9 l9 t9 a9 g9 o9 x9 => K S9 (Ex.tr (fun a ha hna => (old a ha).2.tr (RS_pR hna)) e9 (fun _ _ h => h) (fun _ _ h => h)) k9 n9 l9 t9 a9 (gk.tr (GK.tr (fun _ _ => ⟨rfl, rfl⟩) g9)) o9 (RX.tr rx6 x9 gk))
    rw [← nI_1 i] at nx
    refine And.intro (by rw [rn.1]; exact hn) (And.intro (by show vp_in (nI i) (sN S' aC); rw [rn.2.1, hN]; exact in_nI hi8 (by decide)) (And.intro hL.1.1 ?_))
    show wpn (kX7_init Q) (n + 2) 53 _ [] (pR S' aC (nI i).toNatClampNeg (some q)) _ _
    rw [cl_nI (by omega)]
    exact nx
set_option maxRecDepth 20000 in
set_option maxHeartbeats 1000000 in
theorem t_bp0 {S : MM} {x : Nat} {Q : Option Value → MM → Prop} {U : Nat → Prop} (hU : TYU S U) (uo : U x) (hO : OC S) (hk : sK S x = 8) (hz : ∀ j, sI S x j = 0) (h : ∀ S' aE aC e0 e1, Ex S S' (fun a => a = x) → B0 S' x aE aC e0 e1 → TYU S' (fun a => U a ∧ a ≠ x) → OC S' → Q none S') : wX7_init [.ref x] S Q := by
  refine Exists.intro 11 (And.intro (by decide) (And.intro ⟨by decide, by decide, by decide⟩ (fun aE haE => ?_)))
  have n1 : x ≠ aE := fun z => by rw [← z, hk] at haE; cases haE
  have k1 : sK (nw S aE 13 2) x = 8 := by rw [sK_nw, va_up_ne _ _ n1]; exact hk
  refine And.intro k1 (And.intro (by decide) (And.intro ⟨by decide, by decide, by decide⟩ (fun aC haC => ?_)))
  have n2 : x ≠ aC := fun z => by rw [← z] at haC; exact absurd (k1.symm.trans haC) (by decide)
  have n3 : aE ≠ aC := fun z => by rw [← z, sK_pR, sK_nw, va_up_self] at haC; cases haC
  have z2 : sK S aC = 0 := (((Ex.rf (P := fun a => a = x)).nw haE).pR (k := 0) (v := some aE) (fun _ => rfl)).fr haC (fun z => n2 z.symm)
  have k2 : sK (nw (pR (nw S aE 13 2) x 0 (some aE)) aC 12 8) x = 8 := by rw [sK_nw, va_up_ne _ _ n2]; exact k1
  have ex1 : Ex S (pR (nw (pR (nw S aE 13 2) x 0 (some aE)) aC 12 8) x 1 (some aC)) (fun a => a = x) := ((((Ex.rf (P := fun a => a = x)).nw haE).pR (fun _ => rfl)).nw haC).pR (fun _ => rfl)
  have w1 : sR (pR (nw (pR (nw S aE 13 2) x 0 (some aE)) aC 12 8) x 1 (some aC)) x 0 = some aE := by rw [sR_pR, up2_ne (by simp), sR_nw, cl2_row n2, sR_pR, up2_self]
  have w2 : sR (pR (nw (pR (nw S aE 13 2) x 0 (some aE)) aC 12 8) x 1 (some aC)) x 1 = some aC := by rw [sR_pR, up2_self]
  have w3 : sK (pR (nw (pR (nw S aE 13 2) x 0 (some aE)) aC 12 8) x 1 (some aC)) aE = 13 := by rw [sK_pR, sK_nw, va_up_ne _ _ n3, sK_pR, sK_nw, va_up_self]
  have w4 : sN (pR (nw (pR (nw S aE 13 2) x 0 (some aE)) aC 12 8) x 1 (some aC)) aE = 2 := by rw [sN_pR, sN_nw, va_up_ne _ _ n3, sN_pR, sN_nw, va_up_self]
  have w5 : sK (pR (nw (pR (nw S aE 13 2) x 0 (some aE)) aC 12 8) x 1 (some aC)) aC = 12 := by rw [sK_pR, sK_nw, va_up_self]
  have w6 : sN (pR (nw (pR (nw S aE 13 2) x 0 (some aE)) aC 12 8) x 1 (some aC)) aC = 8 := by rw [sN_pR, sN_nw, va_up_self]
  have w7 : ∀ j, sI (pR (nw (pR (nw S aE 13 2) x 0 (some aE)) aC 12 8) x 1 (some aC)) x j = 0 := fun j => by rw [sI_pR, sI_nw, cl2_row n2, sI_pR, sI_nw, cl2_row n1]; exact hz j
  have w0 : sK (pR (nw (pR (nw S aE 13 2) x 0 (some aE)) aC 12 8) x 1 (some aC)) x = 8 := by rw [sK_pR]; exact k2
  have rE0 : ∀ j, sR (pR (nw (pR (nw S aE 13 2) x 0 (some aE)) aC 12 8) x 1 (some aC)) aE j = none := fun j => by rw [sR_pR, up2_ne (fun z => n1 z.1.symm), sR_nw, cl2_row n3, sR_pR, up2_ne (fun z => n1 z.1.symm), sR_nw, cl2_self]
  have rC0 : ∀ j, sR (pR (nw (pR (nw S aE 13 2) x 0 (some aE)) aC 12 8) x 1 (some aC)) aC j = none := fun j => by rw [sR_pR, up2_ne (fun z => n2 z.1.symm), sR_nw, cl2_self]
  have aiE : AI (pR (nw (pR (nw S aE 13 2) x 0 (some aE)) aC 12 8) x 1 (some aC)) aE 2 0 := AI_none rE0
  have aiC : AI (pR (nw (pR (nw S aE 13 2) x 0 (some aE)) aC 12 8) x 1 (some aC)) aC 1 0 := AI_none rC0
  have tu1 : TYU (pR (nw (pR (nw S aE 13 2) x 0 (some aE)) aC 12 8) x 1 (some aC)) (fun a => (U a ∨ a = aE) ∨ a = aC) := TYU_wR (TYU_nw (TYU_wR (TYU_nw hU haE) (Or.inl uo)) haC) (Or.inl (Or.inl uo))
  have oc1 : OC (pR (nw S aE 13 2) x 0 (some aE)) := OC_pR (OC_nw hO haE) (NR_nw hO haE) (nz_nw (by decide))
  have oc2 : OC (pR (nw (pR (nw S aE 13 2) x 0 (some aE)) aC 12 8) x 1 (some aC)) := OC_pR (OC_nw oc1 haC) (NR_nw oc1 haC) (nz_nw (by decide))
  refine And.intro k2 ?_
  show ldA 0 _ [(0, .ref x)] [] (pR (nw (pR (nw S aE 13 2) x 0 (some aE)) aC 12 8) x 1 (some aC)) 2 10
  generalize pR (nw (pR (nw S aE 13 2) x 0 (some aE)) aC 12 8) x 1 (some aC) = S1 at oc2 tu1 aiE aiC ex1 w0 w1 w2 w3 w4 w5 w6 w7 ⊢
  refine And.intro w0 (useR w1 (And.intro ⟨by decide, by decide⟩ (fun e0 he0 => And.intro ⟨by decide, by decide⟩ ?_)))
  refine t_end0 (U := fun a => ((U a ∨ a = aE) ∨ a = aC) ∨ a = e0) (TYU_nw tu1 he0) (Or.inr rfl) (OC_nw oc2 he0) (by rw [sK_nw, va_up_self]) (fun j => by rw [sI_nw, cl2_self]) (fun S2 hE2 hF0 nq0 tq0 ocA rxA => ?_)
  have old2 : ∀ a, sK S1 a ≠ 0 → a ≠ e0 ∧ RS S1 S2 a := fun a ha => by
    have hn : a ≠ e0 := fun z => ha (by rw [z]; exact he0)
    have r1 : RS S1 (nw S1 e0 2 0) a := RS_nw hn
    exact ⟨hn, r1.tr (hE2 a (by rw [r1.1]; exact ha) hn)⟩
  have rE := (old2 aE (by rw [w3]; decide))
  refine And.intro (by rw [rE.2.1]; exact w3) (And.intro (by show vp_in 0 (sN S2 aE); rw [rE.2.2.1, w4]; exact in_0 (by decide)) (And.intro hF0.1.1 ?_))
  have tu2 : TYU (pR S2 aE 0 (some e0)) (fun a => (U a ∨ a = aE) ∨ a = aC) := TYU_wR (TYU_weak tq0 (fun a ha => ha.1.elim id (fun z => absurd z ha.2))) (Or.inl (Or.inr rfl))
  have gk2 : GK S1 S2 := (GK_nw he0).tr (Ex_GK hE2 (by rw [hF0.1.1, sK_nw, va_up_self]) nq0)
  have aiE2 : AI (pR S2 aE 0 (some e0)) aE 2 1 := AI_put (AI_ext aiE rE.2 gk2 (by decide)) hF0.1.1 (by rw [nq0, sN_nw, va_up_self])
  have aiC2 : AI (pR S2 aE 0 (some e0)) aC 1 0 := AI_ext aiC ((old2 aC (by rw [w5]; decide)).2.tr (RS_pR (fun z => n3 z.symm))) (gk2.tr (fun _ _ => ⟨rfl, rfl⟩)) (by decide)
  have oc3 : OC (pR S2 aE 0 (some e0)) := OC_pR ocA (NR_rx (NR_nw oc2 he0) rxA (nz_nw (by decide))) (by rw [hF0.1.1]; decide)
  show ldA 0 _ [(0, .ref x)] [] (pR S2 aE 0 (some e0)) 37 491
  have old3 : ∀ a, sK S1 a ≠ 0 → a ≠ aE → RS S1 (pR S2 aE 0 (some e0)) a := fun a ha hn => (old2 a ha).2.tr (RS_pR hn)
  have v1 : sK (pR S2 aE 0 (some e0)) aE = 13 := by rw [sK_pR, rE.2.1]; exact w3
  have v2 : sN (pR S2 aE 0 (some e0)) aE = 2 := by rw [sN_pR, rE.2.2.1]; exact w4
  have v3 : sR (pR S2 aE 0 (some e0)) aE 0 = some e0 := by rw [sR_pR, up2_self]
  have st3 : ∀ a, sK S2 a ≠ 13 → RS S2 (pR S2 aE 0 (some e0)) a := fun a ha => RS_pR (fun z => ha (by rw [z, rE.2.1]; exact w3))
  have v4 : E0 (pR S2 aE 0 (some e0)) e0 10 := E0_ext hF0 (st3 e0 (by rw [hF0.1.1]; decide)) (fun a ha => st3 a (by rcases ha with h | h | h <;> first | (rw [h]; decide) | (rw [h.1]; decide)))
  have v5 := old3 x (by rw [w0]; decide) n1
  have v6 := old3 aC (by rw [w5]; decide) (fun z => n3 z.symm)
  have ex3 : Ex S (pR S2 aE 0 (some e0)) (fun a => a = x) := fun a ha hn => (ex1 a ha hn).tr (old3 a (by rw [(ex1 a ha hn).1]; exact ha) (fun z => ha (by rw [z]; exact haE)))
  generalize pR S2 aE 0 (some e0) = S3 at oc3 tu2 aiE2 aiC2 v1 v2 v3 v4 v5 v6 ex3 old3 ⊢
  have x1 : sK S3 x = 8 := by rw [v5.1]; exact w0
  have x2 : sR S3 x 0 = some aE := by rw [v5.2.2.2.1]; exact w1
  refine And.intro x1 (useR x2 (And.intro ⟨by decide, by decide⟩ (fun e1 he1 => And.intro ⟨by decide, by decide⟩ ?_)))
  refine t_end0 (U := fun a => ((U a ∨ a = aE) ∨ a = aC) ∨ a = e1) (TYU_nw tu2 he1) (Or.inr rfl) (OC_nw oc3 he1) (by rw [sK_nw, va_up_self]) (fun j => by rw [sI_nw, cl2_self]) (fun S4 hE4 hF1 nq1 tq1 ocB rxB => ?_)
  have old4 : ∀ a, sK S3 a ≠ 0 → a ≠ e1 ∧ RS S3 S4 a := fun a ha => by
    have hn : a ≠ e1 := fun z => ha (by rw [z]; exact he1)
    have r1 : RS S3 (nw S3 e1 2 0) a := RS_nw hn
    exact ⟨hn, r1.tr (hE4 a (by rw [r1.1]; exact ha) hn)⟩
  have rE4 := old4 aE (by rw [v1]; decide)
  refine And.intro (by rw [rE4.2.1]; exact v1) (And.intro (by show vp_in 1 (sN S4 aE); rw [rE4.2.2.1, v2]; exact in_nI (i := 1) (by decide) (by decide)) (And.intro hF1.1.1 ?_))
  have n01 : e0 ≠ e1 := (old4 e0 (by rw [v4.1.1]; decide)).1
  have st5 : ∀ a, sK S4 a ≠ 13 → RS S4 (pR S4 aE 1 (some e1)) a := fun a ha => RS_pR (fun z => ha (by rw [z, rE4.2.1]; exact v1))
  have old5 : ∀ a, sK S3 a ≠ 0 → sK S3 a ≠ 13 → RS S3 (pR S4 aE 1 (some e1)) a := fun a ha h13 => (old4 a ha).2.tr (st5 a (by rw [(old4 a ha).2.1]; exact h13))
  have u1 : E0 (pR S4 aE 1 (some e1)) e1 20 := E0_ext hF1 (st5 e1 (by rw [hF1.1.1]; decide)) (fun a ha => st5 a (by rcases ha with h | h | h <;> first | (rw [h]; decide) | (rw [h.1]; decide)))
  have u0 : E0 (pR S4 aE 1 (some e1)) e0 10 := E0_ext v4 (old5 e0 (by rw [v4.1.1]; decide) (by rw [v4.1.1]; decide)) (fun a ha => old5 a (by rcases ha with h | h | h <;> first | (rw [h]; decide) | (rw [h.1]; decide)) (by rcases ha with h | h | h <;> first | (rw [h]; decide) | (rw [h.1]; decide)))
  have ux := old5 x (by rw [x1]; decide) (by rw [x1]; decide)
  have y5 : sK S3 aC = 12 := by rw [v6.1]; exact w5
  have uC := old5 aC (by rw [y5]; decide) (by rw [y5]; decide)
  have q1 : sR (pR S4 aE 1 (some e1)) aE 0 = some e0 := by rw [sR_pR, up2_ne (by simp), rE4.2.2.2.2.1]; exact v3
  have q2 : sR (pR S4 aE 1 (some e1)) aE 1 = some e1 := by rw [sR_pR, up2_self]
  have q3 : sK (pR S4 aE 1 (some e1)) aE = 13 := by rw [sK_pR, rE4.2.1]; exact v1
  have q4 : sN (pR S4 aE 1 (some e1)) aE = 2 := by rw [sN_pR, rE4.2.2.1]; exact v2
  have ex5 : Ex S (pR S4 aE 1 (some e1)) (fun a => a = x) := fun a ha hn => by
    have r3 := ex3 a ha hn
    exact r3.tr ((old4 a (by rw [r3.1]; exact ha)).2.tr (RS_pR (fun z => ha (by rw [z]; exact haE))))
  have gk4 : GK S3 S4 := (GK_nw he1).tr (Ex_GK hE4 (by rw [hF1.1.1, sK_nw, va_up_self]) nq1)
  have aiE3 : AI (pR S4 aE 1 (some e1)) aE 2 2 := AI_put (AI_ext aiE2 rE4.2 gk4 (by decide)) hF1.1.1 (by rw [nq1, sN_nw, va_up_self])
  have aiC3 : AI (pR S4 aE 1 (some e1)) aC 1 0 := AI_ext aiC2 uC (gk4.tr (fun _ _ => ⟨rfl, rfl⟩)) (by decide)
  have tcE : TC (pR S4 aE 1 (some e1)) aE := TCa (ka := 13) (na := 2) (kd := 2) q3 q4 (fun j => by simp [rf]) (Or.inl rfl) (Or.inr rfl) (fun j => by simp [rg]) (Or.inl aiE3)
  have tu3 : TYU (pR S4 aE 1 (some e1)) (fun a => U a ∨ a = aC) := TYU_fin (TYU_wR (TYU_weak tq1 (U' := fun a => (U a ∨ a = aE) ∨ a = aC) (fun a ha => ha.1.elim id (fun z => absurd z ha.2))) (Or.inl (Or.inr rfl))) tcE (fun a h1 h2 => h1.elim (fun z => z.elim Or.inl (fun y => absurd y h2)) Or.inr)
  have oc4 : OC (pR S4 aE 1 (some e1)) := OC_pR ocB (NR_rx (NR_nw oc3 he1) rxB (nz_nw (by decide))) (by rw [hF1.1.1]; decide)
  have key := t_bpL (Q := Q) (U := fun a => U a ∨ a = aC) (Or.inl uo) (Or.inr rfl) (x := x) (aC := aC) 8 0 (pR S4 aE 1 (some e1)) 72 972 rfl (by rw [ux.1]; exact x1) (by rw [ux.2.2.2.1, v5.2.2.2.1]; exact w2) (by rw [uC.1]; exact y5) (by rw [uC.2.1, v6.2.1]; exact w6) (fun c hc => by omega) tu3 aiC3 oc4 (by decide) (by decide) (fun S' e9 k9 n9 c9 t9 a9 g9 o9 x9 => ?_)
  · exact key
  · have r9 : ∀ a, sK (pR S4 aE 1 (some e1)) a ≠ 0 → sK (pR S4 aE 1 (some e1)) a ≠ 12 → RS (pR S4 aE 1 (some e1)) S' a := fun a h1 h2 => e9 a h1 (fun z => h2 (by rw [z, uC.1]; exact y5))
    have kx : sK (pR S4 aE 1 (some e1)) x = 8 := by rw [ux.1]; exact x1
    have rx := r9 x (by rw [kx]; decide) (by rw [kx]; decide)
    have rA := r9 aE (by rw [q3]; decide) (by rw [q3]; decide)
    have tcC : TC S' aC := TCa (ka := 12) (na := 8) (kd := 1) k9 n9 (fun j => by simp [rf]) (Or.inl rfl) (Or.inr rfl) (fun j => by simp [rg]) (Or.inl a9)
    have tcx : TC S' x := by
      refine TCo (kd := 8) (by rw [rx.1]; exact kx) (fun j k n e => ?_) (fun n => by simp [re]) rfl (fun j N e => by simp [rg] at e)
      have hj : j = 0 ∨ j = 1 := by
        unfold rf at e
        split at e <;> simp at e <;> omega
      rcases hj with rfl | rfl
      · have e' : some (13, 2) = some (k, n) := e
        cases e'
        exact ⟨aE, by rw [rx.2.2.2.1, ux.2.2.2.1]; exact x2, by rw [rA.1]; exact q3, by rw [rA.2.1]; exact q4⟩
      · have e' : some (12, 8) = some (k, n) := e
        cases e'
        exact ⟨aC, by rw [rx.2.2.2.1, ux.2.2.2.1, v5.2.2.2.1]; exact w2, k9, n9⟩
    have tf : TYU S' (fun a => U a ∧ a ≠ x) := TYU_fin (TYU_fin t9 tcC (U' := U) (fun a h1 h2 => h1.elim id (fun z => absurd z h2))) tcx (fun a h1 h2 => ⟨h1, h2⟩)
    refine h S' aE aC e0 e1 (ex5.tr e9 (fun _ _ z => z) (fun a ha z => by rw [z] at ha; exact absurd z2 ha)) ⟨⟨by rw [rx.1]; exact kx, by rw [rx.2.2.2.1, ux.2.2.2.1]; exact x2, by rw [rx.2.2.2.1, ux.2.2.2.1, v5.2.2.2.1]; exact w2, by rw [rA.1]; exact q3, by rw [rA.2.1]; exact q4, k9, n9, by rw [rA.2.2.2.1]; exact q1, by rw [rA.2.2.2.1]; exact q2, n01⟩, fun j => by rw [rx.2.2.1, ux.2.2.1, v5.2.2.1]; exact w7 j, ?_, ?_, c9⟩ tf o9
    · exact E0_ext u0 (r9 e0 (by rw [u0.1.1]; decide) (by rw [u0.1.1]; decide)) (fun a ha => r9 a (by rcases ha with h | h | h <;> first | (rw [h]; decide) | (rw [h.1]; decide)) (by rcases ha with h | h | h <;> first | (rw [h]; decide) | (rw [h.1]; decide)))
    · exact E0_ext u1 (r9 e1 (by rw [u1.1.1]; decide) (by rw [u1.1.1]; decide)) (fun a ha => r9 a (by rcases ha with h | h | h <;> first | (rw [h]; decide) | (rw [h.1]; decide)) (by rcases ha with h | h | h <;> first | (rw [h]; decide) | (rw [h.1]; decide)))
def MJ (U : Nat → Prop) (S0 S : MM) (m : Nat) (D : List Nat) (f : Nat → Nat → Int32) : Prop := MI S0 S m D f ∧ TYU S U ∧ ∀ a, sK S0 a = 0 → a ≠ m → sK S a = 0 ∨ fo (sK S a) = true
theorem fo_kdM (k : Nat) : fo (kdM k) = true := by unfold kdM; split <;> rfl
theorem TYU_cell {S S2 : MM} {U : Nat → Prop} {a : Nat} (h : TYU S U) (ha : sK S a = 0) (r : ∀ b, b ≠ a → RS S S2 b) (ht : tv (sK S2 a) = true) : TYU S2 U := fun b hb => by
  by_cases hz : b = a
  · rw [hz]; exact TC_tv ht
  · exact TC_ext (h b hb) (r b hz) (fun c hc => by
      have hn : c ≠ a := fun z => hc (by rw [z]; exact ha)
      exact ⟨(r c hn).1, (r c hn).2.1⟩)
theorem tv_kdM (k : Nat) : tv (kdM k) = true := by unfold kdM; split <;> rfl
theorem MJ_step {U : Nat → Prop} {S0 S S2 : MM} {m a k : Nat} {D : List Nat} {f : Nat → Nat → Int32} (h : MJ U S0 S m D f) (ha : sK S a = 0) (hk : k ∉ D) (r : ∀ b, b ≠ a → RS S S2 b) (k2 : sK S2 a = kdM k) (n2 : sN S2 a = lnM k) (v2 : ∀ j, sI S2 a j = f k j) : MJ U S0 (pR S2 m k (some a)) m (k :: D) f := by
  have nm : m ≠ a := fun z => by rw [← z, h.1.2.1] at ha; cases ha
  exact ⟨MI_step h.1 ha hk r k2 n2 v2, TYU_tR (TYU_cell h.2.1 ha r (by rw [k2]; exact tv_kdM k)) (by rw [(r m nm).1, h.1.2.1]; rfl), fun b hb hm => by
    show sK S2 b = 0 ∨ fo (sK S2 b) = true
    by_cases hz : b = a
    · rw [hz, k2]; exact Or.inr (fo_kdM k)
    · rw [(r b hz).1]; exact h.2.2 b hb hm⟩
theorem MJ_w {U : Nat → Prop} {S0 S : MM} {m a k i : Nat} {v : Int32} {D : List Nat} {f : Nat → Nat → Int32} (h : MJ U S0 S m D f) (hk : k ∈ D) (ha : sR S m k = some a) : MJ U S0 (pI S a i v) m D (up2 f k i v) := by
  refine ⟨MI_w h.1 hk ha, TYU_tI h.2.1 ?_, h.2.2⟩
  obtain ⟨a', a1, a2, -⟩ := h.1.2.2.2.1 k hk
  cases Option.some.inj (a1.symm.trans ha)
  rw [a2]
  exact tv_kdM k
theorem ev_arrT {U : Nat → Prop} {S0 S : MM} {m k kd c z : Nat} {n : Int32} {D : List Nat} {K : Kt} (h : MJ U S0 S m D f0M) (hk : k ∉ D) (h12 : k ≠ 1 ∧ k ≠ 2) (hkd : kd = kdM k) (hn : ¬ n < 0) (hN : n.toNatClampNeg = lnM k) (hB : n.toNatClampNeg ≤ 67108864) (hc : c + 1 ≤ 40) (hz : z + lnM k ≤ 82128) (hK : ∀ S', MJ U S0 S' m (k :: D) f0M → K [(0, .ref m)] [] S' (c + 1) (z + lnM k)) : nA kd 40 82128 (tF 8 k K) [(0, .ref m)] [.int n, .ref m] S c z := by
  refine And.intro hn (And.intro ⟨hB, hc, by rw [hN]; exact hz⟩ (fun a ha => And.intro ?_ ?_))
  · rw [sK_nw, va_up_ne _ _ (fun z => by rw [← z, h.1.2.1] at ha; cases ha)]
    exact h.1.2.1
  · rw [hN]
    refine hK _ (MJ_step h ha hk (fun b hb => RS_nw hb) ?_ ?_ (fun j => ?_))
    · rw [sK_nw, va_up_self]; exact hkd
    · rw [sN_nw, va_up_self]
    · rw [sI_nw, cl2_self]
      unfold f0M
      rw [if_neg h12.1, if_neg h12.2]
set_option maxRecDepth 20000 in
theorem t_mdL {U : Nat → Prop} {Q : Option Value → MM → Prop} {S0 : MM} {m : Nat} : ∀ (n i : Nat) (S : MM) (c z : Nat), i + n = 16 → MJ U S0 S m DM (fM i) → (∀ S', MJ U S0 S' m DM (fM 16) → Q none S') → wpn (kX8_init Q) (n + 2) 353 [(1, .int (nI i)), (0, .ref m)] [] S c z := by
  intro n
  induction n with
  | zero =>
    intro i S c z hi h K
    have e8 : i = 16 := by omega
    subst e8
    exact And.intro (fun _ => K S h) (fun h => absurd (by decide) h)
  | succ n ih =>
    intro i S c z hi h K
    have hi8 : i < 16 := by omega
    have hv : vp_in (nI i) 16 := in_nI hi8 (by decide)
    obtain ⟨a4, p4, q4, l4, -, -, o4⟩ := h.1.2.2.2.1 4 (by decide)
    obtain ⟨a1, p1, q1, l1, -, -, o1⟩ := h.1.2.2.2.1 11 (by decide)
    obtain ⟨a2, p2, q2, l2, -, -, o2⟩ := h.1.2.2.2.1 12 (by decide)
    obtain ⟨a3, p3, q3, l3, -, -, o3⟩ := h.1.2.2.2.1 21 (by decide)
    have hm := h.1.2.1
    have w := MJ_w (i := i) (v := -1) (MJ_w (i := i) (v := -1) (MJ_w (i := i) (v := -1) (MJ_w (i := i) (v := 100) h (k := 4) (by decide) p4) (k := 11) (by decide) p1) (k := 12) (by decide) p2) (k := 21) (by decide) p3
    rw [fM_step] at w
    have nx := ih (i + 1) _ c z (by omega) w K
    rw [← nI_1 i] at nx
    refine And.intro (fun h => absurd h (n16_ge hi8)) (fun _ => And.intro hm (useR p4 (And.intro q4 (And.intro (by show vp_in (nI i) (sN S a4); rw [l4]; exact hv) (And.intro hm (useR p1 (And.intro q1 (And.intro (by show vp_in (nI i) (sN S a1); rw [l1]; exact hv) (And.intro hm (useR p2 (And.intro q2 (And.intro (by show vp_in (nI i) (sN S a2); rw [l2]; exact hv) (And.intro hm (useR p3 (And.intro q3 (And.intro (by show vp_in (nI i) (sN S a3); rw [l3]; exact hv) ?_))))))))))))))))
    show wpn (kX8_init Q) (n + 2) 353 _ [] (pI (pI (pI (pI S a4 (nI i).toNatClampNeg 100) a1 (nI i).toNatClampNeg (-1)) a2 (nI i).toNatClampNeg (-1)) a3 (nI i).toNatClampNeg (-1)) _ _
    rw [cl_nI (by omega)]
    exact nx
set_option maxRecDepth 20000 in
set_option maxHeartbeats 2000000 in
theorem t_md0 {U : Nat → Prop} {S : MM} {m : Nat} {Q : Option Value → MM → Prop} (hU : TYU S U) (hk : sK S m = 9) (hz : ∀ j, sI S m j = 0) (K : ∀ S', MJ U S S' m DM (fM 16) → Q none S') : wX8_init [.ref m] S Q := by
  refine Exists.intro 22 (And.intro (by decide) (And.intro ⟨by decide, by decide, by decide⟩ (fun a1 ha1 => ?_)))
  have h0 : MJ U S S m [] f0M := ⟨⟨Ex.rf, hk, hz, (fun _ h => nomatch h), (fun _ h => nomatch h)⟩, hU, fun a ha _ => Or.inl ha⟩
  have n1 : m ≠ a1 := fun z => by rw [← z, hk] at ha1; cases ha1
  refine And.intro (by show sK (nw S a1 10 2) a1 = 10; rw [sK_nw, va_up_self]) (And.intro (by show vp_in 0 (sN (nw S a1 10 2) a1); rw [sN_nw, va_up_self]; exact in_0 (by decide)) (And.intro (by show sK (nw S a1 10 2) a1 = 10; rw [sK_nw, va_up_self]) (And.intro (by show vp_in 1 (sN (nw S a1 10 2) a1); rw [sN_nw, va_up_self]; exact in_nI (i := 1) (by decide) (by decide)) (And.intro (by show sK (nw S a1 10 2) m = 9; rw [sK_nw, va_up_ne _ _ n1]; exact hk) ?_))))
  have h1 : MJ U S (pR (pI (pI (nw S a1 10 2) a1 0 10) a1 1 20) m 1 (some a1)) m [1] f0M := MJ_step h0 ha1 (by decide) (fun b hb => ((RS_nw hb).tr (RS_pI hb)).tr (RS_pI hb)) (by rw [sK_pI, sK_pI, sK_nw, va_up_self]; rfl) (by rw [sN_pI, sN_pI, sN_nw, va_up_self]; rfl) (fun j => by
    rw [sI_pI, sI_pI, sI_nw]
    unfold up2 f0M
    rw [cl2_self]
    by_cases e0 : j = 0
    · subst e0; simp
    · by_cases e1 : j = 1
      · subst e1; simp
      · simp [e0, e1])
  show ldA 0 _ [(0, .ref m)] [] (pR (pI (pI (nw S a1 10 2) a1 0 10) a1 1 20) m 1 (some a1)) 1 2
  generalize pR (pI (pI (nw S a1 10 2) a1 0 10) a1 1 20) m 1 (some a1) = S1 at h1 ⊢
  refine And.intro (by decide) (And.intro ⟨by decide, by decide, by decide⟩ (fun a2 ha2 => ?_))
  have n2 : m ≠ a2 := fun z => by rw [← z, h1.1.2.1] at ha2; cases ha2
  refine And.intro (by show sK (nw S1 a2 10 2) a2 = 10; rw [sK_nw, va_up_self]) (And.intro (by show vp_in 0 (sN (nw S1 a2 10 2) a2); rw [sN_nw, va_up_self]; exact in_0 (by decide)) (And.intro (by show sK (nw S1 a2 10 2) a2 = 10; rw [sK_nw, va_up_self]) (And.intro (by show vp_in 1 (sN (nw S1 a2 10 2) a2); rw [sN_nw, va_up_self]; exact in_nI (i := 1) (by decide) (by decide)) (And.intro (by show sK (nw S1 a2 10 2) m = 9; rw [sK_nw, va_up_ne _ _ n2]; exact h1.1.2.1) ?_))))
  have h2 : MJ U S (pR (pI (pI (nw S1 a2 10 2) a2 0 8) a2 1 8) m 2 (some a2)) m [2, 1] f0M := MJ_step h1 ha2 (by decide) (fun b hb => ((RS_nw hb).tr (RS_pI hb)).tr (RS_pI hb)) (by rw [sK_pI, sK_pI, sK_nw, va_up_self]; rfl) (by rw [sN_pI, sN_pI, sN_nw, va_up_self]; rfl) (fun j => by
    rw [sI_pI, sI_pI, sI_nw]
    unfold up2 f0M
    rw [cl2_self]
    by_cases e0 : j = 0
    · subst e0; simp
    · by_cases e1 : j = 1
      · subst e1; simp
      · simp [e0, e1, show ¬ j < 2 by omega])
  show ldA 0 _ [(0, .ref m)] [] (pR (pI (pI (nw S1 a2 10 2) a2 0 8) a2 1 8) m 2 (some a2)) 2 4
  generalize pR (pI (pI (nw S1 a2 10 2) a2 0 8) a2 1 8) m 2 (some a2) = S2 at h2 ⊢
  refine ev_arrT (k := 3) (n := 16) (c := 2) (z := 4) h2 (by decide) (by decide) rfl (by decide) (by decide) (by decide) (by decide) (by decide) (fun S3 h3 => ?_)
  refine ev_arrT (k := 4) (n := 16) (c := 3) (z := 20) h3 (by decide) (by decide) rfl (by decide) (by decide) (by decide) (by decide) (by decide) (fun S4 h4 => ?_)
  refine ev_arrT (k := 5) (n := 16) (c := 4) (z := 36) h4 (by decide) (by decide) rfl (by decide) (by decide) (by decide) (by decide) (by decide) (fun S5 h5 => ?_)
  refine ev_arrT (k := 6) (n := 16) (c := 5) (z := 52) h5 (by decide) (by decide) rfl (by decide) (by decide) (by decide) (by decide) (by decide) (fun S6 h6 => ?_)
  refine ev_arrT (k := 7) (n := 16) (c := 6) (z := 68) h6 (by decide) (by decide) rfl (by decide) (by decide) (by decide) (by decide) (by decide) (fun S7 h7 => ?_)
  refine ev_arrT (k := 8) (n := 16) (c := 7) (z := 84) h7 (by decide) (by decide) rfl (by decide) (by decide) (by decide) (by decide) (by decide) (fun S8 h8 => ?_)
  refine ev_arrT (k := 9) (n := 16) (c := 8) (z := 100) h8 (by decide) (by decide) rfl (by decide) (by decide) (by decide) (by decide) (by decide) (fun S9 h9 => ?_)
  refine ev_arrT (k := 10) (n := 16) (c := 9) (z := 116) h9 (by decide) (by decide) rfl (by decide) (by decide) (by decide) (by decide) (by decide) (fun S10 h10 => ?_)
  refine ev_arrT (k := 11) (n := 16) (c := 10) (z := 132) h10 (by decide) (by decide) rfl (by decide) (by decide) (by decide) (by decide) (by decide) (fun S11 h11 => ?_)
  refine ev_arrT (k := 12) (n := 16) (c := 11) (z := 148) h11 (by decide) (by decide) rfl (by decide) (by decide) (by decide) (by decide) (by decide) (fun S12 h12 => ?_)
  refine ev_arrT (k := 13) (n := 16) (c := 12) (z := 164) h12 (by decide) (by decide) rfl (by decide) (by decide) (by decide) (by decide) (by decide) (fun S13 h13 => ?_)
  refine ev_arrT (k := 14) (n := 16) (c := 13) (z := 180) h13 (by decide) (by decide) rfl (by decide) (by decide) (by decide) (by decide) (by decide) (fun S14 h14 => ?_)
  refine ev_arrT (k := 15) (n := 16) (c := 14) (z := 196) h14 (by decide) (by decide) rfl (by decide) (by decide) (by decide) (by decide) (by decide) (fun S15 h15 => ?_)
  refine ev_arrT (k := 16) (n := 16) (c := 15) (z := 212) h15 (by decide) (by decide) rfl (by decide) (by decide) (by decide) (by decide) (by decide) (fun S16 h16 => ?_)
  refine ev_arrT (k := 17) (n := 16) (c := 16) (z := 228) h16 (by decide) (by decide) rfl (by decide) (by decide) (by decide) (by decide) (by decide) (fun S17 h17 => ?_)
  refine ev_arrT (k := 18) (n := 80) (c := 17) (z := 244) h17 (by decide) (by decide) rfl (by decide) (by decide) (by decide) (by decide) (by decide) (fun S18 h18 => ?_)
  refine ev_arrT (k := 19) (n := 48) (c := 18) (z := 324) h18 (by decide) (by decide) rfl (by decide) (by decide) (by decide) (by decide) (by decide) (fun S19 h19 => ?_)
  refine ev_arrT (k := 20) (n := 80) (c := 19) (z := 372) h19 (by decide) (by decide) rfl (by decide) (by decide) (by decide) (by decide) (by decide) (fun S20 h20 => ?_)
  refine ev_arrT (k := 21) (n := 16) (c := 20) (z := 452) h20 (by decide) (by decide) rfl (by decide) (by decide) (by decide) (by decide) (by decide) (fun S21 h21 => ?_)
  refine ev_arrT (k := 22) (n := 16) (c := 21) (z := 468) h21 (by decide) (by decide) rfl (by decide) (by decide) (by decide) (by decide) (by decide) (fun S22 h22 => ?_)
  refine ev_arrT (k := 23) (n := 8) (c := 22) (z := 484) h22 (by decide) (by decide) rfl (by decide) (by decide) (by decide) (by decide) (by decide) (fun S23 h23 => ?_)
  refine ev_arrT (k := 24) (n := 8) (c := 23) (z := 492) h23 (by decide) (by decide) rfl (by decide) (by decide) (by decide) (by decide) (by decide) (fun S24 h24 => ?_)
  refine ev_arrT (k := 25) (n := 8) (c := 24) (z := 500) h24 (by decide) (by decide) rfl (by decide) (by decide) (by decide) (by decide) (by decide) (fun S25 h25 => ?_)
  refine ev_arrT (k := 26) (n := 16) (c := 25) (z := 508) h25 (by decide) (by decide) rfl (by decide) (by decide) (by decide) (by decide) (by decide) (fun S26 h26 => ?_)
  refine ev_arrT (k := 27) (n := 4000) (c := 26) (z := 524) h26 (by decide) (by decide) rfl (by decide) (by decide) (by decide) (by decide) (by decide) (fun S27 h27 => ?_)
  refine ev_arrT (k := 28) (n := 4000) (c := 27) (z := 4524) h27 (by decide) (by decide) rfl (by decide) (by decide) (by decide) (by decide) (by decide) (fun S28 h28 => ?_)
  refine ev_arrT (k := 29) (n := 4000) (c := 28) (z := 8524) h28 (by decide) (by decide) rfl (by decide) (by decide) (by decide) (by decide) (by decide) (fun S29 h29 => ?_)
  refine ev_arrT (k := 30) (n := 4000) (c := 29) (z := 12524) h29 (by decide) (by decide) rfl (by decide) (by decide) (by decide) (by decide) (by decide) (fun S30 h30 => ?_)
  refine ev_arrT (k := 31) (n := 40000) (c := 30) (z := 16524) h30 (by decide) (by decide) rfl (by decide) (by decide) (by decide) (by decide) (by decide) (fun S31 h31 => ?_)
  refine ev_arrT (k := 33) (n := 4200) (c := 31) (z := 56524) h31 (by decide) (by decide) rfl (by decide) (by decide) (by decide) (by decide) (by decide) (fun S33 h33 => ?_)
  refine ev_arrT (k := 34) (n := 4200) (c := 32) (z := 60724) h33 (by decide) (by decide) rfl (by decide) (by decide) (by decide) (by decide) (by decide) (fun S34 h34 => ?_)
  refine ev_arrT (k := 35) (n := 4200) (c := 33) (z := 64924) h34 (by decide) (by decide) rfl (by decide) (by decide) (by decide) (by decide) (by decide) (fun S35 h35 => ?_)
  refine ev_arrT (k := 36) (n := 4200) (c := 34) (z := 69124) h35 (by decide) (by decide) rfl (by decide) (by decide) (by decide) (by decide) (by decide) (fun S36 h36 => ?_)
  refine ev_arrT (k := 37) (n := 4200) (c := 35) (z := 73324) h36 (by decide) (by decide) rfl (by decide) (by decide) (by decide) (by decide) (by decide) (fun S37 h37 => ?_)
  refine ev_arrT (k := 38) (n := 4200) (c := 36) (z := 77524) h37 (by decide) (by decide) rfl (by decide) (by decide) (by decide) (by decide) (by decide) (fun S38 h38 => ?_)
  refine ev_arrT (k := 40) (n := 2) (c := 37) (z := 81724) h38 (by decide) (by decide) rfl (by decide) (by decide) (by decide) (by decide) (by decide) (fun S40 h40 => ?_)
  refine ev_arrT (k := 41) (n := 400) (c := 38) (z := 81726) h40 (by decide) (by decide) rfl (by decide) (by decide) (by decide) (by decide) (by decide) (fun S41 h41 => ?_)
  refine ev_arrT (k := 42) (n := 2) (c := 39) (z := 82126) h41 (by decide) (by decide) rfl (by decide) (by decide) (by decide) (by decide) (by decide) (fun S42 h42 => ?_)
  refine t_mdL 16 0 _ 40 82128 rfl ?_ K
  have e0 : fM 0 = f0M := by
    funext k j
    unfold fM
    simp
  rw [e0]
  exact h42
