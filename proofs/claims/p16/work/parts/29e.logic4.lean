set_option maxRecDepth 20000 in
theorem s_laneL {Q : Option Value → MM → Prop} {o na : Nat} : ∀ (n i : Nat) (S : MM) (c z : Nat), i + n = 8 → sK S o = 4 → sR S o 0 = some na → sK S na = 16 → sN S na = 8 → c + 3 * n ≤ 26 → z + 13 * n ≤ 312 → (∀ S', Ex S S' (fun a => a = na) → Q none S') → wpn (kX3_init Q) (n + 2) 25 [(1, .int (nI i)), (0, .ref o)] [] S c z := by
  intro n
  induction n with
  | zero =>
    intro i S c z hi ho hR hn hN hc hz K
    have e8 : i = 8 := by omega
    subst e8
    exact And.intro (fun _ => K S Ex.rf) (fun h => absurd (by decide) h)
  | succ n ih =>
    intro i S c z hi ho hR hn hN hc hz K
    have hi8 : i < 8 := by omega
    refine And.intro (fun h => absurd h (n8_ge hi8)) (fun _ => And.intro ho (useR hR (And.intro ⟨by omega, by show z + 3 ≤ 312; omega⟩ (fun q hq => And.intro ⟨by omega, by show z + 3 + 10 ≤ 312; omega⟩ ?_))))
    refine s_note0 (by rw [sK_nw, va_up_self]) (fun S' hE hk => ?_)
    have old : ∀ a, sK S a ≠ 0 → RS S S' a := fun a ha => by
      have hn : a ≠ q := fun z => ha (by rw [z]; exact hq)
      have r1 : RS S (nw S q 5 0) a := RS_nw hn
      exact r1.tr (hE a (by rw [r1.1]; exact ha) hn)
    have ro := old o (by rw [ho]; decide)
    have rn := old na (by rw [hn]; decide)
    have nx := ih (i + 1) (pR S' na i (some q)) (c + 1 + 2) (z + 3 + 10) (by omega) (by rw [sK_pR, ro.1]; exact ho) (by rw [sR_pR, up2_ne (fun z => by have h9 := ho; rw [z.1, hn] at h9; cases h9), ro.2.2.2.1]; exact hR) (by rw [sK_pR, rn.1]; exact hn) (by rw [sN_pR, rn.2.1]; exact hN) (by omega) (by omega) (fun S9 e9 => K S9 (Ex.tr (fun a ha hna => (old a ha).tr (RS_pR hna)) e9 (fun _ _ h => h) (fun _ _ h => h)))
    rw [← nI_1 i] at nx
    refine And.intro (by rw [rn.1]; exact hn) (And.intro (by show vp_in (nI i) (sN S' na); rw [rn.2.1, hN]; exact in_nI hi8 (by decide)) (And.intro hk ?_))
    show wpn (kX3_init Q) (n + 2) 25 _ [] (pR S' na (nI i).toNatClampNeg (some q)) _ _
    rw [cl_nI (by omega)]
    exact nx
def L0 (S : MM) (l : Nat) : Prop := sK S l = 4 ∧ ∀ j, sI S l j = 0
theorem s_lane0 {S : MM} {o : Nat} {Q : Option Value → MM → Prop} (hk : sK S o = 4) (hz : ∀ j, sI S o j = 0) (h : ∀ S', Ex S S' (fun a => a = o) → L0 S' o → Q none S') : wX3_init [.ref o] S Q := by
  refine Exists.intro 11 (And.intro (by decide) (And.intro ⟨by decide, by decide, by decide⟩ (fun na hna => ?_)))
  have n1 : o ≠ na := fun z => by rw [← z, hk] at hna; cases hna
  have k1 : sK (nw S na 16 8) o = 4 := by rw [sK_nw, va_up_ne _ _ n1]; exact hk
  refine And.intro k1 (And.intro (by decide) (And.intro ⟨by decide, by decide, by decide⟩ (fun fa hfa => ?_)))
  have n2 : o ≠ fa := fun z => by rw [← z] at hfa; exact absurd (k1.symm.trans hfa) (by decide)
  have n3 : na ≠ fa := fun z => by rw [← z, sK_pR, sK_nw, va_up_self] at hfa; cases hfa
  have k2 : sK (nw (pR (nw S na 16 8) o 0 (some na)) fa 14 200) o = 4 := by rw [sK_nw, va_up_ne _ _ n2]; exact k1
  refine And.intro k2 ?_
  have e0 : Ex S (pR (nw (pR (nw S na 16 8) o 0 (some na)) fa 14 200) o 3 (some fa)) (fun a => a = o) := ((((Ex.rf (P := fun a => a = o)).nw hna).pR (fun _ => rfl)).nw hfa).pR (fun _ => rfl)
  refine s_laneL (Q := Q) (o := o) (na := na) 8 0 (pR (nw (pR (nw S na 16 8) o 0 (some na)) fa 14 200) o 3 (some fa)) 2 208 rfl k2 ?_ ?_ ?_ (by decide) (by decide) (fun S' e9 => ?_)
  · rw [sR_pR, up2_ne (by simp), sR_nw, cl2_row n2, sR_pR, up2_self]
  · rw [sK_pR, sK_nw, va_up_ne _ _ n3, sK_pR, sK_nw, va_up_self]
  · rw [sN_pR, sN_nw, va_up_ne _ _ n3, sN_pR, sN_nw, va_up_self]
  · have ro := e9 o (by rw [sK_pR, k2]; decide) n1
    refine h S' (e0.tr e9 (fun _ _ z => z) (fun a ha z => by rw [z] at ha; exact absurd hna ha)) ⟨by rw [ro.1]; exact k2, fun j => ?_⟩
    rw [ro.2.2.1, sI_pR, sI_nw, cl2_row n2, sI_pR, sI_nw, cl2_row n1]
    exact hz j
def Ls (S : MM) (ll n : Nat) : Prop := ∀ e, e < n → ∃ l, sR S ll e = some l ∧ L0 S l
set_option maxRecDepth 20000 in
theorem s_cabL {Q : Option Value → MM → Prop} {o ll : Nat} : ∀ (n i : Nat) (S : MM) (c z : Nat), i + n = 2 → sK S o = 1 → sR S o 1 = some ll → sK S ll = 15 → sN S ll = 2 → Ls S ll i → c + 27 * n ≤ 56 → z + 319 * n ≤ 642 → (∀ S', Ex S S' (fun a => a = ll) → sK S' ll = 15 → sN S' ll = 2 → Ls S' ll 2 → Q none S') → wpn (kX0_init Q) (n + 2) 22 [(1, .int (nI i)), (0, .ref o)] [] S c z := by
  intro n
  induction n with
  | zero =>
    intro i S c z hi ho hR hn hN hls hc hz K
    have e8 : i = 2 := by omega
    subst e8
    exact And.intro (fun _ => K S Ex.rf hn hN hls) (fun h => absurd (by decide) h)
  | succ n ih =>
    intro i S c z hi ho hR hn hN hls hc hz K
    have hi8 : i < 2 := by omega
    refine And.intro (fun h => absurd h (n2_ge hi8)) (fun _ => And.intro ho (useR hR (And.intro ⟨by omega, by show z + 7 ≤ 642; omega⟩ (fun q hq => And.intro ⟨by omega, by show z + 7 + 312 ≤ 642; omega⟩ ?_))))
    refine s_lane0 (by rw [sK_nw, va_up_self]) (fun j => by rw [sI_nw, cl2_self]) (fun S' hE hL => ?_)
    have old : ∀ a, sK S a ≠ 0 → a ≠ q ∧ RS S S' a := fun a ha => by
      have hn : a ≠ q := fun z => ha (by rw [z]; exact hq)
      have r1 : RS S (nw S q 4 0) a := RS_nw hn
      exact ⟨hn, r1.tr (hE a (by rw [r1.1]; exact ha) hn)⟩
    have ro := (old o (by rw [ho]; decide)).2
    have rn := (old ll (by rw [hn]; decide)).2
    have hls2 : Ls (pR S' ll i (some q)) ll (i + 1) := fun e he => by
      by_cases hei : e = i
      · subst hei
        exact ⟨q, by rw [sR_pR, up2_self], hL⟩
      · obtain ⟨l, a1, a2, a3⟩ := hls e (by omega)
        have rl := (old l (by rw [a2]; decide)).2
        exact ⟨l, by rw [sR_pR, up2_ne (fun z => hei z.2), rn.2.2.2.1]; exact a1, by rw [sK_pR, rl.1]; exact a2, fun j => by rw [sI_pR, rl.2.2.1]; exact a3 j⟩
    have nx := ih (i + 1) (pR S' ll i (some q)) (c + 1 + 26) (z + 7 + 312) (by omega) (by rw [sK_pR, ro.1]; exact ho) (by rw [sR_pR, up2_ne (fun z => by have h9 := ho; rw [z.1, hn] at h9; cases h9), ro.2.2.2.1]; exact hR) (by rw [sK_pR, rn.1]; exact hn) (by rw [sN_pR, rn.2.1]; exact hN) hls2 (by omega) (by omega) (fun S9 e9 k9 n9 l9 => K S9 (Ex.tr (fun a ha hna => (old a ha).2.tr (RS_pR hna)) e9 (fun _ _ h => h) (fun _ _ h => h)) k9 n9 l9)
    rw [← nI_1 i] at nx
    refine And.intro (by rw [rn.1]; exact hn) (And.intro (by show vp_in (nI i) (sN S' ll); rw [rn.2.1, hN]; exact in_nI hi8 (by decide)) (And.intro hL.1 ?_))
    show wpn (kX0_init Q) (n + 2) 22 _ [] (pR S' ll (nI i).toNatClampNeg (some q)) _ _
    rw [cl_nI (by omega)]
    exact nx
/-- a cable as it is new -/
def C0 (S : MM) (a : Nat) : Prop := Cb0 S a ∧ sI S a 2 = 0 ∧ ∃ ll, sR S a 1 = some ll ∧ sK S ll = 15 ∧ sN S ll = 2 ∧ Ls S ll 2
theorem C0_ext {S S' : MM} {a : Nat} (h : C0 S a) (ra : RS S S' a) (r : ∀ a, sK S a = 4 ∨ sK S a = 15 ∨ (sK S a = 17 ∧ sN S a = 2) → RS S S' a) : C0 S' a := by
  obtain ⟨⟨h1, h2, h3, pp, p1, p2, p3, p4, p5⟩, h4, ll, l1, l2, l3, l4⟩ := h
  have rp := r pp (Or.inr (Or.inr ⟨p2, p3⟩))
  have rl := r ll (Or.inr (Or.inl l2))
  refine ⟨⟨by rw [ra.1]; exact h1, by rw [ra.2.2.1]; exact h2, by rw [ra.2.2.1]; exact h3, pp, by rw [ra.2.2.2.1]; exact p1, by rw [rp.1]; exact p2, by rw [rp.2.1]; exact p3, by rw [rp.2.2.2.1]; exact p4, by rw [rp.2.2.2.1]; exact p5⟩, by rw [ra.2.2.1]; exact h4, ll, by rw [ra.2.2.2.1]; exact l1, by rw [rl.1]; exact l2, by rw [rl.2.1]; exact l3, fun e he => ?_⟩
  obtain ⟨l, a1, a2, a3⟩ := l4 e he
  have r9 := r l (Or.inl a2)
  exact ⟨l, by rw [rl.2.2.2.1]; exact a1, by rw [r9.1]; exact a2, fun j => by rw [r9.2.2.1]; exact a3 j⟩
theorem s_cab0 {S : MM} {o : Nat} {Q : Option Value → MM → Prop} (hk : sK S o = 1) (hz : ∀ j, sI S o j = 0) (h : ∀ S', Ex S S' (fun a => a = o) → C0 S' o → Q none S') : wX0_init [.ref o] S Q := by
  refine Exists.intro 5 (And.intro (by decide) (And.intro ⟨by decide, by decide, by decide⟩ (fun pp hpp => ?_)))
  have n1 : o ≠ pp := fun z => by rw [← z, hk] at hpp; cases hpp
  have k1 : sK (nw S pp 17 2) o = 1 := by rw [sK_nw, va_up_ne _ _ n1]; exact hk
  refine And.intro k1 (And.intro (by decide) (And.intro ⟨by decide, by decide, by decide⟩ (fun ll hll => ?_)))
  have n2 : o ≠ ll := fun z => by rw [← z] at hll; exact absurd (k1.symm.trans hll) (by decide)
  have n3 : pp ≠ ll := fun z => by rw [← z, sK_pR, sK_nw, va_up_self] at hll; cases hll
  have k2 : sK (nw (pR (nw S pp 17 2) o 0 (some pp)) ll 15 2) o = 1 := by rw [sK_nw, va_up_ne _ _ n2]; exact k1
  refine And.intro k2 ?_
  have e0 : Ex S (pR (nw (pR (nw S pp 17 2) o 0 (some pp)) ll 15 2) o 1 (some ll)) (fun a => a = o) := ((((Ex.rf (P := fun a => a = o)).nw hpp).pR (fun _ => rfl)).nw hll).pR (fun _ => rfl)
  have kp : sK (pR (nw (pR (nw S pp 17 2) o 0 (some pp)) ll 15 2) o 1 (some ll)) pp = 17 := by rw [sK_pR, sK_nw, va_up_ne _ _ n3, sK_pR, sK_nw, va_up_self]
  refine s_cabL (Q := Q) (o := o) (ll := ll) 2 0 (pR (nw (pR (nw S pp 17 2) o 0 (some pp)) ll 15 2) o 1 (some ll)) 2 4 rfl k2 ?_ ?_ ?_ (fun e he => by omega) (by decide) (by decide) (fun S' e9 k9 n9 l9 => ?_)
  · rw [sR_pR, up2_self]
  · rw [sK_pR, sK_nw, va_up_self]
  · rw [sN_pR, sN_nw, va_up_self]
  · have ro := e9 o (by rw [sK_pR, k2]; decide) n2
    have rp := e9 pp (by rw [kp]; decide) n3
    have hI : ∀ j, sI S' o j = 0 := fun j => by rw [ro.2.2.1, sI_pR, sI_nw, cl2_row n2, sI_pR, sI_nw, cl2_row n1]; exact hz j
    have hRp : ∀ j, sR S' pp j = none := fun j => by rw [rp.2.2.2.1, sR_pR, up2_ne (fun z => n1 z.1.symm), sR_nw, cl2_row n3, sR_pR, up2_ne (fun z => n1 z.1.symm), sR_nw, cl2_self]
    refine h S' (e0.tr e9 (fun _ _ z => z) (fun a ha z => ?_)) ⟨⟨by rw [ro.1]; exact k2, hI 3, hI 4, pp, ?_, by rw [rp.1]; exact kp, ?_, hRp 0, hRp 1⟩, hI 2, ll, ?_, k9, n9, l9⟩
    · rw [z] at ha
      have h0 : sK S ll = 0 := (((Ex.rf (P := fun a => a = o)).nw hpp).pR (k := 0) (v := some pp) (fun _ => rfl)).fr hll (fun z => n2 z.symm)
      exact absurd h0 ha
    · rw [ro.2.2.2.1, sR_pR, up2_ne (by simp), sR_nw, cl2_row n2, sR_pR, up2_self]
    · rw [rp.2.1, sN_pR, sN_nw, va_up_ne _ _ n3, sN_pR, sN_nw, va_up_self]
    · rw [ro.2.2.2.1, sR_pR, up2_self]
