def Cs (S : MM) (aC n : Nat) : Prop := ∀ c, c < n → ∃ a, sR S aC c = some a ∧ C0 S a
set_option maxRecDepth 20000 in
theorem s_bpL {Q : Option Value → MM → Prop} {x aC : Nat} : ∀ (n i : Nat) (S : MM) (c z : Nat), i + n = 8 → sK S x = 8 → sR S x 1 = some aC → sK S aC = 12 → sN S aC = 8 → Cs S aC i → c + 57 * n ≤ 528 → z + 647 * n ≤ 6148 → (∀ S', Ex S S' (fun a => a = aC) → sK S' aC = 12 → sN S' aC = 8 → Cs S' aC 8 → Q none S') → wpn (kX7_init Q) (n + 2) 53 [(1, .int (nI i)), (0, .ref x)] [] S c z := by
  intro n
  induction n with
  | zero =>
    intro i S c z hi ho hR hn hN hls hc hz K
    have e8 : i = 8 := by omega
    subst e8
    exact And.intro (fun _ => K S Ex.rf hn hN hls) (fun h => absurd (by decide) h)
  | succ n ih =>
    intro i S c z hi ho hR hn hN hls hc hz K
    have hi8 : i < 8 := by omega
    refine And.intro (fun h => absurd h (n8_ge hi8)) (fun _ => And.intro ho (useR hR (And.intro ⟨by omega, by show z + 5 ≤ 6148; omega⟩ (fun q hq => And.intro ⟨by omega, by show z + 5 + 642 ≤ 6148; omega⟩ ?_))))
    refine s_cab0 (by rw [sK_nw, va_up_self]) (fun j => by rw [sI_nw, cl2_self]) (fun S' hE hL => ?_)
    have old : ∀ a, sK S a ≠ 0 → a ≠ q ∧ RS S S' a := fun a ha => by
      have hn : a ≠ q := fun z => ha (by rw [z]; exact hq)
      have r1 : RS S (nw S q 1 0) a := RS_nw hn
      exact ⟨hn, r1.tr (hE a (by rw [r1.1]; exact ha) hn)⟩
    have ro := (old x (by rw [ho]; decide)).2
    have rn := (old aC (by rw [hn]; decide)).2
    have st : ∀ a, sK S' a ≠ 12 → RS S' (pR S' aC i (some q)) a := fun a ha => RS_pR (fun z => ha (by rw [z, rn.1]; exact hn))
    have hls2 : Cs (pR S' aC i (some q)) aC (i + 1) := fun e he => by
      by_cases hei : e = i
      · subst hei
        exact ⟨q, by rw [sR_pR, up2_self], C0_ext hL (st q (by rw [hL.1.1]; decide)) (fun a ha => st a (by rcases ha with h | h | h <;> first | (rw [h]; decide) | (rw [h.1]; decide)))⟩
      · obtain ⟨l, a1, a2⟩ := hls e (by omega)
        refine ⟨l, by rw [sR_pR, up2_ne (fun z => hei z.2), rn.2.2.2.1]; exact a1, ?_⟩
        have c1 : C0 S' l := C0_ext a2 (old l (by rw [a2.1.1]; decide)).2 (fun a ha => (old a (by rcases ha with h | h | h <;> first | (rw [h]; decide) | (rw [h.1]; decide))).2)
        exact C0_ext c1 (st l (by rw [c1.1.1]; decide)) (fun a ha => st a (by rcases ha with h | h | h <;> first | (rw [h]; decide) | (rw [h.1]; decide)))
    have nx := ih (i + 1) (pR S' aC i (some q)) (c + 1 + 56) (z + 5 + 642) (by omega) (by rw [sK_pR, ro.1]; exact ho) (by rw [sR_pR, up2_ne (fun z => by have h9 := ho; rw [z.1, hn] at h9; cases h9), ro.2.2.2.1]; exact hR) (by rw [sK_pR, rn.1]; exact hn) (by rw [sN_pR, rn.2.1]; exact hN) hls2 (by omega) (by omega) (fun S9 e9 k9 n9 l9 => K S9 (Ex.tr (fun a ha hna => (old a ha).2.tr (RS_pR hna)) e9 (fun _ _ h => h) (fun _ _ h => h)) k9 n9 l9)
    rw [← nI_1 i] at nx
    refine And.intro (by rw [rn.1]; exact hn) (And.intro (by show vp_in (nI i) (sN S' aC); rw [rn.2.1, hN]; exact in_nI hi8 (by decide)) (And.intro hL.1.1 ?_))
    show wpn (kX7_init Q) (n + 2) 53 _ [] (pR S' aC (nI i).toNatClampNeg (some q)) _ _
    rw [cl_nI (by omega)]
    exact nx
/-- the object as it is new -/
def B0s (S : MM) (x aE aC e0 e1 : Nat) : Prop := sK S x = 8 ∧ sR S x 0 = some aE ∧ sR S x 1 = some aC ∧ sK S aE = 13 ∧ sN S aE = 2 ∧ sK S aC = 12 ∧ sN S aC = 8 ∧ sR S aE 0 = some e0 ∧ sR S aE 1 = some e1 ∧ e0 ≠ e1
def B0 (S : MM) (x aE aC e0 e1 : Nat) : Prop := B0s S x aE aC e0 e1 ∧ (∀ j, sI S x j = 0) ∧ E0 S e0 10 ∧ E0 S e1 20 ∧ Cs S aC 8
set_option maxRecDepth 20000 in
set_option maxHeartbeats 1000000 in
theorem s_bp0 {S : MM} {x : Nat} {Q : Option Value → MM → Prop} (hk : sK S x = 8) (hz : ∀ j, sI S x j = 0) (h : ∀ S' aE aC e0 e1, Ex S S' (fun a => a = x) → B0 S' x aE aC e0 e1 → Q none S') : wX7_init [.ref x] S Q := by
  refine Exists.intro 11 (And.intro (by decide) (And.intro ⟨by decide, by decide, by decide⟩ (fun aE haE => ?_)))
  have n1 : x ≠ aE := fun z => by rw [← z, hk] at haE; cases haE
  have k1 : sK (nw S aE 13 2) x = 8 := by rw [sK_nw, va_up_ne _ _ n1]; exact hk
  refine And.intro k1 (And.intro (by decide) (And.intro ⟨by decide, by decide, by decide⟩ (fun aC haC => ?_)))
  have n2 : x ≠ aC := fun z => by rw [← z] at haC; exact absurd (k1.symm.trans haC) (by decide)
  have n3 : aE ≠ aC := fun z => by rw [← z, sK_pR, sK_nw, va_up_self] at haC; cases haC
  have z2 : sK S aC = 0 := (((Ex.rf (P := fun a => a = x)).nw haE).pR (k := 0) (v := some aE) (fun _ => rfl)).fr haC (fun z => n2 z.symm)
  have k2 : sK (nw (pR (nw S aE 13 2) x 0 (some aE)) aC 12 8) x = 8 := by rw [sK_nw, va_up_ne _ _ n2]; exact k1
  have ex1 : Ex S (pR (nw (pR (nw S aE 13 2) x 0 (some aE)) aC 12 8) x 1 (some aC)) (fun a => a = x) := ((((Ex.rf (P := fun a => a = x)).nw haE).pR (fun _ => rfl)).nw haC).pR (fun _ => rfl)
  have w1 : sR (pR (nw (pR (nw S aE 13 2) x 0 (some aE)) aC 12 8) x 1 (some aC)) x 0 = some aE := by rw [sR_pR, up2_ne (by simp), sR_nw, cl2_row n2, sR_pR, up2_self]
  have w2 : sR (pR (nw (pR (nw S aE 13 2) x 0 (some aE)) aC 12 8) x 1 (some aC)) x 1 = some aC := by rw [sR_pR, up2_self]
  have w3 : sK (pR (nw (pR (nw S aE 13 2) x 0 (some aE)) aC 12 8) x 1 (some aC)) aE = 13 := by rw [sK_pR, sK_nw, va_up_ne _ _ n3, sK_pR, sK_nw, va_up_self]
  have w4 : sN (pR (nw (pR (nw S aE 13 2) x 0 (some aE)) aC 12 8) x 1 (some aC)) aE = 2 := by rw [sN_pR, sN_nw, va_up_ne _ _ n3, sN_pR, sN_nw, va_up_self]
  have w5 : sK (pR (nw (pR (nw S aE 13 2) x 0 (some aE)) aC 12 8) x 1 (some aC)) aC = 12 := by rw [sK_pR, sK_nw, va_up_self]
  have w6 : sN (pR (nw (pR (nw S aE 13 2) x 0 (some aE)) aC 12 8) x 1 (some aC)) aC = 8 := by rw [sN_pR, sN_nw, va_up_self]
  have w7 : ∀ j, sI (pR (nw (pR (nw S aE 13 2) x 0 (some aE)) aC 12 8) x 1 (some aC)) x j = 0 := fun j => by rw [sI_pR, sI_nw, cl2_row n2, sI_pR, sI_nw, cl2_row n1]; exact hz j
  have w0 : sK (pR (nw (pR (nw S aE 13 2) x 0 (some aE)) aC 12 8) x 1 (some aC)) x = 8 := by rw [sK_pR]; exact k2
  refine And.intro k2 ?_
  show ldA 0 _ [(0, .ref x)] [] (pR (nw (pR (nw S aE 13 2) x 0 (some aE)) aC 12 8) x 1 (some aC)) 2 10
  generalize pR (nw (pR (nw S aE 13 2) x 0 (some aE)) aC 12 8) x 1 (some aC) = S1 at ex1 w0 w1 w2 w3 w4 w5 w6 w7 ⊢
  refine And.intro w0 (useR w1 (And.intro ⟨by decide, by decide⟩ (fun e0 he0 => And.intro ⟨by decide, by decide⟩ ?_)))
  refine s_end0 (by rw [sK_nw, va_up_self]) (fun j => by rw [sI_nw, cl2_self]) (fun S2 hE2 hF0 => ?_)
  have old2 : ∀ a, sK S1 a ≠ 0 → a ≠ e0 ∧ RS S1 S2 a := fun a ha => by
    have hn : a ≠ e0 := fun z => ha (by rw [z]; exact he0)
    have r1 : RS S1 (nw S1 e0 2 0) a := RS_nw hn
    exact ⟨hn, r1.tr (hE2 a (by rw [r1.1]; exact ha) hn)⟩
  have rE := (old2 aE (by rw [w3]; decide))
  refine And.intro (by rw [rE.2.1]; exact w3) (And.intro (by show vp_in 0 (sN S2 aE); rw [rE.2.2.1, w4]; exact in_0 (by decide)) (And.intro hF0.1.1 ?_))
  show ldA 0 _ [(0, .ref x)] [] (pR S2 aE 0 (some e0)) 37 491
  have old3 : ∀ a, sK S1 a ≠ 0 → a ≠ aE → RS S1 (pR S2 aE 0 (some e0)) a := fun a ha hn => (old2 a ha).2.tr (RS_pR hn)
  have v1 : sK (pR S2 aE 0 (some e0)) aE = 13 := by rw [sK_pR, rE.2.1]; exact w3
  have v2 : sN (pR S2 aE 0 (some e0)) aE = 2 := by rw [sN_pR, rE.2.2.1]; exact w4
  have v3 : sR (pR S2 aE 0 (some e0)) aE 0 = some e0 := by rw [sR_pR, up2_self]
  have st3 : ∀ a, sK S2 a ≠ 13 → RS S2 (pR S2 aE 0 (some e0)) a := fun a ha => RS_pR (fun z => ha (by rw [z, rE.2.1]; exact w3))
  have v4 : E0 (pR S2 aE 0 (some e0)) e0 10 := E0_ext hF0 (st3 e0 (by rw [hF0.1.1]; decide)) (fun a ha => st3 a (by rcases ha with h | h | h <;> first | (rw [h]; decide) | (rw [h.1]; decide)))
  have v5 := old3 x (by rw [w0]; decide) n1
  have v6 := old3 aC (by rw [w5]; decide) (fun z => n3 z.symm)
  have ex3 : Ex S (pR S2 aE 0 (some e0)) (fun a => a = x) := fun a ha hn => (ex1 a ha hn).tr (old3 a (by rw [(ex1 a ha hn).1]; exact ha) (fun z => ha (by rw [z]; exact haE)))
  generalize pR S2 aE 0 (some e0) = S3 at v1 v2 v3 v4 v5 v6 ex3 old3 ⊢
  have x1 : sK S3 x = 8 := by rw [v5.1]; exact w0
  have x2 : sR S3 x 0 = some aE := by rw [v5.2.2.2.1]; exact w1
  refine And.intro x1 (useR x2 (And.intro ⟨by decide, by decide⟩ (fun e1 he1 => And.intro ⟨by decide, by decide⟩ ?_)))
  refine s_end0 (by rw [sK_nw, va_up_self]) (fun j => by rw [sI_nw, cl2_self]) (fun S4 hE4 hF1 => ?_)
  have old4 : ∀ a, sK S3 a ≠ 0 → a ≠ e1 ∧ RS S3 S4 a := fun a ha => by
    have hn : a ≠ e1 := fun z => ha (by rw [z]; exact he1)
    have r1 : RS S3 (nw S3 e1 2 0) a := RS_nw hn
    exact ⟨hn, r1.tr (hE4 a (by rw [r1.1]; exact ha) hn)⟩
  have rE4 := old4 aE (by rw [v1]; decide)
  refine And.intro (by rw [rE4.2.1]; exact v1) (And.intro (by show vp_in 1 (sN S4 aE); rw [rE4.2.2.1, v2]; exact in_nI (i := 1) (by decide) (by decide)) (And.intro hF1.1.1 ?_))
  have n01 : e0 ≠ e1 := (old4 e0 (by rw [v4.1.1]; decide)).1
  have st5 : ∀ a, sK S4 a ≠ 13 → RS S4 (pR S4 aE 1 (some e1)) a := fun a ha => RS_pR (fun z => ha (by rw [z, rE4.2.1]; exact v1))
  have old5 : ∀ a, sK S3 a ≠ 0 → sK S3 a ≠ 13 → RS S3 (pR S4 aE 1 (some e1)) a := fun a ha h13 => (old4 a ha).2.tr (st5 a (by rw [(old4 a ha).2.1]; exact h13))
  have u1 : E0 (pR S4 aE 1 (some e1)) e1 20 := E0_ext hF1 (st5 e1 (by rw [hF1.1.1]; decide)) (fun a ha => st5 a (by rcases ha with h | h | h <;> first | (rw [h]; decide) | (rw [h.1]; decide)))
  have u0 : E0 (pR S4 aE 1 (some e1)) e0 10 := E0_ext v4 (old5 e0 (by rw [v4.1.1]; decide) (by rw [v4.1.1]; decide)) (fun a ha => old5 a (by rcases ha with h | h | h <;> first | (rw [h]; decide) | (rw [h.1]; decide)) (by rcases ha with h | h | h <;> first | (rw [h]; decide) | (rw [h.1]; decide)))
  have ux := old5 x (by rw [x1]; decide) (by rw [x1]; decide)
  have y5 : sK S3 aC = 12 := by rw [v6.1]; exact w5
  have uC := old5 aC (by rw [y5]; decide) (by rw [y5]; decide)
  have q1 : sR (pR S4 aE 1 (some e1)) aE 0 = some e0 := by rw [sR_pR, up2_ne (by simp), rE4.2.2.2.2.1]; exact v3
  have q2 : sR (pR S4 aE 1 (some e1)) aE 1 = some e1 := by rw [sR_pR, up2_self]
  have q3 : sK (pR S4 aE 1 (some e1)) aE = 13 := by rw [sK_pR, rE4.2.1]; exact v1
  have q4 : sN (pR S4 aE 1 (some e1)) aE = 2 := by rw [sN_pR, rE4.2.2.1]; exact v2
  have ex5 : Ex S (pR S4 aE 1 (some e1)) (fun a => a = x) := fun a ha hn => by
    have r3 := ex3 a ha hn
    exact r3.tr ((old4 a (by rw [r3.1]; exact ha)).2.tr (RS_pR (fun z => ha (by rw [z]; exact haE))))
  have key := s_bpL (Q := Q) (x := x) (aC := aC) 8 0 (pR S4 aE 1 (some e1)) 72 972 rfl (by rw [ux.1]; exact x1) (by rw [ux.2.2.2.1, v5.2.2.2.1]; exact w2) (by rw [uC.1]; exact y5) (by rw [uC.2.1, v6.2.1]; exact w6) (fun c hc => by omega) (by decide) (by decide) (fun S' e9 k9 n9 c9 => ?_)
  · exact key
  · have r9 : ∀ a, sK (pR S4 aE 1 (some e1)) a ≠ 0 → sK (pR S4 aE 1 (some e1)) a ≠ 12 → RS (pR S4 aE 1 (some e1)) S' a := fun a h1 h2 => e9 a h1 (fun z => h2 (by rw [z, uC.1]; exact y5))
    have kx : sK (pR S4 aE 1 (some e1)) x = 8 := by rw [ux.1]; exact x1
    have rx := r9 x (by rw [kx]; decide) (by rw [kx]; decide)
    have rA := r9 aE (by rw [q3]; decide) (by rw [q3]; decide)
    refine h S' aE aC e0 e1 (ex5.tr e9 (fun _ _ z => z) (fun a ha z => by rw [z] at ha; exact absurd z2 ha)) ⟨⟨by rw [rx.1]; exact kx, by rw [rx.2.2.2.1, ux.2.2.2.1]; exact x2, by rw [rx.2.2.2.1, ux.2.2.2.1, v5.2.2.2.1]; exact w2, by rw [rA.1]; exact q3, by rw [rA.2.1]; exact q4, k9, n9, by rw [rA.2.2.2.1]; exact q1, by rw [rA.2.2.2.1]; exact q2, n01⟩, fun j => by rw [rx.2.2.1, ux.2.2.1, v5.2.2.1]; exact w7 j, ?_, ?_, c9⟩
    · exact E0_ext u0 (r9 e0 (by rw [u0.1.1]; decide) (by rw [u0.1.1]; decide)) (fun a ha => r9 a (by rcases ha with h | h | h <;> first | (rw [h]; decide) | (rw [h.1]; decide)) (by rcases ha with h | h | h <;> first | (rw [h]; decide) | (rw [h.1]; decide)))
    · exact E0_ext u1 (r9 e1 (by rw [u1.1.1]; decide) (by rw [u1.1.1]; decide)) (fun a ha => r9 a (by rcases ha with h | h | h <;> first | (rw [h]; decide) | (rw [h.1]; decide)) (by rcases ha with h | h | h <;> first | (rw [h]; decide) | (rw [h.1]; decide)))
