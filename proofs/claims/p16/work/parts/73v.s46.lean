/-! SIMULATION 46: the relation holds at the start -/
theorem fz0 {S : MM} {A : Nat → Nat} (hv : ∀ k ∈ DM, ∀ j, sI S (A k) j = fM 16 k j) (k : Nat) (h1 : k ∈ DM) (h2 : k ≠ 1) (h3 : k ≠ 2) (h4 : k ≠ 4) (h5 : k ≠ 11) (h6 : k ≠ 12) (h7 : k ≠ 21) (j : Nat) : sI S (A k) j = 0 := by
  rw [hv k h1 j]
  unfold fM f0M
  rw [if_neg (fun z => h4 z.1), if_neg (fun z => by rcases z.1 with q | q | q <;> contradiction), if_neg h2, if_neg h3]
theorem en_0 {S : MM} {x aE aC e0 e1 e : Nat} (hB : BQ0 S x aE aC e0 e1) (he : e < 2) : ∃ sys, EQ0 S (En (sR S) x e) sys ∧ sys = (if e = 0 then (10 : Int32) else 20) := by
  obtain ⟨⟨b1, b2, b3, b4, b5, b6, b7, b8, b9, b10⟩, hz, hE0, hE1, hC⟩ := hB
  have ea : ead (sR S) x = aE := by unfold ead; rw [b2]; rfl
  have : e = 0 ∨ e = 1 := by omega
  rcases this with rfl | rfl
  · have q : En (sR S) x 0 = e0 := by unfold En; rw [ea, b8]; rfl
    exact ⟨10, by rw [q]; exact hE0, rfl⟩
  · have q : En (sR S) x 1 = e1 := by unfold En; rw [ea, b9]; rfl
    exact ⟨20, by rw [q]; exact hE1, rfl⟩
theorem pt_0 {S : MM} {x e p : Nat} {sys : Int32} (h : EQ0 S (En (sR S) x e) sys) (hp : p < 8) : PQ0 S (Pt (sR S) x e p) sys (nI p) := by
  obtain ⟨hv, pa, h1, h2, h3, h4, _⟩ := h
  obtain ⟨q, q1, q2⟩ := h4 p hp
  have e1 : pad (sR S) x e = pa := by unfold pad; rw [h1]; rfl
  have e2 : Pt (sR S) x e p = q := by unfold Pt; rw [e1, q1]; rfl
  rw [e2]
  exact q2
theorem rp_0 {S : MM} {b aE aC e0 e1 x : Nat} {A : Nat → Nat} (hB : BQ0 S b aE aC e0 e1) (hv : ∀ k ∈ DM, ∀ j, sI S (A k) j = fM 16 k j) (hx : x < 16) : RP (sR S) b (sI S) (sI S) A x ∧ sI S (px (sR S) b x) 12 = nI 0 := by
  have z := fz0 hv
  obtain ⟨sys, hE, es⟩ := en_0 hB (show x / 8 < 2 by omega)
  obtain ⟨⟨p1, p2, p3, p4, p5, p6, p7, p8, p9, p10, p11, p12, p13, p14⟩, ⟨t, r0, t0⟩, ⟨u, r1, u0⟩, _⟩ := pt_0 hE (show x % 8 < 8 by omega)
  have eo : ox (sR S) b x = t := by show Ow (sR S) b (x / 8) (x % 8) = t; unfold Ow; rw [r0]; rfl
  have eq : qx (sR S) b x = u := by show Pa (sR S) b (x / 8) (x % 8) = u; unfold Pa; rw [r1]; rfl
  obtain ⟨a0, a1, a2, a3, a4, a5⟩ := t0
  obtain ⟨c0, c1, c2, c3, c4, c5⟩ := u0
  have z7 := z 7 (by decide) (by decide) (by decide) (by decide) (by decide) (by decide) (by decide)
  have z8 := z 8 (by decide) (by decide) (by decide) (by decide) (by decide) (by decide) (by decide)
  have z9 := z 9 (by decide) (by decide) (by decide) (by decide) (by decide) (by decide) (by decide)
  have z10 := z 10 (by decide) (by decide) (by decide) (by decide) (by decide) (by decide) (by decide)
  have z19 := z 19 (by decide) (by decide) (by decide) (by decide) (by decide) (by decide) (by decide)
  have z18 := z 18 (by decide) (by decide) (by decide) (by decide) (by decide) (by decide) (by decide)
  have z3 := z 3 (by decide) (by decide) (by decide) (by decide) (by decide) (by decide) (by decide)
  have z5 := z 5 (by decide) (by decide) (by decide) (by decide) (by decide) (by decide) (by decide)
  have z6 := z 6 (by decide) (by decide) (by decide) (by decide) (by decide) (by decide) (by decide)
  have v11 : sI S (A 11) x = -1 := by
    rw [hv 11 (by decide)]
    unfold fM
    rw [if_neg (fun z => absurd z.1 (by decide)), if_pos ⟨Or.inl rfl, by omega⟩]
  have v4 : sI S (A 4) x = 100 := by
    rw [hv 4 (by decide)]
    unfold fM
    rw [if_pos ⟨rfl, by omega⟩]
  have v1 : sI S (A 1) (x / 8) = sys := by
    rw [hv 1 (by decide), es]
    unfold fM f0M
    rw [if_neg (fun z => absurd z.1 (by decide)), if_neg (fun z => by rcases z.1 with q | q | q <;> contradiction), if_pos rfl]
    have : x / 8 = 0 ∨ x / 8 = 1 := by omega
    rcases this with q | q
    · rw [q]; rfl
    · rw [q]; rfl
  refine ⟨⟨⟨p2.trans v11.symm, p3.trans (z7 x).symm, p4.trans (z8 x).symm, p5.trans (z9 x).symm, p11.trans (z10 x).symm, p12.trans (z19 _).symm, p13.trans (z19 _).symm, p14.trans (z19 _).symm, ?_, ?_, ?_, ?_, ?_, ?_, ?_, ?_, ?_, ?_⟩, ⟨⟨0, by decide, z9 x⟩, fun _ => z9 x, fun q => ?_, 0, by decide, z18 _⟩, fun q => absurd (z7 x) q⟩, p8⟩
  · rw [eo, a1, v1]
  · rw [eo, a2, z3]
  · rw [eo, a3, v4]
  · rw [eo, a4]
  · rw [eo, a5, z3, z5, z6, z9]; decide
  · rw [eq, c1, z18]
  · rw [eq, c2, z18]
  · rw [eq, c3, z18]
  · rw [eq, c4, z18]
  · rw [eq, c5, z18]
  · rw [z9] at q
    exact absurd q (by decide)
theorem ln_0 {S : MM} {b aE aC e0 e1 c e : Nat} (hB : BQ0 S b aE aC e0 e1) (hc : c < 8) (he : e < 2) : (∀ j, sI S (Ln (sR S) b c e) j = 0) ∧ C0 S (Cb (sR S) b c) := by
  obtain ⟨⟨b1, b2, b3, b4, b5, b6, b7, b8, b9, b10⟩, hz, hE0, hE1, hC⟩ := hB
  obtain ⟨a, a1, a2⟩ := hC c hc
  have ea : cad (sR S) b = aC := by unfold cad; rw [b3]; rfl
  have eC : Cb (sR S) b c = a := by unfold Cb; rw [ea, a1]; rfl
  rw [eC]
  refine ⟨?_, a2⟩
  obtain ⟨_, _, ll, l1, l2, l3, l4⟩ := a2
  obtain ⟨l, l5, l6⟩ := l4 e he
  have el : Ln (sR S) b c e = l := by
    unfold Ln lad
    rw [eC, l1]
    show (sR S ll e).getD 0 = l
    rw [l5]
    rfl
  rw [el]
  exact l6.2
theorem NR_0 {S : MM} {b aE aC e0 e1 m : Nat} {A : Nat → Nat} (hB : BQ0 S b aE aC e0 e1) (h0 : ∀ j, sI S m j = 0) (hv : ∀ k ∈ DM, ∀ j, sI S (A k) j = fM 16 k j) : NRl (sR S) b m A (sI S) (sI S) 0 0 := by
  have z := fz0 hv
  have z24 := z 24 (by decide) (by decide) (by decide) (by decide) (by decide) (by decide) (by decide)
  have z25 := z 25 (by decide) (by decide) (by decide) (by decide) (by decide) (by decide) (by decide)
  have cn : ∀ c e, c < 8 → e < 2 → CN (sI S) (sR S) b c e = [] := fun c e hc he => by
    unfold CN
    rw [(ln_0 hB hc he).1 2]
    rfl
  refine ⟨fun x hx => rp_0 hB hv hx, fun c e hc he => ⟨cn c e hc he, ?_, 0, by decide, (ln_0 hB hc he).1 2⟩, fun c e hc he => ?_, ⟨hB.2.1 2, h0 43, h0 32⟩, fun e he => ?_, (BI_0 h0 hv).1.2.1, ⟨fun c hc => ?_, fun e p he hp => ?_, fun c hc => ?_⟩, fun c hc => ⟨Or.inl (z25 c), fun q => absurd (z25 c) q⟩, fun c hc q => absurd (z24 c) q, fun t ht => absurd ht (by omega), fun x hx _ => ⟨z 8 (by decide) (by decide) (by decide) (by decide) (by decide) (by decide) (by decide) x, fun k _ => z 18 (by decide) (by decide) (by decide) (by decide) (by decide) (by decide) (by decide) _⟩⟩
  · rw [(ln_0 hB hc he).1 6, z 26 (by decide) (by decide) (by decide) (by decide) (by decide) (by decide) (by decide)]
  · rw [cn c e hc he]
    exact ⟨fun q hq => absurd hq List.not_mem_nil, List.Pairwise.nil⟩
  · obtain ⟨sys, hE, es⟩ := en_0 hB he
    obtain ⟨⟨k1, k2, k3, _⟩, _⟩ := hE
    rw [k2, k3, hv 1 (by decide), hv 2 (by decide), es]
    have : e = 0 ∨ e = 1 := by omega
    rcases this with rfl | rfl
    · exact ⟨rfl, rfl⟩
    · exact ⟨rfl, rfl⟩
  · show sI S (Cb (sR S) b c) 3 = _
    rw [(ln_0 hB hc (show 0 < 2 by decide)).2.1.2.1, z25]
  · show sI S (Pt (sR S) b e p) 2 = _
    have q := (rp_0 hB hv (show 8 * e + p < 16 by omega)).1.1.1
    have e1 : px (sR S) b (8 * e + p) = Pt (sR S) b e p := by
      show Pt (sR S) b ((8 * e + p) / 8) ((8 * e + p) % 8) = _
      rw [show (8 * e + p) / 8 = e by omega, show (8 * e + p) % 8 = p by omega]
    rw [← e1]
    exact q
  · obtain ⟨_, _, _, pp, q1, q2, q3, q4, q5⟩ := (ln_0 hB hc (show 0 < 2 by decide)).2.1
    have ep : ppd (sR S) b c = pp := by unfold ppd; rw [q1]; rfl
    refine Or.inl ⟨z24 c, ?_, ?_⟩
    · show sR S (ppd (sR S) b c) 0 = none
      rw [ep]; exact q4
    · show sR S (ppd (sR S) b c) 1 = none
      rw [ep]; exact q5
theorem GN_0 {S : MM} {x aE aC e0 e1 m out : Nat} {A : Nat → Nat} (hT : TY S) (ir : IR S) (hM : MS S m A) (o1 : sK S out = 18) (o2 : sN S out = 1) (hO : OC S) (hB : BQ0 S x aE aC e0 e1) (h0 : ∀ j, sI S m j = 0) (hv : ∀ k ∈ DM, ∀ j, sI S (A k) j = fM 16 k j) : GN S x m out A 0 :=
  ⟨hT, ir, hB.1.1, o1, o2, hM, hO, 0, 0, 0, BI_0 h0 hv, NR_0 hB h0 hv, fun t ht => absurd ht (by omega), by decide, by decide⟩
