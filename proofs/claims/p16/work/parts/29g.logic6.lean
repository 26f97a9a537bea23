/-! THE REFERENCE'S MEMORY: field k of the object m is an array of kind kdM k, length lnM k, that holds f k; the arrays are apart, and none of them was there in S0 -/
def kdM (k : Nat) : Nat := if k = 5 ∨ k = 6 ∨ k = 13 ∨ k = 14 ∨ k = 15 ∨ k = 24 ∨ k = 25 ∨ k = 38 then 11 else 10
def lnM (k : Nat) : Nat := match k with
  | 1 => 2
  | 2 => 2
  | 18 => 80
  | 19 => 48
  | 20 => 80
  | 23 => 8
  | 24 => 8
  | 25 => 8
  | 27 => 4000
  | 28 => 4000
  | 29 => 4000
  | 30 => 4000
  | 31 => 40000
  | 33 => 4200
  | 34 => 4200
  | 35 => 4200
  | 36 => 4200
  | 37 => 4200
  | 38 => 4200
  | 40 => 2
  | 41 => 400
  | 42 => 2
  | _ => 16
def MI (S0 S : MM) (m : Nat) (D : List Nat) (f : Nat → Nat → Int32) : Prop := Ex S0 S (fun a => a = m) ∧ sK S m = 9 ∧ (∀ j, sI S m j = 0) ∧ (∀ k ∈ D, ∃ a, sR S m k = some a ∧ sK S a = kdM k ∧ sN S a = lnM k ∧ (∀ j, sI S a j = f k j) ∧ sK S0 a = 0 ∧ a ≠ m) ∧ ∀ k ∈ D, ∀ k' ∈ D, sR S m k = sR S m k' → k = k'
theorem MI_step {S0 S S2 : MM} {m a k : Nat} {D : List Nat} {f : Nat → Nat → Int32} (h : MI S0 S m D f) (ha : sK S a = 0) (hk : k ∉ D) (r : ∀ b, b ≠ a → RS S S2 b) (k2 : sK S2 a = kdM k) (n2 : sN S2 a = lnM k) (v2 : ∀ j, sI S2 a j = f k j) : MI S0 (pR S2 m k (some a)) m (k :: D) f := by
  obtain ⟨h1, h2, h3, h4, h5⟩ := h
  have nm : m ≠ a := fun z => by rw [← z, h2] at ha; cases ha
  have rm := r m nm
  have fr : sK S0 a = 0 := h1.fr ha (fun z => nm z.symm)
  refine ⟨fun b hb hn => (h1 b hb hn).tr ((r b (fun z => hb (by rw [z]; exact fr))).tr (RS_pR hn)), by rw [sK_pR, rm.1]; exact h2, fun j => by rw [sI_pR, rm.2.2.1]; exact h3 j, fun k' hk' => ?_, fun k1 hk1 k2' hk2 he => ?_⟩
  · by_cases hkk : k' = k
    · subst hkk
      exact ⟨a, by rw [sR_pR, up2_self], k2, n2, v2, fr, nm.symm⟩
    · have hk'' : k' ∈ D := by
        rcases List.mem_cons.mp hk' with z | z
        · exact absurd z hkk
        · exact z
      obtain ⟨b, b1, b2, b3, b4, b5, b6⟩ := h4 k' hk''
      have nb : b ≠ a := fun z => by rw [z, ha] at b2; unfold kdM at b2; split at b2 <;> cases b2
      have rb := r b nb
      exact ⟨b, by rw [sR_pR, up2_ne (fun z => hkk z.2), rm.2.2.2.1]; exact b1, by rw [sK_pR, rb.1]; exact b2, by rw [sN_pR, rb.2.1]; exact b3, fun j => by rw [sI_pR, rb.2.2.1]; exact b4 j, b5, b6⟩
  · have val : ∀ k', k' ∈ k :: D → k' ≠ k → ∃ b, sR (pR S2 m k (some a)) m k' = some b ∧ b ≠ a ∧ sR S m k' = some b ∧ k' ∈ D := by
      intro k' hk' hne
      have hk'' : k' ∈ D := by
        rcases List.mem_cons.mp hk' with z | z
        · exact absurd z hne
        · exact z
      obtain ⟨b, b1, b2, b3, b4, b5, b6⟩ := h4 k' hk''
      refine ⟨b, by rw [sR_pR, up2_ne (fun z => hne z.2), rm.2.2.2.1]; exact b1, (fun z => by rw [z, ha] at b2; unfold kdM at b2; split at b2 <;> cases b2), b1, hk''⟩
    have self : sR (pR S2 m k (some a)) m k = some a := by rw [sR_pR, up2_self]
    by_cases e1 : k1 = k <;> by_cases e2 : k2' = k
    · rw [e1, e2]
    · obtain ⟨b, c1, c2, -, -⟩ := val k2' hk2 e2
      rw [e1, self, c1] at he
      exact absurd (Option.some.inj he).symm c2
    · obtain ⟨b, c1, c2, -, -⟩ := val k1 hk1 e1
      rw [e2, self, c1] at he
      exact absurd (Option.some.inj he) c2
    · obtain ⟨b, c1, c2, c3, c4⟩ := val k1 hk1 e1
      obtain ⟨b', d1, d2, d3, d4⟩ := val k2' hk2 e2
      rw [c1, d1] at he
      exact h5 k1 c4 k2' d4 (by rw [c3, d3]; exact he)
theorem MI_w {S0 S : MM} {m a k i : Nat} {v : Int32} {D : List Nat} {f : Nat → Nat → Int32} (h : MI S0 S m D f) (hk : k ∈ D) (ha : sR S m k = some a) : MI S0 (pI S a i v) m D (up2 f k i v) := by
  obtain ⟨h1, h2, h3, h4, h5⟩ := h
  obtain ⟨a', a1, a2, a3, a4, a5, a6⟩ := h4 k hk
  cases Option.some.inj (a1.symm.trans ha)
  refine ⟨fun b hb hn => (h1 b hb hn).tr (RS_pI (fun z => hb (by rw [z]; exact a5))), h2, fun j => by rw [sI_pI, up2_ne (fun z => a6 z.1.symm)]; exact h3 j, fun k' hk' => ?_, h5⟩
  obtain ⟨b, b1, b2, b3, b4, b5, b6⟩ := h4 k' hk'
  refine ⟨b, b1, b2, b3, fun j => ?_, b5, b6⟩
  rw [sI_pI]
  by_cases hkk : k' = k
  · subst hkk
    cases Option.some.inj (b1.symm.trans ha)
    unfold up2
    by_cases hj : j = i
    · rw [if_pos ⟨rfl, hj⟩, if_pos ⟨rfl, hj⟩]
    · rw [if_neg (fun z => hj z.2), if_neg (fun z => hj z.2)]
      exact b4 j
  · have nb : b ≠ a := fun z => hkk (h5 k' hk' k hk (by rw [b1, ha, z]))
    rw [up2_ne (fun z => nb z.1), up2_ne (fun z => hkk z.1)]
    exact b4 j
def f0M (k j : Nat) : Int32 := if k = 1 then (if j = 0 then 10 else if j = 1 then 20 else 0) else if k = 2 then (if j < 2 then 8 else 0) else 0
theorem ev_arr {S0 S : MM} {m k kd c z : Nat} {n : Int32} {D : List Nat} {K : Kt} (h : MI S0 S m D f0M) (hk : k ∉ D) (h12 : k ≠ 1 ∧ k ≠ 2) (hkd : kd = kdM k) (hn : ¬ n < 0) (hN : n.toNatClampNeg = lnM k) (hB : n.toNatClampNeg ≤ 67108864) (hc : c + 1 ≤ 40) (hz : z + lnM k ≤ 82128) (hK : ∀ S', MI S0 S' m (k :: D) f0M → K [(0, .ref m)] [] S' (c + 1) (z + lnM k)) : nA kd 40 82128 (tF 8 k K) [(0, .ref m)] [.int n, .ref m] S c z := by
  refine And.intro hn (And.intro ⟨hB, hc, by rw [hN]; exact hz⟩ (fun a ha => And.intro ?_ ?_))
  · rw [sK_nw, va_up_ne _ _ (fun z => by rw [← z, h.2.1] at ha; cases ha)]
    exact h.2.1
  · rw [hN]
    refine hK _ (MI_step h ha hk (fun b hb => RS_nw hb) ?_ ?_ (fun j => ?_))
    · rw [sK_nw, va_up_self]; exact hkd
    · rw [sN_nw, va_up_self]
    · rw [sI_nw, cl2_self]
      unfold f0M
      rw [if_neg h12.1, if_neg h12.2]
def fM (i k j : Nat) : Int32 := if k = 4 ∧ j < i then 100 else if (k = 11 ∨ k = 12 ∨ k = 21) ∧ j < i then -1 else f0M k j
theorem fM_step (i : Nat) : up2 (up2 (up2 (up2 (fM i) 4 i 100) 11 i (-1)) 12 i (-1)) 21 i (-1) = fM (i + 1) := by
  funext k j
  unfold up2 fM
  by_cases e4 : k = 4
  · subst e4
    by_cases hj : j = i
    · subst hj; simp
    · simp [hj, show (j < i + 1 ↔ j < i) by omega]
  · by_cases e1 : k = 21
    · subst e1
      by_cases hj : j = i
      · subst hj; simp
      · simp [hj, show (j < i + 1 ↔ j < i) by omega]
    · by_cases e2 : k = 12
      · subst e2
        by_cases hj : j = i
        · subst hj; simp
        · simp [hj, show (j < i + 1 ↔ j < i) by omega]
      · by_cases e3 : k = 11
        · subst e3
          by_cases hj : j = i
          · subst hj; simp
          · simp [hj, show (j < i + 1 ↔ j < i) by omega]
        · simp [e4, e1, e2, e3]
def DM : List Nat := [42, 41, 40, 38, 37, 36, 35, 34, 33, 31, 30, 29, 28, 27, 26, 25, 24, 23, 22, 21, 20, 19, 18, 17, 16, 15, 14, 13, 12, 11, 10, 9, 8, 7, 6, 5, 4, 3, 2, 1]
theorem n16_ge {i : Nat} (h : i < 16) : ¬ (16 : Int32) ≤ nI i := nI_ge (b := 16) h (by decide)
set_option maxRecDepth 20000 in
theorem s_mdL {Q : Option Value → MM → Prop} {S0 : MM} {m : Nat} : ∀ (n i : Nat) (S : MM) (c z : Nat), i + n = 16 → MI S0 S m DM (fM i) → (∀ S', MI S0 S' m DM (fM 16) → Q none S') → wpn (kX8_init Q) (n + 2) 353 [(1, .int (nI i)), (0, .ref m)] [] S c z := by
  intro n
  induction n with
  | zero =>
    intro i S c z hi h K
    have e8 : i = 16 := by omega
    subst e8
    exact And.intro (fun _ => K S h) (fun h => absurd (by decide) h)
  | succ n ih =>
    intro i S c z hi h K
    have hi8 : i < 16 := by omega
    have hv : vp_in (nI i) 16 := in_nI hi8 (by decide)
    obtain ⟨a4, p4, q4, l4, -, -, o4⟩ := h.2.2.2.1 4 (by decide)
    obtain ⟨a1, p1, q1, l1, -, -, o1⟩ := h.2.2.2.1 11 (by decide)
    obtain ⟨a2, p2, q2, l2, -, -, o2⟩ := h.2.2.2.1 12 (by decide)
    obtain ⟨a3, p3, q3, l3, -, -, o3⟩ := h.2.2.2.1 21 (by decide)
    have hm := h.2.1
    have w := MI_w (i := i) (v := -1) (MI_w (i := i) (v := -1) (MI_w (i := i) (v := -1) (MI_w (i := i) (v := 100) h (k := 4) (by decide) p4) (k := 11) (by decide) p1) (k := 12) (by decide) p2) (k := 21) (by decide) p3
    rw [fM_step] at w
    have nx := ih (i + 1) _ c z (by omega) w K
    rw [← nI_1 i] at nx
    refine And.intro (fun h => absurd h (n16_ge hi8)) (fun _ => And.intro hm (useR p4 (And.intro q4 (And.intro (by show vp_in (nI i) (sN S a4); rw [l4]; exact hv) (And.intro hm (useR p1 (And.intro q1 (And.intro (by show vp_in (nI i) (sN S a1); rw [l1]; exact hv) (And.intro hm (useR p2 (And.intro q2 (And.intro (by show vp_in (nI i) (sN S a2); rw [l2]; exact hv) (And.intro hm (useR p3 (And.intro q3 (And.intro (by show vp_in (nI i) (sN S a3); rw [l3]; exact hv) ?_))))))))))))))))
    show wpn (kX8_init Q) (n + 2) 353 _ [] (pI (pI (pI (pI S a4 (nI i).toNatClampNeg 100) a1 (nI i).toNatClampNeg (-1)) a2 (nI i).toNatClampNeg (-1)) a3 (nI i).toNatClampNeg (-1)) _ _
    rw [cl_nI (by omega)]
    exact nx
set_option maxRecDepth 20000 in
set_option maxHeartbeats 2000000 in
theorem s_md0 {S : MM} {m : Nat} {Q : Option Value → MM → Prop} (hk : sK S m = 9) (hz : ∀ j, sI S m j = 0) (K : ∀ S', MI S S' m DM (fM 16) → Q none S') : wX8_init [.ref m] S Q := by
  refine Exists.intro 22 (And.intro (by decide) (And.intro ⟨by decide, by decide, by decide⟩ (fun a1 ha1 => ?_)))
  have h0 : MI S S m [] f0M := ⟨Ex.rf, hk, hz, (fun _ h => nomatch h), (fun _ h => nomatch h)⟩
  have n1 : m ≠ a1 := fun z => by rw [← z, hk] at ha1; cases ha1
  refine And.intro (by show sK (nw S a1 10 2) a1 = 10; rw [sK_nw, va_up_self]) (And.intro (by show vp_in 0 (sN (nw S a1 10 2) a1); rw [sN_nw, va_up_self]; exact in_0 (by decide)) (And.intro (by show sK (nw S a1 10 2) a1 = 10; rw [sK_nw, va_up_self]) (And.intro (by show vp_in 1 (sN (nw S a1 10 2) a1); rw [sN_nw, va_up_self]; exact in_nI (i := 1) (by decide) (by decide)) (And.intro (by show sK (nw S a1 10 2) m = 9; rw [sK_nw, va_up_ne _ _ n1]; exact hk) ?_))))
  have h1 : MI S (pR (pI (pI (nw S a1 10 2) a1 0 10) a1 1 20) m 1 (some a1)) m [1] f0M := MI_step h0 ha1 (by decide) (fun b hb => ((RS_nw hb).tr (RS_pI hb)).tr (RS_pI hb)) (by rw [sK_pI, sK_pI, sK_nw, va_up_self]; rfl) (by rw [sN_pI, sN_pI, sN_nw, va_up_self]; rfl) (fun j => by
    rw [sI_pI, sI_pI, sI_nw]
    unfold up2 f0M
    rw [cl2_self]
    by_cases e0 : j = 0
    · subst e0; simp
    · by_cases e1 : j = 1
      · subst e1; simp
      · simp [e0, e1])
  show ldA 0 _ [(0, .ref m)] [] (pR (pI (pI (nw S a1 10 2) a1 0 10) a1 1 20) m 1 (some a1)) 1 2
  generalize pR (pI (pI (nw S a1 10 2) a1 0 10) a1 1 20) m 1 (some a1) = S1 at h1 ⊢
  refine And.intro (by decide) (And.intro ⟨by decide, by decide, by decide⟩ (fun a2 ha2 => ?_))
  have n2 : m ≠ a2 := fun z => by rw [← z, h1.2.1] at ha2; cases ha2
  refine And.intro (by show sK (nw S1 a2 10 2) a2 = 10; rw [sK_nw, va_up_self]) (And.intro (by show vp_in 0 (sN (nw S1 a2 10 2) a2); rw [sN_nw, va_up_self]; exact in_0 (by decide)) (And.intro (by show sK (nw S1 a2 10 2) a2 = 10; rw [sK_nw, va_up_self]) (And.intro (by show vp_in 1 (sN (nw S1 a2 10 2) a2); rw [sN_nw, va_up_self]; exact in_nI (i := 1) (by decide) (by decide)) (And.intro (by show sK (nw S1 a2 10 2) m = 9; rw [sK_nw, va_up_ne _ _ n2]; exact h1.2.1) ?_))))
  have h2 : MI S (pR (pI (pI (nw S1 a2 10 2) a2 0 8) a2 1 8) m 2 (some a2)) m [2, 1] f0M := MI_step h1 ha2 (by decide) (fun b hb => ((RS_nw hb).tr (RS_pI hb)).tr (RS_pI hb)) (by rw [sK_pI, sK_pI, sK_nw, va_up_self]; rfl) (by rw [sN_pI, sN_pI, sN_nw, va_up_self]; rfl) (fun j => by
    rw [sI_pI, sI_pI, sI_nw]
    unfold up2 f0M
    rw [cl2_self]
    by_cases e0 : j = 0
    · subst e0; simp
    · by_cases e1 : j = 1
      · subst e1; simp
      · simp [e0, e1, show ¬ j < 2 by omega])
  show ldA 0 _ [(0, .ref m)] [] (pR (pI (pI (nw S1 a2 10 2) a2 0 8) a2 1 8) m 2 (some a2)) 2 4
  generalize pR (pI (pI (nw S1 a2 10 2) a2 0 8) a2 1 8) m 2 (some a2) = S2 at h2 ⊢
  refine ev_arr (k := 3) (n := 16) (c := 2) (z := 4) h2 (by decide) (by decide) rfl (by decide) (by decide) (by decide) (by decide) (by decide) (fun S3 h3 => ?_)
  refine ev_arr (k := 4) (n := 16) (c := 3) (z := 20) h3 (by decide) (by decide) rfl (by decide) (by decide) (by decide) (by decide) (by decide) (fun S4 h4 => ?_)
  refine ev_arr (k := 5) (n := 16) (c := 4) (z := 36) h4 (by decide) (by decide) rfl (by decide) (by decide) (by decide) (by decide) (by decide) (fun S5 h5 => ?_)
  refine ev_arr (k := 6) (n := 16) (c := 5) (z := 52) h5 (by decide) (by decide) rfl (by decide) (by decide) (by decide) (by decide) (by decide) (fun S6 h6 => ?_)
  refine ev_arr (k := 7) (n := 16) (c := 6) (z := 68) h6 (by decide) (by decide) rfl (by decide) (by decide) (by decide) (by decide) (by decide) (fun S7 h7 => ?_)
  refine ev_arr (k := 8) (n := 16) (c := 7) (z := 84) h7 (by decide) (by decide) rfl (by decide) (by decide) (by decide) (by decide) (by decide) (fun S8 h8 => ?_)
  refine ev_arr (k := 9) (n := 16) (c := 8) (z := 100) h8 (by decide) (by decide) rfl (by decide) (by decide) (by decide) (by decide) (by decide) (fun S9 h9 => ?_)
  refine ev_arr (k := 10) (n := 16) (c := 9) (z := 116) h9 (by decide) (by decide) rfl (by decide) (by decide) (by decide) (by decide) (by decide) (fun S10 h10 => ?_)
  refine ev_arr (k := 11) (n := 16) (c := 10) (z := 132) h10 (by decide) (by decide) rfl (by decide) (by decide) (by decide) (by decide) (by decide) (fun S11 h11 => ?_)
  refine ev_arr (k := 12) (n := 16) (c := 11) (z := 148) h11 (by decide) (by decide) rfl (by decide) (by decide) (by decide) (by decide) (by decide) (fun S12 h12 => ?_)
  refine ev_arr (k := 13) (n := 16) (c := 12) (z := 164) h12 (by decide) (by decide) rfl (by decide) (by decide) (by decide) (by decide) (by decide) (fun S13 h13 => ?_)
  refine ev_arr (k := 14) (n := 16) (c := 13) (z := 180) h13 (by decide) (by decide) rfl (by decide) (by decide) (by decide) (by decide) (by decide) (fun S14 h14 => ?_)
  refine ev_arr (k := 15) (n := 16) (c := 14) (z := 196) h14 (by decide) (by decide) rfl (by decide) (by decide) (by decide) (by decide) (by decide) (fun S15 h15 => ?_)
  refine ev_arr (k := 16) (n := 16) (c := 15) (z := 212) h15 (by decide) (by decide) rfl (by decide) (by decide) (by decide) (by decide) (by decide) (fun S16 h16 => ?_)
  refine ev_arr (k := 17) (n := 16) (c := 16) (z := 228) h16 (by decide) (by decide) rfl (by decide) (by decide) (by decide) (by decide) (by decide) (fun S17 h17 => ?_)
  refine ev_arr (k := 18) (n := 80) (c := 17) (z := 244) h17 (by decide) (by decide) rfl (by decide) (by decide) (by decide) (by decide) (by decide) (fun S18 h18 => ?_)
  refine ev_arr (k := 19) (n := 48) (c := 18) (z := 324) h18 (by decide) (by decide) rfl (by decide) (by decide) (by decide) (by decide) (by decide) (fun S19 h19 => ?_)
  refine ev_arr (k := 20) (n := 80) (c := 19) (z := 372) h19 (by decide) (by decide) rfl (by decide) (by decide) (by decide) (by decide) (by decide) (fun S20 h20 => ?_)
  refine ev_arr (k := 21) (n := 16) (c := 20) (z := 452) h20 (by decide) (by decide) rfl (by decide) (by decide) (by decide) (by decide) (by decide) (fun S21 h21 => ?_)
  refine ev_arr (k := 22) (n := 16) (c := 21) (z := 468) h21 (by decide) (by decide) rfl (by decide) (by decide) (by decide) (by decide) (by decide) (fun S22 h22 => ?_)
  refine ev_arr (k := 23) (n := 8) (c := 22) (z := 484) h22 (by decide) (by decide) rfl (by decide) (by decide) (by decide) (by decide) (by decide) (fun S23 h23 => ?_)
  refine ev_arr (k := 24) (n := 8) (c := 23) (z := 492) h23 (by decide) (by decide) rfl (by decide) (by decide) (by decide) (by decide) (by decide) (fun S24 h24 => ?_)
  refine ev_arr (k := 25) (n := 8) (c := 24) (z := 500) h24 (by decide) (by decide) rfl (by decide) (by decide) (by decide) (by decide) (by decide) (fun S25 h25 => ?_)
  refine ev_arr (k := 26) (n := 16) (c := 25) (z := 508) h25 (by decide) (by decide) rfl (by decide) (by decide) (by decide) (by decide) (by decide) (fun S26 h26 => ?_)
  refine ev_arr (k := 27) (n := 4000) (c := 26) (z := 524) h26 (by decide) (by decide) rfl (by decide) (by decide) (by decide) (by decide) (by decide) (fun S27 h27 => ?_)
  refine ev_arr (k := 28) (n := 4000) (c := 27) (z := 4524) h27 (by decide) (by decide) rfl (by decide) (by decide) (by decide) (by decide) (by decide) (fun S28 h28 => ?_)
  refine ev_arr (k := 29) (n := 4000) (c := 28) (z := 8524) h28 (by decide) (by decide) rfl (by decide) (by decide) (by decide) (by decide) (by decide) (fun S29 h29 => ?_)
  refine ev_arr (k := 30) (n := 4000) (c := 29) (z := 12524) h29 (by decide) (by decide) rfl (by decide) (by decide) (by decide) (by decide) (by decide) (fun S30 h30 => ?_)
  refine ev_arr (k := 31) (n := 40000) (c := 30) (z := 16524) h30 (by decide) (by decide) rfl (by decide) (by decide) (by decide) (by decide) (by decide) (fun S31 h31 => ?_)
  refine ev_arr (k := 33) (n := 4200) (c := 31) (z := 56524) h31 (by decide) (by decide) rfl (by decide) (by decide) (by decide) (by decide) (by decide) (fun S33 h33 => ?_)
  refine ev_arr (k := 34) (n := 4200) (c := 32) (z := 60724) h33 (by decide) (by decide) rfl (by decide) (by decide) (by decide) (by decide) (by decide) (fun S34 h34 => ?_)
  refine ev_arr (k := 35) (n := 4200) (c := 33) (z := 64924) h34 (by decide) (by decide) rfl (by decide) (by decide) (by decide) (by decide) (by decide) (fun S35 h35 => ?_)
  refine ev_arr (k := 36) (n := 4200) (c := 34) (z := 69124) h35 (by decide) (by decide) rfl (by decide) (by decide) (by decide) (by decide) (by decide) (fun S36 h36 => ?_)
  refine ev_arr (k := 37) (n := 4200) (c := 35) (z := 73324) h36 (by decide) (by decide) rfl (by decide) (by decide) (by decide) (by decide) (by decide) (fun S37 h37 => ?_)
  refine ev_arr (k := 38) (n := 4200) (c := 36) (z := 77524) h37 (by decide) (by decide) rfl (by decide) (by decide) (by decide) (by decide) (by decide) (fun S38 h38 => ?_)
  refine ev_arr (k := 40) (n := 2) (c := 37) (z := 81724) h38 (by decide) (by decide) rfl (by decide) (by decide) (by decide) (by decide) (by decide) (fun S40 h40 => ?_)
  refine ev_arr (k := 41) (n := 400) (c := 38) (z := 81726) h40 (by decide) (by decide) rfl (by decide) (by decide) (by decide) (by decide) (by decide) (fun S41 h41 => ?_)
  refine ev_arr (k := 42) (n := 2) (c := 39) (z := 82126) h41 (by decide) (by decide) rfl (by decide) (by decide) (by decide) (by decide) (by decide) (fun S42 h42 => ?_)
  refine s_mdL 16 0 _ 40 82128 rfl ?_ K
  have e0 : fM 0 = f0M := by
    funext k j
    unfold fM
    simp
  rw [e0]
  exact h42
