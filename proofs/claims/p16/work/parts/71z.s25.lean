/-! SIMULATION 25: a whole tick -/
theorem g15_f {R : Nat → Nat → Option Nat} {b : Nat} {I : Mm} {w : Int32} : ∃ v u, (g_X7_runTick_15 R b 0 2 I w = up2 (up2 (f_X7_tellAll (f_X7_stepAll I R b) R b).1 b 2 ((f_X7_tellAll (f_X7_stepAll I R b) R b).1 b 2 + nI 1)) b 3 v) ∨ (g_X7_runTick_15 R b 0 2 I w = up2 (up2 (up2 (f_X7_tellAll (f_X7_stepAll I R b) R b).1 b 2 ((f_X7_tellAll (f_X7_stepAll I R b) R b).1 b 2 + nI 1)) b 3 v) b 6 u) := by
  rw [g_X7_runTick_15]
  dsimp only
  split
  · split
    · exact ⟨_, 0, Or.inl rfl⟩
    · split
      · exact ⟨_, _, Or.inr rfl⟩
      · exact ⟨_, 0, Or.inl rfl⟩
  · split
    · exact ⟨_, 0, Or.inl rfl⟩
    · split
      · exact ⟨_, _, Or.inr rfl⟩
      · exact ⟨_, 0, Or.inl rfl⟩
theorem g15_0 {R : Nat → Nat → Option Nat} {b : Nat} {I : Mm} {w : Int32} : (∀ z, z ≠ b → g_X7_runTick_15 R b 0 2 I w z = (f_X7_tellAll (f_X7_stepAll I R b) R b).1 z) ∧ g_X7_runTick_15 R b 0 2 I w b 2 = (f_X7_tellAll (f_X7_stepAll I R b) R b).1 b 2 + nI 1 := by
  obtain ⟨v, u, q | q⟩ := g15_f (R := R) (b := b) (I := I) (w := w)
  · rw [q]
    refine ⟨fun z hz => by rw [up2_row hz, up2_row hz], ?_⟩
    rw [up2_jn (by decide), up2_self]
  · rw [q]
    refine ⟨fun z hz => by rw [up2_row hz, up2_row hz, up2_row hz], ?_⟩
    rw [up2_jn (by decide), up2_jn (by decide), up2_self]
theorem g60_f {m nt nf i : Nat} {A : Nat → Nat} {J : Mm} {w : Int32} : ∃ v u, ((g_X8_tick_60 m A nt nf 0 i J w).1 = up2 (up2 J m 43 (J m 43 + nI 1)) m 44 v) ∨ ((g_X8_tick_60 m A nt nf 0 i J w).1 = up2 (up2 (up2 J m 43 (J m 43 + nI 1)) m 44 v) m 47 u) := by
  rw [g_X8_tick_60]
  dsimp only
  split
  · split
    · exact ⟨_, 0, Or.inl rfl⟩
    · split
      · exact ⟨_, _, Or.inr rfl⟩
      · exact ⟨_, 0, Or.inl rfl⟩
  · split
    · exact ⟨_, 0, Or.inl rfl⟩
    · split
      · exact ⟨_, _, Or.inr rfl⟩
      · exact ⟨_, 0, Or.inl rfl⟩
theorem g60_0 {m nt nf i : Nat} {A : Nat → Nat} {J : Mm} {w : Int32} (hA : AD m A) : (∀ k j, dm k → (g_X8_tick_60 m A nt nf 0 i J w).1 (A k) j = J (A k) j) ∧ (g_X8_tick_60 m A nt nf 0 i J w).1 m 43 = J m 43 + nI 1 ∧ ∀ j, j ≠ 43 → j ≠ 44 → j ≠ 47 → (g_X8_tick_60 m A nt nf 0 i J w).1 m j = J m j := by
  obtain ⟨v, u, q | q⟩ := g60_f (m := m) (nt := nt) (nf := nf) (i := i) (A := A) (J := J) (w := w)
  · rw [q]
    refine ⟨fun k j hk => by rw [mm_a hA hk, mm_a hA hk], ?_, fun j a b c => by rw [mm_j b, mm_j a]⟩
    rw [mm_j (by decide), up2_self]
  · rw [q]
    refine ⟨fun k j hk => by rw [mm_a hA hk, mm_a hA hk, mm_a hA hk], ?_, fun j a b c => by rw [mm_j c, mm_j b, mm_j a]⟩
    rw [mm_j (by decide), mm_j (by decide), up2_self]
theorem tg_mem {J : Mm} {A : Nat → Nat} {n : Nat} {P : (Nat → Int32) → Prop} (h : ∀ q ∈ TG J A n, P q) (t : Nat) (ht : t < n) : P (tg J A t) := h _ (List.mem_map.mpr ⟨t, List.mem_range.mpr ht, rfl⟩)
theorem tick_sim {S : MM} {b m cl nt nf : Nat} {A : Nat → Nat} {I J : Mm} (hL : LY S b) (hO : OC S) (hA : AD m A) (hcl : cl < 1000000000) (s27 : ∀ t, ∃ k, k < 8 ∧ J (A 27) t = nI k) (s28 : ∀ t, ∃ e, e < 2 ∧ J (A 28) t = nI e) (l1 : ∀ c e, c < 8 → e < 2 → ∃ n, n < 8 ∧ I (Ln (sR S) b c e) 1 = nI n) (h : NRl (sR S) b m A I J cl nt) (hnt : nt + 16 ≤ 4000) : ((∀ x, x < 16 → (¬ (mid8 J m A nt nf).1 (A 7) x = 0 ∨ (mid8 J m A nt nf).1 (A 9) x = nI 4) → cbl ((mid8 J m A nt nf).1 (A 11) x)) ∧ ∃ n, n + 16 ≤ 4000 ∧ (mid8 J m A nt nf).1 m 32 = nI n) ∧ ∃ nt' new, NRl (sR S) b m A (f_X7_runTick I (sR S) b) (f_X8_tick J m A nt nf).1 (cl + 1) nt' ∧ new.length ≤ 16 ∧ TG (f_X8_tick J m A nt nf).1 A nt' = (TG J A nt).filter (nd cl) ++ new ∧ (∀ q ∈ new, NWq J m A q) ∧ (∀ k j, dm k → ¬ wC k → k ≠ 9 → k ≠ 10 → k ≠ 12 → k ≠ 13 → k ≠ 14 → k ≠ 16 → k ≠ 19 → k ≠ 20 → k ≠ 21 → k ≠ 26 → k ≠ 40 → (f_X8_tick J m A nt nf).1 (A k) j = J (A k) j) ∧ (∀ j, (f_X8_tick J m A nt nf).1 (A 42) j = (f_X8_comes J m A nt nf).1 (A 42) j) ∧ (∀ j, j ≠ 32 → j ≠ 43 → j ≠ 44 → j ≠ 45 → j ≠ 47 → j ≠ 49 → j ≠ 50 → (f_X8_tick J m A nt nf).1 m j = J m j) ∧ FO S I (f_X7_runTick I (sR S) b) := by
  obtain ⟨I3, w, n, rt, hn, pt, t5, r32, ⟨ib, jb⟩, en, v7, cb, jk, dk5, j42, jm, nez⟩ := tick_mid (nf := nf) hL hO hA hcl s27 s28 l1 h hnt
  obtain ⟨h1, h2, h3, ⟨h4a, h4b, h4c⟩, h5, h6, h7, h8, h9, h10, h11⟩ := h
  rw [tick_8, rt]
  generalize (mid8 J m A nt nf).2 = w8
  generalize (mid8 J m A nt nf).1 = J5 at pt t5 r32 jb en v7 jk dk5 j42 jm ⊢
  have c11 : ∀ j, J5 (A 11) j = J (A 11) j := fun j => jk 11 j (by decide) (by decide) (by decide) (by decide) (by decide) (by decide) (by decide) (by decide)
  have c22 : ∀ j, J5 (A 22) j = J (A 22) j := fun j => jk 22 j (by decide) (by decide) (by decide) (by decide) (by decide) (by decide) (by decide) (by decide)
  have c23 : ∀ j, J5 (A 23) j = J (A 23) j := fun j => jk 23 j (by decide) (by decide) (by decide) (by decide) (by decide) (by decide) (by decide) (by decide)
  have c24 : ∀ j, J5 (A 24) j = J (A 24) j := fun j => jk 24 j (by decide) (by decide) (by decide) (by decide) (by decide) (by decide) (by decide) (by decide)
  have c25 : ∀ j, J5 (A 25) j = J (A 25) j := fun j => jk 25 j (by decide) (by decide) (by decide) (by decide) (by decide) (by decide) (by decide) (by decide)
  have hh := HT_of h6
  -- stage 4 is lit
  have s4 : ∀ x, x < 16 → J5 (A 9) x = nI 4 → ¬ J5 (A 7) x = 0 := fun x hx e z => by
    have := (pt.1 x hx).1.2.1.2.1 z
    rw [e] at this
    exact absurd this (by decide)
  have ri5 : RIj J5 A := by
    obtain ⟨r1, r2, r3, r4, r5⟩ := h6
    unfold RIj
    rw [show J5 (A 11) = J (A 11) from funext c11, show J5 (A 22) = J (A 22) from funext c22, show J5 (A 23) = J (A 23) from funext c23, show J5 (A 24) = J (A 24) from funext c24, show J5 (A 25) = J (A 25) from funext c25]
    refine ⟨r1, r2, r3, r4, fun e p he hp z => r5 e p he hp (Or.inl (fun y => ?_))⟩
    have k : ¬ J5 (A 7) (8 * e + p) = 0 := by
      rcases z with z | z
      · exact z
      · exact s4 _ (by omega) z
    exact k ((v7 _ (by omega)).mpr y)
  have ht5 : HT J5 A (bd J A) := by
    have q : bd J5 A = bd J A := by funext c; unfold bd; rw [c23, c24]
    rw [← q]
    exact HT_of ri5
  refine ⟨⟨fun x hx z => ?_, n, by omega, r32⟩, ?_⟩
  · have lit : ¬ J5 (A 7) x = 0 := by
      rcases z with z | z
      · exact z
      · exact s4 x hx z
    obtain ⟨c, hc, ec, _⟩ := ht5.1 x hx lit
    rw [ec]
    exact (show ∀ c, c < 8 → cbl (nI c) by decide +kernel) c hc
  -- the telling
  have tl := sim_tell hL hO hA ht5 hcl ib jb (fun x hx lit c hc ec => by
    rw [cb c hc, c23]
    have lit0 : ¬ J (A 7) x = 0 := fun z => lit ((v7 x hx).mpr z)
    obtain ⟨c', hc', ec', uc'⟩ := h6.2.2.2.2 (x / 8) (x % 8) (by omega) (by omega) (Or.inl (by rw [show 8 * (x / 8) + x % 8 = x by omega]; exact lit0))
    rw [show 8 * (x / 8) + x % 8 = x by omega, ← c11, ec] at ec'
    have := nI_inj (by omega) (by omega) ec'
    subst this
    exact h9 c hc (h6.1 c hc uc')) pt
  have pu := puts_tg (n0 := n) hA (by omega) r32 ht5.1
  rw [fd_puts]
  have ft := fo_tellAll (I := f_X7_stepAll I3 (sR S) b) hL
  have fb : FO S I (f_X7_bringAll I (sR S) b) := fo_bringAll hL 8 0 I rfl FO.rf
  obtain ⟨z1, z2⟩ := g15_0 (R := sR S) (b := b) (I := I3) (w := w)
  generalize g_X7_runTick_15 (sR S) b 0 2 I3 w = I7 at z1 z2 ⊢
  generalize (f_X7_tellAll (f_X7_stepAll I3 (sR S) b) (sR S) b).1 = I6 at tl z1 z2 ft
  generalize f_X7_stepAll I3 (sR S) b = I4 at pt ib en cb tl ft nez
  generalize fd (fun x J => f_putsW J m A x) 16 0 J5 = J6 at tl pu ⊢
  obtain ⟨y1, y2, y3⟩ := g60_0 (m := m) (nt := nt) (nf := nf) (i := 0 + 16) (A := A) (J := J6) (w := w8) hA
  generalize (g_X8_tick_60 m A nt nf 0 (0 + 16) J6 w8).1 = J7 at y1 y2 y3 ⊢
  obtain ⟨p1, ⟨nt', e32, hnt', ln'⟩, du', ⟨ib', icb', ien'⟩, jk', jm'⟩ := tl
  obtain ⟨⟨nt2, new, f32, hnt2, tg2, hl2, hq2⟩, _, _⟩ := pu
  have en2 : nt2 = nt' := nI_inj (by omega) (by omega) (f32.symm.trans e32)
  subst en2
  have nb : ∀ z k, sK S z = k → k ≠ 8 → I7 z = I6 z := fun z k hz hk => z1 z (ne_k hz hL.2 hk)
  have t7 : TG J7 A nt2 = TG J6 A nt2 := TG_c (fun t _ => tg_k (fun k hk => by
    have : ∀ k ∈ ([27, 28, 29, 30, 31] : List Nat), dm k := by decide
    funext j
    exact y1 k j (this k hk)))
  have jj : ∀ k j, dm k → k ≠ 14 → k ≠ 16 → k ≠ 20 → k ≠ 21 → k ≠ 26 → (k < 27 ∨ 31 < k) → J7 (A k) j = J5 (A k) j := fun k j a a1 a2 a3 a4 a5 a6 => (y1 k j a).trans (jk' k j a a1 a2 a3 a4 a5 a6)
  have d11 : ∀ j, J7 (A 11) j = J (A 11) j := fun j => (jj 11 j (by decide) (by decide) (by decide) (by decide) (by decide) (by decide) (by decide)).trans (c11 j)
  have d22 : ∀ j, J7 (A 22) j = J (A 22) j := fun j => (jj 22 j (by decide) (by decide) (by decide) (by decide) (by decide) (by decide) (by decide)).trans (c22 j)
  have d23 : ∀ j, J7 (A 23) j = J (A 23) j := fun j => (jj 23 j (by decide) (by decide) (by decide) (by decide) (by decide) (by decide) (by decide)).trans (c23 j)
  have d24 : ∀ j, J7 (A 24) j = J (A 24) j := fun j => (jj 24 j (by decide) (by decide) (by decide) (by decide) (by decide) (by decide) (by decide)).trans (c24 j)
  have d25 : ∀ j, J7 (A 25) j = J (A 25) j := fun j => (jj 25 j (by decide) (by decide) (by decide) (by decide) (by decide) (by decide) (by decide)).trans (c25 j)
  have d7 : ∀ j, J7 (A 7) j = J5 (A 7) j := fun j => jj 7 j (by decide) (by decide) (by decide) (by decide) (by decide) (by decide) (by decide)
  have d9 : ∀ j, J7 (A 9) j = J5 (A 9) j := fun j => jj 9 j (by decide) (by decide) (by decide) (by decide) (by decide) (by decide) (by decide)
  have bd7 : bd J7 A = bd J A := by funext c; unfold bd; rw [d23, d24]
  have tgE : TG J7 A nt2 = (TG J A nt).filter (nd cl) ++ new := by rw [t7, tg2, t5]
  have nwE : ∀ q ∈ new, NWq J m A q := fun q hq => by
    obtain ⟨x, c, hx, hc, lit, e11, q0, q1, q2, q3⟩ := hq2 q hq
    exact ⟨x, c, hx, hc, fun z => lit ((v7 x hx).mpr z), by rw [← c11]; exact e11, q0, q1, by rw [q2, jb, h4b, c23], q3⟩
  have lcE : ∀ c e, c < 8 → e < 2 → LC2 I6 I7 (sR S) b c e := fun c e hc he => by
    have eL := nb _ 4 (ly_N hL hc he).2.1 (by decide)
    exact ⟨by rw [eL], by rw [eL], fun s hs => ⟨by rw [nb _ 5 (ly_T hL hc he hs).2.1 (by decide)], nb _ 7 (ly_TO hL hc he hs).2.1 (by decide), nb _ 7 (ly_TP hL hc he hs).2.1 (by decide)⟩⟩
  refine ⟨nt2, new, ⟨fun x hx => ⟨RP_g (p1 x hx).1 ⟨nb _ 6 (k_px hL hx) (by decide), nb _ 7 (k_ox hL hx) (by decide), nb _ 7 (k_qx hL hx) (by decide), nb _ 7 (k_lx hL hx) (by decide)⟩ (fun k j a _ _ => y1 k j a), ?_⟩, fun c e hc he => ?_, fun c e hc he => ?_, ⟨?_, ?_, ?_⟩, fun e he => ?_, ?_, ?_, ?_, ?_, ?_, ?_⟩, hl2, tgE, nwE, fun k j a w b1 b2 b3 b4 b5 b6 b7 b8 b9 b10 b11 => ?_, fun j => ?_, fun j b1 b2 b3 b4 b5 b6 b7 => ?_, fun z hz => ?_⟩
  · rw [nb _ 6 (k_px hL hx) (by decide)]; exact (p1 x hx).2
  · obtain ⟨l1', l2', l3'⟩ := ln' c e hc he
    rw [CN_c (lcE c e hc he), nb _ 4 (ly_N hL hc he).2.1 (by decide), t7, y1 26 _ (by decide)]
    exact ⟨l1', l2', l3'⟩
  · rw [CN_c (lcE c e hc he), bd7]
    have := (du' c e hc he).1
    rw [show cl + 1 + bd J A c = cl + bd J A c + 1 by omega]
    exact this
  · rw [z2, ib', ib, nI_add]
  · rw [y2, jm' 43 (by decide) (by decide), jb, nI_add]
  · rw [y3 32 (by decide) (by decide) (by decide)]; exact e32
  · rw [nb _ 2 (ly_E hL he).2.1 (by decide), ien' e he, jj 1 e (by decide) (by decide) (by decide) (by decide) (by decide) (by decide) (by decide), jj 2 e (by decide) (by decide) (by decide) (by decide) (by decide) (by decide) (by decide)]
    exact en e he
  · unfold RIj at ri5 ⊢
    rw [show J7 (A 7) = J5 (A 7) from funext d7, show J7 (A 9) = J5 (A 9) from funext d9, show J7 (A 11) = J5 (A 11) from funext (fun j => (d11 j).trans (c11 j).symm), show J7 (A 22) = J5 (A 22) from funext (fun j => (d22 j).trans (c22 j).symm), show J7 (A 23) = J5 (A 23) from funext (fun j => (d23 j).trans (c23 j).symm), show J7 (A 24) = J5 (A 24) from funext (fun j => (d24 j).trans (c24 j).symm), show J7 (A 25) = J5 (A 25) from funext (fun j => (d25 j).trans (c25 j).symm)]
    exact ri5
  · unfold RLj
    rw [show J7 (A 11) = J (A 11) from funext d11, show J7 (A 22) = J (A 22) from funext d22, show J7 (A 24) = J (A 24) from funext d24, show J7 (A 25) = J (A 25) from funext d25]
    obtain ⟨r1, r2, r3⟩ := h7
    refine ⟨fun c hc => ?_, fun e p he hp => ?_, r3⟩
    · show I7 (Cb (sR S) b c) 3 = _
      rw [nb _ 1 (ly_C hL hc).2.1 (by decide), icb' c hc, cb c hc]
      exact r1 c hc
    · have hx : 8 * e + p < 16 := by omega
      have q := (p1 (8 * e + p) hx).1.1.1
      show I7 (Pt (sR S) b e p) 2 = _
      rw [nb _ 6 (ly_P hL he hp).2.1 (by decide), ← d11, y1 11 _ (by decide), ← q]
      show _ = I6 (Pt (sR S) b ((8 * e + p) / 8) ((8 * e + p) % 8)) 2
      rw [show (8 * e + p) / 8 = e by omega, show (8 * e + p) % 8 = p by omega]
  · refine fun c hc => ⟨by rw [d25]; exact (h8 c hc).1, fun u e p he hp po => ?_⟩
    rw [d25] at u
    rw [d22] at po
    rw [d7]
    exact fun z => (h8 c hc).2 u e p he hp po ((v7 _ (by omega)).mp z)
  · intro c hc u
    rw [d24] at u
    rw [nb _ 1 (ly_C hL hc).2.1 (by decide), icb' c hc, cb c hc, d23]
    exact h9 c hc u
  · have all : ∀ q ∈ TG J7 A nt2, ∃ c, c < 8 ∧ q 0 = nI c ∧ J (A 25) c ≠ 0 := fun q hq => by
      rw [tgE] at hq
      rcases List.mem_append.mp hq with hq | hq
      · obtain ⟨t, ht, rfl⟩ := List.mem_map.mp (List.mem_filter.mp hq).1
        exact h10 t (List.mem_range.mp ht)
      · obtain ⟨x, c, hx, hc, lit, e11, q0, _⟩ := nwE q hq
        obtain ⟨c', hc', ec', uc'⟩ := h6.2.2.2.2 (x / 8) (x % 8) (by omega) (by omega) (Or.inl (by rw [show 8 * (x / 8) + x % 8 = x by omega]; exact lit))
        rw [show 8 * (x / 8) + x % 8 = x by omega, e11] at ec'
        exact ⟨c', hc', q0.trans ec', uc'⟩
    intro t ht
    obtain ⟨c, hc, e0, u⟩ := tg_mem all t ht
    exact ⟨c, hc, e0, by rw [d25]; exact u⟩
  · intro x hx dk
    have d0 : J (A 7) x = 0 := (v7 x hx).mp (by rw [← d7]; exact dk)
    obtain ⟨k8, k18⟩ := dk5 x hx d0
    obtain ⟨z8, z18⟩ := h11 x hx d0
    refine ⟨?_, fun k hk => ?_⟩
    · rw [jj 8 x (by decide) (by decide) (by decide) (by decide) (by decide) (by decide) (by decide), k8]; exact z8
    · rw [jj 18 _ (by decide) (by decide) (by decide) (by decide) (by decide) (by decide) (by decide), k18 k hk]; exact z18 k hk
  · rw [jj k j a b5 b6 b8 b9 b10 (by omega), jk k j a w b1 b2 b3 b4 b7 b11]
  · rw [jj 42 j (by decide) (by decide) (by decide) (by decide) (by decide) (by decide) (by decide), j42 j]
  · rw [y3 j b2 b3 b5, jm' j b1 b7, jm j b1 b4 b6 b7]
  · rw [z1 z (fo_ne hz hL.2 (by decide) rfl), ft z hz, nez z ⟨fun x hx => ⟨fo_ne hz (k_px hL hx) (by decide) rfl, fo_ne hz (k_ox hL hx) (by decide) rfl, fo_ne hz (k_qx hL hx) (by decide) rfl, fo_ne hz (k_lx hL hx) (by decide) rfl⟩, fun e he => fo_ne hz (ly_E hL he).2.1 (by decide) rfl⟩]
    exact fb z hz
