/-! SIMULATION 24: the relation between two ticks; a tick up to the telling -/
def bd (J : Mm) (A : Nat → Nat) (c : Nat) : Nat := if J (A 24) c = 0 then 1 else (J (A 23) c).toNatClampNeg
def RIj (J : Mm) (A : Nat → Nat) : Prop := RI (J (A 7)) (J (A 9)) (J (A 11)) (J (A 22)) (J (A 23)) (J (A 24)) (J (A 25))
def RLj (R : Nat → Nat → Option Nat) (b : Nat) (I J : Mm) (A : Nat → Nat) : Prop := RelF (fun c => I (Cb R b c) 3) (fun e p => I (Pt R b e p) 2) (fun c j => R (ppd R b c) j) (Pt R b) (J (A 11)) (J (A 22)) (J (A 24)) (J (A 25))
/-- an up cable's ports are lit -/
def LTj (J : Mm) (A : Nat → Nat) : Prop := ∀ c, c < 8 → (J (A 25) c = 0 ∨ J (A 25) c = nI 1) ∧ (J (A 25) c ≠ 0 → ∀ e p, e < 2 → p < 8 → J (A 22) (2 * c + e) = nI p → ¬ J (A 7) (8 * e + p) = 0)
def DLj (R : Nat → Nat → Option Nat) (b : Nat) (I J : Mm) (A : Nat → Nat) : Prop := ∀ c, c < 8 → J (A 24) c ≠ 0 → I (Cb R b c) 2 = J (A 23) c
def UTj (J : Mm) (A : Nat → Nat) (nt : Nat) : Prop := ∀ t, t < nt → ∃ c, c < 8 ∧ J (A 27) t = nI c ∧ J (A 25) c ≠ 0
/-- a dark port has no timer and no partner -/
def DKj (J : Mm) (A : Nat → Nat) : Prop := ∀ x, x < 16 → J (A 7) x = 0 → J (A 8) x = 0 ∧ ∀ k, k < 5 → J (A 18) (5 * x + k) = 0
/-- the frames under way were given -/
def FRj (J : Mm) (A : Nat → Nat) (nt nf : Nat) : Prop := ∀ t, t < nt → ¬ J (A 30) t = -1 → (J (A 30) t).toNatClampNeg < nf
def NRl (R : Nat → Nat → Option Nat) (b m : Nat) (A : Nat → Nat) (I J : Mm) (cl nt : Nat) : Prop := (∀ x, x < 16 → RP R b I J A x ∧ I (px R b x) 12 = nI 0) ∧ LN R b I J A nt ∧ (∀ c e, c < 8 → e < 2 → DU (CN I R b c e) cl (cl + bd J A c)) ∧ (I b 2 = nI cl ∧ J m 43 = nI cl ∧ J m 32 = nI nt) ∧ (∀ e, e < 2 → I (En R b e) 1 = J (A 1) e ∧ I (En R b e) 2 = J (A 2) e) ∧ RIj J A ∧ RLj R b I J A ∧ LTj J A ∧ DLj R b I J A ∧ UTj J A nt ∧ DKj J A
theorem HT_of {J : Mm} {A : Nat → Nat} (h : RIj J A) : HT J A (bd J A) := by
  obtain ⟨r1, r2, r3, r4, r5⟩ := h
  refine ⟨fun x hx lit => ?_, fun x y c hx hy hc e hxc hyc => ?_, fun c hc => ?_⟩
  · obtain ⟨c, hc, ec, uc⟩ := r5 (x / 8) (x % 8) (by omega) (by omega) (Or.inl (by rw [show 8 * (x / 8) + x % 8 = x by omega]; exact lit))
    rw [show 8 * (x / 8) + x % 8 = x by omega] at ec
    have pc := r1 c hc uc
    obtain ⟨d, d1, d2, ed⟩ := r3 c hc pc
    refine ⟨c, hc, ec, ?_⟩
    unfold bd
    rw [if_neg pc, ed, nI_cl (by omega)]
  · have q : ∀ x, x < 16 → J (A 11) x = nI c → J (A 22) (2 * c + x / 8) = nI (x % 8) := fun x hx h => by
      rcases r4 (x / 8) (x % 8) (by omega) (by omega) with z | ⟨c', hc', e', _, po⟩
      · rw [show 8 * (x / 8) + x % 8 = x by omega, h] at z
        exact absurd z (nI_m1 (by omega))
      · rw [show 8 * (x / 8) + x % 8 = x by omega, h] at e'
        have := nI_inj (by omega) (by omega) e'
        subst this
        exact po
    have a := q x hx hxc
    have b := q y hy hyc
    rw [e] at a
    have := nI_inj (by omega) (by omega) (a.symm.trans b)
    omega
  · unfold bd
    by_cases pc : J (A 24) c = 0
    · rw [if_pos pc]; omega
    · rw [if_neg pc]
      obtain ⟨d, d1, d2, ed⟩ := r3 c hc pc
      rw [ed, nI_cl (by omega)]
      omega
theorem UCb_of {R : Nat → Nat → Option Nat} {b c : Nat} {I J : Mm} {A : Nat → Nat} (hc : c < 8) (rp : ∀ x, x < 16 → RP R b I J A x) (ri : RIj J A) (rl : RLj R b I J A) (lt : LTj J A) (u : J (A 25) c ≠ 0) : ∃ y, UCb R b I J A c y := by
  have pc := ri.1 c hc u
  rcases rl.2.2 c hc with ⟨z, _, _⟩ | ⟨_, p0, p1, h0, h1, e0, e1, q0, q1⟩
  · exact absurd z pc
  · have q0 : R (ppd R b c) 0 = some (Pt R b 0 p0) := q0
    have q1 : R (ppd R b c) 1 = some (Pt R b 1 p1) := q1
    have e0 : J (A 22) (2 * c) = nI p0 := e0
    have x1 : px R b (8 + p1) = Pt R b 1 p1 := by show Pt R b ((8 + p1) / 8) ((8 + p1) % 8) = _; rw [show (8 + p1) / 8 = 1 by omega, show (8 + p1) % 8 = p1 by omega]
    have x0 : px R b p0 = Pt R b 0 p0 := by show Pt R b (p0 / 8) (p0 % 8) = _; rw [show p0 / 8 = 0 by omega, show p0 % 8 = p0 by omega]
    have k1 : ¬ I (px R b (8 + p1)) 3 = 0 := by
      rw [(rp (8 + p1) (by omega)).1.2.1]
      exact (lt c hc).2 u 1 p1 (by decide) h1 e1
    have k0 : ¬ I (px R b p0) 3 = 0 := by
      rw [(rp p0 (by omega)).1.2.1]
      have := (lt c hc).2 u 0 p0 (by decide) h0 e0
      rw [show 8 * 0 + p0 = p0 by omega] at this
      exact this
    refine ⟨fun e => if e = 0 then 8 + p1 else p0, ?_, ⟨(by rw [q0]; simp), (by rw [q1]; simp)⟩, fun e he => ?_, ?_, fun e he => ?_, fun e he => ?_, fun e he => ?_⟩
    · have : I (Cb R b c) 3 = J (A 25) c := rl.1 c hc
      rw [this]; exact u
    · dsimp only; split <;> omega
    · show 8 + p1 ≠ p0
      omega
    · have : e = 0 ∨ e = 1 := by omega
      rcases this with rfl | rfl
      · show (R (ppd R b c) 1).getD 0 = px R b (8 + p1)
        rw [q1, x1]; rfl
      · show (R (ppd R b c) 0).getD 0 = px R b p0
        rw [q0, x0]; rfl
    · have : e = 0 ∨ e = 1 := by omega
      rcases this with rfl | rfl
      · show 8 * 1 + (J (A 22) (2 * c + 1)).toNatClampNeg = 8 + p1
        rw [e1, nI_cl (by omega)]
      · show 8 * 0 + (J (A 22) (2 * c + 0)).toNatClampNeg = p0
        rw [Nat.add_zero, e0, nI_cl (by omega)]
        omega
    · have : e = 0 ∨ e = 1 := by omega
      rcases this with rfl | rfl
      · exact k1
      · exact k0
theorem DCb_of {R : Nat → Nat → Option Nat} {b c nt : Nat} {I J : Mm} {A : Nat → Nat} (hc : c < 8) (rl : RLj R b I J A) (ut : UTj J A nt) (u : J (A 25) c = 0) : DCb R b I J A nt c := by
  refine ⟨Or.inl ?_, fun t ht z => ?_⟩
  · have : I (Cb R b c) 3 = J (A 25) c := rl.1 c hc
    rw [this]; exact u
  · obtain ⟨c', hc', e', u'⟩ := ut t ht
    rw [z] at e'
    have := nI_inj (by omega) (by omega) e'
    subst this
    exact u' u
theorem cx_of {R : Nat → Nat → Option Nat} {b m cl nt : Nat} {I J : Mm} {A : Nat → Nat} (h : NRl R b m A I J cl nt) : ∀ c, c < 8 → DCb R b I J A nt c ∨ ∃ y, UCb R b I J A c y := fun c hc => by
  obtain ⟨h1, h2, h3, h4, h5, h6, h7, h8, h9, h10, _⟩ := h
  by_cases u : J (A 25) c = 0
  · exact Or.inl (DCb_of hc h7 h10 u)
  · exact Or.inr (UCb_of hc (fun x hx => (h1 x hx).1) h6 h7 h8 u)
def mid8 (J : Mm) (m : Nat) (A : Nat → Nat) (nt nf : Nat) : Mm × Int32 := let I := J; let I2 := (f_X8_comes I m A nt nf).1; let z4 := g_X8_tick_7 m A nt nf 16 0  I2 (f_X8_comes I m A nt nf).2; let I13 := z4.1; let I15 := f_X8_chooses I13 m A 0; let I17 := f_X8_chooses I15 m A 1; let z19 := g_X8_tick_36 m A nt nf 16 0  I17 z4.2; let I28 := z19.1; let I30 := up2 I28 m 50 (nI 0); (I30, z19.2)
theorem tick_8 {J : Mm} {m nt nf : Nat} {A : Nat → Nat} : f_X8_tick J m A nt nf = g_X8_tick_60 m A nt nf 16 0 (mid8 J m A nt nf).1 (mid8 J m A nt nf).2 := by
  unfold f_X8_tick mid8
  dsimp only
theorem tick_mid {S : MM} {b m cl nt nf : Nat} {A : Nat → Nat} {I J : Mm} (hL : LY S b) (hO : OC S) (hA : AD m A) (hcl : cl < 1000000000) (s27 : ∀ t, ∃ k, k < 8 ∧ J (A 27) t = nI k) (s28 : ∀ t, ∃ e, e < 2 ∧ J (A 28) t = nI e) (l1 : ∀ c e, c < 8 → e < 2 → ∃ n, n < 8 ∧ I (Ln (sR S) b c e) 1 = nI n) (h : NRl (sR S) b m A I J cl nt) (hnt : nt + 16 ≤ 4000) : ∃ I3 w n, f_X7_runTick I (sR S) b = g_X7_runTick_15 (sR S) b 0 2 I3 w ∧ n ≤ nt ∧ PT S b m cl A (bd J A) (f_X7_stepAll I3 (sR S) b) (mid8 J m A nt nf).1 0 (f_X7_stepAll I3 (sR S) b) (mid8 J m A nt nf).1 ∧ TG (mid8 J m A nt nf).1 A n = (TG J A nt).filter (nd cl) ∧ (mid8 J m A nt nf).1 m 32 = nI n ∧ ((f_X7_stepAll I3 (sR S) b) b 2 = nI cl ∧ (mid8 J m A nt nf).1 m 43 = nI cl) ∧ (∀ e, e < 2 → (f_X7_stepAll I3 (sR S) b) (En (sR S) b e) 1 = (mid8 J m A nt nf).1 (A 1) e ∧ (f_X7_stepAll I3 (sR S) b) (En (sR S) b e) 2 = (mid8 J m A nt nf).1 (A 2) e) ∧ (∀ x, x < 16 → (((mid8 J m A nt nf).1 (A 7) x = 0) ↔ (J (A 7) x = 0))) ∧ (∀ c, c < 8 → (f_X7_stepAll I3 (sR S) b) (Cb (sR S) b c) = I (Cb (sR S) b c)) ∧ (∀ k j, dm k → ¬ wC k → k ≠ 9 → k ≠ 10 → k ≠ 12 → k ≠ 13 → k ≠ 19 → k ≠ 40 → (mid8 J m A nt nf).1 (A k) j = J (A k) j) ∧ (∀ x, x < 16 → J (A 7) x = 0 → (mid8 J m A nt nf).1 (A 8) x = J (A 8) x ∧ ∀ k, k < 5 → (mid8 J m A nt nf).1 (A 18) (5 * x + k) = J (A 18) (5 * x + k)) ∧ (∀ j, (mid8 J m A nt nf).1 (A 42) j = (f_X8_comes J m A nt nf).1 (A 42) j) ∧ (∀ j, j ≠ 32 → j ≠ 45 → j ≠ 49 → j ≠ 50 → (mid8 J m A nt nf).1 m j = J m j) ∧ ∀ z, NE (sR S) b z → (f_X7_stepAll I3 (sR S) b) z = (f_X7_bringAll I (sR S) b) z := by
  have cx := cx_of h
  obtain ⟨h1, h2, h3, ⟨h4a, h4b, h4c⟩, h5, h6, h7, h8, h9, h10, h11⟩ := h
  have hbd := (HT_of h6).2.2
  have T1 : f_X7_runTick I (sR S) b = g_X7_runTick_15 (sR S) b 2 0 (f_X7_ageAll (f_X7_bringAll I (sR S) b) (sR S) b) (nI (f_X7_strongerEnd (f_X7_ageAll (f_X7_bringAll I (sR S) b) (sR S) b) (sR S) b)) := rfl
  have T2 : mid8 J m A nt nf = (up2 (g_X8_tick_36 m A nt nf 16 0 (f_X8_chooses (f_X8_chooses (g_X8_tick_7 m A nt nf 16 0 (f_X8_comes J m A nt nf).1 (f_X8_comes J m A nt nf).2).1 m A 0) m A 1) (g_X8_tick_7 m A nt nf 16 0 (f_X8_comes J m A nt nf).1 (f_X8_comes J m A nt nf).2).2).1 m 50 (nI 0), (g_X8_tick_36 m A nt nf 16 0 (f_X8_chooses (f_X8_chooses (g_X8_tick_7 m A nt nf 16 0 (f_X8_comes J m A nt nf).1 (f_X8_comes J m A nt nf).2).1 m A 0) m A 1) (g_X8_tick_7 m A nt nf 16 0 (f_X8_comes J m A nt nf).1 (f_X8_comes J m A nt nf).2).2).2) := rfl
  rw [T1, T2]
  clear T1 T2
  obtain ⟨n, n1, n2, n3, n4, n5, n6, n7, n8, n9, n10⟩ := sim_comes (nf := nf) (Bc := fun c => cl + bd J A c) hL hO hA (fun c hc => by have := hbd c hc; omega) (by omega) h4a h4b s27 s28 h2 h3 l1 cx h1
  generalize (f_X8_comes J m A nt nf).2 = w1
  generalize (f_X8_comes J m A nt nf).1 = J1 at n2 n3 n4 n5 n9 n10 ⊢
  generalize f_X7_bringAll I (sR S) b = I1 at n4 n5 n6 n7 n8 ⊢
  obtain ⟨a1, a2, a3⟩ := sim_age (nt := nt) (nf := nf) (w := w1) hL hO hA n4
  have a7 := fun y => ages_7 (J := J1) (nt := nt) (nf := nf) (y := y) (w := w1) hA
  have a4 := fun k y hk h => ages_o (J := J1) (nt := nt) (nf := nf) (k := k) (y := y) (w := w1) hA hk h
  have adk := fun x h => ages_dk (J := J1) (nt := nt) (nf := nf) (x := x) (w := w1) hA h
  generalize (g_X8_tick_7 m A nt nf 16 0 J1 w1).2 = w2
  generalize (g_X8_tick_7 m A nt nf 16 0 J1 w1).1 = J2 at a1 a3 a4 a7 adk ⊢
  generalize f_X7_ageAll I1 (sR S) b = I2 at a1 a2 ⊢
  have e1 : ∀ e, e < 2 → I2 (En (sR S) b e) = I1 (En (sR S) b e) := fun e he => a2 _ (fun x hx => ⟨ne_k (ly_E hL he).2.1 (k_px hL hx) (by decide), ne_k (ly_E hL he).2.1 (k_ox hL hx) (by decide), ne_k (ly_E hL he).2.1 (k_qx hL hx) (by decide), ne_k (ly_E hL he).2.1 (k_lx hL hx) (by decide)⟩)
  have g12 : ∀ e, e < 2 → I2 (En (sR S) b e) 1 = J2 (A 1) e ∧ I2 (En (sR S) b e) 2 = J2 (A 2) e := fun e he => by
    rw [e1 e he, (n7.2.2.1 e he).1, (n7.2.2.1 e he).2, a4 1 e (by decide) (by decide), a4 2 e (by decide) (by decide), n9 1 e (by decide) (by decide), n9 2 e (by decide) (by decide)]
    exact h5 e he
  obtain ⟨I3, f1, f2, f3, f4, f5⟩ := sim_form hL hO hA a1 g12
  rw [f1]
  generalize f_X8_chooses (f_X8_chooses J2 m A 0) m A 1 = J3 at f2 f5 ⊢
  obtain ⟨s1, s2, s3⟩ := sim_step (nt := nt) (nf := nf) (w := w2) hL hO hA (fun x hx => ⟨(f2 x hx).1, (f2 x hx).2.1, (f2 x hx).2.2.1⟩)
  have s4 := fun k y hk h => steps_o (J := J3) (nt := nt) (nf := nf) (k := k) (y := y) (w := w2) hA hk h
  have s5 := fun e k (he : e < 2) (hk : k ≠ 8) => st_en (I := I3) (k := k) hL hO he hk
  refine ⟨I3, _, n, rfl, n1, ?_⟩
  generalize (g_X8_tick_36 m A nt nf 16 0 J3 w2).2 = w3
  generalize (g_X8_tick_36 m A nt nf 16 0 J3 w2).1 = J4 at s1 s3 s4 ⊢
  generalize f_X7_stepAll I3 (sR S) b = I4 at s1 s2 s5 ⊢
  show PT S b m cl A (bd J A) I4 (up2 J4 m 50 (nI 0)) 0 I4 (up2 J4 m 50 (nI 0)) ∧ _
  have jA : ∀ k j, dm k → up2 J4 m 50 (nI 0) (A k) j = J4 (A k) j := fun k j hk => mm_a hA hk
  have jm : ∀ j, j ≠ 50 → up2 J4 m 50 (nI 0) m j = J4 m j := fun j hj => mm_j hj
  generalize up2 J4 m 50 (nI 0) = J5 at jA jm ⊢
  show PT S b m cl A (bd J A) I4 J5 0 I4 J5 ∧ TG J5 A n = (TG J A nt).filter (nd cl) ∧ J5 m 32 = nI n ∧ (I4 b 2 = nI cl ∧ J5 m 43 = nI cl) ∧ (∀ e, e < 2 → I4 (En (sR S) b e) 1 = J5 (A 1) e ∧ I4 (En (sR S) b e) 2 = J5 (A 2) e) ∧ (∀ x, x < 16 → ((J5 (A 7) x = 0) ↔ (J (A 7) x = 0))) ∧ (∀ c, c < 8 → I4 (Cb (sR S) b c) = I (Cb (sR S) b c)) ∧ (∀ k j, dm k → ¬ wC k → k ≠ 9 → k ≠ 10 → k ≠ 12 → k ≠ 13 → k ≠ 19 → k ≠ 40 → J5 (A k) j = J (A k) j) ∧ (∀ x, x < 16 → J (A 7) x = 0 → J5 (A 8) x = J (A 8) x ∧ ∀ k, k < 5 → J5 (A 18) (5 * x + k) = J (A 18) (5 * x + k)) ∧ (∀ j, J5 (A 42) j = J1 (A 42) j) ∧ (∀ j, j ≠ 32 → j ≠ 45 → j ≠ 49 → j ≠ 50 → J5 m j = J m j) ∧ ∀ z, NE (sR S) b z → I4 z = I1 z
  have hi : ∀ k j, dm k → 22 ≤ k → k ≠ 40 → J5 (A k) j = J1 (A k) j := fun k j a c d => by
    rw [jA k j a, s4 k j a (by omega), f5.1 k j a (by omega) (by omega) d, a4 k j a (by omega)]
  have mm : ∀ j, j ≠ 50 → J5 m j = J1 m j := fun j hj => by rw [jm j hj, s3.2, f5.2, a3.2]
  have ne : ∀ z, NE (sR S) b z → I4 z = I1 z := fun z hz => by rw [s2 z hz, f3 z hz, a2 z hz.1]
  have lnn : LN (sR S) b I4 J5 A n := LN_c hL hO n5 ne hi
  have cnE : ∀ c e, c < 8 → e < 2 → CN I4 (sR S) b c e = CN I1 (sR S) b c e := fun c e hc he => CN_c (NE_lc hL hO hc he ne).1
  have t5 : TG J5 A n = (TG J A nt).filter (nd cl) := by
    rw [← n3]
    exact TG_c (fun t _ => tg_k (fun k hk => by
      have : ∀ k ∈ ([27, 28, 29, 30, 31] : List Nat), dm k ∧ 22 ≤ k ∧ k ≠ 40 := by decide
      funext j
      exact hi k j (this k hk).1 (this k hk).2.1 (this k hk).2.2))
  have r32 : J5 m 32 = nI n := (mm 32 (by decide)).trans n2
  refine ⟨⟨fun x hx => ⟨RP_g (s1 x hx).1 AG.rf (fun k j a _ _ => jA k j a), (s1 x hx).2⟩, ⟨n, r32, by omega, lnn⟩, fun c e hc he => ?_, ⟨rfl, fun _ _ => rfl, fun _ _ => rfl⟩, fun _ _ _ _ _ _ _ _ _ => rfl, fun _ _ _ => rfl⟩, t5, r32, ⟨?_, ?_⟩, fun e he => ⟨?_, ?_⟩, fun x hx => ?_, fun c hc => ?_, fun k j a w b1 b2 b3 b4 b5 b6 => ?_, fun x hx dk => ?_, fun j => hi 42 j (by decide) (by decide) (by decide), fun j b1 b2 b3 b4 => ?_, ne⟩
  · rw [cnE c e hc he]
    have d := (n6 c e hc he).1
    exact ⟨DU_w d (by omega), fun _ _ _ _ _ _ => d⟩
  · rw [ne b (ne_of hL hL.2 (by decide)), n7.1]; exact h4a
  · rw [mm 43 (by decide), n10 43 (by decide) (by decide) (by decide)]; exact h4b
  · rw [s5 e 1 he (by decide), f4 e he 1 (by decide), jA 1 e (by decide), s4 1 e (by decide) (by decide), f5.1 1 e (by decide) (by decide) (by decide) (by decide)]
    exact (g12 e he).1
  · rw [s5 e 2 he (by decide), f4 e he 2 (by decide), jA 2 e (by decide), s4 2 e (by decide) (by decide), f5.1 2 e (by decide) (by decide) (by decide) (by decide)]
    exact (g12 e he).2
  · rw [jA 7 x (by decide), s4 7 x (by decide) (by decide), f5.1 7 x (by decide) (by decide) (by decide) (by decide), a7 x, ← (n4 x hx).1.1.2.1, (n8 x hx).1, (h1 x hx).1.1.2.1]
  · rw [ne _ (ne_of hL (ly_C hL hc).2.1 (by decide)), n7.2.1 c hc]
  · rw [jA k j a, s4 k j a ⟨b1, b2, b5, b6⟩, f5.1 k j a b3 b4 b6, a4 k j a (by omega), n9 k j a w]
  · have r0 := (h1 x hx).1.1
    have r1 := (n4 x hx).1.1
    have d0 : I (px (sR S) b x) 3 = 0 := by rw [r0.2.1]; exact dk
    have ag := (n8 x hx).2 d0
    have d1 : J1 (A 7) x = 0 := by rw [← r1.2.1, ag.1]; exact d0
    obtain ⟨k8, k18⟩ := adk x d1
    refine ⟨?_, fun k hk => ?_⟩
    · rw [jA 8 x (by decide), s4 8 x (by decide) (by decide), f5.1 8 x (by decide) (by decide) (by decide) (by decide), k8, ← r1.2.2.1, ag.1, r0.2.2.1]
    · rw [jA 18 _ (by decide), s4 18 _ (by decide) (by decide), f5.1 18 _ (by decide) (by decide) (by decide) (by decide), k18 k hk]
      have ck : k = 0 ∨ k = 1 ∨ k = 2 ∨ k = 3 ∨ k = 4 := by omega
      obtain ⟨_, _, _, _, _, _, _, _, _, _, _, _, _, a0, a1', a2', a3', a4'⟩ := r0
      obtain ⟨_, _, _, _, _, _, _, _, _, _, _, _, _, b0, b1, b2, b3, b4⟩ := r1
      rw [ag.2.2.1] at b0 b1 b2 b3 b4
      rcases ck with rfl | rfl | rfl | rfl | rfl
      · exact b0.symm.trans a0
      · exact b1.symm.trans a1'
      · exact b2.symm.trans a2'
      · exact b3.symm.trans a3'
      · exact b4.symm.trans a4'
  · rw [mm j b4, n10 j b1 b2 b3]
