/-! SIMULATION 62: bundles: a whole tick -/
def BN (R : Nat → Nat → Option Nat) (b : Nat) (I J : Mm) (A : Nat → Nat) : Prop := ∀ x, x < 16 → J (A 9) x = nI 4 → I (px R b x) 10 = J (A 12) x ∧ ∃ k, k < 8 ∧ J (A 12) x = nI k
theorem tick_b {S : MM} {b m cl nt nf : Nat} {A : Nat → Nat} {I J : Mm} (hL : LY S b) (hO : OC S) (hA : AD m A) (hcl : cl < 1000000000) (s27 : ∀ t, ∃ k, k < 8 ∧ J (A 27) t = nI k) (s28 : ∀ t, ∃ e, e < 2 ∧ J (A 28) t = nI e) (l1 : ∀ c e, c < 8 → e < 2 → ∃ n, n < 8 ∧ I (Ln (sR S) b c e) 1 = nI n) (h : NRl (sR S) b m A I J cl nt) : BN (sR S) b (f_X7_runTick I (sR S) b) (f_X8_tick J m A nt nf).1 A := by
  have cx := cx_of h
  obtain ⟨h1, h2, h3, ⟨h4a, h4b, h4c⟩, h5, h6, h7, h8, h9, h10, h11⟩ := h
  have hbd := (HT_of h6).2.2
  have T1 : f_X7_runTick I (sR S) b = g_X7_runTick_15 (sR S) b 2 0 (f_X7_ageAll (f_X7_bringAll I (sR S) b) (sR S) b) (nI (f_X7_strongerEnd (f_X7_ageAll (f_X7_bringAll I (sR S) b) (sR S) b) (sR S) b)) := rfl
  have T2 : mid8 J m A nt nf = (up2 (g_X8_tick_36 m A nt nf 16 0 (f_X8_chooses (f_X8_chooses (g_X8_tick_7 m A nt nf 16 0 (f_X8_comes J m A nt nf).1 (f_X8_comes J m A nt nf).2).1 m A 0) m A 1) (g_X8_tick_7 m A nt nf 16 0 (f_X8_comes J m A nt nf).1 (f_X8_comes J m A nt nf).2).2).1 m 50 (nI 0), (g_X8_tick_36 m A nt nf 16 0 (f_X8_chooses (f_X8_chooses (g_X8_tick_7 m A nt nf 16 0 (f_X8_comes J m A nt nf).1 (f_X8_comes J m A nt nf).2).1 m A 0) m A 1) (g_X8_tick_7 m A nt nf 16 0 (f_X8_comes J m A nt nf).1 (f_X8_comes J m A nt nf).2).2).2) := rfl
  have end9 : ∀ k, (k = 9 ∨ k = 12) → ∀ x, (f_X8_tick J m A nt nf).1 (A k) x = (mid8 J m A nt nf).1 (A k) x := fun k hk x => by
    have hd : dm k := by omega
    rw [tick_8, fd_puts, (g60_0 hA).1 k x hd]
    have q1 : (fd (fun x J => f_putsW J m A x) 16 0 (mid8 J m A nt nf).1) (A k) = (mid8 J m A nt nf).1 (A k) := fd_keep (N := 16) (f := fun x J => f_putsW J m A x) (P := fun J' => J' (A k) = (mid8 J m A nt nf).1 (A k)) (fun i J' _ p => (nm_putsW (fun l hl z => by
      have hl' : dm l := (show ∀ l ∈ ([14, 16, 20, 21, 26, 27, 28, 29, 30, 31] : List Nat), dm l by decide) l hl
      have := hA.1 k l hd hl' z
      subst this
      simp at hl
      omega) (hA.2 k hd)).trans p) 16 0 _ rfl rfl
    rw [q1]
  intro x hx
  rw [end9 9 (by omega), end9 12 (by omega), T1, T2]
  clear T1 T2 end9
  obtain ⟨n, n1, n2, n3, n4, n5, n6, n7, n8, n9, n10⟩ := sim_comes (nf := nf) (Bc := fun c => cl + bd J A c) hL hO hA (fun c hc => by have := hbd c hc; omega) (by omega) h4a h4b s27 s28 h2 h3 l1 cx h1
  generalize (f_X8_comes J m A nt nf).2 = w1
  generalize (f_X8_comes J m A nt nf).1 = J1 at n2 n3 n4 n5 n9 n10 ⊢
  generalize f_X7_bringAll I (sR S) b = I1 at n4 n5 n6 n7 n8 ⊢
  obtain ⟨a1, a2, a3⟩ := sim_age (nt := nt) (nf := nf) (w := w1) hL hO hA n4
  have a4 := fun k y hk h => ages_o (J := J1) (nt := nt) (nf := nf) (k := k) (y := y) (w := w1) hA hk h
  generalize (g_X8_tick_7 m A nt nf 16 0 J1 w1).2 = w2
  generalize (g_X8_tick_7 m A nt nf 16 0 J1 w1).1 = J2 at a1 a3 a4 ⊢
  generalize f_X7_ageAll I1 (sR S) b = I2 at a1 a2 ⊢
  have e1 : ∀ e, e < 2 → I2 (En (sR S) b e) = I1 (En (sR S) b e) := fun e he => a2 _ (fun x hx => ⟨ne_k (ly_E hL he).2.1 (k_px hL hx) (by decide), ne_k (ly_E hL he).2.1 (k_ox hL hx) (by decide), ne_k (ly_E hL he).2.1 (k_qx hL hx) (by decide), ne_k (ly_E hL he).2.1 (k_lx hL hx) (by decide)⟩)
  have g12 : ∀ e, e < 2 → I2 (En (sR S) b e) 1 = J2 (A 1) e ∧ I2 (En (sR S) b e) 2 = J2 (A 2) e := fun e he => by
    rw [e1 e he, (n7.2.2.1 e he).1, (n7.2.2.1 e he).2, a4 1 e (by decide) (by decide), a4 2 e (by decide) (by decide), n9 1 e (by decide) (by decide), n9 2 e (by decide) (by decide)]
    exact h5 e he
  obtain ⟨I3, f1, f2, f3, f4, f5⟩ := sim_form hL hO hA a1 g12
  rw [f1]
  have ch := ch_all (J := J2) hA x hx
  generalize f_X8_chooses (f_X8_chooses J2 m A 0) m A 1 = J3 at f2 f5 ch ⊢
  obtain ⟨s1, s2, s3⟩ := sim_step (nt := nt) (nf := nf) (w := w2) hL hO hA (fun x hx => ⟨(f2 x hx).1, (f2 x hx).2.1, (f2 x hx).2.2.1⟩)
  have s4 := steps_o (J := J3) (nt := nt) (nf := nf) (k := 12) (y := x) (w := w2) hA (by decide) (by decide)
  obtain ⟨t1, t2⟩ := st_10 (I3 := I3) hL hO x hx
  have t3 := te_10 (I := f_X7_stepAll I3 (sR S) b) hL hO x hx
  have g0 := (g15_0 (R := sR S) (b := b) (I := I3) (w := nI (f_X7_strongerEnd I2 (sR S) b))).1 (px (sR S) b x) (ne_k (k_px hL hx) hL.2 (by decide))
  rw [g0]
  intro st
  have mA : ∀ k, dm k → ∀ y, (up2 (g_X8_tick_36 m A nt nf 16 0 J3 w2).1 m 50 (nI 0), (g_X8_tick_36 m A nt nf 16 0 J3 w2).2).1 (A k) y = (g_X8_tick_36 m A nt nf 16 0 J3 w2).1 (A k) y := fun k hk y => mm_a hA hk
  rw [mA 9 (by decide)] at st
  rw [mA 12 (by decide), s4, t3, t1, (f2 x hx).2.2.2]
  refine ⟨rfl, ?_⟩
  have st5 : (f_X7_stepAll I3 (sR S) b) (px (sR S) b x) 5 = nI 4 := (s1 x hx).1.1.2.2.2.1.trans st
  rcases t2 st5 with q | ⟨q1, q2⟩
  · rw [(f2 x hx).2.2.1] at q
    rcases ch with ⟨_, z⟩ | z
    · exact absurd z q
    · exact z
  · have rp := (f2 x hx).1
    have z7 : J3 (A 7) x = 0 := rp.1.2.1.symm.trans q1
    have z9 := rp.2.1.2.1 z7
    rw [rp.1.2.2.2.1, z9] at q2
    exact absurd q2 (by decide)
