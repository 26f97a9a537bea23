def xp_X8_frameComes_31 (Q : Option Value → MM → Prop) (S : MM) (m : Nat) (A : Nat → Nat) (f : Nat) (x : Nat) (nf : Nat) (cm : Nat) (i3 : Nat) (Fx : Nat) (z : (Nat → Nat → Int32)) : Prop := ∀ (n : Nat) (lv : Lv), Fx ≤ n → IM (wI S z) m A → sI (wI S z) m 39 = nI nf → sI (wI S z) (A 42) (x / 8) = nI cm →   lvg lv 0 = some (.ref m) → lvg lv 1 = some (.int (nI f)) → lvg lv 2 = some (.int (nI x)) → lvg lv 3 = some (.int (nI i3)) → wpn (kX8_frameComes Q) n 136 lv [] (wI S z) 0 0
def g_X8_frameComes_31 (m : Nat) (A : Nat → Nat) (f : Nat) (x : Nat) (nf : Nat) (cm : Nat) : Nat → Nat → Nat → (Nat → Nat → Int32) → ((Nat → Nat → Int32))
  | 0, i4, i3, I => I
  | r + 1, i4, i3, I => if (I (A 38) i4) = 0 then (g_X8_frameComes_31 m A f x nf cm r (i4 + 1) i3 I ) else (if (I (A 33) i4) = (I (A 33) f) then (if (I (A 34) i4) = (I (A 34) f) then (if (I (A 35) i4) = (I (A 35) f) then (if (I (A 37) i4) = (I (A 37) f) then (let I7 := up2 I m 49 ((I m 49) + (nI 1)); I7) else (g_X8_frameComes_31 m A f x nf cm r (i4 + 1) i3 I )) else (g_X8_frameComes_31 m A f x nf cm r (i4 + 1) i3 I )) else (g_X8_frameComes_31 m A f x nf cm r (i4 + 1) i3 I )) else (g_X8_frameComes_31 m A f x nf cm r (i4 + 1) i3 I ))
theorem y_X8_frameComes_31 {Q : Option Value → MM → Prop} {m : Nat} {A : Nat → Nat} {f : Nat} {x : Nat} {nf : Nat} {cm : Nat}  {Fx : Nat} (r : Nat) : ∀ {S : MM} {i3 : Nat}  {i4 n : Nat} {lv : Lv} (hM : MS S m A) (hf : f < nf) (hx : x < 16) (hnf : nf < 4201) (hcm : cm < 2147483000) (ir : IM S m A) (hi3 : i3 < 2) (q0 : sI S m 39 = nI nf) (q1 : sI S (A 42) (x / 8) = nI cm) (g0 : lvg lv 0 = some (.ref m)) (g1 : lvg lv 1 = some (.int (nI f))) (g2 : lvg lv 2 = some (.int (nI x))) (g3 : lvg lv 3 = some (.int (nI i3))) (g4 : lvg lv 4 = some (.int (nI i4)))    (hr : i4 + r = nf) (hn : Fx + 1 + r * 3 ≤ n) (K : xp_X8_frameComes_31 Q S m A f x nf cm i3 Fx (g_X8_frameComes_31 m A f x nf cm r i4 i3 (sI S) )), wpn (kX8_frameComes Q) n 31 lv [] S 0 0 := by
  induction r with
  | zero =>
    intro S i3  i4 n lv hM hf hx hnf hcm ir hi3 q0 q1 g0 g1 g2 g3 g4    hr hn K
    obtain ⟨d, hd, rfl⟩ : ∃ d, Fx ≤ d ∧ n = d + 1 := ⟨n - 1, by omega, by omega⟩
    unfold g_X8_frameComes_31 at K
    refine u_X8_frameComes_31 ?_
    unfold bX8_frameComes_31
    refine e_ldI g4 ?_
    refine e_ldA g0 ?_
    refine e_gV (v := nI nf) hM.1 q0 ?_
    refine e_ge (by omega) (by omega) (fun _ => ?_) (fun z => absurd z (by omega))
    exact K _ _ (by omega) ir q0 q1   g0 g1 g2 g3
  | succ r ih =>
    intro S i3  i4 n lv hM hf hx hnf hcm ir hi3 q0 q1 g0 g1 g2 g3 g4    hr hn K
    obtain ⟨d, hd, rfl⟩ : ∃ d, Fx + 1 + r * 3 ≤ d ∧ n = d + 3 := ⟨n - 3, by omega, by omega⟩
    unfold g_X8_frameComes_31 at K
    refine u_X8_frameComes_31 ?_
    unfold bX8_frameComes_31
    refine e_ldI g4 ?_
    refine e_ldA g0 ?_
    refine e_gV (v := nI nf) hM.1 q0 ?_
    refine e_ge (by omega) (by omega) (fun z => absurd z (by omega)) (fun _ => ?_)
    refine e_ldA g0 ?_
    refine e_gR hM.1 (hM.2.1 38 (by decide)).1 ?_
    refine e_ldI g4 ?_
    refine e_aE (N := 4200) (kdA (k := 38) hM (by decide) rfl) (lnA (k := 38) hM (by decide) rfl) (by omega) (by decide) ?_
    refine ⟨fun h1 => ?_, fun h1 => ?_⟩
    · replace K := kx_p h1 K
      refine u_X8_frameComes_130 ?_
      unfold bX8_frameComes_130
      refine e_inc g4 ?_
      exact ih hM hf hx hnf hcm ir (by omega) q0 q1 (lvg_ne g0 rfl (by decide)) (lvg_ne g1 rfl (by decide)) (lvg_ne g2 rfl (by decide)) (lvg_ne g3 rfl (by decide)) lvg_self    (by omega) (by omega) K
    · replace K := kx_n h1 K
      refine e_ldA g0 ?_
      refine e_gR hM.1 (hM.2.1 33 (by decide)).1 ?_
      refine e_ldI g4 ?_
      refine e_aE (N := 4200) (kdA (k := 33) hM (by decide) rfl) (lnA (k := 33) hM (by decide) rfl) (by omega) (by decide) ?_
      refine e_ldA g0 ?_
      refine e_gR hM.1 (hM.2.1 33 (by decide)).1 ?_
      refine e_ldI g1 ?_
      refine e_aE (N := 4200) (kdA (k := 33) hM (by decide) rfl) (lnA (k := 33) hM (by decide) rfl) (by omega) (by decide) ?_
      refine ⟨fun h2 => ?_, fun h2 => ?_⟩
      · replace K := kx_p h2 K
        refine e_ldA g0 ?_
        refine e_gR hM.1 (hM.2.1 34 (by decide)).1 ?_
        refine e_ldI g4 ?_
        refine e_aE (N := 4200) (kdA (k := 34) hM (by decide) rfl) (lnA (k := 34) hM (by decide) rfl) (by omega) (by decide) ?_
        refine e_ldA g0 ?_
        refine e_gR hM.1 (hM.2.1 34 (by decide)).1 ?_
        refine e_ldI g1 ?_
        refine e_aE (N := 4200) (kdA (k := 34) hM (by decide) rfl) (lnA (k := 34) hM (by decide) rfl) (by omega) (by decide) ?_
        refine ⟨fun h3 => ?_, fun h3 => ?_⟩
        · replace K := kx_p h3 K
          refine e_ldA g0 ?_
          refine e_gR hM.1 (hM.2.1 35 (by decide)).1 ?_
          refine e_ldI g4 ?_
          refine e_aE (N := 4200) (kdA (k := 35) hM (by decide) rfl) (lnA (k := 35) hM (by decide) rfl) (by omega) (by decide) ?_
          refine e_ldA g0 ?_
          refine e_gR hM.1 (hM.2.1 35 (by decide)).1 ?_
          refine e_ldI g1 ?_
          refine e_aE (N := 4200) (kdA (k := 35) hM (by decide) rfl) (lnA (k := 35) hM (by decide) rfl) (by omega) (by decide) ?_
          refine ⟨fun h4 => ?_, fun h4 => ?_⟩
          · replace K := kx_p h4 K
            refine e_ldA g0 ?_
            refine e_gR hM.1 (hM.2.1 37 (by decide)).1 ?_
            refine e_ldI g4 ?_
            refine e_aE (N := 4200) (kdA (k := 37) hM (by decide) rfl) (lnA (k := 37) hM (by decide) rfl) (by omega) (by decide) ?_
            refine e_ldA g0 ?_
            refine e_gR hM.1 (hM.2.1 37 (by decide)).1 ?_
            refine e_ldI g1 ?_
            refine e_aE (N := 4200) (kdA (k := 37) hM (by decide) rfl) (lnA (k := 37) hM (by decide) rfl) (by omega) (by decide) ?_
            refine ⟨fun h5 => ?_, fun h5 => ?_⟩
            · replace K := kx_p h5 K
              refine u_X8_frameComes_117 ?_
              unfold bX8_frameComes_117
              refine e_ldA g0 ?_
              refine e_duA ?_
              refine e_gE hM.1 ?_
              refine e_cN 1 rfl ?_
              refine e_bopE ?_
              refine e_mT hM ir hM.1 (fun N e => nomatch (show (none : Option Nat) = some N from e)) (fun ir6 => ?_)
              exact K _ _ (by omega) ir6 (rd_k q0 (by decide)) (rd_a q1 (hM.2.1 42 (by decide)).2.2.2)   g0 g1 g2 g3
            · replace K := kx_n h5 K
              refine u_X8_frameComes_114 ?_
              unfold bX8_frameComes_114
              refine u_X8_frameComes_130 ?_
              unfold bX8_frameComes_130
              refine e_inc g4 ?_
              exact ih hM hf hx hnf hcm ir (by omega) q0 q1 (lvg_ne g0 rfl (by decide)) (lvg_ne g1 rfl (by decide)) (lvg_ne g2 rfl (by decide)) (lvg_ne g3 rfl (by decide)) lvg_self    (by omega) (by omega) K
          · replace K := kx_n h4 K
            refine u_X8_frameComes_130 ?_
            unfold bX8_frameComes_130
            refine e_inc g4 ?_
            exact ih hM hf hx hnf hcm ir (by omega) q0 q1 (lvg_ne g0 rfl (by decide)) (lvg_ne g1 rfl (by decide)) (lvg_ne g2 rfl (by decide)) (lvg_ne g3 rfl (by decide)) lvg_self    (by omega) (by omega) K
        · replace K := kx_n h3 K
          refine u_X8_frameComes_130 ?_
          unfold bX8_frameComes_130
          refine e_inc g4 ?_
          exact ih hM hf hx hnf hcm ir (by omega) q0 q1 (lvg_ne g0 rfl (by decide)) (lvg_ne g1 rfl (by decide)) (lvg_ne g2 rfl (by decide)) (lvg_ne g3 rfl (by decide)) lvg_self    (by omega) (by omega) K
      · replace K := kx_n h2 K
        refine u_X8_frameComes_130 ?_
        unfold bX8_frameComes_130
        refine e_inc g4 ?_
        exact ih hM hf hx hnf hcm ir (by omega) q0 q1 (lvg_ne g0 rfl (by decide)) (lvg_ne g1 rfl (by decide)) (lvg_ne g2 rfl (by decide)) (lvg_ne g3 rfl (by decide)) lvg_self    (by omega) (by omega) K
def f_X8_frameComes (I : Nat → Nat → Int32) (m : Nat) (A : Nat → Nat) (f : Nat) (x : Nat) (nf : Nat) (cm : Nat) : Nat → Nat → Int32 := if (nI 3) ≤ (I (A 9) x) then (let z3 := g_X8_frameComes_31 m A f x nf cm (nf - (f + 1)) (f + 1) (x / 8) I ; let I15 := z3; let I17 := up2 I15 (A 38) f (nI 1); let I19 := up2 I17 (A 41) (4 * ((50 * (x / 8)) + (cm % 50))) (nI (x % 8)); let I21 := up2 I19 (A 41) ((4 * ((50 * (x / 8)) + (cm % 50))) + 1) (I19 (A 35) f); let I23 := up2 I21 (A 41) ((4 * ((50 * (x / 8)) + (cm % 50))) + 2) (I21 (A 36) f); let I25 := up2 I23 (A 41) ((4 * ((50 * (x / 8)) + (cm % 50))) + 3) (I23 m 43); let I27 := up2 I25 (A 42) (x / 8) (nI (cm + 1)); I27) else (let I29 := up2 I m 45 ((I m 45) + (nI 1)); I29)
theorem x_X8_frameComes {Q : Option Value → MM → Prop} {S : MM} {m : Nat} {A : Nat → Nat} {f : Nat} {x : Nat} {nf : Nat} {cm : Nat} (hM : MS S m A) (hf : f < nf) (hx : x < 16) (hnf : nf < 4201) (hcm : cm < 2147483000) (ir : IM S m A) (q0 : sI S m 39 = nI nf) (q1 : sI S (A 42) (x / 8) = nI cm)  (K : KVM m A Q S (f_X8_frameComes (sI S) m A f x nf cm)) : wX8_frameComes [.ref m, .int (nI f), .int (nI x)] S Q := by
  unfold f_X8_frameComes at K
  refine Exists.intro 12608 (u_X8_frameComes_0 ?_)
  unfold bX8_frameComes_0
  refine e_ldA rfl ?_
  refine e_gR hM.1 (hM.2.1 9 (by decide)).1 ?_
  refine e_ldI rfl ?_
  refine e_aE (N := 16) (kdA (k := 9) hM (by decide) rfl) (lnA (k := 9) hM (by decide) rfl) (by omega) (by decide) ?_
  refine e_cN 3 rfl ?_
  refine ⟨fun h1 => ?_, fun h1 => ?_⟩
  · replace K := kx_p h1 K
    refine u_X8_frameComes_21 ?_
    unfold bX8_frameComes_21
    refine e_ldI rfl ?_
    refine e_cN 8 rfl ?_
    refine e_div (by omega) (by decide) (by decide) ?_
    refine e_stI ?_
    refine e_ldI (lvg_ne rfl rfl (by decide)) ?_
    refine e_cN 1 rfl ?_
    refine e_add ?_
    refine e_stI ?_
    refine y_X8_frameComes_31 (Fx := 2) (nf - (f + 1)) hM hf hx hnf hcm ir (by omega) q0 q1 (lvg_ne (lvg_ne rfl rfl (by decide)) rfl (by decide)) (lvg_ne (lvg_ne rfl rfl (by decide)) rfl (by decide)) (lvg_ne (lvg_ne rfl rfl (by decide)) rfl (by decide)) (lvg_ne lvg_self rfl (by decide)) lvg_self    (by omega) (by omega) (fun n4 lv5 hn6 ir12 q13 q14   g8 g9 g10 g11 => ?_)
    obtain ⟨d7, rfl⟩ : ∃ d, n4 = d + 2 := ⟨n4 - 2, by omega⟩
    refine u_X8_frameComes_136 ?_
    unfold bX8_frameComes_136
    refine e_ldA g8 ?_
    refine e_gR hM.1 (hM.2.1 38 (by decide)).1 ?_
    refine e_ldI g9 ?_
    refine e_cN 1 rfl ?_
    refine e_mB (N := 4200) (k := 38) hM ir12 (by decide) (kdA (k := 38) hM (by decide) rfl) (lnA (k := 38) hM (by decide) rfl) (by omega) (by decide) (Or.inr rfl) (fun N e => nomatch (show (none : Option Nat) = some N from e)) (fun e => absurd e (by decide)) (fun ir16 => ?_)
    refine e_cN 4 rfl ?_
    refine e_cN 50 rfl ?_
    refine e_ldI g11 ?_
    refine e_mul ?_
    refine e_ldA g8 ?_
    refine e_gR hM.1 (hM.2.1 42 (by decide)).1 ?_
    refine e_ldI g11 ?_
    refine e_aV (N := 2) (v := nI cm) (kdA (k := 42) hM (by decide) rfl) (lnA (k := 42) hM (by decide) rfl) (by omega) (by decide) (rd_a q14 (ne_A hM (by decide) (by decide) (by decide))) ?_
    refine e_cN 50 rfl ?_
    refine e_rem (by omega) (by decide) (by decide) ?_
    refine e_add ?_
    refine e_mul ?_
    refine e_stI ?_
    refine e_ldA (lvg_ne g8 rfl (by decide)) ?_
    refine e_gR hM.1 (hM.2.1 41 (by decide)).1 ?_
    refine e_ldI lvg_self ?_
    refine e_ldI (lvg_ne g10 rfl (by decide)) ?_
    refine e_cN 8 rfl ?_
    refine e_rem (by omega) (by decide) (by decide) ?_
    refine e_mA (N := 400) (k := 41) hM ir16 (by decide) (kdA (k := 41) hM (by decide) rfl) (lnA (k := 41) hM (by decide) rfl) (by omega) (by decide) (fun N e => nomatch (show (none : Option Nat) = some N from e)) (fun e => absurd e (by decide)) (fun ir18 => ?_)
    refine e_ldA (lvg_ne g8 rfl (by decide)) ?_
    refine e_gR hM.1 (hM.2.1 41 (by decide)).1 ?_
    refine e_ldI lvg_self ?_
    refine e_cN 1 rfl ?_
    refine e_add ?_
    refine e_ldA (lvg_ne g8 rfl (by decide)) ?_
    refine e_gR hM.1 (hM.2.1 35 (by decide)).1 ?_
    refine e_ldI (lvg_ne g9 rfl (by decide)) ?_
    refine e_aE (N := 4200) (kdA (k := 35) hM (by decide) rfl) (lnA (k := 35) hM (by decide) rfl) (by omega) (by decide) ?_
    refine e_mA (N := 400) (k := 41) hM ir18 (by decide) (kdA (k := 41) hM (by decide) rfl) (lnA (k := 41) hM (by decide) rfl) (by omega) (by decide) (fun N e => nomatch (show (none : Option Nat) = some N from e)) (fun e => absurd e (by decide)) (fun ir20 => ?_)
    refine e_ldA (lvg_ne g8 rfl (by decide)) ?_
    refine e_gR hM.1 (hM.2.1 41 (by decide)).1 ?_
    refine e_ldI lvg_self ?_
    refine e_cN 2 rfl ?_
    refine e_add ?_
    refine e_ldA (lvg_ne g8 rfl (by decide)) ?_
    refine e_gR hM.1 (hM.2.1 36 (by decide)).1 ?_
    refine e_ldI (lvg_ne g9 rfl (by decide)) ?_
    refine e_aE (N := 4200) (kdA (k := 36) hM (by decide) rfl) (lnA (k := 36) hM (by decide) rfl) (by omega) (by decide) ?_
    refine e_mA (N := 400) (k := 41) hM ir20 (by decide) (kdA (k := 41) hM (by decide) rfl) (lnA (k := 41) hM (by decide) rfl) (by omega) (by decide) (fun N e => nomatch (show (none : Option Nat) = some N from e)) (fun e => absurd e (by decide)) (fun ir22 => ?_)
    refine u_X8_frameComes_202 ?_
    unfold bX8_frameComes_202
    refine e_ldA (lvg_ne g8 rfl (by decide)) ?_
    refine e_gR hM.1 (hM.2.1 41 (by decide)).1 ?_
    refine e_ldI lvg_self ?_
    refine e_cN 3 rfl ?_
    refine e_add ?_
    refine e_ldA (lvg_ne g8 rfl (by decide)) ?_
    refine e_gE hM.1 ?_
    refine e_mA (N := 400) (k := 41) hM ir22 (by decide) (kdA (k := 41) hM (by decide) rfl) (lnA (k := 41) hM (by decide) rfl) (by omega) (by decide) (fun N e => nomatch (show (none : Option Nat) = some N from e)) (fun e => absurd e (by decide)) (fun ir24 => ?_)
    refine e_ldA (lvg_ne g8 rfl (by decide)) ?_
    refine e_gR hM.1 (hM.2.1 42 (by decide)).1 ?_
    refine e_ldI (lvg_ne g11 rfl (by decide)) ?_
    refine e_du2 ?_
    refine e_aV (N := 2) (v := nI cm) (kdA (k := 42) hM (by decide) rfl) (lnA (k := 42) hM (by decide) rfl) (by omega) (by decide) (rd_a (rd_a (rd_a (rd_a (rd_a q14 (ne_A hM (by decide) (by decide) (by decide))) (ne_A hM (by decide) (by decide) (by decide))) (ne_A hM (by decide) (by decide) (by decide))) (ne_A hM (by decide) (by decide) (by decide))) (ne_A hM (by decide) (by decide) (by decide))) ?_
    refine e_cN 1 rfl ?_
    refine e_add ?_
    refine e_mA (N := 2) (k := 42) hM ir24 (by decide) (kdA (k := 42) hM (by decide) rfl) (lnA (k := 42) hM (by decide) rfl) (by omega) (by decide) (fun N e => nomatch (show (none : Option Nat) = some N from e)) (fun e => absurd e (by decide)) (fun ir26 => ?_)
    exact e_rV (K ir26)
  · replace K := kx_n h1 K
    refine e_ldA rfl ?_
    refine e_duA ?_
    refine e_gE hM.1 ?_
    refine e_cN 1 rfl ?_
    refine e_bopE ?_
    refine e_mT hM ir hM.1 (fun N e => nomatch (show (none : Option Nat) = some N from e)) (fun ir28 => ?_)
    exact e_rV (K ir28)
theorem nm_g_X8_frameComes_31 {m : Nat} {A : Nat → Nat} {f : Nat} {x : Nat} {nf : Nat} {cm : Nat} {z : Nat} (hz : ∀ k ∈ ([38, 41, 42] : List Nat), z ≠ A k) (hm : z ≠ m) : ∀ (r : Nat) {i : Nat} {i3 : Nat} {I : Nat → Nat → Int32} , (g_X8_frameComes_31 m A f x nf cm r i i3 I ) z = I z := by
  intro r
  induction r with
  | zero =>
    intros
    simp only [g_X8_frameComes_31]
    repeat' split
    all_goals simp only [up2_row (hz 38 (by decide)), up2_row (hz 41 (by decide)), up2_row (hz 42 (by decide)), up2_row hm]
  | succ r ih =>
    intros
    simp only [g_X8_frameComes_31]
    repeat' split
    all_goals simp only [up2_row (hz 38 (by decide)), up2_row (hz 41 (by decide)), up2_row (hz 42 (by decide)), up2_row hm, ih]
theorem nm_X8_frameComes {I : Nat → Nat → Int32} {m : Nat} {A : Nat → Nat} {f : Nat} {x : Nat} {nf : Nat} {cm : Nat} {z : Nat} (hz : ∀ k ∈ ([38, 41, 42] : List Nat), z ≠ A k) (hm : z ≠ m) : (f_X8_frameComes I m A f x nf cm) z = I z := by
  simp only [f_X8_frameComes]
  repeat' split
  all_goals simp only [up2_row (hz 38 (by decide)), up2_row (hz 41 (by decide)), up2_row (hz 42 (by decide)), up2_row hm, nm_g_X8_frameComes_31 hz hm]
theorem ns_g_X8_frameComes_31 {m : Nat} {A : Nat → Nat} {f : Nat} {x : Nat} {nf : Nat} {cm : Nat} {S : MM} {j : Nat} (hM : MS S m A) (hj : j ∉ ([45, 49] : List Nat)) : ∀ (r : Nat) {i : Nat} {i3 : Nat} {I : Nat → Nat → Int32} , (g_X8_frameComes_31 m A f x nf cm r i i3 I ) m j = I m j := by
  intro r
  induction r with
  | zero =>
    intros
    simp only [g_X8_frameComes_31]
    repeat' split
    all_goals simp only [up2_row (Ne.symm (ne_m hM (show 38 ∈ DM by decide))), up2_row (Ne.symm (ne_m hM (show 41 ∈ DM by decide))), up2_row (Ne.symm (ne_m hM (show 42 ∈ DM by decide))), up2_jn (show j ≠ 45 from fun z => hj (by rw [z]; decide)), up2_jn (show j ≠ 49 from fun z => hj (by rw [z]; decide))]
  | succ r ih =>
    intros
    simp only [g_X8_frameComes_31]
    repeat' split
    all_goals simp only [up2_row (Ne.symm (ne_m hM (show 38 ∈ DM by decide))), up2_row (Ne.symm (ne_m hM (show 41 ∈ DM by decide))), up2_row (Ne.symm (ne_m hM (show 42 ∈ DM by decide))), up2_jn (show j ≠ 45 from fun z => hj (by rw [z]; decide)), up2_jn (show j ≠ 49 from fun z => hj (by rw [z]; decide)), ih]
theorem ns_X8_frameComes {I : Nat → Nat → Int32} {m : Nat} {A : Nat → Nat} {f : Nat} {x : Nat} {nf : Nat} {cm : Nat} {S : MM} {j : Nat} (hM : MS S m A) (hj : j ∉ ([45, 49] : List Nat)) : (f_X8_frameComes I m A f x nf cm) m j = I m j := by
  simp only [f_X8_frameComes]
  repeat' split
  all_goals simp only [up2_row (Ne.symm (ne_m hM (show 38 ∈ DM by decide))), up2_row (Ne.symm (ne_m hM (show 41 ∈ DM by decide))), up2_row (Ne.symm (ne_m hM (show 42 ∈ DM by decide))), up2_jn (show j ≠ 45 from fun z => hj (by rw [z]; decide)), up2_jn (show j ≠ 49 from fun z => hj (by rw [z]; decide)), ns_g_X8_frameComes_31 hM hj]
def g_X8_isAsMeant_56 (m : Nat) (A : Nat → Nat) : Nat → Nat → (Nat → Nat → Int32) → (Int32)
  | 0, i1, I => (nI 1)
  | r + 1, i1, I => if (I (A 9) i1) = (nI 4) then (if (f_X8_isMeant I m A (I (A 11) i1).toNatClampNeg) = 0 then ((nI 0)) else (g_X8_isAsMeant_56 m A r (i1 + 1)  I )) else (g_X8_isAsMeant_56 m A r (i1 + 1)  I )
theorem y_X8_isAsMeant_56 {Q : Option Value → MM → Prop} {m : Nat} {A : Nat → Nat}  (r : Nat) : ∀ {S : MM}   {i1 n : Nat} {lv : Lv} (hM : MS S m A) (hC : ∀ x, x < 16 → sI S (A 9) x = nI 4 → cbl (sI S (A 11) x)) (ir : IM S m A)   (g0 : lvg lv 0 = some (.ref m)) (g1 : lvg lv 1 = some (.int (nI i1)))    (hr : i1 + r = 16) (hn : 2 + r * 2 ≤ n) (K : KP Q S (g_X8_isAsMeant_56 m A r i1  (sI S) )), wpn (kX8_isAsMeant Q) n 56 lv [] S 0 0 := by
  induction r with
  | zero =>
    intro S   i1 n lv hM hC ir   g0 g1    hr hn K
    obtain ⟨d, rfl⟩ : ∃ d, n = d + 2 := ⟨n - 2, by omega⟩
    unfold g_X8_isAsMeant_56 at K
    refine u_X8_isAsMeant_56 ?_
    unfold bX8_isAsMeant_56
    refine e_ldI g1 ?_
    refine e_cN 16 rfl ?_
    refine e_ge (by omega) (by omega) (fun _ => ?_) (fun z => absurd z (by omega))
    refine u_X8_isAsMeant_93 ?_
    unfold bX8_isAsMeant_93
    refine e_cN 1 rfl ?_
    exact And.intro (Or.inr rfl) K
  | succ r ih =>
    intro S   i1 n lv hM hC ir   g0 g1    hr hn K
    obtain ⟨d, hd, rfl⟩ : ∃ d, 2 + r * 2 ≤ d ∧ n = d + 2 := ⟨n - 2, by omega, by omega⟩
    unfold g_X8_isAsMeant_56 at K
    refine u_X8_isAsMeant_56 ?_
    unfold bX8_isAsMeant_56
    refine e_ldI g1 ?_
    refine e_cN 16 rfl ?_
    refine e_ge (by omega) (by omega) (fun z => absurd z (by omega)) (fun _ => ?_)
    refine e_ldA g0 ?_
    refine e_gR hM.1 (hM.2.1 9 (by decide)).1 ?_
    refine e_ldI g1 ?_
    refine e_aE (N := 16) (kdA (k := 9) hM (by decide) rfl) (lnA (k := 9) hM (by decide) rfl) (by omega) (by decide) ?_
    refine e_cN 4 rfl ?_
    refine ⟨fun h1 => ?_, fun h1 => ?_⟩
    · replace K := kx_p h1 K
      refine e_ldA g0 ?_
      refine e_ldA g0 ?_
      refine e_gR hM.1 (hM.2.1 11 (by decide)).1 ?_
      refine e_ldI g1 ?_
      have q2 := cbl_e (hC _ (by omega) h1)
      have hq2 := q2.2
      refine e_aV (N := 16) (kdA (k := 11) hM (by decide) rfl) (lnA (k := 11) hM (by decide) rfl) (by omega) (by decide) q2.1 ?_
      refine And.intro hM.1 (And.intro ⟨by decide, by decide⟩ (x_X8_isMeant hM (by omega) ir (KP_i ?_)))
      refine ⟨fun h3 => ?_, fun h3 => ?_⟩
      · replace K := kx_p h3 K
        refine e_cN 0 rfl ?_
        exact And.intro (Or.inl rfl) K
      · replace K := kx_n h3 K
        refine u_X8_isAsMeant_87 ?_
        unfold bX8_isAsMeant_87
        refine e_inc g1 ?_
        exact ih hM hC ir   (lvg_ne g0 rfl (by decide)) lvg_self    (by omega) (by omega) K
    · replace K := kx_n h1 K
      refine u_X8_isAsMeant_87 ?_
      unfold bX8_isAsMeant_87
      refine e_inc g1 ?_
      exact ih hM hC ir   (lvg_ne g0 rfl (by decide)) lvg_self    (by omega) (by omega) K
def g_X8_isAsMeant_2 (m : Nat) (A : Nat → Nat) : Nat → Nat → (Nat → Nat → Int32) → (Int32)
  | 0, i1, I => g_X8_isAsMeant_56 m A 16 0  I 
  | r + 1, i1, I => if (f_X8_isMeant I m A i1) = 0 then (g_X8_isAsMeant_2 m A r (i1 + 1)  I ) else (if (I (A 9) (f_X8_portAt I m A i1 0)) = (nI 4) then (if (I (A 9) (f_X8_portAt I m A i1 1)) = (nI 4) then (g_X8_isAsMeant_2 m A r (i1 + 1)  I ) else ((nI 0))) else ((nI 0)))
theorem y_X8_isAsMeant_2 {Q : Option Value → MM → Prop} {m : Nat} {A : Nat → Nat}  (r : Nat) : ∀ {S : MM}   {i1 n : Nat} {lv : Lv} (hM : MS S m A) (hC : ∀ x, x < 16 → sI S (A 9) x = nI 4 → cbl (sI S (A 11) x)) (ir : IM S m A)   (g0 : lvg lv 0 = some (.ref m)) (g1 : lvg lv 1 = some (.int (nI i1)))    (hr : i1 + r = 8) (hn : 36 + r * 2 ≤ n) (K : KP Q S (g_X8_isAsMeant_2 m A r i1  (sI S) )), wpn (kX8_isAsMeant Q) n 2 lv [] S 0 0 := by
  induction r with
  | zero =>
    intro S   i1 n lv hM hC ir   g0 g1    hr hn K
    obtain ⟨d, rfl⟩ : ∃ d, n = d + 36 := ⟨n - 36, by omega⟩
    unfold g_X8_isAsMeant_2 at K
    refine u_X8_isAsMeant_2 ?_
    unfold bX8_isAsMeant_2
    refine e_ldI g1 ?_
    refine e_cN 8 rfl ?_
    refine e_ge (by omega) (by omega) (fun _ => ?_) (fun z => absurd z (by omega))
    refine u_X8_isAsMeant_54 ?_
    unfold bX8_isAsMeant_54
    refine e_cN 0 rfl ?_
    refine e_stI ?_
    exact y_X8_isAsMeant_56 16 hM hC ir   (lvg_ne g0 rfl (by decide)) lvg_self    (by omega) (by omega) K
  | succ r ih =>
    intro S   i1 n lv hM hC ir   g0 g1    hr hn K
    obtain ⟨d, hd, rfl⟩ : ∃ d, 36 + r * 2 ≤ d ∧ n = d + 2 := ⟨n - 2, by omega, by omega⟩
    unfold g_X8_isAsMeant_2 at K
    refine u_X8_isAsMeant_2 ?_
    unfold bX8_isAsMeant_2
    refine e_ldI g1 ?_
    refine e_cN 8 rfl ?_
    refine e_ge (by omega) (by omega) (fun z => absurd z (by omega)) (fun _ => ?_)
    refine e_ldA g0 ?_
    refine e_ldI g1 ?_
    refine And.intro hM.1 (And.intro ⟨by decide, by decide⟩ (x_X8_isMeant hM (by omega) ir (KP_i ?_)))
    refine ⟨fun h1 => ?_, fun h1 => ?_⟩
    · replace K := kx_p h1 K
      refine u_X8_isAsMeant_48 ?_
      unfold bX8_isAsMeant_48
      refine e_inc g1 ?_
      exact ih hM hC ir   (lvg_ne g0 rfl (by decide)) lvg_self    (by omega) (by omega) K
    · replace K := kx_n h1 K
      refine e_ldA g0 ?_
      refine e_gR hM.1 (hM.2.1 9 (by decide)).1 ?_
      refine e_ldA g0 ?_
      refine e_ldI g1 ?_
      refine e_cN 0 rfl ?_
      refine And.intro hM.1 (And.intro ⟨by decide, by decide⟩ (x_X8_portAt hM (by omega) (by omega) ir (fun hb2 => ?_)))
      refine e_aE (N := 16) (kdA (k := 9) hM (by decide) rfl) (lnA (k := 9) hM (by decide) rfl) (by omega) (by decide) ?_
      refine e_cN 4 rfl ?_
      refine ⟨fun h3 => ?_, fun h3 => ?_⟩
      · replace K := kx_p h3 K
        refine e_ldA g0 ?_
        refine e_gR hM.1 (hM.2.1 9 (by decide)).1 ?_
        refine e_ldA g0 ?_
        refine e_ldI g1 ?_
        refine e_cN 1 rfl ?_
        refine And.intro hM.1 (And.intro ⟨by decide, by decide⟩ (x_X8_portAt hM (by omega) (by omega) ir (fun hb4 => ?_)))
        refine e_aE (N := 16) (kdA (k := 9) hM (by decide) rfl) (lnA (k := 9) hM (by decide) rfl) (by omega) (by decide) ?_
        refine e_cN 4 rfl ?_
        refine ⟨fun h5 => ?_, fun h5 => ?_⟩
        · replace K := kx_p h5 K
          refine u_X8_isAsMeant_48 ?_
          unfold bX8_isAsMeant_48
          refine e_inc g1 ?_
          exact ih hM hC ir   (lvg_ne g0 rfl (by decide)) lvg_self    (by omega) (by omega) K
        · replace K := kx_n h5 K
          refine u_X8_isAsMeant_46 ?_
          unfold bX8_isAsMeant_46
          refine e_cN 0 rfl ?_
          exact And.intro (Or.inl rfl) K
      · replace K := kx_n h3 K
        refine u_X8_isAsMeant_46 ?_
        unfold bX8_isAsMeant_46
        refine e_cN 0 rfl ?_
        exact And.intro (Or.inl rfl) K
def f_X8_isAsMeant (I : Nat → Nat → Int32) (m : Nat) (A : Nat → Nat) : Int32 := g_X8_isAsMeant_2 m A 8 0  I 
theorem x_X8_isAsMeant {Q : Option Value → MM → Prop} {S : MM} {m : Nat} {A : Nat → Nat} (hM : MS S m A) (hC : ∀ x, x < 16 → sI S (A 9) x = nI 4 → cbl (sI S (A 11) x)) (ir : IM S m A)   (K : KP Q S (f_X8_isAsMeant (sI S) m A)) : wX8_isAsMeant [.ref m] S Q := by
  unfold f_X8_isAsMeant at K
  refine Exists.intro 53 (u_X8_isAsMeant_0 ?_)
  unfold bX8_isAsMeant_0
  refine e_cN 0 rfl ?_
  refine e_stI ?_
  exact y_X8_isAsMeant_2 8 hM hC ir   (lvg_ne rfl rfl (by decide)) lvg_self    (by omega) (by omega) K
