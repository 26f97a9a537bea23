/-! SIMULATION 18: the things of one cable come (reference) -/
def ST (m : Nat) (A : Nat → Nat) (J J' : Mm) : Prop := (∀ k j, dm k → k ≠ 7 → k ≠ 8 → k ≠ 14 → k ≠ 15 → k ≠ 17 → k ≠ 18 → k ≠ 38 → k ≠ 41 → k ≠ 42 → J' (A k) j = J (A k) j) ∧ ∀ j, j ≠ 45 → j ≠ 49 → J' m j = J m j
theorem ST.rf {m : Nat} {A : Nat → Nat} {J : Mm} : ST m A J J := ⟨fun _ _ _ _ _ _ _ _ _ _ _ _ => rfl, fun _ _ _ => rfl⟩
theorem ST.tr {m : Nat} {A : Nat → Nat} {J J1 J2 : Mm} (h : ST m A J J1) (g : ST m A J1 J2) : ST m A J J2 := ⟨fun k j a b c d e f p q r s => (g.1 k j a b c d e f p q r s).trans (h.1 k j a b c d e f p q r s), fun j a b => (g.2 j a b).trans (h.2 j a b)⟩
def RPq (R : Nat → Nat → Option Nat) (b : Nat) (I J : Mm) (A : Nat → Nat) (x : Nat) : Prop := RP R b I J A x ∧ I (px R b x) 12 = J (A 15) x
theorem RPq_k {R : Nat → Nat → Option Nat} {b x : Nat} {I J I' J' : Mm} {A : Nat → Nat} (h : RPq R b I J A x) (a : AG R b x I I') (e : ∀ k j, dm k → k ≤ 21 → (ow k j = x ∨ ow k j = 99) → J' (A k) j = J (A k) j) : RPq R b I' J' A x := by
  refine ⟨RP_g h.1 a e, ?_⟩
  rw [a.1, e 15 x (by decide) (by decide) (Or.inl (ow_x (by decide)))]
  exact h.2
theorem AG.rf {R : Nat → Nat → Option Nat} {b x : Nat} {I : Mm} : AG R b x I I := ⟨rfl, rfl, rfl, rfl⟩
abbrev Mt (J : Mm) (m : Nat) (A : Nat → Nat) (c e t : Nat) : Prop := J (A 27) t = nI c ∧ J (A 28) t = nI e ∧ J (A 29) t = J m 43 ∧ J (A 30) t = -1
theorem st_nc {m t x : Nat} {A : Nat → Nat} {J : Mm} (hA : AD m A) : ST m A J (f_X8_noteComes J m A t x) := by
  refine ⟨fun k j a h7 h8 h14 h15 h17 h18 _ _ _ => congrFun (nm_X8_noteComes (fun l hl z => ?_)) j, fun j _ _ => congrFun (nm_X8_noteComes (fun l hl z => ?_)) j⟩
  · have d : ∀ l ∈ ([7, 8, 14, 15, 17, 18] : List Nat), dm l := by decide
    have q := hA.1 k l a (d l hl) z
    simp at hl
    omega
  · exact hA.2 l ((show ∀ l ∈ ([7, 8, 14, 15, 17, 18] : List Nat), dm l by decide) l hl) z.symm
theorem g31_A {m f x nf cm i3 : Nat} {A : Nat → Nat} {r i k : Nat} {I : Mm} (hA : AD m A) (hk : dm k) : g_X8_frameComes_31 m A f x nf cm r i i3 I (A k) = I (A k) := g31_row (hA.2 k hk) r i I
theorem g31_m {m f x nf cm i3 : Nat} {A : Nat → Nat} {j : Nat} (hj : j ≠ 49) : ∀ (r i : Nat) (I : Mm), g_X8_frameComes_31 m A f x nf cm r i i3 I m j = I m j := by
  intro r
  induction r with
  | zero => intro i I; rfl
  | succ r ih =>
    intro i I
    rw [g_X8_frameComes_31]
    repeat' split
    all_goals first | exact ih _ _ | exact up2_jn hj
theorem fc_A {m f x nf cm k j : Nat} {A : Nat → Nat} {J : Mm} (hA : AD m A) (hk : dm k) (h1 : k ≠ 38) (h2 : k ≠ 41) (h3 : k ≠ 42) : (f_X8_frameComes J m A f x nf cm) (A k) j = J (A k) j := by
  simp only [f_X8_frameComes]
  split
  · simp (disch := first | assumption | decide) only [mu_o hA, g31_A hA]
  · exact mm_a hA hk
theorem fc_m {m f x nf cm j : Nat} {A : Nat → Nat} {J : Mm} (hA : AD m A) (h1 : j ≠ 45) (h2 : j ≠ 49) : (f_X8_frameComes J m A f x nf cm) m j = J m j := by
  simp only [f_X8_frameComes]
  split
  · simp (disch := first | assumption | decide) only [am_m hA, g31_m]
  · exact mm_j h1
theorem st_fc {m f x nf cm : Nat} {A : Nat → Nat} {J : Mm} (hA : AD m A) : ST m A J (f_X8_frameComes J m A f x nf cm) := ⟨fun k j a _ _ _ _ _ _ h1 h2 h3 => fc_A hA a h1 h2 h3, fun j h1 h2 => fc_m hA h1 h2⟩
theorem g45 {m nt nf c b : Nat} {A : Nat → Nat} {J I I' : Mm} {R : Nat → Nat → Option Nat} {y : Nat → Nat} (hA : AD m A) (hy : ∀ e, e < 2 → y e < 16) (hyd : y 0 ≠ y 1) (hc : c < 8) (s27 : ∀ t, t < nt → ∃ k, k < 8 ∧ J (A 27) t = nI k) (s28 : ∀ t, t < nt → ∃ e, e < 2 ∧ J (A 28) t = nI e) (pa : ∀ e, e < 2 → 8 * (1 - e) + (J (A 22) (2 * c + (1 - e))).toNatClampNeg = y e) (lanes : ∀ e, e < 2 → (∃ t0, t0 < nt ∧ Mt J m A c e t0 ∧ (∀ t, t < nt → Mt J m A c e t → t = t0) ∧ ∀ J', ST m A J J' → RPq R b I J' A (y e) → RPq R b I' (f_X8_noteComes J' m A t0 (y e)) A (y e) ∧ MF A (y e) J' (f_X8_noteComes J' m A t0 (y e))) ∨ ((∀ t, t < nt → ¬ Mt J m A c e t) ∧ AG R b (y e) I I')) (oth : ∀ x, x < 16 → (∀ e, e < 2 → x ≠ y e) → AG R b x I I') : ∀ r i J' w, i + r = nt → ST m A J J' → (∀ x, x < 16 → (∀ e, e < 2 → x ≠ y e) → RPq R b I J' A x) → (∀ e, e < 2 → ((∃ u, u < i ∧ Mt J m A c e u) → RPq R b I' J' A (y e)) ∧ ((¬ ∃ u, u < i ∧ Mt J m A c e u) → RPq R b I J' A (y e))) → ST m A J (g_X8_comes_45 m A nt nf r i c J' w).1 ∧ ∀ x, x < 16 → RPq R b I' (g_X8_comes_45 m A nt nf r i c J' w).1 A x := by
  intro r
  induction r with
  | zero =>
    intro i J' w hi st ho hl
    have hi : i = nt := by omega
    subst hi
    refine ⟨st, fun x hx => ?_⟩
    show RPq R b I' J' A x
    by_cases q : ∀ e, e < 2 → x ≠ y e
    · exact RPq_k (ho x hx q) (oth x hx q) (fun _ _ _ _ _ => rfl)
    · obtain ⟨e, hne⟩ := Classical.not_forall.mp q
      obtain ⟨he, hx2⟩ := Classical.not_imp.mp hne
      clear hne
      have hx3 : x = y e := Classical.byContradiction hx2
      subst hx3
      rcases lanes e he with ⟨t0, ht0, mt, _, _⟩ | ⟨no, ag⟩
      · exact (hl e he).1 ⟨t0, ht0, mt⟩
      · exact RPq_k ((hl e he).2 (fun z => by obtain ⟨u, hu, mu⟩ := z; exact no u hu mu)) ag (fun _ _ _ _ _ => rfl)
  | succ r ih =>
    intro i J' w hi st ho hl
    have hin : i < nt := by omega
    have j27 : J' (A 27) i = J (A 27) i := st.1 27 i (by decide) (by decide) (by decide) (by decide) (by decide) (by decide) (by decide) (by decide) (by decide) (by decide)
    have j28 : J' (A 28) i = J (A 28) i := st.1 28 i (by decide) (by decide) (by decide) (by decide) (by decide) (by decide) (by decide) (by decide) (by decide) (by decide)
    have j29 : J' (A 29) i = J (A 29) i := st.1 29 i (by decide) (by decide) (by decide) (by decide) (by decide) (by decide) (by decide) (by decide) (by decide) (by decide)
    have j30 : J' (A 30) i = J (A 30) i := st.1 30 i (by decide) (by decide) (by decide) (by decide) (by decide) (by decide) (by decide) (by decide) (by decide) (by decide)
    have j43 : J' m 43 = J m 43 := st.2 43 (by decide) (by decide)
    obtain ⟨k, hk, e27⟩ := s27 i hin
    obtain ⟨e0, he0, e28⟩ := s28 i hin
    -- nothing of this cable's notes here
    have skip : ∀ J2, ST m A J' J2 → (∀ k j, dm k → k ≤ 21 → J2 (A k) j = J' (A k) j) → (∀ e, e < 2 → ¬ Mt J m A c e i) → ST m A J (g_X8_comes_45 m A nt nf r (i + 1) c J2 w).1 ∧ ∀ x, x < 16 → RPq R b I' (g_X8_comes_45 m A nt nf r (i + 1) c J2 w).1 A x := fun J2 s2 k2 nm => by
      refine ih (i + 1) J2 w (by omega) (st.tr s2) (fun x hx q => RPq_k (ho x hx q) AG.rf (fun k j a b _ => k2 k j a b)) (fun e he => ⟨fun z => ?_, fun z => ?_⟩)
      · obtain ⟨u, hu, mu⟩ := z
        refine RPq_k ((hl e he).1 ⟨u, ?_, mu⟩) AG.rf (fun k j a b _ => k2 k j a b)
        by_cases q : u = i
        · subst q; exact absurd mu (nm e he)
        · omega
      · exact RPq_k ((hl e he).2 (fun y => by obtain ⟨u, hu, mu⟩ := y; exact z ⟨u, by omega, mu⟩)) AG.rf (fun k j a b _ => k2 k j a b)
    rw [g_X8_comes_45]
    dsimp only
    rw [j27, j29, j30, j28, j43, e27, e28, nI_cl (by omega), nI_cl (by omega)]
    by_cases c1 : k = c
    · rw [if_pos c1]
      by_cases c2 : J (A 29) i = J m 43
      · rw [if_pos c2]
        have py : f_X8_portAt J' m A c (1 - e0) = y e0 := by
          unfold f_X8_portAt
          rw [st.1 22 _ (by decide) (by decide) (by decide) (by decide) (by decide) (by decide) (by decide) (by decide) (by decide) (by decide)]
          exact pa e0 he0
        rw [py]
        by_cases c3 : J (A 30) i = -1
        · rw [if_pos c3]
          have mt : Mt J m A c e0 i := ⟨by rw [e27, c1], e28, c2, c3⟩
          rcases lanes e0 he0 with ⟨t0, ht0, mt0, un, post⟩ | ⟨no, _⟩
          · have ei := un i hin mt
            subst ei
            have pre : RPq R b I J' A (y e0) := (hl e0 he0).2 (fun z => by obtain ⟨u, hu, mu⟩ := z; exact absurd (un u (by omega) mu) (by omega))
            obtain ⟨p1, p2⟩ := post J' st pre
            have other : ∀ x, x < 16 → x ≠ y e0 → ∀ I2 : Mm, RPq R b I2 J' A x → RPq R b I2 (f_X8_noteComes J' m A i (y e0)) A x := fun x _ hn I2 hq => RPq_k hq AG.rf (fun k j a b d => p2 k j a (by omega) (by have := hy e0 he0; rcases d with d | d <;> omega))
            refine ih (i + 1) _ w (by omega) (st.tr (st_nc hA)) (fun x hx q => other x hx (q e0 he0) I (ho x hx q)) (fun e he => ?_)
            by_cases qe : e = e0
            · subst qe
              exact ⟨fun _ => p1, fun z => absurd ⟨i, by omega, mt⟩ z⟩
            · have yn : y e ≠ y e0 := by
                have h1 : e = 0 ∧ e0 = 1 ∨ e = 1 ∧ e0 = 0 := by omega
                rcases h1 with ⟨rfl, rfl⟩ | ⟨rfl, rfl⟩
                · exact hyd
                · exact hyd.symm
              have nme : ¬ Mt J m A c e i := fun z => qe (nI_i8 e e0 (by omega) (by omega) (z.2.1.symm.trans e28))
              refine ⟨fun z => other _ (hy e he) yn I' ((hl e he).1 ?_), fun z => other _ (hy e he) yn I ((hl e he).2 (fun v => by obtain ⟨u, hu, mu⟩ := v; exact z ⟨u, by omega, mu⟩))⟩
              obtain ⟨u, hu, mu⟩ := z
              refine ⟨u, ?_, mu⟩
              by_cases q : u = i
              · subst q; exact absurd mu nme
              · omega
          · exact absurd mt (no i hin)
        · rw [if_neg c3]
          exact skip _ (st_fc hA) (fun k j a b => fc_A hA a (by omega) (by omega) (by omega)) (fun e _ z => c3 z.2.2.2)
      · rw [if_neg c2]
        exact skip _ ST.rf (fun _ _ _ _ => rfl) (fun e _ z => c2 z.2.2.1)
    · rw [if_neg c1]
      exact skip _ ST.rf (fun _ _ _ _ => rfl) (fun e _ z => c1 (nI_i8 k c hk hc (e27.symm.trans z.1)))
