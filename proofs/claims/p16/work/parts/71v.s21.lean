/-! SIMULATION 21: what comes, class and reference together -/
theorem st_tg {m : Nat} {A : Nat → Nat} {J J' : Mm} {n : Nat} (h : ST m A J J') : TG J' A n = TG J A n := TG_c (fun t _ => tg_k (fun k hk => by
  have : ∀ k ∈ ([27, 28, 29, 30, 31] : List Nat), dm k ∧ k ≠ 7 ∧ k ≠ 8 ∧ k ≠ 14 ∧ k ≠ 15 ∧ k ≠ 17 ∧ k ≠ 18 ∧ k ≠ 38 ∧ k ≠ 41 ∧ k ≠ 42 := by decide
  obtain ⟨a0, a1, a2, a3, a4, a5, a6, a7, a8, a9⟩ := this k hk
  funext j
  exact h.1 k j a0 a1 a2 a3 a4 a5 a6 a7 a8 a9))
theorem st_k {m : Nat} {A : Nat → Nat} {J J' : Mm} (h : ST m A J J') {k j : Nat} (hk : k ∈ ([22, 27, 28, 29, 30, 31] : List Nat)) : J' (A k) j = J (A k) j := by
  have : ∀ k ∈ ([22, 27, 28, 29, 30, 31] : List Nat), dm k ∧ k ≠ 7 ∧ k ≠ 8 ∧ k ≠ 14 ∧ k ≠ 15 ∧ k ≠ 17 ∧ k ≠ 18 ∧ k ≠ 38 ∧ k ≠ 41 ∧ k ≠ 42 := by decide
  obtain ⟨a0, a1, a2, a3, a4, a5, a6, a7, a8, a9⟩ := this k hk
  exact h.1 k j a0 a1 a2 a3 a4 a5 a6 a7 a8 a9
/-- a due note, heard on both sides -/
theorem hear_post {R : Nat → Nat → Option Nat} {b c e s y t0 m : Nat} {A : Nat → Nat} {I I' J J' : Mm} (hA : AD m A) (hr : HR R b c e s y I I') (lit : ¬ I (px R b y) 3 = 0) (et : tg J A t0 = cnq I R b c e s) (bb : BB (cnq I R b c e s)) (st : ST m A J J') (h : RPq R b I J' A y) : RPq R b I' (f_X8_noteComes J' m A t0 y) A y ∧ MF A y J' (f_X8_noteComes J' m A t0 y) := by
  have j31 : ∀ j, J' (A 31) j = J (A 31) j := fun j => st_k st (by decide)
  have n0 : J (A 31) (10 * t0) = I (NtO R b c e s) 0 := congrFun et 4
  have n1 : J (A 31) (10 * t0 + 1) = I (NtO R b c e s) 1 := congrFun et 5
  have n2 : J (A 31) (10 * t0 + 2) = I (NtO R b c e s) 2 := congrFun et 6
  have n3 : J (A 31) (10 * t0 + 3) = I (NtO R b c e s) 3 := congrFun et 7
  have n4 : J (A 31) (10 * t0 + 4) = I (NtO R b c e s) 4 := congrFun et 8
  have p0 : J (A 31) (10 * t0 + 5 + 0) = I (NtP R b c e s) 0 := congrFun et 9
  have p1 : J (A 31) (10 * t0 + 5 + 1) = I (NtP R b c e s) 1 := congrFun et 10
  have p2 : J (A 31) (10 * t0 + 5 + 2) = I (NtP R b c e s) 2 := congrFun et 11
  have p3 : J (A 31) (10 * t0 + 5 + 3) = I (NtP R b c e s) 3 := congrFun et 12
  have p4 : J (A 31) (10 * t0 + 5 + 4) = I (NtP R b c e s) 4 := congrFun et 13
  have b8 : ∃ n, n < 64 ∧ I (NtO R b c e s) 4 = nI n := bb.1
  have b13 : ∃ n, n < 64 ∧ I (NtP R b c e s) 4 = nI n := bb.2
  have lit' : ¬ J' (A 7) y = 0 := by rw [← h.1.1.2.1]; exact lit
  have s := s_hear (t := t0) (rn := fun _ => 0) (rno := I (NtO R b c e s)) (rnp := I (NtP R b c e s)) hA h.1.1 h.1.2.1 h.1.2.2 lit' (by rw [j31, n0]) (by rw [j31, n1]) (by rw [j31, n2]) (by rw [j31, n3]) (by rw [j31, n4]) (by rw [j31, p0]) (by rw [j31, p1]) (by rw [j31, p2]) (by rw [j31, p3]) (by rw [j31, p4]) (by rw [j31, n4]; exact b8) (by rw [j31, p4]; exact b13)
  generalize f_X8_noteComes J' m A t0 y = J2 at s ⊢
  refine ⟨⟨⟨?_, s.2.1, ?_⟩, ?_⟩, s.2.2.2.2⟩
  · rw [hr.1, hr.2.1, hr.2.2.1]; exact s.1
  · rw [hr.1, hr.2.2.2]; exact s.2.2.1
  · rw [hr.1]; exact s.2.2.2.1
theorem hear_lit {R : Nat → Nat → Option Nat} {b c e s y : Nat} {I I' : Mm} (hr : HR R b c e s y I I') : ¬ I' (px R b y) 3 = 0 := by
  rw [hr.1]
  obtain ⟨_, _, _, _, _, b3, _⟩ := c_hear (rp := I (px R b y)) (ro := I (ox R b y)) (rq := I (qx R b y)) (rn := fun _ => 0) (rno := I (NtO R b c e s)) (rnp := I (NtP R b c e s))
  rw [b3]
  decide
theorem g45_no {m nt nf c : Nat} {A : Nat → Nat} {J : Mm} {w : Int32} : ∀ r i, i + r = nt → (∀ t, t < nt → ¬ (J (A 27) t).toNatClampNeg = c) → g_X8_comes_45 m A nt nf r i c J w = (J, w) := by
  intro r
  induction r with
  | zero => intro i _ _; rfl
  | succ r ih =>
    intro i hi h
    rw [g_X8_comes_45, if_neg (h i (by omega))]
    exact ih (i + 1) (by omega) h
def UCb (R : Nat → Nat → Option Nat) (b : Nat) (I J : Mm) (A : Nat → Nat) (c : Nat) (y : Nat → Nat) : Prop := ¬ I (Cb R b c) 3 = 0 ∧ plg R b c ∧ (∀ e, e < 2 → y e < 16) ∧ y 0 ≠ y 1 ∧ (∀ e, e < 2 → (R (ppd R b c) (1 - e)).getD 0 = px R b (y e)) ∧ (∀ e, e < 2 → 8 * (1 - e) + (J (A 22) (2 * c + (1 - e))).toNatClampNeg = y e) ∧ ∀ e, e < 2 → ¬ I (px R b (y e)) 3 = 0
def DCb (R : Nat → Nat → Option Nat) (b : Nat) (I J : Mm) (A : Nat → Nat) (nt c : Nat) : Prop := (I (Cb R b c) 3 = 0 ∨ ¬ plg R b c) ∧ ∀ t, t < nt → ¬ J (A 27) t = nI c
def bcE (R : Nat → Nat → Option Nat) (b c : Nat) (I : Mm) : Mm := if (I (Cb R b c) 3) = 0 then I else (if plg R b c then g_X7_bringAll_31 R b 2 0 c I else I)
theorem bc_s {R : Nat → Nat → Option Nat} {b r i : Nat} {I : Mm} : g_X7_bringAll_2 R b (r + 1) i I = g_X7_bringAll_2 R b r (i + 1) (bcE R b i I) := by
  rw [g_X7_bringAll_2]
  unfold bcE
  repeat' split
  all_goals rfl
def PQ (S : MM) (b m cl : Nat) (A Bc : Nat → Nat) (I0 J0 : Mm) (i : Nat) (I J : Mm) : Prop := (∀ x, x < 16 → RPq (sR S) b I J A x) ∧ ST m A J0 J ∧ LGc (sR S) b I0 I ∧ (∀ x, x < 16 → ((I (px (sR S) b x) 3 = 0) ↔ (I0 (px (sR S) b x) 3 = 0)) ∧ (I0 (px (sR S) b x) 3 = 0 → AG (sR S) b x I0 I)) ∧ ∀ c e, c < 8 → e < 2 → (i ≤ c → LC2 I0 I (sR S) b c e) ∧ (c < i → CN I (sR S) b c e = (CN I0 (sR S) b c e).filter (fun p => !(decide (p 2 = nI cl))) ∧ DU (CN I (sR S) b c e) (cl + 1) (Bc c) ∧ (∃ n, n < 8 ∧ I (Ln (sR S) b c e) 1 = nI n) ∧ ∃ n, n < 9 ∧ I (Ln (sR S) b c e) 2 = nI n)
theorem fl_nil {L : List (Nat → Int32)} {c e : Nat} (h : ∀ q ∈ L, ¬ q 0 = nI c) : L.filter (isL c e) = [] := List.filter_eq_nil_iff.mpr (fun q hq => by unfold isL; simp [h q hq])
theorem tg_nil {J : Mm} {A : Nat → Nat} {nt c e : Nat} (h : ∀ t, t < nt → ¬ J (A 27) t = nI c) : (TG J A nt).filter (isL c e) = [] := fl_nil (fun q hq => by
  obtain ⟨t, ht, rfl⟩ := List.mem_map.mp hq
  exact h t (List.mem_range.mp ht))
theorem cable_sim {S : MM} {b m cl nt nf : Nat} {A Bc : Nat → Nat} {I0 J0 : Mm} (hL : LY S b) (hO : OC S) (hA : AD m A) (hB : ∀ c, c < 8 → Bc c < 2 ^ 31) (hcl : cl < 2 ^ 31) (c0 : I0 b 2 = nI cl) (m43 : J0 m 43 = nI cl) (s27 : ∀ t, t < nt → ∃ k, k < 8 ∧ J0 (A 27) t = nI k) (s28 : ∀ t, t < nt → ∃ e, e < 2 ∧ J0 (A 28) t = nI e) (ln : ∀ c e, c < 8 → e < 2 → CN I0 (sR S) b c e = (TG J0 A nt).filter (isL c e) ∧ DU (CN I0 (sR S) b c e) cl (Bc c) ∧ (∃ n, n < 8 ∧ I0 (Ln (sR S) b c e) 1 = nI n) ∧ ∃ n, n < 9 ∧ I0 (Ln (sR S) b c e) 2 = nI n) (cx : ∀ c, c < 8 → DCb (sR S) b I0 J0 A nt c ∨ ∃ y, UCb (sR S) b I0 J0 A c y) {i : Nat} {I J : Mm} (w : Int32) (hi : i < 8) (h : PQ S b m cl A Bc I0 J0 i I J) : PQ S b m cl A Bc I0 J0 (i + 1) (bcE (sR S) b i I) (g_X8_comes_45 m A nt nf nt 0 i J w).1 := by
  obtain ⟨h1, h2, h3, h4, h5⟩ := h
  have eC : I (Cb (sR S) b i) 3 = I0 (Cb (sR S) b i) 3 := by rw [h3.2.1 i hi]
  rcases cx i hi with ⟨dn, no⟩ | ⟨y, up, pl, hy, hyd, rp, pa, lit⟩
  · have E : bcE (sR S) b i I = I := by
      unfold bcE
      rw [eC]
      rcases dn with d | d
      · rw [if_pos d]
      · rw [if_neg d, ite_self]
    have E2 : g_X8_comes_45 m A nt nf nt 0 i J w = (J, w) := g45_no nt 0 (by omega) (fun t ht z => by
      obtain ⟨k, hk, ek⟩ := s27 t ht
      rw [st_k h2 (by decide), ek, nI_cl (by omega)] at z
      subst z
      exact no t ht ek)
    rw [E, E2]
    refine ⟨h1, h2, h3, h4, fun c e hc he => ⟨fun z => (h5 c e hc he).1 (by omega), fun z => ?_⟩⟩
    by_cases q : c = i
    · subst q
      have lc := (h5 c e hc he).1 (Nat.le_refl c)
      obtain ⟨l1, l2, l3, l4⟩ := ln c e hc he
      have nil : CN I0 (sR S) b c e = [] := l1.trans (tg_nil no)
      rw [CN_c lc, nil, lc.1, lc.2.1]
      exact ⟨rfl, ⟨fun q hq => absurd hq List.not_mem_nil, List.Pairwise.nil⟩, l3, l4⟩
    · exact (h5 c e hc he).2 (by omega)
  · have E : bcE (sR S) b i I = g_X7_bringAll_31 (sR S) b 2 0 i I := by
      unfold bcE
      rw [eC, if_neg up, if_pos pl]
    have lc := fun e he => (h5 i e hi he).1 (Nat.le_refl i)
    obtain ⟨I', e', lg, ag, lco, cn, pt⟩ := cable_step hL hO hi (hB i hi) hcl hy hyd rp (h3.1.trans c0) (fun e he => by rw [(lc e he).1]; exact (ln i e hi he).2.2.1) (fun e he => by rw [(lc e he).2.1]; exact (ln i e hi he).2.2.2) (fun e he => by rw [CN_c (lc e he)]; exact (ln i e hi he).2.1)
    rw [E, e']
    have j43 : J m 43 = nI cl := (h2.2 43 (by decide) (by decide)).trans m43
    have cnJ : ∀ e, e < 2 → CN I (sR S) b i e = (TG J A nt).filter (isL i e) := fun e he => by rw [CN_c (lc e he), (ln i e hi he).1, st_tg h2]
    have lit1 : ∀ e, e < 2 → ¬ I (px (sR S) b (y e)) 3 = 0 := fun e he z => lit e he ((h4 (y e) (hy e he)).1.mp z)
    have g := g45 (R := sR S) (b := b) (nt := nt) (nf := nf) (c := i) (J := J) (I := I) (I' := I') (y := y) hA hy hyd hi (fun t ht => by rw [st_k h2 (by decide)]; exact s27 t ht) (fun t ht => by rw [st_k h2 (by decide)]; exact s28 t ht) (fun e he => by rw [st_k h2 (by decide)]; exact pa e he) (fun e he => by
      rcases pt e he with ⟨s, hs, a, bb, hr⟩ | ⟨a, hr⟩
      · rw [cnJ e he] at a
        obtain ⟨t0, ht0, mt, et, un⟩ := due_one (m := m) j43 a
        exact Or.inl ⟨t0, ht0, mt, un, fun J' st rq => hear_post hA hr (lit1 e he) et bb st rq⟩
      · rw [cnJ e he] at a
        exact Or.inr ⟨due_none j43 a, hr⟩) ag nt 0 J w (by omega) ST.rf (fun x hx _ => h1 x hx) (fun e he => ⟨fun z => by obtain ⟨u, hu, _⟩ := z; exact absurd hu (by omega), fun _ => h1 (y e) (hy e he)⟩)
    refine ⟨g.2, h2.tr g.1, h3.tr lg, fun x hx => ?_, fun c e hc he => ⟨fun z => ((h5 c e hc he).1 (by omega)).tr (lco c e hc he (by omega)), fun z => ?_⟩⟩
    · by_cases q0 : x = y 0
      · subst q0
        rcases pt 0 (by decide) with ⟨s, hs, a, bb, hr⟩ | ⟨a, hr⟩
        · exact ⟨⟨fun z => absurd z (hear_lit hr), fun z => absurd z (lit 0 (by decide))⟩, fun z => absurd z (lit 0 (by decide))⟩
        · exact ⟨by rw [hr.1]; exact (h4 _ hx).1, fun z => ((h4 _ hx).2 z).tr hr⟩
      · by_cases q1 : x = y 1
        · subst q1
          rcases pt 1 (by decide) with ⟨s, hs, a, bb, hr⟩ | ⟨a, hr⟩
          · exact ⟨⟨fun z => absurd z (hear_lit hr), fun z => absurd z (lit 1 (by decide))⟩, fun z => absurd z (lit 1 (by decide))⟩
          · exact ⟨by rw [hr.1]; exact (h4 _ hx).1, fun z => ((h4 _ hx).2 z).tr hr⟩
        · have n : ∀ e, e < 2 → x ≠ y e := fun e he => by
            have q : e = 0 ∨ e = 1 := by omega
            rcases q with rfl | rfl
            · exact q0
            · exact q1
          exact ⟨by rw [(ag x hx n).1]; exact (h4 x hx).1, fun z => ((h4 x hx).2 z).tr (ag x hx n)⟩
    · by_cases q : c = i
      · subst q
        have := cn e he
        rw [CN_c (lc e he)] at this
        exact this
      · have l2 := lco c e hc he q
        rw [CN_c l2, l2.1, l2.2.1]
        exact (h5 c e hc he).2 (by omega)
theorem comes_sim {S : MM} {b m cl nt nf : Nat} {A Bc : Nat → Nat} {I0 J0 : Mm} (hL : LY S b) (hO : OC S) (hA : AD m A) (hB : ∀ c, c < 8 → Bc c < 2 ^ 31) (hcl : cl < 2 ^ 31) (c0 : I0 b 2 = nI cl) (m43 : J0 m 43 = nI cl) (s27 : ∀ t, t < nt → ∃ k, k < 8 ∧ J0 (A 27) t = nI k) (s28 : ∀ t, t < nt → ∃ e, e < 2 ∧ J0 (A 28) t = nI e) (ln : ∀ c e, c < 8 → e < 2 → CN I0 (sR S) b c e = (TG J0 A nt).filter (isL c e) ∧ DU (CN I0 (sR S) b c e) cl (Bc c) ∧ (∃ n, n < 8 ∧ I0 (Ln (sR S) b c e) 1 = nI n) ∧ ∃ n, n < 9 ∧ I0 (Ln (sR S) b c e) 2 = nI n) (cx : ∀ c, c < 8 → DCb (sR S) b I0 J0 A nt c ∨ ∃ y, UCb (sR S) b I0 J0 A c y) : ∀ (r i : Nat) (I J : Mm) (w : Int32), i + r = 8 → PQ S b m cl A Bc I0 J0 i I J → PQ S b m cl A Bc I0 J0 8 (g_X7_bringAll_2 (sR S) b r i I) (g_X8_comes_37 m A nt nf r i J w).1 := by
  intro r
  induction r with
  | zero =>
    intro i I J w hi h
    have e : i = 8 := by omega
    subst e
    exact h
  | succ r ih =>
    intro i I J w hi h
    have s := cable_sim (nf := nf) hL hO hA hB hcl c0 m43 s27 s28 ln cx w (by omega) h
    rw [bc_s, g_X8_comes_37]
    exact ih (i + 1) _ _ _ (by omega) s
