/-! SIMULATION 107: both sides give a frame: the counters -/
theorem ud_s {f : Nat → Int32} {n : Nat} {v : Int32} : upd f n v n = v := by unfold upd; rw [if_pos rfl]
theorem ud_n {f : Nat → Int32} {n i : Nat} {v : Int32} (h : i ≠ n) : upd f n v i = f i := by unfold upd; rw [if_neg h]
theorem xr_give {S S1 S' : MM} {b m c e a nf nt F cv j : Nat} {A : Nat → Nat} {J J' : Mm} {φ : Nat → Nat} {w v1 v3 : Int32} (hL : LY S b) (hO : OC S) (hc : c < 8) (he : e < 2) (n5 : sI S (Ln (sR S) b c e) 5 = nI nf) (hnf : nf < 200) (af : AF S S1 (Ln (sR S) b c e) a nf) (ch : CHn S1 S' a (En (sR S) b e) b (nI cv) v1 v3) (chx : CHx S S' a (En (sR S) b e) b (Pa (sR S) b e j) w) (le : LYE (sR S) (sR S') b) (fok : ∀ c' e', c' < 8 → e' < 2 → FOK (sI S) (sR S) b c' e') (hF : F < 4200) (tgo : TG J' A nt = TG J A nt) (t27 : J' (A 27) nt = nI c) (t28 : J' (A 28) nt = nI e) (t30 : J' (A 30) nt = nI F) (k35 : J' (A 35) = upd (J (A 35)) F (nI cv)) (my : MYx J J' m A F e (8 * e + j) w) (k40 : J' (A 40) = J (A 40)) (jm : ∀ j, 44 ≤ j → j ≤ 49 → j ≠ 48 → J' m j = J m j) (bit : f_X6_has (sI S) (Pa (sR S) b e j) (nI 16) = 0 ↔ f_X8_isPartner J m A (8 * e + j) (nI 16) = 0) (xr : XRl (sR S) b m A (sI S) J nt F φ) : XRl (sR S') b m A (sI S') J' (nt + 1) (F + 1) (fun z => if z = a then F else φ z) := by
  obtain ⟨⟨x3, x4, x5, x6, x7, x8⟩, xe, ph, xs⟩ := xr
  obtain ⟨g1, g2, g3, g4, g5, g6⟩ := giv_c hL hO hc he fok n5 hnf af ch le
  obtain ⟨f, hf, e4, rr, ii, l1, l5, new⟩ := AF_f hL hc he af
  obtain ⟨h1, h2, h3, h4, h5, h6, h7, h8⟩ := ch
  obtain ⟨q2, q4, q5, q6, qE, qb⟩ := chx
  obtain ⟨k33, k34, k37, k38, k48⟩ := my
  have na : ∀ c' e', c' < 8 → e' < 2 → ∀ z ∈ CF (sI S) (sR S) b c' e', z ≠ a := fun c' e' hc' he' => af_new (I := sI S) hL hO hc he hc' he' hf hnf e4 n5 (fok c' e' hc' he') new
  have ka : sK S a = 0 ∨ sK S a = 3 := by
    rcases new with n | n
    · exact Or.inl n
    · refine Or.inr ?_
      have := ly_nn (j := (f + nf) % 200) hL.1 (ly_fa hL hc he).2.1 rfl (by rw [n]; simp)
      rw [n] at this
      exact this
  have eb : ∀ k, k ≠ 7 → sI S' b k = sI S b k := fun k hk => by rw [h5 k hk, ii b (by rw [hL.2]; decide) (ne_k hL.2 (ly_N hL hc he).2.1 (by decide))]
  have eE : ∀ e' k, e' < 2 → (k ≠ 7 ∨ e' ≠ e) → sI S' (En (sR S) b e') k = sI S (En (sR S) b e') k := fun e' k he' hk => by
    have kE := (ly_E hL he').2.1
    have q1 := ii _ (by rw [kE]; decide) (ne_k kE (ly_N hL hc he).2.1 (by decide))
    by_cases q : e' = e
    · subst q
      rw [h4 k (by rcases hk with h | h; exact h; exact absurd rfl h), q1]
    · rw [h3 _ (fun y => by rw [y] at kE; omega) (fun y => q (i_E hL hO he' he y)) (ne_k kE hL.2 (by decide)), q1]
  have gF : ∀ e', e' < 2 → ∀ f', f' ≤ F → gcB (fun g => decide (J' (A 33) g = nI e')) f' = gcB (fun g => decide (J (A 33) g = nI e')) f' := fun e' he' f' hf' => gcB_c f' (fun i hi => by
    show decide (J' (A 33) i = nI e') = decide (J (A 33) i = nI e')
    rw [k33, ud_n (by omega)])
  have sk : ∀ f' g, f' < F → g < F → (skf J' A f' g ↔ skf J A f' g) := fun f' g hf' hg => by
    unfold skf
    rw [k33, k34, k35, k37, ud_n (show g ≠ F by omega), ud_n (show f' ≠ F by omega), ud_n (show g ≠ F by omega), ud_n (show f' ≠ F by omega), ud_n (show g ≠ F by omega), ud_n (show f' ≠ F by omega), ud_n (show g ≠ F by omega), ud_n (show f' ≠ F by omega)]
  have inn : ∀ c' e', c' < 8 → e' < 2 → ∀ z ∈ CF (sI S') (sR S') b c' e', z ∈ CF (sI S) (sR S) b c' e' ∨ (z = a ∧ c' = c ∧ e' = e) := fun c' e' hc' he' z hz => by
    by_cases q : c' = c ∧ e' = e
    · obtain ⟨rfl, rfl⟩ := q
      rw [g1] at hz
      rcases List.mem_append.mp hz with y | y
      · exact Or.inl y
      · exact Or.inr ⟨List.mem_singleton.mp y, rfl, rfl⟩
    · rw [g2 c' e' hc' he' q] at hz
      exact Or.inl hz
  have pn : ∀ c' e', c' < 8 → e' < 2 → ∀ z ∈ CF (sI S) (sR S) b c' e', (fun z => if z = a then F else φ z) z = φ z := fun c' e' hc' he' z hz => if_neg (na c' e' hc' he' z hz)
  refine ⟨⟨?_, ?_, ?_, ?_, ?_, ?_⟩, fun e' he' => ?_, fun c' e' hc' he' => ?_, fun e' he' => ⟨fun c' hc' z hz => ?_, fun c' hc' z hz => ?_⟩⟩
  · rw [eb 3 (by decide), jm 44 (by decide) (by decide) (by decide)]; exact x3
  · rw [eb 4 (by decide), jm 45 (by decide) (by decide) (by decide)]; exact x4
  · rw [eb 5 (by decide), jm 46 (by decide) (by decide) (by decide)]; exact x5
  · rw [eb 6 (by decide), jm 47 (by decide) (by decide) (by decide)]; exact x6
  · rw [qb, k48, x7]
    by_cases q : f_X8_isPartner J m A (8 * e + j) (nI 16) = 0
    · rw [if_pos q, if_pos (bit.mpr q)]
    · rw [if_neg q, if_neg (fun y => q (bit.mp y))]
  · rw [eb 8 (by decide), jm 49 (by decide) (by decide) (by decide)]; exact x8
  · rw [le.E e' he', eE e' 8 he' (Or.inl (by decide)), k40]
    refine ⟨(xe e' he').1, ?_⟩
    rw [gcB, gF e' he' F (Nat.le_refl _)]
    by_cases q : e' = e
    · subst q
      rw [qE, (xe e' he').2, nI_add, if_pos (decide_eq_true (by rw [k33, ud_s]))]
    · rw [eE e' 7 he' (Or.inr q), (xe e' he').2, if_neg (fun y => q (nI_inj (by omega) (by omega) (by
        have y := of_decide_eq_true y
        rw [k33, ud_s] at y
        exact y.symm)))]
      rfl
  · rw [TG_s, tgo, List.filter_append, List.map_append, ← ph c' e' hc' he', ← List.map_congr_left (pn c' e' hc' he')]
    by_cases q : c' = c ∧ e' = e
    · obtain ⟨rfl, rfl⟩ := q
      have yes : isG c' e' (tg J' A nt) = true := decide_eq_true ⟨t27, t28, fun z => nI_m1 (show F < 1000000 by omega) (t30.symm.trans z)⟩
      rw [g1, List.map_append, List.filter_cons_of_pos yes, List.filter_nil]
      congr 1
      show [if a = a then F else φ a] = [(J' (A 30) nt).toNatClampNeg]
      rw [if_pos rfl, t30, nI_cl (by omega)]
    · have no : isG c' e' (tg J' A nt) = false := decide_eq_false (fun z => q ⟨nI_inj (by omega) (by omega) (z.1.symm.trans t27), nI_inj (by omega) (by omega) (z.2.1.symm.trans t28)⟩)
      rw [g2 c' e' hc' he' q, List.filter_cons_of_neg (by rw [no]; decide), List.filter_nil]
      exact (List.append_nil _).symm
  · show SRz (sI S') J' A (F + 1) e' z (if z = a then F else φ z)
    rcases inn c' e' hc' he' z hz with hm | ⟨rfl, rfl, rfl⟩
    · obtain ⟨z1, z2, z3, z4, z5, z6⟩ := (xs e' he').1 c' hc' z hm
      rw [if_neg (na c' e' hc' he' z hm)]
      unfold SRz
      rw [g3 c' e' hc' he' z hm, k33, k34, k35, k37, ud_n (by omega), ud_n (by omega), ud_n (by omega), ud_n (by omega), ← k33, gF e' he' _ (by omega)]
      exact ⟨by omega, z2, z3, z4, z5, z6⟩
    · rw [if_pos rfl]
      unfold SRz
      refine ⟨by omega, by rw [k33, ud_s], by rw [q2, k34, ud_s], by rw [h6, k35, ud_s], by rw [q4, k37, ud_s]; exact (xe e' he').1, ?_⟩
      rw [q5, gF e' he' F (Nat.le_refl _)]
      exact (xe e' he').2
  · show ¬ sI S' z 6 = 0 ↔ LAt J' A (F + 1) (J' (A 38)) (if z = a then F else φ z)
    rcases inn c' e' hc' he' z hz with hm | ⟨rfl, rfl, rfl⟩
    · have lt := (xs e' he').2 c' hc' z hm
      have fF := ((xs e' he').1 c' hc' z hm).1
      rw [if_neg (na c' e' hc' he' z hm), g3 c' e' hc' he' z hm, lt, LAt_iff, LAt_iff]
      refine ⟨fun ⟨g, a1, a2, a3, a4⟩ => ⟨g, a1, by omega, by rw [k38, ud_n (by omega)]; exact a3, (sk _ g fF a2).mpr a4⟩, fun ⟨g, a1, a2, a3, a4⟩ => ?_⟩
      by_cases q : g = F
      · rw [q, k38, ud_s] at a3
        exact absurd rfl a3
      · rw [k38, ud_n q] at a3
        exact ⟨g, a1, by omega, a3, (sk _ g fF (by omega)).mp a4⟩
    · rw [if_pos rfl, q6, LAt_iff]
      refine ⟨fun y => absurd rfl y, fun ⟨g, a1, a2, _⟩ => absurd a2 (by omega)⟩
