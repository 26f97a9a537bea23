/-! SIMULATION 22: the things that are left; comes, whole -/
theorem mv_u {J : Mm} {m t u : Nat} {A : Nat → Nat} (hA : AD m A) (k27 : nI (J (A 27) t).toNatClampNeg = J (A 27) t) (k28 : nI (J (A 28) t).toNatClampNeg = J (A 28) t) : tg (f_X8_moves J m A t u) A u = tg J A t := by
  funext i
  have ci : i = 0 ∨ i = 1 ∨ i = 2 ∨ i = 3 ∨ i = 4 ∨ i = 5 ∨ i = 6 ∨ i = 7 ∨ i = 8 ∨ i = 9 ∨ i = 10 ∨ i = 11 ∨ i = 12 ∨ i = 13 ∨ 14 ≤ i := by omega
  rcases ci with rfl | rfl | rfl | rfl | rfl | rfl | rfl | rfl | rfl | rfl | rfl | rfl | rfl | rfl | hi
  · show f_X8_moves J m A t u (A 27) u = J (A 27) t
    simp only [f_X8_moves, g_X8_moves_50_0, g_X8_moves_50_1, g_X8_moves_50_2, g_X8_moves_50_3, g_X8_moves_50_4, g_X8_moves_50_5, g_X8_moves_50_6, g_X8_moves_50_7, g_X8_moves_50_8, g_X8_moves_50_9, g_X8_moves_50_10]
    simp (disch := first | decide | omega) only [mu_o hA, up2_self, mu_j]
    exact k27
  · show f_X8_moves J m A t u (A 28) u = J (A 28) t
    simp only [f_X8_moves, g_X8_moves_50_0, g_X8_moves_50_1, g_X8_moves_50_2, g_X8_moves_50_3, g_X8_moves_50_4, g_X8_moves_50_5, g_X8_moves_50_6, g_X8_moves_50_7, g_X8_moves_50_8, g_X8_moves_50_9, g_X8_moves_50_10]
    simp (disch := first | decide | omega) only [mu_o hA, up2_self, mu_j]
    exact k28
  · show f_X8_moves J m A t u (A 29) u = J (A 29) t
    simp only [f_X8_moves, g_X8_moves_50_0, g_X8_moves_50_1, g_X8_moves_50_2, g_X8_moves_50_3, g_X8_moves_50_4, g_X8_moves_50_5, g_X8_moves_50_6, g_X8_moves_50_7, g_X8_moves_50_8, g_X8_moves_50_9, g_X8_moves_50_10]
    simp (disch := first | decide | omega) only [mu_o hA, up2_self, mu_j]
  · show f_X8_moves J m A t u (A 30) u = J (A 30) t
    simp only [f_X8_moves, g_X8_moves_50_0, g_X8_moves_50_1, g_X8_moves_50_2, g_X8_moves_50_3, g_X8_moves_50_4, g_X8_moves_50_5, g_X8_moves_50_6, g_X8_moves_50_7, g_X8_moves_50_8, g_X8_moves_50_9, g_X8_moves_50_10]
    simp (disch := first | decide | omega) only [mu_o hA, up2_self, mu_j]
  · show f_X8_moves J m A t u (A 31) (10 * u + 0) = J (A 31) (10 * t + 0)
    simp only [f_X8_moves, g_X8_moves_50_0, g_X8_moves_50_1, g_X8_moves_50_2, g_X8_moves_50_3, g_X8_moves_50_4, g_X8_moves_50_5, g_X8_moves_50_6, g_X8_moves_50_7, g_X8_moves_50_8, g_X8_moves_50_9, g_X8_moves_50_10]
    simp (disch := first | decide | omega) only [mu_o hA, up2_self, mu_j]
  · show f_X8_moves J m A t u (A 31) (10 * u + 1) = J (A 31) (10 * t + 1)
    simp only [f_X8_moves, g_X8_moves_50_0, g_X8_moves_50_1, g_X8_moves_50_2, g_X8_moves_50_3, g_X8_moves_50_4, g_X8_moves_50_5, g_X8_moves_50_6, g_X8_moves_50_7, g_X8_moves_50_8, g_X8_moves_50_9, g_X8_moves_50_10]
    simp (disch := first | decide | omega) only [mu_o hA, up2_self, mu_j]
  · show f_X8_moves J m A t u (A 31) (10 * u + 2) = J (A 31) (10 * t + 2)
    simp only [f_X8_moves, g_X8_moves_50_0, g_X8_moves_50_1, g_X8_moves_50_2, g_X8_moves_50_3, g_X8_moves_50_4, g_X8_moves_50_5, g_X8_moves_50_6, g_X8_moves_50_7, g_X8_moves_50_8, g_X8_moves_50_9, g_X8_moves_50_10]
    simp (disch := first | decide | omega) only [mu_o hA, up2_self, mu_j]
  · show f_X8_moves J m A t u (A 31) (10 * u + 3) = J (A 31) (10 * t + 3)
    simp only [f_X8_moves, g_X8_moves_50_0, g_X8_moves_50_1, g_X8_moves_50_2, g_X8_moves_50_3, g_X8_moves_50_4, g_X8_moves_50_5, g_X8_moves_50_6, g_X8_moves_50_7, g_X8_moves_50_8, g_X8_moves_50_9, g_X8_moves_50_10]
    simp (disch := first | decide | omega) only [mu_o hA, up2_self, mu_j]
  · show f_X8_moves J m A t u (A 31) (10 * u + 4) = J (A 31) (10 * t + 4)
    simp only [f_X8_moves, g_X8_moves_50_0, g_X8_moves_50_1, g_X8_moves_50_2, g_X8_moves_50_3, g_X8_moves_50_4, g_X8_moves_50_5, g_X8_moves_50_6, g_X8_moves_50_7, g_X8_moves_50_8, g_X8_moves_50_9, g_X8_moves_50_10]
    simp (disch := first | decide | omega) only [mu_o hA, up2_self, mu_j]
  · show f_X8_moves J m A t u (A 31) (10 * u + 5) = J (A 31) (10 * t + 5)
    simp only [f_X8_moves, g_X8_moves_50_0, g_X8_moves_50_1, g_X8_moves_50_2, g_X8_moves_50_3, g_X8_moves_50_4, g_X8_moves_50_5, g_X8_moves_50_6, g_X8_moves_50_7, g_X8_moves_50_8, g_X8_moves_50_9, g_X8_moves_50_10]
    simp (disch := first | decide | omega) only [mu_o hA, up2_self, mu_j]
  · show f_X8_moves J m A t u (A 31) (10 * u + 6) = J (A 31) (10 * t + 6)
    simp only [f_X8_moves, g_X8_moves_50_0, g_X8_moves_50_1, g_X8_moves_50_2, g_X8_moves_50_3, g_X8_moves_50_4, g_X8_moves_50_5, g_X8_moves_50_6, g_X8_moves_50_7, g_X8_moves_50_8, g_X8_moves_50_9, g_X8_moves_50_10]
    simp (disch := first | decide | omega) only [mu_o hA, up2_self, mu_j]
  · show f_X8_moves J m A t u (A 31) (10 * u + 7) = J (A 31) (10 * t + 7)
    simp only [f_X8_moves, g_X8_moves_50_0, g_X8_moves_50_1, g_X8_moves_50_2, g_X8_moves_50_3, g_X8_moves_50_4, g_X8_moves_50_5, g_X8_moves_50_6, g_X8_moves_50_7, g_X8_moves_50_8, g_X8_moves_50_9, g_X8_moves_50_10]
    simp (disch := first | decide | omega) only [mu_o hA, up2_self, mu_j]
  · show f_X8_moves J m A t u (A 31) (10 * u + 8) = J (A 31) (10 * t + 8)
    simp only [f_X8_moves, g_X8_moves_50_0, g_X8_moves_50_1, g_X8_moves_50_2, g_X8_moves_50_3, g_X8_moves_50_4, g_X8_moves_50_5, g_X8_moves_50_6, g_X8_moves_50_7, g_X8_moves_50_8, g_X8_moves_50_9, g_X8_moves_50_10]
    simp (disch := first | decide | omega) only [mu_o hA, up2_self, mu_j]
  · show f_X8_moves J m A t u (A 31) (10 * u + 9) = J (A 31) (10 * t + 9)
    simp only [f_X8_moves, g_X8_moves_50_0, g_X8_moves_50_1, g_X8_moves_50_2, g_X8_moves_50_3, g_X8_moves_50_4, g_X8_moves_50_5, g_X8_moves_50_6, g_X8_moves_50_7, g_X8_moves_50_8, g_X8_moves_50_9, g_X8_moves_50_10]
    simp (disch := first | decide | omega) only [mu_o hA, up2_self, mu_j]
  · unfold tg
    rw [if_neg (by omega), if_neg (by omega), if_neg (by omega), if_neg (by omega), if_neg (by omega), if_neg (by omega), if_neg (by omega), if_neg (by omega), if_neg (by omega), if_neg (by omega)]
theorem mv_n {J : Mm} {m t u j : Nat} {A : Nat → Nat} (hA : AD m A) (hj : j ≠ u) : tg (f_X8_moves J m A t u) A j = tg J A j := by
  funext i
  unfold tg
  repeat' split
  all_goals simp only [f_X8_moves, g_X8_moves_50_0, g_X8_moves_50_1, g_X8_moves_50_2, g_X8_moves_50_3, g_X8_moves_50_4, g_X8_moves_50_5, g_X8_moves_50_6, g_X8_moves_50_7, g_X8_moves_50_8, g_X8_moves_50_9, g_X8_moves_50_10]
  all_goals simp (disch := first | decide | omega) only [mu_o hA, up2_self, mu_j]
abbrev nd (cl : Nat) (p : Nat → Int32) : Bool := !(decide (p 2 = nI cl))
theorem rg_s {J J' : Mm} {A : Nat → Nat} {i r : Nat} (h : ∀ t, i ≤ t → tg J' A t = tg J A t) : (List.range' i r).map (tg J' A) = (List.range' i r).map (tg J A) := List.map_congr_left (fun t ht => h t (List.mem_range'_1.mp ht).1)
theorem g142 {m nt nf cl : Nat} {A : Nat → Nat} (hA : AD m A) : ∀ r i k (J : Mm) (w : Int32), k ≤ i → J m 43 = nI cl → (∀ t, i ≤ t → nI (J (A 27) t).toNatClampNeg = J (A 27) t ∧ nI (J (A 28) t).toNatClampNeg = J (A 28) t) → ∃ n, n ≤ k + r ∧ (g_X8_comes_142 m A nt nf r i k J w).1 m 32 = nI n ∧ TG (g_X8_comes_142 m A nt nf r i k J w).1 A n = TG J A k ++ ((List.range' i r).map (tg J A)).filter (nd cl) ∧ (∀ kk j, dm kk → (kk < 27 ∨ 31 < kk) → (g_X8_comes_142 m A nt nf r i k J w).1 (A kk) j = J (A kk) j) ∧ ∀ j, j ≠ 32 → (g_X8_comes_142 m A nt nf r i k J w).1 m j = J m j := by
  intro r
  induction r with
  | zero =>
    intro i k J w _ _ _
    refine ⟨k, by omega, up2_self _ _ _ _, ?_, fun kk j a _ => mm_a hA a, fun j h => mm_j h⟩
    show TG (up2 J m 32 (nI k)) A k = _
    rw [TG_c (J := J) (fun t _ => tg_k (fun kk hk => by
      have : ∀ kk ∈ ([27, 28, 29, 30, 31] : List Nat), dm kk := by decide
      funext j
      exact mm_a hA (this kk hk)))]
    simp
  | succ r ih =>
    intro i k J w hk h43 hr
    have e2 : tg J A i 2 = J (A 29) i := rfl
    rw [g_X8_comes_142]
    by_cases c : J (A 29) i = J m 43
    · rw [if_pos c]
      obtain ⟨n, h1, h2, h3, h4, h5⟩ := ih (i + 1) k J w (by omega) h43 (fun t ht => hr t (by omega))
      refine ⟨n, by omega, h2, ?_, h4, h5⟩
      rw [h3, List.range'_succ, List.map_cons, List.filter_cons_of_neg (by rw [nd, e2, c, h43]; simp)]
    · rw [if_neg c]
      try dsimp only
      have h43' : f_X8_moves J m A i k m 43 = nI cl := (mv_m hA).trans h43
      have tn : ∀ t, t ≠ k → tg (f_X8_moves J m A i k) A t = tg J A t := fun t ht => mv_n hA ht
      have tu := mv_u (u := k) hA (hr i (Nat.le_refl i)).1 (hr i (Nat.le_refl i)).2
      obtain ⟨n, h1, h2, h3, h4, h5⟩ := ih (i + 1) (k + 1) (f_X8_moves J m A i k) w (by omega) h43' (fun t ht => by
        have q := tn t (by omega)
        have q0 : f_X8_moves J m A i k (A 27) t = J (A 27) t := congrFun q 0
        have q1 : f_X8_moves J m A i k (A 28) t = J (A 28) t := congrFun q 1
        rw [q0, q1]
        exact hr t (by omega))
      refine ⟨n, by omega, h2, ?_, fun kk j a c => (h4 kk j a c).trans (mv_o hA a c), fun j h => (h5 j h).trans (mv_m hA)⟩
      rw [h3, List.range'_succ, List.map_cons, List.filter_cons_of_pos (by rw [nd, e2, ← h43]; simp [c]), rg_s (fun t ht => tn t (by omega)), TG_s, tu, TG_c (fun t ht => tn t (by omega)), List.append_assoc]
      rfl
theorem g16 {m nt nf : Nat} {A : Nat → Nat} (hA : AD m A) : ∀ r i (J : Mm) (w : Int32), i + r = 16 → (∀ k j, dm k → k ≠ 15 → (g_X8_comes_16 m A nt nf r i J w).1 (A k) j = J (A k) j) ∧ (∀ j, (g_X8_comes_16 m A nt nf r i J w).1 m j = J m j) ∧ (∀ x, x < 16 → i ≤ x → (g_X8_comes_16 m A nt nf r i J w).1 (A 15) x = nI 0) ∧ ∀ x, x < i → (g_X8_comes_16 m A nt nf r i J w).1 (A 15) x = J (A 15) x := by
  intro r
  induction r with
  | zero => intro i J w hi; exact ⟨fun _ _ _ _ => rfl, fun _ => rfl, fun x h1 h2 => absurd h1 (by omega), fun _ _ => rfl⟩
  | succ r ih =>
    intro i J w hi
    rw [g_X8_comes_16]
    try dsimp only
    obtain ⟨h1, h2, h3, h4⟩ := ih (i + 1) (up2 J (A 15) i (nI 0)) w (by omega)
    refine ⟨fun k j a c => (h1 k j a c).trans (mu_o hA (by decide) a c), fun j => (h2 j).trans (am_m hA (by decide)), fun x hx hi => ?_, fun x hx => (h4 x (by omega)).trans (mu_j (by omega))⟩
    by_cases q : x = i
    · subst q
      rw [h4 x (by omega), up2_self]
    · exact h3 x hx (by omega)
theorem flt_comm {α : Type} {p q : α → Bool} {L : List α} : (L.filter p).filter q = (L.filter q).filter p := by
  rw [List.filter_filter, List.filter_filter]
  congr 1
  funext a
  exact Bool.and_comm _ _
/-- the cells of the reference that the coming writes -/
abbrev wC (k : Nat) : Prop := k = 7 ∨ k = 8 ∨ k = 14 ∨ k = 15 ∨ k = 17 ∨ k = 18 ∨ k = 38 ∨ k = 41 ∨ k = 42 ∨ (27 ≤ k ∧ k ≤ 31)
theorem sim_comes {S : MM} {b m cl nt nf : Nat} {A Bc : Nat → Nat} {I J : Mm} (hL : LY S b) (hO : OC S) (hA : AD m A) (hB : ∀ c, c < 8 → Bc c < 2 ^ 31) (hcl : cl < 2 ^ 31) (c0 : I b 2 = nI cl) (m43 : J m 43 = nI cl) (s27 : ∀ t, ∃ k, k < 8 ∧ J (A 27) t = nI k) (s28 : ∀ t, ∃ e, e < 2 ∧ J (A 28) t = nI e) (ln : LN (sR S) b I J A nt) (du : ∀ c e, c < 8 → e < 2 → DU (CN I (sR S) b c e) cl (Bc c)) (l1 : ∀ c e, c < 8 → e < 2 → ∃ n, n < 8 ∧ I (Ln (sR S) b c e) 1 = nI n) (cx : ∀ c, c < 8 → DCb (sR S) b I J A nt c ∨ ∃ y, UCb (sR S) b I J A c y) (rp : ∀ x, x < 16 → RP (sR S) b I J A x ∧ I (px (sR S) b x) 12 = nI 0) : ∃ n, n ≤ nt ∧ (f_X8_comes J m A nt nf).1 m 32 = nI n ∧ TG (f_X8_comes J m A nt nf).1 A n = (TG J A nt).filter (nd cl) ∧ (∀ x, x < 16 → RPq (sR S) b (f_X7_bringAll I (sR S) b) (f_X8_comes J m A nt nf).1 A x) ∧ LN (sR S) b (f_X7_bringAll I (sR S) b) (f_X8_comes J m A nt nf).1 A n ∧ (∀ c e, c < 8 → e < 2 → DU (CN (f_X7_bringAll I (sR S) b) (sR S) b c e) (cl + 1) (Bc c) ∧ ∃ n, n < 8 ∧ (f_X7_bringAll I (sR S) b) (Ln (sR S) b c e) 1 = nI n) ∧ LGc (sR S) b I (f_X7_bringAll I (sR S) b) ∧ (∀ x, x < 16 → (((f_X7_bringAll I (sR S) b) (px (sR S) b x) 3 = 0) ↔ (I (px (sR S) b x) 3 = 0)) ∧ (I (px (sR S) b x) 3 = 0 → AG (sR S) b x I (f_X7_bringAll I (sR S) b))) ∧ (∀ k j, dm k → ¬ wC k → (f_X8_comes J m A nt nf).1 (A k) j = J (A k) j) ∧ ∀ j, j ≠ 32 → j ≠ 45 → j ≠ 49 → (f_X8_comes J m A nt nf).1 m j = J m j := by
  have E1 : f_X7_bringAll I (sR S) b = g_X7_bringAll_2 (sR S) b 8 0 I := rfl
  have E2 : f_X8_comes J m A nt nf = g_X8_comes_142 m A nt nf nt 0 0 (g_X8_comes_37 m A nt nf 8 0 (g_X8_comes_16 m A nt nf 16 0 J (J (A 42) 0 + J (A 42) 1)).1 (g_X8_comes_16 m A nt nf 16 0 J (J (A 42) 0 + J (A 42) 1)).2).1 (g_X8_comes_37 m A nt nf 8 0 (g_X8_comes_16 m A nt nf 16 0 J (J (A 42) 0 + J (A 42) 1)).1 (g_X8_comes_16 m A nt nf 16 0 J (J (A 42) 0 + J (A 42) 1)).2).2 := rfl
  rw [E1, E2]
  obtain ⟨a1, a2, a3, _⟩ := g16 (nt := nt) (nf := nf) hA 16 0 J (J (A 42) 0 + J (A 42) 1) (by omega)
  generalize (g_X8_comes_16 m A nt nf 16 0 J (J (A 42) 0 + J (A 42) 1)).2 = w1
  generalize (g_X8_comes_16 m A nt nf 16 0 J (J (A 42) 0 + J (A 42) 1)).1 = J1 at a1 a2 a3 ⊢
  have t1 : TG J1 A nt = TG J A nt := TG_c (fun t _ => tg_k (fun k hk => by
    have : ∀ k ∈ ([27, 28, 29, 30, 31] : List Nat), dm k ∧ k ≠ 15 := by decide
    funext j
    exact a1 k j (this k hk).1 (this k hk).2))
  have j27 : ∀ t, J1 (A 27) t = J (A 27) t := fun t => a1 27 t (by decide) (by decide)
  have j28 : ∀ t, J1 (A 28) t = J (A 28) t := fun t => a1 28 t (by decide) (by decide)
  have pq0 : PQ S b m cl A Bc I J1 0 I J1 := by
    refine ⟨fun x hx => ⟨RP_h (rp x hx).1 AG.rf (fun k j h1 h2 h15 h3 => a1 k j h1 h15), ?_⟩, ST.rf, LGc.rf, fun _ _ => ⟨Iff.rfl, fun _ => AG.rf⟩, fun c e hc he => ⟨fun _ => LC2.rf, fun z => absurd z (by omega)⟩⟩
    · rw [a3 x hx (Nat.zero_le x)]; exact (rp x hx).2
  have key := comes_sim (nf := nf) hL hO hA hB hcl c0 ((a2 43).trans m43) (fun t ht => by rw [j27]; exact s27 t) (fun t ht => by rw [j28]; exact s28 t) (fun c e hc he => ⟨by rw [t1]; exact (ln c e hc he).1, du c e hc he, l1 c e hc he, (ln c e hc he).2.2⟩) (fun c hc => by
    rcases cx c hc with ⟨d1, d2⟩ | ⟨y, d1, d2, d3, d4, d5, d6, d7⟩
    · exact Or.inl ⟨d1, fun t ht => by rw [j27]; exact d2 t ht⟩
    · exact Or.inr ⟨y, d1, d2, d3, d4, d5, fun e he => by rw [a1 22 _ (by decide) (by decide)]; exact d6 e he, d7⟩) 8 0 I J1 w1 rfl pq0
  generalize (g_X8_comes_37 m A nt nf 8 0 J1 w1).2 = w2
  generalize (g_X8_comes_37 m A nt nf 8 0 J1 w1).1 = J2 at key ⊢
  generalize g_X7_bringAll_2 (sR S) b 8 0 I = I' at key ⊢
  obtain ⟨k1, k2, k3, k4, k5⟩ := key
  have t2 : TG J2 A nt = TG J A nt := (st_tg k2).trans t1
  have c27 : ∀ t, nI (J2 (A 27) t).toNatClampNeg = J2 (A 27) t ∧ nI (J2 (A 28) t).toNatClampNeg = J2 (A 28) t := fun t => by
    obtain ⟨k, hk, ek⟩ := s27 t
    obtain ⟨e, he, ee⟩ := s28 t
    rw [st_k k2 (by decide), st_k k2 (by decide), j27, j28, ek, ee, nI_cl (by omega), nI_cl (by omega)]
    exact ⟨rfl, rfl⟩
  obtain ⟨n, n1, n2, n3, n4, n5⟩ := g142 (nt := nt) (nf := nf) (cl := cl) hA nt 0 0 J2 w2 (Nat.le_refl 0) ((k2.2 43 (by decide) (by decide)).trans ((a2 43).trans m43)) (fun t _ => c27 t)
  generalize (g_X8_comes_142 m A nt nf nt 0 0 J2 w2).1 = J3 at n2 n3 n4 n5 ⊢
  have t3 : TG J3 A n = (TG J A nt).filter (nd cl) := by
    rw [n3, ← t2, ← List.range_eq_range']
    rfl
  refine ⟨n, by omega, n2, t3, fun x hx => RPq_k (k1 x hx) AG.rf (fun k j a c _ => n4 k j a (by omega)), fun c e hc he => ⟨?_, ?_, ?_⟩, fun c e hc he => ⟨((k5 c e hc he).2 hc).2.1, ((k5 c e hc he).2 hc).2.2.1⟩, k3, k4, fun k j a c => ?_, fun j h1 h2 h3 => ?_⟩
  · rw [((k5 c e hc he).2 hc).1, t3, (ln c e hc he).1]
    exact flt_comm
  · rw [k3.2.2.2 c e hc he, (ln c e hc he).2.1, n4 26 _ (by decide) (by decide), k2.1 26 _ (by decide) (by decide) (by decide) (by decide) (by decide) (by decide) (by decide) (by decide) (by decide) (by decide), a1 26 _ (by decide) (by decide)]
  · exact ((k5 c e hc he).2 hc).2.2.2
  · rw [n4 k j a (by omega), k2.1 k j a (by omega) (by omega) (by omega) (by omega) (by omega) (by omega) (by omega) (by omega) (by omega), a1 k j a (by omega)]
  · rw [n5 j h1, k2.2 j h2 h3, a2]
