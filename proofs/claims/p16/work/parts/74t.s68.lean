/-! SIMULATION 68: give of the class: lanes, rows, ends behind it -/
theorem giv_c {S S1 S' : MM} {b c e a nf : Nat} {v0 v1 v3 : Int32} (hL : LY S b) (hO : OC S) (hc : c < 8) (he : e < 2) (fk : ∀ c' e', c' < 8 → e' < 2 → FOK (sI S) (sR S) b c' e') (n5 : sI S (Ln (sR S) b c e) 5 = nI nf) (hnf : nf < 200) (af : AF S S1 (Ln (sR S) b c e) a nf) (ch : CHn S1 S' a (En (sR S) b e) b v0 v1 v3) (le : LYE (sR S) (sR S') b) : (CF (sI S') (sR S') b c e = CF (sI S) (sR S) b c e ++ [a]) ∧ (∀ c' e', c' < 8 → e' < 2 → ¬ (c' = c ∧ e' = e) → CF (sI S') (sR S') b c' e' = CF (sI S) (sR S) b c' e') ∧ (∀ c' e', c' < 8 → e' < 2 → ∀ z ∈ CF (sI S) (sR S) b c' e', sI S' z = sI S z) ∧ (∀ c' e', c' < 8 → e' < 2 → FOK (sI S') (sR S') b c' e') ∧ (∀ e', e' < 2 → ∀ s, EKc (sI S) (sR S) b e' s → EKc (sI S') (sR S') b e' s) ∧ P6 S (sI S) (sI S') := by
  obtain ⟨f, hf, e4, rr, ii, l1, l5, new⟩ := AF_f hL hc he af
  obtain ⟨h1, h2, h3, h4, h5, h6, h7, h8⟩ := ch
  have ka : sK S a = 0 ∨ sK S a = 3 := by
    rcases new with n | n
    · exact Or.inl n
    · refine Or.inr ?_
      have := ly_nn (j := (f + nf) % 200) hL.1 (ly_fa hL hc he).2.1 rfl (by rw [n]; simp)
      rw [n] at this
      exact this
  have nka : ∀ z k, sK S z = k → k ≠ 0 → k ≠ 3 → z ≠ a := fun z k hz h0 h3' y => by rw [y] at hz; omega
  -- ints of a cell that was there
  have cell : ∀ z k, sK S z = k → k ≠ 0 → k ≠ 2 → k ≠ 3 → k ≠ 4 → k ≠ 8 → sI S' z = sI S z := fun z k hz h0 h2' h3' h4' h8' => by
    rw [h3 z (nka z k hz h0 h3') (ne_k hz (ly_E hL he).2.1 h2') (ne_k hz hL.2 h8'), ii z (by rw [hz]; exact h0) (ne_k hz (ly_N hL hc he).2.1 h4')]
  have lane : ∀ c' e', c' < 8 → e' < 2 → sI S' (Ln (sR S) b c' e') = sI S1 (Ln (sR S) b c' e') := fun c' e' hc' he' => by
    have kN := (ly_N hL hc' he').2.1
    exact h3 _ (nka _ 4 kN (by decide) (by decide)) (ne_k kN (ly_E hL he).2.1 (by decide)) (ne_k kN hL.2 (by decide))
  have lane2 : ∀ c' e', c' < 8 → e' < 2 → ¬ (c' = c ∧ e' = e) → sI S' (Ln (sR S) b c' e') = sI S (Ln (sR S) b c' e') := fun c' e' hc' he' n => by
    rw [lane c' e' hc' he', ii _ (by rw [(ly_N hL hc' he').2.1]; decide) (fun y => n (i_Ln hL hO hc' hc he' he y))]
  have r4 : ∀ c' e', c' < 8 → e' < 2 → sR S' (Ln (sR S) b c' e') = sR S (Ln (sR S) b c' e') := fun c' e' hc' he' => by
    funext j
    rw [h2, rr _ (by rw [(ly_N hL hc' he').2.1]; decide) j, if_neg (fun y => absurd y.1 (ne_k (ly_N hL hc' he').2.1 (ly_fa hL hc he).2.1 (by decide)))]
  have fa' : ∀ c' e', c' < 8 → e' < 2 → fad (sR S') b c' e' = fad (sR S) b c' e' := fun c' e' hc' he' => by
    unfold fad
    rw [le.N c' e' hc' he', r4 c' e' hc' he']
  have ra : ∀ c' e', c' < 8 → e' < 2 → ∀ j, sR S' (fad (sR S') b c' e') j = if (c' = c ∧ e' = e) ∧ j = (f + nf) % 200 then some a else sR S (fad (sR S) b c' e') j := fun c' e' hc' he' j => by
    rw [fa' c' e' hc' he', h2, rr _ (by rw [(ly_fa hL hc' he').2.1]; decide) j]
    by_cases q : c' = c ∧ e' = e
    · obtain ⟨rfl, rfl⟩ := q
      by_cases q2 : j = (f + nf) % 200
      · rw [if_pos ⟨rfl, q2⟩, if_pos ⟨⟨rfl, rfl⟩, q2⟩]
      · rw [if_neg (fun y => q2 y.2), if_neg (fun y => q2 y.2)]
    · rw [if_neg (fun y => q (i_fa hL hO hc' hc he' he y.1)), if_neg (fun y => q y.1)]
  have E4 : sI S' (Ln (sR S) b c e) 4 = nI f := by rw [lane c e hc he, l1 4 (by decide)]; exact e4
  have E5 : sI S' (Ln (sR S) b c e) 5 = nI (nf + 1) := by rw [lane c e hc he]; exact l5
  refine ⟨?_, fun c' e' hc' he' n => ?_, fun c' e' hc' he' z hz => ?_, fun c' e' hc' he' => ?_, fun e' he' s hs => ?_, fun z hz => by rw [cell z 6 hz (by decide) (by decide) (by decide) (by decide) (by decide)]⟩
  · unfold CF fax
    rw [le.N c e hc he, E4, E5, e4, n5, nI_cl (by omega), nI_cl (by omega), nI_cl (by omega), List.range_succ, List.map_append]
    congr 1
    · refine List.map_congr_left (fun k hk => ?_)
      have hk := List.mem_range.mp hk
      rw [ra c e hc he, if_neg (fun y => by omega)]
    · show [(sR S' (fad (sR S') b c e) ((f + nf) % 200)).getD 0] = [a]
      rw [ra c e hc he, if_pos ⟨⟨rfl, rfl⟩, rfl⟩]
      rfl
  · unfold CF fax
    rw [le.N c' e' hc' he', lane2 c' e' hc' he' n]
    refine List.map_congr_left (fun k _ => ?_)
    rw [ra c' e' hc' he', if_neg (fun y => n y.1)]
  · have kz := CF_k hL hc' he' (fk c' e' hc' he') z hz
    have nz := af_new (I := sI S) hL hO hc he hc' he' hf hnf e4 n5 (fk c' e' hc' he') new z hz
    rw [h3 z nz (ne_k kz (ly_E hL he).2.1 (by decide)) (ne_k kz hL.2 (by decide)), ii z (by rw [kz]; decide) (ne_k kz (ly_N hL hc he).2.1 (by decide))]
  · by_cases q : c' = c ∧ e' = e
    · obtain ⟨rfl, rfl⟩ := q
      unfold FOK
      rw [le.N c' e' hc he, E4, E5]
      refine ⟨⟨f, hf, rfl⟩, ⟨nf + 1, by omega, rfl⟩, fun k hk => ?_⟩
      rw [nI_cl (by omega)] at hk
      rw [nI_cl (by omega), ra c' e' hc he]
      by_cases q2 : (f + k) % 200 = (f + nf) % 200
      · rw [if_pos ⟨⟨rfl, rfl⟩, q2⟩]
        simp
      · rw [if_neg (fun y => q2 y.2)]
        have := (fk c' e' hc he).2.2 k (by rw [n5, nI_cl (by omega)]; have : k ≠ nf := (fun y => q2 (by rw [y])); omega)
        rw [e4, nI_cl (by omega)] at this
        exact this
    · unfold FOK
      rw [le.N c' e' hc' he', lane2 c' e' hc' he' q]
      refine ⟨(fk c' e' hc' he').1, (fk c' e' hc' he').2.1, fun k hk => ?_⟩
      rw [ra c' e' hc' he', if_neg (fun y => q y.1)]
      exact (fk c' e' hc' he').2.2 k hk
  · have kE := (ly_E hL he').2.1
    have eE : ∀ k, k ≠ 7 → sI S' (En (sR S) b e') k = sI S (En (sR S) b e') k := fun k hk => by
      by_cases q : e' = e
      · rw [q, h4 k hk, ii _ (by rw [(ly_E hL he).2.1]; decide) (ne_k (ly_E hL he).2.1 (ly_N hL hc he).2.1 (by decide))]
      · rw [h3 _ (nka _ 2 kE (by decide) (by decide)) (fun y => q (i_E hL hO he' he y)) (ne_k kE hL.2 (by decide)), ii _ (by rw [kE]; decide) (ne_k kE (ly_N hL hc he).2.1 (by decide))]
    have rE : sR S' (En (sR S) b e') = sR S (En (sR S) b e') := by
      funext j
      rw [h2, rr _ (by rw [kE]; decide) j, if_neg (fun y => absurd y.1 (ne_k kE (ly_fa hL hc he).2.1 (by decide)))]
    have ek : kad (sR S') b e' = kad (sR S) b e' := by
      unfold kad
      rw [le.E e' he', rE]
    unfold EKc
    rw [le.E e' he', ek, eE 3 (by decide), eE 5 (by decide), eE 6 (by decide), cell _ 10 (ly_ka hL he').2.1 (by decide) (by decide) (by decide) (by decide) (by decide)]
    exact hs
