-- tick of the class, any number of ticks
theorem u_X7_tick0 {Q : Option Value → MM → Prop} {X : String → MM → Prop} {n : Nat} {lv : Lv} {st : List Value} {S : MM} {c z : Nat} (h : bX7_tick_0 Q X (wpn (kX7_tick Q X) n) lv st S c z) : wpn (kX7_tick Q X) (n + 1) 0 lv st S c z := h
theorem z_tick {Q : Option Value → MM → Prop} {X : String → MM → Prop} {S0 : MM} {x : Nat} {v : Int32} (hT : TY S0) (ir : IR S0) (kx : sK S0 x = 8) (K : ∀ r S', SH [2, 3, 4, 5, 6, 7, 8, 19] S0 S' → IR S' → Q (some (.int r)) S') (XeI : ∀ S', SH [2, 3, 4, 5, 6, 7, 8, 19] S0 S' → IR S' → X eI S') : wX7_tick [.ref x, .int v] S0 Q X := by
  have th : ∀ lv, wpn (kX7_tick Q X) 2 12 lv [] S0 0 0 := fun lv => And.intro ⟨by decide, by decide⟩ (XeI _ SH.rf ir)
  rcases pk_ix v (n := 1001) (by decide) with h | h | ⟨k, hk, e⟩
  · refine Exists.intro 3 (u_X7_tick0 ?_)
    unfold bX7_tick_0
    exact e_ldI rfl (e_cI ⟨fun _ => th _, fun h0 => absurd (by
      have q := Int32.lt_iff_toInt_lt.mp h
      show v < 1
      rw [Int32.lt_iff_toInt_lt]
      have h3 : (0 : Int32).toInt = 0 := by decide
      have h4 : (1 : Int32).toInt = 1 := by decide
      omega) h0⟩)
  · refine Exists.intro 3 (u_X7_tick0 ?_)
    unfold bX7_tick_0
    exact e_ldI rfl (e_cI ⟨fun _ => th _, fun _ => e_ldI rfl (e_cI ⟨fun h1 => absurd (show v ≤ 1000 from h1) (fun z => by
      have q := Int32.le_iff_toInt_le.mp h
      have q2 := Int32.le_iff_toInt_le.mp z
      have h3 : (1000 : Int32).toInt = 1000 := by decide
      have h4 : (nI 1001).toInt = 1001 := by decide
      omega), fun _ => th _⟩)⟩)
  · subst e
    exact z_X7_tick hT ir kx hk (fun r S' s i => K r S' s i) (fun S' s i => XeI S' s i)
-- port, manner, lose of the reference: thrown by the arguments alone
theorem z_MisEnd' {S : MM} {v : Int32} {Q : Option Value → MM → Prop} (K0 : bE v → Q (some (.int (nI 0))) S) (K1 : ∀ j, j < 2 → v = nI j → Q (some (.int (nI 1))) S) : wX8_isEnd [.int v] S Q :=
  Exists.intro 3 (And.intro (fun h0 => And.intro (Or.inr rfl) (K1 0 (by decide) h0)) (fun h0 => And.intro (fun h1 => And.intro (Or.inr rfl) (K1 1 (by decide) h1)) (fun h1 => And.intro (Or.inl rfl) (K0 (by
    rcases pk_ix v (n := 2) (by decide) with h | h | ⟨j, hj, e⟩
    · exact Or.inl h
    · exact Or.inr h
    · have : j = 0 ∨ j = 1 := by omega
      rcases this with rfl | rfl
      · exact absurd e h0
      · exact absurd e h1)))))
theorem z_MisPort' {S : MM} {v : Int32} {Q : Option Value → MM → Prop} (K0 : b8 v → Q (some (.int (nI 0))) S) (K1 : ∀ j, j < 8 → v = nI j → Q (some (.int (nI 1))) S) : wX8_isPort [.int v] S Q := by
  refine Exists.intro 3 (And.intro (fun h0 => And.intro (Or.inl rfl) (K0 (Or.inl h0))) (fun h0 => And.intro (fun h1 => And.intro (Or.inl rfl) (K0 (Or.inr h1))) (fun h1 => ?_)))
  rcases pk_ix v (n := 8) (by decide) with h | h | ⟨j, hj, e⟩
  · exact absurd h h0
  · exact absurd h h1
  · exact And.intro (Or.inr rfl) (K1 j hj e)
theorem z_MisCable' {S : MM} {v : Int32} {Q : Option Value → MM → Prop} (K0 : b8 v → Q (some (.int (nI 0))) S) (K1 : ∀ j, j < 8 → v = nI j → Q (some (.int (nI 1))) S) : wX8_isCable [.int v] S Q := by
  refine Exists.intro 3 (And.intro (fun h0 => And.intro (Or.inl rfl) (K0 (Or.inl h0))) (fun h0 => And.intro (fun h1 => And.intro (Or.inl rfl) (K0 (Or.inr h1))) (fun h1 => ?_)))
  rcases pk_ix v (n := 8) (by decide) with h | h | ⟨j, hj, e⟩
  · exact absurd h h0
  · exact absurd h h1
  · exact And.intro (Or.inr rfl) (K1 j hj e)
theorem not_le' {v w : Int32} (h : ¬ v ≤ w) : w < v := by
  rw [Int32.lt_iff_toInt_lt]
  rw [Int32.le_iff_toInt_le] at h
  omega
theorem q_port_bad {Q : Option Value → MM → Prop} {S0 : MM} {m n : Nat} {A : Nat → Nat} {lv : Lv} (hM : MS S0 m A) (im : IM S0 m A) (g0 : lvg lv 0 = some (.ref m)) (h : ∀ S', SM [0, 3, 4, 44] m A S0 S' → IM S' m A → sI S' m 0 = 1 → Q none S') : wpn (kX8_port Q) (n + 2) 37 lv [.ref m] S0 0 0 := by
  refine u_X8_port_37 ?_
  unfold bX8_port_37
  refine e_cI (u_X8_port_42 ?_)
  unfold bX8_port_42
  refine y_mI (W := [0, 3, 4, 44]) hM SM.rf im (by decide) (fun N e => nomatch (show (none : Option Nat) = some N from e)) (fun S1 he sh im1 => ?_)
  have v0 : sI S1 m 0 = 1 := by rw [he]; exact rd_s
  exact e_ldA g0 (e_gV (v := 1) (SM_k sh hM.1) v0 ⟨fun z => absurd z (by decide), fun _ => e_rV (h S1 sh im1 v0)⟩)
theorem q_port_good {Q : Option Value → MM → Prop} {S0 : MM} {m n : Nat} {A : Nat → Nat} {lv : Lv} {j i : Nat} {k p : Int32} (hj : j < 2) (hi : i < 8) (hM : MS S0 m A) (im : IM S0 m A) (g0 : lvg lv 0 = some (.ref m)) (g1 : lvg lv 1 = some (.int (nI j))) (g2 : lvg lv 2 = some (.int (nI i))) (g3 : lvg lv 3 = some (.int k)) (g4 : lvg lv 4 = some (.int p)) (h : ∀ S', SM [0, 3, 4, 44] m A S0 S' → IM S' m A → sI S' m 0 = 0 → Q none S') : wpn (kX8_port Q) (n + 3) 41 lv [.ref m] S0 0 0 := by
  refine u_X8_port_41 ?_
  unfold bX8_port_41
  refine e_cI (u_X8_port_42 ?_)
  unfold bX8_port_42
  refine y_mI (W := [0, 3, 4, 44]) hM SM.rf im (by decide) (fun N e => nomatch (show (none : Option Nat) = some N from e)) (fun S1 he sh im1 => ?_)
  have v0 : sI S1 m 0 = 0 := by rw [he]; exact rd_s
  refine e_ldA g0 (e_gV (v := 0) (SM_k sh hM.1) v0 ⟨fun _ => u_X8_port_53 ?_, fun z => absurd (by decide) z⟩)
  unfold bX8_port_53
  refine e_ldA g0 (e_gR (SM_k sh hM.1) (SM_r sh (hM.2.1 3 (by decide)).1) (e_cN 8 rfl (e_ldI g1 (e_mul (e_ldI g2 (e_add (e_ldI g3 (y_mA (N := 16) hM sh im1 (by decide) rfl rfl (by omega) (by decide) (by decide) (fun N e => nomatch (show (none : Option Nat) = some N from e)) (fun e => absurd e (by decide)) (fun S2 he2 sh2 im2 => ?_)))))))))
  have v2 : sI S2 m 0 = 0 := by rw [he2]; exact rd_a v0 (Ne.symm (ne_m hM (by decide)))
  refine e_ldA g0 (e_gR (SM_k sh2 hM.1) (SM_r sh2 (hM.2.1 4 (by decide)).1) (e_cN 8 rfl (e_ldI g1 (e_mul (e_ldI g2 (e_add (e_ldI g4 (y_mA (N := 16) hM sh2 im2 (by decide) rfl rfl (by omega) (by decide) (by decide) (fun N e => nomatch (show (none : Option Nat) = some N from e)) (fun e => absurd e (by decide)) (fun S3 he3 sh3 im3 => ?_)))))))))
  have v3 : sI S3 m 0 = 0 := by rw [he3]; exact rd_a v2 (Ne.symm (ne_m hM (by decide)))
  exact e_ldA g0 (And.intro (SM_k sh3 hM.1) (And.intro ⟨by decide, by decide⟩ (z_X8_isNotQuiet (MS_SM hM sh3) im3 (fun S9 s9 im9 => e_rV (h S9 (SM.tr sh3 s9 (by decide)) im9 ((s9.2.2.2.2.2 0 (by decide)).trans v3))))))
theorem z_Mport {Q : Option Value → MM → Prop} {S0 : MM} {m : Nat} {A : Nat → Nat} {v w k p : Int32} (hM : MS S0 m A) (im : IM S0 m A) (hb : PB v w k p → ∀ S', SM [0, 3, 4, 44] m A S0 S' → IM S' m A → sI S' m 0 = 1 → Q none S') (ho : ¬ PB v w k p → ∀ S', SM [0, 3, 4, 44] m A S0 S' → IM S' m A → sI S' m 0 = 0 → Q none S') : wX8_port [.ref m, .int v, .int w, .int k, .int p] S0 Q := by
  have th : PB v w k p → wpn (kX8_port Q) 9 37 (lv_args 0 [.ref m, .int v, .int w, .int k, .int p]) [.ref m] S0 0 0 := fun h => q_port_bad (n := 7) hM im rfl (hb h)
  refine Exists.intro 10 (u_X8_port_0 ?_)
  unfold bX8_port_0
  refine e_ldA rfl (e_ldI rfl (And.intro ⟨by decide, by decide⟩ (z_MisEnd' (fun h => e_ifN (by decide) (fun _ => th (Or.inl h)) (fun q => absurd rfl q)) (fun j hj ej => e_ifN (by decide) (fun q => absurd q (by decide)) (fun _ => ?_)))))
  refine e_ldI rfl (And.intro ⟨by decide, by decide⟩ (z_MisPort' (fun h => e_ifN (by decide) (fun _ => th (Or.inr (Or.inl h))) (fun q => absurd rfl q)) (fun i hi ei => e_ifN (by decide) (fun q => absurd q (by decide)) (fun _ => ?_))))
  refine e_ldI rfl ⟨fun h => th (Or.inr (Or.inr (Or.inl (Or.inl h)))), fun k0 => e_ldI rfl (e_cI ⟨fun h => th (Or.inr (Or.inr (Or.inl (Or.inr h)))), fun k1 => ?_⟩)⟩
  refine e_ldI rfl ⟨fun h => th (Or.inr (Or.inr (Or.inr (Or.inl h)))), fun p0 => e_ldI rfl (e_cI ⟨fun p1 => ?_, fun h => th (Or.inr (Or.inr (Or.inr (Or.inr (not_le' h)))))⟩)⟩
  have nb : ¬ PB v w k p := fun q => by
    rcases q with q | q | q | q
    · exact nbE hj (ej ▸ q)
    · exact nb8 hi (ei ▸ q)
    · exact q.elim k0 k1
    · exact q.elim p0 (fun z => absurd p1 (fun y => by
        have a := Int32.lt_iff_toInt_lt.mp z
        have b := Int32.le_iff_toInt_le.mp y
        omega))
  subst ej ei
  exact q_port_good (n := 6) hj hi hM im rfl rfl rfl rfl rfl (ho nb)
