/-! SIMULATION 44: note as a pair of halves -/
def NBq (v w u : Int32) : Prop := bE v ∨ b8 w ∨ u < 0 ∨ ¬ u < 22
def MDn (S : MM) (x : Nat) (v w u r : Int32) : Prop := (NBq v w u ∧ r = -1) ∨ ∃ e p i, e < 2 ∧ p < 8 ∧ i < 22 ∧ v = nI e ∧ w = nI p ∧ u = nI i ∧ r = g_X7_note_26 (sI S) (sR S) x e p i
theorem lt22 {u : Int32} (h0 : ¬ u < 0) (h : u < 22) : ∃ i, i < 22 ∧ u = nI i := by
  obtain ⟨n, hn, en⟩ := nn_nat h0
  subst en
  have q := Int32.lt_iff_toInt_lt.mp h
  rw [nI_toInt (by omega), show (22 : Int32).toInt = 22 from by decide] at q
  exact ⟨n, by omega, rfl⟩
theorem nbq {e p i : Nat} (he : e < 2) (hp : p < 8) (hi : i < 22) : ¬ NBq (nI e) (nI p) (nI i) := fun q => by
  rcases q with q | q | q | q
  · exact nbE he q
  · exact nb8 hp q
  · exact nI_pos (by omega) q
  · exact q (by
      show nI i < 22
      rw [Int32.lt_iff_toInt_lt, nI_toInt (by omega), show (22 : Int32).toInt = 22 from by decide]
      omega)
theorem k_note {Q : Option Value → MM → Prop} {S : MM} {x m out i : Nat} {A : Nat → Nat} {v w u : Int32} (hG : GN S x m out A i) (K : ∀ r, MDn S x v w u r → Q (some (.int r)) S) : wX7_note [.ref x, .int v, .int w, .int u] S Q := by
  have hL := ly_of hG
  have th : NBq v w u → wpn (kX7_note Q) 9 24 (lv_args 0 [.ref x, .int v, .int w, .int u]) [] S 0 0 := fun q => by
    refine u_X7_note_24 ?_
    unfold bX7_note_24
    exact e_cI (e_rI (K (-1) (Or.inl ⟨q, rfl⟩)))
  refine Exists.intro 10 (u_X7_note_0 ?_)
  unfold bX7_note_0
  refine e_ldI rfl (And.intro ⟨by decide, by decide⟩ (z_isEnd' (fun h => e_ifN (by decide) (fun _ => th (Or.inl h)) (fun q => absurd rfl q)) (fun e he ee => e_ifN (by decide) (fun q => absurd q (by decide)) (fun _ => ?_))))
  refine e_ldI rfl (And.intro ⟨by decide, by decide⟩ (z_isPort' (fun h => e_ifN (by decide) (fun _ => th (Or.inr (Or.inl h))) (fun q => absurd rfl q)) (fun p hp ep => e_ifN (by decide) (fun q => absurd q (by decide)) (fun _ => ?_))))
  refine e_ldI rfl ⟨fun h => th (Or.inr (Or.inr (Or.inl h))), fun h0 => e_ldI rfl (e_cI ⟨fun h1 => ?_, fun h => th (Or.inr (Or.inr (Or.inr h)))⟩)⟩
  obtain ⟨k, hk, ek⟩ := lt22 h0 h1
  subst ee ep ek
  exact y_X7_note_26 hL he hp hk hG.2.1 rfl rfl rfl rfl (by decide) (K _ (Or.inr ⟨e, p, k, he, hp, hk, rfl, rfl, rfl, rfl⟩))
theorem r_note {Q : Option Value → MM → Prop} {S : MM} {x m out i : Nat} {A : Nat → Nat} {v w u r : Int32} (hG : GN S x m out A i) (md : MDn S x v w u r) (K : ∀ S2, GN S2 x m out A (i + 1) → Q (some (.int r)) S2) : wX8_note [.ref m, .int v, .int w, .int u] S Q := by
  have hM := hG.2.2.2.2.2.1
  have im := im_h hG (GH_0 hG)
  have s1 : SM [0] m A S (pI S m 0 0) := SM.wm SM.rf (by decide)
  have fin : IM (pI S m 0 0) m A → GN (pI S m 0 0) x m out A (i + 1) := fun im1 => r_read hG (GH_0 hG) ⟨rfl, rfl⟩ s1 im1
  have th : IM (pI S m 0 0) m A → NBq v w u → wpn (kX8_note Q) 19 29 (lv_args 0 [.ref m, .int v, .int w, .int u]) [] (pI S m 0 0) 0 0 := fun im1 q => by
    refine u_X8_note_29 ?_
    unfold bX8_note_29
    rcases md with ⟨_, rfl⟩ | ⟨e, p, k, he, hp, hk, rfl, rfl, rfl, _⟩
    · exact e_cI (e_rI (K _ (fin im1)))
    · exact absurd q (nbq he hp hk)
  refine Exists.intro 20 (u_X8_note_0 ?_)
  unfold bX8_note_0
  refine e_ldA rfl (e_cN 0 rfl (e_mT hM im hM.1 (fun N e => nomatch (show (none : Option Nat) = some N from e)) (fun im1 => ?_)))
  refine e_ldI rfl (And.intro ⟨by decide, by decide⟩ (z_MisEnd' (fun h => e_ifN (by decide) (fun _ => th im1 (Or.inl h)) (fun q => absurd rfl q)) (fun e he ee => e_ifN (by decide) (fun q => absurd q (by decide)) (fun _ => ?_))))
  refine e_ldI rfl (And.intro ⟨by decide, by decide⟩ (z_MisPort' (fun h => e_ifN (by decide) (fun _ => th im1 (Or.inr (Or.inl h))) (fun q => absurd rfl q)) (fun p hp ep => e_ifN (by decide) (fun q => absurd q (by decide)) (fun _ => ?_))))
  have le22 : u ≤ 21 ↔ u < 22 := by
    rw [Int32.lt_iff_toInt_lt, Int32.le_iff_toInt_le, show (22 : Int32).toInt = 22 from by decide, show (21 : Int32).toInt = 21 from by decide]
    omega
  refine e_ldI rfl ⟨fun h => th im1 (Or.inr (Or.inr (Or.inl h))), fun h0 => e_ldI rfl (e_cI ⟨fun h1 => ?_, fun h => th im1 (Or.inr (Or.inr (Or.inr (fun z => h (le22.mpr z)))))⟩)⟩
  obtain ⟨k, hk, ek⟩ := lt22 h0 (le22.mp h1)
  subst ee ep ek
  rcases md with ⟨q, _⟩ | ⟨e', p', k', he', hp', hk', ee, ep, ek, er⟩
  · exact absurd q (nbq he hp hk)
  · have := nI_inj (by omega) (by omega) ee
    have := nI_inj (by omega) (by omega) ep
    have := nI_inj (by omega) (by omega) ek
    subst e' p' k'
    refine y_X8_note_31 hM he hp hk im1 rfl rfl rfl rfl (by decide) ?_
    obtain ⟨g1, g2, g3, g4, g5, g6, g7, nt, F, cl, bi, n0, fr, hF, hc⟩ := fin im1
    have q := note_eq (m := m) he hp hk (n0.1 (8 * e + p) (by omega)).1
    have q2 : g_X7_note_26 (sI (pI S m 0 0)) (sR S) x e p k = g_X7_note_26 (sI S) (sR S) x e p k := by
      have nO : Ow (sR S) x e p ≠ m := ne_k (ly_O (ly_of hG) he hp).2.1 hM.1 (by decide)
      have nP : Pa (sR S) x e p ≠ m := ne_k (ly_Q (ly_of hG) he hp).2.1 hM.1 (by decide)
      have b : ∀ a, a ≠ m → f_X6_byteAt (sI (pI S m 0 0)) a = f_X6_byteAt (sI S) a := fun a ha => by
        funext j
        unfold f_X6_byteAt
        rw [sI_pI, up2_row ha]
      unfold g_X7_note_26
      rw [b _ nO, b _ nP]
    have q3 : g_X8_note_31 (sI (pI S m 0 (nI 0))) m A e p k = r := by
      rw [er, ← q2]
      exact q.symm
    show Q (some (.int (g_X8_note_31 (sI (pI S m 0 (nI 0))) m A e p k))) (pI S m 0 (nI 0))
    rw [q3]
    exact K _ (fin im1)
