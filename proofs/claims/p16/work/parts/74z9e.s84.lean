/-! SIMULATION 84: the second halves, with what they leave of the class -/
def FS (m : Nat) (A : Nat → Nat) (S1 S2 : MM) : Prop := sK S2 = sK S1 ∧ sN S2 = sN S1 ∧ sR S2 = sR S1 ∧ sJ S2 = sJ S1 ∧ ∀ z, z ≠ m → (∀ k ∈ DM, z ≠ A k) → sI S2 z = sI S1 z
theorem FS.sm {W : List Nat} {m : Nat} {A : Nat → Nat} {S1 S2 : MM} (hM : MS S1 m A) (e : SM W m A S1 S2) : FS m A S1 S2 := ⟨e.1, e.2.1, e.2.2.1, e.2.2.2.1, fz_SM hM e⟩
theorem FS.w {m : Nat} {A : Nat → Nat} {S1 : MM} {F : Mm} (h : ∀ z, z ≠ m → (∀ k ∈ DM, z ≠ A k) → F z = sI S1 z) : FS m A S1 (wI S1 F) := ⟨rfl, rfl, rfl, rfl, h⟩
theorem q_system {Q : Option Value → MM → Prop} {S S1 : MM} {x m out i : Nat} {A : Nat → Nat} {v w : Int32} (hP : GP S x m out A i) (hh : GH S S1 x m out A) (md : MDs S S1 x v w) (K : ∀ k S2, GP S2 x m out A (i + 1) → FS m A S1 S2 → Q (some (.int k)) S2) : wX8_system [.ref m, .int v, .int w] S1 Q := by
  have hG := hP.1
  have hM1 := hh.2.2.2.2.2.1
  have hL := ly_of hG
  have hO := hG.2.2.2.2.2.2.1
  obtain ⟨g1, g2, g3, g4, g5, g6, g7, nt, F, cl, bi, n0, fr, hF, hc⟩ := id hG
  have im1 := (BI_h hh.2.2.2.2.2.2.2.1 hh.2.2.2.2.2.2.2.2 bi).1.1
  have e1 : ∀ j, j < 2 → sI S (En (sR S) x j) 1 = sI S1 (A 1) j := fun j hj => by rw [hh.2.2.2.2.2.2.2.2 1 (by decide)]; exact (n0.2.2.2.2.1 j hj).1
  refine z_Msystem hM1 im1 (fun h S2 e im _ => ?_) (fun j hj ej nb h S2 e im _ => ?_) (fun j hj ej nb h S2 e im _ ea => ?_)
  · rcases md with ⟨er, ei, _⟩ | ⟨j, hj, ej, nb, _⟩
    · exact K _ S2 (p_same hP hh er ei e im) (FS.sm (MS_b hh) e)
    · exact absurd h nb
  · rcases md with ⟨er, ei, _⟩ | ⟨j', hj', ej', _, nh, _⟩
    · exact K _ S2 (p_same hP hh er ei e im) (FS.sm (MS_b hh) e)
    · have := nI_inj (by omega) (by omega) (ej.symm.trans ej')
      subst this
      exact absurd ((e1 (1 - j) (by omega)).trans h) nh
  · rcases md with ⟨er, ei, q | ⟨j', hj', ej', _, hw⟩⟩ | ⟨j', hj', ej', _, _, er, ei⟩
    · exact absurd q nb
    · have := nI_inj (by omega) (by omega) (ej.symm.trans ej')
      subst this
      exact absurd ((e1 (1 - j) (by omega)).symm.trans hw) h
    · have := nI_inj (by omega) (by omega) (ej.symm.trans ej')
      subst this
      refine K _ S2 ⟨r_fin hG hh e im (by decide) (fun cl nt n0 n1 => ?_), FRs_t hP hh er (by rw [ei]; exact fa_nc hL (fa_rn hL hO hj)) (by rw [ei]; exact p6_nc hL (p6_rn hL hO hj)) e (by decide)⟩ (FS.sm (MS_b hh) e)
      rw [er, ei]
      refine NR_I hL (ca_nc hL) (sys_sim (w := w) hL hO hj n1 (fun q => ?_) (fun k q a b => by rw [SM_a e hM1 (dm_DM a) (by simp; omega)]) (e.2.2.2.2.2 43 (by decide)) (e.2.2.2.2.2 32 (by decide)))
      rw [ea]
      unfold upd
      rfl
theorem q_limit {Q : Option Value → MM → Prop} {S S1 : MM} {x m out i : Nat} {A : Nat → Nat} {v w : Int32} (hP : GP S x m out A i) (hh : GH S S1 x m out A) (md : MDl S S1 x v w) (K : ∀ k S2, GP S2 x m out A (i + 1) → FS m A S1 S2 → Q (some (.int k)) S2) : wX8_limit [.ref m, .int v, .int w] S1 Q := by
  have hG := hP.1
  have hM1 := hh.2.2.2.2.2.1
  have hL := ly_of hG
  have hO := hG.2.2.2.2.2.2.1
  obtain ⟨g1, g2, g3, g4, g5, g6, g7, nt, F, cl, bi, n0, fr, hF, hc⟩ := id hG
  have im1 := (BI_h hh.2.2.2.2.2.2.2.1 hh.2.2.2.2.2.2.2.2 bi).1.1
  refine z_Mlimit hM1 im1 (fun h S2 e im _ => ?_) (fun j hj ej nb S2 e im _ ea => ?_)
  · rcases md with ⟨er, ei, _⟩ | ⟨j, hj, ej, nb, _⟩
    · exact K _ S2 (p_same hP hh er ei e im) (FS.sm (MS_b hh) e)
    · exact absurd h nb
  · rcases md with ⟨er, ei, q⟩ | ⟨j', hj', ej', _, er, ei⟩
    · exact absurd q nb
    · have := nI_inj (by omega) (by omega) (ej.symm.trans ej')
      subst this
      refine K _ S2 ⟨r_fin hG hh e im (by decide) (fun cl nt n0 n1 => ?_), FRs_t hP hh er (by rw [ei]; exact fa_nc hL (FA.rf.w hL (ly_E hL hj).2.1 (by omega))) (by rw [ei]; exact p6_nc hL (P6.rf.w (ly_E hL hj).2.1 (Or.inl (by decide)))) e (by decide)⟩ (FS.sm (MS_b hh) e)
      rw [er, ei]
      refine NR_I hL (ca_nc hL) (lim_sim (w := w) hL hO hj n1 (fun q => ?_) (fun k q a b => by rw [SM_a e hM1 (dm_DM a) (by simp; omega)]) (e.2.2.2.2.2 43 (by decide)) (e.2.2.2.2.2 32 (by decide)))
      rw [ea]
      unfold upd
      rfl
theorem q_port {Q : Option Value → MM → Prop} {S S1 : MM} {x m out i : Nat} {A : Nat → Nat} {v w k p : Int32} (hP : GP S x m out A i) (hh : GH S S1 x m out A) (md : MDp S S1 x v w k p) (K : ∀ S2, GP S2 x m out A (i + 1) → FS m A S1 S2 → Q none S2) : wX8_port [.ref m, .int v, .int w, .int k, .int p] S1 Q := by
  have hG := hP.1
  have hM1 := hh.2.2.2.2.2.1
  have hL := ly_of hG
  have hO := hG.2.2.2.2.2.2.1
  obtain ⟨g1, g2, g3, g4, g5, g6, g7, nt, F, cl, bi, n0, fr, hF, hc⟩ := id hG
  have im1 := (BI_h hh.2.2.2.2.2.2.2.1 hh.2.2.2.2.2.2.2.2 bi).1.1
  refine zx_Mport hM1 im1 (fun h S2 e im => ?_) (fun j i hj hi ej ei nb S2 e im ea eb => ?_)
  · rcases md with ⟨er, ei, _⟩ | ⟨j, i, hj, hi, ej, ei, nb, _⟩
    · exact K S2 (p_same hP hh er ei e im) (FS.sm (MS_b hh) e)
    · exact absurd h nb
  · rcases md with ⟨er, ei, q⟩ | ⟨j', i', hj', hi', ej', ei', _, er, es⟩
    · exact absurd q nb
    · have q1 := nI_inj (by omega) (by omega) (ej.symm.trans ej')
      have q2 := nI_inj (by omega) (by omega) (ei.symm.trans ei')
      subst q1 q2
      refine K S2 ⟨r_fin hG hh e im (by decide) (fun cl nt n0 n1 => ?_), FRs_t hP hh er (by rw [es]; exact fa_nc hL (fa_sb hL ((FA.rf.w hL (ly_O hL hj hi).2.1 (by omega)).w hL (ly_O hL hj hi).2.1 (by omega)) (ly_O hL hj hi).2.1)) (by rw [es]; exact p6_nc hL (p6_sb ((P6.rf.w (ly_O hL hj hi).2.1 (Or.inl (by decide))).w (ly_O hL hj hi).2.1 (Or.inl (by decide))) (ly_O hL hj hi).2.1)) e (by decide)⟩ (FS.sm (MS_b hh) e)
      rw [er, es]
      refine NR_I hL (ca_nc hL) (prt_sim hL hO hj hi n1 (by rw [ea, pk_us]) (by rw [eb, pk_us]) (fun q y a b c d => ?_) (fun q y a b c => by rw [SM_a e hM1 (dm_DM a) (by simp; omega)]) (e.2.2.2.2.2 43 (by decide)) (e.2.2.2.2.2 32 (by decide)))
      have : q = 3 ∨ q = 4 := by omega
      rcases this with rfl | rfl
      · rw [ea, pk_un d]
      · rw [eb, pk_un d]
theorem q_manner {Q : Option Value → MM → Prop} {S S1 : MM} {x m out i a b : Nat} {A : Nat → Nat} {v w : Int32} (ha : a < 2) (hb : b < 2) (hP : GP S x m out A i) (hh : GH S S1 x m out A) (md : MDm S S1 x a b v w) (K : ∀ S2, GP S2 x m out A (i + 1) → FS m A S1 S2 → Q none S2) : wX8_manner [.ref m, .int v, .int w, .int (nI a), .int (nI b)] S1 Q := by
  have hG := hP.1
  have hM1 := hh.2.2.2.2.2.1
  have hL := ly_of hG
  have hO := hG.2.2.2.2.2.2.1
  obtain ⟨g1, g2, g3, g4, g5, g6, g7, nt, F, cl, bi, n0, fr, hF, hc⟩ := id hG
  have im1 := (BI_h hh.2.2.2.2.2.2.2.1 hh.2.2.2.2.2.2.2.2 bi).1.1
  refine zx_Mmanner hM1 im1 ha hb (fun h S2 e im => ?_) (fun j i hj hi ej ei nb S2 e im ea eb => ?_)
  · rcases md with ⟨er, ei, _⟩ | ⟨j, i, hj, hi, ej, ei, nb, _⟩
    · exact K S2 (p_same hP hh er ei e im) (FS.sm (MS_b hh) e)
    · exact absurd h nb
  · rcases md with ⟨er, ei, q⟩ | ⟨j', i', hj', hi', ej', ei', _, er, es⟩
    · exact absurd q nb
    · have q1 := nI_inj (by omega) (by omega) (ej.symm.trans ej')
      have q2 := nI_inj (by omega) (by omega) (ei.symm.trans ei')
      subst q1 q2
      refine K S2 ⟨r_fin hG hh e im (by decide) (fun cl nt n0 n1 => ?_), FRs_t hP hh er (by rw [es]; exact fa_nc hL (fa_sb hL (fa_sb hL FA.rf (ly_O hL hj hi).2.1) (ly_O hL hj hi).2.1)) (by rw [es]; exact p6_nc hL (p6_sb (p6_sb P6.rf (ly_O hL hj hi).2.1) (ly_O hL hj hi).2.1)) e (by decide)⟩ (FS.sm (MS_b hh) e)
      rw [er, es]
      refine NR_I hL (ca_nc hL) (man_sim hL hO hj hi n1 (by rw [ea, pk_us]) (by rw [eb, pk_us]) (fun q y a b c d => ?_) (fun q y a b c => by rw [SM_a e hM1 (dm_DM a) (by simp; omega)]) (e.2.2.2.2.2 43 (by decide)) (e.2.2.2.2.2 32 (by decide)))
      have : q = 5 ∨ q = 6 := by omega
      rcases this with rfl | rfl
      · rw [ea, pk_un d]
      · rw [eb, pk_un d]
theorem q_lose {Q : Option Value → MM → Prop} {S S1 : MM} {x m out i : Nat} {A : Nat → Nat} {v w p : Int32} (hP : GP S x m out A i) (hh : GH S S1 x m out A) (md : MDo S S1 x v w p) (K : ∀ S2, GP S2 x m out A (i + 1) → FS m A S1 S2 → Q none S2) : wX8_lose [.ref m, .int v, .int w, .int p] S1 Q := by
  have hG := hP.1
  have hM1 := hh.2.2.2.2.2.1
  have hL := ly_of hG
  have hO := hG.2.2.2.2.2.2.1
  obtain ⟨g1, g2, g3, g4, g5, g6, g7, nt, F, cl, bi, n0, fr, hF, hc⟩ := id hG
  have im1 := (BI_h hh.2.2.2.2.2.2.2.1 hh.2.2.2.2.2.2.2.2 bi).1.1
  refine zx_Mlose hM1 im1 (fun h S2 e im => ?_) (fun j i hj hi ej ei nb S2 e im ea => ?_)
  · rcases md with ⟨er, ei, _⟩ | ⟨j, i, hj, hi, ej, ei, nb, _⟩
    · exact K S2 (p_same hP hh er ei e im) (FS.sm (MS_b hh) e)
    · exact absurd h nb
  · rcases md with ⟨er, ei, q⟩ | ⟨j', i', hj', hi', ej', ei', _, er, es⟩
    · exact absurd q nb
    · have q1 := nI_inj (by omega) (by omega) (ej.symm.trans ej')
      have q2 := nI_inj (by omega) (by omega) (ei.symm.trans ei')
      subst q1 q2
      refine K S2 ⟨r_fin hG hh e im (by decide) (fun cl nt n0 n1 => ?_), FRs_t hP hh er (by rw [es]; exact fa_nc hL (FA.rf.w hL (ly_N hL hi hj).2.1 (by omega))) (by rw [es]; exact p6_nc hL (P6.rf.w (ly_N hL hi hj).2.1 (Or.inl (by decide)))) e (by decide)⟩ (FS.sm (MS_b hh) e)
      rw [er, es]
      refine NR_I hL (ca_nc hL) (los_sim hL hO hi hj n1 (fun q => ?_) (fun q y a b => by rw [SM_a e hM1 (dm_DM a) (by simp; omega)]) (e.2.2.2.2.2 43 (by decide)) (e.2.2.2.2.2 32 (by decide)))
      rw [ea]
      unfold upd
      rfl
theorem q_came {Q : Option Value → MM → Prop} {S S1 : MM} {x m out i : Nat} {A : Nat → Nat} {v w u : Int32} (hi : i < 3000) (hP : GP S x m out A i) (hh : GH S S1 x m out A) (md : MDr S S1) (K : ∀ k S2, GP S2 x m out A (i + 1) → FS m A S1 S2 → Q (some (.int k)) S2) : wX8_came [.ref m, .int v, .int w, .int u] S1 Q := by
  obtain ⟨g1, g2, g3, g4, g5, g6, g7, nt, F, cl, bi, n0, fr, hF, hc⟩ := id hP.1
  have bi1 := BI_h hh.2.2.2.2.2.2.2.1 hh.2.2.2.2.2.2.2.2 bi
  exact z_f_came hh.2.2.2.2.2.1 (BI_42 bi1 (by omega)) bi1.1.1 (fun r S2 e im => K r S2 (p_same hP hh md.1 md.2 e im) (FS.sm (MS_b hh) e))
theorem q_look {Q : Option Value → MM → Prop} {S S1 : MM} {x m out i : Nat} {A : Nat → Nat} {v w u : Int32} (hP : GP S x m out A i) (hh : GH S S1 x m out A) (md : MDr S S1) (K : ∀ k S2, GP S2 x m out A (i + 1) → FS m A S1 S2 → Q (some (.int k)) S2) : wX8_look [.ref m, .int v, .int w, .int u] S1 Q := z_X8_look hh.2.2.2.2.2.1 (im_h hP.1 hh) (fun r S2 e im => K r S2 (p_same hP hh md.1 md.2 e im) (FS.sm (MS_b hh) e))
theorem q_cable {Q : Option Value → MM → Prop} {S S1 : MM} {x m out i : Nat} {A : Nat → Nat} {v w : Int32} (hP : GP S x m out A i) (hh : GH S S1 x m out A) (md : MDr S S1) (K : ∀ k S2, GP S2 x m out A (i + 1) → FS m A S1 S2 → Q (some (.int k)) S2) : wX8_cable [.ref m, .int v, .int w] S1 Q := z_X8_cable hh.2.2.2.2.2.1 (im_h hP.1 hh) (fun r S2 e im => K r S2 (p_same hP hh md.1 md.2 e im) (FS.sm (MS_b hh) e))
theorem q_count {Q : Option Value → MM → Prop} {S S1 : MM} {x m out i : Nat} {A : Nat → Nat} {v : Int32} (hP : GP S x m out A i) (hh : GH S S1 x m out A) (md : MDr S S1) (K : ∀ k S2, GP S2 x m out A (i + 1) → FS m A S1 S2 → Q (some (.int k)) S2) : wX8_count [.ref m, .int v] S1 Q := z_X8_count hh.2.2.2.2.2.1 (im_h hP.1 hh) (fun r S2 e im => K r S2 (p_same hP hh md.1 md.2 e im) (FS.sm (MS_b hh) e))
theorem q_note {Q : Option Value → MM → Prop} {S : MM} {x m out i : Nat} {A : Nat → Nat} {v w u r : Int32} (hP : GP S x m out A i) (md : MDn S x v w u r) (K : ∀ S2, GP S2 x m out A (i + 1) → FS m A S S2 → Q (some (.int r)) S2) : wX8_note [.ref m, .int v, .int w, .int u] S Q := by
  have hG := hP.1
  have hM := hG.2.2.2.2.2.1
  have im := im_h hG (GH_0 hG)
  have s1 : SM [0] m A S (pI S m 0 0) := SM.wm SM.rf (by decide)
  have fin : IM (pI S m 0 0) m A → GP (pI S m 0 0) x m out A (i + 1) := fun im1 => p_same hP (GH_0 hG) rfl rfl s1 im1
  have th : IM (pI S m 0 0) m A → NBq v w u → wpn (kX8_note Q) 19 29 (lv_args 0 [.ref m, .int v, .int w, .int u]) [] (pI S m 0 0) 0 0 := fun im1 q => by
    refine u_X8_note_29 ?_
    unfold bX8_note_29
    rcases md with ⟨_, rfl⟩ | ⟨e, p, k, he, hp, hk, rfl, rfl, rfl, _⟩
    · exact e_cI (e_rI (K _ (fin im1) (FS.sm hM s1)))
    · exact absurd q (nbq he hp hk)
  refine Exists.intro 20 (u_X8_note_0 ?_)
  unfold bX8_note_0
  refine e_ldA rfl (e_cN 0 rfl (e_mT hM im hM.1 (fun N e => nomatch (show (none : Option Nat) = some N from e)) (fun im1 => ?_)))
  refine e_ldI rfl (And.intro ⟨by decide, by decide⟩ (z_MisEnd' (fun h => e_ifN (by decide) (fun _ => th im1 (Or.inl h)) (fun q => absurd rfl q)) (fun e he ee => e_ifN (by decide) (fun q => absurd q (by decide)) (fun _ => ?_))))
  refine e_ldI rfl (And.intro ⟨by decide, by decide⟩ (z_MisPort' (fun h => e_ifN (by decide) (fun _ => th im1 (Or.inr (Or.inl h))) (fun q => absurd rfl q)) (fun p hp ep => e_ifN (by decide) (fun q => absurd q (by decide)) (fun _ => ?_))))
  have le22 : u ≤ 21 ↔ u < 22 := by
    rw [Int32.lt_iff_toInt_lt, Int32.le_iff_toInt_le, show (22 : Int32).toInt = 22 from by decide, show (21 : Int32).toInt = 21 from by decide]
    omega
  refine e_ldI rfl ⟨fun h => th im1 (Or.inr (Or.inr (Or.inl h))), fun h0 => e_ldI rfl (e_cI ⟨fun h1 => ?_, fun h => th im1 (Or.inr (Or.inr (Or.inr (fun z => h (le22.mpr z)))))⟩)⟩
  obtain ⟨k, hk, ek⟩ := lt22 h0 (le22.mp h1)
  subst ee ep ek
  rcases md with ⟨q, _⟩ | ⟨e', p', k', he', hp', hk', ee, ep, ek, er⟩
  · exact absurd q (nbq he hp hk)
  · have := nI_inj (by omega) (by omega) ee
    have := nI_inj (by omega) (by omega) ep
    have := nI_inj (by omega) (by omega) ek
    subst e' p' k'
    refine y_X8_note_31 hM he hp hk im1 rfl rfl rfl rfl (by decide) ?_
    obtain ⟨g1, g2, g3, g4, g5, g6, g7, nt, F, cl, bi, n0, fr, hF, hc⟩ := (fin im1).1
    have q := note_eq (m := m) he hp hk (n0.1 (8 * e + p) (by omega)).1
    have q2 : g_X7_note_26 (sI (pI S m 0 0)) (sR S) x e p k = g_X7_note_26 (sI S) (sR S) x e p k := by
      have nO : Ow (sR S) x e p ≠ m := ne_k (ly_O (ly_of hG) he hp).2.1 hM.1 (by decide)
      have nP : Pa (sR S) x e p ≠ m := ne_k (ly_Q (ly_of hG) he hp).2.1 hM.1 (by decide)
      have b : ∀ a, a ≠ m → f_X6_byteAt (sI (pI S m 0 0)) a = f_X6_byteAt (sI S) a := fun a ha => by
        funext j
        unfold f_X6_byteAt
        rw [sI_pI, up2_row ha]
      unfold g_X7_note_26
      rw [b _ nO, b _ nP]
    have q3 : g_X8_note_31 (sI (pI S m 0 (nI 0))) m A e p k = r := by
      rw [er, ← q2]
      exact q.symm
    show Q (some (.int (g_X8_note_31 (sI (pI S m 0 (nI 0))) m A e p k))) (pI S m 0 (nI 0))
    rw [q3]
    exact K _ (fin im1) (FS.sm hM s1)
theorem q_light {Q : Option Value → MM → Prop} {S S1 : MM} {x m out i u : Nat} {A : Nat → Nat} {v : Int32} (hi : i < 100000) (hu : u < 2) (hP : GP S x m out A i) (hh : GH S S1 x m out A) (md : MDg S S1 x u v) (K : ∀ S2, GP S2 x m out A (i + 1) → FS m A S1 S2 → Q none S2) : wX8_light [.ref m, .int v, .int (nI u)] S1 Q := by
  have hG := hP.1
  have hM1 := hh.2.2.2.2.2.1
  have hA := AD_of hM1
  have hL := ly_of hG
  have hO := hG.2.2.2.2.2.2.1
  obtain ⟨g1, g2, g3, g4, g5, g6, g7, nt, F, cl, bi, n0, fr, hF, hcl⟩ := id hG
  have bi1 := BI_h hh.2.2.2.2.2.2.2.1 hh.2.2.2.2.2.2.2.2 bi
  have ek := hh.2.2.2.2.2.2.2.2
  have up3 : ∀ c, c < 8 → sI S (Cb (sR S) x c) 3 = sI S (A 25) c := fun c hc => n0.2.2.2.2.2.2.1.1 c hc
  refine c_Mlight hu hM1 bi1.1 (fun h S2 e im => ?_) (fun c hc ec h S2 e im => ?_) (fun c hc ec hp hn im => ?_)
  · rcases md with ⟨er, ei, _⟩ | ⟨c, hc, ec, _⟩
    · exact K S2 (p_same hP hh er ei e im) (FS.sm (MS_b hh) e)
    · exact absurd h (by rw [ec]; exact nb8 hc)
  · rcases md with ⟨er, ei, _⟩ | ⟨c', hc', ec', pl, nu, _⟩
    · exact K S2 (p_same hP hh er ei e im) (FS.sm (MS_b hh) e)
    · have := nI_inj (by omega) (by omega) (ec.symm.trans ec')
      subst this
      rw [ek 24 (by decide), ek 25 (by decide)] at h
      rcases h with h | h
      · rcases pls n0 hc with ⟨z, _⟩ | ⟨_, z, _⟩
        · exact absurd pl z
        · exact absurd h z
      · exact absurd ((up3 c hc).trans h) nu
  · rcases md with ⟨er, ei, q | ⟨c', hc', ec', q⟩⟩ | ⟨c', hc', ec', pl, nu, er, ei⟩
    · exact absurd q (by rw [ec]; exact nb8 hc)
    · have := nI_inj (by omega) (by omega) (ec.symm.trans ec')
      subst this
      rw [ek 24 (by decide)] at hp
      rw [ek 25 (by decide)] at hn
      rcases q with q | q
      · rcases pls n0 hc with ⟨_, z⟩ | ⟨z, _⟩
        · exact absurd z hp
        · exact absurd z q
      · exact absurd ((up3 c hc).symm.trans q) hn
    · have := nI_inj (by omega) (by omega) (ec.symm.trans ec')
      subst this
      have s27 : ∀ t, ∃ k, k < 8 ∧ up2 (sI S1) m 0 0 (A 27) t = nI k := fun t => by rw [(J0_k hA).1 27 t (by decide)]; exact bi1.1.1.1 27 8 rfl t
      have s28 : ∀ t, ∃ k, k < 2 ∧ up2 (sI S1) m 0 0 (A 28) t = nI k := fun t => by rw [(J0_k hA).1 28 t (by decide)]; exact bi1.1.1.1 28 2 rfl t
      have n1 := NR_K (NR_h hh n0) (J0_k (J := sI S1) hA).1 ((J0_k (J := sI S1) hA).2 43 (by decide)) ((J0_k (J := sI S1) hA).2 32 (by decide))
      have tg0 : ∀ n, TG (up2 (sI S1) m 0 0) A n = TG (sI S1) A n := fun n => tg_same (J0_k hA).1
      rcases pls n1 hc with ⟨z, _⟩ | ⟨_, pl24, p0, p1, h0, h1, P0, P1, r0, r1⟩
      · exact absurd pl z
      have hu2 : u = 0 ∨ u = 1 := by omega
      rcases hu2 with rfl | rfl
      · obtain ⟨n', c1, c2, c3, c4, c5, c6, c7, c8, c9⟩ := cut_R (nt := nt) hA hc h0 h1 s27 s28 P0 P1
        have E : g_X8_light_47 (up2 (sI S1) m 0 0) m A c 0 nt = up2 (f_X8_isCut (up2 (sI S1) m 0 0) m A c nt) m 44 (nI 0) := rfl
        rw [E] at im ⊢
        have nz : ∀ z, z ≠ m → (∀ k ∈ DM, z ≠ A k) → f_X8_isCut (up2 (sI S1) m 0 0) m A c nt z = sI S1 z := fun z h1 h2 => by rw [nm_X8_isCut (fun k hk => h2 k (mem_sub k hk (by decide))) h1, up2_row h1]
        generalize f_X8_isCut (up2 (sI S1) m 0 0) m A c nt = J' at c1 c2 c3 c4 c5 c6 c7 c9 nz im ⊢
        have os := off_sim hL hc h0 h1 (off_C hL hO hc h0 h1 r0 r1) n1 P0 P1 pl24 c1 c2 c3 c4 c5 (c6 43 (by decide) (by decide)) c7 c9
        have j9 : ∀ y, y < 16 → up2 J' m 44 (nI 0) (A 9) y = nI 4 → sI S1 (A 9) y = nI 4 ∧ up2 J' m 44 (nI 0) (A 12) y = sI S1 (A 12) y := fun y hy e4 => by
          rw [mm_a hA (by decide)] at e4
          rw [mm_a hA (by decide)]
          by_cases q : y = p0 ∨ y = 8 + p1
          · rw [(c1 y q).2.2.1] at e4; exact absurd e4 (by decide)
          · rw [c2 y (fun z => q (Or.inl z)) (fun z => q (Or.inr z)) 9 y (by decide) (by decide) (ow_x (by decide)), (J0_k hA).1 9 y (by decide)] at e4
            exact ⟨e4, by rw [c2 y (fun z => q (Or.inl z)) (fun z => q (Or.inr z)) 12 y (by decide) (by decide) (ow_x (by decide))]; exact (J0_k hA).1 12 y (by decide)⟩
        have qk : ∀ k, (k = 23 ∨ k = 24 ∨ k = 34 ∨ k = 35 ∨ k = 36 ∨ k = 37 ∨ k = 41 ∨ k = 42) → ∀ j, up2 J' m 44 (nI 0) (A k) j = sI S1 (A k) j := fun k hk j => by rw [mm_a hA (by omega), c3 k j (by omega) (by omega) (by omega) (by omega) (by omega) (by omega) (by omega) (by omega) (by omega) (by omega) (by omega) (by omega)]; exact (J0_k hA).1 k j (by omega)
        have frs : FRs (wI S1 (up2 J' m 44 (nI 0))) x m A := frs_c (n' := n') hP hh n0 (by omega) (by have := bi1.1.2.2.2.1; omega) c8 hc (fun z _ _ => by rw [er]) (fun _ _ => by rw [er]) (by rw [ei]; exact p6_nc hL (p6_off hL hc pl P6.rf)) j9 (by rw [ei]; exact (fx_off hL hO hc pl).fa (fa_nc hL FA.rf)) (fun z h1 h2 => by rw [up2_row h1]; exact nz z h1 h2) (fun k hk j => qk k (by simp at hk; omega) j) (fun c' hc' _ => ⟨qk 23 (by omega) c', qk 24 (by omega) c'⟩) (by rw [mm_j (by decide), c6 43 (by decide) (by decide)]; exact (J0_k hA).2 43 (by decide)) (by rw [mm_j (by decide)]; exact c7) (by rw [tg_same (fun k j a => mm_a hA a), c9, tg0])
        refine K (wI S1 (up2 J' m 44 (nI 0))) ⟨r_exact (n' := n') hh bi1 fr hF hcl im (fun z h1 h2 => by rw [up2_row h1]; exact nz z h1 h2) (fun j => by rw [mm_a hA (by decide), c3 42 j (by decide) (by decide) (by decide) (by decide) (by decide) (by decide) (by decide) (by decide) (by decide) (by decide) (by decide) (by decide)]; exact (J0_k hA).1 42 j (by decide)) (by rw [mm_j (by decide), c6 39 (by decide) (by decide)]; exact (J0_k hA).2 39 (by decide)) ?_ ?_, frs⟩ (FS.w (fun z h1 h2 => by rw [up2_row h1]; exact nz z h1 h2))
        · rw [er, ei]
          exact NR_I hL (ca_nc hL) (NR_K os (fun k j a => mm_a hA a) (mm_j (by decide)) (mm_j (by decide)))
        · rw [tg_same (fun k j a => mm_a hA a), c9, tg0]
          exact List.filter_sublist
      · have uc : up2 (sI S1) m 0 0 (A 25) c = 0 := by
          rcases (n1.2.2.2.2.2.2.2.1 c hc).1 with z | z
          · exact z
          · rw [(J0_k hA).1 25 c (by decide)] at z
            exact absurd z hn
        have dkp : ∀ y, y < 16 → up2 (sI S1) m 0 0 (A 11) y = nI c → up2 (sI S1) m 0 0 (A 7) y = 0 := fun y hy hi => Classical.byContradiction (fun z => by
          obtain ⟨c', hc', ec', u'⟩ := n1.2.2.2.2.2.1.2.2.2.2 (y / 8) (y % 8) (by omega) (by omega) (Or.inl (by rw [show 8 * (y / 8) + y % 8 = y by omega]; exact z))
          rw [show 8 * (y / 8) + y % 8 = y by omega, hi] at ec'
          have := nI_inj (by omega) (by omega) ec'
          subst this
          exact u' uc)
        have i0 := n1.2.2.2.2.2.1.2.1 c 0 p0 hc (by decide) h0 pl24 P0
        have i1 := n1.2.2.2.2.2.1.2.1 c 1 p1 hc (by decide) h1 pl24 P1
        rw [show 8 * 0 + p0 = p0 by omega] at i0
        rw [show 8 * 1 + p1 = 8 + p1 by omega] at i1
        have d0 := dkp p0 (by omega) i0
        have d1 := dkp (8 + p1) (by omega) i1
        obtain ⟨c1, c2, c3, c4, c5, c6⟩ := up_R hA hc h0 h1 P0 P1 ((n1.1 p0 (by omega)).1.2.1.2.1 d0) ((n1.1 (8 + p1) (by omega)).1.2.1.2.1 d1)
        have E : g_X8_light_47 (up2 (sI S1) m 0 0) m A c 1 nt = up2 (f_X8_isUp (up2 (sI S1) m 0 0) m A c) m 44 (nI 0) := rfl
        rw [E] at im ⊢
        have nz : ∀ z, z ≠ m → (∀ k ∈ DM, z ≠ A k) → f_X8_isUp (up2 (sI S1) m 0 0) m A c z = sI S1 z := fun z h1 h2 => by rw [nm_X8_isUp (fun k hk => h2 k (mem_sub k hk (by decide))), up2_row h1]
        generalize f_X8_isUp (up2 (sI S1) m 0 0) m A c = J' at c1 c2 c3 c4 c5 c6 nz im ⊢
        have os := on_sim hL hc h0 h1 (on_C hL hO hc h0 h1 r0 r1) n1 P0 P1 pl24 ⟨d0, d1⟩ c1 c2 c3 c4 c5 (c6 43) (c6 32)
        have j9 : ∀ y, y < 16 → up2 J' m 44 (nI 0) (A 9) y = nI 4 → sI S1 (A 9) y = nI 4 ∧ up2 J' m 44 (nI 0) (A 12) y = sI S1 (A 12) y := fun y hy e4 => by
          rw [mm_a hA (by decide)] at e4
          rw [mm_a hA (by decide)]
          by_cases q : y = p0 ∨ y = 8 + p1
          · rw [(c1 y q).2.2.1] at e4; exact absurd e4 (by decide)
          · rw [c2 y (fun z => q (Or.inl z)) (fun z => q (Or.inr z)) 9 y (by decide) (by decide) (ow_x (by decide)), (J0_k hA).1 9 y (by decide)] at e4
            exact ⟨e4, by rw [c2 y (fun z => q (Or.inl z)) (fun z => q (Or.inr z)) 12 y (by decide) (by decide) (ow_x (by decide))]; exact (J0_k hA).1 12 y (by decide)⟩
        have qk : ∀ k ∈ KF, ∀ j, up2 J' m 44 (nI 0) (A k) j = sI S1 (A k) j := fun k hk j => by
          have q : ∀ k ∈ KF, dm k ∧ k ≠ 7 ∧ k ≠ 8 ∧ k ≠ 9 ∧ k ≠ 14 ∧ k ≠ 18 ∧ k ≠ 21 ∧ k ≠ 25 ∧ k ≠ 40 := by decide
          obtain ⟨z0, z1, z2, z3, z4, z5, z6, z7, z8⟩ := q k hk
          rw [mm_a hA z0, c3 k j z0 z1 z2 z3 z4 z5 z6 z7 z8]
          exact (J0_k hA).1 k j z0
        have frs : FRs (wI S1 (up2 J' m 44 (nI 0))) x m A := frs_a hP hh n0 (by omega) (by have := bi1.1.2.2.2.1; omega) er (by rw [ei]; exact p6_nc hL (p6_on hL hc pl P6.rf)) j9 (by rw [ei]; exact fa_nc hL (fa_on hL hc pl FA.rf)) (fun z h1 h2 => by rw [up2_row h1]; exact nz z h1 h2) qk (by rw [mm_j (by decide), c6 43]; exact (J0_k hA).2 43 (by decide)) (by rw [mm_j (by decide), c6 32]; exact (J0_k hA).2 32 (by decide))
        refine K (wI S1 (up2 J' m 44 (nI 0))) ⟨r_exact (n' := nt) hh bi1 fr hF hcl im (fun z h1 h2 => by rw [up2_row h1]; exact nz z h1 h2) (fun j => by rw [mm_a hA (by decide), c3 42 j (by decide) (by decide) (by decide) (by decide) (by decide) (by decide) (by decide) (by decide) (by decide)]; exact (J0_k hA).1 42 j (by decide)) (by rw [mm_j (by decide), c6 39]; exact (J0_k hA).2 39 (by decide)) ?_ ?_, frs⟩ (FS.w (fun z h1 h2 => by rw [up2_row h1]; exact nz z h1 h2))
        · rw [er, ei]
          exact NR_I hL (ca_nc hL) (NR_K os (fun k j a => mm_a hA a) (mm_j (by decide)) (mm_j (by decide)))
        · have : TG (up2 J' m 44 (nI 0)) A nt = TG (sI S1) A nt := by
            rw [tg_same (fun k j a => mm_a hA a), ← tg0]
            exact TG_c (fun t _ => tg_k (fun k hk => by
              have q : ∀ k ∈ ([27, 28, 29, 30, 31] : List Nat), dm k ∧ k ≠ 7 ∧ k ≠ 8 ∧ k ≠ 9 ∧ k ≠ 14 ∧ k ≠ 18 ∧ k ≠ 21 ∧ k ≠ 25 ∧ k ≠ 40 := by decide
              obtain ⟨a0, a1, a2, a3, a4, a5, a6, a7, a8⟩ := q k hk
              funext j
              exact c3 k j a0 a1 a2 a3 a4 a5 a6 a7 a8))
          rw [this]
          exact List.Sublist.refl _
theorem q_pull {Q : Option Value → MM → Prop} {S S1 : MM} {x m out i : Nat} {A : Nat → Nat} {v : Int32} (hi : i < 100000) (hP : GP S x m out A i) (hh : GH S S1 x m out A) (md : MDu S S1 x v) (K : ∀ S2, GP S2 x m out A (i + 1) → FS m A S1 S2 → Q none S2) : wX8_pull [.ref m, .int v] S1 Q := by
  have hG := hP.1
  have hM1 := hh.2.2.2.2.2.1
  have hA := AD_of hM1
  have hL := ly_of hG
  have hO := hG.2.2.2.2.2.2.1
  obtain ⟨g1, g2, g3, g4, g5, g6, g7, nt, F, cl, bi, n0, fr, hF, hcl⟩ := id hG
  have bi1 := BI_h hh.2.2.2.2.2.2.2.1 hh.2.2.2.2.2.2.2.2 bi
  have ek := hh.2.2.2.2.2.2.2.2
  refine c_Mpull hM1 bi1.1 (fun h S2 e im => ?_) (fun c hc ec h S2 e im => ?_) (fun c hc ec hp im => ?_)
  · rcases md with ⟨er, ei, _⟩ | ⟨c, p0, p1, S', hc, ec, _⟩
    · exact K S2 (p_same hP hh er ei e im) (FS.sm (MS_b hh) e)
    · exact absurd h (by rw [ec]; exact nb8 hc)
  · rcases md with ⟨er, ei, _⟩ | ⟨c', p0, p1, S', hc', ec', r0, r1, _, tk, _⟩
    · exact K S2 (p_same hP hh er ei e im) (FS.sm (MS_b hh) e)
    · have := nI_inj (by omega) (by omega) (ec.symm.trans ec')
      subst this
      rw [ek 24 (by decide)] at h
      obtain ⟨_, q0, q1, _, _, _, _, _, _, z⟩ := fo_tk hG hc r0 r1 tk
      exact absurd h z
  · rcases md with ⟨er, ei, q | ⟨c', hc', ec', q⟩⟩ | ⟨c', p0, p1, S', hc', ec', r0, r1, t', tk, er, ei⟩
    · exact absurd q (by rw [ec]; exact nb8 hc)
    · have := nI_inj (by omega) (by omega) (ec.symm.trans ec')
      subst this
      rw [ek 24 (by decide)] at hp
      rcases pls n0 hc with ⟨_, z⟩ | ⟨z, _⟩
      · exact absurd z hp
      · exact absurd z q
    · have := nI_inj (by omega) (by omega) (ec.symm.trans ec')
      subst this
      have s27 : ∀ t, ∃ k, k < 8 ∧ up2 (sI S1) m 0 0 (A 27) t = nI k := fun t => by rw [(J0_k hA).1 27 t (by decide)]; exact bi1.1.1.1 27 8 rfl t
      have s28 : ∀ t, ∃ k, k < 2 ∧ up2 (sI S1) m 0 0 (A 28) t = nI k := fun t => by rw [(J0_k hA).1 28 t (by decide)]; exact bi1.1.1.1 28 2 rfl t
      have n1 := NR_K (NR_h hh n0) (J0_k (J := sI S1) hA).1 ((J0_k (J := sI S1) hA).2 43 (by decide)) ((J0_k (J := sI S1) hA).2 32 (by decide))
      have tg0 : ∀ n, TG (up2 (sI S1) m 0 0) A n = TG (sI S1) A n := fun n => tg_same (J0_k hA).1
      obtain ⟨_, q0, q1, h0, h1, e0, e1, P0, P1, p24⟩ := fo_tk hG hc r0 r1 tk
      subst e0 e1
      have P0' : up2 (sI S1) m 0 0 (A 22) (2 * c + 0) = nI q0 := by rw [(J0_k hA).1 22 _ (by decide), ek 22 (by decide)]; exact P0
      have P1' : up2 (sI S1) m 0 0 (A 22) (2 * c + 1) = nI q1 := by rw [(J0_k hA).1 22 _ (by decide), ek 22 (by decide)]; exact P1
      have p24' : up2 (sI S1) m 0 0 (A 24) c ≠ 0 := by rw [(J0_k hA).1 24 _ (by decide), ek 24 (by decide)]; exact p24
      obtain ⟨J1, n', cut, a1, a2, a3, a4⟩ := pul_R hA n1 s27 s28 hc h0 h1 P0' P1' p24'
      have E : g_X8_pull_37 (up2 (sI S1) m 0 0) m A c nt = up2 (f_X8_isPulled (up2 (sI S1) m 0 0) m A c nt) m 44 (nI 0) := rfl
      rw [E] at im ⊢
      have nz : ∀ z, z ≠ m → (∀ k ∈ DM, z ≠ A k) → f_X8_isPulled (up2 (sI S1) m 0 0) m A c nt z = sI S1 z := fun z h1 h2 => by rw [nm_X8_isPulled (fun k hk => h2 k (mem_sub k hk (by decide))) h1, up2_row h1]
      generalize f_X8_isPulled (up2 (sI S1) m 0 0) m A c nt = J2 at a1 a2 a3 a4 nz im ⊢
      have ts := tk_sim hL hO hc h0 h1 tk r0 r1 n1 P0' P1' p24' cut a1 a2 a3 (a4 43) (a4 32)
      have tgE : TG (up2 J2 m 44 (nI 0)) A n' = TG J1 A n' := by
        rw [tg_same (fun k j a => mm_a hA a)]
        exact TG_c (fun t _ => tg_k (fun k hk => by
          have q : ∀ k ∈ ([27, 28, 29, 30, 31] : List Nat), dm k ∧ k ≠ 11 ∧ k ≠ 24 := by decide
          funext j
          exact a3 k j (q k hk).1 (q k hk).2.1 (q k hk).2.2))
      have c42 : ∀ j, J1 (A 42) j = up2 (sI S1) m 0 0 (A 42) j := fun j => cut.2.2.1 42 j (by decide) (by decide) (by decide) (by decide) (by decide) (by decide) (by decide) (by decide) (by decide) (by decide) (by decide) (by decide)
      have hLe : LYE (sR S) (sR S') x := lye hL (Or.inl ⟨(ly_pp hL hc).2.1, (ly_pp hL hc).2.2⟩) (fun z _ hz => tk.2.2.2.1 z hz)
      have pl : plg (sR S) x c := ⟨by rw [r0]; simp, by rw [r1]; simp⟩
      have fx : FAx S x c (sI S) (sI S1) := by
        rw [ei, tk.2.2.2.2.2.1]
        have f1 := (fx_off (I := sI S) hL hO hc pl).fa ((FA.rf.w (k := 2) (v := -1) hL (k_px hL (show q0 < 16 by omega)) (by omega)).w (k := 2) (v := -1) hL (k_px hL (show 8 + q1 < 16 by omega)) (by omega))
        have tyS' : LY S' x := ⟨t', by rw [tk.1]; exact hL.2⟩
        exact f1.fa (FA_S tk.1 tk.2.1 hLe (fa_nc tyS' FA.rf))
      have p6 : P6 S (sI S) (sI S1) := by
        rw [ei, tk.2.2.2.2.2.1]
        have f1 : P6 S (sI S) _ := ((p6_off (I0 := sI S) (I := sI S) hL hc pl P6.rf).w (k := 2) (v := -1) (k_px hL (show q0 < 16 by omega)) (Or.inr (by decide))).w (k := 2) (v := -1) (k_px hL (show 8 + q1 < 16 by omega)) (Or.inr (by decide))
        have tyS' : LY S' x := ⟨t', by rw [tk.1]; exact hL.2⟩
        exact f1.tr (fun z hz => p6_nc tyS' P6.rf z (by rw [tk.1]; exact hz))
      have j9 : ∀ y, y < 16 → up2 J2 m 44 (nI 0) (A 9) y = nI 4 → sI S1 (A 9) y = nI 4 ∧ up2 J2 m 44 (nI 0) (A 12) y = sI S1 (A 12) y := fun y hy e4 => by
        rw [mm_a hA (by decide), a3 9 y (by decide) (by decide) (by decide)] at e4
        rw [mm_a hA (by decide), a3 12 y (by decide) (by decide) (by decide)]
        by_cases q : y = q0 ∨ y = 8 + q1
        · rw [(cut.1 y q).2.2.1] at e4; exact absurd e4 (by decide)
        · rw [cut.2.1 y (fun z => q (Or.inl z)) (fun z => q (Or.inr z)) 9 y (by decide) (by decide) (ow_x (by decide)), (J0_k hA).1 9 y (by decide)] at e4
          exact ⟨e4, by rw [cut.2.1 y (fun z => q (Or.inl z)) (fun z => q (Or.inr z)) 12 y (by decide) (by decide) (ow_x (by decide))]; exact (J0_k hA).1 12 y (by decide)⟩
      have qk : ∀ k, (k = 23 ∨ k = 34 ∨ k = 35 ∨ k = 36 ∨ k = 37 ∨ k = 41 ∨ k = 42) → ∀ j, up2 J2 m 44 (nI 0) (A k) j = sI S1 (A k) j := fun k hk j => by rw [mm_a hA (by omega), a3 k j (by omega) (by omega) (by omega), cut.2.2.1 k j (by omega) (by omega) (by omega) (by omega) (by omega) (by omega) (by omega) (by omega) (by omega) (by omega) (by omega) (by omega)]; exact (J0_k hA).1 k j (by omega)
      have frs : FRs (wI S1 (up2 J2 m 44 (nI 0))) x m A := frs_c (n' := n') hP hh n0 (by omega) (by have := bi1.1.2.2.2.1; omega) cut.2.2.2.2.2.2.2.1 hc (fun z _ h17 => by rw [er]; exact tk.2.2.2.1 z (fun y => h17 (by rw [y]; exact (ly_pp hL hc).2.1))) (fun y hy => by rw [er]; exact hLe.P (y / 8) (y % 8) (by omega) (by omega)) p6 j9 fx (fun z h1 h2 => by rw [up2_row h1]; exact nz z h1 h2) (fun k hk j => qk k (by simp at hk; omega) j) (fun c' hc' n => ⟨qk 23 (by omega) c', by rw [mm_a hA (by decide), a2, if_neg n, cut.2.2.1 24 c' (by decide) (by decide) (by decide) (by decide) (by decide) (by decide) (by decide) (by decide) (by decide) (by decide) (by decide) (by decide)]; exact (J0_k hA).1 24 c' (by decide)⟩) (by rw [mm_j (by decide), a4 43, cut.2.2.2.2.2.1 43 (by decide) (by decide)]; exact (J0_k hA).2 43 (by decide)) (by rw [mm_j (by decide), a4 32]; exact cut.2.2.2.2.2.2.1) (by rw [tgE, cut.2.2.2.2.2.2.2.2, tg0])
      refine K (wI S1 (up2 J2 m 44 (nI 0))) ⟨r_exact (n' := n') hh bi1 fr hF hcl im (fun z h1 h2 => by rw [up2_row h1]; exact nz z h1 h2) (fun j => by rw [mm_a hA (by decide), a3 42 j (by decide) (by decide) (by decide), c42]; exact (J0_k hA).1 42 j (by decide)) (by rw [mm_j (by decide), a4 39, cut.2.2.2.2.2.1 39 (by decide) (by decide)]; exact (J0_k hA).2 39 (by decide)) ?_ (by rw [tgE, ← tg0]; exact cut_tg cut), frs⟩ (FS.w (fun z h1 h2 => by rw [up2_row h1]; exact nz z h1 h2))
      rw [er, ei]
      have tyS' : LY S' x := ⟨t', by rw [tk.1]; exact hL.2⟩
      exact NR_I tyS' (ca_nc tyS') (NR_K ts (fun k j a => mm_a hA a) (mm_j (by decide)) (mm_j (by decide)))
theorem q_plug {Q : Option Value → MM → Prop} {S S1 : MM} {x m out i0 : Nat} {A : Nat → Nat} {v w u t : Int32} (hi0 : i0 < 100000) (hP : GP S x m out A i0) (hh : GH S S1 x m out A) (md : MDq S S1 x v w u t) (K : ∀ S2, GP S2 x m out A (i0 + 1) → FS m A S1 S2 → Q none S2) : wX8_plug [.ref m, .int v, .int w, .int u, .int t] S1 Q := by
  have hG := hP.1
  have hM1 := hh.2.2.2.2.2.1
  have hA := AD_of hM1
  have hL := ly_of hG
  have hO := hG.2.2.2.2.2.2.1
  obtain ⟨g1, g2, g3, g4, g5, g6, g7, nt, F, cl, bi, n0, fr, hF, hcl⟩ := id hG
  have bi1 := BI_h hh.2.2.2.2.2.2.2.1 hh.2.2.2.2.2.2.2.2 bi
  have ek := hh.2.2.2.2.2.2.2.2
  have pc0 : ∀ i, i < 8 → sI S (Pt (sR S) x 0 i) 2 = sI S1 (A 11) i := fun i hi => by
    have := n0.2.2.2.2.2.2.1.2.1 0 i (by decide) hi
    rw [show 8 * 0 + i = i by omega] at this
    rw [ek 11 (by decide)]
    exact this
  have pc1 : ∀ k, k < 8 → sI S (Pt (sR S) x 1 k) 2 = sI S1 (A 11) (8 + k) := fun k hk => by
    have := n0.2.2.2.2.2.2.1.2.1 1 k (by decide) hk
    rw [show 8 * 1 + k = 8 + k by omega] at this
    rw [ek 11 (by decide)]
    exact this
  refine c_Mplug hM1 bi1.1 (fun h S2 e im => ?_) (fun c i k hc hi hk ec ei ek' nb h S2 e im => ?_) (fun c i k d hc hi hk hd1 hd2 ec ei ekk ed nb xa xb im => ?_)
  · rcases md with ⟨er, es, _⟩ | ⟨c, i, k, Sa, Sb, _, nb, _⟩
    · exact K S2 (p_same hP hh er es e im) (FS.sm (MS_b hh) e)
    · exact absurd h nb
  · rcases md with ⟨er, es, _⟩ | ⟨c', i', k', Sa, Sb, ⟨hc', hi', hk', ec', ei', ek''⟩, _, ⟨ya, yb⟩, _⟩
    · exact K S2 (p_same hP hh er es e im) (FS.sm (MS_b hh) e)
    · have q1 := nI_inj (by omega) (by omega) (ec.symm.trans ec')
      have q2 := nI_inj (by omega) (by omega) (ei.symm.trans ei')
      have q3 := nI_inj (by omega) (by omega) (ek'.symm.trans ek'')
      subst q1 q2 q3
      rw [pc0 i hi] at ya
      rw [pc1 k hk] at yb
      exact absurd ⟨ya, yb⟩ h
  · rcases md with ⟨er, es, q | ⟨c', i', k', hc', hi', hk', ec', ei', ek', q⟩⟩ | ⟨c', i', k', Sa, Sb, ⟨hc', hi', hk', ec', ei', ek'⟩, _, ⟨ya, yb⟩, ta, tk, tb, pin, hOa, hOb, er, es⟩
    · exact absurd q nb
    · have q1 := nI_inj (by omega) (by omega) (ec.symm.trans ec')
      have q2 := nI_inj (by omega) (by omega) (ei.symm.trans ei')
      have q3 := nI_inj (by omega) (by omega) (ekk.symm.trans ek')
      subst q1 q2 q3
      rw [pc0 i hi, pc1 k hk] at q
      exact absurd ⟨xa, xb⟩ q
    · have q1 := nI_inj (by omega) (by omega) (ec.symm.trans ec')
      have q2 := nI_inj (by omega) (by omega) (ei.symm.trans ei')
      have q3 := nI_inj (by omega) (by omega) (ekk.symm.trans ek')
      subst q1 q2 q3
      rw [ed] at pin
      have s27 : ∀ t, ∃ k, k < 8 ∧ up2 (sI S1) m 0 0 (A 27) t = nI k := fun t => by rw [(J0_k hA).1 27 t (by decide)]; exact bi1.1.1.1 27 8 rfl t
      have s28 : ∀ t, ∃ k, k < 2 ∧ up2 (sI S1) m 0 0 (A 28) t = nI k := fun t => by rw [(J0_k hA).1 28 t (by decide)]; exact bi1.1.1.1 28 2 rfl t
      have n1 := NR_K (NR_h hh n0) (J0_k (J := sI S1) hA).1 ((J0_k (J := sI S1) hA).2 43 (by decide)) ((J0_k (J := sI S1) hA).2 32 (by decide))
      have tg0 : ∀ n, TG (up2 (sI S1) m 0 0) A n = TG (sI S1) A n := fun n => tg_same (J0_k hA).1
      rw [← (J0_k (J := sI S1) hA).1 11 i (by decide)] at xa
      rw [← (J0_k (J := sI S1) hA).1 11 (8 + k) (by decide)] at xb
      have j42 : ∀ j, up2 (sI S1) m 0 0 (A 42) j = sI S1 (A 42) j := fun j => (J0_k hA).1 42 j (by decide)
      have j39 : up2 (sI S1) m 0 0 m 39 = sI S1 m 39 := (J0_k hA).2 39 (by decide)
      have jz : ∀ z, z ≠ m → up2 (sI S1) m 0 0 z = sI S1 z := fun z hz => up2_row hz
      rw [g76] at im ⊢
      -- behind the pull, if there was one
      have stA : ∃ n', NRl (sR Sa) x m A (sI Sa) (if up2 (sI S1) m 0 0 (A 24) c = 0 then up2 (sI S1) m 0 0 else f_X8_isPulled (up2 (sI S1) m 0 0) m A c nt) cl n' ∧ (if up2 (sI S1) m 0 0 (A 24) c = 0 then up2 (sI S1) m 0 0 else f_X8_isPulled (up2 (sI S1) m 0 0) m A c nt) (A 24) c = 0 ∧ (if up2 (sI S1) m 0 0 (A 24) c = 0 then up2 (sI S1) m 0 0 else f_X8_isPulled (up2 (sI S1) m 0 0) m A c nt) (A 25) c = 0 ∧ (∀ y, (if up2 (sI S1) m 0 0 (A 24) c = 0 then up2 (sI S1) m 0 0 else f_X8_isPulled (up2 (sI S1) m 0 0) m A c nt) (A 11) y = -1 ∨ (if up2 (sI S1) m 0 0 (A 24) c = 0 then up2 (sI S1) m 0 0 else f_X8_isPulled (up2 (sI S1) m 0 0) m A c nt) (A 11) y = up2 (sI S1) m 0 0 (A 11) y) ∧ (TG (if up2 (sI S1) m 0 0 (A 24) c = 0 then up2 (sI S1) m 0 0 else f_X8_isPulled (up2 (sI S1) m 0 0) m A c nt) A n').Sublist (TG (sI S1) A nt) ∧ (∀ j, (if up2 (sI S1) m 0 0 (A 24) c = 0 then up2 (sI S1) m 0 0 else f_X8_isPulled (up2 (sI S1) m 0 0) m A c nt) (A 42) j = sI S1 (A 42) j) ∧ (if up2 (sI S1) m 0 0 (A 24) c = 0 then up2 (sI S1) m 0 0 else f_X8_isPulled (up2 (sI S1) m 0 0) m A c nt) m 39 = sI S1 m 39 ∧ (∀ z, z ≠ m → (∀ k ∈ DM, z ≠ A k) → (if up2 (sI S1) m 0 0 (A 24) c = 0 then up2 (sI S1) m 0 0 else f_X8_isPulled (up2 (sI S1) m 0 0) m A c nt) z = sI S1 z) ∧ n' ≤ nt ∧ TG (if up2 (sI S1) m 0 0 (A 24) c = 0 then up2 (sI S1) m 0 0 else f_X8_isPulled (up2 (sI S1) m 0 0) m A c nt) A n' = (TG (sI S1) A nt).filter (nc c) ∧ (∀ k, (k = 23 ∨ k = 34 ∨ k = 35 ∨ k = 36 ∨ k = 37 ∨ k = 41 ∨ k = 42) → ∀ j, (if up2 (sI S1) m 0 0 (A 24) c = 0 then up2 (sI S1) m 0 0 else f_X8_isPulled (up2 (sI S1) m 0 0) m A c nt) (A k) j = sI S1 (A k) j) ∧ (∀ c', c' ≠ c → (if up2 (sI S1) m 0 0 (A 24) c = 0 then up2 (sI S1) m 0 0 else f_X8_isPulled (up2 (sI S1) m 0 0) m A c nt) (A 24) c' = sI S1 (A 24) c') ∧ ∀ y, y < 16 → (if up2 (sI S1) m 0 0 (A 24) c = 0 then up2 (sI S1) m 0 0 else f_X8_isPulled (up2 (sI S1) m 0 0) m A c nt) (A 9) y = nI 4 → sI S1 (A 9) y = nI 4 ∧ (if up2 (sI S1) m 0 0 (A 24) c = 0 then up2 (sI S1) m 0 0 else f_X8_isPulled (up2 (sI S1) m 0 0) m A c nt) (A 12) y = sI S1 (A 12) y := by
        rcases tk with ⟨npl, e⟩ | ⟨p0, p1, r0, r1, tk⟩
        · subst e
          rcases pls n1 hc with ⟨_, z⟩ | ⟨z, _⟩
          · rw [if_pos z]
            exact ⟨nt, n1, z, Classical.byContradiction (fun y => n1.2.2.2.2.2.1.1 c hc y z), fun y => Or.inr rfl, by rw [tg0]; exact List.Sublist.refl _, j42, j39, fun z h1 _ => jz z h1, Nat.le_refl _, by rw [tg0]; exact (List.filter_eq_self.mpr (fun q hq => by obtain ⟨t', ht', rfl⟩ := List.mem_map.mp hq; have no := no_th n1 hc (Classical.byContradiction (fun y => n1.2.2.2.2.2.1.1 c hc y z)) t' (List.mem_range.mp ht'); rw [(J0_k hA).1 27 t' (by decide)] at no; unfold nc; rw [decide_eq_false (show ¬ tg (sI S1) A t' 0 = nI c from no)]; rfl)).symm, fun k hk j => (J0_k hA).1 k j (by omega), fun c' _ => (J0_k hA).1 24 c' (by decide), fun y _ e4 => by rw [(J0_k hA).1 9 y (by decide)] at e4; exact ⟨e4, (J0_k hA).1 12 y (by decide)⟩⟩
          · exact absurd z npl
        · obtain ⟨_, q0, q1, h0, h1, e0, e1, P0, P1, p24⟩ := fo_tk hG hc r0 r1 tk
          subst e0 e1
          have P0' : up2 (sI S1) m 0 0 (A 22) (2 * c + 0) = nI q0 := by rw [(J0_k hA).1 22 _ (by decide), ek 22 (by decide)]; exact P0
          have P1' : up2 (sI S1) m 0 0 (A 22) (2 * c + 1) = nI q1 := by rw [(J0_k hA).1 22 _ (by decide), ek 22 (by decide)]; exact P1
          have p24' : ¬ up2 (sI S1) m 0 0 (A 24) c = 0 := by rw [(J0_k hA).1 24 _ (by decide), ek 24 (by decide)]; exact p24
          rw [if_neg p24']
          obtain ⟨J1, n', cut, a1, a2, a3, a4⟩ := pul_R hA n1 s27 s28 hc h0 h1 P0' P1' p24'
          have nz : ∀ z, z ≠ m → (∀ k ∈ DM, z ≠ A k) → f_X8_isPulled (up2 (sI S1) m 0 0) m A c nt z = sI S1 z := fun z h1 h2 => by rw [nm_X8_isPulled (fun k hk => h2 k (mem_sub k hk (by decide))) h1, up2_row h1]
          generalize f_X8_isPulled (up2 (sI S1) m 0 0) m A c nt = J2 at a1 a2 a3 a4 nz ⊢
          have ts := tk_sim hL hO hc h0 h1 tk r0 r1 n1 P0' P1' p24' cut a1 a2 a3 (a4 43) (a4 32)
          have tgE : TG J2 A n' = TG J1 A n' := TG_c (fun t _ => tg_k (fun k hk => by
            have q : ∀ k ∈ ([27, 28, 29, 30, 31] : List Nat), dm k ∧ k ≠ 11 ∧ k ≠ 24 := by decide
            funext j
            exact a3 k j (q k hk).1 (q k hk).2.1 (q k hk).2.2))
          have c42 : ∀ j, J1 (A 42) j = up2 (sI S1) m 0 0 (A 42) j := fun j => cut.2.2.1 42 j (by decide) (by decide) (by decide) (by decide) (by decide) (by decide) (by decide) (by decide) (by decide) (by decide) (by decide) (by decide)
          have c11 : ∀ j, J1 (A 11) j = up2 (sI S1) m 0 0 (A 11) j := fun j => cut.2.2.1 11 j (by decide) (by decide) (by decide) (by decide) (by decide) (by decide) (by decide) (by decide) (by decide) (by decide) (by decide) (by decide)
          refine ⟨n', ts, by rw [a2, if_pos rfl]; rfl, by rw [a3 25 c (by decide) (by decide) (by decide)]; exact cut.2.2.2.2.1, fun y => ?_, by rw [tgE, ← tg0]; exact cut_tg cut, fun j => by rw [a3 42 j (by decide) (by decide) (by decide), c42]; exact j42 j, by rw [a4 39, cut.2.2.2.2.2.1 39 (by decide) (by decide)]; exact j39, nz, cut.2.2.2.2.2.2.2.1, by rw [tgE, cut.2.2.2.2.2.2.2.2, tg0], fun k hk j => by rw [a3 k j (by omega) (by omega) (by omega), cut.2.2.1 k j (by omega) (by omega) (by omega) (by omega) (by omega) (by omega) (by omega) (by omega) (by omega) (by omega) (by omega) (by omega)]; exact (J0_k hA).1 k j (by omega), fun c' n => by rw [a2, if_neg n, cut.2.2.1 24 c' (by decide) (by decide) (by decide) (by decide) (by decide) (by decide) (by decide) (by decide) (by decide) (by decide) (by decide) (by decide)]; exact (J0_k hA).1 24 c' (by decide), fun y hy e4 => by
            rw [a3 9 y (by decide) (by decide) (by decide)] at e4
            rw [a3 12 y (by decide) (by decide) (by decide)]
            by_cases q : y = q0 ∨ y = 8 + q1
            · rw [(cut.1 y q).2.2.1] at e4; exact absurd e4 (by decide)
            · rw [cut.2.1 y (fun z => q (Or.inl z)) (fun z => q (Or.inr z)) 9 y (by decide) (by decide) (ow_x (by decide)), (J0_k hA).1 9 y (by decide)] at e4
              exact ⟨e4, by rw [cut.2.1 y (fun z => q (Or.inl z)) (fun z => q (Or.inr z)) 12 y (by decide) (by decide) (ow_x (by decide))]; exact (J0_k hA).1 12 y (by decide)⟩⟩
          rw [a1 y]
          split
          · exact Or.inl rfl
          · exact Or.inr (c11 y)
      generalize (if up2 (sI S1) m 0 0 (A 24) c = 0 then up2 (sI S1) m 0 0 else f_X8_isPulled (up2 (sI S1) m 0 0) m A c nt) = Ka at stA im ⊢
      obtain ⟨n', na, a24, a25, a11, sub, a42, a39, az, xn, xt, xk, x24, x9⟩ := stA
      have free : ∀ y, y < 16 → (up2 (sI S1) m 0 0 (A 11) y = -1 ∨ up2 (sI S1) m 0 0 (A 11) y = nI c) → Ka (A 11) y = -1 := fun y hy h => by
        rcases na.2.2.2.2.2.1.2.2.2.1 (y / 8) (y % 8) (by omega) (by omega) with z | ⟨c', hc', e', pc, _⟩
        · rw [show 8 * (y / 8) + y % 8 = y by omega] at z; exact z
        · rw [show 8 * (y / 8) + y % 8 = y by omega] at e'
          rcases a11 y with z | z
          · exact z
          · rw [z] at e' ⊢
            rcases h with h | h
            · exact h
            · rw [h] at e'
              have := nI_inj (by omega) (by omega) e'
              subst this
              exact absurd a24 pc
      have fi := free i (by omega) xa
      have fk := free (8 + k) (by omega) xb
      -- the cable is put in
      have ska : sK Sa = sK S ∧ sN Sa = sN S := by
        rcases tk with ⟨_, e⟩ | ⟨p0, p1, _, _, tk⟩
        · subst e; exact ⟨rfl, rfl⟩
        · exact ⟨tk.1, tk.2.1⟩
      have hLa : LY Sa x := LY_ne hL ska.1 ta
      obtain ⟨kb, nb', _, rb, rcb, eb, rjb⟩ := id pin
      have hLb : LY Sb x := LY_ne hLa kb tb
      have leb : LYE (sR Sa) (sR Sb) x := lye hLa (Or.inl ⟨(ly_pp hLa hc).2.1, (ly_pp hLa hc).2.2⟩) (fun z _ hz => rb z hz)
      obtain ⟨b11, b24, b23, b22, bk, bm⟩ := plW_f (J := Ka) (m := m) (c := c) (p := i) (q := k) (w := nI d) hA hi
      generalize hKb : plW Ka A c i k (nI d) = Kb at b11 b24 b23 b22 bk bm im ⊢
      have bz : ∀ z, z ≠ m → (∀ k ∈ DM, z ≠ A k) → Kb z = Ka z := fun z h1 h2 => by
        rw [← hKb]
        unfold plW
        rw [up2_row (h2 11 (by decide)), up2_row (h2 11 (by decide)), up2_row (h2 23 (by decide)), up2_row (h2 22 (by decide)), up2_row (h2 22 (by decide)), up2_row (h2 24 (by decide))]
      have e0 : Pt (sR Sa) x 0 i = px (sR Sa) x i := by
        show _ = Pt (sR Sa) x (i / 8) (i % 8)
        rw [show i / 8 = 0 by omega, show i % 8 = i by omega]
      have e1 : Pt (sR Sa) x 1 k = px (sR Sa) x (8 + k) := by
        show _ = Pt (sR Sa) x ((8 + k) / 8) ((8 + k) % 8)
        rw [show (8 + k) / 8 = 1 by omega, show (8 + k) % 8 = k by omega]
      have ps := pin_sim (d := d) hLa hOa hc hi hk hd1 hd2 leb (fun e he ne => rb _ (fun z => ne (pp_i hLa hOa he hc z))) rcb na a24 a25 fi fk b11 b24 b23 b22 bk (bm 43) (bm 32)
      rw [← e0, ← e1, ← eb] at ps
      -- and is up
      have r0b : sR Sb (ppd (sR Sb) x c) 0 = some (Pt (sR Sb) x 0 i) := by rw [leb.PP c hc, leb.P 0 i (by decide) hi]; exact rcb.1
      have r1b : sR Sb (ppd (sR Sb) x c) 1 = some (Pt (sR Sb) x 1 k) := by rw [leb.PP c hc, leb.P 1 k (by decide) hk]; exact rcb.2
      have P0 : Kb (A 22) (2 * c + 0) = nI i := by rw [b22, if_pos (by omega)]
      have P1 : Kb (A 22) (2 * c + 1) = nI k := by rw [b22, if_neg (by omega), if_pos rfl]
      have p24 : Kb (A 24) c ≠ 0 := by rw [b24, if_pos rfl]; decide
      have u25 : Kb (A 25) c = 0 := by rw [bk 25 c (by decide) (by decide) (by decide) (by decide) (by decide)]; exact a25
      have dkp : ∀ y, y < 16 → Kb (A 11) y = nI c → Kb (A 7) y = 0 := fun y hy hi => Classical.byContradiction (fun z => by
        obtain ⟨c', hc', ec', u'⟩ := ps.2.2.2.2.2.1.2.2.2.2 (y / 8) (y % 8) (by omega) (by omega) (Or.inl (by rw [show 8 * (y / 8) + y % 8 = y by omega]; exact z))
        rw [show 8 * (y / 8) + y % 8 = y by omega, hi] at ec'
        have := nI_inj (by omega) (by omega) ec'
        subst this
        exact u' u25)
      have d0 := dkp i (by omega) (by rw [b11, if_pos (Or.inl rfl)])
      have d1 := dkp (8 + k) (by omega) (by rw [b11, if_pos (Or.inr rfl)])
      obtain ⟨c1, c2, c3, c4, c5, c6⟩ := up_R (m := m) hA hc hi hk P0 P1 ((ps.1 i (by omega)).1.2.1.2.1 d0) ((ps.1 (8 + k) (by omega)).1.2.1.2.1 d1)
      have nz : ∀ z, z ≠ m → (∀ k ∈ DM, z ≠ A k) → f_X8_isUp Kb m A c z = sI S1 z := fun z h1 h2 => by rw [nm_X8_isUp (fun k hk => h2 k (mem_sub k hk (by decide))), bz z h1 h2, az z h1 h2]
      generalize f_X8_isUp Kb m A c = J' at c1 c2 c3 c4 c5 c6 nz im ⊢
      have os := on_sim hLb hc hi hk (on_C hLb hOb hc hi hk r0b r1b) ps P0 P1 p24 ⟨d0, d1⟩ c1 c2 c3 c4 c5 (c6 43) (c6 32)
      have c42 : ∀ j, J' (A 42) j = sI S1 (A 42) j := fun j => by rw [c3 42 j (by decide) (by decide) (by decide) (by decide) (by decide) (by decide) (by decide) (by decide) (by decide), bk 42 j (by decide) (by decide) (by decide) (by decide) (by decide)]; exact a42 j
      have tgE : TG (up2 J' m 44 (nI 0)) A n' = TG Ka A n' := by
        rw [tg_same (fun k j a => mm_a hA a)]
        exact TG_c (fun t _ => tg_k (fun l hl => by
          have q : ∀ k ∈ ([27, 28, 29, 30, 31] : List Nat), dm k ∧ k ≠ 7 ∧ k ≠ 8 ∧ k ≠ 9 ∧ k ≠ 14 ∧ k ≠ 18 ∧ k ≠ 21 ∧ k ≠ 25 ∧ k ≠ 40 ∧ k ≠ 11 ∧ k ≠ 24 ∧ k ≠ 23 ∧ k ≠ 22 := by decide
          obtain ⟨z0, z1, z2, z3, z4, z5, z6, z7, z8, z9, z10, z11, z12⟩ := q l hl
          funext j
          rw [c3 l j z0 z1 z2 z3 z4 z5 z6 z7 z8, bk l j z0 z9 z10 z11 z12]))
      have fr0 := FRs_at hP n0 (by omega) (by have := bi1.1.2.2.2.1; omega)
      have fA : (FAx S x c (sI S) (sI Sa) ∧ P6 S (sI S) (sI Sa)) ∧ LYE (sR S) (sR Sa) x ∧ ∀ z, z ≠ ppd (sR S) x c → sR Sa z = sR S z := by
        rcases tk with ⟨npl, e⟩ | ⟨p0, p1, r0, r1, tk⟩
        · subst e
          rcases pls n0 hc with ⟨_, z⟩ | ⟨z, _⟩
          · exact ⟨⟨FAx_0 fr0 hc (no_th n0 hc (Classical.byContradiction (fun y => n0.2.2.2.2.2.1.1 c hc y z))), P6.rf⟩, LYE.rf, fun _ _ => rfl⟩
          · exact absurd z npl
        · obtain ⟨_, q0, q1, h0, h1, e0, e1, _⟩ := fo_tk hG hc r0 r1 tk
          have pl : plg (sR S) x c := ⟨by rw [r0]; simp, by rw [r1]; simp⟩
          refine ⟨?_, lye hL (Or.inl ⟨(ly_pp hL hc).2.1, (ly_pp hL hc).2.2⟩) (fun z _ hz => tk.2.2.2.1 z hz), fun z hz => tk.2.2.2.1 z hz⟩
          rw [tk.2.2.2.2.2.1, e0, e1]
          refine ⟨?_, ((p6_off (I0 := sI S) (I := sI S) hL hc pl P6.rf).w (k := 2) (v := -1) (k_px hL (show q0 < 16 by omega)) (Or.inr (by decide))).w (k := 2) (v := -1) (k_px hL (show 8 + q1 < 16 by omega)) (Or.inr (by decide))⟩
          exact (fx_off (I := sI S) hL hO hc pl).fa ((FA.rf.w (k := 2) (v := -1) hL (k_px hL (show q0 < 16 by omega)) (by omega)).w (k := 2) (v := -1) hL (k_px hL (show 8 + q1 < 16 by omega)) (by omega))
      obtain ⟨⟨fA1, pA1⟩, fA2, fA3⟩ := fA
      have kSb : sK Sb = sK S := kb.trans ska.1
      have plb : plg (sR Sb) x c := ⟨by rw [r0b]; simp, by rw [r1b]; simp⟩
      have fB : FA S x (sI Sa) (sI Sb) := by
        rw [eb]
        exact (((FA.rf.w hL (show sK S (Pt (sR Sa) x 0 i) = 6 by rw [← ska.1]; exact (ly_P hLa (by decide) hi).2.1) (by omega)).w hL (show sK S (Pt (sR Sa) x 1 k) = 6 by rw [← ska.1]; exact (ly_P hLa (by decide) hk).2.1) (by omega)).w hL (show sK S (Cb (sR Sa) x c) = 1 by rw [← ska.1]; exact (ly_C hLa hc).2.1) (by omega))
      have pB : P6 S (sI Sa) (sI Sb) := by
        rw [eb]
        exact ((P6.rf.w (show sK S (Pt (sR Sa) x 0 i) = 6 by rw [← ska.1]; exact (ly_P hLa (by decide) hi).2.1) (Or.inr (by decide))).w (show sK S (Pt (sR Sa) x 1 k) = 6 by rw [← ska.1]; exact (ly_P hLa (by decide) hk).2.1) (Or.inr (by decide))).w (show sK S (Cb (sR Sa) x c) = 1 by rw [← ska.1]; exact (ly_C hLa hc).2.1) (Or.inl (by decide))
      have pC : P6 S (sI Sb) (sI S1) := by
        rw [es]
        exact fun z hz => p6_nc hLb (p6_on hLb hc plb P6.rf) z (by rw [kSb]; exact hz)
      have j9 : ∀ y, y < 16 → up2 J' m 44 (nI 0) (A 9) y = nI 4 → sI S1 (A 9) y = nI 4 ∧ up2 J' m 44 (nI 0) (A 12) y = sI S1 (A 12) y := fun y hy e4 => by
        rw [mm_a hA (by decide)] at e4
        rw [mm_a hA (by decide)]
        by_cases q : y = i ∨ y = 8 + k
        · rw [(c1 y q).2.2.1] at e4; exact absurd e4 (by decide)
        · rw [c2 y (fun z => q (Or.inl z)) (fun z => q (Or.inr z)) 9 y (by decide) (by decide) (ow_x (by decide)), bk 9 y (by decide) (by decide) (by decide) (by decide) (by decide)] at e4
          obtain ⟨z1, z2⟩ := x9 y hy e4
          exact ⟨z1, by rw [c2 y (fun z => q (Or.inl z)) (fun z => q (Or.inr z)) 12 y (by decide) (by decide) (ow_x (by decide)), bk 12 y (by decide) (by decide) (by decide) (by decide) (by decide)]; exact z2⟩
      have fC : FA S x (sI Sb) (sI S1) := by
        rw [es]
        exact FA_S kSb (nb'.trans ska.2) (fA2.tr leb) (fa_nc hLb (fa_on hLb hc plb FA.rf))
      have qk : ∀ k, (k = 34 ∨ k = 35 ∨ k = 36 ∨ k = 37 ∨ k = 41 ∨ k = 42) → ∀ j, up2 J' m 44 (nI 0) (A k) j = sI S1 (A k) j := fun l hl j => by rw [mm_a hA (by omega), c3 l j (by omega) (by omega) (by omega) (by omega) (by omega) (by omega) (by omega) (by omega) (by omega), bk l j (by omega) (by omega) (by omega) (by omega) (by omega)]; exact xk l (by omega) j
      have frs : FRs (wI S1 (up2 J' m 44 (nI 0))) x m A := frs_c (n' := n') hP hh n0 (by omega) (by have := bi1.1.2.2.2.1; omega) xn hc (fun z _ h17 => by rw [er, rb z (fun y => h17 (by rw [y, fA2.PP c hc]; exact (ly_pp hL hc).2.1))]; exact fA3 z (fun y => h17 (by rw [y]; exact (ly_pp hL hc).2.1))) (fun y hy => by rw [er]; exact (fA2.tr leb).P (y / 8) (y % 8) (by omega) (by omega)) ((pA1.tr pB).tr pC) j9 ((fA1.fa fB).fa fC) (fun z h1 h2 => by rw [up2_row h1]; exact nz z h1 h2) (fun l hl j => qk l (by simp at hl; omega) j) (fun c' hc' n => ⟨by rw [mm_a hA (by decide), c3 23 c' (by decide) (by decide) (by decide) (by decide) (by decide) (by decide) (by decide) (by decide) (by decide), b23, if_neg n]; exact xk 23 (by omega) c', by rw [mm_a hA (by decide), c3 24 c' (by decide) (by decide) (by decide) (by decide) (by decide) (by decide) (by decide) (by decide) (by decide), b24, if_neg n]; exact x24 c' n⟩) (by rw [mm_j (by decide), c6 43, bm 43, na.2.2.2.1.2.1, hh.2.2.2.2.2.2.2.1]; exact n0.2.2.2.1.2.1.symm) (by rw [mm_j (by decide), c6 32, bm 32]; exact na.2.2.2.1.2.2) (by rw [tgE, xt])
      refine K (wI S1 (up2 J' m 44 (nI 0))) ⟨r_exact (n' := n') hh bi1 fr hF hcl im (fun z h1 h2 => by rw [up2_row h1]; exact nz z h1 h2) (fun j => by rw [mm_a hA (by decide)]; exact c42 j) (by rw [mm_j (by decide), c6 39, bm 39]; exact a39) ?_ (by rw [tgE]; exact sub), frs⟩ (FS.w (fun z h1 h2 => by rw [up2_row h1]; exact nz z h1 h2))
      rw [er, es]
      exact NR_I hLb (ca_nc hLb) (NR_K os (fun k j a => mm_a hA a) (mm_j (by decide)) (mm_j (by decide)))
