/-! SIMULATION 55: the second halves of the calls that leave the frames -/
theorem p_system {Q : Option Value → MM → Prop} {S S1 : MM} {x m out i : Nat} {A : Nat → Nat} {v w : Int32} (hP : GP S x m out A i) (hh : GH S S1 x m out A) (md : MDs S S1 x v w) (K : ∀ k S2, GP S2 x m out A (i + 1) → Q (some (.int k)) S2) : wX8_system [.ref m, .int v, .int w] S1 Q := by
  have hG := hP.1
  have hM1 := hh.2.2.2.2.2.1
  have hL := ly_of hG
  have hO := hG.2.2.2.2.2.2.1
  obtain ⟨g1, g2, g3, g4, g5, g6, g7, nt, F, cl, bi, n0, fr, hF, hc⟩ := id hG
  have im1 := (BI_h hh.2.2.2.2.2.2.2.1 hh.2.2.2.2.2.2.2.2 bi).1.1
  have e1 : ∀ j, j < 2 → sI S (En (sR S) x j) 1 = sI S1 (A 1) j := fun j hj => by rw [hh.2.2.2.2.2.2.2.2 1 (by decide)]; exact (n0.2.2.2.2.1 j hj).1
  refine z_Msystem hM1 im1 (fun h S2 e im _ => ?_) (fun j hj ej nb h S2 e im _ => ?_) (fun j hj ej nb h S2 e im _ ea => ?_)
  · rcases md with ⟨er, ei, _⟩ | ⟨j, hj, ej, nb, _⟩
    · exact K _ S2 (p_same hP hh er ei e im)
    · exact absurd h nb
  · rcases md with ⟨er, ei, _⟩ | ⟨j', hj', ej', _, nh, _⟩
    · exact K _ S2 (p_same hP hh er ei e im)
    · have := nI_inj (by omega) (by omega) (ej.symm.trans ej')
      subst this
      exact absurd ((e1 (1 - j) (by omega)).trans h) nh
  · rcases md with ⟨er, ei, q | ⟨j', hj', ej', _, hw⟩⟩ | ⟨j', hj', ej', _, _, er, ei⟩
    · exact absurd q nb
    · have := nI_inj (by omega) (by omega) (ej.symm.trans ej')
      subst this
      exact absurd ((e1 (1 - j) (by omega)).symm.trans hw) h
    · have := nI_inj (by omega) (by omega) (ej.symm.trans ej')
      subst this
      refine K _ S2 ⟨r_fin hG hh e im (by decide) (fun cl nt n0 n1 => ?_), FRs_t hP hh er (by rw [ei]; exact fa_nc hL (fa_rn hL hO hj)) (by rw [ei]; exact p6_nc hL (p6_rn hL hO hj)) e (by decide)⟩
      rw [er, ei]
      refine NR_I hL (ca_nc hL) (sys_sim (w := w) hL hO hj n1 (fun q => ?_) (fun k q a b => by rw [SM_a e hM1 (dm_DM a) (by simp; omega)]) (e.2.2.2.2.2 43 (by decide)) (e.2.2.2.2.2 32 (by decide)))
      rw [ea]
      unfold upd
      rfl
theorem p_limit {Q : Option Value → MM → Prop} {S S1 : MM} {x m out i : Nat} {A : Nat → Nat} {v w : Int32} (hP : GP S x m out A i) (hh : GH S S1 x m out A) (md : MDl S S1 x v w) (K : ∀ k S2, GP S2 x m out A (i + 1) → Q (some (.int k)) S2) : wX8_limit [.ref m, .int v, .int w] S1 Q := by
  have hG := hP.1
  have hM1 := hh.2.2.2.2.2.1
  have hL := ly_of hG
  have hO := hG.2.2.2.2.2.2.1
  obtain ⟨g1, g2, g3, g4, g5, g6, g7, nt, F, cl, bi, n0, fr, hF, hc⟩ := id hG
  have im1 := (BI_h hh.2.2.2.2.2.2.2.1 hh.2.2.2.2.2.2.2.2 bi).1.1
  refine z_Mlimit hM1 im1 (fun h S2 e im _ => ?_) (fun j hj ej nb S2 e im _ ea => ?_)
  · rcases md with ⟨er, ei, _⟩ | ⟨j, hj, ej, nb, _⟩
    · exact K _ S2 (p_same hP hh er ei e im)
    · exact absurd h nb
  · rcases md with ⟨er, ei, q⟩ | ⟨j', hj', ej', _, er, ei⟩
    · exact absurd q nb
    · have := nI_inj (by omega) (by omega) (ej.symm.trans ej')
      subst this
      refine K _ S2 ⟨r_fin hG hh e im (by decide) (fun cl nt n0 n1 => ?_), FRs_t hP hh er (by rw [ei]; exact fa_nc hL (FA.rf.w hL (ly_E hL hj).2.1 (by omega))) (by rw [ei]; exact p6_nc hL (P6.rf.w (ly_E hL hj).2.1 (Or.inl (by decide)))) e (by decide)⟩
      rw [er, ei]
      refine NR_I hL (ca_nc hL) (lim_sim (w := w) hL hO hj n1 (fun q => ?_) (fun k q a b => by rw [SM_a e hM1 (dm_DM a) (by simp; omega)]) (e.2.2.2.2.2 43 (by decide)) (e.2.2.2.2.2 32 (by decide)))
      rw [ea]
      unfold upd
      rfl
theorem p_port {Q : Option Value → MM → Prop} {S S1 : MM} {x m out i : Nat} {A : Nat → Nat} {v w k p : Int32} (hP : GP S x m out A i) (hh : GH S S1 x m out A) (md : MDp S S1 x v w k p) (K : ∀ S2, GP S2 x m out A (i + 1) → Q none S2) : wX8_port [.ref m, .int v, .int w, .int k, .int p] S1 Q := by
  have hG := hP.1
  have hM1 := hh.2.2.2.2.2.1
  have hL := ly_of hG
  have hO := hG.2.2.2.2.2.2.1
  obtain ⟨g1, g2, g3, g4, g5, g6, g7, nt, F, cl, bi, n0, fr, hF, hc⟩ := id hG
  have im1 := (BI_h hh.2.2.2.2.2.2.2.1 hh.2.2.2.2.2.2.2.2 bi).1.1
  refine zx_Mport hM1 im1 (fun h S2 e im => ?_) (fun j i hj hi ej ei nb S2 e im ea eb => ?_)
  · rcases md with ⟨er, ei, _⟩ | ⟨j, i, hj, hi, ej, ei, nb, _⟩
    · exact K S2 (p_same hP hh er ei e im)
    · exact absurd h nb
  · rcases md with ⟨er, ei, q⟩ | ⟨j', i', hj', hi', ej', ei', _, er, es⟩
    · exact absurd q nb
    · have q1 := nI_inj (by omega) (by omega) (ej.symm.trans ej')
      have q2 := nI_inj (by omega) (by omega) (ei.symm.trans ei')
      subst q1 q2
      refine K S2 ⟨r_fin hG hh e im (by decide) (fun cl nt n0 n1 => ?_), FRs_t hP hh er (by rw [es]; exact fa_nc hL (fa_sb hL ((FA.rf.w hL (ly_O hL hj hi).2.1 (by omega)).w hL (ly_O hL hj hi).2.1 (by omega)) (ly_O hL hj hi).2.1)) (by rw [es]; exact p6_nc hL (p6_sb ((P6.rf.w (ly_O hL hj hi).2.1 (Or.inl (by decide))).w (ly_O hL hj hi).2.1 (Or.inl (by decide))) (ly_O hL hj hi).2.1)) e (by decide)⟩
      rw [er, es]
      refine NR_I hL (ca_nc hL) (prt_sim hL hO hj hi n1 (by rw [ea, pk_us]) (by rw [eb, pk_us]) (fun q y a b c d => ?_) (fun q y a b c => by rw [SM_a e hM1 (dm_DM a) (by simp; omega)]) (e.2.2.2.2.2 43 (by decide)) (e.2.2.2.2.2 32 (by decide)))
      have : q = 3 ∨ q = 4 := by omega
      rcases this with rfl | rfl
      · rw [ea, pk_un d]
      · rw [eb, pk_un d]
theorem p_manner {Q : Option Value → MM → Prop} {S S1 : MM} {x m out i a b : Nat} {A : Nat → Nat} {v w : Int32} (ha : a < 2) (hb : b < 2) (hP : GP S x m out A i) (hh : GH S S1 x m out A) (md : MDm S S1 x a b v w) (K : ∀ S2, GP S2 x m out A (i + 1) → Q none S2) : wX8_manner [.ref m, .int v, .int w, .int (nI a), .int (nI b)] S1 Q := by
  have hG := hP.1
  have hM1 := hh.2.2.2.2.2.1
  have hL := ly_of hG
  have hO := hG.2.2.2.2.2.2.1
  obtain ⟨g1, g2, g3, g4, g5, g6, g7, nt, F, cl, bi, n0, fr, hF, hc⟩ := id hG
  have im1 := (BI_h hh.2.2.2.2.2.2.2.1 hh.2.2.2.2.2.2.2.2 bi).1.1
  refine zx_Mmanner hM1 im1 ha hb (fun h S2 e im => ?_) (fun j i hj hi ej ei nb S2 e im ea eb => ?_)
  · rcases md with ⟨er, ei, _⟩ | ⟨j, i, hj, hi, ej, ei, nb, _⟩
    · exact K S2 (p_same hP hh er ei e im)
    · exact absurd h nb
  · rcases md with ⟨er, ei, q⟩ | ⟨j', i', hj', hi', ej', ei', _, er, es⟩
    · exact absurd q nb
    · have q1 := nI_inj (by omega) (by omega) (ej.symm.trans ej')
      have q2 := nI_inj (by omega) (by omega) (ei.symm.trans ei')
      subst q1 q2
      refine K S2 ⟨r_fin hG hh e im (by decide) (fun cl nt n0 n1 => ?_), FRs_t hP hh er (by rw [es]; exact fa_nc hL (fa_sb hL (fa_sb hL FA.rf (ly_O hL hj hi).2.1) (ly_O hL hj hi).2.1)) (by rw [es]; exact p6_nc hL (p6_sb (p6_sb P6.rf (ly_O hL hj hi).2.1) (ly_O hL hj hi).2.1)) e (by decide)⟩
      rw [er, es]
      refine NR_I hL (ca_nc hL) (man_sim hL hO hj hi n1 (by rw [ea, pk_us]) (by rw [eb, pk_us]) (fun q y a b c d => ?_) (fun q y a b c => by rw [SM_a e hM1 (dm_DM a) (by simp; omega)]) (e.2.2.2.2.2 43 (by decide)) (e.2.2.2.2.2 32 (by decide)))
      have : q = 5 ∨ q = 6 := by omega
      rcases this with rfl | rfl
      · rw [ea, pk_un d]
      · rw [eb, pk_un d]
theorem p_lose {Q : Option Value → MM → Prop} {S S1 : MM} {x m out i : Nat} {A : Nat → Nat} {v w p : Int32} (hP : GP S x m out A i) (hh : GH S S1 x m out A) (md : MDo S S1 x v w p) (K : ∀ S2, GP S2 x m out A (i + 1) → Q none S2) : wX8_lose [.ref m, .int v, .int w, .int p] S1 Q := by
  have hG := hP.1
  have hM1 := hh.2.2.2.2.2.1
  have hL := ly_of hG
  have hO := hG.2.2.2.2.2.2.1
  obtain ⟨g1, g2, g3, g4, g5, g6, g7, nt, F, cl, bi, n0, fr, hF, hc⟩ := id hG
  have im1 := (BI_h hh.2.2.2.2.2.2.2.1 hh.2.2.2.2.2.2.2.2 bi).1.1
  refine zx_Mlose hM1 im1 (fun h S2 e im => ?_) (fun j i hj hi ej ei nb S2 e im ea => ?_)
  · rcases md with ⟨er, ei, _⟩ | ⟨j, i, hj, hi, ej, ei, nb, _⟩
    · exact K S2 (p_same hP hh er ei e im)
    · exact absurd h nb
  · rcases md with ⟨er, ei, q⟩ | ⟨j', i', hj', hi', ej', ei', _, er, es⟩
    · exact absurd q nb
    · have q1 := nI_inj (by omega) (by omega) (ej.symm.trans ej')
      have q2 := nI_inj (by omega) (by omega) (ei.symm.trans ei')
      subst q1 q2
      refine K S2 ⟨r_fin hG hh e im (by decide) (fun cl nt n0 n1 => ?_), FRs_t hP hh er (by rw [es]; exact fa_nc hL (FA.rf.w hL (ly_N hL hi hj).2.1 (by omega))) (by rw [es]; exact p6_nc hL (P6.rf.w (ly_N hL hi hj).2.1 (Or.inl (by decide)))) e (by decide)⟩
      rw [er, es]
      refine NR_I hL (ca_nc hL) (los_sim hL hO hi hj n1 (fun q => ?_) (fun q y a b => by rw [SM_a e hM1 (dm_DM a) (by simp; omega)]) (e.2.2.2.2.2 43 (by decide)) (e.2.2.2.2.2 32 (by decide)))
      rw [ea]
      unfold upd
      rfl
theorem p_came {Q : Option Value → MM → Prop} {S S1 : MM} {x m out i : Nat} {A : Nat → Nat} {v w u : Int32} (hi : i < 3000) (hP : GP S x m out A i) (hh : GH S S1 x m out A) (md : MDr S S1) (K : ∀ k S2, GP S2 x m out A (i + 1) → Q (some (.int k)) S2) : wX8_came [.ref m, .int v, .int w, .int u] S1 Q := by
  obtain ⟨g1, g2, g3, g4, g5, g6, g7, nt, F, cl, bi, n0, fr, hF, hc⟩ := id hP.1
  have bi1 := BI_h hh.2.2.2.2.2.2.2.1 hh.2.2.2.2.2.2.2.2 bi
  exact z_f_came hh.2.2.2.2.2.1 (BI_42 bi1 (by omega)) bi1.1.1 (fun r S2 e im => K r S2 (p_same hP hh md.1 md.2 e im))
theorem p_look {Q : Option Value → MM → Prop} {S S1 : MM} {x m out i : Nat} {A : Nat → Nat} {v w u : Int32} (hP : GP S x m out A i) (hh : GH S S1 x m out A) (md : MDr S S1) (K : ∀ k S2, GP S2 x m out A (i + 1) → Q (some (.int k)) S2) : wX8_look [.ref m, .int v, .int w, .int u] S1 Q := z_X8_look hh.2.2.2.2.2.1 (im_h hP.1 hh) (fun r S2 e im => K r S2 (p_same hP hh md.1 md.2 e im))
theorem p_cable {Q : Option Value → MM → Prop} {S S1 : MM} {x m out i : Nat} {A : Nat → Nat} {v w : Int32} (hP : GP S x m out A i) (hh : GH S S1 x m out A) (md : MDr S S1) (K : ∀ k S2, GP S2 x m out A (i + 1) → Q (some (.int k)) S2) : wX8_cable [.ref m, .int v, .int w] S1 Q := z_X8_cable hh.2.2.2.2.2.1 (im_h hP.1 hh) (fun r S2 e im => K r S2 (p_same hP hh md.1 md.2 e im))
theorem p_count {Q : Option Value → MM → Prop} {S S1 : MM} {x m out i : Nat} {A : Nat → Nat} {v : Int32} (hP : GP S x m out A i) (hh : GH S S1 x m out A) (md : MDr S S1) (K : ∀ k S2, GP S2 x m out A (i + 1) → Q (some (.int k)) S2) : wX8_count [.ref m, .int v] S1 Q := z_X8_count hh.2.2.2.2.2.1 (im_h hP.1 hh) (fun r S2 e im => K r S2 (p_same hP hh md.1 md.2 e im))
theorem p_note {Q : Option Value → MM → Prop} {S : MM} {x m out i : Nat} {A : Nat → Nat} {v w u r : Int32} (hP : GP S x m out A i) (md : MDn S x v w u r) (K : ∀ S2, GP S2 x m out A (i + 1) → Q (some (.int r)) S2) : wX8_note [.ref m, .int v, .int w, .int u] S Q := by
  have hG := hP.1
  have hM := hG.2.2.2.2.2.1
  have im := im_h hG (GH_0 hG)
  have s1 : SM [0] m A S (pI S m 0 0) := SM.wm SM.rf (by decide)
  have fin : IM (pI S m 0 0) m A → GP (pI S m 0 0) x m out A (i + 1) := fun im1 => p_same hP (GH_0 hG) rfl rfl s1 im1
  have th : IM (pI S m 0 0) m A → NBq v w u → wpn (kX8_note Q) 19 29 (lv_args 0 [.ref m, .int v, .int w, .int u]) [] (pI S m 0 0) 0 0 := fun im1 q => by
    refine u_X8_note_29 ?_
    unfold bX8_note_29
    rcases md with ⟨_, rfl⟩ | ⟨e, p, k, he, hp, hk, rfl, rfl, rfl, _⟩
    · exact e_cI (e_rI (K _ (fin im1)))
    · exact absurd q (nbq he hp hk)
  refine Exists.intro 20 (u_X8_note_0 ?_)
  unfold bX8_note_0
  refine e_ldA rfl (e_cN 0 rfl (e_mT hM im hM.1 (fun N e => nomatch (show (none : Option Nat) = some N from e)) (fun im1 => ?_)))
  refine e_ldI rfl (And.intro ⟨by decide, by decide⟩ (z_MisEnd' (fun h => e_ifN (by decide) (fun _ => th im1 (Or.inl h)) (fun q => absurd rfl q)) (fun e he ee => e_ifN (by decide) (fun q => absurd q (by decide)) (fun _ => ?_))))
  refine e_ldI rfl (And.intro ⟨by decide, by decide⟩ (z_MisPort' (fun h => e_ifN (by decide) (fun _ => th im1 (Or.inr (Or.inl h))) (fun q => absurd rfl q)) (fun p hp ep => e_ifN (by decide) (fun q => absurd q (by decide)) (fun _ => ?_))))
  have le22 : u ≤ 21 ↔ u < 22 := by
    rw [Int32.lt_iff_toInt_lt, Int32.le_iff_toInt_le, show (22 : Int32).toInt = 22 from by decide, show (21 : Int32).toInt = 21 from by decide]
    omega
  refine e_ldI rfl ⟨fun h => th im1 (Or.inr (Or.inr (Or.inl h))), fun h0 => e_ldI rfl (e_cI ⟨fun h1 => ?_, fun h => th im1 (Or.inr (Or.inr (Or.inr (fun z => h (le22.mpr z)))))⟩)⟩
  obtain ⟨k, hk, ek⟩ := lt22 h0 (le22.mp h1)
  subst ee ep ek
  rcases md with ⟨q, _⟩ | ⟨e', p', k', he', hp', hk', ee, ep, ek, er⟩
  · exact absurd q (nbq he hp hk)
  · have := nI_inj (by omega) (by omega) ee
    have := nI_inj (by omega) (by omega) ep
    have := nI_inj (by omega) (by omega) ek
    subst e' p' k'
    refine y_X8_note_31 hM he hp hk im1 rfl rfl rfl rfl (by decide) ?_
    obtain ⟨g1, g2, g3, g4, g5, g6, g7, nt, F, cl, bi, n0, fr, hF, hc⟩ := (fin im1).1
    have q := note_eq (m := m) he hp hk (n0.1 (8 * e + p) (by omega)).1
    have q2 : g_X7_note_26 (sI (pI S m 0 0)) (sR S) x e p k = g_X7_note_26 (sI S) (sR S) x e p k := by
      have nO : Ow (sR S) x e p ≠ m := ne_k (ly_O (ly_of hG) he hp).2.1 hM.1 (by decide)
      have nP : Pa (sR S) x e p ≠ m := ne_k (ly_Q (ly_of hG) he hp).2.1 hM.1 (by decide)
      have b : ∀ a, a ≠ m → f_X6_byteAt (sI (pI S m 0 0)) a = f_X6_byteAt (sI S) a := fun a ha => by
        funext j
        unfold f_X6_byteAt
        rw [sI_pI, up2_row ha]
      unfold g_X7_note_26
      rw [b _ nO, b _ nP]
    have q3 : g_X8_note_31 (sI (pI S m 0 (nI 0))) m A e p k = r := by
      rw [er, ← q2]
      exact q.symm
    show Q (some (.int (g_X8_note_31 (sI (pI S m 0 (nI 0))) m A e p k))) (pI S m 0 (nI 0))
    rw [q3]
    exact K _ (fin im1)
