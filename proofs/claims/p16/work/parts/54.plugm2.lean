theorem z_f_isAnother {Q : Option Value → MM → Prop} {S0 : MM} {m x c : Nat} {A : Nat → Nat} (hM : MS S0 m A) (hx : x < 16) (K0 : sI S0 (A 11) x = -1 ∨ sI S0 (A 11) x = nI c → Q (some (.int (nI 0))) S0) (K1 : Q (some (.int (nI 1))) S0) : wX8_isAnother [.ref m, .int (nI x), .int (nI c)] S0 Q := by
  have no : (sI S0 (A 11) x = -1 ∨ sI S0 (A 11) x = nI c) → ∀ lv, wpn (kX8_isAnother Q) 3 24 lv [] S0 0 0 := fun h lv => by
    refine u_X8_isAnother_24 ?_
    unfold bX8_isAnother_24
    refine e_cN 0 rfl (u_X8_isAnother_25 ?_)
    unfold bX8_isAnother_25
    exact e_rZ (by decide) (K0 h)
  refine Exists.intro 4 (u_X8_isAnother_0 ?_)
  unfold bX8_isAnother_0
  refine e_ldA rfl (e_gR hM.1 (hM.2.1 11 (by decide)).1 (e_ldI rfl (e_aI (N := 16) (kdA hM (by decide) rfl) (lnA hM (by decide) rfl) hx (by decide) (fun v hv => e_cI ⟨fun h => no (Or.inl (hv.trans h)) _, fun _ => ?_⟩))))
  refine e_ldA rfl (e_gR hM.1 (hM.2.1 11 (by decide)).1 (e_ldI rfl (e_aI (N := 16) (kdA hM (by decide) rfl) (lnA hM (by decide) rfl) hx (by decide) (fun w hw => e_ldI rfl ⟨fun h => no (Or.inr (hw.trans h)) _, fun _ => e_cN 1 rfl (u_X8_isAnother_25 ?_)⟩))))
  unfold bX8_isAnother_25
  exact e_rZ (by decide) K1
theorem freeM {S : MM} {A : Nat → Nat} {c e p : Nat} (h : RV S A) (hc : c < 8) (hP : sI S (A 24) c = 0) (he : e < 2) (hp : p < 8) (hx : sI S (A 11) (8 * e + p) = -1 ∨ sI S (A 11) (8 * e + p) = nI c) : sI S (A 11) (8 * e + p) = -1 := by
  rcases h.2.2.2.1 e p he hp with q | ⟨c2, q1, q2, q3, q4⟩
  · exact q
  · rcases hx with w | w
    · exact w
    · have : c2 = c := nI_inj (by omega) (by omega) (q2.symm.trans w)
      rw [this] at q3
      exact absurd hP q3
theorem q_plug_bad {Q : Option Value → MM → Prop} {S0 : MM} {f m n : Nat} {A : Nat → Nat} {lv : Lv} {v : Int32} (hM : MS S0 m A) (hI : IV S0 m A n) (hv : ¬ v ≤ 0) (l0 : lvg lv 0 = some (.ref m)) (K : ∀ S' k g, k ≤ n → SM WP m A S0 S' → IV S' m A k → TL S' A k = (TL S0 A n).filter g → Q none S') : wpn (kX8_plug Q) (f + 1) 65 lv [.int v, .ref m] S0 0 0 := by
  refine u_X8_plug_65 ?_
  unfold bX8_plug_65
  refine y_mI (W := [0]) hM SM.rf hI.1 (by decide) (fun N e => nomatch (show (none : Option Nat) = some N from e)) (fun S1 he sh im1 => ?_)
  obtain ⟨h1, h2⟩ := IV_SM hI hM sh im1 (by decide)
  exact e_ldA l0 (e_gV (v := v) (SM_k sh hM.1) (by rw [he]; exact rd_s) ⟨fun z => absurd z hv, fun _ => e_rV (K S1 n _ (Nat.le_refl _) (SM.tr SM.rf sh (by decide)) h1 (h2.trans (all_true _)))⟩)
theorem q_plug64 {Q : Option Value → MM → Prop} {S0 : MM} {f m n c a b d : Nat} {A : Nat → Nat} {lv : Lv} (hM : MS S0 m A) (hI : IV S0 m A n) (hc : c < 8) (ha : a < 8) (hb : b < 8) (hd : 1 ≤ d) (hd2 : d ≤ 8) (xa : sI S0 (A 11) a = -1 ∨ sI S0 (A 11) a = nI c) (xb : sI S0 (A 11) (8 + b) = -1 ∨ sI S0 (A 11) (8 + b) = nI c) (l0 : lvg lv 0 = some (.ref m)) (l1 : lvg lv 1 = some (.int (nI c))) (l2 : lvg lv 2 = some (.int (nI a))) (l3 : lvg lv 3 = some (.int (nI b))) (l4 : lvg lv 4 = some (.int (nI d))) (K : ∀ S' k g, k ≤ n → SM WP m A S0 S' → IV S' m A k → TL S' A k = (TL S0 A n).filter g → Q none S') : wpn (kX8_plug Q) (f + 4) 64 lv [.ref m] S0 0 0 := by
  refine u_X8_plug_64 ?_
  unfold bX8_plug_64
  refine e_cI (u_X8_plug_65 ?_)
  unfold bX8_plug_65
  refine y_mI (W := [0]) hM SM.rf hI.1 (by decide) (fun N e => nomatch (show (none : Option Nat) = some N from e)) (fun S1 he sh im1 => ?_)
  obtain ⟨iv1, h2⟩ := IV_SM hI hM sh im1 (by decide)
  have iv1' := iv1
  obtain ⟨j1, j2, j3, j4, j5⟩ := iv1'
  have hM1 := MS_SM hM sh
  have shW : SM WP m A S0 S1 := SM.tr SM.rf sh (by decide)
  have i11 : sI S1 (A 11) = sI S0 (A 11) := SM_a sh hM (by decide) (by decide)
  have ya : sI S1 (A 11) (8 * 0 + a) = -1 ∨ sI S1 (A 11) (8 * 0 + a) = nI c := by rw [i11, Nat.mul_zero, Nat.zero_add]; exact xa
  have yb : sI S1 (A 11) (8 * 1 + b) = -1 ∨ sI S1 (A 11) (8 * 1 + b) = nI c := by rw [i11, Nat.mul_one]; exact xb
  refine e_ldA l0 (e_gV (v := 0) (SM_k sh hM.1) (by rw [he]; exact rd_s) ⟨fun _ => u_X8_plug_76 ?_, fun z => absurd (by decide) z⟩)
  unfold bX8_plug_76
  refine e_ldA l0 (e_gR hM1.1 (hM1.2.1 24 (by decide)).1 (e_ldI l1 (e_aI (N := 8) (kdA hM1 (by decide) rfl) (lnA hM1 (by decide) rfl) hc (by decide) (fun p hp => e_if0 (fun h0 => ?_) (fun h0 => ?_)))))
  · have hP : sI S1 (A 24) c = 0 := hp.trans h0
    exact q_plug90M (f := f) hM shW iv1 (Nat.le_refl _) (h2.trans (all_true _)) hc ha hb hd hd2 hP (freeM j2 hc hP (by decide) ha ya) (freeM j2 hc hP (by decide) hb yb) l0 l1 l2 l3 l4 K
  · refine e_ldA l0 (e_ldI l1 (And.intro hM1.1 (And.intro ⟨by decide, by decide⟩ (z_f_isPulled hM1 j1 hc j4 j3 j2 (by rw [hp]; exact h0) (fun S2 k hk s2 im2 r2 k32 kT a24 a25 u25 a11 => ?_)))))
    obtain ⟨ut, -⟩ := UT_filter hc j5 kT a25
    have hP : sI S2 (A 24) c = 0 := by rw [a24, pk_us]; rfl
    have fl : ∃ g, TL S2 A k = (TL S1 A n).filter g := by
      rcases kT with ⟨q, -⟩ | q
      · exact ⟨_, q.trans (all_true _)⟩
      · exact ⟨_, q⟩
    obtain ⟨g, eg⟩ := fl
    have za : sI S2 (A 11) (8 * 0 + a) = -1 ∨ sI S2 (A 11) (8 * 0 + a) = nI c := by
      rcases a11 (8 * 0 + a) with q | q
      · exact Or.inl q
      · rw [q]; exact ya
    have zb : sI S2 (A 11) (8 * 1 + b) = -1 ∨ sI S2 (A 11) (8 * 1 + b) = nI c := by
      rcases a11 (8 * 1 + b) with q | q
      · exact Or.inl q
      · rw [q]; exact yb
    exact q_plug90M (f := f) hM (SM.tr shW s2 (by decide)) ⟨im2, r2, k32, by omega, ut⟩ hk (eg.trans (by rw [h2])) hc ha hb hd hd2 hP (freeM r2 hc hP (by decide) ha za) (freeM r2 hc hP (by decide) hb zb) l0 l1 l2 l3 l4 K
theorem z_f_plug {Q : Option Value → MM → Prop} {S0 : MM} {m n : Nat} {A : Nat → Nat} {v wa wb t : Int32} (hM : MS S0 m A) (hI : IV S0 m A n) (K : ∀ S' k g, k ≤ n → SM WP m A S0 S' → IV S' m A k → TL S' A k = (TL S0 A n).filter g → Q none S') : wX8_plug [.ref m, .int v, .int wa, .int wb, .int t] S0 Q := by
  have bad : wpn (kX8_plug Q) 9 35 (lv_args 0 [.ref m, .int v, .int wa, .int wb, .int t]) [.ref m] S0 0 0 := by
    refine u_X8_plug_35 ?_
    unfold bX8_plug_35
    exact e_cI (q_plug_bad (f := 7) hM hI (by decide) rfl K)
  refine Exists.intro 10 (u_X8_plug_0 ?_)
  unfold bX8_plug_0
  refine e_ldA rfl (e_ldI rfl (And.intro ⟨by decide, by decide⟩ (z_MisCable' (fun h => e_ifN (by decide) (fun _ => bad) (fun q => absurd rfl q)) (fun c hc ec => e_ifN (by decide) (fun q => absurd q (by decide)) (fun _ => ?_)))))
  refine e_ldI rfl (And.intro ⟨by decide, by decide⟩ (z_MisPort' (fun h => e_ifN (by decide) (fun _ => bad) (fun q => absurd rfl q)) (fun a ha ea => e_ifN (by decide) (fun q => absurd q (by decide)) (fun _ => ?_))))
  refine e_ldI rfl (And.intro ⟨by decide, by decide⟩ (z_MisPort' (fun h => e_ifN (by decide) (fun _ => bad) (fun q => absurd rfl q)) (fun b hb eb => e_ifN (by decide) (fun q => absurd q (by decide)) (fun _ => ?_))))
  refine e_ldI rfl (e_cI ⟨fun _ => bad, fun t0 => e_ldI rfl (e_cI ⟨fun t1 => u_X8_plug_39 ?_, fun _ => bad⟩)⟩)
  have hd : ∃ d, 1 ≤ d ∧ d ≤ 8 ∧ t = nI d := by
    have q1 : ¬ t.toInt < 1 := fun z => t0 (by
      show t < 1
      rw [Int32.lt_iff_toInt_lt, show (1 : Int32).toInt = 1 from by decide]
      exact z)
    have q2 : t.toInt ≤ 8 := by
      have := Int32.le_iff_toInt_le.mp (show t ≤ 8 from t1)
      rw [show (8 : Int32).toInt = 8 from by decide] at this
      exact this
    refine ⟨t.toInt.toNat, by omega, by omega, Int32.toInt_inj.mp ?_⟩
    rw [nI_toInt (by omega)]
    omega
  obtain ⟨d, hd1, hd2, ed⟩ := hd
  subst ec ea eb ed
  have bad2 : wpn (kX8_plug Q) 8 60 (lv_args 0 [.ref m, .int (nI c), .int (nI a), .int (nI b), .int (nI d)]) [.ref m] S0 0 0 := by
    refine u_X8_plug_60 ?_
    unfold bX8_plug_60
    exact e_cI (q_plug_bad (f := 6) hM hI (by decide) rfl K)
  unfold bX8_plug_39
  refine e_ldA rfl (e_ldI rfl (e_ldI rfl (And.intro hM.1 (And.intro ⟨by decide, by decide⟩ (z_f_isAnother hM (show a < 16 by omega) (fun xa => e_ifN (by decide) (fun _ => ?_) (fun q => absurd rfl q)) (e_ifN (by decide) (fun q => absurd q (by decide)) (fun _ => bad2)))))))
  refine e_ldA rfl (e_cN 8 rfl (e_ldI rfl (e_add (e_ldI rfl (And.intro hM.1 (And.intro ⟨by decide, by decide⟩ (z_f_isAnother hM (show 8 + b < 16 by omega) (fun xb => e_ifN (by decide) (fun _ => ?_) (fun q => absurd rfl q)) (e_ifN (by decide) (fun q => absurd q (by decide)) (fun _ => bad2)))))))))
  exact q_plug64 (f := 4) hM hI hc ha hb hd1 hd2 xa xb rfl rfl rfl rfl rfl K
