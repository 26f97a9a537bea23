/-! SIMULATION 92: overtaken and dropped: a cable of the reference -/
theorem g31_49 {m f x nf cm i3 : Nat} {A : Nat → Nat} : ∀ (r i : Nat) (I : Mm), g_X8_frameComes_31 m A f x nf cm r i i3 I m 49 = I m 49 + nI (if LAb I A (I (A 38)) f r i = true then 1 else 0) := by
  intro r
  induction r with
  | zero =>
    intro i I
    rw [g_X8_frameComes_31, LAb, if_neg (by decide), i_add0]
  | succ r ih =>
    intro i I
    rw [g_X8_frameComes_31, LAb]
    have skip : ¬ (¬ I (A 38) i = 0 ∧ skf I A f i) → (if (decide (¬ I (A 38) i = 0 ∧ skf I A f i) || LAb I A (I (A 38)) f r (i + 1)) = true then 1 else 0) = (if LAb I A (I (A 38)) f r (i + 1) = true then 1 else 0) := fun h => by rw [decide_eq_false h, Bool.false_or]
    by_cases h0 : I (A 38) i = 0
    · rw [if_pos h0, skip (fun y => y.1 h0)]; exact ih _ _
    · rw [if_neg h0]
      by_cases h1 : I (A 33) i = I (A 33) f
      · rw [if_pos h1]
        by_cases h2 : I (A 34) i = I (A 34) f
        · rw [if_pos h2]
          by_cases h3 : I (A 35) i = I (A 35) f
          · rw [if_pos h3]
            by_cases h4 : I (A 37) i = I (A 37) f
            · rw [if_pos h4, decide_eq_true (show ¬ I (A 38) i = 0 ∧ skf I A f i from ⟨h0, h1, h2, h3, h4⟩), Bool.true_or, if_pos rfl]
              exact up2_self _ _ _ _
            · rw [if_neg h4, skip (fun y => h4 y.2.2.2.2)]; exact ih _ _
          · rw [if_neg h3, skip (fun y => h3 y.2.2.2.1)]; exact ih _ _
        · rw [if_neg h2, skip (fun y => h2 y.2.2.1)]; exact ih _ _
      · rw [if_neg h1, skip (fun y => h1 y.2.1)]; exact ih _ _
theorem fk_38 {m f x nf cm g : Nat} {A : Nat → Nat} {J : Mm} (hA : AD m A) (h : nI 3 ≤ J (A 9) x) : f_X8_frameComes J m A f x nf cm (A 38) g = if g = f then nI 1 else J (A 38) g := by
  simp only [f_X8_frameComes, if_pos h]
  rw [mu_o hA (by decide) (by decide) (by decide), mu_o hA (by decide) (by decide) (by decide), mu_o hA (by decide) (by decide) (by decide), mu_o hA (by decide) (by decide) (by decide), mu_o hA (by decide) (by decide) (by decide)]
  by_cases q : g = f
  · rw [if_pos q, q, up2_self]
  · rw [if_neg q, mu_j q, g31_A hA (by decide)]
theorem fk_m {m f x nf cm : Nat} {A : Nat → Nat} {J : Mm} (hA : AD m A) (h : nI 3 ≤ J (A 9) x) : f_X8_frameComes J m A f x nf cm m 49 = J m 49 + nI (if LAb J A (J (A 38)) f (nf - (f + 1)) (f + 1) = true then 1 else 0) ∧ f_X8_frameComes J m A f x nf cm m 45 = J m 45 := by
  simp only [f_X8_frameComes, if_pos h]
  refine ⟨?_, ?_⟩
  · rw [am_m hA (by decide), am_m hA (by decide), am_m hA (by decide), am_m hA (by decide), am_m hA (by decide), am_m hA (by decide), g31_49]
  · rw [am_m hA (by decide), am_m hA (by decide), am_m hA (by decide), am_m hA (by decide), am_m hA (by decide), am_m hA (by decide), g31_m (by decide)]
theorem fk_d {m f x nf cm : Nat} {A : Nat → Nat} {J : Mm} (hA : AD m A) (h : ¬ nI 3 ≤ J (A 9) x) : f_X8_frameComes J m A f x nf cm m 49 = J m 49 ∧ f_X8_frameComes J m A f x nf cm m 45 = J m 45 + nI 1 ∧ ∀ g, f_X8_frameComes J m A f x nf cm (A 38) g = J (A 38) g := by
  simp only [f_X8_frameComes, if_neg h]
  exact ⟨mm_j (by decide), up2_self _ _ _ _, fun g => mm_a hA (by decide)⟩
theorem nc_3m {m t x : Nat} {A : Nat → Nat} {J : Mm} (hA : AD m A) : f_X8_noteComes J m A t x m = J m ∧ f_X8_noteComes J m A t x (A 38) = J (A 38) := by
  refine ⟨nm_X8_noteComes (fun k hk z => ?_), nm_X8_noteComes (fun k hk z => ?_)⟩
  · have hk' : dm k := (show ∀ k ∈ ([7, 8, 14, 15, 17, 18] : List Nat), dm k by decide) k hk
    exact hA.2 k hk' z.symm
  · have hk' : dm k := (show ∀ k ∈ ([7, 8, 14, 15, 17, 18] : List Nat), dm k by decide) k hk
    have := hA.1 38 k (by decide) hk' z
    subst this
    simp at hk
/-- the frames' numbers of those that are due on a lane and are collected; how many are dropped -/
def dIx (J : Mm) (m : Nat) (A : Nat → Nat) (c e y i : Nat) : List Nat := if nI 3 ≤ J (A 9) y then ((List.range i).filter (dFb J m A c e)).map (fun t => (J (A 30) t).toNatClampNeg) else []
def dNo (J : Mm) (m : Nat) (A : Nat → Nat) (c e y i : Nat) : Nat := if nI 3 ≤ J (A 9) y then 0 else ((List.range i).filter (dFb J m A c e)).length
theorem dIx_n {J : Mm} {m c e y i : Nat} {A : Nat → Nat} (h : ¬ dFb J m A c e i = true) : dIx J m A c e y (i + 1) = dIx J m A c e y i ∧ dNo J m A c e y (i + 1) = dNo J m A c e y i := by
  unfold dIx dNo
  rw [List.range_succ, List.filter_append, List.filter_cons_of_neg h, List.filter_nil, List.append_nil]
  exact ⟨rfl, rfl⟩
theorem dIx_c {J : Mm} {m c e y i : Nat} {A : Nat → Nat} (h : dFb J m A c e i = true) (q : nI 3 ≤ J (A 9) y) : dIx J m A c e y (i + 1) = dIx J m A c e y i ++ [(J (A 30) i).toNatClampNeg] ∧ dNo J m A c e y (i + 1) = dNo J m A c e y i := by
  unfold dIx dNo
  rw [if_pos q, if_pos q, if_pos q, if_pos q, List.range_succ, List.filter_append, List.filter_cons_of_pos h, List.filter_nil, List.map_append]
  exact ⟨rfl, rfl⟩
theorem dIx_d {J : Mm} {m c e y i : Nat} {A : Nat → Nat} (h : dFb J m A c e i = true) (q : ¬ nI 3 ≤ J (A 9) y) : dIx J m A c e y (i + 1) = dIx J m A c e y i ∧ dNo J m A c e y (i + 1) = dNo J m A c e y i + 1 := by
  unfold dIx dNo
  rw [if_neg q, if_neg q, if_neg q, if_neg q, List.range_succ, List.filter_append, List.filter_cons_of_pos h, List.filter_nil, List.length_append]
  exact ⟨rfl, rfl⟩
theorem lff_a {cm : Nat → Int32} {f : Nat} {L : List Nat} : lff cm (L ++ [f]) = upd (lff cm L) f (nI 1) := by
  unfold lff
  rw [List.foldl_append]
  rfl
theorem lfc_a {J : Mm} {A : Nat → Nat} {F f : Nat} : ∀ (L : List Nat) (cm : Nat → Int32), lfc J A F cm (L ++ [f]) = lfc J A F cm L + (if LAb J A (lff cm L) f (F - (f + 1)) (f + 1) = true then 1 else 0) := by
  intro L
  induction L with
  | nil =>
    intro cm
    show lfc J A F cm [f] = lfc J A F cm [] + _
    rw [lfc, lfc, lfc]
    show _ + 0 = 0 + _
    rw [Nat.add_zero, Nat.zero_add]
    rfl
  | cons h L ih =>
    intro cm
    rw [List.cons_append, lfc, lfc, ih, lff_c, Nat.add_assoc]
theorem LAb_c {J J' : Mm} {A : Nat → Nat} {cm cm' : Nat → Int32} {f : Nat} (k : ∀ k, (k = 33 ∨ k = 34 ∨ k = 35 ∨ k = 37) → J' (A k) = J (A k)) (h : ∀ g, skf J A f g → (cm' g = 0 ↔ cm g = 0)) : ∀ r i, LAb J' A cm' f r i = LAb J A cm f r i := by
  intro r
  induction r with
  | zero => intro i; rfl
  | succ r ih =>
    intro i
    rw [LAb, LAb, ih]
    congr 1
    refine decide_eq_decide.mpr ?_
    have e : skf J' A f i ↔ skf J A f i := by
      unfold skf
      rw [k 33 (by omega), k 34 (by omega), k 35 (by omega), k 37 (by omega)]
    refine ⟨fun ⟨a, b⟩ => ⟨fun z => a ((h i (e.mp b)).mpr z), e.mp b⟩, fun ⟨a, b⟩ => ⟨fun z => a ((h i b).mp z), e.mpr b⟩⟩
/-- a cable's things, with what they make of came, late, dropped -/
theorem g45X {m nt nf c : Nat} {A : Nat → Nat} {J : Mm} {y : Nat → Nat} (hA : AD m A) (hc : c < 8) (s27 : ∀ t, t < nt → ∃ k, k < 8 ∧ J (A 27) t = nI k) (s28 : ∀ t, t < nt → ∃ e, e < 2 ∧ J (A 28) t = nI e) (pa : ∀ e, e < 2 → 8 * (1 - e) + (J (A 22) (2 * c + (1 - e))).toNatClampNeg = y e) (fE : ∀ t, t < nt → ¬ J (A 30) t = -1 → J (A 33) (J (A 30) t).toNatClampNeg = J (A 28) t) : ∀ r i J' w, i + r = nt → ST m A J J' → (∀ e, e < 2 → ∀ g, J (A 33) g = nI e → J' (A 38) g = lff (J (A 38)) (dIx J m A c e (y e) i) g) → J' m 49 = J m 49 + nI (lfc J A nf (J (A 38)) (dIx J m A c 0 (y 0) i) + lfc J A nf (J (A 38)) (dIx J m A c 1 (y 1) i)) → J' m 45 = J m 45 + nI (dNo J m A c 0 (y 0) i + dNo J m A c 1 (y 1) i) → (∀ e, e < 2 → ∀ g, J (A 33) g = nI e → (g_X8_comes_45 m A nt nf r i c J' w).1 (A 38) g = lff (J (A 38)) (dIx J m A c e (y e) nt) g) ∧ (g_X8_comes_45 m A nt nf r i c J' w).1 m 49 = J m 49 + nI (lfc J A nf (J (A 38)) (dIx J m A c 0 (y 0) nt) + lfc J A nf (J (A 38)) (dIx J m A c 1 (y 1) nt)) ∧ (g_X8_comes_45 m A nt nf r i c J' w).1 m 45 = J m 45 + nI (dNo J m A c 0 (y 0) nt + dNo J m A c 1 (y 1) nt) := by
  intro r
  induction r with
  | zero =>
    intro i J' w hi st h1 h2 h3
    have hi : i = nt := by omega
    subst hi
    exact ⟨h1, h2, h3⟩
  | succ r ih =>
    intro i J' w hi st h1 h2 h3
    have hin : i < nt := by omega
    have j27 : J' (A 27) i = J (A 27) i := st.1 27 i (by decide) (by decide) (by decide) (by decide) (by decide) (by decide) (by decide) (by decide) (by decide) (by decide)
    have j28 : J' (A 28) i = J (A 28) i := st.1 28 i (by decide) (by decide) (by decide) (by decide) (by decide) (by decide) (by decide) (by decide) (by decide) (by decide)
    have j29 : J' (A 29) i = J (A 29) i := st.1 29 i (by decide) (by decide) (by decide) (by decide) (by decide) (by decide) (by decide) (by decide) (by decide) (by decide)
    have j30 : J' (A 30) i = J (A 30) i := st.1 30 i (by decide) (by decide) (by decide) (by decide) (by decide) (by decide) (by decide) (by decide) (by decide) (by decide)
    have j43 : J' m 43 = J m 43 := st.2 43 (by decide) (by decide)
    have j9 : ∀ j, J' (A 9) j = J (A 9) j := fun j => st.1 9 j (by decide) (by decide) (by decide) (by decide) (by decide) (by decide) (by decide) (by decide) (by decide) (by decide)
    have jk : ∀ k, (k = 33 ∨ k = 34 ∨ k = 35 ∨ k = 37) → J' (A k) = J (A k) := fun k hk => by
      rcases hk with rfl | rfl | rfl | rfl
      · exact funext (fun j => st.1 33 j (by decide) (by decide) (by decide) (by decide) (by decide) (by decide) (by decide) (by decide) (by decide) (by decide))
      · exact funext (fun j => st.1 34 j (by decide) (by decide) (by decide) (by decide) (by decide) (by decide) (by decide) (by decide) (by decide) (by decide))
      · exact funext (fun j => st.1 35 j (by decide) (by decide) (by decide) (by decide) (by decide) (by decide) (by decide) (by decide) (by decide) (by decide))
      · exact funext (fun j => st.1 37 j (by decide) (by decide) (by decide) (by decide) (by decide) (by decide) (by decide) (by decide) (by decide) (by decide))
    obtain ⟨k, hk, e27⟩ := s27 i hin
    obtain ⟨e0, he0, e28⟩ := s28 i hin
    have skip : ∀ J2, ST m A J' J2 → J2 m 49 = J' m 49 → J2 m 45 = J' m 45 → (∀ g, J2 (A 38) g = J' (A 38) g) → (∀ e, e < 2 → ¬ dFb J m A c e i = true) → (∀ e, e < 2 → ∀ g, J (A 33) g = nI e → (g_X8_comes_45 m A nt nf r (i + 1) c J2 w).1 (A 38) g = lff (J (A 38)) (dIx J m A c e (y e) nt) g) ∧ (g_X8_comes_45 m A nt nf r (i + 1) c J2 w).1 m 49 = J m 49 + nI (lfc J A nf (J (A 38)) (dIx J m A c 0 (y 0) nt) + lfc J A nf (J (A 38)) (dIx J m A c 1 (y 1) nt)) ∧ (g_X8_comes_45 m A nt nf r (i + 1) c J2 w).1 m 45 = J m 45 + nI (dNo J m A c 0 (y 0) nt + dNo J m A c 1 (y 1) nt) := fun J2 s2 e1 e2 e3 nm =>
      ih (i + 1) J2 w (by omega) (st.tr s2) (fun e he g hg => by rw [(dIx_n (nm e he)).1, e3]; exact h1 e he g hg) (by rw [(dIx_n (nm 0 (by decide))).1, (dIx_n (nm 1 (by decide))).1, e1]; exact h2) (by rw [(dIx_n (nm 0 (by decide))).2, (dIx_n (nm 1 (by decide))).2, e2]; exact h3)
    rw [g_X8_comes_45]
    try dsimp only
    rw [j27, j29, j30, j28, j43, e27, e28, nI_cl (by omega), nI_cl (by omega)]
    by_cases c1 : k = c
    · rw [if_pos c1]
      by_cases c2 : J (A 29) i = J m 43
      · rw [if_pos c2]
        have py : f_X8_portAt J' m A c (1 - e0) = y e0 := by
          unfold f_X8_portAt
          rw [st.1 22 _ (by decide) (by decide) (by decide) (by decide) (by decide) (by decide) (by decide) (by decide) (by decide) (by decide)]
          exact pa e0 he0
        rw [py]
        by_cases c3 : J (A 30) i = -1
        · rw [if_pos c3]
          exact skip _ (st_nc hA) (by rw [(nc_3m hA).1]) (by rw [(nc_3m hA).1]) (fun g => by rw [(nc_3m hA).2]) (fun e _ z => (of_decide_eq_true z).2.2.1 c3)
        · rw [if_neg c3]
          have isd : dFb J m A c e0 i = true := decide_eq_true ⟨by rw [e27, c1], e28, c3, c2⟩
          have nod : ∀ e, e < 2 → e ≠ e0 → ¬ dFb J m A c e i = true := fun e he hn z => hn (nI_i8 e e0 (by omega) (by omega) ((of_decide_eq_true z).2.1.symm.trans e28))
          have fe : J (A 33) (J (A 30) i).toNatClampNeg = nI e0 := (fE i hin c3).trans e28
          have e01 : e0 = 0 ∨ e0 = 1 := by omega
          by_cases col : nI 3 ≤ J (A 9) (y e0)
          · have col' : nI 3 ≤ J' (A 9) (y e0) := by rw [j9]; exact col
            have d := dIx_c isd col
            have la : LAb J' A (J' (A 38)) (J (A 30) i).toNatClampNeg (nf - ((J (A 30) i).toNatClampNeg + 1)) ((J (A 30) i).toNatClampNeg + 1) = LAb J A (lff (J (A 38)) (dIx J m A c e0 (y e0) i)) (J (A 30) i).toNatClampNeg (nf - ((J (A 30) i).toNatClampNeg + 1)) ((J (A 30) i).toNatClampNeg + 1) := LAb_c jk (fun g hg => by rw [h1 e0 he0 g (hg.1.trans fe)]) _ _
            refine ih (i + 1) _ w (by omega) (st.tr (st_fc hA)) (fun e he g hg => ?_) ?_ ?_
            · rw [fk_38 hA col']
              by_cases qe : e = e0
              · subst qe
                rw [d.1, lff_a]
                unfold upd
                by_cases q : g = (J (A 30) i).toNatClampNeg
                · rw [if_pos q, if_pos q]
                · rw [if_neg q, if_neg q]
                  exact h1 e he g hg
              · rw [(dIx_n (nod e he qe)).1, if_neg (fun q => qe (nI_i8 e e0 (by omega) (by omega) (hg.symm.trans (by rw [q]; exact fe))))]
                exact h1 e he g hg
            · rw [(fk_m hA col').1, la, h2]
              rcases e01 with rfl | rfl
              · rw [d.1, (dIx_n (nod 1 (by decide) (by decide))).1, lfc_a, i_nn]
                exact congrArg (fun n => J m 49 + nI n) (by omega)
              · rw [d.1, (dIx_n (nod 0 (by decide) (by decide))).1, lfc_a, i_nn]
                exact congrArg (fun n => J m 49 + nI n) (by omega)
            · rw [(fk_m hA col').2, h3]
              rcases e01 with rfl | rfl
              · rw [d.2, (dIx_n (nod 1 (by decide) (by decide))).2]
              · rw [d.2, (dIx_n (nod 0 (by decide) (by decide))).2]
          · have col' : ¬ nI 3 ≤ J' (A 9) (y e0) := by rw [j9]; exact col
            have d := dIx_d isd col
            obtain ⟨f1, f2, f3⟩ := fk_d (f := (J (A 30) i).toNatClampNeg) (nf := nf) (cm := (J' (A 42) (y e0 / 8)).toNatClampNeg) hA col'
            refine ih (i + 1) _ w (by omega) (st.tr (st_fc hA)) (fun e he g hg => ?_) ?_ ?_
            · rw [f3]
              by_cases qe : e = e0
              · subst qe
                rw [d.1]
                exact h1 e he g hg
              · rw [(dIx_n (nod e he qe)).1]
                exact h1 e he g hg
            · rw [f1, h2]
              rcases e01 with rfl | rfl
              · rw [d.1, (dIx_n (nod 1 (by decide) (by decide))).1]
              · rw [d.1, (dIx_n (nod 0 (by decide) (by decide))).1]
            · rw [f2, h3, i_nn]
              rcases e01 with rfl | rfl
              · rw [d.2, (dIx_n (nod 1 (by decide) (by decide))).2]
                exact congrArg (fun n => J m 45 + nI n) (by omega)
              · rw [d.2, (dIx_n (nod 0 (by decide) (by decide))).2]
                exact congrArg (fun n => J m 45 + nI n) (by omega)
      · rw [if_neg c2]
        exact skip _ ST.rf rfl rfl (fun _ => rfl) (fun e _ z => c2 (of_decide_eq_true z).2.2.2)
    · rw [if_neg c1]
      exact skip _ ST.rf rfl rfl (fun _ => rfl) (fun e _ z => c1 (nI_i8 k c hk hc (e27.symm.trans (of_decide_eq_true z).1)))
