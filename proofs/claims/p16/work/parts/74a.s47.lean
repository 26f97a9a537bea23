/-! SIMULATION 47: frames that come, on the reference's side: what an end has kept -/
abbrev EK := Nat × (Nat → Int32)
abbrev FD := Int32 × Int32 × Int32 × Int32
def kpR (g : Nat → Int32) (n : Nat) (d : FD) : Nat → Int32 := fun j => if j = 4 * n + 3 then d.2.2.2 else if j = 4 * n + 2 then d.2.2.1 else if j = 4 * n + 1 then d.2.1 else if j = 4 * n then d.1 else g j
def kp (s : EK) (d : FD) : EK := (s.1 + 1, kpR s.2 (s.1 % 50) d)
def EKm (J : Mm) (A : Nat → Nat) (e : Nat) (s : EK) : Prop := J (A 42) e = nI s.1 ∧ ∀ j, j < 200 → J (A 41) (200 * e + j) = s.2 j
theorem kp_len (L : List FD) : ∀ (s : EK), (L.foldl kp s).1 = s.1 + L.length := by
  induction L with
  | nil => intro s; rfl
  | cons d L ih => intro s; rw [List.foldl_cons, ih, List.length_cons]; show s.1 + 1 + L.length = _; omega
theorem EKm_e {J J' : Mm} {A : Nat → Nat} {e : Nat} {s : EK} (h : EKm J A e s) (h1 : J' (A 42) e = J (A 42) e) (h2 : ∀ j, J' (A 41) j = J (A 41) j) : EKm J' A e s := ⟨h1.trans h.1, fun j hj => (h2 _).trans (h.2 j hj)⟩
theorem fk_42 {m f x nf cm : Nat} {A : Nat → Nat} {J : Mm} (hA : AD m A) (h : nI 3 ≤ J (A 9) x) (e : Nat) : f_X8_frameComes J m A f x nf cm (A 42) e = if e = x / 8 then nI (cm + 1) else J (A 42) e := by
  simp only [f_X8_frameComes, if_pos h]
  by_cases q : e = x / 8
  · rw [if_pos q, q, up2_self]
  · rw [if_neg q, mu_j q, mu_o hA (by decide) (by decide) (by decide), mu_o hA (by decide) (by decide) (by decide), mu_o hA (by decide) (by decide) (by decide), mu_o hA (by decide) (by decide) (by decide), mu_o hA (by decide) (by decide) (by decide), g31_A hA (by decide)]
theorem fk_41 {m f x nf cm : Nat} {A : Nat → Nat} {J : Mm} (hA : AD m A) (h : nI 3 ≤ J (A 9) x) (j : Nat) : f_X8_frameComes J m A f x nf cm (A 41) j = if j = 4 * (50 * (x / 8) + cm % 50) + 3 then J m 43 else if j = 4 * (50 * (x / 8) + cm % 50) + 2 then J (A 36) f else if j = 4 * (50 * (x / 8) + cm % 50) + 1 then J (A 35) f else if j = 4 * (50 * (x / 8) + cm % 50) then nI (x % 8) else J (A 41) j := by
  simp only [f_X8_frameComes, if_pos h]
  generalize 4 * (50 * (x / 8) + cm % 50) = a
  rw [mu_o hA (by decide) (by decide) (by decide)]
  by_cases q3 : j = a + 3
  · rw [if_pos q3, q3, up2_self, am_m hA (by decide), am_m hA (by decide), am_m hA (by decide), am_m hA (by decide), g31_m (by decide)]
  · rw [if_neg q3, mu_j q3]
    by_cases q2 : j = a + 2
    · rw [if_pos q2, q2, up2_self, mu_o hA (by decide) (by decide) (by decide), mu_o hA (by decide) (by decide) (by decide), mu_o hA (by decide) (by decide) (by decide), g31_A hA (by decide)]
    · rw [if_neg q2, mu_j q2]
      by_cases q1 : j = a + 1
      · rw [if_pos q1, q1, up2_self, mu_o hA (by decide) (by decide) (by decide), mu_o hA (by decide) (by decide) (by decide), g31_A hA (by decide)]
      · rw [if_neg q1, mu_j q1]
        by_cases q0 : j = a
        · rw [if_pos q0, q0, up2_self]
        · rw [if_neg q0, mu_j q0, mu_o hA (by decide) (by decide) (by decide), g31_A hA (by decide)]
theorem fc_keep {m f x nf : Nat} {A : Nat → Nat} {J : Mm} {s : EK} (hA : AD m A) (h : nI 3 ≤ J (A 9) x) (hs : EKm J A (x / 8) s) : EKm (f_X8_frameComes J m A f x nf s.1) A (x / 8) (kp s (nI (x % 8), J (A 35) f, J (A 36) f, J m 43)) := by
  refine ⟨by rw [fk_42 hA h, if_pos rfl]; rfl, fun j hj => ?_⟩
  rw [fk_41 hA h]
  show _ = kpR s.2 (s.1 % 50) _ j
  unfold kpR
  have hm : s.1 % 50 < 50 := Nat.mod_lt _ (by decide)
  by_cases q3 : j = 4 * (s.1 % 50) + 3
  · rw [if_pos q3, if_pos (by omega)]
  · rw [if_neg q3, if_neg (by omega)]
    by_cases q2 : j = 4 * (s.1 % 50) + 2
    · rw [if_pos q2, if_pos (by omega)]
    · rw [if_neg q2, if_neg (by omega)]
      by_cases q1 : j = 4 * (s.1 % 50) + 1
      · rw [if_pos q1, if_pos (by omega)]
      · rw [if_neg q1, if_neg (by omega)]
        by_cases q0 : j = 4 * (s.1 % 50)
        · rw [if_pos q0, if_pos (by omega)]
        · rw [if_neg q0, if_neg (by omega)]
          exact hs.2 j hj
theorem fc_other {m f x nf cm e : Nat} {A : Nat → Nat} {J : Mm} {s : EK} (hA : AD m A) (h : nI 3 ≤ J (A 9) x) (he : e ≠ x / 8) (hs : EKm J A e s) : EKm (f_X8_frameComes J m A f x nf cm) A e s := by
  refine ⟨by rw [fk_42 hA h, if_neg he]; exact hs.1, fun j hj => ?_⟩
  have hm : cm % 50 < 50 := Nat.mod_lt _ (by decide)
  rw [fk_41 hA h, if_neg (by omega), if_neg (by omega), if_neg (by omega), if_neg (by omega)]
  exact hs.2 j hj
theorem fc_drop {m f x nf cm e : Nat} {A : Nat → Nat} {J : Mm} {s : EK} (hA : AD m A) (h : ¬ nI 3 ≤ J (A 9) x) (hs : EKm J A e s) : EKm (f_X8_frameComes J m A f x nf cm) A e s := by
  simp only [f_X8_frameComes, if_neg h]
  exact EKm_e hs (mm_a hA (by decide)) (fun j => mm_a hA (by decide))
theorem nc_ek {m t x e : Nat} {A : Nat → Nat} {J : Mm} {s : EK} (hA : AD m A) (hs : EKm J A e s) : EKm (f_X8_noteComes J m A t x) A e s := by
  have n : ∀ l, dm l → l ≠ 7 → l ≠ 8 → l ≠ 14 → l ≠ 15 → l ≠ 17 → l ≠ 18 → f_X8_noteComes J m A t x (A l) = J (A l) := fun l hl h1 h2 h3 h4 h5 h6 => nm_X8_noteComes (fun k hk z => by
    have hk' : dm k := (show ∀ k ∈ ([7, 8, 14, 15, 17, 18] : List Nat), dm k by decide) k hk
    have := hA.1 l k hl hk' z
    subst this
    simp at hk
    omega)
  exact EKm_e hs (congrFun (n 42 (by decide) (by decide) (by decide) (by decide) (by decide) (by decide) (by decide)) e) (fun j => congrFun (n 41 (by decide) (by decide) (by decide) (by decide) (by decide) (by decide) (by decide)) j)
/-- thing t is a frame of this lane, and due -/
def dFb (J : Mm) (m : Nat) (A : Nat → Nat) (c e t : Nat) : Bool := decide (J (A 27) t = nI c ∧ J (A 28) t = nI e ∧ ¬ J (A 30) t = -1 ∧ J (A 29) t = J m 43)
def dDt (J : Mm) (m : Nat) (A : Nat → Nat) (y t : Nat) : FD := (nI (y % 8), J (A 35) (J (A 30) t).toNatClampNeg, J (A 36) (J (A 30) t).toNatClampNeg, J m 43)
def dLs (J : Mm) (m : Nat) (A : Nat → Nat) (c e y i : Nat) : List FD := if nI 3 ≤ J (A 9) y then ((List.range i).filter (dFb J m A c e)).map (dDt J m A y) else []
theorem dLs_s {J : Mm} {m c e y i : Nat} {A : Nat → Nat} (hq : nI 3 ≤ J (A 9) y) : dLs J m A c e y (i + 1) = dLs J m A c e y i ++ (if dFb J m A c e i = true then [dDt J m A y i] else []) := by
  unfold dLs
  rw [if_pos hq, if_pos hq, List.range_succ, List.filter_append, List.map_append]
  by_cases q : dFb J m A c e i = true
  · rw [if_pos q, List.filter_cons_of_pos q]; rfl
  · rw [if_neg q, List.filter_cons_of_neg q]; rfl
theorem dLs_n {J : Mm} {m c e y i : Nat} {A : Nat → Nat} (hq : ¬ dFb J m A c e i = true) : dLs J m A c e y (i + 1) = dLs J m A c e y i := by
  by_cases q : nI 3 ≤ J (A 9) y
  · rw [dLs_s q, if_neg hq, List.append_nil]
  · unfold dLs
    rw [if_neg q, if_neg q]
theorem dLs_len {J : Mm} {m c e y i : Nat} {A : Nat → Nat} : (dLs J m A c e y i).length ≤ i := by
  unfold dLs
  split
  · rw [List.length_map]
    exact Nat.le_trans (List.length_filter_le _ _) (by rw [List.length_range]; exact Nat.le_refl _)
  · exact Nat.zero_le _
theorem g45F {m nt nf c : Nat} {A : Nat → Nat} {J : Mm} {y : Nat → Nat} {s : Nat → EK} (hA : AD m A) (hc : c < 8) (hy : ∀ e, e < 2 → y e < 16 ∧ y e / 8 = 1 - e) (hs : ∀ e, e < 2 → (s e).1 + nt < 2000000000) (s27 : ∀ t, t < nt → ∃ k, k < 8 ∧ J (A 27) t = nI k) (s28 : ∀ t, t < nt → ∃ e, e < 2 ∧ J (A 28) t = nI e) (pa : ∀ e, e < 2 → 8 * (1 - e) + (J (A 22) (2 * c + (1 - e))).toNatClampNeg = y e) : ∀ r i J' w, i + r = nt → ST m A J J' → (∀ e, e < 2 → EKm J' A (1 - e) ((dLs J m A c e (y e) i).foldl kp (s e))) → ∀ e, e < 2 → EKm (g_X8_comes_45 m A nt nf r i c J' w).1 A (1 - e) ((dLs J m A c e (y e) nt).foldl kp (s e)) := by
  intro r
  induction r with
  | zero =>
    intro i J' w hi st ho
    have hi : i = nt := by omega
    subst hi
    exact ho
  | succ r ih =>
    intro i J' w hi st ho
    have hin : i < nt := by omega
    have j27 : J' (A 27) i = J (A 27) i := st.1 27 i (by decide) (by decide) (by decide) (by decide) (by decide) (by decide) (by decide) (by decide) (by decide) (by decide)
    have j28 : J' (A 28) i = J (A 28) i := st.1 28 i (by decide) (by decide) (by decide) (by decide) (by decide) (by decide) (by decide) (by decide) (by decide) (by decide)
    have j29 : J' (A 29) i = J (A 29) i := st.1 29 i (by decide) (by decide) (by decide) (by decide) (by decide) (by decide) (by decide) (by decide) (by decide) (by decide)
    have j30 : J' (A 30) i = J (A 30) i := st.1 30 i (by decide) (by decide) (by decide) (by decide) (by decide) (by decide) (by decide) (by decide) (by decide) (by decide)
    have j43 : J' m 43 = J m 43 := st.2 43 (by decide) (by decide)
    have j9 : ∀ j, J' (A 9) j = J (A 9) j := fun j => st.1 9 j (by decide) (by decide) (by decide) (by decide) (by decide) (by decide) (by decide) (by decide) (by decide) (by decide)
    have j35 : ∀ j, J' (A 35) j = J (A 35) j := fun j => st.1 35 j (by decide) (by decide) (by decide) (by decide) (by decide) (by decide) (by decide) (by decide) (by decide) (by decide)
    have j36 : ∀ j, J' (A 36) j = J (A 36) j := fun j => st.1 36 j (by decide) (by decide) (by decide) (by decide) (by decide) (by decide) (by decide) (by decide) (by decide) (by decide)
    obtain ⟨k, hk, e27⟩ := s27 i hin
    obtain ⟨e0, he0, e28⟩ := s28 i hin
    have skip : ∀ J2, ST m A J' J2 → (∀ e, e < 2 → ∀ u, EKm J' A (1 - e) u → EKm J2 A (1 - e) u) → (∀ e, e < 2 → ¬ dFb J m A c e i = true) → ∀ e, e < 2 → EKm (g_X8_comes_45 m A nt nf r (i + 1) c J2 w).1 A (1 - e) ((dLs J m A c e (y e) nt).foldl kp (s e)) := fun J2 s2 k2 nm =>
      ih (i + 1) J2 w (by omega) (st.tr s2) (fun e he => by rw [dLs_n (nm e he)]; exact k2 e he _ (ho e he))
    rw [g_X8_comes_45]
    dsimp only
    rw [j27, j29, j30, j28, j43, e27, e28, nI_cl (by omega), nI_cl (by omega)]
    by_cases c1 : k = c
    · rw [if_pos c1]
      by_cases c2 : J (A 29) i = J m 43
      · rw [if_pos c2]
        have py : f_X8_portAt J' m A c (1 - e0) = y e0 := by
          unfold f_X8_portAt
          rw [st.1 22 _ (by decide) (by decide) (by decide) (by decide) (by decide) (by decide) (by decide) (by decide) (by decide) (by decide)]
          exact pa e0 he0
        rw [py]
        by_cases c3 : J (A 30) i = -1
        · rw [if_pos c3]
          exact skip _ (st_nc hA) (fun e he u hu => nc_ek hA hu) (fun e _ z => (of_decide_eq_true z).2.2.1 c3)
        · rw [if_neg c3]
          have isd : dFb J m A c e0 i = true := decide_eq_true ⟨by rw [e27, c1], e28, c3, c2⟩
          have nod : ∀ e, e < 2 → e ≠ e0 → ¬ dFb J m A c e i = true := fun e he hn z => hn (nI_i8 e e0 (by omega) (by omega) ((of_decide_eq_true z).2.1.symm.trans e28))
          obtain ⟨hy1, hy2⟩ := hy e0 he0
          by_cases col : nI 3 ≤ J (A 9) (y e0)
          · have col' : nI 3 ≤ J' (A 9) (y e0) := by rw [j9]; exact col
            have h0 := ho e0 he0
            have len := kp_len (dLs J m A c e0 (y e0) i) (s e0)
            have ll := dLs_len (J := J) (m := m) (A := A) (c := c) (e := e0) (y := y e0) (i := i)
            have hs0 := hs e0 he0
            have ecm : (J' (A 42) (y e0 / 8)).toNatClampNeg = ((dLs J m A c e0 (y e0) i).foldl kp (s e0)).1 := by
              rw [hy2, h0.1, nI_cl (by omega)]
            rw [ecm]
            refine ih (i + 1) _ w (by omega) (st.tr (st_fc hA)) (fun e he => ?_)
            by_cases qe : e = e0
            · subst qe
              rw [dLs_s col, if_pos isd, List.foldl_append]
              have q := fc_keep (f := (J (A 30) i).toNatClampNeg) (nf := nf) hA col' (by rw [hy2]; exact h0)
              rw [hy2] at q
              unfold dDt
              rw [j35, j36, j43] at q
              exact q
            · rw [dLs_n (nod e he qe)]
              exact fc_other hA col' (by omega) (ho e he)
          · have col' : ¬ nI 3 ≤ J' (A 9) (y e0) := by rw [j9]; exact col
            refine ih (i + 1) _ w (by omega) (st.tr (st_fc hA)) (fun e he => ?_)
            by_cases qe : e = e0
            · subst qe
              have e1 : dLs J m A c e (y e) (i + 1) = dLs J m A c e (y e) i := by unfold dLs; rw [if_neg col, if_neg col]
              rw [e1]
              exact fc_drop hA col' (ho e he)
            · rw [dLs_n (nod e he qe)]
              exact fc_drop hA col' (ho e he)
      · rw [if_neg c2]
        exact skip _ ST.rf (fun _ _ _ hu => hu) (fun e _ z => c2 (of_decide_eq_true z).2.2.2)
    · rw [if_neg c1]
      exact skip _ ST.rf (fun _ _ _ hu => hu) (fun e _ z => c1 (nI_i8 k c hk hc (e27.symm.trans (of_decide_eq_true z).1)))
