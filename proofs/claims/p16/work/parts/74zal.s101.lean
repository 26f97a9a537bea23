/-! SIMULATION 101: a cable that is cut: what is cut off, epochs -/
theorem mv_k {I : Mm} {E p o k : Nat} {v : Int32} (hEp : E ≠ p) (hEo : E ≠ o) (hk : k ≠ 8) : f_X1_moveTo I E p o v E k = I E k := by
  unfold f_X1_moveTo
  repeat' split
  all_goals
    try dsimp only
    rw [n_X5_setStage hEp hEo]
    try rw [up2_jn hk]
/-- the port of a cable at an end -/
def ptc (R : Nat → Nat → Option Nat) (b c i : Nat) : Nat := (R (ppd R b c) i).getD 0
def offX (R : Nat → Nat → Option Nat) (b c i : Nat) (I : Mm) : Mm := f_X5_becomeDark (f_X1_moveTo (f_X3_clear (up2 I b 5 (I b 5 + nI (I (Ln R b c i) 5).toNatClampNeg)) R b c i) (En R b i) (ptc R b c i) (tlo R b c i) (nI 0)) (ptc R b c i) ((R (ptc R b c i) 1).getD 0)
theorem off_2 {R : Nat → Nat → Option Nat} {b c : Nat} {I : Mm} : f_X7_switchOff I R b c = offX R b c 1 (offX R b c 0 (up2 I (Cb R b c) 3 (nI 0))) := rfl
theorem off_e {S : MM} {b c i : Nat} {I : Mm} (hL : LY S b) (hO : OC S) (hc : c < 8) (hi : i < 2) (pl : plg (sR S) b c) : offX (sR S) b c i I b 5 = I b 5 + nI (I (Ln (sR S) b c i) 5).toNatClampNeg ∧ (∀ j, j ≠ 5 → offX (sR S) b c i I b j = I b j) ∧ offX (sR S) b c i I (En (sR S) b i) 8 = I (En (sR S) b i) 8 + nI (if dlt (I (ptc (sR S) b c i) 5) (nI 0) = true then 1 else 0) ∧ (∀ e k, e < 2 → ¬ (e = i ∧ k = 8) → offX (sR S) b c i I (En (sR S) b e) k = I (En (sR S) b e) k) ∧ (∀ e, e < 2 → e ≠ i → offX (sR S) b c i I (Ln (sR S) b c e) = I (Ln (sR S) b c e)) ∧ ∀ z, sK S z = 6 → z ≠ ptc (sR S) b c i → offX (sR S) b c i I z = I z := by
  have kp : sK S (ptc (sR S) b c i) = 6 := ly_nn hL.1 (ly_pp hL hc).2.1 rfl (plg_i pl hi)
  have ko : sK S (tlo (sR S) b c i) = 7 := k_tlo hL hc hi pl
  have kq : sK S ((sR S (ptc (sR S) b c i) 1).getD 0) = 7 := (ly_f hL.1 kp (show rf 6 1 = some (7, 0) from rfl)).2.1
  have kN := (ly_N hL hc hi).2.1
  have kE := (ly_E hL hi).2.1
  -- a cell that is neither of these
  have n5 : ∀ z k, sK S z = k → k ≠ 4 → k ≠ 8 → f_X3_clear (up2 I b 5 (I b 5 + nI (I (Ln (sR S) b c i) 5).toNatClampNeg)) (sR S) b c i z = I z := fun z k hz h4 h8 => by
    unfold f_X3_clear
    try dsimp only
    rw [up2_row (ne_k hz kN h4), up2_row (ne_k hz kN h4), up2_row (ne_k hz hL.2 h8)]
  have b5 : ∀ j, f_X3_clear (up2 I b 5 (I b 5 + nI (I (Ln (sR S) b c i) 5).toNatClampNeg)) (sR S) b c i b j = up2 I b 5 (I b 5 + nI (I (Ln (sR S) b c i) 5).toNatClampNeg) b j := fun j => by
    unfold f_X3_clear
    try dsimp only
    rw [up2_row (ne_k hL.2 kN (by decide)), up2_row (ne_k hL.2 kN (by decide))]
  have l5 : ∀ e, e < 2 → e ≠ i → f_X3_clear (up2 I b 5 (I b 5 + nI (I (Ln (sR S) b c i) 5).toNatClampNeg)) (sR S) b c i (Ln (sR S) b c e) = I (Ln (sR S) b c e) := fun e he hn => by
    have nn : Ln (sR S) b c e ≠ Ln (sR S) b c i := fun y => hn (i_Ln hL hO hc hc he hi y).2
    unfold f_X3_clear
    try dsimp only
    rw [up2_row nn, up2_row nn, up2_row (ne_k (ly_N hL hc he).2.1 hL.2 (by decide))]
  unfold offX
  generalize f_X3_clear (up2 I b 5 (I b 5 + nI (I (Ln (sR S) b c i) 5).toNatClampNeg)) (sR S) b c i = I5 at n5 b5 l5 ⊢
  have out : ∀ z k, sK S z = k → k ≠ 2 → k ≠ 6 → k ≠ 7 → f_X5_becomeDark (f_X1_moveTo I5 (En (sR S) b i) (ptc (sR S) b c i) (tlo (sR S) b c i) (nI 0)) (ptc (sR S) b c i) ((sR S (ptc (sR S) b c i) 1).getD 0) z = I5 z := fun z k hz h2 h6 h7 => by
    rw [n_X5_becomeDark (ne_k hz kp h6) (ne_k hz kq h7), n_X1_moveTo (ne_k hz kp h6) (ne_k hz ko h7) (ne_k hz kE h2)]
  refine ⟨?_, fun j hj => ?_, ?_, fun e k he hn => ?_, fun e he hn => ?_, fun z hz hn => ?_⟩
  · rw [out b 8 hL.2 (by decide) (by decide) (by decide), b5, up2_self]
  · rw [out b 8 hL.2 (by decide) (by decide) (by decide), b5, up2_jn hj]
  · rw [n_X5_becomeDark (ne_k kE kp (by decide)) (ne_k kE kq (by decide)), mv_8 (ne_k kE kp (by decide)) (ne_k kE ko (by decide)), n5 _ 2 kE (by decide) (by decide), n5 _ 6 kp (by decide) (by decide)]
  · have kE' := (ly_E hL he).2.1
    rw [n_X5_becomeDark (ne_k kE' kp (by decide)) (ne_k kE' kq (by decide))]
    by_cases q : e = i
    · subst q
      rw [mv_k (ne_k kE kp (by decide)) (ne_k kE ko (by decide)) (fun y => hn ⟨rfl, y⟩), n5 _ 2 kE (by decide) (by decide)]
    · rw [n_X1_moveTo (ne_k kE' kp (by decide)) (ne_k kE' ko (by decide)) (fun y => q (i_E hL hO he hi y)), n5 _ 2 kE' (by decide) (by decide)]
  · rw [out _ 4 (ly_N hL hc he).2.1 (by decide) (by decide) (by decide), l5 e he hn]
  · rw [n_X5_becomeDark hn (ne_k hz kq (by decide)), n_X1_moveTo hn (ne_k hz ko (by decide)) (ne_k hz kE (by decide)), n5 z 6 hz (by decide) (by decide)]
theorem off_x {S : MM} {b c : Nat} {I : Mm} (hL : LY S b) (hO : OC S) (hc : c < 8) (pl : plg (sR S) b c) (nd : ptc (sR S) b c 1 ≠ ptc (sR S) b c 0) : f_X7_switchOff I (sR S) b c b 5 = I b 5 + nI ((I (Ln (sR S) b c 0) 5).toNatClampNeg + (I (Ln (sR S) b c 1) 5).toNatClampNeg) ∧ (∀ j, j ≠ 5 → f_X7_switchOff I (sR S) b c b j = I b j) ∧ ∀ e, e < 2 → f_X7_switchOff I (sR S) b c (En (sR S) b e) 8 = I (En (sR S) b e) 8 + nI (if dlt (I (ptc (sR S) b c e) 5) (nI 0) = true then 1 else 0) ∧ f_X7_switchOff I (sR S) b c (En (sR S) b e) 7 = I (En (sR S) b e) 7 := by
  rw [off_2]
  have kC := (ly_C hL hc).2.1
  have r0 : ∀ z k, sK S z = k → k ≠ 1 → up2 I (Cb (sR S) b c) 3 (nI 0) z = I z := fun z k hz h1 => up2_row (ne_k hz kC h1)
  have kp : ∀ i, i < 2 → sK S (ptc (sR S) b c i) = 6 := fun i hi => ly_nn hL.1 (ly_pp hL hc).2.1 rfl (plg_i pl hi)
  obtain ⟨a1, a2, a3, a4, a5, a6⟩ := off_e (I := up2 I (Cb (sR S) b c) 3 (nI 0)) hL hO hc (show 0 < 2 by decide) pl
  rw [r0 b 8 hL.2 (by decide)] at a1 a2
  rw [r0 _ 4 (ly_N hL hc (by decide)).2.1 (by decide)] at a1
  rw [r0 _ 2 (ly_E hL (by decide)).2.1 (by decide), r0 _ 6 (kp 0 (by decide)) (by decide)] at a3
  have a4' : ∀ e k, e < 2 → ¬ (e = 0 ∧ k = 8) → offX (sR S) b c 0 (up2 I (Cb (sR S) b c) 3 (nI 0)) (En (sR S) b e) k = I (En (sR S) b e) k := fun e k he hn => by rw [a4 e k he hn, r0 _ 2 (ly_E hL he).2.1 (by decide)]
  have a5' := a5 1 (by decide) (by decide)
  rw [r0 _ 4 (ly_N hL hc (by decide)).2.1 (by decide)] at a5'
  have a6' := a6 (ptc (sR S) b c 1) (kp 1 (by decide)) nd
  rw [r0 _ 6 (kp 1 (by decide)) (by decide)] at a6'
  generalize offX (sR S) b c 0 (up2 I (Cb (sR S) b c) 3 (nI 0)) = I1 at a1 a2 a3 a4' a5' a6' ⊢
  obtain ⟨c1, c2, c3, c4, c5, c6⟩ := off_e (I := I1) hL hO hc (show 1 < 2 by decide) pl
  refine ⟨?_, fun j hj => (c2 j hj).trans (a2 j hj), fun e he => ?_⟩
  · rw [c1, a1, a5', i_nn]
  · have q : e = 0 ∨ e = 1 := by omega
    rcases q with rfl | rfl
    · exact ⟨by rw [c4 0 8 (by decide) (by decide), a3], by rw [c4 0 7 (by decide) (by decide), a4' 0 7 (by decide) (by decide)]⟩
    · exact ⟨by rw [c3, a4' 1 8 (by decide) (by decide), a6'], by rw [c4 1 7 (by decide) (by decide), a4' 1 7 (by decide) (by decide)]⟩
/-- the reference's -/
theorem dk_go {J : Mm} {m x : Nat} {A : Nat → Nat} (hA : AD m A) : GO1 m A x J (f_X8_isDarkNow J m A x) := by
  have u : ∀ {K : Mm} {k l y : Nat} {v : Int32}, dm k → dm l → k ≠ l → up2 K (A l) y v (A k) = K (A k) := fun hk hl n => up_o hA hk hl n
  have f : ∀ (K : Mm) k, dm k → k ≠ 18 → f_X8_forgets K m A x (A k) = K (A k) := fun K k hk n => nm_X8_forgets (fun l hl z => by
    rw [List.mem_singleton] at hl
    subst hl
    exact n (hA.1 k 18 hk (by decide) z))
  unfold f_X8_isDarkNow
  try dsimp only
  refine GO1.e (J1 := f_X8_goesTo (up2 (up2 J (A 7) x (nI 0)) (A 8) x (nI 0)) m A x (nI 0)) (GO1.go hA (by rw [u (by decide) (by decide) (by decide), u (by decide) (by decide) (by decide)]) (by rw [u (by decide) (by decide) (by decide), u (by decide) (by decide) (by decide)])) ?_ ?_
  · rw [u (by decide) (by decide) (by decide), u (by decide) (by decide) (by decide), u (by decide) (by decide) (by decide), u (by decide) (by decide) (by decide), f _ 40 (by decide) (by decide)]
  · rw [u (by decide) (by decide) (by decide), u (by decide) (by decide) (by decide), u (by decide) (by decide) (by decide), u (by decide) (by decide) (by decide), f _ 9 (by decide) (by decide)]
theorem lt_go {J : Mm} {m x : Nat} {A : Nat → Nat} (hA : AD m A) : GO1 m A x J (f_X8_isLitNow J m A x) := by
  have u : ∀ {K : Mm} {k l y : Nat} {v : Int32}, dm k → dm l → k ≠ l → up2 K (A l) y v (A k) = K (A k) := fun hk hl n => up_o hA hk hl n
  unfold f_X8_isLitNow f_X8_partnerStops
  try dsimp only
  refine GO1.e (J1 := f_X8_goesTo (up2 (up2 (up2 J (A 7) x (nI 1)) (A 8) x (nI 3)) (A 18) (5 * x + 4) (up2 (up2 J (A 7) x (nI 1)) (A 8) x (nI 3) (A 18) (5 * x + 4) &&& -57)) m A x (nI 0)) (GO1.go (J := J) hA ?_ ?_) ?_ ?_
  · rw [u (by decide) (by decide) (by decide), u (by decide) (by decide) (by decide), u (by decide) (by decide) (by decide)]
  · rw [u (by decide) (by decide) (by decide), u (by decide) (by decide) (by decide), u (by decide) (by decide) (by decide)]
  · rw [u (by decide) (by decide) (by decide), u (by decide) (by decide) (by decide)]
  · rw [u (by decide) (by decide) (by decide), u (by decide) (by decide) (by decide)]
def frc (c : Nat) (q : Nat → Int32) : Bool := decide (q 0 = nI c ∧ ¬ q 3 = -1)
theorem emp_46 {m nt c : Nat} {A : Nat → Nat} (hA : AD m A) (hc : c < 8) : ∀ r i k (J : Mm), k ≤ i → (∀ t, i ≤ t → (∃ e, e < 8 ∧ J (A 27) t = nI e) ∧ nI (J (A 28) t).toNatClampNeg = J (A 28) t) → (g_X8_empties_4 m A c nt r i k J) m 46 = J m 46 + nI (((List.range' i r).map (tg J A)).countP (frc c)) := by
  intro r
  induction r with
  | zero =>
    intro i k J _ _
    rw [g_X8_empties_4]
    try dsimp only
    rw [mm_j (by decide)]
    exact (i_add0 _).symm
  | succ r ih =>
    intro i k J hk hr
    obtain ⟨⟨e, he, ee⟩, e28⟩ := hr i (Nat.le_refl i)
    have e0 : tg J A i 0 = J (A 27) i := rfl
    have e3 : tg J A i 3 = J (A 30) i := rfl
    rw [g_X8_empties_4]
    try dsimp only
    rw [ee, nI_cl (by omega), List.range'_succ, List.map_cons, List.countP_cons]
    by_cases q : e = c
    · rw [if_pos q]
      have go : ∀ (d : Nat), (if frc c (tg J A i) = true then 1 else 0) = d → (g_X8_empties_4 m A c nt r (i + 1) k (up2 J m 46 (J m 46 + nI d))) m 46 = J m 46 + nI (((List.range' (i + 1) r).map (tg J A)).countP (frc c) + (if frc c (tg J A i) = true then 1 else 0)) := fun d ed => by
        have a1 : ∀ kk, dm kk → up2 J m 46 (J m 46 + nI d) (A kk) = J (A kk) := fun kk a => up2_row (hA.2 kk a)
        have tgE : ∀ t, tg (up2 J m 46 (J m 46 + nI d)) A t = tg J A t := fun t => tg_k (fun kk hk => a1 kk ((show ∀ kk ∈ ([27, 28, 29, 30, 31] : List Nat), dm kk by decide) kk hk))
        rw [ih (i + 1) k _ (by omega) (fun t ht => by rw [a1 27 (by decide), a1 28 (by decide)]; exact hr t (by omega)), up2_self, i_nn, ed, rg_s (fun t _ => tgE t), Nat.add_comm]
      by_cases q3 : J (A 30) i = -1
      · rw [if_pos q3]
        exact go 0 (by rw [if_neg (fun z => (of_decide_eq_true z).2 (e3.trans q3))])
      · rw [if_neg q3]
        exact go 1 (if_pos (show frc c (tg J A i) = true from decide_eq_true ⟨by rw [e0, ee, q], fun z => q3 (e3.symm.trans z)⟩))
    · rw [if_neg q]
      have tn : ∀ t, t ≠ k → tg (f_X8_moves J m A i k) A t = tg J A t := fun t ht => mv_n hA ht
      rw [ih (i + 1) (k + 1) (f_X8_moves J m A i k) (by omega) (fun t ht => by
        have z := tn t (by omega)
        have q0 : f_X8_moves J m A i k (A 27) t = J (A 27) t := congrFun z 0
        have q1 : f_X8_moves J m A i k (A 28) t = J (A 28) t := congrFun z 1
        rw [q0, q1]
        exact hr t (by omega)), mv_m hA, if_neg (fun z => q (nI_inj (by omega) (by omega) ((show J (A 27) i = nI e from ee).symm.trans (of_decide_eq_true z).1))), rg_s (fun t ht => tn t (by omega))]
      rfl
theorem frc_2 {c : Nat} : ∀ (L : List (Nat → Int32)), (∀ q ∈ L, q 1 = nI 0 ∨ q 1 = nI 1) → L.countP (frc c) = (L.filter (isG c 0)).length + (L.filter (isG c 1)).length := by
  intro L
  induction L with
  | nil => intro _; rfl
  | cons q L ih =>
    intro h
    have i2 := ih (fun q hq => h q (List.mem_cons_of_mem _ hq))
    rw [List.countP_cons, i2]
    by_cases f : q 0 = nI c ∧ ¬ q 3 = -1
    · rw [if_pos (show frc c q = true from decide_eq_true f)]
      rcases h q List.mem_cons_self with e | e
      · rw [List.filter_cons_of_pos (show isG c 0 q = true from decide_eq_true ⟨f.1, e, f.2⟩), List.filter_cons_of_neg (show ¬ isG c 1 q = true from fun z => absurd (e.symm.trans (of_decide_eq_true z).2.1) (by decide)), List.length_cons]
        omega
      · rw [List.filter_cons_of_pos (show isG c 1 q = true from decide_eq_true ⟨f.1, e, f.2⟩), List.filter_cons_of_neg (show ¬ isG c 0 q = true from fun z => absurd (e.symm.trans (of_decide_eq_true z).2.1) (by decide)), List.length_cons]
        omega
    · rw [if_neg (show ¬ frc c q = true from fun z => f (of_decide_eq_true z)), List.filter_cons_of_neg (show ¬ isG c 0 q = true from fun z => f ⟨(of_decide_eq_true z).1, (of_decide_eq_true z).2.2⟩), List.filter_cons_of_neg (show ¬ isG c 1 q = true from fun z => f ⟨(of_decide_eq_true z).1, (of_decide_eq_true z).2.2⟩)]
      omega
theorem cut_x {J : Mm} {m nt c p0 p1 : Nat} {A : Nat → Nat} (hA : AD m A) (hc : c < 8) (h0 : p0 < 8) (h1 : p1 < 8) (s27 : ∀ t, ∃ k, k < 8 ∧ J (A 27) t = nI k) (s28 : ∀ t, ∃ e, e < 2 ∧ J (A 28) t = nI e) (P0 : J (A 22) (2 * c + 0) = nI p0) (P1 : J (A 22) (2 * c + 1) = nI p1) : f_X8_isCut J m A c nt m 46 = J m 46 + nI (((TG J A nt).filter (isG c 0)).length + ((TG J A nt).filter (isG c 1)).length) ∧ f_X8_isCut J m A c nt (A 40) 0 = J (A 40) 0 + nI (if dlt (J (A 9) p0) (nI 0) = true then 1 else 0) ∧ f_X8_isCut J m A c nt (A 40) 1 = J (A 40) 1 + nI (if dlt (J (A 9) (8 + p1)) (nI 0) = true then 1 else 0) := by
  have em : f_X8_empties J m A c nt m 46 = J m 46 + nI (((TG J A nt).filter (isG c 0)).length + ((TG J A nt).filter (isG c 1)).length) := by
    have E : f_X8_empties J m A c nt = g_X8_empties_4 m A c nt nt 0 0 J := rfl
    rw [E, emp_46 hA hc nt 0 0 J (Nat.le_refl 0) (fun t _ => ⟨s27 t, by obtain ⟨e, he, ee⟩ := s28 t; rw [ee, nI_cl (by omega)]⟩), ← List.range_eq_range', frc_2 _ (fun q hq => ?_)]
    · rfl
    · obtain ⟨t, _, rfl⟩ := List.mem_map.mp hq
      obtain ⟨e, he, ee⟩ := s28 t
      have q : e = 0 ∨ e = 1 := by omega
      rcases q with rfl | rfl
      · exact Or.inl ee
      · exact Or.inr ee
  have er : ∀ k, dm k → (k < 27 ∨ 31 < k) → f_X8_empties J m A c nt (A k) = J (A k) := fun k hk h => nm_X8_empties (fun l hl z => by
    have hl' : dm l := (show ∀ l ∈ ([27, 28, 29, 30, 31] : List Nat), dm l by decide) l hl
    have := hA.1 k l hk hl' z
    subst this
    simp at hl
    omega) (hA.2 k hk)
  unfold f_X8_isCut
  try dsimp only
  generalize f_X8_empties J m A c nt = J2 at em er ⊢
  have r4 : ∀ k, dm k → k ≠ 25 → up2 J2 (A 25) c (nI 0) (A k) = J2 (A k) := fun k hk n => up_o hA hk (by decide) n
  have m4 : up2 J2 (A 25) c (nI 0) m 46 = J2 m 46 := am_m hA (by decide)
  have pA : f_X8_portAt (up2 J2 (A 25) c (nI 0)) m A c 0 = p0 := by
    unfold f_X8_portAt
    rw [r4 22 (by decide) (by decide), er 22 (by decide) (by decide), P0, nI_cl (by omega)]
    omega
  rw [pA]
  have g0 := dk_go (J := up2 J2 (A 25) c (nI 0)) (x := p0) hA
  have i0 := idn (J := up2 J2 (A 25) c (nI 0)) (x := p0) hA
  have m0 : f_X8_isDarkNow (up2 J2 (A 25) c (nI 0)) m A p0 m = up2 J2 (A 25) c (nI 0) m := nm_X8_isDarkNow (m_row hA (by decide))
  have w0 : f_X8_isDarkNow (up2 J2 (A 25) c (nI 0)) m A p0 (A 22) = up2 J2 (A 25) c (nI 0) (A 22) := nm_X8_isDarkNow (fun l hl z => by
    have hl' : dm l := (show ∀ l ∈ ([7, 8, 9, 12, 13, 14, 18, 21, 40] : List Nat), dm l by decide) l hl
    have := hA.1 22 l (by decide) hl' z
    subst this
    simp at hl)
  generalize f_X8_isDarkNow (up2 J2 (A 25) c (nI 0)) m A p0 = J7 at g0 i0 m0 w0 ⊢
  have pB : f_X8_portAt J7 m A c 1 = 8 + p1 := by
    unfold f_X8_portAt
    rw [w0, r4 22 (by decide) (by decide), er 22 (by decide) (by decide), P1, nI_cl (by omega)]
  rw [pB]
  have g1 := dk_go (J := J7) (x := 8 + p1) hA
  have i1 := idn (J := J7) (x := 8 + p1) hA
  have m1 : f_X8_isDarkNow J7 m A (8 + p1) m = J7 m := nm_X8_isDarkNow (m_row hA (by decide))
  refine ⟨by rw [m1, m0, m4, em], ?_, ?_⟩
  · rw [g1.1 0, decide_eq_false (show ¬ (8 + p1) / 8 = 0 by omega), Bool.false_and, if_neg (by decide), i_add0, g0.1 0, decide_eq_true (show p0 / 8 = 0 by omega), Bool.true_and, i0.1.2.2.1, r4 40 (by decide) (by decide), er 40 (by decide) (by decide), r4 9 (by decide) (by decide), er 9 (by decide) (by decide)]
    rfl
  · rw [g1.1 1, decide_eq_true (show (8 + p1) / 8 = 1 by omega), Bool.true_and, i1.1.2.2.1, g0.2 (8 + p1) (by omega), g0.1 1, decide_eq_false (show ¬ p0 / 8 = 1 by omega), Bool.false_and, if_neg (by decide), i_add0, r4 40 (by decide) (by decide), er 40 (by decide) (by decide), r4 9 (by decide) (by decide), er 9 (by decide) (by decide)]
    rfl
theorem up_x {J : Mm} {m c p0 p1 : Nat} {A : Nat → Nat} (hA : AD m A) (h0 : p0 < 8) (h1 : p1 < 8) (P0 : J (A 22) (2 * c + 0) = nI p0) (P1 : J (A 22) (2 * c + 1) = nI p1) (s0 : J (A 9) p0 = 0) (s1 : J (A 9) (8 + p1) = 0) : ∀ e, f_X8_isUp J m A c (A 40) e = J (A 40) e := by
  intro e
  unfold f_X8_isUp
  try dsimp only
  have r4 : ∀ k, dm k → k ≠ 25 → up2 J (A 25) c (nI 1) (A k) = J (A k) := fun k hk n => up_o hA hk (by decide) n
  have pA : f_X8_portAt (up2 J (A 25) c (nI 1)) m A c 0 = p0 := by
    unfold f_X8_portAt
    rw [r4 22 (by decide) (by decide), P0, nI_cl (by omega)]
    omega
  rw [pA]
  have g0 := lt_go (J := up2 J (A 25) c (nI 1)) (x := p0) hA
  have i0 := iln (J := up2 J (A 25) c (nI 1)) (x := p0) hA (by rw [r4 9 (by decide) (by decide)]; exact s0)
  have w0 : f_X8_isLitNow (up2 J (A 25) c (nI 1)) m A p0 (A 22) = up2 J (A 25) c (nI 1) (A 22) := nm_X8_isLitNow (fun l hl z => by
    have hl' : dm l := (show ∀ l ∈ ([7, 8, 9, 14, 18, 21, 40] : List Nat), dm l by decide) l hl
    have := hA.1 22 l (by decide) hl' z
    subst this
    simp at hl)
  generalize f_X8_isLitNow (up2 J (A 25) c (nI 1)) m A p0 = J7 at g0 i0 w0 ⊢
  have pB : f_X8_portAt J7 m A c 1 = 8 + p1 := by
    unfold f_X8_portAt
    rw [w0, r4 22 (by decide) (by decide), P1, nI_cl (by omega)]
  rw [pB]
  have e9 : J7 (A 9) (8 + p1) = 0 := by rw [g0.2 (8 + p1) (by omega), r4 9 (by decide) (by decide)]; exact s1
  have g1 := lt_go (J := J7) (x := 8 + p1) hA
  have i1 := iln (J := J7) (x := 8 + p1) hA e9
  have z : dlt (0 : Int32) (nI 0) = false := by decide
  rw [g1.1 e, i1.1.2.2.1, e9, z, Bool.and_false, if_neg (by decide), i_add0, g0.1 e, i0.1.2.2.1, r4 9 (by decide) (by decide), s0, z, Bool.and_false, if_neg (by decide), i_add0, r4 40 (by decide) (by decide)]
