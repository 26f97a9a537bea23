def f_X8_isNotQuiet (I : Nat → Nat → Int32) (m : Nat) (A : Nat → Nat) : Nat → Nat → Int32 := let I2 := up2 I m 44 (nI 0); I2
theorem x_X8_isNotQuiet {Q : Option Value → MM → Prop} {S : MM} {m : Nat} {A : Nat → Nat} (hM : MS S m A) (ir : IM S m A)   (K : KVM m A Q S (f_X8_isNotQuiet (sI S) m A)) : wX8_isNotQuiet [.ref m] S Q := by
  unfold f_X8_isNotQuiet at K
  refine Exists.intro 1 (u_X8_isNotQuiet_0 ?_)
  unfold bX8_isNotQuiet_0
  refine e_ldA rfl ?_
  refine e_cN 0 rfl ?_
  refine e_mT hM ir hM.1 (fun N e => nomatch (show (none : Option Nat) = some N from e)) (fun ir1 => ?_)
  exact e_rV (K ir1)
theorem nm_X8_isNotQuiet {I : Nat → Nat → Int32} {m : Nat} {A : Nat → Nat}  {z : Nat} (hz : ∀ k ∈ ([] : List Nat), z ≠ A k) (hm : z ≠ m) : (f_X8_isNotQuiet I m A) z = I z := by
  simp only [f_X8_isNotQuiet]
  repeat' split
  all_goals simp only [up2_row hm]
theorem ns_X8_isNotQuiet {I : Nat → Nat → Int32} {m : Nat} {A : Nat → Nat}  {S : MM} {j : Nat} (hM : MS S m A) (hj : j ∉ ([44] : List Nat)) : (f_X8_isNotQuiet I m A) m j = I m j := by
  simp only [f_X8_isNotQuiet]
  repeat' split
  all_goals simp only [up2_jn (show j ≠ 44 from fun z => hj (by rw [z]; decide))]
def g_X8_empties_4 (m : Nat) (A : Nat → Nat) (c : Nat) (nt : Nat) : Nat → Nat → Nat → (Nat → Nat → Int32) → (Nat → Nat → Int32)
  | 0, i3, i2, I => let I2 := up2 I m 32 (nI i2); I2
  | r + 1, i3, i2, I => if (I (A 27) i3).toNatClampNeg = c then (if (I (A 30) i3) = (-1 : Int32) then (let I6 := up2 I m 46 ((I m 46) + (nI 0)); g_X8_empties_4 m A c nt r (i3 + 1) i2 I6 ) else (let I8 := up2 I m 46 ((I m 46) + (nI 1)); g_X8_empties_4 m A c nt r (i3 + 1) i2 I8 )) else (let I10 := f_X8_moves I m A i3 i2; g_X8_empties_4 m A c nt r (i3 + 1) (i2 + 1) I10 )
theorem y_X8_empties_4 {Q : Option Value → MM → Prop} {m : Nat} {A : Nat → Nat} {c : Nat} {nt : Nat}  (r : Nat) : ∀ {S : MM} {i2 : Nat}  {i3 n : Nat} {lv : Lv} (hM : MS S m A) (hc : c < 8) (hnt : nt < 4001) (ir : IM S m A) (hi2 : i2 ≤ i3) (q0 : sI S m 32 = nI nt) (g0 : lvg lv 0 = some (.ref m)) (g1 : lvg lv 1 = some (.int (nI c))) (g2 : lvg lv 2 = some (.int (nI i2))) (g3 : lvg lv 3 = some (.int (nI i3)))    (hr : i3 + r = nt) (hn : 2 + r * 4 ≤ n) (K : KVM m A Q S (g_X8_empties_4 m A c nt r i3 i2 (sI S) )), wpn (kX8_empties Q) n 4 lv [] S 0 0 := by
  induction r with
  | zero =>
    intro S i2  i3 n lv hM hc hnt ir hi2 q0 g0 g1 g2 g3    hr hn K
    obtain ⟨d, rfl⟩ : ∃ d, n = d + 2 := ⟨n - 2, by omega⟩
    unfold g_X8_empties_4 at K
    refine u_X8_empties_4 ?_
    unfold bX8_empties_4
    refine e_ldI g3 ?_
    refine e_ldA g0 ?_
    refine e_gV (v := nI nt) hM.1 q0 ?_
    refine e_ge (by omega) (by omega) (fun _ => ?_) (fun z => absurd z (by omega))
    refine u_X8_empties_64 ?_
    unfold bX8_empties_64
    refine e_ldA g0 ?_
    refine e_ldI g2 ?_
    refine e_mT hM ir hM.1 (fun N e => by have e2 : some 4001 = some N := e; cases e2; exact ⟨_, by omega, rfl⟩) (fun ir1 => ?_)
    exact e_rV (K ir1)
  | succ r ih =>
    intro S i2  i3 n lv hM hc hnt ir hi2 q0 g0 g1 g2 g3    hr hn K
    obtain ⟨d, hd, rfl⟩ : ∃ d, 2 + r * 4 ≤ d ∧ n = d + 4 := ⟨n - 4, by omega, by omega⟩
    unfold g_X8_empties_4 at K
    refine u_X8_empties_4 ?_
    unfold bX8_empties_4
    refine e_ldI g3 ?_
    refine e_ldA g0 ?_
    refine e_gV (v := nI nt) hM.1 q0 ?_
    refine e_ge (by omega) (by omega) (fun z => absurd z (by omega)) (fun _ => ?_)
    refine e_ldA g0 ?_
    refine e_gR hM.1 (hM.2.1 27 (by decide)).1 ?_
    refine e_ldI g3 ?_
    have qz1 := fun j => im_a ir (show ra 27 = some 8 from rfl) j
    refine e_aVj (N := 4000) (kdA (k := 27) hM (by decide) rfl) (lnA (k := 27) hM (by decide) rfl) (by omega) (by decide) qz1 (fun hqz1 => ?_)
    refine e_ldI g1 ?_
    refine e_eq (by omega) (by omega) (fun h2 => ?_) (fun h2 => ?_)
    · replace K := kx_p h2 K
      refine e_ldA g0 ?_
      refine e_duA ?_
      refine e_gE hM.1 ?_
      refine e_ldA g0 ?_
      refine e_gR hM.1 (hM.2.1 30 (by decide)).1 ?_
      refine e_ldI g3 ?_
      refine e_aE (N := 4000) (kdA (k := 30) hM (by decide) rfl) (lnA (k := 30) hM (by decide) rfl) (by omega) (by decide) ?_
      refine e_cI ?_
      refine ⟨fun h3 => ?_, fun h3 => ?_⟩
      · replace K := kx_p h3 K
        refine e_cN 0 rfl ?_
        refine u_X8_empties_42 ?_
        unfold bX8_empties_42
        refine e_bopE ?_
        refine e_mT hM ir hM.1 (fun N e => nomatch (show (none : Option Nat) = some N from e)) (fun ir5 => ?_)
        refine u_X8_empties_58 ?_
        unfold bX8_empties_58
        refine e_inc g3 ?_
        exact ih hM hc hnt ir5 (by omega) (rd_k q0 (by decide)) (lvg_ne g0 rfl (by decide)) (lvg_ne g1 rfl (by decide)) (lvg_ne g2 rfl (by decide)) lvg_self    (by omega) (by omega) K
      · replace K := kx_n h3 K
        have q4 := im_30 ir h3
        have hq4 := q4.2
        refine u_X8_empties_41 ?_
        unfold bX8_empties_41
        refine e_cN 1 rfl ?_
        refine u_X8_empties_42 ?_
        unfold bX8_empties_42
        refine e_bopE ?_
        refine e_mT hM ir hM.1 (fun N e => nomatch (show (none : Option Nat) = some N from e)) (fun ir7 => ?_)
        refine u_X8_empties_58 ?_
        unfold bX8_empties_58
        refine e_inc g3 ?_
        exact ih hM hc hnt ir7 (by omega) (rd_k q0 (by decide)) (lvg_ne g0 rfl (by decide)) (lvg_ne g1 rfl (by decide)) (lvg_ne g2 rfl (by decide)) lvg_self    (by omega) (by omega) K
    · replace K := kx_n (by omega) K
      refine u_X8_empties_49 ?_
      unfold bX8_empties_49
      refine e_ldA g0 ?_
      refine e_ldI g3 ?_
      refine e_ldI g2 ?_
      refine And.intro hM.1 (And.intro ⟨by decide, by decide⟩ (x_X8_moves hM (by omega) (by omega) ir (fun ir9 => ?_)))
      refine e_inc g2 ?_
      refine u_X8_empties_58 ?_
      unfold bX8_empties_58
      refine e_inc (lvg_ne g3 rfl (by decide)) ?_
      exact ih hM hc hnt ir9 (by omega) ((congrFun (nm_X8_moves (m := m) (fun k hk => Ne.symm (ne_m hM (mem_sub k hk (by decide))))) 32).trans q0) (lvg_ne (lvg_ne g0 rfl (by decide)) rfl (by decide)) (lvg_ne (lvg_ne g1 rfl (by decide)) rfl (by decide)) (lvg_ne lvg_self rfl (by decide)) lvg_self    (by omega) (by omega) K
def f_X8_empties (I : Nat → Nat → Int32) (m : Nat) (A : Nat → Nat) (c : Nat) (nt : Nat) : Nat → Nat → Int32 := g_X8_empties_4 m A c nt nt 0 0 I 
theorem x_X8_empties {Q : Option Value → MM → Prop} {S : MM} {m : Nat} {A : Nat → Nat} {c : Nat} {nt : Nat} (hM : MS S m A) (hc : c < 8) (hnt : nt < 4001) (ir : IM S m A) (q0 : sI S m 32 = nI nt)  (K : KVM m A Q S (f_X8_empties (sI S) m A c nt)) : wX8_empties [.ref m, .int (nI c)] S Q := by
  unfold f_X8_empties at K
  refine Exists.intro 16007 (u_X8_empties_0 ?_)
  unfold bX8_empties_0
  refine e_cN 0 rfl ?_
  refine e_stI ?_
  refine e_cN 0 rfl ?_
  refine e_stI ?_
  exact y_X8_empties_4 nt hM hc hnt ir (by omega) q0 (lvg_ne (lvg_ne rfl rfl (by decide)) rfl (by decide)) (lvg_ne (lvg_ne rfl rfl (by decide)) rfl (by decide)) (lvg_ne lvg_self rfl (by decide)) lvg_self    (by omega) (by omega) K
theorem nm_g_X8_empties_4 {m : Nat} {A : Nat → Nat} {c : Nat} {nt : Nat} {z : Nat} (hz : ∀ k ∈ ([27, 28, 29, 30, 31] : List Nat), z ≠ A k) (hm : z ≠ m) : ∀ (r : Nat) {i : Nat} {i2 : Nat} {I : Nat → Nat → Int32} , (g_X8_empties_4 m A c nt r i i2 I ) z = I z := by
  intro r
  induction r with
  | zero =>
    intros
    simp only [g_X8_empties_4]
    repeat' split
    all_goals simp only [up2_row (hz 27 (by decide)), up2_row (hz 28 (by decide)), up2_row (hz 29 (by decide)), up2_row (hz 30 (by decide)), up2_row (hz 31 (by decide)), up2_row hm, nm_X8_moves (fun k hk => hz k (mem_sub k hk (by decide)))]
  | succ r ih =>
    intros
    simp only [g_X8_empties_4]
    repeat' split
    all_goals simp only [up2_row (hz 27 (by decide)), up2_row (hz 28 (by decide)), up2_row (hz 29 (by decide)), up2_row (hz 30 (by decide)), up2_row (hz 31 (by decide)), up2_row hm, nm_X8_moves (fun k hk => hz k (mem_sub k hk (by decide))), ih]
theorem nm_X8_empties {I : Nat → Nat → Int32} {m : Nat} {A : Nat → Nat} {c : Nat} {nt : Nat} {z : Nat} (hz : ∀ k ∈ ([27, 28, 29, 30, 31] : List Nat), z ≠ A k) (hm : z ≠ m) : (f_X8_empties I m A c nt) z = I z := by
  simp only [f_X8_empties]
  repeat' split
  all_goals simp only [up2_row (hz 27 (by decide)), up2_row (hz 28 (by decide)), up2_row (hz 29 (by decide)), up2_row (hz 30 (by decide)), up2_row (hz 31 (by decide)), up2_row hm, nm_X8_moves (fun k hk => hz k (mem_sub k hk (by decide))), nm_g_X8_empties_4 hz hm]
theorem ns_g_X8_empties_4 {m : Nat} {A : Nat → Nat} {c : Nat} {nt : Nat} {S : MM} {j : Nat} (hM : MS S m A) (hj : j ∉ ([32, 46] : List Nat)) : ∀ (r : Nat) {i : Nat} {i2 : Nat} {I : Nat → Nat → Int32} , (g_X8_empties_4 m A c nt r i i2 I ) m j = I m j := by
  intro r
  induction r with
  | zero =>
    intros
    simp only [g_X8_empties_4]
    repeat' split
    all_goals simp only [up2_row (Ne.symm (ne_m hM (show 27 ∈ DM by decide))), up2_row (Ne.symm (ne_m hM (show 28 ∈ DM by decide))), up2_row (Ne.symm (ne_m hM (show 29 ∈ DM by decide))), up2_row (Ne.symm (ne_m hM (show 30 ∈ DM by decide))), up2_row (Ne.symm (ne_m hM (show 31 ∈ DM by decide))), up2_jn (show j ≠ 32 from fun z => hj (by rw [z]; decide)), up2_jn (show j ≠ 46 from fun z => hj (by rw [z]; decide)), nm_X8_moves (fun k hk => Ne.symm (ne_m hM (mem_sub k hk (by decide))))]
  | succ r ih =>
    intros
    simp only [g_X8_empties_4]
    repeat' split
    all_goals simp only [up2_row (Ne.symm (ne_m hM (show 27 ∈ DM by decide))), up2_row (Ne.symm (ne_m hM (show 28 ∈ DM by decide))), up2_row (Ne.symm (ne_m hM (show 29 ∈ DM by decide))), up2_row (Ne.symm (ne_m hM (show 30 ∈ DM by decide))), up2_row (Ne.symm (ne_m hM (show 31 ∈ DM by decide))), up2_jn (show j ≠ 32 from fun z => hj (by rw [z]; decide)), up2_jn (show j ≠ 46 from fun z => hj (by rw [z]; decide)), nm_X8_moves (fun k hk => Ne.symm (ne_m hM (mem_sub k hk (by decide)))), ih]
theorem ns_X8_empties {I : Nat → Nat → Int32} {m : Nat} {A : Nat → Nat} {c : Nat} {nt : Nat} {S : MM} {j : Nat} (hM : MS S m A) (hj : j ∉ ([32, 46] : List Nat)) : (f_X8_empties I m A c nt) m j = I m j := by
  simp only [f_X8_empties]
  repeat' split
  all_goals simp only [up2_row (Ne.symm (ne_m hM (show 27 ∈ DM by decide))), up2_row (Ne.symm (ne_m hM (show 28 ∈ DM by decide))), up2_row (Ne.symm (ne_m hM (show 29 ∈ DM by decide))), up2_row (Ne.symm (ne_m hM (show 30 ∈ DM by decide))), up2_row (Ne.symm (ne_m hM (show 31 ∈ DM by decide))), up2_jn (show j ≠ 32 from fun z => hj (by rw [z]; decide)), up2_jn (show j ≠ 46 from fun z => hj (by rw [z]; decide)), nm_X8_moves (fun k hk => Ne.symm (ne_m hM (mem_sub k hk (by decide)))), ns_g_X8_empties_4 hM hj]
def f_X8_isCut (I : Nat → Nat → Int32) (m : Nat) (A : Nat → Nat) (c : Nat) (nt : Nat) : Nat → Nat → Int32 := let I2 := f_X8_empties I m A c nt; let I4 := up2 I2 (A 25) c (nI 0); let I7 := f_X8_isDarkNow I4 m A (f_X8_portAt I4 m A c 0); let I10 := f_X8_isDarkNow I7 m A (f_X8_portAt I7 m A c 1); I10
theorem x_X8_isCut {Q : Option Value → MM → Prop} {S : MM} {m : Nat} {A : Nat → Nat} {c : Nat} {nt : Nat} (hM : MS S m A) (hc : c < 8) (hnt : nt < 4001) (ir : IM S m A) (q0 : sI S m 32 = nI nt)  (K : KVM m A Q S (f_X8_isCut (sI S) m A c nt)) : wX8_isCut [.ref m, .int (nI c)] S Q := by
  unfold f_X8_isCut at K
  refine Exists.intro 1 (u_X8_isCut_0 ?_)
  unfold bX8_isCut_0
  refine e_ldA rfl ?_
  refine e_ldI rfl ?_
  refine And.intro hM.1 (And.intro ⟨by decide, by decide⟩ (x_X8_empties hM (by omega) (by omega) ir q0 (fun ir1 => ?_)))
  refine e_ldA rfl ?_
  refine e_gR hM.1 (hM.2.1 25 (by decide)).1 ?_
  refine e_ldI rfl ?_
  refine e_cN 0 rfl ?_
  refine e_mB (N := 8) (k := 25) hM ir1 (by decide) (kdA (k := 25) hM (by decide) rfl) (lnA (k := 25) hM (by decide) rfl) (by omega) (by decide) (Or.inl rfl) (fun N e => nomatch (show (none : Option Nat) = some N from e)) (fun e => absurd e (by decide)) (fun ir3 => ?_)
  refine e_ldA rfl ?_
  refine e_ldA rfl ?_
  refine e_ldI rfl ?_
  refine e_cN 0 rfl ?_
  refine And.intro hM.1 (And.intro ⟨by decide, by decide⟩ (x_X8_portAt hM (by omega) (by omega) ir3 (fun hb5 => ?_)))
  refine And.intro hM.1 (And.intro ⟨by decide, by decide⟩ (x_X8_isDarkNow hM (by omega) ir3 (fun ir6 => ?_)))
  refine e_ldA rfl ?_
  refine e_ldA rfl ?_
  refine e_ldI rfl ?_
  refine e_cN 1 rfl ?_
  refine And.intro hM.1 (And.intro ⟨by decide, by decide⟩ (x_X8_portAt hM (by omega) (by omega) ir6 (fun hb8 => ?_)))
  refine And.intro hM.1 (And.intro ⟨by decide, by decide⟩ (x_X8_isDarkNow hM (by omega) ir6 (fun ir9 => ?_)))
  exact e_rV (K ir9)
theorem nm_X8_isCut {I : Nat → Nat → Int32} {m : Nat} {A : Nat → Nat} {c : Nat} {nt : Nat} {z : Nat} (hz : ∀ k ∈ ([7, 8, 9, 12, 13, 14, 18, 21, 25, 27, 28, 29, 30, 31, 40] : List Nat), z ≠ A k) (hm : z ≠ m) : (f_X8_isCut I m A c nt) z = I z := by
  simp only [f_X8_isCut]
  repeat' split
  all_goals simp only [up2_row (hz 7 (by decide)), up2_row (hz 8 (by decide)), up2_row (hz 9 (by decide)), up2_row (hz 12 (by decide)), up2_row (hz 13 (by decide)), up2_row (hz 14 (by decide)), up2_row (hz 18 (by decide)), up2_row (hz 21 (by decide)), up2_row (hz 25 (by decide)), up2_row (hz 27 (by decide)), up2_row (hz 28 (by decide)), up2_row (hz 29 (by decide)), up2_row (hz 30 (by decide)), up2_row (hz 31 (by decide)), up2_row (hz 40 (by decide)), up2_row hm, nm_X8_empties (fun k hk => hz k (mem_sub k hk (by decide))) hm, nm_X8_isDarkNow (fun k hk => hz k (mem_sub k hk (by decide)))]
theorem ns_X8_isCut {I : Nat → Nat → Int32} {m : Nat} {A : Nat → Nat} {c : Nat} {nt : Nat} {S : MM} {j : Nat} (hM : MS S m A) (hj : j ∉ ([32, 46] : List Nat)) : (f_X8_isCut I m A c nt) m j = I m j := by
  simp only [f_X8_isCut]
  repeat' split
  all_goals simp only [up2_row (Ne.symm (ne_m hM (show 7 ∈ DM by decide))), up2_row (Ne.symm (ne_m hM (show 8 ∈ DM by decide))), up2_row (Ne.symm (ne_m hM (show 9 ∈ DM by decide))), up2_row (Ne.symm (ne_m hM (show 12 ∈ DM by decide))), up2_row (Ne.symm (ne_m hM (show 13 ∈ DM by decide))), up2_row (Ne.symm (ne_m hM (show 14 ∈ DM by decide))), up2_row (Ne.symm (ne_m hM (show 18 ∈ DM by decide))), up2_row (Ne.symm (ne_m hM (show 21 ∈ DM by decide))), up2_row (Ne.symm (ne_m hM (show 25 ∈ DM by decide))), up2_row (Ne.symm (ne_m hM (show 27 ∈ DM by decide))), up2_row (Ne.symm (ne_m hM (show 28 ∈ DM by decide))), up2_row (Ne.symm (ne_m hM (show 29 ∈ DM by decide))), up2_row (Ne.symm (ne_m hM (show 30 ∈ DM by decide))), up2_row (Ne.symm (ne_m hM (show 31 ∈ DM by decide))), up2_row (Ne.symm (ne_m hM (show 40 ∈ DM by decide))), up2_jn (show j ≠ 32 from fun z => hj (by rw [z]; decide)), up2_jn (show j ≠ 46 from fun z => hj (by rw [z]; decide)), ns_X8_empties hM (fun q => hj (mem_sub j q (by decide))), nm_X8_isDarkNow (fun k hk => Ne.symm (ne_m hM (mem_sub k hk (by decide))))]
def f_X8_isUp (I : Nat → Nat → Int32) (m : Nat) (A : Nat → Nat) (c : Nat) : Nat → Nat → Int32 := let I2 := up2 I (A 25) c (nI 1); let I5 := f_X8_isLitNow I2 m A (f_X8_portAt I2 m A c 0); let I8 := f_X8_isLitNow I5 m A (f_X8_portAt I5 m A c 1); I8
theorem x_X8_isUp {Q : Option Value → MM → Prop} {S : MM} {m : Nat} {A : Nat → Nat} {c : Nat} (hM : MS S m A) (hc : c < 8) (ir : IM S m A)   (K : KVM m A Q S (f_X8_isUp (sI S) m A c)) : wX8_isUp [.ref m, .int (nI c)] S Q := by
  unfold f_X8_isUp at K
  refine Exists.intro 1 (u_X8_isUp_0 ?_)
  unfold bX8_isUp_0
  refine e_ldA rfl ?_
  refine e_gR hM.1 (hM.2.1 25 (by decide)).1 ?_
  refine e_ldI rfl ?_
  refine e_cN 1 rfl ?_
  refine e_mB (N := 8) (k := 25) hM ir (by decide) (kdA (k := 25) hM (by decide) rfl) (lnA (k := 25) hM (by decide) rfl) (by omega) (by decide) (Or.inr rfl) (fun N e => nomatch (show (none : Option Nat) = some N from e)) (fun e => absurd e (by decide)) (fun ir1 => ?_)
  refine e_ldA rfl ?_
  refine e_ldA rfl ?_
  refine e_ldI rfl ?_
  refine e_cN 0 rfl ?_
  refine And.intro hM.1 (And.intro ⟨by decide, by decide⟩ (x_X8_portAt hM (by omega) (by omega) ir1 (fun hb3 => ?_)))
  refine And.intro hM.1 (And.intro ⟨by decide, by decide⟩ (x_X8_isLitNow hM (by omega) ir1 (fun ir4 => ?_)))
  refine e_ldA rfl ?_
  refine e_ldA rfl ?_
  refine e_ldI rfl ?_
  refine e_cN 1 rfl ?_
  refine And.intro hM.1 (And.intro ⟨by decide, by decide⟩ (x_X8_portAt hM (by omega) (by omega) ir4 (fun hb6 => ?_)))
  refine And.intro hM.1 (And.intro ⟨by decide, by decide⟩ (x_X8_isLitNow hM (by omega) ir4 (fun ir7 => ?_)))
  exact e_rV (K ir7)
theorem nm_X8_isUp {I : Nat → Nat → Int32} {m : Nat} {A : Nat → Nat} {c : Nat} {z : Nat} (hz : ∀ k ∈ ([7, 8, 9, 14, 18, 21, 25, 40] : List Nat), z ≠ A k) : (f_X8_isUp I m A c) z = I z := by
  simp only [f_X8_isUp]
  repeat' split
  all_goals simp only [up2_row (hz 7 (by decide)), up2_row (hz 8 (by decide)), up2_row (hz 9 (by decide)), up2_row (hz 14 (by decide)), up2_row (hz 18 (by decide)), up2_row (hz 21 (by decide)), up2_row (hz 25 (by decide)), up2_row (hz 40 (by decide)), nm_X8_isLitNow (fun k hk => hz k (mem_sub k hk (by decide)))]
def f_X8_isPulled (I : Nat → Nat → Int32) (m : Nat) (A : Nat → Nat) (c : Nat) (nt : Nat) : Nat → Nat → Int32 := if (I (A 25) c) = 0 then (let I4 := up2 I (A 11) (f_X8_portAt I m A c 0) (-1 : Int32); let I7 := up2 I4 (A 11) (f_X8_portAt I4 m A c 1) (-1 : Int32); let I9 := up2 I7 (A 24) c (nI 0); I9) else (let I11 := f_X8_isCut I m A c nt; let I14 := up2 I11 (A 11) (f_X8_portAt I11 m A c 0) (-1 : Int32); let I17 := up2 I14 (A 11) (f_X8_portAt I14 m A c 1) (-1 : Int32); let I19 := up2 I17 (A 24) c (nI 0); I19)
theorem x_X8_isPulled {Q : Option Value → MM → Prop} {S : MM} {m : Nat} {A : Nat → Nat} {c : Nat} {nt : Nat} (hM : MS S m A) (hc : c < 8) (hnt : nt < 4001) (ir : IM S m A) (q0 : sI S m 32 = nI nt)  (K : KVM m A Q S (f_X8_isPulled (sI S) m A c nt)) : wX8_isPulled [.ref m, .int (nI c)] S Q := by
  unfold f_X8_isPulled at K
  refine Exists.intro 2 (u_X8_isPulled_0 ?_)
  unfold bX8_isPulled_0
  refine e_ldA rfl ?_
  refine e_gR hM.1 (hM.2.1 25 (by decide)).1 ?_
  refine e_ldI rfl ?_
  refine e_aE (N := 8) (kdA (k := 25) hM (by decide) rfl) (lnA (k := 25) hM (by decide) rfl) (by omega) (by decide) ?_
  refine ⟨fun h1 => ?_, fun h1 => ?_⟩
  · replace K := kx_p h1 K
    refine u_X8_isPulled_14 ?_
    unfold bX8_isPulled_14
    refine e_ldA rfl ?_
    refine e_gR hM.1 (hM.2.1 11 (by decide)).1 ?_
    refine e_ldA rfl ?_
    refine e_ldI rfl ?_
    refine e_cN 0 rfl ?_
    refine And.intro hM.1 (And.intro ⟨by decide, by decide⟩ (x_X8_portAt hM (by omega) (by omega) ir (fun hb2 => ?_)))
    refine e_cI ?_
    refine e_mA (N := 16) (k := 11) hM ir (by decide) (kdA (k := 11) hM (by decide) rfl) (lnA (k := 11) hM (by decide) rfl) (by omega) (by decide) (fun N e => nomatch (show (none : Option Nat) = some N from e)) (fun e => absurd e (by decide)) (fun ir3 => ?_)
    refine e_ldA rfl ?_
    refine e_gR hM.1 (hM.2.1 11 (by decide)).1 ?_
    refine e_ldA rfl ?_
    refine e_ldI rfl ?_
    refine e_cN 1 rfl ?_
    refine And.intro hM.1 (And.intro ⟨by decide, by decide⟩ (x_X8_portAt hM (by omega) (by omega) ir3 (fun hb5 => ?_)))
    refine e_cI ?_
    refine e_mA (N := 16) (k := 11) hM ir3 (by decide) (kdA (k := 11) hM (by decide) rfl) (lnA (k := 11) hM (by decide) rfl) (by omega) (by decide) (fun N e => nomatch (show (none : Option Nat) = some N from e)) (fun e => absurd e (by decide)) (fun ir6 => ?_)
    refine e_ldA rfl ?_
    refine e_gR hM.1 (hM.2.1 24 (by decide)).1 ?_
    refine e_ldI rfl ?_
    refine e_cN 0 rfl ?_
    refine e_mB (N := 8) (k := 24) hM ir6 (by decide) (kdA (k := 24) hM (by decide) rfl) (lnA (k := 24) hM (by decide) rfl) (by omega) (by decide) (Or.inl rfl) (fun N e => nomatch (show (none : Option Nat) = some N from e)) (fun e => absurd e (by decide)) (fun ir8 => ?_)
    exact e_rV (K ir8)
  · replace K := kx_n h1 K
    refine e_ldA rfl ?_
    refine e_ldI rfl ?_
    refine And.intro hM.1 (And.intro ⟨by decide, by decide⟩ (x_X8_isCut hM (by omega) (by omega) ir q0 (fun ir10 => ?_)))
    refine u_X8_isPulled_14 ?_
    unfold bX8_isPulled_14
    refine e_ldA rfl ?_
    refine e_gR hM.1 (hM.2.1 11 (by decide)).1 ?_
    refine e_ldA rfl ?_
    refine e_ldI rfl ?_
    refine e_cN 0 rfl ?_
    refine And.intro hM.1 (And.intro ⟨by decide, by decide⟩ (x_X8_portAt hM (by omega) (by omega) ir10 (fun hb12 => ?_)))
    refine e_cI ?_
    refine e_mA (N := 16) (k := 11) hM ir10 (by decide) (kdA (k := 11) hM (by decide) rfl) (lnA (k := 11) hM (by decide) rfl) (by omega) (by decide) (fun N e => nomatch (show (none : Option Nat) = some N from e)) (fun e => absurd e (by decide)) (fun ir13 => ?_)
    refine e_ldA rfl ?_
    refine e_gR hM.1 (hM.2.1 11 (by decide)).1 ?_
    refine e_ldA rfl ?_
    refine e_ldI rfl ?_
    refine e_cN 1 rfl ?_
    refine And.intro hM.1 (And.intro ⟨by decide, by decide⟩ (x_X8_portAt hM (by omega) (by omega) ir13 (fun hb15 => ?_)))
    refine e_cI ?_
    refine e_mA (N := 16) (k := 11) hM ir13 (by decide) (kdA (k := 11) hM (by decide) rfl) (lnA (k := 11) hM (by decide) rfl) (by omega) (by decide) (fun N e => nomatch (show (none : Option Nat) = some N from e)) (fun e => absurd e (by decide)) (fun ir16 => ?_)
    refine e_ldA rfl ?_
    refine e_gR hM.1 (hM.2.1 24 (by decide)).1 ?_
    refine e_ldI rfl ?_
    refine e_cN 0 rfl ?_
    refine e_mB (N := 8) (k := 24) hM ir16 (by decide) (kdA (k := 24) hM (by decide) rfl) (lnA (k := 24) hM (by decide) rfl) (by omega) (by decide) (Or.inl rfl) (fun N e => nomatch (show (none : Option Nat) = some N from e)) (fun e => absurd e (by decide)) (fun ir18 => ?_)
    exact e_rV (K ir18)
theorem nm_X8_isPulled {I : Nat → Nat → Int32} {m : Nat} {A : Nat → Nat} {c : Nat} {nt : Nat} {z : Nat} (hz : ∀ k ∈ ([7, 8, 9, 11, 12, 13, 14, 18, 21, 24, 25, 27, 28, 29, 30, 31, 40] : List Nat), z ≠ A k) (hm : z ≠ m) : (f_X8_isPulled I m A c nt) z = I z := by
  simp only [f_X8_isPulled]
  repeat' split
  all_goals simp only [up2_row (hz 7 (by decide)), up2_row (hz 8 (by decide)), up2_row (hz 9 (by decide)), up2_row (hz 11 (by decide)), up2_row (hz 12 (by decide)), up2_row (hz 13 (by decide)), up2_row (hz 14 (by decide)), up2_row (hz 18 (by decide)), up2_row (hz 21 (by decide)), up2_row (hz 24 (by decide)), up2_row (hz 25 (by decide)), up2_row (hz 27 (by decide)), up2_row (hz 28 (by decide)), up2_row (hz 29 (by decide)), up2_row (hz 30 (by decide)), up2_row (hz 31 (by decide)), up2_row (hz 40 (by decide)), up2_row hm, nm_X8_isCut (fun k hk => hz k (mem_sub k hk (by decide))) hm]
theorem ns_X8_isPulled {I : Nat → Nat → Int32} {m : Nat} {A : Nat → Nat} {c : Nat} {nt : Nat} {S : MM} {j : Nat} (hM : MS S m A) (hj : j ∉ ([32, 46] : List Nat)) : (f_X8_isPulled I m A c nt) m j = I m j := by
  simp only [f_X8_isPulled]
  repeat' split
  all_goals simp only [up2_row (Ne.symm (ne_m hM (show 7 ∈ DM by decide))), up2_row (Ne.symm (ne_m hM (show 8 ∈ DM by decide))), up2_row (Ne.symm (ne_m hM (show 9 ∈ DM by decide))), up2_row (Ne.symm (ne_m hM (show 11 ∈ DM by decide))), up2_row (Ne.symm (ne_m hM (show 12 ∈ DM by decide))), up2_row (Ne.symm (ne_m hM (show 13 ∈ DM by decide))), up2_row (Ne.symm (ne_m hM (show 14 ∈ DM by decide))), up2_row (Ne.symm (ne_m hM (show 18 ∈ DM by decide))), up2_row (Ne.symm (ne_m hM (show 21 ∈ DM by decide))), up2_row (Ne.symm (ne_m hM (show 24 ∈ DM by decide))), up2_row (Ne.symm (ne_m hM (show 25 ∈ DM by decide))), up2_row (Ne.symm (ne_m hM (show 27 ∈ DM by decide))), up2_row (Ne.symm (ne_m hM (show 28 ∈ DM by decide))), up2_row (Ne.symm (ne_m hM (show 29 ∈ DM by decide))), up2_row (Ne.symm (ne_m hM (show 30 ∈ DM by decide))), up2_row (Ne.symm (ne_m hM (show 31 ∈ DM by decide))), up2_row (Ne.symm (ne_m hM (show 40 ∈ DM by decide))), up2_jn (show j ≠ 32 from fun z => hj (by rw [z]; decide)), up2_jn (show j ≠ 46 from fun z => hj (by rw [z]; decide)), ns_X8_isCut hM (fun q => hj (mem_sub j q (by decide)))]
def g_X8_plug_76 (I : Nat → Nat → Int32) (m : Nat) (A : Nat → Nat) (c : Nat) (p : Nat) (q : Nat) (v : Int32) (nt : Nat)  (w4 : Int32) : Nat → Nat → Int32 := if (I (A 24) c) = 0 then (let I3 := up2 I (A 24) c (nI 1); let I5 := up2 I3 (A 22) (2 * c) (nI p); let I7 := up2 I5 (A 22) ((2 * c) + 1) (nI q); let I9 := up2 I7 (A 23) c w4; let I11 := up2 I9 (A 11) p (nI c); let I13 := up2 I11 (A 11) (8 + q) (nI c); let I15 := f_X8_isUp I13 m A c; let I17 := f_X8_isNotQuiet I15 m A; I17) else (let I19 := f_X8_isPulled I m A c nt; let I21 := up2 I19 (A 24) c (nI 1); let I23 := up2 I21 (A 22) (2 * c) (nI p); let I25 := up2 I23 (A 22) ((2 * c) + 1) (nI q); let I27 := up2 I25 (A 23) c w4; let I29 := up2 I27 (A 11) p (nI c); let I31 := up2 I29 (A 11) (8 + q) (nI c); let I33 := f_X8_isUp I31 m A c; let I35 := f_X8_isNotQuiet I33 m A; I35)
theorem y_X8_plug_76 {Q : Option Value → MM → Prop} {S : MM} {m : Nat} {A : Nat → Nat} {c : Nat} {p : Nat} {q : Nat} {v : Int32} {nt : Nat}  {w4 : Int32} {n : Nat} {lv : Lv} (hM : MS S m A) (hc : c < 8) (hp : p < 8) (hq : q < 8) (hnt : nt < 4001) (ir : IM S m A)  (q0 : sI S m 32 = nI nt) (g0 : lvg lv 0 = some (.ref m)) (g1 : lvg lv 1 = some (.int (nI c))) (g2 : lvg lv 2 = some (.int (nI p))) (g3 : lvg lv 3 = some (.int (nI q))) (g4 : lvg lv 4 = some (.int w4))  (hn : 2 ≤ n) (K : KVM m A Q S (g_X8_plug_76 (sI S) m A c p q v nt  w4)) : wpn (kX8_plug Q) n 76 lv [] S 0 0 := by
  obtain ⟨d, rfl⟩ : ∃ d, n = d + 2 := ⟨n - 2, by omega⟩
  unfold g_X8_plug_76 at K
  refine u_X8_plug_76 ?_
  unfold bX8_plug_76
  refine e_ldA g0 ?_
  refine e_gR hM.1 (hM.2.1 24 (by decide)).1 ?_
  refine e_ldI g1 ?_
  refine e_aE (N := 8) (kdA (k := 24) hM (by decide) rfl) (lnA (k := 24) hM (by decide) rfl) (by omega) (by decide) ?_
  refine ⟨fun h1 => ?_, fun h1 => ?_⟩
  · replace K := kx_p h1 K
    refine u_X8_plug_90 ?_
    unfold bX8_plug_90
    refine e_ldA g0 ?_
    refine e_gR hM.1 (hM.2.1 24 (by decide)).1 ?_
    refine e_ldI g1 ?_
    refine e_cN 1 rfl ?_
    refine e_mB (N := 8) (k := 24) hM ir (by decide) (kdA (k := 24) hM (by decide) rfl) (lnA (k := 24) hM (by decide) rfl) (by omega) (by decide) (Or.inr rfl) (fun N e => nomatch (show (none : Option Nat) = some N from e)) (fun e => absurd e (by decide)) (fun ir2 => ?_)
    refine e_ldA g0 ?_
    refine e_gR hM.1 (hM.2.1 22 (by decide)).1 ?_
    refine e_cN 2 rfl ?_
    refine e_ldI g1 ?_
    refine e_mul ?_
    refine e_ldI g2 ?_
    refine e_mA (N := 16) (k := 22) hM ir2 (by decide) (kdA (k := 22) hM (by decide) rfl) (lnA (k := 22) hM (by decide) rfl) (by omega) (by decide) (fun N e => by have e2 : some 8 = some N := e; cases e2; exact ⟨_, by omega, rfl⟩) (fun e => absurd e (by decide)) (fun ir4 => ?_)
    refine e_ldA g0 ?_
    refine e_gR hM.1 (hM.2.1 22 (by decide)).1 ?_
    refine e_cN 2 rfl ?_
    refine e_ldI g1 ?_
    refine e_mul ?_
    refine e_cN 1 rfl ?_
    refine e_add ?_
    refine e_ldI g3 ?_
    refine e_mA (N := 16) (k := 22) hM ir4 (by decide) (kdA (k := 22) hM (by decide) rfl) (lnA (k := 22) hM (by decide) rfl) (by omega) (by decide) (fun N e => by have e2 : some 8 = some N := e; cases e2; exact ⟨_, by omega, rfl⟩) (fun e => absurd e (by decide)) (fun ir6 => ?_)
    refine e_ldA g0 ?_
    refine e_gR hM.1 (hM.2.1 23 (by decide)).1 ?_
    refine e_ldI g1 ?_
    refine e_ldI g4 ?_
    refine e_mA (N := 8) (k := 23) hM ir6 (by decide) (kdA (k := 23) hM (by decide) rfl) (lnA (k := 23) hM (by decide) rfl) (by omega) (by decide) (fun N e => nomatch (show (none : Option Nat) = some N from e)) (fun e => absurd e (by decide)) (fun ir8 => ?_)
    refine e_ldA g0 ?_
    refine e_gR hM.1 (hM.2.1 11 (by decide)).1 ?_
    refine e_ldI g2 ?_
    refine e_ldI g1 ?_
    refine e_mA (N := 16) (k := 11) hM ir8 (by decide) (kdA (k := 11) hM (by decide) rfl) (lnA (k := 11) hM (by decide) rfl) (by omega) (by decide) (fun N e => nomatch (show (none : Option Nat) = some N from e)) (fun e => absurd e (by decide)) (fun ir10 => ?_)
    refine e_ldA g0 ?_
    refine e_gR hM.1 (hM.2.1 11 (by decide)).1 ?_
    refine e_cN 8 rfl ?_
    refine e_ldI g3 ?_
    refine e_add ?_
    refine e_ldI g1 ?_
    refine e_mA (N := 16) (k := 11) hM ir10 (by decide) (kdA (k := 11) hM (by decide) rfl) (lnA (k := 11) hM (by decide) rfl) (by omega) (by decide) (fun N e => nomatch (show (none : Option Nat) = some N from e)) (fun e => absurd e (by decide)) (fun ir12 => ?_)
    refine e_ldA g0 ?_
    refine e_ldI g1 ?_
    refine And.intro hM.1 (And.intro ⟨by decide, by decide⟩ (x_X8_isUp hM (by omega) ir12 (fun ir14 => ?_)))
    refine e_ldA g0 ?_
    refine And.intro hM.1 (And.intro ⟨by decide, by decide⟩ (x_X8_isNotQuiet hM ir14 (fun ir16 => ?_)))
    exact e_rV (K ir16)
  · replace K := kx_n h1 K
    refine e_ldA g0 ?_
    refine e_ldI g1 ?_
    refine And.intro hM.1 (And.intro ⟨by decide, by decide⟩ (x_X8_isPulled hM (by omega) (by omega) ir q0 (fun ir18 => ?_)))
    refine u_X8_plug_90 ?_
    unfold bX8_plug_90
    refine e_ldA g0 ?_
    refine e_gR hM.1 (hM.2.1 24 (by decide)).1 ?_
    refine e_ldI g1 ?_
    refine e_cN 1 rfl ?_
    refine e_mB (N := 8) (k := 24) hM ir18 (by decide) (kdA (k := 24) hM (by decide) rfl) (lnA (k := 24) hM (by decide) rfl) (by omega) (by decide) (Or.inr rfl) (fun N e => nomatch (show (none : Option Nat) = some N from e)) (fun e => absurd e (by decide)) (fun ir20 => ?_)
    refine e_ldA g0 ?_
    refine e_gR hM.1 (hM.2.1 22 (by decide)).1 ?_
    refine e_cN 2 rfl ?_
    refine e_ldI g1 ?_
    refine e_mul ?_
    refine e_ldI g2 ?_
    refine e_mA (N := 16) (k := 22) hM ir20 (by decide) (kdA (k := 22) hM (by decide) rfl) (lnA (k := 22) hM (by decide) rfl) (by omega) (by decide) (fun N e => by have e2 : some 8 = some N := e; cases e2; exact ⟨_, by omega, rfl⟩) (fun e => absurd e (by decide)) (fun ir22 => ?_)
    refine e_ldA g0 ?_
    refine e_gR hM.1 (hM.2.1 22 (by decide)).1 ?_
    refine e_cN 2 rfl ?_
    refine e_ldI g1 ?_
    refine e_mul ?_
    refine e_cN 1 rfl ?_
    refine e_add ?_
    refine e_ldI g3 ?_
    refine e_mA (N := 16) (k := 22) hM ir22 (by decide) (kdA (k := 22) hM (by decide) rfl) (lnA (k := 22) hM (by decide) rfl) (by omega) (by decide) (fun N e => by have e2 : some 8 = some N := e; cases e2; exact ⟨_, by omega, rfl⟩) (fun e => absurd e (by decide)) (fun ir24 => ?_)
    refine e_ldA g0 ?_
    refine e_gR hM.1 (hM.2.1 23 (by decide)).1 ?_
    refine e_ldI g1 ?_
    refine e_ldI g4 ?_
    refine e_mA (N := 8) (k := 23) hM ir24 (by decide) (kdA (k := 23) hM (by decide) rfl) (lnA (k := 23) hM (by decide) rfl) (by omega) (by decide) (fun N e => nomatch (show (none : Option Nat) = some N from e)) (fun e => absurd e (by decide)) (fun ir26 => ?_)
    refine e_ldA g0 ?_
    refine e_gR hM.1 (hM.2.1 11 (by decide)).1 ?_
    refine e_ldI g2 ?_
    refine e_ldI g1 ?_
    refine e_mA (N := 16) (k := 11) hM ir26 (by decide) (kdA (k := 11) hM (by decide) rfl) (lnA (k := 11) hM (by decide) rfl) (by omega) (by decide) (fun N e => nomatch (show (none : Option Nat) = some N from e)) (fun e => absurd e (by decide)) (fun ir28 => ?_)
    refine e_ldA g0 ?_
    refine e_gR hM.1 (hM.2.1 11 (by decide)).1 ?_
    refine e_cN 8 rfl ?_
    refine e_ldI g3 ?_
    refine e_add ?_
    refine e_ldI g1 ?_
    refine e_mA (N := 16) (k := 11) hM ir28 (by decide) (kdA (k := 11) hM (by decide) rfl) (lnA (k := 11) hM (by decide) rfl) (by omega) (by decide) (fun N e => nomatch (show (none : Option Nat) = some N from e)) (fun e => absurd e (by decide)) (fun ir30 => ?_)
    refine e_ldA g0 ?_
    refine e_ldI g1 ?_
    refine And.intro hM.1 (And.intro ⟨by decide, by decide⟩ (x_X8_isUp hM (by omega) ir30 (fun ir32 => ?_)))
    refine e_ldA g0 ?_
    refine And.intro hM.1 (And.intro ⟨by decide, by decide⟩ (x_X8_isNotQuiet hM ir32 (fun ir34 => ?_)))
    exact e_rV (K ir34)
def g_X8_pull_37 (I : Nat → Nat → Int32) (m : Nat) (A : Nat → Nat) (c : Nat) (nt : Nat)   : Nat → Nat → Int32 := let I2 := f_X8_isPulled I m A c nt; let I4 := f_X8_isNotQuiet I2 m A; I4
theorem y_X8_pull_37 {Q : Option Value → MM → Prop} {S : MM} {m : Nat} {A : Nat → Nat} {c : Nat} {nt : Nat}   {n : Nat} {lv : Lv} (hM : MS S m A) (hc : c < 8) (hnt : nt < 4001) (ir : IM S m A)  (q0 : sI S m 32 = nI nt) (g0 : lvg lv 0 = some (.ref m)) (g1 : lvg lv 1 = some (.int (nI c)))  (hn : 1 ≤ n) (K : KVM m A Q S (g_X8_pull_37 (sI S) m A c nt  )) : wpn (kX8_pull Q) n 37 lv [] S 0 0 := by
  obtain ⟨d, rfl⟩ : ∃ d, n = d + 1 := ⟨n - 1, by omega⟩
  unfold g_X8_pull_37 at K
  refine u_X8_pull_37 ?_
  unfold bX8_pull_37
  refine e_ldA g0 ?_
  refine e_ldI g1 ?_
  refine And.intro hM.1 (And.intro ⟨by decide, by decide⟩ (x_X8_isPulled hM (by omega) (by omega) ir q0 (fun ir1 => ?_)))
  refine e_ldA g0 ?_
  refine And.intro hM.1 (And.intro ⟨by decide, by decide⟩ (x_X8_isNotQuiet hM ir1 (fun ir3 => ?_)))
  exact e_rV (K ir3)
def g_X8_light_47 (I : Nat → Nat → Int32) (m : Nat) (A : Nat → Nat) (c : Nat) (u : Nat) (nt : Nat)   : Nat → Nat → Int32 := if u = 0 then (let I3 := f_X8_isCut I m A c nt; let I5 := f_X8_isNotQuiet I3 m A; I5) else (let I7 := f_X8_isUp I m A c; let I9 := f_X8_isNotQuiet I7 m A; I9)
theorem y_X8_light_47 {Q : Option Value → MM → Prop} {S : MM} {m : Nat} {A : Nat → Nat} {c : Nat} {u : Nat} {nt : Nat}   {n : Nat} {lv : Lv} (hM : MS S m A) (hc : c < 8) (hu : u < 2) (hnt : nt < 4001) (ir : IM S m A)  (q0 : sI S m 32 = nI nt) (g0 : lvg lv 0 = some (.ref m)) (g1 : lvg lv 1 = some (.int (nI c))) (g2 : lvg lv 2 = some (.int (nI u)))  (hn : 3 ≤ n) (K : KVM m A Q S (g_X8_light_47 (sI S) m A c u nt  )) : wpn (kX8_light Q) n 47 lv [] S 0 0 := by
  obtain ⟨d, rfl⟩ : ∃ d, n = d + 3 := ⟨n - 3, by omega⟩
  unfold g_X8_light_47 at K
  refine u_X8_light_47 ?_
  unfold bX8_light_47
  refine e_ldI g2 ?_
  refine e_ifN (by omega) (fun h1 => ?_) (fun h1 => ?_)
  · replace K := kx_p h1 K
    refine u_X8_light_59 ?_
    unfold bX8_light_59
    refine e_ldA g0 ?_
    refine e_ldI g1 ?_
    refine And.intro hM.1 (And.intro ⟨by decide, by decide⟩ (x_X8_isCut hM (by omega) (by omega) ir q0 (fun ir2 => ?_)))
    refine u_X8_light_64 ?_
    unfold bX8_light_64
    refine e_ldA g0 ?_
    refine And.intro hM.1 (And.intro ⟨by decide, by decide⟩ (x_X8_isNotQuiet hM ir2 (fun ir4 => ?_)))
    exact e_rV (K ir4)
  · replace K := kx_n (by omega) K
    refine e_ldA g0 ?_
    refine e_ldI g1 ?_
    refine And.intro hM.1 (And.intro ⟨by decide, by decide⟩ (x_X8_isUp hM (by omega) ir (fun ir6 => ?_)))
    refine u_X8_light_64 ?_
    unfold bX8_light_64
    refine e_ldA g0 ?_
    refine And.intro hM.1 (And.intro ⟨by decide, by decide⟩ (x_X8_isNotQuiet hM ir6 (fun ir8 => ?_)))
    exact e_rV (K ir8)
