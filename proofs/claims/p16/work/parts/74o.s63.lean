/-! SIMULATION 63: give: to which port a frame goes, on the class's side -/
def gvB (I : Mm) (R : Nat → Nat → Option Nat) (b e : Nat) (v : Int32) (j : Nat) : Bool := decide (I (Pt R b e j) 5 = nI 4 ∧ I (Pt R b e j) 10 = v)
def gcB (g : Nat → Bool) : Nat → Nat
  | 0 => 0
  | j + 1 => gcB g j + (if g j = true then 1 else 0)
theorem gcB_le (g : Nat → Bool) : ∀ j, gcB g j ≤ j := by
  intro j
  induction j with
  | zero => exact Nat.le_refl _
  | succ j ih =>
    rw [gcB]
    split <;> omega
theorem gcB_c {g h : Nat → Bool} : ∀ j, (∀ i, i < j → g i = h i) → gcB g j = gcB h j := by
  intro j
  induction j with
  | zero => intro _; rfl
  | succ j ih =>
    intro q
    rw [gcB, gcB, ih (fun i hi => q i (by omega)), q j (by omega)]
theorem gives_b {I : Mm} {R : Nat → Nat → Option Nat} {b e j : Nat} {v : Int32} : f_X5_gives I (Pt R b e j) v = nI (if gvB I R b e v j = true then 1 else 0) := by
  unfold f_X5_gives gvB
  by_cases h1 : I (Pt R b e j) 5 = nI 4
  · by_cases h2 : I (Pt R b e j) 10 = v
    · rw [if_pos h1, if_pos h2, if_pos (decide_eq_true ⟨h1, h2⟩)]
    · rw [if_pos h1, if_neg h2, if_neg (by rw [decide_eq_false (fun z => h2 z.2)]; decide)]
  · rw [if_neg h1, if_neg (by rw [decide_eq_false (fun z => h1 z.1)]; decide)]
theorem e_dec {k : Kt} {lv : Lv} {st : List Value} {S : MM} {c z i j : Nat} (g : lvg lv i = some (.int (nI (j + 1)))) (h : k (lvs lv i (.int (nI j))) st S c z) : inc i (-1) k lv st S c z := by
  unfold inc
  rw [g]
  have e : nI (j + 1) + (-1) = nI j := by
    rw [← nI_add j 1]
    show nI j + 1 + -1 = nI j
    apply Int32.toBitVec_inj.mp
    rw [Int32.toBitVec_add, Int32.toBitVec_add]
    show (nI j).toBitVec + 1#32 + (-1#32) = (nI j).toBitVec
    bv_omega
  rw [← e] at h
  exact h
theorem g_gv49 {Q : Option Value → MM → Prop} {S : MM} {b e w0 : Nat} {v : Int32} (hL : LY S b) (he : e < 2) (hw : w0 < gcB (gvB (sI S) (sR S) b e v) 8) (K : ∀ j, j < 8 → gvB (sI S) (sR S) b e v j = true → gcB (gvB (sI S) (sR S) b e v) j = w0 → Q (some (.ref (Pt (sR S) b e j))) S) : ∀ (r j w n : Nat) (lv : Lv), j + r = 8 → 3 * r + 3 ≤ n → gcB (gvB (sI S) (sR S) b e v) j + w = w0 → lvg lv 0 = some (.ref (En (sR S) b e)) → lvg lv 1 = some (.int v) → lvg lv 4 = some (.int (nI w)) → lvg lv 5 = some (.int (nI j)) → wpn (kX1_giverOf Q) n 49 lv [] S 0 0 := by
  have b8 := gcB_le (gvB (sI S) (sR S) b e v) 8
  intro r
  induction r with
  | zero =>
    intro j w n lv hj hn hg l0 l1 l4 l5
    have : j = 8 := by omega
    subst this
    exact absurd hg (by omega)
  | succ r ih =>
    intro j w n lv hj hn hg l0 l1 l4 l5
    obtain ⟨n, rfl⟩ : ∃ q, n = q + 1 := ⟨n - 1, by omega⟩
    have hj8 : j < 8 := by omega
    refine u_X1_giverOf_49 ?_
    unfold bX1_giverOf_49
    refine e_ldI l5 (e_cN 8 rfl (e_ge (by omega) (by omega) (fun z => absurd z (by omega)) (fun _ => ?_)))
    refine e_ldA l0 (e_gR (ly_E hL he).2.1 (ly_pa hL he).1 (e_ldI l5 (e_aR (N := 8) (ly_pa hL he).2.1 (ly_pa hL he).2.2 hj8 (by decide) (ly_P hL he hj8).1 (e_ldI l1 (And.intro (ly_P hL he hj8).2.1 (And.intro ⟨by decide, by decide⟩ (x_X5_gives (ly_P hL he hj8).2.1 ?_)))))))
    have kk : gcB (gvB (sI S) (sR S) b e v) (j + 1) = gcB (gvB (sI S) (sR S) b e v) j + (if gvB (sI S) (sR S) b e v j = true then 1 else 0) := rfl
    rw [gives_b]
    unfold KP
    by_cases g : gvB (sI S) (sR S) b e v j = true
    · rw [if_pos g] at kk ⊢
      refine e_ifN (by decide) (fun z => absurd z (by decide)) (fun _ => e_ldI l4 (e_ifN (by omega) (fun z => ?_) (fun z => ?_)))
      · subst z
        exact e_ldA l0 (e_gR (ly_E hL he).2.1 (ly_pa hL he).1 (e_ldI l5 (e_aR (N := 8) (ly_pa hL he).2.1 (ly_pa hL he).2.2 hj8 (by decide) (ly_P hL he hj8).1 (e_rA (K j hj8 g (by omega))))))
      · obtain ⟨w, rfl⟩ : ∃ q, w = q + 1 := ⟨w - 1, by omega⟩
        obtain ⟨n, rfl⟩ : ∃ q, n = q + 2 := ⟨n - 2, by omega⟩
        refine u_X1_giverOf_83 ?_
        unfold bX1_giverOf_83
        refine e_dec l4 (u_X1_giverOf_86 ?_)
        unfold bX1_giverOf_86
        refine e_inc (lvg_ne l5 rfl (by decide)) ?_
        exact ih (j + 1) w n _ (by omega) (by omega) (by omega) (lvg_ne (lvg_ne l0 rfl (by decide)) rfl (by decide)) (lvg_ne (lvg_ne l1 rfl (by decide)) rfl (by decide)) (lvg_ne lvg_self rfl (by decide)) lvg_self
    · rw [if_neg g] at kk ⊢
      refine e_ifN (by decide) (fun _ => ?_) (fun z => absurd rfl z)
      obtain ⟨n, rfl⟩ : ∃ q, n = q + 1 := ⟨n - 1, by omega⟩
      refine u_X1_giverOf_86 ?_
      unfold bX1_giverOf_86
      refine e_inc l5 ?_
      exact ih (j + 1) w n _ (by omega) (by omega) (by omega) (lvg_ne l0 rfl (by decide)) (lvg_ne l1 rfl (by decide)) (lvg_ne l4 rfl (by decide)) lvg_self
theorem g_gv5 {Q : Option Value → MM → Prop} {S : MM} {b e cv : Nat} {v : Int32} (hL : LY S b) (he : e < 2) (hcv : cv < 256) (K0 : gcB (gvB (sI S) (sR S) b e v) 8 = 0 → Q (some .null) S) (K : ∀ j, j < 8 → gvB (sI S) (sR S) b e v j = true → gcB (gvB (sI S) (sR S) b e v) j = cv % gcB (gvB (sI S) (sR S) b e v) 8 → Q (some (.ref (Pt (sR S) b e j))) S) : ∀ (r j n : Nat) (lv : Lv), j + r = 8 → 2 * r + 40 ≤ n → lvg lv 0 = some (.ref (En (sR S) b e)) → lvg lv 1 = some (.int v) → lvg lv 2 = some (.int (nI cv)) → lvg lv 3 = some (.int (nI (gcB (gvB (sI S) (sR S) b e v) j))) → lvg lv 4 = some (.int (nI j)) → wpn (kX1_giverOf Q) n 5 lv [] S 0 0 := by
  have b8 := gcB_le (gvB (sI S) (sR S) b e v) 8
  intro r
  induction r with
  | zero =>
    intro j n lv hj hn l0 l1 l2 l3 l4
    have : j = 8 := by omega
    subst this
    obtain ⟨n, rfl⟩ : ∃ q, n = q + 3 := ⟨n - 3, by omega⟩
    refine u_X1_giverOf_5 ?_
    unfold bX1_giverOf_5
    refine e_ldI l4 (e_cN 8 rfl (e_ge (by omega) (by omega) (fun _ => u_X1_giverOf_35 ?_) (fun z => absurd z (by omega))))
    unfold bX1_giverOf_35
    refine e_ldI l3 (e_ifN (by omega) (fun z => e_nul (e_rN (K0 z))) (fun z => u_X1_giverOf_41 ?_))
    unfold bX1_giverOf_41
    refine e_ldI l2 (e_ldI l3 (e_rem (by omega) (by omega) (by omega) (e_stI (e_cN 0 rfl (e_stI ?_)))))
    exact g_gv49 hL he (Nat.mod_lt _ (by omega)) K 8 0 (cv % gcB (gvB (sI S) (sR S) b e v) 8) n _ (by omega) (by omega) (by show 0 + _ = _; omega) (lvg_ne (lvg_ne l0 rfl (by decide)) rfl (by decide)) (lvg_ne (lvg_ne l1 rfl (by decide)) rfl (by decide)) (lvg_ne lvg_self rfl (by decide)) lvg_self
  | succ r ih =>
    intro j n lv hj hn l0 l1 l2 l3 l4
    obtain ⟨n, rfl⟩ : ∃ q, n = q + 2 := ⟨n - 2, by omega⟩
    have hj8 : j < 8 := by omega
    have bj := gcB_le (gvB (sI S) (sR S) b e v) j
    refine u_X1_giverOf_5 ?_
    unfold bX1_giverOf_5
    refine e_ldI l4 (e_cN 8 rfl (e_ge (by omega) (by omega) (fun z => absurd z (by omega)) (fun _ => ?_)))
    refine e_ldA l0 (e_gR (ly_E hL he).2.1 (ly_pa hL he).1 (e_ldI l4 (e_aR (N := 8) (ly_pa hL he).2.1 (ly_pa hL he).2.2 hj8 (by decide) (ly_P hL he hj8).1 (e_ldI l1 (And.intro (ly_P hL he hj8).2.1 (And.intro ⟨by decide, by decide⟩ (x_X5_gives (ly_P hL he hj8).2.1 ?_)))))))
    have kk : gcB (gvB (sI S) (sR S) b e v) (j + 1) = gcB (gvB (sI S) (sR S) b e v) j + (if gvB (sI S) (sR S) b e v j = true then 1 else 0) := rfl
    rw [gives_b]
    unfold KP
    by_cases g : gvB (sI S) (sR S) b e v j = true
    · rw [if_pos g] at kk ⊢
      refine e_ifN (by decide) (fun z => absurd z (by decide)) (fun _ => e_inc l3 (u_X1_giverOf_29 ?_))
      unfold bX1_giverOf_29
      refine e_inc (lvg_ne l4 rfl (by decide)) ?_
      exact ih (j + 1) n _ (by omega) (by omega) (lvg_ne (lvg_ne l0 rfl (by decide)) rfl (by decide)) (lvg_ne (lvg_ne l1 rfl (by decide)) rfl (by decide)) (lvg_ne (lvg_ne l2 rfl (by decide)) rfl (by decide)) (by rw [kk]; exact lvg_ne lvg_self rfl (by decide)) lvg_self
    · rw [if_neg g] at kk ⊢
      refine e_ifN (by decide) (fun _ => u_X1_giverOf_29 ?_) (fun z => absurd rfl z)
      unfold bX1_giverOf_29
      refine e_inc l4 ?_
      exact ih (j + 1) n _ (by omega) (by omega) (lvg_ne l0 rfl (by decide)) (lvg_ne l1 rfl (by decide)) (lvg_ne l2 rfl (by decide)) (by rw [kk]; exact lvg_ne l3 rfl (by decide)) lvg_self
theorem x_giverOf {Q : Option Value → MM → Prop} {S : MM} {b e cv : Nat} {v : Int32} (hL : LY S b) (he : e < 2) (hcv : cv < 256) (K0 : gcB (gvB (sI S) (sR S) b e v) 8 = 0 → Q (some .null) S) (K : ∀ j, j < 8 → gvB (sI S) (sR S) b e v j = true → gcB (gvB (sI S) (sR S) b e v) j = cv % gcB (gvB (sI S) (sR S) b e v) 8 → Q (some (.ref (Pt (sR S) b e j))) S) : wX1_giverOf [.ref (En (sR S) b e), .int v, .int (nI cv)] S Q := by
  refine Exists.intro 100 (u_X1_giverOf_0 ?_)
  unfold bX1_giverOf_0
  refine e_cN 0 rfl (e_stI (e_cN 0 rfl (e_stI ?_)))
  exact g_gv5 hL he hcv K0 K 8 0 99 _ (by omega) (by omega) (lvg_ne (lvg_ne rfl rfl (by decide)) rfl (by decide)) (lvg_ne (lvg_ne rfl rfl (by decide)) rfl (by decide)) (lvg_ne (lvg_ne rfl rfl (by decide)) rfl (by decide)) (lvg_ne lvg_self rfl (by decide)) lvg_self
