/-! how many things there may be -/
theorem u_X8_tick__0 {Q : Option Value → MM → Prop} {n : Nat} {lv : Lv} {st : List Value} {S : MM} {c z : Nat} (h : bX8_tick__0 Q (wpn (kX8_tick_ Q) n) lv st S c z) : wpn (kX8_tick_ Q) (n + 1) 0 lv st S c z := h
theorem u_X8_tick__13 {Q : Option Value → MM → Prop} {n : Nat} {lv : Lv} {st : List Value} {S : MM} {c z : Nat} (h : bX8_tick__13 Q (wpn (kX8_tick_ Q) n) lv st S c z) : wpn (kX8_tick_ Q) (n + 1) 13 lv st S c z := h
theorem u_X8_tick__17 {Q : Option Value → MM → Prop} {n : Nat} {lv : Lv} {st : List Value} {S : MM} {c z : Nat} (h : bX8_tick__17 Q (wpn (kX8_tick_ Q) n) lv st S c z) : wpn (kX8_tick_ Q) (n + 1) 17 lv st S c z := h
theorem u_X8_tick__18 {Q : Option Value → MM → Prop} {n : Nat} {lv : Lv} {st : List Value} {S : MM} {c z : Nat} (h : bX8_tick__18 Q (wpn (kX8_tick_ Q) n) lv st S c z) : wpn (kX8_tick_ Q) (n + 1) 18 lv st S c z := h
theorem u_X8_tick__25 {Q : Option Value → MM → Prop} {n : Nat} {lv : Lv} {st : List Value} {S : MM} {c z : Nat} (h : bX8_tick__25 Q (wpn (kX8_tick_ Q) n) lv st S c z) : wpn (kX8_tick_ Q) (n + 1) 25 lv st S c z := h
theorem u_X8_tick__50 {Q : Option Value → MM → Prop} {n : Nat} {lv : Lv} {st : List Value} {S : MM} {c z : Nat} (h : bX8_tick__50 Q (wpn (kX8_tick_ Q) n) lv st S c z) : wpn (kX8_tick_ Q) (n + 1) 50 lv st S c z := h
def dq (q : TQ) : Nat := q.2.2.1.toNatClampNeg
def LV (L : List TQ) (cl : Nat) : Prop := (∀ q ∈ L, q.2.2.1 = nI (dq q) ∧ cl ≤ dq q ∧ dq q ≤ cl + 8) ∧ ∀ k, k ≤ 8 → L.countP (fun q => !(isF q) && decide (cl + k ≤ dq q)) ≤ 16 * (8 - k)
theorem LV_sub {L L' : List TQ} {cl : Nat} (h : LV L cl) (hs : L'.Sublist L) : LV L' cl := ⟨fun q hq => h.1 q (hs.subset hq), fun k hk => Nat.le_trans (hs.countP_le) (h.2 k hk)⟩
theorem dq_nI {q : TQ} {n : Nat} (hn : n < 2 ^ 31) (e : q.2.2.1 = nI n) : dq q = n := by unfold dq; rw [e]; exact nI_clamp hn
theorem LV_tick {L new : List TQ} {cl : Nat} (h : LV L cl) (hcl : cl < 2000000000) (hl : new.length ≤ 16) (hn : NW (nI cl) new) : LV (L.filter (pD (nI cl)) ++ new) (cl + 1) := by
  have hnew : ∀ q ∈ new, isF q = false ∧ ∃ d, 1 ≤ d ∧ d ≤ 8 ∧ dq q = cl + d ∧ q.2.2.1 = nI (cl + d) := fun q hq => by
    obtain ⟨h1, d, d1, d2, d3⟩ := hn q hq
    rw [nI_add] at d3
    exact ⟨by unfold isF; rw [h1]; rfl, d, d1, d2, dq_nI (by omega) d3, d3⟩
  have hold : ∀ q ∈ L.filter (pD (nI cl)), q.2.2.1 = nI (dq q) ∧ cl + 1 ≤ dq q ∧ dq q ≤ cl + 8 := fun q hq => by
    obtain ⟨h1, h2⟩ := List.mem_filter.mp hq
    obtain ⟨a, b, c⟩ := h.1 q h1
    refine ⟨a, ?_, c⟩
    have : dq q ≠ cl := fun z => by
      unfold pD dC at h2
      rw [a, z] at h2
      simp at h2
    omega
  refine ⟨fun q hq => ?_, fun k hk => ?_⟩
  · rcases List.mem_append.mp hq with z | z
    · obtain ⟨a, b, c⟩ := hold q z
      exact ⟨a, b, by omega⟩
    · obtain ⟨-, d, d1, d2, d3, d4⟩ := hnew q z
      exact ⟨by rw [d3]; exact d4, by omega, by omega⟩
  · rw [List.countP_append]
    by_cases h8 : k = 8
    · subst h8
      have z1 : (L.filter (pD (nI cl))).countP (fun q => !(isF q) && decide (cl + 1 + 8 ≤ dq q)) = 0 := List.countP_eq_zero.mpr (fun q hq => by
        obtain ⟨a, b, c⟩ := hold q hq
        simp
        omega)
      have z2 : new.countP (fun q => !(isF q) && decide (cl + 1 + 8 ≤ dq q)) = 0 := List.countP_eq_zero.mpr (fun q hq => by
        obtain ⟨-, d, d1, d2, d3, d4⟩ := hnew q hq
        simp
        omega)
      rw [z1, z2]
      decide
    · have a1 : (L.filter (pD (nI cl))).countP (fun q => !(isF q) && decide (cl + 1 + k ≤ dq q)) ≤ 16 * (8 - (k + 1)) := by
        refine Nat.le_trans (List.Sublist.countP_le List.filter_sublist) ?_
        have := h.2 (k + 1) (by omega)
        rw [show cl + (k + 1) = cl + 1 + k by omega] at this
        exact this
      have a2 : new.countP (fun q => !(isF q) && decide (cl + 1 + k ≤ dq q)) ≤ 16 := Nat.le_trans List.countP_le_length hl
      omega
theorem LV_give {L : List TQ} {cl d c e F : Nat} (h : LV L cl) (hcl : cl < 2000000000) (h1 : 1 ≤ d) (h2 : d ≤ 8) (hF : F < 1000000) : LV (L ++ [(nI c, nI e, nI cl + nI d, nI F)]) cl := by
  have e1 : ((nI c, nI e, nI cl + nI d, nI F) : TQ).2.2.1 = nI (cl + d) := nI_add cl d
  have e2 := dq_nI (q := (nI c, nI e, nI cl + nI d, nI F)) (by omega) e1
  refine ⟨fun q hq => ?_, fun k hk => ?_⟩
  · rcases List.mem_append.mp hq with z | z
    · exact h.1 q z
    · have ez := List.mem_singleton.mp z
      subst ez
      exact ⟨by rw [e2]; exact e1, by omega, by omega⟩
  · have : isF ((nI c, nI e, nI cl + nI d, nI F) : TQ) = true := by
      unfold isF
      simp [nI_m1 hF]
    rw [List.countP_append, List.countP_singleton, this]
    simpa using h.2 k hk
theorem len_cnt : ∀ L : List TQ, L.length = L.countP (fun q => !(isF q)) + L.countP isF
  | [] => rfl
  | a :: L => by
    have := len_cnt L
    rw [List.length_cons, List.countP_cons, List.countP_cons]
    cases h : isF a <;> simp <;> omega
theorem LV_len {L : List TQ} {cl : Nat} (h : LV L cl) : L.length ≤ 128 + L.countP isF := by
  have := h.2 0 (by decide)
  have e : L.countP (fun q => !(isF q)) ≤ L.countP (fun q => !(isF q) && decide (cl + 0 ≤ dq q)) := List.countP_mono_left (fun q hq hp => by rw [hp]; simp; exact (h.1 q hq).2.1)
  have := len_cnt L
  omega
def BI (S : MM) (m : Nat) (A : Nat → Nat) (nt F cl : Nat) : Prop := IV S m A nt ∧ sI S m 39 = nI F ∧ sI S m 43 = nI cl ∧ LV (TL S A nt) cl ∧ ∃ s, CM S A s ∧ s + (TL S A nt).countP isF ≤ F
theorem TL_len {S : MM} {A : Nat → Nat} {n : Nat} : (TL S A n).length = n := by unfold TL; rw [List.length_map, List.length_range]
theorem BI_len {S : MM} {m nt F cl : Nat} {A : Nat → Nat} (h : BI S m A nt F cl) : nt ≤ 128 + F := by
  obtain ⟨h1, h2, h3, h4, s, h5, h6⟩ := h
  have := LV_len h4
  rw [TL_len] at this
  omega
theorem BI_SM {W : List Nat} {S S' : MM} {m nt F cl : Nat} {A : Nat → Nat} (h : BI S m A nt F cl) (hM : MS S m A) (e : SM W m A S S') (im : IM S' m A) (hw : ∀ k ∈ [7, 9, 11, 22, 23, 24, 25, 27, 28, 29, 30, 32, 39, 42, 43], k ∉ W) : BI S' m A nt F cl := by
  obtain ⟨h1, h2, h3, h4, s, h5, h6⟩ := h
  obtain ⟨iv, tl⟩ := IV_SM h1 hM e im (fun k hk => hw k (by
    simp only [List.mem_cons, List.not_mem_nil, or_false] at hk ⊢
    omega))
  exact ⟨iv, (e.2.2.2.2.2 39 (hw 39 (by decide))).trans h2, (e.2.2.2.2.2 43 (hw 43 (by decide))).trans h3, by rw [tl]; exact h4, s, CM_eq h5 (SM_a e hM (by decide) (hw 42 (by decide))) (Nat.le_refl _), by rw [tl]; exact h6⟩
theorem BI_flt {W : List Nat} {S S' : MM} {m nt k F cl : Nat} {A : Nat → Nat} {g : TQ → Bool} (h : BI S m A nt F cl) (hM : MS S m A) (e : SM W m A S S') (iv : IV S' m A k) (tl : TL S' A k = (TL S A nt).filter g) (hw : ∀ k ∈ [39, 42, 43], k ∉ W) : BI S' m A k F cl := by
  obtain ⟨h1, h2, h3, h4, s, h5, h6⟩ := h
  refine ⟨iv, (e.2.2.2.2.2 39 (hw 39 (by decide))).trans h2, (e.2.2.2.2.2 43 (hw 43 (by decide))).trans h3, ?_, s, CM_eq h5 (SM_a e hM (by decide) (hw 42 (by decide))) (Nat.le_refl _), ?_⟩
  · rw [tl]
    exact LV_sub h4 List.filter_sublist
  · rw [tl]
    have : ((TL S A nt).filter g).countP isF ≤ (TL S A nt).countP isF := List.Sublist.countP_le List.filter_sublist
    omega
theorem cnt_fD (cl : Int32) : ∀ L : List TQ, L.countP (fD cl) + (L.filter (pD cl)).countP isF = L.countP isF
  | [] => rfl
  | a :: L => by
    have := cnt_fD cl L
    rw [List.countP_cons, List.countP_cons, List.filter_cons]
    unfold fD pD at *
    cases h1 : isF a <;> cases h2 : dC cl a <;> simp [h1, h2, List.countP_cons] at * <;> omega
theorem NW_cnt {cl : Int32} {new : List TQ} (h : NW cl new) : new.countP isF = 0 := List.countP_eq_zero.mpr (fun q hq => by
  unfold isF
  rw [(h q hq).1]
  decide)
theorem z_b_tick {Q : Option Value → MM → Prop} {S0 : MM} {m nt F cl : Nat} {A : Nat → Nat} (hM : MS S0 m A) (hB : BI S0 m A nt F cl) (hF : F < 3000) (hcl : cl < 1000000000) (K : ∀ r S' nt', SM WT m A S0 S' → BI S' m A nt' F (cl + 1) → Q (some (.int r)) S') : wX8_tick [.ref m] S0 Q := by
  have hl := BI_len hB
  obtain ⟨h1, h2, h3, h4, s, h5, h6⟩ := hB
  refine z_v_tick hM h1 (by omega) h2 (by omega) h3 h5 (by omega) (fun r S' k new sh iv hk hn hw tl c43 cm => K r S' (k + new.length) sh ⟨iv, (sh.2.2.2.2.2 39 (by decide)).trans h2, ?_, ?_, _, cm, ?_⟩)
  · rw [c43]
    exact nI_1 cl
  · rw [tl]
    exact LV_tick h4 (by omega) hn hw
  · rw [tl, List.countP_append, NW_cnt hw]
    have := cnt_fD (nI cl) (TL S0 A nt)
    omega
def WTT : List Nat := [0, 7, 8, 9, 10, 12, 13, 14, 15, 16, 17, 18, 19, 20, 21, 26, 27, 28, 29, 30, 31, 32, 38, 40, 41, 42, 43, 44, 45, 47, 49, 50]
theorem q_tc50 {Q : Option Value → MM → Prop} {S : MM} {f : Nat} {lv : Lv} {r1 : Int32} (l2 : lvg lv 2 = some (.int r1)) (K : Q (some (.int r1)) S) : wpn (kX8_tick_ Q) (f + 1) 50 lv [] S 0 0 := by
  refine u_X8_tick__50 ?_
  unfold bX8_tick__50
  exact e_ldI l2 (e_rI K)
theorem q_tc25 {Q : Option Value → MM → Prop} {S0 : MM} {m n F cl : Nat} {A : Nat → Nat} (hM : MS S0 m A) (hF : F < 3000) (hcl : cl + n < 1000000000) (hn : n ≤ 1000) (K : ∀ r S' nt', SM WTT m A S0 S' → BI S' m A nt' F (cl + n) → Q (some (.int r)) S') : ∀ (r i f nt : Nat) (lv : Lv) (S : MM) (a : Int32), i + r = n → r + 2 ≤ f → lvg lv 0 = some (.ref m) → lvg lv 1 = some (.int (nI n)) → lvg lv 2 = some (.int a) → lvg lv 3 = some (.int (nI i)) → SM WTT m A S0 S → sI S m 0 = 0 → BI S m A nt F (cl + i) → wpn (kX8_tick_ Q) f 25 lv [] S 0 0 := by
  intro r
  induction r with
  | zero =>
    intro i f nt lv S a hi hf l0 l1 l2 l3 sh t0 hB
    have e : i = n := by omega
    subst e
    obtain ⟨g, rfl⟩ : ∃ g, f = g + 2 := ⟨f - 2, by omega⟩
    refine u_X8_tick__25 ?_
    unfold bX8_tick__25
    exact e_ldI l3 (e_ldI l1 (e_ge (by omega) (by omega) (fun _ => q_tc50 l2 (K a S nt sh hB)) (fun h => absurd h (by omega))))
  | succ r ih =>
    intro i f nt lv S a hi hf l0 l1 l2 l3 sh t0 hB
    have hM1 := MS_SM hM sh
    obtain ⟨g, rfl⟩ : ∃ g, f = g + 1 := ⟨f - 1, by omega⟩
    refine u_X8_tick__25 ?_
    unfold bX8_tick__25
    refine e_ldI l3 (e_ldI l1 (e_ge (by omega) (by omega) (fun h => absurd h (by omega)) (fun _ => e_ldA l0 (e_gV (v := 0) hM1.1 t0 ⟨fun _ => ?_, fun z => absurd rfl z⟩))))
    refine e_ldI l2 (e_ldA l0 (And.intro hM1.1 (And.intro ⟨by decide, by decide⟩ (z_b_tick hM1 hB hF (by omega) (fun r1 S1 nt1 s1 hB1 => e_bopU (fun r2 => e_stI (e_inc (lvg_ne l3 rfl (by decide)) ?_)))))))
    exact ih (i + 1) g nt1 _ S1 r2 (by omega) (by omega) (lvg_ne (lvg_ne l0 rfl (by decide)) rfl (by decide)) (lvg_ne (lvg_ne l1 rfl (by decide)) rfl (by decide)) (lvg_ne lvg_self rfl (by decide)) lvg_self (SM.tr sh s1 (by decide)) ((s1.2.2.2.2.2 0 (by decide)).trans t0) hB1
theorem z_b_tick_ {Q : Option Value → MM → Prop} {S0 : MM} {m nt F cl : Nat} {A : Nat → Nat} {v : Int32} (hM : MS S0 m A) (hB : BI S0 m A nt F cl) (hF : F < 3000) (hcl : cl + 1000 < 1000000000) (K : ∀ r S' nt' cl', cl' ≤ cl + 1000 → SM WTT m A S0 S' → BI S' m A nt' F cl' → Q (some (.int r)) S') : wX8_tick_ [.ref m, .int v] S0 Q := by
  have bad : ∀ f, wpn (kX8_tick_ Q) (f + 4) 13 (lv_args 0 [.ref m, .int v]) [.ref m] S0 0 0 := fun f => by
    refine u_X8_tick__13 ?_
    unfold bX8_tick__13
    refine e_cI (u_X8_tick__18 ?_)
    unfold bX8_tick__18
    refine y_mI (W := WTT) hM SM.rf hB.1.1 (by decide) (fun N e => nomatch (show (none : Option Nat) = some N from e)) (fun S1 he sh im1 => e_cN 0 rfl (e_stI (e_cN 0 rfl (e_stI (u_X8_tick__25 ?_)))))
    have s1 : SM [0] m A S0 S1 := by rw [he]; exact SM.wm SM.rf (by decide)
    have hB1 := BI_SM hB hM s1 im1 (by decide)
    unfold bX8_tick__25
    refine e_ldI lvg_self (e_ldI (lvg_ne (lvg_ne rfl rfl (by decide)) rfl (by decide)) ⟨fun _ => q_tc50 (lvg_ne lvg_self rfl (by decide)) (K _ S1 nt cl (by omega) sh hB1), fun _ => ?_⟩)
    exact e_ldA (lvg_ne (lvg_ne rfl rfl (by decide)) rfl (by decide)) (e_gV (v := 1) (SM_k sh hM.1) (by rw [he]; exact rd_s) ⟨fun z => absurd z (by decide), fun _ => q_tc50 (lvg_ne lvg_self rfl (by decide)) (K _ S1 nt cl (by omega) sh hB1)⟩)
  refine Exists.intro 1100 (u_X8_tick__0 ?_)
  unfold bX8_tick__0
  refine e_ldA rfl (e_ldI rfl (e_cI ⟨fun _ => bad 1095, fun h1 => e_ldI rfl (e_cI ⟨fun h2 => u_X8_tick__17 ?_, fun _ => bad 1095⟩)⟩))
  have n0 : ¬ v < 0 := fun z => h1 (by
    show v < 1
    rw [Int32.lt_iff_toInt_lt] at z ⊢
    have h3 : (0 : Int32).toInt = 0 := by decide
    have h4 : (1 : Int32).toInt = 1 := by decide
    omega)
  obtain ⟨n, hn, en⟩ := nn_nat n0
  subst en
  have hn2 : n ≤ 1000 := by
    have q := Int32.le_iff_toInt_le.mp (show nI n ≤ 1000 from h2)
    rw [nI_toInt (by omega), show (1000 : Int32).toInt = 1000 from by decide] at q
    omega
  unfold bX8_tick__17
  refine e_cI (u_X8_tick__18 ?_)
  unfold bX8_tick__18
  refine y_mI (W := WTT) hM SM.rf hB.1.1 (by decide) (fun N e => nomatch (show (none : Option Nat) = some N from e)) (fun S1 he sh im1 => e_cN 0 rfl (e_stI (e_cN 0 rfl (e_stI ?_))))
  have s1 : SM [0] m A S0 S1 := by rw [he]; exact SM.wm SM.rf (by decide)
  have hB1 := BI_SM hB hM s1 im1 (by decide)
  exact q_tc25 (S0 := S0) (n := n) (cl := cl) hM hF (by omega) hn2 (fun r S' nt' s b => K r S' nt' (cl + n) (by omega) s b) n 0 1097 nt _ S1 _ (by omega) (by omega) (lvg_ne (lvg_ne rfl rfl (by decide)) rfl (by decide)) (lvg_ne (lvg_ne rfl rfl (by decide)) rfl (by decide)) (lvg_ne lvg_self rfl (by decide)) lvg_self sh (by rw [he]; exact rd_s) hB1
theorem z_b_give {Q : Option Value → MM → Prop} {S0 : MM} {m nt F cl : Nat} {A : Nat → Nat} {v b w u : Int32} (hM : MS S0 m A) (hB : BI S0 m A nt F cl) (hF : F < 3000) (hcl : cl < 1000000000) (K : ∀ r S' nt' F', F' ≤ F + 1 → SM WG m A S0 S' → BI S' m A nt' F' cl → Q (some (.int r)) S') : wX8_give [.ref m, .int v, .int b, .int w, .int u] S0 Q := by
  have hl := BI_len hB
  obtain ⟨h1, h2, h3, h4, s, h5, h6⟩ := hB
  refine z_v_give hM h1 (by omega) h2 (by omega) (fun r S' sh iv tl f39 => ?_) (fun r S' c e d hc he hd1 hd2 sh iv f39 tl => ?_)
  · exact K r S' nt F (by omega) sh ⟨iv, f39, (sh.2.2.2.2.2 43 (by decide)).trans h3, by rw [tl]; exact h4, s, CM_eq h5 (SM_a sh hM (by decide) (by decide)) (Nat.le_refl _), by rw [tl]; exact h6⟩
  · rw [h3] at tl
    refine K r S' (nt + 1) (F + 1) (Nat.le_refl _) sh ⟨iv, f39, (sh.2.2.2.2.2 43 (by decide)).trans h3, by rw [tl]; exact LV_give h4 (by omega) hd1 hd2 (by omega), s, CM_eq h5 (SM_a sh hM (by decide) (by decide)) (Nat.le_refl _), ?_⟩
    have : isF ((nI c, nI e, nI cl + nI d, nI F) : TQ) = true := by
      unfold isF
      simp [nI_m1 (show F < 1000000 by omega)]
    rw [tl, List.countP_append, List.countP_singleton, this]
    simp
    omega
theorem BI_42 {S : MM} {m nt F cl : Nat} {A : Nat → Nat} (h : BI S m A nt F cl) (hF : F < 3000) : ∀ j, j < 2 → ∃ k, k < 2147483000 ∧ sI S (A 42) j = nI k := fun j hj => by
  obtain ⟨h1, h2, h3, h4, s, h5, h6⟩ := h
  obtain ⟨k, a, b, -⟩ := CM_at h5 hj (by omega)
  exact ⟨k, a, b⟩
