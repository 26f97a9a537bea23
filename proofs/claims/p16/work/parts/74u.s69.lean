/-! SIMULATION 69: how many frames are on a lane, on the reference's side -/
theorem x_on6 {Q : Option Value → MM → Prop} {S : MM} {m c e nt : Nat} {A : Nat → Nat} (hM : MS S m A) (e32 : sI S m 32 = nI nt) (hnt : nt ≤ 4000) (K : Q (some (.int (nI (gcB (fun t => isG c e (tg (sI S) A t)) nt)))) S) : ∀ (r i n : Nat) (lv : Lv), i + r = nt → 4 * r + 3 ≤ n → lvg lv 0 = some (.ref m) → lvg lv 1 = some (.int (nI c)) → lvg lv 2 = some (.int (nI e)) → lvg lv 3 = some (.int (nI 0)) → lvg lv 4 = some (.int (nI (gcB (fun t => isG c e (tg (sI S) A t)) i))) → lvg lv 5 = some (.int (nI i)) → wpn (kX8_on Q) n 6 lv [] S 0 0 := by
  intro r
  induction r with
  | zero =>
    intro i n lv hi hn l0 l1 l2 l3 l4 l5
    have : i = nt := by omega
    subst this
    obtain ⟨n, rfl⟩ : ∃ q, n = q + 2 := ⟨n - 2, by omega⟩
    refine u_X8_on_6 ?_
    unfold bX8_on_6
    refine e_ldI l5 (e_ldA l0 (e_gV (v := nI i) hM.1 e32 (e_ge (by omega) (by omega) (fun _ => u_X8_on_73 ?_) (fun z => absurd z (by omega)))))
    unfold bX8_on_73
    exact e_ldI l4 (e_rI K)
  | succ r ih =>
    intro i n lv hi hn l0 l1 l2 l3 l4 l5
    obtain ⟨n, rfl⟩ : ∃ q, n = q + 4 := ⟨n - 4, by omega⟩
    have hin : i < 4000 := by omega
    have kk : gcB (fun t => isG c e (tg (sI S) A t)) (i + 1) = gcB (fun t => isG c e (tg (sI S) A t)) i + (if isG c e (tg (sI S) A i) = true then 1 else 0) := rfl
    have go : ∀ v n', 4 * r + 3 ≤ n' → gcB (fun t => isG c e (tg (sI S) A t)) i + v = gcB (fun t => isG c e (tg (sI S) A t)) (i + 1) → wpn (kX8_on Q) (n' + 1) 64 lv [.int (nI v), .int (nI (gcB (fun t => isG c e (tg (sI S) A t)) i))] S 0 0 := fun v n' hn' ev => by
      refine u_X8_on_64 ?_
      unfold bX8_on_64
      refine e_add (e_stI (e_inc (lvg_ne l5 rfl (by decide)) ?_))
      exact ih (i + 1) n' _ (by omega) hn' (lvg_ne (lvg_ne l0 rfl (by decide)) rfl (by decide)) (lvg_ne (lvg_ne l1 rfl (by decide)) rfl (by decide)) (lvg_ne (lvg_ne l2 rfl (by decide)) rfl (by decide)) (lvg_ne (lvg_ne l3 rfl (by decide)) rfl (by decide)) (by rw [ev]; exact lvg_ne lvg_self rfl (by decide)) lvg_self
    have no : ∀ n', 4 * r + 4 ≤ n' → ¬ isG c e (tg (sI S) A i) = true → wpn (kX8_on Q) (n' + 1) 63 lv [.int (nI (gcB (fun t => isG c e (tg (sI S) A t)) i))] S 0 0 := fun n' hn' q => by
      obtain ⟨n', rfl⟩ : ∃ q, n' = q + 1 := ⟨n' - 1, by omega⟩
      refine u_X8_on_63 ?_
      unfold bX8_on_63
      exact e_cN 0 rfl (go 0 n' (by omega) (by rw [kk, if_neg q]))
    refine u_X8_on_6 ?_
    unfold bX8_on_6
    refine e_ldI l5 (e_ldA l0 (e_gV (v := nI nt) hM.1 e32 (e_ge (by omega) (by omega) (fun z => absurd z (by omega)) (fun _ => ?_))))
    refine e_ldI l4 (e_ldA l0 (e_gR hM.1 (hM.2.1 27 (by decide)).1 (e_ldI l5 (e_aV (N := 4000) (v := sI S (A 27) i) (hM.2.1 27 (by decide)).2.1 (hM.2.1 27 (by decide)).2.2.1 hin (by decide) rfl (e_ldI l1 ⟨fun h1 => ?_, fun h1 => no (n + 2) (by omega) (fun z => h1 (of_decide_eq_true z).1)⟩)))))
    refine e_ldA l0 (e_gR hM.1 (hM.2.1 28 (by decide)).1 (e_ldI l5 (e_aV (N := 4000) (v := sI S (A 28) i) (hM.2.1 28 (by decide)).2.1 (hM.2.1 28 (by decide)).2.2.1 hin (by decide) rfl (e_ldI l2 ⟨fun h2 => ?_, fun h2 => no (n + 2) (by omega) (fun z => h2 (of_decide_eq_true z).2.1)⟩))))
    refine e_ldA l0 (e_gR hM.1 (hM.2.1 30 (by decide)).1 (e_ldI l5 (e_aV (N := 4000) (v := sI S (A 30) i) (hM.2.1 30 (by decide)).2.1 (hM.2.1 30 (by decide)).2.2.1 hin (by decide) rfl (e_cI ⟨fun h3 => e_cN 1 rfl (u_X8_on_55 ?_), fun h3 => u_X8_on_54 ?_⟩))))
    · unfold bX8_on_55
      refine e_ldI l3 (e_eq (by decide) (by decide) (fun z => absurd z (by decide)) (fun _ => no (n + 1) (by omega) (fun z => (of_decide_eq_true z).2.2 h3)))
    · unfold bX8_on_54
      refine e_cN 0 rfl (u_X8_on_55 ?_)
      unfold bX8_on_55
      refine e_ldI l3 (e_eq (by decide) (by decide) (fun _ => e_cN 1 rfl (go 1 n (by omega) ?_)) (fun z => absurd rfl z))
      have yes : isG c e (tg (sI S) A i) = true := decide_eq_true ⟨h1, h2, h3⟩
      rw [kk, if_pos yes]
theorem x_on {Q : Option Value → MM → Prop} {S : MM} {m c e nt : Nat} {A : Nat → Nat} (hM : MS S m A) (e32 : sI S m 32 = nI nt) (hnt : nt ≤ 4000) (K : Q (some (.int (nI (gcB (fun t => isG c e (tg (sI S) A t)) nt)))) S) : wX8_on [.ref m, .int (nI c), .int (nI e), .int (nI 0)] S Q := by
  refine Exists.intro (4 * nt + 10) (u_X8_on_0 ?_)
  unfold bX8_on_0
  refine e_cN 0 rfl (e_stI (e_cN 0 rfl (e_stI ?_)))
  exact x_on6 hM e32 hnt K nt 0 (4 * nt + 9) _ (by omega) (by omega) (lvg_ne (lvg_ne rfl rfl (by decide)) rfl (by decide)) (lvg_ne (lvg_ne rfl rfl (by decide)) rfl (by decide)) (lvg_ne (lvg_ne rfl rfl (by decide)) rfl (by decide)) (lvg_ne (lvg_ne rfl rfl (by decide)) rfl (by decide)) (lvg_ne lvg_self rfl (by decide)) lvg_self
theorem gcB_len (g : Nat → Bool) : ∀ n, gcB g n = ((List.range n).filter g).length := by
  intro n
  induction n with
  | zero => rfl
  | succ n ih =>
    rw [gcB, ih, List.range_succ, List.filter_append, List.length_append]
    by_cases q : g n = true
    · rw [if_pos q, List.filter_cons_of_pos q]; rfl
    · rw [if_neg q, List.filter_cons_of_neg q]; rfl
/-- as many as the class has -/
theorem on_len {R : Nat → Nat → Option Nat} {b c e nt : Nat} {I J : Mm} {A : Nat → Nat} (hl : (CF I R b c e).map (fr5 I) = ((TG J A nt).filter (isG c e)).map (fq5 J A)) : gcB (fun t => isG c e (tg J A t)) nt = (CF I R b c e).length := by
  have h := congrArg List.length hl
  rw [List.length_map, List.length_map] at h
  rw [gcB_len, h]
  have e2 : (List.filter (isG c e) (TG J A nt)) = ((List.range nt).filter (fun t => isG c e (tg J A t))).map (tg J A) := flt_map
  rw [e2, List.length_map]
