/-! SIMULATION 19: which thing is due; the things that are left -/
theorem tg_i {J : Mm} {A : Nat → Nat} {t : Nat} : tg J A t 0 = J (A 27) t ∧ tg J A t 1 = J (A 28) t ∧ tg J A t 2 = J (A 29) t ∧ tg J A t 3 = J (A 30) t := ⟨rfl, rfl, rfl, rfl⟩
theorem flt_map {α β : Type} {f : α → β} {p : β → Bool} {l : List α} : (l.map f).filter p = (l.filter (fun a => p (f a))).map f := by
  induction l with
  | nil => rfl
  | cons a l ih =>
    simp only [List.map_cons]
    by_cases q : p (f a)
    · rw [List.filter_cons_of_pos q, List.filter_cons_of_pos (by exact q), List.map_cons, ih]
    · rw [List.filter_cons_of_neg q, List.filter_cons_of_neg (by exact q), ih]
/-- a lane's thing that is due now: the one and only -/
theorem due_one {J : Mm} {m c e nt cl : Nat} {A : Nat → Nat} {q : Nat → Int32} (h43 : J m 43 = nI cl) (h : ((TG J A nt).filter (isL c e)).filter (fun p => decide (p 2 = nI cl)) = [q]) : ∃ t0, t0 < nt ∧ Mt J m A c e t0 ∧ tg J A t0 = q ∧ ∀ t, t < nt → Mt J m A c e t → t = t0 := by
  unfold TG at h
  rw [flt_map, flt_map, List.filter_filter] at h
  have hp : ∀ t, (decide (tg J A t 2 = nI cl) && isL c e (tg J A t)) = true ↔ Mt J m A c e t := fun t => by
    unfold isL
    rw [Bool.and_eq_true, decide_eq_true_eq, decide_eq_true_eq, (tg_i (J := J) (A := A) (t := t)).1, (tg_i (J := J) (A := A) (t := t)).2.1, (tg_i (J := J) (A := A) (t := t)).2.2.1, (tg_i (J := J) (A := A) (t := t)).2.2.2]
    constructor
    · intro z; exact ⟨z.2.1, z.2.2.1, by rw [h43]; exact z.1, z.2.2.2⟩
    · intro z; exact ⟨by rw [← h43]; exact z.2.2.1, z.1, z.2.1, z.2.2.2⟩
  generalize hM : (List.range nt).filter (fun a => decide (tg J A a 2 = nI cl) && isL c e (tg J A a)) = M at h
  have mem : ∀ t, t ∈ M ↔ t < nt ∧ Mt J m A c e t := fun t => by rw [← hM, List.mem_filter, List.mem_range, hp]
  cases M with
  | nil => simp at h
  | cons t0 M =>
    cases M with
    | nil =>
      have h0 := (mem t0).mp List.mem_cons_self
      refine ⟨t0, h0.1, h0.2, ?_, fun t h1 h2 => ?_⟩
      · simpa using h
      · have := (mem t).mpr ⟨h1, h2⟩
        simpa using this
    | cons t1 M => simp at h
theorem due_none {J : Mm} {m c e nt cl : Nat} {A : Nat → Nat} (h43 : J m 43 = nI cl) (h : ((TG J A nt).filter (isL c e)).filter (fun p => decide (p 2 = nI cl)) = []) : ∀ t, t < nt → ¬ Mt J m A c e t := fun t ht mt => by
  have hm : tg J A t ∈ ((TG J A nt).filter (isL c e)).filter (fun p => decide (p 2 = nI cl)) := by
    rw [List.mem_filter, List.mem_filter]
    refine ⟨⟨List.mem_map.mpr ⟨t, List.mem_range.mpr ht, rfl⟩, ?_⟩, ?_⟩
    · unfold isL
      rw [decide_eq_true_eq, (tg_i (J := J) (A := A) (t := t)).1, (tg_i (J := J) (A := A) (t := t)).2.1, (tg_i (J := J) (A := A) (t := t)).2.2.2]
      exact ⟨mt.1, mt.2.1, mt.2.2.2⟩
    · rw [decide_eq_true_eq, (tg_i (J := J) (A := A) (t := t)).2.2.1, mt.2.2.1, h43]
  rw [h] at hm
  exact List.not_mem_nil hm
/-! the things that are left -/
theorem mv_o {J : Mm} {m t u k j : Nat} {A : Nat → Nat} (hA : AD m A) (hk : dm k) (h : k < 27 ∨ 31 < k) : f_X8_moves J m A t u (A k) j = J (A k) j := by
  refine congrFun (nm_X8_moves (m := m) (fun l hl z => ?_)) j
  have d : ∀ l ∈ ([27, 28, 29, 30, 31] : List Nat), dm l ∧ 27 ≤ l ∧ l ≤ 31 := by decide
  have q := hA.1 k l hk (d l hl).1 z
  have := (d l hl).2
  omega
theorem mv_m {J : Mm} {m t u j : Nat} {A : Nat → Nat} (hA : AD m A) : f_X8_moves J m A t u m j = J m j := congrFun (nm_X8_moves (m := m) (fun l hl z => hA.2 l ((show ∀ l ∈ ([27, 28, 29, 30, 31] : List Nat), dm l by decide) l hl) z.symm)) j
