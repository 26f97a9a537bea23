/-! THE START: what the tables and the given say, in the words of the contracts; the claim out of the law's predicate at the empty memory -/
theorem arr_prim {args : Array Value} {s : State} {ty : FieldType} (h : (Cond.arrayClass ty).before args s = true) (hno : ∀ C, ty ≠ .object C) : ∃ cA : ClassId, ArrOfT s cA ty ∧ va_RA s cA ty := by
  obtain ⟨c, k, comp, h1, h2, h3⟩ := Cond.arrayClass_spec h
  refine ⟨c, fun n z => ⟨fun k h => (by cases h), k, h2, comp, h3⟩, ?_⟩
  cases ty with
  | object C => exact absurd rfl (hno C)
  | _ => exact h1
theorem arr_ref {args : Array Value} {s : State} {C : String} (h : (Cond.arrayOver (.object C)).before args s = true) : ∃ cA : ClassId, ArrOfT s cA (.object C) ∧ va_RA s cA (.object C) := by
  obtain ⟨comp, c, k, h1, h2, h3, h4, h5⟩ := Cond.arrayOver_spec h
  exact ⟨c, fun n z => ⟨fun k h => (by cases h), k, h3, comp, h4⟩, k, comp, h3, h4, h1, h5⟩
theorem aO_0 : Cond.arrayOver (.object RX0) ∈ lw_tbl := by decide +kernel
theorem aO_1 : Cond.arrayOver (.object RX1) ∈ lw_tbl := by decide +kernel
theorem aO_2 : Cond.arrayOver (.object RX2) ∈ lw_tbl := by decide +kernel
theorem aO_3 : Cond.arrayOver (.object RX3) ∈ lw_tbl := by decide +kernel
theorem aO_4 : Cond.arrayOver (.object RX4) ∈ lw_tbl := by decide +kernel
theorem aO_5 : Cond.arrayOver (.object RX5) ∈ lw_tbl := by decide +kernel
theorem inst_all : ∀ q ∈ vwCl, Cond.instantiable q.1 q.2.2 ∈ TT := by
  intro q hq
  simp only [List.mem_cons, List.not_mem_nil, or_false] at hq
  rcases hq with rfl | rfl | rfl | rfl | rfl | rfl | rfl | rfl | rfl <;> exact List.mem_filter.mpr ⟨by decide +kernel, by decide +kernel⟩
theorem lay_all : ∀ q ∈ vwCl, ∀ w ∈ u_ws q.1 q.2.1 q.2.2, w ∈ TT := by
  intro q hq
  simp only [List.mem_cons, List.not_mem_nil, or_false] at hq
  rcases hq with rfl | rfl | rfl | rfl | rfl | rfl | rfl | rfl | rfl
  · exact inX0
  · exact inX1
  · exact inX2
  · exact inX3
  · exact inX4
  · exact inX5
  · exact inX6
  · exact inX7
  · exact inX8
theorem start_K {args : Array Value} {s : State} (hts : ∀ w ∈ lw_tbl, w.before args s = true) : ∃ (D : va_G) (cA : Nat → ClassId), va_K D vwCl (tyA cA) s := by
  have htt : ∀ w ∈ TT, w.before args s = true := fun w h => hts w (List.mem_filter.mp h).1
  have hcl : ∀ c : Nat, ∃ (p : ClassId × (Nat → Nat)), ∀ q : vw_C, vwCl[c]? = some q → u_Kn s q.1 q.2.1 q.2.2 p.1 p.2 := by
    intro c
    cases hq : vwCl[c]? with
    | none => exact ⟨(0, fun _ => 0), fun q h => by cases h⟩
    | some q =>
      have hm := List.mem_of_getElem? hq
      obtain ⟨cC, iS, h⟩ := u_known htt (lay_all q hm) (htt _ (inst_all q hm))
      exact ⟨(cC, iS), fun q2 h2 => by cases h2; exact h⟩
  have har : ∀ kd : Nat, ∃ cA : ClassId, ∀ (k : Nat) (f : FieldType), kd = k + 10 → ((tyA (fun _ => 0))[k]?).map (fun q => q.2) = some f → ArrOfT s cA f ∧ va_RA s cA f := by
    intro kd
    by_cases hk : 10 ≤ kd ∧ kd ≤ 18
    · obtain ⟨j, rfl⟩ : ∃ j, kd = j + 10 := ⟨kd - 10, by omega⟩
      have hj : j < 9 := by omega
      have fin : ∀ ty : FieldType, ((tyA (fun _ => 0))[j]?).map (fun q => q.2) = some ty → (∃ cA : ClassId, ArrOfT s cA ty ∧ va_RA s cA ty) → ∃ cA : ClassId, ∀ (k : Nat) (f : FieldType), j + 10 = k + 10 → ((tyA (fun _ => 0))[k]?).map (fun q => q.2) = some f → ArrOfT s cA f ∧ va_RA s cA f := by
        intro ty h1 ⟨cA, h2⟩
        refine ⟨cA, fun k f e hf => ?_⟩
        have : k = j := by omega
        subst this
        rw [h1] at hf
        cases hf
        exact h2
      match j, hj, fin with
      | 0, _, fin => exact fin .int rfl (arr_prim (htt _ ac_int) (fun _ h => by cases h))
      | 1, _, fin => exact fin .boolean rfl (arr_prim (htt _ ac_boolean) (fun _ h => by cases h))
      | 2, _, fin => exact fin _ rfl (arr_ref (hts _ aO_0))
      | 3, _, fin => exact fin _ rfl (arr_ref (hts _ aO_1))
      | 4, _, fin => exact fin _ rfl (arr_ref (hts _ aO_2))
      | 5, _, fin => exact fin _ rfl (arr_ref (hts _ aO_3))
      | 6, _, fin => exact fin _ rfl (arr_ref (hts _ aO_4))
      | 7, _, fin => exact fin _ rfl (arr_ref (hts _ aO_5))
      | 8, _, fin => exact fin .long rfl (arr_prim (htt _ ac_long) (fun _ h => by cases h))
      | n + 9, h, _ => omega
    · refine ⟨0, fun k f e hf => ?_⟩
      have : 9 ≤ k := by omega
      rw [List.getElem?_eq_none (by show 9 ≤ k; exact this)] at hf
      cases hf
  refine ⟨(fun c => (Classical.choose (hcl c)).1, fun c => (Classical.choose (hcl c)).2), fun kd => Classical.choose (har kd), fun c q hq => Classical.choose_spec (hcl c) q hq, fun k q hq => ?_⟩
  have hk : k < 9 := (List.getElem?_eq_some_iff.mp hq).1
  have h1 : q.1 = Classical.choose (har (k + 10)) ∧ ((tyA (fun _ => 0))[k]?).map (fun q => q.2) = some q.2 := by
    match k, hk, hq with
    | 0, _, hq => cases hq; exact ⟨rfl, rfl⟩
    | 1, _, hq => cases hq; exact ⟨rfl, rfl⟩
    | 2, _, hq => cases hq; exact ⟨rfl, rfl⟩
    | 3, _, hq => cases hq; exact ⟨rfl, rfl⟩
    | 4, _, hq => cases hq; exact ⟨rfl, rfl⟩
    | 5, _, hq => cases hq; exact ⟨rfl, rfl⟩
    | 6, _, hq => cases hq; exact ⟨rfl, rfl⟩
    | 7, _, hq => cases hq; exact ⟨rfl, rfl⟩
    | 8, _, hq => cases hq; exact ⟨rfl, rfl⟩
    | n + 9, h, _ => omega
  rw [h1.1]
  exact Classical.choose_spec (har (k + 10)) k q.2 rfl h1.2
theorem start_N {args : Array Value} {s : State} (hts : ∀ w ∈ lw_tbl, w.before args s = true) : gN s := by
  refine ⟨fun q hq => va_Nw.of rfl (hts _ ?_), fun C hC => va_AO.of (hts _ ?_)⟩
  · simp only [List.mem_cons, List.not_mem_nil, or_false] at hq
    rcases hq with rfl | rfl | rfl | rfl | rfl <;> decide +kernel
  · simp only [List.mem_cons, List.not_mem_nil, or_false] at hC
    rcases hC with rfl | rfl | rfl | rfl | rfl | rfl
    · exact aO_0
    · exact aO_1
    · exact aO_2
    · exact aO_3
    · exact aO_4
    · exact aO_5
theorem zS_1 : Cond.laysStatic Bundle.tN "UNASSIGNED_STACK" Bundle.steD ∈ lw_tbl := by decide +kernel
theorem zS_2 : Cond.laysStatic Bundle.tN "SUPPRESSED_SENTINEL" Bundle.listD ∈ lw_tbl := by decide +kernel
theorem zS_3 : Cond.initialized Bundle.tN ∈ lw_tbl := by decide +kernel
theorem str_1 : ∀ q ∈ strs, Cond.stringRef RX7 q.1 q.2 ∈ lw_tbl := by decide +kernel
theorem fl_1 : Cond.isRef (.static Bundle.tN "UNASSIGNED_STACK" Bundle.steD) ∈ flatC (Jvm.Cond.and given_1 narrow_1) := by decide +kernel
theorem fl_2 : Cond.isRef (.static Bundle.tN "SUPPRESSED_SENTINEL" Bundle.listD) ∈ flatC (Jvm.Cond.and given_1 narrow_1) := by decide +kernel
theorem fl_3 : Cond.not (.castable eS eI) ∈ flatC (Jvm.Cond.and given_1 narrow_1) := by decide +kernel
theorem fl_4 : ∀ q ∈ strs, Cond.exactly (.string RX7 q.1) "java/lang/String" ∈ flatC (Jvm.Cond.and given_1 narrow_1) := by decide +kernel
theorem start_Y {b : Nat} {s : State} (hts : ∀ w ∈ lw_tbl, w.before #[Value.ref b] s = true) (hgv : (Jvm.Cond.and given_1 narrow_1).before #[Value.ref b] s = true) : gY s.heap.size s := by
  have hf := flat_of_before _ hgv
  have hA : ∀ a : Nat, a < s.heap.size → ¬ aB s.heap.size a := fun a h z => Nat.not_le.mpr h z
  refine ⟨⟨fun w hw hc => va_Nw.of (by cases w <;> first | rfl | cases hc) (hts w hw), vx_Zqof (hts _ zS_1) (hts _ zS_3) (hf _ fl_1) hA, vx_Zqof (hts _ zS_2) (hts _ zS_3) (hf _ fl_2) hA, fun q hq => ?_⟩, va_Nc.of (hf _ fl_3)⟩
  obtain ⟨a, -, -, -, h1, -⟩ := Cond.exactly_spec (hf _ (fl_4 q hq))
  exact ⟨a, vk_R.of (hts _ (str_1 q hq)) h1⟩
/-- what holds at the law's entry: the machine, the code, the tables' words (any of lw_tbl by 'hts w (by decide +kernel)'), the script of L ints xs at the cell b, what the Statement gives of the start (any of its parts by flat_of_before) -/
def lw_At (p : Program) (s : State) (m : MethodId) (meth : Method) (c : Code) (b L : Nat) (xs : Nat → Int32) : Prop :=
  p.tables.exec = Jvm.exec ∧ c.code = code ∧ meth.sig.returnType = ret ∧ c.maxLocals = 7 ∧ s.vm.findClass R_law = some m.cls ∧ (∀ w ∈ lw_tbl, w.before #[Value.ref b] s = true) ∧ va_X b L xs s s.heap ∧ b < s.heap.size ∧ meth.locks = false ∧ (Jvm.Cond.and given_1 narrow_1).before #[Value.ref b] s = true
/-- the law from its entry, out of its predicate -/
theorem law_W {p : Program} {e : Env} {s : State} {m : MethodId} {below : List Frame} {meth : Method} {c : Code} (l : Launch) (hst : l.stackTraces = false) {b L : Nat} {xs : Nat → Int32} (C0 : lw_At p s m meth c b L xs) (n : Nat) (hwp : wpn (kL_law b L xs) n 0 [(0, .ref b)] [] M0 0 0) : W p l e room_1 s m #[Value.ref b] below meth c s.heap [] 0 0 (lw_Z below #[Value.ref b] s) (entryFrame m ([Value.ref b] : List Value).toArray 7) := by
  obtain ⟨hx, hb, hr, hml, hown, hts, hX, hbl, hlk, hgv⟩ := C0
  obtain ⟨D, cA, hK⟩ := start_K hts
  have hC : Cx (p, l, e, room_1, s, m, #[Value.ref b], below, meth, c, D, cA, s.heap.size) code 7 RL 601024 7293034 := ⟨hx, hb, hml, hown, fun w h => hts w (List.mem_filter.mp h).1, ⟨hK, Nat.le_refl _, start_N hts⟩, hlk, rfl, rfl⟩
  have hR : CxR (p, l, e, room_1, s, m, #[Value.ref b], below, meth, c, D, cA, s.heap.size) 10 370 := ⟨rfl, rfl⟩
  have hL : LwR (p, l, e, room_1, s, m, #[Value.ref b], below, meth, c, D, cA, s.heap.size) b := ⟨rfl, rfl, hr, rfl⟩
  have key : ∀ n pc, Sd (p, l, e, room_1, s, m, #[Value.ref b], below, meth, c, D, cA, s.heap.size) 7 (QL (p, l, e, room_1, s, m, #[Value.ref b], below, meth, c, D, cA, s.heap.size)) 601024 7293034 pc (wpn (kL_law b L xs) n pc) := by
    intro n
    induction n with
    | zero => intro pc H locs ls lv st S cz zz hk; exact hk.elim
    | succ n ih => intro pc; exact mL_law hC hR hst (start_Y hts hgv) hX hbl hbl hL ih pc
  have hl := lv_entry ([Value.ref b]) (n := 7) (Nat.le_of_ble_eq_true rfl)
  rw [lg_entry_eq]
  generalize (lg_sl ([Value.ref b]) ++ List.replicate (7 - (lg_sl ([Value.ref b])).length) Slot.unset).toArray = ls at hl ⊢
  exact key n 0 s.heap [] ls _ [] M0 0 0 hwp M0_wd va_S.rf hl (Nat.zero_le _) (Nat.zero_le _)
