/-! THE MEMORY: what each address of the pool holds. kind 0: nothing of ours; 1 to 9: an object of vwCl's place kind - 1; 10 ints, 11 booleans, 12 to 17 references (Cable, End, Frame, Lane, Note, Port), 18 longs -/
abbrev MM : Type := (Nat → Nat) × (Nat → Nat) × (Nat → Nat → Int32) × (Nat → Nat → Option Nat) × (Nat → Nat → Int64)
def sK (S : MM) : Nat → Nat := S.1
def sN (S : MM) : Nat → Nat := S.2.1
def sI (S : MM) : Nat → Nat → Int32 := S.2.2.1
def sR (S : MM) : Nat → Nat → Option Nat := S.2.2.2.1
def sJ (S : MM) : Nat → Nat → Int64 := S.2.2.2.2
def up2 {α : Type} (f : Nat → Nat → α) (a k : Nat) (v : α) : Nat → Nat → α := fun b j => if b = a ∧ j = k then v else f b j
def cl2 {α : Type} (f : Nat → Nat → α) (a : Nat) (v : α) : Nat → Nat → α := fun b j => if b = a then v else f b j
def pI (S : MM) (a k : Nat) (v : Int32) : MM := (sK S, sN S, up2 (sI S) a k v, sR S, sJ S)
def pR (S : MM) (a k : Nat) (v : Option Nat) : MM := (sK S, sN S, sI S, up2 (sR S) a k v, sJ S)
def pJ (S : MM) (a k : Nat) (v : Int64) : MM := (sK S, sN S, sI S, sR S, up2 (sJ S) a k v)
def nw (S : MM) (a kd n : Nat) : MM := (va_up (sK S) a kd, va_up (sN S) a n, cl2 (sI S) a 0, cl2 (sR S) a none, cl2 (sJ S) a 0)
theorem sK_pI (S : MM) (a k : Nat) (v : Int32) : sK (pI S a k v) = sK S := rfl
theorem sN_pI (S : MM) (a k : Nat) (v : Int32) : sN (pI S a k v) = sN S := rfl
theorem sI_pI (S : MM) (a k : Nat) (v : Int32) : sI (pI S a k v) = up2 (sI S) a k v := rfl
theorem sR_pI (S : MM) (a k : Nat) (v : Int32) : sR (pI S a k v) = sR S := rfl
theorem sJ_pI (S : MM) (a k : Nat) (v : Int32) : sJ (pI S a k v) = sJ S := rfl
theorem sK_pR (S : MM) (a k : Nat) (v : Option Nat) : sK (pR S a k v) = sK S := rfl
theorem sN_pR (S : MM) (a k : Nat) (v : Option Nat) : sN (pR S a k v) = sN S := rfl
theorem sI_pR (S : MM) (a k : Nat) (v : Option Nat) : sI (pR S a k v) = sI S := rfl
theorem sR_pR (S : MM) (a k : Nat) (v : Option Nat) : sR (pR S a k v) = up2 (sR S) a k v := rfl
theorem sJ_pR (S : MM) (a k : Nat) (v : Option Nat) : sJ (pR S a k v) = sJ S := rfl
theorem sK_pJ (S : MM) (a k : Nat) (v : Int64) : sK (pJ S a k v) = sK S := rfl
theorem sN_pJ (S : MM) (a k : Nat) (v : Int64) : sN (pJ S a k v) = sN S := rfl
theorem sI_pJ (S : MM) (a k : Nat) (v : Int64) : sI (pJ S a k v) = sI S := rfl
theorem sR_pJ (S : MM) (a k : Nat) (v : Int64) : sR (pJ S a k v) = sR S := rfl
theorem sJ_pJ (S : MM) (a k : Nat) (v : Int64) : sJ (pJ S a k v) = up2 (sJ S) a k v := rfl
theorem sK_nw (S : MM) (a kd n : Nat) : sK (nw S a kd n) = va_up (sK S) a kd := rfl
theorem sN_nw (S : MM) (a kd n : Nat) : sN (nw S a kd n) = va_up (sN S) a n := rfl
theorem sI_nw (S : MM) (a kd n : Nat) : sI (nw S a kd n) = cl2 (sI S) a 0 := rfl
theorem sR_nw (S : MM) (a kd n : Nat) : sR (nw S a kd n) = cl2 (sR S) a none := rfl
theorem sJ_nw (S : MM) (a kd n : Nat) : sJ (nw S a kd n) = cl2 (sJ S) a 0 := rfl
def M0 : MM := (fun _ => 0, fun _ => 0, fun _ _ => 0, fun _ _ => none, fun _ _ => 0)
/-- which fields are references, by class -/
def sg (ci : Nat) : List Bool := match ci with
  | 0 => [true, true, false, false, false]
  | 1 => [true, false, false, false, true, false, false, false, false]
  | 2 => [false, false, false, false, false, false, false]
  | 3 => [true, false, false, true, false, false, false]
  | 4 => [true, true, false]
  | 5 => [true, true, false, false, false, false, false, false, false, false, false, false, false, false, true, false, false, false]
  | 6 => [false, false, false, false, false]
  | 7 => [true, true, false, false, false, false, false, false, false]
  | 8 => [false] ++ List.replicate 31 true ++ [false] ++ List.replicate 6 true ++ [false, true, true, true] ++ List.replicate 8 false
  | _ => []
def fv (ci : Nat) (S : MM) (a k : Nat) : Value := if (sg ci).getD k false then va_rf (sR S a k) else .int (sI S a k)
def fl (ci : Nat) (S : MM) (a : Nat) : List Value := (List.range (sg ci).length).map (fv ci S a)
def fF (cA : Nat → ClassId) (S : MM) (a : Nat) : va_E :=
  if sK S a ≤ 9 then .inr (sK S a - 1, fl (sK S a - 1) S a)
  else if sK S a ≤ 11 then .inl (cA (sK S a), sN S a, .inl (sI S a))
  else if sK S a ≤ 17 then .inl (cA (sK S a), sN S a, .inr (.inr (.inr (.inr (sR S a)))))
  else .inl (cA (sK S a), sN S a, .inr (.inl (sJ S a)))
def wd (D : va_G) (cA : Nat → ClassId) (base : Nat) (S : MM) (H : Heap) : Prop := ∀ a, sK S a ≠ 0 → base ≤ a ∧ va_at D vwCl (a, fF cA S a) H
def LL (S : MM) (H : Heap) : List Nat := (List.range H.size).filter (fun a => !(sK S a == 0))
theorem LL_mem {D : va_G} {cA : Nat → ClassId} {base : Nat} {S : MM} {H : Heap} (h : wd D cA base S H) {a : Nat} (ha : sK S a ≠ 0) : a ∈ LL S H := by
  have h1 : a < H.size := ((h a ha).2).lt
  simp [LL, h1, ha]
theorem LL_k {S : MM} {H : Heap} {a : Nat} (h : a ∈ LL S H) : sK S a ≠ 0 := by
  simp [LL] at h
  exact h.2
theorem LL_nd (S : MM) (H : Heap) : (LL S H).Pairwise (fun a b => a ≠ b) := List.Pairwise.filter _ (List.nodup_range (n := H.size))
theorem wd_P {D : va_G} {cA : Nat → ClassId} {base : Nat} {S : MM} {H : Heap} (h : wd D cA base S H) : va_P D vwCl ([] ++ va_pl (LL S H) (fF cA S)) H := by
  intro k q hk
  rw [List.nil_append] at hk
  obtain ⟨a, ha, rfl⟩ := List.mem_map.mp (List.mem_of_getElem? hk)
  exact (h a (LL_k ha)).2
theorem wd_D {D : va_G} {cA : Nat → ClassId} {base : Nat} {S : MM} {H : Heap} (h : wd D cA base S H) : va_D (fun q => base ≤ q) ([] ++ va_pl (LL S H) (fF cA S)) := by
  refine ⟨fun i j x y hi hj hxy => ?_, fun k q hk => ?_⟩
  · rw [List.nil_append] at hi hj
    simp only [va_pl, List.getElem?_map] at hi hj
    cases hi' : (LL S H)[i]? with
    | none => rw [hi'] at hi; cases hi
    | some a =>
      cases hj' : (LL S H)[j]? with
      | none => rw [hj'] at hj; cases hj
      | some b =>
        rw [hi'] at hi; rw [hj'] at hj
        cases hi; cases hj
        have hab : a = b := hxy
        subst hab
        obtain ⟨h1, h2⟩ := List.getElem?_eq_some_iff.mp hi'
        obtain ⟨h3, h4⟩ := List.getElem?_eq_some_iff.mp hj'
        have hp := List.pairwise_iff_getElem.mp (LL_nd S H)
        rcases Nat.lt_trichotomy i j with q | q | q
        · exact absurd (h2.trans h4.symm) (hp i j h1 h3 q)
        · exact q
        · exact absurd (h4.trans h2.symm) (hp j i h3 h1 q)
  · rw [List.nil_append] at hk
    obtain ⟨a, ha, rfl⟩ := List.mem_map.mp (List.mem_of_getElem? hk)
    exact (h a (LL_k ha)).1
theorem wd_of {D : va_G} {cA : Nat → ClassId} {base : Nat} {S S' : MM} {H H1 : Heap} {f : Nat → va_E} (h : wd D cA base S H) (hk : ∀ b, sK S' b = sK S b) (hf : ∀ b, f b = fF cA S' b) (hP : va_P D vwCl ([] ++ va_pl (LL S H) f) H1) : wd D cA base S' H1 := by
  intro a ha
  rw [hk] at ha
  refine ⟨(h a ha).1, ?_⟩
  obtain ⟨k, hk⟩ := va_pl_get (X := []) (f := f) (LL_mem h ha)
  rw [← hf a]
  exact hP k _ hk
/-- behind a write of the cell a -/
theorem wd_set {D : va_G} {cA : Nat → ClassId} {base : Nat} {S S' : MM} {H H1 : Heap} {a q : Nat} {e' : va_E} (h : wd D cA base S H) (ha : sK S a ≠ 0) (hk : ∀ b, sK S' b = sK S b) (hf : ∀ b, va_up (fF cA S) a e' b = fF cA S' b) (hq : ([] ++ va_pl (LL S H) (fF cA S))[q]? = some (a, fF cA S a)) (hP : va_P D vwCl (([] ++ va_pl (LL S H) (fF cA S)).set q (a, e')) H1) : wd D cA base S' H1 := by
  rw [va_pl_set (wd_D h) (LL_mem h ha) hq] at hP
  exact wd_of h hk hf hP
theorem wd_new {D : va_G} {cA : Nat → ClassId} {base : Nat} {S : MM} {H H1 : Heap} {q kd n : Nat} {e' : va_E} (h : wd D cA base S H) (he : fF cA (nw S q kd n) q = e') (hD : va_D (fun q => base ≤ q) (([] ++ va_pl (LL S H) (fF cA S)) ++ [(q, e')])) (hP : va_P D vwCl (([] ++ va_pl (LL S H) (fF cA S)) ++ [(q, e')]) H1) : sK S q = 0 ∧ wd D cA base (nw S q kd n) H1 := by
  have hz : sK S q = 0 := by
    by_cases hz : sK S q = 0
    · exact hz
    · obtain ⟨k, hk⟩ := va_pl_get (X := []) (f := fF cA S) (LL_mem h hz)
      have hl := (List.getElem?_eq_some_iff.mp hk).1
      have h1 : (([] ++ va_pl (LL S H) (fF cA S)) ++ [(q, e')])[k]? = some (q, fF cA S q) := by
        rw [List.getElem?_append_left hl]; exact hk
      have h2 : (([] ++ va_pl (LL S H) (fF cA S)) ++ [(q, e')])[([] ++ va_pl (LL S H) (fF cA S)).length]? = some (q, e') := by
        rw [List.getElem?_append_right (Nat.le_refl _), Nat.sub_self]; rfl
      have := hD.1 _ _ _ _ h1 h2 rfl
      omega
  refine ⟨hz, fun a ha => ?_⟩
  by_cases haq : a = q
  · subst haq
    have h2 : (([] ++ va_pl (LL S H) (fF cA S)) ++ [(a, e')])[([] ++ va_pl (LL S H) (fF cA S)).length]? = some (a, e') := by
      rw [List.getElem?_append_right (Nat.le_refl _), Nat.sub_self]; rfl
    exact ⟨hD.2 _ _ h2, by rw [he]; exact hP _ _ h2⟩
  · have hka : sK (nw S q kd n) a = sK S a := va_up_ne _ _ haq
    rw [hka] at ha
    have hff : fF cA (nw S q kd n) a = fF cA S a := by
      have e1 : sN (nw S q kd n) a = sN S a := va_up_ne _ _ haq
      have e2 : sI (nw S q kd n) a = sI S a := by funext j; show cl2 (sI S) q 0 a j = sI S a j; simp [cl2, haq]
      have e3 : sR (nw S q kd n) a = sR S a := by funext j; show cl2 (sR S) q none a j = sR S a j; simp [cl2, haq]
      have e4 : sJ (nw S q kd n) a = sJ S a := by funext j; show cl2 (sJ S) q 0 a j = sJ S a j; simp [cl2, haq]
      unfold fF fl
      rw [hka, e1, e2, e3, e4]
      have e5 : ∀ ci k, fv ci (nw S q kd n) a k = fv ci S a k := by intro ci k; unfold fv; rw [e2, e3]
      rw [show fv (sK S a - 1) (nw S q kd n) a = fv (sK S a - 1) S a from funext (e5 _)]
    refine ⟨(h a ha).1, ?_⟩
    rw [hff]
    obtain ⟨k, hk⟩ := va_pl_get (X := []) (f := fF cA S) (LL_mem h ha)
    have hl := (List.getElem?_eq_some_iff.mp hk).1
    exact hP k _ (by rw [List.getElem?_append_left hl]; exact hk)
theorem wd_kept {D : va_G} {cA : Nat → ClassId} {base : Nat} {S : MM} {H H1 : Heap} (h : wd D cA base S H) (hq : ∀ q : Nat, q < H.size → H1[q]? = H[q]?) : wd D cA base S H1 := fun a ha => ⟨(h a ha).1, ((h a ha).2).kept (hq a ((h a ha).2).lt)⟩
theorem M0_wd {D : va_G} {cA : Nat → ClassId} {base : Nat} {H : Heap} : wd D cA base M0 H := fun _ h => absurd rfl h
-- kinds
theorem fF_obj {cA : Nat → ClassId} {S : MM} {a ci : Nat} (h : sK S a = ci + 1) (hc : ci < 9) : fF cA S a = .inr (ci, fl ci S a) := by
  unfold fF
  rw [h, if_pos (by omega)]
  rfl
theorem fF_int {cA : Nat → ClassId} {S : MM} {a kd : Nat} (h : sK S a = kd) (h1 : 10 ≤ kd) (h2 : kd ≤ 11) : fF cA S a = .inl (cA kd, sN S a, .inl (sI S a)) := by
  unfold fF
  rw [h, if_neg (by omega), if_pos (by omega)]
theorem fF_ref {cA : Nat → ClassId} {S : MM} {a kd : Nat} (h : sK S a = kd) (h1 : 12 ≤ kd) (h2 : kd ≤ 17) : fF cA S a = .inl (cA kd, sN S a, .inr (.inr (.inr (.inr (sR S a))))) := by
  unfold fF
  rw [h, if_neg (by omega), if_neg (by omega), if_pos (by omega)]
theorem fF_long {cA : Nat → ClassId} {S : MM} {a : Nat} (h : sK S a = 18) : fF cA S a = .inl (cA 18, sN S a, .inr (.inl (sJ S a))) := by
  unfold fF
  rw [h, if_neg (by omega), if_neg (by omega), if_neg (by omega)]
theorem fl_at {ci k : Nat} (S : MM) (a : Nat) (hk : k < (sg ci).length) : (fl ci S a)[k]? = some (fv ci S a k) := by
  simp [fl, hk]
theorem fl_len {ci : Nat} (S : MM) (a : Nat) : (fl ci S a).length = (sg ci).length := by simp [fl]
theorem fv_I {ci k : Nat} (S : MM) (a : Nat) (h : (sg ci).getD k false = false) : fv ci S a k = .int (sI S a k) := by unfold fv; rw [h]; rfl
theorem fv_R {ci k : Nat} (S : MM) (a : Nat) (h : (sg ci).getD k false = true) : fv ci S a k = va_rf (sR S a k) := by unfold fv; rw [h]; rfl
theorem fF_row {cA : Nat → ClassId} {S S' : MM} {b : Nat} (h0 : sK S' b = sK S b) (h1 : sN S' b = sN S b) (h2 : sI S' b = sI S b) (h3 : sR S' b = sR S b) (h4 : sJ S' b = sJ S b) : fF cA S' b = fF cA S b := by
  have e5 : ∀ ci, fv ci S' b = fv ci S b := by intro ci; funext k; unfold fv; rw [h2, h3]
  unfold fF fl
  rw [h0, h1, h2, h3, h4, e5]
theorem up2_row {α : Type} {f : Nat → Nat → α} {a k b : Nat} {v : α} (h : b ≠ a) : up2 f a k v b = f b := by funext j; simp [up2, h]
theorem up2_self {α : Type} (f : Nat → Nat → α) (a k : Nat) (v : α) : up2 f a k v a k = v := by simp [up2]
theorem up2_ne {α : Type} {f : Nat → Nat → α} {a k b j : Nat} {v : α} (h : ¬ (b = a ∧ j = k)) : up2 f a k v b j = f b j := by simp [up2, h]
theorem up2_upd (f : Nat → Nat → Int32) (a k : Nat) (v : Int32) : up2 f a k v a = upd (f a) k v := by funext j; simp [up2, upd]
theorem up2_va {α : Type} (f : Nat → Nat → α) (a k : Nat) (v : α) : up2 f a k v a = va_up (f a) k v := by funext j; simp [up2, va_up]
theorem set_pI {cA : Nat → ClassId} {S : MM} {a ci k : Nat} {v : Int32} (h : sK S a = ci + 1) (hc : ci < 9) (hk : k < (sg ci).length) (hg : (sg ci).getD k false = false) (b : Nat) : va_up (fF cA S) a (.inr (ci, (fl ci S a).set k (.int v))) b = fF cA (pI S a k v) b := by
  by_cases hb : b = a
  · subst hb
    rw [va_up_self, fF_obj (S := pI S b k v) (ci := ci) h hc]
    congr 2
    apply List.ext_getElem?
    intro j
    by_cases hj : j = k
    · subst hj
      rw [List.getElem?_set_self (by rw [fl_len]; exact hk), fl_at _ _ hk, fv_I _ _ hg]
      rw [sI_pI, up2_self]
    · rw [List.getElem?_set_ne (Ne.symm hj)]
      by_cases hl : j < (sg ci).length
      · rw [fl_at _ _ hl, fl_at _ _ hl]
        unfold fv
        rw [sR_pI, sI_pI, up2_ne (fun q => hj q.2)]
      · rw [List.getElem?_eq_none (by rw [fl_len]; omega), List.getElem?_eq_none (by rw [fl_len]; omega)]
  · rw [va_up_ne _ _ hb]
    exact (fF_row (S := S) (S' := pI S a k v) rfl rfl (up2_row hb) rfl rfl).symm
theorem set_pR {cA : Nat → ClassId} {S : MM} {a ci k : Nat} {v : Option Nat} (h : sK S a = ci + 1) (hc : ci < 9) (hk : k < (sg ci).length) (hg : (sg ci).getD k false = true) (b : Nat) : va_up (fF cA S) a (.inr (ci, (fl ci S a).set k (va_rf v))) b = fF cA (pR S a k v) b := by
  by_cases hb : b = a
  · subst hb
    rw [va_up_self, fF_obj (S := pR S b k v) (ci := ci) h hc]
    congr 2
    apply List.ext_getElem?
    intro j
    by_cases hj : j = k
    · subst hj
      rw [List.getElem?_set_self (by rw [fl_len]; exact hk), fl_at _ _ hk, fv_R _ _ hg]
      rw [sR_pR, up2_self]
    · rw [List.getElem?_set_ne (Ne.symm hj)]
      by_cases hl : j < (sg ci).length
      · rw [fl_at _ _ hl, fl_at _ _ hl]
        unfold fv
        rw [sR_pR, sI_pR, up2_ne (fun q => hj q.2)]
      · rw [List.getElem?_eq_none (by rw [fl_len]; omega), List.getElem?_eq_none (by rw [fl_len]; omega)]
  · rw [va_up_ne _ _ hb]
    exact (fF_row (S := S) (S' := pR S a k v) rfl rfl rfl (up2_row hb) rfl).symm
theorem set_aI {cA : Nat → ClassId} {S : MM} {a kd k : Nat} {v : Int32} (h : sK S a = kd) (h1 : 10 ≤ kd) (h2 : kd ≤ 11) (b : Nat) : va_up (fF cA S) a (.inl (cA kd, sN S a, .inl (upd (sI S a) k v))) b = fF cA (pI S a k v) b := by
  by_cases hb : b = a
  · subst hb
    rw [va_up_self, fF_int (S := pI S b k v) (kd := kd) h h1 h2]
    show _ = Sum.inl (cA kd, sN S b, Sum.inl (up2 (sI S) b k v b))
    rw [up2_upd]
  · rw [va_up_ne _ _ hb]
    exact (fF_row (S := S) (S' := pI S a k v) rfl rfl (up2_row hb) rfl rfl).symm
theorem set_aR {cA : Nat → ClassId} {S : MM} {a kd k : Nat} {v : Option Nat} (h : sK S a = kd) (h1 : 12 ≤ kd) (h2 : kd ≤ 17) (b : Nat) : va_up (fF cA S) a (.inl (cA kd, sN S a, .inr (.inr (.inr (.inr (va_up (sR S a) k v)))))) b = fF cA (pR S a k v) b := by
  by_cases hb : b = a
  · subst hb
    rw [va_up_self, fF_ref (S := pR S b k v) (kd := kd) h h1 h2]
    show _ = Sum.inl (cA kd, sN S b, Sum.inr (Sum.inr (Sum.inr (Sum.inr (up2 (sR S) b k v b)))))
    rw [up2_va]
  · rw [va_up_ne _ _ hb]
    exact (fF_row (S := S) (S' := pR S a k v) rfl rfl rfl (up2_row hb) rfl).symm
theorem set_aJ {cA : Nat → ClassId} {S : MM} {a k : Nat} {v : Int64} (h : sK S a = 18) (b : Nat) : va_up (fF cA S) a (.inl (cA 18, sN S a, .inr (.inl (vp_updL (sJ S a) k v)))) b = fF cA (pJ S a k v) b := by
  by_cases hb : b = a
  · subst hb
    rw [va_up_self, fF_long (S := pJ S b k v) h]
    show _ = Sum.inl (cA 18, sN S b, Sum.inr (Sum.inl (up2 (sJ S) b k v b)))
    rw [show up2 (sJ S) b k v b = vp_updL (sJ S b) k v from by funext j; simp [up2, vp_updL]]
  · rw [va_up_ne _ _ hb]
    exact (fF_row (S := S) (S' := pJ S a k v) rfl rfl rfl rfl (up2_row hb)).symm
