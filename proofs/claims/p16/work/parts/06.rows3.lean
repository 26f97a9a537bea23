theorem sg_len {ci N : Nat} {Cn : String} {TX : u_T} (h : vwCl[ci]? = some (Cn, TX, N)) : (sg ci).length = N := by
  match ci, h with
  | 0, h => cases h; rfl
  | 1, h => cases h; rfl
  | 2, h => cases h; rfl
  | 3, h => cases h; rfl
  | 4, h => cases h; rfl
  | 5, h => cases h; rfl
  | 6, h => cases h; rfl
  | 7, h => cases h; rfl
  | 8, h => cases h; rfl
  | n + 9, h => cases h
theorem fl_new {ci N : Nat} {Cn : String} {TX : u_T} {ty : Nat → FieldType} (h : vwCl[ci]? = some (Cn, TX, N)) (hd : ∀ j, j < N → defaultValue (ty j) = if (sg ci).getD j false then Value.null else .int 0) (S : MM) (q kd n : Nat) : ∀ j, j < N → defaultValue (ty j) = vp_V (fl ci (nw S q kd n) q) j := by
  intro j hj
  rw [hd j hj]
  unfold vp_V
  have e1 : (fl ci (nw S q kd n) q).getD j .null = fv ci (nw S q kd n) q j := by
    rw [List.getD_eq_getElem?_getD, fl_at _ _ (by rw [sg_len h]; exact hj)]
    rfl
  rw [e1]
  unfold fv
  rw [sR_nw, sI_nw]
  unfold cl2
  simp [va_rf]
theorem x_new {T : Ct} {cc : ByteArray} {nL : Nat} {own : String} {MC MS pc : Nat} {Qf : State → Prop} (C : Cx T cc nL own MC MS) {idx ci N : Nat} {Cn : String} {TX : u_T} {k : Kt} (hcl : vwCl[ci]? = some (Cn, TX, N)) (hci : ci < 9) (hin : ∀ w ∈ u_ws Cn TX N, w ∈ TT) (ty0 : Nat → FieldType) (hty : ∀ k, k < N → parseFieldDescriptor (TX k).2.2.1 = some (ty0 k)) (hd : ∀ j, j < N → defaultValue (ty0 j) = if (sg ci).getD j false then Value.null else .int 0) (h1 : Cond.classLink own idx Cn ∈ TT) (h2 : Cond.instantiable Cn N ∈ TT) (h3 : Cond.initialized Cn ∈ TT) (d : decode cc pc = .ok (.new idx, 3)) (h : Sd T nL Qf MC MS (pc + 3) k) : Sd T nL Qf MC MS pc (nO ci MC MS k) := by
  obtain ⟨p, l, e, R, s, m, args, below, meth, c, D, cA, base⟩ := T
  intro H locs ls lv st S cz zz hk hw hS hl hc hz
  obtain ⟨hx, hb, hml, hown, hts, hg, hlk, hRc, hRs⟩ := C
  obtain ⟨⟨hk1, hk2⟩, hk⟩ := hk
  have hlen := sg_len hcl
  generalize hf : fl ci (nw M0 0 0 0) 0 = fs at *
  have hfs : ∀ q kd n, fl ci (nw S q kd n) q = fs := by
    intro q kd n
    rw [← hf]
    unfold fl
    congr 1
    funext j
    unfold fv
    rw [sR_nw, sI_nw, sR_nw, sI_nw]
    unfold cl2
    simp
  refine va_new (D := D) (ci := ci) (fs := fs) hx hb hts hin ty0 hty hown (hts _ h1) (hts _ h2) (hts _ h3) hg.1 (wd_P hw) (wd_D hw) hS (fun q hq => Nat.le_trans hg.2.1 hq) hcl (by rw [← hfs 0 0 0]; exact fl_new hcl hd S 0 0 0) (by rw [hRc]; exact hk1) (by rw [hRs, ← hlen]; exact hk2) d (fun q H1 g1 g2 g3 => ?_)
  obtain ⟨hq0, hw1⟩ := wd_new (kd := ci + 1) (n := 0) hw (by rw [fF_obj (ci := ci) (by rw [sK_nw, va_up_self]) hci, hfs]) g2 g1
  rw [← hlen]
  exact h _ _ _ _ _ _ _ _ (hk q hq0) hw1 g3 hl hk1 hk2
theorem tyA_one {cA : Nat → ClassId} {D : va_G} {s : State} {c2 : ClassId} {kd t0 : Nat} {ty : FieldType} (h : va_K D vwCl (tyA cA ++ [(c2, ty)]) s) (ht : (tyA cA)[t0]? = some (cA kd, ty)) (hlen : (tyA cA).length = 9) : c2 = cA kd := by
  have h1 := (h.2 9 (c2, ty) (by rw [List.getElem?_append_right (by omega), hlen]; rfl)).2
  have ht0 : t0 < 9 := by rw [← hlen]; exact (List.getElem?_eq_some_iff.mp ht).1
  have h2 := (h.2 t0 (cA kd, ty) (by rw [List.getElem?_append_left (by omega)]; exact ht)).2
  cases ty with
  | object C =>
    obtain ⟨_, _, _, _, _, a1⟩ := h1
    obtain ⟨_, _, _, _, _, a2⟩ := h2
    exact Option.some.inj (a1.symm.trans a2)
  | _ => exact Option.some.inj (h1.symm.trans h2)
theorem x_newI {T : Ct} {cc : ByteArray} {nL : Nat} {own : String} {MC MS pc : Nat} {Qf : State → Prop} (C : Cx T cc nL own MC MS) {k : Kt} (h1 : Cond.arrayClass .int ∈ TT) (d : decode cc pc = .ok (.newarray .int, 2)) (h : Sd T nL Qf MC MS (pc + 2) k) : Sd T nL Qf MC MS pc (nA 10 MC MS k) := by
  obtain ⟨p, l, e, R, s, m, args, below, meth, c, D, cA, base⟩ := T
  intro H locs ls lv st S cz zz hk hw hS hl hc hz
  obtain ⟨hx, hb, hml, hown, hts, hg, hlk, hRc, hRs⟩ := C
  unfold nA at hk
  split at hk
  · next n r =>
    obtain ⟨hn, ⟨hb9, hk1, hk2⟩, hk⟩ := hk
    refine va_newa (atype := .int) (ty := .int) (a0 := (n.toNatClampNeg, .inl (fun _ => 0))) hx hb (hts _ h1) rfl hg.1 (wd_P hw) (wd_D hw) hS (fun q hq => Nat.le_trans hg.2.1 hq) (fun _ => rfl) hn rfl (by show _ * 4 ≤ _; omega) (by rw [hRc]; exact hk1) (by rw [hRs]; exact hk2) d (fun q c2 H1 g0 g1 g2 g3 => ?_)
    have hc2 : c2 = cA 10 := tyA_one (t0 := 0) g0 rfl rfl
    subst hc2
    obtain ⟨hq0, hw1⟩ := wd_new (kd := 10) (n := n.toNatClampNeg) hw (by rw [fF_int (kd := 10) (by rw [sK_nw, va_up_self]) (by omega) (by omega), sN_nw, va_up_self, sI_nw]; congr 3; congr 1; funext j; unfold cl2; simp) g2 g1
    exact h _ _ _ _ _ _ _ _ (hk q hq0) hw1 g3 hl hk1 hk2
  · exact hk.elim
theorem x_newZ {T : Ct} {cc : ByteArray} {nL : Nat} {own : String} {MC MS pc : Nat} {Qf : State → Prop} (C : Cx T cc nL own MC MS) {k : Kt} (h1 : Cond.arrayClass .boolean ∈ TT) (d : decode cc pc = .ok (.newarray .boolean, 2)) (h : Sd T nL Qf MC MS (pc + 2) k) : Sd T nL Qf MC MS pc (nA 11 MC MS k) := by
  obtain ⟨p, l, e, R, s, m, args, below, meth, c, D, cA, base⟩ := T
  intro H locs ls lv st S cz zz hk hw hS hl hc hz
  obtain ⟨hx, hb, hml, hown, hts, hg, hlk, hRc, hRs⟩ := C
  unfold nA at hk
  split at hk
  · next n r =>
    obtain ⟨hn, ⟨hb9, hk1, hk2⟩, hk⟩ := hk
    refine va_newa (atype := .boolean) (ty := .boolean) (a0 := (n.toNatClampNeg, .inl (fun _ => 0))) hx hb (hts _ h1) rfl hg.1 (wd_P hw) (wd_D hw) hS (fun q hq => Nat.le_trans hg.2.1 hq) (fun _ => rfl) hn rfl (by show _ * 1 ≤ _; omega) (by rw [hRc]; exact hk1) (by rw [hRs]; exact hk2) d (fun q c2 H1 g0 g1 g2 g3 => ?_)
    have hc2 : c2 = cA 11 := tyA_one (t0 := 1) g0 rfl rfl
    subst hc2
    obtain ⟨hq0, hw1⟩ := wd_new (kd := 11) (n := n.toNatClampNeg) hw (by rw [fF_int (kd := 11) (by rw [sK_nw, va_up_self]) (by omega) (by omega), sN_nw, va_up_self, sI_nw]; congr 3; congr 1; funext j; unfold cl2; simp) g2 g1
    exact h _ _ _ _ _ _ _ _ (hk q hq0) hw1 g3 hl hk1 hk2
  · exact hk.elim
theorem x_newJ {T : Ct} {cc : ByteArray} {nL : Nat} {own : String} {MC MS pc : Nat} {Qf : State → Prop} (C : Cx T cc nL own MC MS) {k : Kt} (h1 : Cond.arrayClass .long ∈ TT) (d : decode cc pc = .ok (.newarray .long, 2)) (h : Sd T nL Qf MC MS (pc + 2) k) : Sd T nL Qf MC MS pc (nA 18 MC MS k) := by
  obtain ⟨p, l, e, R, s, m, args, below, meth, c, D, cA, base⟩ := T
  intro H locs ls lv st S cz zz hk hw hS hl hc hz
  obtain ⟨hx, hb, hml, hown, hts, hg, hlk, hRc, hRs⟩ := C
  unfold nA at hk
  split at hk
  · next n r =>
    obtain ⟨hn, ⟨hb9, hk1, hk2⟩, hk⟩ := hk
    refine va_newa (atype := .long) (ty := .long) (a0 := (n.toNatClampNeg, .inr (.inl (fun _ => 0)))) hx hb (hts _ h1) rfl hg.1 (wd_P hw) (wd_D hw) hS (fun q hq => Nat.le_trans hg.2.1 hq) (fun _ => rfl) hn rfl (by show _ * 8 ≤ _; omega) (by rw [hRc]; exact hk1) (by rw [hRs]; exact hk2) d (fun q c2 H1 g0 g1 g2 g3 => ?_)
    have hc2 : c2 = cA 18 := tyA_one (t0 := 8) g0 rfl rfl
    subst hc2
    obtain ⟨hq0, hw1⟩ := wd_new (kd := 18) (n := n.toNatClampNeg) hw (by rw [fF_long (by rw [sK_nw, va_up_self]), sN_nw, va_up_self, sJ_nw]; congr 3; congr 2; funext j; unfold cl2; simp) g2 g1
    exact h _ _ _ _ _ _ _ _ (hk q hq0) hw1 g3 hl hk1 hk2
  · exact hk.elim
theorem x_newR {T : Ct} {cc : ByteArray} {nL : Nat} {own : String} {MC MS pc : Nat} {Qf : State → Prop} (C : Cx T cc nL own MC MS) {k : Kt} {idx ci t0 : Nat} {Cn : String} (hci : ci < 6) (hmem : Cn ∈ [RX0, RX1, RX2, RX3, RX4, RX5]) (ht0 : ∀ cA : Nat → ClassId, (tyA cA)[t0]? = some (cA (ci + 12), .object Cn)) (h1 : Cond.classLink own idx Cn ∈ TT) (d : decode cc pc = .ok (.anewarray idx, 3)) (h : Sd T nL Qf MC MS (pc + 3) k) : Sd T nL Qf MC MS pc (nA (ci + 12) MC MS k) := by
  obtain ⟨p, l, e, R, s, m, args, below, meth, c, D, cA, base⟩ := T
  intro H locs ls lv st S cz zz hk hw hS hl hc hz
  obtain ⟨hx, hb, hml, hown, hts, hg, hlk, hRc, hRs⟩ := C
  unfold nA at hk
  split at hk
  · next n r =>
    obtain ⟨hn, ⟨hb9, hk1, hk2⟩, hk⟩ := hk
    refine va_newq hx hb hown (hts _ h1) (hg.2.2.2 _ hmem) hg.1 (wd_P hw) (wd_D hw) hS (fun q hq => Nat.le_trans hg.2.1 hq) hn rfl (by omega) (by rw [hRc]; exact hk1) (by rw [hRs]; exact hk2) d (fun q c2 H1 g0 g1 g2 g3 => ?_)
    have hc2 : c2 = cA (ci + 12) := tyA_one (t0 := t0) g0 (ht0 cA) rfl
    subst hc2
    obtain ⟨hq0, hw1⟩ := wd_new (kd := ci + 12) (n := n.toNatClampNeg) hw (by rw [fF_ref (kd := ci + 12) (by rw [sK_nw, va_up_self]) (by omega) (by omega), sN_nw, va_up_self, sR_nw]; congr 3; congr 4; funext j; unfold cl2; simp) g2 g1
    exact h _ _ _ _ _ _ _ _ (hk q hq0) hw1 g3 hl hk1 hk2
  · exact hk.elim
theorem x_lw {T : Ct} {cc : ByteArray} {nL : Nat} {own : String} {MC MS pc : Nat} {Qf : State → Prop} (C : Cx T cc nL own MC MS) {index : Nat} {v : Int32} (hm : Cond.constant own index v ∈ TT) (d : decode cc pc = .ok (.ldc_w index, 3)) {k : Kt} (h : Sd T nL Qf MC MS (pc + 3) k) : Sd T nL Qf MC MS pc (cI v k) := by
  obtain ⟨p, l, e, R, s, m, args, below, meth, c, D, cA, base⟩ := T
  intro H locs ls lv st S cz zz hk hw hS hl hc hz
  obtain ⟨hx, hb, hml, hown, hts, hg, hlk, hRc, hRs⟩ := C
  exact lv_ldcw hx hb hown (hts _ hm) d (h _ _ _ _ _ _ _ _ hk hw hS hl hc hz)
def dead : Kt := fun _ _ _ _ _ => False
theorem x_dead {T : Ct} {nL : Nat} {MC MS pc : Nat} {Qf : State → Prop} : Sd T nL Qf MC MS pc dead := by
  obtain ⟨p, l, e, R, s, m, args, below, meth, c, D, cA, base⟩ := T
  intro H locs ls lv st S cz zz hk
  exact hk.elim
def bsel : List (Nat × Kt) → Nat → Kt
  | [], _ => dead
  | (p, b) :: r, pc => if pc = p then b else bsel r pc
theorem bsel_ok {T : Ct} {nL : Nat} {MC MS : Nat} {Qf : State → Prop} : ∀ (bs : List (Nat × Kt)), (∀ q ∈ bs, Sd T nL Qf MC MS q.1 q.2) → ∀ pc, Sd T nL Qf MC MS pc (bsel bs pc)
  | [], _, pc => x_dead
  | (p, b) :: r, h, pc => by
    unfold bsel
    by_cases hp : pc = p
    · rw [if_pos hp, hp]
      exact h (p, b) List.mem_cons_self
    · rw [if_neg hp]
      exact bsel_ok r (fun q hq => h q (List.mem_cons_of_mem _ hq)) pc
