/-! METHODS THAT THROW: contracts that return or throw; what they need of the start beside gU -/
def isCD (w : Cond) : Bool := match w with
  | .castable _ _ => true
  | .declares _ => true
  | _ => false
def strs : List (Nat × String) := [(32, "no such end, or system is not 1 to 1000000"), (43, "the other end has this system"), (52, "no such end, or limit is not 1 to 8"), (63, "no such end or port, or not 0 to 65535"), (87, "no such end or port"), (92, "no such cable or port, or delay is not 1 to 8"), (98, "another cable is in one of these ports"), (114, "no such cable"), (120, "the cable is not plugged"), (126, "the cable is not plugged, or is so already"), (131, "no such end or cable, or n is not 0 to 100"), (142, "n is not 1 to 1000"), (150, "no such end, or conversation is not 0 to 255"), (213, "no such end or frame")]
def gX (base : Nat) (U : State) : Prop := (∀ w ∈ lw_tbl, isCD w = true → va_Nw w U) ∧ vx_Zq Bundle.tN "UNASSIGNED_STACK" Bundle.steD (aB base) U U.heap ∧ vx_Zq Bundle.tN "SUPPRESSED_SENTINEL" Bundle.listD (aB base) U U.heap ∧ ∀ q ∈ strs, ∃ sa, vk_R RX7 q.1 q.2 sa U
theorem isCD_warm {s U : State} {w : Cond} (hW : s.WarmedH U.vm) (h : isCD w = true) (hw : va_Nw w s) : va_Nw w U := by
  cases w with
  | castable a b => exact va_Nw.warmC hW hw
  | declares x => exact va_Nw.warmD hW hw
  | _ => cases h
theorem gX_at {base : Nat} {s U : State} {H : Heap} {locs : List Loc} (hg : gX base s) (hS : va_S (aB base) s.heap H locs) (hU : U.heap = H) (hW : s.WarmedH U.vm) : gX base U := by
  obtain ⟨h1, h2, h3, h4⟩ := hg
  refine ⟨fun w hw hc => isCD_warm hW hc (h1 w hw hc), ?_, ?_, fun q hq => ?_⟩
  · rw [hU]; exact vx_Zq.moved hW.alike (h2.kept hS.2.1)
  · rw [hU]; exact vx_Zq.moved hW.alike (h3.kept hS.2.1)
  · obtain ⟨sa, h⟩ := h4 q hq
    exact ⟨sa, vk_R.warm hW h⟩
def wX (D : va_G) (cA : Nat → ClassId) (base : Nat) (S : MM) (U : State) : Prop := wU D cA base S U ∧ gX base U
theorem wX_blind {D : va_G} {cA : Nat → ClassId} {base : Nat} {S : MM} {as : List Value} : FrameBlind (va_Pc as (wX D cA base S)) := fun a U g mk h => by
  obtain ⟨h1, h2, h3, h4, h5, h6⟩ := h
  have hb := wU_blind (as := as) a U g mk ⟨h1, h2⟩
  refine ⟨hb.1, hb.2, fun w hw hc => va_Nw.same (u := U) (U := U.calling g mk a) ?_ rfl (h3 w hw hc), vx_Zq.moved (u := U) (U := U.calling g mk a) (Vm.Alike.refl U.vm) h4, vx_Zq.moved (u := U) (U := U.calling g mk a) (Vm.Alike.refl U.vm) h5, fun q hq => ?_⟩
  · cases w <;> first | rfl | cases hc
  · obtain ⟨sa, h⟩ := h6 q hq
    exact ⟨sa, vk_R.same rfl h⟩
def xR (D : va_G) (cA : Nat → ClassId) (base : Nat) (X : String → MM → Prop) : String → State → State → Prop := fun E st t => (∃ S', X E S' ∧ wd D cA base S' t.heap) ∧ va_F (aB base) st t
abbrev Mx : Type := List Value → MM → (Option Value → MM → Prop) → (String → MM → Prop) → Prop
def McX (l : Launch) (D : va_G) (cA : Nat → ClassId) (base : Nat) (y : MethodName) (cc : ByteArray) (nL : Nat) (ret : Option FieldType) (rm : Room) (w : Mx) : Prop := ∀ as S Q X, w as S Q X → vx_Met l y (wsT y cc nL ret) rm (va_Pc as (wX D cA base S)) (qR D cA base Q) (xR D cA base X) rm.cells rm.slots (aB base)
def QX (T : Ct) (Q : Option Value → MM → Prop) (X : String → MM → Prop) (MC MS : Nat) : State → Prop := match T with
  | (_, _, _, _, s, _, args, below, _, _, D, cA, base) => vx_MQ below (qR D cA base Q) (xR D cA base X) args s MC MS (aB base)
theorem x_up {T : Ct} {nL MC MS pc : Nat} {Q : Option Value → MM → Prop} {X : String → MM → Prop} {k : Kt} (h : Sd T nL (QT T Q MC MS) MC MS pc k) : Sd T nL (QX T Q X MC MS) MC MS pc k := by
  obtain ⟨p, l, e, R, s, m, args, below, meth, c, D, cA, base⟩ := T
  intro H locs ls lv st S cz zz hk hw hS hl hc hz
  exact vx_ret (h H locs ls lv st S cz zz hk hw hS hl hc hz)
def thr (E : String) (X : String → MM → Prop) (MC MS : Nat) : Kt := fun _ st S c z => match st with
  | [] => (c + 1 ≤ MC ∧ z + 6 ≤ MS) ∧ X E S
  | _ => False
/-- what a method that may throw has beside Cx -/
def CxX (T : Ct) : Prop := match T with
  | (_, l, _, _, s, _, _, _, _, c, _, _, base) => l.stackTraces = false ∧ (∀ x ∈ c.exceptionTable.toList, False) ∧ gX base s
def exN : List String := ["java/lang/RuntimeException", "java/lang/Exception"]
theorem x_thr {T : Ct} {cc : ByteArray} {nL : Nat} {MC MS pc FR LR : Nat} {Q : Option Value → MM → Prop} {X : String → MM → Prop} (C : Cx T cc nL RX7 MC MS) (CR : CxR T FR LR) (CX : CxX T) (h1 : 6 ≤ FR) (h2 : 82 ≤ LR) {E text : String} {ik is ic : Nat} (hfit : Bundle.fit E = true) (hk0 : Cond.classLink RX7 ik E ∈ TT) (hini : Cond.initialized E ∈ TT) (hstr : (is, text) ∈ strs) (hat : ∀ w ∈ vx_atS RX7 ic E exN, w ∈ lw_tbl ∧ (goodWord w = true ∨ isCD w = true))
    (d0 : decode cc pc = .ok (.new ik, 3)) (d3 : decode cc (pc + 3) = .ok (.dup, 1)) (d4 : decode cc (pc + 4) = .ok (.ldc is, 2)) (d6 : decode cc (pc + 6) = .ok (.invokespecial ic, 3)) (d9 : decode cc (pc + 9) = .ok (.athrow, 1)) : Sd T nL (QX T Q X MC MS) MC MS pc (thr E X MC MS) := by
  obtain ⟨p, l, e, R, s, m, args, below, meth, c, D, cA, base⟩ := T
  intro H locs ls lv st S cz zz hk hw hS hl hc hz
  obtain ⟨hx, hb, hml, hown, hts, hg, hlk, hRc, hRs⟩ := C
  obtain ⟨hst, htab, g1, g2, g3, g4⟩ := CX
  unfold thr at hk
  split at hk
  · obtain ⟨⟨k1, k2⟩, hk⟩ := hk
    obtain ⟨sa, hsa⟩ := g4 _ hstr
    have e1 : R.frames = FR := CR.1
    have e2 : R.locals = LR := CR.2
    have hall : ∀ w ∈ vx_atS RX7 ic E exN, w.before args s = true := fun w hw => by
      rcases (hat w hw).2 with h | h
      · exact hts w (List.mem_filter.mpr ⟨(hat w hw).1, h⟩)
      · exact va_Nw.use (by cases w <;> first | rfl | cases h) (g1 w (hat w hw).1 h)
    refine vx_throwS (A := aB base) (names := exN) hx hb hst hown hfit (by decide +kernel) (hts _ hk0) (hts _ hini) hsa hall ?_ g2 g3 hS (hl.1.trans hml.symm) d0 d3 d4 d6 d9 (fun x hx => (htab x hx).elim) (by show 2 + 3 < _; omega) (by show 0 + (13 * (2 + 1) + 43) ≤ _; omega) (by rw [hRc]; exact k1) (by rw [hRs]; exact k2) hlk ?_ hS.2.2 k1 k2
    · intro w hw
      rcases List.mem_cons.mp hw with rfl | hw
      · rfl
      · rcases List.mem_cons.mp hw with rfl | hw
        · rfl
        · rcases (hat w hw).2 with h | h
          · unfold vx_ot; rw [h, Bool.or_true]
          · cases w <;> first | rfl | cases h
    · intro t hal hsz hold
      exact ⟨⟨S, hk, wd_kept hw hold⟩, ⟨Nat.le_trans hS.1 hsz, fun q h1 h2 => (hold q (Nat.lt_of_lt_of_le h1 hS.1)).trans (hS.2.1 q h1 h2)⟩⟩
  · exact hk.elim
def mx (nL : Nat) (b : (Option Value → MM → Prop) → (String → MM → Prop) → (Nat → Kt) → Nat → Kt) : Mx := fun as S Q X => match Nat.ble (lg_sl as).length nL with
  | true => ∃ n, wpn (b Q X) n 0 (lv_args 0 as) [] S 0 0
  | false => False
theorem mcX_of {l : Launch} (hst : l.stackTraces = false) {D : va_G} {cA : Nat → ClassId} {base : Nat} {y : MethodName} {cc : ByteArray} {nL : Nat} {ret : Option FieldType} {rm : Room} (hy : plainName y.cls = true) (b : (Option Value → MM → Prop) → (String → MM → Prop) → (Nat → Kt) → Nat → Kt)
    (hb : ∀ (T : Ct) (Q : Option Value → MM → Prop) (X : String → MM → Prop), Cx T cc nL y.cls rm.cells rm.slots → CxR T rm.frames rm.locals → CxX T → T.2.2.2.2.2.2.2.2.1.sig.returnType = ret → T.2.2.2.2.2.2.2.2.1.name = y.name → ∀ nx : Nat → Kt, (∀ pc, Sd T nL (QX T Q X rm.cells rm.slots) rm.cells rm.slots pc (nx pc)) → ∀ pc, Sd T nL (QX T Q X rm.cells rm.slots) rm.cells rm.slots pc (b Q X nx pc)) : McX l D cA base y cc nL ret rm (mx nL b) := by
  intro as S Q X hwp
  unfold mx at hwp
  split at hwp
  case h_2 => exact hwp.elim
  case h_1 hbl =>
  have hsl : (lg_sl as).length ≤ nL := Nat.le_of_ble_eq_true hbl
  obtain ⟨n, hwp⟩ := hwp
  refine vx_ofW (cc := cc) (maxL := nL) (ret := ret) hy rfl ?_
  intro p e s m args below meth c s₁ B hml htab hv
  obtain ⟨rfl, ⟨hw, hg⟩, hgx⟩ := hv
  have hts : ∀ w ∈ wsT y cc nL ret, w.before as.toArray s = true := atoms_spec (ws := wsT y cc nL ret) B.pre
  have hC : Cx (p, l, e, rm, s, m, as.toArray, below, meth, c, D, cA, base) cc nL y.cls rm.cells rm.slots := ⟨B.exec, B.bytes, hml, findClass_of_methodNamed B.named, fun w h => hts w (List.mem_cons_of_mem _ h), hg, B.notSynchronized, rfl, rfl⟩
  have key : ∀ n pc, Sd (p, l, e, rm, s, m, as.toArray, below, meth, c, D, cA, base) nL (QX (p, l, e, rm, s, m, as.toArray, below, meth, c, D, cA, base) Q X rm.cells rm.slots) rm.cells rm.slots pc (wpn (b Q X) n pc) := by
    intro n
    induction n with
    | zero => intro pc H locs ls lv st S cz zz hk; exact hk.elim
    | succ n ih => intro pc; exact hb _ Q X hC ⟨rfl, rfl⟩ ⟨hst, htab, hgx⟩ B.returns (name_of_methodNamed B.named B.method).1 _ ih pc
  have hl := lv_entry as (n := nL) hsl
  rw [lg_entry_eq]
  generalize (lg_sl as ++ List.replicate (nL - (lg_sl as).length) Slot.unset).toArray = ls at hl ⊢
  exact key n 0 s.heap [] ls (lv_args 0 as) [] S 0 0 hwp hw va_S.rf hl (Nat.zero_le _) (Nat.zero_le _)
