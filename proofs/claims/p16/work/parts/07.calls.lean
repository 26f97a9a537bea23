def CxR (T : Ct) (FR LR : Nat) : Prop := T.2.2.2.1.frames = FR ∧ T.2.2.2.1.locals = LR
def qR (D : va_G) (cA : Nat → ClassId) (base : Nat) (Q : Option Value → MM → Prop) : Array Value → State → Outcome → State → Prop := fun _ st o t => (∃ (v : Option Value) (S' : MM), o = .returned v ∧ Q v S' ∧ wU D cA base S' t) ∧ va_F (aB base) st t
/-- a method's contract, out of what its code says of memory and answer -/
def Mc (l : Launch) (D : va_G) (cA : Nat → ClassId) (base : Nat) (y : MethodName) (cc : ByteArray) (nL : Nat) (ret : Option FieldType) (rm : Room) (w : Mw) : Prop := ∀ as S Q, w as S Q → Met l y (wsT y cc nL ret) rm (va_Pc as (wU D cA base S)) (qR D cA base Q) rm.cells rm.slots (aB base)
def QT (T : Ct) (Q : Option Value → MM → Prop) (MC MS : Nat) : State → Prop := match T with
  | (_, _, _, _, s, _, args, below, _, _, D, cA, base) => MQ below (qR D cA base Q) args s MC MS (aB base)
theorem gU_warm {D : va_G} {cA : Nat → ClassId} {base : Nat} {s U : State} {H : Heap} {locs : List Loc} (hg : gU D cA base s) (hS : va_S (aB base) s.heap H locs) (hU : U.heap = H) (hW : s.WarmedH U.vm) : gU D cA base U := ⟨va_K.moved hW.alike hg.1, by rw [hU]; exact Nat.le_trans hg.2.1 hS.1, gN_warm hW hg.2.2⟩
theorem wU_at {D : va_G} {cA : Nat → ClassId} {base : Nat} {s U : State} {H : Heap} {locs : List Loc} {S : MM} (hg : gU D cA base s) (hw : wd D cA base S H) (hS : va_S (aB base) s.heap H locs) (hU : U.heap = H) (hW : s.WarmedH U.vm) : wU D cA base S U := ⟨by rw [hU]; exact hw, gU_warm hg hS hU hW⟩
theorem wU_blind {D : va_G} {cA : Nat → ClassId} {base : Nat} {S : MM} {as : List Value} : FrameBlind (va_Pc as (wU D cA base S)) := fun a U g mk h => ⟨h.1, h.2.1, va_K.moved (u := U) (U := U.calling g mk a) (Vm.Alike.refl U.vm) h.2.2.1, h.2.2.2.1, fun q hq => va_Nw.same rfl rfl (h.2.2.2.2.1 q hq), fun C hC => va_AO.moved (u := U) (U := U.calling g mk a) (Vm.Alike.refl U.vm) (h.2.2.2.2.2 C hC)⟩
theorem k_run {p : Program} {l : Launch} {e : Env} {R : Room} {s : State} {m : MethodId} {args : Array Value} {below : List Frame} {meth : Method} {c : Code} {H : Heap} {locs : List Loc} {cells slots : Nat} {Qf : State → Prop} {D : va_G} {cA : Nat → ClassId} {base : Nat} {pc : Nat} {ls : Array Slot} {st0 rest : List Value} {a : Array Value} {mc ms : Nat} {Q : Option Value → MM → Prop}
    (hr : va_Run p l e R s m args below meth c H locs cells slots mc ms (F0 m pc ls st0) rest (qR D cA base Q a) (aB base)) (hS : va_S (aB base) s.heap H locs)
    (kk : ∀ (v : Option Value) (S' : MM) (H1 : Heap) (locs1 : List Loc), Q v S' → wd D cA base S' H1 → va_S (aB base) s.heap H1 locs1 → W p l e R s m args below meth c H1 locs1 (cells + mc) (slots + ms) Qf (F0 m (pc + 3) ls (v.toList ++ rest))) : W p l e R s m args below meth c H locs cells slots Qf (F0 m pc ls st0) := by
  intro T hT X
  obtain ⟨v, st₀, t, T', L, h0, X', hL, e1, e2, ⟨⟨v', S', hv, hp, hb⟩, hz, hk⟩, st⟩ := hr T hT X
  cases hv
  rw [h0] at hz hk
  obtain ⟨t2, a1, b1⟩ := kk v S' T'.heap (locs ++ L) hp (by rw [e1]; exact hb.1)
    ⟨Nat.le_trans hS.1 (by rw [e1]; exact hz), fun q h1 h2 => by rw [e1, hk q (Nat.lt_of_lt_of_le h1 hS.1) h2]; exact hS.2.1 q h1 h2, fun q hq => by
      rcases List.mem_append.mp hq with h | h
      · exact hS.2.2 q h
      · exact hL q h⟩ T' rfl X'
  exact ⟨t2, st t2 a1, b1⟩
theorem cat8_room {m : MethodId} {pc : Nat} {ls : Array Slot} {st rest : List Value} (h : cat8 rest = true) : 2 * (F0 m pc ls st).monitorRoom + (rest.map fun v => v.category).sum ≤ 8 := lv_room (Nat.le_of_ble_eq_true h)
def Wd (y : MethodName) (cc : ByteArray) (nL n : Nat) (ret : Option FieldType) (rm : Room) (FR LR : Nat) : Prop := Cond.code y cc nL ret ∈ TT ∧ Cond.initialized y.cls ∈ TT ∧ (y.cls ≠ "java/lang/invoke/MethodHandle" ∧ y.cls ≠ "java/lang/invoke/VarHandle" ∧ (parseMethodDescriptor y.desc).map (fun d => d.parameters.length) = some n) ∧ rm.frames + 1 ≤ FR ∧ 8 + (nL + 11) + rm.locals ≤ LR
theorem TT_wsT {y : MethodName} {cc : ByteArray} {nL : Nat} {ret : Option FieldType} (h : Cond.code y cc nL ret ∈ TT) : GoodIn TT (wsT y cc nL ret) := TT_good (fun _ h => h) (fun w hw => by
  rcases List.mem_cons.mp hw with e | e
  · rw [e]; exact h
  · exact e)
theorem CB {T : Ct} {cc : ByteArray} {nL : Nat} {own : String} {MC MS : Nat} {FR LR : Nat} (C : Cx T cc nL own MC MS) (CR : CxR T FR LR) {y : MethodName} {cy : ByteArray} {ny n idx : Nat} {ret : Option FieldType} {rm : Room} (hW : Wd y cy ny n ret rm FR LR) (hl : Cond.methodLink own idx y ∈ TT) : CallB T.2.2.2.1 T.2.2.2.2.1 T.2.2.2.2.2.2.1 own idx y cy ny ret (wsT y cy ny ret) rm rm.cells rm.slots n := by
  obtain ⟨p, l, e, R, s, m, args, below, meth, c, D, cA, base⟩ := T
  obtain ⟨hx, hb, hml, hown, hts, hg, hlk, hRc, hRs⟩ := C
  obtain ⟨h1, h2, h3, h4, h5⟩ := hW
  exact callB_of n hts (TT_wsT h1) rfl rfl rfl (hts _ h2) (hts _ hl) h3 ⟨by rw [CR.1]; exact h4, by rw [CR.2]; exact h5⟩
theorem x_cS {T : Ct} {cc : ByteArray} {nL : Nat} {own : String} {MC MS pc FR LR : Nat} {Qf : State → Prop} (C : Cx T cc nL own MC MS) (CR : CxR T FR LR) {y : MethodName} {cy : ByteArray} {ny n idx : Nat} {ret : Option FieldType} {rm : Room} {w : Mw} (hM : ∀ l D cA base, Mc l D cA base y cy ny ret rm w) (hW : Wd y cy ny n ret rm FR LR) (hl : Cond.methodLink own idx y ∈ TT) (hs : Cond.static y ∈ TT) {k : Kt} (d : decode cc pc = .ok (.invokestatic idx, 3)) (h : Sd T nL Qf MC MS (pc + 3) k) : Sd T nL Qf MC MS pc (cS n w rm.cells rm.slots MC MS k) := by
  have cb := CB C CR hW hl
  obtain ⟨p, l, e, R, s, m, args, below, meth, c, D, cA, base⟩ := T
  intro H locs ls lv st S cz zz hk hw hS hl0 hc hz
  obtain ⟨hx, hb, hml, hown, hts, hg, hlk, hRc, hRs⟩ := C
  unfold cS at hk
  split at hk
  · next hok =>
    obtain ⟨⟨k1, k2⟩, hk⟩ := hk
    refine k_run (va_runS (As := (st.take n).reverse) (rest := st.drop n) ⟨hx, hb, hml, hown, hts⟩ (hM l D cA base _ _ _ hk) ⟨cb, hts _ hs⟩ ⟨wU_blind, fun U hU hW2 => ⟨rfl, wU_at hg hw hS hU hW2⟩⟩ rfl (by rw [List.length_reverse]; exact okS_2 hok) hl0.1 (by rw [List.reverse_reverse, List.take_append_drop]) (cat8_room (okS_1 hok)) d ⟨by rw [hRc]; exact k1, by rw [hRs]; exact k2⟩) hS (fun v S' H1 locs1 hq hw1 hS1 => ?_)
    exact h _ _ _ _ _ _ _ _ hq hw1 hS1 hl0 k1 k2
  · exact hk.elim
theorem st_split {n : Nat} {st As : List Value} {v : Value} (h : (st.take (n + 1)).reverse = v :: As) (hn : (st.take (n + 1)).length = n + 1) : st = As.reverse ++ v :: st.drop (n + 1) ∧ As.length = n := by
  have h1 : st.take (n + 1) = As.reverse ++ [v] := by
    have := congrArg List.reverse h
    rw [List.reverse_reverse, List.reverse_cons] at this
    exact this
  refine ⟨?_, ?_⟩
  · have h2 := List.take_append_drop (n + 1) st
    rw [h1] at h2
    rw [List.append_assoc] at h2
    exact h2.symm
  · rw [h1] at hn
    simp at hn
    exact hn
theorem x_cV {T : Ct} {cc : ByteArray} {nL : Nat} {own : String} {MC MS pc FR LR : Nat} {Qf : State → Prop} (C : Cx T cc nL own MC MS) (CR : CxR T FR LR) {y : MethodName} {cy : ByteArray} {ny n idx ci N : Nat} {TX : u_T} {ret : Option FieldType} {rm : Room} {w : Mw} (hM : ∀ l D cA base, Mc l D cA base y cy ny ret rm w) (hW : Wd y cy ny n ret rm FR LR) (hcl : vwCl[ci]? = some (y.cls, TX, N)) (hci : ci < 9) (hl : Cond.methodLink own idx y ∈ TT) (hi : Cond.instanceMethod y ∈ TT) (hs : Cond.selects y.cls y y ∈ TT) {k : Kt} (d : decode cc pc = .ok (.invokevirtual idx, 3)) (h : Sd T nL Qf MC MS (pc + 3) k) : Sd T nL Qf MC MS pc (cV n ci w rm.cells rm.slots MC MS k) := by
  have cb := CB C CR hW hl
  obtain ⟨p, l, e, R, s, m, args, below, meth, c, D, cA, base⟩ := T
  intro H locs ls lv st S cz zz hk hw hS hl0 hc hz
  obtain ⟨hx, hb, hml, hown, hts, hg, hlk, hRc, hRs⟩ := C
  unfold cV at hk
  split at hk
  · next b As hok hrev =>
    obtain ⟨hka, ⟨k1, k2⟩, hk⟩ := hk
    obtain ⟨hst, hln⟩ := st_split hrev (okS_2 hok)
    have hP : va_P D vwCl [(b, fF cA S b)] H := fun k2 q hq => by
      have hz2 : k2 < 1 := (List.getElem?_eq_some_iff.mp hq).1
      rw [show k2 = 0 by omega] at hq
      cases hq
      exact (hw b (by rw [hka]; omega)).2
    rw [fF_obj hka hci] at hP
    refine k_run (va_runV (C := y.cls) (As := As) (b := b) (rest := st.drop (n + 1)) ⟨hx, hb, hml, hown, hts⟩ (hM l D cA base _ _ _ hk) ⟨cb, hts _ hi, hts _ hs⟩ ⟨wU_blind, va_recv hg.1 hP (ci := ci) (q0 := 0) hcl rfl, fun U hU hW2 => ⟨rfl, wU_at hg hw hS hU hW2⟩⟩ rfl hln hl0.1 hst (cat8_room (okS_1 hok)) d ⟨by rw [hRc]; exact k1, by rw [hRs]; exact k2⟩) hS (fun v S' H1 locs1 hq hw1 hS1 => ?_)
    exact h _ _ _ _ _ _ _ _ hq hw1 hS1 hl0 k1 k2
  · exact hk.elim
theorem x_cC {T : Ct} {cc : ByteArray} {nL : Nat} {own : String} {MC MS pc FR LR : Nat} {Qf : State → Prop} (C : Cx T cc nL own MC MS) (CR : CxR T FR LR) {y : MethodName} {cy : ByteArray} {ny n idx : Nat} {rm : Room} {w : Mw} (hM : ∀ l D cA base, Mc l D cA base y cy ny none rm w) (hW : Wd y cy ny n none rm FR LR) (hl : Cond.methodLink own idx y ∈ TT) (hi : Cond.instanceMethod y ∈ TT) (hy : y.name = "<init>") {k : Kt} (d : decode cc pc = .ok (.invokespecial idx, 3)) (h : Sd T nL Qf MC MS (pc + 3) k) : Sd T nL Qf MC MS pc (cC n w rm.cells rm.slots MC MS k) := by
  have cb := CB C CR hW hl
  obtain ⟨p, l, e, R, s, m, args, below, meth, c, D, cA, base⟩ := T
  intro H locs ls lv st S cz zz hk hw hS hl0 hc hz
  obtain ⟨hx, hb, hml, hown, hts, hg, hlk, hRc, hRs⟩ := C
  unfold cC at hk
  split at hk
  · next b As hok hrev =>
    obtain ⟨⟨k1, k2⟩, hk⟩ := hk
    obtain ⟨hst, hln⟩ := st_split hrev (okS_2 hok)
    refine k_run (va_runI (As := As) (b := b) (rest := st.drop (n + 1)) ⟨hx, hb, hml, hown, hts⟩ (hM l D cA base _ _ _ hk) ⟨cb, hy, hts _ hi⟩ ⟨wU_blind, fun U hU hW2 => ⟨rfl, wU_at hg hw hS hU hW2⟩⟩ rfl hln hl0.1 hst (cat8_room (okS_1 hok)) d ⟨by rw [hRc]; exact k1, by rw [hRs]; exact k2⟩) hS (fun v S' H1 locs1 hq hw1 hS1 => ?_)
    exact h _ _ _ _ _ _ _ _ hq hw1 hS1 hl0 k1 k2
  · exact hk.elim
/-- a constructor of a nest mate -/
theorem x_cN {T : Ct} {cc : ByteArray} {nL : Nat} {own : String} {MC MS pc FR LR : Nat} {Qf : State → Prop} (C : Cx T cc nL own MC MS) (CR : CxR T FR LR) {y : MethodName} {cy : ByteArray} {ny n idx : Nat} {rm : Room} {w : Mw} (hM : ∀ l D cA base, Mc l D cA base y cy ny none rm w) (hW : Wd y cy ny n none rm FR LR) (hl : ((own, idx, y) : String × Nat × MethodName) ∈ [((RX1, 28, yX5_init) : String × Nat × MethodName), (RX5, 11, yX6_init), (RX3, 23, yX4_init), (RX4, 9, yX6_init), (RX3, 57, yX2_init)]) (hi : Cond.instanceMethod y ∈ TT) (hy : y.name = "<init>") {k : Kt} (d : decode cc pc = .ok (.invokespecial idx, 3)) (h : Sd T nL Qf MC MS (pc + 3) k) : Sd T nL Qf MC MS pc (cC n w rm.cells rm.slots MC MS k) := by
  obtain ⟨p, l, e, R, s, m, args, below, meth, c, D, cA, base⟩ := T
  intro H locs ls lv st S cz zz hk hw hS hl0 hc hz
  obtain ⟨hx, hb, hml, hown, hts, hg, hlk, hRc, hRs⟩ := C
  obtain ⟨w1, w2, w3, w4, w5⟩ := hW
  unfold cC at hk
  split at hk
  · next b As hok hrev =>
    obtain ⟨⟨k1, k2⟩, hk⟩ := hk
    obtain ⟨hst, hln⟩ := st_split hrev (okS_2 hok)
    refine k_run (va_runIN (host := RX7) (As := As) (b := b) (rest := st.drop (n + 1)) ⟨hx, hb, hml, hown, hts⟩ (hM l D cA base _ _ _ hk) ⟨va_cnB n hts (TT_wsT w1) rfl rfl rfl (hg.2.2.1 _ hl) (hts _ w2) w3 ⟨by rw [CR.1]; exact w4, by rw [CR.2]; exact w5⟩, hy, hts _ hi⟩ ⟨wU_blind, fun U hU hW2 => ⟨rfl, wU_at hg hw hS hU hW2⟩⟩ rfl hln hl0.1 hst (cat8_room (okS_1 hok)) d ⟨by rw [hRc]; exact k1, by rw [hRs]; exact k2⟩) hS (fun v S' H1 locs1 hq hw1 hS1 => ?_)
    exact h _ _ _ _ _ _ _ _ hq hw1 hS1 hl0 k1 k2
  · exact hk.elim
theorem x_oI {T : Ct} {cc : ByteArray} {nL : Nat} {own : String} {MC MS pc FR LR : Nat} {Qf : State → Prop} (C : Cx T cc nL own MC MS) (CR : CxR T FR LR) {idx : Nat} (h1 : 1 ≤ FR) (h2 : 20 ≤ LR) (hl : Cond.methodLink own idx Lib.objectInit ∈ TT) (hi : Cond.instanceMethod Lib.objectInit ∈ TT) (hco : Cond.code Lib.objectInit ⟨#[0xb1]⟩ 1 none ∈ TT) {k : Kt} (d : decode cc pc = .ok (.invokespecial idx, 3)) (h : Sd T nL Qf MC MS (pc + 3) k) : Sd T nL Qf MC MS pc (oI k) := by
  obtain ⟨p, l, e, R, s, m, args, below, meth, c, D, cA, base⟩ := T
  intro H locs ls lv st S cz zz hk hw hS hl0 hc hz
  obtain ⟨hx, hb, hml, hown, hts, hg, hlk, hRc, hRs⟩ := C
  unfold oI at hk
  split at hk
  · next a r =>
    split at hk
    · next hcat =>
      have e1 : R.frames = FR := CR.1
      have e2 : R.locals = LR := CR.2
      have e3 : 2 * (F0 m pc ls (.ref a :: r)).monitorRoom + (r.map fun v => v.category).sum ≤ 8 := cat8_room hcat
      exact W.objInit hx hb hown (hts _ hl) (hts _ hi) (hts _ hco) rfl (hl0.1.trans hml.symm) rfl d (by omega) (by omega) (h _ _ _ _ _ _ _ _ hk hw hS hl0 hc hz)
    · exact hk.elim
  · exact hk.elim
theorem x_mMn {T : Ct} {cc : ByteArray} {nL : Nat} {own : String} {MC MS pc FR LR : Nat} {Qf : State → Prop} (C : Cx T cc nL own MC MS) (CR : CxR T FR LR) {idx : Nat} (h1 : 1 ≤ FR) (h2 : 21 ≤ LR) (hl : Cond.methodLink own idx Lib.Math.min.name ∈ TT) (hs : Cond.static Lib.Math.min.name ∈ TT) (hini : Cond.initialized "java/lang/Math" ∈ TT) (hco : Cond.code Lib.Math.min.name Lib.Math.min.code 2 (some .int) ∈ TT) {k : Kt} (d : decode cc pc = .ok (.invokestatic idx, 3)) (h : Sd T nL Qf MC MS (pc + 3) k) : Sd T nL Qf MC MS pc (mMn k) := by
  obtain ⟨p, l, e, R, s, m, args, below, meth, c, D, cA, base⟩ := T
  intro H locs ls lv st S cz zz hk hw hS hl0 hc hz
  obtain ⟨hx, hb, hml, hown, hts, hg, hlk, hRc, hRs⟩ := C
  unfold mMn at hk
  split at hk
  · next y x r =>
    split at hk
    · next hcat =>
      have e1 : R.frames = FR := CR.1
      have e2 : R.locals = LR := CR.2
      have e3 : (r.map fun v => v.category).sum ≤ 8 := Nat.le_of_ble_eq_true hcat
      exact va_mmin hx hb (hml.trans hl0.1.symm) hown (hts _ hl) (hts _ hs) (hts _ hini) (hts _ hco) (by omega) (by omega) (by omega) (by omega) d (h _ _ _ _ _ _ _ _ hk hw hS hl0 hc hz)
    · exact hk.elim
  · exact hk.elim
theorem x_rI {T : Ct} {cc : ByteArray} {nL : Nat} {own : String} {MC MS pc : Nat} (C : Cx T cc nL own MC MS) {Q : Option Value → MM → Prop} (hr : T.2.2.2.2.2.2.2.2.1.sig.returnType = some .int) (d : decode cc pc = .ok (.ireturn, 1)) : Sd T nL (QT T Q MC MS) MC MS pc (rI Q) := by
  obtain ⟨p, l, e, R, s, m, args, below, meth, c, D, cA, base⟩ := T
  intro H locs ls lv st S cz zz hk hw hS hl hc hz
  obtain ⟨hx, hb, hml, hown, hts, hg, hlk, hRc, hRs⟩ := C
  unfold rI at hk
  split at hk
  · next v =>
    refine W.widen hc hz ?_
    exact W.iret hx hb hr (fun t ht hW => ⟨⟨_, S, rfl, hk, wU_at hg hw hS ht hW⟩, hS.F ht⟩) hS.2.2 d hlk
  · exact hk.elim
theorem x_rZ {T : Ct} {cc : ByteArray} {nL : Nat} {own : String} {MC MS pc : Nat} (C : Cx T cc nL own MC MS) {Q : Option Value → MM → Prop} (hr : T.2.2.2.2.2.2.2.2.1.sig.returnType = some .boolean) (d : decode cc pc = .ok (.ireturn, 1)) : Sd T nL (QT T Q MC MS) MC MS pc (rZ Q) := by
  obtain ⟨p, l, e, R, s, m, args, below, meth, c, D, cA, base⟩ := T
  intro H locs ls lv st S cz zz hk hw hS hl hc hz
  obtain ⟨hx, hb, hml, hown, hts, hg, hlk, hRc, hRs⟩ := C
  unfold rZ at hk
  split at hk
  · next v =>
    obtain ⟨hbv, hk⟩ := hk
    refine W.widen hc hz ?_
    exact W.zret hx hb hr (by rcases hbv with rfl | rfl <;> rfl) (fun t ht hW => ⟨⟨_, S, rfl, hk, wU_at hg hw hS ht hW⟩, hS.F ht⟩) hS.2.2 d hlk
  · exact hk.elim
theorem x_rV {T : Ct} {cc : ByteArray} {nL : Nat} {own : String} {MC MS pc : Nat} (C : Cx T cc nL own MC MS) {Q : Option Value → MM → Prop} (hr : T.2.2.2.2.2.2.2.2.1.sig.returnType = none) (d : decode cc pc = .ok (.return_, 1)) : Sd T nL (QT T Q MC MS) MC MS pc (rV Q) := by
  obtain ⟨p, l, e, R, s, m, args, below, meth, c, D, cA, base⟩ := T
  intro H locs ls lv st S cz zz hk hw hS hl hc hz
  obtain ⟨hx, hb, hml, hown, hts, hg, hlk, hRc, hRs⟩ := C
  unfold rV at hk
  split at hk
  · refine W.widen hc hz ?_
    exact W.vret hx hb hr (fun t ht hW => ⟨⟨_, S, rfl, hk, wU_at hg hw hS ht hW⟩, hS.F ht⟩) hS.2.2 d hlk
  · exact hk.elim
theorem x_rA {T : Ct} {cc : ByteArray} {nL : Nat} {own nm : String} {MC MS pc : Nat} (C : Cx T cc nL own MC MS) {Q : Option Value → MM → Prop} (hr : T.2.2.2.2.2.2.2.2.1.sig.returnType = some (.object nm)) (d : decode cc pc = .ok (.areturn, 1)) : Sd T nL (QT T Q MC MS) MC MS pc (rA Q) := by
  obtain ⟨p, l, e, R, s, m, args, below, meth, c, D, cA, base⟩ := T
  intro H locs ls lv st S cz zz hk hw hS hl hc hz
  obtain ⟨hx, hb, hml, hown, hts, hg, hlk, hRc, hRs⟩ := C
  unfold rA at hk
  split at hk
  · next v =>
    refine W.widen hc hz ?_
    exact W.aret hx hb hr (Or.inl ⟨nm, rfl⟩) (Or.inr ⟨v, rfl⟩) (fun t ht hW => ⟨⟨_, S, rfl, hk, wU_at hg hw hS ht hW⟩, hS.F ht⟩) hS.2.2 d hlk
  · refine W.widen hc hz ?_
    exact W.aret hx hb hr (Or.inl ⟨nm, rfl⟩) (Or.inl rfl) (fun t ht hW => ⟨⟨_, S, rfl, hk, wU_at hg hw hS ht hW⟩, hS.F ht⟩) hS.2.2 d hlk
  · exact hk.elim
/-- blocks, each at its pc, with n steps between blocks left -/
def wpn (b : (Nat → Kt) → Nat → Kt) : Nat → Nat → Kt
  | 0, _ => fun _ _ _ _ _ => False
  | n + 1, pc => b (wpn b n) pc
def mw (nL : Nat) (b : (Option Value → MM → Prop) → (Nat → Kt) → Nat → Kt) : Mw := fun as S Q => match Nat.ble (lg_sl as).length nL with
  | true => ∃ n, wpn (b Q) n 0 (lv_args 0 as) [] S 0 0
  | false => False
/-- a method whose blocks are sound meets its contract -/
theorem mc_of {l : Launch} {D : va_G} {cA : Nat → ClassId} {base : Nat} {y : MethodName} {cc : ByteArray} {nL : Nat} {ret : Option FieldType} {rm : Room} (hy : plainName y.cls = true) (b : (Option Value → MM → Prop) → (Nat → Kt) → Nat → Kt)
    (hb : ∀ (T : Ct) (Q : Option Value → MM → Prop), Cx T cc nL y.cls rm.cells rm.slots → CxR T rm.frames rm.locals → T.2.2.2.2.2.2.2.2.1.sig.returnType = ret → T.2.2.2.2.2.2.2.2.1.name = y.name → ∀ nx : Nat → Kt, (∀ pc, Sd T nL (QT T Q rm.cells rm.slots) rm.cells rm.slots pc (nx pc)) → ∀ pc, Sd T nL (QT T Q rm.cells rm.slots) rm.cells rm.slots pc (b Q nx pc)) : Mc l D cA base y cc nL ret rm (mw nL b) := by
  intro as S Q hwp
  unfold mw at hwp
  split at hwp
  case h_2 => exact hwp.elim
  case h_1 hbl =>
  have hsl : (lg_sl as).length ≤ nL := Nat.le_of_ble_eq_true hbl
  obtain ⟨n, hwp⟩ := hwp
  refine Met.ofW (cc := cc) (maxL := nL) (ret := ret) hy rfl ?_
  intro p e s m args below meth c s₁ B hml hv
  obtain ⟨rfl, hw, hg⟩ := hv
  have hts : ∀ w ∈ wsT y cc nL ret, w.before as.toArray s = true := atoms_spec (ws := wsT y cc nL ret) B.pre
  have hC : Cx (p, l, e, rm, s, m, as.toArray, below, meth, c, D, cA, base) cc nL y.cls rm.cells rm.slots := ⟨B.exec, B.bytes, hml, findClass_of_methodNamed B.named, fun w h => hts w (List.mem_cons_of_mem _ h), hg, B.notSynchronized, rfl, rfl⟩
  have key : ∀ n pc, Sd (p, l, e, rm, s, m, as.toArray, below, meth, c, D, cA, base) nL (QT (p, l, e, rm, s, m, as.toArray, below, meth, c, D, cA, base) Q rm.cells rm.slots) rm.cells rm.slots pc (wpn (b Q) n pc) := by
    intro n
    induction n with
    | zero => intro pc H locs ls lv st S cz zz hk; exact hk.elim
    | succ n ih => intro pc; exact hb _ Q hC ⟨rfl, rfl⟩ B.returns (name_of_methodNamed B.named B.method).1 _ ih pc
  have hl := lv_entry as (n := nL) hsl
  rw [lg_entry_eq]
  generalize (lg_sl as ++ List.replicate (nL - (lg_sl as).length) Slot.unset).toArray = ls at hl ⊢
  exact key n 0 s.heap [] ls (lv_args 0 as) [] S 0 0 hwp hw va_S.rf hl (Nat.zero_le _) (Nat.zero_le _)
theorem x_sw {T : Ct} {cc : ByteArray} {nL : Nat} {own : String} {MC MS pc : Nat} {Qf : State → Prop} (C : Cx T cc nL own MC MS) {dflt lo hi : Int} {offs : Array Int} {len tgt : Nat} {tl : List Nat} {nx : Nat → Kt} (hn : ∀ pc, Sd T nL Qf MC MS pc (nx pc)) (d : decode cc pc = .ok (.tableswitch dflt lo hi offs, len)) (ho : (pc : Int) + dflt = (tgt : Int)) (hlen : hi = lo + (tl.length : Int) - 1) (hall : ∀ j, j < tl.length → offs[j]? = some ((tl.getD j 0 : Nat) - (pc : Int))) : Sd T nL Qf MC MS pc (swt lo hi (fun j => nx (tl.getD j 0)) (nx tgt)) :=
  x_switch C (hn tgt) d ho (fun j hj => ⟨_, tl.getD j 0, hall j (by omega), by omega, hn _⟩)
