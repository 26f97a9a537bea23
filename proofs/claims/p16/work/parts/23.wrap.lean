/-! THE LAW'S OWN METHODS: they call what may throw, and catch it -/
def eI : String := "java/lang/IllegalArgumentException"
def eS : String := "java/lang/IllegalStateException"
def gY (base : Nat) (U : State) : Prop := gX base U ∧ va_Nc eS eI U
theorem gY_at {base : Nat} {s U : State} {H : Heap} {locs : List Loc} (hg : gY base s) (hS : va_S (aB base) s.heap H locs) (hU : U.heap = H) (hW : s.WarmedH U.vm) : gY base U := ⟨gX_at hg.1 hS hU hW, va_Nc.moved hW.alike hg.2⟩
def wY (D : va_G) (cA : Nat → ClassId) (base : Nat) (S : MM) (U : State) : Prop := wX D cA base S U ∧ va_Nc eS eI U
theorem wY_blind {D : va_G} {cA : Nat → ClassId} {base : Nat} {S : MM} {as : List Value} : FrameBlind (va_Pc as (wY D cA base S)) := fun a U g mk h => by
  have hb := wX_blind (as := as) a U g mk ⟨h.1, h.2.1⟩
  exact ⟨hb.1, hb.2, va_Nc.moved (u := U) (U := U.calling g mk a) (Vm.Alike.refl U.vm) h.2.2⟩
def wsW (y : MethodName) (cc : ByteArray) (n : Nat) (ret : Option FieldType) (hh : List (Nat × Nat × Nat × Nat)) : List Cond := .codeWith y cc n ret hh :: TT
def McW (l : Launch) (D : va_G) (cA : Nat → ClassId) (base : Nat) (y : MethodName) (cc : ByteArray) (nL : Nat) (ret : Option FieldType) (hh : List (Nat × Nat × Nat × Nat)) (rm : Room) (w : Mw) : Prop := ∀ as S Q, w as S Q → Met l y (wsW y cc nL ret hh) rm (va_Pc as (wY D cA base S)) (qR D cA base Q) rm.cells rm.slots (aB base)
def CxW (T : Ct) (hh : List (Nat × Nat × Nat × Nat)) : Prop := match T with
  | (_, l, _, _, s, _, _, _, _, c, _, _, base) => l.stackTraces = false ∧ c.exceptionTable.toList = tableOf hh ∧ gY base s
theorem k_runX {p : Program} {l : Launch} {e : Env} {R : Room} {s : State} {m : MethodId} {args : Array Value} {below : List Frame} {meth : Method} {c : Code} {H : Heap} {locs : List Loc} {cells slots : Nat} {Qf : State → Prop} {D : va_G} {cA : Nat → ClassId} {base : Nat} {pc : Nat} {ls : Array Slot} {st0 rest : List Value} {a : Array Value} {mc ms : Nat} {Q : Option Value → MM → Prop} {X : String → MM → Prop}
    (hr : vx_Run p l e R s m args below meth c H locs cells slots mc ms (F0 m pc ls st0) rest (qR D cA base Q a) (xR D cA base X) (aB base)) (hS : va_S (aB base) s.heap H locs)
    (kx : ∀ (E : String) (ce : Cell) (q9 : Addr) (S' : MM) (H1 : Heap) (locs1 : List Loc), X E S' → wd D cA base S' H1 → va_S (aB base) s.heap H1 locs1 → H1[q9]? = some ce → ce.vm = .none → s.vm.findClass E = some ce.cls → vx_W p l e R s m args below meth c H1 locs1 (cells + mc) (slots + ms) Qf (F0 m pc ls rest) q9)
    (kk : ∀ (v : Option Value) (S' : MM) (H1 : Heap) (locs1 : List Loc), Q v S' → wd D cA base S' H1 → va_S (aB base) s.heap H1 locs1 → W p l e R s m args below meth c H1 locs1 (cells + mc) (slots + ms) Qf (F0 m (pc + 3) ls (v.toList ++ rest))) : W p l e R s m args below meth c H locs cells slots Qf (F0 m pc ls st0) := by
  intro T hT X9
  rcases hr T hT X9 with ⟨v, st₀, t, T', L, h0, X', hL, e1, e2, ⟨⟨v', S', hv, hp, hb⟩, hF⟩, st⟩ | ⟨q, st₀, t, T', L, E, ce, h0, X', hL, e1, e2, ⟨⟨S', hp, hb⟩, hF⟩, hce, hcv, hcl, st⟩
  · cases hv
    obtain ⟨k1, k2, k3⟩ := vx_keep h0 e1 hS (fun _ _ h => h) (fun _ h => h) hL hF
    obtain ⟨t2, a1, b1⟩ := kk v S' T'.heap (locs ++ L) hp (by rw [e1]; exact hb.1) k3 T' rfl X'
    exact ⟨t2, st t2 a1, b1⟩
  · obtain ⟨k1, k2, k3⟩ := vx_keep h0 e1 hS (fun _ _ h => h) (fun _ h => h) hL hF
    obtain ⟨t2, a1, b1⟩ := kx E ce q S' T'.heap (locs ++ L) hp (by rw [e1]; exact hb) k3 (by rw [e1]; exact hce) hcv hcl T' rfl X'
    exact ⟨t2, st.trans a1, b1⟩
def hd1 (E1 : String) (k1 : Kt) : String → Kt := fun E => if E = E1 then k1 else dead
def hd2 (E1 E2 : String) (k1 k2 : Kt) : String → Kt := fun E => if E = E1 then k1 else if E = E2 then k2 else dead
def cX (n ci : Nat) (w : Mx) (mc ms MC MS : Nat) (hd : String → Kt) (kt : Kt) : Kt := fun lv st S c z => match okS (n + 1) st, (st.take (n + 1)).reverse with
  | true, .ref b :: As => sK S b = ci + 1 ∧ (c + mc ≤ MC ∧ z + ms ≤ MS) ∧ w (.ref b :: As) S (fun v S' => kt lv (v.toList ++ st.drop (n + 1)) S' (c + mc) (z + ms)) (fun E S' => ∀ q, hd E lv [.ref q] S' (c + mc) (z + ms))
  | _, _ => False
theorem x_cX {T : Ct} {cc : ByteArray} {nL : Nat} {own : String} {MC MS pc FR LR : Nat} {Qf : State → Prop} (C : Cx T cc nL own MC MS) (CR : CxR T FR LR) {hh : List (Nat × Nat × Nat × Nat)} (CW : CxW T hh) {y : MethodName} {cy : ByteArray} {ny n idx ci N : Nat} {TX : u_T} {ret : Option FieldType} {rm : Room} {w : Mx} (hM : ∀ l, l.stackTraces = false → ∀ D cA base, McX l D cA base y cy ny ret rm w) (hW : Wd y cy ny n ret rm FR LR) (hcl : vwCl[ci]? = some (y.cls, TX, N)) (hci : ci < 9) (hl : Cond.methodLink own idx y ∈ TT) (hi : Cond.instanceMethod y ∈ TT) (hs : Cond.selects y.cls y y ∈ TT) {hd : String → Kt}
    (hx0 : ∀ (E : String) (H : Heap) (locs : List Loc) (ls : Array Slot) (lv : Lv) (rest : List Value) (S : MM) (cz zz : Nat) (ce : Cell) (q : Addr), (∀ q, hd E lv [.ref q] S cz zz) → wd T.2.2.2.2.2.2.2.2.2.2.1 T.2.2.2.2.2.2.2.2.2.2.2.1 T.2.2.2.2.2.2.2.2.2.2.2.2 S H → va_S (aB T.2.2.2.2.2.2.2.2.2.2.2.2) T.2.2.2.2.1.heap H locs → lv_has ls nL lv → cz ≤ MC → zz ≤ MS → H[q]? = some ce → ce.vm = .none → T.2.2.2.2.1.vm.findClass E = some ce.cls → vx_W T.1 T.2.1 T.2.2.1 T.2.2.2.1 T.2.2.2.2.1 T.2.2.2.2.2.1 T.2.2.2.2.2.2.1 T.2.2.2.2.2.2.2.1 T.2.2.2.2.2.2.2.2.1 T.2.2.2.2.2.2.2.2.2.1 H locs cz zz Qf (F0 T.2.2.2.2.2.1 pc ls rest) q)
    {k : Kt} (d : decode cc pc = .ok (.invokevirtual idx, 3)) (h : Sd T nL Qf MC MS (pc + 3) k) : Sd T nL Qf MC MS pc (cX n ci w rm.cells rm.slots MC MS hd k) := by
  have cb := CB C CR hW hl
  obtain ⟨p, l, e, R, s, m, args, below, meth, c, D, cA, base⟩ := T
  intro H locs ls lv st S cz zz hk hw hS hl0 hc hz
  obtain ⟨hx, hb, hml, hown, hts, hg, hlk, hRc, hRs⟩ := C
  obtain ⟨hst, htab, hgy⟩ := CW
  unfold cX at hk
  split at hk
  · next b As hok hrev =>
    obtain ⟨hka, ⟨k1, k2⟩, hk⟩ := hk
    obtain ⟨hst2, hln⟩ := st_split hrev (okS_2 hok)
    have hP : va_P D vwCl [(b, fF cA S b)] H := fun k2 q hq => by
      have hz2 : k2 < 1 := (List.getElem?_eq_some_iff.mp hq).1
      rw [show k2 = 0 by omega] at hq
      cases hq
      exact (hw b (by rw [hka]; omega)).2
    rw [fF_obj hka hci] at hP
    refine k_runX (vx_runV (C := y.cls) (As := As) (b := b) (rest := st.drop (n + 1)) ⟨hx, hb, hml, hown, hts⟩ (hM l hst D cA base _ _ _ _ hk) ⟨cb, hts _ hi, hts _ hs⟩ ⟨wX_blind, va_recv hg.1 hP (ci := ci) (q0 := 0) hcl rfl, fun U hU hW2 => ⟨rfl, wU_at hg hw hS hU hW2, gX_at hgy.1 hS hU hW2⟩⟩ rfl hln hl0.1 hst2 (cat8_room (okS_1 hok)) d ⟨by rw [hRc]; exact k1, by rw [hRs]; exact k2⟩) hS ?_ (fun v S' H1 locs1 hq hw1 hS1 => ?_)
    · intro E ce q9 S' H1 locs1 hq hw1 hS1 a1 a2 a3
      exact hx0 E H1 locs1 ls lv _ S' _ _ ce q9 hq hw1 hS1 hl0 k1 k2 a1 a2 a3
    · exact h _ _ _ _ _ _ _ _ hq hw1 hS1 hl0 k1 k2
  · exact hk.elim
theorem x_h1 {T : Ct} {cc : ByteArray} {nL : Nat} {own : String} {MC MS pc : Nat} {Qf : State → Prop} (C : Cx T cc nL own MC MS) {s0 e0 h1 i1 : Nat} (CW : CxW T [(s0, e0, h1, i1)]) {E1 : String} (hcv : s0 ≤ pc ∧ pc < e0) (hi1 : i1 ≠ 0) (hlk1 : Cond.classLink own i1 E1 ∈ TT) (hcast : Cond.castable E1 E1 ∈ lw_tbl) {k1 : Kt} (h : Sd T nL Qf MC MS h1 k1) :
    ∀ (E : String) (H : Heap) (locs : List Loc) (ls : Array Slot) (lv : Lv) (rest : List Value) (S : MM) (cz zz : Nat) (ce : Cell) (q : Addr), (∀ q, hd1 E1 k1 E lv [.ref q] S cz zz) → wd T.2.2.2.2.2.2.2.2.2.2.1 T.2.2.2.2.2.2.2.2.2.2.2.1 T.2.2.2.2.2.2.2.2.2.2.2.2 S H → va_S (aB T.2.2.2.2.2.2.2.2.2.2.2.2) T.2.2.2.2.1.heap H locs → lv_has ls nL lv → cz ≤ MC → zz ≤ MS → H[q]? = some ce → ce.vm = .none → T.2.2.2.2.1.vm.findClass E = some ce.cls → vx_W T.1 T.2.1 T.2.2.1 T.2.2.2.1 T.2.2.2.2.1 T.2.2.2.2.2.1 T.2.2.2.2.2.2.1 T.2.2.2.2.2.2.2.1 T.2.2.2.2.2.2.2.2.1 T.2.2.2.2.2.2.2.2.2.1 H locs cz zz Qf (F0 T.2.2.2.2.2.1 pc ls rest) q := by
  obtain ⟨p, l, e, R, s, m, args, below, meth, c, D, cA, base⟩ := T
  intro E H locs ls lv rest S cz zz ce q hk hw hS hl hc hz a1 a2 a3
  obtain ⟨hx, hb, hml, hown, hts, hg, hlk, hRc, hRs⟩ := C
  obtain ⟨hst, htab, hgy⟩ := CW
  have hkq := hk q
  unfold hd1 at hkq
  by_cases hE : E = E1
  · rw [if_pos hE] at hkq
    subst hE
    refine vx_catch (name := E) hown [] _ [] htab (fun z hz => nomatch hz) (by simp [covers, hcv.1, hcv.2]) hi1 (hts _ hlk1) (va_Nw.use rfl (hgy.1.1 _ hcast rfl)) a1 a2 a3 ?_
    exact h _ _ _ _ _ _ _ _ hkq hw hS hl hc hz
  · rw [if_neg hE] at hkq
    exact hkq.elim
theorem x_h2 {T : Ct} {cc : ByteArray} {nL : Nat} {own : String} {MC MS pc : Nat} {Qf : State → Prop} (C : Cx T cc nL own MC MS) {s0 e0 h1 h2 i1 i2 : Nat} (CW : CxW T [(s0, e0, h1, i1), (s0, e0, h2, i2)]) (hcv : s0 ≤ pc ∧ pc < e0) (hi1 : i1 ≠ 0) (hi2 : i2 ≠ 0) (hlk1 : Cond.classLink own i1 eI ∈ TT) (hlk2 : Cond.classLink own i2 eS ∈ TT) (hcast1 : Cond.castable eI eI ∈ lw_tbl) (hcast2 : Cond.castable eS eS ∈ lw_tbl) {k1 k2 : Kt} (hk1 : Sd T nL Qf MC MS h1 k1) (hk2 : Sd T nL Qf MC MS h2 k2) :
    ∀ (E : String) (H : Heap) (locs : List Loc) (ls : Array Slot) (lv : Lv) (rest : List Value) (S : MM) (cz zz : Nat) (ce : Cell) (q : Addr), (∀ q, hd2 eI eS k1 k2 E lv [.ref q] S cz zz) → wd T.2.2.2.2.2.2.2.2.2.2.1 T.2.2.2.2.2.2.2.2.2.2.2.1 T.2.2.2.2.2.2.2.2.2.2.2.2 S H → va_S (aB T.2.2.2.2.2.2.2.2.2.2.2.2) T.2.2.2.2.1.heap H locs → lv_has ls nL lv → cz ≤ MC → zz ≤ MS → H[q]? = some ce → ce.vm = .none → T.2.2.2.2.1.vm.findClass E = some ce.cls → vx_W T.1 T.2.1 T.2.2.1 T.2.2.2.1 T.2.2.2.2.1 T.2.2.2.2.2.1 T.2.2.2.2.2.2.1 T.2.2.2.2.2.2.2.1 T.2.2.2.2.2.2.2.2.1 T.2.2.2.2.2.2.2.2.2.1 H locs cz zz Qf (F0 T.2.2.2.2.2.1 pc ls rest) q := by
  obtain ⟨p, l, e, R, s, m, args, below, meth, c, D, cA, base⟩ := T
  intro E H locs ls lv rest S cz zz ce q hk hw hS hl hc hz a1 a2 a3
  obtain ⟨hx, hb, hml, hown, hts, hg, hlk, hRc, hRs⟩ := C
  obtain ⟨hst, htab, hgy⟩ := CW
  have hkq := hk q
  unfold hd2 at hkq
  by_cases hE : E = eI
  · rw [if_pos hE] at hkq
    subst hE
    refine vx_catch (name := eI) hown [] _ _ htab (fun z hz => nomatch hz) (by simp [covers, hcv.1, hcv.2]) hi1 (hts _ hlk1) (va_Nw.use rfl (hgy.1.1 _ hcast1 rfl)) a1 a2 a3 ?_
    exact hk1 _ _ _ _ _ _ _ _ hkq hw hS hl hc hz
  · rw [if_neg hE] at hkq
    by_cases hE2 : E = eS
    · rw [if_pos hE2] at hkq
      subst hE2
      refine vx_catch (name := eS) hown [_] _ [] htab (fun z hz => ?_) (by simp [covers, hcv.1, hcv.2]) hi2 (hts _ hlk2) (va_Nw.use rfl (hgy.1.1 _ hcast2 rfl)) a1 a2 a3 ?_
      · rcases List.mem_cons.mp hz with rfl | hz
        · exact Or.inr ⟨hi1, eI, hts _ hlk1, hgy.2⟩
        · cases hz
      · exact hk2 _ _ _ _ _ _ _ _ hkq hw hS hl hc hz
    · rw [if_neg hE2] at hkq
      exact hkq.elim
theorem mcW_of {l : Launch} (hst : l.stackTraces = false) {D : va_G} {cA : Nat → ClassId} {base : Nat} {y : MethodName} {cc : ByteArray} {nL : Nat} {ret : Option FieldType} {hh : List (Nat × Nat × Nat × Nat)} {rm : Room} (hy : plainName y.cls = true) (b : (Option Value → MM → Prop) → (Nat → Kt) → Nat → Kt)
    (hb : ∀ (T : Ct) (Q : Option Value → MM → Prop), Cx T cc nL y.cls rm.cells rm.slots → CxR T rm.frames rm.locals → CxW T hh → T.2.2.2.2.2.2.2.2.1.sig.returnType = ret → T.2.2.2.2.2.2.2.2.1.name = y.name → ∀ nx : Nat → Kt, (∀ pc, Sd T nL (QT T Q rm.cells rm.slots) rm.cells rm.slots pc (nx pc)) → ∀ pc, Sd T nL (QT T Q rm.cells rm.slots) rm.cells rm.slots pc (b Q nx pc)) : McW l D cA base y cc nL ret hh rm (mw nL b) := by
  intro as S Q hwp
  unfold mw at hwp
  split at hwp
  case h_2 => exact hwp.elim
  case h_1 hbl =>
  have hsl : (lg_sl as).length ≤ nL := Nat.le_of_ble_eq_true hbl
  obtain ⟨n, hwp⟩ := hwp
  refine va_MetW (cc := cc) (maxL := nL) (ret := ret) (hh := hh) hy rfl ?_
  intro p e s m args below meth c s₁ B hml hv
  obtain ⟨rfl, ⟨⟨hw, hg⟩, hgx⟩, hnc⟩ := hv
  have hts : ∀ w ∈ wsW y cc nL ret hh, w.before as.toArray s = true := atoms_spec (ws := wsW y cc nL ret hh) B.pre
  have hC : Cx (p, l, e, rm, s, m, as.toArray, below, meth, c, D, cA, base) cc nL y.cls rm.cells rm.slots := ⟨B.exec, B.bytes, hml, findClass_of_methodNamed B.named, fun w h => hts w (List.mem_cons_of_mem _ h), hg, B.notSynchronized, rfl, rfl⟩
  have hCW : CxW (p, l, e, rm, s, m, as.toArray, below, meth, c, D, cA, base) hh := ⟨hst, vx_table (x := y) B (hts _ List.mem_cons_self), hgx, hnc⟩
  have key : ∀ n pc, Sd (p, l, e, rm, s, m, as.toArray, below, meth, c, D, cA, base) nL (QT (p, l, e, rm, s, m, as.toArray, below, meth, c, D, cA, base) Q rm.cells rm.slots) rm.cells rm.slots pc (wpn (b Q) n pc) := by
    intro n
    induction n with
    | zero => intro pc H locs ls lv st S cz zz hk; exact hk.elim
    | succ n ih => intro pc; exact hb _ Q hC ⟨rfl, rfl⟩ hCW B.returns (name_of_methodNamed B.named B.method).1 _ ih pc
  have hl := lv_entry as (n := nL) hsl
  rw [lg_entry_eq]
  generalize (lg_sl as ++ List.replicate (nL - (lg_sl as).length) Slot.unset).toArray = ls at hl ⊢
  exact key n 0 s.heap [] ls (lv_args 0 as) [] S 0 0 hwp hw va_S.rf hl (Nat.zero_le _) (Nat.zero_le _)
/-- the law's call of such a method -/
theorem x_cW {T : Ct} {cc : ByteArray} {nL : Nat} {own : String} {MC MS pc FR LR : Nat} {Qf : State → Prop} (C : Cx T cc nL own MC MS) (CR : CxR T FR LR) (hst : T.2.1.stackTraces = false) (hgy : gY T.2.2.2.2.2.2.2.2.2.2.2.2 T.2.2.2.2.1) {y : MethodName} {cy : ByteArray} {ny n idx : Nat} {ret : Option FieldType} {hh : List (Nat × Nat × Nat × Nat)} {rm : Room} {w : Mw} (hM : ∀ l, l.stackTraces = false → ∀ D cA base, McW l D cA base y cy ny ret hh rm w) (hco : Cond.codeWith y cy ny ret hh ∈ TT) (hini : Cond.initialized y.cls ∈ TT) (hmd : y.cls ≠ "java/lang/invoke/MethodHandle" ∧ y.cls ≠ "java/lang/invoke/VarHandle" ∧ (parseMethodDescriptor y.desc).map (fun d => d.parameters.length) = some n) (hfr : rm.frames + 1 ≤ FR) (hlo : 8 + (ny + 11) + rm.locals ≤ LR) (hl : Cond.methodLink own idx y ∈ TT) (hs : Cond.static y ∈ TT) {k : Kt} (d : decode cc pc = .ok (.invokestatic idx, 3)) (h : Sd T nL Qf MC MS (pc + 3) k) : Sd T nL Qf MC MS pc (cS n w rm.cells rm.slots MC MS k) := by
  obtain ⟨p, l, e, R, s, m, args, below, meth, c, D, cA, base⟩ := T
  intro H locs ls lv st S cz zz hk hw hS hl0 hc hz
  obtain ⟨hx, hb, hml, hown, hts, hg, hlk, hRc, hRs⟩ := C
  have hgy : gY base s := hgy
  unfold cS at hk
  split at hk
  · next hok =>
    obtain ⟨⟨k1, k2⟩, hk⟩ := hk
    have hG : GoodIn TT (va_wsS own idx y (wsW y cy ny ret hh)) := TT_good (fun _ h => h) (fun w hw => by
      rcases List.mem_append.mp hw with h | h
      · simp only [List.mem_cons, List.not_mem_nil, or_false] at h
        rcases h with rfl | rfl | rfl
        · exact hl
        · exact hs
        · exact hini
      · rcases List.mem_cons.mp h with e | e
        · rw [e]; exact hco
        · exact e)
    refine k_run (vx_runSW (hh := hh) (As := (st.take n).reverse) (rest := st.drop n) ⟨hx, hb, hml, hown, hts⟩ (hM l hst D cA base _ _ _ hk) (vx_cwSW n hts hG rfl rfl rfl hmd ⟨by rw [show R.frames = FR from CR.1]; exact hfr, by rw [show R.locals = LR from CR.2]; exact hlo⟩) ⟨wY_blind, fun U hU hW2 => ⟨rfl, ⟨wU_at hg hw hS hU hW2, gX_at hgy.1 hS hU hW2⟩, va_Nc.moved hW2.alike hgy.2⟩⟩ rfl (by rw [List.length_reverse]; exact okS_2 hok) hl0.1 (by rw [List.reverse_reverse, List.take_append_drop]) (cat8_room (okS_1 hok)) d ⟨by rw [hRc]; exact k1, by rw [hRs]; exact k2⟩) hS (fun v S' H1 locs1 hq hw1 hS1 => ?_)
    exact h _ _ _ _ _ _ _ _ hq hw1 hS1 hl0 k1 k2
  · exact hk.elim
