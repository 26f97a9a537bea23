/-! THE LAW'S BODY: the script, and its end. The claim's own words first (the skeleton's) -/
def R_law : String := "BundlePairLaw"
def lw_P (b : Addr) (xs : List Int32) (args : Array Value) (s : State) : Prop := args = #[.ref b] ∧ s.IntsAt b xs ∧ xs.length ≤ 2560 ∧ (Jvm.Cond.and given_1 narrow_1).before args s = true
def lw_Q (_ : Array Value) (s : State) (o : Outcome) (t : State) : Prop := o = .returned (some (.int 1)) ∧ Framed s o t [] 601024 7293034
def lw_Z (below : List Frame) (a : Array Value) (s : State) : State → Prop := fun t => ∃ o, t.status = .running ∧ Ended t below o ∧ lw_Q a s o t
/-- the law's own end, with 1 on the stack, nothing written that was there before, its room as the claim has it -/
theorem lw_ret {p : Program} {l : Launch} {e : Env} {s : State} {m : MethodId} {below : List Frame} {meth : Method} {c : Code} {b : Nat} (hx : p.tables.exec = Jvm.exec) (hb : c.code = code) (hr : meth.sig.returnType = ret) (hlocks : meth.locks = false) {pc : Nat} {H : Heap} {ls : Array Slot} (hdg : decode code pc = .ok (.ireturn, 1)) : W p l e room_1 s m #[Value.ref b] below meth c H [] 601024 7293034 (lw_Z below #[Value.ref b] s) (F0 m pc ls [.int 1]) := by
  intro T hT X
  obtain ⟨fs, hret, hrun, hended, hW, hframe⟩ := X.leave (v := some (.int 1)) (hlocks := hlocks) (fun h => by rw [hr] at h; cases h)
  have hmeth' : T.vm.method? m = some meth := X.method'
  refine ⟨T.setFrames fs, ?_, .returned (some (.int 1)), hrun, hended, rfl, ⟨_, rfl⟩, hW, hframe⟩
  jvm_step X.here [X.here.top, hx, hb, hdg, hmeth', hr, ret, narrow_b1]
  (try refine ⟨rfl, ?_⟩); (try refine ⟨rfl, ?_⟩)
  first | (intro acts; rw [hret _ acts rfl rfl rfl]) | rw [hret _ _ rfl rfl rfl]
  exact Steps.refl _
def QL (T : Ct) : State → Prop := match T with
  | (_, _, _, _, s, _, args, below, _, _, _, _, _) => lw_Z below args s
def LwR (T : Ct) (sb : Nat) : Prop := match T with
  | (_, _, _, R, s, _, args, _, meth, _, _, _, base) => R = room_1 ∧ args = #[Value.ref sb] ∧ meth.sig.returnType = ret ∧ base = s.heap.size
def sld (sb sL : Nat) (xs : Nat → Int32) (kt : Kt) : Kt := fun lv st S c z => match st with
  | .int i :: .ref a :: r => a = sb ∧ vp_in i sL ∧ kt lv (.int (xs i.toNatClampNeg) :: r) S c z
  | _ => False
def sln (sb sL : Nat) (kt : Kt) : Kt := fun lv st S c z => match st with
  | .ref a :: r => a = sb ∧ kt lv (.int (Int32.ofNat sL) :: r) S c z
  | _ => False
def rL : Kt := fun _ st _ _ _ => match st with
  | [.int v] => v = 1
  | _ => False
theorem x_sld {T : Ct} {cc : ByteArray} {nL : Nat} {own : String} {MC MS pc : Nat} {Qf : State → Prop} (C : Cx T cc nL own MC MS) {sb sL : Nat} {xs : Nat → Int32} (hX : va_X sb sL xs T.2.2.2.2.1 T.2.2.2.2.1.heap) (hbl : sb < T.2.2.2.2.1.heap.size) (hba : sb < T.2.2.2.2.2.2.2.2.2.2.2.2) (d : decode cc pc = .ok (.iaload, 1)) {k : Kt} (h : Sd T nL Qf MC MS (pc + 1) k) : Sd T nL Qf MC MS pc (sld sb sL xs k) := by
  obtain ⟨p, l, e, R, s, m, args, below, meth, c, D, cA, base⟩ := T
  intro H locs ls lv st S cz zz hk hw hS hl hc hz
  obtain ⟨hx, hb, hml, hown, hts, hg, hlk, hRc, hRs⟩ := C
  unfold sld at hk
  split at hk
  · obtain ⟨rfl, hi, hk⟩ := hk
    exact va_sld hx hb hX hbl (fun z => Nat.not_le.mpr hba z) hS hi d (h _ _ _ _ _ _ _ _ hk hw hS hl hc hz)
  · exact hk.elim
theorem x_sln {T : Ct} {cc : ByteArray} {nL : Nat} {own : String} {MC MS pc : Nat} {Qf : State → Prop} (C : Cx T cc nL own MC MS) {sb sL : Nat} {xs : Nat → Int32} (hX : va_X sb sL xs T.2.2.2.2.1 T.2.2.2.2.1.heap) (hbl : sb < T.2.2.2.2.1.heap.size) (hba : sb < T.2.2.2.2.2.2.2.2.2.2.2.2) (d : decode cc pc = .ok (.arraylength, 1)) {k : Kt} (h : Sd T nL Qf MC MS (pc + 1) k) : Sd T nL Qf MC MS pc (sln sb sL k) := by
  obtain ⟨p, l, e, R, s, m, args, below, meth, c, D, cA, base⟩ := T
  intro H locs ls lv st S cz zz hk hw hS hl hc hz
  obtain ⟨hx, hb, hml, hown, hts, hg, hlk, hRc, hRs⟩ := C
  unfold sln at hk
  split at hk
  · obtain ⟨rfl, hk⟩ := hk
    exact va_slen hx hb hX hbl (fun z => Nat.not_le.mpr hba z) hS d (h _ _ _ _ _ _ _ _ hk hw hS hl hc hz)
  · exact hk.elim
theorem x_rL {T : Ct} {nL : Nat} {own : String} {pc sb : Nat} (C : Cx T code nL own 601024 7293034) (hR : LwR T sb) (d : decode code pc = .ok (.ireturn, 1)) : Sd T nL (QL T) 601024 7293034 pc rL := by
  obtain ⟨p, l, e, R, s, m, args, below, meth, c, D, cA, base⟩ := T
  intro H locs ls lv st S cz zz hk hw hS hl hc hz
  obtain ⟨hx, hb, hml, hown, hts, hg, hlk, hRc, hRs⟩ := C
  obtain ⟨rfl, rfl, hr, rfl⟩ := hR
  unfold rL at hk
  split at hk
  · subst hk
    refine va_forget (fun q hq => hS.2.2 q hq) ?_
    refine W.widen (k := 601024) (n := 7293034) hc hz ?_
    exact lw_ret hx hb hr hlk d
  · exact hk.elim
def po (k : Kt) : Kt := fun lv st S c z => match st with
  | v :: r => match c1 v with
    | true => k lv r S c z
    | false => False
  | _ => False
theorem x_pop {T : Ct} {cc : ByteArray} {nL : Nat} {own : String} {MC MS pc : Nat} {Qf : State → Prop} (C : Cx T cc nL own MC MS) (d : decode cc pc = .ok (.pop, 1)) {k : Kt} (h : Sd T nL Qf MC MS (pc + 1) k) : Sd T nL Qf MC MS pc (po k) := by
  obtain ⟨p, l, e, R, s, m, args, below, meth, c, D, cA, base⟩ := T
  intro H locs ls lv st S cz zz hk hw hS hl hc hz
  obtain ⟨hx, hb, hml, hown, hts, hg, hlk, hRc, hRs⟩ := C
  unfold po at hk
  split at hk
  · split at hk
    · next hv => exact lv_pop hx hb d (by simpa [c1] using hv) (h _ _ _ _ _ _ _ _ hk hw hS hl hc hz)
    · exact hk.elim
  · exact hk.elim
