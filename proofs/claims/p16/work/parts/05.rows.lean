/-! CODE AS PREDICATES: Kt says of locals, stack, memory and what was made so far that all goes well from here; Sd says that the machine at pc does what the predicate says -/
def TT : List Cond := lw_tbl.filter goodWord
theorem TT_in {w : Cond} (i : Nat) (h : lw_tbl[i]? = some w) (hg : goodWord w = true) : w ∈ TT := List.mem_filter.mpr ⟨List.mem_of_getElem? h, hg⟩
theorem TT_ins {ws : List Cond} (ps : List Nat) (h : ws = ps.filterMap (fun i => lw_tbl[i]?)) (hg : ws.all goodWord = true) : ∀ w ∈ ws, w ∈ TT := fun w hw => by
  have h1 := List.all_eq_true.mp hg w hw
  rw [h] at hw
  obtain ⟨i, -, hi⟩ := List.mem_filterMap.mp hw
  exact TT_in i hi h1
def wsT (y : MethodName) (cc : ByteArray) (n : Nat) (ret : Option FieldType) : List Cond := .code y cc n ret :: TT
theorem TT_good {big ws : List Cond} (hb : ∀ w ∈ TT, w ∈ big) (h : ∀ w ∈ ws, w ∈ TT) : GoodIn big ws := fun w hw => ⟨hb w (h w hw), good_of_word (List.mem_filter.mp (h w hw)).2⟩
abbrev Lv : Type := List (Nat × Value)
abbrev Kt : Type := Lv → List Value → MM → Nat → Nat → Prop
def lvg (lv : Lv) (i : Nat) : Option Value := (lv.find? (fun q => q.1 == i)).map (fun q => q.2)
def lvs (lv : Lv) (i : Nat) (v : Value) : Lv := (i, v) :: lv.filter (fun q => !(q.1 == i) && !(q.1 + 1 == i && q.2.category == 2))
theorem lvg_mem {lv : Lv} {i : Nat} {v : Value} (h : lvg lv i = some v) : (i, v) ∈ lv := by
  unfold lvg at h
  cases hf : lv.find? (fun q => q.1 == i) with
  | none => rw [hf] at h; cases h
  | some q =>
    rw [hf] at h
    have h1 : (q.1 == i) = true := List.find?_some (p := fun q : Nat × Value => q.1 == i) hf
    have h2 := List.mem_of_find?_eq_some hf
    have h3 : q.1 = i := by simpa using h1
    have h4 : q.2 = v := Option.some.inj h
    rw [← h3, ← h4]
    exact h2
theorem lvg_at {ls : Array Slot} {nL : Nat} {lv : Lv} {i : Nat} {v : Value} (hl : lv_has ls nL lv) (h : lvg lv i = some v) : ls[i]? = some (.val v) := hl.2.2 _ (lvg_mem h)
abbrev Ct : Type := Program × Launch × Env × Room × State × MethodId × Array Value × List Frame × Method × Code × va_G × (Nat → ClassId) × Nat
def tyA (cA : Nat → ClassId) : List (ClassId × FieldType) := [(cA 10, .int), (cA 11, .boolean), (cA 12, .object RX0), (cA 13, .object RX1), (cA 14, .object RX2), (cA 15, .object RX3), (cA 16, .object RX4), (cA 17, .object RX5), (cA 18, .long)]
def aB (base : Nat) : Nat → Prop := fun q => base ≤ q
/-- what the tables say beyond the good words -/
def gN (U : State) : Prop := (∀ q ∈ [((RX1, 28, yX5_init) : String × Nat × MethodName), (RX5, 11, yX6_init), (RX3, 23, yX4_init), (RX4, 9, yX6_init), (RX3, 57, yX2_init)], va_Nw (.methodLinkNest q.1 q.2.1 q.2.2 RX7) U) ∧ (∀ C ∈ [RX0, RX1, RX2, RX3, RX4, RX5], va_AO C U)
def gU (D : va_G) (cA : Nat → ClassId) (base : Nat) (U : State) : Prop := va_K D vwCl (tyA cA) U ∧ base ≤ U.heap.size ∧ gN U
def wU (D : va_G) (cA : Nat → ClassId) (base : Nat) (S : MM) (U : State) : Prop := wd D cA base S U.heap ∧ gU D cA base U
theorem gN_warm {s U : State} (hW : s.WarmedH U.vm) (h : gN s) : gN U := ⟨fun q hq => va_Nw.warmM hW (h.1 q hq), fun C hC => va_AO.moved hW.alike (h.2 C hC)⟩
def Cx (T : Ct) (cc : ByteArray) (nL : Nat) (own : String) (MC MS : Nat) : Prop :=
  match T with
  | (p, _, _, R, s, m, args, _, meth, c, D, cA, base) => p.tables.exec = Jvm.exec ∧ c.code = cc ∧ c.maxLocals = nL ∧ s.vm.findClass own = some m.cls ∧ (∀ w ∈ TT, w.before args s = true) ∧ gU D cA base s ∧ meth.locks = false ∧ R.cells = MC ∧ R.slots = MS
def Sd (T : Ct) (nL : Nat) (Qf : State → Prop) (MC MS pc : Nat) (k : Kt) : Prop :=
  match T with
  | (p, l, e, R, s, m, args, below, meth, c, D, cA, base) => ∀ (H : Heap) (locs : List Loc) (ls : Array Slot) (lv : Lv) (st : List Value) (S : MM) (cz zz : Nat), k lv st S cz zz → wd D cA base S H → va_S (aB base) s.heap H locs → lv_has ls nL lv → cz ≤ MC → zz ≤ MS → W p l e R s m args below meth c H locs cz zz Qf (F0 m pc ls st)
def cI (v : Int32) (k : Kt) : Kt := fun lv st S c z => k lv (.int v :: st) S c z
def ldI (i : Nat) (k : Kt) : Kt := fun lv st S c z => match lvg lv i with
  | some (.int x) => k lv (.int x :: st) S c z
  | _ => False
def ldA (i : Nat) (k : Kt) : Kt := fun lv st S c z => match lvg lv i with
  | some (.ref x) => k lv (.ref x :: st) S c z
  | some .null => k lv (.null :: st) S c z
  | _ => False
def stI (i : Nat) (k : Kt) : Kt := fun lv st S c z => match st with
  | .int x :: r => k (lvs lv i (.int x)) r S c z
  | _ => False
def stA (i : Nat) (k : Kt) : Kt := fun lv st S c z => match st with
  | .ref x :: r => k (lvs lv i (.ref x)) r S c z
  | .null :: r => k (lvs lv i .null) r S c z
  | _ => False
def inc (i : Nat) (n : Int32) (k : Kt) : Kt := fun lv st S c z => match lvg lv i with
  | some (.int x) => k (lvs lv i (.int (x + n))) st S c z
  | _ => False
def bop (f : Int32 → Int32 → Int32) (k : Kt) : Kt := fun lv st S c z => match st with
  | .int y :: .int x :: r => k lv (.int (f x y) :: r) S c z
  | _ => False
def bod (f : Int32 → Int32 → Int32) (k : Kt) : Kt := fun lv st S c z => match st with
  | .int y :: .int x :: r => ¬ y = 0 ∧ k lv (.int (f x y) :: r) S c z
  | _ => False
def c1 (v : Value) : Bool := v.category == 1
def du (k : Kt) : Kt := fun lv st S c z => match st with
  | v :: r => match c1 v with
    | true => k lv (v :: v :: r) S c z
    | false => False
  | _ => False
def dux1 (k : Kt) : Kt := fun lv st S c z => match st with
  | v :: w :: r => match c1 v && c1 w with
    | true => k lv (v :: w :: v :: r) S c z
    | false => False
  | _ => False
def du2 (k : Kt) : Kt := fun lv st S c z => match st with
  | v :: w :: r => match c1 v && c1 w with
    | true => k lv (v :: w :: v :: w :: r) S c z
    | false => False
  | _ => False
def nul (k : Kt) : Kt := fun lv st S c z => k lv (.null :: st) S c z
def ifz (cn : Int32 → Prop) (t k : Kt) : Kt := fun lv st S c z => match st with
  | .int x :: r => (cn x → t lv r S c z) ∧ (¬ cn x → k lv r S c z)
  | _ => False
def ifc (cn : Int32 → Int32 → Prop) (t k : Kt) : Kt := fun lv st S c z => match st with
  | .int y :: .int x :: r => (cn x y → t lv r S c z) ∧ (¬ cn x y → k lv r S c z)
  | _ => False
def ifn (t k : Kt) : Kt := fun lv st S c z => match st with
  | .null :: r => t lv r S c z
  | .ref _ :: r => k lv r S c z
  | _ => False
def swt (lo hi : Int) (ts : Nat → Kt) (t : Kt) : Kt := fun lv st S c z => match st with
  | .int x :: r => (x.toInt < lo ∨ hi < x.toInt → t lv r S c z) ∧ (∀ j : Nat, x.toInt = lo + j → lo + (j : Int) ≤ hi → ts j lv r S c z)
  | _ => False
def gI (ci k : Nat) (kt : Kt) : Kt := fun lv st S c z => match st with
  | .ref a :: r => sK S a = ci + 1 ∧ kt lv (.int (sI S a k) :: r) S c z
  | _ => False
def gR (ci k : Nat) (kt : Kt) : Kt := fun lv st S c z => match st with
  | .ref a :: r => sK S a = ci + 1 ∧ ∀ o, sR S a k = o → kt lv (va_rf o :: r) S c z
  | _ => False
def tI (ci k : Nat) (kt : Kt) : Kt := fun lv st S c z => match st with
  | .int v :: .ref a :: r => sK S a = ci + 1 ∧ kt lv r (pI S a k v) c z
  | _ => False
def tZ (ci k : Nat) (kt : Kt) : Kt := fun lv st S c z => match st with
  | .int v :: .ref a :: r => sK S a = ci + 1 ∧ (v = 0 ∨ v = 1) ∧ kt lv r (pI S a k v) c z
  | _ => False
def tF (ci k : Nat) (kt : Kt) : Kt := fun lv st S c z => match st with
  | .ref v :: .ref a :: r => sK S a = ci + 1 ∧ kt lv r (pR S a k (some v)) c z
  | _ => False
def aI (kd : Nat) (kt : Kt) : Kt := fun lv st S c z => match st with
  | .int i :: .ref a :: r => sK S a = kd ∧ vp_in i (sN S a) ∧ kt lv (.int (sI S a i.toNatClampNeg) :: r) S c z
  | _ => False
def aR (kd : Nat) (kt : Kt) : Kt := fun lv st S c z => match st with
  | .int i :: .ref a :: r => sK S a = kd ∧ vp_in i (sN S a) ∧ ∀ o, sR S a i.toNatClampNeg = o → kt lv (va_rf o :: r) S c z
  | _ => False
def aJ (kt : Kt) : Kt := fun lv st S c z => match st with
  | .int i :: .ref a :: r => sK S a = 18 ∧ vp_in i (sN S a) ∧ kt lv (.long (sJ S a i.toNatClampNeg) :: r) S c z
  | _ => False
def sAI (kt : Kt) : Kt := fun lv st S c z => match st with
  | .int v :: .int i :: .ref a :: r => sK S a = 10 ∧ vp_in i (sN S a) ∧ kt lv r (pI S a i.toNatClampNeg v) c z
  | _ => False
def sAZ (kt : Kt) : Kt := fun lv st S c z => match st with
  | .int v :: .int i :: .ref a :: r => sK S a = 11 ∧ vp_in i (sN S a) ∧ (v = 0 ∨ v = 1) ∧ kt lv r (pI S a i.toNatClampNeg v) c z
  | _ => False
def sAR (ci : Nat) (kt : Kt) : Kt := fun lv st S c z => match st with
  | .ref v :: .int i :: .ref a :: r => sK S a = ci + 12 ∧ vp_in i (sN S a) ∧ sK S v = ci + 1 ∧ kt lv r (pR S a i.toNatClampNeg (some v)) c z
  | .null :: .int i :: .ref a :: r => sK S a = ci + 12 ∧ vp_in i (sN S a) ∧ kt lv r (pR S a i.toNatClampNeg none) c z
  | _ => False
def sAJ (kt : Kt) : Kt := fun lv st S c z => match st with
  | .long v :: .int i :: .ref a :: r => sK S a = 18 ∧ vp_in i (sN S a) ∧ kt lv r (pJ S a i.toNatClampNeg v) c z
  | _ => False
def nO (ci : Nat) (MC MS : Nat) (kt : Kt) : Kt := fun lv st S c z => (c + 1 ≤ MC ∧ z + (sg ci).length ≤ MS) ∧ ∀ q, sK S q = 0 → kt lv (.ref q :: st) (nw S q (ci + 1) 0) (c + 1) (z + (sg ci).length)
def nA (kd : Nat) (MC MS : Nat) (kt : Kt) : Kt := fun lv st S c z => match st with
  | .int n :: r => ¬ n < 0 ∧ (n.toNatClampNeg ≤ 67108864 ∧ c + 1 ≤ MC ∧ z + n.toNatClampNeg ≤ MS) ∧ ∀ q, sK S q = 0 → kt lv (.ref q :: r) (nw S q kd n.toNatClampNeg) (c + 1) (z + n.toNatClampNeg)
  | _ => False
def i2 (kt : Kt) : Kt := fun lv st S c z => match st with
  | .int x :: r => kt lv (.long x.toInt64 :: r) S c z
  | _ => False
def lcm (kt : Kt) : Kt := fun lv st S c z => match st with
  | .long y :: .long x :: r => kt lv (.int (lg_cmp x y) :: r) S c z
  | _ => False
abbrev Mw : Type := List Value → MM → (Option Value → MM → Prop) → Prop
def cat8 (r : List Value) : Bool := Nat.ble (r.map fun v => v.category).sum 8
def okS (n : Nat) (st : List Value) : Bool := cat8 (st.drop n) && Nat.beq (st.take n).length n
theorem okS_1 {n : Nat} {st : List Value} (h : okS n st = true) : cat8 (st.drop n) = true := by
  unfold okS at h
  exact (Bool.and_eq_true_iff.mp h).1
theorem okS_2 {n : Nat} {st : List Value} (h : okS n st = true) : (st.take n).length = n := by
  unfold okS at h
  exact Nat.eq_of_beq_eq_true (Bool.and_eq_true_iff.mp h).2
/-- a call: static, n arguments; of an object of the kind ci, n arguments beside it; of a constructor -/
def cS (n : Nat) (w : Mw) (mc ms MC MS : Nat) (kt : Kt) : Kt := fun lv st S c z => match okS n st with
  | true => (c + mc ≤ MC ∧ z + ms ≤ MS) ∧ w ((st.take n).reverse) S (fun v S' => kt lv (v.toList ++ st.drop n) S' (c + mc) (z + ms))
  | false => False
def cV (n ci : Nat) (w : Mw) (mc ms MC MS : Nat) (kt : Kt) : Kt := fun lv st S c z => match okS (n + 1) st, (st.take (n + 1)).reverse with
  | true, .ref b :: As => sK S b = ci + 1 ∧ (c + mc ≤ MC ∧ z + ms ≤ MS) ∧ w (.ref b :: As) S (fun v S' => kt lv (v.toList ++ st.drop (n + 1)) S' (c + mc) (z + ms))
  | _, _ => False
def cC (n : Nat) (w : Mw) (mc ms MC MS : Nat) (kt : Kt) : Kt := fun lv st S c z => match okS (n + 1) st, (st.take (n + 1)).reverse with
  | true, .ref b :: As => (c + mc ≤ MC ∧ z + ms ≤ MS) ∧ w (.ref b :: As) S (fun v S' => kt lv (v.toList ++ st.drop (n + 1)) S' (c + mc) (z + ms))
  | _, _ => False
def oI (kt : Kt) : Kt := fun lv st S c z => match st with
  | .ref _ :: r => match cat8 r with
    | true => kt lv r S c z
    | false => False
  | _ => False
def mMn (kt : Kt) : Kt := fun lv st S c z => match st with
  | .int y :: .int x :: r => match cat8 r with
    | true => kt lv (.int (if y < x then y else x) :: r) S c z
    | false => False
  | _ => False
def rI (Q : Option Value → MM → Prop) : Kt := fun _ st S _ _ => match st with
  | [.int v] => Q (some (.int v)) S
  | _ => False
def rZ (Q : Option Value → MM → Prop) : Kt := fun _ st S _ _ => match st with
  | [.int v] => (v = 0 ∨ v = 1) ∧ Q (some (.int v)) S
  | _ => False
def rA (Q : Option Value → MM → Prop) : Kt := fun _ st S _ _ => match st with
  | [.ref v] => Q (some (.ref v)) S
  | [.null] => Q (some .null) S
  | _ => False
def rV (Q : Option Value → MM → Prop) : Kt := fun _ st S _ _ => match st with
  | [] => Q none S
  | _ => False
theorem x_ic {T : Ct} {cc : ByteArray} {nL : Nat} {own : String} {MC MS pc : Nat} {Qf : State → Prop} (C : Cx T cc nL own MC MS) {n : Int} {v : Int32} (d : decode cc pc = .ok (.iconst n, 1)) (hv : Int32.ofInt n = v) {k : Kt} (h : Sd T nL Qf MC MS (pc + 1) k) : Sd T nL Qf MC MS pc (cI v k) := by
  obtain ⟨p, l, e, R, s, m, args, below, meth, c, D, cA, base⟩ := T
  intro H locs ls lv st S cz zz hk hw hS hl hc hz
  obtain ⟨hx, hb, hml, hown, hts, hg, hlk, hRc, hRs⟩ := C
  exact lv_iconst hx hb d hv (h _ _ _ _ _ _ _ _ hk hw hS hl hc hz)
theorem x_bp {T : Ct} {cc : ByteArray} {nL : Nat} {own : String} {MC MS pc : Nat} {Qf : State → Prop} (C : Cx T cc nL own MC MS) {n : Int} {v : Int32} (d : decode cc pc = .ok (.bipush n, 2)) (hv : (Int8.ofInt n).toInt32 = v) {k : Kt} (h : Sd T nL Qf MC MS (pc + 2) k) : Sd T nL Qf MC MS pc (cI v k) := by
  obtain ⟨p, l, e, R, s, m, args, below, meth, c, D, cA, base⟩ := T
  intro H locs ls lv st S cz zz hk hw hS hl hc hz
  obtain ⟨hx, hb, hml, hown, hts, hg, hlk, hRc, hRs⟩ := C
  exact lv_bipush hx hb d hv (h _ _ _ _ _ _ _ _ hk hw hS hl hc hz)
theorem x_sp {T : Ct} {cc : ByteArray} {nL : Nat} {own : String} {MC MS pc : Nat} {Qf : State → Prop} (C : Cx T cc nL own MC MS) {n : Int} {v : Int32} (d : decode cc pc = .ok (.sipush n, 3)) (hv : (Int16.ofInt n).toInt32 = v) {k : Kt} (h : Sd T nL Qf MC MS (pc + 3) k) : Sd T nL Qf MC MS pc (cI v k) := by
  obtain ⟨p, l, e, R, s, m, args, below, meth, c, D, cA, base⟩ := T
  intro H locs ls lv st S cz zz hk hw hS hl hc hz
  obtain ⟨hx, hb, hml, hown, hts, hg, hlk, hRc, hRs⟩ := C
  exact lv_sipush hx hb d hv (h _ _ _ _ _ _ _ _ hk hw hS hl hc hz)
theorem x_lc {T : Ct} {cc : ByteArray} {nL : Nat} {own : String} {MC MS pc : Nat} {Qf : State → Prop} (C : Cx T cc nL own MC MS) {index : Nat} {v : Int32} (hm : Cond.constant own index v ∈ TT) (d : decode cc pc = .ok (.ldc index, 2)) {k : Kt} (h : Sd T nL Qf MC MS (pc + 2) k) : Sd T nL Qf MC MS pc (cI v k) := by
  obtain ⟨p, l, e, R, s, m, args, below, meth, c, D, cA, base⟩ := T
  intro H locs ls lv st S cz zz hk hw hS hl hc hz
  obtain ⟨hx, hb, hml, hown, hts, hg, hlk, hRc, hRs⟩ := C
  exact lv_ldc hx hb hown (hts _ hm) d (h _ _ _ _ _ _ _ _ hk hw hS hl hc hz)
theorem x_il_n {T : Ct} {cc : ByteArray} {nL : Nat} {own : String} {MC MS pc : Nat} {Qf : State → Prop} (C : Cx T cc nL own MC MS) {j : Fin 4} {i : Nat} (d : decode cc pc = .ok (.iload_n j, 1)) (hi : (j : Nat) = i) {k : Kt} (h : Sd T nL Qf MC MS (pc + 1) k) : Sd T nL Qf MC MS pc (ldI i k) := by
  obtain ⟨p, l, e, R, s, m, args, below, meth, c, D, cA, base⟩ := T
  intro H locs ls lv st S cz zz hk hw hS hl hc hz
  obtain ⟨hx, hb, hml, hown, hts, hg, hlk, hRc, hRs⟩ := C
  unfold ldI at hk
  split at hk
  · next x hv => exact lv_iload_n hx hb d hi (lvg_at hl hv) (h _ _ _ _ _ _ _ _ hk hw hS hl hc hz)
  · exact hk.elim
theorem x_il {T : Ct} {cc : ByteArray} {nL : Nat} {own : String} {MC MS pc : Nat} {Qf : State → Prop} (C : Cx T cc nL own MC MS) {i : Nat} (d : decode cc pc = .ok (.iload i, 2)) {k : Kt} (h : Sd T nL Qf MC MS (pc + 2) k) : Sd T nL Qf MC MS pc (ldI i k) := by
  obtain ⟨p, l, e, R, s, m, args, below, meth, c, D, cA, base⟩ := T
  intro H locs ls lv st S cz zz hk hw hS hl hc hz
  obtain ⟨hx, hb, hml, hown, hts, hg, hlk, hRc, hRs⟩ := C
  unfold ldI at hk
  split at hk
  · next x hv => exact lv_iload hx hb d (lvg_at hl hv) (h _ _ _ _ _ _ _ _ hk hw hS hl hc hz)
  · exact hk.elim
theorem x_al_n {T : Ct} {cc : ByteArray} {nL : Nat} {own : String} {MC MS pc : Nat} {Qf : State → Prop} (C : Cx T cc nL own MC MS) {j : Fin 4} {i : Nat} (d : decode cc pc = .ok (.aload_n j, 1)) (hi : (j : Nat) = i) {k : Kt} (h : Sd T nL Qf MC MS (pc + 1) k) : Sd T nL Qf MC MS pc (ldA i k) := by
  obtain ⟨p, l, e, R, s, m, args, below, meth, c, D, cA, base⟩ := T
  intro H locs ls lv st S cz zz hk hw hS hl hc hz
  obtain ⟨hx, hb, hml, hown, hts, hg, hlk, hRc, hRs⟩ := C
  unfold ldA at hk
  split at hk
  · next x hv => exact lv_aload_n hx hb d hi (lvg_at hl hv) (h _ _ _ _ _ _ _ _ hk hw hS hl hc hz)
  · next hv => exact lv_aload_nN hx hb d hi (lvg_at hl hv) (h _ _ _ _ _ _ _ _ hk hw hS hl hc hz)
  · exact hk.elim
theorem x_al {T : Ct} {cc : ByteArray} {nL : Nat} {own : String} {MC MS pc : Nat} {Qf : State → Prop} (C : Cx T cc nL own MC MS) {i : Nat} (d : decode cc pc = .ok (.aload i, 2)) {k : Kt} (h : Sd T nL Qf MC MS (pc + 2) k) : Sd T nL Qf MC MS pc (ldA i k) := by
  obtain ⟨p, l, e, R, s, m, args, below, meth, c, D, cA, base⟩ := T
  intro H locs ls lv st S cz zz hk hw hS hl hc hz
  obtain ⟨hx, hb, hml, hown, hts, hg, hlk, hRc, hRs⟩ := C
  unfold ldA at hk
  split at hk
  · next x hv => exact lv_aload hx hb d (lvg_at hl hv) (h _ _ _ _ _ _ _ _ hk hw hS hl hc hz)
  · next hv => exact lv_aloadN hx hb d (lvg_at hl hv) (h _ _ _ _ _ _ _ _ hk hw hS hl hc hz)
  · exact hk.elim
theorem x_is_n {T : Ct} {cc : ByteArray} {nL : Nat} {own : String} {MC MS pc : Nat} {Qf : State → Prop} (C : Cx T cc nL own MC MS) {j : Fin 4} {i : Nat} (d : decode cc pc = .ok (.istore_n j, 1)) (hi : (j : Nat) = i) (hn : i < nL) {k : Kt} (h : Sd T nL Qf MC MS (pc + 1) k) : Sd T nL Qf MC MS pc (stI i k) := by
  obtain ⟨p, l, e, R, s, m, args, below, meth, c, D, cA, base⟩ := T
  intro H locs ls lv st S cz zz hk hw hS hl hc hz
  obtain ⟨hx, hb, hml, hown, hts, hg, hlk, hRc, hRs⟩ := C
  unfold stI at hk
  split at hk
  · exact lv_istore_n hx hb d hi hl hn rfl (fun ls hl => h _ _ _ _ _ _ _ _ hk hw hS hl hc hz)
  · exact hk.elim
theorem x_is {T : Ct} {cc : ByteArray} {nL : Nat} {own : String} {MC MS pc : Nat} {Qf : State → Prop} (C : Cx T cc nL own MC MS) {i : Nat} (d : decode cc pc = .ok (.istore i, 2)) (hn : i < nL) {k : Kt} (h : Sd T nL Qf MC MS (pc + 2) k) : Sd T nL Qf MC MS pc (stI i k) := by
  obtain ⟨p, l, e, R, s, m, args, below, meth, c, D, cA, base⟩ := T
  intro H locs ls lv st S cz zz hk hw hS hl hc hz
  obtain ⟨hx, hb, hml, hown, hts, hg, hlk, hRc, hRs⟩ := C
  unfold stI at hk
  split at hk
  · exact lv_istore hx hb d hl hn rfl (fun ls hl => h _ _ _ _ _ _ _ _ hk hw hS hl hc hz)
  · exact hk.elim
theorem x_as_n {T : Ct} {cc : ByteArray} {nL : Nat} {own : String} {MC MS pc : Nat} {Qf : State → Prop} (C : Cx T cc nL own MC MS) {j : Fin 4} {i : Nat} (d : decode cc pc = .ok (.astore_n j, 1)) (hi : (j : Nat) = i) (hn : i < nL) {k : Kt} (h : Sd T nL Qf MC MS (pc + 1) k) : Sd T nL Qf MC MS pc (stA i k) := by
  obtain ⟨p, l, e, R, s, m, args, below, meth, c, D, cA, base⟩ := T
  intro H locs ls lv st S cz zz hk hw hS hl hc hz
  obtain ⟨hx, hb, hml, hown, hts, hg, hlk, hRc, hRs⟩ := C
  unfold stA at hk
  split at hk
  · exact lv_astore_n hx hb d hi hl hn rfl (fun ls hl => h _ _ _ _ _ _ _ _ hk hw hS hl hc hz)
  · exact lv_astore_nN hx hb d hi hl hn rfl (fun ls hl => h _ _ _ _ _ _ _ _ hk hw hS hl hc hz)
  · exact hk.elim
theorem x_as {T : Ct} {cc : ByteArray} {nL : Nat} {own : String} {MC MS pc : Nat} {Qf : State → Prop} (C : Cx T cc nL own MC MS) {i : Nat} (d : decode cc pc = .ok (.astore i, 2)) (hn : i < nL) {k : Kt} (h : Sd T nL Qf MC MS (pc + 2) k) : Sd T nL Qf MC MS pc (stA i k) := by
  obtain ⟨p, l, e, R, s, m, args, below, meth, c, D, cA, base⟩ := T
  intro H locs ls lv st S cz zz hk hw hS hl hc hz
  obtain ⟨hx, hb, hml, hown, hts, hg, hlk, hRc, hRs⟩ := C
  unfold stA at hk
  split at hk
  · exact lv_astore hx hb d hl hn rfl (fun ls hl => h _ _ _ _ _ _ _ _ hk hw hS hl hc hz)
  · exact lv_astoreN hx hb d hl hn rfl (fun ls hl => h _ _ _ _ _ _ _ _ hk hw hS hl hc hz)
  · exact hk.elim
theorem x_inc {T : Ct} {cc : ByteArray} {nL : Nat} {own : String} {MC MS pc : Nat} {Qf : State → Prop} (C : Cx T cc nL own MC MS) {i : Nat} {n : Int} {v : Int32} (d : decode cc pc = .ok (.iinc i n, 3)) (hv : Int32.ofInt n = v) (hn : i < nL) {k : Kt} (h : Sd T nL Qf MC MS (pc + 3) k) : Sd T nL Qf MC MS pc (inc i v k) := by
  obtain ⟨p, l, e, R, s, m, args, below, meth, c, D, cA, base⟩ := T
  intro H locs ls lv st S cz zz hk hw hS hl hc hz
  obtain ⟨hx, hb, hml, hown, hts, hg, hlk, hRc, hRs⟩ := C
  unfold inc at hk
  split at hk
  · next x hx1 =>
    obtain ⟨j, hj⟩ := List.getElem?_of_mem (lvg_mem hx1)
    exact lv_iinc hx hb d hl hj (by rw [hv]) hn rfl (fun ls hl => h _ _ _ _ _ _ _ _ hk hw hS hl hc hz)
  · exact hk.elim
theorem x_iadd {T : Ct} {cc : ByteArray} {nL : Nat} {own : String} {MC MS pc : Nat} {Qf : State → Prop} (C : Cx T cc nL own MC MS) (d : decode cc pc = .ok (.iadd, 1)) {k : Kt} (h : Sd T nL Qf MC MS (pc + 1) k) : Sd T nL Qf MC MS pc (bop (fun x y => x + y) k) := by
  obtain ⟨p, l, e, R, s, m, args, below, meth, c, D, cA, base⟩ := T
  intro H locs ls lv st S cz zz hk hw hS hl hc hz
  obtain ⟨hx, hb, hml, hown, hts, hg, hlk, hRc, hRs⟩ := C
  unfold bop at hk
  split at hk
  · exact lv_iadd hx hb d (h _ _ _ _ _ _ _ _ hk hw hS hl hc hz)
  · exact hk.elim
theorem x_isub {T : Ct} {cc : ByteArray} {nL : Nat} {own : String} {MC MS pc : Nat} {Qf : State → Prop} (C : Cx T cc nL own MC MS) (d : decode cc pc = .ok (.isub, 1)) {k : Kt} (h : Sd T nL Qf MC MS (pc + 1) k) : Sd T nL Qf MC MS pc (bop (fun x y => x - y) k) := by
  obtain ⟨p, l, e, R, s, m, args, below, meth, c, D, cA, base⟩ := T
  intro H locs ls lv st S cz zz hk hw hS hl hc hz
  obtain ⟨hx, hb, hml, hown, hts, hg, hlk, hRc, hRs⟩ := C
  unfold bop at hk
  split at hk
  · exact lv_isub hx hb d (h _ _ _ _ _ _ _ _ hk hw hS hl hc hz)
  · exact hk.elim
theorem x_imul {T : Ct} {cc : ByteArray} {nL : Nat} {own : String} {MC MS pc : Nat} {Qf : State → Prop} (C : Cx T cc nL own MC MS) (d : decode cc pc = .ok (.imul, 1)) {k : Kt} (h : Sd T nL Qf MC MS (pc + 1) k) : Sd T nL Qf MC MS pc (bop (fun x y => x * y) k) := by
  obtain ⟨p, l, e, R, s, m, args, below, meth, c, D, cA, base⟩ := T
  intro H locs ls lv st S cz zz hk hw hS hl hc hz
  obtain ⟨hx, hb, hml, hown, hts, hg, hlk, hRc, hRs⟩ := C
  unfold bop at hk
  split at hk
  · exact lv_imul hx hb d (h _ _ _ _ _ _ _ _ hk hw hS hl hc hz)
  · exact hk.elim
theorem x_iand {T : Ct} {cc : ByteArray} {nL : Nat} {own : String} {MC MS pc : Nat} {Qf : State → Prop} (C : Cx T cc nL own MC MS) (d : decode cc pc = .ok (.iand, 1)) {k : Kt} (h : Sd T nL Qf MC MS (pc + 1) k) : Sd T nL Qf MC MS pc (bop (fun x y => x &&& y) k) := by
  obtain ⟨p, l, e, R, s, m, args, below, meth, c, D, cA, base⟩ := T
  intro H locs ls lv st S cz zz hk hw hS hl hc hz
  obtain ⟨hx, hb, hml, hown, hts, hg, hlk, hRc, hRs⟩ := C
  unfold bop at hk
  split at hk
  · exact lv_iand hx hb d (h _ _ _ _ _ _ _ _ hk hw hS hl hc hz)
  · exact hk.elim
theorem x_ior {T : Ct} {cc : ByteArray} {nL : Nat} {own : String} {MC MS pc : Nat} {Qf : State → Prop} (C : Cx T cc nL own MC MS) (d : decode cc pc = .ok (.ior, 1)) {k : Kt} (h : Sd T nL Qf MC MS (pc + 1) k) : Sd T nL Qf MC MS pc (bop (fun x y => x ||| y) k) := by
  obtain ⟨p, l, e, R, s, m, args, below, meth, c, D, cA, base⟩ := T
  intro H locs ls lv st S cz zz hk hw hS hl hc hz
  obtain ⟨hx, hb, hml, hown, hts, hg, hlk, hRc, hRs⟩ := C
  unfold bop at hk
  split at hk
  · exact lv_ior hx hb d (h _ _ _ _ _ _ _ _ hk hw hS hl hc hz)
  · exact hk.elim
theorem x_ixor {T : Ct} {cc : ByteArray} {nL : Nat} {own : String} {MC MS pc : Nat} {Qf : State → Prop} (C : Cx T cc nL own MC MS) (d : decode cc pc = .ok (.ixor, 1)) {k : Kt} (h : Sd T nL Qf MC MS (pc + 1) k) : Sd T nL Qf MC MS pc (bop (fun x y => x ^^^ y) k) := by
  obtain ⟨p, l, e, R, s, m, args, below, meth, c, D, cA, base⟩ := T
  intro H locs ls lv st S cz zz hk hw hS hl hc hz
  obtain ⟨hx, hb, hml, hown, hts, hg, hlk, hRc, hRs⟩ := C
  unfold bop at hk
  split at hk
  · exact lv_ixor hx hb d (h _ _ _ _ _ _ _ _ hk hw hS hl hc hz)
  · exact hk.elim
theorem x_ishr {T : Ct} {cc : ByteArray} {nL : Nat} {own : String} {MC MS pc : Nat} {Qf : State → Prop} (C : Cx T cc nL own MC MS) (d : decode cc pc = .ok (.ishr, 1)) {k : Kt} (h : Sd T nL Qf MC MS (pc + 1) k) : Sd T nL Qf MC MS pc (bop (fun x y => x >>> (y &&& 31)) k) := by
  obtain ⟨p, l, e, R, s, m, args, below, meth, c, D, cA, base⟩ := T
  intro H locs ls lv st S cz zz hk hw hS hl hc hz
  obtain ⟨hx, hb, hml, hown, hts, hg, hlk, hRc, hRs⟩ := C
  unfold bop at hk
  split at hk
  · exact lv_ishr hx hb d (h _ _ _ _ _ _ _ _ hk hw hS hl hc hz)
  · exact hk.elim
theorem x_iushr {T : Ct} {cc : ByteArray} {nL : Nat} {own : String} {MC MS pc : Nat} {Qf : State → Prop} (C : Cx T cc nL own MC MS) (d : decode cc pc = .ok (.iushr, 1)) {k : Kt} (h : Sd T nL Qf MC MS (pc + 1) k) : Sd T nL Qf MC MS pc (bop (fun x y => (x.toUInt32 >>> (y.toUInt32 &&& Int32.toUInt32 31)).toInt32) k) := by
  obtain ⟨p, l, e, R, s, m, args, below, meth, c, D, cA, base⟩ := T
  intro H locs ls lv st S cz zz hk hw hS hl hc hz
  obtain ⟨hx, hb, hml, hown, hts, hg, hlk, hRc, hRs⟩ := C
  unfold bop at hk
  split at hk
  · exact lv_iushr hx hb d rfl (h _ _ _ _ _ _ _ _ hk hw hS hl hc hz)
  · exact hk.elim
theorem x_idiv {T : Ct} {cc : ByteArray} {nL : Nat} {own : String} {MC MS pc : Nat} {Qf : State → Prop} (C : Cx T cc nL own MC MS) (d : decode cc pc = .ok (.idiv, 1)) {k : Kt} (h : Sd T nL Qf MC MS (pc + 1) k) : Sd T nL Qf MC MS pc (bod (fun x y => x / y) k) := by
  obtain ⟨p, l, e, R, s, m, args, below, meth, c, D, cA, base⟩ := T
  intro H locs ls lv st S cz zz hk hw hS hl hc hz
  obtain ⟨hx, hb, hml, hown, hts, hg, hlk, hRc, hRs⟩ := C
  unfold bod at hk
  split at hk
  · obtain ⟨hk0, hk⟩ := hk
    exact lv_idiv hx hb d hk0 (h _ _ _ _ _ _ _ _ hk hw hS hl hc hz)
  · exact hk.elim
theorem x_irem {T : Ct} {cc : ByteArray} {nL : Nat} {own : String} {MC MS pc : Nat} {Qf : State → Prop} (C : Cx T cc nL own MC MS) (d : decode cc pc = .ok (.irem, 1)) {k : Kt} (h : Sd T nL Qf MC MS (pc + 1) k) : Sd T nL Qf MC MS pc (bod (fun x y => x - x / y * y) k) := by
  obtain ⟨p, l, e, R, s, m, args, below, meth, c, D, cA, base⟩ := T
  intro H locs ls lv st S cz zz hk hw hS hl hc hz
  obtain ⟨hx, hb, hml, hown, hts, hg, hlk, hRc, hRs⟩ := C
  unfold bod at hk
  split at hk
  · obtain ⟨hk0, hk⟩ := hk
    exact lv_irem hx hb d hk0 (h _ _ _ _ _ _ _ _ hk hw hS hl hc hz)
  · exact hk.elim
theorem x_dup {T : Ct} {cc : ByteArray} {nL : Nat} {own : String} {MC MS pc : Nat} {Qf : State → Prop} (C : Cx T cc nL own MC MS) (d : decode cc pc = .ok (.dup, 1)) {k : Kt} (h : Sd T nL Qf MC MS (pc + 1) k) : Sd T nL Qf MC MS pc (du k) := by
  obtain ⟨p, l, e, R, s, m, args, below, meth, c, D, cA, base⟩ := T
  intro H locs ls lv st S cz zz hk hw hS hl hc hz
  obtain ⟨hx, hb, hml, hown, hts, hg, hlk, hRc, hRs⟩ := C
  unfold du at hk
  split at hk
  · split at hk
    · next hv => exact lv_dup hx hb d (by simpa [c1] using hv) (h _ _ _ _ _ _ _ _ hk hw hS hl hc hz)
    · exact hk.elim
  · exact hk.elim
theorem x_dupx1 {T : Ct} {cc : ByteArray} {nL : Nat} {own : String} {MC MS pc : Nat} {Qf : State → Prop} (C : Cx T cc nL own MC MS) (d : decode cc pc = .ok (.dup_x1, 1)) {k : Kt} (h : Sd T nL Qf MC MS (pc + 1) k) : Sd T nL Qf MC MS pc (dux1 k) := by
  obtain ⟨p, l, e, R, s, m, args, below, meth, c, D, cA, base⟩ := T
  intro H locs ls lv st S cz zz hk hw hS hl hc hz
  obtain ⟨hx, hb, hml, hown, hts, hg, hlk, hRc, hRs⟩ := C
  unfold dux1 at hk
  split at hk
  · split at hk
    · next hv =>
      simp [c1] at hv
      exact lv_dup_x1 hx hb d hv.1 hv.2 (h _ _ _ _ _ _ _ _ hk hw hS hl hc hz)
    · exact hk.elim
  · exact hk.elim
theorem x_dup2 {T : Ct} {cc : ByteArray} {nL : Nat} {own : String} {MC MS pc : Nat} {Qf : State → Prop} (C : Cx T cc nL own MC MS) (d : decode cc pc = .ok (.dup2, 1)) {k : Kt} (h : Sd T nL Qf MC MS (pc + 1) k) : Sd T nL Qf MC MS pc (du2 k) := by
  obtain ⟨p, l, e, R, s, m, args, below, meth, c, D, cA, base⟩ := T
  intro H locs ls lv st S cz zz hk hw hS hl hc hz
  obtain ⟨hx, hb, hml, hown, hts, hg, hlk, hRc, hRs⟩ := C
  unfold du2 at hk
  split at hk
  · split at hk
    · next hv =>
      simp [c1] at hv
      exact lv_dup2_11 hx hb d hv.1 hv.2 (h _ _ _ _ _ _ _ _ hk hw hS hl hc hz)
    · exact hk.elim
  · exact hk.elim
theorem x_null {T : Ct} {cc : ByteArray} {nL : Nat} {own : String} {MC MS pc : Nat} {Qf : State → Prop} (C : Cx T cc nL own MC MS) (d : decode cc pc = .ok (.aconst_null, 1)) {k : Kt} (h : Sd T nL Qf MC MS (pc + 1) k) : Sd T nL Qf MC MS pc (nul k) := by
  obtain ⟨p, l, e, R, s, m, args, below, meth, c, D, cA, base⟩ := T
  intro H locs ls lv st S cz zz hk hw hS hl hc hz
  obtain ⟨hx, hb, hml, hown, hts, hg, hlk, hRc, hRs⟩ := C
  exact lv_null hx hb d (h _ _ _ _ _ _ _ _ hk hw hS hl hc hz)
theorem x_goto {T : Ct} {cc : ByteArray} {nL : Nat} {own : String} {MC MS pc : Nat} {Qf : State → Prop} (C : Cx T cc nL own MC MS) {off : Int} {tgt : Nat} {k : Kt} (h : Sd T nL Qf MC MS tgt k) (d : decode cc pc = .ok (.goto off, 3)) (ht : (pc : Int) + off = (tgt : Int)) : Sd T nL Qf MC MS pc (k) := by
  obtain ⟨p, l, e, R, s, m, args, below, meth, c, D, cA, base⟩ := T
  intro H locs ls lv st S cz zz hk hw hS hl hc hz
  obtain ⟨hx, hb, hml, hown, hts, hg, hlk, hRc, hRs⟩ := C
  exact lv_goto hx hb d ht (h _ _ _ _ _ _ _ _ hk hw hS hl hc hz)
theorem x_if_eq {T : Ct} {cc : ByteArray} {nL : Nat} {own : String} {MC MS pc : Nat} {Qf : State → Prop} (C : Cx T cc nL own MC MS) {off : Int} {tgt : Nat} {t : Kt} (ht : Sd T nL Qf MC MS tgt t) (d : decode cc pc = .ok (.ifCond .eq off, 3)) (ho : (pc : Int) + off = (tgt : Int)) {k : Kt} (h : Sd T nL Qf MC MS (pc + 3) k) : Sd T nL Qf MC MS pc (ifz (fun x => x = 0) t k) := by
  obtain ⟨p, l, e, R, s, m, args, below, meth, c, D, cA, base⟩ := T
  intro H locs ls lv st S cz zz hk hw hS hl hc hz
  obtain ⟨hx, hb, hml, hown, hts, hg, hlk, hRc, hRs⟩ := C
  unfold ifz at hk
  split at hk
  · exact lv_if_eq hx hb d ho (fun q => ht _ _ _ _ _ _ _ _ (hk.1 q) hw hS hl hc hz) (fun q => h _ _ _ _ _ _ _ _ (hk.2 q) hw hS hl hc hz)
  · exact hk.elim
theorem x_ic_eq {T : Ct} {cc : ByteArray} {nL : Nat} {own : String} {MC MS pc : Nat} {Qf : State → Prop} (C : Cx T cc nL own MC MS) {off : Int} {tgt : Nat} {t : Kt} (ht : Sd T nL Qf MC MS tgt t) (d : decode cc pc = .ok (.if_icmp .eq off, 3)) (ho : (pc : Int) + off = (tgt : Int)) {k : Kt} (h : Sd T nL Qf MC MS (pc + 3) k) : Sd T nL Qf MC MS pc (ifc (fun x y => x = y) t k) := by
  obtain ⟨p, l, e, R, s, m, args, below, meth, c, D, cA, base⟩ := T
  intro H locs ls lv st S cz zz hk hw hS hl hc hz
  obtain ⟨hx, hb, hml, hown, hts, hg, hlk, hRc, hRs⟩ := C
  unfold ifc at hk
  split at hk
  · exact lv_icmp_eq hx hb d ho (fun q => ht _ _ _ _ _ _ _ _ (hk.1 q) hw hS hl hc hz) (fun q => h _ _ _ _ _ _ _ _ (hk.2 q) hw hS hl hc hz)
  · exact hk.elim
theorem x_if_lt {T : Ct} {cc : ByteArray} {nL : Nat} {own : String} {MC MS pc : Nat} {Qf : State → Prop} (C : Cx T cc nL own MC MS) {off : Int} {tgt : Nat} {t : Kt} (ht : Sd T nL Qf MC MS tgt t) (d : decode cc pc = .ok (.ifCond .lt off, 3)) (ho : (pc : Int) + off = (tgt : Int)) {k : Kt} (h : Sd T nL Qf MC MS (pc + 3) k) : Sd T nL Qf MC MS pc (ifz (fun x => x < 0) t k) := by
  obtain ⟨p, l, e, R, s, m, args, below, meth, c, D, cA, base⟩ := T
  intro H locs ls lv st S cz zz hk hw hS hl hc hz
  obtain ⟨hx, hb, hml, hown, hts, hg, hlk, hRc, hRs⟩ := C
  unfold ifz at hk
  split at hk
  · exact lv_if_lt hx hb d ho (fun q => ht _ _ _ _ _ _ _ _ (hk.1 q) hw hS hl hc hz) (fun q => h _ _ _ _ _ _ _ _ (hk.2 q) hw hS hl hc hz)
  · exact hk.elim
theorem x_ic_lt {T : Ct} {cc : ByteArray} {nL : Nat} {own : String} {MC MS pc : Nat} {Qf : State → Prop} (C : Cx T cc nL own MC MS) {off : Int} {tgt : Nat} {t : Kt} (ht : Sd T nL Qf MC MS tgt t) (d : decode cc pc = .ok (.if_icmp .lt off, 3)) (ho : (pc : Int) + off = (tgt : Int)) {k : Kt} (h : Sd T nL Qf MC MS (pc + 3) k) : Sd T nL Qf MC MS pc (ifc (fun x y => x < y) t k) := by
  obtain ⟨p, l, e, R, s, m, args, below, meth, c, D, cA, base⟩ := T
  intro H locs ls lv st S cz zz hk hw hS hl hc hz
  obtain ⟨hx, hb, hml, hown, hts, hg, hlk, hRc, hRs⟩ := C
  unfold ifc at hk
  split at hk
  · exact lv_icmp_lt hx hb d ho (fun q => ht _ _ _ _ _ _ _ _ (hk.1 q) hw hS hl hc hz) (fun q => h _ _ _ _ _ _ _ _ (hk.2 q) hw hS hl hc hz)
  · exact hk.elim
theorem x_if_ge {T : Ct} {cc : ByteArray} {nL : Nat} {own : String} {MC MS pc : Nat} {Qf : State → Prop} (C : Cx T cc nL own MC MS) {off : Int} {tgt : Nat} {t : Kt} (ht : Sd T nL Qf MC MS tgt t) (d : decode cc pc = .ok (.ifCond .ge off, 3)) (ho : (pc : Int) + off = (tgt : Int)) {k : Kt} (h : Sd T nL Qf MC MS (pc + 3) k) : Sd T nL Qf MC MS pc (ifz (fun x => 0 ≤ x) t k) := by
  obtain ⟨p, l, e, R, s, m, args, below, meth, c, D, cA, base⟩ := T
  intro H locs ls lv st S cz zz hk hw hS hl hc hz
  obtain ⟨hx, hb, hml, hown, hts, hg, hlk, hRc, hRs⟩ := C
  unfold ifz at hk
  split at hk
  · exact lv_if_ge hx hb d ho (fun q => ht _ _ _ _ _ _ _ _ (hk.1 q) hw hS hl hc hz) (fun q => h _ _ _ _ _ _ _ _ (hk.2 q) hw hS hl hc hz)
  · exact hk.elim
theorem x_ic_ge {T : Ct} {cc : ByteArray} {nL : Nat} {own : String} {MC MS pc : Nat} {Qf : State → Prop} (C : Cx T cc nL own MC MS) {off : Int} {tgt : Nat} {t : Kt} (ht : Sd T nL Qf MC MS tgt t) (d : decode cc pc = .ok (.if_icmp .ge off, 3)) (ho : (pc : Int) + off = (tgt : Int)) {k : Kt} (h : Sd T nL Qf MC MS (pc + 3) k) : Sd T nL Qf MC MS pc (ifc (fun x y => y ≤ x) t k) := by
  obtain ⟨p, l, e, R, s, m, args, below, meth, c, D, cA, base⟩ := T
  intro H locs ls lv st S cz zz hk hw hS hl hc hz
  obtain ⟨hx, hb, hml, hown, hts, hg, hlk, hRc, hRs⟩ := C
  unfold ifc at hk
  split at hk
  · exact lv_icmp_ge hx hb d ho (fun q => ht _ _ _ _ _ _ _ _ (hk.1 q) hw hS hl hc hz) (fun q => h _ _ _ _ _ _ _ _ (hk.2 q) hw hS hl hc hz)
  · exact hk.elim
theorem x_if_gt {T : Ct} {cc : ByteArray} {nL : Nat} {own : String} {MC MS pc : Nat} {Qf : State → Prop} (C : Cx T cc nL own MC MS) {off : Int} {tgt : Nat} {t : Kt} (ht : Sd T nL Qf MC MS tgt t) (d : decode cc pc = .ok (.ifCond .gt off, 3)) (ho : (pc : Int) + off = (tgt : Int)) {k : Kt} (h : Sd T nL Qf MC MS (pc + 3) k) : Sd T nL Qf MC MS pc (ifz (fun x => 0 < x) t k) := by
  obtain ⟨p, l, e, R, s, m, args, below, meth, c, D, cA, base⟩ := T
  intro H locs ls lv st S cz zz hk hw hS hl hc hz
  obtain ⟨hx, hb, hml, hown, hts, hg, hlk, hRc, hRs⟩ := C
  unfold ifz at hk
  split at hk
  · exact lv_if_gt hx hb d ho (fun q => ht _ _ _ _ _ _ _ _ (hk.1 q) hw hS hl hc hz) (fun q => h _ _ _ _ _ _ _ _ (hk.2 q) hw hS hl hc hz)
  · exact hk.elim
theorem x_ic_gt {T : Ct} {cc : ByteArray} {nL : Nat} {own : String} {MC MS pc : Nat} {Qf : State → Prop} (C : Cx T cc nL own MC MS) {off : Int} {tgt : Nat} {t : Kt} (ht : Sd T nL Qf MC MS tgt t) (d : decode cc pc = .ok (.if_icmp .gt off, 3)) (ho : (pc : Int) + off = (tgt : Int)) {k : Kt} (h : Sd T nL Qf MC MS (pc + 3) k) : Sd T nL Qf MC MS pc (ifc (fun x y => y < x) t k) := by
  obtain ⟨p, l, e, R, s, m, args, below, meth, c, D, cA, base⟩ := T
  intro H locs ls lv st S cz zz hk hw hS hl hc hz
  obtain ⟨hx, hb, hml, hown, hts, hg, hlk, hRc, hRs⟩ := C
  unfold ifc at hk
  split at hk
  · exact lv_icmp_gt hx hb d ho (fun q => ht _ _ _ _ _ _ _ _ (hk.1 q) hw hS hl hc hz) (fun q => h _ _ _ _ _ _ _ _ (hk.2 q) hw hS hl hc hz)
  · exact hk.elim
theorem x_if_le {T : Ct} {cc : ByteArray} {nL : Nat} {own : String} {MC MS pc : Nat} {Qf : State → Prop} (C : Cx T cc nL own MC MS) {off : Int} {tgt : Nat} {t : Kt} (ht : Sd T nL Qf MC MS tgt t) (d : decode cc pc = .ok (.ifCond .le off, 3)) (ho : (pc : Int) + off = (tgt : Int)) {k : Kt} (h : Sd T nL Qf MC MS (pc + 3) k) : Sd T nL Qf MC MS pc (ifz (fun x => x ≤ 0) t k) := by
  obtain ⟨p, l, e, R, s, m, args, below, meth, c, D, cA, base⟩ := T
  intro H locs ls lv st S cz zz hk hw hS hl hc hz
  obtain ⟨hx, hb, hml, hown, hts, hg, hlk, hRc, hRs⟩ := C
  unfold ifz at hk
  split at hk
  · exact lv_if_le hx hb d ho (fun q => ht _ _ _ _ _ _ _ _ (hk.1 q) hw hS hl hc hz) (fun q => h _ _ _ _ _ _ _ _ (hk.2 q) hw hS hl hc hz)
  · exact hk.elim
theorem x_ic_le {T : Ct} {cc : ByteArray} {nL : Nat} {own : String} {MC MS pc : Nat} {Qf : State → Prop} (C : Cx T cc nL own MC MS) {off : Int} {tgt : Nat} {t : Kt} (ht : Sd T nL Qf MC MS tgt t) (d : decode cc pc = .ok (.if_icmp .le off, 3)) (ho : (pc : Int) + off = (tgt : Int)) {k : Kt} (h : Sd T nL Qf MC MS (pc + 3) k) : Sd T nL Qf MC MS pc (ifc (fun x y => x ≤ y) t k) := by
  obtain ⟨p, l, e, R, s, m, args, below, meth, c, D, cA, base⟩ := T
  intro H locs ls lv st S cz zz hk hw hS hl hc hz
  obtain ⟨hx, hb, hml, hown, hts, hg, hlk, hRc, hRs⟩ := C
  unfold ifc at hk
  split at hk
  · exact lv_icmp_le hx hb d ho (fun q => ht _ _ _ _ _ _ _ _ (hk.1 q) hw hS hl hc hz) (fun q => h _ _ _ _ _ _ _ _ (hk.2 q) hw hS hl hc hz)
  · exact hk.elim
theorem x_if_ne {T : Ct} {cc : ByteArray} {nL : Nat} {own : String} {MC MS pc : Nat} {Qf : State → Prop} (C : Cx T cc nL own MC MS) {off : Int} {tgt : Nat} {t : Kt} (ht : Sd T nL Qf MC MS tgt t) (d : decode cc pc = .ok (.ifCond .ne off, 3)) (ho : (pc : Int) + off = (tgt : Int)) {k : Kt} (h : Sd T nL Qf MC MS (pc + 3) k) : Sd T nL Qf MC MS pc (ifz (fun x => x = 0) k t) := by
  obtain ⟨p, l, e, R, s, m, args, below, meth, c, D, cA, base⟩ := T
  intro H locs ls lv st S cz zz hk hw hS hl hc hz
  obtain ⟨hx, hb, hml, hown, hts, hg, hlk, hRc, hRs⟩ := C
  unfold ifz at hk
  split at hk
  · exact lv_if_ne hx hb d ho (fun q => ht _ _ _ _ _ _ _ _ (hk.2 q) hw hS hl hc hz) (fun q => h _ _ _ _ _ _ _ _ (hk.1 q) hw hS hl hc hz)
  · exact hk.elim
theorem x_ic_ne {T : Ct} {cc : ByteArray} {nL : Nat} {own : String} {MC MS pc : Nat} {Qf : State → Prop} (C : Cx T cc nL own MC MS) {off : Int} {tgt : Nat} {t : Kt} (ht : Sd T nL Qf MC MS tgt t) (d : decode cc pc = .ok (.if_icmp .ne off, 3)) (ho : (pc : Int) + off = (tgt : Int)) {k : Kt} (h : Sd T nL Qf MC MS (pc + 3) k) : Sd T nL Qf MC MS pc (ifc (fun x y => x = y) k t) := by
  obtain ⟨p, l, e, R, s, m, args, below, meth, c, D, cA, base⟩ := T
  intro H locs ls lv st S cz zz hk hw hS hl hc hz
  obtain ⟨hx, hb, hml, hown, hts, hg, hlk, hRc, hRs⟩ := C
  unfold ifc at hk
  split at hk
  · exact lv_icmp_ne hx hb d ho (fun q => ht _ _ _ _ _ _ _ _ (hk.2 q) hw hS hl hc hz) (fun q => h _ _ _ _ _ _ _ _ (hk.1 q) hw hS hl hc hz)
  · exact hk.elim
theorem x_ifnull {T : Ct} {cc : ByteArray} {nL : Nat} {own : String} {MC MS pc : Nat} {Qf : State → Prop} (C : Cx T cc nL own MC MS) {off : Int} {tgt : Nat} {t : Kt} (ht : Sd T nL Qf MC MS tgt t) (d : decode cc pc = .ok (.ifnull off, 3)) (ho : (pc : Int) + off = (tgt : Int)) {k : Kt} (h : Sd T nL Qf MC MS (pc + 3) k) : Sd T nL Qf MC MS pc (ifn t k) := by
  obtain ⟨p, l, e, R, s, m, args, below, meth, c, D, cA, base⟩ := T
  intro H locs ls lv st S cz zz hk hw hS hl hc hz
  obtain ⟨hx, hb, hml, hown, hts, hg, hlk, hRc, hRs⟩ := C
  unfold ifn at hk
  split at hk
  · exact lv_ifnullN hx hb d ho (ht _ _ _ _ _ _ _ _ hk hw hS hl hc hz)
  · exact lv_ifnull hx hb d (h _ _ _ _ _ _ _ _ hk hw hS hl hc hz)
  · exact hk.elim
theorem x_ifnonnull {T : Ct} {cc : ByteArray} {nL : Nat} {own : String} {MC MS pc : Nat} {Qf : State → Prop} (C : Cx T cc nL own MC MS) {off : Int} {tgt : Nat} {t : Kt} (ht : Sd T nL Qf MC MS tgt t) (d : decode cc pc = .ok (.ifnonnull off, 3)) (ho : (pc : Int) + off = (tgt : Int)) {k : Kt} (h : Sd T nL Qf MC MS (pc + 3) k) : Sd T nL Qf MC MS pc (ifn k t) := by
  obtain ⟨p, l, e, R, s, m, args, below, meth, c, D, cA, base⟩ := T
  intro H locs ls lv st S cz zz hk hw hS hl hc hz
  obtain ⟨hx, hb, hml, hown, hts, hg, hlk, hRc, hRs⟩ := C
  unfold ifn at hk
  split at hk
  · exact lv_ifnonnullN hx hb d (h _ _ _ _ _ _ _ _ hk hw hS hl hc hz)
  · exact lv_ifnonnull hx hb d ho (ht _ _ _ _ _ _ _ _ hk hw hS hl hc hz)
  · exact hk.elim
theorem x_switch {T : Ct} {cc : ByteArray} {nL : Nat} {own : String} {MC MS pc : Nat} {Qf : State → Prop} (C : Cx T cc nL own MC MS) {dflt lo hi : Int} {offs : Array Int} {len tgt : Nat} {t : Kt} {ts : Nat → Kt} (ht : Sd T nL Qf MC MS tgt t) (d : decode cc pc = .ok (.tableswitch dflt lo hi offs, len)) (ho : (pc : Int) + dflt = (tgt : Int)) (hts0 : ∀ j : Nat, lo + (j : Int) ≤ hi → ∃ (off : Int) (tg : Nat), offs[j]? = some off ∧ (pc : Int) + off = (tg : Int) ∧ Sd T nL Qf MC MS tg (ts j)) : Sd T nL Qf MC MS pc (swt lo hi ts t) := by
  obtain ⟨p, l, e, R, s, m, args, below, meth, c, D, cA, base⟩ := T
  intro H locs ls lv st S cz zz hk hw hS hl hc hz
  obtain ⟨hx, hb, hml, hown, hts, hg, hlk, hRc, hRs⟩ := C
  unfold swt at hk
  split at hk
  · next x r =>
    by_cases h1 : x.toInt < lo ∨ hi < x.toInt
    · exact lv_tableOut hx hb d h1 ho (ht _ _ _ _ _ _ _ _ (hk.1 h1) hw hS hl hc hz)
    · have h2 : ¬ x.toInt < lo := fun q => h1 (Or.inl q)
      have h3 : ¬ hi < x.toInt := fun q => h1 (Or.inr q)
      have h4 : x.toInt = lo + ((x.toInt - lo).toNat : Int) := by omega
      have h5 : lo + ((x.toInt - lo).toNat : Int) ≤ hi := by omega
      obtain ⟨off, tg, g1, g2, g3⟩ := hts0 _ h5
      exact lv_tableIn hx hb d h2 h3 g1 g2 (g3 _ _ _ _ _ _ _ _ (hk.2 _ h4 h5) hw hS hl hc hz)
  · exact hk.elim
theorem x_gI {T : Ct} {cc : ByteArray} {nL : Nat} {own : String} {MC MS pc : Nat} {Qf : State → Prop} (C : Cx T cc nL own MC MS) {idx ci j N : Nat} {ref Cn : String} {TX : u_T} (hcl : vwCl[ci]? = some (Cn, TX, N)) (hci : ci < 9) (hin : ∀ w ∈ u_ws Cn TX N, w ∈ TT) (hj : j < N) (hm : Cond.fieldLink own idx ref (TX j).2.1 (TX j).2.2.1 ∈ TT) (hrf : (TX j).1 = ref) (hsg : (sg ci)[j]? = some false) (d : decode cc pc = .ok (.getfield idx, 3)) {k : Kt} (h : Sd T nL Qf MC MS (pc + 3) k) : Sd T nL Qf MC MS pc (gI ci j k) := by
  obtain ⟨p, l, e, R, s, m, args, below, meth, c, D, cA, base⟩ := T
  intro H locs ls lv st S cz zz hk hw hS hl hc hz
  obtain ⟨hx, hb, hml, hown, hts, hg, hlk, hRc, hRs⟩ := C
  unfold gI at hk
  split at hk
  · next a r =>
    obtain ⟨hka, hk⟩ := hk
    have hlen : j < (sg ci).length := (List.getElem?_eq_some_iff.mp hsg).1
    have hgd : (sg ci).getD j false = false := by rw [List.getD_eq_getElem?_getD, hsg]; rfl
    have hP : va_P D vwCl [(a, fF cA S a)] H := fun k2 q hq => by
      have hz2 : k2 < 1 := (List.getElem?_eq_some_iff.mp hq).1
      rw [show k2 = 0 by omega] at hq
      cases hq
      exact (hw a (by rw [hka]; omega)).2
    rw [fF_obj hka hci] at hP
    subst hrf
    exact va_get (D := D) (ci := ci) (v := .int (sI S a j)) hx hb hts hin hown hg.1 hP 0 rfl hcl j hj (hts _ hm) (fun _ h9 => h9) (by rw [fl_at _ _ hlen, fv_I _ _ hgd]) d (h _ _ _ _ _ _ _ _ hk hw hS hl hc hz)
  · exact hk.elim
theorem x_gR {T : Ct} {cc : ByteArray} {nL : Nat} {own : String} {MC MS pc : Nat} {Qf : State → Prop} (C : Cx T cc nL own MC MS) {idx ci j N : Nat} {ref Cn : String} {TX : u_T} (hcl : vwCl[ci]? = some (Cn, TX, N)) (hci : ci < 9) (hin : ∀ w ∈ u_ws Cn TX N, w ∈ TT) (hj : j < N) (hm : Cond.fieldLink own idx ref (TX j).2.1 (TX j).2.2.1 ∈ TT) (hrf : (TX j).1 = ref) (hsg : (sg ci)[j]? = some true) (d : decode cc pc = .ok (.getfield idx, 3)) {k : Kt} (h : Sd T nL Qf MC MS (pc + 3) k) : Sd T nL Qf MC MS pc (gR ci j k) := by
  obtain ⟨p, l, e, R, s, m, args, below, meth, c, D, cA, base⟩ := T
  intro H locs ls lv st S cz zz hk hw hS hl hc hz
  obtain ⟨hx, hb, hml, hown, hts, hg, hlk, hRc, hRs⟩ := C
  unfold gR at hk
  split at hk
  · next a r =>
    obtain ⟨hka, hk⟩ := hk
    have hk := hk _ rfl
    have hlen : j < (sg ci).length := (List.getElem?_eq_some_iff.mp hsg).1
    have hgd : (sg ci).getD j false = true := by rw [List.getD_eq_getElem?_getD, hsg]; rfl
    have hP : va_P D vwCl [(a, fF cA S a)] H := fun k2 q hq => by
      have hz2 : k2 < 1 := (List.getElem?_eq_some_iff.mp hq).1
      rw [show k2 = 0 by omega] at hq
      cases hq
      exact (hw a (by rw [hka]; omega)).2
    rw [fF_obj hka hci] at hP
    subst hrf
    exact va_get (D := D) (ci := ci) (v := va_rf (sR S a j)) hx hb hts hin hown hg.1 hP 0 rfl hcl j hj (hts _ hm) (fun _ h9 => h9) (by rw [fl_at _ _ hlen, fv_R _ _ hgd]) d (h _ _ _ _ _ _ _ _ hk hw hS hl hc hz)
  · exact hk.elim
theorem x_tI {T : Ct} {cc : ByteArray} {nL : Nat} {own : String} {MC MS pc : Nat} {Qf : State → Prop} (C : Cx T cc nL own MC MS) {idx ci j N : Nat} {ref Cn : String} {TX : u_T} (hcl : vwCl[ci]? = some (Cn, TX, N)) (hci : ci < 9) (hin : ∀ w ∈ u_ws Cn TX N, w ∈ TT) (hj : j < N) (hm : Cond.fieldLink own idx ref (TX j).2.1 (TX j).2.2.1 ∈ TT) (hrf : (TX j).1 = ref) (hsg : (sg ci)[j]? = some false) (ty0 : Nat → FieldType) (hty : ∀ k, k < N → parseFieldDescriptor (TX k).2.2.1 = some (ty0 k)) (hnm : ∀ a, a < N → ∀ b, b < N → a ≠ b → (TX a).2.1 ≠ (TX b).2.1) (hfin : (TX j).2.2.2 = false) (hd : parseFieldDescriptor (TX j).2.2.1 = some .int) (d : decode cc pc = .ok (.putfield idx, 3)) {k : Kt} (h : Sd T nL Qf MC MS (pc + 3) k) : Sd T nL Qf MC MS pc (tI ci j k) := by
  obtain ⟨p, l, e, R, s, m, args, below, meth, c, D, cA, base⟩ := T
  intro H locs ls lv st S cz zz hk hw hS hl hc hz
  obtain ⟨hx, hb, hml, hown, hts, hg, hlk, hRc, hRs⟩ := C
  unfold tI at hk
  split at hk
  · next v a r =>
    obtain ⟨hka, hk⟩ := hk
    have hlen : j < (sg ci).length := (List.getElem?_eq_some_iff.mp hsg).1
    have hgd : (sg ci).getD j false = false := by rw [List.getD_eq_getElem?_getD, hsg]; rfl
    have hne : sK S a ≠ 0 := by rw [hka]; omega
    obtain ⟨q, hq⟩ := va_pl_get (X := []) (f := fF cA S) (LL_mem hw hne)
    subst hrf
    refine va_put (D := D) (ci := ci) (v := .int v) hx hb hts hin ty0 hty hnm hown hg.1 (wd_P hw) (wd_D hw) hS q (by rw [hq, fF_obj hka hci]) hcl j hj (hts _ hm) (fun _ h9 => h9) hfin hd rfl rfl (by rw [fl_len]; exact hlen) d (fun H1 locs1 g1 g2 g3 => ?_)
    exact h _ _ _ _ _ _ _ _ hk (wd_set hw hne (fun _ => rfl) (set_pI hka hci hlen hgd) hq g1) g3 hl hc hz
  · exact hk.elim
theorem x_tZ {T : Ct} {cc : ByteArray} {nL : Nat} {own : String} {MC MS pc : Nat} {Qf : State → Prop} (C : Cx T cc nL own MC MS) {idx ci j N : Nat} {ref Cn : String} {TX : u_T} (hcl : vwCl[ci]? = some (Cn, TX, N)) (hci : ci < 9) (hin : ∀ w ∈ u_ws Cn TX N, w ∈ TT) (hj : j < N) (hm : Cond.fieldLink own idx ref (TX j).2.1 (TX j).2.2.1 ∈ TT) (hrf : (TX j).1 = ref) (hsg : (sg ci)[j]? = some false) (ty0 : Nat → FieldType) (hty : ∀ k, k < N → parseFieldDescriptor (TX k).2.2.1 = some (ty0 k)) (hnm : ∀ a, a < N → ∀ b, b < N → a ≠ b → (TX a).2.1 ≠ (TX b).2.1) (hfin : (TX j).2.2.2 = false) (hd : parseFieldDescriptor (TX j).2.2.1 = some .boolean) (d : decode cc pc = .ok (.putfield idx, 3)) {k : Kt} (h : Sd T nL Qf MC MS (pc + 3) k) : Sd T nL Qf MC MS pc (tZ ci j k) := by
  obtain ⟨p, l, e, R, s, m, args, below, meth, c, D, cA, base⟩ := T
  intro H locs ls lv st S cz zz hk hw hS hl hc hz
  obtain ⟨hx, hb, hml, hown, hts, hg, hlk, hRc, hRs⟩ := C
  unfold tZ at hk
  split at hk
  · next v a r =>
    obtain ⟨hka, hbv, hk⟩ := hk
    have hlen : j < (sg ci).length := (List.getElem?_eq_some_iff.mp hsg).1
    have hgd : (sg ci).getD j false = false := by rw [List.getD_eq_getElem?_getD, hsg]; rfl
    have hne : sK S a ≠ 0 := by rw [hka]; omega
    obtain ⟨q, hq⟩ := va_pl_get (X := []) (f := fF cA S) (LL_mem hw hne)
    subst hrf
    refine va_put (D := D) (ci := ci) (v := .int v) hx hb hts hin ty0 hty hnm hown hg.1 (wd_P hw) (wd_D hw) hS q (by rw [hq, fF_obj hka hci]) hcl j hj (hts _ hm) (fun _ h9 => h9) hfin hd (by rcases hbv with rfl | rfl <;> rfl) (by rcases hbv with rfl | rfl <;> rfl) (by rw [fl_len]; exact hlen) d (fun H1 locs1 g1 g2 g3 => ?_)
    exact h _ _ _ _ _ _ _ _ hk (wd_set hw hne (fun _ => rfl) (set_pI hka hci hlen hgd) hq g1) g3 hl hc hz
  · exact hk.elim
theorem x_tF {T : Ct} {cc : ByteArray} {nL : Nat} {own : String} {MC MS pc : Nat} {Qf : State → Prop} (C : Cx T cc nL own MC MS) {ty : FieldType} {idx ci j N : Nat} {ref Cn : String} {TX : u_T} (hcl : vwCl[ci]? = some (Cn, TX, N)) (hci : ci < 9) (hin : ∀ w ∈ u_ws Cn TX N, w ∈ TT) (hj : j < N) (hm : Cond.fieldLink own idx ref (TX j).2.1 (TX j).2.2.1 ∈ TT) (hrf : (TX j).1 = ref) (hsg : (sg ci)[j]? = some true) (ty0 : Nat → FieldType) (hty : ∀ k, k < N → parseFieldDescriptor (TX k).2.2.1 = some (ty0 k)) (hnm : ∀ a, a < N → ∀ b, b < N → a ≠ b → (TX a).2.1 ≠ (TX b).2.1) (hfin : (TX j).2.2.2 = true) (hd : parseFieldDescriptor (TX j).2.2.1 = some ty) (d : decode cc pc = .ok (.putfield idx, 3)) (hin2 : T.2.2.2.2.2.2.2.2.1.name = "<init>") (hdecl : (TX j).1 = own) (hn : ∀ v : Nat, narrow ty (.ref v) = .ref v) (hft : ∀ v : Nat, fits ty (.ref v) = true) {k : Kt} (h : Sd T nL Qf MC MS (pc + 3) k) : Sd T nL Qf MC MS pc (tF ci j k) := by
  obtain ⟨p, l, e, R, s, m, args, below, meth, c, D, cA, base⟩ := T
  intro H locs ls lv st S cz zz hk hw hS hl hc hz
  obtain ⟨hx, hb, hml, hown, hts, hg, hlk, hRc, hRs⟩ := C
  unfold tF at hk
  split at hk
  · next v a r =>
    obtain ⟨hka, hk⟩ := hk
    have hlen : j < (sg ci).length := (List.getElem?_eq_some_iff.mp hsg).1
    have hgd : (sg ci).getD j false = true := by rw [List.getD_eq_getElem?_getD, hsg]; rfl
    have hne : sK S a ≠ 0 := by rw [hka]; omega
    obtain ⟨q, hq⟩ := va_pl_get (X := []) (f := fF cA S) (LL_mem hw hne)
    subst hrf
    refine va_putF (D := D) (ci := ci) (v := .ref v) hx hb hts hin ty0 hty hnm hown hg.1 (wd_P hw) (wd_D hw) hS q (by rw [hq, fF_obj hka hci]) hcl j hj (hts _ hm) (fun _ h9 => h9) hfin hin2 hdecl hd (hn v) (hft v) (by rw [fl_len]; exact hlen) d (fun H1 locs1 g1 g2 g3 => ?_)
    exact h _ _ _ _ _ _ _ _ hk (wd_set hw hne (fun _ => rfl) (set_pR (v := some v) hka hci hlen hgd) hq g1) g3 hl hc hz
  · exact hk.elim
theorem x_iald {T : Ct} {cc : ByteArray} {nL : Nat} {own : String} {MC MS pc : Nat} {Qf : State → Prop} (C : Cx T cc nL own MC MS) (d : decode cc pc = .ok (.iaload, 1)) {k : Kt} (h : Sd T nL Qf MC MS (pc + 1) k) : Sd T nL Qf MC MS pc (aI 10 k) := by
  obtain ⟨p, l, e, R, s, m, args, below, meth, c, D, cA, base⟩ := T
  intro H locs ls lv st S cz zz hk hw hS hl hc hz
  obtain ⟨hx, hb, hml, hown, hts, hg, hlk, hRc, hRs⟩ := C
  unfold aI at hk
  split at hk
  · next i a r =>
    obtain ⟨hka, hi, hk⟩ := hk
    have hP : va_P D vwCl [(a, fF cA S a)] H := fun k2 q hq => by
      have hz2 : k2 < 1 := (List.getElem?_eq_some_iff.mp hq).1
      rw [show k2 = 0 by omega] at hq
      cases hq
      exact (hw a (by rw [hka]; omega)).2
    rw [fF_int hka (by omega) (by omega)] at hP
    exact va_iald hx hb hg.1 hP 0 0 rfl rfl hi d (h _ _ _ _ _ _ _ _ hk hw hS hl hc hz)
  · exact hk.elim
theorem x_zald {T : Ct} {cc : ByteArray} {nL : Nat} {own : String} {MC MS pc : Nat} {Qf : State → Prop} (C : Cx T cc nL own MC MS) (d : decode cc pc = .ok (.baload, 1)) {k : Kt} (h : Sd T nL Qf MC MS (pc + 1) k) : Sd T nL Qf MC MS pc (aI 11 k) := by
  obtain ⟨p, l, e, R, s, m, args, below, meth, c, D, cA, base⟩ := T
  intro H locs ls lv st S cz zz hk hw hS hl hc hz
  obtain ⟨hx, hb, hml, hown, hts, hg, hlk, hRc, hRs⟩ := C
  unfold aI at hk
  split at hk
  · next i a r =>
    obtain ⟨hka, hi, hk⟩ := hk
    have hP : va_P D vwCl [(a, fF cA S a)] H := fun k2 q hq => by
      have hz2 : k2 < 1 := (List.getElem?_eq_some_iff.mp hq).1
      rw [show k2 = 0 by omega] at hq
      cases hq
      exact (hw a (by rw [hka]; omega)).2
    rw [fF_int hka (by omega) (by omega)] at hP
    exact va_zald hx hb hg.1 hP 0 1 rfl rfl hi d (h _ _ _ _ _ _ _ _ hk hw hS hl hc hz)
  · exact hk.elim
theorem x_lald {T : Ct} {cc : ByteArray} {nL : Nat} {own : String} {MC MS pc : Nat} {Qf : State → Prop} (C : Cx T cc nL own MC MS) (d : decode cc pc = .ok (.laload, 1)) {k : Kt} (h : Sd T nL Qf MC MS (pc + 1) k) : Sd T nL Qf MC MS pc (aJ k) := by
  obtain ⟨p, l, e, R, s, m, args, below, meth, c, D, cA, base⟩ := T
  intro H locs ls lv st S cz zz hk hw hS hl hc hz
  obtain ⟨hx, hb, hml, hown, hts, hg, hlk, hRc, hRs⟩ := C
  unfold aJ at hk
  split at hk
  · next i a r =>
    obtain ⟨hka, hi, hk⟩ := hk
    have hP : va_P D vwCl [(a, fF cA S a)] H := fun k2 q hq => by
      have hz2 : k2 < 1 := (List.getElem?_eq_some_iff.mp hq).1
      rw [show k2 = 0 by omega] at hq
      cases hq
      exact (hw a (by rw [hka]; omega)).2
    rw [fF_long hka] at hP
    exact va_lald hx hb hg.1 hP 0 8 rfl rfl hi d (h _ _ _ _ _ _ _ _ hk hw hS hl hc hz)
  · exact hk.elim
theorem x_aald {T : Ct} {cc : ByteArray} {nL : Nat} {own : String} {MC MS pc : Nat} {Qf : State → Prop} (C : Cx T cc nL own MC MS) {kd t0 : Nat} {Cn : String} (h1 : 12 ≤ kd) (h2 : kd ≤ 17) (ht0 : ∀ cA : Nat → ClassId, (tyA cA)[t0]? = some (cA kd, .object Cn)) (d : decode cc pc = .ok (.aaload, 1)) {k : Kt} (h : Sd T nL Qf MC MS (pc + 1) k) : Sd T nL Qf MC MS pc (aR kd k) := by
  obtain ⟨p, l, e, R, s, m, args, below, meth, c, D, cA, base⟩ := T
  intro H locs ls lv st S cz zz hk hw hS hl hc hz
  obtain ⟨hx, hb, hml, hown, hts, hg, hlk, hRc, hRs⟩ := C
  unfold aR at hk
  split at hk
  · next i a r =>
    obtain ⟨hka, hi, hk⟩ := hk
    have hk := hk _ rfl
    have hP : va_P D vwCl [(a, fF cA S a)] H := fun k2 q hq => by
      have hz2 : k2 < 1 := (List.getElem?_eq_some_iff.mp hq).1
      rw [show k2 = 0 by omega] at hq
      cases hq
      exact (hw a (by rw [hka]; omega)).2
    rw [fF_ref hka h1 h2] at hP
    exact va_aldq hx hb hg.1 hP 0 t0 rfl (ht0 cA) hi d (h _ _ _ _ _ _ _ _ hk hw hS hl hc hz)
  · exact hk.elim
theorem x_iast {T : Ct} {cc : ByteArray} {nL : Nat} {own : String} {MC MS pc : Nat} {Qf : State → Prop} (C : Cx T cc nL own MC MS) (d : decode cc pc = .ok (.iastore, 1)) {k : Kt} (h : Sd T nL Qf MC MS (pc + 1) k) : Sd T nL Qf MC MS pc (sAI k) := by
  obtain ⟨p, l, e, R, s, m, args, below, meth, c, D, cA, base⟩ := T
  intro H locs ls lv st S cz zz hk hw hS hl hc hz
  obtain ⟨hx, hb, hml, hown, hts, hg, hlk, hRc, hRs⟩ := C
  unfold sAI at hk
  split at hk
  · next v i a r =>
    obtain ⟨hka, hi, hk⟩ := hk
    have hne : sK S a ≠ 0 := by rw [hka]; omega
    obtain ⟨q, hq⟩ := va_pl_get (X := []) (f := fF cA S) (LL_mem hw hne)
    refine va_iast hx hb hg.1 (wd_P hw) (wd_D hw) hS q 0 (by rw [hq, fF_int hka (by omega) (by omega)]) rfl hi d (fun H1 locs1 g1 g2 g3 => ?_)
    exact h _ _ _ _ _ _ _ _ hk (wd_set hw hne (fun _ => rfl) (set_aI hka (by omega) (by omega)) hq g1) g3 hl hc hz
  · exact hk.elim
theorem x_zast {T : Ct} {cc : ByteArray} {nL : Nat} {own : String} {MC MS pc : Nat} {Qf : State → Prop} (C : Cx T cc nL own MC MS) (d : decode cc pc = .ok (.bastore, 1)) {k : Kt} (h : Sd T nL Qf MC MS (pc + 1) k) : Sd T nL Qf MC MS pc (sAZ k) := by
  obtain ⟨p, l, e, R, s, m, args, below, meth, c, D, cA, base⟩ := T
  intro H locs ls lv st S cz zz hk hw hS hl hc hz
  obtain ⟨hx, hb, hml, hown, hts, hg, hlk, hRc, hRs⟩ := C
  unfold sAZ at hk
  split at hk
  · next v i a r =>
    obtain ⟨hka, hi, hbv, hk⟩ := hk
    have hne : sK S a ≠ 0 := by rw [hka]; omega
    obtain ⟨q, hq⟩ := va_pl_get (X := []) (f := fF cA S) (LL_mem hw hne)
    have hnv : vp_nar .boolean v = v := by rcases hbv with rfl | rfl <;> rfl
    refine va_zast hx hb hg.1 (wd_P hw) (wd_D hw) hS q 1 (by rw [hq, fF_int hka (by omega) (by omega)]) rfl hi d (fun H1 locs1 g1 g2 g3 => ?_)
    rw [hnv] at g1
    exact h _ _ _ _ _ _ _ _ hk (wd_set hw hne (fun _ => rfl) (set_aI hka (by omega) (by omega)) hq g1) g3 hl hc hz
  · exact hk.elim
theorem x_last {T : Ct} {cc : ByteArray} {nL : Nat} {own : String} {MC MS pc : Nat} {Qf : State → Prop} (C : Cx T cc nL own MC MS) (d : decode cc pc = .ok (.lastore, 1)) {k : Kt} (h : Sd T nL Qf MC MS (pc + 1) k) : Sd T nL Qf MC MS pc (sAJ k) := by
  obtain ⟨p, l, e, R, s, m, args, below, meth, c, D, cA, base⟩ := T
  intro H locs ls lv st S cz zz hk hw hS hl hc hz
  obtain ⟨hx, hb, hml, hown, hts, hg, hlk, hRc, hRs⟩ := C
  unfold sAJ at hk
  split at hk
  · next v i a r =>
    obtain ⟨hka, hi, hk⟩ := hk
    have hne : sK S a ≠ 0 := by rw [hka]; omega
    obtain ⟨q, hq⟩ := va_pl_get (X := []) (f := fF cA S) (LL_mem hw hne)
    refine va_last hx hb hg.1 (wd_P hw) (wd_D hw) hS q 8 (by rw [hq, fF_long hka]) rfl hi d (fun H1 locs1 g1 g2 g3 => ?_)
    exact h _ _ _ _ _ _ _ _ hk (wd_set hw hne (fun _ => rfl) (set_aJ hka) hq g1) g3 hl hc hz
  · exact hk.elim
theorem x_aast {T : Ct} {cc : ByteArray} {nL : Nat} {own : String} {MC MS pc : Nat} {Qf : State → Prop} (C : Cx T cc nL own MC MS) {ci t0 N : Nat} {Cn : String} {TX : u_T} (hci : ci < 6) (hcl : vwCl[ci]? = some (Cn, TX, N)) (ht0 : ∀ cA : Nat → ClassId, (tyA cA)[t0]? = some (cA (ci + 12), .object Cn)) (d : decode cc pc = .ok (.aastore, 1)) {k : Kt} (h : Sd T nL Qf MC MS (pc + 1) k) : Sd T nL Qf MC MS pc (sAR ci k) := by
  obtain ⟨p, l, e, R, s, m, args, below, meth, c, D, cA, base⟩ := T
  intro H locs ls lv st S cz zz hk hw hS hl hc hz
  obtain ⟨hx, hb, hml, hown, hts, hg, hlk, hRc, hRs⟩ := C
  unfold sAR at hk
  split at hk
  · next v i a r =>
    obtain ⟨hka, hi, hkv, hk⟩ := hk
    have hne : sK S a ≠ 0 := by rw [hka]; omega
    obtain ⟨q, hq⟩ := va_pl_get (X := []) (f := fF cA S) (LL_mem hw hne)
    obtain ⟨q2, hq2⟩ := va_pl_get (X := []) (f := fF cA S) (LL_mem hw (show sK S v ≠ 0 by rw [hkv]; omega))
    refine va_astq hx hb hg.1 (wd_P hw) (wd_D hw) hS q t0 q2 ci (r := (Cn, TX, N)) (by rw [hq, fF_ref hka (by omega) (by omega)]) (ht0 cA) (by rw [hq2, fF_obj hkv (by omega)]) hcl hi d (fun H1 locs1 g1 g2 g3 => ?_)
    exact h _ _ _ _ _ _ _ _ hk (wd_set hw hne (fun _ => rfl) (set_aR hka (by omega) (by omega)) hq g1) g3 hl hc hz
  · next i a r =>
    obtain ⟨hka, hi, hk⟩ := hk
    have hne : sK S a ≠ 0 := by rw [hka]; omega
    obtain ⟨q, hq⟩ := va_pl_get (X := []) (f := fF cA S) (LL_mem hw hne)
    refine va_astqN hx hb hg.1 (wd_P hw) (wd_D hw) hS q t0 (by rw [hq, fF_ref hka (by omega) (by omega)]) (ht0 cA) hi d (fun H1 locs1 g1 g2 g3 => ?_)
    exact h _ _ _ _ _ _ _ _ hk (wd_set hw hne (fun _ => rfl) (set_aR hka (by omega) (by omega)) hq g1) g3 hl hc hz
  · exact hk.elim
theorem x_i2l {T : Ct} {cc : ByteArray} {nL : Nat} {own : String} {MC MS pc : Nat} {Qf : State → Prop} (C : Cx T cc nL own MC MS) (d : decode cc pc = .ok (.i2l, 1)) {k : Kt} (h : Sd T nL Qf MC MS (pc + 1) k) : Sd T nL Qf MC MS pc (i2 k) := by
  obtain ⟨p, l, e, R, s, m, args, below, meth, c, D, cA, base⟩ := T
  intro H locs ls lv st S cz zz hk hw hS hl hc hz
  obtain ⟨hx, hb, hml, hown, hts, hg, hlk, hRc, hRs⟩ := C
  unfold i2 at hk
  split at hk
  · exact lv_i2l hx hb d rfl (h _ _ _ _ _ _ _ _ hk hw hS hl hc hz)
  · exact hk.elim
theorem x_lcmp {T : Ct} {cc : ByteArray} {nL : Nat} {own : String} {MC MS pc : Nat} {Qf : State → Prop} (C : Cx T cc nL own MC MS) (d : decode cc pc = .ok (.lcmp, 1)) {k : Kt} (h : Sd T nL Qf MC MS (pc + 1) k) : Sd T nL Qf MC MS pc (lcm k) := by
  obtain ⟨p, l, e, R, s, m, args, below, meth, c, D, cA, base⟩ := T
  intro H locs ls lv st S cz zz hk hw hS hl hc hz
  obtain ⟨hx, hb, hml, hown, hts, hg, hlk, hRc, hRs⟩ := C
  unfold lcm at hk
  split at hk
  · exact W.lcmp hx hb d (h _ _ _ _ _ _ _ _ hk hw hS hl hc hz)
  · exact hk.elim
