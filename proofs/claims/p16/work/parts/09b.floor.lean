/-! A contract where the class isn't plainly named (java/lang/Math), but no native stands for the method -/
theorem mt_ofWF {l : Launch} {y : MethodName} {ws ws' : List Cond} {rm : Room} {Pc : Array Value → State → Prop} {Qc : Array Value → State → Outcome → State → Prop} {mc ms : Nat} {free : Addr → Prop} {cc : ByteArray} {maxL : Nat} {ret : Option FieldType}
    (hy : plainFor y = true) (hw : ws = Cond.code y cc maxL ret :: ws')
    (body : ∀ p e s m args below meth c s₁, BodyLoose p l y (headSpec ws rm) cc maxL ret e s m args below meth c s₁ → c.maxLocals = maxL → Pc args s →
      W p l e (headSpec ws rm).room s m args below meth c s.heap [] 0 0 (MQ below Qc args s mc ms free) (entryFrame m args maxL)) : Met l y ws rm Pc Qc mc ms free := by
  refine MetFree.of_bodySF (code := cc) (maxLocals := maxL) (ret := ret) hy ?_ ?_
  · intro args s m h hn
    obtain ⟨meth, c, h1, h2, h3, h4, h5, h6, -, -⟩ := Cond.code_spec hn (atoms_spec (ws := ws) h _ (by rw [hw]; exact List.mem_cons_self))
    exact ⟨meth, c, h1, h2, h3, h4, h5, h6⟩
  · intro p e s m args below meth c s₁ B hml hP _
    have hh0 : s₁.heap = s.heap := by rw [B.state]; rfl
    obtain ⟨t, a1, o, b1, b2, b3⟩ := body p e s m args below meth c s₁ B hml hP s₁ hh0 (Stand.of_body B)
    exact ⟨t, o, a1, b1, b2, ⟨b3.1, b3.2⟩⟩
theorem mc_ofF {l : Launch} {D : va_G} {cA : Nat → ClassId} {base : Nat} {y : MethodName} {cc : ByteArray} {nL : Nat} {ret : Option FieldType} {rm : Room} (hy : plainFor y = true) (b : (Option Value → MM → Prop) → (Nat → Kt) → Nat → Kt)
    (hb : ∀ (T : Ct) (Q : Option Value → MM → Prop), Cx T cc nL y.cls rm.cells rm.slots → CxR T rm.frames rm.locals → T.2.2.2.2.2.2.2.2.1.sig.returnType = ret → T.2.2.2.2.2.2.2.2.1.name = y.name → ∀ nx : Nat → Kt, (∀ pc, Sd T nL (QT T Q rm.cells rm.slots) rm.cells rm.slots pc (nx pc)) → ∀ pc, Sd T nL (QT T Q rm.cells rm.slots) rm.cells rm.slots pc (b Q nx pc)) : Mc l D cA base y cc nL ret rm (mw nL b) := by
  intro as S Q hwp
  unfold mw at hwp
  split at hwp
  case h_2 => exact hwp.elim
  case h_1 hbl =>
  have hsl : (lg_sl as).length ≤ nL := Nat.le_of_ble_eq_true hbl
  obtain ⟨n, hwp⟩ := hwp
  refine mt_ofWF (cc := cc) (maxL := nL) (ret := ret) hy rfl ?_
  intro p e s m args below meth c s₁ B hml hv
  obtain ⟨rfl, hw, hg⟩ := hv
  have hts : ∀ w ∈ wsT y cc nL ret, w.before as.toArray s = true := atoms_spec (ws := wsT y cc nL ret) B.pre
  have hC : Cx (p, l, e, rm, s, m, as.toArray, below, meth, c, D, cA, base) cc nL y.cls rm.cells rm.slots := ⟨B.exec, B.bytes, hml, findClass_of_methodNamed B.named, fun w h => hts w (List.mem_cons_of_mem _ h), hg, B.notSynchronized, rfl, rfl⟩
  have key : ∀ n pc, Sd (p, l, e, rm, s, m, as.toArray, below, meth, c, D, cA, base) nL (QT (p, l, e, rm, s, m, as.toArray, below, meth, c, D, cA, base) Q rm.cells rm.slots) rm.cells rm.slots pc (wpn (b Q) n pc) := by
    intro n
    induction n with
    | zero => intro pc H locs ls lv st S cz zz hk; exact hk.elim
    | succ n ih => intro pc; exact hb _ Q hC ⟨rfl, rfl⟩ B.returns (name_of_methodNamed B.named B.method).1 _ ih pc
  have hl := lv_entry as (n := nL) hsl
  rw [lg_entry_eq]
  generalize (lg_sl as ++ List.replicate (nL - (lg_sl as).length) Slot.unset).toArray = ls at hl ⊢
  exact key n 0 s.heap [] ls (lv_args 0 as) [] S 0 0 hwp hw va_S.rf hl (Nat.zero_le _) (Nat.zero_le _)
