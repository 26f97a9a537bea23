/-! the block at a pc: by the recursors themselves, so that the kernel looks it up in a few steps -/
noncomputable def bse (l : List (Nat × Kt)) : Nat → Kt := List.rec (motive := fun _ => Nat → Kt) (fun _ => dead) (fun q _ ih pc => Bool.rec (motive := fun _ => Kt) (ih pc) q.2 (Nat.beq pc q.1)) l
theorem bse_ok {T : Ct} {nL : Nat} {MC MS : Nat} {Qf : State → Prop} : ∀ (bs : List (Nat × Kt)), (∀ q ∈ bs, Sd T nL Qf MC MS q.1 q.2) → ∀ pc, Sd T nL Qf MC MS pc (bse bs pc)
  | [], _, pc => x_dead
  | (p, b) :: r, h, pc => by
    show Sd T nL Qf MC MS pc (Bool.rec (motive := fun _ => Kt) (bse r pc) b (Nat.beq pc p))
    cases hb : Nat.beq pc p with
    | true =>
      have e : pc = p := Nat.eq_of_beq_eq_true hb
      subst e
      exact h (pc, b) List.mem_cons_self
    | false => exact bse_ok r (fun q hq => h q (List.mem_cons_of_mem _ hq)) pc
