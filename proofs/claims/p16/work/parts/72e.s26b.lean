/-! the relation, where the reference's cells are the same -/
theorem NR_J {R : Nat → Nat → Option Nat} {b m cl nt : Nat} {A : Nat → Nat} {I J J' : Mm} (h : NRl R b m A I J cl nt) (kk : ∀ k j, dm k → J' (A k) j = J (A k) j) (km : ∀ j, j ≠ 0 → J' m j = J m j) : NRl R b m A I J' cl nt := by
  obtain ⟨h1, h2, h3, ⟨h4a, h4b, h4c⟩, h5, h6, h7, h8, h9, h10, h11⟩ := h
  have r : ∀ k, dm k → J' (A k) = J (A k) := fun k hk => funext (fun j => kk k j hk)
  have tG : TG J' A nt = TG J A nt := TG_c (fun t _ => tg_k (fun k hk => r k ((show ∀ k ∈ ([27, 28, 29, 30, 31] : List Nat), dm k by decide) k hk)))
  refine ⟨fun x hx => ⟨RP_g (h1 x hx).1 AG.rf (fun k j a _ _ => kk k j a), (h1 x hx).2⟩, fun c e hc he => ?_, fun c e hc he => ?_, ⟨h4a, (km 43 (by decide)).trans h4b, (km 32 (by decide)).trans h4c⟩, fun e he => ?_, ?_, ?_, ?_, ?_, ?_, ?_⟩
  · rw [tG, r 26 (by decide)]; exact h2 c e hc he
  · unfold bd; rw [r 23 (by decide), r 24 (by decide)]; exact h3 c e hc he
  · rw [r 1 (by decide), r 2 (by decide)]; exact h5 e he
  · unfold RIj; rw [r 7 (by decide), r 9 (by decide), r 11 (by decide), r 22 (by decide), r 23 (by decide), r 24 (by decide), r 25 (by decide)]; exact h6
  · unfold RLj; rw [r 11 (by decide), r 22 (by decide), r 24 (by decide), r 25 (by decide)]; exact h7
  · unfold LTj; rw [r 25 (by decide), r 22 (by decide), r 7 (by decide)]; exact h8
  · unfold DLj; rw [r 24 (by decide), r 23 (by decide)]; exact h9
  · unfold UTj; rw [r 27 (by decide), r 25 (by decide)]; exact h10
  · unfold DKj; rw [r 7 (by decide), r 8 (by decide), r 18 (by decide)]; exact h11
