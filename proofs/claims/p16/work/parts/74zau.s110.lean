/-! SIMULATION 110: the counters at the start -/
theorem XSs_0 {S : MM} {x aE aC e0 e1 m : Nat} {A : Nat → Nat} (hB : BQ0 S x aE aC e0 e1) (h0 : ∀ j, sI S m j = 0) (hv : ∀ k ∈ DM, ∀ j, sI S (A k) j = fM 16 k j) : XSs S x m A := by
  refine ⟨fun _ => 0, ?_⟩
  rw [h0 32, h0 39]
  have z := fz0 hv
  have cf : ∀ c e, c < 8 → e < 2 → CF (sI S) (sR S) x c e = [] := fun c e hc he => by
    unfold CF
    rw [(ln_0 hB hc he).1 5]
    rfl
  refine ⟨⟨(hB.2.1 3).trans (h0 44).symm, (hB.2.1 4).trans (h0 45).symm, (hB.2.1 5).trans (h0 46).symm, (hB.2.1 6).trans (h0 47).symm, (hB.2.1 7).trans (h0 48).symm, (hB.2.1 8).trans (h0 49).symm⟩, fun e he => ?_, fun c e hc he => ?_, fun e he => ⟨fun c hc z hz => ?_, fun c hc z hz => ?_⟩⟩
  · obtain ⟨sys, hE, es⟩ := en_0 hB he
    obtain ⟨⟨k1, k2, k3, k4, k5, k6, k7, k8⟩, _⟩ := hE
    exact ⟨k8.trans (z 40 (by decide) (by decide) (by decide) (by decide) (by decide) (by decide) (by decide) e).symm, by rw [k7]; rfl⟩
  · rw [cf c e hc he]
    rfl
  · rw [cf c e hc he] at hz
    exact absurd hz List.not_mem_nil
  · rw [cf c e hc he] at hz
    exact absurd hz List.not_mem_nil
