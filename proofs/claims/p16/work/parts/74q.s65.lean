/-! SIMULATION 65: frames and bundles at the start -/
theorem GP_0 {S : MM} {x aE aC e0 e1 m out : Nat} {A : Nat → Nat} (hT : TY S) (ir : IR S) (hM : MS S m A) (o1 : sK S out = 18) (o2 : sN S out = 1) (hO : OC S) (hB : BQ0 S x aE aC e0 e1) (h0 : ∀ j, sI S m j = 0) (hv : ∀ k ∈ DM, ∀ j, sI S (A k) j = fM 16 k j) : GP S x m out A 0 := by
  refine ⟨GN_0 hT ir hM o1 o2 hO hB h0 hv, ?_, fun y hy e => ?_⟩
  · rw [h0 43, h0 32]
    have z := fz0 hv
    have cf : ∀ c e, c < 8 → e < 2 → CF (sI S) (sR S) x c e = [] := fun c e hc he => by
      unfold CF
      rw [(ln_0 hB hc he).1 5]
      rfl
    refine ⟨fun c e hc he => ?_, fun c e hc he => ⟨⟨⟨0, by decide, (ln_0 hB hc he).1 4⟩, ⟨0, by decide, (ln_0 hB hc he).1 5⟩, fun k hk => ?_⟩, ?_⟩, fun e he => ?_⟩
    · rw [cf c e hc he]
      rfl
    · rw [(ln_0 hB hc he).1 5] at hk
      exact absurd hk (Nat.not_lt_zero k)
    · rw [cf c e hc he]
      exact ⟨fun z hz => absurd hz List.not_mem_nil, List.Pairwise.nil⟩
    · obtain ⟨sys, hE, es⟩ := en_0 hB he
      obtain ⟨⟨k1, k2, k3, k4, k5, k6, _⟩, pa, _, _, _, _, ka, c1, c2, c3, c4⟩ := hE
      have ek : kad (sR S) x e = ka := by unfold kad; rw [c1]; rfl
      refine ⟨(0, fun _ => 0), ⟨k4, k6, k5, fun j _ => by rw [ek]; exact c4 j⟩, ⟨z 42 (by decide) (by decide) (by decide) (by decide) (by decide) (by decide) (by decide) e, fun j _ => z 41 (by decide) (by decide) (by decide) (by decide) (by decide) (by decide) (by decide) _⟩, by decide⟩
  · rw [fz0 hv 9 (by decide) (by decide) (by decide) (by decide) (by decide) (by decide) (by decide)] at e
    exact absurd e (by decide)
