/-! SIMULATION 67: give of the class: the lanes behind it -/
theorem i_fa {S : MM} {b c c' e e' : Nat} (hL : LY S b) (hO : OC S) (hc : c < 8) (hc' : c' < 8) (he : e < 2) (he' : e' < 2) (z : fad (sR S) b c e = fad (sR S) b c' e') : c = c' ∧ e = e' := by
  have h1 := (ly_fa hL hc he).1
  have h2 := (ly_fa hL hc' he').1
  rw [← z] at h2
  exact i_Ln hL hO hc hc' he he' (oc_i hO (ly_N hL hc he).2.1 (ly_N hL hc' he').2.1 rfl rfl (Or.inl (by decide)) (Or.inl (by decide)) h1 h2).1
/-- what AF says, cell by cell -/
theorem AF_f {S S1 : MM} {b c e a nf : Nat} (hL : LY S b) (hc : c < 8) (he : e < 2) (af : AF S S1 (Ln (sR S) b c e) a nf) : ∃ f, f < 200 ∧ sI S (Ln (sR S) b c e) 4 = nI f ∧ (∀ z, sK S z ≠ 0 → ∀ j, sR S1 z j = if z = fad (sR S) b c e ∧ j = (f + nf) % 200 then some a else sR S z j) ∧ (∀ z, sK S z ≠ 0 → z ≠ Ln (sR S) b c e → sI S1 z = sI S z) ∧ (∀ k, k ≠ 5 → sI S1 (Ln (sR S) b c e) k = sI S (Ln (sR S) b c e) k) ∧ sI S1 (Ln (sR S) b c e) 5 = nI (nf + 1) ∧ (sK S a = 0 ∨ sR S (fad (sR S) b c e) ((f + nf) % 200) = some a) := by
  obtain ⟨fa, f, r1, hf, e4, q⟩ := af
  have kN := (ly_N hL hc he).2.1
  have efa : fa = fad (sR S) b c e := by rw [(ly_fa hL hc he).1] at r1; exact (Option.some.inj r1).symm
  subst efa
  refine ⟨f, hf, e4, ?_⟩
  rcases q with ⟨r2, es⟩ | ⟨k0, r2, es⟩
  · subst es
    refine ⟨fun z _ j => ?_, fun z _ hn => ?_, fun k hk => ?_, ?_, Or.inr r2⟩
    · rw [sR_pI]
      split
      · rename_i y
        rw [y.1, y.2]
        exact r2
      · rfl
    · rw [sI_pI, up2_row hn]
    · rw [sI_pI, up2_jn hk]
    · rw [sI_pI, up2_self]
  · subst es
    have nl : Ln (sR S) b c e ≠ a := fun y => by rw [y, k0] at kN; cases kN
    refine ⟨fun z hz j => ?_, fun z hz hn => ?_, fun k hk => ?_, ?_, Or.inl k0⟩
    · have nz : z ≠ a := fun y => hz (by rw [y]; exact k0)
      rw [sR_pI, sR_pR]
      unfold up2
      split
      · rfl
      · rw [sR_nw, cl2_row nz]
    · have nz : z ≠ a := fun y => hz (by rw [y]; exact k0)
      rw [sI_pI, up2_row hn, sI_pR, sI_nw, cl2_row nz]
    · rw [sI_pI, up2_jn hk, sI_pR, sI_nw, cl2_row nl]
    · rw [sI_pI, up2_self]
/-- the frame that is added waits in no lane yet -/
theorem af_new {S : MM} {b c e a f nf c' e' : Nat} {I : Mm} (hL : LY S b) (hO : OC S) (hc : c < 8) (he : e < 2) (hc' : c' < 8) (he' : e' < 2) (hf : f < 200) (hnf : nf < 200) (e4 : sI S (Ln (sR S) b c e) 4 = nI f) (e5 : sI S (Ln (sR S) b c e) 5 = nI nf) (fok : FOK (sI S) (sR S) b c' e') (new : sK S a = 0 ∨ sR S (fad (sR S) b c e) ((f + nf) % 200) = some a) : ∀ z ∈ CF (sI S) (sR S) b c' e', z ≠ a := fun z hz y => by
  have kz := CF_k hL hc' he' fok z hz
  rcases new with n | n
  · rw [y, n] at kz
    cases kz
  · obtain ⟨k, hk, ez⟩ := List.mem_map.mp hz
    have hk := List.mem_range.mp hk
    have nn := fok.2.2 k hk
    have rz : sR S (fad (sR S) b c' e') (((sI S (Ln (sR S) b c' e') 4).toNatClampNeg + k) % 200) = some a := by
      cases q : sR S (fad (sR S) b c' e') (((sI S (Ln (sR S) b c' e') 4).toNatClampNeg + k) % 200) with
      | none => exact absurd q nn
      | some w =>
        have : fax (sI S) (sR S) b c' e' k = w := by unfold fax; rw [q]; rfl
        rw [← this, ez, y]
    obtain ⟨q1, q2⟩ := oc_i hO (ly_fa hL hc' he').2.1 (ly_fa hL hc he).2.1 rfl rfl (Or.inl (by decide)) (Or.inl (by decide)) rz n
    obtain ⟨q3, q4⟩ := i_fa hL hO hc' hc he' he q1
    subst q3 q4
    rw [e4, nI_cl (by omega)] at q2
    rw [e5, nI_cl (by omega)] at hk
    omega
