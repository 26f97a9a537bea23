/-! THE REFERENCE'S MEMORY: its arrays by field (A k; a scalar's 'array' is the object itself), what is in range there, what a method leaves as it was (W: the fields that it writes) -/
def MS (S : MM) (m : Nat) (A : Nat → Nat) : Prop := sK S m = 9 ∧ (∀ k ∈ DM, sR S m k = some (A k) ∧ sK S (A k) = kdM k ∧ sN S (A k) = lnM k ∧ A k ≠ m) ∧ (∀ k ∈ DM, ∀ k' ∈ DM, A k = A k' → k = k') ∧ ∀ k, k ∉ DM → A k = m
def ra (k : Nat) : Option Nat := match k with
  | 22 => some 8
  | 27 => some 8
  | 28 => some 2
  | _ => none
def rs (j : Nat) : Option Nat := match j with
  | 32 => some 4001
  | _ => none
def IM (S : MM) (m : Nat) (A : Nat → Nat) : Prop := (∀ k N, ra k = some N → ∀ j, ∃ n, n < N ∧ sI S (A k) j = nI n) ∧ (∀ j N, rs j = some N → ∃ n, n < N ∧ sI S m j = nI n) ∧ ∀ j, sI S (A 30) j = -1 ∨ ∃ f, f < 4200 ∧ sI S (A 30) j = nI f
theorem ra_DM {k N : Nat} (h : ra k = some N) : k ∈ DM := by
  unfold ra at h
  split at h <;> first | decide | cases h
def SM (W : List Nat) (m : Nat) (A : Nat → Nat) (S S' : MM) : Prop := sK S' = sK S ∧ sN S' = sN S ∧ sR S' = sR S ∧ sJ S' = sJ S ∧ (∀ a, a ≠ m → (∀ k ∈ W, a ≠ A k) → sI S' a = sI S a) ∧ ∀ j, j ∉ W → sI S' m j = sI S m j
theorem SM.rf {W : List Nat} {m : Nat} {A : Nat → Nat} {S : MM} : SM W m A S S := ⟨rfl, rfl, rfl, rfl, fun _ _ _ => rfl, fun _ _ => rfl⟩
theorem SM.tr {W W1 : List Nat} {m : Nat} {A : Nat → Nat} {S S1 S2 : MM} (h : SM W m A S S1) (k : SM W1 m A S1 S2) (hw : ∀ x ∈ W1, x ∈ W) : SM W m A S S2 := ⟨k.1.trans h.1, k.2.1.trans h.2.1, k.2.2.1.trans h.2.2.1, k.2.2.2.1.trans h.2.2.2.1, fun a h1 h2 => (k.2.2.2.2.1 a h1 (fun x hx => h2 x (hw x hx))).trans (h.2.2.2.2.1 a h1 h2), fun j hj => (k.2.2.2.2.2 j (fun z => hj (hw j z))).trans (h.2.2.2.2.2 j hj)⟩
theorem SM_k {W : List Nat} {m : Nat} {A : Nat → Nat} {S S' : MM} {a n : Nat} (e : SM W m A S S') (h : sK S a = n) : sK S' a = n := by rw [e.1]; exact h
theorem SM_n {W : List Nat} {m : Nat} {A : Nat → Nat} {S S' : MM} {a n : Nat} (e : SM W m A S S') (h : sN S a = n) : sN S' a = n := by rw [e.2.1]; exact h
theorem SM_r {W : List Nat} {m : Nat} {A : Nat → Nat} {S S' : MM} {a j : Nat} {o : Option Nat} (e : SM W m A S S') (h : sR S a j = o) : sR S' a j = o := by rw [e.2.2.1]; exact h
theorem MS_SM {W : List Nat} {m : Nat} {A : Nat → Nat} {S S' : MM} (h : MS S m A) (e : SM W m A S S') : MS S' m A := by
  unfold MS at h ⊢
  rw [e.1, e.2.1, e.2.2.1]
  exact h
theorem SM.wm {W : List Nat} {m : Nat} {A : Nat → Nat} {S S1 : MM} {j : Nat} {v : Int32} (h : SM W m A S S1) (hw : j ∈ W) : SM W m A S (pI S1 m j v) := ⟨h.1, h.2.1, h.2.2.1, h.2.2.2.1, fun a h1 h2 => by rw [sI_pI, up2_row h1]; exact h.2.2.2.2.1 a h1 h2, fun i hi => by rw [sI_pI, up2_ne (fun z => hi (by rw [z.2]; exact hw))]; exact h.2.2.2.2.2 i hi⟩
theorem SM.wa {W : List Nat} {m : Nat} {A : Nat → Nat} {S S1 : MM} {k j : Nat} {v : Int32} (h : SM W m A S S1) (hn : A k ≠ m) (hw : k ∈ W) : SM W m A S (pI S1 (A k) j v) := ⟨h.1, h.2.1, h.2.2.1, h.2.2.2.1, fun a h1 h2 => by rw [sI_pI, up2_row (h2 k hw)]; exact h.2.2.2.2.1 a h1 h2, fun i hi => by rw [sI_pI, up2_ne (fun z => hn z.1.symm)]; exact h.2.2.2.2.2 i hi⟩
theorem IM_wm {S0 S : MM} {m : Nat} {A : Nat → Nat} {j : Nat} {v : Int32} (hM : MS S0 m A) (h : IM S m A) (hr : ∀ N, rs j = some N → ∃ n, n < N ∧ v = nI n) : IM (pI S m j v) m A := by
  obtain ⟨h1, h2, h3⟩ := h
  have na : ∀ k ∈ DM, A k ≠ m := fun k hk => (hM.2.1 k hk).2.2.2
  refine ⟨fun k N hk i => ?_, fun i N hi => ?_, fun i => ?_⟩
  · obtain ⟨n, n1, n2⟩ := h1 k N hk i
    exact ⟨n, n1, by rw [sI_pI, up2_ne (fun z => na k (ra_DM hk) z.1)]; exact n2⟩
  · by_cases hz : i = j
    · subst hz
      obtain ⟨n, n1, n2⟩ := hr N hi
      exact ⟨n, n1, by rw [sI_pI, up2_self]; exact n2⟩
    · obtain ⟨n, n1, n2⟩ := h2 i N hi
      exact ⟨n, n1, by rw [sI_pI, up2_ne (fun z => hz z.2)]; exact n2⟩
  · rw [sI_pI, up2_ne (fun z => na 30 (by decide) z.1)]
    exact h3 i
theorem IM_wa {S0 S : MM} {m : Nat} {A : Nat → Nat} {k j : Nat} {v : Int32} (hM : MS S0 m A) (h : IM S m A) (hk : k ∈ DM) (hr : ∀ N, ra k = some N → ∃ n, n < N ∧ v = nI n) (h30 : k = 30 → v = -1 ∨ ∃ f, f < 4200 ∧ v = nI f) : IM (pI S (A k) j v) m A := by
  obtain ⟨h1, h2, h3⟩ := h
  have nk : A k ≠ m := (hM.2.1 k hk).2.2.2
  refine ⟨fun k' N hk' i => ?_, fun i N hi => ?_, fun i => ?_⟩
  · by_cases hz : A k' = A k ∧ i = j
    · have e := hM.2.2.1 k' (ra_DM hk') k hk hz.1
      subst e
      obtain ⟨n, n1, n2⟩ := hr N hk'
      exact ⟨n, n1, by rw [sI_pI, hz.2, up2_self]; exact n2⟩
    · obtain ⟨n, n1, n2⟩ := h1 k' N hk' i
      exact ⟨n, n1, by rw [sI_pI, up2_ne hz]; exact n2⟩
  · obtain ⟨n, n1, n2⟩ := h2 i N hi
    exact ⟨n, n1, by rw [sI_pI, up2_ne (fun z => nk z.1.symm)]; exact n2⟩
  · by_cases hz : A 30 = A k ∧ i = j
    · have e := hM.2.2.1 30 (by decide) k hk hz.1
      rw [sI_pI, hz.1, hz.2, up2_self]
      exact h30 e.symm
    · rw [sI_pI, up2_ne hz]
      exact h3 i
theorem y_mI {k : Nat} {kt : Kt} {lv : Lv} {st : List Value} {S S0 : MM} {W : List Nat} {m : Nat} {A : Nat → Nat} {c z : Nat} {v : Int32} (hM : MS S0 m A) (sm : SM W m A S0 S) (im : IM S m A) (hw : k ∈ W) (hr : ∀ N, rs k = some N → ∃ n, n < N ∧ v = nI n) (h : ∀ S', S' = pI S m k v → SM W m A S0 S' → IM S' m A → kt lv st S' c z) : tI 8 k kt lv (.int v :: .ref m :: st) S c z := And.intro (SM_k sm hM.1) (h _ rfl (SM.wm sm hw) (IM_wm hM im hr))
theorem y_mZ {k j : Nat} {kt : Kt} {lv : Lv} {st : List Value} {S S0 : MM} {W : List Nat} {m : Nat} {A : Nat → Nat} {c z : Nat} (hM : MS S0 m A) (sm : SM W m A S0 S) (im : IM S m A) (hw : k ∈ W) (hj : j < 2) (hr : ∀ N, rs k = some N → ∃ n, n < N ∧ nI j = nI n) (h : ∀ S', S' = pI S m k (nI j) → SM W m A S0 S' → IM S' m A → kt lv st S' c z) : tZ 8 k kt lv (.int (nI j) :: .ref m :: st) S c z := And.intro (SM_k sm hM.1) (And.intro (b01 hj) (h _ rfl (SM.wm sm hw) (IM_wm hM im hr)))
theorem y_mA {k j N : Nat} {kt : Kt} {lv : Lv} {st : List Value} {S S0 : MM} {W : List Nat} {m : Nat} {A : Nat → Nat} {c z : Nat} {v : Int32} (hM : MS S0 m A) (sm : SM W m A S0 S) (im : IM S m A) (hk : k ∈ DM) (h10 : kdM k = 10) (hn : lnM k = N) (hj : j < N) (hN : N < 2 ^ 31) (hw : k ∈ W) (hr : ∀ N, ra k = some N → ∃ n, n < N ∧ v = nI n) (h30 : k = 30 → v = -1 ∨ ∃ f, f < 4200 ∧ v = nI f) (h : ∀ S', S' = pI S (A k) j v → SM W m A S0 S' → IM S' m A → kt lv st S' c z) : sAI kt lv (.int v :: .int (nI j) :: .ref (A k) :: st) S c z :=
  e_sAI (SM_k sm ((hM.2.1 k hk).2.1.trans h10)) (SM_n sm ((hM.2.1 k hk).2.2.1.trans hn)) hj hN (h _ rfl (SM.wa sm (hM.2.1 k hk).2.2.2 hw) (IM_wa hM im hk hr h30))
theorem y_mB {k j N t : Nat} {kt : Kt} {lv : Lv} {st : List Value} {S S0 : MM} {W : List Nat} {m : Nat} {A : Nat → Nat} {c z : Nat} (hM : MS S0 m A) (sm : SM W m A S0 S) (im : IM S m A) (hk : k ∈ DM) (h10 : kdM k = 11) (hn : lnM k = N) (hj : j < N) (hN : N < 2 ^ 31) (ht : t < 2) (hw : k ∈ W) (hr : ∀ N, ra k = some N → ∃ n, n < N ∧ nI t = nI n) (h30 : k = 30 → nI t = -1 ∨ ∃ f, f < 4200 ∧ nI t = nI f) (h : ∀ S', S' = pI S (A k) j (nI t) → SM W m A S0 S' → IM S' m A → kt lv st S' c z) : sAZ kt lv (.int (nI t) :: .int (nI j) :: .ref (A k) :: st) S c z :=
  e_sAZ (SM_k sm ((hM.2.1 k hk).2.1.trans h10)) (SM_n sm ((hM.2.1 k hk).2.2.1.trans hn)) hj hN ht (h _ rfl (SM.wa sm (hM.2.1 k hk).2.2.2 hw) (IM_wa hM im hk hr h30))
theorem z_X8_isCable {S : MM} {v : Int32} {Q : Option Value → MM → Prop} (K0 : Q (some (.int (nI 0))) S) (K1 : ∀ j, j < 8 → v = nI j → Q (some (.int (nI 1))) S) : wX8_isCable [.int v] S Q := by
  refine Exists.intro 3 (And.intro (fun h0 => And.intro (Or.inl rfl) K0) (fun h0 => And.intro (fun h1 => And.intro (Or.inl rfl) K0) (fun h1 => ?_)))
  rcases pk_ix v (n := 8) (by decide) with h | h | ⟨j, hj, e⟩
  · exact absurd h h0
  · exact absurd h h1
  · exact And.intro (Or.inr rfl) (K1 j hj e)
theorem z_X8_isPort {S : MM} {v : Int32} {Q : Option Value → MM → Prop} (K0 : Q (some (.int (nI 0))) S) (K1 : ∀ j, j < 8 → v = nI j → Q (some (.int (nI 1))) S) : wX8_isPort [.int v] S Q := by
  refine Exists.intro 3 (And.intro (fun h0 => And.intro (Or.inl rfl) K0) (fun h0 => And.intro (fun h1 => And.intro (Or.inl rfl) K0) (fun h1 => ?_)))
  rcases pk_ix v (n := 8) (by decide) with h | h | ⟨j, hj, e⟩
  · exact absurd h h0
  · exact absurd h h1
  · exact And.intro (Or.inr rfl) (K1 j hj e)
theorem z_X8_isEnd {S : MM} {v : Int32} {Q : Option Value → MM → Prop} (K0 : Q (some (.int (nI 0))) S) (K1 : ∀ j, j < 2 → v = nI j → Q (some (.int (nI 1))) S) : wX8_isEnd [.int v] S Q :=
  Exists.intro 3 (And.intro (fun h0 => And.intro (Or.inr rfl) (K1 0 (by decide) h0)) (fun h0 => And.intro (fun h1 => And.intro (Or.inr rfl) (K1 1 (by decide) h1)) (fun h1 => And.intro (Or.inl rfl) K0)))
