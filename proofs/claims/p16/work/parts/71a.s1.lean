/-! SIMULATION 1: folds, the reference's cells, the bits -/
abbrev Mm : Type := Nat → Nat → Int32
def fd (f : Nat → Mm → Mm) : Nat → Nat → Mm → Mm
  | 0, _, I => I
  | r + 1, i, I => fd f r (i + 1) (f i I)
theorem fd_sim {f g : Nat → Mm → Mm} {P : Nat → Mm → Mm → Prop} {N : Nat} (h : ∀ i I J, i < N → P i I J → P (i + 1) (f i I) (g i J)) : ∀ (r i : Nat) (I J : Mm), i + r = N → P i I J → P N (fd f r i I) (fd g r i J) := by
  intro r
  induction r with
  | zero =>
    intro i I J e p
    have e2 : i = N := by omega
    subst e2
    exact p
  | succ r ih =>
    intro i I J e p
    exact ih (i + 1) (f i I) (g i J) (by omega) (h i I J (by omega) p)
abbrev dm (k : Nat) : Prop := 1 ≤ k ∧ k ≤ 42 ∧ k ≠ 32 ∧ k ≠ 39
theorem dm_DM {k : Nat} (h : dm k) : k ∈ DM := by
  have q : ∀ k, k < 43 → dm k → k ∈ DM := by decide +kernel
  exact q k (by have := h.2.1; omega) h
def AD (m : Nat) (A : Nat → Nat) : Prop := (∀ k k', dm k → dm k' → A k = A k' → k = k') ∧ ∀ k, dm k → A k ≠ m
theorem AD_of {S : MM} {m : Nat} {A : Nat → Nat} (hM : MS S m A) : AD m A := ⟨fun k k' h h' e => hM.2.2.1 k (dm_DM h) k' (dm_DM h') e, fun k h => (hM.2.1 k (dm_DM h)).2.2.2⟩
theorem ad_e {m : Nat} {A : Nat → Nat} (h : AD m A) {k k' : Nat} (h1 : dm k) (h2 : dm k') : (A k = A k') = (k = k') := propext ⟨h.1 k k' h1 h2, fun e => by rw [e]⟩
theorem ad_m {m : Nat} {A : Nat → Nat} (h : AD m A) {k : Nat} (h1 : dm k) : (A k = m) = False := propext ⟨fun z => h.2 k h1 z, False.elim⟩
theorem ad_n {m : Nat} {A : Nat → Nat} (h : AD m A) {k : Nat} (h1 : dm k) : (m = A k) = False := propext ⟨fun z => h.2 k h1 z.symm, False.elim⟩
/-- which port a cell of the reference belongs to -/
def ow (k j : Nat) : Nat := if k = 18 ∨ k = 20 then j / 5 else if k = 19 then j / 3 else if 3 ≤ k ∧ k ≤ 17 ∨ k = 21 then j else 99
def MF (A : Nat → Nat) (x : Nat) (J J' : Mm) : Prop := ∀ k j, dm k → k ≠ 40 → ow k j ≠ x → J' (A k) j = J (A k) j
theorem MF.rf {A : Nat → Nat} {x : Nat} {J : Mm} : MF A x J J := fun _ _ _ _ _ => rfl
theorem MF.w {m : Nat} {A : Nat → Nat} {x k j : Nat} {v : Int32} {J J' : Mm} (hA : AD m A) (hk : dm k) (hx : ow k j = x) (h : MF A x J J') : MF A x J (up2 J' (A k) j v) := fun k' j' h1 h2 h3 => by
  rw [up2_ne (fun z => by
    have e := hA.1 k' k h1 hk z.1
    rw [e, z.2] at h3
    exact h3 hx)]
  exact h k' j' h1 h2 h3
theorem MF.w4 {m : Nat} {A : Nat → Nat} {x j : Nat} {v : Int32} {J J' : Mm} (hA : AD m A) (h : MF A x J J') : MF A x J (up2 J' (A 40) j v) := fun k' j' h1 h2 h3 => by
  rw [up2_ne (fun z => h2 (hA.1 k' 40 h1 (by decide) z.1))]
  exact h k' j' h1 h2 h3
theorem ow_x {k x : Nat} (h : 3 ≤ k ∧ k ≤ 17 ∨ k = 21) : ow k x = x := by unfold ow; rw [if_neg (by omega), if_neg (by omega), if_pos h]
theorem ow_5 {k x i : Nat} (h : k = 18 ∨ k = 20) (hi : i < 5) : ow k (5 * x + i) = x := by unfold ow; rw [if_pos h]; omega
theorem ow_50 {k x : Nat} (h : k = 18 ∨ k = 20) : ow k (5 * x) = x := by unfold ow; rw [if_pos h]; omega
theorem ow_3 {x i : Nat} (hi : i < 3) : ow 19 (3 * x + i) = x := by unfold ow; rw [if_neg (by omega), if_pos rfl]; omega
theorem ow_30 {x : Nat} : ow 19 (3 * x) = x := by unfold ow; rw [if_neg (by omega), if_pos rfl]; omega
/-! the bits of a port -/
def btv (a q k s : Int32) : Int32 := (if a = 0 then nI 0 else nI 1) + (if q = 0 then nI 0 else nI 2) + (if k ≤ 0 then nI 0 else nI 4) + (if s < nI 2 then nI 0 else nI 8) + (if s < nI 3 then nI 0 else nI 16) + (if s = nI 4 then nI 32 else nI 0)
theorem bits_btv {J : Mm} {m : Nat} {A : Nat → Nat} {x : Nat} : f_X8_bits J m A x = btv (J (A 5) x) (J (A 6) x) (J (A 3) x) (J (A 9) x) := by
  simp only [f_X8_bits, g_X8_bits_21, g_X8_bits_35, g_X8_bits_50, g_X8_bits_62, g_X8_bits_74, g_X8_bits_86, btv]
  generalize J (A 5) x = a
  generalize J (A 6) x = q
  generalize J (A 3) x = k
  generalize J (A 9) x = s
  by_cases h6 : s = nI 4
  · subst h6
    by_cases h1 : a = 0 <;> by_cases h2 : q = 0 <;> by_cases h3 : k ≤ 0 <;> simp only [h1, h2, h3, if_true, if_false, show (nI 4 < nI 2) = False by decide, show (nI 4 < nI 3) = False by decide]
  · by_cases h1 : a = 0 <;> by_cases h2 : q = 0 <;> by_cases h3 : k ≤ 0 <;> by_cases h4 : s < nI 2 <;> by_cases h5 : s < nI 3 <;> simp only [h1, h2, h3, h4, h5, h6, if_true, if_false]
def btb (a q k : Bool) (s : Nat) : Int32 := (if a then nI 1 else nI 0) + (if q then nI 2 else nI 0) + (if k then nI 4 else nI 0) + (if s < 2 then nI 0 else nI 8) + (if s < 3 then nI 0 else nI 16) + (if s = 4 then nI 32 else nI 0)
theorem nI_lt5 : ∀ s, s < 5 → ((nI s < nI 2) ↔ s < 2) ∧ ((nI s < nI 3) ↔ s < 3) ∧ ((nI s < nI 4) ↔ s < 4) ∧ ((nI s = nI 4) ↔ s = 4) ∧ ((nI s = nI 0) ↔ s = 0) ∧ ((nI s = nI 1) ↔ s = 1) ∧ ((nI s = nI 2) ↔ s = 2) ∧ ((nI s = nI 3) ↔ s = 3) ∧ ((nI s = 0) ↔ s = 0) ∧ ((nI s ≤ 0) ↔ s = 0) := by decide +kernel
theorem btv_b {a q k : Int32} {s : Nat} (hs : s < 5) : btv a q k (nI s) = btb (decide (¬ a = 0)) (decide (¬ q = 0)) (decide (¬ k ≤ 0)) s := by
  have l := nI_lt5 s hs
  unfold btv btb
  simp only [l.1, l.2.1, l.2.2.2.1]
  by_cases h1 : a = 0 <;> by_cases h2 : q = 0 <;> by_cases h3 : k ≤ 0 <;> simp [h1, h2, h3]
theorem bt_f : ∀ (a q k : Bool) (s : Fin 5), ((btb a q k s.val &&& nI 1 = 0) ↔ a = false) ∧ ((btb a q k s.val &&& nI 2 = 0) ↔ q = false) ∧ ((btb a q k s.val &&& nI 4 = 0) ↔ k = false) ∧ ((btb a q k s.val &&& nI 8 = 0) ↔ s.val < 2) ∧ ((btb a q k s.val &&& nI 16 = 0) ↔ s.val < 3) := by decide +kernel
theorem bt_r : ∀ (a q k : Bool) (s : Fin 5), btb a q k s.val = nI (btb a q k s.val).toNatClampNeg ∧ (btb a q k s.val).toNatClampNeg < 64 := by decide +kernel
/-- an on or off of a mask -/
def sbv (b mk : Int32) (w : Bool) : Int32 := if w then b ||| mk else b &&& (mk ^^^ (-1 : Int32))
theorem bt_s : ∀ (a q k : Bool) (s v : Fin 5), sbv (sbv (sbv (btb a q k s.val) (nI 8) (decide (2 ≤ v.val))) (nI 16) (decide (3 ≤ v.val))) (nI 32) (decide (4 ≤ v.val)) = btb a q k v.val := by decide +kernel
theorem bt_k : ∀ (a q k k' : Bool) (s : Fin 5), sbv (btb a q k s.val) (nI 4) k' = btb a q k' s.val := by decide +kernel
theorem bt_m : ∀ (a q k a' q' : Bool) (s : Fin 5), sbv (sbv (btb a q k s.val) (nI 1) a') (nI 2) q' = btb a' q' k s.val := by decide +kernel
theorem has_a {a q k : Int32} {s : Nat} (hs : s < 5) : (btv a q k (nI s) &&& nI 1 = 0) = (a = 0) := by
  rw [btv_b hs]
  refine propext ((bt_f _ _ _ ⟨s, hs⟩).1.trans ?_)
  simp
theorem has_q {a q k : Int32} {s : Nat} (hs : s < 5) : (btv a q k (nI s) &&& nI 2 = 0) = (q = 0) := by
  rw [btv_b hs]
  refine propext ((bt_f _ _ _ ⟨s, hs⟩).2.1.trans ?_)
  simp
theorem has_k {a q k : Int32} {s : Nat} (hs : s < 5) : (btv a q k (nI s) &&& nI 4 = 0) = (k ≤ 0) := by
  rw [btv_b hs]
  refine propext ((bt_f _ _ _ ⟨s, hs⟩).2.2.1.trans ?_)
  simp
theorem has_c {a q k : Int32} {s : Nat} (hs : s < 5) : (btv a q k (nI s) &&& nI 16 = 0) = (s < 3) := by
  rw [btv_b hs]
  exact propext (bt_f _ _ _ ⟨s, hs⟩).2.2.2.2
theorem btv_r {a q k : Int32} {s : Nat} (hs : s < 5) : ∃ n, n < 64 ∧ btv a q k (nI s) = nI n := by
  rw [btv_b hs]
  exact ⟨_, (bt_r _ _ _ ⟨s, hs⟩).2, (bt_r _ _ _ ⟨s, hs⟩).1⟩
theorem r_sb {ra : Nat → Int32} {mk : Int32} {w : Int32} : r_X6_setBits ra mk w = upd ra 4 (sbv (ra 4) mk (decide (¬ w = 0))) := by
  unfold r_X6_setBits sbv
  by_cases h : w = 0 <;> simp [h]
theorem upd_upd {f : Nat → Int32} {k : Nat} {v w : Int32} : upd (upd f k v) k w = upd f k w := by
  funext j
  by_cases h : j = k <;> simp [upd, h]
/-- the stage and its bits -/
theorem r_stage {rp ro : Nat → Int32} {a q k : Int32} {s v : Nat} (hs : s < 5) (hv : v < 5) (o4 : ro 4 = btv a q k (nI s)) : r_X5_setStage rp ro (nI v) = (upd rp 5 (nI v), upd ro 4 (btv a q k (nI v))) := by
  have l := nI_lt5 v hv
  have e := bt_s (decide (¬ a = 0)) (decide (¬ q = 0)) (decide (¬ k ≤ 0)) ⟨s, hs⟩ ⟨v, hv⟩
  rw [← btv_b hs, ← btv_b hv, ← o4] at e
  rw [← e]
  simp only [r_X5_setStage, r_sb, upd_upd]
  have c : v = 0 ∨ v = 1 ∨ v = 2 ∨ v = 3 ∨ v = 4 := by omega
  have u4 : ∀ (f : Nat → Int32) (w : Int32), upd f 4 w 4 = w := fun f w => pk_us
  rcases c with rfl | rfl | rfl | rfl | rfl
  · rw [if_pos (by decide), if_pos (by decide), if_pos (by decide)]
    simp [u4, show (nI 0 = 0) = True by decide, show (nI 1 = 0) = False by decide]
  · rw [if_pos (by decide), if_pos (by decide), if_pos (by decide)]
    simp [u4, show (nI 0 = 0) = True by decide, show (nI 1 = 0) = False by decide]
  · rw [if_neg (by decide), if_pos (by decide), if_pos (by decide)]
    simp [u4, show (nI 0 = 0) = True by decide, show (nI 1 = 0) = False by decide]
  · rw [if_neg (by decide), if_neg (by decide), if_pos (by decide)]
    simp [u4, show (nI 0 = 0) = True by decide, show (nI 1 = 0) = False by decide]
  · rw [if_neg (by decide), if_neg (by decide), if_neg (by decide)]
    simp [u4, show (nI 0 = 0) = True by decide, show (nI 1 = 0) = False by decide]
