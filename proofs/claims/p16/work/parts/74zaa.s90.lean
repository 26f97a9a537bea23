/-! SIMULATION 90: overtaken: what the class's marks say -/
/-- frames of one end, bundle, conversation and epoch -/
abbrev skf (J : Mm) (A : Nat → Nat) (f g : Nat) : Prop := J (A 33) g = J (A 33) f ∧ J (A 34) g = J (A 34) f ∧ J (A 35) g = J (A 35) f ∧ J (A 37) g = J (A 37) f
/-- a later one of them has come -/
def LAb (J : Mm) (A : Nat → Nat) (cm : Nat → Int32) (f : Nat) : Nat → Nat → Bool
  | 0, _ => false
  | r + 1, i => decide (¬ cm i = 0 ∧ skf J A f i) || LAb J A cm f r (i + 1)
theorem LAb_iff {J : Mm} {A : Nat → Nat} {cm : Nat → Int32} {f : Nat} : ∀ r i, LAb J A cm f r i = true ↔ ∃ g, i ≤ g ∧ g < i + r ∧ ¬ cm g = 0 ∧ skf J A f g := by
  intro r
  induction r with
  | zero =>
    intro i
    refine ⟨fun h => absurd (show false = true from h) (by decide), fun ⟨g, h1, h2, _⟩ => absurd h2 (by omega)⟩
  | succ r ih =>
    intro i
    rw [LAb, Bool.or_eq_true, ih (i + 1)]
    refine ⟨fun h => ?_, fun ⟨g, h1, h2, h3, h4⟩ => ?_⟩
    · rcases h with h | ⟨g, h1, h2, h3, h4⟩
      · obtain ⟨h3, h4⟩ := of_decide_eq_true h
        exact ⟨i, by omega, by omega, h3, h4⟩
      · exact ⟨g, by omega, by omega, h3, h4⟩
    · by_cases q : g = i
      · subst q
        exact Or.inl (decide_eq_true ⟨h3, h4⟩)
      · exact Or.inr ⟨g, by omega, by omega, h3, h4⟩
def LAt (J : Mm) (A : Nat → Nat) (F : Nat) (cm : Nat → Int32) (f : Nat) : Prop := LAb J A cm f (F - (f + 1)) (f + 1) = true
theorem LAt_iff {J : Mm} {A : Nat → Nat} {F f : Nat} {cm : Nat → Int32} : LAt J A F cm f ↔ ∃ g, f < g ∧ g < F ∧ ¬ cm g = 0 ∧ skf J A f g := by
  unfold LAt
  rw [LAb_iff]
  exact ⟨fun ⟨g, h1, h2, h3⟩ => ⟨g, by omega, by omega, h3⟩, fun ⟨g, h1, h2, h3⟩ => ⟨g, by omega, by omega, h3⟩⟩
theorem LAt_u {J : Mm} {A : Nat → Nat} {F f g : Nat} {cm : Nat → Int32} : LAt J A F (upd cm g (nI 1)) f ↔ LAt J A F cm f ∨ (f < g ∧ g < F ∧ skf J A f g) := by
  rw [LAt_iff, LAt_iff]
  refine ⟨fun ⟨h, h1, h2, h3, h4⟩ => ?_, fun q => ?_⟩
  · by_cases e : h = g
    · subst e
      exact Or.inr ⟨h1, h2, h4⟩
    · refine Or.inl ⟨h, h1, h2, ?_, h4⟩
      unfold upd at h3
      rw [if_neg e] at h3
      exact h3
  · rcases q with ⟨h, h1, h2, h3, h4⟩ | ⟨h1, h2, h4⟩
    · refine ⟨h, h1, h2, ?_, h4⟩
      unfold upd
      split
      · decide
      · exact h3
    · refine ⟨g, h1, h2, ?_, h4⟩
      unfold upd
      rw [if_pos rfl]
      decide
/-- frames that come one after another: how many are late -/
def lfc (J : Mm) (A : Nat → Nat) (F : Nat) : (Nat → Int32) → List Nat → Nat
  | _, [] => 0
  | cm, f :: L => (if LAb J A cm f (F - (f + 1)) (f + 1) = true then 1 else 0) + lfc J A F (upd cm f (nI 1)) L
def lff (cm : Nat → Int32) (L : List Nat) : Nat → Int32 := L.foldl (fun c f => upd c f (nI 1)) cm
theorem lff_c {cm : Nat → Int32} {f : Nat} {L : List Nat} : lff cm (f :: L) = lff (upd cm f (nI 1)) L := rfl
theorem gcB_mn {g : Nat → Bool} : ∀ d a, gcB g a ≤ gcB g (a + d) := by
  intro d
  induction d with
  | zero => intro a; exact Nat.le_refl _
  | succ d ih =>
    intro a
    rw [show a + (d + 1) = (a + d) + 1 by omega, gcB]
    have := ih a
    omega
theorem gcB_lt {g : Nat → Bool} {x y : Nat} (h : g x = true) (l : x < y) : gcB g x < gcB g y := by
  have := gcB_mn (g := g) (y - (x + 1)) (x + 1)
  rw [show x + 1 + (y - (x + 1)) = y by omega, gcB, if_pos h] at this
  omega
/-- a frame that waits, on both sides -/
def SRz (I J : Mm) (A : Nat → Nat) (F e z f : Nat) : Prop := f < F ∧ J (A 33) f = nI e ∧ I z 2 = J (A 34) f ∧ I z 0 = J (A 35) f ∧ I z 4 = J (A 37) f ∧ I z 5 = nI (gcB (fun g => decide (J (A 33) g = nI e)) f)
theorem SRz_e {I I' J : Mm} {A : Nat → Nat} {F e z f : Nat} (h : SRz I J A F e z f) (e1 : ∀ j, j ≠ 6 → I' z j = I z j) : SRz I' J A F e z f := by
  unfold SRz
  rw [e1 2 (by decide), e1 0 (by decide), e1 4 (by decide), e1 5 (by decide)]
  exact h
theorem must_iff {I J : Mm} {A : Nat → Nat} {F e z a f g : Nat} (hF : F < 4200) (sz : SRz I J A F e z f) (sa : SRz I J A F e a g) : ¬ f_X2_mustComeAhead I z a = 0 ↔ (f < g ∧ g < F ∧ skf J A f g) := by
  obtain ⟨z1, z2, z3, z4, z5, z6⟩ := sz
  obtain ⟨a1, a2, a3, a4, a5, a6⟩ := sa
  have b1 := gcB_le (fun g => decide (J (A 33) g = nI e)) f
  have b2 := gcB_le (fun g => decide (J (A 33) g = nI e)) g
  have le := nI_leI (show gcB (fun g => decide (J (A 33) g = nI e)) g < 2 ^ 31 by omega) (show gcB (fun g => decide (J (A 33) g = nI e)) f < 2 ^ 31 by omega)
  have rk : (gcB (fun g => decide (J (A 33) g = nI e)) g ≤ gcB (fun g => decide (J (A 33) g = nI e)) f) ↔ ¬ f < g := by
    refine ⟨fun h l => ?_, fun h => ?_⟩
    · have := gcB_lt (g := fun g => decide (J (A 33) g = nI e)) (decide_eq_true z2) l
      omega
    · by_cases q : g = f
      · rw [q]; exact Nat.le_refl _
      · have := gcB_lt (g := fun g => decide (J (A 33) g = nI e)) (decide_eq_true a2) (show g < f by omega)
        omega
  unfold f_X2_mustComeAhead
  rw [z3, z4, z5, z6, a3, a4, a5, a6]
  by_cases h0 : J (A 35) f = J (A 35) g
  · rw [if_pos h0]
    by_cases h2 : J (A 34) f = J (A 34) g
    · rw [if_pos h2]
      by_cases h4 : J (A 37) f = J (A 37) g
      · rw [if_pos h4]
        by_cases h5 : f < g
        · rw [if_neg (fun y => rk.mp (le.mp y) h5)]
          exact ⟨fun _ => ⟨h5, a1, a2.trans z2.symm, h2.symm, h0.symm, h4.symm⟩, fun _ => by decide⟩
        · rw [if_pos (le.mpr (rk.mpr h5))]
          exact ⟨fun y => absurd rfl y, fun y => absurd y.1 h5⟩
      · rw [if_neg h4]
        exact ⟨fun y => absurd rfl y, fun y => absurd y.2.2.2.2.2.symm h4⟩
    · rw [if_neg h2]
      exact ⟨fun y => absurd rfl y, fun y => absurd y.2.2.2.1.symm h2⟩
  · rw [if_neg h0]
    exact ⟨fun y => absurd rfl y, fun y => absurd y.2.2.2.2.1.symm h0⟩
theorem must_e {I I' : Mm} {z a : Nat} (hz : ∀ j, j ≠ 6 → I' z j = I z j) (ha : ∀ j, j ≠ 6 → I' a j = I a j) : f_X2_mustComeAhead I' z a = f_X2_mustComeAhead I z a := by
  unfold f_X2_mustComeAhead
  rw [hz 0 (by decide), hz 2 (by decide), hz 4 (by decide), hz 5 (by decide), ha 0 (by decide), ha 2 (by decide), ha 4 (by decide), ha 5 (by decide)]
theorem up_6 {I : Mm} {a : Nat} {v : Int32} (w j : Nat) (hj : j ≠ 6) : up2 I a 6 v w j = I w j := up2_ne (fun y => hj y.2)
theorem mk_l {S : MM} {b p c e fc ff : Nat} (hL : LY S b) (hc : c < 8) (he : e < 2) : ∀ r i (I : Mm), (∀ z, g_X3_markOvertaken_2 (sR S) b p c e fc ff r i I z 6 = I z 6 ∨ (g_X3_markOvertaken_2 (sR S) b p c e fc ff r i I z 6 = nI 1 ∧ ¬ f_X2_mustComeAhead I z p = 0 ∧ ∃ k, i ≤ k ∧ k < i + r ∧ sR S (fad (sR S) b c e) ((ff + k) % 200) = some z)) ∧ (∀ k z, i ≤ k → k < i + r → sR S (fad (sR S) b c e) ((ff + k) % 200) = some z → ¬ f_X2_mustComeAhead I z p = 0 → g_X3_markOvertaken_2 (sR S) b p c e fc ff r i I z 6 = nI 1) ∧ ∀ w, sK S w ≠ 3 → g_X3_markOvertaken_2 (sR S) b p c e fc ff r i I w = I w := by
  intro r
  induction r with
  | zero =>
    intro i I
    exact ⟨fun z => Or.inl rfl, fun k z h1 h2 => absurd h2 (by omega), fun w _ => rfl⟩
  | succ r ih =>
    intro i I
    have E : g_X3_markOvertaken_2 (sR S) b p c e fc ff (r + 1) i I = if sR S (fad (sR S) b c e) ((ff + i) % 200) = none then g_X3_markOvertaken_2 (sR S) b p c e fc ff r (i + 1) I else if f_X2_mustComeAhead I ((sR S (fad (sR S) b c e) ((ff + i) % 200)).getD 0) p = 0 then g_X3_markOvertaken_2 (sR S) b p c e fc ff r (i + 1) I else g_X3_markOvertaken_2 (sR S) b p c e fc ff r (i + 1) (up2 I ((sR S (fad (sR S) b c e) ((ff + i) % 200)).getD 0) 6 (nI 1)) := rfl
    rw [E]
    cases q : sR S (fad (sR S) b c e) ((ff + i) % 200) with
    | none =>
      rw [if_pos rfl]
      obtain ⟨a1, a2, a3⟩ := ih (i + 1) I
      refine ⟨fun z => ?_, fun k z h1 h2 h3 h4 => ?_, a3⟩
      · rcases a1 z with h | ⟨h, h', k, k1, k2, k3⟩
        · exact Or.inl h
        · exact Or.inr ⟨h, h', k, by omega, by omega, k3⟩
      · by_cases e : k = i
        · subst e
          rw [q] at h3
          cases h3
        · exact a2 k z (by omega) (by omega) h3 h4
    | some z0 =>
      rw [if_neg (by simp)]
      have k3 : sK S z0 = 3 := by
        have := ly_nn (j := (ff + i) % 200) hL.1 (ly_fa hL hc he).2.1 rfl (by rw [q]; simp)
        rw [q] at this
        exact this
      rw [show (some z0).getD 0 = z0 from rfl]
      by_cases mz : f_X2_mustComeAhead I z0 p = 0
      · rw [if_pos mz]
        obtain ⟨a1, a2, a3⟩ := ih (i + 1) I
        refine ⟨fun z => ?_, fun k z h1 h2 h3 h4 => ?_, a3⟩
        · rcases a1 z with h | ⟨h, h', k, k1, k2, k3⟩
          · exact Or.inl h
          · exact Or.inr ⟨h, h', k, by omega, by omega, k3⟩
        · by_cases e : k = i
          · subst e
            rw [q] at h3
            cases h3
            exact absurd mz h4
          · exact a2 k z (by omega) (by omega) h3 h4
      · rw [if_neg mz]
        obtain ⟨a1, a2, a3⟩ := ih (i + 1) (up2 I z0 6 (nI 1))
        have me : ∀ z, f_X2_mustComeAhead (up2 I z0 6 (nI 1)) z p = f_X2_mustComeAhead I z p := fun z => must_e (up_6 z) (up_6 p)
        refine ⟨fun z => ?_, fun k z h1 h2 h3 h4 => ?_, fun w hw => ?_⟩
        · rcases a1 z with h | ⟨h, h', k, k1, k2, k3⟩
          · by_cases e : z = z0
            · subst e
              rw [up2_self] at h
              exact Or.inr ⟨h, mz, i, by omega, by omega, q⟩
            · rw [up2_row e] at h
              exact Or.inl h
          · rw [me] at h'
            exact Or.inr ⟨h, h', k, by omega, by omega, k3⟩
        · by_cases e : k = i
          · subst e
            rw [q] at h3
            cases h3
            rcases a1 z0 with h | ⟨h, _⟩
            · rw [h, up2_self]
            · exact h
          · exact a2 k z (by omega) (by omega) h3 (by rw [me]; exact h4)
        · rw [a3 w hw, up2_row (fun y => hw (by rw [y]; exact k3))]
theorem cf_mem {I : Mm} {R : Nat → Nat → Option Nat} {b c e z : Nat} (fok : FOK I R b c e) : z ∈ CF I R b c e ↔ ∃ k, k < (I (Ln R b c e) 5).toNatClampNeg ∧ R (fad R b c e) (((I (Ln R b c e) 4).toNatClampNeg + k) % 200) = some z := by
  unfold CF
  rw [List.mem_map]
  refine ⟨fun ⟨k, hk, ez⟩ => ⟨k, List.mem_range.mp hk, ?_⟩, fun ⟨k, hk, ez⟩ => ⟨k, List.mem_range.mpr hk, ?_⟩⟩
  · have nn := fok.2.2 k (List.mem_range.mp hk)
    unfold fax at ez
    cases q : R (fad R b c e) (((I (Ln R b c e) 4).toNatClampNeg + k) % 200) with
    | none => exact absurd q nn
    | some w =>
      rw [q] at ez
      have : w = z := ez
      rw [this]
  · unfold fax
    rw [ez]
    rfl
/-- a frame waits in one lane -/
theorem cf_dj {S : MM} {b c e c' e' z : Nat} {I : Mm} (hL : LY S b) (hO : OC S) (hc : c < 8) (he : e < 2) (hc' : c' < 8) (he' : e' < 2) (f1 : FOK I (sR S) b c e) (f2 : FOK I (sR S) b c' e') (h1 : z ∈ CF I (sR S) b c e) (h2 : z ∈ CF I (sR S) b c' e') : c = c' ∧ e = e' := by
  obtain ⟨k, hk, ek⟩ := (cf_mem f1).mp h1
  obtain ⟨k', hk', ek'⟩ := (cf_mem f2).mp h2
  have q := (oc_i hO (ly_fa hL hc he).2.1 (ly_fa hL hc' he').2.1 rfl rfl (Or.inl (by decide)) (Or.inl (by decide)) ek ek').1
  exact i_fa hL hO hc hc' he he' q
/-- all lanes of an end marked -/
theorem mk_43 {S : MM} {b p q e : Nat} {I0 : Mm} (hL : LY S b) (he : e < 2) (kp : sK S p = 3) (fok : ∀ c, c < 8 → FOK I0 (sR S) b c e) : ∀ r i (I : Mm), i + r = 8 → KO S b I0 I → (∀ z, g_X7_receive_43 (sR S) b p q e r i I z 6 = I z 6 ∨ (g_X7_receive_43 (sR S) b p q e r i I z 6 = nI 1 ∧ ¬ f_X2_mustComeAhead I0 z p = 0 ∧ ∃ c, c < 8 ∧ z ∈ CF I0 (sR S) b c e)) ∧ (∀ c z, i ≤ c → c < 8 → z ∈ CF I0 (sR S) b c e → ¬ f_X2_mustComeAhead I0 z p = 0 → g_X7_receive_43 (sR S) b p q e r i I z 6 = nI 1) ∧ ∀ w, sK S w ≠ 3 → g_X7_receive_43 (sR S) b p q e r i I w = I w := by
  intro r
  induction r with
  | zero =>
    intro i I hi ko
    exact ⟨fun z => Or.inl rfl, fun c z h1 h2 => absurd h2 (by omega), fun w _ => rfl⟩
  | succ r ih =>
    intro i I hi ko
    have hi8 : i < 8 := by omega
    have ln : ∀ j, I (Ln (sR S) b i e) j = I0 (Ln (sR S) b i e) j := fun j => KO_d hL ko (ly_N hL hi8 he).2.1 (Or.inl (by decide)) (Or.inl (by decide))
    have k3 : ∀ z, sK S z = 3 → ∀ j, j ≠ 6 → I z j = I0 z j := fun z hz j hj => KO_d hL ko hz (Or.inr hj) (Or.inl (by decide))
    rw [g_X7_receive_43]
    rw [ln 5, ln 4]
    have E : f_X3_markOvertaken I (sR S) b p i e (I0 (Ln (sR S) b i e) 5).toNatClampNeg (I0 (Ln (sR S) b i e) 4).toNatClampNeg = g_X3_markOvertaken_2 (sR S) b p i e (I0 (Ln (sR S) b i e) 5).toNatClampNeg (I0 (Ln (sR S) b i e) 4).toNatClampNeg (I0 (Ln (sR S) b i e) 5).toNatClampNeg 0 I := rfl
    rw [E]
    obtain ⟨m1, m2, m3⟩ := mk_l (p := p) (fc := (I0 (Ln (sR S) b i e) 5).toNatClampNeg) (ff := (I0 (Ln (sR S) b i e) 4).toNatClampNeg) hL hi8 he (I0 (Ln (sR S) b i e) 5).toNatClampNeg 0 I
    have ko2 : KO S b I0 (g_X3_markOvertaken_2 (sR S) b p i e (I0 (Ln (sR S) b i e) 5).toNatClampNeg (I0 (Ln (sR S) b i e) 4).toNatClampNeg (I0 (Ln (sR S) b i e) 5).toNatClampNeg 0 I) := ko_mark hL hi8 he _ _ _ ko
    generalize g_X3_markOvertaken_2 (sR S) b p i e (I0 (Ln (sR S) b i e) 5).toNatClampNeg (I0 (Ln (sR S) b i e) 4).toNatClampNeg (I0 (Ln (sR S) b i e) 5).toNatClampNeg 0 I = I2 at m1 m2 m3 ko2 ⊢
    obtain ⟨a1, a2, a3⟩ := ih (i + 1) I2 (by omega) ko2
    have kz : ∀ k z, sR S (fad (sR S) b i e) k = some z → sK S z = 3 := fun k z hz => by
      have := ly_nn (j := k) hL.1 (ly_fa hL hi8 he).2.1 rfl (by rw [hz]; simp)
      rw [hz] at this
      exact this
    have step : ∀ z, I2 z 6 = I z 6 ∨ (I2 z 6 = nI 1 ∧ ¬ f_X2_mustComeAhead I0 z p = 0 ∧ ∃ c, c < 8 ∧ z ∈ CF I0 (sR S) b c e) := fun z => by
      rcases m1 z with h | ⟨h, h', k, k1, k2, k4⟩
      · exact Or.inl h
      · rw [must_e (k3 z (kz _ z k4)) (k3 p kp)] at h'
        exact Or.inr ⟨h, h', i, hi8, (cf_mem (fok i hi8)).mpr ⟨k, by omega, k4⟩⟩
    refine ⟨fun z => ?_, fun c z h1 h2 h3 h4 => ?_, fun w hw => (a3 w hw).trans (m3 w hw)⟩
    · rcases a1 z with h | h
      · rcases step z with g | ⟨g1, g2⟩
        · exact Or.inl (h.trans g)
        · exact Or.inr ⟨h.trans g1, g2⟩
      · exact Or.inr h
    · by_cases e1 : c = i
      · subst e1
        obtain ⟨k, hk, ek⟩ := (cf_mem (fok c h2)).mp h3
        have g := m2 k z (by omega) (by omega) ek (by rw [must_e (k3 z (kz _ z ek)) (k3 p kp)]; exact h4)
        rcases a1 z with h | ⟨h, _⟩
        · rw [h, g]
        · exact h
      · exact a2 c z (by omega) h2 h3 h4
/-- a frame is received -/
theorem rec_x {S : MM} {b a p e : Nat} {I : Mm} (hL : LY S b) (he : e < 2) (ka : sK S a = 3) (fok : ∀ c, c < 8 → FOK I (sR S) b c e) : (∀ z, sK S z = 3 → f_X7_receive I (sR S) b a p e z 6 = I z 6 ∨ (f_X7_receive I (sR S) b a p e z 6 = nI 1 ∧ ¬ f_X2_mustComeAhead I z a = 0 ∧ ∃ c, c < 8 ∧ z ∈ CF I (sR S) b c e)) ∧ (∀ c z, c < 8 → z ∈ CF I (sR S) b c e → ¬ f_X2_mustComeAhead I z a = 0 → f_X7_receive I (sR S) b a p e z 6 = nI 1) ∧ f_X7_receive I (sR S) b a p e b 8 = I b 8 + nI (if I a 6 = 0 then 0 else 1) ∧ f_X7_receive I (sR S) b a p e b 4 = I b 4 := by
  have he1 : 1 - e < 2 := by omega
  have kr : ∀ z k, sK S z = k → k ≠ 2 → k ≠ 10 → f_X1_keep I (sR S) b a (1 - e) (I ((sR S p 0).getD 0) 3) (I b 2) z = I z := fun z k hz h2 h10 => keep_row (ne_k hz (ly_ka hL he1).2.1 h10) (ne_k hz (ly_E hL he1).2.1 h2)
  have E : f_X7_receive I (sR S) b a p e = if f_X1_keep I (sR S) b a (1 - e) (I ((sR S p 0).getD 0) 3) (I b 2) a 6 = 0 then g_X7_receive_43 (sR S) b a p e 8 0 (f_X1_keep I (sR S) b a (1 - e) (I ((sR S p 0).getD 0) 3) (I b 2)) else g_X7_receive_43 (sR S) b a p e 8 0 (up2 (f_X1_keep I (sR S) b a (1 - e) (I ((sR S p 0).getD 0) 3) (I b 2)) b 8 (f_X1_keep I (sR S) b a (1 - e) (I ((sR S p 0).getD 0) 3) (I b 2) b 8 + nI 1)) := rfl
  generalize f_X1_keep I (sR S) b a (1 - e) (I ((sR S p 0).getD 0) 3) (I b 2) = I2 at kr E
  have lane : ∀ c, c < 8 → I2 (Ln (sR S) b c e) = I (Ln (sR S) b c e) := fun c hc => kr _ 4 (ly_N hL hc he).2.1 (by decide) (by decide)
  have fok2 : ∀ c, c < 8 → FOK I2 (sR S) b c e := fun c hc => FOK_e (by rw [lane c hc]) (by rw [lane c hc]) (fok c hc)
  have cf2 : ∀ c, c < 8 → CF I2 (sR S) b c e = CF I (sR S) b c e := fun c hc => CF_e (by rw [lane c hc]) (by rw [lane c hc])
  have r3 : ∀ z, sK S z = 3 → I2 z = I z := fun z hz => kr z 3 hz (by decide) (by decide)
  have rb : I2 b = I b := kr b 8 hL.2 (by decide) (by decide)
  have me : ∀ z, sK S z = 3 → f_X2_mustComeAhead I2 z a = f_X2_mustComeAhead I z a := fun z hz => must_e (fun j _ => by rw [r3 z hz]) (fun j _ => by rw [r3 a ka])
  have fin : ∀ I3, KO S b I2 I3 → (∀ z, sK S z = 3 → I3 z = I2 z) → (∀ z, sK S z = 3 → g_X7_receive_43 (sR S) b a p e 8 0 I3 z 6 = I z 6 ∨ (g_X7_receive_43 (sR S) b a p e 8 0 I3 z 6 = nI 1 ∧ ¬ f_X2_mustComeAhead I z a = 0 ∧ ∃ c, c < 8 ∧ z ∈ CF I (sR S) b c e)) ∧ (∀ c z, c < 8 → z ∈ CF I (sR S) b c e → ¬ f_X2_mustComeAhead I z a = 0 → g_X7_receive_43 (sR S) b a p e 8 0 I3 z 6 = nI 1) ∧ g_X7_receive_43 (sR S) b a p e 8 0 I3 b = I3 b := fun I3 ko r33 => by
    obtain ⟨a1, a2, a3⟩ := mk_43 (q := p) (I0 := I2) hL he ka fok2 8 0 I3 rfl ko
    refine ⟨fun z hz => ?_, fun c z hc hz hm => a2 c z (by omega) hc (by rw [cf2 c hc]; exact hz) (by rw [me z (CF_k hL hc he (fok c hc) z hz)]; exact hm), a3 b (by rw [hL.2]; decide)⟩
    rcases a1 z with h | ⟨h1, h2, c, hc, h3⟩
    · exact Or.inl (by rw [h, r33 z hz, r3 z hz])
    · exact Or.inr ⟨h1, by rw [← me z hz]; exact h2, c, hc, by rw [← cf2 c hc]; exact h3⟩
  rw [E, r3 a ka]
  by_cases l : I a 6 = 0
  · rw [if_pos l]
    obtain ⟨f1, f2, f3⟩ := fin I2 KO.rf (fun _ _ => rfl)
    refine ⟨f1, f2, ?_, ?_⟩
    · rw [f3, rb, if_pos l, i_add0]
    · rw [f3, rb]
  · rw [if_neg l]
    obtain ⟨f1, f2, f3⟩ := fin (up2 I2 b 8 (I2 b 8 + nI 1)) (KO.rf.b (Or.inl rfl)) (fun z hz => up2_row (ne_k hz hL.2 (by decide)))
    refine ⟨f1, f2, ?_, ?_⟩
    · rw [f3, up2_self, rb, if_neg l]
    · rw [f3, up2_jn (by decide), rb]
