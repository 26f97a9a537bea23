theorem if0 {A B : Prop} (a : A) : ((0 : Int32) = 0 → A) ∧ (¬ (0 : Int32) = 0 → B) := ⟨fun _ => a, fun h => absurd rfl h⟩
theorem if1 {A B : Prop} (b : B) : ((1 : Int32) = 0 → A) ∧ (¬ (1 : Int32) = 0 → B) := ⟨fun h => absurd h (by decide), fun _ => b⟩
theorem rng {c : Int32} {n : Nat} (hn : n < 2 ^ 31) (h0 : ¬ c < 0) (h1 : ¬ nI n ≤ c) : ∃ j, j < n ∧ c = nI j := by
  rcases pk_ix c hn with h | h | h
  · exact absurd h h0
  · exact absurd h h1
  · exact h
theorem s_isCable {S : MM} {v : Int32} {Q : Option Value → MM → Prop} (hb : v < 0 ∨ 8 ≤ v → Q (some (.int 0)) S) (ho : ∀ j, j < 8 → v = nI j → Q (some (.int 1)) S) : wX7_isCable [.int v] S Q := by
  refine Exists.intro 3 (And.intro (fun h0 => And.intro (Or.inl rfl) (hb (Or.inl h0))) (fun h0 => And.intro (fun h1 => And.intro (Or.inl rfl) (hb (Or.inr h1))) (fun h1 => ?_)))
  obtain ⟨j, hj, e⟩ := rng (n := 8) (by decide) h0 h1
  exact And.intro (Or.inr rfl) (ho j hj e)
theorem s_isPort {S : MM} {v : Int32} {Q : Option Value → MM → Prop} (hb : v < 0 ∨ 8 ≤ v → Q (some (.int 0)) S) (ho : ∀ j, j < 8 → v = nI j → Q (some (.int 1)) S) : wX7_isPort [.int v] S Q := by
  refine Exists.intro 3 (And.intro (fun h0 => And.intro (Or.inl rfl) (hb (Or.inl h0))) (fun h0 => And.intro (fun h1 => And.intro (Or.inl rfl) (hb (Or.inr h1))) (fun h1 => ?_)))
  obtain ⟨j, hj, e⟩ := rng (n := 8) (by decide) h0 h1
  exact And.intro (Or.inr rfl) (ho j hj e)
theorem s_isEnd2 {S : MM} {v : Int32} {Q : Option Value → MM → Prop} (hb : v < 0 ∨ 2 ≤ v → Q (some (.int 0)) S) (ho : ∀ j, j < 2 → v = nI j → Q (some (.int 1)) S) : wX7_isEnd [.int v] S Q := by
  refine Exists.intro 3 (And.intro (fun h0 => And.intro (Or.inl rfl) (hb (Or.inl h0))) (fun h0 => And.intro (fun h1 => And.intro (Or.inl rfl) (hb (Or.inr h1))) (fun h1 => ?_)))
  obtain ⟨j, hj, e⟩ := rng (n := 2) (by decide) h0 h1
  exact And.intro (Or.inr rfl) (ho j hj e)
theorem s_MisCable {S : MM} {v : Int32} {Q : Option Value → MM → Prop} (hb : v < 0 ∨ 8 ≤ v → Q (some (.int 0)) S) (ho : ∀ j, j < 8 → v = nI j → Q (some (.int 1)) S) : wX8_isCable [.int v] S Q := by
  refine Exists.intro 3 (And.intro (fun h0 => And.intro (Or.inl rfl) (hb (Or.inl h0))) (fun h0 => And.intro (fun h1 => And.intro (Or.inl rfl) (hb (Or.inr h1))) (fun h1 => ?_)))
  obtain ⟨j, hj, e⟩ := rng (n := 8) (by decide) h0 h1
  exact And.intro (Or.inr rfl) (ho j hj e)
theorem s_MisPort {S : MM} {v : Int32} {Q : Option Value → MM → Prop} (hb : v < 0 ∨ 8 ≤ v → Q (some (.int 0)) S) (ho : ∀ j, j < 8 → v = nI j → Q (some (.int 1)) S) : wX8_isPort [.int v] S Q := by
  refine Exists.intro 3 (And.intro (fun h0 => And.intro (Or.inl rfl) (hb (Or.inl h0))) (fun h0 => And.intro (fun h1 => And.intro (Or.inl rfl) (hb (Or.inr h1))) (fun h1 => ?_)))
  obtain ⟨j, hj, e⟩ := rng (n := 8) (by decide) h0 h1
  exact And.intro (Or.inr rfl) (ho j hj e)
theorem s_MisEnd {S : MM} {v : Int32} {Q : Option Value → MM → Prop} (hb : v < 0 ∨ 2 ≤ v → Q (some (.int 0)) S) (ho : ∀ j, j < 2 → v = nI j → Q (some (.int 1)) S) : wX8_isEnd [.int v] S Q := by
  refine Exists.intro 3 (And.intro (fun h0 => And.intro (Or.inr rfl) (ho 0 (by decide) h0)) (fun h0 => And.intro (fun h1 => And.intro (Or.inr rfl) (ho 1 (by decide) h1)) (fun h1 => And.intro (Or.inl rfl) (hb ?_))))
  rcases pk_ix v (n := 2) (by decide) with h | h | ⟨j, hj, e⟩
  · exact Or.inl h
  · exact Or.inr h
  · have : j = 0 ∨ j = 1 := by omega
    rcases this with rfl | rfl
    · exact absurd e h0
    · exact absurd e h1
theorem hd2_1 {k1 k2 : Kt} : hd2 eI eS k1 k2 eI = k1 := if_pos rfl
theorem hd2_2 {k1 k2 : Kt} : hd2 eI eS k1 k2 eS = k2 := by unfold hd2; rw [if_neg (by decide), if_pos rfl]
theorem hd1_1 {E : String} {k1 : Kt} : hd1 E k1 E = k1 := if_pos rfl
/-- the reference as it is new -/
def MF (S : MM) (m : Nat) : Prop := sK S m = 9 ∧ (∀ j, sI S m j = 0) ∧ (∀ k ∈ DM, ∃ a, sR S m k = some a ∧ sK S a = kdM k ∧ sN S a = lnM k ∧ (∀ j, sI S a j = fM 16 k j) ∧ a ≠ m) ∧ ∀ k ∈ DM, ∀ k' ∈ DM, sR S m k = sR S m k' → k = k'
theorem MF_ext {S S' : MM} {m : Nat} (h : MF S m) (r : ∀ a, sK S a = 9 ∨ sK S a = 10 ∨ sK S a = 11 → RS S S' a) : MF S' m := by
  obtain ⟨h1, h2, h3, h4⟩ := h
  have rm := r m (Or.inl h1)
  refine ⟨by rw [rm.1]; exact h1, fun j => by rw [rm.2.2.1]; exact h2 j, fun k hk => ?_, fun k hk k' hk' he => h4 k hk k' hk' (by rw [rm.2.2.2.1] at he; exact he)⟩
  obtain ⟨a, a1, a2, a3, a4, a5⟩ := h3 k hk
  have ra := r a (by rw [a2]; unfold kdM; split <;> simp)
  exact ⟨a, by rw [rm.2.2.2.1]; exact a1, by rw [ra.1]; exact a2, by rw [ra.2.1]; exact a3, fun j => by rw [ra.2.2.1]; exact a4 j, a5⟩
theorem s_thrown {S : MM} {m : Nat} {Q : Option Value → MM → Prop} (hm : sK S m = 9) (h : Q (some (.int (sI S m 0))) S) : wX8_thrown [.ref m] S Q := Exists.intro 1 (And.intro hm h)
/-- class and reference, new, and the law's row -/
def GG (S : MM) (x aE aC e0 e1 m out : Nat) : Prop := B0 S x aE aC e0 e1 ∧ MF S m ∧ sK S out = 18 ∧ sN S out = 1
-- pull
theorem s_pull {S : MM} {x aE aC e0 e1 : Nat} {v : Int32} {Q : Option Value → MM → Prop} {X : String → MM → Prop} (hB : B0 S x aE aC e0 e1) (hb : v < 0 ∨ 8 ≤ v → X eI S) (ho : ∀ j, j < 8 → v = nI j → X eS S) : wX7_pull [.ref x, .int v] S Q X := by
  obtain ⟨⟨b1, b2, b3, b4, b5, b6, b7, b8, b9, b10⟩, hz, hE0, hE1, hC⟩ := hB
  refine Exists.intro 3 (And.intro ⟨by decide, by decide⟩ (s_isCable (fun h => if0 (And.intro ⟨by decide, by decide⟩ (hb h))) (fun j hj e => if1 ?_)))
  obtain ⟨a, a1, a2⟩ := hC j hj
  subst e
  refine And.intro b1 (useR b3 (And.intro b6 (And.intro (by rw [b7]; exact in_nI hj (by decide)) (useR (v := some a) (by rw [cl_nI (by omega)]; exact a1) ?_))))
  exact And.intro a2.1.1 (And.intro ⟨by decide, by decide⟩ (s_isPlugged0 a2.1 (if0 (And.intro ⟨by decide, by decide⟩ (ho j hj rfl)))))
theorem s_Lpull {S : MM} {x aE aC e0 e1 : Nat} {v : Int32} {Q : Option Value → MM → Prop} (hB : B0 S x aE aC e0 e1) (hb : v < 0 ∨ 8 ≤ v → Q (some (.int 1)) S) (ho : ∀ j, j < 8 → v = nI j → Q (some (.int 2)) S) : wL_pull [.ref x, .int v] S Q := by
  refine Exists.intro 3 (And.intro hB.1.1 (And.intro ⟨by decide, by decide⟩ (s_pull hB (fun h q => ?_) (fun j hj e q => ?_))))
  · rw [hd2_1]; exact hb h
  · rw [hd2_2]; exact ho j hj e
theorem s_Mpull {S : MM} {m : Nat} {v : Int32} {Q : Option Value → MM → Prop} (hM : MF S m) (hb : v < 0 ∨ 8 ≤ v → Q none (pI S m 0 1)) (ho : ∀ j, j < 8 → v = nI j → Q none (pI S m 0 2)) : wX8_pull [.ref m, .int v] S Q := by
  have hm := hM.1
  obtain ⟨a, a1, a2, a3, a4, -⟩ := hM.2.2.1 24 (by decide)
  refine Exists.intro 4 (And.intro ⟨by decide, by decide⟩ (s_MisCable (fun h => if0 (And.intro hm (And.intro hm (And.intro (fun h0 => ?_) (fun _ => hb h))))) (fun j hj e => if1 ?_)))
  · rw [sI_pI, up2_self] at h0; exact absurd h0 (by decide)
  · subst e
    refine And.intro hm (useR a1 (And.intro a2 (And.intro (by rw [a3]; exact in_nI hj (by decide)) (And.intro (fun _ => And.intro hm (And.intro hm (And.intro (fun h0 => ?_) (fun _ => ho j hj rfl)))) (fun h0 => ?_)))))
    · rw [sI_pI, up2_self] at h0; exact absurd h0 (by decide)
    · exact absurd (by rw [a4]; rfl) h0
theorem v5 {i : Nat} (h : i < 5) : vp_in (nI i) 5 := in_nI h (by decide)
theorem c_pull {b : Nat} {xs : Nat → Int32} {S : MM} {x aE aC e0 e1 m out c z : Nat} (h : GG S x aE aC e0 e1 m out) (hc : c + 1 ≤ 600002) (hz : z + 6 ≤ 7302232) : wpn (kL_law b 5 xs) 9 496 [(4, .int 0), (3, .ref out), (2, .ref m), (1, .ref x), (0, .ref b)] [] S c z := by
  obtain ⟨hB, hM, ho1, ho2⟩ := h
  refine And.intro rfl (And.intro (v5 (i := 1) (by decide)) (And.intro ⟨hc, hz⟩ (s_Lpull hB (fun hb => ?_) (fun j hj e => ?_))))
  · refine And.intro rfl (And.intro (v5 (i := 1) (by decide)) (And.intro hM.1 (And.intro ⟨hc, hz⟩ (s_Mpull hM (fun _ => And.intro hM.1 (And.intro ⟨hc, hz⟩ (s_thrown hM.1 ?_))) (fun j hj e => ?_)))))
    · rw [sI_pI, up2_self]
      exact And.intro (fun _ => And.intro rfl (And.intro (fun _ => rfl) (fun h => absurd (by decide) h))) (fun h => absurd rfl h)
    · exfalso
      rcases hb with q | q
      · rw [e] at q; exact nI_pos (by omega) q
      · rw [e] at q; exact n8_ge hj q
  · refine And.intro rfl (And.intro (v5 (i := 1) (by decide)) (And.intro hM.1 (And.intro ⟨hc, hz⟩ (s_Mpull hM (fun q => ?_) (fun j hj e => And.intro hM.1 (And.intro ⟨hc, hz⟩ (s_thrown hM.1 ?_)))))))
    · exfalso
      rcases q with q | q
      · rw [e] at q; exact nI_pos (by omega) q
      · rw [e] at q; exact n8_ge hj q
    · rw [sI_pI, up2_self]
      exact And.intro (fun _ => And.intro rfl (And.intro (fun _ => rfl) (fun h => absurd (by decide) h))) (fun h => absurd rfl h)
