theorem useR {e v : Option Nat} {P : Option Nat → Prop} (h : e = v) (k : P v) : ∀ o, e = o → P o := fun o ho => (h.symm.trans ho) ▸ k
theorem s_has {S : MM} {a : Nat} {v : Int32} {Q : Option Value → MM → Prop} (hk : sK S a = 7) (h : Q (some (.int (if sI S a 4 &&& v = 0 then 0 else 1))) S) : wX6_has [.ref a, .int v] S Q := by
  refine Exists.intro 3 (And.intro hk (And.intro (fun hz => ?_) (fun hz => ?_)))
  · rw [if_pos hz] at h
    exact And.intro (Or.inl rfl) h
  · rw [if_neg hz] at h
    exact And.intro (Or.inr rfl) h
theorem s_isEnd {S : MM} {v : Int32} {Q : Option Value → MM → Prop} (h : Q (some (.int (if v < 0 ∨ 2 ≤ v then 0 else 1))) S) : wX7_isEnd [.int v] S Q := by
  refine Exists.intro 3 (And.intro (fun h0 => ?_) (fun h0 => And.intro (fun h1 => ?_) (fun h1 => ?_)))
  · rw [if_pos (Or.inl h0)] at h
    exact And.intro (Or.inl rfl) h
  · rw [if_pos (Or.inr h1)] at h
    exact And.intro (Or.inl rfl) h
  · rw [if_neg (fun q => q.elim h0 h1)] at h
    exact And.intro (Or.inr rfl) h
/-- a cable that is plugged in nothing -/
def Cb0 (S : MM) (a : Nat) : Prop := sK S a = 1 ∧ sI S a 3 = 0 ∧ sI S a 4 = 0 ∧ ∃ pp, sR S a 0 = some pp ∧ sK S pp = 17 ∧ sN S pp = 2 ∧ sR S pp 0 = none ∧ sR S pp 1 = none
theorem in_0 {n : Nat} (h : 0 < n) : vp_in 0 n := fun q => q.elim (by decide) (fun z => Nat.not_le.mpr h z)
theorem s_isPlugged0 {S : MM} {a : Nat} {Q : Option Value → MM → Prop} (hc : Cb0 S a) (h : Q (some (.int 0)) S) : wX0_isPlugged [.ref a] S Q := by
  obtain ⟨hk, -, -, pp, h1, h2, h3, h4, h5⟩ := hc
  refine Exists.intro 3 (And.intro hk (useR h1 (And.intro h2 (And.intro (by rw [h3]; exact in_0 (by decide)) (useR h4 ?_)))))
  exact And.intro (Or.inl rfl) h
theorem s_agrees0 {S : MM} {a : Nat} {Q : Option Value → MM → Prop} (hc : Cb0 S a) (h : Q (some (.int 0)) S) : wX0_agrees [.ref a] S Q := by
  obtain ⟨hk, hu, -⟩ := hc
  refine Exists.intro 3 (And.intro hk (And.intro (fun h0 => ?_) (fun h0 => absurd hu h0)))
  exact And.intro (Or.inl rfl) h
