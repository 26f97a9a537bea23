theorem z_f_isPulled {Q : Option Value → MM → Prop} {S0 : MM} {m c n : Nat} {A : Nat → Nat} (hM : MS S0 m A) (im : IM S0 m A) (hc : c < 8) (hn : n < 4001) (e32 : sI S0 m 32 = nI n) (hR : RV S0 A) (hP : sI S0 (A 24) c ≠ 0) (K : ∀ S' k, k ≤ n → SM [7, 8, 9, 11, 12, 13, 14, 18, 21, 24, 25, 27, 28, 29, 30, 31, 32, 40, 46] m A S0 S' → IM S' m A → RV S' A → sI S' m 32 = nI k → (TL S' A k = TL S0 A n ∧ sI S0 (A 25) c = 0 ∨ TL S' A k = (TL S0 A n).filter (pC c)) → sI S' (A 24) = upd (sI S0 (A 24)) c (nI 0) → (∀ d, d ≠ c → sI S' (A 25) d = sI S0 (A 25) d) → sI S' (A 25) c = 0 → (∀ x, sI S' (A 11) x = -1 ∨ sI S' (A 11) x = sI S0 (A 11) x) → Q none S') : wX8_isPulled [.ref m, .int (nI c)] S0 Q := by
  refine Exists.intro 2 (u_X8_isPulled_0 ?_)
  unfold bX8_isPulled_0
  refine e_ldA rfl (e_gR hM.1 (hM.2.1 25 (by decide)).1 (e_ldI rfl (e_aI (N := 8) (kdA hM (by decide) rfl) (lnA hM (by decide) rfl) hc (by decide) (fun v hv => e_if0 (fun h0 => ?_) (fun h0 => ?_)))))
  · have hU : sI S0 (A 25) c = 0 := hv.trans h0
    refine q_ip14 (f := 0) hM im hc hR hP hU rfl rfl (fun S1 s1 im1 r1 a24 a11 => ?_)
    have a25 : sI S1 (A 25) = sI S0 (A 25) := SM_a s1 hM (by decide) (by decide)
    exact K S1 n (Nat.le_refl _) (SM.tr SM.rf s1 (by decide)) im1 r1 ((s1.2.2.2.2.2 32 (by decide)).trans e32) (Or.inl ⟨TL_c (fun j _ => th_SM s1 hM (by decide) j), hU⟩) a24 (fun d _ => by rw [a25]) (by rw [a25]; exact hU) a11
  · refine e_ldA rfl (e_ldI rfl (And.intro hM.1 (And.intro ⟨by decide, by decide⟩ (z_f_isCut hM im hc hn e32 (fun S1 k p0 p1 hk hp0 hp1 e0 e1 s1 im1 k32 kT a25 a7 a9 => ?_)))))
    have hM1 := MS_SM hM s1
    have b11 : sI S1 (A 11) = sI S0 (A 11) := SM_a s1 hM (by decide) (by decide)
    have b22 : sI S1 (A 22) = sI S0 (A 22) := SM_a s1 hM (by decide) (by decide)
    have b23 : sI S1 (A 23) = sI S0 (A 23) := SM_a s1 hM (by decide) (by decide)
    have b24 : sI S1 (A 24) = sI S0 (A 24) := SM_a s1 hM (by decide) (by decide)
    have r1 : RV S1 A := by
      unfold RV
      rw [a7, a9, b11, b22, b23, b24, a25]
      exact RI_cut hR hc hp0 hp1 e0 e1
    have u1 : sI S1 (A 25) c = 0 := by rw [a25, pk_us]; rfl
    refine q_ip14 (f := 0) hM1 im1 hc r1 (by rw [b24]; exact hP) u1 rfl rfl (fun S2 s2 im2 r2 c24 c11 => ?_)
    have c25 : sI S2 (A 25) = sI S1 (A 25) := SM_a s2 hM1 (by decide) (by decide)
    exact K S2 k hk (SM.tr (SM.tr SM.rf s1 (by decide)) s2 (by decide)) im2 r2 ((s2.2.2.2.2.2 32 (by decide)).trans k32) (Or.inr ((TL_c (fun j _ => th_SM s2 hM1 (by decide) j)).trans kT)) (by rw [c24, b24]) (fun d hd => by rw [c25, a25, pk_un hd]) (by rw [c25]; exact u1) (fun x => by rw [← b11]; exact c11 x)
/-- the things are of cables that are up -/
def UT (S : MM) (A : Nat → Nat) (n : Nat) : Prop := ∀ q ∈ TL S A n, ∃ c, c < 8 ∧ q.1 = nI c ∧ sI S (A 25) c ≠ 0
theorem UT_filter {S S' : MM} {A : Nat → Nat} {n k c : Nat} (hc : c < 8) (h : UT S A n) (hT : TL S' A k = TL S A n ∧ sI S (A 25) c = 0 ∨ TL S' A k = (TL S A n).filter (pC c)) (hU : ∀ d, d ≠ c → sI S' (A 25) d = sI S (A 25) d) : UT S' A k ∧ ∀ q ∈ TL S' A k, q.1 ≠ nI c := by
  have both : ∀ q ∈ TL S' A k, q ∈ TL S A n ∧ q.1 ≠ nI c := fun q hq => by
    rcases hT with ⟨e, u⟩ | e
    · rw [e] at hq
      refine ⟨hq, fun z => ?_⟩
      obtain ⟨d, d1, d2, d3⟩ := h q hq
      have : d = c := nI_inj (by omega) (by omega) (d2.symm.trans z)
      rw [this] at d3
      exact d3 u
    · rw [e] at hq
      have q1 := List.mem_filter.mp hq
      refine ⟨q1.1, fun z => ?_⟩
      have q2 := q1.2
      unfold pC at q2
      rw [z] at q2
      simp at q2
  refine ⟨fun q hq => ?_, fun q hq => (both q hq).2⟩
  obtain ⟨h1, h2⟩ := both q hq
  obtain ⟨d, d1, d2, d3⟩ := h q h1
  refine ⟨d, d1, d2, ?_⟩
  rw [hU d (fun z => h2 (by rw [d2, z]))]
  exact d3
