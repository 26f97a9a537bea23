theorem s_Lsystem {S : MM} {x aE aC e0 e1 out : Nat} {v n : Int32} {Q : Option Value → MM → Prop} (hB : B0 S x aE aC e0 e1) (o1 : sK S out = 18) (o2 : sN S out = 1) (hb : sB v n → Q (some (.int 1)) S) (hs2 : ∀ j, j < 2 → v = nI j → ¬ sB v n → n = (if j = 0 then 20 else 10) → Q (some (.int 2)) S) (ho : ∀ j, j < 2 → v = nI j → ¬ sB v n → ¬ n = (if j = 0 then 20 else 10) → ∀ S', Ex S S' (Kc S) → Q (some (.int 0)) (pJ S' out 0 (Int32.toInt64 (if j = 0 then 10 else 20)))) : wL_system [.ref x, .int v, .int n, .ref out] S Q := by
  refine Exists.intro 3 (And.intro hB.1.1 (And.intro ⟨by decide, by decide⟩ (s_system hB (fun h q => ?_) (fun j hj e nb h q => ?_) (fun j hj e nb h S' hS => ?_))))
  · rw [hd2_1]; exact hb h
  · rw [hd2_2]; exact hs2 j hj e nb h
  · have r := out_Kc o1 hS
    exact And.intro (by show sK S' out = 18; rw [r.1]; exact o1) (And.intro (by show vp_in 0 (sN S' out); rw [r.2.1, o2]; exact in_0 (by decide)) (ho j hj e nb h S' hS))
theorem s_Msystem {S : MM} {m : Nat} {v n : Int32} {Q : Option Value → MM → Prop} (hM : MF S m) (hb : sB v n → Q (some (.int 0)) (pI S m 0 1)) (hs2 : ∀ j, j < 2 → v = nI j → ¬ sB v n → n = (if j = 0 then 20 else 10) → Q (some (.int 0)) (pI S m 0 2)) (ho : ∀ j, j < 2 → v = nI j → ¬ sB v n → ¬ n = (if j = 0 then 20 else 10) → ∀ S', MR S S' m 0 → Q (some (.int (if j = 0 then 10 else 20))) S') : wX8_system [.ref m, .int v, .int n] S Q := by
  have hm := hM.1
  obtain ⟨a, a1, a2, a3, a4, a5⟩ := hM.2.2.1 1 (by decide)
  have t : sI (pI S m 0 1) m 0 ≤ 0 → False := fun h => by rw [sI_pI, up2_self] at h; exact absurd h (by decide)
  have t2 : sI (pI S m 0 2) m 0 ≤ 0 → False := fun h => by rw [sI_pI, up2_self] at h; exact absurd h (by decide)
  refine Exists.intro 6 (And.intro ⟨by decide, by decide⟩ (s_MisEnd (fun h => if0 (And.intro hm (And.intro hm (And.intro (fun h0 => (t h0).elim) (fun _ => hb (Or.inl h)))))) (fun j hj e => if1 (And.intro (fun h => And.intro hm (And.intro hm (And.intro (fun h0 => (t h0).elim) (fun _ => hb (Or.inr (Or.inl h)))))) (fun h1 => And.intro (fun h2 => ?_) (fun h => And.intro hm (And.intro hm (And.intro (fun h0 => (t h0).elim) (fun _ => hb (Or.inr (Or.inr h)))))))))))
  have nb : ¬ sB v n := fun q => by
    rcases q with q | q | q
    · exact no_end q hj e
    · exact h1 q
    · exact q h2
  have v0 : vp_in 0 (sN S a) := by rw [a3]; exact in_0 (by decide)
  have v1 : vp_in 1 (sN S a) := by rw [a3]; exact in_nI (i := 1) (by decide) (by decide)
  have s0 : sI S a 0 = 10 := by rw [a4]; rfl
  have s1 : sI S a 1 = 20 := by rw [a4]; rfl
  have hj2 : j = 0 ∨ j = 1 := by omega
  rcases hj2 with rfl | rfl
  · subst e
    have i1 : (1 : Int32) - nI 0 = 1 := by decide
    refine And.intro hm (useR a1 (And.intro a2 (And.intro (by show vp_in ((1 : Int32) - nI 0) (sN S a); rw [i1]; exact v1) (And.intro (fun h => And.intro hm (And.intro hm (And.intro (fun h0 => (t2 h0).elim) (fun _ => hs2 0 (by decide) rfl nb (by rw [← h]; show sI S a ((1 : Int32) - nI 0).toNatClampNeg = 20; rw [i1]; exact s1))))) (fun h => ?_)))))
    refine And.intro hm (And.intro hm (And.intro (fun _ => ?_) (fun h => absurd (by rw [sI_pI, up2_self]; decide) h)))
    refine And.intro hm (useR a1 (And.intro a2 (And.intro v0 (And.intro hm (useR a1 (And.intro a2 (And.intro v0 (And.intro hm (And.intro ⟨by decide, by decide⟩ (Exists.intro 1 (And.intro hm ?_)))))))))))
    have hr := ho 0 (by decide) rfl nb (fun z => h (by show sI S a ((1 : Int32) - nI 0).toNatClampNeg = n; rw [i1, z]; exact s1)) (pI (pI (pI S m 0 0) a 0 n) m 44 0) ⟨rfl, rfl, rfl, by rw [sI_pI, up2_ne (by simp), sI_pI, up2_ne (fun z => a5 z.1.symm), sI_pI, up2_self]⟩
    show Q (some (.int (sI (pI S m 0 0) a 0))) (pI (pI (pI S m 0 0) a 0 n) m 44 0)
    rw [sI_pI, up2_ne (fun z => a5 z.1), s0]
    exact hr
  · subst e
    have i1 : (1 : Int32) - nI 1 = 0 := by decide
    refine And.intro hm (useR a1 (And.intro a2 (And.intro (by show vp_in ((1 : Int32) - nI 1) (sN S a); rw [i1]; exact v0) (And.intro (fun h => And.intro hm (And.intro hm (And.intro (fun h0 => (t2 h0).elim) (fun _ => hs2 1 (by decide) rfl nb (by rw [← h]; show sI S a ((1 : Int32) - nI 1).toNatClampNeg = 10; rw [i1]; exact s0))))) (fun h => ?_)))))
    refine And.intro hm (And.intro hm (And.intro (fun _ => ?_) (fun h => absurd (by rw [sI_pI, up2_self]; decide) h)))
    refine And.intro hm (useR a1 (And.intro a2 (And.intro v1 (And.intro hm (useR a1 (And.intro a2 (And.intro v1 (And.intro hm (And.intro ⟨by decide, by decide⟩ (Exists.intro 1 (And.intro hm ?_)))))))))))
    have hr := ho 1 (by decide) rfl nb (fun z => h (by show sI S a ((1 : Int32) - nI 1).toNatClampNeg = n; rw [i1, z]; exact s0)) (pI (pI (pI S m 0 0) a 1 n) m 44 0) ⟨rfl, rfl, rfl, by rw [sI_pI, up2_ne (by simp), sI_pI, up2_ne (fun z => a5 z.1.symm), sI_pI, up2_self]⟩
    show Q (some (.int (sI (pI S m 0 0) a 1))) (pI (pI (pI S m 0 0) a 1 n) m 44 0)
    rw [sI_pI, up2_ne (fun z => a5 z.1), s1]
    exact hr
theorem nI_in2 {i j : Nat} (hi : i < 2) (hj : j < 2) (h : nI i = nI j) : i = j := (nI_eq (by omega) (by omega)).mp h
theorem c_system {b : Nat} {xs : Nat → Int32} {S : MM} {x aE aC e0 e1 m out c z : Nat} (h : GG S x aE aC e0 e1 m out) (hc : c + 1 ≤ 600002) (hz : z + 6 ≤ 7302232) : wpn (kL_law b 5 xs) 9 112 [(4, .int 0), (3, .ref out), (2, .ref m), (1, .ref x), (0, .ref b)] [] S c z := by
  obtain ⟨hB, hM, ho1, ho2⟩ := h
  refine And.intro rfl (And.intro (v5 (i := 1) (by decide)) (And.intro rfl (And.intro (v5 (i := 2) (by decide)) (And.intro ⟨hc, hz⟩ (s_Lsystem hB ho1 ho2 (fun hb => ?_) (fun j hj e nb hn => ?_) (fun j hj e nb hn S' hS => ?_))))))
  · refine And.intro rfl (And.intro (v5 (i := 1) (by decide)) (And.intro rfl (And.intro (v5 (i := 2) (by decide)) (And.intro hM.1 (And.intro ⟨hc, hz⟩ (s_Msystem hM (fun _ => And.intro hM.1 (And.intro ⟨hc, hz⟩ (s_thrown hM.1 ?_))) (fun j hj e nb _ => absurd hb nb) (fun j hj e nb _ => absurd hb nb)))))))
    rw [sI_pI, up2_self]
    exact And.intro (fun _ => And.intro (fun h => absurd h (by decide)) (fun _ => And.intro rfl (And.intro (fun _ => rfl) (fun h => absurd (by decide) h)))) (fun h => absurd rfl h)
  · refine And.intro rfl (And.intro (v5 (i := 1) (by decide)) (And.intro rfl (And.intro (v5 (i := 2) (by decide)) (And.intro hM.1 (And.intro ⟨hc, hz⟩ (s_Msystem hM (fun q => absurd q nb) (fun j' hj' e' _ _ => And.intro hM.1 (And.intro ⟨hc, hz⟩ (s_thrown hM.1 ?_))) (fun j' hj' e' _ hn' => ?_)))))))
    · rw [sI_pI, up2_self]
      exact And.intro (fun _ => And.intro (fun h => absurd h (by decide)) (fun _ => And.intro rfl (And.intro (fun _ => rfl) (fun h => absurd (by decide) h)))) (fun h => absurd rfl h)
    · have : j' = j := nI_in2 hj' hj (e'.symm.trans e)
      subst this
      exact absurd hn hn'
  · have r := out_Kc ho1 hS
    have hM2 : MF (pJ S' out 0 (Int32.toInt64 (if j = 0 then 10 else 20))) m := MF_pJ (MF_Kc hM hS) (by rw [r.1]; exact ho1)
    refine And.intro rfl (And.intro (v5 (i := 1) (by decide)) (And.intro rfl (And.intro (v5 (i := 2) (by decide)) (And.intro hM2.1 (And.intro ⟨hc, hz⟩ (s_Msystem hM2 (fun q => absurd q nb) (fun j' hj' e' _ hn' => ?_) (fun j' hj' e' _ hn' S2 hR => ?_)))))))
    · have : j' = j := nI_in2 hj' hj (e'.symm.trans e)
      subst this
      exact absurd hn' hn
    · have : j' = j := nI_in2 hj' hj (e'.symm.trans e)
      subst this
      have km : sK S2 m = 9 := by rw [hR.1]; exact hM2.1
      have kO : sK S2 out = 18 := by rw [hR.1, sK_pJ, r.1]; exact ho1
      have nO : sN S2 out = 1 := by rw [hR.2.1, sN_pJ, r.2.1]; exact ho2
      have jO : sJ S2 out 0 = Int32.toInt64 (if j' = 0 then 10 else 20) := by rw [hR.2.2.1, sJ_pJ, up2_self]
      refine And.intro km (And.intro ⟨hc, hz⟩ (s_thrown km ?_))
      rw [hR.2.2.2]
      refine And.intro (fun _ => And.intro (fun _ => And.intro kO (And.intro (by rw [nO]; exact in_0 (by decide)) ?_)) (fun h => absurd rfl h)) (fun h => absurd rfl h)
      show ifz (fun x => x = 0) _ _ _ [.int (lg_cmp (sJ S2 out 0) (Int32.toInt64 (if j' = 0 then 10 else 20)))] S2 _ _
      rw [jO, lg_self]
      exact And.intro (fun _ => And.intro rfl (And.intro (fun _ => rfl) (fun h => absurd (by decide) h))) (fun h => absurd rfl h)
