theorem lg_self (x : Int64) : lg_cmp x x = 0 := by simp [lg_cmp]
theorem no_end {v : Int32} {j : Nat} (h : v < 0 ∨ 2 ≤ v) (hj : j < 2) (e : v = nI j) : False := by
  rw [e] at h
  rcases h with q | q
  · exact nI_pos (by omega) q
  · exact n2_ge hj q
theorem no_8 {v : Int32} {j : Nat} (h : v < 0 ∨ 8 ≤ v) (hj : j < 8) (e : v = nI j) : False := by
  rw [e] at h
  rcases h with q | q
  · exact nI_pos (by omega) q
  · exact n8_ge hj q
/-- what a call of the reference leaves behind: thrown is t -/
def MR (S S' : MM) (m : Nat) (t : Int32) : Prop := sK S' = sK S ∧ sN S' = sN S ∧ sJ S' = sJ S ∧ sI S' m 0 = t
theorem s_Llimit {S : MM} {x aE aC e0 e1 out : Nat} {v n : Int32} {Q : Option Value → MM → Prop} (hB : B0 S x aE aC e0 e1) (o1 : sK S out = 18) (o2 : sN S out = 1) (hb : (v < 0 ∨ 2 ≤ v) ∨ (n < 1 ∨ ¬ n ≤ 8) → Q (some (.int 1)) S) (ho : ∀ j, j < 2 → v = nI j → ¬ n < 1 → n ≤ 8 → ∀ S', Ex S S' (Kc S) → Q (some (.int 0)) (pJ S' out 0 (Int32.toInt64 8))) : wL_limit [.ref x, .int v, .int n, .ref out] S Q := by
  refine Exists.intro 3 (And.intro hB.1.1 (And.intro ⟨by decide, by decide⟩ (s_limit hB (fun h q => ?_) (fun j hj e h1 h2 S' hS => ?_))))
  · rw [hd1_1]; exact hb h
  · have r := out_Kc o1 hS
    exact And.intro (by show sK S' out = 18; rw [r.1]; exact o1) (And.intro (by show vp_in 0 (sN S' out); rw [r.2.1, o2]; exact in_0 (by decide)) (ho j hj e h1 h2 S' hS))
theorem f_lim {j : Nat} (hj : j < 2) : fM 16 2 j = 8 := by
  have : j = 0 ∨ j = 1 := by omega
  rcases this with rfl | rfl <;> rfl
theorem s_Mlimit {S : MM} {m : Nat} {v n : Int32} {Q : Option Value → MM → Prop} (hM : MF S m) (hb : (v < 0 ∨ 2 ≤ v) ∨ (n < 1 ∨ ¬ n ≤ 8) → Q (some (.int 0)) (pI S m 0 1)) (ho : ∀ j, j < 2 → v = nI j → ¬ n < 1 → n ≤ 8 → ∀ S', MR S S' m 0 → Q (some (.int 8)) S') : wX8_limit [.ref m, .int v, .int n] S Q := by
  have hm := hM.1
  obtain ⟨a, a1, a2, a3, a4, a5⟩ := hM.2.2.1 2 (by decide)
  have one : ∀ R : Prop, R → (sI (pI S m 0 1) m 0 ≤ 0 → False) ∧ True := fun _ _ => ⟨fun h => by rw [sI_pI, up2_self] at h; exact absurd h (by decide), trivial⟩
  refine Exists.intro 5 (And.intro ⟨by decide, by decide⟩ (s_MisEnd (fun h => if0 (And.intro hm (And.intro hm (And.intro (fun h0 => ((one True trivial).1 h0).elim) (fun _ => hb (Or.inl h)))))) (fun j hj e => if1 (And.intro (fun h => And.intro hm (And.intro hm (And.intro (fun h0 => ((one True trivial).1 h0).elim) (fun _ => hb (Or.inr (Or.inl h)))))) (fun h1 => And.intro (fun h2 => ?_) (fun h => And.intro hm (And.intro hm (And.intro (fun h0 => ((one True trivial).1 h0).elim) (fun _ => hb (Or.inr (Or.inr h)))))))))))
  subst e
  have hv : vp_in (nI j) (sN S a) := by rw [a3]; exact in_nI hj (by decide)
  have hval : sI (pI S m 0 0) a (nI j).toNatClampNeg = 8 := by rw [cl_nI (by omega), sI_pI, up2_ne (fun z => a5 z.1), a4, f_lim hj]
  refine And.intro hm (And.intro hm (And.intro (fun _ => ?_) (fun h => absurd (by rw [sI_pI, up2_self]; decide) h)))
  refine And.intro hm (useR a1 (And.intro a2 (And.intro hv (And.intro hm (useR a1 (And.intro a2 (And.intro hv (And.intro hm (And.intro ⟨by decide, by decide⟩ (Exists.intro 1 (And.intro hm ?_)))))))))))
  show Q (some (.int (sI (pI S m 0 0) a (nI j).toNatClampNeg))) (pI (pI (pI S m 0 0) a (nI j).toNatClampNeg n) m 44 0)
  rw [hval]
  refine ho j hj rfl h1 h2 _ ⟨rfl, rfl, rfl, ?_⟩
  rw [sI_pI, up2_ne (by simp), sI_pI, up2_ne (fun z => a5 z.1.symm), sI_pI, up2_self]
theorem c_limit {b : Nat} {xs : Nat → Int32} {S : MM} {x aE aC e0 e1 m out c z : Nat} (h : GG S x aE aC e0 e1 m out) (hc : c + 1 ≤ 600002) (hz : z + 6 ≤ 7302232) : wpn (kL_law b 5 xs) 9 180 [(4, .int 0), (3, .ref out), (2, .ref m), (1, .ref x), (0, .ref b)] [] S c z := by
  obtain ⟨hB, hM, ho1, ho2⟩ := h
  refine And.intro rfl (And.intro (v5 (i := 1) (by decide)) (And.intro rfl (And.intro (v5 (i := 2) (by decide)) (And.intro ⟨hc, hz⟩ (s_Llimit hB ho1 ho2 (fun hb => ?_) (fun j hj e h1 h2 S' hS => ?_))))))
  · refine And.intro rfl (And.intro (v5 (i := 1) (by decide)) (And.intro rfl (And.intro (v5 (i := 2) (by decide)) (And.intro hM.1 (And.intro ⟨hc, hz⟩ (s_Mlimit hM (fun _ => And.intro hM.1 (And.intro ⟨hc, hz⟩ (s_thrown hM.1 ?_))) (fun j hj e h1 h2 => ?_)))))))
    · rw [sI_pI, up2_self]
      exact And.intro (fun _ => And.intro (fun h => absurd h (by decide)) (fun _ => And.intro rfl (And.intro (fun _ => rfl) (fun h => absurd (by decide) h)))) (fun h => absurd rfl h)
    · rcases hb with q | q | q
      · exact (no_end q hj e).elim
      · exact absurd q h1
      · exact absurd h2 q
  · have r := out_Kc ho1 hS
    have hM2 : MF (pJ S' out 0 (Int32.toInt64 8)) m := MF_pJ (MF_Kc hM hS) (by rw [r.1]; exact ho1)
    refine And.intro rfl (And.intro (v5 (i := 1) (by decide)) (And.intro rfl (And.intro (v5 (i := 2) (by decide)) (And.intro hM2.1 (And.intro ⟨hc, hz⟩ (s_Mlimit hM2 (fun q => ?_) (fun j hj e h1 h2 S2 hR => ?_)))))))
    · exfalso
      rcases q with q | q | q
      · exact no_end q hj e
      · exact absurd q h1
      · exact absurd h2 q
    · have km : sK S2 m = 9 := by rw [hR.1]; exact hM2.1
      have kO : sK S2 out = 18 := by rw [hR.1, sK_pJ, r.1]; exact ho1
      have nO : sN S2 out = 1 := by rw [hR.2.1, sN_pJ, r.2.1]; exact ho2
      have jO : sJ S2 out 0 = Int32.toInt64 8 := by rw [hR.2.2.1, sJ_pJ, up2_self]
      refine And.intro km (And.intro ⟨hc, hz⟩ (s_thrown km ?_))
      rw [hR.2.2.2]
      refine And.intro (fun _ => And.intro (fun _ => And.intro kO (And.intro (by rw [nO]; exact in_0 (by decide)) ?_)) (fun h => absurd rfl h)) (fun h => absurd rfl h)
      show ifz (fun x => x = 0) _ _ _ [.int (lg_cmp (sJ S2 out 0) (Int32.toInt64 8))] S2 _ _
      rw [jO, lg_self]
      exact And.intro (fun _ => And.intro rfl (And.intro (fun _ => rfl) (fun h => absurd (by decide) h))) (fun h => absurd rfl h)
