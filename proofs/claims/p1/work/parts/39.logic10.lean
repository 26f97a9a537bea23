-- came
theorem s_came {S : MM} {x aE aC e0 e1 : Nat} {v i w : Int32} {Q : Option Value → MM → Prop} {X : String → MM → Prop} (hB : B0 S x aE aC e0 e1) (hb : X nseC S) : wX7_came [.ref x, .int v, .int i, .int w] S Q X := by
  obtain ⟨hs, hz, hE0, hE1, hC⟩ := hB
  obtain ⟨b1, b2, b3, b4, b5, b6, b7, b8, b9, b10⟩ := hs
  have t : ((0 : Nat) + 1 ≤ 1 ∧ (0 : Nat) + 6 ≤ 6) ∧ X nseC S := ⟨⟨by decide, by decide⟩, hb⟩
  refine Exists.intro 3 (And.intro ⟨by decide, by decide⟩ (s_isEnd2 (fun h => if0 t) (fun j hj e => if1 (And.intro (fun _ => t) (fun h1 => ?_)))))
  subst e
  have hen := en_at b8 b9 hj
  have hk : sK S (if j = 0 then e0 else e1) = 2 := by split; exact hE0.1.1; exact hE1.1.1
  have h5 : sI S (if j = 0 then e0 else e1) 5 = 0 := by split; exact hE0.1.2.2.2.2.1; exact hE1.1.2.2.2.2.1
  generalize (if j = 0 then e0 else e1) = e at hen hk h5
  refine And.intro b1 (useR b2 (And.intro b4 (And.intro (by rw [b5]; exact in_nI hj (by decide)) (useR hen (And.intro hk (And.intro (fun h2 => ?_) (fun _ => t)))))))
  exact absurd (by rw [← h5]; exact h2) h1
theorem s_Lcame {S : MM} {x aE aC e0 e1 out : Nat} {v i w : Int32} {Q : Option Value → MM → Prop} (hB : B0 S x aE aC e0 e1) (hb : Q (some (.int 1)) S) : wL_came [.ref x, .int v, .int i, .int w, .ref out] S Q := by
  refine Exists.intro 3 (And.intro hB.1.1 (And.intro ⟨by decide, by decide⟩ (s_came hB (fun q => ?_))))
  rw [hd1_1]; exact hb
theorem s_Mcame {S : MM} {m : Nat} {v i w : Int32} {Q : Option Value → MM → Prop} (hM : MF S m) (hb : Q (some (.int 0)) (pI S m 0 1)) : wX8_came [.ref m, .int v, .int i, .int w] S Q := by
  have hm := hM.1
  obtain ⟨a, a1, a2, a3, a4, a5⟩ := hM.2.2.1 42 (by decide)
  have t : sK S m = 9 ∧ (sK S m = 9 ∧ ((sI (pI S m 0 1) m 0 ≤ 0 → False) ∧ (¬ sI (pI S m 0 1) m 0 ≤ 0 → Q (some (.int 0)) (pI S m 0 1)))) := ⟨hm, hm, fun h => by rw [sI_pI, up2_self] at h; exact absurd h (by decide), fun _ => hb⟩
  refine Exists.intro 4 (And.intro ⟨by decide, by decide⟩ (s_MisEnd (fun h => if0 (And.intro hm (And.intro hm (And.intro (fun h0 => (t.2.2.1 h0).elim) t.2.2.2)))) (fun j hj e => if1 (And.intro (fun _ => And.intro hm (And.intro hm (And.intro (fun h0 => (t.2.2.1 h0).elim) t.2.2.2))) (fun h1 => ?_)))))
  subst e
  refine And.intro hm (useR a1 (And.intro a2 (And.intro (by rw [a3]; exact in_nI hj (by decide)) (And.intro (fun h2 => ?_) (fun _ => And.intro hm (And.intro hm (And.intro (fun h0 => (t.2.2.1 h0).elim) t.2.2.2)))))))
  have e0 : sI S a (nI j).toNatClampNeg = 0 := by
    rw [cl_nI (by omega), a4]
    have : j = 0 ∨ j = 1 := by omega
    rcases this with rfl | rfl <;> rfl
  have h3 : i < (if (50 : Int32) < sI S a (nI j).toNatClampNeg then 50 else sI S a (nI j).toNatClampNeg) := h2
  rw [e0, if_neg (by decide)] at h3
  exact absurd h3 h1
theorem c_came {b : Nat} {xs : Nat → Int32} {S : MM} {x aE aC e0 e1 m out c z : Nat} (h : GG S x aE aC e0 e1 m out) (hc : c + 1 ≤ 600002) (hz : z + 6 ≤ 7302232) : wpn (kL_law b 5 xs) 9 804 [(4, .int 0), (3, .ref out), (2, .ref m), (1, .ref x), (0, .ref b)] [] S c z := by
  obtain ⟨hB, hM, ho1, ho2⟩ := h
  refine And.intro rfl (And.intro (v5 (i := 1) (by decide)) (And.intro rfl (And.intro (v5 (i := 2) (by decide)) (And.intro rfl (And.intro (v5 (i := 3) (by decide)) (And.intro ⟨hc, hz⟩ (s_Lcame hB ?_)))))))
  refine And.intro rfl (And.intro (v5 (i := 1) (by decide)) (And.intro rfl (And.intro (v5 (i := 2) (by decide)) (And.intro rfl (And.intro (v5 (i := 3) (by decide)) (And.intro hM.1 (And.intro ⟨hc, hz⟩ (s_Mcame hM (And.intro hM.1 (And.intro ⟨hc, hz⟩ (s_thrown hM.1 ?_)))))))))))
  rw [sI_pI, up2_self]
  exact And.intro (fun _ => And.intro (fun h => absurd h (by decide)) (fun _ => And.intro rfl (And.intro (fun _ => rfl) (fun h => absurd (by decide) h)))) (fun h => absurd rfl h)
