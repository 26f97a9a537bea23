theorem pI_same {S : MM} {a k : Nat} {v : Int32} (h : sI S a k = v) : pI S a k v = S := by
  have e : up2 (sI S) a k v = sI S := by
    funext b j
    unfold up2
    by_cases hb : b = a ∧ j = k
    · rw [if_pos hb, hb.1, hb.2, h]
    · rw [if_neg hb]
  unfold pI
  rw [e]
  rfl
theorem Cb0_ext {S S' : MM} {a : Nat} (h : Cb0 S a) (ra : RS S S' a) (r : ∀ a, sK S a = 17 → RS S S' a) : Cb0 S' a := by
  obtain ⟨h1, h2, h3, pp, p1, p2, p3, p4, p5⟩ := h
  have rp := r pp p2
  exact ⟨by rw [ra.1]; exact h1, by rw [ra.2.2.1]; exact h2, by rw [ra.2.2.1]; exact h3, pp, by rw [ra.2.2.2.1]; exact p1, by rw [rp.1]; exact p2, by rw [rp.2.1]; exact p3, by rw [rp.2.2.2.1]; exact p4, by rw [rp.2.2.2.1]; exact p5⟩
def Cbs (S : MM) (aC : Nat) : Prop := ∀ c, c < 8 → ∃ a, sR S aC c = some a ∧ Cb0 S a
set_option maxRecDepth 20000 in
theorem s_ncL {Q : Option Value → MM → Prop} {x aC : Nat} {lim : Int32} {S : MM} (hx : sK S x = 8) (hR : sR S x 1 = some aC) (hk : sK S aC = 12) (hN : sN S aC = 8) (hC : Cbs S aC) (K : Q none S) : ∀ (n i : Nat), i + n = 8 → wpn (kX7_noteChange Q) (3 * n + 2) 29 [(2, .int (nI i)), (1, .int lim), (0, .ref x)] [] S 0 0 := by
  intro n
  induction n with
  | zero =>
    intro i hi
    have e8 : i = 8 := by omega
    subst e8
    exact And.intro (fun _ => K) (fun h => absurd (by decide) h)
  | succ n ih =>
    intro i hi
    have hi8 : i < 8 := by omega
    obtain ⟨a, a1, a2⟩ := hC i hi8
    have hv : vp_in (nI i) (sN S aC) := by rw [hN]; exact in_nI hi8 (by decide)
    have a1' : sR S aC (nI i).toNatClampNeg = some a := by rw [cl_nI (by omega)]; exact a1
    have nx := ih (i + 1) (by omega)
    rw [← nI_1 i] at nx
    refine And.intro (fun h => absurd h (n8_ge hi8)) (fun _ => And.intro hx (useR hR (And.intro hk (And.intro hv (useR a1' (And.intro hx (useR hR (And.intro hk (And.intro hv (useR a1' (And.intro a2.1 (And.intro ⟨by decide, by decide⟩ (s_agrees0 a2 (if0 (And.intro a2.1 (And.intro (Or.inl rfl) ?_))))))))))))))))
    show wpn (kX7_noteChange Q) (3 * n + 2) 29 _ [] (pI S a 4 0) 0 0
    rw [pI_same a2.2.2.1]
    exact nx
theorem s_nc {S : MM} {x aE aC e0 e1 : Nat} {Q : Option Value → MM → Prop} (hB : B0s S x aE aC e0 e1) (k0 : sK S e0 = 2) (k1 : sK S e1 = 2) (hC : Cbs S aC) (hQ : Q none (pI S x 3 0)) : wX7_noteChange [.ref x] S Q := by
  obtain ⟨b1, b2, b3, b4, b5, b6, b7, b8, b9, b10⟩ := hB
  have st : ∀ a, sK S a ≠ 8 → RS S (pI S x 3 0) a := fun a ha => RS_pI (fun z => ha (by rw [z]; exact b1))
  have hC2 : Cbs (pI S x 3 0) aC := fun c hc => by
    obtain ⟨a, a1, a2⟩ := hC c hc
    exact ⟨a, a1, Cb0_ext a2 (st a (by rw [a2.1]; decide)) (fun a ha => st a (by rw [ha]; decide))⟩
  refine Exists.intro 27 (And.intro b1 (And.intro b1 (useR b2 (And.intro b4 (And.intro (by show vp_in 0 (sN S aE); rw [b5]; exact in_0 (by decide)) (useR b8 (And.intro k0 (And.intro b1 (useR b2 (And.intro b4 (And.intro (by show vp_in 1 (sN S aE); rw [b5]; exact in_nI (i := 1) (by decide) (by decide)) (useR b9 (And.intro k1 ?_)))))))))))))
  exact s_ncL (S := pI S x 3 0) b1 b3 b6 b7 hC2 hQ 8 0 rfl
/-- what a call of the class leaves alone -/
def Kc (S : MM) (a : Nat) : Prop := sK S a ≠ 9 ∧ sK S a ≠ 10 ∧ sK S a ≠ 11 ∧ sK S a ≠ 18
theorem MF_Kc {S S' : MM} {m : Nat} (h : MF S m) (e : Ex S S' (Kc S)) : MF S' m := MF_ext h (fun a ha => e a (by rcases ha with q | q | q <;> rw [q] <;> decide) (fun z => by obtain ⟨z1, z2, z3, z4⟩ := z; rcases ha with q | q | q <;> contradiction))
theorem out_Kc {S S' : MM} {o : Nat} (h : sK S o = 18) (e : Ex S S' (Kc S)) : RS S S' o := e o (by rw [h]; decide) (fun z => z.2.2.2 h)
theorem MF_pJ {S : MM} {m o k : Nat} {v : Int64} (h : MF S m) (ho : sK S o = 18) : MF (pJ S o k v) m := MF_ext h (fun a ha => RS_pJ (fun z => by rw [z, ho] at ha; rcases ha with q | q | q <;> cases q))
theorem Kc_of {S : MM} {a n : Nat} (h : sK S a = n) (hn : n ≠ 9 ∧ n ≠ 10 ∧ n ≠ 11 ∧ n ≠ 18) : Kc S a := by unfold Kc; rw [h]; exact hn
theorem en_at {S : MM} {aE e0 e1 j : Nat} (b8 : sR S aE 0 = some e0) (b9 : sR S aE 1 = some e1) (hj : j < 2) : sR S aE (nI j).toNatClampNeg = some (if j = 0 then e0 else e1) := by
  rw [cl_nI (by omega)]
  have : j = 0 ∨ j = 1 := by omega
  rcases this with rfl | rfl
  · exact b8
  · exact b9
-- limit
theorem s_limit {S : MM} {x aE aC e0 e1 : Nat} {v n : Int32} {Q : Option Value → MM → Prop} {X : String → MM → Prop} (hB : B0 S x aE aC e0 e1) (hb : (v < 0 ∨ 2 ≤ v) ∨ (n < 1 ∨ ¬ n ≤ 8) → X eI S) (ho : ∀ j, j < 2 → v = nI j → ¬ n < 1 → n ≤ 8 → ∀ S', Ex S S' (Kc S) → Q (some (.int 8)) S') : wX7_limit [.ref x, .int v, .int n] S Q X := by
  obtain ⟨hs, hz, hE0, hE1, hC⟩ := hB
  obtain ⟨b1, b2, b3, b4, b5, b6, b7, b8, b9, b10⟩ := hs
  refine Exists.intro 3 (And.intro ⟨by decide, by decide⟩ (s_isEnd2 (fun h => if0 (And.intro ⟨by decide, by decide⟩ (hb (Or.inl h)))) (fun j hj e => if1 (And.intro (fun h => And.intro ⟨by decide, by decide⟩ (hb (Or.inr (Or.inl h)))) (fun h1 => And.intro (fun h2 => ?_) (fun h => And.intro ⟨by decide, by decide⟩ (hb (Or.inr (Or.inr h)))))))))
  subst e
  have hv : vp_in (nI j) (sN S aE) := by rw [b5]; exact in_nI hj (by decide)
  have hen := en_at b8 b9 hj
  have hk : sK S (if j = 0 then e0 else e1) = 2 := by split; exact hE0.1.1; exact hE1.1.1
  have h8 : sI S (if j = 0 then e0 else e1) 2 = 8 := by split; exact hE0.1.2.2.1; exact hE1.1.2.2.1
  generalize (if j = 0 then e0 else e1) = e at hen hk h8
  refine And.intro b1 (useR b2 (And.intro b4 (And.intro hv (useR hen (And.intro hk (And.intro b1 (useR b2 (And.intro b4 (And.intro hv (useR hen (And.intro hk (And.intro b1 (And.intro ⟨by decide, by decide⟩ ?_)))))))))))))
  have st : ∀ a, sK S a ≠ 2 → RS S (pI S e 2 n) a := fun a ha => RS_pI (fun z => ha (by rw [z]; exact hk))
  refine s_nc (S := pI S e 2 n) ⟨b1, b2, b3, b4, b5, b6, b7, b8, b9, b10⟩ hE0.1.1 hE1.1.1 (fun c hc => ?_) ?_
  · obtain ⟨a, a1, a2⟩ := hC c hc
    exact ⟨a, a1, Cb0_ext a2.1 (st a (by rw [a2.1.1]; decide)) (fun a ha => st a (by rw [ha]; decide))⟩
  · show Q (some (.int (sI S e 2))) (pI (pI S e 2 n) x 3 0)
    rw [h8]
    exact ho j hj rfl h1 h2 _ ((Ex.rf.pI (fun _ => Kc_of hk (by decide))).pI (fun _ => Kc_of b1 (by decide)))
