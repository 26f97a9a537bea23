-- count
def cN (j : Nat) : Int32 := if j = 2 then 10 else if j = 3 then 20 else if j = 4 ∨ j = 5 then 8 else 0
theorem s_count {S : MM} {x aE aC e0 e1 : Nat} {w : Int32} {Q : Option Value → MM → Prop} (hB : B0 S x aE aC e0 e1) (hd : w.toInt < 0 ∨ 12 < w.toInt → Q (some (.int (-1))) S) (hj : ∀ j : Nat, j ≤ 12 → w.toInt = j → Q (some (.int (cN j))) S) : wX7_count [.ref x, .int w] S Q := by
  obtain ⟨⟨b1, b2, b3, b4, b5, b6, b7, b8, b9, b10⟩, hz, hE0, hE1, hC⟩ := hB
  have v0 : vp_in 0 (sN S aE) := by rw [b5]; exact in_0 (by decide)
  have v1 : vp_in 1 (sN S aE) := by rw [b5]; exact in_nI (i := 1) (by decide) (by decide)
  refine Exists.intro 2 (And.intro (fun h => hd h) (fun j e hle => ?_))
  have hj12 : j ≤ 12 := by omega
  have hq := hj j hj12 (by omega)
  match j, hj12, hq with
  | 0, _, hq => exact And.intro b1 (by show Q (some (.int (sI S x 2))) S; rw [hz]; exact hq)
  | 1, _, hq => exact And.intro b1 (by show Q (some (.int (sI S x 3))) S; rw [hz]; exact hq)
  | 2, _, hq => exact And.intro b1 (useR b2 (And.intro b4 (And.intro v0 (useR b8 (And.intro hE0.1.1 (by show Q (some (.int (sI S e0 1))) S; rw [hE0.1.2.1]; exact hq))))))
  | 3, _, hq => exact And.intro b1 (useR b2 (And.intro b4 (And.intro v1 (useR b9 (And.intro hE1.1.1 (by show Q (some (.int (sI S e1 1))) S; rw [hE1.1.2.1]; exact hq))))))
  | 4, _, hq => exact And.intro b1 (useR b2 (And.intro b4 (And.intro v0 (useR b8 (And.intro hE0.1.1 (by show Q (some (.int (sI S e0 2))) S; rw [hE0.1.2.2.1]; exact hq))))))
  | 5, _, hq => exact And.intro b1 (useR b2 (And.intro b4 (And.intro v1 (useR b9 (And.intro hE1.1.1 (by show Q (some (.int (sI S e1 2))) S; rw [hE1.1.2.2.1]; exact hq))))))
  | 6, _, hq => exact And.intro b1 (useR b2 (And.intro b4 (And.intro v0 (useR b8 (And.intro hE0.1.1 (by show Q (some (.int (sI S e0 3))) S; rw [hE0.1.2.2.2.1]; exact hq))))))
  | 7, _, hq => exact And.intro b1 (useR b2 (And.intro b4 (And.intro v1 (useR b9 (And.intro hE1.1.1 (by show Q (some (.int (sI S e1 3))) S; rw [hE1.1.2.2.2.1]; exact hq))))))
  | 8, _, hq => exact And.intro b1 (by show Q (some (.int (sI S x 4))) S; rw [hz]; exact hq)
  | 9, _, hq => exact And.intro b1 (by show Q (some (.int (sI S x 5))) S; rw [hz]; exact hq)
  | 10, _, hq => exact And.intro b1 (by show Q (some (.int (sI S x 6))) S; rw [hz]; exact hq)
  | 11, _, hq => exact And.intro b1 (by show Q (some (.int (sI S x 7))) S; rw [hz]; exact hq)
  | 12, _, hq => exact And.intro b1 (by show Q (some (.int (sI S x 8))) S; rw [hz]; exact hq)
  | n + 13, h, _ => omega
theorem w_of {w : Int32} {j : Nat} (h : w.toInt = j) (hj : j < 2 ^ 31) : w = nI j := by
  apply Int32.toInt_inj.mp
  rw [h, nI_toInt hj]
theorem s_Mcount {S : MM} {m : Nat} {w : Int32} {Q : Option Value → MM → Prop} (hM : MF S m) (hd : w.toInt < 0 ∨ 12 < w.toInt → Q (some (.int (-1))) S) (hj : ∀ j : Nat, j ≤ 12 → w.toInt = j → Q (some (.int (cN j))) S) : wX8_count [.ref m, .int w] S Q := by
  have hm := hM.1
  have hz := hM.2.1
  obtain ⟨a1, p1, q1, l1, f1, -⟩ := hM.2.2.1 1 (by decide)
  obtain ⟨a2, p2, q2, l2, f2, -⟩ := hM.2.2.1 2 (by decide)
  obtain ⟨a3, p3, q3, l3, f3, -⟩ := hM.2.2.1 42 (by decide)
  have hsame : pI S m 0 0 = S := pI_same (hz 0)
  refine Exists.intro 2 (And.intro hm ?_)
  show ldI 1 _ [(0, .ref m), (1, .int w)] [] (pI S m 0 0) 0 0
  rw [hsame]
  refine And.intro (fun h => hd h) (fun j e hle => ?_)
  have hj12 : j ≤ 12 := by omega
  have hw : w = nI j := w_of (by omega) (by omega)
  have hq := hj j hj12 (by omega)
  have v0 : ∀ a, sN S a = 2 → vp_in 0 (sN S a) := fun a h => by rw [h]; exact in_0 (by decide)
  have v1 : ∀ a, sN S a = 2 → vp_in 1 (sN S a) := fun a h => by rw [h]; exact in_nI (i := 1) (by decide) (by decide)
  subst hw
  match j, hj12, hq with
  | 0, _, hq => exact And.intro hm (by show Q (some (.int (sI S m 43))) S; rw [hz]; exact hq)
  | 1, _, hq => exact And.intro hm (by show Q (some (.int (sI S m 44))) S; rw [hz]; exact hq)
  | 2, _, hq => exact And.intro hm (useR p1 (And.intro q1 (And.intro (v0 a1 l1) (by show Q (some (.int (sI S a1 0))) S; rw [f1]; exact hq))))
  | 3, _, hq => exact And.intro hm (useR p1 (And.intro q1 (And.intro (v1 a1 l1) (by show Q (some (.int (sI S a1 1))) S; rw [f1]; exact hq))))
  | 4, _, hq => exact And.intro hm (useR p2 (And.intro q2 (And.intro (v0 a2 l2) (by show Q (some (.int (sI S a2 0))) S; rw [f2]; exact hq))))
  | 5, _, hq => exact And.intro hm (useR p2 (And.intro q2 (And.intro (v1 a2 l2) (by show Q (some (.int (sI S a2 1))) S; rw [f2]; exact hq))))
  | 6, _, hq => exact And.intro hm (useR p3 (And.intro q3 (And.intro (v0 a3 l3) (by show Q (some (.int (sI S a3 0))) S; rw [f3]; exact hq))))
  | 7, _, hq => exact And.intro hm (useR p3 (And.intro q3 (And.intro (v1 a3 l3) (by show Q (some (.int (sI S a3 1))) S; rw [f3]; exact hq))))
  | 8, _, hq => exact And.intro hm (by show Q (some (.int (sI S m 45))) S; rw [hz]; exact hq)
  | 9, _, hq => exact And.intro hm (by show Q (some (.int (sI S m 46))) S; rw [hz]; exact hq)
  | 10, _, hq => exact And.intro hm (by show Q (some (.int (sI S m 47))) S; rw [hz]; exact hq)
  | 11, _, hq => exact And.intro hm (by show Q (some (.int (sI S m 48))) S; rw [hz]; exact hq)
  | 12, _, hq => exact And.intro hm (by show Q (some (.int (sI S m 49))) S; rw [hz]; exact hq)
  | n + 13, h, _ => omega
theorem c_count {b : Nat} {xs : Nat → Int32} {S : MM} {x aE aC e0 e1 m out c z : Nat} (h : GG S x aE aC e0 e1 m out) (hc : c + 1 ≤ 600002) (hz : z + 6 ≤ 7302232) : wpn (kL_law b 5 xs) 9 1081 [(4, .int 0), (3, .ref out), (2, .ref m), (1, .ref x), (0, .ref b)] [] S c z := by
  obtain ⟨hB, hM, ho1, ho2⟩ := h
  have hc0 : c ≤ 600002 := by omega
  have hz0 : z ≤ 7302232 := by omega
  have fin : ∀ (r r' : Int32), r = r' → ((r = r' → (b = b ∧ ((Int32.ofNat 5 - 5 < 0 + 5 → (1 : Int32) = 1) ∧ (¬ Int32.ofNat 5 - 5 < 0 + 5 → False)))) ∧ (¬ r = r' → (0 : Int32) = 1)) := fun r r' e => And.intro (fun _ => And.intro rfl (And.intro (fun _ => rfl) (fun h => absurd (by decide) h))) (fun h => absurd e h)
  refine And.intro rfl (And.intro (v5 (i := 1) (by decide)) (And.intro hB.1.1 (And.intro ⟨hc0, hz0⟩ (s_count hB (fun h1 => ?_) (fun j hj e => ?_)))))
  · refine And.intro rfl (And.intro (v5 (i := 1) (by decide)) (And.intro hM.1 (And.intro ⟨hc0, hz0⟩ (s_Mcount hM (fun _ => ?_) (fun j hj e => ?_)))))
    · exact And.intro (fun _ => And.intro rfl (And.intro (fun _ => rfl) (fun h => absurd (by decide) h))) (fun h => absurd rfl h)
    · exfalso; omega
  · refine And.intro rfl (And.intro (v5 (i := 1) (by decide)) (And.intro hM.1 (And.intro ⟨hc0, hz0⟩ (s_Mcount hM (fun h1 => ?_) (fun j' hj' e' => ?_)))))
    · exfalso; omega
    · have : j' = j := by omega
      subst this
      exact And.intro (fun _ => And.intro rfl (And.intro (fun _ => rfl) (fun h => absurd (by decide) h))) (fun h => absurd rfl h)
-- setBits
theorem s_setBits {S : MM} {a : Nat} {mk u : Int32} {Q : Option Value → MM → Prop} (hk : sK S a = 7) (h : ∀ w, Q none (pI S a 4 w)) : wX6_setBits [.ref a, .int mk, .int u] S Q :=
  Exists.intro 3 (And.intro (fun _ => And.intro hk (And.intro hk (h _))) (fun _ => And.intro hk (And.intro hk (h _))))
theorem B0s_pI {S : MM} {x aE aC e0 e1 a k : Nat} {v : Int32} (h : B0s S x aE aC e0 e1) : B0s (pI S a k v) x aE aC e0 e1 := h
theorem Cbs_t {S : MM} {aC a k : Nat} {v : Int32} (h : Cbs S aC) (ha : sK S a ≠ 1) (ha2 : sK S a ≠ 17) : Cbs (pI S a k v) aC := fun c hc => by
  obtain ⟨d, d1, d2⟩ := h c hc
  exact ⟨d, d1, Cb0_ext d2 (RS_pI (fun z => ha (by rw [← z]; exact d2.1))) (fun b hb => RS_pI (fun z => ha2 (by rw [← z]; exact hb)))⟩
theorem Cs_Cbs {S : MM} {aC : Nat} (h : Cs S aC 8) : Cbs S aC := fun c hc => by
  obtain ⟨d, d1, d2⟩ := h c hc
  exact ⟨d, d1, d2.1⟩
/-- the port j i of a new object -/
theorem port_at {S : MM} {x aE aC e0 e1 j i : Nat} (hB : B0 S x aE aC e0 e1) (hj : j < 2) (hi : i < 8) : ∃ e pa p sys, sR S aE (nI j).toNatClampNeg = some e ∧ sK S e = 2 ∧ sR S e 0 = some pa ∧ sK S pa = 17 ∧ sN S pa = 8 ∧ sR S pa (nI i).toNatClampNeg = some p ∧ P0 S p sys (nI i) ∧ sys = (if j = 0 then 10 else 20) := by
  obtain ⟨⟨b1, b2, b3, b4, b5, b6, b7, b8, b9, b10⟩, hz, hE0, hE1, hC⟩ := hB
  have hen := en_at b8 b9 hj
  have hE : E0 S (if j = 0 then e0 else e1) (if j = 0 then 10 else 20) := by split; exact hE0; exact hE1
  obtain ⟨hv, pa, h1, h2, h3, h4⟩ := hE
  obtain ⟨p, p1, p2⟩ := h4 i hi
  exact ⟨_, pa, p, _, hen, hv.1, h1, h2, h3, by rw [cl_nI (by omega)]; exact p1, p2, rfl⟩
-- manner
theorem s_manner {S : MM} {x aE aC e0 e1 : Nat} {v w u1 u2 : Int32} {Q : Option Value → MM → Prop} {X : String → MM → Prop} (hB : B0 S x aE aC e0 e1) (hb : (v < 0 ∨ 2 ≤ v) ∨ (w < 0 ∨ 8 ≤ w) → X eI S) (ho : ∀ j i, j < 2 → v = nI j → i < 8 → w = nI i → ∀ S', Ex S S' (Kc S) → Q none S') : wX7_manner [.ref x, .int v, .int w, .int u1, .int u2] S Q X := by
  have hB' := hB
  obtain ⟨hs, hz, hE0, hE1, hC⟩ := hB
  obtain ⟨b1, b2, b3, b4, b5, b6, b7, b8, b9, b10⟩ := hs
  have t : (v < 0 ∨ 2 ≤ v) ∨ (w < 0 ∨ 8 ≤ w) → ((0 : Nat) + 1 ≤ 1 ∧ (0 : Nat) + 6 ≤ 6) ∧ X eI S := fun h => ⟨⟨by decide, by decide⟩, hb h⟩
  refine Exists.intro 3 (And.intro ⟨by decide, by decide⟩ (s_isEnd2 (fun h => if0 (t (Or.inl h))) (fun j hj e => if1 (And.intro ⟨by decide, by decide⟩ (s_isPort (fun h => if0 (t (Or.inr h))) (fun i hi ei => if1 ?_))))))
  subst e ei
  obtain ⟨e, pa, p, sys, g1, g2, g3, g4, g5, g6, g7, -⟩ := port_at hB' hj hi
  obtain ⟨gv, ⟨t1, r1, r2⟩, -⟩ := g7
  refine And.intro b1 (useR b2 (And.intro b4 (And.intro (by rw [b5]; exact in_nI hj (by decide)) (useR g1 (And.intro g2 (useR g3 (And.intro g4 (And.intro (by rw [g5]; exact in_nI hi (by decide)) (useR g6 (And.intro gv.1 (useR r1 ?_)))))))))))
  refine And.intro r2.1 (And.intro ⟨by decide, by decide⟩ (s_setBits r2.1 (fun w1 => And.intro r2.1 (And.intro ⟨by decide, by decide⟩ (s_setBits r2.1 (fun w2 => And.intro b1 (And.intro ⟨by decide, by decide⟩ ?_)))))))
  refine s_nc (S := pI (pI S t1 4 w1) t1 4 w2) ⟨b1, b2, b3, b4, b5, b6, b7, b8, b9, b10⟩ hE0.1.1 hE1.1.1 (Cbs_t (Cbs_t (Cs_Cbs hC) (by rw [r2.1]; decide) (by rw [r2.1]; decide)) (by rw [sK_pI, r2.1]; decide) (by rw [sK_pI, r2.1]; decide)) ?_
  exact ho j i hj rfl hi rfl _ (((Ex.rf.pI (fun _ => Kc_of r2.1 (by decide))).pI (fun _ => Kc_of r2.1 (by decide))).pI (fun _ => Kc_of b1 (by decide)))
