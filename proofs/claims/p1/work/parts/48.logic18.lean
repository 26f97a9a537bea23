-- note
theorem ifT {c A B : Prop} (h : c) (a : A) : (c → A) ∧ (¬ c → B) := ⟨fun _ => a, fun n => absurd h n⟩
theorem ifF {c A B : Prop} (h : ¬ c) (b : B) : (c → A) ∧ (¬ c → B) := ⟨fun n => absurd n h, fun _ => b⟩
def sr8 (v : Int32) : Int32 := (v.toUInt32 >>> (Int32.toUInt32 8 &&& Int32.toUInt32 31)).toInt32
def bA (sys pr nm : Int32) (t : Nat) : Int32 := if t < 4 then (sys.toUInt32 >>> (Int32.toUInt32 (24 - 8 * nI t) &&& Int32.toUInt32 31)).toInt32 &&& 255 else if t = 6 then sr8 pr &&& 255 else if t = 7 then pr &&& 255 else if t = 8 then sr8 nm &&& 255 else if t = 9 then nm &&& 255 else 0
theorem s_byteAt {S : MM} {a t : Nat} {sys pr nm u : Int32} {Q : Option Value → MM → Prop} (hT : T0 S a sys pr nm) (ht : t < 11) (hu : u = nI t) (h : ∀ r, r = bA sys pr nm t → Q (some (.int r)) S) : wX6_byteAt [.ref a, .int u] S Q := by
  subst hu
  obtain ⟨hk, f0, f1, f2, f3, f4⟩ := hT
  match t, ht, h with
  | 0, _, h => exact Exists.intro 9 (ifF (by decide) (And.intro hk (h _ (by rw [f0]; rfl))))
  | 1, _, h => exact Exists.intro 9 (ifF (by decide) (And.intro hk (h _ (by rw [f0]; rfl))))
  | 2, _, h => exact Exists.intro 9 (ifF (by decide) (And.intro hk (h _ (by rw [f0]; rfl))))
  | 3, _, h => exact Exists.intro 9 (ifF (by decide) (And.intro hk (h _ (by rw [f0]; rfl))))
  | 4, _, h => exact Exists.intro 9 (ifT (by decide) (ifF (by decide) (ifF (by decide) (And.intro hk (And.intro (by decide) (ifT (by decide) (h _ (by rw [f1]; rfl))))))))
  | 5, _, h => exact Exists.intro 9 (ifT (by decide) (ifF (by decide) (ifF (by decide) (And.intro hk (And.intro (by decide) (ifF (by decide) (h _ (by rw [f1]; rfl))))))))
  | 6, _, h => exact Exists.intro 9 (ifT (by decide) (ifF (by decide) (ifT (by decide) (ifF (by decide) (And.intro hk (And.intro (by decide) (ifT (by decide) (h _ (by rw [f2]; rfl)))))))))
  | 7, _, h => exact Exists.intro 9 (ifT (by decide) (ifF (by decide) (ifT (by decide) (ifF (by decide) (And.intro hk (And.intro (by decide) (ifF (by decide) (h _ (by rw [f2]; rfl)))))))))
  | 8, _, h => exact Exists.intro 9 (ifT (by decide) (ifF (by decide) (ifT (by decide) (ifT (by decide) (And.intro hk (And.intro (by decide) (ifT (by decide) (h _ (by rw [f3]; rfl)))))))))
  | 9, _, h => exact Exists.intro 9 (ifT (by decide) (ifF (by decide) (ifT (by decide) (ifT (by decide) (And.intro hk (And.intro (by decide) (ifF (by decide) (h _ (by rw [f3]; rfl)))))))))
  | 10, _, h => exact Exists.intro 9 (ifT (by decide) (ifT (by decide) (And.intro hk (h _ (by rw [f4]; rfl)))))
  | n + 11, ht, _ => omega
def sN2 (j : Nat) : Int32 := if j = 0 then 10 else 20
def nV (j i t : Nat) : Int32 := if t < 11 then bA (sN2 j) 100 (nI i) t else 0
def nB (v w u : Int32) : Prop := (v < 0 ∨ 2 ≤ v) ∨ (w < 0 ∨ 8 ≤ w) ∨ (u < 0 ∨ ¬ u < 22)
theorem u22 {u : Int32} (h0 : ¬ u < 0) (h : u < 22) : ∃ t, t < 22 ∧ u = nI t := rng (n := 22) (by decide) h0 (fun q => by
  have h1 := Int32.lt_iff_toInt_lt.mp h
  have h2 := Int32.le_iff_toInt_le.mp q
  have h3 : (22 : Int32).toInt = 22 := by decide
  have h4 : (nI 22).toInt = 22 := by decide
  omega)
theorem u21 {u : Int32} : u ≤ 21 ↔ u < 22 := by
  rw [Int32.lt_iff_toInt_lt, Int32.le_iff_toInt_le]
  have h3 : (22 : Int32).toInt = 22 := by decide
  have h4 : (21 : Int32).toInt = 21 := by decide
  omega
theorem no_nB {v w u : Int32} {j i : Nat} (hj : j < 2) (e : v = nI j) (hi : i < 8) (ei : w = nI i) (h0 : ¬ u < 0) (h : u < 22) : ¬ nB v w u := fun q => by
  rcases q with q | q | q | q
  · exact no_end q hj e
  · exact no_8 q hi ei
  · exact h0 q
  · exact q h
theorem s_note {S : MM} {x aE aC e0 e1 : Nat} {v w u : Int32} {Q : Option Value → MM → Prop} (hB : B0 S x aE aC e0 e1) (hb : nB v w u → Q (some (.int (-1))) S) (ho : ∀ j i t, j < 2 → v = nI j → i < 8 → w = nI i → t < 22 → u = nI t → ¬ nB v w u → Q (some (.int (nV j i t))) S) : wX7_note [.ref x, .int v, .int w, .int u] S Q := by
  have hB' := hB
  obtain ⟨hs, hz, hE0, hE1, hC⟩ := hB
  obtain ⟨b1, b2, b3, b4, b5, b6, b7, b8, b9, b10⟩ := hs
  refine Exists.intro 4 (And.intro ⟨by decide, by decide⟩ (s_isEnd2 (fun h => if0 (hb (Or.inl h))) (fun j hj e => if1 (And.intro ⟨by decide, by decide⟩ (s_isPort (fun h => if0 (hb (Or.inr (Or.inl h)))) (fun i hi ei => if1 (And.intro (fun h => hb (Or.inr (Or.inr (Or.inl h)))) (fun h0 => And.intro (fun h1 => ?_) (fun h => hb (Or.inr (Or.inr (Or.inr h))))))))))))
  have nb := no_nB hj e hi ei h0 h1
  obtain ⟨t, ht, eu⟩ := u22 h0 h1
  have hq := ho j i t hj e hi ei ht eu nb
  subst e ei eu
  obtain ⟨e, pa, p, sys, g1, g2, g3, g4, g5, g6, g7, g8⟩ := port_at hB' hj hi
  obtain ⟨gv, ⟨t1, r1, r2⟩, ⟨t2, q1, q2⟩, -⟩ := g7
  refine And.intro b1 (useR b2 (And.intro b4 (And.intro (by rw [b5]; exact in_nI hj (by decide)) (useR g1 (And.intro g2 (useR g3 (And.intro g4 (And.intro (by rw [g5]; exact in_nI hi (by decide)) (useR g6 ?_)))))))))
  by_cases h11 : t < 11
  · refine And.intro (fun q => ?_) (fun _ => And.intro gv.1 (useR r1 (And.intro r2.1 (And.intro ⟨by decide, by decide⟩ (s_byteAt r2 h11 rfl (fun r er => ?_))))))
    · exact absurd q (nI_ge (b := 11) h11 (by decide))
    · rw [nV, if_pos h11] at hq
      subst er
      subst g8
      exact hq
  · refine And.intro (fun q => And.intro gv.1 (useR q1 (And.intro q2.1 (And.intro ⟨by decide, by decide⟩ (s_byteAt (t := t - 11) q2 (by omega) (by show nI t - nI 11 = nI (t - 11); rw [pk_sub (by omega)]) (fun r er => ?_)))))) (fun q => ?_)
    · rw [nV, if_neg h11] at hq
      have : ∀ k, k < 11 → bA 0 0 0 k = 0 := by decide
      rw [this _ (by omega)] at er
      subst er
      exact hq
    · exfalso
      apply q
      have h2 : nI 11 ≤ nI t := by
        rw [Int32.le_iff_toInt_le, nI_toInt (by omega), nI_toInt (by omega)]
        omega
      exact h2
def oN (j i k : Nat) : Int32 := if k = 0 then sN2 j else if k = 2 then 100 else if k = 3 then nI i else 0
theorem dv8 : ∀ j, j < 2 → ∀ i, i < 8 → ((8 : Int32) * nI j + nI i) / 8 = nI j := by decide
theorem md8 : ∀ j, j < 2 → ∀ i, i < 8 → ((8 : Int32) * nI j + nI i) - ((8 : Int32) * nI j + nI i) / 8 * 8 = nI i := by decide
theorem s_Mown {S : MM} {m j i k : Nat} {w : Int32} {Q : Option Value → MM → Prop} (hM : MF S m) (hj : j < 2) (hi : i < 8) (hw : w = nI k) (hk : k < 5) (h : ∀ r, r = oN j i k → Q (some (.int r)) S) : wX8_own [.ref m, .int ((8 : Int32) * nI j + nI i), .int w] S Q := by
  subst hw
  have hm := hM.1
  obtain ⟨a1, p1, q1, l1, f1, -⟩ := hM.2.2.1 1 (by decide)
  obtain ⟨a3, p3, q3, l3, f3, -⟩ := hM.2.2.1 3 (by decide)
  obtain ⟨a4, p4, q4, l4, f4, -⟩ := hM.2.2.1 4 (by decide)
  have hy : 8 * j + i < 16 := by omega
  have hv : ∀ q, sN S q = 16 → vp_in ((8 : Int32) * nI j + nI i) (sN S q) := fun q hq => by rw [ix8, hq]; exact in_nI hy (by decide)
  have T : (nI k).toInt = k := nI_toInt (by omega)
  by_cases h4 : k = 4
  · subst h4
    refine Exists.intro 2 (And.intro (fun _ => And.intro hm (And.intro ⟨by decide, by decide⟩ ?_)) (fun t et hle => by exfalso; omega))
    rw [ix8]
    exact s_Mbits0 hM hy (h _ rfl)
  · refine Exists.intro 2 (And.intro (fun q => by exfalso; omega) (fun t et hle => ?_))
    have : t = k := by omega
    subst this
    match t, hk, h4, h with
    | 0, _, _, h => exact And.intro hm (useR p1 (And.intro (by decide) (And.intro q1 (And.intro (by show vp_in (((8 : Int32) * nI j + nI i) / 8) (sN S a1); rw [dv8 j hj i hi, l1]; exact in_nI hj (by decide)) (h _ (by
        show sI S a1 (((8 : Int32) * nI j + nI i) / 8).toNatClampNeg = _
        rw [dv8 j hj i hi, cl_nI (by omega), f1]
        have : j = 0 ∨ j = 1 := by omega
        rcases this with rfl | rfl <;> rfl))))))
    | 1, _, _, h => exact And.intro hm (useR p3 (And.intro q3 (And.intro (hv a3 l3) (h _ (by rw [f3]; simp [fM, f0M, oN])))))
    | 2, _, _, h => exact And.intro hm (useR p4 (And.intro q4 (And.intro (hv a4 l4) (h _ (by rw [f4, ix8, cl_nI (by omega)]; unfold fM; rw [if_pos ⟨rfl, hy⟩]; rfl)))))
    | 3, _, _, h => exact And.intro (by decide) (h _ (md8 j hj i hi))
    | 4, _, h4, _ => exact absurd rfl h4
theorem s_Mn0 {S : MM} {m j i a18 : Nat} {Q : Option Value → MM → Prop} (hM : MF S m) (hj : j < 2) (hi : i < 8) (p18 : sR S m 18 = some a18) (q18 : sK S a18 = kdM 18) (z18 : ∀ k, sI S a18 k = 0) (hv : ∀ w k, w = nI k → k < 5 → vp_in ((5 : Int32) * ((8 : Int32) * nI j + nI i) + w) (sN S a18)) (hq : Q (some (.int (nV j i 0))) S) : wpn (kX8_note Q) 11 31 [(0, .ref m), (1, .int (nI j)), (2, .int (nI i)), (3, .int (nI 0))] [] S 0 0 :=
  have hm := hM.1
  have h : ∀ r, r = nV j i 0 → Q (some (.int r)) S := fun r er => er ▸ hq
  And.intro (by decide) (ifF (by decide) (ifF (by decide) (And.intro hm (And.intro ⟨by decide, by decide⟩ (s_Mown hM hj hi (k := 0) (by decide) (by decide) (fun r hr => ifF (by decide) (h _ (by rw [hr]; exact (by decide : ∀ j, j < 2 → ∀ i, i < 8 → (oN j i 0 >>> (((8 : Int32) * ((3 : Int32) - (nI 0 - nI 0 / 11 * 11))) &&& 31)) &&& 255 = nV j i 0) j hj i hi))))))))
theorem s_Mn1 {S : MM} {m j i a18 : Nat} {Q : Option Value → MM → Prop} (hM : MF S m) (hj : j < 2) (hi : i < 8) (p18 : sR S m 18 = some a18) (q18 : sK S a18 = kdM 18) (z18 : ∀ k, sI S a18 k = 0) (hv : ∀ w k, w = nI k → k < 5 → vp_in ((5 : Int32) * ((8 : Int32) * nI j + nI i) + w) (sN S a18)) (hq : Q (some (.int (nV j i 1))) S) : wpn (kX8_note Q) 11 31 [(0, .ref m), (1, .int (nI j)), (2, .int (nI i)), (3, .int (nI 1))] [] S 0 0 :=
  have hm := hM.1
  have h : ∀ r, r = nV j i 1 → Q (some (.int r)) S := fun r er => er ▸ hq
  And.intro (by decide) (ifF (by decide) (ifF (by decide) (And.intro hm (And.intro ⟨by decide, by decide⟩ (s_Mown hM hj hi (k := 0) (by decide) (by decide) (fun r hr => ifF (by decide) (h _ (by rw [hr]; exact (by decide : ∀ j, j < 2 → ∀ i, i < 8 → (oN j i 0 >>> (((8 : Int32) * ((3 : Int32) - (nI 1 - nI 1 / 11 * 11))) &&& 31)) &&& 255 = nV j i 1) j hj i hi))))))))
theorem s_Mn2 {S : MM} {m j i a18 : Nat} {Q : Option Value → MM → Prop} (hM : MF S m) (hj : j < 2) (hi : i < 8) (p18 : sR S m 18 = some a18) (q18 : sK S a18 = kdM 18) (z18 : ∀ k, sI S a18 k = 0) (hv : ∀ w k, w = nI k → k < 5 → vp_in ((5 : Int32) * ((8 : Int32) * nI j + nI i) + w) (sN S a18)) (hq : Q (some (.int (nV j i 2))) S) : wpn (kX8_note Q) 11 31 [(0, .ref m), (1, .int (nI j)), (2, .int (nI i)), (3, .int (nI 2))] [] S 0 0 :=
  have hm := hM.1
  have h : ∀ r, r = nV j i 2 → Q (some (.int r)) S := fun r er => er ▸ hq
  And.intro (by decide) (ifF (by decide) (ifF (by decide) (And.intro hm (And.intro ⟨by decide, by decide⟩ (s_Mown hM hj hi (k := 0) (by decide) (by decide) (fun r hr => ifF (by decide) (h _ (by rw [hr]; exact (by decide : ∀ j, j < 2 → ∀ i, i < 8 → (oN j i 0 >>> (((8 : Int32) * ((3 : Int32) - (nI 2 - nI 2 / 11 * 11))) &&& 31)) &&& 255 = nV j i 2) j hj i hi))))))))
theorem s_Mn3 {S : MM} {m j i a18 : Nat} {Q : Option Value → MM → Prop} (hM : MF S m) (hj : j < 2) (hi : i < 8) (p18 : sR S m 18 = some a18) (q18 : sK S a18 = kdM 18) (z18 : ∀ k, sI S a18 k = 0) (hv : ∀ w k, w = nI k → k < 5 → vp_in ((5 : Int32) * ((8 : Int32) * nI j + nI i) + w) (sN S a18)) (hq : Q (some (.int (nV j i 3))) S) : wpn (kX8_note Q) 11 31 [(0, .ref m), (1, .int (nI j)), (2, .int (nI i)), (3, .int (nI 3))] [] S 0 0 :=
  have hm := hM.1
  have h : ∀ r, r = nV j i 3 → Q (some (.int r)) S := fun r er => er ▸ hq
  And.intro (by decide) (ifF (by decide) (ifF (by decide) (And.intro hm (And.intro ⟨by decide, by decide⟩ (s_Mown hM hj hi (k := 0) (by decide) (by decide) (fun r hr => ifF (by decide) (h _ (by rw [hr]; exact (by decide : ∀ j, j < 2 → ∀ i, i < 8 → (oN j i 0 >>> (((8 : Int32) * ((3 : Int32) - (nI 3 - nI 3 / 11 * 11))) &&& 31)) &&& 255 = nV j i 3) j hj i hi))))))))
theorem s_Mn4 {S : MM} {m j i a18 : Nat} {Q : Option Value → MM → Prop} (hM : MF S m) (hj : j < 2) (hi : i < 8) (p18 : sR S m 18 = some a18) (q18 : sK S a18 = kdM 18) (z18 : ∀ k, sI S a18 k = 0) (hv : ∀ w k, w = nI k → k < 5 → vp_in ((5 : Int32) * ((8 : Int32) * nI j + nI i) + w) (sN S a18)) (hq : Q (some (.int (nV j i 4))) S) : wpn (kX8_note Q) 11 31 [(0, .ref m), (1, .int (nI j)), (2, .int (nI i)), (3, .int (nI 4))] [] S 0 0 :=
  have hm := hM.1
  have h : ∀ r, r = nV j i 4 → Q (some (.int r)) S := fun r er => er ▸ hq
  And.intro (by decide) (ifT (by decide) (ifF (by decide) (And.intro (by decide) (ifF (by decide) (And.intro hm (And.intro ⟨by decide, by decide⟩ (s_Mown hM hj hi (k := 1) (by decide) (by decide) (fun r hr => ifT (by decide) (ifF (by decide) (And.intro (by decide) (h _ (by rw [hr]; exact (by decide : ∀ j, j < 2 → ∀ i, i < 8 → (oN j i 1 >>> (((8 : Int32) * ((1 : Int32) - ((nI 4 - nI 4 / 11 * 11) - (nI 4 - nI 4 / 11 * 11) / 2 * 2))) &&& 31)) &&& 255 = nV j i 4) j hj i hi))))))))))))
theorem s_Mn5 {S : MM} {m j i a18 : Nat} {Q : Option Value → MM → Prop} (hM : MF S m) (hj : j < 2) (hi : i < 8) (p18 : sR S m 18 = some a18) (q18 : sK S a18 = kdM 18) (z18 : ∀ k, sI S a18 k = 0) (hv : ∀ w k, w = nI k → k < 5 → vp_in ((5 : Int32) * ((8 : Int32) * nI j + nI i) + w) (sN S a18)) (hq : Q (some (.int (nV j i 5))) S) : wpn (kX8_note Q) 11 31 [(0, .ref m), (1, .int (nI j)), (2, .int (nI i)), (3, .int (nI 5))] [] S 0 0 :=
  have hm := hM.1
  have h : ∀ r, r = nV j i 5 → Q (some (.int r)) S := fun r er => er ▸ hq
  And.intro (by decide) (ifT (by decide) (ifF (by decide) (And.intro (by decide) (ifF (by decide) (And.intro hm (And.intro ⟨by decide, by decide⟩ (s_Mown hM hj hi (k := 1) (by decide) (by decide) (fun r hr => ifT (by decide) (ifF (by decide) (And.intro (by decide) (h _ (by rw [hr]; exact (by decide : ∀ j, j < 2 → ∀ i, i < 8 → (oN j i 1 >>> (((8 : Int32) * ((1 : Int32) - ((nI 5 - nI 5 / 11 * 11) - (nI 5 - nI 5 / 11 * 11) / 2 * 2))) &&& 31)) &&& 255 = nV j i 5) j hj i hi))))))))))))
theorem s_Mn6 {S : MM} {m j i a18 : Nat} {Q : Option Value → MM → Prop} (hM : MF S m) (hj : j < 2) (hi : i < 8) (p18 : sR S m 18 = some a18) (q18 : sK S a18 = kdM 18) (z18 : ∀ k, sI S a18 k = 0) (hv : ∀ w k, w = nI k → k < 5 → vp_in ((5 : Int32) * ((8 : Int32) * nI j + nI i) + w) (sN S a18)) (hq : Q (some (.int (nV j i 6))) S) : wpn (kX8_note Q) 11 31 [(0, .ref m), (1, .int (nI j)), (2, .int (nI i)), (3, .int (nI 6))] [] S 0 0 :=
  have hm := hM.1
  have h : ∀ r, r = nV j i 6 → Q (some (.int r)) S := fun r er => er ▸ hq
  And.intro (by decide) (ifT (by decide) (ifF (by decide) (And.intro (by decide) (ifF (by decide) (And.intro hm (And.intro ⟨by decide, by decide⟩ (s_Mown hM hj hi (k := 2) (by decide) (by decide) (fun r hr => ifT (by decide) (ifF (by decide) (And.intro (by decide) (h _ (by rw [hr]; exact (by decide : ∀ j, j < 2 → ∀ i, i < 8 → (oN j i 2 >>> (((8 : Int32) * ((1 : Int32) - ((nI 6 - nI 6 / 11 * 11) - (nI 6 - nI 6 / 11 * 11) / 2 * 2))) &&& 31)) &&& 255 = nV j i 6) j hj i hi))))))))))))
theorem s_Mn7 {S : MM} {m j i a18 : Nat} {Q : Option Value → MM → Prop} (hM : MF S m) (hj : j < 2) (hi : i < 8) (p18 : sR S m 18 = some a18) (q18 : sK S a18 = kdM 18) (z18 : ∀ k, sI S a18 k = 0) (hv : ∀ w k, w = nI k → k < 5 → vp_in ((5 : Int32) * ((8 : Int32) * nI j + nI i) + w) (sN S a18)) (hq : Q (some (.int (nV j i 7))) S) : wpn (kX8_note Q) 11 31 [(0, .ref m), (1, .int (nI j)), (2, .int (nI i)), (3, .int (nI 7))] [] S 0 0 :=
  have hm := hM.1
  have h : ∀ r, r = nV j i 7 → Q (some (.int r)) S := fun r er => er ▸ hq
  And.intro (by decide) (ifT (by decide) (ifF (by decide) (And.intro (by decide) (ifF (by decide) (And.intro hm (And.intro ⟨by decide, by decide⟩ (s_Mown hM hj hi (k := 2) (by decide) (by decide) (fun r hr => ifT (by decide) (ifF (by decide) (And.intro (by decide) (h _ (by rw [hr]; exact (by decide : ∀ j, j < 2 → ∀ i, i < 8 → (oN j i 2 >>> (((8 : Int32) * ((1 : Int32) - ((nI 7 - nI 7 / 11 * 11) - (nI 7 - nI 7 / 11 * 11) / 2 * 2))) &&& 31)) &&& 255 = nV j i 7) j hj i hi))))))))))))
theorem s_Mn8 {S : MM} {m j i a18 : Nat} {Q : Option Value → MM → Prop} (hM : MF S m) (hj : j < 2) (hi : i < 8) (p18 : sR S m 18 = some a18) (q18 : sK S a18 = kdM 18) (z18 : ∀ k, sI S a18 k = 0) (hv : ∀ w k, w = nI k → k < 5 → vp_in ((5 : Int32) * ((8 : Int32) * nI j + nI i) + w) (sN S a18)) (hq : Q (some (.int (nV j i 8))) S) : wpn (kX8_note Q) 11 31 [(0, .ref m), (1, .int (nI j)), (2, .int (nI i)), (3, .int (nI 8))] [] S 0 0 :=
  have hm := hM.1
  have h : ∀ r, r = nV j i 8 → Q (some (.int r)) S := fun r er => er ▸ hq
  And.intro (by decide) (ifT (by decide) (ifF (by decide) (And.intro (by decide) (ifF (by decide) (And.intro hm (And.intro ⟨by decide, by decide⟩ (s_Mown hM hj hi (k := 3) (by decide) (by decide) (fun r hr => ifT (by decide) (ifF (by decide) (And.intro (by decide) (h _ (by rw [hr]; exact (by decide : ∀ j, j < 2 → ∀ i, i < 8 → (oN j i 3 >>> (((8 : Int32) * ((1 : Int32) - ((nI 8 - nI 8 / 11 * 11) - (nI 8 - nI 8 / 11 * 11) / 2 * 2))) &&& 31)) &&& 255 = nV j i 8) j hj i hi))))))))))))
theorem s_Mn9 {S : MM} {m j i a18 : Nat} {Q : Option Value → MM → Prop} (hM : MF S m) (hj : j < 2) (hi : i < 8) (p18 : sR S m 18 = some a18) (q18 : sK S a18 = kdM 18) (z18 : ∀ k, sI S a18 k = 0) (hv : ∀ w k, w = nI k → k < 5 → vp_in ((5 : Int32) * ((8 : Int32) * nI j + nI i) + w) (sN S a18)) (hq : Q (some (.int (nV j i 9))) S) : wpn (kX8_note Q) 11 31 [(0, .ref m), (1, .int (nI j)), (2, .int (nI i)), (3, .int (nI 9))] [] S 0 0 :=
  have hm := hM.1
  have h : ∀ r, r = nV j i 9 → Q (some (.int r)) S := fun r er => er ▸ hq
  And.intro (by decide) (ifT (by decide) (ifF (by decide) (And.intro (by decide) (ifF (by decide) (And.intro hm (And.intro ⟨by decide, by decide⟩ (s_Mown hM hj hi (k := 3) (by decide) (by decide) (fun r hr => ifT (by decide) (ifF (by decide) (And.intro (by decide) (h _ (by rw [hr]; exact (by decide : ∀ j, j < 2 → ∀ i, i < 8 → (oN j i 3 >>> (((8 : Int32) * ((1 : Int32) - ((nI 9 - nI 9 / 11 * 11) - (nI 9 - nI 9 / 11 * 11) / 2 * 2))) &&& 31)) &&& 255 = nV j i 9) j hj i hi))))))))))))
theorem s_Mn10 {S : MM} {m j i a18 : Nat} {Q : Option Value → MM → Prop} (hM : MF S m) (hj : j < 2) (hi : i < 8) (p18 : sR S m 18 = some a18) (q18 : sK S a18 = kdM 18) (z18 : ∀ k, sI S a18 k = 0) (hv : ∀ w k, w = nI k → k < 5 → vp_in ((5 : Int32) * ((8 : Int32) * nI j + nI i) + w) (sN S a18)) (hq : Q (some (.int (nV j i 10))) S) : wpn (kX8_note Q) 11 31 [(0, .ref m), (1, .int (nI j)), (2, .int (nI i)), (3, .int (nI 10))] [] S 0 0 :=
  have hm := hM.1
  have h : ∀ r, r = nV j i 10 → Q (some (.int r)) S := fun r er => er ▸ hq
  And.intro (by decide) (ifT (by decide) (ifT (by decide) (ifF (by decide) (And.intro hm (And.intro ⟨by decide, by decide⟩ (s_Mown hM hj hi (k := 4) (by decide) (by decide) (fun r hr => ifT (by decide) (ifT (by decide) (h _ (by rw [hr]; exact (by decide : ∀ j, j < 2 → ∀ i, i < 8 → (oN j i 4 >>> (((8 : Int32) * (0 : Int32)) &&& 31)) &&& 255 = nV j i 10) j hj i hi))))))))))
theorem s_Mn11 {S : MM} {m j i a18 : Nat} {Q : Option Value → MM → Prop} (hM : MF S m) (hj : j < 2) (hi : i < 8) (p18 : sR S m 18 = some a18) (q18 : sK S a18 = kdM 18) (z18 : ∀ k, sI S a18 k = 0) (hv : ∀ w k, w = nI k → k < 5 → vp_in ((5 : Int32) * ((8 : Int32) * nI j + nI i) + w) (sN S a18)) (hq : Q (some (.int (nV j i 11))) S) : wpn (kX8_note Q) 11 31 [(0, .ref m), (1, .int (nI j)), (2, .int (nI i)), (3, .int (nI 11))] [] S 0 0 :=
  have hm := hM.1
  have h : ∀ r, r = nV j i 11 → Q (some (.int r)) S := fun r er => er ▸ hq
  And.intro (by decide) (ifF (by decide) (ifT (by decide) (And.intro hm (useR p18 (And.intro q18 (And.intro (hv _ 0 (by decide) (by decide)) (ifF (by decide) (h _ (by rw [z18]; exact (by decide : ((0 : Int32) >>> (((8 : Int32) * ((3 : Int32) - (nI 11 - nI 11 / 11 * 11))) &&& 31)) &&& 255 = 0))))))))))
theorem s_Mn12 {S : MM} {m j i a18 : Nat} {Q : Option Value → MM → Prop} (hM : MF S m) (hj : j < 2) (hi : i < 8) (p18 : sR S m 18 = some a18) (q18 : sK S a18 = kdM 18) (z18 : ∀ k, sI S a18 k = 0) (hv : ∀ w k, w = nI k → k < 5 → vp_in ((5 : Int32) * ((8 : Int32) * nI j + nI i) + w) (sN S a18)) (hq : Q (some (.int (nV j i 12))) S) : wpn (kX8_note Q) 11 31 [(0, .ref m), (1, .int (nI j)), (2, .int (nI i)), (3, .int (nI 12))] [] S 0 0 :=
  have hm := hM.1
  have h : ∀ r, r = nV j i 12 → Q (some (.int r)) S := fun r er => er ▸ hq
  And.intro (by decide) (ifF (by decide) (ifT (by decide) (And.intro hm (useR p18 (And.intro q18 (And.intro (hv _ 0 (by decide) (by decide)) (ifF (by decide) (h _ (by rw [z18]; exact (by decide : ((0 : Int32) >>> (((8 : Int32) * ((3 : Int32) - (nI 12 - nI 12 / 11 * 11))) &&& 31)) &&& 255 = 0))))))))))
theorem s_Mn13 {S : MM} {m j i a18 : Nat} {Q : Option Value → MM → Prop} (hM : MF S m) (hj : j < 2) (hi : i < 8) (p18 : sR S m 18 = some a18) (q18 : sK S a18 = kdM 18) (z18 : ∀ k, sI S a18 k = 0) (hv : ∀ w k, w = nI k → k < 5 → vp_in ((5 : Int32) * ((8 : Int32) * nI j + nI i) + w) (sN S a18)) (hq : Q (some (.int (nV j i 13))) S) : wpn (kX8_note Q) 11 31 [(0, .ref m), (1, .int (nI j)), (2, .int (nI i)), (3, .int (nI 13))] [] S 0 0 :=
  have hm := hM.1
  have h : ∀ r, r = nV j i 13 → Q (some (.int r)) S := fun r er => er ▸ hq
  And.intro (by decide) (ifF (by decide) (ifT (by decide) (And.intro hm (useR p18 (And.intro q18 (And.intro (hv _ 0 (by decide) (by decide)) (ifF (by decide) (h _ (by rw [z18]; exact (by decide : ((0 : Int32) >>> (((8 : Int32) * ((3 : Int32) - (nI 13 - nI 13 / 11 * 11))) &&& 31)) &&& 255 = 0))))))))))
theorem s_Mn14 {S : MM} {m j i a18 : Nat} {Q : Option Value → MM → Prop} (hM : MF S m) (hj : j < 2) (hi : i < 8) (p18 : sR S m 18 = some a18) (q18 : sK S a18 = kdM 18) (z18 : ∀ k, sI S a18 k = 0) (hv : ∀ w k, w = nI k → k < 5 → vp_in ((5 : Int32) * ((8 : Int32) * nI j + nI i) + w) (sN S a18)) (hq : Q (some (.int (nV j i 14))) S) : wpn (kX8_note Q) 11 31 [(0, .ref m), (1, .int (nI j)), (2, .int (nI i)), (3, .int (nI 14))] [] S 0 0 :=
  have hm := hM.1
  have h : ∀ r, r = nV j i 14 → Q (some (.int r)) S := fun r er => er ▸ hq
  And.intro (by decide) (ifF (by decide) (ifT (by decide) (And.intro hm (useR p18 (And.intro q18 (And.intro (hv _ 0 (by decide) (by decide)) (ifF (by decide) (h _ (by rw [z18]; exact (by decide : ((0 : Int32) >>> (((8 : Int32) * ((3 : Int32) - (nI 14 - nI 14 / 11 * 11))) &&& 31)) &&& 255 = 0))))))))))
theorem s_Mn15 {S : MM} {m j i a18 : Nat} {Q : Option Value → MM → Prop} (hM : MF S m) (hj : j < 2) (hi : i < 8) (p18 : sR S m 18 = some a18) (q18 : sK S a18 = kdM 18) (z18 : ∀ k, sI S a18 k = 0) (hv : ∀ w k, w = nI k → k < 5 → vp_in ((5 : Int32) * ((8 : Int32) * nI j + nI i) + w) (sN S a18)) (hq : Q (some (.int (nV j i 15))) S) : wpn (kX8_note Q) 11 31 [(0, .ref m), (1, .int (nI j)), (2, .int (nI i)), (3, .int (nI 15))] [] S 0 0 :=
  have hm := hM.1
  have h : ∀ r, r = nV j i 15 → Q (some (.int r)) S := fun r er => er ▸ hq
  And.intro (by decide) (ifT (by decide) (ifF (by decide) (And.intro (by decide) (ifT (by decide) (And.intro hm (useR p18 (And.intro q18 (And.intro (hv _ 1 (by decide) (by decide)) (ifT (by decide) (ifF (by decide) (And.intro (by decide) (h _ (by rw [z18]; exact (by decide : ((0 : Int32) >>> (((8 : Int32) * ((1 : Int32) - ((nI 15 - nI 15 / 11 * 11) - (nI 15 - nI 15 / 11 * 11) / 2 * 2))) &&& 31)) &&& 255 = 0))))))))))))))
theorem s_Mn16 {S : MM} {m j i a18 : Nat} {Q : Option Value → MM → Prop} (hM : MF S m) (hj : j < 2) (hi : i < 8) (p18 : sR S m 18 = some a18) (q18 : sK S a18 = kdM 18) (z18 : ∀ k, sI S a18 k = 0) (hv : ∀ w k, w = nI k → k < 5 → vp_in ((5 : Int32) * ((8 : Int32) * nI j + nI i) + w) (sN S a18)) (hq : Q (some (.int (nV j i 16))) S) : wpn (kX8_note Q) 11 31 [(0, .ref m), (1, .int (nI j)), (2, .int (nI i)), (3, .int (nI 16))] [] S 0 0 :=
  have hm := hM.1
  have h : ∀ r, r = nV j i 16 → Q (some (.int r)) S := fun r er => er ▸ hq
  And.intro (by decide) (ifT (by decide) (ifF (by decide) (And.intro (by decide) (ifT (by decide) (And.intro hm (useR p18 (And.intro q18 (And.intro (hv _ 1 (by decide) (by decide)) (ifT (by decide) (ifF (by decide) (And.intro (by decide) (h _ (by rw [z18]; exact (by decide : ((0 : Int32) >>> (((8 : Int32) * ((1 : Int32) - ((nI 16 - nI 16 / 11 * 11) - (nI 16 - nI 16 / 11 * 11) / 2 * 2))) &&& 31)) &&& 255 = 0))))))))))))))
theorem s_Mn17 {S : MM} {m j i a18 : Nat} {Q : Option Value → MM → Prop} (hM : MF S m) (hj : j < 2) (hi : i < 8) (p18 : sR S m 18 = some a18) (q18 : sK S a18 = kdM 18) (z18 : ∀ k, sI S a18 k = 0) (hv : ∀ w k, w = nI k → k < 5 → vp_in ((5 : Int32) * ((8 : Int32) * nI j + nI i) + w) (sN S a18)) (hq : Q (some (.int (nV j i 17))) S) : wpn (kX8_note Q) 11 31 [(0, .ref m), (1, .int (nI j)), (2, .int (nI i)), (3, .int (nI 17))] [] S 0 0 :=
  have hm := hM.1
  have h : ∀ r, r = nV j i 17 → Q (some (.int r)) S := fun r er => er ▸ hq
  And.intro (by decide) (ifT (by decide) (ifF (by decide) (And.intro (by decide) (ifT (by decide) (And.intro hm (useR p18 (And.intro q18 (And.intro (hv _ 2 (by decide) (by decide)) (ifT (by decide) (ifF (by decide) (And.intro (by decide) (h _ (by rw [z18]; exact (by decide : ((0 : Int32) >>> (((8 : Int32) * ((1 : Int32) - ((nI 17 - nI 17 / 11 * 11) - (nI 17 - nI 17 / 11 * 11) / 2 * 2))) &&& 31)) &&& 255 = 0))))))))))))))
theorem s_Mn18 {S : MM} {m j i a18 : Nat} {Q : Option Value → MM → Prop} (hM : MF S m) (hj : j < 2) (hi : i < 8) (p18 : sR S m 18 = some a18) (q18 : sK S a18 = kdM 18) (z18 : ∀ k, sI S a18 k = 0) (hv : ∀ w k, w = nI k → k < 5 → vp_in ((5 : Int32) * ((8 : Int32) * nI j + nI i) + w) (sN S a18)) (hq : Q (some (.int (nV j i 18))) S) : wpn (kX8_note Q) 11 31 [(0, .ref m), (1, .int (nI j)), (2, .int (nI i)), (3, .int (nI 18))] [] S 0 0 :=
  have hm := hM.1
  have h : ∀ r, r = nV j i 18 → Q (some (.int r)) S := fun r er => er ▸ hq
  And.intro (by decide) (ifT (by decide) (ifF (by decide) (And.intro (by decide) (ifT (by decide) (And.intro hm (useR p18 (And.intro q18 (And.intro (hv _ 2 (by decide) (by decide)) (ifT (by decide) (ifF (by decide) (And.intro (by decide) (h _ (by rw [z18]; exact (by decide : ((0 : Int32) >>> (((8 : Int32) * ((1 : Int32) - ((nI 18 - nI 18 / 11 * 11) - (nI 18 - nI 18 / 11 * 11) / 2 * 2))) &&& 31)) &&& 255 = 0))))))))))))))
theorem s_Mn19 {S : MM} {m j i a18 : Nat} {Q : Option Value → MM → Prop} (hM : MF S m) (hj : j < 2) (hi : i < 8) (p18 : sR S m 18 = some a18) (q18 : sK S a18 = kdM 18) (z18 : ∀ k, sI S a18 k = 0) (hv : ∀ w k, w = nI k → k < 5 → vp_in ((5 : Int32) * ((8 : Int32) * nI j + nI i) + w) (sN S a18)) (hq : Q (some (.int (nV j i 19))) S) : wpn (kX8_note Q) 11 31 [(0, .ref m), (1, .int (nI j)), (2, .int (nI i)), (3, .int (nI 19))] [] S 0 0 :=
  have hm := hM.1
  have h : ∀ r, r = nV j i 19 → Q (some (.int r)) S := fun r er => er ▸ hq
  And.intro (by decide) (ifT (by decide) (ifF (by decide) (And.intro (by decide) (ifT (by decide) (And.intro hm (useR p18 (And.intro q18 (And.intro (hv _ 3 (by decide) (by decide)) (ifT (by decide) (ifF (by decide) (And.intro (by decide) (h _ (by rw [z18]; exact (by decide : ((0 : Int32) >>> (((8 : Int32) * ((1 : Int32) - ((nI 19 - nI 19 / 11 * 11) - (nI 19 - nI 19 / 11 * 11) / 2 * 2))) &&& 31)) &&& 255 = 0))))))))))))))
theorem s_Mn20 {S : MM} {m j i a18 : Nat} {Q : Option Value → MM → Prop} (hM : MF S m) (hj : j < 2) (hi : i < 8) (p18 : sR S m 18 = some a18) (q18 : sK S a18 = kdM 18) (z18 : ∀ k, sI S a18 k = 0) (hv : ∀ w k, w = nI k → k < 5 → vp_in ((5 : Int32) * ((8 : Int32) * nI j + nI i) + w) (sN S a18)) (hq : Q (some (.int (nV j i 20))) S) : wpn (kX8_note Q) 11 31 [(0, .ref m), (1, .int (nI j)), (2, .int (nI i)), (3, .int (nI 20))] [] S 0 0 :=
  have hm := hM.1
  have h : ∀ r, r = nV j i 20 → Q (some (.int r)) S := fun r er => er ▸ hq
  And.intro (by decide) (ifT (by decide) (ifF (by decide) (And.intro (by decide) (ifT (by decide) (And.intro hm (useR p18 (And.intro q18 (And.intro (hv _ 3 (by decide) (by decide)) (ifT (by decide) (ifF (by decide) (And.intro (by decide) (h _ (by rw [z18]; exact (by decide : ((0 : Int32) >>> (((8 : Int32) * ((1 : Int32) - ((nI 20 - nI 20 / 11 * 11) - (nI 20 - nI 20 / 11 * 11) / 2 * 2))) &&& 31)) &&& 255 = 0))))))))))))))
theorem s_Mn21 {S : MM} {m j i a18 : Nat} {Q : Option Value → MM → Prop} (hM : MF S m) (hj : j < 2) (hi : i < 8) (p18 : sR S m 18 = some a18) (q18 : sK S a18 = kdM 18) (z18 : ∀ k, sI S a18 k = 0) (hv : ∀ w k, w = nI k → k < 5 → vp_in ((5 : Int32) * ((8 : Int32) * nI j + nI i) + w) (sN S a18)) (hq : Q (some (.int (nV j i 21))) S) : wpn (kX8_note Q) 11 31 [(0, .ref m), (1, .int (nI j)), (2, .int (nI i)), (3, .int (nI 21))] [] S 0 0 :=
  have hm := hM.1
  have h : ∀ r, r = nV j i 21 → Q (some (.int r)) S := fun r er => er ▸ hq
  And.intro (by decide) (ifT (by decide) (ifT (by decide) (ifT (by decide) (And.intro hm (useR p18 (And.intro q18 (And.intro (hv _ 4 (by decide) (by decide)) (ifT (by decide) (ifT (by decide) (h _ (by rw [z18]; exact (by decide : ((0 : Int32) >>> (((8 : Int32) * (0 : Int32)) &&& 31)) &&& 255 = 0))))))))))))
theorem s_Mnote {S : MM} {m : Nat} {v w u : Int32} {Q : Option Value → MM → Prop} (hM : MF S m) (hb : nB v w u → Q (some (.int (-1))) S) (ho : ∀ j i t, j < 2 → v = nI j → i < 8 → w = nI i → t < 22 → u = nI t → ¬ nB v w u → Q (some (.int (nV j i t))) S) : wX8_note [.ref m, .int v, .int w, .int u] S Q := by
  have hm := hM.1
  have hz := hM.2.1
  obtain ⟨a18, p18, q18, l18, f18, -⟩ := hM.2.2.1 18 (by decide)
  have z18 : ∀ k, sI S a18 k = 0 := fun k => by rw [f18]; simp [fM, f0M]
  have hsame : pI S m 0 0 = S := pI_same (hz 0)
  refine Exists.intro 12 (And.intro hm ?_)
  show ldI 1 _ [(0, .ref m), (1, .int v), (2, .int w), (3, .int u)] [] (pI S m 0 0) 0 0
  rw [hsame]
  refine And.intro ⟨by decide, by decide⟩ (s_MisEnd (fun h => if0 (hb (Or.inl h))) (fun j hj e => if1 (And.intro ⟨by decide, by decide⟩ (s_MisPort (fun h => if0 (hb (Or.inr (Or.inl h)))) (fun i hi ei => if1 (And.intro (fun h => hb (Or.inr (Or.inr (Or.inl h)))) (fun h0 => And.intro (fun h1 => ?_) (fun h => hb (Or.inr (Or.inr (Or.inr (fun q => h (u21.mpr q)))))))))))))
  have h1 := u21.mp h1
  have nb := no_nB hj e hi ei h0 h1
  obtain ⟨t, ht, eu⟩ := u22 h0 h1
  have hq := ho j i t hj e hi ei ht eu nb
  subst e ei eu
  have hv : ∀ w k, w = nI k → k < 5 → vp_in ((5 : Int32) * ((8 : Int32) * nI j + nI i) + w) (sN S a18) := fun w k hw hk => by
    rw [hw, ix8, show (5 : Int32) = nI 5 from rfl, pk_mul, nI_add, l18]
    exact in_nI (show 5 * (8 * j + i) + k < 80 by omega) (by decide)
  match t, ht, hq with
  | 0, _, hq => exact s_Mn0 hM hj hi p18 q18 z18 hv hq
  | 1, _, hq => exact s_Mn1 hM hj hi p18 q18 z18 hv hq
  | 2, _, hq => exact s_Mn2 hM hj hi p18 q18 z18 hv hq
  | 3, _, hq => exact s_Mn3 hM hj hi p18 q18 z18 hv hq
  | 4, _, hq => exact s_Mn4 hM hj hi p18 q18 z18 hv hq
  | 5, _, hq => exact s_Mn5 hM hj hi p18 q18 z18 hv hq
  | 6, _, hq => exact s_Mn6 hM hj hi p18 q18 z18 hv hq
  | 7, _, hq => exact s_Mn7 hM hj hi p18 q18 z18 hv hq
  | 8, _, hq => exact s_Mn8 hM hj hi p18 q18 z18 hv hq
  | 9, _, hq => exact s_Mn9 hM hj hi p18 q18 z18 hv hq
  | 10, _, hq => exact s_Mn10 hM hj hi p18 q18 z18 hv hq
  | 11, _, hq => exact s_Mn11 hM hj hi p18 q18 z18 hv hq
  | 12, _, hq => exact s_Mn12 hM hj hi p18 q18 z18 hv hq
  | 13, _, hq => exact s_Mn13 hM hj hi p18 q18 z18 hv hq
  | 14, _, hq => exact s_Mn14 hM hj hi p18 q18 z18 hv hq
  | 15, _, hq => exact s_Mn15 hM hj hi p18 q18 z18 hv hq
  | 16, _, hq => exact s_Mn16 hM hj hi p18 q18 z18 hv hq
  | 17, _, hq => exact s_Mn17 hM hj hi p18 q18 z18 hv hq
  | 18, _, hq => exact s_Mn18 hM hj hi p18 q18 z18 hv hq
  | 19, _, hq => exact s_Mn19 hM hj hi p18 q18 z18 hv hq
  | 20, _, hq => exact s_Mn20 hM hj hi p18 q18 z18 hv hq
  | 21, _, hq => exact s_Mn21 hM hj hi p18 q18 z18 hv hq
  | n + 22, ht, _ => omega
theorem c_note {b : Nat} {xs : Nat → Int32} {S : MM} {x aE aC e0 e1 m out c z : Nat} (h : GG S x aE aC e0 e1 m out) (hc : c + 1 ≤ 600002) (hz : z + 6 ≤ 7302232) : wpn (kL_law b 5 xs) 9 1032 [(4, .int 0), (3, .ref out), (2, .ref m), (1, .ref x), (0, .ref b)] [] S c z := by
  obtain ⟨hB, hM, ho1, ho2⟩ := h
  have hc0 : c ≤ 600002 := by omega
  have hz0 : z ≤ 7302232 := by omega
  refine And.intro rfl (And.intro (v5 (i := 1) (by decide)) (And.intro rfl (And.intro (v5 (i := 2) (by decide)) (And.intro rfl (And.intro (v5 (i := 3) (by decide)) (And.intro hB.1.1 (And.intro ⟨hc0, hz0⟩ (s_note hB (fun q => ?_) (fun j i t hj e hi ei ht et nb => ?_)))))))))
  · refine And.intro rfl (And.intro (v5 (i := 1) (by decide)) (And.intro rfl (And.intro (v5 (i := 2) (by decide)) (And.intro rfl (And.intro (v5 (i := 3) (by decide)) (And.intro hM.1 (And.intro ⟨hc0, hz0⟩ (s_Mnote hM (fun _ => ?_) (fun j i t hj e hi ei ht et nb => absurd q nb)))))))))
    exact And.intro (fun _ => And.intro rfl (And.intro (fun _ => rfl) (fun h => absurd (by decide) h))) (fun h => absurd rfl h)
  · refine And.intro rfl (And.intro (v5 (i := 1) (by decide)) (And.intro rfl (And.intro (v5 (i := 2) (by decide)) (And.intro rfl (And.intro (v5 (i := 3) (by decide)) (And.intro hM.1 (And.intro ⟨hc0, hz0⟩ (s_Mnote hM (fun q => absurd q nb) (fun j' i' t' hj' e' hi' ei' ht' et' _ => ?_)))))))))
    have e1 : j' = j := nI_in2 hj' hj (e'.symm.trans e)
    have e2 : i' = i := (nI_eq (by omega) (by omega)).mp (ei'.symm.trans ei)
    have e3 : t' = t := (nI_eq (by omega) (by omega)).mp (et'.symm.trans et)
    subst e1 e2 e3
    exact And.intro (fun _ => And.intro rfl (And.intro (fun _ => rfl) (fun h => absurd (by decide) h))) (fun h => absurd rfl h)
