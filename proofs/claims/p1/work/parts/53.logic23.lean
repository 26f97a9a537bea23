-- plug of the class
def Dp (S S' : MM) (a pp : Nat) : Prop := sK S' = sK S ∧ sN S' = sN S ∧ sJ S' = sJ S ∧ (∀ b, b ≠ a → sK S b ≠ 6 → sK S b ≠ 8 → sI S' b = sI S b) ∧ (∀ b, b ≠ pp → sR S' b = sR S b) ∧ sI S' a 4 = sI S a 4
theorem Dp.rf {S : MM} {a pp : Nat} : Dp S S a pp := ⟨rfl, rfl, rfl, fun _ _ _ _ => rfl, fun _ _ => rfl, rfl⟩
theorem Dp.p {S S1 : MM} {a pp p k : Nat} {v : Int32} (h : Dp S S1 a pp) (hp : sK S p = 6 ∨ sK S p = 8) (ha : a ≠ p) : Dp S (pI S1 p k v) a pp := by
  obtain ⟨h1, h2, h3, h4, h5, h6⟩ := h
  refine ⟨h1, h2, h3, fun b b1 b2 b3 => ?_, h5, ?_⟩
  · rw [sI_pI, up2_row (fun z => by rw [z] at b2 b3; exact hp.elim b2 b3)]
    exact h4 b b1 b2 b3
  · rw [sI_pI, up2_ne (fun z => ha z.1)]
    exact h6
theorem Dp.a {S S1 : MM} {a pp k : Nat} {v : Int32} (h : Dp S S1 a pp) (hk : k ≠ 4) : Dp S (pI S1 a k v) a pp := by
  obtain ⟨h1, h2, h3, h4, h5, h6⟩ := h
  refine ⟨h1, h2, h3, fun b b1 b2 b3 => ?_, h5, ?_⟩
  · rw [sI_pI, up2_row b1]
    exact h4 b b1 b2 b3
  · rw [sI_pI, up2_ne (fun z => hk z.2.symm)]
    exact h6
theorem Dp.r {S S1 : MM} {a pp k : Nat} {v : Option Nat} (h : Dp S S1 a pp) : Dp S (pR S1 pp k v) a pp := by
  obtain ⟨h1, h2, h3, h4, h5, h6⟩ := h
  exact ⟨h1, h2, h3, h4, fun b b1 => by rw [sR_pR, up2_row b1]; exact h5 b b1, h6⟩
theorem Dp.ex {S S' : MM} {a pp : Nat} (h : Dp S S' a pp) (ha : sK S a = 1) (hp : sK S pp = 17) : Ex S S' (Kc S) := by
  obtain ⟨h1, h2, h3, h4, h5, h6⟩ := h
  intro b _ hn
  have hk : sK S b = 9 ∨ sK S b = 10 ∨ sK S b = 11 ∨ sK S b = 18 := by
    unfold Kc at hn
    by_cases q1 : sK S b = 9
    · exact Or.inl q1
    · by_cases q2 : sK S b = 10
      · exact Or.inr (Or.inl q2)
      · by_cases q3 : sK S b = 11
        · exact Or.inr (Or.inr (Or.inl q3))
        · by_cases q4 : sK S b = 18
          · exact Or.inr (Or.inr (Or.inr q4))
          · exact absurd ⟨q1, q2, q3, q4⟩ hn
  have ba : b ≠ a := fun z => by rw [z, ha] at hk; rcases hk with q | q | q | q <;> cases q
  have bp : b ≠ pp := fun z => by rw [z, hp] at hk; rcases hk with q | q | q | q <;> cases q
  have b6 : sK S b ≠ 6 := fun z => by rw [z] at hk; rcases hk with q | q | q | q <;> cases q
  have b8 : sK S b ≠ 8 := fun z => by rw [z] at hk; rcases hk with q | q | q | q <;> cases q
  exact ⟨by rw [h1], by rw [h2], h4 b ba b6 b8, h5 b bp, by rw [h3]⟩
theorem s_isTaken0 {S : MM} {p : Nat} {w : Int32} {Q : Option Value → MM → Prop} (hv : P0v S p) (h : Q (some (.int 0)) S) : wX7_isTaken [.ref p, .int w] S Q :=
  Exists.intro 3 (And.intro hv.1 (ifT hv.2.1 (And.intro (Or.inl rfl) h)))
theorem s_takeOut0 {S : MM} {x a : Nat} {Q : Option Value → MM → Prop} (hc : Cb0 S a) (h : Q none S) : wX7_takeOut [.ref x, .ref a] S Q :=
  Exists.intro 2 (And.intro hc.1 (And.intro ⟨by decide, by decide⟩ (s_isPlugged0 hc (if0 h))))
theorem s_putIn {S : MM} {x aC a pp p j e : Nat} {w : Int32} {Q : Option Value → MM → Prop} (hx : sK S x = 8) (hR : sR S x 1 = some aC) (hk : sK S aC = 12) (hN : sN S aC = 8) (hj : j < 8) (ha : sR S aC j = some a) (ka : sK S a = 1) (ra : sR S a 0 = some pp) (kp : sK S pp = 17) (np : sN S pp = 2) (he : e < 2) (kq : sK S p = 6) (hw : w = nI e) (h : Q none (pI (pR S pp e (some p)) p 2 (nI j))) : wX7_putIn [.ref x, .int (nI j), .int w, .ref p] S Q := by
  subst hw
  refine Exists.intro 1 (And.intro hx (useR hR (And.intro hk (And.intro (by rw [hN]; exact in_nI hj (by decide)) (useR (v := some a) (by rw [cl_nI (by omega)]; exact ha) (And.intro ka (useR ra (And.intro kp (And.intro (by rw [np]; exact in_nI he (by decide)) (And.intro kq (And.intro kq ?_)))))))))))
  show Q none (pI (pR S pp (nI e).toNatClampNeg (some p)) p 2 (nI j))
  rw [cl_nI (by omega)]
  exact h
theorem s_setB0 {S : MM} {t : Nat} {u : Int32} {Q : Option Value → MM → Prop} (hk : sK S t = 7) (hz : sI S t 4 = 0) (h : Q none S) : wX6_setBits [.ref t, .int u, .int 0] S Q := by
  refine Exists.intro 3 (if0 (And.intro hk (And.intro hk ?_)))
  show Q none (pI S t 4 (sI S t 4 &&& (u ^^^ (-1))))
  rw [pI_same (by rw [hz]; simp)]
  exact h
theorem s_becomeLit {S : MM} {p t : Nat} {Q : Option Value → MM → Prop} (hk : sK S p = 6) (hR : sR S p 1 = some t) (kt : sK S t = 7) (hz : sI S t 4 = 0) (h : Q none (pI (pI (pI S p 3 1) p 4 3) p 15 (-1))) : wX5_becomeLit [.ref p] S Q := by
  have tp : t ≠ p := fun z => by rw [z, hk] at kt; cases kt
  have hz2 : sI (pI (pI S p 3 1) p 4 3) t 4 = 0 := by rw [sI_pI, up2_ne (fun z => tp z.1), sI_pI, up2_ne (fun z => tp z.1)]; exact hz
  exact Exists.intro 1 (And.intro hk (And.intro hk (And.intro hk (useR hR (And.intro kt (And.intro ⟨by decide, by decide⟩ (s_setB0 kt hz2 (And.intro hk h))))))))
theorem s_isPlugged1 {S : MM} {a pp p0 p1 : Nat} {Q : Option Value → MM → Prop} (ka : sK S a = 1) (ra : sR S a 0 = some pp) (kp : sK S pp = 17) (np : sN S pp = 2) (r0 : sR S pp 0 = some p0) (r1 : sR S pp 1 = some p1) (h : Q (some (.int 1)) S) : wX0_isPlugged [.ref a] S Q :=
  Exists.intro 3 (And.intro ka (useR ra (And.intro kp (And.intro (by rw [np]; exact in_0 (by decide)) (useR r0 (And.intro ka (useR ra (And.intro kp (And.intro (by rw [np]; exact in_nI (i := 1) (by decide) (by decide)) (useR r1 (And.intro (Or.inr rfl) h)))))))))))
theorem s_agrees1 {S : MM} {a pp p0 p1 t : Nat} {Q : Option Value → MM → Prop} (ka : sK S a = 1) (ra : sR S a 0 = some pp) (kp : sK S pp = 17) (np : sN S pp = 2) (r0 : sR S pp 0 = some p0) (r1 : sR S pp 1 = some p1) (k0 : sK S p0 = 6) (rt : sR S p0 0 = some t) (kt : sK S t = 7) (zt : sI S t 4 = 0) (h : Q (some (.int 0)) S) : wX0_agrees [.ref a] S Q := by
  have hh : Q (some (.int 0)) S → (if sI S t 4 &&& (4 : Int32) = 0 then (0 : Int32) else 1) = 0 := fun _ => by rw [zt]; decide
  refine Exists.intro 4 (And.intro ka (And.intro (fun _ => And.intro (Or.inl rfl) h) (fun _ => And.intro ka (And.intro ⟨by decide, by decide⟩ (s_isPlugged1 ka ra kp np r0 r1 (if1 (And.intro ka (useR ra (And.intro kp (And.intro (by rw [np]; exact in_0 (by decide)) (useR r0 (And.intro k0 (useR rt (And.intro kt (And.intro ⟨by decide, by decide⟩ (s_has kt ?_))))))))))))))))
  rw [hh h]
  exact if0 (And.intro (Or.inl rfl) h)
theorem s_agreesU {S : MM} {a : Nat} {Q : Option Value → MM → Prop} (ka : sK S a = 1) (hu : sI S a 3 = 0) (h : Q (some (.int 0)) S) : wX0_agrees [.ref a] S Q :=
  Exists.intro 3 (And.intro ka (ifT hu (And.intro (Or.inl rfl) h)))
/-- every cable says no when asked whether it agrees, and isn't meant -/
def Ca (S : MM) (aC : Nat) : Prop := ∀ c, c < 8 → ∃ a, sR S aC c = some a ∧ sK S a = 1 ∧ sI S a 4 = 0 ∧ ∀ Q : Option Value → MM → Prop, Q (some (.int 0)) S → wX0_agrees [.ref a] S Q
set_option maxRecDepth 20000 in
theorem s_nc2L {Q : Option Value → MM → Prop} {x aC : Nat} {lim : Int32} {S : MM} (hx : sK S x = 8) (hR : sR S x 1 = some aC) (hk : sK S aC = 12) (hN : sN S aC = 8) (hC : Ca S aC) (K : Q none S) : ∀ (n i : Nat), i + n = 8 → wpn (kX7_noteChange Q) (3 * n + 2) 29 [(2, .int (nI i)), (1, .int lim), (0, .ref x)] [] S 0 0 := by
  intro n
  induction n with
  | zero =>
    intro i hi
    have e8 : i = 8 := by omega
    subst e8
    exact And.intro (fun _ => K) (fun h => absurd (by decide) h)
  | succ n ih =>
    intro i hi
    have hi8 : i < 8 := by omega
    obtain ⟨a, a1, a2, a3, a4⟩ := hC i hi8
    have hv : vp_in (nI i) (sN S aC) := by rw [hN]; exact in_nI hi8 (by decide)
    have a1' : sR S aC (nI i).toNatClampNeg = some a := by rw [cl_nI (by omega)]; exact a1
    have nx := ih (i + 1) (by omega)
    rw [← nI_1 i] at nx
    refine And.intro (fun h => absurd h (n8_ge hi8)) (fun _ => And.intro hx (useR hR (And.intro hk (And.intro hv (useR a1' (And.intro hx (useR hR (And.intro hk (And.intro hv (useR a1' (And.intro a2 (And.intro ⟨by decide, by decide⟩ (a4 _ (if0 (And.intro a2 (And.intro (Or.inl rfl) ?_))))))))))))))))
    show wpn (kX7_noteChange Q) (3 * n + 2) 29 _ [] (pI S a 4 0) 0 0
    rw [pI_same a3]
    exact nx
theorem s_nc2 {S : MM} {x aE aC e0 e1 : Nat} {Q : Option Value → MM → Prop} (hB : B0s S x aE aC e0 e1) (k0 : sK S e0 = 2) (k1 : sK S e1 = 2) (hC : Ca (pI S x 3 0) aC) (hQ : Q none (pI S x 3 0)) : wX7_noteChange [.ref x] S Q := by
  obtain ⟨b1, b2, b3, b4, b5, b6, b7, b8, b9, b10⟩ := hB
  refine Exists.intro 27 (And.intro b1 (And.intro b1 (useR b2 (And.intro b4 (And.intro (by show vp_in 0 (sN S aE); rw [b5]; exact in_0 (by decide)) (useR b8 (And.intro k0 (And.intro b1 (useR b2 (And.intro b4 (And.intro (by show vp_in 1 (sN S aE); rw [b5]; exact in_nI (i := 1) (by decide) (by decide)) (useR b9 (And.intro k1 ?_)))))))))))))
  exact s_nc2L (S := pI S x 3 0) b1 b3 b6 b7 hC hQ 8 0 rfl
theorem gl_so0 {k : Kt} {x a : Nat} {S : MM} {c z : Nat} (h : k [(2, .int 0), (0, .ref x), (1, .ref a)] [] S c z) : cI 0 (stI 2 k) [(0, .ref x), (1, .ref a)] [] S c z := h
theorem gl_so7 {k : Kt} {x a : Nat} {i : Int32} {S : MM} {c z : Nat} (h : k [(2, .int (i + 1)), (0, .ref x), (1, .ref a)] [] S c z) : inc 2 1 k [(2, .int i), (0, .ref x), (1, .ref a)] [] S c z := h
def lit (S : MM) (p : Nat) : MM := pI (pI (pI S p 3 1) p 4 3) p 15 (-1)
theorem s_switchOn {S : MM} {x a pp p0 p1 t0 t1 : Nat} {Q : Option Value → MM → Prop} (ka : sK S a = 1) (ra : sR S a 0 = some pp) (kp : sK S pp = 17) (np : sN S pp = 2) (r0 : sR S pp 0 = some p0) (r1 : sR S pp 1 = some p1) (k0 : sK S p0 = 6) (k1 : sK S p1 = 6) (h0 : sR S p0 1 = some t0) (h1 : sR S p1 1 = some t1) (kt0 : sK S t0 = 7) (kt1 : sK S t1 = 7) (z0 : sI S t0 4 = 0) (z1 : sI S t1 4 = 0) (h : Q none (lit (lit (pI S a 3 1) p0) p1)) : wX7_switchOn [.ref x, .ref a] S Q := by
  have n0 : t0 ≠ a := fun z => by rw [z, ka] at kt0; cases kt0
  have n1 : t1 ≠ a := fun z => by rw [z, ka] at kt1; cases kt1
  have m1 : t1 ≠ p0 := fun z => by rw [z, k0] at kt1; cases kt1
  have y0 : sI (pI S a 3 1) t0 4 = 0 := by rw [sI_pI, up2_ne (fun z => n0 z.1)]; exact z0
  have y1 : sI (lit (pI S a 3 1) p0) t1 4 = 0 := by
    unfold lit
    rw [sI_pI, up2_ne (fun z => m1 z.1), sI_pI, up2_ne (fun z => m1 z.1), sI_pI, up2_ne (fun z => m1 z.1), sI_pI, up2_ne (fun z => n1 z.1)]
    exact z1
  have K2 : wpn (kX7_switchOn Q) 2 7 [(2, .int (0 + 1 + 1)), (0, .ref x), (1, .ref a)] [] (lit (lit (pI S a 3 1) p0) p1) 0 0 := ifT (by decide) h
  have K1 : wpn (kX7_switchOn Q) 3 7 [(2, .int (0 + 1)), (0, .ref x), (1, .ref a)] [] (lit (pI S a 3 1) p0) 0 0 := ifF (by decide) (And.intro ka (useR ra (And.intro kp (And.intro (by show vp_in (0 + 1) (sN S pp); rw [np]; exact in_nI (i := 1) (by decide) (by decide)) (useR r1 (And.intro k1 (And.intro ⟨by decide, by decide⟩ (s_becomeLit (S := lit (pI S a 3 1) p0) k1 h1 kt1 y1 (gl_so7 K2)))))))))
  have K0 : wpn (kX7_switchOn Q) 4 7 [(2, .int 0), (0, .ref x), (1, .ref a)] [] (pI S a 3 1) 0 0 := ifF (by decide) (And.intro ka (useR ra (And.intro kp (And.intro (by show vp_in 0 (sN S pp); rw [np]; exact in_0 (by decide)) (useR r0 (And.intro k0 (And.intro ⟨by decide, by decide⟩ (s_becomeLit (S := pI S a 3 1) k0 h0 kt0 y0 (gl_so7 K1)))))))))
  refine Exists.intro 5 (stp (show ldA 1 (cI 1 (tZ 0 3 (cI 0 (stI 2 (wpn (kX7_switchOn Q) 4 7))))) [(0, .ref x), (1, .ref a)] [] S 0 0 from And.intro ka (And.intro (Or.inr rfl) (gl_so0 K0))))
def gP (v a b n : Int32) : Prop := (v < 0 ∨ 8 ≤ v) ∨ (a < 0 ∨ 8 ≤ a) ∨ (b < 0 ∨ 8 ≤ b) ∨ (n < 1 ∨ ¬ n ≤ 8)
theorem no_gP {v a b n : Int32} {j i k : Nat} (hj : j < 8) (ej : v = nI j) (hi : i < 8) (ei : a = nI i) (hk : k < 8) (ek : b = nI k) (h0 : ¬ n < 1) (h1 : n ≤ 8) : ¬ gP v a b n := fun q => by
  rcases q with q | q | q | q | q
  · exact no_8 q hj ej
  · exact no_8 q hi ei
  · exact no_8 q hk ek
  · exact h0 q
  · exact q h1
def s4 (S : MM) (pp p0 p1 : Nat) (w : Int32) : MM := pI (pR (pI (pR S pp 0 (some p0)) p0 2 w) pp 1 (some p1)) p1 2 w
theorem s_plugE {S : MM} {x aE aC e0 e1 a pp p0 p1 t0 t1 h0 h1 : Nat} {w n : Int32} (hB : B0 S x aE aC e0 e1) (ka : sK S a = 1) (ra : sR S a 0 = some pp) (kp : sK S pp = 17) (np : sN S pp = 2) (k0 : sK S p0 = 6) (k1 : sK S p1 = 6) (kt : sK S t0 = 7) (rt : sR S p0 0 = some t0) (zt : sI S t0 4 = 0) (za : sI S a 4 = 0) :
    Dp S (pI (lit (lit (pI (pI (s4 S pp p0 p1 w) a 2 n) a 3 1) p0) p1) x 3 0) a pp ∧ Ca (pI (lit (lit (pI (pI (s4 S pp p0 p1 w) a 2 n) a 3 1) p0) p1) x 3 0) aC := by
  have hs := hB.1
  obtain ⟨b1, b2, b3, b4, b5, b6, b7, b8, b9, b10⟩ := hs
  have a0 : a ≠ p0 := fun z => by rw [z, k0] at ka; cases ka
  have a1 : a ≠ p1 := fun z => by rw [z, k1] at ka; cases ka
  have ax : a ≠ x := fun z => by rw [z, b1] at ka; cases ka
  have D4 : Dp S (s4 S pp p0 p1 w) a pp := (((Dp.rf.r).p (Or.inl k0) a0).r).p (Or.inl k1) a1
  have D : Dp S (pI (lit (lit (pI (pI (s4 S pp p0 p1 w) a 2 n) a 3 1) p0) p1) x 3 0) a pp := ((((((((D4.a (by decide)).a (by decide)).p (Or.inl k0) a0).p (Or.inl k0) a0).p (Or.inl k0) a0).p (Or.inl k1) a1).p (Or.inl k1) a1).p (Or.inl k1) a1).p (Or.inr b1) ax
  have q0 : sR (pI (lit (lit (pI (pI (s4 S pp p0 p1 w) a 2 n) a 3 1) p0) p1) x 3 0) pp 0 = some p0 := by
    show sR (s4 S pp p0 p1 w) pp 0 = some p0
    unfold s4
    rw [sR_pI, sR_pR, up2_ne (by simp), sR_pI, sR_pR, up2_self]
  have q1 : sR (pI (lit (lit (pI (pI (s4 S pp p0 p1 w) a 2 n) a 3 1) p0) p1) x 3 0) pp 1 = some p1 := by
    show sR (s4 S pp p0 p1 w) pp 1 = some p1
    unfold s4
    rw [sR_pI, sR_pR, up2_self]
  generalize pI (lit (lit (pI (pI (s4 S pp p0 p1 w) a 2 n) a 3 1) p0) p1) x 3 0 = S1 at D q0 q1
  refine ⟨D, ?_⟩
  obtain ⟨d1, d2, d3, d4, d5, d6⟩ := D
  have np0 : p0 ≠ pp := fun z => by rw [z, kp] at k0; cases k0
  have nap : a ≠ pp := fun z => by rw [z, kp] at ka; cases ka
  have nta : t0 ≠ a := fun z => by rw [z, ka] at kt; cases kt
  have nC : aC ≠ pp := fun z => by rw [z, kp] at b6; cases b6
  intro c hc
  obtain ⟨g, g1, g2⟩ := hB.2.2.2.2 c hc
  refine ⟨g, by rw [d5 aC nC]; exact g1, by rw [d1]; exact g2.1.1, ?_, ?_⟩
  · by_cases hg : g = a
    · rw [hg, d6]; exact za
    · rw [d4 g hg (by rw [g2.1.1]; decide) (by rw [g2.1.1]; decide)]; exact g2.1.2.2.1
  · intro Q hQ
    by_cases hg : g = a
    · rw [hg]
      exact s_agrees1 (by rw [d1]; exact ka) (by rw [d5 a nap]; exact ra) (by rw [d1]; exact kp) (by rw [d2]; exact np) q0 q1 (by rw [d1]; exact k0) (by rw [d5 p0 np0]; exact rt) (by rw [d1]; exact kt) (by rw [d4 t0 nta (by rw [kt]; decide) (by rw [kt]; decide)]; exact zt) hQ
    · exact s_agreesU (by rw [d1]; exact g2.1.1) (by rw [d4 g hg (by rw [g2.1.1]; decide) (by rw [g2.1.1]; decide)]; exact g2.1.2.1) hQ
def PH (S : MM) (e A p u i : Nat) : Prop := sK S e = 2 ∧ sR S e 0 = some A ∧ sK S A = 17 ∧ sN S A = 8 ∧ sR S A i = some p ∧ sK S p = 6 ∧ sR S p 1 = some u ∧ sK S u = 7 ∧ sI S u 4 = 0
def PC (S : MM) (aC c0 pp j : Nat) : Prop := sR S aC j = some c0 ∧ sK S c0 = 1 ∧ sR S c0 0 = some pp ∧ sK S pp = 17 ∧ sN S pp = 2
theorem PH_D {S S' : MM} {e A p u i a pp : Nat} (h : PH S e A p u i) (d : Dp S S' a pp) (ka : sK S a = 1) (kp : sK S pp = 17) (np : sN S pp = 2) : PH S' e A p u i := by
  obtain ⟨h1, h2, h3, h4, h5, h6, h7, h8, h9⟩ := h
  obtain ⟨d1, d2, d3, d4, d5, d6⟩ := d
  have n1 : e ≠ pp := fun z => by rw [z, kp] at h1; cases h1
  have n2 : A ≠ pp := fun z => by rw [z, np] at h4; cases h4
  have n3 : p ≠ pp := fun z => by rw [z, kp] at h6; cases h6
  have n4 : u ≠ a := fun z => by rw [z, ka] at h8; cases h8
  exact ⟨by rw [d1]; exact h1, by rw [d5 e n1]; exact h2, by rw [d1]; exact h3, by rw [d2]; exact h4, by rw [d5 A n2]; exact h5, by rw [d1]; exact h6, by rw [d5 p n3]; exact h7, by rw [d1]; exact h8, by rw [d4 u n4 (by rw [h8]; decide) (by rw [h8]; decide)]; exact h9⟩
theorem PC_D {S S' : MM} {aC c0 pp j a : Nat} (h : PC S aC c0 pp j) (d : Dp S S' a pp) (kC : sK S aC = 12) : PC S' aC c0 pp j := by
  obtain ⟨h1, h2, h3, h4, h5⟩ := h
  obtain ⟨d1, d2, d3, d4, d5, d6⟩ := d
  have n1 : aC ≠ pp := fun z => by rw [z, h4] at kC; cases kC
  have n2 : c0 ≠ pp := fun z => by rw [z, h4] at h2; cases h2
  exact ⟨by rw [d5 aC n1]; exact h1, by rw [d1]; exact h2, by rw [d5 c0 n2]; exact h3, by rw [d1]; exact h4, by rw [d2]; exact h5⟩
theorem B0s_D {S S' : MM} {x aE aC e0 e1 a pp : Nat} (h : B0s S x aE aC e0 e1) (d : Dp S S' a pp) (kp : sK S pp = 17) : B0s S' x aE aC e0 e1 := by
  obtain ⟨b1, b2, b3, b4, b5, b6, b7, b8, b9, b10⟩ := h
  obtain ⟨d1, d2, d3, d4, d5, d6⟩ := d
  have n1 : x ≠ pp := fun z => by rw [z, kp] at b1; cases b1
  have n2 : aE ≠ pp := fun z => by rw [z, kp] at b4; cases b4
  exact ⟨by rw [d1]; exact b1, by rw [d5 x n1]; exact b2, by rw [d5 x n1]; exact b3, by rw [d1]; exact b4, by rw [d2]; exact b5, by rw [d1]; exact b6, by rw [d2]; exact b7, by rw [d5 aE n2]; exact b8, by rw [d5 aE n2]; exact b9, b10⟩
theorem q_tk {K : Kt} {x aE aC e0 e1 j i k : Nat} {n : Int32} {S : MM} {c0 : Nat} (hB : B0s S x aE aC e0 e1) (hj : j < 8) (r1 : sR S aC j = some c0) (hC : Cb0 S c0) (h : K [(0, .ref x), (1, .int (nI j)), (2, .int (nI i)), (3, .int (nI k)), (4, .int n)] [] S 0 0) : ldA 0 (ldA 0 (gR 7 1 (ldI 1 (aR 12 (cV 1 7 wX7_takeOut 0 0 1 6 K))))) [(0, .ref x), (1, .int (nI j)), (2, .int (nI i)), (3, .int (nI k)), (4, .int n)] [] S 0 0 := by
  obtain ⟨b1, b2, b3, b4, b5, b6, b7, b8, b9, b10⟩ := hB
  exact And.intro b1 (useR b3 (And.intro b6 (And.intro (by rw [b7]; exact in_nI hj (by decide)) (useR (v := some c0) (by rw [cl_nI (by omega)]; exact r1) (And.intro b1 (And.intro ⟨by decide, by decide⟩ (s_takeOut0 hC h)))))))
theorem q_p0 {K : Kt} {x aE aC e0 e1 j i k : Nat} {n : Int32} {S : MM} {c0 pp A p u : Nat} (hB : B0s S x aE aC e0 e1) (hC : PC S aC c0 pp j) (hP : PH S e0 A p u i) (hj : j < 8) (hi : i < 8) (h : K [(0, .ref x), (1, .int (nI j)), (2, .int (nI i)), (3, .int (nI k)), (4, .int n)] [] (pI (pR S pp 0 (some p)) p 2 (nI j)) 0 0) : ldA 0 (ldI 1 (cI 0 (ldA 0 (gR 7 0 (cI 0 (aR 13 (gR 1 0 (ldI 2 (aR 17 (cV 3 7 wX7_putIn 0 0 1 6 K)))))))))) [(0, .ref x), (1, .int (nI j)), (2, .int (nI i)), (3, .int (nI k)), (4, .int n)] [] S 0 0 := by
  obtain ⟨b1, b2, b3, b4, b5, b6, b7, b8, b9, b10⟩ := hB
  obtain ⟨f1, f2, f3, f4, f5, f6, f7, f8, f9⟩ := hP
  obtain ⟨g1, g2, g3, g4, g5⟩ := hC
  exact And.intro b1 (useR b2 (And.intro b4 (And.intro (by rw [b5]; exact in_0 (by decide)) (useR b8 (And.intro f1 (useR f2 (And.intro f3 (And.intro (by rw [f4]; exact in_nI hi (by decide)) (useR (v := some p) (by rw [cl_nI (by omega)]; exact f5) (And.intro b1 (And.intro ⟨by decide, by decide⟩ (s_putIn (e := 0) b1 b3 b6 b7 hj g1 g2 g3 g4 g5 (by decide) f6 rfl h))))))))))))
theorem q_p1 {K : Kt} {x aE aC e0 e1 j i k : Nat} {n : Int32} {S : MM} {c0 pp A p u : Nat} (hB : B0s S x aE aC e0 e1) (hC : PC S aC c0 pp j) (hP : PH S e1 A p u k) (hj : j < 8) (hi : k < 8) (h : K [(0, .ref x), (1, .int (nI j)), (2, .int (nI i)), (3, .int (nI k)), (4, .int n)] [] (pI (pR S pp 1 (some p)) p 2 (nI j)) 0 0) : ldA 0 (ldI 1 (cI 1 (ldA 0 (gR 7 0 (cI 1 (aR 13 (gR 1 0 (ldI 3 (aR 17 (cV 3 7 wX7_putIn 0 0 1 6 K)))))))))) [(0, .ref x), (1, .int (nI j)), (2, .int (nI i)), (3, .int (nI k)), (4, .int n)] [] S 0 0 := by
  obtain ⟨b1, b2, b3, b4, b5, b6, b7, b8, b9, b10⟩ := hB
  obtain ⟨f1, f2, f3, f4, f5, f6, f7, f8, f9⟩ := hP
  obtain ⟨g1, g2, g3, g4, g5⟩ := hC
  exact And.intro b1 (useR b2 (And.intro b4 (And.intro (by rw [b5]; exact in_nI (i := 1) (by decide) (by decide)) (useR b9 (And.intro f1 (useR f2 (And.intro f3 (And.intro (by rw [f4]; exact in_nI hi (by decide)) (useR (v := some p) (by rw [cl_nI (by omega)]; exact f5) (And.intro b1 (And.intro ⟨by decide, by decide⟩ (s_putIn (e := 1) b1 b3 b6 b7 hj g1 g2 g3 g4 g5 (by decide) f6 rfl h))))))))))))
theorem q_dl {K : Kt} {x aE aC e0 e1 j i k : Nat} {n : Int32} {S : MM} {c0 pp : Nat} (hB : B0s S x aE aC e0 e1) (hC : PC S aC c0 pp j) (hj : j < 8) (h : K [(0, .ref x), (1, .int (nI j)), (2, .int (nI i)), (3, .int (nI k)), (4, .int n)] [] (pI S c0 2 n) 0 0) : ldA 0 (gR 7 1 (ldI 1 (aR 12 (ldI 4 (tI 0 2 K))))) [(0, .ref x), (1, .int (nI j)), (2, .int (nI i)), (3, .int (nI k)), (4, .int n)] [] S 0 0 := by
  obtain ⟨b1, b2, b3, b4, b5, b6, b7, b8, b9, b10⟩ := hB
  obtain ⟨g1, g2, g3, g4, g5⟩ := hC
  exact And.intro b1 (useR b3 (And.intro b6 (And.intro (by rw [b7]; exact in_nI hj (by decide)) (useR (v := some c0) (by rw [cl_nI (by omega)]; exact g1) (And.intro g2 h)))))
theorem q_so {K : Kt} {x aE aC e0 e1 j i k : Nat} {n : Int32} {S : MM} {c0 pp A0 A1 p0 p1 u0 u1 : Nat} (hB : B0s S x aE aC e0 e1) (hC : PC S aC c0 pp j) (hj : j < 8) (hP0 : PH S e0 A0 p0 u0 i) (hP1 : PH S e1 A1 p1 u1 k) (q0 : sR S pp 0 = some p0) (q1 : sR S pp 1 = some p1) (h : K [(0, .ref x), (1, .int (nI j)), (2, .int (nI i)), (3, .int (nI k)), (4, .int n)] [] (lit (lit (pI S c0 3 1) p0) p1) 0 0) : ldA 0 (ldA 0 (gR 7 1 (ldI 1 (aR 12 (cV 1 7 wX7_switchOn 0 0 1 6 K))))) [(0, .ref x), (1, .int (nI j)), (2, .int (nI i)), (3, .int (nI k)), (4, .int n)] [] S 0 0 := by
  obtain ⟨b1, b2, b3, b4, b5, b6, b7, b8, b9, b10⟩ := hB
  obtain ⟨g1, g2, g3, g4, g5⟩ := hC
  obtain ⟨f1, f2, f3, f4, f5, f6, f7, f8, f9⟩ := hP0
  obtain ⟨l1, l2, l3, l4, l5, l6, l7, l8, l9⟩ := hP1
  exact And.intro b1 (useR b3 (And.intro b6 (And.intro (by rw [b7]; exact in_nI hj (by decide)) (useR (v := some c0) (by rw [cl_nI (by omega)]; exact g1) (And.intro b1 (And.intro ⟨by decide, by decide⟩ (s_switchOn g2 g3 g4 g5 q0 q1 f6 l6 f7 l7 f8 l8 f9 l9 h)))))))
theorem q_nc {Q : Option Value → MM → Prop} {x aE aC e0 e1 j i k : Nat} {n : Int32} {S : MM} (hB : B0s S x aE aC e0 e1) (k0 : sK S e0 = 2) (k1 : sK S e1 = 2) (hC : Ca (pI S x 3 0) aC) (h : Q none (pI S x 3 0)) : ldA 0 (cV 0 7 wX7_noteChange 0 0 1 6 (rV Q)) [(0, .ref x), (1, .int (nI j)), (2, .int (nI i)), (3, .int (nI k)), (4, .int n)] [] S 0 0 :=
  And.intro hB.1 (And.intro ⟨by decide, by decide⟩ (s_nc2 hB k0 k1 hC h))
theorem q_90 {Q : Option Value → MM → Prop} {X : String → MM → Prop} {f x aE aC e0 e1 j i k c0 pp A0 A1 p0 p1 u0 u1 t0 : Nat} {n : Int32} {S : MM} (hB : B0 S x aE aC e0 e1) (hC : PC S aC c0 pp j) (hCb : Cb0 S c0) (hj : j < 8) (hi : i < 8) (hk : k < 8) (hP0 : PH S e0 A0 p0 u0 i) (hP1 : PH S e1 A1 p1 u1 k) (rt : sR S p0 0 = some t0) (kt : sK S t0 = 7) (zt : sI S t0 4 = 0) (ho : ∀ S', Ex S S' (Kc S) → Q none S') : wpn (kX7_plug Q X) (f + 1) 90 [(0, .ref x), (1, .int (nI j)), (2, .int (nI i)), (3, .int (nI k)), (4, .int n)] [] S 0 0 := by
  have kp := hC.2.2.2.1
  have np := hC.2.2.2.2
  have ka := hC.2.1
  have k0 := hP0.2.2.2.2.2.1
  have k1 := hP1.2.2.2.2.2.1
  have kC := hB.1.2.2.2.2.2.1
  have a0 : c0 ≠ p0 := fun z => by rw [z, k0] at ka; cases ka
  have a1 : c0 ≠ p1 := fun z => by rw [z, k1] at ka; cases ka
  obtain ⟨D, hCa⟩ := s_plugE (w := nI j) (n := n) (h0 := u0) (h1 := u1) (t1 := t0) hB ka hC.2.2.1 kp np k0 k1 kt rt zt hCb.2.2.1
  have D2 : Dp S (pI (pR S pp 0 (some p0)) p0 2 (nI j)) c0 pp := (Dp.rf.r).p (Or.inl k0) a0
  have D4 : Dp S (s4 S pp p0 p1 (nI j)) c0 pp := (D2.r).p (Or.inl k1) a1
  have D5 : Dp S (pI (s4 S pp p0 p1 (nI j)) c0 2 n) c0 pp := D4.a (by decide)
  have D6 : Dp S (lit (lit (pI (pI (s4 S pp p0 p1 (nI j)) c0 2 n) c0 3 1) p0) p1) c0 pp := (((((((D5.a (by decide)).p (Or.inl k0) a0).p (Or.inl k0) a0).p (Or.inl k0) a0).p (Or.inl k1) a1).p (Or.inl k1) a1).p (Or.inl k1) a1)
  have q0 : sR (pI (s4 S pp p0 p1 (nI j)) c0 2 n) pp 0 = some p0 := by
    unfold s4
    rw [sR_pI, sR_pI, sR_pR, up2_ne (by simp), sR_pI, sR_pR, up2_self]
  have q1 : sR (pI (s4 S pp p0 p1 (nI j)) c0 2 n) pp 1 = some p1 := by
    unfold s4
    rw [sR_pI, sR_pI, sR_pR, up2_self]
  have B6 := B0s_D hB.1 D6 kp
  have K6 := ho _ (D.ex ka kp)
  have E6 : sK (lit (lit (pI (pI (s4 S pp p0 p1 (nI j)) c0 2 n) c0 3 1) p0) p1) e0 = 2 := by rw [D6.1]; exact hP0.1
  have F6 : sK (lit (lit (pI (pI (s4 S pp p0 p1 (nI j)) c0 2 n) c0 3 1) p0) p1) e1 = 2 := by rw [D6.1]; exact hP1.1
  have z6 := q_nc (Q := Q) (j := j) (i := i) (k := k) (n := n) B6 E6 F6 hCa K6
  have z5 := q_so (B0s_D hB.1 D5 kp) (PC_D hC D5 kC) hj (PH_D hP0 D5 ka kp np) (PH_D hP1 D5 ka kp np) q0 q1 z6
  have z4 := q_dl (B0s_D hB.1 D4 kp) (PC_D hC D4 kC) hj z5
  have z2 := q_p1 (i := i) (B0s_D hB.1 D2 kp) (PC_D hC D2 kC) (PH_D hP1 D2 ka kp np) hj hk z4
  have z1 := q_p0 (k := k) hB.1 hC hP0 hj hi z2
  have z0 := q_tk hB.1 hj hC.1 hCb z1
  refine stp ?_
  show bX7_plug_90 Q X (wpn (kX7_plug Q X) f) [(0, .ref x), (1, .int (nI j)), (2, .int (nI i)), (3, .int (nI k)), (4, .int n)] [] S 0 0
  unfold bX7_plug_90
  exact z0
theorem q_44 {Q : Option Value → MM → Prop} {X : String → MM → Prop} {f x aE aC e0 e1 j i k : Nat} {n : Int32} {S : MM} (hB : B0 S x aE aC e0 e1) (hj : j < 8) (hi : i < 8) (hk : k < 8) (ho : ∀ S', Ex S S' (Kc S) → Q none S') : wpn (kX7_plug Q X) (f + 2) 44 [(0, .ref x), (1, .int (nI j)), (2, .int (nI i)), (3, .int (nI k)), (4, .int n)] [] S 0 0 := by
  have hs := hB.1
  obtain ⟨b1, b2, b3, b4, b5, b6, b7, b8, b9, b10⟩ := hs
  obtain ⟨f2, A0, f3, f4, f5, fP⟩ := hB.2.2.1
  obtain ⟨g2, A1, g3, g4, g5, gP⟩ := hB.2.2.2.1
  obtain ⟨p0, f6, fv, ⟨t0, ft, fT⟩, ⟨u0, fu, fU⟩, -⟩ := fP i hi
  obtain ⟨p1, g6, gv, ⟨t1, gt, gT⟩, ⟨u1, gu, gU⟩, -⟩ := gP k hk
  obtain ⟨c0, r1, r2⟩ := hB.2.2.2.2 j hj
  have hCb := r2.1
  obtain ⟨ka, zu, za, pp, ra, kp, np, -, -⟩ := hCb
  have z := q_90 (f := f) (Q := Q) (X := X) (n := n) hB ⟨r1, ka, ra, kp, np⟩ r2.1 hj hi hk ⟨f2.1, f3, f4, f5, f6, fv.1, fu, fU.1, fU.2.2.2.2.2⟩ ⟨g2.1, g3, g4, g5, g6, gv.1, gu, gU.1, gU.2.2.2.2.2⟩ ft fT.1 fT.2.2.2.2.2 ho
  have v0 : vp_in 0 (sN S aE) := by rw [b5]; exact in_0 (by decide)
  have v1 : vp_in 1 (sN S aE) := by rw [b5]; exact in_nI (i := 1) (by decide) (by decide)
  have vi : vp_in (nI i) (sN S A0) := by rw [f5]; exact in_nI hi (by decide)
  have vk : vp_in (nI k) (sN S A1) := by rw [g5]; exact in_nI hk (by decide)
  refine stp ?_
  show bX7_plug_44 Q X (wpn (kX7_plug Q X) (f + 1)) [(0, .ref x), (1, .int (nI j)), (2, .int (nI i)), (3, .int (nI k)), (4, .int n)] [] S 0 0
  unfold bX7_plug_44
  exact And.intro b1 (useR b2 (And.intro b4 (And.intro v0 (useR b8 (And.intro f2.1 (useR f3 (And.intro f4 (And.intro vi (useR (v := some p0) (by rw [cl_nI (by omega)]; exact f6) (And.intro ⟨by decide, by decide⟩ (s_isTaken0 fv (if0 (And.intro b1 (useR b2 (And.intro b4 (And.intro v1 (useR b9 (And.intro g2.1 (useR g3 (And.intro g4 (And.intro vk (useR (v := some p1) (by rw [cl_nI (by omega)]; exact g6) (And.intro ⟨by decide, by decide⟩ (s_isTaken0 gv (if0 z)))))))))))))))))))))))))
theorem s_plug {S : MM} {x aE aC e0 e1 : Nat} {v a b n : Int32} {Q : Option Value → MM → Prop} {X : String → MM → Prop} (hB : B0 S x aE aC e0 e1) (hb : gP v a b n → X eI S) (ho : ¬ gP v a b n → ∀ S', Ex S S' (Kc S) → Q none S') : wX7_plug [.ref x, .int v, .int a, .int b, .int n] S Q X := by
  have t : gP v a b n → ∀ lv, wpn (kX7_plug Q X) 3 34 lv [] S 0 0 := fun h _ => ⟨⟨by decide, by decide⟩, hb h⟩
  refine Exists.intro 4 (And.intro ⟨by decide, by decide⟩ (s_isCable (fun h => if0 (t (Or.inl h) _)) (fun j hj ej => if1 (And.intro ⟨by decide, by decide⟩ (s_isPort (fun h => if0 (t (Or.inr (Or.inl h)) _)) (fun i hi ei => if1 (And.intro ⟨by decide, by decide⟩ (s_isPort (fun h => if0 (t (Or.inr (Or.inr (Or.inl h))) _)) (fun k hk ek => if1 (And.intro (fun h => t (Or.inr (Or.inr (Or.inr (Or.inl h)))) _) (fun h0 => And.intro (fun h1 => ?_) (fun h => t (Or.inr (Or.inr (Or.inr (Or.inr h)))) _))))))))))))
  have nb := no_gP hj ej hi ei hk ek h0 h1
  subst ej ei ek
  exact q_44 (f := 1) hB hj hi hk (ho nb)
theorem s_Lplug {S : MM} {x aE aC e0 e1 : Nat} {v a b n : Int32} {Q : Option Value → MM → Prop} (hB : B0 S x aE aC e0 e1) (hb : gP v a b n → Q (some (.int 1)) S) (ho : ¬ gP v a b n → ∀ S', Ex S S' (Kc S) → Q (some (.int 0)) S') : wL_plug [.ref x, .int v, .int a, .int b, .int n] S Q := by
  refine Exists.intro 3 (And.intro hB.1.1 (And.intro ⟨by decide, by decide⟩ (s_plug hB (fun h q => ?_) (fun nb S' hS => ?_))))
  · rw [hd2_1]; exact hb h
  · exact ho nb S' hS
