-- tick: the class
def BT (S : MM) (x aE aC e0 e1 : Nat) : Prop := B0s S x aE aC e0 e1 ∧ E0 S e0 10 ∧ E0 S e1 20 ∧ Cs S aC 8
theorem s_age0 {S : MM} {p : Nat} {Q : Option Value → MM → Prop} (hv : P0v S p) (h : Q none S) : wX5_age [.ref p] S Q := by
  obtain ⟨k0, k2, k3, k4, k5, k10, k11, k12, k16, k17⟩ := hv
  refine Exists.intro 3 (And.intro k0 (And.intro k0 (And.intro (Or.inl rfl) ?_)))
  show ldI 1 _ [(1, .int (sI S p 12)), (0, .ref p)] [] (pI S p 12 0) 0 0
  rw [pI_same k12]
  exact And.intro (fun _ => And.intro k0 (And.intro (fun h0 => absurd h0 (by rw [k3]; decide)) (fun _ => And.intro k0 (And.intro (fun h0 => absurd h0 (by rw [k3]; decide)) (fun _ => h))))) (fun h0 => absurd k12 h0)
theorem s_fits0 {S : MM} {p : Nat} {Q : Option Value → MM → Prop} (hv : P0v S p) (h : Q (some (.int 0)) S) : wX5_fits [.ref p] S Q := by
  obtain ⟨k0, k2, k3, k4, k5, k10, k11, k12, k16, k17⟩ := hv
  exact Exists.intro 4 (And.intro k0 (And.intro (fun h0 => absurd h0 (by rw [k3]; decide)) (fun _ => And.intro k0 (And.intro (fun h0 => absurd h0 (by rw [k3]; decide)) (fun _ => And.intro (Or.inl rfl) h)))))
theorem s_mustTell0 {S : MM} {p : Nat} {u : Int32} {Q : Option Value → MM → Prop} (hv : P0v S p) (h : Q (some (.int 0)) S) : wX5_mustTell [.ref p, .int u] S Q :=
  Exists.intro 4 (And.intro hv.1 (And.intro ⟨by decide, by decide⟩ (s_isLit0 hv (if0 (And.intro (Or.inl rfl) h)))))
theorem s_bundleOf0 {S : MM} {e pa i : Nat} {sys : Int32} {Q : Option Value → MM → Prop} (he : sK S e = 2) (hR : sR S e 0 = some pa) (hk : sK S pa = 17) (hN : sN S pa = 8) (hP : Ps S pa sys 8) (hi : i < 8) (h : Q (some (.int (-1))) S) : wX1_bundleOf [.ref e, .int (nI i)] S Q := by
  obtain ⟨p, p1, p2⟩ := hP i hi
  exact Exists.intro 3 (And.intro he (useR hR (And.intro hk (And.intro (by rw [hN]; exact in_nI hi (by decide)) (useR (v := some p) (by rw [cl_nI (by omega)]; exact p1) (And.intro p2.1.1 (And.intro ⟨by decide, by decide⟩ (s_fits0 p2.1 (if0 h)))))))))
theorem s_isSettledC {S : MM} {a : Nat} {Q : Option Value → MM → Prop} (hc : Cb0 S a) (h : Q (some (.int 1)) S) : wX0_isSettled [.ref a] S Q :=
  Exists.intro 4 (And.intro hc.1 (And.intro ⟨by decide, by decide⟩ (s_isPlugged0 hc (if0 (And.intro (Or.inr rfl) h)))))
theorem gl_ba0 {k : Kt} {x : Nat} {S : MM} {c z : Nat} (h : k [(1, .int 0), (0, .ref x)] [] S c z) : cI 0 (stI 1 k) [(0, .ref x)] [] S c z := h
theorem gl_ba79 {k : Kt} {x a : Nat} {i : Int32} {S : MM} {c z : Nat} (h : k [(1, .int (i + 1)), (2, .ref a), (0, .ref x)] [] S c z) : inc 1 1 k [(2, .ref a), (1, .int i), (0, .ref x)] [] S c z := h
theorem j_ba79 {Q : Option Value → MM → Prop} {f : Nat} {x a : Nat} {i : Int32} {S : MM} {c z : Nat} (h : wpn (kX7_bringAll Q) f 2 [(1, .int (i + 1)), (2, .ref a), (0, .ref x)] [] S c z) : wpn (kX7_bringAll Q) (f + 1) 79 [(2, .ref a), (1, .int i), (0, .ref x)] [] S c z :=
  stp (show inc 1 1 (wpn (kX7_bringAll Q) f 2) [(2, .ref a), (1, .int i), (0, .ref x)] [] S c z from gl_ba79 h)
set_option maxRecDepth 20000 in
theorem s_baL {Q : Option Value → MM → Prop} {x aC : Nat} {S : MM} (hx : sK S x = 8) (hR : sR S x 1 = some aC) (hk : sK S aC = 12) (hN : sN S aC = 8) (hC : Cs S aC 8) (K : Q none S) : ∀ (n i : Nat) (ex : Lv), i + n = 8 → (ex = [] ∨ ∃ w, ex = [(2, .ref w)]) → wpn (kX7_bringAll Q) (2 * n + 2) 2 ((1, .int (nI i)) :: (ex ++ [(0, .ref x)])) [] S 0 0 := by
  intro n
  induction n with
  | zero =>
    intro i ex hi hex
    have e8 : i = 8 := by omega
    subst e8
    rcases hex with rfl | ⟨w, rfl⟩
    · exact And.intro (fun _ => K) (fun h => absurd (by decide) h)
    · exact And.intro (fun _ => K) (fun h => absurd (by decide) h)
  | succ n ih =>
    intro i ex hi hex
    have hi8 : i < 8 := by omega
    obtain ⟨a, a1, a2⟩ := hC i hi8
    have hv : vp_in (nI i) (sN S aC) := by rw [hN]; exact in_nI hi8 (by decide)
    have a1' : sR S aC (nI i).toNatClampNeg = some a := by rw [cl_nI (by omega)]; exact a1
    have nx := ih (i + 1) [(2, .ref a)] (by omega) (Or.inr ⟨a, rfl⟩)
    rw [← nI_1 i] at nx
    rcases hex with rfl | ⟨w, rfl⟩
    · exact And.intro (fun h => absurd h (n8_ge hi8)) (fun _ => And.intro hx (useR hR (And.intro hk (And.intro hv (useR a1' (And.intro a2.1.1 (And.intro (fun _ => j_ba79 nx) (fun h => absurd a2.1.2.1 h))))))))
    · exact And.intro (fun h => absurd h (n8_ge hi8)) (fun _ => And.intro hx (useR hR (And.intro hk (And.intro hv (useR a1' (And.intro a2.1.1 (And.intro (fun _ => j_ba79 nx) (fun h => absurd a2.1.2.1 h))))))))
theorem s_bringAll0 {S : MM} {x aE aC e0 e1 : Nat} {Q : Option Value → MM → Prop} (hB : BT S x aE aC e0 e1) (h : Q none S) : wX7_bringAll [.ref x] S Q := by
  obtain ⟨⟨b1, b2, b3, b4, b5, b6, b7, b8, b9, b10⟩, hE0, hE1, hC⟩ := hB
  exact Exists.intro 19 (stp (show cI 0 (stI 1 (wpn (kX7_bringAll Q) 18 2)) [(0, .ref x)] [] S 0 0 from gl_ba0 (s_baL b1 b3 b6 b7 hC h 8 0 [] rfl (Or.inl rfl))))
theorem gl_is22 {k : Kt} {x : Nat} {i : Int32} {S : MM} {c z : Nat} (h : k [(1, .int (i + 1)), (0, .ref x)] [] S c z) : inc 1 1 k [(1, .int i), (0, .ref x)] [] S c z := h
theorem j_is22 {Q : Option Value → MM → Prop} {f : Nat} {x : Nat} {i : Int32} {S : MM} {c z : Nat} (h : wpn (kX7_isSettled Q) f 2 [(1, .int (i + 1)), (0, .ref x)] [] S c z) : wpn (kX7_isSettled Q) (f + 1) 22 [(1, .int i), (0, .ref x)] [] S c z :=
  stp (show inc 1 1 (wpn (kX7_isSettled Q) f 2) [(1, .int i), (0, .ref x)] [] S c z from gl_is22 h)
set_option maxRecDepth 20000 in
theorem s_isL {Q : Option Value → MM → Prop} {x aC : Nat} {S : MM} (hx : sK S x = 8) (hR : sR S x 1 = some aC) (hk : sK S aC = 12) (hN : sN S aC = 8) (hC : Cs S aC 8) (K : Q (some (.int 1)) S) : ∀ (n i : Nat), i + n = 8 → wpn (kX7_isSettled Q) (2 * n + 2) 2 [(1, .int (nI i)), (0, .ref x)] [] S 0 0 := by
  intro n
  induction n with
  | zero =>
    intro i hi
    have e8 : i = 8 := by omega
    subst e8
    exact And.intro (fun _ => And.intro (Or.inr rfl) K) (fun h => absurd (by decide) h)
  | succ n ih =>
    intro i hi
    have hi8 : i < 8 := by omega
    obtain ⟨a, a1, a2⟩ := hC i hi8
    have hv : vp_in (nI i) (sN S aC) := by rw [hN]; exact in_nI hi8 (by decide)
    have a1' : sR S aC (nI i).toNatClampNeg = some a := by rw [cl_nI (by omega)]; exact a1
    have nx := ih (i + 1) (by omega)
    rw [← nI_1 i] at nx
    exact And.intro (fun h => absurd h (n8_ge hi8)) (fun _ => And.intro hx (useR hR (And.intro hk (And.intro hv (useR a1' (And.intro a2.1.1 (And.intro ⟨by decide, by decide⟩ (s_isSettledC a2.1 (if1 (j_is22 nx)))))))))) 
theorem s_isSettled0 {S : MM} {x aE aC e0 e1 : Nat} {Q : Option Value → MM → Prop} (hB : BT S x aE aC e0 e1) (h : Q (some (.int 1)) S) : wX7_isSettled [.ref x] S Q := by
  obtain ⟨⟨b1, b2, b3, b4, b5, b6, b7, b8, b9, b10⟩, hE0, hE1, hC⟩ := hB
  exact Exists.intro 19 (stp (show cI 0 (stI 1 (wpn (kX7_isSettled Q) 18 2)) [(0, .ref x)] [] S 0 0 from gl_ba0 (s_isL b1 b3 b6 b7 hC h 8 0 rfl)))
theorem s_strongerEnd0 {S : MM} {x aE aC e0 e1 : Nat} {Q : Option Value → MM → Prop} (hB : BT S x aE aC e0 e1) (h : Q (some (.int 0)) S) : wX7_strongerEnd [.ref x] S Q := by
  obtain ⟨⟨b1, b2, b3, b4, b5, b6, b7, b8, b9, b10⟩, hE0, hE1, hC⟩ := hB
  have v0 : vp_in 0 (sN S aE) := by rw [b5]; exact in_0 (by decide)
  have v1 : vp_in 1 (sN S aE) := by rw [b5]; exact in_nI (i := 1) (by decide) (by decide)
  exact Exists.intro 3 (And.intro b1 (useR b2 (And.intro b4 (And.intro v0 (useR b8 (And.intro hE0.1.1 (And.intro b1 (useR b2 (And.intro b4 (And.intro v1 (useR b9 (And.intro hE1.1.1 (And.intro (fun h0 => absurd h0 (by rw [hE0.1.2.1, hE1.1.2.1]; decide)) (fun _ => h))))))))))))))
theorem gl_ag2a {k : Kt} {x : Nat} {j : Int32} {S : MM} {c z : Nat} (h : k [(2, .int 0), (1, .int j), (0, .ref x)] [] S c z) : cI 0 (stI 2 k) [(1, .int j), (0, .ref x)] [] S c z := h
theorem gl_ag2b {k : Kt} {x : Nat} {j u : Int32} {S : MM} {c z : Nat} (h : k [(2, .int 0), (1, .int j), (0, .ref x)] [] S c z) : cI 0 (stI 2 k) [(1, .int j), (2, .int u), (0, .ref x)] [] S c z := h
theorem gl_ag9 {k : Kt} {x : Nat} {i j : Int32} {S : MM} {c z : Nat} (h : k [(2, .int (i + 1)), (1, .int j), (0, .ref x)] [] S c z) : inc 2 1 k [(2, .int i), (1, .int j), (0, .ref x)] [] S c z := h
theorem gl_ag35 {k : Kt} {x : Nat} {i j : Int32} {S : MM} {c z : Nat} (h : k [(1, .int (j + 1)), (2, .int i), (0, .ref x)] [] S c z) : inc 1 1 k [(2, .int i), (1, .int j), (0, .ref x)] [] S c z := h
theorem j_ag35 {Q : Option Value → MM → Prop} {f : Nat} {x : Nat} {i j : Int32} {S : MM} {c z : Nat} (h : wpn (kX7_ageAll Q) f 2 [(1, .int (j + 1)), (2, .int i), (0, .ref x)] [] S c z) : wpn (kX7_ageAll Q) (f + 1) 35 [(2, .int i), (1, .int j), (0, .ref x)] [] S c z :=
  stp (show inc 1 1 (wpn (kX7_ageAll Q) f 2) [(2, .int i), (1, .int j), (0, .ref x)] [] S c z from gl_ag35 h)
set_option maxRecDepth 20000 in
theorem s_agI {Q : Option Value → MM → Prop} {f x aE : Nat} {S : MM} {e pa : Nat} {jv sys : Int32} (b1 : sK S x = 8) (b2 : sR S x 0 = some aE) (b4 : sK S aE = 13) (vj : vp_in jv (sN S aE)) (en : sR S aE jv.toNatClampNeg = some e) (hE : E0v S e sys) (r0 : sR S e 0 = some pa) (kp : sK S pa = 17) (np : sN S pa = 8) (hP : Ps S pa sys 8) (K : wpn (kX7_ageAll Q) f 35 [(2, .int (nI 8)), (1, .int jv), (0, .ref x)] [] S 0 0) : ∀ (n i : Nat), i + n = 8 → wpn (kX7_ageAll Q) (f + n + 1) 9 [(2, .int (nI i)), (1, .int jv), (0, .ref x)] [] S 0 0 := by
  intro n
  induction n with
  | zero =>
    intro i hi
    have e8 : i = 8 := by omega
    subst e8
    exact And.intro (fun _ => K) (fun h => absurd (by decide) h)
  | succ n ih =>
    intro i hi
    have hi8 : i < 8 := by omega
    obtain ⟨q, p1, p2⟩ := hP i hi8
    have hv : vp_in (nI i) (sN S pa) := by rw [np]; exact in_nI hi8 (by decide)
    have p1' : sR S pa (nI i).toNatClampNeg = some q := by rw [cl_nI (by omega)]; exact p1
    have nx := ih (i + 1) (by omega)
    rw [← nI_1 i] at nx
    exact And.intro (fun h => absurd h (n8_ge hi8)) (fun _ => And.intro b1 (useR b2 (And.intro b4 (And.intro vj (useR en (And.intro hE.1 (useR r0 (And.intro kp (And.intro hv (useR p1' (And.intro p2.1.1 (And.intro ⟨by decide, by decide⟩ (s_age0 p2.1 (gl_ag9 nx)))))))))))))) 
theorem s_ageAll0 {S : MM} {x aE aC e0 e1 : Nat} {Q : Option Value → MM → Prop} (hB : BT S x aE aC e0 e1) (h : Q none S) : wX7_ageAll [.ref x] S Q := by
  obtain ⟨⟨b1, b2, b3, b4, b5, b6, b7, b8, b9, b10⟩, ⟨hE0, pa0, r0, kp0, np0, hP0⟩, ⟨hE1, pa1, r1, kp1, np1, hP1⟩, hC⟩ := hB
  have v0 : vp_in 0 (sN S aE) := by rw [b5]; exact in_0 (by decide)
  have v1 : vp_in (0 + 1) (sN S aE) := by rw [b5]; exact in_nI (i := 1) (by decide) (by decide)
  have O2 : wpn (kX7_ageAll Q) 2 2 [(1, .int (0 + 1 + 1)), (2, .int (nI 8)), (0, .ref x)] [] S 0 0 := And.intro (fun _ => h) (fun h => absurd (by decide) h)
  have I1 := s_agI b1 b2 b4 v1 b9 hE1 r1 kp1 np1 hP1 (j_ag35 O2) 8 0 rfl
  have O1 : wpn (kX7_ageAll Q) 13 2 [(1, .int (0 + 1)), (2, .int (nI 8)), (0, .ref x)] [] S 0 0 := And.intro (fun h => absurd h (by decide)) (fun _ => gl_ag2b I1)
  have I0 := s_agI b1 b2 b4 v0 b8 hE0 r0 kp0 np0 hP0 (j_ag35 O1) 8 0 rfl
  have O0 : wpn (kX7_ageAll Q) 24 2 [(1, .int 0), (0, .ref x)] [] S 0 0 := And.intro (fun h => absurd h (by decide)) (fun _ => gl_ag2a I0)
  exact Exists.intro 25 (stp (show cI 0 (stI 1 (wpn (kX7_ageAll Q) 24 2)) [(0, .ref x)] [] S 0 0 from gl_ba0 O0))
theorem gl_st2a {k : Kt} {x : Nat} {j : Int32} {S : MM} {c z : Nat} (h : k [(2, .int 0), (1, .int j), (0, .ref x)] [] S c z) : cI 0 (stI 2 k) [(1, .int j), (0, .ref x)] [] S c z := h
theorem gl_st2b {k : Kt} {x p : Nat} {j u : Int32} {S : MM} {c z : Nat} (h : k [(2, .int 0), (1, .int j), (3, .ref p), (0, .ref x)] [] S c z) : cI 0 (stI 2 k) [(1, .int j), (2, .int u), (3, .ref p), (0, .ref x)] [] S c z := h
theorem gl_sti {k : Kt} {x p : Nat} {i j : Int32} {S : MM} {c z : Nat} (h : k [(2, .int (i + 1)), (3, .ref p), (1, .int j), (0, .ref x)] [] S c z) : inc 2 1 k [(3, .ref p), (2, .int i), (1, .int j), (0, .ref x)] [] S c z := h
theorem j_sti {Q : Option Value → MM → Prop} {f : Nat} {x p : Nat} {i j : Int32} {S : MM} {c z : Nat} (h : wpn (kX7_stepAll Q) f 9 [(2, .int (i + 1)), (3, .ref p), (1, .int j), (0, .ref x)] [] S c z) : wpn (kX7_stepAll Q) (f + 1) 48 [(3, .ref p), (2, .int i), (1, .int j), (0, .ref x)] [] S c z :=
  stp (show inc 2 1 (wpn (kX7_stepAll Q) f 9) [(3, .ref p), (2, .int i), (1, .int j), (0, .ref x)] [] S c z from gl_sti h)
theorem gl_sto {k : Kt} {x p : Nat} {i j : Int32} {S : MM} {c z : Nat} (h : k [(1, .int (j + 1)), (2, .int i), (3, .ref p), (0, .ref x)] [] S c z) : inc 1 1 k [(2, .int i), (3, .ref p), (1, .int j), (0, .ref x)] [] S c z := h
theorem j_sto {Q : Option Value → MM → Prop} {f : Nat} {x p : Nat} {i j : Int32} {S : MM} {c z : Nat} (h : wpn (kX7_stepAll Q) f 2 [(1, .int (j + 1)), (2, .int i), (3, .ref p), (0, .ref x)] [] S c z) : wpn (kX7_stepAll Q) (f + 1) 54 [(2, .int i), (3, .ref p), (1, .int j), (0, .ref x)] [] S c z :=
  stp (show inc 1 1 (wpn (kX7_stepAll Q) f 2) [(2, .int i), (3, .ref p), (1, .int j), (0, .ref x)] [] S c z from gl_sto h)
set_option maxRecDepth 20000 in
theorem s_stI {Q : Option Value → MM → Prop} {f x aE : Nat} {S : MM} {e pa : Nat} {jv sys : Int32} (b1 : sK S x = 8) (b2 : sR S x 0 = some aE) (b4 : sK S aE = 13) (vj : vp_in jv (sN S aE)) (en : sR S aE jv.toNatClampNeg = some e) (hE : E0v S e sys) (r0 : sR S e 0 = some pa) (kp : sK S pa = 17) (np : sN S pa = 8) (hP : Ps S pa sys 8) (K : ∀ p, wpn (kX7_stepAll Q) f 54 [(2, .int (nI 8)), (3, .ref p), (1, .int jv), (0, .ref x)] [] S 0 0) : ∀ (n i : Nat) (lv : Lv), i + n = 8 → ((lv = [(2, .int (nI i)), (1, .int jv), (0, .ref x)] ∧ i = 0) ∨ (∃ p, lv = [(2, .int (nI i)), (1, .int jv), (3, .ref p), (0, .ref x)] ∧ i = 0) ∨ ∃ p, lv = [(2, .int (nI i)), (3, .ref p), (1, .int jv), (0, .ref x)]) → wpn (kX7_stepAll Q) (f + 2 * n + 1) 9 lv [] S 0 0 := by
  intro n
  induction n with
  | zero =>
    intro i lv hi hl
    have e8 : i = 8 := by omega
    subst e8
    rcases hl with ⟨-, h⟩ | ⟨p, -, h⟩ | ⟨p, rfl⟩
    · omega
    · omega
    · exact And.intro (fun _ => K p) (fun h => absurd (by decide) h)
  | succ n ih =>
    intro i lv hi hl
    have hi8 : i < 8 := by omega
    obtain ⟨q, p1, p2⟩ := hP i hi8
    have hv : vp_in (nI i) (sN S pa) := by rw [np]; exact in_nI hi8 (by decide)
    have p1' : sR S pa (nI i).toNatClampNeg = some q := by rw [cl_nI (by omega)]; exact p1
    have nx := ih (i + 1) _ (by omega) (Or.inr (Or.inr ⟨q, rfl⟩))
    rw [← nI_1 i] at nx
    rcases hl with ⟨rfl, -⟩ | ⟨p, rfl, -⟩ | ⟨p, rfl⟩
    · exact And.intro (fun h => absurd h (n8_ge hi8)) (fun _ => And.intro b1 (useR b2 (And.intro b4 (And.intro vj (useR en (And.intro hE.1 (useR r0 (And.intro kp (And.intro hv (useR p1' (And.intro p2.1.1 (And.intro ⟨by decide, by decide⟩ (s_isLit0 p2.1 (if0 (j_sti nx))))))))))))))) 
    · exact And.intro (fun h => absurd h (n8_ge hi8)) (fun _ => And.intro b1 (useR b2 (And.intro b4 (And.intro vj (useR en (And.intro hE.1 (useR r0 (And.intro kp (And.intro hv (useR p1' (And.intro p2.1.1 (And.intro ⟨by decide, by decide⟩ (s_isLit0 p2.1 (if0 (j_sti nx))))))))))))))) 
    · exact And.intro (fun h => absurd h (n8_ge hi8)) (fun _ => And.intro b1 (useR b2 (And.intro b4 (And.intro vj (useR en (And.intro hE.1 (useR r0 (And.intro kp (And.intro hv (useR p1' (And.intro p2.1.1 (And.intro ⟨by decide, by decide⟩ (s_isLit0 p2.1 (if0 (j_sti nx))))))))))))))) 
theorem s_stepAll0 {S : MM} {x aE aC e0 e1 : Nat} {Q : Option Value → MM → Prop} (hB : BT S x aE aC e0 e1) (h : Q none S) : wX7_stepAll [.ref x] S Q := by
  obtain ⟨⟨b1, b2, b3, b4, b5, b6, b7, b8, b9, b10⟩, ⟨hE0, pa0, r0, kp0, np0, hP0⟩, ⟨hE1, pa1, r1, kp1, np1, hP1⟩, hC⟩ := hB
  have v0 : vp_in 0 (sN S aE) := by rw [b5]; exact in_0 (by decide)
  have v1 : vp_in (0 + 1) (sN S aE) := by rw [b5]; exact in_nI (i := 1) (by decide) (by decide)
  have O2 : ∀ p, wpn (kX7_stepAll Q) 2 2 [(1, .int (0 + 1 + 1)), (2, .int (nI 8)), (3, .ref p), (0, .ref x)] [] S 0 0 := fun p => And.intro (fun _ => h) (fun h => absurd (by decide) h)
  have I1 := s_stI b1 b2 b4 v1 b9 hE1 r1 kp1 np1 hP1 (fun p => j_sto (O2 p)) 8 0
  have O1 : ∀ p, wpn (kX7_stepAll Q) 21 2 [(1, .int (0 + 1)), (2, .int (nI 8)), (3, .ref p), (0, .ref x)] [] S 0 0 := fun p => And.intro (fun h => absurd h (by decide)) (fun _ => gl_st2b (I1 _ rfl (Or.inr (Or.inl ⟨p, rfl, rfl⟩))))
  have I0 := s_stI b1 b2 b4 v0 b8 hE0 r0 kp0 np0 hP0 (fun p => j_sto (O1 p)) 8 0
  have O0 : wpn (kX7_stepAll Q) 40 2 [(1, .int 0), (0, .ref x)] [] S 0 0 := And.intro (fun h => absurd h (by decide)) (fun _ => gl_st2a (I0 _ rfl (Or.inl ⟨rfl, rfl⟩)))
  exact Exists.intro 41 (stp (show cI 0 (stI 1 (wpn (kX7_stepAll Q) 40 2)) [(0, .ref x)] [] S 0 0 from gl_ba0 O0))
theorem gl_tl2a {k : Kt} {x : Nat} {j : Int32} {S : MM} {c z : Nat} (h : k [(3, .int 0), (2, .int j), (1, .int 0), (0, .ref x)] [] S c z) : cI 0 (stI 3 k) [(2, .int j), (1, .int 0), (0, .ref x)] [] S c z := h
theorem gl_tl2b {k : Kt} {x p : Nat} {j u : Int32} {S : MM} {c z : Nat} (h : k [(3, .int 0), (2, .int j), (4, .ref p), (1, .int 0), (0, .ref x)] [] S c z) : cI 0 (stI 3 k) [(2, .int j), (3, .int u), (4, .ref p), (1, .int 0), (0, .ref x)] [] S c z := h
theorem gl_tli {k : Kt} {x p : Nat} {i j : Int32} {S : MM} {c z : Nat} (h : k [(3, .int (i + 1)), (4, .ref p), (2, .int j), (1, .int 0), (0, .ref x)] [] S c z) : inc 3 1 k [(4, .ref p), (3, .int i), (2, .int j), (1, .int 0), (0, .ref x)] [] S c z := h
theorem j_tli {Q : Option Value → MM → Prop} {f : Nat} {x p : Nat} {i j : Int32} {S : MM} {c z : Nat} (h : wpn (kX7_tellAll Q) f 11 [(3, .int (i + 1)), (4, .ref p), (2, .int j), (1, .int 0), (0, .ref x)] [] S c z) : wpn (kX7_tellAll Q) (f + 1) 54 [(4, .ref p), (3, .int i), (2, .int j), (1, .int 0), (0, .ref x)] [] S c z :=
  stp (show inc 3 1 (wpn (kX7_tellAll Q) f 11) [(4, .ref p), (3, .int i), (2, .int j), (1, .int 0), (0, .ref x)] [] S c z from gl_tli h)
theorem gl_tlo {k : Kt} {x p : Nat} {i j : Int32} {S : MM} {c z : Nat} (h : k [(2, .int (j + 1)), (3, .int i), (4, .ref p), (1, .int 0), (0, .ref x)] [] S c z) : inc 2 1 k [(3, .int i), (4, .ref p), (2, .int j), (1, .int 0), (0, .ref x)] [] S c z := h
theorem j_tlo {Q : Option Value → MM → Prop} {f : Nat} {x p : Nat} {i j : Int32} {S : MM} {c z : Nat} (h : wpn (kX7_tellAll Q) f 4 [(2, .int (j + 1)), (3, .int i), (4, .ref p), (1, .int 0), (0, .ref x)] [] S c z) : wpn (kX7_tellAll Q) (f + 1) 60 [(3, .int i), (4, .ref p), (2, .int j), (1, .int 0), (0, .ref x)] [] S c z :=
  stp (show inc 2 1 (wpn (kX7_tellAll Q) f 4) [(3, .int i), (4, .ref p), (2, .int j), (1, .int 0), (0, .ref x)] [] S c z from gl_tlo h)
set_option maxRecDepth 20000 in
theorem s_tlI {Q : Option Value → MM → Prop} {f x aE : Nat} {S : MM} {e pa : Nat} {jv sys : Int32} (b1 : sK S x = 8) (b2 : sR S x 0 = some aE) (b4 : sK S aE = 13) (vj : vp_in jv (sN S aE)) (en : sR S aE jv.toNatClampNeg = some e) (hE : E0v S e sys) (r0 : sR S e 0 = some pa) (kp : sK S pa = 17) (np : sN S pa = 8) (hP : Ps S pa sys 8) (K : ∀ p, wpn (kX7_tellAll Q) f 60 [(3, .int (nI 8)), (4, .ref p), (2, .int jv), (1, .int 0), (0, .ref x)] [] S 0 0) : ∀ (n i : Nat) (lv : Lv), i + n = 8 → ((lv = [(3, .int (nI i)), (2, .int jv), (1, .int 0), (0, .ref x)] ∧ i = 0) ∨ (∃ p, lv = [(3, .int (nI i)), (2, .int jv), (4, .ref p), (1, .int 0), (0, .ref x)] ∧ i = 0) ∨ ∃ p, lv = [(3, .int (nI i)), (4, .ref p), (2, .int jv), (1, .int 0), (0, .ref x)]) → wpn (kX7_tellAll Q) (f + 2 * n + 1) 11 lv [] S 0 0 := by
  intro n
  induction n with
  | zero =>
    intro i lv hi hl
    have e8 : i = 8 := by omega
    subst e8
    rcases hl with ⟨-, h⟩ | ⟨p, -, h⟩ | ⟨p, rfl⟩
    · omega
    · omega
    · exact And.intro (fun _ => K p) (fun h => absurd (by decide) h)
  | succ n ih =>
    intro i lv hi hl
    have hi8 : i < 8 := by omega
    obtain ⟨q, p1, p2⟩ := hP i hi8
    have hv : vp_in (nI i) (sN S pa) := by rw [np]; exact in_nI hi8 (by decide)
    have p1' : sR S pa (nI i).toNatClampNeg = some q := by rw [cl_nI (by omega)]; exact p1
    have nx := ih (i + 1) _ (by omega) (Or.inr (Or.inr ⟨q, rfl⟩))
    rw [← nI_1 i] at nx
    rcases hl with ⟨rfl, -⟩ | ⟨p, rfl, -⟩ | ⟨p, rfl⟩
    · exact And.intro (fun h => absurd h (n8_ge hi8)) (fun _ => And.intro b1 (useR b2 (And.intro b4 (And.intro vj (useR en (And.intro hE.1 (useR r0 (And.intro kp (And.intro hv (useR p1' (And.intro b1 (And.intro p2.1.1 (And.intro ⟨by decide, by decide⟩ (s_mustTell0 p2.1 (if0 (j_tli nx)))))))))))))))) 
    · exact And.intro (fun h => absurd h (n8_ge hi8)) (fun _ => And.intro b1 (useR b2 (And.intro b4 (And.intro vj (useR en (And.intro hE.1 (useR r0 (And.intro kp (And.intro hv (useR p1' (And.intro b1 (And.intro p2.1.1 (And.intro ⟨by decide, by decide⟩ (s_mustTell0 p2.1 (if0 (j_tli nx)))))))))))))))) 
    · exact And.intro (fun h => absurd h (n8_ge hi8)) (fun _ => And.intro b1 (useR b2 (And.intro b4 (And.intro vj (useR en (And.intro hE.1 (useR r0 (And.intro kp (And.intro hv (useR p1' (And.intro b1 (And.intro p2.1.1 (And.intro ⟨by decide, by decide⟩ (s_mustTell0 p2.1 (if0 (j_tli nx)))))))))))))))) 
theorem gl_tl0 {k : Kt} {x : Nat} {S : MM} {c z : Nat} (h : k [(2, .int 0), (1, .int 0), (0, .ref x)] [] S c z) : cI 0 (stI 1 (cI 0 (stI 2 k))) [(0, .ref x)] [] S c z := h
theorem s_tellAll0 {S : MM} {x aE aC e0 e1 : Nat} {Q : Option Value → MM → Prop} (hB : BT S x aE aC e0 e1) (h : Q (some (.int 0)) S) : wX7_tellAll [.ref x] S Q := by
  obtain ⟨⟨b1, b2, b3, b4, b5, b6, b7, b8, b9, b10⟩, ⟨hE0, pa0, r0, kp0, np0, hP0⟩, ⟨hE1, pa1, r1, kp1, np1, hP1⟩, hC⟩ := hB
  have v0 : vp_in 0 (sN S aE) := by rw [b5]; exact in_0 (by decide)
  have v1 : vp_in (0 + 1) (sN S aE) := by rw [b5]; exact in_nI (i := 1) (by decide) (by decide)
  have O2 : ∀ p, wpn (kX7_tellAll Q) 2 4 [(2, .int (0 + 1 + 1)), (3, .int (nI 8)), (4, .ref p), (1, .int 0), (0, .ref x)] [] S 0 0 := fun p => And.intro (fun _ => And.intro (Or.inl rfl) h) (fun h => absurd (by decide) h)
  have I1 := s_tlI b1 b2 b4 v1 b9 hE1 r1 kp1 np1 hP1 (fun p => j_tlo (O2 p)) 8 0
  have O1 : ∀ p, wpn (kX7_tellAll Q) 21 4 [(2, .int (0 + 1)), (3, .int (nI 8)), (4, .ref p), (1, .int 0), (0, .ref x)] [] S 0 0 := fun p => And.intro (fun h => absurd h (by decide)) (fun _ => gl_tl2b (I1 _ rfl (Or.inr (Or.inl ⟨p, rfl, rfl⟩))))
  have I0 := s_tlI b1 b2 b4 v0 b8 hE0 r0 kp0 np0 hP0 (fun p => j_tlo (O1 p)) 8 0
  have O0 : wpn (kX7_tellAll Q) 40 4 [(2, .int 0), (1, .int 0), (0, .ref x)] [] S 0 0 := And.intro (fun h => absurd h (by decide)) (fun _ => gl_tl2a (I0 _ rfl (Or.inl ⟨rfl, rfl⟩)))
  exact Exists.intro 41 (stp (show cI 0 (stI 1 (cI 0 (stI 2 (wpn (kX7_tellAll Q) 40 4)))) [(0, .ref x)] [] S 0 0 from gl_tl0 O0))
theorem gl_fb49 {k : Kt} {e p : Nat} {i u w : Int32} {S : MM} {c z : Nat} (h : k [(2, .int (i + 1)), (4, .int u), (3, .ref p), (0, .ref e), (1, .int w)] [] S c z) : inc 2 1 k [(4, .int u), (3, .ref p), (2, .int i), (0, .ref e), (1, .int w)] [] S c z := h
theorem j_fb49 {Q : Option Value → MM → Prop} {f : Nat} {e p : Nat} {i w : Int32} {S : MM} (hk : sK S p = 6) (h10 : sI S p 10 = -1) (h : wpn (kX1_formBundles Q) f 2 [(2, .int (i + 1)), (4, .int (-1)), (3, .ref p), (0, .ref e), (1, .int w)] [] S 0 0) : wpn (kX1_formBundles Q) (f + 1) 49 [(4, .int (-1)), (3, .ref p), (2, .int i), (0, .ref e), (1, .int w)] [] S 0 0 :=
  stp (show ldA 3 (ldI 4 (tI 5 10 (inc 2 1 (wpn (kX1_formBundles Q) f 2)))) [(4, .int (-1)), (3, .ref p), (2, .int i), (0, .ref e), (1, .int w)] [] S 0 0 from And.intro hk (by
    show inc 2 1 _ [(4, .int (-1)), (3, .ref p), (2, .int i), (0, .ref e), (1, .int w)] [] (pI S p 10 (-1)) 0 0
    rw [pI_same h10]
    exact gl_fb49 h))
set_option maxRecDepth 20000 in
theorem s_fb1 {Q : Option Value → MM → Prop} {f e pa : Nat} {sys w : Int32} {S : MM} (he : sK S e = 2) (hR : sR S e 0 = some pa) (hk : sK S pa = 17) (hN : sN S pa = 8) (hP : Ps S pa sys 8) (K : ∀ p, wpn (kX1_formBundles Q) f 61 [(2, .int (nI 8)), (4, .int (-1)), (3, .ref p), (0, .ref e), (1, .int w)] [] S 0 0) : ∀ (n i : Nat) (ex : Lv), i + n = 8 → ((ex = [] ∧ i = 0) ∨ ∃ p, ex = [(4, .int (-1)), (3, .ref p)]) → wpn (kX1_formBundles Q) (f + 2 * n + 1) 2 ((2, .int (nI i)) :: (ex ++ [(0, .ref e), (1, .int w)])) [] S 0 0 := by
  intro n
  induction n with
  | zero =>
    intro i ex hi hex
    have e8 : i = 8 := by omega
    subst e8
    rcases hex with ⟨-, h⟩ | ⟨p, rfl⟩
    · omega
    · exact And.intro (fun _ => K p) (fun h => absurd (by decide) h)
  | succ n ih =>
    intro i ex hi hex
    have hi8 : i < 8 := by omega
    obtain ⟨q, p1, p2⟩ := hP i hi8
    have hv : vp_in (nI i) (sN S pa) := by rw [hN]; exact in_nI hi8 (by decide)
    have p1' : sR S pa (nI i).toNatClampNeg = some q := by rw [cl_nI (by omega)]; exact p1
    have nx := ih (i + 1) _ (by omega) (Or.inr ⟨q, rfl⟩)
    rw [← nI_1 i] at nx
    have nx2 := j_fb49 p2.1.1 p2.1.2.2.2.2.2.1 nx
    rcases hex with ⟨rfl, -⟩ | ⟨p, rfl⟩
    · exact And.intro (fun h => absurd h (n8_ge hi8)) (fun _ => And.intro he (useR hR (And.intro hk (And.intro hv (useR p1' (And.intro he (And.intro ⟨by decide, by decide⟩ (s_bundleOf0 he hR hk hN hP hi8 (And.intro p2.1.1 (And.intro (fun h0 => absurd h0 (by rw [p2.1.2.2.2.2.1]; decide)) (fun _ => nx2)))))))))))
    · exact And.intro (fun h => absurd h (n8_ge hi8)) (fun _ => And.intro he (useR hR (And.intro hk (And.intro hv (useR p1' (And.intro he (And.intro ⟨by decide, by decide⟩ (s_bundleOf0 he hR hk hN hP hi8 (And.intro p2.1.1 (And.intro (fun h0 => absurd h0 (by rw [p2.1.2.2.2.2.1]; decide)) (fun _ => nx2)))))))))))
theorem gl_fb103 {k : Kt} {e p : Nat} {i w : Int32} {S : MM} {c z : Nat} (h : k [(2, .int (i + 1)), (3, .ref p), (4, .int (-1)), (0, .ref e), (1, .int w)] [] S c z) : inc 2 1 k [(3, .ref p), (2, .int i), (4, .int (-1)), (0, .ref e), (1, .int w)] [] S c z := h
theorem j_fb103 {Q : Option Value → MM → Prop} {f : Nat} {e p : Nat} {i w : Int32} {S : MM} (hk : sK S p = 6) (h11 : sI S p 11 = 0) (h : wpn (kX1_formBundles Q) f 63 [(2, .int (i + 1)), (3, .ref p), (4, .int (-1)), (0, .ref e), (1, .int w)] [] S 0 0) : wpn (kX1_formBundles Q) (f + 1) 103 [(3, .ref p), (2, .int i), (4, .int (-1)), (0, .ref e), (1, .int w)] [.int 0, .ref p] S 0 0 :=
  stp (show tZ 5 11 (inc 2 1 (wpn (kX1_formBundles Q) f 63)) [(3, .ref p), (2, .int i), (4, .int (-1)), (0, .ref e), (1, .int w)] [.int 0, .ref p] S 0 0 from And.intro hk (And.intro (Or.inl rfl) (by
    show inc 2 1 _ [(3, .ref p), (2, .int i), (4, .int (-1)), (0, .ref e), (1, .int w)] [] (pI S p 11 0) 0 0
    rw [pI_same h11]
    exact gl_fb103 h)))
theorem j_fb102 {Q : Option Value → MM → Prop} {f : Nat} {e p : Nat} {i w : Int32} {S : MM} (hk : sK S p = 6) (h11 : sI S p 11 = 0) (h : wpn (kX1_formBundles Q) f 63 [(2, .int (i + 1)), (3, .ref p), (4, .int (-1)), (0, .ref e), (1, .int w)] [] S 0 0) : wpn (kX1_formBundles Q) (f + 2) 102 [(3, .ref p), (2, .int i), (4, .int (-1)), (0, .ref e), (1, .int w)] [.ref p] S 0 0 :=
  stp (show cI 0 (wpn (kX1_formBundles Q) (f + 1) 103) [(3, .ref p), (2, .int i), (4, .int (-1)), (0, .ref e), (1, .int w)] [.ref p] S 0 0 from stI0 (j_fb103 hk h11 h))
set_option maxRecDepth 20000 in
theorem s_fb2 {Q : Option Value → MM → Prop} {f e pa : Nat} {sys w : Int32} {S : MM} (he : sK S e = 2) (hR : sR S e 0 = some pa) (hk : sK S pa = 17) (hN : sN S pa = 8) (hP : Ps S pa sys 8) (K : Q none S) : ∀ (n i : Nat) (ex : Lv), i + n = 8 → ((∃ p, ex = [(4, .int (-1)), (3, .ref p)]) ∨ ∃ p, ex = [(3, .ref p), (4, .int (-1))]) → wpn (kX1_formBundles Q) (f + 3 * n + 2) 63 ((2, .int (nI i)) :: (ex ++ [(0, .ref e), (1, .int w)])) [] S 0 0 := by
  intro n
  induction n with
  | zero =>
    intro i ex hi hex
    have e8 : i = 8 := by omega
    subst e8
    rcases hex with ⟨p, rfl⟩ | ⟨p, rfl⟩
    · exact And.intro (fun _ => K) (fun h => absurd (by decide) h)
    · exact And.intro (fun _ => K) (fun h => absurd (by decide) h)
  | succ n ih =>
    intro i ex hi hex
    have hi8 : i < 8 := by omega
    obtain ⟨q, p1, p2⟩ := hP i hi8
    have hv : vp_in (nI i) (sN S pa) := by rw [hN]; exact in_nI hi8 (by decide)
    have p1' : sR S pa (nI i).toNatClampNeg = some q := by rw [cl_nI (by omega)]; exact p1
    have nx := ih (i + 1) _ (by omega) (Or.inr ⟨q, rfl⟩)
    rw [← nI_1 i] at nx
    have nx2 := j_fb102 p2.1.1 p2.1.2.2.2.2.2.2.1 nx
    rcases hex with ⟨p, rfl⟩ | ⟨p, rfl⟩
    · exact And.intro (fun h => absurd h (n8_ge hi8)) (fun _ => And.intro he (useR hR (And.intro hk (And.intro hv (useR p1' (And.intro p2.1.1 (And.intro (fun _ => nx2) (fun h0 => absurd p2.1.2.2.2.2.2.1 h0))))))))
    · exact And.intro (fun h => absurd h (n8_ge hi8)) (fun _ => And.intro he (useR hR (And.intro hk (And.intro hv (useR p1' (And.intro p2.1.1 (And.intro (fun _ => nx2) (fun h0 => absurd p2.1.2.2.2.2.2.1 h0))))))))
theorem gl_fb61 {k : Kt} {e p : Nat} {i w : Int32} {S : MM} {c z : Nat} (h : k [(2, .int 0), (4, .int (-1)), (3, .ref p), (0, .ref e), (1, .int w)] [] S c z) : cI 0 (stI 2 k) [(2, .int i), (4, .int (-1)), (3, .ref p), (0, .ref e), (1, .int w)] [] S c z := h
theorem j_fb61 {Q : Option Value → MM → Prop} {f : Nat} {e p : Nat} {i w : Int32} {S : MM} {c z : Nat} (h : wpn (kX1_formBundles Q) f 63 [(2, .int 0), (4, .int (-1)), (3, .ref p), (0, .ref e), (1, .int w)] [] S c z) : wpn (kX1_formBundles Q) (f + 1) 61 [(2, .int i), (4, .int (-1)), (3, .ref p), (0, .ref e), (1, .int w)] [] S c z :=
  stp (show cI 0 (stI 2 (wpn (kX1_formBundles Q) f 63)) [(2, .int i), (4, .int (-1)), (3, .ref p), (0, .ref e), (1, .int w)] [] S c z from gl_fb61 h)
theorem gl_fb0 {k : Kt} {e : Nat} {w : Int32} {S : MM} {c z : Nat} (h : k [(2, .int 0), (0, .ref e), (1, .int w)] [] S c z) : cI 0 (stI 2 k) [(0, .ref e), (1, .int w)] [] S c z := h
theorem s_formBundles0 {S : MM} {e : Nat} {sys w : Int32} {Q : Option Value → MM → Prop} (hE : E0 S e sys) (h : Q none S) : wX1_formBundles [.ref e, .int w] S Q := by
  obtain ⟨ev, pa, h1, h2, h3, h4⟩ := hE
  have L2 : ∀ p, wpn (kX1_formBundles Q) 26 63 [(2, .int 0), (4, .int (-1)), (3, .ref p), (0, .ref e), (1, .int w)] [] S 0 0 := fun p => s_fb2 (f := 0) (w := w) ev.1 h1 h2 h3 h4 h 8 0 _ rfl (Or.inl ⟨p, rfl⟩)
  have L1 := s_fb1 (w := w) ev.1 h1 h2 h3 h4 (fun p => j_fb61 (L2 p)) 8 0 [] rfl (Or.inl ⟨rfl, rfl⟩)
  exact Exists.intro 45 (stp (show cI 0 (stI 2 (wpn (kX1_formBundles Q) 44 2)) [(0, .ref e), (1, .int w)] [] S 0 0 from gl_fb0 L1))
