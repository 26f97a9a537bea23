-- give
theorem s_gives0 {S : MM} {p : Nat} {u : Int32} {Q : Option Value → MM → Prop} (hv : P0v S p) (h : Q (some (.int 0)) S) : wX5_gives [.ref p, .int u] S Q :=
  Exists.intro 3 (And.intro hv.1 (And.intro (fun h0 => absurd h0 (by rw [hv.2.2.2.2.1]; decide)) (fun _ => And.intro (Or.inl rfl) h)))
set_option maxRecDepth 20000 in
theorem s_goL {Q : Option Value → MM → Prop} {S : MM} {e pa : Nat} {sys bv cv : Int32} (he : sK S e = 2) (hR : sR S e 0 = some pa) (hk : sK S pa = 17) (hN : sN S pa = 8) (hP : Ps S pa sys 8) (K : Q (some .null) S) : ∀ (n i : Nat), i + n = 8 → wpn (kX1_giverOf Q) (2 * n + 3) 5 [(4, .int (nI i)), (3, .int 0), (0, .ref e), (1, .int bv), (2, .int cv)] [] S 0 0 := by
  intro n
  induction n with
  | zero =>
    intro i hi
    have e8 : i = 8 := by omega
    subst e8
    exact And.intro (fun _ => if0 K) (fun h => absurd (by decide) h)
  | succ n ih =>
    intro i hi
    have hi8 : i < 8 := by omega
    obtain ⟨p, p1, p2⟩ := hP i hi8
    have hv : vp_in (nI i) (sN S pa) := by rw [hN]; exact in_nI hi8 (by decide)
    have p1' : sR S pa (nI i).toNatClampNeg = some p := by rw [cl_nI (by omega)]; exact p1
    have nx := ih (i + 1) (by omega)
    rw [← nI_1 i] at nx
    exact And.intro (fun h => absurd h (n8_ge hi8)) (fun _ => And.intro he (useR hR (And.intro hk (And.intro hv (useR p1' (And.intro p2.1.1 (And.intro ⟨by decide, by decide⟩ (s_gives0 p2.1 (if0 nx)))))))))
theorem st34 {k : Kt} {e : Nat} {bv cv : Int32} {S : MM} {c z : Nat} (h : k [(4, .int 0), (3, .int 0), (0, .ref e), (1, .int bv), (2, .int cv)] [] S c z) : cI 0 (stI 3 (cI 0 (stI 4 k))) [(0, .ref e), (1, .int bv), (2, .int cv)] [] S c z := h
theorem s_giverOf0 {S : MM} {e : Nat} {sys bv cv : Int32} {Q : Option Value → MM → Prop} (hE : E0 S e sys) (h : Q (some .null) S) : wX1_giverOf [.ref e, .int bv, .int cv] S Q := by
  obtain ⟨ev, pa, h1, h2, h3, h4⟩ := hE
  exact Exists.intro 20 (stp (show cI 0 (stI 3 (cI 0 (stI 4 (wpn (kX1_giverOf Q) 19 5)))) [(0, .ref e), (1, .int bv), (2, .int cv)] [] S 0 0 from st34 (s_goL ev.1 h1 h2 h3 h4 h 8 0 rfl)))
def gB (v n : Int32) : Prop := (v < 0 ∨ 2 ≤ v) ∨ (n < 0 ∨ ¬ n ≤ 255)
theorem s_give {S : MM} {x aE aC e0 e1 : Nat} {v b n u : Int32} {Q : Option Value → MM → Prop} {X : String → MM → Prop} (hB : B0 S x aE aC e0 e1) (hb : gB v n → X eI S) (ho : ∀ j, j < 2 → v = nI j → ¬ gB v n → Q (some (.int (-1))) S) : wX7_give [.ref x, .int v, .int b, .int n, .int u] S Q X := by
  obtain ⟨hs, hz, hE0, hE1, hC⟩ := hB
  obtain ⟨b1, b2, b3, b4, b5, b6, b7, b8, b9, b10⟩ := hs
  have t : gB v n → ((0 : Nat) + 1 ≤ 2 ∧ (0 : Nat) + 6 ≤ 13) ∧ X eI S := fun h => ⟨⟨by decide, by decide⟩, hb h⟩
  refine Exists.intro 5 (And.intro ⟨by decide, by decide⟩ (s_isEnd2 (fun h => if0 (t (Or.inl h))) (fun j hj e => if1 (And.intro (fun h => t (Or.inr (Or.inl h))) (fun h0 => And.intro (fun h1 => ?_) (fun h => t (Or.inr (Or.inr h))))))))
  have nb : ¬ gB v n := fun q => by
    rcases q with q | q | q
    · exact no_end q hj e
    · exact h0 q
    · exact q h1
  have hq := ho j hj e nb
  subst e
  have hen := en_at b8 b9 hj
  have hE : E0 S (if j = 0 then e0 else e1) (if j = 0 then 10 else 20) := by split; exact hE0; exact hE1
  exact And.intro b1 (useR b2 (And.intro b4 (And.intro (by rw [b5]; exact in_nI hj (by decide)) (useR hen (And.intro hE.1.1 (And.intro ⟨by decide, by decide⟩ (s_giverOf0 hE hq)))))))
theorem s_Lgive {S : MM} {x aE aC e0 e1 out : Nat} {v b n u : Int32} {Q : Option Value → MM → Prop} (hB : B0 S x aE aC e0 e1) (o1 : sK S out = 18) (o2 : sN S out = 1) (hb : gB v n → Q (some (.int 1)) S) (ho : ∀ j, j < 2 → v = nI j → ¬ gB v n → Q (some (.int 0)) (pJ S out 0 (Int32.toInt64 (-1)))) : wL_give [.ref x, .int v, .int b, .int n, .int u, .ref out] S Q := by
  refine Exists.intro 3 (And.intro hB.1.1 (And.intro ⟨by decide, by decide⟩ (s_give hB (fun h q => ?_) (fun j hj e nb => ?_))))
  · rw [hd1_1]; exact hb h
  · exact And.intro o1 (And.intro (by show vp_in 0 (sN S out); rw [o2]; exact in_0 (by decide)) (ho j hj e nb))
theorem st90 {k : Kt} {m : Nat} {j b n w u y : Int32} {S : MM} {c z : Nat} (h : k [(6, .int (y + 1)), (5, .int (u + 0)), (0, .ref m), (1, .int j), (2, .int b), (3, .int n), (4, .int w)] [] S c z) : bop (fun x y => x + y) (stI 5 (inc 6 1 k)) [(6, .int y), (5, .int u), (0, .ref m), (1, .int j), (2, .int b), (3, .int n), (4, .int w)] [.int 0, .int u] S c z := h
theorem g89 {Q : Option Value → MM → Prop} {f m : Nat} {j b n w u y : Int32} {S : MM} (h : wpn (kX8_give Q) f 45 [(6, .int (y + 1)), (5, .int (u + 0)), (0, .ref m), (1, .int j), (2, .int b), (3, .int n), (4, .int w)] [] S 0 0) : wpn (kX8_give Q) (f + 2) 89 [(6, .int y), (5, .int u), (0, .ref m), (1, .int j), (2, .int b), (3, .int n), (4, .int w)] [.int u] S 0 0 :=
  stp (show cI 0 (wpn (kX8_give Q) (f + 1) 90) [(6, .int y), (5, .int u), (0, .ref m), (1, .int j), (2, .int b), (3, .int n), (4, .int w)] [.int u] S 0 0 from stI0 (stp (show bop (fun x y => x + y) (stI 5 (inc 6 1 (wpn (kX8_give Q) f 45))) [(6, .int y), (5, .int u), (0, .ref m), (1, .int j), (2, .int b), (3, .int n), (4, .int w)] [.int 0, .int u] S 0 0 from st90 h)))
set_option maxRecDepth 20000 in
theorem s_MgL {Q : Option Value → MM → Prop} {S : MM} {m j : Nat} {bv n w : Int32} (hM : MF S m) (hj : j < 2) (K : Q (some (.int (-1))) S) : ∀ (r y : Nat) (u : Int32), y + r = 8 * j + 8 → u = 0 → wpn (kX8_give Q) (3 * r + 3) 45 [(6, .int (nI y)), (5, .int u), (0, .ref m), (1, .int (nI j)), (2, .int bv), (3, .int n), (4, .int w)] [] S 0 0 := by
  have hm := hM.1
  have e8 : (8 : Int32) * nI j + 8 = nI (8 * j + 8) := by
    rw [show (8 : Int32) = nI 8 from rfl, pk_mul, nI_add]
  obtain ⟨a, p, q, l, f, -⟩ := hM.2.2.1 12 (by decide)
  intro r
  induction r with
  | zero =>
    intro y u hy hu
    have ey : y = 8 * j + 8 := by omega
    subst ey
    exact ifT (by show (8 : Int32) * nI j + 8 ≤ nI (8 * j + 8); rw [e8]; exact Int32.le_refl _) (And.intro (fun _ => K) (fun h => absurd hu h))
  | succ r ih =>
    intro y u hy hu
    have hy2 : y < 8 * j + 8 := by omega
    have nx := ih (y + 1) (u + 0) (by omega) (by rw [hu]; rfl)
    rw [← nI_1 y] at nx
    have ez : sI S a (nI y).toNatClampNeg = -1 := by rw [f, cl_nI (by omega)]; unfold fM; rw [if_neg (by simp), if_pos ⟨by simp, by omega⟩]
    refine ifF (by show ¬ (8 : Int32) * nI j + 8 ≤ nI y; rw [e8]; exact nI_ge hy2 (by omega)) (And.intro (fun _ => g89 nx) (fun h0 => And.intro hm (useR p (And.intro q (And.intro (by rw [l]; exact in_nI (show y < 16 by omega) (by decide)) (And.intro (fun he => ?_) (fun _ => g89 nx)))))))
    exfalso
    have he2 : sI S a (nI y).toNatClampNeg = bv := he
    rw [ez] at he2
    exact h0 (by rw [← he2]; decide)
theorem st36 {k : Kt} {m : Nat} {j b n w : Int32} {S : MM} {c z : Nat} (h : k [(6, .int ((8 : Int32) * j)), (5, .int 0), (0, .ref m), (1, .int j), (2, .int b), (3, .int n), (4, .int w)] [] S c z) : cI 0 (stI 5 (cI 8 (ldI 1 (bop (fun x y => x * y) (stI 6 k))))) [(0, .ref m), (1, .int j), (2, .int b), (3, .int n), (4, .int w)] [] S c z := h
theorem s_Mgive {S : MM} {m : Nat} {v b n u : Int32} {Q : Option Value → MM → Prop} (hM : MF S m) (hb : gB v n → Q (some (.int 0)) (pI S m 0 1)) (ho : ∀ j, j < 2 → v = nI j → ¬ gB v n → Q (some (.int (-1))) S) : wX8_give [.ref m, .int v, .int b, .int n, .int u] S Q := by
  have hm := hM.1
  have hz := hM.2.1
  have hsame : pI S m 0 0 = S := pI_same (hz 0)
  have tb : sI (pI S m 0 1) m 0 ≤ 0 → False := fun h => by rw [sI_pI, up2_self] at h; exact absurd h (by decide)
  refine Exists.intro 31 (And.intro ⟨by decide, by decide⟩ (s_MisEnd (fun h => if0 (And.intro hm (And.intro hm (And.intro (fun h0 => (tb h0).elim) (fun _ => hb (Or.inl h)))))) (fun j hj e => if1 (And.intro (fun h => And.intro hm (And.intro hm (And.intro (fun h0 => (tb h0).elim) (fun _ => hb (Or.inr (Or.inl h)))))) (fun h0 => And.intro (fun h1 => ?_) (fun h => And.intro hm (And.intro hm (And.intro (fun h0 => (tb h0).elim) (fun _ => hb (Or.inr (Or.inr h)))))))))))
  have nb : ¬ gB v n := fun q => by
    rcases q with q | q | q
    · exact no_end q hj e
    · exact h0 q
    · exact q h1
  have hq := ho j hj e nb
  subst e
  refine And.intro hm ?_
  show ldA 0 _ [(0, .ref m), (1, .int (nI j)), (2, .int b), (3, .int n), (4, .int u)] [] (pI S m 0 0) 0 0
  rw [hsame]
  refine And.intro hm (And.intro (fun _ => ?_) (fun h => absurd (by rw [hz]; decide) h))
  have L := s_MgL (bv := b) (n := n) (w := u) hM hj hq 8 (8 * j) 0 rfl rfl
  have e8 : nI (8 * j) = (8 : Int32) * nI j := by rw [show (8 : Int32) = nI 8 from rfl, pk_mul]
  rw [e8] at L
  exact stp (show cI 0 (stI 5 (cI 8 (ldI 1 (bop (fun x y => x * y) (stI 6 (wpn (kX8_give Q) 27 45)))))) [(0, .ref m), (1, .int (nI j)), (2, .int b), (3, .int n), (4, .int u)] [] S 0 0 from st36 L)
theorem c_give {b : Nat} {xs : Nat → Int32} {S : MM} {x aE aC e0 e1 m out c z : Nat} (h : GG S x aE aC e0 e1 m out) (hc : c + 2 ≤ 600002) (hz : z + 13 ≤ 7302232) : wpn (kL_law b 5 xs) 10 712 [(4, .int 0), (3, .ref out), (2, .ref m), (1, .ref x), (0, .ref b)] [] S c z := by
  obtain ⟨hB, hM, ho1, ho2⟩ := h
  refine And.intro rfl (And.intro (v5 (i := 1) (by decide)) (And.intro rfl (And.intro (v5 (i := 2) (by decide)) (And.intro rfl (And.intro (v5 (i := 3) (by decide)) (And.intro rfl (And.intro (v5 (i := 4) (by decide)) (And.intro ⟨hc, hz⟩ (s_Lgive hB ho1 ho2 (fun hb => ?_) (fun j hj e nb => ?_))))))))))
  · refine And.intro rfl (And.intro (v5 (i := 1) (by decide)) (And.intro rfl (And.intro (v5 (i := 2) (by decide)) (And.intro rfl (And.intro (v5 (i := 3) (by decide)) (And.intro rfl (And.intro (v5 (i := 4) (by decide)) (And.intro hM.1 (And.intro ⟨hc, hz⟩ (s_Mgive hM (fun _ => And.intro hM.1 (And.intro ⟨hc, hz⟩ (s_thrown hM.1 ?_))) (fun j hj e nb => absurd hb nb)))))))))))
    rw [sI_pI, up2_self]
    exact And.intro (fun _ => And.intro (fun h => absurd h (by decide)) (fun _ => And.intro rfl (And.intro (fun _ => rfl) (fun h => absurd (by decide) h)))) (fun h => absurd rfl h)
  · have hM2 : MF (pJ S out 0 (Int32.toInt64 (-1))) m := MF_pJ hM ho1
    have jO : sJ (pJ S out 0 (Int32.toInt64 (-1))) out 0 = Int32.toInt64 (-1) := by rw [sJ_pJ, up2_self]
    have kO : sK (pJ S out 0 (Int32.toInt64 (-1))) out = 18 := ho1
    have nO : sN (pJ S out 0 (Int32.toInt64 (-1))) out = 1 := ho2
    generalize pJ S out 0 (Int32.toInt64 (-1)) = S2 at hM2 jO kO nO
    refine And.intro rfl (And.intro (v5 (i := 1) (by decide)) (And.intro rfl (And.intro (v5 (i := 2) (by decide)) (And.intro rfl (And.intro (v5 (i := 3) (by decide)) (And.intro rfl (And.intro (v5 (i := 4) (by decide)) (And.intro hM2.1 (And.intro ⟨hc, hz⟩ (s_Mgive hM2 (fun q => absurd q nb) (fun _ _ _ _ => ?_)))))))))))
    refine And.intro hM2.1 (And.intro ⟨hc, hz⟩ (s_thrown hM2.1 ?_))
    rw [hM2.2.1 0]
    refine And.intro (fun _ => And.intro (fun _ => And.intro kO (And.intro (by rw [nO]; exact in_0 (by decide)) ?_)) (fun h => absurd rfl h)) (fun h => absurd rfl h)
    show ifz (fun x => x = 0) _ _ _ [.int (lg_cmp (sJ S2 out 0) (Int32.toInt64 (-1)))] S2 _ _
    rw [jO, lg_self]
    exact And.intro (fun _ => And.intro rfl (And.intro (fun _ => rfl) (fun h => absurd (by decide) h))) (fun h => absurd rfl h)
