-- tick of the class
theorem BT_x {S S' : MM} {x aE aC e0 e1 : Nat} (h : BT S x aE aC e0 e1) (e : Ex S S' (fun a => a = x)) (k : sK S' x = 8) (r : sR S' x = sR S x) : BT S' x aE aC e0 e1 := by
  obtain ⟨⟨b1, b2, b3, b4, b5, b6, b7, b8, b9, b10⟩, hE0, hE1, hC⟩ := h
  have st : ∀ a, sK S a ≠ 0 → sK S a ≠ 8 → RS S S' a := fun a h0 h8 => e a h0 (fun z => h8 (by rw [z]; exact b1))
  have re := st aE (by rw [b4]; decide) (by rw [b4]; decide)
  have rc := st aC (by rw [b6]; decide) (by rw [b6]; decide)
  refine ⟨⟨k, by rw [r]; exact b2, by rw [r]; exact b3, by rw [re.1]; exact b4, by rw [re.2.1]; exact b5, by rw [rc.1]; exact b6, by rw [rc.2.1]; exact b7, by rw [re.2.2.2.1]; exact b8, by rw [re.2.2.2.1]; exact b9, b10⟩, ?_, ?_, fun c hc => ?_⟩
  · exact E0_ext hE0 (st e0 (by rw [hE0.1.1]; decide) (by rw [hE0.1.1]; decide)) (fun a ha => st a (by rcases ha with q | q | q; rw [q]; decide; rw [q]; decide; rw [q.1]; decide) (by rcases ha with q | q | q; rw [q]; decide; rw [q]; decide; rw [q.1]; decide))
  · exact E0_ext hE1 (st e1 (by rw [hE1.1.1]; decide) (by rw [hE1.1.1]; decide)) (fun a ha => st a (by rcases ha with q | q | q; rw [q]; decide; rw [q]; decide; rw [q.1]; decide) (by rcases ha with q | q | q; rw [q]; decide; rw [q]; decide; rw [q.1]; decide))
  · obtain ⟨a, a1, a2⟩ := hC c hc
    exact ⟨a, by rw [rc.2.2.2.1]; exact a1, C0_ext a2 (st a (by rw [a2.1.1]; decide) (by rw [a2.1.1]; decide)) (fun a ha => st a (by rcases ha with q | q | q; rw [q]; decide; rw [q]; decide; rw [q.1]; decide) (by rcases ha with q | q | q; rw [q]; decide; rw [q]; decide; rw [q.1]; decide))⟩
theorem BT_pI {S : MM} {x aE aC e0 e1 j : Nat} {v : Int32} (h : BT S x aE aC e0 e1) : BT (pI S x j v) x aE aC e0 e1 := BT_x h ((Ex.rf (P := fun a => a = x)).pI (fun _ => rfl)) h.1.1 rfl
theorem s_rt79 {Q : Option Value → MM → Prop} {f x aE aC e0 e1 : Nat} {u v w : Int32} {S : MM} (hB : BT S x aE aC e0 e1) (h : Q none (pI S x 3 v)) : wpn (kX7_runTick Q) (f + 2) 79 [(2, .int u), (1, .int w), (0, .ref x)] [.int v, .ref x] S 0 0 := by
  have hB2 : BT (pI S x 3 v) x aE aC e0 e1 := BT_pI hB
  refine stp ?_
  show bX7_runTick_79 Q (wpn (kX7_runTick Q) (f + 1)) [(2, .int u), (1, .int w), (0, .ref x)] [.int v, .ref x] S 0 0
  unfold bX7_runTick_79
  exact And.intro hB.1.1 (And.intro hB2.1.1 (And.intro (fun _ => h) (fun _ => And.intro hB2.1.1 (And.intro ⟨by decide, by decide⟩ (s_isSettled0 hB2 (if1 h))))))
theorem s_rt45 {Q : Option Value → MM → Prop} {f x aE aC e0 e1 : Nat} {u w : Int32} {S : MM} (hB : BT S x aE aC e0 e1) (h : ∀ v t, Q none (pI (pI S x 2 v) x 3 t)) : wpn (kX7_runTick Q) (f + 4) 45 [(2, .int u), (1, .int w), (0, .ref x)] [] S 0 0 := by
  refine stp ?_
  show bX7_runTick_45 Q (wpn (kX7_runTick Q) (f + 3)) [(2, .int u), (1, .int w), (0, .ref x)] [] S 0 0
  unfold bX7_runTick_45
  refine And.intro hB.1.1 (And.intro ⟨by decide, by decide⟩ (s_stepAll0 hB (And.intro hB.1.1 (And.intro ⟨by decide, by decide⟩ (s_tellAll0 hB (And.intro hB.1.1 (And.intro hB.1.1 (if0 ?_))))))))
  refine stp ?_
  show bX7_runTick_73 Q (wpn (kX7_runTick Q) (f + 2)) [(2, .int 0), (1, .int w), (0, .ref x)] [.ref x] (pI S x 2 (sI S x 2 + 1)) 0 0
  unfold bX7_runTick_73
  exact And.intro hB.1.1 (s_rt79 (f := f) (BT_pI hB) (h _ _))
theorem s_rt36 {Q : Option Value → MM → Prop} {f x e : Nat} {u w v sys : Int32} {S : MM} (hE : E0 S e sys) (h : wpn (kX7_runTick Q) f 15 [(2, .int (u + 1)), (1, .int w), (0, .ref x)] [] S 0 0) : wpn (kX7_runTick Q) (f + 1) 36 [(2, .int u), (1, .int w), (0, .ref x)] [.int v, .ref e] S 0 0 := by
  refine stp ?_
  show bX7_runTick_36 Q (wpn (kX7_runTick Q) f) [(2, .int u), (1, .int w), (0, .ref x)] [.int v, .ref e] S 0 0
  unfold bX7_runTick_36
  exact And.intro hE.1.1 (And.intro ⟨by decide, by decide⟩ (s_formBundles0 hE h))
theorem s_rt35 {Q : Option Value → MM → Prop} {f x e : Nat} {u w : Int32} {S : MM} (h : wpn (kX7_runTick Q) f 36 [(2, .int u), (1, .int w), (0, .ref x)] [.int 0, .ref e] S 0 0) : wpn (kX7_runTick Q) (f + 1) 35 [(2, .int u), (1, .int w), (0, .ref x)] [.ref e] S 0 0 :=
  stp (show cI 0 (wpn (kX7_runTick Q) f 36) [(2, .int u), (1, .int w), (0, .ref x)] [.ref e] S 0 0 from stI0 h)
theorem s_runTick {S : MM} {x aE aC e0 e1 : Nat} {Q : Option Value → MM → Prop} (hB : BT S x aE aC e0 e1) (h : ∀ S', Ex S S' (fun a => a = x) → BT S' x aE aC e0 e1 → Q none S') : wX7_runTick [.ref x] S Q := by
  have hE0 := hB.2.1
  have hE1 := hB.2.2.1
  have b := hB.1
  obtain ⟨b1, b2, b3, b4, b5, b6, b7, b8, b9, b10⟩ := b
  have v0 : vp_in 0 (sN S aE) := by rw [b5]; exact in_0 (by decide)
  have v1 : vp_in (0 + 1) (sN S aE) := by rw [b5]; exact in_nI (i := 1) (by decide) (by decide)
  have K : ∀ v t, Q none (pI (pI S x 2 v) x 3 t) := fun v t => h _ (((Ex.rf (P := fun a => a = x)).pI (fun _ => rfl)).pI (fun _ => rfl)) (BT_pI (BT_pI hB))
  have k2 : wpn (kX7_runTick Q) 5 15 [(2, .int (0 + 1 + 1)), (1, .int 0), (0, .ref x)] [] S 0 0 := ifT (by decide) (s_rt45 (f := 0) hB K)
  have k1 : wpn (kX7_runTick Q) 8 15 [(2, .int (0 + 1)), (1, .int 0), (0, .ref x)] [] S 0 0 := ifF (by decide) (And.intro b1 (useR b2 (And.intro b4 (And.intro v1 (useR b9 (ifF (by decide) (s_rt35 (s_rt36 hE1 k2))))))))
  have k0 : wpn (kX7_runTick Q) 10 15 [(2, .int 0), (1, .int 0), (0, .ref x)] [] S 0 0 := ifF (by decide) (And.intro b1 (useR b2 (And.intro b4 (And.intro v0 (useR b8 (ifT rfl (s_rt36 hE0 k1)))))))
  exact Exists.intro 11 (And.intro b1 (And.intro ⟨by decide, by decide⟩ (s_bringAll0 hB (And.intro b1 (And.intro ⟨by decide, by decide⟩ (s_ageAll0 hB (And.intro b1 (And.intro ⟨by decide, by decide⟩ (s_strongerEnd0 hB k0)))))))))
theorem gl_tk {k : Kt} {x : Nat} {i u n : Int32} {S : MM} {c z : Nat} (h : k [(3, .int (i + 1)), (2, .int u), (0, .ref x), (1, .int n)] [] S c z) : inc 3 1 k [(3, .int i), (2, .int u), (0, .ref x), (1, .int n)] [] S c z := h
set_option maxRecDepth 20000 in
theorem s_tkL {Q : Option Value → MM → Prop} {X : String → MM → Prop} {x aE aC e0 e1 N : Nat} {u : Int32} (hu : u = 0) (hN : N < 2 ^ 31) : ∀ (n i : Nat) (S : MM), i + n = N → BT S x aE aC e0 e1 → (∀ S', Ex S S' (fun a => a = x) → Q (some (.int 0)) S') → wpn (kX7_tick Q X) (n + 2) 44 [(3, .int (nI i)), (2, .int u), (0, .ref x), (1, .int (nI N))] [] S 0 0 := by
  intro n
  induction n with
  | zero =>
    intro i S hi hB K
    have e8 : i = N := by omega
    subst e8
    have hE0 := hB.2.1.1
    have hE1 := hB.2.2.1.1
    obtain ⟨⟨b1, b2, b3, b4, b5, b6, b7, b8, b9, b10⟩, -⟩ := hB
    have v0 : vp_in 0 (sN S aE) := by rw [b5]; exact in_0 (by decide)
    have v1 : vp_in 1 (sN S aE) := by rw [b5]; exact in_nI (i := 1) (by decide) (by decide)
    refine ifT (Int32.le_refl _) (And.intro b1 (useR b2 (And.intro b4 (And.intro v0 (useR b8 (And.intro hE0.1 (And.intro b1 (useR b2 (And.intro b4 (And.intro v1 (useR b9 (And.intro hE1.1 ?_))))))))))))
    show Q (some (.int (sI S e0 3 + sI S e1 3 - u))) S
    rw [hE0.2.2.2.1, hE1.2.2.2.1, hu]
    exact K S Ex.rf
  | succ n ih =>
    intro i S hi hB K
    refine ifF (nI_ge (show i < N by omega) hN) (And.intro hB.1.1 (And.intro ⟨by decide, by decide⟩ (s_runTick hB (fun S1 e1 hB1 => ?_))))
    have nx := ih (i + 1) S1 (by omega) hB1 (fun S' e' => K S' (e1.tr e' (fun _ _ h => h) (fun _ _ h => h)))
    rw [← nI_1 i] at nx
    exact gl_tk nx
def tB (v : Int32) : Prop := v < 1 ∨ ¬ v ≤ 1000
theorem tB_rng {v : Int32} (h0 : ¬ v < 1) (h1 : v ≤ 1000) : ∃ k, k < 1001 ∧ v = nI k := rng (n := 1001) (by decide) (fun q => h0 (by
  rw [Int32.lt_iff_toInt_lt] at q ⊢
  have h3 : (0 : Int32).toInt = 0 := by decide
  have h4 : (1 : Int32).toInt = 1 := by decide
  omega)) (fun q => by
  have h1 := Int32.le_iff_toInt_le.mp h1
  have h2 := Int32.le_iff_toInt_le.mp q
  have h3 : (1000 : Int32).toInt = 1000 := by decide
  have h4 : (nI 1001).toInt = 1001 := by decide
  omega)
theorem s_tick {S : MM} {x aE aC e0 e1 : Nat} {v : Int32} {Q : Option Value → MM → Prop} {X : String → MM → Prop} (hB : B0 S x aE aC e0 e1) (hb : tB v → X eI S) (ho : ¬ tB v → ∀ S', Ex S S' (Kc S) → Q (some (.int 0)) S') : wX7_tick [.ref x, .int v] S Q X := by
  have hT : BT S x aE aC e0 e1 := ⟨hB.1, hB.2.2.1, hB.2.2.2.1, hB.2.2.2.2⟩
  have hE0 := hT.2.1.1
  have hE1 := hT.2.2.1.1
  have b := hB.1
  obtain ⟨b1, b2, b3, b4, b5, b6, b7, b8, b9, b10⟩ := b
  have v0 : vp_in 0 (sN S aE) := by rw [b5]; exact in_0 (by decide)
  have v1 : vp_in 1 (sN S aE) := by rw [b5]; exact in_nI (i := 1) (by decide) (by decide)
  by_cases h0 : v < 1
  · exact Exists.intro 3 (ifT h0 (And.intro ⟨by decide, by decide⟩ (hb (Or.inl h0))))
  · by_cases h1 : v ≤ 1000
    · obtain ⟨k, hk, e⟩ := tB_rng h0 h1
      have nb : ¬ tB v := fun q => q.elim h0 (fun z => z h1)
      have L := s_tkL (Q := Q) (X := X) (x := x) (u := sI S e0 3 + sI S e1 3) (N := k) (by rw [hE0.2.2.2.1, hE1.2.2.2.1]; rfl) (by omega) k 0 S (by omega) hT (fun S' e' => ho nb S' (e'.weak (fun a _ z => by rw [z]; exact Kc_of b1 (by decide))))
      subst e
      exact Exists.intro (k + 4) (ifF h0 (ifT h1 (And.intro b1 (useR b2 (And.intro b4 (And.intro v0 (useR b8 (And.intro hE0.1 (And.intro b1 (useR b2 (And.intro b4 (And.intro v1 (useR b9 (And.intro hE1.1 L))))))))))))))
    · exact Exists.intro 3 (ifF h0 (ifF h1 (And.intro ⟨by decide, by decide⟩ (hb (Or.inr h1)))))
theorem s_Ltick {S : MM} {x aE aC e0 e1 out : Nat} {v : Int32} {Q : Option Value → MM → Prop} (hB : B0 S x aE aC e0 e1) (o1 : sK S out = 18) (o2 : sN S out = 1) (hb : tB v → Q (some (.int 1)) S) (ho : ¬ tB v → ∀ S', Ex S S' (Kc S) → Q (some (.int 0)) (pJ S' out 0 (Int32.toInt64 0))) : wL_tick [.ref x, .int v, .ref out] S Q := by
  refine Exists.intro 3 (And.intro hB.1.1 (And.intro ⟨by decide, by decide⟩ (s_tick hB (fun h q => ?_) (fun h1 S' hS => ?_))))
  · rw [hd1_1]; exact hb h
  · have r := out_Kc o1 hS
    exact And.intro (by show sK S' out = 18; rw [r.1]; exact o1) (And.intro (by show vp_in 0 (sN S' out); rw [r.2.1, o2]; exact in_0 (by decide)) (ho h1 S' hS))
