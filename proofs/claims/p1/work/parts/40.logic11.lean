-- light
theorem s_light {S : MM} {x aE aC e0 e1 : Nat} {v u : Int32} {Q : Option Value → MM → Prop} {X : String → MM → Prop} (hB : B0 S x aE aC e0 e1) (hb : v < 0 ∨ 8 ≤ v → X eI S) (ho : ∀ j, j < 8 → v = nI j → X eS S) : wX7_light [.ref x, .int v, .int u] S Q X := by
  obtain ⟨⟨b1, b2, b3, b4, b5, b6, b7, b8, b9, b10⟩, hz, hE0, hE1, hC⟩ := hB
  refine Exists.intro 3 (And.intro ⟨by decide, by decide⟩ (s_isCable (fun h => if0 (And.intro ⟨by decide, by decide⟩ (hb h))) (fun j hj e => if1 ?_)))
  obtain ⟨a, a1, a2⟩ := hC j hj
  subst e
  refine And.intro b1 (useR b3 (And.intro b6 (And.intro (by rw [b7]; exact in_nI hj (by decide)) (useR (v := some a) (by rw [cl_nI (by omega)]; exact a1) ?_))))
  exact And.intro a2.1.1 (And.intro ⟨by decide, by decide⟩ (s_isPlugged0 a2.1 (if0 (And.intro ⟨by decide, by decide⟩ (ho j hj rfl)))))
theorem s_Llight {S : MM} {x aE aC e0 e1 : Nat} {v u : Int32} {Q : Option Value → MM → Prop} (hB : B0 S x aE aC e0 e1) (hb : v < 0 ∨ 8 ≤ v → Q (some (.int 1)) S) (ho : ∀ j, j < 8 → v = nI j → Q (some (.int 2)) S) : wL_light [.ref x, .int v, .int u] S Q := by
  refine Exists.intro 3 (And.intro hB.1.1 (And.intro ⟨by decide, by decide⟩ (s_light hB (fun h q => ?_) (fun j hj e q => ?_))))
  · rw [hd2_1]; exact hb h
  · rw [hd2_2]; exact ho j hj e
theorem s_Mlight {S : MM} {m : Nat} {v u : Int32} {Q : Option Value → MM → Prop} (hM : MF S m) (hb : v < 0 ∨ 8 ≤ v → Q none (pI S m 0 1)) (ho : ∀ j, j < 8 → v = nI j → Q none (pI S m 0 2)) : wX8_light [.ref m, .int v, .int u] S Q := by
  have hm := hM.1
  obtain ⟨a, a1, a2, a3, a4, -⟩ := hM.2.2.1 24 (by decide)
  refine Exists.intro 5 (And.intro ⟨by decide, by decide⟩ (s_MisCable (fun h => if0 (And.intro hm (And.intro hm (And.intro (fun h0 => ?_) (fun _ => hb h))))) (fun j hj e => if1 ?_)))
  · rw [sI_pI, up2_self] at h0; exact absurd h0 (by decide)
  · subst e
    refine And.intro hm (useR a1 (And.intro a2 (And.intro (by rw [a3]; exact in_nI hj (by decide)) (And.intro (fun _ => And.intro hm (And.intro hm (And.intro (fun h0 => ?_) (fun _ => ho j hj rfl)))) (fun h0 => ?_)))))
    · rw [sI_pI, up2_self] at h0; exact absurd h0 (by decide)
    · exact absurd (by rw [a4]; rfl) h0
theorem c_lightM {f b : Nat} {xs : Nat → Int32} {S : MM} {x m out c z : Nat} {v u k : Int32} (hM : MF S m) (hc : c ≤ 600002) (hz : z ≤ 7302232) (hk : k = if v < 0 ∨ 8 ≤ v then 1 else 2) : wpn (kL_law b 5 xs) (f + 6) 579 [(5, .int k), (4, .int 0), (3, .ref out), (2, .ref m), (1, .ref x), (0, .ref b)] [.int u, .int v, .ref m] S c z := by
  refine And.intro hM.1 (And.intro ⟨hc, hz⟩ (s_Mlight hM (fun q => And.intro hM.1 (And.intro ⟨hc, hz⟩ (s_thrown hM.1 ?_))) (fun j hj e => And.intro hM.1 (And.intro ⟨hc, hz⟩ (s_thrown hM.1 ?_)))))
  · rw [if_pos q] at hk
    rw [sI_pI, up2_self, hk]
    exact And.intro (fun _ => And.intro rfl (And.intro (fun _ => rfl) (fun h => absurd (by decide) h))) (fun h => absurd rfl h)
  · rw [if_neg (fun q => no_8 q hj e)] at hk
    rw [sI_pI, up2_self, hk]
    exact And.intro (fun _ => And.intro rfl (And.intro (fun _ => rfl) (fun h => absurd (by decide) h))) (fun h => absurd rfl h)
-- lose
theorem s_lose {S : MM} {x aE aC e0 e1 : Nat} {v w n : Int32} {Q : Option Value → MM → Prop} {X : String → MM → Prop} (hB : B0 S x aE aC e0 e1) (hb : (v < 0 ∨ 2 ≤ v) ∨ (w < 0 ∨ 8 ≤ w) ∨ (n < 0 ∨ ¬ n ≤ 100) → X eI S) (ho : ∀ j i, j < 2 → v = nI j → i < 8 → w = nI i → ¬ n < 0 → n ≤ 100 → ∀ S', Ex S S' (Kc S) → Q none S') : wX7_lose [.ref x, .int v, .int w, .int n] S Q X := by
  obtain ⟨hs, hz, hE0, hE1, hC⟩ := hB
  obtain ⟨b1, b2, b3, b4, b5, b6, b7, b8, b9, b10⟩ := hs
  have t : (v < 0 ∨ 2 ≤ v) ∨ (w < 0 ∨ 8 ≤ w) ∨ (n < 0 ∨ ¬ n ≤ 100) → ((0 : Nat) + 1 ≤ 1 ∧ (0 : Nat) + 6 ≤ 6) ∧ X eI S := fun h => ⟨⟨by decide, by decide⟩, hb h⟩
  refine Exists.intro 3 (And.intro ⟨by decide, by decide⟩ (s_isEnd2 (fun h => if0 (t (Or.inl h))) (fun j hj e => if1 (And.intro ⟨by decide, by decide⟩ (s_isCable (fun h => if0 (t (Or.inr (Or.inl h)))) (fun i hi ei => if1 (And.intro (fun h => t (Or.inr (Or.inr (Or.inl h)))) (fun h1 => And.intro (fun h2 => ?_) (fun h => t (Or.inr (Or.inr (Or.inr h))))))))))))
  subst e ei
  obtain ⟨a, a1, a2⟩ := hC i hi
  obtain ⟨⟨c1, c2, c3, -⟩, -, ll, l1, l2, l3, l4⟩ := a2
  obtain ⟨l, p1, p2, p3⟩ := l4 j hj
  refine And.intro b1 (useR b3 (And.intro b6 (And.intro (by rw [b7]; exact in_nI hi (by decide)) (useR (v := some a) (by rw [cl_nI (by omega)]; exact a1) (And.intro c1 (useR l1 (And.intro l2 (And.intro (by rw [l3]; exact in_nI hj (by decide)) (useR (v := some l) (by rw [cl_nI (by omega)]; exact p1) (And.intro p2 (And.intro b1 (And.intro ⟨by decide, by decide⟩ ?_))))))))))))
  have st : ∀ a, sK S a ≠ 4 → RS S (pI S l 6 n) a := fun a ha => RS_pI (fun z => ha (by rw [z]; exact p2))
  refine s_nc (S := pI S l 6 n) ⟨b1, b2, b3, b4, b5, b6, b7, b8, b9, b10⟩ hE0.1.1 hE1.1.1 (fun c hc => ?_) ?_
  · obtain ⟨a, a1, a2⟩ := hC c hc
    exact ⟨a, a1, Cb0_ext a2.1 (st a (by rw [a2.1.1]; decide)) (fun a ha => st a (by rw [ha]; decide))⟩
  · exact ho j i hj rfl hi rfl h1 h2 _ ((Ex.rf.pI (fun _ => Kc_of p2 (by decide))).pI (fun _ => Kc_of b1 (by decide)))
theorem s_Llose {S : MM} {x aE aC e0 e1 : Nat} {v w n : Int32} {Q : Option Value → MM → Prop} (hB : B0 S x aE aC e0 e1) (hb : (v < 0 ∨ 2 ≤ v) ∨ (w < 0 ∨ 8 ≤ w) ∨ (n < 0 ∨ ¬ n ≤ 100) → Q (some (.int 1)) S) (ho : ∀ j i, j < 2 → v = nI j → i < 8 → w = nI i → ¬ n < 0 → n ≤ 100 → ∀ S', Ex S S' (Kc S) → Q (some (.int 0)) S') : wL_lose [.ref x, .int v, .int w, .int n] S Q := by
  refine Exists.intro 3 (And.intro hB.1.1 (And.intro ⟨by decide, by decide⟩ (s_lose hB (fun h q => ?_) (fun j i hj e hi ei h1 h2 S' hS => ho j i hj e hi ei h1 h2 S' hS))))
  rw [hd1_1]; exact hb h
theorem ix2 {i j : Nat} (hi : i < 8) (hj : j < 2) : (2 : Int32) * nI i + nI j = nI (2 * i + j) := by
  rw [show (2 : Int32) = nI 2 from rfl, pk_mul, nI_add]
theorem ix8 {i j : Nat} : (8 : Int32) * nI j + nI i = nI (8 * j + i) := by
  rw [show (8 : Int32) = nI 8 from rfl, pk_mul, nI_add]
theorem s_Mlose {S : MM} {m : Nat} {v w n : Int32} {Q : Option Value → MM → Prop} (hM : MF S m) (hb : (v < 0 ∨ 2 ≤ v) ∨ (w < 0 ∨ 8 ≤ w) ∨ (n < 0 ∨ ¬ n ≤ 100) → Q none (pI S m 0 1)) (ho : ∀ j i, j < 2 → v = nI j → i < 8 → w = nI i → ¬ n < 0 → n ≤ 100 → ∀ S', MR S S' m 0 → Q none S') : wX8_lose [.ref m, .int v, .int w, .int n] S Q := by
  have hm := hM.1
  obtain ⟨a, a1, a2, a3, a4, a5⟩ := hM.2.2.1 26 (by decide)
  have t : sI (pI S m 0 1) m 0 ≤ 0 → False := fun h => by rw [sI_pI, up2_self] at h; exact absurd h (by decide)
  refine Exists.intro 5 (And.intro ⟨by decide, by decide⟩ (s_MisEnd (fun h => if0 (And.intro hm (And.intro hm (And.intro (fun h0 => (t h0).elim) (fun _ => hb (Or.inl h)))))) (fun j hj e => if1 (And.intro ⟨by decide, by decide⟩ (s_MisCable (fun h => if0 (And.intro hm (And.intro hm (And.intro (fun h0 => (t h0).elim) (fun _ => hb (Or.inr (Or.inl h))))))) (fun i hi ei => if1 (And.intro (fun h => And.intro hm (And.intro hm (And.intro (fun h0 => (t h0).elim) (fun _ => hb (Or.inr (Or.inr (Or.inl h))))))) (fun h1 => And.intro (fun h2 => ?_) (fun h => And.intro hm (And.intro hm (And.intro (fun h0 => (t h0).elim) (fun _ => hb (Or.inr (Or.inr (Or.inr h)))))))))))))))
  subst e ei
  have hv : vp_in ((2 : Int32) * nI i + nI j) (sN S a) := by rw [ix2 hi hj, a3]; exact in_nI (show 2 * i + j < 16 by omega) (by decide)
  refine And.intro hm (And.intro hm (And.intro (fun _ => ?_) (fun h => absurd (by rw [sI_pI, up2_self]; decide) h)))
  refine And.intro hm (useR a1 (And.intro a2 (And.intro hv (And.intro hm (And.intro ⟨by decide, by decide⟩ (Exists.intro 1 (And.intro hm ?_)))))))
  refine ho j i hj rfl hi rfl h1 h2 _ ⟨rfl, rfl, rfl, ?_⟩
  rw [sI_pI, up2_ne (by simp), sI_pI, up2_ne (fun z => a5 z.1.symm), sI_pI, up2_self]
theorem c_lose {b : Nat} {xs : Nat → Int32} {S : MM} {x aE aC e0 e1 m out c z : Nat} (h : GG S x aE aC e0 e1 m out) (hc : c + 1 ≤ 600002) (hz : z + 6 ≤ 7302232) : wpn (kL_law b 5 xs) 9 596 [(4, .int 0), (3, .ref out), (2, .ref m), (1, .ref x), (0, .ref b)] [] S c z := by
  obtain ⟨hB, hM, ho1, ho2⟩ := h
  refine And.intro rfl (And.intro (v5 (i := 1) (by decide)) (And.intro rfl (And.intro (v5 (i := 2) (by decide)) (And.intro rfl (And.intro (v5 (i := 3) (by decide)) (And.intro ⟨hc, hz⟩ (s_Llose hB (fun hb => ?_) (fun j i hj e hi ei h1 h2 S' hS => ?_))))))))
  · refine And.intro rfl (And.intro (v5 (i := 1) (by decide)) (And.intro rfl (And.intro (v5 (i := 2) (by decide)) (And.intro rfl (And.intro (v5 (i := 3) (by decide)) (And.intro hM.1 (And.intro ⟨hc, hz⟩ (s_Mlose hM (fun _ => And.intro hM.1 (And.intro ⟨hc, hz⟩ (s_thrown hM.1 ?_))) (fun j i hj e hi ei h1 h2 => ?_)))))))))
    · rw [sI_pI, up2_self]
      exact And.intro (fun _ => And.intro rfl (And.intro (fun _ => rfl) (fun h => absurd (by decide) h))) (fun h => absurd rfl h)
    · rcases hb with q | q | q | q
      · exact (no_end q hj e).elim
      · exact (no_8 q hi ei).elim
      · exact absurd q h1
      · exact absurd h2 q
  · have hM2 : MF S' m := MF_Kc hM hS
    refine And.intro rfl (And.intro (v5 (i := 1) (by decide)) (And.intro rfl (And.intro (v5 (i := 2) (by decide)) (And.intro rfl (And.intro (v5 (i := 3) (by decide)) (And.intro hM2.1 (And.intro ⟨hc, hz⟩ (s_Mlose hM2 (fun q => ?_) (fun j i hj e hi ei h1 h2 S2 hR => ?_)))))))))
    · exfalso
      rcases q with q | q | q | q
      · exact no_end q hj e
      · exact no_8 q hi ei
      · exact absurd q h1
      · exact absurd h2 q
    · have km : sK S2 m = 9 := by rw [hR.1]; exact hM2.1
      refine And.intro km (And.intro ⟨hc, hz⟩ (s_thrown km ?_))
      rw [hR.2.2.2]
      exact And.intro (fun _ => And.intro rfl (And.intro (fun _ => rfl) (fun h => absurd (by decide) h))) (fun h => absurd rfl h)
