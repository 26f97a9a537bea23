theorem s_Lport {S : MM} {x aE aC e0 e1 : Nat} {v w k n : Int32} {Q : Option Value → MM → Prop} (hB : B0 S x aE aC e0 e1) (hb : pB v w k n → Q (some (.int 1)) S) (ho : ¬ pB v w k n → ∀ S', Ex S S' (Kc S) → Q (some (.int 0)) S') : wL_port [.ref x, .int v, .int w, .int k, .int n] S Q := by
  refine Exists.intro 3 (And.intro hB.1.1 (And.intro ⟨by decide, by decide⟩ (s_port hB (fun h q => ?_) (fun h S' hS => ho h S' hS))))
  rw [hd1_1]; exact hb h
theorem s_Mport {S : MM} {m : Nat} {v w k n : Int32} {Q : Option Value → MM → Prop} (hM : MF S m) (hb : pB v w k n → Q none (pI S m 0 1)) (ho : ¬ pB v w k n → ∀ S', MR S S' m 0 → Q none S') : wX8_port [.ref m, .int v, .int w, .int k, .int n] S Q := by
  have hm := hM.1
  obtain ⟨a, a1, a2, a3, a4, a5⟩ := hM.2.2.1 3 (by decide)
  obtain ⟨d, d1, d2, d3, d4, d5⟩ := hM.2.2.1 4 (by decide)
  have t : sI (pI S m 0 1) m 0 ≤ 0 → False := fun h => by rw [sI_pI, up2_self] at h; exact absurd h (by decide)
  refine Exists.intro 5 (And.intro ⟨by decide, by decide⟩ (s_MisEnd (fun h => if0 (And.intro hm (And.intro hm (And.intro (fun h0 => (t h0).elim) (fun _ => hb (Or.inl h)))))) (fun j hj e => if1 (And.intro ⟨by decide, by decide⟩ (s_MisPort (fun h => if0 (And.intro hm (And.intro hm (And.intro (fun h0 => (t h0).elim) (fun _ => hb (Or.inr (Or.inl h))))))) (fun i hi ei => if1 ?_))))))
  refine And.intro (fun h => And.intro hm (And.intro hm (And.intro (fun h0 => (t h0).elim) (fun _ => hb (Or.inr (Or.inr (Or.inl (Or.inl h)))))))) (fun k1 => And.intro (fun h => And.intro hm (And.intro hm (And.intro (fun h0 => (t h0).elim) (fun _ => hb (Or.inr (Or.inr (Or.inl (Or.inr h)))))))) (fun k2 => And.intro (fun h => And.intro hm (And.intro hm (And.intro (fun h0 => (t h0).elim) (fun _ => hb (Or.inr (Or.inr (Or.inr (Or.inl h)))))))) (fun n1 => And.intro (fun n2 => ?_) (fun h => And.intro hm (And.intro hm (And.intro (fun h0 => (t h0).elim) (fun _ => hb (Or.inr (Or.inr (Or.inr (Or.inr (Int32.not_le.mp h))))))))))))
  have nb : ¬ pB v w k n := fun q => by
    rcases q with q | q | q | q
    · exact no_end q hj e
    · exact no_8 q hi ei
    · exact q.elim k1 k2
    · exact q.elim n1 (fun z => Int32.not_le.mpr z n2)
  subst e ei
  have hv : ∀ q, sN S q = 16 → vp_in ((8 : Int32) * nI j + nI i) (sN S q) := fun q hq => by rw [ix8, hq]; exact in_nI (show 8 * j + i < 16 by omega) (by decide)
  refine And.intro hm (And.intro hm (And.intro (fun _ => ?_) (fun h => absurd (by rw [sI_pI, up2_self]; decide) h)))
  refine And.intro hm (useR a1 (And.intro a2 (And.intro (hv a a3) (And.intro hm (useR d1 (And.intro d2 (And.intro (hv d d3) (And.intro hm (And.intro ⟨by decide, by decide⟩ (Exists.intro 1 (And.intro hm ?_)))))))))))
  refine ho nb _ ⟨rfl, rfl, rfl, ?_⟩
  rw [sI_pI, up2_ne (by simp), sI_pI, up2_ne (fun z => d5 z.1.symm), sI_pI, up2_ne (fun z => a5 z.1.symm), sI_pI, up2_self]
theorem c_port {b : Nat} {xs : Nat → Int32} {S : MM} {x aE aC e0 e1 m out c z : Nat} (h : GG S x aE aC e0 e1 m out) (hc : c + 1 ≤ 600002) (hz : z + 6 ≤ 7302232) : wpn (kL_law b 5 xs) 9 248 [(4, .int 0), (3, .ref out), (2, .ref m), (1, .ref x), (0, .ref b)] [] S c z := by
  obtain ⟨hB, hM, ho1, ho2⟩ := h
  refine And.intro rfl (And.intro (v5 (i := 1) (by decide)) (And.intro rfl (And.intro (v5 (i := 2) (by decide)) (And.intro rfl (And.intro (v5 (i := 3) (by decide)) (And.intro rfl (And.intro (v5 (i := 4) (by decide)) (And.intro ⟨hc, hz⟩ (s_Lport hB (fun hb => ?_) (fun hb S' hS => ?_))))))))))
  · refine And.intro rfl (And.intro (v5 (i := 1) (by decide)) (And.intro rfl (And.intro (v5 (i := 2) (by decide)) (And.intro rfl (And.intro (v5 (i := 3) (by decide)) (And.intro rfl (And.intro (v5 (i := 4) (by decide)) (And.intro hM.1 (And.intro ⟨hc, hz⟩ (s_Mport hM (fun _ => And.intro hM.1 (And.intro ⟨hc, hz⟩ (s_thrown hM.1 ?_))) (fun nb => absurd hb nb)))))))))))
    rw [sI_pI, up2_self]
    exact And.intro (fun _ => And.intro rfl (And.intro (fun _ => rfl) (fun h => absurd (by decide) h))) (fun h => absurd rfl h)
  · have hM2 : MF S' m := MF_Kc hM hS
    refine And.intro rfl (And.intro (v5 (i := 1) (by decide)) (And.intro rfl (And.intro (v5 (i := 2) (by decide)) (And.intro rfl (And.intro (v5 (i := 3) (by decide)) (And.intro rfl (And.intro (v5 (i := 4) (by decide)) (And.intro hM2.1 (And.intro ⟨hc, hz⟩ (s_Mport hM2 (fun q => absurd q hb) (fun _ S2 hR => ?_)))))))))))
    have km : sK S2 m = 9 := by rw [hR.1]; exact hM2.1
    refine And.intro km (And.intro ⟨hc, hz⟩ (s_thrown km ?_))
    rw [hR.2.2.2]
    exact And.intro (fun _ => And.intro rfl (And.intro (fun _ => rfl) (fun h => absurd (by decide) h))) (fun h => absurd rfl h)
-- system
def K7 (S : MM) (a : Nat) : Prop := sK S a = 7 ∨ sK S a = 2
def Lk (S S' : MM) : Prop := sK S' = sK S ∧ sN S' = sN S ∧ sR S' = sR S ∧ Ex S S' (K7 S)
theorem Lk_pI {S S' : MM} {a k : Nat} {v : Int32} (h : Lk S S') (ha : K7 S a) : Lk S (pI S' a k v) := ⟨h.1, h.2.1, h.2.2.1, h.2.2.2.pI (fun _ => ha)⟩
set_option maxRecDepth 20000 in
theorem s_renL {Q : Option Value → MM → Prop} {S0 : MM} {e pa : Nat} {sys n : Int32} (hk : sK S0 e = 2) (hR : sR S0 e 0 = some pa) (hp : sK S0 pa = 17) (hN : sN S0 pa = 8) (hps : Ps S0 pa sys 8) (K : ∀ S', Lk S0 S' → Q none S') : ∀ (g i : Nat) (S : MM), i + g = 8 → Lk S0 S → wpn (kX1_rename Q) (g + 2) 7 [(2, .int (nI i)), (0, .ref e), (1, .int n)] [] S 0 0 := by
  intro g
  induction g with
  | zero =>
    intro i S hi hL
    have e8 : i = 8 := by omega
    subst e8
    exact And.intro (fun _ => K S hL) (fun h => absurd (by decide) h)
  | succ g ih =>
    intro i S hi hL
    have hi8 : i < 8 := by omega
    obtain ⟨p, p1, p2⟩ := hps i hi8
    obtain ⟨pv, ⟨t, t1, t2⟩, -⟩ := p2
    have nx := ih (i + 1) (pI S t 0 n) (by omega) (Lk_pI hL (Or.inl t2.1))
    rw [← nI_1 i] at nx
    refine And.intro (fun h => absurd h (n8_ge hi8)) (fun _ => And.intro (by rw [hL.1]; exact hk) (useR (v := some pa) (by rw [hL.2.2.1]; exact hR) (And.intro (by rw [hL.1]; exact hp) (And.intro (by rw [hL.2.1, hN]; exact in_nI hi8 (by decide)) (useR (v := some p) (by rw [cl_nI (by omega), hL.2.2.1]; exact p1) (And.intro (by rw [hL.1]; exact pv.1) (useR (v := some t) (by rw [hL.2.2.1]; exact t1) (And.intro (by rw [hL.1]; exact t2.1) nx))))))))
theorem s_rename {Q : Option Value → MM → Prop} {S : MM} {e : Nat} {sys n : Int32} (hE : E0 S e sys) (K : ∀ S', Lk S S' → Q none S') : wX1_rename [.ref e, .int n] S Q := by
  obtain ⟨hv, pa, h1, h2, h3, h4⟩ := hE
  exact Exists.intro 11 (And.intro hv.1 (s_renL hv.1 h1 h2 h3 h4 K 8 0 _ rfl (Lk_pI ⟨rfl, rfl, rfl, Ex.rf⟩ (Or.inr hv.1))))
theorem s_ncLk {S S' : MM} {x aE aC e0 e1 : Nat} {Q : Option Value → MM → Prop} (hB : B0 S x aE aC e0 e1) (hL : Lk S S') (hQ : ∀ S'', Ex S S'' (Kc S) → Q none S'') : wX7_noteChange [.ref x] S' Q := by
  obtain ⟨hs, hz, hE0, hE1, hC⟩ := hB
  obtain ⟨b1, b2, b3, b4, b5, b6, b7, b8, b9, b10⟩ := hs
  have hcell : ∀ a, sK S a = 1 ∨ sK S a = 17 → RS S S' a := fun a ha => hL.2.2.2 a (by rcases ha with q | q <;> rw [q] <;> decide) (fun z => by rcases z with z | z <;> rcases ha with q | q <;> rw [q] at z <;> cases z)
  refine s_nc (S := S') (aE := aE) (aC := aC) (e0 := e0) (e1 := e1) ⟨by rw [hL.1]; exact b1, by rw [hL.2.2.1]; exact b2, by rw [hL.2.2.1]; exact b3, by rw [hL.1]; exact b4, by rw [hL.2.1]; exact b5, by rw [hL.1]; exact b6, by rw [hL.2.1]; exact b7, by rw [hL.2.2.1]; exact b8, by rw [hL.2.2.1]; exact b9, b10⟩ (by rw [hL.1]; exact hE0.1.1) (by rw [hL.1]; exact hE1.1.1) (fun c hc => ?_) ?_
  · obtain ⟨a, a1, a2⟩ := hC c hc
    exact ⟨a, by rw [hL.2.2.1]; exact a1, Cb0_ext a2.1 (hcell a (Or.inl a2.1.1)) (fun a ha => hcell a (Or.inr ha))⟩
  · exact hQ _ ((hL.2.2.2.weak (fun a ha z => by rcases z with z | z <;> exact Kc_of z (by decide))).pI (fun _ => Kc_of b1 (by decide)))
def sB (v n : Int32) : Prop := (v < 0 ∨ 2 ≤ v) ∨ (n < 1 ∨ ¬ n ≤ 1000000)
theorem s_system {S : MM} {x aE aC e0 e1 : Nat} {v n : Int32} {Q : Option Value → MM → Prop} {X : String → MM → Prop} (hB : B0 S x aE aC e0 e1) (hb : sB v n → X eI S) (hs2 : ∀ j, j < 2 → v = nI j → ¬ sB v n → n = (if j = 0 then 20 else 10) → X eS S) (ho : ∀ j, j < 2 → v = nI j → ¬ sB v n → ¬ n = (if j = 0 then 20 else 10) → ∀ S', Ex S S' (Kc S) → Q (some (.int (if j = 0 then 10 else 20))) S') : wX7_system [.ref x, .int v, .int n] S Q X := by
  have hB' := hB
  obtain ⟨hs, hz, hE0, hE1, hC⟩ := hB
  obtain ⟨b1, b2, b3, b4, b5, b6, b7, b8, b9, b10⟩ := hs
  refine Exists.intro 4 (And.intro ⟨by decide, by decide⟩ (s_isEnd2 (fun h => if0 (And.intro ⟨by decide, by decide⟩ (hb (Or.inl h)))) (fun j hj e => if1 (And.intro (fun h => And.intro ⟨by decide, by decide⟩ (hb (Or.inr (Or.inl h)))) (fun h1 => And.intro (fun h2 => ?_) (fun h => And.intro ⟨by decide, by decide⟩ (hb (Or.inr (Or.inr h)))))))))
  have nb : ¬ sB v n := fun q => by
    rcases q with q | q | q
    · exact no_end q hj e
    · exact h1 q
    · exact q h2
  have v0 : vp_in 0 (sN S aE) := by rw [b5]; exact in_0 (by decide)
  have v1 : vp_in 1 (sN S aE) := by rw [b5]; exact in_nI (i := 1) (by decide) (by decide)
  have hj2 : j = 0 ∨ j = 1 := by omega
  rcases hj2 with rfl | rfl
  · subst e
    have i1 : (1 : Int32) - nI 0 = 1 := by decide
    refine And.intro b1 (useR b2 (And.intro b4 (And.intro (by show vp_in ((1 : Int32) - nI 0) (sN S aE); rw [i1]; exact v1) (useR (v := some e1) (by show sR S aE ((1 : Int32) - nI 0).toNatClampNeg = some e1; rw [i1]; exact b9) (And.intro hE1.1.1 (And.intro (fun h => And.intro ⟨by decide, by decide⟩ (hs2 0 (by decide) rfl nb (by rw [← h, hE1.1.2.1]; rfl))) (fun h => ?_)))))))
    refine And.intro b1 (useR b2 (And.intro b4 (And.intro v0 (useR b8 (And.intro hE0.1.1 (And.intro b1 (useR b2 (And.intro b4 (And.intro v0 (useR b8 (And.intro hE0.1.1 (And.intro ⟨by decide, by decide⟩ (s_rename hE0 (fun S' hL => And.intro (by rw [hL.1]; exact b1) (And.intro ⟨by decide, by decide⟩ (s_ncLk hB' hL (fun S'' hx => ?_)))))))))))))))))
    have hr := ho 0 (by decide) rfl nb (fun z => h (by rw [hE1.1.2.1, z]; rfl)) S'' hx
    show Q (some (.int (sI S e0 1))) S''
    rw [hE0.1.2.1]
    exact hr
  · subst e
    have i1 : (1 : Int32) - nI 1 = 0 := by decide
    refine And.intro b1 (useR b2 (And.intro b4 (And.intro (by show vp_in ((1 : Int32) - nI 1) (sN S aE); rw [i1]; exact v0) (useR (v := some e0) (by show sR S aE ((1 : Int32) - nI 1).toNatClampNeg = some e0; rw [i1]; exact b8) (And.intro hE0.1.1 (And.intro (fun h => And.intro ⟨by decide, by decide⟩ (hs2 1 (by decide) rfl nb (by rw [← h, hE0.1.2.1]; rfl))) (fun h => ?_)))))))
    refine And.intro b1 (useR b2 (And.intro b4 (And.intro v1 (useR b9 (And.intro hE1.1.1 (And.intro b1 (useR b2 (And.intro b4 (And.intro v1 (useR b9 (And.intro hE1.1.1 (And.intro ⟨by decide, by decide⟩ (s_rename hE1 (fun S' hL => And.intro (by rw [hL.1]; exact b1) (And.intro ⟨by decide, by decide⟩ (s_ncLk hB' hL (fun S'' hx => ?_)))))))))))))))))
    have hr := ho 1 (by decide) rfl nb (fun z => h (by rw [hE0.1.2.1, z]; rfl)) S'' hx
    show Q (some (.int (sI S e1 1))) S''
    rw [hE1.1.2.1]
    exact hr
