/-! SIMULATION 3b: a port hears a note -/
def JQ5 (J : Mm) (A : Nat → Nat) (t x : Nat) : Mm := up2 (up2 (up2 (up2 (up2 J (A 18) (5 * x) (J (A 31) (10 * t))) (A 18) (5 * x + 1) (J (A 31) (10 * t + 1))) (A 18) (5 * x + 2) (J (A 31) (10 * t + 2))) (A 18) (5 * x + 3) (J (A 31) (10 * t + 3))) (A 18) (5 * x + 4) (J (A 31) (10 * t + 4))
def JQ (J : Mm) (A : Nat → Nat) (t x : Nat) (a : Bool) : Mm := if a then JQ5 J A t x else up2 (JQ5 J A t x) (A 18) (5 * x + 4) (J (A 31) (10 * t + 4) &&& (-9 : Int32))
theorem n105 {J : Mm} {m t x : Nat} {A : Nat → Nat} {a b : Bool} (hA : AD m A) : g_X8_noteComes_105 J m A t x (flg a) (flg b) = g_X8_noteComes_162 (JQ J A t x a) m A t x (flg b) := by
  cases a
  · simp only [g_X8_noteComes_105, JQ, JQ5, Bool.false_eq_true, if_false, Nat.add_zero]
    rw [if_pos (show flg false = 0 by decide)]
    simp (disch := first | decide | omega) only [mu_o hA, up2_self, mu_j]
  · simp only [g_X8_noteComes_105, JQ, JQ5, if_true, Nat.add_zero]
    rw [if_neg (show ¬ flg true = 0 by decide)]
    simp (disch := first | decide | omega) only [mu_o hA, up2_self, mu_j]
theorem JQ_o {J : Mm} {m t x k j : Nat} {A : Nat → Nat} {a : Bool} (hA : AD m A) (hk : dm k) (h18 : k ≠ 18) : JQ J A t x a (A k) j = J (A k) j := by
  unfold JQ JQ5
  cases a <;> simp (disch := first | assumption | decide) only [if_true, if_false, Bool.false_eq_true, mu_o hA]
theorem JQ_0 {J : Mm} {m t x : Nat} {A : Nat → Nat} {a : Bool} (_hA : AD m A) : JQ J A t x a (A 18) (5 * x) = J (A 31) (10 * t) := by
  unfold JQ JQ5
  cases a <;> simp (disch := omega) only [if_true, if_false, Bool.false_eq_true, up2_self, mu_j]
theorem JQ_1 {J : Mm} {m t x : Nat} {A : Nat → Nat} {a : Bool} (_hA : AD m A) : JQ J A t x a (A 18) (5 * x + 1) = J (A 31) (10 * t + 1) := by
  unfold JQ JQ5
  cases a <;> simp (disch := omega) only [if_true, if_false, Bool.false_eq_true, up2_self, mu_j]
theorem JQ_2 {J : Mm} {m t x : Nat} {A : Nat → Nat} {a : Bool} (_hA : AD m A) : JQ J A t x a (A 18) (5 * x + 2) = J (A 31) (10 * t + 2) := by
  unfold JQ JQ5
  cases a <;> simp (disch := omega) only [if_true, if_false, Bool.false_eq_true, up2_self, mu_j]
theorem JQ_3 {J : Mm} {m t x : Nat} {A : Nat → Nat} {a : Bool} (_hA : AD m A) : JQ J A t x a (A 18) (5 * x + 3) = J (A 31) (10 * t + 3) := by
  unfold JQ JQ5
  cases a <;> simp (disch := omega) only [if_true, if_false, Bool.false_eq_true, up2_self, mu_j]
theorem JQ_4 {J : Mm} {m t x : Nat} {A : Nat → Nat} {a : Bool} (_hA : AD m A) : JQ J A t x a (A 18) (5 * x + 4) = (if a then J (A 31) (10 * t + 4) else J (A 31) (10 * t + 4) &&& (-9 : Int32)) := by
  unfold JQ JQ5
  cases a <;> simp (disch := omega) only [if_true, if_false, Bool.false_eq_true, up2_self, mu_j]
theorem JQ_f {J : Mm} {m t x : Nat} {A : Nat → Nat} {a : Bool} (hA : AD m A) : MF A x J (JQ J A t x a) := by
  unfold JQ JQ5
  cases a <;> simp only [if_true, if_false, Bool.false_eq_true] <;> repeat (first | exact MF.rf | refine MF.w hA (by decide) (by first | exact ow_5 (by decide) (by decide) | exact ow_50 (by decide)) ?_)
theorem n162 {K : Mm} {m t x : Nat} {A : Nat → Nat} {b : Bool} (hA : AD m A) : (g_X8_noteComes_162 K m A t x (flg b)) (A 7) x = nI 2 ∧ (g_X8_noteComes_162 K m A t x (flg b)) (A 8) x = (if K (A 6) x = 0 then nI 90 else nI 3) ∧ (g_X8_noteComes_162 K m A t x (flg b)) (A 14) x = (if b then K (A 14) x else nI 1) ∧ (g_X8_noteComes_162 K m A t x (flg b)) (A 15) x = nI 1 ∧ MF A x K (g_X8_noteComes_162 K m A t x (flg b)) ∧ ∀ k j, dm k → k ≠ 7 → k ≠ 8 → k ≠ 14 → k ≠ 15 → k ≠ 17 → (g_X8_noteComes_162 K m A t x (flg b)) (A k) j = K (A k) j := by
  have h6 : up2 K (A 7) x (nI 2) (A 6) x = K (A 6) x := mu_o hA (by decide) (by decide) (by decide)
  rcases Classical.propComplete (K (A 6) x = 0) with e | e <;> cases b <;> simp only [g_X8_noteComes_162, h6, e, if_true, if_false, show (flg false = 0) = True by decide, show (flg true = 0) = False by decide, Bool.false_eq_true] <;> refine ⟨?_, ?_, ?_, ?_, ?_, fun k j hk h7 h8 h14 h15 h17 => ?_⟩
  all_goals first | (simp (disch := first | assumption | decide) only [mu_o hA, up2_self]; done) | (repeat (first | exact MF.rf | refine MF.w hA (by decide) (ow_x (by decide)) ?_))
theorem s_hear {m x : Nat} {A : Nat → Nat} {J : Mm} {rp ro rq rl : Nat → Int32} (hA : AD m A) (h : PR rp ro rq J A x) (hv : PV J A x) (hl : PLk rp rl J A x) {t : Nat} {rn rno rnp : Nat → Int32} (lit : ¬ J (A 7) x = 0) (n0 : rno 0 = J (A 31) (10 * t)) (n1 : rno 1 = J (A 31) (10 * t + 1)) (n2 : rno 2 = J (A 31) (10 * t + 2)) (n3 : rno 3 = J (A 31) (10 * t + 3)) (n4 : rno 4 = J (A 31) (10 * t + 4)) (p0 : rnp 0 = J (A 31) (10 * t + 5 + 0)) (p1 : rnp 1 = J (A 31) (10 * t + 5 + 1)) (p2 : rnp 2 = J (A 31) (10 * t + 5 + 2)) (p3 : rnp 3 = J (A 31) (10 * t + 5 + 3)) (p4 : rnp 4 = J (A 31) (10 * t + 5 + 4)) (g4 : ∃ n, n < 64 ∧ J (A 31) (10 * t + 4) = nI n) (g9 : ∃ n, n < 64 ∧ J (A 31) (10 * t + 5 + 4) = nI n) : PR (r_X5_hear rp ro rq rn rno rnp).2 ro (r_X5_hear rp ro rq rn rno rnp).1 (f_X8_noteComes J m A t x) A x ∧ PV (f_X8_noteComes J m A t x) A x ∧ PLk (r_X5_hear rp ro rq rn rno rnp).2 rl (f_X8_noteComes J m A t x) A x ∧ (r_X5_hear rp ro rq rn rno rnp).2 12 = (f_X8_noteComes J m A t x) (A 15) x ∧ MF A x J (f_X8_noteComes J m A t x) := by
  have hl := hl lit
  obtain ⟨h2, h3, h4, h5, h6, h7, h8, h9, o0, o1, o2, o3, o4, q0, q1, q2, q3, q4⟩ := h
  obtain ⟨v1, v2, v3, v4⟩ := hv
  obtain ⟨s, hs, es⟩ := v1
  have hb : ∃ n, n < 64 ∧ btv (J (A 5) x) (J (A 6) x) (J (A 3) x) (J (A 9) x) = nI n := by rw [es]; exact btv_r hs
  have hq : (ro 4 &&& nI 2 = 0) = (J (A 6) x = 0) := by rw [o4, es]; exact has_q hs
  have E : f_X8_noteComes J m A t x = g_X8_noteComes_105 J m A t x (flg (decide (kn ro rnp ∧ (rnp 4 &&& nI 4 = 0 ↔ ro 4 &&& nI 4 = 0)))) (flg (decide (kn ro rnp ∧ rnp 4 = ro 4))) := by
    have e0 : f_X8_noteComes J m A t x = g_X8_noteComes_8_0 J m A t x (flg true) (flg true) := rfl
    rw [e0, nc_0, nc_1, nc_2, nc_3, nc_4]
    have b4 : f_own4 J m A x = ro 4 := by rw [o4]; exact bits_btv
    have b5 : f_X8_bits J m A x = ro 4 := b4
    have b0 : f_own0 J m A x = ro 0 := o0.symm
    have b1 : f_own1 J m A x = ro 1 := o1.symm
    have b2 : f_own2 J m A x = ro 2 := o2.symm
    have b3 : f_own3 J m A x = ro 3 := o3.symm
    rw [b0, b1, b2, b3, b4, b5, ← p0, ← p1, ← p2, ← p3, ← p4]
    rw [← p4] at g9
    rw [← o4] at hb
    have z := and4e g9 hb
    congr 2
    · simp only [z, kn]
      by_cases e0 : rnp 0 = ro 0 <;> by_cases e1 : rnp 1 = ro 1 <;> by_cases e2 : rnp 2 = ro 2 <;> by_cases e3 : rnp 3 = ro 3 <;> simp [e0, e1, e2, e3]
    · simp only [kn]
      by_cases e0 : rnp 0 = ro 0 <;> by_cases e1 : rnp 1 = ro 1 <;> by_cases e2 : rnp 2 = ro 2 <;> by_cases e3 : rnp 3 = ro 3 <;> simp [e0, e1, e2, e3]
  rw [n105 hA] at E
  obtain ⟨f7, f8, f14, f15, fm, fk⟩ := n162 (K := JQ J A t x (decide (kn ro rnp ∧ (rnp 4 &&& nI 4 = 0 ↔ ro 4 &&& nI 4 = 0)))) (m := m) (t := t) (x := x) (b := decide (kn ro rnp ∧ rnp 4 = ro 4)) hA
  rw [← E] at f7 f8 f14 f15 fm fk
  rw [JQ_o hA (by decide) (by decide)] at f8 f14
  have mf : MF A x J (f_X8_noteComes J m A t x) := fun k j a1 a2 a3 => (fm k j a1 a2 a3).trans (JQ_f hA k j a1 a2 a3)
  have fo : ∀ k j, dm k → k ≠ 7 → k ≠ 8 → k ≠ 14 → k ≠ 15 → k ≠ 17 → k ≠ 18 → (f_X8_noteComes J m A t x) (A k) j = J (A k) j := fun k j hk a1 a2 a3 a4 a5 a6 => (fk k j hk a1 a2 a3 a4 a5).trans (JQ_o hA hk a6)
  have g0q := (fk 18 (5 * x) (by decide) (by decide) (by decide) (by decide) (by decide) (by decide)).trans (JQ_0 hA)
  have g1q := (fk 18 (5 * x + 1) (by decide) (by decide) (by decide) (by decide) (by decide) (by decide)).trans (JQ_1 hA)
  have g2q := (fk 18 (5 * x + 2) (by decide) (by decide) (by decide) (by decide) (by decide) (by decide)).trans (JQ_2 hA)
  have g3q := (fk 18 (5 * x + 3) (by decide) (by decide) (by decide) (by decide) (by decide) (by decide)).trans (JQ_3 hA)
  have g4q := (fk 18 (5 * x + 4) (by decide) (by decide) (by decide) (by decide) (by decide) (by decide)).trans (JQ_4 hA)
  generalize f_X8_noteComes J m A t x = J' at *
  obtain ⟨a0, a1, a2, a3, a4, b3, b4, b12, b13, bk⟩ := c_hear (rp := rp) (ro := ro) (rq := rq) (rn := rn) (rno := rno) (rnp := rnp)
  generalize r_X5_hear rp ro rq rn rno rnp = rh at *
  refine ⟨⟨?_, ?_, ?_, ?_, ?_, ?_, ?_, ?_, ?_, ?_, ?_, ?_, ?_, ?_, ?_, ?_, ?_, ?_⟩, ⟨?_, ?_, ?_, ?_⟩, fun _ => ⟨?_, fun z => ⟨?_, ?_, ?_, ?_, ?_, ?_⟩⟩, ?_, mf⟩
  · rw [bk 2 (by decide) (by decide) (by decide) (by decide) (by decide), fo 11 x (by decide) (by decide) (by decide) (by decide) (by decide) (by decide) (by decide)]; exact h2
  · rw [b3, f7]
  · rw [b4, f8]; simp only [hq]
  · rw [bk 5 (by decide) (by decide) (by decide) (by decide) (by decide), fo 9 x (by decide) (by decide) (by decide) (by decide) (by decide) (by decide) (by decide)]; exact h5
  · rw [bk 6 (by decide) (by decide) (by decide) (by decide) (by decide), fo 10 x (by decide) (by decide) (by decide) (by decide) (by decide) (by decide) (by decide)]; exact h6
  · rw [bk 7 (by decide) (by decide) (by decide) (by decide) (by decide), fo 19 (3 * x) (by decide) (by decide) (by decide) (by decide) (by decide) (by decide) (by decide)]; exact h7
  · rw [bk 8 (by decide) (by decide) (by decide) (by decide) (by decide), fo 19 (3 * x + 1) (by decide) (by decide) (by decide) (by decide) (by decide) (by decide) (by decide)]; exact h8
  · rw [bk 9 (by decide) (by decide) (by decide) (by decide) (by decide), fo 19 (3 * x + 2) (by decide) (by decide) (by decide) (by decide) (by decide) (by decide) (by decide)]; exact h9
  · rw [fo 1 (x / 8) (by decide) (by decide) (by decide) (by decide) (by decide) (by decide) (by decide)]; exact o0
  · rw [fo 3 x (by decide) (by decide) (by decide) (by decide) (by decide) (by decide) (by decide)]; exact o1
  · rw [fo 4 x (by decide) (by decide) (by decide) (by decide) (by decide) (by decide) (by decide)]; exact o2
  · exact o3
  · rw [fo 5 x (by decide) (by decide) (by decide) (by decide) (by decide) (by decide) (by decide), fo 6 x (by decide) (by decide) (by decide) (by decide) (by decide) (by decide) (by decide), fo 3 x (by decide) (by decide) (by decide) (by decide) (by decide) (by decide) (by decide), fo 9 x (by decide) (by decide) (by decide) (by decide) (by decide) (by decide) (by decide)]; exact o4
  · rw [a0, g0q]; exact n0
  · rw [a1, g1q]; exact n1
  · rw [a2, g2q]; exact n2
  · rw [a3, g3q]; exact n3
  · rw [a4, g4q, n4]; simp only [decide_eq_true_eq]
  · exact ⟨s, hs, by rw [fo 9 x (by decide) (by decide) (by decide) (by decide) (by decide) (by decide) (by decide)]; exact es⟩
  · rw [f7]; exact fun z => absurd z (by decide)
  · rw [fo 9 x (by decide) (by decide) (by decide) (by decide) (by decide) (by decide) (by decide), fo 10 x (by decide) (by decide) (by decide) (by decide) (by decide) (by decide) (by decide)]; exact v3
  · rw [g4q]
    obtain ⟨n, hn, en⟩ := g4
    split
    · exact ⟨n, hn, en⟩
    · rw [en]; exact n64_9 n hn
  · rw [bk 15 (by decide) (by decide) (by decide) (by decide) (by decide), fo 21 x (by decide) (by decide) (by decide) (by decide) (by decide) (by decide) (by decide)]; exact hl.1
  · rw [fo 21 x (by decide) (by decide) (by decide) (by decide) (by decide) (by decide) (by decide)] at z; rw [b13, f14, (hl.2 z).1]; simp only [decide_eq_true_eq]
  · rw [fo 21 x (by decide) (by decide) (by decide) (by decide) (by decide) (by decide) (by decide)] at z; rw [fo 20 (5 * x) (by decide) (by decide) (by decide) (by decide) (by decide) (by decide) (by decide)]; exact (hl.2 z).2.1
  · rw [fo 21 x (by decide) (by decide) (by decide) (by decide) (by decide) (by decide) (by decide)] at z; rw [fo 20 (5 * x + 1) (by decide) (by decide) (by decide) (by decide) (by decide) (by decide) (by decide)]; exact (hl.2 z).2.2.1
  · rw [fo 21 x (by decide) (by decide) (by decide) (by decide) (by decide) (by decide) (by decide)] at z; rw [fo 20 (5 * x + 2) (by decide) (by decide) (by decide) (by decide) (by decide) (by decide) (by decide)]; exact (hl.2 z).2.2.2.1
  · rw [fo 21 x (by decide) (by decide) (by decide) (by decide) (by decide) (by decide) (by decide)] at z; rw [fo 20 (5 * x + 3) (by decide) (by decide) (by decide) (by decide) (by decide) (by decide) (by decide)]; exact (hl.2 z).2.2.2.2.1
  · rw [fo 21 x (by decide) (by decide) (by decide) (by decide) (by decide) (by decide) (by decide)] at z; rw [fo 20 (5 * x + 4) (by decide) (by decide) (by decide) (by decide) (by decide) (by decide) (by decide)]; exact (hl.2 z).2.2.2.2.2
  · rw [b12, f15]
