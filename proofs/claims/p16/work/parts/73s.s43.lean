/-! SIMULATION 43: note: the bytes are the same -/
theorem lsr0 (v : Int32) : ((v.toUInt32 >>> ((nI 0).toUInt32 &&& Int32.toUInt32 31)).toInt32 &&& nI 255) = (v >>> (nI 0 &&& 31)) &&& nI 255 := by
  have e1 : ((nI 0).toUInt32 &&& Int32.toUInt32 31) = 0 := by decide
  have e2 : (nI 0 &&& 31) = 0 := by decide
  rw [e1, e2]
  apply Int32.toBitVec_inj.mp
  rw [Int32.toBitVec_and, Int32.toBitVec_and, Int32.toBitVec_shiftRight]
  have q1 : (v.toUInt32 >>> 0).toInt32.toBitVec = v.toBitVec >>> 0 := by
    show (v.toUInt32 >>> 0).toBitVec = _
    rw [UInt32.toBitVec_shiftRight]
    rfl
  have q3 : (nI 255).toBitVec = 255#32 := by decide
  have q4 : (((0 : Int32).toBitVec).smod 32).toNat = 0 := by decide
  rw [q1, q3]
  unfold BitVec.sshiftRight'
  rw [q4]
  apply BitVec.eq_of_getLsbD_eq
  intro i hi
  rw [BitVec.getLsbD_and, BitVec.getLsbD_and]
  by_cases h : i < 8
  · rw [BitVec.getLsbD_ushiftRight, BitVec.getLsbD_sshiftRight, if_pos (by omega)]
    have : decide (32 ≤ i) = false := decide_eq_false (by omega)
    rw [this]
    simp
  · have : ∀ i, i < 32 → ¬ i < 8 → (255#32).getLsbD i = false := by decide
    rw [this i hi h, Bool.and_false, Bool.and_false]
theorem lsr8 (v : Int32) : ((v.toUInt32 >>> ((nI 8).toUInt32 &&& Int32.toUInt32 31)).toInt32 &&& nI 255) = (v >>> (nI 8 &&& 31)) &&& nI 255 := by
  have e1 : ((nI 8).toUInt32 &&& Int32.toUInt32 31) = 8 := by decide
  have e2 : (nI 8 &&& 31) = 8 := by decide
  rw [e1, e2]
  apply Int32.toBitVec_inj.mp
  rw [Int32.toBitVec_and, Int32.toBitVec_and, Int32.toBitVec_shiftRight]
  have q1 : (v.toUInt32 >>> 8).toInt32.toBitVec = v.toBitVec >>> 8 := by
    show (v.toUInt32 >>> 8).toBitVec = _
    rw [UInt32.toBitVec_shiftRight]
    rfl
  have q3 : (nI 255).toBitVec = 255#32 := by decide
  have q4 : (((8 : Int32).toBitVec).smod 32).toNat = 8 := by decide
  rw [q1, q3]
  unfold BitVec.sshiftRight'
  rw [q4]
  apply BitVec.eq_of_getLsbD_eq
  intro i hi
  rw [BitVec.getLsbD_and, BitVec.getLsbD_and]
  by_cases h : i < 8
  · rw [BitVec.getLsbD_ushiftRight, BitVec.getLsbD_sshiftRight, if_pos (by omega)]
    have : decide (32 ≤ i) = false := decide_eq_false (by omega)
    rw [this]
    simp
  · have : ∀ i, i < 32 → ¬ i < 8 → (255#32).getLsbD i = false := by decide
    rw [this i hi h, Bool.and_false, Bool.and_false]
theorem lsr16 (v : Int32) : ((v.toUInt32 >>> ((nI 16).toUInt32 &&& Int32.toUInt32 31)).toInt32 &&& nI 255) = (v >>> (nI 16 &&& 31)) &&& nI 255 := by
  have e1 : ((nI 16).toUInt32 &&& Int32.toUInt32 31) = 16 := by decide
  have e2 : (nI 16 &&& 31) = 16 := by decide
  rw [e1, e2]
  apply Int32.toBitVec_inj.mp
  rw [Int32.toBitVec_and, Int32.toBitVec_and, Int32.toBitVec_shiftRight]
  have q1 : (v.toUInt32 >>> 16).toInt32.toBitVec = v.toBitVec >>> 16 := by
    show (v.toUInt32 >>> 16).toBitVec = _
    rw [UInt32.toBitVec_shiftRight]
    rfl
  have q3 : (nI 255).toBitVec = 255#32 := by decide
  have q4 : (((16 : Int32).toBitVec).smod 32).toNat = 16 := by decide
  rw [q1, q3]
  unfold BitVec.sshiftRight'
  rw [q4]
  apply BitVec.eq_of_getLsbD_eq
  intro i hi
  rw [BitVec.getLsbD_and, BitVec.getLsbD_and]
  by_cases h : i < 8
  · rw [BitVec.getLsbD_ushiftRight, BitVec.getLsbD_sshiftRight, if_pos (by omega)]
    have : decide (32 ≤ i) = false := decide_eq_false (by omega)
    rw [this]
    simp
  · have : ∀ i, i < 32 → ¬ i < 8 → (255#32).getLsbD i = false := by decide
    rw [this i hi h, Bool.and_false, Bool.and_false]
theorem lsr24 (v : Int32) : ((v.toUInt32 >>> ((nI 24).toUInt32 &&& Int32.toUInt32 31)).toInt32 &&& nI 255) = (v >>> (nI 24 &&& 31)) &&& nI 255 := by
  have e1 : ((nI 24).toUInt32 &&& Int32.toUInt32 31) = 24 := by decide
  have e2 : (nI 24 &&& 31) = 24 := by decide
  rw [e1, e2]
  apply Int32.toBitVec_inj.mp
  rw [Int32.toBitVec_and, Int32.toBitVec_and, Int32.toBitVec_shiftRight]
  have q1 : (v.toUInt32 >>> 24).toInt32.toBitVec = v.toBitVec >>> 24 := by
    show (v.toUInt32 >>> 24).toBitVec = _
    rw [UInt32.toBitVec_shiftRight]
    rfl
  have q3 : (nI 255).toBitVec = 255#32 := by decide
  have q4 : (((24 : Int32).toBitVec).smod 32).toNat = 24 := by decide
  rw [q1, q3]
  unfold BitVec.sshiftRight'
  rw [q4]
  apply BitVec.eq_of_getLsbD_eq
  intro i hi
  rw [BitVec.getLsbD_and, BitVec.getLsbD_and]
  by_cases h : i < 8
  · rw [BitVec.getLsbD_ushiftRight, BitVec.getLsbD_sshiftRight, if_pos (by omega)]
    have : decide (32 ≤ i) = false := decide_eq_false (by omega)
    rw [this]
    simp
  · have : ∀ i, i < 32 → ¬ i < 8 → (255#32).getLsbD i = false := by decide
    rw [this i hi h, Bool.and_false, Bool.and_false]
theorem shr0 (v : Int32) : v >>> (nI 0 &&& 31) = v := by
  have e2 : (nI 0 &&& 31) = 0 := by decide
  rw [e2]
  apply Int32.toBitVec_inj.mp
  rw [Int32.toBitVec_shiftRight]
  have q4 : (((0 : Int32).toBitVec).smod 32).toNat = 0 := by decide
  unfold BitVec.sshiftRight'
  rw [q4]
  apply BitVec.eq_of_getLsbD_eq
  intro i hi
  rw [BitVec.getLsbD_sshiftRight, if_pos (by omega)]
  have : decide (32 ≤ i) = false := decide_eq_false (by omega)
  rw [this]
  simp
def kix (j : Nat) : Nat := if 4 ≤ j then (if 10 ≤ j then 4 else j / 2 - 1) else 0
def shf (j : Nat) : Nat := if 4 ≤ j then (if 10 ≤ j then 0 else 1 - j % 2) else 3 - j
theorem bm64 : ∀ n, n < 64 → nI n &&& nI 255 = nI n := by decide +kernel
theorem nb_c {I : Mm} {a j : Nat} (hj : j < 11) (h4 : ∃ n, n < 64 ∧ I a 4 = nI n) : f_X6_byteAt I a j = (I a (kix j) >>> (nI (8 * shf j) &&& 31)) &&& nI 255 := by
  have d0 : nI 24 - nI (8 * 0) = nI 24 := by decide
  have d1 : nI 24 - nI (8 * 1) = nI 16 := by decide
  have d2 : nI 24 - nI (8 * 2) = nI 8 := by decide
  have d3 : nI 24 - nI (8 * 3) = nI 0 := by decide
  match j, hj with
  | 0, _ => exact (lsr24 (I a 0)) ▸ (by rw [← d0]; rfl)
  | 1, _ => exact (lsr16 (I a 0)) ▸ (by rw [← d1]; rfl)
  | 2, _ => exact (lsr8 (I a 0)) ▸ (by rw [← d2]; rfl)
  | 3, _ => exact (lsr0 (I a 0)) ▸ (by rw [← d3]; rfl)
  | 4, _ => exact lsr8 (I a 1)
  | 5, _ => exact (congrArg (fun q => q &&& nI 255) (shr0 (I a 1))).symm
  | 6, _ => exact lsr8 (I a 2)
  | 7, _ => exact (congrArg (fun q => q &&& nI 255) (shr0 (I a 2))).symm
  | 8, _ => exact lsr8 (I a 3)
  | 9, _ => exact (congrArg (fun q => q &&& nI 255) (shr0 (I a 3))).symm
  | 10, _ =>
    obtain ⟨n, hn, en⟩ := h4
    show I a 4 = (I a 4 >>> (nI 0 &&& 31)) &&& nI 255
    rw [shr0, en, bm64 n hn]
  | n + 11, h => exact absurd h (by omega)
theorem nb_o {I : Mm} {m e p j : Nat} {A : Nat → Nat} (hj : j < 11) : g_X8_note_31 I m A e p j = (f_ownk I m A (8 * e + p) (kix j) >>> (nI (8 * shf j) &&& 31)) &&& nI 255 := by
  have o0 : f_own0 I m A (8 * e + p) = f_ownk I m A (8 * e + p) 0 := rfl
  have o4 : f_own4 I m A (8 * e + p) = f_ownk I m A (8 * e + p) 4 := rfl
  unfold g_X8_note_31 kix shf
  rw [Nat.mod_eq_of_lt hj, if_neg (show ¬ 11 ≤ j by omega), if_neg (show ¬ 11 ≤ j by omega), if_neg (show ¬ 11 ≤ j by omega), o0, o4]
  by_cases h1 : 4 ≤ j
  · by_cases h2 : 10 ≤ j
    · simp only [if_pos h1, if_pos h2]
    · simp only [if_pos h1, if_neg h2]
  · simp only [if_neg h1]
theorem nb_p {I : Mm} {m e p j : Nat} {A : Nat → Nat} (hj : j < 11) : g_X8_note_31 I m A e p (11 + j) = (I (A 18) (5 * (8 * e + p) + kix j) >>> (nI (8 * shf j) &&& 31)) &&& nI 255 := by
  unfold g_X8_note_31 kix shf
  rw [show (11 + j) % 11 = j by omega, if_pos (show 11 ≤ 11 + j by omega), if_pos (show 11 ≤ 11 + j by omega), if_pos (show 11 ≤ 11 + j by omega)]
  by_cases h1 : 4 ≤ j
  · by_cases h2 : 10 ≤ j
    · simp only [if_pos h1, if_pos h2]
    · simp only [if_pos h1, if_neg h2]
  · simp only [if_neg h1]
theorem kix_5 (j : Nat) : kix j = 0 ∨ kix j = 1 ∨ kix j = 2 ∨ kix j = 3 ∨ kix j = 4 := by
  unfold kix
  split
  · split
    · omega
    · omega
  · omega
theorem ownk_r {I J : Mm} {R : Nat → Nat → Option Nat} {b m x k : Nat} {A : Nat → Nat} (h : RP R b I J A x) (hk : k = 0 ∨ k = 1 ∨ k = 2 ∨ k = 3 ∨ k = 4) : f_ownk J m A x k = I (ox R b x) k ∧ J (A 18) (5 * x + k) = I (qx R b x) k := by
  obtain ⟨⟨h2, h3, h4, h5, h6, h7, h8, h9, o0, o1, o2, o3, o4, q0, q1, q2, q3, q4⟩, hv, hl⟩ := h
  rcases hk with rfl | rfl | rfl | rfl | rfl
  · exact ⟨o0.symm, q0.symm⟩
  · refine ⟨?_, q1.symm⟩
    unfold f_ownk
    rw [if_neg (by decide), if_pos rfl]
    exact o1.symm
  · refine ⟨?_, q2.symm⟩
    unfold f_ownk
    rw [if_neg (by decide), if_neg (by decide), if_pos rfl]
    exact o2.symm
  · refine ⟨?_, q3.symm⟩
    unfold f_ownk
    rw [if_neg (by decide), if_neg (by decide), if_neg (by decide), if_pos rfl]
    exact o3.symm
  · refine ⟨?_, q4.symm⟩
    unfold f_ownk
    rw [if_neg (by decide), if_neg (by decide), if_neg (by decide), if_neg (by decide), bits_btv]
    exact o4.symm
theorem RP_b4 {I J : Mm} {R : Nat → Nat → Option Nat} {b x : Nat} {A : Nat → Nat} (h : RP R b I J A x) : (∃ n, n < 64 ∧ I (ox R b x) 4 = nI n) ∧ ∃ n, n < 64 ∧ I (qx R b x) 4 = nI n := by
  obtain ⟨⟨h2, h3, h4, h5, h6, h7, h8, h9, o0, o1, o2, o3, o4, q0, q1, q2, q3, q4⟩, ⟨⟨s, hs, es⟩, _, _, hb⟩, hl⟩ := h
  refine ⟨?_, by rw [q4]; exact hb⟩
  rw [o4, es]
  exact btv_r hs
/-- both answers to the same question -/
theorem note_eq {I J : Mm} {R : Nat → Nat → Option Nat} {b m e p i : Nat} {A : Nat → Nat} (he : e < 2) (hp : p < 8) (hi : i < 22) (h : RP R b I J A (8 * e + p)) : g_X7_note_26 I R b e p i = g_X8_note_31 J m A e p i := by
  have eo : ox R b (8 * e + p) = Ow R b e p := by
    show Ow R b ((8 * e + p) / 8) ((8 * e + p) % 8) = _
    rw [show (8 * e + p) / 8 = e by omega, show (8 * e + p) % 8 = p by omega]
  have eq : qx R b (8 * e + p) = Pa R b e p := by
    show Pa R b ((8 * e + p) / 8) ((8 * e + p) % 8) = _
    rw [show (8 * e + p) / 8 = e by omega, show (8 * e + p) % 8 = p by omega]
  have b4 := RP_b4 h
  unfold g_X7_note_26
  by_cases q : 11 ≤ i
  · obtain ⟨j, rfl⟩ : ∃ j, i = 11 + j := ⟨i - 11, by omega⟩
    rw [if_pos q, show 11 + j - 11 = j by omega, nb_p (by omega), nb_c (by omega) (by rw [← eq]; exact b4.2), (ownk_r (m := m) h (kix_5 j)).2, eq]
  · rw [if_neg q, nb_o (by omega), nb_c (by omega) (by rw [← eo]; exact b4.1), (ownk_r (m := m) h (kix_5 i)).1, eo]
