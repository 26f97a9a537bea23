/-! SIMULATION 12: the notes of a lane, as a list -/
def sl (I : Mm) (R : Nat → Nat → Option Nat) (b c e k : Nat) : Nat := ((I (Ln R b c e) 1).toNatClampNeg + k) % 8
def cnq (I : Mm) (R : Nat → Nat → Option Nat) (b c e s : Nat) : Nat → Int32 := nq c e (I (Nt R b c e s) 2) (I (NtO R b c e s)) (I (NtP R b c e s))
def CN (I : Mm) (R : Nat → Nat → Option Nat) (b c e : Nat) : List (Nat → Int32) := (List.range (I (Ln R b c e) 2).toNatClampNeg).map (fun k => cnq I R b c e (sl I R b c e k))
theorem nq_c {c e : Nat} {d : Int32} {ro ro' rq rq' : Nat → Int32} (ho : ∀ k, k < 5 → ro' k = ro k) (hq : ∀ k, k < 5 → rq' k = rq k) : nq c e d ro' rq' = nq c e d ro rq := by
  funext i
  unfold nq
  repeat' split
  all_goals first | rfl | exact ho _ (by omega) | exact hq _ (by omega)
/-- a lane's own cells -/
def LC2 (I I' : Mm) (R : Nat → Nat → Option Nat) (b c e : Nat) : Prop := I' (Ln R b c e) 1 = I (Ln R b c e) 1 ∧ I' (Ln R b c e) 2 = I (Ln R b c e) 2 ∧ ∀ s, s < 8 → I' (Nt R b c e s) 2 = I (Nt R b c e s) 2 ∧ I' (NtO R b c e s) = I (NtO R b c e s) ∧ I' (NtP R b c e s) = I (NtP R b c e s)
theorem CN_c {I I' : Mm} {R : Nat → Nat → Option Nat} {b c e : Nat} (h : LC2 I I' R b c e) : CN I' R b c e = CN I R b c e := by
  unfold CN sl
  rw [h.1, h.2.1]
  refine List.map_congr_left (fun k _ => ?_)
  have q := h.2.2 (((I (Ln R b c e) 1).toNatClampNeg + k) % 8) (by omega)
  unfold cnq
  rw [q.1, q.2.1, q.2.2]
theorem i_C {S : MM} {b c c' : Nat} (hL : LY S b) (hO : OC S) (hc : c < 8) (hc' : c' < 8) (z : Cb (sR S) b c = Cb (sR S) b c') : c = c' := by
  have h1 := (ly_C hL hc).1
  have h2 := (ly_C hL hc').1
  rw [← z] at h2
  exact (oc_i hO (ly_ca hL).2.1 (ly_ca hL).2.1 rfl rfl (Or.inl (by decide)) (Or.inl (by decide)) h1 h2).2
theorem i_Ln {S : MM} {b c c' e e' : Nat} (hL : LY S b) (hO : OC S) (hc : c < 8) (hc' : c' < 8) (he : e < 2) (he' : e' < 2) (z : Ln (sR S) b c e = Ln (sR S) b c' e') : c = c' ∧ e = e' := by
  have h1 := (ly_N hL hc he).1
  have h2 := (ly_N hL hc' he').1
  rw [← z] at h2
  have q := oc_i hO (ly_la hL hc).2.1 (ly_la hL hc').2.1 rfl rfl (Or.inl (by decide)) (Or.inl (by decide)) h1 h2
  have h3 := (ly_la hL hc).1
  have h4 := (ly_la hL hc').1
  rw [← q.1] at h4
  have q2 := oc_i hO (ly_C hL hc).2.1 (ly_C hL hc').2.1 rfl rfl (Or.inl (by decide)) (Or.inl (by decide)) h3 h4
  exact ⟨i_C hL hO hc hc' q2.1, q.2⟩
theorem i_Nt {S : MM} {b c c' e e' i i' : Nat} (hL : LY S b) (hO : OC S) (hc : c < 8) (hc' : c' < 8) (he : e < 2) (he' : e' < 2) (hi : i < 8) (hi' : i' < 8) (z : Nt (sR S) b c e i = Nt (sR S) b c' e' i') : (c = c' ∧ e = e') ∧ i = i' := by
  have h1 := (ly_T hL hc he hi).1
  have h2 := (ly_T hL hc' he' hi').1
  rw [← z] at h2
  have q := oc_i hO (ly_na hL hc he).2.1 (ly_na hL hc' he').2.1 rfl rfl (Or.inl (by decide)) (Or.inl (by decide)) h1 h2
  have h3 := (ly_na hL hc he).1
  have h4 := (ly_na hL hc' he').1
  rw [← q.1] at h4
  have q2 := oc_i hO (ly_N hL hc he).2.1 (ly_N hL hc' he').2.1 rfl rfl (Or.inl (by decide)) (Or.inl (by decide)) h3 h4
  exact ⟨i_Ln hL hO hc hc' he he' q2.1, q.2⟩
/-- a note is put at the end of the ring -/
theorem cn_add {S : MM} {b c e e2 x : Nat} {I : Mm} {v : Int32} (hL : LY S b) (hO : OC S) (hc : c < 8) (he : e < 2) (he2 : e2 < 2) (hx : x < 8) (hn : (I (Ln (sR S) b c e) 2).toNatClampNeg < 8) (h2 : ∃ n, n < 9 ∧ I (Ln (sR S) b c e) 2 = nI n) : CN (f_X3_addNote I (sR S) b c e e2 x v) (sR S) b c e = CN I (sR S) b c e ++ [nq c e v (I (Ow (sR S) b e2 x)) (I (Pa (sR S) b e2 x))] := by
  generalize hs : (((I (Ln (sR S) b c e) 1).toNatClampNeg + (I (Ln (sR S) b c e) 2).toNatClampNeg) % 8) = s0
  have s8 : s0 < 8 := by omega
  have kT := (ly_T hL hc he s8).2.1
  have kO := (ly_TO hL hc he s8).2.1
  have kP := (ly_TP hL hc he s8).2.1
  have kL := (ly_N hL hc he).2.1
  have kow := (ly_O hL he2 hx).2.1
  have kpa := (ly_Q hL he2 hx).2.1
  have toO := to_nO hL hc he s8
  have toP := to_nP hL hc he s8
  have tow : TO S (Ow (sR S) b e2 x) (Pt (sR S) b e2 x) 0 := ⟨(ly_O hL he2 hx).1, Or.inl (ly_P hL he2 hx).2.1⟩
  have tpa : TO S (Pa (sR S) b e2 x) (Pt (sR S) b e2 x) 1 := ⟨(ly_Q hL he2 hx).1, Or.inl (ly_P hL he2 hx).2.1⟩
  have nTP : Nt (sR S) b c e s0 ≠ Pt (sR S) b e2 x := ne_k kT (ly_P hL he2 hx).2.1 (by decide)
  have nOo : NtO (sR S) b c e s0 ≠ Ow (sR S) b e2 x := to_a hO toO tow nTP
  have nPp : NtP (sR S) b c e s0 ≠ Pa (sR S) b e2 x := to_a hO toP tpa nTP
  have nOp : Pa (sR S) b e2 x ≠ NtO (sR S) b c e s0 := to_a hO tpa toO nTP.symm
  have nPO : NtO (sR S) b c e s0 ≠ NtP (sR S) b c e s0 := to_j hO toO toP (by decide)
  obtain ⟨n, hn9, en⟩ := h2
  have cl : (I (Ln (sR S) b c e) 2).toNatClampNeg = n := by rw [en, nI_cl (by omega)]
  have E : f_X3_addNote I (sR S) b c e e2 x v = up2 (up2 (f_X6_copyFrom (f_X6_copyFrom I (NtO (sR S) b c e s0) (Ow (sR S) b e2 x)) (NtP (sR S) b c e s0) (Pa (sR S) b e2 x)) (Nt (sR S) b c e s0) 2 v) (Ln (sR S) b c e) 2 (nI ((I (Ln (sR S) b c e) 2).toNatClampNeg + 1)) := by
    unfold f_X3_addNote
    rw [if_pos hn, hs]
  have k : ∀ z, z ≠ NtO (sR S) b c e s0 → z ≠ NtP (sR S) b c e s0 → z ≠ Nt (sR S) b c e s0 → z ≠ Ln (sR S) b c e → f_X3_addNote I (sR S) b c e e2 x v z = I z := fun z h1 h2 h3 h4 => by rw [E, up2_row h4, up2_row h3, n_X6_copyFrom h2, n_X6_copyFrom h1]
  have l1 : f_X3_addNote I (sR S) b c e e2 x v (Ln (sR S) b c e) 1 = I (Ln (sR S) b c e) 1 := by rw [E, up2_jn (by decide), up2_row (ne_k kL kT (by decide)), n_X6_copyFrom (ne_k kL kP (by decide)), n_X6_copyFrom (ne_k kL kO (by decide))]
  have l2 : f_X3_addNote I (sR S) b c e e2 x v (Ln (sR S) b c e) 2 = nI (n + 1) := by rw [E, up2_self, cl]
  have tT : f_X3_addNote I (sR S) b c e e2 x v (Nt (sR S) b c e s0) 2 = v := by rw [E, up2_row (ne_k kT kL (by decide)), up2_self]
  have tO : ∀ j, j < 5 → f_X3_addNote I (sR S) b c e e2 x v (NtO (sR S) b c e s0) j = I (Ow (sR S) b e2 x) j := fun j hj => by
    rw [E, up2_row (ne_k kO kL (by decide)), up2_row (ne_k kO kT (by decide)), n_X6_copyFrom nPO, rr_X6_copyFrom nOo]
    have cj : j = 0 ∨ j = 1 ∨ j = 2 ∨ j = 3 ∨ j = 4 := by omega
    unfold r_X6_copyFrom
    rcases cj with rfl | rfl | rfl | rfl | rfl <;> simp (disch := decide) only [pk_us, pk_un]
  have tP : ∀ j, j < 5 → f_X3_addNote I (sR S) b c e e2 x v (NtP (sR S) b c e s0) j = I (Pa (sR S) b e2 x) j := fun j hj => by
    rw [E, up2_row (ne_k kP kL (by decide)), up2_row (ne_k kP kT (by decide)), rr_X6_copyFrom nPp, n_X6_copyFrom nOp]
    have cj : j = 0 ∨ j = 1 ∨ j = 2 ∨ j = 3 ∨ j = 4 := by omega
    unfold r_X6_copyFrom
    rcases cj with rfl | rfl | rfl | rfl | rfl <;> simp (disch := decide) only [pk_us, pk_un]
  unfold CN sl
  rw [l1, l2, nI_cl (by omega), cl, List.range_succ, List.map_append]
  congr 1
  · refine List.map_congr_left (fun k0 hk => ?_)
    have hk := List.mem_range.mp hk
    have s1 : ((I (Ln (sR S) b c e) 1).toNatClampNeg + k0) % 8 < 8 := by omega
    have ne : ((I (Ln (sR S) b c e) 1).toNatClampNeg + k0) % 8 ≠ s0 := by omega
    generalize ((I (Ln (sR S) b c e) 1).toNatClampNeg + k0) % 8 = s at s1 ne
    have nT : Nt (sR S) b c e s ≠ Nt (sR S) b c e s0 := fun z => ne (i_Nt hL hO hc hc he he s1 s8 z).2
    unfold cnq
    rw [k _ (to_a hO (to_nO hL hc he s1) toO nT) (to_j hO (to_nO hL hc he s1) toP (by decide)) (ne_k (ly_TO hL hc he s1).2.1 kT (by decide)) (ne_k (ly_TO hL hc he s1).2.1 kL (by decide)), k _ (to_j hO (to_nP hL hc he s1) toO (by decide)) (to_a hO (to_nP hL hc he s1) toP nT) (ne_k (ly_TP hL hc he s1).2.1 kT (by decide)) (ne_k (ly_TP hL hc he s1).2.1 kL (by decide)), k _ (ne_k (ly_T hL hc he s1).2.1 kO (by decide)) (ne_k (ly_T hL hc he s1).2.1 kP (by decide)) nT (ne_k (ly_T hL hc he s1).2.1 kL (by decide))]
  · rw [cl] at hs
    show [cnq _ (sR S) b c e (((I (Ln (sR S) b c e) 1).toNatClampNeg + n) % 8)] = _
    rw [hs]
    unfold cnq
    rw [tT, nq_c tO tP]
