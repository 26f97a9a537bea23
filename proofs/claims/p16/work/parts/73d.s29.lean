/-! SIMULATION 29: port, manner; a cable goes out -/
theorem bt_key {a q k k' : Int32} {s : Nat} (hs : s < 5) : sbv (btv a q k (nI s)) (nI 4) (decide (¬ k' ≤ 0)) = btv a q k' (nI s) := by
  rw [btv_b hs, btv_b hs]
  exact bt_k _ _ _ _ ⟨s, hs⟩
theorem bt_man {a q k a' q' : Int32} {s : Nat} (hs : s < 5) : sbv (sbv (btv a q k (nI s)) (nI 1) (decide (¬ a' = 0))) (nI 2) (decide (¬ q' = 0)) = btv a' q' k (nI s) := by
  rw [btv_b hs, btv_b hs]
  exact bt_m _ _ _ _ _ ⟨s, hs⟩
theorem oxy {R : Nat → Nat → Option Nat} {b e i : Nat} (hi : i < 8) : ox R b (8 * e + i) = Ow R b e i := (oxe hi).symm
theorem prt_sim {S : MM} {b m cl nt e i : Nat} {A : Nat → Nat} {I J J' : Mm} {k p : Int32} (hL : LY S b) (hO : OC S) (he : e < 2) (hi : i < 8) (h : NRl (sR S) b m A I J cl nt) (j3 : J' (A 3) (8 * e + i) = k) (j4 : J' (A 4) (8 * e + i) = p) (jo : ∀ q j, dm q → 3 ≤ q → q ≤ 4 → j ≠ 8 * e + i → J' (A q) j = J (A q) j) (jk : ∀ q j, dm q → q ≠ 3 → q ≠ 4 → J' (A q) j = J (A q) j) (j43 : J' m 43 = J m 43) (j32 : J' m 32 = J m 32) : NRl (sR S) b m A (f_X6_setBits (up2 (up2 I (Ow (sR S) b e i) 1 k) (Ow (sR S) b e i) 2 p) (Ow (sR S) b e i) (nI 4) (if k ≤ 0 then nI 0 else nI 1)) J' cl nt := by
  have hy : 8 * e + i < 16 := by omega
  have hr := (h.1 _ hy).1
  obtain ⟨o0, o1, o2, o3, o4⟩ := PR_o hr.1
  obtain ⟨s, hs, es⟩ := hr.2.1.1
  have eb : decide (¬ (if k ≤ 0 then nI 0 else nI 1) = 0) = decide (¬ k ≤ 0) := by
    by_cases q : k ≤ 0
    · rw [if_pos q]; simp [q]; decide
    · rw [if_neg q]; simp [q]; decide
  have eo : ox (sR S) b (8 * e + i) = Ow (sR S) b e i := oxy hi
  have row : f_X6_setBits (up2 (up2 I (Ow (sR S) b e i) 1 k) (Ow (sR S) b e i) 2 p) (Ow (sR S) b e i) (nI 4) (if k ≤ 0 then nI 0 else nI 1) (Ow (sR S) b e i) = upd (upd (upd (I (Ow (sR S) b e i)) 1 k) 2 p) 4 (sbv (I (Ow (sR S) b e i) 4) (nI 4) (decide (¬ k ≤ 0))) := by
    rw [rr_X6_setBits, r_sb, up2_upd, up2_upd, eb, pk_un (by decide), pk_un (by decide)]
  refine own_sim hL hO hy h (fun z hz => ?_) ?_ ?_ ?_ ?_ ?_ (fun q j a b c d => ?_) (fun q j a b => jk q j a (by omega) (by omega)) j43 j32
  · rw [eo] at hz
    rw [n_X6_setBits hz, up2_row hz, up2_row hz]
  · rw [eo, row, pk_un (by decide), pk_un (by decide), pk_un (by decide)]
  · rw [eo, row, pk_un (by decide), pk_un (by decide), pk_us, j3]
  · rw [eo, row, pk_un (by decide), pk_us, j4]
  · rw [eo, row, pk_un (by decide), pk_un (by decide), pk_un (by decide)]
  · rw [eo, row, pk_us, ← eo, o4, es, bt_key hs, j3, jk 5 _ (by decide) (by decide) (by decide), jk 6 _ (by decide) (by decide) (by decide), jk 9 _ (by decide) (by decide) (by decide), es]
  · by_cases q3 : q ≤ 4
    · exact jo q j a b q3 d
    · exact jk q j a (by omega) (by omega)
theorem man_sim {S : MM} {b m cl nt e i : Nat} {A : Nat → Nat} {I J J' : Mm} {k p : Int32} (hL : LY S b) (hO : OC S) (he : e < 2) (hi : i < 8) (h : NRl (sR S) b m A I J cl nt) (j5 : J' (A 5) (8 * e + i) = k) (j6 : J' (A 6) (8 * e + i) = p) (jo : ∀ q j, dm q → 5 ≤ q → q ≤ 6 → j ≠ 8 * e + i → J' (A q) j = J (A q) j) (jk : ∀ q j, dm q → q ≠ 5 → q ≠ 6 → J' (A q) j = J (A q) j) (j43 : J' m 43 = J m 43) (j32 : J' m 32 = J m 32) : NRl (sR S) b m A (f_X6_setBits (f_X6_setBits I (Ow (sR S) b e i) (nI 1) k) (Ow (sR S) b e i) (nI 2) p) J' cl nt := by
  have hy : 8 * e + i < 16 := by omega
  have hr := (h.1 _ hy).1
  obtain ⟨o0, o1, o2, o3, o4⟩ := PR_o hr.1
  obtain ⟨s, hs, es⟩ := hr.2.1.1
  have eo : ox (sR S) b (8 * e + i) = Ow (sR S) b e i := oxy hi
  have row : f_X6_setBits (f_X6_setBits I (Ow (sR S) b e i) (nI 1) k) (Ow (sR S) b e i) (nI 2) p (Ow (sR S) b e i) = upd (upd (I (Ow (sR S) b e i)) 4 (sbv (I (Ow (sR S) b e i) 4) (nI 1) (decide (¬ k = 0)))) 4 (sbv (sbv (I (Ow (sR S) b e i) 4) (nI 1) (decide (¬ k = 0))) (nI 2) (decide (¬ p = 0))) := by
    rw [rr_X6_setBits, r_sb, rr_X6_setBits, r_sb, pk_us]
  refine own_sim hL hO hy h (fun z hz => ?_) ?_ ?_ ?_ ?_ ?_ (fun q j a b c d => ?_) (fun q j a b => jk q j a (by omega) (by omega)) j43 j32
  · rw [eo] at hz
    rw [n_X6_setBits hz, n_X6_setBits hz]
  · rw [eo, row, pk_un (by decide), pk_un (by decide)]
  · rw [eo, row, pk_un (by decide), pk_un (by decide), ← eo, o1, jk 3 _ (by decide) (by decide) (by decide)]
  · rw [eo, row, pk_un (by decide), pk_un (by decide), ← eo, o2, jk 4 _ (by decide) (by decide) (by decide)]
  · rw [eo, row, pk_un (by decide), pk_un (by decide)]
  · rw [eo, row, pk_us, ← eo, o4, es, bt_man hs, j5, j6, jk 3 _ (by decide) (by decide) (by decide), jk 9 _ (by decide) (by decide) (by decide), es]
  · by_cases q3 : 5 ≤ q
    · exact jo q j a q3 c d
    · exact jk q j a (by omega) (by omega)
/-! a port becomes dark -/
theorem mv_1 {re rp ro : Nat → Int32} {v : Int32} : (r_X1_moveTo re rp ro v).1 = (r_X5_setStage rp ro v).1 ∧ (r_X1_moveTo re rp ro v).2.1 = (r_X5_setStage rp ro v).2 := by
  unfold r_X1_moveTo
  repeat' split
  all_goals exact ⟨rfl, rfl⟩
theorem dk_port {rp ro rq re : Nat → Int32} {J J' : Mm} {A : Nat → Nat} {x : Nat} (h : PR rp ro rq J A x) (hv : PV J A x) (z7 : J' (A 7) x = 0) (z8 : J' (A 8) x = 0) (z9 : J' (A 9) x = 0) (z18 : ∀ k, k < 5 → J' (A 18) (5 * x + k) = 0) (e : ∀ k j, dm k → k ≤ 19 → k ≠ 7 → k ≠ 8 → k ≠ 9 → k ≠ 12 → k ≠ 13 → k ≠ 14 → k ≠ 15 → k ≠ 18 → (ow k j = x ∨ ow k j = 99) → J' (A k) j = J (A k) j) : PR (r_X5_becomeDark (r_X1_moveTo re rp ro (nI 0)).1 rq).1 (r_X1_moveTo re rp ro (nI 0)).2.1 (r_X5_becomeDark (r_X1_moveTo re rp ro (nI 0)).1 rq).2 J' A x ∧ PV J' A x ∧ (r_X5_becomeDark (r_X1_moveTo re rp ro (nI 0)).1 rq).1 12 = rp 12 := by
  obtain ⟨h2, h3, h4, h5, h6, h7, h8, h9, o0, o1, o2, o3, o4, q0, q1, q2, q3, q4⟩ := h
  obtain ⟨v1, v2, v3, v4⟩ := hv
  obtain ⟨s, hs, es⟩ := v1
  rw [es] at o4
  rw [mv_1.1, mv_1.2, r_stage hs (show 0 < 5 by decide) o4]
  unfold r_X5_becomeDark r_X6_clear
  dsimp only
  have z0 : (nI 0 : Int32) = 0 := rfl
  unfold PR PV
  rw [z7, z8, z9, e 11 x (by decide) (by decide) (by decide) (by decide) (by decide) (by decide) (by decide) (by decide) (by decide) (by decide) (Or.inl (ow_x (by decide))), e 10 x (by decide) (by decide) (by decide) (by decide) (by decide) (by decide) (by decide) (by decide) (by decide) (by decide) (Or.inl (ow_x (by decide))), e 19 (3 * x) (by decide) (by decide) (by decide) (by decide) (by decide) (by decide) (by decide) (by decide) (by decide) (by decide) (Or.inl ow_30), e 19 (3 * x + 1) (by decide) (by decide) (by decide) (by decide) (by decide) (by decide) (by decide) (by decide) (by decide) (by decide) (Or.inl (ow_3 (by decide))), e 19 (3 * x + 2) (by decide) (by decide) (by decide) (by decide) (by decide) (by decide) (by decide) (by decide) (by decide) (by decide) (Or.inl (ow_3 (by decide))), e 1 (x / 8) (by decide) (by decide) (by decide) (by decide) (by decide) (by decide) (by decide) (by decide) (by decide) (by decide) (Or.inr rfl), e 3 x (by decide) (by decide) (by decide) (by decide) (by decide) (by decide) (by decide) (by decide) (by decide) (by decide) (Or.inl (ow_x (by decide))), e 4 x (by decide) (by decide) (by decide) (by decide) (by decide) (by decide) (by decide) (by decide) (by decide) (by decide) (Or.inl (ow_x (by decide))), e 5 x (by decide) (by decide) (by decide) (by decide) (by decide) (by decide) (by decide) (by decide) (by decide) (by decide) (Or.inl (ow_x (by decide))), e 6 x (by decide) (by decide) (by decide) (by decide) (by decide) (by decide) (by decide) (by decide) (by decide) (by decide) (Or.inl (ow_x (by decide)))]
  rw [z18 1 (by decide), z18 2 (by decide), z18 3 (by decide), z18 4 (by decide), show J' (A 18) (5 * x) = 0 from z18 0 (by decide)]
  simp (disch := decide) only [pk_us, pk_un]
  exact ⟨⟨h2, rfl, rfl, rfl, h6, h7, h8, h9, o0, o1, o2, o3, rfl, rfl, rfl, rfl, rfl, rfl⟩, ⟨⟨0, by decide, rfl⟩, fun _ => trivial, fun z => absurd z (by decide), ⟨0, by decide, rfl⟩⟩, trivial⟩
def offE (R : Nat → Nat → Option Nat) (b c e p : Nat) (I : Mm) : Mm := f_X5_becomeDark (f_X1_moveTo (f_X3_clear (up2 I b 5 (I b 5 + nI (I (Ln R b c e) 5).toNatClampNeg)) R b c e) (En R b e) (Pt R b e p) (Ow R b e p) (nI 0)) (Pt R b e p) (Pa R b e p)
theorem off_E {S : MM} {b c p0 p1 : Nat} {I : Mm} (r0 : sR S (ppd (sR S) b c) 0 = some (Pt (sR S) b 0 p0)) (r1 : sR S (ppd (sR S) b c) 1 = some (Pt (sR S) b 1 p1)) : f_X7_switchOff I (sR S) b c = offE (sR S) b c 1 p1 (offE (sR S) b c 0 p0 (up2 I (Cb (sR S) b c) 3 (nI 0))) := by
  unfold f_X7_switchOff
  dsimp only
  rw [g_X7_switchOff_7, g_X7_switchOff_7, g_X7_switchOff_7]
  rw [r0, r1]
  rfl
/-- one end of a cable goes out -/
theorem offE_f {S : MM} {b c e p y : Nat} {I : Mm} (hL : LY S b) (hO : OC S) (hc : c < 8) (he : e < 2) (hp : p < 8) (ey : y = 8 * e + p) : (∀ z, z ≠ b → z ≠ Ln (sR S) b c e → z ≠ px (sR S) b y → z ≠ ox (sR S) b y → z ≠ qx (sR S) b y → z ≠ En (sR S) b e → offE (sR S) b c e p I z = I z) ∧ (∀ k, k ≠ 5 → offE (sR S) b c e p I b k = I b k) ∧ (∀ k, k ≠ 2 → k ≠ 5 → offE (sR S) b c e p I (Ln (sR S) b c e) k = I (Ln (sR S) b c e) k) ∧ offE (sR S) b c e p I (Ln (sR S) b c e) 2 = nI 0 ∧ (∀ k, k ≠ 8 → offE (sR S) b c e p I (En (sR S) b e) k = I (En (sR S) b e) k) ∧ (offE (sR S) b c e p I (px (sR S) b y) = (r_X5_becomeDark (r_X1_moveTo (I (En (sR S) b e)) (I (px (sR S) b y)) (I (ox (sR S) b y)) (nI 0)).1 (I (qx (sR S) b y))).1 ∧ offE (sR S) b c e p I (ox (sR S) b y) = (r_X1_moveTo (I (En (sR S) b e)) (I (px (sR S) b y)) (I (ox (sR S) b y)) (nI 0)).2.1 ∧ offE (sR S) b c e p I (qx (sR S) b y) = (r_X5_becomeDark (r_X1_moveTo (I (En (sR S) b e)) (I (px (sR S) b y)) (I (ox (sR S) b y)) (nI 0)).1 (I (qx (sR S) b y))).2) := by
  have hy : y < 16 := by omega
  have e8 : y / 8 = e := by omega
  have p8 : y % 8 = p := by omega
  have ep : px (sR S) b y = Pt (sR S) b e p := by show Pt (sR S) b (y / 8) (y % 8) = _; rw [e8, p8]
  have eo : ox (sR S) b y = Ow (sR S) b e p := by show Ow (sR S) b (y / 8) (y % 8) = _; rw [e8, p8]
  have eq : qx (sR S) b y = Pa (sR S) b e p := by show Pa (sR S) b (y / 8) (y % 8) = _; rw [e8, p8]
  have kE := (ly_E hL he).2.1
  have kN := (ly_N hL hc he).2.1
  have kp := k_px hL hy
  have ko := k_ox hL hy
  have kq := k_qx hL hy
  have npq := d_pq hL hO hy hy
  have npo := d_po hL hO hy hy
  have noq := d_oq hL hO hy hy
  have nEp : En (sR S) b e ≠ px (sR S) b y := ne_k kE kp (by decide)
  have nEo : En (sR S) b e ≠ ox (sR S) b y := ne_k kE ko (by decide)
  unfold offE
  rw [← ep, ← eo, ← eq]
  generalize hK : f_X3_clear (up2 I b 5 (I b 5 + nI (I (Ln (sR S) b c e) 5).toNatClampNeg)) (sR S) b c e = K
  have kz : ∀ z, z ≠ b → z ≠ Ln (sR S) b c e → K z = I z := fun z h1 h2 => by rw [← hK]; unfold f_X3_clear; rw [up2_row h2, up2_row h2, up2_row h1]
  have kb : ∀ k, k ≠ 5 → K b k = I b k := fun k hk => by rw [← hK]; unfold f_X3_clear; rw [up2_row (ne_k hL.2 kN (by decide)), up2_row (ne_k hL.2 kN (by decide)), up2_jn hk]
  have kl : ∀ k, k ≠ 2 → k ≠ 5 → K (Ln (sR S) b c e) k = I (Ln (sR S) b c e) k := fun k h2 h5 => by rw [← hK]; unfold f_X3_clear; rw [up2_jn h5, up2_jn h2, up2_row (ne_k kN hL.2 (by decide))]
  have kl2 : K (Ln (sR S) b c e) 2 = nI 0 := by rw [← hK]; unfold f_X3_clear; rw [up2_jn (by decide), up2_self]
  have rE := kz _ (ne_k kE hL.2 (by decide)) (ne_k kE kN (by decide))
  have rp := kz _ (ne_k kp hL.2 (by decide)) (ne_k kp kN (by decide))
  have ro := kz _ (ne_k ko hL.2 (by decide)) (ne_k ko kN (by decide))
  have rq := kz _ (ne_k kq hL.2 (by decide)) (ne_k kq kN (by decide))
  clear hK
  have mv := rr_X1_moveTo (I := K) (v := nI 0) nEp nEo npo
  have mz : ∀ z, z ≠ px (sR S) b y → z ≠ ox (sR S) b y → z ≠ En (sR S) b e → f_X1_moveTo K (En (sR S) b e) (px (sR S) b y) (ox (sR S) b y) (nI 0) z = K z := fun z h1 h2 h3 => n_X1_moveTo h1 h2 h3
  rw [rE, rp, ro] at mv
  generalize f_X1_moveTo K (En (sR S) b e) (px (sR S) b y) (ox (sR S) b y) (nI 0) = L at mv mz ⊢
  have bk := rr_X5_becomeDark (I := L) npq
  have bz : ∀ z, z ≠ px (sR S) b y → z ≠ qx (sR S) b y → f_X5_becomeDark L (px (sR S) b y) (qx (sR S) b y) z = L z := fun z h1 h2 => n_X5_becomeDark h1 h2
  rw [mv.1, mz _ npq.symm noq.symm (ne_k kq kE (by decide)), rq] at bk
  refine ⟨fun z h1 h2 h3 h4 h5 h6 => by rw [bz z h3 h5, mz z h3 h4 h6, kz z h1 h2], fun k hk => ?_, fun k h2 h5 => ?_, ?_, fun k hk => ?_, bk.1, ?_, bk.2⟩
  · rw [bz _ (ne_k hL.2 kp (by decide)) (ne_k hL.2 kq (by decide)), mz _ (ne_k hL.2 kp (by decide)) (ne_k hL.2 ko (by decide)) (ne_k hL.2 kE (by decide)), kb k hk]
  · rw [bz _ (ne_k kN kp (by decide)) (ne_k kN kq (by decide)), mz _ (ne_k kN kp (by decide)) (ne_k kN ko (by decide)) (ne_k kN kE (by decide)), kl k h2 h5]
  · rw [bz _ (ne_k kN kp (by decide)) (ne_k kN kq (by decide)), mz _ (ne_k kN kp (by decide)) (ne_k kN ko (by decide)) (ne_k kN kE (by decide)), kl2]
  · rw [bz _ nEp (ne_k kE kq (by decide)), mv.2.2, r_mv3 hk]
  · rw [bz _ npo.symm noq, mv.2.1]
