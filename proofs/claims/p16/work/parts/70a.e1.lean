/-! EXACT CONTRACTS: the memory with other ints -/
def wI (S : MM) (F : Nat → Nat → Int32) : MM := (sK S, sN S, F, sR S, sJ S)
theorem e_gE {ci k : Nat} {kt : Kt} {lv : Lv} {st : List Value} {S : MM} {c z a : Nat} (hk : sK S a = ci + 1) (h : kt lv (.int (sI S a k) :: st) S c z) : gI ci k kt lv (.ref a :: st) S c z := And.intro hk h
theorem e_aE {kd N : Nat} {kt : Kt} {lv : Lv} {st : List Value} {S : MM} {c z a j : Nat} (hk : sK S a = kd) (hn : sN S a = N) (hj : j < N) (hN : N < 2 ^ 31) (h : kt lv (.int (sI S a j) :: st) S c z) : aI kd kt lv (.int (nI j) :: .ref a :: st) S c z :=
  And.intro hk (And.intro (by rw [hn]; exact vp_in_nI hj hN) (by rw [nI_clamp (by omega)]; exact h))
theorem e_swk {hi : Int} {ts : Nat → Kt} {t : Kt} {lv : Lv} {st : List Value} {S : MM} {c z : Nat} (i : Nat) (hi0 : i < 100) (hi1 : (i : Int) ≤ hi) (h : ts i lv st S c z) : swt 0 hi ts t lv (.int (nI i) :: st) S c z := by
  have e0 : (nI i).toInt = (i : Int) := nI_toInt (by omega)
  refine ⟨fun q => ?_, fun j e hj => ?_⟩
  · rw [e0] at q
    omega
  · rw [e0] at e
    have : j = i := by omega
    subst this
    exact h
theorem e_swd {hi : Int} {ts : Nat → Kt} {t : Kt} {lv : Lv} {st : List Value} {S : MM} {c z : Nat} {x : Int32} (hx : hi < x.toInt) (h : t lv st S c z) : swt 0 hi ts t lv (.int x :: st) S c z := ⟨fun _ => h, fun j e hj => by omega⟩
theorem e_sw4 {ts : Nat → Kt} {t : Kt} {lv : Lv} {st : List Value} {S : MM} {c z : Nat} {x : Int32} (h0 : x = nI 0 → ts 0 lv st S c z) (h1 : ¬ x = nI 0 ∧ x = nI 1 → ts 1 lv st S c z) (h2 : ¬ x = nI 0 ∧ ¬ x = nI 1 ∧ x = nI 2 → ts 2 lv st S c z) (h3 : ¬ x = nI 0 ∧ ¬ x = nI 1 ∧ ¬ x = nI 2 ∧ x = nI 3 → ts 3 lv st S c z) (hd : ¬ x = nI 0 ∧ ¬ x = nI 1 ∧ ¬ x = nI 2 ∧ ¬ x = nI 3 → t lv st S c z) : swt 0 3 ts t lv (.int x :: st) S c z := by
  have t0 : (nI 0).toInt = 0 := by decide
  have t1 : (nI 1).toInt = 1 := by decide
  have t2 : (nI 2).toInt = 2 := by decide
  have t3 : (nI 3).toInt = 3 := by decide
  refine ⟨fun q => ?_, fun j e hj => ?_⟩
  · refine hd ⟨fun w => ?_, fun w => ?_, fun w => ?_, fun w => ?_⟩ <;> subst w <;> omega
  · have hj : j = 0 ∨ j = 1 ∨ j = 2 ∨ j = 3 := by omega
    rcases hj with rfl | rfl | rfl | rfl
    · exact h0 (Int32.toInt_inj.mp (by omega))
    · exact h1 ⟨fun w => by subst w; omega, Int32.toInt_inj.mp (by omega)⟩
    · exact h2 ⟨fun w => by subst w; omega, fun w => by subst w; omega, Int32.toInt_inj.mp (by omega)⟩
    · exact h3 ⟨fun w => by subst w; omega, fun w => by subst w; omega, fun w => by subst w; omega, Int32.toInt_inj.mp (by omega)⟩
theorem e_incE {k : Kt} {lv : Lv} {st : List Value} {S : MM} {c z i : Nat} {x n : Int32} (g : lvg lv i = some (.int x)) (h : k (lvs lv i (.int (x + n))) st S c z) : inc i n k lv st S c z := by unfold inc; rw [g]; exact h
theorem kx_p {α : Type} {c : Prop} {d : Decidable c} {P : α → Prop} {a b : α} (h : c) (K : P (@ite _ c d a b)) : P a := by rw [if_pos h] at K; exact K
theorem kx_n {α : Type} {c : Prop} {d : Decidable c} {P : α → Prop} {a b : α} (h : ¬ c) (K : P (@ite _ c d a b)) : P b := by rw [if_neg h] at K; exact K
theorem e_aX {kd N : Nat} {kt : Kt} {lv : Lv} {st : List Value} {S : MM} {c z a j : Nat} (hk : sK S a = kd) (hn : sN S a = N) (hj : j < N) (hN : N < 2 ^ 31) (h0 : sR S a j = none → kt lv (.null :: st) S c z) (h1 : ¬ sR S a j = none → kt lv (.ref ((sR S a j).getD 0) :: st) S c z) : aR kd kt lv (.int (nI j) :: .ref a :: st) S c z :=
  e_aO hk hn hj hN h0 (fun b hb => by
    have h2 := h1 (by rw [hb]; exact fun z => nomatch z)
    rw [hb] at h2
    exact h2)
/-! WHERE THE CLASS'S CELLS ARE -/
def LY (S : MM) (b : Nat) : Prop := TY S ∧ sK S b = 8
def ead (R : Nat → Nat → Option Nat) (b : Nat) : Nat := (R b 0).getD 0
def cad (R : Nat → Nat → Option Nat) (b : Nat) : Nat := (R b 1).getD 0
def En (R : Nat → Nat → Option Nat) (b e : Nat) : Nat := (R (ead R b) e).getD 0
def pad (R : Nat → Nat → Option Nat) (b e : Nat) : Nat := (R (En R b e) 0).getD 0
def kad (R : Nat → Nat → Option Nat) (b e : Nat) : Nat := (R (En R b e) 4).getD 0
def Pt (R : Nat → Nat → Option Nat) (b e i : Nat) : Nat := (R (pad R b e) i).getD 0
def Ow (R : Nat → Nat → Option Nat) (b e i : Nat) : Nat := (R (Pt R b e i) 0).getD 0
def Pa (R : Nat → Nat → Option Nat) (b e i : Nat) : Nat := (R (Pt R b e i) 1).getD 0
def La (R : Nat → Nat → Option Nat) (b e i : Nat) : Nat := (R (Pt R b e i) 14).getD 0
def Cb (R : Nat → Nat → Option Nat) (b c : Nat) : Nat := (R (cad R b) c).getD 0
def ppd (R : Nat → Nat → Option Nat) (b c : Nat) : Nat := (R (Cb R b c) 0).getD 0
def lad (R : Nat → Nat → Option Nat) (b c : Nat) : Nat := (R (Cb R b c) 1).getD 0
def Ln (R : Nat → Nat → Option Nat) (b c e : Nat) : Nat := (R (lad R b c) e).getD 0
def nad (R : Nat → Nat → Option Nat) (b c e : Nat) : Nat := (R (Ln R b c e) 0).getD 0
def fad (R : Nat → Nat → Option Nat) (b c e : Nat) : Nat := (R (Ln R b c e) 3).getD 0
def Nt (R : Nat → Nat → Option Nat) (b c e i : Nat) : Nat := (R (nad R b c e) i).getD 0
def NtO (R : Nat → Nat → Option Nat) (b c e i : Nat) : Nat := (R (Nt R b c e i) 0).getD 0
def NtP (R : Nat → Nat → Option Nat) (b c e i : Nat) : Nat := (R (Nt R b c e i) 1).getD 0
theorem ly_f {S : MM} {a kd j k n : Nat} (hT : TY S) (ka : sK S a = kd) (h : rf kd j = some (k, n)) : sR S a j = some ((sR S a j).getD 0) ∧ sK S ((sR S a j).getD 0) = k ∧ sN S ((sR S a j).getD 0) = n := by
  obtain ⟨b, h1, h2, h3⟩ := hT.1 a kd j k n ka h
  rw [h1]
  exact ⟨rfl, h2, h3⟩
theorem ly_e {S : MM} {a kd j k n : Nat} (hT : TY S) (ka : sK S a = kd) (na : sN S a = n) (h : re kd n = some k) (hj : j < n) : sR S a j = some ((sR S a j).getD 0) ∧ sK S ((sR S a j).getD 0) = k ∧ sN S ((sR S a j).getD 0) = 0 := by
  obtain ⟨b, h1, h2, h3⟩ := hT.2.1 a kd n k j ka na h hj
  rw [h1]
  exact ⟨rfl, h2, h3⟩
theorem ly_nn {S : MM} {a kd j k : Nat} (hT : TY S) (ka : sK S a = kd) (h : rn kd = some k) (hn : ¬ sR S a j = none) : sK S ((sR S a j).getD 0) = k := by
  cases hb : sR S a j with
  | none => exact absurd hb hn
  | some b => exact (hT.2.2 a kd k j b ka h hb).1
theorem ly_ea {S : MM} {b : Nat} (hL : LY S b) : sR S b 0 = some (ead (sR S) b) ∧ sK S (ead (sR S) b) = 13 ∧ sN S (ead (sR S) b) = 2 := ly_f hL.1 hL.2 rfl
theorem ly_ca {S : MM} {b : Nat} (hL : LY S b) : sR S b 1 = some (cad (sR S) b) ∧ sK S (cad (sR S) b) = 12 ∧ sN S (cad (sR S) b) = 8 := ly_f hL.1 hL.2 rfl
theorem ly_E {S : MM} {b e : Nat} (hL : LY S b) (he : e < 2) : sR S (ead (sR S) b) e = some (En (sR S) b e) ∧ sK S (En (sR S) b e) = 2 ∧ sN S (En (sR S) b e) = 0 := ly_e hL.1 (ly_ea hL).2.1 (ly_ea hL).2.2 rfl he
theorem ly_pa {S : MM} {b e : Nat} (hL : LY S b) (he : e < 2) : sR S (En (sR S) b e) 0 = some (pad (sR S) b e) ∧ sK S (pad (sR S) b e) = 17 ∧ sN S (pad (sR S) b e) = 8 := ly_f hL.1 (ly_E hL he).2.1 rfl
theorem ly_ka {S : MM} {b e : Nat} (hL : LY S b) (he : e < 2) : sR S (En (sR S) b e) 4 = some (kad (sR S) b e) ∧ sK S (kad (sR S) b e) = 10 ∧ sN S (kad (sR S) b e) = 200 := ly_f hL.1 (ly_E hL he).2.1 rfl
theorem ly_P {S : MM} {b e i : Nat} (hL : LY S b) (he : e < 2) (hi : i < 8) : sR S (pad (sR S) b e) i = some (Pt (sR S) b e i) ∧ sK S (Pt (sR S) b e i) = 6 ∧ sN S (Pt (sR S) b e i) = 0 := ly_e hL.1 (ly_pa hL he).2.1 (ly_pa hL he).2.2 rfl hi
theorem ly_O {S : MM} {b e i : Nat} (hL : LY S b) (he : e < 2) (hi : i < 8) : sR S (Pt (sR S) b e i) 0 = some (Ow (sR S) b e i) ∧ sK S (Ow (sR S) b e i) = 7 ∧ sN S (Ow (sR S) b e i) = 0 := ly_f hL.1 (ly_P hL he hi).2.1 rfl
theorem ly_Q {S : MM} {b e i : Nat} (hL : LY S b) (he : e < 2) (hi : i < 8) : sR S (Pt (sR S) b e i) 1 = some (Pa (sR S) b e i) ∧ sK S (Pa (sR S) b e i) = 7 ∧ sN S (Pa (sR S) b e i) = 0 := ly_f hL.1 (ly_P hL he hi).2.1 rfl
theorem ly_L {S : MM} {b e i : Nat} (hL : LY S b) (he : e < 2) (hi : i < 8) : sR S (Pt (sR S) b e i) 14 = some (La (sR S) b e i) ∧ sK S (La (sR S) b e i) = 7 ∧ sN S (La (sR S) b e i) = 0 := ly_f hL.1 (ly_P hL he hi).2.1 rfl
theorem ly_C {S : MM} {b c : Nat} (hL : LY S b) (hc : c < 8) : sR S (cad (sR S) b) c = some (Cb (sR S) b c) ∧ sK S (Cb (sR S) b c) = 1 ∧ sN S (Cb (sR S) b c) = 0 := ly_e hL.1 (ly_ca hL).2.1 (ly_ca hL).2.2 rfl hc
theorem ly_pp {S : MM} {b c : Nat} (hL : LY S b) (hc : c < 8) : sR S (Cb (sR S) b c) 0 = some (ppd (sR S) b c) ∧ sK S (ppd (sR S) b c) = 17 ∧ sN S (ppd (sR S) b c) = 2 := ly_f hL.1 (ly_C hL hc).2.1 rfl
theorem ly_la {S : MM} {b c : Nat} (hL : LY S b) (hc : c < 8) : sR S (Cb (sR S) b c) 1 = some (lad (sR S) b c) ∧ sK S (lad (sR S) b c) = 15 ∧ sN S (lad (sR S) b c) = 2 := ly_f hL.1 (ly_C hL hc).2.1 rfl
theorem ly_N {S : MM} {b c e : Nat} (hL : LY S b) (hc : c < 8) (he : e < 2) : sR S (lad (sR S) b c) e = some (Ln (sR S) b c e) ∧ sK S (Ln (sR S) b c e) = 4 ∧ sN S (Ln (sR S) b c e) = 0 := ly_e hL.1 (ly_la hL hc).2.1 (ly_la hL hc).2.2 rfl he
theorem ly_na {S : MM} {b c e : Nat} (hL : LY S b) (hc : c < 8) (he : e < 2) : sR S (Ln (sR S) b c e) 0 = some (nad (sR S) b c e) ∧ sK S (nad (sR S) b c e) = 16 ∧ sN S (nad (sR S) b c e) = 8 := ly_f hL.1 (ly_N hL hc he).2.1 rfl
theorem ly_fa {S : MM} {b c e : Nat} (hL : LY S b) (hc : c < 8) (he : e < 2) : sR S (Ln (sR S) b c e) 3 = some (fad (sR S) b c e) ∧ sK S (fad (sR S) b c e) = 14 ∧ sN S (fad (sR S) b c e) = 200 := ly_f hL.1 (ly_N hL hc he).2.1 rfl
theorem ly_T {S : MM} {b c e i : Nat} (hL : LY S b) (hc : c < 8) (he : e < 2) (hi : i < 8) : sR S (nad (sR S) b c e) i = some (Nt (sR S) b c e i) ∧ sK S (Nt (sR S) b c e i) = 5 ∧ sN S (Nt (sR S) b c e i) = 0 := ly_e hL.1 (ly_na hL hc he).2.1 (ly_na hL hc he).2.2 rfl hi
theorem ly_TO {S : MM} {b c e i : Nat} (hL : LY S b) (hc : c < 8) (he : e < 2) (hi : i < 8) : sR S (Nt (sR S) b c e i) 0 = some (NtO (sR S) b c e i) ∧ sK S (NtO (sR S) b c e i) = 7 ∧ sN S (NtO (sR S) b c e i) = 0 := ly_f hL.1 (ly_T hL hc he hi).2.1 rfl
theorem ly_TP {S : MM} {b c e i : Nat} (hL : LY S b) (hc : c < 8) (he : e < 2) (hi : i < 8) : sR S (Nt (sR S) b c e i) 1 = some (NtP (sR S) b c e i) ∧ sK S (NtP (sR S) b c e i) = 7 ∧ sN S (NtP (sR S) b c e i) = 0 := ly_f hL.1 (ly_T hL hc he hi).2.1 rfl
/-! WHAT A METHOD OWES: its result, and what is in range behind it -/
def KP (Q : Option Value → MM → Prop) (S : MM) (v : Int32) : Prop := Q (some (.int v)) S
theorem KP_i {Q : Option Value → MM → Prop} {S : MM} {v : Int32} (h : Q (some (.int v)) S) : KP Q S v := h
def KVC (Q : Option Value → MM → Prop) (S : MM) (F : Nat → Nat → Int32) : Prop := IR (wI S F) → Q none (wI S F)
def KBC (Q : Option Value → MM → Prop) (S : MM) (t : (Nat → Nat → Int32) × Int32) : Prop := IR (wI S t.1) → Q (some (.int t.2)) (wI S t.1)
def KVM (m : Nat) (A : Nat → Nat) (Q : Option Value → MM → Prop) (S : MM) (F : Nat → Nat → Int32) : Prop := IM (wI S F) m A → Q none (wI S F)
def KBM (m : Nat) (A : Nat → Nat) (Q : Option Value → MM → Prop) (S : MM) (t : (Nat → Nat → Int32) × Int32) : Prop := IM (wI S t.1) m A → Q (some (.int t.2)) (wI S t.1)
theorem nI_cl {n : Nat} (h : n < 2 ^ 31) : (nI n).toNatClampNeg = n := nI_clamp h
theorem ir_n {S : MM} {a kd k N : Nat} (ir : IR S) (ka : sK S a = kd) (h : rg kd k = some N) : sI S a k = nI (sI S a k).toNatClampNeg ∧ (sI S a k).toNatClampNeg < N := by
  obtain ⟨n, hn, e⟩ := ir a kd k N ka h
  have hN : N ≤ 201 := by
    unfold rg at h
    split at h <;> first | (cases h; omega) | cases h
  rw [e, nI_cl (by omega)]
  exact ⟨rfl, hn⟩
theorem im_n {S : MM} {m j N : Nat} {A : Nat → Nat} (im : IM S m A) (h : rs j = some N) : sI S m j = nI (sI S m j).toNatClampNeg ∧ (sI S m j).toNatClampNeg < N := by
  obtain ⟨n, hn, e⟩ := im.2.1 j N h
  have hN : N ≤ 4001 := by
    unfold rs at h
    split at h <;> first | (cases h; omega) | cases h
  rw [e, nI_cl (by omega)]
  exact ⟨rfl, hn⟩
theorem im_a {S : MM} {m k N : Nat} {A : Nat → Nat} (im : IM S m A) (h : ra k = some N) (j : Nat) : sI S (A k) j = nI (sI S (A k) j).toNatClampNeg ∧ (sI S (A k) j).toNatClampNeg < N := by
  obtain ⟨n, hn, e⟩ := im.1 k N h j
  have hN : N ≤ 8 := by
    unfold ra at h
    split at h <;> first | (cases h; omega) | cases h
  rw [e, nI_cl (by omega)]
  exact ⟨rfl, hn⟩
theorem e_aVj {kd N M : Nat} {kt : Kt} {lv : Lv} {st : List Value} {S : MM} {c z a j : Nat} (hk : sK S a = kd) (hn : sN S a = N) (hj : j < N) (hN : N < 2 ^ 31) (q : ∀ j, sI S a j = nI (sI S a j).toNatClampNeg ∧ (sI S a j).toNatClampNeg < M) (h : (sI S a j).toNatClampNeg < M → kt lv (.int (nI (sI S a j).toNatClampNeg) :: st) S c z) : aI kd kt lv (.int (nI j) :: .ref a :: st) S c z := e_aV hk hn hj hN (q j).1 (h (q j).2)
theorem e_tJ {ci k : Nat} {kt : Kt} {lv : Lv} {st : List Value} {S : MM} {c z a : Nat} {v : Int32} (hk : sK S a = ci + 1) (ir : IR S) (hr : ∀ N, rg (ci + 1) k = some N → ∃ n, n < N ∧ v = nI n) (h : IR (pI S a k v) → kt lv st (pI S a k v) c z) : tI ci k kt lv (.int v :: .ref a :: st) S c z := And.intro hk (h (IR_w ir hk hr))
theorem e_tZJ {ci k : Nat} {kt : Kt} {lv : Lv} {st : List Value} {S : MM} {c z a : Nat} {v : Int32} (hk : sK S a = ci + 1) (hv : v = 0 ∨ v = 1) (ir : IR S) (hr : ∀ N, rg (ci + 1) k = some N → ∃ n, n < N ∧ v = nI n) (h : IR (pI S a k v) → kt lv st (pI S a k v) c z) : tZ ci k kt lv (.int v :: .ref a :: st) S c z := And.intro hk (And.intro hv (h (IR_w ir hk hr)))
theorem e_kJ {kt : Kt} {lv : Lv} {st : List Value} {S : MM} {c z a j N : Nat} {v : Int32} (hk : sK S a = 10) (hn : sN S a = N) (hj : j < N) (hN : N < 2 ^ 31) (ir : IR S) (h : IR (pI S a j v) → kt lv st (pI S a j v) c z) : sAI kt lv (.int v :: .int (nI j) :: .ref a :: st) S c z := e_sAI hk hn hj hN (h (IR_w ir hk (fun N e => by simp [rg] at e)))
theorem e_mT {k : Nat} {kt : Kt} {lv : Lv} {st : List Value} {S S0 : MM} {m : Nat} {A : Nat → Nat} {c z : Nat} {v : Int32} (hM : MS S0 m A) (im : IM S m A) (hk : sK S m = 9) (hr : ∀ N, rs k = some N → ∃ n, n < N ∧ v = nI n) (h : IM (pI S m k v) m A → kt lv st (pI S m k v) c z) : tI 8 k kt lv (.int v :: .ref m :: st) S c z := And.intro hk (h (IM_wm hM im hr))
theorem e_mTZ {k : Nat} {kt : Kt} {lv : Lv} {st : List Value} {S S0 : MM} {m : Nat} {A : Nat → Nat} {c z : Nat} {v : Int32} (hM : MS S0 m A) (im : IM S m A) (hk : sK S m = 9) (hv : v = 0 ∨ v = 1) (hr : ∀ N, rs k = some N → ∃ n, n < N ∧ v = nI n) (h : IM (pI S m k v) m A → kt lv st (pI S m k v) c z) : tZ 8 k kt lv (.int v :: .ref m :: st) S c z := And.intro hk (And.intro hv (h (IM_wm hM im hr)))
theorem e_mA {k j N : Nat} {kt : Kt} {lv : Lv} {st : List Value} {S S0 : MM} {m : Nat} {A : Nat → Nat} {c z : Nat} {v : Int32} (hM : MS S0 m A) (im : IM S m A) (hd : k ∈ DM) (hk : sK S (A k) = 10) (hn : sN S (A k) = N) (hj : j < N) (hN : N < 2 ^ 31) (hr : ∀ N, ra k = some N → ∃ n, n < N ∧ v = nI n) (h30 : k = 30 → v = -1 ∨ ∃ f, f < 4200 ∧ v = nI f) (h : IM (pI S (A k) j v) m A → kt lv st (pI S (A k) j v) c z) : sAI kt lv (.int v :: .int (nI j) :: .ref (A k) :: st) S c z := e_sAI hk hn hj hN (h (IM_wa hM im hd hr h30))
theorem e_mB {k j N : Nat} {kt : Kt} {lv : Lv} {st : List Value} {S S0 : MM} {m : Nat} {A : Nat → Nat} {c z : Nat} {v : Int32} (hM : MS S0 m A) (im : IM S m A) (hd : k ∈ DM) (hk : sK S (A k) = 11) (hn : sN S (A k) = N) (hj : j < N) (hN : N < 2 ^ 31) (hv : v = 0 ∨ v = 1) (hr : ∀ N, ra k = some N → ∃ n, n < N ∧ v = nI n) (h30 : k = 30 → v = -1 ∨ ∃ f, f < 4200 ∧ v = nI f) (h : IM (pI S (A k) j v) m A → kt lv st (pI S (A k) j v) c z) : sAZ kt lv (.int v :: .int (nI j) :: .ref (A k) :: st) S c z :=
  And.intro hk (And.intro (by rw [hn]; exact vp_in_nI hj hN) (And.intro hv (by rw [nI_clamp (by omega)]; exact h (IM_wa hM im hd hr h30))))
def KAC (kd : Nat) (Q : Option Value → MM → Prop) (S : MM) (t : (Nat → Nat → Int32) × Option Nat) : Prop := IR (wI S t.1) → (t.2 = none ∨ sK S (t.2.getD 0) = kd) → Q (some (va_rf t.2)) (wI S t.1)
theorem e_stV {k : Kt} {lv : Lv} {st : List Value} {S : MM} {c z i : Nat} {o : Option Nat} (h0 : o = none → k (lvs lv i .null) st S c z) (h1 : ¬ o = none → k (lvs lv i (.ref (o.getD 0))) st S c z) : stA i k lv (va_rf o :: st) S c z := by
  cases o with
  | none => exact h0 rfl
  | some n => exact h1 (fun z => nomatch z)
abbrev cbl (v : Int32) : Prop := ¬ v < 0 ∧ ¬ 8 ≤ v
theorem cbl_e {v : Int32} (h : cbl v) : v = nI v.toNatClampNeg ∧ v.toNatClampNeg < 8 := by
  rcases pk_ix v (n := 8) (by decide) with q | q | ⟨j, hj, e⟩
  · exact absurd q h.1
  · exact absurd q h.2
  · rw [e, nI_cl (by omega)]
    exact ⟨rfl, hj⟩
theorem x_cbl {Q : Option Value → MM → Prop} {S : MM} {v : Int32} (h0 : ¬ cbl v → Q (some (.int (nI 0))) S) (h1 : cbl v → Q (some (.int (nI 1))) S) : wX7_isCable [.int v] S Q :=
  Exists.intro 3 (And.intro (fun q => And.intro (Or.inl rfl) (h0 (fun c => c.1 q))) (fun q => And.intro (fun q2 => And.intro (Or.inl rfl) (h0 (fun c => c.2 q2))) (fun q2 => And.intro (Or.inr rfl) (h1 ⟨q, q2⟩))))
def KN (B : Nat) (Q : Option Value → MM → Prop) (S : MM) (n : Nat) : Prop := n < B → Q (some (.int (nI n))) S
theorem e_mMN {k : Kt} {lv : Lv} {st : List Value} {S : MM} {c z p q : Nat} (hc : cat8 st = true) (hp : p < 2 ^ 31) (hq : q < 2 ^ 31) (h : k lv (.int (nI (if q < p then q else p)) :: st) S c z) : mMn k lv (.int (nI q) :: .int (nI p) :: st) S c z := by
  show (match cat8 st with | true => k lv (.int (if nI q < nI p then nI q else nI p) :: st) S c z | false => False)
  rw [hc]
  show k lv (.int (if nI q < nI p then nI q else nI p) :: st) S c z
  have hi : nI q < nI p ↔ q < p := by rw [Int32.lt_iff_toInt_lt, nI_toInt hp, nI_toInt hq]; omega
  by_cases hz : q < p
  · rw [if_pos hz] at h; rw [if_pos (hi.mpr hz)]; exact h
  · rw [if_neg hz] at h; rw [if_neg (fun w => hz (hi.mp w))]; exact h
theorem e_mMI {k : Kt} {lv : Lv} {st : List Value} {S : MM} {c z : Nat} {x y : Int32} (hc : cat8 st = true) (h : k lv (.int (if y < x then y else x) :: st) S c z) : mMn k lv (.int y :: .int x :: st) S c z := by
  show (match cat8 st with | true => k lv (.int (if y < x then y else x) :: st) S c z | false => False)
  rw [hc]
  exact h
/-- a plugged cable -/
abbrev plg (R : Nat → Nat → Option Nat) (b c : Nat) : Prop := ¬ R (ppd R b c) 0 = none ∧ ¬ R (ppd R b c) 1 = none
theorem plg_i {R : Nat → Nat → Option Nat} {b c j : Nat} (h : plg R b c) (hj : j < 2) : ¬ R (ppd R b c) j = none := by
  have : j = 0 ∨ j = 1 := by omega
  rcases this with rfl | rfl
  · exact h.1
  · exact h.2
theorem opt_get {o : Option Nat} (h : ¬ o = none) : o = some (o.getD 0) := by
  cases o with
  | none => exact absurd rfl h
  | some n => rfl
theorem u_X0_isPlugged_0 {Q : Option Value → MM → Prop} {n : Nat} {lv : Lv} {st : List Value} {S : MM} {c z : Nat} (h : bX0_isPlugged_0 Q (wpn (kX0_isPlugged Q) n) lv st S c z) : wpn (kX0_isPlugged Q) (n + 1) 0 lv st S c z := h
theorem u_X0_isPlugged_22 {Q : Option Value → MM → Prop} {n : Nat} {lv : Lv} {st : List Value} {S : MM} {c z : Nat} (h : bX0_isPlugged_22 Q (wpn (kX0_isPlugged Q) n) lv st S c z) : wpn (kX0_isPlugged Q) (n + 1) 22 lv st S c z := h
theorem u_X0_isPlugged_23 {Q : Option Value → MM → Prop} {n : Nat} {lv : Lv} {st : List Value} {S : MM} {c z : Nat} (h : bX0_isPlugged_23 Q (wpn (kX0_isPlugged Q) n) lv st S c z) : wpn (kX0_isPlugged Q) (n + 1) 23 lv st S c z := h
theorem x_plg {Q : Option Value → MM → Prop} {S : MM} {b c : Nat} (hL : LY S b) (hc : c < 8) (h0 : ¬ plg (sR S) b c → Q (some (.int (nI 0))) S) (h1 : plg (sR S) b c → Q (some (.int (nI 1))) S) : wX0_isPlugged [.ref (Cb (sR S) b c)] S Q := by
  have kc := (ly_C hL hc).2.1
  obtain ⟨rp, kp, np⟩ := ly_pp hL hc
  refine Exists.intro 3 (u_X0_isPlugged_0 ?_)
  unfold bX0_isPlugged_0
  refine e_ldA rfl ?_
  refine e_gR kc rp ?_
  refine e_cN 0 rfl ?_
  refine e_aX (N := 2) kp np (by omega) (by decide) (fun q => ?_) (fun q => ?_)
  · refine e_nnN ?_
    refine u_X0_isPlugged_22 ?_
    unfold bX0_isPlugged_22
    refine e_cN 0 rfl ?_
    refine u_X0_isPlugged_23 ?_
    exact And.intro (Or.inl rfl) (h0 (fun z => z.1 q))
  · refine e_nnA ?_
    refine e_ldA rfl ?_
    refine e_gR kc rp ?_
    refine e_cN 1 rfl ?_
    refine e_aX (N := 2) kp np (by omega) (by decide) (fun q2 => ?_) (fun q2 => ?_)
    · refine e_nnN ?_
      refine u_X0_isPlugged_22 ?_
      unfold bX0_isPlugged_22
      refine e_cN 0 rfl ?_
      refine u_X0_isPlugged_23 ?_
      exact And.intro (Or.inl rfl) (h0 (fun z => z.2 q2))
    · refine e_nnA ?_
      refine e_cN 1 rfl ?_
      refine u_X0_isPlugged_23 ?_
      exact And.intro (Or.inr rfl) (h1 ⟨q, q2⟩)
theorem im_30 {S : MM} {m j : Nat} {A : Nat → Nat} (im : IM S m A) (h : ¬ sI S (A 30) j = -1) : sI S (A 30) j = nI (sI S (A 30) j).toNatClampNeg ∧ (sI S (A 30) j).toNatClampNeg < 4200 := by
  rcases im.2.2 j with q | ⟨f, hf, q⟩
  · exact absurd q h
  · rw [q, nI_cl (by omega)]
    exact ⟨rfl, hf⟩
theorem mem_sub {L M : List Nat} (k : Nat) (hk : k ∈ L) (h : ∀ x ∈ L, x ∈ M) : k ∈ M := h k hk
theorem ne_in {L : List Nat} {q : Nat} (k : Nat) (hk : k ∈ L) (h : q ∉ L) : q ≠ k := fun z => h (by rw [z]; exact hk)
theorem up2_jn {f : Nat → Nat → Int32} {a k j : Nat} {v : Int32} (h : j ≠ k) : up2 f a k v a j = f a j := up2_ne (fun z => h z.2)
def f_X6_has (I : Nat → Nat → Int32) (a : Nat) (v : Int32) : Int32 := if ((I a 4) &&& v) = 0 then ((nI 0)) else ((nI 1))
theorem x_X6_has {Q : Option Value → MM → Prop} {S : MM} {a : Nat} {v : Int32} (ka : sK S a = 7)    (K : KP Q S (f_X6_has (sI S) a v)) : wX6_has [.ref a, .int v] S Q := by
  unfold f_X6_has at K
  refine Exists.intro 3 (u_X6_has_0 ?_)
  unfold bX6_has_0
  refine e_ldA rfl ?_
  refine e_gE ka ?_
  refine e_ldI rfl ?_
  refine e_bopE ?_
  refine ⟨fun h1 => ?_, fun h1 => ?_⟩
  · replace K := kx_p h1 K
    refine u_X6_has_13 ?_
    unfold bX6_has_13
    refine e_cN 0 rfl ?_
    refine u_X6_has_14 ?_
    unfold bX6_has_14
    exact And.intro (Or.inl rfl) K
  · replace K := kx_n h1 K
    refine e_cN 1 rfl ?_
    refine u_X6_has_14 ?_
    unfold bX6_has_14
    exact And.intro (Or.inr rfl) K
def r_X6_has (ra : Nat → Int32) (v : Int32) : Int32 := if ((ra 4) &&& v) = 0 then ((nI 0)) else ((nI 1))
theorem rr_X6_has {I : Nat → Nat → Int32} {a : Nat} {v : Int32}  : (f_X6_has I a v) = (r_X6_has (I a) v) := by
  simp only [f_X6_has, r_X6_has, up2_upd]
  repeat' split
  all_goals first | rfl | exact ⟨rfl, rfl⟩ | (simp only [up2_upd]; done) | (simp_all only [up2_upd]; done) | (simp_all; done) | simp_all [up2_upd]
def f_X6_clear (I : Nat → Nat → Int32) (a : Nat) : Nat → Nat → Int32 := let I2 := up2 I a 0 (nI 0); let I4 := up2 I2 a 1 (nI 0); let I6 := up2 I4 a 2 (nI 0); let I8 := up2 I6 a 3 (nI 0); let I10 := up2 I8 a 4 (nI 0); I10
theorem x_X6_clear {Q : Option Value → MM → Prop} {S : MM} {a : Nat} (ka : sK S a = 7) (ir : IR S)   (K : KVC Q S (f_X6_clear (sI S) a)) : wX6_clear [.ref a] S Q := by
  unfold f_X6_clear at K
  refine Exists.intro 1 (u_X6_clear_0 ?_)
  unfold bX6_clear_0
  refine e_ldA rfl ?_
  refine e_cN 0 rfl ?_
  refine e_tJ ka ir (fun N e => nomatch (show (none : Option Nat) = some N from e)) (fun ir1 => ?_)
  refine e_ldA rfl ?_
  refine e_cN 0 rfl ?_
  refine e_tJ ka ir1 (fun N e => nomatch (show (none : Option Nat) = some N from e)) (fun ir3 => ?_)
  refine e_ldA rfl ?_
  refine e_cN 0 rfl ?_
  refine e_tJ ka ir3 (fun N e => nomatch (show (none : Option Nat) = some N from e)) (fun ir5 => ?_)
  refine e_ldA rfl ?_
  refine e_cN 0 rfl ?_
  refine e_tJ ka ir5 (fun N e => nomatch (show (none : Option Nat) = some N from e)) (fun ir7 => ?_)
  refine e_ldA rfl ?_
  refine e_cN 0 rfl ?_
  refine e_tJ ka ir7 (fun N e => nomatch (show (none : Option Nat) = some N from e)) (fun ir9 => ?_)
  exact e_rV (K ir9)
theorem n_X6_clear {I : Nat → Nat → Int32} {a : _} {z : Nat} (h0 : z ≠ a) : (f_X6_clear I a) z = I z := by
  simp only [f_X6_clear]
  repeat' split
  all_goals simp only [up2_row h0]
def r_X6_clear (ra : Nat → Int32)  : (Nat → Int32) := let a1_ := upd ra 0 (nI 0); let a2_ := upd a1_ 1 (nI 0); let a3_ := upd a2_ 2 (nI 0); let a4_ := upd a3_ 3 (nI 0); let a5_ := upd a4_ 4 (nI 0); a5_
theorem rr_X6_clear {I : Nat → Nat → Int32} {a : Nat}   : (f_X6_clear I a) a = (r_X6_clear (I a) ) := by
  simp only [f_X6_clear, r_X6_clear, up2_upd]
  repeat' split
  all_goals first | rfl | exact ⟨rfl, rfl⟩ | (simp only [up2_upd]; done) | (simp_all only [up2_upd]; done) | (simp_all; done) | simp_all [up2_upd]
def f_X6_copyFrom (I : Nat → Nat → Int32) (a : Nat) (b : Nat) : Nat → Nat → Int32 := let I2 := up2 I a 0 (I b 0); let I4 := up2 I2 a 1 (I2 b 1); let I6 := up2 I4 a 2 (I4 b 2); let I8 := up2 I6 a 3 (I6 b 3); let I10 := up2 I8 a 4 (I8 b 4); I10
theorem x_X6_copyFrom {Q : Option Value → MM → Prop} {S : MM} {a : Nat} {b : Nat} (ka : sK S a = 7) (kb : sK S b = 7) (ir : IR S)   (K : KVC Q S (f_X6_copyFrom (sI S) a b)) : wX6_copyFrom [.ref a, .ref b] S Q := by
  unfold f_X6_copyFrom at K
  refine Exists.intro 1 (u_X6_copyFrom_0 ?_)
  unfold bX6_copyFrom_0
  refine e_ldA rfl ?_
  refine e_ldA rfl ?_
  refine e_gE kb ?_
  refine e_tJ ka ir (fun N e => nomatch (show (none : Option Nat) = some N from e)) (fun ir1 => ?_)
  refine e_ldA rfl ?_
  refine e_ldA rfl ?_
  refine e_gE kb ?_
  refine e_tJ ka ir1 (fun N e => nomatch (show (none : Option Nat) = some N from e)) (fun ir3 => ?_)
  refine e_ldA rfl ?_
  refine e_ldA rfl ?_
  refine e_gE kb ?_
  refine e_tJ ka ir3 (fun N e => nomatch (show (none : Option Nat) = some N from e)) (fun ir5 => ?_)
  refine e_ldA rfl ?_
  refine e_ldA rfl ?_
  refine e_gE kb ?_
  refine e_tJ ka ir5 (fun N e => nomatch (show (none : Option Nat) = some N from e)) (fun ir7 => ?_)
  refine e_ldA rfl ?_
  refine e_ldA rfl ?_
  refine e_gE kb ?_
  refine e_tJ ka ir7 (fun N e => nomatch (show (none : Option Nat) = some N from e)) (fun ir9 => ?_)
  exact e_rV (K ir9)
theorem n_X6_copyFrom {I : Nat → Nat → Int32} {a b : _} {z : Nat} (h0 : z ≠ a) : (f_X6_copyFrom I a b) z = I z := by
  simp only [f_X6_copyFrom]
  repeat' split
  all_goals simp only [up2_row h0]
def r_X6_copyFrom (ra : Nat → Int32) (rb : Nat → Int32)  : (Nat → Int32) := let a1_ := upd ra 0 (rb 0); let a2_ := upd a1_ 1 (rb 1); let a3_ := upd a2_ 2 (rb 2); let a4_ := upd a3_ 3 (rb 3); let a5_ := upd a4_ 4 (rb 4); a5_
theorem rr_X6_copyFrom {I : Nat → Nat → Int32} {a : Nat} {b : Nat}  (na_b : a ≠ b) : (f_X6_copyFrom I a b) a = (r_X6_copyFrom (I a) (I b) ) := by
  simp only [f_X6_copyFrom, r_X6_copyFrom, up2_upd, up2_row na_b, up2_row (Ne.symm na_b)]
  repeat' split
  all_goals first | rfl | exact ⟨rfl, rfl⟩ | (simp only [up2_upd, up2_row na_b, up2_row (Ne.symm na_b)]; done) | (simp_all only [up2_upd, up2_row na_b, up2_row (Ne.symm na_b)]; done) | (simp_all; done) | simp_all [up2_upd, up2_row na_b, up2_row (Ne.symm na_b)]
def f_X6_setBits (I : Nat → Nat → Int32) (a : Nat) (v : Int32) (w : Int32) : Nat → Nat → Int32 := if w = 0 then (let I3 := up2 I a 4 ((I a 4) &&& (v ^^^ (-1 : Int32))); I3) else (let I5 := up2 I a 4 ((I a 4) ||| v); I5)
theorem x_X6_setBits {Q : Option Value → MM → Prop} {S : MM} {a : Nat} {v : Int32} {w : Int32} (ka : sK S a = 7) (ir : IR S)   (K : KVC Q S (f_X6_setBits (sI S) a v w)) : wX6_setBits [.ref a, .int v, .int w] S Q := by
  unfold f_X6_setBits at K
  refine Exists.intro 3 (u_X6_setBits_0 ?_)
  unfold bX6_setBits_0
  refine e_ldA rfl ?_
  refine e_ldI rfl ?_
  refine ⟨fun h1 => ?_, fun h1 => ?_⟩
  · replace K := kx_p h1 K
    refine u_X6_setBits_14 ?_
    unfold bX6_setBits_14
    refine e_ldA rfl ?_
    refine e_gE ka ?_
    refine e_ldI rfl ?_
    refine e_cI ?_
    refine e_bopE ?_
    refine e_bopE ?_
    refine u_X6_setBits_22 ?_
    unfold bX6_setBits_22
    refine e_tJ ka ir (fun N e => nomatch (show (none : Option Nat) = some N from e)) (fun ir2 => ?_)
    exact e_rV (K ir2)
  · replace K := kx_n h1 K
    refine e_ldA rfl ?_
    refine e_gE ka ?_
    refine e_ldI rfl ?_
    refine e_bopE ?_
    refine u_X6_setBits_22 ?_
    unfold bX6_setBits_22
    refine e_tJ ka ir (fun N e => nomatch (show (none : Option Nat) = some N from e)) (fun ir4 => ?_)
    exact e_rV (K ir4)
theorem n_X6_setBits {I : Nat → Nat → Int32} {a v w : _} {z : Nat} (h0 : z ≠ a) : (f_X6_setBits I a v w) z = I z := by
  simp only [f_X6_setBits]
  repeat' split
  all_goals simp only [up2_row h0]
def r_X6_setBits (ra : Nat → Int32) (v : Int32) (w : Int32) : (Nat → Int32) := if w = 0 then (let a1_ := upd ra 4 ((ra 4) &&& (v ^^^ (-1 : Int32))); a1_) else (let a2_ := upd ra 4 ((ra 4) ||| v); a2_)
theorem rr_X6_setBits {I : Nat → Nat → Int32} {a : Nat} {v : Int32} {w : Int32}  : (f_X6_setBits I a v w) a = (r_X6_setBits (I a) v w) := by
  simp only [f_X6_setBits, r_X6_setBits, up2_upd]
  repeat' split
  all_goals first | rfl | exact ⟨rfl, rfl⟩ | (simp only [up2_upd]; done) | (simp_all only [up2_upd]; done) | (simp_all; done) | simp_all [up2_upd]
def f_X6_namesSame (I : Nat → Nat → Int32) (a : Nat) (b : Nat) : Int32 := if (I a 0) = (I b 0) then (if (I a 1) = (I b 1) then (if (I a 2) = (I b 2) then (if (I a 3) = (I b 3) then ((nI 1)) else ((nI 0))) else ((nI 0))) else ((nI 0))) else ((nI 0))
theorem x_X6_namesSame {Q : Option Value → MM → Prop} {S : MM} {a : Nat} {b : Nat} (ka : sK S a = 7) (kb : sK S b = 7)    (K : KP Q S (f_X6_namesSame (sI S) a b)) : wX6_namesSame [.ref a, .ref b] S Q := by
  unfold f_X6_namesSame at K
  refine Exists.intro 3 (u_X6_namesSame_0 ?_)
  unfold bX6_namesSame_0
  refine e_ldA rfl ?_
  refine e_gE ka ?_
  refine e_ldA rfl ?_
  refine e_gE kb ?_
  refine ⟨fun h1 => ?_, fun h1 => ?_⟩
  · replace K := kx_p h1 K
    refine e_ldA rfl ?_
    refine e_gE ka ?_
    refine e_ldA rfl ?_
    refine e_gE kb ?_
    refine ⟨fun h2 => ?_, fun h2 => ?_⟩
    · replace K := kx_p h2 K
      refine e_ldA rfl ?_
      refine e_gE ka ?_
      refine e_ldA rfl ?_
      refine e_gE kb ?_
      refine ⟨fun h3 => ?_, fun h3 => ?_⟩
      · replace K := kx_p h3 K
        refine e_ldA rfl ?_
        refine e_gE ka ?_
        refine e_ldA rfl ?_
        refine e_gE kb ?_
        refine ⟨fun h4 => ?_, fun h4 => ?_⟩
        · replace K := kx_p h4 K
          refine e_cN 1 rfl ?_
          refine u_X6_namesSame_49 ?_
          unfold bX6_namesSame_49
          exact And.intro (Or.inr rfl) K
        · replace K := kx_n h4 K
          refine u_X6_namesSame_48 ?_
          unfold bX6_namesSame_48
          refine e_cN 0 rfl ?_
          refine u_X6_namesSame_49 ?_
          unfold bX6_namesSame_49
          exact And.intro (Or.inl rfl) K
      · replace K := kx_n h3 K
        refine u_X6_namesSame_48 ?_
        unfold bX6_namesSame_48
        refine e_cN 0 rfl ?_
        refine u_X6_namesSame_49 ?_
        unfold bX6_namesSame_49
        exact And.intro (Or.inl rfl) K
    · replace K := kx_n h2 K
      refine u_X6_namesSame_48 ?_
      unfold bX6_namesSame_48
      refine e_cN 0 rfl ?_
      refine u_X6_namesSame_49 ?_
      unfold bX6_namesSame_49
      exact And.intro (Or.inl rfl) K
  · replace K := kx_n h1 K
    refine u_X6_namesSame_48 ?_
    unfold bX6_namesSame_48
    refine e_cN 0 rfl ?_
    refine u_X6_namesSame_49 ?_
    unfold bX6_namesSame_49
    exact And.intro (Or.inl rfl) K
def r_X6_namesSame (ra : Nat → Int32) (rb : Nat → Int32)  : Int32 := if (ra 0) = (rb 0) then (if (ra 1) = (rb 1) then (if (ra 2) = (rb 2) then (if (ra 3) = (rb 3) then ((nI 1)) else ((nI 0))) else ((nI 0))) else ((nI 0))) else ((nI 0))
theorem rr_X6_namesSame {I : Nat → Nat → Int32} {a : Nat} {b : Nat}   : (f_X6_namesSame I a b) = (r_X6_namesSame (I a) (I b) ) := by
  simp only [f_X6_namesSame, r_X6_namesSame, up2_upd]
  repeat' split
  all_goals first | rfl | exact ⟨rfl, rfl⟩ | (simp only [up2_upd]; done) | (simp_all only [up2_upd]; done) | (simp_all; done) | simp_all [up2_upd]
def f_X6_isSame (I : Nat → Nat → Int32) (a : Nat) (b : Nat) : Int32 := if (f_X6_namesSame I a b) = 0 then ((nI 0)) else (if (I a 4) = (I b 4) then ((nI 1)) else ((nI 0)))
theorem x_X6_isSame {Q : Option Value → MM → Prop} {S : MM} {a : Nat} {b : Nat} (ka : sK S a = 7) (kb : sK S b = 7)    (K : KP Q S (f_X6_isSame (sI S) a b)) : wX6_isSame [.ref a, .ref b] S Q := by
  unfold f_X6_isSame at K
  refine Exists.intro 3 (u_X6_isSame_0 ?_)
  unfold bX6_isSame_0
  refine e_ldA rfl ?_
  refine e_ldA rfl ?_
  refine And.intro ka (And.intro ⟨by decide, by decide⟩ (x_X6_namesSame ka kb (KP_i ?_)))
  refine ⟨fun h1 => ?_, fun h1 => ?_⟩
  · replace K := kx_p h1 K
    refine u_X6_isSame_23 ?_
    unfold bX6_isSame_23
    refine e_cN 0 rfl ?_
    refine u_X6_isSame_24 ?_
    unfold bX6_isSame_24
    exact And.intro (Or.inl rfl) K
  · replace K := kx_n h1 K
    refine e_ldA rfl ?_
    refine e_gE ka ?_
    refine e_ldA rfl ?_
    refine e_gE kb ?_
    refine ⟨fun h2 => ?_, fun h2 => ?_⟩
    · replace K := kx_p h2 K
      refine e_cN 1 rfl ?_
      refine u_X6_isSame_24 ?_
      unfold bX6_isSame_24
      exact And.intro (Or.inr rfl) K
    · replace K := kx_n h2 K
      refine u_X6_isSame_23 ?_
      unfold bX6_isSame_23
      refine e_cN 0 rfl ?_
      refine u_X6_isSame_24 ?_
      unfold bX6_isSame_24
      exact And.intro (Or.inl rfl) K
def r_X6_isSame (ra : Nat → Int32) (rb : Nat → Int32)  : Int32 := if (r_X6_namesSame ra rb ) = 0 then ((nI 0)) else (if (ra 4) = (rb 4) then ((nI 1)) else ((nI 0)))
theorem rr_X6_isSame {I : Nat → Nat → Int32} {a : Nat} {b : Nat}   : (f_X6_isSame I a b) = (r_X6_isSame (I a) (I b) ) := by
  simp only [f_X6_isSame, r_X6_isSame, up2_upd, (rr_X6_namesSame)]
  repeat' split
  all_goals first | rfl | exact ⟨rfl, rfl⟩ | (simp only [up2_upd, (rr_X6_namesSame)]; done) | (simp_all only [up2_upd, (rr_X6_namesSame)]; done) | (simp_all; done) | simp_all [up2_upd, (rr_X6_namesSame)]
def f_X5_isLit (I : Nat → Nat → Int32) (p : Nat) : Int32 := if (I p 3) = 0 then ((nI 0)) else ((nI 1))
theorem x_X5_isLit {Q : Option Value → MM → Prop} {S : MM} {p : Nat} (kp : sK S p = 6)    (K : KP Q S (f_X5_isLit (sI S) p)) : wX5_isLit [.ref p] S Q := by
  unfold f_X5_isLit at K
  refine Exists.intro 3 (u_X5_isLit_0 ?_)
  unfold bX5_isLit_0
  refine e_ldA rfl ?_
  refine e_gE kp ?_
  refine ⟨fun h1 => ?_, fun h1 => ?_⟩
  · replace K := kx_p h1 K
    refine u_X5_isLit_11 ?_
    unfold bX5_isLit_11
    refine e_cN 0 rfl ?_
    refine u_X5_isLit_12 ?_
    unfold bX5_isLit_12
    exact And.intro (Or.inl rfl) K
  · replace K := kx_n h1 K
    refine e_cN 1 rfl ?_
    refine u_X5_isLit_12 ?_
    unfold bX5_isLit_12
    exact And.intro (Or.inr rfl) K
def r_X5_isLit (rp : Nat → Int32)  : Int32 := if (rp 3) = 0 then ((nI 0)) else ((nI 1))
theorem rr_X5_isLit {I : Nat → Nat → Int32} {p : Nat}   : (f_X5_isLit I p) = (r_X5_isLit (I p) ) := by
  simp only [f_X5_isLit, r_X5_isLit, up2_upd]
  repeat' split
  all_goals first | rfl | exact ⟨rfl, rfl⟩ | (simp only [up2_upd]; done) | (simp_all only [up2_upd]; done) | (simp_all; done) | simp_all [up2_upd]
def f_X5_setStage (I : Nat → Nat → Int32) (p : Nat) (o : Nat) (v : Int32) : Nat → Nat → Int32 := let I2 := up2 I p 5 v; if v < (nI 2) then (let I5 := f_X6_setBits I2 o (nI 8) (nI 0); if v < (nI 3) then (let I8 := f_X6_setBits I5 o (nI 16) (nI 0); if v < (nI 4) then (let I11 := f_X6_setBits I8 o (nI 32) (nI 0); I11) else (let I13 := f_X6_setBits I8 o (nI 32) (nI 1); I13)) else (let I15 := f_X6_setBits I5 o (nI 16) (nI 1); if v < (nI 4) then (let I18 := f_X6_setBits I15 o (nI 32) (nI 0); I18) else (let I20 := f_X6_setBits I15 o (nI 32) (nI 1); I20))) else (let I22 := f_X6_setBits I2 o (nI 8) (nI 1); if v < (nI 3) then (let I25 := f_X6_setBits I22 o (nI 16) (nI 0); if v < (nI 4) then (let I28 := f_X6_setBits I25 o (nI 32) (nI 0); I28) else (let I30 := f_X6_setBits I25 o (nI 32) (nI 1); I30)) else (let I32 := f_X6_setBits I22 o (nI 16) (nI 1); if v < (nI 4) then (let I35 := f_X6_setBits I32 o (nI 32) (nI 0); I35) else (let I37 := f_X6_setBits I32 o (nI 32) (nI 1); I37)))
theorem x_X5_setStage {Q : Option Value → MM → Prop} {S : MM} {p : Nat} {o : Nat} {v : Int32} (kp : sK S p = 6) (ko : sK S o = 7) (hp0 : sR S p 0 = some o) (ir : IR S)   (K : KVC Q S (f_X5_setStage (sI S) p o v)) : wX5_setStage [.ref p, .int v] S Q := by
  unfold f_X5_setStage at K
  refine Exists.intro 7 (u_X5_setStage_0 ?_)
  unfold bX5_setStage_0
  refine e_ldA rfl ?_
  refine e_ldI rfl ?_
  refine e_tJ kp ir (fun N e => nomatch (show (none : Option Nat) = some N from e)) (fun ir1 => ?_)
  refine e_ldA rfl ?_
  refine e_gR kp hp0 ?_
  refine e_cN 8 rfl ?_
  refine e_ldI rfl ?_
  refine e_cN 2 rfl ?_
  refine ⟨fun h3 => ?_, fun h3 => ?_⟩
  · replace K := kx_p h3 K
    refine u_X5_setStage_20 ?_
    unfold bX5_setStage_20
    refine e_cN 0 rfl ?_
    refine u_X5_setStage_21 ?_
    unfold bX5_setStage_21
    refine And.intro ko (And.intro ⟨by decide, by decide⟩ (x_X6_setBits ko ir1 (fun ir4 => ?_)))
    refine e_ldA rfl ?_
    refine e_gR kp hp0 ?_
    refine e_cN 16 rfl ?_
    refine e_ldI rfl ?_
    refine e_cN 3 rfl ?_
    refine ⟨fun h6 => ?_, fun h6 => ?_⟩
    · replace K := kx_p h6 K
      refine u_X5_setStage_39 ?_
      unfold bX5_setStage_39
      refine e_cN 0 rfl ?_
      refine u_X5_setStage_40 ?_
      unfold bX5_setStage_40
      refine And.intro ko (And.intro ⟨by decide, by decide⟩ (x_X6_setBits ko ir4 (fun ir7 => ?_)))
      refine e_ldA rfl ?_
      refine e_gR kp hp0 ?_
      refine e_cN 32 rfl ?_
      refine e_ldI rfl ?_
      refine e_cN 4 rfl ?_
      refine ⟨fun h9 => ?_, fun h9 => ?_⟩
      · replace K := kx_p h9 K
        refine u_X5_setStage_58 ?_
        unfold bX5_setStage_58
        refine e_cN 0 rfl ?_
        refine u_X5_setStage_59 ?_
        unfold bX5_setStage_59
        refine And.intro ko (And.intro ⟨by decide, by decide⟩ (x_X6_setBits ko ir7 (fun ir10 => ?_)))
        exact e_rV (K ir10)
      · replace K := kx_n h9 K
        refine e_cN 1 rfl ?_
        refine u_X5_setStage_59 ?_
        unfold bX5_setStage_59
        refine And.intro ko (And.intro ⟨by decide, by decide⟩ (x_X6_setBits ko ir7 (fun ir12 => ?_)))
        exact e_rV (K ir12)
    · replace K := kx_n h6 K
      refine e_cN 1 rfl ?_
      refine u_X5_setStage_40 ?_
      unfold bX5_setStage_40
      refine And.intro ko (And.intro ⟨by decide, by decide⟩ (x_X6_setBits ko ir4 (fun ir14 => ?_)))
      refine e_ldA rfl ?_
      refine e_gR kp hp0 ?_
      refine e_cN 32 rfl ?_
      refine e_ldI rfl ?_
      refine e_cN 4 rfl ?_
      refine ⟨fun h16 => ?_, fun h16 => ?_⟩
      · replace K := kx_p h16 K
        refine u_X5_setStage_58 ?_
        unfold bX5_setStage_58
        refine e_cN 0 rfl ?_
        refine u_X5_setStage_59 ?_
        unfold bX5_setStage_59
        refine And.intro ko (And.intro ⟨by decide, by decide⟩ (x_X6_setBits ko ir14 (fun ir17 => ?_)))
        exact e_rV (K ir17)
      · replace K := kx_n h16 K
        refine e_cN 1 rfl ?_
        refine u_X5_setStage_59 ?_
        unfold bX5_setStage_59
        refine And.intro ko (And.intro ⟨by decide, by decide⟩ (x_X6_setBits ko ir14 (fun ir19 => ?_)))
        exact e_rV (K ir19)
  · replace K := kx_n h3 K
    refine e_cN 1 rfl ?_
    refine u_X5_setStage_21 ?_
    unfold bX5_setStage_21
    refine And.intro ko (And.intro ⟨by decide, by decide⟩ (x_X6_setBits ko ir1 (fun ir21 => ?_)))
    refine e_ldA rfl ?_
    refine e_gR kp hp0 ?_
    refine e_cN 16 rfl ?_
    refine e_ldI rfl ?_
    refine e_cN 3 rfl ?_
    refine ⟨fun h23 => ?_, fun h23 => ?_⟩
    · replace K := kx_p h23 K
      refine u_X5_setStage_39 ?_
      unfold bX5_setStage_39
      refine e_cN 0 rfl ?_
      refine u_X5_setStage_40 ?_
      unfold bX5_setStage_40
      refine And.intro ko (And.intro ⟨by decide, by decide⟩ (x_X6_setBits ko ir21 (fun ir24 => ?_)))
      refine e_ldA rfl ?_
      refine e_gR kp hp0 ?_
      refine e_cN 32 rfl ?_
      refine e_ldI rfl ?_
      refine e_cN 4 rfl ?_
      refine ⟨fun h26 => ?_, fun h26 => ?_⟩
      · replace K := kx_p h26 K
        refine u_X5_setStage_58 ?_
        unfold bX5_setStage_58
        refine e_cN 0 rfl ?_
        refine u_X5_setStage_59 ?_
        unfold bX5_setStage_59
        refine And.intro ko (And.intro ⟨by decide, by decide⟩ (x_X6_setBits ko ir24 (fun ir27 => ?_)))
        exact e_rV (K ir27)
      · replace K := kx_n h26 K
        refine e_cN 1 rfl ?_
        refine u_X5_setStage_59 ?_
        unfold bX5_setStage_59
        refine And.intro ko (And.intro ⟨by decide, by decide⟩ (x_X6_setBits ko ir24 (fun ir29 => ?_)))
        exact e_rV (K ir29)
    · replace K := kx_n h23 K
      refine e_cN 1 rfl ?_
      refine u_X5_setStage_40 ?_
      unfold bX5_setStage_40
      refine And.intro ko (And.intro ⟨by decide, by decide⟩ (x_X6_setBits ko ir21 (fun ir31 => ?_)))
      refine e_ldA rfl ?_
      refine e_gR kp hp0 ?_
      refine e_cN 32 rfl ?_
      refine e_ldI rfl ?_
      refine e_cN 4 rfl ?_
      refine ⟨fun h33 => ?_, fun h33 => ?_⟩
      · replace K := kx_p h33 K
        refine u_X5_setStage_58 ?_
        unfold bX5_setStage_58
        refine e_cN 0 rfl ?_
        refine u_X5_setStage_59 ?_
        unfold bX5_setStage_59
        refine And.intro ko (And.intro ⟨by decide, by decide⟩ (x_X6_setBits ko ir31 (fun ir34 => ?_)))
        exact e_rV (K ir34)
      · replace K := kx_n h33 K
        refine e_cN 1 rfl ?_
        refine u_X5_setStage_59 ?_
        unfold bX5_setStage_59
        refine And.intro ko (And.intro ⟨by decide, by decide⟩ (x_X6_setBits ko ir31 (fun ir36 => ?_)))
        exact e_rV (K ir36)
theorem n_X5_setStage {I : Nat → Nat → Int32} {p o v : _} {z : Nat} (h0 : z ≠ p) (h1 : z ≠ o) : (f_X5_setStage I p o v) z = I z := by
  simp only [f_X5_setStage]
  repeat' split
  all_goals simp only [up2_row h0, up2_row h1, n_X6_setBits h1]
def r_X5_setStage (rp : Nat → Int32) (ro : Nat → Int32) (v : Int32) : (Nat → Int32) × (Nat → Int32) := let p1_ := upd rp 5 v; if v < (nI 2) then (let y2_ := r_X6_setBits ro (nI 8) (nI 0); if v < (nI 3) then (let y3_ := r_X6_setBits (y2_) (nI 16) (nI 0); if v < (nI 4) then (let y4_ := r_X6_setBits (y3_) (nI 32) (nI 0); (p1_, (y4_))) else (let y5_ := r_X6_setBits (y3_) (nI 32) (nI 1); (p1_, (y5_)))) else (let y6_ := r_X6_setBits (y2_) (nI 16) (nI 1); if v < (nI 4) then (let y7_ := r_X6_setBits (y6_) (nI 32) (nI 0); (p1_, (y7_))) else (let y8_ := r_X6_setBits (y6_) (nI 32) (nI 1); (p1_, (y8_))))) else (let y9_ := r_X6_setBits ro (nI 8) (nI 1); if v < (nI 3) then (let y10_ := r_X6_setBits (y9_) (nI 16) (nI 0); if v < (nI 4) then (let y11_ := r_X6_setBits (y10_) (nI 32) (nI 0); (p1_, (y11_))) else (let y12_ := r_X6_setBits (y10_) (nI 32) (nI 1); (p1_, (y12_)))) else (let y13_ := r_X6_setBits (y9_) (nI 16) (nI 1); if v < (nI 4) then (let y14_ := r_X6_setBits (y13_) (nI 32) (nI 0); (p1_, (y14_))) else (let y15_ := r_X6_setBits (y13_) (nI 32) (nI 1); (p1_, (y15_)))))
theorem rr_X5_setStage {I : Nat → Nat → Int32} {p : Nat} {o : Nat} {v : Int32} (np_o : p ≠ o) : (f_X5_setStage I p o v) p = (r_X5_setStage (I p) (I o) v).1 ∧ (f_X5_setStage I p o v) o = (r_X5_setStage (I p) (I o) v).2 := by
  simp only [f_X5_setStage, r_X5_setStage, up2_upd, up2_row np_o, up2_row (Ne.symm np_o), (rr_X6_setBits), n_X6_setBits np_o]
  repeat' split
  all_goals first | rfl | exact ⟨rfl, rfl⟩ | (simp only [up2_upd, up2_row np_o, up2_row (Ne.symm np_o), (rr_X6_setBits), n_X6_setBits np_o]; done) | (simp_all only [up2_upd, up2_row np_o, up2_row (Ne.symm np_o), (rr_X6_setBits), n_X6_setBits np_o]; done) | (simp_all; done) | simp_all [up2_upd, up2_row np_o, up2_row (Ne.symm np_o), (rr_X6_setBits), n_X6_setBits np_o]
def f_X5_becomeLit (I : Nat → Nat → Int32) (p : Nat) (q : Nat) : Nat → Nat → Int32 := let I2 := up2 I p 3 (nI 1); let I4 := up2 I2 p 4 (nI 3); let I6 := f_X6_setBits I4 q (nI 56) (nI 0); let I8 := up2 I6 p 15 (-1 : Int32); I8
theorem x_X5_becomeLit {Q : Option Value → MM → Prop} {S : MM} {p : Nat} {q : Nat} (kp : sK S p = 6) (kq : sK S q = 7) (hp1 : sR S p 1 = some q) (ir : IR S)   (K : KVC Q S (f_X5_becomeLit (sI S) p q)) : wX5_becomeLit [.ref p] S Q := by
  unfold f_X5_becomeLit at K
  refine Exists.intro 1 (u_X5_becomeLit_0 ?_)
  unfold bX5_becomeLit_0
  refine e_ldA rfl ?_
  refine e_cN 1 rfl ?_
  refine e_tJ kp ir (fun N e => nomatch (show (none : Option Nat) = some N from e)) (fun ir1 => ?_)
  refine e_ldA rfl ?_
  refine e_cN 3 rfl ?_
  refine e_tJ kp ir1 (fun N e => nomatch (show (none : Option Nat) = some N from e)) (fun ir3 => ?_)
  refine e_ldA rfl ?_
  refine e_gR kp hp1 ?_
  refine e_cN 56 rfl ?_
  refine e_cN 0 rfl ?_
  refine And.intro kq (And.intro ⟨by decide, by decide⟩ (x_X6_setBits kq ir3 (fun ir5 => ?_)))
  refine e_ldA rfl ?_
  refine e_cI ?_
  refine e_tJ kp ir5 (fun N e => nomatch (show (none : Option Nat) = some N from e)) (fun ir7 => ?_)
  exact e_rV (K ir7)
theorem n_X5_becomeLit {I : Nat → Nat → Int32} {p q : _} {z : Nat} (h0 : z ≠ p) (h1 : z ≠ q) : (f_X5_becomeLit I p q) z = I z := by
  simp only [f_X5_becomeLit]
  repeat' split
  all_goals simp only [up2_row h0, up2_row h1, n_X6_setBits h1]
def r_X5_becomeLit (rp : Nat → Int32) (rq : Nat → Int32)  : (Nat → Int32) × (Nat → Int32) := let p1_ := upd rp 3 (nI 1); let p2_ := upd p1_ 4 (nI 3); let y3_ := r_X6_setBits rq (nI 56) (nI 0); let p4_ := upd p2_ 15 (-1 : Int32); (p4_, (y3_))
theorem rr_X5_becomeLit {I : Nat → Nat → Int32} {p : Nat} {q : Nat}  (np_q : p ≠ q) : (f_X5_becomeLit I p q) p = (r_X5_becomeLit (I p) (I q) ).1 ∧ (f_X5_becomeLit I p q) q = (r_X5_becomeLit (I p) (I q) ).2 := by
  simp only [f_X5_becomeLit, r_X5_becomeLit, up2_upd, up2_row np_q, up2_row (Ne.symm np_q), (rr_X6_setBits), n_X6_setBits np_q]
  repeat' split
  all_goals first | rfl | exact ⟨rfl, rfl⟩ | (simp only [up2_upd, up2_row np_q, up2_row (Ne.symm np_q), (rr_X6_setBits), n_X6_setBits np_q]; done) | (simp_all only [up2_upd, up2_row np_q, up2_row (Ne.symm np_q), (rr_X6_setBits), n_X6_setBits np_q]; done) | (simp_all; done) | simp_all [up2_upd, up2_row np_q, up2_row (Ne.symm np_q), (rr_X6_setBits), n_X6_setBits np_q]
def f_X5_becomeDark (I : Nat → Nat → Int32) (p : Nat) (q : Nat) : Nat → Nat → Int32 := let I2 := up2 I p 3 (nI 0); let I4 := up2 I2 p 4 (nI 0); let I6 := f_X6_clear I4 q; I6
theorem x_X5_becomeDark {Q : Option Value → MM → Prop} {S : MM} {p : Nat} {q : Nat} (kp : sK S p = 6) (kq : sK S q = 7) (hp1 : sR S p 1 = some q) (ir : IR S)   (K : KVC Q S (f_X5_becomeDark (sI S) p q)) : wX5_becomeDark [.ref p] S Q := by
  unfold f_X5_becomeDark at K
  refine Exists.intro 1 (u_X5_becomeDark_0 ?_)
  unfold bX5_becomeDark_0
  refine e_ldA rfl ?_
  refine e_cN 0 rfl ?_
  refine e_tJ kp ir (fun N e => nomatch (show (none : Option Nat) = some N from e)) (fun ir1 => ?_)
  refine e_ldA rfl ?_
  refine e_cN 0 rfl ?_
  refine e_tJ kp ir1 (fun N e => nomatch (show (none : Option Nat) = some N from e)) (fun ir3 => ?_)
  refine e_ldA rfl ?_
  refine e_gR kp hp1 ?_
  refine And.intro kq (And.intro ⟨by decide, by decide⟩ (x_X6_clear kq ir3 (fun ir5 => ?_)))
  exact e_rV (K ir5)
theorem n_X5_becomeDark {I : Nat → Nat → Int32} {p q : _} {z : Nat} (h0 : z ≠ p) (h1 : z ≠ q) : (f_X5_becomeDark I p q) z = I z := by
  simp only [f_X5_becomeDark]
  repeat' split
  all_goals simp only [up2_row h0, up2_row h1, n_X6_clear h1]
def r_X5_becomeDark (rp : Nat → Int32) (rq : Nat → Int32)  : (Nat → Int32) × (Nat → Int32) := let p1_ := upd rp 3 (nI 0); let p2_ := upd p1_ 4 (nI 0); let y3_ := r_X6_clear rq; (p2_, (y3_))
theorem rr_X5_becomeDark {I : Nat → Nat → Int32} {p : Nat} {q : Nat}  (np_q : p ≠ q) : (f_X5_becomeDark I p q) p = (r_X5_becomeDark (I p) (I q) ).1 ∧ (f_X5_becomeDark I p q) q = (r_X5_becomeDark (I p) (I q) ).2 := by
  simp only [f_X5_becomeDark, r_X5_becomeDark, up2_upd, up2_row np_q, up2_row (Ne.symm np_q), (rr_X6_clear), n_X6_clear np_q]
  repeat' split
  all_goals first | rfl | exact ⟨rfl, rfl⟩ | (simp only [up2_upd, up2_row np_q, up2_row (Ne.symm np_q), (rr_X6_clear), n_X6_clear np_q]; done) | (simp_all only [up2_upd, up2_row np_q, up2_row (Ne.symm np_q), (rr_X6_clear), n_X6_clear np_q]; done) | (simp_all; done) | simp_all [up2_upd, up2_row np_q, up2_row (Ne.symm np_q), (rr_X6_clear), n_X6_clear np_q]
def f_X5_hear (I : Nat → Nat → Int32) (p : Nat) (o : Nat) (q : Nat) (n : Nat) (no : Nat) (np : Nat) : Nat → Nat → Int32 := let I2 := f_X6_copyFrom I q no; if (f_X6_namesSame I2 np o) = 0 then (let I5 := f_X6_setBits I2 q (nI 8) (nI 0); let I7 := up2 I5 p 3 (nI 2); if (f_X6_has I7 o (nI 2)) = 0 then (let I10 := up2 I7 p 4 (nI 90); if (f_X6_isSame I10 np o) = 0 then (let I13 := up2 I10 p 13 (nI 1); let I15 := up2 I13 p 12 (nI 1); let I17 := up2 I15 p 17 ((I15 p 17) + (nI 1)); I17) else (let I19 := up2 I10 p 12 (nI 1); let I21 := up2 I19 p 17 ((I19 p 17) + (nI 1)); I21)) else (let I23 := up2 I7 p 4 (nI 3); if (f_X6_isSame I23 np o) = 0 then (let I26 := up2 I23 p 13 (nI 1); let I28 := up2 I26 p 12 (nI 1); let I30 := up2 I28 p 17 ((I28 p 17) + (nI 1)); I30) else (let I32 := up2 I23 p 12 (nI 1); let I34 := up2 I32 p 17 ((I32 p 17) + (nI 1)); I34))) else (if (f_X6_has I2 np (nI 4)) = (f_X6_has I2 o (nI 4)) then (let I37 := up2 I2 p 3 (nI 2); if (f_X6_has I37 o (nI 2)) = 0 then (let I40 := up2 I37 p 4 (nI 90); if (f_X6_isSame I40 np o) = 0 then (let I43 := up2 I40 p 13 (nI 1); let I45 := up2 I43 p 12 (nI 1); let I47 := up2 I45 p 17 ((I45 p 17) + (nI 1)); I47) else (let I49 := up2 I40 p 12 (nI 1); let I51 := up2 I49 p 17 ((I49 p 17) + (nI 1)); I51)) else (let I53 := up2 I37 p 4 (nI 3); if (f_X6_isSame I53 np o) = 0 then (let I56 := up2 I53 p 13 (nI 1); let I58 := up2 I56 p 12 (nI 1); let I60 := up2 I58 p 17 ((I58 p 17) + (nI 1)); I60) else (let I62 := up2 I53 p 12 (nI 1); let I64 := up2 I62 p 17 ((I62 p 17) + (nI 1)); I64))) else (let I66 := f_X6_setBits I2 q (nI 8) (nI 0); let I68 := up2 I66 p 3 (nI 2); if (f_X6_has I68 o (nI 2)) = 0 then (let I71 := up2 I68 p 4 (nI 90); if (f_X6_isSame I71 np o) = 0 then (let I74 := up2 I71 p 13 (nI 1); let I76 := up2 I74 p 12 (nI 1); let I78 := up2 I76 p 17 ((I76 p 17) + (nI 1)); I78) else (let I80 := up2 I71 p 12 (nI 1); let I82 := up2 I80 p 17 ((I80 p 17) + (nI 1)); I82)) else (let I84 := up2 I68 p 4 (nI 3); if (f_X6_isSame I84 np o) = 0 then (let I87 := up2 I84 p 13 (nI 1); let I89 := up2 I87 p 12 (nI 1); let I91 := up2 I89 p 17 ((I89 p 17) + (nI 1)); I91) else (let I93 := up2 I84 p 12 (nI 1); let I95 := up2 I93 p 17 ((I93 p 17) + (nI 1)); I95))))
theorem x_X5_hear {Q : Option Value → MM → Prop} {S : MM} {p : Nat} {o : Nat} {q : Nat} {n : Nat} {no : Nat} {np : Nat} (kp : sK S p = 6) (ko : sK S o = 7) (kq : sK S q = 7) (kn : sK S n = 5) (kno : sK S no = 7) (knp : sK S np = 7) (hp0 : sR S p 0 = some o) (hp1 : sR S p 1 = some q) (hn0 : sR S n 0 = some no) (hn1 : sR S n 1 = some np) (ir : IR S)   (K : KVC Q S (f_X5_hear (sI S) p o q n no np)) : wX5_hear [.ref p, .ref n] S Q := by
  unfold f_X5_hear at K
  refine Exists.intro 7 (u_X5_hear_0 ?_)
  unfold bX5_hear_0
  refine e_ldA rfl ?_
  refine e_gR kp hp1 ?_
  refine e_ldA rfl ?_
  refine e_gR kn hn0 ?_
  refine And.intro kq (And.intro ⟨by decide, by decide⟩ (x_X6_copyFrom kq kno ir (fun ir1 => ?_)))
  refine e_ldA rfl ?_
  refine e_gR kn hn1 ?_
  refine e_ldA rfl ?_
  refine e_gR kp hp0 ?_
  refine And.intro knp (And.intro ⟨by decide, by decide⟩ (x_X6_namesSame knp ko (KP_i ?_)))
  refine ⟨fun h3 => ?_, fun h3 => ?_⟩
  · replace K := kx_p h3 K
    refine u_X5_hear_48 ?_
    unfold bX5_hear_48
    refine e_cN 0 rfl ?_
    refine u_X5_hear_49 ?_
    unfold bX5_hear_49
    refine e_stI ?_
    refine e_ldI lvg_self ?_
    refine ⟨fun _ => ?_, fun z => absurd (by decide) z⟩
    refine e_ldA (lvg_ne rfl rfl (by decide)) ?_
    refine e_gR kp hp1 ?_
    refine e_cN 8 rfl ?_
    refine e_cN 0 rfl ?_
    refine And.intro kq (And.intro ⟨by decide, by decide⟩ (x_X6_setBits kq ir1 (fun ir4 => ?_)))
    refine u_X5_hear_64 ?_
    unfold bX5_hear_64
    refine e_ldA (lvg_ne rfl rfl (by decide)) ?_
    refine e_cN 2 rfl ?_
    refine e_tJ kp ir4 (fun N e => nomatch (show (none : Option Nat) = some N from e)) (fun ir6 => ?_)
    refine e_ldA (lvg_ne rfl rfl (by decide)) ?_
    refine e_ldA (lvg_ne rfl rfl (by decide)) ?_
    refine e_gR kp hp0 ?_
    refine e_cN 2 rfl ?_
    refine And.intro ko (And.intro ⟨by decide, by decide⟩ (x_X6_has ko (KP_i ?_)))
    refine ⟨fun h8 => ?_, fun h8 => ?_⟩
    · replace K := kx_p h8 K
      refine u_X5_hear_85 ?_
      unfold bX5_hear_85
      refine e_cN 90 rfl ?_
      refine u_X5_hear_87 ?_
      unfold bX5_hear_87
      refine e_tJ kp ir6 (fun N e => nomatch (show (none : Option Nat) = some N from e)) (fun ir9 => ?_)
      refine e_ldA (lvg_ne rfl rfl (by decide)) ?_
      refine e_gR kn hn1 ?_
      refine e_ldA (lvg_ne rfl rfl (by decide)) ?_
      refine e_gR kp hp0 ?_
      refine And.intro knp (And.intro ⟨by decide, by decide⟩ (x_X6_isSame knp ko (KP_i ?_)))
      refine ⟨fun h11 => ?_, fun h11 => ?_⟩
      · replace K := kx_p h11 K
        refine e_ldA (lvg_ne rfl rfl (by decide)) ?_
        refine e_cN 1 rfl ?_
        refine e_tZJ kp (Or.inr rfl) ir9 (fun N e => nomatch (show (none : Option Nat) = some N from e)) (fun ir12 => ?_)
        refine u_X5_hear_109 ?_
        unfold bX5_hear_109
        refine e_ldA (lvg_ne rfl rfl (by decide)) ?_
        refine e_cN 1 rfl ?_
        refine e_tZJ kp (Or.inr rfl) ir12 (fun N e => nomatch (show (none : Option Nat) = some N from e)) (fun ir14 => ?_)
        refine e_ldA (lvg_ne rfl rfl (by decide)) ?_
        refine e_duA ?_
        refine e_gE kp ?_
        refine e_cN 1 rfl ?_
        refine e_bopE ?_
        refine e_tJ kp ir14 (fun N e => nomatch (show (none : Option Nat) = some N from e)) (fun ir16 => ?_)
        exact e_rV (K ir16)
      · replace K := kx_n h11 K
        refine u_X5_hear_109 ?_
        unfold bX5_hear_109
        refine e_ldA (lvg_ne rfl rfl (by decide)) ?_
        refine e_cN 1 rfl ?_
        refine e_tZJ kp (Or.inr rfl) ir9 (fun N e => nomatch (show (none : Option Nat) = some N from e)) (fun ir18 => ?_)
        refine e_ldA (lvg_ne rfl rfl (by decide)) ?_
        refine e_duA ?_
        refine e_gE kp ?_
        refine e_cN 1 rfl ?_
        refine e_bopE ?_
        refine e_tJ kp ir18 (fun N e => nomatch (show (none : Option Nat) = some N from e)) (fun ir20 => ?_)
        exact e_rV (K ir20)
    · replace K := kx_n h8 K
      refine e_cN 3 rfl ?_
      refine u_X5_hear_87 ?_
      unfold bX5_hear_87
      refine e_tJ kp ir6 (fun N e => nomatch (show (none : Option Nat) = some N from e)) (fun ir22 => ?_)
      refine e_ldA (lvg_ne rfl rfl (by decide)) ?_
      refine e_gR kn hn1 ?_
      refine e_ldA (lvg_ne rfl rfl (by decide)) ?_
      refine e_gR kp hp0 ?_
      refine And.intro knp (And.intro ⟨by decide, by decide⟩ (x_X6_isSame knp ko (KP_i ?_)))
      refine ⟨fun h24 => ?_, fun h24 => ?_⟩
      · replace K := kx_p h24 K
        refine e_ldA (lvg_ne rfl rfl (by decide)) ?_
        refine e_cN 1 rfl ?_
        refine e_tZJ kp (Or.inr rfl) ir22 (fun N e => nomatch (show (none : Option Nat) = some N from e)) (fun ir25 => ?_)
        refine u_X5_hear_109 ?_
        unfold bX5_hear_109
        refine e_ldA (lvg_ne rfl rfl (by decide)) ?_
        refine e_cN 1 rfl ?_
        refine e_tZJ kp (Or.inr rfl) ir25 (fun N e => nomatch (show (none : Option Nat) = some N from e)) (fun ir27 => ?_)
        refine e_ldA (lvg_ne rfl rfl (by decide)) ?_
        refine e_duA ?_
        refine e_gE kp ?_
        refine e_cN 1 rfl ?_
        refine e_bopE ?_
        refine e_tJ kp ir27 (fun N e => nomatch (show (none : Option Nat) = some N from e)) (fun ir29 => ?_)
        exact e_rV (K ir29)
      · replace K := kx_n h24 K
        refine u_X5_hear_109 ?_
        unfold bX5_hear_109
        refine e_ldA (lvg_ne rfl rfl (by decide)) ?_
        refine e_cN 1 rfl ?_
        refine e_tZJ kp (Or.inr rfl) ir22 (fun N e => nomatch (show (none : Option Nat) = some N from e)) (fun ir31 => ?_)
        refine e_ldA (lvg_ne rfl rfl (by decide)) ?_
        refine e_duA ?_
        refine e_gE kp ?_
        refine e_cN 1 rfl ?_
        refine e_bopE ?_
        refine e_tJ kp ir31 (fun N e => nomatch (show (none : Option Nat) = some N from e)) (fun ir33 => ?_)
        exact e_rV (K ir33)
  · replace K := kx_n h3 K
    refine e_ldA rfl ?_
    refine e_gR kn hn1 ?_
    refine e_cN 4 rfl ?_
    refine And.intro knp (And.intro ⟨by decide, by decide⟩ (x_X6_has knp (KP_i ?_)))
    refine e_ldA rfl ?_
    refine e_gR kp hp0 ?_
    refine e_cN 4 rfl ?_
    refine And.intro ko (And.intro ⟨by decide, by decide⟩ (x_X6_has ko (KP_i ?_)))
    refine ⟨fun h35 => ?_, fun h35 => ?_⟩
    · replace K := kx_p h35 K
      refine e_cN 1 rfl ?_
      refine u_X5_hear_49 ?_
      unfold bX5_hear_49
      refine e_stI ?_
      refine e_ldI lvg_self ?_
      refine ⟨fun z => absurd z (by decide), fun _ => ?_⟩
      refine u_X5_hear_64 ?_
      unfold bX5_hear_64
      refine e_ldA (lvg_ne rfl rfl (by decide)) ?_
      refine e_cN 2 rfl ?_
      refine e_tJ kp ir1 (fun N e => nomatch (show (none : Option Nat) = some N from e)) (fun ir36 => ?_)
      refine e_ldA (lvg_ne rfl rfl (by decide)) ?_
      refine e_ldA (lvg_ne rfl rfl (by decide)) ?_
      refine e_gR kp hp0 ?_
      refine e_cN 2 rfl ?_
      refine And.intro ko (And.intro ⟨by decide, by decide⟩ (x_X6_has ko (KP_i ?_)))
      refine ⟨fun h38 => ?_, fun h38 => ?_⟩
      · replace K := kx_p h38 K
        refine u_X5_hear_85 ?_
        unfold bX5_hear_85
        refine e_cN 90 rfl ?_
        refine u_X5_hear_87 ?_
        unfold bX5_hear_87
        refine e_tJ kp ir36 (fun N e => nomatch (show (none : Option Nat) = some N from e)) (fun ir39 => ?_)
        refine e_ldA (lvg_ne rfl rfl (by decide)) ?_
        refine e_gR kn hn1 ?_
        refine e_ldA (lvg_ne rfl rfl (by decide)) ?_
        refine e_gR kp hp0 ?_
        refine And.intro knp (And.intro ⟨by decide, by decide⟩ (x_X6_isSame knp ko (KP_i ?_)))
        refine ⟨fun h41 => ?_, fun h41 => ?_⟩
        · replace K := kx_p h41 K
          refine e_ldA (lvg_ne rfl rfl (by decide)) ?_
          refine e_cN 1 rfl ?_
          refine e_tZJ kp (Or.inr rfl) ir39 (fun N e => nomatch (show (none : Option Nat) = some N from e)) (fun ir42 => ?_)
          refine u_X5_hear_109 ?_
          unfold bX5_hear_109
          refine e_ldA (lvg_ne rfl rfl (by decide)) ?_
          refine e_cN 1 rfl ?_
          refine e_tZJ kp (Or.inr rfl) ir42 (fun N e => nomatch (show (none : Option Nat) = some N from e)) (fun ir44 => ?_)
          refine e_ldA (lvg_ne rfl rfl (by decide)) ?_
          refine e_duA ?_
          refine e_gE kp ?_
          refine e_cN 1 rfl ?_
          refine e_bopE ?_
          refine e_tJ kp ir44 (fun N e => nomatch (show (none : Option Nat) = some N from e)) (fun ir46 => ?_)
          exact e_rV (K ir46)
        · replace K := kx_n h41 K
          refine u_X5_hear_109 ?_
          unfold bX5_hear_109
          refine e_ldA (lvg_ne rfl rfl (by decide)) ?_
          refine e_cN 1 rfl ?_
          refine e_tZJ kp (Or.inr rfl) ir39 (fun N e => nomatch (show (none : Option Nat) = some N from e)) (fun ir48 => ?_)
          refine e_ldA (lvg_ne rfl rfl (by decide)) ?_
          refine e_duA ?_
          refine e_gE kp ?_
          refine e_cN 1 rfl ?_
          refine e_bopE ?_
          refine e_tJ kp ir48 (fun N e => nomatch (show (none : Option Nat) = some N from e)) (fun ir50 => ?_)
          exact e_rV (K ir50)
      · replace K := kx_n h38 K
        refine e_cN 3 rfl ?_
        refine u_X5_hear_87 ?_
        unfold bX5_hear_87
        refine e_tJ kp ir36 (fun N e => nomatch (show (none : Option Nat) = some N from e)) (fun ir52 => ?_)
        refine e_ldA (lvg_ne rfl rfl (by decide)) ?_
        refine e_gR kn hn1 ?_
        refine e_ldA (lvg_ne rfl rfl (by decide)) ?_
        refine e_gR kp hp0 ?_
        refine And.intro knp (And.intro ⟨by decide, by decide⟩ (x_X6_isSame knp ko (KP_i ?_)))
        refine ⟨fun h54 => ?_, fun h54 => ?_⟩
        · replace K := kx_p h54 K
          refine e_ldA (lvg_ne rfl rfl (by decide)) ?_
          refine e_cN 1 rfl ?_
          refine e_tZJ kp (Or.inr rfl) ir52 (fun N e => nomatch (show (none : Option Nat) = some N from e)) (fun ir55 => ?_)
          refine u_X5_hear_109 ?_
          unfold bX5_hear_109
          refine e_ldA (lvg_ne rfl rfl (by decide)) ?_
          refine e_cN 1 rfl ?_
          refine e_tZJ kp (Or.inr rfl) ir55 (fun N e => nomatch (show (none : Option Nat) = some N from e)) (fun ir57 => ?_)
          refine e_ldA (lvg_ne rfl rfl (by decide)) ?_
          refine e_duA ?_
          refine e_gE kp ?_
          refine e_cN 1 rfl ?_
          refine e_bopE ?_
          refine e_tJ kp ir57 (fun N e => nomatch (show (none : Option Nat) = some N from e)) (fun ir59 => ?_)
          exact e_rV (K ir59)
        · replace K := kx_n h54 K
          refine u_X5_hear_109 ?_
          unfold bX5_hear_109
          refine e_ldA (lvg_ne rfl rfl (by decide)) ?_
          refine e_cN 1 rfl ?_
          refine e_tZJ kp (Or.inr rfl) ir52 (fun N e => nomatch (show (none : Option Nat) = some N from e)) (fun ir61 => ?_)
          refine e_ldA (lvg_ne rfl rfl (by decide)) ?_
          refine e_duA ?_
          refine e_gE kp ?_
          refine e_cN 1 rfl ?_
          refine e_bopE ?_
          refine e_tJ kp ir61 (fun N e => nomatch (show (none : Option Nat) = some N from e)) (fun ir63 => ?_)
          exact e_rV (K ir63)
    · replace K := kx_n h35 K
      refine u_X5_hear_48 ?_
      unfold bX5_hear_48
      refine e_cN 0 rfl ?_
      refine u_X5_hear_49 ?_
      unfold bX5_hear_49
      refine e_stI ?_
      refine e_ldI lvg_self ?_
      refine ⟨fun _ => ?_, fun z => absurd (by decide) z⟩
      refine e_ldA (lvg_ne rfl rfl (by decide)) ?_
      refine e_gR kp hp1 ?_
      refine e_cN 8 rfl ?_
      refine e_cN 0 rfl ?_
      refine And.intro kq (And.intro ⟨by decide, by decide⟩ (x_X6_setBits kq ir1 (fun ir65 => ?_)))
      refine u_X5_hear_64 ?_
      unfold bX5_hear_64
      refine e_ldA (lvg_ne rfl rfl (by decide)) ?_
      refine e_cN 2 rfl ?_
      refine e_tJ kp ir65 (fun N e => nomatch (show (none : Option Nat) = some N from e)) (fun ir67 => ?_)
      refine e_ldA (lvg_ne rfl rfl (by decide)) ?_
      refine e_ldA (lvg_ne rfl rfl (by decide)) ?_
      refine e_gR kp hp0 ?_
      refine e_cN 2 rfl ?_
      refine And.intro ko (And.intro ⟨by decide, by decide⟩ (x_X6_has ko (KP_i ?_)))
      refine ⟨fun h69 => ?_, fun h69 => ?_⟩
      · replace K := kx_p h69 K
        refine u_X5_hear_85 ?_
        unfold bX5_hear_85
        refine e_cN 90 rfl ?_
        refine u_X5_hear_87 ?_
        unfold bX5_hear_87
        refine e_tJ kp ir67 (fun N e => nomatch (show (none : Option Nat) = some N from e)) (fun ir70 => ?_)
        refine e_ldA (lvg_ne rfl rfl (by decide)) ?_
        refine e_gR kn hn1 ?_
        refine e_ldA (lvg_ne rfl rfl (by decide)) ?_
        refine e_gR kp hp0 ?_
        refine And.intro knp (And.intro ⟨by decide, by decide⟩ (x_X6_isSame knp ko (KP_i ?_)))
        refine ⟨fun h72 => ?_, fun h72 => ?_⟩
        · replace K := kx_p h72 K
          refine e_ldA (lvg_ne rfl rfl (by decide)) ?_
          refine e_cN 1 rfl ?_
          refine e_tZJ kp (Or.inr rfl) ir70 (fun N e => nomatch (show (none : Option Nat) = some N from e)) (fun ir73 => ?_)
          refine u_X5_hear_109 ?_
          unfold bX5_hear_109
          refine e_ldA (lvg_ne rfl rfl (by decide)) ?_
          refine e_cN 1 rfl ?_
          refine e_tZJ kp (Or.inr rfl) ir73 (fun N e => nomatch (show (none : Option Nat) = some N from e)) (fun ir75 => ?_)
          refine e_ldA (lvg_ne rfl rfl (by decide)) ?_
          refine e_duA ?_
          refine e_gE kp ?_
          refine e_cN 1 rfl ?_
          refine e_bopE ?_
          refine e_tJ kp ir75 (fun N e => nomatch (show (none : Option Nat) = some N from e)) (fun ir77 => ?_)
          exact e_rV (K ir77)
        · replace K := kx_n h72 K
          refine u_X5_hear_109 ?_
          unfold bX5_hear_109
          refine e_ldA (lvg_ne rfl rfl (by decide)) ?_
          refine e_cN 1 rfl ?_
          refine e_tZJ kp (Or.inr rfl) ir70 (fun N e => nomatch (show (none : Option Nat) = some N from e)) (fun ir79 => ?_)
          refine e_ldA (lvg_ne rfl rfl (by decide)) ?_
          refine e_duA ?_
          refine e_gE kp ?_
          refine e_cN 1 rfl ?_
          refine e_bopE ?_
          refine e_tJ kp ir79 (fun N e => nomatch (show (none : Option Nat) = some N from e)) (fun ir81 => ?_)
          exact e_rV (K ir81)
      · replace K := kx_n h69 K
        refine e_cN 3 rfl ?_
        refine u_X5_hear_87 ?_
        unfold bX5_hear_87
        refine e_tJ kp ir67 (fun N e => nomatch (show (none : Option Nat) = some N from e)) (fun ir83 => ?_)
        refine e_ldA (lvg_ne rfl rfl (by decide)) ?_
        refine e_gR kn hn1 ?_
        refine e_ldA (lvg_ne rfl rfl (by decide)) ?_
        refine e_gR kp hp0 ?_
        refine And.intro knp (And.intro ⟨by decide, by decide⟩ (x_X6_isSame knp ko (KP_i ?_)))
        refine ⟨fun h85 => ?_, fun h85 => ?_⟩
        · replace K := kx_p h85 K
          refine e_ldA (lvg_ne rfl rfl (by decide)) ?_
          refine e_cN 1 rfl ?_
          refine e_tZJ kp (Or.inr rfl) ir83 (fun N e => nomatch (show (none : Option Nat) = some N from e)) (fun ir86 => ?_)
          refine u_X5_hear_109 ?_
          unfold bX5_hear_109
          refine e_ldA (lvg_ne rfl rfl (by decide)) ?_
          refine e_cN 1 rfl ?_
          refine e_tZJ kp (Or.inr rfl) ir86 (fun N e => nomatch (show (none : Option Nat) = some N from e)) (fun ir88 => ?_)
          refine e_ldA (lvg_ne rfl rfl (by decide)) ?_
          refine e_duA ?_
          refine e_gE kp ?_
          refine e_cN 1 rfl ?_
          refine e_bopE ?_
          refine e_tJ kp ir88 (fun N e => nomatch (show (none : Option Nat) = some N from e)) (fun ir90 => ?_)
          exact e_rV (K ir90)
        · replace K := kx_n h85 K
          refine u_X5_hear_109 ?_
          unfold bX5_hear_109
          refine e_ldA (lvg_ne rfl rfl (by decide)) ?_
          refine e_cN 1 rfl ?_
          refine e_tZJ kp (Or.inr rfl) ir83 (fun N e => nomatch (show (none : Option Nat) = some N from e)) (fun ir92 => ?_)
          refine e_ldA (lvg_ne rfl rfl (by decide)) ?_
          refine e_duA ?_
          refine e_gE kp ?_
          refine e_cN 1 rfl ?_
          refine e_bopE ?_
          refine e_tJ kp ir92 (fun N e => nomatch (show (none : Option Nat) = some N from e)) (fun ir94 => ?_)
          exact e_rV (K ir94)
theorem n_X5_hear {I : Nat → Nat → Int32} {p o q n no np : _} {z : Nat} (h0 : z ≠ q) (h1 : z ≠ p) : (f_X5_hear I p o q n no np) z = I z := by
  simp only [f_X5_hear]
  repeat' split
  all_goals simp only [up2_row h0, up2_row h1, n_X6_copyFrom h0, n_X6_setBits h0]
def r_X5_hear (rp : Nat → Int32) (ro : Nat → Int32) (rq : Nat → Int32) (rn : Nat → Int32) (rno : Nat → Int32) (rnp : Nat → Int32)  : (Nat → Int32) × (Nat → Int32) := let y1_ := r_X6_copyFrom rq rno; if (r_X6_namesSame rnp ro ) = 0 then (let y2_ := r_X6_setBits (y1_) (nI 8) (nI 0); let p3_ := upd rp 3 (nI 2); if (r_X6_has ro (nI 2)) = 0 then (let p4_ := upd p3_ 4 (nI 90); if (r_X6_isSame rnp ro ) = 0 then (let p5_ := upd p4_ 13 (nI 1); let p6_ := upd p5_ 12 (nI 1); let p7_ := upd p6_ 17 ((p6_ 17) + (nI 1)); ((y2_), p7_)) else (let p8_ := upd p4_ 12 (nI 1); let p9_ := upd p8_ 17 ((p8_ 17) + (nI 1)); ((y2_), p9_))) else (let p10_ := upd p3_ 4 (nI 3); if (r_X6_isSame rnp ro ) = 0 then (let p11_ := upd p10_ 13 (nI 1); let p12_ := upd p11_ 12 (nI 1); let p13_ := upd p12_ 17 ((p12_ 17) + (nI 1)); ((y2_), p13_)) else (let p14_ := upd p10_ 12 (nI 1); let p15_ := upd p14_ 17 ((p14_ 17) + (nI 1)); ((y2_), p15_)))) else (if (r_X6_has rnp (nI 4)) = (r_X6_has ro (nI 4)) then (let p16_ := upd rp 3 (nI 2); if (r_X6_has ro (nI 2)) = 0 then (let p17_ := upd p16_ 4 (nI 90); if (r_X6_isSame rnp ro ) = 0 then (let p18_ := upd p17_ 13 (nI 1); let p19_ := upd p18_ 12 (nI 1); let p20_ := upd p19_ 17 ((p19_ 17) + (nI 1)); ((y1_), p20_)) else (let p21_ := upd p17_ 12 (nI 1); let p22_ := upd p21_ 17 ((p21_ 17) + (nI 1)); ((y1_), p22_))) else (let p23_ := upd p16_ 4 (nI 3); if (r_X6_isSame rnp ro ) = 0 then (let p24_ := upd p23_ 13 (nI 1); let p25_ := upd p24_ 12 (nI 1); let p26_ := upd p25_ 17 ((p25_ 17) + (nI 1)); ((y1_), p26_)) else (let p27_ := upd p23_ 12 (nI 1); let p28_ := upd p27_ 17 ((p27_ 17) + (nI 1)); ((y1_), p28_)))) else (let y29_ := r_X6_setBits (y1_) (nI 8) (nI 0); let p30_ := upd rp 3 (nI 2); if (r_X6_has ro (nI 2)) = 0 then (let p31_ := upd p30_ 4 (nI 90); if (r_X6_isSame rnp ro ) = 0 then (let p32_ := upd p31_ 13 (nI 1); let p33_ := upd p32_ 12 (nI 1); let p34_ := upd p33_ 17 ((p33_ 17) + (nI 1)); ((y29_), p34_)) else (let p35_ := upd p31_ 12 (nI 1); let p36_ := upd p35_ 17 ((p35_ 17) + (nI 1)); ((y29_), p36_))) else (let p37_ := upd p30_ 4 (nI 3); if (r_X6_isSame rnp ro ) = 0 then (let p38_ := upd p37_ 13 (nI 1); let p39_ := upd p38_ 12 (nI 1); let p40_ := upd p39_ 17 ((p39_ 17) + (nI 1)); ((y29_), p40_)) else (let p41_ := upd p37_ 12 (nI 1); let p42_ := upd p41_ 17 ((p41_ 17) + (nI 1)); ((y29_), p42_)))))
theorem rr_X5_hear {I : Nat → Nat → Int32} {p : Nat} {o : Nat} {q : Nat} {n : Nat} {no : Nat} {np : Nat}  (np_o : p ≠ o) (np_q : p ≠ q) (np_n : p ≠ n) (np_no : p ≠ no) (np_np : p ≠ np) (no_q : o ≠ q) (nq_n : q ≠ n) (nq_no : q ≠ no) (nq_np : q ≠ np) : (f_X5_hear I p o q n no np) q = (r_X5_hear (I p) (I o) (I q) (I n) (I no) (I np) ).1 ∧ (f_X5_hear I p o q n no np) p = (r_X5_hear (I p) (I o) (I q) (I n) (I no) (I np) ).2 := by
  simp only [f_X5_hear, r_X5_hear, up2_upd, up2_row np_o, up2_row np_q, up2_row np_n, up2_row np_no, up2_row np_np, up2_row no_q, up2_row nq_n, up2_row nq_no, up2_row nq_np, up2_row (Ne.symm np_o), up2_row (Ne.symm np_q), up2_row (Ne.symm np_n), up2_row (Ne.symm np_no), up2_row (Ne.symm np_np), up2_row (Ne.symm no_q), up2_row (Ne.symm nq_n), up2_row (Ne.symm nq_no), up2_row (Ne.symm nq_np), (rr_X6_copyFrom (I := _) nq_no), n_X6_copyFrom np_q, n_X6_copyFrom no_q, n_X6_copyFrom (Ne.symm nq_n), n_X6_copyFrom (Ne.symm nq_no), n_X6_copyFrom (Ne.symm nq_np), (rr_X6_namesSame), (rr_X6_setBits), n_X6_setBits np_q, n_X6_setBits no_q, n_X6_setBits (Ne.symm nq_n), n_X6_setBits (Ne.symm nq_no), n_X6_setBits (Ne.symm nq_np), (rr_X6_has), (rr_X6_isSame), (rr_X6_has)]
  repeat' split
  all_goals first | rfl | exact ⟨rfl, rfl⟩ | (simp only [up2_upd, up2_row np_o, up2_row np_q, up2_row np_n, up2_row np_no, up2_row np_np, up2_row no_q, up2_row nq_n, up2_row nq_no, up2_row nq_np, up2_row (Ne.symm np_o), up2_row (Ne.symm np_q), up2_row (Ne.symm np_n), up2_row (Ne.symm np_no), up2_row (Ne.symm np_np), up2_row (Ne.symm no_q), up2_row (Ne.symm nq_n), up2_row (Ne.symm nq_no), up2_row (Ne.symm nq_np), (rr_X6_copyFrom (I := _) nq_no), n_X6_copyFrom np_q, n_X6_copyFrom no_q, n_X6_copyFrom (Ne.symm nq_n), n_X6_copyFrom (Ne.symm nq_no), n_X6_copyFrom (Ne.symm nq_np), (rr_X6_namesSame), (rr_X6_setBits), n_X6_setBits np_q, n_X6_setBits no_q, n_X6_setBits (Ne.symm nq_n), n_X6_setBits (Ne.symm nq_no), n_X6_setBits (Ne.symm nq_np), (rr_X6_has), (rr_X6_isSame), (rr_X6_has)]; done) | (simp_all only [up2_upd, up2_row np_o, up2_row np_q, up2_row np_n, up2_row np_no, up2_row np_np, up2_row no_q, up2_row nq_n, up2_row nq_no, up2_row nq_np, up2_row (Ne.symm np_o), up2_row (Ne.symm np_q), up2_row (Ne.symm np_n), up2_row (Ne.symm np_no), up2_row (Ne.symm np_np), up2_row (Ne.symm no_q), up2_row (Ne.symm nq_n), up2_row (Ne.symm nq_no), up2_row (Ne.symm nq_np), (rr_X6_copyFrom (I := _) nq_no), n_X6_copyFrom np_q, n_X6_copyFrom no_q, n_X6_copyFrom (Ne.symm nq_n), n_X6_copyFrom (Ne.symm nq_no), n_X6_copyFrom (Ne.symm nq_np), (rr_X6_namesSame), (rr_X6_setBits), n_X6_setBits np_q, n_X6_setBits no_q, n_X6_setBits (Ne.symm nq_n), n_X6_setBits (Ne.symm nq_no), n_X6_setBits (Ne.symm nq_np), (rr_X6_has), (rr_X6_isSame), (rr_X6_has)]; done) | (simp_all; done) | simp_all [up2_upd, up2_row np_o, up2_row np_q, up2_row np_n, up2_row np_no, up2_row np_np, up2_row no_q, up2_row nq_n, up2_row nq_no, up2_row nq_np, up2_row (Ne.symm np_o), up2_row (Ne.symm np_q), up2_row (Ne.symm np_n), up2_row (Ne.symm np_no), up2_row (Ne.symm np_np), up2_row (Ne.symm no_q), up2_row (Ne.symm nq_n), up2_row (Ne.symm nq_no), up2_row (Ne.symm nq_np), (rr_X6_copyFrom (I := _) nq_no), n_X6_copyFrom np_q, n_X6_copyFrom no_q, n_X6_copyFrom (Ne.symm nq_n), n_X6_copyFrom (Ne.symm nq_no), n_X6_copyFrom (Ne.symm nq_np), (rr_X6_namesSame), (rr_X6_setBits), n_X6_setBits np_q, n_X6_setBits no_q, n_X6_setBits (Ne.symm nq_n), n_X6_setBits (Ne.symm nq_no), n_X6_setBits (Ne.symm nq_np), (rr_X6_has), (rr_X6_isSame), (rr_X6_has)]
def f_X5_age (I : Nat → Nat → Int32) (p : Nat) (q : Nat) : Nat → Nat → Int32 := let I2 := up2 I p 12 (nI 0); if (I p 12) = 0 then (if (I2 p 3) = (nI 1) then (let I6 := up2 I2 p 4 ((I2 p 4) - (nI 1)); if (I6 p 4) ≤ 0 then (if (I6 p 3) = (nI 2) then (let I10 := up2 I6 p 3 (nI 1); let I12 := up2 I10 p 4 (nI 3); let I14 := f_X6_setBits I12 q (nI 56) (nI 0); I14) else (let I16 := up2 I6 p 3 (nI 3); let I18 := f_X6_clear I16 q; I18)) else (I6)) else (if (I2 p 3) = (nI 2) then (let I21 := up2 I2 p 4 ((I2 p 4) - (nI 1)); if (I21 p 4) ≤ 0 then (if (I21 p 3) = (nI 2) then (let I25 := up2 I21 p 3 (nI 1); let I27 := up2 I25 p 4 (nI 3); let I29 := f_X6_setBits I27 q (nI 56) (nI 0); I29) else (let I31 := up2 I21 p 3 (nI 3); let I33 := f_X6_clear I31 q; I33)) else (I21)) else (I2))) else (I2)
theorem x_X5_age {Q : Option Value → MM → Prop} {S : MM} {p : Nat} {q : Nat} (kp : sK S p = 6) (kq : sK S q = 7) (hp1 : sR S p 1 = some q) (ir : IR S)   (K : KVC Q S (f_X5_age (sI S) p q)) : wX5_age [.ref p] S Q := by
  unfold f_X5_age at K
  refine Exists.intro 5 (u_X5_age_0 ?_)
  unfold bX5_age_0
  refine e_ldA rfl ?_
  refine e_gE kp ?_
  refine e_stI ?_
  refine e_ldA (lvg_ne rfl rfl (by decide)) ?_
  refine e_cN 0 rfl ?_
  refine e_tZJ kp (Or.inl rfl) ir (fun N e => nomatch (show (none : Option Nat) = some N from e)) (fun ir1 => ?_)
  refine e_ldI lvg_self ?_
  refine ⟨fun h3 => ?_, fun h3 => ?_⟩
  · replace K := kx_p h3 K
    refine e_ldA (lvg_ne rfl rfl (by decide)) ?_
    refine e_gE kp ?_
    refine e_cN 1 rfl ?_
    refine ⟨fun h4 => ?_, fun h4 => ?_⟩
    · replace K := kx_p h4 K
      refine u_X5_age_31 ?_
      unfold bX5_age_31
      refine e_ldA (lvg_ne rfl rfl (by decide)) ?_
      refine e_duA ?_
      refine e_gE kp ?_
      refine e_cN 1 rfl ?_
      refine e_bopE ?_
      refine e_tJ kp ir1 (fun N e => nomatch (show (none : Option Nat) = some N from e)) (fun ir5 => ?_)
      refine e_ldA (lvg_ne rfl rfl (by decide)) ?_
      refine e_gE kp ?_
      refine ⟨fun h7 => ?_, fun h7 => ?_⟩
      · replace K := kx_p h7 K
        refine u_X5_age_49 ?_
        unfold bX5_age_49
        refine e_ldA (lvg_ne rfl rfl (by decide)) ?_
        refine e_gE kp ?_
        refine e_cN 2 rfl ?_
        refine ⟨fun h8 => ?_, fun h8 => ?_⟩
        · replace K := kx_p h8 K
          refine e_ldA (lvg_ne rfl rfl (by decide)) ?_
          refine e_cN 1 rfl ?_
          refine e_tJ kp ir5 (fun N e => nomatch (show (none : Option Nat) = some N from e)) (fun ir9 => ?_)
          refine e_ldA (lvg_ne rfl rfl (by decide)) ?_
          refine e_cN 3 rfl ?_
          refine e_tJ kp ir9 (fun N e => nomatch (show (none : Option Nat) = some N from e)) (fun ir11 => ?_)
          refine e_ldA (lvg_ne rfl rfl (by decide)) ?_
          refine e_gR kp hp1 ?_
          refine e_cN 56 rfl ?_
          refine e_cN 0 rfl ?_
          refine And.intro kq (And.intro ⟨by decide, by decide⟩ (x_X6_setBits kq ir11 (fun ir13 => ?_)))
          refine u_X5_age_92 ?_
          unfold bX5_age_92
          exact e_rV (K ir13)
        · replace K := kx_n h8 K
          refine u_X5_age_80 ?_
          unfold bX5_age_80
          refine e_ldA (lvg_ne rfl rfl (by decide)) ?_
          refine e_cN 3 rfl ?_
          refine e_tJ kp ir5 (fun N e => nomatch (show (none : Option Nat) = some N from e)) (fun ir15 => ?_)
          refine e_ldA (lvg_ne rfl rfl (by decide)) ?_
          refine e_gR kp hp1 ?_
          refine And.intro kq (And.intro ⟨by decide, by decide⟩ (x_X6_clear kq ir15 (fun ir17 => ?_)))
          refine u_X5_age_92 ?_
          unfold bX5_age_92
          exact e_rV (K ir17)
      · replace K := kx_n h7 K
        exact e_rV (K ir5)
    · replace K := kx_n h4 K
      refine e_ldA (lvg_ne rfl rfl (by decide)) ?_
      refine e_gE kp ?_
      refine e_cN 2 rfl ?_
      refine ⟨fun h19 => ?_, fun h19 => ?_⟩
      · replace K := kx_p h19 K
        refine u_X5_age_31 ?_
        unfold bX5_age_31
        refine e_ldA (lvg_ne rfl rfl (by decide)) ?_
        refine e_duA ?_
        refine e_gE kp ?_
        refine e_cN 1 rfl ?_
        refine e_bopE ?_
        refine e_tJ kp ir1 (fun N e => nomatch (show (none : Option Nat) = some N from e)) (fun ir20 => ?_)
        refine e_ldA (lvg_ne rfl rfl (by decide)) ?_
        refine e_gE kp ?_
        refine ⟨fun h22 => ?_, fun h22 => ?_⟩
        · replace K := kx_p h22 K
          refine u_X5_age_49 ?_
          unfold bX5_age_49
          refine e_ldA (lvg_ne rfl rfl (by decide)) ?_
          refine e_gE kp ?_
          refine e_cN 2 rfl ?_
          refine ⟨fun h23 => ?_, fun h23 => ?_⟩
          · replace K := kx_p h23 K
            refine e_ldA (lvg_ne rfl rfl (by decide)) ?_
            refine e_cN 1 rfl ?_
            refine e_tJ kp ir20 (fun N e => nomatch (show (none : Option Nat) = some N from e)) (fun ir24 => ?_)
            refine e_ldA (lvg_ne rfl rfl (by decide)) ?_
            refine e_cN 3 rfl ?_
            refine e_tJ kp ir24 (fun N e => nomatch (show (none : Option Nat) = some N from e)) (fun ir26 => ?_)
            refine e_ldA (lvg_ne rfl rfl (by decide)) ?_
            refine e_gR kp hp1 ?_
            refine e_cN 56 rfl ?_
            refine e_cN 0 rfl ?_
            refine And.intro kq (And.intro ⟨by decide, by decide⟩ (x_X6_setBits kq ir26 (fun ir28 => ?_)))
            refine u_X5_age_92 ?_
            unfold bX5_age_92
            exact e_rV (K ir28)
          · replace K := kx_n h23 K
            refine u_X5_age_80 ?_
            unfold bX5_age_80
            refine e_ldA (lvg_ne rfl rfl (by decide)) ?_
            refine e_cN 3 rfl ?_
            refine e_tJ kp ir20 (fun N e => nomatch (show (none : Option Nat) = some N from e)) (fun ir30 => ?_)
            refine e_ldA (lvg_ne rfl rfl (by decide)) ?_
            refine e_gR kp hp1 ?_
            refine And.intro kq (And.intro ⟨by decide, by decide⟩ (x_X6_clear kq ir30 (fun ir32 => ?_)))
            refine u_X5_age_92 ?_
            unfold bX5_age_92
            exact e_rV (K ir32)
        · replace K := kx_n h22 K
          exact e_rV (K ir20)
      · replace K := kx_n h19 K
        refine u_X5_age_30 ?_
        unfold bX5_age_30
        exact e_rV (K ir1)
  · replace K := kx_n h3 K
    refine u_X5_age_30 ?_
    unfold bX5_age_30
    exact e_rV (K ir1)
theorem n_X5_age {I : Nat → Nat → Int32} {p q : _} {z : Nat} (h0 : z ≠ p) (h1 : z ≠ q) : (f_X5_age I p q) z = I z := by
  simp only [f_X5_age]
  repeat' split
  all_goals simp only [up2_row h0, up2_row h1, n_X6_setBits h1, n_X6_clear h1]
def r_X5_age (rp : Nat → Int32) (rq : Nat → Int32)  : (Nat → Int32) × (Nat → Int32) := let p1_ := upd rp 12 (nI 0); if (rp 12) = 0 then (if (p1_ 3) = (nI 1) then (let p2_ := upd p1_ 4 ((p1_ 4) - (nI 1)); if (p2_ 4) ≤ 0 then (if (p2_ 3) = (nI 2) then (let p3_ := upd p2_ 3 (nI 1); let p4_ := upd p3_ 4 (nI 3); let y5_ := r_X6_setBits rq (nI 56) (nI 0); (p4_, (y5_))) else (let p6_ := upd p2_ 3 (nI 3); let y7_ := r_X6_clear rq; (p6_, (y7_)))) else ((p2_, rq))) else (if (p1_ 3) = (nI 2) then (let p8_ := upd p1_ 4 ((p1_ 4) - (nI 1)); if (p8_ 4) ≤ 0 then (if (p8_ 3) = (nI 2) then (let p9_ := upd p8_ 3 (nI 1); let p10_ := upd p9_ 4 (nI 3); let y11_ := r_X6_setBits rq (nI 56) (nI 0); (p10_, (y11_))) else (let p12_ := upd p8_ 3 (nI 3); let y13_ := r_X6_clear rq; (p12_, (y13_)))) else ((p8_, rq))) else ((p1_, rq)))) else ((p1_, rq))
theorem rr_X5_age {I : Nat → Nat → Int32} {p : Nat} {q : Nat}  (np_q : p ≠ q) : (f_X5_age I p q) p = (r_X5_age (I p) (I q) ).1 ∧ (f_X5_age I p q) q = (r_X5_age (I p) (I q) ).2 := by
  simp only [f_X5_age, r_X5_age, up2_upd, up2_row np_q, up2_row (Ne.symm np_q), (rr_X6_setBits), n_X6_setBits np_q, (rr_X6_clear), n_X6_clear np_q]
  repeat' split
  all_goals first | rfl | exact ⟨rfl, rfl⟩ | (simp only [up2_upd, up2_row np_q, up2_row (Ne.symm np_q), (rr_X6_setBits), n_X6_setBits np_q, (rr_X6_clear), n_X6_clear np_q]; done) | (simp_all only [up2_upd, up2_row np_q, up2_row (Ne.symm np_q), (rr_X6_setBits), n_X6_setBits np_q, (rr_X6_clear), n_X6_clear np_q]; done) | (simp_all; done) | simp_all [up2_upd, up2_row np_q, up2_row (Ne.symm np_q), (rr_X6_setBits), n_X6_setBits np_q, (rr_X6_clear), n_X6_clear np_q]
def f_X5_fits (I : Nat → Nat → Int32) (p : Nat) (o : Nat) (q : Nat) : Int32 := if (I p 3) = (nI 1) then (if (I o 1) ≤ 0 then ((nI 0)) else (if (I q 0) ≤ 0 then ((nI 0)) else (if (I q 1) ≤ 0 then ((nI 0)) else (if (f_X6_has I q (nI 4)) = 0 then ((nI 0)) else ((nI 1)))))) else (if (I p 3) = (nI 2) then (if (I o 1) ≤ 0 then ((nI 0)) else (if (I q 0) ≤ 0 then ((nI 0)) else (if (I q 1) ≤ 0 then ((nI 0)) else (if (f_X6_has I q (nI 4)) = 0 then ((nI 0)) else ((nI 1)))))) else ((nI 0)))
theorem x_X5_fits {Q : Option Value → MM → Prop} {S : MM} {p : Nat} {o : Nat} {q : Nat} (kp : sK S p = 6) (ko : sK S o = 7) (kq : sK S q = 7) (hp0 : sR S p 0 = some o) (hp1 : sR S p 1 = some q)    (K : KP Q S (f_X5_fits (sI S) p o q)) : wX5_fits [.ref p] S Q := by
  unfold f_X5_fits at K
  refine Exists.intro 4 (u_X5_fits_0 ?_)
  unfold bX5_fits_0
  refine e_ldA rfl ?_
  refine e_gE kp ?_
  refine e_cN 1 rfl ?_
  refine ⟨fun h1 => ?_, fun h1 => ?_⟩
  · replace K := kx_p h1 K
    refine u_X5_fits_16 ?_
    unfold bX5_fits_16
    refine e_ldA rfl ?_
    refine e_gR kp hp0 ?_
    refine e_gE ko ?_
    refine ⟨fun h2 => ?_, fun h2 => ?_⟩
    · replace K := kx_p h2 K
      refine u_X5_fits_61 ?_
      unfold bX5_fits_61
      refine e_cN 0 rfl ?_
      refine u_X5_fits_62 ?_
      unfold bX5_fits_62
      exact And.intro (Or.inl rfl) K
    · replace K := kx_n h2 K
      refine e_ldA rfl ?_
      refine e_gR kp hp1 ?_
      refine e_gE kq ?_
      refine ⟨fun h3 => ?_, fun h3 => ?_⟩
      · replace K := kx_p h3 K
        refine u_X5_fits_61 ?_
        unfold bX5_fits_61
        refine e_cN 0 rfl ?_
        refine u_X5_fits_62 ?_
        unfold bX5_fits_62
        exact And.intro (Or.inl rfl) K
      · replace K := kx_n h3 K
        refine e_ldA rfl ?_
        refine e_gR kp hp1 ?_
        refine e_gE kq ?_
        refine ⟨fun h4 => ?_, fun h4 => ?_⟩
        · replace K := kx_p h4 K
          refine u_X5_fits_61 ?_
          unfold bX5_fits_61
          refine e_cN 0 rfl ?_
          refine u_X5_fits_62 ?_
          unfold bX5_fits_62
          exact And.intro (Or.inl rfl) K
        · replace K := kx_n h4 K
          refine e_ldA rfl ?_
          refine e_gR kp hp1 ?_
          refine e_cN 4 rfl ?_
          refine And.intro kq (And.intro ⟨by decide, by decide⟩ (x_X6_has kq (KP_i ?_)))
          refine ⟨fun h5 => ?_, fun h5 => ?_⟩
          · replace K := kx_p h5 K
            refine u_X5_fits_61 ?_
            unfold bX5_fits_61
            refine e_cN 0 rfl ?_
            refine u_X5_fits_62 ?_
            unfold bX5_fits_62
            exact And.intro (Or.inl rfl) K
          · replace K := kx_n h5 K
            refine e_cN 1 rfl ?_
            refine u_X5_fits_62 ?_
            unfold bX5_fits_62
            exact And.intro (Or.inr rfl) K
  · replace K := kx_n h1 K
    refine e_ldA rfl ?_
    refine e_gE kp ?_
    refine e_cN 2 rfl ?_
    refine ⟨fun h6 => ?_, fun h6 => ?_⟩
    · replace K := kx_p h6 K
      refine u_X5_fits_16 ?_
      unfold bX5_fits_16
      refine e_ldA rfl ?_
      refine e_gR kp hp0 ?_
      refine e_gE ko ?_
      refine ⟨fun h7 => ?_, fun h7 => ?_⟩
      · replace K := kx_p h7 K
        refine u_X5_fits_61 ?_
        unfold bX5_fits_61
        refine e_cN 0 rfl ?_
        refine u_X5_fits_62 ?_
        unfold bX5_fits_62
        exact And.intro (Or.inl rfl) K
      · replace K := kx_n h7 K
        refine e_ldA rfl ?_
        refine e_gR kp hp1 ?_
        refine e_gE kq ?_
        refine ⟨fun h8 => ?_, fun h8 => ?_⟩
        · replace K := kx_p h8 K
          refine u_X5_fits_61 ?_
          unfold bX5_fits_61
          refine e_cN 0 rfl ?_
          refine u_X5_fits_62 ?_
          unfold bX5_fits_62
          exact And.intro (Or.inl rfl) K
        · replace K := kx_n h8 K
          refine e_ldA rfl ?_
          refine e_gR kp hp1 ?_
          refine e_gE kq ?_
          refine ⟨fun h9 => ?_, fun h9 => ?_⟩
          · replace K := kx_p h9 K
            refine u_X5_fits_61 ?_
            unfold bX5_fits_61
            refine e_cN 0 rfl ?_
            refine u_X5_fits_62 ?_
            unfold bX5_fits_62
            exact And.intro (Or.inl rfl) K
          · replace K := kx_n h9 K
            refine e_ldA rfl ?_
            refine e_gR kp hp1 ?_
            refine e_cN 4 rfl ?_
            refine And.intro kq (And.intro ⟨by decide, by decide⟩ (x_X6_has kq (KP_i ?_)))
            refine ⟨fun h10 => ?_, fun h10 => ?_⟩
            · replace K := kx_p h10 K
              refine u_X5_fits_61 ?_
              unfold bX5_fits_61
              refine e_cN 0 rfl ?_
              refine u_X5_fits_62 ?_
              unfold bX5_fits_62
              exact And.intro (Or.inl rfl) K
            · replace K := kx_n h10 K
              refine e_cN 1 rfl ?_
              refine u_X5_fits_62 ?_
              unfold bX5_fits_62
              exact And.intro (Or.inr rfl) K
    · replace K := kx_n h6 K
      refine u_X5_fits_61 ?_
      unfold bX5_fits_61
      refine e_cN 0 rfl ?_
      refine u_X5_fits_62 ?_
      unfold bX5_fits_62
      exact And.intro (Or.inl rfl) K
def r_X5_fits (rp : Nat → Int32) (ro : Nat → Int32) (rq : Nat → Int32)  : Int32 := if (rp 3) = (nI 1) then (if (ro 1) ≤ 0 then ((nI 0)) else (if (rq 0) ≤ 0 then ((nI 0)) else (if (rq 1) ≤ 0 then ((nI 0)) else (if (r_X6_has rq (nI 4)) = 0 then ((nI 0)) else ((nI 1)))))) else (if (rp 3) = (nI 2) then (if (ro 1) ≤ 0 then ((nI 0)) else (if (rq 0) ≤ 0 then ((nI 0)) else (if (rq 1) ≤ 0 then ((nI 0)) else (if (r_X6_has rq (nI 4)) = 0 then ((nI 0)) else ((nI 1)))))) else ((nI 0)))
theorem rr_X5_fits {I : Nat → Nat → Int32} {p : Nat} {o : Nat} {q : Nat}   : (f_X5_fits I p o q) = (r_X5_fits (I p) (I o) (I q) ) := by
  simp only [f_X5_fits, r_X5_fits, up2_upd, (rr_X6_has)]
  repeat' split
  all_goals first | rfl | exact ⟨rfl, rfl⟩ | (simp only [up2_upd, (rr_X6_has)]; done) | (simp_all only [up2_upd, (rr_X6_has)]; done) | (simp_all; done) | simp_all [up2_upd, (rr_X6_has)]
def f_X5_isLike (I : Nat → Nat → Int32) (p : Nat) (o : Nat) (q : Nat) (b : Nat) (bo : Nat) (bq : Nat) : Int32 := if (I o 1) = (I bo 1) then (if (I q 0) = (I bq 0) then (if (I q 1) = (I bq 1) then ((nI 1)) else ((nI 0))) else ((nI 0))) else ((nI 0))
theorem x_X5_isLike {Q : Option Value → MM → Prop} {S : MM} {p : Nat} {o : Nat} {q : Nat} {b : Nat} {bo : Nat} {bq : Nat} (kp : sK S p = 6) (ko : sK S o = 7) (kq : sK S q = 7) (kb : sK S b = 6) (kbo : sK S bo = 7) (kbq : sK S bq = 7) (hp0 : sR S p 0 = some o) (hp1 : sR S p 1 = some q) (hb0 : sR S b 0 = some bo) (hb1 : sR S b 1 = some bq)    (K : KP Q S (f_X5_isLike (sI S) p o q b bo bq)) : wX5_isLike [.ref p, .ref b] S Q := by
  unfold f_X5_isLike at K
  refine Exists.intro 3 (u_X5_isLike_0 ?_)
  unfold bX5_isLike_0
  refine e_ldA rfl ?_
  refine e_gR kp hp0 ?_
  refine e_gE ko ?_
  refine e_ldA rfl ?_
  refine e_gR kb hb0 ?_
  refine e_gE kbo ?_
  refine ⟨fun h1 => ?_, fun h1 => ?_⟩
  · replace K := kx_p h1 K
    refine e_ldA rfl ?_
    refine e_gR kp hp1 ?_
    refine e_gE kq ?_
    refine e_ldA rfl ?_
    refine e_gR kb hb1 ?_
    refine e_gE kbq ?_
    refine ⟨fun h2 => ?_, fun h2 => ?_⟩
    · replace K := kx_p h2 K
      refine e_ldA rfl ?_
      refine e_gR kp hp1 ?_
      refine e_gE kq ?_
      refine e_ldA rfl ?_
      refine e_gR kb hb1 ?_
      refine e_gE kbq ?_
      refine ⟨fun h3 => ?_, fun h3 => ?_⟩
      · replace K := kx_p h3 K
        refine e_cN 1 rfl ?_
        refine u_X5_isLike_56 ?_
        unfold bX5_isLike_56
        exact And.intro (Or.inr rfl) K
      · replace K := kx_n h3 K
        refine u_X5_isLike_55 ?_
        unfold bX5_isLike_55
        refine e_cN 0 rfl ?_
        refine u_X5_isLike_56 ?_
        unfold bX5_isLike_56
        exact And.intro (Or.inl rfl) K
    · replace K := kx_n h2 K
      refine u_X5_isLike_55 ?_
      unfold bX5_isLike_55
      refine e_cN 0 rfl ?_
      refine u_X5_isLike_56 ?_
      unfold bX5_isLike_56
      exact And.intro (Or.inl rfl) K
  · replace K := kx_n h1 K
    refine u_X5_isLike_55 ?_
    unfold bX5_isLike_55
    refine e_cN 0 rfl ?_
    refine u_X5_isLike_56 ?_
    unfold bX5_isLike_56
    exact And.intro (Or.inl rfl) K
def r_X5_isLike (rp : Nat → Int32) (ro : Nat → Int32) (rq : Nat → Int32) (rb : Nat → Int32) (rbo : Nat → Int32) (rbq : Nat → Int32)  : Int32 := if (ro 1) = (rbo 1) then (if (rq 0) = (rbq 0) then (if (rq 1) = (rbq 1) then ((nI 1)) else ((nI 0))) else ((nI 0))) else ((nI 0))
theorem rr_X5_isLike {I : Nat → Nat → Int32} {p : Nat} {o : Nat} {q : Nat} {b : Nat} {bo : Nat} {bq : Nat}   : (f_X5_isLike I p o q b bo bq) = (r_X5_isLike (I p) (I o) (I q) (I b) (I bo) (I bq) ) := by
  simp only [f_X5_isLike, r_X5_isLike, up2_upd]
  repeat' split
  all_goals first | rfl | exact ⟨rfl, rfl⟩ | (simp only [up2_upd]; done) | (simp_all only [up2_upd]; done) | (simp_all; done) | simp_all [up2_upd]
def f_X5_isStillBound (I : Nat → Nat → Int32) (p : Nat) (o : Nat) (q : Nat) : Int32 := if (I o 1) = (I p 7) then (if (I q 0) = (I p 8) then (if (I q 1) = (I p 9) then ((nI 1)) else ((nI 0))) else ((nI 0))) else ((nI 0))
theorem x_X5_isStillBound {Q : Option Value → MM → Prop} {S : MM} {p : Nat} {o : Nat} {q : Nat} (kp : sK S p = 6) (ko : sK S o = 7) (kq : sK S q = 7) (hp0 : sR S p 0 = some o) (hp1 : sR S p 1 = some q)    (K : KP Q S (f_X5_isStillBound (sI S) p o q)) : wX5_isStillBound [.ref p] S Q := by
  unfold f_X5_isStillBound at K
  refine Exists.intro 3 (u_X5_isStillBound_0 ?_)
  unfold bX5_isStillBound_0
  refine e_ldA rfl ?_
  refine e_gR kp hp0 ?_
  refine e_gE ko ?_
  refine e_ldA rfl ?_
  refine e_gE kp ?_
  refine ⟨fun h1 => ?_, fun h1 => ?_⟩
  · replace K := kx_p h1 K
    refine e_ldA rfl ?_
    refine e_gR kp hp1 ?_
    refine e_gE kq ?_
    refine e_ldA rfl ?_
    refine e_gE kp ?_
    refine ⟨fun h2 => ?_, fun h2 => ?_⟩
    · replace K := kx_p h2 K
      refine e_ldA rfl ?_
      refine e_gR kp hp1 ?_
      refine e_gE kq ?_
      refine e_ldA rfl ?_
      refine e_gE kp ?_
      refine ⟨fun h3 => ?_, fun h3 => ?_⟩
      · replace K := kx_p h3 K
        refine e_cN 1 rfl ?_
        refine u_X5_isStillBound_47 ?_
        unfold bX5_isStillBound_47
        exact And.intro (Or.inr rfl) K
      · replace K := kx_n h3 K
        refine u_X5_isStillBound_46 ?_
        unfold bX5_isStillBound_46
        refine e_cN 0 rfl ?_
        refine u_X5_isStillBound_47 ?_
        unfold bX5_isStillBound_47
        exact And.intro (Or.inl rfl) K
    · replace K := kx_n h2 K
      refine u_X5_isStillBound_46 ?_
      unfold bX5_isStillBound_46
      refine e_cN 0 rfl ?_
      refine u_X5_isStillBound_47 ?_
      unfold bX5_isStillBound_47
      exact And.intro (Or.inl rfl) K
  · replace K := kx_n h1 K
    refine u_X5_isStillBound_46 ?_
    unfold bX5_isStillBound_46
    refine e_cN 0 rfl ?_
    refine u_X5_isStillBound_47 ?_
    unfold bX5_isStillBound_47
    exact And.intro (Or.inl rfl) K
def r_X5_isStillBound (rp : Nat → Int32) (ro : Nat → Int32) (rq : Nat → Int32)  : Int32 := if (ro 1) = (rp 7) then (if (rq 0) = (rp 8) then (if (rq 1) = (rp 9) then ((nI 1)) else ((nI 0))) else ((nI 0))) else ((nI 0))
theorem rr_X5_isStillBound {I : Nat → Nat → Int32} {p : Nat} {o : Nat} {q : Nat}   : (f_X5_isStillBound I p o q) = (r_X5_isStillBound (I p) (I o) (I q) ) := by
  simp only [f_X5_isStillBound, r_X5_isStillBound, up2_upd]
  repeat' split
  all_goals first | rfl | exact ⟨rfl, rfl⟩ | (simp only [up2_upd]; done) | (simp_all only [up2_upd]; done) | (simp_all; done) | simp_all [up2_upd]
def f_X5_bind (I : Nat → Nat → Int32) (p : Nat) (o : Nat) (q : Nat) : Nat → Nat → Int32 := let I2 := up2 I p 7 (I o 1); let I4 := up2 I2 p 8 (I2 q 0); let I6 := up2 I4 p 9 (I4 q 1); let I8 := up2 I6 p 6 (nI 2); I8
theorem x_X5_bind {Q : Option Value → MM → Prop} {S : MM} {p : Nat} {o : Nat} {q : Nat} (kp : sK S p = 6) (ko : sK S o = 7) (kq : sK S q = 7) (hp0 : sR S p 0 = some o) (hp1 : sR S p 1 = some q) (ir : IR S)   (K : KVC Q S (f_X5_bind (sI S) p o q)) : wX5_bind [.ref p] S Q := by
  unfold f_X5_bind at K
  refine Exists.intro 1 (u_X5_bind_0 ?_)
  unfold bX5_bind_0
  refine e_ldA rfl ?_
  refine e_ldA rfl ?_
  refine e_gR kp hp0 ?_
  refine e_gE ko ?_
  refine e_tJ kp ir (fun N e => nomatch (show (none : Option Nat) = some N from e)) (fun ir1 => ?_)
  refine e_ldA rfl ?_
  refine e_ldA rfl ?_
  refine e_gR kp hp1 ?_
  refine e_gE kq ?_
  refine e_tJ kp ir1 (fun N e => nomatch (show (none : Option Nat) = some N from e)) (fun ir3 => ?_)
  refine e_ldA rfl ?_
  refine e_ldA rfl ?_
  refine e_gR kp hp1 ?_
  refine e_gE kq ?_
  refine e_tJ kp ir3 (fun N e => nomatch (show (none : Option Nat) = some N from e)) (fun ir5 => ?_)
  refine e_ldA rfl ?_
  refine e_cN 2 rfl ?_
  refine e_tJ kp ir5 (fun N e => nomatch (show (none : Option Nat) = some N from e)) (fun ir7 => ?_)
  exact e_rV (K ir7)
theorem n_X5_bind {I : Nat → Nat → Int32} {p o q : _} {z : Nat} (h0 : z ≠ p) : (f_X5_bind I p o q) z = I z := by
  simp only [f_X5_bind]
  repeat' split
  all_goals simp only [up2_row h0]
def r_X5_bind (rp : Nat → Int32) (ro : Nat → Int32) (rq : Nat → Int32)  : (Nat → Int32) := let p1_ := upd rp 7 (ro 1); let p2_ := upd p1_ 8 (rq 0); let p3_ := upd p2_ 9 (rq 1); let p4_ := upd p3_ 6 (nI 2); p4_
theorem rr_X5_bind {I : Nat → Nat → Int32} {p : Nat} {o : Nat} {q : Nat}  (np_o : p ≠ o) (np_q : p ≠ q) : (f_X5_bind I p o q) p = (r_X5_bind (I p) (I o) (I q) ) := by
  simp only [f_X5_bind, r_X5_bind, up2_upd, up2_row np_o, up2_row np_q, up2_row (Ne.symm np_o), up2_row (Ne.symm np_q)]
  repeat' split
  all_goals first | rfl | exact ⟨rfl, rfl⟩ | (simp only [up2_upd, up2_row np_o, up2_row np_q, up2_row (Ne.symm np_o), up2_row (Ne.symm np_q)]; done) | (simp_all only [up2_upd, up2_row np_o, up2_row np_q, up2_row (Ne.symm np_o), up2_row (Ne.symm np_q)]; done) | (simp_all; done) | simp_all [up2_upd, up2_row np_o, up2_row np_q, up2_row (Ne.symm np_o), up2_row (Ne.symm np_q)]
def f_X5_step (I : Nat → Nat → Int32) (p : Nat) (o : Nat) (q : Nat) : (Nat → Nat → Int32) × Int32 := if (I p 11) = 0 then ((I, (nI 0))) else (if (I p 5) = 0 then (if (I p 5) = 0 then (let I5 := f_X5_bind I p o q; (I5, (nI 1))) else (if (I p 5) = (nI 1) then (let I8 := up2 I p 6 ((I p 6) - (nI 1)); if (I8 p 6) ≤ 0 then ((I8, (nI 2))) else ((I8, (nI 1)))) else (if (f_X6_has I q (nI 8)) = 0 then ((I, (nI 2))) else (if (I p 5) = (nI 2) then ((I, (nI 3))) else (if (f_X6_has I q (nI 16)) = 0 then ((I, (nI 3))) else ((I, (nI 4)))))))) else (if (f_X5_isStillBound I p o q) = 0 then ((I, (nI 0))) else (if (I p 5) = 0 then (let I16 := f_X5_bind I p o q; (I16, (nI 1))) else (if (I p 5) = (nI 1) then (let I19 := up2 I p 6 ((I p 6) - (nI 1)); if (I19 p 6) ≤ 0 then ((I19, (nI 2))) else ((I19, (nI 1)))) else (if (f_X6_has I q (nI 8)) = 0 then ((I, (nI 2))) else (if (I p 5) = (nI 2) then ((I, (nI 3))) else (if (f_X6_has I q (nI 16)) = 0 then ((I, (nI 3))) else ((I, (nI 4))))))))))
theorem x_X5_step {Q : Option Value → MM → Prop} {S : MM} {p : Nat} {o : Nat} {q : Nat} (kp : sK S p = 6) (ko : sK S o = 7) (kq : sK S q = 7) (hp0 : sR S p 0 = some o) (hp1 : sR S p 1 = some q) (ir : IR S)   (K : KBC Q S (f_X5_step (sI S) p o q)) : wX5_step [.ref p] S Q := by
  unfold f_X5_step at K
  refine Exists.intro 8 (u_X5_step_0 ?_)
  unfold bX5_step_0
  refine e_ldA rfl ?_
  refine e_gE kp ?_
  refine ⟨fun h1 => ?_, fun h1 => ?_⟩
  · replace K := kx_p h1 K
    refine u_X5_step_21 ?_
    unfold bX5_step_21
    refine e_cN 0 rfl ?_
    exact e_rI (K ir)
  · replace K := kx_n h1 K
    refine e_ldA rfl ?_
    refine e_gE kp ?_
    refine ⟨fun h2 => ?_, fun h2 => ?_⟩
    · replace K := kx_p h2 K
      refine u_X5_step_23 ?_
      unfold bX5_step_23
      refine e_ldA rfl ?_
      refine e_gE kp ?_
      refine ⟨fun h3 => ?_, fun h3 => ?_⟩
      · replace K := kx_p h3 K
        refine e_ldA rfl ?_
        refine And.intro kp (And.intro ⟨by decide, by decide⟩ (x_X5_bind kp ko kq hp0 hp1 ir (fun ir4 => ?_)))
        refine e_cN 1 rfl ?_
        exact e_rI (K ir4)
      · replace K := kx_n h3 K
        refine u_X5_step_36 ?_
        unfold bX5_step_36
        refine e_ldA rfl ?_
        refine e_gE kp ?_
        refine e_cN 1 rfl ?_
        refine ⟨fun h6 => ?_, fun h6 => ?_⟩
        · replace K := kx_p h6 K
          refine e_ldA rfl ?_
          refine e_duA ?_
          refine e_gE kp ?_
          refine e_cN 1 rfl ?_
          refine e_bopE ?_
          refine e_tJ kp ir (fun N e => nomatch (show (none : Option Nat) = some N from e)) (fun ir7 => ?_)
          refine e_ldA rfl ?_
          refine e_gE kp ?_
          refine ⟨fun h9 => ?_, fun h9 => ?_⟩
          · replace K := kx_p h9 K
            refine u_X5_step_65 ?_
            unfold bX5_step_65
            refine e_cN 2 rfl ?_
            refine u_X5_step_66 ?_
            unfold bX5_step_66
            exact e_rI (K ir7)
          · replace K := kx_n h9 K
            refine e_cN 1 rfl ?_
            refine u_X5_step_66 ?_
            unfold bX5_step_66
            exact e_rI (K ir7)
        · replace K := kx_n h6 K
          refine u_X5_step_67 ?_
          unfold bX5_step_67
          refine e_ldA rfl ?_
          refine e_gR kp hp1 ?_
          refine e_cN 8 rfl ?_
          refine And.intro kq (And.intro ⟨by decide, by decide⟩ (x_X6_has kq (KP_i ?_)))
          refine ⟨fun h10 => ?_, fun h10 => ?_⟩
          · replace K := kx_p h10 K
            refine e_cN 2 rfl ?_
            exact e_rI (K ir)
          · replace K := kx_n h10 K
            refine u_X5_step_81 ?_
            unfold bX5_step_81
            refine e_ldA rfl ?_
            refine e_gE kp ?_
            refine e_cN 2 rfl ?_
            refine ⟨fun h11 => ?_, fun h11 => ?_⟩
            · replace K := kx_p h11 K
              refine e_cN 3 rfl ?_
              exact e_rI (K ir)
            · replace K := kx_n h11 K
              refine u_X5_step_91 ?_
              unfold bX5_step_91
              refine e_ldA rfl ?_
              refine e_gR kp hp1 ?_
              refine e_cN 16 rfl ?_
              refine And.intro kq (And.intro ⟨by decide, by decide⟩ (x_X6_has kq (KP_i ?_)))
              refine ⟨fun h12 => ?_, fun h12 => ?_⟩
              · replace K := kx_p h12 K
                refine u_X5_step_107 ?_
                unfold bX5_step_107
                refine e_cN 3 rfl ?_
                refine u_X5_step_108 ?_
                unfold bX5_step_108
                exact e_rI (K ir)
              · replace K := kx_n h12 K
                refine e_cN 4 rfl ?_
                refine u_X5_step_108 ?_
                unfold bX5_step_108
                exact e_rI (K ir)
    · replace K := kx_n h2 K
      refine e_ldA rfl ?_
      refine And.intro kp (And.intro ⟨by decide, by decide⟩ (x_X5_isStillBound kp ko kq hp0 hp1 (KP_i ?_)))
      refine ⟨fun h13 => ?_, fun h13 => ?_⟩
      · replace K := kx_p h13 K
        refine u_X5_step_21 ?_
        unfold bX5_step_21
        refine e_cN 0 rfl ?_
        exact e_rI (K ir)
      · replace K := kx_n h13 K
        refine u_X5_step_23 ?_
        unfold bX5_step_23
        refine e_ldA rfl ?_
        refine e_gE kp ?_
        refine ⟨fun h14 => ?_, fun h14 => ?_⟩
        · replace K := kx_p h14 K
          refine e_ldA rfl ?_
          refine And.intro kp (And.intro ⟨by decide, by decide⟩ (x_X5_bind kp ko kq hp0 hp1 ir (fun ir15 => ?_)))
          refine e_cN 1 rfl ?_
          exact e_rI (K ir15)
        · replace K := kx_n h14 K
          refine u_X5_step_36 ?_
          unfold bX5_step_36
          refine e_ldA rfl ?_
          refine e_gE kp ?_
          refine e_cN 1 rfl ?_
          refine ⟨fun h17 => ?_, fun h17 => ?_⟩
          · replace K := kx_p h17 K
            refine e_ldA rfl ?_
            refine e_duA ?_
            refine e_gE kp ?_
            refine e_cN 1 rfl ?_
            refine e_bopE ?_
            refine e_tJ kp ir (fun N e => nomatch (show (none : Option Nat) = some N from e)) (fun ir18 => ?_)
            refine e_ldA rfl ?_
            refine e_gE kp ?_
            refine ⟨fun h20 => ?_, fun h20 => ?_⟩
            · replace K := kx_p h20 K
              refine u_X5_step_65 ?_
              unfold bX5_step_65
              refine e_cN 2 rfl ?_
              refine u_X5_step_66 ?_
              unfold bX5_step_66
              exact e_rI (K ir18)
            · replace K := kx_n h20 K
              refine e_cN 1 rfl ?_
              refine u_X5_step_66 ?_
              unfold bX5_step_66
              exact e_rI (K ir18)
          · replace K := kx_n h17 K
            refine u_X5_step_67 ?_
            unfold bX5_step_67
            refine e_ldA rfl ?_
            refine e_gR kp hp1 ?_
            refine e_cN 8 rfl ?_
            refine And.intro kq (And.intro ⟨by decide, by decide⟩ (x_X6_has kq (KP_i ?_)))
            refine ⟨fun h21 => ?_, fun h21 => ?_⟩
            · replace K := kx_p h21 K
              refine e_cN 2 rfl ?_
              exact e_rI (K ir)
            · replace K := kx_n h21 K
              refine u_X5_step_81 ?_
              unfold bX5_step_81
              refine e_ldA rfl ?_
              refine e_gE kp ?_
              refine e_cN 2 rfl ?_
              refine ⟨fun h22 => ?_, fun h22 => ?_⟩
              · replace K := kx_p h22 K
                refine e_cN 3 rfl ?_
                exact e_rI (K ir)
              · replace K := kx_n h22 K
                refine u_X5_step_91 ?_
                unfold bX5_step_91
                refine e_ldA rfl ?_
                refine e_gR kp hp1 ?_
                refine e_cN 16 rfl ?_
                refine And.intro kq (And.intro ⟨by decide, by decide⟩ (x_X6_has kq (KP_i ?_)))
                refine ⟨fun h23 => ?_, fun h23 => ?_⟩
                · replace K := kx_p h23 K
                  refine u_X5_step_107 ?_
                  unfold bX5_step_107
                  refine e_cN 3 rfl ?_
                  refine u_X5_step_108 ?_
                  unfold bX5_step_108
                  exact e_rI (K ir)
                · replace K := kx_n h23 K
                  refine e_cN 4 rfl ?_
                  refine u_X5_step_108 ?_
                  unfold bX5_step_108
                  exact e_rI (K ir)
theorem n_X5_step {I : Nat → Nat → Int32} {p o q : _} {z : Nat} (h0 : z ≠ p) : (f_X5_step I p o q).1 z = I z := by
  simp only [f_X5_step]
  repeat' split
  all_goals simp only [up2_row h0, n_X5_bind h0]
def r_X5_step (rp : Nat → Int32) (ro : Nat → Int32) (rq : Nat → Int32)  : (Nat → Int32) × Int32 := if (rp 11) = 0 then ((rp, (nI 0))) else (if (rp 5) = 0 then (if (rp 5) = 0 then (let y1_ := r_X5_bind rp ro rq; ((y1_), (nI 1))) else (if (rp 5) = (nI 1) then (let p2_ := upd rp 6 ((rp 6) - (nI 1)); if (p2_ 6) ≤ 0 then ((p2_, (nI 2))) else ((p2_, (nI 1)))) else (if (r_X6_has rq (nI 8)) = 0 then ((rp, (nI 2))) else (if (rp 5) = (nI 2) then ((rp, (nI 3))) else (if (r_X6_has rq (nI 16)) = 0 then ((rp, (nI 3))) else ((rp, (nI 4)))))))) else (if (r_X5_isStillBound rp ro rq ) = 0 then ((rp, (nI 0))) else (if (rp 5) = 0 then (let y3_ := r_X5_bind rp ro rq; ((y3_), (nI 1))) else (if (rp 5) = (nI 1) then (let p4_ := upd rp 6 ((rp 6) - (nI 1)); if (p4_ 6) ≤ 0 then ((p4_, (nI 2))) else ((p4_, (nI 1)))) else (if (r_X6_has rq (nI 8)) = 0 then ((rp, (nI 2))) else (if (rp 5) = (nI 2) then ((rp, (nI 3))) else (if (r_X6_has rq (nI 16)) = 0 then ((rp, (nI 3))) else ((rp, (nI 4))))))))))
theorem rr_X5_step {I : Nat → Nat → Int32} {p : Nat} {o : Nat} {q : Nat}  (np_o : p ≠ o) (np_q : p ≠ q) : (f_X5_step I p o q).1 p = (r_X5_step (I p) (I o) (I q) ).1 ∧ (f_X5_step I p o q).2 = (r_X5_step (I p) (I o) (I q) ).2 := by
  simp only [f_X5_step, r_X5_step, up2_upd, up2_row np_o, up2_row np_q, up2_row (Ne.symm np_o), up2_row (Ne.symm np_q), (rr_X5_bind (I := _) np_o np_q), n_X5_bind (Ne.symm np_o), n_X5_bind (Ne.symm np_q), (rr_X6_has), (rr_X5_isStillBound)]
  repeat' split
  all_goals first | rfl | exact ⟨rfl, rfl⟩ | (simp only [up2_upd, up2_row np_o, up2_row np_q, up2_row (Ne.symm np_o), up2_row (Ne.symm np_q), (rr_X5_bind (I := _) np_o np_q), n_X5_bind (Ne.symm np_o), n_X5_bind (Ne.symm np_q), (rr_X6_has), (rr_X5_isStillBound)]; done) | (simp_all only [up2_upd, up2_row np_o, up2_row np_q, up2_row (Ne.symm np_o), up2_row (Ne.symm np_q), (rr_X5_bind (I := _) np_o np_q), n_X5_bind (Ne.symm np_o), n_X5_bind (Ne.symm np_q), (rr_X6_has), (rr_X5_isStillBound)]; done) | (simp_all; done) | simp_all [up2_upd, up2_row np_o, up2_row np_q, up2_row (Ne.symm np_o), up2_row (Ne.symm np_q), (rr_X5_bind (I := _) np_o np_q), n_X5_bind (Ne.symm np_o), n_X5_bind (Ne.symm np_q), (rr_X6_has), (rr_X5_isStillBound)]
def f_X5_mustTell (I : Nat → Nat → Int32) (p : Nat) (o : Nat) (q : Nat) (l : Nat) (v : Int32) : Int32 := if (f_X5_isLit I p) = 0 then ((nI 0)) else (if (f_X6_has I o (nI 1)) = 0 then (if (f_X6_has I q (nI 1)) = 0 then ((nI 0)) else (if (I p 13) = 0 then (if (I p 15) = (-1 : Int32) then ((nI 1)) else (if (f_X6_isSame I l o) = 0 then ((nI 1)) else (if (I p 3) = (nI 2) then (if (f_X6_has I q (nI 2)) = 0 then (if (v - (I p 15)) < (nI 30) then ((nI 0)) else ((nI 1))) else (if (v - (I p 15)) < (nI 1) then ((nI 0)) else ((nI 1)))) else (if (v - (I p 15)) < (nI 1) then ((nI 0)) else ((nI 1)))))) else ((nI 1)))) else (if (I p 13) = 0 then (if (I p 15) = (-1 : Int32) then ((nI 1)) else (if (f_X6_isSame I l o) = 0 then ((nI 1)) else (if (I p 3) = (nI 2) then (if (f_X6_has I q (nI 2)) = 0 then (if (v - (I p 15)) < (nI 30) then ((nI 0)) else ((nI 1))) else (if (v - (I p 15)) < (nI 1) then ((nI 0)) else ((nI 1)))) else (if (v - (I p 15)) < (nI 1) then ((nI 0)) else ((nI 1)))))) else ((nI 1))))
theorem x_X5_mustTell {Q : Option Value → MM → Prop} {S : MM} {p : Nat} {o : Nat} {q : Nat} {l : Nat} {v : Int32} (kp : sK S p = 6) (ko : sK S o = 7) (kq : sK S q = 7) (kl : sK S l = 7) (hp0 : sR S p 0 = some o) (hp1 : sR S p 1 = some q) (hp14 : sR S p 14 = some l)    (K : KP Q S (f_X5_mustTell (sI S) p o q l v)) : wX5_mustTell [.ref p, .int v] S Q := by
  unfold f_X5_mustTell at K
  refine Exists.intro 9 (u_X5_mustTell_0 ?_)
  unfold bX5_mustTell_0
  refine e_ldA rfl ?_
  refine And.intro kp (And.intro ⟨by decide, by decide⟩ (x_X5_isLit kp (KP_i ?_)))
  refine ⟨fun h1 => ?_, fun h1 => ?_⟩
  · replace K := kx_p h1 K
    refine u_X5_mustTell_29 ?_
    unfold bX5_mustTell_29
    refine e_cN 0 rfl ?_
    exact And.intro (Or.inl rfl) K
  · replace K := kx_n h1 K
    refine e_ldA rfl ?_
    refine e_gR kp hp0 ?_
    refine e_cN 1 rfl ?_
    refine And.intro ko (And.intro ⟨by decide, by decide⟩ (x_X6_has ko (KP_i ?_)))
    refine ⟨fun h2 => ?_, fun h2 => ?_⟩
    · replace K := kx_p h2 K
      refine e_ldA rfl ?_
      refine e_gR kp hp1 ?_
      refine e_cN 1 rfl ?_
      refine And.intro kq (And.intro ⟨by decide, by decide⟩ (x_X6_has kq (KP_i ?_)))
      refine ⟨fun h3 => ?_, fun h3 => ?_⟩
      · replace K := kx_p h3 K
        refine u_X5_mustTell_29 ?_
        unfold bX5_mustTell_29
        refine e_cN 0 rfl ?_
        exact And.intro (Or.inl rfl) K
      · replace K := kx_n h3 K
        refine u_X5_mustTell_31 ?_
        unfold bX5_mustTell_31
        refine e_ldA rfl ?_
        refine e_gE kp ?_
        refine ⟨fun h4 => ?_, fun h4 => ?_⟩
        · replace K := kx_p h4 K
          refine e_ldA rfl ?_
          refine e_gE kp ?_
          refine e_cI ?_
          refine ⟨fun h5 => ?_, fun h5 => ?_⟩
          · replace K := kx_p h5 K
            refine u_X5_mustTell_60 ?_
            unfold bX5_mustTell_60
            refine e_cN 1 rfl ?_
            exact And.intro (Or.inr rfl) K
          · replace K := kx_n h5 K
            refine e_ldA rfl ?_
            refine e_gR kp hp14 ?_
            refine e_ldA rfl ?_
            refine e_gR kp hp0 ?_
            refine And.intro kl (And.intro ⟨by decide, by decide⟩ (x_X6_isSame kl ko (KP_i ?_)))
            refine ⟨fun h6 => ?_, fun h6 => ?_⟩
            · replace K := kx_p h6 K
              refine u_X5_mustTell_60 ?_
              unfold bX5_mustTell_60
              refine e_cN 1 rfl ?_
              exact And.intro (Or.inr rfl) K
            · replace K := kx_n h6 K
              refine u_X5_mustTell_62 ?_
              unfold bX5_mustTell_62
              refine e_ldA rfl ?_
              refine e_gE kp ?_
              refine e_cN 2 rfl ?_
              refine ⟨fun h7 => ?_, fun h7 => ?_⟩
              · replace K := kx_p h7 K
                refine e_ldA rfl ?_
                refine e_gR kp hp1 ?_
                refine e_cN 2 rfl ?_
                refine And.intro kq (And.intro ⟨by decide, by decide⟩ (x_X6_has kq (KP_i ?_)))
                refine ⟨fun h8 => ?_, fun h8 => ?_⟩
                · replace K := kx_p h8 K
                  refine e_cN 1 rfl ?_
                  refine u_X5_mustTell_86 ?_
                  unfold bX5_mustTell_86
                  refine e_stI ?_
                  refine e_ldI (lvg_ne rfl rfl (by decide)) ?_
                  refine e_ldA (lvg_ne rfl rfl (by decide)) ?_
                  refine e_gE kp ?_
                  refine e_bopE ?_
                  refine e_ldI lvg_self ?_
                  refine ⟨fun z => absurd z (by decide), fun _ => ?_⟩
                  refine e_cN 30 rfl ?_
                  refine u_X5_mustTell_103 ?_
                  unfold bX5_mustTell_103
                  refine ⟨fun h9 => ?_, fun h9 => ?_⟩
                  · replace K := kx_p h9 K
                    refine u_X5_mustTell_110 ?_
                    unfold bX5_mustTell_110
                    refine e_cN 0 rfl ?_
                    refine u_X5_mustTell_111 ?_
                    unfold bX5_mustTell_111
                    exact And.intro (Or.inl rfl) K
                  · replace K := kx_n h9 K
                    refine e_cN 1 rfl ?_
                    refine u_X5_mustTell_111 ?_
                    unfold bX5_mustTell_111
                    exact And.intro (Or.inr rfl) K
                · replace K := kx_n h8 K
                  refine u_X5_mustTell_85 ?_
                  unfold bX5_mustTell_85
                  refine e_cN 0 rfl ?_
                  refine u_X5_mustTell_86 ?_
                  unfold bX5_mustTell_86
                  refine e_stI ?_
                  refine e_ldI (lvg_ne rfl rfl (by decide)) ?_
                  refine e_ldA (lvg_ne rfl rfl (by decide)) ?_
                  refine e_gE kp ?_
                  refine e_bopE ?_
                  refine e_ldI lvg_self ?_
                  refine ⟨fun _ => ?_, fun z => absurd (by decide) z⟩
                  refine u_X5_mustTell_102 ?_
                  unfold bX5_mustTell_102
                  refine e_cN 1 rfl ?_
                  refine u_X5_mustTell_103 ?_
                  unfold bX5_mustTell_103
                  refine ⟨fun h10 => ?_, fun h10 => ?_⟩
                  · replace K := kx_p h10 K
                    refine u_X5_mustTell_110 ?_
                    unfold bX5_mustTell_110
                    refine e_cN 0 rfl ?_
                    refine u_X5_mustTell_111 ?_
                    unfold bX5_mustTell_111
                    exact And.intro (Or.inl rfl) K
                  · replace K := kx_n h10 K
                    refine e_cN 1 rfl ?_
                    refine u_X5_mustTell_111 ?_
                    unfold bX5_mustTell_111
                    exact And.intro (Or.inr rfl) K
              · replace K := kx_n h7 K
                refine u_X5_mustTell_85 ?_
                unfold bX5_mustTell_85
                refine e_cN 0 rfl ?_
                refine u_X5_mustTell_86 ?_
                unfold bX5_mustTell_86
                refine e_stI ?_
                refine e_ldI (lvg_ne rfl rfl (by decide)) ?_
                refine e_ldA (lvg_ne rfl rfl (by decide)) ?_
                refine e_gE kp ?_
                refine e_bopE ?_
                refine e_ldI lvg_self ?_
                refine ⟨fun _ => ?_, fun z => absurd (by decide) z⟩
                refine u_X5_mustTell_102 ?_
                unfold bX5_mustTell_102
                refine e_cN 1 rfl ?_
                refine u_X5_mustTell_103 ?_
                unfold bX5_mustTell_103
                refine ⟨fun h11 => ?_, fun h11 => ?_⟩
                · replace K := kx_p h11 K
                  refine u_X5_mustTell_110 ?_
                  unfold bX5_mustTell_110
                  refine e_cN 0 rfl ?_
                  refine u_X5_mustTell_111 ?_
                  unfold bX5_mustTell_111
                  exact And.intro (Or.inl rfl) K
                · replace K := kx_n h11 K
                  refine e_cN 1 rfl ?_
                  refine u_X5_mustTell_111 ?_
                  unfold bX5_mustTell_111
                  exact And.intro (Or.inr rfl) K
        · replace K := kx_n h4 K
          refine u_X5_mustTell_60 ?_
          unfold bX5_mustTell_60
          refine e_cN 1 rfl ?_
          exact And.intro (Or.inr rfl) K
    · replace K := kx_n h2 K
      refine u_X5_mustTell_31 ?_
      unfold bX5_mustTell_31
      refine e_ldA rfl ?_
      refine e_gE kp ?_
      refine ⟨fun h12 => ?_, fun h12 => ?_⟩
      · replace K := kx_p h12 K
        refine e_ldA rfl ?_
        refine e_gE kp ?_
        refine e_cI ?_
        refine ⟨fun h13 => ?_, fun h13 => ?_⟩
        · replace K := kx_p h13 K
          refine u_X5_mustTell_60 ?_
          unfold bX5_mustTell_60
          refine e_cN 1 rfl ?_
          exact And.intro (Or.inr rfl) K
        · replace K := kx_n h13 K
          refine e_ldA rfl ?_
          refine e_gR kp hp14 ?_
          refine e_ldA rfl ?_
          refine e_gR kp hp0 ?_
          refine And.intro kl (And.intro ⟨by decide, by decide⟩ (x_X6_isSame kl ko (KP_i ?_)))
          refine ⟨fun h14 => ?_, fun h14 => ?_⟩
          · replace K := kx_p h14 K
            refine u_X5_mustTell_60 ?_
            unfold bX5_mustTell_60
            refine e_cN 1 rfl ?_
            exact And.intro (Or.inr rfl) K
          · replace K := kx_n h14 K
            refine u_X5_mustTell_62 ?_
            unfold bX5_mustTell_62
            refine e_ldA rfl ?_
            refine e_gE kp ?_
            refine e_cN 2 rfl ?_
            refine ⟨fun h15 => ?_, fun h15 => ?_⟩
            · replace K := kx_p h15 K
              refine e_ldA rfl ?_
              refine e_gR kp hp1 ?_
              refine e_cN 2 rfl ?_
              refine And.intro kq (And.intro ⟨by decide, by decide⟩ (x_X6_has kq (KP_i ?_)))
              refine ⟨fun h16 => ?_, fun h16 => ?_⟩
              · replace K := kx_p h16 K
                refine e_cN 1 rfl ?_
                refine u_X5_mustTell_86 ?_
                unfold bX5_mustTell_86
                refine e_stI ?_
                refine e_ldI (lvg_ne rfl rfl (by decide)) ?_
                refine e_ldA (lvg_ne rfl rfl (by decide)) ?_
                refine e_gE kp ?_
                refine e_bopE ?_
                refine e_ldI lvg_self ?_
                refine ⟨fun z => absurd z (by decide), fun _ => ?_⟩
                refine e_cN 30 rfl ?_
                refine u_X5_mustTell_103 ?_
                unfold bX5_mustTell_103
                refine ⟨fun h17 => ?_, fun h17 => ?_⟩
                · replace K := kx_p h17 K
                  refine u_X5_mustTell_110 ?_
                  unfold bX5_mustTell_110
                  refine e_cN 0 rfl ?_
                  refine u_X5_mustTell_111 ?_
                  unfold bX5_mustTell_111
                  exact And.intro (Or.inl rfl) K
                · replace K := kx_n h17 K
                  refine e_cN 1 rfl ?_
                  refine u_X5_mustTell_111 ?_
                  unfold bX5_mustTell_111
                  exact And.intro (Or.inr rfl) K
              · replace K := kx_n h16 K
                refine u_X5_mustTell_85 ?_
                unfold bX5_mustTell_85
                refine e_cN 0 rfl ?_
                refine u_X5_mustTell_86 ?_
                unfold bX5_mustTell_86
                refine e_stI ?_
                refine e_ldI (lvg_ne rfl rfl (by decide)) ?_
                refine e_ldA (lvg_ne rfl rfl (by decide)) ?_
                refine e_gE kp ?_
                refine e_bopE ?_
                refine e_ldI lvg_self ?_
                refine ⟨fun _ => ?_, fun z => absurd (by decide) z⟩
                refine u_X5_mustTell_102 ?_
                unfold bX5_mustTell_102
                refine e_cN 1 rfl ?_
                refine u_X5_mustTell_103 ?_
                unfold bX5_mustTell_103
                refine ⟨fun h18 => ?_, fun h18 => ?_⟩
                · replace K := kx_p h18 K
                  refine u_X5_mustTell_110 ?_
                  unfold bX5_mustTell_110
                  refine e_cN 0 rfl ?_
                  refine u_X5_mustTell_111 ?_
                  unfold bX5_mustTell_111
                  exact And.intro (Or.inl rfl) K
                · replace K := kx_n h18 K
                  refine e_cN 1 rfl ?_
                  refine u_X5_mustTell_111 ?_
                  unfold bX5_mustTell_111
                  exact And.intro (Or.inr rfl) K
            · replace K := kx_n h15 K
              refine u_X5_mustTell_85 ?_
              unfold bX5_mustTell_85
              refine e_cN 0 rfl ?_
              refine u_X5_mustTell_86 ?_
              unfold bX5_mustTell_86
              refine e_stI ?_
              refine e_ldI (lvg_ne rfl rfl (by decide)) ?_
              refine e_ldA (lvg_ne rfl rfl (by decide)) ?_
              refine e_gE kp ?_
              refine e_bopE ?_
              refine e_ldI lvg_self ?_
              refine ⟨fun _ => ?_, fun z => absurd (by decide) z⟩
              refine u_X5_mustTell_102 ?_
              unfold bX5_mustTell_102
              refine e_cN 1 rfl ?_
              refine u_X5_mustTell_103 ?_
              unfold bX5_mustTell_103
              refine ⟨fun h19 => ?_, fun h19 => ?_⟩
              · replace K := kx_p h19 K
                refine u_X5_mustTell_110 ?_
                unfold bX5_mustTell_110
                refine e_cN 0 rfl ?_
                refine u_X5_mustTell_111 ?_
                unfold bX5_mustTell_111
                exact And.intro (Or.inl rfl) K
              · replace K := kx_n h19 K
                refine e_cN 1 rfl ?_
                refine u_X5_mustTell_111 ?_
                unfold bX5_mustTell_111
                exact And.intro (Or.inr rfl) K
      · replace K := kx_n h12 K
        refine u_X5_mustTell_60 ?_
        unfold bX5_mustTell_60
        refine e_cN 1 rfl ?_
        exact And.intro (Or.inr rfl) K
def r_X5_mustTell (rp : Nat → Int32) (ro : Nat → Int32) (rq : Nat → Int32) (rl : Nat → Int32) (v : Int32) : Int32 := if (r_X5_isLit rp ) = 0 then ((nI 0)) else (if (r_X6_has ro (nI 1)) = 0 then (if (r_X6_has rq (nI 1)) = 0 then ((nI 0)) else (if (rp 13) = 0 then (if (rp 15) = (-1 : Int32) then ((nI 1)) else (if (r_X6_isSame rl ro ) = 0 then ((nI 1)) else (if (rp 3) = (nI 2) then (if (r_X6_has rq (nI 2)) = 0 then (if (v - (rp 15)) < (nI 30) then ((nI 0)) else ((nI 1))) else (if (v - (rp 15)) < (nI 1) then ((nI 0)) else ((nI 1)))) else (if (v - (rp 15)) < (nI 1) then ((nI 0)) else ((nI 1)))))) else ((nI 1)))) else (if (rp 13) = 0 then (if (rp 15) = (-1 : Int32) then ((nI 1)) else (if (r_X6_isSame rl ro ) = 0 then ((nI 1)) else (if (rp 3) = (nI 2) then (if (r_X6_has rq (nI 2)) = 0 then (if (v - (rp 15)) < (nI 30) then ((nI 0)) else ((nI 1))) else (if (v - (rp 15)) < (nI 1) then ((nI 0)) else ((nI 1)))) else (if (v - (rp 15)) < (nI 1) then ((nI 0)) else ((nI 1)))))) else ((nI 1))))
theorem rr_X5_mustTell {I : Nat → Nat → Int32} {p : Nat} {o : Nat} {q : Nat} {l : Nat} {v : Int32}  : (f_X5_mustTell I p o q l v) = (r_X5_mustTell (I p) (I o) (I q) (I l) v) := by
  simp only [f_X5_mustTell, r_X5_mustTell, up2_upd, (rr_X5_isLit), (rr_X6_has), (rr_X6_has), (rr_X6_isSame)]
  repeat' split
  all_goals first | rfl | exact ⟨rfl, rfl⟩ | (simp only [up2_upd, (rr_X5_isLit), (rr_X6_has), (rr_X6_has), (rr_X6_isSame)]; done) | (simp_all only [up2_upd, (rr_X5_isLit), (rr_X6_has), (rr_X6_has), (rr_X6_isSame)]; done) | (simp_all; done) | simp_all [up2_upd, (rr_X5_isLit), (rr_X6_has), (rr_X6_has), (rr_X6_isSame)]
def f_X5_rememberTelling (I : Nat → Nat → Int32) (p : Nat) (o : Nat) (l : Nat) (v : Int32) : Nat → Nat → Int32 := let I2 := f_X6_copyFrom I l o; let I4 := up2 I2 p 15 v; let I6 := up2 I4 p 13 (nI 0); let I8 := up2 I6 p 16 ((I6 p 16) + (nI 1)); I8
theorem x_X5_rememberTelling {Q : Option Value → MM → Prop} {S : MM} {p : Nat} {o : Nat} {l : Nat} {v : Int32} (kp : sK S p = 6) (ko : sK S o = 7) (kl : sK S l = 7) (hp0 : sR S p 0 = some o) (hp14 : sR S p 14 = some l) (ir : IR S)   (K : KVC Q S (f_X5_rememberTelling (sI S) p o l v)) : wX5_rememberTelling [.ref p, .int v] S Q := by
  unfold f_X5_rememberTelling at K
  refine Exists.intro 1 (u_X5_rememberTelling_0 ?_)
  unfold bX5_rememberTelling_0
  refine e_ldA rfl ?_
  refine e_gR kp hp14 ?_
  refine e_ldA rfl ?_
  refine e_gR kp hp0 ?_
  refine And.intro kl (And.intro ⟨by decide, by decide⟩ (x_X6_copyFrom kl ko ir (fun ir1 => ?_)))
  refine e_ldA rfl ?_
  refine e_ldI rfl ?_
  refine e_tJ kp ir1 (fun N e => nomatch (show (none : Option Nat) = some N from e)) (fun ir3 => ?_)
  refine e_ldA rfl ?_
  refine e_cN 0 rfl ?_
  refine e_tZJ kp (Or.inl rfl) ir3 (fun N e => nomatch (show (none : Option Nat) = some N from e)) (fun ir5 => ?_)
  refine e_ldA rfl ?_
  refine e_duA ?_
  refine e_gE kp ?_
  refine e_cN 1 rfl ?_
  refine e_bopE ?_
  refine e_tJ kp ir5 (fun N e => nomatch (show (none : Option Nat) = some N from e)) (fun ir7 => ?_)
  exact e_rV (K ir7)
theorem n_X5_rememberTelling {I : Nat → Nat → Int32} {p o l v : _} {z : Nat} (h0 : z ≠ l) (h1 : z ≠ p) : (f_X5_rememberTelling I p o l v) z = I z := by
  simp only [f_X5_rememberTelling]
  repeat' split
  all_goals simp only [up2_row h0, up2_row h1, n_X6_copyFrom h0]
def r_X5_rememberTelling (rp : Nat → Int32) (ro : Nat → Int32) (rl : Nat → Int32) (v : Int32) : (Nat → Int32) × (Nat → Int32) := let y1_ := r_X6_copyFrom rl ro; let p2_ := upd rp 15 v; let p3_ := upd p2_ 13 (nI 0); let p4_ := upd p3_ 16 ((p3_ 16) + (nI 1)); ((y1_), p4_)
theorem rr_X5_rememberTelling {I : Nat → Nat → Int32} {p : Nat} {o : Nat} {l : Nat} {v : Int32} (np_o : p ≠ o) (np_l : p ≠ l) (no_l : o ≠ l) : (f_X5_rememberTelling I p o l v) l = (r_X5_rememberTelling (I p) (I o) (I l) v).1 ∧ (f_X5_rememberTelling I p o l v) p = (r_X5_rememberTelling (I p) (I o) (I l) v).2 := by
  simp only [f_X5_rememberTelling, r_X5_rememberTelling, up2_upd, up2_row np_o, up2_row np_l, up2_row no_l, up2_row (Ne.symm np_o), up2_row (Ne.symm np_l), up2_row (Ne.symm no_l), (rr_X6_copyFrom (I := _) (Ne.symm no_l)), n_X6_copyFrom np_l, n_X6_copyFrom no_l]
  repeat' split
  all_goals first | rfl | exact ⟨rfl, rfl⟩ | (simp only [up2_upd, up2_row np_o, up2_row np_l, up2_row no_l, up2_row (Ne.symm np_o), up2_row (Ne.symm np_l), up2_row (Ne.symm no_l), (rr_X6_copyFrom (I := _) (Ne.symm no_l)), n_X6_copyFrom np_l, n_X6_copyFrom no_l]; done) | (simp_all only [up2_upd, up2_row np_o, up2_row np_l, up2_row no_l, up2_row (Ne.symm np_o), up2_row (Ne.symm np_l), up2_row (Ne.symm no_l), (rr_X6_copyFrom (I := _) (Ne.symm no_l)), n_X6_copyFrom np_l, n_X6_copyFrom no_l]; done) | (simp_all; done) | simp_all [up2_upd, up2_row np_o, up2_row np_l, up2_row no_l, up2_row (Ne.symm np_o), up2_row (Ne.symm np_l), up2_row (Ne.symm no_l), (rr_X6_copyFrom (I := _) (Ne.symm no_l)), n_X6_copyFrom np_l, n_X6_copyFrom no_l]
def f_X5_gives (I : Nat → Nat → Int32) (p : Nat) (v : Int32) : Int32 := if (I p 5) = (nI 4) then (if (I p 10) = v then ((nI 1)) else ((nI 0))) else ((nI 0))
theorem x_X5_gives {Q : Option Value → MM → Prop} {S : MM} {p : Nat} {v : Int32} (kp : sK S p = 6)    (K : KP Q S (f_X5_gives (sI S) p v)) : wX5_gives [.ref p, .int v] S Q := by
  unfold f_X5_gives at K
  refine Exists.intro 3 (u_X5_gives_0 ?_)
  unfold bX5_gives_0
  refine e_ldA rfl ?_
  refine e_gE kp ?_
  refine e_cN 4 rfl ?_
  refine ⟨fun h1 => ?_, fun h1 => ?_⟩
  · replace K := kx_p h1 K
    refine e_ldA rfl ?_
    refine e_gE kp ?_
    refine e_ldI rfl ?_
    refine ⟨fun h2 => ?_, fun h2 => ?_⟩
    · replace K := kx_p h2 K
      refine e_cN 1 rfl ?_
      refine u_X5_gives_21 ?_
      unfold bX5_gives_21
      exact And.intro (Or.inr rfl) K
    · replace K := kx_n h2 K
      refine u_X5_gives_20 ?_
      unfold bX5_gives_20
      refine e_cN 0 rfl ?_
      refine u_X5_gives_21 ?_
      unfold bX5_gives_21
      exact And.intro (Or.inl rfl) K
  · replace K := kx_n h1 K
    refine u_X5_gives_20 ?_
    unfold bX5_gives_20
    refine e_cN 0 rfl ?_
    refine u_X5_gives_21 ?_
    unfold bX5_gives_21
    exact And.intro (Or.inl rfl) K
def r_X5_gives (rp : Nat → Int32) (v : Int32) : Int32 := if (rp 5) = (nI 4) then (if (rp 10) = v then ((nI 1)) else ((nI 0))) else ((nI 0))
theorem rr_X5_gives {I : Nat → Nat → Int32} {p : Nat} {v : Int32}  : (f_X5_gives I p v) = (r_X5_gives (I p) v) := by
  simp only [f_X5_gives, r_X5_gives, up2_upd]
  repeat' split
  all_goals first | rfl | exact ⟨rfl, rfl⟩ | (simp only [up2_upd]; done) | (simp_all only [up2_upd]; done) | (simp_all; done) | simp_all [up2_upd]
def f_X5_isAheadOf (I : Nat → Nat → Int32) (p : Nat) (o : Nat) (q : Nat) (b : Nat) (bo : Nat) (bq : Nat) (v : Int32) : Int32 := if v = 0 then (if v = 0 then (if (I q 2) = (I bq 2) then (if (I q 3) = (I bq 3) then (if (I bo 3) ≤ (I o 3) then ((nI 0)) else ((nI 1))) else (if (I bq 3) ≤ (I q 3) then ((nI 0)) else ((nI 1)))) else (if (I bq 2) ≤ (I q 2) then ((nI 0)) else ((nI 1)))) else (if (I q 2) = (I bo 2) then (if (I q 3) = (I bo 3) then (if (I bo 3) ≤ (I o 3) then ((nI 0)) else ((nI 1))) else (if (I bo 3) ≤ (I q 3) then ((nI 0)) else ((nI 1)))) else (if (I bo 2) ≤ (I q 2) then ((nI 0)) else ((nI 1))))) else (if v = 0 then (if (I o 2) = (I bq 2) then (if (I o 3) = (I bq 3) then (if (I bo 3) ≤ (I o 3) then ((nI 0)) else ((nI 1))) else (if (I bq 3) ≤ (I o 3) then ((nI 0)) else ((nI 1)))) else (if (I bq 2) ≤ (I o 2) then ((nI 0)) else ((nI 1)))) else (if (I o 2) = (I bo 2) then (if (I o 3) = (I bo 3) then (if (I bo 3) ≤ (I o 3) then ((nI 0)) else ((nI 1))) else (if (I bo 3) ≤ (I o 3) then ((nI 0)) else ((nI 1)))) else (if (I bo 2) ≤ (I o 2) then ((nI 0)) else ((nI 1)))))
theorem x_X5_isAheadOf {Q : Option Value → MM → Prop} {S : MM} {p : Nat} {o : Nat} {q : Nat} {b : Nat} {bo : Nat} {bq : Nat} {v : Int32} (kp : sK S p = 6) (ko : sK S o = 7) (kq : sK S q = 7) (kb : sK S b = 6) (kbo : sK S bo = 7) (kbq : sK S bq = 7) (hp0 : sR S p 0 = some o) (hp1 : sR S p 1 = some q) (hb0 : sR S b 0 = some bo) (hb1 : sR S b 1 = some bq)    (K : KP Q S (f_X5_isAheadOf (sI S) p o q b bo bq v)) : wX5_isAheadOf [.ref p, .ref b, .int v] S Q := by
  unfold f_X5_isAheadOf at K
  refine Exists.intro 9 (u_X5_isAheadOf_0 ?_)
  unfold bX5_isAheadOf_0
  refine e_ldI rfl ?_
  refine ⟨fun h1 => ?_, fun h1 => ?_⟩
  · replace K := kx_p h1 K
    refine u_X5_isAheadOf_11 ?_
    unfold bX5_isAheadOf_11
    refine e_ldA rfl ?_
    refine e_gR kp hp1 ?_
    refine u_X5_isAheadOf_15 ?_
    unfold bX5_isAheadOf_15
    refine e_stA ?_
    refine e_ldI (lvg_ne rfl rfl (by decide)) ?_
    refine ⟨fun h2 => ?_, fun h2 => ?_⟩
    · replace K := kx_p h2 K
      refine u_X5_isAheadOf_27 ?_
      unfold bX5_isAheadOf_27
      refine e_ldA (lvg_ne rfl rfl (by decide)) ?_
      refine e_gR kb hb1 ?_
      refine u_X5_isAheadOf_31 ?_
      unfold bX5_isAheadOf_31
      refine e_stA ?_
      refine e_ldA (lvg_ne lvg_self rfl (by decide)) ?_
      refine e_gE kq ?_
      refine e_ldA lvg_self ?_
      refine e_gE kbq ?_
      refine ⟨fun h3 => ?_, fun h3 => ?_⟩
      · replace K := kx_p h3 K
        refine u_X5_isAheadOf_63 ?_
        unfold bX5_isAheadOf_63
        refine e_ldA (lvg_ne lvg_self rfl (by decide)) ?_
        refine e_gE kq ?_
        refine e_ldA lvg_self ?_
        refine e_gE kbq ?_
        refine ⟨fun h4 => ?_, fun h4 => ?_⟩
        · replace K := kx_p h4 K
          refine u_X5_isAheadOf_93 ?_
          unfold bX5_isAheadOf_93
          refine e_ldA (lvg_ne (lvg_ne rfl rfl (by decide)) rfl (by decide)) ?_
          refine e_gR kp hp0 ?_
          refine e_gE ko ?_
          refine e_ldA (lvg_ne (lvg_ne rfl rfl (by decide)) rfl (by decide)) ?_
          refine e_gR kb hb0 ?_
          refine e_gE kbo ?_
          refine ⟨fun h5 => ?_, fun h5 => ?_⟩
          · replace K := kx_p h5 K
            refine u_X5_isAheadOf_114 ?_
            unfold bX5_isAheadOf_114
            refine e_cN 0 rfl ?_
            refine u_X5_isAheadOf_115 ?_
            unfold bX5_isAheadOf_115
            exact And.intro (Or.inl rfl) K
          · replace K := kx_n h5 K
            refine e_cN 1 rfl ?_
            refine u_X5_isAheadOf_115 ?_
            unfold bX5_isAheadOf_115
            exact And.intro (Or.inr rfl) K
        · replace K := kx_n h4 K
          refine e_ldA (lvg_ne lvg_self rfl (by decide)) ?_
          refine e_gE kq ?_
          refine e_ldA lvg_self ?_
          refine e_gE kbq ?_
          refine ⟨fun h6 => ?_, fun h6 => ?_⟩
          · replace K := kx_p h6 K
            refine u_X5_isAheadOf_91 ?_
            unfold bX5_isAheadOf_91
            refine e_cN 0 rfl ?_
            refine u_X5_isAheadOf_92 ?_
            unfold bX5_isAheadOf_92
            exact And.intro (Or.inl rfl) K
          · replace K := kx_n h6 K
            refine e_cN 1 rfl ?_
            refine u_X5_isAheadOf_92 ?_
            unfold bX5_isAheadOf_92
            exact And.intro (Or.inr rfl) K
      · replace K := kx_n h3 K
        refine e_ldA (lvg_ne lvg_self rfl (by decide)) ?_
        refine e_gE kq ?_
        refine e_ldA lvg_self ?_
        refine e_gE kbq ?_
        refine ⟨fun h7 => ?_, fun h7 => ?_⟩
        · replace K := kx_p h7 K
          refine u_X5_isAheadOf_61 ?_
          unfold bX5_isAheadOf_61
          refine e_cN 0 rfl ?_
          refine u_X5_isAheadOf_62 ?_
          unfold bX5_isAheadOf_62
          exact And.intro (Or.inl rfl) K
        · replace K := kx_n h7 K
          refine e_cN 1 rfl ?_
          refine u_X5_isAheadOf_62 ?_
          unfold bX5_isAheadOf_62
          exact And.intro (Or.inr rfl) K
    · replace K := kx_n h2 K
      refine e_ldA (lvg_ne rfl rfl (by decide)) ?_
      refine e_gR kb hb0 ?_
      refine u_X5_isAheadOf_31 ?_
      unfold bX5_isAheadOf_31
      refine e_stA ?_
      refine e_ldA (lvg_ne lvg_self rfl (by decide)) ?_
      refine e_gE kq ?_
      refine e_ldA lvg_self ?_
      refine e_gE kbo ?_
      refine ⟨fun h8 => ?_, fun h8 => ?_⟩
      · replace K := kx_p h8 K
        refine u_X5_isAheadOf_63 ?_
        unfold bX5_isAheadOf_63
        refine e_ldA (lvg_ne lvg_self rfl (by decide)) ?_
        refine e_gE kq ?_
        refine e_ldA lvg_self ?_
        refine e_gE kbo ?_
        refine ⟨fun h9 => ?_, fun h9 => ?_⟩
        · replace K := kx_p h9 K
          refine u_X5_isAheadOf_93 ?_
          unfold bX5_isAheadOf_93
          refine e_ldA (lvg_ne (lvg_ne rfl rfl (by decide)) rfl (by decide)) ?_
          refine e_gR kp hp0 ?_
          refine e_gE ko ?_
          refine e_ldA (lvg_ne (lvg_ne rfl rfl (by decide)) rfl (by decide)) ?_
          refine e_gR kb hb0 ?_
          refine e_gE kbo ?_
          refine ⟨fun h10 => ?_, fun h10 => ?_⟩
          · replace K := kx_p h10 K
            refine u_X5_isAheadOf_114 ?_
            unfold bX5_isAheadOf_114
            refine e_cN 0 rfl ?_
            refine u_X5_isAheadOf_115 ?_
            unfold bX5_isAheadOf_115
            exact And.intro (Or.inl rfl) K
          · replace K := kx_n h10 K
            refine e_cN 1 rfl ?_
            refine u_X5_isAheadOf_115 ?_
            unfold bX5_isAheadOf_115
            exact And.intro (Or.inr rfl) K
        · replace K := kx_n h9 K
          refine e_ldA (lvg_ne lvg_self rfl (by decide)) ?_
          refine e_gE kq ?_
          refine e_ldA lvg_self ?_
          refine e_gE kbo ?_
          refine ⟨fun h11 => ?_, fun h11 => ?_⟩
          · replace K := kx_p h11 K
            refine u_X5_isAheadOf_91 ?_
            unfold bX5_isAheadOf_91
            refine e_cN 0 rfl ?_
            refine u_X5_isAheadOf_92 ?_
            unfold bX5_isAheadOf_92
            exact And.intro (Or.inl rfl) K
          · replace K := kx_n h11 K
            refine e_cN 1 rfl ?_
            refine u_X5_isAheadOf_92 ?_
            unfold bX5_isAheadOf_92
            exact And.intro (Or.inr rfl) K
      · replace K := kx_n h8 K
        refine e_ldA (lvg_ne lvg_self rfl (by decide)) ?_
        refine e_gE kq ?_
        refine e_ldA lvg_self ?_
        refine e_gE kbo ?_
        refine ⟨fun h12 => ?_, fun h12 => ?_⟩
        · replace K := kx_p h12 K
          refine u_X5_isAheadOf_61 ?_
          unfold bX5_isAheadOf_61
          refine e_cN 0 rfl ?_
          refine u_X5_isAheadOf_62 ?_
          unfold bX5_isAheadOf_62
          exact And.intro (Or.inl rfl) K
        · replace K := kx_n h12 K
          refine e_cN 1 rfl ?_
          refine u_X5_isAheadOf_62 ?_
          unfold bX5_isAheadOf_62
          exact And.intro (Or.inr rfl) K
  · replace K := kx_n h1 K
    refine e_ldA rfl ?_
    refine e_gR kp hp0 ?_
    refine u_X5_isAheadOf_15 ?_
    unfold bX5_isAheadOf_15
    refine e_stA ?_
    refine e_ldI (lvg_ne rfl rfl (by decide)) ?_
    refine ⟨fun h13 => ?_, fun h13 => ?_⟩
    · replace K := kx_p h13 K
      refine u_X5_isAheadOf_27 ?_
      unfold bX5_isAheadOf_27
      refine e_ldA (lvg_ne rfl rfl (by decide)) ?_
      refine e_gR kb hb1 ?_
      refine u_X5_isAheadOf_31 ?_
      unfold bX5_isAheadOf_31
      refine e_stA ?_
      refine e_ldA (lvg_ne lvg_self rfl (by decide)) ?_
      refine e_gE ko ?_
      refine e_ldA lvg_self ?_
      refine e_gE kbq ?_
      refine ⟨fun h14 => ?_, fun h14 => ?_⟩
      · replace K := kx_p h14 K
        refine u_X5_isAheadOf_63 ?_
        unfold bX5_isAheadOf_63
        refine e_ldA (lvg_ne lvg_self rfl (by decide)) ?_
        refine e_gE ko ?_
        refine e_ldA lvg_self ?_
        refine e_gE kbq ?_
        refine ⟨fun h15 => ?_, fun h15 => ?_⟩
        · replace K := kx_p h15 K
          refine u_X5_isAheadOf_93 ?_
          unfold bX5_isAheadOf_93
          refine e_ldA (lvg_ne (lvg_ne rfl rfl (by decide)) rfl (by decide)) ?_
          refine e_gR kp hp0 ?_
          refine e_gE ko ?_
          refine e_ldA (lvg_ne (lvg_ne rfl rfl (by decide)) rfl (by decide)) ?_
          refine e_gR kb hb0 ?_
          refine e_gE kbo ?_
          refine ⟨fun h16 => ?_, fun h16 => ?_⟩
          · replace K := kx_p h16 K
            refine u_X5_isAheadOf_114 ?_
            unfold bX5_isAheadOf_114
            refine e_cN 0 rfl ?_
            refine u_X5_isAheadOf_115 ?_
            unfold bX5_isAheadOf_115
            exact And.intro (Or.inl rfl) K
          · replace K := kx_n h16 K
            refine e_cN 1 rfl ?_
            refine u_X5_isAheadOf_115 ?_
            unfold bX5_isAheadOf_115
            exact And.intro (Or.inr rfl) K
        · replace K := kx_n h15 K
          refine e_ldA (lvg_ne lvg_self rfl (by decide)) ?_
          refine e_gE ko ?_
          refine e_ldA lvg_self ?_
          refine e_gE kbq ?_
          refine ⟨fun h17 => ?_, fun h17 => ?_⟩
          · replace K := kx_p h17 K
            refine u_X5_isAheadOf_91 ?_
            unfold bX5_isAheadOf_91
            refine e_cN 0 rfl ?_
            refine u_X5_isAheadOf_92 ?_
            unfold bX5_isAheadOf_92
            exact And.intro (Or.inl rfl) K
          · replace K := kx_n h17 K
            refine e_cN 1 rfl ?_
            refine u_X5_isAheadOf_92 ?_
            unfold bX5_isAheadOf_92
            exact And.intro (Or.inr rfl) K
      · replace K := kx_n h14 K
        refine e_ldA (lvg_ne lvg_self rfl (by decide)) ?_
        refine e_gE ko ?_
        refine e_ldA lvg_self ?_
        refine e_gE kbq ?_
        refine ⟨fun h18 => ?_, fun h18 => ?_⟩
        · replace K := kx_p h18 K
          refine u_X5_isAheadOf_61 ?_
          unfold bX5_isAheadOf_61
          refine e_cN 0 rfl ?_
          refine u_X5_isAheadOf_62 ?_
          unfold bX5_isAheadOf_62
          exact And.intro (Or.inl rfl) K
        · replace K := kx_n h18 K
          refine e_cN 1 rfl ?_
          refine u_X5_isAheadOf_62 ?_
          unfold bX5_isAheadOf_62
          exact And.intro (Or.inr rfl) K
    · replace K := kx_n h13 K
      refine e_ldA (lvg_ne rfl rfl (by decide)) ?_
      refine e_gR kb hb0 ?_
      refine u_X5_isAheadOf_31 ?_
      unfold bX5_isAheadOf_31
      refine e_stA ?_
      refine e_ldA (lvg_ne lvg_self rfl (by decide)) ?_
      refine e_gE ko ?_
      refine e_ldA lvg_self ?_
      refine e_gE kbo ?_
      refine ⟨fun h19 => ?_, fun h19 => ?_⟩
      · replace K := kx_p h19 K
        refine u_X5_isAheadOf_63 ?_
        unfold bX5_isAheadOf_63
        refine e_ldA (lvg_ne lvg_self rfl (by decide)) ?_
        refine e_gE ko ?_
        refine e_ldA lvg_self ?_
        refine e_gE kbo ?_
        refine ⟨fun h20 => ?_, fun h20 => ?_⟩
        · replace K := kx_p h20 K
          refine u_X5_isAheadOf_93 ?_
          unfold bX5_isAheadOf_93
          refine e_ldA (lvg_ne (lvg_ne rfl rfl (by decide)) rfl (by decide)) ?_
          refine e_gR kp hp0 ?_
          refine e_gE ko ?_
          refine e_ldA (lvg_ne (lvg_ne rfl rfl (by decide)) rfl (by decide)) ?_
          refine e_gR kb hb0 ?_
          refine e_gE kbo ?_
          refine ⟨fun h21 => ?_, fun h21 => ?_⟩
          · replace K := kx_p h21 K
            refine u_X5_isAheadOf_114 ?_
            unfold bX5_isAheadOf_114
            refine e_cN 0 rfl ?_
            refine u_X5_isAheadOf_115 ?_
            unfold bX5_isAheadOf_115
            exact And.intro (Or.inl rfl) K
          · replace K := kx_n h21 K
            refine e_cN 1 rfl ?_
            refine u_X5_isAheadOf_115 ?_
            unfold bX5_isAheadOf_115
            exact And.intro (Or.inr rfl) K
        · replace K := kx_n h20 K
          refine e_ldA (lvg_ne lvg_self rfl (by decide)) ?_
          refine e_gE ko ?_
          refine e_ldA lvg_self ?_
          refine e_gE kbo ?_
          refine ⟨fun h22 => ?_, fun h22 => ?_⟩
          · replace K := kx_p h22 K
            refine u_X5_isAheadOf_91 ?_
            unfold bX5_isAheadOf_91
            refine e_cN 0 rfl ?_
            refine u_X5_isAheadOf_92 ?_
            unfold bX5_isAheadOf_92
            exact And.intro (Or.inl rfl) K
          · replace K := kx_n h22 K
            refine e_cN 1 rfl ?_
            refine u_X5_isAheadOf_92 ?_
            unfold bX5_isAheadOf_92
            exact And.intro (Or.inr rfl) K
      · replace K := kx_n h19 K
        refine e_ldA (lvg_ne lvg_self rfl (by decide)) ?_
        refine e_gE ko ?_
        refine e_ldA lvg_self ?_
        refine e_gE kbo ?_
        refine ⟨fun h23 => ?_, fun h23 => ?_⟩
        · replace K := kx_p h23 K
          refine u_X5_isAheadOf_61 ?_
          unfold bX5_isAheadOf_61
          refine e_cN 0 rfl ?_
          refine u_X5_isAheadOf_62 ?_
          unfold bX5_isAheadOf_62
          exact And.intro (Or.inl rfl) K
        · replace K := kx_n h23 K
          refine e_cN 1 rfl ?_
          refine u_X5_isAheadOf_62 ?_
          unfold bX5_isAheadOf_62
          exact And.intro (Or.inr rfl) K
def r_X5_isAheadOf (rp : Nat → Int32) (ro : Nat → Int32) (rq : Nat → Int32) (rb : Nat → Int32) (rbo : Nat → Int32) (rbq : Nat → Int32) (v : Int32) : Int32 := if v = 0 then (if v = 0 then (if (rq 2) = (rbq 2) then (if (rq 3) = (rbq 3) then (if (rbo 3) ≤ (ro 3) then ((nI 0)) else ((nI 1))) else (if (rbq 3) ≤ (rq 3) then ((nI 0)) else ((nI 1)))) else (if (rbq 2) ≤ (rq 2) then ((nI 0)) else ((nI 1)))) else (if (rq 2) = (rbo 2) then (if (rq 3) = (rbo 3) then (if (rbo 3) ≤ (ro 3) then ((nI 0)) else ((nI 1))) else (if (rbo 3) ≤ (rq 3) then ((nI 0)) else ((nI 1)))) else (if (rbo 2) ≤ (rq 2) then ((nI 0)) else ((nI 1))))) else (if v = 0 then (if (ro 2) = (rbq 2) then (if (ro 3) = (rbq 3) then (if (rbo 3) ≤ (ro 3) then ((nI 0)) else ((nI 1))) else (if (rbq 3) ≤ (ro 3) then ((nI 0)) else ((nI 1)))) else (if (rbq 2) ≤ (ro 2) then ((nI 0)) else ((nI 1)))) else (if (ro 2) = (rbo 2) then (if (ro 3) = (rbo 3) then (if (rbo 3) ≤ (ro 3) then ((nI 0)) else ((nI 1))) else (if (rbo 3) ≤ (ro 3) then ((nI 0)) else ((nI 1)))) else (if (rbo 2) ≤ (ro 2) then ((nI 0)) else ((nI 1)))))
theorem rr_X5_isAheadOf {I : Nat → Nat → Int32} {p : Nat} {o : Nat} {q : Nat} {b : Nat} {bo : Nat} {bq : Nat} {v : Int32}  : (f_X5_isAheadOf I p o q b bo bq v) = (r_X5_isAheadOf (I p) (I o) (I q) (I b) (I bo) (I bq) v) := by
  simp only [f_X5_isAheadOf, r_X5_isAheadOf, up2_upd]
  repeat' split
  all_goals first | rfl | exact ⟨rfl, rfl⟩ | (simp only [up2_upd]; done) | (simp_all only [up2_upd]; done) | (simp_all; done) | simp_all [up2_upd]
def f_X1_moveTo (I : Nat → Nat → Int32) (e : Nat) (p : Nat) (o : Nat) (v : Int32) : Nat → Nat → Int32 := if (I p 5) = (nI 4) then (if v = (nI 4) then (let I4 := f_X5_setStage I p o v; I4) else (let I6 := up2 I e 8 ((I e 8) + (nI 1)); let I8 := f_X5_setStage I6 p o v; I8)) else (if v = (nI 4) then (let I11 := up2 I e 8 ((I e 8) + (nI 1)); let I13 := f_X5_setStage I11 p o v; I13) else (let I15 := f_X5_setStage I p o v; I15))
theorem x_X1_moveTo {Q : Option Value → MM → Prop} {S : MM} {e : Nat} {p : Nat} {o : Nat} {v : Int32} (ke : sK S e = 2) (kp : sK S p = 6) (ko : sK S o = 7) (hp0 : sR S p 0 = some o) (ir : IR S)   (K : KVC Q S (f_X1_moveTo (sI S) e p o v)) : wX1_moveTo [.ref e, .ref p, .int v] S Q := by
  unfold f_X1_moveTo at K
  refine Exists.intro 6 (u_X1_moveTo_0 ?_)
  unfold bX1_moveTo_0
  refine e_ldA rfl ?_
  refine e_gE kp ?_
  refine e_cN 4 rfl ?_
  refine ⟨fun h1 => ?_, fun h1 => ?_⟩
  · replace K := kx_p h1 K
    refine e_cN 1 rfl ?_
    refine u_X1_moveTo_13 ?_
    unfold bX1_moveTo_13
    refine e_ldI rfl ?_
    refine e_cN 4 rfl ?_
    refine ⟨fun h2 => ?_, fun h2 => ?_⟩
    · replace K := kx_p h2 K
      refine e_cN 1 rfl ?_
      refine u_X1_moveTo_23 ?_
      unfold bX1_moveTo_23
      refine ⟨fun _ => ?_, fun z => absurd (by decide) z⟩
      refine u_X1_moveTo_36 ?_
      unfold bX1_moveTo_36
      refine e_ldA rfl ?_
      refine e_ldI rfl ?_
      refine And.intro kp (And.intro ⟨by decide, by decide⟩ (x_X5_setStage kp ko hp0 ir (fun ir3 => ?_)))
      exact e_rV (K ir3)
    · replace K := kx_n h2 K
      refine u_X1_moveTo_22 ?_
      unfold bX1_moveTo_22
      refine e_cN 0 rfl ?_
      refine u_X1_moveTo_23 ?_
      unfold bX1_moveTo_23
      refine ⟨fun z => absurd z (by decide), fun _ => ?_⟩
      refine e_ldA rfl ?_
      refine e_duA ?_
      refine e_gE ke ?_
      refine e_cN 1 rfl ?_
      refine e_bopE ?_
      refine e_tJ ke ir (fun N e => nomatch (show (none : Option Nat) = some N from e)) (fun ir5 => ?_)
      refine u_X1_moveTo_36 ?_
      unfold bX1_moveTo_36
      refine e_ldA rfl ?_
      refine e_ldI rfl ?_
      refine And.intro kp (And.intro ⟨by decide, by decide⟩ (x_X5_setStage kp ko hp0 ir5 (fun ir7 => ?_)))
      exact e_rV (K ir7)
  · replace K := kx_n h1 K
    refine u_X1_moveTo_12 ?_
    unfold bX1_moveTo_12
    refine e_cN 0 rfl ?_
    refine u_X1_moveTo_13 ?_
    unfold bX1_moveTo_13
    refine e_ldI rfl ?_
    refine e_cN 4 rfl ?_
    refine ⟨fun h9 => ?_, fun h9 => ?_⟩
    · replace K := kx_p h9 K
      refine e_cN 1 rfl ?_
      refine u_X1_moveTo_23 ?_
      unfold bX1_moveTo_23
      refine ⟨fun z => absurd z (by decide), fun _ => ?_⟩
      refine e_ldA rfl ?_
      refine e_duA ?_
      refine e_gE ke ?_
      refine e_cN 1 rfl ?_
      refine e_bopE ?_
      refine e_tJ ke ir (fun N e => nomatch (show (none : Option Nat) = some N from e)) (fun ir10 => ?_)
      refine u_X1_moveTo_36 ?_
      unfold bX1_moveTo_36
      refine e_ldA rfl ?_
      refine e_ldI rfl ?_
      refine And.intro kp (And.intro ⟨by decide, by decide⟩ (x_X5_setStage kp ko hp0 ir10 (fun ir12 => ?_)))
      exact e_rV (K ir12)
    · replace K := kx_n h9 K
      refine u_X1_moveTo_22 ?_
      unfold bX1_moveTo_22
      refine e_cN 0 rfl ?_
      refine u_X1_moveTo_23 ?_
      unfold bX1_moveTo_23
      refine ⟨fun _ => ?_, fun z => absurd (by decide) z⟩
      refine u_X1_moveTo_36 ?_
      unfold bX1_moveTo_36
      refine e_ldA rfl ?_
      refine e_ldI rfl ?_
      refine And.intro kp (And.intro ⟨by decide, by decide⟩ (x_X5_setStage kp ko hp0 ir (fun ir14 => ?_)))
      exact e_rV (K ir14)
theorem n_X1_moveTo {I : Nat → Nat → Int32} {e p o v : _} {z : Nat} (h0 : z ≠ p) (h1 : z ≠ o) (h2 : z ≠ e) : (f_X1_moveTo I e p o v) z = I z := by
  simp only [f_X1_moveTo]
  repeat' split
  all_goals simp only [up2_row h0, up2_row h1, up2_row h2, n_X5_setStage h0 h1]
def r_X1_moveTo (re : Nat → Int32) (rp : Nat → Int32) (ro : Nat → Int32) (v : Int32) : (Nat → Int32) × (Nat → Int32) × (Nat → Int32) := if (rp 5) = (nI 4) then (if v = (nI 4) then (let y1_ := r_X5_setStage rp ro v; ((y1_.1), (y1_.2), re)) else (let e2_ := upd re 8 ((re 8) + (nI 1)); let y3_ := r_X5_setStage rp ro v; ((y3_.1), (y3_.2), e2_))) else (if v = (nI 4) then (let e4_ := upd re 8 ((re 8) + (nI 1)); let y5_ := r_X5_setStage rp ro v; ((y5_.1), (y5_.2), e4_)) else (let y6_ := r_X5_setStage rp ro v; ((y6_.1), (y6_.2), re)))
theorem rr_X1_moveTo {I : Nat → Nat → Int32} {e : Nat} {p : Nat} {o : Nat} {v : Int32} (ne_p : e ≠ p) (ne_o : e ≠ o) (np_o : p ≠ o) : (f_X1_moveTo I e p o v) p = (r_X1_moveTo (I e) (I p) (I o) v).1 ∧ (f_X1_moveTo I e p o v) o = (r_X1_moveTo (I e) (I p) (I o) v).2.1 ∧ (f_X1_moveTo I e p o v) e = (r_X1_moveTo (I e) (I p) (I o) v).2.2 := by
  simp only [f_X1_moveTo, r_X1_moveTo, up2_upd, up2_row ne_p, up2_row ne_o, up2_row np_o, up2_row (Ne.symm ne_p), up2_row (Ne.symm ne_o), up2_row (Ne.symm np_o), (rr_X5_setStage (I := _) np_o).1, (rr_X5_setStage (I := _) np_o).2, n_X5_setStage ne_p ne_o]
  repeat' split
  all_goals first | rfl | exact ⟨rfl, rfl⟩ | (simp only [up2_upd, up2_row ne_p, up2_row ne_o, up2_row np_o, up2_row (Ne.symm ne_p), up2_row (Ne.symm ne_o), up2_row (Ne.symm np_o), (rr_X5_setStage (I := _) np_o).1, (rr_X5_setStage (I := _) np_o).2, n_X5_setStage ne_p ne_o]; done) | (simp_all only [up2_upd, up2_row ne_p, up2_row ne_o, up2_row np_o, up2_row (Ne.symm ne_p), up2_row (Ne.symm ne_o), up2_row (Ne.symm np_o), (rr_X5_setStage (I := _) np_o).1, (rr_X5_setStage (I := _) np_o).2, n_X5_setStage ne_p ne_o]; done) | (simp_all; done) | simp_all [up2_upd, up2_row ne_p, up2_row ne_o, up2_row np_o, up2_row (Ne.symm ne_p), up2_row (Ne.symm ne_o), up2_row (Ne.symm np_o), (rr_X5_setStage (I := _) np_o).1, (rr_X5_setStage (I := _) np_o).2, n_X5_setStage ne_p ne_o]
