-- the law's start and its switch
theorem B0_ext {S S' : MM} {x aE aC e0 e1 : Nat} (h : B0 S x aE aC e0 e1) (st : ∀ a, sK S a ≠ 0 → RS S S' a) : B0 S' x aE aC e0 e1 := by
  obtain ⟨⟨b1, b2, b3, b4, b5, b6, b7, b8, b9, b10⟩, hz, hE0, hE1, hC⟩ := h
  have rx := st x (by rw [b1]; decide)
  have re := st aE (by rw [b4]; decide)
  have rc := st aC (by rw [b6]; decide)
  refine ⟨⟨by rw [rx.1]; exact b1, by rw [rx.2.2.2.1]; exact b2, by rw [rx.2.2.2.1]; exact b3, by rw [re.1]; exact b4, by rw [re.2.1]; exact b5, by rw [rc.1]; exact b6, by rw [rc.2.1]; exact b7, by rw [re.2.2.2.1]; exact b8, by rw [re.2.2.2.1]; exact b9, b10⟩, fun j => by rw [rx.2.2.1]; exact hz j, ?_, ?_, fun c hc => ?_⟩
  · exact E0_ext hE0 (st e0 (by rw [hE0.1.1]; decide)) (fun a ha => st a (by rcases ha with q | q | q; rw [q]; decide; rw [q]; decide; rw [q.1]; decide))
  · exact E0_ext hE1 (st e1 (by rw [hE1.1.1]; decide)) (fun a ha => st a (by rcases ha with q | q | q; rw [q]; decide; rw [q]; decide; rw [q.1]; decide))
  · obtain ⟨a, a1, a2⟩ := hC c hc
    exact ⟨a, by rw [rc.2.2.2.1]; exact a1, C0_ext a2 (st a (by rw [a2.1.1]; decide)) (fun a ha => st a (by rcases ha with q | q | q; rw [q]; decide; rw [q]; decide; rw [q.1]; decide))⟩
theorem MF_I {S0 S : MM} {m : Nat} (h : MI S0 S m DM (fM 16)) : MF S m := by
  obtain ⟨h1, h2, h3, h4, h5⟩ := h
  exact ⟨h2, h3, fun k hk => by obtain ⟨a, a1, a2, a3, a4, a5, a6⟩ := h4 k hk; exact ⟨a, a1, a2, a3, a4, a6⟩, h5⟩
theorem GG_of {S1 S2 S3 : MM} {x aE aC e0 e1 m out : Nat} (hB : B0 S1 x aE aC e0 e1) (hm : sK S1 m = 0) (hI : MI (nw S1 m 9 0) S2 m DM (fM 16)) (ho : sK S2 out = 0) (e3 : S3 = nw S2 out 18 1) : GG S3 x aE aC e0 e1 m out := by
  subst e3
  have o2 : ∀ a, sK S1 a ≠ 0 → RS S1 S2 a := fun a ha => by
    have hn : a ≠ m := fun z => ha (by rw [z]; exact hm)
    have r1 : RS S1 (nw S1 m 9 0) a := RS_nw hn
    exact r1.tr (hI.1 a (by rw [r1.1]; exact ha) hn)
  have o3 : ∀ a, sK S2 a ≠ 0 → RS S2 (nw S2 out 18 1) a := fun a ha => RS_nw (fun z => ha (by rw [z]; exact ho))
  refine ⟨B0_ext hB (fun a ha => (o2 a ha).tr (o3 a (by rw [(o2 a ha).1]; exact ha))), MF_ext (MF_I hI) (fun a ha => o3 a (by rcases ha with q | q | q <;> rw [q] <;> decide)), by rw [sK_nw, va_up_self], by rw [sN_nw, va_up_self]⟩
theorem law_0 {f b L : Nat} {xs : Nat → Int32} (h : ∀ (S : MM) (x aE aC e0 e1 m out c z : Nat), GG S x aE aC e0 e1 m out → c + 2 ≤ 600002 → z + 13 ≤ 7302232 → wpn (kL_law b L xs) f 23 [(4, .int 0), (3, .ref out), (2, .ref m), (1, .ref x), (0, .ref b)] [] S c z) : wpn (kL_law b L xs) (f + 1) 0 [(0, .ref b)] [] M0 0 0 := by
  refine stp ?_
  show bL_law_0 b L xs (wpn (kL_law b L xs) f) [(0, .ref b)] [] M0 0 0
  unfold bL_law_0
  refine And.intro ⟨by decide, by decide⟩ (fun x hx => And.intro ⟨by decide, by decide⟩ ?_)
  refine s_bp0 (by rw [sK_nw, va_up_self]) (fun j => by rw [sI_nw, cl2_self]) (fun S1 aE aC e0 e1 hE hB => ?_)
  refine And.intro ⟨by decide, by decide⟩ (fun m hm => And.intro ⟨by decide, by decide⟩ ?_)
  refine s_md0 (by rw [sK_nw, va_up_self]) (fun j => by rw [sI_nw, cl2_self]) (fun S2 hI => ?_)
  refine And.intro (by decide) (And.intro ⟨by decide, by decide, by decide⟩ (fun out ho => ?_))
  exact h _ x aE aC e0 e1 m out _ _ (GG_of hB hm hI ho rfl) (by decide) (by decide)
def pcs : List Nat := [112, 180, 248, 320, 424, 496, 532, 596, 656, 712, 804, 884, 964, 1032, 1081]
theorem law_23 {f b j0 : Nat} {xs : Nat → Int32} {S : MM} {x m out c z : Nat} (hv : (xs 0 &&& 15).toInt = (j0 : Int)) (hj : j0 ≤ 14) (h : wpn (kL_law b 5 xs) f (pcs.getD j0 0) [(4, .int 0), (3, .ref out), (2, .ref m), (1, .ref x), (0, .ref b)] [] S c z) : wpn (kL_law b 5 xs) (f + 1) 23 [(4, .int 0), (3, .ref out), (2, .ref m), (1, .ref x), (0, .ref b)] [] S c z := by
  refine stp ?_
  show bL_law_23 b 5 xs (wpn (kL_law b 5 xs) f) [(4, .int 0), (3, .ref out), (2, .ref m), (1, .ref x), (0, .ref b)] [] S c z
  unfold bL_law_23
  refine And.intro rfl (ifF (by decide) (And.intro rfl (And.intro (in_0 (by decide)) (And.intro (fun q => ?_) (fun j e hle => ?_)))))
  · exfalso
    have q' : (xs 0 &&& 15).toInt < 0 ∨ 14 < (xs 0 &&& 15).toInt := q
    omega
  · have e' : (xs 0 &&& 15).toInt = 0 + (j : Int) := e
    have : j = j0 := by omega
    subst this
    exact h
theorem law_1112 {f b L : Nat} {xs : Nat → Int32} {lv : Lv} {S : MM} {c z : Nat} : wpn (kL_law b L xs) (f + 1) 1112 lv [] S c z := rfl
theorem law_23x {f b : Nat} {xs : Nat → Int32} {S : MM} {x m out c z : Nat} : wpn (kL_law b 5 xs) (f + 2) 23 [(4, .int (0 + 5)), (3, .ref out), (2, .ref m), (1, .ref x), (0, .ref b)] [] S c z := by
  refine stp ?_
  show bL_law_23 b 5 xs (wpn (kL_law b 5 xs) (f + 1)) [(4, .int (0 + 5)), (3, .ref out), (2, .ref m), (1, .ref x), (0, .ref b)] [] S c z
  unfold bL_law_23
  exact And.intro rfl (ifT (by decide) law_1112)
theorem gl_1106 {k : Kt} {x m out b : Nat} {S : MM} {c z : Nat} (h : k [(4, .int (0 + 5)), (3, .ref out), (2, .ref m), (1, .ref x), (0, .ref b)] [] S c z) : inc 4 5 k [(4, .int 0), (3, .ref out), (2, .ref m), (1, .ref x), (0, .ref b)] [] S c z := h
theorem law_1106 {f b : Nat} {xs : Nat → Int32} {S : MM} {x m out c z : Nat} : wpn (kL_law b 5 xs) (f + 3) 1106 [(4, .int 0), (3, .ref out), (2, .ref m), (1, .ref x), (0, .ref b)] [] S c z :=
  stp (show inc 4 5 (wpn (kL_law b 5 xs) (f + 2) 23) [(4, .int 0), (3, .ref out), (2, .ref m), (1, .ref x), (0, .ref b)] [] S c z from gl_1106 law_23x)
theorem law_23d {f b : Nat} {xs : Nat → Int32} {S : MM} {x m out c z : Nat} (hv : (xs 0 &&& 15).toInt = 15) : wpn (kL_law b 5 xs) (f + 4) 23 [(4, .int 0), (3, .ref out), (2, .ref m), (1, .ref x), (0, .ref b)] [] S c z := by
  refine stp ?_
  show bL_law_23 b 5 xs (wpn (kL_law b 5 xs) (f + 3)) [(4, .int 0), (3, .ref out), (2, .ref m), (1, .ref x), (0, .ref b)] [] S c z
  unfold bL_law_23
  refine And.intro rfl (ifF (by decide) (And.intro rfl (And.intro (in_0 (by decide)) (And.intro (fun q => law_1106) (fun j e hle => ?_)))))
  exfalso
  have e' : (xs 0 &&& 15).toInt = 0 + (j : Int) := e
  omega
theorem and15 (v : Int32) : ∃ j : Nat, j ≤ 15 ∧ (v &&& 15).toInt = (j : Int) := by
  have h1 : (v &&& 15).toBitVec.toNat ≤ 15 := by
    rw [Int32.toBitVec_and, BitVec.toNat_and]
    exact Nat.and_le_right
  refine ⟨(v &&& 15).toBitVec.toNat, h1, ?_⟩
  rw [← Int32.toInt_toBitVec]
  exact BitVec.toInt_eq_toNat_of_lt (by omega)
theorem law_S {b L : Nat} {xs : Nat → Int32} (hL : L < 5) : ∃ n, wpn (kL_law b L xs) n 0 [(0, .ref b)] [] M0 0 0 := by
  refine ⟨3, law_0 (fun S x aE aC e0 e1 m out c z _ _ _ => ?_)⟩
  refine stp ?_
  show bL_law_23 b L xs (wpn (kL_law b L xs) 1) [(4, .int 0), (3, .ref out), (2, .ref m), (1, .ref x), (0, .ref b)] [] S c z
  unfold bL_law_23
  refine And.intro rfl (ifT ?_ law_1112)
  show Int32.ofNat L - 5 < 0
  match L, hL with
  | 0, _ => decide
  | 1, _ => decide
  | 2, _ => decide
  | 3, _ => decide
  | 4, _ => decide
  | n + 5, h => omega
theorem law_c0 {b : Nat} {xs : Nat → Int32} (hv : (xs 0 &&& 15).toInt = ((0 : Nat) : Int)) : ∃ n, wpn (kL_law b 5 xs) n 0 [(0, .ref b)] [] M0 0 0 :=
  ⟨11, law_0 (fun S x aE aC e0 e1 m out c z h hc hz => law_23 (j0 := 0) hv (by decide) (c_system h (by omega) (by omega)))⟩
theorem law_c1 {b : Nat} {xs : Nat → Int32} (hv : (xs 0 &&& 15).toInt = ((1 : Nat) : Int)) : ∃ n, wpn (kL_law b 5 xs) n 0 [(0, .ref b)] [] M0 0 0 :=
  ⟨11, law_0 (fun S x aE aC e0 e1 m out c z h hc hz => law_23 (j0 := 1) hv (by decide) (c_limit h (by omega) (by omega)))⟩
theorem law_c2 {b : Nat} {xs : Nat → Int32} (hv : (xs 0 &&& 15).toInt = ((2 : Nat) : Int)) : ∃ n, wpn (kL_law b 5 xs) n 0 [(0, .ref b)] [] M0 0 0 :=
  ⟨11, law_0 (fun S x aE aC e0 e1 m out c z h hc hz => law_23 (j0 := 2) hv (by decide) (c_port h (by omega) (by omega)))⟩
theorem law_c3 {b : Nat} {xs : Nat → Int32} (hv : (xs 0 &&& 15).toInt = ((3 : Nat) : Int)) : ∃ n, wpn (kL_law b 5 xs) n 0 [(0, .ref b)] [] M0 0 0 :=
  ⟨15, law_0 (fun S x aE aC e0 e1 m out c z h hc hz => law_23 (j0 := 3) hv (by decide) (c_manner h (by omega) (by omega)))⟩
theorem law_c4 {b : Nat} {xs : Nat → Int32} (hv : (xs 0 &&& 15).toInt = ((4 : Nat) : Int)) : ∃ n, wpn (kL_law b 5 xs) n 0 [(0, .ref b)] [] M0 0 0 :=
  ⟨11, law_0 (fun S x aE aC e0 e1 m out c z h hc hz => law_23 (j0 := 4) hv (by decide) (c_plug h (by omega) (by omega)))⟩
theorem law_c5 {b : Nat} {xs : Nat → Int32} (hv : (xs 0 &&& 15).toInt = ((5 : Nat) : Int)) : ∃ n, wpn (kL_law b 5 xs) n 0 [(0, .ref b)] [] M0 0 0 :=
  ⟨11, law_0 (fun S x aE aC e0 e1 m out c z h hc hz => law_23 (j0 := 5) hv (by decide) (c_pull h (by omega) (by omega)))⟩
theorem law_c6 {b : Nat} {xs : Nat → Int32} (hv : (xs 0 &&& 15).toInt = ((6 : Nat) : Int)) : ∃ n, wpn (kL_law b 5 xs) n 0 [(0, .ref b)] [] M0 0 0 :=
  ⟨12, law_0 (fun S x aE aC e0 e1 m out c z h hc hz => law_23 (j0 := 6) hv (by decide) (c_light h (by omega) (by omega)))⟩
theorem law_c7 {b : Nat} {xs : Nat → Int32} (hv : (xs 0 &&& 15).toInt = ((7 : Nat) : Int)) : ∃ n, wpn (kL_law b 5 xs) n 0 [(0, .ref b)] [] M0 0 0 :=
  ⟨11, law_0 (fun S x aE aC e0 e1 m out c z h hc hz => law_23 (j0 := 7) hv (by decide) (c_lose h (by omega) (by omega)))⟩
theorem law_c8 {b : Nat} {xs : Nat → Int32} (hv : (xs 0 &&& 15).toInt = ((8 : Nat) : Int)) : ∃ n, wpn (kL_law b 5 xs) n 0 [(0, .ref b)] [] M0 0 0 :=
  ⟨11, law_0 (fun S x aE aC e0 e1 m out c z h hc hz => law_23 (j0 := 8) hv (by decide) (c_tick h (by omega) (by omega)))⟩
theorem law_c9 {b : Nat} {xs : Nat → Int32} (hv : (xs 0 &&& 15).toInt = ((9 : Nat) : Int)) : ∃ n, wpn (kL_law b 5 xs) n 0 [(0, .ref b)] [] M0 0 0 :=
  ⟨12, law_0 (fun S x aE aC e0 e1 m out c z h hc hz => law_23 (j0 := 9) hv (by decide) (c_give h hc hz))⟩
theorem law_c10 {b : Nat} {xs : Nat → Int32} (hv : (xs 0 &&& 15).toInt = ((10 : Nat) : Int)) : ∃ n, wpn (kL_law b 5 xs) n 0 [(0, .ref b)] [] M0 0 0 :=
  ⟨11, law_0 (fun S x aE aC e0 e1 m out c z h hc hz => law_23 (j0 := 10) hv (by decide) (c_came h (by omega) (by omega)))⟩
theorem law_c11 {b : Nat} {xs : Nat → Int32} (hv : (xs 0 &&& 15).toInt = ((11 : Nat) : Int)) : ∃ n, wpn (kL_law b 5 xs) n 0 [(0, .ref b)] [] M0 0 0 :=
  ⟨11, law_0 (fun S x aE aC e0 e1 m out c z h hc hz => law_23 (j0 := 11) hv (by decide) (c_look h (by omega) (by omega)))⟩
theorem law_c12 {b : Nat} {xs : Nat → Int32} (hv : (xs 0 &&& 15).toInt = ((12 : Nat) : Int)) : ∃ n, wpn (kL_law b 5 xs) n 0 [(0, .ref b)] [] M0 0 0 :=
  ⟨11, law_0 (fun S x aE aC e0 e1 m out c z h hc hz => law_23 (j0 := 12) hv (by decide) (c_cable h (by omega) (by omega)))⟩
theorem law_c13 {b : Nat} {xs : Nat → Int32} (hv : (xs 0 &&& 15).toInt = ((13 : Nat) : Int)) : ∃ n, wpn (kL_law b 5 xs) n 0 [(0, .ref b)] [] M0 0 0 :=
  ⟨11, law_0 (fun S x aE aC e0 e1 m out c z h hc hz => law_23 (j0 := 13) hv (by decide) (c_note h (by omega) (by omega)))⟩
theorem law_c14 {b : Nat} {xs : Nat → Int32} (hv : (xs 0 &&& 15).toInt = ((14 : Nat) : Int)) : ∃ n, wpn (kL_law b 5 xs) n 0 [(0, .ref b)] [] M0 0 0 :=
  ⟨11, law_0 (fun S x aE aC e0 e1 m out c z h hc hz => law_23 (j0 := 14) hv (by decide) (c_count h (by omega) (by omega)))⟩
theorem law_5 {b : Nat} {xs : Nat → Int32} : ∃ n, wpn (kL_law b 5 xs) n 0 [(0, .ref b)] [] M0 0 0 := by
  obtain ⟨j, hj, e⟩ := and15 (xs 0)
  match j, hj, e with
  | 0, _, e => exact law_c0 e
  | 1, _, e => exact law_c1 e
  | 2, _, e => exact law_c2 e
  | 3, _, e => exact law_c3 e
  | 4, _, e => exact law_c4 e
  | 5, _, e => exact law_c5 e
  | 6, _, e => exact law_c6 e
  | 7, _, e => exact law_c7 e
  | 8, _, e => exact law_c8 e
  | 9, _, e => exact law_c9 e
  | 10, _, e => exact law_c10 e
  | 11, _, e => exact law_c11 e
  | 12, _, e => exact law_c12 e
  | 13, _, e => exact law_c13 e
  | 14, _, e => exact law_c14 e
  | 15, _, e => exact ⟨5, law_0 (fun S x aE aC e0 e1 m out c z h hc hz => law_23d e)⟩
  | n + 16, h, _ => omega
theorem law_any {b L : Nat} {xs : Nat → Int32} (hL : L ≤ 5) : ∃ n, wpn (kL_law b L xs) n 0 [(0, .ref b)] [] M0 0 0 := by
  by_cases h : L < 5
  · exact law_S h
  · have : L = 5 := by omega
    subst this
    exact law_5
