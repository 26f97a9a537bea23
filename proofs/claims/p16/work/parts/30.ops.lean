/-! ROWS OF THE LOGIC: locals by what they hold (not by the list's order); each instruction's predicate out of the next one's -/
theorem lvf_ne {i j : Nat} {w : Value} (hc : w.category = 1) (hn : j ≠ i) : ∀ lv : Lv, (lv.find? (fun q => q.1 == j)).map (fun q => q.2) = some w → ((lv.filter (fun q => !(q.1 == i) && !(q.1 + 1 == i && q.2.category == 2))).find? (fun q => q.1 == j)).map (fun q => q.2) = some w
  | [], h => by simp at h
  | q :: lv, h => by
    by_cases hq : q.1 = j
    · have e : q.2 = w := by simpa [List.find?_cons, hq] using h
      have keep : (!(q.1 == i) && !(q.1 + 1 == i && q.2.category == 2)) = true := by simp [hq, hn, e, hc]
      rw [List.filter_cons, if_pos keep]
      simp [List.find?_cons, hq, e]
    · have h' : (lv.find? (fun q => q.1 == j)).map (fun q => q.2) = some w := by simpa [List.find?_cons, hq] using h
      have ih := lvf_ne hc hn lv h'
      by_cases keep : (!(q.1 == i) && !(q.1 + 1 == i && q.2.category == 2)) = true
      · rw [List.filter_cons, if_pos keep]
        simpa [List.find?_cons, hq] using ih
      · rw [List.filter_cons, if_neg keep]
        exact ih
theorem lvg_self {lv : Lv} {i : Nat} {v : Value} : lvg (lvs lv i v) i = some v := by simp [lvg, lvs]
theorem lvg_ne {lv : Lv} {i j : Nat} {v w : Value} (h : lvg lv j = some w) (hc : w.category = 1) (hn : j ≠ i) : lvg (lvs lv i v) j = some w := by
  have e := lvf_ne hc hn lv h
  unfold lvg lvs
  rw [List.find?_cons_of_neg (by simpa using fun z => hn z.symm)]
  exact e
theorem stq {b : (Nat → Kt) → Nat → Kt} {n pc : Nat} {lv : Lv} {st : List Value} {S : MM} {c z : Nat} (h : b (wpn b n) pc lv st S c z) : wpn b (n + 1) pc lv st S c z := h
theorem e_cI {k : Kt} {lv : Lv} {st : List Value} {S : MM} {c z : Nat} {v : Int32} (h : k lv (.int v :: st) S c z) : cI v k lv st S c z := h
theorem e_cN {k : Kt} {lv : Lv} {st : List Value} {S : MM} {c z : Nat} {v : Int32} (n : Nat) (hv : v = nI n) (h : k lv (.int (nI n) :: st) S c z) : cI v k lv st S c z := by subst hv; exact h
theorem e_ldI {k : Kt} {lv : Lv} {st : List Value} {S : MM} {c z i : Nat} {x : Int32} (g : lvg lv i = some (.int x)) (h : k lv (.int x :: st) S c z) : ldI i k lv st S c z := by unfold ldI; rw [g]; exact h
theorem e_ldA {k : Kt} {lv : Lv} {st : List Value} {S : MM} {c z i x : Nat} (g : lvg lv i = some (.ref x)) (h : k lv (.ref x :: st) S c z) : ldA i k lv st S c z := by unfold ldA; rw [g]; exact h
theorem e_ldN {k : Kt} {lv : Lv} {st : List Value} {S : MM} {c z i : Nat} (g : lvg lv i = some .null) (h : k lv (.null :: st) S c z) : ldA i k lv st S c z := by unfold ldA; rw [g]; exact h
theorem e_stI {k : Kt} {lv : Lv} {st : List Value} {S : MM} {c z i : Nat} {x : Int32} (h : k (lvs lv i (.int x)) st S c z) : stI i k lv (.int x :: st) S c z := h
theorem e_stA {k : Kt} {lv : Lv} {st : List Value} {S : MM} {c z i x : Nat} (h : k (lvs lv i (.ref x)) st S c z) : stA i k lv (.ref x :: st) S c z := h
theorem e_stN {k : Kt} {lv : Lv} {st : List Value} {S : MM} {c z i : Nat} (h : k (lvs lv i .null) st S c z) : stA i k lv (.null :: st) S c z := h
theorem e_inc {k : Kt} {lv : Lv} {st : List Value} {S : MM} {c z i j : Nat} (g : lvg lv i = some (.int (nI j))) (h : k (lvs lv i (.int (nI (j + 1)))) st S c z) : inc i 1 k lv st S c z := by
  unfold inc
  rw [g]
  rw [← nI_1 j] at h
  exact h
theorem e_incU {k : Kt} {lv : Lv} {st : List Value} {S : MM} {c z i : Nat} {x n : Int32} (g : lvg lv i = some (.int x)) (h : ∀ r, k (lvs lv i (.int r)) st S c z) : inc i n k lv st S c z := by unfold inc; rw [g]; exact h _
theorem e_bopU {f : Int32 → Int32 → Int32} {k : Kt} {lv : Lv} {st : List Value} {S : MM} {c z : Nat} {x y : Int32} (h : ∀ r, k lv (.int r :: st) S c z) : bop f k lv (.int y :: .int x :: st) S c z := h _
theorem e_add {k : Kt} {lv : Lv} {st : List Value} {S : MM} {c z a b : Nat} (h : k lv (.int (nI (a + b)) :: st) S c z) : bop (fun x y => x + y) k lv (.int (nI b) :: .int (nI a) :: st) S c z := by
  rw [← nI_add] at h
  exact h
theorem e_mul {k : Kt} {lv : Lv} {st : List Value} {S : MM} {c z a b : Nat} (h : k lv (.int (nI (a * b)) :: st) S c z) : bop (fun x y => x * y) k lv (.int (nI b) :: .int (nI a) :: st) S c z := by
  rw [← pk_mul] at h
  exact h
theorem e_sub {k : Kt} {lv : Lv} {st : List Value} {S : MM} {c z a b : Nat} (hb : b ≤ a) (h : k lv (.int (nI (a - b)) :: st) S c z) : bop (fun x y => x - y) k lv (.int (nI b) :: .int (nI a) :: st) S c z := by
  rw [← pk_sub hb] at h
  exact h
theorem e_bodU {f : Int32 → Int32 → Int32} {k : Kt} {lv : Lv} {st : List Value} {S : MM} {c z : Nat} {x y : Int32} (hy : ¬ y = 0) (h : ∀ r, k lv (.int r :: st) S c z) : bod f k lv (.int y :: .int x :: st) S c z := And.intro hy (h _)
theorem nI_n0 {d : Nat} (h0 : 0 < d) (hd : d < 2 ^ 31) : ¬ nI d = 0 := fun z => by
  have h1 := congrArg Int32.toInt z
  rw [nI_toInt hd, show (0 : Int32).toInt = 0 from by decide] at h1
  omega
theorem e_rem {k : Kt} {lv : Lv} {st : List Value} {S : MM} {c z a d : Nat} (ha : a < 2 ^ 31) (h0 : 0 < d) (hd : d < 2 ^ 31) (h : k lv (.int (nI (a % d)) :: st) S c z) : bod (fun x y => x - x / y * y) k lv (.int (nI d) :: .int (nI a) :: st) S c z := by
  rw [← pk_rem ha h0 hd] at h
  exact And.intro (nI_n0 h0 hd) h
theorem e_div {k : Kt} {lv : Lv} {st : List Value} {S : MM} {c z a d : Nat} (ha : a < 2 ^ 31) (h0 : 0 < d) (hd : d < 2 ^ 31) (h : k lv (.int (nI (a / d)) :: st) S c z) : bod (fun x y => x / y) k lv (.int (nI d) :: .int (nI a) :: st) S c z := by
  rw [← pk_div ha h0 hd] at h
  exact And.intro (nI_n0 h0 hd) h
theorem e_duA {k : Kt} {lv : Lv} {st : List Value} {S : MM} {c z a : Nat} (h : k lv (.ref a :: .ref a :: st) S c z) : du k lv (.ref a :: st) S c z := h
theorem e_duI {k : Kt} {lv : Lv} {st : List Value} {S : MM} {c z : Nat} {x : Int32} (h : k lv (.int x :: .int x :: st) S c z) : du k lv (.int x :: st) S c z := h
theorem e_du2 {k : Kt} {lv : Lv} {st : List Value} {S : MM} {c z a : Nat} {x : Int32} (h : k lv (.int x :: .ref a :: .int x :: .ref a :: st) S c z) : du2 k lv (.int x :: .ref a :: st) S c z := h
theorem e_dux {k : Kt} {lv : Lv} {st : List Value} {S : MM} {c z a : Nat} {x : Int32} (h : k lv (.int x :: .ref a :: .int x :: st) S c z) : dux1 k lv (.int x :: .ref a :: st) S c z := h
theorem e_nul {k : Kt} {lv : Lv} {st : List Value} {S : MM} {c z : Nat} (h : k lv (.null :: st) S c z) : nul k lv st S c z := h
theorem e_ifz {cn : Int32 → Prop} {t k : Kt} {lv : Lv} {st : List Value} {S : MM} {c z : Nat} {x : Int32} (h1 : t lv st S c z) (h2 : k lv st S c z) : ifz cn t k lv (.int x :: st) S c z := ⟨fun _ => h1, fun _ => h2⟩
theorem e_if0 {t k : Kt} {lv : Lv} {st : List Value} {S : MM} {c z : Nat} {x : Int32} (h1 : x = 0 → t lv st S c z) (h2 : ¬ x = 0 → k lv st S c z) : ifz (fun x => x = 0) t k lv (.int x :: st) S c z := ⟨h1, h2⟩
theorem e_ifN {t k : Kt} {lv : Lv} {st : List Value} {S : MM} {c z a : Nat} (ha : a < 2 ^ 31) (h1 : a = 0 → t lv st S c z) (h2 : a ≠ 0 → k lv st S c z) : ifz (fun x => x = 0) t k lv (.int (nI a) :: st) S c z :=
  ⟨fun h => h1 (by
    by_cases h0 : a = 0
    · exact h0
    · exact absurd h (nI_n0 (by omega) ha)), fun h => h2 (fun z => h (by rw [z]; rfl))⟩
theorem e_ifc {cn : Int32 → Int32 → Prop} {t k : Kt} {lv : Lv} {st : List Value} {S : MM} {c z : Nat} {x y : Int32} (h1 : t lv st S c z) (h2 : k lv st S c z) : ifc cn t k lv (.int y :: .int x :: st) S c z := ⟨fun _ => h1, fun _ => h2⟩
theorem e_ge {t k : Kt} {lv : Lv} {st : List Value} {S : MM} {c z a b : Nat} (ha : a < 2 ^ 31) (hb : b < 2 ^ 31) (h1 : b ≤ a → t lv st S c z) (h2 : a < b → k lv st S c z) : ifc (fun x y => y ≤ x) t k lv (.int (nI b) :: .int (nI a) :: st) S c z := pk_le b a h1 h2 rfl rfl hb ha
theorem e_le {t k : Kt} {lv : Lv} {st : List Value} {S : MM} {c z a b : Nat} (ha : a < 2 ^ 31) (hb : b < 2 ^ 31) (h1 : a ≤ b → t lv st S c z) (h2 : b < a → k lv st S c z) : ifc (fun x y => x ≤ y) t k lv (.int (nI b) :: .int (nI a) :: st) S c z := pk_le a b h1 h2 rfl rfl ha hb
theorem e_lt {t k : Kt} {lv : Lv} {st : List Value} {S : MM} {c z a b : Nat} (ha : a < 2 ^ 31) (hb : b < 2 ^ 31) (h1 : a < b → t lv st S c z) (h2 : b ≤ a → k lv st S c z) : ifc (fun x y => x < y) t k lv (.int (nI b) :: .int (nI a) :: st) S c z := pk_lt a b h1 h2 rfl rfl ha hb
theorem e_eq {t k : Kt} {lv : Lv} {st : List Value} {S : MM} {c z a b : Nat} (ha : a < 2 ^ 31) (hb : b < 2 ^ 31) (h1 : a = b → t lv st S c z) (h2 : a ≠ b → k lv st S c z) : ifc (fun x y => x = y) t k lv (.int (nI b) :: .int (nI a) :: st) S c z := pk_eq a b h1 h2 rfl rfl ha hb
theorem e_nnA {t k : Kt} {lv : Lv} {st : List Value} {S : MM} {c z a : Nat} (h : k lv st S c z) : ifn t k lv (.ref a :: st) S c z := h
theorem e_nnN {t k : Kt} {lv : Lv} {st : List Value} {S : MM} {c z : Nat} (h : t lv st S c z) : ifn t k lv (.null :: st) S c z := h
theorem e_gI {ci k : Nat} {kt : Kt} {lv : Lv} {st : List Value} {S : MM} {c z a : Nat} (hk : sK S a = ci + 1) (h : ∀ v, sI S a k = v → kt lv (.int v :: st) S c z) : gI ci k kt lv (.ref a :: st) S c z := And.intro hk (h _ rfl)
theorem e_gV {ci k : Nat} {kt : Kt} {lv : Lv} {st : List Value} {S : MM} {c z a : Nat} {v : Int32} (hk : sK S a = ci + 1) (e : sI S a k = v) (h : kt lv (.int v :: st) S c z) : gI ci k kt lv (.ref a :: st) S c z := And.intro hk (by rw [e]; exact h)
theorem e_gR {ci k : Nat} {kt : Kt} {lv : Lv} {st : List Value} {S : MM} {c z a b : Nat} (hk : sK S a = ci + 1) (e : sR S a k = some b) (h : kt lv (.ref b :: st) S c z) : gR ci k kt lv (.ref a :: st) S c z := And.intro hk (fun o ho => by rw [e] at ho; subst ho; exact h)
theorem e_tI {ci k : Nat} {kt : Kt} {lv : Lv} {st : List Value} {S : MM} {c z a : Nat} {v : Int32} (hk : sK S a = ci + 1) (h : kt lv st (pI S a k v) c z) : tI ci k kt lv (.int v :: .ref a :: st) S c z := And.intro hk h
theorem b01 {j : Nat} (h : j < 2) : nI j = 0 ∨ nI j = 1 := by
  have : j = 0 ∨ j = 1 := by omega
  rcases this with rfl | rfl
  · exact Or.inl rfl
  · exact Or.inr rfl
theorem e_tZ {ci k : Nat} {kt : Kt} {lv : Lv} {st : List Value} {S : MM} {c z a j : Nat} (hk : sK S a = ci + 1) (hj : j < 2) (h : kt lv st (pI S a k (nI j)) c z) : tZ ci k kt lv (.int (nI j) :: .ref a :: st) S c z := And.intro hk (And.intro (b01 hj) h)
theorem e_aI {kd N : Nat} {kt : Kt} {lv : Lv} {st : List Value} {S : MM} {c z a j : Nat} (hk : sK S a = kd) (hn : sN S a = N) (hj : j < N) (hN : N < 2 ^ 31) (h : ∀ v, sI S a j = v → kt lv (.int v :: st) S c z) : aI kd kt lv (.int (nI j) :: .ref a :: st) S c z :=
  And.intro hk (And.intro (by rw [hn]; exact vp_in_nI hj hN) (by rw [nI_clamp (by omega)]; exact h _ rfl))
theorem e_aV {kd N : Nat} {kt : Kt} {lv : Lv} {st : List Value} {S : MM} {c z a j : Nat} {v : Int32} (hk : sK S a = kd) (hn : sN S a = N) (hj : j < N) (hN : N < 2 ^ 31) (e : sI S a j = v) (h : kt lv (.int v :: st) S c z) : aI kd kt lv (.int (nI j) :: .ref a :: st) S c z :=
  And.intro hk (And.intro (by rw [hn]; exact vp_in_nI hj hN) (by rw [nI_clamp (by omega), e]; exact h))
theorem e_aR {kd N : Nat} {kt : Kt} {lv : Lv} {st : List Value} {S : MM} {c z a j b : Nat} (hk : sK S a = kd) (hn : sN S a = N) (hj : j < N) (hN : N < 2 ^ 31) (e : sR S a j = some b) (h : kt lv (.ref b :: st) S c z) : aR kd kt lv (.int (nI j) :: .ref a :: st) S c z :=
  And.intro hk (And.intro (by rw [hn]; exact vp_in_nI hj hN) (fun o ho => by rw [nI_clamp (by omega), e] at ho; subst ho; exact h))
theorem e_aO {kd N : Nat} {kt : Kt} {lv : Lv} {st : List Value} {S : MM} {c z a j : Nat} (hk : sK S a = kd) (hn : sN S a = N) (hj : j < N) (hN : N < 2 ^ 31) (h0 : sR S a j = none → kt lv (.null :: st) S c z) (h1 : ∀ b, sR S a j = some b → kt lv (.ref b :: st) S c z) : aR kd kt lv (.int (nI j) :: .ref a :: st) S c z :=
  And.intro hk (And.intro (by rw [hn]; exact vp_in_nI hj hN) (fun o ho => by
    rw [nI_clamp (by omega)] at ho
    cases o with
    | none => exact h0 ho
    | some b => exact h1 b ho))
theorem e_sAI {kt : Kt} {lv : Lv} {st : List Value} {S : MM} {c z a j N : Nat} {v : Int32} (hk : sK S a = 10) (hn : sN S a = N) (hj : j < N) (hN : N < 2 ^ 31) (h : kt lv st (pI S a j v) c z) : sAI kt lv (.int v :: .int (nI j) :: .ref a :: st) S c z :=
  And.intro hk (And.intro (by rw [hn]; exact vp_in_nI hj hN) (by rw [nI_clamp (by omega)]; exact h))
theorem e_sAZ {kt : Kt} {lv : Lv} {st : List Value} {S : MM} {c z a j N t : Nat} (hk : sK S a = 11) (hn : sN S a = N) (hj : j < N) (hN : N < 2 ^ 31) (ht : t < 2) (h : kt lv st (pI S a j (nI t)) c z) : sAZ kt lv (.int (nI t) :: .int (nI j) :: .ref a :: st) S c z :=
  And.intro hk (And.intro (by rw [hn]; exact vp_in_nI hj hN) (And.intro (b01 ht) (by rw [nI_clamp (by omega)]; exact h)))
theorem e_mMn {k : Kt} {lv : Lv} {S : MM} {c z : Nat} {x y : Int32} (h : ∀ r, k lv [.int r] S c z) : mMn k lv [.int y, .int x] S c z := h _
theorem e_mMA {k : Kt} {lv : Lv} {S : MM} {c z a p q : Nat} (hp : p < 2 ^ 31) (hq : q < 2 ^ 31) (h : ∀ r, r ≤ p → r ≤ q → k lv [.int (nI r), .ref a] S c z) : mMn k lv [.int (nI q), .int (nI p), .ref a] S c z := by
  show k lv [.int (if nI q < nI p then nI q else nI p), .ref a] S c z
  have hi : nI q < nI p ↔ q < p := by rw [Int32.lt_iff_toInt_lt, nI_toInt hp, nI_toInt hq]; omega
  by_cases hz : q < p
  · rw [if_pos (hi.mpr hz)]; exact h q (by omega) (by omega)
  · rw [if_neg (fun w => hz (hi.mp w))]; exact h p (by omega) (by omega)
theorem e_rZ {Q : Option Value → MM → Prop} {lv : Lv} {S : MM} {c z j : Nat} (hj : j < 2) (h : Q (some (.int (nI j))) S) : rZ Q lv [.int (nI j)] S c z := And.intro (b01 hj) h
theorem e_rI {Q : Option Value → MM → Prop} {lv : Lv} {S : MM} {c z : Nat} {v : Int32} (h : Q (some (.int v)) S) : rI Q lv [.int v] S c z := h
theorem e_rV {Q : Option Value → MM → Prop} {lv : Lv} {S : MM} {c z : Nat} (h : Q none S) : rV Q lv [] S c z := h
theorem e_rA {Q : Option Value → MM → Prop} {lv : Lv} {S : MM} {c z a : Nat} (h : Q (some (.ref a)) S) : rA Q lv [.ref a] S c z := h
theorem e_rN {Q : Option Value → MM → Prop} {lv : Lv} {S : MM} {c z : Nat} (h : Q (some .null) S) : rA Q lv [.null] S c z := h
theorem e_swt {lo hi : Int} {ts : Nat → Kt} {t : Kt} {lv : Lv} {st : List Value} {S : MM} {c z : Nat} {x : Int32} (h1 : t lv st S c z) (h2 : ∀ j : Nat, lo + (j : Int) ≤ hi → ts j lv st S c z) : swt lo hi ts t lv (.int x :: st) S c z := ⟨fun _ => h1, fun j _ hj => h2 j hj⟩
/-! WHAT THE MEMORY OF THE CLASS KEEPS: which references are there and of which kind; which ints stay in a range; what a method leaves as it was -/
def rf (kd j : Nat) : Option (Nat × Nat) := match kd, j with
  | 1, 0 => some (17, 2)
  | 1, 1 => some (15, 2)
  | 2, 0 => some (17, 8)
  | 2, 4 => some (10, 200)
  | 4, 0 => some (16, 8)
  | 4, 3 => some (14, 200)
  | 5, 0 => some (7, 0)
  | 5, 1 => some (7, 0)
  | 6, 0 => some (7, 0)
  | 6, 1 => some (7, 0)
  | 6, 14 => some (7, 0)
  | 8, 0 => some (13, 2)
  | 8, 1 => some (12, 8)
  | _, _ => none
def re (kd n : Nat) : Option Nat := match kd, n with
  | 12, 8 => some 1
  | 13, 2 => some 2
  | 15, 2 => some 4
  | 16, 8 => some 5
  | 17, 8 => some 6
  | _, _ => none
def rn (kd : Nat) : Option Nat := match kd with
  | 14 => some 3
  | 17 => some 6
  | _ => none
def TY (S : MM) : Prop := (∀ a kd j k n, sK S a = kd → rf kd j = some (k, n) → ∃ b, sR S a j = some b ∧ sK S b = k ∧ sN S b = n) ∧ (∀ a kd n k j, sK S a = kd → sN S a = n → re kd n = some k → j < n → ∃ b, sR S a j = some b ∧ sK S b = k ∧ sN S b = 0) ∧ ∀ a kd k j b, sK S a = kd → rn kd = some k → sR S a j = some b → sK S b = k ∧ sN S b = 0
def rg (kd j : Nat) : Option Nat := match kd, j with
  | 4, 1 => some 8
  | 4, 2 => some 9
  | 4, 4 => some 200
  | 4, 5 => some 201
  | 2, 5 => some 51
  | 2, 6 => some 50
  | _, _ => none
def IR (S : MM) : Prop := ∀ a kd j N, sK S a = kd → rg kd j = some N → ∃ n, n < N ∧ sI S a j = nI n
def wk (S : MM) (a : Nat) : Nat := if sK S a = 10 ∧ sN S a = 200 then 19 else sK S a
/-- fields that are watched one by one: an end's system and limit, a cable's up, a port's cable -/
def cd (kd j : Nat) : Nat := match kd, j with
  | 2, 1 => 21
  | 2, 2 => 22
  | 1, 3 => 23
  | 6, 2 => 24
  | _, _ => kd
def wj (S : MM) (a j : Nat) : Nat := if sK S a = 10 ∧ sN S a = 200 then 19 else cd (sK S a) j
def SH (W : List Nat) (S S' : MM) : Prop := sK S' = sK S ∧ sN S' = sN S ∧ sR S' = sR S ∧ sJ S' = sJ S ∧ ∀ a j, wj S a j ∉ W → sI S' a j = sI S a j
theorem SH.rf {W : List Nat} {S : MM} : SH W S S := ⟨rfl, rfl, rfl, rfl, fun _ _ _ => rfl⟩
theorem wk_eq {S S' : MM} (h1 : sK S' = sK S) (h2 : sN S' = sN S) (a : Nat) : wk S' a = wk S a := by unfold wk; rw [h1, h2]
theorem wj_eq {S S' : MM} (h1 : sK S' = sK S) (h2 : sN S' = sN S) (a j : Nat) : wj S' a j = wj S a j := by unfold wj; rw [h1, h2]
theorem wj_kd {S : MM} {a j kd : Nat} (hk : sK S a = kd) (h10 : kd ≠ 10) : wj S a j = cd kd j := by unfold wj; rw [hk, if_neg (fun q => h10 q.1)]
theorem SH.tr {W W1 : List Nat} {S S1 S2 : MM} (h : SH W S S1) (k : SH W1 S1 S2) (hw : ∀ x ∈ W1, x ∈ W) : SH W S S2 := ⟨k.1.trans h.1, k.2.1.trans h.2.1, k.2.2.1.trans h.2.2.1, k.2.2.2.1.trans h.2.2.2.1, fun a j ha => (k.2.2.2.2 a j (by rw [wj_eq h.1 h.2.1]; exact fun z => ha (hw _ z))).trans (h.2.2.2.2 a j ha)⟩
theorem SH.wr {W : List Nat} {S S1 : MM} {a j kd : Nat} {v : Int32} (h : SH W S S1) (hk : sK S1 a = kd) (h10 : kd ≠ 10) (hw : cd kd j ∈ W) : SH W S (pI S1 a j v) := ⟨h.1, h.2.1, h.2.2.1, h.2.2.2.1, fun b i hb => by
  have nb : ¬ (b = a ∧ i = j) := fun z => by
    obtain ⟨z1, z2⟩ := z
    subst z1 z2
    apply hb
    rw [wj_kd (by rw [← h.1]; exact hk) h10]
    exact hw
  rw [sI_pI, up2_ne nb]
  exact h.2.2.2.2 b i hb⟩
theorem SH.wa {W : List Nat} {S S1 : MM} {a j : Nat} {v : Int32} (h : SH W S S1) (hk : sK S1 a = 10) (hn : sN S1 a = 200) (hw : 19 ∈ W) : SH W S (pI S1 a j v) := ⟨h.1, h.2.1, h.2.2.1, h.2.2.2.1, fun b i hb => by
  have nb : b ≠ a := fun z => by
    subst z
    apply hb
    unfold wj
    rw [← h.1, ← h.2.1, if_pos ⟨hk, hn⟩]
    exact hw
  rw [sI_pI, up2_row nb]
  exact h.2.2.2.2 b i hb⟩
theorem SH_k {W : List Nat} {S S' : MM} {a n : Nat} (e : SH W S S') (h : sK S a = n) : sK S' a = n := by rw [e.1]; exact h
theorem SH_n {W : List Nat} {S S' : MM} {a n : Nat} (e : SH W S S') (h : sN S a = n) : sN S' a = n := by rw [e.2.1]; exact h
theorem SH_r {W : List Nat} {S S' : MM} {a j : Nat} {o : Option Nat} (e : SH W S S') (h : sR S a j = o) : sR S' a j = o := by rw [e.2.2.1]; exact h
theorem SH_i {W : List Nat} {S S' : MM} {a j kd : Nat} {v : Int32} (e : SH W S S') (hk : sK S a = kd) (h10 : kd ≠ 10) (hw : cd kd j ∉ W) (h : sI S a j = v) : sI S' a j = v := by
  rw [e.2.2.2.2 a j (by rw [wj_kd hk h10]; exact hw)]
  exact h
theorem TY_SH {W : List Nat} {S S' : MM} (h : TY S) (e : SH W S S') : TY S' := by
  unfold TY at h ⊢
  rw [e.1, e.2.1, e.2.2.1]
  exact h
theorem rd_k {S : MM} {a b j k : Nat} {v w : Int32} (h : sI S b k = w) (hn : k ≠ j) : sI (pI S a j v) b k = w := by rw [sI_pI, up2_ne (fun z => hn z.2)]; exact h
theorem rd_a {S : MM} {a b j k : Nat} {v w : Int32} (h : sI S b k = w) (hn : b ≠ a) : sI (pI S a j v) b k = w := by rw [sI_pI, up2_ne (fun z => hn z.1)]; exact h
theorem IR_w {S : MM} {a j kd : Nat} {v : Int32} (h : IR S) (hk : sK S a = kd) (hw : ∀ N, rg kd j = some N → ∃ n, n < N ∧ v = nI n) : IR (pI S a j v) := by
  intro b kd' j' N hk' hr
  by_cases hz : b = a ∧ j' = j
  · obtain ⟨h1, h2⟩ := hz
    subst h1 h2
    have e : kd' = kd := hk'.symm.trans hk
    subst e
    obtain ⟨n, n1, n2⟩ := hw N hr
    exact ⟨n, n1, by rw [sI_pI, up2_self]; exact n2⟩
  · obtain ⟨n, n1, n2⟩ := h b kd' j' N hk' hr
    exact ⟨n, n1, by rw [sI_pI, up2_ne hz]; exact n2⟩
/-- a cable in whose both ends a port is -/
def PL (S : MM) (a : Nat) : Prop := ∀ pp j, sR S a 0 = some pp → j < 2 → ∃ p, sR S pp j = some p
theorem PL_SH {W : List Nat} {S S' : MM} {a : Nat} (h : PL S a) (e : SH W S S') : PL S' a := by unfold PL at h ⊢; rw [e.2.2.1]; exact h
theorem ne_kd {S : MM} {a b m n : Nat} (h : sK S a = m) (k : sK S b = n) (hn : m ≠ n) : a ≠ b := fun z => hn (by rw [← h, ← k, z])
theorem SH_k' {W : List Nat} {S S' : MM} {a n : Nat} (e : SH W S S') (h : sK S' a = n) : sK S a = n := by rw [← e.1]; exact h
theorem SH_r' {W : List Nat} {S S' : MM} {a j : Nat} {o : Option Nat} (e : SH W S S') (h : sR S' a j = o) : sR S a j = o := by rw [← e.2.2.1]; exact h
theorem PL_SH' {W : List Nat} {S S' : MM} {a : Nat} (h : PL S' a) (e : SH W S S') : PL S a := by unfold PL at h ⊢; rw [e.2.2.1] at h; exact h
theorem y_tI {ci k : Nat} {kt : Kt} {lv : Lv} {st : List Value} {S S0 : MM} {W : List Nat} {c z a : Nat} {v : Int32} (hk : sK S a = ci + 1) (sh : SH W S0 S) (ir : IR S) (h10 : ci + 1 ≠ 10) (hw : cd (ci + 1) k ∈ W) (hr : ∀ N, rg (ci + 1) k = some N → ∃ n, n < N ∧ v = nI n) (h : ∀ S', S' = pI S a k v → SH W S0 S' → IR S' → kt lv st S' c z) : tI ci k kt lv (.int v :: .ref a :: st) S c z := And.intro hk (h _ rfl (SH.wr sh hk h10 hw) (IR_w ir hk hr))
theorem y_tZ {ci k : Nat} {kt : Kt} {lv : Lv} {st : List Value} {S S0 : MM} {W : List Nat} {c z a j : Nat} (hk : sK S a = ci + 1) (hj : j < 2) (sh : SH W S0 S) (ir : IR S) (h10 : ci + 1 ≠ 10) (hw : cd (ci + 1) k ∈ W) (hr : ∀ N, rg (ci + 1) k = some N → ∃ n, n < N ∧ nI j = nI n) (h : ∀ S', S' = pI S a k (nI j) → SH W S0 S' → IR S' → kt lv st S' c z) : tZ ci k kt lv (.int (nI j) :: .ref a :: st) S c z := And.intro hk (And.intro (b01 hj) (h _ rfl (SH.wr sh hk h10 hw) (IR_w ir hk hr)))
theorem y_sAI {kt : Kt} {lv : Lv} {st : List Value} {S S0 : MM} {W : List Nat} {c z a j : Nat} {v : Int32} (hk : sK S a = 10) (hn : sN S a = 200) (hj : j < 200) (sh : SH W S0 S) (ir : IR S) (hw : 19 ∈ W) (h : ∀ S', S' = pI S a j v → SH W S0 S' → IR S' → kt lv st S' c z) : sAI kt lv (.int v :: .int (nI j) :: .ref a :: st) S c z := e_sAI hk hn hj (by decide) (h _ rfl (SH.wa sh hk hn hw) (IR_w ir hk (fun N e => by simp [rg] at e)))
theorem z_isCable {S : MM} {v : Int32} {Q : Option Value → MM → Prop} (K0 : Q (some (.int (nI 0))) S) (K1 : ∀ j, j < 8 → v = nI j → Q (some (.int (nI 1))) S) : wX7_isCable [.int v] S Q := by
  refine Exists.intro 3 (And.intro (fun h0 => And.intro (Or.inl rfl) K0) (fun h0 => And.intro (fun h1 => And.intro (Or.inl rfl) K0) (fun h1 => ?_)))
  rcases pk_ix v (n := 8) (by decide) with h | h | ⟨j, hj, e⟩
  · exact absurd h h0
  · exact absurd h h1
  · exact And.intro (Or.inr rfl) (K1 j hj e)
theorem z_isPort {S : MM} {v : Int32} {Q : Option Value → MM → Prop} (K0 : Q (some (.int (nI 0))) S) (K1 : ∀ j, j < 8 → v = nI j → Q (some (.int (nI 1))) S) : wX7_isPort [.int v] S Q := by
  refine Exists.intro 3 (And.intro (fun h0 => And.intro (Or.inl rfl) K0) (fun h0 => And.intro (fun h1 => And.intro (Or.inl rfl) K0) (fun h1 => ?_)))
  rcases pk_ix v (n := 8) (by decide) with h | h | ⟨j, hj, e⟩
  · exact absurd h h0
  · exact absurd h h1
  · exact And.intro (Or.inr rfl) (K1 j hj e)
theorem z_isEnd {S : MM} {v : Int32} {Q : Option Value → MM → Prop} (K0 : Q (some (.int (nI 0))) S) (K1 : ∀ j, j < 2 → v = nI j → Q (some (.int (nI 1))) S) : wX7_isEnd [.int v] S Q := by
  refine Exists.intro 3 (And.intro (fun h0 => And.intro (Or.inl rfl) K0) (fun h0 => And.intro (fun h1 => And.intro (Or.inl rfl) K0) (fun h1 => ?_)))
  rcases pk_ix v (n := 2) (by decide) with h | h | ⟨j, hj, e⟩
  · exact absurd h h0
  · exact absurd h h1
  · exact And.intro (Or.inr rfl) (K1 j hj e)
theorem z_X0_isPlugged {S : MM} {a : Nat} {Q : Option Value → MM → Prop} (hT : TY S) (ka : sK S a = 1) (K0 : Q (some (.int (nI 0))) S) (K1 : PL S a → Q (some (.int (nI 1))) S) : wX0_isPlugged [.ref a] S Q := by
  obtain ⟨pp, rp, kp, np⟩ := hT.1 a 1 0 17 2 ka rfl
  have v0 : vp_in 0 (sN S pp) := by rw [np]; exact vp_in_nI (n := 0) (by decide) (by decide)
  have v1 : vp_in 1 (sN S pp) := by rw [np]; exact vp_in_nI (n := 1) (by decide) (by decide)
  refine Exists.intro 3 (And.intro ka (fun o ho => ?_))
  rw [rp] at ho
  subst ho
  refine And.intro kp (And.intro v0 (fun o h0 => ?_))
  cases o with
  | none => exact And.intro (Or.inl rfl) K0
  | some p0 =>
    refine And.intro ka (fun o ho => ?_)
    rw [rp] at ho
    subst ho
    refine And.intro kp (And.intro v1 (fun o h1 => ?_))
    cases o with
    | none => exact And.intro (Or.inl rfl) K0
    | some p1 =>
      refine And.intro (Or.inr rfl) (K1 (fun qq j hq hj => ?_))
      rw [rp] at hq
      cases hq
      have : j = 0 ∨ j = 1 := by omega
      rcases this with rfl | rfl
      · exact ⟨p0, h0⟩
      · exact ⟨p1, h1⟩
theorem rd_s {S : MM} {a j : Nat} {v : Int32} : sI (pI S a j v) a j = v := by rw [sI_pI, up2_self]
theorem nn_nat {v : Int32} (h : ¬ v < 0) : ∃ j, j < 2147483648 ∧ v = nI j := by
  rcases pk_ix v (n := 2147483647) (by decide) with q | q | ⟨j, hj, e⟩
  · exact absurd q h
  · refine ⟨2147483647, by decide, ?_⟩
    have h1 := Int32.le_iff_toInt_le.mp q
    have h2 : (nI 2147483647).toInt = 2147483647 := by decide
    have h3 := Int32.toInt_lt v
    apply Int32.toInt_inj.mp
    omega
  · exact ⟨j, by omega, e⟩
theorem e_ltz {t k : Kt} {lv : Lv} {st : List Value} {S : MM} {c z : Nat} {x : Int32} (h1 : t lv st S c z) (h2 : ∀ j, j < 2147483648 → x = nI j → k lv st S c z) : ifz (fun x => x < 0) t k lv (.int x :: st) S c z := ⟨fun _ => h1, fun h => by
  obtain ⟨j, hj, e⟩ := nn_nat h
  exact h2 j hj e⟩
theorem e_lez {t k : Kt} {lv : Lv} {st : List Value} {S : MM} {c z a : Nat} (ha : a < 2 ^ 31) (h1 : a = 0 → t lv st S c z) (h2 : a ≠ 0 → k lv st S c z) : ifz (fun x => x ≤ 0) t k lv (.int (nI a) :: st) S c z :=
  ⟨fun h => h1 (by
    have q := Int32.le_iff_toInt_le.mp h
    rw [nI_toInt ha, show (0 : Int32).toInt = 0 from by decide] at q
    omega), fun h => h2 (fun w => h (by rw [w]; decide))⟩
theorem e_mMg {k : Kt} {lv : Lv} {st : List Value} {S : MM} {c z : Nat} {x y : Int32} (hc : cat8 st = true) (h : ∀ r, k lv (.int r :: st) S c z) : mMn k lv (.int y :: .int x :: st) S c z := by
  show (match cat8 st with | true => k lv (.int (if y < x then y else x) :: st) S c z | false => False)
  rw [hc]
  exact h _
theorem e_mMh {k : Kt} {lv : Lv} {st : List Value} {S : MM} {c z p q : Nat} (hc : cat8 st = true) (hp : p < 2 ^ 31) (hq : q < 2 ^ 31) (h : ∀ r, r ≤ p → r ≤ q → k lv (.int (nI r) :: st) S c z) : mMn k lv (.int (nI q) :: .int (nI p) :: st) S c z := by
  show (match cat8 st with | true => k lv (.int (if nI q < nI p then nI q else nI p) :: st) S c z | false => False)
  rw [hc]
  show k lv (.int (if nI q < nI p then nI q else nI p) :: st) S c z
  have hi : nI q < nI p ↔ q < p := by rw [Int32.lt_iff_toInt_lt, nI_toInt hp, nI_toInt hq]; omega
  by_cases hz : q < p
  · rw [if_pos (hi.mpr hz)]; exact h q (by omega) (by omega)
  · rw [if_neg (fun w => hz (hi.mp w))]; exact h p (by omega) (by omega)
theorem e_sw0 {hi : Int} {ts : Nat → Kt} {t : Kt} {lv : Lv} {st : List Value} {S : MM} {c z : Nat} {x : Int32} (hh : hi < 1000) (h1 : t lv st S c z) (h2 : ∀ j : Nat, (j : Int) ≤ hi → x = nI j → ts j lv st S c z) : swt 0 hi ts t lv (.int x :: st) S c z := ⟨fun _ => h1, fun j e hj => h2 j (by omega) (Int32.toInt_inj.mp (by rw [e, nI_toInt (by omega)]; omega))⟩
