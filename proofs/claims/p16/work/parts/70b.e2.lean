def g_X8_bits_86 (I : Nat → Nat → Int32) (m : Nat) (A : Nat → Nat) (x : Nat)  (s0 : Int32) (s1 : Int32) : Int32 := (s1 + s0)
theorem y_X8_bits_86 {Q : Option Value → MM → Prop} {S : MM} {m : Nat} {A : Nat → Nat} {x : Nat}  {s0 : Int32} {s1 : Int32} {n : Nat} {lv : Lv} (hM : MS S m A) (hx : x < 16) (ir : IM S m A)     (hn : 1 ≤ n) (K : KP Q S (g_X8_bits_86 (sI S) m A x  s0 s1)) : wpn (kX8_bits Q) n 86 lv [.int s0, .int s1] S 0 0 := by
  obtain ⟨d, rfl⟩ : ∃ d, n = d + 1 := ⟨n - 1, by omega⟩
  unfold g_X8_bits_86 at K
  refine u_X8_bits_86 ?_
  unfold bX8_bits_86
  refine e_bopE ?_
  exact e_rI K
def g_X8_bits_74 (I : Nat → Nat → Int32) (m : Nat) (A : Nat → Nat) (x : Nat)  (w2 : Int32) (s0 : Int32) (s1 : Int32) : Int32 := if w2 = (nI 4) then (g_X8_bits_86 I m A x  (nI 32) (s1 + s0)) else (g_X8_bits_86 I m A x  (nI 0) (s1 + s0))
theorem y_X8_bits_74 {Q : Option Value → MM → Prop} {S : MM} {m : Nat} {A : Nat → Nat} {x : Nat}  {w2 : Int32} {s0 : Int32} {s1 : Int32} {n : Nat} {lv : Lv} (hM : MS S m A) (hx : x < 16) (ir : IM S m A)   (g2 : lvg lv 2 = some (.int w2))  (hn : 3 ≤ n) (K : KP Q S (g_X8_bits_74 (sI S) m A x  w2 s0 s1)) : wpn (kX8_bits Q) n 74 lv [.int s0, .int s1] S 0 0 := by
  obtain ⟨d, rfl⟩ : ∃ d, n = d + 3 := ⟨n - 3, by omega⟩
  unfold g_X8_bits_74 at K
  refine u_X8_bits_74 ?_
  unfold bX8_bits_74
  refine e_bopE ?_
  refine e_ldI g2 ?_
  refine e_cN 4 rfl ?_
  refine ⟨fun h1 => ?_, fun h1 => ?_⟩
  · replace K := kx_p h1 K
    refine e_cN 32 rfl ?_
    exact y_X8_bits_86 hM hx ir     (by omega) K
  · replace K := kx_n h1 K
    refine u_X8_bits_85 ?_
    unfold bX8_bits_85
    refine e_cN 0 rfl ?_
    exact y_X8_bits_86 hM hx ir     (by omega) K
def g_X8_bits_62 (I : Nat → Nat → Int32) (m : Nat) (A : Nat → Nat) (x : Nat)  (w2 : Int32) (s0 : Int32) (s1 : Int32) : Int32 := if w2 < (nI 3) then (g_X8_bits_74 I m A x  w2 (nI 0) (s1 + s0)) else (g_X8_bits_74 I m A x  w2 (nI 16) (s1 + s0))
theorem y_X8_bits_62 {Q : Option Value → MM → Prop} {S : MM} {m : Nat} {A : Nat → Nat} {x : Nat}  {w2 : Int32} {s0 : Int32} {s1 : Int32} {n : Nat} {lv : Lv} (hM : MS S m A) (hx : x < 16) (ir : IM S m A)   (g2 : lvg lv 2 = some (.int w2))  (hn : 5 ≤ n) (K : KP Q S (g_X8_bits_62 (sI S) m A x  w2 s0 s1)) : wpn (kX8_bits Q) n 62 lv [.int s0, .int s1] S 0 0 := by
  obtain ⟨d, rfl⟩ : ∃ d, n = d + 5 := ⟨n - 5, by omega⟩
  unfold g_X8_bits_62 at K
  refine u_X8_bits_62 ?_
  unfold bX8_bits_62
  refine e_bopE ?_
  refine e_ldI g2 ?_
  refine e_cN 3 rfl ?_
  refine ⟨fun h1 => ?_, fun h1 => ?_⟩
  · replace K := kx_p h1 K
    refine u_X8_bits_73 ?_
    unfold bX8_bits_73
    refine e_cN 0 rfl ?_
    exact y_X8_bits_74 hM hx ir   g2  (by omega) K
  · replace K := kx_n h1 K
    refine e_cN 16 rfl ?_
    exact y_X8_bits_74 hM hx ir   g2  (by omega) K
def g_X8_bits_50 (I : Nat → Nat → Int32) (m : Nat) (A : Nat → Nat) (x : Nat)  (w2 : Int32) (s0 : Int32) (s1 : Int32) : Int32 := if w2 < (nI 2) then (g_X8_bits_62 I m A x  w2 (nI 0) (s1 + s0)) else (g_X8_bits_62 I m A x  w2 (nI 8) (s1 + s0))
theorem y_X8_bits_50 {Q : Option Value → MM → Prop} {S : MM} {m : Nat} {A : Nat → Nat} {x : Nat}  {w2 : Int32} {s0 : Int32} {s1 : Int32} {n : Nat} {lv : Lv} (hM : MS S m A) (hx : x < 16) (ir : IM S m A)   (g2 : lvg lv 2 = some (.int w2))  (hn : 7 ≤ n) (K : KP Q S (g_X8_bits_50 (sI S) m A x  w2 s0 s1)) : wpn (kX8_bits Q) n 50 lv [.int s0, .int s1] S 0 0 := by
  obtain ⟨d, rfl⟩ : ∃ d, n = d + 7 := ⟨n - 7, by omega⟩
  unfold g_X8_bits_50 at K
  refine u_X8_bits_50 ?_
  unfold bX8_bits_50
  refine e_bopE ?_
  refine e_ldI g2 ?_
  refine e_cN 2 rfl ?_
  refine ⟨fun h1 => ?_, fun h1 => ?_⟩
  · replace K := kx_p h1 K
    refine u_X8_bits_61 ?_
    unfold bX8_bits_61
    refine e_cN 0 rfl ?_
    exact y_X8_bits_62 hM hx ir   g2  (by omega) K
  · replace K := kx_n h1 K
    refine e_cN 8 rfl ?_
    exact y_X8_bits_62 hM hx ir   g2  (by omega) K
def g_X8_bits_35 (I : Nat → Nat → Int32) (m : Nat) (A : Nat → Nat) (x : Nat)  (w2 : Int32) (s0 : Int32) (s1 : Int32) : Int32 := if (I (A 3) x) ≤ 0 then (g_X8_bits_50 I m A x  w2 (nI 0) (s1 + s0)) else (g_X8_bits_50 I m A x  w2 (nI 4) (s1 + s0))
theorem y_X8_bits_35 {Q : Option Value → MM → Prop} {S : MM} {m : Nat} {A : Nat → Nat} {x : Nat}  {w2 : Int32} {s0 : Int32} {s1 : Int32} {n : Nat} {lv : Lv} (hM : MS S m A) (hx : x < 16) (ir : IM S m A)   (g0 : lvg lv 0 = some (.ref m)) (g1 : lvg lv 1 = some (.int (nI x))) (g2 : lvg lv 2 = some (.int w2))  (hn : 9 ≤ n) (K : KP Q S (g_X8_bits_35 (sI S) m A x  w2 s0 s1)) : wpn (kX8_bits Q) n 35 lv [.int s0, .int s1] S 0 0 := by
  obtain ⟨d, rfl⟩ : ∃ d, n = d + 9 := ⟨n - 9, by omega⟩
  unfold g_X8_bits_35 at K
  refine u_X8_bits_35 ?_
  unfold bX8_bits_35
  refine e_bopE ?_
  refine e_ldA g0 ?_
  refine e_gR hM.1 (hM.2.1 3 (by decide)).1 ?_
  refine e_ldI g1 ?_
  refine e_aE (N := 16) (kdA (k := 3) hM (by decide) rfl) (lnA (k := 3) hM (by decide) rfl) (by omega) (by decide) ?_
  refine ⟨fun h1 => ?_, fun h1 => ?_⟩
  · replace K := kx_p h1 K
    refine u_X8_bits_49 ?_
    unfold bX8_bits_49
    refine e_cN 0 rfl ?_
    exact y_X8_bits_50 hM hx ir   g2  (by omega) K
  · replace K := kx_n h1 K
    refine e_cN 4 rfl ?_
    exact y_X8_bits_50 hM hx ir   g2  (by omega) K
def g_X8_bits_21 (I : Nat → Nat → Int32) (m : Nat) (A : Nat → Nat) (x : Nat)  (w2 : Int32) (s0 : Int32) : Int32 := if (I (A 6) x) = 0 then (g_X8_bits_35 I m A x  w2 (nI 0) s0) else (g_X8_bits_35 I m A x  w2 (nI 2) s0)
theorem y_X8_bits_21 {Q : Option Value → MM → Prop} {S : MM} {m : Nat} {A : Nat → Nat} {x : Nat}  {w2 : Int32} {s0 : Int32} {n : Nat} {lv : Lv} (hM : MS S m A) (hx : x < 16) (ir : IM S m A)   (g0 : lvg lv 0 = some (.ref m)) (g1 : lvg lv 1 = some (.int (nI x))) (g2 : lvg lv 2 = some (.int w2))  (hn : 11 ≤ n) (K : KP Q S (g_X8_bits_21 (sI S) m A x  w2 s0)) : wpn (kX8_bits Q) n 21 lv [.int s0] S 0 0 := by
  obtain ⟨d, rfl⟩ : ∃ d, n = d + 11 := ⟨n - 11, by omega⟩
  unfold g_X8_bits_21 at K
  refine u_X8_bits_21 ?_
  unfold bX8_bits_21
  refine e_ldA g0 ?_
  refine e_gR hM.1 (hM.2.1 6 (by decide)).1 ?_
  refine e_ldI g1 ?_
  refine e_aE (N := 16) (kdA (k := 6) hM (by decide) rfl) (lnA (k := 6) hM (by decide) rfl) (by omega) (by decide) ?_
  refine ⟨fun h1 => ?_, fun h1 => ?_⟩
  · replace K := kx_p h1 K
    refine u_X8_bits_34 ?_
    unfold bX8_bits_34
    refine e_cN 0 rfl ?_
    exact y_X8_bits_35 hM hx ir   g0 g1 g2  (by omega) K
  · replace K := kx_n h1 K
    refine e_cN 2 rfl ?_
    exact y_X8_bits_35 hM hx ir   g0 g1 g2  (by omega) K
def f_X8_bits (I : Nat → Nat → Int32) (m : Nat) (A : Nat → Nat) (x : Nat) : Int32 := if (I (A 5) x) = 0 then (g_X8_bits_21 I m A x  (I (A 9) x) (nI 0)) else (g_X8_bits_21 I m A x  (I (A 9) x) (nI 1))
theorem x_X8_bits {Q : Option Value → MM → Prop} {S : MM} {m : Nat} {A : Nat → Nat} {x : Nat} (hM : MS S m A) (hx : x < 16) (ir : IM S m A)   (K : KP Q S (f_X8_bits (sI S) m A x)) : wX8_bits [.ref m, .int (nI x)] S Q := by
  unfold f_X8_bits at K
  refine Exists.intro 13 (u_X8_bits_0 ?_)
  unfold bX8_bits_0
  refine e_ldA rfl ?_
  refine e_gR hM.1 (hM.2.1 9 (by decide)).1 ?_
  refine e_ldI rfl ?_
  refine e_aE (N := 16) (kdA (k := 9) hM (by decide) rfl) (lnA (k := 9) hM (by decide) rfl) (by omega) (by decide) ?_
  refine e_stI ?_
  refine e_ldA (lvg_ne rfl rfl (by decide)) ?_
  refine e_gR hM.1 (hM.2.1 5 (by decide)).1 ?_
  refine e_ldI (lvg_ne rfl rfl (by decide)) ?_
  refine e_aE (N := 16) (kdA (k := 5) hM (by decide) rfl) (lnA (k := 5) hM (by decide) rfl) (by omega) (by decide) ?_
  refine ⟨fun h1 => ?_, fun h1 => ?_⟩
  · replace K := kx_p h1 K
    refine u_X8_bits_20 ?_
    unfold bX8_bits_20
    refine e_cN 0 rfl ?_
    exact y_X8_bits_21 hM hx ir   (lvg_ne rfl rfl (by decide)) (lvg_ne rfl rfl (by decide)) lvg_self  (by omega) K
  · replace K := kx_n h1 K
    refine e_cN 1 rfl ?_
    exact y_X8_bits_21 hM hx ir   (lvg_ne rfl rfl (by decide)) (lvg_ne rfl rfl (by decide)) lvg_self  (by omega) K
def f_own0 (I : Nat → Nat → Int32) (m : Nat) (A : Nat → Nat) (x : Nat) : Int32 := (I (A 1) (x / 8))
theorem x_own0 {Q : Option Value → MM → Prop} {S : MM} {m : Nat} {A : Nat → Nat} {x : Nat} (hM : MS S m A) (hx : x < 16) (ir : IM S m A)   (K : KP Q S (f_own0 (sI S) m A x)) : wX8_own [.ref m, .int (nI x), .int (nI 0)] S Q := by
  unfold f_own0 at K
  refine Exists.intro 2 (u_X8_own_0 ?_)
  unfold bX8_own_0
  refine e_ldI rfl ?_
  refine e_swk 0 (by decide) (by decide) ?_
  refine u_X8_own_32 ?_
  unfold bX8_own_32
  refine e_ldA rfl ?_
  refine e_gR hM.1 (hM.2.1 1 (by decide)).1 ?_
  refine e_ldI rfl ?_
  refine e_cN 8 rfl ?_
  refine e_div (by omega) (by decide) (by decide) ?_
  refine e_aE (N := 2) (kdA (k := 1) hM (by decide) rfl) (lnA (k := 1) hM (by decide) rfl) (by omega) (by decide) ?_
  exact e_rI K
def f_own1 (I : Nat → Nat → Int32) (m : Nat) (A : Nat → Nat) (x : Nat) : Int32 := (I (A 3) x)
theorem x_own1 {Q : Option Value → MM → Prop} {S : MM} {m : Nat} {A : Nat → Nat} {x : Nat} (hM : MS S m A) (hx : x < 16) (ir : IM S m A)   (K : KP Q S (f_own1 (sI S) m A x)) : wX8_own [.ref m, .int (nI x), .int (nI 1)] S Q := by
  unfold f_own1 at K
  refine Exists.intro 2 (u_X8_own_0 ?_)
  unfold bX8_own_0
  refine e_ldI rfl ?_
  refine e_swk 1 (by decide) (by decide) ?_
  refine u_X8_own_42 ?_
  unfold bX8_own_42
  refine e_ldA rfl ?_
  refine e_gR hM.1 (hM.2.1 3 (by decide)).1 ?_
  refine e_ldI rfl ?_
  refine e_aE (N := 16) (kdA (k := 3) hM (by decide) rfl) (lnA (k := 3) hM (by decide) rfl) (by omega) (by decide) ?_
  exact e_rI K
def f_own2 (I : Nat → Nat → Int32) (m : Nat) (A : Nat → Nat) (x : Nat) : Int32 := (I (A 4) x)
theorem x_own2 {Q : Option Value → MM → Prop} {S : MM} {m : Nat} {A : Nat → Nat} {x : Nat} (hM : MS S m A) (hx : x < 16) (ir : IM S m A)   (K : KP Q S (f_own2 (sI S) m A x)) : wX8_own [.ref m, .int (nI x), .int (nI 2)] S Q := by
  unfold f_own2 at K
  refine Exists.intro 2 (u_X8_own_0 ?_)
  unfold bX8_own_0
  refine e_ldI rfl ?_
  refine e_swk 2 (by decide) (by decide) ?_
  refine u_X8_own_49 ?_
  unfold bX8_own_49
  refine e_ldA rfl ?_
  refine e_gR hM.1 (hM.2.1 4 (by decide)).1 ?_
  refine e_ldI rfl ?_
  refine e_aE (N := 16) (kdA (k := 4) hM (by decide) rfl) (lnA (k := 4) hM (by decide) rfl) (by omega) (by decide) ?_
  exact e_rI K
def f_own3 (I : Nat → Nat → Int32) (m : Nat) (A : Nat → Nat) (x : Nat) : Int32 := (nI (x % 8))
theorem x_own3 {Q : Option Value → MM → Prop} {S : MM} {m : Nat} {A : Nat → Nat} {x : Nat} (hM : MS S m A) (hx : x < 16) (ir : IM S m A)   (K : KP Q S (f_own3 (sI S) m A x)) : wX8_own [.ref m, .int (nI x), .int (nI 3)] S Q := by
  unfold f_own3 at K
  refine Exists.intro 2 (u_X8_own_0 ?_)
  unfold bX8_own_0
  refine e_ldI rfl ?_
  refine e_swk 3 (by decide) (by decide) ?_
  refine u_X8_own_56 ?_
  unfold bX8_own_56
  refine e_ldI rfl ?_
  refine e_cN 8 rfl ?_
  refine e_rem (by omega) (by decide) (by decide) ?_
  exact e_rI K
def f_own4 (I : Nat → Nat → Int32) (m : Nat) (A : Nat → Nat) (x : Nat) : Int32 := (f_X8_bits I m A x)
theorem x_own4 {Q : Option Value → MM → Prop} {S : MM} {m : Nat} {A : Nat → Nat} {x : Nat} (hM : MS S m A) (hx : x < 16) (ir : IM S m A)   (K : KP Q S (f_own4 (sI S) m A x)) : wX8_own [.ref m, .int (nI x), .int (nI 4)] S Q := by
  unfold f_own4 at K
  refine Exists.intro 2 (u_X8_own_0 ?_)
  unfold bX8_own_0
  refine e_ldI rfl ?_
  refine e_swd (by decide) ?_
  refine u_X8_own_61 ?_
  unfold bX8_own_61
  refine e_ldA rfl ?_
  refine e_ldI rfl ?_
  refine And.intro hM.1 (And.intro ⟨by decide, by decide⟩ (x_X8_bits hM (by omega) ir (KP_i ?_)))
  exact e_rI K
def f_X8_isLit (I : Nat → Nat → Int32) (m : Nat) (A : Nat → Nat) (x : Nat) : Int32 := if (I (A 7) x) = 0 then ((nI 0)) else ((nI 1))
theorem x_X8_isLit {Q : Option Value → MM → Prop} {S : MM} {m : Nat} {A : Nat → Nat} {x : Nat} (hM : MS S m A) (hx : x < 16) (ir : IM S m A)   (K : KP Q S (f_X8_isLit (sI S) m A x)) : wX8_isLit [.ref m, .int (nI x)] S Q := by
  unfold f_X8_isLit at K
  refine Exists.intro 3 (u_X8_isLit_0 ?_)
  unfold bX8_isLit_0
  refine e_ldA rfl ?_
  refine e_gR hM.1 (hM.2.1 7 (by decide)).1 ?_
  refine e_ldI rfl ?_
  refine e_aE (N := 16) (kdA (k := 7) hM (by decide) rfl) (lnA (k := 7) hM (by decide) rfl) (by omega) (by decide) ?_
  refine ⟨fun h1 => ?_, fun h1 => ?_⟩
  · replace K := kx_p h1 K
    refine u_X8_isLit_13 ?_
    unfold bX8_isLit_13
    refine e_cN 0 rfl ?_
    refine u_X8_isLit_14 ?_
    unfold bX8_isLit_14
    exact And.intro (Or.inl rfl) K
  · replace K := kx_n h1 K
    refine e_cN 1 rfl ?_
    refine u_X8_isLit_14 ?_
    unfold bX8_isLit_14
    exact And.intro (Or.inr rfl) K
def f_X8_isPartner (I : Nat → Nat → Int32) (m : Nat) (A : Nat → Nat) (x : Nat) (v : Int32) : Int32 := if ((I (A 18) ((5 * x) + 4)) &&& v) = 0 then ((nI 0)) else ((nI 1))
theorem x_X8_isPartner {Q : Option Value → MM → Prop} {S : MM} {m : Nat} {A : Nat → Nat} {x : Nat} {v : Int32} (hM : MS S m A) (hx : x < 16) (ir : IM S m A)   (K : KP Q S (f_X8_isPartner (sI S) m A x v)) : wX8_isPartner [.ref m, .int (nI x), .int v] S Q := by
  unfold f_X8_isPartner at K
  refine Exists.intro 3 (u_X8_isPartner_0 ?_)
  unfold bX8_isPartner_0
  refine e_ldA rfl ?_
  refine e_gR hM.1 (hM.2.1 18 (by decide)).1 ?_
  refine e_cN 5 rfl ?_
  refine e_ldI rfl ?_
  refine e_mul ?_
  refine e_cN 4 rfl ?_
  refine e_add ?_
  refine e_aE (N := 80) (kdA (k := 18) hM (by decide) rfl) (lnA (k := 18) hM (by decide) rfl) (by omega) (by decide) ?_
  refine e_ldI rfl ?_
  refine e_bopE ?_
  refine ⟨fun h1 => ?_, fun h1 => ?_⟩
  · replace K := kx_p h1 K
    refine u_X8_isPartner_19 ?_
    unfold bX8_isPartner_19
    refine e_cN 0 rfl ?_
    refine u_X8_isPartner_20 ?_
    unfold bX8_isPartner_20
    exact And.intro (Or.inl rfl) K
  · replace K := kx_n h1 K
    refine e_cN 1 rfl ?_
    refine u_X8_isPartner_20 ?_
    unfold bX8_isPartner_20
    exact And.intro (Or.inr rfl) K
def f_X8_stronger (I : Nat → Nat → Int32) (m : Nat) (A : Nat → Nat) : Nat := if (I (A 1) 1) < (I (A 1) 0) then (1) else (0)
theorem x_X8_stronger {Q : Option Value → MM → Prop} {S : MM} {m : Nat} {A : Nat → Nat} (hM : MS S m A) (ir : IM S m A)   (K : KN 2 Q S (f_X8_stronger (sI S) m A)) : wX8_stronger [.ref m] S Q := by
  unfold f_X8_stronger at K
  refine Exists.intro 3 (u_X8_stronger_0 ?_)
  unfold bX8_stronger_0
  refine e_ldA rfl ?_
  refine e_gR hM.1 (hM.2.1 1 (by decide)).1 ?_
  refine e_cN 0 rfl ?_
  refine e_aE (N := 2) (kdA (k := 1) hM (by decide) rfl) (lnA (k := 1) hM (by decide) rfl) (by omega) (by decide) ?_
  refine e_ldA rfl ?_
  refine e_gR hM.1 (hM.2.1 1 (by decide)).1 ?_
  refine e_cN 1 rfl ?_
  refine e_aE (N := 2) (kdA (k := 1) hM (by decide) rfl) (lnA (k := 1) hM (by decide) rfl) (by omega) (by decide) ?_
  refine ⟨fun h1 => ?_, fun h1 => ?_⟩
  · replace K := kx_p h1 K
    refine u_X8_stronger_19 ?_
    unfold bX8_stronger_19
    refine e_cN 1 rfl ?_
    refine u_X8_stronger_20 ?_
    unfold bX8_stronger_20
    exact e_rI (K (by omega))
  · replace K := kx_n h1 K
    refine e_cN 0 rfl ?_
    refine u_X8_stronger_20 ?_
    unfold bX8_stronger_20
    exact e_rI (K (by omega))
def f_X8_forgets (I : Nat → Nat → Int32) (m : Nat) (A : Nat → Nat) (x : Nat) : Nat → Nat → Int32 := let I2 := up2 I (A 18) ((5 * x) + 0) (nI 0); let I4 := up2 I2 (A 18) ((5 * x) + 1) (nI 0); let I6 := up2 I4 (A 18) ((5 * x) + 2) (nI 0); let I8 := up2 I6 (A 18) ((5 * x) + 3) (nI 0); let I10 := up2 I8 (A 18) ((5 * x) + 4) (nI 0); I10
theorem x_X8_forgets {Q : Option Value → MM → Prop} {S : MM} {m : Nat} {A : Nat → Nat} {x : Nat} (hM : MS S m A) (hx : x < 16) (ir : IM S m A)   (K : KVM m A Q S (f_X8_forgets (sI S) m A x)) : wX8_forgets [.ref m, .int (nI x)] S Q := by
  unfold f_X8_forgets at K
  refine Exists.intro 8 (u_X8_forgets_0 ?_)
  unfold bX8_forgets_0
  refine e_cN 0 rfl ?_
  refine e_stI ?_
  refine u_X8_forgets_2 ?_
  unfold bX8_forgets_2
  refine e_ldI lvg_self ?_
  refine e_cN 5 rfl ?_
  refine ⟨fun z => absurd z (by decide), fun _ => ?_⟩
  refine e_ldA (lvg_ne rfl rfl (by decide)) ?_
  refine e_gR hM.1 (hM.2.1 18 (by decide)).1 ?_
  refine e_cN 5 rfl ?_
  refine e_ldI (lvg_ne rfl rfl (by decide)) ?_
  refine e_mul ?_
  refine e_ldI lvg_self ?_
  refine e_add ?_
  refine e_cN 0 rfl ?_
  refine e_mA (N := 80) (k := 18) hM ir (by decide) (kdA (k := 18) hM (by decide) rfl) (lnA (k := 18) hM (by decide) rfl) (by omega) (by decide) (fun N e => nomatch (show (none : Option Nat) = some N from e)) (fun e => absurd e (by decide)) (fun ir1 => ?_)
  refine e_inc lvg_self ?_
  refine u_X8_forgets_2 ?_
  unfold bX8_forgets_2
  refine e_ldI lvg_self ?_
  refine e_cN 5 rfl ?_
  refine ⟨fun z => absurd z (by decide), fun _ => ?_⟩
  refine e_ldA (lvg_ne (lvg_ne rfl rfl (by decide)) rfl (by decide)) ?_
  refine e_gR hM.1 (hM.2.1 18 (by decide)).1 ?_
  refine e_cN 5 rfl ?_
  refine e_ldI (lvg_ne (lvg_ne rfl rfl (by decide)) rfl (by decide)) ?_
  refine e_mul ?_
  refine e_ldI lvg_self ?_
  refine e_add ?_
  refine e_cN 0 rfl ?_
  refine e_mA (N := 80) (k := 18) hM ir1 (by decide) (kdA (k := 18) hM (by decide) rfl) (lnA (k := 18) hM (by decide) rfl) (by omega) (by decide) (fun N e => nomatch (show (none : Option Nat) = some N from e)) (fun e => absurd e (by decide)) (fun ir3 => ?_)
  refine e_inc lvg_self ?_
  refine u_X8_forgets_2 ?_
  unfold bX8_forgets_2
  refine e_ldI lvg_self ?_
  refine e_cN 5 rfl ?_
  refine ⟨fun z => absurd z (by decide), fun _ => ?_⟩
  refine e_ldA (lvg_ne (lvg_ne (lvg_ne rfl rfl (by decide)) rfl (by decide)) rfl (by decide)) ?_
  refine e_gR hM.1 (hM.2.1 18 (by decide)).1 ?_
  refine e_cN 5 rfl ?_
  refine e_ldI (lvg_ne (lvg_ne (lvg_ne rfl rfl (by decide)) rfl (by decide)) rfl (by decide)) ?_
  refine e_mul ?_
  refine e_ldI lvg_self ?_
  refine e_add ?_
  refine e_cN 0 rfl ?_
  refine e_mA (N := 80) (k := 18) hM ir3 (by decide) (kdA (k := 18) hM (by decide) rfl) (lnA (k := 18) hM (by decide) rfl) (by omega) (by decide) (fun N e => nomatch (show (none : Option Nat) = some N from e)) (fun e => absurd e (by decide)) (fun ir5 => ?_)
  refine e_inc lvg_self ?_
  refine u_X8_forgets_2 ?_
  unfold bX8_forgets_2
  refine e_ldI lvg_self ?_
  refine e_cN 5 rfl ?_
  refine ⟨fun z => absurd z (by decide), fun _ => ?_⟩
  refine e_ldA (lvg_ne (lvg_ne (lvg_ne (lvg_ne rfl rfl (by decide)) rfl (by decide)) rfl (by decide)) rfl (by decide)) ?_
  refine e_gR hM.1 (hM.2.1 18 (by decide)).1 ?_
  refine e_cN 5 rfl ?_
  refine e_ldI (lvg_ne (lvg_ne (lvg_ne (lvg_ne rfl rfl (by decide)) rfl (by decide)) rfl (by decide)) rfl (by decide)) ?_
  refine e_mul ?_
  refine e_ldI lvg_self ?_
  refine e_add ?_
  refine e_cN 0 rfl ?_
  refine e_mA (N := 80) (k := 18) hM ir5 (by decide) (kdA (k := 18) hM (by decide) rfl) (lnA (k := 18) hM (by decide) rfl) (by omega) (by decide) (fun N e => nomatch (show (none : Option Nat) = some N from e)) (fun e => absurd e (by decide)) (fun ir7 => ?_)
  refine e_inc lvg_self ?_
  refine u_X8_forgets_2 ?_
  unfold bX8_forgets_2
  refine e_ldI lvg_self ?_
  refine e_cN 5 rfl ?_
  refine ⟨fun z => absurd z (by decide), fun _ => ?_⟩
  refine e_ldA (lvg_ne (lvg_ne (lvg_ne (lvg_ne (lvg_ne rfl rfl (by decide)) rfl (by decide)) rfl (by decide)) rfl (by decide)) rfl (by decide)) ?_
  refine e_gR hM.1 (hM.2.1 18 (by decide)).1 ?_
  refine e_cN 5 rfl ?_
  refine e_ldI (lvg_ne (lvg_ne (lvg_ne (lvg_ne (lvg_ne rfl rfl (by decide)) rfl (by decide)) rfl (by decide)) rfl (by decide)) rfl (by decide)) ?_
  refine e_mul ?_
  refine e_ldI lvg_self ?_
  refine e_add ?_
  refine e_cN 0 rfl ?_
  refine e_mA (N := 80) (k := 18) hM ir7 (by decide) (kdA (k := 18) hM (by decide) rfl) (lnA (k := 18) hM (by decide) rfl) (by omega) (by decide) (fun N e => nomatch (show (none : Option Nat) = some N from e)) (fun e => absurd e (by decide)) (fun ir9 => ?_)
  refine e_inc lvg_self ?_
  refine u_X8_forgets_2 ?_
  unfold bX8_forgets_2
  refine e_ldI lvg_self ?_
  refine e_cN 5 rfl ?_
  refine ⟨fun _ => ?_, fun z => absurd (by decide) z⟩
  refine u_X8_forgets_24 ?_
  unfold bX8_forgets_24
  exact e_rV (K ir9)
theorem nm_X8_forgets {I : Nat → Nat → Int32} {m : Nat} {A : Nat → Nat} {x : Nat} {z : Nat} (hz : ∀ k ∈ ([18] : List Nat), z ≠ A k) : (f_X8_forgets I m A x) z = I z := by
  simp only [f_X8_forgets]
  repeat' split
  all_goals simp only [up2_row (hz 18 (by decide))]
def f_X8_partnerStops (I : Nat → Nat → Int32) (m : Nat) (A : Nat → Nat) (x : Nat) : Nat → Nat → Int32 := let I2 := up2 I (A 18) ((5 * x) + 4) ((I (A 18) ((5 * x) + 4)) &&& (-57 : Int32)); I2
theorem x_X8_partnerStops {Q : Option Value → MM → Prop} {S : MM} {m : Nat} {A : Nat → Nat} {x : Nat} (hM : MS S m A) (hx : x < 16) (ir : IM S m A)   (K : KVM m A Q S (f_X8_partnerStops (sI S) m A x)) : wX8_partnerStops [.ref m, .int (nI x)] S Q := by
  unfold f_X8_partnerStops at K
  refine Exists.intro 1 (u_X8_partnerStops_0 ?_)
  unfold bX8_partnerStops_0
  refine e_ldA rfl ?_
  refine e_gR hM.1 (hM.2.1 18 (by decide)).1 ?_
  refine e_cN 5 rfl ?_
  refine e_ldI rfl ?_
  refine e_mul ?_
  refine e_cN 4 rfl ?_
  refine e_add ?_
  refine e_du2 ?_
  refine e_aE (N := 80) (kdA (k := 18) hM (by decide) rfl) (lnA (k := 18) hM (by decide) rfl) (by omega) (by decide) ?_
  refine e_cI ?_
  refine e_bopE ?_
  refine e_mA (N := 80) (k := 18) hM ir (by decide) (kdA (k := 18) hM (by decide) rfl) (lnA (k := 18) hM (by decide) rfl) (by omega) (by decide) (fun N e => nomatch (show (none : Option Nat) = some N from e)) (fun e => absurd e (by decide)) (fun ir1 => ?_)
  exact e_rV (K ir1)
theorem nm_X8_partnerStops {I : Nat → Nat → Int32} {m : Nat} {A : Nat → Nat} {x : Nat} {z : Nat} (hz : ∀ k ∈ ([18] : List Nat), z ≠ A k) : (f_X8_partnerStops I m A x) z = I z := by
  simp only [f_X8_partnerStops]
  repeat' split
  all_goals simp only [up2_row (hz 18 (by decide))]
def f_X8_goesTo (I : Nat → Nat → Int32) (m : Nat) (A : Nat → Nat) (x : Nat) (v : Int32) : Nat → Nat → Int32 := if v = (I (A 9) x) then (let I3 := up2 I (A 9) x v; I3) else (if v = (nI 4) then (let I6 := up2 I (A 40) (x / 8) ((I (A 40) (x / 8)) + (nI 1)); let I8 := up2 I6 (A 9) x v; I8) else (if (I (A 9) x) = (nI 4) then (let I11 := up2 I (A 40) (x / 8) ((I (A 40) (x / 8)) + (nI 1)); let I13 := up2 I11 (A 9) x v; I13) else (let I15 := up2 I (A 9) x v; I15)))
theorem x_X8_goesTo {Q : Option Value → MM → Prop} {S : MM} {m : Nat} {A : Nat → Nat} {x : Nat} {v : Int32} (hM : MS S m A) (hx : x < 16) (ir : IM S m A)   (K : KVM m A Q S (f_X8_goesTo (sI S) m A x v)) : wX8_goesTo [.ref m, .int (nI x), .int v] S Q := by
  unfold f_X8_goesTo at K
  refine Exists.intro 3 (u_X8_goesTo_0 ?_)
  unfold bX8_goesTo_0
  refine e_ldI rfl ?_
  refine e_ldA rfl ?_
  refine e_gR hM.1 (hM.2.1 9 (by decide)).1 ?_
  refine e_ldI rfl ?_
  refine e_aE (N := 16) (kdA (k := 9) hM (by decide) rfl) (lnA (k := 9) hM (by decide) rfl) (by omega) (by decide) ?_
  refine ⟨fun h1 => ?_, fun h1 => ?_⟩
  · replace K := kx_p h1 K
    refine u_X8_goesTo_38 ?_
    unfold bX8_goesTo_38
    refine e_ldA rfl ?_
    refine e_gR hM.1 (hM.2.1 9 (by decide)).1 ?_
    refine e_ldI rfl ?_
    refine e_ldI rfl ?_
    refine e_mA (N := 16) (k := 9) hM ir (by decide) (kdA (k := 9) hM (by decide) rfl) (lnA (k := 9) hM (by decide) rfl) (by omega) (by decide) (fun N e => nomatch (show (none : Option Nat) = some N from e)) (fun e => absurd e (by decide)) (fun ir2 => ?_)
    exact e_rV (K ir2)
  · replace K := kx_n h1 K
    refine e_ldI rfl ?_
    refine e_cN 4 rfl ?_
    refine ⟨fun h4 => ?_, fun h4 => ?_⟩
    · replace K := kx_p h4 K
      refine u_X8_goesTo_25 ?_
      unfold bX8_goesTo_25
      refine e_ldA rfl ?_
      refine e_gR hM.1 (hM.2.1 40 (by decide)).1 ?_
      refine e_ldI rfl ?_
      refine e_cN 8 rfl ?_
      refine e_div (by omega) (by decide) (by decide) ?_
      refine e_du2 ?_
      refine e_aE (N := 2) (kdA (k := 40) hM (by decide) rfl) (lnA (k := 40) hM (by decide) rfl) (by omega) (by decide) ?_
      refine e_cN 1 rfl ?_
      refine e_bopE ?_
      refine e_mA (N := 2) (k := 40) hM ir (by decide) (kdA (k := 40) hM (by decide) rfl) (lnA (k := 40) hM (by decide) rfl) (by omega) (by decide) (fun N e => nomatch (show (none : Option Nat) = some N from e)) (fun e => absurd e (by decide)) (fun ir5 => ?_)
      refine u_X8_goesTo_38 ?_
      unfold bX8_goesTo_38
      refine e_ldA rfl ?_
      refine e_gR hM.1 (hM.2.1 9 (by decide)).1 ?_
      refine e_ldI rfl ?_
      refine e_ldI rfl ?_
      refine e_mA (N := 16) (k := 9) hM ir5 (by decide) (kdA (k := 9) hM (by decide) rfl) (lnA (k := 9) hM (by decide) rfl) (by omega) (by decide) (fun N e => nomatch (show (none : Option Nat) = some N from e)) (fun e => absurd e (by decide)) (fun ir7 => ?_)
      exact e_rV (K ir7)
    · replace K := kx_n h4 K
      refine e_ldA rfl ?_
      refine e_gR hM.1 (hM.2.1 9 (by decide)).1 ?_
      refine e_ldI rfl ?_
      refine e_aE (N := 16) (kdA (k := 9) hM (by decide) rfl) (lnA (k := 9) hM (by decide) rfl) (by omega) (by decide) ?_
      refine e_cN 4 rfl ?_
      refine ⟨fun h9 => ?_, fun h9 => ?_⟩
      · replace K := kx_p h9 K
        refine u_X8_goesTo_25 ?_
        unfold bX8_goesTo_25
        refine e_ldA rfl ?_
        refine e_gR hM.1 (hM.2.1 40 (by decide)).1 ?_
        refine e_ldI rfl ?_
        refine e_cN 8 rfl ?_
        refine e_div (by omega) (by decide) (by decide) ?_
        refine e_du2 ?_
        refine e_aE (N := 2) (kdA (k := 40) hM (by decide) rfl) (lnA (k := 40) hM (by decide) rfl) (by omega) (by decide) ?_
        refine e_cN 1 rfl ?_
        refine e_bopE ?_
        refine e_mA (N := 2) (k := 40) hM ir (by decide) (kdA (k := 40) hM (by decide) rfl) (lnA (k := 40) hM (by decide) rfl) (by omega) (by decide) (fun N e => nomatch (show (none : Option Nat) = some N from e)) (fun e => absurd e (by decide)) (fun ir10 => ?_)
        refine u_X8_goesTo_38 ?_
        unfold bX8_goesTo_38
        refine e_ldA rfl ?_
        refine e_gR hM.1 (hM.2.1 9 (by decide)).1 ?_
        refine e_ldI rfl ?_
        refine e_ldI rfl ?_
        refine e_mA (N := 16) (k := 9) hM ir10 (by decide) (kdA (k := 9) hM (by decide) rfl) (lnA (k := 9) hM (by decide) rfl) (by omega) (by decide) (fun N e => nomatch (show (none : Option Nat) = some N from e)) (fun e => absurd e (by decide)) (fun ir12 => ?_)
        exact e_rV (K ir12)
      · replace K := kx_n h9 K
        refine u_X8_goesTo_38 ?_
        unfold bX8_goesTo_38
        refine e_ldA rfl ?_
        refine e_gR hM.1 (hM.2.1 9 (by decide)).1 ?_
        refine e_ldI rfl ?_
        refine e_ldI rfl ?_
        refine e_mA (N := 16) (k := 9) hM ir (by decide) (kdA (k := 9) hM (by decide) rfl) (lnA (k := 9) hM (by decide) rfl) (by omega) (by decide) (fun N e => nomatch (show (none : Option Nat) = some N from e)) (fun e => absurd e (by decide)) (fun ir14 => ?_)
        exact e_rV (K ir14)
theorem nm_X8_goesTo {I : Nat → Nat → Int32} {m : Nat} {A : Nat → Nat} {x : Nat} {v : Int32} {z : Nat} (hz : ∀ k ∈ ([9, 40] : List Nat), z ≠ A k) : (f_X8_goesTo I m A x v) z = I z := by
  simp only [f_X8_goesTo]
  repeat' split
  all_goals simp only [up2_row (hz 9 (by decide)), up2_row (hz 40 (by decide))]
def f_X8_isLitNow (I : Nat → Nat → Int32) (m : Nat) (A : Nat → Nat) (x : Nat) : Nat → Nat → Int32 := let I2 := up2 I (A 7) x (nI 1); let I4 := up2 I2 (A 8) x (nI 3); let I6 := f_X8_partnerStops I4 m A x; let I8 := f_X8_goesTo I6 m A x (nI 0); let I10 := up2 I8 (A 14) x (nI 0); let I12 := up2 I10 (A 21) x (-1 : Int32); I12
theorem x_X8_isLitNow {Q : Option Value → MM → Prop} {S : MM} {m : Nat} {A : Nat → Nat} {x : Nat} (hM : MS S m A) (hx : x < 16) (ir : IM S m A)   (K : KVM m A Q S (f_X8_isLitNow (sI S) m A x)) : wX8_isLitNow [.ref m, .int (nI x)] S Q := by
  unfold f_X8_isLitNow at K
  refine Exists.intro 1 (u_X8_isLitNow_0 ?_)
  unfold bX8_isLitNow_0
  refine e_ldA rfl ?_
  refine e_gR hM.1 (hM.2.1 7 (by decide)).1 ?_
  refine e_ldI rfl ?_
  refine e_cN 1 rfl ?_
  refine e_mA (N := 16) (k := 7) hM ir (by decide) (kdA (k := 7) hM (by decide) rfl) (lnA (k := 7) hM (by decide) rfl) (by omega) (by decide) (fun N e => nomatch (show (none : Option Nat) = some N from e)) (fun e => absurd e (by decide)) (fun ir1 => ?_)
  refine e_ldA rfl ?_
  refine e_gR hM.1 (hM.2.1 8 (by decide)).1 ?_
  refine e_ldI rfl ?_
  refine e_cN 3 rfl ?_
  refine e_mA (N := 16) (k := 8) hM ir1 (by decide) (kdA (k := 8) hM (by decide) rfl) (lnA (k := 8) hM (by decide) rfl) (by omega) (by decide) (fun N e => nomatch (show (none : Option Nat) = some N from e)) (fun e => absurd e (by decide)) (fun ir3 => ?_)
  refine e_ldA rfl ?_
  refine e_ldI rfl ?_
  refine And.intro hM.1 (And.intro ⟨by decide, by decide⟩ (x_X8_partnerStops hM (by omega) ir3 (fun ir5 => ?_)))
  refine e_ldA rfl ?_
  refine e_ldI rfl ?_
  refine e_cN 0 rfl ?_
  refine And.intro hM.1 (And.intro ⟨by decide, by decide⟩ (x_X8_goesTo hM (by omega) ir5 (fun ir7 => ?_)))
  refine e_ldA rfl ?_
  refine e_gR hM.1 (hM.2.1 14 (by decide)).1 ?_
  refine e_ldI rfl ?_
  refine e_cN 0 rfl ?_
  refine e_mB (N := 16) (k := 14) hM ir7 (by decide) (kdA (k := 14) hM (by decide) rfl) (lnA (k := 14) hM (by decide) rfl) (by omega) (by decide) (Or.inl rfl) (fun N e => nomatch (show (none : Option Nat) = some N from e)) (fun e => absurd e (by decide)) (fun ir9 => ?_)
  refine e_ldA rfl ?_
  refine e_gR hM.1 (hM.2.1 21 (by decide)).1 ?_
  refine e_ldI rfl ?_
  refine e_cI ?_
  refine e_mA (N := 16) (k := 21) hM ir9 (by decide) (kdA (k := 21) hM (by decide) rfl) (lnA (k := 21) hM (by decide) rfl) (by omega) (by decide) (fun N e => nomatch (show (none : Option Nat) = some N from e)) (fun e => absurd e (by decide)) (fun ir11 => ?_)
  exact e_rV (K ir11)
theorem nm_X8_isLitNow {I : Nat → Nat → Int32} {m : Nat} {A : Nat → Nat} {x : Nat} {z : Nat} (hz : ∀ k ∈ ([7, 8, 9, 14, 18, 21, 40] : List Nat), z ≠ A k) : (f_X8_isLitNow I m A x) z = I z := by
  simp only [f_X8_isLitNow]
  repeat' split
  all_goals simp only [up2_row (hz 7 (by decide)), up2_row (hz 8 (by decide)), up2_row (hz 9 (by decide)), up2_row (hz 14 (by decide)), up2_row (hz 18 (by decide)), up2_row (hz 21 (by decide)), up2_row (hz 40 (by decide)), nm_X8_partnerStops (fun k hk => hz k (mem_sub k hk (by decide))), nm_X8_goesTo (fun k hk => hz k (mem_sub k hk (by decide)))]
def f_X8_isDarkNow (I : Nat → Nat → Int32) (m : Nat) (A : Nat → Nat) (x : Nat) : Nat → Nat → Int32 := let I2 := up2 I (A 7) x (nI 0); let I4 := up2 I2 (A 8) x (nI 0); let I6 := f_X8_goesTo I4 m A x (nI 0); let I8 := f_X8_forgets I6 m A x; let I10 := up2 I8 (A 12) x (-1 : Int32); let I12 := up2 I10 (A 13) x (nI 0); let I14 := up2 I12 (A 14) x (nI 0); let I16 := up2 I14 (A 21) x (-1 : Int32); I16
theorem x_X8_isDarkNow {Q : Option Value → MM → Prop} {S : MM} {m : Nat} {A : Nat → Nat} {x : Nat} (hM : MS S m A) (hx : x < 16) (ir : IM S m A)   (K : KVM m A Q S (f_X8_isDarkNow (sI S) m A x)) : wX8_isDarkNow [.ref m, .int (nI x)] S Q := by
  unfold f_X8_isDarkNow at K
  refine Exists.intro 1 (u_X8_isDarkNow_0 ?_)
  unfold bX8_isDarkNow_0
  refine e_ldA rfl ?_
  refine e_gR hM.1 (hM.2.1 7 (by decide)).1 ?_
  refine e_ldI rfl ?_
  refine e_cN 0 rfl ?_
  refine e_mA (N := 16) (k := 7) hM ir (by decide) (kdA (k := 7) hM (by decide) rfl) (lnA (k := 7) hM (by decide) rfl) (by omega) (by decide) (fun N e => nomatch (show (none : Option Nat) = some N from e)) (fun e => absurd e (by decide)) (fun ir1 => ?_)
  refine e_ldA rfl ?_
  refine e_gR hM.1 (hM.2.1 8 (by decide)).1 ?_
  refine e_ldI rfl ?_
  refine e_cN 0 rfl ?_
  refine e_mA (N := 16) (k := 8) hM ir1 (by decide) (kdA (k := 8) hM (by decide) rfl) (lnA (k := 8) hM (by decide) rfl) (by omega) (by decide) (fun N e => nomatch (show (none : Option Nat) = some N from e)) (fun e => absurd e (by decide)) (fun ir3 => ?_)
  refine e_ldA rfl ?_
  refine e_ldI rfl ?_
  refine e_cN 0 rfl ?_
  refine And.intro hM.1 (And.intro ⟨by decide, by decide⟩ (x_X8_goesTo hM (by omega) ir3 (fun ir5 => ?_)))
  refine e_ldA rfl ?_
  refine e_ldI rfl ?_
  refine And.intro hM.1 (And.intro ⟨by decide, by decide⟩ (x_X8_forgets hM (by omega) ir5 (fun ir7 => ?_)))
  refine e_ldA rfl ?_
  refine e_gR hM.1 (hM.2.1 12 (by decide)).1 ?_
  refine e_ldI rfl ?_
  refine e_cI ?_
  refine e_mA (N := 16) (k := 12) hM ir7 (by decide) (kdA (k := 12) hM (by decide) rfl) (lnA (k := 12) hM (by decide) rfl) (by omega) (by decide) (fun N e => nomatch (show (none : Option Nat) = some N from e)) (fun e => absurd e (by decide)) (fun ir9 => ?_)
  refine e_ldA rfl ?_
  refine e_gR hM.1 (hM.2.1 13 (by decide)).1 ?_
  refine e_ldI rfl ?_
  refine e_cN 0 rfl ?_
  refine e_mB (N := 16) (k := 13) hM ir9 (by decide) (kdA (k := 13) hM (by decide) rfl) (lnA (k := 13) hM (by decide) rfl) (by omega) (by decide) (Or.inl rfl) (fun N e => nomatch (show (none : Option Nat) = some N from e)) (fun e => absurd e (by decide)) (fun ir11 => ?_)
  refine e_ldA rfl ?_
  refine e_gR hM.1 (hM.2.1 14 (by decide)).1 ?_
  refine e_ldI rfl ?_
  refine e_cN 0 rfl ?_
  refine e_mB (N := 16) (k := 14) hM ir11 (by decide) (kdA (k := 14) hM (by decide) rfl) (lnA (k := 14) hM (by decide) rfl) (by omega) (by decide) (Or.inl rfl) (fun N e => nomatch (show (none : Option Nat) = some N from e)) (fun e => absurd e (by decide)) (fun ir13 => ?_)
  refine e_ldA rfl ?_
  refine e_gR hM.1 (hM.2.1 21 (by decide)).1 ?_
  refine e_ldI rfl ?_
  refine e_cI ?_
  refine e_mA (N := 16) (k := 21) hM ir13 (by decide) (kdA (k := 21) hM (by decide) rfl) (lnA (k := 21) hM (by decide) rfl) (by omega) (by decide) (fun N e => nomatch (show (none : Option Nat) = some N from e)) (fun e => absurd e (by decide)) (fun ir15 => ?_)
  exact e_rV (K ir15)
theorem nm_X8_isDarkNow {I : Nat → Nat → Int32} {m : Nat} {A : Nat → Nat} {x : Nat} {z : Nat} (hz : ∀ k ∈ ([7, 8, 9, 12, 13, 14, 18, 21, 40] : List Nat), z ≠ A k) : (f_X8_isDarkNow I m A x) z = I z := by
  simp only [f_X8_isDarkNow]
  repeat' split
  all_goals simp only [up2_row (hz 7 (by decide)), up2_row (hz 8 (by decide)), up2_row (hz 9 (by decide)), up2_row (hz 12 (by decide)), up2_row (hz 13 (by decide)), up2_row (hz 14 (by decide)), up2_row (hz 18 (by decide)), up2_row (hz 21 (by decide)), up2_row (hz 40 (by decide)), nm_X8_goesTo (fun k hk => hz k (mem_sub k hk (by decide))), nm_X8_forgets (fun k hk => hz k (mem_sub k hk (by decide)))]
def f_X8_ages (I : Nat → Nat → Int32) (m : Nat) (A : Nat → Nat) (x : Nat) : Nat → Nat → Int32 := if (I (A 7) x) = (nI 1) then (if (I (A 15) x) = 0 then (let I4 := up2 I (A 8) x ((I (A 8) x) - (nI 1)); if (I4 (A 8) x) ≤ 0 then (if (I4 (A 7) x) = (nI 2) then (let I8 := up2 I4 (A 7) x (nI 1); let I10 := up2 I8 (A 8) x (nI 3); let I12 := f_X8_partnerStops I10 m A x; I12) else (let I14 := up2 I4 (A 7) x (nI 3); let I16 := f_X8_forgets I14 m A x; I16)) else (I4)) else (I)) else (if (I (A 7) x) = (nI 2) then (if (I (A 15) x) = 0 then (let I20 := up2 I (A 8) x ((I (A 8) x) - (nI 1)); if (I20 (A 8) x) ≤ 0 then (if (I20 (A 7) x) = (nI 2) then (let I24 := up2 I20 (A 7) x (nI 1); let I26 := up2 I24 (A 8) x (nI 3); let I28 := f_X8_partnerStops I26 m A x; I28) else (let I30 := up2 I20 (A 7) x (nI 3); let I32 := f_X8_forgets I30 m A x; I32)) else (I20)) else (I)) else (I))
theorem x_X8_ages {Q : Option Value → MM → Prop} {S : MM} {m : Nat} {A : Nat → Nat} {x : Nat} (hM : MS S m A) (hx : x < 16) (ir : IM S m A)   (K : KVM m A Q S (f_X8_ages (sI S) m A x)) : wX8_ages [.ref m, .int (nI x)] S Q := by
  unfold f_X8_ages at K
  refine Exists.intro 6 (u_X8_ages_0 ?_)
  unfold bX8_ages_0
  refine e_ldA rfl ?_
  refine e_gR hM.1 (hM.2.1 7 (by decide)).1 ?_
  refine e_ldI rfl ?_
  refine e_aE (N := 16) (kdA (k := 7) hM (by decide) rfl) (lnA (k := 7) hM (by decide) rfl) (by omega) (by decide) ?_
  refine e_cN 1 rfl ?_
  refine ⟨fun h1 => ?_, fun h1 => ?_⟩
  · replace K := kx_p h1 K
    refine u_X8_ages_20 ?_
    unfold bX8_ages_20
    refine e_ldA rfl ?_
    refine e_gR hM.1 (hM.2.1 15 (by decide)).1 ?_
    refine e_ldI rfl ?_
    refine e_aE (N := 16) (kdA (k := 15) hM (by decide) rfl) (lnA (k := 15) hM (by decide) rfl) (by omega) (by decide) ?_
    refine ⟨fun h2 => ?_, fun h2 => ?_⟩
    · replace K := kx_p h2 K
      refine u_X8_ages_30 ?_
      unfold bX8_ages_30
      refine e_ldA rfl ?_
      refine e_gR hM.1 (hM.2.1 8 (by decide)).1 ?_
      refine e_ldI rfl ?_
      refine e_du2 ?_
      refine e_aE (N := 16) (kdA (k := 8) hM (by decide) rfl) (lnA (k := 8) hM (by decide) rfl) (by omega) (by decide) ?_
      refine e_cN 1 rfl ?_
      refine e_bopE ?_
      refine e_mA (N := 16) (k := 8) hM ir (by decide) (kdA (k := 8) hM (by decide) rfl) (lnA (k := 8) hM (by decide) rfl) (by omega) (by decide) (fun N e => nomatch (show (none : Option Nat) = some N from e)) (fun e => absurd e (by decide)) (fun ir3 => ?_)
      refine e_ldA rfl ?_
      refine e_gR hM.1 (hM.2.1 8 (by decide)).1 ?_
      refine e_ldI rfl ?_
      refine e_aE (N := 16) (kdA (k := 8) hM (by decide) rfl) (lnA (k := 8) hM (by decide) rfl) (by omega) (by decide) ?_
      refine ⟨fun h5 => ?_, fun h5 => ?_⟩
      · replace K := kx_p h5 K
        refine u_X8_ages_50 ?_
        unfold bX8_ages_50
        refine e_ldA rfl ?_
        refine e_gR hM.1 (hM.2.1 7 (by decide)).1 ?_
        refine e_ldI rfl ?_
        refine e_aE (N := 16) (kdA (k := 7) hM (by decide) rfl) (lnA (k := 7) hM (by decide) rfl) (by omega) (by decide) ?_
        refine e_cN 2 rfl ?_
        refine ⟨fun h6 => ?_, fun h6 => ?_⟩
        · replace K := kx_p h6 K
          refine e_ldA rfl ?_
          refine e_gR hM.1 (hM.2.1 7 (by decide)).1 ?_
          refine e_ldI rfl ?_
          refine e_cN 1 rfl ?_
          refine e_mA (N := 16) (k := 7) hM ir3 (by decide) (kdA (k := 7) hM (by decide) rfl) (lnA (k := 7) hM (by decide) rfl) (by omega) (by decide) (fun N e => nomatch (show (none : Option Nat) = some N from e)) (fun e => absurd e (by decide)) (fun ir7 => ?_)
          refine e_ldA rfl ?_
          refine e_gR hM.1 (hM.2.1 8 (by decide)).1 ?_
          refine e_ldI rfl ?_
          refine e_cN 3 rfl ?_
          refine e_mA (N := 16) (k := 8) hM ir7 (by decide) (kdA (k := 8) hM (by decide) rfl) (lnA (k := 8) hM (by decide) rfl) (by omega) (by decide) (fun N e => nomatch (show (none : Option Nat) = some N from e)) (fun e => absurd e (by decide)) (fun ir9 => ?_)
          refine e_ldA rfl ?_
          refine e_ldI rfl ?_
          refine And.intro hM.1 (And.intro ⟨by decide, by decide⟩ (x_X8_partnerStops hM (by omega) ir9 (fun ir11 => ?_)))
          refine u_X8_ages_94 ?_
          unfold bX8_ages_94
          exact e_rV (K ir11)
        · replace K := kx_n h6 K
          refine u_X8_ages_82 ?_
          unfold bX8_ages_82
          refine e_ldA rfl ?_
          refine e_gR hM.1 (hM.2.1 7 (by decide)).1 ?_
          refine e_ldI rfl ?_
          refine e_cN 3 rfl ?_
          refine e_mA (N := 16) (k := 7) hM ir3 (by decide) (kdA (k := 7) hM (by decide) rfl) (lnA (k := 7) hM (by decide) rfl) (by omega) (by decide) (fun N e => nomatch (show (none : Option Nat) = some N from e)) (fun e => absurd e (by decide)) (fun ir13 => ?_)
          refine e_ldA rfl ?_
          refine e_ldI rfl ?_
          refine And.intro hM.1 (And.intro ⟨by decide, by decide⟩ (x_X8_forgets hM (by omega) ir13 (fun ir15 => ?_)))
          refine u_X8_ages_94 ?_
          unfold bX8_ages_94
          exact e_rV (K ir15)
      · replace K := kx_n h5 K
        exact e_rV (K ir3)
    · replace K := kx_n h2 K
      refine u_X8_ages_29 ?_
      unfold bX8_ages_29
      exact e_rV (K ir)
  · replace K := kx_n h1 K
    refine e_ldA rfl ?_
    refine e_gR hM.1 (hM.2.1 7 (by decide)).1 ?_
    refine e_ldI rfl ?_
    refine e_aE (N := 16) (kdA (k := 7) hM (by decide) rfl) (lnA (k := 7) hM (by decide) rfl) (by omega) (by decide) ?_
    refine e_cN 2 rfl ?_
    refine ⟨fun h17 => ?_, fun h17 => ?_⟩
    · replace K := kx_p h17 K
      refine u_X8_ages_20 ?_
      unfold bX8_ages_20
      refine e_ldA rfl ?_
      refine e_gR hM.1 (hM.2.1 15 (by decide)).1 ?_
      refine e_ldI rfl ?_
      refine e_aE (N := 16) (kdA (k := 15) hM (by decide) rfl) (lnA (k := 15) hM (by decide) rfl) (by omega) (by decide) ?_
      refine ⟨fun h18 => ?_, fun h18 => ?_⟩
      · replace K := kx_p h18 K
        refine u_X8_ages_30 ?_
        unfold bX8_ages_30
        refine e_ldA rfl ?_
        refine e_gR hM.1 (hM.2.1 8 (by decide)).1 ?_
        refine e_ldI rfl ?_
        refine e_du2 ?_
        refine e_aE (N := 16) (kdA (k := 8) hM (by decide) rfl) (lnA (k := 8) hM (by decide) rfl) (by omega) (by decide) ?_
        refine e_cN 1 rfl ?_
        refine e_bopE ?_
        refine e_mA (N := 16) (k := 8) hM ir (by decide) (kdA (k := 8) hM (by decide) rfl) (lnA (k := 8) hM (by decide) rfl) (by omega) (by decide) (fun N e => nomatch (show (none : Option Nat) = some N from e)) (fun e => absurd e (by decide)) (fun ir19 => ?_)
        refine e_ldA rfl ?_
        refine e_gR hM.1 (hM.2.1 8 (by decide)).1 ?_
        refine e_ldI rfl ?_
        refine e_aE (N := 16) (kdA (k := 8) hM (by decide) rfl) (lnA (k := 8) hM (by decide) rfl) (by omega) (by decide) ?_
        refine ⟨fun h21 => ?_, fun h21 => ?_⟩
        · replace K := kx_p h21 K
          refine u_X8_ages_50 ?_
          unfold bX8_ages_50
          refine e_ldA rfl ?_
          refine e_gR hM.1 (hM.2.1 7 (by decide)).1 ?_
          refine e_ldI rfl ?_
          refine e_aE (N := 16) (kdA (k := 7) hM (by decide) rfl) (lnA (k := 7) hM (by decide) rfl) (by omega) (by decide) ?_
          refine e_cN 2 rfl ?_
          refine ⟨fun h22 => ?_, fun h22 => ?_⟩
          · replace K := kx_p h22 K
            refine e_ldA rfl ?_
            refine e_gR hM.1 (hM.2.1 7 (by decide)).1 ?_
            refine e_ldI rfl ?_
            refine e_cN 1 rfl ?_
            refine e_mA (N := 16) (k := 7) hM ir19 (by decide) (kdA (k := 7) hM (by decide) rfl) (lnA (k := 7) hM (by decide) rfl) (by omega) (by decide) (fun N e => nomatch (show (none : Option Nat) = some N from e)) (fun e => absurd e (by decide)) (fun ir23 => ?_)
            refine e_ldA rfl ?_
            refine e_gR hM.1 (hM.2.1 8 (by decide)).1 ?_
            refine e_ldI rfl ?_
            refine e_cN 3 rfl ?_
            refine e_mA (N := 16) (k := 8) hM ir23 (by decide) (kdA (k := 8) hM (by decide) rfl) (lnA (k := 8) hM (by decide) rfl) (by omega) (by decide) (fun N e => nomatch (show (none : Option Nat) = some N from e)) (fun e => absurd e (by decide)) (fun ir25 => ?_)
            refine e_ldA rfl ?_
            refine e_ldI rfl ?_
            refine And.intro hM.1 (And.intro ⟨by decide, by decide⟩ (x_X8_partnerStops hM (by omega) ir25 (fun ir27 => ?_)))
            refine u_X8_ages_94 ?_
            unfold bX8_ages_94
            exact e_rV (K ir27)
          · replace K := kx_n h22 K
            refine u_X8_ages_82 ?_
            unfold bX8_ages_82
            refine e_ldA rfl ?_
            refine e_gR hM.1 (hM.2.1 7 (by decide)).1 ?_
            refine e_ldI rfl ?_
            refine e_cN 3 rfl ?_
            refine e_mA (N := 16) (k := 7) hM ir19 (by decide) (kdA (k := 7) hM (by decide) rfl) (lnA (k := 7) hM (by decide) rfl) (by omega) (by decide) (fun N e => nomatch (show (none : Option Nat) = some N from e)) (fun e => absurd e (by decide)) (fun ir29 => ?_)
            refine e_ldA rfl ?_
            refine e_ldI rfl ?_
            refine And.intro hM.1 (And.intro ⟨by decide, by decide⟩ (x_X8_forgets hM (by omega) ir29 (fun ir31 => ?_)))
            refine u_X8_ages_94 ?_
            unfold bX8_ages_94
            exact e_rV (K ir31)
        · replace K := kx_n h21 K
          exact e_rV (K ir19)
      · replace K := kx_n h18 K
        refine u_X8_ages_29 ?_
        unfold bX8_ages_29
        exact e_rV (K ir)
    · replace K := kx_n h17 K
      refine u_X8_ages_29 ?_
      unfold bX8_ages_29
      exact e_rV (K ir)
theorem nm_X8_ages {I : Nat → Nat → Int32} {m : Nat} {A : Nat → Nat} {x : Nat} {z : Nat} (hz : ∀ k ∈ ([7, 8, 18] : List Nat), z ≠ A k) : (f_X8_ages I m A x) z = I z := by
  simp only [f_X8_ages]
  repeat' split
  all_goals simp only [up2_row (hz 7 (by decide)), up2_row (hz 8 (by decide)), up2_row (hz 18 (by decide)), nm_X8_partnerStops (fun k hk => hz k (mem_sub k hk (by decide))), nm_X8_forgets (fun k hk => hz k (mem_sub k hk (by decide)))]
def f_X8_fits (I : Nat → Nat → Int32) (m : Nat) (A : Nat → Nat) (x : Nat) : Int32 := if (I (A 7) x) = (nI 1) then (if (I (A 3) x) ≤ 0 then ((nI 0)) else (if (I (A 18) (5 * x)) ≤ 0 then ((nI 0)) else (if (I (A 18) ((5 * x) + 1)) ≤ 0 then ((nI 0)) else (if (f_X8_isPartner I m A x (nI 4)) = 0 then ((nI 0)) else ((nI 1)))))) else (if (I (A 7) x) = (nI 2) then (if (I (A 3) x) ≤ 0 then ((nI 0)) else (if (I (A 18) (5 * x)) ≤ 0 then ((nI 0)) else (if (I (A 18) ((5 * x) + 1)) ≤ 0 then ((nI 0)) else (if (f_X8_isPartner I m A x (nI 4)) = 0 then ((nI 0)) else ((nI 1)))))) else ((nI 0)))
theorem x_X8_fits {Q : Option Value → MM → Prop} {S : MM} {m : Nat} {A : Nat → Nat} {x : Nat} (hM : MS S m A) (hx : x < 16) (ir : IM S m A)   (K : KP Q S (f_X8_fits (sI S) m A x)) : wX8_fits [.ref m, .int (nI x)] S Q := by
  unfold f_X8_fits at K
  refine Exists.intro 4 (u_X8_fits_0 ?_)
  unfold bX8_fits_0
  refine e_ldA rfl ?_
  refine e_gR hM.1 (hM.2.1 7 (by decide)).1 ?_
  refine e_ldI rfl ?_
  refine e_aE (N := 16) (kdA (k := 7) hM (by decide) rfl) (lnA (k := 7) hM (by decide) rfl) (by omega) (by decide) ?_
  refine e_cN 1 rfl ?_
  refine ⟨fun h1 => ?_, fun h1 => ?_⟩
  · replace K := kx_p h1 K
    refine u_X8_fits_20 ?_
    unfold bX8_fits_20
    refine e_ldA rfl ?_
    refine e_gR hM.1 (hM.2.1 3 (by decide)).1 ?_
    refine e_ldI rfl ?_
    refine e_aE (N := 16) (kdA (k := 3) hM (by decide) rfl) (lnA (k := 3) hM (by decide) rfl) (by omega) (by decide) ?_
    refine ⟨fun h2 => ?_, fun h2 => ?_⟩
    · replace K := kx_p h2 K
      refine u_X8_fits_66 ?_
      unfold bX8_fits_66
      refine e_cN 0 rfl ?_
      refine u_X8_fits_67 ?_
      unfold bX8_fits_67
      exact And.intro (Or.inl rfl) K
    · replace K := kx_n h2 K
      refine e_ldA rfl ?_
      refine e_gR hM.1 (hM.2.1 18 (by decide)).1 ?_
      refine e_cN 5 rfl ?_
      refine e_ldI rfl ?_
      refine e_mul ?_
      refine e_aE (N := 80) (kdA (k := 18) hM (by decide) rfl) (lnA (k := 18) hM (by decide) rfl) (by omega) (by decide) ?_
      refine ⟨fun h3 => ?_, fun h3 => ?_⟩
      · replace K := kx_p h3 K
        refine u_X8_fits_66 ?_
        unfold bX8_fits_66
        refine e_cN 0 rfl ?_
        refine u_X8_fits_67 ?_
        unfold bX8_fits_67
        exact And.intro (Or.inl rfl) K
      · replace K := kx_n h3 K
        refine e_ldA rfl ?_
        refine e_gR hM.1 (hM.2.1 18 (by decide)).1 ?_
        refine e_cN 5 rfl ?_
        refine e_ldI rfl ?_
        refine e_mul ?_
        refine e_cN 1 rfl ?_
        refine e_add ?_
        refine e_aE (N := 80) (kdA (k := 18) hM (by decide) rfl) (lnA (k := 18) hM (by decide) rfl) (by omega) (by decide) ?_
        refine ⟨fun h4 => ?_, fun h4 => ?_⟩
        · replace K := kx_p h4 K
          refine u_X8_fits_66 ?_
          unfold bX8_fits_66
          refine e_cN 0 rfl ?_
          refine u_X8_fits_67 ?_
          unfold bX8_fits_67
          exact And.intro (Or.inl rfl) K
        · replace K := kx_n h4 K
          refine e_ldA rfl ?_
          refine e_ldI rfl ?_
          refine e_cN 4 rfl ?_
          refine And.intro hM.1 (And.intro ⟨by decide, by decide⟩ (x_X8_isPartner hM (by omega) ir (KP_i ?_)))
          refine ⟨fun h5 => ?_, fun h5 => ?_⟩
          · replace K := kx_p h5 K
            refine u_X8_fits_66 ?_
            unfold bX8_fits_66
            refine e_cN 0 rfl ?_
            refine u_X8_fits_67 ?_
            unfold bX8_fits_67
            exact And.intro (Or.inl rfl) K
          · replace K := kx_n h5 K
            refine e_cN 1 rfl ?_
            refine u_X8_fits_67 ?_
            unfold bX8_fits_67
            exact And.intro (Or.inr rfl) K
  · replace K := kx_n h1 K
    refine e_ldA rfl ?_
    refine e_gR hM.1 (hM.2.1 7 (by decide)).1 ?_
    refine e_ldI rfl ?_
    refine e_aE (N := 16) (kdA (k := 7) hM (by decide) rfl) (lnA (k := 7) hM (by decide) rfl) (by omega) (by decide) ?_
    refine e_cN 2 rfl ?_
    refine ⟨fun h6 => ?_, fun h6 => ?_⟩
    · replace K := kx_p h6 K
      refine u_X8_fits_20 ?_
      unfold bX8_fits_20
      refine e_ldA rfl ?_
      refine e_gR hM.1 (hM.2.1 3 (by decide)).1 ?_
      refine e_ldI rfl ?_
      refine e_aE (N := 16) (kdA (k := 3) hM (by decide) rfl) (lnA (k := 3) hM (by decide) rfl) (by omega) (by decide) ?_
      refine ⟨fun h7 => ?_, fun h7 => ?_⟩
      · replace K := kx_p h7 K
        refine u_X8_fits_66 ?_
        unfold bX8_fits_66
        refine e_cN 0 rfl ?_
        refine u_X8_fits_67 ?_
        unfold bX8_fits_67
        exact And.intro (Or.inl rfl) K
      · replace K := kx_n h7 K
        refine e_ldA rfl ?_
        refine e_gR hM.1 (hM.2.1 18 (by decide)).1 ?_
        refine e_cN 5 rfl ?_
        refine e_ldI rfl ?_
        refine e_mul ?_
        refine e_aE (N := 80) (kdA (k := 18) hM (by decide) rfl) (lnA (k := 18) hM (by decide) rfl) (by omega) (by decide) ?_
        refine ⟨fun h8 => ?_, fun h8 => ?_⟩
        · replace K := kx_p h8 K
          refine u_X8_fits_66 ?_
          unfold bX8_fits_66
          refine e_cN 0 rfl ?_
          refine u_X8_fits_67 ?_
          unfold bX8_fits_67
          exact And.intro (Or.inl rfl) K
        · replace K := kx_n h8 K
          refine e_ldA rfl ?_
          refine e_gR hM.1 (hM.2.1 18 (by decide)).1 ?_
          refine e_cN 5 rfl ?_
          refine e_ldI rfl ?_
          refine e_mul ?_
          refine e_cN 1 rfl ?_
          refine e_add ?_
          refine e_aE (N := 80) (kdA (k := 18) hM (by decide) rfl) (lnA (k := 18) hM (by decide) rfl) (by omega) (by decide) ?_
          refine ⟨fun h9 => ?_, fun h9 => ?_⟩
          · replace K := kx_p h9 K
            refine u_X8_fits_66 ?_
            unfold bX8_fits_66
            refine e_cN 0 rfl ?_
            refine u_X8_fits_67 ?_
            unfold bX8_fits_67
            exact And.intro (Or.inl rfl) K
          · replace K := kx_n h9 K
            refine e_ldA rfl ?_
            refine e_ldI rfl ?_
            refine e_cN 4 rfl ?_
            refine And.intro hM.1 (And.intro ⟨by decide, by decide⟩ (x_X8_isPartner hM (by omega) ir (KP_i ?_)))
            refine ⟨fun h10 => ?_, fun h10 => ?_⟩
            · replace K := kx_p h10 K
              refine u_X8_fits_66 ?_
              unfold bX8_fits_66
              refine e_cN 0 rfl ?_
              refine u_X8_fits_67 ?_
              unfold bX8_fits_67
              exact And.intro (Or.inl rfl) K
            · replace K := kx_n h10 K
              refine e_cN 1 rfl ?_
              refine u_X8_fits_67 ?_
              unfold bX8_fits_67
              exact And.intro (Or.inr rfl) K
    · replace K := kx_n h6 K
      refine u_X8_fits_66 ?_
      unfold bX8_fits_66
      refine e_cN 0 rfl ?_
      refine u_X8_fits_67 ?_
      unfold bX8_fits_67
      exact And.intro (Or.inl rfl) K
def f_X8_areLike (I : Nat → Nat → Int32) (m : Nat) (A : Nat → Nat) (x : Nat) (y : Nat) : Int32 := if (I (A 3) x) = (I (A 3) y) then (if (I (A 18) (5 * x)) = (I (A 18) (5 * y)) then (if (I (A 18) ((5 * x) + 1)) = (I (A 18) ((5 * y) + 1)) then ((nI 1)) else ((nI 0))) else ((nI 0))) else ((nI 0))
theorem x_X8_areLike {Q : Option Value → MM → Prop} {S : MM} {m : Nat} {A : Nat → Nat} {x : Nat} {y : Nat} (hM : MS S m A) (hx : x < 16) (hy : y < 16) (ir : IM S m A)   (K : KP Q S (f_X8_areLike (sI S) m A x y)) : wX8_areLike [.ref m, .int (nI x), .int (nI y)] S Q := by
  unfold f_X8_areLike at K
  refine Exists.intro 3 (u_X8_areLike_0 ?_)
  unfold bX8_areLike_0
  refine e_ldA rfl ?_
  refine e_gR hM.1 (hM.2.1 3 (by decide)).1 ?_
  refine e_ldI rfl ?_
  refine e_aE (N := 16) (kdA (k := 3) hM (by decide) rfl) (lnA (k := 3) hM (by decide) rfl) (by omega) (by decide) ?_
  refine e_ldA rfl ?_
  refine e_gR hM.1 (hM.2.1 3 (by decide)).1 ?_
  refine e_ldI rfl ?_
  refine e_aE (N := 16) (kdA (k := 3) hM (by decide) rfl) (lnA (k := 3) hM (by decide) rfl) (by omega) (by decide) ?_
  refine ⟨fun h1 => ?_, fun h1 => ?_⟩
  · replace K := kx_p h1 K
    refine e_ldA rfl ?_
    refine e_gR hM.1 (hM.2.1 18 (by decide)).1 ?_
    refine e_cN 5 rfl ?_
    refine e_ldI rfl ?_
    refine e_mul ?_
    refine e_aE (N := 80) (kdA (k := 18) hM (by decide) rfl) (lnA (k := 18) hM (by decide) rfl) (by omega) (by decide) ?_
    refine e_ldA rfl ?_
    refine e_gR hM.1 (hM.2.1 18 (by decide)).1 ?_
    refine e_cN 5 rfl ?_
    refine e_ldI rfl ?_
    refine e_mul ?_
    refine e_aE (N := 80) (kdA (k := 18) hM (by decide) rfl) (lnA (k := 18) hM (by decide) rfl) (by omega) (by decide) ?_
    refine ⟨fun h2 => ?_, fun h2 => ?_⟩
    · replace K := kx_p h2 K
      refine e_ldA rfl ?_
      refine e_gR hM.1 (hM.2.1 18 (by decide)).1 ?_
      refine e_cN 5 rfl ?_
      refine e_ldI rfl ?_
      refine e_mul ?_
      refine e_cN 1 rfl ?_
      refine e_add ?_
      refine e_aE (N := 80) (kdA (k := 18) hM (by decide) rfl) (lnA (k := 18) hM (by decide) rfl) (by omega) (by decide) ?_
      refine e_ldA rfl ?_
      refine e_gR hM.1 (hM.2.1 18 (by decide)).1 ?_
      refine e_cN 5 rfl ?_
      refine e_ldI rfl ?_
      refine e_mul ?_
      refine e_cN 1 rfl ?_
      refine e_add ?_
      refine e_aE (N := 80) (kdA (k := 18) hM (by decide) rfl) (lnA (k := 18) hM (by decide) rfl) (by omega) (by decide) ?_
      refine ⟨fun h3 => ?_, fun h3 => ?_⟩
      · replace K := kx_p h3 K
        refine e_cN 1 rfl ?_
        refine u_X8_areLike_62 ?_
        unfold bX8_areLike_62
        exact And.intro (Or.inr rfl) K
      · replace K := kx_n h3 K
        refine u_X8_areLike_61 ?_
        unfold bX8_areLike_61
        refine e_cN 0 rfl ?_
        refine u_X8_areLike_62 ?_
        unfold bX8_areLike_62
        exact And.intro (Or.inl rfl) K
    · replace K := kx_n h2 K
      refine u_X8_areLike_61 ?_
      unfold bX8_areLike_61
      refine e_cN 0 rfl ?_
      refine u_X8_areLike_62 ?_
      unfold bX8_areLike_62
      exact And.intro (Or.inl rfl) K
  · replace K := kx_n h1 K
    refine u_X8_areLike_61 ?_
    unfold bX8_areLike_61
    refine e_cN 0 rfl ?_
    refine u_X8_areLike_62 ?_
    unfold bX8_areLike_62
    exact And.intro (Or.inl rfl) K
def f_X8_isAhead (I : Nat → Nat → Int32) (m : Nat) (A : Nat → Nat) (x : Nat) (y : Nat) : Int32 := if (x / 8) = (f_X8_stronger I m A) then (if (I (A 4) x) = (I (A 4) y) then (if x = y then (if y ≤ x then ((nI 0)) else ((nI 1))) else (if y ≤ x then ((nI 0)) else ((nI 1)))) else (if (I (A 4) y) ≤ (I (A 4) x) then ((nI 0)) else ((nI 1)))) else (if (I (A 18) ((5 * x) + 2)) = (I (A 18) ((5 * y) + 2)) then (if (I (A 18) ((5 * x) + 3)) = (I (A 18) ((5 * y) + 3)) then (if y ≤ x then ((nI 0)) else ((nI 1))) else (if (I (A 18) ((5 * y) + 3)) ≤ (I (A 18) ((5 * x) + 3)) then ((nI 0)) else ((nI 1)))) else (if (I (A 18) ((5 * y) + 2)) ≤ (I (A 18) ((5 * x) + 2)) then ((nI 0)) else ((nI 1))))
theorem x_X8_isAhead {Q : Option Value → MM → Prop} {S : MM} {m : Nat} {A : Nat → Nat} {x : Nat} {y : Nat} (hM : MS S m A) (hx : x < 16) (hy : y < 16) (ir : IM S m A)   (K : KP Q S (f_X8_isAhead (sI S) m A x y)) : wX8_isAhead [.ref m, .int (nI x), .int (nI y)] S Q := by
  unfold f_X8_isAhead at K
  refine Exists.intro 15 (u_X8_isAhead_0 ?_)
  unfold bX8_isAhead_0
  refine e_ldI rfl ?_
  refine e_cN 8 rfl ?_
  refine e_div (by omega) (by decide) (by decide) ?_
  refine e_ldA rfl ?_
  refine And.intro hM.1 (And.intro ⟨by decide, by decide⟩ (x_X8_stronger hM ir (fun hb1 => ?_)))
  refine e_eq (by omega) (by omega) (fun h2 => ?_) (fun h2 => ?_)
  · replace K := kx_p h2 K
    refine e_cN 1 rfl ?_
    refine u_X8_isAhead_16 ?_
    unfold bX8_isAhead_16
    refine e_stI ?_
    refine e_ldI lvg_self ?_
    refine ⟨fun z => absurd z (by decide), fun _ => ?_⟩
    refine e_ldA (lvg_ne rfl rfl (by decide)) ?_
    refine e_gR hM.1 (hM.2.1 4 (by decide)).1 ?_
    refine e_ldI (lvg_ne rfl rfl (by decide)) ?_
    refine e_aE (N := 16) (kdA (k := 4) hM (by decide) rfl) (lnA (k := 4) hM (by decide) rfl) (by omega) (by decide) ?_
    refine u_X8_isAhead_40 ?_
    unfold bX8_isAhead_40
    refine e_stI ?_
    refine e_ldI (lvg_ne lvg_self rfl (by decide)) ?_
    refine ⟨fun z => absurd z (by decide), fun _ => ?_⟩
    refine e_ldA (lvg_ne (lvg_ne rfl rfl (by decide)) rfl (by decide)) ?_
    refine e_gR hM.1 (hM.2.1 4 (by decide)).1 ?_
    refine e_ldI (lvg_ne (lvg_ne rfl rfl (by decide)) rfl (by decide)) ?_
    refine e_aE (N := 16) (kdA (k := 4) hM (by decide) rfl) (lnA (k := 4) hM (by decide) rfl) (by omega) (by decide) ?_
    refine u_X8_isAhead_65 ?_
    unfold bX8_isAhead_65
    refine e_stI ?_
    refine e_ldI (lvg_ne (lvg_ne lvg_self rfl (by decide)) rfl (by decide)) ?_
    refine ⟨fun z => absurd z (by decide), fun _ => ?_⟩
    refine e_ldI (lvg_ne (lvg_ne (lvg_ne rfl rfl (by decide)) rfl (by decide)) rfl (by decide)) ?_
    refine u_X8_isAhead_85 ?_
    unfold bX8_isAhead_85
    refine e_stI ?_
    refine e_ldI (lvg_ne (lvg_ne (lvg_ne lvg_self rfl (by decide)) rfl (by decide)) rfl (by decide)) ?_
    refine ⟨fun z => absurd z (by decide), fun _ => ?_⟩
    refine e_ldI (lvg_ne (lvg_ne (lvg_ne (lvg_ne rfl rfl (by decide)) rfl (by decide)) rfl (by decide)) rfl (by decide)) ?_
    refine u_X8_isAhead_105 ?_
    unfold bX8_isAhead_105
    refine e_stI ?_
    refine e_ldI (lvg_ne (lvg_ne (lvg_ne lvg_self rfl (by decide)) rfl (by decide)) rfl (by decide)) ?_
    refine e_ldI (lvg_ne (lvg_ne lvg_self rfl (by decide)) rfl (by decide)) ?_
    refine ⟨fun h3 => ?_, fun h3 => ?_⟩
    · replace K := kx_p h3 K
      refine u_X8_isAhead_129 ?_
      unfold bX8_isAhead_129
      refine e_ldI (lvg_ne lvg_self rfl (by decide)) ?_
      refine e_ldI lvg_self ?_
      refine e_eq (by omega) (by omega) (fun h4 => ?_) (fun h4 => ?_)
      · replace K := kx_p h4 K
        refine u_X8_isAhead_151 ?_
        unfold bX8_isAhead_151
        refine e_ldI (lvg_ne (lvg_ne (lvg_ne (lvg_ne (lvg_ne rfl rfl (by decide)) rfl (by decide)) rfl (by decide)) rfl (by decide)) rfl (by decide)) ?_
        refine e_ldI (lvg_ne (lvg_ne (lvg_ne (lvg_ne (lvg_ne rfl rfl (by decide)) rfl (by decide)) rfl (by decide)) rfl (by decide)) rfl (by decide)) ?_
        refine e_ge (by omega) (by omega) (fun h5 => ?_) (fun h5 => ?_)
        · replace K := kx_p h5 K
          refine u_X8_isAhead_160 ?_
          unfold bX8_isAhead_160
          refine e_cN 0 rfl ?_
          refine u_X8_isAhead_161 ?_
          unfold bX8_isAhead_161
          exact And.intro (Or.inl rfl) K
        · replace K := kx_n (by omega) K
          refine e_cN 1 rfl ?_
          refine u_X8_isAhead_161 ?_
          unfold bX8_isAhead_161
          exact And.intro (Or.inr rfl) K
      · replace K := kx_n (by omega) K
        refine e_ldI (lvg_ne lvg_self rfl (by decide)) ?_
        refine e_ldI lvg_self ?_
        refine e_ge (by omega) (by omega) (fun h6 => ?_) (fun h6 => ?_)
        · replace K := kx_p h6 K
          refine u_X8_isAhead_147 ?_
          unfold bX8_isAhead_147
          refine e_cN 0 rfl ?_
          refine u_X8_isAhead_161 ?_
          unfold bX8_isAhead_161
          exact And.intro (Or.inl rfl) K
        · replace K := kx_n (by omega) K
          refine e_cN 1 rfl ?_
          refine u_X8_isAhead_161 ?_
          unfold bX8_isAhead_161
          exact And.intro (Or.inr rfl) K
    · replace K := kx_n h3 K
      refine e_ldI (lvg_ne (lvg_ne (lvg_ne lvg_self rfl (by decide)) rfl (by decide)) rfl (by decide)) ?_
      refine e_ldI (lvg_ne (lvg_ne lvg_self rfl (by decide)) rfl (by decide)) ?_
      refine ⟨fun h7 => ?_, fun h7 => ?_⟩
      · replace K := kx_p h7 K
        refine u_X8_isAhead_125 ?_
        unfold bX8_isAhead_125
        refine e_cN 0 rfl ?_
        refine u_X8_isAhead_161 ?_
        unfold bX8_isAhead_161
        exact And.intro (Or.inl rfl) K
      · replace K := kx_n h7 K
        refine e_cN 1 rfl ?_
        refine u_X8_isAhead_161 ?_
        unfold bX8_isAhead_161
        exact And.intro (Or.inr rfl) K
  · replace K := kx_n (by omega) K
    refine u_X8_isAhead_15 ?_
    unfold bX8_isAhead_15
    refine e_cN 0 rfl ?_
    refine u_X8_isAhead_16 ?_
    unfold bX8_isAhead_16
    refine e_stI ?_
    refine e_ldI lvg_self ?_
    refine ⟨fun _ => ?_, fun z => absurd (by decide) z⟩
    refine u_X8_isAhead_30 ?_
    unfold bX8_isAhead_30
    refine e_ldA (lvg_ne rfl rfl (by decide)) ?_
    refine e_gR hM.1 (hM.2.1 18 (by decide)).1 ?_
    refine e_cN 5 rfl ?_
    refine e_ldI (lvg_ne rfl rfl (by decide)) ?_
    refine e_mul ?_
    refine e_cN 2 rfl ?_
    refine e_add ?_
    refine e_aE (N := 80) (kdA (k := 18) hM (by decide) rfl) (lnA (k := 18) hM (by decide) rfl) (by omega) (by decide) ?_
    refine u_X8_isAhead_40 ?_
    unfold bX8_isAhead_40
    refine e_stI ?_
    refine e_ldI (lvg_ne lvg_self rfl (by decide)) ?_
    refine ⟨fun _ => ?_, fun z => absurd (by decide) z⟩
    refine u_X8_isAhead_55 ?_
    unfold bX8_isAhead_55
    refine e_ldA (lvg_ne (lvg_ne rfl rfl (by decide)) rfl (by decide)) ?_
    refine e_gR hM.1 (hM.2.1 18 (by decide)).1 ?_
    refine e_cN 5 rfl ?_
    refine e_ldI (lvg_ne (lvg_ne rfl rfl (by decide)) rfl (by decide)) ?_
    refine e_mul ?_
    refine e_cN 2 rfl ?_
    refine e_add ?_
    refine e_aE (N := 80) (kdA (k := 18) hM (by decide) rfl) (lnA (k := 18) hM (by decide) rfl) (by omega) (by decide) ?_
    refine u_X8_isAhead_65 ?_
    unfold bX8_isAhead_65
    refine e_stI ?_
    refine e_ldI (lvg_ne (lvg_ne lvg_self rfl (by decide)) rfl (by decide)) ?_
    refine ⟨fun _ => ?_, fun z => absurd (by decide) z⟩
    refine u_X8_isAhead_75 ?_
    unfold bX8_isAhead_75
    refine e_ldA (lvg_ne (lvg_ne (lvg_ne rfl rfl (by decide)) rfl (by decide)) rfl (by decide)) ?_
    refine e_gR hM.1 (hM.2.1 18 (by decide)).1 ?_
    refine e_cN 5 rfl ?_
    refine e_ldI (lvg_ne (lvg_ne (lvg_ne rfl rfl (by decide)) rfl (by decide)) rfl (by decide)) ?_
    refine e_mul ?_
    refine e_cN 3 rfl ?_
    refine e_add ?_
    refine e_aE (N := 80) (kdA (k := 18) hM (by decide) rfl) (lnA (k := 18) hM (by decide) rfl) (by omega) (by decide) ?_
    refine u_X8_isAhead_85 ?_
    unfold bX8_isAhead_85
    refine e_stI ?_
    refine e_ldI (lvg_ne (lvg_ne (lvg_ne lvg_self rfl (by decide)) rfl (by decide)) rfl (by decide)) ?_
    refine ⟨fun _ => ?_, fun z => absurd (by decide) z⟩
    refine u_X8_isAhead_95 ?_
    unfold bX8_isAhead_95
    refine e_ldA (lvg_ne (lvg_ne (lvg_ne (lvg_ne rfl rfl (by decide)) rfl (by decide)) rfl (by decide)) rfl (by decide)) ?_
    refine e_gR hM.1 (hM.2.1 18 (by decide)).1 ?_
    refine e_cN 5 rfl ?_
    refine e_ldI (lvg_ne (lvg_ne (lvg_ne (lvg_ne rfl rfl (by decide)) rfl (by decide)) rfl (by decide)) rfl (by decide)) ?_
    refine e_mul ?_
    refine e_cN 3 rfl ?_
    refine e_add ?_
    refine e_aE (N := 80) (kdA (k := 18) hM (by decide) rfl) (lnA (k := 18) hM (by decide) rfl) (by omega) (by decide) ?_
    refine u_X8_isAhead_105 ?_
    unfold bX8_isAhead_105
    refine e_stI ?_
    refine e_ldI (lvg_ne (lvg_ne (lvg_ne lvg_self rfl (by decide)) rfl (by decide)) rfl (by decide)) ?_
    refine e_ldI (lvg_ne (lvg_ne lvg_self rfl (by decide)) rfl (by decide)) ?_
    refine ⟨fun h8 => ?_, fun h8 => ?_⟩
    · replace K := kx_p h8 K
      refine u_X8_isAhead_129 ?_
      unfold bX8_isAhead_129
      refine e_ldI (lvg_ne lvg_self rfl (by decide)) ?_
      refine e_ldI lvg_self ?_
      refine ⟨fun h9 => ?_, fun h9 => ?_⟩
      · replace K := kx_p h9 K
        refine u_X8_isAhead_151 ?_
        unfold bX8_isAhead_151
        refine e_ldI (lvg_ne (lvg_ne (lvg_ne (lvg_ne (lvg_ne rfl rfl (by decide)) rfl (by decide)) rfl (by decide)) rfl (by decide)) rfl (by decide)) ?_
        refine e_ldI (lvg_ne (lvg_ne (lvg_ne (lvg_ne (lvg_ne rfl rfl (by decide)) rfl (by decide)) rfl (by decide)) rfl (by decide)) rfl (by decide)) ?_
        refine e_ge (by omega) (by omega) (fun h10 => ?_) (fun h10 => ?_)
        · replace K := kx_p h10 K
          refine u_X8_isAhead_160 ?_
          unfold bX8_isAhead_160
          refine e_cN 0 rfl ?_
          refine u_X8_isAhead_161 ?_
          unfold bX8_isAhead_161
          exact And.intro (Or.inl rfl) K
        · replace K := kx_n (by omega) K
          refine e_cN 1 rfl ?_
          refine u_X8_isAhead_161 ?_
          unfold bX8_isAhead_161
          exact And.intro (Or.inr rfl) K
      · replace K := kx_n h9 K
        refine e_ldI (lvg_ne lvg_self rfl (by decide)) ?_
        refine e_ldI lvg_self ?_
        refine ⟨fun h11 => ?_, fun h11 => ?_⟩
        · replace K := kx_p h11 K
          refine u_X8_isAhead_147 ?_
          unfold bX8_isAhead_147
          refine e_cN 0 rfl ?_
          refine u_X8_isAhead_161 ?_
          unfold bX8_isAhead_161
          exact And.intro (Or.inl rfl) K
        · replace K := kx_n h11 K
          refine e_cN 1 rfl ?_
          refine u_X8_isAhead_161 ?_
          unfold bX8_isAhead_161
          exact And.intro (Or.inr rfl) K
    · replace K := kx_n h8 K
      refine e_ldI (lvg_ne (lvg_ne (lvg_ne lvg_self rfl (by decide)) rfl (by decide)) rfl (by decide)) ?_
      refine e_ldI (lvg_ne (lvg_ne lvg_self rfl (by decide)) rfl (by decide)) ?_
      refine ⟨fun h12 => ?_, fun h12 => ?_⟩
      · replace K := kx_p h12 K
        refine u_X8_isAhead_125 ?_
        unfold bX8_isAhead_125
        refine e_cN 0 rfl ?_
        refine u_X8_isAhead_161 ?_
        unfold bX8_isAhead_161
        exact And.intro (Or.inl rfl) K
      · replace K := kx_n h12 K
        refine e_cN 1 rfl ?_
        refine u_X8_isAhead_161 ?_
        unfold bX8_isAhead_161
        exact And.intro (Or.inr rfl) K
def f_X8_isOther (I : Nat → Nat → Int32) (m : Nat) (A : Nat → Nat) (x : Nat) : Int32 := if (I (A 9) x) ≤ 0 then ((nI 0)) else (if (I (A 19) (3 * x)) = (I (A 3) x) then (if (I (A 19) ((3 * x) + 1)) = (I (A 18) (5 * x)) then (if (I (A 19) ((3 * x) + 2)) = (I (A 18) ((5 * x) + 1)) then ((nI 0)) else ((nI 1))) else ((nI 1))) else ((nI 1)))
theorem x_X8_isOther {Q : Option Value → MM → Prop} {S : MM} {m : Nat} {A : Nat → Nat} {x : Nat} (hM : MS S m A) (hx : x < 16) (ir : IM S m A)   (K : KP Q S (f_X8_isOther (sI S) m A x)) : wX8_isOther [.ref m, .int (nI x)] S Q := by
  unfold f_X8_isOther at K
  refine Exists.intro 4 (u_X8_isOther_0 ?_)
  unfold bX8_isOther_0
  refine e_ldA rfl ?_
  refine e_gR hM.1 (hM.2.1 9 (by decide)).1 ?_
  refine e_ldI rfl ?_
  refine e_aE (N := 16) (kdA (k := 9) hM (by decide) rfl) (lnA (k := 9) hM (by decide) rfl) (by omega) (by decide) ?_
  refine ⟨fun h1 => ?_, fun h1 => ?_⟩
  · replace K := kx_p h1 K
    refine u_X8_isOther_74 ?_
    unfold bX8_isOther_74
    refine e_cN 0 rfl ?_
    refine u_X8_isOther_75 ?_
    unfold bX8_isOther_75
    exact And.intro (Or.inl rfl) K
  · replace K := kx_n h1 K
    refine e_ldA rfl ?_
    refine e_gR hM.1 (hM.2.1 19 (by decide)).1 ?_
    refine e_cN 3 rfl ?_
    refine e_ldI rfl ?_
    refine e_mul ?_
    refine e_aE (N := 48) (kdA (k := 19) hM (by decide) rfl) (lnA (k := 19) hM (by decide) rfl) (by omega) (by decide) ?_
    refine e_ldA rfl ?_
    refine e_gR hM.1 (hM.2.1 3 (by decide)).1 ?_
    refine e_ldI rfl ?_
    refine e_aE (N := 16) (kdA (k := 3) hM (by decide) rfl) (lnA (k := 3) hM (by decide) rfl) (by omega) (by decide) ?_
    refine ⟨fun h2 => ?_, fun h2 => ?_⟩
    · replace K := kx_p h2 K
      refine e_ldA rfl ?_
      refine e_gR hM.1 (hM.2.1 19 (by decide)).1 ?_
      refine e_cN 3 rfl ?_
      refine e_ldI rfl ?_
      refine e_mul ?_
      refine e_cN 1 rfl ?_
      refine e_add ?_
      refine e_aE (N := 48) (kdA (k := 19) hM (by decide) rfl) (lnA (k := 19) hM (by decide) rfl) (by omega) (by decide) ?_
      refine e_ldA rfl ?_
      refine e_gR hM.1 (hM.2.1 18 (by decide)).1 ?_
      refine e_cN 5 rfl ?_
      refine e_ldI rfl ?_
      refine e_mul ?_
      refine e_aE (N := 80) (kdA (k := 18) hM (by decide) rfl) (lnA (k := 18) hM (by decide) rfl) (by omega) (by decide) ?_
      refine ⟨fun h3 => ?_, fun h3 => ?_⟩
      · replace K := kx_p h3 K
        refine e_ldA rfl ?_
        refine e_gR hM.1 (hM.2.1 19 (by decide)).1 ?_
        refine e_cN 3 rfl ?_
        refine e_ldI rfl ?_
        refine e_mul ?_
        refine e_cN 2 rfl ?_
        refine e_add ?_
        refine e_aE (N := 48) (kdA (k := 19) hM (by decide) rfl) (lnA (k := 19) hM (by decide) rfl) (by omega) (by decide) ?_
        refine e_ldA rfl ?_
        refine e_gR hM.1 (hM.2.1 18 (by decide)).1 ?_
        refine e_cN 5 rfl ?_
        refine e_ldI rfl ?_
        refine e_mul ?_
        refine e_cN 1 rfl ?_
        refine u_X8_isOther_65 ?_
        unfold bX8_isOther_65
        refine e_add ?_
        refine e_aE (N := 80) (kdA (k := 18) hM (by decide) rfl) (lnA (k := 18) hM (by decide) rfl) (by omega) (by decide) ?_
        refine ⟨fun h4 => ?_, fun h4 => ?_⟩
        · replace K := kx_p h4 K
          refine u_X8_isOther_74 ?_
          unfold bX8_isOther_74
          refine e_cN 0 rfl ?_
          refine u_X8_isOther_75 ?_
          unfold bX8_isOther_75
          exact And.intro (Or.inl rfl) K
        · replace K := kx_n h4 K
          refine u_X8_isOther_70 ?_
          unfold bX8_isOther_70
          refine e_cN 1 rfl ?_
          refine u_X8_isOther_75 ?_
          unfold bX8_isOther_75
          exact And.intro (Or.inr rfl) K
      · replace K := kx_n h3 K
        refine u_X8_isOther_70 ?_
        unfold bX8_isOther_70
        refine e_cN 1 rfl ?_
        refine u_X8_isOther_75 ?_
        unfold bX8_isOther_75
        exact And.intro (Or.inr rfl) K
    · replace K := kx_n h2 K
      refine u_X8_isOther_70 ?_
      unfold bX8_isOther_70
      refine e_cN 1 rfl ?_
      refine u_X8_isOther_75 ?_
      unfold bX8_isOther_75
      exact And.intro (Or.inr rfl) K
def f_X8_steps (I : Nat → Nat → Int32) (m : Nat) (A : Nat → Nat) (x : Nat) : Nat → Nat → Int32 := if (f_X8_isLit I m A x) = 0 then (I) else (if (I (A 13) x) = 0 then (let I4 := f_X8_goesTo I m A x (nI 0); I4) else (if (f_X8_isOther I m A x) = 0 then (if (I (A 9) x) = nI 0 then (let I8 := f_X8_goesTo I m A x (nI 1); let I10 := up2 I8 (A 10) x (nI 2); let I12 := up2 I10 (A 19) (3 * x) (I10 (A 3) x); let I14 := up2 I12 (A 19) ((3 * x) + 1) (I12 (A 18) (5 * x)); let I16 := up2 I14 (A 19) ((3 * x) + 2) (I14 (A 18) ((5 * x) + 1)); I16) else (if (I (A 9) x) = nI 1 then (let I18 := up2 I (A 10) x ((I (A 10) x) - (nI 1)); if (I18 (A 10) x) = 0 then (let I21 := f_X8_goesTo I18 m A x (nI 2); I21) else (I18)) else (if (I (A 9) x) = nI 2 then (if (f_X8_isPartner I m A x (nI 8)) = 0 then (I) else (let I24 := f_X8_goesTo I m A x (nI 3); I24)) else (if (I (A 9) x) = nI 3 then (if (f_X8_isPartner I m A x (nI 8)) = 0 then (let I27 := f_X8_goesTo I m A x (nI 2); I27) else (if (f_X8_isPartner I m A x (nI 16)) = 0 then (I) else (let I30 := f_X8_goesTo I m A x (nI 4); I30))) else (if (f_X8_isPartner I m A x (nI 8)) = 0 then (let I33 := f_X8_goesTo I m A x (nI 2); I33) else (if (f_X8_isPartner I m A x (nI 16)) = 0 then (let I36 := f_X8_goesTo I m A x (nI 3); I36) else (I))))))) else (let I38 := f_X8_goesTo I m A x (nI 0); I38)))
theorem x_X8_steps {Q : Option Value → MM → Prop} {S : MM} {m : Nat} {A : Nat → Nat} {x : Nat} (hM : MS S m A) (hx : x < 16) (ir : IM S m A)   (K : KVM m A Q S (f_X8_steps (sI S) m A x)) : wX8_steps [.ref m, .int (nI x)] S Q := by
  unfold f_X8_steps at K
  refine Exists.intro 6 (u_X8_steps_0 ?_)
  unfold bX8_steps_0
  refine e_ldA rfl ?_
  refine e_ldI rfl ?_
  refine And.intro hM.1 (And.intro ⟨by decide, by decide⟩ (x_X8_isLit hM (by omega) ir (KP_i ?_)))
  refine ⟨fun h1 => ?_, fun h1 => ?_⟩
  · replace K := kx_p h1 K
    exact e_rV (K ir)
  · replace K := kx_n h1 K
    refine u_X8_steps_9 ?_
    unfold bX8_steps_9
    refine e_ldA rfl ?_
    refine e_gR hM.1 (hM.2.1 13 (by decide)).1 ?_
    refine e_ldI rfl ?_
    refine e_aE (N := 16) (kdA (k := 13) hM (by decide) rfl) (lnA (k := 13) hM (by decide) rfl) (by omega) (by decide) ?_
    refine ⟨fun h2 => ?_, fun h2 => ?_⟩
    · replace K := kx_p h2 K
      refine u_X8_steps_26 ?_
      unfold bX8_steps_26
      refine e_ldA rfl ?_
      refine e_ldI rfl ?_
      refine e_cN 0 rfl ?_
      refine And.intro hM.1 (And.intro ⟨by decide, by decide⟩ (x_X8_goesTo hM (by omega) ir (fun ir3 => ?_)))
      exact e_rV (K ir3)
    · replace K := kx_n h2 K
      refine e_ldA rfl ?_
      refine e_ldI rfl ?_
      refine And.intro hM.1 (And.intro ⟨by decide, by decide⟩ (x_X8_isOther hM (by omega) ir (KP_i ?_)))
      refine ⟨fun h5 => ?_, fun h5 => ?_⟩
      · replace K := kx_p h5 K
        refine u_X8_steps_33 ?_
        unfold bX8_steps_33
        refine e_ldA rfl ?_
        refine e_ldI rfl ?_
        refine e_cN 8 rfl ?_
        refine And.intro hM.1 (And.intro ⟨by decide, by decide⟩ (x_X8_isPartner hM (by omega) ir (KP_i ?_)))
        refine e_stI ?_
        refine e_ldA (lvg_ne rfl rfl (by decide)) ?_
        refine e_ldI (lvg_ne rfl rfl (by decide)) ?_
        refine e_cN 16 rfl ?_
        refine And.intro hM.1 (And.intro ⟨by decide, by decide⟩ (x_X8_isPartner hM (by omega) ir (KP_i ?_)))
        refine e_stI ?_
        refine e_ldA (lvg_ne (lvg_ne rfl rfl (by decide)) rfl (by decide)) ?_
        refine e_gR hM.1 (hM.2.1 9 (by decide)).1 ?_
        refine e_ldI (lvg_ne (lvg_ne rfl rfl (by decide)) rfl (by decide)) ?_
        refine e_aE (N := 16) (kdA (k := 9) hM (by decide) rfl) (lnA (k := 9) hM (by decide) rfl) (by omega) (by decide) ?_
        refine e_sw4 (fun h6 => ?_) (fun h6 => ?_) (fun h6 => ?_) (fun h6 => ?_) (fun h6 => ?_)
        · skip
          replace K := kx_p h6 K
          refine u_X8_steps_84 ?_
          unfold bX8_steps_84
          refine e_ldA (lvg_ne (lvg_ne rfl rfl (by decide)) rfl (by decide)) ?_
          refine e_ldI (lvg_ne (lvg_ne rfl rfl (by decide)) rfl (by decide)) ?_
          refine e_cN 1 rfl ?_
          refine And.intro hM.1 (And.intro ⟨by decide, by decide⟩ (x_X8_goesTo hM (by omega) ir (fun ir7 => ?_)))
          refine e_ldA (lvg_ne (lvg_ne rfl rfl (by decide)) rfl (by decide)) ?_
          refine e_gR hM.1 (hM.2.1 10 (by decide)).1 ?_
          refine e_ldI (lvg_ne (lvg_ne rfl rfl (by decide)) rfl (by decide)) ?_
          refine e_cN 2 rfl ?_
          refine e_mA (N := 16) (k := 10) hM ir7 (by decide) (kdA (k := 10) hM (by decide) rfl) (lnA (k := 10) hM (by decide) rfl) (by omega) (by decide) (fun N e => nomatch (show (none : Option Nat) = some N from e)) (fun e => absurd e (by decide)) (fun ir9 => ?_)
          refine e_ldA (lvg_ne (lvg_ne rfl rfl (by decide)) rfl (by decide)) ?_
          refine e_gR hM.1 (hM.2.1 19 (by decide)).1 ?_
          refine e_cN 3 rfl ?_
          refine e_ldI (lvg_ne (lvg_ne rfl rfl (by decide)) rfl (by decide)) ?_
          refine e_mul ?_
          refine e_ldA (lvg_ne (lvg_ne rfl rfl (by decide)) rfl (by decide)) ?_
          refine e_gR hM.1 (hM.2.1 3 (by decide)).1 ?_
          refine e_ldI (lvg_ne (lvg_ne rfl rfl (by decide)) rfl (by decide)) ?_
          refine e_aE (N := 16) (kdA (k := 3) hM (by decide) rfl) (lnA (k := 3) hM (by decide) rfl) (by omega) (by decide) ?_
          refine e_mA (N := 48) (k := 19) hM ir9 (by decide) (kdA (k := 19) hM (by decide) rfl) (lnA (k := 19) hM (by decide) rfl) (by omega) (by decide) (fun N e => nomatch (show (none : Option Nat) = some N from e)) (fun e => absurd e (by decide)) (fun ir11 => ?_)
          refine e_ldA (lvg_ne (lvg_ne rfl rfl (by decide)) rfl (by decide)) ?_
          refine e_gR hM.1 (hM.2.1 19 (by decide)).1 ?_
          refine e_cN 3 rfl ?_
          refine e_ldI (lvg_ne (lvg_ne rfl rfl (by decide)) rfl (by decide)) ?_
          refine e_mul ?_
          refine e_cN 1 rfl ?_
          refine e_add ?_
          refine e_ldA (lvg_ne (lvg_ne rfl rfl (by decide)) rfl (by decide)) ?_
          refine e_gR hM.1 (hM.2.1 18 (by decide)).1 ?_
          refine e_cN 5 rfl ?_
          refine e_ldI (lvg_ne (lvg_ne rfl rfl (by decide)) rfl (by decide)) ?_
          refine e_mul ?_
          refine e_aE (N := 80) (kdA (k := 18) hM (by decide) rfl) (lnA (k := 18) hM (by decide) rfl) (by omega) (by decide) ?_
          refine e_mA (N := 48) (k := 19) hM ir11 (by decide) (kdA (k := 19) hM (by decide) rfl) (lnA (k := 19) hM (by decide) rfl) (by omega) (by decide) (fun N e => nomatch (show (none : Option Nat) = some N from e)) (fun e => absurd e (by decide)) (fun ir13 => ?_)
          refine e_ldA (lvg_ne (lvg_ne rfl rfl (by decide)) rfl (by decide)) ?_
          refine e_gR hM.1 (hM.2.1 19 (by decide)).1 ?_
          refine e_cN 3 rfl ?_
          refine e_ldI (lvg_ne (lvg_ne rfl rfl (by decide)) rfl (by decide)) ?_
          refine e_mul ?_
          refine e_cN 2 rfl ?_
          refine e_add ?_
          refine e_ldA (lvg_ne (lvg_ne rfl rfl (by decide)) rfl (by decide)) ?_
          refine e_gR hM.1 (hM.2.1 18 (by decide)).1 ?_
          refine e_cN 5 rfl ?_
          refine e_ldI (lvg_ne (lvg_ne rfl rfl (by decide)) rfl (by decide)) ?_
          refine e_mul ?_
          refine u_X8_steps_145 ?_
          unfold bX8_steps_145
          refine e_cN 1 rfl ?_
          refine e_add ?_
          refine e_aE (N := 80) (kdA (k := 18) hM (by decide) rfl) (lnA (k := 18) hM (by decide) rfl) (by omega) (by decide) ?_
          refine e_mA (N := 48) (k := 19) hM ir13 (by decide) (kdA (k := 19) hM (by decide) rfl) (lnA (k := 19) hM (by decide) rfl) (by omega) (by decide) (fun N e => nomatch (show (none : Option Nat) = some N from e)) (fun e => absurd e (by decide)) (fun ir15 => ?_)
          refine u_X8_steps_242 ?_
          unfold bX8_steps_242
          exact e_rV (K ir15)
        · skip
          replace K := kx_n h6.1 K
          replace K := kx_p h6.2 K
          refine u_X8_steps_152 ?_
          unfold bX8_steps_152
          refine e_ldA (lvg_ne (lvg_ne rfl rfl (by decide)) rfl (by decide)) ?_
          refine e_gR hM.1 (hM.2.1 10 (by decide)).1 ?_
          refine e_ldI (lvg_ne (lvg_ne rfl rfl (by decide)) rfl (by decide)) ?_
          refine e_du2 ?_
          refine e_aE (N := 16) (kdA (k := 10) hM (by decide) rfl) (lnA (k := 10) hM (by decide) rfl) (by omega) (by decide) ?_
          refine e_cN 1 rfl ?_
          refine e_bopE ?_
          refine e_mA (N := 16) (k := 10) hM ir (by decide) (kdA (k := 10) hM (by decide) rfl) (lnA (k := 10) hM (by decide) rfl) (by omega) (by decide) (fun N e => nomatch (show (none : Option Nat) = some N from e)) (fun e => absurd e (by decide)) (fun ir17 => ?_)
          refine e_ldA (lvg_ne (lvg_ne rfl rfl (by decide)) rfl (by decide)) ?_
          refine e_gR hM.1 (hM.2.1 10 (by decide)).1 ?_
          refine e_ldI (lvg_ne (lvg_ne rfl rfl (by decide)) rfl (by decide)) ?_
          refine e_aE (N := 16) (kdA (k := 10) hM (by decide) rfl) (lnA (k := 10) hM (by decide) rfl) (by omega) (by decide) ?_
          refine ⟨fun h19 => ?_, fun h19 => ?_⟩
          · replace K := kx_p h19 K
            refine e_ldA (lvg_ne (lvg_ne rfl rfl (by decide)) rfl (by decide)) ?_
            refine e_ldI (lvg_ne (lvg_ne rfl rfl (by decide)) rfl (by decide)) ?_
            refine e_cN 2 rfl ?_
            refine And.intro hM.1 (And.intro ⟨by decide, by decide⟩ (x_X8_goesTo hM (by omega) ir17 (fun ir20 => ?_)))
            refine u_X8_steps_242 ?_
            unfold bX8_steps_242
            exact e_rV (K ir20)
          · replace K := kx_n h19 K
            refine u_X8_steps_242 ?_
            unfold bX8_steps_242
            exact e_rV (K ir17)
        · skip
          replace K := kx_n h6.1 K
          replace K := kx_n h6.2.1 K
          replace K := kx_p h6.2.2 K
          refine u_X8_steps_180 ?_
          unfold bX8_steps_180
          refine e_ldI (lvg_ne lvg_self rfl (by decide)) ?_
          refine ⟨fun h22 => ?_, fun h22 => ?_⟩
          · replace K := kx_p h22 K
            refine u_X8_steps_242 ?_
            unfold bX8_steps_242
            exact e_rV (K ir)
          · replace K := kx_n h22 K
            refine e_ldA (lvg_ne (lvg_ne rfl rfl (by decide)) rfl (by decide)) ?_
            refine e_ldI (lvg_ne (lvg_ne rfl rfl (by decide)) rfl (by decide)) ?_
            refine e_cN 3 rfl ?_
            refine And.intro hM.1 (And.intro ⟨by decide, by decide⟩ (x_X8_goesTo hM (by omega) ir (fun ir23 => ?_)))
            refine u_X8_steps_242 ?_
            unfold bX8_steps_242
            exact e_rV (K ir23)
        · skip
          replace K := kx_n h6.1 K
          replace K := kx_n h6.2.1 K
          replace K := kx_n h6.2.2.1 K
          replace K := kx_p h6.2.2.2 K
          refine u_X8_steps_193 ?_
          unfold bX8_steps_193
          refine e_ldI (lvg_ne lvg_self rfl (by decide)) ?_
          refine ⟨fun h25 => ?_, fun h25 => ?_⟩
          · replace K := kx_p h25 K
            refine e_ldA (lvg_ne (lvg_ne rfl rfl (by decide)) rfl (by decide)) ?_
            refine e_ldI (lvg_ne (lvg_ne rfl rfl (by decide)) rfl (by decide)) ?_
            refine e_cN 2 rfl ?_
            refine And.intro hM.1 (And.intro ⟨by decide, by decide⟩ (x_X8_goesTo hM (by omega) ir (fun ir26 => ?_)))
            refine u_X8_steps_242 ?_
            unfold bX8_steps_242
            exact e_rV (K ir26)
          · replace K := kx_n h25 K
            refine u_X8_steps_206 ?_
            unfold bX8_steps_206
            refine e_ldI lvg_self ?_
            refine ⟨fun h28 => ?_, fun h28 => ?_⟩
            · replace K := kx_p h28 K
              refine u_X8_steps_242 ?_
              unfold bX8_steps_242
              exact e_rV (K ir)
            · replace K := kx_n h28 K
              refine e_ldA (lvg_ne (lvg_ne rfl rfl (by decide)) rfl (by decide)) ?_
              refine e_ldI (lvg_ne (lvg_ne rfl rfl (by decide)) rfl (by decide)) ?_
              refine e_cN 4 rfl ?_
              refine And.intro hM.1 (And.intro ⟨by decide, by decide⟩ (x_X8_goesTo hM (by omega) ir (fun ir29 => ?_)))
              refine u_X8_steps_242 ?_
              unfold bX8_steps_242
              exact e_rV (K ir29)
        · skip
          replace K := kx_n h6.1 K
          replace K := kx_n h6.2.1 K
          replace K := kx_n h6.2.2.1 K
          replace K := kx_n h6.2.2.2 K
          refine u_X8_steps_219 ?_
          unfold bX8_steps_219
          refine e_ldI (lvg_ne lvg_self rfl (by decide)) ?_
          refine ⟨fun h31 => ?_, fun h31 => ?_⟩
          · replace K := kx_p h31 K
            refine e_ldA (lvg_ne (lvg_ne rfl rfl (by decide)) rfl (by decide)) ?_
            refine e_ldI (lvg_ne (lvg_ne rfl rfl (by decide)) rfl (by decide)) ?_
            refine e_cN 2 rfl ?_
            refine And.intro hM.1 (And.intro ⟨by decide, by decide⟩ (x_X8_goesTo hM (by omega) ir (fun ir32 => ?_)))
            refine u_X8_steps_242 ?_
            unfold bX8_steps_242
            exact e_rV (K ir32)
          · replace K := kx_n h31 K
            refine u_X8_steps_232 ?_
            unfold bX8_steps_232
            refine e_ldI lvg_self ?_
            refine ⟨fun h34 => ?_, fun h34 => ?_⟩
            · replace K := kx_p h34 K
              refine e_ldA (lvg_ne (lvg_ne rfl rfl (by decide)) rfl (by decide)) ?_
              refine e_ldI (lvg_ne (lvg_ne rfl rfl (by decide)) rfl (by decide)) ?_
              refine e_cN 3 rfl ?_
              refine And.intro hM.1 (And.intro ⟨by decide, by decide⟩ (x_X8_goesTo hM (by omega) ir (fun ir35 => ?_)))
              refine u_X8_steps_242 ?_
              unfold bX8_steps_242
              exact e_rV (K ir35)
            · replace K := kx_n h34 K
              refine u_X8_steps_242 ?_
              unfold bX8_steps_242
              exact e_rV (K ir)
      · replace K := kx_n h5 K
        refine u_X8_steps_26 ?_
        unfold bX8_steps_26
        refine e_ldA rfl ?_
        refine e_ldI rfl ?_
        refine e_cN 0 rfl ?_
        refine And.intro hM.1 (And.intro ⟨by decide, by decide⟩ (x_X8_goesTo hM (by omega) ir (fun ir37 => ?_)))
        exact e_rV (K ir37)
theorem nm_X8_steps {I : Nat → Nat → Int32} {m : Nat} {A : Nat → Nat} {x : Nat} {z : Nat} (hz : ∀ k ∈ ([9, 10, 19, 40] : List Nat), z ≠ A k) : (f_X8_steps I m A x) z = I z := by
  simp only [f_X8_steps]
  repeat' split
  all_goals simp only [up2_row (hz 9 (by decide)), up2_row (hz 10 (by decide)), up2_row (hz 19 (by decide)), up2_row (hz 40 (by decide)), nm_X8_goesTo (fun k hk => hz k (mem_sub k hk (by decide)))]
def f_X8_isTold (I : Nat → Nat → Int32) (m : Nat) (A : Nat → Nat) (x : Nat) : Int32 := if (I (A 21) x) = (-1 : Int32) then ((nI 0)) else (if (I (A 20) ((5 * x) + 0)) = (f_own0 I m A x) then (if (I (A 20) ((5 * x) + 1)) = (f_own1 I m A x) then (if (I (A 20) ((5 * x) + 2)) = (f_own2 I m A x) then (if (I (A 20) ((5 * x) + 3)) = (f_own3 I m A x) then (if (I (A 20) ((5 * x) + 4)) = (f_own4 I m A x) then ((nI 1)) else ((nI 0))) else ((nI 0))) else ((nI 0))) else ((nI 0))) else ((nI 0)))
theorem x_X8_isTold {Q : Option Value → MM → Prop} {S : MM} {m : Nat} {A : Nat → Nat} {x : Nat} (hM : MS S m A) (hx : x < 16) (ir : IM S m A)   (K : KP Q S (f_X8_isTold (sI S) m A x)) : wX8_isTold [.ref m, .int (nI x)] S Q := by
  unfold f_X8_isTold at K
  refine Exists.intro 14 (u_X8_isTold_0 ?_)
  unfold bX8_isTold_0
  refine e_ldA rfl ?_
  refine e_gR hM.1 (hM.2.1 21 (by decide)).1 ?_
  refine e_ldI rfl ?_
  refine e_aE (N := 16) (kdA (k := 21) hM (by decide) rfl) (lnA (k := 21) hM (by decide) rfl) (by omega) (by decide) ?_
  refine e_cI ?_
  refine ⟨fun h1 => ?_, fun h1 => ?_⟩
  · replace K := kx_p h1 K
    refine e_cN 0 rfl ?_
    exact And.intro (Or.inl rfl) K
  · replace K := kx_n h1 K
    refine u_X8_isTold_12 ?_
    unfold bX8_isTold_12
    refine e_cN 0 rfl ?_
    refine e_stI ?_
    refine u_X8_isTold_14 ?_
    unfold bX8_isTold_14
    refine e_ldI lvg_self ?_
    refine e_cN 5 rfl ?_
    refine ⟨fun z => absurd z (by decide), fun _ => ?_⟩
    refine e_ldA (lvg_ne rfl rfl (by decide)) ?_
    refine e_gR hM.1 (hM.2.1 20 (by decide)).1 ?_
    refine e_cN 5 rfl ?_
    refine e_ldI (lvg_ne rfl rfl (by decide)) ?_
    refine e_mul ?_
    refine e_ldI lvg_self ?_
    refine e_add ?_
    refine e_aE (N := 80) (kdA (k := 20) hM (by decide) rfl) (lnA (k := 20) hM (by decide) rfl) (by omega) (by decide) ?_
    refine e_ldA (lvg_ne rfl rfl (by decide)) ?_
    refine e_ldI (lvg_ne rfl rfl (by decide)) ?_
    refine e_ldI lvg_self ?_
    refine And.intro hM.1 (And.intro ⟨by decide, by decide⟩ (x_own0 hM (by omega) ir (KP_i ?_)))
    refine ⟨fun h2 => ?_, fun h2 => ?_⟩
    · replace K := kx_p h2 K
      refine u_X8_isTold_40 ?_
      unfold bX8_isTold_40
      refine e_inc lvg_self ?_
      refine u_X8_isTold_14 ?_
      unfold bX8_isTold_14
      refine e_ldI lvg_self ?_
      refine e_cN 5 rfl ?_
      refine ⟨fun z => absurd z (by decide), fun _ => ?_⟩
      refine e_ldA (lvg_ne (lvg_ne rfl rfl (by decide)) rfl (by decide)) ?_
      refine e_gR hM.1 (hM.2.1 20 (by decide)).1 ?_
      refine e_cN 5 rfl ?_
      refine e_ldI (lvg_ne (lvg_ne rfl rfl (by decide)) rfl (by decide)) ?_
      refine e_mul ?_
      refine e_ldI lvg_self ?_
      refine e_add ?_
      refine e_aE (N := 80) (kdA (k := 20) hM (by decide) rfl) (lnA (k := 20) hM (by decide) rfl) (by omega) (by decide) ?_
      refine e_ldA (lvg_ne (lvg_ne rfl rfl (by decide)) rfl (by decide)) ?_
      refine e_ldI (lvg_ne (lvg_ne rfl rfl (by decide)) rfl (by decide)) ?_
      refine e_ldI lvg_self ?_
      refine And.intro hM.1 (And.intro ⟨by decide, by decide⟩ (x_own1 hM (by omega) ir (KP_i ?_)))
      refine ⟨fun h3 => ?_, fun h3 => ?_⟩
      · replace K := kx_p h3 K
        refine u_X8_isTold_40 ?_
        unfold bX8_isTold_40
        refine e_inc lvg_self ?_
        refine u_X8_isTold_14 ?_
        unfold bX8_isTold_14
        refine e_ldI lvg_self ?_
        refine e_cN 5 rfl ?_
        refine ⟨fun z => absurd z (by decide), fun _ => ?_⟩
        refine e_ldA (lvg_ne (lvg_ne (lvg_ne rfl rfl (by decide)) rfl (by decide)) rfl (by decide)) ?_
        refine e_gR hM.1 (hM.2.1 20 (by decide)).1 ?_
        refine e_cN 5 rfl ?_
        refine e_ldI (lvg_ne (lvg_ne (lvg_ne rfl rfl (by decide)) rfl (by decide)) rfl (by decide)) ?_
        refine e_mul ?_
        refine e_ldI lvg_self ?_
        refine e_add ?_
        refine e_aE (N := 80) (kdA (k := 20) hM (by decide) rfl) (lnA (k := 20) hM (by decide) rfl) (by omega) (by decide) ?_
        refine e_ldA (lvg_ne (lvg_ne (lvg_ne rfl rfl (by decide)) rfl (by decide)) rfl (by decide)) ?_
        refine e_ldI (lvg_ne (lvg_ne (lvg_ne rfl rfl (by decide)) rfl (by decide)) rfl (by decide)) ?_
        refine e_ldI lvg_self ?_
        refine And.intro hM.1 (And.intro ⟨by decide, by decide⟩ (x_own2 hM (by omega) ir (KP_i ?_)))
        refine ⟨fun h4 => ?_, fun h4 => ?_⟩
        · replace K := kx_p h4 K
          refine u_X8_isTold_40 ?_
          unfold bX8_isTold_40
          refine e_inc lvg_self ?_
          refine u_X8_isTold_14 ?_
          unfold bX8_isTold_14
          refine e_ldI lvg_self ?_
          refine e_cN 5 rfl ?_
          refine ⟨fun z => absurd z (by decide), fun _ => ?_⟩
          refine e_ldA (lvg_ne (lvg_ne (lvg_ne (lvg_ne rfl rfl (by decide)) rfl (by decide)) rfl (by decide)) rfl (by decide)) ?_
          refine e_gR hM.1 (hM.2.1 20 (by decide)).1 ?_
          refine e_cN 5 rfl ?_
          refine e_ldI (lvg_ne (lvg_ne (lvg_ne (lvg_ne rfl rfl (by decide)) rfl (by decide)) rfl (by decide)) rfl (by decide)) ?_
          refine e_mul ?_
          refine e_ldI lvg_self ?_
          refine e_add ?_
          refine e_aE (N := 80) (kdA (k := 20) hM (by decide) rfl) (lnA (k := 20) hM (by decide) rfl) (by omega) (by decide) ?_
          refine e_ldA (lvg_ne (lvg_ne (lvg_ne (lvg_ne rfl rfl (by decide)) rfl (by decide)) rfl (by decide)) rfl (by decide)) ?_
          refine e_ldI (lvg_ne (lvg_ne (lvg_ne (lvg_ne rfl rfl (by decide)) rfl (by decide)) rfl (by decide)) rfl (by decide)) ?_
          refine e_ldI lvg_self ?_
          refine And.intro hM.1 (And.intro ⟨by decide, by decide⟩ (x_own3 hM (by omega) ir (KP_i ?_)))
          refine ⟨fun h5 => ?_, fun h5 => ?_⟩
          · replace K := kx_p h5 K
            refine u_X8_isTold_40 ?_
            unfold bX8_isTold_40
            refine e_inc lvg_self ?_
            refine u_X8_isTold_14 ?_
            unfold bX8_isTold_14
            refine e_ldI lvg_self ?_
            refine e_cN 5 rfl ?_
            refine ⟨fun z => absurd z (by decide), fun _ => ?_⟩
            refine e_ldA (lvg_ne (lvg_ne (lvg_ne (lvg_ne (lvg_ne rfl rfl (by decide)) rfl (by decide)) rfl (by decide)) rfl (by decide)) rfl (by decide)) ?_
            refine e_gR hM.1 (hM.2.1 20 (by decide)).1 ?_
            refine e_cN 5 rfl ?_
            refine e_ldI (lvg_ne (lvg_ne (lvg_ne (lvg_ne (lvg_ne rfl rfl (by decide)) rfl (by decide)) rfl (by decide)) rfl (by decide)) rfl (by decide)) ?_
            refine e_mul ?_
            refine e_ldI lvg_self ?_
            refine e_add ?_
            refine e_aE (N := 80) (kdA (k := 20) hM (by decide) rfl) (lnA (k := 20) hM (by decide) rfl) (by omega) (by decide) ?_
            refine e_ldA (lvg_ne (lvg_ne (lvg_ne (lvg_ne (lvg_ne rfl rfl (by decide)) rfl (by decide)) rfl (by decide)) rfl (by decide)) rfl (by decide)) ?_
            refine e_ldI (lvg_ne (lvg_ne (lvg_ne (lvg_ne (lvg_ne rfl rfl (by decide)) rfl (by decide)) rfl (by decide)) rfl (by decide)) rfl (by decide)) ?_
            refine e_ldI lvg_self ?_
            refine And.intro hM.1 (And.intro ⟨by decide, by decide⟩ (x_own4 hM (by omega) ir (KP_i ?_)))
            refine ⟨fun h6 => ?_, fun h6 => ?_⟩
            · replace K := kx_p h6 K
              refine u_X8_isTold_40 ?_
              unfold bX8_isTold_40
              refine e_inc lvg_self ?_
              refine u_X8_isTold_14 ?_
              unfold bX8_isTold_14
              refine e_ldI lvg_self ?_
              refine e_cN 5 rfl ?_
              refine ⟨fun _ => ?_, fun z => absurd (by decide) z⟩
              refine u_X8_isTold_46 ?_
              unfold bX8_isTold_46
              refine e_cN 1 rfl ?_
              exact And.intro (Or.inr rfl) K
            · replace K := kx_n h6 K
              refine e_cN 0 rfl ?_
              exact And.intro (Or.inl rfl) K
          · replace K := kx_n h5 K
            refine e_cN 0 rfl ?_
            exact And.intro (Or.inl rfl) K
        · replace K := kx_n h4 K
          refine e_cN 0 rfl ?_
          exact And.intro (Or.inl rfl) K
      · replace K := kx_n h3 K
        refine e_cN 0 rfl ?_
        exact And.intro (Or.inl rfl) K
    · replace K := kx_n h2 K
      refine e_cN 0 rfl ?_
      exact And.intro (Or.inl rfl) K
def g_X8_noteComes_162 (I : Nat → Nat → Int32) (m : Nat) (A : Nat → Nat) (t : Nat) (x : Nat)  (w4 : Int32) : Nat → Nat → Int32 := let I2 := up2 I (A 7) x (nI 2); if (I2 (A 6) x) = 0 then (let I5 := up2 I2 (A 8) x (nI 90); if w4 = 0 then (let I8 := up2 I5 (A 14) x (nI 1); let I10 := up2 I8 (A 15) x (nI 1); let I12 := up2 I10 (A 17) x ((I10 (A 17) x) + (nI 1)); I12) else (let I14 := up2 I5 (A 15) x (nI 1); let I16 := up2 I14 (A 17) x ((I14 (A 17) x) + (nI 1)); I16)) else (let I18 := up2 I2 (A 8) x (nI 3); if w4 = 0 then (let I21 := up2 I18 (A 14) x (nI 1); let I23 := up2 I21 (A 15) x (nI 1); let I25 := up2 I23 (A 17) x ((I23 (A 17) x) + (nI 1)); I25) else (let I27 := up2 I18 (A 15) x (nI 1); let I29 := up2 I27 (A 17) x ((I27 (A 17) x) + (nI 1)); I29))
theorem y_X8_noteComes_162 {Q : Option Value → MM → Prop} {S : MM} {m : Nat} {A : Nat → Nat} {t : Nat} {x : Nat}  {w4 : Int32} {n : Nat} {lv : Lv} (hM : MS S m A) (ht : t < 4000) (hx : x < 16) (ir : IM S m A)   (g0 : lvg lv 0 = some (.ref m)) (g2 : lvg lv 2 = some (.int (nI x))) (g4 : lvg lv 4 = some (.int w4))  (hn : 4 ≤ n) (K : KVM m A Q S (g_X8_noteComes_162 (sI S) m A t x  w4)) : wpn (kX8_noteComes Q) n 162 lv [] S 0 0 := by
  obtain ⟨d, rfl⟩ : ∃ d, n = d + 4 := ⟨n - 4, by omega⟩
  unfold g_X8_noteComes_162 at K
  refine u_X8_noteComes_162 ?_
  unfold bX8_noteComes_162
  refine e_ldA g0 ?_
  refine e_gR hM.1 (hM.2.1 7 (by decide)).1 ?_
  refine e_ldI g2 ?_
  refine e_cN 2 rfl ?_
  refine e_mA (N := 16) (k := 7) hM ir (by decide) (kdA (k := 7) hM (by decide) rfl) (lnA (k := 7) hM (by decide) rfl) (by omega) (by decide) (fun N e => nomatch (show (none : Option Nat) = some N from e)) (fun e => absurd e (by decide)) (fun ir1 => ?_)
  refine e_ldA g0 ?_
  refine e_gR hM.1 (hM.2.1 8 (by decide)).1 ?_
  refine e_ldI g2 ?_
  refine e_ldA g0 ?_
  refine e_gR hM.1 (hM.2.1 6 (by decide)).1 ?_
  refine e_ldI g2 ?_
  refine e_aE (N := 16) (kdA (k := 6) hM (by decide) rfl) (lnA (k := 6) hM (by decide) rfl) (by omega) (by decide) ?_
  refine ⟨fun h3 => ?_, fun h3 => ?_⟩
  · replace K := kx_p h3 K
    refine u_X8_noteComes_187 ?_
    unfold bX8_noteComes_187
    refine e_cN 90 rfl ?_
    refine u_X8_noteComes_189 ?_
    unfold bX8_noteComes_189
    refine e_mA (N := 16) (k := 8) hM ir1 (by decide) (kdA (k := 8) hM (by decide) rfl) (lnA (k := 8) hM (by decide) rfl) (by omega) (by decide) (fun N e => nomatch (show (none : Option Nat) = some N from e)) (fun e => absurd e (by decide)) (fun ir4 => ?_)
    refine e_ldI g4 ?_
    refine ⟨fun h6 => ?_, fun h6 => ?_⟩
    · replace K := kx_p h6 K
      refine e_ldA g0 ?_
      refine e_gR hM.1 (hM.2.1 14 (by decide)).1 ?_
      refine e_ldI g2 ?_
      refine e_cN 1 rfl ?_
      refine e_mB (N := 16) (k := 14) hM ir4 (by decide) (kdA (k := 14) hM (by decide) rfl) (lnA (k := 14) hM (by decide) rfl) (by omega) (by decide) (Or.inr rfl) (fun N e => nomatch (show (none : Option Nat) = some N from e)) (fun e => absurd e (by decide)) (fun ir7 => ?_)
      refine u_X8_noteComes_202 ?_
      unfold bX8_noteComes_202
      refine e_ldA g0 ?_
      refine e_gR hM.1 (hM.2.1 15 (by decide)).1 ?_
      refine e_ldI g2 ?_
      refine e_cN 1 rfl ?_
      refine e_mB (N := 16) (k := 15) hM ir7 (by decide) (kdA (k := 15) hM (by decide) rfl) (lnA (k := 15) hM (by decide) rfl) (by omega) (by decide) (Or.inr rfl) (fun N e => nomatch (show (none : Option Nat) = some N from e)) (fun e => absurd e (by decide)) (fun ir9 => ?_)
      refine e_ldA g0 ?_
      refine e_gR hM.1 (hM.2.1 17 (by decide)).1 ?_
      refine e_ldI g2 ?_
      refine e_du2 ?_
      refine e_aE (N := 16) (kdA (k := 17) hM (by decide) rfl) (lnA (k := 17) hM (by decide) rfl) (by omega) (by decide) ?_
      refine e_cN 1 rfl ?_
      refine e_bopE ?_
      refine e_mA (N := 16) (k := 17) hM ir9 (by decide) (kdA (k := 17) hM (by decide) rfl) (lnA (k := 17) hM (by decide) rfl) (by omega) (by decide) (fun N e => nomatch (show (none : Option Nat) = some N from e)) (fun e => absurd e (by decide)) (fun ir11 => ?_)
      exact e_rV (K ir11)
    · replace K := kx_n h6 K
      refine u_X8_noteComes_202 ?_
      unfold bX8_noteComes_202
      refine e_ldA g0 ?_
      refine e_gR hM.1 (hM.2.1 15 (by decide)).1 ?_
      refine e_ldI g2 ?_
      refine e_cN 1 rfl ?_
      refine e_mB (N := 16) (k := 15) hM ir4 (by decide) (kdA (k := 15) hM (by decide) rfl) (lnA (k := 15) hM (by decide) rfl) (by omega) (by decide) (Or.inr rfl) (fun N e => nomatch (show (none : Option Nat) = some N from e)) (fun e => absurd e (by decide)) (fun ir13 => ?_)
      refine e_ldA g0 ?_
      refine e_gR hM.1 (hM.2.1 17 (by decide)).1 ?_
      refine e_ldI g2 ?_
      refine e_du2 ?_
      refine e_aE (N := 16) (kdA (k := 17) hM (by decide) rfl) (lnA (k := 17) hM (by decide) rfl) (by omega) (by decide) ?_
      refine e_cN 1 rfl ?_
      refine e_bopE ?_
      refine e_mA (N := 16) (k := 17) hM ir13 (by decide) (kdA (k := 17) hM (by decide) rfl) (lnA (k := 17) hM (by decide) rfl) (by omega) (by decide) (fun N e => nomatch (show (none : Option Nat) = some N from e)) (fun e => absurd e (by decide)) (fun ir15 => ?_)
      exact e_rV (K ir15)
  · replace K := kx_n h3 K
    refine e_cN 3 rfl ?_
    refine u_X8_noteComes_189 ?_
    unfold bX8_noteComes_189
    refine e_mA (N := 16) (k := 8) hM ir1 (by decide) (kdA (k := 8) hM (by decide) rfl) (lnA (k := 8) hM (by decide) rfl) (by omega) (by decide) (fun N e => nomatch (show (none : Option Nat) = some N from e)) (fun e => absurd e (by decide)) (fun ir17 => ?_)
    refine e_ldI g4 ?_
    refine ⟨fun h19 => ?_, fun h19 => ?_⟩
    · replace K := kx_p h19 K
      refine e_ldA g0 ?_
      refine e_gR hM.1 (hM.2.1 14 (by decide)).1 ?_
      refine e_ldI g2 ?_
      refine e_cN 1 rfl ?_
      refine e_mB (N := 16) (k := 14) hM ir17 (by decide) (kdA (k := 14) hM (by decide) rfl) (lnA (k := 14) hM (by decide) rfl) (by omega) (by decide) (Or.inr rfl) (fun N e => nomatch (show (none : Option Nat) = some N from e)) (fun e => absurd e (by decide)) (fun ir20 => ?_)
      refine u_X8_noteComes_202 ?_
      unfold bX8_noteComes_202
      refine e_ldA g0 ?_
      refine e_gR hM.1 (hM.2.1 15 (by decide)).1 ?_
      refine e_ldI g2 ?_
      refine e_cN 1 rfl ?_
      refine e_mB (N := 16) (k := 15) hM ir20 (by decide) (kdA (k := 15) hM (by decide) rfl) (lnA (k := 15) hM (by decide) rfl) (by omega) (by decide) (Or.inr rfl) (fun N e => nomatch (show (none : Option Nat) = some N from e)) (fun e => absurd e (by decide)) (fun ir22 => ?_)
      refine e_ldA g0 ?_
      refine e_gR hM.1 (hM.2.1 17 (by decide)).1 ?_
      refine e_ldI g2 ?_
      refine e_du2 ?_
      refine e_aE (N := 16) (kdA (k := 17) hM (by decide) rfl) (lnA (k := 17) hM (by decide) rfl) (by omega) (by decide) ?_
      refine e_cN 1 rfl ?_
      refine e_bopE ?_
      refine e_mA (N := 16) (k := 17) hM ir22 (by decide) (kdA (k := 17) hM (by decide) rfl) (lnA (k := 17) hM (by decide) rfl) (by omega) (by decide) (fun N e => nomatch (show (none : Option Nat) = some N from e)) (fun e => absurd e (by decide)) (fun ir24 => ?_)
      exact e_rV (K ir24)
    · replace K := kx_n h19 K
      refine u_X8_noteComes_202 ?_
      unfold bX8_noteComes_202
      refine e_ldA g0 ?_
      refine e_gR hM.1 (hM.2.1 15 (by decide)).1 ?_
      refine e_ldI g2 ?_
      refine e_cN 1 rfl ?_
      refine e_mB (N := 16) (k := 15) hM ir17 (by decide) (kdA (k := 15) hM (by decide) rfl) (lnA (k := 15) hM (by decide) rfl) (by omega) (by decide) (Or.inr rfl) (fun N e => nomatch (show (none : Option Nat) = some N from e)) (fun e => absurd e (by decide)) (fun ir26 => ?_)
      refine e_ldA g0 ?_
      refine e_gR hM.1 (hM.2.1 17 (by decide)).1 ?_
      refine e_ldI g2 ?_
      refine e_du2 ?_
      refine e_aE (N := 16) (kdA (k := 17) hM (by decide) rfl) (lnA (k := 17) hM (by decide) rfl) (by omega) (by decide) ?_
      refine e_cN 1 rfl ?_
      refine e_bopE ?_
      refine e_mA (N := 16) (k := 17) hM ir26 (by decide) (kdA (k := 17) hM (by decide) rfl) (lnA (k := 17) hM (by decide) rfl) (by omega) (by decide) (fun N e => nomatch (show (none : Option Nat) = some N from e)) (fun e => absurd e (by decide)) (fun ir28 => ?_)
      exact e_rV (K ir28)
def g_X8_noteComes_105 (I : Nat → Nat → Int32) (m : Nat) (A : Nat → Nat) (t : Nat) (x : Nat)  (w3 : Int32) (w4 : Int32) : Nat → Nat → Int32 := let I2 := up2 I (A 18) ((5 * x) + 0) (I (A 31) ((10 * t) + 0)); let I4 := up2 I2 (A 18) ((5 * x) + 1) (I2 (A 31) ((10 * t) + 1)); let I6 := up2 I4 (A 18) ((5 * x) + 2) (I4 (A 31) ((10 * t) + 2)); let I8 := up2 I6 (A 18) ((5 * x) + 3) (I6 (A 31) ((10 * t) + 3)); let I10 := up2 I8 (A 18) ((5 * x) + 4) (I8 (A 31) ((10 * t) + 4)); if w3 = 0 then (let I13 := up2 I10 (A 18) ((5 * x) + 4) ((I10 (A 18) ((5 * x) + 4)) &&& (-9 : Int32)); g_X8_noteComes_162 I13 m A t x  w4) else (g_X8_noteComes_162 I10 m A t x  w4)
theorem y_X8_noteComes_105 {Q : Option Value → MM → Prop} {S : MM} {m : Nat} {A : Nat → Nat} {t : Nat} {x : Nat}  {w3 : Int32} {w4 : Int32} {n : Nat} {lv : Lv} (hM : MS S m A) (ht : t < 4000) (hx : x < 16) (ir : IM S m A)   (g0 : lvg lv 0 = some (.ref m)) (g1 : lvg lv 1 = some (.int (nI t))) (g2 : lvg lv 2 = some (.int (nI x))) (g3 : lvg lv 3 = some (.int w3)) (g4 : lvg lv 4 = some (.int w4))  (hn : 12 ≤ n) (K : KVM m A Q S (g_X8_noteComes_105 (sI S) m A t x  w3 w4)) : wpn (kX8_noteComes Q) n 105 lv [] S 0 0 := by
  obtain ⟨d, rfl⟩ : ∃ d, n = d + 12 := ⟨n - 12, by omega⟩
  unfold g_X8_noteComes_105 at K
  refine u_X8_noteComes_105 ?_
  unfold bX8_noteComes_105
  refine e_cN 0 rfl ?_
  refine e_stI ?_
  refine u_X8_noteComes_108 ?_
  unfold bX8_noteComes_108
  refine e_ldI lvg_self ?_
  refine e_cN 5 rfl ?_
  refine ⟨fun z => absurd z (by decide), fun _ => ?_⟩
  refine e_ldA (lvg_ne g0 rfl (by decide)) ?_
  refine e_gR hM.1 (hM.2.1 18 (by decide)).1 ?_
  refine e_cN 5 rfl ?_
  refine e_ldI (lvg_ne g2 rfl (by decide)) ?_
  refine e_mul ?_
  refine e_ldI lvg_self ?_
  refine e_add ?_
  refine e_ldA (lvg_ne g0 rfl (by decide)) ?_
  refine e_gR hM.1 (hM.2.1 31 (by decide)).1 ?_
  refine e_cN 10 rfl ?_
  refine e_ldI (lvg_ne g1 rfl (by decide)) ?_
  refine e_mul ?_
  refine e_ldI lvg_self ?_
  refine e_add ?_
  refine e_aE (N := 40000) (kdA (k := 31) hM (by decide) rfl) (lnA (k := 31) hM (by decide) rfl) (by omega) (by decide) ?_
  refine e_mA (N := 80) (k := 18) hM ir (by decide) (kdA (k := 18) hM (by decide) rfl) (lnA (k := 18) hM (by decide) rfl) (by omega) (by decide) (fun N e => nomatch (show (none : Option Nat) = some N from e)) (fun e => absurd e (by decide)) (fun ir1 => ?_)
  refine e_inc lvg_self ?_
  refine u_X8_noteComes_108 ?_
  unfold bX8_noteComes_108
  refine e_ldI lvg_self ?_
  refine e_cN 5 rfl ?_
  refine ⟨fun z => absurd z (by decide), fun _ => ?_⟩
  refine e_ldA (lvg_ne (lvg_ne g0 rfl (by decide)) rfl (by decide)) ?_
  refine e_gR hM.1 (hM.2.1 18 (by decide)).1 ?_
  refine e_cN 5 rfl ?_
  refine e_ldI (lvg_ne (lvg_ne g2 rfl (by decide)) rfl (by decide)) ?_
  refine e_mul ?_
  refine e_ldI lvg_self ?_
  refine e_add ?_
  refine e_ldA (lvg_ne (lvg_ne g0 rfl (by decide)) rfl (by decide)) ?_
  refine e_gR hM.1 (hM.2.1 31 (by decide)).1 ?_
  refine e_cN 10 rfl ?_
  refine e_ldI (lvg_ne (lvg_ne g1 rfl (by decide)) rfl (by decide)) ?_
  refine e_mul ?_
  refine e_ldI lvg_self ?_
  refine e_add ?_
  refine e_aE (N := 40000) (kdA (k := 31) hM (by decide) rfl) (lnA (k := 31) hM (by decide) rfl) (by omega) (by decide) ?_
  refine e_mA (N := 80) (k := 18) hM ir1 (by decide) (kdA (k := 18) hM (by decide) rfl) (lnA (k := 18) hM (by decide) rfl) (by omega) (by decide) (fun N e => nomatch (show (none : Option Nat) = some N from e)) (fun e => absurd e (by decide)) (fun ir3 => ?_)
  refine e_inc lvg_self ?_
  refine u_X8_noteComes_108 ?_
  unfold bX8_noteComes_108
  refine e_ldI lvg_self ?_
  refine e_cN 5 rfl ?_
  refine ⟨fun z => absurd z (by decide), fun _ => ?_⟩
  refine e_ldA (lvg_ne (lvg_ne (lvg_ne g0 rfl (by decide)) rfl (by decide)) rfl (by decide)) ?_
  refine e_gR hM.1 (hM.2.1 18 (by decide)).1 ?_
  refine e_cN 5 rfl ?_
  refine e_ldI (lvg_ne (lvg_ne (lvg_ne g2 rfl (by decide)) rfl (by decide)) rfl (by decide)) ?_
  refine e_mul ?_
  refine e_ldI lvg_self ?_
  refine e_add ?_
  refine e_ldA (lvg_ne (lvg_ne (lvg_ne g0 rfl (by decide)) rfl (by decide)) rfl (by decide)) ?_
  refine e_gR hM.1 (hM.2.1 31 (by decide)).1 ?_
  refine e_cN 10 rfl ?_
  refine e_ldI (lvg_ne (lvg_ne (lvg_ne g1 rfl (by decide)) rfl (by decide)) rfl (by decide)) ?_
  refine e_mul ?_
  refine e_ldI lvg_self ?_
  refine e_add ?_
  refine e_aE (N := 40000) (kdA (k := 31) hM (by decide) rfl) (lnA (k := 31) hM (by decide) rfl) (by omega) (by decide) ?_
  refine e_mA (N := 80) (k := 18) hM ir3 (by decide) (kdA (k := 18) hM (by decide) rfl) (lnA (k := 18) hM (by decide) rfl) (by omega) (by decide) (fun N e => nomatch (show (none : Option Nat) = some N from e)) (fun e => absurd e (by decide)) (fun ir5 => ?_)
  refine e_inc lvg_self ?_
  refine u_X8_noteComes_108 ?_
  unfold bX8_noteComes_108
  refine e_ldI lvg_self ?_
  refine e_cN 5 rfl ?_
  refine ⟨fun z => absurd z (by decide), fun _ => ?_⟩
  refine e_ldA (lvg_ne (lvg_ne (lvg_ne (lvg_ne g0 rfl (by decide)) rfl (by decide)) rfl (by decide)) rfl (by decide)) ?_
  refine e_gR hM.1 (hM.2.1 18 (by decide)).1 ?_
  refine e_cN 5 rfl ?_
  refine e_ldI (lvg_ne (lvg_ne (lvg_ne (lvg_ne g2 rfl (by decide)) rfl (by decide)) rfl (by decide)) rfl (by decide)) ?_
  refine e_mul ?_
  refine e_ldI lvg_self ?_
  refine e_add ?_
  refine e_ldA (lvg_ne (lvg_ne (lvg_ne (lvg_ne g0 rfl (by decide)) rfl (by decide)) rfl (by decide)) rfl (by decide)) ?_
  refine e_gR hM.1 (hM.2.1 31 (by decide)).1 ?_
  refine e_cN 10 rfl ?_
  refine e_ldI (lvg_ne (lvg_ne (lvg_ne (lvg_ne g1 rfl (by decide)) rfl (by decide)) rfl (by decide)) rfl (by decide)) ?_
  refine e_mul ?_
  refine e_ldI lvg_self ?_
  refine e_add ?_
  refine e_aE (N := 40000) (kdA (k := 31) hM (by decide) rfl) (lnA (k := 31) hM (by decide) rfl) (by omega) (by decide) ?_
  refine e_mA (N := 80) (k := 18) hM ir5 (by decide) (kdA (k := 18) hM (by decide) rfl) (lnA (k := 18) hM (by decide) rfl) (by omega) (by decide) (fun N e => nomatch (show (none : Option Nat) = some N from e)) (fun e => absurd e (by decide)) (fun ir7 => ?_)
  refine e_inc lvg_self ?_
  refine u_X8_noteComes_108 ?_
  unfold bX8_noteComes_108
  refine e_ldI lvg_self ?_
  refine e_cN 5 rfl ?_
  refine ⟨fun z => absurd z (by decide), fun _ => ?_⟩
  refine e_ldA (lvg_ne (lvg_ne (lvg_ne (lvg_ne (lvg_ne g0 rfl (by decide)) rfl (by decide)) rfl (by decide)) rfl (by decide)) rfl (by decide)) ?_
  refine e_gR hM.1 (hM.2.1 18 (by decide)).1 ?_
  refine e_cN 5 rfl ?_
  refine e_ldI (lvg_ne (lvg_ne (lvg_ne (lvg_ne (lvg_ne g2 rfl (by decide)) rfl (by decide)) rfl (by decide)) rfl (by decide)) rfl (by decide)) ?_
  refine e_mul ?_
  refine e_ldI lvg_self ?_
  refine e_add ?_
  refine e_ldA (lvg_ne (lvg_ne (lvg_ne (lvg_ne (lvg_ne g0 rfl (by decide)) rfl (by decide)) rfl (by decide)) rfl (by decide)) rfl (by decide)) ?_
  refine e_gR hM.1 (hM.2.1 31 (by decide)).1 ?_
  refine e_cN 10 rfl ?_
  refine e_ldI (lvg_ne (lvg_ne (lvg_ne (lvg_ne (lvg_ne g1 rfl (by decide)) rfl (by decide)) rfl (by decide)) rfl (by decide)) rfl (by decide)) ?_
  refine e_mul ?_
  refine e_ldI lvg_self ?_
  refine e_add ?_
  refine e_aE (N := 40000) (kdA (k := 31) hM (by decide) rfl) (lnA (k := 31) hM (by decide) rfl) (by omega) (by decide) ?_
  refine e_mA (N := 80) (k := 18) hM ir7 (by decide) (kdA (k := 18) hM (by decide) rfl) (lnA (k := 18) hM (by decide) rfl) (by omega) (by decide) (fun N e => nomatch (show (none : Option Nat) = some N from e)) (fun e => absurd e (by decide)) (fun ir9 => ?_)
  refine e_inc lvg_self ?_
  refine u_X8_noteComes_108 ?_
  unfold bX8_noteComes_108
  refine e_ldI lvg_self ?_
  refine e_cN 5 rfl ?_
  refine ⟨fun _ => ?_, fun z => absurd (by decide) z⟩
  refine u_X8_noteComes_143 ?_
  unfold bX8_noteComes_143
  refine e_ldI (lvg_ne (lvg_ne (lvg_ne (lvg_ne (lvg_ne (lvg_ne g3 rfl (by decide)) rfl (by decide)) rfl (by decide)) rfl (by decide)) rfl (by decide)) rfl (by decide)) ?_
  refine ⟨fun h11 => ?_, fun h11 => ?_⟩
  · replace K := kx_p h11 K
    refine e_ldA (lvg_ne (lvg_ne (lvg_ne (lvg_ne (lvg_ne (lvg_ne g0 rfl (by decide)) rfl (by decide)) rfl (by decide)) rfl (by decide)) rfl (by decide)) rfl (by decide)) ?_
    refine e_gR hM.1 (hM.2.1 18 (by decide)).1 ?_
    refine e_cN 5 rfl ?_
    refine e_ldI (lvg_ne (lvg_ne (lvg_ne (lvg_ne (lvg_ne (lvg_ne g2 rfl (by decide)) rfl (by decide)) rfl (by decide)) rfl (by decide)) rfl (by decide)) rfl (by decide)) ?_
    refine e_mul ?_
    refine e_cN 4 rfl ?_
    refine e_add ?_
    refine e_du2 ?_
    refine e_aE (N := 80) (kdA (k := 18) hM (by decide) rfl) (lnA (k := 18) hM (by decide) rfl) (by omega) (by decide) ?_
    refine e_cI ?_
    refine e_bopE ?_
    refine e_mA (N := 80) (k := 18) hM ir9 (by decide) (kdA (k := 18) hM (by decide) rfl) (lnA (k := 18) hM (by decide) rfl) (by omega) (by decide) (fun N e => nomatch (show (none : Option Nat) = some N from e)) (fun e => absurd e (by decide)) (fun ir12 => ?_)
    exact y_X8_noteComes_162 hM ht hx ir12   (lvg_ne (lvg_ne (lvg_ne (lvg_ne (lvg_ne (lvg_ne g0 rfl (by decide)) rfl (by decide)) rfl (by decide)) rfl (by decide)) rfl (by decide)) rfl (by decide)) (lvg_ne (lvg_ne (lvg_ne (lvg_ne (lvg_ne (lvg_ne g2 rfl (by decide)) rfl (by decide)) rfl (by decide)) rfl (by decide)) rfl (by decide)) rfl (by decide)) (lvg_ne (lvg_ne (lvg_ne (lvg_ne (lvg_ne (lvg_ne g4 rfl (by decide)) rfl (by decide)) rfl (by decide)) rfl (by decide)) rfl (by decide)) rfl (by decide))  (by omega) K
  · replace K := kx_n h11 K
    exact y_X8_noteComes_162 hM ht hx ir9   (lvg_ne (lvg_ne (lvg_ne (lvg_ne (lvg_ne (lvg_ne g0 rfl (by decide)) rfl (by decide)) rfl (by decide)) rfl (by decide)) rfl (by decide)) rfl (by decide)) (lvg_ne (lvg_ne (lvg_ne (lvg_ne (lvg_ne (lvg_ne g2 rfl (by decide)) rfl (by decide)) rfl (by decide)) rfl (by decide)) rfl (by decide)) rfl (by decide)) (lvg_ne (lvg_ne (lvg_ne (lvg_ne (lvg_ne (lvg_ne g4 rfl (by decide)) rfl (by decide)) rfl (by decide)) rfl (by decide)) rfl (by decide)) rfl (by decide))  (by omega) K
def g_X8_noteComes_8_5 (I : Nat → Nat → Int32) (m : Nat) (A : Nat → Nat) (t : Nat) (x : Nat)  (w3 : Int32) (w4 : Int32) : Nat → Nat → Int32 := g_X8_noteComes_105 I m A t x  w3 w4
theorem y_X8_noteComes_8_5 {Q : Option Value → MM → Prop} {S : MM} {m : Nat} {A : Nat → Nat} {t : Nat} {x : Nat}  {w3 : Int32} {w4 : Int32} {n : Nat} {lv : Lv} (hM : MS S m A) (ht : t < 4000) (hx : x < 16) (ir : IM S m A)   (g0 : lvg lv 0 = some (.ref m)) (g1 : lvg lv 1 = some (.int (nI t))) (g2 : lvg lv 2 = some (.int (nI x))) (g3 : lvg lv 3 = some (.int w3)) (g4 : lvg lv 4 = some (.int w4)) (g5 : lvg lv 5 = some (.int (nI 5)))  (hn : 13 ≤ n) (K : KVM m A Q S (g_X8_noteComes_8_5 (sI S) m A t x  w3 w4)) : wpn (kX8_noteComes Q) n 8 lv [] S 0 0 := by
  obtain ⟨d, rfl⟩ : ∃ d, n = d + 13 := ⟨n - 13, by omega⟩
  unfold g_X8_noteComes_8_5 at K
  refine u_X8_noteComes_8 ?_
  unfold bX8_noteComes_8
  refine e_ldI g5 ?_
  refine e_cN 5 rfl ?_
  refine ⟨fun _ => ?_, fun z => absurd (by decide) z⟩
  exact y_X8_noteComes_105 hM ht hx ir   g0 g1 g2 g3 g4  (by omega) K
def g_X8_noteComes_98_4 (I : Nat → Nat → Int32) (m : Nat) (A : Nat → Nat) (t : Nat) (x : Nat)  (w4 : Int32) (s0 : Int32) : Nat → Nat → Int32 := g_X8_noteComes_8_5 I m A t x  s0 w4
theorem y_X8_noteComes_98_4 {Q : Option Value → MM → Prop} {S : MM} {m : Nat} {A : Nat → Nat} {t : Nat} {x : Nat}  {w4 : Int32} {s0 : Int32} {n : Nat} {lv : Lv} (hM : MS S m A) (ht : t < 4000) (hx : x < 16) (ir : IM S m A)   (g0 : lvg lv 0 = some (.ref m)) (g1 : lvg lv 1 = some (.int (nI t))) (g2 : lvg lv 2 = some (.int (nI x))) (g4 : lvg lv 4 = some (.int w4)) (g5 : lvg lv 5 = some (.int (nI 4)))  (hn : 14 ≤ n) (K : KVM m A Q S (g_X8_noteComes_98_4 (sI S) m A t x  w4 s0)) : wpn (kX8_noteComes Q) n 98 lv [.int s0] S 0 0 := by
  obtain ⟨d, rfl⟩ : ∃ d, n = d + 14 := ⟨n - 14, by omega⟩
  unfold g_X8_noteComes_98_4 at K
  refine u_X8_noteComes_98 ?_
  unfold bX8_noteComes_98
  refine e_stI ?_
  refine e_inc (lvg_ne g5 rfl (by decide)) ?_
  exact y_X8_noteComes_8_5 hM ht hx ir   (lvg_ne (lvg_ne g0 rfl (by decide)) rfl (by decide)) (lvg_ne (lvg_ne g1 rfl (by decide)) rfl (by decide)) (lvg_ne (lvg_ne g2 rfl (by decide)) rfl (by decide)) (lvg_ne lvg_self rfl (by decide)) (lvg_ne (lvg_ne g4 rfl (by decide)) rfl (by decide)) lvg_self  (by omega) K
def g_X8_noteComes_52_4 (I : Nat → Nat → Int32) (m : Nat) (A : Nat → Nat) (t : Nat) (x : Nat)  (w3 : Int32) (w6 : Int32) (s0 : Int32) : Nat → Nat → Int32 := if w3 = 0 then (g_X8_noteComes_98_4 I m A t x  s0 (nI 0)) else (if (w6 &&& (nI 4)) = ((f_X8_bits I m A x) &&& (nI 4)) then (g_X8_noteComes_98_4 I m A t x  s0 (nI 1)) else (g_X8_noteComes_98_4 I m A t x  s0 (nI 0)))
theorem y_X8_noteComes_52_4 {Q : Option Value → MM → Prop} {S : MM} {m : Nat} {A : Nat → Nat} {t : Nat} {x : Nat}  {w3 : Int32} {w6 : Int32} {s0 : Int32} {n : Nat} {lv : Lv} (hM : MS S m A) (ht : t < 4000) (hx : x < 16) (ir : IM S m A)   (g0 : lvg lv 0 = some (.ref m)) (g1 : lvg lv 1 = some (.int (nI t))) (g2 : lvg lv 2 = some (.int (nI x))) (g3 : lvg lv 3 = some (.int w3)) (g5 : lvg lv 5 = some (.int (nI 4))) (g6 : lvg lv 6 = some (.int w6))  (hn : 17 ≤ n) (K : KVM m A Q S (g_X8_noteComes_52_4 (sI S) m A t x  w3 w6 s0)) : wpn (kX8_noteComes Q) n 52 lv [.int s0] S 0 0 := by
  obtain ⟨d, rfl⟩ : ∃ d, n = d + 17 := ⟨n - 17, by omega⟩
  unfold g_X8_noteComes_52_4 at K
  refine u_X8_noteComes_52 ?_
  unfold bX8_noteComes_52
  refine e_stI ?_
  refine e_ldI (lvg_ne g3 rfl (by decide)) ?_
  refine ⟨fun h1 => ?_, fun h1 => ?_⟩
  · replace K := kx_p h1 K
    refine u_X8_noteComes_97 ?_
    unfold bX8_noteComes_97
    refine e_cN 0 rfl ?_
    exact y_X8_noteComes_98_4 hM ht hx ir   (lvg_ne g0 rfl (by decide)) (lvg_ne g1 rfl (by decide)) (lvg_ne g2 rfl (by decide)) lvg_self (lvg_ne g5 rfl (by decide))  (by omega) K
  · replace K := kx_n h1 K
    refine e_ldI (lvg_ne g5 rfl (by decide)) ?_
    refine e_cN 4 rfl ?_
    refine ⟨fun _ => ?_, fun z => absurd (by decide) z⟩
    refine u_X8_noteComes_79 ?_
    unfold bX8_noteComes_79
    refine e_ldI (lvg_ne g6 rfl (by decide)) ?_
    refine e_cN 4 rfl ?_
    refine e_bopE ?_
    refine e_ldA (lvg_ne g0 rfl (by decide)) ?_
    refine e_ldI (lvg_ne g2 rfl (by decide)) ?_
    refine And.intro hM.1 (And.intro ⟨by decide, by decide⟩ (x_X8_bits hM (by omega) ir (KP_i ?_)))
    refine e_cN 4 rfl ?_
    refine e_bopE ?_
    refine ⟨fun h2 => ?_, fun h2 => ?_⟩
    · replace K := kx_p h2 K
      refine u_X8_noteComes_93 ?_
      unfold bX8_noteComes_93
      refine e_cN 1 rfl ?_
      exact y_X8_noteComes_98_4 hM ht hx ir   (lvg_ne g0 rfl (by decide)) (lvg_ne g1 rfl (by decide)) (lvg_ne g2 rfl (by decide)) lvg_self (lvg_ne g5 rfl (by decide))  (by omega) K
    · replace K := kx_n h2 K
      refine u_X8_noteComes_97 ?_
      unfold bX8_noteComes_97
      refine e_cN 0 rfl ?_
      exact y_X8_noteComes_98_4 hM ht hx ir   (lvg_ne g0 rfl (by decide)) (lvg_ne g1 rfl (by decide)) (lvg_ne g2 rfl (by decide)) lvg_self (lvg_ne g5 rfl (by decide))  (by omega) K
def g_X8_noteComes_8_4 (I : Nat → Nat → Int32) (m : Nat) (A : Nat → Nat) (t : Nat) (x : Nat)  (w3 : Int32) (w4 : Int32) : Nat → Nat → Int32 := if w4 = 0 then (g_X8_noteComes_52_4 I m A t x  w3 (I (A 31) (((10 * t) + 5) + 4)) (nI 0)) else (if (I (A 31) (((10 * t) + 5) + 4)) = (f_own4 I m A x) then (g_X8_noteComes_52_4 I m A t x  w3 (I (A 31) (((10 * t) + 5) + 4)) (nI 1)) else (g_X8_noteComes_52_4 I m A t x  w3 (I (A 31) (((10 * t) + 5) + 4)) (nI 0)))
theorem y_X8_noteComes_8_4 {Q : Option Value → MM → Prop} {S : MM} {m : Nat} {A : Nat → Nat} {t : Nat} {x : Nat}  {w3 : Int32} {w4 : Int32} {n : Nat} {lv : Lv} (hM : MS S m A) (ht : t < 4000) (hx : x < 16) (ir : IM S m A)   (g0 : lvg lv 0 = some (.ref m)) (g1 : lvg lv 1 = some (.int (nI t))) (g2 : lvg lv 2 = some (.int (nI x))) (g3 : lvg lv 3 = some (.int w3)) (g4 : lvg lv 4 = some (.int w4)) (g5 : lvg lv 5 = some (.int (nI 4)))  (hn : 19 ≤ n) (K : KVM m A Q S (g_X8_noteComes_8_4 (sI S) m A t x  w3 w4)) : wpn (kX8_noteComes Q) n 8 lv [] S 0 0 := by
  obtain ⟨d, rfl⟩ : ∃ d, n = d + 19 := ⟨n - 19, by omega⟩
  unfold g_X8_noteComes_8_4 at K
  refine u_X8_noteComes_8 ?_
  unfold bX8_noteComes_8
  refine e_ldI g5 ?_
  refine e_cN 5 rfl ?_
  refine ⟨fun z => absurd z (by decide), fun _ => ?_⟩
  refine e_ldA g0 ?_
  refine e_gR hM.1 (hM.2.1 31 (by decide)).1 ?_
  refine e_cN 10 rfl ?_
  refine e_ldI g1 ?_
  refine e_mul ?_
  refine e_cN 5 rfl ?_
  refine e_add ?_
  refine e_ldI g5 ?_
  refine e_add ?_
  refine e_aE (N := 40000) (kdA (k := 31) hM (by decide) rfl) (lnA (k := 31) hM (by decide) rfl) (by omega) (by decide) ?_
  refine e_stI ?_
  refine e_ldI (lvg_ne g4 rfl (by decide)) ?_
  refine ⟨fun h1 => ?_, fun h1 => ?_⟩
  · replace K := kx_p h1 K
    refine u_X8_noteComes_51 ?_
    unfold bX8_noteComes_51
    refine e_cN 0 rfl ?_
    exact y_X8_noteComes_52_4 hM ht hx ir   (lvg_ne g0 rfl (by decide)) (lvg_ne g1 rfl (by decide)) (lvg_ne g2 rfl (by decide)) (lvg_ne g3 rfl (by decide)) (lvg_ne g5 rfl (by decide)) lvg_self  (by omega) K
  · replace K := kx_n h1 K
    refine e_ldI lvg_self ?_
    refine e_ldA (lvg_ne g0 rfl (by decide)) ?_
    refine e_ldI (lvg_ne g2 rfl (by decide)) ?_
    refine e_ldI (lvg_ne g5 rfl (by decide)) ?_
    refine And.intro hM.1 (And.intro ⟨by decide, by decide⟩ (x_own4 hM (by omega) ir (KP_i ?_)))
    refine ⟨fun h2 => ?_, fun h2 => ?_⟩
    · replace K := kx_p h2 K
      refine e_cN 1 rfl ?_
      exact y_X8_noteComes_52_4 hM ht hx ir   (lvg_ne g0 rfl (by decide)) (lvg_ne g1 rfl (by decide)) (lvg_ne g2 rfl (by decide)) (lvg_ne g3 rfl (by decide)) (lvg_ne g5 rfl (by decide)) lvg_self  (by omega) K
    · replace K := kx_n h2 K
      refine u_X8_noteComes_51 ?_
      unfold bX8_noteComes_51
      refine e_cN 0 rfl ?_
      exact y_X8_noteComes_52_4 hM ht hx ir   (lvg_ne g0 rfl (by decide)) (lvg_ne g1 rfl (by decide)) (lvg_ne g2 rfl (by decide)) (lvg_ne g3 rfl (by decide)) (lvg_ne g5 rfl (by decide)) lvg_self  (by omega) K
def g_X8_noteComes_98_3 (I : Nat → Nat → Int32) (m : Nat) (A : Nat → Nat) (t : Nat) (x : Nat)  (w4 : Int32) (s0 : Int32) : Nat → Nat → Int32 := g_X8_noteComes_8_4 I m A t x  s0 w4
theorem y_X8_noteComes_98_3 {Q : Option Value → MM → Prop} {S : MM} {m : Nat} {A : Nat → Nat} {t : Nat} {x : Nat}  {w4 : Int32} {s0 : Int32} {n : Nat} {lv : Lv} (hM : MS S m A) (ht : t < 4000) (hx : x < 16) (ir : IM S m A)   (g0 : lvg lv 0 = some (.ref m)) (g1 : lvg lv 1 = some (.int (nI t))) (g2 : lvg lv 2 = some (.int (nI x))) (g4 : lvg lv 4 = some (.int w4)) (g5 : lvg lv 5 = some (.int (nI 3)))  (hn : 20 ≤ n) (K : KVM m A Q S (g_X8_noteComes_98_3 (sI S) m A t x  w4 s0)) : wpn (kX8_noteComes Q) n 98 lv [.int s0] S 0 0 := by
  obtain ⟨d, rfl⟩ : ∃ d, n = d + 20 := ⟨n - 20, by omega⟩
  unfold g_X8_noteComes_98_3 at K
  refine u_X8_noteComes_98 ?_
  unfold bX8_noteComes_98
  refine e_stI ?_
  refine e_inc (lvg_ne g5 rfl (by decide)) ?_
  exact y_X8_noteComes_8_4 hM ht hx ir   (lvg_ne (lvg_ne g0 rfl (by decide)) rfl (by decide)) (lvg_ne (lvg_ne g1 rfl (by decide)) rfl (by decide)) (lvg_ne (lvg_ne g2 rfl (by decide)) rfl (by decide)) (lvg_ne lvg_self rfl (by decide)) (lvg_ne (lvg_ne g4 rfl (by decide)) rfl (by decide)) lvg_self  (by omega) K
def g_X8_noteComes_52_3 (I : Nat → Nat → Int32) (m : Nat) (A : Nat → Nat) (t : Nat) (x : Nat)  (w3 : Int32) (w6 : Int32) (s0 : Int32) : Nat → Nat → Int32 := if w3 = 0 then (g_X8_noteComes_98_3 I m A t x  s0 (nI 0)) else (if w6 = (f_own3 I m A x) then (g_X8_noteComes_98_3 I m A t x  s0 (nI 1)) else (g_X8_noteComes_98_3 I m A t x  s0 (nI 0)))
theorem y_X8_noteComes_52_3 {Q : Option Value → MM → Prop} {S : MM} {m : Nat} {A : Nat → Nat} {t : Nat} {x : Nat}  {w3 : Int32} {w6 : Int32} {s0 : Int32} {n : Nat} {lv : Lv} (hM : MS S m A) (ht : t < 4000) (hx : x < 16) (ir : IM S m A)   (g0 : lvg lv 0 = some (.ref m)) (g1 : lvg lv 1 = some (.int (nI t))) (g2 : lvg lv 2 = some (.int (nI x))) (g3 : lvg lv 3 = some (.int w3)) (g5 : lvg lv 5 = some (.int (nI 3))) (g6 : lvg lv 6 = some (.int w6))  (hn : 22 ≤ n) (K : KVM m A Q S (g_X8_noteComes_52_3 (sI S) m A t x  w3 w6 s0)) : wpn (kX8_noteComes Q) n 52 lv [.int s0] S 0 0 := by
  obtain ⟨d, rfl⟩ : ∃ d, n = d + 22 := ⟨n - 22, by omega⟩
  unfold g_X8_noteComes_52_3 at K
  refine u_X8_noteComes_52 ?_
  unfold bX8_noteComes_52
  refine e_stI ?_
  refine e_ldI (lvg_ne g3 rfl (by decide)) ?_
  refine ⟨fun h1 => ?_, fun h1 => ?_⟩
  · replace K := kx_p h1 K
    refine u_X8_noteComes_97 ?_
    unfold bX8_noteComes_97
    refine e_cN 0 rfl ?_
    exact y_X8_noteComes_98_3 hM ht hx ir   (lvg_ne g0 rfl (by decide)) (lvg_ne g1 rfl (by decide)) (lvg_ne g2 rfl (by decide)) lvg_self (lvg_ne g5 rfl (by decide))  (by omega) K
  · replace K := kx_n h1 K
    refine e_ldI (lvg_ne g5 rfl (by decide)) ?_
    refine e_cN 4 rfl ?_
    refine ⟨fun z => absurd z (by decide), fun _ => ?_⟩
    refine e_ldI (lvg_ne g6 rfl (by decide)) ?_
    refine e_ldA (lvg_ne g0 rfl (by decide)) ?_
    refine e_ldI (lvg_ne g2 rfl (by decide)) ?_
    refine e_ldI (lvg_ne g5 rfl (by decide)) ?_
    refine And.intro hM.1 (And.intro ⟨by decide, by decide⟩ (x_own3 hM (by omega) ir (KP_i ?_)))
    refine ⟨fun h2 => ?_, fun h2 => ?_⟩
    · replace K := kx_p h2 K
      refine u_X8_noteComes_93 ?_
      unfold bX8_noteComes_93
      refine e_cN 1 rfl ?_
      exact y_X8_noteComes_98_3 hM ht hx ir   (lvg_ne g0 rfl (by decide)) (lvg_ne g1 rfl (by decide)) (lvg_ne g2 rfl (by decide)) lvg_self (lvg_ne g5 rfl (by decide))  (by omega) K
    · replace K := kx_n h2 K
      refine u_X8_noteComes_97 ?_
      unfold bX8_noteComes_97
      refine e_cN 0 rfl ?_
      exact y_X8_noteComes_98_3 hM ht hx ir   (lvg_ne g0 rfl (by decide)) (lvg_ne g1 rfl (by decide)) (lvg_ne g2 rfl (by decide)) lvg_self (lvg_ne g5 rfl (by decide))  (by omega) K
def g_X8_noteComes_8_3 (I : Nat → Nat → Int32) (m : Nat) (A : Nat → Nat) (t : Nat) (x : Nat)  (w3 : Int32) (w4 : Int32) : Nat → Nat → Int32 := if w4 = 0 then (g_X8_noteComes_52_3 I m A t x  w3 (I (A 31) (((10 * t) + 5) + 3)) (nI 0)) else (if (I (A 31) (((10 * t) + 5) + 3)) = (f_own3 I m A x) then (g_X8_noteComes_52_3 I m A t x  w3 (I (A 31) (((10 * t) + 5) + 3)) (nI 1)) else (g_X8_noteComes_52_3 I m A t x  w3 (I (A 31) (((10 * t) + 5) + 3)) (nI 0)))
theorem y_X8_noteComes_8_3 {Q : Option Value → MM → Prop} {S : MM} {m : Nat} {A : Nat → Nat} {t : Nat} {x : Nat}  {w3 : Int32} {w4 : Int32} {n : Nat} {lv : Lv} (hM : MS S m A) (ht : t < 4000) (hx : x < 16) (ir : IM S m A)   (g0 : lvg lv 0 = some (.ref m)) (g1 : lvg lv 1 = some (.int (nI t))) (g2 : lvg lv 2 = some (.int (nI x))) (g3 : lvg lv 3 = some (.int w3)) (g4 : lvg lv 4 = some (.int w4)) (g5 : lvg lv 5 = some (.int (nI 3)))  (hn : 24 ≤ n) (K : KVM m A Q S (g_X8_noteComes_8_3 (sI S) m A t x  w3 w4)) : wpn (kX8_noteComes Q) n 8 lv [] S 0 0 := by
  obtain ⟨d, rfl⟩ : ∃ d, n = d + 24 := ⟨n - 24, by omega⟩
  unfold g_X8_noteComes_8_3 at K
  refine u_X8_noteComes_8 ?_
  unfold bX8_noteComes_8
  refine e_ldI g5 ?_
  refine e_cN 5 rfl ?_
  refine ⟨fun z => absurd z (by decide), fun _ => ?_⟩
  refine e_ldA g0 ?_
  refine e_gR hM.1 (hM.2.1 31 (by decide)).1 ?_
  refine e_cN 10 rfl ?_
  refine e_ldI g1 ?_
  refine e_mul ?_
  refine e_cN 5 rfl ?_
  refine e_add ?_
  refine e_ldI g5 ?_
  refine e_add ?_
  refine e_aE (N := 40000) (kdA (k := 31) hM (by decide) rfl) (lnA (k := 31) hM (by decide) rfl) (by omega) (by decide) ?_
  refine e_stI ?_
  refine e_ldI (lvg_ne g4 rfl (by decide)) ?_
  refine ⟨fun h1 => ?_, fun h1 => ?_⟩
  · replace K := kx_p h1 K
    refine u_X8_noteComes_51 ?_
    unfold bX8_noteComes_51
    refine e_cN 0 rfl ?_
    exact y_X8_noteComes_52_3 hM ht hx ir   (lvg_ne g0 rfl (by decide)) (lvg_ne g1 rfl (by decide)) (lvg_ne g2 rfl (by decide)) (lvg_ne g3 rfl (by decide)) (lvg_ne g5 rfl (by decide)) lvg_self  (by omega) K
  · replace K := kx_n h1 K
    refine e_ldI lvg_self ?_
    refine e_ldA (lvg_ne g0 rfl (by decide)) ?_
    refine e_ldI (lvg_ne g2 rfl (by decide)) ?_
    refine e_ldI (lvg_ne g5 rfl (by decide)) ?_
    refine And.intro hM.1 (And.intro ⟨by decide, by decide⟩ (x_own3 hM (by omega) ir (KP_i ?_)))
    refine ⟨fun h2 => ?_, fun h2 => ?_⟩
    · replace K := kx_p h2 K
      refine e_cN 1 rfl ?_
      exact y_X8_noteComes_52_3 hM ht hx ir   (lvg_ne g0 rfl (by decide)) (lvg_ne g1 rfl (by decide)) (lvg_ne g2 rfl (by decide)) (lvg_ne g3 rfl (by decide)) (lvg_ne g5 rfl (by decide)) lvg_self  (by omega) K
    · replace K := kx_n h2 K
      refine u_X8_noteComes_51 ?_
      unfold bX8_noteComes_51
      refine e_cN 0 rfl ?_
      exact y_X8_noteComes_52_3 hM ht hx ir   (lvg_ne g0 rfl (by decide)) (lvg_ne g1 rfl (by decide)) (lvg_ne g2 rfl (by decide)) (lvg_ne g3 rfl (by decide)) (lvg_ne g5 rfl (by decide)) lvg_self  (by omega) K
def g_X8_noteComes_98_2 (I : Nat → Nat → Int32) (m : Nat) (A : Nat → Nat) (t : Nat) (x : Nat)  (w4 : Int32) (s0 : Int32) : Nat → Nat → Int32 := g_X8_noteComes_8_3 I m A t x  s0 w4
theorem y_X8_noteComes_98_2 {Q : Option Value → MM → Prop} {S : MM} {m : Nat} {A : Nat → Nat} {t : Nat} {x : Nat}  {w4 : Int32} {s0 : Int32} {n : Nat} {lv : Lv} (hM : MS S m A) (ht : t < 4000) (hx : x < 16) (ir : IM S m A)   (g0 : lvg lv 0 = some (.ref m)) (g1 : lvg lv 1 = some (.int (nI t))) (g2 : lvg lv 2 = some (.int (nI x))) (g4 : lvg lv 4 = some (.int w4)) (g5 : lvg lv 5 = some (.int (nI 2)))  (hn : 25 ≤ n) (K : KVM m A Q S (g_X8_noteComes_98_2 (sI S) m A t x  w4 s0)) : wpn (kX8_noteComes Q) n 98 lv [.int s0] S 0 0 := by
  obtain ⟨d, rfl⟩ : ∃ d, n = d + 25 := ⟨n - 25, by omega⟩
  unfold g_X8_noteComes_98_2 at K
  refine u_X8_noteComes_98 ?_
  unfold bX8_noteComes_98
  refine e_stI ?_
  refine e_inc (lvg_ne g5 rfl (by decide)) ?_
  exact y_X8_noteComes_8_3 hM ht hx ir   (lvg_ne (lvg_ne g0 rfl (by decide)) rfl (by decide)) (lvg_ne (lvg_ne g1 rfl (by decide)) rfl (by decide)) (lvg_ne (lvg_ne g2 rfl (by decide)) rfl (by decide)) (lvg_ne lvg_self rfl (by decide)) (lvg_ne (lvg_ne g4 rfl (by decide)) rfl (by decide)) lvg_self  (by omega) K
def g_X8_noteComes_52_2 (I : Nat → Nat → Int32) (m : Nat) (A : Nat → Nat) (t : Nat) (x : Nat)  (w3 : Int32) (w6 : Int32) (s0 : Int32) : Nat → Nat → Int32 := if w3 = 0 then (g_X8_noteComes_98_2 I m A t x  s0 (nI 0)) else (if w6 = (f_own2 I m A x) then (g_X8_noteComes_98_2 I m A t x  s0 (nI 1)) else (g_X8_noteComes_98_2 I m A t x  s0 (nI 0)))
theorem y_X8_noteComes_52_2 {Q : Option Value → MM → Prop} {S : MM} {m : Nat} {A : Nat → Nat} {t : Nat} {x : Nat}  {w3 : Int32} {w6 : Int32} {s0 : Int32} {n : Nat} {lv : Lv} (hM : MS S m A) (ht : t < 4000) (hx : x < 16) (ir : IM S m A)   (g0 : lvg lv 0 = some (.ref m)) (g1 : lvg lv 1 = some (.int (nI t))) (g2 : lvg lv 2 = some (.int (nI x))) (g3 : lvg lv 3 = some (.int w3)) (g5 : lvg lv 5 = some (.int (nI 2))) (g6 : lvg lv 6 = some (.int w6))  (hn : 27 ≤ n) (K : KVM m A Q S (g_X8_noteComes_52_2 (sI S) m A t x  w3 w6 s0)) : wpn (kX8_noteComes Q) n 52 lv [.int s0] S 0 0 := by
  obtain ⟨d, rfl⟩ : ∃ d, n = d + 27 := ⟨n - 27, by omega⟩
  unfold g_X8_noteComes_52_2 at K
  refine u_X8_noteComes_52 ?_
  unfold bX8_noteComes_52
  refine e_stI ?_
  refine e_ldI (lvg_ne g3 rfl (by decide)) ?_
  refine ⟨fun h1 => ?_, fun h1 => ?_⟩
  · replace K := kx_p h1 K
    refine u_X8_noteComes_97 ?_
    unfold bX8_noteComes_97
    refine e_cN 0 rfl ?_
    exact y_X8_noteComes_98_2 hM ht hx ir   (lvg_ne g0 rfl (by decide)) (lvg_ne g1 rfl (by decide)) (lvg_ne g2 rfl (by decide)) lvg_self (lvg_ne g5 rfl (by decide))  (by omega) K
  · replace K := kx_n h1 K
    refine e_ldI (lvg_ne g5 rfl (by decide)) ?_
    refine e_cN 4 rfl ?_
    refine ⟨fun z => absurd z (by decide), fun _ => ?_⟩
    refine e_ldI (lvg_ne g6 rfl (by decide)) ?_
    refine e_ldA (lvg_ne g0 rfl (by decide)) ?_
    refine e_ldI (lvg_ne g2 rfl (by decide)) ?_
    refine e_ldI (lvg_ne g5 rfl (by decide)) ?_
    refine And.intro hM.1 (And.intro ⟨by decide, by decide⟩ (x_own2 hM (by omega) ir (KP_i ?_)))
    refine ⟨fun h2 => ?_, fun h2 => ?_⟩
    · replace K := kx_p h2 K
      refine u_X8_noteComes_93 ?_
      unfold bX8_noteComes_93
      refine e_cN 1 rfl ?_
      exact y_X8_noteComes_98_2 hM ht hx ir   (lvg_ne g0 rfl (by decide)) (lvg_ne g1 rfl (by decide)) (lvg_ne g2 rfl (by decide)) lvg_self (lvg_ne g5 rfl (by decide))  (by omega) K
    · replace K := kx_n h2 K
      refine u_X8_noteComes_97 ?_
      unfold bX8_noteComes_97
      refine e_cN 0 rfl ?_
      exact y_X8_noteComes_98_2 hM ht hx ir   (lvg_ne g0 rfl (by decide)) (lvg_ne g1 rfl (by decide)) (lvg_ne g2 rfl (by decide)) lvg_self (lvg_ne g5 rfl (by decide))  (by omega) K
def g_X8_noteComes_8_2 (I : Nat → Nat → Int32) (m : Nat) (A : Nat → Nat) (t : Nat) (x : Nat)  (w3 : Int32) (w4 : Int32) : Nat → Nat → Int32 := if w4 = 0 then (g_X8_noteComes_52_2 I m A t x  w3 (I (A 31) (((10 * t) + 5) + 2)) (nI 0)) else (if (I (A 31) (((10 * t) + 5) + 2)) = (f_own2 I m A x) then (g_X8_noteComes_52_2 I m A t x  w3 (I (A 31) (((10 * t) + 5) + 2)) (nI 1)) else (g_X8_noteComes_52_2 I m A t x  w3 (I (A 31) (((10 * t) + 5) + 2)) (nI 0)))
theorem y_X8_noteComes_8_2 {Q : Option Value → MM → Prop} {S : MM} {m : Nat} {A : Nat → Nat} {t : Nat} {x : Nat}  {w3 : Int32} {w4 : Int32} {n : Nat} {lv : Lv} (hM : MS S m A) (ht : t < 4000) (hx : x < 16) (ir : IM S m A)   (g0 : lvg lv 0 = some (.ref m)) (g1 : lvg lv 1 = some (.int (nI t))) (g2 : lvg lv 2 = some (.int (nI x))) (g3 : lvg lv 3 = some (.int w3)) (g4 : lvg lv 4 = some (.int w4)) (g5 : lvg lv 5 = some (.int (nI 2)))  (hn : 29 ≤ n) (K : KVM m A Q S (g_X8_noteComes_8_2 (sI S) m A t x  w3 w4)) : wpn (kX8_noteComes Q) n 8 lv [] S 0 0 := by
  obtain ⟨d, rfl⟩ : ∃ d, n = d + 29 := ⟨n - 29, by omega⟩
  unfold g_X8_noteComes_8_2 at K
  refine u_X8_noteComes_8 ?_
  unfold bX8_noteComes_8
  refine e_ldI g5 ?_
  refine e_cN 5 rfl ?_
  refine ⟨fun z => absurd z (by decide), fun _ => ?_⟩
  refine e_ldA g0 ?_
  refine e_gR hM.1 (hM.2.1 31 (by decide)).1 ?_
  refine e_cN 10 rfl ?_
  refine e_ldI g1 ?_
  refine e_mul ?_
  refine e_cN 5 rfl ?_
  refine e_add ?_
  refine e_ldI g5 ?_
  refine e_add ?_
  refine e_aE (N := 40000) (kdA (k := 31) hM (by decide) rfl) (lnA (k := 31) hM (by decide) rfl) (by omega) (by decide) ?_
  refine e_stI ?_
  refine e_ldI (lvg_ne g4 rfl (by decide)) ?_
  refine ⟨fun h1 => ?_, fun h1 => ?_⟩
  · replace K := kx_p h1 K
    refine u_X8_noteComes_51 ?_
    unfold bX8_noteComes_51
    refine e_cN 0 rfl ?_
    exact y_X8_noteComes_52_2 hM ht hx ir   (lvg_ne g0 rfl (by decide)) (lvg_ne g1 rfl (by decide)) (lvg_ne g2 rfl (by decide)) (lvg_ne g3 rfl (by decide)) (lvg_ne g5 rfl (by decide)) lvg_self  (by omega) K
  · replace K := kx_n h1 K
    refine e_ldI lvg_self ?_
    refine e_ldA (lvg_ne g0 rfl (by decide)) ?_
    refine e_ldI (lvg_ne g2 rfl (by decide)) ?_
    refine e_ldI (lvg_ne g5 rfl (by decide)) ?_
    refine And.intro hM.1 (And.intro ⟨by decide, by decide⟩ (x_own2 hM (by omega) ir (KP_i ?_)))
    refine ⟨fun h2 => ?_, fun h2 => ?_⟩
    · replace K := kx_p h2 K
      refine e_cN 1 rfl ?_
      exact y_X8_noteComes_52_2 hM ht hx ir   (lvg_ne g0 rfl (by decide)) (lvg_ne g1 rfl (by decide)) (lvg_ne g2 rfl (by decide)) (lvg_ne g3 rfl (by decide)) (lvg_ne g5 rfl (by decide)) lvg_self  (by omega) K
    · replace K := kx_n h2 K
      refine u_X8_noteComes_51 ?_
      unfold bX8_noteComes_51
      refine e_cN 0 rfl ?_
      exact y_X8_noteComes_52_2 hM ht hx ir   (lvg_ne g0 rfl (by decide)) (lvg_ne g1 rfl (by decide)) (lvg_ne g2 rfl (by decide)) (lvg_ne g3 rfl (by decide)) (lvg_ne g5 rfl (by decide)) lvg_self  (by omega) K
def g_X8_noteComes_98_1 (I : Nat → Nat → Int32) (m : Nat) (A : Nat → Nat) (t : Nat) (x : Nat)  (w4 : Int32) (s0 : Int32) : Nat → Nat → Int32 := g_X8_noteComes_8_2 I m A t x  s0 w4
theorem y_X8_noteComes_98_1 {Q : Option Value → MM → Prop} {S : MM} {m : Nat} {A : Nat → Nat} {t : Nat} {x : Nat}  {w4 : Int32} {s0 : Int32} {n : Nat} {lv : Lv} (hM : MS S m A) (ht : t < 4000) (hx : x < 16) (ir : IM S m A)   (g0 : lvg lv 0 = some (.ref m)) (g1 : lvg lv 1 = some (.int (nI t))) (g2 : lvg lv 2 = some (.int (nI x))) (g4 : lvg lv 4 = some (.int w4)) (g5 : lvg lv 5 = some (.int (nI 1)))  (hn : 30 ≤ n) (K : KVM m A Q S (g_X8_noteComes_98_1 (sI S) m A t x  w4 s0)) : wpn (kX8_noteComes Q) n 98 lv [.int s0] S 0 0 := by
  obtain ⟨d, rfl⟩ : ∃ d, n = d + 30 := ⟨n - 30, by omega⟩
  unfold g_X8_noteComes_98_1 at K
  refine u_X8_noteComes_98 ?_
  unfold bX8_noteComes_98
  refine e_stI ?_
  refine e_inc (lvg_ne g5 rfl (by decide)) ?_
  exact y_X8_noteComes_8_2 hM ht hx ir   (lvg_ne (lvg_ne g0 rfl (by decide)) rfl (by decide)) (lvg_ne (lvg_ne g1 rfl (by decide)) rfl (by decide)) (lvg_ne (lvg_ne g2 rfl (by decide)) rfl (by decide)) (lvg_ne lvg_self rfl (by decide)) (lvg_ne (lvg_ne g4 rfl (by decide)) rfl (by decide)) lvg_self  (by omega) K
def g_X8_noteComes_52_1 (I : Nat → Nat → Int32) (m : Nat) (A : Nat → Nat) (t : Nat) (x : Nat)  (w3 : Int32) (w6 : Int32) (s0 : Int32) : Nat → Nat → Int32 := if w3 = 0 then (g_X8_noteComes_98_1 I m A t x  s0 (nI 0)) else (if w6 = (f_own1 I m A x) then (g_X8_noteComes_98_1 I m A t x  s0 (nI 1)) else (g_X8_noteComes_98_1 I m A t x  s0 (nI 0)))
theorem y_X8_noteComes_52_1 {Q : Option Value → MM → Prop} {S : MM} {m : Nat} {A : Nat → Nat} {t : Nat} {x : Nat}  {w3 : Int32} {w6 : Int32} {s0 : Int32} {n : Nat} {lv : Lv} (hM : MS S m A) (ht : t < 4000) (hx : x < 16) (ir : IM S m A)   (g0 : lvg lv 0 = some (.ref m)) (g1 : lvg lv 1 = some (.int (nI t))) (g2 : lvg lv 2 = some (.int (nI x))) (g3 : lvg lv 3 = some (.int w3)) (g5 : lvg lv 5 = some (.int (nI 1))) (g6 : lvg lv 6 = some (.int w6))  (hn : 32 ≤ n) (K : KVM m A Q S (g_X8_noteComes_52_1 (sI S) m A t x  w3 w6 s0)) : wpn (kX8_noteComes Q) n 52 lv [.int s0] S 0 0 := by
  obtain ⟨d, rfl⟩ : ∃ d, n = d + 32 := ⟨n - 32, by omega⟩
  unfold g_X8_noteComes_52_1 at K
  refine u_X8_noteComes_52 ?_
  unfold bX8_noteComes_52
  refine e_stI ?_
  refine e_ldI (lvg_ne g3 rfl (by decide)) ?_
  refine ⟨fun h1 => ?_, fun h1 => ?_⟩
  · replace K := kx_p h1 K
    refine u_X8_noteComes_97 ?_
    unfold bX8_noteComes_97
    refine e_cN 0 rfl ?_
    exact y_X8_noteComes_98_1 hM ht hx ir   (lvg_ne g0 rfl (by decide)) (lvg_ne g1 rfl (by decide)) (lvg_ne g2 rfl (by decide)) lvg_self (lvg_ne g5 rfl (by decide))  (by omega) K
  · replace K := kx_n h1 K
    refine e_ldI (lvg_ne g5 rfl (by decide)) ?_
    refine e_cN 4 rfl ?_
    refine ⟨fun z => absurd z (by decide), fun _ => ?_⟩
    refine e_ldI (lvg_ne g6 rfl (by decide)) ?_
    refine e_ldA (lvg_ne g0 rfl (by decide)) ?_
    refine e_ldI (lvg_ne g2 rfl (by decide)) ?_
    refine e_ldI (lvg_ne g5 rfl (by decide)) ?_
    refine And.intro hM.1 (And.intro ⟨by decide, by decide⟩ (x_own1 hM (by omega) ir (KP_i ?_)))
    refine ⟨fun h2 => ?_, fun h2 => ?_⟩
    · replace K := kx_p h2 K
      refine u_X8_noteComes_93 ?_
      unfold bX8_noteComes_93
      refine e_cN 1 rfl ?_
      exact y_X8_noteComes_98_1 hM ht hx ir   (lvg_ne g0 rfl (by decide)) (lvg_ne g1 rfl (by decide)) (lvg_ne g2 rfl (by decide)) lvg_self (lvg_ne g5 rfl (by decide))  (by omega) K
    · replace K := kx_n h2 K
      refine u_X8_noteComes_97 ?_
      unfold bX8_noteComes_97
      refine e_cN 0 rfl ?_
      exact y_X8_noteComes_98_1 hM ht hx ir   (lvg_ne g0 rfl (by decide)) (lvg_ne g1 rfl (by decide)) (lvg_ne g2 rfl (by decide)) lvg_self (lvg_ne g5 rfl (by decide))  (by omega) K
def g_X8_noteComes_8_1 (I : Nat → Nat → Int32) (m : Nat) (A : Nat → Nat) (t : Nat) (x : Nat)  (w3 : Int32) (w4 : Int32) : Nat → Nat → Int32 := if w4 = 0 then (g_X8_noteComes_52_1 I m A t x  w3 (I (A 31) (((10 * t) + 5) + 1)) (nI 0)) else (if (I (A 31) (((10 * t) + 5) + 1)) = (f_own1 I m A x) then (g_X8_noteComes_52_1 I m A t x  w3 (I (A 31) (((10 * t) + 5) + 1)) (nI 1)) else (g_X8_noteComes_52_1 I m A t x  w3 (I (A 31) (((10 * t) + 5) + 1)) (nI 0)))
theorem y_X8_noteComes_8_1 {Q : Option Value → MM → Prop} {S : MM} {m : Nat} {A : Nat → Nat} {t : Nat} {x : Nat}  {w3 : Int32} {w4 : Int32} {n : Nat} {lv : Lv} (hM : MS S m A) (ht : t < 4000) (hx : x < 16) (ir : IM S m A)   (g0 : lvg lv 0 = some (.ref m)) (g1 : lvg lv 1 = some (.int (nI t))) (g2 : lvg lv 2 = some (.int (nI x))) (g3 : lvg lv 3 = some (.int w3)) (g4 : lvg lv 4 = some (.int w4)) (g5 : lvg lv 5 = some (.int (nI 1)))  (hn : 34 ≤ n) (K : KVM m A Q S (g_X8_noteComes_8_1 (sI S) m A t x  w3 w4)) : wpn (kX8_noteComes Q) n 8 lv [] S 0 0 := by
  obtain ⟨d, rfl⟩ : ∃ d, n = d + 34 := ⟨n - 34, by omega⟩
  unfold g_X8_noteComes_8_1 at K
  refine u_X8_noteComes_8 ?_
  unfold bX8_noteComes_8
  refine e_ldI g5 ?_
  refine e_cN 5 rfl ?_
  refine ⟨fun z => absurd z (by decide), fun _ => ?_⟩
  refine e_ldA g0 ?_
  refine e_gR hM.1 (hM.2.1 31 (by decide)).1 ?_
  refine e_cN 10 rfl ?_
  refine e_ldI g1 ?_
  refine e_mul ?_
  refine e_cN 5 rfl ?_
  refine e_add ?_
  refine e_ldI g5 ?_
  refine e_add ?_
  refine e_aE (N := 40000) (kdA (k := 31) hM (by decide) rfl) (lnA (k := 31) hM (by decide) rfl) (by omega) (by decide) ?_
  refine e_stI ?_
  refine e_ldI (lvg_ne g4 rfl (by decide)) ?_
  refine ⟨fun h1 => ?_, fun h1 => ?_⟩
  · replace K := kx_p h1 K
    refine u_X8_noteComes_51 ?_
    unfold bX8_noteComes_51
    refine e_cN 0 rfl ?_
    exact y_X8_noteComes_52_1 hM ht hx ir   (lvg_ne g0 rfl (by decide)) (lvg_ne g1 rfl (by decide)) (lvg_ne g2 rfl (by decide)) (lvg_ne g3 rfl (by decide)) (lvg_ne g5 rfl (by decide)) lvg_self  (by omega) K
  · replace K := kx_n h1 K
    refine e_ldI lvg_self ?_
    refine e_ldA (lvg_ne g0 rfl (by decide)) ?_
    refine e_ldI (lvg_ne g2 rfl (by decide)) ?_
    refine e_ldI (lvg_ne g5 rfl (by decide)) ?_
    refine And.intro hM.1 (And.intro ⟨by decide, by decide⟩ (x_own1 hM (by omega) ir (KP_i ?_)))
    refine ⟨fun h2 => ?_, fun h2 => ?_⟩
    · replace K := kx_p h2 K
      refine e_cN 1 rfl ?_
      exact y_X8_noteComes_52_1 hM ht hx ir   (lvg_ne g0 rfl (by decide)) (lvg_ne g1 rfl (by decide)) (lvg_ne g2 rfl (by decide)) (lvg_ne g3 rfl (by decide)) (lvg_ne g5 rfl (by decide)) lvg_self  (by omega) K
    · replace K := kx_n h2 K
      refine u_X8_noteComes_51 ?_
      unfold bX8_noteComes_51
      refine e_cN 0 rfl ?_
      exact y_X8_noteComes_52_1 hM ht hx ir   (lvg_ne g0 rfl (by decide)) (lvg_ne g1 rfl (by decide)) (lvg_ne g2 rfl (by decide)) (lvg_ne g3 rfl (by decide)) (lvg_ne g5 rfl (by decide)) lvg_self  (by omega) K
def g_X8_noteComes_98_0 (I : Nat → Nat → Int32) (m : Nat) (A : Nat → Nat) (t : Nat) (x : Nat)  (w4 : Int32) (s0 : Int32) : Nat → Nat → Int32 := g_X8_noteComes_8_1 I m A t x  s0 w4
theorem y_X8_noteComes_98_0 {Q : Option Value → MM → Prop} {S : MM} {m : Nat} {A : Nat → Nat} {t : Nat} {x : Nat}  {w4 : Int32} {s0 : Int32} {n : Nat} {lv : Lv} (hM : MS S m A) (ht : t < 4000) (hx : x < 16) (ir : IM S m A)   (g0 : lvg lv 0 = some (.ref m)) (g1 : lvg lv 1 = some (.int (nI t))) (g2 : lvg lv 2 = some (.int (nI x))) (g4 : lvg lv 4 = some (.int w4)) (g5 : lvg lv 5 = some (.int (nI 0)))  (hn : 35 ≤ n) (K : KVM m A Q S (g_X8_noteComes_98_0 (sI S) m A t x  w4 s0)) : wpn (kX8_noteComes Q) n 98 lv [.int s0] S 0 0 := by
  obtain ⟨d, rfl⟩ : ∃ d, n = d + 35 := ⟨n - 35, by omega⟩
  unfold g_X8_noteComes_98_0 at K
  refine u_X8_noteComes_98 ?_
  unfold bX8_noteComes_98
  refine e_stI ?_
  refine e_inc (lvg_ne g5 rfl (by decide)) ?_
  exact y_X8_noteComes_8_1 hM ht hx ir   (lvg_ne (lvg_ne g0 rfl (by decide)) rfl (by decide)) (lvg_ne (lvg_ne g1 rfl (by decide)) rfl (by decide)) (lvg_ne (lvg_ne g2 rfl (by decide)) rfl (by decide)) (lvg_ne lvg_self rfl (by decide)) (lvg_ne (lvg_ne g4 rfl (by decide)) rfl (by decide)) lvg_self  (by omega) K
def g_X8_noteComes_52_0 (I : Nat → Nat → Int32) (m : Nat) (A : Nat → Nat) (t : Nat) (x : Nat)  (w3 : Int32) (w6 : Int32) (s0 : Int32) : Nat → Nat → Int32 := if w3 = 0 then (g_X8_noteComes_98_0 I m A t x  s0 (nI 0)) else (if w6 = (f_own0 I m A x) then (g_X8_noteComes_98_0 I m A t x  s0 (nI 1)) else (g_X8_noteComes_98_0 I m A t x  s0 (nI 0)))
theorem y_X8_noteComes_52_0 {Q : Option Value → MM → Prop} {S : MM} {m : Nat} {A : Nat → Nat} {t : Nat} {x : Nat}  {w3 : Int32} {w6 : Int32} {s0 : Int32} {n : Nat} {lv : Lv} (hM : MS S m A) (ht : t < 4000) (hx : x < 16) (ir : IM S m A)   (g0 : lvg lv 0 = some (.ref m)) (g1 : lvg lv 1 = some (.int (nI t))) (g2 : lvg lv 2 = some (.int (nI x))) (g3 : lvg lv 3 = some (.int w3)) (g5 : lvg lv 5 = some (.int (nI 0))) (g6 : lvg lv 6 = some (.int w6))  (hn : 37 ≤ n) (K : KVM m A Q S (g_X8_noteComes_52_0 (sI S) m A t x  w3 w6 s0)) : wpn (kX8_noteComes Q) n 52 lv [.int s0] S 0 0 := by
  obtain ⟨d, rfl⟩ : ∃ d, n = d + 37 := ⟨n - 37, by omega⟩
  unfold g_X8_noteComes_52_0 at K
  refine u_X8_noteComes_52 ?_
  unfold bX8_noteComes_52
  refine e_stI ?_
  refine e_ldI (lvg_ne g3 rfl (by decide)) ?_
  refine ⟨fun h1 => ?_, fun h1 => ?_⟩
  · replace K := kx_p h1 K
    refine u_X8_noteComes_97 ?_
    unfold bX8_noteComes_97
    refine e_cN 0 rfl ?_
    exact y_X8_noteComes_98_0 hM ht hx ir   (lvg_ne g0 rfl (by decide)) (lvg_ne g1 rfl (by decide)) (lvg_ne g2 rfl (by decide)) lvg_self (lvg_ne g5 rfl (by decide))  (by omega) K
  · replace K := kx_n h1 K
    refine e_ldI (lvg_ne g5 rfl (by decide)) ?_
    refine e_cN 4 rfl ?_
    refine ⟨fun z => absurd z (by decide), fun _ => ?_⟩
    refine e_ldI (lvg_ne g6 rfl (by decide)) ?_
    refine e_ldA (lvg_ne g0 rfl (by decide)) ?_
    refine e_ldI (lvg_ne g2 rfl (by decide)) ?_
    refine e_ldI (lvg_ne g5 rfl (by decide)) ?_
    refine And.intro hM.1 (And.intro ⟨by decide, by decide⟩ (x_own0 hM (by omega) ir (KP_i ?_)))
    refine ⟨fun h2 => ?_, fun h2 => ?_⟩
    · replace K := kx_p h2 K
      refine u_X8_noteComes_93 ?_
      unfold bX8_noteComes_93
      refine e_cN 1 rfl ?_
      exact y_X8_noteComes_98_0 hM ht hx ir   (lvg_ne g0 rfl (by decide)) (lvg_ne g1 rfl (by decide)) (lvg_ne g2 rfl (by decide)) lvg_self (lvg_ne g5 rfl (by decide))  (by omega) K
    · replace K := kx_n h2 K
      refine u_X8_noteComes_97 ?_
      unfold bX8_noteComes_97
      refine e_cN 0 rfl ?_
      exact y_X8_noteComes_98_0 hM ht hx ir   (lvg_ne g0 rfl (by decide)) (lvg_ne g1 rfl (by decide)) (lvg_ne g2 rfl (by decide)) lvg_self (lvg_ne g5 rfl (by decide))  (by omega) K
def g_X8_noteComes_8_0 (I : Nat → Nat → Int32) (m : Nat) (A : Nat → Nat) (t : Nat) (x : Nat)  (w3 : Int32) (w4 : Int32) : Nat → Nat → Int32 := if w4 = 0 then (g_X8_noteComes_52_0 I m A t x  w3 (I (A 31) (((10 * t) + 5) + 0)) (nI 0)) else (if (I (A 31) (((10 * t) + 5) + 0)) = (f_own0 I m A x) then (g_X8_noteComes_52_0 I m A t x  w3 (I (A 31) (((10 * t) + 5) + 0)) (nI 1)) else (g_X8_noteComes_52_0 I m A t x  w3 (I (A 31) (((10 * t) + 5) + 0)) (nI 0)))
theorem y_X8_noteComes_8_0 {Q : Option Value → MM → Prop} {S : MM} {m : Nat} {A : Nat → Nat} {t : Nat} {x : Nat}  {w3 : Int32} {w4 : Int32} {n : Nat} {lv : Lv} (hM : MS S m A) (ht : t < 4000) (hx : x < 16) (ir : IM S m A)   (g0 : lvg lv 0 = some (.ref m)) (g1 : lvg lv 1 = some (.int (nI t))) (g2 : lvg lv 2 = some (.int (nI x))) (g3 : lvg lv 3 = some (.int w3)) (g4 : lvg lv 4 = some (.int w4)) (g5 : lvg lv 5 = some (.int (nI 0)))  (hn : 39 ≤ n) (K : KVM m A Q S (g_X8_noteComes_8_0 (sI S) m A t x  w3 w4)) : wpn (kX8_noteComes Q) n 8 lv [] S 0 0 := by
  obtain ⟨d, rfl⟩ : ∃ d, n = d + 39 := ⟨n - 39, by omega⟩
  unfold g_X8_noteComes_8_0 at K
  refine u_X8_noteComes_8 ?_
  unfold bX8_noteComes_8
  refine e_ldI g5 ?_
  refine e_cN 5 rfl ?_
  refine ⟨fun z => absurd z (by decide), fun _ => ?_⟩
  refine e_ldA g0 ?_
  refine e_gR hM.1 (hM.2.1 31 (by decide)).1 ?_
  refine e_cN 10 rfl ?_
  refine e_ldI g1 ?_
  refine e_mul ?_
  refine e_cN 5 rfl ?_
  refine e_add ?_
  refine e_ldI g5 ?_
  refine e_add ?_
  refine e_aE (N := 40000) (kdA (k := 31) hM (by decide) rfl) (lnA (k := 31) hM (by decide) rfl) (by omega) (by decide) ?_
  refine e_stI ?_
  refine e_ldI (lvg_ne g4 rfl (by decide)) ?_
  refine ⟨fun h1 => ?_, fun h1 => ?_⟩
  · replace K := kx_p h1 K
    refine u_X8_noteComes_51 ?_
    unfold bX8_noteComes_51
    refine e_cN 0 rfl ?_
    exact y_X8_noteComes_52_0 hM ht hx ir   (lvg_ne g0 rfl (by decide)) (lvg_ne g1 rfl (by decide)) (lvg_ne g2 rfl (by decide)) (lvg_ne g3 rfl (by decide)) (lvg_ne g5 rfl (by decide)) lvg_self  (by omega) K
  · replace K := kx_n h1 K
    refine e_ldI lvg_self ?_
    refine e_ldA (lvg_ne g0 rfl (by decide)) ?_
    refine e_ldI (lvg_ne g2 rfl (by decide)) ?_
    refine e_ldI (lvg_ne g5 rfl (by decide)) ?_
    refine And.intro hM.1 (And.intro ⟨by decide, by decide⟩ (x_own0 hM (by omega) ir (KP_i ?_)))
    refine ⟨fun h2 => ?_, fun h2 => ?_⟩
    · replace K := kx_p h2 K
      refine e_cN 1 rfl ?_
      exact y_X8_noteComes_52_0 hM ht hx ir   (lvg_ne g0 rfl (by decide)) (lvg_ne g1 rfl (by decide)) (lvg_ne g2 rfl (by decide)) (lvg_ne g3 rfl (by decide)) (lvg_ne g5 rfl (by decide)) lvg_self  (by omega) K
    · replace K := kx_n h2 K
      refine u_X8_noteComes_51 ?_
      unfold bX8_noteComes_51
      refine e_cN 0 rfl ?_
      exact y_X8_noteComes_52_0 hM ht hx ir   (lvg_ne g0 rfl (by decide)) (lvg_ne g1 rfl (by decide)) (lvg_ne g2 rfl (by decide)) (lvg_ne g3 rfl (by decide)) (lvg_ne g5 rfl (by decide)) lvg_self  (by omega) K
def f_X8_noteComes (I : Nat → Nat → Int32) (m : Nat) (A : Nat → Nat) (t : Nat) (x : Nat) : Nat → Nat → Int32 := g_X8_noteComes_8_0 I m A t x  (nI 1) (nI 1)
theorem x_X8_noteComes {Q : Option Value → MM → Prop} {S : MM} {m : Nat} {A : Nat → Nat} {t : Nat} {x : Nat} (hM : MS S m A) (ht : t < 4000) (hx : x < 16) (ir : IM S m A)   (K : KVM m A Q S (f_X8_noteComes (sI S) m A t x)) : wX8_noteComes [.ref m, .int (nI t), .int (nI x)] S Q := by
  unfold f_X8_noteComes at K
  refine Exists.intro 40 (u_X8_noteComes_0 ?_)
  unfold bX8_noteComes_0
  refine e_cN 1 rfl ?_
  refine e_stI ?_
  refine e_cN 1 rfl ?_
  refine e_stI ?_
  refine e_cN 0 rfl ?_
  refine e_stI ?_
  exact y_X8_noteComes_8_0 hM ht hx ir   (lvg_ne (lvg_ne (lvg_ne rfl rfl (by decide)) rfl (by decide)) rfl (by decide)) (lvg_ne (lvg_ne (lvg_ne rfl rfl (by decide)) rfl (by decide)) rfl (by decide)) (lvg_ne (lvg_ne (lvg_ne rfl rfl (by decide)) rfl (by decide)) rfl (by decide)) (lvg_ne (lvg_ne lvg_self rfl (by decide)) rfl (by decide)) (lvg_ne lvg_self rfl (by decide)) lvg_self  (by omega) K
theorem nm_g_X8_noteComes_162 {I : Nat → Nat → Int32} {m : Nat} {A : Nat → Nat} {t : Nat} {x : Nat}  {w4 : Int32} {z : Nat} (hz : ∀ k ∈ ([7, 8, 14, 15, 17, 18] : List Nat), z ≠ A k) : (g_X8_noteComes_162 I m A t x  w4) z = I z := by
  simp only [g_X8_noteComes_162]
  repeat' split
  all_goals simp only [up2_row (hz 7 (by decide)), up2_row (hz 8 (by decide)), up2_row (hz 14 (by decide)), up2_row (hz 15 (by decide)), up2_row (hz 17 (by decide)), up2_row (hz 18 (by decide))]
theorem nm_g_X8_noteComes_105 {I : Nat → Nat → Int32} {m : Nat} {A : Nat → Nat} {t : Nat} {x : Nat}  {w3 : Int32} {w4 : Int32} {z : Nat} (hz : ∀ k ∈ ([7, 8, 14, 15, 17, 18] : List Nat), z ≠ A k) : (g_X8_noteComes_105 I m A t x  w3 w4) z = I z := by
  simp only [g_X8_noteComes_105]
  repeat' split
  all_goals simp only [up2_row (hz 7 (by decide)), up2_row (hz 8 (by decide)), up2_row (hz 14 (by decide)), up2_row (hz 15 (by decide)), up2_row (hz 17 (by decide)), up2_row (hz 18 (by decide)), nm_g_X8_noteComes_162 hz]
theorem nm_g_X8_noteComes_8_5 {I : Nat → Nat → Int32} {m : Nat} {A : Nat → Nat} {t : Nat} {x : Nat}  {w3 : Int32} {w4 : Int32} {z : Nat} (hz : ∀ k ∈ ([7, 8, 14, 15, 17, 18] : List Nat), z ≠ A k) : (g_X8_noteComes_8_5 I m A t x  w3 w4) z = I z := by
  simp only [g_X8_noteComes_8_5]
  repeat' split
  all_goals simp only [up2_row (hz 7 (by decide)), up2_row (hz 8 (by decide)), up2_row (hz 14 (by decide)), up2_row (hz 15 (by decide)), up2_row (hz 17 (by decide)), up2_row (hz 18 (by decide)), nm_g_X8_noteComes_162 hz, nm_g_X8_noteComes_105 hz]
theorem nm_g_X8_noteComes_98_4 {I : Nat → Nat → Int32} {m : Nat} {A : Nat → Nat} {t : Nat} {x : Nat}  {w4 : Int32} {s0 : Int32} {z : Nat} (hz : ∀ k ∈ ([7, 8, 14, 15, 17, 18] : List Nat), z ≠ A k) : (g_X8_noteComes_98_4 I m A t x  w4 s0) z = I z := by
  simp only [g_X8_noteComes_98_4]
  repeat' split
  all_goals simp only [up2_row (hz 7 (by decide)), up2_row (hz 8 (by decide)), up2_row (hz 14 (by decide)), up2_row (hz 15 (by decide)), up2_row (hz 17 (by decide)), up2_row (hz 18 (by decide)), nm_g_X8_noteComes_162 hz, nm_g_X8_noteComes_105 hz, nm_g_X8_noteComes_8_5 hz]
theorem nm_g_X8_noteComes_52_4 {I : Nat → Nat → Int32} {m : Nat} {A : Nat → Nat} {t : Nat} {x : Nat}  {w3 : Int32} {w6 : Int32} {s0 : Int32} {z : Nat} (hz : ∀ k ∈ ([7, 8, 14, 15, 17, 18] : List Nat), z ≠ A k) : (g_X8_noteComes_52_4 I m A t x  w3 w6 s0) z = I z := by
  simp only [g_X8_noteComes_52_4]
  repeat' split
  all_goals simp only [up2_row (hz 7 (by decide)), up2_row (hz 8 (by decide)), up2_row (hz 14 (by decide)), up2_row (hz 15 (by decide)), up2_row (hz 17 (by decide)), up2_row (hz 18 (by decide)), nm_g_X8_noteComes_162 hz, nm_g_X8_noteComes_105 hz, nm_g_X8_noteComes_8_5 hz, nm_g_X8_noteComes_98_4 hz]
theorem nm_g_X8_noteComes_8_4 {I : Nat → Nat → Int32} {m : Nat} {A : Nat → Nat} {t : Nat} {x : Nat}  {w3 : Int32} {w4 : Int32} {z : Nat} (hz : ∀ k ∈ ([7, 8, 14, 15, 17, 18] : List Nat), z ≠ A k) : (g_X8_noteComes_8_4 I m A t x  w3 w4) z = I z := by
  simp only [g_X8_noteComes_8_4]
  repeat' split
  all_goals simp only [up2_row (hz 7 (by decide)), up2_row (hz 8 (by decide)), up2_row (hz 14 (by decide)), up2_row (hz 15 (by decide)), up2_row (hz 17 (by decide)), up2_row (hz 18 (by decide)), nm_g_X8_noteComes_162 hz, nm_g_X8_noteComes_105 hz, nm_g_X8_noteComes_8_5 hz, nm_g_X8_noteComes_98_4 hz, nm_g_X8_noteComes_52_4 hz]
theorem nm_g_X8_noteComes_98_3 {I : Nat → Nat → Int32} {m : Nat} {A : Nat → Nat} {t : Nat} {x : Nat}  {w4 : Int32} {s0 : Int32} {z : Nat} (hz : ∀ k ∈ ([7, 8, 14, 15, 17, 18] : List Nat), z ≠ A k) : (g_X8_noteComes_98_3 I m A t x  w4 s0) z = I z := by
  simp only [g_X8_noteComes_98_3]
  repeat' split
  all_goals simp only [up2_row (hz 7 (by decide)), up2_row (hz 8 (by decide)), up2_row (hz 14 (by decide)), up2_row (hz 15 (by decide)), up2_row (hz 17 (by decide)), up2_row (hz 18 (by decide)), nm_g_X8_noteComes_162 hz, nm_g_X8_noteComes_105 hz, nm_g_X8_noteComes_8_5 hz, nm_g_X8_noteComes_98_4 hz, nm_g_X8_noteComes_52_4 hz, nm_g_X8_noteComes_8_4 hz]
theorem nm_g_X8_noteComes_52_3 {I : Nat → Nat → Int32} {m : Nat} {A : Nat → Nat} {t : Nat} {x : Nat}  {w3 : Int32} {w6 : Int32} {s0 : Int32} {z : Nat} (hz : ∀ k ∈ ([7, 8, 14, 15, 17, 18] : List Nat), z ≠ A k) : (g_X8_noteComes_52_3 I m A t x  w3 w6 s0) z = I z := by
  simp only [g_X8_noteComes_52_3]
  repeat' split
  all_goals simp only [up2_row (hz 7 (by decide)), up2_row (hz 8 (by decide)), up2_row (hz 14 (by decide)), up2_row (hz 15 (by decide)), up2_row (hz 17 (by decide)), up2_row (hz 18 (by decide)), nm_g_X8_noteComes_162 hz, nm_g_X8_noteComes_105 hz, nm_g_X8_noteComes_8_5 hz, nm_g_X8_noteComes_98_4 hz, nm_g_X8_noteComes_52_4 hz, nm_g_X8_noteComes_8_4 hz, nm_g_X8_noteComes_98_3 hz]
theorem nm_g_X8_noteComes_8_3 {I : Nat → Nat → Int32} {m : Nat} {A : Nat → Nat} {t : Nat} {x : Nat}  {w3 : Int32} {w4 : Int32} {z : Nat} (hz : ∀ k ∈ ([7, 8, 14, 15, 17, 18] : List Nat), z ≠ A k) : (g_X8_noteComes_8_3 I m A t x  w3 w4) z = I z := by
  simp only [g_X8_noteComes_8_3]
  repeat' split
  all_goals simp only [up2_row (hz 7 (by decide)), up2_row (hz 8 (by decide)), up2_row (hz 14 (by decide)), up2_row (hz 15 (by decide)), up2_row (hz 17 (by decide)), up2_row (hz 18 (by decide)), nm_g_X8_noteComes_162 hz, nm_g_X8_noteComes_105 hz, nm_g_X8_noteComes_8_5 hz, nm_g_X8_noteComes_98_4 hz, nm_g_X8_noteComes_52_4 hz, nm_g_X8_noteComes_8_4 hz, nm_g_X8_noteComes_98_3 hz, nm_g_X8_noteComes_52_3 hz]
theorem nm_g_X8_noteComes_98_2 {I : Nat → Nat → Int32} {m : Nat} {A : Nat → Nat} {t : Nat} {x : Nat}  {w4 : Int32} {s0 : Int32} {z : Nat} (hz : ∀ k ∈ ([7, 8, 14, 15, 17, 18] : List Nat), z ≠ A k) : (g_X8_noteComes_98_2 I m A t x  w4 s0) z = I z := by
  simp only [g_X8_noteComes_98_2]
  repeat' split
  all_goals simp only [up2_row (hz 7 (by decide)), up2_row (hz 8 (by decide)), up2_row (hz 14 (by decide)), up2_row (hz 15 (by decide)), up2_row (hz 17 (by decide)), up2_row (hz 18 (by decide)), nm_g_X8_noteComes_162 hz, nm_g_X8_noteComes_105 hz, nm_g_X8_noteComes_8_5 hz, nm_g_X8_noteComes_98_4 hz, nm_g_X8_noteComes_52_4 hz, nm_g_X8_noteComes_8_4 hz, nm_g_X8_noteComes_98_3 hz, nm_g_X8_noteComes_52_3 hz, nm_g_X8_noteComes_8_3 hz]
theorem nm_g_X8_noteComes_52_2 {I : Nat → Nat → Int32} {m : Nat} {A : Nat → Nat} {t : Nat} {x : Nat}  {w3 : Int32} {w6 : Int32} {s0 : Int32} {z : Nat} (hz : ∀ k ∈ ([7, 8, 14, 15, 17, 18] : List Nat), z ≠ A k) : (g_X8_noteComes_52_2 I m A t x  w3 w6 s0) z = I z := by
  simp only [g_X8_noteComes_52_2]
  repeat' split
  all_goals simp only [up2_row (hz 7 (by decide)), up2_row (hz 8 (by decide)), up2_row (hz 14 (by decide)), up2_row (hz 15 (by decide)), up2_row (hz 17 (by decide)), up2_row (hz 18 (by decide)), nm_g_X8_noteComes_162 hz, nm_g_X8_noteComes_105 hz, nm_g_X8_noteComes_8_5 hz, nm_g_X8_noteComes_98_4 hz, nm_g_X8_noteComes_52_4 hz, nm_g_X8_noteComes_8_4 hz, nm_g_X8_noteComes_98_3 hz, nm_g_X8_noteComes_52_3 hz, nm_g_X8_noteComes_8_3 hz, nm_g_X8_noteComes_98_2 hz]
theorem nm_g_X8_noteComes_8_2 {I : Nat → Nat → Int32} {m : Nat} {A : Nat → Nat} {t : Nat} {x : Nat}  {w3 : Int32} {w4 : Int32} {z : Nat} (hz : ∀ k ∈ ([7, 8, 14, 15, 17, 18] : List Nat), z ≠ A k) : (g_X8_noteComes_8_2 I m A t x  w3 w4) z = I z := by
  simp only [g_X8_noteComes_8_2]
  repeat' split
  all_goals simp only [up2_row (hz 7 (by decide)), up2_row (hz 8 (by decide)), up2_row (hz 14 (by decide)), up2_row (hz 15 (by decide)), up2_row (hz 17 (by decide)), up2_row (hz 18 (by decide)), nm_g_X8_noteComes_162 hz, nm_g_X8_noteComes_105 hz, nm_g_X8_noteComes_8_5 hz, nm_g_X8_noteComes_98_4 hz, nm_g_X8_noteComes_52_4 hz, nm_g_X8_noteComes_8_4 hz, nm_g_X8_noteComes_98_3 hz, nm_g_X8_noteComes_52_3 hz, nm_g_X8_noteComes_8_3 hz, nm_g_X8_noteComes_98_2 hz, nm_g_X8_noteComes_52_2 hz]
theorem nm_g_X8_noteComes_98_1 {I : Nat → Nat → Int32} {m : Nat} {A : Nat → Nat} {t : Nat} {x : Nat}  {w4 : Int32} {s0 : Int32} {z : Nat} (hz : ∀ k ∈ ([7, 8, 14, 15, 17, 18] : List Nat), z ≠ A k) : (g_X8_noteComes_98_1 I m A t x  w4 s0) z = I z := by
  simp only [g_X8_noteComes_98_1]
  repeat' split
  all_goals simp only [up2_row (hz 7 (by decide)), up2_row (hz 8 (by decide)), up2_row (hz 14 (by decide)), up2_row (hz 15 (by decide)), up2_row (hz 17 (by decide)), up2_row (hz 18 (by decide)), nm_g_X8_noteComes_162 hz, nm_g_X8_noteComes_105 hz, nm_g_X8_noteComes_8_5 hz, nm_g_X8_noteComes_98_4 hz, nm_g_X8_noteComes_52_4 hz, nm_g_X8_noteComes_8_4 hz, nm_g_X8_noteComes_98_3 hz, nm_g_X8_noteComes_52_3 hz, nm_g_X8_noteComes_8_3 hz, nm_g_X8_noteComes_98_2 hz, nm_g_X8_noteComes_52_2 hz, nm_g_X8_noteComes_8_2 hz]
theorem nm_g_X8_noteComes_52_1 {I : Nat → Nat → Int32} {m : Nat} {A : Nat → Nat} {t : Nat} {x : Nat}  {w3 : Int32} {w6 : Int32} {s0 : Int32} {z : Nat} (hz : ∀ k ∈ ([7, 8, 14, 15, 17, 18] : List Nat), z ≠ A k) : (g_X8_noteComes_52_1 I m A t x  w3 w6 s0) z = I z := by
  simp only [g_X8_noteComes_52_1]
  repeat' split
  all_goals simp only [up2_row (hz 7 (by decide)), up2_row (hz 8 (by decide)), up2_row (hz 14 (by decide)), up2_row (hz 15 (by decide)), up2_row (hz 17 (by decide)), up2_row (hz 18 (by decide)), nm_g_X8_noteComes_162 hz, nm_g_X8_noteComes_105 hz, nm_g_X8_noteComes_8_5 hz, nm_g_X8_noteComes_98_4 hz, nm_g_X8_noteComes_52_4 hz, nm_g_X8_noteComes_8_4 hz, nm_g_X8_noteComes_98_3 hz, nm_g_X8_noteComes_52_3 hz, nm_g_X8_noteComes_8_3 hz, nm_g_X8_noteComes_98_2 hz, nm_g_X8_noteComes_52_2 hz, nm_g_X8_noteComes_8_2 hz, nm_g_X8_noteComes_98_1 hz]
theorem nm_g_X8_noteComes_8_1 {I : Nat → Nat → Int32} {m : Nat} {A : Nat → Nat} {t : Nat} {x : Nat}  {w3 : Int32} {w4 : Int32} {z : Nat} (hz : ∀ k ∈ ([7, 8, 14, 15, 17, 18] : List Nat), z ≠ A k) : (g_X8_noteComes_8_1 I m A t x  w3 w4) z = I z := by
  simp only [g_X8_noteComes_8_1]
  repeat' split
  all_goals simp only [up2_row (hz 7 (by decide)), up2_row (hz 8 (by decide)), up2_row (hz 14 (by decide)), up2_row (hz 15 (by decide)), up2_row (hz 17 (by decide)), up2_row (hz 18 (by decide)), nm_g_X8_noteComes_162 hz, nm_g_X8_noteComes_105 hz, nm_g_X8_noteComes_8_5 hz, nm_g_X8_noteComes_98_4 hz, nm_g_X8_noteComes_52_4 hz, nm_g_X8_noteComes_8_4 hz, nm_g_X8_noteComes_98_3 hz, nm_g_X8_noteComes_52_3 hz, nm_g_X8_noteComes_8_3 hz, nm_g_X8_noteComes_98_2 hz, nm_g_X8_noteComes_52_2 hz, nm_g_X8_noteComes_8_2 hz, nm_g_X8_noteComes_98_1 hz, nm_g_X8_noteComes_52_1 hz]
theorem nm_g_X8_noteComes_98_0 {I : Nat → Nat → Int32} {m : Nat} {A : Nat → Nat} {t : Nat} {x : Nat}  {w4 : Int32} {s0 : Int32} {z : Nat} (hz : ∀ k ∈ ([7, 8, 14, 15, 17, 18] : List Nat), z ≠ A k) : (g_X8_noteComes_98_0 I m A t x  w4 s0) z = I z := by
  simp only [g_X8_noteComes_98_0]
  repeat' split
  all_goals simp only [up2_row (hz 7 (by decide)), up2_row (hz 8 (by decide)), up2_row (hz 14 (by decide)), up2_row (hz 15 (by decide)), up2_row (hz 17 (by decide)), up2_row (hz 18 (by decide)), nm_g_X8_noteComes_162 hz, nm_g_X8_noteComes_105 hz, nm_g_X8_noteComes_8_5 hz, nm_g_X8_noteComes_98_4 hz, nm_g_X8_noteComes_52_4 hz, nm_g_X8_noteComes_8_4 hz, nm_g_X8_noteComes_98_3 hz, nm_g_X8_noteComes_52_3 hz, nm_g_X8_noteComes_8_3 hz, nm_g_X8_noteComes_98_2 hz, nm_g_X8_noteComes_52_2 hz, nm_g_X8_noteComes_8_2 hz, nm_g_X8_noteComes_98_1 hz, nm_g_X8_noteComes_52_1 hz, nm_g_X8_noteComes_8_1 hz]
theorem nm_g_X8_noteComes_52_0 {I : Nat → Nat → Int32} {m : Nat} {A : Nat → Nat} {t : Nat} {x : Nat}  {w3 : Int32} {w6 : Int32} {s0 : Int32} {z : Nat} (hz : ∀ k ∈ ([7, 8, 14, 15, 17, 18] : List Nat), z ≠ A k) : (g_X8_noteComes_52_0 I m A t x  w3 w6 s0) z = I z := by
  simp only [g_X8_noteComes_52_0]
  repeat' split
  all_goals simp only [up2_row (hz 7 (by decide)), up2_row (hz 8 (by decide)), up2_row (hz 14 (by decide)), up2_row (hz 15 (by decide)), up2_row (hz 17 (by decide)), up2_row (hz 18 (by decide)), nm_g_X8_noteComes_162 hz, nm_g_X8_noteComes_105 hz, nm_g_X8_noteComes_8_5 hz, nm_g_X8_noteComes_98_4 hz, nm_g_X8_noteComes_52_4 hz, nm_g_X8_noteComes_8_4 hz, nm_g_X8_noteComes_98_3 hz, nm_g_X8_noteComes_52_3 hz, nm_g_X8_noteComes_8_3 hz, nm_g_X8_noteComes_98_2 hz, nm_g_X8_noteComes_52_2 hz, nm_g_X8_noteComes_8_2 hz, nm_g_X8_noteComes_98_1 hz, nm_g_X8_noteComes_52_1 hz, nm_g_X8_noteComes_8_1 hz, nm_g_X8_noteComes_98_0 hz]
theorem nm_g_X8_noteComes_8_0 {I : Nat → Nat → Int32} {m : Nat} {A : Nat → Nat} {t : Nat} {x : Nat}  {w3 : Int32} {w4 : Int32} {z : Nat} (hz : ∀ k ∈ ([7, 8, 14, 15, 17, 18] : List Nat), z ≠ A k) : (g_X8_noteComes_8_0 I m A t x  w3 w4) z = I z := by
  simp only [g_X8_noteComes_8_0]
  repeat' split
  all_goals simp only [up2_row (hz 7 (by decide)), up2_row (hz 8 (by decide)), up2_row (hz 14 (by decide)), up2_row (hz 15 (by decide)), up2_row (hz 17 (by decide)), up2_row (hz 18 (by decide)), nm_g_X8_noteComes_162 hz, nm_g_X8_noteComes_105 hz, nm_g_X8_noteComes_8_5 hz, nm_g_X8_noteComes_98_4 hz, nm_g_X8_noteComes_52_4 hz, nm_g_X8_noteComes_8_4 hz, nm_g_X8_noteComes_98_3 hz, nm_g_X8_noteComes_52_3 hz, nm_g_X8_noteComes_8_3 hz, nm_g_X8_noteComes_98_2 hz, nm_g_X8_noteComes_52_2 hz, nm_g_X8_noteComes_8_2 hz, nm_g_X8_noteComes_98_1 hz, nm_g_X8_noteComes_52_1 hz, nm_g_X8_noteComes_8_1 hz, nm_g_X8_noteComes_98_0 hz, nm_g_X8_noteComes_52_0 hz]
theorem nm_X8_noteComes {I : Nat → Nat → Int32} {m : Nat} {A : Nat → Nat} {t : Nat} {x : Nat} {z : Nat} (hz : ∀ k ∈ ([7, 8, 14, 15, 17, 18] : List Nat), z ≠ A k) : (f_X8_noteComes I m A t x) z = I z := by
  simp only [f_X8_noteComes]
  repeat' split
  all_goals simp only [up2_row (hz 7 (by decide)), up2_row (hz 8 (by decide)), up2_row (hz 14 (by decide)), up2_row (hz 15 (by decide)), up2_row (hz 17 (by decide)), up2_row (hz 18 (by decide)), nm_g_X8_noteComes_162 hz, nm_g_X8_noteComes_105 hz, nm_g_X8_noteComes_8_5 hz, nm_g_X8_noteComes_98_4 hz, nm_g_X8_noteComes_52_4 hz, nm_g_X8_noteComes_8_4 hz, nm_g_X8_noteComes_98_3 hz, nm_g_X8_noteComes_52_3 hz, nm_g_X8_noteComes_8_3 hz, nm_g_X8_noteComes_98_2 hz, nm_g_X8_noteComes_52_2 hz, nm_g_X8_noteComes_8_2 hz, nm_g_X8_noteComes_98_1 hz, nm_g_X8_noteComes_52_1 hz, nm_g_X8_noteComes_8_1 hz, nm_g_X8_noteComes_98_0 hz, nm_g_X8_noteComes_52_0 hz, nm_g_X8_noteComes_8_0 hz]
def f_X8_comesOn (I : Nat → Nat → Int32) (m : Nat) (A : Nat → Nat) (c : Nat) (e : Nat) (v : Int32) (nt : Nat) : Nat → Nat → Int32 := let I2 := up2 I (A 27) nt (nI c); let I4 := up2 I2 (A 28) nt (nI e); let I6 := up2 I4 (A 29) nt ((I4 m 43) + (I4 (A 23) c)); let I8 := up2 I6 (A 30) nt v; let I10 := up2 I8 m 32 (nI (nt + 1)); I10
theorem x_X8_comesOn {Q : Option Value → MM → Prop} {S : MM} {m : Nat} {A : Nat → Nat} {c : Nat} {e : Nat} {v : Int32} {nt : Nat} (hM : MS S m A) (hc : c < 8) (he : e < 2) (hnt : nt < 4000) (ir : IM S m A) (q0 : sI S m 32 = nI nt) (h30 : v = -1 ∨ ∃ f, f < 4200 ∧ v = nI f) (K : KVM m A Q S (f_X8_comesOn (sI S) m A c e v nt)) : wX8_comesOn [.ref m, .int (nI c), .int (nI e), .int v] S Q := by
  unfold f_X8_comesOn at K
  refine Exists.intro 1 (u_X8_comesOn_0 ?_)
  unfold bX8_comesOn_0
  refine e_ldA rfl ?_
  refine e_gR hM.1 (hM.2.1 27 (by decide)).1 ?_
  refine e_ldA rfl ?_
  refine e_gV (v := nI nt) hM.1 q0 ?_
  refine e_ldI rfl ?_
  refine e_mA (N := 4000) (k := 27) hM ir (by decide) (kdA (k := 27) hM (by decide) rfl) (lnA (k := 27) hM (by decide) rfl) (by omega) (by decide) (fun N e => by have e2 : some 8 = some N := e; cases e2; exact ⟨_, by omega, rfl⟩) (fun e => absurd e (by decide)) (fun ir1 => ?_)
  refine e_ldA rfl ?_
  refine e_gR hM.1 (hM.2.1 28 (by decide)).1 ?_
  refine e_ldA rfl ?_
  refine e_gV (v := nI nt) hM.1 (rd_a q0 (Ne.symm (hM.2.1 27 (by decide)).2.2.2)) ?_
  refine e_ldI rfl ?_
  refine e_mA (N := 4000) (k := 28) hM ir1 (by decide) (kdA (k := 28) hM (by decide) rfl) (lnA (k := 28) hM (by decide) rfl) (by omega) (by decide) (fun N e => by have e2 : some 2 = some N := e; cases e2; exact ⟨_, by omega, rfl⟩) (fun e => absurd e (by decide)) (fun ir3 => ?_)
  refine e_ldA rfl ?_
  refine e_gR hM.1 (hM.2.1 29 (by decide)).1 ?_
  refine e_ldA rfl ?_
  refine e_gV (v := nI nt) hM.1 (rd_a (rd_a q0 (Ne.symm (hM.2.1 27 (by decide)).2.2.2)) (Ne.symm (hM.2.1 28 (by decide)).2.2.2)) ?_
  refine e_ldA rfl ?_
  refine e_gE hM.1 ?_
  refine e_ldA rfl ?_
  refine e_gR hM.1 (hM.2.1 23 (by decide)).1 ?_
  refine e_ldI rfl ?_
  refine e_aE (N := 8) (kdA (k := 23) hM (by decide) rfl) (lnA (k := 23) hM (by decide) rfl) (by omega) (by decide) ?_
  refine e_bopE ?_
  refine e_mA (N := 4000) (k := 29) hM ir3 (by decide) (kdA (k := 29) hM (by decide) rfl) (lnA (k := 29) hM (by decide) rfl) (by omega) (by decide) (fun N e => nomatch (show (none : Option Nat) = some N from e)) (fun e => absurd e (by decide)) (fun ir5 => ?_)
  refine e_ldA rfl ?_
  refine e_gR hM.1 (hM.2.1 30 (by decide)).1 ?_
  refine e_ldA rfl ?_
  refine e_gV (v := nI nt) hM.1 (rd_a (rd_a (rd_a q0 (Ne.symm (hM.2.1 27 (by decide)).2.2.2)) (Ne.symm (hM.2.1 28 (by decide)).2.2.2)) (Ne.symm (hM.2.1 29 (by decide)).2.2.2)) ?_
  refine e_ldI rfl ?_
  refine e_mA (N := 4000) (k := 30) hM ir5 (by decide) (kdA (k := 30) hM (by decide) rfl) (lnA (k := 30) hM (by decide) rfl) (by omega) (by decide) (fun N e => nomatch (show (none : Option Nat) = some N from e)) (fun _ => h30) (fun ir7 => ?_)
  refine e_ldA rfl ?_
  refine e_duA ?_
  refine e_gV (v := nI nt) hM.1 (rd_a (rd_a (rd_a (rd_a q0 (Ne.symm (hM.2.1 27 (by decide)).2.2.2)) (Ne.symm (hM.2.1 28 (by decide)).2.2.2)) (Ne.symm (hM.2.1 29 (by decide)).2.2.2)) (Ne.symm (hM.2.1 30 (by decide)).2.2.2)) ?_
  refine e_cN 1 rfl ?_
  refine e_add ?_
  refine e_mT hM ir7 hM.1 (fun N e => by have e2 : some 4001 = some N := e; cases e2; exact ⟨_, by omega, rfl⟩) (fun ir9 => ?_)
  exact e_rV (K ir9)
theorem nm_X8_comesOn {I : Nat → Nat → Int32} {m : Nat} {A : Nat → Nat} {c : Nat} {e : Nat} {v : Int32} {nt : Nat} {z : Nat} (hz : ∀ k ∈ ([27, 28, 29, 30] : List Nat), z ≠ A k) (hm : z ≠ m) : (f_X8_comesOn I m A c e v nt) z = I z := by
  simp only [f_X8_comesOn]
  repeat' split
  all_goals simp only [up2_row (hz 27 (by decide)), up2_row (hz 28 (by decide)), up2_row (hz 29 (by decide)), up2_row (hz 30 (by decide)), up2_row hm]
theorem ns_X8_comesOn {I : Nat → Nat → Int32} {m : Nat} {A : Nat → Nat} {c : Nat} {e : Nat} {v : Int32} {nt : Nat} {S : MM} {j : Nat} (hM : MS S m A) (hj : j ∉ ([32] : List Nat)) : (f_X8_comesOn I m A c e v nt) m j = I m j := by
  simp only [f_X8_comesOn]
  repeat' split
  all_goals simp only [up2_row (Ne.symm (ne_m hM (show 27 ∈ DM by decide))), up2_row (Ne.symm (ne_m hM (show 28 ∈ DM by decide))), up2_row (Ne.symm (ne_m hM (show 29 ∈ DM by decide))), up2_row (Ne.symm (ne_m hM (show 30 ∈ DM by decide))), up2_jn (show j ≠ 32 from fun z => hj (by rw [z]; decide))]
def g_X8_puts_193_5 (I : Nat → Nat → Int32) (m : Nat) (A : Nat → Nat) (x : Nat) (nt : Nat) (c : Nat) (i3 : Nat)  : Nat → Nat → Int32 := let I2 := f_X8_comesOn I m A c i3 (-1 : Int32) nt; I2
theorem y_X8_puts_193_5 {Q : Option Value → MM → Prop} {S : MM} {m : Nat} {A : Nat → Nat} {x : Nat} {nt : Nat} {c : Nat} {i3 : Nat}  {n : Nat} {lv : Lv} (hM : MS S m A) (hx : x < 16) (hnt : nt < 4000) (hc : c < 8) (ir : IM S m A) (hi3 : i3 < 2) (q0 : sI S m 32 = nI nt) (q1 : sI S (A 11) x = nI c) (g0 : lvg lv 0 = some (.ref m)) (g1 : lvg lv 1 = some (.int (nI x))) (g3 : lvg lv 3 = some (.int (nI i3))) (g4 : lvg lv 4 = some (.int (nI c))) (g5 : lvg lv 5 = some (.int (nI 5)))  (hn : 2 ≤ n) (K : KVM m A Q S (g_X8_puts_193_5 (sI S) m A x nt c i3 )) : wpn (kX8_puts Q) n 193 lv [] S 0 0 := by
  obtain ⟨d, rfl⟩ : ∃ d, n = d + 2 := ⟨n - 2, by omega⟩
  unfold g_X8_puts_193_5 at K
  refine u_X8_puts_193 ?_
  unfold bX8_puts_193
  refine e_ldI g5 ?_
  refine e_cN 5 rfl ?_
  refine ⟨fun _ => ?_, fun z => absurd (by decide) z⟩
  refine u_X8_puts_255 ?_
  unfold bX8_puts_255
  refine e_ldA g0 ?_
  refine e_ldI g4 ?_
  refine e_ldI g3 ?_
  refine e_cI ?_
  refine And.intro hM.1 (And.intro ⟨by decide, by decide⟩ (x_X8_comesOn hM (by omega) (by omega) (by omega) ir q0 (Or.inl rfl) (fun ir1 => ?_)))
  exact e_rV (K ir1)
def g_X8_puts_193_4 (I : Nat → Nat → Int32) (m : Nat) (A : Nat → Nat) (x : Nat) (nt : Nat) (c : Nat) (i3 : Nat)  : Nat → Nat → Int32 := let I2 := up2 I (A 31) ((10 * nt) + 4) (f_own4 I m A x); let I4 := up2 I2 (A 31) (((10 * nt) + 5) + 4) (I2 (A 18) ((5 * x) + 4)); g_X8_puts_193_5 I4 m A x nt c i3 
theorem y_X8_puts_193_4 {Q : Option Value → MM → Prop} {S : MM} {m : Nat} {A : Nat → Nat} {x : Nat} {nt : Nat} {c : Nat} {i3 : Nat}  {n : Nat} {lv : Lv} (hM : MS S m A) (hx : x < 16) (hnt : nt < 4000) (hc : c < 8) (ir : IM S m A) (hi3 : i3 < 2) (q0 : sI S m 32 = nI nt) (q1 : sI S (A 11) x = nI c) (g0 : lvg lv 0 = some (.ref m)) (g1 : lvg lv 1 = some (.int (nI x))) (g3 : lvg lv 3 = some (.int (nI i3))) (g4 : lvg lv 4 = some (.int (nI c))) (g5 : lvg lv 5 = some (.int (nI 4)))  (hn : 3 ≤ n) (K : KVM m A Q S (g_X8_puts_193_4 (sI S) m A x nt c i3 )) : wpn (kX8_puts Q) n 193 lv [] S 0 0 := by
  obtain ⟨d, rfl⟩ : ∃ d, n = d + 3 := ⟨n - 3, by omega⟩
  unfold g_X8_puts_193_4 at K
  refine u_X8_puts_193 ?_
  unfold bX8_puts_193
  refine e_ldI g5 ?_
  refine e_cN 5 rfl ?_
  refine ⟨fun z => absurd z (by decide), fun _ => ?_⟩
  refine e_ldA g0 ?_
  refine e_gR hM.1 (hM.2.1 31 (by decide)).1 ?_
  refine e_cN 10 rfl ?_
  refine e_ldA g0 ?_
  refine e_gV (v := nI nt) hM.1 q0 ?_
  refine e_mul ?_
  refine e_ldI g5 ?_
  refine e_add ?_
  refine e_ldA g0 ?_
  refine e_ldI g1 ?_
  refine e_ldI g5 ?_
  refine And.intro hM.1 (And.intro ⟨by decide, by decide⟩ (x_own4 hM (by omega) ir (KP_i ?_)))
  refine e_mA (N := 40000) (k := 31) hM ir (by decide) (kdA (k := 31) hM (by decide) rfl) (lnA (k := 31) hM (by decide) rfl) (by omega) (by decide) (fun N e => nomatch (show (none : Option Nat) = some N from e)) (fun e => absurd e (by decide)) (fun ir1 => ?_)
  refine e_ldA g0 ?_
  refine e_gR hM.1 (hM.2.1 31 (by decide)).1 ?_
  refine e_cN 10 rfl ?_
  refine e_ldA g0 ?_
  refine e_gV (v := nI nt) hM.1 (rd_a q0 (Ne.symm (hM.2.1 31 (by decide)).2.2.2)) ?_
  refine e_mul ?_
  refine e_cN 5 rfl ?_
  refine e_add ?_
  refine e_ldI g5 ?_
  refine e_add ?_
  refine e_ldA g0 ?_
  refine e_gR hM.1 (hM.2.1 18 (by decide)).1 ?_
  refine e_cN 5 rfl ?_
  refine e_ldI g1 ?_
  refine e_mul ?_
  refine e_ldI g5 ?_
  refine e_add ?_
  refine e_aE (N := 80) (kdA (k := 18) hM (by decide) rfl) (lnA (k := 18) hM (by decide) rfl) (by omega) (by decide) ?_
  refine e_mA (N := 40000) (k := 31) hM ir1 (by decide) (kdA (k := 31) hM (by decide) rfl) (lnA (k := 31) hM (by decide) rfl) (by omega) (by decide) (fun N e => nomatch (show (none : Option Nat) = some N from e)) (fun e => absurd e (by decide)) (fun ir3 => ?_)
  refine e_inc g5 ?_
  exact y_X8_puts_193_5 hM hx hnt hc ir3 (by omega) (rd_a (rd_a q0 (Ne.symm (hM.2.1 31 (by decide)).2.2.2)) (Ne.symm (hM.2.1 31 (by decide)).2.2.2)) (rd_a (rd_a q1 (ne_A hM (by decide) (by decide) (by decide))) (ne_A hM (by decide) (by decide) (by decide))) (lvg_ne g0 rfl (by decide)) (lvg_ne g1 rfl (by decide)) (lvg_ne g3 rfl (by decide)) (lvg_ne g4 rfl (by decide)) lvg_self  (by omega) K
def g_X8_puts_193_3 (I : Nat → Nat → Int32) (m : Nat) (A : Nat → Nat) (x : Nat) (nt : Nat) (c : Nat) (i3 : Nat)  : Nat → Nat → Int32 := let I2 := up2 I (A 31) ((10 * nt) + 3) (f_own3 I m A x); let I4 := up2 I2 (A 31) (((10 * nt) + 5) + 3) (I2 (A 18) ((5 * x) + 3)); g_X8_puts_193_4 I4 m A x nt c i3 
theorem y_X8_puts_193_3 {Q : Option Value → MM → Prop} {S : MM} {m : Nat} {A : Nat → Nat} {x : Nat} {nt : Nat} {c : Nat} {i3 : Nat}  {n : Nat} {lv : Lv} (hM : MS S m A) (hx : x < 16) (hnt : nt < 4000) (hc : c < 8) (ir : IM S m A) (hi3 : i3 < 2) (q0 : sI S m 32 = nI nt) (q1 : sI S (A 11) x = nI c) (g0 : lvg lv 0 = some (.ref m)) (g1 : lvg lv 1 = some (.int (nI x))) (g3 : lvg lv 3 = some (.int (nI i3))) (g4 : lvg lv 4 = some (.int (nI c))) (g5 : lvg lv 5 = some (.int (nI 3)))  (hn : 4 ≤ n) (K : KVM m A Q S (g_X8_puts_193_3 (sI S) m A x nt c i3 )) : wpn (kX8_puts Q) n 193 lv [] S 0 0 := by
  obtain ⟨d, rfl⟩ : ∃ d, n = d + 4 := ⟨n - 4, by omega⟩
  unfold g_X8_puts_193_3 at K
  refine u_X8_puts_193 ?_
  unfold bX8_puts_193
  refine e_ldI g5 ?_
  refine e_cN 5 rfl ?_
  refine ⟨fun z => absurd z (by decide), fun _ => ?_⟩
  refine e_ldA g0 ?_
  refine e_gR hM.1 (hM.2.1 31 (by decide)).1 ?_
  refine e_cN 10 rfl ?_
  refine e_ldA g0 ?_
  refine e_gV (v := nI nt) hM.1 q0 ?_
  refine e_mul ?_
  refine e_ldI g5 ?_
  refine e_add ?_
  refine e_ldA g0 ?_
  refine e_ldI g1 ?_
  refine e_ldI g5 ?_
  refine And.intro hM.1 (And.intro ⟨by decide, by decide⟩ (x_own3 hM (by omega) ir (KP_i ?_)))
  refine e_mA (N := 40000) (k := 31) hM ir (by decide) (kdA (k := 31) hM (by decide) rfl) (lnA (k := 31) hM (by decide) rfl) (by omega) (by decide) (fun N e => nomatch (show (none : Option Nat) = some N from e)) (fun e => absurd e (by decide)) (fun ir1 => ?_)
  refine e_ldA g0 ?_
  refine e_gR hM.1 (hM.2.1 31 (by decide)).1 ?_
  refine e_cN 10 rfl ?_
  refine e_ldA g0 ?_
  refine e_gV (v := nI nt) hM.1 (rd_a q0 (Ne.symm (hM.2.1 31 (by decide)).2.2.2)) ?_
  refine e_mul ?_
  refine e_cN 5 rfl ?_
  refine e_add ?_
  refine e_ldI g5 ?_
  refine e_add ?_
  refine e_ldA g0 ?_
  refine e_gR hM.1 (hM.2.1 18 (by decide)).1 ?_
  refine e_cN 5 rfl ?_
  refine e_ldI g1 ?_
  refine e_mul ?_
  refine e_ldI g5 ?_
  refine e_add ?_
  refine e_aE (N := 80) (kdA (k := 18) hM (by decide) rfl) (lnA (k := 18) hM (by decide) rfl) (by omega) (by decide) ?_
  refine e_mA (N := 40000) (k := 31) hM ir1 (by decide) (kdA (k := 31) hM (by decide) rfl) (lnA (k := 31) hM (by decide) rfl) (by omega) (by decide) (fun N e => nomatch (show (none : Option Nat) = some N from e)) (fun e => absurd e (by decide)) (fun ir3 => ?_)
  refine e_inc g5 ?_
  exact y_X8_puts_193_4 hM hx hnt hc ir3 (by omega) (rd_a (rd_a q0 (Ne.symm (hM.2.1 31 (by decide)).2.2.2)) (Ne.symm (hM.2.1 31 (by decide)).2.2.2)) (rd_a (rd_a q1 (ne_A hM (by decide) (by decide) (by decide))) (ne_A hM (by decide) (by decide) (by decide))) (lvg_ne g0 rfl (by decide)) (lvg_ne g1 rfl (by decide)) (lvg_ne g3 rfl (by decide)) (lvg_ne g4 rfl (by decide)) lvg_self  (by omega) K
def g_X8_puts_193_2 (I : Nat → Nat → Int32) (m : Nat) (A : Nat → Nat) (x : Nat) (nt : Nat) (c : Nat) (i3 : Nat)  : Nat → Nat → Int32 := let I2 := up2 I (A 31) ((10 * nt) + 2) (f_own2 I m A x); let I4 := up2 I2 (A 31) (((10 * nt) + 5) + 2) (I2 (A 18) ((5 * x) + 2)); g_X8_puts_193_3 I4 m A x nt c i3 
theorem y_X8_puts_193_2 {Q : Option Value → MM → Prop} {S : MM} {m : Nat} {A : Nat → Nat} {x : Nat} {nt : Nat} {c : Nat} {i3 : Nat}  {n : Nat} {lv : Lv} (hM : MS S m A) (hx : x < 16) (hnt : nt < 4000) (hc : c < 8) (ir : IM S m A) (hi3 : i3 < 2) (q0 : sI S m 32 = nI nt) (q1 : sI S (A 11) x = nI c) (g0 : lvg lv 0 = some (.ref m)) (g1 : lvg lv 1 = some (.int (nI x))) (g3 : lvg lv 3 = some (.int (nI i3))) (g4 : lvg lv 4 = some (.int (nI c))) (g5 : lvg lv 5 = some (.int (nI 2)))  (hn : 5 ≤ n) (K : KVM m A Q S (g_X8_puts_193_2 (sI S) m A x nt c i3 )) : wpn (kX8_puts Q) n 193 lv [] S 0 0 := by
  obtain ⟨d, rfl⟩ : ∃ d, n = d + 5 := ⟨n - 5, by omega⟩
  unfold g_X8_puts_193_2 at K
  refine u_X8_puts_193 ?_
  unfold bX8_puts_193
  refine e_ldI g5 ?_
  refine e_cN 5 rfl ?_
  refine ⟨fun z => absurd z (by decide), fun _ => ?_⟩
  refine e_ldA g0 ?_
  refine e_gR hM.1 (hM.2.1 31 (by decide)).1 ?_
  refine e_cN 10 rfl ?_
  refine e_ldA g0 ?_
  refine e_gV (v := nI nt) hM.1 q0 ?_
  refine e_mul ?_
  refine e_ldI g5 ?_
  refine e_add ?_
  refine e_ldA g0 ?_
  refine e_ldI g1 ?_
  refine e_ldI g5 ?_
  refine And.intro hM.1 (And.intro ⟨by decide, by decide⟩ (x_own2 hM (by omega) ir (KP_i ?_)))
  refine e_mA (N := 40000) (k := 31) hM ir (by decide) (kdA (k := 31) hM (by decide) rfl) (lnA (k := 31) hM (by decide) rfl) (by omega) (by decide) (fun N e => nomatch (show (none : Option Nat) = some N from e)) (fun e => absurd e (by decide)) (fun ir1 => ?_)
  refine e_ldA g0 ?_
  refine e_gR hM.1 (hM.2.1 31 (by decide)).1 ?_
  refine e_cN 10 rfl ?_
  refine e_ldA g0 ?_
  refine e_gV (v := nI nt) hM.1 (rd_a q0 (Ne.symm (hM.2.1 31 (by decide)).2.2.2)) ?_
  refine e_mul ?_
  refine e_cN 5 rfl ?_
  refine e_add ?_
  refine e_ldI g5 ?_
  refine e_add ?_
  refine e_ldA g0 ?_
  refine e_gR hM.1 (hM.2.1 18 (by decide)).1 ?_
  refine e_cN 5 rfl ?_
  refine e_ldI g1 ?_
  refine e_mul ?_
  refine e_ldI g5 ?_
  refine e_add ?_
  refine e_aE (N := 80) (kdA (k := 18) hM (by decide) rfl) (lnA (k := 18) hM (by decide) rfl) (by omega) (by decide) ?_
  refine e_mA (N := 40000) (k := 31) hM ir1 (by decide) (kdA (k := 31) hM (by decide) rfl) (lnA (k := 31) hM (by decide) rfl) (by omega) (by decide) (fun N e => nomatch (show (none : Option Nat) = some N from e)) (fun e => absurd e (by decide)) (fun ir3 => ?_)
  refine e_inc g5 ?_
  exact y_X8_puts_193_3 hM hx hnt hc ir3 (by omega) (rd_a (rd_a q0 (Ne.symm (hM.2.1 31 (by decide)).2.2.2)) (Ne.symm (hM.2.1 31 (by decide)).2.2.2)) (rd_a (rd_a q1 (ne_A hM (by decide) (by decide) (by decide))) (ne_A hM (by decide) (by decide) (by decide))) (lvg_ne g0 rfl (by decide)) (lvg_ne g1 rfl (by decide)) (lvg_ne g3 rfl (by decide)) (lvg_ne g4 rfl (by decide)) lvg_self  (by omega) K
def g_X8_puts_193_1 (I : Nat → Nat → Int32) (m : Nat) (A : Nat → Nat) (x : Nat) (nt : Nat) (c : Nat) (i3 : Nat)  : Nat → Nat → Int32 := let I2 := up2 I (A 31) ((10 * nt) + 1) (f_own1 I m A x); let I4 := up2 I2 (A 31) (((10 * nt) + 5) + 1) (I2 (A 18) ((5 * x) + 1)); g_X8_puts_193_2 I4 m A x nt c i3 
theorem y_X8_puts_193_1 {Q : Option Value → MM → Prop} {S : MM} {m : Nat} {A : Nat → Nat} {x : Nat} {nt : Nat} {c : Nat} {i3 : Nat}  {n : Nat} {lv : Lv} (hM : MS S m A) (hx : x < 16) (hnt : nt < 4000) (hc : c < 8) (ir : IM S m A) (hi3 : i3 < 2) (q0 : sI S m 32 = nI nt) (q1 : sI S (A 11) x = nI c) (g0 : lvg lv 0 = some (.ref m)) (g1 : lvg lv 1 = some (.int (nI x))) (g3 : lvg lv 3 = some (.int (nI i3))) (g4 : lvg lv 4 = some (.int (nI c))) (g5 : lvg lv 5 = some (.int (nI 1)))  (hn : 6 ≤ n) (K : KVM m A Q S (g_X8_puts_193_1 (sI S) m A x nt c i3 )) : wpn (kX8_puts Q) n 193 lv [] S 0 0 := by
  obtain ⟨d, rfl⟩ : ∃ d, n = d + 6 := ⟨n - 6, by omega⟩
  unfold g_X8_puts_193_1 at K
  refine u_X8_puts_193 ?_
  unfold bX8_puts_193
  refine e_ldI g5 ?_
  refine e_cN 5 rfl ?_
  refine ⟨fun z => absurd z (by decide), fun _ => ?_⟩
  refine e_ldA g0 ?_
  refine e_gR hM.1 (hM.2.1 31 (by decide)).1 ?_
  refine e_cN 10 rfl ?_
  refine e_ldA g0 ?_
  refine e_gV (v := nI nt) hM.1 q0 ?_
  refine e_mul ?_
  refine e_ldI g5 ?_
  refine e_add ?_
  refine e_ldA g0 ?_
  refine e_ldI g1 ?_
  refine e_ldI g5 ?_
  refine And.intro hM.1 (And.intro ⟨by decide, by decide⟩ (x_own1 hM (by omega) ir (KP_i ?_)))
  refine e_mA (N := 40000) (k := 31) hM ir (by decide) (kdA (k := 31) hM (by decide) rfl) (lnA (k := 31) hM (by decide) rfl) (by omega) (by decide) (fun N e => nomatch (show (none : Option Nat) = some N from e)) (fun e => absurd e (by decide)) (fun ir1 => ?_)
  refine e_ldA g0 ?_
  refine e_gR hM.1 (hM.2.1 31 (by decide)).1 ?_
  refine e_cN 10 rfl ?_
  refine e_ldA g0 ?_
  refine e_gV (v := nI nt) hM.1 (rd_a q0 (Ne.symm (hM.2.1 31 (by decide)).2.2.2)) ?_
  refine e_mul ?_
  refine e_cN 5 rfl ?_
  refine e_add ?_
  refine e_ldI g5 ?_
  refine e_add ?_
  refine e_ldA g0 ?_
  refine e_gR hM.1 (hM.2.1 18 (by decide)).1 ?_
  refine e_cN 5 rfl ?_
  refine e_ldI g1 ?_
  refine e_mul ?_
  refine e_ldI g5 ?_
  refine e_add ?_
  refine e_aE (N := 80) (kdA (k := 18) hM (by decide) rfl) (lnA (k := 18) hM (by decide) rfl) (by omega) (by decide) ?_
  refine e_mA (N := 40000) (k := 31) hM ir1 (by decide) (kdA (k := 31) hM (by decide) rfl) (lnA (k := 31) hM (by decide) rfl) (by omega) (by decide) (fun N e => nomatch (show (none : Option Nat) = some N from e)) (fun e => absurd e (by decide)) (fun ir3 => ?_)
  refine e_inc g5 ?_
  exact y_X8_puts_193_2 hM hx hnt hc ir3 (by omega) (rd_a (rd_a q0 (Ne.symm (hM.2.1 31 (by decide)).2.2.2)) (Ne.symm (hM.2.1 31 (by decide)).2.2.2)) (rd_a (rd_a q1 (ne_A hM (by decide) (by decide) (by decide))) (ne_A hM (by decide) (by decide) (by decide))) (lvg_ne g0 rfl (by decide)) (lvg_ne g1 rfl (by decide)) (lvg_ne g3 rfl (by decide)) (lvg_ne g4 rfl (by decide)) lvg_self  (by omega) K
def g_X8_puts_193_0 (I : Nat → Nat → Int32) (m : Nat) (A : Nat → Nat) (x : Nat) (nt : Nat) (c : Nat) (i3 : Nat)  : Nat → Nat → Int32 := let I2 := up2 I (A 31) ((10 * nt) + 0) (f_own0 I m A x); let I4 := up2 I2 (A 31) (((10 * nt) + 5) + 0) (I2 (A 18) ((5 * x) + 0)); g_X8_puts_193_1 I4 m A x nt c i3 
theorem y_X8_puts_193_0 {Q : Option Value → MM → Prop} {S : MM} {m : Nat} {A : Nat → Nat} {x : Nat} {nt : Nat} {c : Nat} {i3 : Nat}  {n : Nat} {lv : Lv} (hM : MS S m A) (hx : x < 16) (hnt : nt < 4000) (hc : c < 8) (ir : IM S m A) (hi3 : i3 < 2) (q0 : sI S m 32 = nI nt) (q1 : sI S (A 11) x = nI c) (g0 : lvg lv 0 = some (.ref m)) (g1 : lvg lv 1 = some (.int (nI x))) (g3 : lvg lv 3 = some (.int (nI i3))) (g4 : lvg lv 4 = some (.int (nI c))) (g5 : lvg lv 5 = some (.int (nI 0)))  (hn : 7 ≤ n) (K : KVM m A Q S (g_X8_puts_193_0 (sI S) m A x nt c i3 )) : wpn (kX8_puts Q) n 193 lv [] S 0 0 := by
  obtain ⟨d, rfl⟩ : ∃ d, n = d + 7 := ⟨n - 7, by omega⟩
  unfold g_X8_puts_193_0 at K
  refine u_X8_puts_193 ?_
  unfold bX8_puts_193
  refine e_ldI g5 ?_
  refine e_cN 5 rfl ?_
  refine ⟨fun z => absurd z (by decide), fun _ => ?_⟩
  refine e_ldA g0 ?_
  refine e_gR hM.1 (hM.2.1 31 (by decide)).1 ?_
  refine e_cN 10 rfl ?_
  refine e_ldA g0 ?_
  refine e_gV (v := nI nt) hM.1 q0 ?_
  refine e_mul ?_
  refine e_ldI g5 ?_
  refine e_add ?_
  refine e_ldA g0 ?_
  refine e_ldI g1 ?_
  refine e_ldI g5 ?_
  refine And.intro hM.1 (And.intro ⟨by decide, by decide⟩ (x_own0 hM (by omega) ir (KP_i ?_)))
  refine e_mA (N := 40000) (k := 31) hM ir (by decide) (kdA (k := 31) hM (by decide) rfl) (lnA (k := 31) hM (by decide) rfl) (by omega) (by decide) (fun N e => nomatch (show (none : Option Nat) = some N from e)) (fun e => absurd e (by decide)) (fun ir1 => ?_)
  refine e_ldA g0 ?_
  refine e_gR hM.1 (hM.2.1 31 (by decide)).1 ?_
  refine e_cN 10 rfl ?_
  refine e_ldA g0 ?_
  refine e_gV (v := nI nt) hM.1 (rd_a q0 (Ne.symm (hM.2.1 31 (by decide)).2.2.2)) ?_
  refine e_mul ?_
  refine e_cN 5 rfl ?_
  refine e_add ?_
  refine e_ldI g5 ?_
  refine e_add ?_
  refine e_ldA g0 ?_
  refine e_gR hM.1 (hM.2.1 18 (by decide)).1 ?_
  refine e_cN 5 rfl ?_
  refine e_ldI g1 ?_
  refine e_mul ?_
  refine e_ldI g5 ?_
  refine e_add ?_
  refine e_aE (N := 80) (kdA (k := 18) hM (by decide) rfl) (lnA (k := 18) hM (by decide) rfl) (by omega) (by decide) ?_
  refine e_mA (N := 40000) (k := 31) hM ir1 (by decide) (kdA (k := 31) hM (by decide) rfl) (lnA (k := 31) hM (by decide) rfl) (by omega) (by decide) (fun N e => nomatch (show (none : Option Nat) = some N from e)) (fun e => absurd e (by decide)) (fun ir3 => ?_)
  refine e_inc g5 ?_
  exact y_X8_puts_193_1 hM hx hnt hc ir3 (by omega) (rd_a (rd_a q0 (Ne.symm (hM.2.1 31 (by decide)).2.2.2)) (Ne.symm (hM.2.1 31 (by decide)).2.2.2)) (rd_a (rd_a q1 (ne_A hM (by decide) (by decide) (by decide))) (ne_A hM (by decide) (by decide) (by decide))) (lvg_ne g0 rfl (by decide)) (lvg_ne g1 rfl (by decide)) (lvg_ne g3 rfl (by decide)) (lvg_ne g4 rfl (by decide)) lvg_self  (by omega) K
def g_X8_puts_142 (I : Nat → Nat → Int32) (m : Nat) (A : Nat → Nat) (x : Nat) (nt : Nat) (c : Nat)   : Nat → Nat → Int32 := if (I (A 26) ((2 * c) + (x / 8))) ≤ 0 then (g_X8_puts_193_0 I m A x nt c (x / 8) ) else (let I3 := up2 I (A 26) ((2 * c) + (x / 8)) ((I (A 26) ((2 * c) + (x / 8))) - (nI 1)); let I5 := up2 I3 m 50 (nI 1); I5)
theorem y_X8_puts_142 {Q : Option Value → MM → Prop} {S : MM} {m : Nat} {A : Nat → Nat} {x : Nat} {nt : Nat} {c : Nat}   {n : Nat} {lv : Lv} (hM : MS S m A) (hx : x < 16) (hnt : nt < 4000) (hc : c < 8) (ir : IM S m A)  (q0 : sI S m 32 = nI nt) (q1 : sI S (A 11) x = nI c) (g0 : lvg lv 0 = some (.ref m)) (g1 : lvg lv 1 = some (.int (nI x)))  (hn : 9 ≤ n) (K : KVM m A Q S (g_X8_puts_142 (sI S) m A x nt c  )) : wpn (kX8_puts Q) n 142 lv [] S 0 0 := by
  obtain ⟨d, rfl⟩ : ∃ d, n = d + 9 := ⟨n - 9, by omega⟩
  unfold g_X8_puts_142 at K
  refine u_X8_puts_142 ?_
  unfold bX8_puts_142
  refine e_ldI g1 ?_
  refine e_cN 8 rfl ?_
  refine e_div (by omega) (by decide) (by decide) ?_
  refine e_stI ?_
  refine e_ldA (lvg_ne g0 rfl (by decide)) ?_
  refine e_gR hM.1 (hM.2.1 11 (by decide)).1 ?_
  refine e_ldI (lvg_ne g1 rfl (by decide)) ?_
  refine e_aV (N := 16) (v := nI c) (kdA (k := 11) hM (by decide) rfl) (lnA (k := 11) hM (by decide) rfl) (by omega) (by decide) q1 ?_
  refine e_stI ?_
  refine e_ldA (lvg_ne (lvg_ne g0 rfl (by decide)) rfl (by decide)) ?_
  refine e_gR hM.1 (hM.2.1 26 (by decide)).1 ?_
  refine e_cN 2 rfl ?_
  refine e_ldI lvg_self ?_
  refine e_mul ?_
  refine e_ldI (lvg_ne lvg_self rfl (by decide)) ?_
  refine e_add ?_
  refine e_aE (N := 16) (kdA (k := 26) hM (by decide) rfl) (lnA (k := 26) hM (by decide) rfl) (by omega) (by decide) ?_
  refine ⟨fun h1 => ?_, fun h1 => ?_⟩
  · replace K := kx_p h1 K
    refine u_X8_puts_190 ?_
    unfold bX8_puts_190
    refine e_cN 0 rfl ?_
    refine e_stI ?_
    exact y_X8_puts_193_0 hM hx hnt hc ir (by omega) q0 q1 (lvg_ne (lvg_ne (lvg_ne g0 rfl (by decide)) rfl (by decide)) rfl (by decide)) (lvg_ne (lvg_ne (lvg_ne g1 rfl (by decide)) rfl (by decide)) rfl (by decide)) (lvg_ne (lvg_ne lvg_self rfl (by decide)) rfl (by decide)) (lvg_ne lvg_self rfl (by decide)) lvg_self  (by omega) K
  · replace K := kx_n h1 K
    refine e_ldA (lvg_ne (lvg_ne g0 rfl (by decide)) rfl (by decide)) ?_
    refine e_gR hM.1 (hM.2.1 26 (by decide)).1 ?_
    refine e_cN 2 rfl ?_
    refine e_ldI lvg_self ?_
    refine e_mul ?_
    refine e_ldI (lvg_ne lvg_self rfl (by decide)) ?_
    refine e_add ?_
    refine e_du2 ?_
    refine e_aE (N := 16) (kdA (k := 26) hM (by decide) rfl) (lnA (k := 26) hM (by decide) rfl) (by omega) (by decide) ?_
    refine e_cN 1 rfl ?_
    refine e_bopE ?_
    refine e_mA (N := 16) (k := 26) hM ir (by decide) (kdA (k := 26) hM (by decide) rfl) (lnA (k := 26) hM (by decide) rfl) (by omega) (by decide) (fun N e => nomatch (show (none : Option Nat) = some N from e)) (fun e => absurd e (by decide)) (fun ir2 => ?_)
    refine e_ldA (lvg_ne (lvg_ne g0 rfl (by decide)) rfl (by decide)) ?_
    refine e_cN 1 rfl ?_
    refine e_mTZ hM ir2 hM.1 (Or.inr rfl) (fun N e => nomatch (show (none : Option Nat) = some N from e)) (fun ir4 => ?_)
    exact e_rV (K ir4)
def g_X8_puts_115_5 (I : Nat → Nat → Int32) (m : Nat) (A : Nat → Nat) (x : Nat) (nt : Nat) (c : Nat)   : Nat → Nat → Int32 := g_X8_puts_142 I m A x nt c  
theorem y_X8_puts_115_5 {Q : Option Value → MM → Prop} {S : MM} {m : Nat} {A : Nat → Nat} {x : Nat} {nt : Nat} {c : Nat}   {n : Nat} {lv : Lv} (hM : MS S m A) (hx : x < 16) (hnt : nt < 4000) (hc : c < 8) (ir : IM S m A)  (q0 : sI S m 32 = nI nt) (q1 : sI S (A 11) x = nI c) (g0 : lvg lv 0 = some (.ref m)) (g1 : lvg lv 1 = some (.int (nI x))) (g3 : lvg lv 3 = some (.int (nI 5)))  (hn : 10 ≤ n) (K : KVM m A Q S (g_X8_puts_115_5 (sI S) m A x nt c  )) : wpn (kX8_puts Q) n 115 lv [] S 0 0 := by
  obtain ⟨d, rfl⟩ : ∃ d, n = d + 10 := ⟨n - 10, by omega⟩
  unfold g_X8_puts_115_5 at K
  refine u_X8_puts_115 ?_
  unfold bX8_puts_115
  refine e_ldI g3 ?_
  refine e_cN 5 rfl ?_
  refine ⟨fun _ => ?_, fun z => absurd (by decide) z⟩
  exact y_X8_puts_142 hM hx hnt hc ir  q0 q1 g0 g1  (by omega) K
def g_X8_puts_115_4 (I : Nat → Nat → Int32) (m : Nat) (A : Nat → Nat) (x : Nat) (nt : Nat) (c : Nat)   : Nat → Nat → Int32 := let I2 := up2 I (A 20) ((5 * x) + 4) (f_own4 I m A x); g_X8_puts_115_5 I2 m A x nt c  
theorem y_X8_puts_115_4 {Q : Option Value → MM → Prop} {S : MM} {m : Nat} {A : Nat → Nat} {x : Nat} {nt : Nat} {c : Nat}   {n : Nat} {lv : Lv} (hM : MS S m A) (hx : x < 16) (hnt : nt < 4000) (hc : c < 8) (ir : IM S m A)  (q0 : sI S m 32 = nI nt) (q1 : sI S (A 11) x = nI c) (g0 : lvg lv 0 = some (.ref m)) (g1 : lvg lv 1 = some (.int (nI x))) (g3 : lvg lv 3 = some (.int (nI 4)))  (hn : 11 ≤ n) (K : KVM m A Q S (g_X8_puts_115_4 (sI S) m A x nt c  )) : wpn (kX8_puts Q) n 115 lv [] S 0 0 := by
  obtain ⟨d, rfl⟩ : ∃ d, n = d + 11 := ⟨n - 11, by omega⟩
  unfold g_X8_puts_115_4 at K
  refine u_X8_puts_115 ?_
  unfold bX8_puts_115
  refine e_ldI g3 ?_
  refine e_cN 5 rfl ?_
  refine ⟨fun z => absurd z (by decide), fun _ => ?_⟩
  refine e_ldA g0 ?_
  refine e_gR hM.1 (hM.2.1 20 (by decide)).1 ?_
  refine e_cN 5 rfl ?_
  refine e_ldI g1 ?_
  refine e_mul ?_
  refine e_ldI g3 ?_
  refine e_add ?_
  refine e_ldA g0 ?_
  refine e_ldI g1 ?_
  refine e_ldI g3 ?_
  refine And.intro hM.1 (And.intro ⟨by decide, by decide⟩ (x_own4 hM (by omega) ir (KP_i ?_)))
  refine e_mA (N := 80) (k := 20) hM ir (by decide) (kdA (k := 20) hM (by decide) rfl) (lnA (k := 20) hM (by decide) rfl) (by omega) (by decide) (fun N e => nomatch (show (none : Option Nat) = some N from e)) (fun e => absurd e (by decide)) (fun ir1 => ?_)
  refine e_inc g3 ?_
  exact y_X8_puts_115_5 hM hx hnt hc ir1  (rd_a q0 (Ne.symm (hM.2.1 20 (by decide)).2.2.2)) (rd_a q1 (ne_A hM (by decide) (by decide) (by decide))) (lvg_ne g0 rfl (by decide)) (lvg_ne g1 rfl (by decide)) lvg_self  (by omega) K
def g_X8_puts_115_3 (I : Nat → Nat → Int32) (m : Nat) (A : Nat → Nat) (x : Nat) (nt : Nat) (c : Nat)   : Nat → Nat → Int32 := let I2 := up2 I (A 20) ((5 * x) + 3) (f_own3 I m A x); g_X8_puts_115_4 I2 m A x nt c  
theorem y_X8_puts_115_3 {Q : Option Value → MM → Prop} {S : MM} {m : Nat} {A : Nat → Nat} {x : Nat} {nt : Nat} {c : Nat}   {n : Nat} {lv : Lv} (hM : MS S m A) (hx : x < 16) (hnt : nt < 4000) (hc : c < 8) (ir : IM S m A)  (q0 : sI S m 32 = nI nt) (q1 : sI S (A 11) x = nI c) (g0 : lvg lv 0 = some (.ref m)) (g1 : lvg lv 1 = some (.int (nI x))) (g3 : lvg lv 3 = some (.int (nI 3)))  (hn : 12 ≤ n) (K : KVM m A Q S (g_X8_puts_115_3 (sI S) m A x nt c  )) : wpn (kX8_puts Q) n 115 lv [] S 0 0 := by
  obtain ⟨d, rfl⟩ : ∃ d, n = d + 12 := ⟨n - 12, by omega⟩
  unfold g_X8_puts_115_3 at K
  refine u_X8_puts_115 ?_
  unfold bX8_puts_115
  refine e_ldI g3 ?_
  refine e_cN 5 rfl ?_
  refine ⟨fun z => absurd z (by decide), fun _ => ?_⟩
  refine e_ldA g0 ?_
  refine e_gR hM.1 (hM.2.1 20 (by decide)).1 ?_
  refine e_cN 5 rfl ?_
  refine e_ldI g1 ?_
  refine e_mul ?_
  refine e_ldI g3 ?_
  refine e_add ?_
  refine e_ldA g0 ?_
  refine e_ldI g1 ?_
  refine e_ldI g3 ?_
  refine And.intro hM.1 (And.intro ⟨by decide, by decide⟩ (x_own3 hM (by omega) ir (KP_i ?_)))
  refine e_mA (N := 80) (k := 20) hM ir (by decide) (kdA (k := 20) hM (by decide) rfl) (lnA (k := 20) hM (by decide) rfl) (by omega) (by decide) (fun N e => nomatch (show (none : Option Nat) = some N from e)) (fun e => absurd e (by decide)) (fun ir1 => ?_)
  refine e_inc g3 ?_
  exact y_X8_puts_115_4 hM hx hnt hc ir1  (rd_a q0 (Ne.symm (hM.2.1 20 (by decide)).2.2.2)) (rd_a q1 (ne_A hM (by decide) (by decide) (by decide))) (lvg_ne g0 rfl (by decide)) (lvg_ne g1 rfl (by decide)) lvg_self  (by omega) K
def g_X8_puts_115_2 (I : Nat → Nat → Int32) (m : Nat) (A : Nat → Nat) (x : Nat) (nt : Nat) (c : Nat)   : Nat → Nat → Int32 := let I2 := up2 I (A 20) ((5 * x) + 2) (f_own2 I m A x); g_X8_puts_115_3 I2 m A x nt c  
theorem y_X8_puts_115_2 {Q : Option Value → MM → Prop} {S : MM} {m : Nat} {A : Nat → Nat} {x : Nat} {nt : Nat} {c : Nat}   {n : Nat} {lv : Lv} (hM : MS S m A) (hx : x < 16) (hnt : nt < 4000) (hc : c < 8) (ir : IM S m A)  (q0 : sI S m 32 = nI nt) (q1 : sI S (A 11) x = nI c) (g0 : lvg lv 0 = some (.ref m)) (g1 : lvg lv 1 = some (.int (nI x))) (g3 : lvg lv 3 = some (.int (nI 2)))  (hn : 13 ≤ n) (K : KVM m A Q S (g_X8_puts_115_2 (sI S) m A x nt c  )) : wpn (kX8_puts Q) n 115 lv [] S 0 0 := by
  obtain ⟨d, rfl⟩ : ∃ d, n = d + 13 := ⟨n - 13, by omega⟩
  unfold g_X8_puts_115_2 at K
  refine u_X8_puts_115 ?_
  unfold bX8_puts_115
  refine e_ldI g3 ?_
  refine e_cN 5 rfl ?_
  refine ⟨fun z => absurd z (by decide), fun _ => ?_⟩
  refine e_ldA g0 ?_
  refine e_gR hM.1 (hM.2.1 20 (by decide)).1 ?_
  refine e_cN 5 rfl ?_
  refine e_ldI g1 ?_
  refine e_mul ?_
  refine e_ldI g3 ?_
  refine e_add ?_
  refine e_ldA g0 ?_
  refine e_ldI g1 ?_
  refine e_ldI g3 ?_
  refine And.intro hM.1 (And.intro ⟨by decide, by decide⟩ (x_own2 hM (by omega) ir (KP_i ?_)))
  refine e_mA (N := 80) (k := 20) hM ir (by decide) (kdA (k := 20) hM (by decide) rfl) (lnA (k := 20) hM (by decide) rfl) (by omega) (by decide) (fun N e => nomatch (show (none : Option Nat) = some N from e)) (fun e => absurd e (by decide)) (fun ir1 => ?_)
  refine e_inc g3 ?_
  exact y_X8_puts_115_3 hM hx hnt hc ir1  (rd_a q0 (Ne.symm (hM.2.1 20 (by decide)).2.2.2)) (rd_a q1 (ne_A hM (by decide) (by decide) (by decide))) (lvg_ne g0 rfl (by decide)) (lvg_ne g1 rfl (by decide)) lvg_self  (by omega) K
def g_X8_puts_115_1 (I : Nat → Nat → Int32) (m : Nat) (A : Nat → Nat) (x : Nat) (nt : Nat) (c : Nat)   : Nat → Nat → Int32 := let I2 := up2 I (A 20) ((5 * x) + 1) (f_own1 I m A x); g_X8_puts_115_2 I2 m A x nt c  
theorem y_X8_puts_115_1 {Q : Option Value → MM → Prop} {S : MM} {m : Nat} {A : Nat → Nat} {x : Nat} {nt : Nat} {c : Nat}   {n : Nat} {lv : Lv} (hM : MS S m A) (hx : x < 16) (hnt : nt < 4000) (hc : c < 8) (ir : IM S m A)  (q0 : sI S m 32 = nI nt) (q1 : sI S (A 11) x = nI c) (g0 : lvg lv 0 = some (.ref m)) (g1 : lvg lv 1 = some (.int (nI x))) (g3 : lvg lv 3 = some (.int (nI 1)))  (hn : 14 ≤ n) (K : KVM m A Q S (g_X8_puts_115_1 (sI S) m A x nt c  )) : wpn (kX8_puts Q) n 115 lv [] S 0 0 := by
  obtain ⟨d, rfl⟩ : ∃ d, n = d + 14 := ⟨n - 14, by omega⟩
  unfold g_X8_puts_115_1 at K
  refine u_X8_puts_115 ?_
  unfold bX8_puts_115
  refine e_ldI g3 ?_
  refine e_cN 5 rfl ?_
  refine ⟨fun z => absurd z (by decide), fun _ => ?_⟩
  refine e_ldA g0 ?_
  refine e_gR hM.1 (hM.2.1 20 (by decide)).1 ?_
  refine e_cN 5 rfl ?_
  refine e_ldI g1 ?_
  refine e_mul ?_
  refine e_ldI g3 ?_
  refine e_add ?_
  refine e_ldA g0 ?_
  refine e_ldI g1 ?_
  refine e_ldI g3 ?_
  refine And.intro hM.1 (And.intro ⟨by decide, by decide⟩ (x_own1 hM (by omega) ir (KP_i ?_)))
  refine e_mA (N := 80) (k := 20) hM ir (by decide) (kdA (k := 20) hM (by decide) rfl) (lnA (k := 20) hM (by decide) rfl) (by omega) (by decide) (fun N e => nomatch (show (none : Option Nat) = some N from e)) (fun e => absurd e (by decide)) (fun ir1 => ?_)
  refine e_inc g3 ?_
  exact y_X8_puts_115_2 hM hx hnt hc ir1  (rd_a q0 (Ne.symm (hM.2.1 20 (by decide)).2.2.2)) (rd_a q1 (ne_A hM (by decide) (by decide) (by decide))) (lvg_ne g0 rfl (by decide)) (lvg_ne g1 rfl (by decide)) lvg_self  (by omega) K
def g_X8_puts_115_0 (I : Nat → Nat → Int32) (m : Nat) (A : Nat → Nat) (x : Nat) (nt : Nat) (c : Nat)   : Nat → Nat → Int32 := let I2 := up2 I (A 20) ((5 * x) + 0) (f_own0 I m A x); g_X8_puts_115_1 I2 m A x nt c  
theorem y_X8_puts_115_0 {Q : Option Value → MM → Prop} {S : MM} {m : Nat} {A : Nat → Nat} {x : Nat} {nt : Nat} {c : Nat}   {n : Nat} {lv : Lv} (hM : MS S m A) (hx : x < 16) (hnt : nt < 4000) (hc : c < 8) (ir : IM S m A)  (q0 : sI S m 32 = nI nt) (q1 : sI S (A 11) x = nI c) (g0 : lvg lv 0 = some (.ref m)) (g1 : lvg lv 1 = some (.int (nI x))) (g3 : lvg lv 3 = some (.int (nI 0)))  (hn : 15 ≤ n) (K : KVM m A Q S (g_X8_puts_115_0 (sI S) m A x nt c  )) : wpn (kX8_puts Q) n 115 lv [] S 0 0 := by
  obtain ⟨d, rfl⟩ : ∃ d, n = d + 15 := ⟨n - 15, by omega⟩
  unfold g_X8_puts_115_0 at K
  refine u_X8_puts_115 ?_
  unfold bX8_puts_115
  refine e_ldI g3 ?_
  refine e_cN 5 rfl ?_
  refine ⟨fun z => absurd z (by decide), fun _ => ?_⟩
  refine e_ldA g0 ?_
  refine e_gR hM.1 (hM.2.1 20 (by decide)).1 ?_
  refine e_cN 5 rfl ?_
  refine e_ldI g1 ?_
  refine e_mul ?_
  refine e_ldI g3 ?_
  refine e_add ?_
  refine e_ldA g0 ?_
  refine e_ldI g1 ?_
  refine e_ldI g3 ?_
  refine And.intro hM.1 (And.intro ⟨by decide, by decide⟩ (x_own0 hM (by omega) ir (KP_i ?_)))
  refine e_mA (N := 80) (k := 20) hM ir (by decide) (kdA (k := 20) hM (by decide) rfl) (lnA (k := 20) hM (by decide) rfl) (by omega) (by decide) (fun N e => nomatch (show (none : Option Nat) = some N from e)) (fun e => absurd e (by decide)) (fun ir1 => ?_)
  refine e_inc g3 ?_
  exact y_X8_puts_115_1 hM hx hnt hc ir1  (rd_a q0 (Ne.symm (hM.2.1 20 (by decide)).2.2.2)) (rd_a q1 (ne_A hM (by decide) (by decide) (by decide))) (lvg_ne g0 rfl (by decide)) (lvg_ne g1 rfl (by decide)) lvg_self  (by omega) K
def g_X8_puts_86 (I : Nat → Nat → Int32) (m : Nat) (A : Nat → Nat) (x : Nat) (nt : Nat) (c : Nat)   : Nat → Nat → Int32 := let I2 := up2 I (A 14) x (nI 0); let I4 := up2 I2 (A 16) x ((I2 (A 16) x) + (nI 1)); let I6 := up2 I4 (A 21) x (I4 m 43); g_X8_puts_115_0 I6 m A x nt c  
theorem y_X8_puts_86 {Q : Option Value → MM → Prop} {S : MM} {m : Nat} {A : Nat → Nat} {x : Nat} {nt : Nat} {c : Nat}   {n : Nat} {lv : Lv} (hM : MS S m A) (hx : x < 16) (hnt : nt < 4000) (hc : c < 8) (ir : IM S m A)  (q0 : sI S m 32 = nI nt) (q1 : sI S (A 11) x = nI c) (g0 : lvg lv 0 = some (.ref m)) (g1 : lvg lv 1 = some (.int (nI x)))  (hn : 16 ≤ n) (K : KVM m A Q S (g_X8_puts_86 (sI S) m A x nt c  )) : wpn (kX8_puts Q) n 86 lv [] S 0 0 := by
  obtain ⟨d, rfl⟩ : ∃ d, n = d + 16 := ⟨n - 16, by omega⟩
  unfold g_X8_puts_86 at K
  refine u_X8_puts_86 ?_
  unfold bX8_puts_86
  refine e_ldA g0 ?_
  refine e_gR hM.1 (hM.2.1 14 (by decide)).1 ?_
  refine e_ldI g1 ?_
  refine e_cN 0 rfl ?_
  refine e_mB (N := 16) (k := 14) hM ir (by decide) (kdA (k := 14) hM (by decide) rfl) (lnA (k := 14) hM (by decide) rfl) (by omega) (by decide) (Or.inl rfl) (fun N e => nomatch (show (none : Option Nat) = some N from e)) (fun e => absurd e (by decide)) (fun ir1 => ?_)
  refine e_ldA g0 ?_
  refine e_gR hM.1 (hM.2.1 16 (by decide)).1 ?_
  refine e_ldI g1 ?_
  refine e_du2 ?_
  refine e_aE (N := 16) (kdA (k := 16) hM (by decide) rfl) (lnA (k := 16) hM (by decide) rfl) (by omega) (by decide) ?_
  refine e_cN 1 rfl ?_
  refine e_bopE ?_
  refine e_mA (N := 16) (k := 16) hM ir1 (by decide) (kdA (k := 16) hM (by decide) rfl) (lnA (k := 16) hM (by decide) rfl) (by omega) (by decide) (fun N e => nomatch (show (none : Option Nat) = some N from e)) (fun e => absurd e (by decide)) (fun ir3 => ?_)
  refine e_ldA g0 ?_
  refine e_gR hM.1 (hM.2.1 21 (by decide)).1 ?_
  refine e_ldI g1 ?_
  refine e_ldA g0 ?_
  refine e_gE hM.1 ?_
  refine e_mA (N := 16) (k := 21) hM ir3 (by decide) (kdA (k := 21) hM (by decide) rfl) (lnA (k := 21) hM (by decide) rfl) (by omega) (by decide) (fun N e => nomatch (show (none : Option Nat) = some N from e)) (fun e => absurd e (by decide)) (fun ir5 => ?_)
  refine e_cN 0 rfl ?_
  refine e_stI ?_
  exact y_X8_puts_115_0 hM hx hnt hc ir5  (rd_a (rd_a (rd_a q0 (Ne.symm (hM.2.1 14 (by decide)).2.2.2)) (Ne.symm (hM.2.1 16 (by decide)).2.2.2)) (Ne.symm (hM.2.1 21 (by decide)).2.2.2)) (rd_a (rd_a (rd_a q1 (ne_A hM (by decide) (by decide) (by decide))) (ne_A hM (by decide) (by decide) (by decide))) (ne_A hM (by decide) (by decide) (by decide))) (lvg_ne g0 rfl (by decide)) (lvg_ne g1 rfl (by decide)) lvg_self  (by omega) K
def g_X8_puts_52 (I : Nat → Nat → Int32) (m : Nat) (A : Nat → Nat) (x : Nat) (nt : Nat) (c : Nat)  (s0 : Int32) : Nat → Nat → Int32 := if (f_X8_isTold I m A x) = 0 then (g_X8_puts_86 I m A x nt c  ) else (if (I (A 14) x) = 0 then (if s0 ≤ ((I m 43) - (I (A 21) x)) then (g_X8_puts_86 I m A x nt c  ) else (I)) else (g_X8_puts_86 I m A x nt c  ))
theorem y_X8_puts_52 {Q : Option Value → MM → Prop} {S : MM} {m : Nat} {A : Nat → Nat} {x : Nat} {nt : Nat} {c : Nat}  {s0 : Int32} {n : Nat} {lv : Lv} (hM : MS S m A) (hx : x < 16) (hnt : nt < 4000) (hc : c < 8) (ir : IM S m A)  (q0 : sI S m 32 = nI nt) (q1 : sI S (A 11) x = nI c) (g0 : lvg lv 0 = some (.ref m)) (g1 : lvg lv 1 = some (.int (nI x)))  (hn : 17 ≤ n) (K : KVM m A Q S (g_X8_puts_52 (sI S) m A x nt c  s0)) : wpn (kX8_puts Q) n 52 lv [.int s0] S 0 0 := by
  obtain ⟨d, rfl⟩ : ∃ d, n = d + 17 := ⟨n - 17, by omega⟩
  unfold g_X8_puts_52 at K
  refine u_X8_puts_52 ?_
  unfold bX8_puts_52
  refine e_stI ?_
  refine e_ldA (lvg_ne g0 rfl (by decide)) ?_
  refine e_ldI (lvg_ne g1 rfl (by decide)) ?_
  refine And.intro hM.1 (And.intro ⟨by decide, by decide⟩ (x_X8_isTold hM (by omega) ir (KP_i ?_)))
  refine ⟨fun h1 => ?_, fun h1 => ?_⟩
  · replace K := kx_p h1 K
    exact y_X8_puts_86 hM hx hnt hc ir  q0 q1 (lvg_ne g0 rfl (by decide)) (lvg_ne g1 rfl (by decide))  (by omega) K
  · replace K := kx_n h1 K
    refine e_ldA (lvg_ne g0 rfl (by decide)) ?_
    refine e_gR hM.1 (hM.2.1 14 (by decide)).1 ?_
    refine e_ldI (lvg_ne g1 rfl (by decide)) ?_
    refine e_aE (N := 16) (kdA (k := 14) hM (by decide) rfl) (lnA (k := 14) hM (by decide) rfl) (by omega) (by decide) ?_
    refine ⟨fun h2 => ?_, fun h2 => ?_⟩
    · replace K := kx_p h2 K
      refine e_ldA (lvg_ne g0 rfl (by decide)) ?_
      refine e_gE hM.1 ?_
      refine e_ldA (lvg_ne g0 rfl (by decide)) ?_
      refine e_gR hM.1 (hM.2.1 21 (by decide)).1 ?_
      refine e_ldI (lvg_ne g1 rfl (by decide)) ?_
      refine e_aE (N := 16) (kdA (k := 21) hM (by decide) rfl) (lnA (k := 21) hM (by decide) rfl) (by omega) (by decide) ?_
      refine e_bopE ?_
      refine e_ldI lvg_self ?_
      refine ⟨fun h3 => ?_, fun h3 => ?_⟩
      · replace K := kx_p h3 K
        exact y_X8_puts_86 hM hx hnt hc ir  q0 q1 (lvg_ne g0 rfl (by decide)) (lvg_ne g1 rfl (by decide))  (by omega) K
      · replace K := kx_n h3 K
        exact e_rV (K ir)
    · replace K := kx_n h2 K
      exact y_X8_puts_86 hM hx hnt hc ir  q0 q1 (lvg_ne g0 rfl (by decide)) (lvg_ne g1 rfl (by decide))  (by omega) K
def g_X8_puts_27 (I : Nat → Nat → Int32) (m : Nat) (A : Nat → Nat) (x : Nat) (nt : Nat) (c : Nat)   : Nat → Nat → Int32 := if (I (A 7) x) = (nI 2) then (if (f_X8_isPartner I m A x (nI 2)) = 0 then (g_X8_puts_52 I m A x nt c  (nI 30)) else (g_X8_puts_52 I m A x nt c  (nI 1))) else (g_X8_puts_52 I m A x nt c  (nI 1))
theorem y_X8_puts_27 {Q : Option Value → MM → Prop} {S : MM} {m : Nat} {A : Nat → Nat} {x : Nat} {nt : Nat} {c : Nat}   {n : Nat} {lv : Lv} (hM : MS S m A) (hx : x < 16) (hnt : nt < 4000) (hc : c < 8) (ir : IM S m A)  (q0 : sI S m 32 = nI nt) (q1 : sI S (A 11) x = nI c) (g0 : lvg lv 0 = some (.ref m)) (g1 : lvg lv 1 = some (.int (nI x)))  (hn : 19 ≤ n) (K : KVM m A Q S (g_X8_puts_27 (sI S) m A x nt c  )) : wpn (kX8_puts Q) n 27 lv [] S 0 0 := by
  obtain ⟨d, rfl⟩ : ∃ d, n = d + 19 := ⟨n - 19, by omega⟩
  unfold g_X8_puts_27 at K
  refine u_X8_puts_27 ?_
  unfold bX8_puts_27
  refine e_ldA g0 ?_
  refine e_gR hM.1 (hM.2.1 7 (by decide)).1 ?_
  refine e_ldI g1 ?_
  refine e_aE (N := 16) (kdA (k := 7) hM (by decide) rfl) (lnA (k := 7) hM (by decide) rfl) (by omega) (by decide) ?_
  refine e_cN 2 rfl ?_
  refine ⟨fun h1 => ?_, fun h1 => ?_⟩
  · replace K := kx_p h1 K
    refine e_ldA g0 ?_
    refine e_ldI g1 ?_
    refine e_cN 2 rfl ?_
    refine And.intro hM.1 (And.intro ⟨by decide, by decide⟩ (x_X8_isPartner hM (by omega) ir (KP_i ?_)))
    refine ⟨fun h2 => ?_, fun h2 => ?_⟩
    · replace K := kx_p h2 K
      refine e_cN 30 rfl ?_
      exact y_X8_puts_52 hM hx hnt hc ir  q0 q1 g0 g1  (by omega) K
    · replace K := kx_n h2 K
      refine u_X8_puts_51 ?_
      unfold bX8_puts_51
      refine e_cN 1 rfl ?_
      exact y_X8_puts_52 hM hx hnt hc ir  q0 q1 g0 g1  (by omega) K
  · replace K := kx_n h1 K
    refine u_X8_puts_51 ?_
    unfold bX8_puts_51
    refine e_cN 1 rfl ?_
    exact y_X8_puts_52 hM hx hnt hc ir  q0 q1 g0 g1  (by omega) K
def f_X8_puts (I : Nat → Nat → Int32) (m : Nat) (A : Nat → Nat) (x : Nat) (nt : Nat) (c : Nat) : Nat → Nat → Int32 := if (f_X8_isLit I m A x) = 0 then (I) else (if (I (A 5) x) = 0 then (if (f_X8_isPartner I m A x (nI 1)) = 0 then (I) else (g_X8_puts_27 I m A x nt c  )) else (g_X8_puts_27 I m A x nt c  ))
theorem x_X8_puts {Q : Option Value → MM → Prop} {S : MM} {m : Nat} {A : Nat → Nat} {x : Nat} {nt : Nat} {c : Nat} (hM : MS S m A) (hx : x < 16) (hnt : nt < 4000) (hc : c < 8) (ir : IM S m A) (q0 : sI S m 32 = nI nt) (q1 : sI S (A 11) x = nI c)  (K : KVM m A Q S (f_X8_puts (sI S) m A x nt c)) : wX8_puts [.ref m, .int (nI x)] S Q := by
  unfold f_X8_puts at K
  refine Exists.intro 20 (u_X8_puts_0 ?_)
  unfold bX8_puts_0
  refine e_ldA rfl ?_
  refine e_ldI rfl ?_
  refine And.intro hM.1 (And.intro ⟨by decide, by decide⟩ (x_X8_isLit hM (by omega) ir (KP_i ?_)))
  refine ⟨fun h1 => ?_, fun h1 => ?_⟩
  · replace K := kx_p h1 K
    refine u_X8_puts_26 ?_
    unfold bX8_puts_26
    exact e_rV (K ir)
  · replace K := kx_n h1 K
    refine e_ldA rfl ?_
    refine e_gR hM.1 (hM.2.1 5 (by decide)).1 ?_
    refine e_ldI rfl ?_
    refine e_aE (N := 16) (kdA (k := 5) hM (by decide) rfl) (lnA (k := 5) hM (by decide) rfl) (by omega) (by decide) ?_
    refine ⟨fun h2 => ?_, fun h2 => ?_⟩
    · replace K := kx_p h2 K
      refine e_ldA rfl ?_
      refine e_ldI rfl ?_
      refine e_cN 1 rfl ?_
      refine And.intro hM.1 (And.intro ⟨by decide, by decide⟩ (x_X8_isPartner hM (by omega) ir (KP_i ?_)))
      refine ⟨fun h3 => ?_, fun h3 => ?_⟩
      · replace K := kx_p h3 K
        refine u_X8_puts_26 ?_
        unfold bX8_puts_26
        exact e_rV (K ir)
      · replace K := kx_n h3 K
        exact y_X8_puts_27 hM hx hnt hc ir  q0 q1 rfl rfl  (by omega) K
    · replace K := kx_n h2 K
      exact y_X8_puts_27 hM hx hnt hc ir  q0 q1 rfl rfl  (by omega) K
theorem nm_g_X8_puts_193_5 {I : Nat → Nat → Int32} {m : Nat} {A : Nat → Nat} {x : Nat} {nt : Nat} {c : Nat} {i3 : Nat}  {z : Nat} (hz : ∀ k ∈ ([14, 16, 20, 21, 26, 27, 28, 29, 30, 31] : List Nat), z ≠ A k) (hm : z ≠ m) : (g_X8_puts_193_5 I m A x nt c i3 ) z = I z := by
  simp only [g_X8_puts_193_5]
  repeat' split
  all_goals simp only [up2_row (hz 14 (by decide)), up2_row (hz 16 (by decide)), up2_row (hz 20 (by decide)), up2_row (hz 21 (by decide)), up2_row (hz 26 (by decide)), up2_row (hz 27 (by decide)), up2_row (hz 28 (by decide)), up2_row (hz 29 (by decide)), up2_row (hz 30 (by decide)), up2_row (hz 31 (by decide)), up2_row hm, nm_X8_comesOn (fun k hk => hz k (mem_sub k hk (by decide))) hm]
theorem nm_g_X8_puts_193_4 {I : Nat → Nat → Int32} {m : Nat} {A : Nat → Nat} {x : Nat} {nt : Nat} {c : Nat} {i3 : Nat}  {z : Nat} (hz : ∀ k ∈ ([14, 16, 20, 21, 26, 27, 28, 29, 30, 31] : List Nat), z ≠ A k) (hm : z ≠ m) : (g_X8_puts_193_4 I m A x nt c i3 ) z = I z := by
  simp only [g_X8_puts_193_4]
  repeat' split
  all_goals simp only [up2_row (hz 14 (by decide)), up2_row (hz 16 (by decide)), up2_row (hz 20 (by decide)), up2_row (hz 21 (by decide)), up2_row (hz 26 (by decide)), up2_row (hz 27 (by decide)), up2_row (hz 28 (by decide)), up2_row (hz 29 (by decide)), up2_row (hz 30 (by decide)), up2_row (hz 31 (by decide)), up2_row hm, nm_X8_comesOn (fun k hk => hz k (mem_sub k hk (by decide))) hm, nm_g_X8_puts_193_5 hz hm]
theorem nm_g_X8_puts_193_3 {I : Nat → Nat → Int32} {m : Nat} {A : Nat → Nat} {x : Nat} {nt : Nat} {c : Nat} {i3 : Nat}  {z : Nat} (hz : ∀ k ∈ ([14, 16, 20, 21, 26, 27, 28, 29, 30, 31] : List Nat), z ≠ A k) (hm : z ≠ m) : (g_X8_puts_193_3 I m A x nt c i3 ) z = I z := by
  simp only [g_X8_puts_193_3]
  repeat' split
  all_goals simp only [up2_row (hz 14 (by decide)), up2_row (hz 16 (by decide)), up2_row (hz 20 (by decide)), up2_row (hz 21 (by decide)), up2_row (hz 26 (by decide)), up2_row (hz 27 (by decide)), up2_row (hz 28 (by decide)), up2_row (hz 29 (by decide)), up2_row (hz 30 (by decide)), up2_row (hz 31 (by decide)), up2_row hm, nm_X8_comesOn (fun k hk => hz k (mem_sub k hk (by decide))) hm, nm_g_X8_puts_193_5 hz hm, nm_g_X8_puts_193_4 hz hm]
theorem nm_g_X8_puts_193_2 {I : Nat → Nat → Int32} {m : Nat} {A : Nat → Nat} {x : Nat} {nt : Nat} {c : Nat} {i3 : Nat}  {z : Nat} (hz : ∀ k ∈ ([14, 16, 20, 21, 26, 27, 28, 29, 30, 31] : List Nat), z ≠ A k) (hm : z ≠ m) : (g_X8_puts_193_2 I m A x nt c i3 ) z = I z := by
  simp only [g_X8_puts_193_2]
  repeat' split
  all_goals simp only [up2_row (hz 14 (by decide)), up2_row (hz 16 (by decide)), up2_row (hz 20 (by decide)), up2_row (hz 21 (by decide)), up2_row (hz 26 (by decide)), up2_row (hz 27 (by decide)), up2_row (hz 28 (by decide)), up2_row (hz 29 (by decide)), up2_row (hz 30 (by decide)), up2_row (hz 31 (by decide)), up2_row hm, nm_X8_comesOn (fun k hk => hz k (mem_sub k hk (by decide))) hm, nm_g_X8_puts_193_5 hz hm, nm_g_X8_puts_193_4 hz hm, nm_g_X8_puts_193_3 hz hm]
theorem nm_g_X8_puts_193_1 {I : Nat → Nat → Int32} {m : Nat} {A : Nat → Nat} {x : Nat} {nt : Nat} {c : Nat} {i3 : Nat}  {z : Nat} (hz : ∀ k ∈ ([14, 16, 20, 21, 26, 27, 28, 29, 30, 31] : List Nat), z ≠ A k) (hm : z ≠ m) : (g_X8_puts_193_1 I m A x nt c i3 ) z = I z := by
  simp only [g_X8_puts_193_1]
  repeat' split
  all_goals simp only [up2_row (hz 14 (by decide)), up2_row (hz 16 (by decide)), up2_row (hz 20 (by decide)), up2_row (hz 21 (by decide)), up2_row (hz 26 (by decide)), up2_row (hz 27 (by decide)), up2_row (hz 28 (by decide)), up2_row (hz 29 (by decide)), up2_row (hz 30 (by decide)), up2_row (hz 31 (by decide)), up2_row hm, nm_X8_comesOn (fun k hk => hz k (mem_sub k hk (by decide))) hm, nm_g_X8_puts_193_5 hz hm, nm_g_X8_puts_193_4 hz hm, nm_g_X8_puts_193_3 hz hm, nm_g_X8_puts_193_2 hz hm]
theorem nm_g_X8_puts_193_0 {I : Nat → Nat → Int32} {m : Nat} {A : Nat → Nat} {x : Nat} {nt : Nat} {c : Nat} {i3 : Nat}  {z : Nat} (hz : ∀ k ∈ ([14, 16, 20, 21, 26, 27, 28, 29, 30, 31] : List Nat), z ≠ A k) (hm : z ≠ m) : (g_X8_puts_193_0 I m A x nt c i3 ) z = I z := by
  simp only [g_X8_puts_193_0]
  repeat' split
  all_goals simp only [up2_row (hz 14 (by decide)), up2_row (hz 16 (by decide)), up2_row (hz 20 (by decide)), up2_row (hz 21 (by decide)), up2_row (hz 26 (by decide)), up2_row (hz 27 (by decide)), up2_row (hz 28 (by decide)), up2_row (hz 29 (by decide)), up2_row (hz 30 (by decide)), up2_row (hz 31 (by decide)), up2_row hm, nm_X8_comesOn (fun k hk => hz k (mem_sub k hk (by decide))) hm, nm_g_X8_puts_193_5 hz hm, nm_g_X8_puts_193_4 hz hm, nm_g_X8_puts_193_3 hz hm, nm_g_X8_puts_193_2 hz hm, nm_g_X8_puts_193_1 hz hm]
theorem nm_g_X8_puts_142 {I : Nat → Nat → Int32} {m : Nat} {A : Nat → Nat} {x : Nat} {nt : Nat} {c : Nat}   {z : Nat} (hz : ∀ k ∈ ([14, 16, 20, 21, 26, 27, 28, 29, 30, 31] : List Nat), z ≠ A k) (hm : z ≠ m) : (g_X8_puts_142 I m A x nt c  ) z = I z := by
  simp only [g_X8_puts_142]
  repeat' split
  all_goals simp only [up2_row (hz 14 (by decide)), up2_row (hz 16 (by decide)), up2_row (hz 20 (by decide)), up2_row (hz 21 (by decide)), up2_row (hz 26 (by decide)), up2_row (hz 27 (by decide)), up2_row (hz 28 (by decide)), up2_row (hz 29 (by decide)), up2_row (hz 30 (by decide)), up2_row (hz 31 (by decide)), up2_row hm, nm_X8_comesOn (fun k hk => hz k (mem_sub k hk (by decide))) hm, nm_g_X8_puts_193_5 hz hm, nm_g_X8_puts_193_4 hz hm, nm_g_X8_puts_193_3 hz hm, nm_g_X8_puts_193_2 hz hm, nm_g_X8_puts_193_1 hz hm, nm_g_X8_puts_193_0 hz hm]
theorem nm_g_X8_puts_115_5 {I : Nat → Nat → Int32} {m : Nat} {A : Nat → Nat} {x : Nat} {nt : Nat} {c : Nat}   {z : Nat} (hz : ∀ k ∈ ([14, 16, 20, 21, 26, 27, 28, 29, 30, 31] : List Nat), z ≠ A k) (hm : z ≠ m) : (g_X8_puts_115_5 I m A x nt c  ) z = I z := by
  simp only [g_X8_puts_115_5]
  repeat' split
  all_goals simp only [up2_row (hz 14 (by decide)), up2_row (hz 16 (by decide)), up2_row (hz 20 (by decide)), up2_row (hz 21 (by decide)), up2_row (hz 26 (by decide)), up2_row (hz 27 (by decide)), up2_row (hz 28 (by decide)), up2_row (hz 29 (by decide)), up2_row (hz 30 (by decide)), up2_row (hz 31 (by decide)), up2_row hm, nm_X8_comesOn (fun k hk => hz k (mem_sub k hk (by decide))) hm, nm_g_X8_puts_193_5 hz hm, nm_g_X8_puts_193_4 hz hm, nm_g_X8_puts_193_3 hz hm, nm_g_X8_puts_193_2 hz hm, nm_g_X8_puts_193_1 hz hm, nm_g_X8_puts_193_0 hz hm, nm_g_X8_puts_142 hz hm]
theorem nm_g_X8_puts_115_4 {I : Nat → Nat → Int32} {m : Nat} {A : Nat → Nat} {x : Nat} {nt : Nat} {c : Nat}   {z : Nat} (hz : ∀ k ∈ ([14, 16, 20, 21, 26, 27, 28, 29, 30, 31] : List Nat), z ≠ A k) (hm : z ≠ m) : (g_X8_puts_115_4 I m A x nt c  ) z = I z := by
  simp only [g_X8_puts_115_4]
  repeat' split
  all_goals simp only [up2_row (hz 14 (by decide)), up2_row (hz 16 (by decide)), up2_row (hz 20 (by decide)), up2_row (hz 21 (by decide)), up2_row (hz 26 (by decide)), up2_row (hz 27 (by decide)), up2_row (hz 28 (by decide)), up2_row (hz 29 (by decide)), up2_row (hz 30 (by decide)), up2_row (hz 31 (by decide)), up2_row hm, nm_X8_comesOn (fun k hk => hz k (mem_sub k hk (by decide))) hm, nm_g_X8_puts_193_5 hz hm, nm_g_X8_puts_193_4 hz hm, nm_g_X8_puts_193_3 hz hm, nm_g_X8_puts_193_2 hz hm, nm_g_X8_puts_193_1 hz hm, nm_g_X8_puts_193_0 hz hm, nm_g_X8_puts_142 hz hm, nm_g_X8_puts_115_5 hz hm]
theorem nm_g_X8_puts_115_3 {I : Nat → Nat → Int32} {m : Nat} {A : Nat → Nat} {x : Nat} {nt : Nat} {c : Nat}   {z : Nat} (hz : ∀ k ∈ ([14, 16, 20, 21, 26, 27, 28, 29, 30, 31] : List Nat), z ≠ A k) (hm : z ≠ m) : (g_X8_puts_115_3 I m A x nt c  ) z = I z := by
  simp only [g_X8_puts_115_3]
  repeat' split
  all_goals simp only [up2_row (hz 14 (by decide)), up2_row (hz 16 (by decide)), up2_row (hz 20 (by decide)), up2_row (hz 21 (by decide)), up2_row (hz 26 (by decide)), up2_row (hz 27 (by decide)), up2_row (hz 28 (by decide)), up2_row (hz 29 (by decide)), up2_row (hz 30 (by decide)), up2_row (hz 31 (by decide)), up2_row hm, nm_X8_comesOn (fun k hk => hz k (mem_sub k hk (by decide))) hm, nm_g_X8_puts_193_5 hz hm, nm_g_X8_puts_193_4 hz hm, nm_g_X8_puts_193_3 hz hm, nm_g_X8_puts_193_2 hz hm, nm_g_X8_puts_193_1 hz hm, nm_g_X8_puts_193_0 hz hm, nm_g_X8_puts_142 hz hm, nm_g_X8_puts_115_5 hz hm, nm_g_X8_puts_115_4 hz hm]
theorem nm_g_X8_puts_115_2 {I : Nat → Nat → Int32} {m : Nat} {A : Nat → Nat} {x : Nat} {nt : Nat} {c : Nat}   {z : Nat} (hz : ∀ k ∈ ([14, 16, 20, 21, 26, 27, 28, 29, 30, 31] : List Nat), z ≠ A k) (hm : z ≠ m) : (g_X8_puts_115_2 I m A x nt c  ) z = I z := by
  simp only [g_X8_puts_115_2]
  repeat' split
  all_goals simp only [up2_row (hz 14 (by decide)), up2_row (hz 16 (by decide)), up2_row (hz 20 (by decide)), up2_row (hz 21 (by decide)), up2_row (hz 26 (by decide)), up2_row (hz 27 (by decide)), up2_row (hz 28 (by decide)), up2_row (hz 29 (by decide)), up2_row (hz 30 (by decide)), up2_row (hz 31 (by decide)), up2_row hm, nm_X8_comesOn (fun k hk => hz k (mem_sub k hk (by decide))) hm, nm_g_X8_puts_193_5 hz hm, nm_g_X8_puts_193_4 hz hm, nm_g_X8_puts_193_3 hz hm, nm_g_X8_puts_193_2 hz hm, nm_g_X8_puts_193_1 hz hm, nm_g_X8_puts_193_0 hz hm, nm_g_X8_puts_142 hz hm, nm_g_X8_puts_115_5 hz hm, nm_g_X8_puts_115_4 hz hm, nm_g_X8_puts_115_3 hz hm]
theorem nm_g_X8_puts_115_1 {I : Nat → Nat → Int32} {m : Nat} {A : Nat → Nat} {x : Nat} {nt : Nat} {c : Nat}   {z : Nat} (hz : ∀ k ∈ ([14, 16, 20, 21, 26, 27, 28, 29, 30, 31] : List Nat), z ≠ A k) (hm : z ≠ m) : (g_X8_puts_115_1 I m A x nt c  ) z = I z := by
  simp only [g_X8_puts_115_1]
  repeat' split
  all_goals simp only [up2_row (hz 14 (by decide)), up2_row (hz 16 (by decide)), up2_row (hz 20 (by decide)), up2_row (hz 21 (by decide)), up2_row (hz 26 (by decide)), up2_row (hz 27 (by decide)), up2_row (hz 28 (by decide)), up2_row (hz 29 (by decide)), up2_row (hz 30 (by decide)), up2_row (hz 31 (by decide)), up2_row hm, nm_X8_comesOn (fun k hk => hz k (mem_sub k hk (by decide))) hm, nm_g_X8_puts_193_5 hz hm, nm_g_X8_puts_193_4 hz hm, nm_g_X8_puts_193_3 hz hm, nm_g_X8_puts_193_2 hz hm, nm_g_X8_puts_193_1 hz hm, nm_g_X8_puts_193_0 hz hm, nm_g_X8_puts_142 hz hm, nm_g_X8_puts_115_5 hz hm, nm_g_X8_puts_115_4 hz hm, nm_g_X8_puts_115_3 hz hm, nm_g_X8_puts_115_2 hz hm]
theorem nm_g_X8_puts_115_0 {I : Nat → Nat → Int32} {m : Nat} {A : Nat → Nat} {x : Nat} {nt : Nat} {c : Nat}   {z : Nat} (hz : ∀ k ∈ ([14, 16, 20, 21, 26, 27, 28, 29, 30, 31] : List Nat), z ≠ A k) (hm : z ≠ m) : (g_X8_puts_115_0 I m A x nt c  ) z = I z := by
  simp only [g_X8_puts_115_0]
  repeat' split
  all_goals simp only [up2_row (hz 14 (by decide)), up2_row (hz 16 (by decide)), up2_row (hz 20 (by decide)), up2_row (hz 21 (by decide)), up2_row (hz 26 (by decide)), up2_row (hz 27 (by decide)), up2_row (hz 28 (by decide)), up2_row (hz 29 (by decide)), up2_row (hz 30 (by decide)), up2_row (hz 31 (by decide)), up2_row hm, nm_X8_comesOn (fun k hk => hz k (mem_sub k hk (by decide))) hm, nm_g_X8_puts_193_5 hz hm, nm_g_X8_puts_193_4 hz hm, nm_g_X8_puts_193_3 hz hm, nm_g_X8_puts_193_2 hz hm, nm_g_X8_puts_193_1 hz hm, nm_g_X8_puts_193_0 hz hm, nm_g_X8_puts_142 hz hm, nm_g_X8_puts_115_5 hz hm, nm_g_X8_puts_115_4 hz hm, nm_g_X8_puts_115_3 hz hm, nm_g_X8_puts_115_2 hz hm, nm_g_X8_puts_115_1 hz hm]
theorem nm_g_X8_puts_86 {I : Nat → Nat → Int32} {m : Nat} {A : Nat → Nat} {x : Nat} {nt : Nat} {c : Nat}   {z : Nat} (hz : ∀ k ∈ ([14, 16, 20, 21, 26, 27, 28, 29, 30, 31] : List Nat), z ≠ A k) (hm : z ≠ m) : (g_X8_puts_86 I m A x nt c  ) z = I z := by
  simp only [g_X8_puts_86]
  repeat' split
  all_goals simp only [up2_row (hz 14 (by decide)), up2_row (hz 16 (by decide)), up2_row (hz 20 (by decide)), up2_row (hz 21 (by decide)), up2_row (hz 26 (by decide)), up2_row (hz 27 (by decide)), up2_row (hz 28 (by decide)), up2_row (hz 29 (by decide)), up2_row (hz 30 (by decide)), up2_row (hz 31 (by decide)), up2_row hm, nm_X8_comesOn (fun k hk => hz k (mem_sub k hk (by decide))) hm, nm_g_X8_puts_193_5 hz hm, nm_g_X8_puts_193_4 hz hm, nm_g_X8_puts_193_3 hz hm, nm_g_X8_puts_193_2 hz hm, nm_g_X8_puts_193_1 hz hm, nm_g_X8_puts_193_0 hz hm, nm_g_X8_puts_142 hz hm, nm_g_X8_puts_115_5 hz hm, nm_g_X8_puts_115_4 hz hm, nm_g_X8_puts_115_3 hz hm, nm_g_X8_puts_115_2 hz hm, nm_g_X8_puts_115_1 hz hm, nm_g_X8_puts_115_0 hz hm]
theorem nm_g_X8_puts_52 {I : Nat → Nat → Int32} {m : Nat} {A : Nat → Nat} {x : Nat} {nt : Nat} {c : Nat}  {s0 : Int32} {z : Nat} (hz : ∀ k ∈ ([14, 16, 20, 21, 26, 27, 28, 29, 30, 31] : List Nat), z ≠ A k) (hm : z ≠ m) : (g_X8_puts_52 I m A x nt c  s0) z = I z := by
  simp only [g_X8_puts_52]
  repeat' split
  all_goals simp only [up2_row (hz 14 (by decide)), up2_row (hz 16 (by decide)), up2_row (hz 20 (by decide)), up2_row (hz 21 (by decide)), up2_row (hz 26 (by decide)), up2_row (hz 27 (by decide)), up2_row (hz 28 (by decide)), up2_row (hz 29 (by decide)), up2_row (hz 30 (by decide)), up2_row (hz 31 (by decide)), up2_row hm, nm_X8_comesOn (fun k hk => hz k (mem_sub k hk (by decide))) hm, nm_g_X8_puts_193_5 hz hm, nm_g_X8_puts_193_4 hz hm, nm_g_X8_puts_193_3 hz hm, nm_g_X8_puts_193_2 hz hm, nm_g_X8_puts_193_1 hz hm, nm_g_X8_puts_193_0 hz hm, nm_g_X8_puts_142 hz hm, nm_g_X8_puts_115_5 hz hm, nm_g_X8_puts_115_4 hz hm, nm_g_X8_puts_115_3 hz hm, nm_g_X8_puts_115_2 hz hm, nm_g_X8_puts_115_1 hz hm, nm_g_X8_puts_115_0 hz hm, nm_g_X8_puts_86 hz hm]
theorem nm_g_X8_puts_27 {I : Nat → Nat → Int32} {m : Nat} {A : Nat → Nat} {x : Nat} {nt : Nat} {c : Nat}   {z : Nat} (hz : ∀ k ∈ ([14, 16, 20, 21, 26, 27, 28, 29, 30, 31] : List Nat), z ≠ A k) (hm : z ≠ m) : (g_X8_puts_27 I m A x nt c  ) z = I z := by
  simp only [g_X8_puts_27]
  repeat' split
  all_goals simp only [up2_row (hz 14 (by decide)), up2_row (hz 16 (by decide)), up2_row (hz 20 (by decide)), up2_row (hz 21 (by decide)), up2_row (hz 26 (by decide)), up2_row (hz 27 (by decide)), up2_row (hz 28 (by decide)), up2_row (hz 29 (by decide)), up2_row (hz 30 (by decide)), up2_row (hz 31 (by decide)), up2_row hm, nm_X8_comesOn (fun k hk => hz k (mem_sub k hk (by decide))) hm, nm_g_X8_puts_193_5 hz hm, nm_g_X8_puts_193_4 hz hm, nm_g_X8_puts_193_3 hz hm, nm_g_X8_puts_193_2 hz hm, nm_g_X8_puts_193_1 hz hm, nm_g_X8_puts_193_0 hz hm, nm_g_X8_puts_142 hz hm, nm_g_X8_puts_115_5 hz hm, nm_g_X8_puts_115_4 hz hm, nm_g_X8_puts_115_3 hz hm, nm_g_X8_puts_115_2 hz hm, nm_g_X8_puts_115_1 hz hm, nm_g_X8_puts_115_0 hz hm, nm_g_X8_puts_86 hz hm, nm_g_X8_puts_52 hz hm]
theorem nm_X8_puts {I : Nat → Nat → Int32} {m : Nat} {A : Nat → Nat} {x : Nat} {nt : Nat} {c : Nat} {z : Nat} (hz : ∀ k ∈ ([14, 16, 20, 21, 26, 27, 28, 29, 30, 31] : List Nat), z ≠ A k) (hm : z ≠ m) : (f_X8_puts I m A x nt c) z = I z := by
  simp only [f_X8_puts]
  repeat' split
  all_goals simp only [up2_row (hz 14 (by decide)), up2_row (hz 16 (by decide)), up2_row (hz 20 (by decide)), up2_row (hz 21 (by decide)), up2_row (hz 26 (by decide)), up2_row (hz 27 (by decide)), up2_row (hz 28 (by decide)), up2_row (hz 29 (by decide)), up2_row (hz 30 (by decide)), up2_row (hz 31 (by decide)), up2_row hm, nm_X8_comesOn (fun k hk => hz k (mem_sub k hk (by decide))) hm, nm_g_X8_puts_193_5 hz hm, nm_g_X8_puts_193_4 hz hm, nm_g_X8_puts_193_3 hz hm, nm_g_X8_puts_193_2 hz hm, nm_g_X8_puts_193_1 hz hm, nm_g_X8_puts_193_0 hz hm, nm_g_X8_puts_142 hz hm, nm_g_X8_puts_115_5 hz hm, nm_g_X8_puts_115_4 hz hm, nm_g_X8_puts_115_3 hz hm, nm_g_X8_puts_115_2 hz hm, nm_g_X8_puts_115_1 hz hm, nm_g_X8_puts_115_0 hz hm, nm_g_X8_puts_86 hz hm, nm_g_X8_puts_52 hz hm, nm_g_X8_puts_27 hz hm]
theorem ns_g_X8_puts_193_5 {I : Nat → Nat → Int32} {m : Nat} {A : Nat → Nat} {x : Nat} {nt : Nat} {c : Nat} {i3 : Nat}  {S : MM} {j : Nat} (hM : MS S m A) (hj : j ∉ ([32, 50] : List Nat)) : (g_X8_puts_193_5 I m A x nt c i3 ) m j = I m j := by
  simp only [g_X8_puts_193_5]
  repeat' split
  all_goals simp only [up2_row (Ne.symm (ne_m hM (show 14 ∈ DM by decide))), up2_row (Ne.symm (ne_m hM (show 16 ∈ DM by decide))), up2_row (Ne.symm (ne_m hM (show 20 ∈ DM by decide))), up2_row (Ne.symm (ne_m hM (show 21 ∈ DM by decide))), up2_row (Ne.symm (ne_m hM (show 26 ∈ DM by decide))), up2_row (Ne.symm (ne_m hM (show 27 ∈ DM by decide))), up2_row (Ne.symm (ne_m hM (show 28 ∈ DM by decide))), up2_row (Ne.symm (ne_m hM (show 29 ∈ DM by decide))), up2_row (Ne.symm (ne_m hM (show 30 ∈ DM by decide))), up2_row (Ne.symm (ne_m hM (show 31 ∈ DM by decide))), up2_jn (show j ≠ 32 from fun z => hj (by rw [z]; decide)), up2_jn (show j ≠ 50 from fun z => hj (by rw [z]; decide)), ns_X8_comesOn hM (fun q => hj (mem_sub j q (by decide)))]
theorem ns_g_X8_puts_193_4 {I : Nat → Nat → Int32} {m : Nat} {A : Nat → Nat} {x : Nat} {nt : Nat} {c : Nat} {i3 : Nat}  {S : MM} {j : Nat} (hM : MS S m A) (hj : j ∉ ([32, 50] : List Nat)) : (g_X8_puts_193_4 I m A x nt c i3 ) m j = I m j := by
  simp only [g_X8_puts_193_4]
  repeat' split
  all_goals simp only [up2_row (Ne.symm (ne_m hM (show 14 ∈ DM by decide))), up2_row (Ne.symm (ne_m hM (show 16 ∈ DM by decide))), up2_row (Ne.symm (ne_m hM (show 20 ∈ DM by decide))), up2_row (Ne.symm (ne_m hM (show 21 ∈ DM by decide))), up2_row (Ne.symm (ne_m hM (show 26 ∈ DM by decide))), up2_row (Ne.symm (ne_m hM (show 27 ∈ DM by decide))), up2_row (Ne.symm (ne_m hM (show 28 ∈ DM by decide))), up2_row (Ne.symm (ne_m hM (show 29 ∈ DM by decide))), up2_row (Ne.symm (ne_m hM (show 30 ∈ DM by decide))), up2_row (Ne.symm (ne_m hM (show 31 ∈ DM by decide))), up2_jn (show j ≠ 32 from fun z => hj (by rw [z]; decide)), up2_jn (show j ≠ 50 from fun z => hj (by rw [z]; decide)), ns_X8_comesOn hM (fun q => hj (mem_sub j q (by decide))), ns_g_X8_puts_193_5 hM hj]
theorem ns_g_X8_puts_193_3 {I : Nat → Nat → Int32} {m : Nat} {A : Nat → Nat} {x : Nat} {nt : Nat} {c : Nat} {i3 : Nat}  {S : MM} {j : Nat} (hM : MS S m A) (hj : j ∉ ([32, 50] : List Nat)) : (g_X8_puts_193_3 I m A x nt c i3 ) m j = I m j := by
  simp only [g_X8_puts_193_3]
  repeat' split
  all_goals simp only [up2_row (Ne.symm (ne_m hM (show 14 ∈ DM by decide))), up2_row (Ne.symm (ne_m hM (show 16 ∈ DM by decide))), up2_row (Ne.symm (ne_m hM (show 20 ∈ DM by decide))), up2_row (Ne.symm (ne_m hM (show 21 ∈ DM by decide))), up2_row (Ne.symm (ne_m hM (show 26 ∈ DM by decide))), up2_row (Ne.symm (ne_m hM (show 27 ∈ DM by decide))), up2_row (Ne.symm (ne_m hM (show 28 ∈ DM by decide))), up2_row (Ne.symm (ne_m hM (show 29 ∈ DM by decide))), up2_row (Ne.symm (ne_m hM (show 30 ∈ DM by decide))), up2_row (Ne.symm (ne_m hM (show 31 ∈ DM by decide))), up2_jn (show j ≠ 32 from fun z => hj (by rw [z]; decide)), up2_jn (show j ≠ 50 from fun z => hj (by rw [z]; decide)), ns_X8_comesOn hM (fun q => hj (mem_sub j q (by decide))), ns_g_X8_puts_193_5 hM hj, ns_g_X8_puts_193_4 hM hj]
theorem ns_g_X8_puts_193_2 {I : Nat → Nat → Int32} {m : Nat} {A : Nat → Nat} {x : Nat} {nt : Nat} {c : Nat} {i3 : Nat}  {S : MM} {j : Nat} (hM : MS S m A) (hj : j ∉ ([32, 50] : List Nat)) : (g_X8_puts_193_2 I m A x nt c i3 ) m j = I m j := by
  simp only [g_X8_puts_193_2]
  repeat' split
  all_goals simp only [up2_row (Ne.symm (ne_m hM (show 14 ∈ DM by decide))), up2_row (Ne.symm (ne_m hM (show 16 ∈ DM by decide))), up2_row (Ne.symm (ne_m hM (show 20 ∈ DM by decide))), up2_row (Ne.symm (ne_m hM (show 21 ∈ DM by decide))), up2_row (Ne.symm (ne_m hM (show 26 ∈ DM by decide))), up2_row (Ne.symm (ne_m hM (show 27 ∈ DM by decide))), up2_row (Ne.symm (ne_m hM (show 28 ∈ DM by decide))), up2_row (Ne.symm (ne_m hM (show 29 ∈ DM by decide))), up2_row (Ne.symm (ne_m hM (show 30 ∈ DM by decide))), up2_row (Ne.symm (ne_m hM (show 31 ∈ DM by decide))), up2_jn (show j ≠ 32 from fun z => hj (by rw [z]; decide)), up2_jn (show j ≠ 50 from fun z => hj (by rw [z]; decide)), ns_X8_comesOn hM (fun q => hj (mem_sub j q (by decide))), ns_g_X8_puts_193_5 hM hj, ns_g_X8_puts_193_4 hM hj, ns_g_X8_puts_193_3 hM hj]
theorem ns_g_X8_puts_193_1 {I : Nat → Nat → Int32} {m : Nat} {A : Nat → Nat} {x : Nat} {nt : Nat} {c : Nat} {i3 : Nat}  {S : MM} {j : Nat} (hM : MS S m A) (hj : j ∉ ([32, 50] : List Nat)) : (g_X8_puts_193_1 I m A x nt c i3 ) m j = I m j := by
  simp only [g_X8_puts_193_1]
  repeat' split
  all_goals simp only [up2_row (Ne.symm (ne_m hM (show 14 ∈ DM by decide))), up2_row (Ne.symm (ne_m hM (show 16 ∈ DM by decide))), up2_row (Ne.symm (ne_m hM (show 20 ∈ DM by decide))), up2_row (Ne.symm (ne_m hM (show 21 ∈ DM by decide))), up2_row (Ne.symm (ne_m hM (show 26 ∈ DM by decide))), up2_row (Ne.symm (ne_m hM (show 27 ∈ DM by decide))), up2_row (Ne.symm (ne_m hM (show 28 ∈ DM by decide))), up2_row (Ne.symm (ne_m hM (show 29 ∈ DM by decide))), up2_row (Ne.symm (ne_m hM (show 30 ∈ DM by decide))), up2_row (Ne.symm (ne_m hM (show 31 ∈ DM by decide))), up2_jn (show j ≠ 32 from fun z => hj (by rw [z]; decide)), up2_jn (show j ≠ 50 from fun z => hj (by rw [z]; decide)), ns_X8_comesOn hM (fun q => hj (mem_sub j q (by decide))), ns_g_X8_puts_193_5 hM hj, ns_g_X8_puts_193_4 hM hj, ns_g_X8_puts_193_3 hM hj, ns_g_X8_puts_193_2 hM hj]
theorem ns_g_X8_puts_193_0 {I : Nat → Nat → Int32} {m : Nat} {A : Nat → Nat} {x : Nat} {nt : Nat} {c : Nat} {i3 : Nat}  {S : MM} {j : Nat} (hM : MS S m A) (hj : j ∉ ([32, 50] : List Nat)) : (g_X8_puts_193_0 I m A x nt c i3 ) m j = I m j := by
  simp only [g_X8_puts_193_0]
  repeat' split
  all_goals simp only [up2_row (Ne.symm (ne_m hM (show 14 ∈ DM by decide))), up2_row (Ne.symm (ne_m hM (show 16 ∈ DM by decide))), up2_row (Ne.symm (ne_m hM (show 20 ∈ DM by decide))), up2_row (Ne.symm (ne_m hM (show 21 ∈ DM by decide))), up2_row (Ne.symm (ne_m hM (show 26 ∈ DM by decide))), up2_row (Ne.symm (ne_m hM (show 27 ∈ DM by decide))), up2_row (Ne.symm (ne_m hM (show 28 ∈ DM by decide))), up2_row (Ne.symm (ne_m hM (show 29 ∈ DM by decide))), up2_row (Ne.symm (ne_m hM (show 30 ∈ DM by decide))), up2_row (Ne.symm (ne_m hM (show 31 ∈ DM by decide))), up2_jn (show j ≠ 32 from fun z => hj (by rw [z]; decide)), up2_jn (show j ≠ 50 from fun z => hj (by rw [z]; decide)), ns_X8_comesOn hM (fun q => hj (mem_sub j q (by decide))), ns_g_X8_puts_193_5 hM hj, ns_g_X8_puts_193_4 hM hj, ns_g_X8_puts_193_3 hM hj, ns_g_X8_puts_193_2 hM hj, ns_g_X8_puts_193_1 hM hj]
theorem ns_g_X8_puts_142 {I : Nat → Nat → Int32} {m : Nat} {A : Nat → Nat} {x : Nat} {nt : Nat} {c : Nat}   {S : MM} {j : Nat} (hM : MS S m A) (hj : j ∉ ([32, 50] : List Nat)) : (g_X8_puts_142 I m A x nt c  ) m j = I m j := by
  simp only [g_X8_puts_142]
  repeat' split
  all_goals simp only [up2_row (Ne.symm (ne_m hM (show 14 ∈ DM by decide))), up2_row (Ne.symm (ne_m hM (show 16 ∈ DM by decide))), up2_row (Ne.symm (ne_m hM (show 20 ∈ DM by decide))), up2_row (Ne.symm (ne_m hM (show 21 ∈ DM by decide))), up2_row (Ne.symm (ne_m hM (show 26 ∈ DM by decide))), up2_row (Ne.symm (ne_m hM (show 27 ∈ DM by decide))), up2_row (Ne.symm (ne_m hM (show 28 ∈ DM by decide))), up2_row (Ne.symm (ne_m hM (show 29 ∈ DM by decide))), up2_row (Ne.symm (ne_m hM (show 30 ∈ DM by decide))), up2_row (Ne.symm (ne_m hM (show 31 ∈ DM by decide))), up2_jn (show j ≠ 32 from fun z => hj (by rw [z]; decide)), up2_jn (show j ≠ 50 from fun z => hj (by rw [z]; decide)), ns_X8_comesOn hM (fun q => hj (mem_sub j q (by decide))), ns_g_X8_puts_193_5 hM hj, ns_g_X8_puts_193_4 hM hj, ns_g_X8_puts_193_3 hM hj, ns_g_X8_puts_193_2 hM hj, ns_g_X8_puts_193_1 hM hj, ns_g_X8_puts_193_0 hM hj]
theorem ns_g_X8_puts_115_5 {I : Nat → Nat → Int32} {m : Nat} {A : Nat → Nat} {x : Nat} {nt : Nat} {c : Nat}   {S : MM} {j : Nat} (hM : MS S m A) (hj : j ∉ ([32, 50] : List Nat)) : (g_X8_puts_115_5 I m A x nt c  ) m j = I m j := by
  simp only [g_X8_puts_115_5]
  repeat' split
  all_goals simp only [up2_row (Ne.symm (ne_m hM (show 14 ∈ DM by decide))), up2_row (Ne.symm (ne_m hM (show 16 ∈ DM by decide))), up2_row (Ne.symm (ne_m hM (show 20 ∈ DM by decide))), up2_row (Ne.symm (ne_m hM (show 21 ∈ DM by decide))), up2_row (Ne.symm (ne_m hM (show 26 ∈ DM by decide))), up2_row (Ne.symm (ne_m hM (show 27 ∈ DM by decide))), up2_row (Ne.symm (ne_m hM (show 28 ∈ DM by decide))), up2_row (Ne.symm (ne_m hM (show 29 ∈ DM by decide))), up2_row (Ne.symm (ne_m hM (show 30 ∈ DM by decide))), up2_row (Ne.symm (ne_m hM (show 31 ∈ DM by decide))), up2_jn (show j ≠ 32 from fun z => hj (by rw [z]; decide)), up2_jn (show j ≠ 50 from fun z => hj (by rw [z]; decide)), ns_X8_comesOn hM (fun q => hj (mem_sub j q (by decide))), ns_g_X8_puts_193_5 hM hj, ns_g_X8_puts_193_4 hM hj, ns_g_X8_puts_193_3 hM hj, ns_g_X8_puts_193_2 hM hj, ns_g_X8_puts_193_1 hM hj, ns_g_X8_puts_193_0 hM hj, ns_g_X8_puts_142 hM hj]
theorem ns_g_X8_puts_115_4 {I : Nat → Nat → Int32} {m : Nat} {A : Nat → Nat} {x : Nat} {nt : Nat} {c : Nat}   {S : MM} {j : Nat} (hM : MS S m A) (hj : j ∉ ([32, 50] : List Nat)) : (g_X8_puts_115_4 I m A x nt c  ) m j = I m j := by
  simp only [g_X8_puts_115_4]
  repeat' split
  all_goals simp only [up2_row (Ne.symm (ne_m hM (show 14 ∈ DM by decide))), up2_row (Ne.symm (ne_m hM (show 16 ∈ DM by decide))), up2_row (Ne.symm (ne_m hM (show 20 ∈ DM by decide))), up2_row (Ne.symm (ne_m hM (show 21 ∈ DM by decide))), up2_row (Ne.symm (ne_m hM (show 26 ∈ DM by decide))), up2_row (Ne.symm (ne_m hM (show 27 ∈ DM by decide))), up2_row (Ne.symm (ne_m hM (show 28 ∈ DM by decide))), up2_row (Ne.symm (ne_m hM (show 29 ∈ DM by decide))), up2_row (Ne.symm (ne_m hM (show 30 ∈ DM by decide))), up2_row (Ne.symm (ne_m hM (show 31 ∈ DM by decide))), up2_jn (show j ≠ 32 from fun z => hj (by rw [z]; decide)), up2_jn (show j ≠ 50 from fun z => hj (by rw [z]; decide)), ns_X8_comesOn hM (fun q => hj (mem_sub j q (by decide))), ns_g_X8_puts_193_5 hM hj, ns_g_X8_puts_193_4 hM hj, ns_g_X8_puts_193_3 hM hj, ns_g_X8_puts_193_2 hM hj, ns_g_X8_puts_193_1 hM hj, ns_g_X8_puts_193_0 hM hj, ns_g_X8_puts_142 hM hj, ns_g_X8_puts_115_5 hM hj]
theorem ns_g_X8_puts_115_3 {I : Nat → Nat → Int32} {m : Nat} {A : Nat → Nat} {x : Nat} {nt : Nat} {c : Nat}   {S : MM} {j : Nat} (hM : MS S m A) (hj : j ∉ ([32, 50] : List Nat)) : (g_X8_puts_115_3 I m A x nt c  ) m j = I m j := by
  simp only [g_X8_puts_115_3]
  repeat' split
  all_goals simp only [up2_row (Ne.symm (ne_m hM (show 14 ∈ DM by decide))), up2_row (Ne.symm (ne_m hM (show 16 ∈ DM by decide))), up2_row (Ne.symm (ne_m hM (show 20 ∈ DM by decide))), up2_row (Ne.symm (ne_m hM (show 21 ∈ DM by decide))), up2_row (Ne.symm (ne_m hM (show 26 ∈ DM by decide))), up2_row (Ne.symm (ne_m hM (show 27 ∈ DM by decide))), up2_row (Ne.symm (ne_m hM (show 28 ∈ DM by decide))), up2_row (Ne.symm (ne_m hM (show 29 ∈ DM by decide))), up2_row (Ne.symm (ne_m hM (show 30 ∈ DM by decide))), up2_row (Ne.symm (ne_m hM (show 31 ∈ DM by decide))), up2_jn (show j ≠ 32 from fun z => hj (by rw [z]; decide)), up2_jn (show j ≠ 50 from fun z => hj (by rw [z]; decide)), ns_X8_comesOn hM (fun q => hj (mem_sub j q (by decide))), ns_g_X8_puts_193_5 hM hj, ns_g_X8_puts_193_4 hM hj, ns_g_X8_puts_193_3 hM hj, ns_g_X8_puts_193_2 hM hj, ns_g_X8_puts_193_1 hM hj, ns_g_X8_puts_193_0 hM hj, ns_g_X8_puts_142 hM hj, ns_g_X8_puts_115_5 hM hj, ns_g_X8_puts_115_4 hM hj]
theorem ns_g_X8_puts_115_2 {I : Nat → Nat → Int32} {m : Nat} {A : Nat → Nat} {x : Nat} {nt : Nat} {c : Nat}   {S : MM} {j : Nat} (hM : MS S m A) (hj : j ∉ ([32, 50] : List Nat)) : (g_X8_puts_115_2 I m A x nt c  ) m j = I m j := by
  simp only [g_X8_puts_115_2]
  repeat' split
  all_goals simp only [up2_row (Ne.symm (ne_m hM (show 14 ∈ DM by decide))), up2_row (Ne.symm (ne_m hM (show 16 ∈ DM by decide))), up2_row (Ne.symm (ne_m hM (show 20 ∈ DM by decide))), up2_row (Ne.symm (ne_m hM (show 21 ∈ DM by decide))), up2_row (Ne.symm (ne_m hM (show 26 ∈ DM by decide))), up2_row (Ne.symm (ne_m hM (show 27 ∈ DM by decide))), up2_row (Ne.symm (ne_m hM (show 28 ∈ DM by decide))), up2_row (Ne.symm (ne_m hM (show 29 ∈ DM by decide))), up2_row (Ne.symm (ne_m hM (show 30 ∈ DM by decide))), up2_row (Ne.symm (ne_m hM (show 31 ∈ DM by decide))), up2_jn (show j ≠ 32 from fun z => hj (by rw [z]; decide)), up2_jn (show j ≠ 50 from fun z => hj (by rw [z]; decide)), ns_X8_comesOn hM (fun q => hj (mem_sub j q (by decide))), ns_g_X8_puts_193_5 hM hj, ns_g_X8_puts_193_4 hM hj, ns_g_X8_puts_193_3 hM hj, ns_g_X8_puts_193_2 hM hj, ns_g_X8_puts_193_1 hM hj, ns_g_X8_puts_193_0 hM hj, ns_g_X8_puts_142 hM hj, ns_g_X8_puts_115_5 hM hj, ns_g_X8_puts_115_4 hM hj, ns_g_X8_puts_115_3 hM hj]
theorem ns_g_X8_puts_115_1 {I : Nat → Nat → Int32} {m : Nat} {A : Nat → Nat} {x : Nat} {nt : Nat} {c : Nat}   {S : MM} {j : Nat} (hM : MS S m A) (hj : j ∉ ([32, 50] : List Nat)) : (g_X8_puts_115_1 I m A x nt c  ) m j = I m j := by
  simp only [g_X8_puts_115_1]
  repeat' split
  all_goals simp only [up2_row (Ne.symm (ne_m hM (show 14 ∈ DM by decide))), up2_row (Ne.symm (ne_m hM (show 16 ∈ DM by decide))), up2_row (Ne.symm (ne_m hM (show 20 ∈ DM by decide))), up2_row (Ne.symm (ne_m hM (show 21 ∈ DM by decide))), up2_row (Ne.symm (ne_m hM (show 26 ∈ DM by decide))), up2_row (Ne.symm (ne_m hM (show 27 ∈ DM by decide))), up2_row (Ne.symm (ne_m hM (show 28 ∈ DM by decide))), up2_row (Ne.symm (ne_m hM (show 29 ∈ DM by decide))), up2_row (Ne.symm (ne_m hM (show 30 ∈ DM by decide))), up2_row (Ne.symm (ne_m hM (show 31 ∈ DM by decide))), up2_jn (show j ≠ 32 from fun z => hj (by rw [z]; decide)), up2_jn (show j ≠ 50 from fun z => hj (by rw [z]; decide)), ns_X8_comesOn hM (fun q => hj (mem_sub j q (by decide))), ns_g_X8_puts_193_5 hM hj, ns_g_X8_puts_193_4 hM hj, ns_g_X8_puts_193_3 hM hj, ns_g_X8_puts_193_2 hM hj, ns_g_X8_puts_193_1 hM hj, ns_g_X8_puts_193_0 hM hj, ns_g_X8_puts_142 hM hj, ns_g_X8_puts_115_5 hM hj, ns_g_X8_puts_115_4 hM hj, ns_g_X8_puts_115_3 hM hj, ns_g_X8_puts_115_2 hM hj]
theorem ns_g_X8_puts_115_0 {I : Nat → Nat → Int32} {m : Nat} {A : Nat → Nat} {x : Nat} {nt : Nat} {c : Nat}   {S : MM} {j : Nat} (hM : MS S m A) (hj : j ∉ ([32, 50] : List Nat)) : (g_X8_puts_115_0 I m A x nt c  ) m j = I m j := by
  simp only [g_X8_puts_115_0]
  repeat' split
  all_goals simp only [up2_row (Ne.symm (ne_m hM (show 14 ∈ DM by decide))), up2_row (Ne.symm (ne_m hM (show 16 ∈ DM by decide))), up2_row (Ne.symm (ne_m hM (show 20 ∈ DM by decide))), up2_row (Ne.symm (ne_m hM (show 21 ∈ DM by decide))), up2_row (Ne.symm (ne_m hM (show 26 ∈ DM by decide))), up2_row (Ne.symm (ne_m hM (show 27 ∈ DM by decide))), up2_row (Ne.symm (ne_m hM (show 28 ∈ DM by decide))), up2_row (Ne.symm (ne_m hM (show 29 ∈ DM by decide))), up2_row (Ne.symm (ne_m hM (show 30 ∈ DM by decide))), up2_row (Ne.symm (ne_m hM (show 31 ∈ DM by decide))), up2_jn (show j ≠ 32 from fun z => hj (by rw [z]; decide)), up2_jn (show j ≠ 50 from fun z => hj (by rw [z]; decide)), ns_X8_comesOn hM (fun q => hj (mem_sub j q (by decide))), ns_g_X8_puts_193_5 hM hj, ns_g_X8_puts_193_4 hM hj, ns_g_X8_puts_193_3 hM hj, ns_g_X8_puts_193_2 hM hj, ns_g_X8_puts_193_1 hM hj, ns_g_X8_puts_193_0 hM hj, ns_g_X8_puts_142 hM hj, ns_g_X8_puts_115_5 hM hj, ns_g_X8_puts_115_4 hM hj, ns_g_X8_puts_115_3 hM hj, ns_g_X8_puts_115_2 hM hj, ns_g_X8_puts_115_1 hM hj]
theorem ns_g_X8_puts_86 {I : Nat → Nat → Int32} {m : Nat} {A : Nat → Nat} {x : Nat} {nt : Nat} {c : Nat}   {S : MM} {j : Nat} (hM : MS S m A) (hj : j ∉ ([32, 50] : List Nat)) : (g_X8_puts_86 I m A x nt c  ) m j = I m j := by
  simp only [g_X8_puts_86]
  repeat' split
  all_goals simp only [up2_row (Ne.symm (ne_m hM (show 14 ∈ DM by decide))), up2_row (Ne.symm (ne_m hM (show 16 ∈ DM by decide))), up2_row (Ne.symm (ne_m hM (show 20 ∈ DM by decide))), up2_row (Ne.symm (ne_m hM (show 21 ∈ DM by decide))), up2_row (Ne.symm (ne_m hM (show 26 ∈ DM by decide))), up2_row (Ne.symm (ne_m hM (show 27 ∈ DM by decide))), up2_row (Ne.symm (ne_m hM (show 28 ∈ DM by decide))), up2_row (Ne.symm (ne_m hM (show 29 ∈ DM by decide))), up2_row (Ne.symm (ne_m hM (show 30 ∈ DM by decide))), up2_row (Ne.symm (ne_m hM (show 31 ∈ DM by decide))), up2_jn (show j ≠ 32 from fun z => hj (by rw [z]; decide)), up2_jn (show j ≠ 50 from fun z => hj (by rw [z]; decide)), ns_X8_comesOn hM (fun q => hj (mem_sub j q (by decide))), ns_g_X8_puts_193_5 hM hj, ns_g_X8_puts_193_4 hM hj, ns_g_X8_puts_193_3 hM hj, ns_g_X8_puts_193_2 hM hj, ns_g_X8_puts_193_1 hM hj, ns_g_X8_puts_193_0 hM hj, ns_g_X8_puts_142 hM hj, ns_g_X8_puts_115_5 hM hj, ns_g_X8_puts_115_4 hM hj, ns_g_X8_puts_115_3 hM hj, ns_g_X8_puts_115_2 hM hj, ns_g_X8_puts_115_1 hM hj, ns_g_X8_puts_115_0 hM hj]
theorem ns_g_X8_puts_52 {I : Nat → Nat → Int32} {m : Nat} {A : Nat → Nat} {x : Nat} {nt : Nat} {c : Nat}  {s0 : Int32} {S : MM} {j : Nat} (hM : MS S m A) (hj : j ∉ ([32, 50] : List Nat)) : (g_X8_puts_52 I m A x nt c  s0) m j = I m j := by
  simp only [g_X8_puts_52]
  repeat' split
  all_goals simp only [up2_row (Ne.symm (ne_m hM (show 14 ∈ DM by decide))), up2_row (Ne.symm (ne_m hM (show 16 ∈ DM by decide))), up2_row (Ne.symm (ne_m hM (show 20 ∈ DM by decide))), up2_row (Ne.symm (ne_m hM (show 21 ∈ DM by decide))), up2_row (Ne.symm (ne_m hM (show 26 ∈ DM by decide))), up2_row (Ne.symm (ne_m hM (show 27 ∈ DM by decide))), up2_row (Ne.symm (ne_m hM (show 28 ∈ DM by decide))), up2_row (Ne.symm (ne_m hM (show 29 ∈ DM by decide))), up2_row (Ne.symm (ne_m hM (show 30 ∈ DM by decide))), up2_row (Ne.symm (ne_m hM (show 31 ∈ DM by decide))), up2_jn (show j ≠ 32 from fun z => hj (by rw [z]; decide)), up2_jn (show j ≠ 50 from fun z => hj (by rw [z]; decide)), ns_X8_comesOn hM (fun q => hj (mem_sub j q (by decide))), ns_g_X8_puts_193_5 hM hj, ns_g_X8_puts_193_4 hM hj, ns_g_X8_puts_193_3 hM hj, ns_g_X8_puts_193_2 hM hj, ns_g_X8_puts_193_1 hM hj, ns_g_X8_puts_193_0 hM hj, ns_g_X8_puts_142 hM hj, ns_g_X8_puts_115_5 hM hj, ns_g_X8_puts_115_4 hM hj, ns_g_X8_puts_115_3 hM hj, ns_g_X8_puts_115_2 hM hj, ns_g_X8_puts_115_1 hM hj, ns_g_X8_puts_115_0 hM hj, ns_g_X8_puts_86 hM hj]
theorem ns_g_X8_puts_27 {I : Nat → Nat → Int32} {m : Nat} {A : Nat → Nat} {x : Nat} {nt : Nat} {c : Nat}   {S : MM} {j : Nat} (hM : MS S m A) (hj : j ∉ ([32, 50] : List Nat)) : (g_X8_puts_27 I m A x nt c  ) m j = I m j := by
  simp only [g_X8_puts_27]
  repeat' split
  all_goals simp only [up2_row (Ne.symm (ne_m hM (show 14 ∈ DM by decide))), up2_row (Ne.symm (ne_m hM (show 16 ∈ DM by decide))), up2_row (Ne.symm (ne_m hM (show 20 ∈ DM by decide))), up2_row (Ne.symm (ne_m hM (show 21 ∈ DM by decide))), up2_row (Ne.symm (ne_m hM (show 26 ∈ DM by decide))), up2_row (Ne.symm (ne_m hM (show 27 ∈ DM by decide))), up2_row (Ne.symm (ne_m hM (show 28 ∈ DM by decide))), up2_row (Ne.symm (ne_m hM (show 29 ∈ DM by decide))), up2_row (Ne.symm (ne_m hM (show 30 ∈ DM by decide))), up2_row (Ne.symm (ne_m hM (show 31 ∈ DM by decide))), up2_jn (show j ≠ 32 from fun z => hj (by rw [z]; decide)), up2_jn (show j ≠ 50 from fun z => hj (by rw [z]; decide)), ns_X8_comesOn hM (fun q => hj (mem_sub j q (by decide))), ns_g_X8_puts_193_5 hM hj, ns_g_X8_puts_193_4 hM hj, ns_g_X8_puts_193_3 hM hj, ns_g_X8_puts_193_2 hM hj, ns_g_X8_puts_193_1 hM hj, ns_g_X8_puts_193_0 hM hj, ns_g_X8_puts_142 hM hj, ns_g_X8_puts_115_5 hM hj, ns_g_X8_puts_115_4 hM hj, ns_g_X8_puts_115_3 hM hj, ns_g_X8_puts_115_2 hM hj, ns_g_X8_puts_115_1 hM hj, ns_g_X8_puts_115_0 hM hj, ns_g_X8_puts_86 hM hj, ns_g_X8_puts_52 hM hj]
theorem ns_X8_puts {I : Nat → Nat → Int32} {m : Nat} {A : Nat → Nat} {x : Nat} {nt : Nat} {c : Nat} {S : MM} {j : Nat} (hM : MS S m A) (hj : j ∉ ([32, 50] : List Nat)) : (f_X8_puts I m A x nt c) m j = I m j := by
  simp only [f_X8_puts]
  repeat' split
  all_goals simp only [up2_row (Ne.symm (ne_m hM (show 14 ∈ DM by decide))), up2_row (Ne.symm (ne_m hM (show 16 ∈ DM by decide))), up2_row (Ne.symm (ne_m hM (show 20 ∈ DM by decide))), up2_row (Ne.symm (ne_m hM (show 21 ∈ DM by decide))), up2_row (Ne.symm (ne_m hM (show 26 ∈ DM by decide))), up2_row (Ne.symm (ne_m hM (show 27 ∈ DM by decide))), up2_row (Ne.symm (ne_m hM (show 28 ∈ DM by decide))), up2_row (Ne.symm (ne_m hM (show 29 ∈ DM by decide))), up2_row (Ne.symm (ne_m hM (show 30 ∈ DM by decide))), up2_row (Ne.symm (ne_m hM (show 31 ∈ DM by decide))), up2_jn (show j ≠ 32 from fun z => hj (by rw [z]; decide)), up2_jn (show j ≠ 50 from fun z => hj (by rw [z]; decide)), ns_X8_comesOn hM (fun q => hj (mem_sub j q (by decide))), ns_g_X8_puts_193_5 hM hj, ns_g_X8_puts_193_4 hM hj, ns_g_X8_puts_193_3 hM hj, ns_g_X8_puts_193_2 hM hj, ns_g_X8_puts_193_1 hM hj, ns_g_X8_puts_193_0 hM hj, ns_g_X8_puts_142 hM hj, ns_g_X8_puts_115_5 hM hj, ns_g_X8_puts_115_4 hM hj, ns_g_X8_puts_115_3 hM hj, ns_g_X8_puts_115_2 hM hj, ns_g_X8_puts_115_1 hM hj, ns_g_X8_puts_115_0 hM hj, ns_g_X8_puts_86 hM hj, ns_g_X8_puts_52 hM hj, ns_g_X8_puts_27 hM hj]
