/-! SIMULATION 23: what the parts of a tick leave; what the ports put -/
theorem fd_keep {f : Nat → Mm → Mm} {P : Mm → Prop} {N : Nat} (h : ∀ i I, i < N → P I → P (f i I)) : ∀ r i I, i + r = N → P I → P (fd f r i I) := by
  intro r
  induction r with
  | zero => intro i I _ p; exact p
  | succ r ih => intro i I hi p; exact ih (i + 1) (f i I) (by omega) (h i I (by omega) p)
theorem ne_of {S : MM} {b z k : Nat} (hL : LY S b) (hz : sK S z = k) (h : k ≠ 6 ∧ k ≠ 7 ∧ k ≠ 2) : NE (sR S) b z := ⟨fun x hx => ⟨ne_k hz (k_px hL hx) h.1, ne_k hz (k_ox hL hx) h.2.1, ne_k hz (k_qx hL hx) h.2.1, ne_k hz (k_lx hL hx) h.2.1⟩, fun e he => ne_k hz (ly_E hL he).2.1 h.2.2⟩
theorem ne_T {S : MM} {b z a j : Nat} (hL : LY S b) (hO : OC S) (t : TO S z a j) (ka : sK S a = 5) (kz : sK S z = 7) : NE (sR S) b z := ⟨fun x hx => ⟨ne_k kz (k_px hL hx) (by decide), to_a hO t (to_ox hL hx) (ne_k ka (k_px hL hx) (by decide)), to_a hO t (to_qx hL hx) (ne_k ka (k_px hL hx) (by decide)), to_a hO t (to_lx hL hx) (ne_k ka (k_px hL hx) (by decide))⟩, fun e he => ne_k kz (ly_E hL he).2.1 (by decide)⟩
theorem NE_lc {S : MM} {b c e : Nat} {I I' : Mm} (hL : LY S b) (hO : OC S) (hc : c < 8) (he : e < 2) (h : ∀ z, NE (sR S) b z → I' z = I z) : LC2 I I' (sR S) b c e ∧ I' (Ln (sR S) b c e) = I (Ln (sR S) b c e) := by
  have eL := h _ (ne_of hL (ly_N hL hc he).2.1 (by decide))
  exact ⟨⟨by rw [eL], by rw [eL], fun s hs => ⟨by rw [h _ (ne_of hL (ly_T hL hc he hs).2.1 (by decide))], h _ (ne_T hL hO (to_nO hL hc he hs) (ly_T hL hc he hs).2.1 (ly_TO hL hc he hs).2.1), h _ (ne_T hL hO (to_nP hL hc he hs) (ly_T hL hc he hs).2.1 (ly_TP hL hc he hs).2.1)⟩⟩, eL⟩
theorem LN_c {S : MM} {b n : Nat} {I I' J J' : Mm} {A : Nat → Nat} (hL : LY S b) (hO : OC S) (ln : LN (sR S) b I J A n) (h : ∀ z, NE (sR S) b z → I' z = I z) (hj : ∀ k j, dm k → 22 ≤ k → k ≠ 40 → J' (A k) j = J (A k) j) : LN (sR S) b I' J' A n := fun c e hc he => by
  obtain ⟨lc, eL⟩ := NE_lc hL hO hc he h
  obtain ⟨l1, l2, l3⟩ := ln c e hc he
  have tG : TG J' A n = TG J A n := TG_c (fun t _ => tg_k (fun k hk => by
    have : ∀ k ∈ ([27, 28, 29, 30, 31] : List Nat), dm k ∧ 22 ≤ k ∧ k ≠ 40 := by decide
    funext j
    exact hj k j (this k hk).1 (this k hk).2.1 (this k hk).2.2))
  rw [CN_c lc, eL, tG, hj 26 _ (by decide) (by decide) (by decide)]
  exact ⟨l1, l2, l3⟩
theorem ow_hi {k j : Nat} (h : 22 ≤ k ∨ k < 3) : ow k j = 99 := by unfold ow; rw [if_neg (by omega), if_neg (by omega), if_neg (by omega)]
theorem r_mv3 {re rp ro : Nat → Int32} {v : Int32} {k : Nat} (hk : k ≠ 8) : (r_X1_moveTo re rp ro v).2.2 k = re k := by
  unfold r_X1_moveTo
  repeat' split
  all_goals first | rfl | exact pk_un hk
theorem stE_en {S : MM} {b x e k : Nat} {I : Mm} (hL : LY S b) (hO : OC S) (hx : x < 16) (he : e < 2) (hk : k ≠ 8) : stE (sR S) b (x / 8) (x % 8) I (En (sR S) b e) k = I (En (sR S) b e) k := by
  have kE := (ly_E hL he).2.1
  have kE2 := (ly_E hL (show x / 8 < 2 by omega)).2.1
  have n1 : ∀ z, z ≠ px (sR S) b x → (f_X5_step I (px (sR S) b x) (ox (sR S) b x) (qx (sR S) b x)).1 z = I z := fun z hz => n_X5_step hz
  unfold stE
  split
  · rfl
  · show f_X1_moveTo (f_X5_step I (px (sR S) b x) (ox (sR S) b x) (qx (sR S) b x)).1 (En (sR S) b (x / 8)) (px (sR S) b x) (ox (sR S) b x) (f_X5_step I (px (sR S) b x) (ox (sR S) b x) (qx (sR S) b x)).2 (En (sR S) b e) k = _
    by_cases q : e = x / 8
    · subst q
      rw [(rr_X1_moveTo (ne_k kE2 (k_px hL hx) (by decide)) (ne_k kE2 (k_ox hL hx) (by decide)) (d_po hL hO hx hx)).2.2, r_mv3 hk, n1 _ (ne_k kE2 (k_px hL hx) (by decide))]
    · rw [n_X1_moveTo (ne_k kE (k_px hL hx) (by decide)) (ne_k kE (k_ox hL hx) (by decide)) (fun z => q (i_E hL hO he (by omega) z)), n1 _ (ne_k kE (k_px hL hx) (by decide))]
theorem st_en {S : MM} {b e k : Nat} {I : Mm} (hL : LY S b) (hO : OC S) (he : e < 2) (hk : k ≠ 8) : f_X7_stepAll I (sR S) b (En (sR S) b e) k = I (En (sR S) b e) k := by
  rw [fd_step]
  exact fd_keep (N := 16) (f := fun x => stE (sR S) b (x / 8) (x % 8)) (P := fun I' => I' (En (sR S) b e) k = I (En (sR S) b e) k) (fun i I' hi p => (stE_en hL hO hi he hk).trans p) 16 0 I rfl rfl
theorem up7 {A : Nat → Nat} {K J : Mm} {x y : Nat} {v : Int32} (e : K (A 7) = J (A 7)) (hv : ¬ v = 0) (h : ¬ J (A 7) x = 0) : (up2 K (A 7) x v (A 7) y = 0) ↔ (J (A 7) y = 0) := by
  by_cases q : y = x
  · subst q
    rw [up2_self]
    exact ⟨fun z => absurd z hv, fun z => absurd z h⟩
  · rw [mu_j q, e]
theorem age_7 {J : Mm} {m x y : Nat} {A : Nat → Nat} (hA : AD m A) : (f_X8_ages J m A x (A 7) y = 0) ↔ (J (A 7) y = 0) := by
  have n18 : ∀ k ∈ ([18] : List Nat), A 7 ≠ A k := fun k hk z => by
    have : k = 18 := by simpa using hk
    subst this
    exact absurd (hA.1 7 18 (by decide) (by decide) z) (by decide)
  have p1 : ∀ I : Mm, f_X8_partnerStops I m A x (A 7) = I (A 7) := fun I => nm_X8_partnerStops n18
  have p2 : ∀ I : Mm, f_X8_forgets I m A x (A 7) = I (A 7) := fun I => nm_X8_forgets n18
  have n8 : A 7 ≠ A 8 := fun z => absurd (hA.1 7 8 (by decide) (by decide) z) (by decide)
  have nz1 : J (A 7) x = nI 1 → ¬ J (A 7) x = 0 := fun z => by rw [z]; decide
  have nz2 : J (A 7) x = nI 2 → ¬ J (A 7) x = 0 := fun z => by rw [z]; decide
  unfold f_X8_ages
  dsimp only
  repeat' split
  all_goals simp only [p1, p2, up2_row n8]
  all_goals first | exact up7 (up2_row n8) (by decide) (nz1 (by assumption)) | exact up7 (up2_row n8) (by decide) (nz2 (by assumption)) | done
theorem ages_7 {J : Mm} {m nt nf y : Nat} {A : Nat → Nat} {w : Int32} (hA : AD m A) : ((g_X8_tick_7 m A nt nf 16 0 J w).1 (A 7) y = 0) ↔ (J (A 7) y = 0) := by
  rw [fd_ages]
  exact fd_keep (N := 16) (f := fun x J => f_X8_ages J m A x) (P := fun J' => (J' (A 7) y = 0) ↔ (J (A 7) y = 0)) (fun i J' _ p => (age_7 hA).trans p) 16 0 J rfl Iff.rfl
theorem steps_o {J : Mm} {m nt nf k y : Nat} {A : Nat → Nat} {w : Int32} (hA : AD m A) (hk : dm k) (h : k ≠ 9 ∧ k ≠ 10 ∧ k ≠ 19 ∧ k ≠ 40) : (g_X8_tick_36 m A nt nf 16 0 J w).1 (A k) y = J (A k) y := by
  rw [fd_steps]
  exact fd_keep (N := 16) (f := fun x J => f_X8_steps J m A x) (P := fun J' => J' (A k) y = J (A k) y) (fun i J' _ p => (congrFun (nm_X8_steps (fun l hl z => by
    have d : ∀ l ∈ ([9, 10, 19, 40] : List Nat), dm l := by decide
    have := hA.1 k l hk (d l hl) z
    simp at hl
    omega)) y).trans p) 16 0 J rfl rfl
theorem ages_o {J : Mm} {m nt nf k y : Nat} {A : Nat → Nat} {w : Int32} (hA : AD m A) (hk : dm k) (h : k ≠ 7 ∧ k ≠ 8 ∧ k ≠ 18) : (g_X8_tick_7 m A nt nf 16 0 J w).1 (A k) y = J (A k) y := by
  rw [fd_ages]
  exact fd_keep (N := 16) (f := fun x J => f_X8_ages J m A x) (P := fun J' => J' (A k) y = J (A k) y) (fun i J' _ p => (congrFun (nm_X8_ages (fun l hl z => by
    have d : ∀ l ∈ ([7, 8, 18] : List Nat), dm l := by decide
    have := hA.1 k l hk (d l hl) z
    simp at hl
    omega)) y).trans p) 16 0 J rfl rfl
theorem age_o8 {J : Mm} {m i x : Nat} {A : Nat → Nat} (hA : AD m A) (hn : x ≠ i) : f_X8_ages J m A i (A 8) x = J (A 8) x := by
  unfold f_X8_ages f_X8_partnerStops f_X8_forgets
  dsimp only
  repeat' split
  all_goals simp (disch := first | decide | omega) only [mu_o hA, mu_j]
theorem age_o18 {J : Mm} {m i x k : Nat} {A : Nat → Nat} (hA : AD m A) (hk : k < 5) (hn : x ≠ i) : f_X8_ages J m A i (A 18) (5 * x + k) = J (A 18) (5 * x + k) := by
  unfold f_X8_ages f_X8_partnerStops f_X8_forgets
  dsimp only
  repeat' split
  all_goals simp (disch := first | decide | omega) only [mu_o hA, mu_j]
theorem age_dk {J : Mm} {m x : Nat} {A : Nat → Nat} (h : J (A 7) x = 0) : f_X8_ages J m A x = J := by
  unfold f_X8_ages
  rw [if_neg (by rw [h]; decide), if_neg (by rw [h]; decide)]
theorem ages_dk {J : Mm} {m nt nf x : Nat} {A : Nat → Nat} {w : Int32} (hA : AD m A) (h : J (A 7) x = 0) : (g_X8_tick_7 m A nt nf 16 0 J w).1 (A 8) x = J (A 8) x ∧ ∀ k, k < 5 → (g_X8_tick_7 m A nt nf 16 0 J w).1 (A 18) (5 * x + k) = J (A 18) (5 * x + k) := by
  rw [fd_ages]
  have key := fd_keep (N := 16) (f := fun x J => f_X8_ages J m A x) (P := fun J' => J' (A 7) x = 0 ∧ J' (A 8) x = J (A 8) x ∧ ∀ k, k < 5 → J' (A 18) (5 * x + k) = J (A 18) (5 * x + k)) (fun i J' _ p => by
    obtain ⟨p1, p2, p3⟩ := p
    by_cases q : x = i
    · subst q
      show f_X8_ages J' m A x (A 7) x = 0 ∧ f_X8_ages J' m A x (A 8) x = J (A 8) x ∧ ∀ k, k < 5 → f_X8_ages J' m A x (A 18) (5 * x + k) = J (A 18) (5 * x + k)
      rw [age_dk p1]
      exact ⟨p1, p2, p3⟩
    · exact ⟨(age_7 hA).mpr p1, (age_o8 hA q).trans p2, fun k hk => (age_o18 hA hk q).trans (p3 k hk)⟩) 16 0 J rfl ⟨h, rfl, fun _ _ => rfl⟩
  exact key.2
/-! the things that are put -/
def NWq (J0 : Mm) (m : Nat) (A : Nat → Nat) (q : Nat → Int32) : Prop := ∃ x c, x < 16 ∧ c < 8 ∧ ¬ J0 (A 7) x = 0 ∧ J0 (A 11) x = nI c ∧ q 0 = nI c ∧ q 1 = nI (x / 8) ∧ q 2 = J0 m 43 + J0 (A 23) c ∧ q 3 = -1
def PU (m n0 : Nat) (A : Nat → Nat) (J0 : Mm) (i : Nat) (J : Mm) : Prop := (∃ nt new, J m 32 = nI nt ∧ nt ≤ n0 + i ∧ TG J A nt = TG J0 A n0 ++ new ∧ new.length ≤ i ∧ ∀ q ∈ new, NWq J0 m A q) ∧ (∀ k j, dm k → k ≠ 14 → k ≠ 16 → k ≠ 20 → k ≠ 21 → k ≠ 26 → (k < 27 ∨ 31 < k) → J (A k) j = J0 (A k) j) ∧ ∀ j, j ≠ 32 → j ≠ 50 → J m j = J0 m j
theorem JR_tg {J : Mm} {m x n : Nat} {A : Nat → Nat} (hA : AD m A) : TG (JR J m A x) A n = TG J A n := TG_c (fun t _ => tg_k (fun k hk => by
  have : ∀ k ∈ ([27, 28, 29, 30, 31] : List Nat), dm k ∧ k ≠ 14 ∧ k ≠ 16 ∧ k ≠ 20 ∧ k ≠ 21 := by decide
  obtain ⟨a1, a2, a3, a4, a5⟩ := this k hk
  funext j
  exact JR_o hA a1 a2 a3 a4 a5))
theorem JL_tg {K : Mm} {m x c n : Nat} {A : Nat → Nat} (hA : AD m A) : TG (JL K m A x c) A n = TG K A n := TG_c (fun t _ => tg_k (fun k hk => by
  have : ∀ k ∈ ([27, 28, 29, 30, 31] : List Nat), dm k ∧ k ≠ 26 := by decide
  funext j
  exact JL_o hA (this k hk).1 (this k hk).2))
theorem JN_tg {K : Mm} {m x nt c e : Nat} {A : Nat → Nat} (hA : AD m A) : ∃ q, TG (JN K m A x nt c e) A (nt + 1) = TG K A nt ++ [q] ∧ q 0 = nI c ∧ q 1 = nI e ∧ q 2 = K m 43 + K (A 23) c ∧ q 3 = -1 := by
  have tn := tg_new (K := K) (m := m) (x := x) (nt := nt) (c := c) (e := e) (ro := fun k => if k = 0 then K (A 1) (x / 8) else if k = 1 then K (A 3) x else if k = 2 then K (A 4) x else if k = 3 then nI (x % 8) else btv (K (A 5) x) (K (A 6) x) (K (A 3) x) (K (A 9) x)) (rq := fun k => K (A 18) (5 * x + k)) hA rfl rfl rfl rfl rfl rfl rfl rfl rfl rfl
  refine ⟨tg (JN K m A x nt c e) A nt, ?_, ?_, ?_, ?_, ?_⟩
  · rw [TG_s, TG_c (fun t ht => tg_old hA ht)]
  · rw [tn]; rfl
  · rw [tn]; rfl
  · rw [tn]; rfl
  · rw [tn]; rfl
theorem puts_tg {m n0 : Nat} {A Bd : Nat → Nat} {J0 : Mm} (hA : AD m A) (hn : n0 < 2000000000) (h32 : J0 m 32 = nI n0) (ht : ∀ x, x < 16 → ¬ J0 (A 7) x = 0 → ∃ c, c < 8 ∧ J0 (A 11) x = nI c ∧ J0 (A 23) c = nI (Bd c)) : PU m n0 A J0 16 (fd (fun x J => f_putsW J m A x) 16 0 J0) := by
  refine fd_sim (N := 16) (f := fun x J => f_putsW J m A x) (g := fun x J => f_putsW J m A x) (P := fun i _ J => PU m n0 A J0 i J) ?_ 16 0 J0 J0 rfl ⟨⟨n0, [], h32, Nat.le_refl _, by rw [List.append_nil], Nat.le_refl _, fun q hq => absurd hq List.not_mem_nil⟩, fun _ _ _ _ _ _ _ _ _ => rfl, fun _ _ _ => rfl⟩
  intro i _ J hi ⟨⟨nt, new, e32, hnt, tg0, hl, hq⟩, jk, jm⟩
  have e7 : J (A 7) i = J0 (A 7) i := jk 7 i (by decide) (by decide) (by decide) (by decide) (by decide) (by decide) (by decide)
  have e11 : J (A 11) i = J0 (A 11) i := jk 11 i (by decide) (by decide) (by decide) (by decide) (by decide) (by decide) (by decide)
  show PU m n0 A J0 (i + 1) (f_putsW J m A i)
  unfold f_putsW
  rw [e32, nI_cl (by omega), m_puts]
  by_cases pc : PC J m A i
  · have lit : ¬ J0 (A 7) i = 0 := by rw [← e7]; exact pc.1
    obtain ⟨c, hc, ec, ed⟩ := ht i hi lit
    rw [if_pos pc, p86 hA, e11, ec, nI_cl (by omega), p142 hA]
    split
    · obtain ⟨q, q1, q2, q3, q4, q5⟩ := JN_tg (K := JR J m A i) (m := m) (x := i) (nt := nt) (c := c) (e := i / 8) hA
      refine ⟨⟨nt + 1, new ++ [q], JN_32, by omega, ?_, ?_, ?_⟩, fun k j a b1 b2 b3 b4 b5 b6 => ?_, fun j a b => ?_⟩
      · rw [q1, JR_tg hA, tg0, List.append_assoc]
      · rw [List.length_append, List.length_singleton]; omega
      · intro p hp
        rcases List.mem_append.mp hp with hp | hp
        · exact hq p hp
        · rw [List.mem_singleton.mp hp]
          refine ⟨i, c, hi, hc, lit, ec, q2, q3, ?_, q5⟩
          rw [q4, JR_m hA, JR_o hA (by decide) (by decide) (by decide) (by decide) (by decide), jm 43 (by decide) (by decide), jk 23 c (by decide) (by decide) (by decide) (by decide) (by decide) (by decide) (by decide)]
      · rw [JN_o hA a b6, JR_o hA a b1 b2 b3 b4]
        exact jk k j a b1 b2 b3 b4 b5 b6
      · rw [JN_m hA a, JR_m hA]
        exact jm j a b
    · refine ⟨⟨nt, new, ?_, by omega, ?_, by omega, hq⟩, fun k j a b1 b2 b3 b4 b5 b6 => ?_, fun j a b => ?_⟩
      · rw [JL_m hA (by decide), JR_m hA]; exact e32
      · rw [JL_tg hA, JR_tg hA, tg0]
      · rw [JL_o hA a b5, JR_o hA a b1 b2 b3 b4]
        exact jk k j a b1 b2 b3 b4 b5 b6
      · rw [JL_m hA b, JR_m hA]
        exact jm j a b
  · rw [if_neg pc]
    exact ⟨⟨nt, new, e32, by omega, tg0, by omega, hq⟩, jk, jm⟩
