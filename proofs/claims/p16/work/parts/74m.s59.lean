/-! SIMULATION 59: ticks with the frames and with what they answer -/
def ar (R : Nat → Nat → Option Nat) (b : Nat) (I : Mm) : Int32 := I (En R b 0) 3 + I (En R b 1) 3
theorem i_tel (a b c : Int32) : (b - a) + (c - b) = c - a := by
  apply Int32.toBitVec_inj.mp
  rw [Int32.toBitVec_add, Int32.toBitVec_sub, Int32.toBitVec_sub, Int32.toBitVec_sub]
  bv_omega
theorem i_sub0 (a : Int32) : a - a = 0 := by
  apply Int32.toBitVec_inj.mp
  rw [Int32.toBitVec_sub]
  show a.toBitVec - a.toBitVec = 0#32
  bv_omega
theorem c16_2 {m nt nf : Nat} {A : Nat → Nat} : ∀ r i (J : Mm) (w : Int32), (g_X8_comes_16 m A nt nf r i J w).2 = w := by
  intro r
  induction r with
  | zero => intro i J w; rfl
  | succ r ih => intro i J w; rw [g_X8_comes_16]; exact ih _ _ _
theorem c45_2 {m nt nf c : Nat} {A : Nat → Nat} : ∀ r i (J : Mm) (w : Int32), (g_X8_comes_45 m A nt nf r i c J w).2 = w := by
  intro r
  induction r with
  | zero => intro i J w; rfl
  | succ r ih =>
    intro i J w
    rw [g_X8_comes_45]
    dsimp only
    repeat' split
    all_goals exact ih _ _ _
theorem c37_2 {m nt nf : Nat} {A : Nat → Nat} : ∀ r i (J : Mm) (w : Int32), (g_X8_comes_37 m A nt nf r i J w).2 = w := by
  intro r
  induction r with
  | zero => intro i J w; rfl
  | succ r ih => intro i J w; rw [g_X8_comes_37]; exact (ih _ _ _).trans (c45_2 _ _ _ _)
theorem c142_2 {m nt nf : Nat} {A : Nat → Nat} : ∀ r i k (J : Mm) (w : Int32), (g_X8_comes_142 m A nt nf r i k J w).2 = (g_X8_comes_142 m A nt nf r i k J w).1 (A 42) 0 + (g_X8_comes_142 m A nt nf r i k J w).1 (A 42) 1 - w := by
  intro r
  induction r with
  | zero => intro i k J w; rfl
  | succ r ih =>
    intro i k J w
    rw [g_X8_comes_142]
    dsimp only
    split
    · exact ih _ _ _ _
    · exact ih _ _ _ _
theorem t7_2 {m nt nf : Nat} {A : Nat → Nat} : ∀ r i (J : Mm) (w : Int32), (g_X8_tick_7 m A nt nf r i J w).2 = w := by
  intro r
  induction r with
  | zero => intro i J w; rfl
  | succ r ih => intro i J w; rw [g_X8_tick_7]; exact ih _ _ _
theorem t36_2 {m nt nf : Nat} {A : Nat → Nat} : ∀ r i (J : Mm) (w : Int32), (g_X8_tick_36 m A nt nf r i J w).2 = w := by
  intro r
  induction r with
  | zero => intro i J w; rfl
  | succ r ih => intro i J w; rw [g_X8_tick_36]; exact ih _ _ _
theorem t60_2 {m nt nf : Nat} {A : Nat → Nat} : ∀ r i (J : Mm) (w : Int32), (g_X8_tick_60 m A nt nf r i J w).2 = w := by
  intro r
  induction r with
  | zero =>
    intro i J w
    rw [g_X8_tick_60]
    dsimp only
    repeat' split
    all_goals rfl
  | succ r ih => intro i J w; rw [g_X8_tick_60]; exact ih _ _ _
/-- what a tick of the reference answers -/
theorem tick_an {m nt nf : Nat} {A : Nat → Nat} {J : Mm} (hA : AD m A) : (f_X8_tick J m A nt nf).2 = (f_X8_tick J m A nt nf).1 (A 42) 0 + (f_X8_tick J m A nt nf).1 (A 42) 1 - (J (A 42) 0 + J (A 42) 1) := by
  rw [tick_k hA (by decide) (by decide) (by decide), tick_k hA (by decide) (by decide) (by decide)]
  have e1 : (f_X8_tick J m A nt nf).2 = (f_X8_comes J m A nt nf).2 := by
    rw [tick_8, t60_2]
    unfold mid8
    dsimp only
    rw [t36_2, t7_2]
  rw [e1]
  unfold f_X8_comes
  dsimp only
  rw [c142_2, c37_2, c16_2]
theorem y_tick44x {Q : Option Value → MM → Prop} {X : String → MM → Prop} {b : Nat} {k : Nat} (r : Nat) : ∀ {S : MM} {w2 : Int32} {i3 n : Nat} {lv : Lv} (hL : LY S b) (hk : k < 1001) (ir : IR S) (g0 : lvg lv 0 = some (.ref b)) (g1 : lvg lv 1 = some (.int (nI k))) (g2 : lvg lv 2 = some (.int w2)) (g3 : lvg lv 3 = some (.int (nI i3))) (hr : i3 + r = k) (hn : 2 + r * 1 ≤ n) (K : (∀ j, j ≤ r → IR (wI S (itC (sR S) b j (sI S)))) → Q (some (.int (ar (sR S) b (itC (sR S) b r (sI S)) - w2))) (wI S (itC (sR S) b r (sI S)))), wpn (kX7_tick Q X) n 44 lv [] S 0 0 := by
  induction r with
  | zero =>
    intro S w2 i3 n lv hL hk ir g0 g1 g2 g3 hr hn K
    obtain ⟨d, rfl⟩ : ∃ d, n = d + 2 := ⟨n - 2, by omega⟩
    refine u_X7_tick_44 ?_
    unfold bX7_tick_44
    refine e_ldI g3 ?_
    refine e_ldI g1 ?_
    refine e_ge (by omega) (by omega) (fun _ => ?_) (fun z => absurd z (by omega))
    refine u_X7_tick_59 ?_
    unfold bX7_tick_59
    refine e_ldA g0 ?_
    refine e_gR hL.2 (ly_ea hL).1 ?_
    refine e_cN 0 rfl ?_
    refine e_aR (N := 2) (ly_ea hL).2.1 (ly_ea hL).2.2 (by omega) (by decide) (ly_E hL (by omega)).1 ?_
    refine e_gE (ly_E hL (by omega)).2.1 ?_
    refine e_ldA g0 ?_
    refine e_gR hL.2 (ly_ea hL).1 ?_
    refine e_cN 1 rfl ?_
    refine e_aR (N := 2) (ly_ea hL).2.1 (ly_ea hL).2.2 (by omega) (by decide) (ly_E hL (by omega)).1 ?_
    refine e_gE (ly_E hL (by omega)).2.1 ?_
    refine e_bopE ?_
    refine e_ldI g2 ?_
    refine e_bopE ?_
    exact e_rI (K (fun j hj => by
      have e : j = 0 := by omega
      subst e
      exact ir))
  | succ r ih =>
    intro S w2 i3 n lv hL hk ir g0 g1 g2 g3 hr hn K
    obtain ⟨d, hd, rfl⟩ : ∃ d, 2 + r * 1 ≤ d ∧ n = d + 1 := ⟨n - 1, by omega, by omega⟩
    refine u_X7_tick_44 ?_
    unfold bX7_tick_44
    refine e_ldI g3 ?_
    refine e_ldI g1 ?_
    refine e_ge (by omega) (by omega) (fun z => absurd z (by omega)) (fun _ => ?_)
    refine e_ldA g0 ?_
    refine And.intro hL.2 (And.intro ⟨by decide, by decide⟩ (x_X7_runTick hL ir (fun ir1 => ?_)))
    have K2 : (∀ j, j ≤ r → IR (wI S (itC (sR S) b j (f_X7_runTick (sI S) (sR S) b)))) → Q (some (.int (ar (sR S) b (itC (sR S) b r (f_X7_runTick (sI S) (sR S) b)) - w2))) (wI S (itC (sR S) b r (f_X7_runTick (sI S) (sR S) b))) := fun h => K (fun j hj => by
      cases j with
      | zero => exact ir
      | succ j => exact h j (by omega))
    clear K
    generalize f_X7_runTick (sI S) (sR S) b = F1 at ir1 K2 ⊢
    refine e_inc g3 ?_
    exact ih (S := wI S F1) (LY_w hL) hk ir1 (lvg_ne g0 rfl (by decide)) (lvg_ne g1 rfl (by decide)) (lvg_ne g2 rfl (by decide)) lvg_self (by omega) (by omega) K2
theorem y_tick22x {Q : Option Value → MM → Prop} {X : String → MM → Prop} {S : MM} {b : Nat} {k : Nat} {n : Nat} {lv : Lv} (hL : LY S b) (hk : k < 1001) (ir : IR S) (g0 : lvg lv 0 = some (.ref b)) (g1 : lvg lv 1 = some (.int (nI k))) (hn : 1004 ≤ n) (K : (∀ j, j ≤ k → IR (wI S (itC (sR S) b j (sI S)))) → Q (some (.int (ar (sR S) b (itC (sR S) b k (sI S)) - ar (sR S) b (sI S)))) (wI S (itC (sR S) b k (sI S)))) : wpn (kX7_tick Q X) n 22 lv [] S 0 0 := by
  obtain ⟨d, rfl⟩ : ∃ d, n = d + 1004 := ⟨n - 1004, by omega⟩
  refine u_X7_tick_22 ?_
  unfold bX7_tick_22
  refine e_ldA g0 ?_
  refine e_gR hL.2 (ly_ea hL).1 ?_
  refine e_cN 0 rfl ?_
  refine e_aR (N := 2) (ly_ea hL).2.1 (ly_ea hL).2.2 (by omega) (by decide) (ly_E hL (by omega)).1 ?_
  refine e_gE (ly_E hL (by omega)).2.1 ?_
  refine e_ldA g0 ?_
  refine e_gR hL.2 (ly_ea hL).1 ?_
  refine e_cN 1 rfl ?_
  refine e_aR (N := 2) (ly_ea hL).2.1 (ly_ea hL).2.2 (by omega) (by decide) (ly_E hL (by omega)).1 ?_
  refine e_gE (ly_E hL (by omega)).2.1 ?_
  refine e_bopE ?_
  refine e_stI ?_
  refine e_cN 0 rfl ?_
  refine e_stI ?_
  exact y_tick44x k hL hk ir (lvg_ne (lvg_ne g0 rfl (by decide)) rfl (by decide)) (lvg_ne (lvg_ne g1 rfl (by decide)) rfl (by decide)) (lvg_ne lvg_self rfl (by decide)) lvg_self (by omega) (by omega) K
theorem c_tickx {Q : Option Value → MM → Prop} {X : String → MM → Prop} {S : MM} {b : Nat} {v : Int32} (hL : LY S b) (ir : IR S) (K1 : TB v → X eI S) (K : ∀ k, k ≤ 1000 → v = nI k → ¬ TB v → (∀ j, j ≤ k → IR (wI S (itC (sR S) b j (sI S)))) → Q (some (.int (ar (sR S) b (itC (sR S) b k (sI S)) - ar (sR S) b (sI S)))) (wI S (itC (sR S) b k (sI S)))) : wX7_tick [.ref b, .int v] S Q X := by
  have th : TB v → ∀ lv n, wpn (kX7_tick Q X) (n + 1) 12 lv [] S 0 0 := fun q lv n => And.intro ⟨by decide, by decide⟩ (K1 q)
  refine Exists.intro 1006 (u_X7_tick0 ?_)
  unfold bX7_tick_0
  refine e_ldI rfl (e_cI ⟨fun h => th (Or.inl h) _ _, fun h1 => e_ldI rfl (e_cI ⟨fun h2 => ?_, fun h => th (Or.inr h) _ _⟩)⟩)
  have n0 : ¬ v < 0 := fun z => h1 (by
    show v < 1
    rw [Int32.lt_iff_toInt_lt] at z ⊢
    have h3 : (0 : Int32).toInt = 0 := by decide
    have h4 : (1 : Int32).toInt = 1 := by decide
    omega)
  obtain ⟨n, hn, en⟩ := nn_nat n0
  subst en
  have hn2 : n ≤ 1000 := by
    have q := Int32.le_iff_toInt_le.mp (show nI n ≤ 1000 from h2)
    rw [nI_toInt (by omega), show (1000 : Int32).toInt = 1000 from by decide] at q
    omega
  exact y_tick22x hL (by omega) ir rfl rfl (by omega) (fun h => K n hn2 rfl (fun q => q.elim h1 (fun z => z h2)) h)
theorem x_tick1f {Q : Option Value → MM → Prop} {S : MM} {b m cl nt F : Nat} {A : Nat → Nat} {I : Mm} (hL : LY S b) (hO : OC S) (hM : MS S m A) (l1 : ∀ c e, c < 8 → e < 2 → ∃ n, n < 8 ∧ I (Ln (sR S) b c e) 1 = nI n) (h : NRl (sR S) b m A I (sI S) cl nt) (fr : FRj (sI S) A nt F) (hB : BI S m A nt F cl) (frl : FRl (sR S) b A I (sI S) cl nt) (hF : F < 3000) (hcl : cl < 1000000000) (K : ∀ r F' nt', NRl (sR S) b m A (f_X7_runTick I (sR S) b) F' (cl + 1) nt' → FRj F' A nt' F → BI (wI S F') m A nt' F (cl + 1) → (∀ z, z ≠ m → (∀ k ∈ DM, z ≠ A k) → F' z = sI S z) → F' m 0 = sI S m 0 → FRl (sR S) b A (f_X7_runTick I (sR S) b) F' (cl + 1) nt' → r = F' (A 42) 0 + F' (A 42) 1 - (sI S (A 42) 0 + sI S (A 42) 1) → BN (sR S) b (f_X7_runTick I (sR S) b) F' A → Q (some (.int r)) (wI S F')) : wX8_tick [.ref m] S Q := by
  have hl := BI_len hB
  have hA := AD_of hM
  obtain ⟨⟨im, rv, m32, hnt, ut⟩, m39, m43, lv, s, cm, hs⟩ := hB
  have s22 : ∀ t, ∃ p, p < 8 ∧ sI S (A 22) t = nI p := im.1 22 8 rfl
  have s27 : ∀ t, ∃ p, p < 8 ∧ sI S (A 27) t = nI p := im.1 27 8 rfl
  have s28 : ∀ t, ∃ p, p < 2 ∧ sI S (A 28) t = nI p := im.1 28 2 rfl
  have ri := h.2.2.2.2.2.1
  obtain ⟨⟨t1, t2⟩, nt', new, nr, hnew, tgE, nw, jk, j42, jm, _⟩ := tick_sim (nf := F) hL hO hA hcl s27 s28 l1 h (by omega)
  have hb42 : ∀ e, e < 2 → ∃ n, n ≤ 4000 ∧ sI S (A 42) e = nI n := fun e he => by
    obtain ⟨n0, n1, h0, h1, h2⟩ := cm
    have q : e = 0 ∨ e = 1 := by omega
    rcases q with rfl | rfl
    · exact ⟨n0, by omega, h0⟩
    · exact ⟨n1, by omega, h1⟩
  have frl' := tick_f (nf := F) hL hO hA hcl s27 s28 s22 h (by omega) frl hb42 tgE (fun q hq => by obtain ⟨x, c, hx, hc, lit, e11, q0, q1, q2, q3⟩ := nw q hq; exact q3) (fun c _ => bd_e ⟨jk 23 c (by decide) (by decide) (by decide) (by decide) (by decide) (by decide) (by decide) (by decide) (by decide) (by decide) (by decide) (by decide) (by decide), jk 24 c (by decide) (by decide) (by decide) (by decide) (by decide) (by decide) (by decide) (by decide) (by decide) (by decide) (by decide) (by decide) (by decide)⟩)
  have an := tick_an (nt := nt) (nf := F) (J := sI S) hA
  have bn' := tick_b (nt := nt) (nf := F) hL hO hA hcl s27 s28 l1 h
  have cm' := comes_cm (nt := nt) (nf := F) (cl := cl) (N := s) hM m43 s22 s27 s28 (by omega) (by omega) cm
  have fz := fun z (h1 : z ≠ m) (h2 : ∀ k ∈ DM, z ≠ A k) => nm_X8_tick (I := sI S) (m := m) (A := A) (nt := nt) (nf := F) (z := z) (fun k hk => h2 k (mem_sub k hk (by decide))) h1
  unfold mid8 at t1 t2
  dsimp only at t1 t2
  refine x_X8_tick (B := 40000) hM hnt (by omega) im m32 m39 ⟨by decide, fun e he => ?_⟩ fr t1 t2 (fun im' => ?_)
  · obtain ⟨n0, n1, h0, h1, h2⟩ := cm
    have q : e = 0 ∨ e = 1 := by omega
    rcases q with rfl | rfl
    · exact ⟨n0, by omega, h0⟩
    · exact ⟨n1, by omega, h1⟩
  clear t1 t2
  generalize (f_X8_tick (sI S) m A nt F).2 = r at im' an ⊢
  generalize (f_X8_tick (sI S) m A nt F).1 = F' at nr tgE jk j42 jm fz im' frl' an bn' ⊢
  generalize (f_X8_comes (sI S) m A nt F).1 = J1 at j42 cm'
  have len : nt' = ((TG (sI S) A nt).filter (nd cl) ++ new).length := by rw [← tgE]; unfold TG; simp
  have hnt' : nt' < 4001 := by
    rw [List.length_append] at len
    have q1 := List.length_filter_le (nd cl) (TG (sI S) A nt)
    have q2 : (TG (sI S) A nt).length = nt := by unfold TG; simp
    omega
  have tl : TL (wI S F') A nt' = (TL S A nt).filter (pD (nI cl)) ++ new.map pr4 := by
    rw [TL_TG, TL_TG]
    show (TG F' A nt').map pr4 = _
    rw [tgE, List.map_append, pr_flt]
  have nwl : NW (nI cl) (new.map pr4) := fun q hq => by
    obtain ⟨p, hp, rfl⟩ := List.mem_map.mp hq
    obtain ⟨x, c, hx, hc, lit, e11, q0, q1, q2, q3⟩ := nw p hp
    obtain ⟨c', hc', ec', uc'⟩ := ri.2.2.2.2 (x / 8) (x % 8) (by omega) (by omega) (Or.inl (by rw [show 8 * (x / 8) + x % 8 = x by omega]; exact lit))
    rw [show 8 * (x / 8) + x % 8 = x by omega, e11] at ec'
    have := nI_inj (by omega) (by omega) ec'
    subst this
    obtain ⟨d, d1, d2, ed⟩ := ri.2.2.1 c hc (ri.1 c hc uc')
    exact ⟨q3, d, d1, d2, by show p 2 = _; rw [q2, m43, ed]⟩
  refine K r F' nt' nr (fun t ht => ?_) ⟨⟨im', nr.2.2.2.2.2.1, nr.2.2.2.1.2.2, hnt', fun q hq => ?_⟩, (jm 39 (by decide) (by decide) (by decide) (by decide) (by decide) (by decide) (by decide)).trans m39, nr.2.2.2.1.2.1, ?_, s + (TG (sI S) A nt).countP (fDa cl), ?_, ?_⟩ fz (jm 0 (by decide) (by decide) (by decide) (by decide) (by decide) (by decide) (by decide)) frl' an bn'
  · have all : ∀ q ∈ TG F' A nt', ¬ q 3 = -1 → (q 3).toNatClampNeg < F := fun q hq => by
      rw [tgE] at hq
      rcases List.mem_append.mp hq with hq | hq
      · obtain ⟨u, hu, rfl⟩ := List.mem_map.mp (List.mem_filter.mp hq).1
        exact fr u (List.mem_range.mp hu)
      · obtain ⟨x, c, hx, hc, lit, e11, q0, q1, q2, q3⟩ := nw q hq
        exact fun z => absurd q3 z
    exact tg_mem all t ht
  · rw [TL_TG] at hq
    obtain ⟨p, hp, rfl⟩ := List.mem_map.mp hq
    obtain ⟨u, hu, rfl⟩ := List.mem_map.mp hp
    exact nr.2.2.2.2.2.2.2.2.2.1 u (List.mem_range.mp hu)
  · rw [tl]
    exact LV_tick lv (by omega) (by rw [List.length_map]; exact hnew) nwl
  · exact CMj_e cm' (fun j => j42 j) (Nat.le_refl _)
  · rw [tl, List.countP_append, NW_cnt nwl]
    have q1 := cnt_fD (nI cl) (TL S A nt)
    have q2 : (TL S A nt).countP (fD (nI cl)) = (TG (sI S) A nt).countP (fDa cl) := by rw [TL_TG]; exact pr_cnt
    omega
theorem y_tc25f {Q : Option Value → MM → Prop} {S : MM} {b m n cl F : Nat} {A : Nat → Nat} {I : Mm} {b0 : Int32} (hL : LY S b) (hO : OC S) (hM : MS S m A) (hF : F < 3000) (hcl : cl + n < 1000000000) (hn : n ≤ 1000) (l1 : ∀ j, j ≤ n → ∀ c e, c < 8 → e < 2 → ∃ n, n < 8 ∧ itC (sR S) b j I (Ln (sR S) b c e) 1 = nI n) (K : ∀ r F' nt', NRl (sR S) b m A (itC (sR S) b n I) F' (cl + n) nt' → FRj F' A nt' F → BI (wI S F') m A nt' F (cl + n) → (∀ z, z ≠ m → (∀ k ∈ DM, z ≠ A k) → F' z = sI S z) → F' m 0 = 0 → FRl (sR S) b A (itC (sR S) b n I) F' (cl + n) nt' → r = F' (A 42) 0 + F' (A 42) 1 - b0 → BN (sR S) b (itC (sR S) b n I) F' A → Q (some (.int r)) (wI S F')) : ∀ (r i f nt : Nat) (lv : Lv) (G : Mm) (a : Int32), i + r = n → r + 2 ≤ f → lvg lv 0 = some (.ref m) → lvg lv 1 = some (.int (nI n)) → lvg lv 2 = some (.int a) → lvg lv 3 = some (.int (nI i)) → G m 0 = 0 → NRl (sR S) b m A (itC (sR S) b i I) G (cl + i) nt → FRj G A nt F → BI (wI S G) m A nt F (cl + i) → (∀ z, z ≠ m → (∀ k ∈ DM, z ≠ A k) → G z = sI S z) → FRl (sR S) b A (itC (sR S) b i I) G (cl + i) nt → a = G (A 42) 0 + G (A 42) 1 - b0 → BN (sR S) b (itC (sR S) b i I) G A → wpn (kX8_tick_ Q) f 25 lv [] (wI S G) 0 0 := by
  intro r
  induction r with
  | zero =>
    intro i f nt lv G a hi hf l0 l1 l2 l3 t0 nr fr hB fz frl ha bn
    have e : i = n := by omega
    subst e
    obtain ⟨g, rfl⟩ : ∃ g, f = g + 2 := ⟨f - 2, by omega⟩
    refine u_X8_tick__25 ?_
    unfold bX8_tick__25
    exact e_ldI l3 (e_ldI l1 (e_ge (by omega) (by omega) (fun _ => q_tc50 l2 (K a G nt nr fr hB fz t0 frl ha bn)) (fun h => absurd h (by omega))))
  | succ r ih =>
    intro i f nt lv G a hi hf l0 l1' l2 l3 t0 nr fr hB fz frl ha bn
    obtain ⟨g, rfl⟩ : ∃ g, f = g + 1 := ⟨f - 1, by omega⟩
    refine u_X8_tick__25 ?_
    unfold bX8_tick__25
    refine e_ldI l3 (e_ldI l1' (e_ge (by omega) (by omega) (fun h => absurd h (by omega)) (fun _ => e_ldA l0 (e_gV (v := 0) hM.1 t0 ⟨fun _ => ?_, fun z => absurd rfl z⟩))))
    refine e_ldI l2 (e_ldA l0 (And.intro hM.1 (And.intro ⟨by decide, by decide⟩ (x_tick1f (S := wI S G) (I := itC (sR S) b i I) hL hO hM (l1 i (by omega)) nr fr hB frl hF (by omega) (fun r1 G1 nt1 nr1 fr1 hB1 fz1 k0 frl1 er1 bn1 => e_bopE (e_stI (e_inc (lvg_ne l3 rfl (by decide)) ?_)))))))
    refine ih (i + 1) g nt1 _ G1 (a + r1) (by omega) (by omega) (lvg_ne (lvg_ne l0 rfl (by decide)) rfl (by decide)) (lvg_ne (lvg_ne l1' rfl (by decide)) rfl (by decide)) (lvg_ne lvg_self rfl (by decide)) lvg_self (k0.trans t0) ?_ fr1 hB1 (fun z h1 h2 => (fz1 z h1 h2).trans (fz z h1 h2)) ?_ ?_ (by rw [itC_s]; exact bn1)
    · rw [itC_s]
      exact nr1
    · rw [itC_s]
      exact frl1
    · rw [er1, ha]
      exact i_tel b0 (G (A 42) 0 + G (A 42) 1) (G1 (A 42) 0 + G1 (A 42) 1)
