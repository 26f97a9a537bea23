/-! SIMULATION 27: a tick of the reference beside the class's, and n of them -/
theorem pr_flt {cl : Nat} {L : List (Nat → Int32)} : (L.filter (nd cl)).map pr4 = (L.map pr4).filter (pD (nI cl)) := by
  rw [flt_map]
  rfl
theorem pr_cnt {cl : Nat} {L : List (Nat → Int32)} : (L.map pr4).countP (fD (nI cl)) = L.countP (fDa cl) := by
  rw [List.countP_map]
  exact List.countP_congr (fun q _ => by
    show (fD (nI cl) (pr4 q) = true) ↔ _
    unfold fD isF dC fDa pr4
    simp only [Bool.and_eq_true]
    exact And.comm)
theorem x_tick1 {Q : Option Value → MM → Prop} {S : MM} {b m cl nt F : Nat} {A : Nat → Nat} {I : Mm} (hL : LY S b) (hO : OC S) (hM : MS S m A) (l1 : ∀ c e, c < 8 → e < 2 → ∃ n, n < 8 ∧ I (Ln (sR S) b c e) 1 = nI n) (h : NRl (sR S) b m A I (sI S) cl nt) (fr : FRj (sI S) A nt F) (hB : BI S m A nt F cl) (hF : F < 3000) (hcl : cl < 1000000000) (K : ∀ r F' nt', NRl (sR S) b m A (f_X7_runTick I (sR S) b) F' (cl + 1) nt' → FRj F' A nt' F → BI (wI S F') m A nt' F (cl + 1) → (∀ z, z ≠ m → (∀ k ∈ DM, z ≠ A k) → F' z = sI S z) → F' m 0 = sI S m 0 → Q (some (.int r)) (wI S F')) : wX8_tick [.ref m] S Q := by
  have hl := BI_len hB
  have hA := AD_of hM
  obtain ⟨⟨im, rv, m32, hnt, ut⟩, m39, m43, lv, s, cm, hs⟩ := hB
  have s22 : ∀ t, ∃ p, p < 8 ∧ sI S (A 22) t = nI p := im.1 22 8 rfl
  have s27 : ∀ t, ∃ p, p < 8 ∧ sI S (A 27) t = nI p := im.1 27 8 rfl
  have s28 : ∀ t, ∃ p, p < 2 ∧ sI S (A 28) t = nI p := im.1 28 2 rfl
  have ri := h.2.2.2.2.2.1
  obtain ⟨⟨t1, t2⟩, nt', new, nr, hnew, tgE, nw, jk, j42, jm, _⟩ := tick_sim (nf := F) hL hO hA hcl s27 s28 l1 h (by omega)
  have cm' := comes_cm (nt := nt) (nf := F) (cl := cl) (N := s) hM m43 s22 s27 s28 (by omega) (by omega) cm
  have fz := fun z (h1 : z ≠ m) (h2 : ∀ k ∈ DM, z ≠ A k) => nm_X8_tick (I := sI S) (m := m) (A := A) (nt := nt) (nf := F) (z := z) (fun k hk => h2 k (mem_sub k hk (by decide))) h1
  unfold mid8 at t1 t2
  dsimp only at t1 t2
  refine x_X8_tick (B := 40000) hM hnt (by omega) im m32 m39 ⟨by decide, fun e he => ?_⟩ fr t1 t2 (fun im' => ?_)
  · obtain ⟨n0, n1, h0, h1, h2⟩ := cm
    have q : e = 0 ∨ e = 1 := by omega
    rcases q with rfl | rfl
    · exact ⟨n0, by omega, h0⟩
    · exact ⟨n1, by omega, h1⟩
  clear t1 t2
  generalize (f_X8_tick (sI S) m A nt F).2 = r at im' ⊢
  generalize (f_X8_tick (sI S) m A nt F).1 = F' at nr tgE jk j42 jm fz im' ⊢
  generalize (f_X8_comes (sI S) m A nt F).1 = J1 at j42 cm'
  have len : nt' = ((TG (sI S) A nt).filter (nd cl) ++ new).length := by rw [← tgE]; unfold TG; simp
  have hnt' : nt' < 4001 := by
    rw [List.length_append] at len
    have q1 := List.length_filter_le (nd cl) (TG (sI S) A nt)
    have q2 : (TG (sI S) A nt).length = nt := by unfold TG; simp
    omega
  have tl : TL (wI S F') A nt' = (TL S A nt).filter (pD (nI cl)) ++ new.map pr4 := by
    rw [TL_TG, TL_TG]
    show (TG F' A nt').map pr4 = _
    rw [tgE, List.map_append, pr_flt]
  have nwl : NW (nI cl) (new.map pr4) := fun q hq => by
    obtain ⟨p, hp, rfl⟩ := List.mem_map.mp hq
    obtain ⟨x, c, hx, hc, lit, e11, q0, q1, q2, q3⟩ := nw p hp
    obtain ⟨c', hc', ec', uc'⟩ := ri.2.2.2.2 (x / 8) (x % 8) (by omega) (by omega) (Or.inl (by rw [show 8 * (x / 8) + x % 8 = x by omega]; exact lit))
    rw [show 8 * (x / 8) + x % 8 = x by omega, e11] at ec'
    have := nI_inj (by omega) (by omega) ec'
    subst this
    obtain ⟨d, d1, d2, ed⟩ := ri.2.2.1 c hc (ri.1 c hc uc')
    exact ⟨q3, d, d1, d2, by show p 2 = _; rw [q2, m43, ed]⟩
  refine K r F' nt' nr (fun t ht => ?_) ⟨⟨im', nr.2.2.2.2.2.1, nr.2.2.2.1.2.2, hnt', fun q hq => ?_⟩, (jm 39 (by decide) (by decide) (by decide) (by decide) (by decide) (by decide) (by decide)).trans m39, nr.2.2.2.1.2.1, ?_, s + (TG (sI S) A nt).countP (fDa cl), ?_, ?_⟩ fz (jm 0 (by decide) (by decide) (by decide) (by decide) (by decide) (by decide) (by decide))
  · have all : ∀ q ∈ TG F' A nt', ¬ q 3 = -1 → (q 3).toNatClampNeg < F := fun q hq => by
      rw [tgE] at hq
      rcases List.mem_append.mp hq with hq | hq
      · obtain ⟨u, hu, rfl⟩ := List.mem_map.mp (List.mem_filter.mp hq).1
        exact fr u (List.mem_range.mp hu)
      · obtain ⟨x, c, hx, hc, lit, e11, q0, q1, q2, q3⟩ := nw q hq
        exact fun z => absurd q3 z
    exact tg_mem all t ht
  · rw [TL_TG] at hq
    obtain ⟨p, hp, rfl⟩ := List.mem_map.mp hq
    obtain ⟨u, hu, rfl⟩ := List.mem_map.mp hp
    exact nr.2.2.2.2.2.2.2.2.2.1 u (List.mem_range.mp hu)
  · rw [tl]
    exact LV_tick lv (by omega) (by rw [List.length_map]; exact hnew) nwl
  · exact CMj_e cm' (fun j => j42 j) (Nat.le_refl _)
  · rw [tl, List.countP_append, NW_cnt nwl]
    have q1 := cnt_fD (nI cl) (TL S A nt)
    have q2 : (TL S A nt).countP (fD (nI cl)) = (TG (sI S) A nt).countP (fDa cl) := by rw [TL_TG]; exact pr_cnt
    omega
theorem itC_s {R : Nat → Nat → Option Nat} {b : Nat} : ∀ (n : Nat) (I : Mm), itC R b (n + 1) I = f_X7_runTick (itC R b n I) R b := by
  intro n
  induction n with
  | zero => intro I; rfl
  | succ n ih => intro I; exact ih (f_X7_runTick I R b)
theorem y_tc25 {Q : Option Value → MM → Prop} {S : MM} {b m n cl F : Nat} {A : Nat → Nat} {I : Mm} (hL : LY S b) (hO : OC S) (hM : MS S m A) (hF : F < 3000) (hcl : cl + n < 1000000000) (hn : n ≤ 1000) (l1 : ∀ j, j ≤ n → ∀ c e, c < 8 → e < 2 → ∃ n, n < 8 ∧ itC (sR S) b j I (Ln (sR S) b c e) 1 = nI n) (K : ∀ r F' nt', NRl (sR S) b m A (itC (sR S) b n I) F' (cl + n) nt' → FRj F' A nt' F → BI (wI S F') m A nt' F (cl + n) → (∀ z, z ≠ m → (∀ k ∈ DM, z ≠ A k) → F' z = sI S z) → Q (some (.int r)) (wI S F')) : ∀ (r i f nt : Nat) (lv : Lv) (G : Mm) (a : Int32), i + r = n → r + 2 ≤ f → lvg lv 0 = some (.ref m) → lvg lv 1 = some (.int (nI n)) → lvg lv 2 = some (.int a) → lvg lv 3 = some (.int (nI i)) → G m 0 = 0 → NRl (sR S) b m A (itC (sR S) b i I) G (cl + i) nt → FRj G A nt F → BI (wI S G) m A nt F (cl + i) → (∀ z, z ≠ m → (∀ k ∈ DM, z ≠ A k) → G z = sI S z) → wpn (kX8_tick_ Q) f 25 lv [] (wI S G) 0 0 := by
  intro r
  induction r with
  | zero =>
    intro i f nt lv G a hi hf l0 l1 l2 l3 t0 nr fr hB fz
    have e : i = n := by omega
    subst e
    obtain ⟨g, rfl⟩ : ∃ g, f = g + 2 := ⟨f - 2, by omega⟩
    refine u_X8_tick__25 ?_
    unfold bX8_tick__25
    exact e_ldI l3 (e_ldI l1 (e_ge (by omega) (by omega) (fun _ => q_tc50 l2 (K a G nt nr fr hB fz)) (fun h => absurd h (by omega))))
  | succ r ih =>
    intro i f nt lv G a hi hf l0 l1' l2 l3 t0 nr fr hB fz
    obtain ⟨g, rfl⟩ : ∃ g, f = g + 1 := ⟨f - 1, by omega⟩
    refine u_X8_tick__25 ?_
    unfold bX8_tick__25
    refine e_ldI l3 (e_ldI l1' (e_ge (by omega) (by omega) (fun h => absurd h (by omega)) (fun _ => e_ldA l0 (e_gV (v := 0) hM.1 t0 ⟨fun _ => ?_, fun z => absurd rfl z⟩))))
    refine e_ldI l2 (e_ldA l0 (And.intro hM.1 (And.intro ⟨by decide, by decide⟩ (x_tick1 (S := wI S G) (I := itC (sR S) b i I) hL hO hM (l1 i (by omega)) nr fr hB hF (by omega) (fun r1 G1 nt1 nr1 fr1 hB1 fz1 k0 => e_bopU (fun r2 => e_stI (e_inc (lvg_ne l3 rfl (by decide)) ?_)))))))
    refine ih (i + 1) g nt1 _ G1 r2 (by omega) (by omega) (lvg_ne (lvg_ne l0 rfl (by decide)) rfl (by decide)) (lvg_ne (lvg_ne l1' rfl (by decide)) rfl (by decide)) (lvg_ne lvg_self rfl (by decide)) lvg_self (k0.trans t0) ?_ fr1 hB1 (fun z h1 h2 => (fz1 z h1 h2).trans (fz z h1 h2))
    rw [itC_s]
    exact nr1
def TB (v : Int32) : Prop := v < 1 ∨ ¬ v ≤ 1000
theorem c_tick {Q : Option Value → MM → Prop} {X : String → MM → Prop} {S : MM} {b : Nat} {v : Int32} (hL : LY S b) (ir : IR S) (K1 : TB v → X eI S) (K : ∀ k, k ≤ 1000 → v = nI k → ¬ TB v → (∀ j, j ≤ k → IR (wI S (itC (sR S) b j (sI S)))) → ∀ r, Q (some (.int r)) (wI S (itC (sR S) b k (sI S)))) : wX7_tick [.ref b, .int v] S Q X := by
  have th : TB v → ∀ lv n, wpn (kX7_tick Q X) (n + 1) 12 lv [] S 0 0 := fun q lv n => And.intro ⟨by decide, by decide⟩ (K1 q)
  refine Exists.intro 1006 (u_X7_tick0 ?_)
  unfold bX7_tick_0
  refine e_ldI rfl (e_cI ⟨fun h => th (Or.inl h) _ _, fun h1 => e_ldI rfl (e_cI ⟨fun h2 => ?_, fun h => th (Or.inr h) _ _⟩)⟩)
  have n0 : ¬ v < 0 := fun z => h1 (by
    show v < 1
    rw [Int32.lt_iff_toInt_lt] at z ⊢
    have h3 : (0 : Int32).toInt = 0 := by decide
    have h4 : (1 : Int32).toInt = 1 := by decide
    omega)
  obtain ⟨n, hn, en⟩ := nn_nat n0
  subst en
  have hn2 : n ≤ 1000 := by
    have q := Int32.le_iff_toInt_le.mp (show nI n ≤ 1000 from h2)
    rw [nI_toInt (by omega), show (1000 : Int32).toInt = 1000 from by decide] at q
    omega
  exact y_tick22 hL (by omega) ir rfl rfl (by omega) (fun h => K n hn2 rfl (fun q => q.elim h1 (fun z => z h2)) h)
theorem c_Mtick {Q : Option Value → MM → Prop} {S : MM} {b m cl nt F : Nat} {A : Nat → Nat} {I : Mm} {v : Int32} (hL : LY S b) (hO : OC S) (hM : MS S m A) (im : IM S m A) (K1 : TB v → ∀ r S', SM [0] m A S S' → IM S' m A → Q (some (.int r)) S') (hF : F < 3000) (hcl : cl + 1000 < 1000000000) (h : ¬ TB v → ∃ n, n ≤ 1000 ∧ v = nI n ∧ (∀ j, j ≤ n → ∀ c e, c < 8 → e < 2 → ∃ n, n < 8 ∧ itC (sR S) b j I (Ln (sR S) b c e) 1 = nI n) ∧ NRl (sR S) b m A I (sI S) cl nt ∧ FRj (sI S) A nt F ∧ BI S m A nt F cl ∧ ∀ r F' nt', NRl (sR S) b m A (itC (sR S) b n I) F' (cl + n) nt' → FRj F' A nt' F → BI (wI S F') m A nt' F (cl + n) → (∀ z, z ≠ m → (∀ k ∈ DM, z ≠ A k) → F' z = sI S z) → Q (some (.int r)) (wI S F')) : wX8_tick_ [.ref m, .int v] S Q := by
  have bad : TB v → ∀ f, wpn (kX8_tick_ Q) (f + 4) 13 (lv_args 0 [.ref m, .int v]) [.ref m] S 0 0 := fun tb f => by
    refine u_X8_tick__13 ?_
    unfold bX8_tick__13
    refine e_cI (u_X8_tick__18 ?_)
    unfold bX8_tick__18
    refine y_mI (W := [0]) hM SM.rf im (by decide) (fun N e => nomatch (show (none : Option Nat) = some N from e)) (fun S1 he sh im1 => e_cN 0 rfl (e_stI (e_cN 0 rfl (e_stI (u_X8_tick__25 ?_)))))
    unfold bX8_tick__25
    refine e_ldI lvg_self (e_ldI (lvg_ne (lvg_ne rfl rfl (by decide)) rfl (by decide)) ⟨fun _ => q_tc50 (lvg_ne lvg_self rfl (by decide)) (K1 tb _ S1 sh im1), fun _ => ?_⟩)
    exact e_ldA (lvg_ne (lvg_ne rfl rfl (by decide)) rfl (by decide)) (e_gV (v := 1) (SM_k sh hM.1) (by rw [he]; exact rd_s) ⟨fun z => absurd z (by decide), fun _ => q_tc50 (lvg_ne lvg_self rfl (by decide)) (K1 tb _ S1 sh im1)⟩)
  refine Exists.intro 1100 (u_X8_tick__0 ?_)
  unfold bX8_tick__0
  refine e_ldA rfl (e_ldI rfl (e_cI ⟨fun h1 => bad (Or.inl h1) 1095, fun h1 => e_ldI rfl (e_cI ⟨fun h2 => u_X8_tick__17 ?_, fun h2 => bad (Or.inr h2) 1095⟩)⟩))
  have ntb : ¬ TB v := fun q => q.elim h1 (fun z => z h2)
  obtain ⟨n, hn2, en, l1, nr, fr, hB, K⟩ := h ntb
  subst en
  unfold bX8_tick__17
  refine e_cI (u_X8_tick__18 ?_)
  unfold bX8_tick__18
  refine e_mT hM im hM.1 (fun N e => nomatch (show (none : Option Nat) = some N from e)) (fun im1 => e_cN 0 rfl (e_stI (e_cN 0 rfl (e_stI ?_))))
  have hA := AD_of hM
  have kk : ∀ k j, dm k → (up2 (sI S) m 0 (0 : Int32)) (A k) j = sI S (A k) j := fun k j hk => mm_a hA hk
  have km : ∀ j, j ≠ 0 → (up2 (sI S) m 0 (0 : Int32)) m j = sI S m j := fun j hj => mm_j hj
  have s1 : SM [0] m A S (pI S m 0 0) := SM.wm SM.rf (by decide)
  have hB1 := BI_SM hB hM s1 im1 (by decide)
  exact y_tc25 (S := S) (n := n) (cl := cl) (F := F) (I := I) hL hO hM hF (by omega) hn2 l1 K n 0 1097 nt _ (up2 (sI S) m 0 0) _ (by omega) (by omega) (lvg_ne (lvg_ne rfl rfl (by decide)) rfl (by decide)) (lvg_ne (lvg_ne rfl rfl (by decide)) rfl (by decide)) (lvg_ne lvg_self rfl (by decide)) lvg_self (up2_self _ _ _ _) (NR_J nr kk km) (fun t ht => by rw [kk 30 t (by decide)]; exact fr t ht) hB1 (fun z h1 _ => up2_row h1)
