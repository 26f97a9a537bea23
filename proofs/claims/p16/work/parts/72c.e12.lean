/-! the class's tick of n ticks -/
def itC (R : Nat → Nat → Option Nat) (b : Nat) : Nat → (Nat → Nat → Int32) → (Nat → Nat → Int32)
  | 0, I => I
  | n + 1, I => itC R b n (f_X7_runTick I R b)
theorem y_tick44 {Q : Option Value → MM → Prop} {X : String → MM → Prop} {b : Nat} {k : Nat} (r : Nat) : ∀ {S : MM} {w2 : Int32} {i3 n : Nat} {lv : Lv} (hL : LY S b) (hk : k < 1001) (ir : IR S) (g0 : lvg lv 0 = some (.ref b)) (g1 : lvg lv 1 = some (.int (nI k))) (g2 : lvg lv 2 = some (.int w2)) (g3 : lvg lv 3 = some (.int (nI i3))) (hr : i3 + r = k) (hn : 2 + r * 1 ≤ n) (K : (∀ j, j ≤ r → IR (wI S (itC (sR S) b j (sI S)))) → ∀ v, Q (some (.int v)) (wI S (itC (sR S) b r (sI S)))), wpn (kX7_tick Q X) n 44 lv [] S 0 0 := by
  induction r with
  | zero =>
    intro S w2 i3 n lv hL hk ir g0 g1 g2 g3 hr hn K
    obtain ⟨d, rfl⟩ : ∃ d, n = d + 2 := ⟨n - 2, by omega⟩
    refine u_X7_tick_44 ?_
    unfold bX7_tick_44
    refine e_ldI g3 ?_
    refine e_ldI g1 ?_
    refine e_ge (by omega) (by omega) (fun _ => ?_) (fun z => absurd z (by omega))
    refine u_X7_tick_59 ?_
    unfold bX7_tick_59
    refine e_ldA g0 ?_
    refine e_gR hL.2 (ly_ea hL).1 ?_
    refine e_cN 0 rfl ?_
    refine e_aR (N := 2) (ly_ea hL).2.1 (ly_ea hL).2.2 (by omega) (by decide) (ly_E hL (by omega)).1 ?_
    refine e_gE (ly_E hL (by omega)).2.1 ?_
    refine e_ldA g0 ?_
    refine e_gR hL.2 (ly_ea hL).1 ?_
    refine e_cN 1 rfl ?_
    refine e_aR (N := 2) (ly_ea hL).2.1 (ly_ea hL).2.2 (by omega) (by decide) (ly_E hL (by omega)).1 ?_
    refine e_gE (ly_E hL (by omega)).2.1 ?_
    refine e_bopE ?_
    refine e_ldI g2 ?_
    refine e_bopE ?_
    exact e_rI (K (fun j hj => by
      have e : j = 0 := by omega
      subst e
      exact ir) _)
  | succ r ih =>
    intro S w2 i3 n lv hL hk ir g0 g1 g2 g3 hr hn K
    obtain ⟨d, hd, rfl⟩ : ∃ d, 2 + r * 1 ≤ d ∧ n = d + 1 := ⟨n - 1, by omega, by omega⟩
    refine u_X7_tick_44 ?_
    unfold bX7_tick_44
    refine e_ldI g3 ?_
    refine e_ldI g1 ?_
    refine e_ge (by omega) (by omega) (fun z => absurd z (by omega)) (fun _ => ?_)
    refine e_ldA g0 ?_
    refine And.intro hL.2 (And.intro ⟨by decide, by decide⟩ (x_X7_runTick hL ir (fun ir1 => ?_)))
    have K2 : (∀ j, j ≤ r → IR (wI S (itC (sR S) b j (f_X7_runTick (sI S) (sR S) b)))) → ∀ v, Q (some (.int v)) (wI S (itC (sR S) b r (f_X7_runTick (sI S) (sR S) b))) := fun h => K (fun j hj => by
      cases j with
      | zero => exact ir
      | succ j => exact h j (by omega))
    clear K
    generalize f_X7_runTick (sI S) (sR S) b = F1 at ir1 K2 ⊢
    refine e_inc g3 ?_
    exact ih (S := wI S F1) (LY_w hL) hk ir1 (lvg_ne g0 rfl (by decide)) (lvg_ne g1 rfl (by decide)) (lvg_ne g2 rfl (by decide)) lvg_self (by omega) (by omega) K2
theorem y_tick22 {Q : Option Value → MM → Prop} {X : String → MM → Prop} {S : MM} {b : Nat} {k : Nat} {n : Nat} {lv : Lv} (hL : LY S b) (hk : k < 1001) (ir : IR S) (g0 : lvg lv 0 = some (.ref b)) (g1 : lvg lv 1 = some (.int (nI k))) (hn : 1004 ≤ n) (K : (∀ j, j ≤ k → IR (wI S (itC (sR S) b j (sI S)))) → ∀ v, Q (some (.int v)) (wI S (itC (sR S) b k (sI S)))) : wpn (kX7_tick Q X) n 22 lv [] S 0 0 := by
  obtain ⟨d, rfl⟩ : ∃ d, n = d + 1004 := ⟨n - 1004, by omega⟩
  refine u_X7_tick_22 ?_
  unfold bX7_tick_22
  refine e_ldA g0 ?_
  refine e_gR hL.2 (ly_ea hL).1 ?_
  refine e_cN 0 rfl ?_
  refine e_aR (N := 2) (ly_ea hL).2.1 (ly_ea hL).2.2 (by omega) (by decide) (ly_E hL (by omega)).1 ?_
  refine e_gE (ly_E hL (by omega)).2.1 ?_
  refine e_ldA g0 ?_
  refine e_gR hL.2 (ly_ea hL).1 ?_
  refine e_cN 1 rfl ?_
  refine e_aR (N := 2) (ly_ea hL).2.1 (ly_ea hL).2.2 (by omega) (by decide) (ly_E hL (by omega)).1 ?_
  refine e_gE (ly_E hL (by omega)).2.1 ?_
  refine e_bopE ?_
  refine e_stI ?_
  refine e_cN 0 rfl ?_
  refine e_stI ?_
  exact y_tick44 k hL hk ir (lvg_ne (lvg_ne g0 rfl (by decide)) rfl (by decide)) (lvg_ne (lvg_ne g1 rfl (by decide)) rfl (by decide)) (lvg_ne lvg_self rfl (by decide)) lvg_self (by omega) (by omega) K
