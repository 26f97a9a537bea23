def g_X7_switchOn_7 (R : Nat → Nat → Option Nat) (b : Nat) (c : Nat) : Nat → Nat → (Nat → Nat → Int32) → (Nat → Nat → Int32)
  | 0, i2, I => I
  | r + 1, i2, I => let I2 := f_X5_becomeLit I ((R (ppd R b c) i2).getD 0) ((R ((R (ppd R b c) i2).getD 0) 1).getD 0); g_X7_switchOn_7 R b c r (i2 + 1)  I2 
theorem y_X7_switchOn_7 {Q : Option Value → MM → Prop} {b : Nat} {c : Nat}  (r : Nat) : ∀ {S : MM}   {i2 n : Nat} {lv : Lv} (hL : LY S b) (hc : c < 8) (plc : plg (sR S) b c) (ir : IR S)   (g1 : lvg lv 1 = some (.ref (Cb (sR S) b c))) (g2 : lvg lv 2 = some (.int (nI i2)))    (hr : i2 + r = 2) (hn : 2 + r * 1 ≤ n) (K : KVC Q S (g_X7_switchOn_7 (sR S) b c r i2  (sI S) )), wpn (kX7_switchOn Q) n 7 lv [] S 0 0 := by
  induction r with
  | zero =>
    intro S   i2 n lv hL hc plc ir   g1 g2    hr hn K
    obtain ⟨d, rfl⟩ : ∃ d, n = d + 2 := ⟨n - 2, by omega⟩
    unfold g_X7_switchOn_7 at K
    refine u_X7_switchOn_7 ?_
    unfold bX7_switchOn_7
    refine e_ldI g2 ?_
    refine e_cN 2 rfl ?_
    refine e_ge (by omega) (by omega) (fun _ => ?_) (fun z => absurd z (by omega))
    refine u_X7_switchOn_27 ?_
    unfold bX7_switchOn_27
    exact e_rV (K ir)
  | succ r ih =>
    intro S   i2 n lv hL hc plc ir   g1 g2    hr hn K
    obtain ⟨d, hd, rfl⟩ : ∃ d, 2 + r * 1 ≤ d ∧ n = d + 1 := ⟨n - 1, by omega, by omega⟩
    unfold g_X7_switchOn_7 at K
    refine u_X7_switchOn_7 ?_
    unfold bX7_switchOn_7
    refine e_ldI g2 ?_
    refine e_cN 2 rfl ?_
    refine e_ge (by omega) (by omega) (fun z => absurd z (by omega)) (fun _ => ?_)
    refine e_ldA g1 ?_
    refine e_gR (ly_C hL hc).2.1 (ly_pp hL (by omega)).1 ?_
    refine e_ldI g2 ?_
    refine e_aR (N := 2) (ly_pp hL (by omega)).2.1 (ly_pp hL (by omega)).2.2 (by omega) (by decide) (opt_get (plg_i plc (by omega))) ?_
    refine And.intro (ly_nn hL.1 (ly_pp hL (by omega)).2.1 rfl (plg_i plc (by omega))) (And.intro ⟨by decide, by decide⟩ (x_X5_becomeLit (ly_nn hL.1 (ly_pp hL (by omega)).2.1 rfl (plg_i plc (by omega))) (ly_f hL.1 (ly_nn hL.1 (ly_pp hL (by omega)).2.1 rfl (plg_i plc (by omega))) (show rf 6 1 = some (7, 0) from rfl)).2.1 (ly_f hL.1 (ly_nn hL.1 (ly_pp hL (by omega)).2.1 rfl (plg_i plc (by omega))) (show rf 6 1 = some (7, 0) from rfl)).1 ir (fun ir1 => ?_)))
    refine e_inc g2 ?_
    exact ih hL hc plc ir1   (lvg_ne g1 rfl (by decide)) lvg_self    (by omega) (by omega) K
def f_X7_switchOn (I : Nat → Nat → Int32) (R : Nat → Nat → Option Nat) (b : Nat) (c : Nat) : Nat → Nat → Int32 := let I2 := up2 I (Cb R b c) 3 (nI 1); g_X7_switchOn_7 R b c 2 0  I2 
theorem x_X7_switchOn {Q : Option Value → MM → Prop} {S : MM} {b : Nat} {c : Nat} (hL : LY S b) (hc : c < 8) (plc : plg (sR S) b c) (ir : IR S)   (K : KVC Q S (f_X7_switchOn (sI S) (sR S) b c)) : wX7_switchOn [.ref b, .ref (Cb (sR S) b c)] S Q := by
  unfold f_X7_switchOn at K
  refine Exists.intro 5 (u_X7_switchOn_0 ?_)
  unfold bX7_switchOn_0
  refine e_ldA rfl ?_
  refine e_cN 1 rfl ?_
  refine e_tZJ (ly_C hL hc).2.1 (Or.inr rfl) ir (fun N e => nomatch (show (none : Option Nat) = some N from e)) (fun ir1 => ?_)
  refine e_cN 0 rfl ?_
  refine e_stI ?_
  exact y_X7_switchOn_7 2 hL hc plc ir1   (lvg_ne rfl rfl (by decide)) lvg_self    (by omega) (by omega) K
def g_X7_switchOff_7 (R : Nat → Nat → Option Nat) (b : Nat) (c : Nat) : Nat → Nat → (Nat → Nat → Int32) → (Nat → Nat → Int32)
  | 0, i2, I => I
  | r + 1, i2, I => let I3 := up2 I b 5 ((I b 5) + (nI (I (Ln R b c i2) 5).toNatClampNeg)); let I5 := f_X3_clear I3 R b c i2; let I7 := f_X1_moveTo I5 (En R b i2) ((R (ppd R b c) i2).getD 0) ((R ((R (ppd R b c) i2).getD 0) 0).getD 0) (nI 0); let I9 := f_X5_becomeDark I7 ((R (ppd R b c) i2).getD 0) ((R ((R (ppd R b c) i2).getD 0) 1).getD 0); g_X7_switchOff_7 R b c r (i2 + 1)  I9 
theorem y_X7_switchOff_7 {Q : Option Value → MM → Prop} {b : Nat} {c : Nat}  (r : Nat) : ∀ {S : MM}   {i2 n : Nat} {lv : Lv} (hL : LY S b) (hc : c < 8) (plc : plg (sR S) b c) (ir : IR S)   (g0 : lvg lv 0 = some (.ref b)) (g1 : lvg lv 1 = some (.ref (Cb (sR S) b c))) (g2 : lvg lv 2 = some (.int (nI i2)))    (hr : i2 + r = 2) (hn : 2 + r * 1 ≤ n) (K : KVC Q S (g_X7_switchOff_7 (sR S) b c r i2  (sI S) )), wpn (kX7_switchOff Q) n 7 lv [] S 0 0 := by
  induction r with
  | zero =>
    intro S   i2 n lv hL hc plc ir   g0 g1 g2    hr hn K
    obtain ⟨d, rfl⟩ : ∃ d, n = d + 2 := ⟨n - 2, by omega⟩
    unfold g_X7_switchOff_7 at K
    refine u_X7_switchOff_7 ?_
    unfold bX7_switchOff_7
    refine e_ldI g2 ?_
    refine e_cN 2 rfl ?_
    refine e_ge (by omega) (by omega) (fun _ => ?_) (fun z => absurd z (by omega))
    refine u_X7_switchOff_70 ?_
    unfold bX7_switchOff_70
    exact e_rV (K ir)
  | succ r ih =>
    intro S   i2 n lv hL hc plc ir   g0 g1 g2    hr hn K
    obtain ⟨d, hd, rfl⟩ : ∃ d, 2 + r * 1 ≤ d ∧ n = d + 1 := ⟨n - 1, by omega, by omega⟩
    unfold g_X7_switchOff_7 at K
    refine u_X7_switchOff_7 ?_
    unfold bX7_switchOff_7
    refine e_ldI g2 ?_
    refine e_cN 2 rfl ?_
    refine e_ge (by omega) (by omega) (fun z => absurd z (by omega)) (fun _ => ?_)
    refine e_ldA g0 ?_
    refine e_duA ?_
    refine e_gE hL.2 ?_
    refine e_ldA g1 ?_
    refine e_gR (ly_C hL hc).2.1 (ly_la hL (by omega)).1 ?_
    refine e_ldI g2 ?_
    refine e_aR (N := 2) (ly_la hL (by omega)).2.1 (ly_la hL (by omega)).2.2 (by omega) (by decide) (ly_N hL (by omega) (by omega)).1 ?_
    have q1 := ir_n ir (ly_N hL (by omega) (by omega)).2.1 (show rg 4 5 = some 201 from rfl)
    have hq1 := q1.2
    refine e_gV (ly_N hL (by omega) (by omega)).2.1 q1.1 ?_
    refine e_bopE ?_
    refine e_tJ hL.2 ir (fun N e => nomatch (show (none : Option Nat) = some N from e)) (fun ir2 => ?_)
    refine e_ldA g1 ?_
    refine e_gR (ly_C hL hc).2.1 (ly_la hL (by omega)).1 ?_
    refine e_ldI g2 ?_
    refine e_aR (N := 2) (ly_la hL (by omega)).2.1 (ly_la hL (by omega)).2.2 (by omega) (by decide) (ly_N hL (by omega) (by omega)).1 ?_
    refine And.intro (ly_N hL (by omega) (by omega)).2.1 (And.intro ⟨by decide, by decide⟩ (x_X3_clear (S := pI S b 5 (sI S b 5 + nI (sI S (Ln (sR S) b c i2) 5).toNatClampNeg)) hL (by omega) (by omega) ir2 (fun ir4 => ?_)))
    refine e_ldA g0 ?_
    refine e_gR hL.2 (ly_ea hL).1 ?_
    refine e_ldI g2 ?_
    refine e_aR (N := 2) (ly_ea hL).2.1 (ly_ea hL).2.2 (by omega) (by decide) (ly_E hL (by omega)).1 ?_
    refine e_ldA g1 ?_
    refine e_gR (ly_C hL hc).2.1 (ly_pp hL (by omega)).1 ?_
    refine e_ldI g2 ?_
    refine e_aR (N := 2) (ly_pp hL (by omega)).2.1 (ly_pp hL (by omega)).2.2 (by omega) (by decide) (opt_get (plg_i plc (by omega))) ?_
    refine e_cN 0 rfl ?_
    refine And.intro (ly_E hL (by omega)).2.1 (And.intro ⟨by decide, by decide⟩ (x_X1_moveTo (ly_E hL (by omega)).2.1 (ly_nn hL.1 (ly_pp hL (by omega)).2.1 rfl (plg_i plc (by omega))) (ly_f hL.1 (ly_nn hL.1 (ly_pp hL (by omega)).2.1 rfl (plg_i plc (by omega))) (show rf 6 0 = some (7, 0) from rfl)).2.1 (ly_f hL.1 (ly_nn hL.1 (ly_pp hL (by omega)).2.1 rfl (plg_i plc (by omega))) (show rf 6 0 = some (7, 0) from rfl)).1 ir4 (fun ir6 => ?_)))
    refine e_ldA g1 ?_
    refine e_gR (ly_C hL hc).2.1 (ly_pp hL (by omega)).1 ?_
    refine e_ldI g2 ?_
    refine e_aR (N := 2) (ly_pp hL (by omega)).2.1 (ly_pp hL (by omega)).2.2 (by omega) (by decide) (opt_get (plg_i plc (by omega))) ?_
    refine And.intro (ly_nn hL.1 (ly_pp hL (by omega)).2.1 rfl (plg_i plc (by omega))) (And.intro ⟨by decide, by decide⟩ (x_X5_becomeDark (ly_nn hL.1 (ly_pp hL (by omega)).2.1 rfl (plg_i plc (by omega))) (ly_f hL.1 (ly_nn hL.1 (ly_pp hL (by omega)).2.1 rfl (plg_i plc (by omega))) (show rf 6 1 = some (7, 0) from rfl)).2.1 (ly_f hL.1 (ly_nn hL.1 (ly_pp hL (by omega)).2.1 rfl (plg_i plc (by omega))) (show rf 6 1 = some (7, 0) from rfl)).1 ir6 (fun ir8 => ?_)))
    refine e_inc g2 ?_
    exact ih hL hc plc ir8   (lvg_ne g0 rfl (by decide)) (lvg_ne g1 rfl (by decide)) lvg_self    (by omega) (by omega) K
def f_X7_switchOff (I : Nat → Nat → Int32) (R : Nat → Nat → Option Nat) (b : Nat) (c : Nat) : Nat → Nat → Int32 := let I2 := up2 I (Cb R b c) 3 (nI 0); g_X7_switchOff_7 R b c 2 0  I2 
theorem x_X7_switchOff {Q : Option Value → MM → Prop} {S : MM} {b : Nat} {c : Nat} (hL : LY S b) (hc : c < 8) (plc : plg (sR S) b c) (ir : IR S)   (K : KVC Q S (f_X7_switchOff (sI S) (sR S) b c)) : wX7_switchOff [.ref b, .ref (Cb (sR S) b c)] S Q := by
  unfold f_X7_switchOff at K
  refine Exists.intro 5 (u_X7_switchOff_0 ?_)
  unfold bX7_switchOff_0
  refine e_ldA rfl ?_
  refine e_cN 0 rfl ?_
  refine e_tZJ (ly_C hL hc).2.1 (Or.inl rfl) ir (fun N e => nomatch (show (none : Option Nat) = some N from e)) (fun ir1 => ?_)
  refine e_cN 0 rfl ?_
  refine e_stI ?_
  exact y_X7_switchOff_7 2 hL hc plc ir1   (lvg_ne rfl rfl (by decide)) (lvg_ne rfl rfl (by decide)) lvg_self    (by omega) (by omega) K
def g_X7_system_53 (I : Nat → Nat → Int32) (R : Nat → Nat → Option Nat) (b : Nat) (e : Nat) (v : Int32)  (w2 : Int32) : (Nat → Nat → Int32) × Int32 := let I2 := f_X1_rename I R b e w2; let I4 := f_X7_noteChange I2 R b; (I4, (I (En R b e) 1))
theorem y_X7_system_53 {Q : Option Value → MM → Prop} {X : String → MM → Prop} {S : MM} {b : Nat} {e : Nat} {v : Int32}  {w2 : Int32} {n : Nat} {lv : Lv} (hL : LY S b) (he : e < 2) (ir : IR S)   (g0 : lvg lv 0 = some (.ref b)) (g1 : lvg lv 1 = some (.int (nI e))) (g2 : lvg lv 2 = some (.int w2))  (hn : 1 ≤ n) (K : KBC Q S (g_X7_system_53 (sI S) (sR S) b e v  w2)) : wpn (kX7_system Q X) n 53 lv [] S 0 0 := by
  obtain ⟨d, rfl⟩ : ∃ d, n = d + 1 := ⟨n - 1, by omega⟩
  unfold g_X7_system_53 at K
  refine u_X7_system_53 ?_
  unfold bX7_system_53
  refine e_ldA g0 ?_
  refine e_gR hL.2 (ly_ea hL).1 ?_
  refine e_ldI g1 ?_
  refine e_aR (N := 2) (ly_ea hL).2.1 (ly_ea hL).2.2 (by omega) (by decide) (ly_E hL (by omega)).1 ?_
  refine e_gE (ly_E hL (by omega)).2.1 ?_
  refine e_stI ?_
  refine e_ldA (lvg_ne g0 rfl (by decide)) ?_
  refine e_gR hL.2 (ly_ea hL).1 ?_
  refine e_ldI (lvg_ne g1 rfl (by decide)) ?_
  refine e_aR (N := 2) (ly_ea hL).2.1 (ly_ea hL).2.2 (by omega) (by decide) (ly_E hL (by omega)).1 ?_
  refine e_ldI (lvg_ne g2 rfl (by decide)) ?_
  refine And.intro (ly_E hL (by omega)).2.1 (And.intro ⟨by decide, by decide⟩ (x_X1_rename hL (by omega) ir (fun ir1 => ?_)))
  refine e_ldA (lvg_ne g0 rfl (by decide)) ?_
  refine And.intro hL.2 (And.intro ⟨by decide, by decide⟩ (x_X7_noteChange hL ir1 (fun ir3 => ?_)))
  refine e_ldI lvg_self ?_
  exact e_rI (K ir3)
def g_X7_limit_28 (I : Nat → Nat → Int32) (R : Nat → Nat → Option Nat) (b : Nat) (e : Nat) (v : Int32)  (w2 : Int32) : (Nat → Nat → Int32) × Int32 := let I2 := up2 I (En R b e) 2 w2; let I4 := f_X7_noteChange I2 R b; (I4, (I (En R b e) 2))
theorem y_X7_limit_28 {Q : Option Value → MM → Prop} {X : String → MM → Prop} {S : MM} {b : Nat} {e : Nat} {v : Int32}  {w2 : Int32} {n : Nat} {lv : Lv} (hL : LY S b) (he : e < 2) (ir : IR S)   (g0 : lvg lv 0 = some (.ref b)) (g1 : lvg lv 1 = some (.int (nI e))) (g2 : lvg lv 2 = some (.int w2))  (hn : 1 ≤ n) (K : KBC Q S (g_X7_limit_28 (sI S) (sR S) b e v  w2)) : wpn (kX7_limit Q X) n 28 lv [] S 0 0 := by
  obtain ⟨d, rfl⟩ : ∃ d, n = d + 1 := ⟨n - 1, by omega⟩
  unfold g_X7_limit_28 at K
  refine u_X7_limit_28 ?_
  unfold bX7_limit_28
  refine e_ldA g0 ?_
  refine e_gR hL.2 (ly_ea hL).1 ?_
  refine e_ldI g1 ?_
  refine e_aR (N := 2) (ly_ea hL).2.1 (ly_ea hL).2.2 (by omega) (by decide) (ly_E hL (by omega)).1 ?_
  refine e_gE (ly_E hL (by omega)).2.1 ?_
  refine e_stI ?_
  refine e_ldA (lvg_ne g0 rfl (by decide)) ?_
  refine e_gR hL.2 (ly_ea hL).1 ?_
  refine e_ldI (lvg_ne g1 rfl (by decide)) ?_
  refine e_aR (N := 2) (ly_ea hL).2.1 (ly_ea hL).2.2 (by omega) (by decide) (ly_E hL (by omega)).1 ?_
  refine e_ldI (lvg_ne g2 rfl (by decide)) ?_
  refine e_tJ (ly_E hL (by omega)).2.1 ir (fun N e => nomatch (show (none : Option Nat) = some N from e)) (fun ir1 => ?_)
  refine e_ldA (lvg_ne g0 rfl (by decide)) ?_
  refine And.intro hL.2 (And.intro ⟨by decide, by decide⟩ (x_X7_noteChange hL ir1 (fun ir3 => ?_)))
  refine e_ldI lvg_self ?_
  exact e_rI (K ir3)
def g_X7_port_39 (I : Nat → Nat → Int32) (R : Nat → Nat → Option Nat) (b : Nat) (e : Nat) (x : Nat) (v : Int32) (w : Int32)  (w3 : Int32) (w4 : Int32) : Nat → Nat → Int32 := let I2 := up2 I (Ow R b e x) 1 w3; let I4 := up2 I2 (Ow R b e x) 2 w4; if w3 ≤ 0 then (let I7 := f_X6_setBits I4 (Ow R b e x) (nI 4) (nI 0); let I9 := f_X7_noteChange I7 R b; I9) else (let I11 := f_X6_setBits I4 (Ow R b e x) (nI 4) (nI 1); let I13 := f_X7_noteChange I11 R b; I13)
theorem y_X7_port_39 {Q : Option Value → MM → Prop} {X : String → MM → Prop} {S : MM} {b : Nat} {e : Nat} {x : Nat} {v : Int32} {w : Int32}  {w3 : Int32} {w4 : Int32} {n : Nat} {lv : Lv} (hL : LY S b) (he : e < 2) (hx : x < 8) (ir : IR S)   (g0 : lvg lv 0 = some (.ref b)) (g1 : lvg lv 1 = some (.int (nI e))) (g2 : lvg lv 2 = some (.int (nI x))) (g3 : lvg lv 3 = some (.int w3)) (g4 : lvg lv 4 = some (.int w4))  (hn : 3 ≤ n) (K : KVC Q S (g_X7_port_39 (sI S) (sR S) b e x v w  w3 w4)) : wpn (kX7_port Q X) n 39 lv [] S 0 0 := by
  obtain ⟨d, rfl⟩ : ∃ d, n = d + 3 := ⟨n - 3, by omega⟩
  unfold g_X7_port_39 at K
  refine u_X7_port_39 ?_
  unfold bX7_port_39
  refine e_ldA g0 ?_
  refine e_gR hL.2 (ly_ea hL).1 ?_
  refine e_ldI g1 ?_
  refine e_aR (N := 2) (ly_ea hL).2.1 (ly_ea hL).2.2 (by omega) (by decide) (ly_E hL (by omega)).1 ?_
  refine e_gR (ly_E hL (by omega)).2.1 (ly_pa hL (by omega)).1 ?_
  refine e_ldI g2 ?_
  refine e_aR (N := 8) (ly_pa hL (by omega)).2.1 (ly_pa hL (by omega)).2.2 (by omega) (by decide) (ly_P hL (by omega) (by omega)).1 ?_
  refine e_gR (ly_P hL (by omega) (by omega)).2.1 (ly_O hL (by omega) (by omega)).1 ?_
  refine e_stA ?_
  refine e_ldA lvg_self ?_
  refine e_ldI (lvg_ne g3 rfl (by decide)) ?_
  refine e_tJ (ly_O hL (by omega) (by omega)).2.1 ir (fun N e => nomatch (show (none : Option Nat) = some N from e)) (fun ir1 => ?_)
  refine e_ldA lvg_self ?_
  refine e_ldI (lvg_ne g4 rfl (by decide)) ?_
  refine e_tJ (ly_O hL (by omega) (by omega)).2.1 ir1 (fun N e => nomatch (show (none : Option Nat) = some N from e)) (fun ir3 => ?_)
  refine e_ldA lvg_self ?_
  refine e_cN 4 rfl ?_
  refine e_ldI (lvg_ne g3 rfl (by decide)) ?_
  refine ⟨fun h5 => ?_, fun h5 => ?_⟩
  · replace K := kx_p h5 K
    refine u_X7_port_79 ?_
    unfold bX7_port_79
    refine e_cN 0 rfl ?_
    refine u_X7_port_80 ?_
    unfold bX7_port_80
    refine And.intro (ly_O hL (by omega) (by omega)).2.1 (And.intro ⟨by decide, by decide⟩ (x_X6_setBits (ly_O hL (by omega) (by omega)).2.1 ir3 (fun ir6 => ?_)))
    refine e_ldA (lvg_ne g0 rfl (by decide)) ?_
    refine And.intro hL.2 (And.intro ⟨by decide, by decide⟩ (x_X7_noteChange hL ir6 (fun ir8 => ?_)))
    exact e_rV (K ir8)
  · replace K := kx_n h5 K
    refine e_cN 1 rfl ?_
    refine u_X7_port_80 ?_
    unfold bX7_port_80
    refine And.intro (ly_O hL (by omega) (by omega)).2.1 (And.intro ⟨by decide, by decide⟩ (x_X6_setBits (ly_O hL (by omega) (by omega)).2.1 ir3 (fun ir10 => ?_)))
    refine e_ldA (lvg_ne g0 rfl (by decide)) ?_
    refine And.intro hL.2 (And.intro ⟨by decide, by decide⟩ (x_X7_noteChange hL ir10 (fun ir12 => ?_)))
    exact e_rV (K ir12)
def g_X7_manner_24 (I : Nat → Nat → Int32) (R : Nat → Nat → Option Nat) (b : Nat) (e : Nat) (x : Nat) (v : Int32) (w : Int32)  (w3 : Int32) (w4 : Int32) : Nat → Nat → Int32 := let I2 := f_X6_setBits I (Ow R b e x) (nI 1) w3; let I4 := f_X6_setBits I2 (Ow R b e x) (nI 2) w4; let I6 := f_X7_noteChange I4 R b; I6
theorem y_X7_manner_24 {Q : Option Value → MM → Prop} {X : String → MM → Prop} {S : MM} {b : Nat} {e : Nat} {x : Nat} {v : Int32} {w : Int32}  {w3 : Int32} {w4 : Int32} {n : Nat} {lv : Lv} (hL : LY S b) (he : e < 2) (hx : x < 8) (ir : IR S)   (g0 : lvg lv 0 = some (.ref b)) (g1 : lvg lv 1 = some (.int (nI e))) (g2 : lvg lv 2 = some (.int (nI x))) (g3 : lvg lv 3 = some (.int w3)) (g4 : lvg lv 4 = some (.int w4))  (hn : 1 ≤ n) (K : KVC Q S (g_X7_manner_24 (sI S) (sR S) b e x v w  w3 w4)) : wpn (kX7_manner Q X) n 24 lv [] S 0 0 := by
  obtain ⟨d, rfl⟩ : ∃ d, n = d + 1 := ⟨n - 1, by omega⟩
  unfold g_X7_manner_24 at K
  refine u_X7_manner_24 ?_
  unfold bX7_manner_24
  refine e_ldA g0 ?_
  refine e_gR hL.2 (ly_ea hL).1 ?_
  refine e_ldI g1 ?_
  refine e_aR (N := 2) (ly_ea hL).2.1 (ly_ea hL).2.2 (by omega) (by decide) (ly_E hL (by omega)).1 ?_
  refine e_gR (ly_E hL (by omega)).2.1 (ly_pa hL (by omega)).1 ?_
  refine e_ldI g2 ?_
  refine e_aR (N := 8) (ly_pa hL (by omega)).2.1 (ly_pa hL (by omega)).2.2 (by omega) (by decide) (ly_P hL (by omega) (by omega)).1 ?_
  refine e_gR (ly_P hL (by omega) (by omega)).2.1 (ly_O hL (by omega) (by omega)).1 ?_
  refine e_stA ?_
  refine e_ldA lvg_self ?_
  refine e_cN 1 rfl ?_
  refine e_ldI (lvg_ne g3 rfl (by decide)) ?_
  refine And.intro (ly_O hL (by omega) (by omega)).2.1 (And.intro ⟨by decide, by decide⟩ (x_X6_setBits (ly_O hL (by omega) (by omega)).2.1 ir (fun ir1 => ?_)))
  refine e_ldA lvg_self ?_
  refine e_cN 2 rfl ?_
  refine e_ldI (lvg_ne g4 rfl (by decide)) ?_
  refine And.intro (ly_O hL (by omega) (by omega)).2.1 (And.intro ⟨by decide, by decide⟩ (x_X6_setBits (ly_O hL (by omega) (by omega)).2.1 ir1 (fun ir3 => ?_)))
  refine e_ldA (lvg_ne g0 rfl (by decide)) ?_
  refine And.intro hL.2 (And.intro ⟨by decide, by decide⟩ (x_X7_noteChange hL ir3 (fun ir5 => ?_)))
  exact e_rV (K ir5)
def g_X7_lose_34 (I : Nat → Nat → Int32) (R : Nat → Nat → Option Nat) (b : Nat) (e : Nat) (c : Nat) (v : Int32)  (w3 : Int32) : Nat → Nat → Int32 := let I2 := up2 I (Ln R b c e) 6 w3; let I4 := f_X7_noteChange I2 R b; I4
theorem y_X7_lose_34 {Q : Option Value → MM → Prop} {X : String → MM → Prop} {S : MM} {b : Nat} {e : Nat} {c : Nat} {v : Int32}  {w3 : Int32} {n : Nat} {lv : Lv} (hL : LY S b) (he : e < 2) (hc : c < 8) (ir : IR S)   (g0 : lvg lv 0 = some (.ref b)) (g1 : lvg lv 1 = some (.int (nI e))) (g2 : lvg lv 2 = some (.int (nI c))) (g3 : lvg lv 3 = some (.int w3))  (hn : 1 ≤ n) (K : KVC Q S (g_X7_lose_34 (sI S) (sR S) b e c v  w3)) : wpn (kX7_lose Q X) n 34 lv [] S 0 0 := by
  obtain ⟨d, rfl⟩ : ∃ d, n = d + 1 := ⟨n - 1, by omega⟩
  unfold g_X7_lose_34 at K
  refine u_X7_lose_34 ?_
  unfold bX7_lose_34
  refine e_ldA g0 ?_
  refine e_gR hL.2 (ly_ca hL).1 ?_
  refine e_ldI g2 ?_
  refine e_aR (N := 8) (ly_ca hL).2.1 (ly_ca hL).2.2 (by omega) (by decide) (ly_C hL (by omega)).1 ?_
  refine e_gR (ly_C hL (by omega)).2.1 (ly_la hL (by omega)).1 ?_
  refine e_ldI g1 ?_
  refine e_aR (N := 2) (ly_la hL (by omega)).2.1 (ly_la hL (by omega)).2.2 (by omega) (by decide) (ly_N hL (by omega) (by omega)).1 ?_
  refine e_ldI g3 ?_
  refine e_tJ (ly_N hL (by omega) (by omega)).2.1 ir (fun N e => nomatch (show (none : Option Nat) = some N from e)) (fun ir1 => ?_)
  refine e_ldA g0 ?_
  refine And.intro hL.2 (And.intro ⟨by decide, by decide⟩ (x_X7_noteChange hL ir1 (fun ir3 => ?_)))
  exact e_rV (K ir3)
def g_X7_light_49 (I : Nat → Nat → Int32) (R : Nat → Nat → Option Nat) (b : Nat) (u : Nat) (c : Nat)   : Nat → Nat → Int32 := if u = 0 then (let I3 := f_X7_switchOff I R b c; let I5 := f_X7_noteChange I3 R b; I5) else (let I7 := f_X7_switchOn I R b c; let I9 := f_X7_noteChange I7 R b; I9)
theorem y_X7_light_49 {Q : Option Value → MM → Prop} {X : String → MM → Prop} {S : MM} {b : Nat} {u : Nat} {c : Nat}   {n : Nat} {lv : Lv} (hL : LY S b) (hu : u < 2) (hc : c < 8) (plc : plg (sR S) b c) (ir : IR S)   (g0 : lvg lv 0 = some (.ref b)) (g2 : lvg lv 2 = some (.int (nI u))) (g3 : lvg lv 3 = some (.ref (Cb (sR S) b c)))  (hn : 3 ≤ n) (K : KVC Q S (g_X7_light_49 (sI S) (sR S) b u c  )) : wpn (kX7_light Q X) n 49 lv [] S 0 0 := by
  obtain ⟨d, rfl⟩ : ∃ d, n = d + 3 := ⟨n - 3, by omega⟩
  unfold g_X7_light_49 at K
  refine u_X7_light_49 ?_
  unfold bX7_light_49
  refine e_ldI g2 ?_
  refine e_ifN (by omega) (fun h1 => ?_) (fun h1 => ?_)
  · replace K := kx_p h1 K
    refine u_X7_light_61 ?_
    unfold bX7_light_61
    refine e_ldA g0 ?_
    refine e_ldA g3 ?_
    refine And.intro hL.2 (And.intro ⟨by decide, by decide⟩ (x_X7_switchOff hL (by omega) plc ir (fun ir2 => ?_)))
    refine u_X7_light_66 ?_
    unfold bX7_light_66
    refine e_ldA g0 ?_
    refine And.intro hL.2 (And.intro ⟨by decide, by decide⟩ (x_X7_noteChange hL ir2 (fun ir4 => ?_)))
    exact e_rV (K ir4)
  · replace K := kx_n (by omega) K
    refine e_ldA g0 ?_
    refine e_ldA g3 ?_
    refine And.intro hL.2 (And.intro ⟨by decide, by decide⟩ (x_X7_switchOn hL (by omega) plc ir (fun ir6 => ?_)))
    refine u_X7_light_66 ?_
    unfold bX7_light_66
    refine e_ldA g0 ?_
    refine And.intro hL.2 (And.intro ⟨by decide, by decide⟩ (x_X7_noteChange hL ir6 (fun ir8 => ?_)))
    exact e_rV (K ir8)
