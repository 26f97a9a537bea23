def g_X3_markOvertaken_2 (R : Nat → Nat → Option Nat) (b : Nat) (p : Nat) (c : Nat) (e : Nat) (fc : Nat) (ff : Nat) : Nat → Nat → (Nat → Nat → Int32) → (Nat → Nat → Int32)
  | 0, i2, I => I
  | r + 1, i2, I => if R (fad R b c e) ((ff + i2) % 200) = none then (g_X3_markOvertaken_2 R b p c e fc ff r (i2 + 1)  I ) else (if (f_X2_mustComeAhead I ((R (fad R b c e) ((ff + i2) % 200)).getD 0) p) = 0 then (g_X3_markOvertaken_2 R b p c e fc ff r (i2 + 1)  I ) else (let I4 := up2 I ((R (fad R b c e) ((ff + i2) % 200)).getD 0) 6 (nI 1); g_X3_markOvertaken_2 R b p c e fc ff r (i2 + 1)  I4 ))
theorem y_X3_markOvertaken_2 {Q : Option Value → MM → Prop} {b : Nat} {p : Nat} {c : Nat} {e : Nat} {fc : Nat} {ff : Nat}  (r : Nat) : ∀ {S : MM}   {i2 n : Nat} {lv : Lv} (hL : LY S b) (kp : sK S p = 3) (hc : c < 8) (he : e < 2) (hfc : fc < 201) (hff : ff < 200) (ir : IR S)  (q0 : sI S (Ln (sR S) b c e) 5 = nI fc) (q1 : sI S (Ln (sR S) b c e) 4 = nI ff) (g0 : lvg lv 0 = some (.ref (Ln (sR S) b c e))) (g1 : lvg lv 1 = some (.ref p)) (g2 : lvg lv 2 = some (.int (nI i2)))    (hr : i2 + r = fc) (hn : 2 + r * 2 ≤ n) (K : KVC Q S (g_X3_markOvertaken_2 (sR S) b p c e fc ff r i2  (sI S) )), wpn (kX3_markOvertaken Q) n 2 lv [] S 0 0 := by
  induction r with
  | zero =>
    intro S   i2 n lv hL kp hc he hfc hff ir  q0 q1 g0 g1 g2    hr hn K
    obtain ⟨d, rfl⟩ : ∃ d, n = d + 2 := ⟨n - 2, by omega⟩
    unfold g_X3_markOvertaken_2 at K
    refine u_X3_markOvertaken_2 ?_
    unfold bX3_markOvertaken_2
    refine e_ldI g2 ?_
    refine e_ldA g0 ?_
    refine e_gV (v := nI fc) (ly_N hL hc he).2.1 q0 ?_
    refine e_ge (by omega) (by omega) (fun _ => ?_) (fun z => absurd z (by omega))
    refine u_X3_markOvertaken_49 ?_
    unfold bX3_markOvertaken_49
    exact e_rV (K ir)
  | succ r ih =>
    intro S   i2 n lv hL kp hc he hfc hff ir  q0 q1 g0 g1 g2    hr hn K
    obtain ⟨d, hd, rfl⟩ : ∃ d, 2 + r * 2 ≤ d ∧ n = d + 2 := ⟨n - 2, by omega, by omega⟩
    unfold g_X3_markOvertaken_2 at K
    refine u_X3_markOvertaken_2 ?_
    unfold bX3_markOvertaken_2
    refine e_ldI g2 ?_
    refine e_ldA g0 ?_
    refine e_gV (v := nI fc) (ly_N hL hc he).2.1 q0 ?_
    refine e_ge (by omega) (by omega) (fun z => absurd z (by omega)) (fun _ => ?_)
    refine e_ldA g0 ?_
    refine e_gR (ly_N hL hc he).2.1 (ly_fa hL (by omega) (by omega)).1 ?_
    refine e_ldA g0 ?_
    refine e_gV (v := nI ff) (ly_N hL hc he).2.1 q1 ?_
    refine e_ldI g2 ?_
    refine e_add ?_
    refine e_cN 200 rfl ?_
    refine e_rem (by omega) (by decide) (by decide) ?_
    refine e_aX (N := 200) (ly_fa hL (by omega) (by omega)).2.1 (ly_fa hL (by omega) (by omega)).2.2 (by omega) (by decide) (fun h1 => ?_) (fun h1 => ?_)
    · replace K := kx_p h1 K
      refine e_stN ?_
      refine e_ldN lvg_self ?_
      refine e_nnN ?_
      refine u_X3_markOvertaken_43 ?_
      unfold bX3_markOvertaken_43
      refine e_inc (lvg_ne g2 rfl (by decide)) ?_
      exact ih hL kp hc he hfc hff ir  q0 q1 (lvg_ne (lvg_ne g0 rfl (by decide)) rfl (by decide)) (lvg_ne (lvg_ne g1 rfl (by decide)) rfl (by decide)) lvg_self    (by omega) (by omega) K
    · replace K := kx_n h1 K
      refine e_stA ?_
      refine e_ldA lvg_self ?_
      refine e_nnA ?_
      refine e_ldA lvg_self ?_
      refine e_ldA (lvg_ne g1 rfl (by decide)) ?_
      refine And.intro (ly_nn hL.1 (ly_fa hL (by omega) (by omega)).2.1 rfl h1) (And.intro ⟨by decide, by decide⟩ (x_X2_mustComeAhead (ly_nn hL.1 (ly_fa hL (by omega) (by omega)).2.1 rfl h1) kp (KP_i ?_)))
      refine ⟨fun h2 => ?_, fun h2 => ?_⟩
      · replace K := kx_p h2 K
        refine u_X3_markOvertaken_43 ?_
        unfold bX3_markOvertaken_43
        refine e_inc (lvg_ne g2 rfl (by decide)) ?_
        exact ih hL kp hc he hfc hff ir  q0 q1 (lvg_ne (lvg_ne g0 rfl (by decide)) rfl (by decide)) (lvg_ne (lvg_ne g1 rfl (by decide)) rfl (by decide)) lvg_self    (by omega) (by omega) K
      · replace K := kx_n h2 K
        refine e_ldA lvg_self ?_
        refine e_cN 1 rfl ?_
        refine e_tZJ (ly_nn hL.1 (ly_fa hL (by omega) (by omega)).2.1 rfl h1) (Or.inr rfl) ir (fun N e => nomatch (show (none : Option Nat) = some N from e)) (fun ir3 => ?_)
        refine u_X3_markOvertaken_43 ?_
        unfold bX3_markOvertaken_43
        refine e_inc (lvg_ne g2 rfl (by decide)) ?_
        exact ih hL kp hc he hfc hff ir3  (rd_a q0 (ne_kd (ly_N hL (by omega) (by omega)).2.1 (ly_nn hL.1 (ly_fa hL (by omega) (by omega)).2.1 rfl h1) (by decide))) (rd_a q1 (ne_kd (ly_N hL (by omega) (by omega)).2.1 (ly_nn hL.1 (ly_fa hL (by omega) (by omega)).2.1 rfl h1) (by decide))) (lvg_ne (lvg_ne g0 rfl (by decide)) rfl (by decide)) (lvg_ne (lvg_ne g1 rfl (by decide)) rfl (by decide)) lvg_self    (by omega) (by omega) K
def f_X3_markOvertaken (I : Nat → Nat → Int32) (R : Nat → Nat → Option Nat) (b : Nat) (p : Nat) (c : Nat) (e : Nat) (fc : Nat) (ff : Nat) : Nat → Nat → Int32 := g_X3_markOvertaken_2 R b p c e fc ff fc 0  I 
theorem x_X3_markOvertaken {Q : Option Value → MM → Prop} {S : MM} {b : Nat} {p : Nat} {c : Nat} {e : Nat} {fc : Nat} {ff : Nat} (hL : LY S b) (kp : sK S p = 3) (hc : c < 8) (he : e < 2) (hfc : fc < 201) (hff : ff < 200) (ir : IR S) (q0 : sI S (Ln (sR S) b c e) 5 = nI fc) (q1 : sI S (Ln (sR S) b c e) 4 = nI ff)  (K : KVC Q S (f_X3_markOvertaken (sI S) (sR S) b p c e fc ff)) : wX3_markOvertaken [.ref (Ln (sR S) b c e), .ref p] S Q := by
  unfold f_X3_markOvertaken at K
  refine Exists.intro 405 (u_X3_markOvertaken_0 ?_)
  unfold bX3_markOvertaken_0
  refine e_cN 0 rfl ?_
  refine e_stI ?_
  exact y_X3_markOvertaken_2 fc hL kp hc he hfc hff ir  q0 q1 (lvg_ne rfl rfl (by decide)) (lvg_ne rfl rfl (by decide)) lvg_self    (by omega) (by omega) K
def g_X7_receive_43 (R : Nat → Nat → Option Nat) (b : Nat) (p : Nat) (q : Nat) (e : Nat) : Nat → Nat → (Nat → Nat → Int32) → (Nat → Nat → Int32)
  | 0, i4, I => I
  | r + 1, i4, I => let I2 := f_X3_markOvertaken I R b p i4 e (I (Ln R b i4 e) 5).toNatClampNeg (I (Ln R b i4 e) 4).toNatClampNeg; g_X7_receive_43 R b p q e r (i4 + 1)  I2 
theorem y_X7_receive_43 {Q : Option Value → MM → Prop} {b : Nat} {p : Nat} {q : Nat} {e : Nat}  (r : Nat) : ∀ {S : MM}   {i4 n : Nat} {lv : Lv} (hL : LY S b) (kp : sK S p = 3) (kq : sK S q = 6) (he : e < 2) (ir : IR S)   (g0 : lvg lv 0 = some (.ref b)) (g1 : lvg lv 1 = some (.ref p)) (g3 : lvg lv 3 = some (.int (nI e))) (g4 : lvg lv 4 = some (.int (nI i4)))    (hr : i4 + r = 8) (hn : 2 + r * 1 ≤ n) (K : KVC Q S (g_X7_receive_43 (sR S) b p q e r i4  (sI S) )), wpn (kX7_receive Q) n 43 lv [] S 0 0 := by
  induction r with
  | zero =>
    intro S   i4 n lv hL kp kq he ir   g0 g1 g3 g4    hr hn K
    obtain ⟨d, rfl⟩ : ∃ d, n = d + 2 := ⟨n - 2, by omega⟩
    unfold g_X7_receive_43 at K
    refine u_X7_receive_43 ?_
    unfold bX7_receive_43
    refine e_ldI g4 ?_
    refine e_cN 8 rfl ?_
    refine e_ge (by omega) (by omega) (fun _ => ?_) (fun z => absurd z (by omega))
    refine u_X7_receive_72 ?_
    unfold bX7_receive_72
    exact e_rV (K ir)
  | succ r ih =>
    intro S   i4 n lv hL kp kq he ir   g0 g1 g3 g4    hr hn K
    obtain ⟨d, hd, rfl⟩ : ∃ d, 2 + r * 1 ≤ d ∧ n = d + 1 := ⟨n - 1, by omega, by omega⟩
    unfold g_X7_receive_43 at K
    refine u_X7_receive_43 ?_
    unfold bX7_receive_43
    refine e_ldI g4 ?_
    refine e_cN 8 rfl ?_
    refine e_ge (by omega) (by omega) (fun z => absurd z (by omega)) (fun _ => ?_)
    refine e_ldA g0 ?_
    refine e_gR hL.2 (ly_ca hL).1 ?_
    refine e_ldI g4 ?_
    refine e_aR (N := 8) (ly_ca hL).2.1 (ly_ca hL).2.2 (by omega) (by decide) (ly_C hL (by omega)).1 ?_
    refine e_gR (ly_C hL (by omega)).2.1 (ly_la hL (by omega)).1 ?_
    refine e_ldI g3 ?_
    refine e_aR (N := 2) (ly_la hL (by omega)).2.1 (ly_la hL (by omega)).2.2 (by omega) (by decide) (ly_N hL (by omega) (by omega)).1 ?_
    refine e_ldA g1 ?_
    refine And.intro (ly_N hL (by omega) (by omega)).2.1 (And.intro ⟨by decide, by decide⟩ (x_X3_markOvertaken hL kp (by omega) (by omega) (ir_n ir (ly_N hL (by omega) (by omega)).2.1 (show rg 4 5 = some 201 from rfl)).2 (ir_n ir (ly_N hL (by omega) (by omega)).2.1 (show rg 4 4 = some 200 from rfl)).2 ir (ir_n ir (ly_N hL (by omega) (by omega)).2.1 (show rg 4 5 = some 201 from rfl)).1 (ir_n ir (ly_N hL (by omega) (by omega)).2.1 (show rg 4 4 = some 200 from rfl)).1 (fun ir1 => ?_)))
    refine e_inc g4 ?_
    exact ih hL kp kq he ir1   (lvg_ne g0 rfl (by decide)) (lvg_ne g1 rfl (by decide)) (lvg_ne g3 rfl (by decide)) lvg_self    (by omega) (by omega) K
def g_X7_receive_40 (I : Nat → Nat → Int32) (R : Nat → Nat → Option Nat) (b : Nat) (p : Nat) (q : Nat) (e : Nat)   : Nat → Nat → Int32 := g_X7_receive_43 R b p q e 8 0  I 
theorem y_X7_receive_40 {Q : Option Value → MM → Prop} {S : MM} {b : Nat} {p : Nat} {q : Nat} {e : Nat}   {n : Nat} {lv : Lv} (hL : LY S b) (kp : sK S p = 3) (kq : sK S q = 6) (he : e < 2) (ir : IR S)   (g0 : lvg lv 0 = some (.ref b)) (g1 : lvg lv 1 = some (.ref p)) (g3 : lvg lv 3 = some (.int (nI e)))  (hn : 11 ≤ n) (K : KVC Q S (g_X7_receive_40 (sI S) (sR S) b p q e  )) : wpn (kX7_receive Q) n 40 lv [] S 0 0 := by
  obtain ⟨d, rfl⟩ : ∃ d, n = d + 11 := ⟨n - 11, by omega⟩
  unfold g_X7_receive_40 at K
  refine u_X7_receive_40 ?_
  unfold bX7_receive_40
  refine e_cN 0 rfl ?_
  refine e_stI ?_
  exact y_X7_receive_43 8 hL kp kq he ir   (lvg_ne g0 rfl (by decide)) (lvg_ne g1 rfl (by decide)) (lvg_ne g3 rfl (by decide)) lvg_self    (by omega) (by omega) K
def f_X7_receive (I : Nat → Nat → Int32) (R : Nat → Nat → Option Nat) (b : Nat) (p : Nat) (q : Nat) (e : Nat) : Nat → Nat → Int32 := let I2 := f_X1_keep I R b p (1 - e) (I ((R q 0).getD 0) 3) (I b 2); if (I2 p 6) = 0 then (g_X7_receive_40 I2 R b p q e  ) else (let I5 := up2 I2 b 8 ((I2 b 8) + (nI 1)); g_X7_receive_40 I5 R b p q e  )
theorem x_X7_receive {Q : Option Value → MM → Prop} {S : MM} {b : Nat} {p : Nat} {q : Nat} {e : Nat} (hL : LY S b) (kp : sK S p = 3) (kq : sK S q = 6) (he : e < 2) (ir : IR S)   (K : KVC Q S (f_X7_receive (sI S) (sR S) b p q e)) : wX7_receive [.ref b, .ref p, .ref q, .int (nI e)] S Q := by
  unfold f_X7_receive at K
  refine Exists.intro 12 (u_X7_receive_0 ?_)
  unfold bX7_receive_0
  refine e_ldA rfl ?_
  refine e_gR hL.2 (ly_ea hL).1 ?_
  refine e_cN 1 rfl ?_
  refine e_ldI rfl ?_
  refine e_sub (by omega) ?_
  refine e_aR (N := 2) (ly_ea hL).2.1 (ly_ea hL).2.2 (by omega) (by decide) (ly_E hL (by omega)).1 ?_
  refine e_ldA rfl ?_
  refine e_ldA rfl ?_
  refine e_gR kq (ly_f hL.1 kq (show rf 6 0 = some (7, 0) from rfl)).1 ?_
  refine e_gE (ly_f hL.1 kq (show rf 6 0 = some (7, 0) from rfl)).2.1 ?_
  refine e_ldA rfl ?_
  refine e_gE hL.2 ?_
  refine And.intro (ly_E hL (by omega)).2.1 (And.intro ⟨by decide, by decide⟩ (x_X1_keep hL kp (by omega) ir (fun ir1 => ?_)))
  refine e_ldA rfl ?_
  refine e_gE kp ?_
  refine ⟨fun h3 => ?_, fun h3 => ?_⟩
  · replace K := kx_p h3 K
    exact y_X7_receive_40 hL kp kq he ir1   rfl rfl rfl  (by omega) K
  · replace K := kx_n h3 K
    refine e_ldA rfl ?_
    refine e_duA ?_
    refine e_gE hL.2 ?_
    refine e_cN 1 rfl ?_
    refine e_bopE ?_
    refine e_tJ hL.2 ir1 (fun N e => nomatch (show (none : Option Nat) = some N from e)) (fun ir4 => ?_)
    exact y_X7_receive_40 hL kp kq he ir4   rfl rfl rfl  (by omega) K
def g_X7_bringFrames_3 (R : Nat → Nat → Option Nat) (b : Nat) (p : Nat) (c : Nat) (e : Nat) : Nat → Nat → (Nat → Nat → Int32) → (Nat → Nat → Int32)
  | 0, i4, I => I
  | r + 1, i4, I => let t3 := f_X3_takeDueFrame I R b c e (I b 2); let I5 := t3.1; if t3.2 = none then (I5) else (if (f_X6_has I5 ((R p 0).getD 0) (nI 16)) = 0 then (let I8 := up2 I5 b 4 ((I5 b 4) + (nI 1)); g_X7_bringFrames_3 R b p c e r (i4 + 1)  I8 ) else (let I10 := f_X7_receive I5 R b (t3.2.getD 0) p e; g_X7_bringFrames_3 R b p c e r (i4 + 1)  I10 ))
theorem y_X7_bringFrames_3 {Q : Option Value → MM → Prop} {b : Nat} {p : Nat} {c : Nat} {e : Nat}  (r : Nat) : ∀ {S : MM}   {i4 n : Nat} {lv : Lv} (hL : LY S b) (kp : sK S p = 6) (hc : c < 8) (he : e < 2) (ir : IR S)   (g0 : lvg lv 0 = some (.ref b)) (g1 : lvg lv 1 = some (.ref (Ln (sR S) b c e))) (g2 : lvg lv 2 = some (.ref p)) (g3 : lvg lv 3 = some (.int (nI e))) (g4 : lvg lv 4 = some (.int (nI i4)))    (hr : i4 + r = 200) (hn : 2 + r * 4 ≤ n) (K : KVC Q S (g_X7_bringFrames_3 (sR S) b p c e r i4  (sI S) )), wpn (kX7_bringFrames Q) n 3 lv [] S 0 0 := by
  induction r with
  | zero =>
    intro S   i4 n lv hL kp hc he ir   g0 g1 g2 g3 g4    hr hn K
    obtain ⟨d, rfl⟩ : ∃ d, n = d + 2 := ⟨n - 2, by omega⟩
    unfold g_X7_bringFrames_3 at K
    refine u_X7_bringFrames_3 ?_
    unfold bX7_bringFrames_3
    refine e_ldI g4 ?_
    refine e_cN 200 rfl ?_
    refine e_ge (by omega) (by omega) (fun _ => ?_) (fun z => absurd z (by omega))
    refine u_X7_bringFrames_66 ?_
    unfold bX7_bringFrames_66
    exact e_rV (K ir)
  | succ r ih =>
    intro S   i4 n lv hL kp hc he ir   g0 g1 g2 g3 g4    hr hn K
    obtain ⟨d, hd, rfl⟩ : ∃ d, 2 + r * 4 ≤ d ∧ n = d + 4 := ⟨n - 4, by omega, by omega⟩
    unfold g_X7_bringFrames_3 at K
    refine u_X7_bringFrames_3 ?_
    unfold bX7_bringFrames_3
    refine e_ldI g4 ?_
    refine e_cN 200 rfl ?_
    refine e_ge (by omega) (by omega) (fun z => absurd z (by omega)) (fun _ => ?_)
    refine e_ldA g1 ?_
    refine e_ldA g0 ?_
    refine e_gE hL.2 ?_
    refine And.intro (ly_N hL hc he).2.1 (And.intro ⟨by decide, by decide⟩ (x_X3_takeDueFrame hL (by omega) (by omega) ir (fun ir1 hk2 => ?_)))
    refine e_stV (fun h4 => ?_) (fun h4 => ?_)
    · replace K := kx_p h4 K
      refine e_ldN lvg_self ?_
      refine e_nnN ?_
      exact e_rV (K ir1)
    · replace K := kx_n h4 K
      refine e_ldA lvg_self ?_
      refine e_nnA ?_
      refine u_X7_bringFrames_27 ?_
      unfold bX7_bringFrames_27
      refine e_ldA (lvg_ne g2 rfl (by decide)) ?_
      refine e_gR kp (ly_f hL.1 kp (show rf 6 0 = some (7, 0) from rfl)).1 ?_
      refine e_cN 16 rfl ?_
      refine And.intro (ly_f hL.1 kp (show rf 6 0 = some (7, 0) from rfl)).2.1 (And.intro ⟨by decide, by decide⟩ (x_X6_has (ly_f hL.1 kp (show rf 6 0 = some (7, 0) from rfl)).2.1 (KP_i ?_)))
      refine ⟨fun h6 => ?_, fun h6 => ?_⟩
      · replace K := kx_p h6 K
        refine u_X7_bringFrames_50 ?_
        unfold bX7_bringFrames_50
        refine e_ldA (lvg_ne g0 rfl (by decide)) ?_
        refine e_duA ?_
        refine e_gE hL.2 ?_
        refine e_cN 1 rfl ?_
        refine e_bopE ?_
        refine e_tJ hL.2 ir1 (fun N e => nomatch (show (none : Option Nat) = some N from e)) (fun ir7 => ?_)
        refine u_X7_bringFrames_60 ?_
        unfold bX7_bringFrames_60
        refine e_inc (lvg_ne g4 rfl (by decide)) ?_
        exact ih hL kp hc he ir7   (lvg_ne (lvg_ne g0 rfl (by decide)) rfl (by decide)) (lvg_ne (lvg_ne g1 rfl (by decide)) rfl (by decide)) (lvg_ne (lvg_ne g2 rfl (by decide)) rfl (by decide)) (lvg_ne (lvg_ne g3 rfl (by decide)) rfl (by decide)) lvg_self    (by omega) (by omega) K
      · replace K := kx_n h6 K
        refine e_ldA (lvg_ne g0 rfl (by decide)) ?_
        refine e_ldA lvg_self ?_
        refine e_ldA (lvg_ne g2 rfl (by decide)) ?_
        refine e_ldI (lvg_ne g3 rfl (by decide)) ?_
        refine And.intro hL.2 (And.intro ⟨by decide, by decide⟩ (x_X7_receive hL (hk2.resolve_left h4) kp (by omega) ir1 (fun ir9 => ?_)))
        refine u_X7_bringFrames_60 ?_
        unfold bX7_bringFrames_60
        refine e_inc (lvg_ne g4 rfl (by decide)) ?_
        exact ih hL kp hc he ir9   (lvg_ne (lvg_ne g0 rfl (by decide)) rfl (by decide)) (lvg_ne (lvg_ne g1 rfl (by decide)) rfl (by decide)) (lvg_ne (lvg_ne g2 rfl (by decide)) rfl (by decide)) (lvg_ne (lvg_ne g3 rfl (by decide)) rfl (by decide)) lvg_self    (by omega) (by omega) K
def f_X7_bringFrames (I : Nat → Nat → Int32) (R : Nat → Nat → Option Nat) (b : Nat) (p : Nat) (c : Nat) (e : Nat) : Nat → Nat → Int32 := g_X7_bringFrames_3 R b p c e 200 0  I 
theorem x_X7_bringFrames {Q : Option Value → MM → Prop} {S : MM} {b : Nat} {p : Nat} {c : Nat} {e : Nat} (hL : LY S b) (kp : sK S p = 6) (hc : c < 8) (he : e < 2) (ir : IR S)   (K : KVC Q S (f_X7_bringFrames (sI S) (sR S) b p c e)) : wX7_bringFrames [.ref b, .ref (Ln (sR S) b c e), .ref p, .int (nI e)] S Q := by
  unfold f_X7_bringFrames at K
  refine Exists.intro 803 (u_X7_bringFrames_0 ?_)
  unfold bX7_bringFrames_0
  refine e_cN 0 rfl ?_
  refine e_stI ?_
  exact y_X7_bringFrames_3 200 hL kp hc he ir   (lvg_ne rfl rfl (by decide)) (lvg_ne rfl rfl (by decide)) (lvg_ne rfl rfl (by decide)) (lvg_ne rfl rfl (by decide)) lvg_self    (by omega) (by omega) K
def xp_X7_bringAll_31 (Q : Option Value → MM → Prop) (S : MM) (b : Nat) (i1 : Nat) (Fx : Nat) (z : (Nat → Nat → Int32)) : Prop := ∀ (n : Nat) (lv : Lv), Fx ≤ n → IR (wI S z) →    lvg lv 0 = some (.ref b) → lvg lv 1 = some (.int (nI i1)) → wpn (kX7_bringAll Q) n 79 lv [] (wI S z) 0 0
def g_X7_bringAll_31 (R : Nat → Nat → Option Nat) (b : Nat) : Nat → Nat → Nat → (Nat → Nat → Int32) → ((Nat → Nat → Int32))
  | 0, i3, i1, I => I
  | r + 1, i3, i1, I => let I2 := f_X7_bringNotes I R b ((R (ppd R b i1) (1 - i3)).getD 0) i1 i3; let I4 := f_X7_bringFrames I2 R b ((R (ppd R b i1) (1 - i3)).getD 0) i1 i3; g_X7_bringAll_31 R b r (i3 + 1) i1 I4 
theorem y_X7_bringAll_31 {Q : Option Value → MM → Prop} {b : Nat}  {Fx : Nat} (r : Nat) : ∀ {S : MM} {i1 : Nat}  {i3 n : Nat} {lv : Lv} (hL : LY S b) (ir : IR S) (hi1 : i1 < 8)  (g0 : lvg lv 0 = some (.ref b)) (g1 : lvg lv 1 = some (.int (nI i1))) (g2 : lvg lv 2 = some (.ref (Cb (sR S) b i1))) (g3 : lvg lv 3 = some (.int (nI i3)))  (pli1 : plg (sR S) b i1)  (hr : i3 + r = 2) (hn : Fx + 1 + r * 1 ≤ n) (K : xp_X7_bringAll_31 Q S b i1 Fx (g_X7_bringAll_31 (sR S) b r i3 i1 (sI S) )), wpn (kX7_bringAll Q) n 31 lv [] S 0 0 := by
  induction r with
  | zero =>
    intro S i1  i3 n lv hL ir hi1  g0 g1 g2 g3  pli1  hr hn K
    obtain ⟨d, hd, rfl⟩ : ∃ d, Fx ≤ d ∧ n = d + 1 := ⟨n - 1, by omega, by omega⟩
    unfold g_X7_bringAll_31 at K
    refine u_X7_bringAll_31 ?_
    unfold bX7_bringAll_31
    refine e_ldI g3 ?_
    refine e_cN 2 rfl ?_
    refine e_ge (by omega) (by omega) (fun _ => ?_) (fun z => absurd z (by omega))
    exact K _ _ (by omega) ir    g0 g1
  | succ r ih =>
    intro S i1  i3 n lv hL ir hi1  g0 g1 g2 g3  pli1  hr hn K
    obtain ⟨d, hd, rfl⟩ : ∃ d, Fx + 1 + r * 1 ≤ d ∧ n = d + 1 := ⟨n - 1, by omega, by omega⟩
    unfold g_X7_bringAll_31 at K
    dsimp only at K
    refine u_X7_bringAll_31 ?_
    unfold bX7_bringAll_31
    refine e_ldI g3 ?_
    refine e_cN 2 rfl ?_
    refine e_ge (by omega) (by omega) (fun z => absurd z (by omega)) (fun _ => ?_)
    refine e_ldA g0 ?_
    refine e_ldA g2 ?_
    refine e_gR (ly_C hL (by omega)).2.1 (ly_la hL (by omega)).1 ?_
    refine e_ldI g3 ?_
    refine e_aR (N := 2) (ly_la hL (by omega)).2.1 (ly_la hL (by omega)).2.2 (by omega) (by decide) (ly_N hL (by omega) (by omega)).1 ?_
    refine e_ldA g2 ?_
    refine e_gR (ly_C hL (by omega)).2.1 (ly_pp hL (by omega)).1 ?_
    refine e_cN 1 rfl ?_
    refine e_ldI g3 ?_
    refine e_sub (by omega) ?_
    refine e_aR (N := 2) (ly_pp hL (by omega)).2.1 (ly_pp hL (by omega)).2.2 (by omega) (by decide) (opt_get (plg_i pli1 (by omega))) ?_
    refine And.intro hL.2 (And.intro ⟨by decide, by decide⟩ (x_X7_bringNotes hL (ly_nn hL.1 (ly_pp hL (by omega)).2.1 rfl (plg_i pli1 (by omega))) (by omega) (by omega) ir (fun ir1 => ?_)))
    generalize f_X7_bringNotes (sI S) (sR S) b ((sR S (ppd (sR S) b i1) (1 - i3)).getD 0) i1 i3 = F1 at ir1 K ⊢
    refine e_ldA g0 ?_
    refine e_ldA g2 ?_
    refine e_gR (ly_C hL (by omega)).2.1 (ly_la hL (by omega)).1 ?_
    refine e_ldI g3 ?_
    refine e_aR (N := 2) (ly_la hL (by omega)).2.1 (ly_la hL (by omega)).2.2 (by omega) (by decide) (ly_N hL (by omega) (by omega)).1 ?_
    refine e_ldA g2 ?_
    refine e_gR (ly_C hL (by omega)).2.1 (ly_pp hL (by omega)).1 ?_
    refine e_cN 1 rfl ?_
    refine e_ldI g3 ?_
    refine e_sub (by omega) ?_
    refine e_aR (N := 2) (ly_pp hL (by omega)).2.1 (ly_pp hL (by omega)).2.2 (by omega) (by decide) (opt_get (plg_i pli1 (by omega))) ?_
    refine e_ldI g3 ?_
    refine And.intro hL.2 (And.intro ⟨by decide, by decide⟩ (x_X7_bringFrames (S := wI S F1) (LY_w hL) (ly_nn hL.1 (ly_pp hL (by omega)).2.1 rfl (plg_i pli1 (by omega))) (by omega) (by omega) ir1 (fun ir3 => ?_)))
    have e3 : f_X7_bringFrames (sI (wI S F1)) (sR (wI S F1)) b ((sR (wI S F1) (ppd (sR S) b i1) (1 - i3)).getD 0) i1 i3 = f_X7_bringFrames F1 (sR S) b ((sR S (ppd (sR S) b i1) (1 - i3)).getD 0) i1 i3 := rfl
    rw [e3] at ir3 ⊢
    generalize f_X7_bringFrames F1 (sR S) b ((sR S (ppd (sR S) b i1) (1 - i3)).getD 0) i1 i3 = F2 at ir3 K ⊢
    refine e_inc g3 ?_
    exact ih hL ir3 (by omega)  (lvg_ne g0 rfl (by decide)) (lvg_ne g1 rfl (by decide)) (lvg_ne g2 rfl (by decide)) lvg_self  pli1  (by omega) (by omega) K
def g_X7_bringAll_2 (R : Nat → Nat → Option Nat) (b : Nat) : Nat → Nat → (Nat → Nat → Int32) → (Nat → Nat → Int32)
  | 0, i1, I => I
  | r + 1, i1, I => if (I (Cb R b i1) 3) = 0 then (g_X7_bringAll_2 R b r (i1 + 1)  I ) else (if plg R b i1 then (let z4 := g_X7_bringAll_31 R b 2 0 i1 I ; let I12 := z4; g_X7_bringAll_2 R b r (i1 + 1)  I12 ) else (g_X7_bringAll_2 R b r (i1 + 1)  I ))
theorem y_X7_bringAll_2 {Q : Option Value → MM → Prop} {b : Nat}  (r : Nat) : ∀ {S : MM}   {i1 n : Nat} {lv : Lv} (hL : LY S b) (ir : IR S)   (g0 : lvg lv 0 = some (.ref b)) (g1 : lvg lv 1 = some (.int (nI i1)))    (hr : i1 + r = 8) (hn : 2 + r * 5 ≤ n) (K : KVC Q S (g_X7_bringAll_2 (sR S) b r i1  (sI S) )), wpn (kX7_bringAll Q) n 2 lv [] S 0 0 := by
  induction r with
  | zero =>
    intro S   i1 n lv hL ir   g0 g1    hr hn K
    obtain ⟨d, rfl⟩ : ∃ d, n = d + 2 := ⟨n - 2, by omega⟩
    unfold g_X7_bringAll_2 at K
    refine u_X7_bringAll_2 ?_
    unfold bX7_bringAll_2
    refine e_ldI g1 ?_
    refine e_cN 8 rfl ?_
    refine e_ge (by omega) (by omega) (fun _ => ?_) (fun z => absurd z (by omega))
    refine u_X7_bringAll_85 ?_
    unfold bX7_bringAll_85
    exact e_rV (K ir)
  | succ r ih =>
    intro S   i1 n lv hL ir   g0 g1    hr hn K
    obtain ⟨d, hd, rfl⟩ : ∃ d, 2 + r * 5 ≤ d ∧ n = d + 5 := ⟨n - 5, by omega, by omega⟩
    unfold g_X7_bringAll_2 at K
    refine u_X7_bringAll_2 ?_
    unfold bX7_bringAll_2
    refine e_ldI g1 ?_
    refine e_cN 8 rfl ?_
    refine e_ge (by omega) (by omega) (fun z => absurd z (by omega)) (fun _ => ?_)
    refine e_ldA g0 ?_
    refine e_gR hL.2 (ly_ca hL).1 ?_
    refine e_ldI g1 ?_
    refine e_aR (N := 8) (ly_ca hL).2.1 (ly_ca hL).2.2 (by omega) (by decide) (ly_C hL (by omega)).1 ?_
    refine e_stA ?_
    refine e_ldA lvg_self ?_
    refine e_gE (ly_C hL (by omega)).2.1 ?_
    refine ⟨fun h1 => ?_, fun h1 => ?_⟩
    · replace K := kx_p h1 K
      refine u_X7_bringAll_79 ?_
      unfold bX7_bringAll_79
      refine e_inc (lvg_ne g1 rfl (by decide)) ?_
      exact ih hL ir   (lvg_ne (lvg_ne g0 rfl (by decide)) rfl (by decide)) lvg_self    (by omega) (by omega) K
    · replace K := kx_n h1 K
      refine e_ldA lvg_self ?_
      refine And.intro (ly_C hL (by omega)).2.1 (And.intro ⟨by decide, by decide⟩ (x_plg hL (by omega) (fun h2 => ?_) (fun h2 => ?_)))
      · replace K := kx_n h2 K
        refine ⟨fun _ => ?_, fun z => absurd (by decide) z⟩
        refine u_X7_bringAll_79 ?_
        unfold bX7_bringAll_79
        refine e_inc (lvg_ne g1 rfl (by decide)) ?_
        exact ih hL ir   (lvg_ne (lvg_ne g0 rfl (by decide)) rfl (by decide)) lvg_self    (by omega) (by omega) K
      · replace K := kx_p h2 K
        refine ⟨fun z => absurd z (by decide), fun _ => ?_⟩
        refine e_cN 0 rfl ?_
        refine e_stI ?_
        refine y_X7_bringAll_31 (Fx := d + 1) 2 hL ir (by omega)  (lvg_ne (lvg_ne g0 rfl (by decide)) rfl (by decide)) (lvg_ne (lvg_ne g1 rfl (by decide)) rfl (by decide)) (lvg_ne lvg_self rfl (by decide)) lvg_self  h2  (by omega) (by omega) (fun n5 lv6 hn7 ir11    g9 g10 => ?_)
        obtain ⟨d8, hd8, rfl⟩ : ∃ d, d ≤ d ∧ n5 = d + 1 := ⟨n5 - 1, by omega, by omega⟩
        refine u_X7_bringAll_79 ?_
        unfold bX7_bringAll_79
        refine e_inc g10 ?_
        exact ih hL ir11   (lvg_ne g9 rfl (by decide)) lvg_self    (by omega) (by omega) K
def f_X7_bringAll (I : Nat → Nat → Int32) (R : Nat → Nat → Option Nat) (b : Nat) : Nat → Nat → Int32 := g_X7_bringAll_2 R b 8 0  I 
theorem x_X7_bringAll {Q : Option Value → MM → Prop} {S : MM} {b : Nat} (hL : LY S b) (ir : IR S)   (K : KVC Q S (f_X7_bringAll (sI S) (sR S) b)) : wX7_bringAll [.ref b] S Q := by
  unfold f_X7_bringAll at K
  refine Exists.intro 43 (u_X7_bringAll_0 ?_)
  unfold bX7_bringAll_0
  refine e_cN 0 rfl ?_
  refine e_stI ?_
  exact y_X7_bringAll_2 8 hL ir   (lvg_ne rfl rfl (by decide)) lvg_self    (by omega) (by omega) K
def g_X7_runTick_15 (R : Nat → Nat → Option Nat) (b : Nat) : Nat → Nat → (Nat → Nat → Int32) → Int32 → (Nat → Nat → Int32)
  | 0, i2, I, w1 => let I2 := f_X7_stepAll I R b; let I4 := (f_X7_tellAll I2 R b).1; let I6 := up2 I4 b 2 ((I4 b 2) + (nI 1)); if (f_X7_tellAll I2 R b).2 = 0 then (let I9 := up2 I6 b 3 ((I6 b 3) + (nI 1)); if (I9 b 3) < (nI 300) then (I9) else (if (f_X7_isSettled I9 R b) = 0 then (let I13 := up2 I9 b 6 ((I9 b 6) + (nI 1)); I13) else (I9))) else (let I15 := up2 I6 b 3 (nI 0); if (I15 b 3) < (nI 300) then (I15) else (if (f_X7_isSettled I15 R b) = 0 then (let I19 := up2 I15 b 6 ((I15 b 6) + (nI 1)); I19) else (I15)))
  | r + 1, i2, I, w1 => if (nI i2) = w1 then (let I3 := f_X1_formBundles I R b i2 (nI 1); g_X7_runTick_15 R b r (i2 + 1)  I3 w1) else (let I5 := f_X1_formBundles I R b i2 (nI 0); g_X7_runTick_15 R b r (i2 + 1)  I5 w1)
theorem y_X7_runTick_15 {Q : Option Value → MM → Prop} {b : Nat}  (r : Nat) : ∀ {S : MM}  {w1 : Int32} {i2 n : Nat} {lv : Lv} (hL : LY S b) (ir : IR S)   (g0 : lvg lv 0 = some (.ref b)) (g1 : lvg lv 1 = some (.int w1)) (g2 : lvg lv 2 = some (.int (nI i2)))    (hr : i2 + r = 2) (hn : 5 + r * 3 ≤ n) (K : KVC Q S (g_X7_runTick_15 (sR S) b r i2  (sI S) w1)), wpn (kX7_runTick Q) n 15 lv [] S 0 0 := by
  induction r with
  | zero =>
    intro S  w1 i2 n lv hL ir   g0 g1 g2    hr hn K
    obtain ⟨d, rfl⟩ : ∃ d, n = d + 5 := ⟨n - 5, by omega⟩
    unfold g_X7_runTick_15 at K
    dsimp only at K
    refine u_X7_runTick_15 ?_
    unfold bX7_runTick_15
    refine e_ldI g2 ?_
    refine e_cN 2 rfl ?_
    refine e_ge (by omega) (by omega) (fun _ => ?_) (fun z => absurd z (by omega))
    refine u_X7_runTick_45 ?_
    unfold bX7_runTick_45
    refine e_ldA g0 ?_
    refine And.intro hL.2 (And.intro ⟨by decide, by decide⟩ (x_X7_stepAll hL ir (fun ir1 => ?_)))
    generalize f_X7_stepAll (sI S) (sR S) b = F1 at ir1 K ⊢
    refine e_ldA g0 ?_
    refine And.intro hL.2 (And.intro ⟨by decide, by decide⟩ (x_X7_tellAll hL ir1 (fun ir3 => ?_)))
    have e2 : f_X7_tellAll (sI (wI S F1)) (sR (wI S F1)) b = f_X7_tellAll F1 (sR S) b := rfl
    rw [e2] at ir3 ⊢
    generalize f_X7_tellAll F1 (sR S) b = T2 at ir3 K ⊢
    refine e_stI ?_
    refine e_ldA (lvg_ne g0 rfl (by decide)) ?_
    refine e_duA ?_
    refine e_gE hL.2 ?_
    refine e_cN 1 rfl ?_
    refine e_bopE ?_
    refine e_tJ hL.2 ir3 (fun N e => nomatch (show (none : Option Nat) = some N from e)) (fun ir5 => ?_)
    refine e_ldA (lvg_ne g0 rfl (by decide)) ?_
    refine e_ldI lvg_self ?_
    refine ⟨fun h7 => ?_, fun h7 => ?_⟩
    · replace K := kx_p h7 K
      refine u_X7_runTick_73 ?_
      unfold bX7_runTick_73
      refine e_ldA (lvg_ne g0 rfl (by decide)) ?_
      refine e_gE hL.2 ?_
      refine e_cN 1 rfl ?_
      refine e_bopE ?_
      refine u_X7_runTick_79 ?_
      unfold bX7_runTick_79
      refine e_tJ hL.2 ir5 (fun N e => nomatch (show (none : Option Nat) = some N from e)) (fun ir8 => ?_)
      refine e_ldA (lvg_ne g0 rfl (by decide)) ?_
      refine e_gE hL.2 ?_
      refine e_cN 300 rfl ?_
      refine ⟨fun h10 => ?_, fun h10 => ?_⟩
      · replace K := kx_p h10 K
        refine u_X7_runTick_109 ?_
        unfold bX7_runTick_109
        exact e_rV (K ir8)
      · replace K := kx_n h10 K
        refine e_ldA (lvg_ne g0 rfl (by decide)) ?_
        refine And.intro hL.2 (And.intro ⟨by decide, by decide⟩ (x_X7_isSettled hL ir8 (KP_i ?_)))
        refine ⟨fun h11 => ?_, fun h11 => ?_⟩
        · replace K := kx_p h11 K
          refine e_ldA (lvg_ne g0 rfl (by decide)) ?_
          refine e_duA ?_
          refine e_gE hL.2 ?_
          refine e_cN 1 rfl ?_
          refine e_bopE ?_
          refine e_tJ hL.2 ir8 (fun N e => nomatch (show (none : Option Nat) = some N from e)) (fun ir12 => ?_)
          refine u_X7_runTick_109 ?_
          unfold bX7_runTick_109
          exact e_rV (K ir12)
        · replace K := kx_n h11 K
          refine u_X7_runTick_109 ?_
          unfold bX7_runTick_109
          exact e_rV (K ir8)
    · replace K := kx_n h7 K
      refine e_cN 0 rfl ?_
      refine u_X7_runTick_79 ?_
      unfold bX7_runTick_79
      refine e_tJ hL.2 ir5 (fun N e => nomatch (show (none : Option Nat) = some N from e)) (fun ir14 => ?_)
      refine e_ldA (lvg_ne g0 rfl (by decide)) ?_
      refine e_gE hL.2 ?_
      refine e_cN 300 rfl ?_
      refine ⟨fun h16 => ?_, fun h16 => ?_⟩
      · replace K := kx_p h16 K
        refine u_X7_runTick_109 ?_
        unfold bX7_runTick_109
        exact e_rV (K ir14)
      · replace K := kx_n h16 K
        refine e_ldA (lvg_ne g0 rfl (by decide)) ?_
        refine And.intro hL.2 (And.intro ⟨by decide, by decide⟩ (x_X7_isSettled hL ir14 (KP_i ?_)))
        refine ⟨fun h17 => ?_, fun h17 => ?_⟩
        · replace K := kx_p h17 K
          refine e_ldA (lvg_ne g0 rfl (by decide)) ?_
          refine e_duA ?_
          refine e_gE hL.2 ?_
          refine e_cN 1 rfl ?_
          refine e_bopE ?_
          refine e_tJ hL.2 ir14 (fun N e => nomatch (show (none : Option Nat) = some N from e)) (fun ir18 => ?_)
          refine u_X7_runTick_109 ?_
          unfold bX7_runTick_109
          exact e_rV (K ir18)
        · replace K := kx_n h17 K
          refine u_X7_runTick_109 ?_
          unfold bX7_runTick_109
          exact e_rV (K ir14)
  | succ r ih =>
    intro S  w1 i2 n lv hL ir   g0 g1 g2    hr hn K
    obtain ⟨d, hd, rfl⟩ : ∃ d, 5 + r * 3 ≤ d ∧ n = d + 3 := ⟨n - 3, by omega, by omega⟩
    unfold g_X7_runTick_15 at K
    refine u_X7_runTick_15 ?_
    unfold bX7_runTick_15
    refine e_ldI g2 ?_
    refine e_cN 2 rfl ?_
    refine e_ge (by omega) (by omega) (fun z => absurd z (by omega)) (fun _ => ?_)
    refine e_ldA g0 ?_
    refine e_gR hL.2 (ly_ea hL).1 ?_
    refine e_ldI g2 ?_
    refine e_aR (N := 2) (ly_ea hL).2.1 (ly_ea hL).2.2 (by omega) (by decide) (ly_E hL (by omega)).1 ?_
    refine e_ldI g2 ?_
    refine e_ldI g1 ?_
    refine ⟨fun h1 => ?_, fun h1 => ?_⟩
    · replace K := kx_p h1 K
      refine e_cN 1 rfl ?_
      refine u_X7_runTick_36 ?_
      unfold bX7_runTick_36
      refine And.intro (ly_E hL (by omega)).2.1 (And.intro ⟨by decide, by decide⟩ (x_X1_formBundles hL (by omega) ir (fun ir2 => ?_)))
      refine e_inc g2 ?_
      exact ih hL ir2   (lvg_ne g0 rfl (by decide)) (lvg_ne g1 rfl (by decide)) lvg_self    (by omega) (by omega) K
    · replace K := kx_n h1 K
      refine u_X7_runTick_35 ?_
      unfold bX7_runTick_35
      refine e_cN 0 rfl ?_
      refine u_X7_runTick_36 ?_
      unfold bX7_runTick_36
      refine And.intro (ly_E hL (by omega)).2.1 (And.intro ⟨by decide, by decide⟩ (x_X1_formBundles hL (by omega) ir (fun ir4 => ?_)))
      refine e_inc g2 ?_
      exact ih hL ir4   (lvg_ne g0 rfl (by decide)) (lvg_ne g1 rfl (by decide)) lvg_self    (by omega) (by omega) K
def f_X7_runTick (I : Nat → Nat → Int32) (R : Nat → Nat → Option Nat) (b : Nat) : Nat → Nat → Int32 := let I2 := f_X7_bringAll I R b; let I4 := f_X7_ageAll I2 R b; g_X7_runTick_15 R b 2 0  I4 (nI (f_X7_strongerEnd I4 R b))
theorem x_X7_runTick {Q : Option Value → MM → Prop} {S : MM} {b : Nat} (hL : LY S b) (ir : IR S)   (K : KVC Q S (f_X7_runTick (sI S) (sR S) b)) : wX7_runTick [.ref b] S Q := by
  unfold f_X7_runTick at K
  dsimp only at K
  refine Exists.intro 12 (u_X7_runTick_0 ?_)
  unfold bX7_runTick_0
  refine e_ldA rfl ?_
  refine And.intro hL.2 (And.intro ⟨by decide, by decide⟩ (x_X7_bringAll hL ir (fun ir1 => ?_)))
  generalize f_X7_bringAll (sI S) (sR S) b = F1 at ir1 K ⊢
  refine e_ldA rfl ?_
  refine And.intro hL.2 (And.intro ⟨by decide, by decide⟩ (x_X7_ageAll hL ir1 (fun ir3 => ?_)))
  have e2 : f_X7_ageAll (sI (wI S F1)) (sR (wI S F1)) b = f_X7_ageAll F1 (sR S) b := rfl
  rw [e2] at ir3 ⊢
  generalize f_X7_ageAll F1 (sR S) b = F2 at ir3 K ⊢
  refine e_ldA rfl ?_
  refine And.intro hL.2 (And.intro ⟨by decide, by decide⟩ (x_X7_strongerEnd hL ir3 (fun hb5 => ?_)))
  refine e_stI ?_
  refine e_cN 0 rfl ?_
  refine e_stI ?_
  exact y_X7_runTick_15 2 hL ir3   (lvg_ne (lvg_ne rfl rfl (by decide)) rfl (by decide)) (lvg_ne lvg_self rfl (by decide)) lvg_self    (by omega) (by omega) K
