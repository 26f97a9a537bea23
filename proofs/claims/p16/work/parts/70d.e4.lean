def f_X3_takeDueNote (I : Nat → Nat → Int32) (R : Nat → Nat → Option Nat) (b : Nat) (c : Nat) (e : Nat) (v : Int32) : (Nat → Nat → Int32) × Option Nat := if (I (Ln R b c e) 2).toNatClampNeg = 0 then ((I, none)) else (if (I (Nt R b c e (I (Ln R b c e) 1).toNatClampNeg) 2) ≤ v then (let I6 := up2 I (Ln R b c e) 1 (nI (((I (Ln R b c e) 1).toNatClampNeg + 1) % 8)); let I8 := up2 I6 (Ln R b c e) 2 (nI ((I (Ln R b c e) 2).toNatClampNeg - 1)); (I8, some (Nt R b c e (I (Ln R b c e) 1).toNatClampNeg))) else ((I, none)))
theorem x_X3_takeDueNote {Q : Option Value → MM → Prop} {S : MM} {b : Nat} {c : Nat} {e : Nat} {v : Int32} (hL : LY S b) (hc : c < 8) (he : e < 2) (ir : IR S)   (K : KAC 5 Q S (f_X3_takeDueNote (sI S) (sR S) b c e v)) : wX3_takeDueNote [.ref (Ln (sR S) b c e), .int v] S Q := by
  unfold f_X3_takeDueNote at K
  refine Exists.intro 2 (u_X3_takeDueNote_0 ?_)
  unfold bX3_takeDueNote_0
  refine e_ldA rfl ?_
  have q1 := ir_n ir (ly_N hL hc he).2.1 (show rg 4 2 = some 9 from rfl)
  have hq1 := q1.2
  refine e_gV (ly_N hL hc he).2.1 q1.1 ?_
  refine e_ifN (by omega) (fun h2 => ?_) (fun h2 => ?_)
  · replace K := kx_p h2 K
    refine u_X3_takeDueNote_23 ?_
    unfold bX3_takeDueNote_23
    refine e_nul ?_
    exact e_rN (K ir (Or.inl rfl))
  · replace K := kx_n (by omega) K
    refine e_ldA rfl ?_
    refine e_gR (ly_N hL hc he).2.1 (ly_na hL (by omega) (by omega)).1 ?_
    refine e_ldA rfl ?_
    have q3 := ir_n ir (ly_N hL hc he).2.1 (show rg 4 1 = some 8 from rfl)
    have hq3 := q3.2
    refine e_gV (ly_N hL hc he).2.1 q3.1 ?_
    refine e_aR (N := 8) (ly_na hL (by omega) (by omega)).2.1 (ly_na hL (by omega) (by omega)).2.2 (by omega) (by decide) (ly_T hL (by omega) (by omega) (by omega)).1 ?_
    refine e_gE (ly_T hL (by omega) (by omega) (by omega)).2.1 ?_
    refine e_ldI rfl ?_
    refine ⟨fun h4 => ?_, fun h4 => ?_⟩
    · replace K := kx_p h4 K
      refine u_X3_takeDueNote_25 ?_
      unfold bX3_takeDueNote_25
      refine e_ldA rfl ?_
      refine e_gR (ly_N hL hc he).2.1 (ly_na hL (by omega) (by omega)).1 ?_
      refine e_ldA rfl ?_
      refine e_gV (ly_N hL hc he).2.1 q3.1 ?_
      refine e_aR (N := 8) (ly_na hL (by omega) (by omega)).2.1 (ly_na hL (by omega) (by omega)).2.2 (by omega) (by decide) (ly_T hL (by omega) (by omega) (by omega)).1 ?_
      refine e_stA ?_
      refine e_ldA (lvg_ne rfl rfl (by decide)) ?_
      refine e_ldA (lvg_ne rfl rfl (by decide)) ?_
      refine e_gV (ly_N hL hc he).2.1 q3.1 ?_
      refine e_cN 1 rfl ?_
      refine e_add ?_
      refine e_cN 8 rfl ?_
      refine e_rem (by omega) (by decide) (by decide) ?_
      refine e_tJ (ly_N hL hc he).2.1 ir (fun N e => by have e2 : some 8 = some N := e; cases e2; exact ⟨_, by omega, rfl⟩) (fun ir5 => ?_)
      refine e_ldA (lvg_ne rfl rfl (by decide)) ?_
      refine e_duA ?_
      refine e_gV (ly_N hL hc he).2.1 (rd_k q1.1 (by decide)) ?_
      refine e_cN 1 rfl ?_
      refine e_sub (by omega) ?_
      refine e_tJ (ly_N hL hc he).2.1 ir5 (fun N e => by have e2 : some 9 = some N := e; cases e2; exact ⟨_, by omega, rfl⟩) (fun ir7 => ?_)
      refine e_ldA lvg_self ?_
      exact e_rA (K ir7 (Or.inr (ly_T hL (by omega) (by omega) (by omega)).2.1))
    · replace K := kx_n h4 K
      refine u_X3_takeDueNote_23 ?_
      unfold bX3_takeDueNote_23
      refine e_nul ?_
      exact e_rN (K ir (Or.inl rfl))
def g_X7_bringNotes_2 (R : Nat → Nat → Option Nat) (b : Nat) (p : Nat) (c : Nat) (e : Nat) : Nat → Nat → (Nat → Nat → Int32) → (Nat → Nat → Int32)
  | 0, i3, I => I
  | r + 1, i3, I => let t3 := f_X3_takeDueNote I R b c e (I b 2); let I5 := t3.1; if t3.2 = none then (I5) else (let I7 := f_X5_hear I5 p ((R p 0).getD 0) ((R p 1).getD 0) (t3.2.getD 0) ((R (t3.2.getD 0) 0).getD 0) ((R (t3.2.getD 0) 1).getD 0); g_X7_bringNotes_2 R b p c e r (i3 + 1)  I7 )
theorem y_X7_bringNotes_2 {Q : Option Value → MM → Prop} {b : Nat} {p : Nat} {c : Nat} {e : Nat}  (r : Nat) : ∀ {S : MM}   {i3 n : Nat} {lv : Lv} (hL : LY S b) (kp : sK S p = 6) (hc : c < 8) (he : e < 2) (ir : IR S)   (g0 : lvg lv 0 = some (.ref b)) (g1 : lvg lv 1 = some (.ref (Ln (sR S) b c e))) (g2 : lvg lv 2 = some (.ref p)) (g3 : lvg lv 3 = some (.int (nI i3)))    (hr : i3 + r = 8) (hn : 2 + r * 2 ≤ n) (K : KVC Q S (g_X7_bringNotes_2 (sR S) b p c e r i3  (sI S) )), wpn (kX7_bringNotes Q) n 2 lv [] S 0 0 := by
  induction r with
  | zero =>
    intro S   i3 n lv hL kp hc he ir   g0 g1 g2 g3    hr hn K
    obtain ⟨d, rfl⟩ : ∃ d, n = d + 2 := ⟨n - 2, by omega⟩
    unfold g_X7_bringNotes_2 at K
    refine u_X7_bringNotes_2 ?_
    unfold bX7_bringNotes_2
    refine e_ldI g3 ?_
    refine e_cN 8 rfl ?_
    refine e_ge (by omega) (by omega) (fun _ => ?_) (fun z => absurd z (by omega))
    refine u_X7_bringNotes_36 ?_
    unfold bX7_bringNotes_36
    exact e_rV (K ir)
  | succ r ih =>
    intro S   i3 n lv hL kp hc he ir   g0 g1 g2 g3    hr hn K
    obtain ⟨d, hd, rfl⟩ : ∃ d, 2 + r * 2 ≤ d ∧ n = d + 2 := ⟨n - 2, by omega, by omega⟩
    unfold g_X7_bringNotes_2 at K
    refine u_X7_bringNotes_2 ?_
    unfold bX7_bringNotes_2
    refine e_ldI g3 ?_
    refine e_cN 8 rfl ?_
    refine e_ge (by omega) (by omega) (fun z => absurd z (by omega)) (fun _ => ?_)
    refine e_ldA g1 ?_
    refine e_ldA g0 ?_
    refine e_gE hL.2 ?_
    refine And.intro (ly_N hL hc he).2.1 (And.intro ⟨by decide, by decide⟩ (x_X3_takeDueNote hL (by omega) (by omega) ir (fun ir1 hk2 => ?_)))
    refine e_stV (fun h4 => ?_) (fun h4 => ?_)
    · replace K := kx_p h4 K
      refine e_ldN lvg_self ?_
      refine e_nnN ?_
      exact e_rV (K ir1)
    · replace K := kx_n h4 K
      refine e_ldA lvg_self ?_
      refine e_nnA ?_
      refine u_X7_bringNotes_24 ?_
      unfold bX7_bringNotes_24
      refine e_ldA (lvg_ne g2 rfl (by decide)) ?_
      refine e_ldA lvg_self ?_
      refine And.intro kp (And.intro ⟨by decide, by decide⟩ (x_X5_hear kp (ly_f hL.1 kp (show rf 6 0 = some (7, 0) from rfl)).2.1 (ly_f hL.1 kp (show rf 6 1 = some (7, 0) from rfl)).2.1 (hk2.resolve_left h4) (ly_f hL.1 (hk2.resolve_left h4) (show rf 5 0 = some (7, 0) from rfl)).2.1 (ly_f hL.1 (hk2.resolve_left h4) (show rf 5 1 = some (7, 0) from rfl)).2.1 (ly_f hL.1 kp (show rf 6 0 = some (7, 0) from rfl)).1 (ly_f hL.1 kp (show rf 6 1 = some (7, 0) from rfl)).1 (ly_f hL.1 (hk2.resolve_left h4) (show rf 5 0 = some (7, 0) from rfl)).1 (ly_f hL.1 (hk2.resolve_left h4) (show rf 5 1 = some (7, 0) from rfl)).1 ir1 (fun ir6 => ?_)))
      refine e_inc (lvg_ne g3 rfl (by decide)) ?_
      exact ih hL kp hc he ir6   (lvg_ne (lvg_ne g0 rfl (by decide)) rfl (by decide)) (lvg_ne (lvg_ne g1 rfl (by decide)) rfl (by decide)) (lvg_ne (lvg_ne g2 rfl (by decide)) rfl (by decide)) lvg_self    (by omega) (by omega) K
def f_X7_bringNotes (I : Nat → Nat → Int32) (R : Nat → Nat → Option Nat) (b : Nat) (p : Nat) (c : Nat) (e : Nat) : Nat → Nat → Int32 := g_X7_bringNotes_2 R b p c e 8 0  I 
theorem x_X7_bringNotes {Q : Option Value → MM → Prop} {S : MM} {b : Nat} {p : Nat} {c : Nat} {e : Nat} (hL : LY S b) (kp : sK S p = 6) (hc : c < 8) (he : e < 2) (ir : IR S)   (K : KVC Q S (f_X7_bringNotes (sI S) (sR S) b p c e)) : wX7_bringNotes [.ref b, .ref (Ln (sR S) b c e), .ref p] S Q := by
  unfold f_X7_bringNotes at K
  refine Exists.intro 19 (u_X7_bringNotes_0 ?_)
  unfold bX7_bringNotes_0
  refine e_cN 0 rfl ?_
  refine e_stI ?_
  exact y_X7_bringNotes_2 8 hL kp hc he ir   (lvg_ne rfl rfl (by decide)) (lvg_ne rfl rfl (by decide)) (lvg_ne rfl rfl (by decide)) lvg_self    (by omega) (by omega) K
def f_X7_tellFrom (I : Nat → Nat → Int32) (R : Nat → Nat → Option Nat) (b : Nat) (e : Nat) (x : Nat) : (Nat → Nat → Int32) × Int32 := if cbl (I (Pt R b e x) 2) then (let I3 := f_X5_rememberTelling I (Pt R b e x) (Ow R b e x) (La R b e x) (I b 2); if (I3 (Ln R b (I (Pt R b e x) 2).toNatClampNeg e) 6) ≤ 0 then (let I6 := f_X3_addNote I3 R b (I (Pt R b e x) 2).toNatClampNeg e e x ((I3 b 2) + (I3 (Cb R b (I (Pt R b e x) 2).toNatClampNeg) 2)); (I6, (nI 1))) else (let I8 := up2 I3 (Ln R b (I (Pt R b e x) 2).toNatClampNeg e) 6 ((I3 (Ln R b (I (Pt R b e x) 2).toNatClampNeg e) 6) - (nI 1)); (I8, (nI 0)))) else ((I, (nI 1)))
theorem x_X7_tellFrom {Q : Option Value → MM → Prop} {S : MM} {b : Nat} {e : Nat} {x : Nat} (hL : LY S b) (he : e < 2) (hx : x < 8) (ir : IR S)   (K : KBC Q S (f_X7_tellFrom (sI S) (sR S) b e x)) : wX7_tellFrom [.ref b, .int (nI e), .ref (Pt (sR S) b e x)] S Q := by
  unfold f_X7_tellFrom at K
  refine Exists.intro 3 (u_X7_tellFrom_0 ?_)
  unfold bX7_tellFrom_0
  refine e_ldA rfl ?_
  refine e_gE (ly_P hL he hx).2.1 ?_
  refine And.intro ⟨by decide, by decide⟩ (x_cbl (fun h1 => ?_) (fun h1 => ?_))
  · replace K := kx_n h1 K
    refine ⟨fun _ => ?_, fun z => absurd (by decide) z⟩
    refine e_cN 1 rfl ?_
    exact And.intro (Or.inr rfl) (K ir)
  · replace K := kx_p h1 K
    have bh1 := (cbl_e h1).2
    refine ⟨fun z => absurd z (by decide), fun _ => ?_⟩
    refine u_X7_tellFrom_12 ?_
    unfold bX7_tellFrom_12
    refine e_ldA rfl ?_
    refine e_gR hL.2 (ly_ca hL).1 ?_
    refine e_ldA rfl ?_
    refine e_gV (ly_P hL he hx).2.1 (cbl_e h1).1 ?_
    refine e_aR (N := 8) (ly_ca hL).2.1 (ly_ca hL).2.2 (by omega) (by decide) (ly_C hL (by omega)).1 ?_
    refine e_stA ?_
    refine e_ldA lvg_self ?_
    refine e_gR (ly_C hL (by omega)).2.1 (ly_la hL (by omega)).1 ?_
    refine e_ldI (lvg_ne rfl rfl (by decide)) ?_
    refine e_aR (N := 2) (ly_la hL (by omega)).2.1 (ly_la hL (by omega)).2.2 (by omega) (by decide) (ly_N hL (by omega) (by omega)).1 ?_
    refine e_stA ?_
    refine e_ldA (lvg_ne (lvg_ne rfl rfl (by decide)) rfl (by decide)) ?_
    refine e_ldA (lvg_ne (lvg_ne rfl rfl (by decide)) rfl (by decide)) ?_
    refine e_gE hL.2 ?_
    refine And.intro (ly_P hL he hx).2.1 (And.intro ⟨by decide, by decide⟩ (x_X5_rememberTelling (ly_P hL he hx).2.1 (ly_O hL (by omega) (by omega)).2.1 (ly_L hL (by omega) (by omega)).2.1 (ly_O hL (by omega) (by omega)).1 (ly_L hL (by omega) (by omega)).1 ir (fun ir2 => ?_)))
    refine e_ldA lvg_self ?_
    refine e_gE (ly_N hL (by omega) (by omega)).2.1 ?_
    refine ⟨fun h4 => ?_, fun h4 => ?_⟩
    · replace K := kx_p h4 K
      refine u_X7_tellFrom_59 ?_
      unfold bX7_tellFrom_59
      refine e_ldA lvg_self ?_
      refine e_ldA (lvg_ne (lvg_ne rfl rfl (by decide)) rfl (by decide)) ?_
      refine e_ldA (lvg_ne (lvg_ne rfl rfl (by decide)) rfl (by decide)) ?_
      refine e_gE hL.2 ?_
      refine e_ldA (lvg_ne lvg_self rfl (by decide)) ?_
      refine e_gE (ly_C hL (by omega)).2.1 ?_
      refine e_bopE ?_
      refine And.intro (ly_N hL (by omega) (by omega)).2.1 (And.intro ⟨by decide, by decide⟩ (x_X3_addNote (S := wI S (f_X5_rememberTelling (sI S) (Pt (sR S) b e x) (Ow (sR S) b e x) (La (sR S) b e x) (sI S b 2))) (LY_w hL) (by omega) (by omega) (by omega) (by omega) ir2 (fun ir5 => ?_)))
      refine e_cN 1 rfl ?_
      exact And.intro (Or.inr rfl) (K ir5)
    · replace K := kx_n h4 K
      refine e_ldA lvg_self ?_
      refine e_duA ?_
      refine e_gE (ly_N hL (by omega) (by omega)).2.1 ?_
      refine e_cN 1 rfl ?_
      refine e_bopE ?_
      refine e_tJ (ly_N hL (by omega) (by omega)).2.1 ir2 (fun N e => nomatch (show (none : Option Nat) = some N from e)) (fun ir7 => ?_)
      refine e_cN 0 rfl ?_
      exact And.intro (Or.inl rfl) (K ir7)
def xp_X7_tellAll_11 (Q : Option Value → MM → Prop) (S : MM) (b : Nat) (i2 : Nat) (Fx : Nat) (z : (Nat → Nat → Int32) × Int32) : Prop := ∀ (n : Nat) (lv : Lv), Fx ≤ n → IR (wI S z.1) →  (z.2 = 0 ∨ z.2 = 1) →  lvg lv 0 = some (.ref b) → lvg lv 1 = some (.int z.2) → lvg lv 2 = some (.int (nI i2)) → wpn (kX7_tellAll Q) n 60 lv [] (wI S z.1) 0 0
def g_X7_tellAll_11 (R : Nat → Nat → Option Nat) (b : Nat) : Nat → Nat → Nat → (Nat → Nat → Int32) → Int32 → ((Nat → Nat → Int32) × Int32)
  | 0, i3, i2, I, w1 => (I, w1)
  | r + 1, i3, i2, I, w1 => if (f_X5_mustTell I (Pt R b i2 i3) (Ow R b i2 i3) (Pa R b i2 i3) (La R b i2 i3) (I b 2)) = 0 then (g_X7_tellAll_11 R b r (i3 + 1) i2 I w1) else (let I3 := (f_X7_tellFrom I R b i2 i3).1; if (f_X7_tellFrom I R b i2 i3).2 = 0 then (g_X7_tellAll_11 R b r (i3 + 1) i2 I3 (nI 1)) else (g_X7_tellAll_11 R b r (i3 + 1) i2 I3 w1))
theorem y_X7_tellAll_11 {Q : Option Value → MM → Prop} {b : Nat}  {Fx : Nat} (r : Nat) : ∀ {S : MM} {i2 : Nat} {w1 : Int32} {i3 n : Nat} {lv : Lv} (hL : LY S b) (ir : IR S) (hi2 : i2 < 2)  (g0 : lvg lv 0 = some (.ref b)) (g1 : lvg lv 1 = some (.int w1)) (g2 : lvg lv 2 = some (.int (nI i2))) (g3 : lvg lv 3 = some (.int (nI i3))) (b1 : w1 = 0 ∨ w1 = 1)   (hr : i3 + r = 8) (hn : Fx + 1 + r * 2 ≤ n) (K : xp_X7_tellAll_11 Q S b i2 Fx (g_X7_tellAll_11 (sR S) b r i3 i2 (sI S) w1)), wpn (kX7_tellAll Q) n 11 lv [] S 0 0 := by
  induction r with
  | zero =>
    intro S i2 w1 i3 n lv hL ir hi2  g0 g1 g2 g3 b1   hr hn K
    obtain ⟨d, hd, rfl⟩ : ∃ d, Fx ≤ d ∧ n = d + 1 := ⟨n - 1, by omega, by omega⟩
    unfold g_X7_tellAll_11 at K
    refine u_X7_tellAll_11 ?_
    unfold bX7_tellAll_11
    refine e_ldI g3 ?_
    refine e_cN 8 rfl ?_
    refine e_ge (by omega) (by omega) (fun _ => ?_) (fun z => absurd z (by omega))
    exact K _ _ (by omega) ir  b1  g0 g1 g2
  | succ r ih =>
    intro S i2 w1 i3 n lv hL ir hi2  g0 g1 g2 g3 b1   hr hn K
    obtain ⟨d, hd, rfl⟩ : ∃ d, Fx + 1 + r * 2 ≤ d ∧ n = d + 2 := ⟨n - 2, by omega, by omega⟩
    unfold g_X7_tellAll_11 at K
    refine u_X7_tellAll_11 ?_
    unfold bX7_tellAll_11
    refine e_ldI g3 ?_
    refine e_cN 8 rfl ?_
    refine e_ge (by omega) (by omega) (fun z => absurd z (by omega)) (fun _ => ?_)
    refine e_ldA g0 ?_
    refine e_gR hL.2 (ly_ea hL).1 ?_
    refine e_ldI g2 ?_
    refine e_aR (N := 2) (ly_ea hL).2.1 (ly_ea hL).2.2 (by omega) (by decide) (ly_E hL (by omega)).1 ?_
    refine e_gR (ly_E hL (by omega)).2.1 (ly_pa hL (by omega)).1 ?_
    refine e_ldI g3 ?_
    refine e_aR (N := 8) (ly_pa hL (by omega)).2.1 (ly_pa hL (by omega)).2.2 (by omega) (by decide) (ly_P hL (by omega) (by omega)).1 ?_
    refine e_stA ?_
    refine e_ldA lvg_self ?_
    refine e_ldA (lvg_ne g0 rfl (by decide)) ?_
    refine e_gE hL.2 ?_
    refine And.intro (ly_P hL (by omega) (by omega)).2.1 (And.intro ⟨by decide, by decide⟩ (x_X5_mustTell (ly_P hL (by omega) (by omega)).2.1 (ly_O hL (by omega) (by omega)).2.1 (ly_Q hL (by omega) (by omega)).2.1 (ly_L hL (by omega) (by omega)).2.1 (ly_O hL (by omega) (by omega)).1 (ly_Q hL (by omega) (by omega)).1 (ly_L hL (by omega) (by omega)).1 (KP_i ?_)))
    refine ⟨fun h1 => ?_, fun h1 => ?_⟩
    · replace K := kx_p h1 K
      refine u_X7_tellAll_54 ?_
      unfold bX7_tellAll_54
      refine e_inc (lvg_ne g3 rfl (by decide)) ?_
      exact ih hL ir (by omega)  (lvg_ne (lvg_ne g0 rfl (by decide)) rfl (by decide)) (lvg_ne (lvg_ne g1 rfl (by decide)) rfl (by decide)) (lvg_ne (lvg_ne g2 rfl (by decide)) rfl (by decide)) lvg_self b1   (by omega) (by omega) K
    · replace K := kx_n h1 K
      refine e_ldA (lvg_ne g0 rfl (by decide)) ?_
      refine e_ldI (lvg_ne g2 rfl (by decide)) ?_
      refine e_ldA lvg_self ?_
      refine And.intro hL.2 (And.intro ⟨by decide, by decide⟩ (x_X7_tellFrom hL (by omega) (by omega) ir (fun ir2 => ?_)))
      refine ⟨fun h4 => ?_, fun h4 => ?_⟩
      · replace K := kx_p h4 K
        refine e_cN 1 rfl ?_
        refine e_stI ?_
        refine u_X7_tellAll_54 ?_
        unfold bX7_tellAll_54
        refine e_inc (lvg_ne (lvg_ne g3 rfl (by decide)) rfl (by decide)) ?_
        exact ih hL ir2 (by omega)  (lvg_ne (lvg_ne (lvg_ne g0 rfl (by decide)) rfl (by decide)) rfl (by decide)) (lvg_ne lvg_self rfl (by decide)) (lvg_ne (lvg_ne (lvg_ne g2 rfl (by decide)) rfl (by decide)) rfl (by decide)) lvg_self (Or.inr rfl)   (by omega) (by omega) K
      · replace K := kx_n h4 K
        refine u_X7_tellAll_54 ?_
        unfold bX7_tellAll_54
        refine e_inc (lvg_ne g3 rfl (by decide)) ?_
        exact ih hL ir2 (by omega)  (lvg_ne (lvg_ne g0 rfl (by decide)) rfl (by decide)) (lvg_ne (lvg_ne g1 rfl (by decide)) rfl (by decide)) (lvg_ne (lvg_ne g2 rfl (by decide)) rfl (by decide)) lvg_self b1   (by omega) (by omega) K
def g_X7_tellAll_4 (R : Nat → Nat → Option Nat) (b : Nat) : Nat → Nat → (Nat → Nat → Int32) → Int32 → ((Nat → Nat → Int32) × Int32)
  | 0, i2, I, w1 => (I, w1)
  | r + 1, i2, I, w1 => let z2 := g_X7_tellAll_11 R b 8 0 i2 I w1; let I12 := z2.1; g_X7_tellAll_4 R b r (i2 + 1)  I12 z2.2
theorem y_X7_tellAll_4 {Q : Option Value → MM → Prop} {b : Nat}  (r : Nat) : ∀ {S : MM}  {w1 : Int32} {i2 n : Nat} {lv : Lv} (hL : LY S b) (ir : IR S)   (g0 : lvg lv 0 = some (.ref b)) (g1 : lvg lv 1 = some (.int w1)) (g2 : lvg lv 2 = some (.int (nI i2))) (b1 : w1 = 0 ∨ w1 = 1)   (hr : i2 + r = 2) (hn : 2 + r * 19 ≤ n) (K : KBC Q S (g_X7_tellAll_4 (sR S) b r i2  (sI S) w1)), wpn (kX7_tellAll Q) n 4 lv [] S 0 0 := by
  induction r with
  | zero =>
    intro S  w1 i2 n lv hL ir   g0 g1 g2 b1   hr hn K
    obtain ⟨d, rfl⟩ : ∃ d, n = d + 2 := ⟨n - 2, by omega⟩
    unfold g_X7_tellAll_4 at K
    refine u_X7_tellAll_4 ?_
    unfold bX7_tellAll_4
    refine e_ldI g2 ?_
    refine e_cN 2 rfl ?_
    refine e_ge (by omega) (by omega) (fun _ => ?_) (fun z => absurd z (by omega))
    refine u_X7_tellAll_66 ?_
    unfold bX7_tellAll_66
    refine e_ldI g1 ?_
    exact And.intro b1 (K ir)
  | succ r ih =>
    intro S  w1 i2 n lv hL ir   g0 g1 g2 b1   hr hn K
    obtain ⟨d, hd, rfl⟩ : ∃ d, 2 + r * 19 ≤ d ∧ n = d + 19 := ⟨n - 19, by omega, by omega⟩
    unfold g_X7_tellAll_4 at K
    refine u_X7_tellAll_4 ?_
    unfold bX7_tellAll_4
    refine e_ldI g2 ?_
    refine e_cN 2 rfl ?_
    refine e_ge (by omega) (by omega) (fun z => absurd z (by omega)) (fun _ => ?_)
    refine e_cN 0 rfl ?_
    refine e_stI ?_
    refine y_X7_tellAll_11 (Fx := d + 1) 8 hL ir (by omega)  (lvg_ne g0 rfl (by decide)) (lvg_ne g1 rfl (by decide)) (lvg_ne g2 rfl (by decide)) lvg_self b1   (by omega) (by omega) (fun n3 lv4 hn5 ir10  b11  g7 g8 g9 => ?_)
    obtain ⟨d6, hd6, rfl⟩ : ∃ d, d ≤ d ∧ n3 = d + 1 := ⟨n3 - 1, by omega, by omega⟩
    refine u_X7_tellAll_60 ?_
    unfold bX7_tellAll_60
    refine e_inc g9 ?_
    exact ih hL ir10   (lvg_ne g7 rfl (by decide)) (lvg_ne g8 rfl (by decide)) lvg_self b11   (by omega) (by omega) K
def f_X7_tellAll (I : Nat → Nat → Int32) (R : Nat → Nat → Option Nat) (b : Nat) : (Nat → Nat → Int32) × Int32 := g_X7_tellAll_4 R b 2 0  I (nI 0)
theorem x_X7_tellAll {Q : Option Value → MM → Prop} {S : MM} {b : Nat} (hL : LY S b) (ir : IR S)   (K : KBC Q S (f_X7_tellAll (sI S) (sR S) b)) : wX7_tellAll [.ref b] S Q := by
  unfold f_X7_tellAll at K
  refine Exists.intro 41 (u_X7_tellAll_0 ?_)
  unfold bX7_tellAll_0
  refine e_cN 0 rfl ?_
  refine e_stI ?_
  refine e_cN 0 rfl ?_
  refine e_stI ?_
  exact y_X7_tellAll_4 2 hL ir   (lvg_ne (lvg_ne rfl rfl (by decide)) rfl (by decide)) (lvg_ne lvg_self rfl (by decide)) lvg_self (Or.inl rfl)   (by omega) (by omega) K
