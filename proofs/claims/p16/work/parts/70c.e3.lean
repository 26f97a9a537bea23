theorem KVC_w {Q : Option Value → MM → Prop} {S : MM} {F Y : Nat → Nat → Int32} (h : KVC Q S Y) : KVC Q (wI S F) Y := h
theorem LY_w {S : MM} {b : Nat} {F : Nat → Nat → Int32} (h : LY S b) : LY (wI S F) b := h
def xp_X8_chooses_27 (Q : Option Value → MM → Prop) (S : MM) (m : Nat) (A : Nat → Nat) (e : Nat) (i2 : Nat) (Fx : Nat) (z : (Nat → Nat → Int32) × Int32 × Int32) : Prop := ∀ (n : Nat) (lv : Lv), Fx ≤ n → IM (wI S z.1) m A →    lvg lv 0 = some (.ref m) → lvg lv 1 = some (.int (nI e)) → lvg lv 2 = some (.int (nI i2)) → lvg lv 3 = some (.int z.2.1) → lvg lv 4 = some (.int z.2.2) → wpn (kX8_chooses Q) n 112 lv [] (wI S z.1) 0 0
def g_X8_chooses_27 (m : Nat) (A : Nat → Nat) (e : Nat) : Nat → Nat → Nat → (Nat → Nat → Int32) → Int32 → Int32 → ((Nat → Nat → Int32) × Int32 × Int32)
  | 0, i5, i2, I, w3, w4 => (I, w3, w4)
  | r + 1, i5, i2, I, w3, w4 => if (f_X8_fits I m A i2) = 0 then ((I, w3, w4)) else (if (f_X8_fits I m A i5) = 0 then (g_X8_chooses_27 m A e r (i5 + 1) i2 I w3 w4) else (if (f_X8_areLike I m A i2 i5) = 0 then (g_X8_chooses_27 m A e r (i5 + 1) i2 I w3 w4) else (if w3 = (-1 : Int32) then (if i5 = i2 then (g_X8_chooses_27 m A e r (i5 + 1) i2 I (nI (i5 % 8)) (w4 + (nI 0))) else (if (f_X8_isAhead I m A i5 i2) = 0 then (g_X8_chooses_27 m A e r (i5 + 1) i2 I (nI (i5 % 8)) (w4 + (nI 0))) else (g_X8_chooses_27 m A e r (i5 + 1) i2 I (nI (i5 % 8)) (w4 + (nI 1))))) else (if i5 = i2 then (g_X8_chooses_27 m A e r (i5 + 1) i2 I w3 (w4 + (nI 0))) else (if (f_X8_isAhead I m A i5 i2) = 0 then (g_X8_chooses_27 m A e r (i5 + 1) i2 I w3 (w4 + (nI 0))) else (g_X8_chooses_27 m A e r (i5 + 1) i2 I w3 (w4 + (nI 1))))))))
theorem y_X8_chooses_27 {Q : Option Value → MM → Prop} {m : Nat} {A : Nat → Nat} {e : Nat}  {Fx : Nat} (r : Nat) : ∀ {S : MM} {i2 : Nat} {w3 : Int32} {w4 : Int32} {i5 n : Nat} {lv : Lv} (hM : MS S m A) (he : e < 2) (ir : IM S m A) (hi2 : i2 < 8 * e + 8)  (g0 : lvg lv 0 = some (.ref m)) (g1 : lvg lv 1 = some (.int (nI e))) (g2 : lvg lv 2 = some (.int (nI i2))) (g3 : lvg lv 3 = some (.int w3)) (g4 : lvg lv 4 = some (.int w4)) (g5 : lvg lv 5 = some (.int (nI i5)))    (hr : i5 + r = (8 * e + 8)) (hn : Fx + 1 + r * 6 ≤ n) (K : xp_X8_chooses_27 Q S m A e i2 Fx (g_X8_chooses_27 m A e r i5 i2 (sI S) w3 w4)), wpn (kX8_chooses Q) n 27 lv [] S 0 0 := by
  induction r with
  | zero =>
    intro S i2 w3 w4 i5 n lv hM he ir hi2  g0 g1 g2 g3 g4 g5    hr hn K
    obtain ⟨d, hd, rfl⟩ : ∃ d, Fx ≤ d ∧ n = d + 1 := ⟨n - 1, by omega, by omega⟩
    unfold g_X8_chooses_27 at K
    refine u_X8_chooses_27 ?_
    unfold bX8_chooses_27
    refine e_ldI g5 ?_
    refine e_cN 8 rfl ?_
    refine e_ldI g1 ?_
    refine e_mul ?_
    refine e_cN 8 rfl ?_
    refine e_add ?_
    refine e_ge (by omega) (by omega) (fun _ => ?_) (fun z => absurd z (by omega))
    exact K _ _ (by omega) ir    g0 g1 g2 g3 g4
  | succ r ih =>
    intro S i2 w3 w4 i5 n lv hM he ir hi2  g0 g1 g2 g3 g4 g5    hr hn K
    obtain ⟨d, hd, rfl⟩ : ∃ d, Fx + 1 + r * 6 ≤ d ∧ n = d + 6 := ⟨n - 6, by omega, by omega⟩
    unfold g_X8_chooses_27 at K
    refine u_X8_chooses_27 ?_
    unfold bX8_chooses_27
    refine e_ldI g5 ?_
    refine e_cN 8 rfl ?_
    refine e_ldI g1 ?_
    refine e_mul ?_
    refine e_cN 8 rfl ?_
    refine e_add ?_
    refine e_ge (by omega) (by omega) (fun z => absurd z (by omega)) (fun _ => ?_)
    refine e_ldA g0 ?_
    refine e_ldI g2 ?_
    refine And.intro hM.1 (And.intro ⟨by decide, by decide⟩ (x_X8_fits hM (by omega) ir (KP_i ?_)))
    refine ⟨fun h1 => ?_, fun h1 => ?_⟩
    · replace K := kx_p h1 K
      exact K _ _ (by omega) ir    g0 g1 g2 g3 g4
    · replace K := kx_n h1 K
      refine e_ldA g0 ?_
      refine e_ldI g5 ?_
      refine And.intro hM.1 (And.intro ⟨by decide, by decide⟩ (x_X8_fits hM (by omega) ir (KP_i ?_)))
      refine ⟨fun h2 => ?_, fun h2 => ?_⟩
      · replace K := kx_p h2 K
        refine u_X8_chooses_106 ?_
        unfold bX8_chooses_106
        refine e_inc g5 ?_
        exact ih hM he ir (by omega)  (lvg_ne g0 rfl (by decide)) (lvg_ne g1 rfl (by decide)) (lvg_ne g2 rfl (by decide)) (lvg_ne g3 rfl (by decide)) (lvg_ne g4 rfl (by decide)) lvg_self    (by omega) (by omega) K
      · replace K := kx_n h2 K
        refine e_ldA g0 ?_
        refine e_ldI g2 ?_
        refine e_ldI g5 ?_
        refine And.intro hM.1 (And.intro ⟨by decide, by decide⟩ (x_X8_areLike hM (by omega) (by omega) ir (KP_i ?_)))
        refine ⟨fun h3 => ?_, fun h3 => ?_⟩
        · replace K := kx_p h3 K
          refine u_X8_chooses_106 ?_
          unfold bX8_chooses_106
          refine e_inc g5 ?_
          exact ih hM he ir (by omega)  (lvg_ne g0 rfl (by decide)) (lvg_ne g1 rfl (by decide)) (lvg_ne g2 rfl (by decide)) (lvg_ne g3 rfl (by decide)) (lvg_ne g4 rfl (by decide)) lvg_self    (by omega) (by omega) K
        · replace K := kx_n h3 K
          refine u_X8_chooses_69 ?_
          unfold bX8_chooses_69
          refine e_ldI g3 ?_
          refine e_cI ?_
          refine ⟨fun h4 => ?_, fun h4 => ?_⟩
          · replace K := kx_p h4 K
            refine e_ldI g5 ?_
            refine e_cN 8 rfl ?_
            refine e_rem (by omega) (by decide) (by decide) ?_
            refine e_stI ?_
            refine u_X8_chooses_80 ?_
            unfold bX8_chooses_80
            refine e_ldI (lvg_ne g4 rfl (by decide)) ?_
            refine e_ldI (lvg_ne g5 rfl (by decide)) ?_
            refine e_ldI (lvg_ne g2 rfl (by decide)) ?_
            refine e_eq (by omega) (by omega) (fun h5 => ?_) (fun h5 => ?_)
            · replace K := kx_p h5 K
              refine u_X8_chooses_102 ?_
              unfold bX8_chooses_102
              refine e_cN 0 rfl ?_
              refine u_X8_chooses_103 ?_
              unfold bX8_chooses_103
              refine e_bopE ?_
              refine e_stI ?_
              refine u_X8_chooses_106 ?_
              unfold bX8_chooses_106
              refine e_inc (lvg_ne (lvg_ne g5 rfl (by decide)) rfl (by decide)) ?_
              exact ih hM he ir (by omega)  (lvg_ne (lvg_ne (lvg_ne g0 rfl (by decide)) rfl (by decide)) rfl (by decide)) (lvg_ne (lvg_ne (lvg_ne g1 rfl (by decide)) rfl (by decide)) rfl (by decide)) (lvg_ne (lvg_ne (lvg_ne g2 rfl (by decide)) rfl (by decide)) rfl (by decide)) (lvg_ne (lvg_ne lvg_self rfl (by decide)) rfl (by decide)) (lvg_ne lvg_self rfl (by decide)) lvg_self    (by omega) (by omega) K
            · replace K := kx_n (by omega) K
              refine e_ldA (lvg_ne g0 rfl (by decide)) ?_
              refine e_ldI (lvg_ne g5 rfl (by decide)) ?_
              refine e_ldI (lvg_ne g2 rfl (by decide)) ?_
              refine And.intro hM.1 (And.intro ⟨by decide, by decide⟩ (x_X8_isAhead hM (by omega) (by omega) ir (KP_i ?_)))
              refine ⟨fun h6 => ?_, fun h6 => ?_⟩
              · replace K := kx_p h6 K
                refine u_X8_chooses_102 ?_
                unfold bX8_chooses_102
                refine e_cN 0 rfl ?_
                refine u_X8_chooses_103 ?_
                unfold bX8_chooses_103
                refine e_bopE ?_
                refine e_stI ?_
                refine u_X8_chooses_106 ?_
                unfold bX8_chooses_106
                refine e_inc (lvg_ne (lvg_ne g5 rfl (by decide)) rfl (by decide)) ?_
                exact ih hM he ir (by omega)  (lvg_ne (lvg_ne (lvg_ne g0 rfl (by decide)) rfl (by decide)) rfl (by decide)) (lvg_ne (lvg_ne (lvg_ne g1 rfl (by decide)) rfl (by decide)) rfl (by decide)) (lvg_ne (lvg_ne (lvg_ne g2 rfl (by decide)) rfl (by decide)) rfl (by decide)) (lvg_ne (lvg_ne lvg_self rfl (by decide)) rfl (by decide)) (lvg_ne lvg_self rfl (by decide)) lvg_self    (by omega) (by omega) K
              · replace K := kx_n h6 K
                refine e_cN 1 rfl ?_
                refine u_X8_chooses_103 ?_
                unfold bX8_chooses_103
                refine e_bopE ?_
                refine e_stI ?_
                refine u_X8_chooses_106 ?_
                unfold bX8_chooses_106
                refine e_inc (lvg_ne (lvg_ne g5 rfl (by decide)) rfl (by decide)) ?_
                exact ih hM he ir (by omega)  (lvg_ne (lvg_ne (lvg_ne g0 rfl (by decide)) rfl (by decide)) rfl (by decide)) (lvg_ne (lvg_ne (lvg_ne g1 rfl (by decide)) rfl (by decide)) rfl (by decide)) (lvg_ne (lvg_ne (lvg_ne g2 rfl (by decide)) rfl (by decide)) rfl (by decide)) (lvg_ne (lvg_ne lvg_self rfl (by decide)) rfl (by decide)) (lvg_ne lvg_self rfl (by decide)) lvg_self    (by omega) (by omega) K
          · replace K := kx_n h4 K
            refine u_X8_chooses_80 ?_
            unfold bX8_chooses_80
            refine e_ldI g4 ?_
            refine e_ldI g5 ?_
            refine e_ldI g2 ?_
            refine e_eq (by omega) (by omega) (fun h7 => ?_) (fun h7 => ?_)
            · replace K := kx_p h7 K
              refine u_X8_chooses_102 ?_
              unfold bX8_chooses_102
              refine e_cN 0 rfl ?_
              refine u_X8_chooses_103 ?_
              unfold bX8_chooses_103
              refine e_bopE ?_
              refine e_stI ?_
              refine u_X8_chooses_106 ?_
              unfold bX8_chooses_106
              refine e_inc (lvg_ne g5 rfl (by decide)) ?_
              exact ih hM he ir (by omega)  (lvg_ne (lvg_ne g0 rfl (by decide)) rfl (by decide)) (lvg_ne (lvg_ne g1 rfl (by decide)) rfl (by decide)) (lvg_ne (lvg_ne g2 rfl (by decide)) rfl (by decide)) (lvg_ne (lvg_ne g3 rfl (by decide)) rfl (by decide)) (lvg_ne lvg_self rfl (by decide)) lvg_self    (by omega) (by omega) K
            · replace K := kx_n (by omega) K
              refine e_ldA g0 ?_
              refine e_ldI g5 ?_
              refine e_ldI g2 ?_
              refine And.intro hM.1 (And.intro ⟨by decide, by decide⟩ (x_X8_isAhead hM (by omega) (by omega) ir (KP_i ?_)))
              refine ⟨fun h8 => ?_, fun h8 => ?_⟩
              · replace K := kx_p h8 K
                refine u_X8_chooses_102 ?_
                unfold bX8_chooses_102
                refine e_cN 0 rfl ?_
                refine u_X8_chooses_103 ?_
                unfold bX8_chooses_103
                refine e_bopE ?_
                refine e_stI ?_
                refine u_X8_chooses_106 ?_
                unfold bX8_chooses_106
                refine e_inc (lvg_ne g5 rfl (by decide)) ?_
                exact ih hM he ir (by omega)  (lvg_ne (lvg_ne g0 rfl (by decide)) rfl (by decide)) (lvg_ne (lvg_ne g1 rfl (by decide)) rfl (by decide)) (lvg_ne (lvg_ne g2 rfl (by decide)) rfl (by decide)) (lvg_ne (lvg_ne g3 rfl (by decide)) rfl (by decide)) (lvg_ne lvg_self rfl (by decide)) lvg_self    (by omega) (by omega) K
              · replace K := kx_n h8 K
                refine e_cN 1 rfl ?_
                refine u_X8_chooses_103 ?_
                unfold bX8_chooses_103
                refine e_bopE ?_
                refine e_stI ?_
                refine u_X8_chooses_106 ?_
                unfold bX8_chooses_106
                refine e_inc (lvg_ne g5 rfl (by decide)) ?_
                exact ih hM he ir (by omega)  (lvg_ne (lvg_ne g0 rfl (by decide)) rfl (by decide)) (lvg_ne (lvg_ne g1 rfl (by decide)) rfl (by decide)) (lvg_ne (lvg_ne g2 rfl (by decide)) rfl (by decide)) (lvg_ne (lvg_ne g3 rfl (by decide)) rfl (by decide)) (lvg_ne lvg_self rfl (by decide)) lvg_self    (by omega) (by omega) K
def g_X8_chooses_5 (m : Nat) (A : Nat → Nat) (e : Nat) : Nat → Nat → (Nat → Nat → Int32) → (Nat → Nat → Int32)
  | 0, i2, I => I
  | r + 1, i2, I => let z2 := g_X8_chooses_27 m A e 8 (8 * e) i2 I (-1 : Int32) (nI 0); let I13 := z2.1; if (I13 (A 9) i2) = (nI 4) then (if z2.2.1 = (I13 (A 12) i2) then (let I17 := up2 I13 (A 12) i2 z2.2.1; if z2.2.1 = (-1 : Int32) then (let I20 := up2 I17 (A 13) i2 (nI 0); g_X8_chooses_5 m A e r (i2 + 1)  I20 ) else (if (I17 (A 2) e) ≤ z2.2.2 then (let I23 := up2 I17 (A 13) i2 (nI 0); g_X8_chooses_5 m A e r (i2 + 1)  I23 ) else (let I25 := up2 I17 (A 13) i2 (nI 1); g_X8_chooses_5 m A e r (i2 + 1)  I25 ))) else (let I27 := up2 I13 (A 40) e ((I13 (A 40) e) + (nI 1)); let I29 := up2 I27 (A 12) i2 z2.2.1; if z2.2.1 = (-1 : Int32) then (let I32 := up2 I29 (A 13) i2 (nI 0); g_X8_chooses_5 m A e r (i2 + 1)  I32 ) else (if (I29 (A 2) e) ≤ z2.2.2 then (let I35 := up2 I29 (A 13) i2 (nI 0); g_X8_chooses_5 m A e r (i2 + 1)  I35 ) else (let I37 := up2 I29 (A 13) i2 (nI 1); g_X8_chooses_5 m A e r (i2 + 1)  I37 )))) else (let I39 := up2 I13 (A 12) i2 z2.2.1; if z2.2.1 = (-1 : Int32) then (let I42 := up2 I39 (A 13) i2 (nI 0); g_X8_chooses_5 m A e r (i2 + 1)  I42 ) else (if (I39 (A 2) e) ≤ z2.2.2 then (let I45 := up2 I39 (A 13) i2 (nI 0); g_X8_chooses_5 m A e r (i2 + 1)  I45 ) else (let I47 := up2 I39 (A 13) i2 (nI 1); g_X8_chooses_5 m A e r (i2 + 1)  I47 )))
theorem y_X8_chooses_5 {Q : Option Value → MM → Prop} {m : Nat} {A : Nat → Nat} {e : Nat}  (r : Nat) : ∀ {S : MM}   {i2 n : Nat} {lv : Lv} (hM : MS S m A) (he : e < 2) (ir : IM S m A)   (g0 : lvg lv 0 = some (.ref m)) (g1 : lvg lv 1 = some (.int (nI e))) (g2 : lvg lv 2 = some (.int (nI i2)))    (hr : i2 + r = (8 * e + 8)) (hn : 2 + r * 54 ≤ n) (K : KVM m A Q S (g_X8_chooses_5 m A e r i2  (sI S) )), wpn (kX8_chooses Q) n 5 lv [] S 0 0 := by
  induction r with
  | zero =>
    intro S   i2 n lv hM he ir   g0 g1 g2    hr hn K
    obtain ⟨d, rfl⟩ : ∃ d, n = d + 2 := ⟨n - 2, by omega⟩
    unfold g_X8_chooses_5 at K
    refine u_X8_chooses_5 ?_
    unfold bX8_chooses_5
    refine e_ldI g2 ?_
    refine e_cN 8 rfl ?_
    refine e_ldI g1 ?_
    refine e_mul ?_
    refine e_cN 8 rfl ?_
    refine e_add ?_
    refine e_ge (by omega) (by omega) (fun _ => ?_) (fun z => absurd z (by omega))
    refine u_X8_chooses_182 ?_
    unfold bX8_chooses_182
    exact e_rV (K ir)
  | succ r ih =>
    intro S   i2 n lv hM he ir   g0 g1 g2    hr hn K
    obtain ⟨d, hd, rfl⟩ : ∃ d, 2 + r * 54 ≤ d ∧ n = d + 54 := ⟨n - 54, by omega, by omega⟩
    unfold g_X8_chooses_5 at K
    refine u_X8_chooses_5 ?_
    unfold bX8_chooses_5
    refine e_ldI g2 ?_
    refine e_cN 8 rfl ?_
    refine e_ldI g1 ?_
    refine e_mul ?_
    refine e_cN 8 rfl ?_
    refine e_add ?_
    refine e_ge (by omega) (by omega) (fun z => absurd z (by omega)) (fun _ => ?_)
    refine e_cI ?_
    refine e_stI ?_
    refine e_cN 0 rfl ?_
    refine e_stI ?_
    refine e_cN 8 rfl ?_
    refine e_ldI (lvg_ne (lvg_ne g1 rfl (by decide)) rfl (by decide)) ?_
    refine e_mul ?_
    refine e_stI ?_
    refine y_X8_chooses_27 (Fx := d + 4) 8 hM he ir (by omega)  (lvg_ne (lvg_ne (lvg_ne g0 rfl (by decide)) rfl (by decide)) rfl (by decide)) (lvg_ne (lvg_ne (lvg_ne g1 rfl (by decide)) rfl (by decide)) rfl (by decide)) (lvg_ne (lvg_ne (lvg_ne g2 rfl (by decide)) rfl (by decide)) rfl (by decide)) (lvg_ne (lvg_ne lvg_self rfl (by decide)) rfl (by decide)) (lvg_ne lvg_self rfl (by decide)) lvg_self    (by omega) (by omega) (fun n3 lv4 hn5 ir12    g7 g8 g9 g10 g11 => ?_)
    obtain ⟨d6, hd6, rfl⟩ : ∃ d, d ≤ d ∧ n3 = d + 4 := ⟨n3 - 4, by omega, by omega⟩
    refine u_X8_chooses_112 ?_
    unfold bX8_chooses_112
    refine e_ldA g7 ?_
    refine e_gR hM.1 (hM.2.1 9 (by decide)).1 ?_
    refine e_ldI g9 ?_
    refine e_aE (N := 16) (kdA (k := 9) hM (by decide) rfl) (lnA (k := 9) hM (by decide) rfl) (by omega) (by decide) ?_
    refine e_cN 4 rfl ?_
    refine ⟨fun h14 => ?_, fun h14 => ?_⟩
    · replace K := kx_p h14 K
      refine e_ldI g10 ?_
      refine e_ldA g7 ?_
      refine e_gR hM.1 (hM.2.1 12 (by decide)).1 ?_
      refine e_ldI g9 ?_
      refine e_aE (N := 16) (kdA (k := 12) hM (by decide) rfl) (lnA (k := 12) hM (by decide) rfl) (by omega) (by decide) ?_
      refine ⟨fun h15 => ?_, fun h15 => ?_⟩
      · replace K := kx_p h15 K
        refine u_X8_chooses_142 ?_
        unfold bX8_chooses_142
        refine e_ldA g7 ?_
        refine e_gR hM.1 (hM.2.1 12 (by decide)).1 ?_
        refine e_ldI g9 ?_
        refine e_ldI g10 ?_
        refine e_mA (N := 16) (k := 12) hM ir12 (by decide) (kdA (k := 12) hM (by decide) rfl) (lnA (k := 12) hM (by decide) rfl) (by omega) (by decide) (fun N e => nomatch (show (none : Option Nat) = some N from e)) (fun e => absurd e (by decide)) (fun ir16 => ?_)
        refine e_ldA g7 ?_
        refine e_gR hM.1 (hM.2.1 13 (by decide)).1 ?_
        refine e_ldI g9 ?_
        refine e_ldI g10 ?_
        refine e_cI ?_
        refine ⟨fun h18 => ?_, fun h18 => ?_⟩
        · replace K := kx_p h18 K
          refine u_X8_chooses_174 ?_
          unfold bX8_chooses_174
          refine e_cN 0 rfl ?_
          refine u_X8_chooses_175 ?_
          unfold bX8_chooses_175
          refine e_mB (N := 16) (k := 13) hM ir16 (by decide) (kdA (k := 13) hM (by decide) rfl) (lnA (k := 13) hM (by decide) rfl) (by omega) (by decide) (Or.inl rfl) (fun N e => nomatch (show (none : Option Nat) = some N from e)) (fun e => absurd e (by decide)) (fun ir19 => ?_)
          refine e_inc g9 ?_
          exact ih hM he ir19   (lvg_ne g7 rfl (by decide)) (lvg_ne g8 rfl (by decide)) lvg_self    (by omega) (by omega) K
        · replace K := kx_n h18 K
          refine e_ldI g11 ?_
          refine e_ldA g7 ?_
          refine e_gR hM.1 (hM.2.1 2 (by decide)).1 ?_
          refine e_ldI g8 ?_
          refine e_aE (N := 2) (kdA (k := 2) hM (by decide) rfl) (lnA (k := 2) hM (by decide) rfl) (by omega) (by decide) ?_
          refine ⟨fun h21 => ?_, fun h21 => ?_⟩
          · replace K := kx_p h21 K
            refine u_X8_chooses_174 ?_
            unfold bX8_chooses_174
            refine e_cN 0 rfl ?_
            refine u_X8_chooses_175 ?_
            unfold bX8_chooses_175
            refine e_mB (N := 16) (k := 13) hM ir16 (by decide) (kdA (k := 13) hM (by decide) rfl) (lnA (k := 13) hM (by decide) rfl) (by omega) (by decide) (Or.inl rfl) (fun N e => nomatch (show (none : Option Nat) = some N from e)) (fun e => absurd e (by decide)) (fun ir22 => ?_)
            refine e_inc g9 ?_
            exact ih hM he ir22   (lvg_ne g7 rfl (by decide)) (lvg_ne g8 rfl (by decide)) lvg_self    (by omega) (by omega) K
          · replace K := kx_n h21 K
            refine e_cN 1 rfl ?_
            refine u_X8_chooses_175 ?_
            unfold bX8_chooses_175
            refine e_mB (N := 16) (k := 13) hM ir16 (by decide) (kdA (k := 13) hM (by decide) rfl) (lnA (k := 13) hM (by decide) rfl) (by omega) (by decide) (Or.inr rfl) (fun N e => nomatch (show (none : Option Nat) = some N from e)) (fun e => absurd e (by decide)) (fun ir24 => ?_)
            refine e_inc g9 ?_
            exact ih hM he ir24   (lvg_ne g7 rfl (by decide)) (lvg_ne g8 rfl (by decide)) lvg_self    (by omega) (by omega) K
      · replace K := kx_n h15 K
        refine e_ldA g7 ?_
        refine e_gR hM.1 (hM.2.1 40 (by decide)).1 ?_
        refine e_ldI g8 ?_
        refine e_du2 ?_
        refine e_aE (N := 2) (kdA (k := 40) hM (by decide) rfl) (lnA (k := 40) hM (by decide) rfl) (by omega) (by decide) ?_
        refine e_cN 1 rfl ?_
        refine e_bopE ?_
        refine e_mA (N := 2) (k := 40) hM ir12 (by decide) (kdA (k := 40) hM (by decide) rfl) (lnA (k := 40) hM (by decide) rfl) (by omega) (by decide) (fun N e => nomatch (show (none : Option Nat) = some N from e)) (fun e => absurd e (by decide)) (fun ir26 => ?_)
        refine u_X8_chooses_142 ?_
        unfold bX8_chooses_142
        refine e_ldA g7 ?_
        refine e_gR hM.1 (hM.2.1 12 (by decide)).1 ?_
        refine e_ldI g9 ?_
        refine e_ldI g10 ?_
        refine e_mA (N := 16) (k := 12) hM ir26 (by decide) (kdA (k := 12) hM (by decide) rfl) (lnA (k := 12) hM (by decide) rfl) (by omega) (by decide) (fun N e => nomatch (show (none : Option Nat) = some N from e)) (fun e => absurd e (by decide)) (fun ir28 => ?_)
        refine e_ldA g7 ?_
        refine e_gR hM.1 (hM.2.1 13 (by decide)).1 ?_
        refine e_ldI g9 ?_
        refine e_ldI g10 ?_
        refine e_cI ?_
        refine ⟨fun h30 => ?_, fun h30 => ?_⟩
        · replace K := kx_p h30 K
          refine u_X8_chooses_174 ?_
          unfold bX8_chooses_174
          refine e_cN 0 rfl ?_
          refine u_X8_chooses_175 ?_
          unfold bX8_chooses_175
          refine e_mB (N := 16) (k := 13) hM ir28 (by decide) (kdA (k := 13) hM (by decide) rfl) (lnA (k := 13) hM (by decide) rfl) (by omega) (by decide) (Or.inl rfl) (fun N e => nomatch (show (none : Option Nat) = some N from e)) (fun e => absurd e (by decide)) (fun ir31 => ?_)
          refine e_inc g9 ?_
          exact ih hM he ir31   (lvg_ne g7 rfl (by decide)) (lvg_ne g8 rfl (by decide)) lvg_self    (by omega) (by omega) K
        · replace K := kx_n h30 K
          refine e_ldI g11 ?_
          refine e_ldA g7 ?_
          refine e_gR hM.1 (hM.2.1 2 (by decide)).1 ?_
          refine e_ldI g8 ?_
          refine e_aE (N := 2) (kdA (k := 2) hM (by decide) rfl) (lnA (k := 2) hM (by decide) rfl) (by omega) (by decide) ?_
          refine ⟨fun h33 => ?_, fun h33 => ?_⟩
          · replace K := kx_p h33 K
            refine u_X8_chooses_174 ?_
            unfold bX8_chooses_174
            refine e_cN 0 rfl ?_
            refine u_X8_chooses_175 ?_
            unfold bX8_chooses_175
            refine e_mB (N := 16) (k := 13) hM ir28 (by decide) (kdA (k := 13) hM (by decide) rfl) (lnA (k := 13) hM (by decide) rfl) (by omega) (by decide) (Or.inl rfl) (fun N e => nomatch (show (none : Option Nat) = some N from e)) (fun e => absurd e (by decide)) (fun ir34 => ?_)
            refine e_inc g9 ?_
            exact ih hM he ir34   (lvg_ne g7 rfl (by decide)) (lvg_ne g8 rfl (by decide)) lvg_self    (by omega) (by omega) K
          · replace K := kx_n h33 K
            refine e_cN 1 rfl ?_
            refine u_X8_chooses_175 ?_
            unfold bX8_chooses_175
            refine e_mB (N := 16) (k := 13) hM ir28 (by decide) (kdA (k := 13) hM (by decide) rfl) (lnA (k := 13) hM (by decide) rfl) (by omega) (by decide) (Or.inr rfl) (fun N e => nomatch (show (none : Option Nat) = some N from e)) (fun e => absurd e (by decide)) (fun ir36 => ?_)
            refine e_inc g9 ?_
            exact ih hM he ir36   (lvg_ne g7 rfl (by decide)) (lvg_ne g8 rfl (by decide)) lvg_self    (by omega) (by omega) K
    · replace K := kx_n h14 K
      refine u_X8_chooses_142 ?_
      unfold bX8_chooses_142
      refine e_ldA g7 ?_
      refine e_gR hM.1 (hM.2.1 12 (by decide)).1 ?_
      refine e_ldI g9 ?_
      refine e_ldI g10 ?_
      refine e_mA (N := 16) (k := 12) hM ir12 (by decide) (kdA (k := 12) hM (by decide) rfl) (lnA (k := 12) hM (by decide) rfl) (by omega) (by decide) (fun N e => nomatch (show (none : Option Nat) = some N from e)) (fun e => absurd e (by decide)) (fun ir38 => ?_)
      refine e_ldA g7 ?_
      refine e_gR hM.1 (hM.2.1 13 (by decide)).1 ?_
      refine e_ldI g9 ?_
      refine e_ldI g10 ?_
      refine e_cI ?_
      refine ⟨fun h40 => ?_, fun h40 => ?_⟩
      · replace K := kx_p h40 K
        refine u_X8_chooses_174 ?_
        unfold bX8_chooses_174
        refine e_cN 0 rfl ?_
        refine u_X8_chooses_175 ?_
        unfold bX8_chooses_175
        refine e_mB (N := 16) (k := 13) hM ir38 (by decide) (kdA (k := 13) hM (by decide) rfl) (lnA (k := 13) hM (by decide) rfl) (by omega) (by decide) (Or.inl rfl) (fun N e => nomatch (show (none : Option Nat) = some N from e)) (fun e => absurd e (by decide)) (fun ir41 => ?_)
        refine e_inc g9 ?_
        exact ih hM he ir41   (lvg_ne g7 rfl (by decide)) (lvg_ne g8 rfl (by decide)) lvg_self    (by omega) (by omega) K
      · replace K := kx_n h40 K
        refine e_ldI g11 ?_
        refine e_ldA g7 ?_
        refine e_gR hM.1 (hM.2.1 2 (by decide)).1 ?_
        refine e_ldI g8 ?_
        refine e_aE (N := 2) (kdA (k := 2) hM (by decide) rfl) (lnA (k := 2) hM (by decide) rfl) (by omega) (by decide) ?_
        refine ⟨fun h43 => ?_, fun h43 => ?_⟩
        · replace K := kx_p h43 K
          refine u_X8_chooses_174 ?_
          unfold bX8_chooses_174
          refine e_cN 0 rfl ?_
          refine u_X8_chooses_175 ?_
          unfold bX8_chooses_175
          refine e_mB (N := 16) (k := 13) hM ir38 (by decide) (kdA (k := 13) hM (by decide) rfl) (lnA (k := 13) hM (by decide) rfl) (by omega) (by decide) (Or.inl rfl) (fun N e => nomatch (show (none : Option Nat) = some N from e)) (fun e => absurd e (by decide)) (fun ir44 => ?_)
          refine e_inc g9 ?_
          exact ih hM he ir44   (lvg_ne g7 rfl (by decide)) (lvg_ne g8 rfl (by decide)) lvg_self    (by omega) (by omega) K
        · replace K := kx_n h43 K
          refine e_cN 1 rfl ?_
          refine u_X8_chooses_175 ?_
          unfold bX8_chooses_175
          refine e_mB (N := 16) (k := 13) hM ir38 (by decide) (kdA (k := 13) hM (by decide) rfl) (lnA (k := 13) hM (by decide) rfl) (by omega) (by decide) (Or.inr rfl) (fun N e => nomatch (show (none : Option Nat) = some N from e)) (fun e => absurd e (by decide)) (fun ir46 => ?_)
          refine e_inc g9 ?_
          exact ih hM he ir46   (lvg_ne g7 rfl (by decide)) (lvg_ne g8 rfl (by decide)) lvg_self    (by omega) (by omega) K
def f_X8_chooses (I : Nat → Nat → Int32) (m : Nat) (A : Nat → Nat) (e : Nat) : Nat → Nat → Int32 := g_X8_chooses_5 m A e 8 (8 * e)  I 
theorem x_X8_chooses {Q : Option Value → MM → Prop} {S : MM} {m : Nat} {A : Nat → Nat} {e : Nat} (hM : MS S m A) (he : e < 2) (ir : IM S m A)   (K : KVM m A Q S (f_X8_chooses (sI S) m A e)) : wX8_chooses [.ref m, .int (nI e)] S Q := by
  unfold f_X8_chooses at K
  refine Exists.intro 435 (u_X8_chooses_0 ?_)
  unfold bX8_chooses_0
  refine e_cN 8 rfl ?_
  refine e_ldI rfl ?_
  refine e_mul ?_
  refine e_stI ?_
  exact y_X8_chooses_5 8 hM he ir   (lvg_ne rfl rfl (by decide)) (lvg_ne rfl rfl (by decide)) lvg_self    (by omega) (by omega) K
theorem nm_g_X8_chooses_27 {m : Nat} {A : Nat → Nat} {e : Nat} {z : Nat} (hz : ∀ k ∈ ([12, 13, 40] : List Nat), z ≠ A k) : ∀ (r : Nat) {i : Nat} {i2 : Nat} {I : Nat → Nat → Int32} {w3 : Int32} {w4 : Int32}, (g_X8_chooses_27 m A e r i i2 I w3 w4).1 z = I z := by
  intro r
  induction r with
  | zero =>
    intros
    simp only [g_X8_chooses_27]
    repeat' split
    all_goals simp only [up2_row (hz 12 (by decide)), up2_row (hz 13 (by decide)), up2_row (hz 40 (by decide))]
  | succ r ih =>
    intros
    simp only [g_X8_chooses_27]
    repeat' split
    all_goals simp only [up2_row (hz 12 (by decide)), up2_row (hz 13 (by decide)), up2_row (hz 40 (by decide)), ih]
theorem nm_g_X8_chooses_5 {m : Nat} {A : Nat → Nat} {e : Nat} {z : Nat} (hz : ∀ k ∈ ([12, 13, 40] : List Nat), z ≠ A k) : ∀ (r : Nat) {i : Nat}  {I : Nat → Nat → Int32} , (g_X8_chooses_5 m A e r i  I ) z = I z := by
  intro r
  induction r with
  | zero =>
    intros
    simp only [g_X8_chooses_5]
    repeat' split
    all_goals simp only [up2_row (hz 12 (by decide)), up2_row (hz 13 (by decide)), up2_row (hz 40 (by decide)), nm_g_X8_chooses_27 hz]
  | succ r ih =>
    intros
    simp only [g_X8_chooses_5]
    repeat' split
    all_goals simp only [up2_row (hz 12 (by decide)), up2_row (hz 13 (by decide)), up2_row (hz 40 (by decide)), nm_g_X8_chooses_27 hz, ih]
theorem nm_X8_chooses {I : Nat → Nat → Int32} {m : Nat} {A : Nat → Nat} {e : Nat} {z : Nat} (hz : ∀ k ∈ ([12, 13, 40] : List Nat), z ≠ A k) : (f_X8_chooses I m A e) z = I z := by
  simp only [f_X8_chooses]
  repeat' split
  all_goals simp only [up2_row (hz 12 (by decide)), up2_row (hz 13 (by decide)), up2_row (hz 40 (by decide)), nm_g_X8_chooses_27 hz, nm_g_X8_chooses_5 hz]
def f_X7_strongerEnd (I : Nat → Nat → Int32) (R : Nat → Nat → Option Nat) (b : Nat) : Nat := if (I (En R b 1) 1) < (I (En R b 0) 1) then (1) else (0)
theorem x_X7_strongerEnd {Q : Option Value → MM → Prop} {S : MM} {b : Nat} (hL : LY S b) (ir : IR S)   (K : KN 2 Q S (f_X7_strongerEnd (sI S) (sR S) b)) : wX7_strongerEnd [.ref b] S Q := by
  unfold f_X7_strongerEnd at K
  refine Exists.intro 3 (u_X7_strongerEnd_0 ?_)
  unfold bX7_strongerEnd_0
  refine e_ldA rfl ?_
  refine e_gR hL.2 (ly_ea hL).1 ?_
  refine e_cN 0 rfl ?_
  refine e_aR (N := 2) (ly_ea hL).2.1 (ly_ea hL).2.2 (by omega) (by decide) (ly_E hL (by omega)).1 ?_
  refine e_gE (ly_E hL (by omega)).2.1 ?_
  refine e_ldA rfl ?_
  refine e_gR hL.2 (ly_ea hL).1 ?_
  refine e_cN 1 rfl ?_
  refine e_aR (N := 2) (ly_ea hL).2.1 (ly_ea hL).2.2 (by omega) (by decide) (ly_E hL (by omega)).1 ?_
  refine e_gE (ly_E hL (by omega)).2.1 ?_
  refine ⟨fun h1 => ?_, fun h1 => ?_⟩
  · replace K := kx_p h1 K
    refine u_X7_strongerEnd_25 ?_
    unfold bX7_strongerEnd_25
    refine e_cN 1 rfl ?_
    refine u_X7_strongerEnd_26 ?_
    unfold bX7_strongerEnd_26
    exact e_rI (K (by omega))
  · replace K := kx_n h1 K
    refine e_cN 0 rfl ?_
    refine u_X7_strongerEnd_26 ?_
    unfold bX7_strongerEnd_26
    exact e_rI (K (by omega))
def xp_X7_ageAll_9 (Q : Option Value → MM → Prop) (S : MM) (b : Nat) (i1 : Nat) (Fx : Nat) (z : (Nat → Nat → Int32)) : Prop := ∀ (n : Nat) (lv : Lv), Fx ≤ n → IR (wI S z) →    lvg lv 0 = some (.ref b) → lvg lv 1 = some (.int (nI i1)) → wpn (kX7_ageAll Q) n 35 lv [] (wI S z) 0 0
def g_X7_ageAll_9 (R : Nat → Nat → Option Nat) (b : Nat) : Nat → Nat → Nat → (Nat → Nat → Int32) → ((Nat → Nat → Int32))
  | 0, i2, i1, I => I
  | r + 1, i2, i1, I => let I2 := f_X5_age I (Pt R b i1 i2) (Pa R b i1 i2); g_X7_ageAll_9 R b r (i2 + 1) i1 I2 
theorem y_X7_ageAll_9 {Q : Option Value → MM → Prop} {b : Nat}  {Fx : Nat} (r : Nat) : ∀ {S : MM} {i1 : Nat}  {i2 n : Nat} {lv : Lv} (hL : LY S b) (ir : IR S) (hi1 : i1 < 2)  (g0 : lvg lv 0 = some (.ref b)) (g1 : lvg lv 1 = some (.int (nI i1))) (g2 : lvg lv 2 = some (.int (nI i2)))    (hr : i2 + r = 8) (hn : Fx + 1 + r * 1 ≤ n) (K : xp_X7_ageAll_9 Q S b i1 Fx (g_X7_ageAll_9 (sR S) b r i2 i1 (sI S) )), wpn (kX7_ageAll Q) n 9 lv [] S 0 0 := by
  induction r with
  | zero =>
    intro S i1  i2 n lv hL ir hi1  g0 g1 g2    hr hn K
    obtain ⟨d, hd, rfl⟩ : ∃ d, Fx ≤ d ∧ n = d + 1 := ⟨n - 1, by omega, by omega⟩
    unfold g_X7_ageAll_9 at K
    refine u_X7_ageAll_9 ?_
    unfold bX7_ageAll_9
    refine e_ldI g2 ?_
    refine e_cN 8 rfl ?_
    refine e_ge (by omega) (by omega) (fun _ => ?_) (fun z => absurd z (by omega))
    exact K _ _ (by omega) ir    g0 g1
  | succ r ih =>
    intro S i1  i2 n lv hL ir hi1  g0 g1 g2    hr hn K
    obtain ⟨d, hd, rfl⟩ : ∃ d, Fx + 1 + r * 1 ≤ d ∧ n = d + 1 := ⟨n - 1, by omega, by omega⟩
    unfold g_X7_ageAll_9 at K
    refine u_X7_ageAll_9 ?_
    unfold bX7_ageAll_9
    refine e_ldI g2 ?_
    refine e_cN 8 rfl ?_
    refine e_ge (by omega) (by omega) (fun z => absurd z (by omega)) (fun _ => ?_)
    refine e_ldA g0 ?_
    refine e_gR hL.2 (ly_ea hL).1 ?_
    refine e_ldI g1 ?_
    refine e_aR (N := 2) (ly_ea hL).2.1 (ly_ea hL).2.2 (by omega) (by decide) (ly_E hL (by omega)).1 ?_
    refine e_gR (ly_E hL (by omega)).2.1 (ly_pa hL (by omega)).1 ?_
    refine e_ldI g2 ?_
    refine e_aR (N := 8) (ly_pa hL (by omega)).2.1 (ly_pa hL (by omega)).2.2 (by omega) (by decide) (ly_P hL (by omega) (by omega)).1 ?_
    refine And.intro (ly_P hL (by omega) (by omega)).2.1 (And.intro ⟨by decide, by decide⟩ (x_X5_age (ly_P hL (by omega) (by omega)).2.1 (ly_Q hL (by omega) (by omega)).2.1 (ly_Q hL (by omega) (by omega)).1 ir (fun ir1 => ?_)))
    refine e_inc g2 ?_
    exact ih hL ir1 (by omega)  (lvg_ne g0 rfl (by decide)) (lvg_ne g1 rfl (by decide)) lvg_self    (by omega) (by omega) K
def g_X7_ageAll_2 (R : Nat → Nat → Option Nat) (b : Nat) : Nat → Nat → (Nat → Nat → Int32) → (Nat → Nat → Int32)
  | 0, i1, I => I
  | r + 1, i1, I => let z2 := g_X7_ageAll_9 R b 8 0 i1 I ; let I10 := z2; g_X7_ageAll_2 R b r (i1 + 1)  I10 
theorem y_X7_ageAll_2 {Q : Option Value → MM → Prop} {b : Nat}  (r : Nat) : ∀ {S : MM}   {i1 n : Nat} {lv : Lv} (hL : LY S b) (ir : IR S)   (g0 : lvg lv 0 = some (.ref b)) (g1 : lvg lv 1 = some (.int (nI i1)))    (hr : i1 + r = 2) (hn : 2 + r * 11 ≤ n) (K : KVC Q S (g_X7_ageAll_2 (sR S) b r i1  (sI S) )), wpn (kX7_ageAll Q) n 2 lv [] S 0 0 := by
  induction r with
  | zero =>
    intro S   i1 n lv hL ir   g0 g1    hr hn K
    obtain ⟨d, rfl⟩ : ∃ d, n = d + 2 := ⟨n - 2, by omega⟩
    unfold g_X7_ageAll_2 at K
    refine u_X7_ageAll_2 ?_
    unfold bX7_ageAll_2
    refine e_ldI g1 ?_
    refine e_cN 2 rfl ?_
    refine e_ge (by omega) (by omega) (fun _ => ?_) (fun z => absurd z (by omega))
    refine u_X7_ageAll_41 ?_
    unfold bX7_ageAll_41
    exact e_rV (K ir)
  | succ r ih =>
    intro S   i1 n lv hL ir   g0 g1    hr hn K
    obtain ⟨d, hd, rfl⟩ : ∃ d, 2 + r * 11 ≤ d ∧ n = d + 11 := ⟨n - 11, by omega, by omega⟩
    unfold g_X7_ageAll_2 at K
    refine u_X7_ageAll_2 ?_
    unfold bX7_ageAll_2
    refine e_ldI g1 ?_
    refine e_cN 2 rfl ?_
    refine e_ge (by omega) (by omega) (fun z => absurd z (by omega)) (fun _ => ?_)
    refine e_cN 0 rfl ?_
    refine e_stI ?_
    refine y_X7_ageAll_9 (Fx := d + 1) 8 hL ir (by omega)  (lvg_ne g0 rfl (by decide)) (lvg_ne g1 rfl (by decide)) lvg_self    (by omega) (by omega) (fun n3 lv4 hn5 ir9    g7 g8 => ?_)
    obtain ⟨d6, hd6, rfl⟩ : ∃ d, d ≤ d ∧ n3 = d + 1 := ⟨n3 - 1, by omega, by omega⟩
    refine u_X7_ageAll_35 ?_
    unfold bX7_ageAll_35
    refine e_inc g8 ?_
    generalize g_X7_ageAll_9 (sR S) b 8 0 i1 (sI S) = F at ir9 K ⊢
    exact ih hL ir9   (lvg_ne g7 rfl (by decide)) lvg_self    (by omega) (by omega) K
def f_X7_ageAll (I : Nat → Nat → Int32) (R : Nat → Nat → Option Nat) (b : Nat) : Nat → Nat → Int32 := g_X7_ageAll_2 R b 2 0  I 
theorem x_X7_ageAll {Q : Option Value → MM → Prop} {S : MM} {b : Nat} (hL : LY S b) (ir : IR S)   (K : KVC Q S (f_X7_ageAll (sI S) (sR S) b)) : wX7_ageAll [.ref b] S Q := by
  unfold f_X7_ageAll at K
  refine Exists.intro 25 (u_X7_ageAll_0 ?_)
  unfold bX7_ageAll_0
  refine e_cN 0 rfl ?_
  refine e_stI ?_
  exact y_X7_ageAll_2 2 hL ir   (lvg_ne rfl rfl (by decide)) lvg_self    (by omega) (by omega) K
def xp_X7_stepAll_9 (Q : Option Value → MM → Prop) (S : MM) (b : Nat) (i1 : Nat) (Fx : Nat) (z : (Nat → Nat → Int32)) : Prop := ∀ (n : Nat) (lv : Lv), Fx ≤ n → IR (wI S z) →    lvg lv 0 = some (.ref b) → lvg lv 1 = some (.int (nI i1)) → wpn (kX7_stepAll Q) n 54 lv [] (wI S z) 0 0
def g_X7_stepAll_9 (R : Nat → Nat → Option Nat) (b : Nat) : Nat → Nat → Nat → (Nat → Nat → Int32) → ((Nat → Nat → Int32))
  | 0, i2, i1, I => I
  | r + 1, i2, i1, I => if (f_X5_isLit I (Pt R b i1 i2)) = 0 then (g_X7_stepAll_9 R b r (i2 + 1) i1 I ) else (let I3 := (f_X5_step I (Pt R b i1 i2) (Ow R b i1 i2) (Pa R b i1 i2)).1; let I5 := f_X1_moveTo I3 (En R b i1) (Pt R b i1 i2) (Ow R b i1 i2) (f_X5_step I (Pt R b i1 i2) (Ow R b i1 i2) (Pa R b i1 i2)).2; g_X7_stepAll_9 R b r (i2 + 1) i1 I5 )
theorem y_X7_stepAll_9 {Q : Option Value → MM → Prop} {b : Nat}  {Fx : Nat} (r : Nat) : ∀ {S : MM} {i1 : Nat}  {i2 n : Nat} {lv : Lv} (hL : LY S b) (ir : IR S) (hi1 : i1 < 2)  (g0 : lvg lv 0 = some (.ref b)) (g1 : lvg lv 1 = some (.int (nI i1))) (g2 : lvg lv 2 = some (.int (nI i2)))    (hr : i2 + r = 8) (hn : Fx + 1 + r * 2 ≤ n) (K : xp_X7_stepAll_9 Q S b i1 Fx (g_X7_stepAll_9 (sR S) b r i2 i1 (sI S) )), wpn (kX7_stepAll Q) n 9 lv [] S 0 0 := by
  induction r with
  | zero =>
    intro S i1  i2 n lv hL ir hi1  g0 g1 g2    hr hn K
    obtain ⟨d, hd, rfl⟩ : ∃ d, Fx ≤ d ∧ n = d + 1 := ⟨n - 1, by omega, by omega⟩
    unfold g_X7_stepAll_9 at K
    refine u_X7_stepAll_9 ?_
    unfold bX7_stepAll_9
    refine e_ldI g2 ?_
    refine e_cN 8 rfl ?_
    refine e_ge (by omega) (by omega) (fun _ => ?_) (fun z => absurd z (by omega))
    exact K _ _ (by omega) ir    g0 g1
  | succ r ih =>
    intro S i1  i2 n lv hL ir hi1  g0 g1 g2    hr hn K
    obtain ⟨d, hd, rfl⟩ : ∃ d, Fx + 1 + r * 2 ≤ d ∧ n = d + 2 := ⟨n - 2, by omega, by omega⟩
    unfold g_X7_stepAll_9 at K
    refine u_X7_stepAll_9 ?_
    unfold bX7_stepAll_9
    refine e_ldI g2 ?_
    refine e_cN 8 rfl ?_
    refine e_ge (by omega) (by omega) (fun z => absurd z (by omega)) (fun _ => ?_)
    refine e_ldA g0 ?_
    refine e_gR hL.2 (ly_ea hL).1 ?_
    refine e_ldI g1 ?_
    refine e_aR (N := 2) (ly_ea hL).2.1 (ly_ea hL).2.2 (by omega) (by decide) (ly_E hL (by omega)).1 ?_
    refine e_gR (ly_E hL (by omega)).2.1 (ly_pa hL (by omega)).1 ?_
    refine e_ldI g2 ?_
    refine e_aR (N := 8) (ly_pa hL (by omega)).2.1 (ly_pa hL (by omega)).2.2 (by omega) (by decide) (ly_P hL (by omega) (by omega)).1 ?_
    refine e_stA ?_
    refine e_ldA lvg_self ?_
    refine And.intro (ly_P hL (by omega) (by omega)).2.1 (And.intro ⟨by decide, by decide⟩ (x_X5_isLit (ly_P hL (by omega) (by omega)).2.1 (KP_i ?_)))
    refine ⟨fun h1 => ?_, fun h1 => ?_⟩
    · replace K := kx_p h1 K
      refine u_X7_stepAll_48 ?_
      unfold bX7_stepAll_48
      refine e_inc (lvg_ne g2 rfl (by decide)) ?_
      exact ih hL ir (by omega)  (lvg_ne (lvg_ne g0 rfl (by decide)) rfl (by decide)) (lvg_ne (lvg_ne g1 rfl (by decide)) rfl (by decide)) lvg_self    (by omega) (by omega) K
    · replace K := kx_n h1 K
      refine e_ldA (lvg_ne g0 rfl (by decide)) ?_
      refine e_gR hL.2 (ly_ea hL).1 ?_
      refine e_ldI (lvg_ne g1 rfl (by decide)) ?_
      refine e_aR (N := 2) (ly_ea hL).2.1 (ly_ea hL).2.2 (by omega) (by decide) (ly_E hL (by omega)).1 ?_
      refine e_ldA lvg_self ?_
      refine e_ldA lvg_self ?_
      refine And.intro (ly_P hL (by omega) (by omega)).2.1 (And.intro ⟨by decide, by decide⟩ (x_X5_step (ly_P hL (by omega) (by omega)).2.1 (ly_O hL (by omega) (by omega)).2.1 (ly_Q hL (by omega) (by omega)).2.1 (ly_O hL (by omega) (by omega)).1 (ly_Q hL (by omega) (by omega)).1 ir (fun ir2 => ?_)))
      refine And.intro (ly_E hL (by omega)).2.1 (And.intro ⟨by decide, by decide⟩ (x_X1_moveTo (ly_E hL (by omega)).2.1 (ly_P hL (by omega) (by omega)).2.1 (ly_O hL (by omega) (by omega)).2.1 (ly_O hL (by omega) (by omega)).1 ir2 (fun ir4 => ?_)))
      refine u_X7_stepAll_48 ?_
      unfold bX7_stepAll_48
      refine e_inc (lvg_ne g2 rfl (by decide)) ?_
      exact ih hL ir4 (by omega)  (lvg_ne (lvg_ne g0 rfl (by decide)) rfl (by decide)) (lvg_ne (lvg_ne g1 rfl (by decide)) rfl (by decide)) lvg_self    (by omega) (by omega) K
def g_X7_stepAll_2 (R : Nat → Nat → Option Nat) (b : Nat) : Nat → Nat → (Nat → Nat → Int32) → (Nat → Nat → Int32)
  | 0, i1, I => I
  | r + 1, i1, I => let z2 := g_X7_stepAll_9 R b 8 0 i1 I ; let I10 := z2; g_X7_stepAll_2 R b r (i1 + 1)  I10 
theorem y_X7_stepAll_2 {Q : Option Value → MM → Prop} {b : Nat}  (r : Nat) : ∀ {S : MM}   {i1 n : Nat} {lv : Lv} (hL : LY S b) (ir : IR S)   (g0 : lvg lv 0 = some (.ref b)) (g1 : lvg lv 1 = some (.int (nI i1)))    (hr : i1 + r = 2) (hn : 2 + r * 19 ≤ n) (K : KVC Q S (g_X7_stepAll_2 (sR S) b r i1  (sI S) )), wpn (kX7_stepAll Q) n 2 lv [] S 0 0 := by
  induction r with
  | zero =>
    intro S   i1 n lv hL ir   g0 g1    hr hn K
    obtain ⟨d, rfl⟩ : ∃ d, n = d + 2 := ⟨n - 2, by omega⟩
    unfold g_X7_stepAll_2 at K
    refine u_X7_stepAll_2 ?_
    unfold bX7_stepAll_2
    refine e_ldI g1 ?_
    refine e_cN 2 rfl ?_
    refine e_ge (by omega) (by omega) (fun _ => ?_) (fun z => absurd z (by omega))
    refine u_X7_stepAll_60 ?_
    unfold bX7_stepAll_60
    exact e_rV (K ir)
  | succ r ih =>
    intro S   i1 n lv hL ir   g0 g1    hr hn K
    obtain ⟨d, hd, rfl⟩ : ∃ d, 2 + r * 19 ≤ d ∧ n = d + 19 := ⟨n - 19, by omega, by omega⟩
    unfold g_X7_stepAll_2 at K
    refine u_X7_stepAll_2 ?_
    unfold bX7_stepAll_2
    refine e_ldI g1 ?_
    refine e_cN 2 rfl ?_
    refine e_ge (by omega) (by omega) (fun z => absurd z (by omega)) (fun _ => ?_)
    refine e_cN 0 rfl ?_
    refine e_stI ?_
    refine y_X7_stepAll_9 (Fx := d + 1) 8 hL ir (by omega)  (lvg_ne g0 rfl (by decide)) (lvg_ne g1 rfl (by decide)) lvg_self    (by omega) (by omega) (fun n3 lv4 hn5 ir9    g7 g8 => ?_)
    obtain ⟨d6, hd6, rfl⟩ : ∃ d, d ≤ d ∧ n3 = d + 1 := ⟨n3 - 1, by omega, by omega⟩
    refine u_X7_stepAll_54 ?_
    unfold bX7_stepAll_54
    refine e_inc g8 ?_
    exact ih hL ir9   (lvg_ne g7 rfl (by decide)) lvg_self    (by omega) (by omega) K
def f_X7_stepAll (I : Nat → Nat → Int32) (R : Nat → Nat → Option Nat) (b : Nat) : Nat → Nat → Int32 := g_X7_stepAll_2 R b 2 0  I 
theorem x_X7_stepAll {Q : Option Value → MM → Prop} {S : MM} {b : Nat} (hL : LY S b) (ir : IR S)   (K : KVC Q S (f_X7_stepAll (sI S) (sR S) b)) : wX7_stepAll [.ref b] S Q := by
  unfold f_X7_stepAll at K
  refine Exists.intro 41 (u_X7_stepAll_0 ?_)
  unfold bX7_stepAll_0
  refine e_cN 0 rfl ?_
  refine e_stI ?_
  exact y_X7_stepAll_2 2 hL ir   (lvg_ne rfl rfl (by decide)) lvg_self    (by omega) (by omega) K
def g_X1_bundleOf_18 (R : Nat → Nat → Option Nat) (b : Nat) (e : Nat) (x : Nat) : Nat → Nat → (Nat → Nat → Int32) → (Int32)
  | 0, i3, I => (nI x)
  | r + 1, i3, I => if (I (Pt R b e i3) 10) = (nI i3) then (if (f_X5_isLike I (Pt R b e i3) (Ow R b e i3) (Pa R b e i3) (Pt R b e x) (Ow R b e x) (Pa R b e x)) = 0 then (g_X1_bundleOf_18 R b e x r (i3 + 1)  I ) else ((nI i3))) else (g_X1_bundleOf_18 R b e x r (i3 + 1)  I )
theorem y_X1_bundleOf_18 {Q : Option Value → MM → Prop} {b : Nat} {e : Nat} {x : Nat}  (r : Nat) : ∀ {S : MM}   {i3 n : Nat} {lv : Lv} (hL : LY S b) (he : e < 2) (hx : x < 8) (ir : IR S)   (g0 : lvg lv 0 = some (.ref (En (sR S) b e))) (g1 : lvg lv 1 = some (.int (nI x))) (g2 : lvg lv 2 = some (.ref (Pt (sR S) b e x))) (g3 : lvg lv 3 = some (.int (nI i3)))    (hr : i3 + r = x) (hn : 2 + r * 2 ≤ n) (K : KP Q S (g_X1_bundleOf_18 (sR S) b e x r i3  (sI S) )), wpn (kX1_bundleOf Q) n 18 lv [] S 0 0 := by
  induction r with
  | zero =>
    intro S   i3 n lv hL he hx ir   g0 g1 g2 g3    hr hn K
    obtain ⟨d, rfl⟩ : ∃ d, n = d + 2 := ⟨n - 2, by omega⟩
    unfold g_X1_bundleOf_18 at K
    refine u_X1_bundleOf_18 ?_
    unfold bX1_bundleOf_18
    refine e_ldI g3 ?_
    refine e_ldI g1 ?_
    refine e_ge (by omega) (by omega) (fun _ => ?_) (fun z => absurd z (by omega))
    refine u_X1_bundleOf_57 ?_
    unfold bX1_bundleOf_57
    refine e_ldI g1 ?_
    exact e_rI K
  | succ r ih =>
    intro S   i3 n lv hL he hx ir   g0 g1 g2 g3    hr hn K
    obtain ⟨d, hd, rfl⟩ : ∃ d, 2 + r * 2 ≤ d ∧ n = d + 2 := ⟨n - 2, by omega, by omega⟩
    unfold g_X1_bundleOf_18 at K
    refine u_X1_bundleOf_18 ?_
    unfold bX1_bundleOf_18
    refine e_ldI g3 ?_
    refine e_ldI g1 ?_
    refine e_ge (by omega) (by omega) (fun z => absurd z (by omega)) (fun _ => ?_)
    refine e_ldA g0 ?_
    refine e_gR (ly_E hL he).2.1 (ly_pa hL (by omega)).1 ?_
    refine e_ldI g3 ?_
    refine e_aR (N := 8) (ly_pa hL (by omega)).2.1 (ly_pa hL (by omega)).2.2 (by omega) (by decide) (ly_P hL (by omega) (by omega)).1 ?_
    refine e_gE (ly_P hL (by omega) (by omega)).2.1 ?_
    refine e_ldI g3 ?_
    refine ⟨fun h1 => ?_, fun h1 => ?_⟩
    · replace K := kx_p h1 K
      refine e_ldA g0 ?_
      refine e_gR (ly_E hL he).2.1 (ly_pa hL (by omega)).1 ?_
      refine e_ldI g3 ?_
      refine e_aR (N := 8) (ly_pa hL (by omega)).2.1 (ly_pa hL (by omega)).2.2 (by omega) (by decide) (ly_P hL (by omega) (by omega)).1 ?_
      refine e_ldA g2 ?_
      refine And.intro (ly_P hL (by omega) (by omega)).2.1 (And.intro ⟨by decide, by decide⟩ (x_X5_isLike (ly_P hL (by omega) (by omega)).2.1 (ly_O hL (by omega) (by omega)).2.1 (ly_Q hL (by omega) (by omega)).2.1 (ly_P hL (by omega) (by omega)).2.1 (ly_O hL (by omega) (by omega)).2.1 (ly_Q hL (by omega) (by omega)).2.1 (ly_O hL (by omega) (by omega)).1 (ly_Q hL (by omega) (by omega)).1 (ly_O hL (by omega) (by omega)).1 (ly_Q hL (by omega) (by omega)).1 (KP_i ?_)))
      refine ⟨fun h2 => ?_, fun h2 => ?_⟩
      · replace K := kx_p h2 K
        refine u_X1_bundleOf_51 ?_
        unfold bX1_bundleOf_51
        refine e_inc g3 ?_
        exact ih hL he hx ir   (lvg_ne g0 rfl (by decide)) (lvg_ne g1 rfl (by decide)) (lvg_ne g2 rfl (by decide)) lvg_self    (by omega) (by omega) K
      · replace K := kx_n h2 K
        refine e_ldI g3 ?_
        exact e_rI K
    · replace K := kx_n h1 K
      refine u_X1_bundleOf_51 ?_
      unfold bX1_bundleOf_51
      refine e_inc g3 ?_
      exact ih hL he hx ir   (lvg_ne g0 rfl (by decide)) (lvg_ne g1 rfl (by decide)) (lvg_ne g2 rfl (by decide)) lvg_self    (by omega) (by omega) K
def f_X1_bundleOf (I : Nat → Nat → Int32) (R : Nat → Nat → Option Nat) (b : Nat) (e : Nat) (x : Nat) : Int32 := if (f_X5_fits I (Pt R b e x) (Ow R b e x) (Pa R b e x)) = 0 then ((-1 : Int32)) else (g_X1_bundleOf_18 R b e x x 0  I )
theorem x_X1_bundleOf {Q : Option Value → MM → Prop} {S : MM} {b : Nat} {e : Nat} {x : Nat} (hL : LY S b) (he : e < 2) (hx : x < 8) (ir : IR S)   (K : KP Q S (f_X1_bundleOf (sI S) (sR S) b e x)) : wX1_bundleOf [.ref (En (sR S) b e), .int (nI x)] S Q := by
  unfold f_X1_bundleOf at K
  refine Exists.intro 20 (u_X1_bundleOf_0 ?_)
  unfold bX1_bundleOf_0
  refine e_ldA rfl ?_
  refine e_gR (ly_E hL he).2.1 (ly_pa hL (by omega)).1 ?_
  refine e_ldI rfl ?_
  refine e_aR (N := 8) (ly_pa hL (by omega)).2.1 (ly_pa hL (by omega)).2.2 (by omega) (by decide) (ly_P hL (by omega) (by omega)).1 ?_
  refine e_stA ?_
  refine e_ldA lvg_self ?_
  refine And.intro (ly_P hL (by omega) (by omega)).2.1 (And.intro ⟨by decide, by decide⟩ (x_X5_fits (ly_P hL (by omega) (by omega)).2.1 (ly_O hL (by omega) (by omega)).2.1 (ly_Q hL (by omega) (by omega)).2.1 (ly_O hL (by omega) (by omega)).1 (ly_Q hL (by omega) (by omega)).1 (KP_i ?_)))
  refine ⟨fun h1 => ?_, fun h1 => ?_⟩
  · replace K := kx_p h1 K
    refine e_cI ?_
    exact e_rI K
  · replace K := kx_n h1 K
    refine u_X1_bundleOf_16 ?_
    unfold bX1_bundleOf_16
    refine e_cN 0 rfl ?_
    refine e_stI ?_
    exact y_X1_bundleOf_18 x hL he hx ir   (lvg_ne (lvg_ne rfl rfl (by decide)) rfl (by decide)) (lvg_ne (lvg_ne rfl rfl (by decide)) rfl (by decide)) (lvg_ne lvg_self rfl (by decide)) lvg_self    (by omega) (by omega) K
def g_X1_countAhead_5 (R : Nat → Nat → Option Nat) (b : Nat) (e : Nat) (x : Nat) (v : Int32) : Nat → Nat → (Nat → Nat → Int32) → Int32 → Int32 → (Int32)
  | 0, i4, I, w2, w3 => w3
  | r + 1, i4, I, w2, w3 => if (I (Pt R b e i4) 10) = (I (Pt R b e x) 10) then (if (f_X5_isAheadOf I (Pt R b e i4) (Ow R b e i4) (Pa R b e i4) (Pt R b e x) (Ow R b e x) (Pa R b e x) w2) = 0 then (g_X1_countAhead_5 R b e x v r (i4 + 1)  I w2 w3) else (g_X1_countAhead_5 R b e x v r (i4 + 1)  I w2 (w3 + (1)))) else (g_X1_countAhead_5 R b e x v r (i4 + 1)  I w2 w3)
theorem y_X1_countAhead_5 {Q : Option Value → MM → Prop} {b : Nat} {e : Nat} {x : Nat} {v : Int32}  (r : Nat) : ∀ {S : MM}  {w2 : Int32} {w3 : Int32} {i4 n : Nat} {lv : Lv} (hL : LY S b) (he : e < 2) (hx : x < 8) (ir : IR S)   (g0 : lvg lv 0 = some (.ref (En (sR S) b e))) (g1 : lvg lv 1 = some (.ref (Pt (sR S) b e x))) (g2 : lvg lv 2 = some (.int w2)) (g3 : lvg lv 3 = some (.int w3)) (g4 : lvg lv 4 = some (.int (nI i4)))    (hr : i4 + r = 8) (hn : 2 + r * 2 ≤ n) (K : KP Q S (g_X1_countAhead_5 (sR S) b e x v r i4  (sI S) w2 w3)), wpn (kX1_countAhead Q) n 5 lv [] S 0 0 := by
  induction r with
  | zero =>
    intro S  w2 w3 i4 n lv hL he hx ir   g0 g1 g2 g3 g4    hr hn K
    obtain ⟨d, rfl⟩ : ∃ d, n = d + 2 := ⟨n - 2, by omega⟩
    unfold g_X1_countAhead_5 at K
    refine u_X1_countAhead_5 ?_
    unfold bX1_countAhead_5
    refine e_ldI g4 ?_
    refine e_cN 8 rfl ?_
    refine e_ge (by omega) (by omega) (fun _ => ?_) (fun z => absurd z (by omega))
    refine u_X1_countAhead_53 ?_
    unfold bX1_countAhead_53
    refine e_ldI g3 ?_
    exact e_rI K
  | succ r ih =>
    intro S  w2 w3 i4 n lv hL he hx ir   g0 g1 g2 g3 g4    hr hn K
    obtain ⟨d, hd, rfl⟩ : ∃ d, 2 + r * 2 ≤ d ∧ n = d + 2 := ⟨n - 2, by omega, by omega⟩
    unfold g_X1_countAhead_5 at K
    refine u_X1_countAhead_5 ?_
    unfold bX1_countAhead_5
    refine e_ldI g4 ?_
    refine e_cN 8 rfl ?_
    refine e_ge (by omega) (by omega) (fun z => absurd z (by omega)) (fun _ => ?_)
    refine e_ldA g0 ?_
    refine e_gR (ly_E hL he).2.1 (ly_pa hL (by omega)).1 ?_
    refine e_ldI g4 ?_
    refine e_aR (N := 8) (ly_pa hL (by omega)).2.1 (ly_pa hL (by omega)).2.2 (by omega) (by decide) (ly_P hL (by omega) (by omega)).1 ?_
    refine e_gE (ly_P hL (by omega) (by omega)).2.1 ?_
    refine e_ldA g1 ?_
    refine e_gE (ly_P hL he hx).2.1 ?_
    refine ⟨fun h1 => ?_, fun h1 => ?_⟩
    · replace K := kx_p h1 K
      refine e_ldA g0 ?_
      refine e_gR (ly_E hL he).2.1 (ly_pa hL (by omega)).1 ?_
      refine e_ldI g4 ?_
      refine e_aR (N := 8) (ly_pa hL (by omega)).2.1 (ly_pa hL (by omega)).2.2 (by omega) (by decide) (ly_P hL (by omega) (by omega)).1 ?_
      refine e_ldA g1 ?_
      refine e_ldI g2 ?_
      refine And.intro (ly_P hL (by omega) (by omega)).2.1 (And.intro ⟨by decide, by decide⟩ (x_X5_isAheadOf (ly_P hL (by omega) (by omega)).2.1 (ly_O hL (by omega) (by omega)).2.1 (ly_Q hL (by omega) (by omega)).2.1 (ly_P hL he hx).2.1 (ly_O hL (by omega) (by omega)).2.1 (ly_Q hL (by omega) (by omega)).2.1 (ly_O hL (by omega) (by omega)).1 (ly_Q hL (by omega) (by omega)).1 (ly_O hL (by omega) (by omega)).1 (ly_Q hL (by omega) (by omega)).1 (KP_i ?_)))
      refine ⟨fun h2 => ?_, fun h2 => ?_⟩
      · replace K := kx_p h2 K
        refine u_X1_countAhead_47 ?_
        unfold bX1_countAhead_47
        refine e_inc g4 ?_
        exact ih hL he hx ir   (lvg_ne g0 rfl (by decide)) (lvg_ne g1 rfl (by decide)) (lvg_ne g2 rfl (by decide)) (lvg_ne g3 rfl (by decide)) lvg_self    (by omega) (by omega) K
      · replace K := kx_n h2 K
        refine e_incE g3 ?_
        refine u_X1_countAhead_47 ?_
        unfold bX1_countAhead_47
        refine e_inc (lvg_ne g4 rfl (by decide)) ?_
        exact ih hL he hx ir   (lvg_ne (lvg_ne g0 rfl (by decide)) rfl (by decide)) (lvg_ne (lvg_ne g1 rfl (by decide)) rfl (by decide)) (lvg_ne (lvg_ne g2 rfl (by decide)) rfl (by decide)) (lvg_ne lvg_self rfl (by decide)) lvg_self    (by omega) (by omega) K
    · replace K := kx_n h1 K
      refine u_X1_countAhead_47 ?_
      unfold bX1_countAhead_47
      refine e_inc g4 ?_
      exact ih hL he hx ir   (lvg_ne g0 rfl (by decide)) (lvg_ne g1 rfl (by decide)) (lvg_ne g2 rfl (by decide)) (lvg_ne g3 rfl (by decide)) lvg_self    (by omega) (by omega) K
def f_X1_countAhead (I : Nat → Nat → Int32) (R : Nat → Nat → Option Nat) (b : Nat) (e : Nat) (x : Nat) (v : Int32) : Int32 := g_X1_countAhead_5 R b e x v 8 0  I v (nI 0)
theorem x_X1_countAhead {Q : Option Value → MM → Prop} {S : MM} {b : Nat} {e : Nat} {x : Nat} {v : Int32} (hL : LY S b) (he : e < 2) (hx : x < 8) (ir : IR S)   (K : KP Q S (f_X1_countAhead (sI S) (sR S) b e x v)) : wX1_countAhead [.ref (En (sR S) b e), .ref (Pt (sR S) b e x), .int v] S Q := by
  unfold f_X1_countAhead at K
  refine Exists.intro 19 (u_X1_countAhead_0 ?_)
  unfold bX1_countAhead_0
  refine e_cN 0 rfl ?_
  refine e_stI ?_
  refine e_cN 0 rfl ?_
  refine e_stI ?_
  exact y_X1_countAhead_5 8 hL he hx ir   (lvg_ne (lvg_ne rfl rfl (by decide)) rfl (by decide)) (lvg_ne (lvg_ne rfl rfl (by decide)) rfl (by decide)) (lvg_ne (lvg_ne rfl rfl (by decide)) rfl (by decide)) (lvg_ne lvg_self rfl (by decide)) lvg_self    (by omega) (by omega) K
def g_X1_formBundles_63 (R : Nat → Nat → Option Nat) (b : Nat) (e : Nat) (v : Int32) : Nat → Nat → (Nat → Nat → Int32) → Int32 → (Nat → Nat → Int32)
  | 0, i2, I, w1 => I
  | r + 1, i2, I, w1 => if (I (Pt R b e i2) 10) = (-1 : Int32) then (let I3 := up2 I (Pt R b e i2) 11 (nI 0); g_X1_formBundles_63 R b e v r (i2 + 1)  I3 w1) else (if (I (En R b e) 2) ≤ (f_X1_countAhead I R b e i2 w1) then (let I6 := up2 I (Pt R b e i2) 11 (nI 0); g_X1_formBundles_63 R b e v r (i2 + 1)  I6 w1) else (let I8 := up2 I (Pt R b e i2) 11 (nI 1); g_X1_formBundles_63 R b e v r (i2 + 1)  I8 w1))
theorem y_X1_formBundles_63 {Q : Option Value → MM → Prop} {b : Nat} {e : Nat} {v : Int32}  (r : Nat) : ∀ {S : MM}  {w1 : Int32} {i2 n : Nat} {lv : Lv} (hL : LY S b) (he : e < 2) (ir : IR S)   (g0 : lvg lv 0 = some (.ref (En (sR S) b e))) (g1 : lvg lv 1 = some (.int w1)) (g2 : lvg lv 2 = some (.int (nI i2)))    (hr : i2 + r = 8) (hn : 2 + r * 3 ≤ n) (K : KVC Q S (g_X1_formBundles_63 (sR S) b e v r i2  (sI S) w1)), wpn (kX1_formBundles Q) n 63 lv [] S 0 0 := by
  induction r with
  | zero =>
    intro S  w1 i2 n lv hL he ir   g0 g1 g2    hr hn K
    obtain ⟨d, rfl⟩ : ∃ d, n = d + 2 := ⟨n - 2, by omega⟩
    unfold g_X1_formBundles_63 at K
    refine u_X1_formBundles_63 ?_
    unfold bX1_formBundles_63
    refine e_ldI g2 ?_
    refine e_cN 8 rfl ?_
    refine e_ge (by omega) (by omega) (fun _ => ?_) (fun z => absurd z (by omega))
    refine u_X1_formBundles_112 ?_
    unfold bX1_formBundles_112
    exact e_rV (K ir)
  | succ r ih =>
    intro S  w1 i2 n lv hL he ir   g0 g1 g2    hr hn K
    obtain ⟨d, hd, rfl⟩ : ∃ d, 2 + r * 3 ≤ d ∧ n = d + 3 := ⟨n - 3, by omega, by omega⟩
    unfold g_X1_formBundles_63 at K
    refine u_X1_formBundles_63 ?_
    unfold bX1_formBundles_63
    refine e_ldI g2 ?_
    refine e_cN 8 rfl ?_
    refine e_ge (by omega) (by omega) (fun z => absurd z (by omega)) (fun _ => ?_)
    refine e_ldA g0 ?_
    refine e_gR (ly_E hL he).2.1 (ly_pa hL (by omega)).1 ?_
    refine e_ldI g2 ?_
    refine e_aR (N := 8) (ly_pa hL (by omega)).2.1 (ly_pa hL (by omega)).2.2 (by omega) (by decide) (ly_P hL (by omega) (by omega)).1 ?_
    refine e_stA ?_
    refine e_ldA lvg_self ?_
    refine e_ldA lvg_self ?_
    refine e_gE (ly_P hL (by omega) (by omega)).2.1 ?_
    refine e_cI ?_
    refine ⟨fun h1 => ?_, fun h1 => ?_⟩
    · replace K := kx_p h1 K
      refine u_X1_formBundles_102 ?_
      unfold bX1_formBundles_102
      refine e_cN 0 rfl ?_
      refine u_X1_formBundles_103 ?_
      unfold bX1_formBundles_103
      refine e_tZJ (ly_P hL (by omega) (by omega)).2.1 (Or.inl rfl) ir (fun N e => nomatch (show (none : Option Nat) = some N from e)) (fun ir2 => ?_)
      refine e_inc (lvg_ne g2 rfl (by decide)) ?_
      exact ih hL he ir2   (lvg_ne (lvg_ne g0 rfl (by decide)) rfl (by decide)) (lvg_ne (lvg_ne g1 rfl (by decide)) rfl (by decide)) lvg_self    (by omega) (by omega) K
    · replace K := kx_n h1 K
      refine e_ldA (lvg_ne g0 rfl (by decide)) ?_
      refine e_ldA lvg_self ?_
      refine e_ldI (lvg_ne g1 rfl (by decide)) ?_
      refine And.intro (ly_E hL he).2.1 (And.intro ⟨by decide, by decide⟩ (x_X1_countAhead hL (by omega) (by omega) ir (KP_i ?_)))
      refine e_ldA (lvg_ne g0 rfl (by decide)) ?_
      refine e_gE (ly_E hL he).2.1 ?_
      refine ⟨fun h4 => ?_, fun h4 => ?_⟩
      · replace K := kx_p h4 K
        refine u_X1_formBundles_102 ?_
        unfold bX1_formBundles_102
        refine e_cN 0 rfl ?_
        refine u_X1_formBundles_103 ?_
        unfold bX1_formBundles_103
        refine e_tZJ (ly_P hL (by omega) (by omega)).2.1 (Or.inl rfl) ir (fun N e => nomatch (show (none : Option Nat) = some N from e)) (fun ir5 => ?_)
        refine e_inc (lvg_ne g2 rfl (by decide)) ?_
        exact ih hL he ir5   (lvg_ne (lvg_ne g0 rfl (by decide)) rfl (by decide)) (lvg_ne (lvg_ne g1 rfl (by decide)) rfl (by decide)) lvg_self    (by omega) (by omega) K
      · replace K := kx_n h4 K
        refine e_cN 1 rfl ?_
        refine u_X1_formBundles_103 ?_
        unfold bX1_formBundles_103
        refine e_tZJ (ly_P hL (by omega) (by omega)).2.1 (Or.inr rfl) ir (fun N e => nomatch (show (none : Option Nat) = some N from e)) (fun ir7 => ?_)
        refine e_inc (lvg_ne g2 rfl (by decide)) ?_
        exact ih hL he ir7   (lvg_ne (lvg_ne g0 rfl (by decide)) rfl (by decide)) (lvg_ne (lvg_ne g1 rfl (by decide)) rfl (by decide)) lvg_self    (by omega) (by omega) K
def g_X1_formBundles_2 (R : Nat → Nat → Option Nat) (b : Nat) (e : Nat) (v : Int32) : Nat → Nat → (Nat → Nat → Int32) → Int32 → (Nat → Nat → Int32)
  | 0, i2, I, w1 => g_X1_formBundles_63 R b e v 8 0  I w1
  | r + 1, i2, I, w1 => if (I (Pt R b e i2) 5) = (nI 4) then (if (I (Pt R b e i2) 10) = (f_X1_bundleOf I R b e i2) then (let I4 := up2 I (Pt R b e i2) 10 (f_X1_bundleOf I R b e i2); g_X1_formBundles_2 R b e v r (i2 + 1)  I4 w1) else (let I6 := up2 I (En R b e) 8 ((I (En R b e) 8) + (nI 1)); let I8 := up2 I6 (Pt R b e i2) 10 (f_X1_bundleOf I R b e i2); g_X1_formBundles_2 R b e v r (i2 + 1)  I8 w1)) else (let I10 := up2 I (Pt R b e i2) 10 (f_X1_bundleOf I R b e i2); g_X1_formBundles_2 R b e v r (i2 + 1)  I10 w1)
theorem y_X1_formBundles_2 {Q : Option Value → MM → Prop} {b : Nat} {e : Nat} {v : Int32}  (r : Nat) : ∀ {S : MM}  {w1 : Int32} {i2 n : Nat} {lv : Lv} (hL : LY S b) (he : e < 2) (ir : IR S)   (g0 : lvg lv 0 = some (.ref (En (sR S) b e))) (g1 : lvg lv 1 = some (.int w1)) (g2 : lvg lv 2 = some (.int (nI i2)))    (hr : i2 + r = 8) (hn : 28 + r * 2 ≤ n) (K : KVC Q S (g_X1_formBundles_2 (sR S) b e v r i2  (sI S) w1)), wpn (kX1_formBundles Q) n 2 lv [] S 0 0 := by
  induction r with
  | zero =>
    intro S  w1 i2 n lv hL he ir   g0 g1 g2    hr hn K
    obtain ⟨d, rfl⟩ : ∃ d, n = d + 28 := ⟨n - 28, by omega⟩
    unfold g_X1_formBundles_2 at K
    refine u_X1_formBundles_2 ?_
    unfold bX1_formBundles_2
    refine e_ldI g2 ?_
    refine e_cN 8 rfl ?_
    refine e_ge (by omega) (by omega) (fun _ => ?_) (fun z => absurd z (by omega))
    refine u_X1_formBundles_61 ?_
    unfold bX1_formBundles_61
    refine e_cN 0 rfl ?_
    refine e_stI ?_
    exact y_X1_formBundles_63 8 hL he ir   (lvg_ne g0 rfl (by decide)) (lvg_ne g1 rfl (by decide)) lvg_self    (by omega) (by omega) K
  | succ r ih =>
    intro S  w1 i2 n lv hL he ir   g0 g1 g2    hr hn K
    obtain ⟨d, hd, rfl⟩ : ∃ d, 28 + r * 2 ≤ d ∧ n = d + 2 := ⟨n - 2, by omega, by omega⟩
    unfold g_X1_formBundles_2 at K
    refine u_X1_formBundles_2 ?_
    unfold bX1_formBundles_2
    refine e_ldI g2 ?_
    refine e_cN 8 rfl ?_
    refine e_ge (by omega) (by omega) (fun z => absurd z (by omega)) (fun _ => ?_)
    refine e_ldA g0 ?_
    refine e_gR (ly_E hL he).2.1 (ly_pa hL (by omega)).1 ?_
    refine e_ldI g2 ?_
    refine e_aR (N := 8) (ly_pa hL (by omega)).2.1 (ly_pa hL (by omega)).2.2 (by omega) (by decide) (ly_P hL (by omega) (by omega)).1 ?_
    refine e_stA ?_
    refine e_ldA (lvg_ne g0 rfl (by decide)) ?_
    refine e_ldI (lvg_ne g2 rfl (by decide)) ?_
    refine And.intro (ly_E hL he).2.1 (And.intro ⟨by decide, by decide⟩ (x_X1_bundleOf hL (by omega) (by omega) ir (KP_i ?_)))
    refine e_stI ?_
    refine e_ldA (lvg_ne lvg_self rfl (by decide)) ?_
    refine e_gE (ly_P hL (by omega) (by omega)).2.1 ?_
    refine e_cN 4 rfl ?_
    refine ⟨fun h1 => ?_, fun h1 => ?_⟩
    · replace K := kx_p h1 K
      refine e_ldA (lvg_ne lvg_self rfl (by decide)) ?_
      refine e_gE (ly_P hL (by omega) (by omega)).2.1 ?_
      refine e_ldI lvg_self ?_
      refine ⟨fun h2 => ?_, fun h2 => ?_⟩
      · replace K := kx_p h2 K
        refine u_X1_formBundles_49 ?_
        unfold bX1_formBundles_49
        refine e_ldA (lvg_ne lvg_self rfl (by decide)) ?_
        refine e_ldI lvg_self ?_
        refine e_tJ (ly_P hL (by omega) (by omega)).2.1 ir (fun N e => nomatch (show (none : Option Nat) = some N from e)) (fun ir3 => ?_)
        refine e_inc (lvg_ne (lvg_ne g2 rfl (by decide)) rfl (by decide)) ?_
        exact ih hL he ir3   (lvg_ne (lvg_ne (lvg_ne g0 rfl (by decide)) rfl (by decide)) rfl (by decide)) (lvg_ne (lvg_ne (lvg_ne g1 rfl (by decide)) rfl (by decide)) rfl (by decide)) lvg_self    (by omega) (by omega) K
      · replace K := kx_n h2 K
        refine e_ldA (lvg_ne (lvg_ne g0 rfl (by decide)) rfl (by decide)) ?_
        refine e_duA ?_
        refine e_gE (ly_E hL he).2.1 ?_
        refine e_cN 1 rfl ?_
        refine e_bopE ?_
        refine e_tJ (ly_E hL he).2.1 ir (fun N e => nomatch (show (none : Option Nat) = some N from e)) (fun ir5 => ?_)
        refine u_X1_formBundles_49 ?_
        unfold bX1_formBundles_49
        refine e_ldA (lvg_ne lvg_self rfl (by decide)) ?_
        refine e_ldI lvg_self ?_
        refine e_tJ (ly_P hL (by omega) (by omega)).2.1 ir5 (fun N e => nomatch (show (none : Option Nat) = some N from e)) (fun ir7 => ?_)
        refine e_inc (lvg_ne (lvg_ne g2 rfl (by decide)) rfl (by decide)) ?_
        exact ih hL he ir7   (lvg_ne (lvg_ne (lvg_ne g0 rfl (by decide)) rfl (by decide)) rfl (by decide)) (lvg_ne (lvg_ne (lvg_ne g1 rfl (by decide)) rfl (by decide)) rfl (by decide)) lvg_self    (by omega) (by omega) K
    · replace K := kx_n h1 K
      refine u_X1_formBundles_49 ?_
      unfold bX1_formBundles_49
      refine e_ldA (lvg_ne lvg_self rfl (by decide)) ?_
      refine e_ldI lvg_self ?_
      refine e_tJ (ly_P hL (by omega) (by omega)).2.1 ir (fun N e => nomatch (show (none : Option Nat) = some N from e)) (fun ir9 => ?_)
      refine e_inc (lvg_ne (lvg_ne g2 rfl (by decide)) rfl (by decide)) ?_
      exact ih hL he ir9   (lvg_ne (lvg_ne (lvg_ne g0 rfl (by decide)) rfl (by decide)) rfl (by decide)) (lvg_ne (lvg_ne (lvg_ne g1 rfl (by decide)) rfl (by decide)) rfl (by decide)) lvg_self    (by omega) (by omega) K
def f_X1_formBundles (I : Nat → Nat → Int32) (R : Nat → Nat → Option Nat) (b : Nat) (e : Nat) (v : Int32) : Nat → Nat → Int32 := g_X1_formBundles_2 R b e v 8 0  I v
theorem x_X1_formBundles {Q : Option Value → MM → Prop} {S : MM} {b : Nat} {e : Nat} {v : Int32} (hL : LY S b) (he : e < 2) (ir : IR S)   (K : KVC Q S (f_X1_formBundles (sI S) (sR S) b e v)) : wX1_formBundles [.ref (En (sR S) b e), .int v] S Q := by
  unfold f_X1_formBundles at K
  refine Exists.intro 45 (u_X1_formBundles_0 ?_)
  unfold bX1_formBundles_0
  refine e_cN 0 rfl ?_
  refine e_stI ?_
  exact y_X1_formBundles_2 8 hL he ir   (lvg_ne rfl rfl (by decide)) (lvg_ne rfl rfl (by decide)) lvg_self    (by omega) (by omega) K
def g_X1_rename_7 (R : Nat → Nat → Option Nat) (b : Nat) (e : Nat) (v : Int32) : Nat → Nat → (Nat → Nat → Int32) → Int32 → (Nat → Nat → Int32)
  | 0, i2, I, w1 => I
  | r + 1, i2, I, w1 => let I2 := up2 I (Ow R b e i2) 0 w1; g_X1_rename_7 R b e v r (i2 + 1)  I2 w1
theorem y_X1_rename_7 {Q : Option Value → MM → Prop} {b : Nat} {e : Nat} {v : Int32}  (r : Nat) : ∀ {S : MM}  {w1 : Int32} {i2 n : Nat} {lv : Lv} (hL : LY S b) (he : e < 2) (ir : IR S)   (g0 : lvg lv 0 = some (.ref (En (sR S) b e))) (g1 : lvg lv 1 = some (.int w1)) (g2 : lvg lv 2 = some (.int (nI i2)))    (hr : i2 + r = 8) (hn : 2 + r * 1 ≤ n) (K : KVC Q S (g_X1_rename_7 (sR S) b e v r i2  (sI S) w1)), wpn (kX1_rename Q) n 7 lv [] S 0 0 := by
  induction r with
  | zero =>
    intro S  w1 i2 n lv hL he ir   g0 g1 g2    hr hn K
    obtain ⟨d, rfl⟩ : ∃ d, n = d + 2 := ⟨n - 2, by omega⟩
    unfold g_X1_rename_7 at K
    refine u_X1_rename_7 ?_
    unfold bX1_rename_7
    refine e_ldI g2 ?_
    refine e_cN 8 rfl ?_
    refine e_ge (by omega) (by omega) (fun _ => ?_) (fun z => absurd z (by omega))
    refine u_X1_rename_32 ?_
    unfold bX1_rename_32
    exact e_rV (K ir)
  | succ r ih =>
    intro S  w1 i2 n lv hL he ir   g0 g1 g2    hr hn K
    obtain ⟨d, hd, rfl⟩ : ∃ d, 2 + r * 1 ≤ d ∧ n = d + 1 := ⟨n - 1, by omega, by omega⟩
    unfold g_X1_rename_7 at K
    refine u_X1_rename_7 ?_
    unfold bX1_rename_7
    refine e_ldI g2 ?_
    refine e_cN 8 rfl ?_
    refine e_ge (by omega) (by omega) (fun z => absurd z (by omega)) (fun _ => ?_)
    refine e_ldA g0 ?_
    refine e_gR (ly_E hL he).2.1 (ly_pa hL (by omega)).1 ?_
    refine e_ldI g2 ?_
    refine e_aR (N := 8) (ly_pa hL (by omega)).2.1 (ly_pa hL (by omega)).2.2 (by omega) (by decide) (ly_P hL (by omega) (by omega)).1 ?_
    refine e_gR (ly_P hL (by omega) (by omega)).2.1 (ly_O hL (by omega) (by omega)).1 ?_
    refine e_ldI g1 ?_
    refine e_tJ (ly_O hL (by omega) (by omega)).2.1 ir (fun N e => nomatch (show (none : Option Nat) = some N from e)) (fun ir1 => ?_)
    refine e_inc g2 ?_
    exact ih hL he ir1   (lvg_ne g0 rfl (by decide)) (lvg_ne g1 rfl (by decide)) lvg_self    (by omega) (by omega) K
def f_X1_rename (I : Nat → Nat → Int32) (R : Nat → Nat → Option Nat) (b : Nat) (e : Nat) (v : Int32) : Nat → Nat → Int32 := let I2 := up2 I (En R b e) 1 v; g_X1_rename_7 R b e v 8 0  I2 v
theorem x_X1_rename {Q : Option Value → MM → Prop} {S : MM} {b : Nat} {e : Nat} {v : Int32} (hL : LY S b) (he : e < 2) (ir : IR S)   (K : KVC Q S (f_X1_rename (sI S) (sR S) b e v)) : wX1_rename [.ref (En (sR S) b e), .int v] S Q := by
  unfold f_X1_rename at K
  refine Exists.intro 11 (u_X1_rename_0 ?_)
  unfold bX1_rename_0
  refine e_ldA rfl ?_
  refine e_ldI rfl ?_
  refine e_tJ (ly_E hL he).2.1 ir (fun N e => nomatch (show (none : Option Nat) = some N from e)) (fun ir1 => ?_)
  refine e_cN 0 rfl ?_
  refine e_stI ?_
  exact y_X1_rename_7 8 hL he ir1   (lvg_ne rfl rfl (by decide)) (lvg_ne rfl rfl (by decide)) lvg_self    (by omega) (by omega) K
def f_X3_clear (I : Nat → Nat → Int32) (R : Nat → Nat → Option Nat) (b : Nat) (c : Nat) (e : Nat) : Nat → Nat → Int32 := let I2 := up2 I (Ln R b c e) 2 (nI 0); let I4 := up2 I2 (Ln R b c e) 5 (nI 0); I4
theorem x_X3_clear {Q : Option Value → MM → Prop} {S : MM} {b : Nat} {c : Nat} {e : Nat} (hL : LY S b) (hc : c < 8) (he : e < 2) (ir : IR S)   (K : KVC Q S (f_X3_clear (sI S) (sR S) b c e)) : wX3_clear [.ref (Ln (sR S) b c e)] S Q := by
  unfold f_X3_clear at K
  refine Exists.intro 1 (u_X3_clear_0 ?_)
  unfold bX3_clear_0
  refine e_ldA rfl ?_
  refine e_cN 0 rfl ?_
  refine e_tJ (ly_N hL hc he).2.1 ir (fun N e => by have e2 : some 9 = some N := e; cases e2; exact ⟨_, by omega, rfl⟩) (fun ir1 => ?_)
  refine e_ldA rfl ?_
  refine e_cN 0 rfl ?_
  refine e_tJ (ly_N hL hc he).2.1 ir1 (fun N e => by have e2 : some 201 = some N := e; cases e2; exact ⟨_, by omega, rfl⟩) (fun ir3 => ?_)
  exact e_rV (K ir3)
def f_X3_addNote (I : Nat → Nat → Int32) (R : Nat → Nat → Option Nat) (b : Nat) (c : Nat) (e : Nat) (e2 : Nat) (x : Nat) (v : Int32) : Nat → Nat → Int32 := if (I (Ln R b c e) 2).toNatClampNeg < 8 then (let I5 := f_X6_copyFrom I (NtO R b c e (((I (Ln R b c e) 1).toNatClampNeg + (I (Ln R b c e) 2).toNatClampNeg) % 8)) (Ow R b e2 x); let I7 := f_X6_copyFrom I5 (NtP R b c e (((I (Ln R b c e) 1).toNatClampNeg + (I (Ln R b c e) 2).toNatClampNeg) % 8)) (Pa R b e2 x); let I9 := up2 I7 (Nt R b c e (((I (Ln R b c e) 1).toNatClampNeg + (I (Ln R b c e) 2).toNatClampNeg) % 8)) 2 v; let I11 := up2 I9 (Ln R b c e) 2 (nI ((I (Ln R b c e) 2).toNatClampNeg + 1)); I11) else (I)
theorem x_X3_addNote {Q : Option Value → MM → Prop} {S : MM} {b : Nat} {c : Nat} {e : Nat} {e2 : Nat} {x : Nat} {v : Int32} (hL : LY S b) (hc : c < 8) (he : e < 2) (he2 : e2 < 2) (hx : x < 8) (ir : IR S)   (K : KVC Q S (f_X3_addNote (sI S) (sR S) b c e e2 x v)) : wX3_addNote [.ref (Ln (sR S) b c e), .ref (Pt (sR S) b e2 x), .int v] S Q := by
  unfold f_X3_addNote at K
  refine Exists.intro 2 (u_X3_addNote_0 ?_)
  unfold bX3_addNote_0
  refine e_ldA rfl ?_
  have q1 := ir_n ir (ly_N hL hc he).2.1 (show rg 4 2 = some 9 from rfl)
  have hq1 := q1.2
  refine e_gV (ly_N hL hc he).2.1 q1.1 ?_
  refine e_cN 8 rfl ?_
  refine e_lt (by omega) (by omega) (fun h2 => ?_) (fun h2 => ?_)
  · replace K := kx_p h2 K
    refine u_X3_addNote_10 ?_
    unfold bX3_addNote_10
    refine e_ldA rfl ?_
    refine e_gR (ly_N hL hc he).2.1 (ly_na hL (by omega) (by omega)).1 ?_
    refine e_ldA rfl ?_
    have q3 := ir_n ir (ly_N hL hc he).2.1 (show rg 4 1 = some 8 from rfl)
    have hq3 := q3.2
    refine e_gV (ly_N hL hc he).2.1 q3.1 ?_
    refine e_ldA rfl ?_
    refine e_gV (ly_N hL hc he).2.1 q1.1 ?_
    refine e_add ?_
    refine e_cN 8 rfl ?_
    refine e_rem (by omega) (by decide) (by decide) ?_
    refine e_aR (N := 8) (ly_na hL (by omega) (by omega)).2.1 (ly_na hL (by omega) (by omega)).2.2 (by omega) (by decide) (ly_T hL (by omega) (by omega) (by omega)).1 ?_
    refine e_stA ?_
    refine e_ldA lvg_self ?_
    refine e_gR (ly_T hL (by omega) (by omega) (by omega)).2.1 (ly_TO hL (by omega) (by omega) (by omega)).1 ?_
    refine e_ldA (lvg_ne rfl rfl (by decide)) ?_
    refine e_gR (ly_P hL he2 hx).2.1 (ly_O hL (by omega) (by omega)).1 ?_
    refine And.intro (ly_TO hL (by omega) (by omega) (by omega)).2.1 (And.intro ⟨by decide, by decide⟩ (x_X6_copyFrom (ly_TO hL (by omega) (by omega) (by omega)).2.1 (ly_O hL (by omega) (by omega)).2.1 ir (fun ir4 => ?_)))
    refine e_ldA lvg_self ?_
    refine e_gR (ly_T hL (by omega) (by omega) (by omega)).2.1 (ly_TP hL (by omega) (by omega) (by omega)).1 ?_
    refine e_ldA (lvg_ne rfl rfl (by decide)) ?_
    refine e_gR (ly_P hL he2 hx).2.1 (ly_Q hL (by omega) (by omega)).1 ?_
    refine And.intro (ly_TP hL (by omega) (by omega) (by omega)).2.1 (And.intro ⟨by decide, by decide⟩ (x_X6_copyFrom (ly_TP hL (by omega) (by omega) (by omega)).2.1 (ly_Q hL (by omega) (by omega)).2.1 ir4 (fun ir6 => ?_)))
    refine e_ldA lvg_self ?_
    refine e_ldI (lvg_ne rfl rfl (by decide)) ?_
    refine e_tJ (ly_T hL (by omega) (by omega) (by omega)).2.1 ir6 (fun N e => nomatch (show (none : Option Nat) = some N from e)) (fun ir8 => ?_)
    refine e_ldA (lvg_ne rfl rfl (by decide)) ?_
    refine e_duA ?_
    refine e_gV (ly_N hL hc he).2.1 (rd_a ((congrFun (n_X6_copyFrom (ne_kd (ly_N hL hc he).2.1 (ly_TP hL (by omega) (by omega) (by omega)).2.1 (by decide))) 2).trans ((congrFun (n_X6_copyFrom (ne_kd (ly_N hL hc he).2.1 (ly_TO hL (by omega) (by omega) (by omega)).2.1 (by decide))) 2).trans q1.1)) (ne_kd (ly_N hL hc he).2.1 (ly_T hL (by omega) (by omega) (by omega)).2.1 (by decide))) ?_
    refine e_cN 1 rfl ?_
    refine e_add ?_
    refine e_tJ (ly_N hL hc he).2.1 ir8 (fun N e => by have e2 : some 9 = some N := e; cases e2; exact ⟨_, by omega, rfl⟩) (fun ir10 => ?_)
    exact e_rV (K ir10)
  · replace K := kx_n (by omega) K
    exact e_rV (K ir)
def g_X0_isSettled_50 (I : Nat → Nat → Int32) (R : Nat → Nat → Option Nat) (b : Nat) (c : Nat)  (s0 : Int32) : Int32 := if s0 = (I (Cb R b c) 4) then ((nI 1)) else ((nI 0))
theorem y_X0_isSettled_50 {Q : Option Value → MM → Prop} {S : MM} {b : Nat} {c : Nat}  {s0 : Int32} {n : Nat} {lv : Lv} (hL : LY S b) (hc : c < 8) (ir : IR S)   (g0 : lvg lv 0 = some (.ref (Cb (sR S) b c)))  (hn : 3 ≤ n) (K : KP Q S (g_X0_isSettled_50 (sI S) (sR S) b c  s0)) : wpn (kX0_isSettled Q) n 50 lv [.int s0] S 0 0 := by
  obtain ⟨d, rfl⟩ : ∃ d, n = d + 3 := ⟨n - 3, by omega⟩
  unfold g_X0_isSettled_50 at K
  refine u_X0_isSettled_50 ?_
  unfold bX0_isSettled_50
  refine e_ldA g0 ?_
  refine e_gE (ly_C hL hc).2.1 ?_
  refine ⟨fun h1 => ?_, fun h1 => ?_⟩
  · replace K := kx_p h1 K
    refine u_X0_isSettled_57 ?_
    unfold bX0_isSettled_57
    refine e_cN 1 rfl ?_
    refine u_X0_isSettled_62 ?_
    unfold bX0_isSettled_62
    exact And.intro (Or.inr rfl) K
  · replace K := kx_n h1 K
    refine u_X0_isSettled_61 ?_
    unfold bX0_isSettled_61
    refine e_cN 0 rfl ?_
    refine u_X0_isSettled_62 ?_
    unfold bX0_isSettled_62
    exact And.intro (Or.inl rfl) K
def g_X0_isSettled_25 (I : Nat → Nat → Int32) (R : Nat → Nat → Option Nat) (b : Nat) (c : Nat)  (s0 : Int32) : Int32 := if s0 = (I (Cb R b c) 4) then (if (I ((R (ppd R b c) 1).getD 0) 5) = (nI 4) then (g_X0_isSettled_50 I R b c  (nI 1)) else (g_X0_isSettled_50 I R b c  (nI 0))) else ((nI 0))
theorem y_X0_isSettled_25 {Q : Option Value → MM → Prop} {S : MM} {b : Nat} {c : Nat}  {s0 : Int32} {n : Nat} {lv : Lv} (hL : LY S b) (hc : c < 8) (ir : IR S)   (g0 : lvg lv 0 = some (.ref (Cb (sR S) b c))) (plc : plg (sR S) b c) (hn : 5 ≤ n) (K : KP Q S (g_X0_isSettled_25 (sI S) (sR S) b c  s0)) : wpn (kX0_isSettled Q) n 25 lv [.int s0] S 0 0 := by
  obtain ⟨d, rfl⟩ : ∃ d, n = d + 5 := ⟨n - 5, by omega⟩
  unfold g_X0_isSettled_25 at K
  refine u_X0_isSettled_25 ?_
  unfold bX0_isSettled_25
  refine e_ldA g0 ?_
  refine e_gE (ly_C hL hc).2.1 ?_
  refine ⟨fun h1 => ?_, fun h1 => ?_⟩
  · replace K := kx_p h1 K
    refine e_ldA g0 ?_
    refine e_gR (ly_C hL hc).2.1 (ly_pp hL (by omega)).1 ?_
    refine e_cN 1 rfl ?_
    refine e_aR (N := 2) (ly_pp hL (by omega)).2.1 (ly_pp hL (by omega)).2.2 (by omega) (by decide) (opt_get (plg_i plc (by omega))) ?_
    refine e_gE (ly_nn hL.1 (ly_pp hL (by omega)).2.1 rfl (plg_i plc (by omega))) ?_
    refine e_cN 4 rfl ?_
    refine ⟨fun h2 => ?_, fun h2 => ?_⟩
    · replace K := kx_p h2 K
      refine e_cN 1 rfl ?_
      exact y_X0_isSettled_50 hL hc ir   g0  (by omega) K
    · replace K := kx_n h2 K
      refine u_X0_isSettled_49 ?_
      unfold bX0_isSettled_49
      refine e_cN 0 rfl ?_
      exact y_X0_isSettled_50 hL hc ir   g0  (by omega) K
  · replace K := kx_n h1 K
    refine u_X0_isSettled_61 ?_
    unfold bX0_isSettled_61
    refine e_cN 0 rfl ?_
    refine u_X0_isSettled_62 ?_
    unfold bX0_isSettled_62
    exact And.intro (Or.inl rfl) K
def f_X0_isSettled (I : Nat → Nat → Int32) (R : Nat → Nat → Option Nat) (b : Nat) (c : Nat) : Int32 := if plg R b c then (if (I ((R (ppd R b c) 0).getD 0) 5) = (nI 4) then (g_X0_isSettled_25 I R b c  (nI 1)) else (g_X0_isSettled_25 I R b c  (nI 0))) else ((nI 1))
theorem x_X0_isSettled {Q : Option Value → MM → Prop} {S : MM} {b : Nat} {c : Nat} (hL : LY S b) (hc : c < 8) (ir : IR S)   (K : KP Q S (f_X0_isSettled (sI S) (sR S) b c)) : wX0_isSettled [.ref (Cb (sR S) b c)] S Q := by
  unfold f_X0_isSettled at K
  refine Exists.intro 7 (u_X0_isSettled_0 ?_)
  unfold bX0_isSettled_0
  refine e_ldA rfl ?_
  refine And.intro (ly_C hL hc).2.1 (And.intro ⟨by decide, by decide⟩ (x_plg hL (by omega) (fun h1 => ?_) (fun h1 => ?_)))
  · replace K := kx_n h1 K
    refine ⟨fun _ => ?_, fun z => absurd (by decide) z⟩
    refine u_X0_isSettled_57 ?_
    unfold bX0_isSettled_57
    refine e_cN 1 rfl ?_
    refine u_X0_isSettled_62 ?_
    unfold bX0_isSettled_62
    exact And.intro (Or.inr rfl) K
  · replace K := kx_p h1 K
    refine ⟨fun z => absurd z (by decide), fun _ => ?_⟩
    refine e_ldA rfl ?_
    refine e_gR (ly_C hL hc).2.1 (ly_pp hL (by omega)).1 ?_
    refine e_cN 0 rfl ?_
    refine e_aR (N := 2) (ly_pp hL (by omega)).2.1 (ly_pp hL (by omega)).2.2 (by omega) (by decide) (opt_get (plg_i h1 (by omega))) ?_
    refine e_gE (ly_nn hL.1 (ly_pp hL (by omega)).2.1 rfl (plg_i h1 (by omega))) ?_
    refine e_cN 4 rfl ?_
    refine ⟨fun h2 => ?_, fun h2 => ?_⟩
    · replace K := kx_p h2 K
      refine e_cN 1 rfl ?_
      exact y_X0_isSettled_25 hL hc ir   rfl h1 (by omega) K
    · replace K := kx_n h2 K
      refine u_X0_isSettled_24 ?_
      unfold bX0_isSettled_24
      refine e_cN 0 rfl ?_
      exact y_X0_isSettled_25 hL hc ir   rfl h1 (by omega) K
def g_X7_isSettled_2 (R : Nat → Nat → Option Nat) (b : Nat) : Nat → Nat → (Nat → Nat → Int32) → (Int32)
  | 0, i1, I => (nI 1)
  | r + 1, i1, I => if (f_X0_isSettled I R b i1) = 0 then ((nI 0)) else (g_X7_isSettled_2 R b r (i1 + 1)  I )
theorem y_X7_isSettled_2 {Q : Option Value → MM → Prop} {b : Nat}  (r : Nat) : ∀ {S : MM}   {i1 n : Nat} {lv : Lv} (hL : LY S b) (ir : IR S)   (g0 : lvg lv 0 = some (.ref b)) (g1 : lvg lv 1 = some (.int (nI i1)))    (hr : i1 + r = 8) (hn : 2 + r * 2 ≤ n) (K : KP Q S (g_X7_isSettled_2 (sR S) b r i1  (sI S) )), wpn (kX7_isSettled Q) n 2 lv [] S 0 0 := by
  induction r with
  | zero =>
    intro S   i1 n lv hL ir   g0 g1    hr hn K
    obtain ⟨d, rfl⟩ : ∃ d, n = d + 2 := ⟨n - 2, by omega⟩
    unfold g_X7_isSettled_2 at K
    refine u_X7_isSettled_2 ?_
    unfold bX7_isSettled_2
    refine e_ldI g1 ?_
    refine e_cN 8 rfl ?_
    refine e_ge (by omega) (by omega) (fun _ => ?_) (fun z => absurd z (by omega))
    refine u_X7_isSettled_28 ?_
    unfold bX7_isSettled_28
    refine e_cN 1 rfl ?_
    exact And.intro (Or.inr rfl) K
  | succ r ih =>
    intro S   i1 n lv hL ir   g0 g1    hr hn K
    obtain ⟨d, hd, rfl⟩ : ∃ d, 2 + r * 2 ≤ d ∧ n = d + 2 := ⟨n - 2, by omega, by omega⟩
    unfold g_X7_isSettled_2 at K
    refine u_X7_isSettled_2 ?_
    unfold bX7_isSettled_2
    refine e_ldI g1 ?_
    refine e_cN 8 rfl ?_
    refine e_ge (by omega) (by omega) (fun z => absurd z (by omega)) (fun _ => ?_)
    refine e_ldA g0 ?_
    refine e_gR hL.2 (ly_ca hL).1 ?_
    refine e_ldI g1 ?_
    refine e_aR (N := 8) (ly_ca hL).2.1 (ly_ca hL).2.2 (by omega) (by decide) (ly_C hL (by omega)).1 ?_
    refine And.intro (ly_C hL (by omega)).2.1 (And.intro ⟨by decide, by decide⟩ (x_X0_isSettled hL (by omega) ir (KP_i ?_)))
    refine ⟨fun h1 => ?_, fun h1 => ?_⟩
    · replace K := kx_p h1 K
      refine e_cN 0 rfl ?_
      exact And.intro (Or.inl rfl) K
    · replace K := kx_n h1 K
      refine u_X7_isSettled_22 ?_
      unfold bX7_isSettled_22
      refine e_inc g1 ?_
      exact ih hL ir   (lvg_ne g0 rfl (by decide)) lvg_self    (by omega) (by omega) K
def f_X7_isSettled (I : Nat → Nat → Int32) (R : Nat → Nat → Option Nat) (b : Nat) : Int32 := g_X7_isSettled_2 R b 8 0  I 
theorem x_X7_isSettled {Q : Option Value → MM → Prop} {S : MM} {b : Nat} (hL : LY S b) (ir : IR S)   (K : KP Q S (f_X7_isSettled (sI S) (sR S) b)) : wX7_isSettled [.ref b] S Q := by
  unfold f_X7_isSettled at K
  refine Exists.intro 19 (u_X7_isSettled_0 ?_)
  unfold bX7_isSettled_0
  refine e_cN 0 rfl ?_
  refine e_stI ?_
  exact y_X7_isSettled_2 8 hL ir   (lvg_ne rfl rfl (by decide)) lvg_self    (by omega) (by omega) K
