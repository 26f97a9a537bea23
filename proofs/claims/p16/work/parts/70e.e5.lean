def f_X8_portAt (I : Nat → Nat → Int32) (m : Nat) (A : Nat → Nat) (c : Nat) (e : Nat) : Nat := ((8 * e) + (I (A 22) ((2 * c) + e)).toNatClampNeg)
theorem x_X8_portAt {Q : Option Value → MM → Prop} {S : MM} {m : Nat} {A : Nat → Nat} {c : Nat} {e : Nat} (hM : MS S m A) (hc : c < 8) (he : e < 2) (ir : IM S m A)   (K : KN 16 Q S (f_X8_portAt (sI S) m A c e)) : wX8_portAt [.ref m, .int (nI c), .int (nI e)] S Q := by
  unfold f_X8_portAt at K
  refine Exists.intro 1 (u_X8_portAt_0 ?_)
  unfold bX8_portAt_0
  refine e_cN 8 rfl ?_
  refine e_ldI rfl ?_
  refine e_mul ?_
  refine e_ldA rfl ?_
  refine e_gR hM.1 (hM.2.1 22 (by decide)).1 ?_
  refine e_cN 2 rfl ?_
  refine e_ldI rfl ?_
  refine e_mul ?_
  refine e_ldI rfl ?_
  refine e_add ?_
  have q1 := fun j => im_a ir (show ra 22 = some 8 from rfl) j
  refine e_aVj (N := 16) (kdA (k := 22) hM (by decide) rfl) (lnA (k := 22) hM (by decide) rfl) (by omega) (by decide) q1 (fun hq1 => ?_)
  refine e_add ?_
  exact e_rI (K (by omega))
def f_X8_agrees (I : Nat → Nat → Int32) (m : Nat) (A : Nat → Nat) (c : Nat) : Int32 := if (I (A 24) c) = 0 then ((nI 0)) else (if (I (A 25) c) = 0 then ((nI 0)) else (if (I (A 3) (f_X8_portAt I m A c 0)) ≤ 0 then ((nI 0)) else (if (I (A 3) (f_X8_portAt I m A c 1)) ≤ 0 then ((nI 0)) else (if (I (A 5) (f_X8_portAt I m A c 0)) = 0 then (if (I (A 5) (f_X8_portAt I m A c 1)) = 0 then ((nI 0)) else ((nI 1))) else ((nI 1))))))
theorem x_X8_agrees {Q : Option Value → MM → Prop} {S : MM} {m : Nat} {A : Nat → Nat} {c : Nat} (hM : MS S m A) (hc : c < 8) (ir : IM S m A)   (K : KP Q S (f_X8_agrees (sI S) m A c)) : wX8_agrees [.ref m, .int (nI c)] S Q := by
  unfold f_X8_agrees at K
  refine Exists.intro 3 (u_X8_agrees_0 ?_)
  unfold bX8_agrees_0
  refine e_ldA rfl ?_
  refine e_gR hM.1 (hM.2.1 24 (by decide)).1 ?_
  refine e_ldI rfl ?_
  refine e_aE (N := 8) (kdA (k := 24) hM (by decide) rfl) (lnA (k := 24) hM (by decide) rfl) (by omega) (by decide) ?_
  refine ⟨fun h1 => ?_, fun h1 => ?_⟩
  · replace K := kx_p h1 K
    refine u_X8_agrees_78 ?_
    unfold bX8_agrees_78
    refine e_cN 0 rfl ?_
    refine u_X8_agrees_79 ?_
    unfold bX8_agrees_79
    exact And.intro (Or.inl rfl) K
  · replace K := kx_n h1 K
    refine e_ldA rfl ?_
    refine e_gR hM.1 (hM.2.1 25 (by decide)).1 ?_
    refine e_ldI rfl ?_
    refine e_aE (N := 8) (kdA (k := 25) hM (by decide) rfl) (lnA (k := 25) hM (by decide) rfl) (by omega) (by decide) ?_
    refine ⟨fun h2 => ?_, fun h2 => ?_⟩
    · replace K := kx_p h2 K
      refine u_X8_agrees_78 ?_
      unfold bX8_agrees_78
      refine e_cN 0 rfl ?_
      refine u_X8_agrees_79 ?_
      unfold bX8_agrees_79
      exact And.intro (Or.inl rfl) K
    · replace K := kx_n h2 K
      refine e_ldA rfl ?_
      refine e_gR hM.1 (hM.2.1 3 (by decide)).1 ?_
      refine e_ldA rfl ?_
      refine e_ldI rfl ?_
      refine e_cN 0 rfl ?_
      refine And.intro hM.1 (And.intro ⟨by decide, by decide⟩ (x_X8_portAt hM (by omega) (by omega) ir (fun hb3 => ?_)))
      refine e_aE (N := 16) (kdA (k := 3) hM (by decide) rfl) (lnA (k := 3) hM (by decide) rfl) (by omega) (by decide) ?_
      refine ⟨fun h4 => ?_, fun h4 => ?_⟩
      · replace K := kx_p h4 K
        refine u_X8_agrees_78 ?_
        unfold bX8_agrees_78
        refine e_cN 0 rfl ?_
        refine u_X8_agrees_79 ?_
        unfold bX8_agrees_79
        exact And.intro (Or.inl rfl) K
      · replace K := kx_n h4 K
        refine e_ldA rfl ?_
        refine e_gR hM.1 (hM.2.1 3 (by decide)).1 ?_
        refine e_ldA rfl ?_
        refine e_ldI rfl ?_
        refine e_cN 1 rfl ?_
        refine And.intro hM.1 (And.intro ⟨by decide, by decide⟩ (x_X8_portAt hM (by omega) (by omega) ir (fun hb5 => ?_)))
        refine e_aE (N := 16) (kdA (k := 3) hM (by decide) rfl) (lnA (k := 3) hM (by decide) rfl) (by omega) (by decide) ?_
        refine ⟨fun h6 => ?_, fun h6 => ?_⟩
        · replace K := kx_p h6 K
          refine u_X8_agrees_78 ?_
          unfold bX8_agrees_78
          refine e_cN 0 rfl ?_
          refine u_X8_agrees_79 ?_
          unfold bX8_agrees_79
          exact And.intro (Or.inl rfl) K
        · replace K := kx_n h6 K
          refine e_ldA rfl ?_
          refine e_gR hM.1 (hM.2.1 5 (by decide)).1 ?_
          refine e_ldA rfl ?_
          refine e_ldI rfl ?_
          refine e_cN 0 rfl ?_
          refine And.intro hM.1 (And.intro ⟨by decide, by decide⟩ (x_X8_portAt hM (by omega) (by omega) ir (fun hb7 => ?_)))
          refine e_aE (N := 16) (kdA (k := 5) hM (by decide) rfl) (lnA (k := 5) hM (by decide) rfl) (by omega) (by decide) ?_
          refine ⟨fun h8 => ?_, fun h8 => ?_⟩
          · replace K := kx_p h8 K
            refine e_ldA rfl ?_
            refine e_gR hM.1 (hM.2.1 5 (by decide)).1 ?_
            refine e_ldA rfl ?_
            refine e_ldI rfl ?_
            refine e_cN 1 rfl ?_
            refine And.intro hM.1 (And.intro ⟨by decide, by decide⟩ (x_X8_portAt hM (by omega) (by omega) ir (fun hb9 => ?_)))
            refine e_aE (N := 16) (kdA (k := 5) hM (by decide) rfl) (lnA (k := 5) hM (by decide) rfl) (by omega) (by decide) ?_
            refine ⟨fun h10 => ?_, fun h10 => ?_⟩
            · replace K := kx_p h10 K
              refine u_X8_agrees_78 ?_
              unfold bX8_agrees_78
              refine e_cN 0 rfl ?_
              refine u_X8_agrees_79 ?_
              unfold bX8_agrees_79
              exact And.intro (Or.inl rfl) K
            · replace K := kx_n h10 K
              refine u_X8_agrees_74 ?_
              unfold bX8_agrees_74
              refine e_cN 1 rfl ?_
              refine u_X8_agrees_79 ?_
              unfold bX8_agrees_79
              exact And.intro (Or.inr rfl) K
          · replace K := kx_n h8 K
            refine u_X8_agrees_74 ?_
            unfold bX8_agrees_74
            refine e_cN 1 rfl ?_
            refine u_X8_agrees_79 ?_
            unfold bX8_agrees_79
            exact And.intro (Or.inr rfl) K
def g_X8_isMeant_14 (m : Nat) (A : Nat → Nat) (c : Nat) : Nat → Nat → (Nat → Nat → Int32) → Int32 → (Int32)
  | 0, i3, I, w2 => if (if (I (A 2) 1) < (I (A 2) 0) then (I (A 2) 1) else (I (A 2) 0)) ≤ w2 then ((nI 0)) else ((nI 1))
  | r + 1, i3, I, w2 => if i3 = c then (g_X8_isMeant_14 m A c r (i3 + 1)  I w2) else (if (f_X8_agrees I m A i3) = 0 then (g_X8_isMeant_14 m A c r (i3 + 1)  I w2) else (if (I (A 3) (f_X8_portAt I m A c 0)) = (I (A 3) (f_X8_portAt I m A i3 0)) then (if (I (A 3) (f_X8_portAt I m A c 1)) = (I (A 3) (f_X8_portAt I m A i3 1)) then (if (I (A 4) (f_X8_portAt I m A i3 (f_X8_stronger I m A))) = (I (A 4) (f_X8_portAt I m A c (f_X8_stronger I m A))) then (if (f_X8_portAt I m A c (f_X8_stronger I m A)) ≤ (f_X8_portAt I m A i3 (f_X8_stronger I m A)) then (g_X8_isMeant_14 m A c r (i3 + 1)  I (w2 + (nI 0))) else (g_X8_isMeant_14 m A c r (i3 + 1)  I (w2 + (nI 1)))) else (if (I (A 4) (f_X8_portAt I m A c (f_X8_stronger I m A))) ≤ (I (A 4) (f_X8_portAt I m A i3 (f_X8_stronger I m A))) then (g_X8_isMeant_14 m A c r (i3 + 1)  I (w2 + (nI 0))) else (g_X8_isMeant_14 m A c r (i3 + 1)  I (w2 + (nI 1))))) else (g_X8_isMeant_14 m A c r (i3 + 1)  I w2)) else (g_X8_isMeant_14 m A c r (i3 + 1)  I w2)))
theorem y_X8_isMeant_14 {Q : Option Value → MM → Prop} {m : Nat} {A : Nat → Nat} {c : Nat}  (r : Nat) : ∀ {S : MM}  {w2 : Int32} {i3 n : Nat} {lv : Lv} (hM : MS S m A) (hc : c < 8) (ir : IM S m A)   (g0 : lvg lv 0 = some (.ref m)) (g1 : lvg lv 1 = some (.int (nI c))) (g2 : lvg lv 2 = some (.int w2)) (g3 : lvg lv 3 = some (.int (nI i3)))    (hr : i3 + r = 8) (hn : 4 + r * 6 ≤ n) (K : KP Q S (g_X8_isMeant_14 m A c r i3  (sI S) w2)), wpn (kX8_isMeant Q) n 14 lv [] S 0 0 := by
  induction r with
  | zero =>
    intro S  w2 i3 n lv hM hc ir   g0 g1 g2 g3    hr hn K
    obtain ⟨d, rfl⟩ : ∃ d, n = d + 4 := ⟨n - 4, by omega⟩
    unfold g_X8_isMeant_14 at K
    refine u_X8_isMeant_14 ?_
    unfold bX8_isMeant_14
    refine e_ldI g3 ?_
    refine e_cN 8 rfl ?_
    refine e_ge (by omega) (by omega) (fun _ => ?_) (fun z => absurd z (by omega))
    refine u_X8_isMeant_171 ?_
    unfold bX8_isMeant_171
    refine e_ldI g2 ?_
    refine e_ldA g0 ?_
    refine e_gR hM.1 (hM.2.1 2 (by decide)).1 ?_
    refine e_cN 0 rfl ?_
    refine e_aE (N := 2) (kdA (k := 2) hM (by decide) rfl) (lnA (k := 2) hM (by decide) rfl) (by omega) (by decide) ?_
    refine e_ldA g0 ?_
    refine e_gR hM.1 (hM.2.1 2 (by decide)).1 ?_
    refine e_cN 1 rfl ?_
    refine e_aE (N := 2) (kdA (k := 2) hM (by decide) rfl) (lnA (k := 2) hM (by decide) rfl) (by omega) (by decide) ?_
    refine e_mMI rfl ?_
    refine ⟨fun h1 => ?_, fun h1 => ?_⟩
    · replace K := kx_p h1 K
      refine u_X8_isMeant_194 ?_
      unfold bX8_isMeant_194
      refine e_cN 0 rfl ?_
      refine u_X8_isMeant_195 ?_
      unfold bX8_isMeant_195
      exact And.intro (Or.inl rfl) K
    · replace K := kx_n h1 K
      refine e_cN 1 rfl ?_
      refine u_X8_isMeant_195 ?_
      unfold bX8_isMeant_195
      exact And.intro (Or.inr rfl) K
  | succ r ih =>
    intro S  w2 i3 n lv hM hc ir   g0 g1 g2 g3    hr hn K
    obtain ⟨d, hd, rfl⟩ : ∃ d, 4 + r * 6 ≤ d ∧ n = d + 6 := ⟨n - 6, by omega, by omega⟩
    unfold g_X8_isMeant_14 at K
    refine u_X8_isMeant_14 ?_
    unfold bX8_isMeant_14
    refine e_ldI g3 ?_
    refine e_cN 8 rfl ?_
    refine e_ge (by omega) (by omega) (fun z => absurd z (by omega)) (fun _ => ?_)
    refine e_ldI g3 ?_
    refine e_ldI g1 ?_
    refine e_eq (by omega) (by omega) (fun h1 => ?_) (fun h1 => ?_)
    · replace K := kx_p h1 K
      refine u_X8_isMeant_165 ?_
      unfold bX8_isMeant_165
      refine e_inc g3 ?_
      exact ih hM hc ir   (lvg_ne g0 rfl (by decide)) (lvg_ne g1 rfl (by decide)) (lvg_ne g2 rfl (by decide)) lvg_self    (by omega) (by omega) K
    · replace K := kx_n (by omega) K
      refine e_ldA g0 ?_
      refine e_ldI g3 ?_
      refine And.intro hM.1 (And.intro ⟨by decide, by decide⟩ (x_X8_agrees hM (by omega) ir (KP_i ?_)))
      refine ⟨fun h2 => ?_, fun h2 => ?_⟩
      · replace K := kx_p h2 K
        refine u_X8_isMeant_165 ?_
        unfold bX8_isMeant_165
        refine e_inc g3 ?_
        exact ih hM hc ir   (lvg_ne g0 rfl (by decide)) (lvg_ne g1 rfl (by decide)) (lvg_ne g2 rfl (by decide)) lvg_self    (by omega) (by omega) K
      · replace K := kx_n h2 K
        refine e_ldA g0 ?_
        refine e_gR hM.1 (hM.2.1 3 (by decide)).1 ?_
        refine e_ldA g0 ?_
        refine e_ldI g1 ?_
        refine e_cN 0 rfl ?_
        refine And.intro hM.1 (And.intro ⟨by decide, by decide⟩ (x_X8_portAt hM (by omega) (by omega) ir (fun hb3 => ?_)))
        refine e_aE (N := 16) (kdA (k := 3) hM (by decide) rfl) (lnA (k := 3) hM (by decide) rfl) (by omega) (by decide) ?_
        refine e_ldA g0 ?_
        refine e_gR hM.1 (hM.2.1 3 (by decide)).1 ?_
        refine e_ldA g0 ?_
        refine e_ldI g3 ?_
        refine e_cN 0 rfl ?_
        refine And.intro hM.1 (And.intro ⟨by decide, by decide⟩ (x_X8_portAt hM (by omega) (by omega) ir (fun hb4 => ?_)))
        refine e_aE (N := 16) (kdA (k := 3) hM (by decide) rfl) (lnA (k := 3) hM (by decide) rfl) (by omega) (by decide) ?_
        refine ⟨fun h5 => ?_, fun h5 => ?_⟩
        · replace K := kx_p h5 K
          refine e_ldA g0 ?_
          refine e_gR hM.1 (hM.2.1 3 (by decide)).1 ?_
          refine e_ldA g0 ?_
          refine e_ldI g1 ?_
          refine e_cN 1 rfl ?_
          refine And.intro hM.1 (And.intro ⟨by decide, by decide⟩ (x_X8_portAt hM (by omega) (by omega) ir (fun hb6 => ?_)))
          refine e_aE (N := 16) (kdA (k := 3) hM (by decide) rfl) (lnA (k := 3) hM (by decide) rfl) (by omega) (by decide) ?_
          refine e_ldA g0 ?_
          refine e_gR hM.1 (hM.2.1 3 (by decide)).1 ?_
          refine e_ldA g0 ?_
          refine e_ldI g3 ?_
          refine e_cN 1 rfl ?_
          refine And.intro hM.1 (And.intro ⟨by decide, by decide⟩ (x_X8_portAt hM (by omega) (by omega) ir (fun hb7 => ?_)))
          refine e_aE (N := 16) (kdA (k := 3) hM (by decide) rfl) (lnA (k := 3) hM (by decide) rfl) (by omega) (by decide) ?_
          refine ⟨fun h8 => ?_, fun h8 => ?_⟩
          · replace K := kx_p h8 K
            refine u_X8_isMeant_86 ?_
            unfold bX8_isMeant_86
            refine e_ldA g0 ?_
            refine e_ldI g1 ?_
            refine e_ldA g0 ?_
            refine And.intro hM.1 (And.intro ⟨by decide, by decide⟩ (x_X8_stronger hM ir (fun hb9 => ?_)))
            refine And.intro hM.1 (And.intro ⟨by decide, by decide⟩ (x_X8_portAt hM (by omega) (by omega) ir (fun hb10 => ?_)))
            refine e_stI ?_
            refine e_ldA (lvg_ne g0 rfl (by decide)) ?_
            refine e_ldI (lvg_ne g3 rfl (by decide)) ?_
            refine e_ldA (lvg_ne g0 rfl (by decide)) ?_
            refine And.intro hM.1 (And.intro ⟨by decide, by decide⟩ (x_X8_stronger hM ir (fun hb11 => ?_)))
            refine And.intro hM.1 (And.intro ⟨by decide, by decide⟩ (x_X8_portAt hM (by omega) (by omega) ir (fun hb12 => ?_)))
            refine e_stI ?_
            refine e_ldI (lvg_ne (lvg_ne g2 rfl (by decide)) rfl (by decide)) ?_
            refine e_ldA (lvg_ne (lvg_ne g0 rfl (by decide)) rfl (by decide)) ?_
            refine e_gR hM.1 (hM.2.1 4 (by decide)).1 ?_
            refine e_ldI lvg_self ?_
            refine e_aE (N := 16) (kdA (k := 4) hM (by decide) rfl) (lnA (k := 4) hM (by decide) rfl) (by omega) (by decide) ?_
            refine e_ldA (lvg_ne (lvg_ne g0 rfl (by decide)) rfl (by decide)) ?_
            refine e_gR hM.1 (hM.2.1 4 (by decide)).1 ?_
            refine e_ldI (lvg_ne lvg_self rfl (by decide)) ?_
            refine e_aE (N := 16) (kdA (k := 4) hM (by decide) rfl) (lnA (k := 4) hM (by decide) rfl) (by omega) (by decide) ?_
            refine ⟨fun h13 => ?_, fun h13 => ?_⟩
            · replace K := kx_p h13 K
              refine u_X8_isMeant_151 ?_
              unfold bX8_isMeant_151
              refine e_ldI lvg_self ?_
              refine e_ldI (lvg_ne lvg_self rfl (by decide)) ?_
              refine e_ge (by omega) (by omega) (fun h14 => ?_) (fun h14 => ?_)
              · replace K := kx_p h14 K
                refine u_X8_isMeant_162 ?_
                unfold bX8_isMeant_162
                refine e_cN 0 rfl ?_
                refine u_X8_isMeant_163 ?_
                unfold bX8_isMeant_163
                refine e_bopE ?_
                refine e_stI ?_
                refine u_X8_isMeant_165 ?_
                unfold bX8_isMeant_165
                refine e_inc (lvg_ne (lvg_ne (lvg_ne g3 rfl (by decide)) rfl (by decide)) rfl (by decide)) ?_
                exact ih hM hc ir   (lvg_ne (lvg_ne (lvg_ne (lvg_ne g0 rfl (by decide)) rfl (by decide)) rfl (by decide)) rfl (by decide)) (lvg_ne (lvg_ne (lvg_ne (lvg_ne g1 rfl (by decide)) rfl (by decide)) rfl (by decide)) rfl (by decide)) (lvg_ne lvg_self rfl (by decide)) lvg_self    (by omega) (by omega) K
              · replace K := kx_n (by omega) K
                refine e_cN 1 rfl ?_
                refine u_X8_isMeant_163 ?_
                unfold bX8_isMeant_163
                refine e_bopE ?_
                refine e_stI ?_
                refine u_X8_isMeant_165 ?_
                unfold bX8_isMeant_165
                refine e_inc (lvg_ne (lvg_ne (lvg_ne g3 rfl (by decide)) rfl (by decide)) rfl (by decide)) ?_
                exact ih hM hc ir   (lvg_ne (lvg_ne (lvg_ne (lvg_ne g0 rfl (by decide)) rfl (by decide)) rfl (by decide)) rfl (by decide)) (lvg_ne (lvg_ne (lvg_ne (lvg_ne g1 rfl (by decide)) rfl (by decide)) rfl (by decide)) rfl (by decide)) (lvg_ne lvg_self rfl (by decide)) lvg_self    (by omega) (by omega) K
            · replace K := kx_n h13 K
              refine e_ldA (lvg_ne (lvg_ne g0 rfl (by decide)) rfl (by decide)) ?_
              refine e_gR hM.1 (hM.2.1 4 (by decide)).1 ?_
              refine e_ldI lvg_self ?_
              refine e_aE (N := 16) (kdA (k := 4) hM (by decide) rfl) (lnA (k := 4) hM (by decide) rfl) (by omega) (by decide) ?_
              refine e_ldA (lvg_ne (lvg_ne g0 rfl (by decide)) rfl (by decide)) ?_
              refine e_gR hM.1 (hM.2.1 4 (by decide)).1 ?_
              refine e_ldI (lvg_ne lvg_self rfl (by decide)) ?_
              refine e_aE (N := 16) (kdA (k := 4) hM (by decide) rfl) (lnA (k := 4) hM (by decide) rfl) (by omega) (by decide) ?_
              refine ⟨fun h15 => ?_, fun h15 => ?_⟩
              · replace K := kx_p h15 K
                refine u_X8_isMeant_147 ?_
                unfold bX8_isMeant_147
                refine e_cN 0 rfl ?_
                refine u_X8_isMeant_163 ?_
                unfold bX8_isMeant_163
                refine e_bopE ?_
                refine e_stI ?_
                refine u_X8_isMeant_165 ?_
                unfold bX8_isMeant_165
                refine e_inc (lvg_ne (lvg_ne (lvg_ne g3 rfl (by decide)) rfl (by decide)) rfl (by decide)) ?_
                exact ih hM hc ir   (lvg_ne (lvg_ne (lvg_ne (lvg_ne g0 rfl (by decide)) rfl (by decide)) rfl (by decide)) rfl (by decide)) (lvg_ne (lvg_ne (lvg_ne (lvg_ne g1 rfl (by decide)) rfl (by decide)) rfl (by decide)) rfl (by decide)) (lvg_ne lvg_self rfl (by decide)) lvg_self    (by omega) (by omega) K
              · replace K := kx_n h15 K
                refine e_cN 1 rfl ?_
                refine u_X8_isMeant_163 ?_
                unfold bX8_isMeant_163
                refine e_bopE ?_
                refine e_stI ?_
                refine u_X8_isMeant_165 ?_
                unfold bX8_isMeant_165
                refine e_inc (lvg_ne (lvg_ne (lvg_ne g3 rfl (by decide)) rfl (by decide)) rfl (by decide)) ?_
                exact ih hM hc ir   (lvg_ne (lvg_ne (lvg_ne (lvg_ne g0 rfl (by decide)) rfl (by decide)) rfl (by decide)) rfl (by decide)) (lvg_ne (lvg_ne (lvg_ne (lvg_ne g1 rfl (by decide)) rfl (by decide)) rfl (by decide)) rfl (by decide)) (lvg_ne lvg_self rfl (by decide)) lvg_self    (by omega) (by omega) K
          · replace K := kx_n h8 K
            refine u_X8_isMeant_165 ?_
            unfold bX8_isMeant_165
            refine e_inc g3 ?_
            exact ih hM hc ir   (lvg_ne g0 rfl (by decide)) (lvg_ne g1 rfl (by decide)) (lvg_ne g2 rfl (by decide)) lvg_self    (by omega) (by omega) K
        · replace K := kx_n h5 K
          refine u_X8_isMeant_165 ?_
          unfold bX8_isMeant_165
          refine e_inc g3 ?_
          exact ih hM hc ir   (lvg_ne g0 rfl (by decide)) (lvg_ne g1 rfl (by decide)) (lvg_ne g2 rfl (by decide)) lvg_self    (by omega) (by omega) K
def f_X8_isMeant (I : Nat → Nat → Int32) (m : Nat) (A : Nat → Nat) (c : Nat) : Int32 := if (f_X8_agrees I m A c) = 0 then ((nI 0)) else (g_X8_isMeant_14 m A c 8 0  I (nI 0))
theorem x_X8_isMeant {Q : Option Value → MM → Prop} {S : MM} {m : Nat} {A : Nat → Nat} {c : Nat} (hM : MS S m A) (hc : c < 8) (ir : IM S m A)   (K : KP Q S (f_X8_isMeant (sI S) m A c)) : wX8_isMeant [.ref m, .int (nI c)] S Q := by
  unfold f_X8_isMeant at K
  refine Exists.intro 54 (u_X8_isMeant_0 ?_)
  unfold bX8_isMeant_0
  refine e_ldA rfl ?_
  refine e_ldI rfl ?_
  refine And.intro hM.1 (And.intro ⟨by decide, by decide⟩ (x_X8_agrees hM (by omega) ir (KP_i ?_)))
  refine ⟨fun h1 => ?_, fun h1 => ?_⟩
  · replace K := kx_p h1 K
    refine e_cN 0 rfl ?_
    exact And.intro (Or.inl rfl) K
  · replace K := kx_n h1 K
    refine u_X8_isMeant_10 ?_
    unfold bX8_isMeant_10
    refine e_cN 0 rfl ?_
    refine e_stI ?_
    refine e_cN 0 rfl ?_
    refine e_stI ?_
    exact y_X8_isMeant_14 8 hM hc ir   (lvg_ne (lvg_ne rfl rfl (by decide)) rfl (by decide)) (lvg_ne (lvg_ne rfl rfl (by decide)) rfl (by decide)) (lvg_ne lvg_self rfl (by decide)) lvg_self    (by omega) (by omega) K
def f_X2_mustComeAhead (I : Nat → Nat → Int32) (a : Nat) (b : Nat) : Int32 := if (I a 0) = (I b 0) then (if (I a 2) = (I b 2) then (if (I a 4) = (I b 4) then (if (I b 5) ≤ (I a 5) then ((nI 0)) else ((nI 1))) else ((nI 0))) else ((nI 0))) else ((nI 0))
theorem x_X2_mustComeAhead {Q : Option Value → MM → Prop} {S : MM} {a : Nat} {b : Nat} (ka : sK S a = 3) (kb : sK S b = 3)    (K : KP Q S (f_X2_mustComeAhead (sI S) a b)) : wX2_mustComeAhead [.ref a, .ref b] S Q := by
  unfold f_X2_mustComeAhead at K
  refine Exists.intro 3 (u_X2_mustComeAhead_0 ?_)
  unfold bX2_mustComeAhead_0
  refine e_ldA rfl ?_
  refine e_gE ka ?_
  refine e_ldA rfl ?_
  refine e_gE kb ?_
  refine ⟨fun h1 => ?_, fun h1 => ?_⟩
  · replace K := kx_p h1 K
    refine e_ldA rfl ?_
    refine e_gE ka ?_
    refine e_ldA rfl ?_
    refine e_gE kb ?_
    refine ⟨fun h2 => ?_, fun h2 => ?_⟩
    · replace K := kx_p h2 K
      refine e_ldA rfl ?_
      refine e_gE ka ?_
      refine e_ldA rfl ?_
      refine e_gE kb ?_
      refine ⟨fun h3 => ?_, fun h3 => ?_⟩
      · replace K := kx_p h3 K
        refine e_ldA rfl ?_
        refine e_gE ka ?_
        refine e_ldA rfl ?_
        refine e_gE kb ?_
        refine ⟨fun h4 => ?_, fun h4 => ?_⟩
        · replace K := kx_p h4 K
          refine u_X2_mustComeAhead_48 ?_
          unfold bX2_mustComeAhead_48
          refine e_cN 0 rfl ?_
          refine u_X2_mustComeAhead_49 ?_
          unfold bX2_mustComeAhead_49
          exact And.intro (Or.inl rfl) K
        · replace K := kx_n h4 K
          refine e_cN 1 rfl ?_
          refine u_X2_mustComeAhead_49 ?_
          unfold bX2_mustComeAhead_49
          exact And.intro (Or.inr rfl) K
      · replace K := kx_n h3 K
        refine u_X2_mustComeAhead_48 ?_
        unfold bX2_mustComeAhead_48
        refine e_cN 0 rfl ?_
        refine u_X2_mustComeAhead_49 ?_
        unfold bX2_mustComeAhead_49
        exact And.intro (Or.inl rfl) K
    · replace K := kx_n h2 K
      refine u_X2_mustComeAhead_48 ?_
      unfold bX2_mustComeAhead_48
      refine e_cN 0 rfl ?_
      refine u_X2_mustComeAhead_49 ?_
      unfold bX2_mustComeAhead_49
      exact And.intro (Or.inl rfl) K
  · replace K := kx_n h1 K
    refine u_X2_mustComeAhead_48 ?_
    unfold bX2_mustComeAhead_48
    refine e_cN 0 rfl ?_
    refine u_X2_mustComeAhead_49 ?_
    unfold bX2_mustComeAhead_49
    exact And.intro (Or.inl rfl) K
def r_X2_mustComeAhead (ra : Nat → Int32) (rb : Nat → Int32)  : Int32 := if (ra 0) = (rb 0) then (if (ra 2) = (rb 2) then (if (ra 4) = (rb 4) then (if (rb 5) ≤ (ra 5) then ((nI 0)) else ((nI 1))) else ((nI 0))) else ((nI 0))) else ((nI 0))
theorem rr_X2_mustComeAhead {I : Nat → Nat → Int32} {a : Nat} {b : Nat}   : (f_X2_mustComeAhead I a b) = (r_X2_mustComeAhead (I a) (I b) ) := by
  simp only [f_X2_mustComeAhead, r_X2_mustComeAhead, up2_upd]
  repeat' split
  all_goals first | rfl | exact ⟨rfl, rfl⟩ | (simp only [up2_upd]; done) | (simp_all only [up2_upd]; done) | (simp_all; done) | simp_all [up2_upd]
def f_X1_keep (I : Nat → Nat → Int32) (R : Nat → Nat → Option Nat) (b : Nat) (p : Nat) (e : Nat) (v : Int32) (w : Int32) : Nat → Nat → Int32 := let I3 := up2 I (kad R b e) ((I (En R b e) 6).toNatClampNeg * 4) v; let I5 := up2 I3 (kad R b e) (((I (En R b e) 6).toNatClampNeg * 4) + 1) (I3 p 0); let I7 := up2 I5 (kad R b e) (((I (En R b e) 6).toNatClampNeg * 4) + 2) (I5 p 1); let I9 := up2 I7 (kad R b e) (((I (En R b e) 6).toNatClampNeg * 4) + 3) w; let I11 := up2 I9 (En R b e) 6 (nI (((I (En R b e) 6).toNatClampNeg + 1) % 50)); let I14 := up2 I11 (En R b e) 5 (nI (if 50 < ((I11 (En R b e) 5).toNatClampNeg + 1) then 50 else ((I11 (En R b e) 5).toNatClampNeg + 1))); let I16 := up2 I14 (En R b e) 3 ((I14 (En R b e) 3) + (nI 1)); I16
theorem x_X1_keep {Q : Option Value → MM → Prop} {S : MM} {b : Nat} {p : Nat} {e : Nat} {v : Int32} {w : Int32} (hL : LY S b) (kp : sK S p = 3) (he : e < 2) (ir : IR S)   (K : KVC Q S (f_X1_keep (sI S) (sR S) b p e v w)) : wX1_keep [.ref (En (sR S) b e), .ref p, .int v, .int w] S Q := by
  unfold f_X1_keep at K
  refine Exists.intro 2 (u_X1_keep_0 ?_)
  unfold bX1_keep_0
  refine e_ldA rfl ?_
  have q1 := ir_n ir (ly_E hL he).2.1 (show rg 2 6 = some 50 from rfl)
  have hq1 := q1.2
  refine e_gV (ly_E hL he).2.1 q1.1 ?_
  refine e_cN 4 rfl ?_
  refine e_mul ?_
  refine e_stI ?_
  refine e_ldA (lvg_ne rfl rfl (by decide)) ?_
  refine e_gR (ly_E hL he).2.1 (ly_ka hL (by omega)).1 ?_
  refine e_ldI lvg_self ?_
  refine e_ldI (lvg_ne rfl rfl (by decide)) ?_
  refine e_kJ (N := 200) (ly_ka hL (by omega)).2.1 (ly_ka hL (by omega)).2.2 (by omega) (by decide) ir (fun ir2 => ?_)
  refine e_ldA (lvg_ne rfl rfl (by decide)) ?_
  refine e_gR (ly_E hL he).2.1 (ly_ka hL (by omega)).1 ?_
  refine e_ldI lvg_self ?_
  refine e_cN 1 rfl ?_
  refine e_add ?_
  refine e_ldA (lvg_ne rfl rfl (by decide)) ?_
  refine e_gE kp ?_
  refine e_kJ (N := 200) (ly_ka hL (by omega)).2.1 (ly_ka hL (by omega)).2.2 (by omega) (by decide) ir2 (fun ir4 => ?_)
  refine e_ldA (lvg_ne rfl rfl (by decide)) ?_
  refine e_gR (ly_E hL he).2.1 (ly_ka hL (by omega)).1 ?_
  refine e_ldI lvg_self ?_
  refine e_cN 2 rfl ?_
  refine e_add ?_
  refine e_ldA (lvg_ne rfl rfl (by decide)) ?_
  refine e_gE kp ?_
  refine e_kJ (N := 200) (ly_ka hL (by omega)).2.1 (ly_ka hL (by omega)).2.2 (by omega) (by decide) ir4 (fun ir6 => ?_)
  refine e_ldA (lvg_ne rfl rfl (by decide)) ?_
  refine e_gR (ly_E hL he).2.1 (ly_ka hL (by omega)).1 ?_
  refine e_ldI lvg_self ?_
  refine e_cN 3 rfl ?_
  refine e_add ?_
  refine e_ldI (lvg_ne rfl rfl (by decide)) ?_
  refine e_kJ (N := 200) (ly_ka hL (by omega)).2.1 (ly_ka hL (by omega)).2.2 (by omega) (by decide) ir6 (fun ir8 => ?_)
  refine e_ldA (lvg_ne rfl rfl (by decide)) ?_
  refine e_ldA (lvg_ne rfl rfl (by decide)) ?_
  refine e_gV (ly_E hL he).2.1 (rd_a (rd_a (rd_a (rd_a q1.1 (ne_kd (ly_E hL he).2.1 (ly_ka hL (by omega)).2.1 (by decide))) (ne_kd (ly_E hL he).2.1 (ly_ka hL (by omega)).2.1 (by decide))) (ne_kd (ly_E hL he).2.1 (ly_ka hL (by omega)).2.1 (by decide))) (ne_kd (ly_E hL he).2.1 (ly_ka hL (by omega)).2.1 (by decide))) ?_
  refine e_cN 1 rfl ?_
  refine e_add ?_
  refine e_cN 50 rfl ?_
  refine e_rem (by omega) (by decide) (by decide) ?_
  refine e_tJ (ly_E hL he).2.1 ir8 (fun N e => by have e2 : some 50 = some N := e; cases e2; exact ⟨_, by omega, rfl⟩) (fun ir10 => ?_)
  refine e_ldA (lvg_ne rfl rfl (by decide)) ?_
  refine e_ldA (lvg_ne rfl rfl (by decide)) ?_
  have q12 := ir_n ir10 (ly_E hL he).2.1 (show rg 2 5 = some 51 from rfl)
  have hq12 := q12.2
  refine e_gV (ly_E hL he).2.1 q12.1 ?_
  refine e_cN 1 rfl ?_
  refine u_X1_keep_71 ?_
  unfold bX1_keep_71
  refine e_add ?_
  refine e_cN 50 rfl ?_
  refine e_mMN rfl (by omega) (by omega) ?_
  refine e_tJ (ly_E hL he).2.1 ir10 (fun N e => by have e2 : some 51 = some N := e; cases e2; exact ⟨_, by first | omega | (split <;> omega), rfl⟩) (fun ir13 => ?_)
  refine e_ldA (lvg_ne rfl rfl (by decide)) ?_
  refine e_duA ?_
  refine e_gE (ly_E hL he).2.1 ?_
  refine e_cN 1 rfl ?_
  refine e_bopE ?_
  refine e_tJ (ly_E hL he).2.1 ir13 (fun N e => nomatch (show (none : Option Nat) = some N from e)) (fun ir15 => ?_)
  exact e_rV (K ir15)
def f_X3_takeDueFrame (I : Nat → Nat → Int32) (R : Nat → Nat → Option Nat) (b : Nat) (c : Nat) (e : Nat) (v : Int32) : (Nat → Nat → Int32) × Option Nat := if R (fad R b c e) (I (Ln R b c e) 4).toNatClampNeg = none then (if (I (Ln R b c e) 5).toNatClampNeg = 0 then ((I, none)) else ((I, none))) else (if (I (Ln R b c e) 5).toNatClampNeg = 0 then ((I, none)) else (if (I ((R (fad R b c e) (I (Ln R b c e) 4).toNatClampNeg).getD 0) 3) ≤ v then (let I9 := up2 I (Ln R b c e) 4 (nI (((I (Ln R b c e) 4).toNatClampNeg + 1) % 200)); let I11 := up2 I9 (Ln R b c e) 5 (nI ((I (Ln R b c e) 5).toNatClampNeg - 1)); (I11, some ((R (fad R b c e) (I (Ln R b c e) 4).toNatClampNeg).getD 0))) else ((I, none))))
theorem x_X3_takeDueFrame {Q : Option Value → MM → Prop} {S : MM} {b : Nat} {c : Nat} {e : Nat} {v : Int32} (hL : LY S b) (hc : c < 8) (he : e < 2) (ir : IR S)   (K : KAC 3 Q S (f_X3_takeDueFrame (sI S) (sR S) b c e v)) : wX3_takeDueFrame [.ref (Ln (sR S) b c e), .int v] S Q := by
  unfold f_X3_takeDueFrame at K
  refine Exists.intro 2 (u_X3_takeDueFrame_0 ?_)
  unfold bX3_takeDueFrame_0
  refine e_ldA rfl ?_
  refine e_gR (ly_N hL hc he).2.1 (ly_fa hL (by omega) (by omega)).1 ?_
  refine e_ldA rfl ?_
  have q1 := ir_n ir (ly_N hL hc he).2.1 (show rg 4 4 = some 200 from rfl)
  have hq1 := q1.2
  refine e_gV (ly_N hL hc he).2.1 q1.1 ?_
  refine e_aX (N := 200) (ly_fa hL (by omega) (by omega)).2.1 (ly_fa hL (by omega) (by omega)).2.2 (by omega) (by decide) (fun h2 => ?_) (fun h2 => ?_)
  · replace K := kx_p h2 K
    refine e_stN ?_
    refine e_ldA (lvg_ne rfl rfl (by decide)) ?_
    have q3 := ir_n ir (ly_N hL hc he).2.1 (show rg 4 5 = some 201 from rfl)
    have hq3 := q3.2
    refine e_gV (ly_N hL hc he).2.1 q3.1 ?_
    refine e_ifN (by omega) (fun h4 => ?_) (fun h4 => ?_)
    · replace K := kx_p h4 K
      refine u_X3_takeDueFrame_29 ?_
      unfold bX3_takeDueFrame_29
      refine e_nul ?_
      exact e_rN (K ir (Or.inl rfl))
    · replace K := kx_n (by omega) K
      refine e_ldN lvg_self ?_
      refine e_nnN ?_
      refine u_X3_takeDueFrame_29 ?_
      unfold bX3_takeDueFrame_29
      refine e_nul ?_
      exact e_rN (K ir (Or.inl rfl))
  · replace K := kx_n h2 K
    refine e_stA ?_
    refine e_ldA (lvg_ne rfl rfl (by decide)) ?_
    have q5 := ir_n ir (ly_N hL hc he).2.1 (show rg 4 5 = some 201 from rfl)
    have hq5 := q5.2
    refine e_gV (ly_N hL hc he).2.1 q5.1 ?_
    refine e_ifN (by omega) (fun h6 => ?_) (fun h6 => ?_)
    · replace K := kx_p h6 K
      refine u_X3_takeDueFrame_29 ?_
      unfold bX3_takeDueFrame_29
      refine e_nul ?_
      exact e_rN (K ir (Or.inl rfl))
    · replace K := kx_n (by omega) K
      refine e_ldA lvg_self ?_
      refine e_nnA ?_
      refine e_ldA lvg_self ?_
      refine e_gE (ly_nn hL.1 (ly_fa hL (by omega) (by omega)).2.1 rfl h2) ?_
      refine e_ldI (lvg_ne rfl rfl (by decide)) ?_
      refine ⟨fun h7 => ?_, fun h7 => ?_⟩
      · replace K := kx_p h7 K
        refine u_X3_takeDueFrame_31 ?_
        unfold bX3_takeDueFrame_31
        refine e_ldA (lvg_ne rfl rfl (by decide)) ?_
        refine e_ldA (lvg_ne rfl rfl (by decide)) ?_
        refine e_gV (ly_N hL hc he).2.1 q1.1 ?_
        refine e_cN 1 rfl ?_
        refine e_add ?_
        refine e_cN 200 rfl ?_
        refine e_rem (by omega) (by decide) (by decide) ?_
        refine e_tJ (ly_N hL hc he).2.1 ir (fun N e => by have e2 : some 200 = some N := e; cases e2; exact ⟨_, by omega, rfl⟩) (fun ir8 => ?_)
        refine e_ldA (lvg_ne rfl rfl (by decide)) ?_
        refine e_duA ?_
        refine e_gV (ly_N hL hc he).2.1 (rd_k q5.1 (by decide)) ?_
        refine e_cN 1 rfl ?_
        refine e_sub (by omega) ?_
        refine e_tJ (ly_N hL hc he).2.1 ir8 (fun N e => by have e2 : some 201 = some N := e; cases e2; exact ⟨_, by omega, rfl⟩) (fun ir10 => ?_)
        refine e_ldA lvg_self ?_
        exact e_rA (K ir10 (Or.inr (ly_nn hL.1 (ly_fa hL (by omega) (by omega)).2.1 rfl h2)))
      · replace K := kx_n h7 K
        refine u_X3_takeDueFrame_29 ?_
        unfold bX3_takeDueFrame_29
        refine e_nul ?_
        exact e_rN (K ir (Or.inl rfl))
def f_X0_agrees (I : Nat → Nat → Int32) (R : Nat → Nat → Option Nat) (b : Nat) (c : Nat) : Int32 := if (I (Cb R b c) 3) = 0 then ((nI 0)) else (if plg R b c then (if (f_X6_has I ((R ((R (ppd R b c) 0).getD 0) 0).getD 0) (nI 4)) = 0 then ((nI 0)) else (if (f_X6_has I ((R ((R (ppd R b c) 1).getD 0) 0).getD 0) (nI 4)) = 0 then ((nI 0)) else (if (f_X6_has I ((R ((R (ppd R b c) 0).getD 0) 0).getD 0) (nI 1)) = 0 then (if (f_X6_has I ((R ((R (ppd R b c) 1).getD 0) 0).getD 0) (nI 1)) = 0 then ((nI 0)) else ((nI 1))) else ((nI 1))))) else ((nI 0)))
theorem x_X0_agrees {Q : Option Value → MM → Prop} {S : MM} {b : Nat} {c : Nat} (hL : LY S b) (hc : c < 8) (ir : IR S)   (K : KP Q S (f_X0_agrees (sI S) (sR S) b c)) : wX0_agrees [.ref (Cb (sR S) b c)] S Q := by
  unfold f_X0_agrees at K
  refine Exists.intro 3 (u_X0_agrees_0 ?_)
  unfold bX0_agrees_0
  refine e_ldA rfl ?_
  refine e_gE (ly_C hL hc).2.1 ?_
  refine ⟨fun h1 => ?_, fun h1 => ?_⟩
  · replace K := kx_p h1 K
    refine u_X0_agrees_82 ?_
    unfold bX0_agrees_82
    refine e_cN 0 rfl ?_
    refine u_X0_agrees_83 ?_
    unfold bX0_agrees_83
    exact And.intro (Or.inl rfl) K
  · replace K := kx_n h1 K
    refine e_ldA rfl ?_
    refine And.intro (ly_C hL hc).2.1 (And.intro ⟨by decide, by decide⟩ (x_plg hL (by omega) (fun h2 => ?_) (fun h2 => ?_)))
    · replace K := kx_n h2 K
      refine ⟨fun _ => ?_, fun z => absurd (by decide) z⟩
      refine u_X0_agrees_82 ?_
      unfold bX0_agrees_82
      refine e_cN 0 rfl ?_
      refine u_X0_agrees_83 ?_
      unfold bX0_agrees_83
      exact And.intro (Or.inl rfl) K
    · replace K := kx_p h2 K
      refine ⟨fun z => absurd z (by decide), fun _ => ?_⟩
      refine e_ldA rfl ?_
      refine e_gR (ly_C hL hc).2.1 (ly_pp hL (by omega)).1 ?_
      refine e_cN 0 rfl ?_
      refine e_aR (N := 2) (ly_pp hL (by omega)).2.1 (ly_pp hL (by omega)).2.2 (by omega) (by decide) (opt_get (plg_i h2 (by omega))) ?_
      refine e_gR (ly_nn hL.1 (ly_pp hL (by omega)).2.1 rfl (plg_i h2 (by omega))) (ly_f hL.1 (ly_nn hL.1 (ly_pp hL (by omega)).2.1 rfl (plg_i h2 (by omega))) (show rf 6 0 = some (7, 0) from rfl)).1 ?_
      refine e_cN 4 rfl ?_
      refine And.intro (ly_f hL.1 (ly_nn hL.1 (ly_pp hL (by omega)).2.1 rfl (plg_i h2 (by omega))) (show rf 6 0 = some (7, 0) from rfl)).2.1 (And.intro ⟨by decide, by decide⟩ (x_X6_has (ly_f hL.1 (ly_nn hL.1 (ly_pp hL (by omega)).2.1 rfl (plg_i h2 (by omega))) (show rf 6 0 = some (7, 0) from rfl)).2.1 (KP_i ?_)))
      refine ⟨fun h3 => ?_, fun h3 => ?_⟩
      · replace K := kx_p h3 K
        refine u_X0_agrees_82 ?_
        unfold bX0_agrees_82
        refine e_cN 0 rfl ?_
        refine u_X0_agrees_83 ?_
        unfold bX0_agrees_83
        exact And.intro (Or.inl rfl) K
      · replace K := kx_n h3 K
        refine e_ldA rfl ?_
        refine e_gR (ly_C hL hc).2.1 (ly_pp hL (by omega)).1 ?_
        refine e_cN 1 rfl ?_
        refine e_aR (N := 2) (ly_pp hL (by omega)).2.1 (ly_pp hL (by omega)).2.2 (by omega) (by decide) (opt_get (plg_i h2 (by omega))) ?_
        refine e_gR (ly_nn hL.1 (ly_pp hL (by omega)).2.1 rfl (plg_i h2 (by omega))) (ly_f hL.1 (ly_nn hL.1 (ly_pp hL (by omega)).2.1 rfl (plg_i h2 (by omega))) (show rf 6 0 = some (7, 0) from rfl)).1 ?_
        refine e_cN 4 rfl ?_
        refine And.intro (ly_f hL.1 (ly_nn hL.1 (ly_pp hL (by omega)).2.1 rfl (plg_i h2 (by omega))) (show rf 6 0 = some (7, 0) from rfl)).2.1 (And.intro ⟨by decide, by decide⟩ (x_X6_has (ly_f hL.1 (ly_nn hL.1 (ly_pp hL (by omega)).2.1 rfl (plg_i h2 (by omega))) (show rf 6 0 = some (7, 0) from rfl)).2.1 (KP_i ?_)))
        refine ⟨fun h4 => ?_, fun h4 => ?_⟩
        · replace K := kx_p h4 K
          refine u_X0_agrees_82 ?_
          unfold bX0_agrees_82
          refine e_cN 0 rfl ?_
          refine u_X0_agrees_83 ?_
          unfold bX0_agrees_83
          exact And.intro (Or.inl rfl) K
        · replace K := kx_n h4 K
          refine e_ldA rfl ?_
          refine e_gR (ly_C hL hc).2.1 (ly_pp hL (by omega)).1 ?_
          refine e_cN 0 rfl ?_
          refine e_aR (N := 2) (ly_pp hL (by omega)).2.1 (ly_pp hL (by omega)).2.2 (by omega) (by decide) (opt_get (plg_i h2 (by omega))) ?_
          refine e_gR (ly_nn hL.1 (ly_pp hL (by omega)).2.1 rfl (plg_i h2 (by omega))) (ly_f hL.1 (ly_nn hL.1 (ly_pp hL (by omega)).2.1 rfl (plg_i h2 (by omega))) (show rf 6 0 = some (7, 0) from rfl)).1 ?_
          refine e_cN 1 rfl ?_
          refine And.intro (ly_f hL.1 (ly_nn hL.1 (ly_pp hL (by omega)).2.1 rfl (plg_i h2 (by omega))) (show rf 6 0 = some (7, 0) from rfl)).2.1 (And.intro ⟨by decide, by decide⟩ (x_X6_has (ly_f hL.1 (ly_nn hL.1 (ly_pp hL (by omega)).2.1 rfl (plg_i h2 (by omega))) (show rf 6 0 = some (7, 0) from rfl)).2.1 (KP_i ?_)))
          refine ⟨fun h5 => ?_, fun h5 => ?_⟩
          · replace K := kx_p h5 K
            refine e_ldA rfl ?_
            refine e_gR (ly_C hL hc).2.1 (ly_pp hL (by omega)).1 ?_
            refine e_cN 1 rfl ?_
            refine e_aR (N := 2) (ly_pp hL (by omega)).2.1 (ly_pp hL (by omega)).2.2 (by omega) (by decide) (opt_get (plg_i h2 (by omega))) ?_
            refine e_gR (ly_nn hL.1 (ly_pp hL (by omega)).2.1 rfl (plg_i h2 (by omega))) (ly_f hL.1 (ly_nn hL.1 (ly_pp hL (by omega)).2.1 rfl (plg_i h2 (by omega))) (show rf 6 0 = some (7, 0) from rfl)).1 ?_
            refine e_cN 1 rfl ?_
            refine And.intro (ly_f hL.1 (ly_nn hL.1 (ly_pp hL (by omega)).2.1 rfl (plg_i h2 (by omega))) (show rf 6 0 = some (7, 0) from rfl)).2.1 (And.intro ⟨by decide, by decide⟩ (x_X6_has (ly_f hL.1 (ly_nn hL.1 (ly_pp hL (by omega)).2.1 rfl (plg_i h2 (by omega))) (show rf 6 0 = some (7, 0) from rfl)).2.1 (KP_i ?_)))
            refine ⟨fun h6 => ?_, fun h6 => ?_⟩
            · replace K := kx_p h6 K
              refine u_X0_agrees_82 ?_
              unfold bX0_agrees_82
              refine e_cN 0 rfl ?_
              refine u_X0_agrees_83 ?_
              unfold bX0_agrees_83
              exact And.intro (Or.inl rfl) K
            · replace K := kx_n h6 K
              refine u_X0_agrees_78 ?_
              unfold bX0_agrees_78
              refine e_cN 1 rfl ?_
              refine u_X0_agrees_83 ?_
              unfold bX0_agrees_83
              exact And.intro (Or.inr rfl) K
          · replace K := kx_n h5 K
            refine u_X0_agrees_78 ?_
            unfold bX0_agrees_78
            refine e_cN 1 rfl ?_
            refine u_X0_agrees_83 ?_
            unfold bX0_agrees_83
            exact And.intro (Or.inr rfl) K
theorem agr_pl {I : Nat → Nat → Int32} {R : Nat → Nat → Option Nat} {b c : Nat} (h : ¬ f_X0_agrees I R b c = 0) : plg R b c := by
  by_cases hp : plg R b c
  · exact hp
  · unfold f_X0_agrees at h
    rw [if_neg hp] at h
    split at h <;> exact absurd rfl h
def f_X0_isInGroupOf (I : Nat → Nat → Int32) (R : Nat → Nat → Option Nat) (b : Nat) (c : Nat) (c2 : Nat) : Int32 := if plg R b c then (if plg R b c2 then (if (I ((R ((R (ppd R b c) 0).getD 0) 0).getD 0) 1) = (I ((R ((R (ppd R b c2) 0).getD 0) 0).getD 0) 1) then (if (I ((R ((R (ppd R b c) 1).getD 0) 0).getD 0) 1) = (I ((R ((R (ppd R b c2) 1).getD 0) 0).getD 0) 1) then ((nI 1)) else ((nI 0))) else ((nI 0))) else ((nI 0))) else ((nI 0))
theorem x_X0_isInGroupOf {Q : Option Value → MM → Prop} {S : MM} {b : Nat} {c : Nat} {c2 : Nat} (hL : LY S b) (hc : c < 8) (hc2 : c2 < 8) (ir : IR S)   (K : KP Q S (f_X0_isInGroupOf (sI S) (sR S) b c c2)) : wX0_isInGroupOf [.ref (Cb (sR S) b c), .ref (Cb (sR S) b c2)] S Q := by
  unfold f_X0_isInGroupOf at K
  refine Exists.intro 3 (u_X0_isInGroupOf_0 ?_)
  unfold bX0_isInGroupOf_0
  refine e_ldA rfl ?_
  refine And.intro (ly_C hL hc).2.1 (And.intro ⟨by decide, by decide⟩ (x_plg hL (by omega) (fun h1 => ?_) (fun h1 => ?_)))
  · replace K := kx_n h1 K
    refine ⟨fun _ => ?_, fun z => absurd (by decide) z⟩
    refine u_X0_isInGroupOf_72 ?_
    unfold bX0_isInGroupOf_72
    refine e_cN 0 rfl ?_
    refine u_X0_isInGroupOf_73 ?_
    unfold bX0_isInGroupOf_73
    exact And.intro (Or.inl rfl) K
  · replace K := kx_p h1 K
    refine ⟨fun z => absurd z (by decide), fun _ => ?_⟩
    refine e_ldA rfl ?_
    refine And.intro (ly_C hL hc2).2.1 (And.intro ⟨by decide, by decide⟩ (x_plg hL (by omega) (fun h2 => ?_) (fun h2 => ?_)))
    · replace K := kx_n h2 K
      refine ⟨fun _ => ?_, fun z => absurd (by decide) z⟩
      refine u_X0_isInGroupOf_72 ?_
      unfold bX0_isInGroupOf_72
      refine e_cN 0 rfl ?_
      refine u_X0_isInGroupOf_73 ?_
      unfold bX0_isInGroupOf_73
      exact And.intro (Or.inl rfl) K
    · replace K := kx_p h2 K
      refine ⟨fun z => absurd z (by decide), fun _ => ?_⟩
      refine e_ldA rfl ?_
      refine e_gR (ly_C hL hc).2.1 (ly_pp hL (by omega)).1 ?_
      refine e_cN 0 rfl ?_
      refine e_aR (N := 2) (ly_pp hL (by omega)).2.1 (ly_pp hL (by omega)).2.2 (by omega) (by decide) (opt_get (plg_i h1 (by omega))) ?_
      refine e_gR (ly_nn hL.1 (ly_pp hL (by omega)).2.1 rfl (plg_i h1 (by omega))) (ly_f hL.1 (ly_nn hL.1 (ly_pp hL (by omega)).2.1 rfl (plg_i h1 (by omega))) (show rf 6 0 = some (7, 0) from rfl)).1 ?_
      refine e_gE (ly_f hL.1 (ly_nn hL.1 (ly_pp hL (by omega)).2.1 rfl (plg_i h1 (by omega))) (show rf 6 0 = some (7, 0) from rfl)).2.1 ?_
      refine e_ldA rfl ?_
      refine e_gR (ly_C hL hc2).2.1 (ly_pp hL (by omega)).1 ?_
      refine e_cN 0 rfl ?_
      refine e_aR (N := 2) (ly_pp hL (by omega)).2.1 (ly_pp hL (by omega)).2.2 (by omega) (by decide) (opt_get (plg_i h2 (by omega))) ?_
      refine e_gR (ly_nn hL.1 (ly_pp hL (by omega)).2.1 rfl (plg_i h2 (by omega))) (ly_f hL.1 (ly_nn hL.1 (ly_pp hL (by omega)).2.1 rfl (plg_i h2 (by omega))) (show rf 6 0 = some (7, 0) from rfl)).1 ?_
      refine e_gE (ly_f hL.1 (ly_nn hL.1 (ly_pp hL (by omega)).2.1 rfl (plg_i h2 (by omega))) (show rf 6 0 = some (7, 0) from rfl)).2.1 ?_
      refine ⟨fun h3 => ?_, fun h3 => ?_⟩
      · replace K := kx_p h3 K
        refine e_ldA rfl ?_
        refine e_gR (ly_C hL hc).2.1 (ly_pp hL (by omega)).1 ?_
        refine e_cN 1 rfl ?_
        refine e_aR (N := 2) (ly_pp hL (by omega)).2.1 (ly_pp hL (by omega)).2.2 (by omega) (by decide) (opt_get (plg_i h1 (by omega))) ?_
        refine e_gR (ly_nn hL.1 (ly_pp hL (by omega)).2.1 rfl (plg_i h1 (by omega))) (ly_f hL.1 (ly_nn hL.1 (ly_pp hL (by omega)).2.1 rfl (plg_i h1 (by omega))) (show rf 6 0 = some (7, 0) from rfl)).1 ?_
        refine e_gE (ly_f hL.1 (ly_nn hL.1 (ly_pp hL (by omega)).2.1 rfl (plg_i h1 (by omega))) (show rf 6 0 = some (7, 0) from rfl)).2.1 ?_
        refine e_ldA rfl ?_
        refine e_gR (ly_C hL hc2).2.1 (ly_pp hL (by omega)).1 ?_
        refine e_cN 1 rfl ?_
        refine e_aR (N := 2) (ly_pp hL (by omega)).2.1 (ly_pp hL (by omega)).2.2 (by omega) (by decide) (opt_get (plg_i h2 (by omega))) ?_
        refine e_gR (ly_nn hL.1 (ly_pp hL (by omega)).2.1 rfl (plg_i h2 (by omega))) (ly_f hL.1 (ly_nn hL.1 (ly_pp hL (by omega)).2.1 rfl (plg_i h2 (by omega))) (show rf 6 0 = some (7, 0) from rfl)).1 ?_
        refine e_gE (ly_f hL.1 (ly_nn hL.1 (ly_pp hL (by omega)).2.1 rfl (plg_i h2 (by omega))) (show rf 6 0 = some (7, 0) from rfl)).2.1 ?_
        refine ⟨fun h4 => ?_, fun h4 => ?_⟩
        · replace K := kx_p h4 K
          refine e_cN 1 rfl ?_
          refine u_X0_isInGroupOf_73 ?_
          unfold bX0_isInGroupOf_73
          exact And.intro (Or.inr rfl) K
        · replace K := kx_n h4 K
          refine u_X0_isInGroupOf_72 ?_
          unfold bX0_isInGroupOf_72
          refine e_cN 0 rfl ?_
          refine u_X0_isInGroupOf_73 ?_
          unfold bX0_isInGroupOf_73
          exact And.intro (Or.inl rfl) K
      · replace K := kx_n h3 K
        refine u_X0_isInGroupOf_72 ?_
        unfold bX0_isInGroupOf_72
        refine e_cN 0 rfl ?_
        refine u_X0_isInGroupOf_73 ?_
        unfold bX0_isInGroupOf_73
        exact And.intro (Or.inl rfl) K
theorem iig_1 {I : Nat → Nat → Int32} {R : Nat → Nat → Option Nat} {b c c2 : Nat} (h : ¬ f_X0_isInGroupOf I R b c c2 = 0) : plg R b c := by
  by_cases hp : plg R b c
  · exact hp
  · unfold f_X0_isInGroupOf at h
    rw [if_neg hp] at h
    exact absurd rfl h
theorem iig_2 {I : Nat → Nat → Int32} {R : Nat → Nat → Option Nat} {b c c2 : Nat} (h : ¬ f_X0_isInGroupOf I R b c c2 = 0) : plg R b c2 := by
  by_cases hp : plg R b c2
  · exact hp
  · have h1 := iig_1 h
    unfold f_X0_isInGroupOf at h
    rw [if_pos h1, if_neg hp] at h
    exact absurd rfl h
def g_X7_countMeantAhead_10 (R : Nat → Nat → Option Nat) (b : Nat) (c : Nat) : Nat → Nat → Nat → (Nat → Nat → Int32) → Int32 → (Int32)
  | 0, i4, i2, I, w3 => w3
  | r + 1, i4, i2, I, w3 => if (f_X0_agrees I R b i4) = 0 then (g_X7_countMeantAhead_10 R b c r (i4 + 1) i2 I w3) else (if (f_X0_isInGroupOf I R b i4 c) = 0 then (g_X7_countMeantAhead_10 R b c r (i4 + 1) i2 I w3) else (if (f_X5_isAheadOf I ((R (ppd R b i4) i2).getD 0) ((R ((R (ppd R b i4) i2).getD 0) 0).getD 0) ((R ((R (ppd R b i4) i2).getD 0) 1).getD 0) ((R (ppd R b c) i2).getD 0) ((R ((R (ppd R b c) i2).getD 0) 0).getD 0) ((R ((R (ppd R b c) i2).getD 0) 1).getD 0) (nI 1)) = 0 then (g_X7_countMeantAhead_10 R b c r (i4 + 1) i2 I w3) else (g_X7_countMeantAhead_10 R b c r (i4 + 1) i2 I (w3 + (1)))))
theorem y_X7_countMeantAhead_10 {Q : Option Value → MM → Prop} {b : Nat} {c : Nat}  (r : Nat) : ∀ {S : MM} {i2 : Nat} {w3 : Int32} {i4 n : Nat} {lv : Lv} (hL : LY S b) (hc : c < 8) (ir : IR S) (hi2 : i2 < 2)  (g0 : lvg lv 0 = some (.ref b)) (g1 : lvg lv 1 = some (.ref (Cb (sR S) b c))) (g2 : lvg lv 2 = some (.int (nI i2))) (g3 : lvg lv 3 = some (.int w3)) (g4 : lvg lv 4 = some (.int (nI i4)))    (hr : i4 + r = 8) (hn : 2 + r * 2 ≤ n) (K : KP Q S (g_X7_countMeantAhead_10 (sR S) b c r i4 i2 (sI S) w3)), wpn (kX7_countMeantAhead Q) n 10 lv [] S 0 0 := by
  induction r with
  | zero =>
    intro S i2 w3 i4 n lv hL hc ir hi2  g0 g1 g2 g3 g4    hr hn K
    obtain ⟨d, rfl⟩ : ∃ d, n = d + 2 := ⟨n - 2, by omega⟩
    unfold g_X7_countMeantAhead_10 at K
    refine u_X7_countMeantAhead_10 ?_
    unfold bX7_countMeantAhead_10
    refine e_ldI g4 ?_
    refine e_cN 8 rfl ?_
    refine e_ge (by omega) (by omega) (fun _ => ?_) (fun z => absurd z (by omega))
    refine u_X7_countMeantAhead_72 ?_
    unfold bX7_countMeantAhead_72
    refine e_ldI g3 ?_
    exact e_rI K
  | succ r ih =>
    intro S i2 w3 i4 n lv hL hc ir hi2  g0 g1 g2 g3 g4    hr hn K
    obtain ⟨d, hd, rfl⟩ : ∃ d, 2 + r * 2 ≤ d ∧ n = d + 2 := ⟨n - 2, by omega, by omega⟩
    unfold g_X7_countMeantAhead_10 at K
    refine u_X7_countMeantAhead_10 ?_
    unfold bX7_countMeantAhead_10
    refine e_ldI g4 ?_
    refine e_cN 8 rfl ?_
    refine e_ge (by omega) (by omega) (fun z => absurd z (by omega)) (fun _ => ?_)
    refine e_ldA g0 ?_
    refine e_gR hL.2 (ly_ca hL).1 ?_
    refine e_ldI g4 ?_
    refine e_aR (N := 8) (ly_ca hL).2.1 (ly_ca hL).2.2 (by omega) (by decide) (ly_C hL (by omega)).1 ?_
    refine e_stA ?_
    refine e_ldA lvg_self ?_
    refine And.intro (ly_C hL (by omega)).2.1 (And.intro ⟨by decide, by decide⟩ (x_X0_agrees hL (by omega) ir (KP_i ?_)))
    refine ⟨fun h1 => ?_, fun h1 => ?_⟩
    · replace K := kx_p h1 K
      refine u_X7_countMeantAhead_66 ?_
      unfold bX7_countMeantAhead_66
      refine e_inc (lvg_ne g4 rfl (by decide)) ?_
      exact ih hL hc ir (by omega)  (lvg_ne (lvg_ne g0 rfl (by decide)) rfl (by decide)) (lvg_ne (lvg_ne g1 rfl (by decide)) rfl (by decide)) (lvg_ne (lvg_ne g2 rfl (by decide)) rfl (by decide)) (lvg_ne (lvg_ne g3 rfl (by decide)) rfl (by decide)) lvg_self    (by omega) (by omega) K
    · replace K := kx_n h1 K
      refine e_ldA lvg_self ?_
      refine e_ldA (lvg_ne g1 rfl (by decide)) ?_
      refine And.intro (ly_C hL (by omega)).2.1 (And.intro ⟨by decide, by decide⟩ (x_X0_isInGroupOf hL (by omega) (by omega) ir (KP_i ?_)))
      refine ⟨fun h2 => ?_, fun h2 => ?_⟩
      · replace K := kx_p h2 K
        refine u_X7_countMeantAhead_66 ?_
        unfold bX7_countMeantAhead_66
        refine e_inc (lvg_ne g4 rfl (by decide)) ?_
        exact ih hL hc ir (by omega)  (lvg_ne (lvg_ne g0 rfl (by decide)) rfl (by decide)) (lvg_ne (lvg_ne g1 rfl (by decide)) rfl (by decide)) (lvg_ne (lvg_ne g2 rfl (by decide)) rfl (by decide)) (lvg_ne (lvg_ne g3 rfl (by decide)) rfl (by decide)) lvg_self    (by omega) (by omega) K
      · replace K := kx_n h2 K
        refine e_ldA lvg_self ?_
        refine e_gR (ly_C hL (by omega)).2.1 (ly_pp hL (by omega)).1 ?_
        refine e_ldI (lvg_ne g2 rfl (by decide)) ?_
        refine e_aR (N := 2) (ly_pp hL (by omega)).2.1 (ly_pp hL (by omega)).2.2 (by omega) (by decide) (opt_get (plg_i (iig_1 h2) (by omega))) ?_
        refine e_ldA (lvg_ne g1 rfl (by decide)) ?_
        refine e_gR (ly_C hL hc).2.1 (ly_pp hL (by omega)).1 ?_
        refine e_ldI (lvg_ne g2 rfl (by decide)) ?_
        refine e_aR (N := 2) (ly_pp hL (by omega)).2.1 (ly_pp hL (by omega)).2.2 (by omega) (by decide) (opt_get (plg_i (iig_2 h2) (by omega))) ?_
        refine e_cN 1 rfl ?_
        refine And.intro (ly_nn hL.1 (ly_pp hL (by omega)).2.1 rfl (plg_i (iig_1 h2) (by omega))) (And.intro ⟨by decide, by decide⟩ (x_X5_isAheadOf (ly_nn hL.1 (ly_pp hL (by omega)).2.1 rfl (plg_i (iig_1 h2) (by omega))) (ly_f hL.1 (ly_nn hL.1 (ly_pp hL (by omega)).2.1 rfl (plg_i (iig_1 h2) (by omega))) (show rf 6 0 = some (7, 0) from rfl)).2.1 (ly_f hL.1 (ly_nn hL.1 (ly_pp hL (by omega)).2.1 rfl (plg_i (iig_1 h2) (by omega))) (show rf 6 1 = some (7, 0) from rfl)).2.1 (ly_nn hL.1 (ly_pp hL (by omega)).2.1 rfl (plg_i (iig_2 h2) (by omega))) (ly_f hL.1 (ly_nn hL.1 (ly_pp hL (by omega)).2.1 rfl (plg_i (iig_2 h2) (by omega))) (show rf 6 0 = some (7, 0) from rfl)).2.1 (ly_f hL.1 (ly_nn hL.1 (ly_pp hL (by omega)).2.1 rfl (plg_i (iig_2 h2) (by omega))) (show rf 6 1 = some (7, 0) from rfl)).2.1 (ly_f hL.1 (ly_nn hL.1 (ly_pp hL (by omega)).2.1 rfl (plg_i (iig_1 h2) (by omega))) (show rf 6 0 = some (7, 0) from rfl)).1 (ly_f hL.1 (ly_nn hL.1 (ly_pp hL (by omega)).2.1 rfl (plg_i (iig_1 h2) (by omega))) (show rf 6 1 = some (7, 0) from rfl)).1 (ly_f hL.1 (ly_nn hL.1 (ly_pp hL (by omega)).2.1 rfl (plg_i (iig_2 h2) (by omega))) (show rf 6 0 = some (7, 0) from rfl)).1 (ly_f hL.1 (ly_nn hL.1 (ly_pp hL (by omega)).2.1 rfl (plg_i (iig_2 h2) (by omega))) (show rf 6 1 = some (7, 0) from rfl)).1 (KP_i ?_)))
        refine ⟨fun h3 => ?_, fun h3 => ?_⟩
        · replace K := kx_p h3 K
          refine u_X7_countMeantAhead_66 ?_
          unfold bX7_countMeantAhead_66
          refine e_inc (lvg_ne g4 rfl (by decide)) ?_
          exact ih hL hc ir (by omega)  (lvg_ne (lvg_ne g0 rfl (by decide)) rfl (by decide)) (lvg_ne (lvg_ne g1 rfl (by decide)) rfl (by decide)) (lvg_ne (lvg_ne g2 rfl (by decide)) rfl (by decide)) (lvg_ne (lvg_ne g3 rfl (by decide)) rfl (by decide)) lvg_self    (by omega) (by omega) K
        · replace K := kx_n h3 K
          refine e_incE (lvg_ne g3 rfl (by decide)) ?_
          refine u_X7_countMeantAhead_66 ?_
          unfold bX7_countMeantAhead_66
          refine e_inc (lvg_ne (lvg_ne g4 rfl (by decide)) rfl (by decide)) ?_
          exact ih hL hc ir (by omega)  (lvg_ne (lvg_ne (lvg_ne g0 rfl (by decide)) rfl (by decide)) rfl (by decide)) (lvg_ne (lvg_ne (lvg_ne g1 rfl (by decide)) rfl (by decide)) rfl (by decide)) (lvg_ne (lvg_ne (lvg_ne g2 rfl (by decide)) rfl (by decide)) rfl (by decide)) (lvg_ne lvg_self rfl (by decide)) lvg_self    (by omega) (by omega) K
def f_X7_countMeantAhead (I : Nat → Nat → Int32) (R : Nat → Nat → Option Nat) (b : Nat) (c : Nat) : Int32 := g_X7_countMeantAhead_10 R b c 8 0 (f_X7_strongerEnd I R b) I (nI 0)
theorem x_X7_countMeantAhead {Q : Option Value → MM → Prop} {S : MM} {b : Nat} {c : Nat} (hL : LY S b) (hc : c < 8) (ir : IR S)   (K : KP Q S (f_X7_countMeantAhead (sI S) (sR S) b c)) : wX7_countMeantAhead [.ref b, .ref (Cb (sR S) b c)] S Q := by
  unfold f_X7_countMeantAhead at K
  refine Exists.intro 19 (u_X7_countMeantAhead_0 ?_)
  unfold bX7_countMeantAhead_0
  refine e_ldA rfl ?_
  refine And.intro hL.2 (And.intro ⟨by decide, by decide⟩ (x_X7_strongerEnd hL ir (fun hb1 => ?_)))
  refine e_stI ?_
  refine e_cN 0 rfl ?_
  refine e_stI ?_
  refine e_cN 0 rfl ?_
  refine e_stI ?_
  exact y_X7_countMeantAhead_10 8 hL hc ir (by omega)  (lvg_ne (lvg_ne (lvg_ne rfl rfl (by decide)) rfl (by decide)) rfl (by decide)) (lvg_ne (lvg_ne (lvg_ne rfl rfl (by decide)) rfl (by decide)) rfl (by decide)) (lvg_ne (lvg_ne lvg_self rfl (by decide)) rfl (by decide)) (lvg_ne lvg_self rfl (by decide)) lvg_self    (by omega) (by omega) K
def g_X7_noteChange_29 (R : Nat → Nat → Option Nat) (b : Nat) : Nat → Nat → (Nat → Nat → Int32) → Int32 → (Nat → Nat → Int32)
  | 0, i2, I, w1 => I
  | r + 1, i2, I, w1 => if (f_X0_agrees I R b i2) = 0 then (let I3 := up2 I (Cb R b i2) 4 (nI 0); g_X7_noteChange_29 R b r (i2 + 1)  I3 w1) else (if w1 ≤ (f_X7_countMeantAhead I R b i2) then (let I6 := up2 I (Cb R b i2) 4 (nI 0); g_X7_noteChange_29 R b r (i2 + 1)  I6 w1) else (let I8 := up2 I (Cb R b i2) 4 (nI 1); g_X7_noteChange_29 R b r (i2 + 1)  I8 w1))
theorem y_X7_noteChange_29 {Q : Option Value → MM → Prop} {b : Nat}  (r : Nat) : ∀ {S : MM}  {w1 : Int32} {i2 n : Nat} {lv : Lv} (hL : LY S b) (ir : IR S)   (g0 : lvg lv 0 = some (.ref b)) (g1 : lvg lv 1 = some (.int w1)) (g2 : lvg lv 2 = some (.int (nI i2)))    (hr : i2 + r = 8) (hn : 2 + r * 3 ≤ n) (K : KVC Q S (g_X7_noteChange_29 (sR S) b r i2  (sI S) w1)), wpn (kX7_noteChange Q) n 29 lv [] S 0 0 := by
  induction r with
  | zero =>
    intro S  w1 i2 n lv hL ir   g0 g1 g2    hr hn K
    obtain ⟨d, rfl⟩ : ∃ d, n = d + 2 := ⟨n - 2, by omega⟩
    unfold g_X7_noteChange_29 at K
    refine u_X7_noteChange_29 ?_
    unfold bX7_noteChange_29
    refine e_ldI g2 ?_
    refine e_cN 8 rfl ?_
    refine e_ge (by omega) (by omega) (fun _ => ?_) (fun z => absurd z (by omega))
    refine u_X7_noteChange_81 ?_
    unfold bX7_noteChange_81
    exact e_rV (K ir)
  | succ r ih =>
    intro S  w1 i2 n lv hL ir   g0 g1 g2    hr hn K
    obtain ⟨d, hd, rfl⟩ : ∃ d, 2 + r * 3 ≤ d ∧ n = d + 3 := ⟨n - 3, by omega, by omega⟩
    unfold g_X7_noteChange_29 at K
    refine u_X7_noteChange_29 ?_
    unfold bX7_noteChange_29
    refine e_ldI g2 ?_
    refine e_cN 8 rfl ?_
    refine e_ge (by omega) (by omega) (fun z => absurd z (by omega)) (fun _ => ?_)
    refine e_ldA g0 ?_
    refine e_gR hL.2 (ly_ca hL).1 ?_
    refine e_ldI g2 ?_
    refine e_aR (N := 8) (ly_ca hL).2.1 (ly_ca hL).2.2 (by omega) (by decide) (ly_C hL (by omega)).1 ?_
    refine e_ldA g0 ?_
    refine e_gR hL.2 (ly_ca hL).1 ?_
    refine e_ldI g2 ?_
    refine e_aR (N := 8) (ly_ca hL).2.1 (ly_ca hL).2.2 (by omega) (by decide) (ly_C hL (by omega)).1 ?_
    refine And.intro (ly_C hL (by omega)).2.1 (And.intro ⟨by decide, by decide⟩ (x_X0_agrees hL (by omega) ir (KP_i ?_)))
    refine ⟨fun h1 => ?_, fun h1 => ?_⟩
    · replace K := kx_p h1 K
      refine u_X7_noteChange_71 ?_
      unfold bX7_noteChange_71
      refine e_cN 0 rfl ?_
      refine u_X7_noteChange_72 ?_
      unfold bX7_noteChange_72
      refine e_tZJ (ly_C hL (by omega)).2.1 (Or.inl rfl) ir (fun N e => nomatch (show (none : Option Nat) = some N from e)) (fun ir2 => ?_)
      refine e_inc g2 ?_
      exact ih hL ir2   (lvg_ne g0 rfl (by decide)) (lvg_ne g1 rfl (by decide)) lvg_self    (by omega) (by omega) K
    · replace K := kx_n h1 K
      refine e_ldA g0 ?_
      refine e_ldA g0 ?_
      refine e_gR hL.2 (ly_ca hL).1 ?_
      refine e_ldI g2 ?_
      refine e_aR (N := 8) (ly_ca hL).2.1 (ly_ca hL).2.2 (by omega) (by decide) (ly_C hL (by omega)).1 ?_
      refine And.intro hL.2 (And.intro ⟨by decide, by decide⟩ (x_X7_countMeantAhead hL (by omega) ir (KP_i ?_)))
      refine e_ldI g1 ?_
      refine ⟨fun h4 => ?_, fun h4 => ?_⟩
      · replace K := kx_p h4 K
        refine u_X7_noteChange_71 ?_
        unfold bX7_noteChange_71
        refine e_cN 0 rfl ?_
        refine u_X7_noteChange_72 ?_
        unfold bX7_noteChange_72
        refine e_tZJ (ly_C hL (by omega)).2.1 (Or.inl rfl) ir (fun N e => nomatch (show (none : Option Nat) = some N from e)) (fun ir5 => ?_)
        refine e_inc g2 ?_
        exact ih hL ir5   (lvg_ne g0 rfl (by decide)) (lvg_ne g1 rfl (by decide)) lvg_self    (by omega) (by omega) K
      · replace K := kx_n h4 K
        refine e_cN 1 rfl ?_
        refine u_X7_noteChange_72 ?_
        unfold bX7_noteChange_72
        refine e_tZJ (ly_C hL (by omega)).2.1 (Or.inr rfl) ir (fun N e => nomatch (show (none : Option Nat) = some N from e)) (fun ir7 => ?_)
        refine e_inc g2 ?_
        exact ih hL ir7   (lvg_ne g0 rfl (by decide)) (lvg_ne g1 rfl (by decide)) lvg_self    (by omega) (by omega) K
def f_X7_noteChange (I : Nat → Nat → Int32) (R : Nat → Nat → Option Nat) (b : Nat) : Nat → Nat → Int32 := let I2 := up2 I b 3 (nI 0); g_X7_noteChange_29 R b 8 0  I2 (if (I2 (En R b 1) 2) < (I2 (En R b 0) 2) then (I2 (En R b 1) 2) else (I2 (En R b 0) 2))
theorem x_X7_noteChange {Q : Option Value → MM → Prop} {S : MM} {b : Nat} (hL : LY S b) (ir : IR S)   (K : KVC Q S (f_X7_noteChange (sI S) (sR S) b)) : wX7_noteChange [.ref b] S Q := by
  unfold f_X7_noteChange at K
  refine Exists.intro 27 (u_X7_noteChange_0 ?_)
  unfold bX7_noteChange_0
  refine e_ldA rfl ?_
  refine e_cN 0 rfl ?_
  refine e_tJ hL.2 ir (fun N e => nomatch (show (none : Option Nat) = some N from e)) (fun ir1 => ?_)
  refine e_ldA rfl ?_
  refine e_gR hL.2 (ly_ea hL).1 ?_
  refine e_cN 0 rfl ?_
  refine e_aR (N := 2) (ly_ea hL).2.1 (ly_ea hL).2.2 (by omega) (by decide) (ly_E hL (by omega)).1 ?_
  refine e_gE (ly_E hL (by omega)).2.1 ?_
  refine e_ldA rfl ?_
  refine e_gR hL.2 (ly_ea hL).1 ?_
  refine e_cN 1 rfl ?_
  refine e_aR (N := 2) (ly_ea hL).2.1 (ly_ea hL).2.2 (by omega) (by decide) (ly_E hL (by omega)).1 ?_
  refine e_gE (ly_E hL (by omega)).2.1 ?_
  refine e_mMI rfl ?_
  refine e_stI ?_
  refine e_cN 0 rfl ?_
  refine e_stI ?_
  exact y_X7_noteChange_29 8 hL ir1   (lvg_ne (lvg_ne rfl rfl (by decide)) rfl (by decide)) (lvg_ne lvg_self rfl (by decide)) lvg_self    (by omega) (by omega) K
def g_X8_moves_50_10 (I : Nat → Nat → Int32) (m : Nat) (A : Nat → Nat) (t : Nat) (u : Nat)   : Nat → Nat → Int32 := I
theorem y_X8_moves_50_10 {Q : Option Value → MM → Prop} {S : MM} {m : Nat} {A : Nat → Nat} {t : Nat} {u : Nat}   {n : Nat} {lv : Lv} (hM : MS S m A) (ht : t < 4000) (hu : u < 4000) (ir : IM S m A)   (g0 : lvg lv 0 = some (.ref m)) (g1 : lvg lv 1 = some (.int (nI t))) (g2 : lvg lv 2 = some (.int (nI u))) (g3 : lvg lv 3 = some (.int (nI 10)))  (hn : 2 ≤ n) (K : KVM m A Q S (g_X8_moves_50_10 (sI S) m A t u  )) : wpn (kX8_moves Q) n 50 lv [] S 0 0 := by
  obtain ⟨d, rfl⟩ : ∃ d, n = d + 2 := ⟨n - 2, by omega⟩
  unfold g_X8_moves_50_10 at K
  refine u_X8_moves_50 ?_
  unfold bX8_moves_50
  refine e_ldI g3 ?_
  refine e_cN 10 rfl ?_
  refine ⟨fun _ => ?_, fun z => absurd (by decide) z⟩
  refine u_X8_moves_84 ?_
  unfold bX8_moves_84
  exact e_rV (K ir)
def g_X8_moves_50_9 (I : Nat → Nat → Int32) (m : Nat) (A : Nat → Nat) (t : Nat) (u : Nat)   : Nat → Nat → Int32 := let I2 := up2 I (A 31) ((10 * u) + 9) (I (A 31) ((10 * t) + 9)); g_X8_moves_50_10 I2 m A t u  
theorem y_X8_moves_50_9 {Q : Option Value → MM → Prop} {S : MM} {m : Nat} {A : Nat → Nat} {t : Nat} {u : Nat}   {n : Nat} {lv : Lv} (hM : MS S m A) (ht : t < 4000) (hu : u < 4000) (ir : IM S m A)   (g0 : lvg lv 0 = some (.ref m)) (g1 : lvg lv 1 = some (.int (nI t))) (g2 : lvg lv 2 = some (.int (nI u))) (g3 : lvg lv 3 = some (.int (nI 9)))  (hn : 3 ≤ n) (K : KVM m A Q S (g_X8_moves_50_9 (sI S) m A t u  )) : wpn (kX8_moves Q) n 50 lv [] S 0 0 := by
  obtain ⟨d, rfl⟩ : ∃ d, n = d + 3 := ⟨n - 3, by omega⟩
  unfold g_X8_moves_50_9 at K
  refine u_X8_moves_50 ?_
  unfold bX8_moves_50
  refine e_ldI g3 ?_
  refine e_cN 10 rfl ?_
  refine ⟨fun z => absurd z (by decide), fun _ => ?_⟩
  refine e_ldA g0 ?_
  refine e_gR hM.1 (hM.2.1 31 (by decide)).1 ?_
  refine e_cN 10 rfl ?_
  refine e_ldI g2 ?_
  refine e_mul ?_
  refine e_ldI g3 ?_
  refine e_add ?_
  refine e_ldA g0 ?_
  refine e_gR hM.1 (hM.2.1 31 (by decide)).1 ?_
  refine e_cN 10 rfl ?_
  refine e_ldI g1 ?_
  refine e_mul ?_
  refine e_ldI g3 ?_
  refine e_add ?_
  refine e_aE (N := 40000) (kdA (k := 31) hM (by decide) rfl) (lnA (k := 31) hM (by decide) rfl) (by omega) (by decide) ?_
  refine e_mA (N := 40000) (k := 31) hM ir (by decide) (kdA (k := 31) hM (by decide) rfl) (lnA (k := 31) hM (by decide) rfl) (by omega) (by decide) (fun N e => nomatch (show (none : Option Nat) = some N from e)) (fun e => absurd e (by decide)) (fun ir1 => ?_)
  refine e_inc g3 ?_
  exact y_X8_moves_50_10 hM ht hu ir1   (lvg_ne g0 rfl (by decide)) (lvg_ne g1 rfl (by decide)) (lvg_ne g2 rfl (by decide)) lvg_self  (by omega) K
def g_X8_moves_50_8 (I : Nat → Nat → Int32) (m : Nat) (A : Nat → Nat) (t : Nat) (u : Nat)   : Nat → Nat → Int32 := let I2 := up2 I (A 31) ((10 * u) + 8) (I (A 31) ((10 * t) + 8)); g_X8_moves_50_9 I2 m A t u  
theorem y_X8_moves_50_8 {Q : Option Value → MM → Prop} {S : MM} {m : Nat} {A : Nat → Nat} {t : Nat} {u : Nat}   {n : Nat} {lv : Lv} (hM : MS S m A) (ht : t < 4000) (hu : u < 4000) (ir : IM S m A)   (g0 : lvg lv 0 = some (.ref m)) (g1 : lvg lv 1 = some (.int (nI t))) (g2 : lvg lv 2 = some (.int (nI u))) (g3 : lvg lv 3 = some (.int (nI 8)))  (hn : 4 ≤ n) (K : KVM m A Q S (g_X8_moves_50_8 (sI S) m A t u  )) : wpn (kX8_moves Q) n 50 lv [] S 0 0 := by
  obtain ⟨d, rfl⟩ : ∃ d, n = d + 4 := ⟨n - 4, by omega⟩
  unfold g_X8_moves_50_8 at K
  refine u_X8_moves_50 ?_
  unfold bX8_moves_50
  refine e_ldI g3 ?_
  refine e_cN 10 rfl ?_
  refine ⟨fun z => absurd z (by decide), fun _ => ?_⟩
  refine e_ldA g0 ?_
  refine e_gR hM.1 (hM.2.1 31 (by decide)).1 ?_
  refine e_cN 10 rfl ?_
  refine e_ldI g2 ?_
  refine e_mul ?_
  refine e_ldI g3 ?_
  refine e_add ?_
  refine e_ldA g0 ?_
  refine e_gR hM.1 (hM.2.1 31 (by decide)).1 ?_
  refine e_cN 10 rfl ?_
  refine e_ldI g1 ?_
  refine e_mul ?_
  refine e_ldI g3 ?_
  refine e_add ?_
  refine e_aE (N := 40000) (kdA (k := 31) hM (by decide) rfl) (lnA (k := 31) hM (by decide) rfl) (by omega) (by decide) ?_
  refine e_mA (N := 40000) (k := 31) hM ir (by decide) (kdA (k := 31) hM (by decide) rfl) (lnA (k := 31) hM (by decide) rfl) (by omega) (by decide) (fun N e => nomatch (show (none : Option Nat) = some N from e)) (fun e => absurd e (by decide)) (fun ir1 => ?_)
  refine e_inc g3 ?_
  exact y_X8_moves_50_9 hM ht hu ir1   (lvg_ne g0 rfl (by decide)) (lvg_ne g1 rfl (by decide)) (lvg_ne g2 rfl (by decide)) lvg_self  (by omega) K
def g_X8_moves_50_7 (I : Nat → Nat → Int32) (m : Nat) (A : Nat → Nat) (t : Nat) (u : Nat)   : Nat → Nat → Int32 := let I2 := up2 I (A 31) ((10 * u) + 7) (I (A 31) ((10 * t) + 7)); g_X8_moves_50_8 I2 m A t u  
theorem y_X8_moves_50_7 {Q : Option Value → MM → Prop} {S : MM} {m : Nat} {A : Nat → Nat} {t : Nat} {u : Nat}   {n : Nat} {lv : Lv} (hM : MS S m A) (ht : t < 4000) (hu : u < 4000) (ir : IM S m A)   (g0 : lvg lv 0 = some (.ref m)) (g1 : lvg lv 1 = some (.int (nI t))) (g2 : lvg lv 2 = some (.int (nI u))) (g3 : lvg lv 3 = some (.int (nI 7)))  (hn : 5 ≤ n) (K : KVM m A Q S (g_X8_moves_50_7 (sI S) m A t u  )) : wpn (kX8_moves Q) n 50 lv [] S 0 0 := by
  obtain ⟨d, rfl⟩ : ∃ d, n = d + 5 := ⟨n - 5, by omega⟩
  unfold g_X8_moves_50_7 at K
  refine u_X8_moves_50 ?_
  unfold bX8_moves_50
  refine e_ldI g3 ?_
  refine e_cN 10 rfl ?_
  refine ⟨fun z => absurd z (by decide), fun _ => ?_⟩
  refine e_ldA g0 ?_
  refine e_gR hM.1 (hM.2.1 31 (by decide)).1 ?_
  refine e_cN 10 rfl ?_
  refine e_ldI g2 ?_
  refine e_mul ?_
  refine e_ldI g3 ?_
  refine e_add ?_
  refine e_ldA g0 ?_
  refine e_gR hM.1 (hM.2.1 31 (by decide)).1 ?_
  refine e_cN 10 rfl ?_
  refine e_ldI g1 ?_
  refine e_mul ?_
  refine e_ldI g3 ?_
  refine e_add ?_
  refine e_aE (N := 40000) (kdA (k := 31) hM (by decide) rfl) (lnA (k := 31) hM (by decide) rfl) (by omega) (by decide) ?_
  refine e_mA (N := 40000) (k := 31) hM ir (by decide) (kdA (k := 31) hM (by decide) rfl) (lnA (k := 31) hM (by decide) rfl) (by omega) (by decide) (fun N e => nomatch (show (none : Option Nat) = some N from e)) (fun e => absurd e (by decide)) (fun ir1 => ?_)
  refine e_inc g3 ?_
  exact y_X8_moves_50_8 hM ht hu ir1   (lvg_ne g0 rfl (by decide)) (lvg_ne g1 rfl (by decide)) (lvg_ne g2 rfl (by decide)) lvg_self  (by omega) K
def g_X8_moves_50_6 (I : Nat → Nat → Int32) (m : Nat) (A : Nat → Nat) (t : Nat) (u : Nat)   : Nat → Nat → Int32 := let I2 := up2 I (A 31) ((10 * u) + 6) (I (A 31) ((10 * t) + 6)); g_X8_moves_50_7 I2 m A t u  
theorem y_X8_moves_50_6 {Q : Option Value → MM → Prop} {S : MM} {m : Nat} {A : Nat → Nat} {t : Nat} {u : Nat}   {n : Nat} {lv : Lv} (hM : MS S m A) (ht : t < 4000) (hu : u < 4000) (ir : IM S m A)   (g0 : lvg lv 0 = some (.ref m)) (g1 : lvg lv 1 = some (.int (nI t))) (g2 : lvg lv 2 = some (.int (nI u))) (g3 : lvg lv 3 = some (.int (nI 6)))  (hn : 6 ≤ n) (K : KVM m A Q S (g_X8_moves_50_6 (sI S) m A t u  )) : wpn (kX8_moves Q) n 50 lv [] S 0 0 := by
  obtain ⟨d, rfl⟩ : ∃ d, n = d + 6 := ⟨n - 6, by omega⟩
  unfold g_X8_moves_50_6 at K
  refine u_X8_moves_50 ?_
  unfold bX8_moves_50
  refine e_ldI g3 ?_
  refine e_cN 10 rfl ?_
  refine ⟨fun z => absurd z (by decide), fun _ => ?_⟩
  refine e_ldA g0 ?_
  refine e_gR hM.1 (hM.2.1 31 (by decide)).1 ?_
  refine e_cN 10 rfl ?_
  refine e_ldI g2 ?_
  refine e_mul ?_
  refine e_ldI g3 ?_
  refine e_add ?_
  refine e_ldA g0 ?_
  refine e_gR hM.1 (hM.2.1 31 (by decide)).1 ?_
  refine e_cN 10 rfl ?_
  refine e_ldI g1 ?_
  refine e_mul ?_
  refine e_ldI g3 ?_
  refine e_add ?_
  refine e_aE (N := 40000) (kdA (k := 31) hM (by decide) rfl) (lnA (k := 31) hM (by decide) rfl) (by omega) (by decide) ?_
  refine e_mA (N := 40000) (k := 31) hM ir (by decide) (kdA (k := 31) hM (by decide) rfl) (lnA (k := 31) hM (by decide) rfl) (by omega) (by decide) (fun N e => nomatch (show (none : Option Nat) = some N from e)) (fun e => absurd e (by decide)) (fun ir1 => ?_)
  refine e_inc g3 ?_
  exact y_X8_moves_50_7 hM ht hu ir1   (lvg_ne g0 rfl (by decide)) (lvg_ne g1 rfl (by decide)) (lvg_ne g2 rfl (by decide)) lvg_self  (by omega) K
def g_X8_moves_50_5 (I : Nat → Nat → Int32) (m : Nat) (A : Nat → Nat) (t : Nat) (u : Nat)   : Nat → Nat → Int32 := let I2 := up2 I (A 31) ((10 * u) + 5) (I (A 31) ((10 * t) + 5)); g_X8_moves_50_6 I2 m A t u  
theorem y_X8_moves_50_5 {Q : Option Value → MM → Prop} {S : MM} {m : Nat} {A : Nat → Nat} {t : Nat} {u : Nat}   {n : Nat} {lv : Lv} (hM : MS S m A) (ht : t < 4000) (hu : u < 4000) (ir : IM S m A)   (g0 : lvg lv 0 = some (.ref m)) (g1 : lvg lv 1 = some (.int (nI t))) (g2 : lvg lv 2 = some (.int (nI u))) (g3 : lvg lv 3 = some (.int (nI 5)))  (hn : 7 ≤ n) (K : KVM m A Q S (g_X8_moves_50_5 (sI S) m A t u  )) : wpn (kX8_moves Q) n 50 lv [] S 0 0 := by
  obtain ⟨d, rfl⟩ : ∃ d, n = d + 7 := ⟨n - 7, by omega⟩
  unfold g_X8_moves_50_5 at K
  refine u_X8_moves_50 ?_
  unfold bX8_moves_50
  refine e_ldI g3 ?_
  refine e_cN 10 rfl ?_
  refine ⟨fun z => absurd z (by decide), fun _ => ?_⟩
  refine e_ldA g0 ?_
  refine e_gR hM.1 (hM.2.1 31 (by decide)).1 ?_
  refine e_cN 10 rfl ?_
  refine e_ldI g2 ?_
  refine e_mul ?_
  refine e_ldI g3 ?_
  refine e_add ?_
  refine e_ldA g0 ?_
  refine e_gR hM.1 (hM.2.1 31 (by decide)).1 ?_
  refine e_cN 10 rfl ?_
  refine e_ldI g1 ?_
  refine e_mul ?_
  refine e_ldI g3 ?_
  refine e_add ?_
  refine e_aE (N := 40000) (kdA (k := 31) hM (by decide) rfl) (lnA (k := 31) hM (by decide) rfl) (by omega) (by decide) ?_
  refine e_mA (N := 40000) (k := 31) hM ir (by decide) (kdA (k := 31) hM (by decide) rfl) (lnA (k := 31) hM (by decide) rfl) (by omega) (by decide) (fun N e => nomatch (show (none : Option Nat) = some N from e)) (fun e => absurd e (by decide)) (fun ir1 => ?_)
  refine e_inc g3 ?_
  exact y_X8_moves_50_6 hM ht hu ir1   (lvg_ne g0 rfl (by decide)) (lvg_ne g1 rfl (by decide)) (lvg_ne g2 rfl (by decide)) lvg_self  (by omega) K
def g_X8_moves_50_4 (I : Nat → Nat → Int32) (m : Nat) (A : Nat → Nat) (t : Nat) (u : Nat)   : Nat → Nat → Int32 := let I2 := up2 I (A 31) ((10 * u) + 4) (I (A 31) ((10 * t) + 4)); g_X8_moves_50_5 I2 m A t u  
theorem y_X8_moves_50_4 {Q : Option Value → MM → Prop} {S : MM} {m : Nat} {A : Nat → Nat} {t : Nat} {u : Nat}   {n : Nat} {lv : Lv} (hM : MS S m A) (ht : t < 4000) (hu : u < 4000) (ir : IM S m A)   (g0 : lvg lv 0 = some (.ref m)) (g1 : lvg lv 1 = some (.int (nI t))) (g2 : lvg lv 2 = some (.int (nI u))) (g3 : lvg lv 3 = some (.int (nI 4)))  (hn : 8 ≤ n) (K : KVM m A Q S (g_X8_moves_50_4 (sI S) m A t u  )) : wpn (kX8_moves Q) n 50 lv [] S 0 0 := by
  obtain ⟨d, rfl⟩ : ∃ d, n = d + 8 := ⟨n - 8, by omega⟩
  unfold g_X8_moves_50_4 at K
  refine u_X8_moves_50 ?_
  unfold bX8_moves_50
  refine e_ldI g3 ?_
  refine e_cN 10 rfl ?_
  refine ⟨fun z => absurd z (by decide), fun _ => ?_⟩
  refine e_ldA g0 ?_
  refine e_gR hM.1 (hM.2.1 31 (by decide)).1 ?_
  refine e_cN 10 rfl ?_
  refine e_ldI g2 ?_
  refine e_mul ?_
  refine e_ldI g3 ?_
  refine e_add ?_
  refine e_ldA g0 ?_
  refine e_gR hM.1 (hM.2.1 31 (by decide)).1 ?_
  refine e_cN 10 rfl ?_
  refine e_ldI g1 ?_
  refine e_mul ?_
  refine e_ldI g3 ?_
  refine e_add ?_
  refine e_aE (N := 40000) (kdA (k := 31) hM (by decide) rfl) (lnA (k := 31) hM (by decide) rfl) (by omega) (by decide) ?_
  refine e_mA (N := 40000) (k := 31) hM ir (by decide) (kdA (k := 31) hM (by decide) rfl) (lnA (k := 31) hM (by decide) rfl) (by omega) (by decide) (fun N e => nomatch (show (none : Option Nat) = some N from e)) (fun e => absurd e (by decide)) (fun ir1 => ?_)
  refine e_inc g3 ?_
  exact y_X8_moves_50_5 hM ht hu ir1   (lvg_ne g0 rfl (by decide)) (lvg_ne g1 rfl (by decide)) (lvg_ne g2 rfl (by decide)) lvg_self  (by omega) K
def g_X8_moves_50_3 (I : Nat → Nat → Int32) (m : Nat) (A : Nat → Nat) (t : Nat) (u : Nat)   : Nat → Nat → Int32 := let I2 := up2 I (A 31) ((10 * u) + 3) (I (A 31) ((10 * t) + 3)); g_X8_moves_50_4 I2 m A t u  
theorem y_X8_moves_50_3 {Q : Option Value → MM → Prop} {S : MM} {m : Nat} {A : Nat → Nat} {t : Nat} {u : Nat}   {n : Nat} {lv : Lv} (hM : MS S m A) (ht : t < 4000) (hu : u < 4000) (ir : IM S m A)   (g0 : lvg lv 0 = some (.ref m)) (g1 : lvg lv 1 = some (.int (nI t))) (g2 : lvg lv 2 = some (.int (nI u))) (g3 : lvg lv 3 = some (.int (nI 3)))  (hn : 9 ≤ n) (K : KVM m A Q S (g_X8_moves_50_3 (sI S) m A t u  )) : wpn (kX8_moves Q) n 50 lv [] S 0 0 := by
  obtain ⟨d, rfl⟩ : ∃ d, n = d + 9 := ⟨n - 9, by omega⟩
  unfold g_X8_moves_50_3 at K
  refine u_X8_moves_50 ?_
  unfold bX8_moves_50
  refine e_ldI g3 ?_
  refine e_cN 10 rfl ?_
  refine ⟨fun z => absurd z (by decide), fun _ => ?_⟩
  refine e_ldA g0 ?_
  refine e_gR hM.1 (hM.2.1 31 (by decide)).1 ?_
  refine e_cN 10 rfl ?_
  refine e_ldI g2 ?_
  refine e_mul ?_
  refine e_ldI g3 ?_
  refine e_add ?_
  refine e_ldA g0 ?_
  refine e_gR hM.1 (hM.2.1 31 (by decide)).1 ?_
  refine e_cN 10 rfl ?_
  refine e_ldI g1 ?_
  refine e_mul ?_
  refine e_ldI g3 ?_
  refine e_add ?_
  refine e_aE (N := 40000) (kdA (k := 31) hM (by decide) rfl) (lnA (k := 31) hM (by decide) rfl) (by omega) (by decide) ?_
  refine e_mA (N := 40000) (k := 31) hM ir (by decide) (kdA (k := 31) hM (by decide) rfl) (lnA (k := 31) hM (by decide) rfl) (by omega) (by decide) (fun N e => nomatch (show (none : Option Nat) = some N from e)) (fun e => absurd e (by decide)) (fun ir1 => ?_)
  refine e_inc g3 ?_
  exact y_X8_moves_50_4 hM ht hu ir1   (lvg_ne g0 rfl (by decide)) (lvg_ne g1 rfl (by decide)) (lvg_ne g2 rfl (by decide)) lvg_self  (by omega) K
def g_X8_moves_50_2 (I : Nat → Nat → Int32) (m : Nat) (A : Nat → Nat) (t : Nat) (u : Nat)   : Nat → Nat → Int32 := let I2 := up2 I (A 31) ((10 * u) + 2) (I (A 31) ((10 * t) + 2)); g_X8_moves_50_3 I2 m A t u  
theorem y_X8_moves_50_2 {Q : Option Value → MM → Prop} {S : MM} {m : Nat} {A : Nat → Nat} {t : Nat} {u : Nat}   {n : Nat} {lv : Lv} (hM : MS S m A) (ht : t < 4000) (hu : u < 4000) (ir : IM S m A)   (g0 : lvg lv 0 = some (.ref m)) (g1 : lvg lv 1 = some (.int (nI t))) (g2 : lvg lv 2 = some (.int (nI u))) (g3 : lvg lv 3 = some (.int (nI 2)))  (hn : 10 ≤ n) (K : KVM m A Q S (g_X8_moves_50_2 (sI S) m A t u  )) : wpn (kX8_moves Q) n 50 lv [] S 0 0 := by
  obtain ⟨d, rfl⟩ : ∃ d, n = d + 10 := ⟨n - 10, by omega⟩
  unfold g_X8_moves_50_2 at K
  refine u_X8_moves_50 ?_
  unfold bX8_moves_50
  refine e_ldI g3 ?_
  refine e_cN 10 rfl ?_
  refine ⟨fun z => absurd z (by decide), fun _ => ?_⟩
  refine e_ldA g0 ?_
  refine e_gR hM.1 (hM.2.1 31 (by decide)).1 ?_
  refine e_cN 10 rfl ?_
  refine e_ldI g2 ?_
  refine e_mul ?_
  refine e_ldI g3 ?_
  refine e_add ?_
  refine e_ldA g0 ?_
  refine e_gR hM.1 (hM.2.1 31 (by decide)).1 ?_
  refine e_cN 10 rfl ?_
  refine e_ldI g1 ?_
  refine e_mul ?_
  refine e_ldI g3 ?_
  refine e_add ?_
  refine e_aE (N := 40000) (kdA (k := 31) hM (by decide) rfl) (lnA (k := 31) hM (by decide) rfl) (by omega) (by decide) ?_
  refine e_mA (N := 40000) (k := 31) hM ir (by decide) (kdA (k := 31) hM (by decide) rfl) (lnA (k := 31) hM (by decide) rfl) (by omega) (by decide) (fun N e => nomatch (show (none : Option Nat) = some N from e)) (fun e => absurd e (by decide)) (fun ir1 => ?_)
  refine e_inc g3 ?_
  exact y_X8_moves_50_3 hM ht hu ir1   (lvg_ne g0 rfl (by decide)) (lvg_ne g1 rfl (by decide)) (lvg_ne g2 rfl (by decide)) lvg_self  (by omega) K
def g_X8_moves_50_1 (I : Nat → Nat → Int32) (m : Nat) (A : Nat → Nat) (t : Nat) (u : Nat)   : Nat → Nat → Int32 := let I2 := up2 I (A 31) ((10 * u) + 1) (I (A 31) ((10 * t) + 1)); g_X8_moves_50_2 I2 m A t u  
theorem y_X8_moves_50_1 {Q : Option Value → MM → Prop} {S : MM} {m : Nat} {A : Nat → Nat} {t : Nat} {u : Nat}   {n : Nat} {lv : Lv} (hM : MS S m A) (ht : t < 4000) (hu : u < 4000) (ir : IM S m A)   (g0 : lvg lv 0 = some (.ref m)) (g1 : lvg lv 1 = some (.int (nI t))) (g2 : lvg lv 2 = some (.int (nI u))) (g3 : lvg lv 3 = some (.int (nI 1)))  (hn : 11 ≤ n) (K : KVM m A Q S (g_X8_moves_50_1 (sI S) m A t u  )) : wpn (kX8_moves Q) n 50 lv [] S 0 0 := by
  obtain ⟨d, rfl⟩ : ∃ d, n = d + 11 := ⟨n - 11, by omega⟩
  unfold g_X8_moves_50_1 at K
  refine u_X8_moves_50 ?_
  unfold bX8_moves_50
  refine e_ldI g3 ?_
  refine e_cN 10 rfl ?_
  refine ⟨fun z => absurd z (by decide), fun _ => ?_⟩
  refine e_ldA g0 ?_
  refine e_gR hM.1 (hM.2.1 31 (by decide)).1 ?_
  refine e_cN 10 rfl ?_
  refine e_ldI g2 ?_
  refine e_mul ?_
  refine e_ldI g3 ?_
  refine e_add ?_
  refine e_ldA g0 ?_
  refine e_gR hM.1 (hM.2.1 31 (by decide)).1 ?_
  refine e_cN 10 rfl ?_
  refine e_ldI g1 ?_
  refine e_mul ?_
  refine e_ldI g3 ?_
  refine e_add ?_
  refine e_aE (N := 40000) (kdA (k := 31) hM (by decide) rfl) (lnA (k := 31) hM (by decide) rfl) (by omega) (by decide) ?_
  refine e_mA (N := 40000) (k := 31) hM ir (by decide) (kdA (k := 31) hM (by decide) rfl) (lnA (k := 31) hM (by decide) rfl) (by omega) (by decide) (fun N e => nomatch (show (none : Option Nat) = some N from e)) (fun e => absurd e (by decide)) (fun ir1 => ?_)
  refine e_inc g3 ?_
  exact y_X8_moves_50_2 hM ht hu ir1   (lvg_ne g0 rfl (by decide)) (lvg_ne g1 rfl (by decide)) (lvg_ne g2 rfl (by decide)) lvg_self  (by omega) K
def g_X8_moves_50_0 (I : Nat → Nat → Int32) (m : Nat) (A : Nat → Nat) (t : Nat) (u : Nat)   : Nat → Nat → Int32 := let I2 := up2 I (A 31) ((10 * u) + 0) (I (A 31) ((10 * t) + 0)); g_X8_moves_50_1 I2 m A t u  
theorem y_X8_moves_50_0 {Q : Option Value → MM → Prop} {S : MM} {m : Nat} {A : Nat → Nat} {t : Nat} {u : Nat}   {n : Nat} {lv : Lv} (hM : MS S m A) (ht : t < 4000) (hu : u < 4000) (ir : IM S m A)   (g0 : lvg lv 0 = some (.ref m)) (g1 : lvg lv 1 = some (.int (nI t))) (g2 : lvg lv 2 = some (.int (nI u))) (g3 : lvg lv 3 = some (.int (nI 0)))  (hn : 12 ≤ n) (K : KVM m A Q S (g_X8_moves_50_0 (sI S) m A t u  )) : wpn (kX8_moves Q) n 50 lv [] S 0 0 := by
  obtain ⟨d, rfl⟩ : ∃ d, n = d + 12 := ⟨n - 12, by omega⟩
  unfold g_X8_moves_50_0 at K
  refine u_X8_moves_50 ?_
  unfold bX8_moves_50
  refine e_ldI g3 ?_
  refine e_cN 10 rfl ?_
  refine ⟨fun z => absurd z (by decide), fun _ => ?_⟩
  refine e_ldA g0 ?_
  refine e_gR hM.1 (hM.2.1 31 (by decide)).1 ?_
  refine e_cN 10 rfl ?_
  refine e_ldI g2 ?_
  refine e_mul ?_
  refine e_ldI g3 ?_
  refine e_add ?_
  refine e_ldA g0 ?_
  refine e_gR hM.1 (hM.2.1 31 (by decide)).1 ?_
  refine e_cN 10 rfl ?_
  refine e_ldI g1 ?_
  refine e_mul ?_
  refine e_ldI g3 ?_
  refine e_add ?_
  refine e_aE (N := 40000) (kdA (k := 31) hM (by decide) rfl) (lnA (k := 31) hM (by decide) rfl) (by omega) (by decide) ?_
  refine e_mA (N := 40000) (k := 31) hM ir (by decide) (kdA (k := 31) hM (by decide) rfl) (lnA (k := 31) hM (by decide) rfl) (by omega) (by decide) (fun N e => nomatch (show (none : Option Nat) = some N from e)) (fun e => absurd e (by decide)) (fun ir1 => ?_)
  refine e_inc g3 ?_
  exact y_X8_moves_50_1 hM ht hu ir1   (lvg_ne g0 rfl (by decide)) (lvg_ne g1 rfl (by decide)) (lvg_ne g2 rfl (by decide)) lvg_self  (by omega) K
def f_X8_moves (I : Nat → Nat → Int32) (m : Nat) (A : Nat → Nat) (t : Nat) (u : Nat) : Nat → Nat → Int32 := let I3 := up2 I (A 27) u (nI (I (A 27) t).toNatClampNeg); let I6 := up2 I3 (A 28) u (nI (I3 (A 28) t).toNatClampNeg); let I8 := up2 I6 (A 29) u (I6 (A 29) t); let I10 := up2 I8 (A 30) u (I8 (A 30) t); g_X8_moves_50_0 I10 m A t u  
theorem x_X8_moves {Q : Option Value → MM → Prop} {S : MM} {m : Nat} {A : Nat → Nat} {t : Nat} {u : Nat} (hM : MS S m A) (ht : t < 4000) (hu : u < 4000) (ir : IM S m A)   (K : KVM m A Q S (f_X8_moves (sI S) m A t u)) : wX8_moves [.ref m, .int (nI t), .int (nI u)] S Q := by
  unfold f_X8_moves at K
  refine Exists.intro 13 (u_X8_moves_0 ?_)
  unfold bX8_moves_0
  refine e_ldA rfl ?_
  refine e_gR hM.1 (hM.2.1 27 (by decide)).1 ?_
  refine e_ldI rfl ?_
  refine e_ldA rfl ?_
  refine e_gR hM.1 (hM.2.1 27 (by decide)).1 ?_
  refine e_ldI rfl ?_
  have q1 := fun j => im_a ir (show ra 27 = some 8 from rfl) j
  refine e_aVj (N := 4000) (kdA (k := 27) hM (by decide) rfl) (lnA (k := 27) hM (by decide) rfl) (by omega) (by decide) q1 (fun hq1 => ?_)
  refine e_mA (N := 4000) (k := 27) hM ir (by decide) (kdA (k := 27) hM (by decide) rfl) (lnA (k := 27) hM (by decide) rfl) (by omega) (by decide) (fun N e => by have e2 : some 8 = some N := e; cases e2; exact ⟨_, by omega, rfl⟩) (fun e => absurd e (by decide)) (fun ir2 => ?_)
  refine e_ldA rfl ?_
  refine e_gR hM.1 (hM.2.1 28 (by decide)).1 ?_
  refine e_ldI rfl ?_
  refine e_ldA rfl ?_
  refine e_gR hM.1 (hM.2.1 28 (by decide)).1 ?_
  refine e_ldI rfl ?_
  have q4 := fun j => im_a ir2 (show ra 28 = some 2 from rfl) j
  refine e_aVj (N := 4000) (kdA (k := 28) hM (by decide) rfl) (lnA (k := 28) hM (by decide) rfl) (by omega) (by decide) q4 (fun hq4 => ?_)
  refine e_mA (N := 4000) (k := 28) hM ir2 (by decide) (kdA (k := 28) hM (by decide) rfl) (lnA (k := 28) hM (by decide) rfl) (by omega) (by decide) (fun N e => by have e2 : some 2 = some N := e; cases e2; exact ⟨_, by omega, rfl⟩) (fun e => absurd e (by decide)) (fun ir5 => ?_)
  refine e_ldA rfl ?_
  refine e_gR hM.1 (hM.2.1 29 (by decide)).1 ?_
  refine e_ldI rfl ?_
  refine e_ldA rfl ?_
  refine e_gR hM.1 (hM.2.1 29 (by decide)).1 ?_
  refine e_ldI rfl ?_
  refine e_aE (N := 4000) (kdA (k := 29) hM (by decide) rfl) (lnA (k := 29) hM (by decide) rfl) (by omega) (by decide) ?_
  refine e_mA (N := 4000) (k := 29) hM ir5 (by decide) (kdA (k := 29) hM (by decide) rfl) (lnA (k := 29) hM (by decide) rfl) (by omega) (by decide) (fun N e => nomatch (show (none : Option Nat) = some N from e)) (fun e => absurd e (by decide)) (fun ir7 => ?_)
  refine e_ldA rfl ?_
  refine e_gR hM.1 (hM.2.1 30 (by decide)).1 ?_
  refine e_ldI rfl ?_
  refine e_ldA rfl ?_
  refine e_gR hM.1 (hM.2.1 30 (by decide)).1 ?_
  refine e_ldI rfl ?_
  refine e_aE (N := 4000) (kdA (k := 30) hM (by decide) rfl) (lnA (k := 30) hM (by decide) rfl) (by omega) (by decide) ?_
  refine e_mA (N := 4000) (k := 30) hM ir7 (by decide) (kdA (k := 30) hM (by decide) rfl) (lnA (k := 30) hM (by decide) rfl) (by omega) (by decide) (fun N e => nomatch (show (none : Option Nat) = some N from e)) (fun _ => ir7.2.2 t) (fun ir9 => ?_)
  refine e_cN 0 rfl ?_
  refine e_stI ?_
  exact y_X8_moves_50_0 hM ht hu ir9   (lvg_ne rfl rfl (by decide)) (lvg_ne rfl rfl (by decide)) (lvg_ne rfl rfl (by decide)) lvg_self  (by omega) K
theorem nm_g_X8_moves_50_10 {I : Nat → Nat → Int32} {m : Nat} {A : Nat → Nat} {t : Nat} {u : Nat}   {z : Nat} (hz : ∀ k ∈ ([27, 28, 29, 30, 31] : List Nat), z ≠ A k) : (g_X8_moves_50_10 I m A t u  ) z = I z := by
  simp only [g_X8_moves_50_10]
  repeat' split
  all_goals simp only [up2_row (hz 27 (by decide)), up2_row (hz 28 (by decide)), up2_row (hz 29 (by decide)), up2_row (hz 30 (by decide)), up2_row (hz 31 (by decide))]
theorem nm_g_X8_moves_50_9 {I : Nat → Nat → Int32} {m : Nat} {A : Nat → Nat} {t : Nat} {u : Nat}   {z : Nat} (hz : ∀ k ∈ ([27, 28, 29, 30, 31] : List Nat), z ≠ A k) : (g_X8_moves_50_9 I m A t u  ) z = I z := by
  simp only [g_X8_moves_50_9]
  repeat' split
  all_goals simp only [up2_row (hz 27 (by decide)), up2_row (hz 28 (by decide)), up2_row (hz 29 (by decide)), up2_row (hz 30 (by decide)), up2_row (hz 31 (by decide)), nm_g_X8_moves_50_10 hz]
theorem nm_g_X8_moves_50_8 {I : Nat → Nat → Int32} {m : Nat} {A : Nat → Nat} {t : Nat} {u : Nat}   {z : Nat} (hz : ∀ k ∈ ([27, 28, 29, 30, 31] : List Nat), z ≠ A k) : (g_X8_moves_50_8 I m A t u  ) z = I z := by
  simp only [g_X8_moves_50_8]
  repeat' split
  all_goals simp only [up2_row (hz 27 (by decide)), up2_row (hz 28 (by decide)), up2_row (hz 29 (by decide)), up2_row (hz 30 (by decide)), up2_row (hz 31 (by decide)), nm_g_X8_moves_50_10 hz, nm_g_X8_moves_50_9 hz]
theorem nm_g_X8_moves_50_7 {I : Nat → Nat → Int32} {m : Nat} {A : Nat → Nat} {t : Nat} {u : Nat}   {z : Nat} (hz : ∀ k ∈ ([27, 28, 29, 30, 31] : List Nat), z ≠ A k) : (g_X8_moves_50_7 I m A t u  ) z = I z := by
  simp only [g_X8_moves_50_7]
  repeat' split
  all_goals simp only [up2_row (hz 27 (by decide)), up2_row (hz 28 (by decide)), up2_row (hz 29 (by decide)), up2_row (hz 30 (by decide)), up2_row (hz 31 (by decide)), nm_g_X8_moves_50_10 hz, nm_g_X8_moves_50_9 hz, nm_g_X8_moves_50_8 hz]
theorem nm_g_X8_moves_50_6 {I : Nat → Nat → Int32} {m : Nat} {A : Nat → Nat} {t : Nat} {u : Nat}   {z : Nat} (hz : ∀ k ∈ ([27, 28, 29, 30, 31] : List Nat), z ≠ A k) : (g_X8_moves_50_6 I m A t u  ) z = I z := by
  simp only [g_X8_moves_50_6]
  repeat' split
  all_goals simp only [up2_row (hz 27 (by decide)), up2_row (hz 28 (by decide)), up2_row (hz 29 (by decide)), up2_row (hz 30 (by decide)), up2_row (hz 31 (by decide)), nm_g_X8_moves_50_10 hz, nm_g_X8_moves_50_9 hz, nm_g_X8_moves_50_8 hz, nm_g_X8_moves_50_7 hz]
theorem nm_g_X8_moves_50_5 {I : Nat → Nat → Int32} {m : Nat} {A : Nat → Nat} {t : Nat} {u : Nat}   {z : Nat} (hz : ∀ k ∈ ([27, 28, 29, 30, 31] : List Nat), z ≠ A k) : (g_X8_moves_50_5 I m A t u  ) z = I z := by
  simp only [g_X8_moves_50_5]
  repeat' split
  all_goals simp only [up2_row (hz 27 (by decide)), up2_row (hz 28 (by decide)), up2_row (hz 29 (by decide)), up2_row (hz 30 (by decide)), up2_row (hz 31 (by decide)), nm_g_X8_moves_50_10 hz, nm_g_X8_moves_50_9 hz, nm_g_X8_moves_50_8 hz, nm_g_X8_moves_50_7 hz, nm_g_X8_moves_50_6 hz]
theorem nm_g_X8_moves_50_4 {I : Nat → Nat → Int32} {m : Nat} {A : Nat → Nat} {t : Nat} {u : Nat}   {z : Nat} (hz : ∀ k ∈ ([27, 28, 29, 30, 31] : List Nat), z ≠ A k) : (g_X8_moves_50_4 I m A t u  ) z = I z := by
  simp only [g_X8_moves_50_4]
  repeat' split
  all_goals simp only [up2_row (hz 27 (by decide)), up2_row (hz 28 (by decide)), up2_row (hz 29 (by decide)), up2_row (hz 30 (by decide)), up2_row (hz 31 (by decide)), nm_g_X8_moves_50_10 hz, nm_g_X8_moves_50_9 hz, nm_g_X8_moves_50_8 hz, nm_g_X8_moves_50_7 hz, nm_g_X8_moves_50_6 hz, nm_g_X8_moves_50_5 hz]
theorem nm_g_X8_moves_50_3 {I : Nat → Nat → Int32} {m : Nat} {A : Nat → Nat} {t : Nat} {u : Nat}   {z : Nat} (hz : ∀ k ∈ ([27, 28, 29, 30, 31] : List Nat), z ≠ A k) : (g_X8_moves_50_3 I m A t u  ) z = I z := by
  simp only [g_X8_moves_50_3]
  repeat' split
  all_goals simp only [up2_row (hz 27 (by decide)), up2_row (hz 28 (by decide)), up2_row (hz 29 (by decide)), up2_row (hz 30 (by decide)), up2_row (hz 31 (by decide)), nm_g_X8_moves_50_10 hz, nm_g_X8_moves_50_9 hz, nm_g_X8_moves_50_8 hz, nm_g_X8_moves_50_7 hz, nm_g_X8_moves_50_6 hz, nm_g_X8_moves_50_5 hz, nm_g_X8_moves_50_4 hz]
theorem nm_g_X8_moves_50_2 {I : Nat → Nat → Int32} {m : Nat} {A : Nat → Nat} {t : Nat} {u : Nat}   {z : Nat} (hz : ∀ k ∈ ([27, 28, 29, 30, 31] : List Nat), z ≠ A k) : (g_X8_moves_50_2 I m A t u  ) z = I z := by
  simp only [g_X8_moves_50_2]
  repeat' split
  all_goals simp only [up2_row (hz 27 (by decide)), up2_row (hz 28 (by decide)), up2_row (hz 29 (by decide)), up2_row (hz 30 (by decide)), up2_row (hz 31 (by decide)), nm_g_X8_moves_50_10 hz, nm_g_X8_moves_50_9 hz, nm_g_X8_moves_50_8 hz, nm_g_X8_moves_50_7 hz, nm_g_X8_moves_50_6 hz, nm_g_X8_moves_50_5 hz, nm_g_X8_moves_50_4 hz, nm_g_X8_moves_50_3 hz]
theorem nm_g_X8_moves_50_1 {I : Nat → Nat → Int32} {m : Nat} {A : Nat → Nat} {t : Nat} {u : Nat}   {z : Nat} (hz : ∀ k ∈ ([27, 28, 29, 30, 31] : List Nat), z ≠ A k) : (g_X8_moves_50_1 I m A t u  ) z = I z := by
  simp only [g_X8_moves_50_1]
  repeat' split
  all_goals simp only [up2_row (hz 27 (by decide)), up2_row (hz 28 (by decide)), up2_row (hz 29 (by decide)), up2_row (hz 30 (by decide)), up2_row (hz 31 (by decide)), nm_g_X8_moves_50_10 hz, nm_g_X8_moves_50_9 hz, nm_g_X8_moves_50_8 hz, nm_g_X8_moves_50_7 hz, nm_g_X8_moves_50_6 hz, nm_g_X8_moves_50_5 hz, nm_g_X8_moves_50_4 hz, nm_g_X8_moves_50_3 hz, nm_g_X8_moves_50_2 hz]
theorem nm_g_X8_moves_50_0 {I : Nat → Nat → Int32} {m : Nat} {A : Nat → Nat} {t : Nat} {u : Nat}   {z : Nat} (hz : ∀ k ∈ ([27, 28, 29, 30, 31] : List Nat), z ≠ A k) : (g_X8_moves_50_0 I m A t u  ) z = I z := by
  simp only [g_X8_moves_50_0]
  repeat' split
  all_goals simp only [up2_row (hz 27 (by decide)), up2_row (hz 28 (by decide)), up2_row (hz 29 (by decide)), up2_row (hz 30 (by decide)), up2_row (hz 31 (by decide)), nm_g_X8_moves_50_10 hz, nm_g_X8_moves_50_9 hz, nm_g_X8_moves_50_8 hz, nm_g_X8_moves_50_7 hz, nm_g_X8_moves_50_6 hz, nm_g_X8_moves_50_5 hz, nm_g_X8_moves_50_4 hz, nm_g_X8_moves_50_3 hz, nm_g_X8_moves_50_2 hz, nm_g_X8_moves_50_1 hz]
theorem nm_X8_moves {I : Nat → Nat → Int32} {m : Nat} {A : Nat → Nat} {t : Nat} {u : Nat} {z : Nat} (hz : ∀ k ∈ ([27, 28, 29, 30, 31] : List Nat), z ≠ A k) : (f_X8_moves I m A t u) z = I z := by
  simp only [f_X8_moves]
  repeat' split
  all_goals simp only [up2_row (hz 27 (by decide)), up2_row (hz 28 (by decide)), up2_row (hz 29 (by decide)), up2_row (hz 30 (by decide)), up2_row (hz 31 (by decide)), nm_g_X8_moves_50_10 hz, nm_g_X8_moves_50_9 hz, nm_g_X8_moves_50_8 hz, nm_g_X8_moves_50_7 hz, nm_g_X8_moves_50_6 hz, nm_g_X8_moves_50_5 hz, nm_g_X8_moves_50_4 hz, nm_g_X8_moves_50_3 hz, nm_g_X8_moves_50_2 hz, nm_g_X8_moves_50_1 hz, nm_g_X8_moves_50_0 hz]
