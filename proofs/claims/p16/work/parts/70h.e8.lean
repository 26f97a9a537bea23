/-! THE REFERENCE'S COMES: cameMany stays a small number; the frames of the things are frames that were given -/
def CMB (S : MM) (A : Nat → Nat) (B r : Nat) : Prop := B < 2147483000 ∧ ∀ e, e < 2 → ∃ c, c + r ≤ B ∧ sI S (A 42) e = nI c
theorem cmb_n {S : MM} {A : Nat → Nat} {B r e : Nat} (h : CMB S A B r) (he : e < 2) : sI S (A 42) e = nI (sI S (A 42) e).toNatClampNeg ∧ (sI S (A 42) e).toNatClampNeg + r ≤ B := by
  obtain ⟨c, hc, q⟩ := h.2 e he
  have hB := h.1
  rw [q, nI_cl (by omega)]
  exact ⟨rfl, hc⟩
theorem cmb_b {S : MM} {A : Nat → Nat} {B r e : Nat} (h : CMB S A B r) (he : e < 2) : (sI S (A 42) e).toNatClampNeg < 2147483000 := by
  have := (cmb_n h he).2
  have := h.1
  omega
theorem cmb_k {S : MM} {A : Nat → Nat} {B r r' : Nat} {F : Nat → Nat → Int32} (h : CMB S A B r) (hr : r' ≤ r) (e : F (A 42) = sI S (A 42)) : CMB (wI S F) A B r' := ⟨h.1, fun q hq => by
  obtain ⟨c, hc, z⟩ := h.2 q hq
  exact ⟨c, by omega, by show F (A 42) q = nI c; rw [e]; exact z⟩⟩
theorem cmb_w {S : MM} {A : Nat → Nat} {B r r' : Nat} (h : CMB S A B r) (hr : r' ≤ r) : CMB S A B r' := ⟨h.1, fun q hq => by
  obtain ⟨c, hc, z⟩ := h.2 q hq
  exact ⟨c, by omega, z⟩⟩
theorem cmb_in {S : MM} {A : Nat → Nat} {B r n : Nat} (h : CMB S A B ((r + 1) * 4001)) (hn : n ≤ 4001) : CMB S A (B - r * 4001) n := ⟨by have := h.1; omega, fun q hq => by
  obtain ⟨c, hc, z⟩ := h.2 q hq
  exact ⟨c, by omega, z⟩⟩
theorem cmb_out {S S0 : MM} {A : Nat → Nat} {B r : Nat} (h0 : CMB S0 A B ((r + 1) * 4001)) (h : CMB S A (B - r * 4001) 0) : CMB S A B (r * 4001) := ⟨h0.1, fun q hq => by
  obtain ⟨c, hc, z⟩ := h.2 q hq
  obtain ⟨c0, hc0, _⟩ := h0.2 q hq
  exact ⟨c, by omega, z⟩⟩
theorem g31_row {m f x nf cm i3 z : Nat} {A : Nat → Nat} (hz : z ≠ m) : ∀ (r i : Nat) (I : Nat → Nat → Int32), g_X8_frameComes_31 m A f x nf cm r i i3 I z = I z := by
  intro r
  induction r with
  | zero => intro i I; rfl
  | succ r ih =>
    intro i I
    rw [g_X8_frameComes_31]
    repeat' split
    all_goals first | exact ih _ _ | exact up2_row hz
theorem fc_42 {I : Nat → Nat → Int32} {S : MM} {m f x nf cm : Nat} {A : Nat → Nat} (hM : MS S m A) : (f_X8_frameComes I m A f x nf cm) (A 42) = I (A 42) ∨ (f_X8_frameComes I m A f x nf cm) (A 42) = upd (I (A 42)) (x / 8) (nI (cm + 1)) := by
  have h1 : ∀ I : Nat → Nat → Int32, ∀ r i i3, g_X8_frameComes_31 m A f x nf cm r i i3 I (A 42) = I (A 42) := fun I r i i3 => g31_row (ne_m hM (by decide)) r i I
  simp only [f_X8_frameComes]
  split
  · refine Or.inr ?_
    simp only [up2_upd, up2_row (ne_A hM (show 42 ∈ DM by decide) (show 41 ∈ DM by decide) (by decide)), up2_row (ne_A hM (show 42 ∈ DM by decide) (show 38 ∈ DM by decide) (by decide)), h1]
  · exact Or.inl (up2_row (ne_m hM (by decide)))
theorem cmb_s {S : MM} {m f x nf B r : Nat} {A : Nat → Nat} (hM : MS S m A) (hx : x < 16) (h : CMB S A B (r + 1)) : CMB (wI S (f_X8_frameComes (sI S) m A f x nf (sI S (A 42) (x / 8)).toNatClampNeg)) A B r := by
  rcases fc_42 (I := sI S) (f := f) (x := x) (nf := nf) (cm := (sI S (A 42) (x / 8)).toNatClampNeg) hM with q | q
  · exact cmb_k h (by omega) q
  · refine ⟨h.1, fun e he => ?_⟩
    by_cases hz : e = x / 8
    · subst hz
      exact ⟨(sI S (A 42) (x / 8)).toNatClampNeg + 1, by have := (cmb_n h he).2; omega, by show f_X8_frameComes _ _ _ _ _ _ _ (A 42) (x / 8) = _; rw [q, pk_us]⟩
    · obtain ⟨c, hc, z⟩ := h.2 e he
      exact ⟨c, by omega, by show f_X8_frameComes _ _ _ _ _ _ _ (A 42) e = _; rw [q, pk_un hz]; exact z⟩
def FRN (S : MM) (A : Nat → Nat) (n nf : Nat) : Prop := ∀ t, t < n → ¬ sI S (A 30) t = -1 → (sI S (A 30) t).toNatClampNeg < nf
theorem frn_k {S : MM} {A : Nat → Nat} {n nf : Nat} {F : Nat → Nat → Int32} (h : FRN S A n nf) (e : F (A 30) = sI S (A 30)) : FRN (wI S F) A n nf := fun t ht q => by
  have e2 : sI (wI S F) (A 30) t = sI S (A 30) t := congrFun e t
  rw [e2] at q ⊢
  exact h t ht q
def xp_X8_comes_16 (Q : Option Value → MM → Prop) (S : MM) (m : Nat) (A : Nat → Nat) (B : Nat) (nt : Nat) (nf : Nat)  (Fx : Nat) (z : (Nat → Nat → Int32) × Int32) : Prop := ∀ (n : Nat) (lv : Lv), Fx ≤ n → IM (wI S z.1) m A → sI (wI S z.1) m 32 = nI nt → sI (wI S z.1) m 39 = nI nf →  CMB (wI S z.1) A B 32008 → FRN (wI S z.1) A nt nf → lvg lv 0 = some (.ref m) → lvg lv 1 = some (.int z.2) → wpn (kX8_comes Q) n 35 lv [] (wI S z.1) 0 0
def g_X8_comes_16 (m : Nat) (A : Nat → Nat) (nt : Nat) (nf : Nat) : Nat → Nat → (Nat → Nat → Int32) → Int32 → ((Nat → Nat → Int32) × Int32)
  | 0, i2, I, w1 => (I, w1)
  | r + 1, i2, I, w1 => let I2 := up2 I (A 15) i2 (nI 0); g_X8_comes_16 m A nt nf r (i2 + 1)  I2 w1
theorem y_X8_comes_16 {Q : Option Value → MM → Prop} {m : Nat} {A : Nat → Nat} {nt : Nat} {nf : Nat} {B : Nat}  {Fx : Nat} (r : Nat) : ∀ {S : MM}  {w1 : Int32} {i2 n : Nat} {lv : Lv} (hM : MS S m A) (hnt : nt < 4001) (hnf : nf < 4201) (ir : IM S m A)  (q0 : sI S m 32 = nI nt) (q1 : sI S m 39 = nI nf) (g0 : lvg lv 0 = some (.ref m)) (g1 : lvg lv 1 = some (.int w1)) (g2 : lvg lv 2 = some (.int (nI i2)))   (cm : CMB S A B 32008) (fr : FRN S A nt nf) (hr : i2 + r = 16) (hn : Fx + 1 + r * 1 ≤ n) (K : xp_X8_comes_16 Q S m A B nt nf  Fx (g_X8_comes_16 m A nt nf r i2  (sI S) w1)), wpn (kX8_comes Q) n 16 lv [] S 0 0 := by
  induction r with
  | zero =>
    intro S  w1 i2 n lv hM hnt hnf ir  q0 q1 g0 g1 g2   cm fr hr hn K
    obtain ⟨d, hd, rfl⟩ : ∃ d, Fx ≤ d ∧ n = d + 1 := ⟨n - 1, by omega, by omega⟩
    unfold g_X8_comes_16 at K
    refine u_X8_comes_16 ?_
    unfold bX8_comes_16
    refine e_ldI g2 ?_
    refine e_cN 16 rfl ?_
    refine e_ge (by omega) (by omega) (fun _ => ?_) (fun z => absurd z (by omega))
    exact K _ _ (by omega) ir q0 q1  cm fr g0 g1
  | succ r ih =>
    intro S  w1 i2 n lv hM hnt hnf ir  q0 q1 g0 g1 g2   cm fr hr hn K
    obtain ⟨d, hd, rfl⟩ : ∃ d, Fx + 1 + r * 1 ≤ d ∧ n = d + 1 := ⟨n - 1, by omega, by omega⟩
    unfold g_X8_comes_16 at K
    refine u_X8_comes_16 ?_
    unfold bX8_comes_16
    refine e_ldI g2 ?_
    refine e_cN 16 rfl ?_
    refine e_ge (by omega) (by omega) (fun z => absurd z (by omega)) (fun _ => ?_)
    refine e_ldA g0 ?_
    refine e_gR hM.1 (hM.2.1 15 (by decide)).1 ?_
    refine e_ldI g2 ?_
    refine e_cN 0 rfl ?_
    refine e_mB (N := 16) (k := 15) hM ir (by decide) (kdA (k := 15) hM (by decide) rfl) (lnA (k := 15) hM (by decide) rfl) (by omega) (by decide) (Or.inl rfl) (fun N e => nomatch (show (none : Option Nat) = some N from e)) (fun e => absurd e (by decide)) (fun ir1 => ?_)
    refine e_inc g2 ?_
    exact ih hM hnt hnf ir1  (rd_a q0 (Ne.symm (hM.2.1 15 (by decide)).2.2.2)) (rd_a q1 (Ne.symm (hM.2.1 15 (by decide)).2.2.2)) (lvg_ne g0 rfl (by decide)) (lvg_ne g1 rfl (by decide)) lvg_self   (cmb_k cm (by omega) (up2_row (ne_A hM (by decide) (by decide) (by decide)))) (frn_k fr (up2_row (ne_A hM (by decide) (by decide) (by decide)))) (by omega) (by omega) K
def xp_X8_comes_37 (Q : Option Value → MM → Prop) (S : MM) (m : Nat) (A : Nat → Nat) (B : Nat) (nt : Nat) (nf : Nat)  (Fx : Nat) (z : (Nat → Nat → Int32) × Int32) : Prop := ∀ (n : Nat) (lv : Lv), Fx ≤ n → IM (wI S z.1) m A → sI (wI S z.1) m 32 = nI nt → sI (wI S z.1) m 39 = nI nf →  CMB (wI S z.1) A B 0 → FRN (wI S z.1) A nt nf → lvg lv 0 = some (.ref m) → lvg lv 1 = some (.int z.2) → wpn (kX8_comes Q) n 138 lv [] (wI S z.1) 0 0
def xp_X8_comes_45 (Q : Option Value → MM → Prop) (S : MM) (m : Nat) (A : Nat → Nat) (B : Nat) (nt : Nat) (nf : Nat) (i2 : Nat) (Fx : Nat) (z : (Nat → Nat → Int32) × Int32) : Prop := ∀ (n : Nat) (lv : Lv), Fx ≤ n → IM (wI S z.1) m A → sI (wI S z.1) m 32 = nI nt → sI (wI S z.1) m 39 = nI nf →  CMB (wI S z.1) A B 0 → FRN (wI S z.1) A nt nf → lvg lv 0 = some (.ref m) → lvg lv 1 = some (.int z.2) → lvg lv 2 = some (.int (nI i2)) → wpn (kX8_comes Q) n 132 lv [] (wI S z.1) 0 0
def g_X8_comes_45 (m : Nat) (A : Nat → Nat) (nt : Nat) (nf : Nat) : Nat → Nat → Nat → (Nat → Nat → Int32) → Int32 → ((Nat → Nat → Int32) × Int32)
  | 0, i3, i2, I, w1 => (I, w1)
  | r + 1, i3, i2, I, w1 => if (I (A 27) i3).toNatClampNeg = i2 then (if (I (A 29) i3) = (I m 43) then (if (I (A 30) i3) = (-1 : Int32) then (let I9 := f_X8_noteComes I m A i3 (f_X8_portAt I m A i2 (1 - (I (A 28) i3).toNatClampNeg)); g_X8_comes_45 m A nt nf r (i3 + 1) i2 I9 w1) else (let I11 := f_X8_frameComes I m A (I (A 30) i3).toNatClampNeg (f_X8_portAt I m A i2 (1 - (I (A 28) i3).toNatClampNeg)) nf (I (A 42) ((f_X8_portAt I m A i2 (1 - (I (A 28) i3).toNatClampNeg)) / 8)).toNatClampNeg; g_X8_comes_45 m A nt nf r (i3 + 1) i2 I11 w1)) else (g_X8_comes_45 m A nt nf r (i3 + 1) i2 I w1)) else (g_X8_comes_45 m A nt nf r (i3 + 1) i2 I w1)
theorem y_X8_comes_45 {Q : Option Value → MM → Prop} {m : Nat} {A : Nat → Nat} {nt : Nat} {nf : Nat} {B : Nat}  {Fx : Nat} (r : Nat) : ∀ {S : MM} {i2 : Nat} {w1 : Int32} {i3 n : Nat} {lv : Lv} (hM : MS S m A) (hnt : nt < 4001) (hnf : nf < 4201) (ir : IM S m A) (hi2 : i2 < 8) (q0 : sI S m 32 = nI nt) (q1 : sI S m 39 = nI nf) (g0 : lvg lv 0 = some (.ref m)) (g1 : lvg lv 1 = some (.int w1)) (g2 : lvg lv 2 = some (.int (nI i2))) (g3 : lvg lv 3 = some (.int (nI i3)))   (cm : CMB S A B r) (fr : FRN S A nt nf) (hr : i3 + r = nt) (hn : Fx + 1 + r * 4 ≤ n) (K : xp_X8_comes_45 Q S m A B nt nf i2 Fx (g_X8_comes_45 m A nt nf r i3 i2 (sI S) w1)), wpn (kX8_comes Q) n 45 lv [] S 0 0 := by
  induction r with
  | zero =>
    intro S i2 w1 i3 n lv hM hnt hnf ir hi2 q0 q1 g0 g1 g2 g3   cm fr hr hn K
    obtain ⟨d, hd, rfl⟩ : ∃ d, Fx ≤ d ∧ n = d + 1 := ⟨n - 1, by omega, by omega⟩
    unfold g_X8_comes_45 at K
    refine u_X8_comes_45 ?_
    unfold bX8_comes_45
    refine e_ldI g3 ?_
    refine e_ldA g0 ?_
    refine e_gV (v := nI nt) hM.1 q0 ?_
    refine e_ge (by omega) (by omega) (fun _ => ?_) (fun z => absurd z (by omega))
    exact K _ _ (by omega) ir q0 q1  cm fr g0 g1 g2
  | succ r ih =>
    intro S i2 w1 i3 n lv hM hnt hnf ir hi2 q0 q1 g0 g1 g2 g3   cm fr hr hn K
    obtain ⟨d, hd, rfl⟩ : ∃ d, Fx + 1 + r * 4 ≤ d ∧ n = d + 4 := ⟨n - 4, by omega, by omega⟩
    unfold g_X8_comes_45 at K
    refine u_X8_comes_45 ?_
    unfold bX8_comes_45
    refine e_ldI g3 ?_
    refine e_ldA g0 ?_
    refine e_gV (v := nI nt) hM.1 q0 ?_
    refine e_ge (by omega) (by omega) (fun z => absurd z (by omega)) (fun _ => ?_)
    refine e_ldA g0 ?_
    refine e_gR hM.1 (hM.2.1 27 (by decide)).1 ?_
    refine e_ldI g3 ?_
    have qz1 := fun j => im_a ir (show ra 27 = some 8 from rfl) j
    refine e_aVj (N := 4000) (kdA (k := 27) hM (by decide) rfl) (lnA (k := 27) hM (by decide) rfl) (by omega) (by decide) qz1 (fun hqz1 => ?_)
    refine e_ldI g2 ?_
    refine e_eq (by omega) (by omega) (fun h2 => ?_) (fun h2 => ?_)
    · replace K := kx_p h2 K
      refine e_ldA g0 ?_
      refine e_gR hM.1 (hM.2.1 29 (by decide)).1 ?_
      refine e_ldI g3 ?_
      refine e_aE (N := 4000) (kdA (k := 29) hM (by decide) rfl) (lnA (k := 29) hM (by decide) rfl) (by omega) (by decide) ?_
      refine e_ldA g0 ?_
      refine e_gE hM.1 ?_
      refine ⟨fun h3 => ?_, fun h3 => ?_⟩
      · replace K := kx_p h3 K
        refine u_X8_comes_79 ?_
        unfold bX8_comes_79
        refine e_ldA g0 ?_
        refine e_ldI g2 ?_
        refine e_cN 1 rfl ?_
        refine e_ldA g0 ?_
        refine e_gR hM.1 (hM.2.1 28 (by decide)).1 ?_
        refine e_ldI g3 ?_
        have qz4 := fun j => im_a ir (show ra 28 = some 2 from rfl) j
        refine e_aVj (N := 4000) (kdA (k := 28) hM (by decide) rfl) (lnA (k := 28) hM (by decide) rfl) (by omega) (by decide) qz4 (fun hqz4 => ?_)
        refine e_sub (by omega) ?_
        refine And.intro hM.1 (And.intro ⟨by decide, by decide⟩ (x_X8_portAt hM (by omega) (by omega) ir (fun hb5 => ?_)))
        refine e_stI ?_
        refine e_ldA (lvg_ne g0 rfl (by decide)) ?_
        refine e_gR hM.1 (hM.2.1 30 (by decide)).1 ?_
        refine e_ldI (lvg_ne g3 rfl (by decide)) ?_
        refine e_aE (N := 4000) (kdA (k := 30) hM (by decide) rfl) (lnA (k := 30) hM (by decide) rfl) (by omega) (by decide) ?_
        refine e_cI ?_
        refine ⟨fun h6 => ?_, fun h6 => ?_⟩
        · replace K := kx_p h6 K
          refine u_X8_comes_119 ?_
          unfold bX8_comes_119
          refine e_ldA (lvg_ne g0 rfl (by decide)) ?_
          refine e_ldI (lvg_ne g3 rfl (by decide)) ?_
          refine e_ldI lvg_self ?_
          refine And.intro hM.1 (And.intro ⟨by decide, by decide⟩ (x_X8_noteComes hM (by omega) (by omega) ir (fun ir8 => ?_)))
          refine u_X8_comes_126 ?_
          unfold bX8_comes_126
          refine e_inc (lvg_ne g3 rfl (by decide)) ?_
          exact ih hM hnt hnf ir8 (by omega) ((congrFun (nm_X8_noteComes (fun k hk => Ne.symm (ne_m hM (mem_sub k hk (by decide))))) 32).trans q0) ((congrFun (nm_X8_noteComes (fun k hk => Ne.symm (ne_m hM (mem_sub k hk (by decide))))) 39).trans q1) (lvg_ne (lvg_ne g0 rfl (by decide)) rfl (by decide)) (lvg_ne (lvg_ne g1 rfl (by decide)) rfl (by decide)) (lvg_ne (lvg_ne g2 rfl (by decide)) rfl (by decide)) lvg_self   (cmb_k cm (by omega) (nm_X8_noteComes (fun k hk => ne_A hM (by decide) (mem_sub k hk (by decide)) (ne_in k hk (by decide))))) (frn_k fr (nm_X8_noteComes (fun k hk => ne_A hM (by decide) (mem_sub k hk (by decide)) (ne_in k hk (by decide))))) (by omega) (by omega) K
        · replace K := kx_n h6 K
          have q7 := im_30 ir h6
          have hq7 := q7.2
          have fh6 := fr _ (by omega) h6
          refine e_ldA (lvg_ne g0 rfl (by decide)) ?_
          refine e_ldA (lvg_ne g0 rfl (by decide)) ?_
          refine e_gR hM.1 (hM.2.1 30 (by decide)).1 ?_
          refine e_ldI (lvg_ne g3 rfl (by decide)) ?_
          refine e_aV (N := 4000) (kdA (k := 30) hM (by decide) rfl) (lnA (k := 30) hM (by decide) rfl) (by omega) (by decide) q7.1 ?_
          refine e_ldI lvg_self ?_
          refine And.intro hM.1 (And.intro ⟨by decide, by decide⟩ (x_X8_frameComes hM (by omega) (by omega) (by omega) (cmb_b cm (by omega)) ir q1 (cmb_n cm (by omega)).1 (fun ir10 => ?_)))
          refine u_X8_comes_126 ?_
          unfold bX8_comes_126
          refine e_inc (lvg_ne g3 rfl (by decide)) ?_
          exact ih hM hnt hnf ir10 (by omega) ((ns_X8_frameComes hM (by decide)).trans q0) ((ns_X8_frameComes hM (by decide)).trans q1) (lvg_ne (lvg_ne g0 rfl (by decide)) rfl (by decide)) (lvg_ne (lvg_ne g1 rfl (by decide)) rfl (by decide)) (lvg_ne (lvg_ne g2 rfl (by decide)) rfl (by decide)) lvg_self   (cmb_s hM (by omega) cm) (frn_k fr (nm_X8_frameComes (fun k hk => ne_A hM (by decide) (mem_sub k hk (by decide)) (ne_in k hk (by decide))) (ne_m hM (by decide)))) (by omega) (by omega) K
      · replace K := kx_n h3 K
        refine u_X8_comes_126 ?_
        unfold bX8_comes_126
        refine e_inc g3 ?_
        exact ih hM hnt hnf ir (by omega) q0 q1 (lvg_ne g0 rfl (by decide)) (lvg_ne g1 rfl (by decide)) (lvg_ne g2 rfl (by decide)) lvg_self   (cmb_w cm (by omega)) fr (by omega) (by omega) K
    · replace K := kx_n (by omega) K
      refine u_X8_comes_126 ?_
      unfold bX8_comes_126
      refine e_inc g3 ?_
      exact ih hM hnt hnf ir (by omega) q0 q1 (lvg_ne g0 rfl (by decide)) (lvg_ne g1 rfl (by decide)) (lvg_ne g2 rfl (by decide)) lvg_self   (cmb_w cm (by omega)) fr (by omega) (by omega) K
def g_X8_comes_37 (m : Nat) (A : Nat → Nat) (nt : Nat) (nf : Nat) : Nat → Nat → (Nat → Nat → Int32) → Int32 → ((Nat → Nat → Int32) × Int32)
  | 0, i2, I, w1 => (I, w1)
  | r + 1, i2, I, w1 => let z2 := g_X8_comes_45 m A nt nf nt 0 i2 I w1; let I15 := z2.1; g_X8_comes_37 m A nt nf r (i2 + 1)  I15 z2.2
set_option maxRecDepth 100000 in
theorem y_X8_comes_37 {Q : Option Value → MM → Prop} {m : Nat} {A : Nat → Nat} {nt : Nat} {nf : Nat} {B : Nat}  {Fx : Nat} (r : Nat) : ∀ {S : MM}  {w1 : Int32} {i2 n : Nat} {lv : Lv} (hM : MS S m A) (hnt : nt < 4001) (hnf : nf < 4201) (ir : IM S m A)  (q0 : sI S m 32 = nI nt) (q1 : sI S m 39 = nI nf) (g0 : lvg lv 0 = some (.ref m)) (g1 : lvg lv 1 = some (.int w1)) (g2 : lvg lv 2 = some (.int (nI i2)))   (cm : CMB S A B (r * 4001)) (fr : FRN S A nt nf) (hr : i2 + r = 8) (hn : Fx + 1 + r * 16007 ≤ n) (K : xp_X8_comes_37 Q S m A B nt nf  Fx (g_X8_comes_37 m A nt nf r i2  (sI S) w1)), wpn (kX8_comes Q) n 37 lv [] S 0 0 := by
  induction r with
  | zero =>
    intro S  w1 i2 n lv hM hnt hnf ir  q0 q1 g0 g1 g2   cm fr hr hn K
    obtain ⟨d, hd, rfl⟩ : ∃ d, Fx ≤ d ∧ n = d + 1 := ⟨n - 1, by omega, by omega⟩
    unfold g_X8_comes_37 at K
    refine u_X8_comes_37 ?_
    unfold bX8_comes_37
    refine e_ldI g2 ?_
    refine e_cN 8 rfl ?_
    refine e_ge (by omega) (by omega) (fun _ => ?_) (fun z => absurd z (by omega))
    exact K _ _ (by omega) ir q0 q1  (cmb_w cm (by omega)) fr g0 g1
  | succ r ih =>
    intro S  w1 i2 n lv hM hnt hnf ir  q0 q1 g0 g1 g2   cm fr hr hn K
    obtain ⟨d, hd, rfl⟩ : ∃ d, Fx + 1 + r * 16007 ≤ d ∧ n = d + 16007 := ⟨n - 16007, by omega, by omega⟩
    unfold g_X8_comes_37 at K
    refine u_X8_comes_37 ?_
    unfold bX8_comes_37
    refine e_ldI g2 ?_
    refine e_cN 8 rfl ?_
    refine e_ge (by omega) (by omega) (fun z => absurd z (by omega)) (fun _ => ?_)
    refine e_cN 0 rfl ?_
    refine e_stI ?_
    refine y_X8_comes_45 (Fx := d + 1) nt hM hnt hnf ir (by omega) q0 q1 (lvg_ne g0 rfl (by decide)) (lvg_ne g1 rfl (by decide)) (lvg_ne g2 rfl (by decide)) lvg_self   (cmb_in cm (by omega)) fr (by omega) (by omega) (fun n3 lv4 hn5 ir10 q11 q12  iv13 iv14 g7 g8 g9 => ?_)
    obtain ⟨d6, hd6, rfl⟩ : ∃ d, d ≤ d ∧ n3 = d + 1 := ⟨n3 - 1, by omega, by omega⟩
    refine u_X8_comes_132 ?_
    unfold bX8_comes_132
    refine e_inc g9 ?_
    exact ih hM hnt hnf ir10  q11 q12 (lvg_ne g7 rfl (by decide)) (lvg_ne g8 rfl (by decide)) lvg_self   (cmb_out cm iv13) iv14 (by omega) (by omega) K
def g_X8_comes_142 (m : Nat) (A : Nat → Nat) (nt : Nat) (nf : Nat) : Nat → Nat → Nat → (Nat → Nat → Int32) → Int32 → ((Nat → Nat → Int32) × Int32)
  | 0, i3, i2, I, w1 => let I2 := up2 I m 32 (nI i2); (I2, (((I2 (A 42) 0) + (I2 (A 42) 1)) - w1))
  | r + 1, i3, i2, I, w1 => if (I (A 29) i3) = (I m 43) then (g_X8_comes_142 m A nt nf r (i3 + 1) i2 I w1) else (let I3 := f_X8_moves I m A i3 i2; g_X8_comes_142 m A nt nf r (i3 + 1) (i2 + 1) I3 w1)
theorem y_X8_comes_142 {Q : Option Value → MM → Prop} {m : Nat} {A : Nat → Nat} {nt : Nat} {nf : Nat} {B : Nat}  (r : Nat) : ∀ {S : MM} {i2 : Nat} {w1 : Int32} {i3 n : Nat} {lv : Lv} (hM : MS S m A) (hnt : nt < 4001) (hnf : nf < 4201) (ir : IM S m A) (hi2 : i2 ≤ i3) (q0 : sI S m 32 = nI nt) (q1 : sI S m 39 = nI nf) (g0 : lvg lv 0 = some (.ref m)) (g1 : lvg lv 1 = some (.int w1)) (g2 : lvg lv 2 = some (.int (nI i2))) (g3 : lvg lv 3 = some (.int (nI i3)))    (hr : i3 + r = nt) (hn : 2 + r * 3 ≤ n) (K : KBM m A Q S (g_X8_comes_142 m A nt nf r i3 i2 (sI S) w1)), wpn (kX8_comes Q) n 142 lv [] S 0 0 := by
  induction r with
  | zero =>
    intro S i2 w1 i3 n lv hM hnt hnf ir hi2 q0 q1 g0 g1 g2 g3    hr hn K
    obtain ⟨d, rfl⟩ : ∃ d, n = d + 2 := ⟨n - 2, by omega⟩
    unfold g_X8_comes_142 at K
    refine u_X8_comes_142 ?_
    unfold bX8_comes_142
    refine e_ldI g3 ?_
    refine e_ldA g0 ?_
    refine e_gV (v := nI nt) hM.1 q0 ?_
    refine e_ge (by omega) (by omega) (fun _ => ?_) (fun z => absurd z (by omega))
    refine u_X8_comes_181 ?_
    unfold bX8_comes_181
    refine e_ldA g0 ?_
    refine e_ldI g2 ?_
    refine e_mT hM ir hM.1 (fun N e => by have e2 : some 4001 = some N := e; cases e2; exact ⟨_, by omega, rfl⟩) (fun ir1 => ?_)
    refine e_ldA g0 ?_
    refine e_gR hM.1 (hM.2.1 42 (by decide)).1 ?_
    refine e_cN 0 rfl ?_
    refine e_aE (N := 2) (kdA (k := 42) hM (by decide) rfl) (lnA (k := 42) hM (by decide) rfl) (by omega) (by decide) ?_
    refine e_ldA g0 ?_
    refine e_gR hM.1 (hM.2.1 42 (by decide)).1 ?_
    refine e_cN 1 rfl ?_
    refine e_aE (N := 2) (kdA (k := 42) hM (by decide) rfl) (lnA (k := 42) hM (by decide) rfl) (by omega) (by decide) ?_
    refine e_bopE ?_
    refine e_ldI g1 ?_
    refine e_bopE ?_
    exact e_rI (K ir1)
  | succ r ih =>
    intro S i2 w1 i3 n lv hM hnt hnf ir hi2 q0 q1 g0 g1 g2 g3    hr hn K
    obtain ⟨d, hd, rfl⟩ : ∃ d, 2 + r * 3 ≤ d ∧ n = d + 3 := ⟨n - 3, by omega, by omega⟩
    unfold g_X8_comes_142 at K
    refine u_X8_comes_142 ?_
    unfold bX8_comes_142
    refine e_ldI g3 ?_
    refine e_ldA g0 ?_
    refine e_gV (v := nI nt) hM.1 q0 ?_
    refine e_ge (by omega) (by omega) (fun z => absurd z (by omega)) (fun _ => ?_)
    refine e_ldA g0 ?_
    refine e_gR hM.1 (hM.2.1 29 (by decide)).1 ?_
    refine e_ldI g3 ?_
    refine e_aE (N := 4000) (kdA (k := 29) hM (by decide) rfl) (lnA (k := 29) hM (by decide) rfl) (by omega) (by decide) ?_
    refine e_ldA g0 ?_
    refine e_gE hM.1 ?_
    refine ⟨fun h1 => ?_, fun h1 => ?_⟩
    · replace K := kx_p h1 K
      refine u_X8_comes_175 ?_
      unfold bX8_comes_175
      refine e_inc g3 ?_
      exact ih hM hnt hnf ir (by omega) q0 q1 (lvg_ne g0 rfl (by decide)) (lvg_ne g1 rfl (by decide)) (lvg_ne g2 rfl (by decide)) lvg_self    (by omega) (by omega) K
    · replace K := kx_n h1 K
      refine u_X8_comes_166 ?_
      unfold bX8_comes_166
      refine e_ldA g0 ?_
      refine e_ldI g3 ?_
      refine e_ldI g2 ?_
      refine And.intro hM.1 (And.intro ⟨by decide, by decide⟩ (x_X8_moves hM (by omega) (by omega) ir (fun ir2 => ?_)))
      refine e_inc g2 ?_
      refine u_X8_comes_175 ?_
      unfold bX8_comes_175
      refine e_inc (lvg_ne g3 rfl (by decide)) ?_
      exact ih hM hnt hnf ir2 (by omega) ((congrFun (nm_X8_moves (m := m) (fun k hk => Ne.symm (ne_m hM (mem_sub k hk (by decide))))) 32).trans q0) ((congrFun (nm_X8_moves (m := m) (fun k hk => Ne.symm (ne_m hM (mem_sub k hk (by decide))))) 39).trans q1) (lvg_ne (lvg_ne g0 rfl (by decide)) rfl (by decide)) (lvg_ne (lvg_ne g1 rfl (by decide)) rfl (by decide)) (lvg_ne lvg_self rfl (by decide)) lvg_self    (by omega) (by omega) K
def f_X8_comes (I : Nat → Nat → Int32) (m : Nat) (A : Nat → Nat) (nt : Nat) (nf : Nat) : (Nat → Nat → Int32) × Int32 := let z2 := g_X8_comes_16 m A nt nf 16 0  I ((I (A 42) 0) + (I (A 42) 1)); let I14 := z2.1; let z16 := g_X8_comes_37 m A nt nf 8 0  I14 z2.2; let I28 := z16.1; g_X8_comes_142 m A nt nf nt 0 0 I28 z16.2
set_option maxRecDepth 100000 in
theorem x_X8_comes {Q : Option Value → MM → Prop} {S : MM} {m : Nat} {A : Nat → Nat} {nt : Nat} {nf : Nat} {B : Nat} (hM : MS S m A) (hnt : nt < 4001) (hnf : nf < 4201) (ir : IM S m A) (q0 : sI S m 32 = nI nt) (q1 : sI S m 39 = nI nf) (cm0 : CMB S A B 32008) (fr0 : FRN S A nt nf) (K : KBM m A Q S (f_X8_comes (sI S) m A nt nf)) : wX8_comes [.ref m] S Q := by
  unfold f_X8_comes at K
  refine Exists.intro 140082 (u_X8_comes_0 ?_)
  unfold bX8_comes_0
  refine e_ldA rfl ?_
  refine e_gR hM.1 (hM.2.1 42 (by decide)).1 ?_
  refine e_cN 0 rfl ?_
  refine e_aE (N := 2) (kdA (k := 42) hM (by decide) rfl) (lnA (k := 42) hM (by decide) rfl) (by omega) (by decide) ?_
  refine e_ldA rfl ?_
  refine e_gR hM.1 (hM.2.1 42 (by decide)).1 ?_
  refine e_cN 1 rfl ?_
  refine e_aE (N := 2) (kdA (k := 42) hM (by decide) rfl) (lnA (k := 42) hM (by decide) rfl) (by omega) (by decide) ?_
  refine e_bopE ?_
  refine e_stI ?_
  refine e_cN 0 rfl ?_
  refine e_stI ?_
  refine y_X8_comes_16 (Fx := 140064) 16 hM hnt hnf ir  q0 q1 (lvg_ne (lvg_ne rfl rfl (by decide)) rfl (by decide)) (lvg_ne lvg_self rfl (by decide)) lvg_self   cm0 fr0 (by omega) (by omega) (fun n3 lv4 hn5 ir9 q10 q11  iv12 iv13 g7 g8 => ?_)
  obtain ⟨d6, rfl⟩ : ∃ d, n3 = d + 140064 := ⟨n3 - 140064, by omega⟩
  refine u_X8_comes_35 ?_
  unfold bX8_comes_35
  refine e_cN 0 rfl ?_
  refine e_stI ?_
  refine y_X8_comes_37 (Fx := d6 + 12006) 8 hM hnt hnf ir9  q10 q11 (lvg_ne g7 rfl (by decide)) (lvg_ne g8 rfl (by decide)) lvg_self   iv12 iv13 (by omega) (by omega) (fun n17 lv18 hn19 ir23 q24 q25  iv26 iv27 g21 g22 => ?_)
  obtain ⟨d20, hd20, rfl⟩ : ∃ d, d6 ≤ d ∧ n17 = d + 12006 := ⟨n17 - 12006, by omega, by omega⟩
  refine u_X8_comes_138 ?_
  unfold bX8_comes_138
  refine e_cN 0 rfl ?_
  refine e_stI ?_
  refine e_cN 0 rfl ?_
  refine e_stI ?_
  exact y_X8_comes_142 (B := B) nt hM hnt hnf ir23 (by omega) q24 q25 (lvg_ne (lvg_ne g21 rfl (by decide)) rfl (by decide)) (lvg_ne (lvg_ne g22 rfl (by decide)) rfl (by decide)) (lvg_ne lvg_self rfl (by decide)) lvg_self    (by omega) (by omega) K
theorem nm_g_X8_comes_16 {m : Nat} {A : Nat → Nat} {nt : Nat} {nf : Nat} {z : Nat} (hz : ∀ k ∈ ([7, 8, 14, 15, 17, 18, 27, 28, 29, 30, 31, 38, 41, 42] : List Nat), z ≠ A k) (hm : z ≠ m) : ∀ (r : Nat) {i : Nat}  {I : Nat → Nat → Int32} {w1 : Int32}, (g_X8_comes_16 m A nt nf r i  I w1).1 z = I z := by
  intro r
  induction r with
  | zero =>
    intros
    simp only [g_X8_comes_16]
    repeat' split
    all_goals simp only [up2_row (hz 7 (by decide)), up2_row (hz 8 (by decide)), up2_row (hz 14 (by decide)), up2_row (hz 15 (by decide)), up2_row (hz 17 (by decide)), up2_row (hz 18 (by decide)), up2_row (hz 27 (by decide)), up2_row (hz 28 (by decide)), up2_row (hz 29 (by decide)), up2_row (hz 30 (by decide)), up2_row (hz 31 (by decide)), up2_row (hz 38 (by decide)), up2_row (hz 41 (by decide)), up2_row (hz 42 (by decide)), up2_row hm, nm_X8_noteComes (fun k hk => hz k (mem_sub k hk (by decide))), nm_X8_frameComes (fun k hk => hz k (mem_sub k hk (by decide))) hm, nm_X8_moves (fun k hk => hz k (mem_sub k hk (by decide)))]
  | succ r ih =>
    intros
    simp only [g_X8_comes_16]
    repeat' split
    all_goals simp only [up2_row (hz 7 (by decide)), up2_row (hz 8 (by decide)), up2_row (hz 14 (by decide)), up2_row (hz 15 (by decide)), up2_row (hz 17 (by decide)), up2_row (hz 18 (by decide)), up2_row (hz 27 (by decide)), up2_row (hz 28 (by decide)), up2_row (hz 29 (by decide)), up2_row (hz 30 (by decide)), up2_row (hz 31 (by decide)), up2_row (hz 38 (by decide)), up2_row (hz 41 (by decide)), up2_row (hz 42 (by decide)), up2_row hm, nm_X8_noteComes (fun k hk => hz k (mem_sub k hk (by decide))), nm_X8_frameComes (fun k hk => hz k (mem_sub k hk (by decide))) hm, nm_X8_moves (fun k hk => hz k (mem_sub k hk (by decide))), ih]
theorem nm_g_X8_comes_45 {m : Nat} {A : Nat → Nat} {nt : Nat} {nf : Nat} {z : Nat} (hz : ∀ k ∈ ([7, 8, 14, 15, 17, 18, 27, 28, 29, 30, 31, 38, 41, 42] : List Nat), z ≠ A k) (hm : z ≠ m) : ∀ (r : Nat) {i : Nat} {i2 : Nat} {I : Nat → Nat → Int32} {w1 : Int32}, (g_X8_comes_45 m A nt nf r i i2 I w1).1 z = I z := by
  intro r
  induction r with
  | zero =>
    intros
    simp only [g_X8_comes_45]
    repeat' split
    all_goals simp only [up2_row (hz 7 (by decide)), up2_row (hz 8 (by decide)), up2_row (hz 14 (by decide)), up2_row (hz 15 (by decide)), up2_row (hz 17 (by decide)), up2_row (hz 18 (by decide)), up2_row (hz 27 (by decide)), up2_row (hz 28 (by decide)), up2_row (hz 29 (by decide)), up2_row (hz 30 (by decide)), up2_row (hz 31 (by decide)), up2_row (hz 38 (by decide)), up2_row (hz 41 (by decide)), up2_row (hz 42 (by decide)), up2_row hm, nm_X8_noteComes (fun k hk => hz k (mem_sub k hk (by decide))), nm_X8_frameComes (fun k hk => hz k (mem_sub k hk (by decide))) hm, nm_X8_moves (fun k hk => hz k (mem_sub k hk (by decide))), nm_g_X8_comes_16 hz hm]
  | succ r ih =>
    intros
    simp only [g_X8_comes_45]
    repeat' split
    all_goals simp only [up2_row (hz 7 (by decide)), up2_row (hz 8 (by decide)), up2_row (hz 14 (by decide)), up2_row (hz 15 (by decide)), up2_row (hz 17 (by decide)), up2_row (hz 18 (by decide)), up2_row (hz 27 (by decide)), up2_row (hz 28 (by decide)), up2_row (hz 29 (by decide)), up2_row (hz 30 (by decide)), up2_row (hz 31 (by decide)), up2_row (hz 38 (by decide)), up2_row (hz 41 (by decide)), up2_row (hz 42 (by decide)), up2_row hm, nm_X8_noteComes (fun k hk => hz k (mem_sub k hk (by decide))), nm_X8_frameComes (fun k hk => hz k (mem_sub k hk (by decide))) hm, nm_X8_moves (fun k hk => hz k (mem_sub k hk (by decide))), nm_g_X8_comes_16 hz hm, ih]
theorem nm_g_X8_comes_37 {m : Nat} {A : Nat → Nat} {nt : Nat} {nf : Nat} {z : Nat} (hz : ∀ k ∈ ([7, 8, 14, 15, 17, 18, 27, 28, 29, 30, 31, 38, 41, 42] : List Nat), z ≠ A k) (hm : z ≠ m) : ∀ (r : Nat) {i : Nat}  {I : Nat → Nat → Int32} {w1 : Int32}, (g_X8_comes_37 m A nt nf r i  I w1).1 z = I z := by
  intro r
  induction r with
  | zero =>
    intros
    simp only [g_X8_comes_37]
    repeat' split
    all_goals simp only [up2_row (hz 7 (by decide)), up2_row (hz 8 (by decide)), up2_row (hz 14 (by decide)), up2_row (hz 15 (by decide)), up2_row (hz 17 (by decide)), up2_row (hz 18 (by decide)), up2_row (hz 27 (by decide)), up2_row (hz 28 (by decide)), up2_row (hz 29 (by decide)), up2_row (hz 30 (by decide)), up2_row (hz 31 (by decide)), up2_row (hz 38 (by decide)), up2_row (hz 41 (by decide)), up2_row (hz 42 (by decide)), up2_row hm, nm_X8_noteComes (fun k hk => hz k (mem_sub k hk (by decide))), nm_X8_frameComes (fun k hk => hz k (mem_sub k hk (by decide))) hm, nm_X8_moves (fun k hk => hz k (mem_sub k hk (by decide))), nm_g_X8_comes_16 hz hm, nm_g_X8_comes_45 hz hm]
  | succ r ih =>
    intros
    simp only [g_X8_comes_37]
    repeat' split
    all_goals simp only [up2_row (hz 7 (by decide)), up2_row (hz 8 (by decide)), up2_row (hz 14 (by decide)), up2_row (hz 15 (by decide)), up2_row (hz 17 (by decide)), up2_row (hz 18 (by decide)), up2_row (hz 27 (by decide)), up2_row (hz 28 (by decide)), up2_row (hz 29 (by decide)), up2_row (hz 30 (by decide)), up2_row (hz 31 (by decide)), up2_row (hz 38 (by decide)), up2_row (hz 41 (by decide)), up2_row (hz 42 (by decide)), up2_row hm, nm_X8_noteComes (fun k hk => hz k (mem_sub k hk (by decide))), nm_X8_frameComes (fun k hk => hz k (mem_sub k hk (by decide))) hm, nm_X8_moves (fun k hk => hz k (mem_sub k hk (by decide))), nm_g_X8_comes_16 hz hm, nm_g_X8_comes_45 hz hm, ih]
theorem nm_g_X8_comes_142 {m : Nat} {A : Nat → Nat} {nt : Nat} {nf : Nat} {z : Nat} (hz : ∀ k ∈ ([7, 8, 14, 15, 17, 18, 27, 28, 29, 30, 31, 38, 41, 42] : List Nat), z ≠ A k) (hm : z ≠ m) : ∀ (r : Nat) {i : Nat} {i2 : Nat} {I : Nat → Nat → Int32} {w1 : Int32}, (g_X8_comes_142 m A nt nf r i i2 I w1).1 z = I z := by
  intro r
  induction r with
  | zero =>
    intros
    simp only [g_X8_comes_142]
    repeat' split
    all_goals simp only [up2_row (hz 7 (by decide)), up2_row (hz 8 (by decide)), up2_row (hz 14 (by decide)), up2_row (hz 15 (by decide)), up2_row (hz 17 (by decide)), up2_row (hz 18 (by decide)), up2_row (hz 27 (by decide)), up2_row (hz 28 (by decide)), up2_row (hz 29 (by decide)), up2_row (hz 30 (by decide)), up2_row (hz 31 (by decide)), up2_row (hz 38 (by decide)), up2_row (hz 41 (by decide)), up2_row (hz 42 (by decide)), up2_row hm, nm_X8_noteComes (fun k hk => hz k (mem_sub k hk (by decide))), nm_X8_frameComes (fun k hk => hz k (mem_sub k hk (by decide))) hm, nm_X8_moves (fun k hk => hz k (mem_sub k hk (by decide))), nm_g_X8_comes_16 hz hm, nm_g_X8_comes_45 hz hm, nm_g_X8_comes_37 hz hm]
  | succ r ih =>
    intros
    simp only [g_X8_comes_142]
    repeat' split
    all_goals simp only [up2_row (hz 7 (by decide)), up2_row (hz 8 (by decide)), up2_row (hz 14 (by decide)), up2_row (hz 15 (by decide)), up2_row (hz 17 (by decide)), up2_row (hz 18 (by decide)), up2_row (hz 27 (by decide)), up2_row (hz 28 (by decide)), up2_row (hz 29 (by decide)), up2_row (hz 30 (by decide)), up2_row (hz 31 (by decide)), up2_row (hz 38 (by decide)), up2_row (hz 41 (by decide)), up2_row (hz 42 (by decide)), up2_row hm, nm_X8_noteComes (fun k hk => hz k (mem_sub k hk (by decide))), nm_X8_frameComes (fun k hk => hz k (mem_sub k hk (by decide))) hm, nm_X8_moves (fun k hk => hz k (mem_sub k hk (by decide))), nm_g_X8_comes_16 hz hm, nm_g_X8_comes_45 hz hm, nm_g_X8_comes_37 hz hm, ih]
theorem nm_X8_comes {I : Nat → Nat → Int32} {m : Nat} {A : Nat → Nat} {nt : Nat} {nf : Nat} {z : Nat} (hz : ∀ k ∈ ([7, 8, 14, 15, 17, 18, 27, 28, 29, 30, 31, 38, 41, 42] : List Nat), z ≠ A k) (hm : z ≠ m) : (f_X8_comes I m A nt nf).1 z = I z := by
  simp only [f_X8_comes]
  repeat' split
  all_goals simp only [up2_row (hz 7 (by decide)), up2_row (hz 8 (by decide)), up2_row (hz 14 (by decide)), up2_row (hz 15 (by decide)), up2_row (hz 17 (by decide)), up2_row (hz 18 (by decide)), up2_row (hz 27 (by decide)), up2_row (hz 28 (by decide)), up2_row (hz 29 (by decide)), up2_row (hz 30 (by decide)), up2_row (hz 31 (by decide)), up2_row (hz 38 (by decide)), up2_row (hz 41 (by decide)), up2_row (hz 42 (by decide)), up2_row hm, nm_X8_noteComes (fun k hk => hz k (mem_sub k hk (by decide))), nm_X8_frameComes (fun k hk => hz k (mem_sub k hk (by decide))) hm, nm_X8_moves (fun k hk => hz k (mem_sub k hk (by decide))), nm_g_X8_comes_16 hz hm, nm_g_X8_comes_45 hz hm, nm_g_X8_comes_37 hz hm, nm_g_X8_comes_142 hz hm]
theorem ns_g_X8_comes_16 {m : Nat} {A : Nat → Nat} {nt : Nat} {nf : Nat} {S : MM} {j : Nat} (hM : MS S m A) (hj : j ∉ ([32, 45, 49] : List Nat)) : ∀ (r : Nat) {i : Nat}  {I : Nat → Nat → Int32} {w1 : Int32}, (g_X8_comes_16 m A nt nf r i  I w1).1 m j = I m j := by
  intro r
  induction r with
  | zero =>
    intros
    simp only [g_X8_comes_16]
    repeat' split
    all_goals simp only [up2_row (Ne.symm (ne_m hM (show 7 ∈ DM by decide))), up2_row (Ne.symm (ne_m hM (show 8 ∈ DM by decide))), up2_row (Ne.symm (ne_m hM (show 14 ∈ DM by decide))), up2_row (Ne.symm (ne_m hM (show 15 ∈ DM by decide))), up2_row (Ne.symm (ne_m hM (show 17 ∈ DM by decide))), up2_row (Ne.symm (ne_m hM (show 18 ∈ DM by decide))), up2_row (Ne.symm (ne_m hM (show 27 ∈ DM by decide))), up2_row (Ne.symm (ne_m hM (show 28 ∈ DM by decide))), up2_row (Ne.symm (ne_m hM (show 29 ∈ DM by decide))), up2_row (Ne.symm (ne_m hM (show 30 ∈ DM by decide))), up2_row (Ne.symm (ne_m hM (show 31 ∈ DM by decide))), up2_row (Ne.symm (ne_m hM (show 38 ∈ DM by decide))), up2_row (Ne.symm (ne_m hM (show 41 ∈ DM by decide))), up2_row (Ne.symm (ne_m hM (show 42 ∈ DM by decide))), up2_jn (show j ≠ 32 from fun z => hj (by rw [z]; decide)), up2_jn (show j ≠ 45 from fun z => hj (by rw [z]; decide)), up2_jn (show j ≠ 49 from fun z => hj (by rw [z]; decide)), nm_X8_noteComes (fun k hk => Ne.symm (ne_m hM (mem_sub k hk (by decide)))), ns_X8_frameComes hM (fun q => hj (mem_sub j q (by decide))), nm_X8_moves (fun k hk => Ne.symm (ne_m hM (mem_sub k hk (by decide))))]
  | succ r ih =>
    intros
    simp only [g_X8_comes_16]
    repeat' split
    all_goals simp only [up2_row (Ne.symm (ne_m hM (show 7 ∈ DM by decide))), up2_row (Ne.symm (ne_m hM (show 8 ∈ DM by decide))), up2_row (Ne.symm (ne_m hM (show 14 ∈ DM by decide))), up2_row (Ne.symm (ne_m hM (show 15 ∈ DM by decide))), up2_row (Ne.symm (ne_m hM (show 17 ∈ DM by decide))), up2_row (Ne.symm (ne_m hM (show 18 ∈ DM by decide))), up2_row (Ne.symm (ne_m hM (show 27 ∈ DM by decide))), up2_row (Ne.symm (ne_m hM (show 28 ∈ DM by decide))), up2_row (Ne.symm (ne_m hM (show 29 ∈ DM by decide))), up2_row (Ne.symm (ne_m hM (show 30 ∈ DM by decide))), up2_row (Ne.symm (ne_m hM (show 31 ∈ DM by decide))), up2_row (Ne.symm (ne_m hM (show 38 ∈ DM by decide))), up2_row (Ne.symm (ne_m hM (show 41 ∈ DM by decide))), up2_row (Ne.symm (ne_m hM (show 42 ∈ DM by decide))), up2_jn (show j ≠ 32 from fun z => hj (by rw [z]; decide)), up2_jn (show j ≠ 45 from fun z => hj (by rw [z]; decide)), up2_jn (show j ≠ 49 from fun z => hj (by rw [z]; decide)), nm_X8_noteComes (fun k hk => Ne.symm (ne_m hM (mem_sub k hk (by decide)))), ns_X8_frameComes hM (fun q => hj (mem_sub j q (by decide))), nm_X8_moves (fun k hk => Ne.symm (ne_m hM (mem_sub k hk (by decide)))), ih]
theorem ns_g_X8_comes_45 {m : Nat} {A : Nat → Nat} {nt : Nat} {nf : Nat} {S : MM} {j : Nat} (hM : MS S m A) (hj : j ∉ ([32, 45, 49] : List Nat)) : ∀ (r : Nat) {i : Nat} {i2 : Nat} {I : Nat → Nat → Int32} {w1 : Int32}, (g_X8_comes_45 m A nt nf r i i2 I w1).1 m j = I m j := by
  intro r
  induction r with
  | zero =>
    intros
    simp only [g_X8_comes_45]
    repeat' split
    all_goals simp only [up2_row (Ne.symm (ne_m hM (show 7 ∈ DM by decide))), up2_row (Ne.symm (ne_m hM (show 8 ∈ DM by decide))), up2_row (Ne.symm (ne_m hM (show 14 ∈ DM by decide))), up2_row (Ne.symm (ne_m hM (show 15 ∈ DM by decide))), up2_row (Ne.symm (ne_m hM (show 17 ∈ DM by decide))), up2_row (Ne.symm (ne_m hM (show 18 ∈ DM by decide))), up2_row (Ne.symm (ne_m hM (show 27 ∈ DM by decide))), up2_row (Ne.symm (ne_m hM (show 28 ∈ DM by decide))), up2_row (Ne.symm (ne_m hM (show 29 ∈ DM by decide))), up2_row (Ne.symm (ne_m hM (show 30 ∈ DM by decide))), up2_row (Ne.symm (ne_m hM (show 31 ∈ DM by decide))), up2_row (Ne.symm (ne_m hM (show 38 ∈ DM by decide))), up2_row (Ne.symm (ne_m hM (show 41 ∈ DM by decide))), up2_row (Ne.symm (ne_m hM (show 42 ∈ DM by decide))), up2_jn (show j ≠ 32 from fun z => hj (by rw [z]; decide)), up2_jn (show j ≠ 45 from fun z => hj (by rw [z]; decide)), up2_jn (show j ≠ 49 from fun z => hj (by rw [z]; decide)), nm_X8_noteComes (fun k hk => Ne.symm (ne_m hM (mem_sub k hk (by decide)))), ns_X8_frameComes hM (fun q => hj (mem_sub j q (by decide))), nm_X8_moves (fun k hk => Ne.symm (ne_m hM (mem_sub k hk (by decide)))), ns_g_X8_comes_16 hM hj]
  | succ r ih =>
    intros
    simp only [g_X8_comes_45]
    repeat' split
    all_goals simp only [up2_row (Ne.symm (ne_m hM (show 7 ∈ DM by decide))), up2_row (Ne.symm (ne_m hM (show 8 ∈ DM by decide))), up2_row (Ne.symm (ne_m hM (show 14 ∈ DM by decide))), up2_row (Ne.symm (ne_m hM (show 15 ∈ DM by decide))), up2_row (Ne.symm (ne_m hM (show 17 ∈ DM by decide))), up2_row (Ne.symm (ne_m hM (show 18 ∈ DM by decide))), up2_row (Ne.symm (ne_m hM (show 27 ∈ DM by decide))), up2_row (Ne.symm (ne_m hM (show 28 ∈ DM by decide))), up2_row (Ne.symm (ne_m hM (show 29 ∈ DM by decide))), up2_row (Ne.symm (ne_m hM (show 30 ∈ DM by decide))), up2_row (Ne.symm (ne_m hM (show 31 ∈ DM by decide))), up2_row (Ne.symm (ne_m hM (show 38 ∈ DM by decide))), up2_row (Ne.symm (ne_m hM (show 41 ∈ DM by decide))), up2_row (Ne.symm (ne_m hM (show 42 ∈ DM by decide))), up2_jn (show j ≠ 32 from fun z => hj (by rw [z]; decide)), up2_jn (show j ≠ 45 from fun z => hj (by rw [z]; decide)), up2_jn (show j ≠ 49 from fun z => hj (by rw [z]; decide)), nm_X8_noteComes (fun k hk => Ne.symm (ne_m hM (mem_sub k hk (by decide)))), ns_X8_frameComes hM (fun q => hj (mem_sub j q (by decide))), nm_X8_moves (fun k hk => Ne.symm (ne_m hM (mem_sub k hk (by decide)))), ns_g_X8_comes_16 hM hj, ih]
theorem ns_g_X8_comes_37 {m : Nat} {A : Nat → Nat} {nt : Nat} {nf : Nat} {S : MM} {j : Nat} (hM : MS S m A) (hj : j ∉ ([32, 45, 49] : List Nat)) : ∀ (r : Nat) {i : Nat}  {I : Nat → Nat → Int32} {w1 : Int32}, (g_X8_comes_37 m A nt nf r i  I w1).1 m j = I m j := by
  intro r
  induction r with
  | zero =>
    intros
    simp only [g_X8_comes_37]
    repeat' split
    all_goals simp only [up2_row (Ne.symm (ne_m hM (show 7 ∈ DM by decide))), up2_row (Ne.symm (ne_m hM (show 8 ∈ DM by decide))), up2_row (Ne.symm (ne_m hM (show 14 ∈ DM by decide))), up2_row (Ne.symm (ne_m hM (show 15 ∈ DM by decide))), up2_row (Ne.symm (ne_m hM (show 17 ∈ DM by decide))), up2_row (Ne.symm (ne_m hM (show 18 ∈ DM by decide))), up2_row (Ne.symm (ne_m hM (show 27 ∈ DM by decide))), up2_row (Ne.symm (ne_m hM (show 28 ∈ DM by decide))), up2_row (Ne.symm (ne_m hM (show 29 ∈ DM by decide))), up2_row (Ne.symm (ne_m hM (show 30 ∈ DM by decide))), up2_row (Ne.symm (ne_m hM (show 31 ∈ DM by decide))), up2_row (Ne.symm (ne_m hM (show 38 ∈ DM by decide))), up2_row (Ne.symm (ne_m hM (show 41 ∈ DM by decide))), up2_row (Ne.symm (ne_m hM (show 42 ∈ DM by decide))), up2_jn (show j ≠ 32 from fun z => hj (by rw [z]; decide)), up2_jn (show j ≠ 45 from fun z => hj (by rw [z]; decide)), up2_jn (show j ≠ 49 from fun z => hj (by rw [z]; decide)), nm_X8_noteComes (fun k hk => Ne.symm (ne_m hM (mem_sub k hk (by decide)))), ns_X8_frameComes hM (fun q => hj (mem_sub j q (by decide))), nm_X8_moves (fun k hk => Ne.symm (ne_m hM (mem_sub k hk (by decide)))), ns_g_X8_comes_16 hM hj, ns_g_X8_comes_45 hM hj]
  | succ r ih =>
    intros
    simp only [g_X8_comes_37]
    repeat' split
    all_goals simp only [up2_row (Ne.symm (ne_m hM (show 7 ∈ DM by decide))), up2_row (Ne.symm (ne_m hM (show 8 ∈ DM by decide))), up2_row (Ne.symm (ne_m hM (show 14 ∈ DM by decide))), up2_row (Ne.symm (ne_m hM (show 15 ∈ DM by decide))), up2_row (Ne.symm (ne_m hM (show 17 ∈ DM by decide))), up2_row (Ne.symm (ne_m hM (show 18 ∈ DM by decide))), up2_row (Ne.symm (ne_m hM (show 27 ∈ DM by decide))), up2_row (Ne.symm (ne_m hM (show 28 ∈ DM by decide))), up2_row (Ne.symm (ne_m hM (show 29 ∈ DM by decide))), up2_row (Ne.symm (ne_m hM (show 30 ∈ DM by decide))), up2_row (Ne.symm (ne_m hM (show 31 ∈ DM by decide))), up2_row (Ne.symm (ne_m hM (show 38 ∈ DM by decide))), up2_row (Ne.symm (ne_m hM (show 41 ∈ DM by decide))), up2_row (Ne.symm (ne_m hM (show 42 ∈ DM by decide))), up2_jn (show j ≠ 32 from fun z => hj (by rw [z]; decide)), up2_jn (show j ≠ 45 from fun z => hj (by rw [z]; decide)), up2_jn (show j ≠ 49 from fun z => hj (by rw [z]; decide)), nm_X8_noteComes (fun k hk => Ne.symm (ne_m hM (mem_sub k hk (by decide)))), ns_X8_frameComes hM (fun q => hj (mem_sub j q (by decide))), nm_X8_moves (fun k hk => Ne.symm (ne_m hM (mem_sub k hk (by decide)))), ns_g_X8_comes_16 hM hj, ns_g_X8_comes_45 hM hj, ih]
theorem ns_g_X8_comes_142 {m : Nat} {A : Nat → Nat} {nt : Nat} {nf : Nat} {S : MM} {j : Nat} (hM : MS S m A) (hj : j ∉ ([32, 45, 49] : List Nat)) : ∀ (r : Nat) {i : Nat} {i2 : Nat} {I : Nat → Nat → Int32} {w1 : Int32}, (g_X8_comes_142 m A nt nf r i i2 I w1).1 m j = I m j := by
  intro r
  induction r with
  | zero =>
    intros
    simp only [g_X8_comes_142]
    repeat' split
    all_goals simp only [up2_row (Ne.symm (ne_m hM (show 7 ∈ DM by decide))), up2_row (Ne.symm (ne_m hM (show 8 ∈ DM by decide))), up2_row (Ne.symm (ne_m hM (show 14 ∈ DM by decide))), up2_row (Ne.symm (ne_m hM (show 15 ∈ DM by decide))), up2_row (Ne.symm (ne_m hM (show 17 ∈ DM by decide))), up2_row (Ne.symm (ne_m hM (show 18 ∈ DM by decide))), up2_row (Ne.symm (ne_m hM (show 27 ∈ DM by decide))), up2_row (Ne.symm (ne_m hM (show 28 ∈ DM by decide))), up2_row (Ne.symm (ne_m hM (show 29 ∈ DM by decide))), up2_row (Ne.symm (ne_m hM (show 30 ∈ DM by decide))), up2_row (Ne.symm (ne_m hM (show 31 ∈ DM by decide))), up2_row (Ne.symm (ne_m hM (show 38 ∈ DM by decide))), up2_row (Ne.symm (ne_m hM (show 41 ∈ DM by decide))), up2_row (Ne.symm (ne_m hM (show 42 ∈ DM by decide))), up2_jn (show j ≠ 32 from fun z => hj (by rw [z]; decide)), up2_jn (show j ≠ 45 from fun z => hj (by rw [z]; decide)), up2_jn (show j ≠ 49 from fun z => hj (by rw [z]; decide)), nm_X8_noteComes (fun k hk => Ne.symm (ne_m hM (mem_sub k hk (by decide)))), ns_X8_frameComes hM (fun q => hj (mem_sub j q (by decide))), nm_X8_moves (fun k hk => Ne.symm (ne_m hM (mem_sub k hk (by decide)))), ns_g_X8_comes_16 hM hj, ns_g_X8_comes_45 hM hj, ns_g_X8_comes_37 hM hj]
  | succ r ih =>
    intros
    simp only [g_X8_comes_142]
    repeat' split
    all_goals simp only [up2_row (Ne.symm (ne_m hM (show 7 ∈ DM by decide))), up2_row (Ne.symm (ne_m hM (show 8 ∈ DM by decide))), up2_row (Ne.symm (ne_m hM (show 14 ∈ DM by decide))), up2_row (Ne.symm (ne_m hM (show 15 ∈ DM by decide))), up2_row (Ne.symm (ne_m hM (show 17 ∈ DM by decide))), up2_row (Ne.symm (ne_m hM (show 18 ∈ DM by decide))), up2_row (Ne.symm (ne_m hM (show 27 ∈ DM by decide))), up2_row (Ne.symm (ne_m hM (show 28 ∈ DM by decide))), up2_row (Ne.symm (ne_m hM (show 29 ∈ DM by decide))), up2_row (Ne.symm (ne_m hM (show 30 ∈ DM by decide))), up2_row (Ne.symm (ne_m hM (show 31 ∈ DM by decide))), up2_row (Ne.symm (ne_m hM (show 38 ∈ DM by decide))), up2_row (Ne.symm (ne_m hM (show 41 ∈ DM by decide))), up2_row (Ne.symm (ne_m hM (show 42 ∈ DM by decide))), up2_jn (show j ≠ 32 from fun z => hj (by rw [z]; decide)), up2_jn (show j ≠ 45 from fun z => hj (by rw [z]; decide)), up2_jn (show j ≠ 49 from fun z => hj (by rw [z]; decide)), nm_X8_noteComes (fun k hk => Ne.symm (ne_m hM (mem_sub k hk (by decide)))), ns_X8_frameComes hM (fun q => hj (mem_sub j q (by decide))), nm_X8_moves (fun k hk => Ne.symm (ne_m hM (mem_sub k hk (by decide)))), ns_g_X8_comes_16 hM hj, ns_g_X8_comes_45 hM hj, ns_g_X8_comes_37 hM hj, ih]
theorem ns_X8_comes {I : Nat → Nat → Int32} {m : Nat} {A : Nat → Nat} {nt : Nat} {nf : Nat} {S : MM} {j : Nat} (hM : MS S m A) (hj : j ∉ ([32, 45, 49] : List Nat)) : (f_X8_comes I m A nt nf).1 m j = I m j := by
  simp only [f_X8_comes]
  repeat' split
  all_goals simp only [up2_row (Ne.symm (ne_m hM (show 7 ∈ DM by decide))), up2_row (Ne.symm (ne_m hM (show 8 ∈ DM by decide))), up2_row (Ne.symm (ne_m hM (show 14 ∈ DM by decide))), up2_row (Ne.symm (ne_m hM (show 15 ∈ DM by decide))), up2_row (Ne.symm (ne_m hM (show 17 ∈ DM by decide))), up2_row (Ne.symm (ne_m hM (show 18 ∈ DM by decide))), up2_row (Ne.symm (ne_m hM (show 27 ∈ DM by decide))), up2_row (Ne.symm (ne_m hM (show 28 ∈ DM by decide))), up2_row (Ne.symm (ne_m hM (show 29 ∈ DM by decide))), up2_row (Ne.symm (ne_m hM (show 30 ∈ DM by decide))), up2_row (Ne.symm (ne_m hM (show 31 ∈ DM by decide))), up2_row (Ne.symm (ne_m hM (show 38 ∈ DM by decide))), up2_row (Ne.symm (ne_m hM (show 41 ∈ DM by decide))), up2_row (Ne.symm (ne_m hM (show 42 ∈ DM by decide))), up2_jn (show j ≠ 32 from fun z => hj (by rw [z]; decide)), up2_jn (show j ≠ 45 from fun z => hj (by rw [z]; decide)), up2_jn (show j ≠ 49 from fun z => hj (by rw [z]; decide)), nm_X8_noteComes (fun k hk => Ne.symm (ne_m hM (mem_sub k hk (by decide)))), ns_X8_frameComes hM (fun q => hj (mem_sub j q (by decide))), nm_X8_moves (fun k hk => Ne.symm (ne_m hM (mem_sub k hk (by decide)))), ns_g_X8_comes_16 hM hj, ns_g_X8_comes_45 hM hj, ns_g_X8_comes_37 hM hj, ns_g_X8_comes_142 hM hj]
