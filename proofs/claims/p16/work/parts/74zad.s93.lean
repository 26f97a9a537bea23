/-! SIMULATION 93: overtaken and dropped: all cables of both -/
theorem map_pr {α β γ δ : Type} {f : α → γ} {f' : α → δ} {g : β → γ} {g' : β → δ} : ∀ {L1 : List α} {L2 : List β}, L1.map f = L2.map g → L1.map f' = L2.map g' → L1.map (fun a => (f a, f' a)) = L2.map (fun b => (g b, g' b)) := by
  intro L1
  induction L1 with
  | nil =>
    intro L2 h _
    cases L2 with
    | nil => rfl
    | cons b L2 => cases h
  | cons a L1 ih =>
    intro L2 h h'
    cases L2 with
    | nil => cases h
    | cons b L2 =>
      rw [List.map_cons, List.map_cons] at h h' ⊢
      obtain ⟨h1, h2⟩ := List.cons.inj h
      obtain ⟨h1', h2'⟩ := List.cons.inj h'
      rw [ih h2 h2', h1, h1']
/-- which frame of the reference a waiting frame of the class is -/
def PHl (R : Nat → Nat → Option Nat) (b : Nat) (I J : Mm) (A : Nat → Nat) (nt : Nat) (φ : Nat → Nat) : Prop := ∀ c e, c < 8 → e < 2 → (CF I R b c e).map φ = ((TG J A nt).filter (isG c e)).map (fun q => (q 3).toNatClampNeg)
theorem duI {R : Nat → Nat → Option Nat} {b m cl nt c e : Nat} {I J : Mm} {A : Nat → Nat} {φ : Nat → Nat} (hl : (CF I R b c e).map (fr5 I) = ((TG J A nt).filter (isG c e)).map (fq5 J A)) (hp : (CF I R b c e).map φ = ((TG J A nt).filter (isG c e)).map (fun q => (q 3).toNatClampNeg)) (m43 : J m 43 = nI cl) : dUe I R b c e cl φ = ((List.range nt).filter (dFb J m A c e)).map (fun t => (J (A 30) t).toNatClampNeg) := by
  have k := map_flt (p := fun v : FV × Nat => decide (v.1.1 = nI cl)) (map_pr hl hp)
  have k2 := congrArg (List.map (fun v : FV × Nat => v.2)) k
  rw [List.map_map, List.map_map] at k2
  have e1 : dUe I R b c e cl φ = List.map ((fun v : FV × Nat => v.2) ∘ fun a => (fr5 I a, φ a)) (List.filter (fun a => decide ((fr5 I a, φ a).1.1 = nI cl)) (CF I R b c e)) := rfl
  rw [e1, k2]
  have e2 : (List.filter (isG c e) (TG J A nt)) = ((List.range nt).filter (fun t => isG c e (tg J A t))).map (tg J A) := flt_map
  rw [e2, flt_map, List.map_map, List.filter_filter]
  have e3 : (List.range nt).filter (dFb J m A c e) = (List.range nt).filter (fun t => decide ((fq5 J A (tg J A t), (tg J A t 3).toNatClampNeg).1.1 = nI cl) && isG c e (tg J A t)) := List.filter_congr (fun t _ => by
    unfold dFb isG
    show decide _ = (decide (J (A 29) t = nI cl) && decide (J (A 27) t = nI c ∧ J (A 28) t = nI e ∧ ¬ J (A 30) t = -1))
    rw [m43, ← Bool.decide_and]
    exact decide_eq_decide.mpr ⟨fun z => ⟨z.2.2.2, z.1, z.2.1, z.2.2.1⟩, fun z => ⟨z.2.1, z.2.2.1, z.2.2.2, z.1⟩⟩)
  rw [e3]
  rfl
theorem lane_x {S : MM} {b c e y cl B F : Nat} {A : Nat → Nat} {I J : Mm} {φ : Nat → Nat} {cm : Nat → Int32} (hL : LY S b) (hO : OC S) (hc : c < 8) (he : e < 2) (hy : y < 16) (hB : B < 2 ^ 31) (hcl : cl < 2 ^ 31) (hF : F < 4200) (vb : I b 2 = nI cl) (fok : ∀ c', c' < 8 → FOK I (sR S) b c' e) (df : DF I (CF I (sR S) b c e) cl B) (sr : SRc (sR S) b e I J A F φ) (lt : LTc (sR S) b e I J A F φ cm) : BFC S b (px (sR S) b y) c e cl F A J φ cm I (f_X7_bringFrames (f_X7_bringNotes I (sR S) b (px (sR S) b y) c e) (sR S) b (px (sR S) b y) c e) := by
  have nf : NFm S (px (sR S) b y) I (f_X7_bringNotes I (sR S) b (px (sR S) b y) c e) := nf_notes hL (k_px hL hy) hc he 8 0 I NFm.rf
  generalize f_X7_bringNotes I (sR S) b (px (sR S) b y) c e = I2 at nf ⊢
  have kp := k_px hL hy
  have kq : sK S ((sR S (px (sR S) b y) 1).getD 0) = 7 := k_qx hL hy
  have o : ∀ z k, sK S z = k → k ≠ 4 → k ≠ 6 → k ≠ 7 → I2 z = I z := fun z k hz h4 h6 h7 => nf.1 z (by rw [hz]; exact h4) (ne_k hz kp h6) (ne_k hz kq h7)
  have l45 : ∀ c', c' < 8 → I2 (Ln (sR S) b c' e) 4 = I (Ln (sR S) b c' e) 4 ∧ I2 (Ln (sR S) b c' e) 5 = I (Ln (sR S) b c' e) 5 := fun c' hc' => ⟨nf.2 _ (ly_N hL hc' he).2.1 4 (by decide) (by decide), nf.2 _ (ly_N hL hc' he).2.1 5 (by decide) (by decide)⟩
  have r3 : ∀ z, sK S z = 3 → I2 z = I z := fun z hz => o z 3 hz (by decide) (by decide) (by decide)
  have ow : I2 (ox (sR S) b y) = I (ox (sR S) b y) := nf.1 _ (by rw [k_ox hL hy]; decide) (d_op hL hO hy hy) (d_oq hL hO hy hy)
  have cf2 : ∀ c', c' < 8 → CF I2 (sR S) b c' e = CF I (sR S) b c' e := fun c' hc' => CF_e (l45 c' hc').1 (l45 c' hc').2
  have kz : ∀ c', c' < 8 → ∀ z ∈ CF I (sR S) b c' e, sK S z = 3 := fun c' hc' => CF_k hL hc' he (fok c' hc')
  have rb : I2 b = I b := o b 8 hL.2 (by decide) (by decide) (by decide)
  have n5 : (I2 (Ln (sR S) b c e) 5).toNatClampNeg < 201 := by
    obtain ⟨_, ⟨n, hn, en⟩, _⟩ := fok c hc
    rw [(l45 c hc).2, en, nI_cl (by omega)]
    exact hn
  have E : f_X7_bringFrames I2 (sR S) b (px (sR S) b y) c e = g_X7_bringFrames_3 (sR S) b (px (sR S) b y) c e 200 0 I2 := rfl
  rw [E]
  have q := bfx (p := px (sR S) b y) (B := B) (φ := φ) hL hO hc he (k_ox hL hy) hB hcl hF 200 0 I2 cm (by rw [rb]; exact vb) (fun c' hc' => FOK_e (l45 c' hc').1 (l45 c' hc').2 (fok c' hc')) (by omega) (by
    rw [cf2 c hc]
    exact DF_e df (fun z hz => by rw [r3 z (kz c hc z hz)])) (fun c' hc' z hz => by
    rw [cf2 c' hc'] at hz
    exact SRz_e (sr c' hc' z hz) (fun j _ => by rw [r3 z (kz c' hc' z hz)])) (fun c' hc' z hz => by
    rw [cf2 c' hc'] at hz
    rw [r3 z (kz c' hc' z hz)]
    exact lt c' hc' z hz)
  have du : dUe I2 (sR S) b c e cl φ = dUe I (sR S) b c e cl φ := by
    unfold dUe
    rw [cf2 c hc, List.filter_congr (q := dueB I cl) (fun z hz => by unfold dueB; rw [r3 z (kz c hc z hz)])]
  have hs : f_X6_has I2 ((sR S (px (sR S) b y) 0).getD 0) (nI 16) = f_X6_has I ((sR S (px (sR S) b y) 0).getD 0) (nI 16) := by
    have ow' : I2 ((sR S (px (sR S) b y) 0).getD 0) = I ((sR S (px (sR S) b y) 0).getD 0) := ow
    unfold f_X6_has
    rw [ow']
  obtain ⟨q1, q2, q3, q4⟩ := q
  rw [hs, du, rb] at q1 q2
  rw [hs, du] at q3
  exact ⟨q1, q2, q3, fun z hz hn => (q4 z hz (fun c' hc' hm => hn c' hc' (by rw [← cf2 c' hc']; exact hm))).trans (by rw [r3 z hz])⟩
theorem lfc_J {J J' : Mm} {A : Nat → Nat} {F : Nat} (k : ∀ k, (k = 33 ∨ k = 34 ∨ k = 35 ∨ k = 37) → J' (A k) = J (A k)) : ∀ (L : List Nat) (cm : Nat → Int32), lfc J' A F cm L = lfc J A F cm L := by
  intro L
  induction L with
  | nil => intro cm; rfl
  | cons f L ih =>
    intro cm
    rw [lfc, lfc, ih, LAb_c k (fun _ _ => Iff.rfl)]
theorem dIx_e {m c e y nt : Nat} {A : Nat → Nat} {J J' : Mm} (h : ST m A J J') : dIx J' m A c e y nt = dIx J m A c e y nt ∧ dNo J' m A c e y nt = dNo J m A c e y nt := by
  have k : ∀ k, k ∈ ([9, 27, 28, 29, 30] : List Nat) → J' (A k) = J (A k) := fun k hk => by
    have : ∀ k ∈ ([9, 27, 28, 29, 30] : List Nat), dm k ∧ k ≠ 7 ∧ k ≠ 8 ∧ k ≠ 14 ∧ k ≠ 15 ∧ k ≠ 17 ∧ k ≠ 18 ∧ k ≠ 38 ∧ k ≠ 41 ∧ k ≠ 42 := by decide
    obtain ⟨a, b1, b2, b3, b4, b5, b6, b7, b8, b9⟩ := this k hk
    exact funext (fun j => h.1 k j a b1 b2 b3 b4 b5 b6 b7 b8 b9)
  have j43 : J' m 43 = J m 43 := h.2 43 (by decide) (by decide)
  have df : ∀ t, dFb J' m A c e t = dFb J m A c e t := fun t => by
    unfold dFb
    rw [k 27 (by decide), k 28 (by decide), k 29 (by decide), k 30 (by decide), j43]
  have df' : dFb J' m A c e = dFb J m A c e := funext df
  unfold dIx dNo
  rw [df', k 9 (by decide), k 30 (by decide)]
  exact ⟨rfl, rfl⟩
/-- dropped, overtaken and the marks on both sides, while frames come -/
def PXx (S : MM) (b m F : Nat) (A : Nat → Nat) (J0 : Mm) (φ : Nat → Nat) (I J : Mm) : Prop := I b 4 = J m 45 ∧ I b 8 = J m 49 ∧ ∀ e, e < 2 → LTc (sR S) b e I J0 A F φ (J (A 38))
theorem px_up {S : MM} {b m cl N nt nf : Nat} {A Bc : Nat → Nat} {I0 J0 : Mm} {φ : Nat → Nat} (hL : LY S b) (hO : OC S) (hA : AD m A) (hB : ∀ c, c < 8 → Bc c < 2 ^ 31) (hcl : cl < 2 ^ 31) (hnt : nt ≤ 4000) (hN : N ≤ 4000) (hF : nf < 4200) (s27 : ∀ t, t < nt → ∃ k, k < 8 ∧ J0 (A 27) t = nI k) (s28 : ∀ t, t < nt → ∃ e, e < 2 ∧ J0 (A 28) t = nI e) (fE : ∀ t, t < nt → ¬ J0 (A 30) t = -1 → J0 (A 33) (J0 (A 30) t).toNatClampNeg = J0 (A 28) t) (fk : ∀ c e, c < 8 → e < 2 → FOK I0 (sR S) b c e ∧ DF I0 (CF I0 (sR S) b c e) cl (Bc c)) (sr0 : ∀ e, e < 2 → SRc (sR S) b e I0 J0 A nf φ) {i : Nat} {I J : Mm} {y : Nat → Nat} (w : Int32) (hi : i < 8) (hy : ∀ e, e < 2 → y e < 16 ∧ y e / 8 = 1 - e) (rp : ∀ e, e < 2 → (sR S (ppd (sR S) b i) (1 - e)).getD 0 = px (sR S) b (y e)) (pa : ∀ e, e < 2 → 8 * (1 - e) + (J0 (A 22) (2 * i + (1 - e))).toNatClampNeg = y e) (hd : ∀ e, e < 2 → dLc I0 (sR S) b (px (sR S) b (y e)) i e cl = dLs J0 m A i e (y e) nt) (hu : ∀ e, e < 2 → dUe I0 (sR S) b i e cl φ = ((List.range nt).filter (dFb J0 m A i e)).map (fun t => (J0 (A 30) t).toNatClampNeg)) (col : ∀ e, e < 2 → ((f_X6_has I0 (ox (sR S) b (y e)) (nI 16) = 0) ↔ ¬ nI 3 ≤ J0 (A 9) (y e))) (h : PF S b m cl N A I0 J0 i I J) (hx : PXx S b m nf A J0 φ I J) : PXx S b m nf A J0 φ (g_X7_bringAll_31 (sR S) b 2 0 i I) (g_X8_comes_45 m A nt nf nt 0 i J w).1 := by
  have PFn := pf_up (nf := nf) hL hO hA hB hcl hnt hN s27 s28 fk w hi hy rp pa hd h
  obtain ⟨h1, h2, h3, h4, h5, h6⟩ := h
  obtain ⟨x4, x8, xl⟩ := hx
  obtain ⟨t0, c0, m0, n0⟩ := h6 0 (by decide)
  obtain ⟨t1, c1, m1, n1⟩ := h6 1 (by decide)
  have E : g_X7_bringAll_31 (sR S) b 2 0 i I = f_X7_bringFrames (f_X7_bringNotes (f_X7_bringFrames (f_X7_bringNotes I (sR S) b (px (sR S) b (y 0)) i 0) (sR S) b (px (sR S) b (y 0)) i 0) (sR S) b (px (sR S) b (y 1)) i 1) (sR S) b (px (sR S) b (y 1)) i 1 := by
    rw [← rp 0 (by decide), ← rp 1 (by decide)]
    rfl
  rw [E] at PFn ⊢
  have kJ : ∀ k, (k = 33 ∨ k = 34 ∨ k = 35 ∨ k = 37) → J (A k) = J0 (A k) := fun k hk => funext (fun j => h5.1 k j (by omega) (by omega) (by omega) (by omega) (by omega) (by omega) (by omega) (by omega) (by omega) (by omega))
  have ref := g45X (m := m) (nt := nt) (nf := nf) (c := i) (J := J) (y := y) hA hi (fun t ht => by rw [st_k h5 (by decide)]; exact s27 t ht) (fun t ht => by rw [st_k h5 (by decide)]; exact s28 t ht) (fun e he => by rw [st_k h5 (by decide)]; exact pa e he) (fun t ht => by rw [kJ 33 (by omega), show J (A 30) t = J0 (A 30) t from st_k h5 (by decide), show J (A 28) t = J0 (A 28) t from st_k h5 (by decide)]; exact fE t ht) nt 0 J w (by omega) ST.rf (fun e he g _ => by
    have : dIx J m A i e (y e) 0 = [] := by unfold dIx; split <;> rfl
    rw [this]
    rfl) (by
    have q : ∀ e, dIx J m A i e (y e) 0 = [] := fun e => by unfold dIx; split <;> rfl
    rw [q, q]
    exact (i_add0 _).symm) (by
    have q : ∀ e, dNo J m A i e (y e) 0 = 0 := fun e => by unfold dNo; split <;> rfl
    rw [q, q]
    exact (i_add0 _).symm)
  obtain ⟨r1, r2, r3⟩ := ref
  generalize (g_X8_comes_45 m A nt nf nt 0 i J w).1 = J' at PFn r1 r2 r3 ⊢
  rw [lfc_J kJ, lfc_J kJ, (dIx_e h5).1, (dIx_e h5).1] at r2
  rw [(dIx_e h5).2, (dIx_e h5).2] at r3
  -- the lanes before
  have fokI : ∀ c e, c < 8 → e < 2 → FOK I (sR S) b c e := fun c e hc he => by
    by_cases q : i ≤ c
    · exact FOK_e ((h2 c e hc he).1 q).1 ((h2 c e hc he).1 q).2 (fk c e hc he).1
    · exact ((h2 c e hc he).2 (by omega)).2
  have subI : ∀ c e, c < 8 → e < 2 → ∀ z ∈ CF I (sR S) b c e, z ∈ CF I0 (sR S) b c e := fun c e hc he z hz => by
    by_cases q : i ≤ c
    · rw [CF_e ((h2 c e hc he).1 q).1 ((h2 c e hc he).1 q).2] at hz; exact hz
    · rw [((h2 c e hc he).2 (by omega)).1] at hz; exact (List.mem_filter.mp hz).1
  have kz0 : ∀ c e, c < 8 → e < 2 → ∀ z ∈ CF I0 (sR S) b c e, sK S z = 3 := fun c e hc he => CF_k hL hc he (fk c e hc he).1
  have fkI : ∀ e, e < 2 → I (Ln (sR S) b i e) 4 = I0 (Ln (sR S) b i e) 4 ∧ I (Ln (sR S) b i e) 5 = I0 (Ln (sR S) b i e) 5 := fun e he => (h2 i e hi he).1 (Nat.le_refl i)
  have df0 : ∀ e, e < 2 → DF I (CF I (sR S) b i e) cl (Bc i) := fun e he => by
    rw [CF_e (fkI e he).1 (fkI e he).2]
    exact DF_e (fk i e hi he).2 (fun z hz => h1 z 3 (kz0 i e hi he z hz) (by decide))
  have srI : ∀ e, e < 2 → SRc (sR S) b e I J0 A nf φ := fun e he c hc z hz => SRz_e (sr0 e he c hc z (subI c e hc he z hz)) (fun j hj => h1 z j (kz0 c e hc he z (subI c e hc he z hz)) hj)
  have duI0 : ∀ e, e < 2 → dUe I (sR S) b i e cl φ = dUe I0 (sR S) b i e cl φ := fun e he => by
    unfold dUe
    rw [CF_e (fkI e he).1 (fkI e he).2, List.filter_congr (q := dueB I0 cl) (fun z hz => by unfold dueB; rw [h1 z 3 (kz0 i e hi he z hz) (by decide)])]
  -- lane 0, then lane 1
  have B0 := lane_x (y := y 0) (B := Bc i) (cm := J (A 38)) hL hO hi (show 0 < 2 by decide) (hy 0 (by decide)).1 (hB i hi) hcl hF h4 (fun c hc => fokI c 0 hc (by decide)) (df0 0 (by decide)) (srI 0 (by decide)) (xl 0 (by decide))
  obtain ⟨p1, p2, p3, p4⟩ := lane_f (y := y 0) hL hO hi (show 0 < 2 by decide) (hy 0 (by decide)).1 (hB i hi) hcl h4 (fokI i 0 hi (by decide)) (df0 0 (by decide)) c1 (by omega)
  generalize f_X7_bringFrames (f_X7_bringNotes I (sR S) b (px (sR S) b (y 0)) i 0) (sR S) b (px (sR S) b (y 0)) i 0 = I4 at B0 p1 p2 p3 p4 PFn ⊢
  have l4 : ∀ c e, c < 8 → e < 2 → ¬ (c = i ∧ e = 0) → I4 (Ln (sR S) b c e) 4 = I (Ln (sR S) b c e) 4 ∧ I4 (Ln (sR S) b c e) 5 = I (Ln (sR S) b c e) 5 := fun c e hc he n => p4.2.1 c e hc he n
  have cf4 : ∀ c, c < 8 → CF I4 (sR S) b c 1 = CF I (sR S) b c 1 := fun c hc => CF_e (l4 c 1 hc (by decide) (by omega)).1 (l4 c 1 hc (by decide) (by omega)).2
  have fok4 : ∀ c, c < 8 → FOK I4 (sR S) b c 1 := fun c hc => FOK_e (l4 c 1 hc (by decide) (by omega)).1 (l4 c 1 hc (by decide) (by omega)).2 (fokI c 1 hc (by decide))
  have df4 : DF I4 (CF I4 (sR S) b i 1) cl (Bc i) := by
    rw [cf4 i hi]
    exact DF_e (df0 1 (by decide)) (fun z hz => p4.1 z 3 (kz0 i 1 hi (by decide) z (subI i 1 hi (by decide) z hz)) (by decide))
  have f46 : ∀ c, c < 8 → ∀ z ∈ CF I (sR S) b c 1, I4 z 6 = I z 6 := fun c hc z hz => B0.2.2.2 z (kz0 c 1 hc (by decide) z (subI c 1 hc (by decide) z hz)) (fun c' hc' hm => absurd (cf_dj hL hO hc (show 1 < 2 by decide) hc' (show 0 < 2 by decide) (fokI c 1 hc (by decide)) (fokI c' 0 hc' (by decide)) hz hm).2 (by decide))
  have B1 := lane_x (y := y 1) (B := Bc i) (φ := φ) (J := J0) (A := A) (F := nf) (cm := J (A 38)) hL hO hi (show 1 < 2 by decide) (hy 1 (by decide)).1 (hB i hi) hcl hF (p4.2.2.2.1.trans h4) fok4 df4 (fun c hc z hz => by
    rw [cf4 c hc] at hz
    exact SRz_e (srI 1 (by decide) c hc z hz) (fun j hj => p4.1 z j (kz0 c 1 hc (by decide) z (subI c 1 hc (by decide) z hz)) hj)) (fun c hc z hz => by
    rw [cf4 c hc] at hz
    rw [f46 c hc z hz]
    exact xl 1 (by decide) c hc z hz)
  obtain ⟨q1, q2, q3, q4⟩ := lane_f (y := y 1) hL hO hi (show 1 < 2 by decide) (hy 1 (by decide)).1 (hB i hi) hcl (p4.2.2.2.1.trans h4) (fok4 i hi) df4 (p4.2.2.1 t0 c0) (by omega)
  have du4 : dUe I4 (sR S) b i 1 cl φ = dUe I (sR S) b i 1 cl φ := by
    unfold dUe
    rw [cf4 i hi, List.filter_congr (q := dueB I cl) (fun z hz => by unfold dueB; rw [p4.1 z 3 (kz0 i 1 hi (by decide) z (subI i 1 hi (by decide) z hz)) (by decide)])]
  generalize f_X7_bringFrames (f_X7_bringNotes I4 (sR S) b (px (sR S) b (y 1)) i 1) (sR S) b (px (sR S) b (y 1)) i 1 = I8 at B1 q1 q2 q3 q4 PFn ⊢
  have hs0 : f_X6_has I ((sR S (px (sR S) b (y 0)) 0).getD 0) (nI 16) = f_X6_has I0 (ox (sR S) b (y 0)) (nI 16) := by
    have o : I ((sR S (px (sR S) b (y 0)) 0).getD 0) = I0 (ox (sR S) b (y 0)) := h3 (y 0) (hy 0 (by decide)).1
    unfold f_X6_has
    rw [o]
  have hs1 : f_X6_has I4 ((sR S (px (sR S) b (y 1)) 0).getD 0) (nI 16) = f_X6_has I0 (ox (sR S) b (y 1)) (nI 16) := by
    have o : I4 ((sR S (px (sR S) b (y 1)) 0).getD 0) = I0 (ox (sR S) b (y 1)) := (p4.2.2.2.2 (y 1) (hy 1 (by decide)).1).trans (h3 (y 1) (hy 1 (by decide)).1)
    unfold f_X6_has
    rw [o]
  -- what both count
  have dN : ∀ e, e < 2 → (if f_X6_has I0 (ox (sR S) b (y e)) (nI 16) = 0 then (dUe I0 (sR S) b i e cl φ).length else 0) = dNo J0 m A i e (y e) nt := fun e he => by
    unfold dNo
    by_cases q : nI 3 ≤ J0 (A 9) (y e)
    · rw [if_neg (fun z => (col e he).mp z q), if_pos q]
    · rw [if_pos ((col e he).mpr q), if_neg q, hu e he, List.length_map]
  have dL : ∀ e, e < 2 → ∀ cm, (if f_X6_has I0 (ox (sR S) b (y e)) (nI 16) = 0 then 0 else lfc J0 A nf cm (dUe I0 (sR S) b i e cl φ)) = lfc J0 A nf cm (dIx J0 m A i e (y e) nt) := fun e he cm => by
    unfold dIx
    by_cases q : nI 3 ≤ J0 (A 9) (y e)
    · rw [if_neg (fun z => (col e he).mp z q), if_pos q, hu e he]
    · rw [if_pos ((col e he).mpr q), if_neg q]; rfl
  have dF : ∀ e, e < 2 → ∀ cm, (if f_X6_has I0 (ox (sR S) b (y e)) (nI 16) = 0 then cm else lff cm (dUe I0 (sR S) b i e cl φ)) = lff cm (dIx J0 m A i e (y e) nt) := fun e he cm => by
    unfold dIx
    by_cases q : nI 3 ≤ J0 (A 9) (y e)
    · rw [if_neg (fun z => (col e he).mp z q), if_pos q, hu e he]
    · rw [if_pos ((col e he).mpr q), if_neg q]; rfl
  obtain ⟨u1, u2, u3, u4⟩ := B0
  obtain ⟨v1, v2, v3, v4⟩ := B1
  rw [hs0, duI0 0 (by decide), dN 0 (by decide)] at u1
  rw [hs0, duI0 0 (by decide), dL 0 (by decide)] at u2
  rw [hs0, duI0 0 (by decide), dF 0 (by decide)] at u3
  rw [hs1, du4, duI0 1 (by decide), dN 1 (by decide), u1, i_nn, x4] at v1
  rw [hs1, du4, duI0 1 (by decide), dL 1 (by decide), u2, i_nn, x8] at v2
  rw [hs1, du4, duI0 1 (by decide), dF 1 (by decide)] at v3
  refine ⟨v1.trans r3.symm, v2.trans r2.symm, fun e he c hc z hz => ?_⟩
  have sub8 : z ∈ CF I0 (sR S) b c e := by
    by_cases q : i + 1 ≤ c
    · rw [CF_e ((PFn.2.1 c e hc he).1 q).1 ((PFn.2.1 c e hc he).1 q).2] at hz; exact hz
    · rw [((PFn.2.1 c e hc he).2 (by omega)).1] at hz; exact (List.mem_filter.mp hz).1
  have sz := sr0 e he c hc z sub8
  have cong : LAt J0 A nf (J' (A 38)) (φ z) ↔ LAt J0 A nf (lff (J (A 38)) (dIx J0 m A i e (y e) nt)) (φ z) := by
    unfold LAt
    rw [LAb_c (J := J0) (J' := J0) (cm := lff (J (A 38)) (dIx J0 m A i e (y e) nt)) (fun _ _ => rfl) (fun g hg => by rw [r1 e he g (by rw [kJ 33 (by omega)]; exact hg.1.trans sz.2.1), (dIx_e h5).1])]
  rw [cong]
  have e01 : e = 0 ∨ e = 1 := by omega
  rcases e01 with rfl | rfl
  · have l8 := q4.2.1 c 0 hc (by decide) (by omega)
    rw [CF_e l8.1 l8.2] at hz
    have f0 : FOK I4 (sR S) b c 0 := by
      by_cases q : c = i
      · subst q; exact p2
      · have l := l4 c 0 hc (by decide) (fun y => q y.1)
        exact FOK_e l.1 l.2 (fokI c 0 hc (by decide))
    rw [v4 z (kz0 c 0 hc (by decide) z sub8) (fun c' hc' hm => absurd (cf_dj hL hO hc (show 0 < 2 by decide) hc' (show 1 < 2 by decide) f0 (fok4 c' hc') hz hm).2 (by decide))]
    exact u3 c hc z hz
  · exact v3 c hc z hz
theorem px_step {S : MM} {b m cl N nt nf : Nat} {A Bc : Nat → Nat} {I0 J0 : Mm} {φ : Nat → Nat} (hL : LY S b) (hO : OC S) (hA : AD m A) (hB : ∀ c, c < 8 → Bc c < 2 ^ 31) (hcl : cl < 2 ^ 31) (hnt : nt ≤ 4000) (hN : N ≤ 4000) (hF : nf < 4200) (m43 : J0 m 43 = nI cl) (s27 : ∀ t, t < nt → ∃ k, k < 8 ∧ J0 (A 27) t = nI k) (s28 : ∀ t, t < nt → ∃ e, e < 2 ∧ J0 (A 28) t = nI e) (s22 : ∀ t, ∃ p, p < 8 ∧ J0 (A 22) t = nI p) (fE : ∀ t, t < nt → ¬ J0 (A 30) t = -1 → J0 (A 33) (J0 (A 30) t).toNatClampNeg = J0 (A 28) t) (fl : FLr (sR S) b I0 J0 A nt) (ph : PHl (sR S) b I0 J0 A nt φ) (fk : ∀ c e, c < 8 → e < 2 → FOK I0 (sR S) b c e ∧ DF I0 (CF I0 (sR S) b c e) cl (Bc c)) (sr0 : ∀ e, e < 2 → SRc (sR S) b e I0 J0 A nf φ) (rp : ∀ x, x < 16 → RP (sR S) b I0 J0 A x) (cx : ∀ c, c < 8 → DCb (sR S) b I0 J0 A nt c ∨ ∃ y, UCb (sR S) b I0 J0 A c y) {i : Nat} {I J : Mm} (w : Int32) (hi : i < 8) (eC : I (Cb (sR S) b i) = I0 (Cb (sR S) b i)) (h : PF S b m cl N A I0 J0 i I J) (hx : PXx S b m nf A J0 φ I J) : PXx S b m nf A J0 φ (bcE (sR S) b i I) (g_X8_comes_45 m A nt nf nt 0 i J w).1 := by
  rcases cx i hi with ⟨dn, no⟩ | ⟨y, up, pl, hy, hyd, rpp, pa, lit⟩
  · have h5 := h.2.2.2.2.1
    have E : bcE (sR S) b i I = I := by
      unfold bcE
      rw [eC]
      rcases dn with d | d
      · rw [if_pos d]
      · rw [if_neg d, ite_self]
    have E2 : g_X8_comes_45 m A nt nf nt 0 i J w = (J, w) := g45_no nt 0 (by omega) (fun t ht z => by
      obtain ⟨k, hk, ek⟩ := s27 t ht
      rw [st_k h5 (by decide), ek, nI_cl (by omega)] at z
      subst z
      exact no t ht ek)
    rw [E, E2]
    exact hx
  · have E : bcE (sR S) b i I = g_X7_bringAll_31 (sR S) b 2 0 i I := by
      unfold bcE
      rw [eC, if_neg up, if_pos pl]
    rw [E]
    exact px_up hL hO hA hB hcl hnt hN hF s27 s28 fE fk sr0 w hi (fun e he => ⟨hy e he, by
      obtain ⟨p, hp, ep⟩ := s22 (2 * i + (1 - e))
      have := pa e he
      rw [ep, nI_cl (by omega)] at this
      omega⟩) rpp pa (fun e he => dd_eq (fl i e hi he) (rp (y e) (hy e he)) m43) (fun e he => duI (fl i e hi he) (ph i e hi he) m43) (fun e he => col_r (rp (y e) (hy e he))) h hx
theorem px_all {S : MM} {b m cl N nt nf : Nat} {A Bc : Nat → Nat} {I0 J0 : Mm} {φ : Nat → Nat} (hL : LY S b) (hO : OC S) (hA : AD m A) (hB : ∀ c, c < 8 → Bc c < 2 ^ 31) (hcl : cl < 2 ^ 31) (hnt : nt ≤ 4000) (hN : N ≤ 4000) (hF : nf < 4200) (m43 : J0 m 43 = nI cl) (s27 : ∀ t, t < nt → ∃ k, k < 8 ∧ J0 (A 27) t = nI k) (s28 : ∀ t, t < nt → ∃ e, e < 2 ∧ J0 (A 28) t = nI e) (s22 : ∀ t, ∃ p, p < 8 ∧ J0 (A 22) t = nI p) (fE : ∀ t, t < nt → ¬ J0 (A 30) t = -1 → J0 (A 33) (J0 (A 30) t).toNatClampNeg = J0 (A 28) t) (fl : FLr (sR S) b I0 J0 A nt) (ph : PHl (sR S) b I0 J0 A nt φ) (fk : ∀ c e, c < 8 → e < 2 → FOK I0 (sR S) b c e ∧ DF I0 (CF I0 (sR S) b c e) cl (Bc c)) (sr0 : ∀ e, e < 2 → SRc (sR S) b e I0 J0 A nf φ) (rp : ∀ x, x < 16 → RP (sR S) b I0 J0 A x) (cx : ∀ c, c < 8 → DCb (sR S) b I0 J0 A nt c ∨ ∃ y, UCb (sR S) b I0 J0 A c y) : ∀ (r i : Nat) (I J : Mm) (w : Int32), i + r = 8 → (∀ c, c < 8 → I (Cb (sR S) b c) = I0 (Cb (sR S) b c)) → PF S b m cl N A I0 J0 i I J → PXx S b m nf A J0 φ I J → PXx S b m nf A J0 φ (g_X7_bringAll_2 (sR S) b r i I) (g_X8_comes_37 m A nt nf r i J w).1 := by
  intro r
  induction r with
  | zero =>
    intro i I J w hi _ _ h
    exact h
  | succ r ih =>
    intro i I J w hi eC h hx
    rw [bc_s, g_X8_comes_37]
    have hi8 : i < 8 := by omega
    refine ih (i + 1) _ _ _ (by omega) (fun c hc => ?_) (pf_step hL hO hA hB hcl hnt hN m43 s27 s28 s22 fl fk rp cx w hi8 (eC i hi8) h) (px_step hL hO hA hB hcl hnt hN hF m43 s27 s28 s22 fE fl ph fk sr0 rp cx w hi8 (eC i hi8) h hx)
    rw [← eC c hc]
    unfold bcE
    split
    · rfl
    · split
      · rename_i pl
        exact f2_cable hL hi8 pl 2 0 I rfl FO2.rf _ (by rw [wk_17 (ly_C hL hc).2.1 (by decide)]; rfl)
      · rfl
