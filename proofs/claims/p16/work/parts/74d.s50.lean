/-! SIMULATION 50: frames that come: a lane, a cable, all of them -/
def NFm (S : MM) (p : Nat) (I I' : Mm) : Prop := (∀ z, sK S z ≠ 4 → z ≠ p → z ≠ (sR S p 1).getD 0 → I' z = I z) ∧ ∀ z, sK S z = 4 → ∀ k, k ≠ 1 → k ≠ 2 → I' z k = I z k
theorem NFm.rf {S : MM} {p : Nat} {I : Mm} : NFm S p I I := ⟨fun _ _ _ _ => rfl, fun _ _ _ _ _ => rfl⟩
theorem nf_take {S : MM} {b p c e : Nat} {I0 I : Mm} {v : Int32} (hL : LY S b) (hc : c < 8) (he : e < 2) (h : NFm S p I0 I) : NFm S p I0 (f_X3_takeDueNote I (sR S) b c e v).1 := by
  have k := (ly_N hL hc he).2.1
  have w : ∀ (I' : Mm) (j : Nat) (u : Int32), (j = 1 ∨ j = 2) → NFm S p I0 I' → NFm S p I0 (up2 I' (Ln (sR S) b c e) j u) := fun I' j u hj g => ⟨fun z h1 h2 h3 => by rw [up2_row (fun y => h1 (by rw [y]; exact k))]; exact g.1 z h1 h2 h3, fun z h1 k' h2 h3 => by rw [up2_ne (fun y => by obtain ⟨_, y2⟩ := y; omega)]; exact g.2 z h1 k' h2 h3⟩
  unfold f_X3_takeDueNote
  repeat' split
  all_goals first | exact h | exact w _ 2 _ (Or.inr rfl) (w _ 1 _ (Or.inl rfl) h)
theorem nf_notes {S : MM} {b p c e : Nat} {I0 : Mm} (hL : LY S b) (kp : sK S p = 6) (hc : c < 8) (he : e < 2) : ∀ r i (I : Mm), NFm S p I0 I → NFm S p I0 (g_X7_bringNotes_2 (sR S) b p c e r i I) := by
  have kq : sK S ((sR S p 1).getD 0) = 7 := (ly_f hL.1 kp (show rf 6 1 = some (7, 0) from rfl)).2.1
  intro r
  induction r with
  | zero => intro i I h; exact h
  | succ r ih =>
    intro i I h
    have ht := nf_take (v := I b 2) hL hc he h
    rw [g_X7_bringNotes_2]
    dsimp only
    split
    · exact ht
    · refine ih _ _ ⟨fun z h1 h2 h3 => ?_, fun z h1 k h2 h3 => ?_⟩
      · rw [n_X5_hear h3 h2]
        exact ht.1 z h1 h2 h3
      · rw [n_X5_hear (ne_k h1 kq (by decide)) (ne_k h1 kp (by decide))]
        exact ht.2 z h1 k h2 h3
/-- what a lane leaves as it was -/
def LX (S : MM) (b c e : Nat) (I I' : Mm) : Prop := (∀ z j, sK S z = 3 → j ≠ 6 → I' z j = I z j) ∧ (∀ c' e', c' < 8 → e' < 2 → ¬ (c' = c ∧ e' = e) → I' (Ln (sR S) b c' e') 4 = I (Ln (sR S) b c' e') 4 ∧ I' (Ln (sR S) b c' e') 5 = I (Ln (sR S) b c' e') 5) ∧ (∀ s, EKc I (sR S) b e s → EKc I' (sR S) b e s) ∧ I' b 2 = I b 2 ∧ ∀ x, x < 16 → I' (ox (sR S) b x) = I (ox (sR S) b x)
theorem dLc_e {S : MM} {b c e cl y : Nat} {I I' : Mm} (hL : LY S b) (hc : c < 8) (he : e < 2) (fok : FOK I (sR S) b c e) (h4 : I' (Ln (sR S) b c e) 4 = I (Ln (sR S) b c e) 4) (h5 : I' (Ln (sR S) b c e) 5 = I (Ln (sR S) b c e) 5) (hr : ∀ z j, sK S z = 3 → j ≠ 6 → I' z j = I z j) (ho : I' (ox (sR S) b y) = I (ox (sR S) b y)) : dLc I' (sR S) b (px (sR S) b y) c e cl = dLc I (sR S) b (px (sR S) b y) c e cl ∧ (CF I' (sR S) b c e).filter (fun z => !(dueB I' cl z)) = (CF I (sR S) b c e).filter (fun z => !(dueB I cl z)) := by
  have ho' : I' ((sR S (px (sR S) b y) 0).getD 0) = I ((sR S (px (sR S) b y) 0).getD 0) := ho
  have kz := CF_k hL hc he fok
  have fe : ∀ z ∈ CF I (sR S) b c e, dueB I' cl z = dueB I cl z := fun z hz => by unfold dueB; rw [hr z 3 (kz z hz) (by decide)]
  have hh : f_X6_has I' ((sR S (px (sR S) b y) 0).getD 0) (nI 16) = f_X6_has I ((sR S (px (sR S) b y) 0).getD 0) (nI 16) := by unfold f_X6_has; rw [ho']
  constructor
  · unfold dLc
    rw [hh, CF_e h4 h5, List.filter_congr (fun z hz => fe z hz)]
    split
    · rfl
    · refine List.map_congr_left (fun z hz => ?_)
      have hz' := (List.mem_filter.mp hz).1
      unfold dEc
      rw [ho', hr z 0 (kz z hz') (by decide), hr z 1 (kz z hz') (by decide)]
  · rw [CF_e h4 h5]
    exact List.filter_congr (fun z hz => by rw [fe z hz])
theorem CF_len {I : Mm} {R : Nat → Nat → Option Nat} {b c e : Nat} (h : FOK I R b c e) : (CF I R b c e).length < 201 := by
  obtain ⟨_, ⟨n, hn, en⟩, _⟩ := h
  unfold CF
  rw [List.length_map, List.length_range, en, nI_cl (by omega)]
  exact hn
theorem lane_f {S : MM} {b c e y cl B : Nat} {I : Mm} {s : EK} (hL : LY S b) (hO : OC S) (hc : c < 8) (he : e < 2) (hy : y < 16) (hB : B < 2 ^ 31) (hcl : cl < 2 ^ 31) (vb : I b 2 = nI cl) (fok : FOK I (sR S) b c e) (df : DF I (CF I (sR S) b c e) cl B) (ek : EKc I (sR S) b (1 - e) s) (hs : s.1 < 1000000000) : CF (f_X7_bringFrames (f_X7_bringNotes I (sR S) b (px (sR S) b y) c e) (sR S) b (px (sR S) b y) c e) (sR S) b c e = (CF I (sR S) b c e).filter (fun z => !(dueB I cl z)) ∧ FOK (f_X7_bringFrames (f_X7_bringNotes I (sR S) b (px (sR S) b y) c e) (sR S) b (px (sR S) b y) c e) (sR S) b c e ∧ EKc (f_X7_bringFrames (f_X7_bringNotes I (sR S) b (px (sR S) b y) c e) (sR S) b (px (sR S) b y) c e) (sR S) b (1 - e) ((dLc I (sR S) b (px (sR S) b y) c e cl).foldl kp s) ∧ LX S b c e I (f_X7_bringFrames (f_X7_bringNotes I (sR S) b (px (sR S) b y) c e) (sR S) b (px (sR S) b y) c e) := by
  have nf : NFm S (px (sR S) b y) I (f_X7_bringNotes I (sR S) b (px (sR S) b y) c e) := nf_notes hL (k_px hL hy) hc he 8 0 I NFm.rf
  have he1 : 1 - e < 2 := by omega
  generalize f_X7_bringNotes I (sR S) b (px (sR S) b y) c e = I2 at nf ⊢
  have kp := k_px hL hy
  have kq : sK S ((sR S (px (sR S) b y) 1).getD 0) = 7 := k_qx hL hy
  have o : ∀ z k, sK S z = k → k ≠ 4 → k ≠ 6 → k ≠ 7 → I2 z = I z := fun z k hz h4 h6 h7 => nf.1 z (by rw [hz]; exact h4) (ne_k hz kp h6) (ne_k hz kq h7)
  have l45 : ∀ c' e', c' < 8 → e' < 2 → I2 (Ln (sR S) b c' e') 4 = I (Ln (sR S) b c' e') 4 ∧ I2 (Ln (sR S) b c' e') 5 = I (Ln (sR S) b c' e') 5 := fun c' e' hc' he' => ⟨nf.2 _ (ly_N hL hc' he').2.1 4 (by decide) (by decide), nf.2 _ (ly_N hL hc' he').2.1 5 (by decide) (by decide)⟩
  have r3 : ∀ z j, sK S z = 3 → j ≠ 6 → I2 z j = I z j := fun z j hz _ => by rw [o z 3 hz (by decide) (by decide) (by decide)]
  have ow : ∀ x, x < 16 → I2 (ox (sR S) b x) = I (ox (sR S) b x) := fun x hx => nf.1 _ (by rw [k_ox hL hx]; decide) (d_op hL hO hx hy) (d_oq hL hO hx hy)
  have ekE : ∀ e', e' < 2 → ∀ u, EKc I (sR S) b e' u → EKc I2 (sR S) b e' u := fun e' he' u hu => EKc_e hu (fun k _ => by rw [o _ 2 (ly_E hL he').2.1 (by decide) (by decide) (by decide)]) (o _ 10 (ly_ka hL he').2.1 (by decide) (by decide) (by decide))
  have fok2 : FOK I2 (sR S) b c e := FOK_e (l45 c e hc he).1 (l45 c e hc he).2 fok
  have cf2 : CF I2 (sR S) b c e = CF I (sR S) b c e := CF_e (l45 c e hc he).1 (l45 c e hc he).2
  have kz := CF_k hL hc he fok
  have df2 : DF I2 (CF I2 (sR S) b c e) cl B := by
    rw [cf2]
    exact DF_e df (fun z hz => r3 z 3 (kz z hz) (by decide))
  obtain ⟨d1, d2⟩ := dLc_e (cl := cl) (y := y) hL hc he fok (l45 c e hc he).1 (l45 c e hc he).2 r3 (ow y hy)
  have len := CF_len fok2
  have n5 : (I2 (Ln (sR S) b c e) 5).toNatClampNeg < 201 := by
    obtain ⟨_, ⟨n, hn, en⟩, _⟩ := fok2
    rw [en, nI_cl (by omega)]
    exact hn
  obtain ⟨q1, q2, q3, q4⟩ := bfr (p := px (sR S) b y) hL hO hc he (k_ox hL hy) hB hcl 200 0 I2 s ((o b 8 hL.2 (by decide) (by decide) (by decide) ▸ vb : I2 b 2 = nI cl)) fok2 (by omega) df2 (ekE _ he1 _ ek) (by omega)
  have E : f_X7_bringFrames I2 (sR S) b (px (sR S) b y) c e = g_X7_bringFrames_3 (sR S) b (px (sR S) b y) c e 200 0 I2 := rfl
  rw [E]
  refine ⟨q1.trans d2, q2, by rw [← d1]; exact q3, fun z j hz hj => (q4.1 z j hz hj).trans (r3 z j hz hj), fun c' e' hc' he' n => ⟨(q4.2.1 c' e' hc' he' n 4).trans (l45 c' e' hc' he').1, (q4.2.1 c' e' hc' he' n 5).trans (l45 c' e' hc' he').2⟩, fun u hu => EKc_e (ekE e he u hu) (fun k _ => q4.2.2.1 k) q4.2.2.2.1, q4.2.2.2.2.1.trans (by rw [o b 8 hL.2 (by decide) (by decide) (by decide)]), fun x hx => (q4.2.2.2.2.2 _ (k_ox hL hx)).trans (ow x hx)⟩
theorem g45_st {m nt nf c : Nat} {A : Nat → Nat} (hA : AD m A) : ∀ r i J' w, ST m A J' (g_X8_comes_45 m A nt nf r i c J' w).1 := by
  intro r
  induction r with
  | zero => intro i J' w; exact ST.rf
  | succ r ih =>
    intro i J' w
    rw [g_X8_comes_45]
    dsimp only
    split
    · split
      · split
        · exact (st_nc hA).tr (ih _ _ _)
        · exact (st_fc hA).tr (ih _ _ _)
      · exact ih _ _ _
    · exact ih _ _ _
theorem dLs_e {m c e y nt : Nat} {A : Nat → Nat} {J J' : Mm} (h : ST m A J J') : dLs J' m A c e y nt = dLs J m A c e y nt := by
  have k : ∀ k, k ∈ ([9, 27, 28, 29, 30, 35, 36] : List Nat) → J' (A k) = J (A k) := fun k hk => by
    have : ∀ k ∈ ([9, 27, 28, 29, 30, 35, 36] : List Nat), dm k ∧ k ≠ 7 ∧ k ≠ 8 ∧ k ≠ 14 ∧ k ≠ 15 ∧ k ≠ 17 ∧ k ≠ 18 ∧ k ≠ 38 ∧ k ≠ 41 ∧ k ≠ 42 := by decide
    obtain ⟨a, b1, b2, b3, b4, b5, b6, b7, b8, b9⟩ := this k hk
    exact funext (fun j => h.1 k j a b1 b2 b3 b4 b5 b6 b7 b8 b9)
  have j43 : J' m 43 = J m 43 := h.2 43 (by decide) (by decide)
  unfold dLs dFb dDt
  rw [k 9 (by decide), k 27 (by decide), k 28 (by decide), k 29 (by decide), k 30 (by decide), k 35 (by decide), k 36 (by decide), j43]
/-- the frames while they come, behind the cables below i -/
def PF (S : MM) (b m cl N : Nat) (A : Nat → Nat) (I0 J0 : Mm) (i : Nat) (I J : Mm) : Prop := (∀ z j, sK S z = 3 → j ≠ 6 → I z j = I0 z j) ∧ (∀ c e, c < 8 → e < 2 → (i ≤ c → I (Ln (sR S) b c e) 4 = I0 (Ln (sR S) b c e) 4 ∧ I (Ln (sR S) b c e) 5 = I0 (Ln (sR S) b c e) 5) ∧ (c < i → CF I (sR S) b c e = (CF I0 (sR S) b c e).filter (fun z => !(dueB I0 cl z)) ∧ FOK I (sR S) b c e)) ∧ (∀ x, x < 16 → I (ox (sR S) b x) = I0 (ox (sR S) b x)) ∧ I b 2 = nI cl ∧ ST m A J0 J ∧ ∀ e, e < 2 → ∃ s, EKc I (sR S) b e s ∧ EKm J A e s ∧ s.1 ≤ N + 5000 * i
theorem dLs_len2 {J : Mm} {m c e y nt : Nat} {A : Nat → Nat} (h : nt ≤ 4000) : (dLs J m A c e y nt).length ≤ 4000 := Nat.le_trans dLs_len h
theorem pf_up {S : MM} {b m cl N nt nf : Nat} {A Bc : Nat → Nat} {I0 J0 : Mm} (hL : LY S b) (hO : OC S) (hA : AD m A) (hB : ∀ c, c < 8 → Bc c < 2 ^ 31) (hcl : cl < 2 ^ 31) (hnt : nt ≤ 4000) (hN : N ≤ 4000) (s27 : ∀ t, t < nt → ∃ k, k < 8 ∧ J0 (A 27) t = nI k) (s28 : ∀ t, t < nt → ∃ e, e < 2 ∧ J0 (A 28) t = nI e) (fk : ∀ c e, c < 8 → e < 2 → FOK I0 (sR S) b c e ∧ DF I0 (CF I0 (sR S) b c e) cl (Bc c)) {i : Nat} {I J : Mm} {y : Nat → Nat} (w : Int32) (hi : i < 8) (hy : ∀ e, e < 2 → y e < 16 ∧ y e / 8 = 1 - e) (rp : ∀ e, e < 2 → (sR S (ppd (sR S) b i) (1 - e)).getD 0 = px (sR S) b (y e)) (pa : ∀ e, e < 2 → 8 * (1 - e) + (J0 (A 22) (2 * i + (1 - e))).toNatClampNeg = y e) (hd : ∀ e, e < 2 → dLc I0 (sR S) b (px (sR S) b (y e)) i e cl = dLs J0 m A i e (y e) nt) (h : PF S b m cl N A I0 J0 i I J) : PF S b m cl N A I0 J0 (i + 1) (g_X7_bringAll_31 (sR S) b 2 0 i I) (g_X8_comes_45 m A nt nf nt 0 i J w).1 := by
  obtain ⟨h1, h2, h3, h4, h5, h6⟩ := h
  have sJ := h5.tr (g45_st (nt := nt) (nf := nf) (c := i) hA nt 0 J w)
  obtain ⟨t0, c0, m0, n0⟩ := h6 0 (by decide)
  obtain ⟨t1, c1, m1, n1⟩ := h6 1 (by decide)
  have E : g_X7_bringAll_31 (sR S) b 2 0 i I = f_X7_bringFrames (f_X7_bringNotes (f_X7_bringFrames (f_X7_bringNotes I (sR S) b (px (sR S) b (y 0)) i 0) (sR S) b (px (sR S) b (y 0)) i 0) (sR S) b (px (sR S) b (y 1)) i 1) (sR S) b (px (sR S) b (y 1)) i 1 := by
    rw [← rp 0 (by decide), ← rp 1 (by decide)]
    rfl
  rw [E]
  have g := g45F (m := m) (nt := nt) (nf := nf) (c := i) (J := J) (y := y) (s := fun e => if e = 0 then t1 else t0) hA hi hy (fun e he => by
      have : e = 0 ∨ e = 1 := by omega
      rcases this with rfl | rfl
      · show t1.1 + nt < _; omega
      · show t0.1 + nt < _; omega) (fun t ht => by rw [st_k h5 (by decide)]; exact s27 t ht) (fun t ht => by rw [st_k h5 (by decide)]; exact s28 t ht) (fun e he => by rw [st_k h5 (by decide)]; exact pa e he) nt 0 J w (by omega) ST.rf (fun e he => by
      have d0 : dLs J m A i e (y e) 0 = [] := List.length_eq_zero_iff.mp (Nat.le_zero.mp dLs_len)
      rw [d0]
      have : e = 0 ∨ e = 1 := by omega
      rcases this with rfl | rfl
      · exact m1
      · exact m0)
  generalize (g_X8_comes_45 m A nt nf nt 0 i J w).1 = J' at g sJ ⊢
  have l0 := (h2 i 0 hi (by decide)).1 (Nat.le_refl i)
  have l1 := (h2 i 1 hi (by decide)).1 (Nat.le_refl i)
  have fkI : ∀ e, e < 2 → I (Ln (sR S) b i e) 4 = I0 (Ln (sR S) b i e) 4 ∧ I (Ln (sR S) b i e) 5 = I0 (Ln (sR S) b i e) 5 := fun e he => (h2 i e hi he).1 (Nat.le_refl i)
  have fok0 : ∀ e, e < 2 → FOK I (sR S) b i e := fun e he => FOK_e (fkI e he).1 (fkI e he).2 (fk i e hi he).1
  have df0 : ∀ e, e < 2 → DF I (CF I (sR S) b i e) cl (Bc i) := fun e he => by
    rw [CF_e (fkI e he).1 (fkI e he).2]
    exact DF_e (fk i e hi he).2 (fun z hz => h1 z 3 (CF_k hL hi he (fk i e hi he).1 z hz) (by decide))
  obtain ⟨p1, p2, p3, p4⟩ := lane_f (y := y 0) hL hO hi (show 0 < 2 by decide) (hy 0 (by decide)).1 (hB i hi) hcl h4 (fok0 0 (by decide)) (df0 0 (by decide)) c1 (by omega)
  generalize f_X7_bringFrames (f_X7_bringNotes I (sR S) b (px (sR S) b (y 0)) i 0) (sR S) b (px (sR S) b (y 0)) i 0 = I4 at p1 p2 p3 p4 ⊢
  have l4 := p4.2.1 i 1 hi (by decide) (by omega)
  have fok4 : FOK I4 (sR S) b i 1 := FOK_e l4.1 l4.2 (fok0 1 (by decide))
  have df4 : DF I4 (CF I4 (sR S) b i 1) cl (Bc i) := by
    rw [CF_e l4.1 l4.2]
    exact DF_e (df0 1 (by decide)) (fun z hz => p4.1 z 3 (CF_k hL hi (by decide) (fok0 1 (by decide)) z hz) (by decide))
  obtain ⟨q1, q2, q3, q4⟩ := lane_f (y := y 1) hL hO hi (show 1 < 2 by decide) (hy 1 (by decide)).1 (hB i hi) hcl (p4.2.2.2.1.trans h4) fok4 df4 (p4.2.2.1 t0 c0) (by omega)
  generalize f_X7_bringFrames (f_X7_bringNotes I4 (sR S) b (px (sR S) b (y 1)) i 1) (sR S) b (px (sR S) b (y 1)) i 1 = I8 at q1 q2 q3 q4 ⊢
  have a0 := dLc_e (cl := cl) (y := y 0) hL hi (show 0 < 2 by decide) (fk i 0 hi (by decide)).1 l0.1 l0.2 h1 (h3 (y 0) (hy 0 (by decide)).1)
  have a1 := dLc_e (cl := cl) (y := y 1) hL hi (show 1 < 2 by decide) (fk i 1 hi (by decide)).1 l1.1 l1.2 h1 (h3 (y 1) (hy 1 (by decide)).1)
  have b1 := dLc_e (cl := cl) (y := y 1) hL hi (show 1 < 2 by decide) (fok0 1 (by decide)) l4.1 l4.2 p4.1 (p4.2.2.2.2 (y 1) (hy 1 (by decide)).1)
  have x0 := q4.2.1 i 0 hi (by decide) (by omega)
  refine ⟨fun z j hz hj => (q4.1 z j hz hj).trans ((p4.1 z j hz hj).trans (h1 z j hz hj)), fun c e hc he => ⟨fun hz => ?_, fun hz => ?_⟩, fun x hx => (q4.2.2.2.2 x hx).trans ((p4.2.2.2.2 x hx).trans (h3 x hx)), q4.2.2.2.1.trans (p4.2.2.2.1.trans h4), sJ, fun e he => ?_⟩
  · have r1 := q4.2.1 c e hc he (by omega)
    have r2 := p4.2.1 c e hc he (by omega)
    have r3 := (h2 c e hc he).1 (by omega)
    exact ⟨r1.1.trans (r2.1.trans r3.1), r1.2.trans (r2.2.trans r3.2)⟩
  · by_cases hci : c = i
    · subst hci
      have : e = 0 ∨ e = 1 := by omega
      rcases this with rfl | rfl
      · rw [CF_e x0.1 x0.2, p1]
        exact ⟨a0.2, FOK_e x0.1 x0.2 p2⟩
      · exact ⟨q1.trans (b1.2.trans a1.2), q2⟩
    · have r1 := q4.2.1 c e hc he (by omega)
      have r2 := p4.2.1 c e hc he (by omega)
      have r3 := (h2 c e hc he).2 (by omega)
      rw [CF_e r1.1 r1.2, CF_e r2.1 r2.2]
      exact ⟨r3.1, FOK_e r1.1 r1.2 (FOK_e r2.1 r2.2 r3.2)⟩
  · have : e = 0 ∨ e = 1 := by omega
    rcases this with rfl | rfl
    · have gg := g 1 (by decide)
      rw [dLs_e h5, ← hd 1 (by decide)] at gg
      have ln := dLs_len2 (J := J0) (m := m) (A := A) (c := i) (e := 1) (y := y 1) hnt
      rw [← hd 1 (by decide)] at ln
      refine ⟨_, by rw [← a1.1, ← b1.1]; exact q3, gg, ?_⟩
      rw [kp_len]
      show t0.1 + _ ≤ _
      omega
    · have gg := g 0 (by decide)
      rw [dLs_e h5, ← hd 0 (by decide)] at gg
      have ln := dLs_len2 (J := J0) (m := m) (A := A) (c := i) (e := 0) (y := y 0) hnt
      rw [← hd 0 (by decide)] at ln
      refine ⟨_, q4.2.2.1 _ (by rw [← a0.1]; exact p3), gg, ?_⟩
      rw [kp_len]
      show t1.1 + _ ≤ _
      omega
