/-! SIMULATION 61: a port that gives has a bundle, the same on both sides: a tick -/
theorem ch_e {m e : Nat} {A : Nat → Nat} {J : Mm} (hA : AD m A) (he : e < 2) : (∀ j, j < 8 → ((f_X8_chooses J m A e) (A 12) (8 * e + j) = -1 ∧ (f_X8_chooses J m A e) (A 13) (8 * e + j) = nI 0) ∨ ∃ k, k < 8 ∧ (f_X8_chooses J m A e) (A 12) (8 * e + j) = nI k) ∧ ∀ y, y < 8 * e ∨ 8 * e + 8 ≤ y → (f_X8_chooses J m A e) (A 12) y = J (A 12) y ∧ (f_X8_chooses J m A e) (A 13) y = J (A 13) y := by
  have E : f_X8_chooses J m A e = g_X8_chooses_5 m A e 8 (8 * e + 0) J := rfl
  obtain ⟨c1, c2, c3⟩ := ch5 (m := m) (e := e) (J := J) hA 8 0 J rfl MC.rf
  rw [E]
  refine ⟨fun j hj => ?_, fun y hy => c2 y (by omega)⟩
  obtain ⟨d1, d2⟩ := c3 j (by omega) hj
  rw [d1, d2]
  have L := g27_L (J := J) (m := m) (A := A) he hj
  by_cases f : FM J m A e j
  · obtain ⟨k, hk, ek, _⟩ := L.2 f
    exact Or.inr ⟨k, hk, ek⟩
  · have e1 : lvm J m A e j = -1 := L.1 f
    refine Or.inl ⟨e1, ?_⟩
    unfold cvm
    rw [if_pos e1]
theorem ch_all {m : Nat} {A : Nat → Nat} {J : Mm} (hA : AD m A) (x : Nat) (hx : x < 16) : ((f_X8_chooses (f_X8_chooses J m A 0) m A 1) (A 12) x = -1 ∧ (f_X8_chooses (f_X8_chooses J m A 0) m A 1) (A 13) x = nI 0) ∨ ∃ k, k < 8 ∧ (f_X8_chooses (f_X8_chooses J m A 0) m A 1) (A 12) x = nI k := by
  obtain ⟨a1, a2⟩ := ch_e (J := J) (e := 0) hA (by decide)
  obtain ⟨b1, b2⟩ := ch_e (J := f_X8_chooses J m A 0) (e := 1) hA (by decide)
  by_cases q : x < 8
  · rw [(b2 x (Or.inl (by omega))).1, (b2 x (Or.inl (by omega))).2]
    have := a1 x q
    rw [show 8 * 0 + x = x by omega] at this
    exact this
  · have := b1 (x - 8) (by omega)
    rw [show 8 * 1 + (x - 8) = x by omega] at this
    exact this
theorem r_st10 {rp ro rq : Nat → Int32} : (r_X5_step rp ro rq).1 10 = rp 10 ∧ ((r_X5_step rp ro rq).2 = nI 4 → ¬ rp 11 = 0) := by
  have bd10 : r_X5_bind rp ro rq 10 = rp 10 := by
    unfold r_X5_bind upd
    simp
  refine ⟨?_, fun h z => ?_⟩
  · unfold r_X5_step
    repeat' split
    all_goals first | rfl | exact bd10 | (unfold upd; simp; split <;> rfl) | (unfold upd; simp)
  · unfold r_X5_step at h
    rw [if_pos z] at h
    exact absurd (show nI 0 = nI 4 from h) (by decide)
theorem r_mv1 {re rp ro : Nat → Int32} {v : Int32} : (r_X1_moveTo re rp ro v).1 10 = rp 10 ∧ (r_X1_moveTo re rp ro v).1 5 = v := by
  have s : (r_X5_setStage rp ro v).1 10 = rp 10 ∧ (r_X5_setStage rp ro v).1 5 = v := by
    unfold r_X5_setStage
    dsimp only
    repeat' split
    all_goals (unfold upd; simp)
  unfold r_X1_moveTo
  repeat' split
  all_goals exact s
theorem st_10 {S : MM} {b : Nat} {I3 : Mm} (hL : LY S b) (hO : OC S) : ∀ x, x < 16 → (f_X7_stepAll I3 (sR S) b) (px (sR S) b x) 10 = I3 (px (sR S) b x) 10 ∧ ((f_X7_stepAll I3 (sR S) b) (px (sR S) b x) 5 = nI 4 → ¬ I3 (px (sR S) b x) 11 = 0 ∨ (I3 (px (sR S) b x) 3 = 0 ∧ I3 (px (sR S) b x) 5 = nI 4)) := by
  rw [fd_step]
  have q : ∀ r i (I : Mm), i + r = 16 → (∀ x, x < 16 → (i ≤ x → I (px (sR S) b x) = I3 (px (sR S) b x)) ∧ (x < i → I (px (sR S) b x) 10 = I3 (px (sR S) b x) 10 ∧ (I (px (sR S) b x) 5 = nI 4 → ¬ I3 (px (sR S) b x) 11 = 0 ∨ (I3 (px (sR S) b x) 3 = 0 ∧ I3 (px (sR S) b x) 5 = nI 4)))) → ∀ x, x < 16 → (fd (fun x => stE (sR S) b (x / 8) (x % 8)) r i I) (px (sR S) b x) 10 = I3 (px (sR S) b x) 10 ∧ ((fd (fun x => stE (sR S) b (x / 8) (x % 8)) r i I) (px (sR S) b x) 5 = nI 4 → ¬ I3 (px (sR S) b x) 11 = 0 ∨ (I3 (px (sR S) b x) 3 = 0 ∧ I3 (px (sR S) b x) 5 = nI 4)) := by
    intro r
    induction r with
    | zero => intro i I hi h x hx; exact (h x hx).2 (by omega)
    | succ r ih =>
      intro i I hi h
      refine ih (i + 1) (stE (sR S) b (i / 8) (i % 8) I) (by omega) (fun x hx => ?_)
      have hi16 : i < 16 := by omega
      have kE := (ly_E hL (show i / 8 < 2 by omega)).2.1
      have oth : x ≠ i → stE (sR S) b (i / 8) (i % 8) I (px (sR S) b x) = I (px (sR S) b x) := fun n => by
        unfold stE
        split
        · rfl
        · show f_X1_moveTo (f_X5_step I (px (sR S) b i) (ox (sR S) b i) (qx (sR S) b i)).1 (En (sR S) b (i / 8)) (px (sR S) b i) (ox (sR S) b i) (f_X5_step I (px (sR S) b i) (ox (sR S) b i) (qx (sR S) b i)).2 (px (sR S) b x) = _
          rw [n_X1_moveTo (d_pp hL hO hx hi16 n) (d_po hL hO hx hi16) (ne_k (k_px hL hx) kE (by decide)), n_X5_step (d_pp hL hO hx hi16 n)]
      by_cases e : x = i
      · subst e
        refine ⟨fun z => absurd z (by omega), fun _ => ?_⟩
        have row := (h x hx).1 (Nat.le_refl x)
        rw [← row]
        unfold stE
        by_cases lit : f_X5_isLit I (Pt (sR S) b (x / 8) (x % 8)) = 0
        · rw [if_pos lit]
          rw [rr_X5_isLit, r_lit] at lit
          exact ⟨rfl, fun z => Or.inr ⟨lit, z⟩⟩
        · rw [if_neg lit]
          show f_X1_moveTo (f_X5_step I (px (sR S) b x) (ox (sR S) b x) (qx (sR S) b x)).1 (En (sR S) b (x / 8)) (px (sR S) b x) (ox (sR S) b x) (f_X5_step I (px (sR S) b x) (ox (sR S) b x) (qx (sR S) b x)).2 (px (sR S) b x) 10 = _ ∧ (f_X1_moveTo (f_X5_step I (px (sR S) b x) (ox (sR S) b x) (qx (sR S) b x)).1 (En (sR S) b (x / 8)) (px (sR S) b x) (ox (sR S) b x) (f_X5_step I (px (sR S) b x) (ox (sR S) b x) (qx (sR S) b x)).2 (px (sR S) b x) 5 = nI 4 → _)
          have npo := d_po hL hO hx hx
          have npq := d_pq hL hO hx hx
          rw [(rr_X1_moveTo (ne_k kE (k_px hL hx) (by decide)) (ne_k kE (k_ox hL hx) (by decide)) npo).1, r_mv1.1, r_mv1.2, (rr_X5_step npo npq).1, (rr_X5_step npo npq).2, r_st10.1]
          exact ⟨rfl, fun z => Or.inl (r_st10.2 z)⟩
      · rw [oth e]
        exact ⟨fun z => (h x hx).1 (by omega), fun z => (h x hx).2 (by omega)⟩
  exact q 16 0 I3 rfl (fun x hx => ⟨fun _ => rfl, fun z => absurd z (by omega)⟩)
theorem te_10 {S : MM} {b : Nat} {I : Mm} (hL : LY S b) (hO : OC S) : ∀ x, x < 16 → (f_X7_tellAll I (sR S) b).1 (px (sR S) b x) 10 = I (px (sR S) b x) 10 := by
  rw [fd_tell]
  refine fd_keep (N := 16) (f := fun x => teE (sR S) b (x / 8) (x % 8)) (P := fun I' => ∀ x, x < 16 → I' (px (sR S) b x) 10 = I (px (sR S) b x) 10) (fun i I' hi p x hx => ?_) 16 0 I rfl (fun _ _ => rfl)
  rw [← p x hx]
  show teE (sR S) b (i / 8) (i % 8) I' (px (sR S) b x) 10 = _
  have rm : ∀ v, f_X5_rememberTelling I' (px (sR S) b i) (ox (sR S) b i) (lx (sR S) b i) v (px (sR S) b x) 10 = I' (px (sR S) b x) 10 := fun v => by
    by_cases e : x = i
    · subst e
      rw [(rr_X5_rememberTelling (d_po hL hO hx hx) (d_pl hL hO hx hx) (d_ol hL hO hx hx)).2]
      unfold r_X5_rememberTelling upd
      simp
    · rw [n_X5_rememberTelling (d_pl hL hO hx hi) (d_pp hL hO hx hi e)]
  unfold teE
  split
  · rfl
  · unfold f_X7_tellFrom
    by_cases cb : cbl (I' (Pt (sR S) b (i / 8) (i % 8)) 2)
    · have hc := (cbl_e cb).2
      rw [if_pos cb]
      have rm' := rm (I' b 2)
      dsimp only
      show (if _ then _ else _ : Mm × Int32).1 (px (sR S) b x) 10 = _
      generalize (I' (Pt (sR S) b (i / 8) (i % 8)) 2).toNatClampNeg = c at hc ⊢
      have E : f_X5_rememberTelling I' (Pt (sR S) b (i / 8) (i % 8)) (Ow (sR S) b (i / 8) (i % 8)) (La (sR S) b (i / 8) (i % 8)) (I' b 2) = f_X5_rememberTelling I' (px (sR S) b i) (ox (sR S) b i) (lx (sR S) b i) (I' b 2) := rfl
      rw [E]
      generalize f_X5_rememberTelling I' (px (sR S) b i) (ox (sR S) b i) (lx (sR S) b i) (I' b 2) = I3 at rm' ⊢
      have kx := k_px hL hx
      have he : i / 8 < 2 := by omega
      split
      · show f_X3_addNote I3 (sR S) b c (i / 8) (i / 8) (i % 8) _ (px (sR S) b x) 10 = _
        rw [an_k (fun s hs => ⟨ne_k kx (ly_TO hL hc he hs).2.1 (by decide), ne_k kx (ly_TP hL hc he hs).2.1 (by decide), ne_k kx (ly_T hL hc he hs).2.1 (by decide)⟩) (ne_k kx (ly_N hL hc he).2.1 (by decide))]
        exact rm'
      · show up2 I3 (Ln (sR S) b c (i / 8)) 6 _ (px (sR S) b x) 10 = _
        rw [up2_row (ne_k kx (ly_N hL hc he).2.1 (by decide))]
        exact rm'
    · rw [if_neg cb]
