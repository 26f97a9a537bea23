/-! SIMULATION 30: a cable goes out: the relation -/
/-- port x is as behind moveTo 0 and becomeDark -/
def DRK (R : Nat → Nat → Option Nat) (b x : Nat) (I F : Mm) : Prop := F (px R b x) = (r_X5_becomeDark (r_X1_moveTo (I (En R b (x / 8))) (I (px R b x)) (I (ox R b x)) (nI 0)).1 (I (qx R b x))).1 ∧ F (ox R b x) = (r_X1_moveTo (I (En R b (x / 8))) (I (px R b x)) (I (ox R b x)) (nI 0)).2.1 ∧ F (qx R b x) = (r_X5_becomeDark (r_X1_moveTo (I (En R b (x / 8))) (I (px R b x)) (I (ox R b x)) (nI 0)).1 (I (qx R b x))).2
def OFF (S : MM) (b c y0 y1 : Nat) (I F : Mm) : Prop := (∀ x, x < 16 → x ≠ y0 → x ≠ y1 → AG (sR S) b x I F) ∧ (DRK (sR S) b y0 I F ∧ DRK (sR S) b y1 I F) ∧ (∀ d f, d < 8 → f < 2 → (F (Ln (sR S) b d f) 1 = I (Ln (sR S) b d f) 1 ∧ F (Ln (sR S) b d f) 6 = I (Ln (sR S) b d f) 6) ∧ F (Ln (sR S) b d f) 2 = (if d = c then nI 0 else I (Ln (sR S) b d f) 2) ∧ ∀ s, s < 8 → F (Nt (sR S) b d f s) = I (Nt (sR S) b d f s) ∧ F (NtO (sR S) b d f s) = I (NtO (sR S) b d f s) ∧ F (NtP (sR S) b d f s) = I (NtP (sR S) b d f s)) ∧ (∀ d, d < 8 → F (Cb (sR S) b d) 3 = (if d = c then nI 0 else I (Cb (sR S) b d) 3) ∧ F (Cb (sR S) b d) 2 = I (Cb (sR S) b d) 2) ∧ (∀ e, e < 2 → F (En (sR S) b e) 1 = I (En (sR S) b e) 1 ∧ F (En (sR S) b e) 2 = I (En (sR S) b e) 2) ∧ F b 2 = I b 2 ∧ FO S I F
theorem off_C {S : MM} {b c p0 p1 : Nat} {I : Mm} (hL : LY S b) (hO : OC S) (hc : c < 8) (h0 : p0 < 8) (h1 : p1 < 8) (r0 : sR S (ppd (sR S) b c) 0 = some (Pt (sR S) b 0 p0)) (r1 : sR S (ppd (sR S) b c) 1 = some (Pt (sR S) b 1 p1)) : OFF S b c p0 (8 + p1) I (f_X7_switchOff I (sR S) b c) := by
  rw [off_E r0 r1]
  have kC := (ly_C hL hc).2.1
  have uz : ∀ z, z ≠ Cb (sR S) b c → up2 I (Cb (sR S) b c) 3 (nI 0) z = I z := fun z hz => up2_row hz
  have uk : ∀ z k, sK S z = k → k ≠ 1 → up2 I (Cb (sR S) b c) 3 (nI 0) z = I z := fun z k hz hk => up2_row (ne_k hz kC hk)
  have ucz : ∀ d, d < 8 → up2 I (Cb (sR S) b c) 3 (nI 0) (Cb (sR S) b d) 3 = (if d = c then nI 0 else I (Cb (sR S) b d) 3) ∧ up2 I (Cb (sR S) b c) 3 (nI 0) (Cb (sR S) b d) 2 = I (Cb (sR S) b d) 2 := fun d hd => by
    by_cases q : d = c
    · subst q
      rw [up2_self, if_pos rfl, up2_jn (by decide)]
      exact ⟨rfl, rfl⟩
    · rw [up2_row (fun z => q (i_C hL hO hd hc z)), if_neg q]
      exact ⟨rfl, rfl⟩
  have uf : FO S I (up2 I (Cb (sR S) b c) 3 (nI 0)) := FO.rf.w kC (by decide) rfl
  generalize up2 I (Cb (sR S) b c) 3 (nI 0) = U at uz uk ucz uf ⊢
  clear uz
  obtain ⟨a1, a2, a3, a4, a5, a6⟩ := offE_f (I := U) hL hO hc (show 0 < 2 by decide) h0 (show p0 = 8 * 0 + p0 by omega)
  generalize offE (sR S) b c 0 p0 U = V at a1 a2 a3 a4 a5 a6 ⊢
  obtain ⟨b1, b2, b3, b4, b5, b6⟩ := offE_f (I := V) hL hO hc (show 1 < 2 by decide) h1 (show 8 + p1 = 8 * 1 + p1 by omega)
  generalize offE (sR S) b c 1 p1 V = F at b1 b2 b3 b4 b5 b6 ⊢
  have y0 : p0 < 16 := by omega
  have y1 : 8 + p1 < 16 := by omega
  have n01 : p0 ≠ 8 + p1 := by omega
  have k4 := fun e (he : e < 2) => (ly_N hL hc he).2.1
  have k2 := fun e (he : e < 2) => (ly_E hL he).2.1
  -- a cell of another kind than those that were written
  have va : ∀ z k, sK S z = k → k ≠ 8 → k ≠ 4 → k ≠ 6 → k ≠ 7 → k ≠ 2 → V z = U z := fun z k hz h8 h4 h6 h7 h2 => a1 z (ne_k hz hL.2 h8) (ne_k hz (k4 0 (by decide)) h4) (ne_k hz (k_px hL y0) h6) (ne_k hz (k_ox hL y0) h7) (ne_k hz (k_qx hL y0) h7) (ne_k hz (k2 0 (by decide)) h2)
  have fa : ∀ z k, sK S z = k → k ≠ 8 → k ≠ 4 → k ≠ 6 → k ≠ 7 → k ≠ 2 → F z = V z := fun z k hz h8 h4 h6 h7 h2 => b1 z (ne_k hz hL.2 h8) (ne_k hz (k4 1 (by decide)) h4) (ne_k hz (k_px hL y1) h6) (ne_k hz (k_ox hL y1) h7) (ne_k hz (k_qx hL y1) h7) (ne_k hz (k2 1 (by decide)) h2)
  -- ports
  have vp : ∀ x, x < 16 → x ≠ p0 → AG (sR S) b x U V := fun x hx n => ⟨a1 _ (ne_k (k_px hL hx) hL.2 (by decide)) (ne_k (k_px hL hx) (k4 0 (by decide)) (by decide)) (d_pp hL hO hx y0 n) (d_po hL hO hx y0) (d_pq hL hO hx y0) (ne_k (k_px hL hx) (k2 0 (by decide)) (by decide)), a1 _ (ne_k (k_ox hL hx) hL.2 (by decide)) (ne_k (k_ox hL hx) (k4 0 (by decide)) (by decide)) (d_op hL hO hx y0) (d_oo hL hO hx y0 n) (d_oq hL hO hx y0) (ne_k (k_ox hL hx) (k2 0 (by decide)) (by decide)), a1 _ (ne_k (k_qx hL hx) hL.2 (by decide)) (ne_k (k_qx hL hx) (k4 0 (by decide)) (by decide)) (d_qp hL hO hx y0) (d_qo hL hO hx y0) (d_qq hL hO hx y0 n) (ne_k (k_qx hL hx) (k2 0 (by decide)) (by decide)), a1 _ (ne_k (k_lx hL hx) hL.2 (by decide)) (ne_k (k_lx hL hx) (k4 0 (by decide)) (by decide)) (d_lp hL hO hx y0) (d_lo hL hO hx y0) (d_lq hL hO hx y0) (ne_k (k_lx hL hx) (k2 0 (by decide)) (by decide))⟩
  have fp : ∀ x, x < 16 → x ≠ 8 + p1 → AG (sR S) b x V F := fun x hx n => ⟨b1 _ (ne_k (k_px hL hx) hL.2 (by decide)) (ne_k (k_px hL hx) (k4 1 (by decide)) (by decide)) (d_pp hL hO hx y1 n) (d_po hL hO hx y1) (d_pq hL hO hx y1) (ne_k (k_px hL hx) (k2 1 (by decide)) (by decide)), b1 _ (ne_k (k_ox hL hx) hL.2 (by decide)) (ne_k (k_ox hL hx) (k4 1 (by decide)) (by decide)) (d_op hL hO hx y1) (d_oo hL hO hx y1 n) (d_oq hL hO hx y1) (ne_k (k_ox hL hx) (k2 1 (by decide)) (by decide)), b1 _ (ne_k (k_qx hL hx) hL.2 (by decide)) (ne_k (k_qx hL hx) (k4 1 (by decide)) (by decide)) (d_qp hL hO hx y1) (d_qo hL hO hx y1) (d_qq hL hO hx y1 n) (ne_k (k_qx hL hx) (k2 1 (by decide)) (by decide)), b1 _ (ne_k (k_lx hL hx) hL.2 (by decide)) (ne_k (k_lx hL hx) (k4 1 (by decide)) (by decide)) (d_lp hL hO hx y1) (d_lo hL hO hx y1) (d_lq hL hO hx y1) (ne_k (k_lx hL hx) (k2 1 (by decide)) (by decide))⟩
  have up : ∀ x, x < 16 → AG (sR S) b x I U := fun x hx => ⟨uk _ 6 (k_px hL hx) (by decide), uk _ 7 (k_ox hL hx) (by decide), uk _ 7 (k_qx hL hx) (by decide), uk _ 7 (k_lx hL hx) (by decide)⟩
  have ve : ∀ e, e < 2 → e ≠ 0 → V (En (sR S) b e) = U (En (sR S) b e) := fun e he n => a1 _ (ne_k (k2 e he) hL.2 (by decide)) (ne_k (k2 e he) (k4 0 (by decide)) (by decide)) (ne_k (k2 e he) (k_px hL y0) (by decide)) (ne_k (k2 e he) (k_ox hL y0) (by decide)) (ne_k (k2 e he) (k_qx hL y0) (by decide)) (fun z => n (i_E hL hO he (by decide) z))
  have fe : ∀ e, e < 2 → e ≠ 1 → F (En (sR S) b e) = V (En (sR S) b e) := fun e he n => b1 _ (ne_k (k2 e he) hL.2 (by decide)) (ne_k (k2 e he) (k4 1 (by decide)) (by decide)) (ne_k (k2 e he) (k_px hL y1) (by decide)) (ne_k (k2 e he) (k_ox hL y1) (by decide)) (ne_k (k2 e he) (k_qx hL y1) (by decide)) (fun z => n (i_E hL hO he (by decide) z))
  have vl : ∀ d f, d < 8 → f < 2 → ¬ (d = c ∧ f = 0) → V (Ln (sR S) b d f) = U (Ln (sR S) b d f) := fun d f hd hf n => a1 _ (ne_k (ly_N hL hd hf).2.1 hL.2 (by decide)) (fun z => n (i_Ln hL hO hd hc hf (by decide) z)) (ne_k (ly_N hL hd hf).2.1 (k_px hL y0) (by decide)) (ne_k (ly_N hL hd hf).2.1 (k_ox hL y0) (by decide)) (ne_k (ly_N hL hd hf).2.1 (k_qx hL y0) (by decide)) (ne_k (ly_N hL hd hf).2.1 (k2 0 (by decide)) (by decide))
  have fl : ∀ d f, d < 8 → f < 2 → ¬ (d = c ∧ f = 1) → F (Ln (sR S) b d f) = V (Ln (sR S) b d f) := fun d f hd hf n => b1 _ (ne_k (ly_N hL hd hf).2.1 hL.2 (by decide)) (fun z => n (i_Ln hL hO hd hc hf (by decide) z)) (ne_k (ly_N hL hd hf).2.1 (k_px hL y1) (by decide)) (ne_k (ly_N hL hd hf).2.1 (k_ox hL y1) (by decide)) (ne_k (ly_N hL hd hf).2.1 (k_qx hL y1) (by decide)) (ne_k (ly_N hL hd hf).2.1 (k2 1 (by decide)) (by decide))
  have told : ∀ z a j, TO S z a j → sK S a = 5 → sK S z = 7 → F z = I z := fun z a j t ka kz => by
    rw [b1 z (ne_k kz hL.2 (by decide)) (ne_k kz (k4 1 (by decide)) (by decide)) (ne_k kz (k_px hL y1) (by decide)) (to_a hO t (to_ox hL y1) (ne_k ka (k_px hL y1) (by decide))) (to_a hO t (to_qx hL y1) (ne_k ka (k_px hL y1) (by decide))) (ne_k kz (k2 1 (by decide)) (by decide)), a1 z (ne_k kz hL.2 (by decide)) (ne_k kz (k4 0 (by decide)) (by decide)) (ne_k kz (k_px hL y0) (by decide)) (to_a hO t (to_ox hL y0) (ne_k ka (k_px hL y0) (by decide))) (to_a hO t (to_qx hL y0) (ne_k ka (k_px hL y0) (by decide))) (ne_k kz (k2 0 (by decide)) (by decide)), uk z 7 kz (by decide)]
  refine ⟨fun x hx n0 n1 => ((up x hx).tr (vp x hx n0)).tr (fp x hx n1), ⟨?_, ?_⟩, fun d f hd hf => ⟨?_, ?_, fun s hs => ⟨?_, told _ _ _ (to_nO hL hd hf hs) (ly_T hL hd hf hs).2.1 (ly_TO hL hd hf hs).2.1, told _ _ _ (to_nP hL hd hf hs) (ly_T hL hd hf hs).2.1 (ly_TP hL hd hf hs).2.1⟩⟩, fun d hd => ?_, fun e he => ?_, ?_, fun z hz => ?_⟩
  · have g := fp p0 y0 n01
    have u := up p0 y0
    have uE : U (En (sR S) b 0) = I (En (sR S) b 0) := uk _ 2 (k2 0 (by decide)) (by decide)
    unfold DRK
    rw [show p0 / 8 = 0 by omega, g.1, g.2.1, g.2.2.1, ← u.1, ← u.2.1, ← u.2.2.1, ← uE]
    exact a6
  · have v := vp (8 + p1) y1 n01.symm
    have u := up (8 + p1) y1
    have uE : V (En (sR S) b 1) = I (En (sR S) b 1) := (ve 1 (by decide) (by decide)).trans (uk _ 2 (k2 1 (by decide)) (by decide))
    unfold DRK
    rw [show (8 + p1) / 8 = 1 by omega, ← u.1, ← u.2.1, ← u.2.2.1, ← v.1, ← v.2.1, ← v.2.2.1, ← uE]
    exact b6
  · have uN := uk _ 4 (ly_N hL hd hf).2.1 (by decide)
    by_cases q1 : d = c ∧ f = 1
    · obtain ⟨rfl, rfl⟩ := q1
      rw [b3 1 (by decide) (by decide), b3 6 (by decide) (by decide), vl d 1 hd hf (by omega), uN]
      exact ⟨rfl, rfl⟩
    · rw [fl d f hd hf q1]
      by_cases q0 : d = c ∧ f = 0
      · obtain ⟨rfl, rfl⟩ := q0
        rw [a3 1 (by decide) (by decide), a3 6 (by decide) (by decide), uN]
        exact ⟨rfl, rfl⟩
      · rw [vl d f hd hf q0, uN]
        exact ⟨rfl, rfl⟩
  · have uN := uk _ 4 (ly_N hL hd hf).2.1 (by decide)
    by_cases q1 : d = c ∧ f = 1
    · obtain ⟨rfl, rfl⟩ := q1
      rw [b4, if_pos rfl]
    · rw [fl d f hd hf q1]
      by_cases q0 : d = c ∧ f = 0
      · obtain ⟨rfl, rfl⟩ := q0
        rw [a4, if_pos rfl]
      · rw [vl d f hd hf q0, uN, if_neg (by omega)]
  · rw [fa _ 5 (ly_T hL hd hf hs).2.1 (by decide) (by decide) (by decide) (by decide) (by decide), va _ 5 (ly_T hL hd hf hs).2.1 (by decide) (by decide) (by decide) (by decide) (by decide), uk _ 5 (ly_T hL hd hf hs).2.1 (by decide)]
  · rw [fa _ 1 (ly_C hL hd).2.1 (by decide) (by decide) (by decide) (by decide) (by decide), va _ 1 (ly_C hL hd).2.1 (by decide) (by decide) (by decide) (by decide) (by decide)]
    exact ucz d hd
  · have uE := uk _ 2 (k2 e he) (by decide)
    have q : e = 0 ∨ e = 1 := by omega
    rcases q with rfl | rfl
    · rw [fe 0 he (by decide), a5 1 (by decide), a5 2 (by decide), uE]
      exact ⟨rfl, rfl⟩
    · rw [b5 1 (by decide), b5 2 (by decide), ve 1 he (by decide), uE]
      exact ⟨rfl, rfl⟩
  · rw [b2 2 (by decide), a2 2 (by decide), uk _ 8 hL.2 (by decide)]
  · rw [b1 z (fo_ne hz hL.2 (by decide) rfl) (fo_ne hz (k4 1 (by decide)) (by decide) rfl) (fo_ne hz (k_px hL y1) (by decide) rfl) (fo_ne hz (k_ox hL y1) (by decide) rfl) (fo_ne hz (k_qx hL y1) (by decide) rfl) (fo_ne hz (k2 1 (by decide)) (by decide) rfl), a1 z (fo_ne hz hL.2 (by decide) rfl) (fo_ne hz (k4 0 (by decide)) (by decide) rfl) (fo_ne hz (k_px hL y0) (by decide) rfl) (fo_ne hz (k_ox hL y0) (by decide) rfl) (fo_ne hz (k_qx hL y0) (by decide) rfl) (fo_ne hz (k2 0 (by decide)) (by decide) rfl)]
    exact uf z hz
theorem flt_sub {α : Type} {p q : α → Bool} : ∀ L : List α, (∀ a ∈ L, q a = true → p a = true) → (L.filter p).filter q = L.filter q
  | [], _ => rfl
  | a :: L, h => by
    have ih := flt_sub L (fun b hb => h b (List.mem_cons_of_mem a hb))
    by_cases hq : q a = true
    · have hp := h a List.mem_cons_self hq
      rw [List.filter_cons_of_pos hp, List.filter_cons_of_pos hq, List.filter_cons_of_pos hq, ih]
    · rw [List.filter_cons_of_neg (p := q) hq]
      by_cases hp : p a = true
      · rw [List.filter_cons_of_pos hp, List.filter_cons_of_neg hq, ih]
      · rw [List.filter_cons_of_neg hp, ih]
abbrev nc (c : Nat) (q : Nat → Int32) : Bool := !(decide (q 0 = nI c))
theorem off_sim {S : MM} {b m cl nt n' c p0 p1 : Nat} {A : Nat → Nat} {I F J J' : Mm} (hL : LY S b) (hc : c < 8) (h0 : p0 < 8) (h1 : p1 < 8) (off : OFF S b c p0 (8 + p1) I F) (h : NRl (sR S) b m A I J cl nt) (P0 : J (A 22) (2 * c + 0) = nI p0) (P1 : J (A 22) (2 * c + 1) = nI p1) (pl : J (A 24) c ≠ 0) (d : ∀ x, (x = p0 ∨ x = 8 + p1) → J' (A 7) x = 0 ∧ J' (A 8) x = 0 ∧ J' (A 9) x = 0 ∧ ∀ k, k < 5 → J' (A 18) (5 * x + k) = 0) (jo : ∀ x, x ≠ p0 → x ≠ 8 + p1 → ∀ k j, dm k → k ≤ 21 → ow k j = x → J' (A k) j = J (A k) j) (jk : ∀ k j, dm k → k ≠ 7 → k ≠ 8 → k ≠ 9 → k ≠ 12 → k ≠ 13 → k ≠ 14 → k ≠ 18 → k ≠ 21 → k ≠ 25 → k ≠ 40 → (k < 27 ∨ 31 < k) → J' (A k) j = J (A k) j) (u : ∀ e, e ≠ c → J' (A 25) e = J (A 25) e) (uc : J' (A 25) c = 0) (m43 : J' m 43 = J m 43) (m32 : J' m 32 = nI n') (tg' : TG J' A n' = (TG J A nt).filter (nc c)) : NRl (sR S) b m A F J' cl n' := by
  obtain ⟨n1, n2, n3, ⟨n4a, n4b, n4c⟩, n5, n6, n7, n8, n9, n10, n11⟩ := h
  obtain ⟨f1, ⟨f2a, f2b⟩, f3, f4, f5, f6, _⟩ := off
  have r : ∀ k, dm k → k ≠ 7 → k ≠ 8 → k ≠ 9 → k ≠ 12 → k ≠ 13 → k ≠ 14 → k ≠ 18 → k ≠ 21 → k ≠ 25 → k ≠ 40 → (k < 27 ∨ 31 < k) → J' (A k) = J (A k) := fun k a a1 a2 a3 a4 a5 a6 a7 a8 a9 a10 a11 => funext (fun j => jk k j a a1 a2 a3 a4 a5 a6 a7 a8 a9 a10 a11)
  have r22 := r 22 (by decide) (by decide) (by decide) (by decide) (by decide) (by decide) (by decide) (by decide) (by decide) (by decide) (by decide) (by decide)
  have r23 := r 23 (by decide) (by decide) (by decide) (by decide) (by decide) (by decide) (by decide) (by decide) (by decide) (by decide) (by decide) (by decide)
  have r24 := r 24 (by decide) (by decide) (by decide) (by decide) (by decide) (by decide) (by decide) (by decide) (by decide) (by decide) (by decide) (by decide)
  have r11 := r 11 (by decide) (by decide) (by decide) (by decide) (by decide) (by decide) (by decide) (by decide) (by decide) (by decide) (by decide) (by decide)
  have r26 := r 26 (by decide) (by decide) (by decide) (by decide) (by decide) (by decide) (by decide) (by decide) (by decide) (by decide) (by decide) (by decide)
  have r1 := r 1 (by decide) (by decide) (by decide) (by decide) (by decide) (by decide) (by decide) (by decide) (by decide) (by decide) (by decide) (by decide)
  have r2 := r 2 (by decide) (by decide) (by decide) (by decide) (by decide) (by decide) (by decide) (by decide) (by decide) (by decide) (by decide) (by decide)
  -- a port of cable c is one of the two
  have mine : ∀ e p, e < 2 → p < 8 → J (A 11) (8 * e + p) = nI c → 8 * e + p = p0 ∨ 8 * e + p = 8 + p1 := fun e p he hp hi => by
    rcases n6.2.2.2.1 e p he hp with z | ⟨c', hc', e', _, po⟩
    · rw [hi] at z; exact absurd z (nI_m1 (by omega))
    · rw [hi] at e'
      have := nI_inj (by omega) (by omega) e'
      subst this
      have q : e = 0 ∨ e = 1 := by omega
      rcases q with rfl | rfl
      · have := nI_inj (by omega) (by omega) (po.symm.trans P0); omega
      · have := nI_inj (by omega) (by omega) (po.symm.trans P1); omega
  have i0 : J (A 11) p0 = nI c := by have := n6.2.1 c 0 p0 hc (by decide) h0 pl P0; rw [show 8 * 0 + p0 = p0 by omega] at this; exact this
  have i1 : J (A 11) (8 + p1) = nI c := by have := n6.2.1 c 1 p1 hc (by decide) h1 pl P1; rw [show 8 * 1 + p1 = 8 + p1 by omega] at this; exact this
  have lcd : ∀ e f, e < 8 → f < 2 → e ≠ c → LC2 I F (sR S) b e f := fun e f he hf ne => by
    obtain ⟨a1, a2, a3⟩ := f3 e f he hf
    rw [if_neg ne] at a2
    exact ⟨a1.1, a2, fun s hs => ⟨by rw [(a3 s hs).1], (a3 s hs).2.1, (a3 s hs).2.2⟩⟩
  have cnc : ∀ f, f < 2 → CN F (sR S) b c f = [] := fun f hf => by
    have := (f3 c f hc hf).2.1
    rw [if_pos rfl] at this
    unfold CN
    rw [this]
    rfl
  refine ⟨fun x hx => ?_, fun e f he hf => ?_, fun e f he hf => ?_, ⟨f6.trans n4a, m43.trans n4b, m32⟩, fun e he => ?_, ?_, ⟨fun e he => ?_, fun e p he hp => ?_, ?_⟩, ?_, fun e he ue => ?_, ?_, fun x hx dk => ?_⟩
  · by_cases q : x = p0 ∨ x = 8 + p1
    · have dr : DRK (sR S) b x I F := by rcases q with rfl | rfl; exact f2a; exact f2b
      obtain ⟨d7, d8, d9, d18⟩ := d x q
      have k := dk_port (re := I (En (sR S) b (x / 8))) (n1 x hx).1.1 (n1 x hx).1.2.1 d7 d8 d9 d18 (fun k j a b c1 c2 c3 c4 c5 c6 c7 c8 _ => jk k j a c1 c2 c3 c4 c5 c6 c8 (by omega) (by omega) (by omega) (by omega))
      rw [← dr.1, ← dr.2.1, ← dr.2.2] at k
      exact ⟨⟨k.1, k.2.1, fun z => absurd d7 z⟩, k.2.2.trans (n1 x hx).2⟩
    · have ag := f1 x hx (fun z => q (Or.inl z)) (fun z => q (Or.inr z))
      refine ⟨RP_h (n1 x hx).1 ag (fun k j a b _ o => ?_), by rw [ag.1]; exact (n1 x hx).2⟩
      rcases o with o | o
      · exact jo x (fun z => q (Or.inl z)) (fun z => q (Or.inr z)) k j a b o
      · exact jo 99 (by omega) (by omega) k j a b o
  · obtain ⟨a1, a2, a3⟩ := n2 e f he hf
    by_cases q : e = c
    · subst q
      refine ⟨?_, ?_, ?_⟩
      · rw [cnc f hf, tg']
        exact (fl_nil (fun q hq => by
          have := (List.mem_filter.mp hq).2
          simpa using this)).symm
      · rw [(f3 e f he hf).1.2, r26]; exact a2
      · have := (f3 e f he hf).2.1
        rw [if_pos rfl] at this
        exact ⟨0, by decide, this⟩
    · refine ⟨?_, ?_, ?_⟩
      · rw [CN_c (lcd e f he hf q), tg', flt_sub _ (fun a _ ha => ?_)]
        · exact a1
        · unfold isL at ha
          rw [decide_eq_true_eq] at ha
          unfold nc
          rw [ha.1]
          have : ¬ nI e = nI c := fun z => q (nI_inj (by omega) (by omega) z)
          simp [this]
      · rw [(f3 e f he hf).1.2, r26]; exact a2
      · rw [(lcd e f he hf q).2.1]; exact a3
  · by_cases q : e = c
    · subst q
      rw [cnc f hf]
      exact ⟨fun q hq => absurd hq List.not_mem_nil, List.Pairwise.nil⟩
    · rw [CN_c (lcd e f he hf q)]
      unfold bd
      rw [r23, r24]
      exact n3 e f he hf
  · rw [(f5 e he).1, (f5 e he).2, r1, r2]; exact n5 e he
  · obtain ⟨i1', i2', i3', i4', i5'⟩ := n6
    unfold RIj
    rw [r11, r22, r23, r24]
    refine ⟨fun e he ue => i1' e he (fun z => ?_), i2', i3', i4', fun e p he hp z => ?_⟩
    · by_cases q : e = c
      · subst q; exact ue uc
      · rw [u e q] at ue; exact ue z
    · by_cases q : 8 * e + p = p0 ∨ 8 * e + p = 8 + p1
      · obtain ⟨d7, _, d9, _⟩ := d _ q
        rcases z with z | z
        · exact absurd d7 z
        · rw [d9] at z; exact absurd z (by decide)
      · have o := jo (8 * e + p) (fun z => q (Or.inl z)) (fun z => q (Or.inr z))
        rw [o 7 _ (by decide) (by decide) (ow_x (by decide)), o 9 _ (by decide) (by decide) (ow_x (by decide))] at z
        obtain ⟨c', hc', e', u'⟩ := i5' e p he hp z
        have nc' : c' ≠ c := fun y => q (mine e p he hp (by rw [← y]; exact e'))
        exact ⟨c', hc', e', by rw [u c' nc']; exact u'⟩
  · show F (Cb (sR S) b e) 3 = _
    rw [(f4 e he).1]
    by_cases q : e = c
    · rw [if_pos q, q, uc]; rfl
    · rw [if_neg q, u e q]; exact n7.1 e he
  · show F (Pt (sR S) b e p) 2 = _
    rw [r11]
    have ep : Pt (sR S) b e p = px (sR S) b (8 * e + p) := by
      show _ = Pt (sR S) b ((8 * e + p) / 8) ((8 * e + p) % 8)
      rw [show (8 * e + p) / 8 = e by omega, show (8 * e + p) % 8 = p by omega]
    have hx : 8 * e + p < 16 := by omega
    have old : I (px (sR S) b (8 * e + p)) 2 = J (A 11) (8 * e + p) := (n1 _ hx).1.1.1
    rw [ep]
    by_cases q : 8 * e + p = p0 ∨ 8 * e + p = 8 + p1
    · have dr : DRK (sR S) b (8 * e + p) I F := by
        rcases q with q | q
        · rw [q]; exact f2a
        · rw [q]; exact f2b
      obtain ⟨d7, d8, d9, d18⟩ := d _ q
      have k := dk_port (re := I (En (sR S) b ((8 * e + p) / 8))) (n1 _ hx).1.1 (n1 _ hx).1.2.1 d7 d8 d9 d18 (fun k j a b c1 c2 c3 c4 c5 c6 c7 c8 _ => jk k j a c1 c2 c3 c4 c5 c6 c8 (by omega) (by omega) (by omega) (by omega))
      rw [dr.1, k.1.1, r11]
    · rw [(f1 _ hx (fun z => q (Or.inl z)) (fun z => q (Or.inr z))).1]
      exact old
  · rw [r24, r22]; exact n7.2.2
  · refine fun e he => ⟨?_, fun ue f p hf hp po => ?_⟩
    · by_cases q : e = c
      · rw [q]; exact Or.inl uc
      · rw [u e q]; exact (n8 e he).1
    rw [r22] at po
    have ne : e ≠ c := fun z => by subst z; exact ue uc
    rw [u e ne] at ue
    have ie := n6.2.1 e f p he hf hp (n6.1 e he ue) po
    have q : ¬ (8 * f + p = p0 ∨ 8 * f + p = 8 + p1) := fun z => by
      rcases z with z | z
      · rw [z, i0] at ie; exact ne (nI_inj (by omega) (by omega) ie).symm
      · rw [z, i1] at ie; exact ne (nI_inj (by omega) (by omega) ie).symm
    rw [jo (8 * f + p) (fun z => q (Or.inl z)) (fun z => q (Or.inr z)) 7 _ (by decide) (by decide) (ow_x (by decide))]
    exact (n8 e he).2 ue f p hf hp po
  · rw [(f4 e he).2, r23]
    rw [r24] at ue
    exact n9 e he ue
  · have all : ∀ q ∈ TG J' A n', ∃ e, e < 8 ∧ q 0 = nI e ∧ J' (A 25) e ≠ 0 := fun q hq => by
      rw [tg'] at hq
      obtain ⟨hm, hp⟩ := List.mem_filter.mp hq
      obtain ⟨t, ht, rfl⟩ := List.mem_map.mp hm
      obtain ⟨e, he, ee, ue⟩ := n10 t (List.mem_range.mp ht)
      have ee' : tg J A t 0 = nI e := ee
      have ne : e ≠ c := fun z => by
        subst z
        unfold nc at hp
        rw [ee'] at hp
        simp at hp
      exact ⟨e, he, ee', by rw [u e ne]; exact ue⟩
    intro t ht
    exact tg_mem all t ht
  · by_cases q : x = p0 ∨ x = 8 + p1
    · obtain ⟨d7, d8, d9, d18⟩ := d x q
      exact ⟨d8, d18⟩
    · have o := jo x (fun z => q (Or.inl z)) (fun z => q (Or.inr z))
      rw [o 7 x (by decide) (by decide) (ow_x (by decide))] at dk
      obtain ⟨z8, z18⟩ := n11 x hx dk
      exact ⟨by rw [o 8 x (by decide) (by decide) (ow_x (by decide))]; exact z8, fun k hk => by rw [o 18 _ (by decide) (by decide) (ow_5 (by decide) hk)]; exact z18 k hk⟩
