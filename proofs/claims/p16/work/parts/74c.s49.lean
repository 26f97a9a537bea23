/-! SIMULATION 49: a lane's frames that are due, on the class's side -/
theorem CF_k {S : MM} {b c e : Nat} {I : Mm} (hL : LY S b) (hc : c < 8) (he : e < 2) (h : FOK I (sR S) b c e) : ∀ z ∈ CF I (sR S) b c e, sK S z = 3 := fun z hz => by
  obtain ⟨k, hk, rfl⟩ := List.mem_map.mp hz
  exact ly_nn hL.1 (ly_fa hL hc he).2.1 rfl (h.2.2 k (List.mem_range.mp hk))
theorem tdf_0 {I : Mm} {R : Nat → Nat → Option Nat} {b c e : Nat} {v : Int32} (h : (I (Ln R b c e) 5).toNatClampNeg = 0) : f_X3_takeDueFrame I R b c e v = (I, none) := by
  unfold f_X3_takeDueFrame
  rw [if_pos h, if_pos h]
  split <;> rfl
theorem tdf_s {I : Mm} {R : Nat → Nat → Option Nat} {b c e : Nat} {v : Int32} (h : FOK I R b c e) (h5 : ¬ (I (Ln R b c e) 5).toNatClampNeg = 0) : f_X3_takeDueFrame I R b c e v = if I (fax I R b c e 0) 3 ≤ v then (popF I R b c e, some (fax I R b c e 0)) else (I, none) := by
  obtain ⟨⟨f, hf, ef⟩, hn, nn⟩ := h
  have q := nn 0 (by omega)
  have e0 : ((I (Ln R b c e) 4).toNatClampNeg + 0) % 200 = (I (Ln R b c e) 4).toNatClampNeg := by rw [ef, nI_cl (by omega)]; omega
  unfold fax
  rw [e0] at q ⊢
  unfold f_X3_takeDueFrame
  rw [if_neg q, if_neg h5]
  rfl
theorem KO_d {S : MM} {b z j k : Nat} {I I' : Mm} (hL : LY S b) (h : KO S b I I') (hz : sK S z = k) (h3 : k ≠ 3 ∨ j ≠ 6) (h8 : k ≠ 8 ∨ (j ≠ 8 ∧ j ≠ 4)) : I' z j = I z j := h z j (fun y => by
  rcases h3 with q | q
  · exact q (hz.symm.trans y.1)
  · exact q y.2) (fun y => by
  rcases h8 with q | q
  · exact q (hz.symm.trans (by rw [y.1]; exact hL.2))
  · rcases y.2 with w | w
    · exact q.1 w
    · exact q.2 w)
/-- what the frames of one lane leave as it was -/
def FXo (S : MM) (b c e : Nat) (I I' : Mm) : Prop := (∀ z j, sK S z = 3 → j ≠ 6 → I' z j = I z j) ∧ (∀ c' e', c' < 8 → e' < 2 → ¬ (c' = c ∧ e' = e) → ∀ k, I' (Ln (sR S) b c' e') k = I (Ln (sR S) b c' e') k) ∧ (∀ k, I' (En (sR S) b e) k = I (En (sR S) b e) k) ∧ I' (kad (sR S) b e) = I (kad (sR S) b e) ∧ I' b 2 = I b 2 ∧ ∀ z, sK S z = 7 → I' z = I z
theorem FXo.rf {S : MM} {b c e : Nat} {I : Mm} : FXo S b c e I I := ⟨fun _ _ _ _ => rfl, fun _ _ _ _ _ _ => rfl, fun _ => rfl, rfl, rfl, fun _ _ => rfl⟩
theorem FXo.tr {S : MM} {b c e : Nat} {I I1 I2 : Mm} (h : FXo S b c e I I1) (g : FXo S b c e I1 I2) : FXo S b c e I I2 := ⟨fun z j a b => (g.1 z j a b).trans (h.1 z j a b), fun c' e' a b d k => (g.2.1 c' e' a b d k).trans (h.2.1 c' e' a b d k), fun k => (g.2.2.1 k).trans (h.2.2.1 k), g.2.2.2.1.trans h.2.2.2.1, g.2.2.2.2.1.trans h.2.2.2.2.1, fun z a => (g.2.2.2.2.2 z a).trans (h.2.2.2.2.2 z a)⟩
theorem FXo_pop {S : MM} {b c e : Nat} {I : Mm} (hL : LY S b) (hO : OC S) (hc : c < 8) (he : e < 2) : FXo S b c e I (popF I (sR S) b c e) := by
  have kN := (ly_N hL hc he).2.1
  refine ⟨fun z j hz _ => by rw [popF_o (ne_k hz kN (by decide))], fun c' e' hc' he' n k => by rw [popF_o (fun y => n (i_Ln hL hO hc' hc he' he y))], fun k => by rw [popF_o (ne_k (ly_E hL he).2.1 kN (by decide))], by rw [popF_o (ne_k (ly_ka hL he).2.1 kN (by decide))], by rw [popF_o (ne_k hL.2 kN (by decide))], fun z hz => by rw [popF_o (ne_k hz kN (by decide))]⟩
theorem FXo_ko {S : MM} {b c e : Nat} {I I' : Mm} (hL : LY S b) (he : e < 2) (h : KO S b I I') : FXo S b c e I I' := ⟨fun z j hz hj => KO_d hL h hz (Or.inr hj) (Or.inl (by decide)), fun c' e' hc' he' _ k => KO_d hL h (ly_N hL hc' he').2.1 (Or.inl (by decide)) (Or.inl (by decide)), fun k => KO_d hL h (ly_E hL he).2.1 (Or.inl (by decide)) (Or.inl (by decide)), funext (fun j => KO_d hL h (ly_ka hL he).2.1 (Or.inl (by decide)) (Or.inl (by decide))), KO_d hL h hL.2 (Or.inl (by decide)) (Or.inr ⟨by decide, by decide⟩), fun z hz => funext (fun j => KO_d hL h hz (Or.inl (by decide)) (Or.inl (by decide)))⟩
theorem FXo_keep {S : MM} {b p c e : Nat} {I : Mm} {v w : Int32} (hL : LY S b) (hO : OC S) (he : e < 2) : FXo S b c e I (f_X1_keep I (sR S) b p (1 - e) v w) := by
  have he1 : 1 - e < 2 := by omega
  have kK := (ly_ka hL he1).2.1
  have kE := (ly_E hL he1).2.1
  have nE : En (sR S) b e ≠ En (sR S) b (1 - e) := fun y => by have := i_E hL hO he he1 y; omega
  have nK : kad (sR S) b e ≠ kad (sR S) b (1 - e) := fun y => by have := i_ka hL hO he he1 y; omega
  refine ⟨fun z j hz _ => by rw [keep_row (ne_k hz kK (by decide)) (ne_k hz kE (by decide))], fun c' e' hc' he' _ k => by rw [keep_row (ne_k (ly_N hL hc' he').2.1 kK (by decide)) (ne_k (ly_N hL hc' he').2.1 kE (by decide))], fun k => by rw [keep_row (ne_k (ly_E hL he).2.1 kK (by decide)) nE], by rw [keep_row nK (ne_k (ly_ka hL he).2.1 kE (by decide))], by rw [keep_row (ne_k hL.2 kK (by decide)) (ne_k hL.2 kE (by decide))], fun z hz => by rw [keep_row (ne_k hz kK (by decide)) (ne_k hz kE (by decide))]⟩
def dEc (I : Mm) (R : Nat → Nat → Option Nat) (p : Nat) (w : Int32) (z : Nat) : FD := (I ((R p 0).getD 0) 3, I z 0, I z 1, w)
def dueB (I : Mm) (cl z : Nat) : Bool := decide (I z 3 = nI cl)
/-- what a lane gives: the frames that are due, if the port collects -/
def dLc (I : Mm) (R : Nat → Nat → Option Nat) (b p c e cl : Nat) : List FD := if f_X6_has I ((R p 0).getD 0) (nI 16) = 0 then [] else ((CF I R b c e).filter (dueB I cl)).map (dEc I R p (nI cl))
theorem EKc_ko {S : MM} {b e : Nat} {I I' : Mm} {s : EK} (hL : LY S b) (he : e < 2) (h : KO S b I I') (hs : EKc I (sR S) b e s) : EKc I' (sR S) b e s := EKc_e hs (fun k _ => KO_d hL h (ly_E hL he).2.1 (Or.inl (by decide)) (Or.inl (by decide))) (funext (fun j => KO_d hL h (ly_ka hL he).2.1 (Or.inl (by decide)) (Or.inl (by decide))))
theorem EKc_pop {S : MM} {b c e e' : Nat} {I : Mm} {s : EK} (hL : LY S b) (hc : c < 8) (he : e < 2) (he' : e' < 2) (hs : EKc I (sR S) b e' s) : EKc (popF I (sR S) b c e) (sR S) b e' s := EKc_e hs (fun k _ => by rw [popF_o (ne_k (ly_E hL he').2.1 (ly_N hL hc he).2.1 (by decide))]) (by rw [popF_o (ne_k (ly_ka hL he').2.1 (ly_N hL hc he).2.1 (by decide))])
theorem nI_j2 {a b : Nat} (ha : a < 2 ^ 31) (hb : b < 2 ^ 31) (h : nI a = nI b) : a = b := by
  have := congrArg Int32.toNatClampNeg h
  rwa [nI_cl ha, nI_cl hb] at this
theorem bf_0 {R : Nat → Nat → Option Nat} {b p c e r i : Nat} {I I5 : Mm} (h : f_X3_takeDueFrame I R b c e (I b 2) = (I5, none)) : g_X7_bringFrames_3 R b p c e (r + 1) i I = I5 := by
  rw [g_X7_bringFrames_3, h]
  rfl
theorem bf_dr {R : Nat → Nat → Option Nat} {b p c e r i a : Nat} {I I5 : Mm} (h : f_X3_takeDueFrame I R b c e (I b 2) = (I5, some a)) (hz : f_X6_has I5 ((R p 0).getD 0) (nI 16) = 0) : g_X7_bringFrames_3 R b p c e (r + 1) i I = g_X7_bringFrames_3 R b p c e r (i + 1) (up2 I5 b 4 (I5 b 4 + nI 1)) := by
  rw [g_X7_bringFrames_3, h]
  dsimp only
  rw [if_neg (by simp), if_pos hz]
theorem bf_rc {R : Nat → Nat → Option Nat} {b p c e r i a : Nat} {I I5 : Mm} (h : f_X3_takeDueFrame I R b c e (I b 2) = (I5, some a)) (hz : ¬ f_X6_has I5 ((R p 0).getD 0) (nI 16) = 0) : g_X7_bringFrames_3 R b p c e (r + 1) i I = g_X7_bringFrames_3 R b p c e r (i + 1) (f_X7_receive I5 R b a p e) := by
  rw [g_X7_bringFrames_3, h]
  dsimp only
  rw [if_neg (by simp), if_neg hz]
  rfl
theorem flt_none {L : List Nat} {I : Mm} {cl a B : Nat} (hB : B < 2 ^ 31) (hcl : cl < a) (h : DF I L a B) : L.filter (dueB I cl) = [] ∧ L.filter (fun z => !(dueB I cl z)) = L := by
  have nd : ∀ z ∈ L, dueB I cl z = false := fun z hz => by
    obtain ⟨d, ed, h1, h2⟩ := h.1 z hz
    unfold dueB
    rw [ed]
    exact decide_eq_false (fun y => by have := nI_j2 (by omega) (by omega) y; omega)
  exact ⟨List.filter_eq_nil_iff.mpr (fun z hz => by rw [nd z hz]; decide), List.filter_eq_self.mpr (fun z hz => by rw [nd z hz]; rfl)⟩
theorem bfr {S : MM} {b p c e cl B : Nat} (hL : LY S b) (hO : OC S) (hc : c < 8) (he : e < 2) (kow : sK S ((sR S p 0).getD 0) = 7) (hB : B < 2 ^ 31) (hcl : cl < 2 ^ 31) : ∀ r i (I : Mm) (s : EK), I b 2 = nI cl → FOK I (sR S) b c e → (I (Ln (sR S) b c e) 5).toNatClampNeg ≤ r → DF I (CF I (sR S) b c e) cl B → EKc I (sR S) b (1 - e) s → s.1 + (CF I (sR S) b c e).length < 2000000000 → CF (g_X7_bringFrames_3 (sR S) b p c e r i I) (sR S) b c e = (CF I (sR S) b c e).filter (fun z => !(dueB I cl z)) ∧ FOK (g_X7_bringFrames_3 (sR S) b p c e r i I) (sR S) b c e ∧ EKc (g_X7_bringFrames_3 (sR S) b p c e r i I) (sR S) b (1 - e) ((dLc I (sR S) b p c e cl).foldl kp s) ∧ FXo S b c e I (g_X7_bringFrames_3 (sR S) b p c e r i I) := by
  have he1 : 1 - e < 2 := by omega
  intro r
  induction r with
  | zero =>
    intro i I s vb fok hr df ek hs
    have h0 : (I (Ln (sR S) b c e) 5).toNatClampNeg = 0 := by omega
    have nil : CF I (sR S) b c e = [] := by unfold CF; rw [h0]; rfl
    have dn : dLc I (sR S) b p c e cl = [] := by unfold dLc; rw [nil]; split <;> rfl
    rw [nil, dn]
    exact ⟨nil, fok, ek, FXo.rf⟩
  | succ r ih =>
    intro i I s vb fok hr df ek hs
    by_cases h0 : (I (Ln (sR S) b c e) 5).toNatClampNeg = 0
    · have nil : CF I (sR S) b c e = [] := by unfold CF; rw [h0]; rfl
      have dn : dLc I (sR S) b p c e cl = [] := by unfold dLc; rw [nil]; split <;> rfl
      rw [bf_0 (tdf_0 h0), nil, dn]
      exact ⟨rfl, fok, ek, FXo.rf⟩
    · obtain ⟨n, hn, en⟩ := fok.2.1
      have e5 : (I (Ln (sR S) b c e) 5).toNatClampNeg = n := by rw [en, nI_cl (by omega)]
      obtain ⟨k, rfl⟩ : ∃ k, n = k + 1 := ⟨n - 1, by omega⟩
      have cons := CF_cons (I := I) (R := sR S) (b := b) (c := c) (e := e) (n := k) (by omega) en
      have kz := CF_k hL hc he fok
      have tk := tdf_s (v := I b 2) fok h0
      rw [vb] at tk
      obtain ⟨d, ed, d1, d2⟩ := df.1 (fax I (sR S) b c e 0) (by rw [cons]; exact List.mem_cons_self)
      by_cases hd : d ≤ cl
      · have dcl : d = cl := by omega
        subst dcl
        have ka : sK S (fax I (sR S) b c e 0) = 3 := kz _ (by rw [cons]; exact List.mem_cons_self)
        have fokP := FOK_pop (R := sR S) (b := b) (c := c) (e := e) (n := k) (by omega) en fok
        have fxP := FXo_pop (I := I) hL hO hc he
        have ekP := EKc_pop (c := c) (e := e) hL hc he he1 ek
        have p5 : (popF I (sR S) b c e (Ln (sR S) b c e) 5).toNatClampNeg = k := by rw [popF_5, e5, nI_cl (by omega)]; omega
        have dueA : dueB I d (fax I (sR S) b c e 0) = true := decide_eq_true ed
        have rowA : ∀ j, popF I (sR S) b c e (fax I (sR S) b c e 0) j = I (fax I (sR S) b c e 0) j := fun j => by rw [popF_o (ne_k ka (ly_N hL hc he).2.1 (by decide))]
        have vP : popF I (sR S) b c e b 2 = nI d := fxP.2.2.2.2.1.trans vb
        have oP := fxP.2.2.2.2.2 _ kow
        rw [if_pos (by rw [ed]; exact (nle hcl hcl).mpr (Nat.le_refl _)), ← vb] at tk
        -- the rest, once one frame is off the lane
        have go : ∀ (I6 : Mm) (s6 : EK), KO S b (popF I (sR S) b c e) I6 ∨ (∃ v w, KO S b (f_X1_keep (popF I (sR S) b c e) (sR S) b (fax I (sR S) b c e 0) (1 - e) v w) I6) → EKc I6 (sR S) b (1 - e) s6 → s6.1 ≤ s.1 + 1 → CF (g_X7_bringFrames_3 (sR S) b p c e r (i + 1) I6) (sR S) b c e = (CF I (sR S) b c e).filter (fun z => !(dueB I d z)) ∧ FOK (g_X7_bringFrames_3 (sR S) b p c e r (i + 1) I6) (sR S) b c e ∧ EKc (g_X7_bringFrames_3 (sR S) b p c e r (i + 1) I6) (sR S) b (1 - e) ((if f_X6_has I ((sR S p 0).getD 0) (nI 16) = 0 then [] else ((CF (popF I (sR S) b c e) (sR S) b c e).filter (dueB I d)).map (dEc I (sR S) p (nI d))).foldl kp s6) ∧ FXo S b c e I (g_X7_bringFrames_3 (sR S) b p c e r (i + 1) I6) := fun I6 s6 ko ek6 hs6 => by
          have fx6 : FXo S b c e (popF I (sR S) b c e) I6 := by
            rcases ko with q | ⟨v, w, q⟩
            · exact FXo_ko hL he q
            · exact (FXo_keep hL hO he).tr (FXo_ko hL he q)
          have ln6 : ∀ j, I6 (Ln (sR S) b c e) j = popF I (sR S) b c e (Ln (sR S) b c e) j := fun j => by
            rcases ko with q | ⟨v, w, q⟩
            · exact KO_d hL q (ly_N hL hc he).2.1 (Or.inl (by decide)) (Or.inl (by decide))
            · rw [KO_d hL q (ly_N hL hc he).2.1 (Or.inl (by decide)) (Or.inl (by decide)), keep_row (ne_k (ly_N hL hc he).2.1 (ly_ka hL he1).2.1 (by decide)) (ne_k (ly_N hL hc he).2.1 (ly_E hL he1).2.1 (by decide))]
          have fxI := fxP.tr fx6
          have cf6 : CF I6 (sR S) b c e = CF (popF I (sR S) b c e) (sR S) b c e := CF_e (ln6 4) (ln6 5)
          have mem : ∀ z ∈ CF (popF I (sR S) b c e) (sR S) b c e, z ∈ CF I (sR S) b c e := fun z hz => by rw [cons]; exact List.mem_cons_of_mem _ hz
          have r6 : ∀ z ∈ CF (popF I (sR S) b c e) (sR S) b c e, ∀ j, j ≠ 6 → I6 z j = I z j := fun z hz j hj => fxI.1 z j (kz z (mem z hz)) hj
          have df6 : DF I6 (CF I6 (sR S) b c e) d B := by
            rw [cf6]
            refine DF_e ⟨fun z hz => df.1 z (mem z hz), ?_⟩ (fun z hz => r6 z hz 3 (by decide))
            have := df.2
            rw [cons] at this
            exact (List.pairwise_cons.mp this).2
          have len : (CF I (sR S) b c e).length = (CF (popF I (sR S) b c e) (sR S) b c e).length + 1 := by rw [cons]; rfl
          obtain ⟨q1, q2, q3, q4⟩ := ih (i + 1) I6 s6 (fxI.2.2.2.2.1.trans vb) (FOK_e (ln6 4) (ln6 5) fokP) (by rw [ln6 5, p5]; omega) df6 ek6 (by rw [cf6]; omega)
          have fe : ∀ z ∈ CF (popF I (sR S) b c e) (sR S) b c e, dueB I6 d z = dueB I d z := fun z hz => by unfold dueB; rw [r6 z hz 3 (by decide)]
          have o6 : I6 ((sR S p 0).getD 0) = I ((sR S p 0).getD 0) := fxI.2.2.2.2.2 _ kow
          refine ⟨?_, q2, ?_, fxI.tr q4⟩
          · rw [q1, cf6, cons, List.filter_cons_of_neg (by rw [dueA]; decide)]
            exact List.filter_congr (fun z hz => by rw [fe z hz])
          · have hh : f_X6_has I6 ((sR S p 0).getD 0) (nI 16) = f_X6_has I ((sR S p 0).getD 0) (nI 16) := by unfold f_X6_has; rw [o6]
            have dl : dLc I6 (sR S) b p c e d = (if f_X6_has I ((sR S p 0).getD 0) (nI 16) = 0 then [] else ((CF (popF I (sR S) b c e) (sR S) b c e).filter (dueB I d)).map (dEc I (sR S) p (nI d))) := by
              unfold dLc
              rw [hh, cf6, List.filter_congr (fun z hz => fe z hz)]
              split
              · rfl
              · refine List.map_congr_left (fun z hz => ?_)
                have hz' := (List.mem_filter.mp hz).1
                unfold dEc
                rw [o6, r6 z hz' 0 (by decide), r6 z hz' 1 (by decide)]
            rw [← dl]
            exact q3
        have hasP : f_X6_has (popF I (sR S) b c e) ((sR S p 0).getD 0) (nI 16) = f_X6_has I ((sR S p 0).getD 0) (nI 16) := by unfold f_X6_has; rw [oP]
        by_cases hz : f_X6_has I ((sR S p 0).getD 0) (nI 16) = 0
        · rw [bf_dr tk (by rw [hasP]; exact hz)]
          have ko : KO S b (popF I (sR S) b c e) (up2 (popF I (sR S) b c e) b 4 (popF I (sR S) b c e b 4 + nI 1)) := KO.rf.b (Or.inr rfl)
          have g := go _ s (Or.inl ko) (EKc_ko hL he1 ko ekP) (by omega)
          unfold dLc
          rw [if_pos hz] at g ⊢
          exact g
        · rw [bf_rc tk (by rw [hasP]; exact hz)]
          have ko := ko_receive (p := fax I (sR S) b c e 0) (q := p) (I := popF I (sR S) b c e) hL he
          have kk := keep_ek (p := fax I (sR S) b c e 0) (v := popF I (sR S) b c e ((sR S p 0).getD 0) 3) (w := popF I (sR S) b c e b 2) hL he1 ka ekP (by omega)
          have g := go _ _ (Or.inr ⟨_, _, ko⟩) (EKc_ko hL he1 ko kk) (Nat.le_refl _)
          unfold dLc
          rw [if_neg hz] at g ⊢
          rw [cons, List.filter_cons_of_pos dueA, List.map_cons, List.foldl_cons]
          have e1 : dEc I (sR S) p (nI d) (fax I (sR S) b c e 0) = (popF I (sR S) b c e ((sR S p 0).getD 0) 3, popF I (sR S) b c e (fax I (sR S) b c e 0) 0, popF I (sR S) b c e (fax I (sR S) b c e 0) 1, popF I (sR S) b c e b 2) := by
            unfold dEc
            rw [rowA 0, rowA 1, vP, oP]
          rw [e1]
          rw [cons] at g
          exact g
      · rw [if_neg (by rw [ed]; exact fun y => hd ((nle hcl (by omega)).mp y)), ← vb] at tk
        rw [bf_0 tk]
        have df2 : DF I (CF I (sR S) b c e) (cl + 1) B := by
          refine ⟨fun z hz => ?_, df.2⟩
          rw [cons] at hz
          rcases List.mem_cons.mp hz with rfl | hz
          · exact ⟨d, ed, by omega, d2⟩
          · have pw := df.2
            rw [cons] at pw
            have le := (List.pairwise_cons.mp pw).1 z hz
            obtain ⟨d', ed', h1, h2⟩ := df.1 z (by rw [cons]; exact List.mem_cons_of_mem _ hz)
            rw [ed, ed', nI_cl (by omega), nI_cl (by omega)] at le
            exact ⟨d', ed', by omega, h2⟩
        obtain ⟨f1, f2⟩ := flt_none hB (Nat.lt_succ_self cl) df2
        have dn : dLc I (sR S) b p c e cl = [] := by unfold dLc; rw [f1]; split <;> rfl
        rw [f2, dn]
        exact ⟨rfl, fok, ek, FXo.rf⟩
