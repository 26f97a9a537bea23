/-! comes -/
theorem u_X8_comes_0 {Q : Option Value → MM → Prop} {n : Nat} {lv : Lv} {st : List Value} {S : MM} {c z : Nat} (h : bX8_comes_0 Q (wpn (kX8_comes Q) n) lv st S c z) : wpn (kX8_comes Q) (n + 1) 0 lv st S c z := h
theorem u_X8_comes_16 {Q : Option Value → MM → Prop} {n : Nat} {lv : Lv} {st : List Value} {S : MM} {c z : Nat} (h : bX8_comes_16 Q (wpn (kX8_comes Q) n) lv st S c z) : wpn (kX8_comes Q) (n + 1) 16 lv st S c z := h
theorem u_X8_comes_35 {Q : Option Value → MM → Prop} {n : Nat} {lv : Lv} {st : List Value} {S : MM} {c z : Nat} (h : bX8_comes_35 Q (wpn (kX8_comes Q) n) lv st S c z) : wpn (kX8_comes Q) (n + 1) 35 lv st S c z := h
theorem u_X8_comes_37 {Q : Option Value → MM → Prop} {n : Nat} {lv : Lv} {st : List Value} {S : MM} {c z : Nat} (h : bX8_comes_37 Q (wpn (kX8_comes Q) n) lv st S c z) : wpn (kX8_comes Q) (n + 1) 37 lv st S c z := h
theorem u_X8_comes_45 {Q : Option Value → MM → Prop} {n : Nat} {lv : Lv} {st : List Value} {S : MM} {c z : Nat} (h : bX8_comes_45 Q (wpn (kX8_comes Q) n) lv st S c z) : wpn (kX8_comes Q) (n + 1) 45 lv st S c z := h
theorem u_X8_comes_79 {Q : Option Value → MM → Prop} {n : Nat} {lv : Lv} {st : List Value} {S : MM} {c z : Nat} (h : bX8_comes_79 Q (wpn (kX8_comes Q) n) lv st S c z) : wpn (kX8_comes Q) (n + 1) 79 lv st S c z := h
theorem u_X8_comes_119 {Q : Option Value → MM → Prop} {n : Nat} {lv : Lv} {st : List Value} {S : MM} {c z : Nat} (h : bX8_comes_119 Q (wpn (kX8_comes Q) n) lv st S c z) : wpn (kX8_comes Q) (n + 1) 119 lv st S c z := h
theorem u_X8_comes_126 {Q : Option Value → MM → Prop} {n : Nat} {lv : Lv} {st : List Value} {S : MM} {c z : Nat} (h : bX8_comes_126 Q (wpn (kX8_comes Q) n) lv st S c z) : wpn (kX8_comes Q) (n + 1) 126 lv st S c z := h
theorem u_X8_comes_132 {Q : Option Value → MM → Prop} {n : Nat} {lv : Lv} {st : List Value} {S : MM} {c z : Nat} (h : bX8_comes_132 Q (wpn (kX8_comes Q) n) lv st S c z) : wpn (kX8_comes Q) (n + 1) 132 lv st S c z := h
theorem u_X8_comes_138 {Q : Option Value → MM → Prop} {n : Nat} {lv : Lv} {st : List Value} {S : MM} {c z : Nat} (h : bX8_comes_138 Q (wpn (kX8_comes Q) n) lv st S c z) : wpn (kX8_comes Q) (n + 1) 138 lv st S c z := h
theorem u_X8_comes_142 {Q : Option Value → MM → Prop} {n : Nat} {lv : Lv} {st : List Value} {S : MM} {c z : Nat} (h : bX8_comes_142 Q (wpn (kX8_comes Q) n) lv st S c z) : wpn (kX8_comes Q) (n + 1) 142 lv st S c z := h
theorem u_X8_comes_166 {Q : Option Value → MM → Prop} {n : Nat} {lv : Lv} {st : List Value} {S : MM} {c z : Nat} (h : bX8_comes_166 Q (wpn (kX8_comes Q) n) lv st S c z) : wpn (kX8_comes Q) (n + 1) 166 lv st S c z := h
theorem u_X8_comes_175 {Q : Option Value → MM → Prop} {n : Nat} {lv : Lv} {st : List Value} {S : MM} {c z : Nat} (h : bX8_comes_175 Q (wpn (kX8_comes Q) n) lv st S c z) : wpn (kX8_comes Q) (n + 1) 175 lv st S c z := h
theorem u_X8_comes_181 {Q : Option Value → MM → Prop} {n : Nat} {lv : Lv} {st : List Value} {S : MM} {c z : Nat} (h : bX8_comes_181 Q (wpn (kX8_comes Q) n) lv st S c z) : wpn (kX8_comes Q) (n + 1) 181 lv st S c z := h
abbrev TQ : Type := Int32 × Int32 × Int32 × Int32
def isF (q : TQ) : Bool := !(decide (q.2.2.2 = -1))
def dC (cl : Int32) (q : TQ) : Bool := decide (q.2.2.1 = cl)
def eC (c : Nat) (q : TQ) : Bool := decide (q.1 = nI c)
def pD (cl : Int32) (q : TQ) : Bool := !(dC cl q)
def fD (cl : Int32) (q : TQ) : Bool := isF q && dC cl q
def pre : Nat → TQ → Bool
  | 0, _ => false
  | c + 1, q => pre c q || eC c q
theorem pre_ex : ∀ c q, pre c q = true → ∃ d, d < c ∧ q.1 = nI d
  | 0, q, h => by simp [pre] at h
  | c + 1, q, h => by
    rcases (Bool.or_eq_true _ _).mp h with z | z
    · obtain ⟨d, h1, h2⟩ := pre_ex c q z
      exact ⟨d, by omega, h2⟩
    · exact ⟨c, by omega, by simpa [eC] using z⟩
theorem cnt_or (p r : TQ → Bool) : ∀ L : List TQ, (∀ q ∈ L, p q = true → r q = false) → L.countP p + L.countP r = L.countP (fun q => p q || r q)
  | [], _ => rfl
  | a :: L, h => by
    have ih := cnt_or p r L (fun q hq => h q (List.mem_cons_of_mem _ hq))
    have ha := h a (List.mem_cons_self ..)
    rw [List.countP_cons, List.countP_cons, List.countP_cons]
    cases hp : p a <;> cases hr : r a
    · simp; omega
    · simp; omega
    · simp; omega
    · rw [hp] at ha
      rw [ha rfl] at hr
      cases hr
theorem cnt_pre {c : Nat} {cl : Int32} {L : List TQ} (hc : c < 8) : L.countP (fun q => pre c q && fD cl q) + L.countP (fun q => eC c q && fD cl q) = L.countP (fun q => pre (c + 1) q && fD cl q) := by
  rw [cnt_or (fun q => pre c q && fD cl q) (fun q => eC c q && fD cl q) L (fun q _ h => ?_)]
  · congr 1
    funext q
    show (pre c q && fD cl q || eC c q && fD cl q) = ((pre c q || eC c q) && fD cl q)
    cases pre c q <;> cases eC c q <;> cases fD cl q <;> rfl
  · have h1 := ((Bool.and_eq_true _ _).mp h).1
    obtain ⟨d, d1, d2⟩ := pre_ex c q h1
    have : eC c q = false := by
      unfold eC
      rw [d2]
      exact decide_eq_false (fun z => by have := nI_inj (by omega) (by omega) z; omega)
    simp [this]
theorem cnt_s {p : TQ → Bool} {S : MM} {A : Nat → Nat} {t : Nat} : (TL S A (t + 1)).countP p = (TL S A t).countP p + if p (th S A t) = true then 1 else 0 := by rw [TL_s, List.countP_append, List.countP_singleton]
def CM (S : MM) (A : Nat → Nat) (N : Nat) : Prop := ∃ n0 n1, sI S (A 42) 0 = nI n0 ∧ sI S (A 42) 1 = nI n1 ∧ n0 + n1 ≤ N
theorem CM_eq {S S' : MM} {A : Nat → Nat} {N M : Nat} (h : CM S A N) (e : sI S' (A 42) = sI S (A 42)) (hN : N ≤ M) : CM S' A M := by
  obtain ⟨n0, n1, h0, h1, h2⟩ := h
  exact ⟨n0, n1, by rw [e]; exact h0, by rw [e]; exact h1, by omega⟩
theorem CM_at {S : MM} {A : Nat → Nat} {N e : Nat} (h : CM S A N) (he : e < 2) (hN : N < 2147483000) : ∃ k, k < 2147483000 ∧ sI S (A 42) e = nI k ∧ ∀ S' : MM, (sI S' (A 42) = sI S (A 42) ∨ sI S' (A 42) = upd (sI S (A 42)) e (nI (k + 1))) → CM S' A (N + 1) := by
  obtain ⟨n0, n1, h0, h1, h2⟩ := h
  have : e = 0 ∨ e = 1 := by omega
  rcases this with rfl | rfl
  · refine ⟨n0, by omega, h0, fun S' h => ?_⟩
    rcases h with h | h
    · exact ⟨n0, n1, by rw [h]; exact h0, by rw [h]; exact h1, by omega⟩
    · exact ⟨n0 + 1, n1, by rw [h, pk_us], by rw [h, pk_un (by decide)]; exact h1, by omega⟩
  · refine ⟨n1, by omega, h1, fun S' h => ?_⟩
    rcases h with h | h
    · exact ⟨n0, n1, by rw [h]; exact h0, by rw [h]; exact h1, by omega⟩
    · exact ⟨n0, n1 + 1, by rw [h, pk_un (by decide)]; exact h0, by rw [h, pk_us], by omega⟩
def LC (lv : Lv) (m c : Nat) (r : Int32) : Prop := lvg lv 0 = some (.ref m) ∧ lvg lv 1 = some (.int r) ∧ lvg lv 2 = some (.int (nI c))
theorem LC_s {lv : Lv} {m c i : Nat} {r : Int32} {w : Value} (h : LC lv m c r) (hi : 2 < i) : LC (lvs lv i w) m c r := ⟨lvg_ne h.1 rfl (by omega), lvg_ne h.2.1 rfl (by omega), lvg_ne h.2.2 rfl (by omega)⟩
def JC (S0 : MM) (m : Nat) (A : Nat → Nat) (N : Nat) (S : MM) : Prop := SM [7, 8, 14, 15, 17, 18, 38, 41, 42, 45, 49] m A S0 S ∧ IM S m A ∧ RV S A ∧ CM S A N
theorem q_cm45 {Q : Option Value → MM → Prop} {S0 : MM} {m c nt F f0 N0 : Nat} {A : Nat → Nat} {cl r1 : Int32} (hM : MS S0 m A) (hI : IV S0 m A nt) (hc : c < 8) (e39 : sI S0 m 39 = nI F) (hF : F < 4201) (e43 : sI S0 m 43 = cl) (hN : N0 < 2100000000) (K : ∀ f lv S, f0 ≤ f → LC lv m c r1 → JC S0 m A (N0 + (TL S0 A nt).countP (fun q => eC c q && fD cl q)) S → wpn (kX8_comes Q) f 132 lv [] S 0 0) : ∀ (r t f : Nat) (lv : Lv) (S : MM), t + r = nt → f0 + 4 * r + 1 ≤ f → LC lv m c r1 → lvg lv 3 = some (.int (nI t)) → JC S0 m A (N0 + (TL S0 A t).countP (fun q => eC c q && fD cl q)) S → wpn (kX8_comes Q) f 45 lv [] S 0 0 := by
  obtain ⟨i1, i2, i3, i4, i5⟩ := hI
  intro r
  induction r with
  | zero =>
    intro t f lv S ht hf L l3 hJ
    have et : t = nt := by omega
    subst et
    obtain ⟨g, rfl⟩ : ∃ g, f = g + 1 := ⟨f - 1, by omega⟩
    refine u_X8_comes_45 ?_
    unfold bX8_comes_45
    exact e_ldI l3 (e_ldA L.1 (e_gV (v := nI t) (SM_k hJ.1 hM.1) ((hJ.1.2.2.2.2.2 32 (by decide)).trans i3) (e_ge (by omega) (by omega) (fun _ => K g lv S (by omega) L hJ) (fun h => absurd h (by omega)))))
  | succ r ih =>
    intro t f lv S ht hf L l3 hJ
    obtain ⟨sh, im, rv, cm⟩ := hJ
    have hM1 := MS_SM hM sh
    obtain ⟨g, rfl⟩ : ∃ g, f = g + 4 := ⟨f - 4, by omega⟩
    have hth : th S A t = th S0 A t := th_SM sh hM (by decide) t
    have cle : (TL S0 A t).countP (fun q => eC c q && fD cl q) ≤ 4000 := Nat.le_trans List.countP_le_length (by unfold TL; rw [List.length_map, List.length_range]; omega)
    have s126 : ∀ lv' S' f', g ≤ f' → LC lv' m c r1 → lvg lv' 3 = some (.int (nI t)) → JC S0 m A (N0 + (TL S0 A (t + 1)).countP (fun q => eC c q && fD cl q)) S' → wpn (kX8_comes Q) (f' + 1) 126 lv' [] S' 0 0 := fun lv' S' f' hf' L' l3' hJ' => by
      refine u_X8_comes_126 ?_
      unfold bX8_comes_126
      exact e_inc l3' (ih (t + 1) f' _ S' (by omega) (by omega) (LC_s L' (by decide)) lvg_self hJ')
    have same : JC S0 m A (N0 + (TL S0 A (t + 1)).countP (fun q => eC c q && fD cl q)) S := ⟨sh, im, rv, CM_eq cm rfl (by rw [cnt_s]; omega)⟩
    obtain ⟨d, hd, ed⟩ := im.1 27 8 rfl t
    refine u_X8_comes_45 ?_
    unfold bX8_comes_45
    refine e_ldI l3 (e_ldA L.1 (e_gV (v := nI nt) (SM_k sh hM.1) ((sh.2.2.2.2.2 32 (by decide)).trans i3) (e_ge (by omega) (by omega) (fun h => absurd h (by omega)) (fun _ => ?_))))
    refine e_ldA L.1 (e_gR hM1.1 (hM1.2.1 27 (by decide)).1 (e_ldI l3 (e_aV (N := 4000) (v := nI d) (kdA hM1 (by decide) rfl) (lnA hM1 (by decide) rfl) (by omega) (by decide) ed (e_ldI L.2.2 (e_eq (by omega) (by omega) (fun hdc => ?_) (fun _ => s126 lv S (g + 2) (by omega) L l3 same))))))
    subst hdc
    refine e_ldA L.1 (e_gR hM1.1 (hM1.2.1 29 (by decide)).1 (e_ldI l3 (e_aI (N := 4000) (kdA hM1 (by decide) rfl) (lnA hM1 (by decide) rfl) (by omega) (by decide) (fun v29 h29 => e_ldA L.1 (e_gV (v := cl) hM1.1 ((sh.2.2.2.2.2 43 (by decide)).trans e43) ⟨fun hq => u_X8_comes_79 ?_, fun _ => s126 lv S (g + 2) (by omega) L l3 same⟩)))))
    obtain ⟨e, he, ee⟩ := im.1 28 2 rfl t
    unfold bX8_comes_79
    refine e_ldA L.1 (e_ldI L.2.2 (e_cN 1 rfl (e_ldA L.1 (e_gR hM1.1 (hM1.2.1 28 (by decide)).1 (e_ldI l3 (e_aV (N := 4000) (v := nI e) (kdA hM1 (by decide) rfl) (lnA hM1 (by decide) rfl) (by omega) (by decide) ee (e_sub (by omega) (And.intro hM1.1 (And.intro ⟨by decide, by decide⟩ (z_f_portAt hM1 im hd (show 1 - e < 2 by omega) (fun p hp ep => e_stI ?_)))))))))))
    have L' := LC_s (w := .int (nI (8 * (1 - e) + p))) L (show 2 < 4 by decide)
    have l3' : lvg (lvs lv 4 (.int (nI (8 * (1 - e) + p)))) 3 = some (.int (nI t)) := lvg_ne l3 rfl (by decide)
    have up : sI S (A 25) d ≠ 0 := by
      obtain ⟨c2, q1, q2, q3⟩ := i5 (th S0 A t) (List.mem_map.mpr ⟨t, List.mem_range.mpr (by omega), rfl⟩)
      have ec : c2 = d := nI_inj (by omega) (by omega) (q2.symm.trans (by rw [← hth]; exact ed))
      rw [SM_a sh hM (k := 25) (by decide) (by decide), ← ec]
      exact q3
    have hl : ∃ c, c < 8 ∧ sI S (A 11) (8 * (1 - e) + p) = nI c ∧ sI S (A 25) c ≠ 0 := ⟨d, hd, rv.2.1 d (1 - e) p hd (by omega) hp (rv.1 d hd up) ep, up⟩
    refine e_ldA L'.1 (e_gR hM1.1 (hM1.2.1 30 (by decide)).1 (e_ldI l3' (e_aI (N := 4000) (kdA hM1 (by decide) rfl) (lnA hM1 (by decide) rfl) (by omega) (by decide) (fun v30 h30 => e_cI ⟨fun _ => u_X8_comes_119 ?_, fun hn => ?_⟩))))
    · unfold bX8_comes_119
      refine e_ldA L'.1 (e_ldI l3' (e_ldI lvg_self (And.intro hM1.1 (And.intro ⟨by decide, by decide⟩ (z_v_noteComes hM1 im rv (by omega) (show 8 * (1 - e) + p < 16 by omega) hl (fun S' s' im' rv' => s126 _ S' g (Nat.le_refl _) L' l3' ⟨SM.tr sh s' (by decide), im', rv', CM_eq cm (SM_a s' hM1 (by decide) (by decide)) (by rw [cnt_s]; omega)⟩))))))
    · obtain ⟨fr, hfr, efr⟩ : ∃ f, f < 4200 ∧ v30 = nI f := by
        rcases im.2.2 t with z | ⟨f, h1, h2⟩
        · exact absurd (h30.symm.trans z) hn
        · exact ⟨f, h1, h30.symm.trans h2⟩
      subst efr
      have ex : (8 * (1 - e) + p) / 8 = 1 - e := by omega
      obtain ⟨k, hk, ek, hup⟩ := CM_at (e := 1 - e) cm (by omega) (by omega)
      have pt : (eC d (th S0 A t) && fD cl (th S0 A t)) = true := by
        rw [← hth]
        unfold eC fD isF dC th
        rw [show sI S (A 27) t = nI d from ed, h29, h30, show v29 = cl from hq]
        simp [show ¬ nI fr = -1 from hn]
      refine e_ldA L'.1 (e_ldA L'.1 (e_gR hM1.1 (hM1.2.1 30 (by decide)).1 (e_ldI l3' (e_aV (N := 4000) (v := nI fr) (kdA hM1 (by decide) rfl) (lnA hM1 (by decide) rfl) (by omega) (by decide) h30 (e_ldI lvg_self (And.intro hM1.1 (And.intro ⟨by decide, by decide⟩ (z_v_frameComes hM1 im hfr (show 8 * (1 - e) + p < 16 by omega) ((sh.2.2.2.2.2 39 (by decide)).trans e39) hF (k := k) (by rw [ex]; exact ek) hk (fun S' s' im' h42 => s126 _ S' (g + 1) (by omega) L' l3' ⟨SM.tr sh s' (by decide), im', RV_SM rv hM1 s' (by decide), ?_⟩)))))))))
      rw [ex] at h42
      have q := hup S' h42
      rw [cnt_s, if_pos pt]
      exact q
theorem q_cm37 {Q : Option Value → MM → Prop} {S0 : MM} {m nt F f0 s : Nat} {A : Nat → Nat} {cl r1 : Int32} (hM : MS S0 m A) (hI : IV S0 m A nt) (e39 : sI S0 m 39 = nI F) (hF : F < 4201) (e43 : sI S0 m 43 = cl) (hs : s < 2000000000) (K : ∀ f lv S, f0 ≤ f → lvg lv 0 = some (.ref m) → lvg lv 1 = some (.int r1) → JC S0 m A (s + (TL S0 A nt).countP (fun q => pre 8 q && fD cl q)) S → wpn (kX8_comes Q) f 138 lv [] S 0 0) : ∀ (r c f : Nat) (lv : Lv) (S : MM), c + r = 8 → f0 + (4 * nt + 4) * r + 1 ≤ f → LC lv m c r1 → JC S0 m A (s + (TL S0 A nt).countP (fun q => pre c q && fD cl q)) S → wpn (kX8_comes Q) f 37 lv [] S 0 0 := by
  have cle : ∀ p : TQ → Bool, (TL S0 A nt).countP p ≤ 4000 := fun p => Nat.le_trans List.countP_le_length (by unfold TL; rw [List.length_map, List.length_range]; have := hI.2.2.2.1; omega)
  intro r
  induction r with
  | zero =>
    intro c f lv S hc hf L hJ
    have ec : c = 8 := by omega
    subst ec
    obtain ⟨g, rfl⟩ : ∃ g, f = g + 1 := ⟨f - 1, by omega⟩
    refine u_X8_comes_37 ?_
    unfold bX8_comes_37
    exact e_ldI L.2.2 (e_cN 8 rfl (e_ge (by decide) (by decide) (fun _ => K g lv S (by omega) L.1 L.2.1 hJ) (fun h => absurd h (by decide))))
  | succ r ih =>
    intro c f lv S hc hf L hJ
    have hf2 : f0 + (4 * nt + 4) * r + 4 * nt + 5 ≤ f := by rw [Nat.mul_succ] at hf; omega
    obtain ⟨g, rfl⟩ : ∃ g, f = g + 1 := ⟨f - 1, by omega⟩
    refine u_X8_comes_37 ?_
    unfold bX8_comes_37
    refine e_ldI L.2.2 (e_cN 8 rfl (e_ge (by omega) (by decide) (fun h => absurd h (by omega)) (fun _ => e_cN 0 rfl (e_stI ?_))))
    refine q_cm45 (f0 := f0 + (4 * nt + 4) * r + 2) (N0 := s + (TL S0 A nt).countP (fun q => pre c q && fD cl q)) hM hI (by omega) e39 hF e43 (by have := cle (fun q => pre c q && fD cl q); omega) (fun f' lv' S' hf' L' hJ' => ?_) nt 0 g _ S (by omega) (by omega) (LC_s L (by decide)) lvg_self hJ
    obtain ⟨g', rfl⟩ : ∃ g', f' = g' + 1 := ⟨f' - 1, by omega⟩
    refine u_X8_comes_132 ?_
    unfold bX8_comes_132
    refine e_inc L'.2.2 (ih (c + 1) g' _ S' (by omega) (by omega) ⟨lvg_ne L'.1 rfl (by decide), lvg_ne L'.2.1 rfl (by decide), lvg_self⟩ ?_)
    rw [Nat.add_assoc, cnt_pre (by omega)] at hJ'
    exact hJ'
theorem q_cm16 {Q : Option Value → MM → Prop} {S0 : MM} {m f0 : Nat} {A : Nat → Nat} {r1 : Int32} (hM : MS S0 m A) (K : ∀ f lv S, f0 ≤ f → lvg lv 0 = some (.ref m) → lvg lv 1 = some (.int r1) → SM [15] m A S0 S → IM S m A → wpn (kX8_comes Q) f 35 lv [] S 0 0) : ∀ (r x f : Nat) (lv : Lv) (S : MM), x + r = 16 → f0 + r + 1 ≤ f → LC lv m x r1 → SM [15] m A S0 S → IM S m A → wpn (kX8_comes Q) f 16 lv [] S 0 0 := by
  intro r
  induction r with
  | zero =>
    intro x f lv S hx hf L sh im
    have e : x = 16 := by omega
    subst e
    obtain ⟨g, rfl⟩ : ∃ g, f = g + 1 := ⟨f - 1, by omega⟩
    refine u_X8_comes_16 ?_
    unfold bX8_comes_16
    exact e_ldI L.2.2 (e_cN 16 rfl (e_ge (by decide) (by decide) (fun _ => K g lv S (by omega) L.1 L.2.1 sh im) (fun h => absurd h (by decide))))
  | succ r ih =>
    intro x f lv S hx hf L sh im
    obtain ⟨g, rfl⟩ : ∃ g, f = g + 1 := ⟨f - 1, by omega⟩
    refine u_X8_comes_16 ?_
    unfold bX8_comes_16
    exact e_ldI L.2.2 (e_cN 16 rfl (e_ge (by omega) (by decide) (fun h => absurd h (by omega)) (fun _ => e_ldA L.1 (e_gR (SM_k sh hM.1) (SM_r sh (hM.2.1 15 (by decide)).1) (e_ldI L.2.2 (e_cN 0 rfl (y_mB (N := 16) hM sh im (by decide) rfl rfl (by omega) (by decide) (by decide) (by decide) (fun N e => nomatch (show (none : Option Nat) = some N from e)) (fun e => absurd e (by decide)) (fun S1 he sh1 im1 => e_inc L.2.2 (ih (x + 1) g _ S1 (by omega) (by omega) ⟨lvg_ne L.1 rfl (by decide), lvg_ne L.2.1 rfl (by decide), lvg_self⟩ sh1 im1)))))))))
theorem q_cm142 {Q : Option Value → MM → Prop} {S0 : MM} {m n f0 : Nat} {A : Nat → Nat} {cl r1 : Int32} (hM : MS S0 m A) (hn : n < 4001) (e43 : sI S0 m 43 = cl) (e32 : sI S0 m 32 = nI n) (K : ∀ f lv S' k, f0 ≤ f → k ≤ n → lvg lv 0 = some (.ref m) → lvg lv 1 = some (.int r1) → lvg lv 2 = some (.int (nI k)) → SM [27, 28, 29, 30, 31] m A S0 S' → IM S' m A → TL S' A k = (TL S0 A n).filter (pD cl) → wpn (kX8_comes Q) f 181 lv [] S' 0 0) : ∀ (r t k f : Nat) (lv : Lv) (S : MM), f0 + 4 * r + 1 ≤ f → t + r = n → k ≤ t → LC lv m k r1 → lvg lv 3 = some (.int (nI t)) → SM [27, 28, 29, 30, 31] m A S0 S → IM S m A → TL S A k = (TL S0 A t).filter (pD cl) → (∀ j, t ≤ j → th S A j = th S0 A j) → wpn (kX8_comes Q) f 142 lv [] S 0 0 := by
  intro r
  induction r with
  | zero =>
    intro t k f lv S hf hr hk L l3 sh im eT eJ
    have et : t = n := by omega
    subst et
    obtain ⟨g, rfl⟩ : ∃ g, f = g + 1 := ⟨f - 1, by omega⟩
    refine u_X8_comes_142 ?_
    unfold bX8_comes_142
    exact e_ldI l3 (e_ldA L.1 (e_gV (v := nI t) (SM_k sh hM.1) ((sh.2.2.2.2.2 32 (by decide)).trans e32) (e_ge (by omega) (by omega) (fun _ => K g lv S k (by omega) hk L.1 L.2.1 L.2.2 sh im eT) (fun h => absurd h (by omega)))))
  | succ r ih =>
    intro t k f lv S hf hr hk L l3 sh im eT eJ
    have hM1 := MS_SM hM sh
    obtain ⟨g, rfl⟩ : ∃ g, f = g + 4 := ⟨f - 4, by omega⟩
    refine u_X8_comes_142 ?_
    unfold bX8_comes_142
    refine e_ldI l3 (e_ldA L.1 (e_gV (v := nI n) (SM_k sh hM.1) ((sh.2.2.2.2.2 32 (by decide)).trans e32) (e_ge (by omega) (by omega) (fun h => absurd h (by omega)) (fun _ => ?_))))
    refine e_ldA L.1 (e_gR hM1.1 (hM1.2.1 29 (by decide)).1 (e_ldI l3 (e_aI (N := 4000) (kdA hM1 (by decide) rfl) (lnA hM1 (by decide) rfl) (by omega) (by decide) (fun v29 h29 => e_ldA L.1 (e_gV (v := cl) hM1.1 ((sh.2.2.2.2.2 43 (by decide)).trans e43) ⟨fun hq => u_X8_comes_175 ?_, fun hq => u_X8_comes_166 ?_⟩)))))
    · have drop : (TL S0 A (t + 1)).filter (pD cl) = (TL S0 A t).filter (pD cl) := by
        rw [TL_s, List.filter_append]
        have : pD cl (th S0 A t) = false := by rw [← eJ t (Nat.le_refl _)]; unfold pD dC th; rw [h29, show v29 = cl from hq]; simp
        simp [this]
      unfold bX8_comes_175
      exact e_inc l3 (ih (t + 1) k (g + 2) _ S (by omega) (by omega) (by omega) (LC_s L (by decide)) lvg_self sh im (eT.trans drop.symm) (fun j hj => eJ j (by omega)))
    · have keep : (TL S0 A (t + 1)).filter (pD cl) = (TL S0 A t).filter (pD cl) ++ [th S0 A t] := by
        rw [TL_s, List.filter_append]
        have : pD cl (th S0 A t) = true := by rw [← eJ t (Nat.le_refl _)]; unfold pD dC th; rw [h29]; simp [show ¬ v29 = cl from hq]
        simp [this]
      unfold bX8_comes_166
      refine e_ldA L.1 (e_ldI l3 (e_ldI L.2.2 (And.intro hM1.1 (And.intro ⟨by decide, by decide⟩ (z_f_moves hM1 im (by omega) (by omega) (fun S1 s1 im1 m27 m28 m29 m30 => e_inc L.2.2 (u_X8_comes_175 ?_)))))))
      unfold bX8_comes_175
      have hth := th_mv m27 m28 m29 m30
      refine e_inc (lvg_ne l3 rfl (by decide)) (ih (t + 1) (k + 1) (g + 1) _ S1 (by omega) (by omega) (by omega) ⟨lvg_ne (lvg_ne L.1 rfl (by decide)) rfl (by decide), lvg_ne (lvg_ne L.2.1 rfl (by decide)) rfl (by decide), lvg_ne lvg_self rfl (by decide)⟩ lvg_self (SM.tr sh s1 (by decide)) im1 ?_ (fun j hj => ?_))
      · rw [TL_s, keep, hth k, if_pos rfl, eJ t (Nat.le_refl _), ← eT]
        congr 1
        exact TL_c (fun j hj => by rw [hth j, if_neg (by omega)])
      · rw [hth j, if_neg (by omega)]
        exact eJ j (by omega)
def WK : List Nat := [7, 8, 14, 15, 17, 18, 27, 28, 29, 30, 31, 32, 38, 41, 42, 45, 49]
theorem z_v_comes {Q : Option Value → MM → Prop} {S0 : MM} {m nt F s : Nat} {A : Nat → Nat} {cl : Int32} (hM : MS S0 m A) (hI : IV S0 m A nt) (e39 : sI S0 m 39 = nI F) (hF : F < 4201) (e43 : sI S0 m 43 = cl) (hC : CM S0 A s) (hs : s < 2000000000) (K : ∀ r S' k, k ≤ nt → SM WK m A S0 S' → IV S' m A k → TL S' A k = (TL S0 A nt).filter (pD cl) → CM S' A (s + (TL S0 A nt).countP (fD cl)) → Q (some (.int r)) S') : wX8_comes [.ref m] S0 Q := by
  obtain ⟨i1, i2, i3, i4, i5⟩ := id hI
  refine Exists.intro (1 + 18 + 1 + (4 * nt + 4) * 8 + 1 + 1 + (4 * nt + 1) + 1) ?_
  obtain ⟨fu, hfu⟩ : ∃ fu, fu = 1 + (4 * nt + 4) * 8 + 1 + 1 + (4 * nt + 1) + 1 := ⟨_, rfl⟩
  rw [show 1 + 18 + 1 + (4 * nt + 4) * 8 + 1 + 1 + (4 * nt + 1) + 1 = fu + 18 + 1 by omega]
  refine u_X8_comes_0 ?_
  unfold bX8_comes_0
  refine e_ldA rfl (e_gR hM.1 (hM.2.1 42 (by decide)).1 (e_cN 0 rfl (e_aI (N := 2) (kdA hM (by decide) rfl) (lnA hM (by decide) rfl) (by decide) (by decide) (fun v0 _ => e_ldA rfl (e_gR hM.1 (hM.2.1 42 (by decide)).1 (e_cN 1 rfl (e_aI (N := 2) (kdA hM (by decide) rfl) (lnA hM (by decide) rfl) (by decide) (by decide) (fun v1 _ => e_bopU (fun r1 => e_stI (e_cN 0 rfl (e_stI ?_)))))))))))
  refine q_cm16 (S0 := S0) (f0 := fu) (r1 := r1) hM (fun f lv S hf l0 l1 sh im => ?_) 16 0 (fu + 18) _ S0 rfl (by omega) ⟨lvg_ne (lvg_ne rfl rfl (by decide)) rfl (by decide), lvg_ne lvg_self rfl (by decide), lvg_self⟩ SM.rf i1
  obtain ⟨g, rfl⟩ : ∃ g, f = g + 1 := ⟨f - 1, by omega⟩
  refine u_X8_comes_35 ?_
  unfold bX8_comes_35
  refine e_cN 0 rfl (e_stI ?_)
  refine q_cm37 (S0 := S0) (f0 := 1 + 1 + (4 * nt + 1)) (r1 := r1) hM hI e39 hF e43 hs (fun f2 lv2 S2 hf2 k0 k1 hJ => ?_) 8 0 g _ S rfl (by omega) ⟨lvg_ne l0 rfl (by decide), lvg_ne l1 rfl (by decide), lvg_self⟩ ⟨SM.tr SM.rf sh (by decide), im, RV_SM i2 hM sh (by decide), CM_eq hC (SM_a sh hM (by decide) (by decide)) (by omega)⟩
  obtain ⟨sh2, im2, rv2, cm2⟩ := hJ
  have hM2 := MS_SM hM sh2
  have e43' : sI S2 m 43 = cl := (sh2.2.2.2.2.2 43 (by decide)).trans e43
  have e32' : sI S2 m 32 = nI nt := (sh2.2.2.2.2.2 32 (by decide)).trans i3
  have tl2 : TL S2 A nt = TL S0 A nt := TL_c (fun j _ => th_SM sh2 hM (by decide) j)
  obtain ⟨g2, rfl⟩ : ∃ g2, f2 = g2 + 1 := ⟨f2 - 1, by omega⟩
  refine u_X8_comes_138 ?_
  unfold bX8_comes_138
  refine e_cN 0 rfl (e_stI (e_cN 0 rfl (e_stI ?_)))
  refine q_cm142 (S0 := S2) (n := nt) (f0 := 1) (r1 := r1) (cl := cl) hM2 i4 e43' e32' (fun f3 lv3 S3 k hf3 hk k0 k1 k2 s3 im3 eT => ?_) nt 0 0 g2 _ S2 (by omega) (by omega) (Nat.le_refl _) ⟨lvg_ne (lvg_ne k0 rfl (by decide)) rfl (by decide), lvg_ne (lvg_ne k1 rfl (by decide)) rfl (by decide), lvg_ne lvg_self rfl (by decide)⟩ lvg_self SM.rf im2 rfl (fun _ _ => rfl)
  obtain ⟨g3, rfl⟩ : ∃ g3, f3 = g3 + 1 := ⟨f3 - 1, by omega⟩
  have shA : SM WK m A S0 S3 := SM.tr (SM.tr SM.rf sh2 (by decide)) s3 (by decide)
  refine u_X8_comes_181 ?_
  unfold bX8_comes_181
  refine e_ldA k0 (e_ldI k2 (y_mI hM shA im3 (by decide) (fun N e => by have e2 : some 4001 = some N := e; cases e2; exact ⟨k, by omega, rfl⟩) (fun S4 he4 sh4 im4 => ?_)))
  have hM4 := MS_SM hM sh4
  have s4 : SM [27, 28, 29, 30, 31, 32] m A S2 S4 := by rw [he4]; exact SM.wm (SM.tr SM.rf s3 (by decide)) (by decide)
  have t4 : TL S4 A k = (TL S0 A nt).filter (pD cl) := by
    rw [← tl2, ← eT]
    exact TL_c (fun j _ => by
      unfold th
      rw [fn_o (a := A 27) he4 rfl (ne_m hM (by decide)), fn_o (a := A 28) he4 rfl (ne_m hM (by decide)), fn_o (a := A 29) he4 rfl (ne_m hM (by decide)), fn_o (a := A 30) he4 rfl (ne_m hM (by decide))])
  have iv4 : IV S4 m A k := ⟨im4, RV_SM rv2 hM2 s4 (by decide), by rw [he4]; exact rd_s, by omega, fun q hq => by
    rw [t4] at hq
    rw [SM_a sh4 hM (k := 25) (by decide) (by decide)]
    exact i5 q (List.mem_filter.mp hq).1⟩
  have cm4 : CM S4 A (s + (TL S0 A nt).countP (fD cl)) := CM_eq cm2 (SM_a s4 hM2 (by decide) (by decide)) (Nat.add_le_add_left (List.countP_mono_left (fun q _ h => ((Bool.and_eq_true _ _).mp h).2)) s)
  exact e_ldA k0 (e_gR hM4.1 (hM4.2.1 42 (by decide)).1 (e_cN 0 rfl (e_aI (N := 2) (kdA hM4 (by decide) rfl) (lnA hM4 (by decide) rfl) (by decide) (by decide) (fun v0 _ => e_ldA k0 (e_gR hM4.1 (hM4.2.1 42 (by decide)).1 (e_cN 1 rfl (e_aI (N := 2) (kdA hM4 (by decide) rfl) (lnA hM4 (by decide) rfl) (by decide) (by decide) (fun v1 _ => e_bopU (fun r2 => e_ldI k1 (e_bopU (fun r3 => e_rI (K r3 S4 k hk sh4 iv4 t4 cm4))))))))))))
