/-! tick -/
theorem u_X8_tick_0 {Q : Option Value → MM → Prop} {n : Nat} {lv : Lv} {st : List Value} {S : MM} {c z : Nat} (h : bX8_tick_0 Q (wpn (kX8_tick Q) n) lv st S c z) : wpn (kX8_tick Q) (n + 1) 0 lv st S c z := h
theorem u_X8_tick_7 {Q : Option Value → MM → Prop} {n : Nat} {lv : Lv} {st : List Value} {S : MM} {c z : Nat} (h : bX8_tick_7 Q (wpn (kX8_tick Q) n) lv st S c z) : wpn (kX8_tick Q) (n + 1) 7 lv st S c z := h
theorem u_X8_tick_24 {Q : Option Value → MM → Prop} {n : Nat} {lv : Lv} {st : List Value} {S : MM} {c z : Nat} (h : bX8_tick_24 Q (wpn (kX8_tick Q) n) lv st S c z) : wpn (kX8_tick Q) (n + 1) 24 lv st S c z := h
theorem u_X8_tick_36 {Q : Option Value → MM → Prop} {n : Nat} {lv : Lv} {st : List Value} {S : MM} {c z : Nat} (h : bX8_tick_36 Q (wpn (kX8_tick Q) n) lv st S c z) : wpn (kX8_tick Q) (n + 1) 36 lv st S c z := h
theorem u_X8_tick_53 {Q : Option Value → MM → Prop} {n : Nat} {lv : Lv} {st : List Value} {S : MM} {c z : Nat} (h : bX8_tick_53 Q (wpn (kX8_tick Q) n) lv st S c z) : wpn (kX8_tick Q) (n + 1) 53 lv st S c z := h
theorem u_X8_tick_60 {Q : Option Value → MM → Prop} {n : Nat} {lv : Lv} {st : List Value} {S : MM} {c z : Nat} (h : bX8_tick_60 Q (wpn (kX8_tick Q) n) lv st S c z) : wpn (kX8_tick Q) (n + 1) 60 lv st S c z := h
theorem u_X8_tick_77 {Q : Option Value → MM → Prop} {n : Nat} {lv : Lv} {st : List Value} {S : MM} {c z : Nat} (h : bX8_tick_77 Q (wpn (kX8_tick Q) n) lv st S c z) : wpn (kX8_tick Q) (n + 1) 77 lv st S c z := h
theorem u_X8_tick_99 {Q : Option Value → MM → Prop} {n : Nat} {lv : Lv} {st : List Value} {S : MM} {c z : Nat} (h : bX8_tick_99 Q (wpn (kX8_tick Q) n) lv st S c z) : wpn (kX8_tick Q) (n + 1) 99 lv st S c z := h
theorem u_X8_tick_105 {Q : Option Value → MM → Prop} {n : Nat} {lv : Lv} {st : List Value} {S : MM} {c z : Nat} (h : bX8_tick_105 Q (wpn (kX8_tick Q) n) lv st S c z) : wpn (kX8_tick Q) (n + 1) 105 lv st S c z := h
theorem u_X8_tick_135 {Q : Option Value → MM → Prop} {n : Nat} {lv : Lv} {st : List Value} {S : MM} {c z : Nat} (h : bX8_tick_135 Q (wpn (kX8_tick Q) n) lv st S c z) : wpn (kX8_tick Q) (n + 1) 135 lv st S c z := h
theorem IV_RV {W : List Nat} {S S' : MM} {m n : Nat} {A : Nat → Nat} (h : IV S m A n) (hM : MS S m A) (e : SM W m A S S') (im : IM S' m A) (rv : RV S' A) (hw : ∀ k ∈ [25, 27, 28, 29, 30, 32], k ∉ W) : IV S' m A n ∧ TL S' A n = TL S A n := by
  obtain ⟨h1, h2, h3, h4, h5⟩ := h
  have t : TL S' A n = TL S A n := TL_c (fun j _ => th_SM e hM ⟨hw 27 (by decide), hw 28 (by decide), hw 29 (by decide), hw 30 (by decide)⟩ j)
  refine ⟨⟨im, rv, (e.2.2.2.2.2 32 (hw 32 (by decide))).trans h3, h4, ?_⟩, t⟩
  unfold UT at h5 ⊢
  rw [t, SM_a e hM (k := 25) (by decide) (hw 25 (by decide))]
  exact h5
def LT (lv : Lv) (m x : Nat) (r : Int32) : Prop := lvg lv 0 = some (.ref m) ∧ lvg lv 1 = some (.int r) ∧ lvg lv 2 = some (.int (nI x))
def WT : List Nat := [7, 8, 9, 10, 12, 13, 14, 15, 16, 17, 18, 19, 20, 21, 26, 27, 28, 29, 30, 31, 32, 38, 40, 41, 42, 43, 44, 45, 47, 49, 50]
theorem q_tk7 {Q : Option Value → MM → Prop} {S0 : MM} {m f0 : Nat} {A : Nat → Nat} {r1 : Int32} (hM : MS S0 m A) (K : ∀ f lv S, f0 ≤ f → lvg lv 0 = some (.ref m) → lvg lv 1 = some (.int r1) → SM [7, 8, 18] m A S0 S → IM S m A → RV S A → wpn (kX8_tick Q) f 24 lv [] S 0 0) : ∀ (r x f : Nat) (lv : Lv) (S : MM), x + r = 16 → f0 + r + 1 ≤ f → LT lv m x r1 → SM [7, 8, 18] m A S0 S → IM S m A → RV S A → wpn (kX8_tick Q) f 7 lv [] S 0 0 := by
  intro r
  induction r with
  | zero =>
    intro x f lv S hx hf L sh im rv
    have e : x = 16 := by omega
    subst e
    obtain ⟨g, rfl⟩ : ∃ g, f = g + 1 := ⟨f - 1, by omega⟩
    refine u_X8_tick_7 ?_
    unfold bX8_tick_7
    exact e_ldI L.2.2 (e_cN 16 rfl (e_ge (by decide) (by decide) (fun _ => K g lv S (by omega) L.1 L.2.1 sh im rv) (fun h => absurd h (by decide))))
  | succ r ih =>
    intro x f lv S hx hf L sh im rv
    have hM1 := MS_SM hM sh
    obtain ⟨g, rfl⟩ : ∃ g, f = g + 1 := ⟨f - 1, by omega⟩
    refine u_X8_tick_7 ?_
    unfold bX8_tick_7
    exact e_ldI L.2.2 (e_cN 16 rfl (e_ge (by omega) (by decide) (fun h => absurd h (by omega)) (fun _ => e_ldA L.1 (e_ldI L.2.2 (And.intro hM1.1 (And.intro ⟨by decide, by decide⟩ (z_f_ages hM1 im rv (show x < 16 by omega) (fun S1 s1 im1 rv1 => e_inc L.2.2 (ih (x + 1) g _ S1 (by omega) (by omega) ⟨lvg_ne L.1 rfl (by decide), lvg_ne L.2.1 rfl (by decide), lvg_self⟩ (SM.tr sh s1 (by decide)) im1 rv1)))))))))
theorem q_tk36 {Q : Option Value → MM → Prop} {S0 : MM} {m f0 : Nat} {A : Nat → Nat} {r1 : Int32} (hM : MS S0 m A) (K : ∀ f lv S, f0 ≤ f → lvg lv 0 = some (.ref m) → lvg lv 1 = some (.int r1) → SM [9, 10, 19, 40] m A S0 S → IM S m A → RV S A → wpn (kX8_tick Q) f 53 lv [] S 0 0) : ∀ (r x f : Nat) (lv : Lv) (S : MM), x + r = 16 → f0 + r + 1 ≤ f → LT lv m x r1 → SM [9, 10, 19, 40] m A S0 S → IM S m A → RV S A → wpn (kX8_tick Q) f 36 lv [] S 0 0 := by
  intro r
  induction r with
  | zero =>
    intro x f lv S hx hf L sh im rv
    have e : x = 16 := by omega
    subst e
    obtain ⟨g, rfl⟩ : ∃ g, f = g + 1 := ⟨f - 1, by omega⟩
    refine u_X8_tick_36 ?_
    unfold bX8_tick_36
    exact e_ldI L.2.2 (e_cN 16 rfl (e_ge (by decide) (by decide) (fun _ => K g lv S (by omega) L.1 L.2.1 sh im rv) (fun h => absurd h (by decide))))
  | succ r ih =>
    intro x f lv S hx hf L sh im rv
    have hM1 := MS_SM hM sh
    obtain ⟨g, rfl⟩ : ∃ g, f = g + 1 := ⟨f - 1, by omega⟩
    refine u_X8_tick_36 ?_
    unfold bX8_tick_36
    exact e_ldI L.2.2 (e_cN 16 rfl (e_ge (by omega) (by decide) (fun h => absurd h (by omega)) (fun _ => e_ldA L.1 (e_ldI L.2.2 (And.intro hM1.1 (And.intro ⟨by decide, by decide⟩ (z_f_steps hM1 rv im (show x < 16 by omega) (fun S1 s1 im1 rv1 => e_inc L.2.2 (ih (x + 1) g _ S1 (by omega) (by omega) ⟨lvg_ne L.1 rfl (by decide), lvg_ne L.2.1 rfl (by decide), lvg_self⟩ (SM.tr sh s1 (by decide)) im1 rv1)))))))))
def NW (cl : Int32) (L : List TQ) : Prop := ∀ q ∈ L, q.2.2.2 = -1 ∧ ∃ d, 1 ≤ d ∧ d ≤ 8 ∧ q.2.2.1 = cl + nI d
theorem q_tk60 {Q : Option Value → MM → Prop} {S0 : MM} {m f0 nt : Nat} {A : Nat → Nat} {r1 cl : Int32} (hM : MS S0 m A) (hnt : nt + 16 < 4000) (e43 : sI S0 m 43 = cl) (K : ∀ f lv S new, f0 ≤ f → lvg lv 0 = some (.ref m) → lvg lv 1 = some (.int r1) → SM WQ m A S0 S → IV S m A (nt + new.length) → new.length ≤ 16 → NW cl new → TL S A (nt + new.length) = TL S0 A nt ++ new → wpn (kX8_tick Q) f 77 lv [] S 0 0) : ∀ (r x f : Nat) (lv : Lv) (S : MM) (new : List TQ), x + r = 16 → f0 + r + 1 ≤ f → LT lv m x r1 → SM WQ m A S0 S → IV S m A (nt + new.length) → new.length ≤ x → NW cl new → TL S A (nt + new.length) = TL S0 A nt ++ new → wpn (kX8_tick Q) f 60 lv [] S 0 0 := by
  intro r
  induction r with
  | zero =>
    intro x f lv S new hx hf L sh iv hl hn ht
    have e : x = 16 := by omega
    subst e
    obtain ⟨g, rfl⟩ : ∃ g, f = g + 1 := ⟨f - 1, by omega⟩
    refine u_X8_tick_60 ?_
    unfold bX8_tick_60
    exact e_ldI L.2.2 (e_cN 16 rfl (e_ge (by decide) (by decide) (fun _ => K g lv S new (by omega) L.1 L.2.1 sh iv hl hn ht) (fun h => absurd h (by decide))))
  | succ r ih =>
    intro x f lv S new hx hf L sh iv hl hn ht
    have hM1 := MS_SM hM sh
    obtain ⟨g, rfl⟩ : ∃ g, f = g + 1 := ⟨f - 1, by omega⟩
    refine u_X8_tick_60 ?_
    unfold bX8_tick_60
    refine e_ldI L.2.2 (e_cN 16 rfl (e_ge (by omega) (by decide) (fun h => absurd h (by omega)) (fun _ => e_ldA L.1 (e_ldI L.2.2 (And.intro hM1.1 (And.intro ⟨by decide, by decide⟩ (z_v_puts hM1 iv (by omega) (show x < 16 by omega) (fun S1 s1 iv1 t1 => ?_) (fun S1 c d hc hd1 hd2 s1 iv1 t1 => ?_))))))))
    · exact e_inc L.2.2 (ih (x + 1) g _ S1 new (by omega) (by omega) ⟨lvg_ne L.1 rfl (by decide), lvg_ne L.2.1 rfl (by decide), lvg_self⟩ (SM.tr sh s1 (by decide)) iv1 (by omega) hn (t1.trans ht))
    · have e43' : sI S m 43 = cl := (sh.2.2.2.2.2 43 (by decide)).trans e43
      have el : (new ++ [(nI c, nI (x / 8), cl + nI d, -1)] : List TQ).length = new.length + 1 := by rw [List.length_append]; rfl
      refine e_inc L.2.2 (ih (x + 1) g _ S1 (new ++ [(nI c, nI (x / 8), cl + nI d, -1)]) (by omega) (by omega) ⟨lvg_ne L.1 rfl (by decide), lvg_ne L.2.1 rfl (by decide), lvg_self⟩ (SM.tr sh s1 (by decide)) (by rw [el]; exact iv1) (by omega) (fun q hq => ?_) ?_)
      · rcases List.mem_append.mp hq with z | z
        · exact hn q z
        · have ez := List.mem_singleton.mp z
          subst ez
          exact ⟨rfl, d, hd1, hd2, rfl⟩
      · rw [el]
        refine t1.trans ?_
        rw [ht, e43', List.append_assoc]
theorem q_tk135 {Q : Option Value → MM → Prop} {S : MM} {f : Nat} {lv : Lv} {r1 : Int32} (l1 : lvg lv 1 = some (.int r1)) (K : Q (some (.int r1)) S) : wpn (kX8_tick Q) (f + 1) 135 lv [] S 0 0 := by
  refine u_X8_tick_135 ?_
  unfold bX8_tick_135
  exact e_ldI l1 (e_rI K)
theorem q_tk105 {Q : Option Value → MM → Prop} {S0 : MM} {m f : Nat} {A : Nat → Nat} {lv : Lv} {r1 v : Int32} (hM : MS S0 m A) (im : IM S0 m A) (rv : RV S0 A) (l0 : lvg lv 0 = some (.ref m)) (l1 : lvg lv 1 = some (.int r1)) (K : ∀ r S', SM [44, 47] m A S0 S' → IM S' m A → Q (some (.int r)) S') : wpn (kX8_tick Q) (f + 2) 105 lv [.int v, .ref m] S0 0 0 := by
  refine u_X8_tick_105 ?_
  unfold bX8_tick_105
  refine y_mI (W := [44, 47]) hM SM.rf im (by decide) (fun N e => nomatch (show (none : Option Nat) = some N from e)) (fun S1 he1 sh1 im1 => e_ldA l0 (e_gI (SM_k sh1 hM.1) (fun v44 _ => e_cI ⟨fun _ => q_tk135 l1 (K r1 S1 sh1 im1), fun _ => ?_⟩)))
  have hM1 := MS_SM hM sh1
  have s1 : SM [44] m A S0 S1 := by rw [he1]; exact SM.wm SM.rf (by decide)
  have rv1 := RV_SM rv hM s1 (by decide)
  refine e_ldA l0 (And.intro hM1.1 (And.intro ⟨by decide, by decide⟩ (z_X8_isAsMeant hM1 rv1 im1 (fun j S2 s2 im2 hj => ?_))))
  have sh2 := SM.tr sh1 s2 (by decide)
  have hM2 := MS_SM hM sh2
  refine e_ifN (by omega) (fun _ => ?_) (fun _ => q_tk135 l1 (K r1 S2 sh2 im2))
  exact e_ldA l0 (e_duA (e_gI hM2.1 (fun v47 _ => e_cI (e_bopU (fun r => y_mI hM sh2 im2 (by decide) (fun N e => nomatch (show (none : Option Nat) = some N from e)) (fun S3 he3 sh3 im3 => q_tk135 l1 (K r1 S3 sh3 im3)))))))
theorem q_tk77 {Q : Option Value → MM → Prop} {S0 : MM} {m f : Nat} {A : Nat → Nat} {lv : Lv} {r1 cl : Int32} (hM : MS S0 m A) (im : IM S0 m A) (rv : RV S0 A) (e43 : sI S0 m 43 = cl) (l0 : lvg lv 0 = some (.ref m)) (l1 : lvg lv 1 = some (.int r1)) (K : ∀ r S', SM [43, 44, 47] m A S0 S' → IM S' m A → sI S' m 43 = cl + 1 → Q (some (.int r)) S') : wpn (kX8_tick Q) (f + 4) 77 lv [] S0 0 0 := by
  refine u_X8_tick_77 ?_
  unfold bX8_tick_77
  refine e_ldA l0 (e_duA (e_gV (v := cl) hM.1 e43 (e_cI (e_bopE (y_mI (W := [43]) hM SM.rf im (by decide) (fun N e => nomatch (show (none : Option Nat) = some N from e)) (fun S1 he1 sh1 im1 => ?_))))))
  have hM1 := MS_SM hM sh1
  have rv1 := RV_SM rv hM sh1 (by decide)
  have c1 : sI S1 m 43 = cl + 1 := by rw [he1]; exact rd_s
  have KK : ∀ r S', SM [44, 47] m A S1 S' → IM S' m A → Q (some (.int r)) S' := fun r S' s i => K r S' (SM.tr (SM.tr SM.rf sh1 (by decide)) s (by decide)) i ((s.2.2.2.2.2 43 (by decide)).trans c1)
  refine e_ldA l0 (e_ldA l0 (e_gI hM1.1 (fun v50 _ => e_if0 (fun _ => u_X8_tick_99 ?_) (fun _ => e_cI (q_tk105 (f := f + 1) hM1 im1 rv1 l0 l1 KK)))))
  unfold bX8_tick_99
  exact e_ldA l0 (e_gI hM1.1 (fun v44 _ => e_cI (e_bopU (fun r => q_tk105 (f := f) hM1 im1 rv1 l0 l1 KK))))
theorem z_v_tick {Q : Option Value → MM → Prop} {S0 : MM} {m nt F s : Nat} {A : Nat → Nat} {cl : Int32} (hM : MS S0 m A) (hI : IV S0 m A nt) (hnt : nt + 16 < 4000) (e39 : sI S0 m 39 = nI F) (hF : F < 4201) (e43 : sI S0 m 43 = cl) (hC : CM S0 A s) (hs : s < 2000000000) (K : ∀ r S' k new, SM WT m A S0 S' → IV S' m A (k + new.length) → k ≤ nt → new.length ≤ 16 → NW cl new → TL S' A (k + new.length) = (TL S0 A nt).filter (pD cl) ++ new → sI S' m 43 = cl + 1 → CM S' A (s + (TL S0 A nt).countP (fD cl)) → Q (some (.int r)) S') : wX8_tick [.ref m] S0 Q := by
  refine Exists.intro 100 (u_X8_tick_0 ?_)
  unfold bX8_tick_0
  refine e_ldA rfl (And.intro hM.1 (And.intro ⟨by decide, by decide⟩ (z_v_comes hM hI e39 hF e43 hC hs (fun r1 S1 k hk s1 iv1 t1 cm1 => e_stI (e_cN 0 rfl (e_stI ?_))))))
  have sh1 : SM WT m A S0 S1 := SM.tr SM.rf s1 (by decide)
  have hM1 := MS_SM hM sh1
  refine q_tk7 (S0 := S1) (f0 := 80) (r1 := r1) hM1 (fun f lv S2 hf l0 l1 s2 im2 rv2 => ?_) 16 0 99 _ S1 rfl (by decide) ⟨lvg_ne (lvg_ne rfl rfl (by decide)) rfl (by decide), lvg_ne lvg_self rfl (by decide), lvg_self⟩ SM.rf iv1.1 iv1.2.1
  obtain ⟨iv2, t2⟩ := IV_RV iv1 hM1 s2 im2 rv2 (by decide)
  have sh2 := SM.tr sh1 s2 (by decide)
  have hM2 := MS_SM hM sh2
  obtain ⟨g, rfl⟩ : ∃ g, f = g + 1 := ⟨f - 1, by omega⟩
  refine u_X8_tick_24 ?_
  unfold bX8_tick_24
  refine e_ldA l0 (e_cN 0 rfl (And.intro hM2.1 (And.intro ⟨by decide, by decide⟩ (z_X8_chooses hM2 im2 (by decide) (fun S3 s3 im3 => ?_)))))
  obtain ⟨iv3, t3⟩ := IV_SM iv2 hM2 s3 im3 (by decide)
  have sh3 := SM.tr sh2 s3 (by decide)
  have hM3 := MS_SM hM sh3
  refine e_ldA l0 (e_cN 1 rfl (And.intro hM3.1 (And.intro ⟨by decide, by decide⟩ (z_X8_chooses hM3 im3 (by decide) (fun S4 s4 im4 => e_cN 0 rfl (e_stI ?_))))))
  obtain ⟨iv4, t4⟩ := IV_SM iv3 hM3 s4 im4 (by decide)
  have sh4 := SM.tr sh3 s4 (by decide)
  have hM4 := MS_SM hM sh4
  refine q_tk36 (S0 := S4) (f0 := 50) (r1 := r1) hM4 (fun f5 lv5 S5 hf5 l05 l15 s5 im5 rv5 => ?_) 16 0 g _ S4 rfl (by omega) ⟨lvg_ne l0 rfl (by decide), lvg_ne l1 rfl (by decide), lvg_self⟩ SM.rf im4 iv4.2.1
  obtain ⟨iv5, t5⟩ := IV_RV iv4 hM4 s5 im5 rv5 (by decide)
  have sh5 := SM.tr sh4 s5 (by decide)
  obtain ⟨g5, rfl⟩ : ∃ g, f5 = g + 1 := ⟨f5 - 1, by omega⟩
  refine u_X8_tick_53 ?_
  unfold bX8_tick_53
  refine e_ldA l05 (e_cN 0 rfl (y_mZ (W := WT) hM sh5 im5 (by decide) (by decide) (fun N e => nomatch (show (none : Option Nat) = some N from e)) (fun S6 he6 sh6 im6 => e_cN 0 rfl (e_stI ?_))))
  have hM5 := MS_SM hM sh5
  have hM6 := MS_SM hM sh6
  have s6 : SM [50] m A S5 S6 := by rw [he6]; exact SM.wm SM.rf (by decide)
  obtain ⟨iv6, t6⟩ := IV_SM iv5 hM5 s6 im6 (by decide)
  have c6 : sI S6 m 43 = cl := (s6.2.2.2.2.2 43 (by decide)).trans ((s5.2.2.2.2.2 43 (by decide)).trans ((s4.2.2.2.2.2 43 (by decide)).trans ((s3.2.2.2.2.2 43 (by decide)).trans ((s2.2.2.2.2.2 43 (by decide)).trans ((s1.2.2.2.2.2 43 (by decide)).trans e43)))))
  have tl6 : TL S6 A k = (TL S0 A nt).filter (pD cl) := t6.trans (t5.trans (t4.trans (t3.trans (t2.trans t1))))
  have a42 : sI S6 (A 42) = sI S1 (A 42) := (SM_a s6 hM5 (by decide) (by decide)).trans ((SM_a s5 hM4 (by decide) (by decide)).trans ((SM_a s4 hM3 (by decide) (by decide)).trans ((SM_a s3 hM2 (by decide) (by decide)).trans (SM_a s2 hM1 (by decide) (by decide)))))
  refine q_tk60 (S0 := S6) (f0 := 20) (r1 := r1) (nt := k) (cl := cl) hM6 (by omega) c6 (fun f7 lv7 S7 new hf7 l07 l17 s7 iv7 hl7 hn7 t7 => ?_) 16 0 g5 _ S6 [] rfl (by omega) ⟨lvg_ne l05 rfl (by decide), lvg_ne l15 rfl (by decide), lvg_self⟩ SM.rf iv6 (by decide) (fun q hq => absurd hq (List.not_mem_nil)) (List.append_nil _).symm
  have sh7 := SM.tr sh6 s7 (by decide)
  have hM7 := MS_SM hM sh7
  obtain ⟨g7, rfl⟩ : ∃ g, f7 = g + 4 := ⟨f7 - 4, by omega⟩
  refine q_tk77 (f := g7) hM7 iv7.1 iv7.2.1 ((s7.2.2.2.2.2 43 (by decide)).trans c6) l07 l17 (fun r S8 s8 im8 c8 => ?_)
  obtain ⟨iv8, t8⟩ := IV_SM iv7 hM7 s8 im8 (by decide)
  exact K r S8 k new (SM.tr sh7 s8 (by decide)) iv8 hk hl7 hn7 (t8.trans (t7.trans (by rw [tl6]))) c8 (CM_eq cm1 ((SM_a s8 hM7 (by decide) (by decide)).trans ((SM_a s7 hM6 (by decide) (by decide)).trans a42)) (Nat.le_refl _))

