/-! SIMULATION 51: the frames' relation; all that comes in a tick -/
abbrev FV := Int32 × Int32 × Int32
def fr5 (I : Mm) (z : Nat) : FV := (I z 3, I z 0, I z 1)
def isG (c e : Nat) (q : Nat → Int32) : Bool := decide (q 0 = nI c ∧ q 1 = nI e ∧ ¬ q 3 = -1)
def fq5 (J : Mm) (A : Nat → Nat) (q : Nat → Int32) : FV := (q 2, J (A 35) (q 3).toNatClampNeg, J (A 36) (q 3).toNatClampNeg)
def FLr (R : Nat → Nat → Option Nat) (b : Nat) (I J : Mm) (A : Nat → Nat) (nt : Nat) : Prop := ∀ c e, c < 8 → e < 2 → (CF I R b c e).map (fr5 I) = ((TG J A nt).filter (isG c e)).map (fq5 J A)
def FKd (R : Nat → Nat → Option Nat) (b : Nat) (I J : Mm) (A : Nat → Nat) (cl : Nat) : Prop := ∀ c e, c < 8 → e < 2 → FOK I R b c e ∧ DF I (CF I R b c e) cl (cl + bd J A c + 1)
def FEk (R : Nat → Nat → Option Nat) (b : Nat) (I J : Mm) (A : Nat → Nat) : Prop := ∀ e, e < 2 → ∃ s, EKc I R b e s ∧ EKm J A e s ∧ s.1 ≤ 100000
/-- class and reference have the same frames under way, and have kept the same -/
def FRl (R : Nat → Nat → Option Nat) (b : Nat) (A : Nat → Nat) (I J : Mm) (cl nt : Nat) : Prop := FLr R b I J A nt ∧ FKd R b I J A cl ∧ FEk R b I J A
theorem map_flt {α β γ : Type} {f : α → γ} {g : β → γ} {p : γ → Bool} {L1 : List α} {L2 : List β} (h : L1.map f = L2.map g) : (L1.filter (fun a => p (f a))).map f = (L2.filter (fun b => p (g b))).map g := by rw [← flt_map, ← flt_map, h]
theorem b16 : ∀ (a q k : Bool) (s : Fin 5), (btb a q k s.val &&& nI 16 = 0) ↔ ¬ nI 3 ≤ nI s.val := by decide +kernel
theorem col_r {R : Nat → Nat → Option Nat} {b x : Nat} {I J : Mm} {A : Nat → Nat} (h : RP R b I J A x) : (f_X6_has I (ox R b x) (nI 16) = 0) ↔ ¬ nI 3 ≤ J (A 9) x := by
  obtain ⟨⟨h2, h3, h4, h5, h6, h7, h8, h9, o0, o1, o2, o3, o4, q0, q1, q2, q3, q4⟩, ⟨⟨s, hs, es⟩, _⟩, hl⟩ := h
  unfold f_X6_has
  rw [o4, es, btv_b hs, ← b16 _ _ _ ⟨s, hs⟩]
  split
  · rename_i q; exact ⟨fun _ => q, fun _ => rfl⟩
  · rename_i q; exact ⟨fun z => absurd z (by decide), fun z => absurd z q⟩
theorem dd_eq {R : Nat → Nat → Option Nat} {b m cl nt c e y : Nat} {I J : Mm} {A : Nat → Nat} (hl : (CF I R b c e).map (fr5 I) = ((TG J A nt).filter (isG c e)).map (fq5 J A)) (rp : RP R b I J A y) (m43 : J m 43 = nI cl) : dLc I R b (px R b y) c e cl = dLs J m A c e y nt := by
  have col : (f_X6_has I ((R (px R b y) 0).getD 0) (nI 16) = 0) ↔ ¬ nI 3 ≤ J (A 9) y := col_r rp
  have num : I (ox R b y) 3 = nI (y % 8) := rp.1.2.2.2.2.2.2.2.2.2.2.2.1
  unfold dLc dLs
  by_cases q : nI 3 ≤ J (A 9) y
  · rw [if_neg (fun z => (col.mp z) q), if_pos q]
    have k := map_flt (p := fun v : FV => decide (v.1 = nI cl)) hl
    have k2 := congrArg (List.map (fun v : FV => ((nI (y % 8), v.2.1, v.2.2, nI cl) : FD))) k
    rw [List.map_map, List.map_map] at k2
    have e1 : (List.map (dEc I R (px R b y) (nI cl)) (List.filter (dueB I cl) (CF I R b c e))) = List.map ((fun v : FV => ((nI (y % 8), v.2.1, v.2.2, nI cl) : FD)) ∘ fr5 I) (List.filter (fun a => decide ((fr5 I a).1 = nI cl)) (CF I R b c e)) := List.map_congr_left (fun z _ => by
      show (I (ox R b y) 3, I z 0, I z 1, nI cl) = (nI (y % 8), I z 0, I z 1, nI cl)
      rw [num])
    rw [e1, k2]
    have e2 : (List.filter (isG c e) (TG J A nt)) = ((List.range nt).filter (fun t => isG c e (tg J A t))).map (tg J A) := flt_map
    rw [e2, flt_map, List.map_map, List.filter_filter]
    have e3 : (List.range nt).filter (dFb J m A c e) = (List.range nt).filter (fun t => decide ((fq5 J A (tg J A t)).1 = nI cl) && isG c e (tg J A t)) := List.filter_congr (fun t _ => by
      unfold dFb isG
      show decide _ = (decide (J (A 29) t = nI cl) && decide (J (A 27) t = nI c ∧ J (A 28) t = nI e ∧ ¬ J (A 30) t = -1))
      rw [m43, ← Bool.decide_and]
      exact decide_eq_decide.mpr ⟨fun z => ⟨z.2.2.2, z.1, z.2.1, z.2.2.1⟩, fun z => ⟨z.2.1, z.2.2.1, z.2.2.2, z.1⟩⟩)
    rw [e3]
    refine List.map_congr_left (fun t _ => ?_)
    show (nI (y % 8), J (A 35) (J (A 30) t).toNatClampNeg, J (A 36) (J (A 30) t).toNatClampNeg, nI cl) = (nI (y % 8), J (A 35) (J (A 30) t).toNatClampNeg, J (A 36) (J (A 30) t).toNatClampNeg, J m 43)
    rw [m43]
  · rw [if_pos (col.mpr q), if_neg q]
theorem CF_nil {R : Nat → Nat → Option Nat} {b nt c e : Nat} {I J : Mm} {A : Nat → Nat} (hl : (CF I R b c e).map (fr5 I) = ((TG J A nt).filter (isG c e)).map (fq5 J A)) (no : ∀ t, t < nt → ¬ J (A 27) t = nI c) : CF I R b c e = [] := by
  have : (TG J A nt).filter (isG c e) = [] := List.filter_eq_nil_iff.mpr (fun q hq z => by
    obtain ⟨t, ht, rfl⟩ := List.mem_map.mp hq
    exact no t (List.mem_range.mp ht) (of_decide_eq_true z).1)
  rw [this] at hl
  exact List.map_eq_nil_iff.mp hl
theorem pf_step {S : MM} {b m cl N nt nf : Nat} {A Bc : Nat → Nat} {I0 J0 : Mm} (hL : LY S b) (hO : OC S) (hA : AD m A) (hB : ∀ c, c < 8 → Bc c < 2 ^ 31) (hcl : cl < 2 ^ 31) (hnt : nt ≤ 4000) (hN : N ≤ 4000) (m43 : J0 m 43 = nI cl) (s27 : ∀ t, t < nt → ∃ k, k < 8 ∧ J0 (A 27) t = nI k) (s28 : ∀ t, t < nt → ∃ e, e < 2 ∧ J0 (A 28) t = nI e) (s22 : ∀ t, ∃ p, p < 8 ∧ J0 (A 22) t = nI p) (fl : FLr (sR S) b I0 J0 A nt) (fk : ∀ c e, c < 8 → e < 2 → FOK I0 (sR S) b c e ∧ DF I0 (CF I0 (sR S) b c e) cl (Bc c)) (rp : ∀ x, x < 16 → RP (sR S) b I0 J0 A x) (cx : ∀ c, c < 8 → DCb (sR S) b I0 J0 A nt c ∨ ∃ y, UCb (sR S) b I0 J0 A c y) {i : Nat} {I J : Mm} (w : Int32) (hi : i < 8) (eC : I (Cb (sR S) b i) = I0 (Cb (sR S) b i)) (h : PF S b m cl N A I0 J0 i I J) : PF S b m cl N A I0 J0 (i + 1) (bcE (sR S) b i I) (g_X8_comes_45 m A nt nf nt 0 i J w).1 := by
  rcases cx i hi with ⟨dn, no⟩ | ⟨y, up, pl, hy, hyd, rpp, pa, lit⟩
  · obtain ⟨h1, h2, h3, h4, h5, h6⟩ := h
    have E : bcE (sR S) b i I = I := by
      unfold bcE
      rw [eC]
      rcases dn with d | d
      · rw [if_pos d]
      · rw [if_neg d, ite_self]
    have E2 : g_X8_comes_45 m A nt nf nt 0 i J w = (J, w) := g45_no nt 0 (by omega) (fun t ht z => by
      obtain ⟨k, hk, ek⟩ := s27 t ht
      rw [st_k h5 (by decide), ek, nI_cl (by omega)] at z
      subst z
      exact no t ht ek)
    rw [E, E2]
    refine ⟨h1, fun c e hc he => ⟨fun z => (h2 c e hc he).1 (by omega), fun z => ?_⟩, h3, h4, h5, fun e he => ?_⟩
    · by_cases q : c = i
      · subst q
        have lc := (h2 c e hc he).1 (Nat.le_refl c)
        rw [CF_e lc.1 lc.2, CF_nil (fl c e hc he) no]
        exact ⟨rfl, FOK_e lc.1 lc.2 (fk c e hc he).1⟩
      · exact (h2 c e hc he).2 (by omega)
    · obtain ⟨s, a1, a2, a3⟩ := h6 e he
      exact ⟨s, a1, a2, by omega⟩
  · have E : bcE (sR S) b i I = g_X7_bringAll_31 (sR S) b 2 0 i I := by
      unfold bcE
      rw [eC, if_neg up, if_pos pl]
    rw [E]
    exact pf_up hL hO hA hB hcl hnt hN s27 s28 fk w hi (fun e he => ⟨hy e he, by
      obtain ⟨p, hp, ep⟩ := s22 (2 * i + (1 - e))
      have := pa e he
      rw [ep, nI_cl (by omega)] at this
      omega⟩) rpp pa (fun e he => dd_eq (fl i e hi he) (rp (y e) (hy e he)) m43) h
theorem pf_all {S : MM} {b m cl N nt nf : Nat} {A Bc : Nat → Nat} {I0 J0 : Mm} (hL : LY S b) (hO : OC S) (hA : AD m A) (hB : ∀ c, c < 8 → Bc c < 2 ^ 31) (hcl : cl < 2 ^ 31) (hnt : nt ≤ 4000) (hN : N ≤ 4000) (m43 : J0 m 43 = nI cl) (s27 : ∀ t, t < nt → ∃ k, k < 8 ∧ J0 (A 27) t = nI k) (s28 : ∀ t, t < nt → ∃ e, e < 2 ∧ J0 (A 28) t = nI e) (s22 : ∀ t, ∃ p, p < 8 ∧ J0 (A 22) t = nI p) (fl : FLr (sR S) b I0 J0 A nt) (fk : ∀ c e, c < 8 → e < 2 → FOK I0 (sR S) b c e ∧ DF I0 (CF I0 (sR S) b c e) cl (Bc c)) (rp : ∀ x, x < 16 → RP (sR S) b I0 J0 A x) (cx : ∀ c, c < 8 → DCb (sR S) b I0 J0 A nt c ∨ ∃ y, UCb (sR S) b I0 J0 A c y) : ∀ (r i : Nat) (I J : Mm) (w : Int32), i + r = 8 → (∀ c, c < 8 → I (Cb (sR S) b c) = I0 (Cb (sR S) b c)) → PF S b m cl N A I0 J0 i I J → PF S b m cl N A I0 J0 8 (g_X7_bringAll_2 (sR S) b r i I) (g_X8_comes_37 m A nt nf r i J w).1 := by
  intro r
  induction r with
  | zero =>
    intro i I J w hi _ h
    have : i = 8 := by omega
    subst this
    exact h
  | succ r ih =>
    intro i I J w hi eC h
    rw [bc_s, g_X8_comes_37]
    refine ih (i + 1) _ _ _ (by omega) (fun c hc => ?_) (pf_step hL hO hA hB hcl hnt hN m43 s27 s28 s22 fl fk rp cx w (by omega) (eC i (by omega)) h)
    rw [← eC c hc]
    have kC := (ly_C hL hc).2.1
    unfold bcE
    split
    · rfl
    · split
      · rename_i pl
        have kp : ∀ j, j < 2 → sK S ((sR S (ppd (sR S) b i) (1 - j)).getD 0) = 6 := fun j hj => ly_nn hL.1 (ly_pp hL (show i < 8 by omega)).2.1 rfl (plg_i pl (by omega))
        have q : ∀ r j (K : Mm), j + r = 2 → K (Cb (sR S) b c) = I (Cb (sR S) b c) → g_X7_bringAll_31 (sR S) b r j i K (Cb (sR S) b c) = I (Cb (sR S) b c) := by
          intro r
          induction r with
          | zero => intro j K _ h; exact h
          | succ r ih2 =>
            intro j K hj hK
            rw [g_X7_bringAll_31]
            refine ih2 _ _ (by omega) ?_
            have n1 := nf_notes (e := j) (I0 := K) hL (kp j (by omega)) (show i < 8 by omega) (by omega) 8 0 K NFm.rf
            have n2 := bf_bring (p := (sR S (ppd (sR S) b i) (1 - j)).getD 0) (e := j) (I := f_X7_bringNotes K (sR S) b ((sR S (ppd (sR S) b i) (1 - j)).getD 0) i j) hL (show i < 8 by omega) (by omega)
            have kq : sK S ((sR S ((sR S (ppd (sR S) b i) (1 - j)).getD 0) 1).getD 0) = 7 := (ly_f hL.1 (kp j (by omega)) (show rf 6 1 = some (7, 0) from rfl)).2.1
            rw [bf_z n2 kC (by decide)]
            exact (n1.1 _ (by rw [kC]; decide) (ne_k kC (kp j (by omega)) (by decide)) (ne_k kC kq (by decide))).trans hK
        exact q 2 0 I rfl rfl
      · rfl
