/-! SYSTEM AND LIMIT, exactly -/
def eE (e0 e1 j : Nat) : Nat := if j = 0 then e0 else e1
def ED (S : MM) (x aE e0 e1 : Nat) : Prop := sR S x 0 = some aE ∧ sR S aE 0 = some e0 ∧ sR S aE 1 = some e1 ∧ e0 ≠ e1
theorem ED_j {S : MM} {x aE e0 e1 j : Nat} (h : ED S x aE e0 e1) (hj : j < 2) : sR S aE j = some (eE e0 e1 j) := by
  have : j = 0 ∨ j = 1 := by omega
  rcases this with rfl | rfl
  · exact h.2.1
  · exact h.2.2.1
theorem ED_ne {S : MM} {x aE e0 e1 j k : Nat} (h : ED S x aE e0 e1) (hj : j < 2) (hk : k < 2) (hn : k ≠ j) : eE e0 e1 k ≠ eE e0 e1 j := by
  have h1 : j = 0 ∨ j = 1 := by omega
  have h2 : k = 0 ∨ k = 1 := by omega
  rcases h1 with rfl | rfl <;> rcases h2 with rfl | rfl
  · exact absurd rfl hn
  · exact h.2.2.2.symm
  · exact h.2.2.2
  · exact absurd rfl hn
theorem ED_k {S : MM} {x aE e0 e1 : Nat} (hT : TY S) (kx : sK S x = 8) (h : ED S x aE e0 e1) : sK S aE = 13 ∧ sN S aE = 2 ∧ ∀ j, j < 2 → sK S (eE e0 e1 j) = 2 := by
  obtain ⟨a, a1, a2, a3⟩ := hT.1 x 8 0 13 2 kx rfl
  cases Option.some.inj (a1.symm.trans h.1)
  refine ⟨a2, a3, fun j hj => ?_⟩
  obtain ⟨b, b1, b2, b3⟩ := hT.2.1 aE 13 2 2 j a2 a3 rfl hj
  cases Option.some.inj (b1.symm.trans (ED_j h hj))
  exact b2
def LIB (v w : Int32) : Prop := bE v ∨ w < 1 ∨ ¬ w ≤ 8
def SIB (v w : Int32) : Prop := bE v ∨ w < 1 ∨ ¬ w ≤ 1000000
theorem q_rn7 {Q : Option Value → MM → Prop} {S0 : MM} {o : Nat} {w : Int32} (hT : TY S0) (ko : sK S0 o = 2) (K : ∀ S', SH [7] S0 S' → IR S' → Q none S') : ∀ (r i f : Nat) (lv : Lv) (S : MM), i + r = 8 → r + 2 ≤ f → lvg lv 0 = some (.ref o) → lvg lv 1 = some (.int w) → lvg lv 2 = some (.int (nI i)) → SH [7] S0 S → IR S → wpn (kX1_rename Q) f 7 lv [] S 0 0 := by
  obtain ⟨pa, rpa, kpa, npa⟩ := hT.1 o 2 0 17 8 ko rfl
  intro r
  induction r with
  | zero =>
    intro i f lv S hi hf l0 l1 l2 sh ir
    have e : i = 8 := by omega
    subst e
    obtain ⟨g, rfl⟩ : ∃ g, f = g + 2 := ⟨f - 2, by omega⟩
    refine u_X1_rename_7 ?_
    unfold bX1_rename_7
    refine e_ldI l2 (e_cN 8 rfl (e_ge (by decide) (by decide) (fun _ => u_X1_rename_32 ?_) (fun h => absurd h (by decide))))
    unfold bX1_rename_32
    exact e_rV (K S sh ir)
  | succ r ih =>
    intro i f lv S hi hf l0 l1 l2 sh ir
    obtain ⟨g, rfl⟩ : ∃ g, f = g + 1 := ⟨f - 1, by omega⟩
    obtain ⟨p, rp, kp, np⟩ := hT.2.1 pa 17 8 6 i kpa npa rfl (by omega)
    obtain ⟨t, rt, kt, nt⟩ := hT.1 p 6 0 7 0 kp rfl
    refine u_X1_rename_7 ?_
    unfold bX1_rename_7
    exact e_ldI l2 (e_cN 8 rfl (e_ge (by omega) (by decide) (fun h => absurd h (by omega)) (fun _ => e_ldA l0 (e_gR (SH_k sh ko) (SH_r sh rpa) (e_ldI l2 (e_aR (SH_k sh kpa) (SH_n sh npa) (by omega) (by decide) (SH_r sh rp) (e_gR (SH_k sh kp) (SH_r sh rt) (e_ldI l1 (y_tI (SH_k sh kt) sh ir (by decide) (by decide) (fun N e => nomatch (show (none : Option Nat) = some N from e)) (fun S1 he sh1 ir1 => e_inc l2 (ih (i + 1) g _ S1 (by omega) (by omega) (lvg_ne l0 rfl (by decide)) (lvg_ne l1 rfl (by decide)) lvg_self sh1 ir1)))))))))))
theorem z_rename {Q : Option Value → MM → Prop} {S0 : MM} {o : Nat} {w : Int32} (hT : TY S0) (ir : IR S0) (ko : sK S0 o = 2) (K : ∀ S', SH [7] (pI S0 o 1 w) S' → IR S' → Q none S') : wX1_rename [.ref o, .int w] S0 Q := by
  refine Exists.intro 12 (u_X1_rename_0 ?_)
  unfold bX1_rename_0
  have ir1 : IR (pI S0 o 1 w) := IR_w ir ko (fun N e => nomatch (show (none : Option Nat) = some N from e))
  have hT1 : TY (pI S0 o 1 w) := hT
  exact e_ldA rfl (e_ldI rfl (e_tI ko (e_cN 0 rfl (e_stI (q_rn7 (S0 := pI S0 o 1 w) hT1 ko K 8 0 11 _ _ rfl (by decide) (lvg_ne rfl rfl (by decide)) (lvg_ne rfl rfl (by decide)) lvg_self SH.rf ir1)))))
theorem z_limit {Q : Option Value → MM → Prop} {X : String → MM → Prop} {S0 : MM} {x aE e0 e1 : Nat} {v w : Int32} (hT : TY S0) (ir : IR S0) (kx : sK S0 x = 8) (hE : ED S0 x aE e0 e1) (hb : LIB v w → X eI S0) (ho : ∀ j, j < 2 → v = nI j → ¬ LIB v w → ∀ S', SH [1, 8, 22] S0 S' → IR S' → (∀ k, k < 2 → sI S' (eE e0 e1 k) 2 = if k = j then w else sI S0 (eE e0 e1 k) 2) → Q (some (.int (sI S0 (eE e0 e1 j) 2))) S') : wX7_limit [.ref x, .int v, .int w] S0 Q X := by
  obtain ⟨kE, nE, kj⟩ := ED_k hT kx hE
  have th : LIB v w → ∀ lv, wpn (kX7_limit Q X) 60 18 lv [] S0 0 0 := fun h lv => u_X7_limit_18 (And.intro ⟨by decide, by decide⟩ (hb h))
  refine Exists.intro 61 (u_X7_limit_0 ?_)
  unfold bX7_limit_0
  refine e_ldI rfl (And.intro ⟨by decide, by decide⟩ (z_isEnd' (fun h => e_ifN (by decide) (fun _ => th (Or.inl h) _) (fun q => absurd rfl q)) (fun j hj ej => e_ifN (by decide) (fun q => absurd q (by decide)) (fun _ => ?_))))
  refine e_ldI rfl (e_cI ⟨fun h => th (Or.inr (Or.inl h)) _, fun h1 => e_ldI rfl (e_cI ⟨fun h2 => ?_, fun h => th (Or.inr (Or.inr h)) _⟩)⟩)
  have nb : ¬ LIB v w := fun q => by
    rcases q with q | q | q
    · exact nbE hj (ej ▸ q)
    · exact h1 q
    · exact q h2
  have K := ho j hj ej nb
  subst ej
  have rj := ED_j hE hj
  have kd := kj j hj
  refine u_X7_limit_28 ?_
  unfold bX7_limit_28
  refine e_ldA rfl (e_gR kx hE.1 (e_ldI rfl (e_aR kE nE hj (by decide) rj (e_gV (v := sI S0 (eE e0 e1 j) 2) kd rfl (e_stI (e_ldA (lvg_ne rfl rfl (by decide)) (e_gR kx hE.1 (e_ldI (lvg_ne rfl rfl (by decide)) (e_aR kE nE hj (by decide) rj (e_ldI (lvg_ne rfl rfl (by decide)) (y_tI (W := [1, 8, 22]) kd SH.rf ir (by decide) (by decide) (fun N e => nomatch (show (none : Option Nat) = some N from e)) (fun S1 he1 sh1 ir1 => ?_))))))))))))
  refine e_ldA (lvg_ne rfl rfl (by decide)) (And.intro (SH_k sh1 kx) (And.intro ⟨by decide, by decide⟩ (z_X7_noteChange (TY_SH hT sh1) ir1 (SH_k sh1 kx) (fun S2 s2 ir2 => e_ldI lvg_self (e_rI (K S2 (SH.tr sh1 s2 (by decide)) ir2 (fun k hk => ?_)))))))
  rw [SH_i s2 (SH_k sh1 (kj k hk)) (by decide) (by decide) (v := sI S1 (eE e0 e1 k) 2) rfl, he1, sI_pI]
  by_cases hz : k = j
  · rw [if_pos hz, hz, up2_self]
  · rw [if_neg hz, up2_ne (fun q => ED_ne hE hj hk hz q.1)]
theorem z_system {Q : Option Value → MM → Prop} {X : String → MM → Prop} {S0 : MM} {x aE e0 e1 : Nat} {v w : Int32} (hT : TY S0) (ir : IR S0) (kx : sK S0 x = 8) (hE : ED S0 x aE e0 e1) (hb : SIB v w → X eI S0) (hs : ∀ j, j < 2 → v = nI j → ¬ SIB v w → sI S0 (eE e0 e1 (1 - j)) 1 = w → X eS S0) (ho : ∀ j, j < 2 → v = nI j → ¬ SIB v w → ¬ sI S0 (eE e0 e1 (1 - j)) 1 = w → ∀ S', SH [1, 7, 8, 21] S0 S' → IR S' → (∀ k, k < 2 → sI S' (eE e0 e1 k) 1 = if k = j then w else sI S0 (eE e0 e1 k) 1) → Q (some (.int (sI S0 (eE e0 e1 j) 1))) S') : wX7_system [.ref x, .int v, .int w] S0 Q X := by
  obtain ⟨kE, nE, kj⟩ := ED_k hT kx hE
  have th : SIB v w → ∀ lv, wpn (kX7_system Q X) 60 18 lv [] S0 0 0 := fun h lv => u_X7_system_18 (And.intro ⟨by decide, by decide⟩ (hb h))
  refine Exists.intro 61 (u_X7_system_0 ?_)
  unfold bX7_system_0
  refine e_ldI rfl (And.intro ⟨by decide, by decide⟩ (z_isEnd' (fun h => e_ifN (by decide) (fun _ => th (Or.inl h) _) (fun q => absurd rfl q)) (fun j hj ej => e_ifN (by decide) (fun q => absurd q (by decide)) (fun _ => ?_))))
  refine e_ldI rfl (e_cI ⟨fun h => th (Or.inr (Or.inl h)) _, fun h1 => e_ldI rfl (e_cI ⟨fun h2 => ?_, fun h => th (Or.inr (Or.inr h)) _⟩)⟩)
  have nb : ¬ SIB v w := fun q => by
    rcases q with q | q | q
    · exact nbE hj (ej ▸ q)
    · exact h1 q
    · exact q h2
  have K := ho j hj ej nb
  have KS := hs j hj ej nb
  subst ej
  have rj := ED_j hE hj
  have kd := kj j hj
  have ro := ED_j hE (show 1 - j < 2 by omega)
  have ko := kj (1 - j) (by omega)
  refine u_X7_system_28 ?_
  unfold bX7_system_28
  refine e_ldA rfl (e_gR kx hE.1 (e_cN 1 rfl (e_ldI rfl (e_sub (by omega) (e_aR kE nE (by omega) (by decide) ro (e_gV (v := sI S0 (eE e0 e1 (1 - j)) 1) ko rfl (e_ldI rfl ⟨fun he => And.intro ⟨by decide, by decide⟩ (KS he), fun hn => u_X7_system_53 ?_⟩)))))))
  unfold bX7_system_53
  refine e_ldA rfl (e_gR kx hE.1 (e_ldI rfl (e_aR kE nE hj (by decide) rj (e_gV (v := sI S0 (eE e0 e1 j) 1) kd rfl (e_stI (e_ldA (lvg_ne rfl rfl (by decide)) (e_gR kx hE.1 (e_ldI (lvg_ne rfl rfl (by decide)) (e_aR kE nE hj (by decide) rj (e_ldI (lvg_ne rfl rfl (by decide)) (And.intro kd (And.intro ⟨by decide, by decide⟩ (z_rename hT ir kd (fun S1 s1 ir1 => ?_))))))))))))))
  have sh0 : SH [1, 7, 8, 21] S0 (pI S0 (eE e0 e1 j) 1 w) := SH.wr SH.rf kd (by decide) (by decide)
  have sh1 : SH [1, 7, 8, 21] S0 S1 := SH.tr sh0 s1 (by decide)
  refine e_ldA (lvg_ne rfl rfl (by decide)) (And.intro (SH_k sh1 kx) (And.intro ⟨by decide, by decide⟩ (z_X7_noteChange (TY_SH hT sh1) ir1 (SH_k sh1 kx) (fun S2 s2 ir2 => e_ldI lvg_self (e_rI (K hn S2 (SH.tr sh1 s2 (by decide)) ir2 (fun k hk => ?_)))))))
  rw [SH_i s2 (SH_k sh1 (kj k hk)) (by decide) (by decide) (v := sI S1 (eE e0 e1 k) 1) rfl, SH_i s1 (show sK (pI S0 (eE e0 e1 j) 1 w) (eE e0 e1 k) = 2 from kj k hk) (by decide) (by decide) (v := sI (pI S0 (eE e0 e1 j) 1 w) (eE e0 e1 k) 1) rfl, sI_pI]
  by_cases hz : k = j
  · rw [if_pos hz, hz, up2_self]
  · rw [if_neg hz, up2_ne (fun q => ED_ne hE hj hk hz q.1)]
theorem q_Ml_bad {Q : Option Value → MM → Prop} {S0 : MM} {m n : Nat} {A : Nat → Nat} {lv : Lv} (hM : MS S0 m A) (im : IM S0 m A) (g0 : lvg lv 0 = some (.ref m)) (h : ∀ S', SM [0] m A S0 S' → IM S' m A → sI S' m 0 = nI 1 → Q (some (.int 0)) S') : wpn (kX8_limit Q) (n + 2) 19 lv [.ref m] S0 0 0 := by
  refine u_X8_limit_19 ?_
  unfold bX8_limit_19
  refine e_cI (u_X8_limit_24 ?_)
  unfold bX8_limit_24
  refine y_mI (W := [0]) hM SM.rf im (by decide) (fun N e => nomatch (show (none : Option Nat) = some N from e)) (fun S1 he sh im1 => ?_)
  have v0 : sI S1 m 0 = 1 := by rw [he]; exact rd_s
  exact e_ldA g0 (e_gV (v := 1) (SM_k sh hM.1) v0 ⟨fun z => absurd z (by decide), fun _ => e_cI (e_rI (h S1 sh im1 v0))⟩)
theorem z_Mlimit {Q : Option Value → MM → Prop} {S0 : MM} {m : Nat} {A : Nat → Nat} {v w : Int32} (hM : MS S0 m A) (im : IM S0 m A) (hb : LIB v w → ∀ S', SM [0] m A S0 S' → IM S' m A → sI S' m 0 = nI 1 → Q (some (.int 0)) S') (ho : ∀ j, j < 2 → v = nI j → ¬ LIB v w → ∀ S', SM [0, 2, 44] m A S0 S' → IM S' m A → sI S' m 0 = nI 0 → sI S' (A 2) = upd (sI S0 (A 2)) j w → Q (some (.int (sI S0 (A 2) j))) S') : wX8_limit [.ref m, .int v, .int w] S0 Q := by
  have th : LIB v w → wpn (kX8_limit Q) 9 19 (lv_args 0 [.ref m, .int v, .int w]) [.ref m] S0 0 0 := fun h => q_Ml_bad (n := 7) hM im rfl (hb h)
  refine Exists.intro 10 (u_X8_limit_0 ?_)
  unfold bX8_limit_0
  refine e_ldA rfl (e_ldI rfl (And.intro ⟨by decide, by decide⟩ (z_MisEnd' (fun h => e_ifN (by decide) (fun _ => th (Or.inl h)) (fun q => absurd rfl q)) (fun j hj ej => e_ifN (by decide) (fun q => absurd q (by decide)) (fun _ => ?_)))))
  refine e_ldI rfl (e_cI ⟨fun h => th (Or.inr (Or.inl h)), fun h1 => e_ldI rfl (e_cI ⟨fun h2 => ?_, fun h => th (Or.inr (Or.inr h))⟩)⟩)
  have nb : ¬ LIB v w := fun q => by
    rcases q with q | q | q
    · exact nbE hj (ej ▸ q)
    · exact h1 q
    · exact q h2
  have K := ho j hj ej nb
  subst ej
  refine u_X8_limit_23 ?_
  unfold bX8_limit_23
  refine e_cI (u_X8_limit_24 ?_)
  unfold bX8_limit_24
  refine y_mI (W := [0, 2, 44]) hM SM.rf im (by decide) (fun N e => nomatch (show (none : Option Nat) = some N from e)) (fun S1 he sh im1 => ?_)
  have v0 : sI S1 m 0 = 0 := by rw [he]; exact rd_s
  have hM1 := MS_SM hM sh
  have a2 : sI S1 (A 2) = sI S0 (A 2) := fn_o he rfl (ne_m hM (by decide))
  refine e_ldA rfl (e_gV (v := 0) (SM_k sh hM.1) v0 ⟨fun _ => u_X8_limit_36 ?_, fun z => absurd (by decide) z⟩)
  unfold bX8_limit_36
  refine e_ldA rfl (e_gR hM1.1 (hM1.2.1 2 (by decide)).1 (e_ldI rfl (e_aV (N := 2) (v := sI S0 (A 2) j) (kdA hM1 (by decide) rfl) (lnA hM1 (by decide) rfl) hj (by decide) (by rw [a2]) (e_stI (e_ldA (lvg_ne rfl rfl (by decide)) (e_gR hM1.1 (hM1.2.1 2 (by decide)).1 (e_ldI (lvg_ne rfl rfl (by decide)) (e_ldI (lvg_ne rfl rfl (by decide)) (y_mA (N := 2) hM sh im1 (by decide) rfl rfl hj (by decide) (by decide) (fun N e => nomatch (show (none : Option Nat) = some N from e)) (fun e => absurd e (by decide)) (fun S2 he2 sh2 im2 => ?_))))))))))
  have v2 : sI S2 m 0 = 0 := by rw [he2]; exact rd_a v0 (Ne.symm (ne_m hM (by decide)))
  have hM2 := MS_SM hM sh2
  exact e_ldA (lvg_ne rfl rfl (by decide)) (And.intro (SM_k sh2 hM.1) (And.intro ⟨by decide, by decide⟩ (z_X8_isNotQuiet hM2 im2 (fun S9 s9 im9 => e_ldI lvg_self (e_rI (K S9 (SM.tr sh2 s9 (by decide)) im9 ((s9.2.2.2.2.2 0 (by decide)).trans v2) ((SM_a s9 hM2 (by decide) (by decide)).trans (fn_s he2 a2))))))))
theorem q_Ms_bad {Q : Option Value → MM → Prop} {S0 : MM} {m n k : Nat} {A : Nat → Nat} {lv : Lv} (hk : 0 < k ∧ k < 3) (hM : MS S0 m A) (im : IM S0 m A) (g0 : lvg lv 0 = some (.ref m)) (h : ∀ S', SM [0] m A S0 S' → IM S' m A → sI S' m 0 = nI k → Q (some (.int 0)) S') : wpn (kX8_system Q) (n + 1) 40 lv [.int (nI k), .ref m] S0 0 0 := by
  refine u_X8_system_40 ?_
  unfold bX8_system_40
  refine y_mI (W := [0]) hM SM.rf im (by decide) (fun N e => nomatch (show (none : Option Nat) = some N from e)) (fun S1 he sh im1 => ?_)
  have v0 : sI S1 m 0 = nI k := by rw [he]; exact rd_s
  exact e_ldA g0 (e_gV (v := nI k) (SM_k sh hM.1) v0 (e_lez (by omega) (fun z => absurd z (by omega)) (fun _ => e_cI (e_rI (h S1 sh im1 v0)))))
theorem z_Msystem {Q : Option Value → MM → Prop} {S0 : MM} {m : Nat} {A : Nat → Nat} {v w : Int32} (hM : MS S0 m A) (im : IM S0 m A) (hb : SIB v w → ∀ S', SM [0] m A S0 S' → IM S' m A → sI S' m 0 = nI 1 → Q (some (.int 0)) S') (hs : ∀ j, j < 2 → v = nI j → ¬ SIB v w → sI S0 (A 1) (1 - j) = w → ∀ S', SM [0] m A S0 S' → IM S' m A → sI S' m 0 = nI 2 → Q (some (.int 0)) S') (ho : ∀ j, j < 2 → v = nI j → ¬ SIB v w → ¬ sI S0 (A 1) (1 - j) = w → ∀ S', SM [0, 1, 44] m A S0 S' → IM S' m A → sI S' m 0 = nI 0 → sI S' (A 1) = upd (sI S0 (A 1)) j w → Q (some (.int (sI S0 (A 1) j))) S') : wX8_system [.ref m, .int v, .int w] S0 Q := by
  have th : SIB v w → wpn (kX8_system Q) 9 19 (lv_args 0 [.ref m, .int v, .int w]) [.ref m] S0 0 0 := fun h => by
    refine u_X8_system_19 ?_
    unfold bX8_system_19
    exact e_cN 1 rfl (q_Ms_bad (n := 7) (k := 1) (by decide) hM im rfl (hb h))
  refine Exists.intro 10 (u_X8_system_0 ?_)
  unfold bX8_system_0
  refine e_ldA rfl (e_ldI rfl (And.intro ⟨by decide, by decide⟩ (z_MisEnd' (fun h => e_ifN (by decide) (fun _ => th (Or.inl h)) (fun q => absurd rfl q)) (fun j hj ej => e_ifN (by decide) (fun q => absurd q (by decide)) (fun _ => ?_)))))
  refine e_ldI rfl (e_cI ⟨fun h => th (Or.inr (Or.inl h)), fun h1 => e_ldI rfl (e_cI ⟨fun h2 => ?_, fun h => th (Or.inr (Or.inr h))⟩)⟩)
  have nb : ¬ SIB v w := fun q => by
    rcases q with q | q | q
    · exact nbE hj (ej ▸ q)
    · exact h1 q
    · exact q h2
  have K := ho j hj ej nb
  have KS := hs j hj ej nb
  subst ej
  refine u_X8_system_23 ?_
  unfold bX8_system_23
  refine e_ldA rfl (e_gR hM.1 (hM.2.1 1 (by decide)).1 (e_cN 1 rfl (e_ldI rfl (e_sub (by omega) (e_aV (N := 2) (v := sI S0 (A 1) (1 - j)) (kdA hM (by decide) rfl) (lnA hM (by decide) rfl) (by omega) (by decide) rfl (e_ldI rfl ⟨fun he => e_cN 2 rfl (q_Ms_bad (n := 7) (k := 2) (by decide) hM im rfl (KS he)), fun hn => u_X8_system_39 ?_⟩))))))
  unfold bX8_system_39
  refine e_cI (u_X8_system_40 ?_)
  unfold bX8_system_40
  refine y_mI (W := [0, 1, 44]) hM SM.rf im (by decide) (fun N e => nomatch (show (none : Option Nat) = some N from e)) (fun S1 he sh im1 => ?_)
  have v0 : sI S1 m 0 = 0 := by rw [he]; exact rd_s
  have hM1 := MS_SM hM sh
  have a2 : sI S1 (A 1) = sI S0 (A 1) := fn_o he rfl (ne_m hM (by decide))
  refine e_ldA rfl (e_gV (v := 0) (SM_k sh hM.1) v0 ⟨fun _ => u_X8_system_52 ?_, fun z => absurd (by decide) z⟩)
  unfold bX8_system_52
  refine e_ldA rfl (e_gR hM1.1 (hM1.2.1 1 (by decide)).1 (e_ldI rfl (e_aV (N := 2) (v := sI S0 (A 1) j) (kdA hM1 (by decide) rfl) (lnA hM1 (by decide) rfl) hj (by decide) (by rw [a2]) (e_stI (e_ldA (lvg_ne rfl rfl (by decide)) (e_gR hM1.1 (hM1.2.1 1 (by decide)).1 (e_ldI (lvg_ne rfl rfl (by decide)) (e_ldI (lvg_ne rfl rfl (by decide)) (y_mA (N := 2) hM sh im1 (by decide) rfl rfl hj (by decide) (by decide) (fun N e => nomatch (show (none : Option Nat) = some N from e)) (fun e => absurd e (by decide)) (fun S2 he2 sh2 im2 => ?_))))))))))
  have v2 : sI S2 m 0 = 0 := by rw [he2]; exact rd_a v0 (Ne.symm (ne_m hM (by decide)))
  have hM2 := MS_SM hM sh2
  exact e_ldA (lvg_ne rfl rfl (by decide)) (And.intro (SM_k sh2 hM.1) (And.intro ⟨by decide, by decide⟩ (z_X8_isNotQuiet hM2 im2 (fun S9 s9 im9 => e_ldI lvg_self (e_rI (K hn S9 (SM.tr sh2 s9 (by decide)) im9 ((s9.2.2.2.2.2 0 (by decide)).trans v2) ((SM_a s9 hM2 (by decide) (by decide)).trans (fn_s he2 a2))))))))
