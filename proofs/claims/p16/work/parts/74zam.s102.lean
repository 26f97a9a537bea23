/-! SIMULATION 102: the frames' numbers where other calls are made -/
def XG (R : Nat → Nat → Option Nat) (b : Nat) (A : Nat → Nat) (I J : Mm) (nt F : Nat) (φ : Nat → Nat) : Prop := PHl R b I J A nt φ ∧ ∀ e, e < 2 → SRc R b e I J A F φ ∧ LTc R b e I J A F φ (J (A 38))
def EPx (R : Nat → Nat → Option Nat) (b : Nat) (A : Nat → Nat) (I J : Mm) (F : Nat) : Prop := ∀ e, e < 2 → I (En R b e) 8 = J (A 40) e ∧ I (En R b e) 7 = nI (gcB (fun g => decide (J (A 33) g = nI e)) F)
def CTx (b m : Nat) (I J : Mm) : Prop := I b 3 = J m 44 ∧ I b 4 = J m 45 ∧ I b 5 = J m 46 ∧ I b 6 = J m 47 ∧ I b 7 = J m 48 ∧ I b 8 = J m 49
theorem XR_3 {R : Nat → Nat → Option Nat} {b m nt F : Nat} {A : Nat → Nat} {I J : Mm} {φ : Nat → Nat} : XRl R b m A I J nt F φ ↔ CTx b m I J ∧ EPx R b A I J F ∧ XG R b A I J nt F φ := Iff.rfl
theorem SRz_J {I J J' : Mm} {A : Nat → Nat} {F e z f : Nat} (k : ∀ k, (k = 33 ∨ k = 34 ∨ k = 35 ∨ k = 37) → J' (A k) = J (A k)) (h : SRz I J A F e z f) : SRz I J' A F e z f := by
  unfold SRz at h ⊢
  rw [k 33 (by omega), k 34 (by omega), k 35 (by omega), k 37 (by omega)]
  exact h
theorem LAt_J {J J' : Mm} {A : Nat → Nat} {F f : Nat} {cm : Nat → Int32} (k : ∀ k, (k = 33 ∨ k = 34 ∨ k = 35 ∨ k = 37) → J' (A k) = J (A k)) : LAt J' A F cm f ↔ LAt J A F cm f := by
  unfold LAt
  rw [LAb_c k (fun _ _ => Iff.rfl)]
/-- lanes as they were, or emptied on both sides -/
theorem XG_g {S : MM} {b nt n' F : Nat} {A : Nat → Nat} {I I' J J' : Mm} {φ : Nat → Nat} (hL : LY S b) (fok : ∀ c e, c < 8 → e < 2 → FOK I (sR S) b c e) (z3 : ∀ z, sK S z = 3 → I' z = I z) (jk : ∀ k, (k = 33 ∨ k = 34 ∨ k = 35 ∨ k = 37 ∨ k = 38) → J' (A k) = J (A k)) (lanes : ∀ c e, c < 8 → e < 2 → I' (Ln (sR S) b c e) 4 = I (Ln (sR S) b c e) 4 ∧ ((I' (Ln (sR S) b c e) 5 = I (Ln (sR S) b c e) 5 ∧ (TG J' A n').filter (isG c e) = (TG J A nt).filter (isG c e)) ∨ (I' (Ln (sR S) b c e) 5 = nI 0 ∧ (TG J' A n').filter (isG c e) = []))) (h : XG (sR S) b A I J nt F φ) : XG (sR S) b A I' J' n' F φ := by
  obtain ⟨ph, xs⟩ := h
  have nil : ∀ c e, I' (Ln (sR S) b c e) 5 = nI 0 → CF I' (sR S) b c e = [] := fun c e q => by unfold CF; rw [q]; rfl
  have sub : ∀ c e, c < 8 → e < 2 → ∀ z ∈ CF I' (sR S) b c e, z ∈ CF I (sR S) b c e := fun c e hc he z hz => by
    obtain ⟨l4, ⟨l5, _⟩ | ⟨l5, _⟩⟩ := lanes c e hc he
    · rw [CF_e l4 l5] at hz; exact hz
    · rw [nil c e l5] at hz; exact absurd hz List.not_mem_nil
  have kz : ∀ c e, c < 8 → e < 2 → ∀ z ∈ CF I (sR S) b c e, sK S z = 3 := fun c e hc he => CF_k hL hc he (fok c e hc he)
  have k4 : ∀ k, (k = 33 ∨ k = 34 ∨ k = 35 ∨ k = 37) → J' (A k) = J (A k) := fun k hk => jk k (by omega)
  refine ⟨fun c e hc he => ?_, fun e he => ⟨fun c hc z hz => ?_, fun c hc z hz => ?_⟩⟩
  · obtain ⟨l4, ⟨l5, t⟩ | ⟨l5, t⟩⟩ := lanes c e hc he
    · rw [CF_e l4 l5, t]; exact ph c e hc he
    · rw [nil c e l5, t]; rfl
  · have hz0 := sub c e hc he z hz
    exact SRz_J k4 (SRz_e ((xs e he).1 c hc z hz0) (fun j _ => by rw [z3 z (kz c e hc he z hz0)]))
  · have hz0 := sub c e hc he z hz
    rw [z3 z (kz c e hc he z hz0), (xs e he).2 c hc z hz0, jk 38 (by omega), LAt_J k4]
theorem XG_t {S : MM} {b nt F : Nat} {A : Nat → Nat} {I I' J J' : Mm} {φ : Nat → Nat} (hL : LY S b) (fok : ∀ c e, c < 8 → e < 2 → FOK I (sR S) b c e) (fa : FA S b I I') (jk : ∀ k, (k = 33 ∨ k = 34 ∨ k = 35 ∨ k = 37 ∨ k = 38) → J' (A k) = J (A k)) (tg : TG J' A nt = TG J A nt) (h : XG (sR S) b A I J nt F φ) : XG (sR S) b A I' J' nt F φ := XG_g hL fok (fun z hz => fa.1 z (Or.inl hz)) jk (fun c e hc he => ⟨(fa.2.1 c e hc he).1, Or.inl ⟨(fa.2.1 c e hc he).2, by rw [tg]⟩⟩) h
theorem nc_c {c c' e : Nat} (hc : c < 8) (hc' : c' < 8) (n : c' ≠ c) {L : List (Nat → Int32)} : (L.filter (nc c)).filter (isG c' e) = L.filter (isG c' e) := by
  rw [List.filter_filter]
  refine List.filter_congr (fun p _ => ?_)
  by_cases z : isG c' e p = true
  · have : nc c p = true := by
      unfold nc
      rw [decide_eq_false (fun y => n (nI_inj (by omega) (by omega) ((of_decide_eq_true z).1.symm.trans y)))]
      rfl
    rw [this, Bool.and_true]
  · rw [Bool.eq_false_iff.mpr z, Bool.false_and]
theorem nc_f0 {c e : Nat} {L : List (Nat → Int32)} : (L.filter (nc c)).filter (isG c e) = [] := List.filter_eq_nil_iff.mpr (fun p hp z => by
  have h1 := (List.mem_filter.mp hp).2
  rw [show nc c p = false from by unfold nc; rw [decide_eq_true (of_decide_eq_true z).1]; rfl] at h1
  exact absurd h1 (by decide))
theorem XG_cut {S : MM} {b c nt n' F : Nat} {A : Nat → Nat} {I I' J J' : Mm} {φ : Nat → Nat} (hL : LY S b) (hc : c < 8) (fok : ∀ c e, c < 8 → e < 2 → FOK I (sR S) b c e) (fx : FAx S b c I I') (jk : ∀ k, (k = 33 ∨ k = 34 ∨ k = 35 ∨ k = 37 ∨ k = 38) → J' (A k) = J (A k)) (tg : TG J' A n' = (TG J A nt).filter (nc c)) (h : XG (sR S) b A I J nt F φ) : XG (sR S) b A I' J' n' F φ := XG_g hL fok (fun z hz => fx.1 z (Or.inl hz)) jk (fun c' e hc' he => ⟨(fx.2.2 c' e hc' he).1, by
  by_cases q : c' = c
  · exact Or.inr ⟨(fx.2.2 c' e hc' he).2.2 q, by rw [tg, q]; exact nc_f0⟩
  · exact Or.inl ⟨(fx.2.2 c' e hc' he).2.1 q, by rw [tg]; exact nc_c hc hc' q⟩⟩) h
theorem XG_R {S : MM} {R' : Nat → Nat → Option Nat} {b nt F : Nat} {A : Nat → Nat} {I J : Mm} {φ : Nat → Nat} (hL : LY S b) (hr : ∀ z, sK S z ≠ 0 → sK S z ≠ 17 → R' z = sR S z) (h : XG (sR S) b A I J nt F φ) : XG R' b A I J nt F φ := by
  have r : ∀ z k, sK S z = k → k ≠ 17 → k ≠ 0 → R' z = sR S z := fun z k hz h1 h0 => hr z (by rw [hz]; exact h0) (by rw [hz]; exact h1)
  have c0 : cad R' b = cad (sR S) b := by unfold cad; rw [r b 8 hL.2 (by decide) (by decide)]
  have C : ∀ c, Cb R' b c = Cb (sR S) b c := fun c => by unfold Cb; rw [c0, r _ 12 (ly_ca hL).2.1 (by decide) (by decide)]
  have ld : ∀ c, c < 8 → lad R' b c = lad (sR S) b c := fun c hc => by unfold lad; rw [C, r _ 1 (ly_C hL hc).2.1 (by decide) (by decide)]
  have N : ∀ c e, c < 8 → e < 2 → Ln R' b c e = Ln (sR S) b c e := fun c e hc he => by unfold Ln; rw [ld c hc, r _ 15 (ly_la hL hc).2.1 (by decide) (by decide)]
  have Fa : ∀ c e, c < 8 → e < 2 → fad R' b c e = fad (sR S) b c e := fun c e hc he => by unfold fad; rw [N c e hc he, r _ 4 (ly_N hL hc he).2.1 (by decide) (by decide)]
  have Ff : ∀ c e, c < 8 → e < 2 → R' (fad R' b c e) = sR S (fad (sR S) b c e) := fun c e hc he => by rw [Fa c e hc he, r _ 14 (ly_fa hL hc he).2.1 (by decide) (by decide)]
  have cf : ∀ c e, c < 8 → e < 2 → CF I R' b c e = CF I (sR S) b c e := fun c e hc he => by unfold CF fax; rw [N c e hc he, Ff c e hc he]
  obtain ⟨ph, xs⟩ := h
  refine ⟨fun c e hc he => by rw [cf c e hc he]; exact ph c e hc he, fun e he => ⟨fun c hc z hz => ?_, fun c hc z hz => ?_⟩⟩
  · rw [cf c e hc he] at hz; exact (xs e he).1 c hc z hz
  · rw [cf c e hc he] at hz; exact (xs e he).2 c hc z hz
/-- between two calls: the counters -/
def XSs (S : MM) (x m : Nat) (A : Nat → Nat) : Prop := ∃ φ, XRl (sR S) x m A (sI S) (sI S) (sI S m 32).toNatClampNeg (sI S m 39).toNatClampNeg φ
def GX (S : MM) (x m out : Nat) (A : Nat → Nat) (i : Nat) : Prop := GP S x m out A i ∧ CMt S x ∧ XSs S x m A
/-- the class's half of a call that finds meant anew, as the counters see it -/
def CEx (S S1 : MM) (x : Nat) : Prop := sR S1 = sR S ∧ FA S x (sI S) (sI S1) ∧ sI S1 x 3 = nI 0 ∧ (∀ j, j ≠ 3 → sI S1 x j = sI S x j) ∧ ∀ e, e < 2 → ∀ k, (k = 7 ∨ k = 8) → sI S1 (En (sR S) x e) k = sI S (En (sR S) x e) k
theorem nc_o {S : MM} {b : Nat} {I : Mm} (hL : LY S b) : f_X7_noteChange I (sR S) b b 3 = nI 0 ∧ (∀ j, j ≠ 3 → f_X7_noteChange I (sR S) b b j = I b j) ∧ ∀ e, e < 2 → f_X7_noteChange I (sR S) b (En (sR S) b e) = I (En (sR S) b e) := by
  have q : ∀ r i (K : Mm) (w : Int32), i + r = 8 → ∀ z k, sK S z = k → k ≠ 1 → g_X7_noteChange_29 (sR S) b r i K w z = K z := by
    intro r
    induction r with
    | zero => intro i K w _ z k _ _; rfl
    | succ r ih =>
      intro i K w hi z k hz hk
      have kC := (ly_C hL (show i < 8 by omega)).2.1
      rw [g_X7_noteChange_29]
      try dsimp only
      repeat' split
      all_goals rw [ih (i + 1) _ w (by omega) z k hz hk, up2_row (ne_k hz kC hk)]
  have E : f_X7_noteChange I (sR S) b = g_X7_noteChange_29 (sR S) b 8 0 (up2 I b 3 (nI 0)) (mlim (up2 I b 3 (nI 0)) (sR S) b) := rfl
  rw [E]
  refine ⟨by rw [q 8 0 _ _ rfl b 8 hL.2 (by decide), up2_self], fun j hj => by rw [q 8 0 _ _ rfl b 8 hL.2 (by decide), up2_jn hj], fun e he => by rw [q 8 0 _ _ rfl _ 2 (ly_E hL he).2.1 (by decide), up2_row (ne_k (ly_E hL he).2.1 hL.2 (by decide))]⟩
theorem CEx_of {S S1 : MM} {x : Nat} {I : Mm} (hL : LY S x) (er : sR S1 = sR S) (ei : sI S1 = f_X7_noteChange I (sR S) x) (fa : FA S x (sI S) I) (hb : I x = sI S x) (hE : ∀ e, e < 2 → ∀ k, (k = 7 ∨ k = 8) → I (En (sR S) x e) k = sI S (En (sR S) x e) k) : CEx S S1 x := by
  obtain ⟨n1, n2, n3⟩ := nc_o (I := I) hL
  unfold CEx
  rw [ei]
  exact ⟨er, fa_nc hL fa, n1, fun j hj => by rw [n2 j hj, hb], fun e he k hk => by rw [n3 e he]; exact hE e he k hk⟩
