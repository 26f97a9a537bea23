/-! SIMULATION 91: overtaken and dropped: a lane of the class -/
theorem i_nn (x : Int32) (u v : Nat) : x + nI u + nI v = x + nI (u + v) := by
  rw [← nI_add]
  apply Int32.toBitVec_inj.mp
  rw [Int32.toBitVec_add, Int32.toBitVec_add, Int32.toBitVec_add, Int32.toBitVec_add, BitVec.add_assoc]
/-- the marks of an end's frames say which are late -/
def LTc (R : Nat → Nat → Option Nat) (b e : Nat) (I J : Mm) (A : Nat → Nat) (F : Nat) (φ : Nat → Nat) (cm : Nat → Int32) : Prop := ∀ c, c < 8 → ∀ z ∈ CF I R b c e, (¬ I z 6 = 0 ↔ LAt J A F cm (φ z))
def SRc (R : Nat → Nat → Option Nat) (b e : Nat) (I J : Mm) (A : Nat → Nat) (F : Nat) (φ : Nat → Nat) : Prop := ∀ c, c < 8 → ∀ z ∈ CF I R b c e, SRz I J A F e z (φ z)
def dUe (I : Mm) (R : Nat → Nat → Option Nat) (b c e cl : Nat) (φ : Nat → Nat) : List Nat := ((CF I R b c e).filter (dueB I cl)).map φ
def BFC (S : MM) (b p c e cl F : Nat) (A : Nat → Nat) (J : Mm) (φ : Nat → Nat) (cm : Nat → Int32) (I G : Mm) : Prop := G b 4 = I b 4 + nI (if f_X6_has I ((sR S p 0).getD 0) (nI 16) = 0 then (dUe I (sR S) b c e cl φ).length else 0) ∧ G b 8 = I b 8 + nI (if f_X6_has I ((sR S p 0).getD 0) (nI 16) = 0 then 0 else lfc J A F cm (dUe I (sR S) b c e cl φ)) ∧ LTc (sR S) b e G J A F φ (if f_X6_has I ((sR S p 0).getD 0) (nI 16) = 0 then cm else lff cm (dUe I (sR S) b c e cl φ)) ∧ ∀ z, sK S z = 3 → (∀ c', c' < 8 → z ∉ CF I (sR S) b c' e) → G z 6 = I z 6
theorem bfc_nil {S : MM} {b p c e cl F : Nat} {A : Nat → Nat} {J I : Mm} {φ : Nat → Nat} {cm : Nat → Int32} (h : dUe I (sR S) b c e cl φ = []) (lt : LTc (sR S) b e I J A F φ cm) : BFC S b p c e cl F A J φ cm I I := by
  unfold BFC
  rw [h]
  refine ⟨?_, ?_, ?_, fun _ _ _ => rfl⟩
  · split
    · exact (i_add0 _).symm
    · exact (i_add0 _).symm
  · split
    · exact (i_add0 _).symm
    · exact (i_add0 _).symm
  · split
    · exact lt
    · exact lt
theorem bfx {S : MM} {b p c e cl B F : Nat} {A : Nat → Nat} {J : Mm} {φ : Nat → Nat} (hL : LY S b) (hO : OC S) (hc : c < 8) (he : e < 2) (kow : sK S ((sR S p 0).getD 0) = 7) (hB : B < 2 ^ 31) (hcl : cl < 2 ^ 31) (hF : F < 4200) : ∀ r i (I : Mm) (cm : Nat → Int32), I b 2 = nI cl → (∀ c', c' < 8 → FOK I (sR S) b c' e) → (I (Ln (sR S) b c e) 5).toNatClampNeg ≤ r → DF I (CF I (sR S) b c e) cl B → SRc (sR S) b e I J A F φ → LTc (sR S) b e I J A F φ cm → BFC S b p c e cl F A J φ cm I (g_X7_bringFrames_3 (sR S) b p c e r i I) := by
  have he1 : 1 - e < 2 := by omega
  intro r
  induction r with
  | zero =>
    intro i I cm vb fok hr df sr lt
    have h0 : (I (Ln (sR S) b c e) 5).toNatClampNeg = 0 := by omega
    have nil : CF I (sR S) b c e = [] := by unfold CF; rw [h0]; rfl
    exact bfc_nil (by unfold dUe; rw [nil]; rfl) lt
  | succ r ih =>
    intro i I cm vb foka hr df sr lt
    have fok := foka c hc
    by_cases h0 : (I (Ln (sR S) b c e) 5).toNatClampNeg = 0
    · have nil : CF I (sR S) b c e = [] := by unfold CF; rw [h0]; rfl
      rw [bf_0 (tdf_0 h0)]
      exact bfc_nil (by unfold dUe; rw [nil]; rfl) lt
    · obtain ⟨n, hn, en⟩ := fok.2.1
      have e5 : (I (Ln (sR S) b c e) 5).toNatClampNeg = n := by rw [en, nI_cl (by omega)]
      obtain ⟨k, rfl⟩ : ∃ k, n = k + 1 := ⟨n - 1, by omega⟩
      have cons := CF_cons (I := I) (R := sR S) (b := b) (c := c) (e := e) (n := k) (by omega) en
      have kz := fun c' (hc' : c' < 8) => CF_k hL hc' he (foka c' hc')
      have tk := tdf_s (v := I b 2) fok h0
      rw [vb] at tk
      have inA : fax I (sR S) b c e 0 ∈ CF I (sR S) b c e := by rw [cons]; exact List.mem_cons_self
      obtain ⟨d, ed, d1, d2⟩ := df.1 (fax I (sR S) b c e 0) inA
      by_cases hd : d ≤ cl
      · have dcl : d = cl := by omega
        subst dcl
        have ka : sK S (fax I (sR S) b c e 0) = 3 := kz c hc _ inA
        have fokP := FOK_pop (R := sR S) (b := b) (c := c) (e := e) (n := k) (by omega) en fok
        have fxP := FXo_pop (I := I) hL hO hc he
        have p5 : (popF I (sR S) b c e (Ln (sR S) b c e) 5).toNatClampNeg = k := by rw [popF_5, e5, nI_cl (by omega)]; omega
        have dueA : dueB I d (fax I (sR S) b c e 0) = true := decide_eq_true ed
        have popR : ∀ z, sK S z ≠ 4 → popF I (sR S) b c e z = I z := fun z hz => popF_o (fun y => hz (by rw [y]; exact (ly_N hL hc he).2.1))
        have oP : popF I (sR S) b c e ((sR S p 0).getD 0) = I ((sR S p 0).getD 0) := popR _ (by rw [kow]; decide)
        have rb : popF I (sR S) b c e b = I b := popR b (by rw [hL.2]; decide)
        rw [if_pos (by rw [ed]; exact (nle hcl hcl).mpr (Nat.le_refl _)), ← vb] at tk
        -- lanes of the end behind the frame's leaving
        have fokPa : ∀ c', c' < 8 → FOK (popF I (sR S) b c e) (sR S) b c' e := fun c' hc' => by
          by_cases q : c' = c
          · subst q; exact fokP
          · have l := fxP.2.1 c' e hc' he (fun y => q y.1)
            exact FOK_e (l 4) (l 5) (foka c' hc')
        have cfP : ∀ c', c' < 8 → ∀ z ∈ CF (popF I (sR S) b c e) (sR S) b c' e, z ∈ CF I (sR S) b c' e := fun c' hc' z hz => by
          by_cases q : c' = c
          · subst q; rw [cons]; exact List.mem_cons_of_mem _ hz
          · have l := fxP.2.1 c' e hc' he (fun y => q y.1)
            rw [CF_e (l 4) (l 5)] at hz
            exact hz
        have DU : dUe I (sR S) b c e d φ = φ (fax I (sR S) b c e 0) :: ((CF (popF I (sR S) b c e) (sR S) b c e).filter (dueB I d)).map φ := by
          unfold dUe
          rw [cons, List.filter_cons_of_pos dueA, List.map_cons]
        -- the rest
        have go : ∀ (I6 : Mm) (cm6 : Nat → Int32), FXo S b c e I I6 → (∀ c', c' < 8 → ∀ j, I6 (Ln (sR S) b c' e) j = popF I (sR S) b c e (Ln (sR S) b c' e) j) → (∀ c', c' < 8 → ∀ z ∈ CF (popF I (sR S) b c e) (sR S) b c' e, (¬ I6 z 6 = 0 ↔ LAt J A F cm6 (φ z))) → (∀ z, sK S z = 3 → (∀ c', c' < 8 → z ∉ CF I (sR S) b c' e) → I6 z 6 = I z 6) → BFC S b p c e d F A J φ cm6 I6 (g_X7_bringFrames_3 (sR S) b p c e r (i + 1) I6) ∧ dUe I6 (sR S) b c e d φ = ((CF (popF I (sR S) b c e) (sR S) b c e).filter (dueB I d)).map φ ∧ f_X6_has I6 ((sR S p 0).getD 0) (nI 16) = f_X6_has I ((sR S p 0).getD 0) (nI 16) ∧ (∀ c', c' < 8 → CF I6 (sR S) b c' e = CF (popF I (sR S) b c e) (sR S) b c' e) := fun I6 cm6 fxI ln6 lt6 un6 => by
          have cf6 : ∀ c', c' < 8 → CF I6 (sR S) b c' e = CF (popF I (sR S) b c e) (sR S) b c' e := fun c' hc' => CF_e (ln6 c' hc' 4) (ln6 c' hc' 5)
          have r6 : ∀ c', c' < 8 → ∀ z ∈ CF (popF I (sR S) b c e) (sR S) b c' e, ∀ j, j ≠ 6 → I6 z j = I z j := fun c' hc' z hz j hj => fxI.1 z j (kz c' hc' z (cfP c' hc' z hz)) hj
          have df6 : DF I6 (CF I6 (sR S) b c e) d B := by
            rw [cf6 c hc]
            refine DF_e ⟨fun z hz => df.1 z (cfP c hc z hz), ?_⟩ (fun z hz => r6 c hc z hz 3 (by decide))
            have := df.2
            rw [cons] at this
            exact (List.pairwise_cons.mp this).2
          have o6 : I6 ((sR S p 0).getD 0) = I ((sR S p 0).getD 0) := fxI.2.2.2.2.2 _ kow
          refine ⟨ih (i + 1) I6 cm6 (fxI.2.2.2.2.1.trans vb) (fun c' hc' => FOK_e (ln6 c' hc' 4) (ln6 c' hc' 5) (fokPa c' hc')) (by rw [ln6 c hc 5, p5]; omega) df6 (fun c' hc' z hz => ?_) (fun c' hc' z hz => ?_), ?_, ?_, cf6⟩
          · rw [cf6 c' hc'] at hz
            exact SRz_e (sr c' hc' z (cfP c' hc' z hz)) (fun j hj => r6 c' hc' z hz j hj)
          · rw [cf6 c' hc'] at hz
            exact lt6 c' hc' z hz
          · unfold dUe
            rw [cf6 c hc, List.filter_congr (q := dueB I d) (fun z hz => by unfold dueB; rw [r6 c hc z hz 3 (by decide)])]
          · unfold f_X6_has
            rw [o6]
        by_cases hz : f_X6_has (popF I (sR S) b c e) ((sR S p 0).getD 0) (nI 16) = 0
        · -- dropped
          have hzI : f_X6_has I ((sR S p 0).getD 0) (nI 16) = 0 := by
            unfold f_X6_has at hz ⊢
            rw [← oP]
            exact hz
          rw [bf_dr tk hz]
          have n3 : ∀ z, sK S z = 3 → up2 (popF I (sR S) b c e) b 4 (popF I (sR S) b c e b 4 + nI 1) z = I z := fun z hz' => by rw [up2_row (ne_k hz' hL.2 (by decide)), popR z (by rw [hz']; decide)]
          obtain ⟨⟨q1, q2, q3, q4⟩, q5, q6, q7⟩ := go (up2 (popF I (sR S) b c e) b 4 (popF I (sR S) b c e b 4 + nI 1)) cm (fxP.tr (FXo_ko hL he (KO.rf.b (Or.inr rfl)))) (fun c' hc' j => by rw [up2_row (ne_k (ly_N hL hc' he).2.1 hL.2 (by decide))]) (fun c' hc' z hz' => by
            have hm := cfP c' hc' z hz'
            rw [n3 z (kz c' hc' z hm)]
            exact lt c' hc' z hm) (fun z hz' _ => by rw [n3 z hz'])
          rw [q6, if_pos hzI] at q1 q2 q3
          rw [q5] at q1
          unfold BFC
          rw [if_pos hzI, if_pos hzI, if_pos hzI]
          refine ⟨?_, ?_, q3, fun z hz' hn => ?_⟩
          · rw [q1, up2_self, rb, i_nn, DU, List.length_cons, Nat.add_comm]
          · rw [q2, up2_jn (by decide), rb]
          · rw [q4 z hz' (fun c' hc' hm => hn c' hc' (cfP c' hc' z (by rw [← q7 c' hc']; exact hm))), n3 z hz']
        · -- received
          have hzI : ¬ f_X6_has I ((sR S p 0).getD 0) (nI 16) = 0 := by
            unfold f_X6_has at hz ⊢
            rw [← oP]
            exact hz
          rw [bf_rc tk hz]
          obtain ⟨x1, x2, x3, x4⟩ := rec_x (p := p) (a := fax I (sR S) b c e 0) hL he ka fokPa
          have ko := ko_receive (p := fax I (sR S) b c e 0) (q := p) (I := popF I (sR S) b c e) hL he
          have srA := sr c hc _ inA
          have rw3 : ∀ z, sK S z = 3 → popF I (sR S) b c e z = I z := fun z hz' => popR z (by rw [hz']; decide)
          have mst : ∀ c', c' < 8 → ∀ z ∈ CF (popF I (sR S) b c e) (sR S) b c' e, (¬ f_X2_mustComeAhead (popF I (sR S) b c e) z (fax I (sR S) b c e 0) = 0 ↔ (φ z < φ (fax I (sR S) b c e 0) ∧ φ (fax I (sR S) b c e 0) < F ∧ skf J A (φ z) (φ (fax I (sR S) b c e 0)))) := fun c' hc' z hz' => by
            have hm := cfP c' hc' z hz'
            rw [must_e (I := I) (fun j _ => by rw [rw3 z (kz c' hc' z hm)]) (fun j _ => by rw [rw3 _ ka])]
            exact must_iff hF (sr c' hc' z hm) srA
          obtain ⟨⟨q1, q2, q3, q4⟩, q5, q6, q7⟩ := go (f_X7_receive (popF I (sR S) b c e) (sR S) b (fax I (sR S) b c e 0) p e) (upd cm (φ (fax I (sR S) b c e 0)) (nI 1)) (fxP.tr ((FXo_keep hL hO he).tr (FXo_ko hL he ko))) (fun c' hc' j => by
            have kN := (ly_N hL hc' he).2.1
            rw [KO_d hL ko kN (Or.inl (by decide)) (Or.inl (by decide)), keep_row (ne_k kN (ly_ka hL he1).2.1 (by decide)) (ne_k kN (ly_E hL he1).2.1 (by decide))]) (fun c' hc' z hz' => by
            have hm := cfP c' hc' z hz'
            have k3 := kz c' hc' z hm
            rw [LAt_u, ← mst c' hc' z hz', ← lt c' hc' z hm, ← rw3 z k3]
            refine ⟨fun h => ?_, fun h => ?_⟩
            · rcases x1 z k3 with g | ⟨_, g, _⟩
              · rw [g] at h; exact Or.inl h
              · exact Or.inr g
            · rcases h with h | h
              · rcases x1 z k3 with g | ⟨g, _⟩
                · rw [g]; exact h
                · rw [g]; decide
              · rw [x2 c' z hc' hz' h]; decide) (fun z hz' hn => by
            rcases x1 z hz' with g | ⟨_, _, c', hc', g⟩
            · rw [g, rw3 z hz']
            · exact absurd (cfP c' hc' z g) (hn c' hc'))
          rw [q6, if_neg hzI] at q1 q2 q3
          rw [q5] at q2 q3
          unfold BFC
          rw [if_neg hzI, if_neg hzI, if_neg hzI]
          refine ⟨?_, ?_, ?_, fun z hz' hn => ?_⟩
          · rw [q1, x4, rb]
          · have la : (if popF I (sR S) b c e (fax I (sR S) b c e 0) 6 = 0 then 0 else 1) = (if LAb J A cm (φ (fax I (sR S) b c e 0)) (F - (φ (fax I (sR S) b c e 0) + 1)) (φ (fax I (sR S) b c e 0) + 1) = true then 1 else 0) := by
              rw [rw3 _ ka]
              have l := lt c hc _ inA
              unfold LAt at l
              by_cases g : I (fax I (sR S) b c e 0) 6 = 0
              · rw [if_pos g, if_neg (fun y => l.mpr y g)]
              · rw [if_neg g, if_pos (l.mp g)]
            rw [q2, x3, rb, i_nn, DU, lfc, la]
          · rw [DU, lff_c]
            exact q3
          · rw [q4 z hz' (fun c' hc' hm => hn c' hc' (cfP c' hc' z (by rw [← q7 c' hc']; exact hm)))]
            rcases x1 z hz' with g | ⟨_, _, c', hc', g⟩
            · rw [g, rw3 z hz']
            · exact absurd (cfP c' hc' z g) (hn c' hc')
      · -- not due
        rw [if_neg (by rw [ed]; exact fun y => hd ((nle hcl (by omega)).mp y)), ← vb] at tk
        rw [bf_0 tk]
        refine bfc_nil ?_ lt
        unfold dUe
        have nn : ∀ z ∈ CF I (sR S) b c e, dueB I cl z = false := fun z hz => by
          obtain ⟨dz, edz, z1, z2⟩ := df.1 z hz
          unfold dueB
          rw [edz]
          refine decide_eq_false (fun y => ?_)
          have ez := nI_j2 (by omega) (by omega) y
          subst ez
          have pw := df.2
          rw [cons] at pw hz
          rcases List.mem_cons.mp hz with q | q
          · rw [q, ed] at edz
            have := nI_j2 (by omega) (by omega) edz
            omega
          · have := (List.pairwise_cons.mp pw).1 z q
            rw [ed, edz, nI_cl (by omega), nI_cl (by omega)] at this
            omega
        rw [List.filter_eq_nil_iff.mpr (fun z hz => by rw [nn z hz]; decide)]
        rfl
