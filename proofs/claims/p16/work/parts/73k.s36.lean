/-! SIMULATION 36: light, pull, plug of the reference; what is left of its things -/
def UPD (J J' : Mm) (m c p0 p1 : Nat) (A : Nat → Nat) : Prop := (∀ x, (x = p0 ∨ x = 8 + p1) → J' (A 7) x = nI 1 ∧ J' (A 8) x = nI 3 ∧ J' (A 9) x = nI 0 ∧ J' (A 18) (5 * x + 4) = (J (A 18) (5 * x + 4) &&& (-57 : Int32)) ∧ J' (A 21) x = -1 ∧ ∀ k, k < 4 → J' (A 18) (5 * x + k) = J (A 18) (5 * x + k)) ∧ (∀ x, x ≠ p0 → x ≠ 8 + p1 → ∀ k j, dm k → k ≤ 21 → ow k j = x → J' (A k) j = J (A k) j) ∧ (∀ k j, dm k → k ≠ 7 → k ≠ 8 → k ≠ 9 → k ≠ 14 → k ≠ 18 → k ≠ 21 → k ≠ 25 → k ≠ 40 → J' (A k) j = J (A k) j) ∧ (∀ e, e ≠ c → J' (A 25) e = J (A 25) e) ∧ J' (A 25) c = nI 1 ∧ ∀ j, J' m j = J m j
theorem up_R {J : Mm} {m c p0 p1 : Nat} {A : Nat → Nat} (hA : AD m A) (hc : c < 8) (h0 : p0 < 8) (h1 : p1 < 8) (P0 : J (A 22) (2 * c + 0) = nI p0) (P1 : J (A 22) (2 * c + 1) = nI p1) (s0 : J (A 9) p0 = 0) (s1 : J (A 9) (8 + p1) = 0) : UPD J (f_X8_isUp J m A c) m c p0 p1 A := by
  have E : f_X8_isUp J m A c = f_X8_isLitNow (f_X8_isLitNow (up2 J (A 25) c (nI 1)) m A (f_X8_portAt (up2 J (A 25) c (nI 1)) m A c 0)) m A (f_X8_portAt (f_X8_isLitNow (up2 J (A 25) c (nI 1)) m A (f_X8_portAt (up2 J (A 25) c (nI 1)) m A c 0)) m A c 1) := rfl
  rw [E]
  clear E
  have n01 : p0 ≠ 8 + p1 := by omega
  have u1 : ∀ k j, dm k → k ≠ 25 → up2 J (A 25) c (nI 1) (A k) j = J (A k) j := fun k j a b => mu_o hA (by decide) a b
  have u2 : ∀ j, up2 J (A 25) c (nI 1) m j = J m j := fun j => am_m hA (by decide)
  have u3 : up2 J (A 25) c (nI 1) (A 25) c = nI 1 := up2_self _ _ _ _
  have u4 : ∀ e, e ≠ c → up2 J (A 25) c (nI 1) (A 25) e = J (A 25) e := fun e he => mu_j he
  generalize up2 J (A 25) c (nI 1) = J2 at u1 u2 u3 u4 ⊢
  have x0 : f_X8_portAt J2 m A c 0 = p0 := by
    unfold f_X8_portAt
    rw [u1 22 _ (by decide) (by decide), P0, nI_cl (by omega)]
    omega
  rw [x0]
  obtain ⟨a1, a2, a4, a3⟩ := iln (J := J2) (m := m) (x := p0) hA (by rw [u1 9 _ (by decide) (by decide)]; exact s0)
  generalize f_X8_isLitNow J2 m A p0 = J3 at a1 a2 a3 a4 ⊢
  have x1 : f_X8_portAt J3 m A c 1 = 8 + p1 := by
    unfold f_X8_portAt
    rw [a2 22 _ (by decide) (by decide) (by rw [ow_hi (Or.inl (by decide))]; omega), u1 22 _ (by decide) (by decide), P1, nI_cl (by omega)]
  rw [x1]
  obtain ⟨b1, b2, b4, b3⟩ := iln (J := J3) (m := m) (x := 8 + p1) hA (by rw [a2 9 _ (by decide) (by decide) (by rw [ow_x (by decide)]; omega), u1 9 _ (by decide) (by decide)]; exact s1)
  generalize f_X8_isLitNow J3 m A (8 + p1) = J4 at b1 b2 b3 b4 ⊢
  refine ⟨fun x q => ?_, fun x n0 n1 k j a b o => ?_, fun k j a c1 c2 c3 c4 c5 c6 c7 c8 => ?_, fun e he => ?_, ?_, fun j => ?_⟩
  · rcases q with rfl | rfl
    · refine ⟨by rw [b2 7 _ (by decide) (by decide) (by rw [ow_x (by decide)]; exact n01)]; exact a1.1, by rw [b2 8 _ (by decide) (by decide) (by rw [ow_x (by decide)]; exact n01)]; exact a1.2.1, by rw [b2 9 _ (by decide) (by decide) (by rw [ow_x (by decide)]; exact n01)]; exact a1.2.2.1, by rw [b2 18 _ (by decide) (by decide) (by rw [ow_5 (by decide) (by decide)]; exact n01), a1.2.2.2.1, u1 18 _ (by decide) (by decide)], by rw [b2 21 _ (by decide) (by decide) (by rw [ow_x (by decide)]; exact n01)]; exact a1.2.2.2.2.1, fun k hk => by rw [b2 18 _ (by decide) (by decide) (by rw [ow_5 (by decide) (by omega)]; exact n01), a1.2.2.2.2.2 k hk, u1 18 _ (by decide) (by decide)]⟩
    · refine ⟨b1.1, b1.2.1, b1.2.2.1, ?_, b1.2.2.2.2.1, fun k hk => ?_⟩
      · rw [b1.2.2.2.1, a2 18 _ (by decide) (by decide) (by rw [ow_5 (by decide) (by decide)]; exact n01.symm), u1 18 _ (by decide) (by decide)]
      · rw [b1.2.2.2.2.2 k hk, a2 18 _ (by decide) (by decide) (by rw [ow_5 (by decide) (by omega)]; exact n01.symm), u1 18 _ (by decide) (by decide)]
  · rw [b2 k j a (by omega) (by rw [o]; exact n1), a2 k j a (by omega) (by rw [o]; exact n0), u1 k j a (by omega)]
  · rw [b4 k j a c1 c2 c3 c4 c5 c6 c8, a4 k j a c1 c2 c3 c4 c5 c6 c8, u1 k j a c7]
  · rw [b2 25 e (by decide) (by decide) (by rw [ow_hi (Or.inl (by decide))]; omega), a2 25 e (by decide) (by decide) (by rw [ow_hi (Or.inl (by decide))]; omega), u4 e he]
  · rw [b2 25 c (by decide) (by decide) (by rw [ow_hi (Or.inl (by decide))]; omega), a2 25 c (by decide) (by decide) (by rw [ow_hi (Or.inl (by decide))]; omega)]; exact u3
  · rw [b3, a3, u2]
theorem NR_K {R : Nat → Nat → Option Nat} {b m cl nt : Nat} {A : Nat → Nat} {I J J' : Mm} (h : NRl R b m A I J cl nt) (kk : ∀ k j, dm k → J' (A k) j = J (A k) j) (k43 : J' m 43 = J m 43) (k32 : J' m 32 = J m 32) : NRl R b m A I J' cl nt := by
  have q := NR_J (J' := fun z j => if z = m ∧ j = 0 then J m 0 else if z = m then J m j else J' z j) h
  have e : NRl R b m A I (fun z j => if z = m then J m j else J' z j) cl nt := NR_J h (fun k j a => by
    show (if A k = m then J m j else J' (A k) j) = J (A k) j
    by_cases z : A k = m
    · rw [if_pos z, z]
    · rw [if_neg z]; exact kk k j a) (fun j _ => if_pos rfl)
  clear q
  obtain ⟨h1, h2, h3, ⟨h4a, h4b, h4c⟩, h5, h6, h7, h8, h9, h10, h11⟩ := h
  have r : ∀ k, dm k → J' (A k) = J (A k) := fun k hk => funext (fun j => kk k j hk)
  have tG : TG J' A nt = TG J A nt := TG_c (fun t _ => tg_k (fun k hk => r k ((show ∀ k ∈ ([27, 28, 29, 30, 31] : List Nat), dm k by decide) k hk)))
  refine ⟨fun x hx => ⟨RP_g (h1 x hx).1 AG.rf (fun k j a _ _ => kk k j a), (h1 x hx).2⟩, fun c e hc he => ?_, fun c e hc he => ?_, ⟨h4a, k43.trans h4b, k32.trans h4c⟩, fun e he => ?_, ?_, ?_, ?_, ?_, ?_, ?_⟩
  · rw [tG, r 26 (by decide)]; exact h2 c e hc he
  · unfold bd; rw [r 23 (by decide), r 24 (by decide)]; exact h3 c e hc he
  · rw [r 1 (by decide), r 2 (by decide)]; exact h5 e he
  · unfold RIj; rw [r 7 (by decide), r 9 (by decide), r 11 (by decide), r 22 (by decide), r 23 (by decide), r 24 (by decide), r 25 (by decide)]; exact h6
  · unfold RLj; rw [r 11 (by decide), r 22 (by decide), r 24 (by decide), r 25 (by decide)]; exact h7
  · unfold LTj; rw [r 25 (by decide), r 22 (by decide), r 7 (by decide)]; exact h8
  · unfold DLj; rw [r 24 (by decide), r 23 (by decide)]; exact h9
  · unfold UTj; rw [r 27 (by decide), r 25 (by decide)]; exact h10
  · unfold DKj; rw [r 7 (by decide), r 8 (by decide), r 18 (by decide)]; exact h11
theorem BI_sub {S : MM} {R : Nat → Nat → Option Nat} {x m nt n' F cl : Nat} {A : Nat → Nat} {I F' : Mm} (bi : BI S m A nt F cl) (im : IM (wI S F') m A) (nr : NRl R x m A I F' cl n') (sub : (TG F' A n').Sublist (TG (sI S) A nt)) (a42 : ∀ j, F' (A 42) j = sI S (A 42) j) (m39 : F' m 39 = sI S m 39) : BI (wI S F') m A n' F cl := by
  obtain ⟨⟨_, _, m32, hnt, _⟩, b39, b43, lv, s, cm, hs⟩ := bi
  have tl : (TL (wI S F') A n').Sublist (TL S A nt) := by
    rw [TL_TG, TL_TG]
    exact sub.map pr4
  have hn : n' ≤ nt := by
    have q := sub.length_le
    have q1 : (TG F' A n').length = n' := by unfold TG; simp
    have q2 : (TG (sI S) A nt).length = nt := by unfold TG; simp
    omega
  refine ⟨⟨im, nr.2.2.2.2.2.1, nr.2.2.2.1.2.2, by omega, fun q hq => ?_⟩, m39.trans b39, nr.2.2.2.1.2.1, LV_sub lv tl, s, ?_, ?_⟩
  · rw [TL_TG] at hq
    obtain ⟨p, hp, rfl⟩ := List.mem_map.mp hq
    obtain ⟨u, hu, rfl⟩ := List.mem_map.mp hp
    exact nr.2.2.2.2.2.2.2.2.2.1 u (List.mem_range.mp hu)
  · obtain ⟨n0, n1, e0, e1, e2⟩ := cm
    exact ⟨n0, n1, (a42 0).trans e0, (a42 1).trans e1, e2⟩
  · have := tl.countP_le (p := isF)
    omega
theorem FR_sub {J J' : Mm} {A : Nat → Nat} {nt n' F : Nat} (fr : FRj J A nt F) (sub : (TG J' A n').Sublist (TG J A nt)) : FRj J' A n' F := by
  have all : ∀ q ∈ TG J' A n', ¬ q 3 = -1 → (q 3).toNatClampNeg < F := fun q hq => by
    obtain ⟨u, hu, rfl⟩ := List.mem_map.mp (sub.subset hq)
    exact fr u (List.mem_range.mp hu)
  intro t ht
  exact tg_mem all t ht
theorem c_Mlight {Q : Option Value → MM → Prop} {S : MM} {m n u : Nat} {A : Nat → Nat} {v : Int32} (hu : u < 2) (hM : MS S m A) (hI : IV S m A n) (K1 : b8 v → ∀ S', SM [0] m A S S' → IM S' m A → Q none S') (K2 : ∀ c, c < 8 → v = nI c → (sI S (A 24) c = 0 ∨ sI S (A 25) c = nI u) → ∀ S', SM [0] m A S S' → IM S' m A → Q none S') (K : ∀ c, c < 8 → v = nI c → ¬ sI S (A 24) c = 0 → ¬ sI S (A 25) c = nI u → KVM m A Q (pI S m 0 0) (g_X8_light_47 (up2 (sI S) m 0 0) m A c u n)) : wX8_light [.ref m, .int v, .int (nI u)] S Q := by
  refine Exists.intro 8 (u_X8_light_0 ?_)
  unfold bX8_light_0
  refine e_ldA rfl (e_ldI rfl (And.intro ⟨by decide, by decide⟩ (z_MisCable' (fun h => e_ifN (by decide) (fun _ => e_cN 1 rfl (x_light_bad (f := 6) (t := 1) hM hI (by decide) rfl (fun S' _ _ _ _ iv _ sh _ => K1 h S' sh iv.1))) (fun q => absurd rfl q)) (fun c hc ec => e_ifN (by decide) (fun q => absurd q (by decide)) (fun _ => u_X8_light_12 ?_)))))
  have K2' := K2 c hc ec
  have K' := K c hc ec
  subst ec
  have bad : (sI S (A 24) c = 0 ∨ sI S (A 25) c = nI u) → wpn (kX8_light Q) 6 31 (lv_args 0 [.ref m, .int (nI c), .int (nI u)]) [.ref m] S 0 0 := fun h => by
    refine u_X8_light_31 ?_
    unfold bX8_light_31
    exact e_cN 2 rfl (x_light_bad (f := 4) (t := 2) hM hI (by decide) rfl (fun S' _ _ _ _ iv _ sh _ => K2' h S' sh iv.1))
  unfold bX8_light_12
  refine e_ldA rfl (e_gR hM.1 (hM.2.1 24 (by decide)).1 (e_ldI rfl (e_aI (N := 8) (kdA hM (by decide) rfl) (lnA hM (by decide) rfl) hc (by decide) (fun p hp => e_if0 (fun h0 => bad (Or.inl (hp.trans h0))) (fun h0 => ?_)))))
  refine e_ldA rfl (e_gR hM.1 (hM.2.1 25 (by decide)).1 (e_ldI rfl (e_aI (N := 8) (kdA hM (by decide) rfl) (lnA hM (by decide) rfl) hc (by decide) (fun w hw => e_ldI rfl ⟨fun h => bad (Or.inr (hw.trans h)), fun hn => u_X8_light_35 ?_⟩))))
  unfold bX8_light_35
  refine e_cI (u_X8_light_36 ?_)
  unfold bX8_light_36
  refine e_mT hM hI.1 hM.1 (fun N e => nomatch (show (none : Option Nat) = some N from e)) (fun im1 => ?_)
  refine e_ldA rfl (e_gV (v := 0) hM.1 rd_s ⟨fun _ => ?_, fun z => absurd (by decide) z⟩)
  exact y_X8_light_47 (S := pI S m 0 0) hM hc hu hI.2.2.2.1 im1 (rd_k hI.2.2.1 (by decide)) rfl rfl rfl (by omega) (K' (fun z => h0 (hp.symm.trans z)) (fun z => hn (hw.symm.trans z)))
theorem c_Mpull {Q : Option Value → MM → Prop} {S : MM} {m n : Nat} {A : Nat → Nat} {v : Int32} (hM : MS S m A) (hI : IV S m A n) (K1 : b8 v → ∀ S', SM [0] m A S S' → IM S' m A → Q none S') (K2 : ∀ c, c < 8 → v = nI c → sI S (A 24) c = 0 → ∀ S', SM [0] m A S S' → IM S' m A → Q none S') (K : ∀ c, c < 8 → v = nI c → ¬ sI S (A 24) c = 0 → KVM m A Q (pI S m 0 0) (g_X8_pull_37 (up2 (sI S) m 0 0) m A c n)) : wX8_pull [.ref m, .int v] S Q := by
  refine Exists.intro 6 (u_X8_pull_0 ?_)
  unfold bX8_pull_0
  refine e_ldA rfl (e_ldI rfl (And.intro ⟨by decide, by decide⟩ (z_MisCable' (fun h => e_ifN (by decide) (fun _ => e_cN 1 rfl (x_pull_bad (f := 4) (t := 1) hM hI (by decide) rfl (fun S' _ _ _ _ iv _ sh _ => K1 h S' sh iv.1))) (fun q => absurd rfl q)) (fun c hc ec => e_ifN (by decide) (fun q => absurd q (by decide)) (fun _ => u_X8_pull_12 ?_)))))
  have K2' := K2 c hc ec
  have K' := K c hc ec
  subst ec
  unfold bX8_pull_12
  refine e_ldA rfl (e_gR hM.1 (hM.2.1 24 (by decide)).1 (e_ldI rfl (e_aI (N := 8) (kdA hM (by decide) rfl) (lnA hM (by decide) rfl) hc (by decide) (fun p hp => e_if0 (fun h0 => e_cN 2 rfl (x_pull_bad (f := 3) (t := 2) hM hI (by decide) rfl (fun S' _ _ _ _ iv _ sh _ => K2' (hp.trans h0) S' sh iv.1))) (fun h0 => u_X8_pull_25 ?_)))))
  unfold bX8_pull_25
  refine e_cI (u_X8_pull_26 ?_)
  unfold bX8_pull_26
  refine e_mT hM hI.1 hM.1 (fun N e => nomatch (show (none : Option Nat) = some N from e)) (fun im1 => ?_)
  refine e_ldA rfl (e_gV (v := 0) hM.1 rd_s ⟨fun _ => ?_, fun z => absurd (by decide) z⟩)
  exact y_X8_pull_37 (S := pI S m 0 0) hM hc hI.2.2.2.1 im1 (rd_k hI.2.2.1 (by decide)) rfl rfl (by omega) (K' (fun z => h0 (hp.symm.trans z)))
theorem c_Mplug {Q : Option Value → MM → Prop} {S : MM} {m n : Nat} {A : Nat → Nat} {v wa wb t : Int32} (hM : MS S m A) (hI : IV S m A n) (K1 : PGB v wa wb t → ∀ S', SM [0] m A S S' → IM S' m A → Q none S') (K2 : ∀ c a b, c < 8 → a < 8 → b < 8 → v = nI c → wa = nI a → wb = nI b → ¬ PGB v wa wb t → ¬ ((sI S (A 11) a = -1 ∨ sI S (A 11) a = nI c) ∧ (sI S (A 11) (8 + b) = -1 ∨ sI S (A 11) (8 + b) = nI c)) → ∀ S', SM [0] m A S S' → IM S' m A → Q none S') (K : ∀ c a b d, c < 8 → a < 8 → b < 8 → 1 ≤ d → d ≤ 8 → v = nI c → wa = nI a → wb = nI b → t = nI d → ¬ PGB v wa wb t → (sI S (A 11) a = -1 ∨ sI S (A 11) a = nI c) → (sI S (A 11) (8 + b) = -1 ∨ sI S (A 11) (8 + b) = nI c) → KVM m A Q (pI S m 0 0) (g_X8_plug_76 (up2 (sI S) m 0 0) m A c a b 0 n (nI d))) : wX8_plug [.ref m, .int v, .int wa, .int wb, .int t] S Q := by
  have bad : PGB v wa wb t → wpn (kX8_plug Q) 9 35 (lv_args 0 [.ref m, .int v, .int wa, .int wb, .int t]) [.ref m] S 0 0 := fun h => by
    refine u_X8_plug_35 ?_
    unfold bX8_plug_35
    exact e_cN 1 rfl (x_plug_bad (f := 7) (t := 1) hM hI (by decide) rfl (fun S' _ _ _ _ iv _ sh _ => K1 h S' sh iv.1))
  refine Exists.intro 10 (u_X8_plug_0 ?_)
  unfold bX8_plug_0
  refine e_ldA rfl (e_ldI rfl (And.intro ⟨by decide, by decide⟩ (z_MisCable' (fun h => e_ifN (by decide) (fun _ => bad (Or.inl h)) (fun q => absurd rfl q)) (fun c hc ec => e_ifN (by decide) (fun q => absurd q (by decide)) (fun _ => ?_)))))
  refine e_ldI rfl (And.intro ⟨by decide, by decide⟩ (z_MisPort' (fun h => e_ifN (by decide) (fun _ => bad (Or.inr (Or.inl h))) (fun q => absurd rfl q)) (fun a ha ea => e_ifN (by decide) (fun q => absurd q (by decide)) (fun _ => ?_))))
  refine e_ldI rfl (And.intro ⟨by decide, by decide⟩ (z_MisPort' (fun h => e_ifN (by decide) (fun _ => bad (Or.inr (Or.inr (Or.inl h)))) (fun q => absurd rfl q)) (fun b hb eb => e_ifN (by decide) (fun q => absurd q (by decide)) (fun _ => ?_))))
  refine e_ldI rfl (e_cI ⟨fun h => bad (Or.inr (Or.inr (Or.inr (Or.inl h)))), fun t0 => e_ldI rfl (e_cI ⟨fun t1 => u_X8_plug_39 ?_, fun h => bad (Or.inr (Or.inr (Or.inr (Or.inr h))))⟩)⟩)
  have nb : ¬ PGB v wa wb t := fun q => by
    rcases q with q | q | q | q | q
    · exact nb8 hc (ec ▸ q)
    · exact nb8 ha (ea ▸ q)
    · exact nb8 hb (eb ▸ q)
    · exact t0 q
    · exact q t1
  have hd : ∃ d, 1 ≤ d ∧ d ≤ 8 ∧ t = nI d := by
    have q1 : ¬ t.toInt < 1 := fun z => t0 (by
      show t < 1
      rw [Int32.lt_iff_toInt_lt, show (1 : Int32).toInt = 1 from by decide]
      exact z)
    have q2 : t.toInt ≤ 8 := by
      have := Int32.le_iff_toInt_le.mp (show t ≤ 8 from t1)
      rw [show (8 : Int32).toInt = 8 from by decide] at this
      exact this
    refine ⟨t.toInt.toNat, by omega, by omega, Int32.toInt_inj.mp ?_⟩
    rw [nI_toInt (by omega)]
    omega
  obtain ⟨d, hd1, hd2, ed⟩ := hd
  have K2' := K2 c a b hc ha hb ec ea eb nb
  have K' := K c a b d hc ha hb hd1 hd2 ec ea eb ed nb
  subst ec ea eb ed
  have bad2 : ¬ ((sI S (A 11) a = -1 ∨ sI S (A 11) a = nI c) ∧ (sI S (A 11) (8 + b) = -1 ∨ sI S (A 11) (8 + b) = nI c)) → wpn (kX8_plug Q) 8 60 (lv_args 0 [.ref m, .int (nI c), .int (nI a), .int (nI b), .int (nI d)]) [.ref m] S 0 0 := fun h => by
    refine u_X8_plug_60 ?_
    unfold bX8_plug_60
    exact e_cN 2 rfl (x_plug_bad (f := 6) (t := 2) hM hI (by decide) rfl (fun S' _ _ _ _ iv _ sh _ => K2' h S' sh iv.1))
  unfold bX8_plug_39
  refine e_ldA rfl (e_ldI rfl (e_ldI rfl (And.intro hM.1 (And.intro ⟨by decide, by decide⟩ (x_f_isAnother hM (show a < 16 by omega) (fun xa => e_ifN (by decide) (fun _ => ?_) (fun q => absurd rfl q)) (fun xa => e_ifN (by decide) (fun q => absurd q (by decide)) (fun _ => bad2 (fun z => xa z.1))))))))
  refine e_ldA rfl (e_cN 8 rfl (e_ldI rfl (e_add (e_ldI rfl (And.intro hM.1 (And.intro ⟨by decide, by decide⟩ (x_f_isAnother hM (show 8 + b < 16 by omega) (fun xb => e_ifN (by decide) (fun _ => u_X8_plug_64 ?_) (fun q => absurd rfl q)) (fun xb => e_ifN (by decide) (fun q => absurd q (by decide)) (fun _ => bad2 (fun z => xb z.2))))))))))
  unfold bX8_plug_64
  refine e_cI (u_X8_plug_65 ?_)
  unfold bX8_plug_65
  refine e_mT hM hI.1 hM.1 (fun N e => nomatch (show (none : Option Nat) = some N from e)) (fun im1 => ?_)
  refine e_ldA rfl (e_gV (v := 0) hM.1 rd_s ⟨fun _ => ?_, fun z => absurd (by decide) z⟩)
  exact y_X8_plug_76 (v := 0) (S := pI S m 0 0) hM hc ha hb hI.2.2.2.1 im1 (rd_k hI.2.2.1 (by decide)) rfl rfl rfl rfl rfl (by omega) (K' xa xb)
