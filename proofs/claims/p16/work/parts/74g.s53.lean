/-! SIMULATION 53: a tick keeps the frames' relation -/
theorem tick_f {S : MM} {b m cl nt nt' nf : Nat} {A : Nat → Nat} {I J : Mm} {new : List (Nat → Int32)} (hL : LY S b) (hO : OC S) (hA : AD m A) (hcl : cl < 1000000000) (s27 : ∀ t, ∃ k, k < 8 ∧ J (A 27) t = nI k) (s28 : ∀ t, ∃ e, e < 2 ∧ J (A 28) t = nI e) (s22 : ∀ t, ∃ p, p < 8 ∧ J (A 22) t = nI p) (h : NRl (sR S) b m A I J cl nt) (hnt : nt ≤ 4000) (fr : FRl (sR S) b A I J cl nt) (hb : ∀ e, e < 2 → ∃ n, n ≤ 4000 ∧ J (A 42) e = nI n) (tgE : TG (f_X8_tick J m A nt nf).1 A nt' = (TG J A nt).filter (nd cl) ++ new) (nw : ∀ q ∈ new, q 3 = -1) (bdE : ∀ c, c < 8 → bd (f_X8_tick J m A nt nf).1 A c = bd J A c) : FRl (sR S) b A (f_X7_runTick I (sR S) b) (f_X8_tick J m A nt nf).1 (cl + 1) nt' := by
  obtain ⟨fl, fk, fe⟩ := fr
  have fa := fa_run (I := I) hL hO
  have tk := fun k (hk : dm k) (h1 : 32 ≤ k) (h2 : k ≠ 40) j => tick_k (nt := nt) (nf := nf) (J := J) hA hk h1 h2 j
  have m43 := h.2.2.2.1.2.1
  have c0 := h.2.2.2.1.1
  have ht := HT_of h.2.2.2.2.2.1
  have E1 : f_X7_bringAll I (sR S) b = g_X7_bringAll_2 (sR S) b 8 0 I := rfl
  have E2 : f_X8_comes J m A nt nf = g_X8_comes_142 m A nt nf nt 0 0 (g_X8_comes_37 m A nt nf 8 0 (g_X8_comes_16 m A nt nf 16 0 J (J (A 42) 0 + J (A 42) 1)).1 (g_X8_comes_16 m A nt nf 16 0 J (J (A 42) 0 + J (A 42) 1)).2).1 (g_X8_comes_37 m A nt nf 8 0 (g_X8_comes_16 m A nt nf 16 0 J (J (A 42) 0 + J (A 42) 1)).1 (g_X8_comes_16 m A nt nf 16 0 J (J (A 42) 0 + J (A 42) 1)).2).2 := rfl
  rw [E1] at fa
  rw [E2] at tk
  obtain ⟨a1, a2, a3, _⟩ := g16 (nt := nt) (nf := nf) hA 16 0 J (J (A 42) 0 + J (A 42) 1) (by omega)
  generalize (g_X8_comes_16 m A nt nf 16 0 J (J (A 42) 0 + J (A 42) 1)).2 = w1 at tk
  generalize (g_X8_comes_16 m A nt nf 16 0 J (J (A 42) 0 + J (A 42) 1)).1 = J1 at a1 a2 a3 tk
  have st1 : ST m A J J1 := ⟨fun k j a _ _ _ h15 _ _ _ _ _ => a1 k j a h15, fun j _ _ => a2 j⟩
  have pf0 : PF S b m cl 4000 A I J 0 I J1 := by
    refine ⟨fun _ _ _ _ => rfl, fun c e hc he => ⟨fun _ => ⟨rfl, rfl⟩, fun z => absurd z (by omega)⟩, fun _ _ => rfl, c0, st1, fun e he => ?_⟩
    obtain ⟨s, s1, s2, s3⟩ := fe e he
    obtain ⟨n, hn, en⟩ := hb e he
    have : s.1 = n := nI_j2 (by omega) (by omega) (s2.1.symm.trans en)
    exact ⟨s, s1, EKm_e s2 (a1 42 e (by decide) (by decide)) (fun j => a1 41 j (by decide) (by decide)), by omega⟩
  have key := pf_all (nf := nf) (Bc := fun c => cl + bd J A c + 1) hL hO hA (fun c hc => by have := (ht.2.2 c hc).2; show cl + bd J A c + 1 < _; omega) (by omega) hnt (Nat.le_refl 4000) m43 (fun t _ => s27 t) (fun t _ => s28 t) s22 fl fk (fun x hx => (h.1 x hx).1) (cx_of h) 8 0 I J1 w1 rfl (fun _ _ => rfl) pf0
  generalize (g_X8_comes_37 m A nt nf 8 0 J1 w1).2 = w2 at tk
  generalize (g_X8_comes_37 m A nt nf 8 0 J1 w1).1 = J2 at key tk
  generalize g_X7_bringAll_2 (sR S) b 8 0 I = I' at key fa
  obtain ⟨k1, k2, k3, k4, k5, k6⟩ := key
  have c27 : ∀ t, nI (J2 (A 27) t).toNatClampNeg = J2 (A 27) t ∧ nI (J2 (A 28) t).toNatClampNeg = J2 (A 28) t := fun t => by
    obtain ⟨k, hk, ek⟩ := s27 t
    obtain ⟨e, he, ee⟩ := s28 t
    rw [st_k k5 (by decide), st_k k5 (by decide), ek, ee, nI_cl (by omega), nI_cl (by omega)]
    exact ⟨rfl, rfl⟩
  obtain ⟨n, n1, n2, n3, n4, n5⟩ := g142 (nt := nt) (nf := nf) (cl := cl) hA nt 0 0 J2 w2 (Nat.le_refl 0) ((k5.2 43 (by decide) (by decide)).trans m43) (fun t _ => c27 t)
  generalize (g_X8_comes_142 m A nt nf nt 0 0 J2 w2).1 = J3 at n4 tk
  generalize (f_X8_tick J m A nt nf).1 = J' at tgE bdE tk ⊢
  generalize f_X7_runTick I (sR S) b = I2 at fa ⊢
  have jk : ∀ k, (k = 35 ∨ k = 36) → J' (A k) = J (A k) := fun k hk => funext (fun j => by
    rw [tk k (by omega) (by omega) (by omega) j, n4 k j (by omega) (by omega)]
    exact k5.1 k j (by omega) (by omega) (by omega) (by omega) (by omega) (by omega) (by omega) (by omega) (by omega) (by omega))
  have cfE : ∀ c e, c < 8 → e < 2 → CF I2 (sR S) b c e = (CF I (sR S) b c e).filter (fun z => !(dueB I cl z)) ∧ FOK I2 (sR S) b c e := fun c e hc he => by
    obtain ⟨q1, q2⟩ := (k2 c e hc he).2 hc
    obtain ⟨l4, l5⟩ := fa.2.1 c e hc he
    rw [CF_e l4 l5]
    exact ⟨q1, FOK_e l4 l5 q2⟩
  have rowE : ∀ c e, c < 8 → e < 2 → ∀ z ∈ CF I (sR S) b c e, ∀ j, j ≠ 6 → I2 z j = I z j := fun c e hc he z hz j hj => by
    have kz := CF_k hL hc he (fk c e hc he).1 z hz
    rw [fa.1 z (Or.inl kz)]
    exact k1 z j kz hj
  refine ⟨fun c e hc he => ?_, fun c e hc he => ⟨(cfE c e hc he).2, ?_⟩, fun e he => ?_⟩
  · rw [(cfE c e hc he).1, tgE, List.filter_append]
    have nn : new.filter (isG c e) = [] := List.filter_eq_nil_iff.mpr (fun q hq z => (of_decide_eq_true z).2.2 (nw q hq))
    rw [nn, List.append_nil, flt_comm]
    have mm := map_flt (p := fun v : FV => !(decide (v.1 = nI cl))) (fl c e hc he)
    have e1 : (List.filter (fun z => !(dueB I cl z)) (CF I (sR S) b c e)).map (fr5 I2) = (List.filter (fun a => !(decide ((fr5 I a).1 = nI cl))) (CF I (sR S) b c e)).map (fr5 I) := List.map_congr_left (fun z hz => by
      have r := rowE c e hc he z (List.mem_filter.mp hz).1
      unfold fr5
      rw [r 0 (by decide), r 1 (by decide), r 3 (by decide)])
    have e2 : (List.filter (nd cl) (List.filter (isG c e) (TG J A nt))).map (fq5 J' A) = (List.filter (fun q => !(decide ((fq5 J A q).1 = nI cl))) (List.filter (isG c e) (TG J A nt))).map (fq5 J A) := List.map_congr_left (fun q _ => by
      unfold fq5
      rw [jk 35 (by omega), jk 36 (by omega)])
    rw [e1, e2]
    exact mm
  · rw [(cfE c e hc he).1, bdE c hc]
    have df := (fk c e hc he).2
    refine DF_e ⟨fun z hz => ?_, df.2.filter _⟩ (fun z hz => rowE c e hc he z (List.mem_filter.mp hz).1 3 (by decide))
    obtain ⟨hz1, hz2⟩ := List.mem_filter.mp hz
    obtain ⟨d, ed, d1, d2⟩ := df.1 z hz1
    refine ⟨d, ed, ?_, by omega⟩
    have : ¬ d = cl := fun y => by
      subst y
      have q : dueB I d z = true := decide_eq_true ed
      rw [q] at hz2
      exact absurd hz2 (by decide)
    omega
  · obtain ⟨s, q1, q2, q3⟩ := k6 e he
    refine ⟨s, EKc_e q1 (fun k hk => fa.2.2 e he k hk) (fa.1 _ (Or.inr (ly_ka hL he).2)), EKm_e q2 ?_ (fun j => ?_), by omega⟩
    · rw [tk 42 (by decide) (by decide) (by decide) e, n4 42 e (by decide) (by decide)]
    · rw [tk 41 (by decide) (by decide) (by decide) j, n4 41 j (by decide) (by decide)]
