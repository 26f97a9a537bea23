/-! SIMULATION 26: what came is counted; one tick of the reference, and n of them -/
def CMj (J : Mm) (A : Nat → Nat) (N : Nat) : Prop := ∃ n0 n1, J (A 42) 0 = nI n0 ∧ J (A 42) 1 = nI n1 ∧ n0 + n1 ≤ N
theorem CMj_e {J J' : Mm} {A : Nat → Nat} {N M : Nat} (h : CMj J A N) (e : ∀ j, J' (A 42) j = J (A 42) j) (hN : N ≤ M) : CMj J' A M := by
  obtain ⟨n0, n1, h0, h1, h2⟩ := h
  exact ⟨n0, n1, by rw [e]; exact h0, by rw [e]; exact h1, by omega⟩
abbrev fDa (cl : Nat) (q : Nat → Int32) : Bool := decide (q 2 = nI cl) && !(decide (q 3 = -1))
abbrev fDq (cl c : Nat) (q : Nat → Int32) : Bool := decide ((q 0).toNatClampNeg = c) && fDa cl q
abbrev fDg (cl c : Nat) (q : Nat → Int32) : Bool := decide (c ≤ (q 0).toNatClampNeg) && fDa cl q
theorem fD_s {cl c : Nat} : ∀ L : List (Nat → Int32), L.countP (fDg cl c) = L.countP (fDq cl c) + L.countP (fDg cl (c + 1))
  | [] => rfl
  | a :: L => by
    have := fD_s (cl := cl) (c := c) L
    rw [List.countP_cons, List.countP_cons, List.countP_cons, this]
    unfold fDg fDq
    cases h : fDa cl a
    · simp
    · simp only [Bool.and_true, decide_eq_true_eq]
      by_cases q1 : (a 0).toNatClampNeg = c
      · rw [if_pos (by omega), if_pos q1, if_neg (by omega)]; omega
      · rw [if_neg q1]
        by_cases q2 : c ≤ (a 0).toNatClampNeg
        · rw [if_pos q2, if_pos (by omega)]; omega
        · rw [if_neg q2, if_neg (by omega)]; omega
theorem cm_step {S : MM} {m f x nf N : Nat} {A : Nat → Nat} {J : Mm} (hM : MS S m A) (hx : x < 16) (hN : N < 2147483000) (h : CMj J A N) : CMj (f_X8_frameComes J m A f x nf (J (A 42) (x / 8)).toNatClampNeg) A (N + 1) := by
  obtain ⟨n0, n1, h0, h1, h2⟩ := h
  rcases fc_42 (I := J) (f := f) (x := x) (nf := nf) (cm := (J (A 42) (x / 8)).toNatClampNeg) hM with q | q
  · exact CMj_e ⟨n0, n1, h0, h1, h2⟩ (fun j => by rw [q]) (by omega)
  · have hq : x / 8 = 0 ∨ x / 8 = 1 := by omega
    unfold CMj
    rw [q]
    rcases hq with e | e
    · rw [e, h0, nI_cl (by omega)]
      exact ⟨n0 + 1, n1, pk_us, by rw [pk_un (by decide)]; exact h1, by omega⟩
    · rw [e, h1, nI_cl (by omega)]
      exact ⟨n0, n1 + 1, by rw [pk_un (by decide)]; exact h0, pk_us, by omega⟩
theorem g45_cm {S : MM} {m nt nf c cl : Nat} {A : Nat → Nat} {J : Mm} (hM : MS S m A) (h43 : J m 43 = nI cl) (s22 : ∀ t, ∃ p, p < 8 ∧ J (A 22) t = nI p) : ∀ r i J' (w : Int32) N, N + r < 2147483000 → ST m A J J' → CMj J' A N → ST m A J (g_X8_comes_45 m A nt nf r i c J' w).1 ∧ CMj (g_X8_comes_45 m A nt nf r i c J' w).1 A (N + ((List.range' i r).map (tg J A)).countP (fDq cl c)) := by
  have hA := AD_of hM
  intro r
  induction r with
  | zero => intro i J' w N _ st h; exact ⟨st, CMj_e h (fun _ => rfl) (by omega)⟩
  | succ r ih =>
    intro i J' w N hN st h
    have j27 : J' (A 27) i = J (A 27) i := st_k st (by decide)
    have j28 : J' (A 28) i = J (A 28) i := st_k st (by decide)
    have j29 : J' (A 29) i = J (A 29) i := st_k st (by decide)
    have j30 : J' (A 30) i = J (A 30) i := st_k st (by decide)
    have j43 : J' m 43 = nI cl := (st.2 43 (by decide) (by decide)).trans h43
    have e0 : tg J A i 0 = J (A 27) i := rfl
    have e2 : tg J A i 2 = J (A 29) i := rfl
    have e3 : tg J A i 3 = J (A 30) i := rfl
    rw [List.range'_succ, List.map_cons, List.countP_cons]
    rw [g_X8_comes_45]
    dsimp only
    by_cases c1 : (J' (A 27) i).toNatClampNeg = c
    · rw [if_pos c1]
      by_cases c2 : J' (A 29) i = J' m 43
      · rw [if_pos c2]
        by_cases c3 : J' (A 30) i = -1
        · rw [if_pos c3]
          have z := ih (i + 1) (f_X8_noteComes J' m A i (f_X8_portAt J' m A c (1 - (J' (A 28) i).toNatClampNeg))) w N (by omega) (st.tr (st_nc hA)) (CMj_e h (fun j => congrFun (nm_X8_noteComes (fun k hk z => by
            have d : ∀ k ∈ ([7, 8, 14, 15, 17, 18] : List Nat), dm k ∧ k ≠ 42 := by decide
            exact (d k hk).2 (hA.1 42 k (by decide) (d k hk).1 z).symm)) j) (Nat.le_refl N))
          exact ⟨z.1, CMj_e z.2 (fun _ => rfl) (by omega)⟩
        · rw [if_neg c3]
          have hx : f_X8_portAt J' m A c (1 - (J' (A 28) i).toNatClampNeg) < 16 := by
            unfold f_X8_portAt
            obtain ⟨p, hp, ep⟩ := s22 (2 * c + (1 - (J' (A 28) i).toNatClampNeg))
            rw [st_k (k := 22) st (by decide), ep, nI_cl (by omega)]
            omega
          have z := ih (i + 1) _ w (N + 1) (by omega) (st.tr (st_fc hA)) (cm_step (f := (J' (A 30) i).toNatClampNeg) (nf := nf) hM hx (by omega) h)
          refine ⟨z.1, CMj_e z.2 (fun _ => rfl) ?_⟩
          have : fDq cl c (tg J A i) = true := by
            unfold fDq fDa
            rw [e0, e2, e3, ← j27, ← j29, ← j30, c1, c2, j43]
            simp [c3]
          rw [if_pos this]
          omega
      · rw [if_neg c2]
        have z := ih (i + 1) J' w N (by omega) st h
        exact ⟨z.1, CMj_e z.2 (fun _ => rfl) (by omega)⟩
    · rw [if_neg c1]
      have z := ih (i + 1) J' w N (by omega) st h
      exact ⟨z.1, CMj_e z.2 (fun _ => rfl) (by omega)⟩
theorem g37_cm {S : MM} {m nt nf cl : Nat} {A : Nat → Nat} {J : Mm} (hM : MS S m A) (h43 : J m 43 = nI cl) (s22 : ∀ t, ∃ p, p < 8 ∧ J (A 22) t = nI p) : ∀ r i J' (w : Int32) N, i + r = 8 → N + r * nt < 2147483000 → ST m A J J' → CMj J' A N → CMj (g_X8_comes_37 m A nt nf r i J' w).1 A (N + (TG J A nt).countP (fDg cl i)) := by
  intro r
  induction r with
  | zero => intro i J' w N _ _ _ h; exact CMj_e h (fun _ => rfl) (by omega)
  | succ r ih =>
    intro i J' w N hi hN st h
    have e1 : (r + 1) * nt = r * nt + nt := Nat.succ_mul r nt
    have z := g45_cm (nt := nt) (nf := nf) (c := i) hM h43 s22 nt 0 J' w N (by omega) st h
    rw [← List.range_eq_range'] at z
    have hc : ((List.range nt).map (tg J A)).countP (fDq cl i) ≤ nt := by
      have := List.countP_le_length (p := fDq cl i) (l := (List.range nt).map (tg J A))
      simpa using this
    rw [g_X8_comes_37]
    try dsimp only
    have y := ih (i + 1) _ (g_X8_comes_45 m A nt nf nt 0 i J' w).2 _ (by omega) (by omega) z.1 z.2
    refine CMj_e y (fun _ => rfl) ?_
    have := fD_s (cl := cl) (c := i) (TG J A nt)
    have e2 : TG J A nt = (List.range nt).map (tg J A) := rfl
    rw [e2] at this ⊢
    omega
theorem g37_st {S : MM} {m nt nf cl : Nat} {A : Nat → Nat} {J : Mm} (hM : MS S m A) (h43 : J m 43 = nI cl) (s22 : ∀ t, ∃ p, p < 8 ∧ J (A 22) t = nI p) : ∀ r i J' (w : Int32), ST m A J J' → ST m A J (g_X8_comes_37 m A nt nf r i J' w).1 := by
  have hA := AD_of hM
  have one : ∀ r i c J' (w : Int32), ST m A J J' → ST m A J (g_X8_comes_45 m A nt nf r i c J' w).1 := by
    intro r
    induction r with
    | zero => intro i c J' w st; exact st
    | succ r ih =>
      intro i c J' w st
      rw [g_X8_comes_45]
      dsimp only
      repeat' split
      · exact ih _ _ _ _ (st.tr (st_nc hA))
      · exact ih _ _ _ _ (st.tr (st_fc hA))
      · exact ih _ _ _ _ st
      · exact ih _ _ _ _ st
  intro r
  induction r with
  | zero => intro i J' w st; exact st
  | succ r ih =>
    intro i J' w st
    rw [g_X8_comes_37]
    exact ih _ _ _ (one nt 0 i J' w st)
theorem comes_cm {S : MM} {m nt nf cl N : Nat} {A : Nat → Nat} {J : Mm} (hM : MS S m A) (h43 : J m 43 = nI cl) (s22 : ∀ t, ∃ p, p < 8 ∧ J (A 22) t = nI p) (s27 : ∀ t, ∃ k, k < 8 ∧ J (A 27) t = nI k) (s28 : ∀ t, ∃ e, e < 2 ∧ J (A 28) t = nI e) (hnt : nt < 4001) (hN : N < 100000) (h : CMj J A N) : CMj (f_X8_comes J m A nt nf).1 A (N + (TG J A nt).countP (fDa cl)) := by
  have hA := AD_of hM
  have E2 : f_X8_comes J m A nt nf = g_X8_comes_142 m A nt nf nt 0 0 (g_X8_comes_37 m A nt nf 8 0 (g_X8_comes_16 m A nt nf 16 0 J (J (A 42) 0 + J (A 42) 1)).1 (g_X8_comes_16 m A nt nf 16 0 J (J (A 42) 0 + J (A 42) 1)).2).1 (g_X8_comes_37 m A nt nf 8 0 (g_X8_comes_16 m A nt nf 16 0 J (J (A 42) 0 + J (A 42) 1)).1 (g_X8_comes_16 m A nt nf 16 0 J (J (A 42) 0 + J (A 42) 1)).2).2 := rfl
  rw [E2]
  obtain ⟨a1, a2, a3, _⟩ := g16 (nt := nt) (nf := nf) hA 16 0 J (J (A 42) 0 + J (A 42) 1) (by omega)
  generalize (g_X8_comes_16 m A nt nf 16 0 J (J (A 42) 0 + J (A 42) 1)).2 = w1
  generalize (g_X8_comes_16 m A nt nf 16 0 J (J (A 42) 0 + J (A 42) 1)).1 = J1 at a1 a2 a3 ⊢
  have t1 : TG J1 A nt = TG J A nt := TG_c (fun t _ => tg_k (fun k hk => by
    have : ∀ k ∈ ([27, 28, 29, 30, 31] : List Nat), dm k ∧ k ≠ 15 := by decide
    funext j
    exact a1 k j (this k hk).1 (this k hk).2))
  have z := g37_cm (nt := nt) (nf := nf) (cl := cl) hM ((a2 43).trans h43) (fun t => by rw [a1 22 t (by decide) (by decide)]; exact s22 t) 8 0 J1 w1 N rfl (by omega) ST.rf (CMj_e h (fun j => a1 42 j (by decide) (by decide)) (Nat.le_refl N))
  have st := g37_st (nt := nt) (nf := nf) (cl := cl) hM ((a2 43).trans h43) (fun t => by rw [a1 22 t (by decide) (by decide)]; exact s22 t) 8 0 J1 w1 ST.rf
  generalize (g_X8_comes_37 m A nt nf 8 0 J1 w1).2 = w2
  generalize (g_X8_comes_37 m A nt nf 8 0 J1 w1).1 = J2 at z st ⊢
  have c27 : ∀ t, nI (J2 (A 27) t).toNatClampNeg = J2 (A 27) t ∧ nI (J2 (A 28) t).toNatClampNeg = J2 (A 28) t := fun t => by
    obtain ⟨k, hk, ek⟩ := s27 t
    obtain ⟨e, he, ee⟩ := s28 t
    rw [st_k st (by decide), st_k st (by decide), a1 27 t (by decide) (by decide), a1 28 t (by decide) (by decide), ek, ee, nI_cl (by omega), nI_cl (by omega)]
    exact ⟨rfl, rfl⟩
  obtain ⟨n, n1, n2, n3, n4, n5⟩ := g142 (nt := nt) (nf := nf) (cl := cl) hA nt 0 0 J2 w2 (Nat.le_refl 0) ((st.2 43 (by decide) (by decide)).trans ((a2 43).trans h43)) (fun t _ => c27 t)
  refine CMj_e z (fun j => n4 42 j (by decide) (by decide)) ?_
  rw [t1]
  have : (TG J A nt).countP (fDg cl 0) = (TG J A nt).countP (fDa cl) := List.countP_congr (fun q _ => by unfold fDg; simp)
  omega
def pr4 (q : Nat → Int32) : TQ := (q 0, q 1, q 2, q 3)
theorem TL_TG {S : MM} {A : Nat → Nat} {n : Nat} : TL S A n = (TG (sI S) A n).map pr4 := by
  unfold TL TG
  rw [List.map_map]
  rfl
