/-! SIMULATION 95: whether a note was lost -/
theorem tf_E2 {S : MM} {b i c : Nat} {I : Mm} (hL : LY S b) (hi : i < 16) (hc : c < 8) (eI : I (px (sR S) b i) 2 = nI c) : (f_X7_tellFrom I (sR S) b (i / 8) (i % 8)).2 = if I (Ln (sR S) b c (i / 8)) 6 ≤ 0 then nI 1 else nI 0 := by
  have eI' : I (Pt (sR S) b (i / 8) (i % 8)) 2 = nI c := eI
  have he : i / 8 < 2 := by omega
  have nL : f_X5_rememberTelling I (Pt (sR S) b (i / 8) (i % 8)) (Ow (sR S) b (i / 8) (i % 8)) (La (sR S) b (i / 8) (i % 8)) (I b 2) (Ln (sR S) b c (i / 8)) = I (Ln (sR S) b c (i / 8)) := n_X5_rememberTelling (ne_k (ly_N hL hc he).2.1 (k_lx hL hi) (by decide)) (ne_k (ly_N hL hc he).2.1 (k_px hL hi) (by decide))
  unfold f_X7_tellFrom
  rw [eI', if_pos ((show ∀ c, c < 8 → cbl (nI c) by decide +kernel) c hc), nI_cl (by omega)]
  try dsimp only
  rw [nL]
  split <;> rfl
def lsC (R : Nat → Nat → Option Nat) (b e i : Nat) (I : Mm) : Bool := decide (¬ f_X5_mustTell I (Pt R b e i) (Ow R b e i) (Pa R b e i) (La R b e i) (I b 2) = 0 ∧ (f_X7_tellFrom I R b e i).2 = 0)
theorem tell_lost {S : MM} {b m cl : Nat} {A Bd : Nat → Nat} {I0 J0 : Mm} (hL : LY S b) (hO : OC S) (hA : AD m A) (ht : HT J0 A Bd) (c0 : I0 b 2 = nI cl) (m43 : J0 m 43 = nI cl) (i : Nat) (I J : Mm) (hi : i < 16) (h : PT S b m cl A Bd I0 J0 i I J) : f_putsW J m A i m 50 = if lsC (sR S) b (i / 8) (i % 8) I = true then nI 1 else J m 50 := by
  obtain ⟨h1, ⟨nt, e32, hnt, ln⟩, du, ⟨ib, icb, ien⟩, jk, jm⟩ := h
  have he : i / 8 < 2 := by omega
  have RPi := h1 i hi
  have v43 : I b 2 = J m 43 := by rw [ib, c0, jm 43 (by decide) (by decide), m43]
  have must := s_must hA RPi.1.1 RPi.1.2.1 RPi.1.2.2
  rw [← v43] at must
  have nts : (J m 32).toNatClampNeg = nt := by rw [e32, nI_cl (by omega)]
  unfold lsC
  by_cases pc : PC J m A i
  · have lit : ¬ J0 (A 7) i = 0 := by
      have := pc.1
      rw [jk 7 i (by decide) (by decide) (by decide) (by decide) (by decide) (by decide) (by decide)] at this
      exact this
    obtain ⟨c, hc, ec0, ed⟩ := ht.1 i hi lit
    have ec : J (A 11) i = nI c := by rw [jk 11 i (by decide) (by decide) (by decide) (by decide) (by decide) (by decide) (by decide)]; exact ec0
    have eI : I (px (sR S) b i) 2 = nI c := RPi.1.1.1.trans ec
    have mt : ¬ f_X5_mustTell I (Pt (sR S) b (i / 8) (i % 8)) (Ow (sR S) b (i / 8) (i % 8)) (Pa (sR S) b (i / 8) (i % 8)) (La (sR S) b (i / 8) (i % 8)) (I b 2) = 0 := by
      rw [rr_X5_mustTell]
      exact fun z => (must.mp z) pc
    have pE : f_putsW J m A i = g_X8_puts_142 (JR J m A i) m A i nt c := by
      unfold f_putsW
      rw [nts, ec, nI_cl (by omega), m_puts, if_pos pc, p86 hA]
    rw [p142 hA, JR_o hA (by decide) (by decide) (by decide) (by decide) (by decide)] at pE
    have l6 : I (Ln (sR S) b c (i / 8)) 6 = J (A 26) (2 * c + i / 8) := (ln c (i / 8) hc he).2.1
    have t2 := tf_E2 hL hi hc eI
    rw [l6] at t2
    by_cases lo : J (A 26) (2 * c + i / 8) ≤ 0
    · rw [if_pos lo] at pE t2
      rw [decide_eq_false (fun z => absurd (t2.symm.trans z.2) (by decide)), if_neg (by decide), pE, JN_m hA (by decide), JR_m hA]
    · rw [if_neg lo] at pE t2
      rw [decide_eq_true (show ¬ f_X5_mustTell I (Pt (sR S) b (i / 8) (i % 8)) (Ow (sR S) b (i / 8) (i % 8)) (Pa (sR S) b (i / 8) (i % 8)) (La (sR S) b (i / 8) (i % 8)) (I b 2) = 0 ∧ (f_X7_tellFrom I (sR S) b (i / 8) (i % 8)).2 = 0 from ⟨mt, t2⟩), if_pos rfl, pE]
      unfold JL
      exact up2_self _ _ _ _
  · have mt : f_X5_mustTell I (Pt (sR S) b (i / 8) (i % 8)) (Ow (sR S) b (i / 8) (i % 8)) (Pa (sR S) b (i / 8) (i % 8)) (La (sR S) b (i / 8) (i % 8)) (I b 2) = 0 := by
      rw [rr_X5_mustTell]
      exact must.mpr pc
    have pE : f_putsW J m A i = J := by
      unfold f_putsW
      rw [m_puts, if_neg pc]
    rw [decide_eq_false (fun z => z.1 mt), if_neg (by decide), pE]
def fdp (f : Nat → Mm × Int32 → Mm × Int32) : Nat → Nat → Mm × Int32 → Mm × Int32
  | 0, _, s => s
  | r + 1, i, s => fdp f r (i + 1) (f i s)
def tpE (R : Nat → Nat → Option Nat) (b e i : Nat) (s : Mm × Int32) : Mm × Int32 := (teE R b e i s.1, if lsC R b e i s.1 = true then nI 1 else s.2)
theorem te11p {R : Nat → Nat → Option Nat} {b e : Nat} : ∀ r i (I : Mm) (w : Int32), g_X7_tellAll_11 R b r i e I w = fdp (tpE R b e) r i (I, w) := by
  intro r
  induction r with
  | zero => intro i I w; rfl
  | succ r ih =>
    intro i I w
    show g_X7_tellAll_11 R b (r + 1) i e I w = fdp (tpE R b e) r (i + 1) (teE R b e i I, if lsC R b e i I = true then nI 1 else w)
    rw [g_X7_tellAll_11]
    unfold teE lsC
    by_cases h : f_X5_mustTell I (Pt R b e i) (Ow R b e i) (Pa R b e i) (La R b e i) (I b 2) = 0
    · rw [if_pos h, if_pos h, decide_eq_false (fun z => z.1 h), if_neg (by decide)]
      exact ih _ _ _
    · rw [if_neg h, if_neg h]
      try dsimp only
      by_cases q : (f_X7_tellFrom I R b e i).2 = 0
      · rw [if_pos q, decide_eq_true (show ¬ f_X5_mustTell I (Pt R b e i) (Ow R b e i) (Pa R b e i) (La R b e i) (I b 2) = 0 ∧ (f_X7_tellFrom I R b e i).2 = 0 from ⟨h, q⟩), if_pos rfl]
        exact ih _ _ _
      · rw [if_neg q, decide_eq_false (fun z => q z.2), if_neg (by decide)]
        exact ih _ _ _
theorem fdp_two {f : Nat → Nat → Mm × Int32 → Mm × Int32} {s : Mm × Int32} : fdp (f 1) 8 0 (fdp (f 0) 8 0 s) = fdp (fun x => f (x / 8) (x % 8)) 16 0 s := rfl
theorem fdp_tell {R : Nat → Nat → Option Nat} {b : Nat} {I : Mm} : f_X7_tellAll I R b = fdp (fun x => tpE R b (x / 8) (x % 8)) 16 0 (I, nI 0) := by
  rw [← fdp_two (f := tpE R b)]
  unfold f_X7_tellAll
  rw [te4_s (r := 1), te4_s (r := 0)]
  have E : ∀ (K : Mm) (w : Int32), g_X7_tellAll_4 R b 0 2 K w = (K, w) := fun K w => by rw [g_X7_tellAll_4]
  rw [show (0 + 1 + 1) = 2 from rfl, E, te11p, te11p]
theorem sim_lost {S : MM} {b m cl : Nat} {A Bd : Nat → Nat} {I0 J0 : Mm} (hL : LY S b) (hO : OC S) (hA : AD m A) (ht : HT J0 A Bd) (hcl : cl < 1000000000) (c0 : I0 b 2 = nI cl) (m43 : J0 m 43 = nI cl) (cb : ∀ x, x < 16 → ¬ J0 (A 7) x = 0 → ∀ c, c < 8 → J0 (A 11) x = nI c → I0 (Cb (sR S) b c) 2 = J0 (A 23) c) (h : PT S b m cl A Bd I0 J0 0 I0 J0) (z50 : J0 m 50 = nI 0) : (f_X7_tellAll I0 (sR S) b).2 = fd (fun x J => f_putsW J m A x) 16 0 J0 m 50 := by
  rw [fdp_tell]
  have q : ∀ r i (s : Mm × Int32) (J : Mm), i + r = 16 → PT S b m cl A Bd I0 J0 i s.1 J → s.2 = J m 50 → (fdp (fun x => tpE (sR S) b (x / 8) (x % 8)) r i s).2 = fd (fun x J => f_putsW J m A x) r i J m 50 := by
    intro r
    induction r with
    | zero => intro i s J _ _ e; exact e
    | succ r ih =>
      intro i s J hi p e
      refine ih (i + 1) _ _ (by omega) (tell_step hL hO hA ht hcl c0 m43 cb i s.1 J (by omega) p) ?_
      show (tpE (sR S) b (i / 8) (i % 8) s).2 = f_putsW J m A i m 50
      rw [tell_lost hL hO hA ht c0 m43 i s.1 J (by omega) p, ← e]
      rfl
  exact q 16 0 (I0, nI 0) J0 rfl h z50.symm
