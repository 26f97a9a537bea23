theorem u_X8_comesOn_0 {Q : Option Value → MM → Prop} {n : Nat} {lv : Lv} {st : List Value} {S : MM} {c z : Nat} (h : bX8_comesOn_0 Q (wpn (kX8_comesOn Q) n) lv st S c z) : wpn (kX8_comesOn Q) (n + 1) 0 lv st S c z := h
theorem e_bopE {f : Int32 → Int32 → Int32} {k : Kt} {lv : Lv} {st : List Value} {S : MM} {c z : Nat} {x y : Int32} (h : k lv (.int (f x y) :: st) S c z) : bop f k lv (.int y :: .int x :: st) S c z := h
theorem z_f_comesOn {Q : Option Value → MM → Prop} {S0 : MM} {m c e n : Nat} {A : Nat → Nat} {fr : Int32} (hM : MS S0 m A) (im : IM S0 m A) (hc : c < 8) (he : e < 2) (hf : fr = -1 ∨ ∃ f, f < 4200 ∧ fr = nI f) (hn : n < 4000) (e32 : sI S0 m 32 = nI n) (K : ∀ S', SM [27, 28, 29, 30, 32] m A S0 S' → IM S' m A → sI S' m 32 = nI (n + 1) → TL S' A (n + 1) = TL S0 A n ++ [(nI c, nI e, sI S0 m 43 + sI S0 (A 23) c, fr)] → Q none S') : wX8_comesOn [.ref m, .int (nI c), .int (nI e), .int fr] S0 Q := by
  refine Exists.intro 1 (u_X8_comesOn_0 ?_)
  unfold bX8_comesOn_0
  refine e_ldA rfl (e_gR hM.1 (hM.2.1 27 (by decide)).1 (e_ldA rfl (e_gV (v := nI n) hM.1 e32 (e_ldI rfl (y_mA (N := 4000) (W := [27, 28, 29, 30, 32]) hM SM.rf im (by decide) rfl rfl hn (by decide) (by decide) (fun N e => by have e2 : some 8 = some N := e; cases e2; exact ⟨c, hc, rfl⟩) (fun e => absurd e (by decide)) (fun S1 h1 sh1 im1 => ?_))))))
  have hM1 := MS_SM hM sh1
  have e1 : sI S1 m 32 = nI n := by rw [h1]; exact rd_a e32 (Ne.symm (ne_m hM (by decide)))
  have a27 : sI S1 (A 27) = upd (sI S0 (A 27)) n (nI c) := fn_s h1 rfl
  have a28 : sI S1 (A 28) = sI S0 (A 28) := fn_o h1 rfl (ne_A hM (by decide) (by decide) (by decide))
  have a29 : sI S1 (A 29) = sI S0 (A 29) := fn_o h1 rfl (ne_A hM (by decide) (by decide) (by decide))
  have a30 : sI S1 (A 30) = sI S0 (A 30) := fn_o h1 rfl (ne_A hM (by decide) (by decide) (by decide))
  refine e_ldA rfl (e_gR hM1.1 (hM1.2.1 28 (by decide)).1 (e_ldA rfl (e_gV (v := nI n) hM1.1 e1 (e_ldI rfl (y_mA (N := 4000) hM sh1 im1 (by decide) rfl rfl hn (by decide) (by decide) (fun N e' => by have e2 : some 2 = some N := e'; cases e2; exact ⟨e, he, rfl⟩) (fun e => absurd e (by decide)) (fun S2 h2 sh2 im2 => ?_))))))
  have hM2 := MS_SM hM sh2
  have e2 : sI S2 m 32 = nI n := by rw [h2]; exact rd_a e1 (Ne.symm (ne_m hM (by decide)))
  have b27 : sI S2 (A 27) = upd (sI S0 (A 27)) n (nI c) := fn_o h2 a27 (ne_A hM (by decide) (by decide) (by decide))
  have b28 : sI S2 (A 28) = upd (sI S0 (A 28)) n (nI e) := fn_s h2 a28
  have b29 : sI S2 (A 29) = sI S0 (A 29) := fn_o h2 a29 (ne_A hM (by decide) (by decide) (by decide))
  have b30 : sI S2 (A 30) = sI S0 (A 30) := fn_o h2 a30 (ne_A hM (by decide) (by decide) (by decide))
  have b43 : sI S2 m 43 = sI S0 m 43 := sh2.2.2.2.2.2 43 (by decide)
  have b23 : sI S2 (A 23) = sI S0 (A 23) := SM_a sh2 hM (by decide) (by decide)
  refine e_ldA rfl (e_gR hM2.1 (hM2.2.1 29 (by decide)).1 (e_ldA rfl (e_gV (v := nI n) hM2.1 e2 (e_ldA rfl (e_gV (v := sI S0 m 43) hM2.1 b43 (e_ldA rfl (e_gR hM2.1 (hM2.2.1 23 (by decide)).1 (e_ldI rfl (e_aV (N := 8) (v := sI S0 (A 23) c) (kdA hM2 (by decide) rfl) (lnA hM2 (by decide) rfl) hc (by decide) (by rw [b23]) (e_bopE (y_mA (N := 4000) hM sh2 im2 (by decide) rfl rfl hn (by decide) (by decide) (fun N e => nomatch (show (none : Option Nat) = some N from e)) (fun e => absurd e (by decide)) (fun S3 h3 sh3 im3 => ?_))))))))))))
  have hM3 := MS_SM hM sh3
  have e3 : sI S3 m 32 = nI n := by rw [h3]; exact rd_a e2 (Ne.symm (ne_m hM (by decide)))
  have c27 : sI S3 (A 27) = upd (sI S0 (A 27)) n (nI c) := fn_o h3 b27 (ne_A hM (by decide) (by decide) (by decide))
  have c28 : sI S3 (A 28) = upd (sI S0 (A 28)) n (nI e) := fn_o h3 b28 (ne_A hM (by decide) (by decide) (by decide))
  have c29 : sI S3 (A 29) = upd (sI S0 (A 29)) n (sI S0 m 43 + sI S0 (A 23) c) := fn_s h3 b29
  have c30 : sI S3 (A 30) = sI S0 (A 30) := fn_o h3 b30 (ne_A hM (by decide) (by decide) (by decide))
  refine e_ldA rfl (e_gR hM3.1 (hM3.2.1 30 (by decide)).1 (e_ldA rfl (e_gV (v := nI n) hM3.1 e3 (e_ldI rfl (y_mA (N := 4000) hM sh3 im3 (by decide) rfl rfl hn (by decide) (by decide) (fun N e => nomatch (show (none : Option Nat) = some N from e)) (fun _ => hf) (fun S4 h4 sh4 im4 => ?_))))))
  have hM4 := MS_SM hM sh4
  have e4 : sI S4 m 32 = nI n := by rw [h4]; exact rd_a e3 (Ne.symm (ne_m hM (by decide)))
  have d27 : sI S4 (A 27) = upd (sI S0 (A 27)) n (nI c) := fn_o h4 c27 (ne_A hM (by decide) (by decide) (by decide))
  have d28 : sI S4 (A 28) = upd (sI S0 (A 28)) n (nI e) := fn_o h4 c28 (ne_A hM (by decide) (by decide) (by decide))
  have d29 : sI S4 (A 29) = upd (sI S0 (A 29)) n (sI S0 m 43 + sI S0 (A 23) c) := fn_o h4 c29 (ne_A hM (by decide) (by decide) (by decide))
  have d30 : sI S4 (A 30) = upd (sI S0 (A 30)) n fr := fn_s h4 c30
  refine e_ldA rfl (e_duA (e_gV (v := nI n) hM4.1 e4 (e_cN 1 rfl (e_add (y_mI hM sh4 im4 (by decide) (fun N e' => by have e2 : some 4001 = some N := e'; cases e2; exact ⟨n + 1, by omega, rfl⟩) (fun S5 h5 sh5 im5 => e_rV (K S5 sh5 im5 (by rw [h5]; exact rd_s) ?_)))))))
  have t5 : ∀ j, th S5 A j = if j = n then (nI c, nI e, sI S0 m 43 + sI S0 (A 23) c, fr) else th S0 A j := fun j => by
    unfold th
    rw [fn_o (a := A 27) h5 d27 (ne_m hM (by decide)), fn_o (a := A 28) h5 d28 (ne_m hM (by decide)), fn_o (a := A 29) h5 d29 (ne_m hM (by decide)), fn_o (a := A 30) h5 d30 (ne_m hM (by decide))]
    by_cases hj : j = n
    · rw [if_pos hj, hj, pk_us, pk_us, pk_us, pk_us]
    · rw [if_neg hj, pk_un hj, pk_un hj, pk_un hj, pk_un hj]
  rw [TL_s, t5 n, if_pos rfl]
  congr 1
  exact TL_c (fun j hj => by rw [t5 j, if_neg (by omega)])
