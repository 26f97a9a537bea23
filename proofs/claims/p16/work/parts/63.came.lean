theorem u_X8_came_0 {Q : Option Value → MM → Prop} {n : Nat} {lv : Lv} {st : List Value} {S : MM} {c z : Nat} (h : bX8_came_0 Q (wpn (kX8_came Q) n) lv st S c z) : wpn (kX8_came Q) (n + 1) 0 lv st S c z := h
theorem u_X8_came_27 {Q : Option Value → MM → Prop} {n : Nat} {lv : Lv} {st : List Value} {S : MM} {c z : Nat} (h : bX8_came_27 Q (wpn (kX8_came Q) n) lv st S c z) : wpn (kX8_came Q) (n + 1) 27 lv st S c z := h
theorem u_X8_came_31 {Q : Option Value → MM → Prop} {n : Nat} {lv : Lv} {st : List Value} {S : MM} {c z : Nat} (h : bX8_came_31 Q (wpn (kX8_came Q) n) lv st S c z) : wpn (kX8_came Q) (n + 1) 31 lv st S c z := h
theorem u_X8_came_32 {Q : Option Value → MM → Prop} {n : Nat} {lv : Lv} {st : List Value} {S : MM} {c z : Nat} (h : bX8_came_32 Q (wpn (kX8_came Q) n) lv st S c z) : wpn (kX8_came Q) (n + 1) 32 lv st S c z := h
theorem u_X8_came_44 {Q : Option Value → MM → Prop} {n : Nat} {lv : Lv} {st : List Value} {S : MM} {c z : Nat} (h : bX8_came_44 Q (wpn (kX8_came Q) n) lv st S c z) : wpn (kX8_came Q) (n + 1) 44 lv st S c z := h
theorem u_X8_came_53 {Q : Option Value → MM → Prop} {n : Nat} {lv : Lv} {st : List Value} {S : MM} {c z : Nat} (h : bX8_came_53 Q (wpn (kX8_came Q) n) lv st S c z) : wpn (kX8_came Q) (n + 1) 53 lv st S c z := h
theorem u_X8_came_57 {Q : Option Value → MM → Prop} {n : Nat} {lv : Lv} {st : List Value} {S : MM} {c z : Nat} (h : bX8_came_57 Q (wpn (kX8_came Q) n) lv st S c z) : wpn (kX8_came Q) (n + 1) 57 lv st S c z := h
theorem u_X8_came_84 {Q : Option Value → MM → Prop} {n : Nat} {lv : Lv} {st : List Value} {S : MM} {c z : Nat} (h : bX8_came_84 Q (wpn (kX8_came Q) n) lv st S c z) : wpn (kX8_came Q) (n + 1) 84 lv st S c z := h
theorem z_f_came {Q : Option Value → MM → Prop} {S0 : MM} {m : Nat} {A : Nat → Nat}  {w1 : Int32} {w2 : Int32} {w3 : Int32} (hM : MS S0 m A) (e42 : ∀ j, j < 2 → ∃ k, k < 2147483000 ∧ sI S0 (A 42) j = nI k) (im : IM S0 m A)  (K : ∀ r S', SM [0] m A S0 S' → IM S' m A → Q (some (.int r)) S') : wX8_came [.ref m, .int w1, .int w2, .int w3] S0 Q := by
  have sh : SM [0] m A S0 S0 := SM.rf
  refine Exists.intro 60 (u_X8_came_0 ?_)
  unfold bX8_came_0
  refine e_ldA rfl ?_
  refine e_ldI rfl ?_
  refine And.intro ⟨by decide, by decide⟩ (z_X8_isEnd ?_ (fun j1 hj2 e3 => ?_))
  · refine e_ifN (by omega) (fun h4 => ?_) (fun h4 => ?_)
    · refine u_X8_came_27 ?_
      unfold bX8_came_27
      refine e_cN 1 rfl ?_
      refine u_X8_came_32 ?_
      unfold bX8_came_32
      refine y_mI hM sh im (by decide) (fun N e => nomatch (show (none : Option Nat) = some N from e)) (fun S5 he6 sh7 ir8 => ?_)
      refine e_ldA rfl ?_
      refine e_gV (v := nI 1) (SM_k sh7 hM.1) (by rw [he6]; exact rd_s) ?_
      refine e_lez (by omega) (fun h9 => ?_) (fun h9 => ?_)
      · exact absurd h9 (by decide)
      · refine e_cN 0 rfl ?_
        exact e_rI (K _ _ sh7 ir8)
    · exact absurd rfl h4
  · subst e3
    refine e_ifN (by omega) (fun h10 => ?_) (fun h10 => ?_)
    · exact absurd h10 (by decide)
    · refine e_ldI rfl ?_
      refine e_ltz ?_ (fun j11 hj12 e13 => ?_)
      · refine u_X8_came_27 ?_
        unfold bX8_came_27
        refine e_cN 1 rfl ?_
        refine u_X8_came_32 ?_
        unfold bX8_came_32
        refine y_mI hM sh im (by decide) (fun N e => nomatch (show (none : Option Nat) = some N from e)) (fun S14 he15 sh16 ir17 => ?_)
        refine e_ldA rfl ?_
        refine e_gV (v := nI 1) (SM_k sh16 hM.1) (by rw [he15]; exact rd_s) ?_
        refine e_lez (by omega) (fun h18 => ?_) (fun h18 => ?_)
        · exact absurd h18 (by decide)
        · refine e_cN 0 rfl ?_
          exact e_rI (K _ _ sh16 ir17)
      · subst e13
        refine e_ldI rfl ?_
        refine e_ldA rfl ?_
        refine e_gR (SM_k sh hM.1) (SM_r sh (hM.2.1 42 (by decide)).1) ?_
        refine e_ldI rfl ?_
        obtain ⟨n19, hn20, en21⟩ := e42 j1 (by omega)
        refine e_aV (N := 2) (v := nI n19) (SM_k sh (hM.2.1 42 (by decide)).2.1) (SM_n sh (hM.2.1 42 (by decide)).2.2.1) (by omega) (by decide) (by rw [SM_a sh hM (by decide) (by decide)]; exact en21) ?_
        refine e_cN 50 rfl ?_
        refine e_mMh rfl (by omega) (by omega) (fun n22 hn23 hn24 => ?_)
        refine e_lt (by omega) (by omega) (fun h25 => ?_) (fun h25 => ?_)
        · refine u_X8_came_31 ?_
          unfold bX8_came_31
          refine e_cN 0 rfl ?_
          refine u_X8_came_32 ?_
          unfold bX8_came_32
          refine y_mI hM sh im (by decide) (fun N e => nomatch (show (none : Option Nat) = some N from e)) (fun S26 he27 sh28 ir29 => ?_)
          refine e_ldA rfl ?_
          refine e_gV (v := nI 0) (SM_k sh28 hM.1) (by rw [he27]; exact rd_s) ?_
          refine e_lez (by omega) (fun h30 => ?_) (fun h30 => ?_)
          · refine u_X8_came_44 ?_
            unfold bX8_came_44
            refine e_ldI rfl ?_
            refine e_ltz ?_ (fun j31 hj32 e33 => ?_)
            · refine u_X8_came_53 ?_
              unfold bX8_came_53
              refine e_cI ?_
              refine u_X8_came_84 ?_
              unfold bX8_came_84
              exact e_rI (K _ _ sh28 ir29)
            · subst e33
              refine e_ldI rfl ?_
              refine e_cN 3 rfl ?_
              refine e_le (by omega) (by omega) (fun h34 => ?_) (fun h34 => ?_)
              · refine u_X8_came_57 ?_
                unfold bX8_came_57
                refine e_ldA rfl ?_
                refine e_gR (SM_k sh28 hM.1) (SM_r sh28 (hM.2.1 41 (by decide)).1) ?_
                refine e_cN 4 rfl ?_
                refine e_cN 50 rfl ?_
                refine e_ldI rfl ?_
                refine e_mul ?_
                refine e_ldA rfl ?_
                refine e_gR (SM_k sh28 hM.1) (SM_r sh28 (hM.2.1 42 (by decide)).1) ?_
                refine e_ldI rfl ?_
                refine e_aV (N := 2) (v := nI n19) (SM_k sh28 (hM.2.1 42 (by decide)).2.1) (SM_n sh28 (hM.2.1 42 (by decide)).2.2.1) (by omega) (by decide) (by rw [SM_a sh28 hM (by decide) (by decide)]; exact en21) ?_
                refine e_cN 1 rfl ?_
                refine e_sub (by omega) ?_
                refine e_ldI rfl ?_
                refine e_sub (by omega) ?_
                refine e_cN 50 rfl ?_
                refine e_rem (by omega) (by decide) (by decide) ?_
                refine e_add ?_
                refine e_mul ?_
                refine e_ldI rfl ?_
                refine e_add ?_
                refine e_aI (N := 400) (SM_k sh28 (hM.2.1 41 (by decide)).2.1) (SM_n sh28 (hM.2.1 41 (by decide)).2.2.1) (by omega) (by decide) (fun v35 hv36 => ?_)
                refine u_X8_came_84 ?_
                unfold bX8_came_84
                exact e_rI (K _ _ sh28 ir29)
              · refine u_X8_came_53 ?_
                unfold bX8_came_53
                refine e_cI ?_
                refine u_X8_came_84 ?_
                unfold bX8_came_84
                exact e_rI (K _ _ sh28 ir29)
          · exact absurd rfl h30
        · refine u_X8_came_27 ?_
          unfold bX8_came_27
          refine e_cN 1 rfl ?_
          refine u_X8_came_32 ?_
          unfold bX8_came_32
          refine y_mI hM sh im (by decide) (fun N e => nomatch (show (none : Option Nat) = some N from e)) (fun S37 he38 sh39 ir40 => ?_)
          refine e_ldA rfl ?_
          refine e_gV (v := nI 1) (SM_k sh39 hM.1) (by rw [he38]; exact rd_s) ?_
          refine e_lez (by omega) (fun h41 => ?_) (fun h41 => ?_)
          · exact absurd h41 (by decide)
          · refine e_cN 0 rfl ?_
            exact e_rI (K _ _ sh39 ir40)
