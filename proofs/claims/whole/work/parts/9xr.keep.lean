-- what reading leaves alone, more of it
section FRQ
variable {W : AW} {Q : AQ} {T : Nat → Int} {x : GT} {σ : GS} {n N k i : Nat} {K D lo most pl d kk : Int} {j : Nat}
theorem anS_ok (h : (j < 20 ∨ 23 ≤ j ∧ j ≤ 25)) : (anS kk x).1.1 j = x.1.1 j := by
  show fu (fu (enF kk 0 x.1).1 29 (x.1.1 29 - 1)) 27 (x.1.1 27 - (if kk = 9 then 1 else 0)) j = _
  rw [fu_ne _ _ (by omega), fu_ne _ _ (by omega), en_o (by omega)]
theorem anF_ok (h : (j < 20 ∨ 23 ≤ j ∧ j ≤ 25)) : ∀ (f : Nat) (x : GT), (anF kk f x).1.1 j = x.1.1 j
  | 0, x => rfl
  | f + 1, x => by
    show (if topF x = kk ∧ x.1.1 22 = 0 then anF kk f (anS kk x) else x).1.1 j = _
    split
    · rw [anF_ok h f, anS_ok h]
    · rfl
theorem anG_ok (h : (j < 20 ∨ 23 ≤ j ∧ j ≤ 25)) : (anG kk x).1.1 j = x.1.1 j := anF_ok h _ x
theorem opF_ok (h : (j < 20 ∨ 23 ≤ j ∧ j ≤ 25)) : (opF kk x).1.1 j = x.1.1 j := by
  show fu (opD kk (x.1.1 21) x.1).1 29 (x.1.1 29 + 1) j = _
  rw [fu_ne _ _ (by omega), opD_o (by omega) (by omega)]
theorem adX_ok (h : (j < 20 ∨ 23 ≤ j ∧ j ≤ 25)) : (adX d x).1.1 j = x.1.1 j := by
  show (adF d x.1).1 j = _
  rw [ad_o (by omega)]
theorem facX_ok (h : (j < 20 ∨ 23 ≤ j ∧ j ≤ 25)) : (facX T n x).1.1 j = x.1.1 j := by
  have s : (skF T n x.1).1 j = x.1.1 j := sk_o (by omega)
  unfold facX
  split
  · rw [adX_ok h, opF_ok h]
    exact s
  · split
    · rw [adX_ok h, opF_ok h]
      exact s
    · show (coF T n (skF T n x.1)).1 j = _
      rw [co_o (by omega) (by omega) (by omega) (by omega)]
      exact s
theorem ts0_ok (h : (j < 20 ∨ 23 ≤ j ∧ j ≤ 25)) : (ts0 T n x).1.1 j = x.1.1 j := by
  show (skF T n (anG 9 x).1).1 j = _
  rw [sk_o (by omega), anG_ok h]
theorem tsC_ok (h : (j < 20 ∨ 23 ≤ j ∧ j ≤ 25)) : (tsC x).1.1 j = x.1.1 j := by
  unfold tsC
  rw [anG_ok h, anG_ok h]
theorem tsO_ok (h : (j < 20 ∨ 23 ≤ j ∧ j ≤ 25)) : (tsO T n x).1.1 j = x.1.1 j := by
  unfold tsO
  split <;> rw [adX_ok h, opF_ok h] <;> split
  · rw [anG_ok h, anG_ok h]
  · rw [anG_ok h]
  · rw [anG_ok h, anG_ok h]
  · rw [anG_ok h]
theorem clF_ok (h : (j < 20 ∨ 23 ≤ j ∧ j ≤ 25)) : (clF T n x).1.1 j = x.1.1 j := by
  show fu (fu (fu (clS T n x.1).1 21 (x.1.1 21 + 1)) 29 (x.1.1 29 - 1)) 27 (x.1.1 27 - 1) j = _
  rw [fu_ne _ _ (by omega), fu_ne _ _ (by omega), fu_ne _ _ (by omega)]
  unfold clS
  split
  · rfl
  · rw [fl_o (by omega)]
theorem tesL_ok (h : (j < 20 ∨ 23 ≤ j ∧ j ≤ 25)) : ∀ (f : Nat) (b : Bool) (x : GT), (tesL T n f b x).1.1 j = x.1.1 j
  | 0, b, x => rfl
  | f + 1, b, x => by
    unfold tesL
    split
    · split
      · split <;> rw [tesL_ok h f, facX_ok h]
      · split
        · rw [tesL_ok h f, tsO_ok h, ts0_ok h]
        · split
          · rw [tesL_ok h f, clF_ok h, tsC_ok h, ts0_ok h]
          · rw [tsC_ok h, ts0_ok h]
    · rfl
theorem tesF_ok (h : (j < 20 ∨ 23 ≤ j ∧ j ≤ 25)) : (tesF T n x).1.1 j = x.1.1 j := by
  unfold tesF
  rw [tesL_ok h]
  show fu x.1.1 29 0 j = _
  exact fu_ne _ _ (by omega)
theorem clT_ok {y : GWX} (h : (j < 20 ∨ 23 ≤ j ∧ j ≤ 25)) : (clT T n k i y).2.1.1 j = y.2.1.1 j := by
  have s : (suF T n y.2.1).1 j = y.2.1.1 j := su_o (by omega) (by omega) (by omega) (by omega)
  have t : (tkF T n 10 (suF T n y.2.1)).1 j = y.2.1.1 j := by rw [tk_o (by omega), s]
  unfold clT
  split
  · exact tesF_ok h
  · split
    · split
      · split
        · show (tesF T n (tkF T n 10 (suF T n y.2.1), y.2.2)).1.1 j = _
          rw [tesF_ok h]
          exact t
        · exact t
      · exact s
    · show (amF T n (if k = 5 then 1 else 0) (if k = 5 ∨ k = 6 then 9 else 1000) y.2.1).1 j = _
      exact am_o (by omega) (by omega)
theorem clauseF_ok {y : GWX} (h : (j < 20 ∨ 23 ≤ j ∧ j ≤ 25)) : (clauseF T n N y).2.1.1 j = y.2.1.1 j := by
  have s : (skF T n y.2.1).1 j = y.2.1.1 j := sk_o (by omega)
  unfold clauseF
  split
  · show (flF 0 _ (skF T n y.2.1)).1 j = _
    rw [fl_o (by omega), s]
  · split
    · show (flF 4 _ (skF T n y.2.1)).1 j = _
      rw [fl_o (by omega), s]
    · show (clT T n _ _ _).2.1.1 j = _
      rw [clT_ok h]
      show (adF _ (skF T n y.2.1)).1 j = _
      rw [ad_o (by omega), s]
theorem rdN_ok {y : GWX} (h : (j < 20 ∨ 23 ≤ j ∧ j ≤ 25)) : (rdN T n N y).1 j = y.2.1.1 j := by
  unfold rdN rdS
  split
  · rw [fl_o (by omega), sk_o (by omega), clauseF_ok h]
  · rw [sk_o (by omega), clauseF_ok h]
theorem rdL_ok (h : (j < 20 ∨ 23 ≤ j ∧ j ≤ 25)) : ∀ (f N : Nat) (y : GWX), (rdL T n f N y).2.2.1.1 j = y.2.1.1 j
  | 0, N, y => rfl
  | f + 1, N, y => by
    have r : (rdY T n N y).2.1.1 j = y.2.1.1 j := by
      show (adF 1 (rdN T n N y)).1 j = _
      rw [ad_o (by omega), rdN_ok h]
    unfold rdL
    split
    · rw [rdL_ok h f, r]
    · exact r
theorem rdF_ok {y : GWX} (h : (j < 20 ∨ 23 ≤ j ∧ j ≤ 25)) : (rdF T n y).2.1.1 j = y.2.1.1 j := by
  show fu (rdL T n 13 0 (y.1, (rdI y.2.1, y.2.2))).2.2.1.1 20 0 j = _
  rw [fu_ne _ _ (by omega), rdL_ok h]
  exact rdI_o (by omega)
end FRQ
