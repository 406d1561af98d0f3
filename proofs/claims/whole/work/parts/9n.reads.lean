-- READS of the reference: bounds behind a clause
def EB (n : Nat) (K : Int) (x : GT) : Prop := WB n x.1 ∧ (x.1.1 22 = 0 → RI n K 0 x.1 ∧ 0 ≤ x.1.1 27 ∧ x.1.1 27 ≤ x.1.1 21)
section CLB
variable {W : AW} {Q : AQ} {T : Nat → Int} {x : GT} {σ : GS} {n N k i : Nat} {K D lo most : Int}
theorem EB.ri (h : RI n K D x.1) (hd : 0 ≤ x.1.1 27 ∧ x.1.1 27 ≤ x.1.1 21) : EB n K x := ⟨h.wb, fun z => ⟨h.d0 z, hd⟩⟩
theorem EB.tes (hK : 0 ≤ K) (h : RI n K 0 x.1) (hd : 0 ≤ x.1.1 27 ∧ x.1.1 27 ≤ x.1.1 21) : EB n K (tesF T n x) := by
  obtain ⟨a, b⟩ := RI.tes (T := T) hK h hd
  refine ⟨a, fun z => ?_⟩
  obtain ⟨c1, c2, c3⟩ := (b z).1
  have s0 := stN_p (tesF T n x).2 ((tesF T n x).1.1 29).toNat
  have d0 := dpN_p (tesF T n x).2 ((tesF T n x).1.1 29).toNat
  exact ⟨c1.wk (by omega) (by decide), by omega, c3.2⟩
theorem am_o {j : Nat} (h : j ≠ 21) (h2 : j ≠ 22) : (amF T n lo most σ).1 j = σ.1 j := by
  unfold amF
  split
  · rw [fl_o h2, dg_o h h2, sk_o h]
  · rw [dg_o h h2, sk_o h]
theorem tk_o {j : Nat} (h : j ≠ 21) : (tkF T n i σ).1 j = σ.1 j := by
  unfold tkF
  split <;> rw [ad_o h, sk_o h]
theorem clT_b (hx : TX W T n) (hK : 0 ≤ K) (h : RI n K 0 x.1) (hd : 0 ≤ x.1.1 27 ∧ x.1.1 27 ≤ x.1.1 21) : EB n K (clT T n k i (W, x)).2 ∧ TX (clT T n k i (W, x)).1 T n := by
  unfold clT
  dsimp only
  split
  · exact ⟨EB.tes hK h hd, hx⟩
  · split
    · obtain ⟨s1, s2⟩ := h.su (T := T) (by decide)
      have f27 : (suF T n x.1).1 27 = x.1.1 27 := su_o (by decide) (by decide) (by decide) (by decide)
      have hx2 := hx.rw (r := 174) (i := i) (v := (suF T n x.1).1 26) (by decide)
      split
      · next c0 =>
        obtain ⟨t1, t2⟩ := (s1.d0 c0).tk (T := T) (i := 10) (by decide)
        have g27 : (tkF T n 10 (suF T n x.1)).1 27 = x.1.1 27 := by rw [tk_o (by decide), f27]
        have t3 : RI n K 0 (tkF T n 10 (suF T n x.1)) := t1.wk (by omega) (by decide)
        have hd3 : 0 ≤ (tkF T n 10 (suF T n x.1)).1 27 ∧ (tkF T n 10 (suF T n x.1)).1 27 ≤ (tkF T n 10 (suF T n x.1)).1 21 := by omega
        by_cases ct : tkP T n 10 (suF T n x.1)
        · rw [if_pos ct]
          exact ⟨EB.tes (x := (tkF T n 10 (suF T n x.1), x.2)) hK t3 hd3, hx2⟩
        · rw [if_neg ct]
          exact ⟨EB.ri (x := (tkF T n 10 (suF T n x.1), x.2)) t3 hd3, hx2⟩
      · exact ⟨EB.ri (x := (suF T n x.1, x.2)) (s1.wk (by omega) (Int.le_refl _)) (by show 0 ≤ (suF T n x.1).1 27 ∧ (suF T n x.1).1 27 ≤ (suF T n x.1).1 21; omega), hx2⟩
    · obtain ⟨a1, a2⟩ := h.am (T := T) (lo := if k = 5 then 1 else 0) (most := if k = 5 ∨ k = 6 then 9 else 1000)
      have f27 : (amF T n (if k = 5 then 1 else 0) (if k = 5 ∨ k = 6 then 9 else 1000) x.1).1 27 = x.1.1 27 := am_o (by decide) (by decide)
      refine ⟨EB.ri (x := (amF T n (if k = 5 then 1 else 0) (if k = 5 ∨ k = 6 then 9 else 1000) x.1, x.2)) a1 ?_, hx.rw (by decide)⟩
      show 0 ≤ (amF T n (if k = 5 then 1 else 0) (if k = 5 ∨ k = 6 then 9 else 1000) x.1).1 27 ∧ (amF T n (if k = 5 then 1 else 0) (if k = 5 ∨ k = 6 then 9 else 1000) x.1).1 27 ≤ (amF T n (if k = 5 then 1 else 0) (if k = 5 ∨ k = 6 then 9 else 1000) x.1).1 21
      omega
theorem clause_b (hx : TX W T n) (hK : 0 ≤ K) (h : RI n K 0 x.1) (hd : 0 ≤ x.1.1 27 ∧ x.1.1 27 ≤ x.1.1 21) : EB n K (clauseF T n N (W, x)).2 ∧ TX (clauseF T n N (W, x)).1 T n ∧ (N = 12 → ¬ (clauseF T n N (W, x)).2.1.1 22 = 0) := by
  obtain ⟨s1, s2⟩ := h.sk (T := T)
  have g27 : (skF T n x.1).1 27 = x.1.1 27 := sk_o (by decide)
  have kb : clK T n x.1 ≤ clN ((skF T n x.1).1 23) ∧ (clK T n x.1 < clN ((skF T n x.1).1 23) → stP T n ((skF T n x.1).1 21).toNat (cuI ((skF T n x.1).1 23) (clK T n x.1))) := by
    have fb := fdW_b (T := T) (n := n) (p := ((skF T n x.1).1 21).toNat) (w := cuI ((skF T n x.1).1 23)) (clN ((skF T n x.1).1 23)) 0
    exact ⟨by have := fb.2.1; unfold clK; omega, fun z => fb.2.2 (by unfold clK at z; omega)⟩
  unfold clauseF
  dsimp only
  generalize clK T n x.1 = k at *
  generalize skF T n x.1 = σ1 at *
  have hp := s1.2.1
  have fl : ∀ c : Int, 0 ≤ c → EB n K (flF c (σ1.1 21) σ1, x.2) := fun c hc => by
    refine EB.ri (x := (flF c (σ1.1 21) σ1, x.2)) (s1.fl hp.1 hc) ?_
    show 0 ≤ (flF c (σ1.1 21) σ1).1 27 ∧ (flF c (σ1.1 21) σ1).1 27 ≤ (flF c (σ1.1 21) σ1).1 21
    rw [fl_o (j := 27) (by decide), fl_o (j := 21) (by decide)]
    omega
  split
  · exact ⟨fl 0 (by decide), hx, fun _ z => fl_z z hp.1 (by decide)⟩
  · next c1 =>
    have hst := kb.2 (by omega)
    have sn := stP_n hst (cuI_b _ _) (by omega)
    split
    · exact ⟨fl 4 (by decide), hx, fun _ z => fl_z z hp.1 (by decide)⟩
    · next c2 =>
      have s3 := (s1.ad (d := (((wd (cuI (σ1.1 23) k)).length : Nat) : Int)) (by omega) (by omega)).wk (K' := K) (D' := 0) (by omega) (by decide)
      have e27 : (adF (((wd (cuI (σ1.1 23) k)).length : Nat) : Int) σ1).1 27 = x.1.1 27 := by rw [ad_o (by decide)]; exact g27
      have e21 : (adF (((wd (cuI (σ1.1 23) k)).length : Nat) : Int) σ1).1 21 = σ1.1 21 + (((wd (cuI (σ1.1 23) k)).length : Nat) : Int) := ad_e
      unfold clA
      dsimp only
      generalize adF (((wd (cuI (σ1.1 23) k)).length : Nat) : Int) σ1 = σ2 at *
      obtain ⟨b1, b2⟩ := clT_b (k := k) (i := clI N (σ1.1 23)) (x := (σ2, x.2)) (W := rwW (rwW (rwW W 171 (clI N (σ1.1 23)) (k : Int)) 173 (clI N (σ1.1 23)) (σ2.1 26)) 174 (clI N (σ1.1 23)) (σ2.1 26)) (((hx.rw (by decide)).rw (by decide)).rw (by decide)) hK s3 (by show 0 ≤ σ2.1 27 ∧ σ2.1 27 ≤ σ2.1 21; omega)
      exact ⟨b1, b2.rw (by decide), fun z => (c2 (Or.inl z)).elim⟩
end CLB
