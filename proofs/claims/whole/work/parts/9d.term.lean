-- VALUE, TERM, SUM of the reference
def RI (n : Nat) (K D : Int) (σ : GS) : Prop := (σ.1 20 = (n : Int) ∧ (0 ≤ σ.1 23 ∧ σ.1 23 ≤ 15) ∧ σ.1 30 = (if σ.1 23 < 8 then 7 else 11)) ∧ (0 ≤ σ.1 21 ∧ σ.1 21 ≤ (n : Int)) ∧ 0 ≤ σ.1 22 ∧ (0 ≤ σ.1 28 ∧ σ.1 28 ≤ 60 + D) ∧ 0 ≤ σ.1 26 ∧ (σ.1 22 = 0 → σ.1 28 ≤ 60 ∧ 3 * σ.1 26 + K ≤ σ.1 21 + 6 * σ.1 28)
theorem en_o {k v : Int} {σ : GS} {j : Nat} (h : j ≠ 26) : (enF k v σ).1 j = σ.1 j := by
  show enG σ.1 j = σ.1 j
  unfold enG
  by_cases c : σ.1 22 = 0
  · rw [if_pos c, fu_ne _ _ h]
  · rw [if_neg c]
theorem cn_o {pl : Int} {σ : GS} {j : Nat} (h : j ≠ 28) (h2 : j ≠ 22) : (cnF pl σ).1 j = σ.1 j := by
  show cnG σ.1 pl j = σ.1 j
  unfold cnG flG
  rw [fu_ne _ _ h]
  by_cases c : σ.1 28 = 60
  · rw [if_pos c, fu_ne _ _ h2]
  · rw [if_neg c]
theorem sk_e {T : Nat → Int} {n : Nat} {σ : GS} : (skF T n σ).1 21 = ((rn isB T n (σ.1 21).toNat : Nat) : Int) := by
  unfold skF
  dsimp only
  exact fu_eq _ _ _
theorem cn_e {pl : Int} {σ : GS} : (cnF pl σ).1 28 = σ.1 28 + 1 := by
  unfold cnF cnG
  dsimp only
  exact fu_eq _ _ _
theorem fl_e {c pl : Int} {σ : GS} : (flF c pl σ).1 22 = if σ.1 22 = 0 then 1 + 8 * pl + c else σ.1 22 := by
  unfold flF flG
  dsimp only
  exact fu_eq _ _ _
theorem ad_e {d : Int} {σ : GS} : (adF d σ).1 21 = σ.1 21 + d := by
  unfold adF
  dsimp only
  exact fu_eq _ _ _
theorem fl_o {c pl : Int} {σ : GS} {j : Nat} (h : j ≠ 22) : (flF c pl σ).1 j = σ.1 j := fu_ne _ _ h
theorem ad_o {d : Int} {σ : GS} {j : Nat} (h : j ≠ 21) : (adF d σ).1 j = σ.1 j := fu_ne _ _ h
section RI
variable {T : Nat → Int} {n : Nat} {K D c pl k v d : Int} {σ : GS}
theorem RI.wk {K' D' : Int} (h : RI n K D σ) (h1 : K' ≤ K) (h2 : D ≤ D') : RI n K' D' σ := by
  obtain ⟨a1, a2, a3, a4, a5, a6⟩ := h
  exact ⟨a1, a2, a3, ⟨a4.1, by omega⟩, a5, fun z => ⟨(a6 z).1, by have := (a6 z).2; omega⟩⟩
theorem RI.sk (h : RI n K D σ) : RI n K D (skF T n σ) ∧ σ.1 21 ≤ (skF T n σ).1 21 := by
  obtain ⟨a1, a2, a3, a4, a5, a6⟩ := h
  have hb := rn_b (P := isB) (T := T) (n := n) (p := (σ.1 21).toNat)
  have e := hb.2 (by omega)
  have e21 : (skF T n σ).1 21 = ((rn isB T n (σ.1 21).toNat : Nat) : Int) := sk_e
  have le : σ.1 21 ≤ (skF T n σ).1 21 := by rw [e21]; omega
  refine ⟨⟨a1, ⟨by omega, by rw [e21]; omega⟩, a3, a4, a5, fun z => ⟨(a6 z).1, ?_⟩⟩, le⟩
  have := (a6 z).2
  show 3 * σ.1 26 + K ≤ (skF T n σ).1 21 + 6 * σ.1 28
  omega
theorem RI.cnt (h : RI n K D σ) (hp : 0 ≤ pl) : RI n (K + 6) (D + 1) (cnF pl σ) := by
  obtain ⟨a1, a2, a3, a4, a5, a6⟩ := h
  have e28 : (cnF pl σ).1 28 = σ.1 28 + 1 := cn_e
  have eo : ∀ i, i ≠ 28 → i ≠ 22 → (cnF pl σ).1 i = σ.1 i := fun i h1 h2 => by
    show cnG σ.1 pl i = σ.1 i
    unfold cnG flG
    rw [fu_ne _ _ h1]
    split
    · rw [fu_ne _ _ h2]
    · rfl
  have e22 : (cnF pl σ).1 22 = if σ.1 28 = 60 ∧ σ.1 22 = 0 then 1 + 8 * pl + 3 else σ.1 22 := by
    show cnG σ.1 pl 22 = _
    unfold cnG flG
    rw [fu_ne _ _ (by decide)]
    by_cases c1 : σ.1 28 = 60
    · rw [if_pos c1, fu_eq]
      by_cases c2 : σ.1 22 = 0
      · rw [if_pos c2, if_pos ⟨c1, c2⟩]
      · rw [if_neg c2, if_neg (fun q => c2 q.2)]
    · rw [if_neg c1, if_neg (fun q => c1 q.1)]
  unfold RI
  rw [eo 20 (by decide) (by decide), eo 23 (by decide) (by decide), eo 30 (by decide) (by decide), eo 21 (by decide) (by decide), eo 26 (by decide) (by decide), e28, e22]
  refine ⟨a1, a2, ?_, by omega, a5, fun z => ?_⟩
  · split <;> omega
  · by_cases c2 : σ.1 28 = 60 ∧ σ.1 22 = 0
    · rw [if_pos c2] at z; omega
    · rw [if_neg c2] at z
      have := a6 z
      omega
theorem RI.ent (h : RI n K D σ) : RI n (K - 3) D (enF k v σ) := by
  obtain ⟨a1, a2, a3, a4, a5, a6⟩ := h
  have e : (enF k v σ).1 = if σ.1 22 = 0 then fu σ.1 26 (σ.1 26 + 1) else σ.1 := rfl
  unfold RI
  rw [e]
  by_cases c : σ.1 22 = 0
  · rw [if_pos c]
    simp only [fu_3, Nat.reduceEqDiff, if_false, if_true]
    have := a6 c
    exact ⟨a1, a2, a3, a4, by omega, fun z => by omega⟩
  · rw [if_neg c]
    exact ⟨a1, a2, a3, a4, a5, fun z => absurd z c⟩
theorem RI.fl {K' : Int} (h : RI n K D σ) (hp : 0 ≤ pl) (hc : 0 ≤ c) : RI n K' D (flF c pl σ) := by
  obtain ⟨a1, a2, a3, a4, a5, a6⟩ := h
  have e22 : (flF c pl σ).1 22 = if σ.1 22 = 0 then 1 + 8 * pl + c else σ.1 22 := fl_e
  have eo : ∀ i, i ≠ 22 → (flF c pl σ).1 i = σ.1 i := fun i h1 => fu_ne _ _ h1
  unfold RI
  rw [eo 20 (by decide), eo 23 (by decide), eo 30 (by decide), eo 21 (by decide), eo 26 (by decide), eo 28 (by decide), e22]
  exact ⟨a1, a2, by split <;> omega, a4, a5, fun z => by split at z <;> omega⟩
theorem RI.ad (h : RI n K D σ) (h0 : 0 ≤ d) (h1 : σ.1 21 + d ≤ (n : Int)) : RI n (K + d) D (adF d σ) := by
  obtain ⟨a1, a2, a3, a4, a5, a6⟩ := h
  have e21 : (adF d σ).1 21 = σ.1 21 + d := ad_e
  have eo : ∀ i, i ≠ 21 → (adF d σ).1 i = σ.1 i := fun i h1 => fu_ne _ _ h1
  unfold RI
  rw [eo 20 (by decide), eo 23 (by decide), eo 30 (by decide), eo 22 (by decide), eo 26 (by decide), eo 28 (by decide), e21]
  exact ⟨a1, by omega, a3, a4, a5, fun z => by have := a6 z; omega⟩
theorem RI.dg {most : Int} (h : RI n K D σ) : RI n K D (dgF T n most σ) ∧ σ.1 21 ≤ (dgF T n most σ).1 21 := by
  obtain ⟨a1, a2, a3, a4, a5, a6⟩ := id h
  have hb := rn_b (P := isDg) (T := T) (n := n) (p := (σ.1 21).toNat)
  have e := hb.2 (by omega)
  have hp : (((σ.1 21).toNat : Nat) : Int) = σ.1 21 := Int.toNat_of_nonneg a2.1
  have r1 : RI n K D (fu σ.1 21 ((rn isDg T n (σ.1 21).toNat : Nat) : Int), σ.2) := by
    have h2 := h.ad (d := ((rn isDg T n (σ.1 21).toNat : Nat) : Int) - σ.1 21) (by omega) (by omega)
    unfold adF at h2
    rw [show σ.1 21 + (((rn isDg T n (σ.1 21).toNat : Nat) : Int) - σ.1 21) = ((rn isDg T n (σ.1 21).toNat : Nat) : Int) by omega] at h2
    exact h2.wk (by omega) (Int.le_refl _)
  have e21 : (fu σ.1 21 ((rn isDg T n (σ.1 21).toNat : Nat) : Int)) 21 = ((rn isDg T n (σ.1 21).toNat : Nat) : Int) := fu_eq _ _ _
  unfold dgF dgG
  split
  · split
    · have r2 := r1.fl (K' := K) (c := 1) (pl := (((σ.1 21).toNat : Nat) : Int)) (by omega) (by decide)
      refine ⟨r2, ?_⟩
      show σ.1 21 ≤ (flF 1 (((σ.1 21).toNat : Nat) : Int) (fu σ.1 21 ((rn isDg T n (σ.1 21).toNat : Nat) : Int), σ.2)).1 21
      rw [fl_o (by decide)]
      show σ.1 21 ≤ (fu σ.1 21 ((rn isDg T n (σ.1 21).toNat : Nat) : Int)) 21
      rw [e21]
      omega
    · exact ⟨r1, by show σ.1 21 ≤ (fu σ.1 21 ((rn isDg T n (σ.1 21).toNat : Nat) : Int)) 21; rw [e21]; omega⟩
  · have r2 := h.fl (K' := K) (c := 0) (pl := (((σ.1 21).toNat : Nat) : Int)) (by omega) (by decide)
    refine ⟨r2, ?_⟩
    show σ.1 21 ≤ (flF 0 (((σ.1 21).toNat : Nat) : Int) σ).1 21
    rw [fl_o (by decide)]
    exact Int.le_refl _
theorem fdW_b {p : Nat} {w : Nat → Nat} : ∀ f k, k ≤ fdW T n p w f k ∧ fdW T n p w f k ≤ k + f ∧ (fdW T n p w f k < k + f → stP T n p (w (fdW T n p w f k)))
  | 0, k => ⟨Nat.le_refl _, Nat.le_refl _, fun h => absurd h (by show ¬ k < k + 0; omega)⟩
  | f + 1, k => by
    have ih := fdW_b (p := p) (w := w) f (k + 1)
    show k ≤ (@ite Nat (stP T n p (w k)) (Classical.propDecidable _) k (fdW T n p w f (k + 1))) ∧ (@ite Nat (stP T n p (w k)) (Classical.propDecidable _) k (fdW T n p w f (k + 1))) ≤ k + (f + 1) ∧ ((@ite Nat (stP T n p (w k)) (Classical.propDecidable _) k (fdW T n p w f (k + 1))) < k + (f + 1) → stP T n p (w (@ite Nat (stP T n p (w k)) (Classical.propDecidable _) k (fdW T n p w f (k + 1)))))
    by_cases c : stP T n p (w k)
    · rw [if_pos c]
      exact ⟨Nat.le_refl _, by omega, fun _ => c⟩
    · rw [if_neg c]
      exact ⟨by omega, by omega, fun h => ih.2.2 (by omega)⟩
theorem stP_n {p i : Nat} (h : stP T n p i) (hi : i < 30) (hp : p ≤ n) : p + (wd i).length ≤ n ∧ 1 ≤ (wd i).length := by
  have hb := (rn_b (P := isLt) (T := T) (n := n) (p := p))
  have := hb.2 hp
  have hl := wd_k i hi
  have := h.1
  omega
theorem RI.va (h : RI n K D σ) : RI n (K + 3) (D + 1) (vaF T n σ) ∧ σ.1 21 ≤ (vaF T n σ).1 21 := by
  obtain ⟨s1, s2⟩ := h.sk (T := T)
  unfold vaF
  dsimp only
  generalize skF T n σ = σ1 at *
  have hp := s1.2.1
  have hpn : (((σ1.1 21).toNat : Nat) : Int) = σ1.1 21 := Int.toNat_of_nonneg hp.1
  have e30 := s1.1.2.2
  split
  · obtain ⟨d1, d2⟩ := s1.dg (T := T) (most := 99999)
    have d3 := (d1.cnt (pl := (((σ1.1 21).toNat : Nat) : Int)) (by omega)).ent (k := 0) (v := dgV T n (σ1.1 21).toNat)
    refine ⟨d3.wk (by omega) (Int.le_refl _), ?_⟩
    have e : (enF 0 (dgV T n (σ1.1 21).toNat) (cnF (((σ1.1 21).toNat : Nat) : Int) (dgF T n 99999 σ1))).1 21 = (dgF T n 99999 σ1).1 21 := by
      rw [en_o (by decide), cn_o (by decide) (by decide)]
    omega
  · split
    · have d3 := s1.fl (K' := K + 3) (c := 0) (pl := (((σ1.1 21).toNat : Nat) : Int)) (by omega) (by decide)
      refine ⟨d3.wk (Int.le_refl _) (by omega), ?_⟩
      rw [fl_o (by decide)]
      exact s2
    · next c =>
      have fb := fdW_b (T := T) (n := n) (p := (σ1.1 21).toNat) (w := wdI (σ1.1 23)) (σ1.1 30).toNat 0
      have st := fb.2.2 (by omega)
      have sn := stP_n st (wdI_b _ _) (by omega)
      generalize fdW T n (σ1.1 21).toNat (wdI (σ1.1 23)) (σ1.1 30).toNat 0 = kk at *
      have c1 := s1.cnt (pl := (((σ1.1 21).toNat : Nat) : Int)) (by omega)
      have e21 : (cnF (((σ1.1 21).toNat : Nat) : Int) σ1).1 21 = σ1.1 21 := by
        exact cn_o (by decide) (by decide)
      have c2 := (c1.ad (d := (((wd (wdI (σ1.1 23) kk)).length : Nat) : Int)) (by omega) (by rw [e21]; omega)).ent (k := 1) (v := ((kk : Nat) : Int))
      refine ⟨c2.wk (by omega) (Int.le_refl _), ?_⟩
      have e : (enF 1 ((kk : Nat) : Int) (adF (((wd (wdI (σ1.1 23) kk)).length : Nat) : Int) (cnF (((σ1.1 21).toNat : Nat) : Int) σ1))).1 21 = (cnF (((σ1.1 21).toNat : Nat) : Int) σ1).1 21 + (((wd (wdI (σ1.1 23) kk)).length : Nat) : Int) := by
        rw [en_o (by decide), ad_e]
      omega
end RI
