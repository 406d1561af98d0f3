-- TEST of the reference
def anG (k : Int) (x : GT) : GT := anF k (x.1.1 29).toNat x
noncomputable def ts0 (T : Nat → Int) (n : Nat) (x : GT) : GT := (skF T n (anG 9 x).1, (anG 9 x).2)
def tsP (T : Nat → Int) (n : Nat) (x : GT) : Prop := stP T n (x.1.1 21).toNat 11 ∨ stP T n (x.1.1 21).toNat 12
noncomputable def tsO (T : Nat → Int) (n : Nat) (x : GT) : GT :=
  @ite GT (stP T n (x.1.1 21).toNat 11) (Classical.propDecidable _)
    (adX 3 (opF 10 (@ite GT (stP T n (x.1.1 21).toNat 12) (Classical.propDecidable _) (anG 11 (anG 10 x)) (anG 10 x))))
    (adX 2 (opF 11 (@ite GT (stP T n (x.1.1 21).toNat 12) (Classical.propDecidable _) (anG 11 (anG 10 x)) (anG 10 x))))
def tsC (x : GT) : GT := anG 11 (anG 10 x)
noncomputable def clS (T : Nat → Int) (n : Nat) (σ : GS) : GS := if chr T n (σ.1 21).toNat = 93 then σ else flF 0 (σ.1 21) σ
noncomputable def clF (T : Nat → Int) (n : Nat) (x : GT) : GT := ((fu (fu (fu (clS T n x.1).1 21 (x.1.1 21 + 1)) 29 (x.1.1 29 - 1)) 27 (x.1.1 27 - 1), x.1.2), x.2)
noncomputable def tesL (T : Nat → Int) (n : Nat) : Nat → Bool → GT → GT
  | 0, _, x => x
  | f + 1, b, x => if x.1.1 22 = 0 then
      (if b = true then @ite GT (facP T n x) (Classical.propDecidable _) (tesL T n f false (facX T n x)) (tesL T n f true (facX T n x))
       else @ite GT (tsP T n (ts0 T n x)) (Classical.propDecidable _) (tesL T n f true (tsO T n (ts0 T n x)))
         (if topF (tsC (ts0 T n x)) = 12 then tesL T n f false (clF T n (tsC (ts0 T n x))) else tsC (ts0 T n x)))
    else x
noncomputable def tesF (T : Nat → Int) (n : Nat) (x : GT) : GT := tesL T n (n + 2) true ((fu x.1.1 29 0, x.1.2), x.2)
/-- what stays so also after a fault -/
def WB (n : Nat) (σ : GS) : Prop := (σ.1 20 = (n : Int) ∧ (0 ≤ σ.1 23 ∧ σ.1 23 ≤ 15) ∧ σ.1 30 = (if σ.1 23 < 8 then 7 else 11)) ∧ (0 ≤ σ.1 21 ∧ σ.1 21 ≤ (n : Int) + 1) ∧ 0 ≤ σ.1 22
section WLT2
variable {W : AW} {Q : AQ} {T : Nat → Int} {x : GT} {n : Nat} {K D k d : Int}
theorem RI.wb {σ : GS} (h : RI n K D σ) : WB n σ := ⟨h.1, by have := h.2.1; omega, h.2.2.1⟩
theorem RA.ag (h : RA n K D x) (hk : 0 ≤ k ∧ k ≠ 12) : RA n K D (anG k x) ∧ (anG k x).1.1 21 = x.1.1 21 ∧ (anG k x).1.1 22 = x.1.1 22 := RA.ans hk _ x h
theorem y_ansG (hx : TX W T n) (hK : 0 ≤ K) (hk : 0 ≤ k ∧ k ≠ 12) (h : RA n K D x) (hQ : Q none (GX W (anG k x))) : Gm 219 [vr 148, vi k] (GX W x) Q := by
  have hw : 192 ≤ W.1 := hx.1.1
  have h2 := h.2.1
  rw [e219]
  exact y_answers hx hK hk _ x h (by omega) hQ
theorem RA.t0 (h : RA n K 0 x) : RA n K 0 (ts0 T n x) ∧ x.1.1 21 ≤ (ts0 T n x).1.1 21 ∧ (ts0 T n x).1.1 22 = x.1.1 22 := by
  obtain ⟨a1, a2, a3⟩ := h.ag (k := 9) (by decide)
  obtain ⟨b1, b2⟩ := a1.sk (T := T)
  refine ⟨b1, ?_, ?_⟩
  · show _ ≤ (skF T n (anG 9 x).1).1 21
    omega
  · show (skF T n (anG 9 x).1).1 22 = _
    rw [sk_o (by decide), a3]
theorem RA.tc (h : RA n K 0 x) : RA n K 0 (tsC x) ∧ (tsC x).1.1 21 = x.1.1 21 ∧ (tsC x).1.1 22 = x.1.1 22 := by
  obtain ⟨a1, a2, a3⟩ := h.ag (k := 10) (by decide)
  obtain ⟨b1, b2, b3⟩ := a1.ag (k := 11) (by decide)
  exact ⟨b1, b2.trans a2, b3.trans a3⟩
theorem RA.tO (h : RA n (K + 3) 0 x) (hp : tsP T n x) : RA n K 0 (tsO T n x) ∧ x.1.1 21 + 1 ≤ (tsO T n x).1.1 21 := by
  have hq := h.1.2.1
  have hj : RA n (K + 3) 0 (@ite GT (stP T n (x.1.1 21).toNat 12) (Classical.propDecidable _) (anG 11 (anG 10 x)) (anG 10 x)) ∧ (@ite GT (stP T n (x.1.1 21).toNat 12) (Classical.propDecidable _) (anG 11 (anG 10 x)) (anG 10 x)).1.1 21 = x.1.1 21 := by
    obtain ⟨a1, a2, a3⟩ := h.ag (k := 10) (by decide)
    obtain ⟨b1, b2, b3⟩ := a1.ag (k := 11) (by decide)
    split
    · exact ⟨b1, b2.trans a2⟩
    · exact ⟨a1, a2⟩
  unfold tsO
  generalize (@ite GT (stP T n (x.1.1 21).toNat 12) (Classical.propDecidable _) (anG 11 (anG 10 x)) (anG 10 x)) = y at *
  have l11 : (wd 11).length = 3 := by decide +kernel
  have l12 : (wd 12).length = 2 := by decide +kernel
  by_cases c : stP T n (x.1.1 21).toNat 11
  · rw [if_pos c]
    have sn := stP_n c (by decide) (by omega)
    obtain ⟨o1, o2⟩ := hj.1.op (k := 10) (d := 3) (by decide) (by omega)
    exact ⟨o1.wk (by rw [if_neg (by decide)]; omega) (by decide), by omega⟩
  · rw [if_neg c]
    have c2 : stP T n (x.1.1 21).toNat 12 := hp.resolve_left c
    have sn := stP_n c2 (by decide) (by omega)
    obtain ⟨o1, o2⟩ := hj.1.op (k := 11) (d := 2) (by decide) (by omega)
    exact ⟨o1.wk (by rw [if_neg (by decide)]; omega) (by decide), by omega⟩
theorem RA.cl (h : RA n K 0 x) (ht : topF x = 12) : WB n (clF T n x).1 ∧ ((clF T n x).1.1 22 = 0 → RA n K 0 (clF T n x) ∧ x.1.1 21 + 1 ≤ (clF T n x).1.1 21) := by
  obtain ⟨h1, h2, h3⟩ := h
  have h0 : ¬ x.1.1 29 = 0 := fun z => by
    unfold topF at ht
    rw [if_pos z] at ht
    omega
  unfold topF at ht
  rw [if_neg h0] at ht
  obtain ⟨m, hm⟩ : ∃ m : Nat, x.1.1 29 = ((m + 1 : Nat) : Int) := ⟨(x.1.1 29 - 1).toNat, by omega⟩
  rw [show (x.1.1 29 - 1).toNat = m by omega] at ht
  rw [show (x.1.1 29).toNat = m + 1 by omega] at h1 h3
  have es : stN x.2 (m + 1) = stN x.2 m := by
    show stN x.2 m + (if x.2 m = 12 then 0 else 3) = _
    rw [if_pos ht]
    omega
  have ed : dpN x.2 (m + 1) = dpN x.2 m + 1 := by
    show dpN x.2 m + (if x.2 m = 9 ∨ x.2 m = 12 then 1 else 0) = _
    rw [if_pos (Or.inr ht)]
  have hq := h1.2.1
  have cs : RI n (stN x.2 m + K) 0 (clS T n x.1) ∧ ((clS T n x.1).1 22 = 0 → chr T n (x.1.1 21).toNat = 93) := by
    rw [es] at h1
    unfold clS
    split
    · next c => exact ⟨h1, fun _ => c⟩
    · exact ⟨h1.fl hq.1 (by decide), fun z => (fl_z z hq.1 (by decide)).elim⟩
  have eo : ∀ j, j ≠ 21 → j ≠ 27 → j ≠ 29 → (clF T n x).1.1 j = (clS T n x.1).1 j := fun j a b c => by
    show fu (fu (fu (clS T n x.1).1 21 (x.1.1 21 + 1)) 29 (x.1.1 29 - 1)) 27 (x.1.1 27 - 1) j = _
    rw [fu_ne _ _ b, fu_ne _ _ c, fu_ne _ _ a]
  have e21 : (clF T n x).1.1 21 = x.1.1 21 + 1 := by
    show fu (fu (fu (clS T n x.1).1 21 (x.1.1 21 + 1)) 29 (x.1.1 29 - 1)) 27 (x.1.1 27 - 1) 21 = _
    rw [fu_ne _ _ (by decide), fu_ne _ _ (by decide), fu_eq]
  have e29 : (clF T n x).1.1 29 = x.1.1 29 - 1 := by
    show fu (fu (fu (clS T n x.1).1 21 (x.1.1 21 + 1)) 29 (x.1.1 29 - 1)) 27 (x.1.1 27 - 1) 29 = _
    rw [fu_ne _ _ (by decide), fu_eq]
  have e27 : (clF T n x).1.1 27 = x.1.1 27 - 1 := by
    unfold clF
    dsimp only
    exact fu_eq _ _ _
  have k1 := cs.1.1
  have k3 := cs.1.2.2.1
  refine ⟨?_, fun z => ⟨⟨?_, ?_, ?_⟩, by omega⟩⟩
  · unfold WB
    rw [eo 20 (by decide) (by decide) (by decide), eo 23 (by decide) (by decide) (by decide), eo 30 (by decide) (by decide) (by decide), eo 22 (by decide) (by decide) (by decide), e21]
    exact ⟨k1, by omega, k3⟩
  · rw [eo 22 (by decide) (by decide) (by decide)] at z
    have hl := chr_lt (cs.2 z) (by decide)
    rw [e29, show (x.1.1 29 - 1).toNat = m by omega]
    show RI n (stN x.2 m + K) 0 (clF T n x).1
    have q21 : (clS T n x.1).1 21 = x.1.1 21 := by
      unfold clS
      split
      · rfl
      · exact fl_o (by decide)
    have r := (cs.1.ad (d := 1) (by decide) (by omega)).wk (K' := stN x.2 m + K) (D' := 0) (by omega) (by decide)
    refine r.cg (fun j a b => ?_)
    by_cases c : j = 21
    · subst c
      rw [e21, ad_e, q21]
    · rw [eo j c a b, ad_o c]
  · rw [e29, e21]
    omega
  · rw [e29, e27, e21, show (x.1.1 29 - 1).toNat = m by omega]
    show dpN x.2 m ≤ _ ∧ _
    omega
end WLT2
