-- CLASS AND REFERENCE READ ALIKE: what a clause says
/-- sorts of a clause's entries -/
def TyC (k : Nat) (m : Int) (σ τ : GS) : Prop := (σ.1 23 < 8 → k < 2 → tyS (wNo (σ.1 23)) τ.2.1 τ.2.2 (slB σ + (σ.1 26).toNat) (m.toNat - (σ.1 26).toNat) = some [false] ∧ (m = τ.1 26 ∨ tyS (wNo (σ.1 23)) τ.2.1 τ.2.2 (slB σ + m.toNat) ((τ.1 26).toNat - m.toNat) = some [true])) ∧ (8 ≤ σ.1 23 → m = σ.1 26 ∧ tyS (wNo (σ.1 23)) τ.2.1 τ.2.2 (slB σ + m.toNat) ((τ.1 26).toNat - m.toNat) = some [true]) ∧ (σ.1 26 ≤ m ∧ m ≤ τ.1 26) ∧ nvS τ.2.1 (slB σ) (τ.1 26).toNat - τ.1 28 ≤ nvS σ.2.1 (slB σ) (σ.1 26).toNat - σ.1 28
/-- settings behind a clause -/
def StC (k : Nat) (v : Int) (sl : Int) (c d : CR) : Prop := (sl < 8 → 2 ≤ k → d.2.2.2.2.2.2.2 = fu c.2.2.2.2.2.2.2 (k - 2) v ∧ smI (k - 2) ≤ v ∧ v ≤ laI (k - 2)) ∧ (¬ (sl < 8 ∧ 2 ≤ k) → d.2.2.2.2.2.2.2 = c.2.2.2.2.2.2.2)
section CLT
variable {T : Nat → Int} {n h p i j : Nat} {c d c0 : CR} {σ τ ρ : GS} {x y : GT} {s v r K D : Int} {A B C : List Bool} {q : UQ} {o pl : Nat → Int} {W : AW}
theorem sk_id (h0 : 0 ≤ σ.1 21) (hq : rn isB T n (σ.1 21).toNat = (σ.1 21).toNat) : skF T n σ = σ := by
  unfold skF
  rw [hq, fu_sf (f := σ.1) (Int.toNat_of_nonneg h0).symm]
theorem ad_0 : adF 0 σ = σ := by
  unfold adF
  rw [fu_sf (f := σ.1) (Int.add_zero _).symm]
theorem ty_1 (h26 : 0 ≤ σ.1 26) (ht : TyR σ τ [] B) : tyS (wNo (σ.1 23)) τ.2.1 τ.2.2 (slB σ + (σ.1 26).toNat) ((τ.1 26).toNat - (σ.1 26).toNat) = some B := by
  have e : (σ.1 26).toNat - (σ.1 26).toNat = 0 := Nat.sub_self _
  have t := ht.1 (σ.1 26).toNat [] (by omega) (by rw [e]; rfl)
  rw [List.append_nil] at t
  exact t
theorem cuI_s {k : Nat} (h8 : s < 8) (hk : k < 8) : (k < 2 → cuI s k = 6 + k) ∧ (2 ≤ k → cuI s k = k - 2) := by
  unfold cuI
  rw [if_pos h8]
  exact (show ∀ k, k < 8 → (k < 2 → [6, 7, 0, 1, 2, 3, 4, 5].getD k 5 = 6 + k) ∧ (2 ≤ k → [6, 7, 0, 1, 2, 3, 4, 5].getD k 5 = k - 2) by decide) k hk
theorem cuI_w {k : Nat} (h8 : ¬ s < 8) (hk : k < 2) : cuI s k = 8 + k := by
  unfold cuI
  rw [if_neg h8]
  exact (show ∀ k, k < 2 → [8, 9].getD k 9 = 8 + k by decide) k hk
theorem TZc.ru (hz : TZc T n c0 c y) : c.1 14 = c0.1 14 ∧ c.2.2.2.2.1 = c0.2.2.2.2.1 ∧ c.2.2.2.2.2.1 = c0.2.2.2.2.2.1 ∧ c.2.2.2.2.2.2.1 = c0.2.2.2.2.2.2.1 ∧ c.2.2.2.2.2.2.2 = c0.2.2.2.2.2.2.2 := ⟨hz.2.1.1, hz.2.1.2.1, hz.2.1.2.2.1, hz.2.1.2.2.2.1, hz.2.1.2.2.2.2.1⟩
theorem s_clT {k : Nat} (hT : Ty T) (hn : n ≤ 400) (hK : 0 ≤ K) (hI : RI n K 0 σ) (hd : 0 ≤ σ.1 27 ∧ σ.1 27 ≤ σ.1 21 ∧ σ.1 27 ≤ 10) (hz : σ.1 22 = 0) (hk : k < clN (σ.1 23)) (c3 : c.1 3 = (if (cuI (σ.1 23) k : Int) < 6 then 1 else if σ.1 23 < 8 then 3 else 2)) (c4 : c.1 4 = 0) (hB : SB T n c σ) (hE : SE (qOf c) σ) (h9 : c.1 9 = 0) (hi : c.2.2.2.2.1 (c.1 14).toNat = (cuI (σ.1 23) k : Int)) (hm : c.2.2.2.2.2.1 (c.1 14).toNat = σ.1 26) (h174 : ar W 174 i = σ.1 26) : ResC T n c σ (clT T n k i (W, (σ, o))).2.1 (fun d => (∃ b, BdS T n c (ar (clT T n k i (W, (σ, o))).1 174 i) b d (clT T n k i (W, (σ, o))).2.1) ∧ StC k (ar (clT T n k i (W, (σ, o))).1 172 i) (σ.1 23) c d ∧ TyC k (ar (clT T n k i (W, (σ, o))).1 174 i) σ (clT T n k i (W, (σ, o))).2.1 ∧ (0 ≤ (clT T n k i (W, (σ, o))).2.1.1 27 ∧ (clT T n k i (W, (σ, o))).2.1.1 27 ≤ 10)) := by
  have hp := hI.2.1
  have h26 := hI.2.2.2.2.1
  unfold clN at hk
  by_cases c8 : 8 ≤ σ.1 23
  · have n8 : ¬ σ.1 23 < 8 := by omega
    rw [if_neg n8] at hk
    have eC : clT T n k i (W, (σ, o)) = (W, tesF T n (σ, o)) := if_pos c8
    have ek := cuI_w (s := σ.1 23) n8 hk
    rw [eC]
    rw [ek, if_neg (by omega), if_neg n8] at c3
    have t := s_tes (c := c) (x := (σ, o)) hT hn hK (by rw [hi, ek]; omega) hI hd hz c3 hB hE h9
    refine t.toC.up (fun z d g => ?_)
    obtain ⟨g1, g2⟩ := g
    obtain ⟨u1, u2, u3, u4, u5⟩ := g1.ru
    have e26 := (t.1).2.1
    refine ⟨⟨false, end_t hT g1, u1, u2, u4, fun j _ => by rw [u3], fun _ => by rw [u3, hm]; exact h174.symm, fun w => by cases w⟩, ⟨fun w => absurd w n8, fun _ => u5⟩, ⟨fun w => absurd w n8, fun _ => ⟨h174, ?_⟩, ⟨by rw [h174]; exact Int.le_refl _, by rw [h174]; exact e26⟩, g2.2⟩, g1.2.2⟩
    rw [h174]
    exact ty_1 (σ := σ) h26 g2
  · have l8 : σ.1 23 < 8 := by omega
    rw [if_pos l8] at hk
    by_cases k2 : k < 2
    · have ek := (cuI_s (s := σ.1 23) l8 hk).1 k2
      rw [ek, if_neg (by omega), if_pos l8] at c3
      have su := s_su (c := c) (h := 0) (w := 0) hT hn hI (by decide) hK hz (by decide) (Or.inl rfl) c4 ⟨c3, hB, hE, h9⟩
      obtain ⟨sI, s21⟩ := hI.su (T := T) (by decide)
      have f27 : (suF T n σ).1 27 = σ.1 27 := su_o (by decide) (by decide) (by decide) (by decide)
      have f23 : (suF T n σ).1 23 = σ.1 23 := su_o (by decide) (by decide) (by decide) (by decide)
      have eC : clT T n k i (W, (σ, o)) = (if (suF T n σ).1 22 = 0 then
          @ite GWX (tkP T n 10 (suF T n σ)) (Classical.propDecidable _)
            (rwW W 174 i ((suF T n σ).1 26), tesF T n (tkF T n 10 (suF T n σ), o))
            (rwW W 174 i ((suF T n σ).1 26), (tkF T n 10 (suF T n σ), o))
         else (rwW W 174 i ((suF T n σ).1 26), (suF T n σ, o))) := by
        unfold clT
        dsimp only
        rw [if_neg c8, if_pos k2]
      rw [eC]
      generalize suF T n σ = σs at *
      have hps := sI.2.1
      by_cases z : σs.1 22 = 0
      · rw [if_pos z]
        have a174 : ar (rwW W 174 i (σs.1 26)) 174 i = σs.1 26 := by
          rw [ar_s]
          exact fu_eq _ _ _
        refine su.toC.seq (fun y => absurd z y) (fun d g _ => ?_)
        obtain ⟨⟨⟨g1, g2, g3, g4⟩, g5⟩, g6⟩ := g
        have sk : skF T n σs = σs := sk_id hps.1 g4
        have eP : tkP T n 10 σs ↔ stP T n (σs.1 21).toNat 10 := by
          unfold tkP
          rw [sk]
        have l10 : (wd 10).length = 2 := by decide +kernel
        have l1 : LT 1 d 0 σs := g1.2.2.dn (by decide) (Or.inl rfl)
        have es := su.1
        have e26 := es.2.1
        have t1 := ty_1 h26 g6
        by_cases ci : stP T n (σs.1 21).toNat 10
        · rw [if_pos (eP.mpr ci)]
          have eF : tkF T n 10 σs = adF 2 σs := by
            unfold tkF
            rw [sk, if_pos ci, l10]
            rfl
          rw [eF]
          obtain ⟨e, r1, r2, r3, r4, r5, r6, r7, r8, r9, r10⟩ := if_step hT g1.1 g3 g1.2.1 l1 g4 g5 hps.1 ci
          have sn := stP_n ci (by decide) (by omega)
          have aI := ((sI.d0 z).ad (d := 2) (by decide) (by omega)).wk (K' := K) (D' := 0) (by omega) (Int.le_refl _)
          have z2 : (adF 2 σs).1 22 = 0 := by rw [ad_o (by decide)]; exact z
          have b27 : (adF 2 σs).1 27 = σ.1 27 := by rw [ad_o (by decide), f27]
          have b21 : (adF 2 σs).1 21 = σs.1 21 + 2 := ad_e
          have hk21 : σ.1 27 ≤ (adF 2 σs).1 21 := by omega
          have t := s_tes (c := e) (x := (adF 2 σs, o)) hT hn hK (by rw [r6, r7, g2.1, g2.2.1, hi, ek]; omega) aI ⟨by rw [b27]; exact hd.1, by rw [b27]; exact hk21, by rw [b27]; exact hd.2.2⟩ z2 r2 r3 r4 r5
          have fA : FrS σs (adF 2 σs) := FrS.eq rfl (ad_o (by decide)) (ad_o (by decide))
          have r1' : ResC T n d σs (tesF T n (adF 2 σs, o)).1 (fun y => TZc T n e y (tesF T n (adF 2 σs, o)) ∧ TyR (adF 2 σs) (tesF T n (adF 2 σs, o)).1 [] [true]) := ResC.rc r1 ((ResC.one (H := fun y => y = e) fA z2 rfl).seq (fun y => absurd z2 y) (fun y hy _ => by rw [hy]; exact t.toC))
          refine r1'.up (fun zz y gy => ?_)
          obtain ⟨y1, y2⟩ := gy
          obtain ⟨u1, u2, u3, u4, u5⟩ := y1.ru
          have ft := t.1
          have a26 : (adF 2 σs).1 26 = σs.1 26 := ad_o (by decide)
          have a23 : (adF 2 σs).1 23 = σs.1 23 := ad_o (by decide)
          have a28 : (adF 2 σs).1 28 = σs.1 28 := ad_o (by decide)
          have sl2 : slB (adF 2 σs) = slB σ := by unfold slB; rw [a23, f23]
          have t2 := ty_1 (by rw [a26]; exact sI.2.2.2.2.1) y2
          rw [sl2, a26, a23, f23] at t2
          have h26s := sI.2.2.2.2.1
          have le2 := ft.2.1
          rw [a26] at le2
          refine ⟨⟨false, end_t hT y1, by rw [u1, r6, g2.1], by rw [u2, r7, g2.2.1], by rw [u4, r9, g2.2.2.2.1], fun j hj => ?_, fun _ => ?_, fun w => by cases w⟩, ⟨fun _ w => by omega, fun _ => by rw [u5, r10, g2.2.2.2.2.1]⟩, ⟨fun _ _ => ?_, fun w => absurd w c8, ?_, ?_⟩, y1.2.2⟩
          · rw [u3, r8, g2.1, fu_ne _ _ hj, g2.2.2.1]
          · rw [u3, r8, g2.1, fu_eq, a174]
          · rw [a174]
            refine ⟨?_, Or.inr t2⟩
            rw [tyS_e (s := σs.2.1) (m := σs.2.2) _ (fun j a b => ft.2.2 j (Or.inl ?_))]
            · exact t1
            · rw [a26, a23, f23]
              have : slB σ = (300 * σ.1 23).toNat := rfl
              have := hI.1.2.1
              omega
          · rw [a174]
            exact ⟨e26, le2⟩
          · have n1 := g6.2
            have n2 := y2.2
            rw [sl2, a26, a28] at n2
            have e1 : (adF 2 σs).2 = σs.2 := rfl
            rw [e1] at n2
            show nvS (tesF T n (adF 2 σs, o)).1.2.1 (slB σ) ((tesF T n (adF 2 σs, o)).1.1 26).toNat - (tesF T n (adF 2 σs, o)).1.1 28 ≤ _
            omega
        · rw [if_neg (fun y => ci (eP.mp y))]
          have eF : tkF T n 10 σs = σs := by
            unfold tkF
            rw [sk, if_neg ci, ad_0]
          rw [eF]
          refine ResC.one FrS.rf z ⟨⟨true, end_b hT g1.1 g3 g1.2.1 l1 g4 g5 ci, g2.1, g2.2.1, g2.2.2.2.1, fun j _ => by rw [g2.2.2.1], fun w => (by cases w), fun _ => a174⟩, ⟨fun _ w => by omega, fun _ => g2.2.2.2.2.1⟩, ⟨fun _ _ => ?_, fun w => absurd w c8, ?_, g6.2⟩, ?_⟩
          · rw [a174]
            exact ⟨t1, Or.inl rfl⟩
          · rw [a174]
            exact ⟨e26, Int.le_refl _⟩
          · rw [f27]
            exact ⟨hd.1, hd.2.2⟩
      · rw [if_neg z]
        exact su.toC.up (fun w => absurd w z)
    · have ek := (cuI_s (s := σ.1 23) l8 hk).2 (by omega)
      rw [ek, if_pos (by omega)] at c3
      obtain ⟨k', hk'⟩ : ∃ k', k = k' + 2 := ⟨k - 2, by omega⟩
      subst hk'
      rw [Nat.add_sub_cancel] at ek
      have eC : clT T n (k' + 2) i (W, (σ, o)) = (rwW W 172 i (amV T n σ), (amF T n (if k' + 2 = 5 then 1 else 0) (if k' + 2 = 5 ∨ k' + 2 = 6 then 9 else 1000) σ, o)) := by
        unfold clT
        dsimp only
        rw [if_neg c8, if_neg k2]
      rw [eC]
      have a172 : ar (rwW W 172 i (amV T n σ)) 172 i = amV T n σ := by
        rw [ar_s]
        exact fu_eq _ _ _
      have a174 : ar (rwW W 172 i (amV T n σ)) 174 i = σ.1 26 := by rw [ar_n (by decide)]; exact h174
      have t := s_am (c := c) (k := k') hT (by omega) hI hz c3 hB hE (by rw [hi, ek])
      have fo : ∀ j, j ≠ 21 → j ≠ 22 → (amF T n (if k' + 2 = 5 then 1 else 0) (if k' + 2 = 5 ∨ k' + 2 = 6 then 9 else 1000) σ).1 j = σ.1 j := fun j a b => am_o a b
      have f2 : (amF T n (if k' + 2 = 5 then 1 else 0) (if k' + 2 = 5 ∨ k' + 2 = 6 then 9 else 1000) σ).2 = σ.2 := amF_2
      generalize amF T n (if k' + 2 = 5 then 1 else 0) (if k' + 2 = 5 ∨ k' + 2 = 6 then 9 else 1000) σ = τ at *
      have e26 := fo 26 (by decide) (by decide)
      refine t.up (fun z d g => ?_)
      obtain ⟨g1, g2, g3, g4, g5, g6, g7, g8, g9, g10⟩ := g
      refine ⟨⟨false, end_s g1 g2 g3 (by rw [g4]; exact h9) (by rw [g5, g6, hi, ek]; omega), g5, g6, g8, fun j _ => by rw [g7], fun _ => by rw [g7, hm]; exact a174.symm, fun w => by cases w⟩, ⟨fun _ _ => by rw [a172, Nat.add_sub_cancel]; exact ⟨g9, g10⟩, fun w => absurd ⟨l8, by omega⟩ w⟩, ⟨fun _ w => absurd w k2, fun w => absurd w c8, ?_, ?_⟩, ?_⟩
      · show σ.1 26 ≤ ar (rwW W 172 i (amV T n σ)) 174 i ∧ ar (rwW W 172 i (amV T n σ)) 174 i ≤ τ.1 26
        rw [a174, e26]
        omega
      · show nvS τ.2.1 (slB σ) (τ.1 26).toNat - τ.1 28 ≤ _
        rw [e26, f2, fo 28 (by decide) (by decide)]
        exact Int.le_refl _
      · show 0 ≤ τ.1 27 ∧ τ.1 27 ≤ 10
        rw [fo 27 (by decide) (by decide)]
        exact ⟨hd.1, hd.2.2⟩
end CLT
