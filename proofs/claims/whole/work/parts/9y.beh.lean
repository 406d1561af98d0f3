-- THE CLASS BEHIND A LAW, A WANT
section BEH
variable {W V : AW} {s : ST} {c d e : CR} {k cc : Int} {lw : LW} {w : WN} {r j : Nat}
theorem CS.rx (hC : CS W) : CS (RX W c) := cu_126 (cu_125 (cu_124 (cu_123 (cu_122 (cu_121 (cu_120 (cu_119 hC)))))))
theorem CH.rx (hH : CH W) : CH (RX W c) := by
  have h1 := hH.cu (cu_119 (g := c.1) hH.1) (by decide) (by decide) (by decide)
  have h2 := h1.cu (cu_120 (f := c.2.2.1) h1.1) (by decide) (by decide) (by decide)
  have h3 := h2.cu (cu_121 (f := c.2.2.2.1) h2.1) (by decide) (by decide) (by decide)
  have h4 := h3.cu (cu_122 (f := c.2.2.2.2.1) h3.1) (by decide) (by decide) (by decide)
  have h5 := h4.cu (cu_123 (f := c.2.2.2.2.2.1) h4.1) (by decide) (by decide) (by decide)
  have h6 := h5.cu (cu_124 (f := c.2.2.2.2.2.2.1) h5.1) (by decide) (by decide) (by decide)
  have h7 := h6.cu (cu_125 (f := c.2.2.2.2.2.2.2) h6.1) (by decide) (by decide) (by decide)
  exact h7.cu (cu_126 (g := c.2.1) h7.1) (by decide) (by decide) (by decide)
theorem CH.bdw (hH : CH W) : CH (bdW W e) := hH.rx.cu (cu_67 hH.rx.1) (by decide) (by decide) (by decide)
theorem CC.bdw (hC : CC W s) : CC (bdW W e) (sF s, fu (sN s) 2 0, sT s, s.2.2.2) := by
  have o : ∀ k, k ≠ 67 → (k < 119 ∨ 126 < k) → (bdW W e).2 k = W.2 k := fun k a b => (wu_ne a).trans (RX_o b)
  have nu := hC.nu
  refine hC.num (Nat.le_refl _) (fun k p a b => o k a (by unfold ck at p; omega)) (fun k p q => o k (by omega) (by omega)) (fu_ne _ _ (by decide)) (fu_ne _ _ (by decide)) ⟨?_, ?_, ?_, ?_⟩ ?_
  · rw [b11_14, fu_ne _ _ (by decide), fu_ne _ _ (by decide)]; exact nu.1
  · rw [b11_15, fu_ne _ _ (by decide), fu_ne _ _ (by decide)]; exact nu.2.1
  · rw [b11_16, fu_eq, fu_eq]
  · rw [b11_17, fu_ne _ _ (by decide), fu_ne _ _ (by decide)]; exact nu.2.2.2
  · rw [ar_c (o 118 (by decide) (by decide))]; exact hC.2.2.2.1
/-- what the world behind a rule holds -/
def Gd (W Z : AW) (r j : Nat) (k : Int) : Prop := Z.1 = W.1 + 6 ∧ (∀ x, x < W.1 → x ≠ 67 → x ≠ r → (x < 119 ∨ 126 < x) → Z.2 x = W.2 x) ∧ Z.2 67 = o11 (fu (fu (ob W 67) 16 0) j (k + 1)) ∧ Z.2 r = er 6 8 (fu (rr W r) k.toNat (some W.1)) ∧ CS Z ∧ Z.2 W.1 = o6 (W.1 + 1) (W.1 + 2) (W.1 + 3) (W.1 + 4) (W.1 + 5)
theorem Mk.gd (hC : CS W) (hM : Mk W V d) (hr : r = 116 ∨ r = 117) : Gd W (gdW W V r j k) r j k ∧ ∀ i, (gdW W V r j k).2 (W.1 + i) = V.2 (W.1 + i) := by
  obtain ⟨m1, m2, m3, -⟩ := hM
  have hw : 192 ≤ W.1 := hC.1
  have cv : CS V := (hC.rx (c := stW d 6)).cg (by show W.1 ≤ V.1; omega) (fun x q => m2 x (by have := cown_b x q; omega))
  have c2 : CS (wu V 67 (o11 (fu (fu (ob W 67) 16 0) j (k + 1)))) := cu_67 cv
  refine ⟨⟨m1, fun x a b e q => ?_, ?_, wu_s, ?_, ?_⟩, fun i => ?_⟩
  · rw [wu_ne e, wu_ne b, m2 x a]
    exact RX_o q
  · rw [wu_ne (by omega), wu_s]
  · refine c2.cg (Nat.le_refl _) (fun x q => wu_ne ?_)
    have := (show ∀ x ∈ cown, x ≠ 116 ∧ x ≠ 117 by decide) x q
    omega
  · rw [wu_ne (by omega), wu_ne (by omega)]
    exact m3
  · rw [wu_ne (by omega), wu_ne (by omega)]
theorem CH.gdw {Z : AW} (hH : CH W) (h : Gd W Z r j k) (hr : r = 116 ∨ r = 117) : CH Z := by
  obtain ⟨z1, z2, z3, z4, z5, z6⟩ := h
  have hw : 192 ≤ W.1 := hH.1.1
  obtain ⟨a1, a2, a3, ⟨mm, l0, a4⟩, a5, a6, a7, a8⟩ := hH
  have zz : ∀ x, x ≠ 67 → x ≠ r → (x < 119 ∨ (126 < x ∧ x < 192)) → Z.2 x = W.2 x := fun x a b q => z2 x (by omega) a b (by omega)
  refine ⟨z5, a2.cg (fun j q => zz _ (by omega) (by omega) (by omega)), a3.cg (fun j q => zz _ (by omega) (by omega) (by omega)), ⟨mm, l0, by rw [ob_c (zz 130 (by omega) (by omega) (by omega)), zz 130 (by omega) (by omega) (by omega)]; exact a4⟩, by rw [rr_c (zz 114 (by omega) (by omega) (by omega)), zz 114 (by omega) (by omega) (by omega)]; exact a5, by rw [rr_c (zz 115 (by omega) (by omega) (by omega)), zz 115 (by omega) (by omega) (by omega)]; exact a6, ?_, ?_⟩
  · rcases hr with rfl | rfl
    · rw [rr_er z4]; exact z4
    · rw [rr_c (zz 116 (by omega) (by omega) (by omega)), zz 116 (by omega) (by omega) (by omega)]; exact a7
  · rcases hr with rfl | rfl
    · rw [rr_c (zz 117 (by omega) (by omega) (by omega)), zz 117 (by omega) (by omega) (by omega)]; exact a8
    · rw [rr_er z4]; exact z4
/-- the owners of old cells stay -/
theorem OwC.ex {Z : AW} {ow ow2 : Nat → Nat} (h : OwC W s ow) (hw : W.1 ≤ Z.1) (hr : ∀ k, k = 114 ∨ k = 115 → Z.2 k = W.2 k) (hn : ∀ k, 192 ≤ k → k < W.1 → Z.2 k = W.2 k) (ho : ∀ x, x < W.1 → ow2 x = ow x) : (∀ k : Nat, (k : Int) < sN s 0 → ∃ ll, rr W 116 k = some ll ∧ LawC Z ll (sL s k) ∧ ROw Z ll ow2 k) ∧ (∀ k : Nat, (k : Int) < sN s 1 → ∃ ll, rr W 117 k = some ll ∧ WantC Z ll (sW s k) ∧ ROw Z ll ow2 (8 + k)) ∧ (∀ k, k < 4 → ImC Z ow2 (rr Z 114 k) (rr Z 115 k) k (sI s k)) := by
  obtain ⟨b5, b6, b7⟩ := h
  refine ⟨fun j q => ?_, fun j q => ?_, fun j q => ?_⟩
  · obtain ⟨ll, c1, c2, c3⟩ := b5 j q
    have hb := c2.bd
    have e : Z.2 ll = W.2 ll := by
      obtain ⟨xa, xb, xc, xe, xf, st, d1, d2, -⟩ := id c2
      exact hn ll d1 d2
    refine ⟨ll, c1, c2.cg hw hn, fun ca cb cc ce cf e2 x hx => ?_⟩
    rw [e] at e2
    rw [ho x (hb ca cb cc ce cf e2 x hx).2]
    exact c3 ca cb cc ce cf e2 x hx
  · obtain ⟨ll, c1, c2, c3⟩ := b6 j q
    have hb := c2.bd
    have e : Z.2 ll = W.2 ll := by
      obtain ⟨xa, xb, xc, xe, xf, kd, md, en, d1, -⟩ := id c2
      exact hn ll d1.1 d1.2
    refine ⟨ll, c1, c2.cg hw hn, fun ca cb cc ce cf e2 x hx => ?_⟩
    rw [e] at e2
    rw [ho x (hb ca cb cc ce cf e2 x hx).2]
    exact c3 ca cb cc ce cf e2 x hx
  · rw [rr_c (hr 114 (Or.inl rfl)), rr_c (hr 115 (Or.inr rfl))]
    exact ((b7 j q).ow (fun x hx => ho x hx)).cg hw (fun x p q _ => hn x p q)
theorem CC.gdl {Z : AW} (hC : CC W s) (h : Gd W Z 116 14 k) (hw : 192 ≤ W.1) (hk : 0 ≤ k) (hs : sN s 0 = k) (hL : LawC Z W.1 lw) : CC Z (sF s, fu (fu (sN s) 2 0) 0 (k + 1), sT s, fu (sL s) k.toNat lw, sW s, sI s) := by
  obtain ⟨z1, z2, z3, z4, z5, z6⟩ := h
  obtain ⟨b1, b2, b3, b4, ow, b5⟩ := hC
  have zz : ∀ x, x ≠ 67 → x ≠ 116 → (x < 119 ∨ (126 < x ∧ x < 192)) → Z.2 x = W.2 x := fun x a b q => z2 x (by omega) a b (by omega)
  have zm : ∀ j, j ≤ 16 → Z.2 (76 + j) = W.2 (76 + j) := fun j q => zz _ (by omega) (by omega) (by omega)
  have z67 : ob Z 67 = ob (wu Z 67 (o11 (fu (fu (ob W 67) 16 0) 14 (k + 1)))) 67 := by rw [wu_id z3]
  obtain ⟨o1, o2, o3⟩ := b5.ex (Z := Z) (ow2 := fun x => if x < W.1 then ow x else k.toNat) (by omega) (fun x q => zz x (by omega) (by omega) (by omega)) (fun x p q => z2 x q (by omega) (by omega) (by omega)) (fun x q => if_pos q)
  refine ⟨?_, b2.cg zm, ⟨?_, ?_, ?_, ?_⟩, by rw [ar_c (zz 118 (by omega) (by omega) (by omega))]; exact b4, _, fun i hi => ?_, fun i hi => ?_, o3⟩
  · rw [cN_c zm (fun j q => zz _ (by omega) (by omega) (by omega))]; exact b1
  · rw [z67, b11_14, fu_eq]; exact (fu_eq (fu (sN s) 2 0) 0 (k + 1)).symm
  · rw [z67, b11_15, fu_ne _ _ (by decide), fu_ne _ _ (by decide)]
    show _ = fu (fu (sN s) 2 0) 0 (k + 1) 1
    rw [fu_ne _ _ (by decide), fu_ne _ _ (by decide)]; exact b3.2.1
  · rw [z67, b11_16, fu_ne _ _ (by decide), fu_eq]
    show _ = fu (fu (sN s) 2 0) 0 (k + 1) 2
    rw [fu_ne _ _ (by decide), fu_eq]
  · rw [z67, b11_17, fu_ne _ _ (by decide), fu_ne _ _ (by decide)]
    show _ = fu (fu (sN s) 2 0) 0 (k + 1) 3
    rw [fu_ne _ _ (by decide), fu_ne _ _ (by decide)]; exact b3.2.2.2
  · have hi : (i : Int) < fu (fu (sN s) 2 0) 0 (k + 1) 0 := hi
    rw [fu_eq] at hi
    rw [rr_er z4]
    show ∃ ll, fu (rr W 116) k.toNat (some W.1) i = some ll ∧ LawC Z ll (fu (sL s) k.toNat lw i) ∧ _
    by_cases c1 : i = k.toNat
    · subst c1
      rw [fu_eq, fu_eq]
      refine ⟨W.1, rfl, hL, fun ca cb cc ce cf e2 x hx => if_neg ?_⟩
      have := o6_inj (z6.symm.trans e2)
      omega
    · rw [fu_ne _ _ c1, fu_ne _ _ c1]
      exact o1 i (by omega)
  · have hi : (i : Int) < fu (fu (sN s) 2 0) 0 (k + 1) 1 := hi
    rw [fu_ne _ _ (by decide), fu_ne _ _ (by decide)] at hi
    rw [rr_c (zz 117 (by omega) (by omega) (by omega))]
    exact o2 i hi
theorem CC.gdv {Z : AW} (hC : CC W s) (h : Gd W Z 117 15 k) (hw : 192 ≤ W.1) (hk : 0 ≤ k) (hs : sN s 1 = k) (hL : WantC Z W.1 w) : CC Z (sF s, fu (fu (sN s) 2 0) 1 (k + 1), sT s, sL s, fu (sW s) k.toNat w, sI s) := by
  obtain ⟨z1, z2, z3, z4, z5, z6⟩ := h
  obtain ⟨b1, b2, b3, b4, ow, b5⟩ := hC
  have zz : ∀ x, x ≠ 67 → x ≠ 117 → (x < 119 ∨ (126 < x ∧ x < 192)) → Z.2 x = W.2 x := fun x a b q => z2 x (by omega) a b (by omega)
  have zm : ∀ j, j ≤ 16 → Z.2 (76 + j) = W.2 (76 + j) := fun j q => zz _ (by omega) (by omega) (by omega)
  have z67 : ob Z 67 = ob (wu Z 67 (o11 (fu (fu (ob W 67) 16 0) 15 (k + 1)))) 67 := by rw [wu_id z3]
  obtain ⟨o1, o2, o3⟩ := b5.ex (Z := Z) (ow2 := fun x => if x < W.1 then ow x else 8 + k.toNat) (by omega) (fun x q => zz x (by omega) (by omega) (by omega)) (fun x p q => z2 x q (by omega) (by omega) (by omega)) (fun x q => if_pos q)
  refine ⟨?_, b2.cg zm, ⟨?_, ?_, ?_, ?_⟩, by rw [ar_c (zz 118 (by omega) (by omega) (by omega))]; exact b4, _, fun i hi => ?_, fun i hi => ?_, o3⟩
  · rw [cN_c zm (fun j q => zz _ (by omega) (by omega) (by omega))]; exact b1
  · rw [z67, b11_14, fu_ne _ _ (by decide), fu_ne _ _ (by decide)]
    show _ = fu (fu (sN s) 2 0) 1 (k + 1) 0
    rw [fu_ne _ _ (by decide), fu_ne _ _ (by decide)]; exact b3.1
  · rw [z67, b11_15, fu_eq]; exact (fu_eq (fu (sN s) 2 0) 1 (k + 1)).symm
  · rw [z67, b11_16, fu_ne _ _ (by decide), fu_eq]
    show _ = fu (fu (sN s) 2 0) 1 (k + 1) 2
    rw [fu_ne _ _ (by decide), fu_eq]
  · rw [z67, b11_17, fu_ne _ _ (by decide), fu_ne _ _ (by decide)]
    show _ = fu (fu (sN s) 2 0) 1 (k + 1) 3
    rw [fu_ne _ _ (by decide), fu_ne _ _ (by decide)]; exact b3.2.2.2
  · have hi : (i : Int) < fu (fu (sN s) 2 0) 1 (k + 1) 0 := hi
    rw [fu_ne _ _ (by decide), fu_ne _ _ (by decide)] at hi
    rw [rr_c (zz 116 (by omega) (by omega) (by omega))]
    exact o1 i hi
  · have hi : (i : Int) < fu (fu (sN s) 2 0) 1 (k + 1) 1 := hi
    rw [fu_eq] at hi
    rw [rr_er z4]
    show ∃ ll, fu (rr W 117) k.toNat (some W.1) i = some ll ∧ WantC Z ll (fu (sW s) k.toNat w i) ∧ _
    by_cases c1 : i = k.toNat
    · subst c1
      rw [fu_eq, fu_eq]
      refine ⟨W.1, rfl, hL, fun ca cb cc ce cf e2 x hx => if_neg ?_⟩
      have := o6_inj (z6.symm.trans e2)
      omega
    · rw [fu_ne _ _ c1, fu_ne _ _ c1]
      exact o2 i (by omega)
end BEH
