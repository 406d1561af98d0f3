-- FLOORS THAT ARE ALIKE: all that counts is the same
def Sq (σ τ : SG) : Prop := (σ 0 0 = τ 0 0 ∧ σ 0 1 = τ 0 1 ∧ σ 0 2 = τ 0 2 ∧ σ 0 3 = τ 0 3 ∧ σ 0 4 = τ 0 4 ∧ σ 0 5 = τ 0 5 ∧ σ 0 7 = τ 0 7) ∧ (σ 1 = τ 1 ∧ σ 2 = τ 2 ∧ σ 3 = τ 3 ∧ σ 4 = τ 4 ∧ σ 5 = τ 5 ∧ σ 6 = τ 6 ∧ σ 7 = τ 7 ∧ σ 8 = τ 8) ∧ (∀ t : Nat, (t : Int) < σ 0 5 → σ 9 t = τ 9 t ∧ σ 10 t = τ 10 t ∧ σ 11 t = τ 11 t) ∧ (∀ t : Nat, (t : Int) < 2 * σ 0 5 → σ 12 t = τ 12 t ∧ σ 13 t = τ 13 t ∧ σ 14 t = τ 14 t)
section SQ
variable {σ τ : SG} {lw : LW}
theorem Sq.rf : Sq σ σ := ⟨⟨rfl, rfl, rfl, rfl, rfl, rfl, rfl⟩, ⟨rfl, rfl, rfl, rfl, rfl, rfl, rfl, rfl⟩, fun _ _ => ⟨rfl, rfl, rfl⟩, fun _ _ => ⟨rfl, rfl, rfl⟩⟩
theorem Sq.sy (h : Sq σ τ) : Sq τ σ := by
  obtain ⟨⟨a0, a1, a2, a3, a4, a5, a7⟩, ⟨b1, b2, b3, b4, b5, b6, b7, b8⟩, c, d⟩ := h
  exact ⟨⟨a0.symm, a1.symm, a2.symm, a3.symm, a4.symm, a5.symm, a7.symm⟩, ⟨b1.symm, b2.symm, b3.symm, b4.symm, b5.symm, b6.symm, b7.symm, b8.symm⟩, fun t q => by have := c t (by omega); exact ⟨this.1.symm, this.2.1.symm, this.2.2.symm⟩, fun t q => by have := d t (by omega); exact ⟨this.1.symm, this.2.1.symm, this.2.2.symm⟩⟩
theorem Sq.tr {ρ : SG} (h : Sq σ τ) (g : Sq τ ρ) : Sq σ ρ := by
  obtain ⟨⟨a0, a1, a2, a3, a4, a5, a7⟩, ⟨b1, b2, b3, b4, b5, b6, b7, b8⟩, c, d⟩ := h
  obtain ⟨⟨e0, e1, e2, e3, e4, e5, e7⟩, ⟨f1, f2, f3, f4, f5, f6, f7, f8⟩, k, l⟩ := g
  exact ⟨⟨a0.trans e0, a1.trans e1, a2.trans e2, a3.trans e3, a4.trans e4, a5.trans e5, a7.trans e7⟩, ⟨b1.trans f1, b2.trans f2, b3.trans f3, b4.trans f4, b5.trans f5, b6.trans f6, b7.trans f7, b8.trans f8⟩, fun t q => by
    have x := c t q
    have y := k t (by omega)
    exact ⟨x.1.trans y.1, x.2.1.trans y.2.1, x.2.2.trans y.2.2⟩, fun t q => by
    have x := d t q
    have y := l t (by omega)
    exact ⟨x.1.trans y.1, x.2.1.trans y.2.1, x.2.2.trans y.2.2⟩⟩
theorem Sq.pu (h : Sq σ τ) : sPu lw σ = sPu lw τ := by
  funext e
  unfold sPu
  rw [h.2.1.1, h.2.1.2.2.2.2.2.1]
theorem Sq.ho (h : Sq σ τ) : sHo lw σ = sHo lw τ := by
  obtain ⟨⟨a0, a1, a2, a3, a4, a5, a7⟩, ⟨b1, b2, b3, b4, b5, b6, b7, b8⟩, -, -⟩ := h
  funext e
  unfold sHo
  rw [a4, b1, b2, b3, b4, b5, b8]
theorem Sq.q_dry {hh : Int} (h : Sq σ τ) : Sq (dryS lw hh σ) (dryS lw hh τ) := by
  obtain ⟨⟨a0, a1, a2, a3, a4, a5, a7⟩, ⟨b1, b2, b3, b4, b5, b6, b7, b8⟩, c, d⟩ := h
  refine ⟨⟨a0, a1, a2, a3, a4, a5, a7⟩, ⟨?_, b2, b3, b4, b5, b6, b7, b8⟩, c, d⟩
  show sqC (dry lw (σ 0 4) hh (σ 1) (σ 2) (σ 3)) (100 * (σ 0 0 - 1).toNat) = sqC (dry lw (τ 0 4) hh (τ 1) (τ 2) (τ 3)) (100 * (τ 0 0 - 1).toNat)
  rw [a0, a4, b1, b2, b3]
theorem Sq.q_goW {tip : Nat} {b : Int} (h : Sq σ τ) (ht : (tip : Int) < 2 * σ 0 5) : Sq (goW σ tip b) (goW τ tip b) := by
  obtain ⟨⟨a0, a1, a2, a3, a4, a5, a7⟩, ⟨b1, b2, b3, b4, b5, b6, b7, b8⟩, c, d⟩ := h
  obtain ⟨d12, d13, d14⟩ := d tip ht
  have c11 := (c (tip / 2) (by omega)).2.2
  refine ⟨⟨a0, a1, a2, a3, a4, a5, a7⟩, ⟨b1, b2, b3, b4, b5, ?_, ?_, ?_⟩, fun t q => ⟨(c t q).1, (c t q).2.1, ?_⟩, fun t q => ⟨?_, ?_, ?_⟩⟩
  · show fu (σ 6) (eef (σ 13 tip) b).toNat _ = fu (τ 6) (eef (τ 13 tip) b).toNat _
    rw [b6, d13]
  · show fu (σ 7) (eef (σ 13 tip) b).toNat _ = fu (τ 7) (eef (τ 13 tip) b).toNat _
    rw [b7, d13]
  · show fu (σ 8) (eef (σ 13 tip) b).toNat _ = fu (τ 8) (eef (τ 13 tip) b).toNat _
    rw [b8, d13]
  · show fu (σ 11) (tip / 2) (σ 11 (tip / 2) + if b = σ 14 tip then 0 else 1) t = fu (τ 11) (tip / 2) (τ 11 (tip / 2) + if b = τ 14 tip then 0 else 1) t
    have := (c t q).2.2
    rw [c11, d14]
    unfold fu
    rw [this]
  · show fu (σ 12) tip (eAt (fu (σ 6) (eef (σ 13 tip) b).toNat ((tip / 2 : Nat) : Int)) (enf (σ 13 tip) b) (eef (σ 13 tip) b)) t = fu (τ 12) tip (eAt (fu (τ 6) (eef (τ 13 tip) b).toNat ((tip / 2 : Nat) : Int)) (enf (τ 13 tip) b) (eef (τ 13 tip) b)) t
    have := (d t q).1
    rw [b6, d13]
    unfold fu at this ⊢
    rw [this]
  · show fu (σ 13) tip (enf (σ 13 tip) b) t = fu (τ 13) tip (enf (τ 13 tip) b) t
    have := (d t q).2.1
    rw [d13]
    unfold fu
    rw [this]
  · show fu (σ 14) tip b t = fu (τ 14) tip b t
    have := (d t q).2.2
    unfold fu
    rw [this]
theorem Sq.q_goB {tip : Nat} (h : Sq σ τ) (ht : (tip : Int) < 2 * σ 0 5) : goB lw σ tip = goB lw τ tip := by
  have d := h.2.2.2 tip ht
  show (chs (sPu lw σ) (sHo lw σ) (σ 6) (lw.2 2) (σ 13 tip) (σ 14 tip) 3).1 = (chs (sPu lw τ) (sHo lw τ) (τ 6) (lw.2 2) (τ 13 tip) (τ 14 tip) 3).1
  rw [h.pu, h.ho, h.2.1.2.2.2.2.2.1, d.2.1, d.2.2]
theorem Sq.gn {tip : Nat} (h : Sq σ τ) (ht : (tip : Int) < 2 * σ 0 5) : Sq (gnS lw σ tip) (gnS lw τ tip) := by
  unfold gnS
  rw [(h.2.2.2 tip ht).1, h.q_goB (lw := lw) ht]
  split
  · split
    · exact h
    · exact h.q_goW ht
  · exact h
theorem Sq.q_goN (h : Sq σ τ) : ∀ n : Nat, (n : Int) ≤ 2 * σ 0 5 → Sq (goN lw σ n) (goN lw τ n)
  | 0, _ => h
  | n + 1, hn => (Sq.q_goN h n (by omega)).gn (by rw [goN_0]; omega)
theorem Sq.q_neB (h : Sq σ τ) : neB lw σ = neB lw τ := by
  show (nws (sPu lw σ) (sHo lw σ) (σ 6) 180).1 = (nws (sPu lw τ) (sHo lw τ) (τ 6) 180).1
  rw [h.pu, h.ho, h.2.1.2.2.2.2.2.1]
theorem Sq.q_neW {e : Int} (h : Sq σ τ) (h5 : 0 ≤ σ 0 5) : Sq (neW σ e) (neW τ e) := by
  obtain ⟨⟨a0, a1, a2, a3, a4, a5, a7⟩, ⟨b1, b2, b3, b4, b5, b6, b7, b8⟩, c, d⟩ := h
  have e5 : neW σ e 0 5 = σ 0 5 + 1 := rfl
  refine ⟨⟨a0, a1, a2, a3, a4, ?_, a7⟩, ⟨b1, b2, b3, b4, b5, ?_, ?_, ?_⟩, fun t q => ?_, fun t q => ?_⟩
  · show σ 0 5 + 1 = τ 0 5 + 1
    rw [a5]
  · show fu (σ 6) e.toNat (σ 0 5) = fu (τ 6) e.toNat (τ 0 5)
    rw [b6, a5]
  · show fu (σ 7) e.toNat 1 = fu (τ 7) e.toNat 1
    rw [b7]
  · show fu (σ 8) e.toNat 0 = fu (τ 8) e.toNat 0
    rw [b8]
  · rw [e5] at q
    refine ⟨?_, ?_, ?_⟩
    · show fu (σ 9) (σ 0 5).toNat e t = fu (τ 9) (τ 0 5).toNat e t
      rw [← a5]
      unfold fu
      split
      · rfl
      · exact (c t (by omega)).1
    · show fu (σ 10) (σ 0 5).toNat (σ 0 4) t = fu (τ 10) (τ 0 5).toNat (τ 0 4) t
      rw [← a5, ← a4]
      unfold fu
      split
      · rfl
      · exact (c t (by omega)).2.1
    · show fu (σ 11) (σ 0 5).toNat 0 t = fu (τ 11) (τ 0 5).toNat 0 t
      rw [← a5]
      unfold fu
      split
      · rfl
      · exact (c t (by omega)).2.2
  · rw [e5] at q
    refine ⟨?_, ?_, ?_⟩
    · show fu (fu (σ 12) (2 * (σ 0 5).toNat) (eAt (fu (σ 6) e.toNat (σ 0 5)) (efn e) e)) (2 * (σ 0 5).toNat + 1) (eAt (fu (σ 6) e.toNat (σ 0 5)) (etn e) e) t = fu (fu (τ 12) (2 * (τ 0 5).toNat) (eAt (fu (τ 6) e.toNat (τ 0 5)) (efn e) e)) (2 * (τ 0 5).toNat + 1) (eAt (fu (τ 6) e.toNat (τ 0 5)) (etn e) e) t
      rw [← a5, ← b6]
      generalize eAt (fu (σ 6) e.toNat (σ 0 5)) (efn e) e = y1
      generalize eAt (fu (σ 6) e.toNat (σ 0 5)) (etn e) e = y2
      unfold fu
      split
      · rfl
      · split
        · rfl
        · exact (d t (by omega)).1
    · show fu (fu (σ 13) (2 * (σ 0 5).toNat) (efn e)) (2 * (σ 0 5).toNat + 1) (etn e) t = fu (fu (τ 13) (2 * (τ 0 5).toNat) (efn e)) (2 * (τ 0 5).toNat + 1) (etn e) t
      rw [← a5]
      unfold fu
      split
      · rfl
      · split
        · rfl
        · exact (d t (by omega)).2.1
    · show fu (fu (σ 14) (2 * (σ 0 5).toNat) (if e < 90 then 0 else 3)) (2 * (σ 0 5).toNat + 1) (if e < 90 then 2 else 1) t = fu (fu (τ 14) (2 * (τ 0 5).toNat) (if e < 90 then 0 else 3)) (2 * (τ 0 5).toNat + 1) (if e < 90 then 2 else 1) t
      rw [← a5]
      generalize (if e < 90 then (0 : Int) else 3) = y1
      generalize (if e < 90 then (2 : Int) else 1) = y2
      unfold fu
      split
      · rfl
      · split
        · rfl
        · exact (d t (by omega)).2.2
theorem Sq.q_neS : ∀ (k : Nat) {σ τ : SG}, Sq σ τ → 0 ≤ σ 0 5 → Sq (neS lw k σ) (neS lw k τ)
  | 0, _, _, h, _ => h
  | k + 1, σ, τ, h, h5 => by
    have e5 : neW σ (neB lw σ) 0 5 = σ 0 5 + 1 := rfl
    have hq := Sq.q_neS k (h.q_neW (e := neB lw σ) h5) (by rw [e5]; omega)
    unfold neS
    rw [← h.1.2.2.2.2.2.1, ← h.q_neB (lw := lw)]
    split
    · exact hq
    · exact h
theorem Sq.sn (h : Sq σ τ) : Sq (snS lw σ) (snS lw τ) := by
  obtain ⟨⟨a0, a1, a2, a3, a4, a5, a7⟩, ⟨b1, b2, b3, b4, b5, b6, b7, b8⟩, c, d⟩ := h
  refine ⟨⟨a0, a1, a2, a3, a4, a5, a7⟩, ⟨b1, b2, b3, b4, b5, b6, ?_, b8⟩, c, d⟩
  have e : snF σ (lw.2 7) = snF τ (lw.2 7) := by
    funext x
    unfold snF
    rw [b6, b7, b1, a0]
  show tlo (σ 7) (snF σ (lw.2 7)) 180 = tlo (τ 7) (snF τ (lw.2 7)) 180
  rw [e, b7]
theorem Sq.tk (h : Sq σ τ) : Sq (tkS σ) (tkS τ) := by
  obtain ⟨⟨a0, a1, a2, a3, a4, a5, a7⟩, b, c, d⟩ := h
  refine ⟨⟨a0, a1, a2, a3, ?_, a5, a7⟩, b, c, d⟩
  show σ 0 4 + 1 = τ 0 4 + 1
  rw [a4]
theorem Sq.tick {hh : Int} (h : Sq σ τ) (h5 : 0 ≤ σ 0 5) : Sq (tickS lw hh σ) (tickS lw hh τ) := by
  have e5 := h.1.2.2.2.2.2.1
  have g1 := h.q_dry (lw := lw) (hh := hh)
  have g2 := g1.q_goN (lw := lw) (2 * (σ 0 5).toNat) (by show ((2 * (σ 0 5).toNat : Nat) : Int) ≤ 2 * σ 0 5; omega)
  have g3 := Sq.q_neS (lw := lw) (lw.2 6).toNat g2 (by rw [goN_0]; exact h5)
  have g4 := (g3.sn (lw := lw)).tk
  unfold tickS
  rw [← e5]
  exact g4
theorem Sq.q_tkN {hh : Int} (h : Sq σ τ) (hI : FI 0 σ) (h0 : 0 ≤ hh) (h1 : hh ≤ 100) : ∀ n : Nat, σ 0 4 + n ≤ 100000 → Sq (tkN lw hh n σ) (tkN lw hh n τ) ∧ FI 0 (tkN lw hh n σ) ∧ tkN lw hh n σ 0 4 = σ 0 4 + n
  | 0, _ => ⟨h, hI, by show σ 0 4 = σ 0 4 + ((0 : Nat) : Int); omega⟩
  | n + 1, hn => by
    obtain ⟨i1, i2, i3⟩ := Sq.q_tkN h hI h0 h1 n (by omega)
    have fT := i2.tick (lw := lw) h0 h1 (by omega)
    refine ⟨i1.tick (by have := i2.2.2.1; omega), fT.1, ?_⟩
    show tickS lw hh (tkN lw hh n σ) 0 4 = _
    rw [fT.2, i3]
    omega
theorem FI.sq {i : Int} (hI : FI i σ) (h : Sq σ τ) : FI i τ := by
  obtain ⟨⟨a0, a1, a2, a3, a4, a5, a7⟩, ⟨b1, b2, b3, b4, b5, b6, b7, b8⟩, c, d⟩ := h
  obtain ⟨h1, h2, h3, h4, h5, h6, h7, h8, h9, h10, h11, h12⟩ := hI
  refine ⟨a0 ▸ h1, a4 ▸ h2, a5 ▸ h3, b1 ▸ h4, b2 ▸ h5, b3 ▸ h6, b4 ▸ h7, b5 ▸ h8, ?_, b8 ▸ h10, fun t q => ?_, fun t q => ?_⟩
  · rw [← b6, ← b7, ← a5]; exact h9
  · rw [← a5] at q
    rw [← (c t q).2.2, ← a4]
    exact h11 t q
  · rw [← a5] at q
    have := d t q
    rw [← this.1, ← this.2.1, ← this.2.2, ← a5]
    exact h12 t q
end SQ
