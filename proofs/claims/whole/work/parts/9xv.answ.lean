-- THE REFERENCE'S ANSWER, AND ITS WORLD BEHIND
section RFA
variable {T : Nat → Int} {n N : Nat} {W : AW} {s : ST} {Q : AQ} {sl K cc : Int} {c d : CR} {x : GT} {j k M : Nat} {lw : LW} {w : WN}
noncomputable abbrev tZ (s : ST) (W : AW) (sl : Int) : Int := (tY (sT s) (sN s 2).toNat W sl).2.2.1.1 22
noncomputable abbrev tV (s : ST) (W : AW) (sl : Int) (j : Nat) : AW := tWo (sT s) (sN s 2).toNat W sl j
abbrev xW (W : AW) : GT := ((ob W 148, ar W 168, ar W 169), ar W 176)
theorem y_lawT (hR : KR W s) (hT : ∀ i, -128 ≤ sT s i ∧ sT s i < 128) (h2 : 0 ≤ sN s 2 ∧ sN s 2 ≤ 400) (h0 : 0 ≤ sN s 0 ∧ sN s 0 < 8) (hb : 0 ≤ tZ s W (sN s 0) ∧ tZ s W (sN s 0) ≤ 100000) (hQ : Q (some (vi (if tZ s W (sN s 0) = 0 then sN s 0 else -2 - tZ s W (sN s 0)))) (tV s W (sN s 0) 24)) : Gm 196 [vr 148] W Q := by
  have e24 : ob W 148 24 = sN s 0 := hR.2.2.2.1.1
  have e20 : ob W 148 20 = (((sN s 2).toNat : Nat) : Int) := by rw [hR.2.2.2.1.2.2.1]; omega
  have el : lwY (sT s) (sN s 2).toNat (W, xW W) = rdZ (tY (sT s) (sN s 2).toNat W (sN s 0)) := by
    rw [← e24]
    exact lwY_t
  have ez : (lwY (sT s) (sN s 2).toNat (W, xW W)).2.1.1 22 = tZ s W (sN s 0) := by
    rw [el]
    exact fu_ne (k := 20) (j := 22) _ (0 : Int) (by decide)
  have y := y_law (Q := Q) (x := xW W) (hR.tx hT h2) e20 (by show 0 ≤ ob W 148 24 ∧ ob W 148 24 < 8; omega) (by rw [ez]; exact hb) (by
    rw [ez, el]
    show Q (some (vi (if tZ s W (sN s 0) = 0 then ob W 148 24 else _))) _
    rw [e24]
    exact hQ)
  rw [show GX W (xW W) = W from TW_id hR.1] at y
  exact y
theorem y_wantT (hR : KR W s) (hT : ∀ i, -128 ≤ sT s i ∧ sT s i < 128) (h2 : 0 ≤ sN s 2 ∧ sN s 2 ≤ 400) (h0 : 0 ≤ sN s 1 ∧ sN s 1 < 8) (hb : 0 ≤ tZ s W (8 + sN s 1) ∧ tZ s W (8 + sN s 1) ≤ 100000) (hQ : Q (some (vi (if tZ s W (8 + sN s 1) = 0 then sN s 1 else -2 - tZ s W (8 + sN s 1)))) (tV s W (8 + sN s 1) 25)) : Gm 223 [vr 148] W Q := by
  have e25 : ob W 148 25 = sN s 1 := hR.2.2.2.1.2.1
  have e20 : ob W 148 20 = (((sN s 2).toNat : Nat) : Int) := by rw [hR.2.2.2.1.2.2.1]; omega
  have el : wtY (sT s) (sN s 2).toNat (W, xW W) = rdZ (tY (sT s) (sN s 2).toNat W (8 + sN s 1)) := by
    rw [← e25]
    exact wtY_t
  have ez : (wtY (sT s) (sN s 2).toNat (W, xW W)).2.1.1 22 = tZ s W (8 + sN s 1) := by
    rw [el]
    exact fu_ne (k := 20) (j := 22) _ (0 : Int) (by decide)
  have y := y_want (Q := Q) (x := xW W) (hR.tx hT h2) e20 (by show 0 ≤ ob W 148 25 ∧ ob W 148 25 < 8; omega) (by rw [ez]; exact hb) (by
    rw [ez, el]
    show Q (some (vi (if tZ s W (8 + sN s 1) = 0 then ob W 148 25 else _))) _
    rw [e25]
    exact hQ)
  rw [show GX W (xW W) = W from TW_id hR.1] at y
  exact y
theorem y_law8T (hR : KR W s) (hT : ∀ i, -128 ≤ sT s i ∧ sT s i < 128) (h2 : 0 ≤ sN s 2 ∧ sN s 2 ≤ 400) (h0 : sN s 0 = 8) (hQ : Q (some (vi (-1))) W) : Gm 196 [vr 148] W Q := by
  have y := (y_law8 (Q := Q) (x := xW W) (hR.tx hT h2) (hR.2.2.2.1.1.trans h0)).mpr
  rw [show GX W (xW W) = W from TW_id hR.1] at y
  exact y hQ
theorem y_want8T (hR : KR W s) (hT : ∀ i, -128 ≤ sT s i ∧ sT s i < 128) (h2 : 0 ≤ sN s 2 ∧ sN s 2 ≤ 400) (h0 : sN s 1 = 8) (hQ : Q (some (vi (-1))) W) : Gm 223 [vr 148] W Q := by
  have y := (y_want8 (Q := Q) (x := xW W) (hR.tx hT h2) (hR.2.2.2.1.2.1.trans h0)).mpr
  rw [show GX W (xW W) = W from TW_id hR.1] at y
  exact y hQ
theorem KR.tv (hR : KR W s) (hT : ∀ i, -128 ≤ sT s i ∧ sT s i < 128) (h2 : 0 ≤ sN s 2 ∧ sN s 2 ≤ 400) (h0 : 0 ≤ sl ∧ sl ≤ 15) (hj : j = 24 ∨ j = 25) {N : Nat → Int} {L' : Nat → LW} {V' : Nat → WN} (hN : N 0 = sN s 0 + (if j = 24 ∧ tZ s W sl = 0 then 1 else 0) ∧ N 1 = sN s 1 + (if j = 25 ∧ tZ s W sl = 0 then 1 else 0) ∧ N 2 = 0 ∧ N 3 = sN s 3) (hl : ∀ k : Nat, (k : Int) < N 0 → (¬ (k : Int) = sl ∧ (k : Int) < sN s 0 ∧ L' k = sL s k) ∨ LawR (tV s W sl j) (k : Int) (L' k)) (hw : ∀ k : Nat, (k : Int) < N 1 → (¬ ((8 + k : Nat) : Int) = sl ∧ (k : Int) < sN s 1 ∧ V' k = sW s k) ∨ (WantR (tV s W sl j) k (V' k) ∧ (V' k).1 ≤ 12)) : KR (tV s W sl j) (sF s, N, sT s, L', V', sI s) := by
  have hx := hR.tx hT h2
  obtain ⟨⟨rs, -, -⟩, fr⟩ := t_run (c := (fun _ => 0, fun _ => 0, fun _ => 0, fun _ => 0, fun _ => 0, fun _ => 0, fun _ => 0, fun _ => 0)) hR hT h2 h0
  obtain ⟨b1, b2, b3, b4⟩ := tWo_b (T := sT s) (n := (sN s 2).toNat) (W := W) (sl := sl) hj
  have sS := fun {r : Int} hr => tWo_S (j := j) fr rs h0 (r := r) hr
  refine hR.txt (tWo_R hx (x1R_20 hR h2) h0) (fun k _ q => tWo_o fr q) ⟨?_, ?_, ?_, ?_⟩ (fun k hk => ?_) (fun k hk => ?_)
  · rw [hN.1, ← hR.2.2.2.1.1]
    rcases hj with rfl | rfl
    · rw [b3]
      by_cases z : tZ s W sl = 0
      · rw [if_pos z, if_pos ⟨rfl, z⟩]
      · rw [if_neg z, if_neg (fun q => z q.2)]
    · rw [b4 24 (Or.inl rfl) (by decide), if_neg (fun q => absurd q.1 (by decide)), Int.add_zero]
  · rw [hN.2.1, ← hR.2.2.2.1.2.1]
    rcases hj with rfl | rfl
    · rw [b4 25 (Or.inr rfl) (by decide), if_neg (fun q => absurd q.1 (by decide)), Int.add_zero]
    · rw [b3]
      by_cases z : tZ s W sl = 0
      · rw [if_pos z, if_pos ⟨rfl, z⟩]
      · rw [if_neg z, if_neg (fun q => z q.2)]
  · rw [b1, hN.2.2.1]
  · rw [b2, hN.2.2.2, hR.2.2.2.1.2.2.2]
  · rcases hl k hk with ⟨q1, q2, q3⟩ | q
    · rw [q3]
      exact (hR.2.2.2.2.2.1 k q2).sl (sS ⟨by omega, q1⟩)
    · exact q
  · rcases hw k hk with ⟨q1, q2, q3⟩ | q
    · rw [q3]
      have o := hR.2.2.2.2.2.2.1 k q2
      exact ⟨o.1.sl o.2 (sS ⟨by omega, q1⟩), o.2⟩
    · exact q
end RFA
