-- THE REFERENCE BEHIND A TEXT, OUT OF WHAT THE CLASS CAME TO
section RFK
variable {T : Nat → Int} {n N : Nat} {W : AW} {s : ST} {Q : AQ} {sl K cc : Int} {c d : CR} {x : GT} {j k M : Nat} {gd gi gm ge : Nat → Int} {lw : LW} {wn : WN}
abbrev inC (s : ST) (sl : Int) (c : CR) : CR := iniC (if sl < 8 then 0 else 1) (sN s 2).toNat c
theorem if01 : (if sl < 8 then (0 : Int) else 1) = 0 ∨ (if sl < 8 then (0 : Int) else 1) = 1 := by
  by_cases z : sl < 8
  · rw [if_pos z]; exact Or.inl rfl
  · rw [if_neg z]; exact Or.inr rfl
theorem out_is {R : BR} (h : OutC (sT s) (sN s 2).toNat (inC s sl c) R) (h2 : 0 ≤ sN s 2 ∧ sN s 2 ≤ 400) : rdC (sT s) (sN s 2).toNat 401 (inC s sl c) = R := h 401 (by omega)
theorem t_bad (hR : KR W s) (hT : ∀ i, -128 ≤ sT s i ∧ sT s i < 128) (h2 : 0 ≤ sN s 2 ∧ sN s 2 ≤ 400) (h0 : 0 ≤ sl ∧ sl ≤ 15) (hd : rdC (sT s) (sN s 2).toNat 401 (inC s sl c) = (false, d)) : (tY (sT s) (sN s 2).toNat W sl).2.2.1.1 22 = d.1 0 + (1 + 8 * d.2.1 0) ∧ 0 < d.1 0 + (1 + 8 * d.2.1 0) ∧ d.1 0 + (1 + 8 * d.2.1 0) ≤ 100000 := by
  obtain ⟨⟨r1, r2, r3⟩, -⟩ := t_run (c := c) hR hT h2 h0
  have b := rdC_b (fun i => hT i) 401 _ d (XI.ini if01).1 (XI.ini if01).2 hd
  have hz : ¬ (tY (sT s) (sN s 2).toNat W sl).2.2.1.1 22 = 0 := fun z => by
    obtain ⟨d1, o1, -⟩ := r3 z
    have e := (out_is (s := s) (sl := sl) o1 h2).symm.trans hd
    exact absurd (show true = false from congrArg Prod.fst e) (by decide)
  obtain ⟨d1, o1, e1⟩ := r2 hz
  have e := (out_is (s := s) (sl := sl) o1 h2).symm.trans hd
  have ed : d1 = d := congrArg Prod.snd e
  rw [ed] at e1
  refine ⟨e1.symm, by omega, by omega⟩
theorem t_good (hR : KR W s) (hT : ∀ i, -128 ≤ sT s i ∧ sT s i < 128) (h2 : 0 ≤ sN s 2 ∧ sN s 2 ≤ 400) (h0 : 0 ≤ sl ∧ sl ≤ 15) (hd : rdC (sT s) (sN s 2).toNat 401 (inC s sl c) = (true, d)) : (tY (sT s) (sN s 2).toNat W sl).2.2.1.1 22 = 0 ∧ CfC d (tY (sT s) (sN s 2).toNat W sl).2.1 (tY (sT s) (sN s 2).toNat W sl).2.2.1 (tY (sT s) (sN s 2).toNat W sl).1 ∧ (tY (sT s) (sN s 2).toNat W sl).1 ≤ 12 := by
  obtain ⟨⟨r1, r2, r3⟩, -⟩ := t_run (c := c) hR hT h2 h0
  have hz : (tY (sT s) (sN s 2).toNat W sl).2.2.1.1 22 = 0 := Classical.byContradiction fun z => by
    obtain ⟨d1, o1, -⟩ := r2 z
    have e := (out_is (s := s) (sl := sl) o1 h2).symm.trans hd
    exact absurd (show false = true from congrArg Prod.fst e) (by decide)
  obtain ⟨d1, o1, g1⟩ := r3 hz
  have e := (out_is (s := s) (sl := sl) o1 h2).symm.trans hd
  have ed : d1 = d := congrArg Prod.snd e
  rw [ed] at g1
  exact ⟨hz, g1⟩
/-- the rows it wrote are the class's -/
theorem t_rows (hR : KR W s) (hT : ∀ i, -128 ≤ sT s i ∧ sT s i < 128) (h2 : 0 ≤ sN s 2 ∧ sN s 2 ≤ 400) (h0 : 0 ≤ sl ∧ sl ≤ 15) (hd : rdC (sT s) (sN s 2).toNat 401 (inC s sl c) = (true, d)) (hg1 : ∀ i : Nat, i < (d.1 7).toNat → gd i = d.2.2.1 i) (hg2 : ∀ i : Nat, i < (d.1 14).toNat → gi i = d.2.2.2.2.1 i ∧ gm i = d.2.2.2.2.2.1 i ∧ ge i = d.2.2.2.2.2.2.1 i) : TxC sl (d.1 14).toNat (d.1 7).toNat gd gi gm ge (ar (tWo (sT s) (sN s 2).toNat W sl j) 168) (ar (tWo (sT s) (sN s 2).toNat W sl j) 169) (ar (tWo (sT s) (sN s 2).toNat W sl j) 171) (ar (tWo (sT s) (sN s 2).toNat W sl j) 173) (ar (tWo (sT s) (sN s 2).toNat W sl j) 174) (ar (tWo (sT s) (sN s 2).toNat W sl j) 175) ∧ ((tY (sT s) (sN s 2).toNat W sl).1 : Int) = (((d.1 14).toNat : Nat) : Int) ∧ ∀ k : Nat, k < 6 → onF (ar (tWo (sT s) (sN s 2).toNat W sl j) 171) (ar (tWo (sT s) (sN s 2).toNat W sl j) 172) sl ((k + 2 : Nat) : Int) (usI k) (d.1 14).toNat = stF d.2.2.2.2.2.2.2 6 k ∧ (d.2.2.2.2.2.2.2 k = -1 ∨ (smI k ≤ d.2.2.2.2.2.2.2 k ∧ d.2.2.2.2.2.2.2 k ≤ laI k)) := by
  obtain ⟨hz, hC, hM⟩ := t_good hR hT h2 h0 hd
  have hx := hR.tx hT h2
  obtain ⟨ri, e23, e26, e22, e27, e21⟩ := ini_b h0 hR h2
  have b := rdL_b (n := (sN s 2).toNat) (K := 0) (by omega) (by decide) 13 0 W (rdI (x1R W sl).1, (x1R W sl).2) hx ri (by show 0 ≤ (rdI (x1R W sl).1).1 27 ∧ (rdI (x1R W sl).1).1 27 ≤ (rdI (x1R W sl).1).1 21; omega) e22 (by decide) hz
  have s23 : (tY (sT s) (sN s 2).toNat W sl).2.2.1.1 23 = sl := by
    rw [tY_o (Or.inr (by decide)), fu_eq]
  have b : (0 ≤ (tY (sT s) (sN s 2).toNat W sl).2.2.1.1 26 ∧ (tY (sT s) (sN s 2).toNat W sl).2.2.1.1 26 ≤ 300) ∧ (tY (sT s) (sN s 2).toNat W sl).2.2.1.1 28 ≤ 60 := b
  rw [tWo_168, tWo_169, tWo_r (by decide), tWo_r (by decide), tWo_r (by decide), tWo_r (by decide), tWo_r (by decide)]
  generalize tY (sT s) (sN s 2).toNat W sl = y at *
  have eM : (d.1 14).toNat = y.1 := by
    rw [hC.2.2.1]
    exact Int.toNat_natCast _
  rw [eM] at hg2 ⊢
  have t := TxC.of (gd := gd) (gi := gi) (gm := gm) (ge := ge) hC hM (by omega) b.1 b.2 hg1 hg2 rfl rfl rfl rfl rfl rfl
  rw [s23] at t
  refine ⟨t.1, rfl, fun k hk => ?_⟩
  obtain ⟨r1, r2, -, -⟩ := hC.2.2.2
  obtain ⟨q1, q2⟩ := r2 k hk
  rw [s23] at q1
  refine ⟨?_, q2⟩
  have ec : ∀ j : Nat, clI j sl = (12 * sl + (j : Int)).toNat := fun j => rfl
  rw [onF_d (fun j hj ht => by
    obtain ⟨k', p1, p2, p3, p4, p5, p6, p7, p8, p9, p10⟩ := r1 j hj
    rw [s23, ec] at p2 p10
    exact p10 (by omega)), ← q1]
  show _ = if k < 6 ∧ d.2.2.2.2.2.2.2 k = -1 then usI k else d.2.2.2.2.2.2.2 k
  by_cases z : d.2.2.2.2.2.2.2 k = -1
  · rw [if_pos z, if_pos ⟨hk, z⟩]
  · rw [if_neg z, if_neg (fun q => z q.2)]
theorem t_lwok {st : Nat → Int} {M : Nat} {s1 m1 t1 a1 b1 e1 : Nat → Int} (h : ∀ k : Nat, k < 6 → d.2.2.2.2.2.2.2 k = -1 ∨ (smI k ≤ d.2.2.2.2.2.2.2 k ∧ d.2.2.2.2.2.2.2 k ≤ laI k)) (hs : st = stF d.2.2.2.2.2.2.2 6) : LwOk (lwM sl M s1 m1 t1 a1 b1 e1 st) := by
  subst hs
  have lim : ∀ k, k < 6 → smI k ≤ usI k ∧ usI k ≤ laI k := by decide +kernel
  have la : (smI 0 = 0 ∧ laI 0 = 1000) ∧ (smI 1 = 0 ∧ laI 1 = 1000) ∧ (smI 2 = 0 ∧ laI 2 = 1000) ∧ (smI 3 = 1 ∧ laI 3 = 9) ∧ (smI 4 = 0 ∧ laI 4 = 9) ∧ smI 5 = 0 ∧ laI 5 = 1000 := by decide +kernel
  have key : ∀ k : Nat, k < 6 → smI k ≤ stF d.2.2.2.2.2.2.2 6 k ∧ stF d.2.2.2.2.2.2.2 6 k ≤ laI k := fun k hk => by
    show smI k ≤ (if k < 6 ∧ d.2.2.2.2.2.2.2 k = -1 then usI k else d.2.2.2.2.2.2.2 k) ∧ (if k < 6 ∧ d.2.2.2.2.2.2.2 k = -1 then usI k else d.2.2.2.2.2.2.2 k) ≤ laI k
    by_cases z : d.2.2.2.2.2.2.2 k = -1
    · rw [if_pos ⟨hk, z⟩]
      exact lim k hk
    · rw [if_neg (fun q => z q.2)]
      exact (h k hk).resolve_left z
  have g0 := key 0 (by decide)
  have g1 := key 1 (by decide)
  have g2 := key 2 (by decide)
  have g3 := key 3 (by decide)
  have g4 := key 4 (by decide)
  have g5 := key 5 (by decide)
  refine ⟨?_, ?_, ?_, ?_, ?_, ?_⟩
  · show 0 ≤ stF d.2.2.2.2.2.2.2 6 0 ∧ stF d.2.2.2.2.2.2.2 6 0 ≤ 1000; omega
  · show 0 ≤ stF d.2.2.2.2.2.2.2 6 1 ∧ stF d.2.2.2.2.2.2.2 6 1 ≤ 1000; omega
  · show 0 ≤ stF d.2.2.2.2.2.2.2 6 2 ∧ stF d.2.2.2.2.2.2.2 6 2 ≤ 1000; omega
  · show 1 ≤ stF d.2.2.2.2.2.2.2 6 3 ∧ stF d.2.2.2.2.2.2.2 6 3 ≤ 9; omega
  · show 0 ≤ stF d.2.2.2.2.2.2.2 6 4 ∧ stF d.2.2.2.2.2.2.2 6 4 ≤ 9; omega
  · show 0 ≤ stF d.2.2.2.2.2.2.2 6 5 ∧ stF d.2.2.2.2.2.2.2 6 5 ≤ 1000; omega
end RFK
