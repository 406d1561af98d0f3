-- THE REFERENCE BEHIND A TEXT
abbrev x1R (W : AW) (sl : Int) : GT := ((fu (ob W 148) 23 sl, ar W 168, ar W 169), ar W 176)
noncomputable def tY (T : Nat → Int) (n : Nat) (W : AW) (sl : Int) : Nat × GWX := rdL T n 13 0 (W, (rdI (x1R W sl).1, (x1R W sl).2))
noncomputable def tWo (T : Nat → Int) (n : Nat) (W : AW) (sl : Int) (j : Nat) : AW := GX (upY j (rdZ (tY T n W sl))).1 (upY j (rdZ (tY T n W sl))).2
section RFW
variable {T : Nat → Int} {n N : Nat} {W : AW} {s : ST} {sl K : Int} {c : CR} {x : GT} {j k : Nat}
theorem lwY_t : lwY T n (W, ((ob W 148, ar W 168, ar W 169), ar W 176)) = rdZ (tY T n W (ob W 148 24)) := rfl
theorem wtY_t : wtY T n (W, ((ob W 148, ar W 168, ar W 169), ar W 176)) = rdZ (tY T n W (8 + ob W 148 25)) := rfl
theorem KR.tx (hR : KR W s) (hT : ∀ i, -128 ≤ sT s i ∧ sT s i < 128) (h2 : 0 ≤ sN s 2 ∧ sN s 2 ≤ 400) : TX W (sT s) (sN s 2).toNat := ⟨hR.1, hR.2.1, hR.2.2.2.2.1, hT, by omega⟩
theorem rdL_b (hn : n ≤ 400) (hK : 0 ≤ K) : ∀ (f N : Nat) (W : AW) (x : GT), TX W T n → RI n K 0 x.1 → (0 ≤ x.1.1 27 ∧ x.1.1 27 ≤ x.1.1 21) → x.1.1 22 = 0 → N ≤ 12 → (rdL T n f N (W, x)).2.2.1.1 22 = 0 → (0 ≤ (rdL T n f N (W, x)).2.2.1.1 26 ∧ (rdL T n f N (W, x)).2.2.1.1 26 ≤ 300) ∧ (rdL T n f N (W, x)).2.2.1.1 28 ≤ 60 := by
  have bd : ∀ σ : GS, RI n K 0 σ → σ.1 22 = 0 → (0 ≤ σ.1 26 ∧ σ.1 26 ≤ 300) ∧ σ.1 28 ≤ 60 := fun σ h z => by
    have a := h.2.2.2.2.2 z
    have b := h.2.1
    have e := h.2.2.2.2.1
    omega
  intro f
  induction f with
  | zero =>
    intro N W x hx h hd hf hN hz
    exact bd x.1 h hf
  | succ f ih =>
    intro N W x hx h hd hf hN hz
    obtain ⟨eb, hx1, h12⟩ := clause_b (N := N) hx hK h hd
    unfold rdL at hz ⊢
    unfold rdY rdN at hz ⊢
    generalize clauseF T n N (W, x) = y1 at *
    have cfz : (rdS T n (skF T n y1.2.1)).1 22 = 0 → y1.2.1.1 22 = 0 ∧ rdS T n (skF T n y1.2.1) = skF T n y1.2.1 := fun c => by
      by_cases c2 : (skF T n y1.2.1).1 22 = 0 ∧ (skF T n y1.2.1).1 21 < (n : Int) ∧ ¬ chr T n ((skF T n y1.2.1).1 21).toNat = 59
      · have er : rdS T n (skF T n y1.2.1) = flF 0 ((skF T n y1.2.1).1 21) (skF T n y1.2.1) := if_pos c2
        rw [er] at c
        exact (fl_z c eb.1.sk.2.1.1 (by decide)).elim
      · have er : rdS T n (skF T n y1.2.1) = skF T n y1.2.1 := if_neg c2
        refine ⟨?_, er⟩
        rw [er, sk_o (by decide)] at c
        exact c
    by_cases c : (rdS T n (skF T n y1.2.1)).1 22 = 0 ∧ (rdS T n (skF T n y1.2.1)).1 21 < (n : Int)
    · rw [if_pos c] at hz ⊢
      obtain ⟨cf1, cf2⟩ := cfz c.1
      rw [cf2] at c hz ⊢
      obtain ⟨q1, q2, q3⟩ := eb.2 cf1
      obtain ⟨q4, q5⟩ := q1.sk (T := T)
      have f27 : (skF T n y1.2.1).1 27 = y1.2.1.1 27 := sk_o (by decide)
      have hN2 : ¬ N = 12 := fun z => h12 z cf1
      have q6 := (q4.ad (d := 1) (by decide) (by omega)).wk (K' := K) (D' := 0) (by omega) (by decide)
      exact ih (N + 1) y1.1 (adF 1 (skF T n y1.2.1), y1.2.2) hx1 q6 (by show 0 ≤ (adF 1 (skF T n y1.2.1)).1 27 ∧ (adF 1 (skF T n y1.2.1)).1 27 ≤ (adF 1 (skF T n y1.2.1)).1 21; rw [ad_o (by decide), ad_e, f27]; omega) (by show (adF 1 (skF T n y1.2.1)).1 22 = 0; rw [ad_o (by decide), sk_o (by decide)]; exact cf1) (by omega) hz
    · rw [if_neg c] at hz ⊢
      have hz : (adF 1 (rdS T n (skF T n y1.2.1))).1 22 = 0 := hz
      rw [ad_o (by decide)] at hz
      obtain ⟨cf1, cf2⟩ := cfz hz
      obtain ⟨q1, q2, q3⟩ := eb.2 cf1
      have b := bd _ q1 cf1
      show (0 ≤ (adF 1 (rdS T n (skF T n y1.2.1))).1 26 ∧ (adF 1 (rdS T n (skF T n y1.2.1))).1 26 ≤ 300) ∧ (adF 1 (rdS T n (skF T n y1.2.1))).1 28 ≤ 60
      rw [cf2, ad_o (by decide), ad_o (by decide), sk_o (by decide), sk_o (by decide)]
      exact b
theorem x1R_20 (hR : KR W s) (h2 : 0 ≤ sN s 2 ∧ sN s 2 ≤ 400) : (x1R W sl).1.1 20 = (((sN s 2).toNat : Nat) : Int) := by
  show fu (ob W 148) 23 sl 20 = _
  rw [fu_ne _ _ (by decide), hR.2.2.2.1.2.2.1]
  omega
theorem x1R_23 : (x1R W sl).1.1 23 = sl := by
  show fu (ob W 148) 23 sl 23 = _
  exact fu_eq _ _ _
theorem ini_b (h0 : 0 ≤ sl ∧ sl ≤ 15) (hR : KR W s) (h2 : 0 ≤ sN s 2 ∧ sN s 2 ≤ 400) : RI (sN s 2).toNat 0 0 (rdI (x1R W sl).1) ∧ ((rdI (x1R W sl).1).1 23 = sl ∧ (rdI (x1R W sl).1).1 26 = 0 ∧ (rdI (x1R W sl).1).1 22 = 0 ∧ (rdI (x1R W sl).1).1 27 = 0 ∧ (rdI (x1R W sl).1).1 21 = 0) := by
  obtain ⟨z1, z2, z3, z4, z5, z6⟩ := rdI_z (σ := (x1R W sl).1)
  refine ⟨RI.ini (x1R_20 hR h2) (by rw [x1R_23]; exact h0), ?_, z3, z2, z4, z1⟩
  rw [rdI_o (j := 23) (by decide)]
  exact x1R_23
theorem t_run (hR : KR W s) (hT : ∀ i, -128 ≤ sT s i ∧ sT s i < 128) (h2 : 0 ≤ sN s 2 ∧ sN s 2 ≤ 400) (h0 : 0 ≤ sl ∧ sl ≤ 15) : ResF (sT s) (sN s 2).toNat (iniC (if sl < 8 then 0 else 1) (sN s 2).toNat c) (rdI (x1R W sl).1) (tY (sT s) (sN s 2).toNat W sl).2.2.1 (fun d => CfC d (tY (sT s) (sN s 2).toNat W sl).2.1 (tY (sT s) (sN s 2).toNat W sl).2.2.1 (tY (sT s) (sN s 2).toNat W sl).1 ∧ (tY (sT s) (sN s 2).toNat W sl).1 ≤ 12) ∧ FrL sl W (tY (sT s) (sN s 2).toNat W sl).2.1 := by
  have hx := hR.tx hT h2
  obtain ⟨ri, e23, e26, e22, e27, e21⟩ := ini_b h0 hR h2
  have e28 : (rdI (x1R W sl).1).1 28 = 0 := rdI_z.2.2.2.2.1
  have t := s_rdL (by omega) (by decide) 13 0 W (rdI (x1R W sl).1, (x1R W sl).2) (iniC (if sl < 8 then 0 else 1) (sN s 2).toNat c) hx ri (by show 0 ≤ (rdI (x1R W sl).1).1 27 ∧ (rdI (x1R W sl).1).1 27 ≤ (rdI (x1R W sl).1).1 21 ∧ (rdI (x1R W sl).1).1 27 ≤ 10; omega) e22 (by decide) rfl (by
    refine ⟨rfl, ⟨⟨rfl, Int.le_refl _, ?_⟩, ?_, ?_, ?_⟩, ⟨?_, ?_, fun i hi => ?_⟩, rfl, rfl, fun j hj => absurd hj (Nat.not_lt_zero j), fun k hk => ⟨?_, ?_⟩, ?_, ?_⟩
    · show (0 : Int) ≤ _
      omega
    · show rn isB (sT s) (sN s 2).toNat (0 : Int).toNat = rn isB (sT s) (sN s 2).toNat ((rdI (x1R W sl).1).1 21).toNat
      rw [e21]
    · show (0 : Int) = (rdI (x1R W sl).1).1 28
      rw [e28]
    · show (if sl < 8 then (0 : Int) else 1) = (if (rdI (x1R W sl).1).1 23 < 8 then 0 else 1)
      rw [e23]
    · show (0 : Int) = (rdI (x1R W sl).1).1 26
      rw [e26]
    · show (0 : Int) = (rdI (x1R W sl).1).1 27
      rw [e27]
    · rw [show (rdI (x1R W sl).1, (x1R W sl).2).1.1 26 = 0 from e26] at hi
      omega
    · show flf c.2.2.2.2.2.2.2 6 (-1) k = -1
      unfold flf
      rw [if_pos hk]
    · refine Or.inl ?_
      show flf c.2.2.2.2.2.2.2 6 (-1) k = -1
      unfold flf
      rw [if_pos hk]
    · show (0 : Int) = (rdI (x1R W sl).1).1 26
      rw [e26]
    · show nvS _ _ ((rdI (x1R W sl).1).1 26).toNat ≤ (rdI (x1R W sl).1).1 28
      rw [e26, e28]
      exact Int.le_refl _)
  rw [show (rdI (x1R W sl).1, (x1R W sl).2).1.1 23 = sl from e23] at t
  exact t
/-- what the reference's world is then -/
theorem tY_o (h : (j < 20 ∨ 23 ≤ j ∧ j ≤ 25)) : (tY T n W sl).2.2.1.1 j = fu (ob W 148) 23 sl j := by
  unfold tY
  rw [rdL_ok h]
  show (rdI (x1R W sl).1).1 j = _
  rw [rdI_o (by omega)]
theorem tWo_e : tWo T n W sl j = wu (wu (wu (wu (wu (tY T n W sl).2.1 170 (ea 0 16 (fu (ar (tY T n W sl).2.1 170) ((tY T n W sl).2.2.1.1 23).toNat (((tY T n W sl).1 : Nat) : Int)))) 148 (o12 (upY j (rdZ (tY T n W sl))).2.1.1)) 168 (ea 0 4800 (tY T n W sl).2.2.1.2.1)) 169 (ea 0 4800 (tY T n W sl).2.2.1.2.2)) 176 (ea 0 402 (tY T n W sl).2.2.2) := rfl
theorem tWo_o (hf : FrL sl W (tY T n W sl).2.1) (hk : k < 148 ∨ (148 < k ∧ k < 168) ∨ 176 < k) : (tWo T n W sl j).2 k = W.2 k := by
  rw [tWo_e, wu_ne (by omega), wu_ne (by omega), wu_ne (by omega), wu_ne (by omega), wu_ne (by omega)]
  exact hf.2.1 k (by omega)
theorem tWo_168 : ar (tWo T n W sl j) 168 = (tY T n W sl).2.2.1.2.1 := by
  rw [tWo_e, ar_n (by decide), ar_n (by decide), ar_s]
theorem tWo_169 : ar (tWo T n W sl j) 169 = (tY T n W sl).2.2.1.2.2 := by
  rw [tWo_e, ar_n (by decide), ar_s]
theorem tWo_170 (hf : FrL sl W (tY T n W sl).2.1) : ar (tWo T n W sl j) 170 = fu (ar W 170) sl.toNat (((tY T n W sl).1 : Nat) : Int) := by
  rw [tWo_e, ar_n (by decide), ar_n (by decide), ar_n (by decide), ar_n (by decide), ar_s, tY_o (j := 23) (Or.inr (by decide)), fu_eq, ar_c (hf.2.1 170 (Or.inl (by decide)))]
theorem tWo_r (hk : 171 ≤ k ∧ k ≤ 175) : ar (tWo T n W sl j) k = ar (tY T n W sl).2.1 k := by
  rw [tWo_e, ar_n (by omega), ar_n (by omega), ar_n (by omega), ar_n (by omega), ar_n (by omega)]
theorem tWo_R (hx : TX W T n) (h20 : (x1R W sl).1.1 20 = (n : Int)) (h0 : 0 ≤ sl ∧ sl ≤ 15) : RS (tWo T n W sl j) := by
  have r := rdF_x (y := (W, x1R W sl)) hx h20 (by rw [x1R_23]; exact h0)
  exact TW_r r.1
theorem tWo_b (hj : j = 24 ∨ j = 25) : ob (tWo T n W sl j) 148 20 = 0 ∧ ob (tWo T n W sl j) 148 1 = ob W 148 1 ∧ ob (tWo T n W sl j) 148 j = ob W 148 j + (if (tY T n W sl).2.2.1.1 22 = 0 then 1 else 0) ∧ (∀ i, (i = 24 ∨ i = 25) → ¬ i = j → ob (tWo T n W sl j) 148 i = ob W 148 i) := by
  have g : ∀ i, i = 1 ∨ i = 20 ∨ i = 24 ∨ i = 25 → ob (tWo T n W sl j) 148 i = (upY j (rdZ (tY T n W sl))).2.1.1 i := fun i hi => by
    rw [tWo_e, ob_n (by decide), ob_n (by decide), ob_n (by decide)]
    rcases hi with rfl | rfl | rfl | rfl
    · exact b12_1
    · exact b12_20
    · exact b12_24
    · exact b12_25
  have z22 : fu (tY T n W sl).2.2.1.1 20 0 22 = (tY T n W sl).2.2.1.1 22 := fu_ne _ _ (by decide)
  have u : ∀ i, (upY j (rdZ (tY T n W sl))).2.1.1 i = fu (fu (tY T n W sl).2.2.1.1 20 0) j (fu (tY T n W sl).2.2.1.1 20 0 j + (if (tY T n W sl).2.2.1.1 22 = 0 then 1 else 0)) i := fun i => rfl
  have old : ∀ i, i = 1 ∨ i = 24 ∨ i = 25 → (tY T n W sl).2.2.1.1 i = ob W 148 i := fun i hi => by
    rw [tY_o (by omega), fu_ne _ _ (by omega)]
  refine ⟨?_, ?_, ?_, fun i hi hne => ?_⟩
  · rw [g 20 (by omega), u, fu_ne _ _ (by omega), fu_eq]
  · rw [g 1 (by omega), u, fu_ne _ _ (by omega), fu_ne _ _ (by decide), old 1 (by omega)]
  · rw [g j (by omega), u, fu_eq, fu_ne _ _ (by omega), old j (by omega)]
  · rw [g i (by omega), u, fu_ne _ _ hne, fu_ne _ _ (by omega), old i (by omega)]
/-- other slots are as they were -/
theorem tWo_S (hf : FrL sl W (tY T n W sl).2.1) (hs : FrS (rdI (x1R W sl).1) (tY T n W sl).2.2.1) (h0 : 0 ≤ sl ∧ sl ≤ 15) {r : Int} (hr : 0 ≤ r ∧ ¬ r = sl) : SlR r (tWo T n W sl j) W := by
  have e23 : (rdI (x1R W sl).1).1 23 = sl := by
    rw [rdI_o (j := 23) (by decide)]
    exact x1R_23
  have e26 : (rdI (x1R W sl).1).1 26 = 0 := rdI_z.2.2.1
  have h3 := hs.2.2
  rw [e23, e26] at h3
  refine ⟨fun i a b => ?_, ?_, fun i a b => ?_⟩
  · rw [tWo_168, tWo_169]
    exact h3 i (by omega)
  · rw [tWo_170 hf, fu_ne _ _ (by omega)]
  · rw [tWo_r (by decide), tWo_r (by decide), tWo_r (by decide), tWo_r (by decide), tWo_r (by decide)]
    have q := fun k a b => hf.2.2 k a b i (by omega)
    exact ⟨q 171 (by decide) (by decide), q 172 (by decide) (by decide), q 173 (by decide) (by decide), q 174 (by decide) (by decide), q 175 (by decide) (by decide)⟩
theorem KR.txt {W' : AW} {N : Nat → Int} {L' : Nat → LW} {V' : Nat → WN} (h : KR W s) (hR : RS W') (hk : ∀ k, k < 192 → (k < 148 ∨ (148 < k ∧ k < 168) ∨ 176 < k) → W'.2 k = W.2 k) (hN : ob W' 148 24 = N 0 ∧ ob W' 148 25 = N 1 ∧ ob W' 148 20 = N 2 ∧ ob W' 148 1 = N 3) (hl : ∀ k : Nat, (k : Int) < N 0 → LawR W' (k : Int) (L' k)) (hw : ∀ k : Nat, (k : Int) < N 1 → WantR W' k (V' k) ∧ (V' k).1 ≤ 12) : KR W' (sF s, N, sT s, L', V', sI s) := by
  obtain ⟨a1, a2, a3, a4, a5, a6, a7, a8⟩ := h
  exact ⟨hR, fun k p q => by rw [hk k (by omega) (by omega)]; exact a2 k p q, by rw [rF_c (fun k p q => hk k (by omega) (by omega))]; exact a3, hN, by rw [ar_c (hk 167 (by decide) (by decide))]; exact a5, hl, hw, fun k q => (a8 k q).cg (hk 188 (by decide) (by decide)) (hk 191 (by decide) (by decide))⟩
end RFW
