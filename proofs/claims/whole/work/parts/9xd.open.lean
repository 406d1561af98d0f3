-- CLASS AND REFERENCE READ ALIKE: what is open
/-- ops that are open, and how they stand on each other -/
def Wfo (o : Nat → Int) (h : Nat) : Prop := ∀ i, i < h → (o i = 9 ∨ o i = 10 ∨ o i = 11 ∨ o i = 12) ∧ (o i = 10 → i = 0 ∨ o (i - 1) = 11 ∨ o (i - 1) = 12) ∧ (o i = 11 → i = 0 ∨ o (i - 1) = 12)
/-- how many of two sides -/
def bnN (o : Nat → Int) : Nat → Nat
  | 0 => 0
  | h + 1 => bnN o h + (if o h = 10 ∨ o h = 11 then 1 else 0)
abbrev tr (k : Nat) : List Bool := List.replicate k true
abbrev hgt (x : GT) : Nat := (x.1.1 29).toNat
def PO (c : CR) (x : GT) : Prop := Wfo x.2 (hgt x) ∧ ∀ i, i < hgt x → c.2.2.2.1 i = sgC (x.2 i)
/-- the reference puts down what is open; the class would, as far as r -/
def ANs (r : Int) (c : CR) (x y : GT) : Prop := LT r c (hgt y) y.1 ∧ (0 ≤ y.1.1 29 ∧ y.1.1 22 = 0) ∧ y.2 = x.2 ∧ hgt y ≤ hgt x ∧ FrS x.1 y.1 ∧ (∀ j, j ≠ 26 → j ≠ 27 → j ≠ 29 → y.1.1 j = x.1.1 j) ∧ y.1.1 27 ≤ x.1.1 27 ∧ TyR x.1 y.1 (tr (bnN x.2 (hgt x) + 1)) (tr (bnN y.2 (hgt y) + 1))
theorem bnN_u {o : Nat → Int} {i : Nat} {v : Int} : ∀ h, h ≤ i → bnN (fu o i v) h = bnN o h
  | 0, _ => rfl
  | h + 1, b => by
    have := bnN_u (o := o) (i := i) (v := v) h (by omega)
    show bnN (fu o i v) h + (if fu o i v h = 10 ∨ fu o i v h = 11 then 1 else 0) = bnN o h + (if o h = 10 ∨ o h = 11 then 1 else 0)
    have e : fu o i v h = o h := fu_ne _ _ (by omega)
    rw [this, e]
section OPN
variable {T : Nat → Int} {n h p i j : Nat} {c d : CR} {σ τ ρ : GS} {x y : GT} {s v r K D : Int} {A B C : List Bool} {q : UQ} {o pl : Nat → Int}
theorem ra_26 (h : RA n K 0 x) (hK : 0 ≤ K) (hn : n ≤ 400) (hz : x.1.1 22 = 0) : (0 ≤ x.1.1 26 ∧ x.1.1 26 < 300) ∧ 0 ≤ x.1.1 23 := by
  have a := h.1.2.2.2.2.2 hz
  have b := h.1.2.2.2.2.1
  have e := h.1.2.1
  have g := stN_p x.2 (x.1.1 29).toNat
  exact ⟨by omega, h.1.1.2.1.1⟩
theorem sgC_r (ho : v = 9 ∨ v = 10 ∨ v = 11 ∨ v = 12) : rkI (sgC v) = 12 - v := by
  rcases ho with rfl | rfl | rfl | rfl <;> rfl
theorem Wfo.le (hw : Wfo o h) {k : Nat} (hk : k ≤ h) : Wfo o k := fun i hi => hw i (by omega)
theorem anS_b {k : Int} : (anS k x).1.1 29 = x.1.1 29 - 1 ∧ (anS k x).1.1 27 = x.1.1 27 - (if k = 9 then 1 else 0) ∧ (∀ j, j ≠ 26 → j ≠ 27 → j ≠ 29 → (anS k x).1.1 j = x.1.1 j) ∧ (anS k x).1.1 26 = (enF k 0 x.1).1 26 := by
  refine ⟨?_, ?_, fun j a b e => ?_, ?_⟩
  · show fu (fu (enF k 0 x.1).1 29 (x.1.1 29 - 1)) 27 (x.1.1 27 - (if k = 9 then 1 else 0)) 29 = _
    rw [fu_ne _ _ (by decide), fu_eq]
  · show fu (fu (enF k 0 x.1).1 29 (x.1.1 29 - 1)) 27 (x.1.1 27 - (if k = 9 then 1 else 0)) 27 = _
    rw [fu_eq]
  · show fu (fu (enF k 0 x.1).1 29 (x.1.1 29 - 1)) 27 (x.1.1 27 - (if k = 9 then 1 else 0)) j = _
    rw [fu_ne _ _ b, fu_ne _ _ e]
    exact en_o a
  · show fu (fu (enF k 0 x.1).1 29 (x.1.1 29 - 1)) 27 (x.1.1 27 - (if k = 9 then 1 else 0)) 26 = _
    rw [fu_ne _ _ (by decide), fu_ne _ _ (by decide)]
/-- one op put down: the same in both -/
theorem anS_s {k : Int} (hk : k = 9 ∨ k = 10 ∨ k = 11) (hz : x.1.1 22 = 0) (h26 : 0 ≤ x.1.1 26 ∧ x.1.1 26 < 300) (h23 : 0 ≤ x.1.1 23) : (∀ q, SE q x.1 → SE (poQ (sgC k) q) (anS k x).1) ∧ FrS x.1 (anS k x).1 ∧ (k = 9 → TyR x.1 (anS k x).1 [true] [true]) ∧ (¬ k = 9 → TyR x.1 (anS k x).1 [true, true] [true]) := by
  obtain ⟨b29, b27, bo, b26⟩ := anS_b (k := k) (x := x)
  have e23 : (anS k x).1.1 23 = x.1.1 23 := bo 23 (by decide) (by decide) (by decide)
  have e2 : (anS k x).1.2 = (enF k 0 x.1).2 := rfl
  have f23 : (enF k 0 x.1).1 23 = x.1.1 23 := en_o (by decide)
  have fE : FrS x.1 (enF k 0 x.1) := FrS.en (fun _ => h26) h23
  have fr : FrS x.1 (anS k x).1 := fE.tr (FrS.eq e2 b26 (e23.trans f23.symm))
  have tS : ∀ A, TyR (enF k 0 x.1) (anS k x).1 A A := fun A => TyR.same e2 b26 (by rw [bo 28 (by decide) (by decide) (by decide), en_o (by decide)])
  refine ⟨fun q hq => ?_, fr, fun k9 => ?_, fun k9 => ?_⟩
  · have e := hq.en (k := k) (v := 0) hz h23 h26
    have ee : enc (x.1.1 23) k 0 = sgC k := by
      unfold enc
      rw [if_neg (by omega), if_neg (by omega)]
    rw [ee] at e
    have q4 : q.1 < 400 := by have := hq.1; omega
    have e1 : puQ (sgC k) q = (q.1 + 1, q.2.1, fu q.2.2 q.1.toNat (sgC k)) := if_pos q4
    have e4 : poQ (sgC k) q = (q.1 + 1, (if sgC k = 13 then q.2.1 - 1 else q.2.1), fu q.2.2 q.1.toNat (sgC k)) := if_pos q4
    rw [e1] at e
    rw [e4]
    refine ⟨e.1.trans b26.symm, ?_, fun i hi => ?_⟩
    · show (if sgC k = 13 then q.2.1 - 1 else q.2.1) = _
      have e27 : q.2.1 = x.1.1 27 := hq.2.1
      rw [b27, e27]
      rcases hk with rfl | rfl | rfl
      · rw [if_pos (by decide), if_pos rfl]
      · rw [if_neg (by decide), if_neg (by decide)]
        omega
      · rw [if_neg (by decide), if_neg (by decide)]
        omega
    · rw [b26] at hi
      have g := e.2.2 i hi
      unfold slB at g ⊢
      rw [f23] at g
      rw [e23, e2]
      exact g
  · subst k9
    exact (TyR.en hz h23 h26 (fun l => rfl) (by decide)).tr fE (tS _)
  · rcases hk with rfl | rfl | rfl
    · exact absurd rfl k9
    · exact (TyR.en hz h23 h26 (fun l => rfl) (by decide)).tr fE (tS _)
    · exact (TyR.en hz h23 h26 (fun l => rfl) (by decide)).tr fE (tS _)
theorem topF_s {m : Nat} (hm : x.1.1 29 = ((m + 1 : Nat) : Int)) : topF x = x.2 m := by
  unfold topF
  rw [if_neg (by omega), show (x.1.1 29 - 1).toNat = m by omega]
theorem topF_0 (hm : x.1.1 29 = 0) : topF x = -1 := if_pos hm
/-- nots put down -/
theorem an9_s (hK : 0 ≤ K) (hn : n ≤ 400) : ∀ (m : Nat) (x : GT) (q : UQ), x.1.1 29 = (m : Int) → x.1.1 22 = 0 → RA n K 0 x → SE q x.1 → Wfo x.2 m → (∀ i, i < m → pl i = sgC (x.2 i)) → (unA 3 pl m q).1 = hgt (anF 9 m x) ∧ SE (unA 3 pl m q).2 (anF 9 m x).1 ∧ (0 ≤ (anF 9 m x).1.1 29 ∧ (anF 9 m x).1.1 22 = 0) ∧ (anF 9 m x).2 = x.2 ∧ hgt (anF 9 m x) ≤ m ∧ FrS x.1 (anF 9 m x).1 ∧ (∀ j, j ≠ 26 → j ≠ 27 → j ≠ 29 → (anF 9 m x).1.1 j = x.1.1 j) ∧ (anF 9 m x).1.1 27 ≤ x.1.1 27 ∧ TyR x.1 (anF 9 m x).1 (tr (bnN x.2 m + 1)) (tr (bnN x.2 (hgt (anF 9 m x)) + 1)) ∧ ¬ topF (anF 9 m x) = 9 := by
  intro m
  induction m with
  | zero =>
    intro x q h29 hz hr hE hw hp
    have e : hgt x = 0 := by unfold hgt; omega
    have e2 : anF 9 0 x = x := rfl
    rw [e2]
    refine ⟨e.symm, hE, ⟨by omega, hz⟩, rfl, by omega, FrS.rf, fun _ _ _ _ => rfl, Int.le_refl _, by rw [e]; exact TyR.rf, ?_⟩
    rw [topF_0 h29]
    decide
  | succ m ih =>
    intro x q h29 hz hr hE hw hp
    have ht := topF_s h29
    obtain ⟨b26, b23⟩ := ra_26 hr hK hn hz
    have e2 : anF 9 (m + 1) x = if topF x = 9 ∧ x.1.1 22 = 0 then anF 9 m (anS 9 x) else x := rfl
    by_cases c9 : x.2 m = 9
    · rw [e2, if_pos ⟨by rw [ht]; exact c9, hz⟩]
      obtain ⟨a1, a2, a3, -⟩ := anS_s (k := 9) (Or.inl rfl) hz b26 b23
      obtain ⟨b29, b27, bo, -⟩ := anS_b (k := 9) (x := x)
      obtain ⟨r1, -⟩ := hr.an (k := 9) (by decide) (by rw [ht]; exact c9)
      have rk : (3 : Int) ≤ rkI (pl m) := by
        rw [hp m (by omega), c9]
        decide
      have o1 : (anS 9 x).2 = x.2 := rfl
      have i1 := ih (anS 9 x) (poQ (sgC 9) q) (by omega) (by rw [bo 22 (by decide) (by decide) (by decide)]; exact hz) r1 (a1 q hE) (hw.le (by omega)) (fun i hi => hp i (by omega))
      rw [unA_y rk, hp m (by omega), c9]
      rw [o1] at i1
      generalize anF 9 m (anS 9 x) = y at *
      obtain ⟨i1, i2, i3, i4, i5, i6, i7, i8, i9, i10⟩ := i1
      have t1 : TyR x.1 (anS 9 x).1 (tr (bnN x.2 (m + 1) + 1)) (tr (bnN x.2 m + 1)) := by
        have eb : bnN x.2 (m + 1) = bnN x.2 m := by
          show bnN x.2 m + (if x.2 m = 10 ∨ x.2 m = 11 then 1 else 0) = _
          rw [if_neg (by omega)]
          omega
        rw [eb]
        exact (a3 rfl).wk (tr (bnN x.2 m))
      rw [if_pos rfl] at b27
      exact ⟨i1, i2, i3, i4, by omega, a2.tr i6, fun j a b e => (i7 j a b e).trans (bo j a b e), by omega, t1.tr a2 i9, i10⟩
    · rw [e2, if_neg (fun z => c9 (by rw [← ht]; exact z.1))]
      have w := (hw m (by omega)).1
      have rk : rkI (pl m) < 3 := by
        rw [hp m (by omega), sgC_r w]
        omega
      rw [unA_n (Or.inr (by rw [Nat.add_sub_cancel]; exact rk))]
      have e : hgt x = m + 1 := by unfold hgt; omega
      exact ⟨e.symm, hE, ⟨by omega, hz⟩, rfl, by omega, FrS.rf, fun _ _ _ _ => rfl, Int.le_refl _, by rw [e]; exact TyR.rf, by rw [ht]; exact c9⟩
theorem ANs.tr {z : GT} {r2 : Int} (h1 : ANs r c x y) (h2 : ANs r2 c y z) : ANs r2 c x z := by
  obtain ⟨a1, a2, a3, a4, a5, a6, a7, a8⟩ := h1
  obtain ⟨b1, b2, b3, b4, b5, b6, b7, b8⟩ := h2
  exact ⟨b1, b2, b3.trans a3, by omega, a5.tr b5, fun j a b e => (b6 j a b e).trans (a6 j a b e), by omega, a8.tr a5 b8⟩
theorem AN_9 {r2 : Int} (hK : 0 ≤ K) (hn : n ≤ 400) (h0 : 0 ≤ x.1.1 29) (hz : x.1.1 22 = 0) (hr : RA n K 0 x) (hl : LT r2 c (hgt x) x.1) (h3 : 3 ≤ r2) (hp : PO c x) : ANs 3 c x (anG 9 x) ∧ ¬ topF (anG 9 x) = 9 := by
  obtain ⟨l1, l2⟩ := hl
  have i1 := an9_s (pl := c.2.2.2.1) hK hn (hgt x) x _ (Int.toNat_of_nonneg h0).symm hz hr l2 hp.1 hp.2
  unfold anG
  obtain ⟨i1, i2, i3, i4, i5, i6, i7, i8, i9, i10⟩ := i1
  refine ⟨⟨?_, i3, i4, i5, i6, i7, i8, by rw [i4]; exact i9⟩, i10⟩
  unfold LT
  rw [← unA_c h3, l1]
  exact ⟨i1, i2⟩
/-- an op of two sides put down -/
theorem AN_1 {r2 k : Int} (hk : (k = 10 ∧ r = 2) ∨ (k = 11 ∧ r = 1)) (hK : 0 ≤ K) (hn : n ≤ 400) (h0 : 0 ≤ x.1.1 29) (hz : x.1.1 22 = 0) (hr : RA n K 0 x) (hl : LT r2 c (hgt x) x.1) (h3 : r ≤ r2) (hp : PO c x) (ht : hgt x = 0 ∨ x.2 (hgt x - 1) = k ∨ k < x.2 (hgt x - 1)) : ANs r c x (anG k x) ∧ (hgt (anG k x) = 0 ∨ k < x.2 (hgt (anG k x) - 1)) := by
  obtain ⟨l1, l2⟩ := hl
  obtain ⟨hw, hp⟩ := hp
  obtain ⟨b26, b23⟩ := ra_26 hr hK hn hz
  have e29 : x.1.1 29 = ((hgt x : Nat) : Int) := (Int.toNat_of_nonneg h0).symm
  have eG : anG k x = anF k (hgt x) x := rfl
  rw [eG]
  have hL : ∀ (m : Nat) (y : GT), (unA r c.2.2.2.1 (hgt x) (unA r2 c.2.2.2.1 (c.1 9).toNat (qOf c)).2).1 = m → SE (unA r c.2.2.2.1 (hgt x) (unA r2 c.2.2.2.1 (c.1 9).toNat (qOf c)).2).2 y.1 → LT r c m y.1 := fun m y a b => by
    unfold LT
    rw [← unA_c h3, l1]
    exact ⟨a, b⟩
  have same : anF k (hgt x) x = x → (hgt x = 0 ∨ rkI (c.2.2.2.1 (hgt x - 1)) < r) → ANs r c x (anF k (hgt x) x) := fun e hs => by
    rw [e]
    refine ⟨hL _ _ ?_ ?_, ⟨h0, hz⟩, rfl, Nat.le_refl _, FrS.rf, fun _ _ _ _ => rfl, Int.le_refl _, TyR.rf⟩
    · rw [unA_n hs]
    · rw [unA_n hs]; exact l2
  generalize hm : hgt x = m at *
  cases m with
  | zero =>
    have e : anF k 0 x = x := rfl
    refine ⟨same e (Or.inl rfl), ?_⟩
    rw [e, hm]
    exact Or.inl rfl
  | succ m =>
    have hto := topF_s e29
    have w := hw m (by omega)
    rw [Nat.add_sub_cancel] at ht same
    have ht := ht.resolve_left (by omega)
    have e2 : anF k (m + 1) x = if topF x = k ∧ x.1.1 22 = 0 then anF k m (anS k x) else x := rfl
    have pm := hp m (by omega)
    by_cases ck : x.2 m = k
    · rw [e2, if_pos ⟨by rw [hto]; exact ck, hz⟩]
      have hk3 : k = 9 ∨ k = 10 ∨ k = 11 := by omega
      obtain ⟨a1, a2, -, a3⟩ := anS_s (k := k) hk3 hz b26 b23
      obtain ⟨b29, b27, bo, -⟩ := anS_b (k := k) (x := x)
      rw [if_neg (by omega)] at b27
      have z2 : (anS k x).1.1 22 = 0 := by rw [bo 22 (by decide) (by decide) (by decide)]; exact hz
      have f29 : (anS k x).1.1 29 = (m : Int) := by omega
      have fh : hgt (anS k x) = m := by unfold hgt; omega
      have below : m = 0 ∨ k < x.2 (m - 1) := by
        rcases hk with ⟨rfl, -⟩ | ⟨rfl, -⟩
        · have := w.2.1 ck
          omega
        · have := w.2.2 ck
          omega
      have stop : anF k m (anS k x) = anS k x := by
        cases m with
        | zero => rfl
        | succ m =>
          have t2 := topF_s f29
          have e3 : anF k (m + 1) (anS k x) = if topF (anS k x) = k ∧ (anS k x).1.1 22 = 0 then anF k m (anS k (anS k x)) else anS k x := rfl
          rw [e3, if_neg]
          rintro ⟨z, -⟩
          rw [t2] at z
          have b := below.resolve_left (by omega)
          rw [Nat.add_sub_cancel] at b
          have : (anS k x).2 m = x.2 m := rfl
          omega
      rw [stop]
      have rk : r ≤ rkI (c.2.2.2.1 m) := by
        rw [pm, ck]
        rcases hk with ⟨rfl, rfl⟩ | ⟨rfl, rfl⟩ <;> decide
      have rn : m = 0 ∨ rkI (c.2.2.2.1 (m - 1)) < r := by
        rcases below with b | b
        · exact Or.inl b
        · by_cases m0 : m = 0
          · exact Or.inl m0
          · refine Or.inr ?_
            have w2 := (hw (m - 1) (by omega)).1
            rw [hp (m - 1) (by omega), sgC_r w2]
            omega
      have eU : ∀ q, unA r c.2.2.2.1 (m + 1) q = (m, poQ (sgC k) q) := fun q => by
        rw [unA_y rk, unA_n rn, pm, ck]
      refine ⟨⟨hL _ _ ?_ ?_, ⟨by omega, z2⟩, rfl, by omega, a2, bo, by omega, ?_⟩, ?_⟩
      · rw [eU, fh]
      · rw [eU]
        exact a1 _ l2
      · have eb : bnN x.2 (m + 1) = bnN x.2 m + 1 := by
          show bnN x.2 m + (if x.2 m = 10 ∨ x.2 m = 11 then 1 else 0) = _
          rw [if_pos (by omega)]
        rw [hm, eb, fh]
        exact (a3 (by omega)).wk (tr (bnN x.2 m))
      · rw [fh]
        exact below
    · have e : anF k (m + 1) x = x := by
        rw [e2, if_neg (fun z => ck (by rw [← hto]; exact z.1))]
      have w2 : k < x.2 m := ht.resolve_left ck
      refine ⟨same e (Or.inr ?_), ?_⟩
      · rw [pm, sgC_r w.1]
        omega
      · rw [e, hm, Nat.add_sub_cancel]
        exact Or.inr w2
/-- a pile is not high, as little of it is deep -/
theorem Wfo.bd : ∀ (h : Nat), Wfo o h → (h : Int) ≤ 3 * dpN o h + (if h = 0 then 0 else if o (h - 1) = 10 then 2 else if o (h - 1) = 11 then 1 else 0)
  | 0, _ => by
    show ((0 : Nat) : Int) ≤ 3 * 0 + 0
    decide
  | h + 1, hw => by
    have ih := Wfo.bd h (hw.le (by omega))
    have w := hw h (by omega)
    have ed : dpN o (h + 1) = dpN o h + (if o h = 9 ∨ o h = 12 then 1 else 0) := rfl
    have dp := dpN_p o h
    have e1 : (if h + 1 = 0 then (0 : Int) else if o (h + 1 - 1) = 10 then 2 else if o (h + 1 - 1) = 11 then 1 else 0) = (if o h = 10 then 2 else if o h = 11 then 1 else 0) := by rw [if_neg (by omega), Nat.add_sub_cancel]
    rw [ed, e1]
    rcases w.1 with q | q | q | q
    · rw [if_pos (Or.inl q), if_neg (by omega), if_neg (by omega)]
      split at ih
      · omega
      · split at ih
        · omega
        · split at ih <;> omega
    · rw [if_neg (by omega), if_pos q]
      have := w.2.1 q
      by_cases h0 : h = 0
      · omega
      · rw [if_neg h0, if_neg (by omega)] at ih
        split at ih <;> omega
    · rw [if_neg (by omega), if_neg (by omega), if_pos q]
      have := w.2.2 q
      by_cases h0 : h = 0
      · omega
      · rw [if_neg h0, if_neg (by omega), if_neg (by omega)] at ih
        omega
    · rw [if_pos (Or.inr q), if_neg (by omega), if_neg (by omega)]
      split at ih
      · omega
      · split at ih
        · omega
        · split at ih <;> omega
theorem hgt_b (hw : Wfo x.2 (hgt x)) (hr : RA n K 0 x) (h10 : x.1.1 27 ≤ 10) : hgt x ≤ 32 := by
  have a := Wfo.bd _ hw
  have b : dpN x.2 (hgt x) ≤ x.1.1 27 := hr.2.2.1
  split at a
  · omega
  · split at a
    · omega
    · split at a <;> omega
end OPN
