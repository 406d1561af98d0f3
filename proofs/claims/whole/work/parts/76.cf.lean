-- THE CLASS'S FLOOR, as the reference's rows
def sc8 (g h : Nat → Int) : Nat → Int := fun j => match j with
  | 0 => g 0
  | 1 => g 1
  | 2 => g 2
  | 3 => g 3
  | 4 => g 5
  | 5 => h 0
  | 7 => g 4
  | _ => 0
def cF (W : AW) (m : Nat) : SG := fun k => match k with
  | 0 => sc8 (ob W m) (ob W (m + 9))
  | 1 => ar W (m + 1)
  | 2 => ar W (m + 2)
  | 3 => ar W (m + 3)
  | 4 => ar W (m + 4)
  | 5 => ar W (m + 5)
  | 6 => ar W (m + 6)
  | 7 => ar W (m + 7)
  | 8 => ar W (m + 8)
  | 9 => ar W (m + 10)
  | 10 => ar W (m + 12)
  | 11 => ar W (m + 13)
  | 12 => ar W (m + 14)
  | 13 => ar W (m + 15)
  | 14 => ar W (m + 16)
  | _ => fun _ => 0
theorem sc8_t {g h : Nat → Int} {v : Int} : sc8 (fu g 5 v) h = fu (sc8 g h) 4 v := by
  funext j
  unfold fu
  match j with
  | 0 | 1 | 2 | 3 | 4 | 5 | 6 | 7 => rfl
  | j + 8 => rfl
theorem sc8_m {g h : Nat → Int} {v : Int} : sc8 g (fu h 0 v) = fu (sc8 g h) 5 v := by
  funext j
  unfold fu
  match j with
  | 0 | 1 | 2 | 3 | 4 | 5 | 6 | 7 => rfl
  | j + 8 => rfl
theorem sc8_c {g g2 h h2 : Nat → Int} (e0 : g 0 = g2 0) (e1 : g 1 = g2 1) (e2 : g 2 = g2 2) (e3 : g 3 = g2 3) (e4 : g 4 = g2 4) (e5 : g 5 = g2 5) (e6 : h 0 = h2 0) : sc8 g h = sc8 g2 h2 := by
  funext j
  match j with
  | 0 => exact e0
  | 1 => exact e1
  | 2 => exact e2
  | 3 => exact e3
  | 4 => exact e5
  | 5 => exact e6
  | 6 => rfl
  | 7 => exact e4
  | j + 8 => rfl
section CF
variable {W : AW} {m : Nat}
theorem cF_c {W' : AW} (h : ∀ k, k ≤ 16 → k ≠ 11 → W'.2 (m + k) = W.2 (m + k)) : cF W' m = cF W m := by
  have h0 : W'.2 m = W.2 m := h 0 (by decide) (by decide)
  funext k
  match k with
  | 0 => show sc8 _ _ = sc8 _ _; rw [ob_c h0, ob_c (h 9 (by decide) (by decide))]
  | 1 => exact ar_c (h 1 (by decide) (by decide))
  | 2 => exact ar_c (h 2 (by decide) (by decide))
  | 3 => exact ar_c (h 3 (by decide) (by decide))
  | 4 => exact ar_c (h 4 (by decide) (by decide))
  | 5 => exact ar_c (h 5 (by decide) (by decide))
  | 6 => exact ar_c (h 6 (by decide) (by decide))
  | 7 => exact ar_c (h 7 (by decide) (by decide))
  | 8 => exact ar_c (h 8 (by decide) (by decide))
  | 9 => exact ar_c (h 10 (by decide) (by decide))
  | 10 => exact ar_c (h 12 (by decide) (by decide))
  | 11 => exact ar_c (h 13 (by decide) (by decide))
  | 12 => exact ar_c (h 14 (by decide) (by decide))
  | 13 => exact ar_c (h 15 (by decide) (by decide))
  | 14 => exact ar_c (h 16 (by decide) (by decide))
  | k + 15 => rfl
theorem cF_o {j : Nat} {e : AE} (h : j < m ∨ m + 16 < j ∨ j = m + 11) : cF (wu W j e) m = cF W m := cF_c (fun k a b => wu_ne (by omega))
theorem cf_1 {t n : Nat} {f : Nat → Int} : cF (wu W (m + 1) (ea t n f)) m = fu (cF W m) 1 f := by
  funext j
  unfold fu
  match j with
  | 0 => show sc8 _ _ = sc8 _ _; rw [ob_n (by omega), ob_n (by omega)]
  | 1 => exact ar_s
  | 2 => exact ar_n (by omega)
  | 3 => exact ar_n (by omega)
  | 4 => exact ar_n (by omega)
  | 5 => exact ar_n (by omega)
  | 6 => exact ar_n (by omega)
  | 7 => exact ar_n (by omega)
  | 8 => exact ar_n (by omega)
  | 9 => exact ar_n (by omega)
  | 10 => exact ar_n (by omega)
  | 11 => exact ar_n (by omega)
  | 12 => exact ar_n (by omega)
  | 13 => exact ar_n (by omega)
  | 14 => exact ar_n (by omega)
  | j + 15 => rfl
theorem cf_2 {t n : Nat} {f : Nat → Int} : cF (wu W (m + 2) (ea t n f)) m = fu (cF W m) 2 f := by
  funext j
  unfold fu
  match j with
  | 0 => show sc8 _ _ = sc8 _ _; rw [ob_n (by omega), ob_n (by omega)]
  | 1 => exact ar_n (by omega)
  | 2 => exact ar_s
  | 3 => exact ar_n (by omega)
  | 4 => exact ar_n (by omega)
  | 5 => exact ar_n (by omega)
  | 6 => exact ar_n (by omega)
  | 7 => exact ar_n (by omega)
  | 8 => exact ar_n (by omega)
  | 9 => exact ar_n (by omega)
  | 10 => exact ar_n (by omega)
  | 11 => exact ar_n (by omega)
  | 12 => exact ar_n (by omega)
  | 13 => exact ar_n (by omega)
  | 14 => exact ar_n (by omega)
  | j + 15 => rfl
theorem cf_3 {t n : Nat} {f : Nat → Int} : cF (wu W (m + 3) (ea t n f)) m = fu (cF W m) 3 f := by
  funext j
  unfold fu
  match j with
  | 0 => show sc8 _ _ = sc8 _ _; rw [ob_n (by omega), ob_n (by omega)]
  | 1 => exact ar_n (by omega)
  | 2 => exact ar_n (by omega)
  | 3 => exact ar_s
  | 4 => exact ar_n (by omega)
  | 5 => exact ar_n (by omega)
  | 6 => exact ar_n (by omega)
  | 7 => exact ar_n (by omega)
  | 8 => exact ar_n (by omega)
  | 9 => exact ar_n (by omega)
  | 10 => exact ar_n (by omega)
  | 11 => exact ar_n (by omega)
  | 12 => exact ar_n (by omega)
  | 13 => exact ar_n (by omega)
  | 14 => exact ar_n (by omega)
  | j + 15 => rfl
theorem cf_4 {t n : Nat} {f : Nat → Int} : cF (wu W (m + 4) (ea t n f)) m = fu (cF W m) 4 f := by
  funext j
  unfold fu
  match j with
  | 0 => show sc8 _ _ = sc8 _ _; rw [ob_n (by omega), ob_n (by omega)]
  | 1 => exact ar_n (by omega)
  | 2 => exact ar_n (by omega)
  | 3 => exact ar_n (by omega)
  | 4 => exact ar_s
  | 5 => exact ar_n (by omega)
  | 6 => exact ar_n (by omega)
  | 7 => exact ar_n (by omega)
  | 8 => exact ar_n (by omega)
  | 9 => exact ar_n (by omega)
  | 10 => exact ar_n (by omega)
  | 11 => exact ar_n (by omega)
  | 12 => exact ar_n (by omega)
  | 13 => exact ar_n (by omega)
  | 14 => exact ar_n (by omega)
  | j + 15 => rfl
theorem cf_5 {t n : Nat} {f : Nat → Int} : cF (wu W (m + 5) (ea t n f)) m = fu (cF W m) 5 f := by
  funext j
  unfold fu
  match j with
  | 0 => show sc8 _ _ = sc8 _ _; rw [ob_n (by omega), ob_n (by omega)]
  | 1 => exact ar_n (by omega)
  | 2 => exact ar_n (by omega)
  | 3 => exact ar_n (by omega)
  | 4 => exact ar_n (by omega)
  | 5 => exact ar_s
  | 6 => exact ar_n (by omega)
  | 7 => exact ar_n (by omega)
  | 8 => exact ar_n (by omega)
  | 9 => exact ar_n (by omega)
  | 10 => exact ar_n (by omega)
  | 11 => exact ar_n (by omega)
  | 12 => exact ar_n (by omega)
  | 13 => exact ar_n (by omega)
  | 14 => exact ar_n (by omega)
  | j + 15 => rfl
theorem cf_6 {t n : Nat} {f : Nat → Int} : cF (wu W (m + 6) (ea t n f)) m = fu (cF W m) 6 f := by
  funext j
  unfold fu
  match j with
  | 0 => show sc8 _ _ = sc8 _ _; rw [ob_n (by omega), ob_n (by omega)]
  | 1 => exact ar_n (by omega)
  | 2 => exact ar_n (by omega)
  | 3 => exact ar_n (by omega)
  | 4 => exact ar_n (by omega)
  | 5 => exact ar_n (by omega)
  | 6 => exact ar_s
  | 7 => exact ar_n (by omega)
  | 8 => exact ar_n (by omega)
  | 9 => exact ar_n (by omega)
  | 10 => exact ar_n (by omega)
  | 11 => exact ar_n (by omega)
  | 12 => exact ar_n (by omega)
  | 13 => exact ar_n (by omega)
  | 14 => exact ar_n (by omega)
  | j + 15 => rfl
theorem cf_7 {t n : Nat} {f : Nat → Int} : cF (wu W (m + 7) (ea t n f)) m = fu (cF W m) 7 f := by
  funext j
  unfold fu
  match j with
  | 0 => show sc8 _ _ = sc8 _ _; rw [ob_n (by omega), ob_n (by omega)]
  | 1 => exact ar_n (by omega)
  | 2 => exact ar_n (by omega)
  | 3 => exact ar_n (by omega)
  | 4 => exact ar_n (by omega)
  | 5 => exact ar_n (by omega)
  | 6 => exact ar_n (by omega)
  | 7 => exact ar_s
  | 8 => exact ar_n (by omega)
  | 9 => exact ar_n (by omega)
  | 10 => exact ar_n (by omega)
  | 11 => exact ar_n (by omega)
  | 12 => exact ar_n (by omega)
  | 13 => exact ar_n (by omega)
  | 14 => exact ar_n (by omega)
  | j + 15 => rfl
theorem cf_8 {t n : Nat} {f : Nat → Int} : cF (wu W (m + 8) (ea t n f)) m = fu (cF W m) 8 f := by
  funext j
  unfold fu
  match j with
  | 0 => show sc8 _ _ = sc8 _ _; rw [ob_n (by omega), ob_n (by omega)]
  | 1 => exact ar_n (by omega)
  | 2 => exact ar_n (by omega)
  | 3 => exact ar_n (by omega)
  | 4 => exact ar_n (by omega)
  | 5 => exact ar_n (by omega)
  | 6 => exact ar_n (by omega)
  | 7 => exact ar_n (by omega)
  | 8 => exact ar_s
  | 9 => exact ar_n (by omega)
  | 10 => exact ar_n (by omega)
  | 11 => exact ar_n (by omega)
  | 12 => exact ar_n (by omega)
  | 13 => exact ar_n (by omega)
  | 14 => exact ar_n (by omega)
  | j + 15 => rfl
theorem cf_10 {t n : Nat} {f : Nat → Int} : cF (wu W (m + 10) (ea t n f)) m = fu (cF W m) 9 f := by
  funext j
  unfold fu
  match j with
  | 0 => show sc8 _ _ = sc8 _ _; rw [ob_n (by omega), ob_n (by omega)]
  | 1 => exact ar_n (by omega)
  | 2 => exact ar_n (by omega)
  | 3 => exact ar_n (by omega)
  | 4 => exact ar_n (by omega)
  | 5 => exact ar_n (by omega)
  | 6 => exact ar_n (by omega)
  | 7 => exact ar_n (by omega)
  | 8 => exact ar_n (by omega)
  | 9 => exact ar_s
  | 10 => exact ar_n (by omega)
  | 11 => exact ar_n (by omega)
  | 12 => exact ar_n (by omega)
  | 13 => exact ar_n (by omega)
  | 14 => exact ar_n (by omega)
  | j + 15 => rfl
theorem cf_12 {t n : Nat} {f : Nat → Int} : cF (wu W (m + 12) (ea t n f)) m = fu (cF W m) 10 f := by
  funext j
  unfold fu
  match j with
  | 0 => show sc8 _ _ = sc8 _ _; rw [ob_n (by omega), ob_n (by omega)]
  | 1 => exact ar_n (by omega)
  | 2 => exact ar_n (by omega)
  | 3 => exact ar_n (by omega)
  | 4 => exact ar_n (by omega)
  | 5 => exact ar_n (by omega)
  | 6 => exact ar_n (by omega)
  | 7 => exact ar_n (by omega)
  | 8 => exact ar_n (by omega)
  | 9 => exact ar_n (by omega)
  | 10 => exact ar_s
  | 11 => exact ar_n (by omega)
  | 12 => exact ar_n (by omega)
  | 13 => exact ar_n (by omega)
  | 14 => exact ar_n (by omega)
  | j + 15 => rfl
theorem cf_13 {t n : Nat} {f : Nat → Int} : cF (wu W (m + 13) (ea t n f)) m = fu (cF W m) 11 f := by
  funext j
  unfold fu
  match j with
  | 0 => show sc8 _ _ = sc8 _ _; rw [ob_n (by omega), ob_n (by omega)]
  | 1 => exact ar_n (by omega)
  | 2 => exact ar_n (by omega)
  | 3 => exact ar_n (by omega)
  | 4 => exact ar_n (by omega)
  | 5 => exact ar_n (by omega)
  | 6 => exact ar_n (by omega)
  | 7 => exact ar_n (by omega)
  | 8 => exact ar_n (by omega)
  | 9 => exact ar_n (by omega)
  | 10 => exact ar_n (by omega)
  | 11 => exact ar_s
  | 12 => exact ar_n (by omega)
  | 13 => exact ar_n (by omega)
  | 14 => exact ar_n (by omega)
  | j + 15 => rfl
theorem cf_14 {t n : Nat} {f : Nat → Int} : cF (wu W (m + 14) (ea t n f)) m = fu (cF W m) 12 f := by
  funext j
  unfold fu
  match j with
  | 0 => show sc8 _ _ = sc8 _ _; rw [ob_n (by omega), ob_n (by omega)]
  | 1 => exact ar_n (by omega)
  | 2 => exact ar_n (by omega)
  | 3 => exact ar_n (by omega)
  | 4 => exact ar_n (by omega)
  | 5 => exact ar_n (by omega)
  | 6 => exact ar_n (by omega)
  | 7 => exact ar_n (by omega)
  | 8 => exact ar_n (by omega)
  | 9 => exact ar_n (by omega)
  | 10 => exact ar_n (by omega)
  | 11 => exact ar_n (by omega)
  | 12 => exact ar_s
  | 13 => exact ar_n (by omega)
  | 14 => exact ar_n (by omega)
  | j + 15 => rfl
theorem cf_15 {t n : Nat} {f : Nat → Int} : cF (wu W (m + 15) (ea t n f)) m = fu (cF W m) 13 f := by
  funext j
  unfold fu
  match j with
  | 0 => show sc8 _ _ = sc8 _ _; rw [ob_n (by omega), ob_n (by omega)]
  | 1 => exact ar_n (by omega)
  | 2 => exact ar_n (by omega)
  | 3 => exact ar_n (by omega)
  | 4 => exact ar_n (by omega)
  | 5 => exact ar_n (by omega)
  | 6 => exact ar_n (by omega)
  | 7 => exact ar_n (by omega)
  | 8 => exact ar_n (by omega)
  | 9 => exact ar_n (by omega)
  | 10 => exact ar_n (by omega)
  | 11 => exact ar_n (by omega)
  | 12 => exact ar_n (by omega)
  | 13 => exact ar_s
  | 14 => exact ar_n (by omega)
  | j + 15 => rfl
theorem cf_16 {t n : Nat} {f : Nat → Int} : cF (wu W (m + 16) (ea t n f)) m = fu (cF W m) 14 f := by
  funext j
  unfold fu
  match j with
  | 0 => show sc8 _ _ = sc8 _ _; rw [ob_n (by omega), ob_n (by omega)]
  | 1 => exact ar_n (by omega)
  | 2 => exact ar_n (by omega)
  | 3 => exact ar_n (by omega)
  | 4 => exact ar_n (by omega)
  | 5 => exact ar_n (by omega)
  | 6 => exact ar_n (by omega)
  | 7 => exact ar_n (by omega)
  | 8 => exact ar_n (by omega)
  | 9 => exact ar_n (by omega)
  | 10 => exact ar_n (by omega)
  | 11 => exact ar_n (by omega)
  | 12 => exact ar_n (by omega)
  | 13 => exact ar_n (by omega)
  | 14 => exact ar_s
  | j + 15 => rfl
theorem cf_t {v : Int} : cF (wu W m (o2 m (fu (ob W m) 5 v))) m = fu (cF W m) 0 (fu (cF W m 0) 4 v) := by
  funext j
  unfold fu
  match j with
  | 0 =>
    show sc8 _ _ = _
    rw [ob_n (j := m + 9) (by omega)]
    exact (sc8_c b2_0 b2_1 b2_2 b2_3 b2_4 b2_5 rfl).trans sc8_t
  | 1 => exact ar_n (by omega)
  | 2 => exact ar_n (by omega)
  | 3 => exact ar_n (by omega)
  | 4 => exact ar_n (by omega)
  | 5 => exact ar_n (by omega)
  | 6 => exact ar_n (by omega)
  | 7 => exact ar_n (by omega)
  | 8 => exact ar_n (by omega)
  | 9 => exact ar_n (by omega)
  | 10 => exact ar_n (by omega)
  | 11 => exact ar_n (by omega)
  | 12 => exact ar_n (by omega)
  | 13 => exact ar_n (by omega)
  | 14 => exact ar_n (by omega)
  | j + 15 => rfl
theorem cf_m {v : Int} : cF (wu W (m + 9) (o7 (m + 9) (fu (ob W (m + 9)) 0 v))) m = fu (cF W m) 0 (fu (cF W m 0) 5 v) := by
  funext j
  unfold fu
  match j with
  | 0 =>
    show sc8 _ _ = _
    rw [ob_n (j := m) (by omega)]
    exact (sc8_c rfl rfl rfl rfl rfl rfl b7_0).trans sc8_m
  | 1 => exact ar_n (by omega)
  | 2 => exact ar_n (by omega)
  | 3 => exact ar_n (by omega)
  | 4 => exact ar_n (by omega)
  | 5 => exact ar_n (by omega)
  | 6 => exact ar_n (by omega)
  | 7 => exact ar_n (by omega)
  | 8 => exact ar_n (by omega)
  | 9 => exact ar_n (by omega)
  | 10 => exact ar_n (by omega)
  | 11 => exact ar_n (by omega)
  | 12 => exact ar_n (by omega)
  | 13 => exact ar_n (by omega)
  | 14 => exact ar_n (by omega)
  | j + 15 => rfl
end CF
/-- but the floor at m and the weather's own rows all is as it was -/
def Fc (m : Nat) (W W' : AW) : Prop := W'.1 = W.1 ∧ ∀ k, k < m ∨ m + 16 < k → k < 128 ∨ 132 < k → W'.2 k = W.2 k
theorem Fc.rf {m : Nat} {W : AW} : Fc m W W := ⟨rfl, fun _ _ _ => rfl⟩
theorem Fc.tr {m : Nat} {W W1 W2 : AW} (h : Fc m W W1) (g : Fc m W1 W2) : Fc m W W2 := ⟨g.1.trans h.1, fun k a b => (g.2 k a b).trans (h.2 k a b)⟩
theorem Fc.up {m : Nat} {W W1 : AW} (h : Fc m W W1) {j : Nat} {e : AE} (hj : (m ≤ j ∧ j ≤ m + 16) ∨ (128 ≤ j ∧ j ≤ 132)) : Fc m W (wu W1 j e) := ⟨h.1, fun k a b => (wu_ne (by omega)).trans (h.2 k a b)⟩
-- how many of the first n are x
def cn (t : Nat → Int) (x : Int) : Nat → Int
  | 0 => 0
  | n + 1 => cn t x n + if t n = x then 1 else 0
theorem cn_b {t : Nat → Int} {x : Int} : ∀ n : Nat, 0 ≤ cn t x n ∧ cn t x n ≤ n
  | 0 => by show (0 : Int) ≤ 0 ∧ (0 : Int) ≤ ((0 : Nat) : Int); omega
  | n + 1 => by
    have := cn_b (t := t) (x := x) n
    unfold cn
    split <;> omega
theorem cn_c {t u : Nat → Int} {x : Int} : ∀ n : Nat, (∀ k, k < n → (t k = x ↔ u k = x)) → cn t x n = cn u x n
  | 0, _ => rfl
  | n + 1, h => by
    unfold cn
    rw [cn_c n (fun k hk => h k (by omega))]
    have := h n (by omega)
    by_cases c : t n = x
    · rw [if_pos c, if_pos (this.mp c)]
    · rw [if_neg c, if_neg (fun q => c (this.mpr q))]
theorem cn_u {t : Nat → Int} {x v : Int} {j : Nat} : ∀ n : Nat, j < n → cn (fu t j v) x n = cn t x n + (if v = x then 1 else 0) - (if t j = x then 1 else 0)
  | 0, h => by omega
  | n + 1, h => by
    unfold cn
    by_cases c : j = n
    · subst c
      rw [fu_eq, cn_c (t := fu t j v) (u := t) j (fun k hk => by rw [fu_ne _ _ (by omega)])]
      split <;> split <;> omega
    · rw [cn_u n (by omega), fu_ne _ _ (by omega)]
      split <;> split <;> split <;> omega
theorem cn_z {t : Nat → Int} {x : Int} {n : Nat} (h : ∀ k, k < n → ¬ t k = x) : cn t x n = 0 := by
  induction n with
  | zero => rfl
  | succ n ih =>
    unfold cn
    rw [ih (fun k hk => h k (by omega)), if_neg (h n (by omega))]
    rfl
-- a pull hangs on the edges of its line alone
theorem ln_B {e e2 n : Int} (h0 : 0 ≤ e2) (h1 : e2 < 180) (hn : 0 ≤ n) (hp : n ≤ epl e2) (he : e2 - n * esd e2 = e) : ∃ k : Int, 0 ≤ k ∧ k < 9 ∧ e2 = e - epl e * esd e + k * esd e := by
  by_cases h : e2 < 90
  · rw [epl_l h, exo_l h] at hp
    rw [esd_l h] at he
    refine ⟨e2 % 9, by omega, by omega, ?_⟩
    rw [epl_l (by omega), exo_l (by omega), esd_l (by omega)]
    omega
  · rw [epl_r (by omega), eyo_r (by omega)] at hp
    rw [esd_r (by omega)] at he
    refine ⟨(e2 - 90) / 10, by omega, by omega, ?_⟩
    rw [epl_r (by omega), eyo_r (by omega), esd_r (by omega)]
    omega
theorem ln_F {e e2 n : Int} (h0 : 0 ≤ e2) (h1 : e2 < 180) (hn : 0 ≤ n) (hp : epl e2 + n ≤ 8) (he : e2 + n * esd e2 = e) : ∃ k : Int, 0 ≤ k ∧ k < 9 ∧ e2 = e - epl e * esd e + k * esd e := by
  by_cases h : e2 < 90
  · rw [epl_l h, exo_l h] at hp
    rw [esd_l h] at he
    refine ⟨e2 % 9, by omega, by omega, ?_⟩
    rw [epl_l (by omega), exo_l (by omega), esd_l (by omega)]
    omega
  · rw [epl_r (by omega), eyo_r (by omega)] at hp
    rw [esd_r (by omega)] at he
    refine ⟨(e2 - 90) / 10, by omega, by omega, ?_⟩
    rw [epl_r (by omega), eyo_r (by omega), esd_r (by omega)]
    omega
theorem rcB_n {t : Nat → Int} {e2 l v : Int} {j : Nat} (h0 : 0 ≤ e2) (h1 : e2 < 180) (hj : ∀ k : Int, 0 ≤ k → k < 9 → ¬ e2 = (j : Int) - epl j * esd j + k * esd j) : ∀ (f : Nat) (n : Int), 0 ≤ n → rcB (fu t j v) e2 l f n = rcB t e2 l f n
  | 0, _, _ => rfl
  | f + 1, n, hn => by
    unfold rcB
    rw [rcB_n h0 h1 hj f (n + 1) (by omega)]
    by_cases c : n ≤ epl e2
    · have hb := inB h0 h1 hn c
      rw [fu_ne _ _ (fun q => by obtain ⟨k, k0, k1, k2⟩ := ln_B (e := (j : Int)) h0 h1 hn c (by omega); exact hj k k0 k1 k2)]
    · rw [if_neg (fun q => c q.2.1), if_neg (fun q => c q.2.1)]
theorem rcF_n {t : Nat → Int} {e2 l v : Int} {j : Nat} (h0 : 0 ≤ e2) (h1 : e2 < 180) (hj : ∀ k : Int, 0 ≤ k → k < 9 → ¬ e2 = (j : Int) - epl j * esd j + k * esd j) : ∀ (f : Nat) (n : Int), 0 ≤ n → rcF (fu t j v) e2 l f n = rcF t e2 l f n
  | 0, _, _ => rfl
  | f + 1, n, hn => by
    unfold rcF
    rw [rcF_n h0 h1 hj f (n + 1) (by omega)]
    by_cases c : epl e2 + n ≤ 8
    · have hb := inF h0 h1 hn c
      rw [fu_ne _ _ (fun q => by obtain ⟨k, k0, k1, k2⟩ := ln_F (e := (j : Int)) h0 h1 hn c (by omega); exact hj k k0 k1 k2)]
    · rw [if_neg (fun q => c q.2.1), if_neg (fun q => c q.2.1)]
theorem pul_n {t w : Nat → Int} {e2 l v : Int} {j : Nat} (h0 : 0 ≤ e2) (h1 : e2 < 180) (hj : ∀ k : Int, 0 ≤ k → k < 9 → ¬ e2 = (j : Int) - epl j * esd j + k * esd j) : pul (fu t j v) w l e2 = pul t w l e2 := by
  unfold pul
  rw [rcB_n h0 h1 hj 9 1 (by decide), rcF_n h0 h1 hj 9 1 (by decide)]
/-- the edges of a line -/
theorem lin_b {e k : Int} (h0 : 0 ≤ e) (h1 : e < 180) (k0 : 0 ≤ k) (k1 : k < 9) : 0 ≤ e - epl e * esd e + k * esd e ∧ e - epl e * esd e + k * esd e < 180 ∧ in32 (epl e * esd e) ∧ in32 (k * esd e) ∧ in32 (e - epl e * esd e) := by
  unfold in32
  by_cases h : e < 90
  · rw [epl_l h, exo_l h, esd_l h]; omega
  · rw [epl_r (by omega), eyo_r (by omega), esd_r (by omega)]; omega
section C3
variable {W : AW} {Q : AQ} {m ll : Nat} {e : Int} {lw : LW}
theorem m_rip {t : Int} (h : MS W m) (hW : m + 16 < W.1) (hm : 67 ≤ m) (h0 : 0 ≤ e) (h1 : e < 180) (t0 : 0 ≤ t) (t1 : t < 200) (hl : 0 ≤ ar W (m + 11) t.toNat ∧ ar W (m + 11) t.toNat ≤ 1000) : Gm 111 [vr m, vi e, vi t] W Q ↔ Q none (wu (wu (wu (wu W (m + 6) (ea 0 180 (fu (ar W (m + 6)) e.toNat t))) (m + 7) (ea 0 180 (fu (ar W (m + 7)) e.toNat 1))) (m + 8) (ea 0 180 (fu (ar W (m + 8)) e.toNat 0))) (m + 11) (ea 0 200 (fu (ar W (m + 11)) t.toNat (ar W (m + 11) t.toNat + 1)))) := by
  have q67 : nfz = 67 := rfl
  rw [e111]
  simp (disch := omega) only [s_1, s_2, s_3, s_4, s_76, s_5, s_6, s_7, s_8, s_9, s_10, s_11, s_12, s_13, s_14, s_15, s_16, s_17, s_18, s_19, s_20, s_21, s_22, s_23, s_24, s_25, s_26, s_27, s_28, s_29, s_30, s_31, s_32, s_33, s_34, s_35, s_36, s_37, s_38, s_39, s_40l, s_40i, s_40r, s_41, s_43, t_44, t_45, t_46, t_47, s_48, s_49, s_50, s_51, s_52, s_53, s_54, s_55, s_56, s_57, s_58, s_59, s_60, s_61, s_62_0, s_62_1, s_62_2, s_66, s_67, s_68, s_69, s_70, s_71, s_72, s_73, sws_n, sws_c, lget, lset, fget, fset, nolg, nolong, avc, stw, cnd, isobj_eo, GCi, GCn, retk, List.length_cons, List.length_nil, ↓reduceIte, and_true, true_and, not_true_eq_false, not_false_eq_true, forall_const, Nat.reduceAdd, Nat.reduceLT, Nat.reduceLeDiff, Nat.lt_add_one, Nat.le_refl, Nat.zero_le, Nat.sub_zero, Int.reduceEq, Int.reduceNe, Int.reduceLT, Int.reduceLE, Int.reduceAdd, Int.reduceSub, Int.reduceMul, Int.reduceNeg, Int.reduceTDiv, Int.reduceTMod, ne_eq, reduceCtorEq, Nat.reduceEqDiff, Int.cast_ofNat_Int, true_or, or_true, false_or, or_false, lcq_0, lcq_2, lcq_3, lcq_4, lcq_5, wu_s, wu_1, wu_w, wu_lt, wu_ne, ar_s, ar_n, rr_s, rr_n, ob_n, nz_c, lt_T, lt_F, le_T, le_F, ie_T, ie_F, nt_T, nt_F, nl_T, nl_F, in_T, and_false, false_and, and_self, not_true_eq_false, Int.toNat_natCast, Int.reduceToNat, if_true, if_false, mi_111, i111_0, i111_1, i111_4, i111_5, i111_6, i111_7, i111_8, i111_11, i111_12, i111_13, i111_14, i111_15, i111_18, i111_19, i111_20, i111_21, i111_22, i111_25, i111_28, i111_29, i111_30, i111_31, i111_32, i111_33, i111_34, g2_11, g2_12, g2_13, g2_14, g7_2, ma_0 h, ma_6 h, ma_7 h, ma_8 h, ma_9 h, ma_11 h]
def PHp (t w : Nat → Int) (l : Int) (p : Nat → Int) : Prop := ∀ x : Nat, x < 180 → t x = -1 → p x = pul t w l x
theorem PHp.lin {t w p p2 : Nat → Int} {l v : Int} {j : Nat} (hj : j < 180) (hv : ¬ v = -1) (h : PHp t w l p) (h2 : ∀ x : Nat, x < 180 → (p2 x = p x ∧ ∀ k : Int, 0 ≤ k → k < 9 → ¬ (x : Int) = (j : Int) - epl j * esd j + k * esd j) ∨ (fu t j v x = -1 → p2 x = pul (fu t j v) w l x)) : PHp (fu t j v) w l p2 := fun x hx ht => by
  rcases h2 x hx with ⟨a, b⟩ | a
  · rw [a, pul_n (by omega) (by omega) b]
    by_cases c : x = j
    · subst c
      rw [fu_eq] at ht
      exact absurd ht hv
    · rw [fu_ne _ _ c] at ht
      exact h x hx ht
  · exact a ht
end C3
