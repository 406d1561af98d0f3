-- DRYING AND SEEPING, as functions of rows
def drq (lw : LW) (tk h : Int) (w sh sa : Nat → Int) (c : Nat) : Int := (max 0 (min (w c) (lw.1 0 (w7 ((c : Int) % 10) ((c : Int) / 10) tk (w c) (sh c) (sa c) 0))) * h).tdiv 100
def dry (lw : LW) (tk h : Int) (w sh sa : Nat → Int) : Nat → Int := tlo w (fun c => w c - drq lw tk h w sh sa c) 100
theorem drx {x h : Int} (hx : 0 ≤ x) (h0 : 0 ≤ h) (h1 : h ≤ 100) : 0 ≤ x * h ∧ x * h ≤ x * 100 ∧ 0 ≤ (x * h).tdiv 100 ∧ (x * h).tdiv 100 ≤ x := by
  have a1 : 0 ≤ x * h := Int.mul_nonneg hx h0
  have a2 : x * h ≤ x * 100 := Int.mul_le_mul_of_nonneg_left h1 hx
  rw [Int.tdiv_eq_ediv_of_nonneg a1]
  omega
theorem drq_b {lw : LW} {tk h : Int} {w sh sa : Nat → Int} {c : Nat} (hw : Thou w) (h0 : 0 ≤ h) (h1 : h ≤ 100) : 0 ≤ drq lw tk h w sh sa c ∧ drq lw tk h w sh sa c ≤ w c := by
  have h2 := hw c
  unfold drq
  generalize lw.1 0 _ = x
  have := drx (x := max 0 (min (w c) x)) (by omega) h0 h1
  omega
theorem dry_b {lw : LW} {tk h : Int} {w sh sa : Nat → Int} (hw : Thou w) (h0 : 0 ≤ h) (h1 : h ≤ 100) : Thou (dry lw tk h w sh sa) := fun k => by
  have h2 := hw k
  have h3 := drq_b (lw := lw) (tk := tk) (sh := sh) (sa := sa) (c := k) hw h0 h1
  unfold dry tlo
  dsimp only
  split <;> omega
def sop (w : Nat → Int) (a : Nat) : Nat → Int := fu (fu w a (w a + (w (a + 100) - w a).tdiv 8)) (a + 100) (w (a + 100) - (w (a + 100) - w a).tdiv 8)
theorem td8 {z : Int} : (0 ≤ z → 0 ≤ z.tdiv 8 ∧ z.tdiv 8 ≤ z) ∧ (z < 0 → z ≤ z.tdiv 8 ∧ z.tdiv 8 ≤ 0) := by
  refine ⟨fun h => ?_, fun h => ?_⟩
  · rw [Int.tdiv_eq_ediv_of_nonneg h]; omega
  · have := Int.neg_tdiv (-z) 8
    rw [Int.neg_neg, Int.tdiv_eq_ediv_of_nonneg (a := -z) (by omega)] at this
    omega
theorem sop_b {w : Nat → Int} {a : Nat} (hw : Thou w) : Thou (sop w a) := fun k => by
  have h1 := hw a
  have h2 := hw (a + 100)
  have h3 := hw k
  have h4 := td8 (z := w (a + 100) - w a)
  unfold sop fu
  split
  · omega
  · split <;> omega
def sqC (w : Nat → Int) : Nat → (Nat → Int)
  | 0 => w
  | n + 1 => sop (sqC w n) n
def sqL (w : Nat → Int) (c : Nat) : Nat → (Nat → Int)
  | 0 => w
  | l + 1 => sop (sqL w c l) (100 * l + c)
def sqR (w : Nat → Int) (d : Nat) : Nat → (Nat → Int)
  | 0 => w
  | c + 1 => sqL (sqR w d c) c d
theorem sqC_b {w : Nat → Int} (hw : Thou w) : ∀ n, Thou (sqC w n)
  | 0 => hw
  | n + 1 => sop_b (sqC_b hw n)
theorem sqL_b {w : Nat → Int} {c : Nat} (hw : Thou w) : ∀ n, Thou (sqL w c n)
  | 0 => hw
  | n + 1 => sop_b (sqL_b hw n)
theorem sqR_b {w : Nat → Int} {d : Nat} (hw : Thou w) : ∀ n, Thou (sqR w d n)
  | 0 => hw
  | n + 1 => sqL_b (sqR_b hw n) d
def cst (w : Nat → Int) (c : Nat) : Nat → (Nat → Int)
  | 0 => fun l => w (100 * l + c)
  | j + 1 => fu (fu (cst w c j) j (cst w c j j + (cst w c j (j + 1) - cst w c j j).tdiv 8)) (j + 1) (cst w c j (j + 1) - (cst w c j (j + 1) - cst w c j j).tdiv 8)
/-- a step at its column -/
theorem sop_at {w v : Nat → Int} {c j : Nat} (hc : c < 100) (h : ∀ l, w (100 * l + c) = v l) (l : Nat) : sop w (100 * j + c) (100 * l + c) = fu (fu v j (v j + (v (j + 1) - v j).tdiv 8)) (j + 1) (v (j + 1) - (v (j + 1) - v j).tdiv 8) l := by
  have e1 := h j
  have e2 := h (j + 1)
  have e3 : 100 * j + c + 100 = 100 * (j + 1) + c := by omega
  unfold sop
  rw [e3, e1, e2]
  unfold fu
  by_cases c1 : l = j + 1
  · rw [if_pos (by omega), if_pos c1]
  · rw [if_neg (by omega), if_neg c1]
    by_cases c2 : l = j
    · rw [if_pos (by omega), if_pos c2]
    · rw [if_neg (by omega), if_neg c2]
      exact h l
theorem sop_ne {w : Nat → Int} {c c2 j l : Nat} (hc : c < 100) (hc2 : c2 < 100) (h : c2 ≠ c) : sop w (100 * j + c) (100 * l + c2) = w (100 * l + c2) := by
  unfold sop fu
  rw [if_neg (by omega), if_neg (by omega)]
theorem sqC_at {w : Nat → Int} : ∀ n c, c < 100 → ∀ l, sqC w n (100 * l + c) = cst w c ((n + 99 - c) / 100) l
  | 0, c, hc, l => by
    rw [show (0 + 99 - c) / 100 = 0 by omega]
    rfl
  | n + 1, c, hc, l => by
    have e : n = 100 * (n / 100) + n % 100 := by omega
    show sop (sqC w n) n (100 * l + c) = _
    by_cases h : c = n % 100
    · have ih := fun l => sqC_at (w := w) n c hc l
      rw [show (n + 1 + 99 - c) / 100 = (n + 99 - c) / 100 + 1 by omega]
      have h2 : (n + 99 - c) / 100 = n / 100 := by omega
      rw [h2] at ih ⊢
      have := sop_at (j := n / 100) hc ih l
      rw [show 100 * (n / 100) + c = n by omega] at this
      exact this
    · rw [show (n + 1 + 99 - c) / 100 = (n + 99 - c) / 100 by omega, ← sqC_at (w := w) n c hc l]
      have := sop_ne (w := sqC w n) (j := n / 100) (l := l) (c := n % 100) (c2 := c) (by omega) hc h
      rw [← e] at this
      exact this
theorem sqL_at {w v : Nat → Int} {c : Nat} (hc : c < 100) : ∀ j c2, c2 < 100 → ∀ l, sqL w c j (100 * l + c2) = if c2 = c then cst w c j l else w (100 * l + c2)
  | 0, c2, h2, l => by
    by_cases h : c2 = c
    · rw [if_pos h, h]; rfl
    · rw [if_neg h]; rfl
  | j + 1, c2, h2, l => by
    show sop (sqL w c j) (100 * j + c) (100 * l + c2) = _
    have ih := sqL_at (w := w) (v := v) hc j
    by_cases h : c2 = c
    · subst h
      rw [if_pos rfl, sop_at hc (fun l => by rw [ih c2 hc l, if_pos rfl]) l]
      rfl
    · rw [if_neg h, sop_ne hc h2 h, ih c2 h2 l, if_neg h]
theorem cst_c {w w2 : Nat → Int} {c : Nat} (h : ∀ l, w (100 * l + c) = w2 (100 * l + c)) : ∀ j, cst w c j = cst w2 c j
  | 0 => funext h
  | j + 1 => by
    show fu _ _ _ = fu _ _ _
    rw [cst_c h j]
theorem sqR_at {w : Nat → Int} {d : Nat} : ∀ n, n ≤ 100 → ∀ c, c < 100 → ∀ l, sqR w d n (100 * l + c) = if c < n then cst w c d l else w (100 * l + c)
  | 0, hn, c, hc, l => by rw [if_neg (by omega)]; rfl
  | n + 1, hn, c, hc, l => by
    have ih := sqR_at (w := w) (d := d) n (by omega)
    show sqL (sqR w d n) n d (100 * l + c) = _
    rw [sqL_at (v := w) (by omega) d c hc l]
    by_cases h : c = n
    · subst h
      rw [if_pos rfl, if_pos (by omega), cst_c (w2 := w) (fun l => by rw [ih c hc l, if_neg (by omega)])]
    · rw [if_neg h, ih c hc l]
      by_cases h2 : c < n
      · rw [if_pos h2, if_pos (by omega)]
      · rw [if_neg h2, if_neg (by omega)]
theorem sq_eq {w : Nat → Int} {d : Nat} : sqR w d 100 = sqC w (100 * d) := by
  funext k
  rw [show k = 100 * (k / 100) + k % 100 by omega, sqR_at 100 (by decide) _ (by omega), sqC_at _ _ (by omega), if_pos (by omega), show (100 * d + 99 - k % 100) / 100 = d by omega]
