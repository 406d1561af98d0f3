-- BITS OF LONGS
def bt (w : Int) (j : Nat) : Bool := (BitVec.ofInt 64 w).getLsbD j
theorem bt_or {a b : Int} {j : Nat} : bt (Int64.ofInt a ||| Int64.ofInt b).toInt j = (bt a j || bt b j) := by
  show (BitVec.ofInt 64 (BitVec.ofInt 64 a ||| BitVec.ofInt 64 b).toInt).getLsbD j = _
  rw [BitVec.ofInt_toInt, BitVec.getLsbD_or]
  rfl
theorem bt_sh : ∀ k, k < 64 → ∀ j, j < 64 → bt (Int64.ofInt 1 <<< ((Int32.ofInt ((k : Nat) : Int)).toInt64 &&& 63)).toInt j = decide (j = k) := by decide +kernel
theorem sh_k : ∀ k, k < 64 → (((Int32.ofInt ((k : Nat) : Int)).toInt64 &&& 63).toBitVec.smod 64).toNat = k := by decide +kernel
theorem bt_0 {j : Nat} : bt 0 j = false := by
  show (BitVec.ofInt 64 0).getLsbD j = false
  rw [show BitVec.ofInt 64 0 = 0#64 from rfl]
  exact BitVec.getLsbD_zero
theorem one_and : ∀ b : Bool, ((BitVec.setWidth 64 (BitVec.ofBool b)).toInt = 0) = (b = false) := by decide
theorem bt_at {w : Int} {k : Nat} (hk : k < 64) : ((Int64.ofInt (Int64.ofInt w >>> ((Int32.ofInt ((k : Nat) : Int)).toInt64 &&& 63)).toInt &&& Int64.ofInt 1).toInt = 0) = (bt w k = false) := by
  have e1 : (Int64.ofInt (Int64.ofInt w >>> ((Int32.ofInt ((k : Nat) : Int)).toInt64 &&& 63)).toInt &&& Int64.ofInt 1).toInt = (BitVec.ofInt 64 ((BitVec.ofInt 64 w).sshiftRight' (((Int32.ofInt ((k : Nat) : Int)).toInt64 &&& 63).toBitVec.smod 64)).toInt &&& 1#64).toInt := rfl
  rw [e1, BitVec.ofInt_toInt, BitVec.and_one_eq_setWidth_ofBool_getLsbD, one_and, BitVec.sshiftRight_eq', sh_k k hk, BitVec.getLsbD_sshiftRight]
  simp only [Nat.add_zero, hk, if_true, ↓reduceIte]
  rfl
-- WAYS FROM TEAR TO TEAR
abbrev Ed (τ : Nat → Int) (t o : Nat) : Prop := (τ (2 * t) = (o : Int) ∨ τ (2 * t + 1) = (o : Int)) ∧ o ≠ t
def Rk (τ : Nat → Int) : Nat → Nat → Nat → Prop
  | 0, _, _ => False
  | k + 1, t, x => ∃ o, Ed τ t o ∧ (x = o ∨ Rk τ k o x)
def Rn (τ : Nat → Int) (t x : Nat) : Prop := ∃ k, Rk τ k t x
section RE
variable {τ : Nat → Int} {t x o y : Nat}
theorem Rk.up : ∀ {k t x}, Rk τ k t x → Rk τ (k + 1) t x
  | 0, _, _, h => h.elim
  | k + 1, t, x, h => by
    obtain ⟨o, h1, h2⟩ := h
    exact ⟨o, h1, h2.imp id Rk.up⟩
theorem Rk.le {k m : Nat} (h : Rk τ k t x) (hm : k ≤ m) : Rk τ m t x := by
  induction m with
  | zero => obtain rfl : k = 0 := by omega
            exact h
  | succ m ih =>
    by_cases q : k = m + 1
    · subst q; exact h
    · exact (ih (by omega)).up
theorem Rn.e (h : Ed τ t o) : Rn τ t o := ⟨1, o, h, Or.inl rfl⟩
theorem Rn.c (h : Ed τ t o) (g : Rn τ o x) : Rn τ t x := by
  obtain ⟨k, hk⟩ := g
  exact ⟨k + 1, o, h, Or.inr hk⟩
theorem Rk.snoc : ∀ {k t y}, Rk τ k t y → Ed τ y x → Rk τ (k + 1) t x
  | 0, _, _, h, _ => h.elim
  | k + 1, t, y, h, g => by
    obtain ⟨o, h1, h2⟩ := h
    rcases h2 with h2 | h2
    · subst h2; exact ⟨y, h1, Or.inr ⟨x, g, Or.inl rfl⟩⟩
    · exact ⟨o, h1, Or.inr (Rk.snoc h2 g)⟩
theorem Rk.last : ∀ {k t}, Rk τ (k + 1) t x → Ed τ t x ∨ ∃ y, Rk τ k t y ∧ Ed τ y x
  | 0, t, h => by
    obtain ⟨o, h1, h2⟩ := h
    rcases h2 with h2 | h2
    · subst h2; exact Or.inl h1
    · exact h2.elim
  | k + 1, t, h => by
    obtain ⟨o, h1, h2⟩ := h
    rcases h2 with h2 | h2
    · subst h2; exact Or.inl h1
    · rcases Rk.last h2 with g | ⟨y, g1, g2⟩
      · exact Or.inr ⟨o, ⟨o, h1, Or.inl rfl⟩, g⟩
      · exact Or.inr ⟨y, ⟨o, h1, Or.inr g1⟩, g2⟩
theorem Rn.snoc (h : Rn τ t y) (g : Ed τ y x) : Rn τ t x := by
  obtain ⟨k, hk⟩ := h
  exact ⟨k + 1, hk.snoc g⟩
/-- no step brings more: none ever will -/
theorem Rk.st {k : Nat} (h : ∀ x, Rk τ (k + 1) t x → Rk τ k t x) : ∀ m x, Rk τ m t x → Rk τ k t x := by
  intro m
  induction m with
  | zero => intro x q; exact q.elim
  | succ m ih =>
    intro x q
    rcases Rk.last q with g | ⟨y, g1, g2⟩
    · exact h x (Rk.le (k := 1) ⟨x, g, Or.inl rfl⟩ (by omega))
    · exact h x ((ih y g1).snoc g2)
noncomputable def cR (τ : Nat → Int) (k t : Nat) : Int := sm (fun x => bi (Rk τ k t x)) 200
theorem sm_lt {f g : Nat → Int} {i : Nat} : ∀ n : Nat, (∀ i, i < n → f i ≤ g i) → i < n → f i < g i → sm f n < sm g n
  | 0, _, h, _ => by omega
  | n + 1, h, hi, hl => by
    show sm f n + f n < sm g n + g n
    have hn := h n (by omega)
    by_cases q : i = n
    · subst q
      have := sm_le (f := f) (g := g) i (fun j hj => h j (by omega))
      omega
    · have := sm_lt (i := i) n (fun j hj => h j (by omega)) (by omega) hl
      omega
theorem bi_b {p : Prop} : 0 ≤ bi p ∧ bi p ≤ 1 := by rcases bi_o (p := p) with h | h <;> omega
theorem Rk.finq (hb : ∀ k x, Rk τ k t x → x < 200) : ∀ k : Nat, (∃ j, j ≤ k ∧ ∀ m x, Rk τ m t x → Rk τ j t x) ∨ (k : Int) ≤ cR τ k t
  | 0 => Or.inr (by
    have h : 0 ≤ sm (fun x => bi (Rk τ 0 t x)) 200 := (sm_b 200 (fun i _ => bi_b)).1
    exact h)
  | k + 1 => by
    rcases Rk.finq hb k with ⟨j, hj, h⟩ | h
    · exact Or.inl ⟨j, by omega, h⟩
    · by_cases q : ∀ x, Rk τ (k + 1) t x → Rk τ k t x
      · exact Or.inl ⟨k, by omega, Rk.st q⟩
      · right
        have ⟨x, hx⟩ : ∃ x, Rk τ (k + 1) t x ∧ ¬ Rk τ k t x := Classical.byContradiction (fun c => q (fun x h1 => Classical.byContradiction (fun h2 => c ⟨x, h1, h2⟩)))
        have : cR τ k t < cR τ (k + 1) t := sm_lt (i := x) 200 (fun i _ => by
          by_cases c : Rk τ k t i
          · rw [bi_p c, bi_p c.up]; exact Int.le_refl _
          · rw [bi_n c]; exact bi_b.1) (hb _ _ hx.1) (by rw [bi_n hx.2, bi_p hx.1]; decide)
        omega
theorem Rn.bdq (hb : ∀ k x, Rk τ k t x → x < 200) (h : Rn τ t x) : Rk τ 201 t x := by
  obtain ⟨k, hk⟩ := h
  rcases Rk.finq hb 201 with ⟨j, hj, g⟩ | g
  · exact (g k x hk).le hj
  · have : cR τ 201 t ≤ 1 * ((200 : Nat) : Int) := (sm_b 200 (fun i _ => bi_b)).2
    omega
end RE
