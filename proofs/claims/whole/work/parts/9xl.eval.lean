-- ENTRIES ARE RECKONED
def joV (k a b : Int) : Int := match k.toNat with
  | 2 => w64 (a + b)
  | 3 => w64 (a - b)
  | 4 => if a < b then 1 else 0
  | 5 => if a ≤ b then 1 else 0
  | 6 => if a = b then 1 else 0
  | 7 => if b ≤ a then 1 else 0
  | 8 => if b < a then 1 else 0
  | 10 => (Int64.ofInt a &&& Int64.ofInt b).toInt
  | 13 => w64 (a * b)
  | 14 => if b = 0 then 0 else w64 (Int.tdiv a b)
  | _ => (Int64.ofInt a ||| Int64.ofInt b).toInt
def evI (w : Nat → Int) (k v : Int) (l : List Int) : List Int :=
  if k = 0 then v :: l else if k = 1 then w v.toNat :: l
  else if k = 9 then (match l with | x :: r => w64 (1 - x) :: r | [] => [])
  else (match l with | b :: a :: r => joV k a b :: r | l => l)
def evS (w : Nat → Int) (s m : Nat → Int) (a : Nat) : Nat → List Int
  | 0 => []
  | k + 1 => evI w (s (a + k)) (m (a + k)) (evS w s m a k)
/-- what a row of entries comes to -/
def evV (w : Nat → Int) (s m : Nat → Int) (a b : Nat) : Int := (evS w s m a (b - a)).headD 0
/-- a truth is 0 or 1 -/
def okL : List Bool → List Int → Prop
  | [], [] => True
  | t :: tl, x :: l => (t = true → x = 0 ∨ x = 1) ∧ okL tl l
  | _, _ => False
theorem okL.len : ∀ {tl : List Bool} {l : List Int}, okL tl l → tl.length = l.length
  | [], [], _ => rfl
  | t :: tl, x :: l, h => by
    have := okL.len h.2
    show tl.length + 1 = l.length + 1
    omega
  | [], x :: l, h => h.elim
  | t :: tl, [], h => h.elim
theorem jo_t {k a b : Int} (hk : 4 ≤ k ∧ k ≤ 8) : joV k a b = 0 ∨ joV k a b = 1 := by
  rcases (show k = 4 ∨ k = 5 ∨ k = 6 ∨ k = 7 ∨ k = 8 by omega) with rfl | rfl | rfl | rfl | rfl
  · show (if a < b then (1 : Int) else 0) = 0 ∨ (if a < b then (1 : Int) else 0) = 1
    split <;> simp
  · show (if a ≤ b then (1 : Int) else 0) = 0 ∨ (if a ≤ b then (1 : Int) else 0) = 1
    split <;> simp
  · show (if a = b then (1 : Int) else 0) = 0 ∨ (if a = b then (1 : Int) else 0) = 1
    split <;> simp
  · show (if b ≤ a then (1 : Int) else 0) = 0 ∨ (if b ≤ a then (1 : Int) else 0) = 1
    split <;> simp
  · show (if b < a then (1 : Int) else 0) = 0 ∨ (if b < a then (1 : Int) else 0) = 1
    split <;> simp
theorem jo_b {k a b : Int} (hk : k = 10 ∨ k = 11) (ha : a = 0 ∨ a = 1) (hb : b = 0 ∨ b = 1) : joV k a b = 0 ∨ joV k a b = 1 := by
  rcases hk with rfl | rfl <;> rcases ha with rfl | rfl <;> rcases hb with rfl | rfl <;> decide
/-- an entry keeps the sorts -/
theorem okI {W w : Nat → Int} {N k v : Int} {tl tl2 : List Bool} {l : List Int} (h : okL tl l) (ht : tyI N k v tl = some tl2) : okL tl2 (evI w k v l) := by
  unfold tyI at ht
  unfold evI
  by_cases k0 : k = 0
  · rw [if_pos k0] at ht ⊢
    split at ht
    · cases ht
      exact ⟨fun z => absurd z (by decide), h⟩
    · cases ht
  · rw [if_neg k0] at ht ⊢
    by_cases k1 : k = 1
    · rw [if_pos k1] at ht ⊢
      split at ht
      · cases ht
        exact ⟨fun z => absurd z (by decide), h⟩
      · cases ht
    · rw [if_neg k1] at ht ⊢
      by_cases k9 : k = 9
      · rw [if_pos k9] at ht ⊢
        match tl, l, h, ht with
        | true :: tl, x :: l, h, ht =>
          cases ht
          refine ⟨fun _ => ?_, h.2⟩
          rcases h.1 rfl with z | z <;> rw [z] <;> decide
        | false :: tl, x :: l, h, ht => cases ht
        | [], [], h, ht => cases ht
      · rw [if_neg k9] at ht ⊢
        by_cases kb : k = 10 ∨ k = 11
        · rw [if_pos kb] at ht
          match tl, l, h, ht with
          | true :: true :: tl, x :: y :: l, h, ht =>
            cases ht
            exact ⟨fun _ => jo_b kb (h.2.1 rfl) (h.1 rfl), h.2.2⟩
          | true :: false :: tl, x :: y :: l, h, ht => cases ht
          | false :: t :: tl, x :: y :: l, h, ht => cases ht
          | [true], [x], h, ht => cases ht
          | [false], [x], h, ht => cases ht
          | [], [], h, ht => cases ht
        · rw [if_neg kb] at ht
          by_cases kc : 4 ≤ k ∧ k ≤ 8
          · rw [if_pos kc] at ht
            match tl, l, h, ht with
            | t :: u :: tl, x :: y :: l, h, ht =>
              cases ht
              exact ⟨fun _ => jo_t kc, h.2.2⟩
            | [t], [x], h, ht => cases ht
            | [], [], h, ht => cases ht
          · rw [if_neg kc] at ht
            split at ht
            · match tl, l, h, ht with
              | t :: u :: tl, x :: y :: l, h, ht =>
                cases ht
                exact ⟨fun z => absurd z (by decide), h.2.2⟩
              | [t], [x], h, ht => cases ht
              | [], [], h, ht => cases ht
            · cases ht
theorem okS {w : Nat → Int} {N : Int} {s m : Nat → Int} {a : Nat} : ∀ {k : Nat} {tl : List Bool}, tyS N s m a k = some tl → okL tl (evS w s m a k)
  | 0, tl, h => by
    cases h
    trivial
  | k + 1, tl, h => by
    unfold tyS at h
    split at h
    · next l hl => exact okI (W := w) (okS hl) h
    · cases h
/-- ahead of a row that has sorts, the row has sorts -/
theorem tyS_p {N : Int} {s m : Nat → Int} {a : Nat} : ∀ {k : Nat} {tl : List Bool}, tyS N s m a k = some tl → ∀ j, j ≤ k → ∃ l, tyS N s m a j = some l
  | 0, tl, h, j, hj => by
    have : j = 0 := by omega
    subst this
    exact ⟨tl, h⟩
  | k + 1, tl, h, j, hj => by
    by_cases e : j = k + 1
    · subst e
      exact ⟨tl, h⟩
    · unfold tyS at h
      split at h
      · next l hl => exact tyS_p hl j (by omega)
      · cases h
theorem evS_e {w w2 : Nat → Int} {N : Int} {s m s2 m2 : Nat → Int} {a : Nat} (hw : ∀ i : Nat, (i : Int) < N → w2 i = w i) : ∀ {k : Nat} {tl : List Bool}, tyS N s m a k = some tl → (∀ i, a ≤ i → i < a + k → s2 i = s i ∧ m2 i = m i) → evS w2 s2 m2 a k = evS w s m a k
  | 0, _, _, _ => rfl
  | k + 1, tl, ht, h => by
    unfold tyS at ht
    split at ht
    · next l hl =>
      unfold evS
      rw [evS_e hw hl (fun i x y => h i x (by omega)), (h (a + k) (by omega) (by omega)).1, (h (a + k) (by omega) (by omega)).2]
      unfold evI
      by_cases k0 : s (a + k) = 0
      · rw [if_pos k0, if_pos k0]
      · rw [if_neg k0, if_neg k0]
        by_cases k1 : s (a + k) = 1
        · rw [if_pos k1, if_pos k1]
          unfold tyI at ht
          rw [if_neg k0, if_pos k1] at ht
          split at ht
          · next q => rw [hw _ (by omega)]
          · cases ht
        · rw [if_neg k1, if_neg k1]
    · cases ht
/-- a stack of longs -/
def stk (g : Nat → Int) : List Int → Prop
  | [] => True
  | x :: l => g l.length = x ∧ stk g l
theorem stk_u {g : Nat → Int} {i : Nat} {v : Int} : ∀ {l : List Int}, stk g l → l.length ≤ i → stk (fu g i v) l
  | [], _, _ => trivial
  | x :: l, h, hi => by
    have hl : l.length + 1 ≤ i := hi
    exact ⟨by rw [fu_ne _ _ (by omega)]; exact h.1, stk_u h.2 (by omega)⟩
theorem stk_p {g : Nat → Int} {v : Int} {l : List Int} (h : stk g l) : stk (fu g l.length v) (v :: l) := ⟨fu_eq _ _ _, stk_u h (Nat.le_refl _)⟩
theorem evS_l {w : Nat → Int} {N : Int} {s m : Nat → Int} {a : Nat} : ∀ {k : Nat} {tl : List Bool}, tyS N s m a k = some tl → ((evS w s m a k).length : Int) ≤ nvS s a k ∧ (evS w s m a k).length ≤ k
  | 0, _, _ => ⟨Int.le_refl _, Nat.le_refl _⟩
  | k + 1, tl, ht => by
    have ok := okS (w := w) ht
    have h2 := ok.len
    unfold tyS at ht
    split at ht
    · next l hl =>
      have ih := evS_l (w := w) hl
      have h1 := (okS (w := w) hl).len
      have e : nvS s a (k + 1) = nvS s a k + (if s (a + k) = 0 ∨ s (a + k) = 1 then 1 else 0) := rfl
      rw [e]
      unfold tyI at ht
      by_cases k0 : s (a + k) = 0
      · rw [if_pos k0] at ht
        rw [if_pos (Or.inl k0)]
        split at ht
        · cases ht
          have : (false :: l).length = l.length + 1 := rfl
          omega
        · cases ht
      · rw [if_neg k0] at ht
        by_cases k1 : s (a + k) = 1
        · rw [if_pos k1] at ht
          rw [if_pos (Or.inr k1)]
          split at ht
          · cases ht
            have : (false :: l).length = l.length + 1 := rfl
            omega
          · cases ht
        · rw [if_neg k1] at ht
          rw [if_neg (fun z => z.elim k0 k1)]
          have key : tl.length ≤ l.length := by
            split at ht
            · split at ht
              · cases ht; exact Nat.le_refl _
              · cases ht
            · split at ht
              · split at ht
                · cases ht; exact Nat.le_succ _
                · cases ht
              · split at ht
                · split at ht
                  · cases ht; exact Nat.le_succ _
                  · cases ht
                · split at ht
                  · split at ht
                    · cases ht; exact Nat.le_succ _
                    · cases ht
                  · cases ht
          omega
    · cases ht
theorem nvS_a {s : Nat → Int} {a i : Nat} : ∀ k, nvS s a (i + k) = nvS s a i + nvS s (a + i) k
  | 0 => by
    show nvS s a i = nvS s a i + 0
    omega
  | k + 1 => by
    have ih := nvS_a (s := s) (a := a) (i := i) k
    show nvS s a (i + k) + (if s (a + (i + k)) = 0 ∨ s (a + (i + k)) = 1 then 1 else 0) = nvS s a i + (nvS s (a + i) k + (if s (a + i + k) = 0 ∨ s (a + i + k) = 1 then 1 else 0))
    rw [ih, show a + (i + k) = a + i + k by omega]
    omega
theorem nvS_p {s : Nat → Int} {a : Nat} : ∀ k, 0 ≤ nvS s a k
  | 0 => Int.le_refl _
  | k + 1 => by
    have := nvS_p (s := s) (a := a) k
    show 0 ≤ nvS s a k + (if s (a + k) = 0 ∨ s (a + k) = 1 then 1 else 0)
    split <;> omega
