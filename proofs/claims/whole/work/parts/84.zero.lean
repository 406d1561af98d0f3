-- BEHIND AN ARRAY'S END ALL IS ZERO, and stays so
def zE : AE → Prop
  | Sum.inl (_, n, f) => ∀ i, n ≤ i → f i = 0
  | Sum.inr (Sum.inl (_, n, f)) => ∀ i, n ≤ i → f i = none
  | _ => True
def Zw (W : AW) : Prop := ∀ k, 1 ≤ k → k < W.1 → zE (W.2 k)
theorem Zw.new {W : AW} {e : AE} (h : Zw W) (he : zE e) : Zw (wn W e) := fun k h1 hk => by
  by_cases q : k = W.1
  · rw [q, show (wn W e).2 W.1 = e from fu_eq _ _ _]; exact he
  · rw [show (wn W e).2 k = W.2 k from fu_ne _ _ q]
    have : k < W.1 + 1 := hk
    exact h k h1 (by omega)
theorem Zw.up {W : AW} {j : Nat} {e : AE} (h : Zw W) (he : zE e) : Zw (wu W j e) := fun k h1 hk => by
  by_cases q : k = j
  · rw [q, wu_s]; exact he
  · rw [show (wu W j e).2 k = W.2 k from fu_ne _ _ q]
    exact h k h1 hk
theorem Zw.upa {W : AW} {j t n : Nat} {f : Nat → Int} {i x : Int} (h : Zw W) (h0 : W.2 j = Sum.inl (t, n, f)) (hz : nfz ≤ j) (hj : j < W.1) (i0 : 0 ≤ i) (i1 : i < (n : Int)) : Zw (wu W j (ea t n (fu f i.toNat x))) := h.up (fun k hk => by
  have q67 : nfz = 67 := rfl
  have hf := h j (by omega) hj
  rw [h0] at hf
  rw [fu_ne _ _ (by omega)]
  exact hf k hk)
theorem Zw.upr {W : AW} {j t n : Nat} {f : Nat → Option Nat} {i : Int} {x : Option Nat} (h : Zw W) (h0 : W.2 j = Sum.inr (Sum.inl (t, n, f))) (hz : nfz ≤ j) (hj : j < W.1) (i0 : 0 ≤ i) (i1 : i < (n : Int)) : Zw (wu W j (er t n (fu f i.toNat x))) := h.up (fun k hk => by
  have q67 : nfz = 67 := rfl
  have hf := h j (by omega) hj
  rw [h0] at hf
  rw [fu_ne _ _ (by omega)]
  exact hf k hk)
theorem Zw.cpy {W : AW} {s d t n0 n1 : Nat} {f g : Nat → Int} {sp dp n : Int} (h : Zw W) (h0 : W.2 d = Sum.inl (t, n1, g)) (hz : nfz ≤ d) (hd : d < W.1) (d0 : 0 ≤ dp) (l0 : 0 ≤ n) (d1 : dp + n ≤ (n1 : Int)) : Zw (wu W d (ea t n1 (fcp f g sp.toNat dp.toNat n.toNat))) := h.up (fun k hk => by
  have q67 : nfz = 67 := rfl
  have hf := h d (by omega) hd
  rw [h0] at hf
  show fcp f g sp.toNat dp.toNat n.toNat k = 0
  unfold fcp
  rw [if_neg (by omega)]
  exact hf k hk)
theorem Zw.cln {W : AW} {k t n : Nat} {f : Nat → Int} (h : Zw W) (h0 : W.2 k = Sum.inl (t, n, f)) (hk : k < W.1) (hz : nfz ≤ k ∨ (1 ≤ k ∧ k < 6)) : Zw (wn W (ea t n f)) := h.new (by
  have q67 : nfz = 67 := rfl
  have hf := h k (by omega) hk
  rw [h0] at hf
  exact hf)
abbrev QZ (Q : AQ) : AQ := fun r W' => Q r W' ∧ Zw W'
abbrev XZ : PX := fun y pc L st W bc bs Q => Zw W → G y pc L st W bc bs (QZ Q)
set_option maxHeartbeats 10000000 in
theorem zero_step {y pc : Nat} {i : AI} {L : AL} {st : List AV} {W : AW} {bc bs : Nat} {Q : AQ} (h : sem XZ y pc i L st W bc bs Q) (hz : Zw W) : sem G y pc i L st W bc bs (QZ Q) := by
  unfold sem at h ⊢
  split at h <;> (try dsimp only at h) <;> (try dsimp only) <;> (repeat' split at h) <;> (try dsimp only) <;>
    first
    | exact h.elim
    | exact h hz
    | exact fun r hr => h r hr hz
    | exact ⟨fun c => h.1 c hz, fun c => h.2 c hz⟩
    | exact sws_mono (fun _ g => g hz) _ _ _ h
    | exact ⟨h.1, h.2, hz⟩
    | exact ⟨h.1, h.2 hz⟩
    | exact ⟨h.1, h.2.1, h.2.2 hz⟩
    | exact ⟨h.1, h.2.1, h.2.2.1, h.2.2.2 hz⟩
    | exact ⟨h.1, h.2.1, h.2.2.1, h.2.2.2.1, h.2.2.2.2 hz⟩
    | exact ⟨h.1, h.2.1, h.2.2.1, h.2.2.2.1, h.2.2.2.2 (hz.upa (by assumption) h.1 h.2.1 h.2.2.1 h.2.2.2.1)⟩
    | exact ⟨h.1, h.2.1, h.2.2.1, h.2.2.2.1, h.2.2.2.2.1, h.2.2.2.2.2 (hz.upa (by assumption) h.1 h.2.1 h.2.2.1 h.2.2.2.1)⟩
    | exact ⟨h.1, h.2.1, h.2.2.1, h.2.2.2.1, h.2.2.2.2.1, h.2.2.2.2.2.1, h.2.2.2.2.2.2.1, h.2.2.2.2.2.2.2.1, h.2.2.2.2.2.2.2.2 (hz.upr (by assumption) h.1 h.2.1 h.2.2.2.2.2.2.1 h.2.2.2.2.2.2.2.1)⟩
    | exact ⟨h.1, h.2.1, h.2.2.1, h.2.2.2.1, h.2.2.2.2 (hz.new (fun _ _ => rfl))⟩
    | exact ⟨h.1, h.2.1, h.2.2 (hz.new trivial)⟩
    | exact ⟨h.1, h.2.1, h.2.2.1, h.2.2.2.1, h.2.2.2.2 (hz.up trivial)⟩
    | exact h.2.2.2.1.elim
    | exact h.2.2.elim
    | (obtain ⟨a1, a2, a3, a4, P, p1, p2⟩ := h; exact ⟨a1, a2, a3, a4, QZ P, p1 hz, fun r W' q => p2 r W' q.1 q.2⟩)
    | (obtain ⟨a1, a2, a3, a4, a5, a6, P, p1, p2⟩ := h; exact ⟨a1, a2, a3, a4, a5, a6, QZ P, p1 hz, fun r W' q => p2 r W' q.1 q.2⟩)
    | exact ⟨h.1, h.2.1, h.2.2.1, h.2.2.2.1, h.2.2.2.2.1, h.2.2.2.2.2.1, h.2.2.2.2.2.2.1, h.2.2.2.2.2.2.2.1, h.2.2.2.2.2.2.2.2.1, h.2.2.2.2.2.2.2.2.2.1, h.2.2.2.2.2.2.2.2.2.2 (hz.cpy (s := 0) (n0 := 0) (by assumption) h.2.2.1 h.2.2.2.1 h.2.2.2.2.2.2.1 h.2.2.2.2.2.2.2.1 h.2.2.2.2.2.2.2.2.2.1)⟩
    | exact ⟨h.1, h.2.1, h.2.2.1, h.2.2.2.1, h.2.2.2.2.1, h.2.2.2.2.2 (hz.cln (by assumption) h.1 h.2.1)⟩
theorem Gm_zero {z : Nat} {as : List AV} {W : AW} {Q : AQ} (h : Gm z as W Q) (hz : Zw W) : Gm z as W (QZ Q) :=
  G_ind XZ (fun _ _ _ _ _ _ _ _ hh hz => G_in (zero_step hh hz)) h hz
theorem Zw.ar {W : AW} (h : Zw W) {k t n : Nat} {f : Nat → Int} (h1 : 1 ≤ k) (hk : k < W.1) (he : W.2 k = ea t n f) : ∀ i, n ≤ i → f i = 0 := by
  have := h k h1 hk
  rw [he] at this
  exact this
/-- a whole copy -/
theorem fcp_w {f g : Nat → Int} {n : Nat} (hf : ∀ i, n ≤ i → f i = 0) (hg : ∀ i, n ≤ i → g i = 0) : fcp f g 0 0 n = f := by
  funext k
  unfold fcp
  by_cases h : k < n
  · rw [if_pos (by omega), show 0 + (k - 0) = k by omega]
  · rw [if_neg (by omega), hf k (by omega), hg k (by omega)]
