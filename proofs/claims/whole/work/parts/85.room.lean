-- NO MORE NEW CELLS THAN A METHOD MAY MAKE
abbrev QN (n : Nat) (Q : AQ) : AQ := fun r W' => Q r W' ∧ W'.1 ≤ n
abbrev XN : PX := fun y pc L st W bc bs Q => G y pc L st W bc bs (QN (W.1 + bc) Q)
theorem go_n {y pc n : Nat} {L : AL} {st : List AV} {W2 : AW} {bc bs : Nat} {Q : AQ} (h : XN y pc L st W2 bc bs Q) (hf : W2.1 + bc ≤ n) : G y pc L st W2 bc bs (QN n Q) := G_post h (fun _ _ q => ⟨q.1, Nat.le_trans q.2 hf⟩)
theorem al_n {W : AW} {e : AE} {bc : Nat} (h : 1 ≤ bc) : (wn W e).1 + (bc - 1) ≤ W.1 + bc := by
  show W.1 + 1 + (bc - 1) ≤ W.1 + bc
  omega
set_option maxHeartbeats 10000000 in
theorem room_step {y pc : Nat} {i : AI} {L : AL} {st : List AV} {W : AW} {bc bs : Nat} {Q : AQ} (h : sem XN y pc i L st W bc bs Q) : sem G y pc i L st W bc bs (QN (W.1 + bc) Q) := by
  unfold sem at h ⊢
  split at h <;> (try dsimp only at h) <;> (try dsimp only) <;> (repeat' split at h) <;> (try dsimp only) <;>
    first
    | exact h.elim
    | exact h
    | exact sws_mono (fun _ g => g) _ _ _ h
    | exact ⟨h.1, h.2.1, h.2.2.1, h.2.2.2.1, go_n h.2.2.2.2 (al_n h.2.2.1)⟩
    | exact ⟨h.1, h.2.1, go_n h.2.2 (al_n h.1)⟩
    | exact h.2.2.2.1.elim
    | exact h.2.2.elim
    | (obtain ⟨a1, a2, a3, a4, P, p1, p2⟩ := h; exact ⟨a1, a2, a3, a4, QN _ P, p1, fun r W' q => go_n (p2 r W' q.1) (by have := q.2; omega)⟩)
    | (obtain ⟨a1, a2, a3, a4, a5, a6, P, p1, p2⟩ := h; exact ⟨a1, a2, a3, a4, a5, a6, QN _ P, p1, fun r W' q => go_n (p2 r W' q.1) (by have := q.2; omega)⟩)
    | exact ⟨h.1, h.2.1, h.2.2.1, h.2.2.2.1, h.2.2.2.2.1, go_n h.2.2.2.2.2 (al_n h.2.2.2.1)⟩
    | exact ⟨h.1, h.2, Nat.le_add_right _ _⟩
theorem Gm_room {z : Nat} {as : List AV} {W : AW} {Q : AQ} (h : Gm z as W Q) : Gm z as W (QN (W.1 + (mi z).2.2.2.2.1) Q) :=
  G_ind XN (fun _ _ _ _ _ _ _ _ hh => G_in (room_step hh)) h
/-- the methods that the script's calls come to in the reference make nothing new -/
theorem opr_room : ∀ k, k < 34 → (mi (opr.getD k 0)).2.2.2.2.1 = 0 := by decide +kernel
