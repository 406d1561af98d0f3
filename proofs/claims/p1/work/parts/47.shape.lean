-- SHAPES STAY: an object keeps its class, an array its sort and length
def tyE : AE → AE → Prop
  | Sum.inl (t, n, _), Sum.inl (t2, n2, _) => t = t2 ∧ n = n2
  | Sum.inr (Sum.inl (c, n, _)), Sum.inr (Sum.inl (c2, n2, _)) => c = c2 ∧ n = n2
  | Sum.inr (Sum.inr (c, fs)), Sum.inr (Sum.inr (c2, fs2)) => c = c2 ∧ fs.length = fs2.length
  | _, _ => False
theorem tyE.rf : ∀ {e : AE}, tyE e e
  | Sum.inl _ => ⟨rfl, rfl⟩
  | Sum.inr (Sum.inl _) => ⟨rfl, rfl⟩
  | Sum.inr (Sum.inr _) => ⟨rfl, rfl⟩
theorem tyE.tr : ∀ {a b c : AE}, tyE a b → tyE b c → tyE a c
  | Sum.inl _, Sum.inl _, Sum.inl _, h, g => ⟨h.1.trans g.1, h.2.trans g.2⟩
  | Sum.inr (Sum.inl _), Sum.inr (Sum.inl _), Sum.inr (Sum.inl _), h, g => ⟨h.1.trans g.1, h.2.trans g.2⟩
  | Sum.inr (Sum.inr _), Sum.inr (Sum.inr _), Sum.inr (Sum.inr _), h, g => ⟨h.1.trans g.1, h.2.trans g.2⟩
  | Sum.inl _, Sum.inr (Sum.inl _), _, h, _ => h.elim
  | Sum.inl _, Sum.inr (Sum.inr _), _, h, _ => h.elim
  | Sum.inr (Sum.inl _), Sum.inl _, _, h, _ => h.elim
  | Sum.inr (Sum.inl _), Sum.inr (Sum.inr _), _, h, _ => h.elim
  | Sum.inr (Sum.inr _), Sum.inl _, _, h, _ => h.elim
  | Sum.inr (Sum.inr _), Sum.inr (Sum.inl _), _, h, _ => h.elim
  | Sum.inl _, Sum.inl _, Sum.inr (Sum.inl _), _, g => g.elim
  | Sum.inl _, Sum.inl _, Sum.inr (Sum.inr _), _, g => g.elim
  | Sum.inr (Sum.inl _), Sum.inr (Sum.inl _), Sum.inl _, _, g => g.elim
  | Sum.inr (Sum.inl _), Sum.inr (Sum.inl _), Sum.inr (Sum.inr _), _, g => g.elim
  | Sum.inr (Sum.inr _), Sum.inr (Sum.inr _), Sum.inl _, _, g => g.elim
  | Sum.inr (Sum.inr _), Sum.inr (Sum.inr _), Sum.inr (Sum.inl _), _, g => g.elim
def Sh (W W' : AW) : Prop := W.1 ≤ W'.1 ∧ ∀ k, k < W.1 → tyE (W.2 k) (W'.2 k)
theorem Sh.rf {W : AW} : Sh W W := ⟨Nat.le_refl _, fun _ _ => tyE.rf⟩
theorem Sh.tr {W W1 W2 : AW} (h : Sh W W1) (g : Sh W1 W2) : Sh W W2 := ⟨Nat.le_trans h.1 g.1, fun k hk => (h.2 k hk).tr (g.2 k (Nat.lt_of_lt_of_le hk h.1))⟩
theorem Sh.new {W : AW} {e : AE} : Sh W (wn W e) := ⟨Nat.le_succ _, fun k hk => by rw [show (wn W e).2 k = W.2 k from fu_ne _ _ (by omega)]; exact tyE.rf⟩
theorem Sh.up {W : AW} {j : Nat} {e e0 : AE} (h0 : W.2 j = e0) (h : tyE e0 e) : Sh W (wu W j e) := ⟨Nat.le_refl _, fun k hk => by
  by_cases q : k = j
  · rw [q, h0, wu_s]; exact h
  · rw [show (wu W j e).2 k = W.2 k from fu_ne _ _ q]; exact tyE.rf⟩
theorem Sh.upa {W : AW} {j t n : Nat} {f g : Nat → Int} (h0 : W.2 j = Sum.inl (t, n, f)) : Sh W (wu W j (ea t n g)) := Sh.up h0 ⟨rfl, rfl⟩
theorem Sh.upr {W : AW} {j t n : Nat} {f g : Nat → Option Nat} (h0 : W.2 j = Sum.inr (Sum.inl (t, n, f))) : Sh W (wu W j (er t n g)) := Sh.up h0 ⟨rfl, rfl⟩
theorem Sh.upo {W : AW} {j c d k : Nat} {fs : List AV} {v : AV} (h0 : W.2 j = Sum.inr (Sum.inr (d, fs))) (hc : c = d) : Sh W (wu W j (eo c (fset fs k v))) := Sh.up h0 ⟨hc.symm, fset_len.symm⟩
abbrev QS (W : AW) (Q : AQ) : AQ := fun r W' => Q r W' ∧ Sh W W'
abbrev XS : PX := fun y pc L st W bc bs Q => G y pc L st W bc bs (QS W Q)
theorem goS {y pc : Nat} {L : AL} {st : List AV} {W W2 : AW} {bc bs : Nat} {Q : AQ} (h : XS y pc L st W2 bc bs Q) (hf : Sh W W2) : G y pc L st W2 bc bs (QS W Q) := G_post h (fun _ _ q => ⟨q.1, hf.tr q.2⟩)
set_option maxHeartbeats 10000000 in
theorem shape_step {y pc : Nat} {i : AI} {L : AL} {st : List AV} {W : AW} {bc bs : Nat} {Q : AQ} (h : sem XS y pc i L st W bc bs Q) : sem G y pc i L st W bc bs (QS W Q) := by
  unfold sem at h ⊢
  split at h <;> (try dsimp only at h) <;> (try dsimp only) <;> (repeat' split at h) <;> (try dsimp only) <;>
    first
    | exact h.elim
    | exact h
    | exact sws_mono (fun _ g => g) _ _ _ h
    | exact ⟨h.1, h.2.1, h.2.2.1, h.2.2.2.1, goS h.2.2.2.2 (Sh.upa (by assumption))⟩
    | exact ⟨h.1, h.2.1, h.2.2.1, h.2.2.2.1, h.2.2.2.2.1, goS h.2.2.2.2.2 (Sh.upa (by assumption))⟩
    | exact ⟨h.1, h.2.1, h.2.2.1, h.2.2.2.1, h.2.2.2.2.1, h.2.2.2.2.2.1, h.2.2.2.2.2.2.1, h.2.2.2.2.2.2.2.1, goS h.2.2.2.2.2.2.2.2 (Sh.upr (by assumption))⟩
    | exact ⟨h.1, h.2.1, h.2.2.1, h.2.2.2.1, goS h.2.2.2.2 Sh.new⟩
    | exact ⟨h.1, h.2.1, goS h.2.2 Sh.new⟩
    | exact ⟨h.1, h.2.1, h.2.2.1, h.2.2.2.1, goS h.2.2.2.2 (Sh.upo (by assumption) h.1)⟩
    | exact h.2.2.2.1.elim
    | exact h.2.2.elim
    | (obtain ⟨a1, a2, a3, a4, P, p1, p2⟩ := h; exact ⟨a1, a2, a3, a4, QS W P, p1, fun r W' q => goS (p2 r W' q.1) q.2⟩)
    | (obtain ⟨a1, a2, a3, a4, a5, a6, P, p1, p2⟩ := h; exact ⟨a1, a2, a3, a4, a5, a6, QS W P, p1, fun r W' q => goS (p2 r W' q.1) q.2⟩)
    | exact ⟨h.1, h.2.1, h.2.2.1, h.2.2.2.1, h.2.2.2.2.1, h.2.2.2.2.2.1, h.2.2.2.2.2.2.1, h.2.2.2.2.2.2.2.1, h.2.2.2.2.2.2.2.2.1, h.2.2.2.2.2.2.2.2.2.1, goS h.2.2.2.2.2.2.2.2.2.2 (Sh.upa (by assumption))⟩
    | exact ⟨h.1, h.2.1, h.2.2.1, h.2.2.2.1, h.2.2.2.2.1, goS h.2.2.2.2.2 Sh.new⟩
    | exact ⟨h.1, h.2, Sh.rf⟩
theorem Gm_shape {z : Nat} {as : List AV} {W : AW} {Q : AQ} (h : Gm z as W Q) : Gm z as W (QS W Q) :=
  G_ind XS (fun _ _ _ _ _ _ _ _ hh => G_in (shape_step hh)) h
