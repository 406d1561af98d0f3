-- THE FIRST CALL: class and reference answer alike on fresh objects
def B1 (k : Nat) : Prop := k < 148 ∨ 192 ≤ k
def B2 (n : Nat) (k : Nat) : Prop := k < 67 ∨ (148 ≤ k ∧ k < 192) ∨ n ≤ k
def rk2 (B : Nat → Prop) : Nat → List AE → Prop
  | _, [] => True
  | n, e :: l => (B n → roke B e) ∧ rk2 B (n + 1) l
theorem rk2_at {B : Nat → Prop} {d : AE} : ∀ {l : List AE} {n i : Nat}, rk2 B n l → i < l.length → B (n + i) → roke B (xget l i d)
  | [], _, _, _, h, _ => by cases h
  | e :: l, n, 0, h, _, hb => h.1 hb
  | e :: l, n, i + 1, h, hi, hb => rk2_at (l := l) (n := n + 1) (i := i) h.2 (Nat.lt_of_succ_lt_succ hi) (by rw [Nat.add_right_comm, Nat.add_assoc]; exact hb)
theorem frz_rok {L : Nat} {xs : Nat → Int32} {B : Nat → Prop} (hB : ∀ k, k < 67 → B k) {k : Nat} (hk : k < 67) : roke B (frz L xs k) := by
  by_cases h0 : k = 0
  · subst h0; trivial
  · by_cases h1 : k < 6
    · rw [frz_i h0 h1]; trivial
    · by_cases h2 : k < 36
      · rw [frz_s (by omega) h2]
        intro v hv
        simp only [List.mem_cons, List.not_mem_nil, or_false] at hv
        rcases hv with rfl | rfl
        · exact hB _ (by omega)
        · trivial
      · by_cases h3 : k < 66
        · rw [frz_b (by omega) h3]; trivial
        · have : k = 66 := by omega
          subst this
          trivial
theorem roke_a {B : Nat → Prop} {t n : Nat} {f : Nat → Int} : roke B (ea t n f) = True := rfl
theorem roke_n {B : Nat → Prop} {c n : Nat} : roke B (er c n nn) = True := eq_true nwo
theorem roke_o {B : Nat → Prop} {c : Nat} {fs : List AV} : roke B (eo c fs) = ∀ v ∈ fs, rokv B v := rfl
theorem rokv_i {B : Nat → Prop} {z : Int} : rokv B (vi z) = True := rfl
theorem rokv_r {B : Nat → Prop} {k : Nat} : rokv B (vr k) = B k := rfl
theorem lI_len {us : Nat → Int} : (o_CM 68 :: (l_CM 68 us ++ (o_RM 149 :: l_RM))).length = 125 := rfl
set_option maxRecDepth 100000 in
set_option maxHeartbeats 4000000 in
theorem cl_1 {us : Nat → Int} : rk2 B1 67 (o_CM 68 :: (l_CM 68 us ++ (o_RM 149 :: l_RM))) := by
  simp only [l_CM, l_Mud, l_Grid, l_RM, List.cons_append, List.nil_append, rk2, roke_a, roke_n, roke_o, List.forall_mem_cons, List.not_mem_nil, false_implies, implies_true, rokv_i, rokv_r, B1, Nat.reduceAdd, Nat.reduceLT, Nat.reduceLeDiff, or_true, true_or, or_self, or_false, false_or, and_true, true_and, and_self]
set_option maxRecDepth 100000 in
set_option maxHeartbeats 4000000 in
theorem cl_2 {n : Nat} {us : Nat → Int} (h : 192 ≤ n) : rk2 (B2 n) 67 (o_CM 68 :: (l_CM 68 us ++ (o_RM 149 :: l_RM))) := by
  have hn : ∀ k, k < 192 → (n ≤ k) = False := fun k hk => eq_false (by omega)
  simp only [l_CM, l_Mud, l_Grid, l_RM, List.cons_append, List.nil_append, rk2, roke_a, roke_n, roke_o, List.forall_mem_cons, List.not_mem_nil, false_implies, implies_true, rokv_i, rokv_r, B2, hn, Nat.reduceAdd, Nat.reduceLT, Nat.reduceLeDiff, or_true, true_or, or_self, or_false, false_or, and_true, true_and, and_self, and_false, false_and]
theorem cl_w {L : Nat} {xs : Nat → Int32} : Cl B1 (wF L xs) := by
  intro k hk hb
  have hk2 : k < 192 := by rw [wF_1] at hk; exact hk
  by_cases h : k < 67
  · rw [show (wF L xs).2 k = frz L xs k from wx_o h]
    exact frz_rok (fun j hj => Or.inl (by omega)) h
  · obtain ⟨i, rfl⟩ : ∃ i, k = 67 + i := ⟨k - 67, by omega⟩
    rw [show (wF L xs).2 (67 + i) = _ from wx_n i]
    exact rk2_at cl_1 (by rw [lI_len]; omega) hb
def J1 (L : Nat) (xs : Nat → Int32) (W : AW) : Prop := W.2 0 = ea 0 L (Xs xs) ∧ isobj (W.2 67) 11 ∧ 192 ≤ W.1
/-- a world whose reference is fresh -/
def RG (L : Nat) (xs : Nat → Int32) (W : AW) : Prop := 192 ≤ W.1 ∧ ∀ k, k < 192 → (k < 67 ∨ 148 ≤ k) → W.2 k = (wF L xs).2 k
theorem fresh_call {L : Nat} {xs : Nat → Int32} {cm rm : Nat} {as : List AV} (z : Int) (has : ∀ v ∈ as, ∃ x, v = vi x) (hc : Gm cm (vr 67 :: as) (wF L xs) (fun r _ => r = some (vi z))) (hr : ∀ W, RG L xs W → Gm rm (vr 148 :: as) W (fun r _ => r = some (vi z))) : CallOK (J1 L xs) (wF L xs) cm rm as := by
  have hnf : nfz = 67 := rfl
  have h1 := Gm_shape (Gm_frame (B := B1) (n0 := 192) (fun k hk => Or.inr hk) (fun k hk => Or.inl (by omega)) hc (by rw [wF_1]; exact Nat.le_refl _) cl_w (List.forall_mem_cons.mpr ⟨Or.inl (by decide), fun v hv => by obtain ⟨x, rfl⟩ := has v hv; trivial⟩))
  refine Gm_post h1 (fun r W' q => ?_)
  obtain ⟨⟨q1, qF, qC, qn, -⟩, qS⟩ := q
  have hag : ∀ k, k < 192 → (k < 67 ∨ 148 ≤ k) → W'.2 k = (wF L xs).2 k := fun k hk h2 => qF.2 k (by rw [wF_1]; exact hk) (by
    rcases h2 with h2 | h2
    · exact Or.inr (by omega)
    · exact Or.inl (fun b => by rcases b with b | b <;> omega))
  have hRG : RG L xs W' := ⟨qn, hag⟩
  refine ⟨?_, qn, hag 0 (by decide) (Or.inl (by decide)), z, q1, ?_⟩
  · rw [hag 148 (by decide) (Or.inr (by decide))]
    exact rfl
  · have hC2 : Cl (B2 W'.1) W' := by
      intro k hk hb
      rcases hb with hb | hb | hb
      · rw [hag k (by omega) (Or.inl hb), show (wF L xs).2 k = frz L xs k from wx_o hb]
        exact frz_rok (fun j hj => Or.inl hj) hb
      · rw [hag k hb.2 (Or.inr hb.1)]
        obtain ⟨i, rfl⟩ : ∃ i, k = 67 + i := ⟨k - 67, by omega⟩
        rw [show (wF L xs).2 (67 + i) = _ from wx_n i]
        exact rk2_at (cl_2 qn) (by rw [lI_len]; omega) (Or.inr (Or.inl hb))
      · omega
    have h2 := Gm_frame (B := B2 W'.1) (n0 := W'.1) (fun k hk => Or.inr (Or.inr hk)) (fun k hk => Or.inl (by omega)) (hr W' hRG) (Nat.le_refl _) hC2 (List.forall_mem_cons.mpr ⟨Or.inr (Or.inl ⟨by decide, by decide⟩), fun v hv => by obtain ⟨x, rfl⟩ := has v hv; trivial⟩)
    refine Gm_post h2 (fun r' W2 p => ?_)
    obtain ⟨p1, pF, -, pn, -⟩ := p
    refine ⟨p1, ?_, ?_, Nat.le_trans qn pn⟩
    · rw [pF.2 0 (by omega) (Or.inr (by decide)), hag 0 (by decide) (Or.inl (by decide))]
      exact rfl
    · rw [pF.2 67 (by omega) (Or.inl (fun b => by rcases b with b | b | b <;> omega))]
      have ht := qS.2 67 (by rw [wF_1]; decide)
      rw [wF_67] at ht
      generalize W'.2 67 = e at ht
      rcases e with e | e | ⟨c, fs⟩
      · exact ht.elim
      · exact ht.elim
      · exact ht.1.symm
