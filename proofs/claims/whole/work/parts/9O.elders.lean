-- ELDERS OF THE REFERENCE
theorem okt_0 : okt 2 0 = True := eq_true (Or.inl rfl)
theorem sm_up {f g : Nat → Int} {o : Nat} : ∀ n : Nat, (∀ i, i < n → i ≠ o → g i = f i) → sm g n = sm f n + (if o < n then g o - f o else 0)
  | 0, _ => rfl
  | n + 1, h => by
    have ih := sm_up n (fun i hi => h i (by omega))
    show sm g n + g n = sm f n + f n + _
    by_cases c : n = o
    · rw [if_neg (by omega)] at ih
      rw [if_pos (by omega), ih, c]
      omega
    · have hn := h n (by omega) c
      rw [ih, hn]
      by_cases c2 : o < n
      · rw [if_pos c2, if_pos (by omega)]; omega
      · rw [if_neg c2, if_neg (by omega)]; omega
theorem sm_11 : sm (fun _ => 1) 200 = 200 := by decide +kernel
theorem sm_u1 {f : Nat → Int} {a : Nat} (hf : ∀ i, f i ≤ 1) (ha : a < 200) (fa : f a ≤ 0) : sm f 200 ≤ 199 := by
  have h := sm_lt (f := f) (g := fun _ => 1) (i := a) 200 (fun i _ => hf i) ha (by show f a < 1; omega)
  rw [sm_11] at h
  omega
theorem sm_u2 {f : Nat → Int} {a b : Nat} (hf : ∀ i, f i ≤ 1) (ha : a < 200) (hb : b < 200) (hab : ¬ b = a) (fa : f a ≤ 0) (fb : f b ≤ 0) : sm f 200 ≤ 198 := by
  have h := sm_lt (f := f) (g := fun i => if i = a then 0 else 1) (i := b) 200 (fun i _ => by
    by_cases c : i = a
    · simp only [c, if_true]; exact fa
    · simp only [c, if_false]; exact hf i) hb (by simp only [hab, if_false]; omega)
  have h2 := sm_u1 (f := fun i => if i = a then (0 : Int) else 1) (a := a) (fun i => by
    show (if i = a then (0 : Int) else 1) ≤ 1
    split <;> omega) ha (by simp only [if_true]; omega)
  omega
/-- elders found so far, by rows below i, and below b of row i -/
def ElI (τ : Nat → Int) (M t i b n : Nat) (p r : Nat → Int) : Prop := (∀ x, x < 200 → p x = 0 ∨ (p x = 1 ∧ Rn τ t x ∧ x < M ∧ (x = t ∨ ∃ j, j < n ∧ r j = (x : Int)))) ∧ (1 ≤ n ∧ r 0 = (t : Int)) ∧ (∀ j, j < n → ∃ y : Nat, r j = (y : Int) ∧ y < M ∧ (y = t ∨ p y = 1)) ∧ ((n : Int) = 1 + sm (fun x => bi (x ≠ t ∧ p x = 1)) 200) ∧ (∀ j y o d : Nat, j < n → r j = (y : Int) → d < 2 → (j < i ∨ (j = i ∧ d < b)) → τ (2 * y + d) = (o : Int) → o ≠ y → p o = 1)
section ELI
variable {τ : Nat → Int} {M t i b n y o : Nat} {p r : Nat → Int}
theorem ElI.nb (h : ElI τ M t i b n p r) (hM : M ≤ 200) (ht : t < M) : n ≤ 200 := by
  have h1 := sm_u1 (f := fun x => bi (x ≠ t ∧ p x = 1)) (a := t) (fun i => bi_b.2) (by omega) (by show bi (t ≠ t ∧ p t = 1) ≤ 0; rw [bi_n (fun q => q.1 rfl)]; decide)
  have := h.2.2.2.1
  omega
theorem ElI.nb2 (h : ElI τ M t i b n p r) (hM : M ≤ 200) (ht : t < M) (ho : o < 200) (hot : ¬ o = t) (hp : p o = 0) : n < 200 := by
  have h1 := sm_u2 (f := fun x => bi (x ≠ t ∧ p x = 1)) (a := t) (b := o) (fun i => bi_b.2) (by omega) ho hot (by show bi (t ≠ t ∧ p t = 1) ≤ 0; rw [bi_n (fun q => q.1 rfl)]; decide) (by show bi (o ≠ t ∧ p o = 1) ≤ 0; rw [bi_n (fun q => by omega)]; decide)
  have := h.2.2.2.1
  omega
theorem ElI.skq (h : ElI τ M t i b n p r) (hy : r i = (y : Int)) (hn : ∀ o : Nat, τ (2 * y + b) = (o : Int) → o ≠ y → p o = 1) : ElI τ M t i (b + 1) n p r := by
  obtain ⟨a1, a2, a3, a4, a5⟩ := h
  refine ⟨a1, a2, a3, a4, fun j y' o d hj hr hd hq ho hne => ?_⟩
  by_cases c : j = i ∧ d = b
  · obtain ⟨c1, c2⟩ := c
    have e : y' = y := by rw [c1] at hr; omega
    rw [e, c2] at ho
    rw [e] at hne
    exact hn o ho hne
  · exact a5 j y' o d hj hr hd (by omega) ho hne
theorem ElI.rno (h : ElI τ M t i b n p r) (hM : M ≤ 200) (hi : i < n) (hb : b < 2) (hy : r i = (y : Int)) (ho : τ (2 * y + b) = (o : Int)) (hne : o ≠ y) : Rn τ t o := by
  obtain ⟨y', e1, e2, e3⟩ := h.2.2.1 i hi
  have e : y' = y := by omega
  subst e
  have hed : Ed τ y' o := ⟨by
    by_cases c : b = 0
    · left; rw [c] at ho; exact ho
    · right; rw [show b = 1 by omega] at ho; exact ho, hne⟩
  rcases e3 with e3 | e3
  · rw [e3] at hed; exact Rn.e hed
  · rcases h.1 y' (by omega) with q | q
    · omega
    · exact Rn.snoc q.2.1 hed
theorem ElI.ps1 (h : ElI τ M t i b n p r) (hM : M ≤ 200) (ht : t < M) (hi : i < n) (hb : b < 2) (hy : r i = (y : Int)) (ho : τ (2 * y + b) = (o : Int)) (hne : o ≠ y) (hot : o = t) (hp : p o = 0) : ElI τ M t i (b + 1) n (fu p o 1) r := by
  have hrn := h.rno hM hi hb hy ho hne
  obtain ⟨a1, a2, a3, a4, a5⟩ := h
  have e1 : ∀ x, x ≠ o → fu p o 1 x = p x := fun x hx => fu_ne _ _ hx
  refine ⟨fun x hx => ?_, a2, fun j hj => ?_, ?_, fun j y' o' d hj hr hd hq ho' hne' => ?_⟩
  · by_cases c : x = o
    · rw [c, fu_eq]; exact Or.inr ⟨rfl, hrn, by omega, Or.inl hot⟩
    · rw [e1 x c]; exact a1 x hx
  · obtain ⟨y', b1, b2, b3⟩ := a3 j hj
    refine ⟨y', b1, b2, ?_⟩
    by_cases c : y' = o
    · exact Or.inl (by omega)
    · rw [e1 y' c]; exact b3
  · rw [a4, sm_c (f := fun x => bi (x ≠ t ∧ p x = 1)) (g := fun x => bi (x ≠ t ∧ fu p o 1 x = 1)) 200 (fun x _ => bi_c (by
      by_cases c : x = o
      · exact ⟨fun q => absurd (c.trans hot) q.1, fun q => absurd (c.trans hot) q.1⟩
      · rw [e1 x c]))]
  · by_cases c : o' = o
    · rw [c, fu_eq]
    · rw [e1 o' c]
      by_cases c2 : j = i ∧ d = b
      · obtain ⟨c1, c2⟩ := c2
        have e : y' = y := by rw [c1] at hr; omega
        rw [e, c2] at ho'
        omega
      · exact a5 j y' o' d hj hr hd (by omega) ho' hne'
theorem ElI.ps2 (h : ElI τ M t i b n p r) (hM : M ≤ 200) (ht : t < M) (hi : i < n) (hb : b < 2) (hy : r i = (y : Int)) (ho : τ (2 * y + b) = (o : Int)) (hoM : o < M) (hne : o ≠ y) (hot : ¬ o = t) (hp : p o = 0) : ElI τ M t i (b + 1) (n + 1) (fu p o 1) (fu r n (o : Int)) := by
  have hrn := h.rno hM hi hb hy ho hne
  obtain ⟨a1, a2, a3, a4, a5⟩ := h
  have e1 : ∀ x, x ≠ o → fu p o 1 x = p x := fun x hx => fu_ne _ _ hx
  have e2 : ∀ j, j < n → fu r n (o : Int) j = r j := fun j hj => fu_ne _ _ (by omega)
  refine ⟨fun x hx => ?_, ⟨by omega, by rw [e2 0 (by omega)]; exact a2.2⟩, fun j hj => ?_, ?_, fun j y' o' d hj hr hd hq ho' hne' => ?_⟩
  · by_cases c : x = o
    · rw [c, fu_eq]; exact Or.inr ⟨rfl, hrn, hoM, Or.inr ⟨n, by omega, fu_eq _ _ _⟩⟩
    · rw [e1 x c]
      rcases a1 x hx with q | ⟨q1, q2, q3, q4⟩
      · exact Or.inl q
      · refine Or.inr ⟨q1, q2, q3, q4.imp id (fun ⟨j, j1, j2⟩ => ⟨j, by omega, by rw [e2 j j1]; exact j2⟩)⟩
  · by_cases c : j = n
    · rw [c, fu_eq]
      exact ⟨o, rfl, hoM, Or.inr (fu_eq _ _ _)⟩
    · rw [e2 j (by omega)]
      obtain ⟨y', b1, b2, b3⟩ := a3 j (by omega)
      refine ⟨y', b1, b2, b3.imp id (fun q => ?_)⟩
      by_cases c : y' = o
      · rw [c, fu_eq]
      · rw [e1 y' c]; exact q
  · have hs := sm_up (f := fun x => bi (x ≠ t ∧ p x = 1)) (g := fun x => bi (x ≠ t ∧ fu p o 1 x = 1)) (o := o) 200 (fun x _ c => by
      show bi (x ≠ t ∧ fu p o 1 x = 1) = bi (x ≠ t ∧ p x = 1)
      rw [e1 x c])
    rw [if_pos (show o < 200 by omega)] at hs
    have h1 : bi (o ≠ t ∧ fu p o 1 o = 1) = 1 := bi_p ⟨hot, fu_eq _ _ _⟩
    have h2 : bi (o ≠ t ∧ p o = 1) = 0 := bi_n (fun q => by omega)
    rw [h1, h2] at hs
    rw [hs]
    omega
  · by_cases c : o' = o
    · rw [c, fu_eq]
    · rw [e1 o' c]
      by_cases c0 : j = n
      · omega
      · rw [e2 j (by omega)] at hr
        by_cases c2 : j = i ∧ d = b
        · obtain ⟨c1, c2⟩ := c2
          have e : y' = y := by rw [c1] at hr; omega
          rw [e, c2] at ho'
          omega
        · exact a5 j y' o' d (by omega) hr hd (by omega) ho' hne'
theorem ElI.row (h : ElI τ M t i 2 n p r) : ElI τ M t (i + 1) 0 n p r := by
  obtain ⟨a1, a2, a3, a4, a5⟩ := h
  exact ⟨a1, a2, a3, a4, fun j y o d hj hr hd hq ho hne => a5 j y o d hj hr hd (by omega) ho hne⟩
theorem ElI.fnq (h : ElI τ M t n 0 n p r) (hM : M ≤ 200) (ht : t < M) (hτ : ∀ j, j < 2 * M → τ j < (M : Int)) : ∀ x, x < 200 → p x = bi (Rn τ t x) := by
  obtain ⟨a1, a2, a3, a4, a5⟩ := h
  have cl : ∀ y x : Nat, (y = t ∨ ∃ j, j < n ∧ r j = (y : Int)) → Ed τ y x → p x = 1 := by
    intro y x hy hed
    obtain ⟨j, j1, j2⟩ : ∃ j, j < n ∧ r j = (y : Int) := by
      rcases hy with hy | hy
      · exact ⟨0, by omega, by rw [hy]; exact a2.2⟩
      · exact hy
    rcases hed.1 with q | q
    · exact a5 j y x 0 j1 j2 (by decide) (Or.inl j1) q hed.2
    · exact a5 j y x 1 j1 j2 (by decide) (Or.inl j1) q hed.2
  have key : ∀ k x, Rk τ k t x → p x = 1 := by
    intro k
    induction k with
    | zero => intro x q; exact q.elim
    | succ k ih =>
      intro x q
      rcases Rk.last q with g | ⟨y, g1, g2⟩
      · exact cl t x (Or.inl rfl) g
      · have hy := Rk.ltq hτ ht g1
        rcases a1 y (by omega) with w | w
        · have := ih y g1; omega
        · exact cl y x w.2.2.2 g2
  intro x hx
  by_cases c : Rn τ t x
  · rw [bi_p c]
    obtain ⟨k, hk⟩ := c
    exact key k x hk
  · rw [bi_n c]
    rcases a1 x hx with w | w
    · exact w
    · exact absurd w.2.1 c
theorem ElI.q0 (hM : M ≤ 200) (ht : t < M) {f g : Nat → Int} : ElI τ M t 0 0 1 (flf f 200 0) (fu g 0 (t : Int)) := by
  have e0 : ∀ x, x < 200 → flf f 200 0 x = 0 := fun x hx => if_pos hx
  refine ⟨fun x hx => Or.inl (e0 x hx), ⟨by decide, fu_eq _ _ _⟩, fun j hj => ⟨t, by rw [show j = 0 by omega, fu_eq], ht, Or.inl rfl⟩, ?_, fun j y o d hj hr hd hq => by omega⟩
  rw [sm_c (f := fun x => bi (x ≠ t ∧ flf f 200 0 x = 1)) (g := fun _ => 0) 200 (fun x hx => by
    show bi (x ≠ t ∧ flf f 200 0 x = 1) = 0
    rw [e0 x hx, bi_n (fun q => absurd q.2 (by decide))]), sm_z]
  rfl
end ELI
section ELY
variable {W : AW} {Q : AQ}
set_option maxRecDepth 10000 in
theorem y_elders (hR : RS W) {M t : Nat} (hM : M ≤ 200) (ht : t < M) (hτ : ∀ j, j < 2 * M → -3 ≤ ar W 161 j ∧ ar W 161 j < (M : Int)) (hQ : ∀ p r, (∀ x, x < 200 → p x = bi (Rn (ar W 161) t x)) → Q none (wu (wu W 186 (ea 2 200 p)) 187 (ea 0 200 r))) : Gm 271 [vr 148, vi (t : Int)] W Q := by
  have q67 : nfz = 67 := rfl
  have hw : 192 ≤ W.1 := hR.1
  have hτ2 : ∀ j, j < 2 * M → ar W 161 j < (M : Int) := fun j hj => (hτ j hj).2
  have key := loop_u (P := fun i => ∀ n p r v4 v5, ElI (ar W 161) M t i 0 n p r → i ≤ n → G 271 33 [some (vr 148), some (vi (t : Int)), some (vi (n : Int)), some (vi (i : Int)), v4, v5] [] (wu (wu W 186 (ea 2 200 p)) 187 (ea 0 200 r)) 0 0 Q) 200 (fun i hi ih => ?_) ?_ 0 (by omega)
  · have fill := loop_u (P := fun i => G 271 2 [some (vr 148), some (vi (t : Int)), some (vi (i : Int)), none, none, none] [] (wu W 186 (ea 2 200 (flf (ar W 186) i 0))) 0 0 Q) 200 (fun i hi ih => ?_) ?_ 0 (by omega)
    · rw [flf_0, wu_id (ra_186 hR)] at fill
      rw [e271]
      simp (disch := omega) only [s_1, s_2, s_3, s_4, s_76, s_5, s_6, s_7, s_8, s_9, s_10, s_11, s_12, s_13, s_14, s_15, s_16, s_17, s_18, s_19, s_20, s_21, s_22, s_23, s_24, s_25, s_26, s_27, s_28, s_29, s_30, s_31, s_32, s_33, s_34, s_35, s_36, s_37, s_38, s_39, s_40l, s_40i, s_40r, s_41, s_43, t_44, t_45, t_46, t_47, s_48, s_49, s_50, s_51, s_52, s_53, s_54, s_55, s_56, s_57, s_58, s_59, s_60, s_61, s_62_0, s_62_1, s_62_2, s_66, s_67, s_68, s_69, s_70, s_71, s_72, s_73, sws_n, sws_c, lget, lset, fget, fset, nolg, nolong, avc, stw, cnd, isobj_eo, GCi, GCn, retk, List.length_cons, List.length_nil, ↓reduceIte, and_true, true_and, not_true_eq_false, not_false_eq_true, forall_const, Nat.reduceAdd, Nat.reduceLT, Nat.reduceLeDiff, Nat.lt_add_one, Nat.le_refl, Nat.zero_le, Nat.sub_zero, Int.reduceEq, Int.reduceNe, Int.reduceLT, Int.reduceLE, Int.reduceAdd, Int.reduceSub, Int.reduceMul, Int.reduceNeg, Int.reduceTDiv, Int.reduceTMod, ne_eq, reduceCtorEq, Nat.reduceEqDiff, Int.cast_ofNat_Int, true_or, or_true, false_or, or_false, lcq_0, lcq_2, lcq_3, lcq_4, lcq_5, wu_s, wu_1, wu_w, wu_lt, wu_ne, ar_s, ar_n, rr_s, rr_n, ob_n, nz_c, lt_T, lt_F, le_T, le_F, ie_T, ie_F, nt_T, nt_F, nl_T, nl_F, in_T, and_false, false_and, and_self, not_true_eq_false, Int.toNat_natCast, Int.reduceToNat, if_true, if_false, mi_271, i271_0, i271_1, i271_3, i271_6, i271_9, i271_10, i271_13, i271_14, i271_15, i271_16, i271_19, i271_22, i271_23, i271_24, i271_25, i271_28, i271_29, i271_30, i271_31, i271_32, i271_33, i271_34, i271_35, i271_38, i271_39, i271_40, i271_43, i271_44, i271_45, i271_46, i271_48, i271_50, i271_51, i271_52, i271_55, i271_56, i271_57, i271_58, i271_59, i271_60, i271_63, i271_64, i271_67, i271_69, i271_70, i271_72, i271_74, i271_77, i271_79, i271_80, i271_83, i271_84, i271_85, i271_88, i271_89, i271_92, i271_94, i271_95, i271_98, i271_99, i271_102, i271_104, i271_105, i271_106, i271_108, i271_109, i271_112, i271_113, i271_116, i271_117, i271_119, i271_120, i271_123, i271_126, i271_129, i271_132, i271_135, g12_14, g12_50, g12_51, okt_0, okt_1]
      exact fill
    · rw [nc1, ← flf_s] at ih
      rw [i271_2]
      simp (disch := omega) only [s_1, s_2, s_3, s_4, s_76, s_5, s_6, s_7, s_8, s_9, s_10, s_11, s_12, s_13, s_14, s_15, s_16, s_17, s_18, s_19, s_20, s_21, s_22, s_23, s_24, s_25, s_26, s_27, s_28, s_29, s_30, s_31, s_32, s_33, s_34, s_35, s_36, s_37, s_38, s_39, s_40l, s_40i, s_40r, s_41, s_43, t_44, t_45, t_46, t_47, s_48, s_49, s_50, s_51, s_52, s_53, s_54, s_55, s_56, s_57, s_58, s_59, s_60, s_61, s_62_0, s_62_1, s_62_2, s_66, s_67, s_68, s_69, s_70, s_71, s_72, s_73, sws_n, sws_c, lget, lset, fget, fset, nolg, nolong, avc, stw, cnd, isobj_eo, GCi, GCn, retk, List.length_cons, List.length_nil, ↓reduceIte, and_true, true_and, not_true_eq_false, not_false_eq_true, forall_const, Nat.reduceAdd, Nat.reduceLT, Nat.reduceLeDiff, Nat.lt_add_one, Nat.le_refl, Nat.zero_le, Nat.sub_zero, Int.reduceEq, Int.reduceNe, Int.reduceLT, Int.reduceLE, Int.reduceAdd, Int.reduceSub, Int.reduceMul, Int.reduceNeg, Int.reduceTDiv, Int.reduceTMod, ne_eq, reduceCtorEq, Nat.reduceEqDiff, Int.cast_ofNat_Int, true_or, or_true, false_or, or_false, lcq_0, lcq_2, lcq_3, lcq_4, lcq_5, wu_s, wu_1, wu_w, wu_lt, wu_ne, ar_s, ar_n, rr_s, rr_n, ob_n, nz_c, lt_T, lt_F, le_T, le_F, ie_T, ie_F, nt_T, nt_F, nl_T, nl_F, in_T, and_false, false_and, and_self, not_true_eq_false, Int.toNat_natCast, Int.reduceToNat, if_true, if_false, mi_271, i271_0, i271_1, i271_3, i271_6, i271_9, i271_10, i271_13, i271_14, i271_15, i271_16, i271_19, i271_22, i271_23, i271_24, i271_25, i271_28, i271_29, i271_30, i271_31, i271_32, i271_33, i271_34, i271_35, i271_38, i271_39, i271_40, i271_43, i271_44, i271_45, i271_46, i271_48, i271_50, i271_51, i271_52, i271_55, i271_56, i271_57, i271_58, i271_59, i271_60, i271_63, i271_64, i271_67, i271_69, i271_70, i271_72, i271_74, i271_77, i271_79, i271_80, i271_83, i271_84, i271_85, i271_88, i271_89, i271_92, i271_94, i271_95, i271_98, i271_99, i271_102, i271_104, i271_105, i271_106, i271_108, i271_109, i271_112, i271_113, i271_116, i271_117, i271_119, i271_120, i271_123, i271_126, i271_129, i271_132, i271_135, g12_14, g12_50, g12_51, okt_0, okt_1, ra_148 hR]
      exact ih
    · have q := key 1 (flf (ar W 186) 200 0) (fu (ar W 187) 0 (t : Int)) none none (ElI.q0 hM ht) (by omega)
      rw [i271_2]
      simp (disch := omega) only [s_1, s_2, s_3, s_4, s_76, s_5, s_6, s_7, s_8, s_9, s_10, s_11, s_12, s_13, s_14, s_15, s_16, s_17, s_18, s_19, s_20, s_21, s_22, s_23, s_24, s_25, s_26, s_27, s_28, s_29, s_30, s_31, s_32, s_33, s_34, s_35, s_36, s_37, s_38, s_39, s_40l, s_40i, s_40r, s_41, s_43, t_44, t_45, t_46, t_47, s_48, s_49, s_50, s_51, s_52, s_53, s_54, s_55, s_56, s_57, s_58, s_59, s_60, s_61, s_62_0, s_62_1, s_62_2, s_66, s_67, s_68, s_69, s_70, s_71, s_72, s_73, sws_n, sws_c, lget, lset, fget, fset, nolg, nolong, avc, stw, cnd, isobj_eo, GCi, GCn, retk, List.length_cons, List.length_nil, ↓reduceIte, and_true, true_and, not_true_eq_false, not_false_eq_true, forall_const, Nat.reduceAdd, Nat.reduceLT, Nat.reduceLeDiff, Nat.lt_add_one, Nat.le_refl, Nat.zero_le, Nat.sub_zero, Int.reduceEq, Int.reduceNe, Int.reduceLT, Int.reduceLE, Int.reduceAdd, Int.reduceSub, Int.reduceMul, Int.reduceNeg, Int.reduceTDiv, Int.reduceTMod, ne_eq, reduceCtorEq, Nat.reduceEqDiff, Int.cast_ofNat_Int, true_or, or_true, false_or, or_false, lcq_0, lcq_2, lcq_3, lcq_4, lcq_5, wu_s, wu_1, wu_w, wu_lt, wu_ne, ar_s, ar_n, rr_s, rr_n, ob_n, nz_c, lt_T, lt_F, le_T, le_F, ie_T, ie_F, nt_T, nt_F, nl_T, nl_F, in_T, and_false, false_and, and_self, not_true_eq_false, Int.toNat_natCast, Int.reduceToNat, if_true, if_false, mi_271, i271_0, i271_1, i271_3, i271_6, i271_9, i271_10, i271_13, i271_14, i271_15, i271_16, i271_19, i271_22, i271_23, i271_24, i271_25, i271_28, i271_29, i271_30, i271_31, i271_32, i271_34, i271_35, i271_38, i271_39, i271_40, i271_43, i271_44, i271_45, i271_46, i271_48, i271_50, i271_51, i271_52, i271_55, i271_56, i271_57, i271_58, i271_59, i271_60, i271_63, i271_64, i271_67, i271_69, i271_70, i271_72, i271_74, i271_77, i271_79, i271_80, i271_83, i271_84, i271_85, i271_88, i271_89, i271_92, i271_94, i271_95, i271_98, i271_99, i271_102, i271_104, i271_105, i271_106, i271_108, i271_109, i271_112, i271_113, i271_116, i271_117, i271_119, i271_120, i271_123, i271_126, i271_129, i271_132, i271_135, g12_14, g12_50, g12_51, okt_0, okt_1, ra_148 hR, ra_187 hR]
      exact q
  · intro n p r v4 v5 h hin
    have hn := h.nb hM ht
    by_cases c : i = n
    · have q := hQ p r (ElI.fnq (by rw [c] at h; exact h) hM ht hτ2)
      rw [i271_33]
      simp (disch := omega) only [s_1, s_2, s_3, s_4, s_76, s_5, s_6, s_7, s_8, s_9, s_10, s_11, s_12, s_13, s_14, s_15, s_16, s_17, s_18, s_19, s_20, s_21, s_22, s_23, s_24, s_25, s_26, s_27, s_28, s_29, s_30, s_31, s_32, s_33, s_34, s_35, s_36, s_37, s_38, s_39, s_40l, s_40i, s_40r, s_41, s_43, t_44, t_45, t_46, t_47, s_48, s_49, s_50, s_51, s_52, s_53, s_54, s_55, s_56, s_57, s_58, s_59, s_60, s_61, s_62_0, s_62_1, s_62_2, s_66, s_67, s_68, s_69, s_70, s_71, s_72, s_73, sws_n, sws_c, lget, lset, fget, fset, nolg, nolong, avc, stw, cnd, isobj_eo, GCi, GCn, retk, List.length_cons, List.length_nil, ↓reduceIte, and_true, true_and, not_true_eq_false, not_false_eq_true, forall_const, Nat.reduceAdd, Nat.reduceLT, Nat.reduceLeDiff, Nat.lt_add_one, Nat.le_refl, Nat.zero_le, Nat.sub_zero, Int.reduceEq, Int.reduceNe, Int.reduceLT, Int.reduceLE, Int.reduceAdd, Int.reduceSub, Int.reduceMul, Int.reduceNeg, Int.reduceTDiv, Int.reduceTMod, ne_eq, reduceCtorEq, Nat.reduceEqDiff, Int.cast_ofNat_Int, true_or, or_true, false_or, or_false, lcq_0, lcq_2, lcq_3, lcq_4, lcq_5, wu_s, wu_1, wu_w, wu_lt, wu_ne, ar_s, ar_n, rr_s, rr_n, ob_n, nz_c, lt_T, lt_F, le_T, le_F, ie_T, ie_F, nt_T, nt_F, nl_T, nl_F, in_T, and_false, false_and, and_self, not_true_eq_false, Int.toNat_natCast, Int.reduceToNat, if_true, if_false, mi_271, i271_0, i271_1, i271_2, i271_3, i271_6, i271_9, i271_10, i271_13, i271_14, i271_15, i271_16, i271_19, i271_22, i271_23, i271_24, i271_25, i271_28, i271_29, i271_30, i271_31, i271_32, i271_34, i271_35, i271_38, i271_39, i271_40, i271_43, i271_44, i271_45, i271_46, i271_48, i271_50, i271_51, i271_52, i271_55, i271_56, i271_57, i271_58, i271_59, i271_60, i271_63, i271_64, i271_67, i271_69, i271_70, i271_72, i271_74, i271_77, i271_79, i271_80, i271_83, i271_84, i271_85, i271_88, i271_89, i271_92, i271_94, i271_95, i271_98, i271_99, i271_102, i271_104, i271_105, i271_106, i271_108, i271_109, i271_112, i271_113, i271_116, i271_117, i271_119, i271_120, i271_123, i271_126, i271_129, i271_132, i271_135, g12_14, g12_50, g12_51, okt_0, okt_1]
      exact q
    · obtain ⟨y, hy, hyM, -⟩ := h.2.2.1 i (by omega)
      have inner := loop_u (P := fun b => ∀ n p r z v5, z = 2 * (y : Int) + (b : Int) → i < n → r i = (y : Int) → ElI (ar W 161) M t i b n p r → G 271 48 [some (vr 148), some (vi (t : Int)), some (vi (n : Int)), some (vi (i : Int)), some (vi z), v5] [] (wu (wu W 186 (ea 2 200 p)) 187 (ea 0 200 r)) 0 0 Q) 2 (fun b hb ihb => ?_) ?_ 0 (by omega) n p r (2 * (y : Int)) v5 (by omega) (by omega) hy h
      · rw [i271_33]
        simp (disch := omega) only [s_1, s_2, s_3, s_4, s_76, s_5, s_6, s_7, s_8, s_9, s_10, s_11, s_12, s_13, s_14, s_15, s_16, s_17, s_18, s_19, s_20, s_21, s_22, s_23, s_24, s_25, s_26, s_27, s_28, s_29, s_30, s_31, s_32, s_33, s_34, s_35, s_36, s_37, s_38, s_39, s_40l, s_40i, s_40r, s_41, s_43, t_44, t_45, t_46, t_47, s_48, s_49, s_50, s_51, s_52, s_53, s_54, s_55, s_56, s_57, s_58, s_59, s_60, s_61, s_62_0, s_62_1, s_62_2, s_66, s_67, s_68, s_69, s_70, s_71, s_72, s_73, sws_n, sws_c, lget, lset, fget, fset, nolg, nolong, avc, stw, cnd, isobj_eo, GCi, GCn, retk, List.length_cons, List.length_nil, ↓reduceIte, and_true, true_and, not_true_eq_false, not_false_eq_true, forall_const, Nat.reduceAdd, Nat.reduceLT, Nat.reduceLeDiff, Nat.lt_add_one, Nat.le_refl, Nat.zero_le, Nat.sub_zero, Int.reduceEq, Int.reduceNe, Int.reduceLT, Int.reduceLE, Int.reduceAdd, Int.reduceSub, Int.reduceMul, Int.reduceNeg, Int.reduceTDiv, Int.reduceTMod, ne_eq, reduceCtorEq, Nat.reduceEqDiff, Int.cast_ofNat_Int, true_or, or_true, false_or, or_false, lcq_0, lcq_2, lcq_3, lcq_4, lcq_5, wu_s, wu_1, wu_w, wu_lt, wu_ne, ar_s, ar_n, rr_s, rr_n, ob_n, nz_c, lt_T, lt_F, le_T, le_F, ie_T, ie_F, nt_T, nt_F, nl_T, nl_F, in_T, and_false, false_and, and_self, not_true_eq_false, Int.toNat_natCast, Int.reduceToNat, if_true, if_false, mi_271, i271_0, i271_1, i271_2, i271_3, i271_6, i271_9, i271_10, i271_13, i271_14, i271_15, i271_16, i271_19, i271_22, i271_23, i271_24, i271_25, i271_28, i271_29, i271_30, i271_31, i271_32, i271_34, i271_35, i271_38, i271_39, i271_40, i271_43, i271_44, i271_45, i271_46, i271_50, i271_51, i271_52, i271_55, i271_56, i271_57, i271_58, i271_59, i271_60, i271_63, i271_64, i271_67, i271_69, i271_70, i271_72, i271_74, i271_77, i271_79, i271_80, i271_83, i271_84, i271_85, i271_88, i271_89, i271_92, i271_94, i271_95, i271_98, i271_99, i271_102, i271_104, i271_105, i271_106, i271_108, i271_109, i271_112, i271_113, i271_116, i271_117, i271_119, i271_120, i271_123, i271_126, i271_129, i271_132, i271_135, g12_14, g12_50, g12_51, okt_0, okt_1, ra_148 hR, hy]
        exact inner
      · intro n p r z v5 hz hin hy h
        have hn := h.nb hM ht
        have hz2 : z.toNat = 2 * y + b := by omega
        have hb2 := hτ (2 * y + b) (by omega)
        have ihz := fun n p r v5 => ihb n p r (z + 1) v5 (by omega)
        rw [i271_48]
        by_cases c1 : ar W 161 (2 * y + b) < 0
        · have q := ihz n p r (some (vi (ar W 161 (2 * y + b)))) hin hy (h.skq hy (fun o ho => by omega))
          simp (disch := omega) only [s_1, s_2, s_3, s_4, s_76, s_5, s_6, s_7, s_8, s_9, s_10, s_11, s_12, s_13, s_14, s_15, s_16, s_17, s_18, s_19, s_20, s_21, s_22, s_23, s_24, s_25, s_26, s_27, s_28, s_29, s_30, s_31, s_32, s_33, s_34, s_35, s_36, s_37, s_38, s_39, s_40l, s_40i, s_40r, s_41, s_43, t_44, t_45, t_46, t_47, s_48, s_49, s_50, s_51, s_52, s_53, s_54, s_55, s_56, s_57, s_58, s_59, s_60, s_61, s_62_0, s_62_1, s_62_2, s_66, s_67, s_68, s_69, s_70, s_71, s_72, s_73, sws_n, sws_c, lget, lset, fget, fset, nolg, nolong, avc, stw, cnd, isobj_eo, GCi, GCn, retk, List.length_cons, List.length_nil, ↓reduceIte, and_true, true_and, not_true_eq_false, not_false_eq_true, forall_const, Nat.reduceAdd, Nat.reduceLT, Nat.reduceLeDiff, Nat.lt_add_one, Nat.le_refl, Nat.zero_le, Nat.sub_zero, Int.reduceEq, Int.reduceNe, Int.reduceLT, Int.reduceLE, Int.reduceAdd, Int.reduceSub, Int.reduceMul, Int.reduceNeg, Int.reduceTDiv, Int.reduceTMod, ne_eq, reduceCtorEq, Nat.reduceEqDiff, Int.cast_ofNat_Int, true_or, or_true, false_or, or_false, lcq_0, lcq_2, lcq_3, lcq_4, lcq_5, wu_s, wu_1, wu_w, wu_lt, wu_ne, ar_s, ar_n, rr_s, rr_n, ob_n, nz_c, lt_T, lt_F, le_T, le_F, ie_T, ie_F, nt_T, nt_F, nl_T, nl_F, in_T, and_false, false_and, and_self, not_true_eq_false, Int.toNat_natCast, Int.reduceToNat, if_true, if_false, mi_271, i271_0, i271_1, i271_2, i271_3, i271_6, i271_9, i271_10, i271_13, i271_14, i271_15, i271_16, i271_19, i271_22, i271_23, i271_24, i271_25, i271_28, i271_29, i271_30, i271_31, i271_32, i271_33, i271_34, i271_35, i271_38, i271_39, i271_40, i271_43, i271_44, i271_45, i271_46, i271_50, i271_51, i271_52, i271_55, i271_56, i271_57, i271_58, i271_59, i271_60, i271_63, i271_64, i271_67, i271_69, i271_70, i271_72, i271_74, i271_77, i271_79, i271_80, i271_83, i271_84, i271_85, i271_88, i271_89, i271_92, i271_94, i271_95, i271_98, i271_99, i271_102, i271_104, i271_105, i271_106, i271_108, i271_109, i271_112, i271_113, i271_116, i271_117, i271_119, i271_120, i271_123, i271_126, i271_129, i271_132, i271_135, g12_14, g12_50, g12_51, okt_0, okt_1, ra_148 hR, ra_161 hR, hy, hz2]
          exact q
        · obtain ⟨o, ho⟩ : ∃ o : Nat, ar W 161 (2 * y + b) = (o : Int) := ⟨(ar W 161 (2 * y + b)).toNat, by omega⟩
          have hoM : o < M := by omega
          by_cases c2 : (o : Int) = (y : Int)
          · have q := ihz n p r (some (vi (o : Int))) hin hy (h.skq hy (fun o' ho' => by omega))
            simp (disch := omega) only [s_1, s_2, s_3, s_4, s_76, s_5, s_6, s_7, s_8, s_9, s_10, s_11, s_12, s_13, s_14, s_15, s_16, s_17, s_18, s_19, s_20, s_21, s_22, s_23, s_24, s_25, s_26, s_27, s_28, s_29, s_30, s_31, s_32, s_33, s_34, s_35, s_36, s_37, s_38, s_39, s_40l, s_40i, s_40r, s_41, s_43, t_44, t_45, t_46, t_47, s_48, s_49, s_50, s_51, s_52, s_53, s_54, s_55, s_56, s_57, s_58, s_59, s_60, s_61, s_62_0, s_62_1, s_62_2, s_66, s_67, s_68, s_69, s_70, s_71, s_72, s_73, sws_n, sws_c, lget, lset, fget, fset, nolg, nolong, avc, stw, cnd, isobj_eo, GCi, GCn, retk, List.length_cons, List.length_nil, ↓reduceIte, and_true, true_and, not_true_eq_false, not_false_eq_true, forall_const, Nat.reduceAdd, Nat.reduceLT, Nat.reduceLeDiff, Nat.lt_add_one, Nat.le_refl, Nat.zero_le, Nat.sub_zero, Int.reduceEq, Int.reduceNe, Int.reduceLT, Int.reduceLE, Int.reduceAdd, Int.reduceSub, Int.reduceMul, Int.reduceNeg, Int.reduceTDiv, Int.reduceTMod, ne_eq, reduceCtorEq, Nat.reduceEqDiff, Int.cast_ofNat_Int, true_or, or_true, false_or, or_false, lcq_0, lcq_2, lcq_3, lcq_4, lcq_5, wu_s, wu_1, wu_w, wu_lt, wu_ne, ar_s, ar_n, rr_s, rr_n, ob_n, nz_c, lt_T, lt_F, le_T, le_F, ie_T, ie_F, nt_T, nt_F, nl_T, nl_F, in_T, and_false, false_and, and_self, not_true_eq_false, Int.toNat_natCast, Int.reduceToNat, if_true, if_false, mi_271, i271_0, i271_1, i271_2, i271_3, i271_6, i271_9, i271_10, i271_13, i271_14, i271_15, i271_16, i271_19, i271_22, i271_23, i271_24, i271_25, i271_28, i271_29, i271_30, i271_31, i271_32, i271_33, i271_34, i271_35, i271_38, i271_39, i271_40, i271_43, i271_44, i271_45, i271_46, i271_50, i271_51, i271_52, i271_55, i271_56, i271_57, i271_58, i271_59, i271_60, i271_63, i271_64, i271_67, i271_69, i271_70, i271_72, i271_74, i271_77, i271_79, i271_80, i271_83, i271_84, i271_85, i271_88, i271_89, i271_92, i271_94, i271_95, i271_98, i271_99, i271_102, i271_104, i271_105, i271_106, i271_108, i271_109, i271_112, i271_113, i271_116, i271_117, i271_119, i271_120, i271_123, i271_126, i271_129, i271_132, i271_135, g12_14, g12_50, g12_51, okt_0, okt_1, ra_148 hR, ra_161 hR, hy, hz2, ho, eq_true c2]
            exact q
          · rcases h.1 o (by omega) with c3 | c3
            · by_cases c4 : (o : Int) = (t : Int)
              · have q := ihz n (fu p o 1) r (some (vi (o : Int))) hin hy (h.ps1 hM ht hin hb hy ho (by omega) (by omega) c3)
                simp (disch := omega) only [s_1, s_2, s_3, s_4, s_76, s_5, s_6, s_7, s_8, s_9, s_10, s_11, s_12, s_13, s_14, s_15, s_16, s_17, s_18, s_19, s_20, s_21, s_22, s_23, s_24, s_25, s_26, s_27, s_28, s_29, s_30, s_31, s_32, s_33, s_34, s_35, s_36, s_37, s_38, s_39, s_40l, s_40i, s_40r, s_41, s_43, t_44, t_45, t_46, t_47, s_48, s_49, s_50, s_51, s_52, s_53, s_54, s_55, s_56, s_57, s_58, s_59, s_60, s_61, s_62_0, s_62_1, s_62_2, s_66, s_67, s_68, s_69, s_70, s_71, s_72, s_73, sws_n, sws_c, lget, lset, fget, fset, nolg, nolong, avc, stw, cnd, isobj_eo, GCi, GCn, retk, List.length_cons, List.length_nil, ↓reduceIte, and_true, true_and, not_true_eq_false, not_false_eq_true, forall_const, Nat.reduceAdd, Nat.reduceLT, Nat.reduceLeDiff, Nat.lt_add_one, Nat.le_refl, Nat.zero_le, Nat.sub_zero, Int.reduceEq, Int.reduceNe, Int.reduceLT, Int.reduceLE, Int.reduceAdd, Int.reduceSub, Int.reduceMul, Int.reduceNeg, Int.reduceTDiv, Int.reduceTMod, ne_eq, reduceCtorEq, Nat.reduceEqDiff, Int.cast_ofNat_Int, true_or, or_true, false_or, or_false, lcq_0, lcq_2, lcq_3, lcq_4, lcq_5, wu_s, wu_1, wu_w, wu_lt, wu_ne, ar_s, ar_n, rr_s, rr_n, ob_n, nz_c, lt_T, lt_F, le_T, le_F, ie_T, ie_F, nt_T, nt_F, nl_T, nl_F, in_T, and_false, false_and, and_self, not_true_eq_false, Int.toNat_natCast, Int.reduceToNat, if_true, if_false, mi_271, i271_0, i271_1, i271_2, i271_3, i271_6, i271_9, i271_10, i271_13, i271_14, i271_15, i271_16, i271_19, i271_22, i271_23, i271_24, i271_25, i271_28, i271_29, i271_30, i271_31, i271_32, i271_33, i271_34, i271_35, i271_38, i271_39, i271_40, i271_43, i271_44, i271_45, i271_46, i271_50, i271_51, i271_52, i271_55, i271_56, i271_57, i271_58, i271_59, i271_60, i271_63, i271_64, i271_67, i271_69, i271_70, i271_72, i271_74, i271_77, i271_79, i271_80, i271_83, i271_84, i271_85, i271_88, i271_89, i271_92, i271_94, i271_95, i271_98, i271_99, i271_102, i271_104, i271_105, i271_106, i271_108, i271_109, i271_112, i271_113, i271_116, i271_117, i271_119, i271_120, i271_123, i271_126, i271_129, i271_132, i271_135, g12_14, g12_50, g12_51, okt_0, okt_1, ra_148 hR, ra_161 hR, hy, hz2, ho, eq_false c2, c3, eq_true c4]
                exact q
              · have hn2 := h.nb2 hM ht (o := o) (by omega) (by omega) c3
                have q := ihz (n + 1) (fu p o 1) (fu r n (o : Int)) (some (vi (o : Int))) (by omega) (by rw [fu_ne _ _ (by omega)]; exact hy) (h.ps2 hM ht hin hb hy ho hoM (by omega) (by omega) c3)
                rw [nc1] at q
                simp (disch := omega) only [s_1, s_2, s_3, s_4, s_76, s_5, s_6, s_7, s_8, s_9, s_10, s_11, s_12, s_13, s_14, s_15, s_16, s_17, s_18, s_19, s_20, s_21, s_22, s_23, s_24, s_25, s_26, s_27, s_28, s_29, s_30, s_31, s_32, s_33, s_34, s_35, s_36, s_37, s_38, s_39, s_40l, s_40i, s_40r, s_41, s_43, t_44, t_45, t_46, t_47, s_48, s_49, s_50, s_51, s_52, s_53, s_54, s_55, s_56, s_57, s_58, s_59, s_60, s_61, s_62_0, s_62_1, s_62_2, s_66, s_67, s_68, s_69, s_70, s_71, s_72, s_73, sws_n, sws_c, lget, lset, fget, fset, nolg, nolong, avc, stw, cnd, isobj_eo, GCi, GCn, retk, List.length_cons, List.length_nil, ↓reduceIte, and_true, true_and, not_true_eq_false, not_false_eq_true, forall_const, Nat.reduceAdd, Nat.reduceLT, Nat.reduceLeDiff, Nat.lt_add_one, Nat.le_refl, Nat.zero_le, Nat.sub_zero, Int.reduceEq, Int.reduceNe, Int.reduceLT, Int.reduceLE, Int.reduceAdd, Int.reduceSub, Int.reduceMul, Int.reduceNeg, Int.reduceTDiv, Int.reduceTMod, ne_eq, reduceCtorEq, Nat.reduceEqDiff, Int.cast_ofNat_Int, true_or, or_true, false_or, or_false, lcq_0, lcq_2, lcq_3, lcq_4, lcq_5, wu_s, wu_1, wu_w, wu_lt, wu_ne, ar_s, ar_n, rr_s, rr_n, ob_n, nz_c, lt_T, lt_F, le_T, le_F, ie_T, ie_F, nt_T, nt_F, nl_T, nl_F, in_T, and_false, false_and, and_self, not_true_eq_false, Int.toNat_natCast, Int.reduceToNat, if_true, if_false, mi_271, i271_0, i271_1, i271_2, i271_3, i271_6, i271_9, i271_10, i271_13, i271_14, i271_15, i271_16, i271_19, i271_22, i271_23, i271_24, i271_25, i271_28, i271_29, i271_30, i271_31, i271_32, i271_33, i271_34, i271_35, i271_38, i271_39, i271_40, i271_43, i271_44, i271_45, i271_46, i271_50, i271_51, i271_52, i271_55, i271_56, i271_57, i271_58, i271_59, i271_60, i271_63, i271_64, i271_67, i271_69, i271_70, i271_72, i271_74, i271_77, i271_79, i271_80, i271_83, i271_84, i271_85, i271_88, i271_89, i271_92, i271_94, i271_95, i271_98, i271_99, i271_102, i271_104, i271_105, i271_106, i271_108, i271_109, i271_112, i271_113, i271_116, i271_117, i271_119, i271_120, i271_123, i271_126, i271_129, i271_132, i271_135, g12_14, g12_50, g12_51, okt_0, okt_1, ra_148 hR, ra_161 hR, hy, hz2, ho, eq_false c2, c3, eq_false c4]
                exact q
            · have c5 := c3.1
              have q := ihz n p r (some (vi (o : Int))) hin hy (h.skq hy (fun o' ho' => by
                have e : o' = o := by omega
                intro _
                rw [e]; exact c5))
              simp (disch := omega) only [s_1, s_2, s_3, s_4, s_76, s_5, s_6, s_7, s_8, s_9, s_10, s_11, s_12, s_13, s_14, s_15, s_16, s_17, s_18, s_19, s_20, s_21, s_22, s_23, s_24, s_25, s_26, s_27, s_28, s_29, s_30, s_31, s_32, s_33, s_34, s_35, s_36, s_37, s_38, s_39, s_40l, s_40i, s_40r, s_41, s_43, t_44, t_45, t_46, t_47, s_48, s_49, s_50, s_51, s_52, s_53, s_54, s_55, s_56, s_57, s_58, s_59, s_60, s_61, s_62_0, s_62_1, s_62_2, s_66, s_67, s_68, s_69, s_70, s_71, s_72, s_73, sws_n, sws_c, lget, lset, fget, fset, nolg, nolong, avc, stw, cnd, isobj_eo, GCi, GCn, retk, List.length_cons, List.length_nil, ↓reduceIte, and_true, true_and, not_true_eq_false, not_false_eq_true, forall_const, Nat.reduceAdd, Nat.reduceLT, Nat.reduceLeDiff, Nat.lt_add_one, Nat.le_refl, Nat.zero_le, Nat.sub_zero, Int.reduceEq, Int.reduceNe, Int.reduceLT, Int.reduceLE, Int.reduceAdd, Int.reduceSub, Int.reduceMul, Int.reduceNeg, Int.reduceTDiv, Int.reduceTMod, ne_eq, reduceCtorEq, Nat.reduceEqDiff, Int.cast_ofNat_Int, true_or, or_true, false_or, or_false, lcq_0, lcq_2, lcq_3, lcq_4, lcq_5, wu_s, wu_1, wu_w, wu_lt, wu_ne, ar_s, ar_n, rr_s, rr_n, ob_n, nz_c, lt_T, lt_F, le_T, le_F, ie_T, ie_F, nt_T, nt_F, nl_T, nl_F, in_T, and_false, false_and, and_self, not_true_eq_false, Int.toNat_natCast, Int.reduceToNat, if_true, if_false, mi_271, i271_0, i271_1, i271_2, i271_3, i271_6, i271_9, i271_10, i271_13, i271_14, i271_15, i271_16, i271_19, i271_22, i271_23, i271_24, i271_25, i271_28, i271_29, i271_30, i271_31, i271_32, i271_33, i271_34, i271_35, i271_38, i271_39, i271_40, i271_43, i271_44, i271_45, i271_46, i271_50, i271_51, i271_52, i271_55, i271_56, i271_57, i271_58, i271_59, i271_60, i271_63, i271_64, i271_67, i271_69, i271_70, i271_72, i271_74, i271_77, i271_79, i271_80, i271_83, i271_84, i271_85, i271_88, i271_89, i271_92, i271_94, i271_95, i271_98, i271_99, i271_102, i271_104, i271_105, i271_106, i271_108, i271_109, i271_112, i271_113, i271_116, i271_117, i271_119, i271_120, i271_123, i271_126, i271_129, i271_132, i271_135, g12_14, g12_50, g12_51, okt_0, okt_1, ra_148 hR, ra_161 hR, hy, hz2, ho, eq_false c2, c5]
              exact q
      · intro n p r z v5 hz hin hy h
        have hn := h.nb hM ht
        have q := ih n p r (some (vi z)) v5 h.row (by omega)
        rw [nc1] at q
        rw [i271_48]
        simp (disch := omega) only [s_1, s_2, s_3, s_4, s_76, s_5, s_6, s_7, s_8, s_9, s_10, s_11, s_12, s_13, s_14, s_15, s_16, s_17, s_18, s_19, s_20, s_21, s_22, s_23, s_24, s_25, s_26, s_27, s_28, s_29, s_30, s_31, s_32, s_33, s_34, s_35, s_36, s_37, s_38, s_39, s_40l, s_40i, s_40r, s_41, s_43, t_44, t_45, t_46, t_47, s_48, s_49, s_50, s_51, s_52, s_53, s_54, s_55, s_56, s_57, s_58, s_59, s_60, s_61, s_62_0, s_62_1, s_62_2, s_66, s_67, s_68, s_69, s_70, s_71, s_72, s_73, sws_n, sws_c, lget, lset, fget, fset, nolg, nolong, avc, stw, cnd, isobj_eo, GCi, GCn, retk, List.length_cons, List.length_nil, ↓reduceIte, and_true, true_and, not_true_eq_false, not_false_eq_true, forall_const, Nat.reduceAdd, Nat.reduceLT, Nat.reduceLeDiff, Nat.lt_add_one, Nat.le_refl, Nat.zero_le, Nat.sub_zero, Int.reduceEq, Int.reduceNe, Int.reduceLT, Int.reduceLE, Int.reduceAdd, Int.reduceSub, Int.reduceMul, Int.reduceNeg, Int.reduceTDiv, Int.reduceTMod, ne_eq, reduceCtorEq, Nat.reduceEqDiff, Int.cast_ofNat_Int, true_or, or_true, false_or, or_false, lcq_0, lcq_2, lcq_3, lcq_4, lcq_5, wu_s, wu_1, wu_w, wu_lt, wu_ne, ar_s, ar_n, rr_s, rr_n, ob_n, nz_c, lt_T, lt_F, le_T, le_F, ie_T, ie_F, nt_T, nt_F, nl_T, nl_F, in_T, and_false, false_and, and_self, not_true_eq_false, Int.toNat_natCast, Int.reduceToNat, if_true, if_false, mi_271, i271_0, i271_1, i271_2, i271_3, i271_6, i271_9, i271_10, i271_13, i271_14, i271_15, i271_16, i271_19, i271_22, i271_23, i271_24, i271_25, i271_28, i271_29, i271_30, i271_31, i271_32, i271_34, i271_35, i271_38, i271_39, i271_40, i271_43, i271_44, i271_45, i271_46, i271_50, i271_51, i271_52, i271_55, i271_56, i271_57, i271_58, i271_59, i271_60, i271_63, i271_64, i271_67, i271_69, i271_70, i271_72, i271_74, i271_77, i271_79, i271_80, i271_83, i271_84, i271_85, i271_88, i271_89, i271_92, i271_94, i271_95, i271_98, i271_99, i271_102, i271_104, i271_105, i271_106, i271_108, i271_109, i271_112, i271_113, i271_116, i271_117, i271_119, i271_120, i271_123, i271_126, i271_129, i271_132, i271_135, g12_14, g12_50, g12_51, okt_0, okt_1, ra_148 hR, hy]
        exact q
  · intro n p r v4 v5 h hin
    have hn := h.nb hM ht
    have c : 200 = n := by omega
    subst c
    have q := hQ p r (ElI.fnq h hM ht hτ2)
    rw [i271_33]
    simp (disch := omega) only [s_1, s_2, s_3, s_4, s_76, s_5, s_6, s_7, s_8, s_9, s_10, s_11, s_12, s_13, s_14, s_15, s_16, s_17, s_18, s_19, s_20, s_21, s_22, s_23, s_24, s_25, s_26, s_27, s_28, s_29, s_30, s_31, s_32, s_33, s_34, s_35, s_36, s_37, s_38, s_39, s_40l, s_40i, s_40r, s_41, s_43, t_44, t_45, t_46, t_47, s_48, s_49, s_50, s_51, s_52, s_53, s_54, s_55, s_56, s_57, s_58, s_59, s_60, s_61, s_62_0, s_62_1, s_62_2, s_66, s_67, s_68, s_69, s_70, s_71, s_72, s_73, sws_n, sws_c, lget, lset, fget, fset, nolg, nolong, avc, stw, cnd, isobj_eo, GCi, GCn, retk, List.length_cons, List.length_nil, ↓reduceIte, and_true, true_and, not_true_eq_false, not_false_eq_true, forall_const, Nat.reduceAdd, Nat.reduceLT, Nat.reduceLeDiff, Nat.lt_add_one, Nat.le_refl, Nat.zero_le, Nat.sub_zero, Int.reduceEq, Int.reduceNe, Int.reduceLT, Int.reduceLE, Int.reduceAdd, Int.reduceSub, Int.reduceMul, Int.reduceNeg, Int.reduceTDiv, Int.reduceTMod, ne_eq, reduceCtorEq, Nat.reduceEqDiff, Int.cast_ofNat_Int, true_or, or_true, false_or, or_false, lcq_0, lcq_2, lcq_3, lcq_4, lcq_5, wu_s, wu_1, wu_w, wu_lt, wu_ne, ar_s, ar_n, rr_s, rr_n, ob_n, nz_c, lt_T, lt_F, le_T, le_F, ie_T, ie_F, nt_T, nt_F, nl_T, nl_F, in_T, and_false, false_and, and_self, not_true_eq_false, Int.toNat_natCast, Int.reduceToNat, if_true, if_false, mi_271, i271_0, i271_1, i271_2, i271_3, i271_6, i271_9, i271_10, i271_13, i271_14, i271_15, i271_16, i271_19, i271_22, i271_23, i271_24, i271_25, i271_28, i271_29, i271_30, i271_31, i271_32, i271_34, i271_35, i271_38, i271_39, i271_40, i271_43, i271_44, i271_45, i271_46, i271_48, i271_50, i271_51, i271_52, i271_55, i271_56, i271_57, i271_58, i271_59, i271_60, i271_63, i271_64, i271_67, i271_69, i271_70, i271_72, i271_74, i271_77, i271_79, i271_80, i271_83, i271_84, i271_85, i271_88, i271_89, i271_92, i271_94, i271_95, i271_98, i271_99, i271_102, i271_104, i271_105, i271_106, i271_108, i271_109, i271_112, i271_113, i271_116, i271_117, i271_119, i271_120, i271_123, i271_126, i271_129, i271_132, i271_135, g12_14, g12_50, g12_51, okt_0, okt_1]
    exact q
end ELY
