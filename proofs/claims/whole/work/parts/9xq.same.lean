-- A TEXT THAT WAS READ: the same in both, and out of whatever stood there
section SAM
variable {T : Nat → Int} {n N h p : Nat} {c d : CR} {σ τ : GS} {W W2 : AW} {sl kk : Int} {M sz : Nat} {gd gi gm ge w w2 s m t a b e s2 m2 t2 a2 b2 e2 u u2 : Nat → Int}
/-- a fault is one -/
theorem rdC_b (hT : Ty T) : ∀ (f : Nat) (c d : CR), XI n c → XZs c → rdC T n f c = (false, d) → (0 ≤ d.1 0 ∧ d.1 0 ≤ 4) ∧ (0 ≤ d.2.1 0 ∧ d.2.1 0 ≤ (n : Int))
  | 0, c, d, _, _, e => absurd (show true = false from congrArg Prod.fst e) (by decide)
  | f + 1, c, d, hI, hz, e => by
    unfold rdC at e
    by_cases c6 : c.1 3 = 6
    · rw [if_pos c6] at e
      exact absurd (show true = false from congrArg Prod.fst e) (by decide)
    · rw [if_neg c6] at e
      obtain ⟨aI, aT, a0⟩ := adv_I hT hI
      have pf := tkP_f (c := adv T n c)
      have pI := tkP_I aI (show XZs (adv T n c) from hz) c6
      by_cases cb : (tkPc (adv T n c)).1 = true
      · rw [if_pos cb] at e
        obtain ⟨q1, q2⟩ := pI cb
        exact rdC_b hT f _ d q1 q2 e
      · rw [if_neg cb] at e
        have cF : (tkPc (adv T n c)).1 = false := by
          cases hh : (tkPc (adv T n c)).1 with
          | true => exact absurd hh cb
          | false => rfl
        have ed : (tkPc (adv T n c)).2 = d := congrArg Prod.snd e
        rw [← ed]
        refine ⟨pf.2 cF, ?_⟩
        rw [pf.1]
        exact aT.1
theorem enc_0 {k v : Int} (hk : k = 0) : enc sl k v = 16 * v := by
  unfold enc
  rw [if_pos hk]
theorem enc_1 {k v : Int} (hk : k = 1) : enc sl k v = 16 * wmp sl v + 1 := by
  unfold enc
  rw [if_neg (by omega), if_pos hk]
theorem enc_2 {k v : Int} (h0 : ¬ k = 0) (h1 : ¬ k = 1) : enc sl k v = sgC k := by
  unfold enc
  rw [if_neg h0, if_neg h1]
theorem wmp_u {v v2 : Int} (h : 0 ≤ v ∧ v < wNo sl) (h2 : 0 ≤ v2 ∧ v2 < wNo sl) (e : wmp sl v = wmp sl v2) : v = v2 := by
  unfold wNo at h h2
  unfold wmp at e
  by_cases c : sl < 8
  · rw [if_pos c] at h h2
    rw [if_pos c, if_pos c] at e
    have key : ∀ x : Nat, x < 7 → ∀ y : Nat, y < 7 → ([0, 1, 6, 2, 3, 4, 5] : List Int).getD x 0 = ([0, 1, 6, 2, 3, 4, 5] : List Int).getD y 0 → x = y := by decide
    have := key v.toNat (by omega) v2.toNat (by omega) e
    omega
  · rw [if_neg c, if_neg c] at e
    exact e
theorem ty_ok {N k v : Int} {l l2 : List Bool} (h : tyI N k v l = some l2) : (k = 0 → 0 ≤ v ∧ v ≤ 99999) ∧ (k = 1 → 0 ≤ v ∧ v < N) ∧ (¬ k = 0 → ¬ k = 1 → 2 ≤ k ∧ k ≤ 14 ∧ ¬ k = 12) := by
  unfold tyI at h
  by_cases k0 : k = 0
  · rw [if_pos k0] at h
    refine ⟨fun _ => ?_, fun z => by omega, fun z => absurd k0 z⟩
    split at h
    · next q => exact q
    · cases h
  · rw [if_neg k0] at h
    by_cases k1 : k = 1
    · rw [if_pos k1] at h
      refine ⟨fun z => absurd z k0, fun _ => ?_, fun _ z => absurd k1 z⟩
      split at h
      · next q => exact q
      · cases h
    · rw [if_neg k1] at h
      refine ⟨fun z => absurd z k0, fun z => absurd z k1, fun _ _ => ?_⟩
      by_cases k9 : k = 9
      · omega
      · rw [if_neg k9] at h
        by_cases q1 : k = 10 ∨ k = 11
        · omega
        · rw [if_neg q1] at h
          by_cases q2 : 4 ≤ k ∧ k ≤ 8
          · omega
          · rw [if_neg q2] at h
            by_cases q3 : k = 2 ∨ k = 3 ∨ k = 13 ∨ k = 14
            · omega
            · rw [if_neg q3] at h
              cases h
theorem sgC_u : ∀ x : Nat, x < 15 → ∀ y : Nat, y < 15 → (2 ≤ x ∧ ¬ x = 12 ∧ 2 ≤ y ∧ ¬ y = 12 ∧ sgC (x : Int) = sgC (y : Int)) → x = y := by decide
theorem sgC_b : ∀ x : Nat, x < 15 → 2 ≤ x → 2 ≤ sgC (x : Int) ∧ sgC (x : Int) ≤ 14 := by decide
/-- entries that are the same in code come to the same -/
theorem evI_u {k v k2 v2 : Int} {l : List Int} {tl tl1 tl2 : List Bool} {ul : List Bool} (h1 : tyI (wNo sl) k v tl = some tl1) (h2 : tyI (wNo sl) k2 v2 ul = some tl2) (he : enc sl k v = enc sl k2 v2) (hw : ∀ i : Nat, (i : Int) < wNo sl → w2 i = w i) : evI w2 k2 v2 l = evI w k v l := by
  obtain ⟨a1, a2, a3⟩ := ty_ok h1
  obtain ⟨b1, b2, b3⟩ := ty_ok h2
  have sg : ∀ k : Int, 2 ≤ k ∧ k ≤ 14 ∧ ¬ k = 12 → 2 ≤ sgC k ∧ sgC k ≤ 14 := fun k hk => by
    have := sgC_b k.toNat (by omega) (by omega)
    rw [Int.toNat_of_nonneg (by omega)] at this
    exact this
  by_cases k0 : k = 0
  · have x1 := a1 k0
    rw [enc_0 k0] at he
    by_cases k20 : k2 = 0
    · rw [enc_0 k20] at he
      have : v2 = v := by omega
      rw [k20, k0, this]
      rfl
    · by_cases k21 : k2 = 1
      · rw [enc_1 k21] at he
        omega
      · rw [enc_2 k20 k21] at he
        have := sg k2 (b3 k20 k21)
        omega
  · by_cases k1 : k = 1
    · have x1 := a2 k1
      have y1 := wmp_b x1
      rw [enc_1 k1] at he
      by_cases k20 : k2 = 0
      · rw [enc_0 k20] at he
        omega
      · by_cases k21 : k2 = 1
        · have x2 := b2 k21
          rw [enc_1 k21] at he
          have ev : v = v2 := wmp_u x1 x2 (by omega)
          rw [k21, k1, ← ev]
          show w2 v.toNat :: l = w v.toNat :: l
          rw [hw _ (by omega)]
        · rw [enc_2 k20 k21] at he
          have s2 := sg k2 (b3 k20 k21)
          have x0 := (b3 k20 k21)
          by_cases z : wmp sl v = 0
          · omega
          · omega
    · rw [enc_2 k0 k1] at he
      have s1 := sg k (a3 k0 k1)
      have x0 := a3 k0 k1
      by_cases k20 : k2 = 0
      · rw [enc_0 k20] at he
        omega
      · by_cases k21 : k2 = 1
        · rw [enc_1 k21] at he
          have y1 := wmp_b (b2 k21)
          omega
        · rw [enc_2 k20 k21] at he
          have y0 := b3 k20 k21
          have e2 := sgC_u k.toNat (by omega) k2.toNat (by omega) ⟨by omega, by omega, by omega, by omega, by rw [Int.toNat_of_nonneg (by omega), Int.toNat_of_nonneg (by omega)]; exact he⟩
          have e3 : k2 = k := by omega
          rw [e3]
          unfold evI
          rw [if_neg k0, if_neg k1, if_neg k0, if_neg k1]
theorem evS_u (hw : ∀ i : Nat, (i : Int) < wNo sl → w2 i = w i) {A : Nat} : ∀ (K : Nat) {tl tl2 : List Bool}, tyS (wNo sl) s m A K = some tl → tyS (wNo sl) s2 m2 A K = some tl2 → (∀ i, A ≤ i → i < A + K → enc sl (s i) (m i) = enc sl (s2 i) (m2 i)) → evS w2 s2 m2 A K = evS w s m A K
  | 0, _, _, _, _, _ => rfl
  | K + 1, tl, tl2, h1, h2, he => by
    unfold tyS at h1 h2
    split at h1
    · next l1 q1 =>
      split at h2
      · next l2 q2 =>
        unfold evS
        rw [evS_u hw K q1 q2 (fun i x y => he i x (by omega))]
        exact evI_u h1 h2 (he (A + K) (by omega) (by omega)) hw
      · cases h2
    · cases h1
theorem cuI_u {k k2 : Nat} (h : k < clN sl) (h2 : k2 < clN sl) (e : (cuI sl k : Int) = (cuI sl k2 : Int)) : k = k2 := by
  unfold clN at h h2
  by_cases c : sl < 8
  · rw [if_pos c] at h h2
    have x := cuI_s (s := sl) c h
    have y := cuI_s (s := sl) c h2
    by_cases q1 : k < 2
    · have := x.1 q1
      by_cases q2 : k2 < 2
      · have := y.1 q2; omega
      · have := y.2 (by omega); omega
    · have := x.2 (by omega)
      by_cases q2 : k2 < 2
      · have := y.1 q2; omega
      · have := y.2 (by omega); omega
  · rw [if_neg c] at h h2
    have := cuI_w (s := sl) c h
    have := cuI_w (s := sl) c h2
    omega
theorem smV_u (l8 : sl < 8) (hk : kk = 0 ∨ kk = 1) (h1 : TxC sl M sz gd gi gm ge s m t a b e) (h2 : TxC sl M sz gd gi gm ge s2 m2 t2 a2 b2 e2) (hw : ∀ i : Nat, (i : Int) < wNo sl → w2 i = w i) : ∀ f j : Nat, j + f = M → smV sl kk w2 s2 m2 t2 a2 b2 e2 f j = smV sl kk w s m t a b e f j
  | 0, _, _ => rfl
  | f + 1, j, hj => by
    obtain ⟨-, x2, x3, x4, x5⟩ := id h1
    obtain ⟨-, y2, y3, y4, y5⟩ := id h2
    obtain ⟨k, p1, p2, p3, p4, p5, p6, p7, p8, -⟩ := x5 j (by omega)
    obtain ⟨k', q1, q2, q3, q4, q5, q6, q7, q8, -⟩ := y5 j (by omega)
    have ek : k = k' := cuI_u p1 q1 (p3.symm.trans q3)
    subst ek
    have et : t2 (clI j sl) = t (clI j sl) := q2.trans p2.symm
    have ea : a2 (clI j sl) = a (clI j sl) := q6.trans p6.symm
    have eb : b2 (clI j sl) = b (clI j sl) := q4.symm.trans p4
    have ee : e2 (clI j sl) = e (clI j sl) := q5.symm.trans p5
    have ih := smV_u l8 hk h1 h2 hw f (j + 1) (by omega)
    unfold smV
    rw [et, ea, eb, ee, ih]
    rw [ea, eb, ee] at q8
    generalize clI j sl = i at *
    by_cases ck : t i = kk
    · have k2 : k < 2 := by omega
      obtain ⟨r1, r2⟩ := p8 l8 k2
      obtain ⟨u1, u2⟩ := q8 l8 k2
      have e1 := evS_u (w := w) (w2 := w2) hw _ r1 u1 (fun i2 x y => by
        have z1 := x4 (i2 - (300 * sl).toNat) (by omega)
        have z2 := y4 (i2 - (300 * sl).toNat) (by omega)
        rw [show (300 * sl).toNat + (i2 - (300 * sl).toNat) = i2 by omega] at z1 z2
        exact z1.symm.trans z2)
      rw [e1]
      by_cases cb : b i = e i
      · rw [if_pos ⟨ck, Or.inl cb⟩, if_pos ⟨ck, Or.inl cb⟩]
      · have e3 := evS_u (w := w) (w2 := w2) hw _ (r2.resolve_left cb) (u2.resolve_left cb) (fun i2 x y => by
          have z1 := x4 (i2 - (300 * sl).toNat) (by omega)
          have z2 := y4 (i2 - (300 * sl).toNat) (by omega)
          rw [show (300 * sl).toNat + (i2 - (300 * sl).toNat) = i2 by omega] at z1 z2
          exact z1.symm.trans z2)
        rw [e3]
    · rw [if_neg (fun z => ck z.1), if_neg (fun z => ck z.1)]
/-- the same slot elsewhere -/
theorem TxC.cg (h : TxC sl M sz gd gi gm ge s m t a b e) (h0 : 0 ≤ sl) (hs : ∀ i : Nat, 300 * sl.toNat ≤ i → i < 300 * sl.toNat + 300 → s2 i = s i ∧ m2 i = m i) (hr : ∀ i : Nat, 12 * sl.toNat ≤ i → i < 12 * sl.toNat + 12 → t2 i = t i ∧ a2 i = a i ∧ b2 i = b i ∧ e2 i = e i) : TxC sl M sz gd gi gm ge s2 m2 t2 a2 b2 e2 := by
  obtain ⟨x1, x2, x3, x4, x5⟩ := h
  have eb : (300 * sl).toNat = 300 * sl.toNat := by omega
  refine ⟨x1, x2, ?_, fun i hi => ?_, fun j hj => ?_⟩
  · rw [nvS_e (s := s) _ (fun i x y => (hs i (by omega) (by omega)).1)]
    exact x3
  · rw [(hs _ (by omega) (by omega)).1, (hs _ (by omega) (by omega)).2]
    exact x4 i hi
  · obtain ⟨k, p1, p2, p3, p4, p5, p6, p7, p8, p9⟩ := x5 j hj
    have ij : clI j sl = 12 * sl.toNat + j := by unfold clI; omega
    obtain ⟨r1, r2, r3, r4⟩ := hr (clI j sl) (by omega) (by omega)
    refine ⟨k, p1, by rw [r1]; exact p2, p3, by rw [r3]; exact p4, by rw [r4]; exact p5, by rw [r2]; exact p6, by rw [r2, r3, r4]; exact p7, fun l8 k2 => ?_, fun l8 => ?_⟩
    · rw [r2, r3, r4]
      obtain ⟨u1, u2⟩ := p8 l8 k2
      refine ⟨by rw [tyS_e (s := s) (m := m) _ (fun i x y => hs i (by omega) (by omega))]; exact u1, ?_⟩
      rcases u2 with u2 | u2
      · exact Or.inl u2
      · exact Or.inr (by rw [tyS_e (s := s) (m := m) _ (fun i x y => hs i (by omega) (by omega))]; exact u2)
    · rw [r3, r4, tyS_e (s := s) (m := m) _ (fun i x y => hs i (by omega) (by omega))]
      exact p9 l8
theorem TxC.tr (h : TxC sl M sz gd gi gm ge (ar W 168) (ar W 169) (ar W 171) (ar W 173) (ar W 174) (ar W 175)) (h170 : ar W 170 sl.toNat = (M : Int)) : TxR W sl M := by
  obtain ⟨x1, x2, x3, x4, x5⟩ := h
  refine ⟨x1, h170, fun j hj => ?_⟩
  obtain ⟨k, p1, p2, p3, p4, p5, p6, p7, p8, p9⟩ := x5 j hj
  exact ⟨k, p1, p2, ⟨p7.1, p7.2.1, p7.2.2.1, by omega⟩, p8, p9⟩
/-- out of the class's last state, and what the reference wrote -/
theorem TxC.of (hC : CfC d W σ M) (hM : M ≤ 12) (h23 : 0 ≤ σ.1 23) (h26 : 0 ≤ σ.1 26 ∧ σ.1 26 ≤ 300) (h60 : σ.1 28 ≤ 60) (hd : ∀ i : Nat, i < (d.1 7).toNat → gd i = d.2.2.1 i) (hg : ∀ i : Nat, i < M → gi i = d.2.2.2.2.1 i ∧ gm i = d.2.2.2.2.2.1 i ∧ ge i = d.2.2.2.2.2.2.1 i) (hs : s = σ.2.1) (hm : m = σ.2.2) (ht : t = ar W 171) (ha : a = ar W 173) (hb : b = ar W 174) (he : e = ar W 175) : TxC (σ.1 23) M (d.1 7).toNat gd gi gm ge s m t a b e ∧ (d.1 7).toNat = (σ.1 26).toNat := by
  subst hs hm ht ha hb he
  obtain ⟨c1, c2, c3, r1, r2, r3, r4⟩ := hC
  have e7 : d.1 7 = σ.1 26 := c2.1
  refine ⟨⟨hM, by omega, ?_, fun i hi => ?_, fun j hj => ?_⟩, by rw [e7]⟩
  · rw [e7]
    exact Int.le_trans r4 h60
  · rw [hd i hi]
    exact c2.2.2 i (by omega)
  · obtain ⟨k, p1, p2, p3, p4, p5, p6, p7, p8, p9, p10⟩ := r1 j hj
    obtain ⟨g1, g2, g3⟩ := hg j hj
    have pe : pvE d j = if j = 0 then 0 else ge (j - 1) := by
      unfold pvE
      by_cases j0 : j = 0
      · rw [if_pos j0, if_pos j0]
      · rw [if_neg j0, if_neg j0, (hg (j - 1) (by omega)).2.2]
    refine ⟨k, p1, p2, g1.trans p3, g2.trans p4, g3.trans p5, p6.trans pe, ?_, fun l8 k2 => ?_, fun l8 => ?_⟩
    · rw [p6, ← p4, ← p5]
      omega
    · rw [p6, ← p4, ← p5]
      exact p8 l8 k2
    · rw [← p4, ← p5]
      exact p9 l8
/-- a setting, with what is usual -/
theorem onF_d {k dd : Int} {M : Nat} : (∀ j : Nat, j < M → t (12 * sl + (j : Int)).toNat = k → 0 ≤ u (12 * sl + (j : Int)).toNat) → onF t u sl k dd M = if onF t u sl k (-1) M = -1 then dd else onF t u sl k (-1) M := by
  induction M with
  | zero =>
    intro _
    show dd = if (-1 : Int) = -1 then dd else -1
    rw [if_pos rfl]
  | succ N ih =>
    intro h
    have e1 : ∀ x, onF t u sl k x (N + 1) = if t (12 * sl + (N : Int)).toNat = k then u (12 * sl + (N : Int)).toNat else onF t u sl k x N := fun x => rfl
    rw [e1, e1]
    by_cases c : t (12 * sl + (N : Int)).toNat = k
    · have := h N (by omega) c
      rw [if_pos c, if_pos c, if_neg (by omega)]
    · rw [if_neg c, if_neg c]
      exact ih (fun j hj => h j (by omega))
end SAM
