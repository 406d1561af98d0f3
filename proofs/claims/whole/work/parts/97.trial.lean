-- TRIALS: a floor put aside, ticks, and back
/-- torn stays torn -/
def Mt (σ τ : SG) : Prop := ∀ e, ¬ σ 6 e = -1 → ¬ τ 6 e = -1
theorem Mt.rf {σ : SG} : Mt σ σ := fun _ h => h
theorem Mt.tr {σ τ ρ : SG} (h : Mt σ τ) (g : Mt τ ρ) : Mt σ ρ := fun e q => g e (h e q)
theorem Mt.eq {σ τ : SG} (h : τ 6 = σ 6) : Mt σ τ := fun e q => by rw [h]; exact q
theorem Mt.fu {σ τ : SG} {k : Nat} {x : Int} (h : τ 6 = fu (σ 6) k x) (hx : ¬ x = -1) : Mt σ τ := fun e q => by
  rw [h]
  simp only [fu_3]
  split
  · exact hx
  · exact q
theorem Mt.gn {lw : LW} {σ : SG} {tip : Nat} : Mt σ (gnS lw σ tip) := by
  unfold gnS
  split
  · split
    · exact Mt.rf
    · exact Mt.fu (k := (eef (σ 13 tip) (goB lw σ tip)).toNat) (x := ((tip / 2 : Nat) : Int)) rfl (by omega)
  · exact Mt.rf
theorem Mt.gN {lw : LW} {σ : SG} : ∀ n, Mt σ (goN lw σ n)
  | 0 => Mt.rf
  | n + 1 => (Mt.gN n).tr Mt.gn
theorem Mt.ne {lw : LW} : ∀ (k : Nat) {σ : SG}, 0 ≤ σ 0 5 → Mt σ (neS lw k σ)
  | 0, _, _ => Mt.rf
  | k + 1, σ, h => by
    unfold neS
    split
    · refine Mt.tr (τ := neW σ (neB lw σ)) (Mt.fu (k := (neB lw σ).toNat) (x := σ 0 5) rfl (by omega)) (Mt.ne k ?_)
      show 0 ≤ σ 0 5 + 1
      omega
    · exact Mt.rf
theorem Mt.tick {lw : LW} {h : Int} {σ : SG} (h5 : 0 ≤ σ 0 5) : Mt σ (tickS lw h σ) := by
  refine Mt.tr (τ := dryS lw h σ) (Mt.eq rfl) (Mt.tr (Mt.gN (lw := lw) (2 * (σ 0 5).toNat)) (Mt.tr (Mt.ne (lw := lw) (lw.2 6).toNat ?_) (Mt.eq rfl)))
  rw [goN_0]
  exact h5
theorem Mt.tkN {lw : LW} {h : Int} {σ : SG} (hI : FI 0 σ) (h0 : 0 ≤ h) (h1 : h ≤ 100) : ∀ n : Nat, σ 0 4 + n ≤ 100000 → Mt σ (tkN lw h n σ)
  | 0, _ => Mt.rf
  | n + 1, hn => (Mt.tkN hI h0 h1 n (by omega)).tr (Mt.tick (by have := (hI.tkN (lw := lw) h0 h1 n (by omega)).1.2.2.1; omega))
theorem tn_cn {t : Nat → Int} : ∀ n : Nat, tn t n + cn t (-1) n = n
  | 0 => rfl
  | n + 1 => by
    have ih := tn_cn (t := t) n
    by_cases c : t n = -1
    · rw [tn_1 c, show cn t (-1) (n + 1) = cn t (-1) n + if t n = -1 then 1 else 0 from rfl, if_pos c, nc1]; omega
    · rw [tn_2 c, show cn t (-1) (n + 1) = cn t (-1) n + if t n = -1 then 1 else 0 from rfl, if_neg c, nc1]; omega
/-- torn in the second, not in the first -/
def an1 (t u : Nat → Int) (i : Nat) : Int := if ¬ u i = -1 ∧ t i = -1 then 1 else 0
theorem an_e {t u : Nat → Int} (h : ∀ i, ¬ t i = -1 → ¬ u i = -1) : ∀ n, sm (an1 t u) n = tn u n - tn t n
  | 0 => rfl
  | n + 1 => by
    have ih := an_e h n
    show sm (an1 t u) n + an1 t u n = _
    rw [ih]
    unfold an1
    by_cases c : t n = -1
    · rw [tn_1 c]
      by_cases c2 : u n = -1
      · rw [tn_1 c2, if_neg (fun q => q.1 c2)]; omega
      · rw [tn_2 c2, if_pos ⟨c2, c⟩]; omega
    · rw [tn_2 c, tn_2 (h n c), if_neg (fun q => c q.2)]; omega
section TRC
variable {W : AW} {Q : AQ} {s : ST} {τ : SG} {c c0 h : Int} {ll n : Nat} {lw : LW}
theorem x_bec93 (hz : Zw W) (hH : CH W) (hC : CC W s) (hS : SOK c s) (hQ : ∀ V, CH V → CC V s → Zw V → Sq (cF V 93) (sF s) → Ln V 93 → (∀ ll lw, LawC W ll lw → LawC V ll lw) → Q none V) : Gm 154 [vr 93, vr 76] W Q := by
  have hw : 192 ≤ W.1 := hH.1.1
  have f0 := hS.f0
  have e5 : ob W (76 + 9) 0 = sF s 0 5 := hC.v.2.2.2.2.2.1
  have raw : Gm 154 [vr 93, vr 76] W (fun r V => r = none ∧ V.1 = W.1 ∧ (∀ k, k < 93 ∨ 109 < k → V.2 k = W.2 k) ∧ MS V 93 ∧ Sq (cF V 93) (cF W 76) ∧ Ln V 93) := x_become (d := 93) (o := 76) hz hH.2.2.1 hH.2.1 (by omega) (by omega) (by omega) (by rw [e5]; omega) hC.2.1 (fun V v1 v2 v3 v4 v5 => ⟨rfl, v1, v2, v3, v4, v5⟩)
  refine Gm_post (Gm_zero raw hz) (fun r V q => ?_)
  obtain ⟨⟨rfl, v1, v2, v3, v4, v5⟩, vz⟩ := q
  obtain ⟨a1, a2, a3, ⟨mm, l0, a4⟩, a5, a6, a7, a8⟩ := hH
  refine hQ V ⟨a1.cg (by omega) (fun k q => v2 k ?_), a2.cg (fun j q => v2 _ (by omega)), v3, ⟨mm, l0, ?_⟩, ?_, ?_, ?_, ?_⟩ (hC.cg (by omega) (fun k q => v2 k (by unfold ck at q; omega)) (fun k p q => v2 k (by omega))) vz (v4.tr hC.1.1) v5 (fun ll lw hl => hl.cg (by omega) (fun k p q => v2 k (by omega)))
  · have := (show ∀ k ∈ cown, k < 93 ∨ 109 < k by decide) k q
    exact this
  · rw [v2 130 (by omega), ob_c (v2 130 (by omega))]; exact a4
  · rw [v2 114 (by omega), rr_c (v2 114 (by omega))]; exact a5
  · rw [v2 115 (by omega), rr_c (v2 115 (by omega))]; exact a6
  · rw [v2 116 (by omega), rr_c (v2 116 (by omega))]; exact a7
  · rw [v2 117 (by omega), rr_c (v2 117 (by omega))]; exact a8
/-- the class tries a floor by a law -/
def TRc (W : AW) (s : ST) (τ : SG) (ll : Nat) (lw : LW) (c0 : Int) : Prop := CH W ∧ CC W s ∧ CKk W 93 ll lw c0 ∧ Sq (cF W 93) τ ∧ FI 0 τ ∧ Zw W
theorem Zw.o {j : Nat} {cl : Nat} {l : List AV} (h : Zw W) : Zw (wu W j (eo cl l)) := h.up trivial
theorem TRc.mk (hz : Zw W) (hH : CH W) (hC : CC W s) (hq : Sq (cF W 93) τ) (hl : Ln W 93) (hI : FI 0 τ) (hL : LawC W ll lw) : TRc (wu W 130 (o10 93 ll (fu (ob W 130) 6 0))) s τ ll lw (cn (τ 6) (-1) 180) := by
  have e6 : ar W (93 + 6) = τ 6 := hq.2.1.2.2.2.2.2.1
  have := ckk_take (m := 93) (cw_take hH (Or.inr rfl) hL) hl (Or.inr rfl)
  rw [e6] at this
  exact ⟨hH.take, hC.take, this, by rw [cF_o (by omega)]; exact hq, hI, hz.o⟩
theorem TRc.ws (h : TRc W s τ ll lw c0) : W.2 130 = o10 93 ll (ob W 130) := h.2.2.1.1.2.2.1
theorem TRc.fr (h : TRc W s τ ll lw c0) : ob W 130 6 = c0 - cn (τ 6) (-1) 180 := by
  have h1 := h.2.2.1.2.2.1
  have e6 : ar W (93 + 6) = τ 6 := h.2.2.2.1.2.1.2.2.2.2.2.1
  rw [e6] at h1
  omega
theorem x_passT (hT : TRc W s τ ll lw c0) (hk : LwOk lw) (hh : 0 ≤ h ∧ h ≤ 100) (hn : n ≤ 60) (ht : τ 0 4 + n ≤ 99999) (hQ : ∀ V, TRc V s (tkN lw h n τ) ll lw c0 → Q (some (vi (c0 - cn (tkN lw h n τ 6) (-1) 180))) V) : Gm 104 [vr 130, vi (n : Int), vi h] W Q := by
  obtain ⟨hH, hC, hK, hq, hI, hz⟩ := hT
  have hI2 : FI 0 (cF W 93) := FI.sq hI hq.sy
  have e4 : ob W 93 5 = τ 0 4 := hq.1.2.2.2.2.1
  have raw : Gm 104 [vr 130, vi (n : Int), vi h] W (fun r V => r = some (vi (ob V 130 6)) ∧ CKk V 93 ll lw c0 ∧ Fc 93 W V ∧ cF V 93 = tkN lw h n (cF W 93)) := c_pass (m := 93) hK hI2 hk hh hn (by rw [e4]; exact ht) (fun V a b d e => ⟨rfl, a, b, e⟩)
  refine Gm_post (Gm_zero raw hz) (fun r V q => ?_)
  obtain ⟨⟨rfl, v1, v2, v3⟩, vz⟩ := q
  have s1 := Sq.q_tkN (lw := lw) hq.sy hI hh.1 hh.2 n (by omega)
  have hT : TRc V s (tkN lw h n τ) ll lw c0 := ⟨CKk.ch93 hH v2 v1.1, hC.fc93 v2, v1, by rw [v3]; exact s1.1.sy, s1.2.1, vz⟩
  have := hQ V hT
  rw [hT.fr]
  exact this
end TRC
theorem KR.cg2 {W : AW} {s : ST} {j : Nat} {e : AE} (h : KR W s) (hj : 179 ≤ j ∧ j < 191 ∧ j ≠ 188) (hR : RS (wu W j e)) : KR (wu W j e) s := by
  obtain ⟨a1, a2, a3, a4, a5, a6, a7, a8⟩ := h
  exact ⟨hR, fun k p q => by rw [wu_ne (by omega)]; exact a2 k p q, by rw [rF_o (by omega)]; exact a3, by rw [ob_n (by omega)]; exact a4, by rw [ar_n (by omega)]; exact a5, fun k q => (a6 k q).ot (by omega), fun k q => ⟨(a7 k q).1.cg (a7 k q).2 (fun j p q => wu_ne (by omega)), (a7 k q).2⟩, fun k q => (a8 k q).cg (wu_ne (by omega)) (wu_ne (by omega))⟩
theorem Zw.upA {W : AW} {j t n i : Nat} {f : Nat → Int} {x : Int} (h : Zw W) (h0 : W.2 j = ea t n f) (h1 : 1 ≤ j) (hj : j < W.1) (hi : i < n) : Zw (wu W j (ea t n (fu f i x))) := h.up (fun k hk => by
  rw [fu_ne _ _ (by omega)]
  exact h.ar h1 hj h0 k hk)
section TRR
variable {W : AW} {Q : AQ} {s : ST} {τ : SG} {c h : Int} {n : Nat} {lw : LW} {r : Int}
/-- the reference tries a floor; its own is put aside -/
def TRr (W : AW) (s : ST) (τ : SG) : Prop := KR W (τ, s.2) ∧ Zw W ∧ iR W 4 = sF s ∧ (∀ e, e < 180 → ar W 189 e = tn1 (sF s 6) e)
theorem y_tries (hR : KR W s) (hz : Zw W) (hQ : ∀ V, TRr V s (sF s) → Q none V) : Gm 280 [vr 148] W Q := by
  have hw : 192 ≤ W.1 := hR.1.1
  rw [e280]
  simp (disch := omega) only [s_1, s_2, s_3, s_4, s_76, s_5, s_6, s_7, s_8, s_9, s_10, s_11, s_12, s_13, s_14, s_15, s_16, s_17, s_18, s_19, s_20, s_21, s_22, s_23, s_24, s_25, s_26, s_27, s_28, s_29, s_30, s_31, s_32, s_33, s_34, s_35, s_36, s_37, s_38, s_39, s_40l, s_40i, s_40r, s_41, s_43, t_44, t_45, t_46, t_47, s_48, s_49, s_50, s_51, s_52, s_53, s_54, s_55, s_56, s_57, s_58, s_59, s_60, s_61, s_62_0, s_62_1, s_62_2, s_66, s_67, s_68, s_69, s_70, s_71, s_72, s_73, sws_n, sws_c, lget, lset, fget, fset, nolg, nolong, avc, stw, cnd, isobj_eo, GCi, GCn, retk, List.length_cons, List.length_nil, ↓reduceIte, and_true, true_and, not_true_eq_false, not_false_eq_true, forall_const, Nat.reduceAdd, Nat.reduceLT, Nat.reduceLeDiff, Nat.lt_add_one, Nat.le_refl, Nat.zero_le, Nat.sub_zero, Int.reduceEq, Int.reduceNe, Int.reduceLT, Int.reduceLE, Int.reduceAdd, Int.reduceSub, Int.reduceMul, Int.reduceNeg, Int.reduceTDiv, Int.reduceTMod, ne_eq, reduceCtorEq, Nat.reduceEqDiff, Int.cast_ofNat_Int, true_or, or_true, false_or, or_false, lcq_0, lcq_2, lcq_3, lcq_4, lcq_5, wu_s, wu_1, wu_w, wu_lt, wu_ne, ar_s, ar_n, rr_s, rr_n, ob_n, nz_c, lt_T, lt_F, le_T, le_F, ie_T, ie_F, nt_T, nt_F, nl_T, nl_F, in_T, and_false, false_and, and_self, not_true_eq_false, Int.toNat_natCast, Int.reduceToNat, if_true, if_false, mi_280, i280_0, i280_1, i280_2, i280_3, i280_6, i280_7, i280_9, i280_12, i280_15, i280_16, i280_19, i280_20, i280_21, i280_22, i280_25, i280_28, i280_29, i280_32, i280_33, i280_34, i280_37, i280_40, k190, k276, g12_53, ra_148 hR.1]
  have raw : Gm 276 [vr 148, vi ((4 : Nat) : Int), vi 0] W (fun r V => r = none ∧ IvF W 4 18 V) := y_carriesF hR.1 (by decide) (fun V h => ⟨rfl, h⟩)
  refine Gm_post (Gm_zero raw hz) (fun r V q => ?_)
  obtain ⟨⟨rfl, hv⟩, vz⟩ := q
  obtain ⟨v1, v2, v3, v4, v5, v6⟩ := hv.1
  have hKV : KR V s := by
    obtain ⟨a1, a2, a3, a4, a5, a6, a7, a8⟩ := hR
    refine ⟨v1, fun k p q => by rw [v3 k (by omega) (by omega)]; exact a2 k p q, by rw [rF_c (fun k p q => v3 k (by omega) (by omega))]; exact a3, by rw [v4.2.2.1, v4.2.2.2, v4.2.1, v4.1]; exact a4, by rw [ar_c (v3 167 (by decide) (by decide))]; exact a5, fun k q => (a6 k q).cg (fun j p q => v3 j (by omega) (by omega)), fun k q => ⟨(a7 k q).1.cg (a7 k q).2 (fun j p q => v3 j (by omega) (by omega)), (a7 k q).2⟩, fun k q => ?_⟩
    have h8 := a8 k q
    have e1 := hv.ot (k2 := k) (by omega)
    have e2 : ar V 191 = ar W 191 := ar_c (v3 191 (by decide) (by decide))
    cases hi : sI s k with
    | none => rw [hi] at h8; show ar V 191 k = 0; rw [e2]; exact h8
    | some σ => rw [hi] at h8; show ar V 191 k = 1 ∧ iR V k = σ; rw [e2, e1]; exact h8
  have e4 : iR V 4 = sF s := by rw [hv.im hz hR.1, hR.2.2.1]
  have e6 : ar V 155 = sF s 6 := hKV.f 6 (by decide)
  have wV : 192 ≤ V.1 := v1.1
  simp (disch := omega) only [s_1, s_2, s_3, s_4, s_76, s_5, s_6, s_7, s_8, s_9, s_10, s_11, s_12, s_13, s_14, s_15, s_16, s_17, s_18, s_19, s_20, s_21, s_22, s_23, s_24, s_25, s_26, s_27, s_28, s_29, s_30, s_31, s_32, s_33, s_34, s_35, s_36, s_37, s_38, s_39, s_40l, s_40i, s_40r, s_41, s_43, t_44, t_45, t_46, t_47, s_48, s_49, s_50, s_51, s_52, s_53, s_54, s_55, s_56, s_57, s_58, s_59, s_60, s_61, s_62_0, s_62_1, s_62_2, s_66, s_67, s_68, s_69, s_70, s_71, s_72, s_73, sws_n, sws_c, lget, lset, fget, fset, nolg, nolong, avc, stw, cnd, isobj_eo, GCi, GCn, retk, List.length_cons, List.length_nil, ↓reduceIte, and_true, true_and, not_true_eq_false, not_false_eq_true, forall_const, Nat.reduceAdd, Nat.reduceLT, Nat.reduceLeDiff, Nat.lt_add_one, Nat.le_refl, Nat.zero_le, Nat.sub_zero, Int.reduceEq, Int.reduceNe, Int.reduceLT, Int.reduceLE, Int.reduceAdd, Int.reduceSub, Int.reduceMul, Int.reduceNeg, Int.reduceTDiv, Int.reduceTMod, ne_eq, reduceCtorEq, Nat.reduceEqDiff, Int.cast_ofNat_Int, true_or, or_true, false_or, or_false, lcq_0, lcq_2, lcq_3, lcq_4, lcq_5, wu_s, wu_1, wu_w, wu_lt, wu_ne, ar_s, ar_n, rr_s, rr_n, ob_n, nz_c, lt_T, lt_F, le_T, le_F, ie_T, ie_F, nt_T, nt_F, nl_T, nl_F, in_T, and_false, false_and, and_self, not_true_eq_false, Int.toNat_natCast, Int.reduceToNat, if_true, if_false, mi_280, i280_0, i280_1, i280_2, i280_3, i280_6, i280_7, i280_9, i280_12, i280_15, i280_16, i280_19, i280_20, i280_21, i280_22, i280_25, i280_28, i280_29, i280_32, i280_33, i280_34, i280_37, i280_40, k190, k276, g12_53]
  have key := loop_u (P := fun i => ∀ U, KR U s → Zw U → iR U 4 = sF s → (∀ e, e < i → ar U 189 e = tn1 (sF s 6) e) → G 280 8 [some (vr 148), some (vi (i : Int))] [] U 0 0 Q) 180 (fun i hi ih => ?_) ?_ 0 (by omega) V hKV vz e4 (fun e q => by omega)
  · exact key
  · intro U u1 u2 u3 u4
    have wU : 192 ≤ U.1 := u1.1.1
    have u6 : ar U 155 = sF s 6 := u1.f 6 (by decide)
    have nx : ∀ x : Int, x = tn1 (sF s 6) i → G 280 8 [some (vr 148), some (vi ((i : Int) + 1))] [] (wu U 189 (ea 0 180 (fu (ar U 189) i x))) 0 0 Q := fun x hx => by
      rw [← nc1]
      refine ih _ (u1.cg2 (by decide) (ru_189 u1.1)) (u2.upA (ra_189 u1.1) (by decide) (by omega) hi) (by rw [iR_c (wu_ne (by decide))]; exact u3) (fun e he => ?_)
      rw [ar_s]
      simp only [fu_3]
      split
      · next q => rw [q]; exact hx
      · exact u4 e (by omega)
    rw [i280_8]
    by_cases cc : sF s 6 i = -1
    · simp (disch := omega) only [s_1, s_2, s_3, s_4, s_76, s_5, s_6, s_7, s_8, s_9, s_10, s_11, s_12, s_13, s_14, s_15, s_16, s_17, s_18, s_19, s_20, s_21, s_22, s_23, s_24, s_25, s_26, s_27, s_28, s_29, s_30, s_31, s_32, s_33, s_34, s_35, s_36, s_37, s_38, s_39, s_40l, s_40i, s_40r, s_41, s_43, t_44, t_45, t_46, t_47, s_48, s_49, s_50, s_51, s_52, s_53, s_54, s_55, s_56, s_57, s_58, s_59, s_60, s_61, s_62_0, s_62_1, s_62_2, s_66, s_67, s_68, s_69, s_70, s_71, s_72, s_73, sws_n, sws_c, lget, lset, fget, fset, nolg, nolong, avc, stw, cnd, isobj_eo, GCi, GCn, retk, List.length_cons, List.length_nil, ↓reduceIte, and_true, true_and, not_true_eq_false, not_false_eq_true, forall_const, Nat.reduceAdd, Nat.reduceLT, Nat.reduceLeDiff, Nat.lt_add_one, Nat.le_refl, Nat.zero_le, Nat.sub_zero, Int.reduceEq, Int.reduceNe, Int.reduceLT, Int.reduceLE, Int.reduceAdd, Int.reduceSub, Int.reduceMul, Int.reduceNeg, Int.reduceTDiv, Int.reduceTMod, ne_eq, reduceCtorEq, Nat.reduceEqDiff, Int.cast_ofNat_Int, true_or, or_true, false_or, or_false, lcq_0, lcq_2, lcq_3, lcq_4, lcq_5, wu_s, wu_1, wu_w, wu_lt, wu_ne, ar_s, ar_n, rr_s, rr_n, ob_n, nz_c, lt_T, lt_F, le_T, le_F, ie_T, ie_F, nt_T, nt_F, nl_T, nl_F, in_T, and_false, false_and, and_self, not_true_eq_false, Int.toNat_natCast, Int.reduceToNat, if_true, if_false, mi_280, i280_0, i280_1, i280_2, i280_3, i280_6, i280_7, i280_9, i280_12, i280_15, i280_16, i280_19, i280_20, i280_21, i280_22, i280_25, i280_28, i280_29, i280_32, i280_33, i280_34, i280_37, i280_40, k190, k276, g12_53, ra_148 u1.1, ra_189 u1.1, r_isTorn u1.1, u6, bi_z, Classical.not_not, cc]
      exact nx 0 (by unfold tn1; rw [if_pos cc])
    · simp (disch := omega) only [s_1, s_2, s_3, s_4, s_76, s_5, s_6, s_7, s_8, s_9, s_10, s_11, s_12, s_13, s_14, s_15, s_16, s_17, s_18, s_19, s_20, s_21, s_22, s_23, s_24, s_25, s_26, s_27, s_28, s_29, s_30, s_31, s_32, s_33, s_34, s_35, s_36, s_37, s_38, s_39, s_40l, s_40i, s_40r, s_41, s_43, t_44, t_45, t_46, t_47, s_48, s_49, s_50, s_51, s_52, s_53, s_54, s_55, s_56, s_57, s_58, s_59, s_60, s_61, s_62_0, s_62_1, s_62_2, s_66, s_67, s_68, s_69, s_70, s_71, s_72, s_73, sws_n, sws_c, lget, lset, fget, fset, nolg, nolong, avc, stw, cnd, isobj_eo, GCi, GCn, retk, List.length_cons, List.length_nil, ↓reduceIte, and_true, true_and, not_true_eq_false, not_false_eq_true, forall_const, Nat.reduceAdd, Nat.reduceLT, Nat.reduceLeDiff, Nat.lt_add_one, Nat.le_refl, Nat.zero_le, Nat.sub_zero, Int.reduceEq, Int.reduceNe, Int.reduceLT, Int.reduceLE, Int.reduceAdd, Int.reduceSub, Int.reduceMul, Int.reduceNeg, Int.reduceTDiv, Int.reduceTMod, ne_eq, reduceCtorEq, Nat.reduceEqDiff, Int.cast_ofNat_Int, true_or, or_true, false_or, or_false, lcq_0, lcq_2, lcq_3, lcq_4, lcq_5, wu_s, wu_1, wu_w, wu_lt, wu_ne, ar_s, ar_n, rr_s, rr_n, ob_n, nz_c, lt_T, lt_F, le_T, le_F, ie_T, ie_F, nt_T, nt_F, nl_T, nl_F, in_T, and_false, false_and, and_self, not_true_eq_false, Int.toNat_natCast, Int.reduceToNat, if_true, if_false, mi_280, i280_0, i280_1, i280_2, i280_3, i280_6, i280_7, i280_9, i280_12, i280_15, i280_16, i280_19, i280_20, i280_21, i280_22, i280_25, i280_28, i280_29, i280_32, i280_33, i280_34, i280_37, i280_40, k190, k276, g12_53, ra_148 u1.1, ra_189 u1.1, r_isTorn u1.1, u6, bi_z, Classical.not_not, cc]
      exact nx 1 (by unfold tn1; rw [if_neg cc])
  · intro U u1 u2 u3 u4
    rw [i280_8]
    simp (disch := omega) only [s_1, s_2, s_3, s_4, s_76, s_5, s_6, s_7, s_8, s_9, s_10, s_11, s_12, s_13, s_14, s_15, s_16, s_17, s_18, s_19, s_20, s_21, s_22, s_23, s_24, s_25, s_26, s_27, s_28, s_29, s_30, s_31, s_32, s_33, s_34, s_35, s_36, s_37, s_38, s_39, s_40l, s_40i, s_40r, s_41, s_43, t_44, t_45, t_46, t_47, s_48, s_49, s_50, s_51, s_52, s_53, s_54, s_55, s_56, s_57, s_58, s_59, s_60, s_61, s_62_0, s_62_1, s_62_2, s_66, s_67, s_68, s_69, s_70, s_71, s_72, s_73, sws_n, sws_c, lget, lset, fget, fset, nolg, nolong, avc, stw, cnd, isobj_eo, GCi, GCn, retk, List.length_cons, List.length_nil, ↓reduceIte, and_true, true_and, not_true_eq_false, not_false_eq_true, forall_const, Nat.reduceAdd, Nat.reduceLT, Nat.reduceLeDiff, Nat.lt_add_one, Nat.le_refl, Nat.zero_le, Nat.sub_zero, Int.reduceEq, Int.reduceNe, Int.reduceLT, Int.reduceLE, Int.reduceAdd, Int.reduceSub, Int.reduceMul, Int.reduceNeg, Int.reduceTDiv, Int.reduceTMod, ne_eq, reduceCtorEq, Nat.reduceEqDiff, Int.cast_ofNat_Int, true_or, or_true, false_or, or_false, lcq_0, lcq_2, lcq_3, lcq_4, lcq_5, wu_s, wu_1, wu_w, wu_lt, wu_ne, ar_s, ar_n, rr_s, rr_n, ob_n, nz_c, lt_T, lt_F, le_T, le_F, ie_T, ie_F, nt_T, nt_F, nl_T, nl_F, in_T, and_false, false_and, and_self, not_true_eq_false, Int.toNat_natCast, Int.reduceToNat, if_true, if_false, mi_280, i280_0, i280_1, i280_2, i280_3, i280_6, i280_7, i280_9, i280_12, i280_15, i280_16, i280_19, i280_20, i280_21, i280_22, i280_25, i280_28, i280_29, i280_32, i280_33, i280_34, i280_37, i280_40, k190, k276, g12_53]
    exact hQ U ⟨u1, u2, u3, u4⟩
theorem y_ticksT (hT : TRr W s τ) (hI : FI 0 τ) (hL : 0 ≤ r ∧ r ≤ sN s 0 - 1) (hk : LwOk (sL s r.toNat)) (hh : 0 ≤ h ∧ h ≤ 100) (hQ : ∀ V, TRr V s (tickS (sL s r.toNat) h τ) → Q none V) : Gm 237 [vr 148, vi r, vi h] W Q := by
  obtain ⟨hR, hz, h4, h5⟩ := hT
  have hL2 : LawR W r (sL s r.toNat) := KR.law (s := (τ, s.2)) hR hL
  have e : rF W = τ := hR.2.2.1
  have raw : Gm 237 [vr 148, vi r, vi h] W (fun x V => x = none ∧ RS V ∧ Fq W V ∧ rF V = tickS (sL s r.toNat) h τ) := r_ticks hR.1 (by rw [e]; exact hI) hL2 hk hh (fun V a b d => ⟨rfl, a, b, by rw [d, e]⟩)
  refine Gm_post (Gm_zero raw hz) (fun x V q => ?_)
  obtain ⟨⟨rfl, v1, v2, v3⟩, vz⟩ := q
  exact hQ V ⟨KR.fl (s := (τ, s.2)) hR v1 v2 v3, vz, by rw [iR_c (v2.2 188 (by omega))]; exact h4, fun e he => by rw [ar_c (v2.2 189 (by omega))]; exact h5 e he⟩
theorem y_noMore (hT : TRr W s τ) (hQ : ∀ V, KR V s → Zw V → Q none V) : Gm 282 [vr 148] W Q := by
  obtain ⟨hR, hz, h4, h5⟩ := hT
  have hw : 192 ≤ W.1 := hR.1.1
  rw [e282]
  simp (disch := omega) only [s_1, s_2, s_3, s_4, s_76, s_5, s_6, s_7, s_8, s_9, s_10, s_11, s_12, s_13, s_14, s_15, s_16, s_17, s_18, s_19, s_20, s_21, s_22, s_23, s_24, s_25, s_26, s_27, s_28, s_29, s_30, s_31, s_32, s_33, s_34, s_35, s_36, s_37, s_38, s_39, s_40l, s_40i, s_40r, s_41, s_43, t_44, t_45, t_46, t_47, s_48, s_49, s_50, s_51, s_52, s_53, s_54, s_55, s_56, s_57, s_58, s_59, s_60, s_61, s_62_0, s_62_1, s_62_2, s_66, s_67, s_68, s_69, s_70, s_71, s_72, s_73, sws_n, sws_c, lget, lset, fget, fset, nolg, nolong, avc, stw, cnd, isobj_eo, GCi, GCn, retk, List.length_cons, List.length_nil, ↓reduceIte, and_true, true_and, not_true_eq_false, not_false_eq_true, forall_const, Nat.reduceAdd, Nat.reduceLT, Nat.reduceLeDiff, Nat.lt_add_one, Nat.le_refl, Nat.zero_le, Nat.sub_zero, Int.reduceEq, Int.reduceNe, Int.reduceLT, Int.reduceLE, Int.reduceAdd, Int.reduceSub, Int.reduceMul, Int.reduceNeg, Int.reduceTDiv, Int.reduceTMod, ne_eq, reduceCtorEq, Nat.reduceEqDiff, Int.cast_ofNat_Int, true_or, or_true, false_or, or_false, lcq_0, lcq_2, lcq_3, lcq_4, lcq_5, wu_s, wu_1, wu_w, wu_lt, wu_ne, ar_s, ar_n, rr_s, rr_n, ob_n, nz_c, lt_T, lt_F, le_T, le_F, ie_T, ie_F, nt_T, nt_F, nl_T, nl_F, in_T, and_false, false_and, and_self, not_true_eq_false, Int.toNat_natCast, Int.reduceToNat, if_true, if_false, mi_282, i282_0, i282_1, i282_2, i282_3, i282_6, k276, ra_148 hR.1]
  have raw : Gm 276 [vr 148, vi ((4 : Nat) : Int), vi 1] W (fun r V => r = none ∧ IvB W 4 18 V) := y_carriesB hR.1 (by decide) (fun V h => ⟨rfl, h⟩)
  refine Gm_post (Gm_zero raw hz) (fun r V q => ?_)
  obtain ⟨⟨rfl, hv⟩, vz⟩ := q
  simp (disch := omega) only [s_1, s_2, s_3, s_4, s_76, s_5, s_6, s_7, s_8, s_9, s_10, s_11, s_12, s_13, s_14, s_15, s_16, s_17, s_18, s_19, s_20, s_21, s_22, s_23, s_24, s_25, s_26, s_27, s_28, s_29, s_30, s_31, s_32, s_33, s_34, s_35, s_36, s_37, s_38, s_39, s_40l, s_40i, s_40r, s_41, s_43, t_44, t_45, t_46, t_47, s_48, s_49, s_50, s_51, s_52, s_53, s_54, s_55, s_56, s_57, s_58, s_59, s_60, s_61, s_62_0, s_62_1, s_62_2, s_66, s_67, s_68, s_69, s_70, s_71, s_72, s_73, sws_n, sws_c, lget, lset, fget, fset, nolg, nolong, avc, stw, cnd, isobj_eo, GCi, GCn, retk, List.length_cons, List.length_nil, ↓reduceIte, and_true, true_and, not_true_eq_false, not_false_eq_true, forall_const, Nat.reduceAdd, Nat.reduceLT, Nat.reduceLeDiff, Nat.lt_add_one, Nat.le_refl, Nat.zero_le, Nat.sub_zero, Int.reduceEq, Int.reduceNe, Int.reduceLT, Int.reduceLE, Int.reduceAdd, Int.reduceSub, Int.reduceMul, Int.reduceNeg, Int.reduceTDiv, Int.reduceTMod, ne_eq, reduceCtorEq, Nat.reduceEqDiff, Int.cast_ofNat_Int, true_or, or_true, false_or, or_false, lcq_0, lcq_2, lcq_3, lcq_4, lcq_5, wu_s, wu_1, wu_w, wu_lt, wu_ne, ar_s, ar_n, rr_s, rr_n, ob_n, nz_c, lt_T, lt_F, le_T, le_F, ie_T, ie_F, nt_T, nt_F, nl_T, nl_F, in_T, and_false, false_and, and_self, not_true_eq_false, Int.toNat_natCast, Int.reduceToNat, if_true, if_false, mi_282, i282_0, i282_1, i282_2, i282_3, i282_6, k276]
  refine hQ V ?_ vz
  have e := hv.im vz
  obtain ⟨v1, v2, v3, v4, v5, v6, v7⟩ := hv
  obtain ⟨a1, a2, a3, a4, a5, a6, a7, a8⟩ := hR
  exact ⟨v1, fun k p q => by rw [v3 k (by omega) (by omega)]; exact a2 k p q, by rw [e, h4], by rw [v4.2.2.1, v4.2.2.2, v4.2.1, v4.1]; exact a4, by rw [ar_c (v3 167 (by decide) (by decide))]; exact a5, fun k q => (a6 k q).cg (fun j p q => v3 j (by omega) (by omega)), fun k q => ⟨(a7 k q).1.cg (a7 k q).2 (fun j p q => v3 j (by omega) (by omega)), (a7 k q).2⟩, fun k q => (a8 k q).cg (v3 188 (by decide) (by decide)) (v3 191 (by decide) (by decide))⟩
theorem y_tornAnew (hT : TRr W s τ) : Gm 281 [vr 148] W Q ↔ Q (some (vi (sm (an1 (sF s 6) (τ 6)) 180))) W := by
  obtain ⟨hR, hz, h4, h5⟩ := hT
  have hw : 192 ≤ W.1 := hR.1.1
  have e6 : ar W 155 = τ 6 := hR.f 6 (by decide)
  have bd : ∀ n : Nat, 0 ≤ sm (an1 (sF s 6) (τ 6)) n ∧ sm (an1 (sF s 6) (τ 6)) n ≤ 1 * n := fun n => sm_b n (fun i _ => by unfold an1; split <;> omega)
  have key := loop_u (P := fun i => G 281 4 [some (vr 148), some (vi (sm (an1 (sF s 6) (τ 6)) i)), some (vi (i : Int))] [] W 0 0 Q ↔ Q (some (vi (sm (an1 (sF s 6) (τ 6)) 180))) W) 180 (fun i hi ih => ?_) ?_ 0 (by omega)
  · rw [e281]
    simp (disch := omega) only [s_1, s_2, s_3, s_4, s_76, s_5, s_6, s_7, s_8, s_9, s_10, s_11, s_12, s_13, s_14, s_15, s_16, s_17, s_18, s_19, s_20, s_21, s_22, s_23, s_24, s_25, s_26, s_27, s_28, s_29, s_30, s_31, s_32, s_33, s_34, s_35, s_36, s_37, s_38, s_39, s_40l, s_40i, s_40r, s_41, s_43, t_44, t_45, t_46, t_47, s_48, s_49, s_50, s_51, s_52, s_53, s_54, s_55, s_56, s_57, s_58, s_59, s_60, s_61, s_62_0, s_62_1, s_62_2, s_66, s_67, s_68, s_69, s_70, s_71, s_72, s_73, sws_n, sws_c, lget, lset, fget, fset, nolg, nolong, avc, stw, cnd, isobj_eo, GCi, GCn, retk, List.length_cons, List.length_nil, ↓reduceIte, and_true, true_and, not_true_eq_false, not_false_eq_true, forall_const, Nat.reduceAdd, Nat.reduceLT, Nat.reduceLeDiff, Nat.lt_add_one, Nat.le_refl, Nat.zero_le, Nat.sub_zero, Int.reduceEq, Int.reduceNe, Int.reduceLT, Int.reduceLE, Int.reduceAdd, Int.reduceSub, Int.reduceMul, Int.reduceNeg, Int.reduceTDiv, Int.reduceTMod, ne_eq, reduceCtorEq, Nat.reduceEqDiff, Int.cast_ofNat_Int, true_or, or_true, false_or, or_false, lcq_0, lcq_2, lcq_3, lcq_4, lcq_5, wu_s, wu_1, wu_w, wu_lt, wu_ne, ar_s, ar_n, rr_s, rr_n, ob_n, nz_c, lt_T, lt_F, le_T, le_F, ie_T, ie_F, nt_T, nt_F, nl_T, nl_F, in_T, and_false, false_and, and_self, not_true_eq_false, Int.toNat_natCast, Int.reduceToNat, if_true, if_false, mi_281, i281_0, i281_1, i281_2, i281_3, i281_5, i281_8, i281_11, i281_12, i281_13, i281_14, i281_17, i281_20, i281_21, i281_24, i281_25, i281_26, i281_29, i281_30, i281_33, i281_34, i281_35, i281_36, i281_39, i281_42, i281_43, k190, g12_53]
    exact key
  · have b := bd i
    have h5' := h5 i hi
    rw [show sm (an1 (sF s 6) (τ 6)) (i + 1) = sm (an1 (sF s 6) (τ 6)) i + an1 (sF s 6) (τ 6) i from rfl, nc1] at ih
    unfold tn1 at h5'
    rw [i281_4]
    by_cases c1 : τ 6 i = -1
    · rw [show an1 (sF s 6) (τ 6) i = 0 from if_neg (fun q => q.1 c1)] at ih
      simp (disch := omega) only [s_1, s_2, s_3, s_4, s_76, s_5, s_6, s_7, s_8, s_9, s_10, s_11, s_12, s_13, s_14, s_15, s_16, s_17, s_18, s_19, s_20, s_21, s_22, s_23, s_24, s_25, s_26, s_27, s_28, s_29, s_30, s_31, s_32, s_33, s_34, s_35, s_36, s_37, s_38, s_39, s_40l, s_40i, s_40r, s_41, s_43, t_44, t_45, t_46, t_47, s_48, s_49, s_50, s_51, s_52, s_53, s_54, s_55, s_56, s_57, s_58, s_59, s_60, s_61, s_62_0, s_62_1, s_62_2, s_66, s_67, s_68, s_69, s_70, s_71, s_72, s_73, sws_n, sws_c, lget, lset, fget, fset, nolg, nolong, avc, stw, cnd, isobj_eo, GCi, GCn, retk, List.length_cons, List.length_nil, ↓reduceIte, and_true, true_and, not_true_eq_false, not_false_eq_true, forall_const, Nat.reduceAdd, Nat.reduceLT, Nat.reduceLeDiff, Nat.lt_add_one, Nat.le_refl, Nat.zero_le, Nat.sub_zero, Int.reduceEq, Int.reduceNe, Int.reduceLT, Int.reduceLE, Int.reduceAdd, Int.reduceSub, Int.reduceMul, Int.reduceNeg, Int.reduceTDiv, Int.reduceTMod, ne_eq, reduceCtorEq, Nat.reduceEqDiff, Int.cast_ofNat_Int, true_or, or_true, false_or, or_false, lcq_0, lcq_2, lcq_3, lcq_4, lcq_5, wu_s, wu_1, wu_w, wu_lt, wu_ne, ar_s, ar_n, rr_s, rr_n, ob_n, nz_c, lt_T, lt_F, le_T, le_F, ie_T, ie_F, nt_T, nt_F, nl_T, nl_F, in_T, and_false, false_and, and_self, not_true_eq_false, Int.toNat_natCast, Int.reduceToNat, if_true, if_false, mi_281, i281_0, i281_1, i281_2, i281_3, i281_5, i281_8, i281_11, i281_12, i281_13, i281_14, i281_17, i281_20, i281_21, i281_24, i281_25, i281_26, i281_29, i281_30, i281_33, i281_34, i281_35, i281_36, i281_39, i281_42, i281_43, k190, g12_53, ra_148 hR.1, r_isTorn hR.1, e6, bi_z, Classical.not_not, c1]
      exact ih
    · by_cases c2 : sF s 6 i = -1
      · rw [show an1 (sF s 6) (τ 6) i = 1 from if_pos ⟨c1, c2⟩] at ih
        rw [if_pos c2] at h5'
        simp (disch := omega) only [s_1, s_2, s_3, s_4, s_76, s_5, s_6, s_7, s_8, s_9, s_10, s_11, s_12, s_13, s_14, s_15, s_16, s_17, s_18, s_19, s_20, s_21, s_22, s_23, s_24, s_25, s_26, s_27, s_28, s_29, s_30, s_31, s_32, s_33, s_34, s_35, s_36, s_37, s_38, s_39, s_40l, s_40i, s_40r, s_41, s_43, t_44, t_45, t_46, t_47, s_48, s_49, s_50, s_51, s_52, s_53, s_54, s_55, s_56, s_57, s_58, s_59, s_60, s_61, s_62_0, s_62_1, s_62_2, s_66, s_67, s_68, s_69, s_70, s_71, s_72, s_73, sws_n, sws_c, lget, lset, fget, fset, nolg, nolong, avc, stw, cnd, isobj_eo, GCi, GCn, retk, List.length_cons, List.length_nil, ↓reduceIte, and_true, true_and, not_true_eq_false, not_false_eq_true, forall_const, Nat.reduceAdd, Nat.reduceLT, Nat.reduceLeDiff, Nat.lt_add_one, Nat.le_refl, Nat.zero_le, Nat.sub_zero, Int.reduceEq, Int.reduceNe, Int.reduceLT, Int.reduceLE, Int.reduceAdd, Int.reduceSub, Int.reduceMul, Int.reduceNeg, Int.reduceTDiv, Int.reduceTMod, ne_eq, reduceCtorEq, Nat.reduceEqDiff, Int.cast_ofNat_Int, true_or, or_true, false_or, or_false, lcq_0, lcq_2, lcq_3, lcq_4, lcq_5, wu_s, wu_1, wu_w, wu_lt, wu_ne, ar_s, ar_n, rr_s, rr_n, ob_n, nz_c, lt_T, lt_F, le_T, le_F, ie_T, ie_F, nt_T, nt_F, nl_T, nl_F, in_T, and_false, false_and, and_self, not_true_eq_false, Int.toNat_natCast, Int.reduceToNat, if_true, if_false, mi_281, i281_0, i281_1, i281_2, i281_3, i281_5, i281_8, i281_11, i281_12, i281_13, i281_14, i281_17, i281_20, i281_21, i281_24, i281_25, i281_26, i281_29, i281_30, i281_33, i281_34, i281_35, i281_36, i281_39, i281_42, i281_43, k190, g12_53, ra_148 hR.1, ra_189 hR.1, r_isTorn hR.1, e6, bi_z, Classical.not_not, c1, h5']
        exact ih
      · rw [show an1 (sF s 6) (τ 6) i = 0 from if_neg (fun q => c2 q.2)] at ih
        rw [if_neg c2] at h5'
        simp (disch := omega) only [s_1, s_2, s_3, s_4, s_76, s_5, s_6, s_7, s_8, s_9, s_10, s_11, s_12, s_13, s_14, s_15, s_16, s_17, s_18, s_19, s_20, s_21, s_22, s_23, s_24, s_25, s_26, s_27, s_28, s_29, s_30, s_31, s_32, s_33, s_34, s_35, s_36, s_37, s_38, s_39, s_40l, s_40i, s_40r, s_41, s_43, t_44, t_45, t_46, t_47, s_48, s_49, s_50, s_51, s_52, s_53, s_54, s_55, s_56, s_57, s_58, s_59, s_60, s_61, s_62_0, s_62_1, s_62_2, s_66, s_67, s_68, s_69, s_70, s_71, s_72, s_73, sws_n, sws_c, lget, lset, fget, fset, nolg, nolong, avc, stw, cnd, isobj_eo, GCi, GCn, retk, List.length_cons, List.length_nil, ↓reduceIte, and_true, true_and, not_true_eq_false, not_false_eq_true, forall_const, Nat.reduceAdd, Nat.reduceLT, Nat.reduceLeDiff, Nat.lt_add_one, Nat.le_refl, Nat.zero_le, Nat.sub_zero, Int.reduceEq, Int.reduceNe, Int.reduceLT, Int.reduceLE, Int.reduceAdd, Int.reduceSub, Int.reduceMul, Int.reduceNeg, Int.reduceTDiv, Int.reduceTMod, ne_eq, reduceCtorEq, Nat.reduceEqDiff, Int.cast_ofNat_Int, true_or, or_true, false_or, or_false, lcq_0, lcq_2, lcq_3, lcq_4, lcq_5, wu_s, wu_1, wu_w, wu_lt, wu_ne, ar_s, ar_n, rr_s, rr_n, ob_n, nz_c, lt_T, lt_F, le_T, le_F, ie_T, ie_F, nt_T, nt_F, nl_T, nl_F, in_T, and_false, false_and, and_self, not_true_eq_false, Int.toNat_natCast, Int.reduceToNat, if_true, if_false, mi_281, i281_0, i281_1, i281_2, i281_3, i281_5, i281_8, i281_11, i281_12, i281_13, i281_14, i281_17, i281_20, i281_21, i281_24, i281_25, i281_26, i281_29, i281_30, i281_33, i281_34, i281_35, i281_36, i281_39, i281_42, i281_43, k190, g12_53, ra_148 hR.1, ra_189 hR.1, r_isTorn hR.1, e6, bi_z, Classical.not_not, c1, h5']
        exact ih
  · rw [i281_4]
    simp (disch := omega) only [s_1, s_2, s_3, s_4, s_76, s_5, s_6, s_7, s_8, s_9, s_10, s_11, s_12, s_13, s_14, s_15, s_16, s_17, s_18, s_19, s_20, s_21, s_22, s_23, s_24, s_25, s_26, s_27, s_28, s_29, s_30, s_31, s_32, s_33, s_34, s_35, s_36, s_37, s_38, s_39, s_40l, s_40i, s_40r, s_41, s_43, t_44, t_45, t_46, t_47, s_48, s_49, s_50, s_51, s_52, s_53, s_54, s_55, s_56, s_57, s_58, s_59, s_60, s_61, s_62_0, s_62_1, s_62_2, s_66, s_67, s_68, s_69, s_70, s_71, s_72, s_73, sws_n, sws_c, lget, lset, fget, fset, nolg, nolong, avc, stw, cnd, isobj_eo, GCi, GCn, retk, List.length_cons, List.length_nil, ↓reduceIte, and_true, true_and, not_true_eq_false, not_false_eq_true, forall_const, Nat.reduceAdd, Nat.reduceLT, Nat.reduceLeDiff, Nat.lt_add_one, Nat.le_refl, Nat.zero_le, Nat.sub_zero, Int.reduceEq, Int.reduceNe, Int.reduceLT, Int.reduceLE, Int.reduceAdd, Int.reduceSub, Int.reduceMul, Int.reduceNeg, Int.reduceTDiv, Int.reduceTMod, ne_eq, reduceCtorEq, Nat.reduceEqDiff, Int.cast_ofNat_Int, true_or, or_true, false_or, or_false, lcq_0, lcq_2, lcq_3, lcq_4, lcq_5, wu_s, wu_1, wu_w, wu_lt, wu_ne, ar_s, ar_n, rr_s, rr_n, ob_n, nz_c, lt_T, lt_F, le_T, le_F, ie_T, ie_F, nt_T, nt_F, nl_T, nl_F, in_T, and_false, false_and, and_self, not_true_eq_false, Int.toNat_natCast, Int.reduceToNat, if_true, if_false, mi_281, i281_0, i281_1, i281_2, i281_3, i281_5, i281_8, i281_11, i281_12, i281_13, i281_14, i281_17, i281_20, i281_21, i281_24, i281_25, i281_26, i281_29, i281_30, i281_33, i281_34, i281_35, i281_36, i281_39, i281_42, i281_43, k190, g12_53]
end TRR
