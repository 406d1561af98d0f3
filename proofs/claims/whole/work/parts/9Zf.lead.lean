-- LEAD: what the class does for one set
theorem lab_ex (t : Nat → Int) : ∃ L, LabOK t L ∧ Lb0 L := by
  have key : ∀ (N : Nat) (L : Nat → Int), PrI t L → sm L 100 < (N : Int) → ∃ L, LabOK t L := by
    intro N
    induction N with
    | zero =>
      intro L hP hs
      have := hP.sb
      omega
    | succ N ih =>
      intro L hP hs
      by_cases c : ∃ i, i < 180 ∧ t i = -1 ∧ ¬ L (ec1 i) = L (ec2 i)
      · obtain ⟨i, h1, h2, h3⟩ := c
        have h0 : PaI t i L L 0 ∨ True := Or.inr trivial
        have hp : PaI t 0 L L 0 := ⟨hP, Or.inl rfl, fun z => by omega, fun _ => rfl, Int.le_refl _, fun _ e he => by omega⟩
        have hq : PaI t i L L 1 ∨ PaI t i L L 0 ∨ True := Or.inr (Or.inr trivial)
        have eb := ec_b i h1
        have l1 := hP (ec1 i) eb.1
        have l2 := hP (ec2 i) eb.2.1
        have hA : Aj t (ec1 i) (ec2 i) := ⟨i, h1, h2, Or.inl ⟨rfl, rfl⟩⟩
        by_cases d : L (ec1 i) < L (ec2 i)
        · have e1 : ∀ x, x ≠ ec2 i → fu L (ec2 i) (L (ec1 i)) x = L x := fun x hx => fu_ne _ _ hx
          refine ih (fu L (ec2 i) (L (ec1 i))) (fun x hx => ?_) ?_
          · by_cases cx : x = ec2 i
            · rw [cx, fu_eq]; exact ⟨l1.1, by omega, Cn.cs hA.sy l1.2.2⟩
            · rw [e1 x cx]; exact hP x hx
          · have := sm_lt (f := fu L (ec2 i) (L (ec1 i))) (g := L) (i := ec2 i) 100 (fun x _ => by
              by_cases cx : x = ec2 i
              · rw [cx, fu_eq]; omega
              · rw [e1 x cx]; exact Int.le_refl _) eb.2.1 (by rw [fu_eq]; exact d)
            omega
        · have e1 : ∀ x, x ≠ ec1 i → fu L (ec1 i) (L (ec2 i)) x = L x := fun x hx => fu_ne _ _ hx
          refine ih (fu L (ec1 i) (L (ec2 i))) (fun x hx => ?_) ?_
          · by_cases cx : x = ec1 i
            · rw [cx, fu_eq]; exact ⟨l2.1, by omega, Cn.cs hA l2.2.2⟩
            · rw [e1 x cx]; exact hP x hx
          · have := sm_lt (f := fu L (ec1 i) (L (ec2 i))) (g := L) (i := ec1 i) 100 (fun x _ => by
              by_cases cx : x = ec1 i
              · rw [cx, fu_eq]; omega
              · rw [e1 x cx]; exact Int.le_refl _) eb.1 (by rw [fu_eq]; omega)
            omega
      · refine ⟨L, hP, fun x y hA => ?_⟩
        obtain ⟨e, h1, h2, h3⟩ := hA
        have : L (ec1 e) = L (ec2 e) := Classical.byContradiction (fun z => c ⟨e, h1, h2, z⟩)
        rcases h3 with ⟨c1, c2⟩ | ⟨c1, c2⟩
        · rw [← c1, ← c2]; exact this
        · rw [← c1, ← c2]; exact this.symm
  have hP : PrI t (tlo (fun _ => 0) (fun j => (j : Int)) 100) := PrI.q0
  obtain ⟨L, hL⟩ := key 10001 _ hP (by have := hP.sb; omega)
  have e : ∀ x, x < 100 → (fun x => if x < 100 then L x else 0) x = L x := fun x hx => if_pos hx
  refine ⟨fun x => if x < 100 then L x else 0, ⟨fun x hx => ?_, fun x y hA => ?_⟩, fun x hx => if_neg (by omega)⟩
  · rw [e x hx]; exact hL.1 x hx
  · rw [e x hA.bq.1, e y hA.bq.2]; exact hL.2 x y hA
noncomputable def labO (t : Nat → Int) : Nat → Int := Classical.choose (lab_ex t)
theorem labO_q (t : Nat → Int) : LabOK t (labO t) ∧ Lb0 (labO t) := Classical.choose_spec (lab_ex t)
def lsc (f e c : Nat → Int) (m : Nat) : Nat → Nat → Int
  | 0 => f
  | k + 1 => if m.testBit k = true then fu (lsc f e c m k) (e k).toNat (c k) else lsc f e c m k
def lsS (σ : SG) (m k : Nat) : SG := fu σ 5 (lsc (σ 5) (σ 16) (σ 17) m k)
noncomputable def ldP (lw : LW) (w : WN) (σ : SG) (n m : Nat) : Prop := mtP w (cut11 (fgS (tkN lw 100 n (lsS σ m 6)) (labO (tkN lw 100 n (lsS σ m 6) 6))))
theorem lsc_b {f e c : Nat → Int} {m : Nat} (hf : Four f) (hc : ∀ k, 0 ≤ c k ∧ c k ≤ 9999) : ∀ k, Four (lsc f e c m k)
  | 0 => hf
  | k + 1 => by
    show Four (if m.testBit k = true then fu (lsc f e c m k) (e k).toNat (c k) else lsc f e c m k)
    split
    · exact all_fu (P := fun _ x => 0 ≤ x ∧ x ≤ 9999) (lsc_b hf hc k) (hc k)
    · exact lsc_b hf hc k
theorem FN.ls {c : Int} {σ : SG} {m k : Nat} (hN : FN c σ) : FI 0 (lsS σ m k) ∧ lsS σ m k 0 = σ 0 := by
  have hc := hN.2.2.2.2.2.2.2.2.1
  obtain ⟨a1, a2, a3, a4, a5, a6, a7, a8, a9, a10, a11, a12⟩ := hN.1
  exact ⟨⟨a1, a2, a3, a4, a5, a6, a7, lsc_b a8 hc k, a9, a10, a11, a12⟩, rfl⟩
def Hi (W V : AW) : Prop := V.1 = W.1 ∧ ∀ k, 192 ≤ k → V.2 k = W.2 k
section LDX
variable {W V U : AW} {Q : AQ} {s : ST} {τ : SG} {c c0 h : Int} {ll l2 n m : Nat} {lw : LW} {w : WN}
theorem Hi.tr (h : Hi W V) (g : Hi V U) : Hi W U := ⟨g.1.trans h.1, fun k q => (g.2 k q).trans (h.2 k q)⟩
theorem Hi.up (h : Hi W V) {j : Nat} {e : AE} (hj : j < 192) : Hi W (wu V j e) := ⟨h.1, fun k q => (wu_ne (by omega)).trans (h.2 k q)⟩
theorem Hi.la (h : Hi W V) (hL : LawC W ll lw) : LawC V ll lw := hL.cg (Nat.le_of_eq h.1.symm) (fun k p q => h.2 k p)
theorem Hi.wa (h : Hi W V) (hL : WantC W ll w) : WantC V ll w := hL.cg (Nat.le_of_eq h.1.symm) (fun k p q => h.2 k p)
theorem x_bec93F (hz : Zw W) (hH : CH W) (hC : CC W s) (hS : SOK c s) (hQ : ∀ V, CH V → CC V s → Zw V → Sq (cF V 93) (sF s) → Ln V 93 → Hi W V → Q none V) : Gm 154 [vr 93, vr 76] W Q := by
  have hw : 192 ≤ W.1 := hH.1.1
  have f0 := hS.f0
  have e5 : ob W (76 + 9) 0 = sF s 0 5 := hC.v.2.2.2.2.2.1
  have raw : Gm 154 [vr 93, vr 76] W (fun r V => r = none ∧ V.1 = W.1 ∧ (∀ k, k < 93 ∨ 109 < k → V.2 k = W.2 k) ∧ MS V 93 ∧ Sq (cF V 93) (cF W 76) ∧ Ln V 93) := x_become (d := 93) (o := 76) hz hH.2.2.1 hH.2.1 (by omega) (by omega) (by omega) (by rw [e5]; omega) hC.2.1 (fun V v1 v2 v3 v4 v5 => ⟨rfl, v1, v2, v3, v4, v5⟩)
  refine Gm_post (Gm_zero raw hz) (fun r V q => ?_)
  obtain ⟨⟨rfl, v1, v2, v3, v4, v5⟩, vz⟩ := q
  obtain ⟨a1, a2, a3, ⟨mm, l0, a4⟩, a5, a6, a7, a8⟩ := hH
  refine hQ V ⟨a1.cg (by omega) (fun k q => v2 k ?_), a2.cg (fun j q => v2 _ (by omega)), v3, ⟨mm, l0, ?_⟩, ?_, ?_, ?_, ?_⟩ (hC.cg (by omega) (fun k q => v2 k (by unfold ck at q; omega)) (fun k p q => v2 k (by omega))) vz (v4.tr hC.1.1) v5 ⟨v1, fun k p => v2 k (by omega)⟩
  · have := (show ∀ k ∈ cown, k < 93 ∨ 109 < k by decide) k q
    exact this
  · rw [v2 130 (by omega), ob_c (v2 130 (by omega))]; exact a4
  · rw [v2 114 (by omega), rr_c (v2 114 (by omega))]; exact a5
  · rw [v2 115 (by omega), rr_c (v2 115 (by omega))]; exact a6
  · rw [v2 116 (by omega), rr_c (v2 116 (by omega))]; exact a7
  · rw [v2 117 (by omega), rr_c (v2 117 (by omega))]; exact a8
theorem x_passF (hT : TRc W s τ ll lw c0) (hk : LwOk lw) (hh : 0 ≤ h ∧ h ≤ 100) (hn : n ≤ 60) (ht : τ 0 4 + n ≤ 99999) (hQ : ∀ V, TRc V s (tkN lw h n τ) ll lw c0 → Hi W V → Q (some (vi (c0 - cn (tkN lw h n τ 6) (-1) 180))) V) : Gm 104 [vr 130, vi (n : Int), vi h] W Q := by
  obtain ⟨hH, hC, hK, hq, hI, hz⟩ := hT
  have hI2 : FI 0 (cF W 93) := FI.sq hI hq.sy
  have e4 : ob W 93 5 = τ 0 4 := hq.1.2.2.2.2.1
  have raw : Gm 104 [vr 130, vi (n : Int), vi h] W (fun r V => r = some (vi (ob V 130 6)) ∧ CKk V 93 ll lw c0 ∧ Fc 93 W V ∧ cF V 93 = tkN lw h n (cF W 93)) := c_pass (m := 93) hK hI2 hk hh hn (by rw [e4]; exact ht) (fun V a b d e => ⟨rfl, a, b, e⟩)
  refine Gm_post (Gm_zero raw hz) (fun r V q => ?_)
  obtain ⟨⟨rfl, v1, v2, v3⟩, vz⟩ := q
  have s1 := Sq.q_tkN (lw := lw) hq.sy hI hh.1 hh.2 n (by omega)
  have hT : TRc V s (tkN lw h n τ) ll lw c0 := ⟨CKk.ch93 hH v2 v1.1, hC.fc93 v2, v1, by rw [v3]; exact s1.1.sy, s1.2.1, vz⟩
  have := hQ V hT ⟨v2.1, fun k p => v2.2 k (by omega) (by omega)⟩
  rw [hT.fr]
  exact this
theorem CH.m5 {f : Nat → Int} (hH : CH W) : CH (wu W 98 (ea 0 180 f)) := by
  obtain ⟨a1, a2, a3, ⟨mm, ll, a4⟩, a5, a6, a7, a8⟩ := hH
  exact ⟨a1.ot (by decide), a2.ot (by decide), mu_5 (m := 93) a3, ⟨mm, ll, by rw [wu_ne (by decide), ob_n (by decide)]; exact a4⟩, by rw [wu_ne (by decide), rr_n (by decide)]; exact a5, by rw [wu_ne (by decide), rr_n (by decide)]; exact a6, by rw [wu_ne (by decide), rr_n (by decide)]; exact a7, by rw [wu_ne (by decide), rr_n (by decide)]; exact a8⟩
set_option maxRecDepth 10000 in
theorem x_leadsTo (hz : Zw W) (hH : CH W) (hC : CC W s) (hS : SOK c s) (hc : c ≤ 511) (hf : hasF s) (hL : LawC W ll lw) (hk : LwOk lw) (hWt : WantC W l2 w) (hw : WOk w) (hn : n ≤ 20) (hm : m < 64) (ht : ∀ k, k < 6 → m.testBit k = true → 0 ≤ sF s 16 k ∧ sF s 16 k < 180) (hQ : ∀ V, CH V → CC V s → Zw V → LawC V ll lw → WantC V l2 w → Q (some (vi (bi (ldP lw w (sF s) n m)))) V) : Gm 166 [vr 67, vi (m : Int), vr ll, vr l2, vi (n : Int)] W Q := by
  have q67 : nfz = 67 := rfl
  have w0 : 192 ≤ W.1 := hH.1.1
  have hN := hS.fn hf
  have hx := hN.ix hc
  obtain ⟨hI, hI0⟩ := hN.ls (m := m) (k := 6)
  rw [e166]
  simp (disch := omega) only [s_1, s_2, s_3, s_4, s_76, s_5, s_6, s_7, s_8, s_9, s_10, s_11, s_12, s_13, s_14, s_15, s_16, s_17, s_18, s_19, s_20, s_21, s_22, s_23, s_24, s_25, s_26, s_27, s_28, s_29, s_30, s_31, s_32, s_33, s_34, s_35, s_36, s_37, s_38, s_39, s_40l, s_40i, s_40r, s_41, s_43, t_44, t_45, t_46, t_47, s_48, s_49, s_50, s_51, s_52, s_53, s_54, s_55, s_56, s_57, s_58, s_59, s_60, s_61, s_62_0, s_62_1, s_62_2, s_66, s_67, s_68, s_69, s_70, s_71, s_72, s_73, sws_n, sws_c, lget, lset, fget, fset, nolg, nolong, avc, stw, cnd, isobj_eo, GCi, GCn, retk, List.length_cons, List.length_nil, ↓reduceIte, and_true, true_and, not_true_eq_false, not_false_eq_true, forall_const, Nat.reduceAdd, Nat.reduceLT, Nat.reduceLeDiff, Nat.lt_add_one, Nat.le_refl, Nat.zero_le, Nat.sub_zero, Int.reduceEq, Int.reduceNe, Int.reduceLT, Int.reduceLE, Int.reduceAdd, Int.reduceSub, Int.reduceMul, Int.reduceNeg, Int.reduceTDiv, Int.reduceTMod, ne_eq, reduceCtorEq, Nat.reduceEqDiff, Int.cast_ofNat_Int, true_or, or_true, false_or, or_false, lcq_0, lcq_2, lcq_3, lcq_4, lcq_5, wu_s, wu_1, wu_w, wu_lt, wu_ne, ar_s, ar_n, rr_s, rr_n, ob_n, nz_c, lt_T, lt_F, le_T, le_F, ie_T, ie_F, nt_T, nt_F, nl_T, nl_F, in_T, and_false, false_and, and_self, not_true_eq_false, Int.toNat_natCast, Int.reduceToNat, if_true, if_false, mi_166, i166_0, i166_1, i166_4, i166_5, i166_8, i166_11, i166_12, i166_16, i166_18, i166_21, i166_22, i166_25, i166_28, i166_30, i166_31, i166_33, i166_34, i166_36, i166_37, i166_38, i166_39, i166_42, i166_44, i166_47, i166_50, i166_51, i166_54, i166_57, i166_59, i166_60, i166_63, i166_66, i166_68, i166_69, i166_70, i166_73, i166_76, i166_77, i166_80, i166_81, i166_84, i166_85, i166_88, i166_89, i166_92, i166_94, i166_96, i166_99, i166_100, i166_101, i166_102, i166_103, i166_106, i166_109, k44, k48, k104, k132, k154, g11_1, g11_11, g11_2, g11_3, g2_10, g4_2, g4_3, ca_67 hH.1, mv76_0 hH.2.1, mv93_0 hH.2.2.1]
  refine x_bec93F hz hH hC hS (fun V v1 v2 v3 v4 v5 v6 => ?_)
  have wV : 192 ≤ V.1 := v1.1.1
  have e5 : ar V (93 + 5) = sF s 5 := v4.2.1.2.2.2.2.1
  have e5' : ar V 98 = sF s 5 := e5
  obtain ⟨-, -, n16, n17⟩ := v2.nt
  have lp := loop_u (P := fun k => ∀ v6, G 166 14 [some (vr 67), some (vi (m : Int)), some (vr ll), some (vr l2), some (vi (n : Int)), some (vi (k : Int)), v6] [] (wu V 98 (ea 0 180 (lsc (sF s 5) (sF s 16) (sF s 17) m k))) 0 0 Q) 6 (fun k hk6 ih => ?_) ?_ 0 (by omega) none
  · rw [show lsc (sF s 5) (sF s 16) (sF s 17) m 0 = ar V 98 from e5'.symm, wu_id (mv93_5 v1.2.2.1)] at lp
    simp (disch := omega) only [s_1, s_2, s_3, s_4, s_76, s_5, s_6, s_7, s_8, s_9, s_10, s_11, s_12, s_13, s_14, s_15, s_16, s_17, s_18, s_19, s_20, s_21, s_22, s_23, s_24, s_25, s_26, s_27, s_28, s_29, s_30, s_31, s_32, s_33, s_34, s_35, s_36, s_37, s_38, s_39, s_40l, s_40i, s_40r, s_41, s_43, t_44, t_45, t_46, t_47, s_48, s_49, s_50, s_51, s_52, s_53, s_54, s_55, s_56, s_57, s_58, s_59, s_60, s_61, s_62_0, s_62_1, s_62_2, s_66, s_67, s_68, s_69, s_70, s_71, s_72, s_73, sws_n, sws_c, lget, lset, fget, fset, nolg, nolong, avc, stw, cnd, isobj_eo, GCi, GCn, retk, List.length_cons, List.length_nil, ↓reduceIte, and_true, true_and, not_true_eq_false, not_false_eq_true, forall_const, Nat.reduceAdd, Nat.reduceLT, Nat.reduceLeDiff, Nat.lt_add_one, Nat.le_refl, Nat.zero_le, Nat.sub_zero, Int.reduceEq, Int.reduceNe, Int.reduceLT, Int.reduceLE, Int.reduceAdd, Int.reduceSub, Int.reduceMul, Int.reduceNeg, Int.reduceTDiv, Int.reduceTMod, ne_eq, reduceCtorEq, Nat.reduceEqDiff, Int.cast_ofNat_Int, true_or, or_true, false_or, or_false, lcq_0, lcq_2, lcq_3, lcq_4, lcq_5, wu_s, wu_1, wu_w, wu_lt, wu_ne, ar_s, ar_n, rr_s, rr_n, ob_n, nz_c, lt_T, lt_F, le_T, le_F, ie_T, ie_F, nt_T, nt_F, nl_T, nl_F, in_T, and_false, false_and, and_self, not_true_eq_false, Int.toNat_natCast, Int.reduceToNat, if_true, if_false, mi_166, i166_0, i166_1, i166_4, i166_5, i166_8, i166_11, i166_12, i166_16, i166_18, i166_21, i166_22, i166_25, i166_28, i166_30, i166_31, i166_33, i166_34, i166_36, i166_37, i166_38, i166_39, i166_42, i166_44, i166_47, i166_50, i166_51, i166_54, i166_57, i166_59, i166_60, i166_63, i166_66, i166_68, i166_69, i166_70, i166_73, i166_76, i166_77, i166_80, i166_81, i166_84, i166_85, i166_88, i166_89, i166_92, i166_94, i166_96, i166_99, i166_100, i166_101, i166_102, i166_103, i166_106, i166_109, k44, k48, k104, k132, k154, g11_1, g11_11, g11_2, g11_3, g2_10, g4_2, g4_3]
    exact lp
  · intro v6
    have ih2 := fun v6 => ih v6
    rw [show lsc (sF s 5) (sF s 16) (sF s 17) m (k + 1) = if m.testBit k = true then fu (lsc (sF s 5) (sF s 16) (sF s 17) m k) (sF s 16 k).toNat (sF s 17 k) else lsc (sF s 5) (sF s 16) (sF s 17) m k from rfl, nc1] at ih2
    have bk := bit_k m hm k hk6
    generalize lsc (sF s 5) (sF s 16) (sF s 17) m k = g at *
    rw [i166_14]
    by_cases b : m.testBit k = true
    · rw [if_pos b] at bk ih2
      have te := ht k hk6 b
      have te2 : 0 ≤ sF s 16 k ∧ sF s 16 k ≤ 179 := by omega
      simp (disch := omega) only [s_1, s_2, s_3, s_4, s_76, s_5, s_6, s_7, s_8, s_9, s_10, s_11, s_12, s_13, s_14, s_15, s_16, s_17, s_18, s_19, s_20, s_21, s_22, s_23, s_24, s_25, s_26, s_27, s_28, s_29, s_30, s_31, s_32, s_33, s_34, s_35, s_36, s_37, s_38, s_39, s_40l, s_40i, s_40r, s_41, s_43, t_44, t_45, t_46, t_47, s_48, s_49, s_50, s_51, s_52, s_53, s_54, s_55, s_56, s_57, s_58, s_59, s_60, s_61, s_62_0, s_62_1, s_62_2, s_66, s_67, s_68, s_69, s_70, s_71, s_72, s_73, sws_n, sws_c, lget, lset, fget, fset, nolg, nolong, avc, stw, cnd, isobj_eo, GCi, GCn, retk, List.length_cons, List.length_nil, ↓reduceIte, and_true, true_and, not_true_eq_false, not_false_eq_true, forall_const, Nat.reduceAdd, Nat.reduceLT, Nat.reduceLeDiff, Nat.lt_add_one, Nat.le_refl, Nat.zero_le, Nat.sub_zero, Int.reduceEq, Int.reduceNe, Int.reduceLT, Int.reduceLE, Int.reduceAdd, Int.reduceSub, Int.reduceMul, Int.reduceNeg, Int.reduceTDiv, Int.reduceTMod, ne_eq, reduceCtorEq, Nat.reduceEqDiff, Int.cast_ofNat_Int, true_or, or_true, false_or, or_false, lcq_0, lcq_2, lcq_3, lcq_4, lcq_5, wu_s, wu_1, wu_w, wu_lt, wu_ne, ar_s, ar_n, rr_s, rr_n, ob_n, nz_c, lt_T, lt_F, le_T, le_F, ie_T, ie_F, nt_T, nt_F, nl_T, nl_F, in_T, and_false, false_and, and_self, not_true_eq_false, Int.toNat_natCast, Int.reduceToNat, if_true, if_false, mi_166, i166_0, i166_1, i166_4, i166_5, i166_8, i166_11, i166_12, i166_16, i166_18, i166_21, i166_22, i166_25, i166_28, i166_30, i166_31, i166_33, i166_34, i166_36, i166_37, i166_38, i166_39, i166_42, i166_44, i166_47, i166_50, i166_51, i166_54, i166_57, i166_59, i166_60, i166_63, i166_66, i166_68, i166_69, i166_70, i166_73, i166_76, i166_77, i166_80, i166_81, i166_84, i166_85, i166_88, i166_89, i166_92, i166_94, i166_96, i166_99, i166_100, i166_101, i166_102, i166_103, i166_106, i166_109, k44, k48, k104, k132, k154, g11_1, g11_11, g11_2, g11_3, g2_10, g4_2, g4_3, ca_67 v1.1, mv93_0 v1.2.2.1, ca_110 v1.1, ca_112 v1.1, ca_113 v1.1, n16, n17, bk, m_isEdge, bi_z, Classical.not_not, te2]
      exact ih2 _
    · rw [if_neg b] at bk ih2
      simp (disch := omega) only [s_1, s_2, s_3, s_4, s_76, s_5, s_6, s_7, s_8, s_9, s_10, s_11, s_12, s_13, s_14, s_15, s_16, s_17, s_18, s_19, s_20, s_21, s_22, s_23, s_24, s_25, s_26, s_27, s_28, s_29, s_30, s_31, s_32, s_33, s_34, s_35, s_36, s_37, s_38, s_39, s_40l, s_40i, s_40r, s_41, s_43, t_44, t_45, t_46, t_47, s_48, s_49, s_50, s_51, s_52, s_53, s_54, s_55, s_56, s_57, s_58, s_59, s_60, s_61, s_62_0, s_62_1, s_62_2, s_66, s_67, s_68, s_69, s_70, s_71, s_72, s_73, sws_n, sws_c, lget, lset, fget, fset, nolg, nolong, avc, stw, cnd, isobj_eo, GCi, GCn, retk, List.length_cons, List.length_nil, ↓reduceIte, and_true, true_and, not_true_eq_false, not_false_eq_true, forall_const, Nat.reduceAdd, Nat.reduceLT, Nat.reduceLeDiff, Nat.lt_add_one, Nat.le_refl, Nat.zero_le, Nat.sub_zero, Int.reduceEq, Int.reduceNe, Int.reduceLT, Int.reduceLE, Int.reduceAdd, Int.reduceSub, Int.reduceMul, Int.reduceNeg, Int.reduceTDiv, Int.reduceTMod, ne_eq, reduceCtorEq, Nat.reduceEqDiff, Int.cast_ofNat_Int, true_or, or_true, false_or, or_false, lcq_0, lcq_2, lcq_3, lcq_4, lcq_5, wu_s, wu_1, wu_w, wu_lt, wu_ne, ar_s, ar_n, rr_s, rr_n, ob_n, nz_c, lt_T, lt_F, le_T, le_F, ie_T, ie_F, nt_T, nt_F, nl_T, nl_F, in_T, and_false, false_and, and_self, not_true_eq_false, Int.toNat_natCast, Int.reduceToNat, if_true, if_false, mi_166, i166_0, i166_1, i166_4, i166_5, i166_8, i166_11, i166_12, i166_16, i166_18, i166_21, i166_22, i166_25, i166_28, i166_30, i166_31, i166_33, i166_34, i166_36, i166_37, i166_38, i166_39, i166_42, i166_44, i166_47, i166_50, i166_51, i166_54, i166_57, i166_59, i166_60, i166_63, i166_66, i166_68, i166_69, i166_70, i166_73, i166_76, i166_77, i166_80, i166_81, i166_84, i166_85, i166_88, i166_89, i166_92, i166_94, i166_96, i166_99, i166_100, i166_101, i166_102, i166_103, i166_106, i166_109, k44, k48, k104, k132, k154, g11_1, g11_11, g11_2, g11_3, g2_10, g4_2, g4_3, ca_67 v1.1, ca_110 v1.1, ca_112 v1.1, n16, bk]
      exact ih2 _
  · intro v6'
    have h1 : CH (wu V 98 (ea 0 180 (lsc (sF s 5) (sF s 16) (sF s 17) m 6))) := v1.m5
    have h2 : CC (wu V 98 (ea 0 180 (lsc (sF s 5) (sF s 16) (sF s 17) m 6))) s := v2.o (by unfold ck; omega) (by decide)
    have h3 : Sq (cF (wu V 98 (ea 0 180 (lsc (sF s 5) (sF s 16) (sF s 17) m 6))) 93) (lsS (sF s) m 6) := by
      show Sq (cF (wu V (93 + 5) (ea 0 180 (lsc (sF s 5) (sF s 16) (sF s 17) m 6))) 93) _
      rw [cf_5]
      exact Sq.upd (k := 5) (σ := cF V 93) v4 (by decide)
    have h4 : Ln (wu V 98 (ea 0 180 (lsc (sF s 5) (sF s 16) (sF s 17) m 6))) 93 := v5.c3 (wu_ne (by decide)) (wu_ne (by decide)) (wu_ne (by decide))
    have h5 : Hi W (wu V 98 (ea 0 180 (lsc (sF s 5) (sF s 16) (sF s 17) m 6))) := v6.up (by decide)
    have h6 : Zw (wu V 98 (ea 0 180 (lsc (sF s 5) (sF s 16) (sF s 17) m 6))) := v3.up (fun i hi => by
      have z5 : ∀ i, 180 ≤ i → sF s 5 i = 0 := by
        rw [← e5']
        exact v3.ar (by decide) (by omega) (mv93_5 v1.2.2.1)
      have key : ∀ k, k ≤ 6 → lsc (sF s 5) (sF s 16) (sF s 17) m k i = 0 := by
        intro k
        induction k with
        | zero => intro _; exact z5 i hi
        | succ k ih =>
          intro hk7
          show (if m.testBit k = true then fu (lsc (sF s 5) (sF s 16) (sF s 17) m k) (sF s 16 k).toNat (sF s 17 k) else lsc (sF s 5) (sF s 16) (sF s 17) m k) i = 0
          by_cases b : m.testBit k = true
          · have te := ht k (by omega) b
            rw [if_pos b, fu_ne _ _ (by omega)]
            exact ih (by omega)
          · rw [if_neg b]
            exact ih (by omega)
      exact key 6 (Nat.le_refl _))
    generalize wu V 98 (ea 0 180 (lsc (sF s 5) (sF s 16) (sF s 17) m 6)) = V1 at *
    have wV1 : 192 ≤ V1.1 := h1.1.1
    obtain ⟨mm, l0, hG⟩ := h1.2.2.2.1
    have hT := TRc.mk h6 h1 h2 h3 h4 hI (h5.la hL)
    rw [i166_14]
    simp (disch := omega) only [s_1, s_2, s_3, s_4, s_76, s_5, s_6, s_7, s_8, s_9, s_10, s_11, s_12, s_13, s_14, s_15, s_16, s_17, s_18, s_19, s_20, s_21, s_22, s_23, s_24, s_25, s_26, s_27, s_28, s_29, s_30, s_31, s_32, s_33, s_34, s_35, s_36, s_37, s_38, s_39, s_40l, s_40i, s_40r, s_41, s_43, t_44, t_45, t_46, t_47, s_48, s_49, s_50, s_51, s_52, s_53, s_54, s_55, s_56, s_57, s_58, s_59, s_60, s_61, s_62_0, s_62_1, s_62_2, s_66, s_67, s_68, s_69, s_70, s_71, s_72, s_73, sws_n, sws_c, lget, lset, fget, fset, nolg, nolong, avc, stw, cnd, isobj_eo, GCi, GCn, retk, List.length_cons, List.length_nil, ↓reduceIte, and_true, true_and, not_true_eq_false, not_false_eq_true, forall_const, Nat.reduceAdd, Nat.reduceLT, Nat.reduceLeDiff, Nat.lt_add_one, Nat.le_refl, Nat.zero_le, Nat.sub_zero, Int.reduceEq, Int.reduceNe, Int.reduceLT, Int.reduceLE, Int.reduceAdd, Int.reduceSub, Int.reduceMul, Int.reduceNeg, Int.reduceTDiv, Int.reduceTMod, ne_eq, reduceCtorEq, Nat.reduceEqDiff, Int.cast_ofNat_Int, true_or, or_true, false_or, or_false, lcq_0, lcq_2, lcq_3, lcq_4, lcq_5, wu_s, wu_1, wu_w, wu_lt, wu_ne, ar_s, ar_n, rr_s, rr_n, ob_n, nz_c, lt_T, lt_F, le_T, le_F, ie_T, ie_F, nt_T, nt_F, nl_T, nl_F, in_T, and_false, false_and, and_self, not_true_eq_false, Int.toNat_natCast, Int.reduceToNat, if_true, if_false, mi_166, i166_0, i166_1, i166_4, i166_5, i166_8, i166_11, i166_12, i166_16, i166_18, i166_21, i166_22, i166_25, i166_28, i166_30, i166_31, i166_33, i166_34, i166_36, i166_37, i166_38, i166_39, i166_42, i166_44, i166_47, i166_50, i166_51, i166_54, i166_57, i166_59, i166_60, i166_63, i166_66, i166_68, i166_69, i166_70, i166_73, i166_76, i166_77, i166_80, i166_81, i166_84, i166_85, i166_88, i166_89, i166_92, i166_94, i166_96, i166_99, i166_100, i166_101, i166_102, i166_103, i166_106, i166_109, k44, k48, k104, k132, k154, g11_1, g11_11, g11_2, g11_3, g2_10, g4_2, g4_3, ca_67 h1.1, mv93_0 h1.2.2.1, hG, x_take h1]
    have h7 : Hi W (wu V1 130 (o10 93 ll (fu (ob V1 130) 6 0))) := h5.up (by decide)
    generalize wu V1 130 (o10 93 ll (fu (ob V1 130) 6 0)) = V2 at hT h7 ⊢
    refine x_passF hT hk (by decide) (by omega) (by rw [hI0]; omega) (fun U hU hU2 => ?_)
    have wU : 192 ≤ U.1 := hU.1.1.1
    have hHi := h7.tr hU2
    have hI5 := (hI.tkN (lw := lw) (h := 100) (by decide) (by decide) n (by rw [hI0]; omega)).1.2.2.1
    have hlb := labO_q (tkN lw 100 n (lsS (sF s) m 6) 6)
    simp (disch := omega) only [s_1, s_2, s_3, s_4, s_76, s_5, s_6, s_7, s_8, s_9, s_10, s_11, s_12, s_13, s_14, s_15, s_16, s_17, s_18, s_19, s_20, s_21, s_22, s_23, s_24, s_25, s_26, s_27, s_28, s_29, s_30, s_31, s_32, s_33, s_34, s_35, s_36, s_37, s_38, s_39, s_40l, s_40i, s_40r, s_41, s_43, t_44, t_45, t_46, t_47, s_48, s_49, s_50, s_51, s_52, s_53, s_54, s_55, s_56, s_57, s_58, s_59, s_60, s_61, s_62_0, s_62_1, s_62_2, s_66, s_67, s_68, s_69, s_70, s_71, s_72, s_73, sws_n, sws_c, lget, lset, fget, fset, nolg, nolong, avc, stw, cnd, isobj_eo, GCi, GCn, retk, List.length_cons, List.length_nil, ↓reduceIte, and_true, true_and, not_true_eq_false, not_false_eq_true, forall_const, Nat.reduceAdd, Nat.reduceLT, Nat.reduceLeDiff, Nat.lt_add_one, Nat.le_refl, Nat.zero_le, Nat.sub_zero, Int.reduceEq, Int.reduceNe, Int.reduceLT, Int.reduceLE, Int.reduceAdd, Int.reduceSub, Int.reduceMul, Int.reduceNeg, Int.reduceTDiv, Int.reduceTMod, ne_eq, reduceCtorEq, Nat.reduceEqDiff, Int.cast_ofNat_Int, true_or, or_true, false_or, or_false, lcq_0, lcq_2, lcq_3, lcq_4, lcq_5, wu_s, wu_1, wu_w, wu_lt, wu_ne, ar_s, ar_n, rr_s, rr_n, ob_n, nz_c, lt_T, lt_F, le_T, le_F, ie_T, ie_F, nt_T, nt_F, nl_T, nl_F, in_T, and_false, false_and, and_self, not_true_eq_false, Int.toNat_natCast, Int.reduceToNat, if_true, if_false, mi_166, i166_0, i166_1, i166_4, i166_5, i166_8, i166_11, i166_12, i166_14, i166_16, i166_18, i166_21, i166_22, i166_25, i166_28, i166_30, i166_31, i166_33, i166_34, i166_36, i166_37, i166_38, i166_39, i166_42, i166_44, i166_47, i166_50, i166_51, i166_54, i166_57, i166_59, i166_60, i166_63, i166_66, i166_68, i166_69, i166_70, i166_73, i166_76, i166_77, i166_80, i166_81, i166_84, i166_85, i166_88, i166_89, i166_92, i166_94, i166_96, i166_99, i166_100, i166_101, i166_102, i166_103, i166_106, i166_109, k44, k48, k104, k132, k154, g11_1, g11_11, g11_2, g11_3, g2_10, g4_2, g4_3, ca_67 hU.1.1, mv93_0 hU.1.2.2.1]
    refine x_isMetG hU.2.2.2.2.2 hU.1 hU.2.1 (Or.inr rfl) hU.2.2.2.1 hU.2.2.1.2.1 hI5 (hHi.wa hWt) hw (fun T L t1 t2 => ?_)
    have e : L = labO (tkN lw 100 n (lsS (sF s) m 6) 6) := t2.1.eq hlb.1 t2.2 hlb.2
    have q := hQ T t1.1 t1.2.1 t1.2.2.1 (t1.2.2.2.1 _ _ (hHi.la hL)) (t1.2.2.2.2 _ _ (hHi.wa hWt))
    unfold ldP at q
    rw [← e] at q
    simp (disch := omega) only [s_1, s_2, s_3, s_4, s_76, s_5, s_6, s_7, s_8, s_9, s_10, s_11, s_12, s_13, s_14, s_15, s_16, s_17, s_18, s_19, s_20, s_21, s_22, s_23, s_24, s_25, s_26, s_27, s_28, s_29, s_30, s_31, s_32, s_33, s_34, s_35, s_36, s_37, s_38, s_39, s_40l, s_40i, s_40r, s_41, s_43, t_44, t_45, t_46, t_47, s_48, s_49, s_50, s_51, s_52, s_53, s_54, s_55, s_56, s_57, s_58, s_59, s_60, s_61, s_62_0, s_62_1, s_62_2, s_66, s_67, s_68, s_69, s_70, s_71, s_72, s_73, sws_n, sws_c, lget, lset, fget, fset, nolg, nolong, avc, stw, cnd, isobj_eo, GCi, GCn, retk, List.length_cons, List.length_nil, ↓reduceIte, and_true, true_and, not_true_eq_false, not_false_eq_true, forall_const, Nat.reduceAdd, Nat.reduceLT, Nat.reduceLeDiff, Nat.lt_add_one, Nat.le_refl, Nat.zero_le, Nat.sub_zero, Int.reduceEq, Int.reduceNe, Int.reduceLT, Int.reduceLE, Int.reduceAdd, Int.reduceSub, Int.reduceMul, Int.reduceNeg, Int.reduceTDiv, Int.reduceTMod, ne_eq, reduceCtorEq, Nat.reduceEqDiff, Int.cast_ofNat_Int, true_or, or_true, false_or, or_false, lcq_0, lcq_2, lcq_3, lcq_4, lcq_5, wu_s, wu_1, wu_w, wu_lt, wu_ne, ar_s, ar_n, rr_s, rr_n, ob_n, nz_c, lt_T, lt_F, le_T, le_F, ie_T, ie_F, nt_T, nt_F, nl_T, nl_F, in_T, and_false, false_and, and_self, not_true_eq_false, Int.toNat_natCast, Int.reduceToNat, if_true, if_false, mi_166, i166_0, i166_1, i166_4, i166_5, i166_8, i166_11, i166_12, i166_14, i166_16, i166_18, i166_21, i166_22, i166_25, i166_28, i166_30, i166_31, i166_33, i166_34, i166_36, i166_37, i166_38, i166_39, i166_42, i166_44, i166_47, i166_50, i166_51, i166_54, i166_57, i166_59, i166_60, i166_63, i166_66, i166_68, i166_69, i166_70, i166_73, i166_76, i166_77, i166_80, i166_81, i166_84, i166_85, i166_88, i166_89, i166_92, i166_94, i166_96, i166_99, i166_100, i166_101, i166_102, i166_103, i166_106, i166_109, k44, k48, k104, k132, k154, g11_1, g11_11, g11_2, g11_3, g2_10, g4_2, g4_3]
    exact ⟨bi_o, q⟩
end LDX
