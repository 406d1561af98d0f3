-- FLOORS AS NUMBERS (draft, not built yet)
-- a floor: numbers (0 layers, 1 seed, 2 least, 3 greatest, 4 born, 5 ticks, 6 tears made), rows (0 wet, 1 shade, 2 salt, 3 grain, 4 scratch, 5 owner, 6 depth, 7 scar, 8 starts, 9 lengths, 10 since, 11 bends, 12 tipEnds, 13 tipNodes, 14 tipWays)
abbrev FLR : Type := (Nat → Int) × (Nat → Nat → Int)
def MudOf (W : AW) (m : Nat) (σ : FLR) : Prop := MudAt W m (σ.1 0) (σ.1 1) (σ.1 2) (σ.1 3) (σ.1 4) (σ.1 5) (σ.2 0) (σ.2 1) (σ.2 2) (σ.2 3) (σ.2 4) (σ.2 5) (σ.2 6) (σ.2 7) ∧ TearsAt W (m + 9) (σ.1 6) (σ.2 8) (σ.2 9) (σ.2 10) (σ.2 11) (σ.2 12) (σ.2 13) (σ.2 14)
theorem MudOf.cg {W W' : AW} {m : Nat} {σ : FLR} (h : MudOf W m σ) (hk : ∀ k, m ≤ k → k ≤ m + 16 → W'.2 k = W.2 k) : MudOf W' m σ := ⟨h.1.cg (fun k a b => hk k a (by omega)), h.2.cg (fun k a b => hk k (by omega) (by omega))⟩
section MUD
variable {W : AW} {m : Nat} {σ : FLR} {Q : AQ}
theorem m_isTorn (h : MudOf W m σ) (hW : m + 16 < W.1) {e : Int} (h0 : 0 ≤ e) (h1 : e < 180) : Gm 30 [vr m, vi e] W Q ↔ Q (some (vi (bi (σ.2 5 e.toNat ≠ -1)))) W := by
  obtain ⟨⟨a0, a1, a2, a3, a4, a5, a6, a7, a8⟩, -⟩ := h
  have w0 : m < W.1 := by omega
  have w6 : m + 6 < W.1 := by omega
  rw [e30]
  simp only [s_1, s_2, s_3, s_4, s_76, s_5, s_6, s_7, s_8, s_9, s_10, s_11, s_12, s_13, s_14, s_15, s_16, s_17, s_18, s_19, s_20, s_21, s_22, s_23, s_24, s_25, s_26, s_27, s_28, s_29, s_30, s_31, s_32, s_33, s_34, s_35, s_36, s_37, s_38, s_39, s_40l, s_40i, s_40r, s_41, s_43, t_44, t_45, t_46, t_47, s_48, s_49, s_50, s_51, s_52, s_53, s_54, s_55, s_56, s_57, s_58, s_59, s_60, s_61, s_62_0, s_62_1, s_62_2, s_66, s_67, s_68, s_69, s_70, s_71, s_72, s_73, sws_n, sws_c, lget, lset, fget, fset, nolg, nolong, avc, stw, cnd, isobj_eo, GCi, GCn, retk, List.length_cons, List.length_nil, ↓reduceIte, and_true, true_and, not_true_eq_false, not_false_eq_true, forall_const, Nat.reduceAdd, Nat.reduceLT, Nat.reduceLeDiff, Nat.lt_add_one, Nat.le_refl, Nat.zero_le, Nat.sub_zero, Int.reduceEq, Int.reduceNe, Int.reduceLT, Int.reduceLE, Int.reduceAdd, Int.reduceSub, Int.reduceMul, Int.reduceNeg, Int.reduceTDiv, Int.reduceTMod, ne_eq, reduceCtorEq, Nat.reduceEqDiff, Int.cast_ofNat_Int, true_or, or_true, false_or, or_false, lcq_0, lcq_2, lcq_3, lcq_4, lcq_5, mi_30, i30_0, i30_1, i30_4, i30_5, i30_6, i30_7, i30_10, i30_11, i30_14, i30_15, a0, a6, w0, w6, h0, h1]
  by_cases c : σ.2 5 e.toNat = -1
  · rw [if_pos c, bi_n (by simpa using c)]
  · rw [if_neg c, bi_p c]
end MUD
