-- ALL FIRST CALLS
theorem rf_of {L : Nat} {xs : Nat → Int32} {W : AW} (h : RG L xs W) : RF W := by
  refine ⟨fun k hk => Nat.lt_of_lt_of_le hk h.1, ?_, ?_, ?_, ?_⟩
  · rw [h.2 148 (by decide) (Or.inr (by decide))]; rfl
  · rw [h.2 149 (by decide) (Or.inr (by decide))]; rfl
  · rw [h.2 167 (by decide) (Or.inr (by decide))]; rfl
  · rw [h.2 191 (by decide) (Or.inr (by decide))]; rfl
theorem rg_c {L : Nat} {xs : Nat → Int32} {W : AW} (h : RG L xs W) {k : Nat} {e : AE} (h1 : 148 ≤ k) (h2 : k < 192) (he : (wF L xs).2 k = e) : W.2 k = e := (h.2 k h2 (Or.inr h1)).trans he
theorem has_0 : ∀ v ∈ ([] : List AV), ∃ x, v = vi x := fun v hv => by cases hv
theorem has_c {x : Int} {l : List AV} (h : ∀ v ∈ l, ∃ x, v = vi x) : ∀ v ∈ vi x :: l, ∃ x, v = vi x := List.forall_mem_cons.mpr ⟨⟨x, rfl⟩, h⟩
section ALL
variable {L : Nat} {xs : Nat → Int32} {a b c d e : Int}
theorem ok_0 (hs : b < 2147483648) : CallOK (J1 L xs) (wF L xs) 13 178 [vi a, vi b, vi c, vi d] := by
  refine fresh_call (bi ((1 ≤ a ∧ a ≤ 4) ∧ 0 ≤ b ∧ (1 ≤ c ∧ c ≤ 9999) ∧ (c ≤ d ∧ d ≤ 9999))) (has_c (has_c (has_c (has_c has_0)))) ?_ (fun W hW => ?_)
  · refine m_begin (lc := 0) (wc := 0) (tl := 0) (fb := 0) (l := 0) (s := 0) (le := 0) (g := 0) (bo := 0) (tk := 0) (made := 0) (r := 0) (w := z0) (sh := z0) (sa := z0) (gr := z0) (sc := z0) (ow := z0) (de := z0) (sr := z0) (st := z0) (ln := z0) (si := z0) (be := z0) (te := z0) (tn := z0) (tw := z0) (nl := z0) (ce := flf z0 6 (-1)) (cs := z0) wF_67 ⟨wF_76, wF_77, wF_78, wF_79, wF_80, wF_81, wF_82, wF_83, wF_84⟩ ⟨wF_85, wF_86, wF_87, wF_88, wF_89, wF_90, wF_91, wF_92⟩ ⟨wF_110, wF_111, wF_112, wF_113⟩ (by rw [wF_1]; decide) (by decide) hs (fun h => by rw [bi_n h]) (fun h _ _ _ _ _ _ _ => by rw [bi_p h])
  · refine m_beginR (th := 0) (fl := 0) (ta := 0) (pp := 0) (fa := 0) (sl := 0) (la := 0) (wa := 0) (en := 0) (dp := 0) (co := 0) (op := 0) (wo := 0) (im := 0) (ib := 0) (sc := z0) (w := z0) (sh := z0) (sa := z0) (gr := z0) (sr := z0) (ow := z0) (de := z0) (sd := z0) (ce := flf z0 6 (-1)) (rf_of hW).1 (rg_c hW (by decide) (by decide) rfl) (rg_c hW (by decide) (by decide) rfl) (rg_c hW (by decide) (by decide) rfl) (rg_c hW (by decide) (by decide) rfl) (rg_c hW (by decide) (by decide) rfl) (rg_c hW (by decide) (by decide) rfl) (rg_c hW (by decide) (by decide) rfl) (rg_c hW (by decide) (by decide) rfl) (rg_c hW (by decide) (by decide) rfl) (rg_c hW (by decide) (by decide) rfl) (rg_c hW (by decide) (by decide) rfl) (by decide) hs (fun h => by rw [bi_n h]) (fun h => by rw [bi_p h])
theorem ok_1 : CallOK (J1 L xs) (wF L xs) 19 181 [vi a, vi b, vi c, vi d] := fresh_call (-1) (has_c (has_c (has_c (has_c has_0)))) (fc_1.mpr rfl) (fun W hW => (gr_1 (rf_of hW)).mpr rfl)
theorem ok_2 : CallOK (J1 L xs) (wF L xs) 24 184 [vi a, vi b, vi c] := fresh_call (-1) (has_c (has_c (has_c has_0))) (fc_2.mpr rfl) (fun W hW => (gr_2 (rf_of hW)).mpr rfl)
theorem ok_3 : CallOK (J1 L xs) (wF L xs) 43 191 [vi a, vi b] := fresh_call (-1) (has_c (has_c has_0)) (fc_3.mpr rfl) (fun W hW => (gr_3 (rf_of hW)).mpr rfl)
theorem ok_4 : CallOK (J1 L xs) (wF L xs) 45 224 [vi a, vi b, vi c] := fresh_call (-2) (has_c (has_c (has_c has_0))) (fc_4.mpr rfl) (fun W hW => (gr_4 (rf_of hW)).mpr rfl)
theorem ok_5 : CallOK (J1 L xs) (wF L xs) 58 193 [vi a, vi b, vi c, vi d, vi e] := fresh_call 20 (has_c (has_c (has_c (has_c (has_c has_0))))) (fc_5) (fun W hW => gr_5 (rf_of hW))
theorem ok_6 : CallOK (J1 L xs) (wF L xs) 60 195 [vi a] := fresh_call (bi (a = 0) - 1) (has_c has_0) (fc_6) (fun W hW => gr_6 (rf_of hW))
theorem ok_7 : CallOK (J1 L xs) (wF L xs) 61 196 [] := fresh_call (-3) has_0 (fc_7) (fun W hW => gr_7 (rf_of hW) (rg_c hW (by decide) (by decide) rfl) (fun k hk => (hW.2 k (by omega) (Or.inl hk)).trans (wx_o hk)))
theorem ok_8 : CallOK (J1 L xs) (wF L xs) 102 223 [] := fresh_call (-3) has_0 (fc_8) (fun W hW => gr_8 (rf_of hW) (rg_c hW (by decide) (by decide) rfl) (fun k hk => (hW.2 k (by omega) (Or.inl hk)).trans (wx_o hk)))
theorem ok_9 : CallOK (J1 L xs) (wF L xs) 103 236 [vi a, vi b] := fresh_call (-1) (has_c (has_c has_0)) (fc_9.mpr rfl) (fun W hW => (gr_9 (rf_of hW)).mpr rfl)
theorem ok_10 : CallOK (J1 L xs) (wF L xs) 119 250 [vi a, vi b] := fresh_call (-1) (has_c (has_c has_0)) (fc_10.mpr rfl) (fun W hW => (gr_10 (rf_of hW)).mpr rfl)
theorem ok_11 : CallOK (J1 L xs) (wF L xs) 124 253 [vi a, vi b] := fresh_call (-4) (has_c (has_c has_0)) (fc_11.mpr rfl) (fun W hW => (gr_11 (rf_of hW)).mpr rfl)
theorem ok_12 : CallOK (J1 L xs) (wF L xs) 126 255 [vi a, vi b] := fresh_call (-1) (has_c (has_c has_0)) (fc_12.mpr rfl) (fun W hW => (gr_12 (rf_of hW)).mpr rfl)
theorem ok_13 : CallOK (J1 L xs) (wF L xs) 127 256 [vi a] := fresh_call (cntF a) (has_c has_0) (fc_13.mpr rfl) (fun W hW => (gr_13 (rf_of hW)).mpr rfl)
theorem ok_14 : CallOK (J1 L xs) (wF L xs) 130 259 [vi a] := fresh_call (-1) (has_c has_0) (fc_14.mpr rfl) (fun W hW => (gr_14 (rf_of hW)).mpr rfl)
theorem ok_15 : CallOK (J1 L xs) (wF L xs) 134 262 [] := fresh_call (-1) has_0 (fc_15.mpr rfl) (fun W hW => (gr_15 (rf_of hW)).mpr rfl)
theorem ok_16 : CallOK (J1 L xs) (wF L xs) 136 263 [vi a, vi b] := fresh_call (-1) (has_c (has_c has_0)) (fc_16.mpr rfl) (fun W hW => (gr_16 (rf_of hW)).mpr rfl)
theorem ok_17 : CallOK (J1 L xs) (wF L xs) 139 266 [vi a] := fresh_call (-1) (has_c has_0) (fc_17.mpr rfl) (fun W hW => (gr_17 (rf_of hW)).mpr rfl)
theorem ok_18 : CallOK (J1 L xs) (wF L xs) 142 268 [vi a, vi b] := fresh_call (-1) (has_c (has_c has_0)) (fc_18.mpr rfl) (fun W hW => (gr_18 (rf_of hW)).mpr rfl)
theorem ok_19 : CallOK (J1 L xs) (wF L xs) 147 272 [vi a] := fresh_call (-1) (has_c has_0) (fc_19.mpr rfl) (fun W hW => (gr_19 (rf_of hW)).mpr rfl)
theorem ok_20 : CallOK (J1 L xs) (wF L xs) 150 273 [vi a] := fresh_call (-1) (has_c has_0) (fc_20.mpr rfl) (fun W hW => (gr_20 (rf_of hW)).mpr rfl)
theorem ok_21 : CallOK (J1 L xs) (wF L xs) 152 274 [vi a] := fresh_call (-1) (has_c has_0) (fc_21.mpr rfl) (fun W hW => (gr_21 (rf_of hW)).mpr rfl)
theorem ok_22 : CallOK (J1 L xs) (wF L xs) 153 279 [vi a, vi b, vi c] := fresh_call (-1) (has_c (has_c (has_c has_0))) (fc_22.mpr rfl) (fun W hW => (gr_22 (rf_of hW)).mpr rfl)
theorem ok_23 : CallOK (J1 L xs) (wF L xs) 156 283 [vi a, vi b, vi c] := fresh_call (-1) (has_c (has_c (has_c has_0))) (fc_23.mpr rfl) (fun W hW => (gr_23 (rf_of hW)).mpr rfl)
theorem ok_24 : CallOK (J1 L xs) (wF L xs) 157 284 [vi a, vi b] := fresh_call (-1) (has_c (has_c has_0)) (fc_24.mpr rfl) (fun W hW => (gr_24 (rf_of hW)).mpr rfl)
theorem ok_25 : CallOK (J1 L xs) (wF L xs) 161 287 [vi a] := fresh_call (-1) (has_c has_0) (fc_25.mpr rfl) (fun W hW => (gr_25 (rf_of hW)).mpr rfl)
theorem ok_26 : CallOK (J1 L xs) (wF L xs) 162 288 [vi a, vi b, vi c] := fresh_call 0 (has_c (has_c (has_c has_0))) (fc_26.mpr rfl) (fun W hW => (gr_26 (rf_of hW)).mpr rfl)
theorem ok_27 : CallOK (J1 L xs) (wF L xs) 163 289 [vi a, vi b, vi c] := fresh_call (-1) (has_c (has_c (has_c has_0))) (fc_27.mpr rfl) (fun W hW => (gr_27 (rf_of hW)).mpr rfl)
theorem ok_28 : CallOK (J1 L xs) (wF L xs) 167 292 [vi a, vi b] := fresh_call (-1) (has_c (has_c has_0)) (fc_28.mpr rfl) (fun W hW => (gr_28 (rf_of hW)).mpr rfl)
theorem ok_29 : CallOK (J1 L xs) (wF L xs) 169 293 [vi a, vi b] := fresh_call (-1) (has_c (has_c has_0)) (fc_29.mpr rfl) (fun W hW => (gr_29 (rf_of hW)).mpr rfl)
theorem ok_30 : CallOK (J1 L xs) (wF L xs) 170 294 [vi a, vi b] := fresh_call (-1) (has_c (has_c has_0)) (fc_30.mpr rfl) (fun W hW => (gr_30 (rf_of hW)).mpr rfl)
theorem ok_31 : CallOK (J1 L xs) (wF L xs) 172 295 [vi a] := fresh_call (-1) (has_c has_0) (fc_31.mpr rfl) (fun W hW => (gr_31 (rf_of hW)).mpr rfl)
theorem ok_32 : CallOK (J1 L xs) (wF L xs) 174 275 [vi a] := fresh_call (-1) (has_c has_0) (fc_32.mpr rfl) (fun W hW => (gr_32 (rf_of hW)).mpr rfl)
theorem ok_33 : CallOK (J1 L xs) (wF L xs) 176 278 [vi a] := fresh_call (-1) (has_c has_0) (fc_33.mpr rfl) (fun W hW => (gr_33 (rf_of hW)).mpr rfl)
end ALL
theorem fresh_all {L : Nat} {xs : Nat → Int32} {i : Nat} (k : Nat) (hk : k < 34) : CallOK (J1 L xs) (wF L xs) (opc.getD k 0) (opr.getD k 0) (opa (Xs xs) i (opn.getD k 0)) := by
  match k, hk with
  | 0, _ => exact ok_0 (xs _).toInt_lt
  | 1, _ => exact ok_1
  | 2, _ => exact ok_2
  | 3, _ => exact ok_3
  | 4, _ => exact ok_4
  | 5, _ => exact ok_5
  | 6, _ => exact ok_6
  | 7, _ => exact ok_7
  | 8, _ => exact ok_8
  | 9, _ => exact ok_9
  | 10, _ => exact ok_10
  | 11, _ => exact ok_11
  | 12, _ => exact ok_12
  | 13, _ => exact ok_13
  | 14, _ => exact ok_14
  | 15, _ => exact ok_15
  | 16, _ => exact ok_16
  | 17, _ => exact ok_17
  | 18, _ => exact ok_18
  | 19, _ => exact ok_19
  | 20, _ => exact ok_20
  | 21, _ => exact ok_21
  | 22, _ => exact ok_22
  | 23, _ => exact ok_23
  | 24, _ => exact ok_24
  | 25, _ => exact ok_25
  | 26, _ => exact ok_26
  | 27, _ => exact ok_27
  | 28, _ => exact ok_28
  | 29, _ => exact ok_29
  | 30, _ => exact ok_30
  | 31, _ => exact ok_31
  | 32, _ => exact ok_32
  | 33, _ => exact ok_33
  | k + 34, hk => exact absurd hk (by omega)
theorem first_call (L : Nat) (xs : Nat → Int32) (hL : L ≤ 6) : Gm 296 [vr 0] (67, frz L xs) (fun r _ => r = some (vi 1)) := by
  have j0 : J1 L xs (wF L xs) := ⟨rfl, by rw [wF_67]; rfl, by rw [wF_1]; decide⟩
  refine law_of (by omega) (fun c W => (c = 0 ∧ W = wF L xs) ∨ (0 < c ∧ J1 L xs W)) (Or.inl ⟨rfl, rfl⟩) (fun c W h => ?_) (fun c W h => ?_) (fun c W hc h k hk => ?_)
  · rcases h with ⟨-, rfl⟩ | ⟨-, h⟩
    · exact j0
    · exact h
  · rcases h with ⟨-, rfl⟩ | ⟨-, h⟩
    · exact Or.inr ⟨by omega, j0⟩
    · exact Or.inr ⟨by omega, h⟩
  · rcases h with ⟨rfl, rfl⟩ | ⟨h0, -⟩
    · have h1 := fresh_all (L := L) (xs := xs) (i := 6 * 0) k hk
      refine Gm_post h1 (fun r W' q => ⟨q.1, q.2.1, q.2.2.1, ?_⟩)
      obtain ⟨z, hz, hg⟩ := q.2.2.2
      exact ⟨z, hz, Gm_post hg (fun r' W2 p => ⟨p.1, Or.inr ⟨by omega, p.2⟩⟩)⟩
    · omega
