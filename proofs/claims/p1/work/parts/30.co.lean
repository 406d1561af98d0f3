theorem tm1 {w : Cond} (h : w ∈ tables_1_1) (g : goodWord w = true) : w ∈ wsu := List.mem_filter.mpr ⟨List.mem_append_right _ (show w ∈ tables_1 from List.mem_append_left _ h), g⟩
theorem tm2 {w : Cond} (h : w ∈ tables_1_2) (g : goodWord w = true) : w ∈ wsu := List.mem_filter.mpr ⟨List.mem_append_right _ (show w ∈ tables_1 from List.mem_append_right _ (List.mem_append_left _ h)), g⟩
theorem tm3 {w : Cond} (h : w ∈ tables_1_3) (g : goodWord w = true) : w ∈ wsu := List.mem_filter.mpr ⟨List.mem_append_right _ (show w ∈ tables_1 from List.mem_append_right _ (List.mem_append_right _ (List.mem_append_left _ h))), g⟩
theorem tm4 {w : Cond} (h : w ∈ tables_1_4) (g : goodWord w = true) : w ∈ wsu := List.mem_filter.mpr ⟨List.mem_append_right _ (show w ∈ tables_1 from List.mem_append_right _ (List.mem_append_right _ (List.mem_append_right _ (List.mem_append_left _ h)))), g⟩
theorem tm5 {w : Cond} (h : w ∈ tables_1_5) (g : goodWord w = true) : w ∈ wsu := List.mem_filter.mpr ⟨List.mem_append_right _ (show w ∈ tables_1 from List.mem_append_right _ (List.mem_append_right _ (List.mem_append_right _ (List.mem_append_right _ (List.mem_append_left _ h))))), g⟩
theorem tm6 {w : Cond} (h : w ∈ tables_1_6) (g : goodWord w = true) : w ∈ wsu := List.mem_filter.mpr ⟨List.mem_append_right _ (show w ∈ tables_1 from List.mem_append_right _ (List.mem_append_right _ (List.mem_append_right _ (List.mem_append_right _ (List.mem_append_right _ (List.mem_append_left _ h)))))), g⟩
theorem tm7 {w : Cond} (h : w ∈ tables_1_7) (g : goodWord w = true) : w ∈ wsu := List.mem_filter.mpr ⟨List.mem_append_right _ (show w ∈ tables_1 from List.mem_append_right _ (List.mem_append_right _ (List.mem_append_right _ (List.mem_append_right _ (List.mem_append_right _ (List.mem_append_right _ (List.mem_append_left _ h))))))), g⟩
theorem tm8 {w : Cond} (h : w ∈ tables_1_8) (g : goodWord w = true) : w ∈ wsu := List.mem_filter.mpr ⟨List.mem_append_right _ (show w ∈ tables_1 from List.mem_append_right _ (List.mem_append_right _ (List.mem_append_right _ (List.mem_append_right _ (List.mem_append_right _ (List.mem_append_right _ (List.mem_append_right _ (h)))))))), g⟩
def okd0 : AV → Bool
  | Sum.inl z => z == 0
  | Sum.inr (Sum.inl z) => z == 0
  | Sum.inr (Sum.inr none) => true
  | _ => false
theorem okd {l : List AV} (h : l.all okd0 = true) (n : Nat) : ∀ v ∈ l, okv n v := fun v hv => by
  have := List.all_eq_true.mp h v hv
  rcases v with z | z | _ | k
  · have e : z = 0 := by simpa [okd0] using this
    subst e
    exact i32_z
  · have e : z = 0 := by simpa [okd0] using this
    subst e
    exact ⟨by decide, by decide⟩
  · trivial
  · cases this
theorem cf_0_0 : u_lay (cnm 0) TX0 0 ∈ wsu := tm2 (List.mem_of_getElem? (i := 199) (by decide +kernel)) (by decide +kernel)
theorem cu_0 : ∀ w ∈ u_ws (cnm 0) TX0 1, w ∈ wsu := by
  intro w hw
  obtain ⟨k, hk, rfl⟩ := List.mem_map.mp hw
  have hk := List.mem_range.mp hk
  match k, hk with
  | 0, _ => exact cf_0_0
  | k + 1, hk => exact absurd hk (by omega)
theorem cdv_0 (ad : Nat → Nat) (j : Nat) (hj : j < 1) : defaultValue (tyX0 j) = vp_V ((fdf 0).map (cv ad)) j := by
  match j, hj with
  | 0, _ => rfl
  | j + 1, hj => exact absurd hj (by omega)
theorem cv_0 : vwCl[0]? = some (cnm 0, (tcx 0).1, (tcx 0).2) := congrArg (fun q => some (q, TX0, 1)) (show RX0 = cnm 0 by decide +kernel)
theorem coc_0 : CO 0 := ⟨TX0, 1, tyX0, cv_0, cu_0, tyX0_ok, nmX0, tm2 (List.mem_of_getElem? (i := 193) (by decide +kernel)) (by decide +kernel), tm1 (List.mem_of_getElem? (i := 13) (by decide +kernel)) (by decide +kernel), by decide +kernel, cdv_0, okd (by decide +kernel)⟩
theorem cf_1_0 : u_lay (cnm 1) TX1 0 ∈ wsu := tm1 (List.mem_of_getElem? (i := 57) (by decide +kernel)) (by decide +kernel)
theorem cf_1_1 : u_lay (cnm 1) TX1 1 ∈ wsu := tm1 (List.mem_of_getElem? (i := 59) (by decide +kernel)) (by decide +kernel)
theorem cf_1_2 : u_lay (cnm 1) TX1 2 ∈ wsu := tm1 (List.mem_of_getElem? (i := 61) (by decide +kernel)) (by decide +kernel)
theorem cf_1_3 : u_lay (cnm 1) TX1 3 ∈ wsu := tm1 (List.mem_of_getElem? (i := 63) (by decide +kernel)) (by decide +kernel)
theorem cf_1_4 : u_lay (cnm 1) TX1 4 ∈ wsu := tm1 (List.mem_of_getElem? (i := 65) (by decide +kernel)) (by decide +kernel)
theorem cf_1_5 : u_lay (cnm 1) TX1 5 ∈ wsu := tm1 (List.mem_of_getElem? (i := 67) (by decide +kernel)) (by decide +kernel)
theorem cf_1_6 : u_lay (cnm 1) TX1 6 ∈ wsu := tm1 (List.mem_of_getElem? (i := 69) (by decide +kernel)) (by decide +kernel)
theorem cu_1 : ∀ w ∈ u_ws (cnm 1) TX1 7, w ∈ wsu := by
  intro w hw
  obtain ⟨k, hk, rfl⟩ := List.mem_map.mp hw
  have hk := List.mem_range.mp hk
  match k, hk with
  | 0, _ => exact cf_1_0
  | 1, _ => exact cf_1_1
  | 2, _ => exact cf_1_2
  | 3, _ => exact cf_1_3
  | 4, _ => exact cf_1_4
  | 5, _ => exact cf_1_5
  | 6, _ => exact cf_1_6
  | k + 7, hk => exact absurd hk (by omega)
theorem cdv_1 (ad : Nat → Nat) (j : Nat) (hj : j < 7) : defaultValue (tyX1 j) = vp_V ((fdf 1).map (cv ad)) j := by
  match j, hj with
  | 0, _ => rfl
  | 1, _ => rfl
  | 2, _ => rfl
  | 3, _ => rfl
  | 4, _ => rfl
  | 5, _ => rfl
  | 6, _ => rfl
  | j + 7, hj => exact absurd hj (by omega)
theorem cv_1 : vwCl[1]? = some (cnm 1, (tcx 1).1, (tcx 1).2) := congrArg (fun q => some (q, TX1, 7)) (show RX1 = cnm 1 by decide +kernel)
theorem coc_1 : CO 1 := ⟨TX1, 7, tyX1, cv_1, cu_1, tyX1_ok, nmX1, tm1 (List.mem_of_getElem? (i := 32) (by decide +kernel)) (by decide +kernel), tm1 (List.mem_of_getElem? (i := 2) (by decide +kernel)) (by decide +kernel), by decide +kernel, cdv_1, okd (by decide +kernel)⟩
theorem cf_2_0 : u_lay (cnm 2) TX2 0 ∈ wsu := tm1 (List.mem_of_getElem? (i := 168) (by decide +kernel)) (by decide +kernel)
theorem cf_2_1 : u_lay (cnm 2) TX2 1 ∈ wsu := tm1 (List.mem_of_getElem? (i := 170) (by decide +kernel)) (by decide +kernel)
theorem cf_2_2 : u_lay (cnm 2) TX2 2 ∈ wsu := tm1 (List.mem_of_getElem? (i := 172) (by decide +kernel)) (by decide +kernel)
theorem cf_2_3 : u_lay (cnm 2) TX2 3 ∈ wsu := tm1 (List.mem_of_getElem? (i := 174) (by decide +kernel)) (by decide +kernel)
theorem cf_2_4 : u_lay (cnm 2) TX2 4 ∈ wsu := tm1 (List.mem_of_getElem? (i := 176) (by decide +kernel)) (by decide +kernel)
theorem cf_2_5 : u_lay (cnm 2) TX2 5 ∈ wsu := tm1 (List.mem_of_getElem? (i := 178) (by decide +kernel)) (by decide +kernel)
theorem cf_2_6 : u_lay (cnm 2) TX2 6 ∈ wsu := tm1 (List.mem_of_getElem? (i := 180) (by decide +kernel)) (by decide +kernel)
theorem cf_2_7 : u_lay (cnm 2) TX2 7 ∈ wsu := tm1 (List.mem_of_getElem? (i := 182) (by decide +kernel)) (by decide +kernel)
theorem cf_2_8 : u_lay (cnm 2) TX2 8 ∈ wsu := tm1 (List.mem_of_getElem? (i := 184) (by decide +kernel)) (by decide +kernel)
theorem cf_2_9 : u_lay (cnm 2) TX2 9 ∈ wsu := tm1 (List.mem_of_getElem? (i := 186) (by decide +kernel)) (by decide +kernel)
theorem cf_2_10 : u_lay (cnm 2) TX2 10 ∈ wsu := tm1 (List.mem_of_getElem? (i := 188) (by decide +kernel)) (by decide +kernel)
theorem cf_2_11 : u_lay (cnm 2) TX2 11 ∈ wsu := tm1 (List.mem_of_getElem? (i := 190) (by decide +kernel)) (by decide +kernel)
theorem cf_2_12 : u_lay (cnm 2) TX2 12 ∈ wsu := tm1 (List.mem_of_getElem? (i := 192) (by decide +kernel)) (by decide +kernel)
theorem cf_2_13 : u_lay (cnm 2) TX2 13 ∈ wsu := tm1 (List.mem_of_getElem? (i := 194) (by decide +kernel)) (by decide +kernel)
theorem cf_2_14 : u_lay (cnm 2) TX2 14 ∈ wsu := tm1 (List.mem_of_getElem? (i := 196) (by decide +kernel)) (by decide +kernel)
theorem cu_2 : ∀ w ∈ u_ws (cnm 2) TX2 15, w ∈ wsu := by
  intro w hw
  obtain ⟨k, hk, rfl⟩ := List.mem_map.mp hw
  have hk := List.mem_range.mp hk
  match k, hk with
  | 0, _ => exact cf_2_0
  | 1, _ => exact cf_2_1
  | 2, _ => exact cf_2_2
  | 3, _ => exact cf_2_3
  | 4, _ => exact cf_2_4
  | 5, _ => exact cf_2_5
  | 6, _ => exact cf_2_6
  | 7, _ => exact cf_2_7
  | 8, _ => exact cf_2_8
  | 9, _ => exact cf_2_9
  | 10, _ => exact cf_2_10
  | 11, _ => exact cf_2_11
  | 12, _ => exact cf_2_12
  | 13, _ => exact cf_2_13
  | 14, _ => exact cf_2_14
  | k + 15, hk => exact absurd hk (by omega)
theorem cdv_2 (ad : Nat → Nat) (j : Nat) (hj : j < 15) : defaultValue (tyX2 j) = vp_V ((fdf 2).map (cv ad)) j := by
  match j, hj with
  | 0, _ => rfl
  | 1, _ => rfl
  | 2, _ => rfl
  | 3, _ => rfl
  | 4, _ => rfl
  | 5, _ => rfl
  | 6, _ => rfl
  | 7, _ => rfl
  | 8, _ => rfl
  | 9, _ => rfl
  | 10, _ => rfl
  | 11, _ => rfl
  | 12, _ => rfl
  | 13, _ => rfl
  | 14, _ => rfl
  | j + 15, hj => exact absurd hj (by omega)
theorem cv_2 : vwCl[2]? = some (cnm 2, (tcx 2).1, (tcx 2).2) := congrArg (fun q => some (q, TX2, 15)) (show RX2 = cnm 2 by decide +kernel)
theorem coc_2 : CO 2 := ⟨TX2, 15, tyX2, cv_2, cu_2, tyX2_ok, nmX2, tm1 (List.mem_of_getElem? (i := 74) (by decide +kernel)) (by decide +kernel), tm1 (List.mem_of_getElem? (i := 4) (by decide +kernel)) (by decide +kernel), by decide +kernel, cdv_2, okd (by decide +kernel)⟩
theorem cf_3_0 : u_lay (cnm 3) TX3 0 ∈ wsu := tm2 (List.mem_of_getElem? (i := 172) (by decide +kernel)) (by decide +kernel)
theorem cf_3_1 : u_lay (cnm 3) TX3 1 ∈ wsu := tm2 (List.mem_of_getElem? (i := 174) (by decide +kernel)) (by decide +kernel)
theorem cf_3_2 : u_lay (cnm 3) TX3 2 ∈ wsu := tm2 (List.mem_of_getElem? (i := 176) (by decide +kernel)) (by decide +kernel)
theorem cf_3_3 : u_lay (cnm 3) TX3 3 ∈ wsu := tm2 (List.mem_of_getElem? (i := 178) (by decide +kernel)) (by decide +kernel)
theorem cf_3_4 : u_lay (cnm 3) TX3 4 ∈ wsu := tm2 (List.mem_of_getElem? (i := 180) (by decide +kernel)) (by decide +kernel)
theorem cf_3_5 : u_lay (cnm 3) TX3 5 ∈ wsu := tm2 (List.mem_of_getElem? (i := 182) (by decide +kernel)) (by decide +kernel)
theorem cf_3_6 : u_lay (cnm 3) TX3 6 ∈ wsu := tm2 (List.mem_of_getElem? (i := 184) (by decide +kernel)) (by decide +kernel)
theorem cf_3_7 : u_lay (cnm 3) TX3 7 ∈ wsu := tm2 (List.mem_of_getElem? (i := 186) (by decide +kernel)) (by decide +kernel)
theorem cf_3_8 : u_lay (cnm 3) TX3 8 ∈ wsu := tm2 (List.mem_of_getElem? (i := 188) (by decide +kernel)) (by decide +kernel)
theorem cu_3 : ∀ w ∈ u_ws (cnm 3) TX3 9, w ∈ wsu := by
  intro w hw
  obtain ⟨k, hk, rfl⟩ := List.mem_map.mp hw
  have hk := List.mem_range.mp hk
  match k, hk with
  | 0, _ => exact cf_3_0
  | 1, _ => exact cf_3_1
  | 2, _ => exact cf_3_2
  | 3, _ => exact cf_3_3
  | 4, _ => exact cf_3_4
  | 5, _ => exact cf_3_5
  | 6, _ => exact cf_3_6
  | 7, _ => exact cf_3_7
  | 8, _ => exact cf_3_8
  | k + 9, hk => exact absurd hk (by omega)
theorem cdv_3 (ad : Nat → Nat) (j : Nat) (hj : j < 9) : defaultValue (tyX3 j) = vp_V ((fdf 3).map (cv ad)) j := by
  match j, hj with
  | 0, _ => rfl
  | 1, _ => rfl
  | 2, _ => rfl
  | 3, _ => rfl
  | 4, _ => rfl
  | 5, _ => rfl
  | 6, _ => rfl
  | 7, _ => rfl
  | 8, _ => rfl
  | j + 9, hj => exact absurd hj (by omega)
theorem cv_3 : vwCl[3]? = some (cnm 3, (tcx 3).1, (tcx 3).2) := congrArg (fun q => some (q, TX3, 9)) (show RX3 = cnm 3 by decide +kernel)
theorem coc_3 : CO 3 := ⟨TX3, 9, tyX3, cv_3, cu_3, tyX3_ok, nmX3, tm2 (List.mem_of_getElem? (i := 152) (by decide +kernel)) (by decide +kernel), tm1 (List.mem_of_getElem? (i := 12) (by decide +kernel)) (by decide +kernel), by decide +kernel, cdv_3, okd (by decide +kernel)⟩
theorem cf_4_0 : u_lay (cnm 4) TX4 0 ∈ wsu := tm1 (List.mem_of_getElem? (i := 213) (by decide +kernel)) (by decide +kernel)
theorem cf_4_1 : u_lay (cnm 4) TX4 1 ∈ wsu := tm1 (List.mem_of_getElem? (i := 215) (by decide +kernel)) (by decide +kernel)
theorem cf_4_2 : u_lay (cnm 4) TX4 2 ∈ wsu := tm1 (List.mem_of_getElem? (i := 217) (by decide +kernel)) (by decide +kernel)
theorem cf_4_3 : u_lay (cnm 4) TX4 3 ∈ wsu := tm1 (List.mem_of_getElem? (i := 219) (by decide +kernel)) (by decide +kernel)
theorem cu_4 : ∀ w ∈ u_ws (cnm 4) TX4 4, w ∈ wsu := by
  intro w hw
  obtain ⟨k, hk, rfl⟩ := List.mem_map.mp hw
  have hk := List.mem_range.mp hk
  match k, hk with
  | 0, _ => exact cf_4_0
  | 1, _ => exact cf_4_1
  | 2, _ => exact cf_4_2
  | 3, _ => exact cf_4_3
  | k + 4, hk => exact absurd hk (by omega)
theorem cdv_4 (ad : Nat → Nat) (j : Nat) (hj : j < 4) : defaultValue (tyX4 j) = vp_V ((fdf 4).map (cv ad)) j := by
  match j, hj with
  | 0, _ => rfl
  | 1, _ => rfl
  | 2, _ => rfl
  | 3, _ => rfl
  | j + 4, hj => exact absurd hj (by omega)
theorem cv_4 : vwCl[4]? = some (cnm 4, (tcx 4).1, (tcx 4).2) := congrArg (fun q => some (q, TX4, 4)) (show RX4 = cnm 4 by decide +kernel)
theorem coc_4 : CO 4 := ⟨TX4, 4, tyX4, cv_4, cu_4, tyX4_ok, nmX4, tm1 (List.mem_of_getElem? (i := 200) (by decide +kernel)) (by decide +kernel), tm1 (List.mem_of_getElem? (i := 6) (by decide +kernel)) (by decide +kernel), by decide +kernel, cdv_4, okd (by decide +kernel)⟩
theorem cf_5_0 : u_lay (cnm 5) TX5 0 ∈ wsu := tm2 (List.mem_of_getElem? (i := 81) (by decide +kernel)) (by decide +kernel)
theorem cf_5_1 : u_lay (cnm 5) TX5 1 ∈ wsu := tm2 (List.mem_of_getElem? (i := 83) (by decide +kernel)) (by decide +kernel)
theorem cu_5 : ∀ w ∈ u_ws (cnm 5) TX5 2, w ∈ wsu := by
  intro w hw
  obtain ⟨k, hk, rfl⟩ := List.mem_map.mp hw
  have hk := List.mem_range.mp hk
  match k, hk with
  | 0, _ => exact cf_5_0
  | 1, _ => exact cf_5_1
  | k + 2, hk => exact absurd hk (by omega)
theorem cdv_5 (ad : Nat → Nat) (j : Nat) (hj : j < 2) : defaultValue (tyX5 j) = vp_V ((fdf 5).map (cv ad)) j := by
  match j, hj with
  | 0, _ => rfl
  | 1, _ => rfl
  | j + 2, hj => exact absurd hj (by omega)
theorem cv_5 : vwCl[5]? = some (cnm 5, (tcx 5).1, (tcx 5).2) := congrArg (fun q => some (q, TX5, 2)) (show RX5 = cnm 5 by decide +kernel)
theorem coc_5 : CO 5 := ⟨TX5, 2, tyX5, cv_5, cu_5, tyX5_ok, nmX5, tm2 (List.mem_of_getElem? (i := 72) (by decide +kernel)) (by decide +kernel), tm1 (List.mem_of_getElem? (i := 9) (by decide +kernel)) (by decide +kernel), by decide +kernel, cdv_5, okd (by decide +kernel)⟩
theorem cf_6_0 : u_lay (cnm 6) TX6 0 ∈ wsu := tm2 (List.mem_of_getElem? (i := 118) (by decide +kernel)) (by decide +kernel)
theorem cf_6_1 : u_lay (cnm 6) TX6 1 ∈ wsu := tm2 (List.mem_of_getElem? (i := 120) (by decide +kernel)) (by decide +kernel)
theorem cf_6_2 : u_lay (cnm 6) TX6 2 ∈ wsu := tm2 (List.mem_of_getElem? (i := 122) (by decide +kernel)) (by decide +kernel)
theorem cf_6_3 : u_lay (cnm 6) TX6 3 ∈ wsu := tm2 (List.mem_of_getElem? (i := 124) (by decide +kernel)) (by decide +kernel)
theorem cf_6_4 : u_lay (cnm 6) TX6 4 ∈ wsu := tm2 (List.mem_of_getElem? (i := 126) (by decide +kernel)) (by decide +kernel)
theorem cu_6 : ∀ w ∈ u_ws (cnm 6) TX6 5, w ∈ wsu := by
  intro w hw
  obtain ⟨k, hk, rfl⟩ := List.mem_map.mp hw
  have hk := List.mem_range.mp hk
  match k, hk with
  | 0, _ => exact cf_6_0
  | 1, _ => exact cf_6_1
  | 2, _ => exact cf_6_2
  | 3, _ => exact cf_6_3
  | 4, _ => exact cf_6_4
  | k + 5, hk => exact absurd hk (by omega)
theorem cdv_6 (ad : Nat → Nat) (j : Nat) (hj : j < 5) : defaultValue (tyX6 j) = vp_V ((fdf 6).map (cv ad)) j := by
  match j, hj with
  | 0, _ => rfl
  | 1, _ => rfl
  | 2, _ => rfl
  | 3, _ => rfl
  | 4, _ => rfl
  | j + 5, hj => exact absurd hj (by omega)
theorem cv_6 : vwCl[6]? = some (cnm 6, (tcx 6).1, (tcx 6).2) := congrArg (fun q => some (q, TX6, 5)) (show RX6 = cnm 6 by decide +kernel)
theorem coc_6 : CO 6 := ⟨TX6, 5, tyX6, cv_6, cu_6, tyX6_ok, nmX6, tm2 (List.mem_of_getElem? (i := 94) (by decide +kernel)) (by decide +kernel), tm1 (List.mem_of_getElem? (i := 11) (by decide +kernel)) (by decide +kernel), by decide +kernel, cdv_6, okd (by decide +kernel)⟩
theorem cf_7_0 : u_lay (cnm 7) TX7 0 ∈ wsu := tm1 (List.mem_of_getElem? (i := 108) (by decide +kernel)) (by decide +kernel)
theorem cf_7_1 : u_lay (cnm 7) TX7 1 ∈ wsu := tm1 (List.mem_of_getElem? (i := 110) (by decide +kernel)) (by decide +kernel)
theorem cf_7_2 : u_lay (cnm 7) TX7 2 ∈ wsu := tm1 (List.mem_of_getElem? (i := 112) (by decide +kernel)) (by decide +kernel)
theorem cf_7_3 : u_lay (cnm 7) TX7 3 ∈ wsu := tm1 (List.mem_of_getElem? (i := 114) (by decide +kernel)) (by decide +kernel)
theorem cf_7_4 : u_lay (cnm 7) TX7 4 ∈ wsu := tm1 (List.mem_of_getElem? (i := 116) (by decide +kernel)) (by decide +kernel)
theorem cf_7_5 : u_lay (cnm 7) TX7 5 ∈ wsu := tm1 (List.mem_of_getElem? (i := 118) (by decide +kernel)) (by decide +kernel)
theorem cf_7_6 : u_lay (cnm 7) TX7 6 ∈ wsu := tm1 (List.mem_of_getElem? (i := 120) (by decide +kernel)) (by decide +kernel)
theorem cf_7_7 : u_lay (cnm 7) TX7 7 ∈ wsu := tm1 (List.mem_of_getElem? (i := 122) (by decide +kernel)) (by decide +kernel)
theorem cu_7 : ∀ w ∈ u_ws (cnm 7) TX7 8, w ∈ wsu := by
  intro w hw
  obtain ⟨k, hk, rfl⟩ := List.mem_map.mp hw
  have hk := List.mem_range.mp hk
  match k, hk with
  | 0, _ => exact cf_7_0
  | 1, _ => exact cf_7_1
  | 2, _ => exact cf_7_2
  | 3, _ => exact cf_7_3
  | 4, _ => exact cf_7_4
  | 5, _ => exact cf_7_5
  | 6, _ => exact cf_7_6
  | 7, _ => exact cf_7_7
  | k + 8, hk => exact absurd hk (by omega)
theorem cdv_7 (ad : Nat → Nat) (j : Nat) (hj : j < 8) : defaultValue (tyX7 j) = vp_V ((fdf 7).map (cv ad)) j := by
  match j, hj with
  | 0, _ => rfl
  | 1, _ => rfl
  | 2, _ => rfl
  | 3, _ => rfl
  | 4, _ => rfl
  | 5, _ => rfl
  | 6, _ => rfl
  | 7, _ => rfl
  | j + 8, hj => exact absurd hj (by omega)
theorem cv_7 : vwCl[7]? = some (cnm 7, (tcx 7).1, (tcx 7).2) := congrArg (fun q => some (q, TX7, 8)) (show RX7 = cnm 7 by decide +kernel)
theorem coc_7 : CO 7 := ⟨TX7, 8, tyX7, cv_7, cu_7, tyX7_ok, nmX7, tm1 (List.mem_of_getElem? (i := 80) (by decide +kernel)) (by decide +kernel), tm1 (List.mem_of_getElem? (i := 5) (by decide +kernel)) (by decide +kernel), by decide +kernel, cdv_7, okd (by decide +kernel)⟩
theorem cf_8_0 : u_lay (cnm 8) TX8 0 ∈ wsu := tm2 (List.mem_of_getElem? (i := 7) (by decide +kernel)) (by decide +kernel)
theorem cf_8_1 : u_lay (cnm 8) TX8 1 ∈ wsu := tm2 (List.mem_of_getElem? (i := 9) (by decide +kernel)) (by decide +kernel)
theorem cf_8_2 : u_lay (cnm 8) TX8 2 ∈ wsu := tm2 (List.mem_of_getElem? (i := 11) (by decide +kernel)) (by decide +kernel)
theorem cf_8_3 : u_lay (cnm 8) TX8 3 ∈ wsu := tm2 (List.mem_of_getElem? (i := 13) (by decide +kernel)) (by decide +kernel)
theorem cf_8_4 : u_lay (cnm 8) TX8 4 ∈ wsu := tm2 (List.mem_of_getElem? (i := 15) (by decide +kernel)) (by decide +kernel)
theorem cf_8_5 : u_lay (cnm 8) TX8 5 ∈ wsu := tm2 (List.mem_of_getElem? (i := 17) (by decide +kernel)) (by decide +kernel)
theorem cu_8 : ∀ w ∈ u_ws (cnm 8) TX8 6, w ∈ wsu := by
  intro w hw
  obtain ⟨k, hk, rfl⟩ := List.mem_map.mp hw
  have hk := List.mem_range.mp hk
  match k, hk with
  | 0, _ => exact cf_8_0
  | 1, _ => exact cf_8_1
  | 2, _ => exact cf_8_2
  | 3, _ => exact cf_8_3
  | 4, _ => exact cf_8_4
  | 5, _ => exact cf_8_5
  | k + 6, hk => exact absurd hk (by omega)
theorem cdv_8 (ad : Nat → Nat) (j : Nat) (hj : j < 6) : defaultValue (tyX8 j) = vp_V ((fdf 8).map (cv ad)) j := by
  match j, hj with
  | 0, _ => rfl
  | 1, _ => rfl
  | 2, _ => rfl
  | 3, _ => rfl
  | 4, _ => rfl
  | 5, _ => rfl
  | j + 6, hj => exact absurd hj (by omega)
theorem cv_8 : vwCl[8]? = some (cnm 8, (tcx 8).1, (tcx 8).2) := congrArg (fun q => some (q, TX8, 6)) (show RX8 = cnm 8 by decide +kernel)
theorem coc_8 : CO 8 := ⟨TX8, 6, tyX8, cv_8, cu_8, tyX8_ok, nmX8, tm1 (List.mem_of_getElem? (i := 233) (by decide +kernel)) (by decide +kernel), tm1 (List.mem_of_getElem? (i := 8) (by decide +kernel)) (by decide +kernel), by decide +kernel, cdv_8, okd (by decide +kernel)⟩
theorem cf_9_0 : u_lay (cnm 9) TX9 0 ∈ wsu := tm2 (List.mem_of_getElem? (i := 38) (by decide +kernel)) (by decide +kernel)
theorem cf_9_1 : u_lay (cnm 9) TX9 1 ∈ wsu := tm2 (List.mem_of_getElem? (i := 40) (by decide +kernel)) (by decide +kernel)
theorem cf_9_2 : u_lay (cnm 9) TX9 2 ∈ wsu := tm2 (List.mem_of_getElem? (i := 42) (by decide +kernel)) (by decide +kernel)
theorem cf_9_3 : u_lay (cnm 9) TX9 3 ∈ wsu := tm2 (List.mem_of_getElem? (i := 44) (by decide +kernel)) (by decide +kernel)
theorem cf_9_4 : u_lay (cnm 9) TX9 4 ∈ wsu := tm2 (List.mem_of_getElem? (i := 46) (by decide +kernel)) (by decide +kernel)
theorem cf_9_5 : u_lay (cnm 9) TX9 5 ∈ wsu := tm2 (List.mem_of_getElem? (i := 48) (by decide +kernel)) (by decide +kernel)
theorem cf_9_6 : u_lay (cnm 9) TX9 6 ∈ wsu := tm2 (List.mem_of_getElem? (i := 50) (by decide +kernel)) (by decide +kernel)
theorem cf_9_7 : u_lay (cnm 9) TX9 7 ∈ wsu := tm2 (List.mem_of_getElem? (i := 52) (by decide +kernel)) (by decide +kernel)
theorem cf_9_8 : u_lay (cnm 9) TX9 8 ∈ wsu := tm2 (List.mem_of_getElem? (i := 54) (by decide +kernel)) (by decide +kernel)
theorem cf_9_9 : u_lay (cnm 9) TX9 9 ∈ wsu := tm2 (List.mem_of_getElem? (i := 56) (by decide +kernel)) (by decide +kernel)
theorem cf_9_10 : u_lay (cnm 9) TX9 10 ∈ wsu := tm2 (List.mem_of_getElem? (i := 58) (by decide +kernel)) (by decide +kernel)
theorem cf_9_11 : u_lay (cnm 9) TX9 11 ∈ wsu := tm2 (List.mem_of_getElem? (i := 60) (by decide +kernel)) (by decide +kernel)
theorem cf_9_12 : u_lay (cnm 9) TX9 12 ∈ wsu := tm2 (List.mem_of_getElem? (i := 62) (by decide +kernel)) (by decide +kernel)
theorem cf_9_13 : u_lay (cnm 9) TX9 13 ∈ wsu := tm2 (List.mem_of_getElem? (i := 64) (by decide +kernel)) (by decide +kernel)
theorem cf_9_14 : u_lay (cnm 9) TX9 14 ∈ wsu := tm2 (List.mem_of_getElem? (i := 66) (by decide +kernel)) (by decide +kernel)
theorem cf_9_15 : u_lay (cnm 9) TX9 15 ∈ wsu := tm2 (List.mem_of_getElem? (i := 68) (by decide +kernel)) (by decide +kernel)
theorem cu_9 : ∀ w ∈ u_ws (cnm 9) TX9 16, w ∈ wsu := by
  intro w hw
  obtain ⟨k, hk, rfl⟩ := List.mem_map.mp hw
  have hk := List.mem_range.mp hk
  match k, hk with
  | 0, _ => exact cf_9_0
  | 1, _ => exact cf_9_1
  | 2, _ => exact cf_9_2
  | 3, _ => exact cf_9_3
  | 4, _ => exact cf_9_4
  | 5, _ => exact cf_9_5
  | 6, _ => exact cf_9_6
  | 7, _ => exact cf_9_7
  | 8, _ => exact cf_9_8
  | 9, _ => exact cf_9_9
  | 10, _ => exact cf_9_10
  | 11, _ => exact cf_9_11
  | 12, _ => exact cf_9_12
  | 13, _ => exact cf_9_13
  | 14, _ => exact cf_9_14
  | 15, _ => exact cf_9_15
  | k + 16, hk => exact absurd hk (by omega)
theorem cdv_9 (ad : Nat → Nat) (j : Nat) (hj : j < 16) : defaultValue (tyX9 j) = vp_V ((fdf 9).map (cv ad)) j := by
  match j, hj with
  | 0, _ => rfl
  | 1, _ => rfl
  | 2, _ => rfl
  | 3, _ => rfl
  | 4, _ => rfl
  | 5, _ => rfl
  | 6, _ => rfl
  | 7, _ => rfl
  | 8, _ => rfl
  | 9, _ => rfl
  | 10, _ => rfl
  | 11, _ => rfl
  | 12, _ => rfl
  | 13, _ => rfl
  | 14, _ => rfl
  | 15, _ => rfl
  | j + 16, hj => exact absurd hj (by omega)
theorem cv_9 : vwCl[9]? = some (cnm 9, (tcx 9).1, (tcx 9).2) := congrArg (fun q => some (q, TX9, 16)) (show RX9 = cnm 9 by decide +kernel)
theorem coc_9 : CO 9 := ⟨TX9, 16, tyX9, cv_9, cu_9, tyX9_ok, nmX9, tm1 (List.mem_of_getElem? (i := 227) (by decide +kernel)) (by decide +kernel), tm1 (List.mem_of_getElem? (i := 7) (by decide +kernel)) (by decide +kernel), by decide +kernel, cdv_9, okd (by decide +kernel)⟩
theorem cf_10_0 : u_lay (cnm 10) TX10 0 ∈ wsu := tm2 (List.mem_of_getElem? (i := 136) (by decide +kernel)) (by decide +kernel)
theorem cf_10_1 : u_lay (cnm 10) TX10 1 ∈ wsu := tm2 (List.mem_of_getElem? (i := 138) (by decide +kernel)) (by decide +kernel)
theorem cf_10_2 : u_lay (cnm 10) TX10 2 ∈ wsu := tm2 (List.mem_of_getElem? (i := 140) (by decide +kernel)) (by decide +kernel)
theorem cf_10_3 : u_lay (cnm 10) TX10 3 ∈ wsu := tm2 (List.mem_of_getElem? (i := 142) (by decide +kernel)) (by decide +kernel)
theorem cf_10_4 : u_lay (cnm 10) TX10 4 ∈ wsu := tm2 (List.mem_of_getElem? (i := 144) (by decide +kernel)) (by decide +kernel)
theorem cf_10_5 : u_lay (cnm 10) TX10 5 ∈ wsu := tm2 (List.mem_of_getElem? (i := 146) (by decide +kernel)) (by decide +kernel)
theorem cf_10_6 : u_lay (cnm 10) TX10 6 ∈ wsu := tm2 (List.mem_of_getElem? (i := 148) (by decide +kernel)) (by decide +kernel)
theorem cu_10 : ∀ w ∈ u_ws (cnm 10) TX10 7, w ∈ wsu := by
  intro w hw
  obtain ⟨k, hk, rfl⟩ := List.mem_map.mp hw
  have hk := List.mem_range.mp hk
  match k, hk with
  | 0, _ => exact cf_10_0
  | 1, _ => exact cf_10_1
  | 2, _ => exact cf_10_2
  | 3, _ => exact cf_10_3
  | 4, _ => exact cf_10_4
  | 5, _ => exact cf_10_5
  | 6, _ => exact cf_10_6
  | k + 7, hk => exact absurd hk (by omega)
theorem cdv_10 (ad : Nat → Nat) (j : Nat) (hj : j < 7) : defaultValue (tyX10 j) = vp_V ((fdf 10).map (cv ad)) j := by
  match j, hj with
  | 0, _ => rfl
  | 1, _ => rfl
  | 2, _ => rfl
  | 3, _ => rfl
  | 4, _ => rfl
  | 5, _ => rfl
  | 6, _ => rfl
  | j + 7, hj => exact absurd hj (by omega)
theorem cv_10 : vwCl[10]? = some (cnm 10, (tcx 10).1, (tcx 10).2) := congrArg (fun q => some (q, TX10, 7)) (show RX10 = cnm 10 by decide +kernel)
theorem coc_10 : CO 10 := ⟨TX10, 7, tyX10, cv_10, cu_10, tyX10_ok, nmX10, tm2 (List.mem_of_getElem? (i := 88) (by decide +kernel)) (by decide +kernel), tm1 (List.mem_of_getElem? (i := 10) (by decide +kernel)) (by decide +kernel), by decide +kernel, cdv_10, okd (by decide +kernel)⟩
theorem cf_11_0 : u_lay (cnm 11) TX11 0 ∈ wsu := tm2 (List.mem_of_getElem? (i := 220) (by decide +kernel)) (by decide +kernel)
theorem cf_11_1 : u_lay (cnm 11) TX11 1 ∈ wsu := tm2 (List.mem_of_getElem? (i := 222) (by decide +kernel)) (by decide +kernel)
theorem cf_11_2 : u_lay (cnm 11) TX11 2 ∈ wsu := tm2 (List.mem_of_getElem? (i := 224) (by decide +kernel)) (by decide +kernel)
theorem cf_11_3 : u_lay (cnm 11) TX11 3 ∈ wsu := tm2 (List.mem_of_getElem? (i := 226) (by decide +kernel)) (by decide +kernel)
theorem cf_11_4 : u_lay (cnm 11) TX11 4 ∈ wsu := tm2 (List.mem_of_getElem? (i := 228) (by decide +kernel)) (by decide +kernel)
theorem cf_11_5 : u_lay (cnm 11) TX11 5 ∈ wsu := tm2 (List.mem_of_getElem? (i := 230) (by decide +kernel)) (by decide +kernel)
theorem cf_11_6 : u_lay (cnm 11) TX11 6 ∈ wsu := tm2 (List.mem_of_getElem? (i := 232) (by decide +kernel)) (by decide +kernel)
theorem cf_11_7 : u_lay (cnm 11) TX11 7 ∈ wsu := tm2 (List.mem_of_getElem? (i := 234) (by decide +kernel)) (by decide +kernel)
theorem cf_11_8 : u_lay (cnm 11) TX11 8 ∈ wsu := tm2 (List.mem_of_getElem? (i := 236) (by decide +kernel)) (by decide +kernel)
theorem cf_11_9 : u_lay (cnm 11) TX11 9 ∈ wsu := tm2 (List.mem_of_getElem? (i := 238) (by decide +kernel)) (by decide +kernel)
theorem cf_11_10 : u_lay (cnm 11) TX11 10 ∈ wsu := tm3 (List.mem_of_getElem? (i := 0) (by decide +kernel)) (by decide +kernel)
theorem cf_11_11 : u_lay (cnm 11) TX11 11 ∈ wsu := tm3 (List.mem_of_getElem? (i := 2) (by decide +kernel)) (by decide +kernel)
theorem cf_11_12 : u_lay (cnm 11) TX11 12 ∈ wsu := tm3 (List.mem_of_getElem? (i := 4) (by decide +kernel)) (by decide +kernel)
theorem cf_11_13 : u_lay (cnm 11) TX11 13 ∈ wsu := tm3 (List.mem_of_getElem? (i := 6) (by decide +kernel)) (by decide +kernel)
theorem cf_11_14 : u_lay (cnm 11) TX11 14 ∈ wsu := tm3 (List.mem_of_getElem? (i := 8) (by decide +kernel)) (by decide +kernel)
theorem cf_11_15 : u_lay (cnm 11) TX11 15 ∈ wsu := tm3 (List.mem_of_getElem? (i := 10) (by decide +kernel)) (by decide +kernel)
theorem cf_11_16 : u_lay (cnm 11) TX11 16 ∈ wsu := tm3 (List.mem_of_getElem? (i := 12) (by decide +kernel)) (by decide +kernel)
theorem cf_11_17 : u_lay (cnm 11) TX11 17 ∈ wsu := tm3 (List.mem_of_getElem? (i := 14) (by decide +kernel)) (by decide +kernel)
theorem cu_11 : ∀ w ∈ u_ws (cnm 11) TX11 18, w ∈ wsu := by
  intro w hw
  obtain ⟨k, hk, rfl⟩ := List.mem_map.mp hw
  have hk := List.mem_range.mp hk
  match k, hk with
  | 0, _ => exact cf_11_0
  | 1, _ => exact cf_11_1
  | 2, _ => exact cf_11_2
  | 3, _ => exact cf_11_3
  | 4, _ => exact cf_11_4
  | 5, _ => exact cf_11_5
  | 6, _ => exact cf_11_6
  | 7, _ => exact cf_11_7
  | 8, _ => exact cf_11_8
  | 9, _ => exact cf_11_9
  | 10, _ => exact cf_11_10
  | 11, _ => exact cf_11_11
  | 12, _ => exact cf_11_12
  | 13, _ => exact cf_11_13
  | 14, _ => exact cf_11_14
  | 15, _ => exact cf_11_15
  | 16, _ => exact cf_11_16
  | 17, _ => exact cf_11_17
  | k + 18, hk => exact absurd hk (by omega)
theorem cdv_11 (ad : Nat → Nat) (j : Nat) (hj : j < 18) : defaultValue (tyX11 j) = vp_V ((fdf 11).map (cv ad)) j := by
  match j, hj with
  | 0, _ => rfl
  | 1, _ => rfl
  | 2, _ => rfl
  | 3, _ => rfl
  | 4, _ => rfl
  | 5, _ => rfl
  | 6, _ => rfl
  | 7, _ => rfl
  | 8, _ => rfl
  | 9, _ => rfl
  | 10, _ => rfl
  | 11, _ => rfl
  | 12, _ => rfl
  | 13, _ => rfl
  | 14, _ => rfl
  | 15, _ => rfl
  | 16, _ => rfl
  | 17, _ => rfl
  | j + 18, hj => exact absurd hj (by omega)
theorem cv_11 : vwCl[11]? = some (cnm 11, (tcx 11).1, (tcx 11).2) := congrArg (fun q => some (q, TX11, 18)) (show RX11 = cnm 11 by decide +kernel)
theorem coc_11 : CO 11 := ⟨TX11, 18, tyX11, cv_11, cu_11, tyX11_ok, nmX11, tm1 (List.mem_of_getElem? (i := 24) (by decide +kernel)) (by decide +kernel), tm1 (List.mem_of_getElem? (i := 1) (by decide +kernel)) (by decide +kernel), by decide +kernel, cdv_11, okd (by decide +kernel)⟩
theorem cf_12_0 : u_lay (cnm 12) TX12 0 ∈ wsu := tm6 (List.mem_of_getElem? (i := 86) (by decide +kernel)) (by decide +kernel)
theorem cf_12_1 : u_lay (cnm 12) TX12 1 ∈ wsu := tm6 (List.mem_of_getElem? (i := 88) (by decide +kernel)) (by decide +kernel)
theorem cf_12_2 : u_lay (cnm 12) TX12 2 ∈ wsu := tm6 (List.mem_of_getElem? (i := 90) (by decide +kernel)) (by decide +kernel)
theorem cf_12_3 : u_lay (cnm 12) TX12 3 ∈ wsu := tm6 (List.mem_of_getElem? (i := 92) (by decide +kernel)) (by decide +kernel)
theorem cf_12_4 : u_lay (cnm 12) TX12 4 ∈ wsu := tm6 (List.mem_of_getElem? (i := 94) (by decide +kernel)) (by decide +kernel)
theorem cf_12_5 : u_lay (cnm 12) TX12 5 ∈ wsu := tm6 (List.mem_of_getElem? (i := 96) (by decide +kernel)) (by decide +kernel)
theorem cf_12_6 : u_lay (cnm 12) TX12 6 ∈ wsu := tm6 (List.mem_of_getElem? (i := 98) (by decide +kernel)) (by decide +kernel)
theorem cf_12_7 : u_lay (cnm 12) TX12 7 ∈ wsu := tm6 (List.mem_of_getElem? (i := 100) (by decide +kernel)) (by decide +kernel)
theorem cf_12_8 : u_lay (cnm 12) TX12 8 ∈ wsu := tm6 (List.mem_of_getElem? (i := 102) (by decide +kernel)) (by decide +kernel)
theorem cf_12_9 : u_lay (cnm 12) TX12 9 ∈ wsu := tm6 (List.mem_of_getElem? (i := 104) (by decide +kernel)) (by decide +kernel)
theorem cf_12_10 : u_lay (cnm 12) TX12 10 ∈ wsu := tm6 (List.mem_of_getElem? (i := 106) (by decide +kernel)) (by decide +kernel)
theorem cf_12_11 : u_lay (cnm 12) TX12 11 ∈ wsu := tm6 (List.mem_of_getElem? (i := 108) (by decide +kernel)) (by decide +kernel)
theorem cf_12_12 : u_lay (cnm 12) TX12 12 ∈ wsu := tm6 (List.mem_of_getElem? (i := 110) (by decide +kernel)) (by decide +kernel)
theorem cf_12_13 : u_lay (cnm 12) TX12 13 ∈ wsu := tm6 (List.mem_of_getElem? (i := 112) (by decide +kernel)) (by decide +kernel)
theorem cf_12_14 : u_lay (cnm 12) TX12 14 ∈ wsu := tm6 (List.mem_of_getElem? (i := 114) (by decide +kernel)) (by decide +kernel)
theorem cf_12_15 : u_lay (cnm 12) TX12 15 ∈ wsu := tm6 (List.mem_of_getElem? (i := 116) (by decide +kernel)) (by decide +kernel)
theorem cf_12_16 : u_lay (cnm 12) TX12 16 ∈ wsu := tm6 (List.mem_of_getElem? (i := 118) (by decide +kernel)) (by decide +kernel)
theorem cf_12_17 : u_lay (cnm 12) TX12 17 ∈ wsu := tm6 (List.mem_of_getElem? (i := 120) (by decide +kernel)) (by decide +kernel)
theorem cf_12_18 : u_lay (cnm 12) TX12 18 ∈ wsu := tm6 (List.mem_of_getElem? (i := 122) (by decide +kernel)) (by decide +kernel)
theorem cf_12_19 : u_lay (cnm 12) TX12 19 ∈ wsu := tm6 (List.mem_of_getElem? (i := 124) (by decide +kernel)) (by decide +kernel)
theorem cf_12_20 : u_lay (cnm 12) TX12 20 ∈ wsu := tm6 (List.mem_of_getElem? (i := 126) (by decide +kernel)) (by decide +kernel)
theorem cf_12_21 : u_lay (cnm 12) TX12 21 ∈ wsu := tm6 (List.mem_of_getElem? (i := 128) (by decide +kernel)) (by decide +kernel)
theorem cf_12_22 : u_lay (cnm 12) TX12 22 ∈ wsu := tm6 (List.mem_of_getElem? (i := 130) (by decide +kernel)) (by decide +kernel)
theorem cf_12_23 : u_lay (cnm 12) TX12 23 ∈ wsu := tm6 (List.mem_of_getElem? (i := 132) (by decide +kernel)) (by decide +kernel)
theorem cf_12_24 : u_lay (cnm 12) TX12 24 ∈ wsu := tm6 (List.mem_of_getElem? (i := 134) (by decide +kernel)) (by decide +kernel)
theorem cf_12_25 : u_lay (cnm 12) TX12 25 ∈ wsu := tm6 (List.mem_of_getElem? (i := 136) (by decide +kernel)) (by decide +kernel)
theorem cf_12_26 : u_lay (cnm 12) TX12 26 ∈ wsu := tm6 (List.mem_of_getElem? (i := 138) (by decide +kernel)) (by decide +kernel)
theorem cf_12_27 : u_lay (cnm 12) TX12 27 ∈ wsu := tm6 (List.mem_of_getElem? (i := 140) (by decide +kernel)) (by decide +kernel)
theorem cf_12_28 : u_lay (cnm 12) TX12 28 ∈ wsu := tm6 (List.mem_of_getElem? (i := 142) (by decide +kernel)) (by decide +kernel)
theorem cf_12_29 : u_lay (cnm 12) TX12 29 ∈ wsu := tm6 (List.mem_of_getElem? (i := 144) (by decide +kernel)) (by decide +kernel)
theorem cf_12_30 : u_lay (cnm 12) TX12 30 ∈ wsu := tm6 (List.mem_of_getElem? (i := 146) (by decide +kernel)) (by decide +kernel)
theorem cf_12_31 : u_lay (cnm 12) TX12 31 ∈ wsu := tm6 (List.mem_of_getElem? (i := 148) (by decide +kernel)) (by decide +kernel)
theorem cf_12_32 : u_lay (cnm 12) TX12 32 ∈ wsu := tm6 (List.mem_of_getElem? (i := 150) (by decide +kernel)) (by decide +kernel)
theorem cf_12_33 : u_lay (cnm 12) TX12 33 ∈ wsu := tm6 (List.mem_of_getElem? (i := 152) (by decide +kernel)) (by decide +kernel)
theorem cf_12_34 : u_lay (cnm 12) TX12 34 ∈ wsu := tm6 (List.mem_of_getElem? (i := 154) (by decide +kernel)) (by decide +kernel)
theorem cf_12_35 : u_lay (cnm 12) TX12 35 ∈ wsu := tm6 (List.mem_of_getElem? (i := 156) (by decide +kernel)) (by decide +kernel)
theorem cf_12_36 : u_lay (cnm 12) TX12 36 ∈ wsu := tm6 (List.mem_of_getElem? (i := 158) (by decide +kernel)) (by decide +kernel)
theorem cf_12_37 : u_lay (cnm 12) TX12 37 ∈ wsu := tm6 (List.mem_of_getElem? (i := 160) (by decide +kernel)) (by decide +kernel)
theorem cf_12_38 : u_lay (cnm 12) TX12 38 ∈ wsu := tm6 (List.mem_of_getElem? (i := 162) (by decide +kernel)) (by decide +kernel)
theorem cf_12_39 : u_lay (cnm 12) TX12 39 ∈ wsu := tm6 (List.mem_of_getElem? (i := 164) (by decide +kernel)) (by decide +kernel)
theorem cf_12_40 : u_lay (cnm 12) TX12 40 ∈ wsu := tm6 (List.mem_of_getElem? (i := 166) (by decide +kernel)) (by decide +kernel)
theorem cf_12_41 : u_lay (cnm 12) TX12 41 ∈ wsu := tm6 (List.mem_of_getElem? (i := 168) (by decide +kernel)) (by decide +kernel)
theorem cf_12_42 : u_lay (cnm 12) TX12 42 ∈ wsu := tm6 (List.mem_of_getElem? (i := 170) (by decide +kernel)) (by decide +kernel)
theorem cf_12_43 : u_lay (cnm 12) TX12 43 ∈ wsu := tm6 (List.mem_of_getElem? (i := 172) (by decide +kernel)) (by decide +kernel)
theorem cf_12_44 : u_lay (cnm 12) TX12 44 ∈ wsu := tm6 (List.mem_of_getElem? (i := 174) (by decide +kernel)) (by decide +kernel)
theorem cf_12_45 : u_lay (cnm 12) TX12 45 ∈ wsu := tm6 (List.mem_of_getElem? (i := 176) (by decide +kernel)) (by decide +kernel)
theorem cf_12_46 : u_lay (cnm 12) TX12 46 ∈ wsu := tm6 (List.mem_of_getElem? (i := 178) (by decide +kernel)) (by decide +kernel)
theorem cf_12_47 : u_lay (cnm 12) TX12 47 ∈ wsu := tm6 (List.mem_of_getElem? (i := 180) (by decide +kernel)) (by decide +kernel)
theorem cf_12_48 : u_lay (cnm 12) TX12 48 ∈ wsu := tm6 (List.mem_of_getElem? (i := 182) (by decide +kernel)) (by decide +kernel)
theorem cf_12_49 : u_lay (cnm 12) TX12 49 ∈ wsu := tm6 (List.mem_of_getElem? (i := 184) (by decide +kernel)) (by decide +kernel)
theorem cf_12_50 : u_lay (cnm 12) TX12 50 ∈ wsu := tm6 (List.mem_of_getElem? (i := 186) (by decide +kernel)) (by decide +kernel)
theorem cf_12_51 : u_lay (cnm 12) TX12 51 ∈ wsu := tm6 (List.mem_of_getElem? (i := 188) (by decide +kernel)) (by decide +kernel)
theorem cf_12_52 : u_lay (cnm 12) TX12 52 ∈ wsu := tm6 (List.mem_of_getElem? (i := 190) (by decide +kernel)) (by decide +kernel)
theorem cf_12_53 : u_lay (cnm 12) TX12 53 ∈ wsu := tm6 (List.mem_of_getElem? (i := 192) (by decide +kernel)) (by decide +kernel)
theorem cf_12_54 : u_lay (cnm 12) TX12 54 ∈ wsu := tm6 (List.mem_of_getElem? (i := 194) (by decide +kernel)) (by decide +kernel)
theorem cf_12_55 : u_lay (cnm 12) TX12 55 ∈ wsu := tm6 (List.mem_of_getElem? (i := 196) (by decide +kernel)) (by decide +kernel)
theorem cf_12_56 : u_lay (cnm 12) TX12 56 ∈ wsu := tm6 (List.mem_of_getElem? (i := 198) (by decide +kernel)) (by decide +kernel)
theorem cf_12_57 : u_lay (cnm 12) TX12 57 ∈ wsu := tm6 (List.mem_of_getElem? (i := 200) (by decide +kernel)) (by decide +kernel)
theorem cu_12 : ∀ w ∈ u_ws (cnm 12) TX12 58, w ∈ wsu := by
  intro w hw
  obtain ⟨k, hk, rfl⟩ := List.mem_map.mp hw
  have hk := List.mem_range.mp hk
  match k, hk with
  | 0, _ => exact cf_12_0
  | 1, _ => exact cf_12_1
  | 2, _ => exact cf_12_2
  | 3, _ => exact cf_12_3
  | 4, _ => exact cf_12_4
  | 5, _ => exact cf_12_5
  | 6, _ => exact cf_12_6
  | 7, _ => exact cf_12_7
  | 8, _ => exact cf_12_8
  | 9, _ => exact cf_12_9
  | 10, _ => exact cf_12_10
  | 11, _ => exact cf_12_11
  | 12, _ => exact cf_12_12
  | 13, _ => exact cf_12_13
  | 14, _ => exact cf_12_14
  | 15, _ => exact cf_12_15
  | 16, _ => exact cf_12_16
  | 17, _ => exact cf_12_17
  | 18, _ => exact cf_12_18
  | 19, _ => exact cf_12_19
  | 20, _ => exact cf_12_20
  | 21, _ => exact cf_12_21
  | 22, _ => exact cf_12_22
  | 23, _ => exact cf_12_23
  | 24, _ => exact cf_12_24
  | 25, _ => exact cf_12_25
  | 26, _ => exact cf_12_26
  | 27, _ => exact cf_12_27
  | 28, _ => exact cf_12_28
  | 29, _ => exact cf_12_29
  | 30, _ => exact cf_12_30
  | 31, _ => exact cf_12_31
  | 32, _ => exact cf_12_32
  | 33, _ => exact cf_12_33
  | 34, _ => exact cf_12_34
  | 35, _ => exact cf_12_35
  | 36, _ => exact cf_12_36
  | 37, _ => exact cf_12_37
  | 38, _ => exact cf_12_38
  | 39, _ => exact cf_12_39
  | 40, _ => exact cf_12_40
  | 41, _ => exact cf_12_41
  | 42, _ => exact cf_12_42
  | 43, _ => exact cf_12_43
  | 44, _ => exact cf_12_44
  | 45, _ => exact cf_12_45
  | 46, _ => exact cf_12_46
  | 47, _ => exact cf_12_47
  | 48, _ => exact cf_12_48
  | 49, _ => exact cf_12_49
  | 50, _ => exact cf_12_50
  | 51, _ => exact cf_12_51
  | 52, _ => exact cf_12_52
  | 53, _ => exact cf_12_53
  | 54, _ => exact cf_12_54
  | 55, _ => exact cf_12_55
  | 56, _ => exact cf_12_56
  | 57, _ => exact cf_12_57
  | k + 58, hk => exact absurd hk (by omega)
theorem cdv_12 (ad : Nat → Nat) (j : Nat) (hj : j < 58) : defaultValue (tyX12 j) = vp_V ((fdf 12).map (cv ad)) j := by
  match j, hj with
  | 0, _ => rfl
  | 1, _ => rfl
  | 2, _ => rfl
  | 3, _ => rfl
  | 4, _ => rfl
  | 5, _ => rfl
  | 6, _ => rfl
  | 7, _ => rfl
  | 8, _ => rfl
  | 9, _ => rfl
  | 10, _ => rfl
  | 11, _ => rfl
  | 12, _ => rfl
  | 13, _ => rfl
  | 14, _ => rfl
  | 15, _ => rfl
  | 16, _ => rfl
  | 17, _ => rfl
  | 18, _ => rfl
  | 19, _ => rfl
  | 20, _ => rfl
  | 21, _ => rfl
  | 22, _ => rfl
  | 23, _ => rfl
  | 24, _ => rfl
  | 25, _ => rfl
  | 26, _ => rfl
  | 27, _ => rfl
  | 28, _ => rfl
  | 29, _ => rfl
  | 30, _ => rfl
  | 31, _ => rfl
  | 32, _ => rfl
  | 33, _ => rfl
  | 34, _ => rfl
  | 35, _ => rfl
  | 36, _ => rfl
  | 37, _ => rfl
  | 38, _ => rfl
  | 39, _ => rfl
  | 40, _ => rfl
  | 41, _ => rfl
  | 42, _ => rfl
  | 43, _ => rfl
  | 44, _ => rfl
  | 45, _ => rfl
  | 46, _ => rfl
  | 47, _ => rfl
  | 48, _ => rfl
  | 49, _ => rfl
  | 50, _ => rfl
  | 51, _ => rfl
  | 52, _ => rfl
  | 53, _ => rfl
  | 54, _ => rfl
  | 55, _ => rfl
  | 56, _ => rfl
  | 57, _ => rfl
  | j + 58, hj => exact absurd hj (by omega)
theorem cv_12 : vwCl[12]? = some (cnm 12, (tcx 12).1, (tcx 12).2) := congrArg (fun q => some (q, TX12, 58)) (show RX12 = cnm 12 by decide +kernel)
theorem coc_12 : CO 12 := ⟨TX12, 58, tyX12, cv_12, cu_12, tyX12_ok, nmX12, tm6 (List.mem_of_getElem? (i := 24) (by decide +kernel)) (by decide +kernel), tm1 (List.mem_of_getElem? (i := 14) (by decide +kernel)) (by decide +kernel), by decide +kernel, cdv_12, okd (by decide +kernel)⟩
theorem co_all (c : Nat) (h : c < 13) : CO c ∧ vwCl[c]? = some (cnm c, (tcx c).1, (tcx c).2) := by
  match c, h with
  | 0, _ => exact ⟨coc_0, cv_0⟩
  | 1, _ => exact ⟨coc_1, cv_1⟩
  | 2, _ => exact ⟨coc_2, cv_2⟩
  | 3, _ => exact ⟨coc_3, cv_3⟩
  | 4, _ => exact ⟨coc_4, cv_4⟩
  | 5, _ => exact ⟨coc_5, cv_5⟩
  | 6, _ => exact ⟨coc_6, cv_6⟩
  | 7, _ => exact ⟨coc_7, cv_7⟩
  | 8, _ => exact ⟨coc_8, cv_8⟩
  | 9, _ => exact ⟨coc_9, cv_9⟩
  | 10, _ => exact ⟨coc_10, cv_10⟩
  | 11, _ => exact ⟨coc_11, cv_11⟩
  | 12, _ => exact ⟨coc_12, cv_12⟩
  | c + 13, h => exact absurd h (by omega)
def fkz : String → Int
  | "I" => 0
  | "Z" => 1
  | "B" => 4
  | "J" => 3
  | _ => 2
def fkc (d : String) : Bool := match fkz d, parseFieldDescriptor d with
  | 0, some .int => true
  | 1, some .boolean => true
  | 2, some (.object _) => true
  | 2, some (.array _) => true
  | 3, _ => true
  | 4, _ => true
  | _, _ => false
def cfk (c : Nat) : Bool := (List.range (tcx c).2).all (fun k => fkc ((tcx c).1 k).2.2.1 && ((tcx c).1 k).1 == cnm c)
theorem cfk_all : (List.range 13).all cfk = true := by decide +kernel
theorem cfk_at {c k : Nat} (hc : c < 13) (hk : k < (tcx c).2) : fkc ((tcx c).1 k).2.2.1 = true ∧ ((tcx c).1 k).1 = cnm c := by
  have h := List.all_eq_true.mp (List.all_eq_true.mp cfk_all c (List.mem_range.mpr hc)) k (List.mem_range.mpr hk)
  rw [Bool.and_eq_true, beq_iff_eq] at h
  exact h
theorem put_ok {d : String} (h : fkc d = true) {v : AV} (hv : (fkz d = 0 ∧ ∃ x, v = vi x) ∨ (fkz d = 1 ∧ ∃ x, v = vi x ∧ (x = 0 ∨ x = 1)) ∨ (fkz d = 2 ∧ ∃ r, v = vo r)) : ∀ ty, parseFieldDescriptor d = some ty → ∀ ad : Nat → Nat, narrow ty (cv ad v) = cv ad v ∧ fits ty (cv ad v) = true := by
  intro ty hty ad
  unfold fkc at h
  rw [hty] at h
  rcases hv with ⟨e, x, rfl⟩ | ⟨e, x, rfl, hx⟩ | ⟨e, r, rfl⟩ <;> rw [e] at h <;> cases ty <;> first | (cases h; done) | skip
  · exact ⟨rfl, rfl⟩
  · rcases hx with rfl | rfl
    · exact ⟨(by decide : narrow .boolean (.int (Int32.ofInt 0)) = .int (Int32.ofInt 0)), (by decide : fits .boolean (.int (Int32.ofInt 0)) = true)⟩
    · exact ⟨(by decide : narrow .boolean (.int (Int32.ofInt 1)) = .int (Int32.ofInt 1)), (by decide : fits .boolean (.int (Int32.ofInt 1)) = true)⟩
  · cases r <;> exact ⟨rfl, rfl⟩
  · cases r <;> exact ⟨rfl, rfl⟩
theorem nar_b {z : Int} (h : -128 ≤ z ∧ z < 128) : narrow .byte (.int (Int32.ofInt z)) = .int (Int32.ofInt z) := by
  show Value.int ((Int32.ofInt z).toInt8.toInt32) = _
  rw [i2b_o (by unfold in32; omega), show (z + 128) % 256 - 128 = z by omega]
theorem nar_z {z : Int} (h : z = 0 ∨ z = 1) : narrow .boolean (.int (Int32.ofInt z)) = .int (Int32.ofInt z) := by
  rcases h with rfl | rfl <;> decide
theorem nar_c {z : Int} (h : 0 ≤ z ∧ z < 65536) : narrow .char (.int (Int32.ofInt z)) = .int (Int32.ofInt z) := by
  have e := i2c_o (a := z) (by unfold in32; omega)
  rw [show z % 65536 = z by omega] at e
  show Value.int ((Int32.ofInt z).toUInt32.toUInt16.toUInt32.toInt32) = _
  rw [UInt32.toUInt32_toUInt16]
  exact congrArg Value.int e
theorem wd_ai : Cond.arrayClass .int ∈ wsu := tm1 (List.mem_of_getElem? (i := 72) (by decide +kernel)) (by decide +kernel)
theorem wd_ab : Cond.arrayClass .byte ∈ wsu := tm2 (List.mem_of_getElem? (i := 20) (by decide +kernel)) (by decide +kernel)
theorem wd_az : Cond.arrayClass .boolean ∈ wsu := tm2 (List.mem_of_getElem? (i := 191) (by decide +kernel)) (by decide +kernel)
theorem wd_al : Cond.arrayClass .long ∈ wsu := tm2 (List.mem_of_getElem? (i := 86) (by decide +kernel)) (by decide +kernel)
theorem wd_c1 : Cond.sameMethod "[I" "java/lang/Object" "clone" "()Ljava/lang/Object;" ∈ wsu := tm2 (List.mem_of_getElem? (i := 98) (by decide +kernel)) (by decide +kernel)
theorem wd_c2 : Cond.native ⟨"java/lang/Object", "clone", "()Ljava/lang/Object;"⟩ ∈ wsu := tm2 (List.mem_of_getElem? (i := 99) (by decide +kernel)) (by decide +kernel)
theorem wd_c3 : Cond.instanceMethod ⟨"java/lang/Object", "clone", "()Ljava/lang/Object;"⟩ ∈ wsu := tm2 (List.mem_of_getElem? (i := 100) (by decide +kernel)) (by decide +kernel)
theorem wd_c4 : Cond.selects "[I" ⟨"[I", "clone", "()Ljava/lang/Object;"⟩ ⟨"java/lang/Object", "clone", "()Ljava/lang/Object;"⟩ ∈ wsu := tm2 (List.mem_of_getElem? (i := 101) (by decide +kernel)) (by decide +kernel)
theorem wd_y1 : Cond.native arraycopyName ∈ wsu := tm4 (List.mem_of_getElem? (i := 181) (by decide +kernel)) (by decide +kernel)
theorem wd_y2 : Cond.static arraycopyName ∈ wsu := tm4 (List.mem_of_getElem? (i := 180) (by decide +kernel)) (by decide +kernel)
theorem wd_y3 : Cond.initialized "java/lang/System" ∈ wsu := tm1 (List.mem_of_getElem? (i := 21) (by decide +kernel)) (by decide +kernel)
theorem wd_o1 : Cond.instanceMethod Lib.objectInit ∈ wsu := tm1 (List.mem_of_getElem? (i := 29) (by decide +kernel)) (by decide +kernel)
theorem wd_o2 : Cond.code Lib.objectInit ⟨#[0xb1]⟩ 1 none ∈ wsu := tm1 (List.mem_of_getElem? (i := 30) (by decide +kernel)) (by decide +kernel)
theorem stat_at {k : Nat} (h : 1 ≤ k ∧ k < 6) : ∃ q ∈ statl, q.2.2 = k := by
  have h2 : k = 1 ∨ k = 2 ∨ k = 3 ∨ k = 4 ∨ k = 5 := by omega
  rcases h2 with rfl | rfl | rfl | rfl | rfl <;> decide
section OPS
variable {l : Launch} {F : Nat → AE} {D : va_G} {cy cr : Nat → ClassId} {ad0 : Nat → Nat} {p : Program} {e : Env} {R : Room} {s : State} {m : MethodId} {args : Array Value} {below : List Frame} {meth : Method} {c : Code} {A : Nat → Prop} {mt mst : Nat} {y : Nat}
variable {pc : Nat} {L : AL} {st : List AV} {w : AW} {bc bs : Nat} {Q : AQ}
theorem r_clone (hF : Fx F D cy cr ad0 p R s m args meth c A mt mst y) {x k n : Nat} {f : Nat → Int} (hd : decode (byt y) pc = .ok (.invokevirtual x, 3)) (hl : Cond.methodLink (nmy y).cls x ⟨"[I", "clone", "()Ljava/lang/Object;"⟩ ∈ wsu) (hr1 : 1 ≤ rfy y) (hr2 : 22 ≤ rly y) (hw : w.2 k = ea 0 n f) (hk : k < w.1) (hz : nfz ≤ k ∨ (1 ≤ k ∧ k < 6)) (hst : stw st ≤ 8) (hbc : 1 ≤ bc) (hbs : n ≤ bs) (h : Run l F D cy cr ad0 p e R s m args below meth c A mt mst y (pc + 3) L (vr w.1 :: st) (wn w (ea 0 n f)) (bc - 1) (bs - n) Q) : Run l F D cy cr ad0 p e R s m args below meth c A mt mst y pc L (vr k :: st) w bc bs Q := by
  intro H locs cells slots ad ls Qc d1 d2 d3 d4 d5 d6 d7 d8 d9 d10 d11 fin
  obtain ⟨-, -, hml, hown, hts, hlk, hrt, hnm, hrf, hrl, hmt, hmst, hFO, hFR, hFV, hA, hK⟩ := id hF
  have hnmI : s.vm.findClass "[I" = some (cy 0) := (hK.2 0 (cy 0, .int) rfl).2
  rcases hz with hz | hz
  · have he := d5.2.1 k hz hk
    rw [hw] at he
    refine va_clone hF.1 hF.2.1 (by rw [hml]; exact d8.1.symm) hown (hts _ hl) (hts _ wd_c1) (hts _ wd_c2) (hts _ wd_c3) (hts _ wd_c4) hFV.2.2.2.2 hK d2 d3 d4 hA (k - nfz) 0 (at_a hw hz hk (by decide)) rfl hnmI (fun i v hv => va_fit (fun _ _ => rfl) i v hv) (by omega) (by rw [cv_cats]; omega) (by omega) (show slots + n ≤ R.slots by omega) hd (fun q H1 g0 g1 g2 g3 => ?_)
    exact run_new (en := ea 0 n f) d1 d5 (ok_t d6) d7 d8 d9 d10 d11 fin g1 g2 g3 ⟨he.1, he.2.1, he.2.2⟩ hbc hbs h
  · have hkz : k < nfz := by have q1 : nfz = 67 := rfl; omega
    obtain ⟨a, b, hn, b2⟩ := fz_int d5 hFO hkz hw
    obtain ⟨cell, t1, t2, t3, t4, t5, t6, t7⟩ := (FR.ext d1 hFR).1 k n f a b
    obtain ⟨q, hq1, hq2⟩ := stat_at hz
    subst hq2
    obtain ⟨-, ⟨cell2, o1, o2, o3, -⟩, z3⟩ := (FR.ext d1 hFR).2.2.2.1 q hq1
    obtain ⟨cell3, p1, p2, -⟩ := z3 n f b
    cases t1.symm.trans o1
    cases t1.symm.trans p1
    have hcls : cell.cls = cy 0 := Option.some.inj (o3.symm.trans hnmI)
    obtain ⟨c0, t0', f1, f2, f3⟩ := Cond.castable_spec (va_Nw.use (A := args) rfl hFV.2.2.2.2)
    cases hnmI.symm.trans f1
    obtain ⟨hobj, kS, hkS, compS, hkindS⟩ := t2
    have hslots : cell.slots = (arrV (cy 0) n (fun j => .int (Int32.ofInt (f j)))).slots := by
      apply Array.ext_getElem?
      intro i
      by_cases hi : i < n
      · rw [t6 i hi, arrV_read _ _ hi]
      · rw [Array.getElem?_eq_none (by omega), Array.getElem?_eq_none (by rw [arrV_size]; omega)]
    have hcellE : ({ cls := cell.cls, slots := cell.slots } : Cell) = vp_cell (cy 0) (n, .inl (fun j => Int32.ofInt (f j))) := by
      rw [hcls, hslots]
      rfl
    intro T hT X
    have hlt : ad q.2.2 < s.heap.size := (Array.getElem?_eq_some_iff.mp t1).1
    have hcellT : T.heap[ad q.2.2]? = some cell := by rw [hT, d4.2.1 _ hlt t7]; exact t1
    obtain ⟨kT, hkT, heT⟩ := X.warmed.alike.2.2 _ _ hkS
    obtain ⟨vm', X', stp⟩ := X.cloneArray hF.1 hown (hts _ hl) (hts _ wd_c1) (hts _ wd_c2) (hts _ wd_c3) (hts _ wd_c4) (a := ad q.2.2) (cell := cell) hcellT hobj t3 o3 f2 (by rw [hcls]; exact f3)
      (fun i v hv => by
        have hi : i < n := by
          have := (Array.getElem?_eq_some_iff.mp hv).1
          omega
        rw [t6 i hi] at hv
        cases hv
        have hk' : kT.kind = .array compS .int := by rw [heT]; exact hkindS
        simp [State.fitsSlot, State.slotType?, hkT, hk', fits])
      (g := F0 m pc ls (.ref (ad q.2.2) :: st.map (cv ad))) rfl (by rw [hml]; exact d8.1) rfl (by rw [hF.2.1]; exact hd) (by omega) (by show 2 * 0 + _ + 14 ≤ _; rw [cv_cats]; omega) (by omega) (by rw [p2]; omega) (hloader := Vm.clonesLoader_of_array hkS hkindS)
    rw [hcellE, p2] at X'
    generalize hH1 : H.push (vp_cell (cy 0) (n, .inl (fun j => Int32.ofInt (f j)))) = H1
    have e1 : H1[H.size]? = some (vp_cell (cy 0) (n, .inl (fun j => Int32.ofInt (f j)))) := by rw [← hH1, Array.getElem?_push_size]
    have z1 : H1.size = H.size + 1 := by rw [← hH1, Array.size_push]
    have o1' : ∀ q : Nat, q < H.size → H1[q]? = H[q]? := fun q hq => by rw [← hH1, Array.getElem?_push, if_neg (Nat.ne_of_lt hq)]
    have hk1 : ∀ (k : Nat) (y : Nat × va_E), (conc cy cr ad w)[k]? = some y → H1[y.1]? = H[y.1]? := fun k y hy => o1' y.1 ((d2 k y hy).lt)
    have g1 : va_P D vwCl (conc cy cr ad w ++ [(H.size, .inl (cy 0, n, .inl (fun j => Int32.ofInt (f j))))]) H1 := (d2.kept hk1).app (fun k y hy => by
      have hz : k < 1 := (List.getElem?_eq_some_iff.mp hy).1
      rw [show k = 0 by omega] at hy
      cases hy
      exact e1)
    have g2 : va_D A (conc cy cr ad w ++ [(H.size, .inl (cy 0, n, .inl (fun j => Int32.ofInt (f j))))]) := d3.push d2 rfl (hA _ d4.1)
    have g3 : va_S A s.heap H1 locs := ⟨Nat.le_trans d4.1 (by omega), fun y h1 h2 => (o1' y (Nat.lt_of_lt_of_le h1 d4.1)).trans (d4.2.1 y h1 h2), d4.2.2⟩
    obtain ⟨t, b1, b3⟩ := run_new (en := ea 0 n f) d1 d5 (ok_t d6) d7 d8 d9 d10 d11 fin g1 g2 g3 ⟨by decide, hn, b2⟩ hbc hbs h ((T.setVm vm').pushCell (vp_cell (cy 0) (n, .inl (fun j => Int32.ofInt (f j))))) (by rw [← hH1, ← hT]; rfl) X'
    refine ⟨t, stp t ?_, b3⟩
    rw [hcellE, hT]
    exact b1
end OPS
