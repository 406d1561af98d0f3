theorem lk {ad : Nat → Nat} {ls : Array Slot} {n : Nat} {L : AL} {k : Nat} {v : AV} (h : lv_has ls n (prs ad 0 L)) (hl : lget L k = some v) : ls[k]? = some (.val (cv ad v)) := by
  have := h.2.2 (0 + k, cv ad v) (prs_get hl)
  rwa [Nat.zero_add] at this
theorem lv_fewer {ls : Array Slot} {n : Nat} {l l' : List (Nat × Value)} (h : lv_has ls n l) (hs : ∀ q ∈ l', q ∈ l) : lv_has ls n l' := ⟨h.1, h.2.1, fun q hq => h.2.2 q (hs q hq)⟩
theorem nolg_cat {ad : Nat → Nat} {L : AL} {k j : Nat} {v : AV} (h : nolg L k) (hj : j + 1 = k) (hl : lget L j = some v) : ¬ (cv ad v).category = 2 := by
  subst hj
  have h : nolong (lget L j) := h
  rw [hl] at h
  rw [cv_cat]
  rcases v with z | z | r
  · exact fun q => by cases q
  · exact h.elim
  · exact fun q => by cases q
theorem prs_set1 {ad : Nat → Nat} {L : AL} {k : Nat} {v : AV} (hk : k < L.length) (hn : nolg L k) : ∀ q ∈ prs ad 0 (lset L k (some v)), q ∈ (k, cv ad v) :: (prs ad 0 L).filter (fun q => !(q.1 == k) && !(q.1 + 1 == k && q.2.category == 2)) := by
  intro q hq
  obtain ⟨j, u, h1, rfl⟩ := prs_of hq
  rw [lget_set hk] at h1
  rw [Nat.zero_add]
  by_cases hj : j = k
  · rw [if_pos hj] at h1
    cases h1
    subst hj
    exact List.mem_cons_self
  · rw [if_neg hj] at h1
    refine List.mem_cons_of_mem _ (List.mem_filter.mpr ⟨?_, ?_⟩)
    · have := prs_get (ad := ad) (i := 0) h1
      rwa [Nat.zero_add] at this
    · have h3 : ¬ (j + 1 = k ∧ (cv ad u).category = 2) := fun z => nolg_cat hn z.1 h1 z.2
      simp only [Bool.and_eq_true, Bool.not_eq_true', beq_eq_false_iff_ne, ne_eq, Bool.and_eq_false_imp, beq_iff_eq]
      exact ⟨hj, fun z => fun z2 => h3 ⟨z, z2⟩⟩
theorem prs_set2 {ad : Nat → Nat} {L : AL} {k : Nat} {v : AV} (hk : k + 1 < L.length) (hn : nolg L k) : ∀ q ∈ prs ad 0 (lset (lset L k (some v)) (k + 1) none), q ∈ (k, cv ad v) :: (prs ad 0 L).filter (fun q => !(q.1 == k) && (!(q.1 == k + 1) && !(q.1 + 1 == k && q.2.category == 2))) := by
  intro q hq
  obtain ⟨j, u, h1, rfl⟩ := prs_of hq
  rw [lget_set (by rw [lset_len]; exact hk)] at h1
  rw [Nat.zero_add]
  by_cases hj1 : j = k + 1
  · rw [if_pos hj1] at h1
    cases h1
  · rw [if_neg hj1, lget_set (by omega)] at h1
    by_cases hj : j = k
    · rw [if_pos hj] at h1
      cases h1
      subst hj
      exact List.mem_cons_self
    · rw [if_neg hj] at h1
      refine List.mem_cons_of_mem _ (List.mem_filter.mpr ⟨?_, ?_⟩)
      · have := prs_get (ad := ad) (i := 0) h1
        rwa [Nat.zero_add] at this
      · have h3 : ¬ (j + 1 = k ∧ (cv ad u).category = 2) := fun z => nolg_cat hn z.1 h1 z.2
        simp only [Bool.and_eq_true, Bool.not_eq_true', beq_eq_false_iff_ne, ne_eq, Bool.and_eq_false_imp, beq_iff_eq]
        exact ⟨hj, hj1, fun z => fun z2 => h3 ⟨z, z2⟩⟩
theorem okl_set {n : Nat} {L : AL} {k : Nat} {v : AV} (h : okl n L) (hk : k < L.length) (hv : okv n v) : okl n (lset L k (some v)) := by
  intro j u hu
  rw [lget_set hk] at hu
  by_cases hj : j = k
  · rw [if_pos hj] at hu
    cases hu
    exact hv
  · rw [if_neg hj] at hu
    exact h j u hu
theorem okl_set2 {n : Nat} {L : AL} {k : Nat} (h : okl n L) (hk : k < L.length) : okl n (lset L k none) := by
  intro j u hu
  rw [lget_set hk] at hu
  by_cases hj : j = k
  · rw [if_pos hj] at hu
    cases hu
  · rw [if_neg hj] at hu
    exact h j u hu
theorem swl_out {K : Nat → Prop} {pc d : Nat} {z : Int} : ∀ (offs : List Int) (lo : Int), sws (swl pc lo offs) d z K → (z < lo ∨ lo + (offs.length : Int) - 1 < z) → K d
  | [], _, h, _ => h
  | o :: r, lo, h, hz => by
    have hl : ((o :: r).length : Int) = (r.length : Int) + 1 := by simp
    exact swl_out r (lo + 1) (h.2 (by omega)) (by omega)
theorem swl_in {K : Nat → Prop} {pc d : Nat} {z : Int} : ∀ (offs : List Int) (lo : Int), sws (swl pc lo offs) d z K → lo ≤ z → z ≤ lo + (offs.length : Int) - 1 → ∃ off, offs[(z - lo).toNat]? = some off ∧ K (tgt pc off)
  | [], lo, _, h1, h2 => by simp at h2; omega
  | o :: r, lo, h, h1, h2 => by
    have hl : ((o :: r).length : Int) = (r.length : Int) + 1 := by simp
    by_cases hz : z = lo
    · subst hz
      exact ⟨o, by rw [Int.sub_self]; rfl, h.1 rfl⟩
    · obtain ⟨off, e1, e2⟩ := swl_in r (lo + 1) (h.2 hz) (by omega) (by omega)
      refine ⟨off, ?_, e2⟩
      rw [show (z - lo).toNat = (z - (lo + 1)).toNat + 1 by omega, List.getElem?_cons_succ]
      exact e1
theorem lks {K : Nat → Prop} {pc : Nat} {d z : Int} : ∀ (ps : List (Int × Int)), sws (ps.map (fun q => (q.1, tgt pc q.2))) (tgt pc d) z K → K (tgt pc (Op.lookupswitch.offset ps d z))
  | [], h => h
  | (k, o) :: r, h => by
    rw [Op.lookupswitch.offset_cons]
    by_cases hz : z = k
    · rw [if_pos hz.symm]
      exact h.1 hz
    · rw [if_neg (fun q => hz q.symm)]
      exact lks r (h.2 hz)
section OPS
variable {l : Launch} {F : Nat → AE} {D : va_G} {cy cr : Nat → ClassId} {ad0 : Nat → Nat} {p : Program} {e : Env} {R : Room} {s : State} {m : MethodId} {args : Array Value} {below : List Frame} {meth : Method} {c : Code} {A : Nat → Prop} {mt mst : Nat} {y : Nat}
variable {pc : Nat} {L : AL} {st : List AV} {w : AW} {bc bs : Nat} {Q : AQ}
theorem r_iload (hF : Fx F D cy cr ad0 p R s m args meth c A mt mst y) {k : Nat} {z : Int} (hd : decode (byt y) pc = .ok (.iload k, 2)) (hl : lget L k = some (vi z)) (h : Run l F D cy cr ad0 p e R s m args below meth c A mt mst y (pc + 2) L (vi z :: st) w bc bs Q) : Run l F D cy cr ad0 p e R s m args below meth c A mt mst y pc L st w bc bs Q := by
  intro H locs cells slots ad ls Qc d1 d2 d3 d4 d5 d6 d7 d8 d9 d10 d11 fin
  refine lv_iload hF.1 hF.2.1 hd (lk d8 hl) ?_
  exact h H locs cells slots ad ls Qc d1 d2 d3 d4 d5 (ok_c (d7 _ _ hl) d6) d7 d8 d9 d10 d11 fin
theorem r_iload_n (hF : Fx F D cy cr ad0 p R s m args meth c A mt mst y) {k : Fin 4} {z : Int} (hd : decode (byt y) pc = .ok (.iload_n k, 1)) (hl : lget L (k : Nat) = some (vi z)) (h : Run l F D cy cr ad0 p e R s m args below meth c A mt mst y (pc + 1) L (vi z :: st) w bc bs Q) : Run l F D cy cr ad0 p e R s m args below meth c A mt mst y pc L st w bc bs Q := by
  intro H locs cells slots ad ls Qc d1 d2 d3 d4 d5 d6 d7 d8 d9 d10 d11 fin
  refine lv_iload_n hF.1 hF.2.1 hd rfl (lk d8 hl) ?_
  exact h H locs cells slots ad ls Qc d1 d2 d3 d4 d5 (ok_c (d7 _ _ hl) d6) d7 d8 d9 d10 d11 fin
theorem r_lload (hF : Fx F D cy cr ad0 p R s m args meth c A mt mst y) {k : Nat} {z : Int} (hd : decode (byt y) pc = .ok (.lload k, 2)) (hl : lget L k = some (vl z)) (h : Run l F D cy cr ad0 p e R s m args below meth c A mt mst y (pc + 2) L (vl z :: st) w bc bs Q) : Run l F D cy cr ad0 p e R s m args below meth c A mt mst y pc L st w bc bs Q := by
  intro H locs cells slots ad ls Qc d1 d2 d3 d4 d5 d6 d7 d8 d9 d10 d11 fin
  refine lv_lload hF.1 hF.2.1 hd (lk d8 hl) ?_
  exact h H locs cells slots ad ls Qc d1 d2 d3 d4 d5 (ok_c (d7 _ _ hl) d6) d7 d8 d9 d10 d11 fin
theorem r_lload_n (hF : Fx F D cy cr ad0 p R s m args meth c A mt mst y) {k : Fin 4} {z : Int} (hd : decode (byt y) pc = .ok (.lload_n k, 1)) (hl : lget L (k : Nat) = some (vl z)) (h : Run l F D cy cr ad0 p e R s m args below meth c A mt mst y (pc + 1) L (vl z :: st) w bc bs Q) : Run l F D cy cr ad0 p e R s m args below meth c A mt mst y pc L st w bc bs Q := by
  intro H locs cells slots ad ls Qc d1 d2 d3 d4 d5 d6 d7 d8 d9 d10 d11 fin
  refine lv_lload_n hF.1 hF.2.1 hd rfl (lk d8 hl) ?_
  exact h H locs cells slots ad ls Qc d1 d2 d3 d4 d5 (ok_c (d7 _ _ hl) d6) d7 d8 d9 d10 d11 fin
theorem r_aload (hF : Fx F D cy cr ad0 p R s m args meth c A mt mst y) {k : Nat} {r : Option Nat} (hd : decode (byt y) pc = .ok (.aload k, 2)) (hl : lget L k = some (vo r)) (h : Run l F D cy cr ad0 p e R s m args below meth c A mt mst y (pc + 2) L (vo r :: st) w bc bs Q) : Run l F D cy cr ad0 p e R s m args below meth c A mt mst y pc L st w bc bs Q := by
  intro H locs cells slots ad ls Qc d1 d2 d3 d4 d5 d6 d7 d8 d9 d10 d11 fin
  have hk := lk d8 hl
  have hq := h H locs cells slots ad ls Qc d1 d2 d3 d4 d5 (ok_c (d7 _ _ hl) d6) d7 d8 d9 d10 d11 fin
  cases r with
  | none => exact lv_aloadN hF.1 hF.2.1 hd hk hq
  | some j => exact lv_aload hF.1 hF.2.1 hd hk hq
theorem r_aload_n (hF : Fx F D cy cr ad0 p R s m args meth c A mt mst y) {k : Fin 4} {r : Option Nat} (hd : decode (byt y) pc = .ok (.aload_n k, 1)) (hl : lget L (k : Nat) = some (vo r)) (h : Run l F D cy cr ad0 p e R s m args below meth c A mt mst y (pc + 1) L (vo r :: st) w bc bs Q) : Run l F D cy cr ad0 p e R s m args below meth c A mt mst y pc L st w bc bs Q := by
  intro H locs cells slots ad ls Qc d1 d2 d3 d4 d5 d6 d7 d8 d9 d10 d11 fin
  have hk := lk d8 hl
  have hq := h H locs cells slots ad ls Qc d1 d2 d3 d4 d5 (ok_c (d7 _ _ hl) d6) d7 d8 d9 d10 d11 fin
  cases r with
  | none => exact lv_aload_nN hF.1 hF.2.1 hd rfl hk hq
  | some j => exact lv_aload_n hF.1 hF.2.1 hd rfl hk hq
theorem r_istore (hF : Fx F D cy cr ad0 p R s m args meth c A mt mst y) {k : Nat} {z : Int} (hd : decode (byt y) pc = .ok (.istore k, 2)) (hn : nolg L k) (hk : k < L.length) (h : Run l F D cy cr ad0 p e R s m args below meth c A mt mst y (pc + 2) (lset L k (some (vi z))) st w bc bs Q) : Run l F D cy cr ad0 p e R s m args below meth c A mt mst y pc L (vi z :: st) w bc bs Q := by
  intro H locs cells slots ad ls Qc d1 d2 d3 d4 d5 d6 d7 d8 d9 d10 d11 fin
  refine lv_istore hF.1 hF.2.1 hd d8 (by rw [← d9]; exact hk) rfl (fun ls' hl => ?_)
  exact h H locs cells slots ad ls' Qc d1 d2 d3 d4 d5 (ok_t d6) (okl_set d7 hk (ok_h d6)) (lv_fewer hl (prs_set1 hk hn)) (by rw [lset_len]; exact d9) d10 d11 fin
theorem r_istore_n (hF : Fx F D cy cr ad0 p R s m args meth c A mt mst y) {k : Fin 4} {z : Int} (hd : decode (byt y) pc = .ok (.istore_n k, 1)) (hn : nolg L (k : Nat)) (hk : (k : Nat) < L.length) (h : Run l F D cy cr ad0 p e R s m args below meth c A mt mst y (pc + 1) (lset L (k : Nat) (some (vi z))) st w bc bs Q) : Run l F D cy cr ad0 p e R s m args below meth c A mt mst y pc L (vi z :: st) w bc bs Q := by
  intro H locs cells slots ad ls Qc d1 d2 d3 d4 d5 d6 d7 d8 d9 d10 d11 fin
  refine lv_istore_n hF.1 hF.2.1 hd rfl d8 (by rw [← d9]; exact hk) rfl (fun ls' hl => ?_)
  exact h H locs cells slots ad ls' Qc d1 d2 d3 d4 d5 (ok_t d6) (okl_set d7 hk (ok_h d6)) (lv_fewer hl (prs_set1 hk hn)) (by rw [lset_len]; exact d9) d10 d11 fin
theorem r_lstore (hF : Fx F D cy cr ad0 p R s m args meth c A mt mst y) {k : Nat} {z : Int} (hd : decode (byt y) pc = .ok (.lstore k, 2)) (hn : nolg L k) (hk : k + 1 < L.length) (h : Run l F D cy cr ad0 p e R s m args below meth c A mt mst y (pc + 2) (lset (lset L k (some (vl z))) (k + 1) none) st w bc bs Q) : Run l F D cy cr ad0 p e R s m args below meth c A mt mst y pc L (vl z :: st) w bc bs Q := by
  intro H locs cells slots ad ls Qc d1 d2 d3 d4 d5 d6 d7 d8 d9 d10 d11 fin
  refine lv_lstore hF.1 hF.2.1 hd d8 (by rw [← d9]; exact hk) rfl (fun ls' hl => ?_)
  exact h H locs cells slots ad ls' Qc d1 d2 d3 d4 d5 (ok_t d6) (okl_set2 (okl_set d7 (by omega) (ok_h d6)) (by rw [lset_len]; exact hk)) (lv_fewer hl (prs_set2 hk hn)) (by rw [lset_len, lset_len]; exact d9) d10 d11 fin
theorem r_lstore_n (hF : Fx F D cy cr ad0 p R s m args meth c A mt mst y) {k : Fin 4} {z : Int} (hd : decode (byt y) pc = .ok (.lstore_n k, 1)) (hn : nolg L (k : Nat)) (hk : (k : Nat) + 1 < L.length) (h : Run l F D cy cr ad0 p e R s m args below meth c A mt mst y (pc + 1) (lset (lset L (k : Nat) (some (vl z))) ((k : Nat) + 1) none) st w bc bs Q) : Run l F D cy cr ad0 p e R s m args below meth c A mt mst y pc L (vl z :: st) w bc bs Q := by
  intro H locs cells slots ad ls Qc d1 d2 d3 d4 d5 d6 d7 d8 d9 d10 d11 fin
  refine lv_lstore_n hF.1 hF.2.1 hd rfl d8 (by rw [← d9]; exact hk) rfl (fun ls' hl => ?_)
  exact h H locs cells slots ad ls' Qc d1 d2 d3 d4 d5 (ok_t d6) (okl_set2 (okl_set d7 (by omega) (ok_h d6)) (by rw [lset_len]; exact hk)) (lv_fewer hl (prs_set2 hk hn)) (by rw [lset_len, lset_len]; exact d9) d10 d11 fin
theorem r_astore (hF : Fx F D cy cr ad0 p R s m args meth c A mt mst y) {k : Nat} {r : Option Nat} (hd : decode (byt y) pc = .ok (.astore k, 2)) (hn : nolg L k) (hk : k < L.length) (h : Run l F D cy cr ad0 p e R s m args below meth c A mt mst y (pc + 2) (lset L k (some (vo r))) st w bc bs Q) : Run l F D cy cr ad0 p e R s m args below meth c A mt mst y pc L (vo r :: st) w bc bs Q := by
  intro H locs cells slots ad ls Qc d1 d2 d3 d4 d5 d6 d7 d8 d9 d10 d11 fin
  cases r with
  | none =>
    refine lv_astoreN hF.1 hF.2.1 hd d8 (by rw [← d9]; exact hk) rfl (fun ls' hl => ?_)
    exact h H locs cells slots ad ls' Qc d1 d2 d3 d4 d5 (ok_t d6) (okl_set d7 hk (ok_h d6)) (lv_fewer hl (prs_set1 hk hn)) (by rw [lset_len]; exact d9) d10 d11 fin
  | some j =>
    refine lv_astore hF.1 hF.2.1 hd d8 (by rw [← d9]; exact hk) rfl (fun ls' hl => ?_)
    exact h H locs cells slots ad ls' Qc d1 d2 d3 d4 d5 (ok_t d6) (okl_set d7 hk (ok_h d6)) (lv_fewer hl (prs_set1 hk hn)) (by rw [lset_len]; exact d9) d10 d11 fin
theorem r_astore_n (hF : Fx F D cy cr ad0 p R s m args meth c A mt mst y) {k : Fin 4} {r : Option Nat} (hd : decode (byt y) pc = .ok (.astore_n k, 1)) (hn : nolg L (k : Nat)) (hk : (k : Nat) < L.length) (h : Run l F D cy cr ad0 p e R s m args below meth c A mt mst y (pc + 1) (lset L (k : Nat) (some (vo r))) st w bc bs Q) : Run l F D cy cr ad0 p e R s m args below meth c A mt mst y pc L (vo r :: st) w bc bs Q := by
  intro H locs cells slots ad ls Qc d1 d2 d3 d4 d5 d6 d7 d8 d9 d10 d11 fin
  cases r with
  | none =>
    refine lv_astore_nN hF.1 hF.2.1 hd rfl d8 (by rw [← d9]; exact hk) rfl (fun ls' hl => ?_)
    exact h H locs cells slots ad ls' Qc d1 d2 d3 d4 d5 (ok_t d6) (okl_set d7 hk (ok_h d6)) (lv_fewer hl (prs_set1 hk hn)) (by rw [lset_len]; exact d9) d10 d11 fin
  | some j =>
    refine lv_astore_n hF.1 hF.2.1 hd rfl d8 (by rw [← d9]; exact hk) rfl (fun ls' hl => ?_)
    exact h H locs cells slots ad ls' Qc d1 d2 d3 d4 d5 (ok_t d6) (okl_set d7 hk (ok_h d6)) (lv_fewer hl (prs_set1 hk hn)) (by rw [lset_len]; exact d9) d10 d11 fin
theorem lget_lt : ∀ {L : AL} {k : Nat} {v : AV}, lget L k = some v → k < L.length
  | [], _, _, h => by cases h
  | _ :: _, 0, _, _ => Nat.succ_pos _
  | _ :: l, k + 1, v, h => Nat.succ_lt_succ (lget_lt (L := l) h)
theorem r_iinc (hF : Fx F D cy cr ad0 p R s m args meth c A mt mst y) {k : Nat} {n z : Int} (hd : decode (byt y) pc = .ok (.iinc k n, 3)) (hl : lget L k = some (vi z)) (hr : in32 (z + n)) (hn : nolg L k) (h : Run l F D cy cr ad0 p e R s m args below meth c A mt mst y (pc + 3) (lset L k (some (vi (z + n)))) st w bc bs Q) : Run l F D cy cr ad0 p e R s m args below meth c A mt mst y pc L st w bc bs Q := by
  intro H locs cells slots ad ls Qc d1 d2 d3 d4 d5 d6 d7 d8 d9 d10 d11 fin
  have hk := lget_lt hl
  obtain ⟨i, hi⟩ : ∃ i : Nat, (prs ad 0 L)[i]? = some (k, .int (Int32.ofInt z)) := by
    have hm := prs_get (ad := ad) (i := 0) hl
    rw [Nat.zero_add] at hm
    exact List.getElem?_of_mem hm
  refine lv_iinc (v := Int32.ofInt (z + n)) hF.1 hF.2.1 hd d8 hi (Int32.ofInt_add z n).symm (by rw [← d9]; exact hk) rfl (fun ls' hl => ?_)
  exact h H locs cells slots ad ls' Qc d1 d2 d3 d4 d5 d6 (okl_set d7 hk hr) (lv_fewer hl (prs_set1 hk hn)) (by rw [lset_len]; exact d9) d10 d11 fin
theorem r_tsw (hF : Fx F D cy cr ad0 p R s m args meth c A mt mst y) {a : Int} {d lo hi : Int} {offs : Array Int} {len : Nat} (hd : decode (byt y) pc = .ok (.tableswitch d lo hi offs, len)) (hhi : hi = lo + (offs.toList.length : Int) - 1) (ht : 0 ≤ (pc : Int) + d) (hto : offs.toList.all (fun o => decide (0 ≤ (pc : Int) + o)) = true) (h : sws (swl pc lo offs.toList) (tgt pc d) a (fun u => Run l F D cy cr ad0 p e R s m args below meth c A mt mst y u L st w bc bs Q)) : Run l F D cy cr ad0 p e R s m args below meth c A mt mst y pc L (vi a :: st) w bc bs Q := by
  intro H locs cells slots ad ls Qc d1 d2 d3 d4 d5 d6 d7 d8 d9 d10 d11 fin
  have ha := i32_t (ok_h d6)
  by_cases hz : a < lo ∨ hi < a
  · exact lv_tableOut (tgt := tgt pc d) hF.1 hF.2.1 hd (by rw [ha]; exact hz) (Int.toNat_of_nonneg ht).symm (swl_out _ _ h (by omega) H locs cells slots ad ls Qc d1 d2 d3 d4 d5 (ok_t d6) d7 d8 d9 d10 d11 fin)
  · obtain ⟨off, e1, e2⟩ := swl_in _ _ h (by omega) (by omega)
    have hoff : 0 ≤ (pc : Int) + off := of_decide_eq_true (List.all_eq_true.mp hto off (List.mem_of_getElem? e1))
    exact lv_tableIn (off := off) (tgt := tgt pc off) hF.1 hF.2.1 hd (by rw [ha]; omega) (by rw [ha]; omega) (by rw [ha, ← Array.getElem?_toList]; exact e1) (Int.toNat_of_nonneg hoff).symm (e2 H locs cells slots ad ls Qc d1 d2 d3 d4 d5 (ok_t d6) d7 d8 d9 d10 d11 fin)
theorem r_lsw (hF : Fx F D cy cr ad0 p R s m args meth c A mt mst y) {a : Int} {d : Int} {ps : Array (Int × Int)} {len : Nat} (hd : decode (byt y) pc = .ok (.lookupswitch d ps, len)) (ht : 0 ≤ (pc : Int) + d) (hto : ps.toList.all (fun o => decide (0 ≤ (pc : Int) + o.2)) = true) (hp : (ps.toList.zip (ps.toList.drop 1)).all (fun (a, next) => a.1 < next.1) = true) (h : sws (ps.toList.map (fun q => (q.1, tgt pc q.2))) (tgt pc d) a (fun u => Run l F D cy cr ad0 p e R s m args below meth c A mt mst y u L st w bc bs Q)) : Run l F D cy cr ad0 p e R s m args below meth c A mt mst y pc L (vi a :: st) w bc bs Q := by
  intro H locs cells slots ad ls Qc d1 d2 d3 d4 d5 d6 d7 d8 d9 d10 d11 fin
  have ha := i32_t (ok_h d6)
  have hoff : ∀ (l : List (Int × Int)), (l.all (fun o => decide (0 ≤ (pc : Int) + o.2)) = true) → 0 ≤ (pc : Int) + Op.lookupswitch.offset l d a := by
    intro l
    induction l with
    | nil => intro _; exact ht
    | cons q r ih =>
      intro hq
      rw [List.all_cons, Bool.and_eq_true] at hq
      rw [Op.lookupswitch.offset_cons]
      split
      · exact of_decide_eq_true hq.1
      · exact ih hq.2
  exact lv_lookup (off := Op.lookupswitch.offset ps.toList d a) (tgt := tgt pc (Op.lookupswitch.offset ps.toList d a)) hF.1 hF.2.1 hd hp (by rw [ha]) (Int.toNat_of_nonneg (hoff _ hto)).symm (lks _ h H locs cells slots ad ls Qc d1 d2 d3 d4 d5 (ok_t d6) d7 d8 d9 d10 d11 fin)
end OPS
