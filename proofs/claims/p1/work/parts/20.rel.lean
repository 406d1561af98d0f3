-- THE PURE WORLD AND THE MACHINE'S HEAP
def cv (ad : Nat → Nat) : AV → Value
  | Sum.inl z => .int (Int32.ofInt z)
  | Sum.inr (Sum.inl z) => .long (Int64.ofInt z)
  | Sum.inr (Sum.inr none) => .null
  | Sum.inr (Sum.inr (some k)) => .ref (ad k)
def ce (cy cr : Nat → ClassId) (ad : Nat → Nat) : AE → va_E
  | Sum.inl (t, n, f) => .inl (cy t, n, if t = 3 then .inr (.inl (fun j => Int64.ofInt (f j))) else .inl (fun j => Int32.ofInt (f j)))
  | Sum.inr (Sum.inl (c, n, f)) => .inl (cr c, n, .inr (.inr (.inr (.inr (fun j => (f j).map ad)))))
  | Sum.inr (Sum.inr (c, fs)) => .inr (c, fs.map (cv ad))
def conc (cy cr : Nat → ClassId) (ad : Nat → Nat) (W : AW) : va_W := (List.range (W.1 - nfz)).map (fun i => (ad (i + nfz), ce cy cr ad (W.2 (i + nfz))))
theorem conc_at {cy cr : Nat → ClassId} {ad : Nat → Nat} {W : AW} {k : Nat} (h1 : nfz ≤ k) (h2 : k < W.1) : (conc cy cr ad W)[k - nfz]? = some (ad k, ce cy cr ad (W.2 k)) := by
  unfold conc
  rw [List.getElem?_map, List.getElem?_range (by omega)]
  simp only [Option.map_some, Nat.sub_add_cancel h1]
theorem conc_get {cy cr : Nat → ClassId} {ad : Nat → Nat} {W : AW} {i : Nat} {q : Nat × va_E} (h : (conc cy cr ad W)[i]? = some q) : i + nfz < W.1 ∧ q = (ad (i + nfz), ce cy cr ad (W.2 (i + nfz))) := by
  unfold conc at h
  rw [List.getElem?_map] at h
  by_cases hi : i < W.1 - nfz
  · rw [List.getElem?_range hi] at h
    simp only [Option.map_some, Option.some.injEq] at h
    exact ⟨by omega, h.symm⟩
  · rw [List.getElem?_eq_none (by simpa using hi)] at h
    cases h
theorem conc_set {cy cr : Nat → ClassId} {ad : Nat → Nat} {W : AW} {k : Nat} (e : AE) (h1 : nfz ≤ k) : (conc cy cr ad W).set (k - nfz) (ad k, ce cy cr ad e) = conc cy cr ad (wu W k e) := by
  apply List.ext_getElem?
  intro i
  unfold conc wu
  rw [List.getElem?_set, List.getElem?_map, List.getElem?_map, List.length_map, List.length_range]
  by_cases hi : i < W.1 - nfz
  · rw [List.getElem?_range hi]
    by_cases hk : k - nfz = i
    · subst hk
      rw [if_pos rfl, if_pos hi]
      simp only [Option.map_some, Nat.sub_add_cancel h1, fu_eq]
    · rw [if_neg hk]
      simp only [Option.map_some]
      rw [fu_ne _ _ (by omega)]
  · by_cases hk : k - nfz = i
    · subst hk
      rw [if_pos rfl, if_neg hi, List.getElem?_eq_none (by simpa using hi)]
      rfl
    · rw [if_neg hk]
      rw [List.getElem?_eq_none (by simpa using hi)]
      rfl
def okv (n : Nat) : AV → Prop
  | Sum.inl z => in32 z
  | Sum.inr (Sum.inl z) => in64 z
  | Sum.inr (Sum.inr none) => True
  | Sum.inr (Sum.inr (some k)) => k < n
def oke (n : Nat) : AE → Prop
  | Sum.inl (t, N, f) => t < 4 ∧ N ≤ 1000000 ∧ ∀ j, okt t (f j)
  | Sum.inr (Sum.inl (c, N, f)) => (c = 2 ∨ c = 4 ∨ c = 6) ∧ N ≤ 1000000 ∧ ∀ j k, f j = some k → k < n
  | Sum.inr (Sum.inr (c, fs)) => c < 13 ∧ fs.length = (fdf c).length ∧ ∀ v ∈ fs, okv n v
theorem okv_mono {n n' : Nat} (h : n ≤ n') : ∀ {v : AV}, okv n v → okv n' v
  | Sum.inl _, h => h
  | Sum.inr (Sum.inl _), h => h
  | Sum.inr (Sum.inr none), _ => trivial
  | Sum.inr (Sum.inr (some _)), h2 => Nat.lt_of_lt_of_le h2 h
theorem oke_mono {n n' : Nat} (h : n ≤ n') : ∀ {e : AE}, oke n e → oke n' e
  | Sum.inl _, h => h
  | Sum.inr (Sum.inl _), ⟨h1, h2, h3⟩ => ⟨h1, h2, fun j k e => Nat.lt_of_lt_of_le (h3 j k e) h⟩
  | Sum.inr (Sum.inr _), ⟨h1, h2, h3⟩ => ⟨h1, h2, fun v hv => okv_mono h (h3 v hv)⟩
theorem cv_ext {n : Nat} {ad ad' : Nat → Nat} (h : ∀ k, k < n → ad' k = ad k) : ∀ {v : AV}, okv n v → cv ad' v = cv ad v
  | Sum.inl _, _ => rfl
  | Sum.inr (Sum.inl _), _ => rfl
  | Sum.inr (Sum.inr none), _ => rfl
  | Sum.inr (Sum.inr (some k)), h2 => congrArg Value.ref (h k h2)
theorem ce_ext {cy cr : Nat → ClassId} {n : Nat} {ad ad' : Nat → Nat} (h : ∀ k, k < n → ad' k = ad k) : ∀ {e : AE}, oke n e → ce cy cr ad' e = ce cy cr ad e
  | Sum.inl _, _ => rfl
  | Sum.inr (Sum.inl (c, N, f)), ⟨_, _, h3⟩ => by
    have e : (fun j => (f j).map ad') = fun j => (f j).map ad := by
      funext j
      cases hf : f j with
      | none => rfl
      | some k => exact congrArg some (h k (h3 j k hf))
    simp only [ce, e]
  | Sum.inr (Sum.inr (c, fs)), ⟨_, _, h3⟩ => by
    have e : fs.map (cv ad') = fs.map (cv ad) := List.map_congr_left fun v hv => cv_ext h (h3 v hv)
    simp only [ce, e]
/-- the world is well formed; its first cells are what was there before -/
def okW (F : Nat → AE) (W : AW) : Prop := nfz ≤ W.1 ∧ (∀ k, nfz ≤ k → k < W.1 → oke W.1 (W.2 k)) ∧ ∀ k, k < nfz → W.2 k = F k
theorem okW_set {F : Nat → AE} {W : AW} {k : Nat} {e : AE} (h : okW F W) (h1 : nfz ≤ k) (he : oke W.1 e) : okW F (wu W k e) := by
  refine ⟨h.1, fun j h2 h3 => ?_, fun j hj => ?_⟩
  · show oke W.1 (fu W.2 k e j)
    by_cases hk : j = k
    · subst hk; rw [fu_eq]; exact he
    · rw [fu_ne _ _ hk]; exact h.2.1 j h2 h3
  · show fu W.2 k e j = F j
    rw [fu_ne _ _ (by omega)]
    exact h.2.2 j hj
theorem okW_new {F : Nat → AE} {W : AW} {e : AE} (h : okW F W) (he : oke (W.1 + 1) e) : okW F (wn W e) := by
  refine ⟨Nat.le_succ_of_le h.1, fun j h2 h3 => ?_, fun j hj => ?_⟩
  · show oke (W.1 + 1) (fu W.2 W.1 e j)
    by_cases hk : j = W.1
    · subst hk; rw [fu_eq]; exact he
    · rw [fu_ne _ _ hk]; exact oke_mono (Nat.le_succ _) (h.2.1 j h2 (by have h3 : j < W.1 + 1 := h3; omega))
  · show fu W.2 W.1 e j = F j
    rw [fu_ne _ _ (by have := h.1; omega)]
    exact h.2.2 j hj
theorem conc_new {F : Nat → AE} {cy cr : Nat → ClassId} {ad : Nat → Nat} {W : AW} {q : Nat} {e : AE} (h : okW F W) (he : oke (W.1 + 1) e) :
    conc cy cr ad W ++ [(q, ce cy cr (fu ad W.1 q) e)] = conc cy cr (fu ad W.1 q) (wn W e) := by
  have hag : ∀ k, k < W.1 → fu ad W.1 q k = ad k := fun k hk => fu_ne _ _ (by omega)
  have hn := h.1
  apply List.ext_getElem?
  intro i
  unfold conc wn
  rw [List.getElem?_append, List.getElem?_map, List.getElem?_map, List.length_map, List.length_range]
  by_cases hi : i < W.1 - nfz
  · rw [if_pos hi, List.getElem?_range hi, List.getElem?_range (by omega)]
    simp only [Option.map_some]
    rw [hag _ (by omega), fu_ne _ _ (show i + nfz ≠ W.1 by omega), ce_ext hag (h.2.1 _ (by omega) (by omega))]
  · rw [if_neg hi]
    by_cases hj : i = W.1 - nfz
    · subst hj
      rw [Nat.sub_self, List.getElem?_range (by omega)]
      simp only [Option.map_some, Nat.sub_add_cancel hn, fu_eq, List.getElem?_cons_zero]
    · rw [List.getElem?_eq_none (by simp; omega), List.getElem?_eq_none (by simp; omega)]
      rfl
/-- the locals as the kit lists them -/
def prs (ad : Nat → Nat) : Nat → AL → List (Nat × Value)
  | _, [] => []
  | i, none :: l => prs ad (i + 1) l
  | i, some v :: l => (i, cv ad v) :: prs ad (i + 1) l
theorem prs_get {ad : Nat → Nat} : ∀ {L : AL} {i k : Nat} {v : AV}, lget L k = some v → (i + k, cv ad v) ∈ prs ad i L
  | [], _, _, _, h => by cases h
  | none :: l, i, 0, v, h => by cases h
  | some a :: l, i, 0, v, h => by cases h; exact List.mem_cons_self
  | none :: l, i, k + 1, v, h => by
    have := prs_get (ad := ad) (L := l) (i := i + 1) (k := k) (v := v) h
    rw [show i + (k + 1) = i + 1 + k by omega]
    exact this
  | some a :: l, i, k + 1, v, h => by
    have := prs_get (ad := ad) (L := l) (i := i + 1) (k := k) (v := v) h
    rw [show i + (k + 1) = i + 1 + k by omega]
    exact List.mem_cons_of_mem _ this
theorem prs_of {ad : Nat → Nat} : ∀ {L : AL} {i : Nat} {q : Nat × Value}, q ∈ prs ad i L → ∃ (k : Nat) (v : AV), lget L k = some v ∧ q = (i + k, cv ad v)
  | [], _, _, h => by cases h
  | none :: l, i, q, h => by
    obtain ⟨k, v, h1, h2⟩ := prs_of (L := l) (i := i + 1) h
    exact ⟨k + 1, v, h1, by rw [h2, show i + (k + 1) = i + 1 + k by omega]⟩
  | some a :: l, i, q, h => by
    rcases List.mem_cons.mp h with h | h
    · exact ⟨0, a, rfl, h⟩
    · obtain ⟨k, v, h1, h2⟩ := prs_of (L := l) (i := i + 1) h
      exact ⟨k + 1, v, h1, by rw [h2, show i + (k + 1) = i + 1 + k by omega]⟩
theorem lget_set {v : Option AV} : ∀ {L : AL} {k j : Nat}, k < L.length → lget (lset L k v) j = if j = k then v else lget L j
  | [], _, _, h => by cases h
  | _ :: _, 0, 0, _ => rfl
  | _ :: _, 0, _ + 1, _ => rfl
  | _ :: _, _ + 1, 0, _ => rfl
  | _ :: l, k + 1, j + 1, h => by
    have := lget_set (v := v) (L := l) (k := k) (j := j) (Nat.lt_of_succ_lt_succ h)
    simp only [lset, lget, this, Nat.add_right_cancel_iff]
theorem lset_len {v : Option AV} : ∀ {L : AL} {k : Nat}, (lset L k v).length = L.length
  | [], _ => rfl
  | _ :: _, 0 => rfl
  | _ :: l, k + 1 => by simp only [lset, List.length_cons, lset_len]
def okl (n : Nat) (L : AL) : Prop := ∀ k v, lget L k = some v → okv n v
theorem cv_cat {ad : Nat → Nat} (v : AV) : (cv ad v).category = avc v := by
  rcases v with z | z | r | k <;> rfl
theorem cv_cats {ad : Nat → Nat} : ∀ (st : List AV), ((st.map (cv ad)).map fun v => v.category).sum = stw st
  | [] => rfl
  | v :: st => by simp only [List.map_cons, List.sum_cons, stw, cv_cat, cv_cats st]
