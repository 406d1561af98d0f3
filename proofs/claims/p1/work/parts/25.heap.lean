theorem at_a {cy cr : Nat → ClassId} {ad : Nat → Nat} {w : AW} {k t n : Nat} {f : Nat → Int} (hw : w.2 k = ea t n f) (h1 : nfz ≤ k) (h2 : k < w.1) (ht : t ≠ 3) : (conc cy cr ad w)[k - nfz]? = some (ad k, .inl (cy t, n, .inl (fun j => Int32.ofInt (f j)))) := by
  rw [conc_at h1 h2, hw]
  simp only [ce, if_neg ht]
theorem at_l {cy cr : Nat → ClassId} {ad : Nat → Nat} {w : AW} {k n : Nat} {f : Nat → Int} (hw : w.2 k = ea 3 n f) (h1 : nfz ≤ k) (h2 : k < w.1) : (conc cy cr ad w)[k - nfz]? = some (ad k, .inl (cy 3, n, .inr (.inl (fun j => Int64.ofInt (f j))))) := by
  rw [conc_at h1 h2, hw]
  rfl
theorem at_r {cy cr : Nat → ClassId} {ad : Nat → Nat} {w : AW} {k c n : Nat} {f : Nat → Option Nat} (hw : w.2 k = er c n f) (h1 : nfz ≤ k) (h2 : k < w.1) : (conc cy cr ad w)[k - nfz]? = some (ad k, .inl (cr c, n, .inr (.inr (.inr (.inr (fun j => (f j).map ad)))))) := by
  rw [conc_at h1 h2, hw]
  rfl
theorem at_o {cy cr : Nat → ClassId} {ad : Nat → Nat} {w : AW} {k c : Nat} {fs : List AV} (hw : w.2 k = eo c fs) (h1 : nfz ≤ k) (h2 : k < w.1) : (conc cy cr ad w)[k - nfz]? = some (ad k, .inr (c, fs.map (cv ad))) := by
  rw [conc_at h1 h2, hw]
  rfl
theorem fz_cases {F : Nat → AE} {w : AW} (h : okW F w) (hF : FOK F) {k : Nat} (hk : k < nfz) : (k < fz0 ∧ ∃ n f, w.2 k = ea 0 n f ∧ F k = ea 0 n f ∧ n ≤ 1000000 ∧ ∀ j, okt 0 (f j)) ∨ (fz0 ≤ k ∧ k < fz1 ∧ w.2 k = eo 13 [vr (k + (fz1 - fz0)), vi 0]) ∨ (fz1 ≤ k ∧ k < nfz - 1 ∧ ∃ n f, w.2 k = ea 1 n f ∧ F k = ea 1 n f ∧ n ≤ 1000000 ∧ ∀ j, okt 1 (f j)) ∨ w.2 k = ea 9 0 (fun _ => 0) := by
  have e := h.2.2 k hk
  by_cases h1 : k < fz0
  · obtain ⟨n, f, q, q2, q3⟩ := hF.1 k h1
    exact Or.inl ⟨h1, n, f, e.trans q, q, q2, q3⟩
  · by_cases h2 : k < fz1
    · exact Or.inr (Or.inl ⟨by omega, h2, e.trans (hF.2.1 k (by omega) h2)⟩)
    · by_cases h3 : k < nfz - 1
      · obtain ⟨n, f, q, q2, q3⟩ := hF.2.2.1 k (by omega) h3
        exact Or.inr (Or.inr (Or.inl ⟨by omega, h3, n, f, e.trans q, q, q2, q3⟩))
      · have hk2 : k = nfz - 1 := by omega
        subst hk2
        exact Or.inr (Or.inr (Or.inr (e.trans hF.2.2.2)))
theorem fz_int {F : Nat → AE} {w : AW} (h : okW F w) (hF : FOK F) {k n : Nat} {f : Nat → Int} (hk : k < nfz) (hw : w.2 k = ea 0 n f) : k < fz0 ∧ F k = ea 0 n f ∧ n ≤ 1000000 ∧ ∀ j, okt 0 (f j) := by
  rcases fz_cases h hF hk with ⟨a, n', f', q1, q2, q3⟩ | ⟨_, _, q⟩ | ⟨_, _, n', f', q, _⟩ | q
  · rw [hw] at q1
    cases q1
    exact ⟨a, q2, q3⟩
  · rw [hw] at q; cases q
  · rw [hw] at q; cases q
  · rw [hw] at q; cases q
theorem fz_byte {F : Nat → AE} {w : AW} (h : okW F w) (hF : FOK F) {k n : Nat} {f : Nat → Int} (hk : k < nfz) (hw : w.2 k = ea 1 n f) : fz1 ≤ k ∧ k < nfz - 1 ∧ F k = ea 1 n f ∧ n ≤ 1000000 ∧ ∀ j, okt 1 (f j) := by
  rcases fz_cases h hF hk with ⟨_, n', f', q, _⟩ | ⟨_, _, q⟩ | ⟨a, b, n', f', q1, q2, q3⟩ | q
  · rw [hw] at q; cases q
  · rw [hw] at q; cases q
  · rw [hw] at q1
    cases q1
    exact ⟨a, b, q2, q3⟩
  · rw [hw] at q; cases q
theorem fz_no {F : Nat → AE} {w : AW} (h : okW F w) (hF : FOK F) {k t n : Nat} {f : Nat → Int} (ht : t = 2 ∨ t = 3) (hw : w.2 k = ea t n f) : nfz ≤ k := by
  rcases Nat.lt_or_ge k nfz with hk | hk
  · exfalso
    rcases fz_cases h hF hk with ⟨_, n', f', q, _⟩ | ⟨_, _, q⟩ | ⟨_, _, n', f', q, _⟩ | q <;> rw [hw] at q <;> cases q <;> omega
  · exact hk
theorem fz_nor {F : Nat → AE} {w : AW} (h : okW F w) (hF : FOK F) {k t n : Nat} {f : Nat → Option Nat} (hw : w.2 k = er t n f) : nfz ≤ k := by
  rcases Nat.lt_or_ge k nfz with hk | hk
  · exfalso
    rcases fz_cases h hF hk with ⟨_, n', f', q, _⟩ | ⟨_, _, q⟩ | ⟨_, _, n', f', q, _⟩ | q <;> rw [hw] at q <;> cases q
  · exact hk
theorem fz_obj {F : Nat → AE} {w : AW} (h : okW F w) (hF : FOK F) {k c : Nat} {fs : List AV} (hk : k < nfz) (hw : w.2 k = eo c fs) : fz0 ≤ k ∧ k < fz1 ∧ c = 13 ∧ fs = [vr (k + (fz1 - fz0)), vi 0] := by
  rcases fz_cases h hF hk with ⟨_, n', f', q, _⟩ | ⟨a, b, q⟩ | ⟨_, _, n', f', q, _⟩ | q
  · rw [hw] at q; cases q
  · rw [hw] at q; cases q; exact ⟨a, b, rfl, rfl⟩
  · rw [hw] at q; cases q
  · rw [hw] at q; cases q
theorem FR.ext {F : Nat → AE} {ad ad0 : Nat → Nat} {A : Nat → Prop} {U : State} {H : Heap} (he : ∀ k, k < nfz → ad k = ad0 k) (h : FR F ad0 A U H) : FR F ad A U H := by
  refine ⟨fun k n f a b => ?_, fun k a b => ?_, fun k n f a b d => ?_, fun q hq => ?_, h.2.2.2.2.1, ?_⟩
  · rw [he k (by have q1 : nfz = 67 := rfl; have q2 : fz0 = 6 := rfl; have q3 : fz1 = 36 := rfl; omega)]; exact h.1 k n f a b
  · rw [he k (by have q1 : nfz = 67 := rfl; have q2 : fz0 = 6 := rfl; have q3 : fz1 = 36 := rfl; omega), he (k + (fz1 - fz0)) (by have q1 : nfz = 67 := rfl; have q2 : fz0 = 6 := rfl; have q3 : fz1 = 36 := rfl; omega)]; exact h.2.1 k a b
  · rw [he k (by have q1 : nfz = 67 := rfl; have q2 : fz0 = 6 := rfl; have q3 : fz1 = 36 := rfl; omega)]; exact h.2.2.1 k n f a b d
  · have hs : ∀ q ∈ statl, q.2.2 < nfz := by decide
    rw [he _ (hs q hq)]; exact h.2.2.2.1 q hq
  · rw [he (nfz - 1) (by have q1 : nfz = 67 := rfl; have q2 : fz0 = 6 := rfl; have q3 : fz1 = 36 := rfl; omega)]; exact h.2.2.2.2.2
theorem up32 (f : Nat → Int) (k : Nat) (x : Int) : upd (fun j => Int32.ofInt (f j)) k (Int32.ofInt x) = fun j => Int32.ofInt (fu f k x j) := by
  funext j
  simp only [upd, fu]
  split <;> rfl
theorem up64 (f : Nat → Int) (k : Nat) (x : Int) : vp_updL (fun j => Int64.ofInt (f j)) k (Int64.ofInt x) = fun j => Int64.ofInt (fu f k x j) := by
  funext j
  simp only [vp_updL, fu]
  split <;> rfl
theorem upr (ad : Nat → Nat) (f : Nat → Option Nat) (k j : Nat) : va_up (fun j => (f j).map ad) k (some (ad j)) = fun i => (fu f k (some j) i).map ad := by
  funext i
  simp only [va_up, fu]
  split <;> rfl
theorem rf_cv (ad : Nat → Nat) (r : Option Nat) : va_rf (r.map ad) = cv ad (vo r) := by
  cases r <;> rfl
theorem nar1 {x : Int} (h : okt 1 x) : vp_nar .byte (Int32.ofInt x) = Int32.ofInt x := by
  rw [vp_nar_byte, i2b_o (by unfold in32; have h : -128 ≤ x ∧ x < 128 := h; omega)]
  have h : -128 ≤ x ∧ x < 128 := h
  rw [show (x + 128) % 256 - 128 = x by omega]
theorem nar2 {x : Int} (h : okt 2 x) : vp_nar .boolean (Int32.ofInt x) = Int32.ofInt x := by
  have h : x = 0 ∨ x = 1 := h
  rcases h with rfl | rfl <;> decide
theorem okt32 {t : Nat} {z : Int} (h : okt t z) (ht : t < 3) : in32 z := by
  unfold in32
  match t, ht, h with
  | 0, _, h => exact h
  | 1, _, h => have h : -128 ≤ z ∧ z < 128 := h; omega
  | 2, _, h => have h : z = 0 ∨ z = 1 := h; omega
def tyc : Nat → FieldType
  | 0 => .int
  | 1 => .byte
  | 2 => .boolean
  | _ => .long
theorem tyl_at {cy cr : Nat → ClassId} {t : Nat} (ht : t < 4) : (tyl cy cr)[t]? = some (cy t, tyc t) := by
  match t, ht with
  | 0, _ => rfl
  | 1, _ => rfl
  | 2, _ => rfl
  | 3, _ => rfl
theorem tyr_at {cy cr : Nat → ClassId} {c : Nat} (h : c = 2 ∨ c = 4 ∨ c = 6) : ∃ i : Nat, (tyl cy cr)[i]? = some (cr c, FieldType.object (cnm c)) := by
  rcases h with rfl | rfl | rfl
  · exact ⟨4, rfl⟩
  · exact ⟨5, rfl⟩
  · exact ⟨6, rfl⟩
theorem cv_exts {n : Nat} {ad ad' : Nat → Nat} (h : ∀ k, k < n → ad' k = ad k) {st : List AV} (hs : ∀ v ∈ st, okv n v) : st.map (cv ad') = st.map (cv ad) := List.map_congr_left fun v hv => cv_ext h (hs v hv)
theorem prs_ext {n : Nat} {ad ad' : Nat → Nat} (h : ∀ k, k < n → ad' k = ad k) {L : AL} (hl : okl n L) {ls : Array Slot} {nL : Nat} (hv : lv_has ls nL (prs ad 0 L)) : lv_has ls nL (prs ad' 0 L) := by
  refine lv_fewer hv fun q hq => ?_
  obtain ⟨k, v, h1, rfl⟩ := prs_of hq
  rw [cv_ext h (hl k v h1)]
  exact prs_get h1
section OPS
variable {l : Launch} {F : Nat → AE} {D : va_G} {cy cr : Nat → ClassId} {ad0 : Nat → Nat} {p : Program} {e : Env} {R : Room} {s : State} {m : MethodId} {args : Array Value} {below : List Frame} {meth : Method} {c : Code} {A : Nat → Prop} {mt mst : Nat} {y : Nat}
variable {pc : Nat} {L : AL} {st : List AV} {w : AW} {bc bs : Nat} {Q : AQ}
theorem r_iaload (hF : Fx F D cy cr ad0 p R s m args meth c A mt mst y) {i : Int} {k n : Nat} {f : Nat → Int} (hd : decode (byt y) pc = .ok (.iaload, 1)) (hw : w.2 k = ea 0 n f) (hk : k < w.1) (h0 : 0 ≤ i) (h1 : i < (n : Int)) (h : Run l F D cy cr ad0 p e R s m args below meth c A mt mst y (pc + 1) L (vi (f i.toNat) :: st) w bc bs Q) : Run l F D cy cr ad0 p e R s m args below meth c A mt mst y pc L (vi i :: vr k :: st) w bc bs Q := by
  intro H locs cells slots ad ls Qc d1 d2 d3 d4 d5 d6 d7 d8 d9 d10 d11 fin
  have hi : in32 i := ok_h d6
  obtain ⟨-, -, -, -, -, -, -, -, -, -, -, -, hFO, hFR, -, -, hK⟩ := id hF
  rcases Nat.lt_or_ge k nfz with hz | hz
  · obtain ⟨a, b, -, b2⟩ := fz_int d5 hFO hz hw
    refine va_ti hF.1 hF.2.1 ((FR.ext d1 hFR).1 k n f a b) d4 (i32_in hi h0 h1) rfl hd ?_
    rw [i32_n hi]
    exact h H locs cells slots ad ls Qc d1 d2 d3 d4 d5 (ok_c (b2 _) (ok_t (ok_t d6))) d7 d8 d9 d10 d11 fin
  · have he := d5.2.1 k hz hk
    rw [hw] at he
    refine va_iald hF.1 hF.2.1 hK d2 (k - nfz) 0 (at_a hw hz hk (by decide)) rfl (i32_in hi h0 h1) hd ?_
    rw [i32_n hi]
    exact h H locs cells slots ad ls Qc d1 d2 d3 d4 d5 (ok_c (he.2.2 _) (ok_t (ok_t d6))) d7 d8 d9 d10 d11 fin
theorem r_baload1 (hF : Fx F D cy cr ad0 p R s m args meth c A mt mst y) {i : Int} {k n : Nat} {f : Nat → Int} (hd : decode (byt y) pc = .ok (.baload, 1)) (hw : w.2 k = ea 1 n f) (hk : k < w.1) (h0 : 0 ≤ i) (h1 : i < (n : Int)) (h : Run l F D cy cr ad0 p e R s m args below meth c A mt mst y (pc + 1) L (vi (f i.toNat) :: st) w bc bs Q) : Run l F D cy cr ad0 p e R s m args below meth c A mt mst y pc L (vi i :: vr k :: st) w bc bs Q := by
  intro H locs cells slots ad ls Qc d1 d2 d3 d4 d5 d6 d7 d8 d9 d10 d11 fin
  have hi : in32 i := ok_h d6
  obtain ⟨-, -, -, -, -, -, -, -, -, -, -, -, hFO, hFR, -, -, hK⟩ := id hF
  rcases Nat.lt_or_ge k nfz with hz | hz
  · obtain ⟨a, a2, b, -, b2⟩ := fz_byte d5 hFO hz hw
    refine va_tb hF.1 hF.2.1 ((FR.ext d1 hFR).2.2.1 k n f a a2 b) d4 (i32_in hi h0 h1) rfl hd ?_
    rw [i32_n hi]
    exact h H locs cells slots ad ls Qc d1 d2 d3 d4 d5 (ok_c (okt32 (b2 _) (by decide)) (ok_t (ok_t d6))) d7 d8 d9 d10 d11 fin
  · have he := d5.2.1 k hz hk
    rw [hw] at he
    refine va_bald hF.1 hF.2.1 hK d2 (k - nfz) 1 (at_a hw hz hk (by decide)) rfl (i32_in hi h0 h1) hd ?_
    rw [i32_n hi]
    exact h H locs cells slots ad ls Qc d1 d2 d3 d4 d5 (ok_c (okt32 (he.2.2 _) (by decide)) (ok_t (ok_t d6))) d7 d8 d9 d10 d11 fin
theorem r_baload2 (hF : Fx F D cy cr ad0 p R s m args meth c A mt mst y) {i : Int} {k n : Nat} {f : Nat → Int} (hd : decode (byt y) pc = .ok (.baload, 1)) (hw : w.2 k = ea 2 n f) (hk : k < w.1) (h0 : 0 ≤ i) (h1 : i < (n : Int)) (h : Run l F D cy cr ad0 p e R s m args below meth c A mt mst y (pc + 1) L (vi (f i.toNat) :: st) w bc bs Q) : Run l F D cy cr ad0 p e R s m args below meth c A mt mst y pc L (vi i :: vr k :: st) w bc bs Q := by
  intro H locs cells slots ad ls Qc d1 d2 d3 d4 d5 d6 d7 d8 d9 d10 d11 fin
  have hi : in32 i := ok_h d6
  obtain ⟨-, -, -, -, -, -, -, -, -, -, -, -, hFO, hFR, -, -, hK⟩ := id hF
  have hz := fz_no d5 hFO (Or.inl rfl) hw
  have he := d5.2.1 k hz hk
  rw [hw] at he
  refine va_zald hF.1 hF.2.1 hK d2 (k - nfz) 2 (at_a hw hz hk (by decide)) rfl (i32_in hi h0 h1) hd ?_
  rw [i32_n hi]
  exact h H locs cells slots ad ls Qc d1 d2 d3 d4 d5 (ok_c (okt32 (he.2.2 _) (by decide)) (ok_t (ok_t d6))) d7 d8 d9 d10 d11 fin
theorem r_laload (hF : Fx F D cy cr ad0 p R s m args meth c A mt mst y) {i : Int} {k n : Nat} {f : Nat → Int} (hd : decode (byt y) pc = .ok (.laload, 1)) (hw : w.2 k = ea 3 n f) (hk : k < w.1) (h0 : 0 ≤ i) (h1 : i < (n : Int)) (h : Run l F D cy cr ad0 p e R s m args below meth c A mt mst y (pc + 1) L (vl (f i.toNat) :: st) w bc bs Q) : Run l F D cy cr ad0 p e R s m args below meth c A mt mst y pc L (vi i :: vr k :: st) w bc bs Q := by
  intro H locs cells slots ad ls Qc d1 d2 d3 d4 d5 d6 d7 d8 d9 d10 d11 fin
  have hi : in32 i := ok_h d6
  obtain ⟨-, -, -, -, -, -, -, -, -, -, -, -, hFO, hFR, -, -, hK⟩ := id hF
  have hz := fz_no d5 hFO (Or.inr rfl) hw
  have he := d5.2.1 k hz hk
  rw [hw] at he
  refine va_lald hF.1 hF.2.1 hK d2 (k - nfz) 3 (at_l hw hz hk) rfl (i32_in hi h0 h1) hd ?_
  rw [i32_n hi]
  exact h H locs cells slots ad ls Qc d1 d2 d3 d4 d5 (ok_c (he.2.2 _) (ok_t (ok_t d6))) d7 d8 d9 d10 d11 fin
theorem r_aaload (hF : Fx F D cy cr ad0 p R s m args meth c A mt mst y) {i : Int} {k cn n : Nat} {f : Nat → Option Nat} (hd : decode (byt y) pc = .ok (.aaload, 1)) (hw : w.2 k = er cn n f) (hk : k < w.1) (h0 : 0 ≤ i) (h1 : i < (n : Int)) (h : Run l F D cy cr ad0 p e R s m args below meth c A mt mst y (pc + 1) L (vo (f i.toNat) :: st) w bc bs Q) : Run l F D cy cr ad0 p e R s m args below meth c A mt mst y pc L (vi i :: vr k :: st) w bc bs Q := by
  intro H locs cells slots ad ls Qc d1 d2 d3 d4 d5 d6 d7 d8 d9 d10 d11 fin
  have hi : in32 i := ok_h d6
  obtain ⟨-, -, -, -, -, -, -, -, -, -, -, -, hFO, hFR, -, -, hK⟩ := id hF
  have hz := fz_nor d5 hFO hw
  have he := d5.2.1 k hz hk
  rw [hw] at he
  obtain ⟨t0, ht0⟩ := tyr_at (cy := cy) (cr := cr) he.1
  refine va_aldq hF.1 hF.2.1 hK d2 (k - nfz) t0 (at_r hw hz hk) ht0 (i32_in hi h0 h1) hd ?_
  rw [i32_n hi, rf_cv]
  refine h H locs cells slots ad ls Qc d1 d2 d3 d4 d5 (ok_c ?_ (ok_t (ok_t d6))) d7 d8 d9 d10 d11 fin
  cases hf : f i.toNat with
  | none => trivial
  | some j => exact he.2.2 _ _ hf
theorem r_iastore (hF : Fx F D cy cr ad0 p R s m args meth c A mt mst y) {x i : Int} {k n : Nat} {f : Nat → Int} (hd : decode (byt y) pc = .ok (.iastore, 1)) (hw : w.2 k = ea 0 n f) (hz : nfz ≤ k) (hk : k < w.1) (h0 : 0 ≤ i) (h1 : i < (n : Int))  (h : Run l F D cy cr ad0 p e R s m args below meth c A mt mst y (pc + 1) L st (wu w k (ea 0 n (fu f i.toNat x))) bc bs Q) : Run l F D cy cr ad0 p e R s m args below meth c A mt mst y pc L (vi x :: vi i :: vr k :: st) w bc bs Q := by
  intro H locs cells slots ad ls Qc d1 d2 d3 d4 d5 d6 d7 d8 d9 d10 d11 fin
  have hi : in32 i := ok_h (ok_t d6)
  obtain ⟨-, -, -, -, -, -, -, -, -, -, -, -, hFO, hFR, -, -, hK⟩ := id hF
  have he := d5.2.1 k hz hk
  rw [hw] at he
  have hoke : oke w.1 (ea 0 n (fu f i.toNat x)) := ⟨he.1, he.2.1, fun j => by
    simp only [fu]
    split
    · exact ok_h d6
    · exact he.2.2 j⟩
  refine va_iast hF.1 hF.2.1 hK d2 d3 d4 (k - nfz) 0 (at_a hw hz hk (by decide)) rfl (i32_in hi h0 h1) hd (fun H1 locs1 g1 g2 g3 => ?_)
  rw [i32_n hi, up32] at g1 g2
  have ee : (conc cy cr ad w).set (k - nfz) (ad k, .inl (cy 0, n, .inl (fun j => Int32.ofInt (fu f i.toNat x j)))) = conc cy cr ad (wu w k (ea 0 n (fu f i.toNat x))) := conc_set (ea 0 n (fu f i.toNat x)) hz
  rw [ee] at g1 g2
  exact h H1 locs1 cells slots ad ls Qc d1 g1 g2 g3 (okW_set d5 hz hoke) (ok_t (ok_t (ok_t d6))) d7 d8 d9 d10 d11 fin
theorem r_bastore1 (hF : Fx F D cy cr ad0 p R s m args meth c A mt mst y) {x i : Int} {k n : Nat} {f : Nat → Int} (hd : decode (byt y) pc = .ok (.bastore, 1)) (hw : w.2 k = ea 1 n f) (hz : nfz ≤ k) (hk : k < w.1) (h0 : 0 ≤ i) (h1 : i < (n : Int)) (hx : okt 1 x) (h : Run l F D cy cr ad0 p e R s m args below meth c A mt mst y (pc + 1) L st (wu w k (ea 1 n (fu f i.toNat x))) bc bs Q) : Run l F D cy cr ad0 p e R s m args below meth c A mt mst y pc L (vi x :: vi i :: vr k :: st) w bc bs Q := by
  intro H locs cells slots ad ls Qc d1 d2 d3 d4 d5 d6 d7 d8 d9 d10 d11 fin
  have hi : in32 i := ok_h (ok_t d6)
  obtain ⟨-, -, -, -, -, -, -, -, -, -, -, -, hFO, hFR, -, -, hK⟩ := id hF
  have he := d5.2.1 k hz hk
  rw [hw] at he
  have hoke : oke w.1 (ea 1 n (fu f i.toNat x)) := ⟨he.1, he.2.1, fun j => by
    simp only [fu]
    split
    · exact hx
    · exact he.2.2 j⟩
  refine va_bast hF.1 hF.2.1 hK d2 d3 d4 (k - nfz) 1 (at_a hw hz hk (by decide)) rfl (i32_in hi h0 h1) hd (fun H1 locs1 g1 g2 g3 => ?_)
  rw [i32_n hi, nar1 hx, up32] at g1 g2
  have ee : (conc cy cr ad w).set (k - nfz) (ad k, .inl (cy 1, n, .inl (fun j => Int32.ofInt (fu f i.toNat x j)))) = conc cy cr ad (wu w k (ea 1 n (fu f i.toNat x))) := conc_set (ea 1 n (fu f i.toNat x)) hz
  rw [ee] at g1 g2
  exact h H1 locs1 cells slots ad ls Qc d1 g1 g2 g3 (okW_set d5 hz hoke) (ok_t (ok_t (ok_t d6))) d7 d8 d9 d10 d11 fin
theorem r_bastore2 (hF : Fx F D cy cr ad0 p R s m args meth c A mt mst y) {x i : Int} {k n : Nat} {f : Nat → Int} (hd : decode (byt y) pc = .ok (.bastore, 1)) (hw : w.2 k = ea 2 n f) (hz : nfz ≤ k) (hk : k < w.1) (h0 : 0 ≤ i) (h1 : i < (n : Int)) (hx : okt 2 x) (h : Run l F D cy cr ad0 p e R s m args below meth c A mt mst y (pc + 1) L st (wu w k (ea 2 n (fu f i.toNat x))) bc bs Q) : Run l F D cy cr ad0 p e R s m args below meth c A mt mst y pc L (vi x :: vi i :: vr k :: st) w bc bs Q := by
  intro H locs cells slots ad ls Qc d1 d2 d3 d4 d5 d6 d7 d8 d9 d10 d11 fin
  have hi : in32 i := ok_h (ok_t d6)
  obtain ⟨-, -, -, -, -, -, -, -, -, -, -, -, hFO, hFR, -, -, hK⟩ := id hF
  have he := d5.2.1 k hz hk
  rw [hw] at he
  have hoke : oke w.1 (ea 2 n (fu f i.toNat x)) := ⟨he.1, he.2.1, fun j => by
    simp only [fu]
    split
    · exact hx
    · exact he.2.2 j⟩
  refine va_zast hF.1 hF.2.1 hK d2 d3 d4 (k - nfz) 2 (at_a hw hz hk (by decide)) rfl (i32_in hi h0 h1) hd (fun H1 locs1 g1 g2 g3 => ?_)
  rw [i32_n hi, nar2 hx, up32] at g1 g2
  have ee : (conc cy cr ad w).set (k - nfz) (ad k, .inl (cy 2, n, .inl (fun j => Int32.ofInt (fu f i.toNat x j)))) = conc cy cr ad (wu w k (ea 2 n (fu f i.toNat x))) := conc_set (ea 2 n (fu f i.toNat x)) hz
  rw [ee] at g1 g2
  exact h H1 locs1 cells slots ad ls Qc d1 g1 g2 g3 (okW_set d5 hz hoke) (ok_t (ok_t (ok_t d6))) d7 d8 d9 d10 d11 fin
theorem r_lastore (hF : Fx F D cy cr ad0 p R s m args meth c A mt mst y) {x i : Int} {k n : Nat} {f : Nat → Int} (hd : decode (byt y) pc = .ok (.lastore, 1)) (hw : w.2 k = ea 3 n f) (hz : nfz ≤ k) (hk : k < w.1) (h0 : 0 ≤ i) (h1 : i < (n : Int))  (h : Run l F D cy cr ad0 p e R s m args below meth c A mt mst y (pc + 1) L st (wu w k (ea 3 n (fu f i.toNat x))) bc bs Q) : Run l F D cy cr ad0 p e R s m args below meth c A mt mst y pc L (vl x :: vi i :: vr k :: st) w bc bs Q := by
  intro H locs cells slots ad ls Qc d1 d2 d3 d4 d5 d6 d7 d8 d9 d10 d11 fin
  have hi : in32 i := ok_h (ok_t d6)
  obtain ⟨-, -, -, -, -, -, -, -, -, -, -, -, hFO, hFR, -, -, hK⟩ := id hF
  have he := d5.2.1 k hz hk
  rw [hw] at he
  have hoke : oke w.1 (ea 3 n (fu f i.toNat x)) := ⟨he.1, he.2.1, fun j => by
    simp only [fu]
    split
    · exact ok_h d6
    · exact he.2.2 j⟩
  refine va_last hF.1 hF.2.1 hK d2 d3 d4 (k - nfz) 3 (at_l hw hz hk) rfl (i32_in hi h0 h1) hd (fun H1 locs1 g1 g2 g3 => ?_)
  rw [i32_n hi, up64] at g1 g2
  have ee : (conc cy cr ad w).set (k - nfz) (ad k, .inl (cy 3, n, .inr (.inl (fun j => Int64.ofInt (fu f i.toNat x j))))) = conc cy cr ad (wu w k (ea 3 n (fu f i.toNat x))) := conc_set (ea 3 n (fu f i.toNat x)) hz
  rw [ee] at g1 g2
  exact h H1 locs1 cells slots ad ls Qc d1 g1 g2 g3 (okW_set d5 hz hoke) (ok_t (ok_t (ok_t d6))) d7 d8 d9 d10 d11 fin
theorem r_alen (hF : Fx F D cy cr ad0 p R s m args meth c A mt mst y) {k t n : Nat} {f : Nat → Int} (hd : decode (byt y) pc = .ok (.arraylength, 1)) (hw : w.2 k = ea t n f) (hk : k < w.1) (ht : t < 4) (h : Run l F D cy cr ad0 p e R s m args below meth c A mt mst y (pc + 1) L (vi (n : Int) :: st) w bc bs Q) : Run l F D cy cr ad0 p e R s m args below meth c A mt mst y pc L (vr k :: st) w bc bs Q := by
  intro H locs cells slots ad ls Qc d1 d2 d3 d4 d5 d6 d7 d8 d9 d10 d11 fin
  obtain ⟨-, -, -, -, -, -, -, -, -, -, -, -, hFO, hFR, -, -, hK⟩ := id hF
  rcases Nat.lt_or_ge k nfz with hz | hz
  · rcases fz_cases d5 hFO hz with ⟨a, n', f', q1, q2, q3, -⟩ | ⟨_, _, q⟩ | ⟨a, b, n', f', q1, q2, q3, -⟩ | q
    · rw [hw] at q1
      cases q1
      refine va_tlen hF.1 hF.2.1 ((FR.ext d1 hFR).1 k n f a q2) d4 Int32.ofInt_eq_ofNat.symm hd ?_
      exact h H locs cells slots ad ls Qc d1 d2 d3 d4 d5 (ok_c (show in32 (n : Int) by unfold in32; omega) (ok_t d6)) d7 d8 d9 d10 d11 fin
    · rw [hw] at q; cases q
    · rw [hw] at q1
      cases q1
      refine va_tlen hF.1 hF.2.1 ((FR.ext d1 hFR).2.2.1 k n f a b q2) d4 Int32.ofInt_eq_ofNat.symm hd ?_
      exact h H locs cells slots ad ls Qc d1 d2 d3 d4 d5 (ok_c (show in32 (n : Int) by unfold in32; omega) (ok_t d6)) d7 d8 d9 d10 d11 fin
    · rw [hw] at q; cases q; omega
  · have he := d5.2.1 k hz hk
    rw [hw] at he
    have hn := he.2.1
    have hat := conc_at (cy := cy) (cr := cr) (ad := ad) hz hk
    rw [hw] at hat
    refine va_alen hF.1 hF.2.1 hK d2 (k - nfz) t hat (tyl_at ht) (v := Int32.ofInt (n : Int)) Int32.ofInt_eq_ofNat.symm hd ?_
    exact h H locs cells slots ad ls Qc d1 d2 d3 d4 d5 (ok_c (show in32 (n : Int) by unfold in32; omega) (ok_t d6)) d7 d8 d9 d10 d11 fin
theorem r_alenr (hF : Fx F D cy cr ad0 p R s m args meth c A mt mst y) {k t n : Nat} {f : Nat → Option Nat} (hd : decode (byt y) pc = .ok (.arraylength, 1)) (hw : w.2 k = er t n f) (hk : k < w.1) (h : Run l F D cy cr ad0 p e R s m args below meth c A mt mst y (pc + 1) L (vi (n : Int) :: st) w bc bs Q) : Run l F D cy cr ad0 p e R s m args below meth c A mt mst y pc L (vr k :: st) w bc bs Q := by
  intro H locs cells slots ad ls Qc d1 d2 d3 d4 d5 d6 d7 d8 d9 d10 d11 fin
  obtain ⟨-, -, -, -, -, -, -, -, -, -, -, -, hFO, hFR, -, -, hK⟩ := id hF
  have hz := fz_nor d5 hFO hw
  have he := d5.2.1 k hz hk
  rw [hw] at he
  have hn := he.2.1
  obtain ⟨t0, ht0⟩ := tyr_at (cy := cy) (cr := cr) he.1
  refine va_alen hF.1 hF.2.1 hK d2 (k - nfz) t0 (at_r hw hz hk) ht0 (v := Int32.ofInt (n : Int)) Int32.ofInt_eq_ofNat.symm hd ?_
  exact h H locs cells slots ad ls Qc d1 d2 d3 d4 d5 (ok_c (show in32 (n : Int) by unfold in32; omega) (ok_t d6)) d7 d8 d9 d10 d11 fin
end OPS
