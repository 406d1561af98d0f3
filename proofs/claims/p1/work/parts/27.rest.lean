theorem cp32 (f g : Nat → Int) (sp dp n : Nat) : va_cpy (fun j => Int32.ofInt (f j)) (fun j => Int32.ofInt (g j)) sp dp n = fun j => Int32.ofInt (fcp f g sp dp n j) := by
  funext j
  simp only [va_cpy, fcp]
  split <;> rfl
section OPS
variable {l : Launch} {F : Nat → AE} {D : va_G} {cy cr : Nat → ClassId} {ad0 : Nat → Nat} {p : Program} {e : Env} {R : Room} {s : State} {m : MethodId} {args : Array Value} {below : List Frame} {meth : Method} {c : Code} {A : Nat → Prop} {mt mst : Nat} {y : Nat}
variable {pc : Nat} {L : AL} {st : List AV} {w : AW} {bc bs : Nat} {Q : AQ}
theorem r_ldc (hF : Fx F D cy cr ad0 p R s m args meth c A mt mst y) {x : Nat} {z : Int} (hd : decode (byt y) pc = .ok (.ldc x, 2)) (hz : in32 z) (hl : Cond.constant (nmy y).cls x (Int32.ofInt z) ∈ wsu) (h : Run l F D cy cr ad0 p e R s m args below meth c A mt mst y (pc + 2) L (vi z :: st) w bc bs Q) : Run l F D cy cr ad0 p e R s m args below meth c A mt mst y pc L st w bc bs Q := by
  intro H locs cells slots ad ls Qc d1 d2 d3 d4 d5 d6 d7 d8 d9 d10 d11 fin
  obtain ⟨-, -, hml, hown, hts, hlk, hrt, hnm, hrf, hrl, hmt, hmst, hFO, hFR, hFV, hA, hK⟩ := id hF
  refine lv_ldc hF.1 hF.2.1 hown (hts _ hl) hd ?_
  exact h H locs cells slots ad ls Qc d1 d2 d3 d4 d5 (ok_c hz d6) d7 d8 d9 d10 d11 fin
theorem r_ldcw (hF : Fx F D cy cr ad0 p R s m args meth c A mt mst y) {x : Nat} {z : Int} (hd : decode (byt y) pc = .ok (.ldc_w x, 3)) (hz : in32 z) (hl : Cond.constant (nmy y).cls x (Int32.ofInt z) ∈ wsu) (h : Run l F D cy cr ad0 p e R s m args below meth c A mt mst y (pc + 3) L (vi z :: st) w bc bs Q) : Run l F D cy cr ad0 p e R s m args below meth c A mt mst y pc L st w bc bs Q := by
  intro H locs cells slots ad ls Qc d1 d2 d3 d4 d5 d6 d7 d8 d9 d10 d11 fin
  obtain ⟨-, -, hml, hown, hts, hlk, hrt, hnm, hrf, hrl, hmt, hmst, hFO, hFR, hFV, hA, hK⟩ := id hF
  refine lv_ldcw hF.1 hF.2.1 hown (hts _ hl) hd ?_
  exact h H locs cells slots ad ls Qc d1 d2 d3 d4 d5 (ok_c hz d6) d7 d8 d9 d10 d11 fin
theorem r_ldc2 (hF : Fx F D cy cr ad0 p R s m args meth c A mt mst y) {x : Nat} {z : Int} (hd : decode (byt y) pc = .ok (.ldc2_w x, 3)) (hz : in64 z) (hl : Cond.constantLong (nmy y).cls x (Int64.ofInt z) ∈ wsu) (h : Run l F D cy cr ad0 p e R s m args below meth c A mt mst y (pc + 3) L (vl z :: st) w bc bs Q) : Run l F D cy cr ad0 p e R s m args below meth c A mt mst y pc L st w bc bs Q := by
  intro H locs cells slots ad ls Qc d1 d2 d3 d4 d5 d6 d7 d8 d9 d10 d11 fin
  obtain ⟨-, -, hml, hown, hts, hlk, hrt, hnm, hrf, hrl, hmt, hmst, hFO, hFR, hFV, hA, hK⟩ := id hF
  refine lv_ldc2 hF.1 hF.2.1 hown (hts _ hl) hd ?_
  exact h H locs cells slots ad ls Qc d1 d2 d3 d4 d5 (ok_c hz d6) d7 d8 d9 d10 d11 fin
theorem r_ldcS (hF : Fx F D cy cr ad0 p R s m args meth c A mt mst y) {x a : Nat} {tx : String} (hd : decode (byt y) pc = .ok (.ldc x, 2)) (ha : a < nfz) (hl : ((nmy y).cls, x, tx, a) ∈ strl) (h : Run l F D cy cr ad0 p e R s m args below meth c A mt mst y (pc + 2) L (vr a :: st) w bc bs Q) : Run l F D cy cr ad0 p e R s m args below meth c A mt mst y pc L st w bc bs Q := by
  intro H locs cells slots ad ls Qc d1 d2 d3 d4 d5 d6 d7 d8 d9 d10 d11 fin
  obtain ⟨-, -, hml, hown, hts, hlk, hrt, hnm, hrf, hrl, hmt, hmst, hFO, hFR, hFV, hA, hK⟩ := id hF
  have hR := hFV.1 _ hl
  have e1 : ad a = ad0 a := d1 a ha
  refine va_ldcS (q := ad a) hF.1 hF.2.1 hown (by rw [e1]; exact hR) hd ?_
  exact h H locs cells slots ad ls Qc d1 d2 d3 d4 d5 (ok_c (show a < w.1 by have := d5.1; omega) d6) d7 d8 d9 d10 d11 fin
theorem r_ldcwS (hF : Fx F D cy cr ad0 p R s m args meth c A mt mst y) {x a : Nat} {tx : String} (hd : decode (byt y) pc = .ok (.ldc_w x, 3)) (ha : a < nfz) (hl : ((nmy y).cls, x, tx, a) ∈ strl) (h : Run l F D cy cr ad0 p e R s m args below meth c A mt mst y (pc + 3) L (vr a :: st) w bc bs Q) : Run l F D cy cr ad0 p e R s m args below meth c A mt mst y pc L st w bc bs Q := by
  intro H locs cells slots ad ls Qc d1 d2 d3 d4 d5 d6 d7 d8 d9 d10 d11 fin
  obtain ⟨-, -, hml, hown, hts, hlk, hrt, hnm, hrf, hrl, hmt, hmst, hFO, hFR, hFV, hA, hK⟩ := id hF
  have hR := hFV.1 _ hl
  rw [← d1 a ha] at hR
  have hh := h H locs cells slots ad ls Qc d1 d2 d3 d4 d5 (ok_c (show a < w.1 by have := d5.1; omega) d6) d7 d8 d9 d10 d11 fin
  intro T hT X
  obtain ⟨t, a1, b1⟩ := hh T hT X
  refine ⟨t, ?_, b1⟩
  obtain ⟨k, cf, i, a', hk, hcf, hcp, -, hr, hev'⟩ := Cond.stringRef_spec hown hR.1
  cases hR.2.symm.trans hev'
  obtain ⟨k', hk', he⟩ := X.warmed.alike.2.2 _ _ hk
  have hr' : k'.resolved[x]? = some (some (.string (ad a))) := by
    rcases X.warmed.entry hk hk' x with h | ⟨h, -⟩
    · rw [h]; exact hr
    · rw [hr] at h; cases h
  jvm_step X.here [hF.1, hF.2.1, hd, ldc_w.wp_string (e := e) (s := T) (f := F0 m pc ls (st.map (cv ad))) X.here.top hk' (by rw [he]; exact hcf) hcp hr']
  exact a1
theorem r_gets (hF : Fx F D cy cr ad0 p R s m args meth c A mt mst y) {x a : Nat} {C n : String} (hd : decode (byt y) pc = .ok (.getstatic x, 3)) (ha : a < nfz) (hs : (C, n, a) ∈ statl) (hl : Cond.fieldLink (nmy y).cls x C n "[I" ∈ wsu ∨ ∃ host, ((nmy y).cls, x, C, n, "[I", host) ∈ nestF) (h : Run l F D cy cr ad0 p e R s m args below meth c A mt mst y (pc + 3) L (vr a :: st) w bc bs Q) : Run l F D cy cr ad0 p e R s m args below meth c A mt mst y pc L st w bc bs Q := by
  intro H locs cells slots ad ls Qc d1 d2 d3 d4 d5 d6 d7 d8 d9 d10 d11 fin
  obtain ⟨-, -, hml, hown, hts, hlk, hrt, hnm, hrf, hrl, hmt, hmst, hFO, hFR, hFV, hA, hK⟩ := id hF
  have hh := h H locs cells slots ad ls Qc d1 d2 d3 d4 d5 (ok_c (show a < w.1 by have := d5.1; omega) d6) d7 d8 d9 d10 d11 fin
  have hZ : va_Z C n "[I" (.ref (ad a)) A s s.heap := by rw [d1 a ha]; exact (hFR.2.2.2.1 _ hs).1
  rcases hl with hl | ⟨host, hl⟩
  · exact va_gets hF.1 hF.2.1 hZ d4 hown (hts _ hl) (fun _ q => q) hd hh
  · exact va_getsN hF.1 hF.2.1 hZ d4 hown (va_Nw.use rfl (hFV.2.1 _ hl)) (fun _ q => q) hd hh
theorem r_getsC (hF : Fx F D cy cr ad0 p R s m args meth c A mt mst y) {x : Nat} (hd : decode (byt y) pc = .ok (.getstatic x, 3)) (hl : Cond.fieldLink (nmy y).cls x "java/lang/String" "COMPACT_STRINGS" "Z" ∈ wsu) (h : Run l F D cy cr ad0 p e R s m args below meth c A mt mst y (pc + 3) L (vi 1 :: st) w bc bs Q) : Run l F D cy cr ad0 p e R s m args below meth c A mt mst y pc L st w bc bs Q := by
  intro H locs cells slots ad ls Qc d1 d2 d3 d4 d5 d6 d7 d8 d9 d10 d11 fin
  obtain ⟨-, -, hml, hown, hts, hlk, hrt, hnm, hrf, hrl, hmt, hmst, hFO, hFR, hFV, hA, hK⟩ := id hF
  have hh := h H locs cells slots ad ls Qc d1 d2 d3 d4 d5 (ok_c (show in32 1 from ⟨by decide, by decide⟩) d6) d7 d8 d9 d10 d11 fin
  exact va_gets hF.1 hF.2.1 hFR.2.2.2.2.1 d4 hown (hts _ hl) (fun _ q => q) hd hh
theorem r_getsF (hF : Fx F D cy cr ad0 p R s m args meth c A mt mst y) {x : Nat} (hd : decode (byt y) pc = .ok (.getstatic x, 3)) (hl : Cond.fieldLink (nmy y).cls x "jdk/internal/util/Preconditions" "SIOOBE_FORMATTER" "Ljava/util/function/BiFunction;" ∈ wsu) (h : ∀ r : Option Nat, (r = none ∨ r = some (nfz - 1)) → Run l F D cy cr ad0 p e R s m args below meth c A mt mst y (pc + 3) L (vo r :: st) w bc bs Q) : Run l F D cy cr ad0 p e R s m args below meth c A mt mst y pc L st w bc bs Q := by
  intro H locs cells slots ad ls Qc d1 d2 d3 d4 d5 d6 d7 d8 d9 d10 d11 fin
  obtain ⟨-, -, hml, hown, hts, hlk, hrt, hnm, hrf, hrl, hmt, hmst, hFO, hFR, hFV, hA, hK⟩ := id hF
  have hn := d5.1
  rcases hFR.2.2.2.2.2 with hZ | hZ
  · exact va_gets hF.1 hF.2.1 hZ d4 hown (hts _ hl) (fun _ q => q) hd (h none (Or.inl rfl) H locs cells slots ad ls Qc d1 d2 d3 d4 d5 (ok_c trivial d6) d7 d8 d9 d10 d11 fin)
  · rw [← d1 (nfz - 1) (by have q1 : nfz = 67 := rfl; have q2 : fz0 = 6 := rfl; have q3 : fz1 = 36 := rfl; omega)] at hZ
    exact va_gets hF.1 hF.2.1 hZ d4 hown (hts _ hl) (fun _ q => q) hd (h (some (nfz - 1)) (Or.inr rfl) H locs cells slots ad ls Qc d1 d2 d3 d4 d5 (ok_c (show nfz - 1 < w.1 from (by have q1 : nfz = 67 := rfl; have q2 : fz0 = 6 := rfl; have q3 : fz1 = 36 := rfl; omega)) d6) d7 d8 d9 d10 d11 fin)
theorem r_aastore (hF : Fx F D cy cr ad0 p R s m args meth c A mt mst y) {i : Int} {j k cn n : Nat} {f : Nat → Option Nat} {fs : List AV} (hd : decode (byt y) pc = .ok (.aastore, 1)) (hC : CO cn) (hw : w.2 k = er cn n f) (hv : w.2 j = eo cn fs) (hz : nfz ≤ k) (hk : k < w.1) (hzj : nfz ≤ j) (hj : j < w.1) (h0 : 0 ≤ i) (h1 : i < (n : Int)) (h : Run l F D cy cr ad0 p e R s m args below meth c A mt mst y (pc + 1) L st (wu w k (er cn n (fu f i.toNat (some j)))) bc bs Q) : Run l F D cy cr ad0 p e R s m args below meth c A mt mst y pc L (vr j :: vi i :: vr k :: st) w bc bs Q := by
  intro H locs cells slots ad ls Qc d1 d2 d3 d4 d5 d6 d7 d8 d9 d10 d11 fin
  obtain ⟨-, -, hml, hown, hts, hlk, hrt, hnm, hrf, hrl, hmt, hmst, hFO, hFR, hFV, hA, hK⟩ := id hF
  have hi : in32 i := ok_h (ok_t d6)
  have he := d5.2.1 k hz hk
  rw [hw] at he
  obtain ⟨T, N, ty, c1, -⟩ := hC
  obtain ⟨t0, ht0⟩ := tyr_at (cy := cy) (cr := cr) he.1
  have hoke : oke w.1 (er cn n (fu f i.toNat (some j))) := ⟨he.1, he.2.1, fun q r hq => by
    simp only [fu] at hq
    split at hq
    · cases hq; exact hj
    · exact he.2.2 q r hq⟩
  refine va_astq hF.1 hF.2.1 hK d2 d3 d4 (k - nfz) t0 (j - nfz) cn (at_r hw hz hk) ht0 (at_o hv hzj hj) c1 (i32_in hi h0 h1) hd (fun H1 locs1 g1 g2 g3 => ?_)
  rw [i32_n hi, upr] at g1 g2
  have ee : (conc cy cr ad w).set (k - nfz) (ad k, .inl (cr cn, n, .inr (.inr (.inr (.inr (fun q => (fu f i.toNat (some j) q).map ad)))))) = conc cy cr ad (wu w k (er cn n (fu f i.toNat (some j)))) := conc_set (er cn n (fu f i.toNat (some j))) hz
  rw [ee] at g1 g2
  exact h H1 locs1 cells slots ad ls Qc d1 g1 g2 g3 (okW_set d5 hz hoke) (ok_t (ok_t (ok_t d6))) d7 d8 d9 d10 d11 fin
theorem r_copy (hF : Fx F D cy cr ad0 p R s m args meth c A mt mst y) {x : Nat} {n dp sp : Int} {d sa n0 n1 : Nat} {f g : Nat → Int} (hd : decode (byt y) pc = .ok (.invokestatic x, 3)) (hl : Cond.methodLink (nmy y).cls x arraycopyName ∈ wsu) (hl2 : Cond.native arraycopyName ∈ wsu) (hl3 : Cond.static arraycopyName ∈ wsu) (hl4 : Cond.initialized "java/lang/System" ∈ wsu) (hr1 : 1 ≤ rfy y) (hr2 : 26 ≤ rly y) (hs : w.2 sa = ea 0 n0 f) (hw : w.2 d = ea 0 n1 g) (hzs : nfz ≤ sa) (hks : sa < w.1) (hz : nfz ≤ d) (hk : d < w.1) (hst : stw st ≤ 8) (h1 : 0 ≤ sp) (h2 : 0 ≤ dp) (h3 : 0 ≤ n) (h4 : sp + n ≤ (n0 : Int)) (h5 : dp + n ≤ (n1 : Int)) (h : Run l F D cy cr ad0 p e R s m args below meth c A mt mst y (pc + 3) L st (wu w d (ea 0 n1 (fcp f g sp.toNat dp.toNat n.toNat))) bc bs Q) : Run l F D cy cr ad0 p e R s m args below meth c A mt mst y pc L (vi n :: vi dp :: vr d :: vi sp :: vr sa :: st) w bc bs Q := by
  intro H locs cells slots ad ls Qc d1 d2 d3 d4 d5 d6 d7 d8 d9 d10 d11 fin
  obtain ⟨-, -, hml, hown, hts, hlk, hrt, hnm, hrf, hrl, hmt, hmst, hFO, hFR, hFV, hA, hK⟩ := id hF
  have i1 : in32 n := ok_h d6
  have i2 : in32 dp := ok_h (ok_t d6)
  have i3 : in32 sp := ok_h (ok_t (ok_t (ok_t d6)))
  have he := d5.2.1 d hz hk
  rw [hw] at he
  have hes := d5.2.1 sa hzs hks
  rw [hs] at hes
  have hoke : oke w.1 (ea 0 n1 (fcp f g sp.toNat dp.toNat n.toNat)) := ⟨he.1, he.2.1, fun j => by
    simp only [fcp]
    split
    · exact hes.2.2 _
    · exact he.2.2 _⟩
  refine va_copyi (ty := .int) hF.1 hF.2.1 (by rw [hml]; exact d8.1.symm) hown (hts _ hl) (hts _ hl2) (hts _ hl3) (hts _ hl4) hK d2 d3 d4 (sa - nfz) (d - nfz) 0 0 (at_a hs hzs hks (by decide)) (at_a hw hz hk (by decide)) rfl rfl rfl (fun q => by have := (i32_lt i3 i32_z).mp q; omega) (fun q => by have := (i32_lt i2 i32_z).mp q; omega) (fun q => by have := (i32_lt i1 i32_z).mp q; omega) (by rw [i32_n i3, i32_n i1]; omega) (by rw [i32_n i2, i32_n i1]; omega) (fun _ _ => rfl) (by omega) (by
    rw [cv_cats]
    have : nativeFrameWords "java/lang/System" "arraycopy" 5 = 7 := by decide
    omega) hd (fun H1 locs1 g1 g2 g3 => ?_)
  rw [i32_n i1, i32_n i2, i32_n i3, cp32] at g1 g2
  have ee : (conc cy cr ad w).set (d - nfz) (ad d, .inl (cy 0, n1, .inl (fun j => Int32.ofInt (fcp f g sp.toNat dp.toNat n.toNat j)))) = conc cy cr ad (wu w d (ea 0 n1 (fcp f g sp.toNat dp.toNat n.toNat))) := conc_set (ea 0 n1 (fcp f g sp.toNat dp.toNat n.toNat)) hz
  rw [ee] at g1 g2
  exact h H1 locs1 cells slots ad ls Qc d1 g1 g2 g3 (okW_set d5 hz hoke) (ok_t (ok_t (ok_t (ok_t (ok_t d6))))) d7 d8 d9 d10 d11 fin
theorem r_obj (hF : Fx F D cy cr ad0 p R s m args meth c A mt mst y) {x j : Nat} (hd : decode (byt y) pc = .ok (.invokespecial x, 3)) (hl : Cond.methodLink (nmy y).cls x Lib.objectInit ∈ wsu) (hl2 : Cond.instanceMethod Lib.objectInit ∈ wsu) (hl3 : Cond.code Lib.objectInit ⟨#[0xb1]⟩ 1 none ∈ wsu) (hr1 : 1 ≤ rfy y) (hr2 : 20 ≤ rly y) (hst : stw st ≤ 8) (h : Run l F D cy cr ad0 p e R s m args below meth c A mt mst y (pc + 3) L st w bc bs Q) : Run l F D cy cr ad0 p e R s m args below meth c A mt mst y pc L (vr j :: st) w bc bs Q := by
  intro H locs cells slots ad ls Qc d1 d2 d3 d4 d5 d6 d7 d8 d9 d10 d11 fin
  obtain ⟨-, -, hml, hown, hts, hlk, hrt, hnm, hrf, hrl, hmt, hmst, hFO, hFR, hFV, hA, hK⟩ := id hF
  refine W.objInit hF.1 hF.2.1 hown (hts _ hl) (hts _ hl2) (hts _ hl3) (g := F0 m pc ls (.ref (ad j) :: st.map (cv ad))) rfl (by rw [hml]; exact d8.1) rfl hd (by omega) (by
    rw [cv_cats]
    show 2 * 0 + _ + 12 ≤ _
    omega) ?_
  exact h H locs cells slots ad ls Qc d1 d2 d3 d4 d5 (ok_t d6) d7 d8 d9 d10 d11 fin
theorem r_iret (hF : Fx F D cy cr ad0 p R s m args meth c A mt mst y) {z : Int} (hd : decode (byt y) pc = .ok (.ireturn, 1)) (hr : rty y = (some .int))  (hq : Q (some (vi z)) w) : Run l F D cy cr ad0 p e R s m args below meth c A mt mst y pc L [vi z] w bc bs Q := by
  intro H locs cells slots ad ls Qc d1 d2 d3 d4 d5 d6 d7 d8 d9 d10 d11 fin
  obtain ⟨-, -, hml, hown, hts, hlk, hrt, hnm, hrf, hrl, hmt, hmst, hFO, hFR, hFV, hA, hK⟩ := id hF
  refine W.widen (k := mt) (n := mst) (by omega) (by omega) ?_
  refine W.iret hF.1 hF.2.1 (hrt.trans hr) (fun t ht hW => fin (some (vi z)) w ad t locs hq (fun _ _ => rfl) (Nat.le_refl _) (by rw [ht]; exact d2) d3 (by rw [ht]; exact d4) d5 (ok_h d6) hW) d4.2.2 hd hlk
theorem r_zret (hF : Fx F D cy cr ad0 p R s m args meth c A mt mst y) {z : Int} {ty : FieldType} (hd : decode (byt y) pc = .ok (.ireturn, 1)) (hr : rty y = (some ty)) (hn : narrow ty (.int (Int32.ofInt z)) = .int (Int32.ofInt z)) (hq : Q (some (vi z)) w) : Run l F D cy cr ad0 p e R s m args below meth c A mt mst y pc L [vi z] w bc bs Q := by
  intro H locs cells slots ad ls Qc d1 d2 d3 d4 d5 d6 d7 d8 d9 d10 d11 fin
  obtain ⟨-, -, hml, hown, hts, hlk, hrt, hnm, hrf, hrl, hmt, hmst, hFO, hFR, hFV, hA, hK⟩ := id hF
  refine W.widen (k := mt) (n := mst) (by omega) (by omega) ?_
  refine W.zret hF.1 hF.2.1 (hrt.trans hr) hn (fun t ht hW => fin (some (vi z)) w ad t locs hq (fun _ _ => rfl) (Nat.le_refl _) (by rw [ht]; exact d2) d3 (by rw [ht]; exact d4) d5 (ok_h d6) hW) d4.2.2 hd hlk
theorem r_lret (hF : Fx F D cy cr ad0 p R s m args meth c A mt mst y) {z : Int} (hd : decode (byt y) pc = .ok (.lreturn, 1)) (hr : rty y = (some .long))  (hq : Q (some (vl z)) w) : Run l F D cy cr ad0 p e R s m args below meth c A mt mst y pc L [vl z] w bc bs Q := by
  intro H locs cells slots ad ls Qc d1 d2 d3 d4 d5 d6 d7 d8 d9 d10 d11 fin
  obtain ⟨-, -, hml, hown, hts, hlk, hrt, hnm, hrf, hrl, hmt, hmst, hFO, hFR, hFV, hA, hK⟩ := id hF
  refine W.widen (k := mt) (n := mst) (by omega) (by omega) ?_
  refine W.lret hF.1 hF.2.1 (hrt.trans hr) (fun t ht hW => fin (some (vl z)) w ad t locs hq (fun _ _ => rfl) (Nat.le_refl _) (by rw [ht]; exact d2) d3 (by rw [ht]; exact d4) d5 (ok_h d6) hW) d4.2.2 hd hlk
theorem r_vret (hF : Fx F D cy cr ad0 p R s m args meth c A mt mst y)  (hd : decode (byt y) pc = .ok (.return_, 1)) (hr : rty y = none)  (hq : Q none w) : Run l F D cy cr ad0 p e R s m args below meth c A mt mst y pc L [] w bc bs Q := by
  intro H locs cells slots ad ls Qc d1 d2 d3 d4 d5 d6 d7 d8 d9 d10 d11 fin
  obtain ⟨-, -, hml, hown, hts, hlk, hrt, hnm, hrf, hrl, hmt, hmst, hFO, hFR, hFV, hA, hK⟩ := id hF
  refine W.widen (k := mt) (n := mst) (by omega) (by omega) ?_
  refine W.vret hF.1 hF.2.1 (hrt.trans hr) (fun t ht hW => fin none w ad t locs hq (fun _ _ => rfl) (Nat.le_refl _) (by rw [ht]; exact d2) d3 (by rw [ht]; exact d4) d5 (trivial) hW) d4.2.2 hd hlk
theorem r_aret (hF : Fx F D cy cr ad0 p R s m args meth c A mt mst y) {r : Option Nat} {rt : FieldType} (hd : decode (byt y) pc = .ok (.areturn, 1)) (hr : rty y = some rt) (hrf2 : (∃ n, rt = .object n) ∨ ∃ t, rt = .array t) (hq : Q (some (vo r)) w) : Run l F D cy cr ad0 p e R s m args below meth c A mt mst y pc L [vo r] w bc bs Q := by
  intro H locs cells slots ad ls Qc d1 d2 d3 d4 d5 d6 d7 d8 d9 d10 d11 fin
  obtain ⟨-, -, hml, hown, hts, hlk, hrt, hnm, hrf, hrl, hmt, hmst, hFO, hFR, hFV, hA, hK⟩ := id hF
  refine W.widen (k := mt) (n := mst) (by omega) (by omega) ?_
  refine W.aret hF.1 hF.2.1 (hrt.trans hr) hrf2 (by cases r; exact Or.inl rfl; exact Or.inr ⟨_, rfl⟩) (fun t ht hW => fin (some (vo r)) w ad t locs hq (fun _ _ => rfl) (Nat.le_refl _) (by rw [ht]; exact d2) d3 (by rw [ht]; exact d4) d5 (ok_h d6) hW) d4.2.2 hd hlk
theorem r_cast (hF : Fx F D cy cr ad0 p R s m args meth c A mt mst y) {x k n : Nat} {f : Nat → Int} (hd : decode (byt y) pc = .ok (.checkcast x, 3)) (hl : Cond.classLink (nmy y).cls x "[I" ∈ wsu) (hw : w.2 k = ea 0 n f) (hz : nfz ≤ k) (hk : k < w.1) (h : Run l F D cy cr ad0 p e R s m args below meth c A mt mst y (pc + 3) L (vr k :: st) w bc bs Q) : Run l F D cy cr ad0 p e R s m args below meth c A mt mst y pc L (vr k :: st) w bc bs Q := by
  intro H locs cells slots ad ls Qc d1 d2 d3 d4 d5 d6 d7 d8 d9 d10 d11 fin
  obtain ⟨-, -, hml, hown, hts, hlk, hrt, hnm, hrf, hrl, hmt, hmst, hFO, hFR, hFV, hA, hK⟩ := id hF
  have e2 : va_RA s (cy 0) .int := (hK.2 0 (cy 0, .int) rfl).2
  have hnmI : s.vm.findClass "[I" = some (cy 0) := e2
  refine va_castA hF.1 hF.2.1 hown (hts _ hl) d2 (k - nfz) (at_a hw hz hk (by decide)) hnmI hd ?_
  exact h H locs cells slots ad ls Qc d1 d2 d3 d4 d5 d6 d7 d8 d9 d10 d11 fin
end OPS
