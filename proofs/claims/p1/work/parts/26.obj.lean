/-- what the tables say of a class -/
def CO (c : Nat) : Prop := ∃ (T : u_T) (N : Nat) (ty : Nat → FieldType), vwCl[c]? = some (cnm c, T, N) ∧ (∀ w ∈ u_ws (cnm c) T N, w ∈ wsu) ∧ (∀ k, k < N → parseFieldDescriptor (T k).2.2.1 = some (ty k)) ∧ (∀ a, a < N → ∀ b, b < N → a ≠ b → (T a).2.1 ≠ (T b).2.1) ∧ Cond.instantiable (cnm c) N ∈ wsu ∧ Cond.initialized (cnm c) ∈ wsu ∧ (fdf c).length = N ∧ (∀ (ad : Nat → Nat) (j : Nat), j < N → defaultValue (ty j) = vp_V ((fdf c).map (cv ad)) j) ∧ ∀ (n : Nat), ∀ v ∈ fdf c, okv n v
theorem ok1z : okt 1 0 := ⟨by decide, by decide⟩
theorem ok3z : okt 3 0 := ⟨by decide, by decide⟩
theorem fget_map {ad : Nat → Nat} : ∀ {fs : List AV} {k : Nat} {v : AV}, fget fs k = some v → (fs.map (cv ad))[k]? = some (cv ad v)
  | [], _, _, h => by cases h
  | _ :: _, 0, _, h => by cases h; rfl
  | _ :: l, k + 1, v, h => by
    rw [List.map_cons, List.getElem?_cons_succ]
    exact fget_map (fs := l) h
theorem fget_mem : ∀ {fs : List AV} {k : Nat} {v : AV}, fget fs k = some v → v ∈ fs
  | [], _, _, h => by cases h
  | _ :: _, 0, _, h => by cases h; exact List.mem_cons_self
  | _ :: l, k + 1, v, h => List.mem_cons_of_mem _ (fget_mem (fs := l) h)
theorem fset_map {ad : Nat → Nat} {v : AV} : ∀ {fs : List AV} {k : Nat}, (fs.map (cv ad)).set k (cv ad v) = (fset fs k v).map (cv ad)
  | [], _ => rfl
  | _ :: _, 0 => rfl
  | a :: l, k + 1 => congrArg (cv ad a :: ·) (fset_map (fs := l) (k := k))
theorem fset_len {v : AV} : ∀ {fs : List AV} {k : Nat}, (fset fs k v).length = fs.length
  | [], _ => rfl
  | _ :: _, 0 => rfl
  | _ :: l, k + 1 => congrArg Nat.succ (fset_len (fs := l) (k := k))
theorem fset_ok {n : Nat} {v : AV} (hv : okv n v) : ∀ {fs : List AV} {k : Nat}, (∀ u ∈ fs, okv n u) → ∀ u ∈ fset fs k v, okv n u
  | [], _, h => h
  | _ :: _, 0, h => ok_c hv (ok_t h)
  | a :: l, k + 1, h => ok_c (ok_h h) (fset_ok hv (fs := l) (k := k) (ok_t h))
section OPS
variable {l : Launch} {F : Nat → AE} {D : va_G} {cy cr : Nat → ClassId} {ad0 : Nat → Nat} {p : Program} {e : Env} {R : Room} {s : State} {m : MethodId} {args : Array Value} {below : List Frame} {meth : Method} {c : Code} {A : Nat → Prop} {mt mst : Nat} {y : Nat}
variable {pc : Nat} {L : AL} {st : List AV} {w : AW} {bc bs : Nat} {Q : AQ}
theorem run_new {H1 : Heap} {locs : List Loc} {cells slots : Nat} {ad : Nat → Nat} {ls : Array Slot} {Qc : Array Value → State → Outcome → State → Prop} {q N pc' : Nat} {en : AE}
    (d1 : ∀ k, k < nfz → ad k = ad0 k) (d5 : okW F w) (d6 : ∀ v ∈ st, okv w.1 v) (d7 : okl w.1 L) (d8 : lv_has ls (mxl y) (prs ad 0 L)) (d9 : L.length = mxl y) (d10 : cells + bc ≤ mt) (d11 : slots + bs ≤ mst)
    (fin : ∀ (r : Option AV) (w' : AW) (ad' : Nat → Nat) (t : State) (locs' : List Loc), Q r w' → (∀ k, k < w.1 → ad' k = ad k) → w.1 ≤ w'.1 → va_P D vwCl (conc cy cr ad' w') t.heap → va_D A (conc cy cr ad' w') → va_S A s.heap t.heap locs' → okW F w' → okr w'.1 r → s.WarmedH t.vm → Qc args s (.returned (r.map (cv ad'))) t)
    (g1 : va_P D vwCl (conc cy cr ad w ++ [(q, ce cy cr (fu ad w.1 q) en)]) H1) (g2 : va_D A (conc cy cr ad w ++ [(q, ce cy cr (fu ad w.1 q) en)])) (g3 : va_S A s.heap H1 locs) (hoke : oke (w.1 + 1) en) (hbc : 1 ≤ bc) (hbs : N ≤ bs)
    (h : Run l F D cy cr ad0 p e R s m args below meth c A mt mst y pc' L (vr w.1 :: st) (wn w en) (bc - 1) (bs - N) Q) : W p l e R s m args below meth c H1 locs (cells + 1) (slots + N) (MQ below Qc args s mt mst A) (F0 m pc' ls (.ref q :: st.map (cv ad))) := by
  have hag : ∀ k, k < w.1 → fu ad w.1 q k = ad k := fun k hk => fu_ne _ _ (by omega)
  rw [conc_new d5 hoke] at g1 g2
  have hn := d5.1
  have hh := h H1 locs (cells + 1) (slots + N) (fu ad w.1 q) ls Qc (fun k hk => (hag k (by omega)).trans (d1 k hk)) g1 g2 g3 (okW_new d5 hoke) (ok_c (Nat.lt_succ_self w.1) (fun v hv => okv_mono (Nat.le_succ _) (d6 v hv))) (fun k v hv => okv_mono (Nat.le_succ _) (d7 k v hv)) (prs_ext hag d7 d8) d9 (by omega) (by omega)
    (fun r w' ad' t locs' q1 q2 q3 q4 q5 q6 q7 q8 q9 => fin r w' ad' t locs' q1 (fun k hk => (q2 k (Nat.lt_succ_of_lt hk)).trans (hag k hk)) (Nat.le_of_succ_le q3) q4 q5 q6 q7 q8 q9)
  rw [List.map_cons, cv_exts hag d6, show cv (fu ad w.1 q) (vr w.1) = .ref q from congrArg Value.ref (fu_eq _ _ _)] at hh
  exact hh
theorem r_newi (hF : Fx F D cy cr ad0 p R s m args meth c A mt mst y) {n : Int} (hd : decode (byt y) pc = .ok (.newarray .int, 2)) (harr : Cond.arrayClass .int ∈ wsu) (h0 : 0 ≤ n) (h1 : n ≤ 1000000) (hbc : 1 ≤ bc) (hbs : n.toNat ≤ bs) (h : Run l F D cy cr ad0 p e R s m args below meth c A mt mst y (pc + 2) L (vr w.1 :: st) (wn w (ea 0 n.toNat (fun _ => 0))) (bc - 1) (bs - n.toNat) Q) : Run l F D cy cr ad0 p e R s m args below meth c A mt mst y pc L (vi n :: st) w bc bs Q := by
  intro H locs cells slots ad ls Qc d1 d2 d3 d4 d5 d6 d7 d8 d9 d10 d11 fin
  have hn : in32 n := ok_h d6
  obtain ⟨-, -, -, -, hts, -, -, -, -, -, hmt, hmst, hFO, hFR, -, hA, hK⟩ := id hF
  refine va_newa (atype := .int) hF.1 hF.2.1 (hts _ harr) (ty := .int) rfl hK d2 d3 d4 hA (a0 := (n.toNat, .inl (fun _ => Int32.ofInt 0))) (fun cA => rfl) (fun q => by have := (i32_lt hn i32_z).mp q; omega) (i32_n hn) (by show n.toNat * 4 ≤ 536870912; omega) (by omega) (by omega) hd (fun q cA H1 g0 g1 g2 g3 => ?_)
  have e1 : va_RA s cA .int := (g0.2 7 (cA, .int) rfl).2
  have e2 : va_RA s (cy 0) .int := (hK.2 0 (cy 0, .int) rfl).2
  have hc : cA = cy 0 := Option.some.inj (Eq.trans (Eq.symm e1) e2)
  subst hc
  exact run_new (en := ea 0 n.toNat (fun _ => 0)) d1 d5 (ok_t d6) d7 d8 d9 d10 d11 fin g1 g2 g3 ⟨by decide, by omega, fun _ => by exact i32_z⟩ hbc hbs h
theorem r_newb (hF : Fx F D cy cr ad0 p R s m args meth c A mt mst y) {n : Int} (hd : decode (byt y) pc = .ok (.newarray .byte, 2)) (harr : Cond.arrayClass .byte ∈ wsu) (h0 : 0 ≤ n) (h1 : n ≤ 1000000) (hbc : 1 ≤ bc) (hbs : n.toNat ≤ bs) (h : Run l F D cy cr ad0 p e R s m args below meth c A mt mst y (pc + 2) L (vr w.1 :: st) (wn w (ea 1 n.toNat (fun _ => 0))) (bc - 1) (bs - n.toNat) Q) : Run l F D cy cr ad0 p e R s m args below meth c A mt mst y pc L (vi n :: st) w bc bs Q := by
  intro H locs cells slots ad ls Qc d1 d2 d3 d4 d5 d6 d7 d8 d9 d10 d11 fin
  have hn : in32 n := ok_h d6
  obtain ⟨-, -, -, -, hts, -, -, -, -, -, hmt, hmst, hFO, hFR, -, hA, hK⟩ := id hF
  refine va_newa (atype := .byte) hF.1 hF.2.1 (hts _ harr) (ty := .byte) rfl hK d2 d3 d4 hA (a0 := (n.toNat, .inl (fun _ => Int32.ofInt 0))) (fun cA => rfl) (fun q => by have := (i32_lt hn i32_z).mp q; omega) (i32_n hn) (by show n.toNat * 1 ≤ 536870912; omega) (by omega) (by omega) hd (fun q cA H1 g0 g1 g2 g3 => ?_)
  have e1 : va_RA s cA .byte := (g0.2 7 (cA, .byte) rfl).2
  have e2 : va_RA s (cy 1) .byte := (hK.2 1 (cy 1, .byte) rfl).2
  have hc : cA = cy 1 := Option.some.inj (Eq.trans (Eq.symm e1) e2)
  subst hc
  exact run_new (en := ea 1 n.toNat (fun _ => 0)) d1 d5 (ok_t d6) d7 d8 d9 d10 d11 fin g1 g2 g3 ⟨by decide, by omega, fun _ => by exact ok1z⟩ hbc hbs h
theorem r_newz (hF : Fx F D cy cr ad0 p R s m args meth c A mt mst y) {n : Int} (hd : decode (byt y) pc = .ok (.newarray .boolean, 2)) (harr : Cond.arrayClass .boolean ∈ wsu) (h0 : 0 ≤ n) (h1 : n ≤ 1000000) (hbc : 1 ≤ bc) (hbs : n.toNat ≤ bs) (h : Run l F D cy cr ad0 p e R s m args below meth c A mt mst y (pc + 2) L (vr w.1 :: st) (wn w (ea 2 n.toNat (fun _ => 0))) (bc - 1) (bs - n.toNat) Q) : Run l F D cy cr ad0 p e R s m args below meth c A mt mst y pc L (vi n :: st) w bc bs Q := by
  intro H locs cells slots ad ls Qc d1 d2 d3 d4 d5 d6 d7 d8 d9 d10 d11 fin
  have hn : in32 n := ok_h d6
  obtain ⟨-, -, -, -, hts, -, -, -, -, -, hmt, hmst, hFO, hFR, -, hA, hK⟩ := id hF
  refine va_newa (atype := .boolean) hF.1 hF.2.1 (hts _ harr) (ty := .boolean) rfl hK d2 d3 d4 hA (a0 := (n.toNat, .inl (fun _ => Int32.ofInt 0))) (fun cA => rfl) (fun q => by have := (i32_lt hn i32_z).mp q; omega) (i32_n hn) (by show n.toNat * 1 ≤ 536870912; omega) (by omega) (by omega) hd (fun q cA H1 g0 g1 g2 g3 => ?_)
  have e1 : va_RA s cA .boolean := (g0.2 7 (cA, .boolean) rfl).2
  have e2 : va_RA s (cy 2) .boolean := (hK.2 2 (cy 2, .boolean) rfl).2
  have hc : cA = cy 2 := Option.some.inj (Eq.trans (Eq.symm e1) e2)
  subst hc
  exact run_new (en := ea 2 n.toNat (fun _ => 0)) d1 d5 (ok_t d6) d7 d8 d9 d10 d11 fin g1 g2 g3 ⟨by decide, by omega, fun _ => by exact Or.inl rfl⟩ hbc hbs h
theorem r_newl (hF : Fx F D cy cr ad0 p R s m args meth c A mt mst y) {n : Int} (hd : decode (byt y) pc = .ok (.newarray .long, 2)) (harr : Cond.arrayClass .long ∈ wsu) (h0 : 0 ≤ n) (h1 : n ≤ 1000000) (hbc : 1 ≤ bc) (hbs : n.toNat ≤ bs) (h : Run l F D cy cr ad0 p e R s m args below meth c A mt mst y (pc + 2) L (vr w.1 :: st) (wn w (ea 3 n.toNat (fun _ => 0))) (bc - 1) (bs - n.toNat) Q) : Run l F D cy cr ad0 p e R s m args below meth c A mt mst y pc L (vi n :: st) w bc bs Q := by
  intro H locs cells slots ad ls Qc d1 d2 d3 d4 d5 d6 d7 d8 d9 d10 d11 fin
  have hn : in32 n := ok_h d6
  obtain ⟨-, -, -, -, hts, -, -, -, -, -, hmt, hmst, hFO, hFR, -, hA, hK⟩ := id hF
  refine va_newa (atype := .long) hF.1 hF.2.1 (hts _ harr) (ty := .long) rfl hK d2 d3 d4 hA (a0 := (n.toNat, .inr (.inl (fun _ => Int64.ofInt 0)))) (fun cA => rfl) (fun q => by have := (i32_lt hn i32_z).mp q; omega) (i32_n hn) (by show n.toNat * 8 ≤ 536870912; omega) (by omega) (by omega) hd (fun q cA H1 g0 g1 g2 g3 => ?_)
  have e1 : va_RA s cA .long := (g0.2 7 (cA, .long) rfl).2
  have e2 : va_RA s (cy 3) .long := (hK.2 3 (cy 3, .long) rfl).2
  have hc : cA = cy 3 := Option.some.inj (Eq.trans (Eq.symm e1) e2)
  subst hc
  exact run_new (en := ea 3 n.toNat (fun _ => 0)) d1 d5 (ok_t d6) d7 d8 d9 d10 d11 fin g1 g2 g3 ⟨by decide, by omega, fun _ => by exact ok3z⟩ hbc hbs h
theorem r_anew (hF : Fx F D cy cr ad0 p R s m args meth c A mt mst y) {n : Int} {x cn : Nat} (hd : decode (byt y) pc = .ok (.anewarray x, 3)) (hcn : cn = 2 ∨ cn = 4 ∨ cn = 6) (hl : Cond.classLink (nmy y).cls x (cnm cn) ∈ wsu) (h0 : 0 ≤ n) (h1 : n ≤ 1000000) (hbc : 1 ≤ bc) (hbs : n.toNat ≤ bs) (h : Run l F D cy cr ad0 p e R s m args below meth c A mt mst y (pc + 3) L (vr w.1 :: st) (wn w (er cn n.toNat (fun _ => none))) (bc - 1) (bs - n.toNat) Q) : Run l F D cy cr ad0 p e R s m args below meth c A mt mst y pc L (vi n :: st) w bc bs Q := by
  intro H locs cells slots ad ls Qc d1 d2 d3 d4 d5 d6 d7 d8 d9 d10 d11 fin
  have hn : in32 n := ok_h d6
  obtain ⟨-, -, -, hown, hts, -, -, -, -, -, hmt, hmst, hFO, hFR, hFV, hA, hK⟩ := id hF
  obtain ⟨t0, ht0⟩ := tyr_at (cy := cy) (cr := cr) hcn
  refine va_newq hF.1 hF.2.1 hown (hts _ hl) (hFV.2.2.2.1 cn hcn) hK d2 d3 d4 hA (fun q => by have := (i32_lt hn i32_z).mp q; omega) (i32_n hn) (by omega) (by omega) (by omega) hd (fun q cA H1 g0 g1 g2 g3 => ?_)
  have e1 : va_RA s cA (.object (cnm cn)) := (g0.2 7 (cA, .object (cnm cn)) rfl).2
  have e2 : va_RA s (cr cn) (.object (cnm cn)) := (hK.2 t0 _ ht0).2
  have hc : cA = cr cn := by
    obtain ⟨_, _, _, _, _, z1⟩ := e1
    obtain ⟨_, _, _, _, _, z2⟩ := e2
    exact Option.some.inj (Eq.trans (Eq.symm z1) z2)
  subst hc
  exact run_new (en := er cn n.toNat (fun _ => none)) d1 d5 (ok_t d6) d7 d8 d9 d10 d11 fin g1 g2 g3 ⟨hcn, by omega, fun _ _ q => by cases q⟩ hbc hbs h
theorem r_new (hF : Fx F D cy cr ad0 p R s m args meth c A mt mst y) {x cn : Nat} (hd : decode (byt y) pc = .ok (.new x, 3)) (hc13 : cn < 13) (hC : CO cn) (hl : Cond.classLink (nmy y).cls x (cnm cn) ∈ wsu) (hbc : 1 ≤ bc) (hbs : (fdf cn).length ≤ bs) (h : Run l F D cy cr ad0 p e R s m args below meth c A mt mst y (pc + 3) L (vr w.1 :: st) (wn w (eo cn (fdf cn))) (bc - 1) (bs - (fdf cn).length) Q) : Run l F D cy cr ad0 p e R s m args below meth c A mt mst y pc L st w bc bs Q := by
  intro H locs cells slots ad ls Qc d1 d2 d3 d4 d5 d6 d7 d8 d9 d10 d11 fin
  obtain ⟨-, -, -, hown, hts, -, -, -, -, -, hmt, hmst, hFO, hFR, hFV, hA, hK⟩ := id hF
  obtain ⟨T, N, ty, c1, c2, c3, c4, c5, c6, c7, c8, c9⟩ := hC
  refine va_new (fs := (fdf cn).map (cv (fun _ => 0))) hF.1 hF.2.1 hts c2 ty c3 hown (hts _ hl) (hts _ c5) (hts _ c6) hK d2 d3 d4 hA c1 (fun j hj => c8 _ j hj) (by omega) (by omega) hd (fun q H1 g1 g2 g3 => ?_)
  have ee : (fdf cn).map (cv (fun _ => 0)) = (fdf cn).map (cv (fu ad w.1 q)) := cv_exts (n := 0) (fun k hk => by omega) (c9 0)
  rw [ee] at g1 g2
  rw [← c7]
  exact run_new (en := eo cn (fdf cn)) d1 d5 d6 d7 d8 d9 d10 d11 fin g1 g2 g3 ⟨hc13, rfl, c9 _⟩ hbc hbs h
theorem r_getfield (hF : Fx F D cy cr ad0 p R s m args meth c A mt mst y) {x cn k j : Nat} {fs : List AV} {v : AV} (hd : decode (byt y) pc = .ok (.getfield x, 3)) (hC : CO cn) (hl : ∀ T N, vwCl[cn]? = some (cnm cn, T, N) → k < N ∧ Cond.fieldLink (nmy y).cls x (T k).1 (T k).2.1 (T k).2.2.1 ∈ wsu) (hc13 : cn < 13) (hj : j < w.1) (hw : w.2 j = eo cn fs) (hv : fget fs k = some v) (h : Run l F D cy cr ad0 p e R s m args below meth c A mt mst y (pc + 3) L (v :: st) w bc bs Q) : Run l F D cy cr ad0 p e R s m args below meth c A mt mst y pc L (vr j :: st) w bc bs Q := by
  intro H locs cells slots ad ls Qc d1 d2 d3 d4 d5 d6 d7 d8 d9 d10 d11 fin
  obtain ⟨-, -, -, hown, hts, -, -, -, -, -, hmt, hmst, hFO, hFR, hFV, hA, hK⟩ := id hF
  obtain ⟨T, N, ty, c1, c2, c3, c4, c5, c6, c7, c8, c9⟩ := hC
  obtain ⟨l1, l2⟩ := hl T N c1
  have hz : nfz ≤ j := by
    rcases Nat.lt_or_ge j nfz with hz | hz
    · have := (fz_obj d5 hFO hz hw).2.2.1
      omega
    · exact hz
  have he := d5.2.1 j hz hj
  rw [hw] at he
  refine va_get hF.1 hF.2.1 hts c2 hown hK d2 (j - nfz) (at_o hw hz hj) c1 k l1 (hts _ l2) (fun _ q => q) (fget_map hv) hd ?_
  exact h H locs cells slots ad ls Qc d1 d2 d3 d4 d5 (ok_c (he.2.2 _ (fget_mem hv)) (ok_t d6)) d7 d8 d9 d10 d11 fin
theorem r_getfieldS (hF : Fx F D cy cr ad0 p R s m args meth c A mt mst y) {x k j : Nat} {fs : List AV} {v : AV} (hd : decode (byt y) pc = .ok (.getfield x, 3)) (hl : (k = 0 ∧ Cond.fieldLink (nmy y).cls x "java/lang/String" "value" "[B" ∈ wsu) ∨ (k = 1 ∧ Cond.fieldLink (nmy y).cls x "java/lang/String" "coder" "B" ∈ wsu)) (hj : j < w.1) (hw : w.2 j = eo 13 fs) (hv : fget fs k = some v) (h : Run l F D cy cr ad0 p e R s m args below meth c A mt mst y (pc + 3) L (v :: st) w bc bs Q) : Run l F D cy cr ad0 p e R s m args below meth c A mt mst y pc L (vr j :: st) w bc bs Q := by
  intro H locs cells slots ad ls Qc d1 d2 d3 d4 d5 d6 d7 d8 d9 d10 d11 fin
  obtain ⟨-, -, -, hown, hts, -, -, -, -, -, hmt, hmst, hFO, hFR, hFV, hA, hK⟩ := id hF
  rcases Nat.lt_or_ge j nfz with hz | hz
  · obtain ⟨a, b, -, rfl⟩ := fz_obj d5 hFO hz hw
    obtain ⟨f0, f1, f2⟩ := (FR.ext d1 hFR).2.1 j a b
    have hn := d5.1
    rcases hl with ⟨rfl, l2⟩ | ⟨rfl, l2⟩
    · cases hv
      refine vk_getf hF.1 hF.2.1 f2 d4 hown (hts _ l2) (fun _ q => q) hd ?_
      exact h H locs cells slots ad ls Qc d1 d2 d3 d4 d5 (ok_c (show j + (fz1 - fz0) < w.1 from (by have q1 : nfz = 67 := rfl; have q2 : fz0 = 6 := rfl; have q3 : fz1 = 36 := rfl; omega)) (ok_t d6)) d7 d8 d9 d10 d11 fin
    · cases hv
      refine vk_getf hF.1 hF.2.1 f1 d4 hown (hts _ l2) (fun _ q => q) hd ?_
      exact h H locs cells slots ad ls Qc d1 d2 d3 d4 d5 (ok_c i32_z (ok_t d6)) d7 d8 d9 d10 d11 fin
  · have he := d5.2.1 j hz hj
    rw [hw] at he
    exact absurd he.1 (by decide)
theorem r_putfield (hF : Fx F D cy cr ad0 p R s m args meth c A mt mst y) {x cn k j : Nat} {fs : List AV} {v : AV} (hd : decode (byt y) pc = .ok (.putfield x, 3)) (hC : CO cn) (hl : ∀ T N, vwCl[cn]? = some (cnm cn, T, N) → k < N ∧ Cond.fieldLink (nmy y).cls x (T k).1 (T k).2.1 (T k).2.2.1 ∈ wsu ∧ ((T k).2.2.2 = false ∨ ((T k).2.2.2 = true ∧ (nmy y).name = "<init>" ∧ (T k).1 = (nmy y).cls)) ∧ ∀ ty, parseFieldDescriptor (T k).2.2.1 = some ty → ∀ ad : Nat → Nat, narrow ty (cv ad v) = cv ad v ∧ fits ty (cv ad v) = true) (hz : nfz ≤ j) (hj : j < w.1) (hw : w.2 j = eo cn fs) (h : Run l F D cy cr ad0 p e R s m args below meth c A mt mst y (pc + 3) L st (wu w j (eo cn (fset fs k v))) bc bs Q) : Run l F D cy cr ad0 p e R s m args below meth c A mt mst y pc L (v :: vr j :: st) w bc bs Q := by
  intro H locs cells slots ad ls Qc d1 d2 d3 d4 d5 d6 d7 d8 d9 d10 d11 fin
  obtain ⟨-, -, -, hown, hts, -, -, hnm, -, -, hmt, hmst, hFO, hFR, hFV, hA, hK⟩ := id hF
  obtain ⟨T, N, ty, c1, c2, c3, c4, c5, c6, c7, c8, c9⟩ := hC
  obtain ⟨l1, l2, l3, l4⟩ := hl T N c1
  have he := d5.2.1 j hz hj
  rw [hw] at he
  have hoke : oke w.1 (eo cn (fset fs k v)) := ⟨he.1, by rw [fset_len]; exact he.2.1, fset_ok (ok_h d6) he.2.2⟩
  have hlen : k < (fs.map (cv ad)).length := by rw [List.length_map, he.2.1, c7]; exact l1
  have ee : (conc cy cr ad w).set (j - nfz) (ad j, .inr (cn, (fs.map (cv ad)).set k (cv ad v))) = conc cy cr ad (wu w j (eo cn (fset fs k v))) := by
    rw [fset_map]
    exact conc_set (eo cn (fset fs k v)) hz
  have kk : ∀ (H1 : Heap) (locs1 : List Loc), va_P D vwCl ((conc cy cr ad w).set (j - nfz) (ad j, .inr (cn, (fs.map (cv ad)).set k (cv ad v)))) H1 → va_D A ((conc cy cr ad w).set (j - nfz) (ad j, .inr (cn, (fs.map (cv ad)).set k (cv ad v)))) → va_S A s.heap H1 locs1 → W p l e R s m args below meth c H1 locs1 cells slots (MQ below Qc args s mt mst A) (F0 m (pc + 3) ls (st.map (cv ad))) := by
    intro H1 locs1 g1 g2 g3
    rw [ee] at g1 g2
    exact h H1 locs1 cells slots ad ls Qc d1 g1 g2 g3 (okW_set d5 hz hoke) (ok_t (ok_t d6)) d7 d8 d9 d10 d11 fin
  obtain ⟨n1, n2⟩ := l4 _ (c3 k l1) ad
  rcases l3 with l3 | ⟨l3, l5, l6⟩
  · exact va_put hF.1 hF.2.1 hts c2 ty c3 c4 hown hK d2 d3 d4 (j - nfz) (at_o hw hz hj) c1 k l1 (hts _ l2) (fun _ q => q) l3 (c3 k l1) n1 n2 hlen hd kk
  · exact va_putF hF.1 hF.2.1 hts c2 ty c3 c4 hown hK d2 d3 d4 (j - nfz) (at_o hw hz hj) c1 k l1 (hts _ l2) (fun _ q => q) l3 (hnm.trans l5) l6 (c3 k l1) n1 n2 hlen hd kk
end OPS
