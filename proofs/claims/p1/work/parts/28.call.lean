theorem lay1_c1 {v : AV} {r : List AV} (h : avc v = 1) : lay1 (v :: r) = some v :: lay1 r := by
  rcases v with z | z | q
  · rfl
  · cases h
  · rfl
theorem avc_12 (v : AV) : avc v = 1 ∨ ∃ z, v = vl z := by
  rcases v with z | z | q
  · exact Or.inl rfl
  · exact Or.inr ⟨z, rfl⟩
  · exact Or.inl rfl
theorem lay1_len {ad : Nat → Nat} : ∀ (as : List AV), (lg_sl (as.map (cv ad))).length = (lay1 as).length
  | [] => rfl
  | v :: r => by
    have ih := lay1_len (ad := ad) r
    have e : lg_sl ((v :: r).map (cv ad)) = (if (cv ad v).category = 2 then [Slot.val (cv ad v), Slot.second] else [Slot.val (cv ad v)]) ++ lg_sl (r.map (cv ad)) := by
      simp only [lg_sl, List.map_cons, List.flatMap_cons]
    rw [e, List.length_append, ih, cv_cat]
    rcases avc_12 v with h | ⟨z, rfl⟩
    · rw [lay1_c1 h, h, if_neg (by decide)]
      simp only [List.length_cons, List.length_nil]
      omega
    · show (if (2 : Nat) = 2 then _ else _ : List Slot).length + _ = (some (vl z) :: none :: lay1 r).length
      rw [if_pos rfl]
      simp only [List.length_cons, List.length_nil]
      omega
theorem prs_none {ad : Nat → Nat} : ∀ (k i : Nat), prs ad i (List.replicate k none) = []
  | 0, _ => rfl
  | k + 1, i => by
    rw [List.replicate_succ]
    exact prs_none k (i + 1)
theorem prs_lay {ad : Nat → Nat} {k : Nat} : ∀ (as : List AV) (i : Nat), ∀ q ∈ prs ad i (lay1 as ++ List.replicate k none), q ∈ lv_args i (as.map (cv ad))
  | [], i, q, h => by
    rw [show lay1 [] ++ List.replicate k (none : Option AV) = List.replicate k none from rfl, prs_none] at h
    cases h
  | v :: r, i, q, h => by
    have e : lv_args i ((v :: r).map (cv ad)) = (i, cv ad v) :: lv_args (if (cv ad v).category = 2 then i + 2 else i + 1) (r.map (cv ad)) := rfl
    rw [e, cv_cat]
    rcases avc_12 v with hv | ⟨z, rfl⟩
    · rw [lay1_c1 hv] at h
      rw [hv, if_neg (by decide)]
      rcases List.mem_cons.mp (show q ∈ (i, cv ad v) :: prs ad (i + 1) (lay1 r ++ List.replicate k none) from h) with h | h
      · rw [h]; exact List.mem_cons_self
      · exact List.mem_cons_of_mem _ (prs_lay r (i + 1) q h)
    · rw [show avc (vl z) = 2 from rfl, if_pos rfl]
      rcases List.mem_cons.mp (show q ∈ (i, cv ad (vl z)) :: prs ad (i + 1 + 1) (lay1 r ++ List.replicate k none) from h) with h | h
      · rw [h]; exact List.mem_cons_self
      · exact List.mem_cons_of_mem _ (prs_lay r (i + 2) q h)
theorem lget_none : ∀ (k j : Nat), lget (List.replicate k none) j = none
  | 0, _ => rfl
  | _ + 1, 0 => rfl
  | k + 1, j + 1 => lget_none k j
theorem okl_lay {n k : Nat} : ∀ (as : List AV), (∀ v ∈ as, okv n v) → okl n (lay1 as ++ List.replicate k none)
  | [], _ => fun j v h => by
    rw [show lay1 [] ++ List.replicate k (none : Option AV) = List.replicate k none from rfl, lget_none] at h
    cases h
  | u :: r, hs => fun j v h => by
    have ih := okl_lay (k := k) r (ok_t hs)
    rcases avc_12 u with hv | ⟨z, rfl⟩
    · rw [lay1_c1 hv] at h
      cases j with
      | zero => cases h; exact ok_h hs
      | succ j => exact ih j v h
    · match j, h with
      | 0, h => cases h; exact ok_h hs
      | 1, h => cases h
      | j + 2, h => exact ih j v h
theorem ent_len {n : Nat} {as : List AV} (h : (lay1 as).length ≤ n) : (ent n as).length = n := by
  unfold ent
  rw [List.length_append, List.length_replicate]
  omega
theorem pops_spec : ∀ {n : Nat} {st acc as rest : List AV}, pops n st acc = some (as, rest) → ∃ l, as = l ++ acc ∧ st = l.reverse ++ rest ∧ l.length = n
  | 0, st, acc, as, rest, h => by
    cases h
    exact ⟨[], rfl, rfl, rfl⟩
  | n + 1, [], acc, as, rest, h => by cases h
  | n + 1, a :: st, acc, as, rest, h => by
    obtain ⟨l, h1, h2, h3⟩ := pops_spec (n := n) (st := st) (acc := a :: acc) h
    exact ⟨l ++ [a], by rw [h1]; simp, by rw [h2]; simp, by simp [h3]⟩
theorem good_wsu {w : Cond} (h : w ∈ wsu) : w ∈ wsu ∧ ((w.onTables && w.keeps) = true ∨ ∃ ty, w = .arrayClass ty) := ⟨h, good_of_word (List.mem_filter.mp h).2⟩
abbrev wsm (z : Nat) : List Cond := Cond.code (nmy z) (byt z) (mxl z) (rty z) :: wsu
abbrev rmy (z : Nat) : Room := { frames := rfy z, cells := mcy z, slots := msy z, locals := rly z }
/-- what the tables say of a method -/
def MW (z : Nat) : Prop := plainFor (nmy z) = true ∧ ((nmy z).cls ≠ "java/lang/invoke/MethodHandle" ∧ (nmy z).cls ≠ "java/lang/invoke/VarHandle") ∧ Cond.code (nmy z) (byt z) (mxl z) (rty z) ∈ wsu ∧ Cond.initialized (nmy z).cls ∈ wsu
theorem good_wsm {z : Nat} (h : MW z) : GoodIn wsu (wsm z) := fun w hw => by
  rcases List.mem_cons.mp hw with rfl | hw
  · exact good_wsu h.2.2.1
  · exact good_wsu hw
section CON
variable (l : Launch) (F : Nat → AE) (D : va_G) (cy cr : Nat → ClassId) (ad0 ad : Nat → Nat) (w : AW) (as : List AV) (sz : Nat) (P : AQ)
abbrev PcA : Array Value → State → Prop := va_Pc (as.map (cv ad)) (fun U => U.heap.size = sz ∧ va_K D vwCl (tyl cy cr) U ∧ va_P D vwCl (conc cy cr ad w) U.heap ∧ va_D (fun _ => True) (conc cy cr ad w) ∧ FR F ad0 (va_A (conc cy cr ad w) sz) U U.heap ∧ FV ad0 U)
def QcA : Array Value → State → Outcome → State → Prop := fun _ st oc t => ∃ (r : Option AV) (w' : AW) (ad' : Nat → Nat), oc = .returned (r.map (cv ad')) ∧ P r w' ∧ (∀ k, k < w.1 → ad' k = ad k) ∧ w.1 ≤ w'.1 ∧ va_P D vwCl (conc cy cr ad' w') t.heap ∧ va_D (va_A (conc cy cr ad w) sz) (conc cy cr ad' w') ∧ okW F w' ∧ okr w'.1 r ∧ va_F (va_A (conc cy cr ad w) sz) st t
end CON
theorem met_of {l : Launch} {F : Nat → AE} {D : va_G} {cy cr : Nat → ClassId} {ad0 ad : Nat → Nat} {w : AW} {as : List AV} {P : AQ} {z : Nat} (sz : Nat) (hm : MW z) (hFO : FOK F) (h1 : ∀ k, k < nfz → ad k = ad0 k) (h5 : okW F w) (h6 : ∀ v ∈ as, okv w.1 v) (hlen : (lay1 as).length ≤ mxl z)
    (hS : Snd l F D cy cr ad0 z 0 (ent (mxl z) as) [] w (mcy z) (msy z) P) : Met l (nmy z) (wsm z) (rmy z) (PcA F D cy cr ad0 ad w as sz) (QcA F D cy cr ad w sz P) (mcy z) (msy z) (va_A (conc cy cr ad w) sz) := by
  refine va_MetF (cc := byt z) (maxL := mxl z) (ret := rty z) hm.1 rfl ?_
  intro p e s m args below meth c s₁ B hml hv
  obtain ⟨rfl, hsz, hK, hP, hD0, hFR, hFV⟩ := hv
  have hts := atoms_spec (ws := wsm z) B.pre
  have hown : s.vm.findClass (nmy z).cls = some m.cls := findClass_of_methodNamed B.named
  have hin : meth.name = (nmy z).name := (name_of_methodNamed B.named B.method).1
  subst hsz
  have hl := lv_entry (as.map (cv ad)) (n := mxl z) (by rw [lay1_len]; exact hlen)
  rw [lg_entry_eq]
  generalize (lg_sl (as.map (cv ad)) ++ List.replicate (mxl z - (lg_sl (as.map (cv ad))).length) Slot.unset).toArray = ls at hl ⊢
  refine hS p e (headSpec (wsm z) (rmy z)).room s m _ below meth c (va_A (conc cy cr ad w) s.heap.size) (mcy z) (msy z) ⟨B.exec, B.bytes, hml, hown, fun w hw => hts w (List.mem_cons_of_mem _ hw), B.notSynchronized, B.returns, hin, Nat.le_refl _, Nat.le_refl _, Nat.le_refl _, Nat.le_refl _, hFO, hFR, hFV, fun q h => Or.inr h, hK⟩
    s.heap [] 0 0 ad ls (QcA F D cy cr ad w s.heap.size P) h1 hP hD0.self va_S.rf h5 (fun _ h => by cases h) (okl_lay as h6) (lv_fewer hl (prs_lay as 0)) (ent_len hlen) (by omega) (by omega) ?_
  intro r w' ad' t locs' q1 q2 q3 q4 q5 q6 q7 q8 q9
  exact ⟨r, w', ad', rfl, q1, q2, q3, q4, q5, q7, q8, q6.1, q6.2.1⟩
section OPS
variable {l : Launch} {F : Nat → AE} {D : va_G} {cy cr : Nat → ClassId} {ad0 : Nat → Nat} {p : Program} {e : Env} {R : Room} {s : State} {m : MethodId} {args : Array Value} {below : List Frame} {meth : Method} {c : Code} {A : Nat → Prop} {mt mst : Nat} {y : Nat}
variable {pc : Nat} {L : AL} {st : List AV} {w : AW} {bc bs : Nat} {Q : AQ}
theorem blind {ad : Nat → Nat} {as : List AV} {sz : Nat} : FrameBlind (PcA F D cy cr ad0 ad w as sz) := fun a U g mk h => by
  obtain ⟨e0, e1, e2, e3, e4, e5, e6⟩ := h
  exact ⟨e0, e1, va_K.moved (u := U) (U := U.calling g mk a) (Vm.Alike.refl U.vm) e2, e3, e4, FR.moved (u := U) (U := U.calling g mk a) (Vm.Alike.refl U.vm) e5, FV.same (u := U) (U := U.calling g mk a) rfl e6⟩
theorem sub_A {H : Heap} {locs : List Loc} {ad : Nat → Nat} (hA : ∀ q, s.heap.size ≤ q → A q) (d3 : va_D A (conc cy cr ad w)) (d4 : va_S A s.heap H locs) : ∀ q, va_A (conc cy cr ad w) H.size q → A q := fun q h => by
  rcases h with ⟨k, e, h⟩ | h
  · exact d3.2 k _ h
  · exact hA q (Nat.le_trans d4.1 h)
theorem pre_of (hF : Fx F D cy cr ad0 p R s m args meth c A mt mst y) {H : Heap} {locs : List Loc} {ad : Nat → Nat} {as : List AV} (d2 : va_P D vwCl (conc cy cr ad w) H) (d3 : va_D A (conc cy cr ad w)) (d4 : va_S A s.heap H locs) : ∀ U : State, U.heap = H → s.WarmedH U.vm → PcA F D cy cr ad0 ad w as H.size (as.map (cv ad)).toArray U := by
  intro U hU hW
  obtain ⟨-, -, -, -, -, -, -, -, -, -, -, -, hFO, hFR, hFV, hA, hK⟩ := id hF
  refine ⟨rfl, by rw [hU], va_K.moved hW.alike hK, by rw [hU]; exact d2, d3.weaken (fun _ _ _ _ => trivial), ?_, FV.warm hW hFV⟩
  rw [hU]
  exact FR.moved hW.alike ((FR.kept hFR d4.2.1).narrow (sub_A hA d3 d4))
/-- behind a call -/
theorem run_call (hF : Fx F D cy cr ad0 p R s m args meth c A mt mst y) {z : Nat} {rest : List AV} {P : AQ} (hmc : mcy z ≤ bc) (hms : msy z ≤ bs) (hgo : ∀ r w', P r w' → Run l F D cy cr ad0 p e R s m args below meth c A mt mst y (pc + 3) L (psh r rest) w' (bc - mcy z) (bs - msy z) Q)
    {H : Heap} {locs : List Loc} {cells slots : Nat} {ad : Nat → Nat} {ls : Array Slot} {Qc : Array Value → State → Outcome → State → Prop} {st0 : List Value} {a : Array Value}
    (d1 : ∀ k, k < nfz → ad k = ad0 k) (d3 : va_D A (conc cy cr ad w)) (d4 : va_S A s.heap H locs) (d5 : okW F w) (d6 : ∀ v ∈ rest, okv w.1 v) (d7 : okl w.1 L) (d8 : lv_has ls (mxl y) (prs ad 0 L)) (d9 : L.length = mxl y) (d10 : cells + bc ≤ mt) (d11 : slots + bs ≤ mst)
    (fin : ∀ (r : Option AV) (w' : AW) (ad' : Nat → Nat) (t : State) (locs' : List Loc), Q r w' → (∀ k, k < w.1 → ad' k = ad k) → w.1 ≤ w'.1 → va_P D vwCl (conc cy cr ad' w') t.heap → va_D A (conc cy cr ad' w') → va_S A s.heap t.heap locs' → okW F w' → okr w'.1 r → s.WarmedH t.vm → Qc args s (.returned (r.map (cv ad'))) t)
    (hr : va_Run p l e R s m args below meth c H locs cells slots (mcy z) (msy z) (F0 m pc ls st0) (rest.map (cv ad)) (QcA F D cy cr ad w H.size P a) (va_A (conc cy cr ad w) H.size)) :
    W p l e R s m args below meth c H locs cells slots (MQ below Qc args s mt mst A) (F0 m pc ls st0) := by
  obtain ⟨-, -, -, -, -, -, -, -, -, -, -, -, hFO, hFR, hFV, hA, hK⟩ := id hF
  have hsub := sub_A (w := w) (cy := cy) (cr := cr) hA d3 d4
  intro T hT X
  obtain ⟨v, st₀, t, T', Lc, h0, X', hL, e1, e2, ⟨r, w', ad', ho, hp, q2, q3, q4, q5, q6, q7, q8⟩, st⟩ := hr T hT X
  have hv : v = r.map (cv ad') := by cases ho; rfl
  subst hv
  rw [va_F, h0] at q8
  have hn := d5.1
  have hh := hgo r w' hp T'.heap (locs ++ Lc) (cells + mcy z) (slots + msy z) ad' ls Qc (fun k hk => (q2 k (by omega)).trans (d1 k hk)) (by rw [e1]; exact q4) (q5.weaken (fun _ _ _ h => hsub _ h))
    ⟨Nat.le_trans d4.1 (by rw [e1]; exact q8.1), fun q g1 g2 => by rw [e1, q8.2 q (Nat.lt_of_lt_of_le g1 d4.1) (fun g => g2 (hsub q g))]; exact d4.2.1 q g1 g2, fun q hq => by
      rcases List.mem_append.mp hq with h | h
      · exact d4.2.2 q h
      · exact hsub _ (hL q h)⟩ q6 (by
        intro u hu
        cases r with
        | none => exact okv_mono q3 (d6 u hu)
        | some b =>
          rcases List.mem_cons.mp hu with rfl | hu
          · exact q7
          · exact okv_mono q3 (d6 u hu)) (fun k u hu => okv_mono q3 (d7 k u hu)) (prs_ext q2 d7 d8) d9 (by omega) (by omega)
    (fun r2 w2 ad2 t2 locs2 g1 g2 g3 g4 g5 g6 g7 g8 g9 => fin r2 w2 ad2 t2 locs2 g1 (fun k hk => (g2 k (Nat.lt_of_lt_of_le hk q3)).trans (q2 k hk)) (Nat.le_trans q3 g3) g4 g5 g6 g7 g8 g9)
  obtain ⟨t2, a1, b1⟩ := hh T' rfl X'
  refine ⟨t2, st t2 ?_, b1⟩
  have es : (psh r rest).map (cv ad') = (r.map (cv ad')).toList ++ rest.map (cv ad) := by
    rw [← cv_exts q2 d6]
    cases r <;> rfl
  rw [es] at a1
  exact a1
theorem r_virt (hF : Fx F D cy cr ad0 p R s m args meth c A mt mst y) {x z j : Nat} {as rest fs : List AV} {cn : Nat} (hd : decode (byt y) pc = .ok (.invokevirtual x, 3)) (hst2 : st = (vr j :: as).reverse ++ rest) (hw : w.2 j = eo cn fs) (hj : j < w.1) (hcz : (nmy z).cls = cnm cn) (hcn : cn = 13 ∨ CO cn) (hl : Cond.methodLink (nmy y).cls x (nmy z) ∈ wsu) (hl2 : Cond.instanceMethod (nmy z) ∈ wsu) (hl3 : Cond.selects (nmy z).cls (nmy z) (nmy z) ∈ wsu) (hde : (parseMethodDescriptor (nmy z).desc).map (fun d => d.parameters.length) = some as.length) (hm : MW z) (hlen : (lay1 (vr j :: as)).length ≤ mxl z) (hr1 : rfy z + 1 ≤ rfy y) (hr2 : 8 + (mxl z + 11) + rly z ≤ rly y) (hrest : stw rest ≤ 8) (hmc : mcy z ≤ bc) (hms : msy z ≤ bs) {P : AQ} (hS : Snd l F D cy cr ad0 z 0 (ent (mxl z) (vr j :: as)) [] w (mcy z) (msy z) P) (hgo : ∀ r w', P r w' → Run l F D cy cr ad0 p e R s m args below meth c A mt mst y (pc + 3) L (psh r rest) w' (bc - mcy z) (bs - msy z) Q) : Run l F D cy cr ad0 p e R s m args below meth c A mt mst y pc L st w bc bs Q := by
  intro H locs cells slots ad ls Qc d1 d2 d3 d4 d5 d6 d7 d8 d9 d10 d11 fin
  obtain ⟨-, -, hml, hown, hts, hlk, hrt, hnm, hrf, hrl, hmt, hmst, hFO, hFR, hFV, hA, hK⟩ := id hF
  have hM := met_of (ad := ad) (as := vr j :: as) H.size hm hFO d1 d5 (fun v hv => d6 v (by rw [hst2]; exact List.mem_append_left _ (List.mem_reverse.mpr hv))) hlen hS
  have hroom : (rmy z).frames + 1 ≤ R.frames ∧ 8 + (mxl z + 11) + (rmy z).locals ≤ R.locals := ⟨Nat.le_trans hr1 hrf, Nat.le_trans hr2 hrl⟩
  refine run_call (a := ((vr j :: as).map (cv ad)).toArray) hF hmc hms hgo d1 d3 d4 d5 (fun v hv => d6 v (by rw [hst2]; exact List.mem_append_right _ hv)) d7 d8 d9 d10 d11 fin (?_)
  have hrecv : ∃ cellB : Cell, H[ad j]? = some cellB ∧ cellB.vm.isStatics = false ∧ s.vm.findClass (nmy z).cls = some cellB.cls := by
    rw [hcz]
    rcases Nat.lt_or_ge j nfz with hz | hz
    · obtain ⟨a, b, rfl, -⟩ := fz_obj d5 hFO hz hw
      obtain ⟨cell, g1, g2, g3, -⟩ := ((FR.ext d1 hFR).2.1 j a b).1.kept d4.2.1
      exact ⟨cell, g1, g2, g3⟩
    · have he := d5.2.1 j hz hj
      rw [hw] at he
      rcases hcn with h13 | ⟨T, N, ty, c1, -⟩
      · rw [h13] at he
        exact absurd he.1 (by decide)
      · exact va_recv hK d2 c1 (at_o hw hz hj)
  have hcw : CallW R s args (nmy y).cls (nmy z).cls x (nmy z) (byt z) (mxl z) (rty z) (wsm z) (rmy z) (mcy z) (msy z) as.length :=
    cwV as.length hts (fun w hw => by
      rcases List.mem_append.mp (show w ∈ ([.methodLink (nmy y).cls x (nmy z), .instanceMethod (nmy z), .selects (nmy z).cls (nmy z) (nmy z), .initialized (nmy z).cls] : List Cond) ++ wsm z from hw) with h | h
      · simp only [List.mem_cons, List.not_mem_nil, or_false] at h
        rcases h with rfl | rfl | rfl | rfl
        · exact good_wsu hl
        · exact good_wsu hl2
        · exact good_wsu hl3
        · exact good_wsu hm.2.2.2
      · exact good_wsm hm w h) rfl rfl rfl ⟨rfl, hm.2.1.1, hm.2.1.2, hde⟩ hroom
  exact va_runV (As := as.map (cv ad)) (rest := rest.map (cv ad)) (b := ad j) ⟨hF.1, hF.2.1, hml, hown, hts⟩ hM hcw ⟨blind, hrecv, pre_of hF d2 d3 d4⟩ rfl (by rw [List.length_map]) (by show ls.size = mxl y; exact d8.1) (by
    show st.map (cv ad) = _
    rw [hst2, List.map_append, List.map_reverse, List.map_cons, List.reverse_cons, List.append_assoc]
    rfl) (lv_room (by rw [cv_cats]; exact hrest)) hd ⟨by omega, by omega⟩
theorem r_stat (hF : Fx F D cy cr ad0 p R s m args meth c A mt mst y) {x z : Nat} {as rest : List AV} (hd : decode (byt y) pc = .ok (.invokestatic x, 3)) (hst2 : st = as.reverse ++ rest) (hl : Cond.methodLink (nmy y).cls x (nmy z) ∈ wsu ∨ ∃ host, ((nmy y).cls, x, nmy z, host) ∈ nestM) (hl2 : Cond.static (nmy z) ∈ wsu) (hde : (parseMethodDescriptor (nmy z).desc).map (fun d => d.parameters.length) = some as.length) (hm : MW z) (hlen : (lay1 as).length ≤ mxl z) (hr1 : rfy z + 1 ≤ rfy y) (hr2 : 8 + (mxl z + 11) + rly z ≤ rly y) (hrest : stw rest ≤ 8) (hmc : mcy z ≤ bc) (hms : msy z ≤ bs) {P : AQ} (hS : Snd l F D cy cr ad0 z 0 (ent (mxl z) as) [] w (mcy z) (msy z) P) (hgo : ∀ r w', P r w' → Run l F D cy cr ad0 p e R s m args below meth c A mt mst y (pc + 3) L (psh r rest) w' (bc - mcy z) (bs - msy z) Q) : Run l F D cy cr ad0 p e R s m args below meth c A mt mst y pc L st w bc bs Q := by
  intro H locs cells slots ad ls Qc d1 d2 d3 d4 d5 d6 d7 d8 d9 d10 d11 fin
  obtain ⟨-, -, hml, hown, hts, hlk, hrt, hnm, hrf, hrl, hmt, hmst, hFO, hFR, hFV, hA, hK⟩ := id hF
  have hM := met_of (ad := ad) (as := as) H.size hm hFO d1 d5 (fun v hv => d6 v (by rw [hst2]; exact List.mem_append_left _ (List.mem_reverse.mpr hv))) hlen hS
  have hroom : (rmy z).frames + 1 ≤ R.frames ∧ 8 + (mxl z + 11) + (rmy z).locals ≤ R.locals := ⟨Nat.le_trans hr1 hrf, Nat.le_trans hr2 hrl⟩
  refine run_call (a := ((as).map (cv ad)).toArray) hF hmc hms hgo d1 d3 d4 d5 (fun v hv => d6 v (by rw [hst2]; exact List.mem_append_right _ hv)) d7 d8 d9 d10 d11 fin (?_)
  have hstk : st.map (cv ad) = (as.map (cv ad)).reverse ++ rest.map (cv ad) := by rw [hst2, List.map_append, List.map_reverse]
  rcases hl with hl | ⟨host, hl⟩
  · exact va_runS (As := as.map (cv ad)) (rest := rest.map (cv ad)) ⟨hF.1, hF.2.1, hml, hown, hts⟩ hM ⟨callB_of as.length hts (good_wsm hm) rfl rfl rfl (hts _ hm.2.2.2) (hts _ hl) ⟨hm.2.1.1, hm.2.1.2, hde⟩ hroom, hts _ hl2⟩ ⟨blind, pre_of hF d2 d3 d4⟩ rfl (by rw [List.length_map]) (by show ls.size = mxl y; exact d8.1) hstk (lv_room (by rw [cv_cats]; exact hrest)) hd ⟨by omega, by omega⟩
  · exact va_runSN (As := as.map (cv ad)) (rest := rest.map (cv ad)) ⟨hF.1, hF.2.1, hml, hown, hts⟩ hM ⟨va_cnB as.length hts (good_wsm hm) rfl rfl rfl (hFV.2.2.1 _ hl) (hts _ hm.2.2.2) ⟨hm.2.1.1, hm.2.1.2, hde⟩ hroom, hts _ hl2, trivial⟩ ⟨blind, pre_of hF d2 d3 d4⟩ rfl (by rw [List.length_map]) (by show ls.size = mxl y; exact d8.1) hstk (lv_room (by rw [cv_cats]; exact hrest)) hd ⟨by omega, by omega⟩
theorem r_spec (hF : Fx F D cy cr ad0 p R s m args meth c A mt mst y) {x z j : Nat} {as rest : List AV} (hd : decode (byt y) pc = .ok (.invokespecial x, 3)) (hst2 : st = (vr j :: as).reverse ++ rest) (hl : Cond.methodLink (nmy y).cls x (nmy z) ∈ wsu ∨ ∃ host, ((nmy y).cls, x, nmy z, host) ∈ nestM) (hl2 : Cond.instanceMethod (nmy z) ∈ wsu) (hin : (nmy z).name = "<init>") (hrz : rty z = none) (hde : (parseMethodDescriptor (nmy z).desc).map (fun d => d.parameters.length) = some as.length) (hm : MW z) (hlen : (lay1 (vr j :: as)).length ≤ mxl z) (hr1 : rfy z + 1 ≤ rfy y) (hr2 : 8 + (mxl z + 11) + rly z ≤ rly y) (hrest : stw rest ≤ 8) (hmc : mcy z ≤ bc) (hms : msy z ≤ bs) {P : AQ} (hS : Snd l F D cy cr ad0 z 0 (ent (mxl z) (vr j :: as)) [] w (mcy z) (msy z) P) (hgo : ∀ r w', P r w' → Run l F D cy cr ad0 p e R s m args below meth c A mt mst y (pc + 3) L (psh r rest) w' (bc - mcy z) (bs - msy z) Q) : Run l F D cy cr ad0 p e R s m args below meth c A mt mst y pc L st w bc bs Q := by
  intro H locs cells slots ad ls Qc d1 d2 d3 d4 d5 d6 d7 d8 d9 d10 d11 fin
  obtain ⟨-, -, hml, hown, hts, hlk, hrt, hnm, hrf, hrl, hmt, hmst, hFO, hFR, hFV, hA, hK⟩ := id hF
  have hM := met_of (ad := ad) (as := vr j :: as) H.size hm hFO d1 d5 (fun v hv => d6 v (by rw [hst2]; exact List.mem_append_left _ (List.mem_reverse.mpr hv))) hlen hS
  have hroom : (rmy z).frames + 1 ≤ R.frames ∧ 8 + (mxl z + 11) + (rmy z).locals ≤ R.locals := ⟨Nat.le_trans hr1 hrf, Nat.le_trans hr2 hrl⟩
  refine run_call (a := ((vr j :: as).map (cv ad)).toArray) hF hmc hms hgo d1 d3 d4 d5 (fun v hv => d6 v (by rw [hst2]; exact List.mem_append_right _ hv)) d7 d8 d9 d10 d11 fin (?_)
  have hstk : st.map (cv ad) = (as.map (cv ad)).reverse ++ .ref (ad j) :: rest.map (cv ad) := by
    rw [hst2, List.map_append, List.map_reverse, List.map_cons, List.reverse_cons, List.append_assoc]
    rfl
  rcases hl with hl | ⟨host, hl⟩
  · have hcb : CallB R s args (nmy y).cls x (nmy z) (byt z) (mxl z) (rty z) (wsm z) (rmy z) (mcy z) (msy z) as.length := callB_of as.length hts (good_wsm hm) rfl rfl rfl (hts _ hm.2.2.2) (hts _ hl) ⟨hm.2.1.1, hm.2.1.2, hde⟩ hroom
    rw [hrz] at hcb
    exact va_runI (As := as.map (cv ad)) (rest := rest.map (cv ad)) (b := ad j) ⟨hF.1, hF.2.1, hml, hown, hts⟩ hM ⟨hcb, hin, hts _ hl2⟩ ⟨blind, pre_of hF d2 d3 d4⟩ rfl (by rw [List.length_map]) (by show ls.size = mxl y; exact d8.1) hstk (lv_room (by rw [cv_cats]; exact hrest)) hd ⟨by omega, by omega⟩
  · have hcb : va_CN R s args (nmy y).cls x (nmy z) host (byt z) (mxl z) (rty z) (wsm z) (rmy z) (mcy z) (msy z) as.length := va_cnB as.length hts (good_wsm hm) rfl rfl rfl (hFV.2.2.1 _ hl) (hts _ hm.2.2.2) ⟨hm.2.1.1, hm.2.1.2, hde⟩ hroom
    rw [hrz] at hcb
    exact va_runIN (As := as.map (cv ad)) (rest := rest.map (cv ad)) (b := ad j) ⟨hF.1, hF.2.1, hml, hown, hts⟩ hM ⟨hcb, hin, hts _ hl2⟩ ⟨blind, pre_of hF d2 d3 d4⟩ rfl (by rw [List.length_map]) (by show ls.size = mxl y; exact d8.1) hstk (lv_room (by rw [cv_cats]; exact hrest)) hd ⟨by omega, by omega⟩
end OPS
