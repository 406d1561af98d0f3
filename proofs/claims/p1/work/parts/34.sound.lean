theorem tcx_of {c : Nat} (h : c < 13) {T : u_T} {N : Nat} (hT : vwCl[c]? = some (cnm c, T, N)) : (tcx c).1 = T ∧ (tcx c).2 = N := by
  have e := Option.some.inj ((co_all c h).2.symm.trans hT)
  exact ⟨(Prod.mk.inj (Prod.mk.inj e).2).1, (Prod.mk.inj (Prod.mk.inj e).2).2⟩
theorem kv_of {z : Int} {v : AV} (h : match z, v with
        | 0, Sum.inl _ => True
        | 1, Sum.inl x => x = 0 ∨ x = 1
        | 2, Sum.inr (Sum.inr _) => True
        | _, _ => False) {f : Int} (hf : f = z) : (f = 0 ∧ ∃ x, v = vi x) ∨ (f = 1 ∧ ∃ x, v = vi x ∧ (x = 0 ∨ x = 1)) ∨ (f = 2 ∧ ∃ r, v = vo r) := by
  subst hf
  split at h
  · exact Or.inl ⟨rfl, _, rfl⟩
  · exact Or.inr (Or.inl ⟨rfl, _, rfl, h⟩)
  · exact Or.inr (Or.inr ⟨rfl, _, rfl⟩)
  · exact False.elim h
theorem par_1 {α : Type} {o : Option α} {f : α → Nat} {n : Nat} (h : o.map (fun d => f d + 1) = some (n + 1)) : o.map f = some n := by
  cases o with
  | none => cases h
  | some a =>
    have := Option.some.inj h
    exact congrArg some (Nat.succ.inj this)
theorem rk_at (y : Nat) (hy : y < 297) : rkb (mi y).2.2.2.1 (rty y) = true := by
  have hc := cky_all y hy
  unfold cky at hc
  rw [Bool.and_eq_true] at hc
  exact hc.1
theorem rkb0 {rt : Option FieldType} (h : rkb 0 rt = true) : rt = some .int := by
  rcases rt with _ | t
  · cases h
  · cases t <;> first | rfl | cases h
theorem rkb1 {rt : Option FieldType} (h : rkb 1 rt = true) : rt = some .boolean := by
  rcases rt with _ | t
  · cases h
  · cases t <;> first | rfl | cases h
theorem rkb2 {rt : Option FieldType} (h : rkb 2 rt = true) : rt = some .char := by
  rcases rt with _ | t
  · cases h
  · cases t <;> first | rfl | cases h
theorem rkb3 {rt : Option FieldType} (h : rkb 3 rt = true) : rt = some .byte := by
  rcases rt with _ | t
  · cases h
  · cases t <;> first | rfl | cases h
theorem rkb4 {rt : Option FieldType} (h : rkb 4 rt = true) : rt = some .long := by
  rcases rt with _ | t
  · cases h
  · cases t <;> first | rfl | cases h
theorem rkb5 {rt : Option FieldType} (h : rkb 5 rt = true) : ∃ t, rt = some t ∧ ((∃ n, t = .object n) ∨ ∃ u, t = .array u) := by
  rcases rt with _ | t
  · cases h
  · cases t <;> first | (cases h; done) | exact ⟨_, rfl, Or.inl ⟨_, rfl⟩⟩ | exact ⟨_, rfl, Or.inr ⟨_, rfl⟩⟩
theorem rkb6 {rt : Option FieldType} (h : rkb 6 rt = true) : rt = none := by
  rcases rt with _ | t
  · rfl
  · cases t <;> cases h
theorem s_62g {X : PX} {y pc : Nat} {L : AL} {st : List AV} {W : AW} {bc bs : Nat} {Q : AQ} {c k : Nat} {z : Int} {l : List (Int × Nat)} {v : AV} {j : Nat} : sem X y pc (62, c, k, z, l) L (v :: vr j :: st) W bc bs Q = (match W.2 j with
      | Sum.inr (Sum.inr (d, fs)) => c = d ∧ nfz ≤ j ∧ j < W.1 ∧ (match z, v with
        | 0, Sum.inl _ => True
        | 1, Sum.inl x => x = 0 ∨ x = 1
        | 2, Sum.inr (Sum.inr _) => True
        | _, _ => False) ∧ X y (pc + 3) L st (wu W j (eo c (fset fs k v))) bc bs Q
      | _ => False) := rfl
theorem s_63g {X : PX} {y pc : Nat} {L : AL} {st : List AV} {W : AW} {bc bs : Nat} {Q : AQ} {z p2 : Nat} {q : Int} {l : List (Int × Nat)} : sem X y pc (63, z, p2, q, l) L st W bc bs Q = (match pops (mi z).2.1 st [] with
    | some (Sum.inr (Sum.inr (some j)) :: as, rest) => (match W.2 j with
      | Sum.inr (Sum.inr (d, _)) => d = (mi z).1 ∧ j < W.1 ∧ stw rest ≤ 8 ∧ (lay1 (vr j :: as)).length ≤ (mi z).2.2.1 ∧ (mi z).2.2.2.2.1 ≤ bc ∧ (mi z).2.2.2.2.2.1 ≤ bs ∧
        ∃ P : AQ, X z 0 (ent (mi z).2.2.1 (vr j :: as)) [] W (mi z).2.2.2.2.1 (mi z).2.2.2.2.2.1 P ∧ ∀ r W', P r W' → X y (pc + 3) L (psh r rest) W' (bc - (mi z).2.2.2.2.1) (bs - (mi z).2.2.2.2.2.1) Q
      | _ => False)
    | _ => False) := rfl
theorem s_64g {X : PX} {y pc : Nat} {L : AL} {st : List AV} {W : AW} {bc bs : Nat} {Q : AQ} {z p2 : Nat} {q : Int} {l : List (Int × Nat)} : sem X y pc (64, z, p2, q, l) L st W bc bs Q = (match pops (mi z).2.1 st [] with
    | some (as, rest) => stw rest ≤ 8 ∧ (lay1 (as)).length ≤ (mi z).2.2.1 ∧ (mi z).2.2.2.2.1 ≤ bc ∧ (mi z).2.2.2.2.2.1 ≤ bs ∧
        ∃ P : AQ, X z 0 (ent (mi z).2.2.1 as) [] W (mi z).2.2.2.2.1 (mi z).2.2.2.2.2.1 P ∧ ∀ r W', P r W' → X y (pc + 3) L (psh r rest) W' (bc - (mi z).2.2.2.2.1) (bs - (mi z).2.2.2.2.2.1) Q
    | _ => False) := rfl
theorem s_65g {X : PX} {y pc : Nat} {L : AL} {st : List AV} {W : AW} {bc bs : Nat} {Q : AQ} {z p2 : Nat} {q : Int} {l : List (Int × Nat)} : sem X y pc (65, z, p2, q, l) L st W bc bs Q = (match pops (mi z).2.1 st [] with
    | some (Sum.inr (Sum.inr (some j)) :: as, rest) => stw rest ≤ 8 ∧ (lay1 (vr j :: as)).length ≤ (mi z).2.2.1 ∧ (mi z).2.2.2.2.1 ≤ bc ∧ (mi z).2.2.2.2.2.1 ≤ bs ∧
        ∃ P : AQ, X z 0 (ent (mi z).2.2.1 (vr j :: as)) [] W (mi z).2.2.2.2.1 (mi z).2.2.2.2.2.1 P ∧ ∀ r W', P r W' → X y (pc + 3) L (psh r rest) W' (bc - (mi z).2.2.2.2.1) (bs - (mi z).2.2.2.2.2.1) Q
    | _ => False) := rfl
section SOUND
variable {l : Launch} {F : Nat → AE} {D : va_G} {cy cr : Nat → ClassId} {ad0 : Nat → Nat}
set_option maxHeartbeats 40000000 in
set_option maxRecDepth 100000 in
theorem sound : ∀ y pc L st w bc bs Q, sem (Snd l F D cy cr ad0) y pc (cd y pc) L st w bc bs Q → Snd l F D cy cr ad0 y pc L st w bc bs Q := by
  intro y pc L st w bc bs Q hs p e R s m args below meth c A mt mst hF
  rcases row_of y pc with h0 | ⟨hy, i, len, hd, hab, hck⟩
  · rw [h0] at hs
    exact False.elim hs
  have hb := And.intro hs hck
  clear hs hck
  rw [← hab] at hb
  clear hab
  have hpk := pk_all (mi y).1
  have hown := own_all y hy
  cases i with
  | iconst n =>
    rw [show ab (mi y).1 pc (.iconst n) len = (if len = 1 ∧ -1 ≤ n ∧ n ≤ 5 then (1, 0, len, n, []) else ai0) from rfl] at hb
    split at hb
    · next hl =>
      obtain ⟨rfl, h1, h2⟩ := hl
      have hs := hb.1
      simp only [s_1] at hs
      exact r_iconst hF hd (by unfold in32; omega) (hs p e R s m args below meth c A mt mst hF)
    · exact False.elim hb.1
  | bipush n =>
    rw [show ab (mi y).1 pc (.bipush n) len = (if len = 2 ∧ -128 ≤ n ∧ n < 128 then (1, 0, len, n, []) else ai0) from rfl] at hb
    split at hb
    · next hl =>
      obtain ⟨rfl, h1, h2⟩ := hl
      have hs := hb.1
      simp only [s_1] at hs
      exact r_bipush hF hd h1 h2 (hs p e R s m args below meth c A mt mst hF)
    · exact False.elim hb.1
  | sipush n =>
    rw [show ab (mi y).1 pc (.sipush n) len = (if len = 3 ∧ -32768 ≤ n ∧ n < 32768 then (1, 0, len, n, []) else ai0) from rfl] at hb
    split at hb
    · next hl =>
      obtain ⟨rfl, h1, h2⟩ := hl
      have hs := hb.1
      simp only [s_1] at hs
      exact r_sipush hF hd h1 h2 (hs p e R s m args below meth c A mt mst hF)
    · exact False.elim hb.1
  | lconst n =>
    rw [show ab (mi y).1 pc (.lconst n) len = (if len = 1 then (2, 0, len, ((n : Nat) : Int), []) else ai0) from rfl] at hb
    split at hb
    · next hl =>
      subst hl
      have hs := hb.1
      simp only [s_2] at hs
      exact r_lconst hF hd (hs p e R s m args below meth c A mt mst hF)
    · exact False.elim hb.1
  | aconst_null =>
    rw [show ab (mi y).1 pc (.aconst_null) len = (if len = 1 then (4, 0, len, 0, []) else ai0) from rfl] at hb
    split at hb
    · next hl =>
      subst hl
      have hs := hb.1
      simp only [s_4] at hs
      exact r_null hF hd (hs p e R s m args below meth c A mt mst hF)
    · exact False.elim hb.1
  | ldc x =>
    rw [show ab (mi y).1 pc (.ldc x) len = (if len = 2 then (match pl (mi y).1 x with | (7, _, _, z) => (1, 0, len, z, []) | (9, a, _, _) => (3, a, len, 0, []) | _ => ai0) else ai0) from rfl] at hb
    split at hb
    · next hl =>
      subst hl
      have hp := hpk x
      split at hb
      · next _ _ _ z heq =>
        rw [heq] at hp
        have hs := hb.1
        simp only [s_1] at hs
        exact r_ldc hF hd hp.1 (by rw [hown]; exact hp.2) (hs p e R s m args below meth c A mt mst hF)
      · next _ a _ _ heq =>
        rw [heq] at hp
        have hs := hb.1
        simp only [s_3] at hs
        obtain ⟨h1, tx, h2⟩ := hp
        exact r_ldcS hF hd h1 (by rw [hown]; exact h2) (hs p e R s m args below meth c A mt mst hF)
      · exact False.elim hb.1
    · exact False.elim hb.1
  | ldc_w x =>
    rw [show ab (mi y).1 pc (.ldc_w x) len = (if len = 3 then (match pl (mi y).1 x with | (7, _, _, z) => (1, 0, len, z, []) | (9, a, _, _) => (3, a, len, 0, []) | _ => ai0) else ai0) from rfl] at hb
    split at hb
    · next hl =>
      subst hl
      have hp := hpk x
      split at hb
      · next _ _ _ z heq =>
        rw [heq] at hp
        have hs := hb.1
        simp only [s_1] at hs
        exact r_ldcw hF hd hp.1 (by rw [hown]; exact hp.2) (hs p e R s m args below meth c A mt mst hF)
      · next _ a _ _ heq =>
        rw [heq] at hp
        have hs := hb.1
        simp only [s_3] at hs
        obtain ⟨h1, tx, h2⟩ := hp
        exact r_ldcwS hF hd h1 (by rw [hown]; exact h2) (hs p e R s m args below meth c A mt mst hF)
      · exact False.elim hb.1
    · exact False.elim hb.1
  | ldc2_w x =>
    rw [show ab (mi y).1 pc (.ldc2_w x) len = (if len = 3 then (match pl (mi y).1 x with | (8, _, _, z) => (2, 0, len, z, []) | _ => ai0) else ai0) from rfl] at hb
    split at hb
    · next hl =>
      subst hl
      have hp := hpk x
      split at hb
      · next _ _ _ z heq =>
        rw [heq] at hp
        have hs := hb.1
        simp only [s_2] at hs
        exact r_ldc2 hF hd hp.1 (by rw [hown]; exact hp.2) (hs p e R s m args below meth c A mt mst hF)
      · exact False.elim hb.1
    · exact False.elim hb.1
  | getstatic x =>
    rw [show ab (mi y).1 pc (.getstatic x) len = (if len = 3 then (match pl (mi y).1 x with | (10, _, _, z) => (1, 0, len, z, []) | (11, a, _, _) => (3, a, len, 0, []) | (12, _, _, _) => (76, 0, len, 0, []) | _ => ai0) else ai0) from rfl] at hb
    split at hb
    · next hl =>
      subst hl
      have hp := hpk x
      split at hb
      · next _ _ _ z heq =>
        rw [heq] at hp
        have hs := hb.1
        simp only [s_1] at hs
        obtain ⟨rfl, h2⟩ := hp
        exact r_getsC hF hd (by rw [hown]; exact h2) (hs p e R s m args below meth c A mt mst hF)
      · next _ a _ _ heq =>
        rw [heq] at hp
        have hs := hb.1
        simp only [s_3] at hs
        obtain ⟨h1, C, n, h2, h3⟩ := hp
        exact r_gets hF hd h1 h2 (by rw [hown]; exact h3) (hs p e R s m args below meth c A mt mst hF)
      · next _ _ _ _ heq =>
        rw [heq] at hp
        have hs := hb.1
        simp only [s_76] at hs
        exact r_getsF hF hd (by rw [hown]; exact hp) (fun r hr => hs r hr p e R s m args below meth c A mt mst hF)
      · exact False.elim hb.1
    · exact False.elim hb.1
  | iload k =>
    rw [show ab (mi y).1 pc (.iload k) len = (if len = 2 then (5, k, len, 0, []) else ai0) from rfl] at hb
    split at hb
    · next hl =>
      subst hl
      have hs := hb.1
      simp only [s_5] at hs
      generalize hg : lget L k = v at hs
      rcases v with _ | v | v | v <;> first | exact False.elim hs | exact r_iload hF hd hg (hs p e R s m args below meth c A mt mst hF)
    · exact False.elim hb.1
  | iload_n k =>
    rw [show ab (mi y).1 pc (.iload_n k) len = (if len = 1 then (5, (k : Nat), len, 0, []) else ai0) from rfl] at hb
    split at hb
    · next hl =>
      subst hl
      have hs := hb.1
      simp only [s_5] at hs
      generalize hg : lget L (k : Nat) = v at hs
      rcases v with _ | v | v | v <;> first | exact False.elim hs | exact r_iload_n hF hd hg (hs p e R s m args below meth c A mt mst hF)
    · exact False.elim hb.1
  | lload k =>
    rw [show ab (mi y).1 pc (.lload k) len = (if len = 2 then (6, k, len, 0, []) else ai0) from rfl] at hb
    split at hb
    · next hl =>
      subst hl
      have hs := hb.1
      simp only [s_6] at hs
      generalize hg : lget L k = v at hs
      rcases v with _ | v | v | v <;> first | exact False.elim hs | exact r_lload hF hd hg (hs p e R s m args below meth c A mt mst hF)
    · exact False.elim hb.1
  | lload_n k =>
    rw [show ab (mi y).1 pc (.lload_n k) len = (if len = 1 then (6, (k : Nat), len, 0, []) else ai0) from rfl] at hb
    split at hb
    · next hl =>
      subst hl
      have hs := hb.1
      simp only [s_6] at hs
      generalize hg : lget L (k : Nat) = v at hs
      rcases v with _ | v | v | v <;> first | exact False.elim hs | exact r_lload_n hF hd hg (hs p e R s m args below meth c A mt mst hF)
    · exact False.elim hb.1
  | aload k =>
    rw [show ab (mi y).1 pc (.aload k) len = (if len = 2 then (7, k, len, 0, []) else ai0) from rfl] at hb
    split at hb
    · next hl =>
      subst hl
      have hs := hb.1
      simp only [s_7] at hs
      generalize hg : lget L k = v at hs
      rcases v with _ | v | v | v <;> first | exact False.elim hs | exact r_aload hF hd hg (hs p e R s m args below meth c A mt mst hF)
    · exact False.elim hb.1
  | aload_n k =>
    rw [show ab (mi y).1 pc (.aload_n k) len = (if len = 1 then (7, (k : Nat), len, 0, []) else ai0) from rfl] at hb
    split at hb
    · next hl =>
      subst hl
      have hs := hb.1
      simp only [s_7] at hs
      generalize hg : lget L (k : Nat) = v at hs
      rcases v with _ | v | v | v <;> first | exact False.elim hs | exact r_aload_n hF hd hg (hs p e R s m args below meth c A mt mst hF)
    · exact False.elim hb.1
  | istore k =>
    rw [show ab (mi y).1 pc (.istore k) len = (if len = 2 then (8, k, len, 0, []) else ai0) from rfl] at hb
    split at hb
    · next hl =>
      subst hl
      have hs := hb.1
      rcases st with _ | ⟨a | a | a, st⟩ <;> first | exact False.elim hs | (simp only [s_8] at hs; exact r_istore hF hd hs.1 hs.2.1 (hs.2.2 p e R s m args below meth c A mt mst hF))
    · exact False.elim hb.1
  | istore_n k =>
    rw [show ab (mi y).1 pc (.istore_n k) len = (if len = 1 then (8, (k : Nat), len, 0, []) else ai0) from rfl] at hb
    split at hb
    · next hl =>
      subst hl
      have hs := hb.1
      rcases st with _ | ⟨a | a | a, st⟩ <;> first | exact False.elim hs | (simp only [s_8] at hs; exact r_istore_n hF hd hs.1 hs.2.1 (hs.2.2 p e R s m args below meth c A mt mst hF))
    · exact False.elim hb.1
  | lstore k =>
    rw [show ab (mi y).1 pc (.lstore k) len = (if len = 2 then (9, k, len, 0, []) else ai0) from rfl] at hb
    split at hb
    · next hl =>
      subst hl
      have hs := hb.1
      rcases st with _ | ⟨a | a | a, st⟩ <;> first | exact False.elim hs | (simp only [s_9] at hs; exact r_lstore hF hd hs.1 hs.2.1 (hs.2.2 p e R s m args below meth c A mt mst hF))
    · exact False.elim hb.1
  | lstore_n k =>
    rw [show ab (mi y).1 pc (.lstore_n k) len = (if len = 1 then (9, (k : Nat), len, 0, []) else ai0) from rfl] at hb
    split at hb
    · next hl =>
      subst hl
      have hs := hb.1
      rcases st with _ | ⟨a | a | a, st⟩ <;> first | exact False.elim hs | (simp only [s_9] at hs; exact r_lstore_n hF hd hs.1 hs.2.1 (hs.2.2 p e R s m args below meth c A mt mst hF))
    · exact False.elim hb.1
  | astore k =>
    rw [show ab (mi y).1 pc (.astore k) len = (if len = 2 then (10, k, len, 0, []) else ai0) from rfl] at hb
    split at hb
    · next hl =>
      subst hl
      have hs := hb.1
      rcases st with _ | ⟨a | a | a, st⟩ <;> first | exact False.elim hs | (simp only [s_10] at hs; exact r_astore hF hd hs.1 hs.2.1 (hs.2.2 p e R s m args below meth c A mt mst hF))
    · exact False.elim hb.1
  | astore_n k =>
    rw [show ab (mi y).1 pc (.astore_n k) len = (if len = 1 then (10, (k : Nat), len, 0, []) else ai0) from rfl] at hb
    split at hb
    · next hl =>
      subst hl
      have hs := hb.1
      rcases st with _ | ⟨a | a | a, st⟩ <;> first | exact False.elim hs | (simp only [s_10] at hs; exact r_astore_n hF hd hs.1 hs.2.1 (hs.2.2 p e R s m args below meth c A mt mst hF))
    · exact False.elim hb.1
  | iinc k n =>
    rw [show ab (mi y).1 pc (.iinc k n) len = (if len = 3 ∧ -128 ≤ n ∧ n < 128 then (11, k, len, n, []) else ai0) from rfl] at hb
    split at hb
    · next hl =>
      obtain ⟨rfl, h1, h2⟩ := hl
      have hs := hb.1
      simp only [s_11] at hs
      generalize hg : lget L k = v at hs
      rcases v with _ | v | v | v <;> first | exact False.elim hs | exact r_iinc hF hd hg hs.1 hs.2.1 (hs.2.2 p e R s m args below meth c A mt mst hF)
    · exact False.elim hb.1
  | iadd =>
    rw [show ab (mi y).1 pc (.iadd) len = (if len = 1 then (12, 0, 1, 0, []) else ai0) from rfl] at hb
    split at hb
    · next hl =>
      subst hl
      have hs := hb.1
      rcases st with _ | ⟨b | b | b, _ | ⟨a | a | a, st⟩⟩ <;> first | exact False.elim hs | (simp only [s_12] at hs; exact r_iadd hF hd hs.1 (hs.2 p e R s m args below meth c A mt mst hF))
    · exact False.elim hb.1
  | isub =>
    rw [show ab (mi y).1 pc (.isub) len = (if len = 1 then (13, 0, 1, 0, []) else ai0) from rfl] at hb
    split at hb
    · next hl =>
      subst hl
      have hs := hb.1
      rcases st with _ | ⟨b | b | b, _ | ⟨a | a | a, st⟩⟩ <;> first | exact False.elim hs | (simp only [s_13] at hs; exact r_isub hF hd hs.1 (hs.2 p e R s m args below meth c A mt mst hF))
    · exact False.elim hb.1
  | imul =>
    rw [show ab (mi y).1 pc (.imul) len = (if len = 1 then (14, 0, 1, 0, []) else ai0) from rfl] at hb
    split at hb
    · next hl =>
      subst hl
      have hs := hb.1
      rcases st with _ | ⟨b | b | b, _ | ⟨a | a | a, st⟩⟩ <;> first | exact False.elim hs | (simp only [s_14] at hs; exact r_imul hF hd hs.1 (hs.2 p e R s m args below meth c A mt mst hF))
    · exact False.elim hb.1
  | idiv =>
    rw [show ab (mi y).1 pc (.idiv) len = (if len = 1 then (15, 0, 1, 0, []) else ai0) from rfl] at hb
    split at hb
    · next hl =>
      subst hl
      have hs := hb.1
      rcases st with _ | ⟨b | b | b, _ | ⟨a | a | a, st⟩⟩ <;> first | exact False.elim hs | (simp only [s_15] at hs; exact r_idiv hF hd hs.1 hs.2.1 (hs.2.2 p e R s m args below meth c A mt mst hF))
    · exact False.elim hb.1
  | irem =>
    rw [show ab (mi y).1 pc (.irem) len = (if len = 1 then (16, 0, 1, 0, []) else ai0) from rfl] at hb
    split at hb
    · next hl =>
      subst hl
      have hs := hb.1
      rcases st with _ | ⟨b | b | b, _ | ⟨a | a | a, st⟩⟩ <;> first | exact False.elim hs | (simp only [s_16] at hs; exact r_irem hF hd hs.1 (hs.2 p e R s m args below meth c A mt mst hF))
    · exact False.elim hb.1
  | ineg =>
    rw [show ab (mi y).1 pc (.ineg) len = (if len = 1 then (17, 0, 1, 0, []) else ai0) from rfl] at hb
    split at hb
    · next hl =>
      subst hl
      have hs := hb.1
      rcases st with _ | ⟨a | a | a, st⟩ <;> first | exact False.elim hs | (simp only [s_17] at hs; exact r_ineg hF hd hs.1 (hs.2 p e R s m args below meth c A mt mst hF))
    · exact False.elim hb.1
  | iand =>
    rw [show ab (mi y).1 pc (.iand) len = (if len = 1 then (18, 0, 1, 0, []) else ai0) from rfl] at hb
    split at hb
    · next hl =>
      subst hl
      have hs := hb.1
      rcases st with _ | ⟨b | b | b, _ | ⟨a | a | a, st⟩⟩ <;> first | exact False.elim hs | (simp only [s_18] at hs; exact r_iand hF hd (hs p e R s m args below meth c A mt mst hF))
    · exact False.elim hb.1
  | ior =>
    rw [show ab (mi y).1 pc (.ior) len = (if len = 1 then (19, 0, 1, 0, []) else ai0) from rfl] at hb
    split at hb
    · next hl =>
      subst hl
      have hs := hb.1
      rcases st with _ | ⟨b | b | b, _ | ⟨a | a | a, st⟩⟩ <;> first | exact False.elim hs | (simp only [s_19] at hs; exact r_ior hF hd (hs p e R s m args below meth c A mt mst hF))
    · exact False.elim hb.1
  | ixor =>
    rw [show ab (mi y).1 pc (.ixor) len = (if len = 1 then (20, 0, 1, 0, []) else ai0) from rfl] at hb
    split at hb
    · next hl =>
      subst hl
      have hs := hb.1
      rcases st with _ | ⟨b | b | b, _ | ⟨a | a | a, st⟩⟩ <;> first | exact False.elim hs | (simp only [s_20] at hs; exact r_ixor hF hd (hs p e R s m args below meth c A mt mst hF))
    · exact False.elim hb.1
  | ishl =>
    rw [show ab (mi y).1 pc (.ishl) len = (if len = 1 then (21, 0, 1, 0, []) else ai0) from rfl] at hb
    split at hb
    · next hl =>
      subst hl
      have hs := hb.1
      rcases st with _ | ⟨b | b | b, _ | ⟨a | a | a, st⟩⟩ <;> first | exact False.elim hs | (simp only [s_21] at hs; exact r_ishl hF hd (hs p e R s m args below meth c A mt mst hF))
    · exact False.elim hb.1
  | ishr =>
    rw [show ab (mi y).1 pc (.ishr) len = (if len = 1 then (22, 0, 1, 0, []) else ai0) from rfl] at hb
    split at hb
    · next hl =>
      subst hl
      have hs := hb.1
      rcases st with _ | ⟨b | b | b, _ | ⟨a | a | a, st⟩⟩ <;> first | exact False.elim hs | (simp only [s_22] at hs; exact r_ishr hF hd (hs p e R s m args below meth c A mt mst hF))
    · exact False.elim hb.1
  | iushr =>
    rw [show ab (mi y).1 pc (.iushr) len = (if len = 1 then (23, 0, 1, 0, []) else ai0) from rfl] at hb
    split at hb
    · next hl =>
      subst hl
      have hs := hb.1
      rcases st with _ | ⟨b | b | b, _ | ⟨a | a | a, st⟩⟩ <;> first | exact False.elim hs | (simp only [s_23] at hs; exact r_iushr hF hd (hs p e R s m args below meth c A mt mst hF))
    · exact False.elim hb.1
  | ladd =>
    rw [show ab (mi y).1 pc (.ladd) len = (if len = 1 then (24, 0, 1, 0, []) else ai0) from rfl] at hb
    split at hb
    · next hl =>
      subst hl
      have hs := hb.1
      rcases st with _ | ⟨b | b | b, _ | ⟨a | a | a, st⟩⟩ <;> first | exact False.elim hs | (simp only [s_24] at hs; exact r_ladd hF hd (hs p e R s m args below meth c A mt mst hF))
    · exact False.elim hb.1
  | lsub =>
    rw [show ab (mi y).1 pc (.lsub) len = (if len = 1 then (25, 0, 1, 0, []) else ai0) from rfl] at hb
    split at hb
    · next hl =>
      subst hl
      have hs := hb.1
      rcases st with _ | ⟨b | b | b, _ | ⟨a | a | a, st⟩⟩ <;> first | exact False.elim hs | (simp only [s_25] at hs; exact r_lsub hF hd (hs p e R s m args below meth c A mt mst hF))
    · exact False.elim hb.1
  | lmul =>
    rw [show ab (mi y).1 pc (.lmul) len = (if len = 1 then (26, 0, 1, 0, []) else ai0) from rfl] at hb
    split at hb
    · next hl =>
      subst hl
      have hs := hb.1
      rcases st with _ | ⟨b | b | b, _ | ⟨a | a | a, st⟩⟩ <;> first | exact False.elim hs | (simp only [s_26] at hs; exact r_lmul hF hd (hs p e R s m args below meth c A mt mst hF))
    · exact False.elim hb.1
  | land =>
    rw [show ab (mi y).1 pc (.land) len = (if len = 1 then (29, 0, 1, 0, []) else ai0) from rfl] at hb
    split at hb
    · next hl =>
      subst hl
      have hs := hb.1
      rcases st with _ | ⟨b | b | b, _ | ⟨a | a | a, st⟩⟩ <;> first | exact False.elim hs | (simp only [s_29] at hs; exact r_land hF hd (hs p e R s m args below meth c A mt mst hF))
    · exact False.elim hb.1
  | lor =>
    rw [show ab (mi y).1 pc (.lor) len = (if len = 1 then (30, 0, 1, 0, []) else ai0) from rfl] at hb
    split at hb
    · next hl =>
      subst hl
      have hs := hb.1
      rcases st with _ | ⟨b | b | b, _ | ⟨a | a | a, st⟩⟩ <;> first | exact False.elim hs | (simp only [s_30] at hs; exact r_lor hF hd (hs p e R s m args below meth c A mt mst hF))
    · exact False.elim hb.1
  | lushr =>
    rw [show ab (mi y).1 pc (.lushr) len = (if len = 1 then (31, 0, 1, 0, []) else ai0) from rfl] at hb
    split at hb
    · next hl =>
      subst hl
      have hs := hb.1
      rcases st with _ | ⟨b | b | b, _ | ⟨a | a | a, st⟩⟩ <;> first | exact False.elim hs | (simp only [s_31] at hs; exact r_lushr hF hd (hs p e R s m args below meth c A mt mst hF))
    · exact False.elim hb.1
  | lshl =>
    rw [show ab (mi y).1 pc (.lshl) len = (if len = 1 then (32, 0, 1, 0, []) else ai0) from rfl] at hb
    split at hb
    · next hl =>
      subst hl
      have hs := hb.1
      rcases st with _ | ⟨b | b | b, _ | ⟨a | a | a, st⟩⟩ <;> first | exact False.elim hs | (simp only [s_32] at hs; exact r_lshl hF hd (hs p e R s m args below meth c A mt mst hF))
    · exact False.elim hb.1
  | lshr =>
    rw [show ab (mi y).1 pc (.lshr) len = (if len = 1 then (33, 0, 1, 0, []) else ai0) from rfl] at hb
    split at hb
    · next hl =>
      subst hl
      have hs := hb.1
      rcases st with _ | ⟨b | b | b, _ | ⟨a | a | a, st⟩⟩ <;> first | exact False.elim hs | (simp only [s_33] at hs; exact r_lshr hF hd (hs p e R s m args below meth c A mt mst hF))
    · exact False.elim hb.1
  | lcmp =>
    rw [show ab (mi y).1 pc (.lcmp) len = (if len = 1 then (34, 0, 1, 0, []) else ai0) from rfl] at hb
    split at hb
    · next hl =>
      subst hl
      have hs := hb.1
      rcases st with _ | ⟨b | b | b, _ | ⟨a | a | a, st⟩⟩ <;> first | exact False.elim hs | (simp only [s_34] at hs; exact r_lcmp hF hd (hs p e R s m args below meth c A mt mst hF))
    · exact False.elim hb.1
  | ldiv =>
    rw [show ab (mi y).1 pc (.ldiv) len = (if len = 1 then (27, 0, 1, 0, []) else ai0) from rfl] at hb
    split at hb
    · next hl =>
      subst hl
      have hs := hb.1
      rcases st with _ | ⟨b | b | b, _ | ⟨a | a | a, st⟩⟩ <;> first | exact False.elim hs | (simp only [s_27] at hs; exact r_ldiv hF hd hs.1 (hs.2 p e R s m args below meth c A mt mst hF))
    · exact False.elim hb.1
  | lrem =>
    rw [show ab (mi y).1 pc (.lrem) len = (if len = 1 then (28, 0, 1, 0, []) else ai0) from rfl] at hb
    split at hb
    · next hl =>
      subst hl
      have hs := hb.1
      rcases st with _ | ⟨b | b | b, _ | ⟨a | a | a, st⟩⟩ <;> first | exact False.elim hs | (simp only [s_28] at hs; exact r_lrem hF hd hs.1 (hs.2 p e R s m args below meth c A mt mst hF))
    · exact False.elim hb.1
  | i2l =>
    rw [show ab (mi y).1 pc (.i2l) len = (if len = 1 then (35, 0, 1, 0, []) else ai0) from rfl] at hb
    split at hb
    · next hl =>
      subst hl
      have hs := hb.1
      rcases st with _ | ⟨a | a | a, st⟩ <;> first | exact False.elim hs | (simp only [s_35] at hs; exact r_i2l hF hd (hs p e R s m args below meth c A mt mst hF))
    · exact False.elim hb.1
  | l2i =>
    rw [show ab (mi y).1 pc (.l2i) len = (if len = 1 then (36, 0, 1, 0, []) else ai0) from rfl] at hb
    split at hb
    · next hl =>
      subst hl
      have hs := hb.1
      rcases st with _ | ⟨a | a | a, st⟩ <;> first | exact False.elim hs | (simp only [s_36] at hs; exact r_l2i hF hd (hs p e R s m args below meth c A mt mst hF))
    · exact False.elim hb.1
  | i2b =>
    rw [show ab (mi y).1 pc (.i2b) len = (if len = 1 then (37, 0, 1, 0, []) else ai0) from rfl] at hb
    split at hb
    · next hl =>
      subst hl
      have hs := hb.1
      rcases st with _ | ⟨a | a | a, st⟩ <;> first | exact False.elim hs | (simp only [s_37] at hs; exact r_i2b hF hd (hs p e R s m args below meth c A mt mst hF))
    · exact False.elim hb.1
  | i2c =>
    rw [show ab (mi y).1 pc (.i2c) len = (if len = 1 then (38, 0, 1, 0, []) else ai0) from rfl] at hb
    split at hb
    · next hl =>
      subst hl
      have hs := hb.1
      rcases st with _ | ⟨a | a | a, st⟩ <;> first | exact False.elim hs | (simp only [s_38] at hs; exact r_i2c hF hd (hs p e R s m args below meth c A mt mst hF))
    · exact False.elim hb.1
  | dup =>
    rw [show ab (mi y).1 pc (.dup) len = (if len = 1 then (39, 0, 1, 0, []) else ai0) from rfl] at hb
    split at hb
    · next hl =>
      subst hl
      have hs := hb.1
      rcases st with _ | ⟨v, st⟩ <;> first | exact False.elim hs | (simp only [s_39] at hs; exact r_dup hF hd hs.1 (hs.2 p e R s m args below meth c A mt mst hF))
    · exact False.elim hb.1
  | dup2 =>
    rw [show ab (mi y).1 pc (.dup2) len = (if len = 1 then (40, 0, 1, 0, []) else ai0) from rfl] at hb
    split at hb
    · next hl =>
      subst hl
      have hs := hb.1
      rcases st with _ | ⟨b | b | b, _ | ⟨a, st⟩⟩ <;> first | exact False.elim hs | (simp only [s_40l] at hs; exact r_dup2l hF hd (hs p e R s m args below meth c A mt mst hF)) | (simp only [s_40i] at hs; exact r_dup2 hF hd hs.1 hs.2.1 (hs.2.2 p e R s m args below meth c A mt mst hF)) | (simp only [s_40r] at hs; exact r_dup2 hF hd hs.1 hs.2.1 (hs.2.2 p e R s m args below meth c A mt mst hF))
    · exact False.elim hb.1
  | pop =>
    rw [show ab (mi y).1 pc (.pop) len = (if len = 1 then (41, 0, 1, 0, []) else ai0) from rfl] at hb
    split at hb
    · next hl =>
      subst hl
      have hs := hb.1
      rcases st with _ | ⟨v, st⟩ <;> first | exact False.elim hs | (simp only [s_41] at hs; exact r_pop hF hd hs.1 (hs.2 p e R s m args below meth c A mt mst hF))
    · exact False.elim hb.1
  | goto d =>
    rw [show ab (mi y).1 pc (.goto d) len = (if len = 3 then (if 0 ≤ (pc : Int) + d then (43, tgt pc d, len, 0, []) else ai0) else ai0) from rfl] at hb
    split at hb
    · next hl =>
      subst hl
      split at hb
      · next ht =>
        have hs := hb.1
        simp only [s_43] at hs
        exact r_goto hF hd ht (hs p e R s m args below meth c A mt mst hF)
      · exact False.elim hb.1
    · exact False.elim hb.1
  | ifCond q d =>
    rw [show ab (mi y).1 pc (.ifCond q d) len = (if len = 3 then (if 0 ≤ (pc : Int) + d then (44, tgt pc d, len, ccd q, []) else ai0) else ai0) from rfl] at hb
    split at hb
    · next hl =>
      subst hl
      split at hb
      · next ht =>
        have hs := hb.1
        rcases st with _ | ⟨a | a | a, st⟩ <;> first | exact False.elim hs | (simp only [s_44] at hs; cases q)
        · exact r_if_eq hF hd ht (fun z => hs.1 z p e R s m args below meth c A mt mst hF) (fun z => hs.2 z p e R s m args below meth c A mt mst hF)
        · exact r_if_ne hF hd ht (fun z => hs.1 z p e R s m args below meth c A mt mst hF) (fun z => hs.2 z p e R s m args below meth c A mt mst hF)
        · exact r_if_lt hF hd ht (fun z => hs.1 z p e R s m args below meth c A mt mst hF) (fun z => hs.2 z p e R s m args below meth c A mt mst hF)
        · exact r_if_ge hF hd ht (fun z => hs.1 z p e R s m args below meth c A mt mst hF) (fun z => hs.2 z p e R s m args below meth c A mt mst hF)
        · exact r_if_gt hF hd ht (fun z => hs.1 z p e R s m args below meth c A mt mst hF) (fun z => hs.2 z p e R s m args below meth c A mt mst hF)
        · exact r_if_le hF hd ht (fun z => hs.1 z p e R s m args below meth c A mt mst hF) (fun z => hs.2 z p e R s m args below meth c A mt mst hF)
      · exact False.elim hb.1
    · exact False.elim hb.1
  | if_icmp q d =>
    rw [show ab (mi y).1 pc (.if_icmp q d) len = (if len = 3 then (if 0 ≤ (pc : Int) + d then (45, tgt pc d, len, ccd q, []) else ai0) else ai0) from rfl] at hb
    split at hb
    · next hl =>
      subst hl
      split at hb
      · next ht =>
        have hs := hb.1
        rcases st with _ | ⟨b | b | b, _ | ⟨a | a | a, st⟩⟩ <;> first | exact False.elim hs | (simp only [s_45] at hs; cases q)
        · exact r_icmp_eq hF hd ht (fun z => hs.1 z p e R s m args below meth c A mt mst hF) (fun z => hs.2 z p e R s m args below meth c A mt mst hF)
        · exact r_icmp_ne hF hd ht (fun z => hs.1 z p e R s m args below meth c A mt mst hF) (fun z => hs.2 z p e R s m args below meth c A mt mst hF)
        · exact r_icmp_lt hF hd ht (fun z => hs.1 z p e R s m args below meth c A mt mst hF) (fun z => hs.2 z p e R s m args below meth c A mt mst hF)
        · exact r_icmp_ge hF hd ht (fun z => hs.1 z p e R s m args below meth c A mt mst hF) (fun z => hs.2 z p e R s m args below meth c A mt mst hF)
        · exact r_icmp_gt hF hd ht (fun z => hs.1 z p e R s m args below meth c A mt mst hF) (fun z => hs.2 z p e R s m args below meth c A mt mst hF)
        · exact r_icmp_le hF hd ht (fun z => hs.1 z p e R s m args below meth c A mt mst hF) (fun z => hs.2 z p e R s m args below meth c A mt mst hF)
      · exact False.elim hb.1
    · exact False.elim hb.1
  | ifnull d =>
    rw [show ab (mi y).1 pc (.ifnull d) len = (if len = 3 then (if 0 ≤ (pc : Int) + d then (46, tgt pc d, len, 0, []) else ai0) else ai0) from rfl] at hb
    split at hb
    · next hl =>
      subst hl
      split at hb
      · next ht =>
        have hs := hb.1
        rcases st with _ | ⟨a | a | a, st⟩ <;> first | exact False.elim hs | (simp only [s_46] at hs; exact r_ifnull hF hd ht (fun z => hs.1 z p e R s m args below meth c A mt mst hF) (fun z => hs.2 z p e R s m args below meth c A mt mst hF))
      · exact False.elim hb.1
    · exact False.elim hb.1
  | ifnonnull d =>
    rw [show ab (mi y).1 pc (.ifnonnull d) len = (if len = 3 then (if 0 ≤ (pc : Int) + d then (47, tgt pc d, len, 0, []) else ai0) else ai0) from rfl] at hb
    split at hb
    · next hl =>
      subst hl
      split at hb
      · next ht =>
        have hs := hb.1
        rcases st with _ | ⟨a | a | a, st⟩ <;> first | exact False.elim hs | (simp only [s_47] at hs; exact r_ifnonnull hF hd ht (fun z => hs.1 z p e R s m args below meth c A mt mst hF) (fun z => hs.2 z p e R s m args below meth c A mt mst hF))
      · exact False.elim hb.1
    · exact False.elim hb.1
  | tableswitch d lo hi offs =>
    rw [show ab (mi y).1 pc (.tableswitch d lo hi offs) len = (if hi = lo + (offs.toList.length : Int) - 1 ∧ 0 ≤ (pc : Int) + d ∧ offs.toList.all (fun o => decide (0 ≤ (pc : Int) + o)) = true then (48, tgt pc d, len, 0, swl pc lo offs.toList) else ai0) from rfl] at hb
    split at hb
    · next hl =>
      have hs := hb.1
      rcases st with _ | ⟨a | a | a, st⟩ <;> first | exact False.elim hs | (simp only [s_48] at hs; exact r_tsw hF hd hl.1 hl.2.1 hl.2.2 (sws_mono (fun u hu => hu p e R s m args below meth c A mt mst hF) _ _ _ hs))
    · exact False.elim hb.1
  | lookupswitch d ps =>
    rw [show ab (mi y).1 pc (.lookupswitch d ps) len = (if 0 ≤ (pc : Int) + d ∧ ps.toList.all (fun o => decide (0 ≤ (pc : Int) + o.2)) = true ∧ (ps.toList.zip (ps.toList.drop 1)).all (fun (a, next) => a.1 < next.1) = true then (48, tgt pc d, len, 0, ps.toList.map (fun q => (q.1, tgt pc q.2))) else ai0) from rfl] at hb
    split at hb
    · next hl =>
      have hs := hb.1
      rcases st with _ | ⟨a | a | a, st⟩ <;> first | exact False.elim hs | (simp only [s_48] at hs; exact r_lsw hF hd hl.1 hl.2.1 hl.2.2 (sws_mono (fun u hu => hu p e R s m args below meth c A mt mst hF) _ _ _ hs))
    · exact False.elim hb.1
  | iaload =>
    rw [show ab (mi y).1 pc (.iaload) len = (if len = 1 then (49, 0, 1, 0, []) else ai0) from rfl] at hb
    split at hb
    · next hl =>
      subst hl
      have hs := hb.1
      rcases st with _ | ⟨i | i | i, _ | ⟨k | k | _ | k, st⟩⟩ <;> first | exact False.elim hs | skip
      simp only [s_49] at hs
      generalize hw : w.2 k = en at hs
      rcases en with ⟨_ | t, n, f⟩ | en | en <;> first | exact False.elim hs | exact r_iaload hF hd hw hs.1 hs.2.1 hs.2.2.1 (hs.2.2.2 p e R s m args below meth c A mt mst hF)
    · exact False.elim hb.1
  | baload =>
    rw [show ab (mi y).1 pc (.baload) len = (if len = 1 then (50, 0, 1, 0, []) else ai0) from rfl] at hb
    split at hb
    · next hl =>
      subst hl
      have hs := hb.1
      rcases st with _ | ⟨i | i | i, _ | ⟨k | k | _ | k, st⟩⟩ <;> first | exact False.elim hs | skip
      simp only [s_50] at hs
      generalize hw : w.2 k = en at hs
      rcases en with ⟨_ | _ | _ | t, n, f⟩ | en | en <;> first | exact False.elim hs | exact r_baload1 hF hd hw hs.1 hs.2.1 hs.2.2.1 (hs.2.2.2 p e R s m args below meth c A mt mst hF) | exact r_baload2 hF hd hw hs.1 hs.2.1 hs.2.2.1 (hs.2.2.2 p e R s m args below meth c A mt mst hF)
    · exact False.elim hb.1
  | laload =>
    rw [show ab (mi y).1 pc (.laload) len = (if len = 1 then (51, 0, 1, 0, []) else ai0) from rfl] at hb
    split at hb
    · next hl =>
      subst hl
      have hs := hb.1
      rcases st with _ | ⟨i | i | i, _ | ⟨k | k | _ | k, st⟩⟩ <;> first | exact False.elim hs | skip
      simp only [s_51] at hs
      generalize hw : w.2 k = en at hs
      rcases en with ⟨_ | _ | _ | _ | t, n, f⟩ | en | en <;> first | exact False.elim hs | exact r_laload hF hd hw hs.1 hs.2.1 hs.2.2.1 (hs.2.2.2 p e R s m args below meth c A mt mst hF)
    · exact False.elim hb.1
  | aaload =>
    rw [show ab (mi y).1 pc (.aaload) len = (if len = 1 then (52, 0, 1, 0, []) else ai0) from rfl] at hb
    split at hb
    · next hl =>
      subst hl
      have hs := hb.1
      rcases st with _ | ⟨i | i | i, _ | ⟨k | k | _ | k, st⟩⟩ <;> first | exact False.elim hs | skip
      simp only [s_52] at hs
      generalize hw : w.2 k = en at hs
      rcases en with en | ⟨cn, n, f⟩ | en <;> first | exact False.elim hs | exact r_aaload hF hd hw hs.1 hs.2.1 hs.2.2.1 (hs.2.2.2 p e R s m args below meth c A mt mst hF)
    · exact False.elim hb.1
  | iastore =>
    rw [show ab (mi y).1 pc (.iastore) len = (if len = 1 then (53, 0, 1, 0, []) else ai0) from rfl] at hb
    split at hb
    · next hl =>
      subst hl
      have hs := hb.1
      rcases st with _ | ⟨x | x | x, _ | ⟨i | i | i, _ | ⟨k | k | _ | k, st⟩⟩⟩ <;> first | exact False.elim hs | skip
      simp only [s_53] at hs
      generalize hw : w.2 k = en at hs
      rcases en with ⟨_ | t, n, f⟩ | en | en <;> first | exact False.elim hs | exact r_iastore hF hd hw hs.1 hs.2.1 hs.2.2.1 hs.2.2.2.1 (hs.2.2.2.2 p e R s m args below meth c A mt mst hF)
    · exact False.elim hb.1
  | bastore =>
    rw [show ab (mi y).1 pc (.bastore) len = (if len = 1 then (54, 0, 1, 0, []) else ai0) from rfl] at hb
    split at hb
    · next hl =>
      subst hl
      have hs := hb.1
      rcases st with _ | ⟨x | x | x, _ | ⟨i | i | i, _ | ⟨k | k | _ | k, st⟩⟩⟩ <;> first | exact False.elim hs | skip
      simp only [s_54] at hs
      generalize hw : w.2 k = en at hs
      rcases en with ⟨_ | _ | _ | t, n, f⟩ | en | en <;> first | exact False.elim hs | exact r_bastore1 hF hd hw hs.1 hs.2.1 hs.2.2.1 hs.2.2.2.1 hs.2.2.2.2.1 (hs.2.2.2.2.2 p e R s m args below meth c A mt mst hF) | exact r_bastore2 hF hd hw hs.1 hs.2.1 hs.2.2.1 hs.2.2.2.1 hs.2.2.2.2.1 (hs.2.2.2.2.2 p e R s m args below meth c A mt mst hF)
    · exact False.elim hb.1
  | lastore =>
    rw [show ab (mi y).1 pc (.lastore) len = (if len = 1 then (55, 0, 1, 0, []) else ai0) from rfl] at hb
    split at hb
    · next hl =>
      subst hl
      have hs := hb.1
      rcases st with _ | ⟨x | x | x, _ | ⟨i | i | i, _ | ⟨k | k | _ | k, st⟩⟩⟩ <;> first | exact False.elim hs | skip
      simp only [s_55] at hs
      generalize hw : w.2 k = en at hs
      rcases en with ⟨_ | _ | _ | _ | t, n, f⟩ | en | en <;> first | exact False.elim hs | exact r_lastore hF hd hw hs.1 hs.2.1 hs.2.2.1 hs.2.2.2.1 (hs.2.2.2.2 p e R s m args below meth c A mt mst hF)
    · exact False.elim hb.1
  | arraylength =>
    rw [show ab (mi y).1 pc (.arraylength) len = (if len = 1 then (57, 0, 1, 0, []) else ai0) from rfl] at hb
    split at hb
    · next hl =>
      subst hl
      have hs := hb.1
      rcases st with _ | ⟨k | k | _ | k, st⟩ <;> first | exact False.elim hs | skip
      simp only [s_57] at hs
      generalize hw : w.2 k = en at hs
      rcases en with ⟨t, n, f⟩ | ⟨cn, n, f⟩ | en <;> first | exact False.elim hs | exact r_alen hF hd hw hs.1 hs.2.1 (hs.2.2.2 p e R s m args below meth c A mt mst hF) | exact r_alenr hF hd hw hs.2.1 (hs.2.2.2 p e R s m args below meth c A mt mst hF)
    · exact False.elim hb.1
  | newarray t =>
    rw [show ab (mi y).1 pc (.newarray t) len = (if len = 2 ∧ atc t < 4 then (58, atc t, len, 0, []) else ai0) from rfl] at hb
    split at hb
    · next hl =>
      obtain ⟨rfl, h4⟩ := hl
      have hs := hb.1
      rcases st with _ | ⟨n | n | n, st⟩ <;> first | exact False.elim hs | skip
      simp only [s_58] at hs
      obtain ⟨h0, h1, h2, h3, hs⟩ := hs
      have hs := hs p e R s m args below meth c A mt mst hF
      cases t <;> first | exact absurd h4 (by decide) | exact r_newi hF hd wd_ai h0 h1 h2 h3 hs | exact r_newb hF hd wd_ab h0 h1 h2 h3 hs | exact r_newz hF hd wd_az h0 h1 h2 h3 hs | exact r_newl hF hd wd_al h0 h1 h2 h3 hs
    · exact False.elim hb.1
  | anewarray x =>
    rw [show ab (mi y).1 pc (.anewarray x) len = (if len = 3 then (match pl (mi y).1 x with | (6, c, _, _) => if c < 13 then (59, c, len, 0, []) else ai0 | _ => ai0) else ai0) from rfl] at hb
    split at hb
    · next hl =>
      subst hl
      have hp := hpk x
      split at hb
      · next _ cn _ _ heq =>
        rw [heq] at hp
        split at hb
        · next hc =>
          have hs := hb.1
          have hk2 : (cn == 2 || cn == 4 || cn == 6) = true := hb.2
          rcases st with _ | ⟨n | n | n, st⟩ <;> first | exact False.elim hs | skip
          simp only [s_59] at hs
          obtain ⟨h0, h1, h2, h3, hs⟩ := hs
          have hcn : cn = 2 ∨ cn = 4 ∨ cn = 6 := by
            simp only [Bool.or_eq_true, beq_iff_eq] at hk2
            omega
          rcases hp with ⟨-, hp⟩ | ⟨hp, -⟩
          · exact r_anew hF hd hcn (by rw [hown]; exact hp) h0 h1 h2 h3 (hs p e R s m args below meth c A mt mst hF)
          · omega
        · exact False.elim hb.1
      · exact False.elim hb.1
    · exact False.elim hb.1
  | new x =>
    rw [show ab (mi y).1 pc (.new x) len = (if len = 3 then (match pl (mi y).1 x with | (6, c, _, _) => if c < 13 then (60, c, len, 0, []) else ai0 | _ => ai0) else ai0) from rfl] at hb
    split at hb
    · next hl =>
      subst hl
      have hp := hpk x
      split at hb
      · next _ cn _ _ heq =>
        rw [heq] at hp
        split at hb
        · next hc =>
          have hs := hb.1
          simp only [s_60] at hs
          rcases hp with ⟨-, hp⟩ | ⟨hp, -⟩
          · exact r_new hF hd hc (co_all cn hc).1 (by rw [hown]; exact hp) hs.1 hs.2.1 (hs.2.2 p e R s m args below meth c A mt mst hF)
          · omega
        · exact False.elim hb.1
      · exact False.elim hb.1
    · exact False.elim hb.1
  | getfield x =>
    rw [show ab (mi y).1 pc (.getfield x) len = (if len = 3 then (match pl (mi y).1 x with | (1, c, k, z) => (61, c, k, z, []) | _ => ai0) else ai0) from rfl] at hb
    split at hb
    · next hl =>
      subst hl
      have hp := hpk x
      split at hb
      · next _ cn k z heq =>
        rw [heq] at hp
        have hs := hb.1
        rcases st with _ | ⟨a | a | _ | j, st⟩ <;> first | exact False.elim hs | skip
        simp only [s_61] at hs
        generalize hw : w.2 j = en at hs
        rcases en with en | en | ⟨d, fs⟩ <;> first | exact False.elim hs | skip
        obtain ⟨rfl, hj, hs⟩ := hs
        generalize hv : fget fs k = v at hs
        rcases v with _ | v
        · exact False.elim hs
        have hs := hs p e R s m args below meth c A mt mst hF
        rcases hp with ⟨h13, hk, hl, -⟩ | ⟨rfl, hl⟩
        · refine r_getfield hF hd (co_all cn h13).1 (fun T N hT => ?_) h13 hj hw hv hs
          obtain ⟨rfl, rfl⟩ := tcx_of h13 hT
          exact ⟨hk, by rw [hown]; exact hl⟩
        · exact r_getfieldS hF hd (by rw [hown]; exact hl) hj hw hv hs
      · exact False.elim hb.1
    · exact False.elim hb.1
  | putfield x =>
    rw [show ab (mi y).1 pc (.putfield x) len = (if len = 3 then (match pl (mi y).1 x with | (1, c, k, z) => (62, c, k, z, []) | _ => ai0) else ai0) from rfl] at hb
    split at hb
    · next hl =>
      subst hl
      have hp := hpk x
      split at hb
      · next _ cn k z heq =>
        rw [heq] at hp
        have hs := hb.1
        have hk2 : (decide (cn < 13) && (!((tcx cn).1 k).2.2.2 || ((nmy y).name == "<init>" && (mi y).1 == cn))) = true := hb.2
        rw [Bool.and_eq_true, decide_eq_true_eq, Bool.or_eq_true, Bool.and_eq_true, beq_iff_eq, beq_iff_eq] at hk2
        rcases st with _ | ⟨v, _ | ⟨a | a | _ | j, st⟩⟩ <;> first | exact False.elim hs | skip
        simp only [s_62g] at hs
        generalize hw : w.2 j = en at hs
        rcases en with en | en | ⟨d, fs⟩ <;> first | exact False.elim hs | skip
        obtain ⟨rfl, hz, hj, hv, hs⟩ := hs
        rcases hp with ⟨h13, hk, hl, hfk⟩ | ⟨rfl, -⟩
        · refine r_putfield hF hd (co_all cn h13).1 (fun T N hT => ?_) hz hj hw (hs p e R s m args below meth c A mt mst hF)
          obtain ⟨rfl, rfl⟩ := tcx_of h13 hT
          obtain ⟨q1, q2⟩ := cfk_at h13 hk
          refine ⟨hk, by rw [hown]; exact hl, ?_, put_ok q1 (kv_of hv hfk)⟩
          rcases hk2.2 with h | ⟨h1, h2⟩
          · exact Or.inl (by simpa using h)
          · by_cases hf : ((tcx cn).1 k).2.2.2 = true
            · exact Or.inr ⟨hf, h1, by rw [q2, hown, h2]⟩
            · exact Or.inl (by simpa using hf)
        · exact absurd hk2.1 (by decide)
      · exact False.elim hb.1
    · exact False.elim hb.1
  | aastore =>
    rw [show ab (mi y).1 pc (.aastore) len = (if len = 1 then (56, 0, 1, 0, []) else ai0) from rfl] at hb
    split at hb
    · next hl =>
      subst hl
      have hs := hb.1
      rcases st with _ | ⟨a | a | _ | j, _ | ⟨i | i | i, _ | ⟨b | b | _ | k, st⟩⟩⟩ <;> first | exact False.elim hs | skip
      simp only [s_56] at hs
      generalize hw : w.2 k = en at hs
      generalize hv : w.2 j = em at hs
      rcases en with en | ⟨cn, n, f⟩ | en <;> rcases em with em | em | ⟨d, fs⟩ <;> first | exact False.elim hs | skip
      obtain ⟨h1, h2, h3, h4, rfl, h6, h7, h8, hs⟩ := hs
      exact r_aastore hF hd (co_all _ h6).1 hw hv h1 h2 h3 h4 h7 h8 (hs p e R s m args below meth c A mt mst hF)
    · exact False.elim hb.1
  | invokevirtual x =>
    rw [show ab (mi y).1 pc (.invokevirtual x) len = (if len = 3 then (match pl (mi y).1 x with | (2, m, _, _) => (63, m, 3, 0, []) | (5, _, _, _) => (68, 0, 3, 0, []) | _ => ai0) else ai0) from rfl] at hb
    split at hb
    · next hl =>
      subst hl
      have hp := hpk x
      split at hb
      · next _ z _ _ heq =>
        rw [heq] at hp
        have hs := hb.1
        have hk2 : (kdz z == 1 && decide (z < 296) && decide ((mi z).1 < 14) && decide (rfy z + 1 ≤ rfy y) && decide (8 + (mxl z + 11) + rly z ≤ rly y)) = true := hb.2
        simp only [Bool.and_eq_true, beq_iff_eq, decide_eq_true_eq] at hk2
        obtain ⟨⟨⟨⟨k1, k2⟩, k3⟩, k4⟩, k5⟩ := hk2
        simp only [s_63g] at hs
        generalize hpp : pops (mi z).2.1 st [] = o at hs
        rcases o with _ | ⟨_ | ⟨a | a | _ | j, as⟩, rest⟩ <;> first | exact False.elim hs | skip
        dsimp only at hs
        generalize hw : w.2 j = en at hs
        rcases en with en | en | ⟨d, fs⟩ <;> first | exact False.elim hs | skip
        obtain ⟨hdz, hj, h1, h2, h3, h4, P, hS, hgo⟩ := hs
        obtain ⟨li, e1, e2, e3⟩ := pops_spec hpp
        rw [List.append_nil] at e1
        subst e1
        obtain ⟨hm, hcls, -, hk1, -⟩ := mk_all z k2
        obtain ⟨w1, w2, w3⟩ := hk1 k1
        refine r_virt hF hd e2 hw hj (by rw [hcls, hdz]) ?_ ?_ w1 w2 (par_1 (by rw [w3, ← e3]; rfl)) hm h2 k4 k5 h1 h3 h4 hS (fun r w' hP => hgo r w' hP p e R s m args below meth c A mt mst hF)
        · rcases Nat.lt_or_ge d 13 with h | h
          · exact Or.inr (co_all d h).1
          · exact Or.inl (by omega)
        · rw [hown]
          rcases hp.2 with h | ⟨h, -⟩
          · exact h
          · exact absurd k1 h
      · next _ _ _ _ heq =>
        rw [heq] at hp
        have hs := hb.1
        have hk2 : (decide (1 ≤ rfy y) && decide (22 ≤ rly y)) = true := hb.2
        rw [Bool.and_eq_true, decide_eq_true_eq, decide_eq_true_eq] at hk2
        rcases st with _ | ⟨a | a | _ | k, st⟩ <;> first | exact False.elim hs | skip
        simp only [s_68] at hs
        generalize hw : w.2 k = en at hs
        rcases en with ⟨_ | t, n, f⟩ | en | en <;> first | exact False.elim hs | skip
        obtain ⟨h1, h2, h3, h4, h5, hs⟩ := hs
        exact r_clone hF hd (by rw [hown]; exact hp) hk2.1 hk2.2 hw h1 h2 h3 h4 h5 (hs p e R s m args below meth c A mt mst hF)
      · exact False.elim hb.1
    · exact False.elim hb.1
  | invokestatic x =>
    rw [show ab (mi y).1 pc (.invokestatic x) len = (if len = 3 then (match pl (mi y).1 x with | (2, m, _, _) => (64, m, 3, 0, []) | (4, _, _, _) => (67, 0, 3, 0, []) | _ => ai0) else ai0) from rfl] at hb
    split at hb
    · next hl =>
      subst hl
      have hp := hpk x
      split at hb
      · next _ z _ _ heq =>
        rw [heq] at hp
        have hs := hb.1
        have hk2 : (kdz z == 0 && decide (z < 296) && decide (rfy z + 1 ≤ rfy y) && decide (8 + (mxl z + 11) + rly z ≤ rly y)) = true := hb.2
        simp only [Bool.and_eq_true, beq_iff_eq, decide_eq_true_eq] at hk2
        obtain ⟨⟨⟨k1, k2⟩, k4⟩, k5⟩ := hk2
        simp only [s_64g] at hs
        generalize hpp : pops (mi z).2.1 st [] = o at hs
        rcases o with _ | ⟨as, rest⟩
        · exact False.elim hs
        obtain ⟨h1, h2, h3, h4, P, hS, hgo⟩ := hs
        obtain ⟨li, e1, e2, e3⟩ := pops_spec hpp
        rw [List.append_nil] at e1
        subst e1
        obtain ⟨hm, hcls, hk0, -⟩ := mk_all z k2
        obtain ⟨w1, w3⟩ := hk0 k1
        refine r_stat hF hd e2 ?_ w1 (by rw [w3, ← e3]) hm h2 k4 k5 h1 h3 h4 hS (fun r w' hP => hgo r w' hP p e R s m args below meth c A mt mst hF)
        rw [hown]
        exact hp.2.imp id And.right
      · next _ _ _ _ heq =>
        rw [heq] at hp
        have hs := hb.1
        have hk2 : (decide (1 ≤ rfy y) && decide (26 ≤ rly y)) = true := hb.2
        rw [Bool.and_eq_true, decide_eq_true_eq, decide_eq_true_eq] at hk2
        rcases st with _ | ⟨n | n | n, _ | ⟨dp | dp | dp, _ | ⟨a | a | _ | d, _ | ⟨sp | sp | sp, _ | ⟨b | b | _ | sa, st⟩⟩⟩⟩⟩ <;> first | exact False.elim hs | skip
        simp only [s_67] at hs
        generalize hw : w.2 sa = en at hs
        generalize hv : w.2 d = em at hs
        rcases en with ⟨_ | t, n0, f⟩ | en | en <;> rcases em with ⟨_ | t2, n1, g⟩ | em | em <;> first | exact False.elim hs | skip
        obtain ⟨h1, h2, h3, h4, h5, h6, h7, h8, h9, h10, hs⟩ := hs
        exact r_copy hF hd (by rw [hown]; exact hp) wd_y1 wd_y2 wd_y3 hk2.1 hk2.2 hw hv h1 h2 h3 h4 h5 h6 h7 h8 h9 h10 (hs p e R s m args below meth c A mt mst hF)
      · exact False.elim hb.1
    · exact False.elim hb.1
  | invokespecial x =>
    rw [show ab (mi y).1 pc (.invokespecial x) len = (if len = 3 then (match pl (mi y).1 x with | (2, m, _, _) => (65, m, 3, 0, []) | (3, _, _, _) => (66, 0, 3, 0, []) | _ => ai0) else ai0) from rfl] at hb
    split at hb
    · next hl =>
      subst hl
      have hp := hpk x
      split at hb
      · next _ z _ _ heq =>
        rw [heq] at hp
        have hs := hb.1
        have hk2 : (kdz z == 2 && decide (z < 296) && decide (rfy z + 1 ≤ rfy y) && decide (8 + (mxl z + 11) + rly z ≤ rly y)) = true := hb.2
        simp only [Bool.and_eq_true, beq_iff_eq, decide_eq_true_eq] at hk2
        obtain ⟨⟨⟨k1, k2⟩, k4⟩, k5⟩ := hk2
        simp only [s_65g] at hs
        generalize hpp : pops (mi z).2.1 st [] = o at hs
        rcases o with _ | ⟨_ | ⟨a | a | _ | j, as⟩, rest⟩ <;> first | exact False.elim hs | skip
        obtain ⟨h1, h2, h3, h4, P, hS, hgo⟩ := hs
        obtain ⟨li, e1, e2, e3⟩ := pops_spec hpp
        rw [List.append_nil] at e1
        subst e1
        obtain ⟨hm, hcls, -, -, hk2⟩ := mk_all z k2
        obtain ⟨w1, w2, w3, w4⟩ := hk2 k1
        refine r_spec hF hd e2 ?_ w1 w2 w3 (par_1 (by rw [w4, ← e3]; rfl)) hm h2 k4 k5 h1 h3 h4 hS (fun r w' hP => hgo r w' hP p e R s m args below meth c A mt mst hF)
        rw [hown]
        exact hp.2.imp id And.right
      · next _ _ _ _ heq =>
        rw [heq] at hp
        have hs := hb.1
        have hk2 : (decide (1 ≤ rfy y) && decide (20 ≤ rly y)) = true := hb.2
        rw [Bool.and_eq_true, decide_eq_true_eq, decide_eq_true_eq] at hk2
        rcases st with _ | ⟨a | a | _ | j, st⟩ <;> first | exact False.elim hs | skip
        simp only [s_66] at hs
        exact r_obj hF hd (by rw [hown]; exact hp) wd_o1 wd_o2 hk2.1 hk2.2 hs.1 (hs.2 p e R s m args below meth c A mt mst hF)
      · exact False.elim hb.1
    · exact False.elim hb.1
  | checkcast x =>
    rw [show ab (mi y).1 pc (.checkcast x) len = (if len = 3 then (match pl (mi y).1 x with | (6, c, _, _) => if c = 100 then (69, 0, len, 0, []) else ai0 | _ => ai0) else ai0) from rfl] at hb
    split at hb
    · next hl =>
      subst hl
      have hp := hpk x
      split at hb
      · next _ cn _ _ heq =>
        rw [heq] at hp
        split at hb
        · next hc =>
          have hs := hb.1
          rcases st with _ | ⟨a | a | _ | k, st⟩ <;> first | exact False.elim hs | skip
          simp only [s_69] at hs
          generalize hw : w.2 k = en at hs
          rcases en with ⟨_ | t, n, f⟩ | en | en <;> first | exact False.elim hs | skip
          rcases hp with ⟨hp, -⟩ | ⟨-, hp⟩
          · omega
          · exact r_cast hF hd (by rw [hown]; exact hp) hw hs.1 hs.2.1 (hs.2.2 p e R s m args below meth c A mt mst hF)
        · exact False.elim hb.1
      · exact False.elim hb.1
    · exact False.elim hb.1
  | ireturn =>
    rw [show ab (mi y).1 pc (.ireturn) len = (if len = 1 then (70, 0, 1, 0, []) else ai0) from rfl] at hb
    split at hb
    · next hl =>
      subst hl
      have hs := hb.1
      rcases st with _ | ⟨v, _ | ⟨u, st⟩⟩ <;> first | exact False.elim hs | skip
      simp only [s_70] at hs
      have hrk := rk_at y hy
      generalize (mi y).2.2.2.1 = rk at hs hrk
      rcases v with z | z | z
      · rcases rk with _ | _ | _ | _ | rk
        · exact r_iret hF hd (rkb0 hrk) hs.2
        · exact r_zret hF hd (rkb1 hrk) (nar_z hs.1) hs.2
        · exact r_zret hF hd (rkb2 hrk) (nar_c hs.1) hs.2
        · exact r_zret hF hd (rkb3 hrk) (nar_b hs.1) hs.2
        · exact False.elim hs.1
      · rcases rk with _ | _ | _ | _ | rk <;> exact False.elim hs.1
      · rcases rk with _ | _ | _ | _ | rk <;> exact False.elim hs.1
    · exact False.elim hb.1
  | lreturn =>
    rw [show ab (mi y).1 pc (.lreturn) len = (if len = 1 then (71, 0, 1, 0, []) else ai0) from rfl] at hb
    split at hb
    · next hl =>
      subst hl
      have hs := hb.1
      rcases st with _ | ⟨v | z | v, _ | ⟨u, st⟩⟩ <;> first | exact False.elim hs | skip
      simp only [s_71] at hs
      have hrk := rk_at y hy
      rw [hs.1] at hrk
      exact r_lret hF hd (rkb4 hrk) hs.2
    · exact False.elim hb.1
  | areturn =>
    rw [show ab (mi y).1 pc (.areturn) len = (if len = 1 then (72, 0, 1, 0, []) else ai0) from rfl] at hb
    split at hb
    · next hl =>
      subst hl
      have hs := hb.1
      rcases st with _ | ⟨v | v | r, _ | ⟨u, st⟩⟩ <;> first | exact False.elim hs | skip
      simp only [s_72] at hs
      have hrk := rk_at y hy
      rw [hs.1] at hrk
      obtain ⟨rt, h1, h2⟩ := rkb5 hrk
      exact r_aret hF hd h1 h2 hs.2
    · exact False.elim hb.1
  | return_ =>
    rw [show ab (mi y).1 pc (.return_) len = (if len = 1 then (73, 0, 1, 0, []) else ai0) from rfl] at hb
    split at hb
    · next hl =>
      subst hl
      have hs := hb.1
      rcases st with _ | ⟨u, st⟩ <;> first | exact False.elim hs | skip
      simp only [s_73] at hs
      have hrk := rk_at y hy
      rw [hs.1] at hrk
      exact r_vret hF hd (rkb6 hrk) hs.2
    · exact False.elim hb.1
  | _ => exact False.elim hb.1
theorem snd_of {y pc : Nat} {L : AL} {st : List AV} {w : AW} {bc bs : Nat} {Q : AQ} (h : G y pc L st w bc bs Q) : Snd l F D cy cr ad0 y pc L st w bc bs Q := G_ind _ sound h
end SOUND
