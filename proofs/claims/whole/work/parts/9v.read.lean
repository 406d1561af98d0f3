-- THE CLASS'S READER: bounds stay; READ
section BND
variable {W : AW} {Q : AQ} {T : Nat → Int} {c : CR} {n p i j : Nat} {s v r : Int}
theorem pilC_o (h : j ≠ 9) : (pilC v c).1 j = c.1 j := by
  unfold pilC
  split
  · exact fu_ne _ _ h
  · rfl
theorem pilC_k : (pilC v c).2.1 = c.2.1 ∧ (pilC v c).2.2.2.2.1 = c.2.2.2.2.1 ∧ (pilC v c).2.2.2.2.2.1 = c.2.2.2.2.2.1 ∧ (pilC v c).2.2.2.2.2.2.1 = c.2.2.2.2.2.2.1 ∧ (pilC v c).2.2.2.2.2.2.2 = c.2.2.2.2.2.2.2 ∧ (pilC v c).2.2.1 = c.2.2.1 := by
  unfold pilC
  split <;> exact ⟨rfl, rfl, rfl, rfl, rfl, rfl⟩
theorem putC_o (h : j ≠ 7) : (putC v c).1 j = c.1 j := by
  unfold putC
  split
  · exact fu_ne _ _ h
  · rfl
theorem putC_k : (putC v c).2.1 = c.2.1 ∧ (putC v c).2.2.2.2.1 = c.2.2.2.2.1 ∧ (putC v c).2.2.2.2.2.1 = c.2.2.2.2.2.1 ∧ (putC v c).2.2.2.2.2.2.1 = c.2.2.2.2.2.2.1 ∧ (putC v c).2.2.2.2.2.2.2 = c.2.2.2.2.2.2.2 ∧ (putC v c).2.2.2.1 = c.2.2.2.1 := by
  unfold putC
  split <;> exact ⟨rfl, rfl, rfl, rfl, rfl, rfl⟩
theorem unC_o (h : j ≠ 7) (h2 : j ≠ 9) (h3 : j ≠ 10) : (unC r c).1 j = c.1 j := by
  show fu (fu (fu c.1 7 _) 9 _) 10 _ j = _
  rw [fu_ne _ _ h3, fu_ne _ _ h2, fu_ne _ _ h]
theorem nuV_b (hT : Ty T) (hp : p < n) : -1 ≤ nuV T n p ∧ nuV T n p ≤ 99999 := by
  have hb := rn_b (P := isDg) (T := T) (n := n) (p := p)
  have hall := fun j a b => rn_fa (T := T) (n := n) (P := isDg) (n - p) p (Nat.le_refl _) j a b
  have hD : ∀ j, j < rn isDg T n p - p → 48 ≤ T (p + j) ∧ T (p + j) ≤ 57 := fun j hj => by
    have := (hall (p + j) (by omega) (by omega)).2
    simp only [isDg, decide_eq_true_eq] at this
    exact this
  unfold nuV nmV
  split
  · omega
  · have hh := hor_b (T := T) (p := p) hD (min 5 (rn isDg T n p - p)) (by omega) (by omega)
    have : (10 : Int) ^ (min 5 (rn isDg T n p - p)) ≤ 10 ^ 5 := by
      rcases (show min 5 (rn isDg T n p - p) = 0 ∨ min 5 (rn isDg T n p - p) = 1 ∨ min 5 (rn isDg T n p - p) = 2 ∨ min 5 (rn isDg T n p - p) = 3 ∨ min 5 (rn isDg T n p - p) = 4 ∨ min 5 (rn isDg T n p - p) = 5 by omega) with z | z | z | z | z | z <;> rw [z] <;> decide
    omega
theorem wdV_b : -1 ≤ wdV T n p ∧ wdV T n p < 30 := by
  have := (fdW_b (T := T) (n := n) (p := p) (w := id) 30 0).2.1
  unfold wdV
  split <;> omega
theorem adv_I (hT : Ty T) (h : XI n c) : XI n (adv T n c) ∧ TK n (adv T n c) ∧ (adv T n c).2.1 0 = ((rn isB T n (c.2.1 5).toNat : Nat) : Int) := by
  obtain ⟨a1, a2, a3, a4, a5, a6, a7, a8⟩ := h
  have hb := rn_b (P := isB) (T := T) (n := n) (p := (c.2.1 5).toNat)
  have hE := hb.2 (by omega)
  generalize hp : rn isB T n (c.2.1 5).toNat = p at *
  have k0 : (adv T n c).2.1 0 = (p : Int) := by
    have e : (adv T n c).2.1 0 = ((rn isB T n (c.2.1 5).toNat : Nat) : Int) := rfl
    rw [e, hp]
  have k1 : (adv T n c).2.1 1 = tzS T n p := by
    have e : (adv T n c).2.1 1 = tzS T n (rn isB T n (c.2.1 5).toNat) := rfl
    rw [e, hp]
  have k2 : (adv T n c).2.1 2 = tzV T n p := by
    have e : (adv T n c).2.1 2 = tzV T n (rn isB T n (c.2.1 5).toNat) := rfl
    rw [e, hp]
  have k4 : (adv T n c).2.1 4 = c.2.1 4 := rfl
  have k5 : (adv T n c).2.1 5 = ((tzN T n p : Nat) : Int) := by
    have e : (adv T n c).2.1 5 = ((tzN T n (rn isB T n (c.2.1 5).toNat) : Nat) : Int) := rfl
    rw [e, hp]
  have bN : tzN T n p ≤ n := by
    unfold tzN
    split
    · next c0 =>
      split
      · exact (rn_b (P := isDg) (T := T) (n := n) (p := p)).2 (by omega)
      · split
        · exact (rn_b (P := isLt) (T := T) (n := n) (p := p)).2 (by omega)
        · split
          · next q => have := q.2.1; omega
          · omega
    · omega
  refine ⟨⟨⟨?_, ?_⟩, a2, a3, a4, a5, a6, a7, a8⟩, ⟨?_, ?_, ?_⟩, k0⟩
  · rw [k4]; exact a1.1
  · rw [k5]; omega
  · rw [k0]; omega
  · rw [k1, k2]
    unfold tzS tzV
    intro z
    by_cases c0 : p < n
    · rw [if_pos c0] at z ⊢
      by_cases c1 : isDg (T p) = true
      · rw [if_pos c1]
        exact nuV_b hT c0
      · rw [if_neg c1] at z
        split at z <;> omega
    · rw [if_neg c0] at z
      omega
  · rw [k1, k2]
    unfold tzS tzV
    intro z
    by_cases c0 : p < n
    · rw [if_pos c0] at z ⊢
      by_cases c1 : isDg (T p) = true
      · rw [if_pos c1] at z
        omega
      · rw [if_neg c1] at z ⊢
        by_cases c2 : isLt (T p) = true
        · rw [if_pos c2]
          exact wdV_b
        · rw [if_neg c2] at z
          omega
    · rw [if_neg c0] at z
      omega
/-- what a piece leaves: the cutter; a fault is one -/
def FK (c : CR) (b : BR) : Prop := b.2.2.1 = c.2.1 ∧ (b.1 = false → 0 ≤ b.2.1 0 ∧ b.2.1 0 ≤ 4)
theorem FK.f (hs : 0 ≤ s ∧ s ≤ 4) {d : CR} (hd : d.2.1 = c.2.1) : FK c (false, wR d 0 s) := ⟨hd, fun _ => by show 0 ≤ fu d.1 0 s 0 ∧ fu d.1 0 s 0 ≤ 4; rw [fu_eq]; exact hs⟩
theorem FK.t {d : CR} (hd : d.2.1 = c.2.1) : FK c (true, d) := ⟨hd, fun z => by cases z⟩
theorem clE_f {b : Bool} : FK c (clE b c) := by
  unfold clE
  split
  · exact FK.f (by decide) rfl
  · cases b <;> exact FK.t rfl
theorem tkB_f : FK c (tkB c) := by
  unfold tkB
  split
  · exact FK.t pilC_k.1
  · split
    · split
      · exact FK.f (by decide) rfl
      · exact FK.t rfl
    · exact clE_f
theorem tkC_f : FK c (tkC s c) := by
  unfold tkC
  split
  · exact FK.f (by decide) rfl
  · split
    · exact FK.f (by decide) rfl
    · exact FK.t pilC_k.1
theorem tkE_f : FK c (tkE c) := by
  unfold tkE
  split
  · exact FK.t pilC_k.1
  · split
    · exact tkB_f
    · split
      · exact tkC_f
      · split
        · exact FK.t rfl
        · exact clE_f
theorem tkL_f : FK c (tkL c) := by
  unfold tkL
  split
  · exact FK.f (by split <;> decide) rfl
  · split
    · exact FK.f (by decide) rfl
    · exact FK.t putC_k.1
theorem tkK_f : FK c (tkK c) := by
  unfold tkK
  by_cases hA : (if c.1 2 = 0 then (0 : Int) else 8) ≤ kiH c ∧ kiH c ≤ (if c.1 2 = 0 then 7 else 9)
  · rw [if_pos hA]
    by_cases hB : (kiH c < 6 ∧ ¬ c.2.2.2.2.2.2.2 (kiH c).toNat = -1) ∨ 12 ≤ c.1 14
    · rw [if_pos hB]
      exact FK.f (by decide) rfl
    · rw [if_neg hB]
      exact FK.t rfl
  · rw [if_neg hA]
    exact FK.f (by decide) rfl
theorem tkP_f : FK c (tkPc c) := by
  unfold tkPc
  split
  · exact tkK_f
  · split
    · unfold tkG
      split
      · split
        · exact FK.t rfl
        · exact FK.f (by decide) rfl
      · exact FK.f (by decide) rfl
    · split
      · unfold tkT
        split
        · split
          · exact FK.f (by decide) rfl
          · exact FK.t pilC_k.1
        · exact tkL_f (c := wR c 4 1)
      · split
        · exact tkL_f
        · split
          · exact tkE_f
          · exact tkB_f
/-- bounds behind a piece -/
def XJ (n : Nat) (b : BR) : Prop := b.1 = true → XI n b.2 ∧ XZs b.2
theorem XJ.f {d : CR} : XJ n (false, d) := fun z => by cases z
theorem XZs.of {d : CR} (h : 2 ≤ d.1 3 ∧ d.1 3 ≤ 6) (hc : d.1 14 < 12) : XZs d := ⟨by omega, fun z => by omega, fun _ _ => hc⟩
theorem XZs.zs {d : CR} (h : d.1 3 = 0 ∨ d.1 3 = 6) : XZs d := ⟨by omega, fun z => by omega, fun z1 z2 => by omega⟩
theorem clE_I {b : Bool} (h : XI n c) (hc : c.1 14 < 12) : XJ n (clE b c) := by
  obtain ⟨u, -⟩ := h.un (r := 1)
  have cl : 0 ≤ c.1 14 := h.2.2.2.2.2.2.1.1
  unfold clE
  split
  · exact XJ.f
  · intro _
    obtain ⟨a1, a2, a3, a4, a5, a6, a7, a8⟩ := u
    have e3 : ∀ (x : CR) (v : Int), (wR (wR x 14 (c.1 14 + 1)) 3 v).1 3 = v := fun x v => rfl
    have s6 : ∀ x : CR, (wR (wR x 14 (c.1 14 + 1)) 3 (if c.2.1 1 = 0 then 6 else 0)).1 3 = 0 ∨ (wR (wR x 14 (c.1 14 + 1)) 3 (if c.2.1 1 = 0 then 6 else 0)).1 3 = 6 := fun x => by
      rw [e3]
      split
      · exact Or.inr rfl
      · exact Or.inl rfl
    cases b
    · refine ⟨⟨a1, a2, a3, a4, a5, a6, ?_, a8⟩, ?_⟩
      · show 0 ≤ c.1 14 + 1 ∧ c.1 14 + 1 ≤ 12
        omega
      · exact XZs.zs (s6 (wE (unC 1 c) (c.1 14).toNat ((unC 1 c).1 7)))
    · refine ⟨⟨a1, a2, a3, a4, a5, a6, ?_, a8⟩, ?_⟩
      · show 0 ≤ c.1 14 + 1 ∧ c.1 14 + 1 ≤ 12
        omega
      · exact XZs.zs (s6 (wE (wM (unC 1 c) (c.1 14).toNat ((unC 1 c).1 7)) (c.1 14).toNat ((unC 1 c).1 7)))
theorem tkB_I (h : XI n c) (hc : c.1 14 < 12) : XJ n (tkB c) := by
  unfold tkB
  split
  · intro _
    have u := (h.r3 (v := 2)).un (r := rkI (@ite Int (isW 11 c) (Classical.propDecidable _) 11 12))
    refine ⟨u.1.pil ?_ ?_, XZs.of ?_ ?_⟩
    · split <;> decide
    · intro z
      split at z <;> omega
    · rw [pilC_o (by decide), unC_o (by decide) (by decide) (by decide)]
      show 2 ≤ (2 : Int) ∧ (2 : Int) ≤ 6
      decide
    · rw [pilC_o (by decide), unC_o (by decide) (by decide) (by decide)]
      exact hc
  · split
    · split
      · exact XJ.f
      · next c9 =>
        intro _
        obtain ⟨u, -⟩ := h.un (r := 1)
        obtain ⟨a1, a2, a3, a4, a5, a6, a7, a8⟩ := u
        have st := unA_s (r := 1) (pl := c.2.2.2.1) (c.1 9).toNat (qOf c)
        have e9 : (unC 1 c).1 9 = (((unA 1 c.2.2.2.1 (c.1 9).toNat (qOf c)).1 : Nat) : Int) := rfl
        have eP : (unC 1 c).2.2.2.1 = c.2.2.2.1 := rfl
        rw [eP] at a4 a5
        have e14 : (unC 1 c).1 14 = c.1 14 := rfl
        generalize unA 1 c.2.2.2.1 (c.1 9).toNat (qOf c) = z at *
        generalize hd : unC 1 c = d at *
        obtain ⟨m, hm⟩ : ∃ m : Nat, z.1 = m + 1 := ⟨z.1 - 1, by omega⟩
        have s2 := st.resolve_left (by omega)
        rw [hm, Nat.add_sub_cancel] at s2
        have t14 := rkI_14 (a4 m (by omega)) s2.2
        have d9 : d.1 9 = (m : Int) + 1 := by omega
        have dd : dpC c.2.2.2.1 (m + 1) = dpC c.2.2.2.1 m + 1 := by
          show dpC c.2.2.2.1 m + (if c.2.2.2.1 m = 13 ∨ c.2.2.2.1 m = 14 then 1 else 0) = _
          rw [if_pos (Or.inr t14)]
        refine ⟨⟨a1, a2, ?_, ?_, ?_, a6, a7, a8⟩, XZs.of ?_ ?_⟩
        · show 0 ≤ d.1 9 - 1 ∧ d.1 9 - 1 ≤ 64
          omega
        · intro i hi
          have hi2 : (i : Int) < d.1 9 - 1 := hi
          have hp := a4 i (by omega)
          show 2 ≤ d.2.2.2.1 i ∧ d.2.2.2.1 i ≤ 14
          rw [eP]
          exact hp
        · show dpC d.2.2.2.1 (d.1 9 - 1).toNat ≤ d.1 10 - 1 ∧ d.1 10 - 1 ≤ 10
          rw [eP, d9, show ((m : Int) + 1 - 1).toNat = m by omega]
          rw [d9, show ((m : Int) + 1).toNat = m + 1 by omega, dd] at a5
          omega
        · show 2 ≤ (5 : Int) ∧ (5 : Int) ≤ 6
          decide
        · show d.1 14 < 12
          omega
    · exact clE_I h hc
theorem tkC_I (h : XI n c) (hc : c.1 14 < 12) (hs : s = -1 ∨ (2 ≤ s ∧ s ≤ 10)) : XJ n (tkC s c) := by
  unfold tkC
  split
  · exact XJ.f
  · split
    · exact XJ.f
    · intro _
      have u := ((h.r5 (by omega)).r4 (v := 2)).r3 (v := 3)
      have u2 := u.un (r := rkI s)
      refine ⟨u2.1.pil (by omega) (fun z => by omega), XZs.of ?_ ?_⟩
      · rw [pilC_o (by decide), unC_o (by decide) (by decide) (by decide)]
        show 2 ≤ (3 : Int) ∧ (3 : Int) ≤ 6
        decide
      · rw [pilC_o (by decide), unC_o (by decide) (by decide) (by decide)]
        exact hc
theorem tkE_I (h : XI n c) (hc : c.1 14 < 12) : XJ n (tkE c) := by
  have sb := sgH_b (k := c.2.1)
  unfold tkE
  split
  · next cs =>
    intro _
    have u2 := (h.r3 (v := 3)).un (r := rkI (sgH c.2.1))
    refine ⟨u2.1.pil (by omega) (fun z => by omega), XZs.of ?_ ?_⟩
    · rw [pilC_o (by decide), unC_o (by decide) (by decide) (by decide)]
      show 2 ≤ (3 : Int) ∧ (3 : Int) ≤ 6
      decide
    · rw [pilC_o (by decide), unC_o (by decide) (by decide) (by decide)]
      exact hc
  · split
    · exact tkB_I h hc
    · split
      · exact tkC_I h hc sb
      · split
        · intro _
          obtain ⟨u, -⟩ := h.un (r := 1)
          refine ⟨u, XZs.of ?_ ?_⟩
          · show 2 ≤ (2 : Int) ∧ (2 : Int) ≤ 6
            decide
          · exact hc
        · exact clE_I h hc
theorem tkL_I (h : XI n c) (hc : c.1 14 < 12) : XJ n (tkL c) := by
  unfold tkL
  split
  · exact XJ.f
  · split
    · exact XJ.f
    · intro _
      have u := (h.r5 (by omega)).put (v := 16 * opH c + (if c.2.1 1 = 1 then 0 else 1))
      refine ⟨u, XZs.of ?_ ?_⟩
      · show 2 ≤ (4 : Int) ∧ (4 : Int) ≤ 6
        decide
      · show (putC _ _).1 14 < 12
        rw [putC_o (by decide)]
        exact hc
theorem tkK_I (h : XI n c) : XJ n (tkK c) := by
  unfold tkK
  by_cases hA : (if c.1 2 = 0 then (0 : Int) else 8) ≤ kiH c ∧ kiH c ≤ (if c.1 2 = 0 then 7 else 9)
  · rw [if_pos hA]
    by_cases hB : (kiH c < 6 ∧ ¬ c.2.2.2.2.2.2.2 (kiH c).toNat = -1) ∨ 12 ≤ c.1 14
    · rw [if_pos hB]
      exact XJ.f
    · rw [if_neg hB]
      intro _
      obtain ⟨a1, a2, a3, a4, a5, a6, a7, a8⟩ := h
      have c12 : c.1 14 < 12 := by
        have : ¬ 12 ≤ c.1 14 := fun z => hB (Or.inr z)
        omega
      have e3 : ∀ v : Int, (wR (wR (wM (wIk c (c.1 14).toNat (kiH c)) (c.1 14).toNat (c.1 7)) 4 0) 3 v).1 3 = v := fun v => rfl
      refine ⟨⟨a1, a2, a3, a4, a5, a6, a7, a8⟩, ?_, ?_, fun _ _ => c12⟩
      · dsimp only
        rw [e3]
        split
        · decide
        · split <;> decide
      · intro z
        dsimp only at z
        rw [e3] at z
        show 0 ≤ fu c.2.2.2.2.1 (c.1 14).toNat (kiH c) (c.1 14).toNat ∧ fu c.2.2.2.2.1 (c.1 14).toNat (kiH c) (c.1 14).toNat < 6
        rw [fu_eq]
        by_cases k6 : kiH c < 6
        · refine ⟨?_, k6⟩
          have := hA.1
          split at this <;> omega
        · rw [if_neg k6] at z
          split at z <;> omega
  · rw [if_neg hA]
    exact XJ.f
theorem tkP_I (h : XI n c) (hz : XZs c) (h6 : ¬ c.1 3 = 6) : XJ n (tkPc c) := by
  unfold tkPc
  split
  · exact tkK_I h
  · next c0 =>
    have hc := hz.2.2 c0 h6
    split
    · unfold tkG
      split
      · split
        · intro _
          obtain ⟨a1, a2, a3, a4, a5, a6, a7, a8⟩ := h
          refine ⟨⟨a1, a2, a3, a4, a5, a6, a7, a8⟩, XZs.of ?_ hc⟩
          show 2 ≤ (5 : Int) ∧ (5 : Int) ≤ 6
          decide
        · exact XJ.f
      · exact XJ.f
    · split
      · next c2 =>
        unfold tkT
        split
        · split
          · exact XJ.f
          · intro _
            have u := h.r10 (by omega)
            refine ⟨u.pil (by split <;> decide) (fun _ => ?_), XZs.of ?_ ?_⟩
            · have := h.2.2.2.2.1
              show dpC c.2.2.2.1 (c.1 9).toNat + 1 ≤ c.1 10 + 1
              omega
            · rw [pilC_o (by decide)]
              show 2 ≤ c.1 3 ∧ c.1 3 ≤ 6
              omega
            · rw [pilC_o (by decide)]
              exact hc
        · exact tkL_I (h.r4 (v := 1)) hc
      · split
        · exact tkL_I h hc
        · split
          · exact tkE_I h hc
          · exact tkB_I h hc
end BND
noncomputable def rdC (T : Nat → Int) (n : Nat) : Nat → CR → BR
  | 0, c => (true, c)
  | f + 1, c => if c.1 3 = 6 then (true, c) else if (tkPc (adv T n c)).1 = true then rdC T n f (tkPc (adv T n c)).2 else (false, (tkPc (adv T n c)).2)
def iniC (w : Int) (n : Nat) (c : CR) : CR := (fu (fu (fu (fu (fu (fu (fu (fu c.1 2 w) 0 0) 3 0) 5 0) 7 0) 9 0) 10 0) 14 0, fu (fu c.2.1 4 (n : Int)) 5 0, c.2.2.1, c.2.2.2.1, c.2.2.2.2.1, c.2.2.2.2.2.1, c.2.2.2.2.2.2.1, flf c.2.2.2.2.2.2.2 6 (-1))
section RED
variable {W : AW} {Q : AQ} {T : Nat → Int} {c : CR} {n p i j : Nat} {s v r w : Int}
theorem x_rloop {o1 : Option AV} (hx : CX W T n) (hT : ∀ c' o3, XI n c' → rdC T n 401 c = (true, c') → G 62 117 [some (vr 119), o1, some (vi w), o3] [] (RX W c') 10 1635 Q) (hF : ∀ c', rdC T n 401 c = (false, c') → Q (some vn) (RX W (wR c' 0 (c'.1 0 + (1 + 8 * c'.2.1 0))))) : ∀ (f k : Nat) (d : CR), k + f = 401 → XI n d → XZs d → rdC T n 401 c = rdC T n f d → G 62 58 [some (vr 119), o1, some (vi w), some (vi (k : Int))] [] (RX W d) 10 1635 Q := by
  have hw : 192 ≤ W.1 := hx.1.1
  have hn := hx.2.2.2
  intro f
  induction f with
  | zero =>
    intro k d hk hI hz he
    have c1 : ¬ (k : Int) ≤ 400 := by omega
    have t := hT d (some (vi (k : Int))) hI he
    rw [i62_58]
    simp (disch := omega) only [s_1, s_2, s_3, s_4, s_76, s_5, s_6, s_7, s_8, s_9, s_10, s_11, s_12, s_13, s_14, s_15, s_16, s_17, s_18, s_19, s_20, s_21, s_22, s_23, s_24, s_25, s_26, s_27, s_28, s_29, s_30, s_31, s_32, s_33, s_34, s_35, s_36, s_37, s_38, s_39, s_40l, s_40i, s_40r, s_41, s_43, t_44, t_45, t_46, t_47, s_48, s_49, s_50, s_51, s_52, s_53, s_54, s_55, s_56, s_57, s_58, s_59, s_60, s_61, s_62_0, s_62_1, s_62_2, s_66, s_67, s_68, s_69, s_70, s_71, s_72, s_73, sws_n, sws_c, lget, lset, fget, fset, nolg, nolong, avc, stw, cnd, isobj_eo, GCi, GCn, retk, List.length_cons, List.length_nil, ↓reduceIte, and_true, true_and, not_true_eq_false, not_false_eq_true, forall_const, Nat.reduceAdd, Nat.reduceLT, Nat.reduceLeDiff, Nat.lt_add_one, Nat.le_refl, Nat.zero_le, Nat.sub_zero, Int.reduceEq, Int.reduceNe, Int.reduceLT, Int.reduceLE, Int.reduceAdd, Int.reduceSub, Int.reduceMul, Int.reduceNeg, Int.reduceTDiv, Int.reduceTMod, ne_eq, reduceCtorEq, Nat.reduceEqDiff, Int.cast_ofNat_Int, true_or, or_true, false_or, or_false, lcq_0, lcq_2, lcq_3, lcq_4, lcq_5, wu_s, wu_1, wu_w, wu_lt, wu_ne, ar_s, ar_n, rr_s, rr_n, ob_n, nz_c, lt_T, lt_F, le_T, le_F, ie_T, ie_F, nt_T, nt_F, nl_T, nl_F, in_T, and_false, false_and, and_self, not_true_eq_false, Int.toNat_natCast, Int.reduceToNat, if_true, if_false, mi_62, i62_0, i62_1, i62_2, i62_5, i62_6, i62_7, i62_10, i62_11, i62_12, i62_15, i62_16, i62_17, i62_20, i62_21, i62_22, i62_25, i62_26, i62_27, i62_30, i62_31, i62_32, i62_35, i62_36, i62_37, i62_40, i62_41, i62_44, i62_45, i62_48, i62_49, i62_52, i62_53, i62_56, i62_57, i62_58, i62_59, i62_62, i62_65, i62_66, i62_69, i62_71, i62_74, i62_75, i62_78, i62_81, i62_82, i62_85, i62_88, i62_89, i62_90, i62_93, i62_94, i62_96, i62_97, i62_100, i62_103, i62_104, i62_105, i62_106, i62_109, i62_110, i62_111, i62_114, i62_118, i62_121, k2, k63, k64, k83, k100, g8_0, g9_0, g9_1, g9_15, g9_3, p9_0, p9_10, p9_14, p9_2, p9_3, p9_5, p9_7, p9_9, c1]
    exact t
  | succ f ih =>
    intro k d hk hI hz he
    have c1 : (k : Int) ≤ 400 := by omega
    unfold rdC at he
    rw [i62_58]
    by_cases c6 : d.1 3 = 6
    · rw [if_pos c6] at he
      have t := hT d (some (vi (k : Int))) hI he
      simp (disch := omega) only [s_1, s_2, s_3, s_4, s_76, s_5, s_6, s_7, s_8, s_9, s_10, s_11, s_12, s_13, s_14, s_15, s_16, s_17, s_18, s_19, s_20, s_21, s_22, s_23, s_24, s_25, s_26, s_27, s_28, s_29, s_30, s_31, s_32, s_33, s_34, s_35, s_36, s_37, s_38, s_39, s_40l, s_40i, s_40r, s_41, s_43, t_44, t_45, t_46, t_47, s_48, s_49, s_50, s_51, s_52, s_53, s_54, s_55, s_56, s_57, s_58, s_59, s_60, s_61, s_62_0, s_62_1, s_62_2, s_66, s_67, s_68, s_69, s_70, s_71, s_72, s_73, sws_n, sws_c, lget, lset, fget, fset, nolg, nolong, avc, stw, cnd, isobj_eo, GCi, GCn, retk, List.length_cons, List.length_nil, ↓reduceIte, and_true, true_and, not_true_eq_false, not_false_eq_true, forall_const, Nat.reduceAdd, Nat.reduceLT, Nat.reduceLeDiff, Nat.lt_add_one, Nat.le_refl, Nat.zero_le, Nat.sub_zero, Int.reduceEq, Int.reduceNe, Int.reduceLT, Int.reduceLE, Int.reduceAdd, Int.reduceSub, Int.reduceMul, Int.reduceNeg, Int.reduceTDiv, Int.reduceTMod, ne_eq, reduceCtorEq, Nat.reduceEqDiff, Int.cast_ofNat_Int, true_or, or_true, false_or, or_false, lcq_0, lcq_2, lcq_3, lcq_4, lcq_5, wu_s, wu_1, wu_w, wu_lt, wu_ne, ar_s, ar_n, rr_s, rr_n, ob_n, nz_c, lt_T, lt_F, le_T, le_F, ie_T, ie_F, nt_T, nt_F, nl_T, nl_F, in_T, and_false, false_and, and_self, not_true_eq_false, Int.toNat_natCast, Int.reduceToNat, if_true, if_false, mi_62, i62_0, i62_1, i62_2, i62_5, i62_6, i62_7, i62_10, i62_11, i62_12, i62_15, i62_16, i62_17, i62_20, i62_21, i62_22, i62_25, i62_26, i62_27, i62_30, i62_31, i62_32, i62_35, i62_36, i62_37, i62_40, i62_41, i62_44, i62_45, i62_48, i62_49, i62_52, i62_53, i62_56, i62_57, i62_58, i62_59, i62_62, i62_65, i62_66, i62_69, i62_71, i62_74, i62_75, i62_78, i62_81, i62_82, i62_85, i62_88, i62_89, i62_90, i62_93, i62_94, i62_96, i62_97, i62_100, i62_103, i62_104, i62_105, i62_106, i62_109, i62_110, i62_111, i62_114, i62_118, i62_121, k2, k63, k64, k83, k100, g8_0, g9_0, g9_1, g9_15, g9_3, p9_0, p9_10, p9_14, p9_2, p9_3, p9_5, p9_7, p9_9, c1, c6]
      exact t
    · rw [if_neg c6] at he
      obtain ⟨aI, aT, a0⟩ := adv_I hx.2.2.1 hI
      have aZ : XZs (adv T n d) := hz
      have a6 : ¬ (adv T n d).1 3 = 6 := c6
      have pf := tkP_f (c := adv T n d)
      have pI := tkP_I aI aZ a6
      simp (disch := omega) only [s_1, s_2, s_3, s_4, s_76, s_5, s_6, s_7, s_8, s_9, s_10, s_11, s_12, s_13, s_14, s_15, s_16, s_17, s_18, s_19, s_20, s_21, s_22, s_23, s_24, s_25, s_26, s_27, s_28, s_29, s_30, s_31, s_32, s_33, s_34, s_35, s_36, s_37, s_38, s_39, s_40l, s_40i, s_40r, s_41, s_43, t_44, t_45, t_46, t_47, s_48, s_49, s_50, s_51, s_52, s_53, s_54, s_55, s_56, s_57, s_58, s_59, s_60, s_61, s_62_0, s_62_1, s_62_2, s_66, s_67, s_68, s_69, s_70, s_71, s_72, s_73, sws_n, sws_c, lget, lset, fget, fset, nolg, nolong, avc, stw, cnd, isobj_eo, GCi, GCn, retk, List.length_cons, List.length_nil, ↓reduceIte, and_true, true_and, not_true_eq_false, not_false_eq_true, forall_const, Nat.reduceAdd, Nat.reduceLT, Nat.reduceLeDiff, Nat.lt_add_one, Nat.le_refl, Nat.zero_le, Nat.sub_zero, Int.reduceEq, Int.reduceNe, Int.reduceLT, Int.reduceLE, Int.reduceAdd, Int.reduceSub, Int.reduceMul, Int.reduceNeg, Int.reduceTDiv, Int.reduceTMod, ne_eq, reduceCtorEq, Nat.reduceEqDiff, Int.cast_ofNat_Int, true_or, or_true, false_or, or_false, lcq_0, lcq_2, lcq_3, lcq_4, lcq_5, wu_s, wu_1, wu_w, wu_lt, wu_ne, ar_s, ar_n, rr_s, rr_n, ob_n, nz_c, lt_T, lt_F, le_T, le_F, ie_T, ie_F, nt_T, nt_F, nl_T, nl_F, in_T, and_false, false_and, and_self, not_true_eq_false, Int.toNat_natCast, Int.reduceToNat, if_true, if_false, mi_62, i62_0, i62_1, i62_2, i62_5, i62_6, i62_7, i62_10, i62_11, i62_12, i62_15, i62_16, i62_17, i62_20, i62_21, i62_22, i62_25, i62_26, i62_27, i62_30, i62_31, i62_32, i62_35, i62_36, i62_37, i62_40, i62_41, i62_44, i62_45, i62_48, i62_49, i62_52, i62_53, i62_56, i62_57, i62_59, i62_62, i62_65, i62_66, i62_69, i62_71, i62_74, i62_75, i62_78, i62_81, i62_82, i62_85, i62_88, i62_89, i62_90, i62_93, i62_94, i62_96, i62_97, i62_100, i62_103, i62_104, i62_105, i62_106, i62_109, i62_110, i62_111, i62_114, i62_118, i62_121, k2, k63, k64, k83, k100, g8_0, g9_0, g9_1, g9_15, g9_3, p9_0, p9_10, p9_14, p9_2, p9_3, p9_5, p9_7, p9_9, c1, c6]
      refine x_advance hx hI.1.1 hI.1.2 ?_
      simp (disch := omega) only [s_1, s_2, s_3, s_4, s_76, s_5, s_6, s_7, s_8, s_9, s_10, s_11, s_12, s_13, s_14, s_15, s_16, s_17, s_18, s_19, s_20, s_21, s_22, s_23, s_24, s_25, s_26, s_27, s_28, s_29, s_30, s_31, s_32, s_33, s_34, s_35, s_36, s_37, s_38, s_39, s_40l, s_40i, s_40r, s_41, s_43, t_44, t_45, t_46, t_47, s_48, s_49, s_50, s_51, s_52, s_53, s_54, s_55, s_56, s_57, s_58, s_59, s_60, s_61, s_62_0, s_62_1, s_62_2, s_66, s_67, s_68, s_69, s_70, s_71, s_72, s_73, sws_n, sws_c, lget, lset, fget, fset, nolg, nolong, avc, stw, cnd, isobj_eo, GCi, GCn, retk, List.length_cons, List.length_nil, ↓reduceIte, and_true, true_and, not_true_eq_false, not_false_eq_true, forall_const, Nat.reduceAdd, Nat.reduceLT, Nat.reduceLeDiff, Nat.lt_add_one, Nat.le_refl, Nat.zero_le, Nat.sub_zero, Int.reduceEq, Int.reduceNe, Int.reduceLT, Int.reduceLE, Int.reduceAdd, Int.reduceSub, Int.reduceMul, Int.reduceNeg, Int.reduceTDiv, Int.reduceTMod, ne_eq, reduceCtorEq, Nat.reduceEqDiff, Int.cast_ofNat_Int, true_or, or_true, false_or, or_false, lcq_0, lcq_2, lcq_3, lcq_4, lcq_5, wu_s, wu_1, wu_w, wu_lt, wu_ne, ar_s, ar_n, rr_s, rr_n, ob_n, nz_c, lt_T, lt_F, le_T, le_F, ie_T, ie_F, nt_T, nt_F, nl_T, nl_F, in_T, and_false, false_and, and_self, not_true_eq_false, Int.toNat_natCast, Int.reduceToNat, if_true, if_false, mi_62, i62_0, i62_1, i62_2, i62_5, i62_6, i62_7, i62_10, i62_11, i62_12, i62_15, i62_16, i62_17, i62_20, i62_21, i62_22, i62_25, i62_26, i62_27, i62_30, i62_31, i62_32, i62_35, i62_36, i62_37, i62_40, i62_41, i62_44, i62_45, i62_48, i62_49, i62_52, i62_53, i62_56, i62_57, i62_59, i62_62, i62_65, i62_66, i62_69, i62_71, i62_74, i62_75, i62_78, i62_81, i62_82, i62_85, i62_88, i62_89, i62_90, i62_93, i62_94, i62_96, i62_97, i62_100, i62_103, i62_104, i62_105, i62_106, i62_109, i62_110, i62_111, i62_114, i62_118, i62_121, k2, k63, k64, k83, k100, g8_0, g9_0, g9_1, g9_15, g9_3, p9_0, p9_10, p9_14, p9_2, p9_3, p9_5, p9_7, p9_9]
      refine x_tkP hx.1 aI aT aZ a6 ?_
      have b0 := aT.1
      generalize hP : tkPc (adv T n d) = P at *
      by_cases cP : P.1 = true
      · rw [if_pos cP] at he
        obtain ⟨q1, q2⟩ := pI cP
        have e := ih (k + 1) P.2 (by omega) q1 q2 he
        rw [nc1] at e
        rw [cP]
        simp (disch := omega) only [s_1, s_2, s_3, s_4, s_76, s_5, s_6, s_7, s_8, s_9, s_10, s_11, s_12, s_13, s_14, s_15, s_16, s_17, s_18, s_19, s_20, s_21, s_22, s_23, s_24, s_25, s_26, s_27, s_28, s_29, s_30, s_31, s_32, s_33, s_34, s_35, s_36, s_37, s_38, s_39, s_40l, s_40i, s_40r, s_41, s_43, t_44, t_45, t_46, t_47, s_48, s_49, s_50, s_51, s_52, s_53, s_54, s_55, s_56, s_57, s_58, s_59, s_60, s_61, s_62_0, s_62_1, s_62_2, s_66, s_67, s_68, s_69, s_70, s_71, s_72, s_73, sws_n, sws_c, lget, lset, fget, fset, nolg, nolong, avc, stw, cnd, isobj_eo, GCi, GCn, retk, List.length_cons, List.length_nil, ↓reduceIte, and_true, true_and, not_true_eq_false, not_false_eq_true, forall_const, Nat.reduceAdd, Nat.reduceLT, Nat.reduceLeDiff, Nat.lt_add_one, Nat.le_refl, Nat.zero_le, Nat.sub_zero, Int.reduceEq, Int.reduceNe, Int.reduceLT, Int.reduceLE, Int.reduceAdd, Int.reduceSub, Int.reduceMul, Int.reduceNeg, Int.reduceTDiv, Int.reduceTMod, ne_eq, reduceCtorEq, Nat.reduceEqDiff, Int.cast_ofNat_Int, true_or, or_true, false_or, or_false, lcq_0, lcq_2, lcq_3, lcq_4, lcq_5, wu_s, wu_1, wu_w, wu_lt, wu_ne, ar_s, ar_n, rr_s, rr_n, ob_n, nz_c, lt_T, lt_F, le_T, le_F, ie_T, ie_F, nt_T, nt_F, nl_T, nl_F, in_T, and_false, false_and, and_self, not_true_eq_false, Int.toNat_natCast, Int.reduceToNat, if_true, if_false, mi_62, i62_0, i62_1, i62_2, i62_5, i62_6, i62_7, i62_10, i62_11, i62_12, i62_15, i62_16, i62_17, i62_20, i62_21, i62_22, i62_25, i62_26, i62_27, i62_30, i62_31, i62_32, i62_35, i62_36, i62_37, i62_40, i62_41, i62_44, i62_45, i62_48, i62_49, i62_52, i62_53, i62_56, i62_57, i62_59, i62_62, i62_65, i62_66, i62_69, i62_71, i62_74, i62_75, i62_78, i62_81, i62_82, i62_85, i62_88, i62_89, i62_90, i62_93, i62_94, i62_96, i62_97, i62_100, i62_103, i62_104, i62_105, i62_106, i62_109, i62_110, i62_111, i62_114, i62_118, i62_121, k2, k63, k64, k83, k100, g8_0, g9_0, g9_1, g9_15, g9_3, p9_0, p9_10, p9_14, p9_2, p9_3, p9_5, p9_7, p9_9, cond_true]
        exact e
      · have cF : P.1 = false := by cases h : P.1 with
          | true => exact absurd h cP
          | false => rfl
        rw [if_neg cP] at he
        have q := hF _ he
        have f0 := pf.2 cF
        have k0 : P.2.2.1 0 = (adv T n d).2.1 0 := by rw [pf.1]
        rw [cF]
        have i1 : in32 (8 * P.2.2.1 0) := by unfold in32; omega
        have i2 : in32 (1 + 8 * P.2.2.1 0) := by unfold in32; omega
        have i3 : in32 (P.2.1 0 + (1 + 8 * P.2.2.1 0)) := by unfold in32; omega
        simp (disch := omega) only [s_1, s_2, s_3, s_4, s_76, s_5, s_6, s_7, s_8, s_9, s_10, s_11, s_12, s_13, s_14, s_15, s_16, s_17, s_18, s_19, s_20, s_21, s_22, s_23, s_24, s_25, s_26, s_27, s_28, s_29, s_30, s_31, s_32, s_33, s_34, s_35, s_36, s_37, s_38, s_39, s_40l, s_40i, s_40r, s_41, s_43, t_44, t_45, t_46, t_47, s_48, s_49, s_50, s_51, s_52, s_53, s_54, s_55, s_56, s_57, s_58, s_59, s_60, s_61, s_62_0, s_62_1, s_62_2, s_66, s_67, s_68, s_69, s_70, s_71, s_72, s_73, sws_n, sws_c, lget, lset, fget, fset, nolg, nolong, avc, stw, cnd, isobj_eo, GCi, GCn, retk, List.length_cons, List.length_nil, ↓reduceIte, and_true, true_and, not_true_eq_false, not_false_eq_true, forall_const, Nat.reduceAdd, Nat.reduceLT, Nat.reduceLeDiff, Nat.lt_add_one, Nat.le_refl, Nat.zero_le, Nat.sub_zero, Int.reduceEq, Int.reduceNe, Int.reduceLT, Int.reduceLE, Int.reduceAdd, Int.reduceSub, Int.reduceMul, Int.reduceNeg, Int.reduceTDiv, Int.reduceTMod, ne_eq, reduceCtorEq, Nat.reduceEqDiff, Int.cast_ofNat_Int, true_or, or_true, false_or, or_false, lcq_0, lcq_2, lcq_3, lcq_4, lcq_5, wu_s, wu_1, wu_w, wu_lt, wu_ne, ar_s, ar_n, rr_s, rr_n, ob_n, nz_c, lt_T, lt_F, le_T, le_F, ie_T, ie_F, nt_T, nt_F, nl_T, nl_F, in_T, and_false, false_and, and_self, not_true_eq_false, Int.toNat_natCast, Int.reduceToNat, if_true, if_false, mi_62, i62_0, i62_1, i62_2, i62_5, i62_6, i62_7, i62_10, i62_11, i62_12, i62_15, i62_16, i62_17, i62_20, i62_21, i62_22, i62_25, i62_26, i62_27, i62_30, i62_31, i62_32, i62_35, i62_36, i62_37, i62_40, i62_41, i62_44, i62_45, i62_48, i62_49, i62_52, i62_53, i62_56, i62_57, i62_59, i62_62, i62_65, i62_66, i62_69, i62_71, i62_74, i62_75, i62_78, i62_81, i62_82, i62_85, i62_88, i62_89, i62_90, i62_93, i62_94, i62_96, i62_97, i62_100, i62_103, i62_104, i62_105, i62_106, i62_109, i62_110, i62_111, i62_114, i62_118, i62_121, k2, k63, k64, k83, k100, g8_0, g9_0, g9_1, g9_15, g9_3, p9_0, p9_10, p9_14, p9_2, p9_3, p9_5, p9_7, p9_9, cond_false, i1, i2, i3]
        exact q
theorem XI.ini (hw : w = 0 ∨ w = 1) : XI n (iniC w n c) ∧ XZs (iniC w n c) := by
  refine ⟨⟨⟨rfl, ?_⟩, ?_, ?_, ?_, ?_, ?_, ?_, ?_⟩, ?_, ?_, ?_⟩
  · show (0 : Int) ≤ 0 ∧ (0 : Int) ≤ (n : Int)
    omega
  · show (0 : Int) ≤ 0 ∧ (0 : Int) ≤ 400
    decide
  · show (0 : Int) ≤ 0 ∧ (0 : Int) ≤ 64
    decide
  · intro i hi
    have : (i : Int) < 0 := hi
    omega
  · show dpC c.2.2.2.1 (0 : Int).toNat ≤ 0 ∧ (0 : Int) ≤ 10
    exact ⟨Int.le_refl _, by decide⟩
  · show (0 : Int) ≤ 0 ∧ (0 : Int) ≤ 60
    decide
  · show (0 : Int) ≤ 0 ∧ (0 : Int) ≤ 12
    decide
  · exact hw
  · show (0 : Int) ≤ 0 ∧ (0 : Int) ≤ 6
    decide
  · intro z
    have : (0 : Int) = 1 := z
    omega
  · intro z
    exact absurd rfl z
theorem x_read (hx : CX W T n) (hw2 : w = 0 ∨ w = 1) (hT : ∀ c' o3, XI n c' → rdC T n 401 (iniC w n c) = (true, c') → G 62 117 [some (vr 119), some (vi (n : Int)), some (vi w), o3] [] (RX W c') 10 1635 Q) (hF : ∀ c', rdC T n 401 (iniC w n c) = (false, c') → Q (some vn) (RX W (wR c' 0 (c'.1 0 + (1 + 8 * c'.2.1 0))))) : Gm 62 [vr 119, vi (n : Int), vi w] (RX W c) Q := by
  have hw : 192 ≤ W.1 := hx.1.1
  obtain ⟨i1, i2⟩ := XI.ini (c := c) (n := n) hw2
  have lp := x_rloop (c := iniC w n c) (o1 := some (vi (n : Int))) (w := w) hx hT hF 401 0 (iniC w n c) rfl i1 i2 rfl
  rw [e62]
  simp (disch := omega) only [s_1, s_2, s_3, s_4, s_76, s_5, s_6, s_7, s_8, s_9, s_10, s_11, s_12, s_13, s_14, s_15, s_16, s_17, s_18, s_19, s_20, s_21, s_22, s_23, s_24, s_25, s_26, s_27, s_28, s_29, s_30, s_31, s_32, s_33, s_34, s_35, s_36, s_37, s_38, s_39, s_40l, s_40i, s_40r, s_41, s_43, t_44, t_45, t_46, t_47, s_48, s_49, s_50, s_51, s_52, s_53, s_54, s_55, s_56, s_57, s_58, s_59, s_60, s_61, s_62_0, s_62_1, s_62_2, s_66, s_67, s_68, s_69, s_70, s_71, s_72, s_73, sws_n, sws_c, lget, lset, fget, fset, nolg, nolong, avc, stw, cnd, isobj_eo, GCi, GCn, retk, List.length_cons, List.length_nil, ↓reduceIte, and_true, true_and, not_true_eq_false, not_false_eq_true, forall_const, Nat.reduceAdd, Nat.reduceLT, Nat.reduceLeDiff, Nat.lt_add_one, Nat.le_refl, Nat.zero_le, Nat.sub_zero, Int.reduceEq, Int.reduceNe, Int.reduceLT, Int.reduceLE, Int.reduceAdd, Int.reduceSub, Int.reduceMul, Int.reduceNeg, Int.reduceTDiv, Int.reduceTMod, ne_eq, reduceCtorEq, Nat.reduceEqDiff, Int.cast_ofNat_Int, true_or, or_true, false_or, or_false, lcq_0, lcq_2, lcq_3, lcq_4, lcq_5, wu_s, wu_1, wu_w, wu_lt, wu_ne, ar_s, ar_n, rr_s, rr_n, ob_n, nz_c, lt_T, lt_F, le_T, le_F, ie_T, ie_F, nt_T, nt_F, nl_T, nl_F, in_T, and_false, false_and, and_self, not_true_eq_false, Int.toNat_natCast, Int.reduceToNat, if_true, if_false, mi_62, i62_0, i62_1, i62_2, i62_5, i62_6, i62_7, i62_10, i62_11, i62_12, i62_15, i62_16, i62_17, i62_20, i62_21, i62_22, i62_25, i62_26, i62_27, i62_30, i62_31, i62_32, i62_35, i62_36, i62_37, i62_40, i62_41, i62_44, i62_45, i62_48, i62_49, i62_52, i62_53, i62_56, i62_57, i62_59, i62_62, i62_65, i62_66, i62_69, i62_71, i62_74, i62_75, i62_78, i62_81, i62_82, i62_85, i62_88, i62_89, i62_90, i62_93, i62_94, i62_96, i62_97, i62_100, i62_103, i62_104, i62_105, i62_106, i62_109, i62_110, i62_111, i62_114, i62_118, i62_121, k2, k63, k64, k83, k100, g8_0, g9_0, g9_1, g9_15, g9_3, p9_0, p9_10, p9_14, p9_2, p9_3, p9_5, p9_7, p9_9, hw2]
  refine ct_fill (N := 6) (g := c.2.2.2.2.2.2.2) ?_ ?_ ?_ ?_ ?_
  · simp (disch := omega) only [s_1, s_2, s_3, s_4, s_76, s_5, s_6, s_7, s_8, s_9, s_10, s_11, s_12, s_13, s_14, s_15, s_16, s_17, s_18, s_19, s_20, s_21, s_22, s_23, s_24, s_25, s_26, s_27, s_28, s_29, s_30, s_31, s_32, s_33, s_34, s_35, s_36, s_37, s_38, s_39, s_40l, s_40i, s_40r, s_41, s_43, t_44, t_45, t_46, t_47, s_48, s_49, s_50, s_51, s_52, s_53, s_54, s_55, s_56, s_57, s_58, s_59, s_60, s_61, s_62_0, s_62_1, s_62_2, s_66, s_67, s_68, s_69, s_70, s_71, s_72, s_73, sws_n, sws_c, lget, lset, fget, fset, nolg, nolong, avc, stw, cnd, isobj_eo, GCi, GCn, retk, List.length_cons, List.length_nil, ↓reduceIte, and_true, true_and, not_true_eq_false, not_false_eq_true, forall_const, Nat.reduceAdd, Nat.reduceLT, Nat.reduceLeDiff, Nat.lt_add_one, Nat.le_refl, Nat.zero_le, Nat.sub_zero, Int.reduceEq, Int.reduceNe, Int.reduceLT, Int.reduceLE, Int.reduceAdd, Int.reduceSub, Int.reduceMul, Int.reduceNeg, Int.reduceTDiv, Int.reduceTMod, ne_eq, reduceCtorEq, Nat.reduceEqDiff, Int.cast_ofNat_Int, true_or, or_true, false_or, or_false, lcq_0, lcq_2, lcq_3, lcq_4, lcq_5, wu_s, wu_1, wu_w, wu_lt, wu_ne, ar_s, ar_n, rr_s, rr_n, ob_n, nz_c, lt_T, lt_F, le_T, le_F, ie_T, ie_F, nt_T, nt_F, nl_T, nl_F, in_T, and_false, false_and, and_self, not_true_eq_false, Int.toNat_natCast, Int.reduceToNat, if_true, if_false, mi_62, i62_0, i62_1, i62_2, i62_5, i62_6, i62_7, i62_10, i62_11, i62_12, i62_15, i62_16, i62_17, i62_20, i62_21, i62_22, i62_25, i62_26, i62_27, i62_30, i62_31, i62_32, i62_35, i62_36, i62_37, i62_40, i62_41, i62_44, i62_45, i62_48, i62_49, i62_52, i62_53, i62_56, i62_57, i62_59, i62_62, i62_65, i62_66, i62_69, i62_71, i62_74, i62_75, i62_78, i62_81, i62_82, i62_85, i62_88, i62_89, i62_90, i62_93, i62_94, i62_96, i62_97, i62_100, i62_103, i62_104, i62_105, i62_106, i62_109, i62_110, i62_111, i62_114, i62_118, i62_121, k2, k63, k64, k83, k100, g8_0, g9_0, g9_1, g9_15, g9_3, p9_0, p9_10, p9_14, p9_2, p9_3, p9_5, p9_7, p9_9]
  · decide
  · show 125 < W.1
    omega
  · decide
  · simp (disch := omega) only [s_1, s_2, s_3, s_4, s_76, s_5, s_6, s_7, s_8, s_9, s_10, s_11, s_12, s_13, s_14, s_15, s_16, s_17, s_18, s_19, s_20, s_21, s_22, s_23, s_24, s_25, s_26, s_27, s_28, s_29, s_30, s_31, s_32, s_33, s_34, s_35, s_36, s_37, s_38, s_39, s_40l, s_40i, s_40r, s_41, s_43, t_44, t_45, t_46, t_47, s_48, s_49, s_50, s_51, s_52, s_53, s_54, s_55, s_56, s_57, s_58, s_59, s_60, s_61, s_62_0, s_62_1, s_62_2, s_66, s_67, s_68, s_69, s_70, s_71, s_72, s_73, sws_n, sws_c, lget, lset, fget, fset, nolg, nolong, avc, stw, cnd, isobj_eo, GCi, GCn, retk, List.length_cons, List.length_nil, ↓reduceIte, and_true, true_and, not_true_eq_false, not_false_eq_true, forall_const, Nat.reduceAdd, Nat.reduceLT, Nat.reduceLeDiff, Nat.lt_add_one, Nat.le_refl, Nat.zero_le, Nat.sub_zero, Int.reduceEq, Int.reduceNe, Int.reduceLT, Int.reduceLE, Int.reduceAdd, Int.reduceSub, Int.reduceMul, Int.reduceNeg, Int.reduceTDiv, Int.reduceTMod, ne_eq, reduceCtorEq, Nat.reduceEqDiff, Int.cast_ofNat_Int, true_or, or_true, false_or, or_false, lcq_0, lcq_2, lcq_3, lcq_4, lcq_5, wu_s, wu_1, wu_w, wu_lt, wu_ne, ar_s, ar_n, rr_s, rr_n, ob_n, nz_c, lt_T, lt_F, le_T, le_F, ie_T, ie_F, nt_T, nt_F, nl_T, nl_F, in_T, and_false, false_and, and_self, not_true_eq_false, Int.toNat_natCast, Int.reduceToNat, if_true, if_false, mi_62, i62_0, i62_1, i62_2, i62_5, i62_6, i62_7, i62_10, i62_11, i62_12, i62_15, i62_16, i62_17, i62_20, i62_21, i62_22, i62_25, i62_26, i62_27, i62_30, i62_31, i62_32, i62_35, i62_36, i62_37, i62_40, i62_41, i62_44, i62_45, i62_48, i62_49, i62_52, i62_53, i62_56, i62_57, i62_59, i62_62, i62_65, i62_66, i62_69, i62_71, i62_74, i62_75, i62_78, i62_81, i62_82, i62_85, i62_88, i62_89, i62_90, i62_93, i62_94, i62_96, i62_97, i62_100, i62_103, i62_104, i62_105, i62_106, i62_109, i62_110, i62_111, i62_114, i62_118, i62_121, k2, k63, k64, k83, k100, g8_0, g9_0, g9_1, g9_15, g9_3, p9_0, p9_10, p9_14, p9_2, p9_3, p9_5, p9_7, p9_9]
    refine x_start (c := (fu (fu (fu (fu (fu (fu (fu (fu c.1 2 w) 0 0) 3 0) 5 0) 7 0) 9 0) 10 0) 14 0, c.2.1, c.2.2.1, c.2.2.2.1, c.2.2.2.2.1, c.2.2.2.2.2.1, c.2.2.2.2.2.2.1, flf c.2.2.2.2.2.2.2 6 (-1))) hx ?_
    simp (disch := omega) only [s_1, s_2, s_3, s_4, s_76, s_5, s_6, s_7, s_8, s_9, s_10, s_11, s_12, s_13, s_14, s_15, s_16, s_17, s_18, s_19, s_20, s_21, s_22, s_23, s_24, s_25, s_26, s_27, s_28, s_29, s_30, s_31, s_32, s_33, s_34, s_35, s_36, s_37, s_38, s_39, s_40l, s_40i, s_40r, s_41, s_43, t_44, t_45, t_46, t_47, s_48, s_49, s_50, s_51, s_52, s_53, s_54, s_55, s_56, s_57, s_58, s_59, s_60, s_61, s_62_0, s_62_1, s_62_2, s_66, s_67, s_68, s_69, s_70, s_71, s_72, s_73, sws_n, sws_c, lget, lset, fget, fset, nolg, nolong, avc, stw, cnd, isobj_eo, GCi, GCn, retk, List.length_cons, List.length_nil, ↓reduceIte, and_true, true_and, not_true_eq_false, not_false_eq_true, forall_const, Nat.reduceAdd, Nat.reduceLT, Nat.reduceLeDiff, Nat.lt_add_one, Nat.le_refl, Nat.zero_le, Nat.sub_zero, Int.reduceEq, Int.reduceNe, Int.reduceLT, Int.reduceLE, Int.reduceAdd, Int.reduceSub, Int.reduceMul, Int.reduceNeg, Int.reduceTDiv, Int.reduceTMod, ne_eq, reduceCtorEq, Nat.reduceEqDiff, Int.cast_ofNat_Int, true_or, or_true, false_or, or_false, lcq_0, lcq_2, lcq_3, lcq_4, lcq_5, wu_s, wu_1, wu_w, wu_lt, wu_ne, ar_s, ar_n, rr_s, rr_n, ob_n, nz_c, lt_T, lt_F, le_T, le_F, ie_T, ie_F, nt_T, nt_F, nl_T, nl_F, in_T, and_false, false_and, and_self, not_true_eq_false, Int.toNat_natCast, Int.reduceToNat, if_true, if_false, mi_62, i62_0, i62_1, i62_2, i62_5, i62_6, i62_7, i62_10, i62_11, i62_12, i62_15, i62_16, i62_17, i62_20, i62_21, i62_22, i62_25, i62_26, i62_27, i62_30, i62_31, i62_32, i62_35, i62_36, i62_37, i62_40, i62_41, i62_44, i62_45, i62_48, i62_49, i62_52, i62_53, i62_56, i62_57, i62_59, i62_62, i62_65, i62_66, i62_69, i62_71, i62_74, i62_75, i62_78, i62_81, i62_82, i62_85, i62_88, i62_89, i62_90, i62_93, i62_94, i62_96, i62_97, i62_100, i62_103, i62_104, i62_105, i62_106, i62_109, i62_110, i62_111, i62_114, i62_118, i62_121, k2, k63, k64, k83, k100, g8_0, g9_0, g9_1, g9_15, g9_3, p9_0, p9_10, p9_14, p9_2, p9_3, p9_5, p9_7, p9_9]
    exact lp
end RED
