-- CLASS AND REFERENCE READ ALIKE: a comparison
noncomputable def coG (T : Nat → Int) (n : Nat) (σ : GS) : GS :=
  if chr T n (σ.1 21).toNat = 60 ∨ chr T n (σ.1 21).toNat = 61 ∨ chr T n (σ.1 21).toNat = 62 then
    enF (coK (chr T n (σ.1 21).toNat) (coE T n (chr T n (σ.1 21).toNat) (σ.1 21 + 1))) 0
      (suF T n (adF (coE T n (chr T n (σ.1 21).toNat) (σ.1 21 + 1)) (adF 1 (cnF (σ.1 21) σ))))
  else flF 0 (σ.1 21) σ
theorem coF_G {T : Nat → Int} {n : Nat} {σ : GS} : coF T n σ = coG T n (suF T n σ) := rfl
section COS
variable {T : Nat → Int} {n h p i j : Nat} {c d : CR} {σ τ ρ : GS} {s v r K D : Int} {A B C : List Bool} {q : UQ}
theorem coG_f (hz : ¬ σ.1 22 = 0) : FS σ (coG T n σ) := by
  unfold coG
  split
  · have a := cnt_f (pl := σ.1 21) hz
    have b := a.tr (ad_f (x := 1))
    have e := b.tr (ad_f (x := coE T n (chr T n (σ.1 21).toNat) (σ.1 21 + 1)))
    have g := e.tr (su_f (T := T) (n := n) (e.nz hz))
    exact g.tr (en_f (g.nz hz))
  · exact flt_f hz
/-- a word at hand -/
theorem isW_e (hi : i < 30) (h1 : d.2.1 1 = tzS T n p) (h2 : d.2.1 2 = tzV T n p) : isW (i : Int) d ↔ stP T n p i := by
  unfold isW
  rw [h1, h2]
  by_cases hl : p < n ∧ ¬ isDg (T p) = true ∧ isLt (T p) = true
  · have e1 : tzS T n p = 2 := by unfold tzS; rw [if_pos hl.1, if_neg hl.2.1, if_pos hl.2.2]
    have e2 : tzV T n p = wdV T n p := by unfold tzV; rw [if_pos hl.1, if_neg hl.2.1, if_pos hl.2.2]
    rw [e1, e2, ← wdV_i (T := T) (n := n) (p := p) hi]
    exact ⟨fun z => z.2, fun z => ⟨rfl, z⟩⟩
  · have nl : ¬ (p < n ∧ isLt (T p) = true) := fun z => hl ⟨z.1, fun y => by
      have a := z.2
      simp only [isDg, isLt, decide_eq_true_eq] at y a
      omega, z.2⟩
    have e1 : ¬ tzS T n p = 2 := by
      unfold tzS
      by_cases c0 : p < n
      · rw [if_pos c0]
        by_cases c1 : isDg (T p) = true
        · rw [if_pos c1]; decide
        · rw [if_neg c1, if_neg (fun z => nl ⟨c0, z⟩)]; decide
      · rw [if_neg c0]; decide
    exact ⟨fun z => absurd z.1 e1, fun z => absurd (stP_l hi z) nl⟩
/-- a sign at hand -/
theorem isS_e {x : Int} (hT : Ty T) (hx : (0 ≤ x ∧ x < 128) ∧ ¬ (48 ≤ x ∧ x ≤ 57) ∧ ¬ (97 ≤ x ∧ x ≤ 122) ∧ ¬ x = 60 ∧ ¬ x = 62) (h1 : d.2.1 1 = tzS T n p) (h2 : d.2.1 2 = tzV T n p) : isS x d ↔ chr T n p = x := by
  unfold isS
  rw [h1, h2, chr_e hT hx.1]
  have tb := hT p
  constructor
  · rintro ⟨a, b⟩
    unfold tzS at a
    unfold tzV at b
    by_cases c0 : p < n
    · rw [if_pos c0] at a b
      by_cases c1 : isDg (T p) = true
      · rw [if_pos c1] at a; omega
      · rw [if_neg c1] at a b
        by_cases c2 : isLt (T p) = true
        · rw [if_pos c2] at a; omega
        · rw [if_neg c2] at b
          refine ⟨c0, ?_⟩
          split at b
          · next w =>
            have := w.1
            omega
          · exact b
    · rw [if_neg c0] at a; omega
  · rintro ⟨a, b⟩
    obtain ⟨e1, e2, -⟩ := tk_sig1 (T := T) a b ⟨hx.2.1, hx.2.2.1⟩ hx.2.2.2
    exact ⟨e1, e2⟩
theorem tkL_3 {w : Int} : (tkL (wR c 3 w)).1 = (tkL c).1 ∧ ((tkL c).1 = true → (tkL (wR c 3 w)).2 = (tkL c).2) ∧ ((tkL c).1 = false → (tkL (wR c 3 w)).2.1 0 = (tkL c).2.1 0) := by
  have eo : opH (wR c 3 w) = opH c := rfl
  have e5 : (wR c 3 w).1 5 = c.1 5 := rfl
  have ek : (wR c 3 w).2.1 = c.2.1 := rfl
  unfold tkL
  rw [eo, e5, ek]
  split
  · exact ⟨rfl, fun z => (by cases z), fun _ => rfl⟩
  · split
    · exact ⟨rfl, fun z => (by cases z), fun _ => rfl⟩
    · refine ⟨rfl, fun _ => ?_, fun z => (by cases z)⟩
      generalize 16 * opH c + (if c.2.1 1 = 1 then 0 else 1) = v
      dsimp only
      unfold putC
      have e7 : (wR (wR c 3 w) 5 (c.1 5 + 1)).1 7 = c.1 7 := rfl
      have f7 : (wR c 5 (c.1 5 + 1)).1 7 = c.1 7 := rfl
      rw [e7, f7]
      split
      · unfold wR wD
        dsimp only
        rw [fu_lt (i := 7) (j := 3) (by decide), fu_lt (i := 5) (j := 3) (by decide), fu_fu, fu_lt (f := fu c.1 5 (c.1 5 + 1)) (i := 7) (j := 3) (by decide), fu_lt (i := 5) (j := 3) (by decide)]
      · unfold wR
        dsimp only
        rw [fu_lt (i := 5) (j := 3) (by decide), fu_fu, fu_lt (f := c.1) (i := 5) (j := 3) (by decide)]
def CF (T : Nat → Int) (n h : Nat) (c : CR) (σ : GS) : Prop := c.1 3 = 2 ∧ SB T n c σ ∧ SE (qOf c) σ ∧ c.1 9 = (h : Int)
/-- a fact begins with a value -/
theorem fa_step (hT : Ty T) (hc : CF T n h c σ) (hq : rn isB T n (σ.1 21).toNat = (σ.1 21).toNat) (h9 : ¬ stP T n (σ.1 21).toNat 9) (h91 : ¬ chr T n (σ.1 21).toNat = 91) : Rc T n c (wR (wR c 4 1) 3 3) ∧ CV T n h (wR (wR c 4 1) 3 3) σ := by
  obtain ⟨c3, hB, hE, c9⟩ := hc
  have hP : rn isB T n (c.2.1 5).toNat = (σ.1 21).toNat := by rw [hB.2.1, hq]
  have k1 : (adv T n c).2.1 1 = tzS T n (σ.1 21).toNat := by rw [adv_1, hP]
  have k2 : (adv T n c).2.1 2 = tzV T n (σ.1 21).toNat := by rw [adv_2, hP]
  have b4 := hB.1
  have e1 : tkPc (adv T n c) = tkL (wR (adv T n c) 4 1) := by
    unfold tkPc
    rw [show (adv T n c).1 3 = 2 from c3]
    show tkT (adv T n c) = _
    unfold tkT
    rw [if_neg]
    rintro (z | z)
    · exact h91 ((isS_e hT (by decide) k1 k2).mp z)
    · exact h9 ((isW_e (i := 9) (by decide) k1 k2).mp z)
  have e2 : tkPc (adv T n (wR (wR c 4 1) 3 3)) = tkL (wR (wR (adv T n c) 4 1) 3 3) := rfl
  obtain ⟨t1, t2, t3⟩ := tkL_3 (c := wR (adv T n c) 4 1) (w := 3)
  refine ⟨Rc.same (by omega) (by show ¬ (3 : Int) = 6; decide) (by omega) rfl (by rw [e1, e2, t1]) (fun z => by rw [e1] at z ⊢; rw [e2, t2 z]) (fun z => by rw [e1] at z ⊢; rw [e2, t3 z]), rfl, hB, hE, c9⟩
/-- a comparison's sign is taken -/
theorem cm_step {e : Int} (hc : CT T n 4 h c σ) (hw : c.1 4 = 1) (hs : 6 ≤ s ∧ s ≤ 10) (hg : sgH (adv T n c).2.1 = s) (hz : σ.1 22 = 0) (h60 : ¬ 60 ≤ σ.1 28) (hp : (σ.1 21).toNat < n) (h0 : 0 ≤ σ.1 21) (hq : rn isB T n (σ.1 21).toNat = (σ.1 21).toNat) (he : e = 0 ∨ e = 1) (hN : ((tzN T n (σ.1 21).toNat : Nat) : Int) = σ.1 21 + 1 + e) (hNn : tzN T n (σ.1 21).toNat ≤ n) (h64 : h < 64) : ∃ d, Rc T n c d ∧ CV T n (h + 1) d (adF e (adF 1 (cnF (σ.1 21) σ))) ∧ AF c d h ∧ d.2.2.2.1 h = s ∧ d.1 4 = 2 := by
  obtain ⟨c3, hB, hL1, hL2⟩ := hc
  have h6 : ¬ c.1 3 = 6 := by omega
  have hP : rn isB T n (c.2.1 5).toNat = (σ.1 21).toNat := by rw [hB.2.1, hq]
  have r4 : rkI s = 4 := by
    rcases (show s = 6 ∨ s = 7 ∨ s = 8 ∨ s = 9 ∨ s = 10 by omega) with rfl | rfl | rfl | rfl | rfl <;> rfl
  have c5 : c.1 5 = σ.1 28 := hB.2.2.1
  have eT : tkPc (adv T n c) = (true, pilC s (unC (rkI s) (wR (wR (wR (adv T n c) 5 (c.1 5 + 1)) 4 2) 3 3))) := by
    unfold tkPc
    rw [show (adv T n c).1 3 = 4 from c3]
    show tkE (adv T n c) = _
    unfold tkE
    rw [hg, if_neg (by omega), show (adv T n c).1 4 = 1 from hw, if_neg (by decide), if_pos rfl]
    unfold tkC
    rw [if_neg (by omega), show (adv T n c).1 5 = c.1 5 from rfl, if_neg (by omega)]
  have hb5 := (rn_b (P := isB) (T := T) (n := n) (p := (c.2.1 5).toNat)).1
  have b4 := hB.1
  have k5 : (tkPc (adv T n c)).2.2.1 5 = σ.1 21 + 1 + e := by rw [(tkP_f (c := adv T n c)).1, adv_5, hP, hN]
  have eu : unC (rkI s) (wR (wR (wR (adv T n c) 5 (c.1 5 + 1)) 4 2) 3 3) = setU (wR (wR (wR (adv T n c) 5 (c.1 5 + 1)) 4 2) 3 3) (unA 4 c.2.2.2.1 (c.1 9).toNat (qOf c)) := by rw [r4]; rfl
  have rc := Rc.st (c := c) (T := T) (n := n) h6 (by rw [eT]) (by omega) (by rw [k5]; omega)
  rw [eT] at k5 rc
  rw [eu] at k5 rc
  generalize unA 4 c.2.2.2.1 (c.1 9).toNat (qOf c) = z at *
  generalize hy : wR (wR (wR (adv T n c) 5 (c.1 5 + 1)) 4 2) 3 3 = y at *
  have y2 : y.1 2 = c.1 2 ∧ y.1 3 = 3 ∧ y.1 4 = 2 ∧ y.1 5 = c.1 5 + 1 ∧ y.1 14 = c.1 14 ∧ y.2.2.2.1 = c.2.2.2.1 ∧ y.2.1 4 = c.2.1 4 ∧ y.2.2.2.2.1 = c.2.2.2.2.1 ∧ y.2.2.2.2.2.1 = c.2.2.2.2.2.1 ∧ y.2.2.2.2.2.2.1 = c.2.2.2.2.2.2.1 ∧ y.2.2.2.2.2.2.2 = c.2.2.2.2.2.2.2 := by
    rw [← hy]
    exact ⟨rfl, rfl, rfl, rfl, rfl, rfl, rfl, rfl, rfl, rfl, rfl⟩
  obtain ⟨y2, y3, y4, y5, y14, yP, yK, yI, yM, yE, yS⟩ := y2
  obtain ⟨p1, p2, p3⟩ := pil_set (c := y) (s := s) (z := z) (by omega)
  have pk := pilC_k (c := setU y z) (v := s)
  have po := fun (j : Nat) (hj : j ≠ 9) => pilC_o (c := setU y z) (v := s) hj
  have hcn : ∀ j, j ≠ 22 → j ≠ 28 → j ≠ 21 → (adF e (adF 1 (cnF (σ.1 21) σ))).1 j = σ.1 j := fun j a b g => by rw [ad_o g, ad_o g, cn_o b a]
  have e21 : (adF e (adF 1 (cnF (σ.1 21) σ))).1 21 = σ.1 21 + 1 + e := by rw [ad_e, ad_e, cn_o (by decide) (by decide)]
  have e28 : (adF e (adF 1 (cnF (σ.1 21) σ))).1 28 = σ.1 28 + 1 := by rw [ad_o (by decide), ad_o (by decide), cn_e]
  refine ⟨_, rc, ⟨?_, ⟨⟨?_, ?_, ?_⟩, ?_, ?_, ?_⟩, ?_, ?_⟩, ⟨?_, ?_, ?_, ?_, ?_, ?_⟩, ?_, ?_⟩
  · rw [po 3 (by decide)]; exact y3
  · show (pilC s (setU y z)).2.1 4 = _
    rw [pk.1]; exact yK.trans hB.1.1
  · show 0 ≤ (pilC s (setU y z)).2.1 5
    rw [k5]; omega
  · show (pilC s (setU y z)).2.1 5 ≤ _
    rw [k5]; omega
  · show rn isB T n ((pilC s (setU y z)).2.1 5).toNat = _
    rw [k5, e21]
  · rw [po 5 (by decide), e28, ← c5]; exact y5
  · rw [po 2 (by decide), hcn 23 (by decide) (by decide) (by decide)]; exact y2.trans hB.2.2.2
  · show SE (qOf (pilC s (setU y z))) _
    rw [p3]
    exact hL2.cg (hcn 26 (by decide) (by decide) (by decide)) (hcn 27 (by decide) (by decide) (by decide)) (hcn 23 (by decide) (by decide) (by decide)) rfl
  · rw [← hL1]; exact p1
  · rw [po 14 (by decide)]; exact y14
  · exact pk.2.1.trans yI
  · exact pk.2.2.1.trans yM
  · exact pk.2.2.2.1.trans yE
  · exact pk.2.2.2.2.1.trans yS
  · intro i hi
    show (pilC s (setU y z)).2.2.2.1 i = _
    rw [p2, ← yP]
    exact fu_ne _ _ (by omega)
  · show (pilC s (setU y z)).2.2.2.1 h = s
    rw [p2, ← hL1]
    exact fu_eq _ _ _
  · rw [po 4 (by decide)]; exact y4
/-- which comparison stands there -/
theorem cm_at {x e : Int} (hT : Ty T) (hx : x = 60 ∨ x = 61 ∨ x = 62) (hch : chr T n p = x) (he : e = coE T n x ((p : Int) + 1)) (h1 : d.2.1 1 = tzS T n p) (h2 : d.2.1 2 = tzV T n p) : p < n ∧ (e = 0 ∨ e = 1) ∧ sgH d.2.1 = sgC (coK x e) ∧ (6 ≤ sgC (coK x e) ∧ sgC (coK x e) ≤ 10) ∧ (4 ≤ coK x e ∧ coK x e ≤ 8) ∧ ((tzN T n p : Nat) : Int) = (p : Int) + 1 + e := by
  have hc := chr_T (n := n) (p := p) hT (by omega) hch
  obtain ⟨a, b, g⟩ := tk_sign hc.1 hc.2 (by omega)
  rw [a] at h1
  rw [b] at h2
  have hw : wdn T n p ↔ (¬ x = 61 ∧ chr T n (p + 1) = 61) := by
    unfold wdn
    rw [chr_e hT (by decide), hc.2]
    omega
  have he2 : e = if x ≠ 61 ∧ chr T n (p + 1) = 61 then 1 else 0 := by
    rw [he]
    unfold coE
    rw [show ((p : Int) + 1).toNat = p + 1 by omega]
  refine ⟨hc.1, ?_, ?_⟩
  · rw [he2]; split
    · exact Or.inr rfl
    · exact Or.inl rfl
  · rw [sgH_3 h1, h2, g]
    by_cases w : wdn T n p
    · have w2 := hw.mp w
      rw [if_pos w, if_pos w]
      rw [if_pos w2] at he2
      subst he2
      rcases hx with rfl | rfl | rfl
      · exact ⟨rfl, by decide, by decide, by omega⟩
      · exact absurd rfl w2.1
      · exact ⟨rfl, by decide, by decide, by omega⟩
    · rw [if_neg w, if_neg w]
      rw [if_neg (fun z => w (hw.mpr z))] at he2
      subst he2
      rcases hx with rfl | rfl | rfl
      · exact ⟨rfl, by decide, by decide, by omega⟩
      · exact ⟨rfl, by decide, by decide, by omega⟩
      · exact ⟨rfl, by decide, by decide, by omega⟩
theorem TyR.le (h2 : τ.2 = σ.2) (h26 : τ.1 26 = σ.1 26) (h28 : σ.1 28 ≤ τ.1 28) : TyR σ τ A A := by
  refine ⟨fun a l ha hl => ?_, ?_⟩
  · rw [h2, h26]; exact hl
  · rw [h2, h26]; omega
theorem s_co (hT : Ty T) (hn : n ≤ 400) (hI : RI n K 0 σ) (hK : 0 ≤ K) (hf : σ.1 22 = 0) (h64 : h < 60) (hb : h = 0 ∨ rkI (c.2.2.2.1 (h - 1)) < 4) (hc : CF T n h c σ) (hq : rn isB T n (σ.1 21).toNat = (σ.1 21).toNat) (h9 : ¬ stP T n (σ.1 21).toNat 9) (h91 : ¬ chr T n (σ.1 21).toNat = 91) : Res T n c σ (coF T n σ) [] [true] (fun d => GT6 T n h c (coF T n σ) 4 2 d ∧ NAr T n (coF T n σ)) := by
  obtain ⟨f1, f2⟩ := fa_step hT hc hq h9 h91
  have v1 := s_su (c := wR (wR c 4 1) 3 3) (w := 1) hT hn hI (by decide) hK hf (by omega) (by
    by_cases z0 : h = 0
    · exact Or.inl z0
    · exact Or.inr (by have := hb.resolve_left z0; show rkI (c.2.2.2.1 (h - 1)) < 5; omega)) rfl f2
  obtain ⟨s1, s2⟩ := hI.su (T := T) (by decide)
  rw [coF_G]
  generalize suF T n σ = σ1 at *
  refine Res.rc f1 (v1.seq coG_f (fun d gd z => ?_))
  obtain ⟨⟨g1, g2, g3, g4⟩, g5⟩ := gd
  have hp := s1.2.1
  have hd := s1.2.2.2.2.2 z
  have h26 := s1.2.2.2.2.1
  have h23 := s1.1.2.1.1
  obtain ⟨p, hpp⟩ : ∃ p : Nat, σ1.1 21 = (p : Int) := ⟨(σ1.1 21).toNat, by omega⟩
  have ep : (σ1.1 21).toNat = p := by omega
  have hP : rn isB T n (d.2.1 5).toNat = p := by rw [g1.2.1.2.1, g4, ep]
  have k1 : (adv T n d).2.1 1 = tzS T n p := by rw [adv_1, hP]
  have k2 : (adv T n d).2.1 2 = tzV T n p := by rw [adv_2, hP]
  have b4 := g1.2.1.1
  have d3 := g1.1
  have hbd : h = 0 ∨ rkI (d.2.2.2.1 (h - 1)) < 4 := by
    by_cases z0 : h = 0
    · exact Or.inl z0
    · exact Or.inr (by rw [g2.2.2.2.2.2 _ (by omega)]; exact hb.resolve_left z0)
  have ct4 : CT T n 4 h d σ1 := ⟨g1.1, g1.2.1, g1.2.2.dn (by decide) hbd⟩
  obtain ⟨⟨n42, n47⟩, n43, n45⟩ := g5
  rw [ep] at n42 n47 n43 n45
  obtain ⟨na, nb⟩ := sgH_n (d := adv T n d) k1 k2 n42 n43 n45 n47 hT
  unfold coG
  rw [ep]
  by_cases cc : chr T n p = 60 ∨ chr T n p = 61 ∨ chr T n p = 62
  · rw [if_pos cc]
    obtain ⟨x, hx⟩ : ∃ x, chr T n p = x := ⟨_, rfl⟩
    rw [hx] at cc
    rw [hx, hpp]
    obtain ⟨a1, a2, a3, a4, a5, a6⟩ := cm_at (T := T) (n := n) (p := p) (d := adv T n d) (x := x) (e := coE T n x ((p : Int) + 1)) hT cc hx rfl k1 k2
    generalize coE T n x ((p : Int) + 1) = e at *
    have r4 : rkI (sgC (coK x e)) = 4 := by
      rcases (show sgC (coK x e) = 6 ∨ sgC (coK x e) = 7 ∨ sgC (coK x e) = 8 ∨ sgC (coK x e) = 9 ∨ sgC (coK x e) = 10 by omega) with q | q | q | q | q <;> rw [q] <;> rfl
    have e22 := cn_22 (pl := (p : Int)) z
    by_cases c60 : σ1.1 28 = 60
    · rw [if_pos c60] at e22
      have m22 : ¬ (cnF (p : Int) σ1).1 22 = 0 := by rw [e22]; omega
      have F : FS (cnF (p : Int) σ1) (enF (coK x e) 0 (suF T n (adF e (adF 1 (cnF (p : Int) σ1))))) := by
        have b := (ad_f (x := 1) (σ := cnF (p : Int) σ1)).tr (ad_f (x := e))
        have g := b.tr (su_f (T := T) (n := n) (b.nz m22))
        exact g.tr (en_f (g.nz m22))
      refine ⟨(FrS.eq (σ := σ1) (τ := cnF (p : Int) σ1) rfl (cn_o (by decide) (by decide)) (cn_o (by decide) (by decide))).tr F.fr, fun _ => ?_, fun y => absurd (F.1.symm.trans y) m22⟩
      rw [F.1, e22]
      have eT : tkPc (adv T n d) = (false, wR (adv T n d) 0 3) := by
        unfold tkPc
        rw [show (adv T n d).1 3 = 4 from d3]
        show tkE (adv T n d) = _
        unfold tkE
        rw [if_neg na, show (adv T n d).1 4 = 1 from g3, if_neg (by decide), if_pos rfl]
        unfold tkC
        rw [a3, if_neg (by omega), show (adv T n d).1 5 = σ1.1 28 from g1.2.1.2.2.1, if_pos (by omega)]
      refine FtC.st (by omega) (by rw [eT]) (by omega) ?_
      rw [eT, hP]
      show 3 + (1 + 8 * (p : Int)) = _
      omega
    · rw [if_neg c60] at e22
      have cI := ((s1.cnt (pl := (p : Int)) (by omega)).ad (d := 1) (by decide) (by rw [cn_o (by decide) (by decide)]; omega))
      have e21a : (adF 1 (cnF (p : Int) σ1)).1 21 = (p : Int) + 1 := by rw [ad_e, cn_o (by decide) (by decide), hpp]
      have hN2 := tkN_b (T := T) (n := n) (p := p) (by omega)
      have cI2 := cI.ad (d := e) (by omega) (by rw [e21a]; omega)
      obtain ⟨uI, -⟩ := cI2.su (T := T) (by decide)
      have z2 : (adF e (adF 1 (cnF (p : Int) σ1))).1 22 = 0 := by rw [ad_o (by decide), ad_o (by decide)]; exact e22
      have cm := cm_step (c := d) (e := e) (s := sgC (coK x e)) ct4 g3 a4 a3 z (by omega) (by omega) (by omega) g4 a2 (by rw [ep, hpp]; exact a6) (by rw [ep]; exact hN2) (by omega)
      rw [hpp] at cm
      obtain ⟨d', m1, m2, m3, m4, m5⟩ := cm
      have e0 : TyR σ1 (adF e (adF 1 (cnF (p : Int) σ1))) [false] [false] := TyR.le rfl (by rw [ad_o (by decide), ad_o (by decide), cn_o (by decide) (by decide)]) (by rw [ad_o (by decide), ad_o (by decide), cn_e]; omega)
      have fA : FrS σ1 (adF e (adF 1 (cnF (p : Int) σ1))) := FrS.eq rfl (by rw [ad_o (by decide), ad_o (by decide), cn_o (by decide) (by decide)]) (by rw [ad_o (by decide), ad_o (by decide), cn_o (by decide) (by decide)])
      have v3 := s_su (c := d') (h := h + 1) (w := 2) hT hn cI2 (by decide) (by omega) z2 (by omega) (Or.inr (by rw [Nat.add_sub_cancel, m4, r4]; decide)) m5 m2
      have v4 : Res T n d' (adF e (adF 1 (cnF (p : Int) σ1))) (suF T n (adF e (adF 1 (cnF (p : Int) σ1)))) [false] [false, false] (fun y => GT6 T n (h + 1) d' (suF T n (adF e (adF 1 (cnF (p : Int) σ1)))) 5 2 y ∧ NAr T n (suF T n (adF e (adF 1 (cnF (p : Int) σ1))))) := ⟨v3.1, v3.2.1, fun y => ⟨(v3.2.2 y).1.wk [false], (v3.2.2 y).2⟩⟩
      generalize suF T n (adF e (adF 1 (cnF (p : Int) σ1))) = σ3 at *
      refine Res.rc m1 ((Res.one (c := d') (H := fun y => y = d') fA z2 e0 rfl).seq (fun y => absurd z2 y) (fun y hy _ => ?_))
      rw [hy]
      refine v4.seq (fun y => en_f y) (fun y gy w => ?_)
      obtain ⟨⟨w1, w2, w3, w4⟩, w5⟩ := gy
      have w26 : 0 ≤ σ3.1 26 ∧ σ3.1 26 < 300 := by
        have q := uI.2.2.2.2.2 w
        have q2 := uI.2.1
        have q3 := uI.2.2.2.2.1
        omega
      have w23 := uI.1.2.1.1
      have z4 : (enF (coK x e) 0 σ3).1 22 = 0 := by rw [en_o (by decide)]; exact w
      have kk : (coK x e = 4 ∨ coK x e = 5 ∨ coK x e = 6 ∨ coK x e = 7 ∨ coK x e = 8) := by omega
      have tE : TyR σ3 (enF (coK x e) 0 σ3) [false, false] [true] := TyR.en w w23 w26 (fun l => by
        unfold tyI
        rcases kk with q | q | q | q | q <;> rw [q] <;> rfl) (by omega)
      have fE : FrS σ3 (enF (coK x e) 0 σ3) := FrS.en (fun _ => w26) w23
      have eP : ∀ i, i < h + 1 → y.2.2.2.1 i = d'.2.2.2.1 i := w2.2.2.2.2.2
      have ct : CT T n 4 h y (enF (coK x e) 0 σ3) := by
        refine ⟨w1.1, ⟨w1.2.1.1, ?_, ?_, ?_⟩, w1.2.2.pop (by decide) ?_ ?_ ?_⟩
        · rw [en_o (by decide)]; exact w1.2.1.2.1
        · rw [en_o (by decide)]; exact w1.2.1.2.2.1
        · rw [en_o (by decide)]; exact w1.2.1.2.2.2
        · rw [eP h (by omega), m4, r4]; exact Int.le_refl _
        · by_cases z0 : h = 0
          · exact Or.inl z0
          · refine Or.inr ?_
            rw [eP _ (by omega), m3.2.2.2.2.2 _ (by omega)]
            exact hbd.resolve_left z0
        · intro q hq
          rw [eP h (by omega), m4]
          exact hq.po w w23 w26 (by omega) (by omega)
      have f21 : (enF (coK x e) 0 σ3).1 21 = σ3.1 21 := en_o (by decide)
      refine Res.one fE z4 tE ⟨⟨ct, ((show AF c d h from g2).tr m3 (Nat.le_refl _)).tr w2 (by omega), w3, by rw [f21]; exact w4⟩, ?_⟩
      unfold NAr at w5 ⊢
      rw [f21]
      exact w5
  · rw [if_neg cc]
    have e22 : (flF 0 (σ1.1 21) σ1).1 22 = 1 + 8 * (p : Int) := by
      rw [fl_e, if_pos z, hpp]
      omega
    have e1 := nb (fun y => cc (Or.inl y)) (fun y => cc (Or.inr (Or.inl y))) (fun y => cc (Or.inr (Or.inr y)))
    refine ⟨FrS.eq rfl (fl_o (by decide)) (fl_o (by decide)), fun _ => ?_, fun y => by omega⟩
    rw [e22]
    have eT : tkPc (adv T n d) = (false, wR (adv T n d) 0 0) := by
      unfold tkPc
      rw [show (adv T n d).1 3 = 4 from d3]
      show tkE (adv T n d) = _
      unfold tkE
      rw [if_neg na, show (adv T n d).1 4 = 1 from g3, if_neg (by decide), if_pos rfl]
      unfold tkC
      rw [e1, if_pos rfl]
    refine FtC.st (by omega) (by rw [eT]) (by omega) ?_
    rw [eT, hP]
    show 0 + (1 + 8 * (p : Int)) = _
    omega
end COS
