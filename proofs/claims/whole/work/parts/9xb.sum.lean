-- CLASS AND REFERENCE READ ALIKE: sums, comparisons
section SUS
variable {T : Nat → Int} {n h p i j : Nat} {c d : CR} {σ τ ρ : GS} {s v r K D : Int} {A B C : List Bool} {q : UQ}
-- behind a fault
theorem sk_f : FS σ (skF T n σ) := ⟨sk_o (by decide), rfl, sk_o (by decide), sk_o (by decide)⟩
theorem ad_f {x : Int} : FS σ (adF x σ) := ⟨ad_o (by decide), rfl, ad_o (by decide), ad_o (by decide)⟩
theorem en_f {k : Int} (hz : ¬ σ.1 22 = 0) : FS σ (enF k v σ) := by rw [enF_f hz]; exact FS.rf
theorem cnt_f {pl : Int} (hz : ¬ σ.1 22 = 0) : FS σ (cnF pl σ) := ⟨cn_f hz, rfl, cn_o (by decide) (by decide), cn_o (by decide) (by decide)⟩
theorem flt_f {x pl : Int} (hz : ¬ σ.1 22 = 0) : FS σ (flF x pl σ) := ⟨by rw [fl_e, if_neg hz], rfl, fl_o (by decide), fl_o (by decide)⟩
theorem dgt_f {most : Int} (hz : ¬ σ.1 22 = 0) : FS σ (dgF T n most σ) := by
  refine ⟨?_, rfl, dg_o (by decide) (by decide), dg_o (by decide) (by decide)⟩
  show dgG σ.1 T n (σ.1 21).toNat most 22 = _
  unfold dgG flG
  split
  · split
    · rw [fu_eq, fu_ne _ _ (by decide), if_neg hz]
    · rw [fu_ne _ _ (by decide)]
  · first
    | rw [fu_eq, if_neg hz]
    | rw [fu_eq]
theorem FS.nz (h : FS σ τ) (hz : ¬ σ.1 22 = 0) : ¬ τ.1 22 = 0 := by rw [h.1]; exact hz
theorem va_f (hz : ¬ σ.1 22 = 0) : FS σ (vaF T n σ) := by
  have s := sk_f (T := T) (n := n) (σ := σ)
  have sz := s.nz hz
  unfold vaF
  dsimp only
  generalize skF T n σ = σ1 at *
  split
  · have d := dgt_f (T := T) (n := n) (most := 99999) sz
    have e := cnt_f (pl := (((σ1.1 21).toNat : Nat) : Int)) (d.nz sz)
    exact ((s.tr d).tr e).tr (en_f (e.nz (d.nz sz)))
  · split
    · exact s.tr (flt_f sz)
    · have e := cnt_f (pl := (((σ1.1 21).toNat : Nat) : Int)) sz
      exact ((s.tr e).tr ad_f).tr (en_f (ad_f.nz (e.nz sz)))
theorem teL_f (hz : ¬ σ.1 22 = 0) : ∀ f, teL T n f σ = σ
  | 0 => rfl
  | f + 1 => if_neg (fun y => hz y.1)
theorem te_f (hz : ¬ σ.1 22 = 0) : FS σ (teF T n σ) := by
  have v := va_f (T := T) (n := n) hz
  unfold teF
  rw [teL_f (sk_f.nz (v.nz hz))]
  exact v.tr sk_f
theorem suL_f (hz : ¬ σ.1 22 = 0) : ∀ f, suL T n f σ = σ
  | 0 => rfl
  | f + 1 => if_neg (fun y => hz y.1)
theorem su_f (hz : ¬ σ.1 22 = 0) : FS σ (suF T n σ) := by
  have v := te_f (T := T) (n := n) hz
  unfold suF
  rw [suL_f (v.nz hz)]
  exact v
-- a sign at hand
theorem chr_T {x : Int} (hT : Ty T) (hx : 0 ≤ x ∧ x < 128) (h : chr T n p = x) : p < n ∧ T p = x := (chr_e hT hx).mp h
theorem tk_sign {x : Int} (hp : p < n) (hx : T p = x) (hs : ¬ (48 ≤ x ∧ x ≤ 57) ∧ ¬ (97 ≤ x ∧ x ≤ 122)) : tzS T n p = 3 ∧ (tzV T n p = @ite Int (wdn T n p) (Classical.propDecidable _) (x + 256) x) ∧ (tzN T n p = @ite Nat (wdn T n p) (Classical.propDecidable _) (p + 2) (p + 1)) := by
  have h1 : ¬ isDg (T p) = true := by rw [hx]; simp only [isDg, decide_eq_true_eq]; exact hs.1
  have h2 : ¬ isLt (T p) = true := by rw [hx]; simp only [isLt, decide_eq_true_eq]; exact hs.2
  refine ⟨?_, ?_, ?_⟩
  · unfold tzS
    rw [if_pos hp, if_neg h1, if_neg h2]
  · unfold tzV
    rw [if_pos hp, if_neg h1, if_neg h2, hx]
  · unfold tzN
    rw [if_pos hp, if_neg h1, if_neg h2]
theorem tk_sig1 {x : Int} (hp : p < n) (hx : T p = x) (hs : ¬ (48 ≤ x ∧ x ≤ 57) ∧ ¬ (97 ≤ x ∧ x ≤ 122)) (hw : ¬ x = 60 ∧ ¬ x = 62) : tzS T n p = 3 ∧ tzV T n p = x ∧ tzN T n p = p + 1 := by
  obtain ⟨a, b, e⟩ := tk_sign hp hx hs
  have nw : ¬ wdn T n p := fun z => by
    have := z.1
    rw [hx] at this
    exact this.elim hw.1 hw.2
  rw [if_neg nw] at b e
  exact ⟨a, b, e⟩
/-- what no arithmetic sign is -/
theorem sgH_n (h1 : d.2.1 1 = tzS T n p) (h2 : d.2.1 2 = tzV T n p) (c42 : ¬ chr T n p = 42) (c43 : ¬ chr T n p = 43) (c45 : ¬ chr T n p = 45) (c47 : ¬ chr T n p = 47) (hT : Ty T) : ¬ (sgH d.2.1 = 2 ∨ sgH d.2.1 = 3 ∨ sgH d.2.1 = 4 ∨ sgH d.2.1 = 5) ∧ (¬ chr T n p = 60 → ¬ chr T n p = 61 → ¬ chr T n p = 62 → sgH d.2.1 = -1) := by
  have tb := hT p
  by_cases c3 : d.2.1 1 = 3
  · have c0 : p < n ∧ ¬ isDg (T p) = true ∧ ¬ isLt (T p) = true := by
      rw [h1] at c3
      unfold tzS at c3
      by_cases c0 : p < n
      · rw [if_pos c0] at c3
        by_cases c1 : isDg (T p) = true
        · rw [if_pos c1] at c3; omega
        · rw [if_neg c1] at c3
          by_cases c2 : isLt (T p) = true
          · rw [if_pos c2] at c3; omega
          · exact ⟨c0, c1, c2⟩
      · rw [if_neg c0] at c3; omega
    have e2 : d.2.1 2 = @ite Int (wdn T n p) (Classical.propDecidable _) (T p + 256) (T p) := by
      rw [h2]
      unfold tzV
      rw [if_pos c0.1, if_neg c0.2.1, if_neg c0.2.2]
    have ec : chr T n p = T p % 256 := if_pos c0.1
    rw [ec] at c42 c43 c45 c47 ⊢
    unfold sgH
    rw [if_pos c3]
    by_cases w : wdn T n p
    · rw [if_pos w] at e2
      have w1 := w.1
      rw [e2]
      rcases w1 with w1 | w1
      · rw [w1]
        exact ⟨by decide, fun z => absurd (by decide) z⟩
      · rw [w1]
        exact ⟨by decide, fun _ _ z => absurd (by decide) z⟩
    · rw [if_neg w] at e2
      rw [e2, if_neg (by omega), if_neg (by omega), if_neg (by omega), if_neg (by omega)]
      constructor
      · split
        · decide
        · split
          · decide
          · split
            · decide
            · split
              · decide
              · split <;> decide
      · intro x1 x2 x3
        rw [if_neg (by omega), if_neg (by omega), if_neg (by omega), if_neg (by omega), if_neg (by omega)]
  · unfold sgH
    rw [if_neg c3]
    exact ⟨by decide, fun _ _ _ => rfl⟩
theorem SB.sk (hB : SB T n c σ) : SB T n c (skF T n σ) := by
  refine ⟨hB.1, ?_, ?_, ?_⟩
  · rw [sk_e, Int.toNat_natCast, rn_id]
    exact hB.2.1
  · rw [sk_o (by decide)]
    exact hB.2.2.1
  · rw [sk_o (by decide)]
    exact hB.2.2.2
theorem qOf_set {z : Nat × UQ} : qOf (setU c z) = z.2 := rfl
/-- a sign is put on the pile -/
theorem pil_set {z : Nat × UQ} (h64 : z.1 < 64) : (pilC s (setU c z)).1 9 = ((z.1 + 1 : Nat) : Int) ∧ (pilC s (setU c z)).2.2.2.1 = fu c.2.2.2.1 z.1 s ∧ qOf (pilC s (setU c z)) = z.2 := by
  have e9 : (setU c z).1 9 = (z.1 : Int) := rfl
  have ep : pilC s (setU c z) = wR (wP (setU c z) ((setU c z).1 9).toNat s) 9 ((setU c z).1 9 + 1) := by
    unfold pilC
    rw [if_pos (by rw [e9]; omega)]
  rw [ep, e9, Int.toNat_natCast]
  refine ⟨?_, rfl, rfl⟩
  show (z.1 : Int) + 1 = _
  omega
/-- an arithmetic sign is taken -/
theorem ar_step (hc : CT T n r h c σ) (hr : r = rkI s) (hs : s = 2 ∨ s = 3 ∨ s = 4 ∨ s = 5) (hg : sgH (adv T n c).2.1 = s) (hp : (σ.1 21).toNat < n) (h0 : 0 ≤ σ.1 21) (hq : rn isB T n (σ.1 21).toNat = (σ.1 21).toNat) (hN : tzN T n (σ.1 21).toNat = (σ.1 21).toNat + 1) (h64 : h < 64) : ∃ d, Rc T n c d ∧ CV T n (h + 1) d (adF 1 σ) ∧ AF c d h ∧ d.2.2.2.1 h = s ∧ d.1 4 = c.1 4 := by
  obtain ⟨c3, hB, hL1, hL2⟩ := hc
  have h6 : ¬ c.1 3 = 6 := by omega
  have hP : rn isB T n (c.2.1 5).toNat = (σ.1 21).toNat := by rw [hB.2.1, hq]
  have eT : tkPc (adv T n c) = (true, pilC s (unC (rkI s) (wR (adv T n c) 3 3))) := by
    unfold tkPc
    rw [show (adv T n c).1 3 = 4 from c3]
    show tkE (adv T n c) = _
    unfold tkE
    rw [hg, if_pos hs]
  have hb5 := (rn_b (P := isB) (T := T) (n := n) (p := (c.2.1 5).toNat)).1
  have b4 := hB.1
  have k5 : (tkPc (adv T n c)).2.2.1 5 = (((σ.1 21).toNat + 1 : Nat) : Int) := by rw [(tkP_f (c := adv T n c)).1, adv_5, hP, hN]
  have eu : unC (rkI s) (wR (adv T n c) 3 3) = setU (wR (adv T n c) 3 3) (unA r c.2.2.2.1 (c.1 9).toNat (qOf c)) := by rw [hr]; rfl
  have rc := Rc.st (c := c) (T := T) (n := n) h6 (by rw [eT]) (by omega) (by rw [k5]; omega)
  rw [eT] at k5 rc
  rw [eu] at k5 rc
  generalize unA r c.2.2.2.1 (c.1 9).toNat (qOf c) = z at *
  obtain ⟨p1, p2, p3⟩ := pil_set (c := wR (adv T n c) 3 3) (s := s) (z := z) (by omega)
  have pk := pilC_k (c := setU (wR (adv T n c) 3 3) z) (v := s)
  have po := fun (j : Nat) (hj : j ≠ 9) => pilC_o (c := setU (wR (adv T n c) 3 3) z) (v := s) hj
  refine ⟨_, rc, ⟨?_, ⟨⟨?_, ?_, ?_⟩, ?_, ?_, ?_⟩, ?_, ?_⟩, ⟨?_, pk.2.1, pk.2.2.1, pk.2.2.2.1, pk.2.2.2.2.1, ?_⟩, ?_, ?_⟩
  · rw [po 3 (by decide)]; rfl
  · show (pilC s (setU (wR (adv T n c) 3 3) z)).2.1 4 = _
    rw [pk.1]; exact hB.1.1
  · show 0 ≤ (pilC s (setU (wR (adv T n c) 3 3) z)).2.1 5
    rw [k5]; omega
  · show (pilC s (setU (wR (adv T n c) 3 3) z)).2.1 5 ≤ _
    rw [k5]; omega
  · show rn isB T n ((pilC s (setU (wR (adv T n c) 3 3) z)).2.1 5).toNat = _
    rw [k5, ad_e, show (((σ.1 21).toNat + 1 : Nat) : Int).toNat = (σ.1 21 + 1).toNat by omega]
  · rw [po 5 (by decide), ad_o (by decide)]; exact hB.2.2.1
  · rw [po 2 (by decide), ad_o (by decide)]; exact hB.2.2.2
  · show SE (qOf (pilC s (setU (wR (adv T n c) 3 3) z))) _
    rw [p3]
    exact hL2.cg (ad_o (by decide)) (ad_o (by decide)) (ad_o (by decide)) rfl
  · rw [← hL1]; exact p1
  · rw [po 14 (by decide)]; rfl
  · intro i hi
    show (pilC s (setU (wR (adv T n c) 3 3) z)).2.2.2.1 i = _
    rw [p2]
    exact fu_ne _ _ (by omega)
  · show (pilC s (setU (wR (adv T n c) 3 3) z)).2.2.2.1 h = s
    rw [p2, ← hL1]
    exact fu_eq _ _ _
  · rw [po 4 (by decide)]; rfl
theorem sgH_3 (h1 : d.2.1 1 = 3) : sgH d.2.1 = (if d.2.1 2 = 42 then 4 else if d.2.1 2 = 43 then 2 else if d.2.1 2 = 45 then 3 else if d.2.1 2 = 47 then 5 else if d.2.1 2 = 60 then 6 else if d.2.1 2 = 61 then 8 else if d.2.1 2 = 62 then 10 else if d.2.1 2 = 316 then 7 else if d.2.1 2 = 318 then 9 else -1) := if_pos h1
/-- an arithmetic sign at hand -/
theorem ar_at {x : Int} (hT : Ty T) (hx : (x = 42 ∧ s = 4) ∨ (x = 47 ∧ s = 5) ∨ (x = 43 ∧ s = 2) ∨ (x = 45 ∧ s = 3)) (hch : chr T n p = x) (h1 : d.2.1 1 = tzS T n p) (h2 : d.2.1 2 = tzV T n p) : p < n ∧ sgH d.2.1 = s ∧ tzN T n p = p + 1 := by
  have hc := chr_T (n := n) (p := p) hT (by omega) hch
  obtain ⟨a, b, e⟩ := tk_sig1 hc.1 hc.2 (by omega) (by omega)
  rw [a] at h1
  rw [b] at h2
  refine ⟨hc.1, ?_, e⟩
  rw [sgH_3 h1, h2]
  rcases hx with ⟨rfl, rfl⟩ | ⟨rfl, rfl⟩ | ⟨rfl, rfl⟩ | ⟨rfl, rfl⟩ <;> rfl
theorem SE.po {k : Int} (he : SE q σ) (hz : σ.1 22 = 0) (h23 : 0 ≤ σ.1 23) (h26 : 0 ≤ σ.1 26 ∧ σ.1 26 < 300) (hk : ¬ (k = 0 ∨ k = 1)) (h13 : ¬ sgC k = 13) : SE (poQ (sgC k) q) (enF k 0 σ) := by
  have e := he.en (k := k) (v := 0) hz h23 h26
  unfold poQ
  rw [if_neg h13]
  have ee : enc (σ.1 23) k 0 = sgC k := by
    unfold enc
    rw [if_neg (fun z => hk (Or.inl z)), if_neg (fun z => hk (Or.inr z))]
  rw [ee] at e
  exact e
abbrev GT6 (T : Nat → Int) (n h : Nat) (c : CR) (τ : GS) (r w : Int) (d : CR) : Prop := CT T n r h d τ ∧ AF c d h ∧ d.1 4 = w ∧ rn isB T n (τ.1 21).toNat = (τ.1 21).toNat
theorem sk_q : rn isB T n ((skF T n σ).1 21).toNat = ((skF T n σ).1 21).toNat := by rw [sk_e, Int.toNat_natCast, rn_id]
theorem CT.sk (hc : CT T n r h c σ) : CT T n r h c (skF T n σ) := ⟨hc.1, hc.2.1.sk, hc.2.2.cg (sk_o (by decide)) (sk_o (by decide)) (sk_o (by decide)) rfl⟩
theorem TyR.same (h2 : τ.2 = σ.2) (h26 : τ.1 26 = σ.1 26) (h28 : τ.1 28 = σ.1 28) : TyR σ τ A A := by
  refine ⟨fun a l ha hl => ?_, ?_⟩
  · rw [h2, h26]; exact hl
  · rw [h2, h26, h28]; exact Int.le_refl _
/-- the loop of a term -/
theorem s_teL {c0 : CR} {w : Int} (hT : Ty T) (hn : n ≤ 400) (hD : 1 ≤ D) (hK : 0 ≤ K) (h64 : h < 62) (hb : h = 0 ∨ rkI (c0.2.2.2.1 (h - 1)) < 6) : ∀ (f : Nat) (σ : GS) (c : CR), RI n (K + 3) D σ → σ.1 22 = 0 → n < f + (σ.1 21).toNat → GT6 T n h c0 σ 6 w c → Res T n c σ (teL T n f σ) [false] [false] (fun d => GT6 T n h c0 (teL T n f σ) 6 w d ∧ ¬ chr T n ((teL T n f σ).1 21).toNat = 42 ∧ ¬ chr T n ((teL T n f σ).1 21).toNat = 47) := by
  intro f
  induction f with
  | zero =>
    intro σ c hI hf hm hg
    have := hI.2.1
    omega
  | succ f ih =>
    intro σ c hI hf hm hg
    obtain ⟨hc, hA, hw, hq⟩ := hg
    have hp := hI.2.1
    have hP : rn isB T n (c.2.1 5).toNat = (σ.1 21).toNat := by rw [hc.2.1.2.1, hq]
    have k1 : (adv T n c).2.1 1 = tzS T n (σ.1 21).toNat := by rw [adv_1, hP]
    have k2 : (adv T n c).2.1 2 = tzV T n (σ.1 21).toNat := by rw [adv_2, hP]
    by_cases cc : chr T n (σ.1 21).toNat = 42 ∨ chr T n (σ.1 21).toNat = 47
    · have eL : teL T n (f + 1) σ = teL T n f (skF T n (enF (if chr T n (σ.1 21).toNat = 42 then 13 else 14) 0 (vaF T n (adF 1 σ)))) := if_pos ⟨hf, cc⟩
      rw [eL]
      obtain ⟨k, s, x, hk, hx, hch⟩ : ∃ k s x : Int, ((if chr T n (σ.1 21).toNat = 42 then (13 : Int) else 14) = k ∧ sgC k = s ∧ (k = 13 ∨ k = 14)) ∧ ((x = 42 ∧ s = 4) ∨ (x = 47 ∧ s = 5)) ∧ chr T n (σ.1 21).toNat = x := by
        rcases cc with q | q
        · exact ⟨13, 4, 42, ⟨if_pos q, rfl, Or.inl rfl⟩, Or.inl ⟨rfl, rfl⟩, q⟩
        · exact ⟨14, 5, 47, ⟨if_neg (by omega), rfl, Or.inr rfl⟩, Or.inr ⟨rfl, rfl⟩, q⟩
      rw [hk.1]
      have hs : s = 4 ∨ s = 5 := by omega
      have r6 : rkI s = 6 := by
        rcases hs with rfl | rfl <;> rfl
      obtain ⟨a1, a2, a3⟩ := ar_at (T := T) (n := n) (p := (σ.1 21).toNat) (d := adv T n c) (x := x) (s := s) hT (by omega) hch k1 k2
      obtain ⟨d, d1, d2, d3, d4, d5⟩ := ar_step hc r6.symm (by omega) a2 a1 hp.1 hq a3 (by omega)
      have f22 : (adF 1 σ).1 22 = 0 := by rw [ad_o (by decide)]; exact hf
      have aI := (hI.d0 hf).ad (d := 1) (by decide) (by omega)
      obtain ⟨vI, -⟩ := aI.va (T := T)
      obtain ⟨tI, t2⟩ := hI.tst (T := T) hD hf a1 (k := k)
      have e0 : TyR σ (adF 1 σ) [false] [false] := TyR.same rfl (ad_o (by decide)) (ad_o (by decide))
      have fA : FrS σ (adF 1 σ) := FrS.eq rfl (ad_o (by decide)) (ad_o (by decide))
      have v1 := s_va (c := d) hT hn aI (by omega) f22 d2
      have vt := va_f (T := T) (n := n) (σ := adF 1 σ)
      -- the value, then the entry, then the rest
      have key : Res T n d (adF 1 σ) (teL T n f (skF T n (enF k 0 (vaF T n (adF 1 σ))))) [false] [false] (fun d => GT6 T n h c0 (teL T n f (skF T n (enF k 0 (vaF T n (adF 1 σ))))) 6 w d ∧ ¬ chr T n ((teL T n f (skF T n (enF k 0 (vaF T n (adF 1 σ))))).1 21).toNat = 42 ∧ ¬ chr T n ((teL T n f (skF T n (enF k 0 (vaF T n (adF 1 σ))))).1 21).toNat = 47) := by
        have v2 : Res T n d (adF 1 σ) (vaF T n (adF 1 σ)) [false] [false, false] (fun e => CT T n 7 (h + 1) e (vaF T n (adF 1 σ)) ∧ AF d e (h + 1) ∧ e.1 4 = d.1 4) := ⟨v1.1, v1.2.1, fun z => ⟨(v1.2.2 z).1.wk [false], (v1.2.2 z).2⟩⟩
        generalize vaF T n (adF 1 σ) = σ2 at *
        refine v2.seq (fun z => ?_) (fun e ge z => ?_)
        · have q1 := en_f (k := k) (v := 0) z
          have q2 := q1.tr (sk_f (T := T) (n := n))
          rw [teL_f (q2.nz z)]
          exact q2
        · obtain ⟨g1, g2, g3⟩ := ge
          have w26 : 0 ≤ σ2.1 26 ∧ σ2.1 26 < 300 := by
            have y := vI.2.2.2.2.2 z
            have y2 := vI.2.1
            have y3 := vI.2.2.2.2.1
            omega
          have w23 := vI.1.2.1.1
          have z2 : (enF k 0 σ2).1 22 = 0 := by rw [en_o (by decide)]; exact z
          have z3 : (skF T n (enF k 0 σ2)).1 22 = 0 := by rw [sk_o (by decide)]; exact z2
          have tE : TyR σ2 (enF k 0 σ2) [false, false] [false] := TyR.en z w23 w26 (fun l => by
            unfold tyI
            rcases hk.2.2 with rfl | rfl <;> rfl) (by omega)
          have tS : TyR (enF k 0 σ2) (skF T n (enF k 0 σ2)) [false] [false] := TyR.same rfl (sk_o (by decide)) (sk_o (by decide))
          have fE : FrS σ2 (enF k 0 σ2) := FrS.en (fun _ => w26) w23
          have fS : FrS (enF k 0 σ2) (skF T n (enF k 0 σ2)) := FrS.eq rfl (sk_o (by decide)) (sk_o (by decide))
          have eP : ∀ i, i < h + 1 → e.2.2.2.1 i = d.2.2.2.1 i := g2.2.2.2.2.2
          have eB : ∀ i, i < h → e.2.2.2.1 i = c0.2.2.2.1 i := fun i hi => (eP i (by omega)).trans ((d3.2.2.2.2.2 i hi).trans (hA.2.2.2.2.2 i hi))
          have ct : CT T n 6 h e (enF k 0 σ2) := by
            refine ⟨g1.1, ⟨g1.2.1.1, ?_, ?_, ?_⟩, g1.2.2.pop (by decide) ?_ ?_ ?_⟩
            · rw [en_o (by decide)]; exact g1.2.1.2.1
            · rw [en_o (by decide)]; exact g1.2.1.2.2.1
            · rw [en_o (by decide)]; exact g1.2.1.2.2.2
            · rw [eP h (by omega), d4, r6]; exact Int.le_refl _
            · rcases hb with hb | hb
              · exact Or.inl hb
              · by_cases z0 : h = 0
                · exact Or.inl z0
                · exact Or.inr (by rw [eB _ (by omega)]; exact hb)
            · intro q hq
              rw [eP h (by omega), d4, ← hk.2.1]
              exact hq.po z w23 w26 (by omega) (by rw [hk.2.1]; omega)
          have r1 : Res T n e σ2 (skF T n (enF k 0 σ2)) [false, false] [false] (fun y => GT6 T n h c0 (skF T n (enF k 0 σ2)) 6 w y) := Res.one (fE.tr fS) z3 (tE.tr fE tS) ⟨ct.sk, (hA.tr d3 (Nat.le_refl _)).tr g2 (by omega), by rw [g3, d5, hw], sk_q⟩
          refine r1.seq (fun y => absurd z3 y) (fun e2 ge2 _ => ?_)
          exact ih _ e2 tI z3 (by omega) ge2
      exact Res.rc d1 ((Res.one (c := d) (H := fun y => y = d) fA f22 e0 rfl).seq (fun y => absurd f22 y) (fun e ge _ => by subst ge; exact key))
    · have eL : teL T n (f + 1) σ = σ := if_neg (fun y => cc y.2)
      rw [eL]
      exact Res.one FrS.rf hf TyR.rf ⟨⟨hc, hA, hw, hq⟩, fun z => cc (Or.inl z), fun z => cc (Or.inr z)⟩
theorem s_te {w : Int} (hT : Ty T) (hn : n ≤ 400) (hI : RI n K D σ) (hD : 0 ≤ D) (hK : 0 ≤ K) (hf : σ.1 22 = 0) (h64 : h < 62) (hb : h = 0 ∨ rkI (c.2.2.2.1 (h - 1)) < 6) (hw : c.1 4 = w) (hc : CV T n h c σ) : Res T n c σ (teF T n σ) [] [false] (fun d => GT6 T n h c (teF T n σ) 6 w d ∧ ¬ chr T n ((teF T n σ).1 21).toNat = 42 ∧ ¬ chr T n ((teF T n σ).1 21).toNat = 47) := by
  have v1 := s_va hT hn hI hK hf hc
  obtain ⟨vI, -⟩ := hI.va (T := T)
  unfold teF
  generalize vaF T n σ = σ2 at *
  obtain ⟨sI, -⟩ := vI.sk (T := T)
  refine v1.seq (fun z => ?_) (fun d gd z => ?_)
  · have q := sk_f (T := T) (n := n) (σ := σ2)
    rw [teL_f (q.nz z)]
    exact q
  · obtain ⟨g1, g2, g3⟩ := gd
    have z3 : (skF T n σ2).1 22 = 0 := by rw [sk_o (by decide)]; exact z
    have tS : TyR σ2 (skF T n σ2) [false] [false] := TyR.same rfl (sk_o (by decide)) (sk_o (by decide))
    have fS : FrS σ2 (skF T n σ2) := FrS.eq rfl (sk_o (by decide)) (sk_o (by decide))
    have hbd : h = 0 ∨ rkI (d.2.2.2.1 (h - 1)) < 6 := by
      by_cases z0 : h = 0
      · exact Or.inl z0
      · exact Or.inr (by rw [g2.2.2.2.2.2 _ (by omega)]; exact hb.resolve_left z0)
    have ct : CT T n 6 h d σ2 := ⟨g1.1, g1.2.1, g1.2.2.dn (by decide) hbd⟩
    refine (Res.one (H := fun y => GT6 T n h c (skF T n σ2) 6 w y) fS z3 tS ⟨ct.sk, g2, g3.trans hw, sk_q⟩).seq (fun y => absurd z3 y) (fun e ge _ => ?_)
    have := sI.2.1
    exact s_teL hT hn (by omega) hK h64 hb (n + 1) _ e sI z3 (by omega) ge
/-- the loop of a sum -/
theorem s_suL {c0 : CR} {w : Int} (hT : Ty T) (hn : n ≤ 400) (hD : 1 ≤ D) (hK : 0 ≤ K) (h64 : h < 61) (hb : h = 0 ∨ rkI (c0.2.2.2.1 (h - 1)) < 5) : ∀ (f : Nat) (σ : GS) (c : CR), RI n (K + 3) D σ → σ.1 22 = 0 → n < f + (σ.1 21).toNat → GT6 T n h c0 σ 5 w c → (¬ chr T n (σ.1 21).toNat = 42 ∧ ¬ chr T n (σ.1 21).toNat = 47) → Res T n c σ (suL T n f σ) [false] [false] (fun d => GT6 T n h c0 (suL T n f σ) 5 w d ∧ (¬ chr T n ((suL T n f σ).1 21).toNat = 42 ∧ ¬ chr T n ((suL T n f σ).1 21).toNat = 47) ∧ ¬ chr T n ((suL T n f σ).1 21).toNat = 43 ∧ ¬ chr T n ((suL T n f σ).1 21).toNat = 45) := by
  intro f
  induction f with
  | zero =>
    intro σ c hI hf hm hg hx
    have := hI.2.1
    omega
  | succ f ih =>
    intro σ c hI hf hm hg hx0
    obtain ⟨hc, hA, hw, hq⟩ := hg
    have hp := hI.2.1
    have hP : rn isB T n (c.2.1 5).toNat = (σ.1 21).toNat := by rw [hc.2.1.2.1, hq]
    have k1 : (adv T n c).2.1 1 = tzS T n (σ.1 21).toNat := by rw [adv_1, hP]
    have k2 : (adv T n c).2.1 2 = tzV T n (σ.1 21).toNat := by rw [adv_2, hP]
    by_cases cc : chr T n (σ.1 21).toNat = 43 ∨ chr T n (σ.1 21).toNat = 45
    · have eL : suL T n (f + 1) σ = suL T n f (enF (if chr T n (σ.1 21).toNat = 43 then 2 else 3) 0 (teF T n (adF 1 σ))) := if_pos ⟨hf, cc⟩
      rw [eL]
      obtain ⟨k, s, x, hk, hx, hch⟩ : ∃ k s x : Int, ((if chr T n (σ.1 21).toNat = 43 then (2 : Int) else 3) = k ∧ sgC k = s ∧ (k = 2 ∨ k = 3)) ∧ ((x = 43 ∧ s = 2) ∨ (x = 45 ∧ s = 3)) ∧ chr T n (σ.1 21).toNat = x := by
        rcases cc with q | q
        · exact ⟨2, 2, 43, ⟨if_pos q, rfl, Or.inl rfl⟩, Or.inl ⟨rfl, rfl⟩, q⟩
        · exact ⟨3, 3, 45, ⟨if_neg (by omega), rfl, Or.inr rfl⟩, Or.inr ⟨rfl, rfl⟩, q⟩
      rw [hk.1]
      have hs : s = 2 ∨ s = 3 := by omega
      have r5 : rkI s = 5 := by
        rcases hs with rfl | rfl <;> rfl
      obtain ⟨a1, a2, a3⟩ := ar_at (T := T) (n := n) (p := (σ.1 21).toNat) (d := adv T n c) (x := x) (s := s) hT (by omega) hch k1 k2
      obtain ⟨d, d1, d2, d3, d4, d5⟩ := ar_step hc r5.symm (by omega) a2 a1 hp.1 hq a3 (by omega)
      have f22 : (adF 1 σ).1 22 = 0 := by rw [ad_o (by decide)]; exact hf
      have aI := (hI.d0 hf).ad (d := 1) (by decide) (by omega)
      obtain ⟨vI, -⟩ := aI.te (T := T) (by decide)
      obtain ⟨tI, t2⟩ := hI.sst (T := T) hD hf a1 (k := k)
      have e0 : TyR σ (adF 1 σ) [false] [false] := TyR.same rfl (ad_o (by decide)) (ad_o (by decide))
      have fA : FrS σ (adF 1 σ) := FrS.eq rfl (ad_o (by decide)) (ad_o (by decide))
      have v1 := s_te (c := d) (h := h + 1) hT hn aI (by decide) (by omega) f22 (by omega) (Or.inr (by rw [Nat.add_sub_cancel, d4, r5]; decide)) (d5.trans hw) d2
      have key : Res T n d (adF 1 σ) (suL T n f (enF k 0 (teF T n (adF 1 σ)))) [false] [false] (fun d => GT6 T n h c0 (suL T n f (enF k 0 (teF T n (adF 1 σ)))) 5 w d ∧ (¬ chr T n ((suL T n f (enF k 0 (teF T n (adF 1 σ)))).1 21).toNat = 42 ∧ ¬ chr T n ((suL T n f (enF k 0 (teF T n (adF 1 σ)))).1 21).toNat = 47) ∧ ¬ chr T n ((suL T n f (enF k 0 (teF T n (adF 1 σ)))).1 21).toNat = 43 ∧ ¬ chr T n ((suL T n f (enF k 0 (teF T n (adF 1 σ)))).1 21).toNat = 45) := by
        have v2 : Res T n d (adF 1 σ) (teF T n (adF 1 σ)) [false] [false, false] (fun e => GT6 T n (h + 1) d (teF T n (adF 1 σ)) 6 w e ∧ ¬ chr T n ((teF T n (adF 1 σ)).1 21).toNat = 42 ∧ ¬ chr T n ((teF T n (adF 1 σ)).1 21).toNat = 47) := ⟨v1.1, v1.2.1, fun z => ⟨(v1.2.2 z).1.wk [false], (v1.2.2 z).2⟩⟩
        generalize teF T n (adF 1 σ) = σ2 at *
        refine v2.seq (fun z => ?_) (fun e ge z => ?_)
        · have q1 := en_f (k := k) (v := 0) z
          rw [suL_f (q1.nz z)]
          exact q1
        · obtain ⟨⟨g1, g2, g3, g4⟩, g5⟩ := ge
          have w26 : 0 ≤ σ2.1 26 ∧ σ2.1 26 < 300 := by
            have y := vI.2.2.2.2.2 z
            have y2 := vI.2.1
            have y3 := vI.2.2.2.2.1
            omega
          have w23 := vI.1.2.1.1
          have z2 : (enF k 0 σ2).1 22 = 0 := by rw [en_o (by decide)]; exact z
          have tE : TyR σ2 (enF k 0 σ2) [false, false] [false] := TyR.en z w23 w26 (fun l => by
            unfold tyI
            rcases hk.2.2 with rfl | rfl <;> rfl) (by omega)
          have fE : FrS σ2 (enF k 0 σ2) := FrS.en (fun _ => w26) w23
          have eP : ∀ i, i < h + 1 → e.2.2.2.1 i = d.2.2.2.1 i := g2.2.2.2.2.2
          have eB : ∀ i, i < h → e.2.2.2.1 i = c0.2.2.2.1 i := fun i hi => (eP i (by omega)).trans ((d3.2.2.2.2.2 i hi).trans (hA.2.2.2.2.2 i hi))
          have ct : CT T n 5 h e (enF k 0 σ2) := by
            refine ⟨g1.1, ⟨g1.2.1.1, ?_, ?_, ?_⟩, g1.2.2.pop (by decide) ?_ ?_ ?_⟩
            · rw [en_o (by decide)]; exact g1.2.1.2.1
            · rw [en_o (by decide)]; exact g1.2.1.2.2.1
            · rw [en_o (by decide)]; exact g1.2.1.2.2.2
            · rw [eP h (by omega), d4, r5]; exact Int.le_refl _
            · rcases hb with hb | hb
              · exact Or.inl hb
              · by_cases z0 : h = 0
                · exact Or.inl z0
                · exact Or.inr (by rw [eB _ (by omega)]; exact hb)
            · intro q hq
              rw [eP h (by omega), d4, ← hk.2.1]
              exact hq.po z w23 w26 (by omega) (by rw [hk.2.1]; omega)
          have e21 : (enF k 0 σ2).1 21 = σ2.1 21 := en_o (by decide)
          have r1 : Res T n e σ2 (enF k 0 σ2) [false, false] [false] (fun y => GT6 T n h c0 (enF k 0 σ2) 5 w y) := Res.one fE z2 tE ⟨ct, (hA.tr d3 (Nat.le_refl _)).tr g2 (by omega), g3, by rw [e21]; exact g4⟩
          refine r1.seq (fun y => absurd z2 y) (fun e2 ge2 _ => ?_)
          exact ih _ e2 tI z2 (by omega) ge2 (by rw [e21]; exact g5)
      exact Res.rc d1 ((Res.one (c := d) (H := fun y => y = d) fA f22 e0 rfl).seq (fun y => absurd f22 y) (fun e ge _ => by subst ge; exact key))
    · have eL : suL T n (f + 1) σ = σ := if_neg (fun y => cc y.2)
      rw [eL]
      exact Res.one FrS.rf hf TyR.rf ⟨⟨hc, hA, hw, hq⟩, hx0, fun z => cc (Or.inl z), fun z => cc (Or.inr z)⟩
/-- no arithmetic sign at hand -/
abbrev NAr (T : Nat → Int) (n : Nat) (σ : GS) : Prop := (¬ chr T n (σ.1 21).toNat = 42 ∧ ¬ chr T n (σ.1 21).toNat = 47) ∧ ¬ chr T n (σ.1 21).toNat = 43 ∧ ¬ chr T n (σ.1 21).toNat = 45
theorem s_su {w : Int} (hT : Ty T) (hn : n ≤ 400) (hI : RI n K D σ) (hD : 0 ≤ D) (hK : 0 ≤ K) (hf : σ.1 22 = 0) (h64 : h < 61) (hb : h = 0 ∨ rkI (c.2.2.2.1 (h - 1)) < 5) (hw : c.1 4 = w) (hc : CV T n h c σ) : Res T n c σ (suF T n σ) [] [false] (fun d => GT6 T n h c (suF T n σ) 5 w d ∧ NAr T n (suF T n σ)) := by
  have v1 := s_te hT hn hI hD hK hf (by omega) (by omega) hw hc
  obtain ⟨vI, -⟩ := hI.te (T := T) hD
  unfold suF
  generalize teF T n σ = σ2 at *
  refine v1.seq (fun z => ?_) (fun d gd z => ?_)
  · rw [suL_f z]
    exact FS.rf
  · obtain ⟨⟨g1, g2, g3, g4⟩, g5⟩ := gd
    have hbd : h = 0 ∨ rkI (d.2.2.2.1 (h - 1)) < 5 := by
      by_cases z0 : h = 0
      · exact Or.inl z0
      · exact Or.inr (by rw [g2.2.2.2.2.2 _ (by omega)]; exact hb.resolve_left z0)
    have ct : CT T n 5 h d σ2 := ⟨g1.1, g1.2.1, g1.2.2.dn (by decide) hbd⟩
    have := vI.2.1
    exact s_suL hT hn (by omega) hK h64 hb (n + 1) _ d vI z (by omega) ⟨ct, g2, g3, g4⟩ g5
end SUS
