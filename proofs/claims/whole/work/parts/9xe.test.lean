-- CLASS AND REFERENCE READ ALIKE: a test
/-- a fact is due -/
def TFc (T : Nat → Int) (n : Nat) (c : CR) (x : GT) : Prop := CF T n (hgt x) c x.1 ∧ PO c x ∧ x.1.1 27 ≤ 10
/-- what stands behind a fact, or a comparison's right side -/
def St5 (T : Nat → Int) (n : Nat) (c : CR) (σ : GS) : Prop := c.1 3 = 5 ∨ (c.1 3 = 4 ∧ c.1 4 = 2 ∧ NAr T n (skF T n σ))
def TBc (T : Nat → Int) (n : Nat) (c : CR) (x : GT) : Prop := St5 T n c x.1 ∧ SB T n c x.1 ∧ LT 4 c (hgt x) x.1 ∧ PO c x ∧ x.1.1 27 ≤ 10
/-- a test is read -/
def TZc (T : Nat → Int) (n : Nat) (c0 c : CR) (y : GT) : Prop := (St5 T n c y.1 ∧ SB T n c y.1 ∧ LT 1 c 0 y.1 ∧ rn isB T n (y.1.1 21).toNat = (y.1.1 21).toNat ∧ ¬ tsP T n y) ∧ AF c0 c 0 ∧ (0 ≤ y.1.1 27 ∧ y.1.1 27 ≤ 10)
section TST
variable {T : Nat → Int} {n h p i j : Nat} {c d c0 : CR} {σ τ ρ : GS} {x y : GT} {s v r K D : Int} {A B C : List Bool} {q : UQ} {o pl : Nat → Int}
theorem tesL_f (hz : ¬ x.1.1 22 = 0) : ∀ (f : Nat) (b : Bool), tesL T n f b x = x
  | 0, _ => rfl
  | f + 1, b => by
    unfold tesL
    rw [if_neg hz]
/-- what stands there, when a fact is behind -/
theorem st5_p (hT : Ty T) (hs : St5 T n c σ) (hB : SB T n c σ) : tkPc (adv T n c) = tkB (adv T n c) := by
  rcases hs with h5 | ⟨h4, hw, hN⟩
  · unfold tkPc
    rw [show (adv T n c).1 3 = 5 from h5]
    rfl
  · have e21 : ((skF T n σ).1 21).toNat = rn isB T n (σ.1 21).toNat := by rw [sk_e, Int.toNat_natCast]
    have hP : rn isB T n (c.2.1 5).toNat = ((skF T n σ).1 21).toNat := by rw [e21]; exact hB.2.1
    obtain ⟨na, -⟩ := sgH_n (d := adv T n c) (T := T) (n := n) (p := ((skF T n σ).1 21).toNat) (by rw [adv_1, hP]) (by rw [adv_2, hP]) hN.1.1 hN.2.1 hN.2.2 hN.1.2 hT
    unfold tkPc
    rw [show (adv T n c).1 3 = 4 from h4]
    show tkE (adv T n c) = _
    unfold tkE
    rw [if_neg na, show (adv T n c).1 4 = 2 from hw]
    rfl
/-- an op is put on the pile in both -/
theorem push_s {k dl : Int} (hk : k = 9 ∨ k = 10 ∨ k = 11 ∨ k = 12) (h10 : k = 10 → hgt x = 0 ∨ x.2 (hgt x - 1) = 11 ∨ x.2 (hgt x - 1) = 12) (h11 : k = 11 → hgt x = 0 ∨ x.2 (hgt x - 1) = 12) (h0 : 0 ≤ x.1.1 29) (hw : Wfo x.2 (hgt x)) (hp : ∀ i, i < hgt x → pl i = sgC (x.2 i)) (d3 : d.1 3 = 2) (dK : d.2.1 4 = (n : Int)) (d5 : d.2.1 5 = x.1.1 21 + dl ∧ 0 ≤ x.1.1 21 + dl ∧ x.1.1 21 + dl ≤ (n : Int)) (dt : d.1 5 = x.1.1 28) (dw : d.1 2 = (if x.1.1 23 < 8 then 0 else 1)) (dE : SE (qOf d) y.1) (d9 : d.1 9 = ((hgt x + 1 : Nat) : Int)) (dP : d.2.2.2.1 = fu pl (hgt x) (sgC k)) (y29 : y.1.1 29 = x.1.1 29 + 1) (y2 : y.2 = fu x.2 (hgt x) k) (y21 : y.1.1 21 = x.1.1 21 + dl) (y28 : y.1.1 28 = x.1.1 28) (y23 : y.1.1 23 = x.1.1 23) (y27 : y.1.1 27 ≤ 10) : TFc T n d y := by
  have hy : hgt y = hgt x + 1 := by unfold hgt; omega
  refine ⟨⟨d3, ⟨⟨dK, by omega, by omega⟩, by rw [d5.1, y21], by rw [dt, y28], by rw [dw, y23]⟩, dE, by rw [d9, hy]⟩, ⟨?_, ?_⟩, y27⟩
  · rw [hy, y2]
    intro i hi
    by_cases c1 : i = hgt x
    · subst c1
      rw [fu_eq]
      refine ⟨hk, fun q => ?_, fun q => ?_⟩
      · rcases h10 q with z | z | z
        · exact Or.inl z
        · by_cases z0 : hgt x = 0
          · exact Or.inl z0
          · exact Or.inr (Or.inl (by rw [fu_ne _ _ (by omega)]; exact z))
        · by_cases z0 : hgt x = 0
          · exact Or.inl z0
          · exact Or.inr (Or.inr (by rw [fu_ne _ _ (by omega)]; exact z))
      · rcases h11 q with z | z
        · exact Or.inl z
        · by_cases z0 : hgt x = 0
          · exact Or.inl z0
          · exact Or.inr (by rw [fu_ne _ _ (by omega)]; exact z)
    · rw [fu_ne _ _ c1, fu_ne _ _ (by omega)]
      exact hw i (by omega)
  · intro i hi
    rw [hy] at hi
    rw [dP, y2, fu_3, fu_3]
    by_cases c1 : i = hgt x
    · rw [if_pos c1, if_pos c1]
    · rw [if_neg c1, if_neg c1]
      exact hp i (by omega)
theorem stP_N (hi : i < 30) (hs : stP T n p i) : tzN T n p = p + (wd i).length ∧ p < n ∧ p + (wd i).length ≤ n := by
  have sl := stP_l hi hs
  have hg : ¬ isDg (T p) = true := fun z => by
    have a := sl.2
    simp only [isDg, isLt, decide_eq_true_eq] at z a
    omega
  have eN : tzN T n p = rn isLt T n p := by unfold tzN; rw [if_pos sl.1, if_neg hg, if_pos sl.2]
  have b := rn_b (P := isLt) (T := T) (n := n) (p := p)
  have := b.2 (by omega)
  have := hs.1
  rw [eN]
  exact ⟨by omega, sl.1, by omega⟩
theorem opD_9 {k pl : Int} (hk : k = 9 ∨ k = 12) : opD k pl σ = (fu (if σ.1 27 = 10 then flF 2 pl σ else σ).1 27 (σ.1 27 + 1), σ.2) := if_pos hk
/-- not, or a bracket, is read -/
theorem nb_step {k s dl : Int} {x : GT} {f : Nat} (hk : (k = 9 ∧ s = 13) ∨ (k = 12 ∧ s = 14)) (hT : Ty T) (hn : n ≤ 400) (hK : 0 ≤ K) (hr : RA n K 0 x) (hz : x.1.1 22 = 0) (hc : TFc T n c x) (hA : AF c0 c 0) (hq : rn isB T n (x.1.1 21).toNat = (x.1.1 21).toNat) (ht : tkPc (adv T n c) = if 10 ≤ c.1 10 then (false, wR (adv T n c) 0 2) else (true, pilC s (wR (adv T n c) 10 (c.1 10 + 1)))) (hN : ((tzN T n (x.1.1 21).toNat : Nat) : Int) = x.1.1 21 + dl) (hp : (x.1.1 21).toNat < n) (hd : 1 ≤ dl) {G : CR → Prop} (next : ∀ d, TFc T n d (adX dl (opF k x)) → AF c0 d 0 → (adX dl (opF k x)).1.1 22 = 0 → Res T n d (adX dl (opF k x)).1 (tesL T n f true (adX dl (opF k x))).1 (tr (bnN (adX dl (opF k x)).2 (hgt (adX dl (opF k x))))) [true] G) : Res T n c x.1 (tesL T n f true (adX dl (opF k x))).1 (tr (bnN x.2 (hgt x))) [true] G := by
  obtain ⟨⟨c3, hB, hE, c9⟩, ⟨hw, hpp⟩, h10⟩ := hc
  have hP : rn isB T n (c.2.1 5).toNat = (x.1.1 21).toNat := by rw [hB.2.1, hq]
  have hp1 := hr.1.2.1
  have h29 := hr.2.1
  have e10 : c.1 10 = x.1.1 27 := hE.2.1
  have b4 := hB.1
  have hh := hgt_b hw hr h10
  have kk : k = 9 ∨ k = 12 := by omega
  have s14 : sgC k = s := by rcases hk with ⟨rfl, rfl⟩ | ⟨rfl, rfl⟩ <;> rfl
  have hN2 := tkN_b (T := T) (n := n) (p := (x.1.1 21).toNat) (by omega)
  have hb5 := (rn_b (P := isB) (T := T) (n := n) (p := (c.2.1 5).toNat)).1
  have eO : opD k (x.1.1 21) x.1 = (fu (if x.1.1 27 = 10 then flF 2 (x.1.1 21) x.1 else x.1).1 27 (x.1.1 27 + 1), x.1.2) := opD_9 kk
  have o22 : (adX dl (opF k x)).1.1 22 = (if x.1.1 27 = 10 then flF 2 (x.1.1 21) x.1 else x.1).1 22 := by
    show (adF dl (opF k x).1).1 22 = _
    rw [ad_o (by decide)]
    show fu (opD k (x.1.1 21) x.1).1 29 (x.1.1 29 + 1) 22 = _
    rw [fu_ne _ _ (by decide), eO]
    show fu (if x.1.1 27 = 10 then flF 2 (x.1.1 21) x.1 else x.1).1 27 (x.1.1 27 + 1) 22 = _
    rw [fu_ne _ _ (by decide)]
  have oo : ∀ j, j ≠ 21 → j ≠ 22 → j ≠ 27 → j ≠ 29 → (adX dl (opF k x)).1.1 j = x.1.1 j := fun j a b e g => by
    show (adF dl (opF k x).1).1 j = _
    rw [ad_o a]
    show fu (opD k (x.1.1 21) x.1).1 29 (x.1.1 29 + 1) j = _
    rw [fu_ne _ _ g, opD_o b e]
  have o21 : (adX dl (opF k x)).1.1 21 = x.1.1 21 + dl := by
    show (adF dl (opF k x).1).1 21 = _
    rw [ad_e]
    show fu (opD k (x.1.1 21) x.1).1 29 (x.1.1 29 + 1) 21 + dl = _
    rw [fu_ne _ _ (by decide), opD_o (by decide) (by decide)]
  have o29 : (adX dl (opF k x)).1.1 29 = x.1.1 29 + 1 := by
    show (adF dl (opF k x).1).1 29 = _
    rw [ad_o (by decide)]
    show fu (opD k (x.1.1 21) x.1).1 29 (x.1.1 29 + 1) 29 = _
    exact fu_eq _ _ _
  have o27 : (adX dl (opF k x)).1.1 27 = x.1.1 27 + 1 := by
    show (adF dl (opF k x).1).1 27 = _
    rw [ad_o (by decide)]
    show fu (opD k (x.1.1 21) x.1).1 29 (x.1.1 29 + 1) 27 = _
    rw [fu_ne _ _ (by decide), opD_7, if_pos kk]
  have o2 : (adX dl (opF k x)).2 = fu x.2 (hgt x) k := rfl
  have o12 : (adX dl (opF k x)).1.2 = x.1.2 := rfl
  have fr : FrS x.1 (adX dl (opF k x)).1 := FrS.eq o12 (oo 26 (by decide) (by decide) (by decide) (by decide)) (oo 23 (by decide) (by decide) (by decide) (by decide))
  by_cases c10 : x.1.1 27 = 10
  · rw [if_pos c10, fl_e, if_pos hz] at o22
    rw [if_pos (by omega)] at ht
    have nz : ¬ (adX dl (opF k x)).1.1 22 = 0 := by rw [o22]; omega
    rw [tesL_f nz]
    refine ⟨fr, fun _ => FtC.st (by omega) (by rw [ht]) (by omega) ?_, fun z => absurd z nz⟩
    rw [ht, hP, o22]
    show 2 + (1 + 8 * (((x.1.1 21).toNat : Nat) : Int)) = _
    omega
  · rw [if_neg c10] at o22
    rw [if_neg (by omega)] at ht
    have z2 : (adX dl (opF k x)).1.1 22 = 0 := by rw [o22]; exact hz
    have k5 : (tkPc (adv T n c)).2.2.1 5 = x.1.1 21 + dl := by rw [(tkP_f (c := adv T n c)).1, adv_5, hP, hN]
    have rc := Rc.st (c := c) (T := T) (n := n) (by omega) (by rw [ht]) (by omega) (by rw [k5]; omega)
    rw [ht] at rc k5
    have e9 : (wR (adv T n c) 10 (c.1 10 + 1)).1 9 = c.1 9 := rfl
    have ep : pilC s (wR (adv T n c) 10 (c.1 10 + 1)) = wR (wP (wR (adv T n c) 10 (c.1 10 + 1)) (c.1 9).toNat s) 9 (c.1 9 + 1) := by
      unfold pilC
      rw [if_pos (by rw [e9]; omega), e9]
    have e9h : (c.1 9).toNat = hgt x := by rw [c9, Int.toNat_natCast]
    rw [ep, e9h] at rc k5
    have tS : TyR x.1 (adX dl (opF k x)).1 (tr (bnN x.2 (hgt x))) (tr (bnN x.2 (hgt x))) := TyR.same o12 (oo 26 (by decide) (by decide) (by decide) (by decide)) (oo 28 (by decide) (by decide) (by decide) (by decide))
    have hgy : hgt (adX dl (opF k x)) = hgt x + 1 := by unfold hgt; omega
    have eb : bnN (adX dl (opF k x)).2 (hgt (adX dl (opF k x))) = bnN x.2 (hgt x) := by
      rw [hgy, o2]
      show bnN (fu x.2 (hgt x) k) (hgt x) + (if fu x.2 (hgt x) k (hgt x) = 10 ∨ fu x.2 (hgt x) k (hgt x) = 11 then 1 else 0) = _
      rw [fu_eq, if_neg (by omega), bnN_u _ (Nat.le_refl _)]
      omega
    have tf : TFc T n (wR (wP (wR (adv T n c) 10 (c.1 10 + 1)) (hgt x) s) 9 (c.1 9 + 1)) (adX dl (opF k x)) := by
      refine push_s (x := x) (k := k) (dl := dl) (pl := c.2.2.2.1) (by omega) (fun q => by omega) (fun q => by omega) h29.1 hw hpp ?_ ?_ ?_ ?_ ?_ ?_ ?_ ?_ o29 o2 o21 (oo 28 (by decide) (by decide) (by decide) (by decide)) (oo 23 (by decide) (by decide) (by decide) (by decide)) (by omega)
      · exact c3
      · exact hB.1.1
      · exact ⟨k5, by omega, by omega⟩
      · exact hB.2.2.1
      · exact hB.2.2.2
      · refine ⟨hE.1.trans (oo 26 (by decide) (by decide) (by decide) (by decide)).symm, ?_, fun i hi => ?_⟩
        · show c.1 10 + 1 = _
          rw [o27, e10]
        · rw [oo 26 (by decide) (by decide) (by decide) (by decide)] at hi
          have g := hE.2.2 i hi
          unfold slB at g ⊢
          rw [oo 23 (by decide) (by decide) (by decide) (by decide), o12]
          exact g
      · show c.1 9 + 1 = _
        rw [c9]
        omega
      · rw [s14]
        rfl
    have nx := next _ tf ⟨hA.1, hA.2.1, hA.2.2.1, hA.2.2.2.1, hA.2.2.2.2.1, fun i hi => absurd hi (Nat.not_lt_zero i)⟩ z2
    rw [eb] at nx
    exact Res.rc rc ((Res.one (H := fun d => d = wR (wP (wR (adv T n c) 10 (c.1 10 + 1)) (hgt x) s) 9 (c.1 9 + 1)) fr z2 tS rfl).seq (fun z => absurd z2 z) (fun d hd _ => by subst hd; exact nx))
end TST
