-- CLASS AND REFERENCE READ ALIKE: a test, whole
section TSU
variable {T : Nat → Int} {n h p i j : Nat} {c d c0 : CR} {σ τ ρ : GS} {x y : GT} {s v r K D : Int} {A B C : List Bool} {q : UQ} {o pl : Nat → Int}
theorem Res.wk {G : CR → Prop} (L : List Bool) (h : Res T n c σ τ A B G) : Res T n c σ τ (A ++ L) (B ++ L) G := ⟨h.1, h.2.1, fun z => ⟨(h.2.2 z).1.wk L, (h.2.2 z).2⟩⟩
theorem AF.z (h14 : d.1 14 = c.1 14) (hI : d.2.2.2.2.1 = c.2.2.2.2.1) (hM : d.2.2.2.2.2.1 = c.2.2.2.2.2.1) (hE : d.2.2.2.2.2.2.1 = c.2.2.2.2.2.2.1) (hS : d.2.2.2.2.2.2.2 = c.2.2.2.2.2.2.2) : AF c d 0 := ⟨h14, hI, hM, hE, hS, fun i hi => absurd hi (Nat.not_lt_zero i)⟩
/-- and, or are taken -/
theorem ao_step {k dl : Int} (hk : (k = 10 ∧ s = 11 ∧ r = 2 ∧ dl = 3) ∨ (k = 11 ∧ s = 12 ∧ r = 1 ∧ dl = 2)) (hA : AF c0 c 0) (hB : SB T n c x.1) (c6 : ¬ c.1 3 = 6) (ht : tkPc (adv T n c) = (true, pilC s (unC r (wR (adv T n c) 3 2)))) (hL : LT r c (hgt y) y.1) (h0 : 0 ≤ y.1.1 29) (hw : Wfo y.2 (hgt y)) (hp : ∀ i, i < hgt y → c.2.2.2.1 i = sgC (y.2 i)) (hg : hgt y = 0 ∨ k < y.2 (hgt y - 1)) (hh : hgt y < 60) (e21 : y.1.1 21 = ((rn isB T n (x.1.1 21).toNat : Nat) : Int)) (e28 : y.1.1 28 = x.1.1 28) (e23 : y.1.1 23 = x.1.1 23) (e27 : y.1.1 27 ≤ 10) (hN : ((tzN T n (rn isB T n (x.1.1 21).toNat) : Nat) : Int) = y.1.1 21 + dl) (hN2 : tzN T n (rn isB T n (x.1.1 21).toNat) ≤ n) : ∃ d, Rc T n c d ∧ TFc T n d (adX dl (opF k y)) ∧ AF c0 d 0 ∧ FrS y.1 (adX dl (opF k y)).1 ∧ TyR y.1 (adX dl (opF k y)).1 (tr (bnN y.2 (hgt y) + 1)) (tr (bnN (adX dl (opF k y)).2 (hgt (adX dl (opF k y))))) ∧ (adX dl (opF k y)).1.1 22 = y.1.1 22 := by
  have b4 := hB.1
  have hP : rn isB T n (c.2.1 5).toNat = rn isB T n (x.1.1 21).toNat := hB.2.1
  have hb5 := (rn_b (P := isB) (T := T) (n := n) (p := (c.2.1 5).toNat)).1
  have eu : unC r (wR (adv T n c) 3 2) = setU (wR (adv T n c) 3 2) (unA r c.2.2.2.1 (c.1 9).toNat (qOf c)) := rfl
  have k5 : (tkPc (adv T n c)).2.2.1 5 = y.1.1 21 + dl := by rw [(tkP_f (c := adv T n c)).1, adv_5, hP, hN]
  have rc := Rc.st (c := c) (T := T) (n := n) c6 (by rw [ht]) (by omega) (by rw [k5]; omega)
  rw [ht] at k5 rc
  rw [eu] at k5 rc
  obtain ⟨hL1, hL2⟩ := hL
  generalize unA r c.2.2.2.1 (c.1 9).toNat (qOf c) = z at *
  obtain ⟨p1, p2, p3⟩ := pil_set (c := wR (adv T n c) 3 2) (s := s) (z := z) (by omega)
  have pk := pilC_k (c := setU (wR (adv T n c) 3 2) z) (v := s)
  have po := fun (j : Nat) (hj : j ≠ 9) => pilC_o (c := setU (wR (adv T n c) 3 2) z) (v := s) hj
  have nk : ¬ (k = 9 ∨ k = 12) := by omega
  have eO : opD k (y.1.1 21) y.1 = y.1 := if_neg nk
  have s14 : sgC k = s := by rcases hk with ⟨rfl, rfl, -, -⟩ | ⟨rfl, rfl, -, -⟩ <;> rfl
  have oo : ∀ j, j ≠ 21 → j ≠ 29 → (adX dl (opF k y)).1.1 j = y.1.1 j := fun j a g => by
    show (adF dl (opF k y).1).1 j = _
    rw [ad_o a]
    show fu (opD k (y.1.1 21) y.1).1 29 (y.1.1 29 + 1) j = _
    rw [fu_ne _ _ g, eO]
  have o21 : (adX dl (opF k y)).1.1 21 = y.1.1 21 + dl := by
    show (adF dl (opF k y).1).1 21 = _
    rw [ad_e]
    show fu (opD k (y.1.1 21) y.1).1 29 (y.1.1 29 + 1) 21 + dl = _
    rw [fu_ne _ _ (by decide), eO]
  have o29 : (adX dl (opF k y)).1.1 29 = y.1.1 29 + 1 := by
    show (adF dl (opF k y).1).1 29 = _
    rw [ad_o (by decide)]
    show fu (opD k (y.1.1 21) y.1).1 29 (y.1.1 29 + 1) 29 = _
    exact fu_eq _ _ _
  have o2 : (adX dl (opF k y)).2 = fu y.2 (hgt y) k := rfl
  have o12 : (adX dl (opF k y)).1.2 = y.1.2 := rfl
  have hgy : hgt (adX dl (opF k y)) = hgt y + 1 := by unfold hgt; omega
  have eb : bnN (adX dl (opF k y)).2 (hgt (adX dl (opF k y))) = bnN y.2 (hgt y) + 1 := by
    rw [hgy, o2]
    show bnN (fu y.2 (hgt y) k) (hgt y) + (if fu y.2 (hgt y) k (hgt y) = 10 ∨ fu y.2 (hgt y) k (hgt y) = 11 then 1 else 0) = _
    rw [fu_eq, if_pos (by omega), bnN_u _ (Nat.le_refl _)]
  refine ⟨_, rc, push_s (x := y) (k := k) (dl := dl) (pl := c.2.2.2.1) (by omega) (fun q => ?_) (fun q => ?_) h0 hw hp ?_ ?_ ?_ ?_ ?_ ?_ ?_ ?_ o29 o2 o21 (oo 28 (by decide) (by decide)) (oo 23 (by decide) (by decide)) (by rw [oo 27 (by decide) (by decide)]; exact e27), ?_, FrS.eq o12 (oo 26 (by decide) (by decide)) (oo 23 (by decide) (by decide)), ?_, oo 22 (by decide) (by decide)⟩
  · rcases hg with g | g
    · exact Or.inl g
    · by_cases g0 : hgt y = 0
      · exact Or.inl g0
      · have := (hw (hgt y - 1) (by omega)).1
        exact Or.inr (by omega)
  · rcases hg with g | g
    · exact Or.inl g
    · by_cases g0 : hgt y = 0
      · exact Or.inl g0
      · have := (hw (hgt y - 1) (by omega)).1
        exact Or.inr (by omega)
  · rw [po 3 (by decide)]; rfl
  · show (pilC s (setU (wR (adv T n c) 3 2) z)).2.1 4 = _
    rw [pk.1]; exact hB.1.1
  · exact ⟨k5, by omega, by omega⟩
  · rw [po 5 (by decide), e28]; exact hB.2.2.1
  · rw [po 2 (by decide), e23]; exact hB.2.2.2
  · rw [p3]
    exact hL2.cg (oo 26 (by decide) (by decide)) (oo 27 (by decide) (by decide)) (oo 23 (by decide) (by decide)) o12
  · rw [← hL1]; exact p1
  · rw [p2, ← hL1, s14]
    rfl
  · exact hA.tr (AF.z (by rw [po 14 (by decide)]; rfl) pk.2.1 pk.2.2.1 pk.2.2.2.1 pk.2.2.2.2.1) (Nat.le_refl _)
  · rw [eb]
    exact TyR.same o12 (oo 26 (by decide) (by decide)) (oo 28 (by decide) (by decide))
theorem St5.cg (hs : St5 T n c σ) (h : rn isB T n (τ.1 21).toNat = rn isB T n (σ.1 21).toNat) : St5 T n c τ := by
  rcases hs with a | ⟨a, b, e⟩
  · exact Or.inl a
  · refine Or.inr ⟨a, b, ?_⟩
    have e1 : ((skF T n τ).1 21).toNat = ((skF T n σ).1 21).toNat := by rw [sk_e, sk_e, h]
    unfold NAr at e ⊢
    rw [e1]
    exact e
theorem s_tesL (hT : Ty T) (hn : n ≤ 400) (hK : 0 ≤ K) (h6 : 6 ≤ c0.2.2.2.2.1 (c0.1 14).toNat) : ∀ (f : Nat) (b : Bool) (x : GT) (c : CR), RA n (K + cond b 0 3) 0 x → x.1.1 22 = 0 → n + 1 < f + (x.1.1 21).toNat → AF c0 c 0 → (b = true → TFc T n c x) → (b = false → TBc T n c x) → Res T n c x.1 (tesL T n f b x).1 (tr (bnN x.2 (hgt x) + cond b 0 1)) [true] (fun d => TZc T n c0 d (tesL T n f b x)) := by
  intro f
  induction f with
  | zero =>
    intro b x c hr hz hf hA hc1 hc2
    have := hr.1.2.1
    omega
  | succ f ih =>
    intro b x c hr hz hf hA hc1 hc2
    have hp := hr.1.2.1
    have h29 := hr.2.1
    cases b with
    | true =>
      have hc := hc1 rfl
      have hr : RA n (K + 0) 0 x := hr
      have eL : tesL T n (f + 1) true x = @ite GT (facP T n x) (Classical.propDecidable _) (tesL T n f false (facX T n x)) (tesL T n f true (facX T n x)) := if_pos hz
      rw [eL]
      obtain ⟨s1, s2⟩ := hr.sk (T := T)
      obtain ⟨f1, f2, f3⟩ := hr.fac (T := T)
      -- blanks ahead
      have g29 : (skF T n x.1).1 29 = x.1.1 29 := sk_o (by decide)
      have eh : hgt (skF T n x.1, x.2) = hgt x := by unfold hgt; rw [g29]
      have z1 : (skF T n x.1).1 22 = 0 := by rw [sk_o (by decide)]; exact hz
      have fS : FrS x.1 (skF T n x.1) := FrS.eq rfl (sk_o (by decide)) (sk_o (by decide))
      have tS : ∀ A, TyR x.1 (skF T n x.1) A A := fun A => TyR.same rfl (sk_o (by decide)) (sk_o (by decide))
      obtain ⟨⟨c3, hB, hE, c9⟩, ⟨hw, hpp⟩, h10⟩ := hc
      have hcS : TFc T n c (skF T n x.1, x.2) := ⟨⟨c3, hB.sk, hE.cg (sk_o (by decide)) (sk_o (by decide)) (sk_o (by decide)) rfl, by rw [eh]; exact c9⟩, ⟨by rw [eh]; exact hw, by rw [eh]; exact hpp⟩, by show (skF T n x.1).1 27 ≤ 10; rw [sk_o (by decide)]; exact h10⟩
      have hP : rn isB T n (c.2.1 5).toNat = ((skF T n x.1).1 21).toNat := by rw [hB.sk.2.1, sk_q]
      have k1 : (adv T n c).2.1 1 = tzS T n ((skF T n x.1).1 21).toNat := by rw [adv_1, hP]
      have k2 : (adv T n c).2.1 2 = tzV T n ((skF T n x.1).1 21).toNat := by rw [adv_2, hP]
      have eT : tkPc (adv T n c) = tkT (adv T n c) := by
        unfold tkPc
        rw [show (adv T n c).1 3 = 2 from c3]
        rfl
      have i9 : isW 9 (adv T n c) ↔ stP T n ((skF T n x.1).1 21).toNat 9 := isW_e (i := 9) (T := T) (n := n) (p := ((skF T n x.1).1 21).toNat) (d := adv T n c) (by decide) k1 k2
      have i91 := isS_e (x := 91) (T := T) (n := n) (p := ((skF T n x.1).1 21).toNat) (d := adv T n c) hT (by decide) k1 k2
      have hps := s1.1.2.1
      have hps2 : 0 ≤ (skF T n x.1).1 21 ∧ (skF T n x.1).1 21 ≤ (n : Int) := hps
      unfold facX facP at *
      show Res T n c x.1 _ (tr (bnN x.2 (hgt x) + 0)) [true] _
      by_cases q9 : stP T n ((skF T n x.1).1 21).toNat 9
      · have e9 : ¬ (¬ stP T n ((skF T n x.1).1 21).toNat 9 ∧ ¬ chr T n ((skF T n x.1).1 21).toNat = 91) := fun z => z.1 q9
        rw [if_pos q9] at f1 f2 f3
        rw [if_neg e9] at f1
        rw [if_neg e9, if_pos q9]
        obtain ⟨n1, n2, n3⟩ := stP_N (i := 9) (by decide) q9
        have l9 : (wd 9).length = 3 := by decide +kernel
        have n91 : ¬ isS 91 (adv T n c) := fun z => by
          have a := i91.mp z
          have b := (stP_l (i := 9) (by decide) q9)
          have e := chr_T hT (by decide) a
          rw [e.2] at b
          exact absurd b.2 (by decide)
        have ht : tkPc (adv T n c) = if 10 ≤ c.1 10 then (false, wR (adv T n c) 0 2) else (true, pilC 13 (wR (adv T n c) 10 (c.1 10 + 1))) := by
          rw [eT]
          unfold tkT
          rw [if_pos (Or.inr (i9.mpr q9)), if_neg n91]
          rfl
        refine (Res.one (H := fun y => y = c) fS z1 (tS _) rfl).seq (fun y => absurd z1 y) (fun y hy _ => ?_)
        rw [hy]
        have nb := nb_step (k := 9) (s := 13) (dl := 3) (f := f) (c0 := c0) (G := fun d => TZc T n c0 d (tesL T n f true (adX 3 (opF 9 (skF T n x.1, x.2))))) (Or.inl ⟨rfl, rfl⟩) hT hn (by omega) s1 z1 hcS hA sk_q ht (by rw [n1, l9]; show ((((skF T n x.1).1 21).toNat + 3 : Nat) : Int) = (skF T n x.1).1 21 + 3; omega) n2 (by decide) (fun d hd hAd hzd => by
          have := ih true _ d ((f1.d0 hzd).wk (by show K + 0 ≤ _; omega) (by decide)) hzd (by have := f3 hzd; omega) hAd (fun _ => hd) (fun z => by cases z)
          exact this)
        rw [eh] at nb
        exact nb
      · rw [if_neg q9] at f1 f2 f3
        by_cases q91 : chr T n ((skF T n x.1).1 21).toNat = 91
        · have e9 : ¬ (¬ stP T n ((skF T n x.1).1 21).toNat 9 ∧ ¬ chr T n ((skF T n x.1).1 21).toNat = 91) := fun z => z.2 q91
          rw [if_pos q91] at f1 f2 f3
          rw [if_neg e9] at f1
          rw [if_neg e9, if_neg q9, if_pos q91]
          have ct := chr_T hT (by decide) q91
          obtain ⟨-, -, n1⟩ := tk_sig1 ct.1 ct.2 (by decide) (by decide)
          have ht : tkPc (adv T n c) = if 10 ≤ c.1 10 then (false, wR (adv T n c) 0 2) else (true, pilC 14 (wR (adv T n c) 10 (c.1 10 + 1))) := by
            rw [eT]
            unfold tkT
            rw [if_pos (Or.inl (i91.mpr q91)), if_pos (i91.mpr q91)]
            rfl
          refine (Res.one (H := fun y => y = c) fS z1 (tS _) rfl).seq (fun y => absurd z1 y) (fun y hy _ => ?_)
          rw [hy]
          have nb := nb_step (k := 12) (s := 14) (dl := 1) (f := f) (c0 := c0) (G := fun d => TZc T n c0 d (tesL T n f true (adX 1 (opF 12 (skF T n x.1, x.2))))) (Or.inr ⟨rfl, rfl⟩) hT hn (by omega) s1 z1 hcS hA sk_q ht (by rw [n1]; show ((((skF T n x.1).1 21).toNat + 1 : Nat) : Int) = (skF T n x.1).1 21 + 1; omega) ct.1 (by decide) (fun d hd hAd hzd => by
            have := ih true _ d ((f1.d0 hzd).wk (by show K + 0 ≤ _; omega) (by decide)) hzd (by have := f3 hzd; omega) hAd (fun _ => hd) (fun z => by cases z)
            exact this)
          rw [eh] at nb
          exact nb
        · have e9 : ¬ stP T n ((skF T n x.1).1 21).toNat 9 ∧ ¬ chr T n ((skF T n x.1).1 21).toNat = 91 := ⟨q9, q91⟩
          rw [if_neg q91] at f1 f2 f3
          rw [if_pos e9] at f1
          rw [if_pos e9, if_neg q9, if_neg q91]
          have hst := stN_p x.2 ((skF T n x.1).1 29).toNat
          have hh := hgt_b (x := (skF T n x.1, x.2)) hcS.2.1.1 (s1.wk (by show K ≤ _; omega) (Int.le_refl _)) hcS.2.2
          rw [eh] at hh
          have co := s_co (c := c) (h := hgt x) hT hn s1.1 (by show 0 ≤ stN x.2 ((skF T n x.1).1 29).toNat + (K + 0); omega) z1 (by omega) (by
            by_cases z0 : hgt x = 0
            · exact Or.inl z0
            · refine Or.inr ?_
              have w := (hw (hgt x - 1) (by omega)).1
              rw [hpp (hgt x - 1) (by omega), sgC_r w]
              omega) (by rw [← eh]; exact hcS.1) sk_q q9 q91
          have co2 := co.wk (tr (bnN x.2 (hgt x)))
          refine (Res.one (H := fun y => y = c) fS z1 (tS _) rfl).seq (fun y => absurd z1 y) (fun y hy _ => ?_)
          rw [hy]
          have g29c : (coF T n (skF T n x.1)).1 29 = x.1.1 29 := by rw [co_o (by decide) (by decide) (by decide) (by decide)]; exact g29
          have ehc : hgt (coF T n (skF T n x.1), x.2) = hgt x := by unfold hgt; rw [g29c]
          refine co2.seq (fun z => ?_) (fun d gd z => ?_)
          · rw [tesL_f (x := (coF T n (skF T n x.1), x.2)) z]
            exact FS.rf
          · obtain ⟨⟨w1, w2, w3, w4⟩, w5⟩ := gd
            have := ih false (coF T n (skF T n x.1), x.2) d ((f1.d0 z).wk (by show K + 3 ≤ _; omega) (by decide)) z (by have := f3 z; omega) (hA.tr w2.lo (Nat.le_refl _)) (fun z => by cases z) (fun _ => ⟨Or.inr ⟨w1.1, w3, ?_⟩, w1.2.1, by rw [ehc]; exact w1.2.2, ⟨by rw [ehc]; exact hw, fun i hi => by rw [ehc] at hi; rw [w2.2.2.2.2.2 i hi]; exact hpp i hi⟩, ?_⟩)
            · rw [ehc] at this
              exact this
            · have e1 : ((skF T n (coF T n (skF T n x.1))).1 21).toNat = ((coF T n (skF T n x.1)).1 21).toNat := by rw [sk_e, Int.toNat_natCast, w4]
              unfold NAr at w5 ⊢
              rw [e1]
              exact w5
            · show (coF T n (skF T n x.1)).1 27 ≤ 10
              rw [co_o (by decide) (by decide) (by decide) (by decide), sk_o (by decide)]
              exact h10
    | false =>
      have hc := hc2 rfl
      have hr : RA n (K + 3) 0 x := hr
      have eL : tesL T n (f + 1) false x = @ite GT (tsP T n (ts0 T n x)) (Classical.propDecidable _) (tesL T n f true (tsO T n (ts0 T n x))) (if topF (tsC (ts0 T n x)) = 12 then tesL T n f false (clF T n (tsC (ts0 T n x))) else tsC (ts0 T n x)) := if_pos hz
      rw [eL]
      obtain ⟨hs5, hB, hL, hPO, h10⟩ := hc
      have hpT := st5_p hT hs5 hB
      have c6 : ¬ c.1 3 = 6 := by
        rcases hs5 with z | z
        · omega
        · have := z.1
          omega
      obtain ⟨a1, a2⟩ := AN_9 (c := c) (x := x) (by omega) hn h29.1 hz hr hL (by decide) hPO
      obtain ⟨r0, r1, r2⟩ := hr.t0 (T := T)
      have fh9 := hr.ag (k := 9) (by decide)
      -- behind the nots, and blanks
      have e0 : ts0 T n x = (skF T n (anG 9 x).1, (anG 9 x).2) := rfl
      obtain ⟨b1, ⟨b2, b2z⟩, b3, b4, b5, b6, b7, b8⟩ := a1
      have g0 : ∀ j, j ≠ 21 → (ts0 T n x).1.1 j = (anG 9 x).1.1 j := fun j hj => by rw [e0]; exact sk_o hj
      have h0 : hgt (ts0 T n x) = hgt (anG 9 x) := by unfold hgt; rw [g0 29 (by decide)]
      have o0 : (ts0 T n x).2 = x.2 := b3
      have p0 : (ts0 T n x).1.1 21 = ((rn isB T n (x.1.1 21).toNat : Nat) : Int) := by
        rw [e0]
        show (skF T n (anG 9 x).1).1 21 = _
        rw [sk_e, b6 21 (by decide) (by decide) (by decide)]
      have z0 : (ts0 T n x).1.1 22 = 0 := by rw [g0 22 (by decide)]; exact b2z
      have w0 : Wfo (ts0 T n x).2 (hgt (ts0 T n x)) := by rw [o0, h0]; exact hPO.1.le b4
      have pp0 : ∀ i, i < hgt (ts0 T n x) → c.2.2.2.1 i = sgC ((ts0 T n x).2 i) := fun i hi => by rw [o0]; exact hPO.2 i (by omega)
      have l0 : LT 3 c (hgt (ts0 T n x)) (ts0 T n x).1 := by
        rw [h0]
        exact b1.cg (g0 26 (by decide)) (g0 27 (by decide)) (g0 23 (by decide)) rfl
      have f0 : FrS x.1 (ts0 T n x).1 := b5.tr (FrS.eq rfl (g0 26 (by decide)) (g0 23 (by decide)))
      have t0 : TyR x.1 (ts0 T n x).1 (tr (bnN x.2 (hgt x) + 1)) (tr (bnN (ts0 T n x).2 (hgt (ts0 T n x)) + 1)) := by
        have e1 : (ts0 T n x).2 = (anG 9 x).2 := rfl
        rw [h0, e1]
        exact b8.tr b5 (TyR.same rfl (g0 26 (by decide)) (g0 28 (by decide)))
      have n9 : hgt (ts0 T n x) = 0 ∨ (ts0 T n x).2 (hgt (ts0 T n x) - 1) = 10 ∨ 10 < (ts0 T n x).2 (hgt (ts0 T n x) - 1) := by
        by_cases y0 : hgt (ts0 T n x) = 0
        · exact Or.inl y0
        · have w := (w0 (hgt (ts0 T n x) - 1) (by omega)).1
          have t9 : topF (anG 9 x) = (anG 9 x).2 (hgt (ts0 T n x) - 1) := topF_s (m := hgt (ts0 T n x) - 1) (by rw [h0]; unfold hgt at *; omega)
          rw [t9] at a2
          have e1 : (ts0 T n x).2 = (anG 9 x).2 := rfl
          rw [e1] at w ⊢
          exact Or.inr (by omega)
      have q28 : (ts0 T n x).1.1 28 = x.1.1 28 := (g0 28 (by decide)).trans (b6 28 (by decide) (by decide) (by decide))
      have q23 : (ts0 T n x).1.1 23 = x.1.1 23 := (g0 23 (by decide)).trans (b6 23 (by decide) (by decide) (by decide))
      have q27 : (ts0 T n x).1.1 27 ≤ x.1.1 27 := by rw [g0 27 (by decide)]; exact b7
      have q29 : 0 ≤ (ts0 T n x).1.1 29 := by rw [g0 29 (by decide)]; exact b2
      generalize hx0 : ts0 T n x = x0 at *
      -- ands
      obtain ⟨d1, d2⟩ := AN_1 (c := c) (x := x0) (k := 10) (r := 2) (Or.inl ⟨rfl, rfl⟩) (by omega) hn q29 z0 r0 l0 (by decide) ⟨w0, pp0⟩ n9
      obtain ⟨r3, r4, r5⟩ := r0.ag (k := 10) (by decide)
      obtain ⟨d11, ⟨d12, d12z⟩, d13, d14, d15, d16, d17, d18⟩ := d1
      have w1 : Wfo (anG 10 x0).2 (hgt (anG 10 x0)) := by rw [d13]; exact w0.le d14
      have pp1 : ∀ i, i < hgt (anG 10 x0) → c.2.2.2.1 i = sgC ((anG 10 x0).2 i) := fun i hi => by rw [d13]; exact pp0 i (by omega)
      rw [← d13] at d2
      -- ors
      obtain ⟨e1, e2⟩ := AN_1 (c := c) (x := anG 10 x0) (k := 11) (r := 1) (Or.inr ⟨rfl, rfl⟩) (by omega) hn d12 d12z r3 d11 (by decide) ⟨w1, pp1⟩ (by
        rcases d2 with g | g
        · exact Or.inl g
        · by_cases y0 : hgt (anG 10 x0) = 0
          · exact Or.inl y0
          · have := (w1 (hgt (anG 10 x0) - 1) (by omega)).1
            exact Or.inr (by omega))
      obtain ⟨e11, ⟨e12, e12z⟩, e13, e14, e15, e16, e17, e18⟩ := e1
      have w2 : Wfo (anG 11 (anG 10 x0)).2 (hgt (anG 11 (anG 10 x0))) := by rw [e13]; exact w1.le e14
      have pp2 : ∀ i, i < hgt (anG 11 (anG 10 x0)) → c.2.2.2.1 i = sgC ((anG 11 (anG 10 x0)).2 i) := fun i hi => by rw [e13]; exact pp1 i (by omega)
      rw [← e13] at e2
      have hh := hgt_b hPO.1 hr h10
      have hb4 := hB.1
      -- the piece at hand
      have hP : rn isB T n (c.2.1 5).toNat = (x0.1.1 21).toNat := by rw [p0, Int.toNat_natCast]; exact hB.2.1
      have k1 : (adv T n c).2.1 1 = tzS T n (x0.1.1 21).toNat := by rw [adv_1, hP]
      have k2 : (adv T n c).2.1 2 = tzV T n (x0.1.1 21).toNat := by rw [adv_2, hP]
      have i11 : isW 11 (adv T n c) ↔ stP T n (x0.1.1 21).toNat 11 := isW_e (i := 11) (T := T) (n := n) (p := (x0.1.1 21).toNat) (d := adv T n c) (by decide) k1 k2
      have i12 : isW 12 (adv T n c) ↔ stP T n (x0.1.1 21).toNat 12 := isW_e (i := 12) (T := T) (n := n) (p := (x0.1.1 21).toNat) (d := adv T n c) (by decide) k1 k2
      have i93 := isS_e (x := 93) (T := T) (n := n) (p := (x0.1.1 21).toNat) (d := adv T n c) hT (by decide) k1 k2
      have h6c : 6 ≤ (adv T n c).2.2.2.2.1 ((adv T n c).1 14).toNat := by
        show 6 ≤ c.2.2.2.2.1 (c.1 14).toNat
        rw [hA.1, hA.2.1]
        exact h6
      have l11 : (wd 11).length = 3 := by decide +kernel
      have l12 : (wd 12).length = 2 := by decide +kernel
      show Res T n c x.1 _ (tr (bnN x.2 (hgt x) + 1)) [true] _
      have pe : ((x0.1.1 21).toNat : Int) = x0.1.1 21 := Int.toNat_of_nonneg r0.1.2.1.1
      have pe2 : rn isB T n (x.1.1 21).toNat = (x0.1.1 21).toNat := by rw [p0, Int.toNat_natCast]
      by_cases cA : stP T n (x0.1.1 21).toNat 11
      · have cR : ¬ stP T n (x0.1.1 21).toNat 12 := fun z => absurd (stP_u (by decide) (by decide) cA z) (by decide)
        have tO := r0.tO (T := T) (Or.inl cA)
        have eO : tsO T n x0 = adX 3 (opF 10 (anG 10 x0)) := by
          unfold tsO
          rw [if_pos cA, if_neg cR]
        rw [if_pos (show tsP T n x0 from Or.inl cA), eO]
        rw [eO] at tO
        obtain ⟨n1, n2, n3⟩ := stP_N (i := 11) (by decide) cA
        have ht : tkPc (adv T n c) = (true, pilC 11 (unC 2 (wR (adv T n c) 3 2))) := by
          rw [hpT]
          unfold tkB
          rw [if_pos ⟨Or.inl (i11.mpr cA), h6c⟩, if_pos (i11.mpr cA)]
          rfl
        have o21 := d16 21 (by decide) (by decide) (by decide)
        obtain ⟨d, m1, m2, m3, m4, m5, m6⟩ := ao_step (x := x) (y := anG 10 x0) (k := 10) (s := 11) (r := 2) (dl := 3) (c0 := c0) (Or.inl ⟨rfl, rfl, rfl, rfl⟩) hA hB c6 ht d11 d12 w1 pp1 d2 (by omega) (by rw [o21, p0]) (by rw [d16 28 (by decide) (by decide) (by decide), q28]) (by rw [d16 23 (by decide) (by decide) (by decide), q23]) (by omega) (by rw [pe2, n1, l11, o21]; omega) (by rw [pe2, n1]; omega)
        have zA : (adX 3 (opF 10 (anG 10 x0))).1.1 22 = 0 := m6.trans d12z
        have i1 := ih true _ d (tO.1.wk (by show K + 0 ≤ _; omega) (Int.le_refl _)) zA (by omega) m3 (fun _ => m2) (fun z => by cases z)
        have ta : TyR x.1 (adX 3 (opF 10 (anG 10 x0))).1 (tr (bnN x.2 (hgt x) + 1)) (tr (bnN (adX 3 (opF 10 (anG 10 x0))).2 (hgt (adX 3 (opF 10 (anG 10 x0)))) + 0)) := (t0.tr f0 d18).tr (f0.tr d15) m5
        exact Res.rc m1 ((Res.one (H := fun y => y = d) ((f0.tr d15).tr m4) zA ta rfl).seq (fun y => absurd zA y) (fun y hy _ => by subst hy; exact i1))
      · by_cases cR : stP T n (x0.1.1 21).toNat 12
        · have tO := r0.tO (T := T) (Or.inr cR)
          have eO : tsO T n x0 = adX 2 (opF 11 (anG 11 (anG 10 x0))) := by
            unfold tsO
            rw [if_neg cA, if_pos cR]
          rw [if_pos (show tsP T n x0 from Or.inr cR), eO]
          rw [eO] at tO
          obtain ⟨n1, n2, n3⟩ := stP_N (i := 12) (by decide) cR
          have nA : ¬ isW 11 (adv T n c) := fun z => cA (i11.mp z)
          have ht : tkPc (adv T n c) = (true, pilC 12 (unC 1 (wR (adv T n c) 3 2))) := by
            rw [hpT]
            unfold tkB
            rw [if_pos ⟨Or.inr (i12.mpr cR), h6c⟩, if_neg nA]
            rfl
          have o21 := (e16 21 (by decide) (by decide) (by decide)).trans (d16 21 (by decide) (by decide) (by decide))
          obtain ⟨d, m1, m2, m3, m4, m5, m6⟩ := ao_step (x := x) (y := anG 11 (anG 10 x0)) (k := 11) (s := 12) (r := 1) (dl := 2) (c0 := c0) (Or.inr ⟨rfl, rfl, rfl, rfl⟩) hA hB c6 ht e11 e12 w2 pp2 e2 (by omega) (by rw [o21, p0]) (by rw [e16 28 (by decide) (by decide) (by decide), d16 28 (by decide) (by decide) (by decide), q28]) (by rw [e16 23 (by decide) (by decide) (by decide), d16 23 (by decide) (by decide) (by decide), q23]) (by omega) (by rw [pe2, n1, l12, o21]; omega) (by rw [pe2, n1]; omega)
          have zA : (adX 2 (opF 11 (anG 11 (anG 10 x0)))).1.1 22 = 0 := m6.trans e12z
          have i1 := ih true _ d (tO.1.wk (by show K + 0 ≤ _; omega) (Int.le_refl _)) zA (by omega) m3 (fun _ => m2) (fun z => by cases z)
          have ta : TyR x.1 (adX 2 (opF 11 (anG 11 (anG 10 x0)))).1 (tr (bnN x.2 (hgt x) + 1)) (tr (bnN (adX 2 (opF 11 (anG 11 (anG 10 x0)))).2 (hgt (adX 2 (opF 11 (anG 11 (anG 10 x0))))) + 0)) := ((t0.tr f0 d18).tr (f0.tr d15) e18).tr ((f0.tr d15).tr e15) m5
          exact Res.rc m1 ((Res.one (H := fun y => y = d) (((f0.tr d15).tr e15).tr m4) zA ta rfl).seq (fun y => absurd zA y) (fun y hy _ => by subst hy; exact i1))
        · have nt : ¬ tsP T n x0 := fun z => z.elim cA cR
          rw [if_neg nt]
          have eC : tsC x0 = anG 11 (anG 10 x0) := rfl
          obtain ⟨g1, g2, g3⟩ := r0.tc
          have nA : ¬ (isW 11 (adv T n c) ∨ isW 12 (adv T n c)) := fun z => z.elim (fun w => cA (i11.mp w)) (fun w => cR (i12.mp w))
          rw [eC] at g1 g2 g3 ⊢
          have o28 : (anG 11 (anG 10 x0)).1.1 28 = x.1.1 28 := by rw [e16 28 (by decide) (by decide) (by decide), d16 28 (by decide) (by decide) (by decide), q28]
          have o23 : (anG 11 (anG 10 x0)).1.1 23 = x.1.1 23 := by rw [e16 23 (by decide) (by decide) (by decide), d16 23 (by decide) (by decide) (by decide), q23]
          have fY := (f0.tr d15).tr e15
          have tY := (t0.tr f0 d18).tr (f0.tr d15) e18
          have e27 : (anG 11 (anG 10 x0)).1.1 27 ≤ 10 := by omega
          have hgy : hgt (anG 11 (anG 10 x0)) ≤ 32 := by omega
          generalize anG 11 (anG 10 x0) = y at *
          have eu : unC 1 (adv T n c) = setU (adv T n c) (unA 1 c.2.2.2.1 (c.1 9).toNat (qOf c)) := rfl
          by_cases y0 : hgt y = 0
          · have ty : topF y = -1 := topF_0 (by unfold hgt at y0; omega)
            rw [if_neg (by rw [ty]; decide)]
            have sq : rn isB T n (y.1.1 21).toNat = (y.1.1 21).toNat := by rw [g2, ← pe2, rn_id]
            refine Res.one fY e12z (by rw [y0] at tY; exact tY) ⟨⟨hs5.cg (by rw [sq, g2, pe2]), ⟨hB.1, by rw [sq, g2, hB.2.1, pe2], by rw [o28]; exact hB.2.2.1, by rw [o23]; exact hB.2.2.2⟩, by rw [y0] at e11; exact e11, sq, ?_⟩, hA, ?_, e27⟩
            · unfold tsP at nt ⊢
              rw [g2]
              exact nt
            · have := g1.2.2.1
              have := dpN_p y.2 (y.1.1 29).toNat
              omega
          · obtain ⟨m, hm⟩ : ∃ m, hgt y = m + 1 := ⟨hgt y - 1, by omega⟩
            have ym : y.1.1 29 = ((m + 1 : Nat) : Int) := by unfold hgt at hm; omega
            have wm := (w2 m (by omega)).1
            have em := e2.resolve_left y0
            rw [hm, Nat.add_sub_cancel] at em
            have y12 : y.2 m = 12 := by omega
            have ty : topF y = 12 := (topF_s ym).trans y12
            rw [if_pos ty]
            obtain ⟨v1, v2⟩ := e11
            have cl := g1.cl (T := T) ty
            have e21 : (clF T n y).1.1 21 = y.1.1 21 + 1 := by
              show fu (fu (fu (clS T n y.1).1 21 (y.1.1 21 + 1)) 29 (y.1.1 29 - 1)) 27 (y.1.1 27 - 1) 21 = _
              rw [fu_ne _ _ (by decide), fu_ne _ _ (by decide), fu_eq]
            have e29 : (clF T n y).1.1 29 = y.1.1 29 - 1 := by
              show fu (fu (fu (clS T n y.1).1 21 (y.1.1 21 + 1)) 29 (y.1.1 29 - 1)) 27 (y.1.1 27 - 1) 29 = _
              rw [fu_ne _ _ (by decide), fu_eq]
            have e27c : (clF T n y).1.1 27 = y.1.1 27 - 1 := by
              show fu (fu (fu (clS T n y.1).1 21 (y.1.1 21 + 1)) 29 (y.1.1 29 - 1)) 27 (y.1.1 27 - 1) 27 = _
              rw [fu_eq]
            have eo : ∀ j, j ≠ 21 → j ≠ 27 → j ≠ 29 → (clF T n y).1.1 j = (clS T n y.1).1 j := fun j a b c => by
              show fu (fu (fu (clS T n y.1).1 21 (y.1.1 21 + 1)) 29 (y.1.1 29 - 1)) 27 (y.1.1 27 - 1) j = _
              rw [fu_ne _ _ b, fu_ne _ _ c, fu_ne _ _ a]
            have cs : ∀ j, j ≠ 22 → (clS T n y.1).1 j = y.1.1 j := fun j hj => by
              unfold clS
              split
              · rfl
              · exact fl_o hj
            have c2 : (clF T n y).1.2 = y.1.2 := rfl
            have e26 : (clF T n y).1.1 26 = y.1.1 26 := (eo 26 (by decide) (by decide) (by decide)).trans (cs 26 (by decide))
            have e23 : (clF T n y).1.1 23 = y.1.1 23 := (eo 23 (by decide) (by decide) (by decide)).trans (cs 23 (by decide))
            have e28 : (clF T n y).1.1 28 = y.1.1 28 := (eo 28 (by decide) (by decide) (by decide)).trans (cs 28 (by decide))
            have fC : FrS y.1 (clF T n y).1 := FrS.eq c2 e26 e23
            have u9 : (unC 1 (adv T n c)).1 9 = ((m + 1 : Nat) : Int) := by
              rw [eu]
              show (((unA 1 c.2.2.2.1 (c.1 9).toNat (qOf c)).1 : Nat) : Int) = _
              rw [v1, hm]
            by_cases c93 : chr T n (x0.1.1 21).toNat = 93
            · have ct := chr_T hT (by decide) c93
              obtain ⟨-, -, n1⟩ := tk_sig1 ct.1 ct.2 (by decide) (by decide)
              have cS : clS T n y.1 = y.1 := by
                unfold clS
                rw [g2, if_pos c93]
              have zC : (clF T n y).1.1 22 = 0 := by rw [eo 22 (by decide) (by decide) (by decide), cS]; exact e12z
              have ht : tkPc (adv T n c) = (true, wR (wR (wR (unC 1 (adv T n c)) 9 ((unC 1 (adv T n c)).1 9 - 1)) 10 ((unC 1 (adv T n c)).1 10 - 1)) 3 5) := by
                rw [hpT]
                unfold tkB
                rw [if_neg (fun z => nA z.1), if_pos (i93.mpr c93), if_neg (by rw [u9]; omega)]
              have hb5 := (rn_b (P := isB) (T := T) (n := n) (p := (c.2.1 5).toNat)).1
              have k5 : (tkPc (adv T n c)).2.2.1 5 = x0.1.1 21 + 1 := by rw [(tkP_f (c := adv T n c)).1, adv_5, hP, n1]; omega
              have rc := Rc.st (c := c) (T := T) (n := n) c6 (by rw [ht]) (by omega) (by rw [k5]; omega)
              rw [ht] at rc k5
              have hgc : hgt (clF T n y) = m := by unfold hgt; omega
              have cl2 := cl.2 zC
              rw [eu] at rc k5 u9
              generalize unA 1 c.2.2.2.1 (c.1 9).toNat (qOf c) = z at *
              have e9 : (setU (adv T n c) z).1 9 = (m : Int) + 1 := by rw [u9]; omega
              have e10 : (setU (adv T n c) z).1 10 = z.2.2.1 := rfl
              rw [e9, e10, show (m : Int) + 1 - 1 = (m : Int) by omega] at rc k5
              have tC : TyR y.1 (clF T n y).1 (tr (bnN y.2 (hgt y) + 1)) (tr (bnN (clF T n y).2 (hgt (clF T n y)) + 1)) := by
                have eb : bnN y.2 (m + 1) = bnN y.2 m := by
                  show bnN y.2 m + (if y.2 m = 10 ∨ y.2 m = 11 then 1 else 0) = _
                  rw [if_neg (by omega)]
                  omega
                rw [hgc, hm, eb]
                exact TyR.same c2 e26 e28
              have i1 := ih false (clF T n y) (wR (wR (wR (setU (adv T n c) z) 9 (m : Int)) 10 (z.2.2.1 - 1)) 3 5) cl2.1 zC (by omega) (hA.tr (AF.z rfl rfl rfl rfl rfl) (Nat.le_refl _)) (fun w => by cases w) (fun _ => ⟨Or.inl rfl, ⟨⟨hB.1.1, by rw [k5]; omega, by rw [k5]; omega⟩, by rw [k5, e21, g2], by rw [e28, o28]; exact hB.2.2.1, by rw [e23, o23]; exact hB.2.2.2⟩, ?_, ⟨?_, ?_⟩, by omega⟩)
              · exact Res.rc rc ((Res.one (H := fun w => w = wR (wR (wR (setU (adv T n c) z) 9 (m : Int)) 10 (z.2.2.1 - 1)) 3 5) (fY.tr fC) zC (tY.tr fY tC) rfl).seq (fun w => absurd zC w) (fun w hw' _ => by subst hw'; exact i1))
              · rw [hgc]
                have hse : SE (qOf (wR (wR (wR (setU (adv T n c) z) 9 (m : Int)) 10 (z.2.2.1 - 1)) 3 5)) (clF T n y).1 := by
                  refine ⟨v2.1.trans e26.symm, ?_, fun i hi => ?_⟩
                  · show z.2.2.1 - 1 = _
                    rw [e27c, v2.2.1]
                  · rw [e26] at hi
                    have g := v2.2.2 i hi
                    unfold slB at g ⊢
                    rw [e23, c2]
                    exact g
                refine (LT.of7 (h := m) rfl hse).dn (by decide) ?_
                by_cases m0 : m = 0
                · exact Or.inl m0
                · refine Or.inr ?_
                  have w := (w2 (m - 1) (by omega)).1
                  show rkI (c.2.2.2.1 (m - 1)) < 4
                  rw [pp2 (m - 1) (by omega), sgC_r w]
                  omega
              · rw [hgc]
                exact w2.le (by omega)
              · rw [hgc]
                intro i hi
                exact pp2 i (by omega)
            · have cS : clS T n y.1 = flF 0 (y.1.1 21) y.1 := by
                unfold clS
                rw [g2, if_neg c93]
              have zC : (clF T n y).1.1 22 = 1 + 8 * x0.1.1 21 := by
                rw [eo 22 (by decide) (by decide) (by decide), cS, fl_e, if_pos e12z, g2]
                omega
              have nz : ¬ (clF T n y).1.1 22 = 0 := by rw [zC]; omega
              rw [tesL_f nz]
              refine ⟨fY.tr fC, fun _ => ?_, fun w => absurd w nz⟩
              rw [zC]
              have ht : tkPc (adv T n c) = (false, wR (unC 1 (adv T n c)) 0 0) := by
                rw [hpT]
                unfold tkB
                rw [if_neg (fun z => nA z.1), if_neg (fun z => c93 (i93.mp z))]
                unfold clE
                rw [if_pos (Or.inl (by rw [u9]; omega))]
              refine FtC.st c6 (by rw [ht]) (by omega) ?_
              rw [ht, hP]
              show 0 + (1 + 8 * (((x0.1.1 21).toNat : Nat) : Int)) = _
              omega
end TSU
