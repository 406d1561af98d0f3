-- CLASS AND REFERENCE READ ALIKE: a clause's body
/-- a clause is read, its end stands ahead -/
def EndS (T : Nat → Int) (n : Nat) (b : Bool) (c : CR) (σ : GS) : Prop := ¬ c.1 3 = 6 ∧ SB T n c σ ∧ LT 1 c 0 σ ∧ tkPc (adv T n c) = @ite BR (b = false ∧ isS 93 (adv T n c)) (Classical.propDecidable _) (false, wR (unC 1 (adv T n c)) 0 0) (clE b (adv T n c))
/-- what a clause's body leaves; b: it has no test -/
def BdS (T : Nat → Int) (n : Nat) (c : CR) (v174 : Int) (b : Bool) (d : CR) (σ : GS) : Prop := EndS T n b d σ ∧ d.1 14 = c.1 14 ∧ d.2.2.2.2.1 = c.2.2.2.2.1 ∧ d.2.2.2.2.2.2.1 = c.2.2.2.2.2.2.1 ∧ (∀ j, ¬ j = (c.1 14).toNat → d.2.2.2.2.2.1 j = c.2.2.2.2.2.1 j) ∧ (b = false → d.2.2.2.2.2.1 (c.1 14).toNat = v174) ∧ (b = true → v174 = σ.1 26)
section BDY
variable {T : Nat → Int} {n h p i j : Nat} {c d c0 : CR} {σ τ ρ : GS} {x y : GT} {s v r K D : Int} {A B C : List Bool} {q : UQ} {o pl : Nat → Int}
theorem unA_0 {q : UQ} : unA r pl 0 q = (0, q) := rfl
theorem LT_0 (h9 : c.1 9 = 0) (hE : SE (qOf c) σ) : LT r c 0 σ := by
  unfold LT
  rw [h9]
  exact ⟨rfl, hE⟩
theorem un9 (hL : LT 1 c 0 σ) : (unC 1 (adv T n c)).1 9 = 0 := by
  have e : (unC 1 (adv T n c)).1 9 = (((unA 1 c.2.2.2.1 (c.1 9).toNat (qOf c)).1 : Nat) : Int) := rfl
  rw [e, hL.1]
  rfl
/-- behind a test -/
theorem end_t (hT : Ty T) (hz : TZc T n c0 c y) : EndS T n false c y.1 := by
  obtain ⟨⟨a1, a2, a3, a4, a5⟩, a6, a7⟩ := hz
  have hp := st5_p hT a1 a2
  have h6 : ¬ c.1 3 = 6 := by
    rcases a1 with z | z
    · omega
    · have := z.1
      omega
  refine ⟨h6, a2, a3, ?_⟩
  have hP : rn isB T n (c.2.1 5).toNat = (y.1.1 21).toNat := by rw [a2.2.1, a4]
  have k1 : (adv T n c).2.1 1 = tzS T n (y.1.1 21).toNat := by rw [adv_1, hP]
  have k2 : (adv T n c).2.1 2 = tzV T n (y.1.1 21).toNat := by rw [adv_2, hP]
  have i11 : isW 11 (adv T n c) ↔ stP T n (y.1.1 21).toNat 11 := isW_e (i := 11) (by decide) k1 k2
  have i12 : isW 12 (adv T n c) ↔ stP T n (y.1.1 21).toNat 12 := isW_e (i := 12) (by decide) k1 k2
  rw [hp]
  unfold tkB
  rw [if_neg (fun z => a5 (z.1.elim (fun w => Or.inl (i11.mp w)) (fun w => Or.inr (i12.mp w))))]
  by_cases q : isS 93 (adv T n c)
  · rw [if_pos q, if_pos (un9 a3), if_pos ⟨rfl, q⟩]
  · rw [if_neg q, if_neg (fun z => q z.2)]
/-- behind a setting -/
theorem end_s (h3 : c.1 3 = 5) (hB : SB T n c σ) (hE : SE (qOf c) σ) (h9 : c.1 9 = 0) (hk : c.2.2.2.2.1 (c.1 14).toNat < 6) : EndS T n false c σ := by
  have hL : LT 1 c 0 σ := LT_0 h9 hE
  refine ⟨by omega, hB, hL, ?_⟩
  have eT : tkPc (adv T n c) = tkB (adv T n c) := by
    unfold tkPc
    rw [show (adv T n c).1 3 = 5 from h3]
    rfl
  rw [eT]
  unfold tkB
  rw [if_neg (fun z => by
    have w := z.2
    have w2 : 6 ≤ c.2.2.2.2.1 (c.1 14).toNat := w
    omega)]
  by_cases q : isS 93 (adv T n c)
  · rw [if_pos q, if_pos (un9 hL), if_pos ⟨rfl, q⟩]
  · rw [if_neg q, if_neg (fun z => q z.2)]
/-- behind a sum, no test -/
theorem end_b (hT : Ty T) (h4 : c.1 3 = 4) (hw : c.1 4 = 0) (hB : SB T n c σ) (hL : LT 1 c 0 σ) (hq : rn isB T n (σ.1 21).toNat = (σ.1 21).toNat) (hN : NAr T n σ) (hi : ¬ stP T n (σ.1 21).toNat 10) : EndS T n true c σ := by
  have hP : rn isB T n (c.2.1 5).toNat = (σ.1 21).toNat := by rw [hB.2.1, hq]
  have k1 : (adv T n c).2.1 1 = tzS T n (σ.1 21).toNat := by rw [adv_1, hP]
  have k2 : (adv T n c).2.1 2 = tzV T n (σ.1 21).toNat := by rw [adv_2, hP]
  have i10 : isW 10 (adv T n c) ↔ stP T n (σ.1 21).toNat 10 := isW_e (i := 10) (by decide) k1 k2
  obtain ⟨na, -⟩ := sgH_n (d := adv T n c) k1 k2 hN.1.1 hN.2.1 hN.2.2 hN.1.2 hT
  refine ⟨by omega, hB, hL, ?_⟩
  unfold tkPc
  rw [show (adv T n c).1 3 = 4 from h4]
  show tkE (adv T n c) = _
  unfold tkE
  rw [if_neg na, show (adv T n c).1 4 = 0 from hw, if_neg (by decide), if_neg (by decide), if_neg (fun z => hi (i10.mp z)), if_neg (fun z => by cases z.1)]
/-- 'if' behind a sum -/
theorem if_step (hT : Ty T) (h4 : c.1 3 = 4) (hw : c.1 4 = 0) (hB : SB T n c σ) (hL : LT 1 c 0 σ) (hq : rn isB T n (σ.1 21).toNat = (σ.1 21).toNat) (hN : NAr T n σ) (h0 : 0 ≤ σ.1 21) (hi : stP T n (σ.1 21).toNat 10) : ∃ d, Rc T n c d ∧ d.1 3 = 2 ∧ SB T n d (adF 2 σ) ∧ SE (qOf d) (adF 2 σ) ∧ d.1 9 = 0 ∧ d.1 14 = c.1 14 ∧ d.2.2.2.2.1 = c.2.2.2.2.1 ∧ d.2.2.2.2.2.1 = fu c.2.2.2.2.2.1 (c.1 14).toNat (σ.1 26) ∧ d.2.2.2.2.2.2.1 = c.2.2.2.2.2.2.1 ∧ d.2.2.2.2.2.2.2 = c.2.2.2.2.2.2.2 := by
  have hP : rn isB T n (c.2.1 5).toNat = (σ.1 21).toNat := by rw [hB.2.1, hq]
  have k1 : (adv T n c).2.1 1 = tzS T n (σ.1 21).toNat := by rw [adv_1, hP]
  have k2 : (adv T n c).2.1 2 = tzV T n (σ.1 21).toNat := by rw [adv_2, hP]
  have i10 : isW 10 (adv T n c) ↔ stP T n (σ.1 21).toNat 10 := isW_e (i := 10) (by decide) k1 k2
  obtain ⟨na, -⟩ := sgH_n (d := adv T n c) k1 k2 hN.1.1 hN.2.1 hN.2.2 hN.1.2 hT
  obtain ⟨n1, n2, n3⟩ := stP_N (i := 10) (by decide) hi
  have l10 : (wd 10).length = 2 := by decide +kernel
  have ht : tkPc (adv T n c) = (true, wR (wM (unC 1 (adv T n c)) (c.1 14).toNat ((unC 1 (adv T n c)).1 7)) 3 2) := by
    unfold tkPc
    rw [show (adv T n c).1 3 = 4 from h4]
    show tkE (adv T n c) = _
    unfold tkE
    rw [if_neg na, show (adv T n c).1 4 = 0 from hw, if_neg (by decide), if_neg (by decide), if_pos (i10.mpr hi)]
    rfl
  have b4 := hB.1
  have hb5 := (rn_b (P := isB) (T := T) (n := n) (p := (c.2.1 5).toNat)).1
  have k5 : (tkPc (adv T n c)).2.2.1 5 = σ.1 21 + 2 := by rw [(tkP_f (c := adv T n c)).1, adv_5, hP, n1, l10]; omega
  have rc := Rc.st (c := c) (T := T) (n := n) (by omega) (by rw [ht]) (by omega) (by rw [k5]; omega)
  rw [ht] at rc k5
  have eu : unC 1 (adv T n c) = setU (adv T n c) (unA 1 c.2.2.2.1 (c.1 9).toNat (qOf c)) := rfl
  obtain ⟨l1, l2⟩ := hL
  rw [eu] at rc k5
  generalize unA 1 c.2.2.2.1 (c.1 9).toNat (qOf c) = z at *
  have e7 : (setU (adv T n c) z).1 7 = σ.1 26 := l2.1
  rw [e7] at rc k5
  refine ⟨_, rc, rfl, ⟨⟨hB.1.1, by rw [k5]; omega, by rw [k5]; omega⟩, by rw [k5, ad_e], by rw [ad_o (by decide)]; exact hB.2.2.1, by rw [ad_o (by decide)]; exact hB.2.2.2⟩, ?_, ?_, rfl, rfl, rfl, rfl, rfl⟩
  · exact SE.cg (q := z.2) l2 (ad_o (by decide)) (ad_o (by decide)) (ad_o (by decide)) rfl
  · show ((z.1 : Nat) : Int) = 0
    rw [l1]
    rfl
/-- a test begins -/
theorem s_tes (hT : Ty T) (hn : n ≤ 400) (hK : 0 ≤ K) (h6 : 6 ≤ c.2.2.2.2.1 (c.1 14).toNat) (hI : RI n K 0 x.1) (hd : 0 ≤ x.1.1 27 ∧ x.1.1 27 ≤ x.1.1 21 ∧ x.1.1 27 ≤ 10) (hz : x.1.1 22 = 0) (c3 : c.1 3 = 2) (hB : SB T n c x.1) (hE : SE (qOf c) x.1) (h9 : c.1 9 = 0) : Res T n c x.1 (tesF T n x).1 [] [true] (fun d => TZc T n c d (tesF T n x)) := by
  have ra := RA.st hI ⟨hd.1, hd.2.1⟩
  have e0 : hgt ((fu x.1.1 29 0, x.1.2), x.2) = 0 := rfl
  have hp := hI.2.1
  have t := s_tesL (c0 := c) hT hn hK h6 (n + 2) true ((fu x.1.1 29 0, x.1.2), x.2) c (ra.wk (by show K + 0 ≤ K; omega) (Int.le_refl _)) hz (by
    have e : (((fu x.1.1 29 0, x.1.2), x.2) : GT).1.1 21 = x.1.1 21 := rfl
    rw [e]
    omega) AF.rf (fun _ => ⟨⟨c3, hB, hE, h9⟩, ⟨fun i hi => absurd hi (Nat.not_lt_zero i), fun i hi => absurd hi (Nat.not_lt_zero i)⟩, hd.2.2⟩) (fun z => by cases z)
  rw [e0] at t
  exact t
end BDY
