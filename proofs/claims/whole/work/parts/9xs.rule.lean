-- A LAW, A WANT AS IT WAS READ: in both
theorem cut7_i {f : Nat → Int} {i : Nat} (h : i < 7) : cut7 f i = f i := by
  rcases (show i = 0 ∨ i = 1 ∨ i = 2 ∨ i = 3 ∨ i = 4 ∨ i = 5 ∨ i = 6 by omega) with rfl | rfl | rfl | rfl | rfl | rfl | rfl <;> rfl
theorem cutC_i {f : Nat → Int} {sl v : Int} (h8 : sl < 8) (h : 0 ≤ v ∧ v < 7) : cutC f v.toNat = f (wmp sl v).toNat := by
  have e : ∀ v : Int, wmp sl v = [0, 1, 6, 2, 3, 4, 5].getD v.toNat 0 := fun v => if_pos h8
  rw [e]
  rcases (show v = 0 ∨ v = 1 ∨ v = 2 ∨ v = 3 ∨ v = 4 ∨ v = 5 ∨ v = 6 by omega) with rfl | rfl | rfl | rfl | rfl | rfl | rfl <;> rfl
theorem cut11_i {f : Nat → Int} {i : Nat} (h : i < 11) : cut11 f i = f i := if_pos h
/-- the law of some rows -/
noncomputable def lwM (sl : Int) (M : Nat) (s m t a b e st : Nat → Int) : LW := (fun kk w => smV sl (kk : Int) w s m t a b e M 0, fun k => st (k - 2))
section RUL2
variable {W W2 : AW} {sl : Int} {M sz ll ca cb cc ce cf k : Nat} {gd gi gm ge s m t a b e st : Nat → Int}
theorem LawR.mk2 (h8 : 0 ≤ sl ∧ sl < 8) (h1 : TxC sl M sz gd gi gm ge s m t a b e) (h2 : TxC sl M sz gd gi gm ge (ar W2 168) (ar W2 169) (ar W2 171) (ar W2 173) (ar W2 174) (ar W2 175)) (h170 : ar W2 170 sl.toNat = (M : Int)) (hst : ∀ k : Nat, k < 6 → onF (ar W2 171) (ar W2 172) sl ((k + 2 : Nat) : Int) (usI k) M = st k) : LawR W2 sl (lwM sl M s m t a b e st) := by
  intro W hR hS
  obtain ⟨s1, s2, s3⟩ := hS
  have hM := h1.1
  have eb : (12 * sl.toNat : Int) = 12 * sl := by omega
  have h3 : TxC sl M sz gd gi gm ge (ar W 168) (ar W 169) (ar W 171) (ar W 173) (ar W 174) (ar W 175) := h2.cg h8.1 (fun i x y => s1 i x y) (fun i x y => ⟨(s3 i x y).1, (s3 i x y).2.2.1, (s3 i x y).2.2.2.1, (s3 i x y).2.2.2.2⟩)
  have q170 : ar W 170 sl.toNat = (M : Int) := s2.trans h170
  have on : ∀ k : Nat, k < 6 → onF (ar W 171) (ar W 172) sl ((k + 2 : Nat) : Int) (usI k) M = st k := fun k hk => by
    rw [← hst k hk]
    exact onF_e M (fun j hj => by
      have := s3 (12 * sl + (j : Int)).toNat (by omega) (by omega)
      exact ⟨this.1, this.2.1⟩)
  have yo := fun (k d : Int) (Q : AQ) => y_once (W := W) (Q := Q) (sl := sl) (k := k) (d := d) hR ⟨h8.1, by omega⟩ hM q170
  have tx := h3.tr q170
  have n7 : wNo sl = 7 := if_pos h8.2
  have sm := fun (kk : Int) (hk : kk = 0 ∨ kk = 1) => smV_u (w := cut7 (ar W 177)) (w2 := ar W 177) h8.2 hk h1 h3 (fun i hi => (cut7_i (by omega)).symm) M 0 (by omega)
  refine ⟨fun Q => ?_, fun Q => ?_, fun Q => ?_, fun Q => ?_, fun Q => ?_, fun Q => ?_, fun Q hQ => ?_, fun Q hQ => ?_⟩
  · have o := on 0 (by decide)
    have y := yo 2 1000 Q
    rw [show onF (ar W 171) (ar W 172) sl 2 1000 M = st 0 from o] at y
    exact y
  · have o := on 1 (by decide)
    have y := yo 3 1000 Q
    rw [show onF (ar W 171) (ar W 172) sl 3 1000 M = st 1 from o] at y
    exact y
  · have o := on 2 (by decide)
    have y := yo 4 1000 Q
    rw [show onF (ar W 171) (ar W 172) sl 4 1000 M = st 2 from o] at y
    exact y
  · have o := on 3 (by decide)
    have y := yo 5 3 Q
    rw [show onF (ar W 171) (ar W 172) sl 5 3 M = st 3 from o] at y
    exact y
  · have o := on 4 (by decide)
    have y := yo 6 1 Q
    rw [show onF (ar W 171) (ar W 172) sl 6 1 M = st 4 from o] at y
    exact y
  · have o := on 5 (by decide)
    have y := yo 7 0 Q
    rw [show onF (ar W 171) (ar W 172) sl 7 0 M = st 5 from o] at y
    exact y
  · refine y_sumOf hR h8 tx (Or.inl rfl) (fun g => ?_)
    rw [sm 0 (Or.inl rfl)]
    exact hQ g
  · refine y_sumOf hR h8 tx (Or.inr rfl) (fun g => ?_)
    rw [sm 1 (Or.inr rfl)]
    exact hQ g
theorem LawC.mk2 (h8 : 0 ≤ sl ∧ sl < 8) (h1 : TxC sl M sz gd gi gm ge s m t a b e) (hl : W2.2 ll = o6 ca cb cc ce cf) (hd : W2.2 ca = ea 0 sz gd) (hi : W2.2 cb = ea 0 M gi) (hm : W2.2 cc = ea 0 M gm) (he : W2.2 ce = ea 0 M ge) (hf : W2.2 cf = ea 0 6 st) (bl : 192 ≤ ll ∧ ll < W2.1) (bd : 192 ≤ ca ∧ ca < W2.1) (bi : 192 ≤ cb ∧ cb < W2.1) (bm : 192 ≤ cc ∧ cc < W2.1) (be : 192 ≤ ce ∧ ce < W2.1) (bf : 192 ≤ cf ∧ cf < W2.1) : LawC W2 ll (lwM sl M s m t a b e st) := by
  refine ⟨ca, cb, cc, ce, cf, st, bl.1, bl.2, bf.1, bf.2, hl, hf, fun k hk => ?_, ⟨bd, bi, bm, be⟩, fun W hC hle ha => ?_⟩
  · show st k = st (k + 2 - 2)
    rw [Nat.add_sub_cancel]
  · have n7 : wNo sl = 7 := if_pos h8.2
    have xs := fun (kk : Int) (hk : kk = 0 ∨ kk = 1) (Q : AQ) hQ => x_sumOf (W := W) (Q := Q) (kk := kk) (w := cutC (ar W 128)) hC h8 h1 hk ((ha ll (Or.inl rfl)).trans hl) ((ha ca (Or.inr (Or.inl rfl))).trans hd) ((ha cb (Or.inr (Or.inr (Or.inl rfl)))).trans hi) ((ha cc (Or.inr (Or.inr (Or.inr (Or.inl rfl))))).trans hm) ((ha ce (Or.inr (Or.inr (Or.inr (Or.inr (Or.inl rfl)))))).trans he) ⟨bl.1, by omega⟩ ⟨bd.1, by omega⟩ ⟨bi.1, by omega⟩ ⟨bm.1, by omega⟩ ⟨be.1, by omega⟩ (fun v p q => cutC_i h8.2 ⟨p, by omega⟩) hQ
    exact ⟨fun Q hQ => xs 0 (Or.inl rfl) Q hQ, fun Q hQ => xs 1 (Or.inr rfl) Q hQ⟩
/-- the want of some rows -/
noncomputable def wnM (sl : Int) (M : Nat) (s m t b e : Nat → Int) : WN := (M, fun c => t (clI c sl), fun c w => (evS w s m ((300 * sl).toNat + (b (clI c sl)).toNat) ((e (clI c sl)).toNat - (b (clI c sl)).toNat)).headD 0)
theorem WantR.mk2 (h1 : TxC (8 + (k : Int)) M sz gd gi gm ge s m t a b e) (h2 : TxC (8 + (k : Int)) M sz gd gi gm ge (ar W2 168) (ar W2 169) (ar W2 171) (ar W2 173) (ar W2 174) (ar W2 175)) (hk : k < 8) (h170 : ar W2 170 (8 + k) = (M : Int)) : WantR W2 k (wnM (8 + (k : Int)) M s m t b e) := by
  have hM := h1.1
  have ec : ∀ c : Nat, clI c (8 + (k : Int)) = 12 * (8 + k) + c := fun c => by unfold clI; omega
  have e8 : ((8 + k : Nat) : Int) = 8 + (k : Int) := by omega
  have n8 : ¬ (8 + (k : Int)) < 8 := by omega
  obtain ⟨-, x2, x3, x4, x5⟩ := id h1
  obtain ⟨-, y2, y3, y4, y5⟩ := id h2
  have both : ∀ c : Nat, c < M → ar W2 171 (12 * (8 + k) + c) = t (clI c (8 + (k : Int))) ∧ ar W2 174 (12 * (8 + k) + c) = b (clI c (8 + (k : Int))) ∧ ar W2 175 (12 * (8 + k) + c) = e (clI c (8 + (k : Int))) := fun c hc => by
    obtain ⟨q, p1, p2, p3, p4, p5, p6, p7, p8, -⟩ := x5 c hc
    obtain ⟨q', r1, r2, r3, r4, r5, r6, r7, r8, -⟩ := y5 c hc
    have ek : q = q' := cuI_u p1 r1 (p3.symm.trans r3)
    subst ek
    rw [← ec]
    exact ⟨r2.trans p2.symm, r4.symm.trans p4, r5.symm.trans p5⟩
  refine ⟨h170, fun c hc => (both c hc).1, fun W hR hS c hc Q hQ => ?_⟩
  have hc : c < M := hc
  obtain ⟨s1, s2, s3⟩ := hS
  have et : (((8 + k : Nat) : Int)).toNat = 8 + k := Int.toNat_natCast _
  rw [et] at s1 s2 s3
  obtain ⟨q, p1, p2, p3, p4, p5, p6, p7, -, p9⟩ := x5 c hc
  obtain ⟨q', r1, r2, r3, r4, r5, r6, r7, -, r9⟩ := y5 c hc
  obtain ⟨b1, b2, b3⟩ := both c hc
  have s3c := s3 (12 * (8 + k) + c) (by omega) (by omega)
  have p9 := p9 (by omega)
  have r9 := r9 (by omega)
  rw [ec, b2, b3] at r9
  rw [s3c.2.2.2.1, s3c.2.2.2.2, b2, b3, e8]
  have eB : (300 * (8 + (k : Int))).toNat = 300 * (8 + k) := by omega
  have tW : tyS (wNo (8 + (k : Int))) (ar W 168) (ar W 169) ((300 * (8 + (k : Int))).toNat + (b (clI c (8 + (k : Int)))).toNat) ((e (clI c (8 + (k : Int)))).toNat - (b (clI c (8 + (k : Int)))).toNat) = some [true] := by
    rw [tyS_e (s := ar W2 168) (m := ar W2 169) _ (fun i x y => s1 i (by omega) (by omega))]
    exact r9
  have n11 : wNo (8 + (k : Int)) = 11 := if_neg n8
  have ev := evS_u (w := cut11 (ar W 177)) (w2 := ar W 177) (sl := 8 + (k : Int)) (fun i hi => (cut11_i (by omega)).symm) _ p9 tW (fun i x y => by
    have z1 := x4 (i - (300 * (8 + (k : Int))).toNat) (by omega)
    have z2 := y4 (i - (300 * (8 + (k : Int))).toNat) (by omega)
    rw [show (300 * (8 + (k : Int))).toNat + (i - (300 * (8 + (k : Int))).toNat) = i by omega] at z1 z2
    have z3 := s1 i (by omega) (by omega)
    rw [z3.1, z3.2]
    exact z1.symm.trans z2)
  have y := y_ans (W := W) (Q := Q) (sl := 8 + (k : Int)) (A := (b (clI c (8 + (k : Int)))).toNat) (K := (e (clI c (8 + (k : Int)))).toNat - (b (clI c (8 + (k : Int)))).toNat) (t := true) (N := wNo (8 + (k : Int))) hR (by omega) (by omega) (by omega) tW (fun g => by rw [ev]; exact hQ g)
  rw [show (((b (clI c (8 + (k : Int)))).toNat + ((e (clI c (8 + (k : Int)))).toNat - (b (clI c (8 + (k : Int)))).toNat) : Nat) : Int) = e (clI c (8 + (k : Int))) by omega, Int.toNat_of_nonneg (by omega)] at y
  exact y
theorem WantC.mk2 (h1 : TxC (8 + (k : Int)) M sz gd gi gm ge s m t a b e) (hk : k < 8) (hl : W2.2 ll = o6 ca cb cc ce cf) (hd : W2.2 ca = ea 0 sz gd) (hi : W2.2 cb = ea 0 M gi) (hm : W2.2 cc = ea 0 M gm) (he : W2.2 ce = ea 0 M ge) (bl : 192 ≤ ll ∧ ll < W2.1) (bd : 192 ≤ ca ∧ ca < W2.1) (bi : 192 ≤ cb ∧ cb < W2.1) (bm : 192 ≤ cc ∧ cc < W2.1) (be : 192 ≤ ce ∧ ce < W2.1) (bf : 192 ≤ cf ∧ cf < W2.1) : WantC W2 ll (wnM (8 + (k : Int)) M s m t b e) := by
  have n8 : ¬ (8 + (k : Int)) < 8 := by omega
  obtain ⟨-, x2, x3, x4, x5⟩ := id h1
  refine ⟨ca, cb, cc, ce, cf, gi, gm, ge, bl, hl, ⟨bd, bi, bm, be, bf⟩, ⟨hi, hm, he⟩, fun c hc => ?_, fun W hC hle ha c hc Q hQ => ?_⟩
  · have hc : c < M := hc
    obtain ⟨q, p1, p2, p3, p4, p5, p6, p7, -, p9⟩ := x5 c hc
    show gi c = 8 + t (clI c (8 + (k : Int)))
    unfold clN at p1
    rw [if_neg n8] at p1
    have := cuI_w (s := 8 + (k : Int)) n8 p1
    omega
  · have hc : c < M := hc
    obtain ⟨q, p1, p2, p3, p4, p5, p6, p7, -, p9⟩ := x5 c hc
    have n11 : wNo (8 + (k : Int)) = 11 := if_neg n8
    have x := x_res (W := W) (Q := Q) (A := b (clI c (8 + (k : Int)))) (B := e (clI c (8 + (k : Int)))) (τ := true) (ca := ca) (w := cut11 (ar W 128)) hC h1 ((ha ca (Or.inr (Or.inl rfl))).trans hd) ⟨bd.1, by omega⟩ (fun v p q => by
      have em : wmp (8 + (k : Int)) v = v := if_neg n8
      rw [em]
      exact cut11_i (by omega)) (by omega) p7.2.2.1 p7.2.2.2 (p9 (by omega)) hQ (ar W 129)
    rw [wu_id (ca_129 hC), ← p4, ← p5] at x
    exact x
theorem WOk.mk2 (h1 : TxC (8 + (k : Int)) M sz gd gi gm ge s m t a b e) : WOk (wnM (8 + (k : Int)) M s m t b e) := by
  have n8 : ¬ (8 + (k : Int)) < 8 := by omega
  obtain ⟨hM, x2, x3, x4, x5⟩ := id h1
  refine ⟨hM, fun c hc => ?_⟩
  have hc : c < M := hc
  obtain ⟨q, p1, p2, p3, p4, p5, p6, p7, -, p9⟩ := x5 c hc
  unfold clN at p1
  rw [if_neg n8] at p1
  refine ⟨?_, fun w => ?_⟩
  · show t (clI c (8 + (k : Int))) = 0 ∨ t (clI c (8 + (k : Int))) = 1
    omega
  · have ok := okS (w := w) (p9 (by omega))
    show (evS w s m ((300 * (8 + (k : Int))).toNat + (b (clI c (8 + (k : Int)))).toNat) ((e (clI c (8 + (k : Int)))).toNat - (b (clI c (8 + (k : Int)))).toNat)).headD 0 = 0 ∨ (evS w s m ((300 * (8 + (k : Int))).toNat + (b (clI c (8 + (k : Int)))).toNat) ((e (clI c (8 + (k : Int)))).toNat - (b (clI c (8 + (k : Int)))).toNat)).headD 0 = 1
    generalize evS w s m ((300 * (8 + (k : Int))).toNat + (b (clI c (8 + (k : Int)))).toNat) ((e (clI c (8 + (k : Int)))).toNat - (b (clI c (8 + (k : Int)))).toNat) = l at *
    match l, ok with
    | [x], ok => exact ok.1 rfl
end RUL2
