-- CLASS AND REFERENCE READ ALIKE: a clause
/-- of rows of clauses, only one place is written -/
def FrW (i : Nat) (W W' : AW) : Prop := W'.1 = W.1 ∧ (∀ k, k < 171 ∨ 175 < k → W'.2 k = W.2 k) ∧ ∀ r, 171 ≤ r → r ≤ 175 → ∀ j, ¬ j = i → ar W' r j = ar W r j
theorem FrW.rf {i : Nat} {W : AW} : FrW i W W := ⟨rfl, fun _ _ => rfl, fun _ _ _ _ _ => rfl⟩
theorem FrW.tr {i : Nat} {W V U : AW} (h : FrW i W V) (g : FrW i V U) : FrW i W U := ⟨g.1.trans h.1, fun k q => (g.2.1 k q).trans (h.2.1 k q), fun r a b j hj => (g.2.2 r a b j hj).trans (h.2.2 r a b j hj)⟩
theorem FrW.rw {i r : Nat} {W : AW} {v : Int} (hr : 171 ≤ r ∧ r ≤ 175) : FrW i W (rwW W r i v) := by
  refine ⟨rfl, fun k q => wu_ne (by omega), fun q a b j hj => ?_⟩
  by_cases e : q = r
  · subst e
    rw [ar_s, fu_ne _ _ hj]
  · rw [ar_n e]
theorem rw_o {q r i : Nat} {W : AW} {v : Int} (h : ¬ q = r) : ar (rwW W r i v) q = ar W q := ar_n h
theorem rw_i {r i : Nat} {W : AW} {v : Int} : ar (rwW W r i v) r i = v := by
  rw [ar_s]
  exact fu_eq _ _ _
section CLU
variable {T : Nat → Int} {n N h p i j : Nat} {c d c0 : CR} {σ τ ρ : GS} {x y : GT} {s v r K D : Int} {A B C : List Bool} {q : UQ} {o pl : Nat → Int} {W : AW}
theorem clT_W {k : Nat} {y : GWX} : FrW i y.1 (clT T n k i y).1 ∧ ar (clT T n k i y).1 171 = ar y.1 171 ∧ ar (clT T n k i y).1 173 = ar y.1 173 ∧ ar (clT T n k i y).1 175 = ar y.1 175 := by
  unfold clT
  split
  · exact ⟨FrW.rf, rfl, rfl, rfl⟩
  · split
    · split
      · by_cases ct : tkP T n 10 (suF T n y.2.1)
        · rw [if_pos ct]
          exact ⟨FrW.rw (by decide), rw_o (by decide), rw_o (by decide), rw_o (by decide)⟩
        · rw [if_neg ct]
          exact ⟨FrW.rw (by decide), rw_o (by decide), rw_o (by decide), rw_o (by decide)⟩
      · exact ⟨FrW.rw (by decide), rw_o (by decide), rw_o (by decide), rw_o (by decide)⟩
    · exact ⟨FrW.rw (by decide), rw_o (by decide), rw_o (by decide), rw_o (by decide)⟩
theorem clauseF_W {y : GWX} : FrW (clI N (y.2.1.1 23)) y.1 (clauseF T n N y).1 := by
  have e : (skF T n y.2.1).1 23 = y.2.1.1 23 := sk_o (by decide)
  unfold clauseF
  rw [e]
  split
  · exact FrW.rf
  · split
    · exact FrW.rf
    · have a : FrW (clI N (y.2.1.1 23)) y.1 (clA (clK T n y.2.1) (clI N (y.2.1.1 23)) (y.1, (adF (((wd (cuI (y.2.1.1 23) (clK T n y.2.1))).length : Nat) : Int) (skF T n y.2.1), y.2.2))).1 := ((FrW.rw (by decide)).tr (FrW.rw (by decide))).tr (FrW.rw (by decide))
      exact (a.tr clT_W.1).tr (FrW.rw (by decide))
/-- the value of a setting among the first clauses -/
def onF (t u : Nat → Int) (sl k d : Int) : Nat → Int
  | 0 => d
  | N + 1 => if t (12 * sl + (N : Int)).toNat = k then u (12 * sl + (N : Int)).toNat else onF t u sl k d N
def pvE (c : CR) (j : Nat) : Int := if j = 0 then 0 else c.2.2.2.2.2.2.1 (j - 1)
theorem told_on {t u : Nat → Int} {sl k : Int} : ∀ N : Nat, (∀ j : Nat, j < N → t (12 * sl + (j : Int)).toNat = k → 0 ≤ u (12 * sl + (j : Int)).toNat) → (toldP t sl k N = true ↔ ¬ onF t u sl k (-1) N = -1)
  | 0, _ => by
    show (false = true) ↔ ¬ (-1 : Int) = -1
    exact ⟨fun z => absurd z (by decide), fun z => absurd rfl z⟩
  | N + 1, h => by
    have ih := told_on (t := t) (u := u) (sl := sl) (k := k) N (fun j hj => h j (by omega))
    have e : toldP t sl k (N + 1) = (toldP t sl k N || (t (12 * sl + (N : Int)).toNat == k)) := rfl
    have e2 : onF t u sl k (-1) (N + 1) = if t (12 * sl + (N : Int)).toNat = k then u (12 * sl + (N : Int)).toNat else onF t u sl k (-1) N := rfl
    rw [e, e2, Bool.or_eq_true, beq_iff_eq, ih]
    by_cases c : t (12 * sl + (N : Int)).toNat = k
    · rw [if_pos c]
      have := h N (by omega) c
      exact ⟨fun _ => by omega, fun _ => Or.inr c⟩
    · rw [if_neg c]
      exact ⟨fun z => z.resolve_right c, fun z => Or.inl z⟩
theorem onF_e {t u t2 u2 : Nat → Int} {sl k d : Int} : ∀ N : Nat, (∀ j : Nat, j < N → t2 (12 * sl + (j : Int)).toNat = t (12 * sl + (j : Int)).toNat ∧ u2 (12 * sl + (j : Int)).toNat = u (12 * sl + (j : Int)).toNat) → onF t2 u2 sl k d N = onF t u sl k d N
  | 0, _ => rfl
  | N + 1, h => by
    unfold onF
    rw [onF_e N (fun j hj => h j (by omega)), (h N (by omega)).1, (h N (by omega)).2]
/-- rows of clauses: the same in both -/
def RWs (c : CR) (W : AW) (σ : GS) (N : Nat) : Prop :=
  (∀ j : Nat, j < N → ∃ k : Nat, k < clN (σ.1 23) ∧ ar W 171 (clI j (σ.1 23)) = (k : Int) ∧ c.2.2.2.2.1 j = (cuI (σ.1 23) k : Int) ∧ c.2.2.2.2.2.1 j = ar W 174 (clI j (σ.1 23)) ∧ c.2.2.2.2.2.2.1 j = ar W 175 (clI j (σ.1 23)) ∧ ar W 173 (clI j (σ.1 23)) = pvE c j ∧ (0 ≤ pvE c j ∧ pvE c j ≤ c.2.2.2.2.2.1 j ∧ c.2.2.2.2.2.1 j ≤ c.2.2.2.2.2.2.1 j ∧ c.2.2.2.2.2.2.1 j ≤ σ.1 26) ∧ (σ.1 23 < 8 → k < 2 → tyS (wNo (σ.1 23)) σ.2.1 σ.2.2 (slB σ + (pvE c j).toNat) ((c.2.2.2.2.2.1 j).toNat - (pvE c j).toNat) = some [false] ∧ (c.2.2.2.2.2.1 j = c.2.2.2.2.2.2.1 j ∨ tyS (wNo (σ.1 23)) σ.2.1 σ.2.2 (slB σ + (c.2.2.2.2.2.1 j).toNat) ((c.2.2.2.2.2.2.1 j).toNat - (c.2.2.2.2.2.1 j).toNat) = some [true])) ∧ (8 ≤ σ.1 23 → tyS (wNo (σ.1 23)) σ.2.1 σ.2.2 (slB σ + (c.2.2.2.2.2.1 j).toNat) ((c.2.2.2.2.2.2.1 j).toNat - (c.2.2.2.2.2.1 j).toNat) = some [true]) ∧ (2 ≤ k → 0 ≤ ar W 172 (clI j (σ.1 23))))
  ∧ (∀ s : Nat, s < 6 → c.2.2.2.2.2.2.2 s = onF (ar W 171) (ar W 172) (σ.1 23) ((s + 2 : Nat) : Int) (-1) N ∧ (c.2.2.2.2.2.2.2 s = -1 ∨ (smI s ≤ c.2.2.2.2.2.2.2 s ∧ c.2.2.2.2.2.2.2 s ≤ laI s)))
  ∧ pvE c N = σ.1 26 ∧ nvS σ.2.1 (slB σ) (σ.1 26).toNat ≤ σ.1 28
def CsC (T : Nat → Int) (n : Nat) (c : CR) (W : AW) (σ : GS) (N : Nat) : Prop := c.1 3 = 0 ∧ SB T n c σ ∧ SE (qOf c) σ ∧ c.1 9 = 0 ∧ c.1 14 = (N : Int) ∧ RWs c W σ N
/-- what a clause leaves, ahead of its end -/
def ClS (T : Nat → Int) (n : Nat) (c : CR) (W : AW) (σ : GS) (N : Nat) (W2 : AW) (τ : GS) (d : CR) : Prop :=
  N < 12 ∧ ∃ (k : Nat) (b : Bool), k < clN (σ.1 23) ∧ ar W2 171 (clI N (σ.1 23)) = (k : Int) ∧ ar W2 173 (clI N (σ.1 23)) = σ.1 26 ∧ ar W2 175 (clI N (σ.1 23)) = τ.1 26 ∧ EndS T n b d τ ∧ d.1 14 = (N : Int) ∧ d.2.2.2.2.1 N = (cuI (σ.1 23) k : Int) ∧ (∀ j, ¬ j = N → d.2.2.2.2.1 j = c.2.2.2.2.1 j) ∧ d.2.2.2.2.2.2.1 = c.2.2.2.2.2.2.1 ∧ (∀ j, ¬ j = N → d.2.2.2.2.2.1 j = c.2.2.2.2.2.1 j) ∧ (b = false → d.2.2.2.2.2.1 N = ar W2 174 (clI N (σ.1 23))) ∧ (b = true → ar W2 174 (clI N (σ.1 23)) = τ.1 26) ∧ StC k (ar W2 172 (clI N (σ.1 23))) (σ.1 23) c d ∧ TyC k (ar W2 174 (clI N (σ.1 23))) σ τ ∧ (0 ≤ τ.1 27 ∧ τ.1 27 ≤ 10)
theorem s_clause (hT : Ty T) (hn : n ≤ 400) (hK : 0 ≤ K) (hI : RI n K 0 σ) (hd : 0 ≤ σ.1 27 ∧ σ.1 27 ≤ σ.1 21 ∧ σ.1 27 ≤ 10) (hz : σ.1 22 = 0) (hN : N ≤ 12) (hc : CsC T n c W σ N) : ResC T n c σ (clauseF T n N (W, (σ, o))).2.1 (fun d => ClS T n c W σ N (clauseF T n N (W, (σ, o))).1 (clauseF T n N (W, (σ, o))).2.1 d) := by
  obtain ⟨c3, hB, hE, h9, h14, hR⟩ := hc
  obtain ⟨s1, s2⟩ := hI.sk (T := T)
  have e21 : (skF T n σ).1 21 = ((rn isB T n (σ.1 21).toNat : Nat) : Int) := sk_e
  have g : ∀ j, j ≠ 21 → (skF T n σ).1 j = σ.1 j := fun j hj => sk_o hj
  have hP : rn isB T n (c.2.1 5).toNat = ((skF T n σ).1 21).toNat := by rw [e21, Int.toNat_natCast]; exact hB.2.1
  have b4 := hB.1
  have f23 := g 23 (by decide)
  have h23 := s1.1.2.1
  have hp := s1.2.1
  have h26 := s1.2.2.2.2.1
  have kk := kiH_e (T := T) (n := n) (p := ((skF T n σ).1 21).toNat) (d := adv T n c) (s := (skF T n σ).1 23) (by rw [adv_1, hP]) (by rw [adv_2, hP]) h23
  have eT : tkPc (adv T n c) = tkK (adv T n c) := by
    unfold tkPc
    rw [show (adv T n c).1 3 = 0 from c3]
    rfl
  have z1 : (skF T n σ).1 22 = 0 := by rw [g 22 (by decide)]; exact hz
  have hlo : (if (adv T n c).1 2 = 0 then (0 : Int) else 8) = (if σ.1 23 < 8 then 0 else 8) ∧ (if (adv T n c).1 2 = 0 then (7 : Int) else 9) = (if σ.1 23 < 8 then 7 else 9) := by
    have e2 : (adv T n c).1 2 = (if σ.1 23 < 8 then 0 else 1) := hB.2.2.2
    rw [e2]
    by_cases c8 : σ.1 23 < 8
    · rw [if_pos c8, if_pos c8, if_pos c8]
      exact ⟨rfl, rfl⟩
    · rw [if_neg c8, if_neg c8, if_neg c8]
      exact ⟨rfl, rfl⟩
  have frF : ∀ a : Int, FrS σ (flF a ((skF T n σ).1 21) (skF T n σ)) := fun a => FrS.eq rfl (by rw [fl_o (by decide), g 26 (by decide)]) (by rw [fl_o (by decide), f23])
  have eCk : clK T n σ = fdW T n ((skF T n σ).1 21).toNat (cuI ((skF T n σ).1 23)) (clN ((skF T n σ).1 23)) 0 := rfl
  rw [f23] at kk eCk
  rw [← eCk] at kk
  unfold clauseF
  dsimp only
  rw [f23]
  generalize clK T n σ = k at *
  obtain ⟨k1, k2, k3⟩ := kk
  by_cases q1 : k = clN (σ.1 23)
  · rw [if_pos q1]
    refine ResC.no (s := 0) hP (by omega) (by omega) ?_ (by rw [fl_e, if_pos z1]; omega) (by decide) (frF 0)
    rw [eT]
    unfold tkK
    rw [hlo.1, hlo.2, if_neg (k2 q1)]
    exact ⟨rfl, rfl⟩
  · rw [if_neg q1]
    obtain ⟨k4, k5⟩ := k3 q1
    have kN : k < clN (σ.1 23) := by omega
    have kin : (if σ.1 23 < 8 then (0 : Int) else 8) ≤ kiH (adv T n c) ∧ kiH (adv T n c) ≤ (if σ.1 23 < 8 then 7 else 9) := by
      rw [k4]
      unfold clN at kN
      by_cases c8 : σ.1 23 < 8
      · rw [if_pos c8] at kN
        rw [if_pos c8, if_pos c8]
        have w := cuI_s (s := σ.1 23) c8 kN
        by_cases w2 : k < 2
        · have := w.1 w2; omega
        · have := w.2 (by omega); omega
      · rw [if_neg c8] at kN
        rw [if_neg c8, if_neg c8]
        have := cuI_w (s := σ.1 23) c8 kN
        omega
    -- a second one, a thirteenth
    have cond : ((kiH (adv T n c) < 6 ∧ ¬ (adv T n c).2.2.2.2.2.2.2 (kiH (adv T n c)).toNat = -1) ∨ 12 ≤ (adv T n c).1 14) ↔ (N = 12 ∨ (2 ≤ k ∧ toldP (ar W 171) (σ.1 23) (k : Int) N = true)) := by
      have e14 : (adv T n c).1 14 = (N : Int) := h14
      have eS : (adv T n c).2.2.2.2.2.2.2 = c.2.2.2.2.2.2.2 := rfl
      rw [e14, eS, k4, Int.toNat_natCast]
      unfold clN at kN
      by_cases c8 : σ.1 23 < 8
      · rw [if_pos c8] at kN
        have w := cuI_s (s := σ.1 23) c8 kN
        by_cases w2 : k < 2
        · have := w.1 w2
          omega
        · have w3 := w.2 (by omega)
          have on := (hR.2.1 (k - 2) (by omega)).1
          rw [show k - 2 + 2 = k by omega] at on
          have to := told_on (t := ar W 171) (u := ar W 172) (sl := σ.1 23) (k := (k : Int)) N (fun j hj ht => by
            obtain ⟨kj, a1, a2, a3, a4, a5, a6, a7, a8, a9, a10⟩ := hR.1 j hj
            have a2' : ar W 171 (12 * σ.1 23 + (j : Int)).toNat = (kj : Int) := a2
            exact a10 (by omega))
          rw [w3, on, to]
          omega
      · rw [if_neg c8] at kN
        have := cuI_w (s := σ.1 23) c8 kN
        omega
    by_cases q2 : N = 12 ∨ (2 ≤ k ∧ toldP (ar W 171) (σ.1 23) (k : Int) N = true)
    · rw [if_pos q2]
      refine ResC.no (s := 4) hP (by omega) (by omega) ?_ (by rw [fl_e, if_pos z1]; omega) (by decide) (frF 4)
      rw [eT]
      unfold tkK
      rw [hlo.1, hlo.2, if_pos kin, if_pos (cond.mpr q2)]
      exact ⟨rfl, rfl⟩
    · rw [if_neg q2]
      have n12 : N < 12 := by
        have : ¬ N = 12 := fun z => q2 (Or.inl z)
        omega
      obtain ⟨m1, m2, m3⟩ := stP_N (cuI_b _ _) k5
      have hl := wd_k (cuI (σ.1 23) k) (cuI_b _ _)
      -- the class's step
      have ht : tkPc (adv T n c) = (true, wR (wR (wM (wIk (adv T n c) N (cuI (σ.1 23) k : Int)) N (c.1 7)) 4 0) 3 (if (cuI (σ.1 23) k : Int) < 6 then 1 else if σ.1 23 < 8 then 3 else 2)) := by
        rw [eT]
        unfold tkK
        rw [hlo.1, hlo.2, if_pos kin, if_neg (fun z => q2 (cond.mp z)), k4]
        have e14 : ((adv T n c).1 14).toNat = N := by
          show (c.1 14).toNat = N
          rw [h14, Int.toNat_natCast]
        rw [e14]
        have e2 : (adv T n c).1 2 = (if σ.1 23 < 8 then 0 else 1) := hB.2.2.2
        have e3 : (if (adv T n c).1 2 = 0 then (3 : Int) else 2) = (if σ.1 23 < 8 then 3 else 2) := by
          rw [e2]
          by_cases c8 : σ.1 23 < 8
          · rw [if_pos c8, if_pos c8]
            rfl
          · rw [if_neg c8, if_neg c8]
            rfl
        rw [e3]
        rfl
      have hb5 := (rn_b (P := isB) (T := T) (n := n) (p := (c.2.1 5).toNat)).1
      have kz5 : (tkPc (adv T n c)).2.2.1 5 = (skF T n σ).1 21 + (((wd (cuI (σ.1 23) k)).length : Nat) : Int) := by rw [(tkP_f (c := adv T n c)).1, adv_5, hP, m1]; omega
      have rc := Rc.st (c := c) (T := T) (n := n) (by omega) (by rw [ht]) (by omega) (by rw [kz5]; omega)
      rw [ht] at rc kz5
      have e7 : c.1 7 = σ.1 26 := hE.1
      rw [e7] at rc kz5
      -- the reference's step
      generalize hw2 : adF (((wd (cuI (σ.1 23) k)).length : Nat) : Int) (skF T n σ) = σ2
      have o2 : ∀ j, j ≠ 21 → σ2.1 j = σ.1 j := fun j hj => by rw [← hw2, ad_o hj, g j hj]
      have o21 : σ2.1 21 = (skF T n σ).1 21 + (((wd (cuI (σ.1 23) k)).length : Nat) : Int) := by rw [← hw2]; exact ad_e
      have o12 : σ2.2 = σ.2 := by rw [← hw2]; rfl
      have aI : RI n K 0 σ2 := by
        rw [← hw2]
        exact (s1.ad (d := (((wd (cuI (σ.1 23) k)).length : Nat) : Int)) (by omega) (by omega)).wk (by omega) (Int.le_refl _)
      have i26 := o2 26 (by decide)
      have i23 := o2 23 (by decide)
      have i27 := o2 27 (by decide)
      have i28 := o2 28 (by decide)
      have z2 : σ2.1 22 = 0 := by rw [o2 22 (by decide)]; exact hz
      unfold clA
      dsimp only
      rw [i26]
      generalize hy : wR (wR (wM (wIk (adv T n c) N (cuI (σ.1 23) k : Int)) N (σ.1 26)) 4 0) 3 (if (cuI (σ.1 23) k : Int) < 6 then 1 else if σ.1 23 < 8 then 3 else 2) = c1 at *
      have v3 : c1.1 3 = (if (cuI (σ.1 23) k : Int) < 6 then 1 else if σ.1 23 < 8 then 3 else 2) := by rw [← hy]; rfl
      have v4 : c1.1 4 = 0 := by rw [← hy]; rfl
      have v9 : c1.1 9 = 0 := by rw [← hy]; exact h9
      have v14 : c1.1 14 = (N : Int) := by rw [← hy]; exact h14
      have vI : c1.2.2.2.2.1 = fu c.2.2.2.2.1 N (cuI (σ.1 23) k : Int) := by rw [← hy]; rfl
      have vM : c1.2.2.2.2.2.1 = fu c.2.2.2.2.2.1 N (σ.1 26) := by rw [← hy]; rfl
      have vE : c1.2.2.2.2.2.2.1 = c.2.2.2.2.2.2.1 := by rw [← hy]; rfl
      have vS : c1.2.2.2.2.2.2.2 = c.2.2.2.2.2.2.2 := by rw [← hy]; rfl
      have vB : SB T n c1 σ2 := by
        refine ⟨⟨?_, by rw [kz5]; omega, by rw [kz5]; omega⟩, by rw [kz5, o21], ?_, ?_⟩
        · rw [← hy]; exact hB.1.1
        · rw [i28, ← hy]; exact hB.2.2.1
        · rw [i23, ← hy]; exact hB.2.2.2
      have vQ : SE (qOf c1) σ2 := by
        have e : qOf c1 = qOf c := by rw [← hy]; rfl
        rw [e]
        exact hE.cg i26 i27 i23 o12
      have v14n : (c1.1 14).toNat = N := by rw [v14, Int.toNat_natCast]
      have t := s_clT (o := o) (i := clI N (σ.1 23)) (k := k) (W := rwW (rwW (rwW W 171 (clI N (σ.1 23)) (k : Int)) 173 (clI N (σ.1 23)) (σ.1 26)) 174 (clI N (σ.1 23)) (σ.1 26)) (c := c1) hT hn hK aI ⟨by rw [i27]; exact hd.1, by rw [i27, o21]; omega, by rw [i27]; exact hd.2.2⟩ z2 (by rw [i23]; exact kN) (by rw [i23]; exact v3) v4 vB vQ v9 (by rw [v14n, vI, i23, fu_eq]) (by rw [v14n, vM, i26, fu_eq]) (by rw [i26]; exact rw_i)
      have cw := clT_W (T := T) (n := n) (k := k) (i := clI N (σ.1 23)) (y := (rwW (rwW (rwW W 171 (clI N (σ.1 23)) (k : Int)) 173 (clI N (σ.1 23)) (σ.1 26)) 174 (clI N (σ.1 23)) (σ.1 26), (σ2, o)))
      generalize clT T n k (clI N (σ.1 23)) (rwW (rwW (rwW W 171 (clI N (σ.1 23)) (k : Int)) 173 (clI N (σ.1 23)) (σ.1 26)) 174 (clI N (σ.1 23)) (σ.1 26), (σ2, o)) = y2 at *
      obtain ⟨-, cw1, cw2, -⟩ := cw
      have r1 : ResC T n c σ y2.2.1 (fun d => (∃ b, BdS T n c1 (ar y2.1 174 (clI N (σ.1 23))) b d y2.2.1) ∧ StC k (ar y2.1 172 (clI N (σ.1 23))) (σ2.1 23) c1 d ∧ TyC k (ar y2.1 174 (clI N (σ.1 23))) σ2 y2.2.1 ∧ (0 ≤ y2.2.1.1 27 ∧ y2.2.1.1 27 ≤ 10)) := ResC.rc rc ((ResC.one (σ := σ) (τ := σ2) (H := fun d => d = c1) (FrS.eq o12 i26 i23) z2 rfl).seq (fun w => absurd z2 w) (fun d hd _ => by rw [hd]; exact t))
      refine r1.up (fun w d gd => ?_)
      obtain ⟨⟨b, u1, u2, u3, u4, u5, u6, u7⟩, u8, u9, u10⟩ := gd
      rw [v14n] at u5 u6
      have es : slB σ2 = slB σ := by unfold slB; rw [i23]
      unfold TyC at u9
      rw [i23, i26, i28, es, o12] at u9
      rw [i23] at u8
      have a171 : ar (clZ (clI N (σ.1 23)) y2).1 171 (clI N (σ.1 23)) = (k : Int) := by
        show ar (rwW y2.1 175 _ _) 171 _ = _
        rw [rw_o (by decide), cw1, rw_o (by decide), rw_o (by decide), rw_i]
      have a173 : ar (clZ (clI N (σ.1 23)) y2).1 173 (clI N (σ.1 23)) = σ.1 26 := by
        show ar (rwW y2.1 175 _ _) 173 _ = _
        rw [rw_o (by decide), cw2, rw_o (by decide), rw_i]
      have a175 : ar (clZ (clI N (σ.1 23)) y2).1 175 (clI N (σ.1 23)) = y2.2.1.1 26 := rw_i
      have a174 : ar (clZ (clI N (σ.1 23)) y2).1 174 = ar y2.1 174 := rw_o (by decide)
      have a172 : ar (clZ (clI N (σ.1 23)) y2).1 172 = ar y2.1 172 := rw_o (by decide)
      refine ⟨n12, k, b, kN, a171, a173, a175, u1, u2.trans v14, by rw [u3, vI, fu_eq], fun j hj => by rw [u3, vI, fu_ne _ _ hj], u4.trans vE, fun j hj => by rw [u5 j hj, vM, fu_ne _ _ hj], fun hb => by rw [a174]; exact u6 hb, fun hb => by rw [a174]; exact u7 hb, ?_, by rw [a174]; exact u9, u10⟩
      rw [a172]
      refine ⟨fun a e => ?_, fun a => by rw [u8.2 a, vS]⟩
      have := u8.1 a e
      rw [vS] at this
      exact this
end CLU
