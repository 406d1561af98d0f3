-- CLASS AND REFERENCE READ ALIKE: which clause; a setting
def ResC (T : Nat → Int) (n : Nat) (c : CR) (σ τ : GS) (G : CR → Prop) : Prop := FrS σ τ ∧ (¬ τ.1 22 = 0 → FtC T n c (τ.1 22)) ∧ (τ.1 22 = 0 → ∃ d, Rc T n c d ∧ G d)
section SET
variable {T : Nat → Int} {n h p i j : Nat} {c d c0 : CR} {σ τ ρ : GS} {x y : GT} {s v r K D : Int} {A B C : List Bool} {q : UQ} {o pl : Nat → Int}
theorem Res.toC {G : CR → Prop} (h : Res T n c σ τ A B G) : ResC T n c σ τ (fun d => G d ∧ TyR σ τ A B) := ⟨h.1, h.2.1, fun z => by
  obtain ⟨t, d, r, g⟩ := h.2.2 z
  exact ⟨d, r, g, t⟩⟩
theorem ResC.seq {G H : CR → Prop} (h1 : ResC T n c σ τ G) (hF : ¬ τ.1 22 = 0 → FS τ ρ) (h2 : ∀ d, G d → τ.1 22 = 0 → ResC T n d τ ρ H) : ResC T n c σ ρ H := by
  obtain ⟨a1, a2, a3⟩ := h1
  by_cases z : τ.1 22 = 0
  · obtain ⟨d, r, g⟩ := a3 z
    obtain ⟨b1, b2, b3⟩ := h2 d g z
    refine ⟨a1.tr b1, fun y => r.2 _ (b2 y), fun y => ?_⟩
    obtain ⟨e, r2, g2⟩ := b3 y
    exact ⟨e, r.tr r2, g2⟩
  · have f := hF z
    refine ⟨a1.tr f.fr, fun _ => by rw [f.1]; exact a2 z, fun y => absurd (f.1.symm.trans y) z⟩
theorem ResC.rc {G : CR → Prop} (hr : Rc T n c d) (h : ResC T n d σ τ G) : ResC T n c σ τ G := by
  obtain ⟨a1, a2, a3⟩ := h
  refine ⟨a1, fun z => hr.2 _ (a2 z), fun z => ?_⟩
  obtain ⟨e, r, g⟩ := a3 z
  exact ⟨e, hr.tr r, g⟩
theorem ResC.one {H : CR → Prop} (hf : FrS σ τ) (hz : τ.1 22 = 0) (h : H c) : ResC T n c σ τ H := ⟨hf, fun z => absurd hz z, fun _ => ⟨c, Rc.rf, h⟩⟩
theorem ResC.up {G H : CR → Prop} (h : ResC T n c σ τ G) (hg : τ.1 22 = 0 → ∀ d, G d → H d) : ResC T n c σ τ H := by
  obtain ⟨a1, a2, a3⟩ := h
  refine ⟨a1, a2, fun z => ?_⟩
  obtain ⟨e, r, g⟩ := a3 z
  exact ⟨e, r, hg z e g⟩
/-- a fault of the class at the next piece -/
theorem ResC.no {G : CR → Prop} (hP : rn isB T n (c.2.1 5).toNat = p) (h6 : ¬ c.1 3 = 6) (h5 : (c.2.1 5).toNat ≤ n) (hs : (tkPc (adv T n c)).1 = false ∧ (tkPc (adv T n c)).2.1 0 = s) (hτ : τ.1 22 = s + (1 + 8 * (p : Int))) (h0 : 0 ≤ s) (hf : FrS σ τ) : ResC T n c σ τ G := by
  refine ⟨hf, fun _ => FtC.st h6 hs.1 h5 ?_, fun z => by omega⟩
  rw [hs.2, hP, hτ]
/-- which clause begins -/
theorem kiH_e (h1 : d.2.1 1 = tzS T n p) (h2 : d.2.1 2 = tzV T n p) (h0 : 0 ≤ s ∧ s ≤ 15) : fdW T n p (cuI s) (clN s) 0 ≤ clN s ∧ (fdW T n p (cuI s) (clN s) 0 = clN s → ¬ ((if s < 8 then (0 : Int) else 8) ≤ kiH d ∧ kiH d ≤ (if s < 8 then 7 else 9))) ∧ (¬ fdW T n p (cuI s) (clN s) 0 = clN s → kiH d = ((cuI s (fdW T n p (cuI s) (clN s) 0) : Nat) : Int) ∧ stP T n p (cuI s (fdW T n p (cuI s) (clN s) 0))) := by
  have b := fdW_b (T := T) (n := n) (p := p) (w := cuI s) (clN s) 0
  have x := fdW_x (T := T) (n := n) (p := p) (w := cuI s) (clN s) 0
  have wb := wdV_b (T := T) (n := n) (p := p)
  have hki : ∀ v : Nat, v < 30 → (kiH d = (v : Int) ↔ stP T n p v) := fun v hv => by
    rw [← isW_e (T := T) (n := n) (p := p) (d := d) hv h1 h2]
    unfold kiH isW
    by_cases z : d.2.1 1 = 2
    · rw [if_pos z]
      exact ⟨fun e => ⟨z, e⟩, fun e => e.2⟩
    · rw [if_neg z]
      exact ⟨fun e => by omega, fun e => absurd e.1 z⟩
  refine ⟨by omega, fun e => ?_, fun e => ?_⟩
  · intro q
    have y := x (by omega)
    unfold clN at y
    unfold cuI at y
    by_cases c8 : s < 8
    · rw [if_pos c8] at q y
      rw [if_pos c8] at q
      obtain ⟨v, hv⟩ : ∃ v : Nat, kiH d = (v : Int) := ⟨(kiH d).toNat, by omega⟩
      have hs := (hki v (by omega)).mp hv
      have key : ∀ v : Nat, v < 8 → ∃ j, j < 8 ∧ [6, 7, 0, 1, 2, 3, 4, 5].getD j 5 = v := by decide
      obtain ⟨j, hj, ej⟩ := key v (by omega)
      have y2 := y j (by omega) (by omega)
      rw [if_pos c8, ej] at y2
      exact y2 hs
    · rw [if_neg c8] at q y
      rw [if_neg c8] at q
      obtain ⟨v, hv⟩ : ∃ v : Nat, kiH d = (v : Int) := ⟨(kiH d).toNat, by omega⟩
      have hs := (hki v (by omega)).mp hv
      have key : ∀ v : Nat, v < 10 → 8 ≤ v → ∃ j, j < 2 ∧ [8, 9].getD j 9 = v := by decide
      obtain ⟨j, hj, ej⟩ := key v (by omega) (by omega)
      have y2 := y j (by omega) (by omega)
      rw [if_neg c8, ej] at y2
      exact y2 hs
  · have y := b.2.2 (by omega)
    exact ⟨(hki _ (cuI_b _ _)).mpr y, y⟩
theorem amF_2 {lo most : Int} : (amF T n lo most σ).2 = σ.2 := by
  unfold amF
  split <;> rfl
theorem am_f {lo most : Int} (hz : ¬ σ.1 22 = 0) : FS σ (amF T n lo most σ) := by
  have s := sk_f (T := T) (n := n) (σ := σ)
  have d := s.tr (dgt_f (T := T) (n := n) (most := most) (s.nz hz))
  unfold amF
  split
  · exact d.tr (flt_f (d.nz hz))
  · exact d
/-- a setting's number -/
theorem s_am {k : Nat} (hT : Ty T) (hk : k < 6) (hI : RI n K D σ) (hf : σ.1 22 = 0) (c3 : c.1 3 = 1) (hB : SB T n c σ) (hE : SE (qOf c) σ) (hi : c.2.2.2.2.1 (c.1 14).toNat = (k : Int)) : ResC T n c σ (amF T n (if k + 2 = 5 then 1 else 0) (if k + 2 = 5 ∨ k + 2 = 6 then 9 else 1000) σ) (fun d => d.1 3 = 5 ∧ SB T n d (amF T n (if k + 2 = 5 then 1 else 0) (if k + 2 = 5 ∨ k + 2 = 6 then 9 else 1000) σ) ∧ SE (qOf d) (amF T n (if k + 2 = 5 then 1 else 0) (if k + 2 = 5 ∨ k + 2 = 6 then 9 else 1000) σ) ∧ d.1 9 = c.1 9 ∧ d.1 14 = c.1 14 ∧ d.2.2.2.2.1 = c.2.2.2.2.1 ∧ d.2.2.2.2.2.1 = c.2.2.2.2.2.1 ∧ d.2.2.2.2.2.2.1 = c.2.2.2.2.2.2.1 ∧ d.2.2.2.2.2.2.2 = fu c.2.2.2.2.2.2.2 k (amV T n σ) ∧ (smI k ≤ amV T n σ ∧ amV T n σ ≤ laI k)) := by
  obtain ⟨s1, -⟩ := hI.sk (T := T)
  have e21 : (skF T n σ).1 21 = ((rn isB T n (σ.1 21).toNat : Nat) : Int) := sk_e
  have f22 : (skF T n σ).1 22 = 0 := by rw [sk_o (by decide)]; exact hf
  have hP : rn isB T n (c.2.1 5).toNat = ((skF T n σ).1 21).toNat := by rw [e21, Int.toNat_natCast]; exact hB.2.1
  have b4 := hB.1
  have eT : tkPc (adv T n c) = tkG (adv T n c) := by
    unfold tkPc
    rw [show (adv T n c).1 3 = 1 from c3]
    rfl
  have hil : (adv T n c).2.2.2.2.1 ((adv T n c).1 14).toNat = (k : Int) := hi
  have lim : smI k = (if k + 2 = 5 then 1 else 0) ∧ laI k = (if k + 2 = 5 ∨ k + 2 = 6 then 9 else 1000) := (show ∀ k, k < 6 → smI k = (if k + 2 = 5 then 1 else 0) ∧ laI k = (if k + 2 = 5 ∨ k + 2 = 6 then 9 else 1000) by decide +kernel) k hk
  have lb : 0 ≤ smI k ∧ laI k ≤ 99999 := (show ∀ k, k < 6 → 0 ≤ smI k ∧ laI k ≤ 99999 by decide +kernel) k hk
  rw [← lim.1, ← lim.2]
  have fo : ∀ j, j ≠ 21 → j ≠ 22 → (amF T n (smI k) (laI k) σ).1 j = σ.1 j := fun j a b => am_o a b
  have fr : FrS σ (amF T n (smI k) (laI k) σ) := FrS.eq amF_2 (fo 26 (by decide) (by decide)) (fo 23 (by decide) (by decide))
  have eV : amV T n σ = dgV T n ((skF T n σ).1 21).toNat := rfl
  have eA : amF T n (smI k) (laI k) σ = if (dgF T n (laI k) (skF T n σ)).1 22 = 0 ∧ dgV T n ((skF T n σ).1 21).toNat < smI k then flF 1 ((skF T n σ).1 21) (dgF T n (laI k) (skF T n σ)) else dgF T n (laI k) (skF T n σ) := rfl
  generalize hA : amF T n (smI k) (laI k) σ = τ at *
  rw [eV]
  have g28 : τ.1 28 = σ.1 28 := fo 28 (by decide) (by decide)
  have t2 : τ.2 = σ.2 := by rw [← hA]; exact amF_2
  generalize skF T n σ = σ1 at *
  have hp1 := s1.2.1
  obtain ⟨p, hp⟩ : ∃ p : Nat, σ1.1 21 = (p : Int) := ⟨(σ1.1 21).toNat, by omega⟩
  have ep : (σ1.1 21).toNat = p := by omega
  rw [ep] at hP eA ⊢
  have k1 : (adv T n c).2.1 1 = tzS T n p := by rw [adv_1, hP]
  have k2 : (adv T n c).2.1 2 = tzV T n p := by rw [adv_2, hP]
  have hb5 := (rn_b (P := isB) (T := T) (n := n) (p := (c.2.1 5).toNat)).1
  by_cases cd : p < n ∧ isDg (T p) = true
  · have t1 : (adv T n c).2.1 1 = 1 := by rw [k1]; unfold tzS; rw [if_pos cd.1, if_pos cd.2]
    have tv : (adv T n c).2.1 2 = nuV T n p := by rw [k2]; unfold tzV; rw [if_pos cd.1, if_pos cd.2]
    have eN : tzN T n p = rn isDg T n p := by unfold tzN; rw [if_pos cd.1, if_pos cd.2]
    have eD : dgV T n p = nmV T n p := by unfold dgV; rw [if_pos cd]
    have no : ∀ u : Int, ¬ (smI k ≤ nuV T n p ∧ laI k ≥ nuV T n p) → τ.1 22 = 1 + (1 + 8 * (p : Int)) → ResC T n c σ τ (fun d => d.1 3 = 5 ∧ SB T n d τ ∧ SE (qOf d) τ ∧ d.1 9 = c.1 9 ∧ d.1 14 = c.1 14 ∧ d.2.2.2.2.1 = c.2.2.2.2.1 ∧ d.2.2.2.2.2.1 = c.2.2.2.2.2.1 ∧ d.2.2.2.2.2.2.1 = c.2.2.2.2.2.2.1 ∧ d.2.2.2.2.2.2.2 = fu c.2.2.2.2.2.2.2 k (dgV T n p) ∧ (smI k ≤ dgV T n p ∧ dgV T n p ≤ laI k)) := fun u hu ht => by
      refine ResC.no (s := 1) hP (by omega) (by omega) ?_ ht (by decide) fr
      rw [eT]
      unfold tkG
      rw [if_pos t1, hil, Int.toNat_natCast, tv, if_neg hu]
      exact ⟨rfl, rfl⟩
    by_cases c5 : 5 < rn isDg T n p - p ∨ laI k < nmV T n p
    · have ed : dgF T n (laI k) σ1 = flF 1 (p : Int) (fu σ1.1 21 ((rn isDg T n p : Nat) : Int), σ1.2) := by
        unfold dgF dgG
        rw [ep, if_pos cd, if_pos c5]
        rfl
      have e0 : (fu σ1.1 21 ((rn isDg T n p : Nat) : Int)) 22 = 0 := by rw [fu_ne _ _ (by decide)]; exact f22
      have e22 : (dgF T n (laI k) σ1).1 22 = 1 + 8 * (p : Int) + 1 := by rw [ed, fl_e, if_pos e0]
      rw [if_neg (fun z => by have := z.1; omega)] at eA
      refine no 0 ?_ (by rw [eA, e22]; omega)
      unfold nuV
      by_cases c6 : 5 < rn isDg T n p - p
      · rw [if_pos c6]
        omega
      · rw [if_neg c6]
        have := c5.resolve_left c6
        omega
    · have n5 : ¬ 5 < rn isDg T n p - p := fun z => c5 (Or.inl z)
      have nl : ¬ laI k < nmV T n p := fun z => c5 (Or.inr z)
      have eu : nuV T n p = nmV T n p := by unfold nuV; rw [if_neg n5]
      have ed : dgF T n (laI k) σ1 = (fu σ1.1 21 ((rn isDg T n p : Nat) : Int), σ1.2) := by
        unfold dgF dgG
        rw [ep, if_pos cd, if_neg c5]
      have e22 : (dgF T n (laI k) σ1).1 22 = 0 := by
        rw [ed]
        show fu σ1.1 21 ((rn isDg T n p : Nat) : Int) 22 = 0
        rw [fu_ne _ _ (by decide)]
        exact f22
      rw [eD] at eA
      by_cases cl : nmV T n p < smI k
      · rw [if_pos ⟨e22, cl⟩] at eA
        refine no 0 (by rw [eu]; omega) ?_
        rw [eA, fl_e, if_pos e22, hp]
        omega
      · rw [if_neg (fun z => cl z.2)] at eA
        have z22 : τ.1 22 = 0 := by rw [eA]; exact e22
        have t21 : τ.1 21 = ((rn isDg T n p : Nat) : Int) := by rw [eA, ed]; rfl
        have ht : tkPc (adv T n c) = (true, wR (wS (adv T n c) k (nmV T n p)) 3 5) := by
          rw [eT]
          unfold tkG
          rw [if_pos t1, hil, Int.toNat_natCast, tv, eu, if_pos (by omega)]
        have k5 : (tkPc (adv T n c)).2.2.1 5 = ((rn isDg T n p : Nat) : Int) := by rw [(tkP_f (c := adv T n c)).1, adv_5, hP, eN]
        have hN := tkN_g (T := T) cd.1
        have hN2 := tkN_b (T := T) (n := n) (p := p) (by omega)
        rw [eN] at hN hN2
        have rc := Rc.st (c := c) (T := T) (n := n) (by omega) (by rw [ht]) (by omega) (by rw [k5]; omega)
        rw [ht] at rc k5
        refine ResC.rc rc (ResC.one fr z22 ⟨rfl, ⟨⟨hB.1.1, by rw [k5]; omega, by rw [k5]; omega⟩, by rw [k5, t21], by rw [g28]; exact hB.2.2.1, by rw [fo 23 (by decide) (by decide)]; exact hB.2.2.2⟩, ?_, rfl, rfl, rfl, rfl, rfl, ?_, ?_⟩)
        · exact SE.cg (q := qOf c) hE (fo 26 (by decide) (by decide)) (fo 27 (by decide) (by decide)) (fo 23 (by decide) (by decide)) t2
        · rw [eD]
          rfl
        · rw [eD]
          omega
  · have ed : dgF T n (laI k) σ1 = flF 0 (p : Int) σ1 := by
      unfold dgF dgG
      rw [ep, if_neg cd]
      rfl
    have e22 : (dgF T n (laI k) σ1).1 22 = 1 + 8 * (p : Int) + 0 := by rw [ed, fl_e, if_pos f22]
    rw [if_neg (fun z => by have := z.1; omega)] at eA
    have t1 : ¬ (adv T n c).2.1 1 = 1 := by
      rw [k1]
      unfold tzS
      by_cases c0 : p < n
      · rw [if_pos c0, if_neg (fun z => cd ⟨c0, z⟩)]
        split <;> decide
      · rw [if_neg c0]
        decide
    refine ResC.no (s := 0) hP (by omega) (by omega) ?_ (by rw [eA, e22]; omega) (by decide) fr
    rw [eT]
    unfold tkG
    rw [if_neg t1]
    exact ⟨rfl, rfl⟩
end SET
