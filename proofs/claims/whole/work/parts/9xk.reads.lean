-- CLASS AND REFERENCE READ ALIKE: a clause's end, a text
def CfC (d : CR) (W : AW) (σ : GS) (M : Nat) : Prop := d.1 3 = 6 ∧ SE (qOf d) σ ∧ d.1 14 = (M : Int) ∧ RWs d W σ M
def ResF (T : Nat → Int) (n : Nat) (c : CR) (σ τ : GS) (G : CR → Prop) : Prop := FrS σ τ ∧ (¬ τ.1 22 = 0 → FtC T n c (τ.1 22)) ∧ (τ.1 22 = 0 → ∃ d, OutC T n c (true, d) ∧ G d)
section RDU
variable {T : Nat → Int} {n N h p i j : Nat} {c d c0 : CR} {σ τ ρ : GS} {x y : GT} {s v r K D : Int} {A B C : List Bool} {q : UQ} {o pl : Nat → Int} {W W2 : AW}
theorem ResC.fin {G H : CR → Prop} (h1 : ResC T n c σ τ G) (hF : ¬ τ.1 22 = 0 → FS τ ρ) (h2 : ∀ d, G d → τ.1 22 = 0 → ResF T n d τ ρ H) : ResF T n c σ ρ H := by
  obtain ⟨a1, a2, a3⟩ := h1
  by_cases z : τ.1 22 = 0
  · obtain ⟨d, r, g⟩ := a3 z
    obtain ⟨b1, b2, b3⟩ := h2 d g z
    refine ⟨a1.tr b1, fun y => r.2 _ (b2 y), fun y => ?_⟩
    obtain ⟨e, r2, g2⟩ := b3 y
    exact ⟨e, r.1 _ r2, g2⟩
  · have f := hF z
    refine ⟨a1.tr f.fr, fun _ => by rw [f.1]; exact a2 z, fun y => absurd (f.1.symm.trans y) z⟩
theorem clI_i (h0 : 0 ≤ s) (e : clI i s = clI j s) : i = j := by
  unfold clI at e
  omega
/-- rows of clauses, with one more -/
theorem RWs.add {c2 : CR} {k : Nat} {m : Int} (hR : RWs c W σ N) (h23 : 0 ≤ σ.1 23) (h26 : 0 ≤ σ.1 26) (hf : FrS σ τ) (hw : FrW (clI N (σ.1 23)) W W2) (hk : k < clN (σ.1 23)) (r171 : ar W2 171 (clI N (σ.1 23)) = (k : Int)) (r173 : ar W2 173 (clI N (σ.1 23)) = σ.1 26) (r175 : ar W2 175 (clI N (σ.1 23)) = τ.1 26) (r174 : ar W2 174 (clI N (σ.1 23)) = m) (cI : c2.2.2.2.2.1 N = (cuI (σ.1 23) k : Int)) (cIo : ∀ j, ¬ j = N → c2.2.2.2.2.1 j = c.2.2.2.2.1 j) (cE : c2.2.2.2.2.2.2.1 = fu c.2.2.2.2.2.2.1 N (τ.1 26)) (cM : c2.2.2.2.2.2.1 N = m) (cMo : ∀ j, ¬ j = N → c2.2.2.2.2.2.1 j = c.2.2.2.2.2.1 j) (hS : StC k (ar W2 172 (clI N (σ.1 23))) (σ.1 23) c c2) (hT : TyC k m σ τ) : RWs c2 W2 τ (N + 1) := by
  obtain ⟨a1, a2, a3, a4⟩ := hR
  obtain ⟨t1, t2, t3, t4⟩ := hT
  have e23 := hf.1
  have es : slB τ = slB σ := hf.sl
  have le := hf.2.1
  have hne : ∀ j : Nat, j < N → ¬ clI j (σ.1 23) = clI N (σ.1 23) := fun j hj e => by
    have := clI_i h23 e
    omega
  have hrow : ∀ r, 171 ≤ r → r ≤ 175 → ∀ j : Nat, j < N → ar W2 r (clI j (σ.1 23)) = ar W r (clI j (σ.1 23)) := fun r a b j hj => hw.2.2 r a b _ (hne j hj)
  have pv : ∀ j, j ≤ N → pvE c2 j = pvE c j := fun j hj => by
    unfold pvE
    by_cases j0 : j = 0
    · rw [if_pos j0, if_pos j0]
    · rw [if_neg j0, if_neg j0, cE, fu_ne _ _ (by omega)]
  have ty : ∀ (a b : Int), 0 ≤ a → a ≤ b → b ≤ σ.1 26 → tyS (wNo (σ.1 23)) τ.2.1 τ.2.2 (slB σ + a.toNat) (b.toNat - a.toNat) = tyS (wNo (σ.1 23)) σ.2.1 σ.2.2 (slB σ + a.toNat) (b.toNat - a.toNat) := fun a b ha hab hb => by
    refine tyS_e _ (fun i x y => hf.2.2 i (Or.inl ?_))
    have : slB σ = (300 * σ.1 23).toNat := rfl
    omega
  have smp : ∀ s : Nat, s < 6 → 0 ≤ smI s := (show ∀ s, s < 6 → 0 ≤ smI s by decide +kernel)
  unfold RWs
  rw [e23, es]
  refine ⟨fun j hj => ?_, fun s hs => ?_, ?_, by omega⟩
  · by_cases jN : j = N
    · subst jN
      refine ⟨k, hk, r171, cI, cM.trans r174.symm, by rw [cE, fu_eq, r175], by rw [r173, pv j (Nat.le_refl _), a3], ?_, ?_, ?_, fun k2 => ?_⟩
      · rw [pv j (Nat.le_refl _), a3, cM, cE, fu_eq]
        exact ⟨h26, t3.1, t3.2, Int.le_refl _⟩
      · intro l8 k2
        rw [pv j (Nat.le_refl _), a3, cM, cE, fu_eq]
        exact t1 l8 k2
      · intro l8
        rw [cM, cE, fu_eq]
        exact (t2 l8).2
      · unfold clN at hk
        by_cases l8 : σ.1 23 < 8
        · rw [if_pos l8] at hk
          have := (hS.1 l8 k2).2.1
          have := smp (k - 2) (by omega)
          omega
        · rw [if_neg l8] at hk
          omega
    · have hj2 : j < N := by omega
      obtain ⟨kj, b1, b2, b3, b4, b5, b6, b7, b8, b9, b10⟩ := a1 j hj2
      refine ⟨kj, b1, by rw [hrow 171 (by decide) (by decide) j hj2]; exact b2, by rw [cIo j jN]; exact b3, by rw [hrow 174 (by decide) (by decide) j hj2, cMo j jN]; exact b4, by rw [hrow 175 (by decide) (by decide) j hj2, cE, fu_ne _ _ jN]; exact b5, by rw [hrow 173 (by decide) (by decide) j hj2, pv j (by omega)]; exact b6, ?_, ?_, ?_, ?_⟩
      · rw [pv j (by omega), cMo j jN, cE, fu_ne _ _ jN]
        omega
      · intro l8 k2
        rw [pv j (by omega), cMo j jN, cE, fu_ne _ _ jN, ty _ _ (by omega) (by omega) (by omega), ty _ _ (by omega) (by omega) (by omega)]
        exact b8 l8 k2
      · intro l8
        rw [cMo j jN, cE, fu_ne _ _ jN, ty _ _ (by omega) (by omega) (by omega)]
        exact b9 l8
      · intro k2
        rw [hrow 172 (by decide) (by decide) j hj2]
        exact b10 k2
  · obtain ⟨b1, b2⟩ := a2 s hs
    have on : onF (ar W2 171) (ar W2 172) (σ.1 23) ((s + 2 : Nat) : Int) (-1) N = onF (ar W 171) (ar W 172) (σ.1 23) ((s + 2 : Nat) : Int) (-1) N := onF_e N (fun j hj => ⟨hrow 171 (by decide) (by decide) j hj, hrow 172 (by decide) (by decide) j hj⟩)
    have st : onF (ar W2 171) (ar W2 172) (σ.1 23) ((s + 2 : Nat) : Int) (-1) (N + 1) = if (k : Int) = ((s + 2 : Nat) : Int) then ar W2 172 (clI N (σ.1 23)) else onF (ar W2 171) (ar W2 172) (σ.1 23) ((s + 2 : Nat) : Int) (-1) N := by
      rw [← r171]
      rfl
    rw [st, on, ← b1]
    by_cases c8 : σ.1 23 < 8 ∧ 2 ≤ k
    · obtain ⟨h1, h2, h3⟩ := hS.1 c8.1 c8.2
      rw [h1, fu_3]
      by_cases c9 : s = k - 2
      · rw [if_pos c9, if_pos (by omega), c9]
        exact ⟨rfl, Or.inr ⟨h2, h3⟩⟩
      · rw [if_neg c9, if_neg (by omega)]
        exact ⟨rfl, b2⟩
    · have k2 : k < 2 := by
        unfold clN at hk
        split at hk <;> omega
      rw [hS.2 c8, if_neg (by omega)]
      exact ⟨rfl, b2⟩
  · unfold pvE
    rw [if_neg (by omega), Nat.add_sub_cancel, cE, fu_eq]
/-- a clause's end -/
theorem s_end (hT : Ty T) (hI : RI n K 0 τ) (hz : τ.1 22 = 0) (hR : RWs c W σ N) (h23 : 0 ≤ σ.1 23) (h26 : 0 ≤ σ.1 26) (hf : FrS σ τ) (hw : FrW (clI N (σ.1 23)) W W2) (hC : ClS T n c W σ N W2 τ d) : (¬ (rdS T n (skF T n τ)).1 22 = 0 → FtC T n d ((rdS T n (skF T n τ)).1 22)) ∧ ((rdS T n (skF T n τ)).1 22 = 0 → (rdS T n (skF T n τ)).1 21 < (n : Int) → ∃ e, Rc T n d e ∧ CsC T n e W2 (adF 1 (rdS T n (skF T n τ))) (N + 1)) ∧ ((rdS T n (skF T n τ)).1 22 = 0 → ¬ (rdS T n (skF T n τ)).1 21 < (n : Int) → ∃ e, OutC T n d (true, e) ∧ CfC e W2 (adF 1 (rdS T n (skF T n τ))) (N + 1)) := by
  obtain ⟨n12, k, b, g1, g2, g3, g4, ⟨g5, g6, g7, g8⟩, g9, g10, g11, g12, g13, g14, g15, g16, g17, g18⟩ := hC
  obtain ⟨s1, -⟩ := hI.sk (T := T)
  have hp := s1.2.1
  have z1 : (skF T n τ).1 22 = 0 := by rw [sk_o (by decide)]; exact hz
  have hP : rn isB T n (d.2.1 5).toNat = ((skF T n τ).1 21).toNat := by rw [g6.sk.2.1, sk_q]
  have k1 : (adv T n d).2.1 1 = tzS T n ((skF T n τ).1 21).toNat := by rw [adv_1, hP]
  have k2 : (adv T n d).2.1 2 = tzV T n ((skF T n τ).1 21).toNat := by rw [adv_2, hP]
  have i93 := isS_e (x := 93) (T := T) (n := n) (p := ((skF T n τ).1 21).toNat) (d := adv T n d) hT (by decide) k1 k2
  have i59 := isS_e (x := 59) (T := T) (n := n) (p := ((skF T n τ).1 21).toNat) (d := adv T n d) hT (by decide) k1 k2
  have o1 : ∀ j, j ≠ 21 → (skF T n τ).1 j = τ.1 j := fun j hj => sk_o hj
  have o2 : (skF T n τ).2 = τ.2 := rfl
  have b4 := g6.1
  have hb5 := (rn_b (P := isB) (T := T) (n := n) (p := (d.2.1 5).toNat)).1
  have u9 := un9 (T := T) (n := n) g7
  have gB := g6.sk
  obtain ⟨l1, l2⟩ := g7
  generalize skF T n τ = τ1 at *
  obtain ⟨p, hpp⟩ : ∃ p : Nat, τ1.1 21 = (p : Int) := ⟨(τ1.1 21).toNat, by omega⟩
  have ep : (τ1.1 21).toNat = p := by omega
  rw [ep] at hP k1 k2 i93 i59
  have zk0 : (adv T n d).2.1 1 = 0 ↔ ¬ p < n := by
    rw [k1]
    unfold tzS
    by_cases c0 : p < n
    · rw [if_pos c0]
      constructor
      · intro w
        split at w
        · omega
        · split at w <;> omega
      · intro w
        exact absurd c0 w
    · rw [if_neg c0]
      exact ⟨fun _ => c0, fun _ => rfl⟩
  -- what comes out of a good end
  have good : ∀ st : Int, (if (adv T n d).2.1 1 = 0 then (6 : Int) else 0) = st → ¬ (¬ (adv T n d).2.1 1 = 0 ∧ ¬ isS 59 (adv T n d)) → ¬ isS 93 (adv T n d) → ∃ e, tkPc (adv T n d) = (true, e) ∧ e.1 3 = st ∧ e.2.1 = (adv T n d).2.1 ∧ e.1 5 = d.1 5 ∧ e.1 2 = d.1 2 ∧ e.1 9 = 0 ∧ e.1 14 = (N : Int) + 1 ∧ SE (qOf e) τ ∧ RWs e W2 τ (N + 1) := by
    intro st hst h59 h93
    have e14 : ((adv T n d).1 14).toNat = N := by
      show (d.1 14).toNat = N
      rw [g9, Int.toNat_natCast]
    have f14 : (adv T n d).1 14 = (N : Int) := g9
    have ht : tkPc (adv T n d) = (true, wR (wR (wE (cond b (wM (unC 1 (adv T n d)) N ((unC 1 (adv T n d)).1 7)) (unC 1 (adv T n d))) N ((unC 1 (adv T n d)).1 7)) 14 ((N : Int) + 1)) 3 st) := by
      rw [g8, if_neg (fun w => h93 w.2)]
      unfold clE
      rw [if_neg (fun w => w.elim (fun y => by rw [u9] at y; omega) h59), e14, f14, hst]
    have eu : unC 1 (adv T n d) = setU (adv T n d) (unA 1 d.2.2.2.1 (d.1 9).toNat (qOf d)) := rfl
    rw [eu] at ht
    generalize unA 1 d.2.2.2.1 (d.1 9).toNat (qOf d) = z at *
    have e7 : (setU (adv T n d) z).1 7 = τ.1 26 := l2.1
    rw [e7] at ht
    have eb : ∃ e0, cond b (wM (setU (adv T n d) z) N (τ.1 26)) (setU (adv T n d) z) = e0 ∧ e0.1 = (setU (adv T n d) z).1 ∧ e0.2.1 = (adv T n d).2.1 ∧ e0.2.2.1 = (setU (adv T n d) z).2.2.1 ∧ e0.2.2.2.2.1 = d.2.2.2.2.1 ∧ e0.2.2.2.2.2.2.1 = d.2.2.2.2.2.2.1 ∧ e0.2.2.2.2.2.2.2 = d.2.2.2.2.2.2.2 ∧ (∀ j, ¬ j = N → e0.2.2.2.2.2.1 j = c.2.2.2.2.2.1 j) ∧ e0.2.2.2.2.2.1 N = ar W2 174 (clI N (σ.1 23)) := by
      cases b with
      | true => exact ⟨_, rfl, rfl, rfl, rfl, rfl, rfl, rfl, fun j hj => (fu_ne _ _ hj).trans (g13 j hj), (fu_eq _ _ _).trans (g15 rfl).symm⟩
      | false => exact ⟨_, rfl, rfl, rfl, rfl, rfl, rfl, rfl, fun j hj => g13 j hj, g14 rfl⟩
    obtain ⟨e0, he0, m1, m2, m3, m4, m5, m6, m7, m8⟩ := eb
    rw [he0] at ht
    have q7 : e0.1 7 = z.2.1 := by rw [m1]; rfl
    have q10 : e0.1 10 = z.2.2.1 := by rw [m1]; rfl
    have q9 : e0.1 9 = (z.1 : Int) := by rw [m1]; rfl
    have q5 : e0.1 5 = d.1 5 := by rw [m1]; rfl
    have q2 : e0.1 2 = d.1 2 := by rw [m1]; rfl
    have eq : qOf (wR (wR (wE e0 N (τ.1 26)) 14 ((N : Int) + 1)) 3 st) = z.2 := by
      show (e0.1 7, e0.1 10, e0.2.2.1) = z.2
      rw [q7, q10, m3]
      rfl
    refine ⟨_, ht, rfl, m2, q5, q2, ?_, rfl, by rw [eq]; exact l2, ?_⟩
    · show e0.1 9 = 0
      rw [q9, l1]
      rfl
    · refine hR.add (m := ar W2 174 (clI N (σ.1 23))) h23 h26 hf hw g1 g2 g3 g4 rfl ?_ ?_ ?_ m8 m7 ?_ g17
      · show e0.2.2.2.2.1 N = _
        rw [m4]; exact g10
      · intro j hj
        show e0.2.2.2.2.1 j = _
        rw [m4]; exact g11 j hj
      · show fu e0.2.2.2.2.2.2.1 N (τ.1 26) = _
        rw [m5, g12]
      · refine ⟨fun a e => ?_, fun a => ?_⟩
        · show e0.2.2.2.2.2.2.2 = _ ∧ _
          rw [m6]
          exact g16.1 a e
        · show e0.2.2.2.2.2.2.2 = _
          rw [m6]
          exact g16.2 a
  -- the same rows behind the reference's last step
  have mv : ∀ e M, RWs e W2 τ M → RWs e W2 (adF 1 τ1) M := fun e M h => by
    have x23 : (adF 1 τ1).1 23 = τ.1 23 := by rw [ad_o (by decide)]; exact o1 23 (by decide)
    have x26 : (adF 1 τ1).1 26 = τ.1 26 := by rw [ad_o (by decide)]; exact o1 26 (by decide)
    have x28 : (adF 1 τ1).1 28 = τ.1 28 := by rw [ad_o (by decide)]; exact o1 28 (by decide)
    have x2 : (adF 1 τ1).2 = τ.2 := o2
    have xs : slB (adF 1 τ1) = slB τ := by unfold slB; rw [x23]
    unfold RWs at h ⊢
    rw [x23, x26, x28, x2, xs]
    exact h
  have mq : ∀ q, SE q τ → SE q (adF 1 τ1) := fun q h => h.cg (by rw [ad_o (by decide)]; exact o1 26 (by decide)) (by rw [ad_o (by decide)]; exact o1 27 (by decide)) (by rw [ad_o (by decide)]; exact o1 23 (by decide)) o2
  by_cases cf : τ1.1 21 < (n : Int) ∧ ¬ chr T n (τ1.1 21).toNat = 59
  · have eS : rdS T n τ1 = flF 0 (τ1.1 21) τ1 := if_pos ⟨z1, cf⟩
    have e22 : (rdS T n τ1).1 22 = 1 + 8 * (p : Int) := by rw [eS, fl_e, if_pos z1, hpp]; omega
    refine ⟨fun _ => ?_, fun w => by omega, fun w => by omega⟩
    rw [e22]
    rw [ep] at cf
    have nk : ¬ (adv T n d).2.1 1 = 0 := fun w => zk0.mp w (by omega)
    have n59 : ¬ isS 59 (adv T n d) := fun w => cf.2 (i59.mp w)
    have ht : (tkPc (adv T n d)).1 = false ∧ (tkPc (adv T n d)).2.1 0 = 0 := by
      rw [g8]
      by_cases w : b = false ∧ isS 93 (adv T n d)
      · rw [if_pos w]
        exact ⟨rfl, rfl⟩
      · rw [if_neg w]
        unfold clE
        rw [if_pos (Or.inr ⟨nk, n59⟩)]
        exact ⟨rfl, rfl⟩
    refine FtC.st g5 ht.1 (by omega) ?_
    rw [ht.2, hP]
    omega
  · have eS : rdS T n τ1 = τ1 := if_neg (fun w => cf w.2)
    rw [eS]
    refine ⟨fun w => absurd z1 w, fun _ hl => ?_, fun _ hl => ?_⟩
    · have c59 : chr T n p = 59 := by
        rw [ep] at cf
        by_cases w : chr T n p = 59
        · exact w
        · exact absurd ⟨hl, w⟩ cf
      have ct := chr_T hT (by decide) c59
      obtain ⟨-, -, n1⟩ := tk_sig1 ct.1 ct.2 (by decide) (by decide)
      have nk : ¬ (adv T n d).2.1 1 = 0 := fun w => zk0.mp w ct.1
      obtain ⟨e, e1, e2, e3, e4, e5, e6, e7, e8, e9⟩ := good 0 (if_neg nk) (fun w => w.2 (i59.mpr c59)) (fun w => by
        have := i93.mp w
        omega)
      have k5 : e.2.1 5 = (p : Int) + 1 := by rw [e3, adv_5, hP, n1]; omega
      have rc := Rc.st (c := d) (T := T) (n := n) g5 (by rw [e1]) (by omega) (by rw [e1]; show _ < (e.2.1 5).toNat; rw [k5]; omega)
      rw [e1] at rc
      refine ⟨e, rc, e2, ⟨⟨by rw [e3]; exact g6.1.1, by rw [k5]; omega, by rw [k5]; omega⟩, by rw [k5, ad_e, hpp], ?_, ?_⟩, mq _ e8, e6, by rw [e7]; omega, mv _ _ e9⟩
      · rw [ad_o (by decide), e4]
        exact gB.2.2.1
      · rw [ad_o (by decide), e5]
        exact gB.2.2.2
    · have np : ¬ p < n := by omega
      have nk : (adv T n d).2.1 1 = 0 := zk0.mpr np
      obtain ⟨e, e1, e2, e3, e4, e5, e6, e7, e8, e9⟩ := good 6 (if_pos nk) (fun w => w.1 nk) (fun w => by
        have := w.1
        omega)
      refine ⟨e, fun f hf => ?_, e2, mq _ e8, by rw [e7]; omega, mv _ _ e9⟩
      cases f with
      | zero => omega
      | succ f =>
        unfold rdC
        rw [if_neg g5, if_pos (by rw [e1]), e1]
        cases f with
        | zero => rfl
        | succ f =>
          unfold rdC
          rw [if_pos e2]
/-- rows of a slot alone are written -/
def FrL (sl : Int) (W W' : AW) : Prop := W'.1 = W.1 ∧ (∀ k, k < 171 ∨ 175 < k → W'.2 k = W.2 k) ∧ ∀ r, 171 ≤ r → r ≤ 175 → ∀ j : Nat, ((j : Int) < 12 * sl ∨ 12 * sl + 12 ≤ (j : Int)) → ar W' r j = ar W r j
theorem FrL.tr {U : AW} (h : FrL s W W2) (g : FrL s W2 U) : FrL s W U := ⟨g.1.trans h.1, fun k q => (g.2.1 k q).trans (h.2.1 k q), fun r a b j hj => (g.2.2 r a b j hj).trans (h.2.2 r a b j hj)⟩
theorem FrW.fl (h : FrW (clI N s) W W2) (h0 : 0 ≤ s) (hN : N < 12) : FrL s W W2 := ⟨h.1, h.2.1, fun r a b j hj => h.2.2 r a b j (fun e => by unfold clI at e; omega)⟩
theorem FrL.rf : FrL s W W := ⟨rfl, fun _ _ => rfl, fun _ _ _ _ _ => rfl⟩
theorem clause12 {y : GWX} : (clauseF T n 12 y).1 = y.1 := by
  unfold clauseF
  split
  · rfl
  · rw [if_pos (Or.inl rfl)]
theorem FS.rd (hz : ¬ τ.1 22 = 0) : FS τ (adF 1 (rdS T n (skF T n τ))) := by
  have s := sk_f (T := T) (n := n) (σ := τ)
  have e : rdS T n (skF T n τ) = skF T n τ := if_neg (fun w => s.nz hz w.1)
  rw [e]
  exact s.tr ad_f
/-- a whole text -/
theorem s_rdL (hn : n ≤ 400) (hK : 0 ≤ K) : ∀ (f N : Nat) (W : AW) (x : GT) (c : CR), TX W T n → RI n K 0 x.1 → (0 ≤ x.1.1 27 ∧ x.1.1 27 ≤ x.1.1 21 ∧ x.1.1 27 ≤ 10) → x.1.1 22 = 0 → N ≤ 12 → N + f = 13 → CsC T n c W x.1 N → ResF T n c x.1 (rdL T n f N (W, x)).2.2.1 (fun d => CfC d (rdL T n f N (W, x)).2.1 (rdL T n f N (W, x)).2.2.1 (rdL T n f N (W, x)).1 ∧ (rdL T n f N (W, x)).1 ≤ 12) ∧ FrL (x.1.1 23) W (rdL T n f N (W, x)).2.1 := by
  intro f
  induction f with
  | zero =>
    intro N W x c hx hI hd hz hN hs hc
    omega
  | succ f ih =>
    intro N W x c hx hI hd hz hN hs hc
    have hT := hx.2.2.2.1
    have cl := s_clause (o := x.2) (W := W) hT hn hK hI hd hz hN hc
    obtain ⟨eb, hx1, h12⟩ := clause_b (N := N) hx hK hI ⟨hd.1, hd.2.1⟩
    have hw := clauseF_W (T := T) (n := n) (N := N) (y := (W, x))
    have h23 := hI.1.2.1.1
    have h26 := hI.2.2.2.2.1
    have fl : FrL (x.1.1 23) W (clauseF T n N (W, x)).1 := by
      by_cases e12 : N = 12
      · subst e12
        have e : (clauseF T n 12 (W, x)).1 = W := clause12
        rw [e]
        exact FrL.rf
      · exact hw.fl h23 (by omega)
    have ex : (W, (x.1, x.2)) = (W, x) := rfl
    rw [ex] at cl
    unfold rdL rdY rdN
    generalize clauseF T n N (W, x) = y1 at *
    have hR := hc.2.2.2.2.2
    by_cases cc : (rdS T n (skF T n y1.2.1)).1 22 = 0 ∧ (rdS T n (skF T n y1.2.1)).1 21 < (n : Int)
    · rw [if_pos cc]
      have z1 : y1.2.1.1 22 = 0 := by
        by_cases w : y1.2.1.1 22 = 0
        · exact w
        · have := (FS.rd (T := T) (n := n) w).1
          rw [ad_o (by decide)] at this
          exact absurd (this.symm.trans cc.1) w
      have eS : rdS T n (skF T n y1.2.1) = skF T n y1.2.1 := by
        by_cases w : (skF T n y1.2.1).1 22 = 0 ∧ (skF T n y1.2.1).1 21 < (n : Int) ∧ ¬ chr T n ((skF T n y1.2.1).1 21).toNat = 59
        · have er : rdS T n (skF T n y1.2.1) = flF 0 ((skF T n y1.2.1).1 21) (skF T n y1.2.1) := if_pos w
          rw [er] at cc
          exact (fl_z cc.1 eb.1.sk.2.1.1 (by decide)).elim
        · exact if_neg w
      obtain ⟨q1, q2, q3⟩ := eb.2 z1
      obtain ⟨q4, q5⟩ := q1.sk (T := T)
      have f27 : (skF T n y1.2.1).1 27 = y1.2.1.1 27 := sk_o (by decide)
      have f23 : (adF 1 (rdS T n (skF T n y1.2.1))).1 23 = x.1.1 23 := by
        rw [eS, ad_o (by decide), sk_o (by decide)]
        exact cl.1.1
      have z2 : (adF 1 (rdS T n (skF T n y1.2.1))).1 22 = 0 := by rw [ad_o (by decide)]; exact cc.1
      have fA : FrS y1.2.1 (adF 1 (rdS T n (skF T n y1.2.1))) := by
        rw [eS]
        exact FrS.eq rfl (by rw [ad_o (by decide), sk_o (by decide)]) (by rw [ad_o (by decide), sk_o (by decide)])
      have hN2 : ¬ N = 12 := fun w => h12 w z1
      have q6 : RI n K 0 (adF 1 (rdS T n (skF T n y1.2.1))) := by
        have cc2 := cc.2
        rw [eS] at cc2 ⊢
        exact (q4.ad (d := 1) (by decide) (by omega)).wk (by omega) (by decide)
      -- out of the class, the state at the next clause
      have key : ∀ d, ClS T n c W x.1 N y1.1 y1.2.1 d → ResF T n d y1.2.1 (rdL T n f (N + 1) (y1.1, (adF 1 (rdS T n (skF T n y1.2.1)), y1.2.2))).2.2.1 (fun d => CfC d (rdL T n f (N + 1) (y1.1, (adF 1 (rdS T n (skF T n y1.2.1)), y1.2.2))).2.1 (rdL T n f (N + 1) (y1.1, (adF 1 (rdS T n (skF T n y1.2.1)), y1.2.2))).2.2.1 (rdL T n f (N + 1) (y1.1, (adF 1 (rdS T n (skF T n y1.2.1)), y1.2.2))).1 ∧ (rdL T n f (N + 1) (y1.1, (adF 1 (rdS T n (skF T n y1.2.1)), y1.2.2))).1 ≤ 12) ∧ FrL (x.1.1 23) y1.1 (rdL T n f (N + 1) (y1.1, (adF 1 (rdS T n (skF T n y1.2.1)), y1.2.2))).2.1 := fun d gd => by
        obtain ⟨-, en2, -⟩ := s_end (K := K) hT q1 z1 hR h23 h26 cl.1 hw gd
        obtain ⟨e, r1, r2⟩ := en2 cc.1 cc.2
        obtain ⟨n12, k, b, g1, g2, g3, g4, g5, g9, g10, g11, g12, g13, g14, g15, g16, g17, g18⟩ := gd
        obtain ⟨i1, i2⟩ := ih (N + 1) y1.1 (adF 1 (rdS T n (skF T n y1.2.1)), y1.2.2) e hx1 q6 (by
          have cc2 := cc.2
          have u27 : (adF 1 (rdS T n (skF T n y1.2.1))).1 27 = y1.2.1.1 27 := by rw [eS, ad_o (by decide), f27]
          have u21 : (adF 1 (rdS T n (skF T n y1.2.1))).1 21 = (skF T n y1.2.1).1 21 + 1 := by rw [eS, ad_e]
          show 0 ≤ (adF 1 (rdS T n (skF T n y1.2.1))).1 27 ∧ (adF 1 (rdS T n (skF T n y1.2.1))).1 27 ≤ (adF 1 (rdS T n (skF T n y1.2.1))).1 21 ∧ (adF 1 (rdS T n (skF T n y1.2.1))).1 27 ≤ 10
          omega) z2 (by omega) (by omega) r2
        have e23 : ((adF 1 (rdS T n (skF T n y1.2.1)), y1.2.2) : GT).1.1 23 = x.1.1 23 := f23
        rw [e23] at i2
        refine ⟨⟨fA.tr i1.1, fun w => r1.2 _ (i1.2.1 w), fun w => ?_⟩, i2⟩
        obtain ⟨u, u1, u2⟩ := i1.2.2 w
        exact ⟨u, r1.1 _ u1, u2⟩
      obtain ⟨d0, -, gd0⟩ := cl.2.2 z1
      exact ⟨cl.fin (fun w => absurd z1 w) (fun d gd _ => (key d gd).1), fl.tr (key d0 gd0).2⟩
    · rw [if_neg cc]
      refine ⟨?_, fl⟩
      have fz : ∀ j, j ≠ 21 → (adF 1 (rdS T n (skF T n y1.2.1))).1 j = (rdS T n (skF T n y1.2.1)).1 j := fun j hj => ad_o hj
      refine cl.fin (fun w => FS.rd w) (fun d gd z1 => ?_)
      obtain ⟨q1, q2, q3⟩ := eb.2 z1
      obtain ⟨en1, -, en3⟩ := s_end (K := K) hT q1 z1 hR h23 h26 cl.1 hw gd
      have n12 := gd.1
      refine ⟨?_, fun w => ?_, fun w => ?_⟩
      · refine FrS.eq ?_ ?_ ?_
        · show (rdS T n (skF T n y1.2.1)).2 = _
          unfold rdS
          split <;> rfl
        · show (adF 1 (rdS T n (skF T n y1.2.1))).1 26 = _
          rw [fz 26 (by decide)]
          unfold rdS
          split
          · rw [fl_o (by decide), sk_o (by decide)]
          · rw [sk_o (by decide)]
        · show (adF 1 (rdS T n (skF T n y1.2.1))).1 23 = _
          rw [fz 23 (by decide)]
          unfold rdS
          split
          · rw [fl_o (by decide), sk_o (by decide)]
          · rw [sk_o (by decide)]
      · have w2 : ¬ (rdS T n (skF T n y1.2.1)).1 22 = 0 := by rw [← fz 22 (by decide)]; exact w
        show FtC T n d ((adF 1 (rdS T n (skF T n y1.2.1))).1 22)
        rw [fz 22 (by decide)]
        exact en1 w2
      · have w2 : (rdS T n (skF T n y1.2.1)).1 22 = 0 := by rw [← fz 22 (by decide)]; exact w
        obtain ⟨e, r1, r2⟩ := en3 w2 (fun y => cc ⟨w2, y⟩)
        exact ⟨e, r1, r2, by show N + 1 ≤ 12; omega⟩
end RDU
