-- CLASS AND REFERENCE READ ALIKE: a value
theorem wd_u : ∀ i, i < 30 → ∀ j, j < 30 → wd i = wd j → i = j := by decide +kernel
section VAS
variable {T : Nat → Int} {n h p i j : Nat} {c d : CR} {σ τ ρ : GS} {s v r K D : Int} {A B C : List Bool} {q : UQ}
theorem stP_u (hi : i < 30) (hj : j < 30) (h1 : stP T n p i) (h2 : stP T n p j) : i = j := by
  have el : (wd i).length = (wd j).length := h1.1.symm.trans h2.1
  refine wd_u i hi j hj (List.ext_getElem el (fun k a b => ?_))
  have x := (h1.2 k a).symm.trans (h2.2 k b)
  rw [List.getD_eq_getElem?_getD, List.getD_eq_getElem?_getD, List.getElem?_eq_getElem a, List.getElem?_eq_getElem b] at x
  exact x
theorem stP_l (hi : i < 30) (h1 : stP T n p i) : p < n ∧ isLt (T p) = true := by
  have hl := wd_k i hi
  by_cases z : p < n ∧ isLt (T p) = true
  · exact z
  · have := h1.1
    rw [rn_e z] at this
    omega
theorem fdW_x {w : Nat → Nat} : ∀ (f k : Nat), fdW T n p w f k = k + f → ∀ j, k ≤ j → j < k + f → ¬ stP T n p (w j)
  | 0, k, _, j, a, b => by omega
  | f + 1, k, e, j, a, b => by
    have e2 : @ite Nat (stP T n p (w k)) (Classical.propDecidable _) k (fdW T n p w f (k + 1)) = k + (f + 1) := e
    by_cases z : stP T n p (w k)
    · rw [if_pos z] at e2
      omega
    · rw [if_neg z] at e2
      by_cases y : j = k
      · rw [y]; exact z
      · exact fdW_x f (k + 1) (by omega) j (by omega) (by omega)
theorem wdV_i (hi : i < 30) : wdV T n p = (i : Int) ↔ stP T n p i := by
  have b := fdW_b (T := T) (n := n) (p := p) (w := id) 30 0
  have x := fdW_x (T := T) (n := n) (p := p) (w := id) 30 0
  unfold wdV
  by_cases z : fdW T n p id 30 0 = 30
  · rw [if_pos z]
    have y := x (by omega) i (by omega) (by omega)
    exact ⟨fun e => by omega, fun e => absurd e y⟩
  · rw [if_neg z]
    have y := b.2.2 (by omega)
    refine ⟨fun e => ?_, fun e => ?_⟩
    · have : fdW T n p id 30 0 = i := by omega
      rw [this] at y
      exact y
    · have := stP_u (i := fdW T n p id 30 0) (j := i) (by omega) hi y e
      omega
theorem adv_0 : (adv T n c).2.1 0 = ((rn isB T n (c.2.1 5).toNat : Nat) : Int) := rfl
theorem adv_1 : (adv T n c).2.1 1 = tzS T n (rn isB T n (c.2.1 5).toNat) := rfl
theorem adv_2 : (adv T n c).2.1 2 = tzV T n (rn isB T n (c.2.1 5).toNat) := rfl
theorem adv_4 : (adv T n c).2.1 4 = c.2.1 4 := rfl
theorem adv_5 : (adv T n c).2.1 5 = ((tzN T n (rn isB T n (c.2.1 5).toNat) : Nat) : Int) := rfl
theorem tkN_g (hp : p < n) : p < tzN T n p := by
  unfold tzN
  rw [if_pos hp]
  split
  · next z =>
    rw [rn_s hp z]
    have := (rn_b (P := isDg) (T := T) (n := n) (p := p + 1)).1
    omega
  · split
    · next z =>
      rw [rn_s hp z]
      have := (rn_b (P := isLt) (T := T) (n := n) (p := p + 1)).1
      omega
    · split <;> omega
theorem tkN_b (hp : p ≤ n) : tzN T n p ≤ n := by
  unfold tzN
  split
  · split
    · exact (rn_b (P := isDg) (T := T) (n := n) (p := p)).2 hp
    · split
      · exact (rn_b (P := isLt) (T := T) (n := n) (p := p)).2 hp
      · split
        · next q => have := q.2.1; omega
        · omega
  · exact hp
/-- a word in a sum: both find the same -/
theorem woH_e (h1 : d.2.1 1 = tzS T n p) (h2 : d.2.1 2 = tzV T n p) (hr : d.1 2 = (if s < 8 then 0 else 1)) (hd : ¬ (p < n ∧ isDg (T p) = true)) : woH d = if fdW T n p (wdI s) (wNo s).toNat 0 = (wNo s).toNat then -1 else wmp s ((fdW T n p (wdI s) (wNo s).toNat 0 : Nat) : Int) := by
  have b := fdW_b (T := T) (n := n) (p := p) (w := wdI s) (wNo s).toNat 0
  have x := fdW_x (T := T) (n := n) (p := p) (w := wdI s) (wNo s).toNat 0
  by_cases hl : p < n ∧ isLt (T p) = true
  · have hg : ¬ isDg (T p) = true := fun z => hd ⟨hl.1, z⟩
    have e1 : d.2.1 1 = 2 := by rw [h1]; unfold tzS; rw [if_pos hl.1, if_neg hg, if_pos hl.2]
    have e2 : d.2.1 2 = wdV T n p := by rw [h2]; unfold tzV; rw [if_pos hl.1, if_neg hg, if_pos hl.2]
    have wb := wdV_b (T := T) (n := n) (p := p)
    unfold woH
    rw [hr, e1, e2]
    by_cases c8 : s < 8
    · have eN : (wNo s).toNat = 7 := by unfold wNo; rw [if_pos c8]; rfl
      have ew : ∀ k, wdI s k = lwI k := fun k => if_pos c8
      have em : ∀ v, wmp s v = [0, 1, 6, 2, 3, 4, 5].getD v.toNat 0 := fun v => if_pos c8
      rw [eN] at b x ⊢
      rw [if_pos c8, if_pos rfl]
      generalize fdW T n p (wdI s) 7 0 = k at *
      by_cases ck : k = 7
      · rw [if_pos ck]
        rw [if_neg]
        rintro ⟨-, q1, q2⟩
        obtain ⟨i, hi⟩ : ∃ i : Nat, wdV T n p = (i : Int) := ⟨(wdV T n p).toNat, by omega⟩
        have hs := (wdV_i (T := T) (n := n) (p := p) (i := i) (by omega)).mp hi
        have key : ∀ i : Nat, i < 20 → 13 ≤ i → ∃ j, j < 7 ∧ lwI j = i := by decide
        obtain ⟨j, hj, ej⟩ := key i (by omega) (by omega)
        have y := x (by omega) j (by omega) (by omega)
        rw [ew, ej] at y
        exact y hs
      · rw [if_neg ck]
        have y := b.2.2 (by omega)
        rw [ew] at y
        have key : ∀ k : Nat, k < 7 → 13 ≤ lwI k ∧ lwI k ≤ 19 ∧ ((lwI k : Nat) : Int) - 13 = [0, 1, 6, 2, 3, 4, 5].getD ((k : Nat) : Int).toNat 0 := by decide
        have kk := key k (by omega)
        have e3 := (wdV_i (T := T) (n := n) (p := p) (i := lwI k) (by omega)).mpr y
        rw [e3, em, if_pos ⟨rfl, by omega, by omega⟩]
        exact kk.2.2
    · have eN : (wNo s).toNat = 11 := by unfold wNo; rw [if_neg c8]; rfl
      have ew : ∀ k, wdI s k = wtI k := fun k => if_neg c8
      have em : ∀ v, wmp s v = v := fun v => if_neg c8
      rw [eN] at b x ⊢
      rw [if_neg c8, if_neg (by decide)]
      generalize fdW T n p (wdI s) 11 0 = k at *
      by_cases ck : k = 11
      · rw [if_pos ck]
        have nn : ¬ (19 ≤ wdV T n p ∧ wdV T n p ≤ 29) := fun q => by
          obtain ⟨i, hi⟩ : ∃ i : Nat, wdV T n p = (i : Int) := ⟨(wdV T n p).toNat, by omega⟩
          have hs := (wdV_i (T := T) (n := n) (p := p) (i := i) (by omega)).mp hi
          have key : ∀ i : Nat, i < 30 → 19 ≤ i → ∃ j, j < 11 ∧ wtI j = i := by decide
          obtain ⟨j, hj, ej⟩ := key i (by omega) (by omega)
          have y := x (by omega) j (by omega) (by omega)
          rw [ew, ej] at y
          exact y hs
        rw [if_neg (fun z => nn (by omega)), if_neg (fun z => nn (by omega))]
      · rw [if_neg ck]
        have y := b.2.2 (by omega)
        rw [ew] at y
        have key : ∀ k : Nat, k < 11 → (k < 10 → wtI k = k + 20) ∧ (k = 10 → wtI k = 19) := by decide
        have kk := key k (by omega)
        by_cases c10 : k = 10
        · have e3 := (wdV_i (T := T) (n := n) (p := p) (i := 19) (by decide)).mpr (by rw [← kk.2 c10]; exact y)
          rw [e3, em, if_pos ⟨rfl, rfl⟩]
          omega
        · have e4 := kk.1 (by omega)
          have e3 := (wdV_i (T := T) (n := n) (p := p) (i := k + 20) (by omega)).mpr (by rw [← e4]; exact y)
          rw [e3, em, if_neg (fun z => by have := z.2; omega), if_pos ⟨rfl, by omega, by omega⟩]
          omega
  · have e1 : ¬ d.2.1 1 = 2 := by
      rw [h1]
      unfold tzS
      by_cases c0 : p < n
      · have hg : ¬ isDg (T p) = true := fun z => hd ⟨c0, z⟩
        rw [if_pos c0, if_neg hg, if_neg (fun z => hl ⟨c0, z⟩)]
        decide
      · rw [if_neg c0]
        decide
    have ck : fdW T n p (wdI s) (wNo s).toNat 0 = (wNo s).toNat := by
      by_cases z : fdW T n p (wdI s) (wNo s).toNat 0 < (wNo s).toNat
      · exact absurd (stP_l (wdI_b _ _) (b.2.2 (by omega))) hl
      · omega
    rw [if_pos ck]
    unfold woH
    rw [hr]
    by_cases c8 : s < 8
    · rw [if_pos c8, if_pos rfl, if_neg (fun z => e1 z.1)]
    · rw [if_neg c8, if_neg (by decide), if_neg (fun z => e1 z.1), if_neg (fun z => e1 z.1)]
theorem FrS.eq (h2 : τ.2 = σ.2) (h26 : τ.1 26 = σ.1 26) (h23 : τ.1 23 = σ.1 23) : FrS σ τ := ⟨h23, by rw [h26]; exact Int.le_refl _, fun i _ => by rw [h2]; exact ⟨rfl, rfl⟩⟩
theorem cn_22 {pl : Int} (hz : σ.1 22 = 0) : (cnF pl σ).1 22 = if σ.1 28 = 60 then 1 + 8 * pl + 3 else 0 := by
  show cnG σ.1 pl 22 = _
  unfold cnG flG
  rw [fu_ne _ _ (by decide)]
  by_cases c : σ.1 28 = 60
  · rw [if_pos c, if_pos c, fu_eq, if_pos hz]
  · rw [if_neg c, if_neg c]
    exact hz
theorem cn_f {pl : Int} (hz : ¬ σ.1 22 = 0) : (cnF pl σ).1 22 = σ.1 22 := by
  show cnG σ.1 pl 22 = _
  unfold cnG flG
  rw [fu_ne _ _ (by decide)]
  by_cases c : σ.1 28 = 60
  · rw [if_pos c, fu_eq, if_neg hz]
  · rw [if_neg c]
theorem nmV_b (hp : p < n) (h5 : ¬ 5 < rn isDg T n p - p) (hT : Ty T) : 0 ≤ nmV T n p ∧ nmV T n p ≤ 99999 := by
  have hall := fun j a b => rn_fa (T := T) (n := n) (P := isDg) (n - p) p (Nat.le_refl _) j a b
  have hb := rn_b (P := isDg) (T := T) (n := n) (p := p)
  have hD : ∀ j, j < rn isDg T n p - p → 48 ≤ T (p + j) ∧ T (p + j) ≤ 57 := fun j hj => by
    have := (hall (p + j) (by omega) (by omega)).2
    simp only [isDg, decide_eq_true_eq] at this
    exact this
  have hh := hor_b (T := T) (p := p) hD (min 5 (rn isDg T n p - p)) (by omega) (by omega)
  have := nuV_b (T := T) (n := n) (p := p) hT hp
  unfold nuV at this
  rw [if_neg h5] at this
  unfold nmV at this ⊢
  omega
/-- a value is taken by both -/
theorem va_ok {k : Int} (hp : p < n) (hP : rn isB T n (c.2.1 5).toNat = p) (hc : CV T n h c σ) (hb : σ.1 23 = ρ.1 23 ∧ 0 ≤ ρ.1 23) (h26 : 0 ≤ σ.1 26 ∧ σ.1 26 < 300) (hz : ρ.1 22 = 0) (e2 : ρ.2 = σ.2) (e26 : ρ.1 26 = σ.1 26) (e27 : ρ.1 27 = σ.1 27) (e28 : ρ.1 28 = σ.1 28 + 1) (e21 : ρ.1 21 = ((tzN T n p : Nat) : Int)) (ht : tkL (adv T n c) = (true, wR (putC (enc (ρ.1 23) k v) (wR (adv T n c) 5 (c.1 5 + 1))) 3 4)) (hk : ∀ l, tyI (wNo (ρ.1 23)) k v ([] ++ l) = some ([false] ++ l)) : Res T n c σ (enF k v ρ) [] [false] (fun d => CT T n 7 h d (enF k v ρ) ∧ AF c d h ∧ d.1 4 = c.1 4) := by
  obtain ⟨c3, hB, hE, h9⟩ := hc
  have h6 : ¬ c.1 3 = 6 := by omega
  have g6 : (enF k v ρ).1 22 = 0 := by rw [en_o (by decide)]; exact hz
  have eT : tkPc (adv T n c) = tkL (adv T n c) := by
    unfold tkPc
    rw [show (adv T n c).1 3 = 3 from c3]
    rfl
  have f26 : 0 ≤ ρ.1 26 ∧ ρ.1 26 < 300 := by rw [e26]; exact h26
  have hb5 := (rn_b (P := isB) (T := T) (n := n) (p := (c.2.1 5).toNat)).1
  have hN := tkN_g (T := T) hp
  have hN2 := tkN_b (T := T) (n := n) (p := p) (by omega)
  have b4 := hB.1
  have eD : (tkPc (adv T n c)).2 = wR (putC (enc (ρ.1 23) k v) (wR (adv T n c) 5 (c.1 5 + 1))) 3 4 := by rw [eT, ht]
  have k5 : (tkPc (adv T n c)).2.2.1 5 = ((tzN T n p : Nat) : Int) := by rw [(tkP_f (c := adv T n c)).1, adv_5, hP]
  have fr : FrS σ (enF k v ρ) := (FrS.eq e2 e26 hb.1.symm).tr (FrS.en (fun _ => f26) hb.2)
  refine ⟨fr, fun z => absurd g6 z, fun _ => ⟨TyR.va hz hb.2 f26 hk e2 e26 hb.1.symm e28, (tkPc (adv T n c)).2, Rc.st h6 (by rw [eT, ht]) (by omega) (by rw [k5]; omega), ?_⟩⟩
  rw [eD] at k5 ⊢
  have hs : c.1 7 < 400 := by
    have : c.1 7 = σ.1 26 := hE.1
    omega
  have ep : putC (enc (ρ.1 23) k v) (wR (adv T n c) 5 (c.1 5 + 1)) = wR (wD (wR (adv T n c) 5 (c.1 5 + 1)) (c.1 7).toNat (enc (ρ.1 23) k v)) 7 (c.1 7 + 1) := if_pos hs
  rw [ep] at k5 ⊢
  have hE2 : SE (puQ (enc (ρ.1 23) k v) (qOf c)) (enF k v ρ) := SE.en (hE.cg e26 e27 hb.1.symm e2) hz hb.2 f26
  have eq : puQ (enc (ρ.1 23) k v) (qOf c) = (c.1 7 + 1, c.1 10, fu c.2.2.1 (c.1 7).toNat (enc (ρ.1 23) k v)) := if_pos hs
  rw [eq] at hE2
  refine ⟨⟨rfl, ⟨⟨hB.1.1, ?_, ?_⟩, ?_, ?_, ?_⟩, ?_⟩, ⟨rfl, rfl, rfl, rfl, rfl, fun _ _ => rfl⟩, rfl⟩
  · rw [k5]; omega
  · rw [k5]; omega
  · rw [k5, en_o (by decide), e21]
  · rw [en_o (by decide), e28, ← hB.2.2.1]
    rfl
  · rw [en_o (by decide), ← hb.1]
    exact hB.2.2.2
  · refine LT.of7 ?_ hE2
    exact h9
theorem va_no {τ : GS} (hP : rn isB T n (c.2.1 5).toNat = p) (hc : CV T n h c σ) {G : CR → Prop} (hs : tkL (adv T n c) = (false, wR (adv T n c) 0 s)) (hτ : τ.1 22 = s + (1 + 8 * (p : Int))) (h0 : 0 ≤ s) (e2 : τ.2 = σ.2) (e26 : τ.1 26 = σ.1 26) (e23 : τ.1 23 = σ.1 23) : Res T n c σ τ A B G := by
  obtain ⟨c3, hB, hE, h9⟩ := hc
  have h6 : ¬ c.1 3 = 6 := by omega
  have eT : tkPc (adv T n c) = tkL (adv T n c) := by
    unfold tkPc
    rw [show (adv T n c).1 3 = 3 from c3]
    rfl
  have b4 := hB.1
  refine ⟨FrS.eq e2 e26 e23, fun _ => FtC.st h6 (by rw [eT, hs]) (by omega) ?_, fun z => by omega⟩
  rw [eT, hs, hP, hτ]
  rfl
theorem s_va (hT : Ty T) (hn : n ≤ 400) (hI : RI n K D σ) (hK : 0 ≤ K) (hf : σ.1 22 = 0) (hc : CV T n h c σ) : Res T n c σ (vaF T n σ) [] [false] (fun d => CT T n 7 h d (vaF T n σ) ∧ AF c d h ∧ d.1 4 = c.1 4) := by
  obtain ⟨s1, -⟩ := hI.sk (T := T)
  have hB := hc.2.1
  have hE := hc.2.2.1
  have c3 := hc.1
  have e21 : (skF T n σ).1 21 = ((rn isB T n (σ.1 21).toNat : Nat) : Int) := sk_e
  have f22 : (skF T n σ).1 22 = 0 := by rw [sk_o (by decide)]; exact hf
  have f26 : (skF T n σ).1 26 = σ.1 26 := sk_o (by decide)
  have f27 : (skF T n σ).1 27 = σ.1 27 := sk_o (by decide)
  have f28 : (skF T n σ).1 28 = σ.1 28 := sk_o (by decide)
  have f23 : (skF T n σ).1 23 = σ.1 23 := sk_o (by decide)
  have f2 : (skF T n σ).2 = σ.2 := rfl
  have hP : rn isB T n (c.2.1 5).toNat = ((skF T n σ).1 21).toNat := by rw [e21, Int.toNat_natCast]; exact hB.2.1
  unfold vaF
  dsimp only
  generalize skF T n σ = σ1 at *
  have hp1 := s1.2.1
  have h30 := s1.1.2.2
  have h23 := s1.1.2.1
  have h28 := s1.2.2.2.2.2 f22
  have h26 := s1.2.2.2.2.1
  obtain ⟨p, hp⟩ : ∃ p : Nat, σ1.1 21 = (p : Int) := ⟨(σ1.1 21).toNat, by omega⟩
  have ep : (σ1.1 21).toNat = p := by omega
  rw [ep] at hP ⊢
  have r5 : c.1 5 = σ1.1 28 := by rw [f28]; exact hB.2.2.1
  have b26 : 0 ≤ σ.1 26 ∧ σ.1 26 < 300 := by omega
  have k1 : (adv T n c).2.1 1 = tzS T n p := by rw [adv_1, hP]
  have k2 : (adv T n c).2.1 2 = tzV T n p := by rw [adv_2, hP]
  have a5 : (adv T n c).1 5 = c.1 5 := rfl
  by_cases cd : p < n ∧ isDg (T p) = true
  · rw [if_pos cd]
    have t1 : (adv T n c).2.1 1 = 1 := by rw [k1]; unfold tzS; rw [if_pos cd.1, if_pos cd.2]
    have t2 : (adv T n c).2.1 2 = nuV T n p := by rw [k2]; unfold tzV; rw [if_pos cd.1, if_pos cd.2]
    have eo : opH (adv T n c) = nuV T n p := by unfold opH; rw [if_pos t1, t2]
    have eN : tzN T n p = rn isDg T n p := by unfold tzN; rw [if_pos cd.1, if_pos cd.2]
    have eV : dgV T n p = nmV T n p := by unfold dgV; rw [if_pos cd]
    by_cases c5 : 5 < rn isDg T n p - p
    · have eu : nuV T n p = -1 := by unfold nuV; rw [if_pos c5]
      have ed : dgF T n 99999 σ1 = flF 1 (p : Int) (fu σ1.1 21 ((rn isDg T n p : Nat) : Int), σ1.2) := by
        unfold dgF dgG
        rw [ep, if_pos cd, if_pos (Or.inl c5)]
        rfl
      have e22 : (dgF T n 99999 σ1).1 22 = 1 + 8 * (p : Int) + 1 := by
        have e0 : (fu σ1.1 21 ((rn isDg T n p : Nat) : Int)) 22 = 0 := by rw [fu_ne _ _ (by decide)]; exact f22
        rw [ed, fl_e, if_pos e0]
      have n22 : ¬ (dgF T n 99999 σ1).1 22 = 0 := by rw [e22]; omega
      have m22 : ¬ (cnF (p : Int) (dgF T n 99999 σ1)).1 22 = 0 := by rw [cn_f n22]; exact n22
      rw [enF_f m22]
      refine va_no (s := 1) hP hc ?_ ?_ (by decide) ?_ ?_ ?_
      · unfold tkL
        rw [eo, eu, if_pos rfl, if_pos t1]
      · rw [cn_f n22, e22]
        omega
      · exact f2
      · rw [cn_o (by decide) (by decide), dg_o (by decide) (by decide), f26]
      · rw [cn_o (by decide) (by decide), dg_o (by decide) (by decide), f23]
    · have nb := nmV_b cd.1 c5 hT
      have eu : nuV T n p = nmV T n p := by unfold nuV; rw [if_neg c5]
      have ed : dgF T n 99999 σ1 = (fu σ1.1 21 ((rn isDg T n p : Nat) : Int), σ1.2) := by
        unfold dgF dgG
        rw [ep, if_pos cd, if_neg (by omega)]
      have e22 : (dgF T n 99999 σ1).1 22 = 0 := by
        rw [ed]
        dsimp only
        rw [fu_ne _ _ (by decide)]
        exact f22
      have e28 : (dgF T n 99999 σ1).1 28 = σ1.1 28 := dg_o (by decide) (by decide)
      have eC := cn_22 (pl := (p : Int)) e22
      rw [e28] at eC
      by_cases c60 : σ1.1 28 = 60
      · rw [if_pos c60] at eC
        have m22 : ¬ (cnF (p : Int) (dgF T n 99999 σ1)).1 22 = 0 := by rw [eC]; omega
        rw [enF_f m22]
        refine va_no (s := 3) hP hc ?_ ?_ (by decide) ?_ ?_ ?_
        · unfold tkL
          rw [eo, eu, if_neg (by omega), a5, r5, if_pos (by omega)]
        · rw [eC]
          omega
        · exact f2
        · rw [cn_o (by decide) (by decide), dg_o (by decide) (by decide), f26]
        · rw [cn_o (by decide) (by decide), dg_o (by decide) (by decide), f23]
      · rw [if_neg c60] at eC
        have q23 : (cnF (p : Int) (dgF T n 99999 σ1)).1 23 = σ1.1 23 := by rw [cn_o (by decide) (by decide), dg_o (by decide) (by decide)]
        refine va_ok (p := p) cd.1 hP hc ⟨by rw [q23, f23], by rw [q23]; omega⟩ b26 eC ?_ ?_ ?_ ?_ ?_ ?_ ?_
        · exact f2
        · rw [cn_o (by decide) (by decide), dg_o (by decide) (by decide), f26]
        · rw [cn_o (by decide) (by decide), dg_o (by decide) (by decide), f27]
        · rw [cn_e, e28, f28]
        · rw [cn_o (by decide) (by decide), ed, eN]
          rfl
        · unfold tkL
          rw [eo, eu, if_neg (by omega), a5, r5, if_neg (by omega), if_pos t1, eV, Int.add_zero]
          rfl
        · intro l
          rw [eV]
          unfold tyI
          rw [if_pos rfl, if_pos nb]
          rfl
  · rw [if_neg cd]
    have t1 : ¬ (adv T n c).2.1 1 = 1 := by
      rw [k1]
      unfold tzS
      by_cases c0 : p < n
      · rw [if_pos c0, if_neg (fun z => cd ⟨c0, z⟩)]
        split <;> decide
      · rw [if_neg c0]
        decide
    have eo : opH (adv T n c) = woH (adv T n c) := by unfold opH; rw [if_neg t1]
    have ew := woH_e (d := adv T n c) (T := T) (n := n) (p := p) (s := σ1.1 23) k1 k2 (by rw [f23]; exact hB.2.2.2) cd
    have eN0 : (σ1.1 30).toNat = (wNo (σ1.1 23)).toNat := by rw [h30]; rfl
    rw [eN0]
    have fb := fdW_b (T := T) (n := n) (p := p) (w := wdI (σ1.1 23)) (wNo (σ1.1 23)).toNat 0
    generalize hk : fdW T n p (wdI (σ1.1 23)) (wNo (σ1.1 23)).toNat 0 = k at *
    have wN : wNo (σ1.1 23) = (if σ1.1 23 < 8 then 7 else 11) := rfl
    by_cases ck : k = (wNo (σ1.1 23)).toNat
    · rw [if_pos ck] at ew ⊢
      refine va_no (s := 0) hP hc ?_ ?_ (by decide) ?_ ?_ ?_
      · unfold tkL
        rw [eo, ew, if_pos rfl, if_neg t1]
      · rw [fl_e, if_pos f22]
        omega
      · exact f2
      · rw [fl_o (by decide), f26]
      · rw [fl_o (by decide), f23]
    · rw [if_neg ck] at ew ⊢
      have st := fb.2.2 (by omega)
      have kb : k < (wNo (σ1.1 23)).toNat := by omega
      have sl := stP_l (wdI_b _ _) st
      have eL : rn isLt T n p = p + (wd (wdI (σ1.1 23) k)).length := by
        have := st.1
        have := (rn_b (P := isLt) (T := T) (n := n) (p := p)).1
        omega
      have hg : ¬ isDg (T p) = true := fun z => cd ⟨sl.1, z⟩
      have eN : tzN T n p = rn isLt T n p := by unfold tzN; rw [if_pos sl.1, if_neg hg, if_pos sl.2]
      have mb : 0 ≤ wmp (σ1.1 23) (k : Int) := by
        unfold wmp
        split
        · next c8 =>
          rw [if_pos c8] at wN
          have key : ∀ k : Nat, k < 7 → (0 : Int) ≤ [0, 1, 6, 2, 3, 4, 5].getD ((k : Nat) : Int).toNat 0 := by decide
          exact key k (by omega)
        · omega
      have eC := cn_22 (pl := (p : Int)) f22
      by_cases c60 : σ1.1 28 = 60
      · rw [if_pos c60] at eC
        have m22 : ¬ (adF (((wd (wdI (σ1.1 23) k)).length : Nat) : Int) (cnF (p : Int) σ1)).1 22 = 0 := by rw [ad_o (by decide), eC]; omega
        rw [enF_f m22]
        refine va_no (s := 3) hP hc ?_ ?_ (by decide) ?_ ?_ ?_
        · unfold tkL
          rw [eo, ew, if_neg (by omega), a5, r5, if_pos (by omega)]
        · rw [ad_o (by decide), eC]
          omega
        · exact f2
        · rw [ad_o (by decide), cn_o (by decide) (by decide), f26]
        · rw [ad_o (by decide), cn_o (by decide) (by decide), f23]
      · rw [if_neg c60] at eC
        have q23 : (adF (((wd (wdI (σ1.1 23) k)).length : Nat) : Int) (cnF (p : Int) σ1)).1 23 = σ1.1 23 := by rw [ad_o (by decide), cn_o (by decide) (by decide)]
        refine va_ok (p := p) sl.1 hP hc ⟨by rw [q23, f23], by rw [q23]; omega⟩ b26 (by rw [ad_o (by decide)]; exact eC) ?_ ?_ ?_ ?_ ?_ ?_ ?_
        · exact f2
        · rw [ad_o (by decide), cn_o (by decide) (by decide), f26]
        · rw [ad_o (by decide), cn_o (by decide) (by decide), f27]
        · rw [ad_o (by decide), cn_e, f28]
        · rw [ad_e, cn_o (by decide) (by decide), hp, eN, eL]
          omega
        · unfold tkL
          rw [eo, ew, if_neg (by omega), a5, r5, if_neg (by omega), if_neg t1, q23]
          rfl
        · intro l
          rw [q23]
          unfold tyI
          rw [if_neg (by decide), if_pos rfl, if_pos (by omega)]
          rfl
end VAS
