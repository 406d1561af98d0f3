-- THE PARTS OF THE REFERENCE
/-- scratch rows of the reference alone are told anew -/
def Rq (W V : AW) : Prop := RS V ∧ V.1 = W.1 ∧ ∀ k, k < 177 ∨ 187 < k → V.2 k = W.2 k
section RQ
variable {W V U : AW} {s : ST}
theorem Rq.rf (h : RS W) : Rq W W := ⟨h, rfl, fun _ _ => rfl⟩
theorem Rq.tr (h : Rq W V) (g : Rq V U) : Rq W U := ⟨g.1, g.2.1.trans h.2.1, fun k q => (g.2.2 k q).trans (h.2.2 k q)⟩
theorem Rq.up (h : Rq W V) {j : Nat} {e : AE} (hR : RS (wu V j e)) (hj : 177 ≤ j ∧ j ≤ 187) : Rq W (wu V j e) := ⟨hR, h.2.1, fun k q => (wu_ne (by omega)).trans (h.2.2 k q)⟩
theorem Rq.kr (g : Rq W V) (h : KR W s) : KR V s := by
  obtain ⟨a1, a2, a3, a4, a5, a6, a7, a8⟩ := h
  have e := g.2.2
  exact ⟨g.1, fun k p q => by rw [e k (by omega)]; exact a2 k p q, by rw [rF_c (fun k p q => e k (by omega))]; exact a3, by rw [ob_c (e 148 (by decide))]; exact a4, by rw [ar_c (e 167 (by decide))]; exact a5, fun k q => (a6 k q).cg (fun j p q => e j (by omega)), fun k q => ⟨(a7 k q).1.cg (a7 k q).2 (fun j p q => e j (by omega)), (a7 k q).2⟩, fun k q => (a8 k q).cg (e 188 (by decide)) (e 191 (by decide))⟩
theorem Rq.t (g : Rq W V) : ar V 155 = ar W 155 := ar_c (g.2.2 155 (by decide))
end RQ
-- labels that go down
def PrI (t L : Nat → Int) : Prop := ∀ x : Nat, x < 100 → 0 ≤ L x ∧ L x ≤ x ∧ Cn t x (L x).toNat
def PaI (t : Nat → Int) (i : Nat) (L0 L : Nat → Int) (on : Int) : Prop := PrI t L ∧ (on = 0 ∨ on = 1) ∧ (on = 1 → sm L 100 < sm L0 100) ∧ (on = 0 → L = L0) ∧ sm L 100 ≤ sm L0 100 ∧ (on = 0 → ∀ e, e < i → t e = -1 → L0 (ec1 e) = L0 (ec2 e))
section PR
variable {t L0 L : Nat → Int} {i : Nat} {on : Int}
theorem PrI.q0 {f : Nat → Int} : PrI t (tlo f (fun j => (j : Int)) 100) := fun x hx => by
  rw [show tlo f (fun j => (j : Int)) 100 x = (x : Int) from if_pos hx, Int.toNat_natCast]
  exact ⟨by omega, Int.le_refl _, Cn.rf⟩
theorem PrI.lb (h : PrI t L) : lab L := fun x hx => by
  have := h x hx
  omega
theorem PrI.sb (h : PrI t L) : 0 ≤ sm L 100 ∧ sm L 100 ≤ 100 * ((100 : Nat) : Int) := sm_b (f := L) (M := 100) 100 (fun x hx => by
  have := h x hx
  omega)
theorem PaI.skq (h : PaI t i L0 L on) (hn : t i = -1 → L (ec1 i) = L (ec2 i)) : PaI t (i + 1) L0 L on := by
  obtain ⟨a1, a2, a3, a4, a5, a6⟩ := h
  refine ⟨a1, a2, a3, a4, a5, fun z e he ht => ?_⟩
  by_cases c : e = i
  · rw [c] at ht ⊢
    rw [← a4 z]
    exact hn ht
  · exact a6 z e (by omega) ht
theorem PaI.nxq (h : PaI t i L0 L on) (hi : i < 180) (ht : t i = -1) (hne : ¬ L (ec1 i) = L (ec2 i)) : PaI t (i + 1) L0 (fu (fu L (ec1 i) (min (L (ec1 i)) (L (ec2 i)))) (ec2 i) (min (L (ec1 i)) (L (ec2 i)))) 1 := by
  obtain ⟨a1, a2, a3, a4, a5, a6⟩ := h
  have eb := ec_b i hi
  have l1 := a1 (ec1 i) eb.1
  have l2 := a1 (ec2 i) eb.2.1
  have hA : Aj t (ec1 i) (ec2 i) := ⟨i, hi, ht, Or.inl ⟨rfl, rfl⟩⟩
  have v : ∀ x, fu (fu L (ec1 i) (min (L (ec1 i)) (L (ec2 i)))) (ec2 i) (min (L (ec1 i)) (L (ec2 i))) x = if x = ec1 i ∨ x = ec2 i then min (L (ec1 i)) (L (ec2 i)) else L x := fun x => by
    simp only [fu_3]
    by_cases c2 : x = ec2 i
    · rw [if_pos c2, if_pos (Or.inr c2)]
    · rw [if_neg c2]
      by_cases c1 : x = ec1 i
      · rw [if_pos c1, if_pos (Or.inl c1)]
      · rw [if_neg c1, if_neg (by omega)]
  have hlt : sm (fu (fu L (ec1 i) (min (L (ec1 i)) (L (ec2 i)))) (ec2 i) (min (L (ec1 i)) (L (ec2 i)))) 100 < sm L 100 := by
    have hle : ∀ x, x < 100 → fu (fu L (ec1 i) (min (L (ec1 i)) (L (ec2 i)))) (ec2 i) (min (L (ec1 i)) (L (ec2 i))) x ≤ L x := fun x _ => by
      rw [v x]
      by_cases c : x = ec1 i ∨ x = ec2 i
      · rw [if_pos c]
        rcases c with c | c <;> rw [c] <;> omega
      · rw [if_neg c]; exact Int.le_refl _
    by_cases c : L (ec1 i) < L (ec2 i)
    · exact sm_lt (i := ec2 i) 100 hle eb.2.1 (by rw [v, if_pos (Or.inr rfl)]; omega)
    · exact sm_lt (i := ec1 i) 100 hle eb.1 (by rw [v, if_pos (Or.inl rfl)]; omega)
  refine ⟨fun x hx => ?_, Or.inr rfl, fun _ => by omega, fun z => by omega, by omega, fun z => by omega⟩
  rw [v x]
  by_cases c : x = ec1 i ∨ x = ec2 i
  · rw [if_pos c]
    by_cases d : L (ec1 i) < L (ec2 i)
    · rw [show min (L (ec1 i)) (L (ec2 i)) = L (ec1 i) by omega]
      rcases c with c | c
      · rw [c]; exact l1
      · rw [c]; exact ⟨l1.1, by omega, Cn.cs hA.sy l1.2.2⟩
    · rw [show min (L (ec1 i)) (L (ec2 i)) = L (ec2 i) by omega]
      rcases c with c | c
      · rw [c]; exact ⟨l2.1, by omega, Cn.cs hA l2.2.2⟩
      · rw [c]; exact l2
  · rw [if_neg c]
    exact a1 x hx
theorem PaI.fnq (h : PaI t 180 L0 L 0) : LabOK t L := by
  obtain ⟨a1, a2, a3, a4, a5, a6⟩ := h
  refine ⟨a1, fun x y hA => ?_⟩
  obtain ⟨e, h1, h2, h3⟩ := hA
  have := a6 rfl e h1 h2
  rw [a4 rfl]
  rcases h3 with ⟨c1, c2⟩ | ⟨c1, c2⟩
  · rw [← c1, ← c2]; exact this
  · rw [← c1, ← c2]; exact this.symm
end PR
-- sizes and sides
def SzI (L : Nat → Int) (i : Nat) (S R : Nat → Int) : Prop := ∀ r : Nat, r < 100 → S r = sm (fun x => bi (L x = (r : Int))) i ∧ R r = bi (∃ x, x < i ∧ L x = (r : Int) ∧ rm x)
section SZ
variable {L S R M D : Nat → Int} {i a b : Nat}
theorem SzI.nxq (h : SzI L i S R) (ha : L i = (a : Int)) (hla : a < 100) {z : Int} (hz : z = bi (R a = 1 ∨ rm i)) : SzI L (i + 1) (fu S a (S a + 1)) (fu R a z) := fun r hr => by
  obtain ⟨h1, h2⟩ := h r hr
  by_cases c : r = a
  · rw [c, fu_eq, fu_eq]
    rw [c] at h1 h2
    refine ⟨?_, ?_⟩
    · show S a + 1 = sm (fun x => bi (L x = (a : Int))) i + bi (L i = (a : Int))
      rw [h1, bi_p ha]
    · rw [hz, h2]
      refine bi_c ⟨fun q => ?_, fun ⟨x, x1, x2, x3⟩ => ?_⟩
      · rcases q with q | q
        · have : ∃ x, x < i ∧ L x = (a : Int) ∧ rm x := Classical.byContradiction (fun w => by rw [bi_n w] at q; omega)
          obtain ⟨x, x1, x2, x3⟩ := this
          exact ⟨x, by omega, x2, x3⟩
        · exact ⟨i, by omega, ha, q⟩
      · by_cases d : x = i
        · rw [d] at x3; exact Or.inr x3
        · exact Or.inl (bi_p ⟨x, by omega, x2, x3⟩)
  · rw [fu_ne _ _ c, fu_ne _ _ c]
    refine ⟨?_, ?_⟩
    · show S r = sm (fun x => bi (L x = (r : Int))) i + bi (L i = (r : Int))
      rw [h1, bi_n (by omega), Int.add_zero]
    · rw [h2]
      refine bi_c ⟨fun ⟨x, x1, x2, x3⟩ => ⟨x, by omega, x2, x3⟩, fun ⟨x, x1, x2, x3⟩ => ⟨x, ?_, x2, x3⟩⟩
      by_cases d : x = i
      · rw [d] at x2; omega
      · omega
/-- all edges count -/
abbrev NA (L : Nat → Int) (i r q : Nat) : Prop := NB (fun _ => 0) L i r q
def MeI (L : Nat → Int) (i : Nat) (M D : Nat → Int) : Prop := (∀ r q : Nat, r < 100 → q < 100 → M (100 * r + q) = bi (NA L i r q)) ∧ (∀ r : Nat, r < 100 → D r = sm (fun q => bi (NA L i r q)) 100)
theorem NB.sy {t : Nat → Int} {r q : Nat} (h : NB t L i r q) : NB t L i q r := by
  obtain ⟨e, h1, h2, h3, h4⟩ := h
  exact ⟨e, h1, h2, h3, h4.symm⟩
theorem NA.s (ha : L (ec1 i) = (a : Int)) (hb : L (ec2 i) = (b : Int)) (hab : ¬ a = b) {r q : Nat} : NA L (i + 1) r q ↔ (NA L i r q ∨ ((r = a ∧ q = b) ∨ (r = b ∧ q = a))) := by
  unfold NA
  rw [NB.s, ha, hb]
  refine or_congr Iff.rfl ⟨fun z => ?_, fun z => ⟨by decide, by omega, by omega⟩⟩
  omega
theorem NA.e (h : ¬ ¬ L (ec1 i) = L (ec2 i)) {r q : Nat} : NA L (i + 1) r q ↔ NA L i r q := by
  unfold NA
  rw [NB.s]
  exact ⟨fun z => z.elim id (fun w => absurd w.2.1 h), Or.inl⟩
theorem MeI.cq {i j : Nat} (h : MeI L i M D) (e : ∀ r q : Nat, NA L j r q ↔ NA L i r q) : MeI L j M D := ⟨fun r q hr hq => by rw [h.1 r q hr hq]; exact bi_c (e r q).symm, fun r hr => by rw [h.2 r hr]; exact sm_c 100 (fun q _ => bi_c (e r q).symm)⟩
theorem MeI.nxq (h : MeI L i M D) (ha : L (ec1 i) = (a : Int)) (hb : L (ec2 i) = (b : Int)) (hab : ¬ a = b) (la : a < 100) (lb : b < 100) (hn : M (100 * a + b) = 0) : MeI L (i + 1) (fu (fu M (100 * a + b) 1) (100 * b + a) 1) (fu (fu D a (D a + 1)) b (D b + 1)) := by
  obtain ⟨h1, h2⟩ := h
  have na : ¬ NA L i a b := fun z => by
    rw [h1 a b la lb, bi_p z] at hn
    omega
  have nb : ¬ NA L i b a := fun z => na z.sy
  have s := fun {r q : Nat} => NA.s (r := r) (q := q) ha hb hab
  refine ⟨fun r q hr hq => ?_, fun r hr => ?_⟩
  · by_cases c1 : 100 * r + q = 100 * b + a
    · rw [c1, fu_eq, bi_p (s.mpr (Or.inr (Or.inr (by omega))))]
    · rw [fu_ne _ _ c1]
      by_cases c2 : 100 * r + q = 100 * a + b
      · rw [c2, fu_eq, bi_p (s.mpr (Or.inr (Or.inl (by omega))))]
      · rw [fu_ne _ _ c2, h1 r q hr hq]
        refine bi_c ⟨fun z => s.mpr (Or.inl z), fun z => ?_⟩
        rcases s.mp z with w | w
        · exact w
        · omega
  · by_cases c1 : r = b
    · rw [c1, fu_eq, h2 b lb]
      have hs := sm_up (f := fun q => bi (NA L i b q)) (g := fun q => bi (NA L (i + 1) b q)) (o := a) 100 (fun q _ w => bi_c ⟨fun z => by
        rcases s.mp z with y | y
        · exact y
        · omega, fun z => s.mpr (Or.inl z)⟩)
      rw [if_pos la] at hs
      have g1 : bi (NA L (i + 1) b a) = 1 := bi_p (s.mpr (Or.inr (Or.inr ⟨rfl, rfl⟩)))
      have g2 : bi (NA L i b a) = 0 := bi_n nb
      rw [g1, g2] at hs
      rw [hs]
      omega
    · rw [fu_ne _ _ c1]
      by_cases c2 : r = a
      · rw [c2, fu_eq, h2 a la]
        have hs := sm_up (f := fun q => bi (NA L i a q)) (g := fun q => bi (NA L (i + 1) a q)) (o := b) 100 (fun q _ w => bi_c ⟨fun z => by
          rcases s.mp z with y | y
          · exact y
          · omega, fun z => s.mpr (Or.inl z)⟩)
        rw [if_pos lb] at hs
        have g1 : bi (NA L (i + 1) a b) = 1 := bi_p (s.mpr (Or.inr (Or.inl ⟨rfl, rfl⟩)))
        have g2 : bi (NA L i a b) = 0 := bi_n na
        rw [g1, g2] at hs
        rw [hs]
        omega
      · rw [fu_ne _ _ c2, h2 r hr]
        refine sm_c 100 (fun q _ => bi_c ⟨fun z => s.mpr (Or.inl z), fun z => ?_⟩)
        rcases s.mp z with w | w
        · exact w
        · omega
theorem MeI.met (h : MeI L i M D) (ha : L (ec1 i) = (a : Int)) (hb : L (ec2 i) = (b : Int)) (hab : ¬ a = b) (la : a < 100) (lb : b < 100) (hn : ¬ M (100 * a + b) = 0) : MeI L (i + 1) M D := by
  have na : NA L i a b := Classical.byContradiction (fun z => hn (by rw [h.1 a b la lb, bi_n z]))
  refine h.cq (fun r q => ?_)
  rw [NA.s ha hb hab]
  refine ⟨fun z => ?_, Or.inl⟩
  rcases z with z | ⟨z1, z2⟩ | ⟨z1, z2⟩
  · exact z
  · rw [z1, z2]; exact na
  · rw [z1, z2]; exact na.sy
theorem NA.nb {t : Nat → Int} (h : LabOK t L) {r q : Nat} : NA L 180 r q ↔ NB t L 180 r q := by
  constructor
  · intro ⟨e, h1, h2, h3, h4⟩
    exact ⟨e, h1, fun z => h3 (h.2 _ _ ⟨e, h1, z, Or.inl ⟨rfl, rfl⟩⟩), h3, h4⟩
  · intro ⟨e, h1, h2, h3, h4⟩
    exact ⟨e, h1, show ¬ (0 : Int) = -1 by decide, h3, h4⟩
end SZ
