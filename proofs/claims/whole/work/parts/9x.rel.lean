-- CLASS AND REFERENCE READ ALIKE: the relation
def sgC (k : Int) : Int := [0, 1, 2, 3, 6, 7, 8, 9, 10, 13, 11, 12, 14, 4, 5].getD k.toNat 0
def wmp (sl v : Int) : Int := if sl < 8 then [0, 1, 6, 2, 3, 4, 5].getD v.toNat 0 else v
def enc (sl k v : Int) : Int := if k = 0 then 16 * v else if k = 1 then 16 * wmp sl v + 1 else sgC k
/-- sorts of what stands on the stack: true is a truth -/
def tyI (w k v : Int) (l : List Bool) : Option (List Bool) :=
  if k = 0 then (if 0 ≤ v ∧ v ≤ 99999 then some (false :: l) else none)
  else if k = 1 then (if 0 ≤ v ∧ v < w then some (false :: l) else none)
  else if k = 9 then (match l with | true :: r => some (true :: r) | _ => none)
  else if k = 10 ∨ k = 11 then (match l with | true :: true :: r => some (true :: r) | _ => none)
  else if 4 ≤ k ∧ k ≤ 8 then (match l with | _ :: _ :: r => some (true :: r) | _ => none)
  else if k = 2 ∨ k = 3 ∨ k = 13 ∨ k = 14 then (match l with | _ :: _ :: r => some (false :: r) | _ => none)
  else none
def tyS (w : Int) (s m : Nat → Int) (a : Nat) : Nat → Option (List Bool)
  | 0 => some []
  | k + 1 => match tyS w s m a k with
    | some l => tyI w (s (a + k)) (m (a + k)) l
    | none => none
/-- how many values stand in a row of entries -/
def nvS (s : Nat → Int) (a : Nat) : Nat → Int
  | 0 => 0
  | k + 1 => nvS s a k + (if s (a + k) = 0 ∨ s (a + k) = 1 then 1 else 0)
abbrev slB (σ : GS) : Nat := (300 * σ.1 23).toNat
/-- the class's code is the reference's entries -/
def SE (q : UQ) (σ : GS) : Prop := q.1 = σ.1 26 ∧ q.2.1 = σ.1 27 ∧ ∀ i : Nat, (i : Int) < σ.1 26 → q.2.2 i = enc (σ.1 23) (σ.2.1 (slB σ + i)) (σ.2.2 (slB σ + i))
/-- place, things, which sort of text -/
def SB (T : Nat → Int) (n : Nat) (c : CR) (σ : GS) : Prop := (c.2.1 4 = (n : Int) ∧ 0 ≤ c.2.1 5 ∧ c.2.1 5 ≤ (n : Int)) ∧ rn isB T n (c.2.1 5).toNat = rn isB T n (σ.1 21).toNat ∧ c.1 5 = σ.1 28 ∧ c.1 2 = (if σ.1 23 < 8 then 0 else 1)
/-- put down as far as r, the class stands at h like the reference -/
def LT (r : Int) (c : CR) (h : Nat) (σ : GS) : Prop := (unA r c.2.2.2.1 (c.1 9).toNat (qOf c)).1 = h ∧ SE (unA r c.2.2.2.1 (c.1 9).toNat (qOf c)).2 σ
def CT (T : Nat → Int) (n : Nat) (r : Int) (h : Nat) (c : CR) (σ : GS) : Prop := c.1 3 = 4 ∧ SB T n c σ ∧ LT r c h σ
def CV (T : Nat → Int) (n h : Nat) (c : CR) (σ : GS) : Prop := c.1 3 = 3 ∧ SB T n c σ ∧ SE (qOf c) σ ∧ c.1 9 = (h : Int)
/-- what a sum leaves alone -/
def AF (c d : CR) (h : Nat) : Prop := d.1 14 = c.1 14 ∧ d.2.2.2.2.1 = c.2.2.2.2.1 ∧ d.2.2.2.2.2.1 = c.2.2.2.2.2.1 ∧ d.2.2.2.2.2.2.1 = c.2.2.2.2.2.2.1 ∧ d.2.2.2.2.2.2.2 = c.2.2.2.2.2.2.2 ∧ ∀ i, i < h → d.2.2.2.1 i = c.2.2.2.1 i
/-- what stays of the entries -/
def FrS (σ τ : GS) : Prop := τ.1 23 = σ.1 23 ∧ σ.1 26 ≤ τ.1 26 ∧ ∀ i : Nat, ((i : Int) < 300 * σ.1 23 + σ.1 26 ∨ 300 * σ.1 23 + 300 ≤ (i : Int)) → τ.2.1 i = σ.2.1 i ∧ τ.2.2 i = σ.2.2 i
/-- behind a fault nothing changes -/
def FS (σ τ : GS) : Prop := τ.1 22 = σ.1 22 ∧ τ.2 = σ.2 ∧ τ.1 26 = σ.1 26 ∧ τ.1 23 = σ.1 23
def wNo (sl : Int) : Int := if sl < 8 then 7 else 11
/-- sorts go on from A to B -/
def TyR (σ τ : GS) (A B : List Bool) : Prop := (∀ (a : Nat) l, (a : Int) ≤ σ.1 26 → tyS (wNo (σ.1 23)) σ.2.1 σ.2.2 (slB σ + a) ((σ.1 26).toNat - a) = some (A ++ l) → tyS (wNo (σ.1 23)) τ.2.1 τ.2.2 (slB σ + a) ((τ.1 26).toNat - a) = some (B ++ l)) ∧ nvS τ.2.1 (slB σ) (τ.1 26).toNat - τ.1 28 ≤ nvS σ.2.1 (slB σ) (σ.1 26).toNat - σ.1 28
def OutC (T : Nat → Int) (n : Nat) (c : CR) (R : BR) : Prop := ∀ f : Nat, n < f + (c.2.1 5).toNat → rdC T n f c = R
def FtC (T : Nat → Int) (n : Nat) (c : CR) (φ : Int) : Prop := ∃ d : CR, OutC T n c (false, d) ∧ d.1 0 + (1 + 8 * d.2.1 0) = φ
/-- from c the class comes to d -/
def Rc (T : Nat → Int) (n : Nat) (c d : CR) : Prop := (∀ R : CR, OutC T n d (true, R) → OutC T n c (true, R)) ∧ ∀ φ, FtC T n d φ → FtC T n c φ
def Res (T : Nat → Int) (n : Nat) (c : CR) (σ τ : GS) (A B : List Bool) (G : CR → Prop) : Prop := FrS σ τ ∧ (¬ τ.1 22 = 0 → FtC T n c (τ.1 22)) ∧ (τ.1 22 = 0 → TyR σ τ A B ∧ ∃ d, Rc T n c d ∧ G d)
section REL
variable {T : Nat → Int} {n h : Nat} {c d : CR} {σ τ ρ : GS} {s v r : Int} {A B C : List Bool} {q : UQ}
theorem Rc.rf : Rc T n c c := ⟨fun _ h => h, fun _ h => h⟩
theorem Rc.tr {e : CR} (h1 : Rc T n c d) (h2 : Rc T n d e) : Rc T n c e := ⟨fun R h => h1.1 R (h2.1 R h), fun φ h => h1.2 φ (h2.2 φ h)⟩
theorem Rc.st (h6 : ¬ c.1 3 = 6) (hb : (tkPc (adv T n c)).1 = true) (h5 : (c.2.1 5).toNat ≤ n) (hk : (c.2.1 5).toNat < ((tkPc (adv T n c)).2.2.1 5).toNat) : Rc T n c (tkPc (adv T n c)).2 := by
  have key : ∀ R : BR, OutC T n (tkPc (adv T n c)).2 R → OutC T n c R := fun R h f hf => by
    cases f with
    | zero => omega
    | succ f =>
      unfold rdC
      rw [if_neg h6, if_pos hb]
      exact h f (by omega)
  exact ⟨fun R h => key _ h, fun φ h => by
    obtain ⟨d, h1, h2⟩ := h
    exact ⟨d, key _ h1, h2⟩⟩
theorem FtC.st (h6 : ¬ c.1 3 = 6) (hb : (tkPc (adv T n c)).1 = false) (h5 : (c.2.1 5).toNat ≤ n) (hv : (tkPc (adv T n c)).2.1 0 + (1 + 8 * ((rn isB T n (c.2.1 5).toNat : Nat) : Int)) = v) : FtC T n c v := by
  refine ⟨(tkPc (adv T n c)).2, fun f hf => ?_, ?_⟩
  · cases f with
    | zero => omega
    | succ f =>
      unfold rdC
      rw [if_neg h6, if_neg (by rw [hb]; decide)]
  · rw [(tkP_f (c := adv T n c)).1, show (adv T n c).2.1 0 = ((rn isB T n (c.2.1 5).toNat : Nat) : Int) from rfl]
    exact hv
/-- two that take the next piece alike -/
theorem Rc.same (h6 : ¬ c.1 3 = 6) (g6 : ¬ d.1 3 = 6) (h5 : (c.2.1 5).toNat ≤ n) (hk : d.2.1 5 = c.2.1 5) (h1 : (tkPc (adv T n c)).1 = (tkPc (adv T n d)).1) (h2 : (tkPc (adv T n c)).1 = true → (tkPc (adv T n c)).2 = (tkPc (adv T n d)).2) (h3 : (tkPc (adv T n c)).1 = false → (tkPc (adv T n c)).2.1 0 = (tkPc (adv T n d)).2.1 0) : Rc T n c d := by
  have ek : (adv T n c).2.1 0 = (adv T n d).2.1 0 := by
    show ((rn isB T n (c.2.1 5).toNat : Nat) : Int) = ((rn isB T n (d.2.1 5).toNat : Nat) : Int)
    rw [hk]
  have un : ∀ f R, rdC T n (f + 1) d = R → (tkPc (adv T n c)).1 = true → rdC T n (f + 1) c = R := fun f R e z => by
    unfold rdC at e ⊢
    rw [if_neg g6, if_pos (h1 ▸ z)] at e
    rw [if_neg h6, if_pos z, h2 z]
    exact e
  refine ⟨fun R h f hf => ?_, fun φ h => ?_⟩
  · cases f with
    | zero => omega
    | succ f =>
      have e := h (f + 1) (by rw [hk]; exact hf)
      cases z : (tkPc (adv T n c)).1 with
      | true => exact un f _ e z
      | false =>
        unfold rdC at e
        rw [if_neg g6, if_neg (by rw [← h1, z]; decide)] at e
        exact absurd (show false = true from congrArg Prod.fst e) (by decide)
  · cases z : (tkPc (adv T n c)).1 with
    | true =>
      obtain ⟨e, he, hφ⟩ := h
      refine ⟨e, fun f hf => ?_, hφ⟩
      cases f with
      | zero => omega
      | succ f => exact un f _ (he (f + 1) (by rw [hk]; exact hf)) z
    | false =>
      obtain ⟨e, he, hφ⟩ := h
      have e1 := he (n + 1) (by omega)
      unfold rdC at e1
      rw [if_neg g6, if_neg (by rw [← h1, z]; decide)] at e1
      have e2 : (tkPc (adv T n d)).2 = e := congrArg Prod.snd e1
      refine FtC.st h6 z h5 ?_
      rw [h3 z, e2, ← hφ, ← e2, (tkP_f (c := adv T n d)).1, ← ek]
      rfl
theorem FrS.rf : FrS σ σ := ⟨rfl, Int.le_refl _, fun _ _ => ⟨rfl, rfl⟩⟩
theorem FrS.tr (h1 : FrS σ τ) (h2 : FrS τ ρ) : FrS σ ρ := by
  obtain ⟨a1, a2, a3⟩ := h1
  obtain ⟨b1, b2, b3⟩ := h2
  rw [a1] at b3
  refine ⟨b1.trans a1, by omega, fun i hi => ?_⟩
  have x := a3 i hi
  have y := b3 i (by omega)
  exact ⟨y.1.trans x.1, y.2.trans x.2⟩
theorem FS.fr (h : FS σ τ) : FrS σ τ := ⟨h.2.2.2, by rw [h.2.2.1]; exact Int.le_refl _, fun i _ => by rw [h.2.1]; exact ⟨rfl, rfl⟩⟩
theorem FS.tr (h1 : FS σ τ) (h2 : FS τ ρ) : FS σ ρ := ⟨h2.1.trans h1.1, h2.2.1.trans h1.2.1, h2.2.2.1.trans h1.2.2.1, h2.2.2.2.trans h1.2.2.2⟩
theorem FS.rf : FS σ σ := ⟨rfl, rfl, rfl, rfl⟩
theorem FrS.sl (h : FrS σ τ) : slB τ = slB σ := by
  unfold slB
  rw [h.1]
theorem TyR.tr (hf : FrS σ τ) (h1 : TyR σ τ A B) (h2 : TyR τ ρ B C) : TyR σ ρ A C := by
  have e := hf.sl
  have e2 := hf.2.1
  refine ⟨fun a l ha hl => ?_, ?_⟩
  · have x := h1.1 a l ha hl
    have y := h2.1 a l (by omega)
    rw [hf.1, e] at y
    exact y x
  · have x := h1.2
    have y := h2.2
    rw [e] at y
    omega
theorem TyR.rf : TyR σ σ A A := ⟨fun _ _ _ h => h, Int.le_refl _⟩
theorem TyR.wk (L : List Bool) (h1 : TyR σ τ A B) : TyR σ τ (A ++ L) (B ++ L) := by
  refine ⟨fun a l ha hl => ?_, h1.2⟩
  rw [List.append_assoc] at hl ⊢
  exact h1.1 a (L ++ l) ha hl
theorem Res.seq {G H : CR → Prop} (h1 : Res T n c σ τ A B G) (hF : ¬ τ.1 22 = 0 → FS τ ρ) (h2 : ∀ d, G d → τ.1 22 = 0 → Res T n d τ ρ B C H) : Res T n c σ ρ A C H := by
  obtain ⟨a1, a2, a3⟩ := h1
  by_cases z : τ.1 22 = 0
  · obtain ⟨t, d, r, g⟩ := a3 z
    obtain ⟨b1, b2, b3⟩ := h2 d g z
    refine ⟨a1.tr b1, fun y => r.2 _ (b2 y), fun y => ?_⟩
    obtain ⟨t2, e, r2, g2⟩ := b3 y
    exact ⟨t.tr a1 t2, e, r.tr r2, g2⟩
  · have f := hF z
    refine ⟨a1.tr f.fr, fun _ => by rw [f.1]; exact a2 z, fun y => absurd (f.1.symm.trans y) z⟩
theorem Res.rc {G : CR → Prop} (hr : Rc T n c d) (h : Res T n d σ τ A B G) : Res T n c σ τ A B G := by
  obtain ⟨a1, a2, a3⟩ := h
  refine ⟨a1, fun z => hr.2 _ (a2 z), fun z => ?_⟩
  obtain ⟨t, e, r, g⟩ := a3 z
  exact ⟨t, e, hr.tr r, g⟩
theorem Res.up {G H : CR → Prop} (h : Res T n c σ τ A B G) (hg : τ.1 22 = 0 → ∀ d, G d → H d) : Res T n c σ τ A B H := by
  obtain ⟨a1, a2, a3⟩ := h
  refine ⟨a1, a2, fun z => ?_⟩
  obtain ⟨t, e, r, g⟩ := a3 z
  exact ⟨t, e, r, hg z e g⟩
/-- the reference alone goes on -/
theorem Res.one {H : CR → Prop} (hf : FrS σ τ) (hz : τ.1 22 = 0) (ht : TyR σ τ A B) (h : H c) : Res T n c σ τ A B H := ⟨hf, fun z => absurd hz z, fun _ => ⟨ht, c, Rc.rf, h⟩⟩
theorem AF.rf : AF c c h := ⟨rfl, rfl, rfl, rfl, rfl, fun _ _ => rfl⟩
theorem AF.tr {e : CR} {k : Nat} (h1 : AF c d h) (h2 : AF d e k) (hk : h ≤ k) : AF c e h := ⟨h2.1.trans h1.1, h2.2.1.trans h1.2.1, h2.2.2.1.trans h1.2.2.1, h2.2.2.2.1.trans h1.2.2.2.1, h2.2.2.2.2.1.trans h1.2.2.2.2.1, fun i hi => (h2.2.2.2.2.2 i (by omega)).trans (h1.2.2.2.2.2 i hi)⟩
theorem AF.lo {k : Nat} (h1 : AF c d k) : AF c d 0 := ⟨h1.1, h1.2.1, h1.2.2.1, h1.2.2.2.1, h1.2.2.2.2.1, fun i hi => absurd hi (Nat.not_lt_zero i)⟩
-- the pile
theorem rkI_6 (v : Int) : rkI v ≤ 6 := by
  by_cases c : v.toNat < 15
  · exact (show ∀ k : Nat, k < 15 → (fzi.getD 3 []).getD k 0 ≤ 6 by decide +kernel) v.toNat c
  · unfold rkI
    rw [show (fzi.getD 3 []).getD v.toNat 0 = 0 from by
      rw [List.getD_eq_getElem?_getD, List.getElem?_eq_none (by show 15 ≤ v.toNat; omega)]
      rfl]
    decide
theorem unA_n {pl : Nat → Int} (hs : h = 0 ∨ rkI (pl (h - 1)) < r) : unA r pl h q = (h, q) := by
  cases h with
  | zero => rfl
  | succ h =>
    unfold unA
    rw [if_neg (fun z => by
      have := hs.resolve_left (by omega)
      rw [Nat.add_sub_cancel] at this
      omega)]
theorem unA_y {pl : Nat → Int} (hs : r ≤ rkI (pl h)) : unA r pl (h + 1) q = unA r pl h (poQ (pl h) q) := by
  show (if r ≤ rkI (pl h) then unA r pl h (poQ (pl h) q) else (h + 1, q)) = _
  rw [if_pos hs]
theorem unA_c {pl : Nat → Int} {r2 : Int} (hr : r ≤ r2) : ∀ (h : Nat) (q : UQ), unA r pl (unA r2 pl h q).1 (unA r2 pl h q).2 = unA r pl h q
  | 0, q => rfl
  | h + 1, q => by
    by_cases z : r2 ≤ rkI (pl h)
    · rw [unA_y z, unA_c hr h, unA_y (by omega)]
    · rw [show unA r2 pl (h + 1) q = (h + 1, q) from if_neg z]
theorem LT.dn {r2 : Int} (hl : LT r2 c h σ) (hr : r ≤ r2) (hs : h = 0 ∨ rkI (c.2.2.2.1 (h - 1)) < r) : LT r c h σ := by
  obtain ⟨a, b⟩ := hl
  unfold LT
  rw [← unA_c hr, a, unA_n hs]
  exact ⟨rfl, b⟩
theorem LT.pop {r2 : Int} (hl : LT r2 c (h + 1) σ) (hr : r ≤ r2) (hp : r ≤ rkI (c.2.2.2.1 h)) (hs : h = 0 ∨ rkI (c.2.2.2.1 (h - 1)) < r) (he : ∀ q : UQ, SE q σ → SE (poQ (c.2.2.2.1 h) q) τ) : LT r c h τ := by
  obtain ⟨a, b⟩ := hl
  unfold LT
  rw [← unA_c hr, a, unA_y hp, unA_n hs]
  exact ⟨rfl, he _ b⟩
theorem LT.of7 (h9 : c.1 9 = (h : Int)) (he : SE (qOf c) σ) : LT 7 c h σ := by
  unfold LT
  rw [h9, Int.toNat_natCast, unA_n (by
    by_cases z : h = 0
    · exact Or.inl z
    · exact Or.inr (by have := rkI_6 (c.2.2.2.1 (h - 1)); omega))]
  exact ⟨rfl, he⟩
theorem LT.cg {r2 : Int} (hl : LT r2 c h σ) (h26 : τ.1 26 = σ.1 26) (h27 : τ.1 27 = σ.1 27) (h23 : τ.1 23 = σ.1 23) (h2 : τ.2 = σ.2) : LT r2 c h τ := by
  refine ⟨hl.1, ?_⟩
  unfold SE slB
  rw [h26, h27, h23, h2]
  exact hl.2
theorem SE.cg (hl : SE q σ) (h26 : τ.1 26 = σ.1 26) (h27 : τ.1 27 = σ.1 27) (h23 : τ.1 23 = σ.1 23) (h2 : τ.2 = σ.2) : SE q τ := by
  unfold SE slB
  rw [h26, h27, h23, h2]
  exact hl
theorem enF_26 {k : Int} (hz : σ.1 22 = 0) : (enF k v σ).1 26 = σ.1 26 + 1 := by
  show enG σ.1 26 = _
  unfold enG
  rw [if_pos hz, fu_eq]
theorem enF_1 {k : Int} (hz : σ.1 22 = 0) (i : Nat) : (enF k v σ).2.1 i = if i = (300 * σ.1 23 + σ.1 26).toNat then k else σ.2.1 i := by
  show enS σ.1 σ.2.1 k i = _
  unfold enS
  rw [if_pos hz]
  rfl
theorem enF_2 {k : Int} (hz : σ.1 22 = 0) (i : Nat) : (enF k v σ).2.2 i = if i = (300 * σ.1 23 + σ.1 26).toNat then v else σ.2.2 i := by
  show enS σ.1 σ.2.2 v i = _
  unfold enS
  rw [if_pos hz]
  rfl
theorem SE.en {k : Int} (he : SE q σ) (hz : σ.1 22 = 0) (h23 : 0 ≤ σ.1 23) (h26 : 0 ≤ σ.1 26 ∧ σ.1 26 < 300) : SE (puQ (enc (σ.1 23) k v) q) (enF k v σ) := by
  obtain ⟨a, b, e⟩ := he
  have e23 : (enF k v σ).1 23 = σ.1 23 := en_o (by decide)
  unfold puQ
  rw [if_pos (by omega)]
  refine ⟨?_, ?_, fun i hi => ?_⟩
  · show q.1 + 1 = _
    rw [enF_26 hz, a]
  · show q.2.1 = _
    rw [en_o (by decide), b]
  · rw [enF_26 hz] at hi
    unfold slB
    rw [e23, enF_1 hz, enF_2 hz]
    show fu q.2.2 q.1.toNat (enc (σ.1 23) k v) i = _
    rw [fu_3, a]
    by_cases c1 : i = (σ.1 26).toNat
    · rw [if_pos c1, if_pos (by omega), if_pos (by omega)]
    · rw [if_neg c1, if_neg (by omega), if_neg (by omega)]
      exact e i (by omega)
theorem FrS.en {k : Int} (h26 : σ.1 22 = 0 → 0 ≤ σ.1 26 ∧ σ.1 26 < 300) (h23 : 0 ≤ σ.1 23) : FrS σ (enF k v σ) := by
  by_cases hz : σ.1 22 = 0
  · have := h26 hz
    refine ⟨en_o (by decide), by rw [enF_26 hz]; omega, fun i hi => ?_⟩
    rw [enF_1 hz, enF_2 hz, if_neg (by omega), if_neg (by omega)]
    exact ⟨rfl, rfl⟩
  · have e : enF k v σ = σ := by
      unfold enF enG enS
      rw [if_neg hz, if_neg hz, if_neg hz]
    rw [e]
    exact FrS.rf
theorem enF_f {k : Int} (hz : ¬ σ.1 22 = 0) : enF k v σ = σ := by
  unfold enF enG enS
  rw [if_neg hz, if_neg hz, if_neg hz]
theorem tyS_e {w : Int} {s m s2 m2 : Nat → Int} {a : Nat} : ∀ k, (∀ i, a ≤ i → i < a + k → s2 i = s i ∧ m2 i = m i) → tyS w s2 m2 a k = tyS w s m a k
  | 0, _ => rfl
  | k + 1, h => by
    unfold tyS
    rw [tyS_e k (fun i x y => h i x (by omega)), (h (a + k) (by omega) (by omega)).1, (h (a + k) (by omega) (by omega)).2]
theorem nvS_e {s s2 : Nat → Int} {a : Nat} : ∀ k, (∀ i, a ≤ i → i < a + k → s2 i = s i) → nvS s2 a k = nvS s a k
  | 0, _ => rfl
  | k + 1, h => by
    unfold nvS
    rw [nvS_e k (fun i x y => h i x (by omega)), h (a + k) (by omega) (by omega)]
/-- one more entry -/
theorem ty_en {k : Int} (hz : σ.1 22 = 0) (h23 : 0 ≤ σ.1 23) (h26 : 0 ≤ σ.1 26 ∧ σ.1 26 < 300) (hk : ∀ l, tyI (wNo (σ.1 23)) k v (A ++ l) = some (B ++ l)) (a : Nat) (l : List Bool) (ha : (a : Int) ≤ σ.1 26) (hl : tyS (wNo (σ.1 23)) σ.2.1 σ.2.2 (slB σ + a) ((σ.1 26).toNat - a) = some (A ++ l)) : tyS (wNo (σ.1 23)) (enF k v σ).2.1 (enF k v σ).2.2 (slB σ + a) (((enF k v σ).1 26).toNat - a) = some (B ++ l) := by
  have eN : ((enF k v σ).1 26).toNat = (σ.1 26).toNat + 1 := by rw [enF_26 hz]; omega
  have e1 : ∀ i, (slB σ ≤ i ∧ i < slB σ + (σ.1 26).toNat) → (enF k v σ).2.1 i = σ.2.1 i ∧ (enF k v σ).2.2 i = σ.2.2 i := fun i hi => by
    have : slB σ = (300 * σ.1 23).toNat := rfl
    rw [enF_1 hz, enF_2 hz, if_neg (by omega), if_neg (by omega)]
    exact ⟨rfl, rfl⟩
  have eL : (enF k v σ).2.1 (slB σ + (σ.1 26).toNat) = k ∧ (enF k v σ).2.2 (slB σ + (σ.1 26).toNat) = v := by
    have : slB σ = (300 * σ.1 23).toNat := rfl
    rw [enF_1 hz, enF_2 hz, if_pos (by omega), if_pos (by omega)]
    exact ⟨rfl, rfl⟩
  rw [eN, show (σ.1 26).toNat + 1 - a = ((σ.1 26).toNat - a) + 1 by omega]
  unfold tyS
  rw [tyS_e (s := σ.2.1) (m := σ.2.2) _ (fun i x y => e1 i ⟨by omega, by omega⟩), hl]
  show tyI _ ((enF k v σ).2.1 (slB σ + a + ((σ.1 26).toNat - a))) ((enF k v σ).2.2 (slB σ + a + ((σ.1 26).toNat - a))) (A ++ l) = _
  rw [show slB σ + a + ((σ.1 26).toNat - a) = slB σ + (σ.1 26).toNat by omega, eL.1, eL.2]
  exact hk l
theorem nvS_s {k : Int} (hz : σ.1 22 = 0) (h23 : 0 ≤ σ.1 23) (h26 : 0 ≤ σ.1 26 ∧ σ.1 26 < 300) : nvS (enF k v σ).2.1 (slB σ) ((enF k v σ).1 26).toNat = nvS σ.2.1 (slB σ) (σ.1 26).toNat + (if k = 0 ∨ k = 1 then 1 else 0) := by
  have eN : ((enF k v σ).1 26).toNat = (σ.1 26).toNat + 1 := by rw [enF_26 hz]; omega
  have : slB σ = (300 * σ.1 23).toNat := rfl
  rw [eN]
  show nvS (enF k v σ).2.1 (slB σ) (σ.1 26).toNat + (if (enF k v σ).2.1 (slB σ + (σ.1 26).toNat) = 0 ∨ (enF k v σ).2.1 (slB σ + (σ.1 26).toNat) = 1 then 1 else 0) = _
  have ek : (enF k v σ).2.1 (slB σ + (σ.1 26).toNat) = k := by rw [enF_1 hz, if_pos (by omega)]
  rw [nvS_e (s := σ.2.1) _ (fun i x y => by rw [enF_1 hz, if_neg (by omega)]), ek]
theorem TyR.en {k : Int} (hz : σ.1 22 = 0) (h23 : 0 ≤ σ.1 23) (h26 : 0 ≤ σ.1 26 ∧ σ.1 26 < 300) (hk : ∀ l, tyI (wNo (σ.1 23)) k v (A ++ l) = some (B ++ l)) (hv : ¬ (k = 0 ∨ k = 1)) : TyR σ (enF k v σ) A B := by
  have e28 : (enF k v σ).1 28 = σ.1 28 := en_o (by decide)
  refine ⟨ty_en hz h23 h26 hk, ?_⟩
  rw [nvS_s hz h23 h26, e28, if_neg hv]
  omega
/-- a value more -/
theorem TyR.va {k : Int} {ρ : GS} (hz : ρ.1 22 = 0) (h23 : 0 ≤ ρ.1 23) (h26 : 0 ≤ ρ.1 26 ∧ ρ.1 26 < 300) (hk : ∀ l, tyI (wNo (ρ.1 23)) k v (A ++ l) = some (B ++ l)) (e2 : ρ.2 = σ.2) (e26 : ρ.1 26 = σ.1 26) (e23 : ρ.1 23 = σ.1 23) (e28 : ρ.1 28 = σ.1 28 + 1) : TyR σ (enF k v ρ) A B := by
  have f28 : (enF k v ρ).1 28 = ρ.1 28 := en_o (by decide)
  have es : slB ρ = slB σ := by unfold slB; rw [e23]
  have t := ty_en (σ := ρ) hz h23 h26 hk
  have nv := nvS_s (σ := ρ) (k := k) (v := v) hz h23 h26
  rw [es, e2, e26, e23] at t
  rw [es, e2, e26] at nv
  refine ⟨t, ?_⟩
  rw [nv, f28, e28]
  split <;> omega
-- places
theorem rn_st {P : Int → Bool} : ∀ (f p : Nat), n - p ≤ f → ¬ (rn P T n p < n ∧ P (T (rn P T n p)) = true)
  | 0, p, hf => by
    rw [rn_e (by omega)]
    omega
  | f + 1, p, hf => by
    by_cases z : p < n ∧ P (T p) = true
    · rw [rn_s z.1 z.2]
      exact rn_st f (p + 1) (by omega)
    · rw [rn_e z]
      exact z
theorem rn_id {P : Int → Bool} {p : Nat} : rn P T n (rn P T n p) = rn P T n p := rn_e (rn_st (n - p) p (Nat.le_refl _))
end REL
