-- TEARS, as functions of a floor (rows as the reference has them: 0 scalars, 1 wet, 2 shade, 3 salt, 4 grain, 5 scratch, 6 owner, 7 depth, 8 scar, 9 began at, 10 began in, 11 asides, 12 tip's end, 13 tip's node, 14 tip's way, 15 rounds, 16 and 17 candidates)
abbrev SG : Type := Nat → Nat → Int
def tAs (t : Nat → Int) (n bb : Int) : Nat → Int
  | 0 => -1
  | d + 1 => if ¬ eef n d = bb ∧ ¬ t (eef n d).toNat = -1 ∧ (tAs t n bb d = -1 ∨ eef n d < tAs t n bb d) then eef n d else tAs t n bb d
noncomputable def eAt (t : Nat → Int) (n bb : Int) : Int := @ite Int (inn n) (Classical.propDecidable _) (if tAs t n bb 4 = -1 then -3 else t (tAs t n bb 4).toNat) (-2)
def tn3 (k : Nat) : Int := match k with
  | 0 => 0
  | 1 => 3
  | _ => 1
def chs (pu ho : Int → Int) (t : Nat → Int) (nt n w : Int) : Nat → Int × Int
  | 0 => (-1, 0)
  | k + 1 => if t (eef n ((w + tn3 k) % 4)).toNat = -1 ∧ ho (eef n ((w + tn3 k) % 4)) * nt ≤ pu (eef n ((w + tn3 k) % 4)) * 1000 ∧ ((chs pu ho t nt n w k).1 = -1 ∨ (chs pu ho t nt n w k).2 < pu (eef n ((w + tn3 k) % 4))) then ((w + tn3 k) % 4, pu (eef n ((w + tn3 k) % 4))) else chs pu ho t nt n w k
def sPu (lw : LW) (σ : SG) (e : Int) : Int := pul (σ 6) (σ 1) (lw.2 5) e
def sHo (lw : LW) (σ : SG) (e : Int) : Int := hol lw (σ 0 4) (σ 1) (σ 2) (σ 3) (σ 4) (σ 5) (σ 8) e
def ripS (σ : SG) (e t : Int) : SG := fu (fu (fu σ 6 (fu (σ 6) e.toNat t)) 7 (fu (σ 7) e.toNat 1)) 8 (fu (σ 8) e.toNat 0)
/-- a tip goes on by the edge that way -/
noncomputable def goW (σ : SG) (tip : Nat) (b : Int) : SG :=
  fu (fu (fu (fu (ripS σ (eef (σ 13 tip) b) ((tip / 2 : Nat) : Int)) 11 (fu (σ 11) (tip / 2) (σ 11 (tip / 2) + if b = σ 14 tip then 0 else 1))) 12 (fu (σ 12) tip (eAt (fu (σ 6) (eef (σ 13 tip) b).toNat ((tip / 2 : Nat) : Int)) (enf (σ 13 tip) b) (eef (σ 13 tip) b)))) 13 (fu (σ 13) tip (enf (σ 13 tip) b))) 14 (fu (σ 14) tip b)
def goB (lw : LW) (σ : SG) (tip : Nat) : Int := (chs (sPu lw σ) (sHo lw σ) (σ 6) (lw.2 2) (σ 13 tip) (σ 14 tip) 3).1
noncomputable def gnS (lw : LW) (σ : SG) (tip : Nat) : SG := if σ 12 tip = -3 then (if goB lw σ tip = -1 then σ else goW σ tip (goB lw σ tip)) else σ
noncomputable def goN (lw : LW) (σ : SG) : Nat → SG
  | 0 => σ
  | n + 1 => gnS lw (goN lw σ n) n
def nws (pu ho : Int → Int) (t : Nat → Int) : Nat → Int × Int
  | 0 => (-1, 0)
  | e + 1 => if t e = -1 ∧ (nws pu ho t e).2 < pu e - ho e then ((e : Int), pu e - ho e) else nws pu ho t e
def neB (lw : LW) (σ : SG) : Int := (nws (sPu lw σ) (sHo lw σ) (σ 6) 180).1
/-- a new tear begins at an edge -/
noncomputable def neW (σ : SG) (e : Int) : SG :=
  fu (fu (fu (fu (fu (fu (ripS (fu σ 0 (fu (σ 0) 5 (σ 0 5 + 1))) e (σ 0 5)) 9 (fu (σ 9) (σ 0 5).toNat e)) 10 (fu (σ 10) (σ 0 5).toNat (σ 0 4))) 11 (fu (σ 11) (σ 0 5).toNat 0)) 12 (fu (fu (σ 12) (2 * (σ 0 5).toNat) (eAt (fu (σ 6) e.toNat (σ 0 5)) (efn e) e)) (2 * (σ 0 5).toNat + 1) (eAt (fu (σ 6) e.toNat (σ 0 5)) (etn e) e))) 13 (fu (fu (σ 13) (2 * (σ 0 5).toNat) (efn e)) (2 * (σ 0 5).toNat + 1) (etn e))) 14 (fu (fu (σ 14) (2 * (σ 0 5).toNat) (if e < 90 then 0 else 3)) (2 * (σ 0 5).toNat + 1) (if e < 90 then 2 else 1))
noncomputable def neS (lw : LW) : Nat → SG → SG
  | 0, σ => σ
  | k + 1, σ => if σ 0 5 < 200 ∧ ¬ neB lw σ = -1 then neS lw k (neW σ (neB lw σ)) else σ
def snF (σ : SG) (dp : Int) (e : Nat) : Int := if ¬ σ 6 e = -1 ∧ σ 7 e < σ 0 0 ∧ σ 1 (100 * σ 7 e + efc e).toNat + σ 1 (100 * σ 7 e + eoc e).toNat ≤ 2 * dp then σ 7 e + 1 else σ 7 e
def snS (lw : LW) (σ : SG) : SG := fu σ 7 (tlo (σ 7) (snF σ (lw.2 7)) 180)
def dryS (lw : LW) (h : Int) (σ : SG) : SG := fu σ 1 (sqC (dry lw (σ 0 4) h (σ 1) (σ 2) (σ 3)) (100 * (σ 0 0 - 1).toNat))
def tkS (σ : SG) : SG := fu σ 0 (fu (σ 0) 4 (σ 0 4 + 1))
/-- a tick -/
noncomputable def tickS (lw : LW) (h : Int) (σ : SG) : SG := tkS (snS lw (neS lw (lw.2 6).toNat (goN lw (dryS lw h σ) (2 * (σ 0 5).toNat))))
/-- what holds of every floor -/
def FI (i : Int) (σ : SG) : Prop := (1 ≤ σ 0 0 ∧ σ 0 0 ≤ 4) ∧ (0 ≤ σ 0 4 ∧ σ 0 4 ≤ 100000) ∧ (0 ≤ σ 0 5 ∧ σ 0 5 ≤ 200) ∧ Thou (σ 1) ∧ Nine (σ 2) ∧ Nine (σ 3) ∧ Four (σ 4) ∧ Four (σ 5) ∧ (∀ e, e < 180 → -1 ≤ σ 6 e ∧ σ 6 e < σ 0 5 ∧ 0 ≤ σ 7 e ∧ σ 7 e ≤ 4 ∧ (σ 6 e = -1 ↔ σ 7 e = 0)) ∧ (∀ e, σ 8 e = 0 ∨ σ 8 e = 1) ∧ (∀ t : Nat, (t : Int) < σ 0 5 → 0 ≤ σ 11 t ∧ σ 11 t ≤ 400 * σ 0 4 + i) ∧ (∀ t : Nat, (t : Int) < 2 * σ 0 5 → -3 ≤ σ 12 t ∧ σ 12 t < σ 0 5 ∧ (σ 12 t = -3 → inn (σ 13 t)) ∧ 0 ≤ σ 14 t ∧ σ 14 t < 4)
theorem tAs_b {t : Nat → Int} {n bb : Int} (h : inn n) : ∀ d, (tAs t n bb d = -1) ∨ (0 ≤ tAs t n bb d ∧ tAs t n bb d < 180 ∧ ¬ t (tAs t n bb d).toNat = -1)
  | 0 => Or.inl rfl
  | d + 1 => by
    have ih := tAs_b (t := t) (bb := bb) h d
    have hb := eef_b (d := (d : Int)) h
    unfold tAs
    split
    · next c => exact Or.inr ⟨hb.1, hb.2, c.2.1⟩
    · exact ih
theorem eAt_b {t : Nat → Int} {n bb M : Int} (ht : ∀ e, e < 180 → -1 ≤ t e ∧ t e < M) : -3 ≤ eAt t n bb ∧ (0 < M → eAt t n bb < M) ∧ (eAt t n bb = -3 → inn n) := by
  unfold eAt
  by_cases h : inn n
  · rw [if_pos h]
    rcases tAs_b (t := t) (bb := bb) h 4 with c | c
    · rw [if_pos c]
      exact ⟨by omega, by omega, fun _ => h⟩
    · rw [if_neg (by omega)]
      have := ht (tAs t n bb 4).toNat (by omega)
      exact ⟨by omega, by omega, fun _ => h⟩
  · rw [if_neg h]
    exact ⟨by omega, by omega, fun q => by omega⟩
theorem chs_b {pu ho : Int → Int} {t : Nat → Int} {nt n w : Int} (hn : inn n) : ∀ k, ((chs pu ho t nt n w k).1 = -1 ∧ (chs pu ho t nt n w k).2 = 0) ∨ (0 ≤ (chs pu ho t nt n w k).1 ∧ (chs pu ho t nt n w k).1 < 4 ∧ t (eef n (chs pu ho t nt n w k).1).toNat = -1 ∧ (chs pu ho t nt n w k).2 = pu (eef n (chs pu ho t nt n w k).1))
  | 0 => Or.inl ⟨rfl, rfl⟩
  | k + 1 => by
    have ih := chs_b (pu := pu) (ho := ho) (t := t) (nt := nt) (w := w) hn k
    unfold chs
    split
    · next c => exact Or.inr ⟨by dsimp only; omega, by dsimp only; omega, c.1, rfl⟩
    · exact ih
theorem nws_b {pu ho : Int → Int} {t : Nat → Int} : ∀ n, ((nws pu ho t n).1 = -1 ∧ (nws pu ho t n).2 = 0) ∨ (0 ≤ (nws pu ho t n).1 ∧ (nws pu ho t n).1 < n ∧ t (nws pu ho t n).1.toNat = -1 ∧ 0 < (nws pu ho t n).2 ∧ (nws pu ho t n).2 = pu (nws pu ho t n).1 - ho (nws pu ho t n).1)
  | 0 => Or.inl ⟨rfl, rfl⟩
  | n + 1 => by
    have ih := nws_b (pu := pu) (ho := ho) (t := t) n
    unfold nws
    split
    · next c => exact Or.inr ⟨by dsimp only; omega, by dsimp only; omega, by dsimp only; rw [Int.toNat_natCast]; exact c.1, by dsimp only; omega, rfl⟩
    · rcases ih with ih | ih
      · exact Or.inl ih
      · exact Or.inr ⟨ih.1, by omega, ih.2.2⟩
theorem fu_l {α : Type} {f : Nat → α} {k j : Nat} {x : α} : fu f k x j = if j = k then x else f j := rfl
/-- a row's bounds stay with one entry told anew -/
theorem all_fu {P : Nat → Int → Prop} {f : Nat → Int} {k : Nat} {x : Int} (h : ∀ j, P j (f j)) (hx : P k x) : ∀ j, P j (fu f k x j) := fun j => by
  unfold fu
  split
  · next e => rw [e]; exact hx
  · exact h j
theorem FI.go {lw : LW} {i : Int} {σ : SG} {tip : Nat} (h : FI i σ) (hi : 0 ≤ i) (ht : (tip : Int) < 2 * σ 0 5) : FI (i + 1) (gnS lw σ tip) := by
  have hup : FI (i + 1) σ := by
    obtain ⟨a1, a2, a3, a4, a5, a6, a7, a8, a9, a10, a11, a12⟩ := h
    exact ⟨a1, a2, a3, a4, a5, a6, a7, a8, a9, a10, fun t q => by have := a11 t q; omega, a12⟩
  unfold gnS
  split
  · next c =>
    have h12 := h.2.2.2.2.2.2.2.2.2.2.2 tip ht
    have hn := h12.2.2.1 c
    split
    · exact hup
    · next c2 =>
      have hb := chs_b (pu := sPu lw σ) (ho := sHo lw σ) (t := σ 6) (nt := lw.2 2) (n := σ 13 tip) (w := σ 14 tip) hn 3
      rw [show (chs (sPu lw σ) (sHo lw σ) (σ 6) (lw.2 2) (σ 13 tip) (σ 14 tip) 3).1 = goB lw σ tip from rfl] at hb
      generalize goB lw σ tip = b at c2 hb ⊢
      rcases hb with hb | hb
      · exact absurd hb.1 c2
      have he := eef_b (d := b) hn
      obtain ⟨a1, a2, a3, a4, a5, a6, a7, a8, a9, a10, a11, a12⟩ := hup
      have e6 : goW σ tip b 6 = fu (σ 6) (eef (σ 13 tip) b).toNat ((tip / 2 : Nat) : Int) := rfl
      have e7 : goW σ tip b 7 = fu (σ 7) (eef (σ 13 tip) b).toNat 1 := rfl
      have e8 : goW σ tip b 8 = fu (σ 8) (eef (σ 13 tip) b).toNat 0 := rfl
      have e0 : goW σ tip b 0 = σ 0 := rfl
      have e11 : goW σ tip b 11 = fu (σ 11) (tip / 2) (σ 11 (tip / 2) + if b = σ 14 tip then 0 else 1) := rfl
      have e12 : goW σ tip b 12 = fu (σ 12) tip (eAt (fu (σ 6) (eef (σ 13 tip) b).toNat ((tip / 2 : Nat) : Int)) (enf (σ 13 tip) b) (eef (σ 13 tip) b)) := rfl
      have e13 : goW σ tip b 13 = fu (σ 13) tip (enf (σ 13 tip) b) := rfl
      have e14 : goW σ tip b 14 = fu (σ 14) tip b := rfl
      have o6 : ∀ e, e < 180 → -1 ≤ fu (σ 6) (eef (σ 13 tip) b).toNat ((tip / 2 : Nat) : Int) e ∧ fu (σ 6) (eef (σ 13 tip) b).toNat ((tip / 2 : Nat) : Int) e < σ 0 5 := fun e q => by
        have := a9 e q
        unfold fu
        split <;> omega
      have hE := eAt_b (n := enf (σ 13 tip) b) (bb := eef (σ 13 tip) b) o6
      refine ⟨a1, a2, a3, a4, a5, a6, a7, a8, fun e q => ?_, fun e => ?_, fun t q => ?_, fun t q => ?_⟩
      · have h1 := o6 e q
        have h2 := a9 e q
        rw [e6, e7, e0]
        refine ⟨h1.1, h1.2, ?_⟩
        unfold fu
        split <;> omega
      · have := a10 e
        rw [e8]
        unfold fu
        split
        · exact Or.inl rfl
        · exact this
      · rw [e0] at q
        have h1 := h.2.2.2.2.2.2.2.2.2.2.1 t q
        rw [e11, e0]
        unfold fu
        split
        · next ee => rw [← ee]; split <;> omega
        · omega
      · rw [e0] at q
        have h1 := a12 t q
        rw [e12, e13, e14, e0]
        unfold fu at hE ⊢
        split
        · exact ⟨hE.1, hE.2.1 (by omega), hE.2.2, by omega, by omega⟩
        · exact h1
  · exact hup
theorem FI.goA {lw : LW} {σ : SG} (h : FI 0 σ) : ∀ n : Nat, (n : Int) ≤ 2 * σ 0 5 → FI (n : Int) (goN lw σ n) ∧ goN lw σ n 0 = σ 0
  | 0, _ => ⟨h, rfl⟩
  | n + 1, hn => by
    obtain ⟨ih, i0⟩ := FI.goA (lw := lw) h n (by omega)
    refine ⟨?_, ?_⟩
    · have := FI.go (lw := lw) ih (by omega) (tip := n) (by rw [i0]; omega)
      rw [show ((n + 1 : Nat) : Int) = (n : Int) + 1 by omega]
      exact this
    · show gnS lw (goN lw σ n) n 0 = _
      unfold gnS
      split
      · split
        · exact i0
        · exact i0
      · exact i0
theorem etn_b {e : Int} (h0 : 0 ≤ e) (h1 : e < 180) : 0 ≤ etn e ∧ etn e < 121 ∧ 0 ≤ efn e ∧ efn e < 121 := by
  have := exo_b h0 h1
  have := eyo_b h0 h1
  unfold etn efn
  split <;> omega
theorem FI.new {i : Int} {σ : SG} {e : Int} (h : FI i σ) (hi : 0 ≤ i) (h5 : σ 0 5 < 200) (h0 : 0 ≤ e) (h1 : e < 180) : FI i (neW σ e) := by
  obtain ⟨a1, a2, a3, a4, a5, a6, a7, a8, a9, a10, a11, a12⟩ := h
  have e6 : neW σ e 6 = fu (σ 6) e.toNat (σ 0 5) := rfl
  have e7 : neW σ e 7 = fu (σ 7) e.toNat 1 := rfl
  have e8 : neW σ e 8 = fu (σ 8) e.toNat 0 := rfl
  have e00 : neW σ e 0 0 = σ 0 0 := rfl
  have e04 : neW σ e 0 4 = σ 0 4 := rfl
  have e05 : neW σ e 0 5 = σ 0 5 + 1 := rfl
  have e11 : neW σ e 11 = fu (σ 11) (σ 0 5).toNat 0 := rfl
  have e12 : neW σ e 12 = fu (fu (σ 12) (2 * (σ 0 5).toNat) (eAt (fu (σ 6) e.toNat (σ 0 5)) (efn e) e)) (2 * (σ 0 5).toNat + 1) (eAt (fu (σ 6) e.toNat (σ 0 5)) (etn e) e) := rfl
  have e13 : neW σ e 13 = fu (fu (σ 13) (2 * (σ 0 5).toNat) (efn e)) (2 * (σ 0 5).toNat + 1) (etn e) := rfl
  have e14 : neW σ e 14 = fu (fu (σ 14) (2 * (σ 0 5).toNat) (if e < 90 then 0 else 3)) (2 * (σ 0 5).toNat + 1) (if e < 90 then 2 else 1) := rfl
  have o6 : ∀ x, x < 180 → -1 ≤ fu (σ 6) e.toNat (σ 0 5) x ∧ fu (σ 6) e.toNat (σ 0 5) x < σ 0 5 + 1 := fun x q => by
    have := a9 x q
    unfold fu
    split <;> omega
  have hE := fun n bb => eAt_b (n := n) (bb := bb) o6
  refine ⟨by rw [e00]; exact a1, by rw [e04]; exact a2, by rw [e05]; omega, a4, a5, a6, a7, a8, fun x q => ?_, fun x => ?_, fun t q => ?_, fun t q => ?_⟩
  · have h1 := o6 x q
    have h2 := a9 x q
    rw [e6, e7, e05]
    refine ⟨h1.1, h1.2, ?_⟩
    unfold fu
    split <;> omega
  · have := a10 x
    rw [e8]
    unfold fu
    split
    · exact Or.inl rfl
    · exact this
  · rw [e05] at q
    rw [e11, e04]
    unfold fu
    split
    · omega
    · exact a11 t (by omega)
  · rw [e05] at q
    have hE1 := hE (efn e) e
    have hE2 := hE (etn e) e
    rw [e12, e13, e14, e05]
    generalize eAt (fu (σ 6) e.toNat (σ 0 5)) (efn e) e = y1 at hE1 ⊢
    generalize eAt (fu (σ 6) e.toNat (σ 0 5)) (etn e) e = y2 at hE2 ⊢
    unfold fu
    split
    · exact ⟨hE2.1, hE2.2.1 (by omega), hE2.2.2, by split <;> omega, by split <;> omega⟩
    · split
      · exact ⟨hE1.1, hE1.2.1 (by omega), hE1.2.2, by split <;> omega, by split <;> omega⟩
      · have := a12 t (by omega)
        exact ⟨this.1, by omega, this.2.2.1, this.2.2.2⟩
theorem neB_b {lw : LW} {σ : SG} (h : ¬ neB lw σ = -1) : 0 ≤ neB lw σ ∧ neB lw σ < 180 ∧ σ 6 (neB lw σ).toNat = -1 := by
  have := nws_b (pu := sPu lw σ) (ho := sHo lw σ) (t := σ 6) 180
  rw [show (nws (sPu lw σ) (sHo lw σ) (σ 6) 180).1 = neB lw σ from rfl] at this
  rcases this with q | q
  · exact absurd q.1 h
  · exact ⟨q.1, q.2.1, q.2.2.1⟩
theorem FI.neN {lw : LW} {i : Int} (hi : 0 ≤ i) : ∀ (k : Nat) {σ : SG}, FI i σ → FI i (neS lw k σ)
  | 0, _, h => h
  | k + 1, σ, h => by
    unfold neS
    split
    · next c =>
      have hb := neB_b c.2
      exact FI.neN hi k (h.new hi c.1 hb.1 hb.2.1)
    · exact h
theorem FI.sn {lw : LW} {i : Int} {σ : SG} (h : FI i σ) : FI i (snS lw σ) := by
  obtain ⟨a1, a2, a3, a4, a5, a6, a7, a8, a9, a10, a11, a12⟩ := h
  refine ⟨a1, a2, a3, a4, a5, a6, a7, a8, fun e q => ?_, a10, a11, a12⟩
  have h2 := a9 e q
  rw [show snS lw σ 6 = σ 6 from rfl, show snS lw σ 0 = σ 0 from rfl, show snS lw σ 7 e = snF σ (lw.2 7) e from if_pos q]
  unfold snF
  split <;> omega
theorem FI.dry {lw : LW} {hh : Int} {σ : SG} (h : FI 0 σ) (h0 : 0 ≤ hh) (h1 : hh ≤ 100) : FI 0 (dryS lw hh σ) := by
  obtain ⟨a1, a2, a3, a4, a5, a6, a7, a8, a9, a10, a11, a12⟩ := h
  exact ⟨a1, a2, a3, sqC_b (dry_b a4 h0 h1) _, a5, a6, a7, a8, a9, a10, a11, a12⟩
theorem FI.tick {lw : LW} {hh : Int} {σ : SG} (h : FI 0 σ) (h0 : 0 ≤ hh) (h1 : hh ≤ 100) (ht : σ 0 4 < 100000) : FI 0 (tickS lw hh σ) ∧ tickS lw hh σ 0 4 = σ 0 4 + 1 := by
  have g1 := h.dry (lw := lw) h0 h1
  have hm := h.2.2.1
  have g2 := (g1.goA (lw := lw) (2 * (σ 0 5).toNat) (by rw [show dryS lw hh σ 0 = σ 0 from rfl]; omega))
  have e4 : ∀ (k : Nat) (τ : SG), neS lw k τ 0 4 = τ 0 4 := by
    intro k
    induction k with
    | zero => intro τ; rfl
    | succ k ih =>
      intro τ
      unfold neS
      split
      · rw [ih]; rfl
      · rfl
  have g3 := FI.sn (lw := lw) (FI.neN (lw := lw) (by omega) (lw.2 6).toNat g2.1)
  have e5 : snS lw (neS lw (lw.2 6).toNat (goN lw (dryS lw hh σ) (2 * (σ 0 5).toNat))) 0 4 = σ 0 4 := by
    show neS lw (lw.2 6).toNat (goN lw (dryS lw hh σ) (2 * (σ 0 5).toNat)) 0 4 = _
    rw [e4, g2.2]
    rfl
  have ee : tickS lw hh σ = tkS (snS lw (neS lw (lw.2 6).toNat (goN lw (dryS lw hh σ) (2 * (σ 0 5).toNat)))) := rfl
  rw [ee]
  generalize snS lw (neS lw (lw.2 6).toNat (goN lw (dryS lw hh σ) (2 * (σ 0 5).toNat))) = τ at g3 e5 ⊢
  refine ⟨?_, by rw [← e5]; rfl⟩
  obtain ⟨a1, a2, a3, a4, a5, a6, a7, a8, a9, a10, a11, a12⟩ := g3
  have u4 : tkS τ 0 4 = τ 0 4 + 1 := rfl
  refine ⟨a1, by rw [u4]; omega, a3, a4, a5, a6, a7, a8, a9, a10, fun t q => ?_, a12⟩
  have := a11 t q
  rw [u4]
  show 0 ≤ τ 11 t ∧ τ 11 t ≤ _
  omega
