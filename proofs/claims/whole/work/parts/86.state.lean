-- WHAT HOLDS BETWEEN CALLS
def rl (j : Nat) : Nat := [8, 400, 100, 100, 180, 180, 180, 180, 180, 200, 200, 200, 400, 400, 400, 420, 6, 6].getD j 0
def ro (j : Nat) : Nat := [0, 8, 408, 508, 608, 788, 968, 1148, 1328, 1508, 1708, 1908, 2108, 2508, 2908, 3308, 3728, 3734].getD j 0
/-- an image of the reference -/
def iR (W : AW) (k : Nat) : SG := fun j i => if i < rl j then ar W 188 (3760 * k + ro j + i) else 0
/-- a tear without edges has no tip that goes on -/
def TE (σ : SG) : Prop := ∀ t : Nat, (t : Int) < σ 0 5 → cn (σ 6) t 180 = 0 → ¬ σ 12 (2 * t) = -3 ∧ ¬ σ 12 (2 * t + 1) = -3
/-- a floor with its notes -/
def FN (c : Int) (σ : SG) : Prop := FI 0 σ ∧ σ 0 4 ≤ 60 * c ∧ (0 ≤ σ 0 1 ∧ σ 0 1 < 2147483648) ∧ (1 ≤ σ 0 2 ∧ σ 0 2 ≤ σ 0 3 ∧ σ 0 3 ≤ 9999) ∧ (0 ≤ σ 0 6 ∧ σ 0 6 ≤ 60) ∧ (∀ i : Nat, (i : Int) < 7 * σ 0 6 → 0 ≤ σ 15 i ∧ σ 15 i ≤ 100000) ∧ (∀ r : Nat, (r : Int) < σ 0 6 → 1 ≤ σ 15 (7 * r)) ∧ (∀ k, k < 6 → (σ 16 k = -1 ∨ (0 ≤ σ 16 k ∧ σ 16 k < 180))) ∧ (∀ k, 0 ≤ σ 17 k ∧ σ 17 k ≤ 9999) ∧ TE σ
/-- what rows hold even where there is no floor -/
def RB (σ : SG) : Prop := (∀ k, 0 ≤ σ 17 k ∧ σ 17 k ≤ 9999) ∧ Thou (σ 1) ∧ Nine (σ 2) ∧ Nine (σ 3) ∧ Four (σ 4) ∧ Four (σ 5) ∧ (∀ e, σ 8 e = 0 ∨ σ 8 e = 1)
def FL (c : Int) (σ : SG) : Prop := (σ 0 0 = 0 ∧ σ 0 4 = 0 ∧ σ 0 5 = 0 ∧ σ 0 6 = 0 ∧ RB σ) ∨ FN c σ
abbrev WN : Type := Nat × (Nat → Int) × (Nat → (Nat → Int) → Int)
/-- floor, numbers (0 laws, 1 wants, 2 the tape's length, 3 floors begun), tape, laws, wants, images -/
abbrev ST : Type := SG × (Nat → Int) × (Nat → Int) × (Nat → LW) × (Nat → WN) × (Nat → Option SG)
abbrev sF (s : ST) : SG := s.1
abbrev sN (s : ST) : Nat → Int := s.2.1
abbrev sT (s : ST) : Nat → Int := s.2.2.1
abbrev sL (s : ST) : Nat → LW := s.2.2.2.1
abbrev sW (s : ST) : Nat → WN := s.2.2.2.2.1
abbrev sI (s : ST) : Nat → Option SG := s.2.2.2.2.2
def WOk (w : WN) : Prop := w.1 ≤ 12 ∧ ∀ c, c < w.1 → (w.2.1 c = 0 ∨ w.2.1 c = 1) ∧ ∀ x, w.2.2 c x = 0 ∨ w.2.2 c x = 1
def SOK (c : Int) (s : ST) : Prop := FL c (sF s) ∧ (0 ≤ sN s 0 ∧ sN s 0 ≤ 8) ∧ (0 ≤ sN s 1 ∧ sN s 1 ≤ 8) ∧ (0 ≤ sN s 2 ∧ sN s 2 ≤ 400) ∧ (0 ≤ sN s 3 ∧ sN s 3 ≤ c) ∧ (∀ i, -128 ≤ sT s i ∧ sT s i < 128) ∧ (∀ k : Nat, (k : Int) < sN s 0 → LwOk (sL s k)) ∧ (∀ k : Nat, (k : Int) < sN s 1 → WOk (sW s k)) ∧ (∀ k σ, sI s k = some σ → FN c σ) ∧ (sF s 0 0 = 0 → ∀ k, sI s k = none)
theorem FN.mono {c d : Int} {σ : SG} (h : FN c σ) (hd : c ≤ d) : FN d σ := ⟨h.1, by have := h.2.1; omega, h.2.2⟩
theorem FL.mono {c d : Int} {σ : SG} (h : FL c σ) (hd : c ≤ d) : FL d σ := h.imp id (fun q => q.mono hd)
theorem SOK.mono {c d : Int} {s : ST} (h : SOK c s) (hd : c ≤ d) : SOK d s := by
  obtain ⟨a1, a2, a3, a4, a5, a6, a7, a8, a9, a10⟩ := h
  exact ⟨a1.mono hd, a2, a3, a4, ⟨a5.1, by omega⟩, a6, a7, a8, fun k σ q => (a9 k σ q).mono hd, a10⟩
-- wants
def cut11 (f : Nat → Int) : Nat → Int := fun k => if k < 11 then f k else 0
def WantC (W0 : AW) (ll : Nat) (w : WN) : Prop := ∃ (ca cb cc ce cf : Nat) (kd md en : Nat → Int), (192 ≤ ll ∧ ll < W0.1) ∧ W0.2 ll = o6 ca cb cc ce cf ∧
  ((192 ≤ ca ∧ ca < W0.1) ∧ (192 ≤ cb ∧ cb < W0.1) ∧ (192 ≤ cc ∧ cc < W0.1) ∧ (192 ≤ ce ∧ ce < W0.1) ∧ (192 ≤ cf ∧ cf < W0.1)) ∧
  (W0.2 cb = ea 0 w.1 kd ∧ W0.2 cc = ea 0 w.1 md ∧ W0.2 ce = ea 0 w.1 en) ∧ (∀ k, k < w.1 → kd k = 8 + w.2.1 k) ∧
  ∀ W, CS W → W0.1 ≤ W.1 → (∀ k, k = ll ∨ k = ca ∨ k = cb ∨ k = cc ∨ k = ce ∨ k = cf → W.2 k = W0.2 k) →
  ∀ k, k < w.1 → ∀ Q : AQ, (∀ g, Q (some (vl (w.2.2 k (cut11 (ar W 128))))) (wu W 129 (ea 3 60 g))) → Gm 52 [vr 127, vr ca, vi (md k), vi (en k)] W Q
theorem WantC.own {W0 W1 : AW} {ll : Nat} {w : WN} (h : WantC W0 ll w) (hw : W0.1 ≤ W1.1) (hk : ∀ ca cb cc ce cf, W0.2 ll = o6 ca cb cc ce cf → ∀ k, k = ll ∨ k = ca ∨ k = cb ∨ k = cc ∨ k = ce ∨ k = cf → W1.2 k = W0.2 k) : WantC W1 ll w := by
  obtain ⟨ca, cb, cc, ce, cf, kd, md, en, a1, a2, a3, a4, a5, a6⟩ := h
  have hk2 := hk ca cb cc ce cf a2
  exact ⟨ca, cb, cc, ce, cf, kd, md, en, by omega, by rw [hk2 ll (by omega)]; exact a2, by omega, by rw [hk2 cb (by omega), hk2 cc (by omega), hk2 ce (by omega)]; exact a4, a5, fun W hW hle ha => a6 W hW (by omega) (fun k q => (ha k q).trans (hk2 k q))⟩
theorem WantC.cg {W0 W1 : AW} {ll : Nat} {w : WN} (h : WantC W0 ll w) (hw : W0.1 ≤ W1.1) (hk : ∀ k, 192 ≤ k → k < W0.1 → W1.2 k = W0.2 k) : WantC W1 ll w := by
  refine h.own hw (fun ca cb cc ce cf e k q => ?_)
  obtain ⟨xa, xb, xc, xe, xf, kd, md, en, a1, a2, a3, -⟩ := h
  rw [a2] at e
  have e2 : l6 xa xb xc xe xf = l6 ca cb cc ce cf := by
    have := congrArg (fun x : AE => match x with | Sum.inr (Sum.inr (_, l)) => l | _ => []) e
    exact this
  unfold l6 at e2
  simp only [List.cons.injEq, Sum.inr.injEq, Option.some.injEq, and_true] at e2
  exact hk k (by omega) (by omega)
def WantR (W0 : AW) (k : Nat) (w : WN) : Prop := ar W0 170 (8 + k) = w.1 ∧ (∀ c, c < w.1 → ar W0 171 (12 * (8 + k) + c) = w.2.1 c) ∧ ∀ W, RS W → SlR ((8 + k : Nat) : Int) W W0 →
  ∀ c, c < w.1 → ∀ Q : AQ, (∀ g, Q (some (vl (w.2.2 c (cut11 (ar W 177))))) (wu W 178 (ea 3 300 g))) → Gm 228 [vr 148, vi ((8 + k : Nat) : Int), vi (ar W 174 (12 * (8 + k) + c)), vi (ar W 175 (12 * (8 + k) + c))] W Q
theorem WantR.sl {W0 W1 : AW} {k : Nat} {w : WN} (h : WantR W0 k w) (hw : w.1 ≤ 12) (hk : SlR ((8 + k : Nat) : Int) W1 W0) : WantR W1 k w := by
  have e : (((8 + k : Nat) : Int)).toNat = 8 + k := Int.toNat_natCast _
  refine ⟨?_, fun c hc => ?_, fun W hW ha => h.2.2 W hW (ha.tr hk)⟩
  · have := hk.2.1
    rw [e] at this
    rw [this]
    exact h.1
  · have := hk.2.2 (12 * (8 + k) + c) (by omega) (by omega)
    rw [this.1]
    exact h.2.1 c hc
theorem WantR.cg {W0 W1 : AW} {k : Nat} {w : WN} (h : WantR W0 k w) (hw : w.1 ≤ 12) (hk : ∀ k, 168 ≤ k → k ≤ 175 → W1.2 k = W0.2 k) : WantR W1 k w := h.sl hw (SlR.cs hk)
-- the reference's side
def ImR (W : AW) (k : Nat) (o : Option SG) : Prop := match o with
  | none => ar W 191 k = 0
  | some σ => ar W 191 k = 1 ∧ iR W k = σ
def KR (W : AW) (s : ST) : Prop := RS W ∧ FZ W ∧ rF W = sF s ∧ (ob W 148 24 = sN s 0 ∧ ob W 148 25 = sN s 1 ∧ ob W 148 20 = sN s 2 ∧ ob W 148 1 = sN s 3) ∧ ar W 167 = sT s ∧ (∀ k : Nat, (k : Int) < sN s 0 → LawR W (k : Int) (sL s k)) ∧ (∀ k : Nat, (k : Int) < sN s 1 → WantR W k (sW s k) ∧ (sW s k).1 ≤ 12) ∧ (∀ k, k < 4 → ImR W k (sI s k))
theorem iR_c {W W' : AW} {k : Nat} (h : W'.2 188 = W.2 188) : iR W' k = iR W k := by
  unfold iR
  rw [ar_c h]
theorem ImR.cg {W W' : AW} {k : Nat} {o : Option SG} (h : ImR W k o) (h1 : W'.2 188 = W.2 188) (h2 : W'.2 191 = W.2 191) : ImR W' k o := by
  cases o with
  | none => show ar W' 191 k = 0; rw [ar_c h2]; exact h
  | some σ => show ar W' 191 k = 1 ∧ iR W' k = σ; rw [ar_c h2, iR_c h1]; exact h
theorem KR.cg {W W' : AW} {s : ST} (h : KR W s) (hw : W.1 ≤ W'.1) (hf : ∀ k, 1 ≤ k → k < 67 → W'.2 k = W.2 k) (hk : ∀ k, 148 ≤ k → k < 192 → W'.2 k = W.2 k) : KR W' s := by
  obtain ⟨a1, a2, a3, a4, a5, a6, a7, a8⟩ := h
  have k148 := hk 148 (by decide) (by decide)
  refine ⟨a1.cg hw hk, fun k p q => by rw [hf k p q]; exact a2 k p q, by rw [rF_c (fun k p q => hk k (by omega) (by omega))]; exact a3, by rw [ob_c k148]; exact a4, by rw [ar_c (hk 167 (by decide) (by decide))]; exact a5, fun k q => (a6 k q).cg (fun j p q => hk j (by omega) (by omega)), fun k q => ⟨(a7 k q).1.cg (a7 k q).2 (fun j p q => hk j (by omega) (by omega)), (a7 k q).2⟩, fun k q => (a8 k q).cg (hk 188 (by decide) (by decide)) (hk 191 (by decide) (by decide))⟩
-- the other side
def cN (W : AW) (m n : Nat) : SG := fun k => if k = 0 then fu (cF W m 0) 6 (ob W n 0) else if k = 15 then ar W (n + 1) else if k = 16 then ar W (n + 2) else if k = 17 then ar W (n + 3) else cF W m k
def NS (W : AW) (n : Nat) : Prop := W.2 n = o4 n (ob W n) ∧ W.2 (n + 1) = ea 0 420 (ar W (n + 1)) ∧ W.2 (n + 2) = ea 0 6 (ar W (n + 2)) ∧ W.2 (n + 3) = ea 0 6 (ar W (n + 3))
def Ln (W : AW) (m : Nat) : Prop := ∀ t : Nat, (t : Int) < ob W (m + 9) 0 → ar W (m + 11) t = cn (ar W (m + 6)) t 180
def Sq2 (σ τ : SG) : Prop := Sq σ τ ∧ σ 0 6 = τ 0 6 ∧ (∀ i : Nat, (i : Int) < 7 * σ 0 6 → σ 15 i = τ 15 i) ∧ σ 16 = τ 16 ∧ σ 17 = τ 17
theorem cN_c {W W' : AW} {m n : Nat} (h : ∀ j, j ≤ 16 → W'.2 (m + j) = W.2 (m + j)) (g : ∀ j, j ≤ 3 → W'.2 (n + j) = W.2 (n + j)) : cN W' m n = cN W m n := by
  have g0 : W'.2 n = W.2 n := g 0 (by decide)
  unfold cN
  rw [cF_c (fun k p _ => h k p), ob_c g0, ar_c (g 1 (by decide)), ar_c (g 2 (by decide)), ar_c (g 3 (by decide))]
theorem NS.cg {W W' : AW} {n : Nat} (h : NS W n) (g : ∀ j, j ≤ 3 → W'.2 (n + j) = W.2 (n + j)) : NS W' n := by
  have g0 : W'.2 n = W.2 n := g 0 (by decide)
  unfold NS at h ⊢
  rw [g0, ob_c g0, g 1 (by decide), ar_c (g 1 (by decide)), g 2 (by decide), ar_c (g 2 (by decide)), g 3 (by decide), ar_c (g 3 (by decide))]
  exact h
theorem Ln.cg {W W' : AW} {m : Nat} (h : Ln W m) (g : ∀ j, j ≤ 16 → W'.2 (m + j) = W.2 (m + j)) : Ln W' m := by
  unfold Ln at h ⊢
  rw [ob_c (g 9 (by decide)), ar_c (g 11 (by decide)), ar_c (g 6 (by decide))]
  exact h
def ImC (W : AW) (ow : Nat → Nat) (im nt : Option Nat) (k : Nat) (o : Option SG) : Prop := match o with
  | none => im = none ∧ nt = none
  | some σ => ∃ m n, im = some m ∧ nt = some n ∧ (192 ≤ m ∧ m + 16 < W.1 ∧ 192 ≤ n ∧ n + 3 < W.1) ∧ MS W m ∧ NS W n ∧ Sq2 (cN W m n) σ ∧ Ln W m ∧ (∀ j, j ≤ 16 → ow (m + j) = 16 + k) ∧ (∀ j, j ≤ 3 → ow (n + j) = 20 + k)
def ROw (W : AW) (ll : Nat) (ow : Nat → Nat) (k : Nat) : Prop := ∀ ca cb cc ce cf, W.2 ll = o6 ca cb cc ce cf → ∀ x, x = ll ∨ x = ca ∨ x = cb ∨ x = cc ∨ x = ce ∨ x = cf → ow x = k
def CH (W : AW) : Prop := CS W ∧ MS W 76 ∧ MS W 93 ∧ (∃ mm ll, W.2 130 = o10 mm ll (ob W 130)) ∧ W.2 114 = er 2 4 (rr W 114) ∧ W.2 115 = er 4 4 (rr W 115) ∧ W.2 116 = er 6 8 (rr W 116) ∧ W.2 117 = er 6 8 (rr W 117)
def OwC (W : AW) (s : ST) (ow : Nat → Nat) : Prop := (∀ k : Nat, (k : Int) < sN s 0 → ∃ ll, rr W 116 k = some ll ∧ LawC W ll (sL s k) ∧ ROw W ll ow k) ∧ (∀ k : Nat, (k : Int) < sN s 1 → ∃ ll, rr W 117 k = some ll ∧ WantC W ll (sW s k) ∧ ROw W ll ow (8 + k)) ∧ (∀ k, k < 4 → ImC W ow (rr W 114 k) (rr W 115 k) k (sI s k))
def CC (W : AW) (s : ST) : Prop := Sq2 (cN W 76 110) (sF s) ∧ Ln W 76 ∧ (ob W 67 14 = sN s 0 ∧ ob W 67 15 = sN s 1 ∧ ob W 67 16 = sN s 2 ∧ ob W 67 17 = sN s 3) ∧ ar W 118 = sT s ∧ ∃ ow : Nat → Nat, OwC W s ow
theorem cown_b : ∀ k ∈ cown, 1 ≤ k ∧ k < 148 := by decide
theorem CH.cg {W W' : AW} (h : CH W) (hw : W.1 ≤ W'.1) (hk : ∀ k, 1 ≤ k → k < 148 → W'.2 k = W.2 k) : CH W' := by
  obtain ⟨a1, a2, a3, ⟨mm, ll, a4⟩, a5, a6, a7, a8⟩ := h
  refine ⟨a1.cg hw (fun k q => hk k (cown_b k q).1 (cown_b k q).2), a2.cg (fun k q => hk _ (by omega) (by omega)), a3.cg (fun k q => hk _ (by omega) (by omega)), ⟨mm, ll, ?_⟩, ?_, ?_, ?_, ?_⟩
  · rw [hk 130 (by decide) (by decide), ob_c (hk 130 (by decide) (by decide))]; exact a4
  · rw [hk 114 (by decide) (by decide), rr_c (hk 114 (by decide) (by decide))]; exact a5
  · rw [hk 115 (by decide) (by decide), rr_c (hk 115 (by decide) (by decide))]; exact a6
  · rw [hk 116 (by decide) (by decide), rr_c (hk 116 (by decide) (by decide))]; exact a7
  · rw [hk 117 (by decide) (by decide), rr_c (hk 117 (by decide) (by decide))]; exact a8
theorem o6_inj {a b c d e a2 b2 c2 d2 e2 : Nat} (h : o6 a b c d e = o6 a2 b2 c2 d2 e2) : a = a2 ∧ b = b2 ∧ c = c2 ∧ d = d2 ∧ e = e2 := by
  have h2 : l6 a b c d e = l6 a2 b2 c2 d2 e2 := congrArg (fun x : AE => match x with | Sum.inr (Sum.inr (_, l)) => l | _ => []) h
  unfold l6 at h2
  simp only [List.cons.injEq, Sum.inr.injEq, Option.some.injEq, and_true] at h2
  exact h2
/-- the cells that CC looks at, but for the new ones -/
def ck (k : Nat) : Prop := k = 67 ∨ (76 ≤ k ∧ k ≤ 92) ∨ (110 ≤ k ∧ k ≤ 118)
theorem ImC.cg {W W' : AW} {ow : Nat → Nat} {im nt : Option Nat} {k : Nat} {o : Option SG} (h : ImC W ow im nt k o) (hw : W.1 ≤ W'.1) (hn : ∀ j, 192 ≤ j → j < W.1 → ow j = 16 + k ∨ ow j = 20 + k → W'.2 j = W.2 j) : ImC W' ow im nt k o := by
  cases o with
  | none => exact h
  | some σ =>
    obtain ⟨m, n, a1, a2, a3, a4, a5, a6, a7, a8, a9⟩ := h
    have hm : ∀ j, j ≤ 16 → W'.2 (m + j) = W.2 (m + j) := fun j q => hn _ (by omega) (by omega) (Or.inl (a8 j q))
    have hN : ∀ j, j ≤ 3 → W'.2 (n + j) = W.2 (n + j) := fun j q => hn _ (by omega) (by omega) (Or.inr (a9 j q))
    exact ⟨m, n, a1, a2, by omega, a4.cg hm, a5.cg hN, by rw [cN_c hm hN]; exact a6, a7.cg hm, a8, a9⟩
theorem LawC.bd {W : AW} {ll : Nat} {lw : LW} (h : LawC W ll lw) : ∀ ca cb cc ce cf, W.2 ll = o6 ca cb cc ce cf → ∀ k, k = ll ∨ k = ca ∨ k = cb ∨ k = cc ∨ k = ce ∨ k = cf → 192 ≤ k ∧ k < W.1 := by
  obtain ⟨xa, xb, xc, xe, xf, st, a1, a2, a3, a4, a5, a6, a7, a9, -⟩ := h
  intro ca cb cc ce cf e k q
  have := o6_inj (a5.symm.trans e)
  omega
theorem WantC.bd {W : AW} {ll : Nat} {w : WN} (h : WantC W ll w) : ∀ ca cb cc ce cf, W.2 ll = o6 ca cb cc ce cf → ∀ k, k = ll ∨ k = ca ∨ k = cb ∨ k = cc ∨ k = ce ∨ k = cf → 192 ≤ k ∧ k < W.1 := by
  obtain ⟨xa, xb, xc, xe, xf, kd, md, en, a1, a2, a3, -⟩ := h
  intro ca cb cc ce cf e k q
  have := o6_inj (a2.symm.trans e)
  omega
theorem OwC.cg {W W' : AW} {s : ST} {ow : Nat → Nat} (h : OwC W s ow) (hw : W.1 ≤ W'.1) (hr : ∀ k, 114 ≤ k → k ≤ 117 → W'.2 k = W.2 k) (hn : ∀ k, 192 ≤ k → k < W.1 → W'.2 k = W.2 k) : OwC W' s ow := by
  obtain ⟨a1, a2, a3⟩ := h
  refine ⟨fun k q => ?_, fun k q => ?_, fun k q => ?_⟩
  · obtain ⟨ll, b1, b2, b3⟩ := a1 k q
    have hb := b2.bd
    have e : W'.2 ll = W.2 ll := by
      obtain ⟨xa, xb, xc, xe, xf, st, c1, c2, -⟩ := b2
      exact hn ll c1 c2
    refine ⟨ll, by rw [rr_c (hr 116 (by decide) (by decide))]; exact b1, b2.cg hw hn, ?_⟩
    unfold ROw at b3 ⊢
    rw [e]
    exact b3
  · obtain ⟨ll, b1, b2, b3⟩ := a2 k q
    have e : W'.2 ll = W.2 ll := by
      obtain ⟨xa, xb, xc, xe, xf, kd, md, en, c1, -⟩ := b2
      exact hn ll c1.1 c1.2
    refine ⟨ll, by rw [rr_c (hr 117 (by decide) (by decide))]; exact b1, b2.cg hw hn, ?_⟩
    unfold ROw at b3 ⊢
    rw [e]
    exact b3
  · rw [rr_c (hr 114 (by decide) (by decide)), rr_c (hr 115 (by decide) (by decide))]
    exact (a3 k q).cg hw (fun j p r _ => hn j p r)
theorem CC.cg {W W' : AW} {s : ST} (h : CC W s) (hw : W.1 ≤ W'.1) (hk : ∀ k, ck k → W'.2 k = W.2 k) (hn : ∀ k, 192 ≤ k → k < W.1 → W'.2 k = W.2 k) : CC W' s := by
  obtain ⟨a1, a2, a3, a4, ow, a5⟩ := h
  have hm : ∀ j, j ≤ 16 → W'.2 (76 + j) = W.2 (76 + j) := fun j q => hk _ (Or.inr (Or.inl (by omega)))
  have k67 := hk 67 (Or.inl rfl)
  refine ⟨by rw [cN_c hm (fun j q => hk _ (Or.inr (Or.inr (by omega))))]; exact a1, a2.cg hm, by rw [ob_c k67]; exact a3, by rw [ar_c (hk 118 (Or.inr (Or.inr (by omega))))]; exact a4, ow, a5.cg hw (fun k p q => hk k (Or.inr (Or.inr (by omega)))) hn⟩
def Inv (L : Nat) (X : Nat → Int) (c : Nat) (W : AW) : Prop := W.2 0 = ea 0 L X ∧ Zw W ∧ Cl B1 W ∧ ∃ s, SOK c s ∧ CH W ∧ CC W s ∧ KR W s
set_option maxRecDepth 10000 in
theorem o12_rok {n : Nat} {g : Nat → Int} : roke (B2 n) (o12 g) := by
  show ∀ v ∈ l12 g, rokv (B2 n) v
  unfold l12
  simp only [List.forall_mem_cons, List.not_mem_nil, false_implies, implies_true, rokv_i, rokv_r, B2, Nat.reduceLeDiff, Nat.reduceLT, and_self, true_or, or_true]
theorem rs_rok {W : AW} {n : Nat} (h : RS W) (k : Nat) (h1 : 148 ≤ k) (h2 : k < 192) : roke (B2 n) (W.2 k) := by
  by_cases e : k = 148
  · rw [e, ra_148 h]; exact o12_rok
  · have hh : ∀ k, k < 192 → 149 ≤ k → ∃ p ∈ rtab, p.1 = k := by decide +kernel
    obtain ⟨p, hp, rfl⟩ := hh k h2 (by omega)
    rw [h.2.2 p hp]
    trivial
/-- a call of both: what is owed for it -/
theorem call_mk {L : Nat} {X : Nat → Int} {c : Nat} {W : AW} {s : ST} {cm rm : Nat} {as : List AV} (has : ∀ v ∈ as, ∃ x, v = vi x) (hrm : (mi rm).2.2.2.2.1 = 0) (h0 : W.2 0 = ea 0 L X) (hz : Zw W) (hcl : Cl B1 W) (hH : CH W) (hR : KR W s)
    (hc : Gm cm (vr 67 :: as) W (fun r W' => ∃ z s', r = some (vi z) ∧ CH W' ∧ CC W' s' ∧ SOK ((c + 1 : Nat) : Int) s' ∧ ∀ W1, KR W1 s → Zw W1 → Gm rm (vr 148 :: as) W1 (fun r' W2 => r' = some (vi z) ∧ KR W2 s'))) : CallOK (Inv L X (c + 1)) W cm rm as := by
  have hnf : nfz = 67 := rfl
  have hw : 192 ≤ W.1 := hH.1.1
  have h1 := Gm_zero (Gm_frame (B := B1) (n0 := 192) (fun k hk => Or.inr hk) (fun k hk => Or.inl (by omega)) hc hw hcl (List.forall_mem_cons.mpr ⟨Or.inl (by decide), fun v hv => by obtain ⟨x, rfl⟩ := has v hv; trivial⟩)) hz
  refine Gm_post h1 (fun r W' q => ?_)
  obtain ⟨⟨⟨z, s', q1, qH, qC, qS, qR⟩, qF, qL, qn, -⟩, qZ⟩ := q
  have hag : ∀ k, k < 192 → (k < 67 ∨ 148 ≤ k) → W'.2 k = W.2 k := fun k hk h2 => qF.2 k (by omega) (by
    rcases h2 with h2 | h2
    · exact Or.inr (by omega)
    · exact Or.inl (fun b => by rcases b with b | b <;> omega))
  have hKR : KR W' s := hR.cg qF.1 (fun k p q => hag k (by omega) (Or.inl q)) (fun k p q => hag k q (Or.inr p))
  have e0 : W'.2 0 = W.2 0 := hag 0 (by decide) (Or.inl (by decide))
  refine ⟨?_, qn, e0, z, q1, ?_⟩
  · rw [ra_148 hKR.1]
    exact rfl
  · have hC2 : Cl (B2 W'.1) W' := by
      intro k hk hb
      rcases hb with hb | hb | hb
      · by_cases k0 : k = 0
        · rw [k0, e0, h0]; trivial
        · rw [hKR.2.1 k (by omega) hb]
          exact frz_rok (fun j hj => Or.inl hj) hb
      · exact rs_rok hKR.1 k hb.1 hb.2
      · omega
    have h2 := Gm_room (Gm_zero (Gm_frame (B := B2 W'.1) (n0 := W'.1) (fun k hk => Or.inr (Or.inr hk)) (fun k hk => Or.inl (by omega)) (qR W' hKR qZ) (Nat.le_refl _) hC2 (List.forall_mem_cons.mpr ⟨Or.inr (Or.inl ⟨by decide, by decide⟩), fun v hv => by obtain ⟨x, rfl⟩ := has v hv; trivial⟩)) qZ)
    refine Gm_post h2 (fun r' W2 p => ?_)
    obtain ⟨⟨⟨⟨p1, pR⟩, pF, -, pn, -⟩, pZ⟩, pr⟩ := p
    rw [hrm] at pr
    have ew : W2.1 = W'.1 := by omega
    have ha : ∀ k, k < W'.1 → (k < 148 ∨ 192 ≤ k) → W2.2 k = W'.2 k := fun k hk hb => by
      by_cases k67 : k < 67
      · exact pF.2 k hk (Or.inr (by omega))
      · exact pF.2 k hk (Or.inl (fun b => by rcases b with b | b | b <;> omega))
    refine ⟨p1, by rw [ha 0 (by omega) (Or.inl (by decide)), e0]; exact h0, pZ, ?_, s', qS, qH.cg (by omega) (fun k p q => ha k (by omega) (Or.inl q)), qC.cg (by omega) (fun k q => ha k (by unfold ck at q; omega) (Or.inl (by unfold ck at q; omega))) (fun k p q => ha k q (Or.inr p)), pR⟩
    intro k hk hb
    rw [ew] at hk
    have hb2 : k < 148 ∨ 192 ≤ k := hb
    rw [ha k hk hb2]
    exact qL k hk hb
