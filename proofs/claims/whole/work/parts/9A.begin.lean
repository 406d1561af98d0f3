-- FRESH FLOORS; BEGIN
def bgS (σ : SG) (l : Int) : SG := fu (fu (fu (fu (fu (fu (fu (fu (fu σ 0 (fu (fu (fu (σ 0) 0 l) 4 0) 5 0)) 1 (flf (σ 1) 400 1000)) 2 (flf (σ 2) 100 0)) 3 (flf (σ 3) 100 0)) 4 (tlo (σ 4) (grn (σ 0 1) (σ 0 2) (σ 0 3)) 180)) 5 (flf (σ 5) 180 0)) 6 (flf (σ 6) 180 (-1))) 7 (flf (σ 7) 180 0)) 8 (flf (σ 8) 180 0)
def beS (σ : SG) (fl l sd le g : Int) : SG := fu (bgS (fu σ 0 (fu (fu (fu (fu (fu (σ 0) 1 sd) 2 le) 3 g) 6 0) 7 (fl + 1))) l) 16 (flf (σ 16) 6 (-1))
theorem grn_b {s le g : Int} {e : Nat} (h : 1 ≤ le ∧ le ≤ g ∧ g ≤ 9999) : 0 ≤ grn s le g e ∧ grn s le g e ≤ 9999 := by
  unfold grn
  have h1 := Int.emod_nonneg (lcs s (e + 1) / 65536) (show g - le + 1 ≠ 0 by omega)
  have h2 := Int.emod_lt_of_pos (lcs s (e + 1) / 65536) (show 0 < g - le + 1 by omega)
  omega
theorem flf_b {P : Int → Prop} {f : Nat → Int} {n : Nat} {v : Int} (h : ∀ k, P (f k)) (hv : P v) : ∀ k, P (flf f n v k) := fun k => by
  unfold flf
  split
  · exact hv
  · exact h k
theorem FI.bg {σ : SG} {l : Int} (h1 : Thou (σ 1)) (h2 : Nine (σ 2)) (h3 : Nine (σ 3)) (h4 : Four (σ 4)) (h5 : Four (σ 5)) (h8 : ∀ e, σ 8 e = 0 ∨ σ 8 e = 1) (hl : 1 ≤ l ∧ l ≤ 4) (hg : 1 ≤ σ 0 2 ∧ σ 0 2 ≤ σ 0 3 ∧ σ 0 3 ≤ 9999) : FI 0 (bgS σ l) := by
  have e0 : bgS σ l 0 0 = l := rfl
  have e4 : bgS σ l 0 4 = 0 := rfl
  have e5 : bgS σ l 0 5 = 0 := rfl
  refine ⟨by rw [e0]; exact hl, by rw [e4]; decide, by rw [e5]; decide, flf_b (P := fun x => 0 ≤ x ∧ x ≤ 1000) h1 (by decide), flf_b (P := fun x => 0 ≤ x ∧ x ≤ 9) h2 (by decide), flf_b (P := fun x => 0 ≤ x ∧ x ≤ 9) h3 (by decide), fun k => ?_, flf_b (P := fun x => 0 ≤ x ∧ x ≤ 9999) h5 (by decide), fun e he => ?_, flf_b (P := fun x => x = 0 ∨ x = 1) h8 (Or.inl rfl), fun t ht => ?_, fun t ht => ?_⟩
  · show 0 ≤ tlo (σ 4) (grn (σ 0 1) (σ 0 2) (σ 0 3)) 180 k ∧ tlo (σ 4) (grn (σ 0 1) (σ 0 2) (σ 0 3)) 180 k ≤ 9999
    unfold tlo
    split
    · exact grn_b hg
    · exact h4 k
  · rw [e5]
    have a : bgS σ l 6 e = -1 := if_pos he
    have b : bgS σ l 7 e = 0 := if_pos he
    rw [a, b]
    omega
  · rw [e5] at ht; omega
  · rw [e5] at ht; omega
/-- rows of a floor that bear another seed -/
theorem FN.bg {c : Int} {σ : SG} {l : Int} (h : FN c σ) (hl : 1 ≤ l ∧ l ≤ 4) : FI 0 (bgS σ l) := by
  obtain ⟨⟨a1, a2, a3, a4, a5, a6, a7, a8, a9, a10, a11, a12⟩, b1, b2, b3, b4⟩ := h
  exact FI.bg a4 a5 a6 a7 a8 a10 hl b3
section ATS
variable {W : AW} {m : Nat}
theorem MS.at1 (h : MS W m) : MudAt W m (ob W m 0) (ob W m 1) (ob W m 2) (ob W m 3) (ob W m 4) (ob W m 5) (ar W (m + 1)) (ar W (m + 2)) (ar W (m + 3)) (ar W (m + 4)) (ar W (m + 5)) (ar W (m + 6)) (ar W (m + 7)) (ar W (m + 8)) := ⟨ma_0 h, ma_1 h, ma_2 h, ma_3 h, ma_4 h, ma_5 h, ma_6 h, ma_7 h, ma_8 h⟩
theorem MS.at2 (h : MS W m) : TearsAt W (m + 9) (ob W (m + 9) 0) (ar W (m + 10)) (ar W (m + 11)) (ar W (m + 12)) (ar W (m + 13)) (ar W (m + 14)) (ar W (m + 15)) (ar W (m + 16)) := ⟨ma_9 h, ma_10 h, ma_11 h, ma_12 h, ma_13 h, ma_14 h, ma_15 h, ma_16 h⟩
theorem MS.of {l s le g bo tk made : Int} {w sh sa gr sc ow de sr st ln si be te tn tw : Nat → Int} (h : MudAt W m l s le g bo tk w sh sa gr sc ow de sr) (t : TearsAt W (m + 9) made st ln si be te tn tw) : MS W m ∧ (ob W m 0 = l ∧ ob W m 1 = s ∧ ob W m 2 = le ∧ ob W m 3 = g ∧ ob W m 4 = bo ∧ ob W m 5 = tk) ∧ ob W (m + 9) 0 = made ∧ (ar W (m + 1) = w ∧ ar W (m + 2) = sh ∧ ar W (m + 3) = sa ∧ ar W (m + 4) = gr ∧ ar W (m + 5) = sc ∧ ar W (m + 6) = ow ∧ ar W (m + 7) = de ∧ ar W (m + 8) = sr) ∧ (ar W (m + 10) = st ∧ ar W (m + 12) = si ∧ ar W (m + 13) = be ∧ ar W (m + 14) = te ∧ ar W (m + 15) = tn ∧ ar W (m + 16) = tw) := by
  obtain ⟨a0, a1, a2, a3, a4, a5, a6, a7, a8⟩ := h
  obtain ⟨t0, t1, t2, t3, t4, t5, t6, t7⟩ := t
  have h0 : W.2 m = o2 m (fun k => match k with | 0 => l | 1 => s | 2 => le | 3 => g | 4 => bo | _ => tk) := a0
  have h9 : W.2 (m + 9) = o7 (m + 9) (fun _ => made) := t0
  have b10 : W.2 (m + 10) = ea 0 200 st := t1
  have b11 : W.2 (m + 11) = ea 0 200 ln := t2
  have b12 : W.2 (m + 12) = ea 0 200 si := t3
  have b13 : W.2 (m + 13) = ea 0 200 be := t4
  have b14 : W.2 (m + 14) = ea 0 400 te := t5
  have b15 : W.2 (m + 15) = ea 0 400 tn := t6
  have b16 : W.2 (m + 16) = ea 0 400 tw := t7
  refine ⟨⟨q2 h0, q7 h9, ?_⟩, ⟨d2_0 h0, d2_1 h0, d2_2 h0, d2_3 h0, d2_4 h0, d2_5 h0⟩, d7_0 h9, ⟨ar_ea a1, ar_ea a2, ar_ea a3, ar_ea a4, ar_ea a5, ar_ea a6, ar_ea a7, ar_ea a8⟩, ⟨ar_ea b10, ar_ea b12, ar_ea b13, ar_ea b14, ar_ea b15, ar_ea b16⟩⟩
  rw [ar_ea a1, ar_ea a2, ar_ea a3, ar_ea a4, ar_ea a5, ar_ea a6, ar_ea a7, ar_ea a8, ar_ea b10, ar_ea b11, ar_ea b12, ar_ea b13, ar_ea b14, ar_ea b15, ar_ea b16]
  exact ⟨a1, a2, a3, a4, a5, a6, a7, a8, b10, b11, b12, b13, b14, b15, b16⟩
end ATS
theorem flf_z {f g : Nat → Int} {n : Nat} {v : Int} (h : ∀ i, n ≤ i → f i = 0) (k : ∀ i, n ≤ i → g i = 0) : flf f n v = flf g n v := by
  funext i
  unfold flf
  split
  · rfl
  · rw [h i (by omega), k i (by omega)]
theorem tlo_z {f g x : Nat → Int} {n : Nat} (h : ∀ i, n ≤ i → f i = 0) (k : ∀ i, n ≤ i → g i = 0) : tlo f x n = tlo g x n := by
  funext i
  unfold tlo
  split
  · rfl
  · rw [h i (by omega), k i (by omega)]
section BEG
variable {W : AW} {Q : AQ} {s : ST} {c : Int} {l sd le g : Int}
theorem CC.zr (hC : CC W s) (hz : Zw W) (hH : CH W) : (∀ i, 400 ≤ i → sF s 1 i = 0) ∧ (∀ i, 100 ≤ i → sF s 2 i = 0) ∧ (∀ i, 100 ≤ i → sF s 3 i = 0) ∧ (∀ i, 180 ≤ i → sF s 4 i = 0) ∧ (∀ i, 180 ≤ i → sF s 5 i = 0) ∧ (∀ i, 180 ≤ i → sF s 6 i = 0) ∧ (∀ i, 180 ≤ i → sF s 7 i = 0) ∧ (∀ i, 180 ≤ i → sF s 8 i = 0) := by
  have hw : 192 ≤ W.1 := hH.1.1
  obtain ⟨r1, r2, r3, r4, r5, r6, r7, r8⟩ := hC.r
  rw [← r1, ← r2, ← r3, ← r4, ← r5, ← r6, ← r7, ← r8]
  exact ⟨hz.ar (by omega) (by omega) (mv76_1 hH.2.1), hz.ar (by omega) (by omega) (mv76_2 hH.2.1), hz.ar (by omega) (by omega) (mv76_3 hH.2.1), hz.ar (by omega) (by omega) (mv76_4 hH.2.1), hz.ar (by omega) (by omega) (mv76_5 hH.2.1), hz.ar (by omega) (by omega) (mv76_6 hH.2.1), hz.ar (by omega) (by omega) (mv76_7 hH.2.1), hz.ar (by omega) (by omega) (mv76_8 hH.2.1)⟩
abbrev beG (l sd le g : Int) : Prop := (1 ≤ l ∧ l ≤ 4) ∧ 0 ≤ sd ∧ (1 ≤ le ∧ le ≤ 9999) ∧ (le ≤ g ∧ g ≤ 9999)
/-- shapes, told by cells that are as they were and such as have the same form -/
theorem CS.of {W' : AW} (h : CS W) (hw : W.1 ≤ W'.1) (h67 : W'.2 67 = o11 (ob W' 67)) (h110 : W'.2 110 = o4 110 (ob W' 110)) (h111 : W'.2 111 = ea 0 420 (ar W' 111)) (h112 : W'.2 112 = ea 0 6 (ar W' 112)) (h113 : W'.2 113 = ea 0 6 (ar W' 113)) (hk : ∀ k, k ∈ cown → k ≠ 67 → ¬ (110 ≤ k ∧ k ≤ 113) → W'.2 k = W.2 k) : CS W' := by
  have h1 : CS (wu (wu (wu (wu (wu W 67 (o11 (ob W' 67))) 110 (o4 110 (ob W' 110))) 111 (ea 0 420 (ar W' 111))) 112 (ea 0 6 (ar W' 112))) 113 (ea 0 6 (ar W' 113))) := cu_113 (cu_112 (cu_111 (cu_110 (cu_67 h))))
  refine h1.cg hw (fun k q => ?_)
  by_cases a1 : k = 67
  · subst a1; rw [wu_ne (by decide), wu_ne (by decide), wu_ne (by decide), wu_ne (by decide), wu_s]; exact h67
  by_cases a2 : k = 110
  · subst a2; rw [wu_ne (by decide), wu_ne (by decide), wu_ne (by decide), wu_s]; exact h110
  by_cases a3 : k = 111
  · subst a3; rw [wu_ne (by decide), wu_ne (by decide), wu_s]; exact h111
  by_cases a4 : k = 112
  · subst a4; rw [wu_ne (by decide), wu_s]; exact h112
  by_cases a5 : k = 113
  · subst a5; rw [wu_s]; exact h113
  rw [wu_ne a5, wu_ne a4, wu_ne a3, wu_ne a2, wu_ne a1]
  exact hk k q a1 (by omega)
theorem x_begin0 (hH : CH W) (hg : ¬ beG l sd le g) (hS : SOK c s) (hC : CC W s) (hc : c ≤ 511) (hs : sd < 2147483648) (hQ : Q (some (vi 0)) W) : Gm 13 [vr 67, vi l, vi sd, vi le, vi g] W Q := by
  have hw : 192 ≤ W.1 := hH.1.1
  have h3 := hS.2.2.2.2.1
  exact m_begin (lc := ob W 67 14) (wc := ob W 67 15) (tl := ob W 67 16) (fb := ob W 67 17) (r := ob W 110 0) (nl := ar W 111) (ce := ar W 112) (cs := ar W 113) (ca_67 hH.1) hH.2.1.at1 (MS.at2 (m := 76) hH.2.1) ⟨ca_110 hH.1, ca_111 hH.1, ca_112 hH.1, ca_113 hH.1⟩ (by omega) (by rw [hC.nu.2.2.2]; omega) hs (fun _ => hQ) (fun q => absurd q hg)
theorem x_begin1 (hz : Zw W) (hH : CH W) (hC : CC W s) (hS : SOK c s) (hc : c ≤ 511) (hs : sd < 2147483648) (hg : beG l sd le g) (hQ : ∀ W', CH W' → CC W' (beS (sF s) (sN s 3) l sd le g, fu (sN s) 3 (sN s 3 + 1), s.2.2) → Q (some (vi 1)) W') : Gm 13 [vr 67, vi l, vi sd, vi le, vi g] W Q := by
  have hw : 192 ≤ W.1 := hH.1.1
  have h3 := hS.2.2.2.2.1
  obtain ⟨n1, n2, n3, n4⟩ := hC.nu
  obtain ⟨z1, z2, z3, z4, z5, z6, z7, z8⟩ := hC.zr hz hH
  obtain ⟨r1, r2, r3, r4, r5, r6, r7, r8⟩ := hC.r
  obtain ⟨t1, t2, t3, t4⟩ := hC.nt
  refine m_begin (lc := ob W 67 14) (wc := ob W 67 15) (tl := ob W 67 16) (fb := ob W 67 17) (r := ob W 110 0) (nl := ar W 111) (ce := ar W 112) (cs := ar W 113) (ca_67 hH.1) hH.2.1.at1 (MS.at2 (m := 76) hH.2.1) ⟨ca_110 hH.1, ca_111 hH.1, ca_112 hH.1, ca_113 hH.1⟩ (by omega) (by rw [n4]; omega) hs (fun q => absurd hg q) (fun _ W' w1 w2 w3 w4 w5 w6 => ?_)
  obtain ⟨hM, ⟨p0, p1, p2, p3, p4, p5⟩, pm, ⟨v1, v2, v3, v4, v5, v6, v7, v8⟩, ⟨y1, y2, y3, y4, y5, y6⟩⟩ := MS.of (m := 76) w4 w5
  obtain ⟨x0, x1, x2, x3⟩ := w6
  have x67 : W'.2 67 = o11 (fun k => match k with | 14 => ob W 67 14 | 15 => ob W 67 15 | 16 => ob W 67 16 | 17 => ob W 67 17 + 1 | _ => 0) := w3
  have x110 : W'.2 110 = o4 110 (fun _ => 0) := x0
  have x111 : W'.2 111 = ea 0 420 (ar W 111) := x1
  have x112 : W'.2 112 = ea 0 6 (flf (ar W 112) 6 (-1)) := x2
  have x113 : W'.2 113 = ea 0 6 (ar W 113) := x3
  obtain ⟨a1, a2, a3, ⟨mm, l0, a4⟩, a5, a6, a7, a8⟩ := hH
  have hcs : CS W' := a1.of (by omega) (q11 x67) (q4 x110) (by rw [ar_ea x111]; exact x111) (by rw [ar_ea x112]; exact x112) (by rw [ar_ea x113]; exact x113) (fun k q p1 p2 => w2 k (by have := (show ∀ k ∈ cown, ¬ (76 ≤ k ∧ k ≤ 92) by decide) k q; omega))
  refine hQ W' ⟨hcs, hM, a3.cg (fun j q => w2 _ (by omega)), ⟨mm, l0, by rw [w2 130 (by omega), ob_c (w2 130 (by omega))]; exact a4⟩, by rw [w2 114 (by omega), rr_c (w2 114 (by omega))]; exact a5, by rw [w2 115 (by omega), rr_c (w2 115 (by omega))]; exact a6, by rw [w2 116 (by omega), rr_c (w2 116 (by omega))]; exact a7, by rw [w2 117 (by omega), rr_c (w2 117 (by omega))]; exact a8⟩ ?_
  obtain ⟨-, -, -, b4, ow, b5⟩ := hC
  have hOw := b5.cg (W' := W') (by omega) (fun k p q => w2 k (by omega)) (fun k p q => w2 k (by omega))
  refine ⟨⟨⟨⟨p0, p1, p2, p3, p5, pm, ?_⟩, ⟨?_, ?_, ?_, ?_, ?_, ?_, ?_, ?_⟩, fun t ht => ?_, fun t ht => ?_⟩, ?_, fun i hi => ?_, ?_, ?_⟩, fun t ht => ?_, ⟨?_, ?_, ?_, ?_⟩, ?_, ow, hOw⟩
  · show ob W' 76 4 = sN s 3 + 1
    rw [p4, n4]
  · show ar W' 77 = flf (sF s 1) 400 1000
    rw [← r1]; exact v1
  · show ar W' 78 = flf (sF s 2) 100 0
    rw [← r2]; exact v2
  · show ar W' 79 = flf (sF s 3) 100 0
    rw [← r3]; exact v3
  · show ar W' 80 = tlo (sF s 4) (grn sd le g) 180
    rw [← r4]; exact v4
  · show ar W' 81 = flf (sF s 5) 180 0
    rw [← r5]; exact v5
  · show ar W' 82 = flf (sF s 6) 180 (-1)
    rw [← r6]; exact v6
  · show ar W' 83 = flf (sF s 7) 180 0
    rw [← r7]; exact v7
  · show ar W' 84 = flf (sF s 8) 180 0
    rw [← r8]; exact v8
  · have ht2 : (t : Int) < ob W' 85 0 := ht
    rw [show ob W' 85 0 = 0 from pm] at ht2
    omega
  · have ht2 : (t : Int) < 2 * ob W' 85 0 := ht
    rw [show ob W' 85 0 = 0 from pm] at ht2
    omega
  · show ob W' 110 0 = 0
    exact d4_0 x110
  · have hi2 : (i : Int) < 7 * ob W' 110 0 := hi
    rw [d4_0 x110] at hi2
    exact absurd hi2 (by simp only [Int.mul_zero]; omega)
  · rw [cN_16]
    show ar W' 112 = flf (sF s 16) 6 (-1)
    rw [ar_ea x112, t3]
  · rw [cN_17]
    show ar W' 113 = sF s 17
    rw [ar_ea x113, t4]
  · have ht2 : (t : Int) < ob W' 85 0 := ht
    rw [show ob W' 85 0 = 0 from pm] at ht2
    omega
  · show ob W' 67 14 = sN s 0
    rw [d11_14 x67]; exact n1
  · show ob W' 67 15 = sN s 1
    rw [d11_15 x67]; exact n2
  · show ob W' 67 16 = sN s 2
    rw [d11_16 x67]; exact n3
  · show ob W' 67 17 = sN s 3 + 1
    rw [d11_17 x67, n4]
    rfl
  · show ar W' 118 = sT s
    rw [ar_c (w2 118 (by omega))]; exact b4
-- the reference
abbrev RM (W : AW) : Prop := W.2 148 = rmo (ob W 148 0) (ob W 148 1) (ob W 148 20) (ob W 148 21) (ob W 148 22) (ob W 148 23) (ob W 148 24) (ob W 148 25) (ob W 148 26) (ob W 148 27) (ob W 148 28) (ob W 148 29) (ob W 148 30) (ob W 148 56) (ob W 148 57)
theorem y_begin0 (hR : KR W s) (hg : ¬ beG l sd le g) (hS : SOK c s) (hc : c ≤ 511) (hs : sd < 2147483648) (hQ : Q (some (vi 0)) W) : Gm 178 [vr 148, vi l, vi sd, vi le, vi g] W Q := by
  have h3 := hS.2.2.2.2.1
  have hm : RM W := ra_148 hR.1
  exact m_beginR (fun k q => hR.1.w q) hm (ra_149 hR.1) (ra_150 hR.1) (ra_151 hR.1) (ra_152 hR.1) (ra_153 hR.1) (ra_154 hR.1) (ra_155 hR.1) (ra_156 hR.1) (ra_157 hR.1) (ra_165 hR.1) (by rw [hR.2.2.2.1.2.2.2]; omega) hs (fun _ => hQ) (fun q => absurd q hg)
theorem y_begin1 (hR : KR W s) (hS : SOK c s) (hc : c ≤ 511) (hs : sd < 2147483648) (hg : beG l sd le g) (hQ : ∀ W', KR W' (beS (sF s) (sN s 3) l sd le g, fu (sN s) 3 (sN s 3 + 1), s.2.2) → Q (some (vi 1)) W') : Gm 178 [vr 148, vi l, vi sd, vi le, vi g] W Q := by
  have h3 := hS.2.2.2.2.1
  have hm : RM W := ra_148 hR.1
  obtain ⟨b1, b2, b3, b4, b5, b6, b7, b8⟩ := hR
  refine m_beginR (fun k q => b1.w q) hm (ra_149 b1) (ra_150 b1) (ra_151 b1) (ra_152 b1) (ra_153 b1) (ra_154 b1) (ra_155 b1) (ra_156 b1) (ra_157 b1) (ra_165 b1) (by rw [b4.2.2.2]; omega) hs (fun q => absurd hg q) (fun _ => hQ _ ?_)
  have e148 : rmo (ob W 148 0) (ob W 148 1 + 1) (ob W 148 20) (ob W 148 21) (ob W 148 22) (ob W 148 23) (ob W 148 24) (ob W 148 25) (ob W 148 26) (ob W 148 27) (ob W 148 28) (ob W 148 29) (ob W 148 30) (ob W 148 56) (ob W 148 57) = o12 (fu (ob W 148) 1 (ob W 148 1 + 1)) := rfl
  rw [e148]
  have hw1 : RS (wu W 148 (o12 (fu (ob W 148) 1 (ob W 148 1 + 1)))) := ru_148 b1
  refine ⟨ru_165 (ru_157 (ru_156 (ru_155 (ru_154 (ru_153 (ru_152 (ru_151 (ru_150 (ru_149 hw1))))))))), fun k p q => ?_, ?_, ⟨?_, ?_, ?_, ?_⟩, ?_, fun k q => ?_, fun k q => ?_, fun k q => ?_⟩
  · simp (disch := omega) only [wu_ne]
    exact b2 k p q
  · show _ = beS (sF s) (sN s 3) l sd le g
    rw [rf_165, rf_157, rf_156, rf_155, rf_154, rf_153, rf_152, rf_151, rf_150, rf_149, rF_o (by omega), ← b3, ← b4.2.2.2]
    unfold beS bgS
    rw [fu_fu]
    rfl
  · simp (disch := omega) only [ob_n, b12_24, fu_ne]
    exact b4.1
  · simp (disch := omega) only [ob_n, b12_25, fu_ne]
    exact b4.2.1
  · simp (disch := omega) only [ob_n, b12_20, fu_ne]
    exact b4.2.2.1
  · simp (disch := omega) only [ob_n, b12_1, fu_eq]
    rw [b4.2.2.2]
    rfl
  · simp (disch := omega) only [ar_n]
    exact b5
  · exact (b6 k q).cg (fun j p q => by simp (disch := omega) only [wu_ne])
  · have := b7 k q
    exact ⟨this.1.cg this.2 (fun j p q => by simp (disch := omega) only [wu_ne]), this.2⟩
  · exact (b8 k q).cg (by simp (disch := omega) only [wu_ne]) (by simp (disch := omega) only [wu_ne])
theorem FN.be {σ : SG} {fl d : Int} (h : FL c σ) (hz : ∀ k, 0 ≤ σ 17 k ∧ σ 17 k ≤ 9999) (h1 : Thou (σ 1)) (h2 : Nine (σ 2)) (h3 : Nine (σ 3)) (h4 : Four (σ 4)) (h5 : Four (σ 5)) (h8 : ∀ e, σ 8 e = 0 ∨ σ 8 e = 1) (hg : beG l sd le g) (hs : sd < 2147483648) (hd : 0 ≤ d) : FN d (beS σ fl l sd le g) := by
  obtain ⟨g1, g2, g3, g4⟩ := hg
  have hI : FI 0 (beS σ fl l sd le g) := FI.bg (σ := fu σ 0 (fu (fu (fu (fu (fu (σ 0) 1 sd) 2 le) 3 g) 6 0) 7 (fl + 1))) h1 h2 h3 h4 h5 h8 g1 (by show 1 ≤ le ∧ le ≤ g ∧ g ≤ 9999; omega)
  have e4 : beS σ fl l sd le g 0 4 = 0 := rfl
  have e6 : beS σ fl l sd le g 0 6 = 0 := rfl
  refine ⟨hI, by rw [e4]; omega, by show 0 ≤ sd ∧ sd < _; omega, by show 1 ≤ le ∧ le ≤ g ∧ g ≤ 9999; omega, by rw [e6]; decide, fun i hi => ?_, fun r hr => ?_, fun k hk => Or.inl ?_, hz, fun t ht => ?_⟩
  · rw [e6] at hi; omega
  · rw [e6] at hr; omega
  · show flf (σ 16) 6 (-1) k = -1
    exact if_pos hk
  · have : (t : Int) < 0 := ht
    omega
end BEG
theorem FN.rb {c : Int} {σ : SG} (h : FN c σ) : RB σ := by
  obtain ⟨⟨a1, a2, a3, a4, a5, a6, a7, a8, a9, a10, a11, a12⟩, b1, b2, b3, b4, b5, b6, b7, b8, -⟩ := h
  exact ⟨b8, a4, a5, a6, a7, a8, a10⟩
theorem SOK.rb {c : Int} {s : ST} (h : SOK c s) : RB (sF s) := by
  rcases h.1 with q | q
  · exact q.2.2.2.2
  · exact q.rb
theorem ok0 {L : Nat} {X : Nat → Int} {c : Nat} {W : AW} {l sd le g : Int} (hI : Inv L X c W) (hc : c ≤ 511) (hs : sd < 2147483648) : CallOK (Inv L X (c + 1)) W 13 178 [vi l, vi sd, vi le, vi g] := by
  obtain ⟨h0, hz, hcl, s, hS, hH, hC, hR⟩ := hI
  have hcc : (c : Int) ≤ ((c + 1 : Nat) : Int) := by omega
  refine call_mk (has_c (has_c (has_c (has_c has_0)))) (by decide +kernel) h0 hz hcl hH hR ?_
  by_cases gg : beG l sd le g
  · refine x_begin1 hz hH hC hS (by omega) hs gg (fun W' a b => ⟨_, _, rfl, a, b, ?_, fun W1 k1 z1 => y_begin1 k1 hS (by omega) hs gg (fun W2 k2 => ⟨rfl, k2⟩)⟩)
    obtain ⟨r0, r1, r2, r3, r4, r5, r8⟩ := hS.rb
    have hN : FN ((c + 1 : Nat) : Int) (beS (sF s) (sN s 3) l sd le g) := FN.be hS.1 r0 r1 r2 r3 r4 r5 r8 gg hs (by omega)
    obtain ⟨a1, a2, a3, a4, a5, a6, a7, a8, a9, a10⟩ := hS.mono hcc
    have a5' := hS.2.2.2.2.1
    exact ⟨Or.inr hN, a2, a3, a4, by show 0 ≤ sN s 3 + 1 ∧ sN s 3 + 1 ≤ _; omega, a6, a7, a8, a9, fun q => absurd q (by have := hN.1.1; show ¬ beS (sF s) (sN s 3) l sd le g 0 0 = 0; omega)⟩
  · exact x_begin0 hH gg hS hC (by omega) hs ⟨_, s, rfl, hH, hC, hS.mono hcc, fun W1 k1 z1 => y_begin0 k1 gg hS (by omega) hs ⟨rfl, k1⟩⟩
