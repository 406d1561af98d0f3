-- WORLDS READ BY ADDRESS
def ar (W : AW) (k : Nat) : Nat → Int := match W.2 k with
  | Sum.inl (_, _, f) => f
  | _ => fun _ => 0
def rr (W : AW) (k : Nat) : Nat → Option Nat := match W.2 k with
  | Sum.inr (Sum.inl (_, _, f)) => f
  | _ => fun _ => none
def ob (W : AW) (k : Nat) : Nat → Int := fun i => match W.2 k with
  | Sum.inr (Sum.inr (_, fs)) => (match fget fs i with
    | some (Sum.inl z) => z
    | _ => 0)
  | _ => 0
theorem ar_ea {W : AW} {k t n : Nat} {f : Nat → Int} (h : W.2 k = ea t n f) : ar W k = f := by
  unfold ar
  rw [h]
theorem rr_er {W : AW} {k t n : Nat} {f : Nat → Option Nat} (h : W.2 k = er t n f) : rr W k = f := by
  unfold rr
  rw [h]
theorem ar_s {W : AW} {k t n : Nat} {f : Nat → Int} : ar (wu W k (ea t n f)) k = f := ar_ea wu_s
theorem rr_s {W : AW} {k t n : Nat} {f : Nat → Option Nat} : rr (wu W k (er t n f)) k = f := rr_er wu_s
theorem ar_c {W W' : AW} {k : Nat} (h : W'.2 k = W.2 k) : ar W' k = ar W k := by
  unfold ar
  rw [h]
theorem rr_c {W W' : AW} {k : Nat} (h : W'.2 k = W.2 k) : rr W' k = rr W k := by
  unfold rr
  rw [h]
theorem ob_c {W W' : AW} {k : Nat} (h : W'.2 k = W.2 k) : ob W' k = ob W k := by
  unfold ob
  rw [h]
theorem ar_n {W : AW} {j k : Nat} {e : AE} (h : j ≠ k) : ar (wu W k e) j = ar W j := ar_c (wu_ne h)
theorem rr_n {W : AW} {j k : Nat} {e : AE} (h : j ≠ k) : rr (wu W k e) j = rr W j := rr_c (wu_ne h)
theorem ob_n {W : AW} {j k : Nat} {e : AE} (h : j ≠ k) : ob (wu W k e) j = ob W j := ob_c (wu_ne h)
theorem fu_3 {α : Type} {f : Nat → α} {k j : Nat} {x : α} : fu f k x j = if j = k then x else f j := rfl
theorem lt_T {a b : Int} (h : a < b) : (a < b) = True := eq_true h
theorem lt_F {a b : Int} (h : b ≤ a) : (a < b) = False := eq_false (by omega)
theorem le_T {a b : Int} (h : a ≤ b) : (a ≤ b) = True := eq_true h
theorem le_F {a b : Int} (h : b < a) : (a ≤ b) = False := eq_false (by omega)
theorem ie_T {a b : Int} (h : a = b) : (a = b) = True := eq_true h
theorem ie_F {a b : Int} (h : ¬ a = b) : (a = b) = False := eq_false h
theorem nt_T {a b : Nat} (h : a < b) : (a < b) = True := eq_true h
theorem nt_F {a b : Nat} (h : b ≤ a) : (a < b) = False := eq_false (by omega)
theorem nl_T {a b : Nat} (h : a ≤ b) : (a ≤ b) = True := eq_true h
theorem nl_F {a b : Nat} (h : b < a) : (a ≤ b) = False := eq_false (by omega)
theorem in_T {z : Int} (h : -2147483648 ≤ z ∧ z < 2147483648) : in32 z = True := eq_true h
theorem cif_p {c p q : Prop} (h : c) : @ite Prop c (Classical.propDecidable c) p q = p := if_pos h
theorem cif_n {c p q : Prop} (h : ¬ c) : @ite Prop c (Classical.propDecidable c) p q = q := if_neg h
/-- a loop that counts up -/
theorem loop_u {P : Nat → Prop} (N : Nat) (hs : ∀ i, i < N → P (i + 1) → P i) (he : P N) : ∀ i, i ≤ N → P i := by
  have key : ∀ n i : Nat, n + i = N → P i := by
    intro n
    induction n with
    | zero => intro i hi; rw [show i = N by omega]; exact he
    | succ n ih => intro i hi; exact hs i (by omega) (ih (i + 1) (by omega))
  exact fun i hi => key (N - i) i (by omega)
def l0   : List AV := [vr 147]
abbrev o0   : AE := eo 0 (l0  )
theorem g0_0   : fget (l0 ) 0 = some (vr 147) := rfl
def l1   : List AV := [vr 69, vr 70, vr 71, vr 72, vr 73, vr 74, vr 75]
abbrev o1   : AE := eo 1 (l1  )
theorem g1_0   : fget (l1 ) 0 = some (vr 69) := rfl
theorem g1_1   : fget (l1 ) 1 = some (vr 70) := rfl
theorem g1_2   : fget (l1 ) 2 = some (vr 71) := rfl
theorem g1_3   : fget (l1 ) 3 = some (vr 72) := rfl
theorem g1_4   : fget (l1 ) 4 = some (vr 73) := rfl
theorem g1_5   : fget (l1 ) 5 = some (vr 74) := rfl
theorem g1_6   : fget (l1 ) 6 = some (vr 75) := rfl
def l2 (m : Nat) (g : Nat → Int) : List AV := [vi (g 0), vi (g 1), vi (g 2), vi (g 3), vi (g 4), vi (g 5), vr (m + 1), vr (m + 2), vr (m + 3), vr (m + 4), vr (m + 5), vr (m + 6), vr (m + 7), vr (m + 8), vr (m + 9)]
abbrev o2 (m : Nat) (g : Nat → Int) : AE := eo 2 (l2 m g)
theorem g2_0 {m : Nat} {g : Nat → Int} : fget (l2 m g) 0 = some (vi (g 0)) := rfl
theorem g2_1 {m : Nat} {g : Nat → Int} : fget (l2 m g) 1 = some (vi (g 1)) := rfl
theorem g2_2 {m : Nat} {g : Nat → Int} : fget (l2 m g) 2 = some (vi (g 2)) := rfl
theorem g2_3 {m : Nat} {g : Nat → Int} : fget (l2 m g) 3 = some (vi (g 3)) := rfl
theorem g2_4 {m : Nat} {g : Nat → Int} : fget (l2 m g) 4 = some (vi (g 4)) := rfl
theorem g2_5 {m : Nat} {g : Nat → Int} : fget (l2 m g) 5 = some (vi (g 5)) := rfl
theorem g2_6 {m : Nat} {g : Nat → Int} : fget (l2 m g) 6 = some (vr (m + 1)) := rfl
theorem g2_7 {m : Nat} {g : Nat → Int} : fget (l2 m g) 7 = some (vr (m + 2)) := rfl
theorem g2_8 {m : Nat} {g : Nat → Int} : fget (l2 m g) 8 = some (vr (m + 3)) := rfl
theorem g2_9 {m : Nat} {g : Nat → Int} : fget (l2 m g) 9 = some (vr (m + 4)) := rfl
theorem g2_10 {m : Nat} {g : Nat → Int} : fget (l2 m g) 10 = some (vr (m + 5)) := rfl
theorem g2_11 {m : Nat} {g : Nat → Int} : fget (l2 m g) 11 = some (vr (m + 6)) := rfl
theorem g2_12 {m : Nat} {g : Nat → Int} : fget (l2 m g) 12 = some (vr (m + 7)) := rfl
theorem g2_13 {m : Nat} {g : Nat → Int} : fget (l2 m g) 13 = some (vr (m + 8)) := rfl
theorem g2_14 {m : Nat} {g : Nat → Int} : fget (l2 m g) 14 = some (vr (m + 9)) := rfl
theorem p2_0 {m : Nat} {g : Nat → Int} {z : Int} : fset (l2 m g) 0 (vi z) = l2 m (fu g 0 z) := rfl
theorem b2_0 {m : Nat} {g : Nat → Int} {W : AW} {a : Nat} : ob (wu W a (o2 m g)) a 0 = g 0 := by
  unfold ob
  rw [wu_s]
  rfl
theorem d2_0 {m : Nat} {g : Nat → Int} {W : AW} {a : Nat} (h : W.2 a = o2 m g) : ob W a 0 = g 0 := by
  unfold ob
  rw [h]
  rfl
theorem p2_1 {m : Nat} {g : Nat → Int} {z : Int} : fset (l2 m g) 1 (vi z) = l2 m (fu g 1 z) := rfl
theorem b2_1 {m : Nat} {g : Nat → Int} {W : AW} {a : Nat} : ob (wu W a (o2 m g)) a 1 = g 1 := by
  unfold ob
  rw [wu_s]
  rfl
theorem d2_1 {m : Nat} {g : Nat → Int} {W : AW} {a : Nat} (h : W.2 a = o2 m g) : ob W a 1 = g 1 := by
  unfold ob
  rw [h]
  rfl
theorem p2_2 {m : Nat} {g : Nat → Int} {z : Int} : fset (l2 m g) 2 (vi z) = l2 m (fu g 2 z) := rfl
theorem b2_2 {m : Nat} {g : Nat → Int} {W : AW} {a : Nat} : ob (wu W a (o2 m g)) a 2 = g 2 := by
  unfold ob
  rw [wu_s]
  rfl
theorem d2_2 {m : Nat} {g : Nat → Int} {W : AW} {a : Nat} (h : W.2 a = o2 m g) : ob W a 2 = g 2 := by
  unfold ob
  rw [h]
  rfl
theorem p2_3 {m : Nat} {g : Nat → Int} {z : Int} : fset (l2 m g) 3 (vi z) = l2 m (fu g 3 z) := rfl
theorem b2_3 {m : Nat} {g : Nat → Int} {W : AW} {a : Nat} : ob (wu W a (o2 m g)) a 3 = g 3 := by
  unfold ob
  rw [wu_s]
  rfl
theorem d2_3 {m : Nat} {g : Nat → Int} {W : AW} {a : Nat} (h : W.2 a = o2 m g) : ob W a 3 = g 3 := by
  unfold ob
  rw [h]
  rfl
theorem p2_4 {m : Nat} {g : Nat → Int} {z : Int} : fset (l2 m g) 4 (vi z) = l2 m (fu g 4 z) := rfl
theorem b2_4 {m : Nat} {g : Nat → Int} {W : AW} {a : Nat} : ob (wu W a (o2 m g)) a 4 = g 4 := by
  unfold ob
  rw [wu_s]
  rfl
theorem d2_4 {m : Nat} {g : Nat → Int} {W : AW} {a : Nat} (h : W.2 a = o2 m g) : ob W a 4 = g 4 := by
  unfold ob
  rw [h]
  rfl
theorem p2_5 {m : Nat} {g : Nat → Int} {z : Int} : fset (l2 m g) 5 (vi z) = l2 m (fu g 5 z) := rfl
theorem b2_5 {m : Nat} {g : Nat → Int} {W : AW} {a : Nat} : ob (wu W a (o2 m g)) a 5 = g 5 := by
  unfold ob
  rw [wu_s]
  rfl
theorem d2_5 {m : Nat} {g : Nat → Int} {W : AW} {a : Nat} (h : W.2 a = o2 m g) : ob W a 5 = g 5 := by
  unfold ob
  rw [h]
  rfl
theorem l2_e {m : Nat} {g g2 : Nat → Int} (h0 : g 0 = g2 0) (h1 : g 1 = g2 1) (h2 : g 2 = g2 2) (h3 : g 3 = g2 3) (h4 : g 4 = g2 4) (h5 : g 5 = g2 5) : l2 m g = l2 m g2 := by
  unfold l2
  rw [h0, h1, h2, h3, h4, h5]
theorem q2 {m : Nat} {g : Nat → Int} {W : AW} {a : Nat} (h : W.2 a = o2 m g) : W.2 a = o2 m (ob W a) := h.trans (congrArg (fun l => eo 2 l) (l2_e (d2_0 h).symm (d2_1 h).symm (d2_2 h).symm (d2_3 h).symm (d2_4 h).symm (d2_5 h).symm))
def l3  (g : Nat → Int) : List AV := [vr 140, vr 141, vr 142, vr 143, vi (g 4), vi (g 5), vr 68, vr 144, vr 145]
abbrev o3  (g : Nat → Int) : AE := eo 3 (l3  g)
theorem g3_0  {g : Nat → Int} : fget (l3  g) 0 = some (vr 140) := rfl
theorem g3_1  {g : Nat → Int} : fget (l3  g) 1 = some (vr 141) := rfl
theorem g3_2  {g : Nat → Int} : fget (l3  g) 2 = some (vr 142) := rfl
theorem g3_3  {g : Nat → Int} : fget (l3  g) 3 = some (vr 143) := rfl
theorem g3_4  {g : Nat → Int} : fget (l3  g) 4 = some (vi (g 4)) := rfl
theorem g3_5  {g : Nat → Int} : fget (l3  g) 5 = some (vi (g 5)) := rfl
theorem g3_6  {g : Nat → Int} : fget (l3  g) 6 = some (vr 68) := rfl
theorem g3_7  {g : Nat → Int} : fget (l3  g) 7 = some (vr 144) := rfl
theorem g3_8  {g : Nat → Int} : fget (l3  g) 8 = some (vr 145) := rfl
theorem p3_4  {g : Nat → Int} {z : Int} : fset (l3  g) 4 (vi z) = l3  (fu g 4 z) := rfl
theorem b3_4  {g : Nat → Int} {W : AW} {a : Nat} : ob (wu W a (o3  g)) a 4 = g 4 := by
  unfold ob
  rw [wu_s]
  rfl
theorem d3_4  {g : Nat → Int} {W : AW} {a : Nat} (h : W.2 a = o3  g) : ob W a 4 = g 4 := by
  unfold ob
  rw [h]
  rfl
theorem p3_5  {g : Nat → Int} {z : Int} : fset (l3  g) 5 (vi z) = l3  (fu g 5 z) := rfl
theorem b3_5  {g : Nat → Int} {W : AW} {a : Nat} : ob (wu W a (o3  g)) a 5 = g 5 := by
  unfold ob
  rw [wu_s]
  rfl
theorem d3_5  {g : Nat → Int} {W : AW} {a : Nat} (h : W.2 a = o3  g) : ob W a 5 = g 5 := by
  unfold ob
  rw [h]
  rfl
theorem l3_e  {g g2 : Nat → Int} (h4 : g 4 = g2 4) (h5 : g 5 = g2 5) : l3  g = l3  g2 := by
  unfold l3
  rw [h4, h5]
theorem q3  {g : Nat → Int} {W : AW} {a : Nat} (h : W.2 a = o3  g) : W.2 a = o3  (ob W a) := h.trans (congrArg (fun l => eo 3 l) (l3_e (d3_4 h).symm (d3_5 h).symm))
def l4 (m : Nat) (g : Nat → Int) : List AV := [vi (g 0), vr (m + 1), vr (m + 2), vr (m + 3)]
abbrev o4 (m : Nat) (g : Nat → Int) : AE := eo 4 (l4 m g)
theorem g4_0 {m : Nat} {g : Nat → Int} : fget (l4 m g) 0 = some (vi (g 0)) := rfl
theorem g4_1 {m : Nat} {g : Nat → Int} : fget (l4 m g) 1 = some (vr (m + 1)) := rfl
theorem g4_2 {m : Nat} {g : Nat → Int} : fget (l4 m g) 2 = some (vr (m + 2)) := rfl
theorem g4_3 {m : Nat} {g : Nat → Int} : fget (l4 m g) 3 = some (vr (m + 3)) := rfl
theorem p4_0 {m : Nat} {g : Nat → Int} {z : Int} : fset (l4 m g) 0 (vi z) = l4 m (fu g 0 z) := rfl
theorem b4_0 {m : Nat} {g : Nat → Int} {W : AW} {a : Nat} : ob (wu W a (o4 m g)) a 0 = g 0 := by
  unfold ob
  rw [wu_s]
  rfl
theorem d4_0 {m : Nat} {g : Nat → Int} {W : AW} {a : Nat} (h : W.2 a = o4 m g) : ob W a 0 = g 0 := by
  unfold ob
  rw [h]
  rfl
theorem l4_e {m : Nat} {g g2 : Nat → Int} (h0 : g 0 = g2 0) : l4 m g = l4 m g2 := by
  unfold l4
  rw [h0]
theorem q4 {m : Nat} {g : Nat → Int} {W : AW} {a : Nat} (h : W.2 a = o4 m g) : W.2 a = o4 m (ob W a) := h.trans (congrArg (fun l => eo 4 l) (l4_e (d4_0 h).symm))
def l5   : List AV := [vr 128, vr 129]
abbrev o5   : AE := eo 5 (l5  )
theorem g5_0   : fget (l5 ) 0 = some (vr 128) := rfl
theorem g5_1   : fget (l5 ) 1 = some (vr 129) := rfl
def l6 (ca : Nat) (cb : Nat) (cc : Nat) (ce : Nat) (cf : Nat)  : List AV := [vr ca, vr cb, vr cc, vr ce, vr cf]
abbrev o6 (ca : Nat) (cb : Nat) (cc : Nat) (ce : Nat) (cf : Nat)  : AE := eo 6 (l6 ca cb cc ce cf )
theorem g6_0 {ca : Nat} {cb : Nat} {cc : Nat} {ce : Nat} {cf : Nat}  : fget (l6 ca cb cc ce cf) 0 = some (vr ca) := rfl
theorem g6_1 {ca : Nat} {cb : Nat} {cc : Nat} {ce : Nat} {cf : Nat}  : fget (l6 ca cb cc ce cf) 1 = some (vr cb) := rfl
theorem g6_2 {ca : Nat} {cb : Nat} {cc : Nat} {ce : Nat} {cf : Nat}  : fget (l6 ca cb cc ce cf) 2 = some (vr cc) := rfl
theorem g6_3 {ca : Nat} {cb : Nat} {cc : Nat} {ce : Nat} {cf : Nat}  : fget (l6 ca cb cc ce cf) 3 = some (vr ce) := rfl
theorem g6_4 {ca : Nat} {cb : Nat} {cc : Nat} {ce : Nat} {cf : Nat}  : fget (l6 ca cb cc ce cf) 4 = some (vr cf) := rfl
def l7 (m : Nat) (g : Nat → Int) : List AV := [vi (g 0), vr (m + 1), vr (m + 2), vr (m + 3), vr (m + 4), vr (m + 5), vr (m + 6), vr (m + 7)]
abbrev o7 (m : Nat) (g : Nat → Int) : AE := eo 7 (l7 m g)
theorem g7_0 {m : Nat} {g : Nat → Int} : fget (l7 m g) 0 = some (vi (g 0)) := rfl
theorem g7_1 {m : Nat} {g : Nat → Int} : fget (l7 m g) 1 = some (vr (m + 1)) := rfl
theorem g7_2 {m : Nat} {g : Nat → Int} : fget (l7 m g) 2 = some (vr (m + 2)) := rfl
theorem g7_3 {m : Nat} {g : Nat → Int} : fget (l7 m g) 3 = some (vr (m + 3)) := rfl
theorem g7_4 {m : Nat} {g : Nat → Int} : fget (l7 m g) 4 = some (vr (m + 4)) := rfl
theorem g7_5 {m : Nat} {g : Nat → Int} : fget (l7 m g) 5 = some (vr (m + 5)) := rfl
theorem g7_6 {m : Nat} {g : Nat → Int} : fget (l7 m g) 6 = some (vr (m + 6)) := rfl
theorem g7_7 {m : Nat} {g : Nat → Int} : fget (l7 m g) 7 = some (vr (m + 7)) := rfl
theorem p7_0 {m : Nat} {g : Nat → Int} {z : Int} : fset (l7 m g) 0 (vi z) = l7 m (fu g 0 z) := rfl
theorem b7_0 {m : Nat} {g : Nat → Int} {W : AW} {a : Nat} : ob (wu W a (o7 m g)) a 0 = g 0 := by
  unfold ob
  rw [wu_s]
  rfl
theorem d7_0 {m : Nat} {g : Nat → Int} {W : AW} {a : Nat} (h : W.2 a = o7 m g) : ob W a 0 = g 0 := by
  unfold ob
  rw [h]
  rfl
theorem l7_e {m : Nat} {g g2 : Nat → Int} (h0 : g 0 = g2 0) : l7 m g = l7 m g2 := by
  unfold l7
  rw [h0]
theorem q7 {m : Nat} {g : Nat → Int} {W : AW} {a : Nat} (h : W.2 a = o7 m g) : W.2 a = o7 m (ob W a) := h.trans (congrArg (fun l => eo 7 l) (l7_e (d7_0 h).symm))
def l8  (g : Nat → Int) : List AV := [vi (g 0), vi (g 1), vi (g 2), vr 118, vi (g 4), vi (g 5)]
abbrev o8  (g : Nat → Int) : AE := eo 8 (l8  g)
theorem g8_0  {g : Nat → Int} : fget (l8  g) 0 = some (vi (g 0)) := rfl
theorem g8_1  {g : Nat → Int} : fget (l8  g) 1 = some (vi (g 1)) := rfl
theorem g8_2  {g : Nat → Int} : fget (l8  g) 2 = some (vi (g 2)) := rfl
theorem g8_3  {g : Nat → Int} : fget (l8  g) 3 = some (vr 118) := rfl
theorem g8_4  {g : Nat → Int} : fget (l8  g) 4 = some (vi (g 4)) := rfl
theorem g8_5  {g : Nat → Int} : fget (l8  g) 5 = some (vi (g 5)) := rfl
theorem p8_0  {g : Nat → Int} {z : Int} : fset (l8  g) 0 (vi z) = l8  (fu g 0 z) := rfl
theorem b8_0  {g : Nat → Int} {W : AW} {a : Nat} : ob (wu W a (o8  g)) a 0 = g 0 := by
  unfold ob
  rw [wu_s]
  rfl
theorem d8_0  {g : Nat → Int} {W : AW} {a : Nat} (h : W.2 a = o8  g) : ob W a 0 = g 0 := by
  unfold ob
  rw [h]
  rfl
theorem p8_1  {g : Nat → Int} {z : Int} : fset (l8  g) 1 (vi z) = l8  (fu g 1 z) := rfl
theorem b8_1  {g : Nat → Int} {W : AW} {a : Nat} : ob (wu W a (o8  g)) a 1 = g 1 := by
  unfold ob
  rw [wu_s]
  rfl
theorem d8_1  {g : Nat → Int} {W : AW} {a : Nat} (h : W.2 a = o8  g) : ob W a 1 = g 1 := by
  unfold ob
  rw [h]
  rfl
theorem p8_2  {g : Nat → Int} {z : Int} : fset (l8  g) 2 (vi z) = l8  (fu g 2 z) := rfl
theorem b8_2  {g : Nat → Int} {W : AW} {a : Nat} : ob (wu W a (o8  g)) a 2 = g 2 := by
  unfold ob
  rw [wu_s]
  rfl
theorem d8_2  {g : Nat → Int} {W : AW} {a : Nat} (h : W.2 a = o8  g) : ob W a 2 = g 2 := by
  unfold ob
  rw [h]
  rfl
theorem p8_4  {g : Nat → Int} {z : Int} : fset (l8  g) 4 (vi z) = l8  (fu g 4 z) := rfl
theorem b8_4  {g : Nat → Int} {W : AW} {a : Nat} : ob (wu W a (o8  g)) a 4 = g 4 := by
  unfold ob
  rw [wu_s]
  rfl
theorem d8_4  {g : Nat → Int} {W : AW} {a : Nat} (h : W.2 a = o8  g) : ob W a 4 = g 4 := by
  unfold ob
  rw [h]
  rfl
theorem p8_5  {g : Nat → Int} {z : Int} : fset (l8  g) 5 (vi z) = l8  (fu g 5 z) := rfl
theorem b8_5  {g : Nat → Int} {W : AW} {a : Nat} : ob (wu W a (o8  g)) a 5 = g 5 := by
  unfold ob
  rw [wu_s]
  rfl
theorem d8_5  {g : Nat → Int} {W : AW} {a : Nat} (h : W.2 a = o8  g) : ob W a 5 = g 5 := by
  unfold ob
  rw [h]
  rfl
theorem l8_e  {g g2 : Nat → Int} (h0 : g 0 = g2 0) (h1 : g 1 = g2 1) (h2 : g 2 = g2 2) (h4 : g 4 = g2 4) (h5 : g 5 = g2 5) : l8  g = l8  g2 := by
  unfold l8
  rw [h0, h1, h2, h4, h5]
theorem q8  {g : Nat → Int} {W : AW} {a : Nat} (h : W.2 a = o8  g) : W.2 a = o8  (ob W a) := h.trans (congrArg (fun l => eo 8 l) (l8_e (d8_0 h).symm (d8_1 h).symm (d8_2 h).symm (d8_4 h).symm (d8_5 h).symm))
def l9  (g : Nat → Int) : List AV := [vi (g 0), vr 126, vi (g 2), vi (g 3), vi (g 4), vi (g 5), vr 120, vi (g 7), vr 121, vi (g 9), vi (g 10), vr 122, vr 123, vr 124, vi (g 14), vr 125]
abbrev o9  (g : Nat → Int) : AE := eo 9 (l9  g)
theorem g9_0  {g : Nat → Int} : fget (l9  g) 0 = some (vi (g 0)) := rfl
theorem g9_1  {g : Nat → Int} : fget (l9  g) 1 = some (vr 126) := rfl
theorem g9_2  {g : Nat → Int} : fget (l9  g) 2 = some (vi (g 2)) := rfl
theorem g9_3  {g : Nat → Int} : fget (l9  g) 3 = some (vi (g 3)) := rfl
theorem g9_4  {g : Nat → Int} : fget (l9  g) 4 = some (vi (g 4)) := rfl
theorem g9_5  {g : Nat → Int} : fget (l9  g) 5 = some (vi (g 5)) := rfl
theorem g9_6  {g : Nat → Int} : fget (l9  g) 6 = some (vr 120) := rfl
theorem g9_7  {g : Nat → Int} : fget (l9  g) 7 = some (vi (g 7)) := rfl
theorem g9_8  {g : Nat → Int} : fget (l9  g) 8 = some (vr 121) := rfl
theorem g9_9  {g : Nat → Int} : fget (l9  g) 9 = some (vi (g 9)) := rfl
theorem g9_10  {g : Nat → Int} : fget (l9  g) 10 = some (vi (g 10)) := rfl
theorem g9_11  {g : Nat → Int} : fget (l9  g) 11 = some (vr 122) := rfl
theorem g9_12  {g : Nat → Int} : fget (l9  g) 12 = some (vr 123) := rfl
theorem g9_13  {g : Nat → Int} : fget (l9  g) 13 = some (vr 124) := rfl
theorem g9_14  {g : Nat → Int} : fget (l9  g) 14 = some (vi (g 14)) := rfl
theorem g9_15  {g : Nat → Int} : fget (l9  g) 15 = some (vr 125) := rfl
theorem p9_0  {g : Nat → Int} {z : Int} : fset (l9  g) 0 (vi z) = l9  (fu g 0 z) := rfl
theorem b9_0  {g : Nat → Int} {W : AW} {a : Nat} : ob (wu W a (o9  g)) a 0 = g 0 := by
  unfold ob
  rw [wu_s]
  rfl
theorem d9_0  {g : Nat → Int} {W : AW} {a : Nat} (h : W.2 a = o9  g) : ob W a 0 = g 0 := by
  unfold ob
  rw [h]
  rfl
theorem p9_2  {g : Nat → Int} {z : Int} : fset (l9  g) 2 (vi z) = l9  (fu g 2 z) := rfl
theorem b9_2  {g : Nat → Int} {W : AW} {a : Nat} : ob (wu W a (o9  g)) a 2 = g 2 := by
  unfold ob
  rw [wu_s]
  rfl
theorem d9_2  {g : Nat → Int} {W : AW} {a : Nat} (h : W.2 a = o9  g) : ob W a 2 = g 2 := by
  unfold ob
  rw [h]
  rfl
theorem p9_3  {g : Nat → Int} {z : Int} : fset (l9  g) 3 (vi z) = l9  (fu g 3 z) := rfl
theorem b9_3  {g : Nat → Int} {W : AW} {a : Nat} : ob (wu W a (o9  g)) a 3 = g 3 := by
  unfold ob
  rw [wu_s]
  rfl
theorem d9_3  {g : Nat → Int} {W : AW} {a : Nat} (h : W.2 a = o9  g) : ob W a 3 = g 3 := by
  unfold ob
  rw [h]
  rfl
theorem p9_4  {g : Nat → Int} {z : Int} : fset (l9  g) 4 (vi z) = l9  (fu g 4 z) := rfl
theorem b9_4  {g : Nat → Int} {W : AW} {a : Nat} : ob (wu W a (o9  g)) a 4 = g 4 := by
  unfold ob
  rw [wu_s]
  rfl
theorem d9_4  {g : Nat → Int} {W : AW} {a : Nat} (h : W.2 a = o9  g) : ob W a 4 = g 4 := by
  unfold ob
  rw [h]
  rfl
theorem p9_5  {g : Nat → Int} {z : Int} : fset (l9  g) 5 (vi z) = l9  (fu g 5 z) := rfl
theorem b9_5  {g : Nat → Int} {W : AW} {a : Nat} : ob (wu W a (o9  g)) a 5 = g 5 := by
  unfold ob
  rw [wu_s]
  rfl
theorem d9_5  {g : Nat → Int} {W : AW} {a : Nat} (h : W.2 a = o9  g) : ob W a 5 = g 5 := by
  unfold ob
  rw [h]
  rfl
theorem p9_7  {g : Nat → Int} {z : Int} : fset (l9  g) 7 (vi z) = l9  (fu g 7 z) := rfl
theorem b9_7  {g : Nat → Int} {W : AW} {a : Nat} : ob (wu W a (o9  g)) a 7 = g 7 := by
  unfold ob
  rw [wu_s]
  rfl
theorem d9_7  {g : Nat → Int} {W : AW} {a : Nat} (h : W.2 a = o9  g) : ob W a 7 = g 7 := by
  unfold ob
  rw [h]
  rfl
theorem p9_9  {g : Nat → Int} {z : Int} : fset (l9  g) 9 (vi z) = l9  (fu g 9 z) := rfl
theorem b9_9  {g : Nat → Int} {W : AW} {a : Nat} : ob (wu W a (o9  g)) a 9 = g 9 := by
  unfold ob
  rw [wu_s]
  rfl
theorem d9_9  {g : Nat → Int} {W : AW} {a : Nat} (h : W.2 a = o9  g) : ob W a 9 = g 9 := by
  unfold ob
  rw [h]
  rfl
theorem p9_10  {g : Nat → Int} {z : Int} : fset (l9  g) 10 (vi z) = l9  (fu g 10 z) := rfl
theorem b9_10  {g : Nat → Int} {W : AW} {a : Nat} : ob (wu W a (o9  g)) a 10 = g 10 := by
  unfold ob
  rw [wu_s]
  rfl
theorem d9_10  {g : Nat → Int} {W : AW} {a : Nat} (h : W.2 a = o9  g) : ob W a 10 = g 10 := by
  unfold ob
  rw [h]
  rfl
theorem p9_14  {g : Nat → Int} {z : Int} : fset (l9  g) 14 (vi z) = l9  (fu g 14 z) := rfl
theorem b9_14  {g : Nat → Int} {W : AW} {a : Nat} : ob (wu W a (o9  g)) a 14 = g 14 := by
  unfold ob
  rw [wu_s]
  rfl
theorem d9_14  {g : Nat → Int} {W : AW} {a : Nat} (h : W.2 a = o9  g) : ob W a 14 = g 14 := by
  unfold ob
  rw [h]
  rfl
theorem l9_e  {g g2 : Nat → Int} (h0 : g 0 = g2 0) (h2 : g 2 = g2 2) (h3 : g 3 = g2 3) (h4 : g 4 = g2 4) (h5 : g 5 = g2 5) (h7 : g 7 = g2 7) (h9 : g 9 = g2 9) (h10 : g 10 = g2 10) (h14 : g 14 = g2 14) : l9  g = l9  g2 := by
  unfold l9
  rw [h0, h2, h3, h4, h5, h7, h9, h10, h14]
theorem q9  {g : Nat → Int} {W : AW} {a : Nat} (h : W.2 a = o9  g) : W.2 a = o9  (ob W a) := h.trans (congrArg (fun l => eo 9 l) (l9_e (d9_0 h).symm (d9_2 h).symm (d9_3 h).symm (d9_4 h).symm (d9_5 h).symm (d9_7 h).symm (d9_9 h).symm (d9_10 h).symm (d9_14 h).symm))
def l10 (mm : Nat) (ll : Nat) (g : Nat → Int) : List AV := [vr 68, vr 127, vr 131, vr 132, vr mm, vr ll, vi (g 6)]
abbrev o10 (mm : Nat) (ll : Nat) (g : Nat → Int) : AE := eo 10 (l10 mm ll g)
theorem g10_0 {mm : Nat} {ll : Nat} {g : Nat → Int} : fget (l10 mm ll g) 0 = some (vr 68) := rfl
theorem g10_1 {mm : Nat} {ll : Nat} {g : Nat → Int} : fget (l10 mm ll g) 1 = some (vr 127) := rfl
theorem g10_2 {mm : Nat} {ll : Nat} {g : Nat → Int} : fget (l10 mm ll g) 2 = some (vr 131) := rfl
theorem g10_3 {mm : Nat} {ll : Nat} {g : Nat → Int} : fget (l10 mm ll g) 3 = some (vr 132) := rfl
theorem g10_4 {mm : Nat} {ll : Nat} {g : Nat → Int} : fget (l10 mm ll g) 4 = some (vr mm) := rfl
theorem g10_5 {mm : Nat} {ll : Nat} {g : Nat → Int} : fget (l10 mm ll g) 5 = some (vr ll) := rfl
theorem g10_6 {mm : Nat} {ll : Nat} {g : Nat → Int} : fget (l10 mm ll g) 6 = some (vi (g 6)) := rfl
theorem p10_6 {mm : Nat} {ll : Nat} {g : Nat → Int} {z : Int} : fset (l10 mm ll g) 6 (vi z) = l10 mm ll (fu g 6 z) := rfl
theorem b10_6 {mm : Nat} {ll : Nat} {g : Nat → Int} {W : AW} {a : Nat} : ob (wu W a (o10 mm ll g)) a 6 = g 6 := by
  unfold ob
  rw [wu_s]
  rfl
theorem d10_6 {mm : Nat} {ll : Nat} {g : Nat → Int} {W : AW} {a : Nat} (h : W.2 a = o10 mm ll g) : ob W a 6 = g 6 := by
  unfold ob
  rw [h]
  rfl
theorem l10_e {mm : Nat} {ll : Nat} {g g2 : Nat → Int} (h6 : g 6 = g2 6) : l10 mm ll g = l10 mm ll g2 := by
  unfold l10
  rw [h6]
theorem q10 {mm : Nat} {ll : Nat} {g : Nat → Int} {W : AW} {a : Nat} (h : W.2 a = o10 mm ll g) : W.2 a = o10 mm ll (ob W a) := h.trans (congrArg (fun l => eo 10 l) (l10_e (d10_6 h).symm))
def l11  (g : Nat → Int) : List AV := [vr 68, vr 76, vr 93, vr 110, vr 114, vr 115, vr 116, vr 117, vr 118, vr 119, vr 127, vr 130, vr 139, vr 146, vi (g 14), vi (g 15), vi (g 16), vi (g 17)]
abbrev o11  (g : Nat → Int) : AE := eo 11 (l11  g)
theorem g11_0  {g : Nat → Int} : fget (l11  g) 0 = some (vr 68) := rfl
theorem g11_1  {g : Nat → Int} : fget (l11  g) 1 = some (vr 76) := rfl
theorem g11_2  {g : Nat → Int} : fget (l11  g) 2 = some (vr 93) := rfl
theorem g11_3  {g : Nat → Int} : fget (l11  g) 3 = some (vr 110) := rfl
theorem g11_4  {g : Nat → Int} : fget (l11  g) 4 = some (vr 114) := rfl
theorem g11_5  {g : Nat → Int} : fget (l11  g) 5 = some (vr 115) := rfl
theorem g11_6  {g : Nat → Int} : fget (l11  g) 6 = some (vr 116) := rfl
theorem g11_7  {g : Nat → Int} : fget (l11  g) 7 = some (vr 117) := rfl
theorem g11_8  {g : Nat → Int} : fget (l11  g) 8 = some (vr 118) := rfl
theorem g11_9  {g : Nat → Int} : fget (l11  g) 9 = some (vr 119) := rfl
theorem g11_10  {g : Nat → Int} : fget (l11  g) 10 = some (vr 127) := rfl
theorem g11_11  {g : Nat → Int} : fget (l11  g) 11 = some (vr 130) := rfl
theorem g11_12  {g : Nat → Int} : fget (l11  g) 12 = some (vr 139) := rfl
theorem g11_13  {g : Nat → Int} : fget (l11  g) 13 = some (vr 146) := rfl
theorem g11_14  {g : Nat → Int} : fget (l11  g) 14 = some (vi (g 14)) := rfl
theorem g11_15  {g : Nat → Int} : fget (l11  g) 15 = some (vi (g 15)) := rfl
theorem g11_16  {g : Nat → Int} : fget (l11  g) 16 = some (vi (g 16)) := rfl
theorem g11_17  {g : Nat → Int} : fget (l11  g) 17 = some (vi (g 17)) := rfl
theorem p11_14  {g : Nat → Int} {z : Int} : fset (l11  g) 14 (vi z) = l11  (fu g 14 z) := rfl
theorem b11_14  {g : Nat → Int} {W : AW} {a : Nat} : ob (wu W a (o11  g)) a 14 = g 14 := by
  unfold ob
  rw [wu_s]
  rfl
theorem d11_14  {g : Nat → Int} {W : AW} {a : Nat} (h : W.2 a = o11  g) : ob W a 14 = g 14 := by
  unfold ob
  rw [h]
  rfl
theorem p11_15  {g : Nat → Int} {z : Int} : fset (l11  g) 15 (vi z) = l11  (fu g 15 z) := rfl
theorem b11_15  {g : Nat → Int} {W : AW} {a : Nat} : ob (wu W a (o11  g)) a 15 = g 15 := by
  unfold ob
  rw [wu_s]
  rfl
theorem d11_15  {g : Nat → Int} {W : AW} {a : Nat} (h : W.2 a = o11  g) : ob W a 15 = g 15 := by
  unfold ob
  rw [h]
  rfl
theorem p11_16  {g : Nat → Int} {z : Int} : fset (l11  g) 16 (vi z) = l11  (fu g 16 z) := rfl
theorem b11_16  {g : Nat → Int} {W : AW} {a : Nat} : ob (wu W a (o11  g)) a 16 = g 16 := by
  unfold ob
  rw [wu_s]
  rfl
theorem d11_16  {g : Nat → Int} {W : AW} {a : Nat} (h : W.2 a = o11  g) : ob W a 16 = g 16 := by
  unfold ob
  rw [h]
  rfl
theorem p11_17  {g : Nat → Int} {z : Int} : fset (l11  g) 17 (vi z) = l11  (fu g 17 z) := rfl
theorem b11_17  {g : Nat → Int} {W : AW} {a : Nat} : ob (wu W a (o11  g)) a 17 = g 17 := by
  unfold ob
  rw [wu_s]
  rfl
theorem d11_17  {g : Nat → Int} {W : AW} {a : Nat} (h : W.2 a = o11  g) : ob W a 17 = g 17 := by
  unfold ob
  rw [h]
  rfl
theorem l11_e  {g g2 : Nat → Int} (h14 : g 14 = g2 14) (h15 : g 15 = g2 15) (h16 : g 16 = g2 16) (h17 : g 17 = g2 17) : l11  g = l11  g2 := by
  unfold l11
  rw [h14, h15, h16, h17]
theorem q11  {g : Nat → Int} {W : AW} {a : Nat} (h : W.2 a = o11  g) : W.2 a = o11  (ob W a) := h.trans (congrArg (fun l => eo 11 l) (l11_e (d11_14 h).symm (d11_15 h).symm (d11_16 h).symm (d11_17 h).symm))
def l12  (g : Nat → Int) : List AV := [vi (g 0), vi (g 1), vr 149, vr 150, vr 151, vr 152, vr 153, vr 154, vr 155, vr 156, vr 157, vr 158, vr 159, vr 160, vr 161, vr 162, vr 163, vr 164, vr 165, vr 166, vi (g 20), vi (g 21), vi (g 22), vi (g 23), vi (g 24), vi (g 25), vi (g 26), vi (g 27), vi (g 28), vi (g 29), vi (g 30), vr 167, vr 168, vr 169, vr 170, vr 171, vr 172, vr 173, vr 174, vr 175, vr 176, vr 177, vr 178, vr 179, vr 180, vr 181, vr 182, vr 183, vr 184, vr 185, vr 186, vr 187, vr 188, vr 189, vr 190, vr 191, vi (g 56), vi (g 57)]
abbrev o12  (g : Nat → Int) : AE := eo 12 (l12  g)
theorem g12_0  {g : Nat → Int} : fget (l12  g) 0 = some (vi (g 0)) := rfl
theorem g12_1  {g : Nat → Int} : fget (l12  g) 1 = some (vi (g 1)) := rfl
theorem g12_2  {g : Nat → Int} : fget (l12  g) 2 = some (vr 149) := rfl
theorem g12_3  {g : Nat → Int} : fget (l12  g) 3 = some (vr 150) := rfl
theorem g12_4  {g : Nat → Int} : fget (l12  g) 4 = some (vr 151) := rfl
theorem g12_5  {g : Nat → Int} : fget (l12  g) 5 = some (vr 152) := rfl
theorem g12_6  {g : Nat → Int} : fget (l12  g) 6 = some (vr 153) := rfl
theorem g12_7  {g : Nat → Int} : fget (l12  g) 7 = some (vr 154) := rfl
theorem g12_8  {g : Nat → Int} : fget (l12  g) 8 = some (vr 155) := rfl
theorem g12_9  {g : Nat → Int} : fget (l12  g) 9 = some (vr 156) := rfl
theorem g12_10  {g : Nat → Int} : fget (l12  g) 10 = some (vr 157) := rfl
theorem g12_11  {g : Nat → Int} : fget (l12  g) 11 = some (vr 158) := rfl
theorem g12_12  {g : Nat → Int} : fget (l12  g) 12 = some (vr 159) := rfl
theorem g12_13  {g : Nat → Int} : fget (l12  g) 13 = some (vr 160) := rfl
theorem g12_14  {g : Nat → Int} : fget (l12  g) 14 = some (vr 161) := rfl
theorem g12_15  {g : Nat → Int} : fget (l12  g) 15 = some (vr 162) := rfl
theorem g12_16  {g : Nat → Int} : fget (l12  g) 16 = some (vr 163) := rfl
theorem g12_17  {g : Nat → Int} : fget (l12  g) 17 = some (vr 164) := rfl
theorem g12_18  {g : Nat → Int} : fget (l12  g) 18 = some (vr 165) := rfl
theorem g12_19  {g : Nat → Int} : fget (l12  g) 19 = some (vr 166) := rfl
theorem g12_20  {g : Nat → Int} : fget (l12  g) 20 = some (vi (g 20)) := rfl
theorem g12_21  {g : Nat → Int} : fget (l12  g) 21 = some (vi (g 21)) := rfl
theorem g12_22  {g : Nat → Int} : fget (l12  g) 22 = some (vi (g 22)) := rfl
theorem g12_23  {g : Nat → Int} : fget (l12  g) 23 = some (vi (g 23)) := rfl
theorem g12_24  {g : Nat → Int} : fget (l12  g) 24 = some (vi (g 24)) := rfl
theorem g12_25  {g : Nat → Int} : fget (l12  g) 25 = some (vi (g 25)) := rfl
theorem g12_26  {g : Nat → Int} : fget (l12  g) 26 = some (vi (g 26)) := rfl
theorem g12_27  {g : Nat → Int} : fget (l12  g) 27 = some (vi (g 27)) := rfl
theorem g12_28  {g : Nat → Int} : fget (l12  g) 28 = some (vi (g 28)) := rfl
theorem g12_29  {g : Nat → Int} : fget (l12  g) 29 = some (vi (g 29)) := rfl
theorem g12_30  {g : Nat → Int} : fget (l12  g) 30 = some (vi (g 30)) := rfl
theorem g12_31  {g : Nat → Int} : fget (l12  g) 31 = some (vr 167) := rfl
theorem g12_32  {g : Nat → Int} : fget (l12  g) 32 = some (vr 168) := rfl
theorem g12_33  {g : Nat → Int} : fget (l12  g) 33 = some (vr 169) := rfl
theorem g12_34  {g : Nat → Int} : fget (l12  g) 34 = some (vr 170) := rfl
theorem g12_35  {g : Nat → Int} : fget (l12  g) 35 = some (vr 171) := rfl
theorem g12_36  {g : Nat → Int} : fget (l12  g) 36 = some (vr 172) := rfl
theorem g12_37  {g : Nat → Int} : fget (l12  g) 37 = some (vr 173) := rfl
theorem g12_38  {g : Nat → Int} : fget (l12  g) 38 = some (vr 174) := rfl
theorem g12_39  {g : Nat → Int} : fget (l12  g) 39 = some (vr 175) := rfl
theorem g12_40  {g : Nat → Int} : fget (l12  g) 40 = some (vr 176) := rfl
theorem g12_41  {g : Nat → Int} : fget (l12  g) 41 = some (vr 177) := rfl
theorem g12_42  {g : Nat → Int} : fget (l12  g) 42 = some (vr 178) := rfl
theorem g12_43  {g : Nat → Int} : fget (l12  g) 43 = some (vr 179) := rfl
theorem g12_44  {g : Nat → Int} : fget (l12  g) 44 = some (vr 180) := rfl
theorem g12_45  {g : Nat → Int} : fget (l12  g) 45 = some (vr 181) := rfl
theorem g12_46  {g : Nat → Int} : fget (l12  g) 46 = some (vr 182) := rfl
theorem g12_47  {g : Nat → Int} : fget (l12  g) 47 = some (vr 183) := rfl
theorem g12_48  {g : Nat → Int} : fget (l12  g) 48 = some (vr 184) := rfl
theorem g12_49  {g : Nat → Int} : fget (l12  g) 49 = some (vr 185) := rfl
theorem g12_50  {g : Nat → Int} : fget (l12  g) 50 = some (vr 186) := rfl
theorem g12_51  {g : Nat → Int} : fget (l12  g) 51 = some (vr 187) := rfl
theorem g12_52  {g : Nat → Int} : fget (l12  g) 52 = some (vr 188) := rfl
theorem g12_53  {g : Nat → Int} : fget (l12  g) 53 = some (vr 189) := rfl
theorem g12_54  {g : Nat → Int} : fget (l12  g) 54 = some (vr 190) := rfl
theorem g12_55  {g : Nat → Int} : fget (l12  g) 55 = some (vr 191) := rfl
theorem g12_56  {g : Nat → Int} : fget (l12  g) 56 = some (vi (g 56)) := rfl
theorem g12_57  {g : Nat → Int} : fget (l12  g) 57 = some (vi (g 57)) := rfl
theorem p12_0  {g : Nat → Int} {z : Int} : fset (l12  g) 0 (vi z) = l12  (fu g 0 z) := rfl
theorem b12_0  {g : Nat → Int} {W : AW} {a : Nat} : ob (wu W a (o12  g)) a 0 = g 0 := by
  unfold ob
  rw [wu_s]
  rfl
theorem d12_0  {g : Nat → Int} {W : AW} {a : Nat} (h : W.2 a = o12  g) : ob W a 0 = g 0 := by
  unfold ob
  rw [h]
  rfl
theorem p12_1  {g : Nat → Int} {z : Int} : fset (l12  g) 1 (vi z) = l12  (fu g 1 z) := rfl
theorem b12_1  {g : Nat → Int} {W : AW} {a : Nat} : ob (wu W a (o12  g)) a 1 = g 1 := by
  unfold ob
  rw [wu_s]
  rfl
theorem d12_1  {g : Nat → Int} {W : AW} {a : Nat} (h : W.2 a = o12  g) : ob W a 1 = g 1 := by
  unfold ob
  rw [h]
  rfl
theorem p12_20  {g : Nat → Int} {z : Int} : fset (l12  g) 20 (vi z) = l12  (fu g 20 z) := rfl
theorem b12_20  {g : Nat → Int} {W : AW} {a : Nat} : ob (wu W a (o12  g)) a 20 = g 20 := by
  unfold ob
  rw [wu_s]
  rfl
theorem d12_20  {g : Nat → Int} {W : AW} {a : Nat} (h : W.2 a = o12  g) : ob W a 20 = g 20 := by
  unfold ob
  rw [h]
  rfl
theorem p12_21  {g : Nat → Int} {z : Int} : fset (l12  g) 21 (vi z) = l12  (fu g 21 z) := rfl
theorem b12_21  {g : Nat → Int} {W : AW} {a : Nat} : ob (wu W a (o12  g)) a 21 = g 21 := by
  unfold ob
  rw [wu_s]
  rfl
theorem d12_21  {g : Nat → Int} {W : AW} {a : Nat} (h : W.2 a = o12  g) : ob W a 21 = g 21 := by
  unfold ob
  rw [h]
  rfl
theorem p12_22  {g : Nat → Int} {z : Int} : fset (l12  g) 22 (vi z) = l12  (fu g 22 z) := rfl
theorem b12_22  {g : Nat → Int} {W : AW} {a : Nat} : ob (wu W a (o12  g)) a 22 = g 22 := by
  unfold ob
  rw [wu_s]
  rfl
theorem d12_22  {g : Nat → Int} {W : AW} {a : Nat} (h : W.2 a = o12  g) : ob W a 22 = g 22 := by
  unfold ob
  rw [h]
  rfl
theorem p12_23  {g : Nat → Int} {z : Int} : fset (l12  g) 23 (vi z) = l12  (fu g 23 z) := rfl
theorem b12_23  {g : Nat → Int} {W : AW} {a : Nat} : ob (wu W a (o12  g)) a 23 = g 23 := by
  unfold ob
  rw [wu_s]
  rfl
theorem d12_23  {g : Nat → Int} {W : AW} {a : Nat} (h : W.2 a = o12  g) : ob W a 23 = g 23 := by
  unfold ob
  rw [h]
  rfl
theorem p12_24  {g : Nat → Int} {z : Int} : fset (l12  g) 24 (vi z) = l12  (fu g 24 z) := rfl
theorem b12_24  {g : Nat → Int} {W : AW} {a : Nat} : ob (wu W a (o12  g)) a 24 = g 24 := by
  unfold ob
  rw [wu_s]
  rfl
theorem d12_24  {g : Nat → Int} {W : AW} {a : Nat} (h : W.2 a = o12  g) : ob W a 24 = g 24 := by
  unfold ob
  rw [h]
  rfl
theorem p12_25  {g : Nat → Int} {z : Int} : fset (l12  g) 25 (vi z) = l12  (fu g 25 z) := rfl
theorem b12_25  {g : Nat → Int} {W : AW} {a : Nat} : ob (wu W a (o12  g)) a 25 = g 25 := by
  unfold ob
  rw [wu_s]
  rfl
theorem d12_25  {g : Nat → Int} {W : AW} {a : Nat} (h : W.2 a = o12  g) : ob W a 25 = g 25 := by
  unfold ob
  rw [h]
  rfl
theorem p12_26  {g : Nat → Int} {z : Int} : fset (l12  g) 26 (vi z) = l12  (fu g 26 z) := rfl
theorem b12_26  {g : Nat → Int} {W : AW} {a : Nat} : ob (wu W a (o12  g)) a 26 = g 26 := by
  unfold ob
  rw [wu_s]
  rfl
theorem d12_26  {g : Nat → Int} {W : AW} {a : Nat} (h : W.2 a = o12  g) : ob W a 26 = g 26 := by
  unfold ob
  rw [h]
  rfl
theorem p12_27  {g : Nat → Int} {z : Int} : fset (l12  g) 27 (vi z) = l12  (fu g 27 z) := rfl
theorem b12_27  {g : Nat → Int} {W : AW} {a : Nat} : ob (wu W a (o12  g)) a 27 = g 27 := by
  unfold ob
  rw [wu_s]
  rfl
theorem d12_27  {g : Nat → Int} {W : AW} {a : Nat} (h : W.2 a = o12  g) : ob W a 27 = g 27 := by
  unfold ob
  rw [h]
  rfl
theorem p12_28  {g : Nat → Int} {z : Int} : fset (l12  g) 28 (vi z) = l12  (fu g 28 z) := rfl
theorem b12_28  {g : Nat → Int} {W : AW} {a : Nat} : ob (wu W a (o12  g)) a 28 = g 28 := by
  unfold ob
  rw [wu_s]
  rfl
theorem d12_28  {g : Nat → Int} {W : AW} {a : Nat} (h : W.2 a = o12  g) : ob W a 28 = g 28 := by
  unfold ob
  rw [h]
  rfl
theorem p12_29  {g : Nat → Int} {z : Int} : fset (l12  g) 29 (vi z) = l12  (fu g 29 z) := rfl
theorem b12_29  {g : Nat → Int} {W : AW} {a : Nat} : ob (wu W a (o12  g)) a 29 = g 29 := by
  unfold ob
  rw [wu_s]
  rfl
theorem d12_29  {g : Nat → Int} {W : AW} {a : Nat} (h : W.2 a = o12  g) : ob W a 29 = g 29 := by
  unfold ob
  rw [h]
  rfl
theorem p12_30  {g : Nat → Int} {z : Int} : fset (l12  g) 30 (vi z) = l12  (fu g 30 z) := rfl
theorem b12_30  {g : Nat → Int} {W : AW} {a : Nat} : ob (wu W a (o12  g)) a 30 = g 30 := by
  unfold ob
  rw [wu_s]
  rfl
theorem d12_30  {g : Nat → Int} {W : AW} {a : Nat} (h : W.2 a = o12  g) : ob W a 30 = g 30 := by
  unfold ob
  rw [h]
  rfl
theorem p12_56  {g : Nat → Int} {z : Int} : fset (l12  g) 56 (vi z) = l12  (fu g 56 z) := rfl
theorem b12_56  {g : Nat → Int} {W : AW} {a : Nat} : ob (wu W a (o12  g)) a 56 = g 56 := by
  unfold ob
  rw [wu_s]
  rfl
theorem d12_56  {g : Nat → Int} {W : AW} {a : Nat} (h : W.2 a = o12  g) : ob W a 56 = g 56 := by
  unfold ob
  rw [h]
  rfl
theorem p12_57  {g : Nat → Int} {z : Int} : fset (l12  g) 57 (vi z) = l12  (fu g 57 z) := rfl
theorem b12_57  {g : Nat → Int} {W : AW} {a : Nat} : ob (wu W a (o12  g)) a 57 = g 57 := by
  unfold ob
  rw [wu_s]
  rfl
theorem d12_57  {g : Nat → Int} {W : AW} {a : Nat} (h : W.2 a = o12  g) : ob W a 57 = g 57 := by
  unfold ob
  rw [h]
  rfl
theorem l12_e  {g g2 : Nat → Int} (h0 : g 0 = g2 0) (h1 : g 1 = g2 1) (h20 : g 20 = g2 20) (h21 : g 21 = g2 21) (h22 : g 22 = g2 22) (h23 : g 23 = g2 23) (h24 : g 24 = g2 24) (h25 : g 25 = g2 25) (h26 : g 26 = g2 26) (h27 : g 27 = g2 27) (h28 : g 28 = g2 28) (h29 : g 29 = g2 29) (h30 : g 30 = g2 30) (h56 : g 56 = g2 56) (h57 : g 57 = g2 57) : l12  g = l12  g2 := by
  unfold l12
  rw [h0, h1, h20, h21, h22, h23, h24, h25, h26, h27, h28, h29, h30, h56, h57]
theorem q12  {g : Nat → Int} {W : AW} {a : Nat} (h : W.2 a = o12  g) : W.2 a = o12  (ob W a) := h.trans (congrArg (fun l => eo 12 l) (l12_e (d12_0 h).symm (d12_1 h).symm (d12_20 h).symm (d12_21 h).symm (d12_22 h).symm (d12_23 h).symm (d12_24 h).symm (d12_25 h).symm (d12_26 h).symm (d12_27 h).symm (d12_28 h).symm (d12_29 h).symm (d12_30 h).symm (d12_56 h).symm (d12_57 h).symm))
theorem p10_4 {mm ll x : Nat} {g : Nat → Int} : fset (l10 mm ll g) 4 (vr x) = l10 x ll g := rfl
theorem p10_5 {mm ll x : Nat} {g : Nat → Int} : fset (l10 mm ll g) 5 (vr x) = l10 mm x g := rfl
def Tb (tb : List (Nat × Nat × Nat)) (W : AW) : Prop := ∀ p ∈ tb, W.2 p.1 = ea p.2.1 p.2.2 (ar W p.1)
theorem Tb.up {tb : List (Nat × Nat × Nat)} {W : AW} (h : Tb tb W) {k t n : Nat} {f : Nat → Int} (hk : ∀ p ∈ tb, p.1 = k → p.2.1 = t ∧ p.2.2 = n) : Tb tb (wu W k (ea t n f)) := fun p hp => by
  by_cases e : p.1 = k
  · obtain ⟨a, b⟩ := hk p hp e
    rw [e, wu_s, ar_s, a, b]
  · rw [wu_ne e, ar_n e]
    exact h p hp
theorem Tb.ot {tb : List (Nat × Nat × Nat)} {W : AW} (h : Tb tb W) {k : Nat} {e : AE} (hk : ∀ p ∈ tb, p.1 ≠ k) : Tb tb (wu W k e) := fun p hp => by
  rw [wu_ne (hk p hp), ar_n (hk p hp)]
  exact h p hp
theorem Tb.cg {tb : List (Nat × Nat × Nat)} {W W' : AW} (h : Tb tb W) (hk : ∀ p ∈ tb, W'.2 p.1 = W.2 p.1) : Tb tb W' := fun p hp => by
  rw [hk p hp, ar_c (hk p hp)]
  exact h p hp
theorem wu_1 {W : AW} {k : Nat} {e : AE} : (wu W k e).1 = W.1 := rfl
def rtab : List (Nat × Nat × Nat) := [(149, 0, 8), (150, 0, 400), (151, 0, 100), (152, 0, 100), (153, 0, 180), (154, 0, 180), (155, 0, 180), (156, 0, 180), (157, 0, 180), (158, 0, 200), (159, 0, 200), (160, 0, 200), (161, 0, 400), (162, 0, 400), (163, 0, 400), (164, 0, 420), (165, 0, 6), (166, 0, 6), (167, 1, 400), (168, 0, 4800), (169, 0, 4800), (170, 0, 16), (171, 0, 192), (172, 0, 192), (173, 0, 192), (174, 0, 192), (175, 0, 192), (176, 0, 402), (177, 3, 11), (178, 3, 300), (179, 0, 100), (180, 0, 100), (181, 0, 100), (182, 0, 100), (183, 0, 12), (184, 2, 100), (185, 2, 10000), (186, 2, 200), (187, 0, 200), (188, 0, 18800), (189, 0, 180), (190, 0, 180), (191, 2, 5)]
/-- the reference's cells -/
def RS (W : AW) : Prop := 192 ≤ W.1 ∧ W.2 148 = o12 (ob W 148) ∧ Tb rtab W
theorem rtab_b : ∀ p ∈ rtab, 149 ≤ p.1 ∧ p.1 < 192 := by decide
theorem RS.cg {W W' : AW} (h : RS W) (hw : W.1 ≤ W'.1) (hk : ∀ k, 148 ≤ k → k < 192 → W'.2 k = W.2 k) : RS W' :=
  ⟨Nat.le_trans h.1 hw, by rw [hk 148 (by decide) (by decide), ob_c (hk 148 (by decide) (by decide))]; exact h.2.1, h.2.2.cg (fun p hp => hk _ (by have := rtab_b p hp; omega) (rtab_b p hp).2)⟩
theorem RS.ot {W : AW} (h : RS W) {k : Nat} {e : AE} (hk : k < 148 ∨ 192 ≤ k) : RS (wu W k e) := h.cg (Nat.le_refl _) (fun j a b => wu_ne (by omega))
theorem ru_148 {W : AW} (h : RS W) {g : Nat → Int} : RS (wu W 148 (o12 g)) := ⟨h.1, q12 wu_s, h.2.2.ot (fun p hp e => by have := rtab_b p hp; omega)⟩
theorem ra_148 {W : AW} (h : RS W) : W.2 148 = o12 (ob W 148) := h.2.1
theorem RS.w {W : AW} (h : RS W) {k : Nat} (hk : k < 192) : k < W.1 := Nat.lt_of_lt_of_le hk h.1
theorem ra_149 {W : AW} (h : RS W) : W.2 149 = ea 0 8 (ar W 149) := h.2.2 (149, 0, 8) (by decide)
theorem ru_149 {W : AW} (h : RS W) {f : Nat → Int} : RS (wu W 149 (ea 0 8 f)) := ⟨h.1, by rw [wu_ne (by decide), ob_n (by decide)]; exact h.2.1, h.2.2.up (by decide)⟩
theorem ra_150 {W : AW} (h : RS W) : W.2 150 = ea 0 400 (ar W 150) := h.2.2 (150, 0, 400) (by decide)
theorem ru_150 {W : AW} (h : RS W) {f : Nat → Int} : RS (wu W 150 (ea 0 400 f)) := ⟨h.1, by rw [wu_ne (by decide), ob_n (by decide)]; exact h.2.1, h.2.2.up (by decide)⟩
theorem ra_151 {W : AW} (h : RS W) : W.2 151 = ea 0 100 (ar W 151) := h.2.2 (151, 0, 100) (by decide)
theorem ru_151 {W : AW} (h : RS W) {f : Nat → Int} : RS (wu W 151 (ea 0 100 f)) := ⟨h.1, by rw [wu_ne (by decide), ob_n (by decide)]; exact h.2.1, h.2.2.up (by decide)⟩
theorem ra_152 {W : AW} (h : RS W) : W.2 152 = ea 0 100 (ar W 152) := h.2.2 (152, 0, 100) (by decide)
theorem ru_152 {W : AW} (h : RS W) {f : Nat → Int} : RS (wu W 152 (ea 0 100 f)) := ⟨h.1, by rw [wu_ne (by decide), ob_n (by decide)]; exact h.2.1, h.2.2.up (by decide)⟩
theorem ra_153 {W : AW} (h : RS W) : W.2 153 = ea 0 180 (ar W 153) := h.2.2 (153, 0, 180) (by decide)
theorem ru_153 {W : AW} (h : RS W) {f : Nat → Int} : RS (wu W 153 (ea 0 180 f)) := ⟨h.1, by rw [wu_ne (by decide), ob_n (by decide)]; exact h.2.1, h.2.2.up (by decide)⟩
theorem ra_154 {W : AW} (h : RS W) : W.2 154 = ea 0 180 (ar W 154) := h.2.2 (154, 0, 180) (by decide)
theorem ru_154 {W : AW} (h : RS W) {f : Nat → Int} : RS (wu W 154 (ea 0 180 f)) := ⟨h.1, by rw [wu_ne (by decide), ob_n (by decide)]; exact h.2.1, h.2.2.up (by decide)⟩
theorem ra_155 {W : AW} (h : RS W) : W.2 155 = ea 0 180 (ar W 155) := h.2.2 (155, 0, 180) (by decide)
theorem ru_155 {W : AW} (h : RS W) {f : Nat → Int} : RS (wu W 155 (ea 0 180 f)) := ⟨h.1, by rw [wu_ne (by decide), ob_n (by decide)]; exact h.2.1, h.2.2.up (by decide)⟩
theorem ra_156 {W : AW} (h : RS W) : W.2 156 = ea 0 180 (ar W 156) := h.2.2 (156, 0, 180) (by decide)
theorem ru_156 {W : AW} (h : RS W) {f : Nat → Int} : RS (wu W 156 (ea 0 180 f)) := ⟨h.1, by rw [wu_ne (by decide), ob_n (by decide)]; exact h.2.1, h.2.2.up (by decide)⟩
theorem ra_157 {W : AW} (h : RS W) : W.2 157 = ea 0 180 (ar W 157) := h.2.2 (157, 0, 180) (by decide)
theorem ru_157 {W : AW} (h : RS W) {f : Nat → Int} : RS (wu W 157 (ea 0 180 f)) := ⟨h.1, by rw [wu_ne (by decide), ob_n (by decide)]; exact h.2.1, h.2.2.up (by decide)⟩
theorem ra_158 {W : AW} (h : RS W) : W.2 158 = ea 0 200 (ar W 158) := h.2.2 (158, 0, 200) (by decide)
theorem ru_158 {W : AW} (h : RS W) {f : Nat → Int} : RS (wu W 158 (ea 0 200 f)) := ⟨h.1, by rw [wu_ne (by decide), ob_n (by decide)]; exact h.2.1, h.2.2.up (by decide)⟩
theorem ra_159 {W : AW} (h : RS W) : W.2 159 = ea 0 200 (ar W 159) := h.2.2 (159, 0, 200) (by decide)
theorem ru_159 {W : AW} (h : RS W) {f : Nat → Int} : RS (wu W 159 (ea 0 200 f)) := ⟨h.1, by rw [wu_ne (by decide), ob_n (by decide)]; exact h.2.1, h.2.2.up (by decide)⟩
theorem ra_160 {W : AW} (h : RS W) : W.2 160 = ea 0 200 (ar W 160) := h.2.2 (160, 0, 200) (by decide)
theorem ru_160 {W : AW} (h : RS W) {f : Nat → Int} : RS (wu W 160 (ea 0 200 f)) := ⟨h.1, by rw [wu_ne (by decide), ob_n (by decide)]; exact h.2.1, h.2.2.up (by decide)⟩
theorem ra_161 {W : AW} (h : RS W) : W.2 161 = ea 0 400 (ar W 161) := h.2.2 (161, 0, 400) (by decide)
theorem ru_161 {W : AW} (h : RS W) {f : Nat → Int} : RS (wu W 161 (ea 0 400 f)) := ⟨h.1, by rw [wu_ne (by decide), ob_n (by decide)]; exact h.2.1, h.2.2.up (by decide)⟩
theorem ra_162 {W : AW} (h : RS W) : W.2 162 = ea 0 400 (ar W 162) := h.2.2 (162, 0, 400) (by decide)
theorem ru_162 {W : AW} (h : RS W) {f : Nat → Int} : RS (wu W 162 (ea 0 400 f)) := ⟨h.1, by rw [wu_ne (by decide), ob_n (by decide)]; exact h.2.1, h.2.2.up (by decide)⟩
theorem ra_163 {W : AW} (h : RS W) : W.2 163 = ea 0 400 (ar W 163) := h.2.2 (163, 0, 400) (by decide)
theorem ru_163 {W : AW} (h : RS W) {f : Nat → Int} : RS (wu W 163 (ea 0 400 f)) := ⟨h.1, by rw [wu_ne (by decide), ob_n (by decide)]; exact h.2.1, h.2.2.up (by decide)⟩
theorem ra_164 {W : AW} (h : RS W) : W.2 164 = ea 0 420 (ar W 164) := h.2.2 (164, 0, 420) (by decide)
theorem ru_164 {W : AW} (h : RS W) {f : Nat → Int} : RS (wu W 164 (ea 0 420 f)) := ⟨h.1, by rw [wu_ne (by decide), ob_n (by decide)]; exact h.2.1, h.2.2.up (by decide)⟩
theorem ra_165 {W : AW} (h : RS W) : W.2 165 = ea 0 6 (ar W 165) := h.2.2 (165, 0, 6) (by decide)
theorem ru_165 {W : AW} (h : RS W) {f : Nat → Int} : RS (wu W 165 (ea 0 6 f)) := ⟨h.1, by rw [wu_ne (by decide), ob_n (by decide)]; exact h.2.1, h.2.2.up (by decide)⟩
theorem ra_166 {W : AW} (h : RS W) : W.2 166 = ea 0 6 (ar W 166) := h.2.2 (166, 0, 6) (by decide)
theorem ru_166 {W : AW} (h : RS W) {f : Nat → Int} : RS (wu W 166 (ea 0 6 f)) := ⟨h.1, by rw [wu_ne (by decide), ob_n (by decide)]; exact h.2.1, h.2.2.up (by decide)⟩
theorem ra_167 {W : AW} (h : RS W) : W.2 167 = ea 1 400 (ar W 167) := h.2.2 (167, 1, 400) (by decide)
theorem ru_167 {W : AW} (h : RS W) {f : Nat → Int} : RS (wu W 167 (ea 1 400 f)) := ⟨h.1, by rw [wu_ne (by decide), ob_n (by decide)]; exact h.2.1, h.2.2.up (by decide)⟩
theorem ra_168 {W : AW} (h : RS W) : W.2 168 = ea 0 4800 (ar W 168) := h.2.2 (168, 0, 4800) (by decide)
theorem ru_168 {W : AW} (h : RS W) {f : Nat → Int} : RS (wu W 168 (ea 0 4800 f)) := ⟨h.1, by rw [wu_ne (by decide), ob_n (by decide)]; exact h.2.1, h.2.2.up (by decide)⟩
theorem ra_169 {W : AW} (h : RS W) : W.2 169 = ea 0 4800 (ar W 169) := h.2.2 (169, 0, 4800) (by decide)
theorem ru_169 {W : AW} (h : RS W) {f : Nat → Int} : RS (wu W 169 (ea 0 4800 f)) := ⟨h.1, by rw [wu_ne (by decide), ob_n (by decide)]; exact h.2.1, h.2.2.up (by decide)⟩
theorem ra_170 {W : AW} (h : RS W) : W.2 170 = ea 0 16 (ar W 170) := h.2.2 (170, 0, 16) (by decide)
theorem ru_170 {W : AW} (h : RS W) {f : Nat → Int} : RS (wu W 170 (ea 0 16 f)) := ⟨h.1, by rw [wu_ne (by decide), ob_n (by decide)]; exact h.2.1, h.2.2.up (by decide)⟩
theorem ra_171 {W : AW} (h : RS W) : W.2 171 = ea 0 192 (ar W 171) := h.2.2 (171, 0, 192) (by decide)
theorem ru_171 {W : AW} (h : RS W) {f : Nat → Int} : RS (wu W 171 (ea 0 192 f)) := ⟨h.1, by rw [wu_ne (by decide), ob_n (by decide)]; exact h.2.1, h.2.2.up (by decide)⟩
theorem ra_172 {W : AW} (h : RS W) : W.2 172 = ea 0 192 (ar W 172) := h.2.2 (172, 0, 192) (by decide)
theorem ru_172 {W : AW} (h : RS W) {f : Nat → Int} : RS (wu W 172 (ea 0 192 f)) := ⟨h.1, by rw [wu_ne (by decide), ob_n (by decide)]; exact h.2.1, h.2.2.up (by decide)⟩
theorem ra_173 {W : AW} (h : RS W) : W.2 173 = ea 0 192 (ar W 173) := h.2.2 (173, 0, 192) (by decide)
theorem ru_173 {W : AW} (h : RS W) {f : Nat → Int} : RS (wu W 173 (ea 0 192 f)) := ⟨h.1, by rw [wu_ne (by decide), ob_n (by decide)]; exact h.2.1, h.2.2.up (by decide)⟩
theorem ra_174 {W : AW} (h : RS W) : W.2 174 = ea 0 192 (ar W 174) := h.2.2 (174, 0, 192) (by decide)
theorem ru_174 {W : AW} (h : RS W) {f : Nat → Int} : RS (wu W 174 (ea 0 192 f)) := ⟨h.1, by rw [wu_ne (by decide), ob_n (by decide)]; exact h.2.1, h.2.2.up (by decide)⟩
theorem ra_175 {W : AW} (h : RS W) : W.2 175 = ea 0 192 (ar W 175) := h.2.2 (175, 0, 192) (by decide)
theorem ru_175 {W : AW} (h : RS W) {f : Nat → Int} : RS (wu W 175 (ea 0 192 f)) := ⟨h.1, by rw [wu_ne (by decide), ob_n (by decide)]; exact h.2.1, h.2.2.up (by decide)⟩
theorem ra_176 {W : AW} (h : RS W) : W.2 176 = ea 0 402 (ar W 176) := h.2.2 (176, 0, 402) (by decide)
theorem ru_176 {W : AW} (h : RS W) {f : Nat → Int} : RS (wu W 176 (ea 0 402 f)) := ⟨h.1, by rw [wu_ne (by decide), ob_n (by decide)]; exact h.2.1, h.2.2.up (by decide)⟩
theorem ra_177 {W : AW} (h : RS W) : W.2 177 = ea 3 11 (ar W 177) := h.2.2 (177, 3, 11) (by decide)
theorem ru_177 {W : AW} (h : RS W) {f : Nat → Int} : RS (wu W 177 (ea 3 11 f)) := ⟨h.1, by rw [wu_ne (by decide), ob_n (by decide)]; exact h.2.1, h.2.2.up (by decide)⟩
theorem ra_178 {W : AW} (h : RS W) : W.2 178 = ea 3 300 (ar W 178) := h.2.2 (178, 3, 300) (by decide)
theorem ru_178 {W : AW} (h : RS W) {f : Nat → Int} : RS (wu W 178 (ea 3 300 f)) := ⟨h.1, by rw [wu_ne (by decide), ob_n (by decide)]; exact h.2.1, h.2.2.up (by decide)⟩
theorem ra_179 {W : AW} (h : RS W) : W.2 179 = ea 0 100 (ar W 179) := h.2.2 (179, 0, 100) (by decide)
theorem ru_179 {W : AW} (h : RS W) {f : Nat → Int} : RS (wu W 179 (ea 0 100 f)) := ⟨h.1, by rw [wu_ne (by decide), ob_n (by decide)]; exact h.2.1, h.2.2.up (by decide)⟩
theorem ra_180 {W : AW} (h : RS W) : W.2 180 = ea 0 100 (ar W 180) := h.2.2 (180, 0, 100) (by decide)
theorem ru_180 {W : AW} (h : RS W) {f : Nat → Int} : RS (wu W 180 (ea 0 100 f)) := ⟨h.1, by rw [wu_ne (by decide), ob_n (by decide)]; exact h.2.1, h.2.2.up (by decide)⟩
theorem ra_181 {W : AW} (h : RS W) : W.2 181 = ea 0 100 (ar W 181) := h.2.2 (181, 0, 100) (by decide)
theorem ru_181 {W : AW} (h : RS W) {f : Nat → Int} : RS (wu W 181 (ea 0 100 f)) := ⟨h.1, by rw [wu_ne (by decide), ob_n (by decide)]; exact h.2.1, h.2.2.up (by decide)⟩
theorem ra_182 {W : AW} (h : RS W) : W.2 182 = ea 0 100 (ar W 182) := h.2.2 (182, 0, 100) (by decide)
theorem ru_182 {W : AW} (h : RS W) {f : Nat → Int} : RS (wu W 182 (ea 0 100 f)) := ⟨h.1, by rw [wu_ne (by decide), ob_n (by decide)]; exact h.2.1, h.2.2.up (by decide)⟩
theorem ra_183 {W : AW} (h : RS W) : W.2 183 = ea 0 12 (ar W 183) := h.2.2 (183, 0, 12) (by decide)
theorem ru_183 {W : AW} (h : RS W) {f : Nat → Int} : RS (wu W 183 (ea 0 12 f)) := ⟨h.1, by rw [wu_ne (by decide), ob_n (by decide)]; exact h.2.1, h.2.2.up (by decide)⟩
theorem ra_184 {W : AW} (h : RS W) : W.2 184 = ea 2 100 (ar W 184) := h.2.2 (184, 2, 100) (by decide)
theorem ru_184 {W : AW} (h : RS W) {f : Nat → Int} : RS (wu W 184 (ea 2 100 f)) := ⟨h.1, by rw [wu_ne (by decide), ob_n (by decide)]; exact h.2.1, h.2.2.up (by decide)⟩
theorem ra_185 {W : AW} (h : RS W) : W.2 185 = ea 2 10000 (ar W 185) := h.2.2 (185, 2, 10000) (by decide)
theorem ru_185 {W : AW} (h : RS W) {f : Nat → Int} : RS (wu W 185 (ea 2 10000 f)) := ⟨h.1, by rw [wu_ne (by decide), ob_n (by decide)]; exact h.2.1, h.2.2.up (by decide)⟩
theorem ra_186 {W : AW} (h : RS W) : W.2 186 = ea 2 200 (ar W 186) := h.2.2 (186, 2, 200) (by decide)
theorem ru_186 {W : AW} (h : RS W) {f : Nat → Int} : RS (wu W 186 (ea 2 200 f)) := ⟨h.1, by rw [wu_ne (by decide), ob_n (by decide)]; exact h.2.1, h.2.2.up (by decide)⟩
theorem ra_187 {W : AW} (h : RS W) : W.2 187 = ea 0 200 (ar W 187) := h.2.2 (187, 0, 200) (by decide)
theorem ru_187 {W : AW} (h : RS W) {f : Nat → Int} : RS (wu W 187 (ea 0 200 f)) := ⟨h.1, by rw [wu_ne (by decide), ob_n (by decide)]; exact h.2.1, h.2.2.up (by decide)⟩
theorem ra_188 {W : AW} (h : RS W) : W.2 188 = ea 0 18800 (ar W 188) := h.2.2 (188, 0, 18800) (by decide)
theorem ru_188 {W : AW} (h : RS W) {f : Nat → Int} : RS (wu W 188 (ea 0 18800 f)) := ⟨h.1, by rw [wu_ne (by decide), ob_n (by decide)]; exact h.2.1, h.2.2.up (by decide)⟩
theorem ra_189 {W : AW} (h : RS W) : W.2 189 = ea 0 180 (ar W 189) := h.2.2 (189, 0, 180) (by decide)
theorem ru_189 {W : AW} (h : RS W) {f : Nat → Int} : RS (wu W 189 (ea 0 180 f)) := ⟨h.1, by rw [wu_ne (by decide), ob_n (by decide)]; exact h.2.1, h.2.2.up (by decide)⟩
theorem ra_190 {W : AW} (h : RS W) : W.2 190 = ea 0 180 (ar W 190) := h.2.2 (190, 0, 180) (by decide)
theorem ru_190 {W : AW} (h : RS W) {f : Nat → Int} : RS (wu W 190 (ea 0 180 f)) := ⟨h.1, by rw [wu_ne (by decide), ob_n (by decide)]; exact h.2.1, h.2.2.up (by decide)⟩
theorem ra_191 {W : AW} (h : RS W) : W.2 191 = ea 2 5 (ar W 191) := h.2.2 (191, 2, 5) (by decide)
theorem ru_191 {W : AW} (h : RS W) {f : Nat → Int} : RS (wu W 191 (ea 2 5 f)) := ⟨h.1, by rw [wu_ne (by decide), ob_n (by decide)]; exact h.2.1, h.2.2.up (by decide)⟩
/-- a floor's cells -/
def MS (W : AW) (m : Nat) : Prop := W.2 m = o2 m (ob W m) ∧ W.2 (m + 9) = o7 (m + 9) (ob W (m + 9)) ∧ W.2 (m + 1) = ea 0 400 (ar W (m + 1)) ∧ W.2 (m + 2) = ea 0 100 (ar W (m + 2)) ∧ W.2 (m + 3) = ea 0 100 (ar W (m + 3)) ∧ W.2 (m + 4) = ea 0 180 (ar W (m + 4)) ∧ W.2 (m + 5) = ea 0 180 (ar W (m + 5)) ∧ W.2 (m + 6) = ea 0 180 (ar W (m + 6)) ∧ W.2 (m + 7) = ea 0 180 (ar W (m + 7)) ∧ W.2 (m + 8) = ea 0 180 (ar W (m + 8)) ∧ W.2 (m + 10) = ea 0 200 (ar W (m + 10)) ∧ W.2 (m + 11) = ea 0 200 (ar W (m + 11)) ∧ W.2 (m + 12) = ea 0 200 (ar W (m + 12)) ∧ W.2 (m + 13) = ea 0 200 (ar W (m + 13)) ∧ W.2 (m + 14) = ea 0 400 (ar W (m + 14)) ∧ W.2 (m + 15) = ea 0 400 (ar W (m + 15)) ∧ W.2 (m + 16) = ea 0 400 (ar W (m + 16))
theorem MS.cg {W W' : AW} {m : Nat} (h : MS W m) (hk : ∀ k, k ≤ 16 → W'.2 (m + k) = W.2 (m + k)) : MS W' m := by
  have hm : W'.2 m = W.2 m := hk 0 (by decide)
  unfold MS at h ⊢
  rw [hm, ob_c hm, hk 9 (by decide), ob_c (hk 9 (by decide)), hk 1 (by decide), ar_c (hk 1 (by decide)), hk 2 (by decide), ar_c (hk 2 (by decide)), hk 3 (by decide), ar_c (hk 3 (by decide)), hk 4 (by decide), ar_c (hk 4 (by decide)), hk 5 (by decide), ar_c (hk 5 (by decide)), hk 6 (by decide), ar_c (hk 6 (by decide)), hk 7 (by decide), ar_c (hk 7 (by decide)), hk 8 (by decide), ar_c (hk 8 (by decide)), hk 10 (by decide), ar_c (hk 10 (by decide)), hk 11 (by decide), ar_c (hk 11 (by decide)), hk 12 (by decide), ar_c (hk 12 (by decide)), hk 13 (by decide), ar_c (hk 13 (by decide)), hk 14 (by decide), ar_c (hk 14 (by decide)), hk 15 (by decide), ar_c (hk 15 (by decide)), hk 16 (by decide), ar_c (hk 16 (by decide))]
  exact h
theorem ma_0 {W : AW} {m : Nat} (h : MS W m) : W.2 m = o2 m (ob W m) := h.1
theorem ma_9 {W : AW} {m : Nat} (h : MS W m) : W.2 (m + 9) = o7 (m + 9) (ob W (m + 9)) := h.2.1
theorem ma_1 {W : AW} {m : Nat} (h : MS W m) : W.2 (m + 1) = ea 0 400 (ar W (m + 1)) := h.2.2.1
theorem ma_2 {W : AW} {m : Nat} (h : MS W m) : W.2 (m + 2) = ea 0 100 (ar W (m + 2)) := h.2.2.2.1
theorem ma_3 {W : AW} {m : Nat} (h : MS W m) : W.2 (m + 3) = ea 0 100 (ar W (m + 3)) := h.2.2.2.2.1
theorem ma_4 {W : AW} {m : Nat} (h : MS W m) : W.2 (m + 4) = ea 0 180 (ar W (m + 4)) := h.2.2.2.2.2.1
theorem ma_5 {W : AW} {m : Nat} (h : MS W m) : W.2 (m + 5) = ea 0 180 (ar W (m + 5)) := h.2.2.2.2.2.2.1
theorem ma_6 {W : AW} {m : Nat} (h : MS W m) : W.2 (m + 6) = ea 0 180 (ar W (m + 6)) := h.2.2.2.2.2.2.2.1
theorem ma_7 {W : AW} {m : Nat} (h : MS W m) : W.2 (m + 7) = ea 0 180 (ar W (m + 7)) := h.2.2.2.2.2.2.2.2.1
theorem ma_8 {W : AW} {m : Nat} (h : MS W m) : W.2 (m + 8) = ea 0 180 (ar W (m + 8)) := h.2.2.2.2.2.2.2.2.2.1
theorem ma_10 {W : AW} {m : Nat} (h : MS W m) : W.2 (m + 10) = ea 0 200 (ar W (m + 10)) := h.2.2.2.2.2.2.2.2.2.2.1
theorem ma_11 {W : AW} {m : Nat} (h : MS W m) : W.2 (m + 11) = ea 0 200 (ar W (m + 11)) := h.2.2.2.2.2.2.2.2.2.2.2.1
theorem ma_12 {W : AW} {m : Nat} (h : MS W m) : W.2 (m + 12) = ea 0 200 (ar W (m + 12)) := h.2.2.2.2.2.2.2.2.2.2.2.2.1
theorem ma_13 {W : AW} {m : Nat} (h : MS W m) : W.2 (m + 13) = ea 0 200 (ar W (m + 13)) := h.2.2.2.2.2.2.2.2.2.2.2.2.2.1
theorem ma_14 {W : AW} {m : Nat} (h : MS W m) : W.2 (m + 14) = ea 0 400 (ar W (m + 14)) := h.2.2.2.2.2.2.2.2.2.2.2.2.2.2.1
theorem ma_15 {W : AW} {m : Nat} (h : MS W m) : W.2 (m + 15) = ea 0 400 (ar W (m + 15)) := h.2.2.2.2.2.2.2.2.2.2.2.2.2.2.2.1
theorem ma_16 {W : AW} {m : Nat} (h : MS W m) : W.2 (m + 16) = ea 0 400 (ar W (m + 16)) := h.2.2.2.2.2.2.2.2.2.2.2.2.2.2.2.2
theorem MS.ot {W : AW} {m : Nat} (h : MS W m) {j : Nat} {e : AE} (hj : j < m ∨ m + 16 < j) : MS (wu W j e) m := h.cg (fun k hk => wu_ne (by omega))
theorem mu_0 {W : AW} {m : Nat} (h : MS W m) {g : Nat → Int} : MS (wu W m (o2 m g)) m := ⟨q2 wu_s, by rw [wu_ne (by omega), ob_n (by omega)]; exact h.2.1, by rw [wu_ne (by omega), ar_n (by omega)]; exact h.2.2.1, by rw [wu_ne (by omega), ar_n (by omega)]; exact h.2.2.2.1, by rw [wu_ne (by omega), ar_n (by omega)]; exact h.2.2.2.2.1, by rw [wu_ne (by omega), ar_n (by omega)]; exact h.2.2.2.2.2.1, by rw [wu_ne (by omega), ar_n (by omega)]; exact h.2.2.2.2.2.2.1, by rw [wu_ne (by omega), ar_n (by omega)]; exact h.2.2.2.2.2.2.2.1, by rw [wu_ne (by omega), ar_n (by omega)]; exact h.2.2.2.2.2.2.2.2.1, by rw [wu_ne (by omega), ar_n (by omega)]; exact h.2.2.2.2.2.2.2.2.2.1, by rw [wu_ne (by omega), ar_n (by omega)]; exact h.2.2.2.2.2.2.2.2.2.2.1, by rw [wu_ne (by omega), ar_n (by omega)]; exact h.2.2.2.2.2.2.2.2.2.2.2.1, by rw [wu_ne (by omega), ar_n (by omega)]; exact h.2.2.2.2.2.2.2.2.2.2.2.2.1, by rw [wu_ne (by omega), ar_n (by omega)]; exact h.2.2.2.2.2.2.2.2.2.2.2.2.2.1, by rw [wu_ne (by omega), ar_n (by omega)]; exact h.2.2.2.2.2.2.2.2.2.2.2.2.2.2.1, by rw [wu_ne (by omega), ar_n (by omega)]; exact h.2.2.2.2.2.2.2.2.2.2.2.2.2.2.2.1, by rw [wu_ne (by omega), ar_n (by omega)]; exact h.2.2.2.2.2.2.2.2.2.2.2.2.2.2.2.2⟩
theorem mu_9 {W : AW} {m : Nat} (h : MS W m) {g : Nat → Int} : MS (wu W (m + 9) (o7 (m + 9) g)) m := ⟨by rw [wu_ne (by omega), ob_n (by omega)]; exact h.1, q7 wu_s, by rw [wu_ne (by omega), ar_n (by omega)]; exact h.2.2.1, by rw [wu_ne (by omega), ar_n (by omega)]; exact h.2.2.2.1, by rw [wu_ne (by omega), ar_n (by omega)]; exact h.2.2.2.2.1, by rw [wu_ne (by omega), ar_n (by omega)]; exact h.2.2.2.2.2.1, by rw [wu_ne (by omega), ar_n (by omega)]; exact h.2.2.2.2.2.2.1, by rw [wu_ne (by omega), ar_n (by omega)]; exact h.2.2.2.2.2.2.2.1, by rw [wu_ne (by omega), ar_n (by omega)]; exact h.2.2.2.2.2.2.2.2.1, by rw [wu_ne (by omega), ar_n (by omega)]; exact h.2.2.2.2.2.2.2.2.2.1, by rw [wu_ne (by omega), ar_n (by omega)]; exact h.2.2.2.2.2.2.2.2.2.2.1, by rw [wu_ne (by omega), ar_n (by omega)]; exact h.2.2.2.2.2.2.2.2.2.2.2.1, by rw [wu_ne (by omega), ar_n (by omega)]; exact h.2.2.2.2.2.2.2.2.2.2.2.2.1, by rw [wu_ne (by omega), ar_n (by omega)]; exact h.2.2.2.2.2.2.2.2.2.2.2.2.2.1, by rw [wu_ne (by omega), ar_n (by omega)]; exact h.2.2.2.2.2.2.2.2.2.2.2.2.2.2.1, by rw [wu_ne (by omega), ar_n (by omega)]; exact h.2.2.2.2.2.2.2.2.2.2.2.2.2.2.2.1, by rw [wu_ne (by omega), ar_n (by omega)]; exact h.2.2.2.2.2.2.2.2.2.2.2.2.2.2.2.2⟩
theorem mu_1 {W : AW} {m : Nat} (h : MS W m) {f : Nat → Int} : MS (wu W (m + 1) (ea 0 400 f)) m := ⟨by rw [wu_ne (by omega), ob_n (by omega)]; exact h.1, by rw [wu_ne (by omega), ob_n (by omega)]; exact h.2.1, by rw [wu_s, ar_s], by rw [wu_ne (by omega), ar_n (by omega)]; exact h.2.2.2.1, by rw [wu_ne (by omega), ar_n (by omega)]; exact h.2.2.2.2.1, by rw [wu_ne (by omega), ar_n (by omega)]; exact h.2.2.2.2.2.1, by rw [wu_ne (by omega), ar_n (by omega)]; exact h.2.2.2.2.2.2.1, by rw [wu_ne (by omega), ar_n (by omega)]; exact h.2.2.2.2.2.2.2.1, by rw [wu_ne (by omega), ar_n (by omega)]; exact h.2.2.2.2.2.2.2.2.1, by rw [wu_ne (by omega), ar_n (by omega)]; exact h.2.2.2.2.2.2.2.2.2.1, by rw [wu_ne (by omega), ar_n (by omega)]; exact h.2.2.2.2.2.2.2.2.2.2.1, by rw [wu_ne (by omega), ar_n (by omega)]; exact h.2.2.2.2.2.2.2.2.2.2.2.1, by rw [wu_ne (by omega), ar_n (by omega)]; exact h.2.2.2.2.2.2.2.2.2.2.2.2.1, by rw [wu_ne (by omega), ar_n (by omega)]; exact h.2.2.2.2.2.2.2.2.2.2.2.2.2.1, by rw [wu_ne (by omega), ar_n (by omega)]; exact h.2.2.2.2.2.2.2.2.2.2.2.2.2.2.1, by rw [wu_ne (by omega), ar_n (by omega)]; exact h.2.2.2.2.2.2.2.2.2.2.2.2.2.2.2.1, by rw [wu_ne (by omega), ar_n (by omega)]; exact h.2.2.2.2.2.2.2.2.2.2.2.2.2.2.2.2⟩
theorem mu_2 {W : AW} {m : Nat} (h : MS W m) {f : Nat → Int} : MS (wu W (m + 2) (ea 0 100 f)) m := ⟨by rw [wu_ne (by omega), ob_n (by omega)]; exact h.1, by rw [wu_ne (by omega), ob_n (by omega)]; exact h.2.1, by rw [wu_ne (by omega), ar_n (by omega)]; exact h.2.2.1, by rw [wu_s, ar_s], by rw [wu_ne (by omega), ar_n (by omega)]; exact h.2.2.2.2.1, by rw [wu_ne (by omega), ar_n (by omega)]; exact h.2.2.2.2.2.1, by rw [wu_ne (by omega), ar_n (by omega)]; exact h.2.2.2.2.2.2.1, by rw [wu_ne (by omega), ar_n (by omega)]; exact h.2.2.2.2.2.2.2.1, by rw [wu_ne (by omega), ar_n (by omega)]; exact h.2.2.2.2.2.2.2.2.1, by rw [wu_ne (by omega), ar_n (by omega)]; exact h.2.2.2.2.2.2.2.2.2.1, by rw [wu_ne (by omega), ar_n (by omega)]; exact h.2.2.2.2.2.2.2.2.2.2.1, by rw [wu_ne (by omega), ar_n (by omega)]; exact h.2.2.2.2.2.2.2.2.2.2.2.1, by rw [wu_ne (by omega), ar_n (by omega)]; exact h.2.2.2.2.2.2.2.2.2.2.2.2.1, by rw [wu_ne (by omega), ar_n (by omega)]; exact h.2.2.2.2.2.2.2.2.2.2.2.2.2.1, by rw [wu_ne (by omega), ar_n (by omega)]; exact h.2.2.2.2.2.2.2.2.2.2.2.2.2.2.1, by rw [wu_ne (by omega), ar_n (by omega)]; exact h.2.2.2.2.2.2.2.2.2.2.2.2.2.2.2.1, by rw [wu_ne (by omega), ar_n (by omega)]; exact h.2.2.2.2.2.2.2.2.2.2.2.2.2.2.2.2⟩
theorem mu_3 {W : AW} {m : Nat} (h : MS W m) {f : Nat → Int} : MS (wu W (m + 3) (ea 0 100 f)) m := ⟨by rw [wu_ne (by omega), ob_n (by omega)]; exact h.1, by rw [wu_ne (by omega), ob_n (by omega)]; exact h.2.1, by rw [wu_ne (by omega), ar_n (by omega)]; exact h.2.2.1, by rw [wu_ne (by omega), ar_n (by omega)]; exact h.2.2.2.1, by rw [wu_s, ar_s], by rw [wu_ne (by omega), ar_n (by omega)]; exact h.2.2.2.2.2.1, by rw [wu_ne (by omega), ar_n (by omega)]; exact h.2.2.2.2.2.2.1, by rw [wu_ne (by omega), ar_n (by omega)]; exact h.2.2.2.2.2.2.2.1, by rw [wu_ne (by omega), ar_n (by omega)]; exact h.2.2.2.2.2.2.2.2.1, by rw [wu_ne (by omega), ar_n (by omega)]; exact h.2.2.2.2.2.2.2.2.2.1, by rw [wu_ne (by omega), ar_n (by omega)]; exact h.2.2.2.2.2.2.2.2.2.2.1, by rw [wu_ne (by omega), ar_n (by omega)]; exact h.2.2.2.2.2.2.2.2.2.2.2.1, by rw [wu_ne (by omega), ar_n (by omega)]; exact h.2.2.2.2.2.2.2.2.2.2.2.2.1, by rw [wu_ne (by omega), ar_n (by omega)]; exact h.2.2.2.2.2.2.2.2.2.2.2.2.2.1, by rw [wu_ne (by omega), ar_n (by omega)]; exact h.2.2.2.2.2.2.2.2.2.2.2.2.2.2.1, by rw [wu_ne (by omega), ar_n (by omega)]; exact h.2.2.2.2.2.2.2.2.2.2.2.2.2.2.2.1, by rw [wu_ne (by omega), ar_n (by omega)]; exact h.2.2.2.2.2.2.2.2.2.2.2.2.2.2.2.2⟩
theorem mu_4 {W : AW} {m : Nat} (h : MS W m) {f : Nat → Int} : MS (wu W (m + 4) (ea 0 180 f)) m := ⟨by rw [wu_ne (by omega), ob_n (by omega)]; exact h.1, by rw [wu_ne (by omega), ob_n (by omega)]; exact h.2.1, by rw [wu_ne (by omega), ar_n (by omega)]; exact h.2.2.1, by rw [wu_ne (by omega), ar_n (by omega)]; exact h.2.2.2.1, by rw [wu_ne (by omega), ar_n (by omega)]; exact h.2.2.2.2.1, by rw [wu_s, ar_s], by rw [wu_ne (by omega), ar_n (by omega)]; exact h.2.2.2.2.2.2.1, by rw [wu_ne (by omega), ar_n (by omega)]; exact h.2.2.2.2.2.2.2.1, by rw [wu_ne (by omega), ar_n (by omega)]; exact h.2.2.2.2.2.2.2.2.1, by rw [wu_ne (by omega), ar_n (by omega)]; exact h.2.2.2.2.2.2.2.2.2.1, by rw [wu_ne (by omega), ar_n (by omega)]; exact h.2.2.2.2.2.2.2.2.2.2.1, by rw [wu_ne (by omega), ar_n (by omega)]; exact h.2.2.2.2.2.2.2.2.2.2.2.1, by rw [wu_ne (by omega), ar_n (by omega)]; exact h.2.2.2.2.2.2.2.2.2.2.2.2.1, by rw [wu_ne (by omega), ar_n (by omega)]; exact h.2.2.2.2.2.2.2.2.2.2.2.2.2.1, by rw [wu_ne (by omega), ar_n (by omega)]; exact h.2.2.2.2.2.2.2.2.2.2.2.2.2.2.1, by rw [wu_ne (by omega), ar_n (by omega)]; exact h.2.2.2.2.2.2.2.2.2.2.2.2.2.2.2.1, by rw [wu_ne (by omega), ar_n (by omega)]; exact h.2.2.2.2.2.2.2.2.2.2.2.2.2.2.2.2⟩
theorem mu_5 {W : AW} {m : Nat} (h : MS W m) {f : Nat → Int} : MS (wu W (m + 5) (ea 0 180 f)) m := ⟨by rw [wu_ne (by omega), ob_n (by omega)]; exact h.1, by rw [wu_ne (by omega), ob_n (by omega)]; exact h.2.1, by rw [wu_ne (by omega), ar_n (by omega)]; exact h.2.2.1, by rw [wu_ne (by omega), ar_n (by omega)]; exact h.2.2.2.1, by rw [wu_ne (by omega), ar_n (by omega)]; exact h.2.2.2.2.1, by rw [wu_ne (by omega), ar_n (by omega)]; exact h.2.2.2.2.2.1, by rw [wu_s, ar_s], by rw [wu_ne (by omega), ar_n (by omega)]; exact h.2.2.2.2.2.2.2.1, by rw [wu_ne (by omega), ar_n (by omega)]; exact h.2.2.2.2.2.2.2.2.1, by rw [wu_ne (by omega), ar_n (by omega)]; exact h.2.2.2.2.2.2.2.2.2.1, by rw [wu_ne (by omega), ar_n (by omega)]; exact h.2.2.2.2.2.2.2.2.2.2.1, by rw [wu_ne (by omega), ar_n (by omega)]; exact h.2.2.2.2.2.2.2.2.2.2.2.1, by rw [wu_ne (by omega), ar_n (by omega)]; exact h.2.2.2.2.2.2.2.2.2.2.2.2.1, by rw [wu_ne (by omega), ar_n (by omega)]; exact h.2.2.2.2.2.2.2.2.2.2.2.2.2.1, by rw [wu_ne (by omega), ar_n (by omega)]; exact h.2.2.2.2.2.2.2.2.2.2.2.2.2.2.1, by rw [wu_ne (by omega), ar_n (by omega)]; exact h.2.2.2.2.2.2.2.2.2.2.2.2.2.2.2.1, by rw [wu_ne (by omega), ar_n (by omega)]; exact h.2.2.2.2.2.2.2.2.2.2.2.2.2.2.2.2⟩
theorem mu_6 {W : AW} {m : Nat} (h : MS W m) {f : Nat → Int} : MS (wu W (m + 6) (ea 0 180 f)) m := ⟨by rw [wu_ne (by omega), ob_n (by omega)]; exact h.1, by rw [wu_ne (by omega), ob_n (by omega)]; exact h.2.1, by rw [wu_ne (by omega), ar_n (by omega)]; exact h.2.2.1, by rw [wu_ne (by omega), ar_n (by omega)]; exact h.2.2.2.1, by rw [wu_ne (by omega), ar_n (by omega)]; exact h.2.2.2.2.1, by rw [wu_ne (by omega), ar_n (by omega)]; exact h.2.2.2.2.2.1, by rw [wu_ne (by omega), ar_n (by omega)]; exact h.2.2.2.2.2.2.1, by rw [wu_s, ar_s], by rw [wu_ne (by omega), ar_n (by omega)]; exact h.2.2.2.2.2.2.2.2.1, by rw [wu_ne (by omega), ar_n (by omega)]; exact h.2.2.2.2.2.2.2.2.2.1, by rw [wu_ne (by omega), ar_n (by omega)]; exact h.2.2.2.2.2.2.2.2.2.2.1, by rw [wu_ne (by omega), ar_n (by omega)]; exact h.2.2.2.2.2.2.2.2.2.2.2.1, by rw [wu_ne (by omega), ar_n (by omega)]; exact h.2.2.2.2.2.2.2.2.2.2.2.2.1, by rw [wu_ne (by omega), ar_n (by omega)]; exact h.2.2.2.2.2.2.2.2.2.2.2.2.2.1, by rw [wu_ne (by omega), ar_n (by omega)]; exact h.2.2.2.2.2.2.2.2.2.2.2.2.2.2.1, by rw [wu_ne (by omega), ar_n (by omega)]; exact h.2.2.2.2.2.2.2.2.2.2.2.2.2.2.2.1, by rw [wu_ne (by omega), ar_n (by omega)]; exact h.2.2.2.2.2.2.2.2.2.2.2.2.2.2.2.2⟩
theorem mu_7 {W : AW} {m : Nat} (h : MS W m) {f : Nat → Int} : MS (wu W (m + 7) (ea 0 180 f)) m := ⟨by rw [wu_ne (by omega), ob_n (by omega)]; exact h.1, by rw [wu_ne (by omega), ob_n (by omega)]; exact h.2.1, by rw [wu_ne (by omega), ar_n (by omega)]; exact h.2.2.1, by rw [wu_ne (by omega), ar_n (by omega)]; exact h.2.2.2.1, by rw [wu_ne (by omega), ar_n (by omega)]; exact h.2.2.2.2.1, by rw [wu_ne (by omega), ar_n (by omega)]; exact h.2.2.2.2.2.1, by rw [wu_ne (by omega), ar_n (by omega)]; exact h.2.2.2.2.2.2.1, by rw [wu_ne (by omega), ar_n (by omega)]; exact h.2.2.2.2.2.2.2.1, by rw [wu_s, ar_s], by rw [wu_ne (by omega), ar_n (by omega)]; exact h.2.2.2.2.2.2.2.2.2.1, by rw [wu_ne (by omega), ar_n (by omega)]; exact h.2.2.2.2.2.2.2.2.2.2.1, by rw [wu_ne (by omega), ar_n (by omega)]; exact h.2.2.2.2.2.2.2.2.2.2.2.1, by rw [wu_ne (by omega), ar_n (by omega)]; exact h.2.2.2.2.2.2.2.2.2.2.2.2.1, by rw [wu_ne (by omega), ar_n (by omega)]; exact h.2.2.2.2.2.2.2.2.2.2.2.2.2.1, by rw [wu_ne (by omega), ar_n (by omega)]; exact h.2.2.2.2.2.2.2.2.2.2.2.2.2.2.1, by rw [wu_ne (by omega), ar_n (by omega)]; exact h.2.2.2.2.2.2.2.2.2.2.2.2.2.2.2.1, by rw [wu_ne (by omega), ar_n (by omega)]; exact h.2.2.2.2.2.2.2.2.2.2.2.2.2.2.2.2⟩
theorem mu_8 {W : AW} {m : Nat} (h : MS W m) {f : Nat → Int} : MS (wu W (m + 8) (ea 0 180 f)) m := ⟨by rw [wu_ne (by omega), ob_n (by omega)]; exact h.1, by rw [wu_ne (by omega), ob_n (by omega)]; exact h.2.1, by rw [wu_ne (by omega), ar_n (by omega)]; exact h.2.2.1, by rw [wu_ne (by omega), ar_n (by omega)]; exact h.2.2.2.1, by rw [wu_ne (by omega), ar_n (by omega)]; exact h.2.2.2.2.1, by rw [wu_ne (by omega), ar_n (by omega)]; exact h.2.2.2.2.2.1, by rw [wu_ne (by omega), ar_n (by omega)]; exact h.2.2.2.2.2.2.1, by rw [wu_ne (by omega), ar_n (by omega)]; exact h.2.2.2.2.2.2.2.1, by rw [wu_ne (by omega), ar_n (by omega)]; exact h.2.2.2.2.2.2.2.2.1, by rw [wu_s, ar_s], by rw [wu_ne (by omega), ar_n (by omega)]; exact h.2.2.2.2.2.2.2.2.2.2.1, by rw [wu_ne (by omega), ar_n (by omega)]; exact h.2.2.2.2.2.2.2.2.2.2.2.1, by rw [wu_ne (by omega), ar_n (by omega)]; exact h.2.2.2.2.2.2.2.2.2.2.2.2.1, by rw [wu_ne (by omega), ar_n (by omega)]; exact h.2.2.2.2.2.2.2.2.2.2.2.2.2.1, by rw [wu_ne (by omega), ar_n (by omega)]; exact h.2.2.2.2.2.2.2.2.2.2.2.2.2.2.1, by rw [wu_ne (by omega), ar_n (by omega)]; exact h.2.2.2.2.2.2.2.2.2.2.2.2.2.2.2.1, by rw [wu_ne (by omega), ar_n (by omega)]; exact h.2.2.2.2.2.2.2.2.2.2.2.2.2.2.2.2⟩
theorem mu_10 {W : AW} {m : Nat} (h : MS W m) {f : Nat → Int} : MS (wu W (m + 10) (ea 0 200 f)) m := ⟨by rw [wu_ne (by omega), ob_n (by omega)]; exact h.1, by rw [wu_ne (by omega), ob_n (by omega)]; exact h.2.1, by rw [wu_ne (by omega), ar_n (by omega)]; exact h.2.2.1, by rw [wu_ne (by omega), ar_n (by omega)]; exact h.2.2.2.1, by rw [wu_ne (by omega), ar_n (by omega)]; exact h.2.2.2.2.1, by rw [wu_ne (by omega), ar_n (by omega)]; exact h.2.2.2.2.2.1, by rw [wu_ne (by omega), ar_n (by omega)]; exact h.2.2.2.2.2.2.1, by rw [wu_ne (by omega), ar_n (by omega)]; exact h.2.2.2.2.2.2.2.1, by rw [wu_ne (by omega), ar_n (by omega)]; exact h.2.2.2.2.2.2.2.2.1, by rw [wu_ne (by omega), ar_n (by omega)]; exact h.2.2.2.2.2.2.2.2.2.1, by rw [wu_s, ar_s], by rw [wu_ne (by omega), ar_n (by omega)]; exact h.2.2.2.2.2.2.2.2.2.2.2.1, by rw [wu_ne (by omega), ar_n (by omega)]; exact h.2.2.2.2.2.2.2.2.2.2.2.2.1, by rw [wu_ne (by omega), ar_n (by omega)]; exact h.2.2.2.2.2.2.2.2.2.2.2.2.2.1, by rw [wu_ne (by omega), ar_n (by omega)]; exact h.2.2.2.2.2.2.2.2.2.2.2.2.2.2.1, by rw [wu_ne (by omega), ar_n (by omega)]; exact h.2.2.2.2.2.2.2.2.2.2.2.2.2.2.2.1, by rw [wu_ne (by omega), ar_n (by omega)]; exact h.2.2.2.2.2.2.2.2.2.2.2.2.2.2.2.2⟩
theorem mu_11 {W : AW} {m : Nat} (h : MS W m) {f : Nat → Int} : MS (wu W (m + 11) (ea 0 200 f)) m := ⟨by rw [wu_ne (by omega), ob_n (by omega)]; exact h.1, by rw [wu_ne (by omega), ob_n (by omega)]; exact h.2.1, by rw [wu_ne (by omega), ar_n (by omega)]; exact h.2.2.1, by rw [wu_ne (by omega), ar_n (by omega)]; exact h.2.2.2.1, by rw [wu_ne (by omega), ar_n (by omega)]; exact h.2.2.2.2.1, by rw [wu_ne (by omega), ar_n (by omega)]; exact h.2.2.2.2.2.1, by rw [wu_ne (by omega), ar_n (by omega)]; exact h.2.2.2.2.2.2.1, by rw [wu_ne (by omega), ar_n (by omega)]; exact h.2.2.2.2.2.2.2.1, by rw [wu_ne (by omega), ar_n (by omega)]; exact h.2.2.2.2.2.2.2.2.1, by rw [wu_ne (by omega), ar_n (by omega)]; exact h.2.2.2.2.2.2.2.2.2.1, by rw [wu_ne (by omega), ar_n (by omega)]; exact h.2.2.2.2.2.2.2.2.2.2.1, by rw [wu_s, ar_s], by rw [wu_ne (by omega), ar_n (by omega)]; exact h.2.2.2.2.2.2.2.2.2.2.2.2.1, by rw [wu_ne (by omega), ar_n (by omega)]; exact h.2.2.2.2.2.2.2.2.2.2.2.2.2.1, by rw [wu_ne (by omega), ar_n (by omega)]; exact h.2.2.2.2.2.2.2.2.2.2.2.2.2.2.1, by rw [wu_ne (by omega), ar_n (by omega)]; exact h.2.2.2.2.2.2.2.2.2.2.2.2.2.2.2.1, by rw [wu_ne (by omega), ar_n (by omega)]; exact h.2.2.2.2.2.2.2.2.2.2.2.2.2.2.2.2⟩
theorem mu_12 {W : AW} {m : Nat} (h : MS W m) {f : Nat → Int} : MS (wu W (m + 12) (ea 0 200 f)) m := ⟨by rw [wu_ne (by omega), ob_n (by omega)]; exact h.1, by rw [wu_ne (by omega), ob_n (by omega)]; exact h.2.1, by rw [wu_ne (by omega), ar_n (by omega)]; exact h.2.2.1, by rw [wu_ne (by omega), ar_n (by omega)]; exact h.2.2.2.1, by rw [wu_ne (by omega), ar_n (by omega)]; exact h.2.2.2.2.1, by rw [wu_ne (by omega), ar_n (by omega)]; exact h.2.2.2.2.2.1, by rw [wu_ne (by omega), ar_n (by omega)]; exact h.2.2.2.2.2.2.1, by rw [wu_ne (by omega), ar_n (by omega)]; exact h.2.2.2.2.2.2.2.1, by rw [wu_ne (by omega), ar_n (by omega)]; exact h.2.2.2.2.2.2.2.2.1, by rw [wu_ne (by omega), ar_n (by omega)]; exact h.2.2.2.2.2.2.2.2.2.1, by rw [wu_ne (by omega), ar_n (by omega)]; exact h.2.2.2.2.2.2.2.2.2.2.1, by rw [wu_ne (by omega), ar_n (by omega)]; exact h.2.2.2.2.2.2.2.2.2.2.2.1, by rw [wu_s, ar_s], by rw [wu_ne (by omega), ar_n (by omega)]; exact h.2.2.2.2.2.2.2.2.2.2.2.2.2.1, by rw [wu_ne (by omega), ar_n (by omega)]; exact h.2.2.2.2.2.2.2.2.2.2.2.2.2.2.1, by rw [wu_ne (by omega), ar_n (by omega)]; exact h.2.2.2.2.2.2.2.2.2.2.2.2.2.2.2.1, by rw [wu_ne (by omega), ar_n (by omega)]; exact h.2.2.2.2.2.2.2.2.2.2.2.2.2.2.2.2⟩
theorem mu_13 {W : AW} {m : Nat} (h : MS W m) {f : Nat → Int} : MS (wu W (m + 13) (ea 0 200 f)) m := ⟨by rw [wu_ne (by omega), ob_n (by omega)]; exact h.1, by rw [wu_ne (by omega), ob_n (by omega)]; exact h.2.1, by rw [wu_ne (by omega), ar_n (by omega)]; exact h.2.2.1, by rw [wu_ne (by omega), ar_n (by omega)]; exact h.2.2.2.1, by rw [wu_ne (by omega), ar_n (by omega)]; exact h.2.2.2.2.1, by rw [wu_ne (by omega), ar_n (by omega)]; exact h.2.2.2.2.2.1, by rw [wu_ne (by omega), ar_n (by omega)]; exact h.2.2.2.2.2.2.1, by rw [wu_ne (by omega), ar_n (by omega)]; exact h.2.2.2.2.2.2.2.1, by rw [wu_ne (by omega), ar_n (by omega)]; exact h.2.2.2.2.2.2.2.2.1, by rw [wu_ne (by omega), ar_n (by omega)]; exact h.2.2.2.2.2.2.2.2.2.1, by rw [wu_ne (by omega), ar_n (by omega)]; exact h.2.2.2.2.2.2.2.2.2.2.1, by rw [wu_ne (by omega), ar_n (by omega)]; exact h.2.2.2.2.2.2.2.2.2.2.2.1, by rw [wu_ne (by omega), ar_n (by omega)]; exact h.2.2.2.2.2.2.2.2.2.2.2.2.1, by rw [wu_s, ar_s], by rw [wu_ne (by omega), ar_n (by omega)]; exact h.2.2.2.2.2.2.2.2.2.2.2.2.2.2.1, by rw [wu_ne (by omega), ar_n (by omega)]; exact h.2.2.2.2.2.2.2.2.2.2.2.2.2.2.2.1, by rw [wu_ne (by omega), ar_n (by omega)]; exact h.2.2.2.2.2.2.2.2.2.2.2.2.2.2.2.2⟩
theorem mu_14 {W : AW} {m : Nat} (h : MS W m) {f : Nat → Int} : MS (wu W (m + 14) (ea 0 400 f)) m := ⟨by rw [wu_ne (by omega), ob_n (by omega)]; exact h.1, by rw [wu_ne (by omega), ob_n (by omega)]; exact h.2.1, by rw [wu_ne (by omega), ar_n (by omega)]; exact h.2.2.1, by rw [wu_ne (by omega), ar_n (by omega)]; exact h.2.2.2.1, by rw [wu_ne (by omega), ar_n (by omega)]; exact h.2.2.2.2.1, by rw [wu_ne (by omega), ar_n (by omega)]; exact h.2.2.2.2.2.1, by rw [wu_ne (by omega), ar_n (by omega)]; exact h.2.2.2.2.2.2.1, by rw [wu_ne (by omega), ar_n (by omega)]; exact h.2.2.2.2.2.2.2.1, by rw [wu_ne (by omega), ar_n (by omega)]; exact h.2.2.2.2.2.2.2.2.1, by rw [wu_ne (by omega), ar_n (by omega)]; exact h.2.2.2.2.2.2.2.2.2.1, by rw [wu_ne (by omega), ar_n (by omega)]; exact h.2.2.2.2.2.2.2.2.2.2.1, by rw [wu_ne (by omega), ar_n (by omega)]; exact h.2.2.2.2.2.2.2.2.2.2.2.1, by rw [wu_ne (by omega), ar_n (by omega)]; exact h.2.2.2.2.2.2.2.2.2.2.2.2.1, by rw [wu_ne (by omega), ar_n (by omega)]; exact h.2.2.2.2.2.2.2.2.2.2.2.2.2.1, by rw [wu_s, ar_s], by rw [wu_ne (by omega), ar_n (by omega)]; exact h.2.2.2.2.2.2.2.2.2.2.2.2.2.2.2.1, by rw [wu_ne (by omega), ar_n (by omega)]; exact h.2.2.2.2.2.2.2.2.2.2.2.2.2.2.2.2⟩
theorem mu_15 {W : AW} {m : Nat} (h : MS W m) {f : Nat → Int} : MS (wu W (m + 15) (ea 0 400 f)) m := ⟨by rw [wu_ne (by omega), ob_n (by omega)]; exact h.1, by rw [wu_ne (by omega), ob_n (by omega)]; exact h.2.1, by rw [wu_ne (by omega), ar_n (by omega)]; exact h.2.2.1, by rw [wu_ne (by omega), ar_n (by omega)]; exact h.2.2.2.1, by rw [wu_ne (by omega), ar_n (by omega)]; exact h.2.2.2.2.1, by rw [wu_ne (by omega), ar_n (by omega)]; exact h.2.2.2.2.2.1, by rw [wu_ne (by omega), ar_n (by omega)]; exact h.2.2.2.2.2.2.1, by rw [wu_ne (by omega), ar_n (by omega)]; exact h.2.2.2.2.2.2.2.1, by rw [wu_ne (by omega), ar_n (by omega)]; exact h.2.2.2.2.2.2.2.2.1, by rw [wu_ne (by omega), ar_n (by omega)]; exact h.2.2.2.2.2.2.2.2.2.1, by rw [wu_ne (by omega), ar_n (by omega)]; exact h.2.2.2.2.2.2.2.2.2.2.1, by rw [wu_ne (by omega), ar_n (by omega)]; exact h.2.2.2.2.2.2.2.2.2.2.2.1, by rw [wu_ne (by omega), ar_n (by omega)]; exact h.2.2.2.2.2.2.2.2.2.2.2.2.1, by rw [wu_ne (by omega), ar_n (by omega)]; exact h.2.2.2.2.2.2.2.2.2.2.2.2.2.1, by rw [wu_ne (by omega), ar_n (by omega)]; exact h.2.2.2.2.2.2.2.2.2.2.2.2.2.2.1, by rw [wu_s, ar_s], by rw [wu_ne (by omega), ar_n (by omega)]; exact h.2.2.2.2.2.2.2.2.2.2.2.2.2.2.2.2⟩
theorem mu_16 {W : AW} {m : Nat} (h : MS W m) {f : Nat → Int} : MS (wu W (m + 16) (ea 0 400 f)) m := ⟨by rw [wu_ne (by omega), ob_n (by omega)]; exact h.1, by rw [wu_ne (by omega), ob_n (by omega)]; exact h.2.1, by rw [wu_ne (by omega), ar_n (by omega)]; exact h.2.2.1, by rw [wu_ne (by omega), ar_n (by omega)]; exact h.2.2.2.1, by rw [wu_ne (by omega), ar_n (by omega)]; exact h.2.2.2.2.1, by rw [wu_ne (by omega), ar_n (by omega)]; exact h.2.2.2.2.2.1, by rw [wu_ne (by omega), ar_n (by omega)]; exact h.2.2.2.2.2.2.1, by rw [wu_ne (by omega), ar_n (by omega)]; exact h.2.2.2.2.2.2.2.1, by rw [wu_ne (by omega), ar_n (by omega)]; exact h.2.2.2.2.2.2.2.2.1, by rw [wu_ne (by omega), ar_n (by omega)]; exact h.2.2.2.2.2.2.2.2.2.1, by rw [wu_ne (by omega), ar_n (by omega)]; exact h.2.2.2.2.2.2.2.2.2.2.1, by rw [wu_ne (by omega), ar_n (by omega)]; exact h.2.2.2.2.2.2.2.2.2.2.2.1, by rw [wu_ne (by omega), ar_n (by omega)]; exact h.2.2.2.2.2.2.2.2.2.2.2.2.1, by rw [wu_ne (by omega), ar_n (by omega)]; exact h.2.2.2.2.2.2.2.2.2.2.2.2.2.1, by rw [wu_ne (by omega), ar_n (by omega)]; exact h.2.2.2.2.2.2.2.2.2.2.2.2.2.2.1, by rw [wu_ne (by omega), ar_n (by omega)]; exact h.2.2.2.2.2.2.2.2.2.2.2.2.2.2.2.1, by rw [wu_s, ar_s]⟩
def ctab : List (Nat × Nat × Nat) := [(111, 0, 420), (112, 0, 6), (113, 0, 6), (118, 1, 400), (120, 0, 400), (121, 0, 64), (122, 0, 12), (123, 0, 12), (124, 0, 12), (125, 0, 6), (128, 3, 12), (129, 3, 60), (131, 0, 180), (132, 0, 180), (140, 0, 100), (141, 0, 100), (142, 2, 100), (143, 0, 12), (144, 3, 200), (145, 0, 100), (147, 3, 800)]
def gtab (W : AW) : Prop := W.2 68 = o1 ∧ W.2 69 = ea 0 180 (tll gfi 180) ∧ W.2 70 = ea 0 180 (tll gse 180) ∧ W.2 71 = ea 0 180 (tll gfr 180) ∧ W.2 72 = ea 0 180 (tll gto 180) ∧ W.2 73 = ea 0 180 (tll gst 180) ∧ W.2 74 = ea 0 180 (tll gpl 180) ∧ W.2 75 = ea 0 484 (gsp 180)
/-- static arrays and texts are as they were -/
def FZ (W : AW) : Prop := ∀ k, 1 ≤ k → k < 67 → W.2 k = frz 0 (fun _ => 0) k
/-- the class's cells, but for floors, weather and the rows of references -/
def CS (W : AW) : Prop := 192 ≤ W.1 ∧ W.2 67 = o11 (ob W 67) ∧ gtab W ∧ W.2 110 = o4 110 (ob W 110) ∧ W.2 119 = o9 (ob W 119) ∧ W.2 126 = o8 (ob W 126) ∧ W.2 127 = o5 ∧ W.2 139 = o3 (ob W 139) ∧ W.2 146 = o0 ∧ Tb ctab W ∧ FZ W
def cown : List Nat := [1, 2, 3, 4, 5, 6, 7, 8, 9, 10, 11, 12, 13, 14, 15, 16, 17, 18, 19, 20, 21, 22, 23, 24, 25, 26, 27, 28, 29, 30, 31, 32, 33, 34, 35, 36, 37, 38, 39, 40, 41, 42, 43, 44, 45, 46, 47, 48, 49, 50, 51, 52, 53, 54, 55, 56, 57, 58, 59, 60, 61, 62, 63, 64, 65, 66, 67, 68, 69, 70, 71, 72, 73, 74, 75, 110, 111, 112, 113, 118, 119, 120, 121, 122, 123, 124, 125, 126, 127, 128, 129, 131, 132, 139, 140, 141, 142, 143, 144, 145, 146, 147]
theorem ctab_b : ∀ p ∈ ctab, p.1 ∈ cown ∧ p.1 ∉ [67, 68, 69, 70, 71, 72, 73, 74, 75, 110, 119, 126, 127, 139, 146] := by decide
theorem CS.cg {W W' : AW} (h : CS W) (hw : W.1 ≤ W'.1) (hk : ∀ k, k ∈ cown → W'.2 k = W.2 k) : CS W' := by
  obtain ⟨a, b, c, d, e, f, g, i, j, l, fz⟩ := h
  have hcf : ∀ k, 1 ≤ k → k < 67 → k ∈ cown := by
    have := (show ∀ k, k < 67 → 1 ≤ k → k ∈ cown by decide)
    exact fun k a b => this k b a
  have k67 := hk 67 (by decide)
  have k110 := hk 110 (by decide)
  have k119 := hk 119 (by decide)
  have k126 := hk 126 (by decide)
  have k139 := hk 139 (by decide)
  refine ⟨Nat.le_trans a hw, by rw [k67, ob_c k67]; exact b, ?_, by rw [k110, ob_c k110]; exact d, by rw [k119, ob_c k119]; exact e, by rw [k126, ob_c k126]; exact f, by rw [hk 127 (by decide)]; exact g, by rw [k139, ob_c k139]; exact i, by rw [hk 146 (by decide)]; exact j, l.cg (fun p hp => hk _ (ctab_b p hp).1), fun k x y => by rw [hk k (hcf k x y)]; exact fz k x y⟩
  unfold gtab at c ⊢
  rw [hk 68 (by decide), hk 69 (by decide), hk 70 (by decide), hk 71 (by decide), hk 72 (by decide), hk 73 (by decide), hk 74 (by decide), hk 75 (by decide)]
  exact c
theorem CS.ot {W : AW} (h : CS W) {k : Nat} {e : AE} (hk : k ∉ cown) : CS (wu W k e) := h.cg (Nat.le_refl _) (fun j hj => wu_ne (fun q => hk (q ▸ hj)))
theorem CS.w {W : AW} (h : CS W) {k : Nat} (hk : k < 192) : k < W.1 := Nat.lt_of_lt_of_le hk h.1
theorem ca_67 {W : AW} (h : CS W) : W.2 67 = o11 (ob W 67) := h.2.1
theorem ca_110 {W : AW} (h : CS W) : W.2 110 = o4 110 (ob W 110) := h.2.2.2.1
theorem ca_119 {W : AW} (h : CS W) : W.2 119 = o9 (ob W 119) := h.2.2.2.2.1
theorem ca_126 {W : AW} (h : CS W) : W.2 126 = o8 (ob W 126) := h.2.2.2.2.2.1
theorem ca_139 {W : AW} (h : CS W) : W.2 139 = o3 (ob W 139) := h.2.2.2.2.2.2.2.1
theorem ca_127 {W : AW} (h : CS W) : W.2 127 = o5 := h.2.2.2.2.2.2.1
theorem ca_fz {W : AW} (h : CS W) {k : Nat} (a : 1 ≤ k) (b : k < 67) : W.2 k = frz 0 (fun _ => 0) k := h.2.2.2.2.2.2.2.2.2.2 k a b
theorem ca_146 {W : AW} (h : CS W) : W.2 146 = o0 := h.2.2.2.2.2.2.2.2.1
theorem ca_68 {W : AW} (h : CS W) : W.2 68 = o1 := h.2.2.1.1
theorem ca_69 {W : AW} (h : CS W) : W.2 69 = ea 0 180 (tll gfi 180) := h.2.2.1.2.1
theorem ca_70 {W : AW} (h : CS W) : W.2 70 = ea 0 180 (tll gse 180) := h.2.2.1.2.2.1
theorem ca_71 {W : AW} (h : CS W) : W.2 71 = ea 0 180 (tll gfr 180) := h.2.2.1.2.2.2.1
theorem ca_72 {W : AW} (h : CS W) : W.2 72 = ea 0 180 (tll gto 180) := h.2.2.1.2.2.2.2.1
theorem ca_73 {W : AW} (h : CS W) : W.2 73 = ea 0 180 (tll gst 180) := h.2.2.1.2.2.2.2.2.1
theorem ca_74 {W : AW} (h : CS W) : W.2 74 = ea 0 180 (tll gpl 180) := h.2.2.1.2.2.2.2.2.2.1
theorem ca_75 {W : AW} (h : CS W) : W.2 75 = ea 0 484 (gsp 180) := h.2.2.1.2.2.2.2.2.2.2
theorem ca_111 {W : AW} (h : CS W) : W.2 111 = ea 0 420 (ar W 111) := h.2.2.2.2.2.2.2.2.2.1 (111, 0, 420) (by decide)
theorem ca_112 {W : AW} (h : CS W) : W.2 112 = ea 0 6 (ar W 112) := h.2.2.2.2.2.2.2.2.2.1 (112, 0, 6) (by decide)
theorem ca_113 {W : AW} (h : CS W) : W.2 113 = ea 0 6 (ar W 113) := h.2.2.2.2.2.2.2.2.2.1 (113, 0, 6) (by decide)
theorem ca_118 {W : AW} (h : CS W) : W.2 118 = ea 1 400 (ar W 118) := h.2.2.2.2.2.2.2.2.2.1 (118, 1, 400) (by decide)
theorem ca_120 {W : AW} (h : CS W) : W.2 120 = ea 0 400 (ar W 120) := h.2.2.2.2.2.2.2.2.2.1 (120, 0, 400) (by decide)
theorem ca_121 {W : AW} (h : CS W) : W.2 121 = ea 0 64 (ar W 121) := h.2.2.2.2.2.2.2.2.2.1 (121, 0, 64) (by decide)
theorem ca_122 {W : AW} (h : CS W) : W.2 122 = ea 0 12 (ar W 122) := h.2.2.2.2.2.2.2.2.2.1 (122, 0, 12) (by decide)
theorem ca_123 {W : AW} (h : CS W) : W.2 123 = ea 0 12 (ar W 123) := h.2.2.2.2.2.2.2.2.2.1 (123, 0, 12) (by decide)
theorem ca_124 {W : AW} (h : CS W) : W.2 124 = ea 0 12 (ar W 124) := h.2.2.2.2.2.2.2.2.2.1 (124, 0, 12) (by decide)
theorem ca_125 {W : AW} (h : CS W) : W.2 125 = ea 0 6 (ar W 125) := h.2.2.2.2.2.2.2.2.2.1 (125, 0, 6) (by decide)
theorem ca_128 {W : AW} (h : CS W) : W.2 128 = ea 3 12 (ar W 128) := h.2.2.2.2.2.2.2.2.2.1 (128, 3, 12) (by decide)
theorem ca_129 {W : AW} (h : CS W) : W.2 129 = ea 3 60 (ar W 129) := h.2.2.2.2.2.2.2.2.2.1 (129, 3, 60) (by decide)
theorem ca_131 {W : AW} (h : CS W) : W.2 131 = ea 0 180 (ar W 131) := h.2.2.2.2.2.2.2.2.2.1 (131, 0, 180) (by decide)
theorem ca_132 {W : AW} (h : CS W) : W.2 132 = ea 0 180 (ar W 132) := h.2.2.2.2.2.2.2.2.2.1 (132, 0, 180) (by decide)
theorem ca_140 {W : AW} (h : CS W) : W.2 140 = ea 0 100 (ar W 140) := h.2.2.2.2.2.2.2.2.2.1 (140, 0, 100) (by decide)
theorem ca_141 {W : AW} (h : CS W) : W.2 141 = ea 0 100 (ar W 141) := h.2.2.2.2.2.2.2.2.2.1 (141, 0, 100) (by decide)
theorem ca_142 {W : AW} (h : CS W) : W.2 142 = ea 2 100 (ar W 142) := h.2.2.2.2.2.2.2.2.2.1 (142, 2, 100) (by decide)
theorem ca_143 {W : AW} (h : CS W) : W.2 143 = ea 0 12 (ar W 143) := h.2.2.2.2.2.2.2.2.2.1 (143, 0, 12) (by decide)
theorem ca_144 {W : AW} (h : CS W) : W.2 144 = ea 3 200 (ar W 144) := h.2.2.2.2.2.2.2.2.2.1 (144, 3, 200) (by decide)
theorem ca_145 {W : AW} (h : CS W) : W.2 145 = ea 0 100 (ar W 145) := h.2.2.2.2.2.2.2.2.2.1 (145, 0, 100) (by decide)
theorem ca_147 {W : AW} (h : CS W) : W.2 147 = ea 3 800 (ar W 147) := h.2.2.2.2.2.2.2.2.2.1 (147, 3, 800) (by decide)
theorem cu_67 {W : AW} (h : CS W) {g : Nat → Int} : CS (wu W 67 (o11 g)) := ⟨h.1, q11 wu_s, by unfold gtab; rw [wu_ne (by decide), wu_ne (by decide), wu_ne (by decide), wu_ne (by decide), wu_ne (by decide), wu_ne (by decide), wu_ne (by decide), wu_ne (by decide)]; exact h.2.2.1, by rw [wu_ne (by decide), ob_n (by decide)]; exact h.2.2.2.1, by rw [wu_ne (by decide), ob_n (by decide)]; exact h.2.2.2.2.1, by rw [wu_ne (by decide), ob_n (by decide)]; exact h.2.2.2.2.2.1, by rw [wu_ne (by decide)]; exact h.2.2.2.2.2.2.1, by rw [wu_ne (by decide), ob_n (by decide)]; exact h.2.2.2.2.2.2.2.1, by rw [wu_ne (by decide)]; exact h.2.2.2.2.2.2.2.2.1, h.2.2.2.2.2.2.2.2.2.1.ot (by decide), fun k a b => by rw [wu_ne (by omega)]; exact h.2.2.2.2.2.2.2.2.2.2 k a b⟩
theorem cu_110 {W : AW} (h : CS W) {g : Nat → Int} : CS (wu W 110 (o4 110 g)) := ⟨h.1, by rw [wu_ne (by decide), ob_n (by decide)]; exact h.2.1, by unfold gtab; rw [wu_ne (by decide), wu_ne (by decide), wu_ne (by decide), wu_ne (by decide), wu_ne (by decide), wu_ne (by decide), wu_ne (by decide), wu_ne (by decide)]; exact h.2.2.1, q4 wu_s, by rw [wu_ne (by decide), ob_n (by decide)]; exact h.2.2.2.2.1, by rw [wu_ne (by decide), ob_n (by decide)]; exact h.2.2.2.2.2.1, by rw [wu_ne (by decide)]; exact h.2.2.2.2.2.2.1, by rw [wu_ne (by decide), ob_n (by decide)]; exact h.2.2.2.2.2.2.2.1, by rw [wu_ne (by decide)]; exact h.2.2.2.2.2.2.2.2.1, h.2.2.2.2.2.2.2.2.2.1.ot (by decide), fun k a b => by rw [wu_ne (by omega)]; exact h.2.2.2.2.2.2.2.2.2.2 k a b⟩
theorem cu_119 {W : AW} (h : CS W) {g : Nat → Int} : CS (wu W 119 (o9 g)) := ⟨h.1, by rw [wu_ne (by decide), ob_n (by decide)]; exact h.2.1, by unfold gtab; rw [wu_ne (by decide), wu_ne (by decide), wu_ne (by decide), wu_ne (by decide), wu_ne (by decide), wu_ne (by decide), wu_ne (by decide), wu_ne (by decide)]; exact h.2.2.1, by rw [wu_ne (by decide), ob_n (by decide)]; exact h.2.2.2.1, q9 wu_s, by rw [wu_ne (by decide), ob_n (by decide)]; exact h.2.2.2.2.2.1, by rw [wu_ne (by decide)]; exact h.2.2.2.2.2.2.1, by rw [wu_ne (by decide), ob_n (by decide)]; exact h.2.2.2.2.2.2.2.1, by rw [wu_ne (by decide)]; exact h.2.2.2.2.2.2.2.2.1, h.2.2.2.2.2.2.2.2.2.1.ot (by decide), fun k a b => by rw [wu_ne (by omega)]; exact h.2.2.2.2.2.2.2.2.2.2 k a b⟩
theorem cu_126 {W : AW} (h : CS W) {g : Nat → Int} : CS (wu W 126 (o8 g)) := ⟨h.1, by rw [wu_ne (by decide), ob_n (by decide)]; exact h.2.1, by unfold gtab; rw [wu_ne (by decide), wu_ne (by decide), wu_ne (by decide), wu_ne (by decide), wu_ne (by decide), wu_ne (by decide), wu_ne (by decide), wu_ne (by decide)]; exact h.2.2.1, by rw [wu_ne (by decide), ob_n (by decide)]; exact h.2.2.2.1, by rw [wu_ne (by decide), ob_n (by decide)]; exact h.2.2.2.2.1, q8 wu_s, by rw [wu_ne (by decide)]; exact h.2.2.2.2.2.2.1, by rw [wu_ne (by decide), ob_n (by decide)]; exact h.2.2.2.2.2.2.2.1, by rw [wu_ne (by decide)]; exact h.2.2.2.2.2.2.2.2.1, h.2.2.2.2.2.2.2.2.2.1.ot (by decide), fun k a b => by rw [wu_ne (by omega)]; exact h.2.2.2.2.2.2.2.2.2.2 k a b⟩
theorem cu_139 {W : AW} (h : CS W) {g : Nat → Int} : CS (wu W 139 (o3 g)) := ⟨h.1, by rw [wu_ne (by decide), ob_n (by decide)]; exact h.2.1, by unfold gtab; rw [wu_ne (by decide), wu_ne (by decide), wu_ne (by decide), wu_ne (by decide), wu_ne (by decide), wu_ne (by decide), wu_ne (by decide), wu_ne (by decide)]; exact h.2.2.1, by rw [wu_ne (by decide), ob_n (by decide)]; exact h.2.2.2.1, by rw [wu_ne (by decide), ob_n (by decide)]; exact h.2.2.2.2.1, by rw [wu_ne (by decide), ob_n (by decide)]; exact h.2.2.2.2.2.1, by rw [wu_ne (by decide)]; exact h.2.2.2.2.2.2.1, q3 wu_s, by rw [wu_ne (by decide)]; exact h.2.2.2.2.2.2.2.2.1, h.2.2.2.2.2.2.2.2.2.1.ot (by decide), fun k a b => by rw [wu_ne (by omega)]; exact h.2.2.2.2.2.2.2.2.2.2 k a b⟩
theorem cu_111 {W : AW} (h : CS W) {f : Nat → Int} : CS (wu W 111 (ea 0 420 f)) := ⟨h.1, by rw [wu_ne (by decide), ob_n (by decide)]; exact h.2.1, by unfold gtab; rw [wu_ne (by decide), wu_ne (by decide), wu_ne (by decide), wu_ne (by decide), wu_ne (by decide), wu_ne (by decide), wu_ne (by decide), wu_ne (by decide)]; exact h.2.2.1, by rw [wu_ne (by decide), ob_n (by decide)]; exact h.2.2.2.1, by rw [wu_ne (by decide), ob_n (by decide)]; exact h.2.2.2.2.1, by rw [wu_ne (by decide), ob_n (by decide)]; exact h.2.2.2.2.2.1, by rw [wu_ne (by decide)]; exact h.2.2.2.2.2.2.1, by rw [wu_ne (by decide), ob_n (by decide)]; exact h.2.2.2.2.2.2.2.1, by rw [wu_ne (by decide)]; exact h.2.2.2.2.2.2.2.2.1, h.2.2.2.2.2.2.2.2.2.1.up (by decide), fun k a b => by rw [wu_ne (by omega)]; exact h.2.2.2.2.2.2.2.2.2.2 k a b⟩
theorem cu_112 {W : AW} (h : CS W) {f : Nat → Int} : CS (wu W 112 (ea 0 6 f)) := ⟨h.1, by rw [wu_ne (by decide), ob_n (by decide)]; exact h.2.1, by unfold gtab; rw [wu_ne (by decide), wu_ne (by decide), wu_ne (by decide), wu_ne (by decide), wu_ne (by decide), wu_ne (by decide), wu_ne (by decide), wu_ne (by decide)]; exact h.2.2.1, by rw [wu_ne (by decide), ob_n (by decide)]; exact h.2.2.2.1, by rw [wu_ne (by decide), ob_n (by decide)]; exact h.2.2.2.2.1, by rw [wu_ne (by decide), ob_n (by decide)]; exact h.2.2.2.2.2.1, by rw [wu_ne (by decide)]; exact h.2.2.2.2.2.2.1, by rw [wu_ne (by decide), ob_n (by decide)]; exact h.2.2.2.2.2.2.2.1, by rw [wu_ne (by decide)]; exact h.2.2.2.2.2.2.2.2.1, h.2.2.2.2.2.2.2.2.2.1.up (by decide), fun k a b => by rw [wu_ne (by omega)]; exact h.2.2.2.2.2.2.2.2.2.2 k a b⟩
theorem cu_113 {W : AW} (h : CS W) {f : Nat → Int} : CS (wu W 113 (ea 0 6 f)) := ⟨h.1, by rw [wu_ne (by decide), ob_n (by decide)]; exact h.2.1, by unfold gtab; rw [wu_ne (by decide), wu_ne (by decide), wu_ne (by decide), wu_ne (by decide), wu_ne (by decide), wu_ne (by decide), wu_ne (by decide), wu_ne (by decide)]; exact h.2.2.1, by rw [wu_ne (by decide), ob_n (by decide)]; exact h.2.2.2.1, by rw [wu_ne (by decide), ob_n (by decide)]; exact h.2.2.2.2.1, by rw [wu_ne (by decide), ob_n (by decide)]; exact h.2.2.2.2.2.1, by rw [wu_ne (by decide)]; exact h.2.2.2.2.2.2.1, by rw [wu_ne (by decide), ob_n (by decide)]; exact h.2.2.2.2.2.2.2.1, by rw [wu_ne (by decide)]; exact h.2.2.2.2.2.2.2.2.1, h.2.2.2.2.2.2.2.2.2.1.up (by decide), fun k a b => by rw [wu_ne (by omega)]; exact h.2.2.2.2.2.2.2.2.2.2 k a b⟩
theorem cu_118 {W : AW} (h : CS W) {f : Nat → Int} : CS (wu W 118 (ea 1 400 f)) := ⟨h.1, by rw [wu_ne (by decide), ob_n (by decide)]; exact h.2.1, by unfold gtab; rw [wu_ne (by decide), wu_ne (by decide), wu_ne (by decide), wu_ne (by decide), wu_ne (by decide), wu_ne (by decide), wu_ne (by decide), wu_ne (by decide)]; exact h.2.2.1, by rw [wu_ne (by decide), ob_n (by decide)]; exact h.2.2.2.1, by rw [wu_ne (by decide), ob_n (by decide)]; exact h.2.2.2.2.1, by rw [wu_ne (by decide), ob_n (by decide)]; exact h.2.2.2.2.2.1, by rw [wu_ne (by decide)]; exact h.2.2.2.2.2.2.1, by rw [wu_ne (by decide), ob_n (by decide)]; exact h.2.2.2.2.2.2.2.1, by rw [wu_ne (by decide)]; exact h.2.2.2.2.2.2.2.2.1, h.2.2.2.2.2.2.2.2.2.1.up (by decide), fun k a b => by rw [wu_ne (by omega)]; exact h.2.2.2.2.2.2.2.2.2.2 k a b⟩
theorem cu_120 {W : AW} (h : CS W) {f : Nat → Int} : CS (wu W 120 (ea 0 400 f)) := ⟨h.1, by rw [wu_ne (by decide), ob_n (by decide)]; exact h.2.1, by unfold gtab; rw [wu_ne (by decide), wu_ne (by decide), wu_ne (by decide), wu_ne (by decide), wu_ne (by decide), wu_ne (by decide), wu_ne (by decide), wu_ne (by decide)]; exact h.2.2.1, by rw [wu_ne (by decide), ob_n (by decide)]; exact h.2.2.2.1, by rw [wu_ne (by decide), ob_n (by decide)]; exact h.2.2.2.2.1, by rw [wu_ne (by decide), ob_n (by decide)]; exact h.2.2.2.2.2.1, by rw [wu_ne (by decide)]; exact h.2.2.2.2.2.2.1, by rw [wu_ne (by decide), ob_n (by decide)]; exact h.2.2.2.2.2.2.2.1, by rw [wu_ne (by decide)]; exact h.2.2.2.2.2.2.2.2.1, h.2.2.2.2.2.2.2.2.2.1.up (by decide), fun k a b => by rw [wu_ne (by omega)]; exact h.2.2.2.2.2.2.2.2.2.2 k a b⟩
theorem cu_121 {W : AW} (h : CS W) {f : Nat → Int} : CS (wu W 121 (ea 0 64 f)) := ⟨h.1, by rw [wu_ne (by decide), ob_n (by decide)]; exact h.2.1, by unfold gtab; rw [wu_ne (by decide), wu_ne (by decide), wu_ne (by decide), wu_ne (by decide), wu_ne (by decide), wu_ne (by decide), wu_ne (by decide), wu_ne (by decide)]; exact h.2.2.1, by rw [wu_ne (by decide), ob_n (by decide)]; exact h.2.2.2.1, by rw [wu_ne (by decide), ob_n (by decide)]; exact h.2.2.2.2.1, by rw [wu_ne (by decide), ob_n (by decide)]; exact h.2.2.2.2.2.1, by rw [wu_ne (by decide)]; exact h.2.2.2.2.2.2.1, by rw [wu_ne (by decide), ob_n (by decide)]; exact h.2.2.2.2.2.2.2.1, by rw [wu_ne (by decide)]; exact h.2.2.2.2.2.2.2.2.1, h.2.2.2.2.2.2.2.2.2.1.up (by decide), fun k a b => by rw [wu_ne (by omega)]; exact h.2.2.2.2.2.2.2.2.2.2 k a b⟩
theorem cu_122 {W : AW} (h : CS W) {f : Nat → Int} : CS (wu W 122 (ea 0 12 f)) := ⟨h.1, by rw [wu_ne (by decide), ob_n (by decide)]; exact h.2.1, by unfold gtab; rw [wu_ne (by decide), wu_ne (by decide), wu_ne (by decide), wu_ne (by decide), wu_ne (by decide), wu_ne (by decide), wu_ne (by decide), wu_ne (by decide)]; exact h.2.2.1, by rw [wu_ne (by decide), ob_n (by decide)]; exact h.2.2.2.1, by rw [wu_ne (by decide), ob_n (by decide)]; exact h.2.2.2.2.1, by rw [wu_ne (by decide), ob_n (by decide)]; exact h.2.2.2.2.2.1, by rw [wu_ne (by decide)]; exact h.2.2.2.2.2.2.1, by rw [wu_ne (by decide), ob_n (by decide)]; exact h.2.2.2.2.2.2.2.1, by rw [wu_ne (by decide)]; exact h.2.2.2.2.2.2.2.2.1, h.2.2.2.2.2.2.2.2.2.1.up (by decide), fun k a b => by rw [wu_ne (by omega)]; exact h.2.2.2.2.2.2.2.2.2.2 k a b⟩
theorem cu_123 {W : AW} (h : CS W) {f : Nat → Int} : CS (wu W 123 (ea 0 12 f)) := ⟨h.1, by rw [wu_ne (by decide), ob_n (by decide)]; exact h.2.1, by unfold gtab; rw [wu_ne (by decide), wu_ne (by decide), wu_ne (by decide), wu_ne (by decide), wu_ne (by decide), wu_ne (by decide), wu_ne (by decide), wu_ne (by decide)]; exact h.2.2.1, by rw [wu_ne (by decide), ob_n (by decide)]; exact h.2.2.2.1, by rw [wu_ne (by decide), ob_n (by decide)]; exact h.2.2.2.2.1, by rw [wu_ne (by decide), ob_n (by decide)]; exact h.2.2.2.2.2.1, by rw [wu_ne (by decide)]; exact h.2.2.2.2.2.2.1, by rw [wu_ne (by decide), ob_n (by decide)]; exact h.2.2.2.2.2.2.2.1, by rw [wu_ne (by decide)]; exact h.2.2.2.2.2.2.2.2.1, h.2.2.2.2.2.2.2.2.2.1.up (by decide), fun k a b => by rw [wu_ne (by omega)]; exact h.2.2.2.2.2.2.2.2.2.2 k a b⟩
theorem cu_124 {W : AW} (h : CS W) {f : Nat → Int} : CS (wu W 124 (ea 0 12 f)) := ⟨h.1, by rw [wu_ne (by decide), ob_n (by decide)]; exact h.2.1, by unfold gtab; rw [wu_ne (by decide), wu_ne (by decide), wu_ne (by decide), wu_ne (by decide), wu_ne (by decide), wu_ne (by decide), wu_ne (by decide), wu_ne (by decide)]; exact h.2.2.1, by rw [wu_ne (by decide), ob_n (by decide)]; exact h.2.2.2.1, by rw [wu_ne (by decide), ob_n (by decide)]; exact h.2.2.2.2.1, by rw [wu_ne (by decide), ob_n (by decide)]; exact h.2.2.2.2.2.1, by rw [wu_ne (by decide)]; exact h.2.2.2.2.2.2.1, by rw [wu_ne (by decide), ob_n (by decide)]; exact h.2.2.2.2.2.2.2.1, by rw [wu_ne (by decide)]; exact h.2.2.2.2.2.2.2.2.1, h.2.2.2.2.2.2.2.2.2.1.up (by decide), fun k a b => by rw [wu_ne (by omega)]; exact h.2.2.2.2.2.2.2.2.2.2 k a b⟩
theorem cu_125 {W : AW} (h : CS W) {f : Nat → Int} : CS (wu W 125 (ea 0 6 f)) := ⟨h.1, by rw [wu_ne (by decide), ob_n (by decide)]; exact h.2.1, by unfold gtab; rw [wu_ne (by decide), wu_ne (by decide), wu_ne (by decide), wu_ne (by decide), wu_ne (by decide), wu_ne (by decide), wu_ne (by decide), wu_ne (by decide)]; exact h.2.2.1, by rw [wu_ne (by decide), ob_n (by decide)]; exact h.2.2.2.1, by rw [wu_ne (by decide), ob_n (by decide)]; exact h.2.2.2.2.1, by rw [wu_ne (by decide), ob_n (by decide)]; exact h.2.2.2.2.2.1, by rw [wu_ne (by decide)]; exact h.2.2.2.2.2.2.1, by rw [wu_ne (by decide), ob_n (by decide)]; exact h.2.2.2.2.2.2.2.1, by rw [wu_ne (by decide)]; exact h.2.2.2.2.2.2.2.2.1, h.2.2.2.2.2.2.2.2.2.1.up (by decide), fun k a b => by rw [wu_ne (by omega)]; exact h.2.2.2.2.2.2.2.2.2.2 k a b⟩
theorem cu_128 {W : AW} (h : CS W) {f : Nat → Int} : CS (wu W 128 (ea 3 12 f)) := ⟨h.1, by rw [wu_ne (by decide), ob_n (by decide)]; exact h.2.1, by unfold gtab; rw [wu_ne (by decide), wu_ne (by decide), wu_ne (by decide), wu_ne (by decide), wu_ne (by decide), wu_ne (by decide), wu_ne (by decide), wu_ne (by decide)]; exact h.2.2.1, by rw [wu_ne (by decide), ob_n (by decide)]; exact h.2.2.2.1, by rw [wu_ne (by decide), ob_n (by decide)]; exact h.2.2.2.2.1, by rw [wu_ne (by decide), ob_n (by decide)]; exact h.2.2.2.2.2.1, by rw [wu_ne (by decide)]; exact h.2.2.2.2.2.2.1, by rw [wu_ne (by decide), ob_n (by decide)]; exact h.2.2.2.2.2.2.2.1, by rw [wu_ne (by decide)]; exact h.2.2.2.2.2.2.2.2.1, h.2.2.2.2.2.2.2.2.2.1.up (by decide), fun k a b => by rw [wu_ne (by omega)]; exact h.2.2.2.2.2.2.2.2.2.2 k a b⟩
theorem cu_129 {W : AW} (h : CS W) {f : Nat → Int} : CS (wu W 129 (ea 3 60 f)) := ⟨h.1, by rw [wu_ne (by decide), ob_n (by decide)]; exact h.2.1, by unfold gtab; rw [wu_ne (by decide), wu_ne (by decide), wu_ne (by decide), wu_ne (by decide), wu_ne (by decide), wu_ne (by decide), wu_ne (by decide), wu_ne (by decide)]; exact h.2.2.1, by rw [wu_ne (by decide), ob_n (by decide)]; exact h.2.2.2.1, by rw [wu_ne (by decide), ob_n (by decide)]; exact h.2.2.2.2.1, by rw [wu_ne (by decide), ob_n (by decide)]; exact h.2.2.2.2.2.1, by rw [wu_ne (by decide)]; exact h.2.2.2.2.2.2.1, by rw [wu_ne (by decide), ob_n (by decide)]; exact h.2.2.2.2.2.2.2.1, by rw [wu_ne (by decide)]; exact h.2.2.2.2.2.2.2.2.1, h.2.2.2.2.2.2.2.2.2.1.up (by decide), fun k a b => by rw [wu_ne (by omega)]; exact h.2.2.2.2.2.2.2.2.2.2 k a b⟩
theorem cu_131 {W : AW} (h : CS W) {f : Nat → Int} : CS (wu W 131 (ea 0 180 f)) := ⟨h.1, by rw [wu_ne (by decide), ob_n (by decide)]; exact h.2.1, by unfold gtab; rw [wu_ne (by decide), wu_ne (by decide), wu_ne (by decide), wu_ne (by decide), wu_ne (by decide), wu_ne (by decide), wu_ne (by decide), wu_ne (by decide)]; exact h.2.2.1, by rw [wu_ne (by decide), ob_n (by decide)]; exact h.2.2.2.1, by rw [wu_ne (by decide), ob_n (by decide)]; exact h.2.2.2.2.1, by rw [wu_ne (by decide), ob_n (by decide)]; exact h.2.2.2.2.2.1, by rw [wu_ne (by decide)]; exact h.2.2.2.2.2.2.1, by rw [wu_ne (by decide), ob_n (by decide)]; exact h.2.2.2.2.2.2.2.1, by rw [wu_ne (by decide)]; exact h.2.2.2.2.2.2.2.2.1, h.2.2.2.2.2.2.2.2.2.1.up (by decide), fun k a b => by rw [wu_ne (by omega)]; exact h.2.2.2.2.2.2.2.2.2.2 k a b⟩
theorem cu_132 {W : AW} (h : CS W) {f : Nat → Int} : CS (wu W 132 (ea 0 180 f)) := ⟨h.1, by rw [wu_ne (by decide), ob_n (by decide)]; exact h.2.1, by unfold gtab; rw [wu_ne (by decide), wu_ne (by decide), wu_ne (by decide), wu_ne (by decide), wu_ne (by decide), wu_ne (by decide), wu_ne (by decide), wu_ne (by decide)]; exact h.2.2.1, by rw [wu_ne (by decide), ob_n (by decide)]; exact h.2.2.2.1, by rw [wu_ne (by decide), ob_n (by decide)]; exact h.2.2.2.2.1, by rw [wu_ne (by decide), ob_n (by decide)]; exact h.2.2.2.2.2.1, by rw [wu_ne (by decide)]; exact h.2.2.2.2.2.2.1, by rw [wu_ne (by decide), ob_n (by decide)]; exact h.2.2.2.2.2.2.2.1, by rw [wu_ne (by decide)]; exact h.2.2.2.2.2.2.2.2.1, h.2.2.2.2.2.2.2.2.2.1.up (by decide), fun k a b => by rw [wu_ne (by omega)]; exact h.2.2.2.2.2.2.2.2.2.2 k a b⟩
theorem cu_140 {W : AW} (h : CS W) {f : Nat → Int} : CS (wu W 140 (ea 0 100 f)) := ⟨h.1, by rw [wu_ne (by decide), ob_n (by decide)]; exact h.2.1, by unfold gtab; rw [wu_ne (by decide), wu_ne (by decide), wu_ne (by decide), wu_ne (by decide), wu_ne (by decide), wu_ne (by decide), wu_ne (by decide), wu_ne (by decide)]; exact h.2.2.1, by rw [wu_ne (by decide), ob_n (by decide)]; exact h.2.2.2.1, by rw [wu_ne (by decide), ob_n (by decide)]; exact h.2.2.2.2.1, by rw [wu_ne (by decide), ob_n (by decide)]; exact h.2.2.2.2.2.1, by rw [wu_ne (by decide)]; exact h.2.2.2.2.2.2.1, by rw [wu_ne (by decide), ob_n (by decide)]; exact h.2.2.2.2.2.2.2.1, by rw [wu_ne (by decide)]; exact h.2.2.2.2.2.2.2.2.1, h.2.2.2.2.2.2.2.2.2.1.up (by decide), fun k a b => by rw [wu_ne (by omega)]; exact h.2.2.2.2.2.2.2.2.2.2 k a b⟩
theorem cu_141 {W : AW} (h : CS W) {f : Nat → Int} : CS (wu W 141 (ea 0 100 f)) := ⟨h.1, by rw [wu_ne (by decide), ob_n (by decide)]; exact h.2.1, by unfold gtab; rw [wu_ne (by decide), wu_ne (by decide), wu_ne (by decide), wu_ne (by decide), wu_ne (by decide), wu_ne (by decide), wu_ne (by decide), wu_ne (by decide)]; exact h.2.2.1, by rw [wu_ne (by decide), ob_n (by decide)]; exact h.2.2.2.1, by rw [wu_ne (by decide), ob_n (by decide)]; exact h.2.2.2.2.1, by rw [wu_ne (by decide), ob_n (by decide)]; exact h.2.2.2.2.2.1, by rw [wu_ne (by decide)]; exact h.2.2.2.2.2.2.1, by rw [wu_ne (by decide), ob_n (by decide)]; exact h.2.2.2.2.2.2.2.1, by rw [wu_ne (by decide)]; exact h.2.2.2.2.2.2.2.2.1, h.2.2.2.2.2.2.2.2.2.1.up (by decide), fun k a b => by rw [wu_ne (by omega)]; exact h.2.2.2.2.2.2.2.2.2.2 k a b⟩
theorem cu_142 {W : AW} (h : CS W) {f : Nat → Int} : CS (wu W 142 (ea 2 100 f)) := ⟨h.1, by rw [wu_ne (by decide), ob_n (by decide)]; exact h.2.1, by unfold gtab; rw [wu_ne (by decide), wu_ne (by decide), wu_ne (by decide), wu_ne (by decide), wu_ne (by decide), wu_ne (by decide), wu_ne (by decide), wu_ne (by decide)]; exact h.2.2.1, by rw [wu_ne (by decide), ob_n (by decide)]; exact h.2.2.2.1, by rw [wu_ne (by decide), ob_n (by decide)]; exact h.2.2.2.2.1, by rw [wu_ne (by decide), ob_n (by decide)]; exact h.2.2.2.2.2.1, by rw [wu_ne (by decide)]; exact h.2.2.2.2.2.2.1, by rw [wu_ne (by decide), ob_n (by decide)]; exact h.2.2.2.2.2.2.2.1, by rw [wu_ne (by decide)]; exact h.2.2.2.2.2.2.2.2.1, h.2.2.2.2.2.2.2.2.2.1.up (by decide), fun k a b => by rw [wu_ne (by omega)]; exact h.2.2.2.2.2.2.2.2.2.2 k a b⟩
theorem cu_143 {W : AW} (h : CS W) {f : Nat → Int} : CS (wu W 143 (ea 0 12 f)) := ⟨h.1, by rw [wu_ne (by decide), ob_n (by decide)]; exact h.2.1, by unfold gtab; rw [wu_ne (by decide), wu_ne (by decide), wu_ne (by decide), wu_ne (by decide), wu_ne (by decide), wu_ne (by decide), wu_ne (by decide), wu_ne (by decide)]; exact h.2.2.1, by rw [wu_ne (by decide), ob_n (by decide)]; exact h.2.2.2.1, by rw [wu_ne (by decide), ob_n (by decide)]; exact h.2.2.2.2.1, by rw [wu_ne (by decide), ob_n (by decide)]; exact h.2.2.2.2.2.1, by rw [wu_ne (by decide)]; exact h.2.2.2.2.2.2.1, by rw [wu_ne (by decide), ob_n (by decide)]; exact h.2.2.2.2.2.2.2.1, by rw [wu_ne (by decide)]; exact h.2.2.2.2.2.2.2.2.1, h.2.2.2.2.2.2.2.2.2.1.up (by decide), fun k a b => by rw [wu_ne (by omega)]; exact h.2.2.2.2.2.2.2.2.2.2 k a b⟩
theorem cu_144 {W : AW} (h : CS W) {f : Nat → Int} : CS (wu W 144 (ea 3 200 f)) := ⟨h.1, by rw [wu_ne (by decide), ob_n (by decide)]; exact h.2.1, by unfold gtab; rw [wu_ne (by decide), wu_ne (by decide), wu_ne (by decide), wu_ne (by decide), wu_ne (by decide), wu_ne (by decide), wu_ne (by decide), wu_ne (by decide)]; exact h.2.2.1, by rw [wu_ne (by decide), ob_n (by decide)]; exact h.2.2.2.1, by rw [wu_ne (by decide), ob_n (by decide)]; exact h.2.2.2.2.1, by rw [wu_ne (by decide), ob_n (by decide)]; exact h.2.2.2.2.2.1, by rw [wu_ne (by decide)]; exact h.2.2.2.2.2.2.1, by rw [wu_ne (by decide), ob_n (by decide)]; exact h.2.2.2.2.2.2.2.1, by rw [wu_ne (by decide)]; exact h.2.2.2.2.2.2.2.2.1, h.2.2.2.2.2.2.2.2.2.1.up (by decide), fun k a b => by rw [wu_ne (by omega)]; exact h.2.2.2.2.2.2.2.2.2.2 k a b⟩
theorem cu_145 {W : AW} (h : CS W) {f : Nat → Int} : CS (wu W 145 (ea 0 100 f)) := ⟨h.1, by rw [wu_ne (by decide), ob_n (by decide)]; exact h.2.1, by unfold gtab; rw [wu_ne (by decide), wu_ne (by decide), wu_ne (by decide), wu_ne (by decide), wu_ne (by decide), wu_ne (by decide), wu_ne (by decide), wu_ne (by decide)]; exact h.2.2.1, by rw [wu_ne (by decide), ob_n (by decide)]; exact h.2.2.2.1, by rw [wu_ne (by decide), ob_n (by decide)]; exact h.2.2.2.2.1, by rw [wu_ne (by decide), ob_n (by decide)]; exact h.2.2.2.2.2.1, by rw [wu_ne (by decide)]; exact h.2.2.2.2.2.2.1, by rw [wu_ne (by decide), ob_n (by decide)]; exact h.2.2.2.2.2.2.2.1, by rw [wu_ne (by decide)]; exact h.2.2.2.2.2.2.2.2.1, h.2.2.2.2.2.2.2.2.2.1.up (by decide), fun k a b => by rw [wu_ne (by omega)]; exact h.2.2.2.2.2.2.2.2.2.2 k a b⟩
theorem cu_147 {W : AW} (h : CS W) {f : Nat → Int} : CS (wu W 147 (ea 3 800 f)) := ⟨h.1, by rw [wu_ne (by decide), ob_n (by decide)]; exact h.2.1, by unfold gtab; rw [wu_ne (by decide), wu_ne (by decide), wu_ne (by decide), wu_ne (by decide), wu_ne (by decide), wu_ne (by decide), wu_ne (by decide), wu_ne (by decide)]; exact h.2.2.1, by rw [wu_ne (by decide), ob_n (by decide)]; exact h.2.2.2.1, by rw [wu_ne (by decide), ob_n (by decide)]; exact h.2.2.2.2.1, by rw [wu_ne (by decide), ob_n (by decide)]; exact h.2.2.2.2.2.1, by rw [wu_ne (by decide)]; exact h.2.2.2.2.2.2.1, by rw [wu_ne (by decide), ob_n (by decide)]; exact h.2.2.2.2.2.2.2.1, by rw [wu_ne (by decide)]; exact h.2.2.2.2.2.2.2.2.1, h.2.2.2.2.2.2.2.2.2.1.up (by decide), fun k a b => by rw [wu_ne (by omega)]; exact h.2.2.2.2.2.2.2.2.2.2 k a b⟩
