-- WORLDS WITH NEW CELLS BEHIND
def xget : List AE → Nat → AE → AE
  | [], _, d => d
  | e :: _, 0, _ => e
  | _ :: l, k + 1, d => xget l k d
def xset : List AE → Nat → AE → List AE
  | [], _, _ => []
  | _ :: l, 0, e => e :: l
  | a :: l, k + 1, e => a :: xset l k e
def wx (n : Nat) (f : Nat → AE) (l : List AE) : AW := (n + l.length, fun j => if n ≤ j then xget l (j - n) (f j) else f j)
theorem wx_1 {n : Nat} {f : Nat → AE} {l : List AE} : (wx n f l).1 = n + l.length := rfl
theorem wx_n {n : Nat} {f : Nat → AE} {l : List AE} (i : Nat) : (wx n f l).2 (n + i) = xget l i (f (n + i)) := by
  show (if n ≤ n + i then xget l (n + i - n) (f (n + i)) else f (n + i)) = _
  rw [if_pos (Nat.le_add_right n i), Nat.add_sub_cancel_left]
theorem wx_0 {n : Nat} {f : Nat → AE} {l : List AE} : (wx n f l).2 n = xget l 0 (f n) := wx_n 0
theorem wx_o {n : Nat} {f : Nat → AE} {l : List AE} {a : Nat} (h : a < n) : (wx n f l).2 a = f a := if_neg (Nat.not_le.mpr h)
theorem xget_app {e d : AE} : ∀ {l : List AE} {k : Nat}, xget (l ++ [e]) k d = if k = l.length then e else xget l k d
  | [], 0 => rfl
  | [], k + 1 => rfl
  | a :: l, 0 => rfl
  | a :: l, k + 1 => by
    show xget (l ++ [e]) k d = _
    rw [xget_app]
    simp only [List.length_cons, Nat.add_right_cancel_iff]
    rfl
theorem xget_set {e d : AE} : ∀ {l : List AE} {i k : Nat}, i < l.length → xget (xset l i e) k d = if k = i then e else xget l k d
  | [], _, _, h => by cases h
  | a :: l, 0, 0, _ => rfl
  | a :: l, 0, k + 1, _ => rfl
  | a :: l, i + 1, 0, _ => rfl
  | a :: l, i + 1, k + 1, h => by
    show xget (xset l i e) k d = _
    rw [xget_set (Nat.lt_of_succ_lt_succ h)]
    simp only [Nat.add_right_cancel_iff]
    rfl
theorem xset_len {e : AE} : ∀ {l : List AE} {i : Nat}, (xset l i e).length = l.length
  | [], _ => rfl
  | _ :: _, 0 => rfl
  | _ :: l, i + 1 => by simp only [xset, List.length_cons, xset_len]
theorem wn_wx {n : Nat} {f : Nat → AE} {l : List AE} {e : AE} : wn (wx n f l) e = wx n f (l ++ [e]) := by
  unfold wn wx
  refine Prod.ext (by simp [Nat.add_assoc]) (funext fun j => ?_)
  simp only [fu]
  by_cases h : n ≤ j
  · rw [if_pos h, if_pos h, xget_app]
    by_cases h2 : j = n + l.length
    · rw [if_pos h2, if_pos (by omega)]
    · rw [if_neg h2, if_neg (by omega)]
  · rw [if_neg h, if_neg h, if_neg (by omega)]
theorem wu_n {n : Nat} {f : Nat → AE} {l : List AE} {e : AE} (i : Nat) (h : i < l.length) : wu (wx n f l) (n + i) e = wx n f (xset l i e) := by
  unfold wu wx
  refine Prod.ext (by simp [xset_len]) (funext fun j => ?_)
  simp only [fu]
  by_cases h1 : n ≤ j
  · rw [if_pos h1, if_pos h1, xget_set h]
    by_cases h2 : j = n + i
    · rw [if_pos h2, if_pos (by omega)]
    · rw [if_neg h2, if_neg (by omega)]
  · rw [if_neg h1, if_neg h1, if_neg (by omega)]
theorem wu_0 {n : Nat} {f : Nat → AE} {l : List AE} {e : AE} (h : 0 < l.length) : wu (wx n f l) n e = wx n f (xset l 0 e) := wu_n 0 h
theorem wu_o {n : Nat} {f : Nat → AE} {l : List AE} {e : AE} {a : Nat} (h : a < n) : wu (wx n f l) a e = wx n (fu f a e) l := by
  unfold wu wx
  refine Prod.ext rfl (funext fun j => ?_)
  simp only [fu]
  by_cases h1 : n ≤ j
  · rw [if_pos h1, if_pos h1, if_neg (by omega), if_neg (by omega)]
  · rw [if_neg h1, if_neg h1]
theorem fu_fu {α : Type} {f : Nat → α} {a : Nat} {x y : α} : fu (fu f a x) a y = fu f a y := by
  funext j
  simp only [fu]
  split <;> rfl
theorem xget_cat {d : AE} : ∀ {l l2 : List AE} {k : Nat}, l.length ≤ k → xget (l ++ l2) k d = xget l2 (k - l.length) d
  | [], _, _, _ => rfl
  | a :: l, l2, 0, h => by cases h
  | a :: l, l2, k + 1, h => by
    show xget (l ++ l2) k d = _
    rw [xget_cat (Nat.le_of_succ_le_succ h), List.length_cons, Nat.add_sub_add_right]
theorem xget_cat1 {d : AE} : ∀ {l l2 : List AE} {k : Nat}, k < l.length → xget (l ++ l2) k d = xget l k d
  | [], _, _, h => by cases h
  | a :: l, l2, 0, h => rfl
  | a :: l, l2, k + 1, h => xget_cat1 (l := l) (Nat.lt_of_succ_lt_succ h)
/-- behind a constructor's call: what it made stands behind what was made before, its object is told anew -/
theorem wx_call {n : Nat} {f : Nat → AE} {l l2 : List AE} {e : AE} (i : Nat) (hi : i < l.length) : wx (n + l.length) (fu (wx n f l).2 (n + i) e) l2 = wx n f (xset l i e ++ l2) := by
  have hu : fu (wx n f l).2 (n + i) e = (wx n f (xset l i e)).2 := congrArg Prod.snd (wu_n (n := n) (f := f) (l := l) (e := e) i hi)
  rw [hu]
  unfold wx
  refine Prod.ext (by simp [xset_len, Nat.add_assoc]) (funext fun j => ?_)
  show (if n + l.length ≤ j then xget l2 (j - (n + l.length)) (if n ≤ j then xget (xset l i e) (j - n) (f j) else f j) else if n ≤ j then xget (xset l i e) (j - n) (f j) else f j) = if n ≤ j then xget (xset l i e ++ l2) (j - n) (f j) else f j
  have hl : (xset l i e).length = l.length := xset_len
  by_cases h1 : n + l.length ≤ j
  · rw [if_pos h1, if_pos (by omega), if_pos (by omega), xget_cat (by omega), hl, show j - n - l.length = j - (n + l.length) by omega]
    have : ∀ (m : List AE) (k : Nat) (d : AE), m.length ≤ k → xget m k d = d := by
      intro m
      induction m with
      | nil => intros; rfl
      | cons a m ih =>
        intro k d hk
        match k, hk with
        | k + 1, hk => exact ih k d (Nat.le_of_succ_le_succ hk)
    rw [this (xset l i e) (j - n) (f j) (by omega)]
  · rw [if_neg h1]
    by_cases h2 : n ≤ j
    · rw [if_pos h2, if_pos h2, xget_cat1 (by omega)]
    · rw [if_neg h2, if_neg h2]
theorem wx_e {W : AW} : wx W.1 W.2 [] = W := by
  unfold wx
  refine Prod.ext rfl (funext fun j => ?_)
  show (if W.1 ≤ j then W.2 j else W.2 j) = W.2 j
  split <;> rfl
abbrev z0 : Nat → Int := fun _ => 0
theorem wu_s {W : AW} {k : Nat} {e : AE} : (wu W k e).2 k = e := fu_eq _ _ _
theorem wu_f {W : AW} {k : Nat} {e : AE} : (wu W k e).1 = W.1 := rfl
theorem wu_w {W : AW} {k : Nat} {e e2 : AE} : wu (wu W k e) k e2 = wu W k e2 := Prod.ext rfl fu_fu
theorem wu_id {W : AW} {k : Nat} {e : AE} (h : W.2 k = e) : wu W k e = W := by
  refine Prod.ext rfl (funext fun j => ?_)
  show fu W.2 k e j = W.2 j
  by_cases hj : j = k
  · rw [hj, fu_eq, h]
  · rw [fu_ne _ _ hj]
/-- an array filled below n -/
def flf (g : Nat → Int) (n : Nat) (v : Int) : Nat → Int := fun j => if j < n then v else g j
theorem flf_0 {g : Nat → Int} {v : Int} : flf g 0 v = g := by
  funext j
  simp [flf]
theorem flf_s {g : Nat → Int} {n : Nat} {v : Int} : fu (flf g n v) n v = flf g (n + 1) v := by
  funext j
  simp only [fu, flf]
  by_cases h : j = n
  · rw [if_pos h, if_pos (by omega)]
  · rw [if_neg h]
    by_cases h2 : j < n
    · rw [if_pos h2, if_pos (by omega)]
    · rw [if_neg h2, if_neg (by omega)]
/-- a constructor's call out of a world with new cells -/
theorem ctor_in {z : Nat} {as : List AV} {n : Nat} {f : Nat → AE} {l l2 : List AE} {e : AE} {Q : AQ} (i : Nat) (h : ∀ {Q' : AQ}, Q' none (wx (n + l.length) (fu (wx n f l).2 (n + i) e) l2) → Gm z as (wx (n + l.length) (wx n f l).2 []) Q') (hi : i < l.length) (hq : Q none (wx n f (xset l i e ++ l2))) : Gm z as (wx n f l) Q := by
  have := h (Q' := Q) (by rw [wx_call i hi]; exact hq)
  rwa [show wx (n + l.length) (wx n f l).2 [] = wx n f l from wx_e (W := wx n f l)] at this
-- branches told by 'if'
theorem iteq {c p q : Prop} : ((c → p) ∧ (¬ c → q)) = @ite Prop c (Classical.propDecidable c) p q := by
  by_cases h : c
  · rw [if_pos h]
    exact propext ⟨fun x => x.1 h, fun x => ⟨fun _ => x, fun y => absurd h y⟩⟩
  · rw [if_neg h]
    exact propext ⟨fun x => x.2 h, fun x => ⟨fun y => absurd y h, fun _ => x⟩⟩
theorem t_44 {X : PX} {y pc : Nat} {L : AL} {st : List AV} {W : AW} {bc bs : Nat} {Q : AQ} {p1 len : Nat} {z : Int} {l : List (Int × Nat)} {a : Int} : sem X y pc (44, p1, len, z, l) L (vi a :: st) W bc bs Q = @ite Prop (cnd z a 0) (Classical.propDecidable _) (X y p1 L st W bc bs Q) (X y (pc + len) L st W bc bs Q) := iteq
theorem t_45 {X : PX} {y pc : Nat} {L : AL} {st : List AV} {W : AW} {bc bs : Nat} {Q : AQ} {p1 len : Nat} {z : Int} {l : List (Int × Nat)} {a b : Int} : sem X y pc (45, p1, len, z, l) L (vi b :: vi a :: st) W bc bs Q = @ite Prop (cnd z a b) (Classical.propDecidable _) (X y p1 L st W bc bs Q) (X y (pc + len) L st W bc bs Q) := iteq
theorem t_46 {X : PX} {y pc : Nat} {L : AL} {st : List AV} {W : AW} {bc bs : Nat} {Q : AQ} {p1 len : Nat} {z : Int} {l : List (Int × Nat)} {r : Option Nat} : sem X y pc (46, p1, len, z, l) L (vo r :: st) W bc bs Q = @ite Prop (r = none) (Classical.propDecidable _) (X y p1 L st W bc bs Q) (X y (pc + len) L st W bc bs Q) := iteq
theorem t_47 {X : PX} {y pc : Nat} {L : AL} {st : List AV} {W : AW} {bc bs : Nat} {Q : AQ} {p1 len : Nat} {z : Int} {l : List (Int × Nat)} {r : Option Nat} : sem X y pc (47, p1, len, z, l) L (vo r :: st) W bc bs Q = @ite Prop (r = none) (Classical.propDecidable _) (X y (pc + len) L st W bc bs Q) (X y p1 L st W bc bs Q) := by
  rw [← iteq]
  exact propext ⟨fun h => ⟨h.2, h.1⟩, fun h => ⟨h.2, h.1⟩⟩
theorem sws_n {d : Nat} {z : Int} {K : Nat → Prop} : sws [] d z K = K d := rfl
theorem sws_c {k : Int} {t : Nat} {r : List (Int × Nat)} {d : Nat} {z : Int} {K : Nat → Prop} : sws ((k, t) :: r) d z K = @ite Prop (z = k) (Classical.propDecidable _) (K t) (sws r d z K) := iteq
theorem lcq_0 {a b : Int} : (lcq a b = 0) = (a = b) := propext (by unfold lcq; split <;> (try split) <;> omega)
theorem lcq_2 {a b : Int} : (lcq a b < 0) = (a < b) := propext (by unfold lcq; split <;> (try split) <;> omega)
theorem lcq_3 {a b : Int} : (0 ≤ lcq a b) = (b ≤ a) := propext (by unfold lcq; split <;> (try split) <;> omega)
theorem lcq_4 {a b : Int} : (0 < lcq a b) = (b < a) := propext (by unfold lcq; split <;> (try split) <;> omega)
theorem lcq_5 {a b : Int} : (lcq a b ≤ 0) = (a ≤ b) := propext (by unfold lcq; split <;> (try split) <;> omega)
