-- WHAT A CALL CAN REACH: it writes nothing else
def rokv (B : Nat → Prop) : AV → Prop
  | Sum.inr (Sum.inr (some k)) => B k
  | _ => True
def roke (B : Nat → Prop) : AE → Prop
  | Sum.inl _ => True
  | Sum.inr (Sum.inl (_, _, f)) => ∀ j k, f j = some k → B k
  | Sum.inr (Sum.inr (_, fs)) => ∀ v ∈ fs, rokv B v
def rokr (B : Nat → Prop) : Option AV → Prop
  | none => True
  | some v => rokv B v
abbrev rokl (B : Nat → Prop) (st : List AV) : Prop := ∀ v ∈ st, rokv B v
def rokL (B : Nat → Prop) (L : AL) : Prop := ∀ k v, lget L k = some v → rokv B v
def Cl (B : Nat → Prop) (W : AW) : Prop := ∀ k, k < W.1 → B k → roke B (W.2 k)
def Fr (B : Nat → Prop) (W W' : AW) : Prop := W.1 ≤ W'.1 ∧ ∀ k, k < W.1 → (¬ B k ∨ k < nfz) → W'.2 k = W.2 k
theorem Fr.rf {B : Nat → Prop} {W : AW} : Fr B W W := ⟨Nat.le_refl _, fun _ _ _ => rfl⟩
theorem Fr.tr {B : Nat → Prop} {W W1 W2 : AW} (h : Fr B W W1) (g : Fr B W1 W2) : Fr B W W2 := ⟨Nat.le_trans h.1 g.1, fun k h1 h2 => (g.2 k (Nat.lt_of_lt_of_le h1 h.1) h2).trans (h.2 k h1 h2)⟩
theorem Fr.up {B : Nat → Prop} {W : AW} {j : Nat} {e : AE} (hj : B j) (hz : nfz ≤ j) : Fr B W (wu W j e) := ⟨Nat.le_refl _, fun k _ h => fu_ne _ _ (fun q => by subst q; rcases h with h | h; exact h hj; omega)⟩
theorem Fr.new {B : Nat → Prop} {W : AW} {e : AE} : Fr B W (wn W e) := ⟨Nat.le_succ _, fun k h _ => fu_ne _ _ (by omega)⟩
theorem Cl.up {B : Nat → Prop} {W : AW} {j : Nat} {e : AE} (h : Cl B W) (he : roke B e) : Cl B (wu W j e) := fun k h1 h2 => by
  show roke B (fu W.2 j e k)
  by_cases hk : k = j
  · rw [hk, fu_eq]; exact he
  · rw [fu_ne _ _ hk]; exact h k h1 h2
theorem Cl.new {B : Nat → Prop} {W : AW} {e : AE} (h : Cl B W) (he : roke B e) : Cl B (wn W e) := fun k h1 h2 => by
  show roke B (fu W.2 W.1 e k)
  by_cases hk : k = W.1
  · rw [hk, fu_eq]; exact he
  · rw [fu_ne _ _ hk]; exact h k (by have h1 : k < W.1 + 1 := h1; omega) h2
theorem lset_get {v : Option AV} {u : AV} : ∀ {L : AL} {k j : Nat}, lget (lset L k v) j = some u → v = some u ∨ lget L j = some u
  | [], _, _, h => by cases h
  | _ :: _, 0, 0, h => Or.inl h
  | _ :: _, 0, _ + 1, h => Or.inr h
  | _ :: _, _ + 1, 0, h => Or.inr h
  | _ :: l, k + 1, j + 1, h => lset_get (L := l) (k := k) (j := j) h
theorem rokL.set {B : Nat → Prop} {L : AL} {k : Nat} {v : AV} (h : rokL B L) (hv : rokv B v) : rokL B (lset L k (some v)) := fun j u hu => by
  rcases lset_get hu with e | e
  · cases e; exact hv
  · exact h j u e
theorem rokL.non {B : Nat → Prop} {L : AL} {k : Nat} (h : rokL B L) : rokL B (lset L k none) := fun j u hu => by
  rcases lset_get hu with e | e
  · cases e
  · exact h j u e
theorem lget_app {l2 : AL} {v : AV} : ∀ {l : AL} {k : Nat}, lget (l ++ l2) k = some v → lget l k = some v ∨ ∃ j, lget l2 j = some v
  | [], k, h => Or.inr ⟨k, h⟩
  | _ :: _, 0, h => Or.inl h
  | _ :: l, k + 1, h => lget_app (l := l) h
theorem lget_rep {v : AV} : ∀ {n k : Nat}, lget (List.replicate n (none : Option AV)) k = some v → False
  | 0, _, h => by cases h
  | _ + 1, 0, h => by cases h
  | n + 1, k + 1, h => lget_rep (n := n) (k := k) h
theorem lay_get {v : AV} : ∀ {as : List AV} {k : Nat}, lget (lay1 as) k = some v → v ∈ as
  | [], _, h => by cases h
  | a :: as, k, h => by
    rcases a with z | z | r
    · match k, h with
      | 0, h => cases h; exact List.mem_cons_self
      | k + 1, h => exact List.mem_cons_of_mem _ (lay_get (as := as) (k := k) h)
    · match k, h with
      | 0, h => cases h; exact List.mem_cons_self
      | 1, h => cases h
      | k + 2, h => exact List.mem_cons_of_mem _ (lay_get (as := as) (k := k) h)
    · match k, h with
      | 0, h => cases h; exact List.mem_cons_self
      | k + 1, h => exact List.mem_cons_of_mem _ (lay_get (as := as) (k := k) h)
theorem rokL.ent {B : Nat → Prop} {n : Nat} {as : List AV} (h : rokl B as) : rokL B (ent n as) := fun k v hv => by
  rcases lget_app hv with e | ⟨j, e⟩
  · exact h v (lay_get e)
  · exact (lget_rep e).elim
theorem pops_ok {B : Nat → Prop} {n : Nat} {st as rest : List AV} (hp : pops n st [] = some (as, rest)) (h : rokl B st) : rokl B as ∧ rokl B rest := by
  obtain ⟨l, e1, e2, -⟩ := pops_spec hp
  rw [List.append_nil] at e1
  subst e1
  exact ⟨fun v hv => h v (by rw [e2]; exact List.mem_append_left _ (List.mem_reverse.mpr hv)), fun v hv => h v (by rw [e2]; exact List.mem_append_right _ hv)⟩
def ck3r (q : Nat × AI) : Bool := match q.2 with
  | (3, a, _, _, _) => decide (a < 67)
  | _ => true
theorem ck3_all : (mtab.all fun m => m.2.2.all ck3r) = true := by decide +kernel
theorem ck3 {y pc a len : Nat} {z : Int} {l : List (Int × Nat)} (h : cd y pc = (3, a, len, z, l)) : a < nfz := by
  have hm : (mtr y).2.2 = [] ∨ mtr y ∈ mtab := by
    unfold mtr
    rw [List.getD_eq_getElem?_getD]
    cases hj : mtab[y]? with
    | none => exact Or.inl rfl
    | some m => exact Or.inr (List.mem_of_getElem? hj)
  unfold cd at h
  rcases look_mem (d := ((0, 0, 0, 0, []) : AI)) (mtr y).2.2 pc with e | e
  · rw [h] at e
    cases e
  · rcases hm with hm | hm
    · rw [hm] at e
      cases e
    · have := List.all_eq_true.mp (List.all_eq_true.mp ck3_all _ hm) _ e
      rw [h] at this
      exact of_decide_eq_true this
theorem nwo {B : Nat → Prop} {c n : Nat} : roke B (er c n (fun _ => none)) := fun _ _ h => by cases h
theorem fdo {B : Nat → Prop} {c : Nat} : roke B (eo c (fdf c)) := by
  show ∀ v ∈ fdf c, rokv B v
  by_cases hc : c < 13
  · have h := fun v hv => (co_all c hc).1.choose_spec.choose_spec.choose_spec.2.2.2.2.2.2.2.2 0 v hv
    intro v hv
    have := h v hv
    rcases v with z | z | _ | k
    · trivial
    · trivial
    · trivial
    · exact absurd this (Nat.not_lt_zero k)
  · have hl : fdl.length = 13 := by decide +kernel
    have e : fdf c = [] := by
      unfold fdf
      rw [List.getD_eq_getElem?_getD, List.getElem?_eq_none (by omega)]
      rfl
    rw [e]
    intro v hv
    cases hv
theorem fset_rok {B : Nat → Prop} {v : AV} (hv : rokv B v) : ∀ {fs : List AV} {k : Nat}, (∀ u ∈ fs, rokv B u) → ∀ u ∈ fset fs k v, rokv B u
  | [], _, h => h
  | a :: l, 0, h => List.forall_mem_cons.mpr ⟨hv, (List.forall_mem_cons.mp h).2⟩
  | a :: l, k + 1, h => List.forall_mem_cons.mpr ⟨(List.forall_mem_cons.mp h).1, fset_rok hv (fs := l) (k := k) (List.forall_mem_cons.mp h).2⟩
theorem r_t {B : Nat → Prop} {a : AV} {st : List AV} (h : rokl B (a :: st)) : rokl B st := (List.forall_mem_cons.mp h).2
theorem r_h {B : Nat → Prop} {a : AV} {st : List AV} (h : rokl B (a :: st)) : rokv B a := (List.forall_mem_cons.mp h).1
theorem r_c {B : Nat → Prop} {a : AV} {st : List AV} (h : rokv B a) (g : rokl B st) : rokl B (a :: st) := List.forall_mem_cons.mpr ⟨h, g⟩
theorem cl_er {B : Nat → Prop} {W : AW} {k c n : Nat} {f : Nat → Option Nat} (hC : Cl B W) (hk : k < W.1) (hB : B k) (he : W.2 k = Sum.inr (Sum.inl (c, n, f))) (j : Nat) : rokv B (vo (f j)) := by
  have := hC k hk hB
  rw [he] at this
  cases hf : f j with
  | none => trivial
  | some q => exact this j q hf
theorem cl_eo {B : Nat → Prop} {W : AW} {k c : Nat} {fs : List AV} (hC : Cl B W) (hk : k < W.1) (hB : B k) (he : W.2 k = Sum.inr (Sum.inr (c, fs))) : ∀ v ∈ fs, rokv B v := by
  have := hC k hk hB
  rw [he] at this
  exact this
theorem er_up {B : Nat → Prop} {c n i j : Nat} {f : Nat → Option Nat} (h : ∀ q, rokv B (vo (f q))) (hj : B j) : roke B (er c n (fu f i (some j))) := fun a b q => by
  simp only [fu] at q
  split at q
  · cases q; exact hj
  · have := h a
    rw [q] at this
    exact this
theorem psh_ok {B : Nat → Prop} {r : Option AV} {st : List AV} (h : rokr B r) (g : rokl B st) : rokl B (psh r st) := by
  cases r with
  | none => exact g
  | some v => exact r_c h g
section FRAME
variable {B : Nat → Prop} {n0 : Nat}
/-- with what a call ends, told of what it could reach -/
abbrev QF (B : Nat → Prop) (n0 : Nat) (W : AW) (Q : AQ) : AQ := fun r W' => Q r W' ∧ Fr B W W' ∧ Cl B W' ∧ n0 ≤ W'.1 ∧ rokr B r
abbrev XF (B : Nat → Prop) (n0 : Nat) : PX := fun y pc L st W bc bs Q => n0 ≤ W.1 → Cl B W → rokl B st → rokL B L → G y pc L st W bc bs (QF B n0 W Q)
theorem goF {y pc : Nat} {L : AL} {st : List AV} {W W2 : AW} {bc bs : Nat} {Q : AQ} (h : XF B n0 y pc L st W2 bc bs Q) (hf : Fr B W W2) (hn : n0 ≤ W2.1) (hc : Cl B W2) (hs : rokl B st) (hl : rokL B L) : G y pc L st W2 bc bs (QF B n0 W Q) :=
  G_post (h hn hc hs hl) (fun _ _ q => ⟨q.1, hf.tr q.2.1, q.2.2⟩)
set_option maxHeartbeats 10000000 in
theorem frame_step (hB : ∀ k, n0 ≤ k → B k) (hfz : ∀ k, k < nfz → B k) {y pc : Nat} {i : AI} (hi : cd y pc = i) {L : AL} {st : List AV} {W : AW} {bc bs : Nat} {Q : AQ} (hn : n0 ≤ W.1) (hC : Cl B W) (hs : rokl B st) (hl : rokL B L)
    (h : sem (XF B n0) y pc i L st W bc bs Q) : sem G y pc i L st W bc bs (QF B n0 W Q) := by
  have hN : ∀ {e : AE}, n0 ≤ (wn W e).1 := Nat.le_succ_of_le hn
  unfold sem at h ⊢
  split at h <;> (try dsimp only at h) <;> (try dsimp only) <;> (repeat' split at h) <;> (try dsimp only) <;>
    first
    | exact h.elim
    | exact goF h Fr.rf hn hC (r_c trivial hs) hl
    | exact goF h Fr.rf hn hC (r_c (hfz _ (ck3 hi)) hs) hl
    | exact goF h Fr.rf hn hC (r_c (hl _ _ (by assumption)) hs) hl
    | exact fun r hr => goF (h r hr) Fr.rf hn hC (r_c (by rcases hr with rfl | rfl; exact trivial; exact hfz _ (by decide)) hs) hl
    | exact ⟨h.1, h.2.1, goF h.2.2 Fr.rf hn hC (r_t hs) (hl.set (r_h hs))⟩
    | exact ⟨h.1, h.2.1, goF h.2.2 Fr.rf hn hC (r_t hs) (hl.set (r_h hs)).non⟩
    | exact ⟨h.1, h.2.1, goF h.2.2 Fr.rf hn hC hs (hl.set trivial)⟩
    | exact ⟨h.1, goF h.2 Fr.rf hn hC (r_c trivial (r_t (r_t hs))) hl⟩
    | exact ⟨h.1, h.2.1, goF h.2.2 Fr.rf hn hC (r_c trivial (r_t (r_t hs))) hl⟩
    | exact ⟨h.1, goF h.2 Fr.rf hn hC (r_c trivial (r_t hs)) hl⟩
    | exact goF h Fr.rf hn hC (r_c trivial (r_t (r_t hs))) hl
    | exact goF h Fr.rf hn hC (r_c trivial (r_t hs)) hl
    | exact ⟨h.1, goF h.2 Fr.rf hn hC (r_c (r_h hs) hs) hl⟩
    | exact ⟨h.1, h.2.1, goF h.2.2 Fr.rf hn hC (r_c (r_h hs) (r_c (r_h (r_t hs)) hs)) hl⟩
    | exact ⟨h.1, goF h.2 Fr.rf hn hC (r_t hs) hl⟩
    | exact goF h Fr.rf hn hC hs hl
    | exact ⟨fun c => goF (h.1 c) Fr.rf hn hC (r_t hs) hl, fun c => goF (h.2 c) Fr.rf hn hC (r_t hs) hl⟩
    | exact ⟨fun c => goF (h.1 c) Fr.rf hn hC (r_t (r_t hs)) hl, fun c => goF (h.2 c) Fr.rf hn hC (r_t (r_t hs)) hl⟩
    | exact sws_mono (fun _ g => goF g Fr.rf hn hC (r_t hs) hl) _ _ _ h
    | exact ⟨h.1, h.2.1, h.2.2.1, goF h.2.2.2 Fr.rf hn hC (r_c trivial (r_t (r_t hs))) hl⟩
    | exact ⟨h.1, h.2.1, h.2.2.1, goF h.2.2.2 Fr.rf hn hC (r_c (cl_er hC h.1 (r_h (r_t hs)) (by assumption) _) (r_t (r_t hs))) hl⟩
    | exact ⟨h.1, h.2.1, h.2.2.1, h.2.2.2.1, goF h.2.2.2.2 (Fr.up (r_h (r_t (r_t hs))) h.1) hn (hC.up trivial) (r_t (r_t (r_t hs))) hl⟩
    | exact ⟨h.1, h.2.1, h.2.2.1, h.2.2.2.1, h.2.2.2.2.1, goF h.2.2.2.2.2 (Fr.up (r_h (r_t (r_t hs))) h.1) hn (hC.up trivial) (r_t (r_t (r_t hs))) hl⟩
    | exact ⟨h.1, h.2.1, h.2.2.1, h.2.2.2.1, h.2.2.2.2.1, h.2.2.2.2.2.1, h.2.2.2.2.2.2.1, h.2.2.2.2.2.2.2.1, goF h.2.2.2.2.2.2.2.2 (Fr.up (r_h (r_t (r_t hs))) h.1) hn (hC.up (er_up (cl_er hC h.2.1 (r_h (r_t (r_t hs))) (by assumption)) (r_h hs))) (r_t (r_t (r_t hs))) hl⟩
    | exact ⟨h.1, h.2.1, h.2.2.1, goF h.2.2.2 Fr.rf hn hC (r_c trivial (r_t hs)) hl⟩
    | exact ⟨h.1, h.2.1, h.2.2.1, h.2.2.2.1, goF h.2.2.2.2 Fr.new hN (hC.new trivial) (r_c (hB _ hn) (r_t hs)) hl⟩
    | exact ⟨h.1, h.2.1, h.2.2.1, h.2.2.2.1, goF h.2.2.2.2 Fr.new hN (hC.new nwo) (r_c (hB _ hn) (r_t hs)) hl⟩
    | exact ⟨h.1, h.2.1, goF h.2.2 Fr.new hN (hC.new fdo) (r_c (hB _ hn) hs) hl⟩
    | exact ⟨h.1, h.2.1, goF h.2.2 Fr.rf hn hC (r_c (cl_eo hC h.2.1 (r_h hs) (by assumption) _ (fget_mem (by assumption))) (r_t hs)) hl⟩
    | exact h.2.2.elim
    | exact ⟨h.1, h.2.1, h.2.2.1, h.2.2.2.1, goF h.2.2.2.2 (Fr.up (r_h (r_t hs)) h.2.1) hn (hC.up (fset_rok (r_h hs) (cl_eo hC h.2.2.1 (r_h (r_t hs)) (by assumption)))) (r_t (r_t hs)) hl⟩
    | exact h.2.2.2.1.elim
    | (obtain ⟨a1, a2, a3, a4, P, p1, p2⟩ := h; have hp := pops_ok (by assumption) hs; exact ⟨a1, a2, a3, a4, QF B n0 W P, goF p1 Fr.rf hn hC (fun _ q => by cases q) (rokL.ent hp.1), fun r W' q => goF (p2 r W' q.1) q.2.1 q.2.2.2.1 q.2.2.1 (psh_ok q.2.2.2.2 hp.2) hl⟩)
    | (obtain ⟨a1, a2, a3, a4, a5, a6, P, p1, p2⟩ := h; have hp := pops_ok (by assumption) hs; exact ⟨a1, a2, a3, a4, a5, a6, QF B n0 W P, goF p1 Fr.rf hn hC (fun _ q => by cases q) (rokL.ent hp.1), fun r W' q => goF (p2 r W' q.1) q.2.1 q.2.2.2.1 q.2.2.1 (psh_ok q.2.2.2.2 hp.2) hl⟩)
    | exact ⟨h.1, h.2.1, h.2.2.1, h.2.2.2.1, h.2.2.2.2.1, h.2.2.2.2.2.1, h.2.2.2.2.2.2.1, h.2.2.2.2.2.2.2.1, h.2.2.2.2.2.2.2.2.1, h.2.2.2.2.2.2.2.2.2.1, goF h.2.2.2.2.2.2.2.2.2.2 (Fr.up (r_h (r_t (r_t hs))) h.2.2.1) hn (hC.up trivial) (r_t (r_t (r_t (r_t (r_t hs))))) hl⟩
    | exact ⟨h.1, h.2.1, h.2.2.1, h.2.2.2.1, h.2.2.2.2.1, goF h.2.2.2.2.2 Fr.new hN (hC.new trivial) (r_c (hB _ hn) (r_t hs)) hl⟩
    | exact ⟨h.1, h.2.1, goF h.2.2 Fr.rf hn hC hs hl⟩
    | exact ⟨h.1, h.2, Fr.rf, hC, hn, r_h hs⟩
    | exact ⟨h.1, h.2, Fr.rf, hC, hn, trivial⟩
/-- a run writes nothing but what it can reach, and what it makes -/
theorem G_frame (hB : ∀ k, n0 ≤ k → B k) (hfz : ∀ k, k < nfz → B k) {y pc : Nat} {L : AL} {st : List AV} {W : AW} {bc bs : Nat} {Q : AQ} (h : G y pc L st W bc bs Q) (hn : n0 ≤ W.1) (hC : Cl B W) (hs : rokl B st) (hl : rokL B L) : G y pc L st W bc bs (QF B n0 W Q) :=
  G_ind (XF B n0) (fun _ _ _ _ _ _ _ _ hh hn hC hs hl => G_in (frame_step hB hfz rfl hn hC hs hl hh)) h hn hC hs hl
theorem Gm_frame (hB : ∀ k, n0 ≤ k → B k) (hfz : ∀ k, k < nfz → B k) {z : Nat} {as : List AV} {W : AW} {Q : AQ} (h : Gm z as W Q) (hn : n0 ≤ W.1) (hC : Cl B W) (hs : rokl B as) : Gm z as W (QF B n0 W Q) :=
  G_frame hB hfz h hn hC (fun _ q => by cases q) (rokL.ent hs)
end FRAME
