theorem sws_mono {K K' : Nat → Prop} (h : ∀ t, K t → K' t) : ∀ (l : List (Int × Nat)) (d : Nat) (z : Int), sws l d z K → sws l d z K'
  | [], d, _, hs => h d hs
  | (k, t) :: r, d, z, hs => ⟨fun e => h t (hs.1 e), fun e => sws_mono h r d z (hs.2 e)⟩
set_option maxHeartbeats 4000000 in
theorem sem_mono2 {X X' : PX} {Q Q' : AQ} (hq : ∀ r W, Q r W → Q' r W) (h1 : ∀ y pc L st W bc bs P, X y pc L st W bc bs P → X' y pc L st W bc bs P)
    (h2 : ∀ y pc L st W bc bs, X y pc L st W bc bs Q → X' y pc L st W bc bs Q') {y pc : Nat} {i : AI} {L : AL} {st : List AV} {W : AW} {bc bs : Nat} :
    sem X y pc i L st W bc bs Q → sem X' y pc i L st W bc bs Q' := by
  intro hs
  unfold sem at hs ⊢
  split at hs <;> (try dsimp only at hs) <;> (try dsimp only) <;> (repeat' split at hs) <;> (try dsimp only) <;>
    first
    | exact hs.elim
    | exact h2 _ _ _ _ _ _ _ hs
    | exact fun r hr => h2 _ _ _ _ _ _ _ (hs r hr)
    | exact ⟨fun c => h2 _ _ _ _ _ _ _ (hs.1 c), fun c => h2 _ _ _ _ _ _ _ (hs.2 c)⟩
    | exact sws_mono (fun _ g => h2 _ _ _ _ _ _ _ g) _ _ _ hs
    | exact ⟨hs.1, h2 _ _ _ _ _ _ _ hs.2⟩
    | exact ⟨hs.1, hs.2.1, h2 _ _ _ _ _ _ _ hs.2.2⟩
    | exact ⟨hs.1, hs.2.1, hs.2.2.1, h2 _ _ _ _ _ _ _ hs.2.2.2⟩
    | exact ⟨hs.1, hs.2.1, hs.2.2.1, hs.2.2.2.1, h2 _ _ _ _ _ _ _ hs.2.2.2.2⟩
    | exact ⟨hs.1, hs.2.1, hs.2.2.1, hs.2.2.2.1, hs.2.2.2.2.1, h2 _ _ _ _ _ _ _ hs.2.2.2.2.2⟩
    | exact ⟨hs.1, hs.2.1, hs.2.2.1, hs.2.2.2.1, hs.2.2.2.2.1, hs.2.2.2.2.2.1, h2 _ _ _ _ _ _ _ hs.2.2.2.2.2.2⟩
    | exact ⟨hs.1, hs.2.1, hs.2.2.1, hs.2.2.2.1, hs.2.2.2.2.1, hs.2.2.2.2.2.1, hs.2.2.2.2.2.2.1, hs.2.2.2.2.2.2.2.1, h2 _ _ _ _ _ _ _ hs.2.2.2.2.2.2.2.2⟩
    | exact ⟨hs.1, hs.2.1, hs.2.2.1, hs.2.2.2.1, hs.2.2.2.2.1, hs.2.2.2.2.2.1, hs.2.2.2.2.2.2.1, hs.2.2.2.2.2.2.2.1, hs.2.2.2.2.2.2.2.2.1, hs.2.2.2.2.2.2.2.2.2.1, h2 _ _ _ _ _ _ _ hs.2.2.2.2.2.2.2.2.2.2⟩
    | (obtain ⟨a1, a2, a3, a4, P, p1, p2⟩ := hs; exact ⟨a1, a2, a3, a4, P, h1 _ _ _ _ _ _ _ _ p1, fun r W' hp => h2 _ _ _ _ _ _ _ (p2 r W' hp)⟩)
    | (obtain ⟨a1, a2, a3, a4, a5, a6, P, p1, p2⟩ := hs; exact ⟨a1, a2, a3, a4, a5, a6, P, h1 _ _ _ _ _ _ _ _ p1, fun r W' hp => h2 _ _ _ _ _ _ _ (p2 r W' hp)⟩)
    | exact ⟨hs.1, hq _ _ hs.2⟩
    | (simp_all; done)
/-- THE LEAST PREDICATE that the rules close: from here the machine comes to an end, and Q holds there -/
def G : PX := fun y pc L st W bc bs Q => ∀ X : PX, (∀ y pc L st W bc bs Q, sem X y pc (cd y pc) L st W bc bs Q → X y pc L st W bc bs Q) → X y pc L st W bc bs Q
theorem G_in {y pc : Nat} {L : AL} {st : List AV} {W : AW} {bc bs : Nat} {Q : AQ} (h : sem G y pc (cd y pc) L st W bc bs Q) : G y pc L st W bc bs Q :=
  fun X hX => hX _ _ _ _ _ _ _ _ (sem_mono2 (fun _ _ q => q) (fun _ _ _ _ _ _ _ _ g => g X hX) (fun _ _ _ _ _ _ _ g => g X hX) h)
theorem G_iff {y pc : Nat} {L : AL} {st : List AV} {W : AW} {bc bs : Nat} {Q : AQ} : G y pc L st W bc bs Q ↔ sem G y pc (cd y pc) L st W bc bs Q :=
  ⟨fun g => g (fun y pc L st W bc bs Q => sem G y pc (cd y pc) L st W bc bs Q) (fun _ _ _ _ _ _ _ _ h => sem_mono2 (fun _ _ q => q) (fun _ _ _ _ _ _ _ _ g => G_in g) (fun _ _ _ _ _ _ _ g => G_in g) h), G_in⟩
theorem G_ind (X : PX) (hX : ∀ y pc L st W bc bs Q, sem X y pc (cd y pc) L st W bc bs Q → X y pc L st W bc bs Q) {y pc : Nat} {L : AL} {st : List AV} {W : AW} {bc bs : Nat} {Q : AQ} (h : G y pc L st W bc bs Q) : X y pc L st W bc bs Q := h X hX
theorem G_post {y pc : Nat} {L : AL} {st : List AV} {W : AW} {bc bs : Nat} {Q Q' : AQ} (h : G y pc L st W bc bs Q) (hq : ∀ r W, Q r W → Q' r W) : G y pc L st W bc bs Q' := by
  refine G_ind (fun y pc L st W bc bs Q => ∀ Q' : AQ, (∀ r W, Q r W → Q' r W) → G y pc L st W bc bs Q') ?_ h Q' hq
  intro y pc L st W bc bs Q hs Q' hq
  exact G_in (sem_mono2 hq (fun _ _ _ _ _ _ _ _ g => g _ (fun _ _ q => q)) (fun _ _ _ _ _ _ _ g => g _ hq) hs)
/-- a call of a method -/
def Gm (z : Nat) (as : List AV) (W : AW) (Q : AQ) : Prop := G z 0 (ent (mi z).2.2.1 as) [] W (mi z).2.2.2.2.1 (mi z).2.2.2.2.2.1 Q
theorem Gm_post {z : Nat} {as : List AV} {W : AW} {Q Q' : AQ} (h : Gm z as W Q) (hq : ∀ r W, Q r W → Q' r W) : Gm z as W Q' := G_post h hq
/-- where a caller goes on, with the answer -/
def GC (y pc : Nat) (L : AL) (st : List AV) (bc bs : Nat) (Q : AQ) (r : Option AV) (W : AW) : Prop := G y pc L (psh r st) W bc bs Q
theorem call_iff {z y pc : Nat} {as st : List AV} {L : AL} {W : AW} {bc bs : Nat} {Q : AQ} :
    (∃ P : AQ, G z 0 (ent (mi z).2.2.1 as) [] W (mi z).2.2.2.2.1 (mi z).2.2.2.2.2.1 P ∧ ∀ r W', P r W' → G y pc L (psh r st) W' bc bs Q) ↔ Gm z as W (GC y pc L st bc bs Q) :=
  ⟨fun ⟨_, h1, h2⟩ => G_post h1 h2, fun h => ⟨_, h, fun _ _ q => q⟩⟩
theorem G_at {y pc : Nat} {i : AI} (h : cd y pc = i) {L : AL} {st : List AV} {W : AW} {bc bs : Nat} {Q : AQ} : G y pc L st W bc bs Q ↔ sem G y pc i L st W bc bs Q := by
  subst h
  exact G_iff
def mieq (a b : MI) : Bool := a.1 == b.1 && (a.2.1 == b.2.1 && (a.2.2.1 == b.2.2.1 && (a.2.2.2.1 == b.2.2.2.1 && (a.2.2.2.2.1 == b.2.2.2.2.1 && (a.2.2.2.2.2.1 == b.2.2.2.2.2.1 && (a.2.2.2.2.2.2.1 == b.2.2.2.2.2.2.1 && a.2.2.2.2.2.2.2 == b.2.2.2.2.2.2.2))))))
theorem mi_of {y : Nat} {v : MI} (h : mieq (mi y) v = true) : mi y = v := by
  unfold mieq at h
  simp only [Bool.and_eq_true, beq_iff_eq] at h
  obtain ⟨h1, h2, h3, h4, h5, h6, h7, h8⟩ := h
  refine Prod.ext h1 (Prod.ext h2 (Prod.ext h3 (Prod.ext h4 (Prod.ext h5 (Prod.ext h6 (Prod.ext h7 h8))))))
theorem Gm_at {z : Nat} {v : MI} (h : mi z = v) {as : List AV} {W : AW} {Q : AQ} : Gm z as W Q ↔ G z 0 (ent v.2.2.1 as) [] W v.2.2.2.2.1 v.2.2.2.2.2.1 Q := by
  subst h
  exact Iff.rfl
