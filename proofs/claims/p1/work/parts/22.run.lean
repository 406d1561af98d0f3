-- A FRAME OF THE MACHINE AND THE PURE MACHINE'S STATE
def wsu : List Cond := lw_tbl.filter goodWord
def tyl (cy cr : Nat → ClassId) : List (ClassId × FieldType) := [(cy 0, .int), (cy 1, .byte), (cy 2, .boolean), (cy 3, .long), (cr 2, .object (cnm 2)), (cr 4, .object (cnm 4)), (cr 6, .object (cnm 6))]
abbrev nmy (y : Nat) : MethodName := (mtr y).1.1
abbrev byt (y : Nat) : ByteArray := (mtr y).1.2.1
abbrev rty (y : Nat) : Option FieldType := (mtr y).1.2.2
abbrev mxl (y : Nat) : Nat := (mi y).2.2.1
abbrev mcy (y : Nat) : Nat := (mi y).2.2.2.2.1
abbrev msy (y : Nat) : Nat := (mi y).2.2.2.2.2.1
abbrev rfy (y : Nat) : Nat := (mi y).2.2.2.2.2.2.1
abbrev rly (y : Nat) : Nat := (mi y).2.2.2.2.2.2.2
def okr (n : Nat) : Option AV → Prop
  | none => True
  | some v => okv n v
/-- what stays the same while a frame runs -/
def Fx (F : Nat → AE) (D : va_G) (cy cr : Nat → ClassId) (ad0 : Nat → Nat) (p : Program) (R : Room) (s : State) (m : MethodId) (args : Array Value) (meth : Method) (c : Code) (A : Nat → Prop) (mt mst : Nat) (y : Nat) : Prop :=
  p.tables.exec = Jvm.exec ∧ c.code = byt y ∧ c.maxLocals = mxl y ∧ s.vm.findClass (nmy y).cls = some m.cls ∧ (∀ w ∈ wsu, w.before args s = true) ∧ meth.locks = false ∧ meth.sig.returnType = rty y ∧ meth.name = (nmy y).name ∧
  rfy y ≤ R.frames ∧ rly y ≤ R.locals ∧ mt ≤ R.cells ∧ mst ≤ R.slots ∧ FOK F ∧ FR F ad0 A s s.heap ∧ FV ad0 s ∧ (∀ q, s.heap.size ≤ q → A q) ∧ va_K D vwCl (tyl cy cr) s
/-- the machine at a frame whose heap, locals and stack are those of the pure state comes to the frame's end, and Q holds there -/
def Run (l : Launch) (F : Nat → AE) (D : va_G) (cy cr : Nat → ClassId) (ad0 : Nat → Nat) (p : Program) (e : Env) (R : Room) (s : State) (m : MethodId) (args : Array Value) (below : List Frame) (meth : Method) (c : Code) (A : Nat → Prop) (mt mst : Nat) (y : Nat)
    (pc : Nat) (L : AL) (st : List AV) (w : AW) (bc bs : Nat) (Q : AQ) : Prop :=
  ∀ (H : Heap) (locs : List Loc) (cells slots : Nat) (ad : Nat → Nat) (ls : Array Slot) (Qc : Array Value → State → Outcome → State → Prop),
    (∀ k, k < nfz → ad k = ad0 k) → va_P D vwCl (conc cy cr ad w) H → va_D A (conc cy cr ad w) → va_S A s.heap H locs → okW F w → (∀ v ∈ st, okv w.1 v) → okl w.1 L → lv_has ls (mxl y) (prs ad 0 L) → L.length = mxl y → cells + bc ≤ mt → slots + bs ≤ mst →
    (∀ (r : Option AV) (w' : AW) (ad' : Nat → Nat) (t : State) (locs' : List Loc), Q r w' → (∀ k, k < w.1 → ad' k = ad k) → w.1 ≤ w'.1 → va_P D vwCl (conc cy cr ad' w') t.heap → va_D A (conc cy cr ad' w') → va_S A s.heap t.heap locs' → okW F w' → okr w'.1 r → s.WarmedH t.vm → Qc args s (.returned (r.map (cv ad'))) t) →
    W p l e R s m args below meth c H locs cells slots (MQ below Qc args s mt mst A) (F0 m pc ls (st.map (cv ad)))
def Snd (l : Launch) (F : Nat → AE) (D : va_G) (cy cr : Nat → ClassId) (ad0 : Nat → Nat) : PX := fun y pc L st w bc bs Q =>
  ∀ (p : Program) (e : Env) (R : Room) (s : State) (m : MethodId) (args : Array Value) (below : List Frame) (meth : Method) (c : Code) (A : Nat → Prop) (mt mst : Nat),
    Fx F D cy cr ad0 p R s m args meth c A mt mst y → Run l F D cy cr ad0 p e R s m args below meth c A mt mst y pc L st w bc bs Q
-- numbers
theorem i32_t {z : Int} (h : in32 z) : (Int32.ofInt z).toInt = z := Int32.toInt_ofInt_of_le h.1 h.2
theorem i64_t {z : Int} (h : in64 z) : (Int64.ofInt z).toInt = z := Int64.toInt_ofInt_of_le h.1 h.2
theorem i32_i (x : Int32) : in32 x.toInt := ⟨x.le_toInt, x.toInt_lt⟩
theorem i64_i (x : Int64) : in64 x.toInt := ⟨x.le_toInt, x.toInt_lt⟩
theorem i32_o (x : Int32) : Int32.ofInt x.toInt = x := Int32.ofInt_toInt x
theorem i64_o (x : Int64) : Int64.ofInt x.toInt = x := Int64.ofInt_toInt x
theorem i32_lt {a b : Int} (ha : in32 a) (hb : in32 b) : Int32.ofInt a < Int32.ofInt b ↔ a < b := by rw [Int32.lt_iff_toInt_lt, i32_t ha, i32_t hb]
theorem i32_le {a b : Int} (ha : in32 a) (hb : in32 b) : Int32.ofInt a ≤ Int32.ofInt b ↔ a ≤ b := by rw [Int32.le_iff_toInt_le, i32_t ha, i32_t hb]
theorem i32_eq {a b : Int} (ha : in32 a) (hb : in32 b) : Int32.ofInt a = Int32.ofInt b ↔ a = b := ⟨fun h => by rw [← i32_t ha, ← i32_t hb, h], fun h => by rw [h]⟩
theorem i64_lt {a b : Int} (ha : in64 a) (hb : in64 b) : Int64.ofInt a < Int64.ofInt b ↔ a < b := by rw [Int64.lt_iff_toInt_lt, i64_t ha, i64_t hb]
theorem i64_eq {a b : Int} (ha : in64 a) (hb : in64 b) : Int64.ofInt a = Int64.ofInt b ↔ a = b := ⟨fun h => by rw [← i64_t ha, ← i64_t hb, h], fun h => by rw [h]⟩
theorem i32_z : in32 0 := by unfold in32; omega
theorem i32_n {z : Int} (h : in32 z) : (Int32.ofInt z).toNatClampNeg = z.toNat := by
  show (Int32.ofInt z).toInt.toNat = z.toNat
  rw [i32_t h]
theorem i32_in {z : Int} {n : Nat} (h : in32 z) (h0 : 0 ≤ z) (h1 : z < (n : Int)) : vp_in (Int32.ofInt z) n := vp_in_iff.mpr (by rw [i32_t h]; exact ⟨h0, h1⟩)
theorem ok_c {n : Nat} {v : AV} {st : List AV} (hv : okv n v) (hs : ∀ u ∈ st, okv n u) : ∀ u ∈ v :: st, okv n u := List.forall_mem_cons.mpr ⟨hv, hs⟩
theorem ok_h {n : Nat} {v : AV} {st : List AV} (hs : ∀ u ∈ v :: st, okv n u) : okv n v := hs v List.mem_cons_self
theorem ok_t {n : Nat} {v : AV} {st : List AV} (hs : ∀ u ∈ v :: st, okv n u) : ∀ u ∈ st, okv n u := fun u h => hs u (List.mem_cons_of_mem _ h)
theorem w64_i (z : Int) : in64 (w64 z) := by unfold in64 w64; omega
theorem w64_o (z : Int) : Int64.ofInt (w64 z) = Int64.ofInt z := by
  apply Int64.toBitVec_inj.mp
  show BitVec.ofInt 64 (w64 z) = BitVec.ofInt 64 z
  apply BitVec.eq_of_toInt_eq
  rw [BitVec.toInt_ofInt, BitVec.toInt_ofInt]
  unfold w64
  simp only [Int.bmod]
  omega
theorem w32_i (z : Int) : in32 (w32 z) := by unfold in32 w32; omega
theorem w32_o (z : Int) : Int32.ofInt (w32 z) = Int32.ofInt z := by
  apply Int32.toBitVec_inj.mp
  show BitVec.ofInt 32 (w32 z) = BitVec.ofInt 32 z
  apply BitVec.eq_of_toInt_eq
  rw [BitVec.toInt_ofInt, BitVec.toInt_ofInt]
  unfold w32
  simp only [Int.bmod]
  omega
