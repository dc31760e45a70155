/-! THE WORLD: cells numbered in the order in which the two constructors make them; what is where, of which kind -/
def layL : List (Nat × Nat) := [(9, 13), (6, 7), (11, 1000), (7, 7), (12, 6), (12, 6), (12, 30), (2, 4), (12, 1000), (12, 24), (7, 7), (12, 6), (12, 6), (12, 30), (2, 4), (12, 1000), (12, 24), (0, 2), (8, 5), (12, 40), (12, 40), (12, 40), (8, 5), (12, 40), (12, 40), (12, 40), (3, 16), (12, 40), (12, 40), (12, 40), (12, 40), (12, 40), (12, 40), (12, 200), (12, 200), (12, 200), (12, 160), (12, 13), (12, 13), (12, 13), (3, 16), (12, 40), (12, 40), (12, 40), (12, 40), (12, 40), (12, 40), (12, 200), (12, 200), (12, 200), (12, 160), (12, 13), (12, 13), (12, 13), (5, 8), (12, 200), (12, 200), (12, 13), (12, 8), (5, 8), (12, 200), (12, 200), (12, 13), (12, 8), (14, 2), (5, 8), (12, 200), (12, 200), (12, 13), (12, 8), (5, 8), (12, 200), (12, 200), (12, 13), (12, 8), (13, 2), (4, 3), (12, 13), (10, 59), (12, 1000), (12, 6), (12, 12), (12, 12), (12, 60), (12, 2), (12, 2), (12, 2000), (12, 7), (13, 7), (12, 7), (12, 7), (12, 7), (12, 7), (12, 7), (12, 7), (12, 7), (12, 7), (12, 7), (12, 20), (12, 2), (12, 80), (12, 80), (12, 80), (12, 80), (12, 80), (12, 400), (12, 400), (12, 320), (12, 2), (12, 400), (12, 4), (12, 160), (12, 160), (12, 160), (12, 3), (12, 24), (13, 24), (12, 374), (12, 374), (12, 374), (12, 748), (13, 2), (13, 40), (12, 13), (13, 2080), (15, 1), (1, 1)]
/-- kind and length of a cell: 0..10 an object of that class of vwCl, 11 char[], 12 int[], 13 boolean[], 14 State[], 15 long[] -/
def lay (a : Nat) : Nat × Nat := layL.getD a (99, 0)
def ftL : List (List Nat) := [[2, 2], [1], [2, 0, 2, 0], [0, 0, 0, 2, 2, 2, 2, 2, 2, 2, 2, 2, 2, 2, 2, 2], [2, 2, 2], [2, 0, 2, 2, 2, 0, 2, 0], [2, 0, 0, 0, 0, 0, 0], [0, 0, 0, 2, 2, 2, 2], [2, 2, 2, 2, 0], [2, 2, 2, 2, 2, 2, 2, 2, 2, 2, 2, 2, 2], [0, 0, 2, 0, 0, 0, 0, 1, 0, 0, 2, 2, 2, 2, 2, 2, 2, 0, 0, 2, 2, 2, 2, 2, 2, 2, 2, 2, 2, 2, 2, 0, 2, 2, 2, 2, 2, 2, 2, 2, 2, 2, 2, 2, 2, 2, 2, 2, 2, 2, 2, 2, 2, 2, 2, 2, 2, 2, 1]]
/-- of which type a field is: 0 int and smaller, 1 long, 2 reference -/
def ftab (c : Nat) : List Nat := ftL.getD c []
def rtL : List (List (Option Nat)) := [[some 1, none, none, some 17, none, none, some 26, some 40, some 54, some 59, some 64, some 75, some 76], [some 2], [], [none, none, none, some 4, some 5, some 6, some 7], [], [], [], [some 8, none, some 9], [], [], [none, none, none, some 11, some 12, some 13, some 14], [], [], [], [some 15, none, some 16], [], [], [some 1], [some 1, some 19, some 20, some 21], [], [], [], [some 1, some 23, some 24, some 25], [], [], [], [none, none, none, some 27, some 28, some 29, some 30, some 31, some 32, some 33, some 34, some 35, some 36, some 37, some 38, some 39], [], [], [], [], [], [], [], [], [], [], [], [], [], [none, none, none, some 41, some 42, some 43, some 44, some 45, some 46, some 47, some 48, some 49, some 50, some 51, some 52, some 53], [], [], [], [], [], [], [], [], [], [], [], [], [], [some 26, none, some 55, some 56, some 57, none, some 58], [], [], [], [], [some 26, none, some 60, some 61, some 62, none, some 63], [], [], [], [], [some 65, some 70], [some 26, none, some 66, some 67, some 68, none, some 69], [], [], [], [], [some 26, none, some 71, some 72, some 73, none, some 74], [], [], [], [], [], [some 54, some 26, some 77], [], [none, none, some 79, none, none, none, none, none, none, none, some 80, some 81, some 82, some 83, some 84, some 85, some 86, none, none, some 87, some 88, some 89, some 90, some 91, some 92, some 93, some 94, some 95, some 96, some 97, some 98, none, some 99, some 100, some 101, some 102, some 103, some 104, some 105, some 106, some 107, some 108, some 109, some 110, some 111, some 112, some 113, some 114, some 115, some 116, some 117, some 118, some 119, some 120, some 121, some 122, some 123, some 124], [], [], [], [], [], [], [], [], [], [], [], [], [], [], [], [], [], [], [], [], [], [], [], [], [], [], [], [], [], [], [], [], [], [], [], [], [], [], [], [], [], [], [], [], [], [], [], []]
abbrev Rt : Type := Nat → Nat → Option Nat
/-- the references: final ones by the table, the five that change by the five numbers -/
def RT (t u w v : Nat) (x : Option Nat) : Rt := fun a k => if a = 0 ∧ k = 1 then some t else if a = 0 ∧ k = 2 then some u else if a = 0 ∧ k = 4 then some w else if a = 0 ∧ k = 5 then some v else if a = 17 ∧ k = 1 then x else ((rtL.getD a []).getD k none)
abbrev Mm : Type := (Nat → Nat → Int32) × (Nat → Nat → Int64)
def gI (m : Mm) (a k : Nat) : Int32 := m.1 a k
def gL (m : Mm) (a k : Nat) : Int64 := m.2 a k
def sI (m : Mm) (a k : Nat) (v : Int32) : Mm := (fun b j => if b = a ∧ j = k then v else m.1 b j, m.2)
def sL (m : Mm) (a k : Nat) (v : Int64) : Mm := (m.1, fun b j => if b = a ∧ j = k then v else m.2 b j)
/-- tables (classes, slots), classes of arrays, where the world begins -/
abbrev GG : Type := va_G × (Nat → ClassId) × Nat × (Nat → Nat)
def GA (G : GG) : Nat → Prop := fun q => G.2.2.1 ≤ q
def fv (t : Nat) (ρ : Nat → Nat) (rt : Rt) (m : Mm) (a k : Nat) : Value := if t = 0 then .int (m.1 a k) else if t = 1 then .long (m.2 a k) else va_rf ((rt a k).map ρ)
def flds (ts : List Nat) (ρ : Nat → Nat) (rt : Rt) (m : Mm) (a : Nat) : List Value := (List.range ts.length).map fun k => fv (ts.getD k 0) ρ rt m a k
def cE (G : GG) (ρ : Nat → Nat) (rt : Rt) (m : Mm) (a : Nat) : va_E :=
  if (lay a).1 < 11 then .inr ((lay a).1, flds (ftab (lay a).1) ρ rt m a)
  else if (lay a).1 = 14 then .inl (G.2.1 3, (lay a).2, .inr (.inr (.inr (.inr fun j => (rt a j).map ρ))))
  else if (lay a).1 = 15 then .inl (G.2.1 4, (lay a).2, .inr (.inl (m.2 a)))
  else .inl (G.2.1 ((lay a).1 - 11), (lay a).2, .inl (m.1 a))
def wl (G : GG) (ρ : Nat → Nat) (rt : Rt) (m : Mm) (n : Nat) : va_W := (List.range n).map fun a => (ρ a, cE G ρ rt m a)
def tysG (G : GG) : List (ClassId × FieldType) := [(G.2.1 0, .char), (G.2.1 1, .int), (G.2.1 2, .boolean), (G.2.1 3, .object "ParitySpread$State"), (G.2.1 4, .long)]
def mv (ρ : Nat → Nat) : Value → Value
  | .ref a => .ref (ρ a)
  | v => v
def mq (ρ : Nat → Nat) (q : Nat × Value) : Nat × Value := (q.1, mv ρ q.2)
theorem mv_cat (ρ : Nat → Nat) (v : Value) : (mv ρ v).category = v.category := by cases v <;> rfl
theorem wl_get (G : GG) (ρ : Nat → Nat) (rt : Rt) (m : Mm) {n a : Nat} (h : a < n) : (wl G ρ rt m n)[a]? = some (ρ a, cE G ρ rt m a) := by
  simp [wl, h]
theorem wl_set {G : GG} {ρ : Nat → Nat} {rt rt' : Rt} {m m' : Mm} {n a : Nat} {e : va_E} (h1 : cE G ρ rt' m' a = e) (h2 : ∀ b, b ≠ a → cE G ρ rt' m' b = cE G ρ rt m b) : (wl G ρ rt m n).set a (ρ a, e) = wl G ρ rt' m' n := by
  apply List.ext_getElem?
  intro i
  by_cases hi : i = a
  · subst hi
    by_cases hn : i < n
    · rw [List.getElem?_set_self (by simp [wl, hn]), wl_get _ _ _ _ hn, h1]
    · rw [List.getElem?_eq_none (by simp [wl]; omega), List.getElem?_eq_none (by simp [wl]; omega)]
  · rw [List.getElem?_set_ne (Ne.symm hi)]
    by_cases hn : i < n
    · rw [wl_get _ _ _ _ hn, wl_get _ _ _ _ hn, h2 i hi]
    · rw [List.getElem?_eq_none (by simp [wl]; omega), List.getElem?_eq_none (by simp [wl]; omega)]
theorem flds_get {ts : List Nat} {ρ : Nat → Nat} {rt : Rt} {m : Mm} {a k : Nat} (h : k < ts.length) : (flds ts ρ rt m a)[k]? = some (fv (ts.getD k 0) ρ rt m a k) := by
  simp [flds, h]
theorem flds_len {ts : List Nat} {ρ : Nat → Nat} {rt : Rt} {m : Mm} {a : Nat} : (flds ts ρ rt m a).length = ts.length := by simp [flds]
theorem flds_set {ts : List Nat} {ρ : Nat → Nat} {rt rt' : Rt} {m m' : Mm} {a k : Nat} {v : Value} (h1 : fv (ts.getD k 0) ρ rt' m' a k = v) (h2 : ∀ j, j ≠ k → fv (ts.getD j 0) ρ rt' m' a j = fv (ts.getD j 0) ρ rt m a j) : (flds ts ρ rt m a).set k v = flds ts ρ rt' m' a := by
  apply List.ext_getElem?
  intro i
  by_cases hn : i < ts.length
  · by_cases hi : i = k
    · subst hi
      rw [List.getElem?_set_self (by rw [flds_len]; exact hn), flds_get hn, h1]
    · rw [List.getElem?_set_ne (Ne.symm hi), flds_get hn, flds_get hn, h2 i hi]
  · rw [List.getElem?_eq_none (by simp [flds_len]; omega), List.getElem?_eq_none (by simp [flds_len]; omega)]
theorem cE_obj {G : GG} {ρ : Nat → Nat} {rt : Rt} {m : Mm} {a ci : Nat} (h : (lay a).1 = ci) (hc : ci < 11) : cE G ρ rt m a = .inr (ci, flds (ftab ci) ρ rt m a) := by
  subst h; simp [cE, hc]
theorem cE_int {G : GG} {ρ : Nat → Nat} {rt : Rt} {m : Mm} {a t n : Nat} (h : lay a = (t, n)) (hc : 11 ≤ t) (hc2 : t < 14) : cE G ρ rt m a = .inl (G.2.1 (t - 11), n, .inl (m.1 a)) := by
  have h1 : ¬ t < 11 := by omega
  have h2 : ¬ t = 14 := by omega
  have h3 : ¬ t = 15 := by omega
  simp [cE, h, h1, h2, h3]
theorem cE_long {G : GG} {ρ : Nat → Nat} {rt : Rt} {m : Mm} {a n : Nat} (h : lay a = (15, n)) : cE G ρ rt m a = .inl (G.2.1 4, n, .inr (.inl (m.2 a))) := by
  simp [cE, h]
theorem cE_ref {G : GG} {ρ : Nat → Nat} {rt : Rt} {m : Mm} {a n : Nat} (h : lay a = (14, n)) : cE G ρ rt m a = .inl (G.2.1 3, n, .inr (.inr (.inr (.inr fun j => (rt a j).map ρ)))) := by
  simp [cE, h]
theorem cE_sI_ne {G : GG} {ρ : Nat → Nat} {rt : Rt} {m : Mm} {a b k : Nat} {v : Int32} (h : b ≠ a) : cE G ρ rt (sI m a k v) b = cE G ρ rt m b := by
  have e : (sI m a k v).1 b = m.1 b := by funext j; simp [sI, h]
  have e3 : ∀ t j, fv t ρ rt (sI m a k v) b j = fv t ρ rt m b j := fun t j => by
    have e1 : (sI m a k v).1 b j = m.1 b j := by rw [e]
    have e2 : (sI m a k v).2 b j = m.2 b j := rfl
    simp only [fv, e1, e2]
  have e4 : (sI m a k v).2 b = m.2 b := rfl
  simp only [cE, flds, e, e3, e4]
theorem cE_sL_ne {G : GG} {ρ : Nat → Nat} {rt : Rt} {m : Mm} {a b k : Nat} {v : Int64} (h : b ≠ a) : cE G ρ rt (sL m a k v) b = cE G ρ rt m b := by
  have e : (sL m a k v).2 b = m.2 b := by funext j; simp [sL, h]
  have e4 : (sL m a k v).1 b = m.1 b := rfl
  have e3 : ∀ t j, fv t ρ rt (sL m a k v) b j = fv t ρ rt m b j := fun t j => by
    have e1 : (sL m a k v).2 b j = m.2 b j := by rw [e]
    have e2 : (sL m a k v).1 b j = m.1 b j := rfl
    simp only [fv, e1, e2]
  simp only [cE, flds, e, e3, e4]
theorem sI_row {m : Mm} {a k : Nat} {v : Int32} : (sI m a k v).1 a = upd (m.1 a) k v := by
  funext j; simp [sI, upd]
/-- the words that all methods share -/
def gt : List Cond := lw_tbl.filter goodWord
theorem gt_good {w : Cond} (h : w ∈ gt) : (w.onTables && w.keeps) = true ∨ ∃ ty, w = .arrayClass ty := good_of_word (List.mem_filter.mp h).2
theorem gt_of {w : Cond} (h : w ∈ lw_tbl) (h2 : goodWord w = true) : w ∈ gt := List.mem_filter.mpr ⟨h, h2⟩
theorem gt_all {ws : List Cond} (h : ∀ w ∈ ws, w ∈ lw_tbl) (h2 : ws.all goodWord = true) : ∀ w ∈ ws, w ∈ gt := fun w hw => gt_of (h w hw) (List.all_eq_true.mp h2 w hw)
/-- the text constants: owner, place in its pool, text -/
def sTab : List (String × Nat × String) := [("ParitySpread$ArrayReader", 36, "disks"), ("ParitySpread$ArrayReader", 45, "block"), ("ParitySpread$ArrayReader", 50, "parity"), ("ParitySpread$ArrayReader", 55, "speed"), ("ParitySpread$ArrayReader", 112, "once"), ("ParitySpread$ArrayReader", 114, "cycle"), ("ParitySpread$ArrayReader", 116, "mirror"), ("ParitySpread$ArrayReader", 118, "twice"), ("ParitySpread$ArrayReader", 146, "and"), ("ParitySpread$ArrayReader", 148, "or"), ("ParitySpread$ArrayReader", 153, "not"), ("ParitySpread$ArrayReader", 155, "stripe"), ("ParitySpread$ArrayReader", 157, "size"), ("ParitySpread$ArrayReader", 158, "first"), ("ParitySpread$ArrayReader", 160, "which"), ("ParitySpread$Work", 67, "read"), ("ParitySpread$Work", 73, "write"), ("ParitySpread$Work", 75, "lose"), ("ParitySpread$Work", 77, "replace"), ("ParitySpread$Work", 79, "rebuild"), ("ParitySpread$Work", 81, "home"), ("ParitySpread$Tape", 44, "()<=+-*;"), ("ParitySpread", 299, "not so many UNITS are LOST")]
def sByt : List (List Int32) := [[100, 105, 115, 107, 115], [98, 108, 111, 99, 107], [112, 97, 114, 105, 116, 121], [115, 112, 101, 101, 100], [111, 110, 99, 101], [99, 121, 99, 108, 101], [109, 105, 114, 114, 111, 114], [116, 119, 105, 99, 101], [97, 110, 100], [111, 114], [110, 111, 116], [115, 116, 114, 105, 112, 101], [115, 105, 122, 101], [102, 105, 114, 115, 116], [119, 104, 105, 99, 104], [114, 101, 97, 100], [119, 114, 105, 116, 101], [108, 111, 115, 101], [114, 101, 112, 108, 97, 99, 101], [114, 101, 98, 117, 105, 108, 100], [104, 111, 109, 101], [40, 41, 60, 61, 43, 45, 42, 59], [110, 111, 116, 32, 115, 111, 32, 109, 97, 110, 121, 32, 85, 78, 73, 84, 83, 32, 97, 114, 101, 32, 76, 79, 83, 84]]
def sLen : List Nat := sByt.map List.length
/-- private constructors that are called by their nest mates -/
def nestL : List (String × Nat × MethodName × String) := [(RX10, 11, yX7_init, RX10), (RX10, 18, yX8_init, RX10), (RX8, 23, yX3_init, RX10), (RX10, 49, yX4_init, RX10)]
/-- the text constants stand, as cells outside the world -/
def Sk (G : GG) (ρ : Nat → Nat) (U : State) : Prop :=
  vk_S 23 sLen sByt (fun k => ρ (1000 + k)) (fun k => ρ (2000 + k)) (GA G) U U.heap ∧ va_Z "java/lang/String" "COMPACT_STRINGS" "Z" (.int 1) (GA G) U U.heap ∧ (va_Z "jdk/internal/util/Preconditions" "SIOOBE_FORMATTER" "Ljava/util/function/BiFunction;" .null (GA G) U U.heap ∨ va_Z "jdk/internal/util/Preconditions" "SIOOBE_FORMATTER" "Ljava/util/function/BiFunction;" (.ref (ρ 3000)) (GA G) U U.heap) ∧ (∀ (k : Nat) (q : String × Nat × String), sTab[k]? = some q → vk_R q.1 q.2.1 q.2.2 (ρ (1000 + k)) U) ∧ va_AO "ParitySpread$State" U ∧ ∀ q ∈ nestL, va_Nw (.methodLinkNest q.1 q.2.1 q.2.2.1 q.2.2.2) U
def Wp (G : GG) (ρ : Nat → Nat) (n : Nat) (rt : Rt) (m : Mm) (H : Heap) : Prop := va_P G.1 vwCl (wl G ρ rt m n) H ∧ va_D (GA G) (wl G ρ rt m n)
def Wk (G : GG) (ρ : Nat → Nat) (U : State) : Prop := va_K G.1 vwCl (tysG G) U ∧ Sk G ρ U ∧ G.2.2.1 ≤ U.heap.size
def rmd (d mc ms : Nat) : Room := { frames := d, cells := mc, slots := ms, locals := 64 * d }
def Pcc (G : GG) (ρ : Nat → Nat) (n : Nat) (rt : Rt) (args : List Value) (m : Mm) : Array Value → State → Prop := va_Pc (args.map (mv ρ)) (fun U => Wp G ρ n rt m U.heap ∧ Wk G ρ U)
def Qcc (G : GG) (ρ : Nat → Nat) (n : Nat) (ov : Option Value) (rt : Rt) (m : Mm) : Array Value → State → Outcome → State → Prop := fun _ st oc t => (oc = .returned (ov.map (mv ρ)) ∧ Wp G ρ n rt m t.heap) ∧ va_F (GA G) st t
/-- A CONTRACT: from the world (rt, m), with these arguments, the method returns ov and leaves the world (rt2, m2); nothing else is changed; d frames are enough below it -/
def CT (G : GG) (l : Launch) (y : MethodName) (cc : ByteArray) (nL : Nat) (ret : Option FieldType) (d mc ms : Nat) (ρ : Nat → Nat) (n : Nat) (rt : Rt) (args : List Value) (m : Mm) (ov : Option Value) (rt2 : Rt) (m2 : Mm) : Prop :=
  Met l y (.code y cc nL ret :: gt) (rmd d mc ms) (Pcc G ρ n rt args m) (Qcc G ρ n ov rt2 m2) mc ms (GA G)
/-- the machine in a method's body: program, launch, environment, room, start; method, arguments, frames below; cells and slots so far; what is wanted -/
abbrev XX : Type := (Program × Launch × Env × Room × State) × (MethodId × Array Value × List Frame × Method × Code) × (Nat × Nat × (State → Prop))
def J (X : XX) (G : GG) (ρ : Nat → Nat) (n : Nat) (nL pc : Nat) (lv : List (Nat × Value)) (st : List Value) (rt : Rt) (m : Mm) : Prop :=
  ∀ (H : Heap) (locs : List Loc) (ls : Array Slot), Wp G ρ n rt m H → va_S (GA G) X.1.2.2.2.2.heap H locs → lv_has ls nL (lv.map (mq ρ)) →
    W X.1.1 X.1.2.1 X.1.2.2.1 X.1.2.2.2.1 X.1.2.2.2.2 X.2.1.1 X.2.1.2.1 X.2.1.2.2.1 X.2.1.2.2.2.1 X.2.1.2.2.2.2 H locs X.2.2.1 X.2.2.2.1 X.2.2.2.2 (F0 X.2.1.1 pc ls (st.map (mv ρ)))
def Ok (X : XX) (G : GG) (ρ : Nat → Nat) (cc : ByteArray) (nL : Nat) (own : String) (d : Nat) : Prop :=
  X.1.1.tables.exec = Jvm.exec ∧ X.2.1.2.2.2.2.code = cc ∧ X.2.1.2.2.2.2.maxLocals = nL ∧ X.1.2.2.2.2.vm.findClass own = some X.2.1.1.cls ∧ (∀ w ∈ gt, w.before X.2.1.2.1 X.1.2.2.2.2 = true) ∧ Wk G ρ X.1.2.2.2.2 ∧ X.2.2.1 ≤ X.1.2.2.2.1.cells ∧ X.2.2.2.1 ≤ X.1.2.2.2.1.slots ∧ d ≤ X.1.2.2.2.1.frames ∧ 64 * d ≤ X.1.2.2.2.1.locals
/-- what a method's end wants -/
def Fin' (X : XX) (G : GG) (ρ : Nat → Nat) (n : Nat) (ret : Option FieldType) (ov : Option Value) (rt : Rt) (m : Mm) : Prop :=
  X.2.2.2.2 = MQ X.2.1.2.2.1 (Qcc G ρ n ov rt m) X.2.1.2.1 X.1.2.2.2.2 X.2.2.1 X.2.2.2.1 (GA G) ∧ X.2.1.2.2.2.1.sig.returnType = ret ∧ X.2.1.2.2.2.1.locks = false
theorem lv_args_mv (ρ : Nat → Nat) : ∀ (vs : List Value) (i : Nat), (lv_args i vs).map (mq ρ) = lv_args i (vs.map (mv ρ))
  | [], _ => rfl
  | v :: vs, i => by
    show (i, mv ρ v) :: (lv_args _ vs).map (mq ρ) = (i, mv ρ v) :: lv_args _ (vs.map (mv ρ))
    rw [lv_args_mv ρ vs, mv_cat]
theorem lg_mv (ρ : Nat → Nat) (vs : List Value) : (lg_sl (vs.map (mv ρ))).length = (lg_sl vs).length := by
  induction vs with
  | nil => rfl
  | cons v vs ih =>
    have : lg_sl ((v :: vs).map (mv ρ)) = (if (mv ρ v).category = 2 then [.val (mv ρ v), .second] else [.val (mv ρ v)]) ++ lg_sl (vs.map (mv ρ)) := rfl
    rw [this]
    have h2 : lg_sl (v :: vs) = (if v.category = 2 then [.val v, .second] else [.val v]) ++ lg_sl vs := rfl
    rw [h2, List.length_append, List.length_append, ih, mv_cat]
    split <;> rfl
theorem MetF_ofW {l : Launch} {y : MethodName} {ws ws' : List Cond} {rm : Room} {Pc : Array Value → State → Prop} {Qc : Array Value → State → Outcome → State → Prop} {mc ms : Nat} {free : Addr → Prop} {cc : ByteArray} {maxL : Nat} {ret : Option FieldType}
    (hy : plainFor y = true) (hw : ws = Cond.code y cc maxL ret :: ws')
    (body : ∀ p e s m args below meth c s₁, BodyLoose p l y (headSpec ws rm) cc maxL ret e s m args below meth c s₁ → c.maxLocals = maxL → Pc args s →
      W p l e (headSpec ws rm).room s m args below meth c s.heap [] 0 0 (MQ below Qc args s mc ms free) (entryFrame m args maxL)) : Met l y ws rm Pc Qc mc ms free := by
  refine MetFree.of_bodySF (code := cc) (maxLocals := maxL) (ret := ret) hy ?_ ?_
  · intro args s m h hn
    obtain ⟨meth, c, h1, h2, h3, h4, h5, h6, -, -⟩ := Cond.code_spec hn (atoms_spec (ws := ws) h _ (by rw [hw]; exact List.mem_cons_self))
    exact ⟨meth, c, h1, h2, h3, h4, h5, h6⟩
  · intro p e s m args below meth c s₁ B hml hP _
    have hh0 : s₁.heap = s.heap := by rw [B.state]; rfl
    obtain ⟨t, a1, o, b1, b2, b3⟩ := body p e s m args below meth c s₁ B hml hP s₁ hh0 (Stand.of_body B)
    exact ⟨t, o, a1, b1, b2, ⟨b3.1, b3.2⟩⟩
/-- a method's contract out of its body -/
theorem ct_of_J {G : GG} {l : Launch} {y : MethodName} {cc : ByteArray} {nL : Nat} {ret : Option FieldType} {d mc ms : Nat} {ρ : Nat → Nat} {n : Nat} {rt : Rt} {args : List Value} {m : Mm} {ov : Option Value} {rt2 : Rt} {m2 : Mm} {own : String}
    (hy : plainFor y = true) (hown : y.cls = own) (hargs : (lg_sl args).length ≤ nL)
    (hJ : ∀ X : XX, Ok X G ρ cc nL own d → X.1.2.2.2.1 = rmd d mc ms → X.1.2.1 = l → X.2.2.1 = 0 → X.2.2.2.1 = 0 → X.2.2.2.2 = MQ X.2.1.2.2.1 (Qcc G ρ n ov rt2 m2) X.2.1.2.1 X.1.2.2.2.2 mc ms (GA G) → X.2.1.2.2.2.1.sig.returnType = ret → X.2.1.2.2.2.1.locks = false →
      J X G ρ n nL 0 (lv_args 0 args) [] rt m) : CT G l y cc nL ret d mc ms ρ n rt args m ov rt2 m2 := by
  refine MetF_ofW (cc := cc) (maxL := nL) (ret := ret) hy rfl ?_
  intro p e s mi av below meth c s₁ B hml hv
  obtain ⟨rfl, hW, hk⟩ := hv
  have hts := atoms_spec (ws := .code y cc nL ret :: gt) B.pre
  have hown2 : s.vm.findClass own = some mi.cls := by rw [← hown]; exact findClass_of_methodNamed B.named
  rw [lg_entry_eq]
  have hl := lv_entry (args.map (mv ρ)) (n := nL) (by rw [lg_mv]; exact hargs)
  rw [← lv_args_mv] at hl
  exact hJ ((p, l, e, (headSpec (.code y cc nL ret :: gt) (rmd d mc ms)).room, s), (mi, (args.map (mv ρ)).toArray, below, meth, c), (0, 0, MQ below (Qcc G ρ n ov rt2 m2) (args.map (mv ρ)).toArray s mc ms (GA G)))
    ⟨B.exec, B.bytes, hml, hown2, fun w h => hts w (List.mem_cons_of_mem _ h), hk, Nat.zero_le _, Nat.zero_le _, Nat.le_refl _, Nat.le_refl _⟩ rfl rfl rfl rfl rfl B.returns B.notSynchronized s.heap [] _ hW va_S.rf hl
