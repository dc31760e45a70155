/-! A row an instruction. f-terms: gd (a test that must hold), stI/stL (a store), bd2/bd1 (a call), ite (a branch); h says that the f-term comes to res -/
def gd {α : Type} (b : Bool) (A : Option α) : Option α := if b = true then A else none
def stI {α : Type} (m : Mm) (a k : Nat) (v : Int32) (K : Mm → Option α) : Option α := K (sI m a k v)
def stL {α : Type} (m : Mm) (a k : Nat) (v : Int64) (K : Mm → Option α) : Option α := K (sL m a k v)
def bd2 {α β : Type} (q : Option (β × Mm)) (K : β → Mm → Option α) : Option α := match q with
  | some (r, m) => K r m
  | none => none
def bd1 {α : Type} (q : Option Mm) (K : Mm → Option α) : Option α := match q with
  | some m => K m
  | none => none
def inb (i : Int32) (n : Nat) : Bool := decide (¬ i < 0) && decide (i.toNatClampNeg < n)
def isB (v : Int32) : Bool := decide (v = 0) || decide (v = 1)
def nz (v : Int32) : Bool := decide (¬ v = 0)
def nzL (v : Int64) : Bool := decide (¬ v = 0)
def ix (i : Int32) : Nat := i.toNatClampNeg
theorem gd_some {α : Type} {b : Bool} {A : Option α} {r : α} (h : gd b A = some r) : b = true ∧ A = some r := by
  unfold gd at h; split at h
  · exact ⟨by assumption, h⟩
  · cases h
theorem bd2_some {α β : Type} {q : Option (β × Mm)} {K : β → Mm → Option α} {r : α} (h : bd2 q K = some r) : ∃ x m, q = some (x, m) ∧ K x m = some r := by
  match q, h with
  | some (x, m), h => exact ⟨x, m, rfl, h⟩
theorem bd1_some {α : Type} {q : Option Mm} {K : Mm → Option α} {r : α} (h : bd1 q K = some r) : ∃ m, q = some m ∧ K m = some r := by
  match q, h with
  | some m, h => exact ⟨m, rfl, h⟩
theorem inb_in {i : Int32} {n : Nat} (h : inb i n = true) : vp_in i n := by
  simp only [inb, Bool.and_eq_true, decide_eq_true_eq] at h
  exact fun q => q.elim h.1 (fun q => absurd h.2 (Nat.not_lt.mpr q))
theorem inb_iff {i : Int32} {n : Nat} : inb i n = true ↔ vp_in i n := ⟨inb_in, fun h => by
  simp only [inb, Bool.and_eq_true, decide_eq_true_eq]
  exact ⟨fun q => h (Or.inl q), Nat.not_le.mp fun q => h (Or.inr q)⟩⟩
theorem J_iadd {X : XX} {G : GG} {ρ : Nat → Nat} {n : Nat} {cc : ByteArray} {nL : Nat} {own : String} {d pc : Nat} {lv : List (Nat × Value)} {st : List Value} {rt : Rt} {m : Mm} (hX : Ok X G ρ cc nL own d) {x y : Int32} (hd : decode cc pc = .ok (.iadd, 1)) (k : J X G ρ n nL (pc + 1) lv (.int (x + y) :: st) rt m) : J X G ρ n nL pc lv (.int y :: .int x :: st) rt m := by
  intro H locs ls hP hS hl
  exact lv_iadd hX.1 hX.2.1 hd (k H locs ls hP hS hl)
theorem J_isub {X : XX} {G : GG} {ρ : Nat → Nat} {n : Nat} {cc : ByteArray} {nL : Nat} {own : String} {d pc : Nat} {lv : List (Nat × Value)} {st : List Value} {rt : Rt} {m : Mm} (hX : Ok X G ρ cc nL own d) {x y : Int32} (hd : decode cc pc = .ok (.isub, 1)) (k : J X G ρ n nL (pc + 1) lv (.int (x - y) :: st) rt m) : J X G ρ n nL pc lv (.int y :: .int x :: st) rt m := by
  intro H locs ls hP hS hl
  exact lv_isub hX.1 hX.2.1 hd (k H locs ls hP hS hl)
theorem J_imul {X : XX} {G : GG} {ρ : Nat → Nat} {n : Nat} {cc : ByteArray} {nL : Nat} {own : String} {d pc : Nat} {lv : List (Nat × Value)} {st : List Value} {rt : Rt} {m : Mm} (hX : Ok X G ρ cc nL own d) {x y : Int32} (hd : decode cc pc = .ok (.imul, 1)) (k : J X G ρ n nL (pc + 1) lv (.int (x * y) :: st) rt m) : J X G ρ n nL pc lv (.int y :: .int x :: st) rt m := by
  intro H locs ls hP hS hl
  exact lv_imul hX.1 hX.2.1 hd (k H locs ls hP hS hl)
theorem J_iand {X : XX} {G : GG} {ρ : Nat → Nat} {n : Nat} {cc : ByteArray} {nL : Nat} {own : String} {d pc : Nat} {lv : List (Nat × Value)} {st : List Value} {rt : Rt} {m : Mm} (hX : Ok X G ρ cc nL own d) {x y : Int32} (hd : decode cc pc = .ok (.iand, 1)) (k : J X G ρ n nL (pc + 1) lv (.int (x &&& y) :: st) rt m) : J X G ρ n nL pc lv (.int y :: .int x :: st) rt m := by
  intro H locs ls hP hS hl
  exact lv_iand hX.1 hX.2.1 hd (k H locs ls hP hS hl)
theorem J_ior {X : XX} {G : GG} {ρ : Nat → Nat} {n : Nat} {cc : ByteArray} {nL : Nat} {own : String} {d pc : Nat} {lv : List (Nat × Value)} {st : List Value} {rt : Rt} {m : Mm} (hX : Ok X G ρ cc nL own d) {x y : Int32} (hd : decode cc pc = .ok (.ior, 1)) (k : J X G ρ n nL (pc + 1) lv (.int (x ||| y) :: st) rt m) : J X G ρ n nL pc lv (.int y :: .int x :: st) rt m := by
  intro H locs ls hP hS hl
  exact lv_ior hX.1 hX.2.1 hd (k H locs ls hP hS hl)
theorem J_ixor {X : XX} {G : GG} {ρ : Nat → Nat} {n : Nat} {cc : ByteArray} {nL : Nat} {own : String} {d pc : Nat} {lv : List (Nat × Value)} {st : List Value} {rt : Rt} {m : Mm} (hX : Ok X G ρ cc nL own d) {x y : Int32} (hd : decode cc pc = .ok (.ixor, 1)) (k : J X G ρ n nL (pc + 1) lv (.int (x ^^^ y) :: st) rt m) : J X G ρ n nL pc lv (.int y :: .int x :: st) rt m := by
  intro H locs ls hP hS hl
  exact lv_ixor hX.1 hX.2.1 hd (k H locs ls hP hS hl)
theorem J_ishl {X : XX} {G : GG} {ρ : Nat → Nat} {n : Nat} {cc : ByteArray} {nL : Nat} {own : String} {d pc : Nat} {lv : List (Nat × Value)} {st : List Value} {rt : Rt} {m : Mm} (hX : Ok X G ρ cc nL own d) {x y : Int32} (hd : decode cc pc = .ok (.ishl, 1)) (k : J X G ρ n nL (pc + 1) lv (.int (x <<< (y &&& 31)) :: st) rt m) : J X G ρ n nL pc lv (.int y :: .int x :: st) rt m := by
  intro H locs ls hP hS hl
  exact lv_ishl hX.1 hX.2.1 hd (k H locs ls hP hS hl)
theorem J_ishr {X : XX} {G : GG} {ρ : Nat → Nat} {n : Nat} {cc : ByteArray} {nL : Nat} {own : String} {d pc : Nat} {lv : List (Nat × Value)} {st : List Value} {rt : Rt} {m : Mm} (hX : Ok X G ρ cc nL own d) {x y : Int32} (hd : decode cc pc = .ok (.ishr, 1)) (k : J X G ρ n nL (pc + 1) lv (.int (x >>> (y &&& 31)) :: st) rt m) : J X G ρ n nL pc lv (.int y :: .int x :: st) rt m := by
  intro H locs ls hP hS hl
  exact lv_ishr hX.1 hX.2.1 hd (k H locs ls hP hS hl)
theorem J_iushr {X : XX} {G : GG} {ρ : Nat → Nat} {n : Nat} {cc : ByteArray} {nL : Nat} {own : String} {d pc : Nat} {lv : List (Nat × Value)} {st : List Value} {rt : Rt} {m : Mm} (hX : Ok X G ρ cc nL own d) {x y : Int32} (hd : decode cc pc = .ok (.iushr, 1)) (k : J X G ρ n nL (pc + 1) lv (.int ((x.toUInt32 >>> (y.toUInt32 &&& Int32.toUInt32 31)).toInt32) :: st) rt m) : J X G ρ n nL pc lv (.int y :: .int x :: st) rt m := by
  intro H locs ls hP hS hl
  exact lv_iushr hX.1 hX.2.1 hd rfl (k H locs ls hP hS hl)
theorem J_ladd {X : XX} {G : GG} {ρ : Nat → Nat} {n : Nat} {cc : ByteArray} {nL : Nat} {own : String} {d pc : Nat} {lv : List (Nat × Value)} {st : List Value} {rt : Rt} {m : Mm} (hX : Ok X G ρ cc nL own d) {x y : Int64} (hd : decode cc pc = .ok (.ladd, 1)) (k : J X G ρ n nL (pc + 1) lv (.long (x + y) :: st) rt m) : J X G ρ n nL pc lv (.long y :: .long x :: st) rt m := by
  intro H locs ls hP hS hl
  exact lv_ladd hX.1 hX.2.1 hd (k H locs ls hP hS hl)
theorem J_lsub {X : XX} {G : GG} {ρ : Nat → Nat} {n : Nat} {cc : ByteArray} {nL : Nat} {own : String} {d pc : Nat} {lv : List (Nat × Value)} {st : List Value} {rt : Rt} {m : Mm} (hX : Ok X G ρ cc nL own d) {x y : Int64} (hd : decode cc pc = .ok (.lsub, 1)) (k : J X G ρ n nL (pc + 1) lv (.long (x - y) :: st) rt m) : J X G ρ n nL pc lv (.long y :: .long x :: st) rt m := by
  intro H locs ls hP hS hl
  exact lv_lsub hX.1 hX.2.1 hd (k H locs ls hP hS hl)
theorem J_lmul {X : XX} {G : GG} {ρ : Nat → Nat} {n : Nat} {cc : ByteArray} {nL : Nat} {own : String} {d pc : Nat} {lv : List (Nat × Value)} {st : List Value} {rt : Rt} {m : Mm} (hX : Ok X G ρ cc nL own d) {x y : Int64} (hd : decode cc pc = .ok (.lmul, 1)) (k : J X G ρ n nL (pc + 1) lv (.long (x * y) :: st) rt m) : J X G ρ n nL pc lv (.long y :: .long x :: st) rt m := by
  intro H locs ls hP hS hl
  exact lv_lmul hX.1 hX.2.1 hd (k H locs ls hP hS hl)
theorem J_land {X : XX} {G : GG} {ρ : Nat → Nat} {n : Nat} {cc : ByteArray} {nL : Nat} {own : String} {d pc : Nat} {lv : List (Nat × Value)} {st : List Value} {rt : Rt} {m : Mm} (hX : Ok X G ρ cc nL own d) {x y : Int64} (hd : decode cc pc = .ok (.land, 1)) (k : J X G ρ n nL (pc + 1) lv (.long (x &&& y) :: st) rt m) : J X G ρ n nL pc lv (.long y :: .long x :: st) rt m := by
  intro H locs ls hP hS hl
  exact lv_land hX.1 hX.2.1 hd (k H locs ls hP hS hl)
theorem J_lor {X : XX} {G : GG} {ρ : Nat → Nat} {n : Nat} {cc : ByteArray} {nL : Nat} {own : String} {d pc : Nat} {lv : List (Nat × Value)} {st : List Value} {rt : Rt} {m : Mm} (hX : Ok X G ρ cc nL own d) {x y : Int64} (hd : decode cc pc = .ok (.lor, 1)) (k : J X G ρ n nL (pc + 1) lv (.long (x ||| y) :: st) rt m) : J X G ρ n nL pc lv (.long y :: .long x :: st) rt m := by
  intro H locs ls hP hS hl
  exact lv_lor hX.1 hX.2.1 hd (k H locs ls hP hS hl)
theorem J_lxor {X : XX} {G : GG} {ρ : Nat → Nat} {n : Nat} {cc : ByteArray} {nL : Nat} {own : String} {d pc : Nat} {lv : List (Nat × Value)} {st : List Value} {rt : Rt} {m : Mm} (hX : Ok X G ρ cc nL own d) {x y : Int64} (hd : decode cc pc = .ok (.lxor, 1)) (k : J X G ρ n nL (pc + 1) lv (.long (x ^^^ y) :: st) rt m) : J X G ρ n nL pc lv (.long y :: .long x :: st) rt m := by
  intro H locs ls hP hS hl
  exact lv_lxor hX.1 hX.2.1 hd (k H locs ls hP hS hl)
theorem J_lushr {X : XX} {G : GG} {ρ : Nat → Nat} {n : Nat} {cc : ByteArray} {nL : Nat} {own : String} {d pc : Nat} {lv : List (Nat × Value)} {st : List Value} {rt : Rt} {m : Mm} (hX : Ok X G ρ cc nL own d) {x : Int64} {y : Int32} (hd : decode cc pc = .ok (.lushr, 1)) (k : J X G ρ n nL (pc + 1) lv (.long ((x.toUInt64 >>> (y.toInt64.toUInt64 &&& Int64.toUInt64 63)).toInt64) :: st) rt m) : J X G ρ n nL pc lv (.int y :: .long x :: st) rt m := by
  intro H locs ls hP hS hl
  exact lv_lushr hX.1 hX.2.1 hd rfl (k H locs ls hP hS hl)
theorem J_lshl {X : XX} {G : GG} {ρ : Nat → Nat} {n : Nat} {cc : ByteArray} {nL : Nat} {own : String} {d pc : Nat} {lv : List (Nat × Value)} {st : List Value} {rt : Rt} {m : Mm} (hX : Ok X G ρ cc nL own d) {x : Int64} {y : Int32} (hd : decode cc pc = .ok (.lshl, 1)) (k : J X G ρ n nL (pc + 1) lv (.long (x <<< (y.toInt64 &&& 63)) :: st) rt m) : J X G ρ n nL pc lv (.int y :: .long x :: st) rt m := by
  intro H locs ls hP hS hl
  exact lv_lshl hX.1 hX.2.1 hd rfl (k H locs ls hP hS hl)
theorem J_lshr {X : XX} {G : GG} {ρ : Nat → Nat} {n : Nat} {cc : ByteArray} {nL : Nat} {own : String} {d pc : Nat} {lv : List (Nat × Value)} {st : List Value} {rt : Rt} {m : Mm} (hX : Ok X G ρ cc nL own d) {x : Int64} {y : Int32} (hd : decode cc pc = .ok (.lshr, 1)) (k : J X G ρ n nL (pc + 1) lv (.long (x >>> (y.toInt64 &&& 63)) :: st) rt m) : J X G ρ n nL pc lv (.int y :: .long x :: st) rt m := by
  intro H locs ls hP hS hl
  exact lv_lshr hX.1 hX.2.1 hd rfl (k H locs ls hP hS hl)
theorem J_idiv0 {X : XX} {G : GG} {ρ : Nat → Nat} {n : Nat} {cc : ByteArray} {nL : Nat} {own : String} {d pc : Nat} {lv : List (Nat × Value)} {st : List Value} {rt : Rt} {m : Mm} (hX : Ok X G ρ cc nL own d) {x y : Int32} (hd : decode cc pc = .ok (.idiv, 1)) (hz : nz y = true) (k : J X G ρ n nL (pc + 1) lv (.int (x / y) :: st) rt m) : J X G ρ n nL pc lv (.int y :: .int x :: st) rt m := by
  intro H locs ls hP hS hl
  exact lv_idiv hX.1 hX.2.1 hd (of_decide_eq_true hz) (k H locs ls hP hS hl)
theorem J_idiv {X : XX} {G : GG} {ρ : Nat → Nat} {n : Nat} {cc : ByteArray} {nL : Nat} {own : String} {d pc : Nat} {lv : List (Nat × Value)} {st : List Value} {rt : Rt} {m : Mm} {α : Type} {A : Option α} {res : α} (hX : Ok X G ρ cc nL own d) {x y : Int32} (hd : decode cc pc = .ok (.idiv, 1)) (h : gd (nz y) A = some res) (k : A = some res → J X G ρ n nL (pc + 1) lv (.int (x / y) :: st) rt m) : J X G ρ n nL pc lv (.int y :: .int x :: st) rt m := J_idiv0 hX hd (gd_some h).1 (k (gd_some h).2)
theorem J_irem0 {X : XX} {G : GG} {ρ : Nat → Nat} {n : Nat} {cc : ByteArray} {nL : Nat} {own : String} {d pc : Nat} {lv : List (Nat × Value)} {st : List Value} {rt : Rt} {m : Mm} (hX : Ok X G ρ cc nL own d) {x y : Int32} (hd : decode cc pc = .ok (.irem, 1)) (hz : nz y = true) (k : J X G ρ n nL (pc + 1) lv (.int (x - x / y * y) :: st) rt m) : J X G ρ n nL pc lv (.int y :: .int x :: st) rt m := by
  intro H locs ls hP hS hl
  exact lv_irem hX.1 hX.2.1 hd (of_decide_eq_true hz) (k H locs ls hP hS hl)
theorem J_irem {X : XX} {G : GG} {ρ : Nat → Nat} {n : Nat} {cc : ByteArray} {nL : Nat} {own : String} {d pc : Nat} {lv : List (Nat × Value)} {st : List Value} {rt : Rt} {m : Mm} {α : Type} {A : Option α} {res : α} (hX : Ok X G ρ cc nL own d) {x y : Int32} (hd : decode cc pc = .ok (.irem, 1)) (h : gd (nz y) A = some res) (k : A = some res → J X G ρ n nL (pc + 1) lv (.int (x - x / y * y) :: st) rt m) : J X G ρ n nL pc lv (.int y :: .int x :: st) rt m := J_irem0 hX hd (gd_some h).1 (k (gd_some h).2)
theorem J_ldiv0 {X : XX} {G : GG} {ρ : Nat → Nat} {n : Nat} {cc : ByteArray} {nL : Nat} {own : String} {d pc : Nat} {lv : List (Nat × Value)} {st : List Value} {rt : Rt} {m : Mm} (hX : Ok X G ρ cc nL own d) {x y : Int64} (hd : decode cc pc = .ok (.ldiv, 1)) (hz : nzL y = true) (k : J X G ρ n nL (pc + 1) lv (.long (x / y) :: st) rt m) : J X G ρ n nL pc lv (.long y :: .long x :: st) rt m := by
  intro H locs ls hP hS hl
  exact lv_ldiv hX.1 hX.2.1 hd (of_decide_eq_true hz) (k H locs ls hP hS hl)
theorem J_ldiv {X : XX} {G : GG} {ρ : Nat → Nat} {n : Nat} {cc : ByteArray} {nL : Nat} {own : String} {d pc : Nat} {lv : List (Nat × Value)} {st : List Value} {rt : Rt} {m : Mm} {α : Type} {A : Option α} {res : α} (hX : Ok X G ρ cc nL own d) {x y : Int64} (hd : decode cc pc = .ok (.ldiv, 1)) (h : gd (nzL y) A = some res) (k : A = some res → J X G ρ n nL (pc + 1) lv (.long (x / y) :: st) rt m) : J X G ρ n nL pc lv (.long y :: .long x :: st) rt m := J_ldiv0 hX hd (gd_some h).1 (k (gd_some h).2)
theorem J_lrem0 {X : XX} {G : GG} {ρ : Nat → Nat} {n : Nat} {cc : ByteArray} {nL : Nat} {own : String} {d pc : Nat} {lv : List (Nat × Value)} {st : List Value} {rt : Rt} {m : Mm} (hX : Ok X G ρ cc nL own d) {x y : Int64} (hd : decode cc pc = .ok (.lrem, 1)) (hz : nzL y = true) (k : J X G ρ n nL (pc + 1) lv (.long (x - x / y * y) :: st) rt m) : J X G ρ n nL pc lv (.long y :: .long x :: st) rt m := by
  intro H locs ls hP hS hl
  exact lv_lrem hX.1 hX.2.1 hd (of_decide_eq_true hz) (k H locs ls hP hS hl)
theorem J_lrem {X : XX} {G : GG} {ρ : Nat → Nat} {n : Nat} {cc : ByteArray} {nL : Nat} {own : String} {d pc : Nat} {lv : List (Nat × Value)} {st : List Value} {rt : Rt} {m : Mm} {α : Type} {A : Option α} {res : α} (hX : Ok X G ρ cc nL own d) {x y : Int64} (hd : decode cc pc = .ok (.lrem, 1)) (h : gd (nzL y) A = some res) (k : A = some res → J X G ρ n nL (pc + 1) lv (.long (x - x / y * y) :: st) rt m) : J X G ρ n nL pc lv (.long y :: .long x :: st) rt m := J_lrem0 hX hd (gd_some h).1 (k (gd_some h).2)
theorem J_ineg {X : XX} {G : GG} {ρ : Nat → Nat} {n : Nat} {cc : ByteArray} {nL : Nat} {own : String} {d pc : Nat} {lv : List (Nat × Value)} {st : List Value} {rt : Rt} {m : Mm} (hX : Ok X G ρ cc nL own d) {x : Int32} (hd : decode cc pc = .ok (.ineg, 1)) (k : J X G ρ n nL (pc + 1) lv (.int (-x) :: st) rt m) : J X G ρ n nL pc lv (.int x :: st) rt m := by
  intro H locs ls hP hS hl
  exact lv_ineg hX.1 hX.2.1 hd (k H locs ls hP hS hl)
theorem J_i2l {X : XX} {G : GG} {ρ : Nat → Nat} {n : Nat} {cc : ByteArray} {nL : Nat} {own : String} {d pc : Nat} {lv : List (Nat × Value)} {st : List Value} {rt : Rt} {m : Mm} (hX : Ok X G ρ cc nL own d) {x : Int32} (hd : decode cc pc = .ok (.i2l, 1)) (k : J X G ρ n nL (pc + 1) lv (.long x.toInt64 :: st) rt m) : J X G ρ n nL pc lv (.int x :: st) rt m := by
  intro H locs ls hP hS hl
  exact lv_i2l hX.1 hX.2.1 hd rfl (k H locs ls hP hS hl)
theorem J_l2i {X : XX} {G : GG} {ρ : Nat → Nat} {n : Nat} {cc : ByteArray} {nL : Nat} {own : String} {d pc : Nat} {lv : List (Nat × Value)} {st : List Value} {rt : Rt} {m : Mm} (hX : Ok X G ρ cc nL own d) {x : Int64} (hd : decode cc pc = .ok (.l2i, 1)) (k : J X G ρ n nL (pc + 1) lv (.int x.toInt32 :: st) rt m) : J X G ρ n nL pc lv (.long x :: st) rt m := by
  intro H locs ls hP hS hl
  exact lv_l2i hX.1 hX.2.1 hd rfl (k H locs ls hP hS hl)
theorem J_i2c {X : XX} {G : GG} {ρ : Nat → Nat} {n : Nat} {cc : ByteArray} {nL : Nat} {own : String} {d pc : Nat} {lv : List (Nat × Value)} {st : List Value} {rt : Rt} {m : Mm} (hX : Ok X G ρ cc nL own d) {x : Int32} (hd : decode cc pc = .ok (.i2c, 1)) (k : J X G ρ n nL (pc + 1) lv (.int (x.toUInt32 % 65536).toInt32 :: st) rt m) : J X G ρ n nL pc lv (.int x :: st) rt m := by
  intro H locs ls hP hS hl
  exact lv_i2c hX.1 hX.2.1 hd rfl (k H locs ls hP hS hl)
theorem J_lcmp {X : XX} {G : GG} {ρ : Nat → Nat} {n : Nat} {cc : ByteArray} {nL : Nat} {own : String} {d pc : Nat} {lv : List (Nat × Value)} {st : List Value} {rt : Rt} {m : Mm} (hX : Ok X G ρ cc nL own d) {x y : Int64} (hd : decode cc pc = .ok (.lcmp, 1)) (k : J X G ρ n nL (pc + 1) lv (.int (lg_cmp x y) :: st) rt m) : J X G ρ n nL pc lv (.long y :: .long x :: st) rt m := by
  intro H locs ls hP hS hl
  exact W.lcmp hX.1 hX.2.1 hd (k H locs ls hP hS hl)
theorem J_iconst {X : XX} {G : GG} {ρ : Nat → Nat} {n : Nat} {cc : ByteArray} {nL : Nat} {own : String} {d pc : Nat} {lv : List (Nat × Value)} {st : List Value} {rt : Rt} {m : Mm} (hX : Ok X G ρ cc nL own d) {z : Int} (v : Int32) (hd : decode cc pc = .ok (.iconst z, 1)) (hv : Int32.ofInt z = v) (k : J X G ρ n nL (pc + 1) lv (.int v :: st) rt m) : J X G ρ n nL pc lv (st) rt m := by
  intro H locs ls hP hS hl
  exact lv_iconst hX.1 hX.2.1 hd hv (k H locs ls hP hS hl)
theorem J_bipush {X : XX} {G : GG} {ρ : Nat → Nat} {n : Nat} {cc : ByteArray} {nL : Nat} {own : String} {d pc : Nat} {lv : List (Nat × Value)} {st : List Value} {rt : Rt} {m : Mm} (hX : Ok X G ρ cc nL own d) {z : Int} (v : Int32) (hd : decode cc pc = .ok (.bipush z, 2)) (hv : (Int8.ofInt z).toInt32 = v) (k : J X G ρ n nL (pc + 2) lv (.int v :: st) rt m) : J X G ρ n nL pc lv (st) rt m := by
  intro H locs ls hP hS hl
  exact lv_bipush hX.1 hX.2.1 hd hv (k H locs ls hP hS hl)
theorem J_sipush {X : XX} {G : GG} {ρ : Nat → Nat} {n : Nat} {cc : ByteArray} {nL : Nat} {own : String} {d pc : Nat} {lv : List (Nat × Value)} {st : List Value} {rt : Rt} {m : Mm} (hX : Ok X G ρ cc nL own d) {z : Int} (v : Int32) (hd : decode cc pc = .ok (.sipush z, 3)) (hv : (Int16.ofInt z).toInt32 = v) (k : J X G ρ n nL (pc + 3) lv (.int v :: st) rt m) : J X G ρ n nL pc lv (st) rt m := by
  intro H locs ls hP hS hl
  exact lv_sipush hX.1 hX.2.1 hd hv (k H locs ls hP hS hl)
theorem J_lconst {X : XX} {G : GG} {ρ : Nat → Nat} {n : Nat} {cc : ByteArray} {nL : Nat} {own : String} {d pc : Nat} {lv : List (Nat × Value)} {st : List Value} {rt : Rt} {m : Mm} (hX : Ok X G ρ cc nL own d) {z : Fin 2} (v : Int64) (hd : decode cc pc = .ok (.lconst z, 1)) (hv : Int64.ofNat (z : Nat) = v) (k : J X G ρ n nL (pc + 1) lv (.long v :: st) rt m) : J X G ρ n nL pc lv (st) rt m := by
  intro H locs ls hP hS hl
  exact lv_lconst hX.1 hX.2.1 hd hv (k H locs ls hP hS hl)
theorem J_ldc {X : XX} {G : GG} {ρ : Nat → Nat} {n : Nat} {cc : ByteArray} {nL : Nat} {own : String} {d pc : Nat} {lv : List (Nat × Value)} {st : List Value} {rt : Rt} {m : Mm} (hX : Ok X G ρ cc nL own d) {idx : Nat} (v : Int32) (hd : decode cc pc = .ok (.ldc idx, 2)) (hw : Cond.constant own idx v ∈ gt) (k : J X G ρ n nL (pc + 2) lv (.int v :: st) rt m) : J X G ρ n nL pc lv (st) rt m := by
  intro H locs ls hP hS hl
  exact lv_ldc hX.1 hX.2.1 hX.2.2.2.1 (hX.2.2.2.2.1 _ hw) hd (k H locs ls hP hS hl)
theorem J_ldc2 {X : XX} {G : GG} {ρ : Nat → Nat} {n : Nat} {cc : ByteArray} {nL : Nat} {own : String} {d pc : Nat} {lv : List (Nat × Value)} {st : List Value} {rt : Rt} {m : Mm} (hX : Ok X G ρ cc nL own d) {idx : Nat} (v : Int64) (hd : decode cc pc = .ok (.ldc2_w idx, 3)) (hw : Cond.constantLong own idx v ∈ gt) (k : J X G ρ n nL (pc + 3) lv (.long v :: st) rt m) : J X G ρ n nL pc lv (st) rt m := by
  intro H locs ls hP hS hl
  exact lv_ldc2 hX.1 hX.2.1 hX.2.2.2.1 (hX.2.2.2.2.1 _ hw) hd (k H locs ls hP hS hl)
theorem mq_at {ρ : Nat → Nat} {lv : List (Nat × Value)} {k i : Nat} {v : Value} (h : lv[k]? = some (i, v)) : (lv.map (mq ρ))[k]? = some (i, mv ρ v) := by
  rw [List.getElem?_map, h]; rfl
theorem J_iload_n {X : XX} {G : GG} {ρ : Nat → Nat} {n : Nat} {cc : ByteArray} {nL : Nat} {own : String} {d pc : Nat} {lv : List (Nat × Value)} {st : List Value} {rt : Rt} {m : Mm} (hX : Ok X G ρ cc nL own d) {z : Fin 4} {i : Nat} {x : Int32} (hd : decode cc pc = .ok (.iload_n z, 1)) (hi : (z : Nat) = i) (q : Nat) (hq : lv[q]? = some (i, .int x)) (k : J X G ρ n nL (pc + 1) lv (.int x :: st) rt m) : J X G ρ n nL pc lv (st) rt m := by
  intro H locs ls hP hS hl
  exact lv_iload_n hX.1 hX.2.1 hd hi (lv_at hl q (mq_at hq)) (k H locs ls hP hS hl)
theorem J_iload {X : XX} {G : GG} {ρ : Nat → Nat} {n : Nat} {cc : ByteArray} {nL : Nat} {own : String} {d pc : Nat} {lv : List (Nat × Value)} {st : List Value} {rt : Rt} {m : Mm} (hX : Ok X G ρ cc nL own d) {i : Nat} {x : Int32} (hd : decode cc pc = .ok (.iload i, 2)) (q : Nat) (hq : lv[q]? = some (i, .int x)) (k : J X G ρ n nL (pc + 2) lv (.int x :: st) rt m) : J X G ρ n nL pc lv (st) rt m := by
  intro H locs ls hP hS hl
  exact lv_iload hX.1 hX.2.1 hd (lv_at hl q (mq_at hq)) (k H locs ls hP hS hl)
theorem J_lload_n {X : XX} {G : GG} {ρ : Nat → Nat} {n : Nat} {cc : ByteArray} {nL : Nat} {own : String} {d pc : Nat} {lv : List (Nat × Value)} {st : List Value} {rt : Rt} {m : Mm} (hX : Ok X G ρ cc nL own d) {z : Fin 4} {i : Nat} {x : Int64} (hd : decode cc pc = .ok (.lload_n z, 1)) (hi : (z : Nat) = i) (q : Nat) (hq : lv[q]? = some (i, .long x)) (k : J X G ρ n nL (pc + 1) lv (.long x :: st) rt m) : J X G ρ n nL pc lv (st) rt m := by
  intro H locs ls hP hS hl
  exact lv_lload_n hX.1 hX.2.1 hd hi (lv_at hl q (mq_at hq)) (k H locs ls hP hS hl)
theorem J_lload {X : XX} {G : GG} {ρ : Nat → Nat} {n : Nat} {cc : ByteArray} {nL : Nat} {own : String} {d pc : Nat} {lv : List (Nat × Value)} {st : List Value} {rt : Rt} {m : Mm} (hX : Ok X G ρ cc nL own d) {i : Nat} {x : Int64} (hd : decode cc pc = .ok (.lload i, 2)) (q : Nat) (hq : lv[q]? = some (i, .long x)) (k : J X G ρ n nL (pc + 2) lv (.long x :: st) rt m) : J X G ρ n nL pc lv (st) rt m := by
  intro H locs ls hP hS hl
  exact lv_lload hX.1 hX.2.1 hd (lv_at hl q (mq_at hq)) (k H locs ls hP hS hl)
theorem J_aload_n {X : XX} {G : GG} {ρ : Nat → Nat} {n : Nat} {cc : ByteArray} {nL : Nat} {own : String} {d pc : Nat} {lv : List (Nat × Value)} {st : List Value} {rt : Rt} {m : Mm} (hX : Ok X G ρ cc nL own d) {z : Fin 4} {i : Nat} {x : Nat} (hd : decode cc pc = .ok (.aload_n z, 1)) (hi : (z : Nat) = i) (q : Nat) (hq : lv[q]? = some (i, .ref x)) (k : J X G ρ n nL (pc + 1) lv (.ref x :: st) rt m) : J X G ρ n nL pc lv (st) rt m := by
  intro H locs ls hP hS hl
  exact lv_aload_n hX.1 hX.2.1 hd hi (lv_at hl q (mq_at hq)) (k H locs ls hP hS hl)
theorem J_aload {X : XX} {G : GG} {ρ : Nat → Nat} {n : Nat} {cc : ByteArray} {nL : Nat} {own : String} {d pc : Nat} {lv : List (Nat × Value)} {st : List Value} {rt : Rt} {m : Mm} (hX : Ok X G ρ cc nL own d) {i : Nat} {x : Nat} (hd : decode cc pc = .ok (.aload i, 2)) (q : Nat) (hq : lv[q]? = some (i, .ref x)) (k : J X G ρ n nL (pc + 2) lv (.ref x :: st) rt m) : J X G ρ n nL pc lv (st) rt m := by
  intro H locs ls hP hS hl
  exact lv_aload hX.1 hX.2.1 hd (lv_at hl q (mq_at hq)) (k H locs ls hP hS hl)
theorem mq_filter {ρ : Nat → Nat} {lv : List (Nat × Value)} {i : Nat} : (lv.map (mq ρ)).filter (fun q => !(q.1 == i) && !(q.1 + 1 == i && q.2.category == 2)) = (lv.filter (fun q => !(q.1 == i) && !(q.1 + 1 == i && q.2.category == 2))).map (mq ρ) := by
  rw [List.filter_map]
  congr 1
  apply List.filter_congr
  intro q _
  simp only [Function.comp, mq, mv_cat]
theorem mq_filter2 {ρ : Nat → Nat} {lv : List (Nat × Value)} {i : Nat} : (lv.map (mq ρ)).filter (fun q => !(q.1 == i) && (!(q.1 == i + 1) && !(q.1 + 1 == i && q.2.category == 2))) = (lv.filter (fun q => !(q.1 == i) && (!(q.1 == i + 1) && !(q.1 + 1 == i && q.2.category == 2)))).map (mq ρ) := by
  rw [List.filter_map]
  congr 1
  apply List.filter_congr
  intro q _
  simp only [Function.comp, mq, mv_cat]
theorem J_istore_n {X : XX} {G : GG} {ρ : Nat → Nat} {n : Nat} {cc : ByteArray} {nL : Nat} {own : String} {d pc : Nat} {lv : List (Nat × Value)} {st : List Value} {rt : Rt} {m : Mm} (hX : Ok X G ρ cc nL own d) {z : Fin 4} {i : Nat} {x : Int32} (lv2 : List (Nat × Value)) (hd : decode cc pc = .ok (.istore_n z, 1)) (hi : (z : Nat) = i) (hn : i < nL) (hf : (i, Value.int x) :: lv.filter (fun q => !(q.1 == i) && !(q.1 + 1 == i && q.2.category == 2)) = lv2) (k : J X G ρ n nL (pc + 1) lv2 (st) rt m) : J X G ρ n nL pc lv (.int x :: st) rt m := by
  intro H locs ls hP hS hl
  exact lv_istore_n (lv' := lv2.map (mq ρ)) hX.1 hX.2.1 hd hi hl hn (by rw [← hf, mq_filter]; rfl) (fun ls hl => k H locs ls hP hS hl)
theorem J_istore {X : XX} {G : GG} {ρ : Nat → Nat} {n : Nat} {cc : ByteArray} {nL : Nat} {own : String} {d pc : Nat} {lv : List (Nat × Value)} {st : List Value} {rt : Rt} {m : Mm} (hX : Ok X G ρ cc nL own d) {i : Nat} {x : Int32} (lv2 : List (Nat × Value)) (hd : decode cc pc = .ok (.istore i, 2)) (hn : i < nL) (hf : (i, Value.int x) :: lv.filter (fun q => !(q.1 == i) && !(q.1 + 1 == i && q.2.category == 2)) = lv2) (k : J X G ρ n nL (pc + 2) lv2 (st) rt m) : J X G ρ n nL pc lv (.int x :: st) rt m := by
  intro H locs ls hP hS hl
  exact lv_istore (lv' := lv2.map (mq ρ)) hX.1 hX.2.1 hd  hl hn (by rw [← hf, mq_filter]; rfl) (fun ls hl => k H locs ls hP hS hl)
theorem J_astore_n {X : XX} {G : GG} {ρ : Nat → Nat} {n : Nat} {cc : ByteArray} {nL : Nat} {own : String} {d pc : Nat} {lv : List (Nat × Value)} {st : List Value} {rt : Rt} {m : Mm} (hX : Ok X G ρ cc nL own d) {z : Fin 4} {i : Nat} {x : Nat} (lv2 : List (Nat × Value)) (hd : decode cc pc = .ok (.astore_n z, 1)) (hi : (z : Nat) = i) (hn : i < nL) (hf : (i, Value.ref x) :: lv.filter (fun q => !(q.1 == i) && !(q.1 + 1 == i && q.2.category == 2)) = lv2) (k : J X G ρ n nL (pc + 1) lv2 (st) rt m) : J X G ρ n nL pc lv (.ref x :: st) rt m := by
  intro H locs ls hP hS hl
  exact lv_astore_n (lv' := lv2.map (mq ρ)) hX.1 hX.2.1 hd hi hl hn (by rw [← hf, mq_filter]; rfl) (fun ls hl => k H locs ls hP hS hl)
theorem J_astore {X : XX} {G : GG} {ρ : Nat → Nat} {n : Nat} {cc : ByteArray} {nL : Nat} {own : String} {d pc : Nat} {lv : List (Nat × Value)} {st : List Value} {rt : Rt} {m : Mm} (hX : Ok X G ρ cc nL own d) {i : Nat} {x : Nat} (lv2 : List (Nat × Value)) (hd : decode cc pc = .ok (.astore i, 2)) (hn : i < nL) (hf : (i, Value.ref x) :: lv.filter (fun q => !(q.1 == i) && !(q.1 + 1 == i && q.2.category == 2)) = lv2) (k : J X G ρ n nL (pc + 2) lv2 (st) rt m) : J X G ρ n nL pc lv (.ref x :: st) rt m := by
  intro H locs ls hP hS hl
  exact lv_astore (lv' := lv2.map (mq ρ)) hX.1 hX.2.1 hd  hl hn (by rw [← hf, mq_filter]; rfl) (fun ls hl => k H locs ls hP hS hl)
theorem J_lstore_n {X : XX} {G : GG} {ρ : Nat → Nat} {n : Nat} {cc : ByteArray} {nL : Nat} {own : String} {d pc : Nat} {lv : List (Nat × Value)} {st : List Value} {rt : Rt} {m : Mm} (hX : Ok X G ρ cc nL own d) {z : Fin 4} {i : Nat} {x : Int64} (lv2 : List (Nat × Value)) (hd : decode cc pc = .ok (.lstore_n z, 1)) (hi : (z : Nat) = i) (hn : i + 1 < nL) (hf : (i, Value.long x) :: lv.filter (fun q => !(q.1 == i) && (!(q.1 == i + 1) && !(q.1 + 1 == i && q.2.category == 2))) = lv2) (k : J X G ρ n nL (pc + 1) lv2 (st) rt m) : J X G ρ n nL pc lv (.long x :: st) rt m := by
  intro H locs ls hP hS hl
  exact lv_lstore_n (lv' := lv2.map (mq ρ)) hX.1 hX.2.1 hd hi hl hn (by rw [← hf, mq_filter2]; rfl) (fun ls hl => k H locs ls hP hS hl)
theorem J_lstore {X : XX} {G : GG} {ρ : Nat → Nat} {n : Nat} {cc : ByteArray} {nL : Nat} {own : String} {d pc : Nat} {lv : List (Nat × Value)} {st : List Value} {rt : Rt} {m : Mm} (hX : Ok X G ρ cc nL own d) {i : Nat} {x : Int64} (lv2 : List (Nat × Value)) (hd : decode cc pc = .ok (.lstore i, 2)) (hn : i + 1 < nL) (hf : (i, Value.long x) :: lv.filter (fun q => !(q.1 == i) && (!(q.1 == i + 1) && !(q.1 + 1 == i && q.2.category == 2))) = lv2) (k : J X G ρ n nL (pc + 2) lv2 (st) rt m) : J X G ρ n nL pc lv (.long x :: st) rt m := by
  intro H locs ls hP hS hl
  exact lv_lstore (lv' := lv2.map (mq ρ)) hX.1 hX.2.1 hd  hl hn (by rw [← hf, mq_filter2]; rfl) (fun ls hl => k H locs ls hP hS hl)
theorem J_iinc {X : XX} {G : GG} {ρ : Nat → Nat} {n : Nat} {cc : ByteArray} {nL : Nat} {own : String} {d pc : Nat} {lv : List (Nat × Value)} {st : List Value} {rt : Rt} {m : Mm} (hX : Ok X G ρ cc nL own d) {i : Nat} {z : Int} {x : Int32} (v : Int32) (lv2 : List (Nat × Value)) (hd : decode cc pc = .ok (.iinc i z, 3)) (q : Nat) (hq : lv[q]? = some (i, .int x)) (hv : x + Int32.ofInt z = v) (hn : i < nL) (hf : (i, Value.int v) :: lv.filter (fun q => !(q.1 == i) && !(q.1 + 1 == i && q.2.category == 2)) = lv2) (k : J X G ρ n nL (pc + 3) lv2 (st) rt m) : J X G ρ n nL pc lv (st) rt m := by
  intro H locs ls hP hS hl
  exact lv_iinc (v := v) (lv' := lv2.map (mq ρ)) hX.1 hX.2.1 hd hl (k := q) (mq_at hq) hv hn (by rw [← hf, List.map_cons, ← mq_filter]; rfl) (fun ls hl => k H locs ls hP hS hl)
theorem lv_pick_mq {ρ : Nat → Nat} {lv : List (Nat × Value)} (ks : List Nat) : lv_pick (lv.map (mq ρ)) ks = (lv_pick lv ks).map (mq ρ) := by
  simp only [lv_pick]
  induction ks with
  | nil => rfl
  | cons a ks ih =>
    simp only [List.filterMap_cons, List.getElem?_map] at ih ⊢
    cases lv[a]? <;> simp [ih]
theorem J_sub {X : XX} {G : GG} {ρ : Nat → Nat} {n : Nat} {nL : Nat} {pc : Nat} {lv : List (Nat × Value)} {st : List Value} {rt : Rt} {m : Mm} (lv2 : List (Nat × Value)) (ks : List Nat) (hf : lv_pick lv ks = lv2) (k : J X G ρ n nL pc lv2 (st) rt m) : J X G ρ n nL pc lv (st) rt m := by
  intro H locs ls hP hS hl
  refine k H locs ls hP hS (lv_sub hl ks ?_)
  rw [← hf, lv_pick_mq]
theorem J_dup {X : XX} {G : GG} {ρ : Nat → Nat} {n : Nat} {cc : ByteArray} {nL : Nat} {own : String} {d pc : Nat} {lv : List (Nat × Value)} {st : List Value} {rt : Rt} {m : Mm} (hX : Ok X G ρ cc nL own d) {v : Value} (hd : decode cc pc = .ok (.dup, 1)) (hc : v.category = 1) (k : J X G ρ n nL (pc + 1) lv (v :: v :: st) rt m) : J X G ρ n nL pc lv (v :: st) rt m := by
  intro H locs ls hP hS hl
  exact lv_dup hX.1 hX.2.1 hd ((mv_cat ρ v).trans hc) (k H locs ls hP hS hl)
theorem J_pop {X : XX} {G : GG} {ρ : Nat → Nat} {n : Nat} {cc : ByteArray} {nL : Nat} {own : String} {d pc : Nat} {lv : List (Nat × Value)} {st : List Value} {rt : Rt} {m : Mm} (hX : Ok X G ρ cc nL own d) {v : Value} (hd : decode cc pc = .ok (.pop, 1)) (hc : v.category = 1) (k : J X G ρ n nL (pc + 1) lv (st) rt m) : J X G ρ n nL pc lv (v :: st) rt m := by
  intro H locs ls hP hS hl
  exact lv_pop hX.1 hX.2.1 hd ((mv_cat ρ v).trans hc) (k H locs ls hP hS hl)
theorem J_dup2 {X : XX} {G : GG} {ρ : Nat → Nat} {n : Nat} {cc : ByteArray} {nL : Nat} {own : String} {d pc : Nat} {lv : List (Nat × Value)} {st : List Value} {rt : Rt} {m : Mm} (hX : Ok X G ρ cc nL own d) {v w : Value} (hd : decode cc pc = .ok (.dup2, 1)) (hc : v.category = 1) (hc2 : w.category = 1) (k : J X G ρ n nL (pc + 1) lv (v :: w :: v :: w :: st) rt m) : J X G ρ n nL pc lv (v :: w :: st) rt m := by
  intro H locs ls hP hS hl
  exact lv_dup2_11 hX.1 hX.2.1 hd ((mv_cat ρ v).trans hc) ((mv_cat ρ w).trans hc2) (k H locs ls hP hS hl)
theorem J_dup2L {X : XX} {G : GG} {ρ : Nat → Nat} {n : Nat} {cc : ByteArray} {nL : Nat} {own : String} {d pc : Nat} {lv : List (Nat × Value)} {st : List Value} {rt : Rt} {m : Mm} (hX : Ok X G ρ cc nL own d) {v : Value} (hd : decode cc pc = .ok (.dup2, 1)) (hc : v.category = 2) (k : J X G ρ n nL (pc + 1) lv (v :: v :: st) rt m) : J X G ρ n nL pc lv (v :: st) rt m := by
  intro H locs ls hP hS hl
  exact lv_dup2_2 hX.1 hX.2.1 hd ((mv_cat ρ v).trans hc) (k H locs ls hP hS hl)
theorem J_dup_x1 {X : XX} {G : GG} {ρ : Nat → Nat} {n : Nat} {cc : ByteArray} {nL : Nat} {own : String} {d pc : Nat} {lv : List (Nat × Value)} {st : List Value} {rt : Rt} {m : Mm} (hX : Ok X G ρ cc nL own d) {v w : Value} (hd : decode cc pc = .ok (.dup_x1, 1)) (hc : v.category = 1) (hc2 : w.category = 1) (k : J X G ρ n nL (pc + 1) lv (v :: w :: v :: st) rt m) : J X G ρ n nL pc lv (v :: w :: st) rt m := by
  intro H locs ls hP hS hl
  exact lv_dup_x1 hX.1 hX.2.1 hd ((mv_cat ρ v).trans hc) ((mv_cat ρ w).trans hc2) (k H locs ls hP hS hl)
theorem J_goto {X : XX} {G : GG} {ρ : Nat → Nat} {n : Nat} {cc : ByteArray} {nL : Nat} {own : String} {d pc : Nat} {lv : List (Nat × Value)} {st : List Value} {rt : Rt} {m : Mm} (hX : Ok X G ρ cc nL own d) {off : Int} (tgt : Nat) (hd : decode cc pc = .ok (.goto off, 3)) (ht : (pc : Int) + off = (tgt : Int)) (k : J X G ρ n nL tgt lv (st) rt m) : J X G ρ n nL pc lv (st) rt m := by
  intro H locs ls hP hS hl
  exact lv_goto hX.1 hX.2.1 hd ht (k H locs ls hP hS hl)
theorem J_icmp_eq {X : XX} {G : GG} {ρ : Nat → Nat} {n : Nat} {cc : ByteArray} {nL : Nat} {own : String} {d pc : Nat} {lv : List (Nat × Value)} {st : List Value} {rt : Rt} {m : Mm} {α : Type} {A B : Option α} {res : α} (hX : Ok X G ρ cc nL own d) {x y : Int32} {off : Int} (tgt : Nat) (hd : decode cc pc = .ok (.if_icmp .eq off, 3)) (ht : (pc : Int) + off = (tgt : Int)) (h : (if x = y then A else B) = some res) (kt : x = y → A = some res → J X G ρ n nL tgt lv (st) rt m) (ke : ¬ x = y → B = some res → J X G ρ n nL (pc + 3) lv (st) rt m) : J X G ρ n nL pc lv (.int y :: .int x :: st) rt m := by
  intro H locs ls hP hS hl
  exact lv_icmp_eq hX.1 hX.2.1 hd ht (fun c => (kt c (by rw [if_pos c] at h; exact h) H locs ls hP hS hl)) (fun c => (ke c (by rw [if_neg c] at h; exact h) H locs ls hP hS hl))
theorem J_if_eq {X : XX} {G : GG} {ρ : Nat → Nat} {n : Nat} {cc : ByteArray} {nL : Nat} {own : String} {d pc : Nat} {lv : List (Nat × Value)} {st : List Value} {rt : Rt} {m : Mm} {α : Type} {A B : Option α} {res : α} (hX : Ok X G ρ cc nL own d) {x : Int32} {off : Int} (tgt : Nat) (hd : decode cc pc = .ok (.ifCond .eq off, 3)) (ht : (pc : Int) + off = (tgt : Int)) (h : (if x = 0 then A else B) = some res) (kt : x = 0 → A = some res → J X G ρ n nL tgt lv (st) rt m) (ke : ¬ x = 0 → B = some res → J X G ρ n nL (pc + 3) lv (st) rt m) : J X G ρ n nL pc lv (.int x :: st) rt m := by
  intro H locs ls hP hS hl
  exact lv_if_eq hX.1 hX.2.1 hd ht (fun c => (kt c (by rw [if_pos c] at h; exact h) H locs ls hP hS hl)) (fun c => (ke c (by rw [if_neg c] at h; exact h) H locs ls hP hS hl))
theorem J_icmp_ne {X : XX} {G : GG} {ρ : Nat → Nat} {n : Nat} {cc : ByteArray} {nL : Nat} {own : String} {d pc : Nat} {lv : List (Nat × Value)} {st : List Value} {rt : Rt} {m : Mm} {α : Type} {A B : Option α} {res : α} (hX : Ok X G ρ cc nL own d) {x y : Int32} {off : Int} (tgt : Nat) (hd : decode cc pc = .ok (.if_icmp .ne off, 3)) (ht : (pc : Int) + off = (tgt : Int)) (h : (if x = y then A else B) = some res) (kt : x = y → A = some res → J X G ρ n nL (pc + 3) lv (st) rt m) (ke : ¬ x = y → B = some res → J X G ρ n nL tgt lv (st) rt m) : J X G ρ n nL pc lv (.int y :: .int x :: st) rt m := by
  intro H locs ls hP hS hl
  exact lv_icmp_ne hX.1 hX.2.1 hd ht (fun c => (ke c (by rw [if_neg c] at h; exact h) H locs ls hP hS hl)) (fun c => (kt c (by rw [if_pos c] at h; exact h) H locs ls hP hS hl))
theorem J_if_ne {X : XX} {G : GG} {ρ : Nat → Nat} {n : Nat} {cc : ByteArray} {nL : Nat} {own : String} {d pc : Nat} {lv : List (Nat × Value)} {st : List Value} {rt : Rt} {m : Mm} {α : Type} {A B : Option α} {res : α} (hX : Ok X G ρ cc nL own d) {x : Int32} {off : Int} (tgt : Nat) (hd : decode cc pc = .ok (.ifCond .ne off, 3)) (ht : (pc : Int) + off = (tgt : Int)) (h : (if x = 0 then A else B) = some res) (kt : x = 0 → A = some res → J X G ρ n nL (pc + 3) lv (st) rt m) (ke : ¬ x = 0 → B = some res → J X G ρ n nL tgt lv (st) rt m) : J X G ρ n nL pc lv (.int x :: st) rt m := by
  intro H locs ls hP hS hl
  exact lv_if_ne hX.1 hX.2.1 hd ht (fun c => (ke c (by rw [if_neg c] at h; exact h) H locs ls hP hS hl)) (fun c => (kt c (by rw [if_pos c] at h; exact h) H locs ls hP hS hl))
theorem J_icmp_lt {X : XX} {G : GG} {ρ : Nat → Nat} {n : Nat} {cc : ByteArray} {nL : Nat} {own : String} {d pc : Nat} {lv : List (Nat × Value)} {st : List Value} {rt : Rt} {m : Mm} {α : Type} {A B : Option α} {res : α} (hX : Ok X G ρ cc nL own d) {x y : Int32} {off : Int} (tgt : Nat) (hd : decode cc pc = .ok (.if_icmp .lt off, 3)) (ht : (pc : Int) + off = (tgt : Int)) (h : (if x < y then A else B) = some res) (kt : x < y → A = some res → J X G ρ n nL tgt lv (st) rt m) (ke : ¬ x < y → B = some res → J X G ρ n nL (pc + 3) lv (st) rt m) : J X G ρ n nL pc lv (.int y :: .int x :: st) rt m := by
  intro H locs ls hP hS hl
  exact lv_icmp_lt hX.1 hX.2.1 hd ht (fun c => (kt c (by rw [if_pos c] at h; exact h) H locs ls hP hS hl)) (fun c => (ke c (by rw [if_neg c] at h; exact h) H locs ls hP hS hl))
theorem J_if_lt {X : XX} {G : GG} {ρ : Nat → Nat} {n : Nat} {cc : ByteArray} {nL : Nat} {own : String} {d pc : Nat} {lv : List (Nat × Value)} {st : List Value} {rt : Rt} {m : Mm} {α : Type} {A B : Option α} {res : α} (hX : Ok X G ρ cc nL own d) {x : Int32} {off : Int} (tgt : Nat) (hd : decode cc pc = .ok (.ifCond .lt off, 3)) (ht : (pc : Int) + off = (tgt : Int)) (h : (if x < 0 then A else B) = some res) (kt : x < 0 → A = some res → J X G ρ n nL tgt lv (st) rt m) (ke : ¬ x < 0 → B = some res → J X G ρ n nL (pc + 3) lv (st) rt m) : J X G ρ n nL pc lv (.int x :: st) rt m := by
  intro H locs ls hP hS hl
  exact lv_if_lt hX.1 hX.2.1 hd ht (fun c => (kt c (by rw [if_pos c] at h; exact h) H locs ls hP hS hl)) (fun c => (ke c (by rw [if_neg c] at h; exact h) H locs ls hP hS hl))
theorem J_icmp_ge {X : XX} {G : GG} {ρ : Nat → Nat} {n : Nat} {cc : ByteArray} {nL : Nat} {own : String} {d pc : Nat} {lv : List (Nat × Value)} {st : List Value} {rt : Rt} {m : Mm} {α : Type} {A B : Option α} {res : α} (hX : Ok X G ρ cc nL own d) {x y : Int32} {off : Int} (tgt : Nat) (hd : decode cc pc = .ok (.if_icmp .ge off, 3)) (ht : (pc : Int) + off = (tgt : Int)) (h : (if x < y then A else B) = some res) (kt : x < y → A = some res → J X G ρ n nL (pc + 3) lv (st) rt m) (ke : ¬ x < y → B = some res → J X G ρ n nL tgt lv (st) rt m) : J X G ρ n nL pc lv (.int y :: .int x :: st) rt m := by
  intro H locs ls hP hS hl
  refine lv_icmp_ge hX.1 hX.2.1 hd ht (fun c0 => ?_) (fun c0 => ?_)
  · have c : ¬ x < y := Int32.not_lt.mpr c0
    exact (ke c (by rw [if_neg c] at h; exact h) H locs ls hP hS hl)
  · have c : x < y := Int32.not_le.mp c0
    exact (kt c (by rw [if_pos c] at h; exact h) H locs ls hP hS hl)
theorem J_if_ge {X : XX} {G : GG} {ρ : Nat → Nat} {n : Nat} {cc : ByteArray} {nL : Nat} {own : String} {d pc : Nat} {lv : List (Nat × Value)} {st : List Value} {rt : Rt} {m : Mm} {α : Type} {A B : Option α} {res : α} (hX : Ok X G ρ cc nL own d) {x : Int32} {off : Int} (tgt : Nat) (hd : decode cc pc = .ok (.ifCond .ge off, 3)) (ht : (pc : Int) + off = (tgt : Int)) (h : (if x < 0 then A else B) = some res) (kt : x < 0 → A = some res → J X G ρ n nL (pc + 3) lv (st) rt m) (ke : ¬ x < 0 → B = some res → J X G ρ n nL tgt lv (st) rt m) : J X G ρ n nL pc lv (.int x :: st) rt m := by
  intro H locs ls hP hS hl
  refine lv_if_ge hX.1 hX.2.1 hd ht (fun c0 => ?_) (fun c0 => ?_)
  · have c : ¬ x < 0 := Int32.not_lt.mpr c0
    exact (ke c (by rw [if_neg c] at h; exact h) H locs ls hP hS hl)
  · have c : x < 0 := Int32.not_le.mp c0
    exact (kt c (by rw [if_pos c] at h; exact h) H locs ls hP hS hl)
theorem J_icmp_gt {X : XX} {G : GG} {ρ : Nat → Nat} {n : Nat} {cc : ByteArray} {nL : Nat} {own : String} {d pc : Nat} {lv : List (Nat × Value)} {st : List Value} {rt : Rt} {m : Mm} {α : Type} {A B : Option α} {res : α} (hX : Ok X G ρ cc nL own d) {x y : Int32} {off : Int} (tgt : Nat) (hd : decode cc pc = .ok (.if_icmp .gt off, 3)) (ht : (pc : Int) + off = (tgt : Int)) (h : (if y < x then A else B) = some res) (kt : y < x → A = some res → J X G ρ n nL tgt lv (st) rt m) (ke : ¬ y < x → B = some res → J X G ρ n nL (pc + 3) lv (st) rt m) : J X G ρ n nL pc lv (.int y :: .int x :: st) rt m := by
  intro H locs ls hP hS hl
  exact lv_icmp_gt hX.1 hX.2.1 hd ht (fun c => (kt c (by rw [if_pos c] at h; exact h) H locs ls hP hS hl)) (fun c => (ke c (by rw [if_neg c] at h; exact h) H locs ls hP hS hl))
theorem J_if_gt {X : XX} {G : GG} {ρ : Nat → Nat} {n : Nat} {cc : ByteArray} {nL : Nat} {own : String} {d pc : Nat} {lv : List (Nat × Value)} {st : List Value} {rt : Rt} {m : Mm} {α : Type} {A B : Option α} {res : α} (hX : Ok X G ρ cc nL own d) {x : Int32} {off : Int} (tgt : Nat) (hd : decode cc pc = .ok (.ifCond .gt off, 3)) (ht : (pc : Int) + off = (tgt : Int)) (h : (if 0 < x then A else B) = some res) (kt : 0 < x → A = some res → J X G ρ n nL tgt lv (st) rt m) (ke : ¬ 0 < x → B = some res → J X G ρ n nL (pc + 3) lv (st) rt m) : J X G ρ n nL pc lv (.int x :: st) rt m := by
  intro H locs ls hP hS hl
  exact lv_if_gt hX.1 hX.2.1 hd ht (fun c => (kt c (by rw [if_pos c] at h; exact h) H locs ls hP hS hl)) (fun c => (ke c (by rw [if_neg c] at h; exact h) H locs ls hP hS hl))
theorem J_icmp_le {X : XX} {G : GG} {ρ : Nat → Nat} {n : Nat} {cc : ByteArray} {nL : Nat} {own : String} {d pc : Nat} {lv : List (Nat × Value)} {st : List Value} {rt : Rt} {m : Mm} {α : Type} {A B : Option α} {res : α} (hX : Ok X G ρ cc nL own d) {x y : Int32} {off : Int} (tgt : Nat) (hd : decode cc pc = .ok (.if_icmp .le off, 3)) (ht : (pc : Int) + off = (tgt : Int)) (h : (if y < x then A else B) = some res) (kt : y < x → A = some res → J X G ρ n nL (pc + 3) lv (st) rt m) (ke : ¬ y < x → B = some res → J X G ρ n nL tgt lv (st) rt m) : J X G ρ n nL pc lv (.int y :: .int x :: st) rt m := by
  intro H locs ls hP hS hl
  refine lv_icmp_le hX.1 hX.2.1 hd ht (fun c0 => ?_) (fun c0 => ?_)
  · have c : ¬ y < x := Int32.not_lt.mpr c0
    exact (ke c (by rw [if_neg c] at h; exact h) H locs ls hP hS hl)
  · have c : y < x := Int32.not_le.mp c0
    exact (kt c (by rw [if_pos c] at h; exact h) H locs ls hP hS hl)
theorem J_if_le {X : XX} {G : GG} {ρ : Nat → Nat} {n : Nat} {cc : ByteArray} {nL : Nat} {own : String} {d pc : Nat} {lv : List (Nat × Value)} {st : List Value} {rt : Rt} {m : Mm} {α : Type} {A B : Option α} {res : α} (hX : Ok X G ρ cc nL own d) {x : Int32} {off : Int} (tgt : Nat) (hd : decode cc pc = .ok (.ifCond .le off, 3)) (ht : (pc : Int) + off = (tgt : Int)) (h : (if 0 < x then A else B) = some res) (kt : 0 < x → A = some res → J X G ρ n nL (pc + 3) lv (st) rt m) (ke : ¬ 0 < x → B = some res → J X G ρ n nL tgt lv (st) rt m) : J X G ρ n nL pc lv (.int x :: st) rt m := by
  intro H locs ls hP hS hl
  refine lv_if_le hX.1 hX.2.1 hd ht (fun c0 => ?_) (fun c0 => ?_)
  · have c : ¬ 0 < x := Int32.not_lt.mpr c0
    exact (ke c (by rw [if_neg c] at h; exact h) H locs ls hP hS hl)
  · have c : 0 < x := Int32.not_le.mp c0
    exact (kt c (by rw [if_pos c] at h; exact h) H locs ls hP hS hl)
theorem J_ireturn {X : XX} {G : GG} {ρ : Nat → Nat} {n : Nat} {cc : ByteArray} {nL : Nat} {own : String} {d pc : Nat} {lv : List (Nat × Value)} {rt : Rt} {m : Mm} (hX : Ok X G ρ cc nL own d) {v r : Int32} {m2 : Mm} {ty : FieldType} (hd : decode cc pc = .ok (.ireturn, 1)) (h : some (v, m) = some (r, m2)) (hF : Fin' X G ρ n (some ty) (some (.int r)) rt m2) (hn : narrow ty (.int v) = .int v) : J X G ρ n nL pc lv ([.int v]) rt m := by
  intro H locs ls hP hS hl
  cases h
  obtain ⟨hQ, hr, hlk⟩ := hF
  rw [hQ]
  exact W.zret hX.1 hX.2.1 hr hn (fun t ht hW => ⟨⟨rfl, by rw [ht]; exact hP⟩, hS.F ht⟩) hS.2.2 hd hlk
theorem J_lreturn {X : XX} {G : GG} {ρ : Nat → Nat} {n : Nat} {cc : ByteArray} {nL : Nat} {own : String} {d pc : Nat} {lv : List (Nat × Value)} {rt : Rt} {m : Mm} (hX : Ok X G ρ cc nL own d) {v r : Int64} {m2 : Mm} (hd : decode cc pc = .ok (.lreturn, 1)) (h : some (v, m) = some (r, m2)) (hF : Fin' X G ρ n (some .long) (some (.long r)) rt m2) : J X G ρ n nL pc lv ([.long v]) rt m := by
  intro H locs ls hP hS hl
  cases h
  obtain ⟨hQ, hr, hlk⟩ := hF
  rw [hQ]
  exact W.lret hX.1 hX.2.1 hr (fun t ht hW => ⟨⟨rfl, by rw [ht]; exact hP⟩, hS.F ht⟩) hS.2.2 hd hlk
theorem J_return {X : XX} {G : GG} {ρ : Nat → Nat} {n : Nat} {cc : ByteArray} {nL : Nat} {own : String} {d pc : Nat} {lv : List (Nat × Value)} {rt : Rt} {m : Mm} (hX : Ok X G ρ cc nL own d) {m2 : Mm} (hd : decode cc pc = .ok (.return_, 1)) (h : some m = some m2) (hF : Fin' X G ρ n none none rt m2) : J X G ρ n nL pc lv ([]) rt m := by
  intro H locs ls hP hS hl
  cases h
  obtain ⟨hQ, hr, hlk⟩ := hF
  rw [hQ]
  exact W.vret hX.1 hX.2.1 hr (fun t ht hW => ⟨⟨rfl, by rw [ht]; exact hP⟩, hS.F ht⟩) hS.2.2 hd hlk
/-- a field's link of a class: pool place idx of own names field k of class number ci -/
def FL (own : String) (idx ci k : Nat) : Prop := ∃ (C : String) (T : u_T) (N : Nat), vwCl[ci]? = some (C, T, N) ∧ (∀ w ∈ u_ws C T N, w ∈ gt) ∧ k < N ∧ N = (ftab ci).length ∧ ci < 11 ∧ Cond.fieldLink own idx (T k).1 (T k).2.1 (T k).2.2.1 ∈ gt
theorem J_getF {X : XX} {G : GG} {ρ : Nat → Nat} {n : Nat} {cc : ByteArray} {nL : Nat} {own : String} {d pc : Nat} {lv : List (Nat × Value)} {st : List Value} {rt : Rt} {m : Mm} (hX : Ok X G ρ cc nL own d) {idx ci k a : Nat} {v : Value} (hd : decode cc pc = .ok (.getfield idx, 3)) (hf : FL own idx ci k) (ha : a < n) (hla : (lay a).1 = ci) (hv : fv ((ftab ci).getD k 0) ρ rt m a k = mv ρ v) (k1 : J X G ρ n nL (pc + 3) lv (v :: st) rt m) : J X G ρ n nL pc lv (.ref a :: st) rt m := by
  intro H locs ls hP hS hl
  obtain ⟨C, T, N, h1, h2, h3, h4, h5, h6⟩ := hf
  refine va_get hX.1 hX.2.1 hX.2.2.2.2.1 h2 hX.2.2.2.1 hX.2.2.2.2.2.1.1 hP.1 a (fs := flds (ftab ci) ρ rt m a) ?_ h1 k h3 (hX.2.2.2.2.1 _ h6) (fun _ h9 => h9) (v := mv ρ v) ?_ hd (k1 H locs ls hP hS hl)
  · rw [wl_get _ _ _ _ ha, cE_obj hla h5]
  · rw [flds_get (by omega), hv]
theorem J_getI {X : XX} {G : GG} {ρ : Nat → Nat} {n : Nat} {cc : ByteArray} {nL : Nat} {own : String} {d pc : Nat} {lv : List (Nat × Value)} {st : List Value} {rt : Rt} {m : Mm} (hX : Ok X G ρ cc nL own d) {idx ci k a : Nat} (hd : decode cc pc = .ok (.getfield idx, 3)) (hf : FL own idx ci k) (ha : a < n) (hla : (lay a).1 = ci) (ht : (ftab ci).getD k 0 = 0) (k1 : J X G ρ n nL (pc + 3) lv (.int (gI m a k) :: st) rt m) : J X G ρ n nL pc lv (.ref a :: st) rt m := J_getF (v := .int (gI m a k)) hX hd hf ha hla (by rw [ht]; rfl) k1
theorem J_getL {X : XX} {G : GG} {ρ : Nat → Nat} {n : Nat} {cc : ByteArray} {nL : Nat} {own : String} {d pc : Nat} {lv : List (Nat × Value)} {st : List Value} {rt : Rt} {m : Mm} (hX : Ok X G ρ cc nL own d) {idx ci k a : Nat} (hd : decode cc pc = .ok (.getfield idx, 3)) (hf : FL own idx ci k) (ha : a < n) (hla : (lay a).1 = ci) (ht : (ftab ci).getD k 0 = 1) (k1 : J X G ρ n nL (pc + 3) lv (.long (gL m a k) :: st) rt m) : J X G ρ n nL pc lv (.ref a :: st) rt m := J_getF (v := .long (gL m a k)) hX hd hf ha hla (by rw [ht]; rfl) k1
theorem J_getR {X : XX} {G : GG} {ρ : Nat → Nat} {n : Nat} {cc : ByteArray} {nL : Nat} {own : String} {d pc : Nat} {lv : List (Nat × Value)} {st : List Value} {rt : Rt} {m : Mm} (hX : Ok X G ρ cc nL own d) {idx ci k a b : Nat} (hd : decode cc pc = .ok (.getfield idx, 3)) (hf : FL own idx ci k) (ha : a < n) (hla : (lay a).1 = ci) (ht : (ftab ci).getD k 0 = 2) (hr : rt a k = some b) (k1 : J X G ρ n nL (pc + 3) lv (.ref b :: st) rt m) : J X G ρ n nL pc lv (.ref a :: st) rt m := J_getF (v := .ref b) hX hd hf ha hla (by rw [ht]; simp [fv, hr, va_rf, mv]) k1
/-- a field that may be written -/
def PL (own : String) (idx ci k : Nat) (ty : FieldType) : Prop := ∃ (C : String) (T : u_T) (N : Nat), vwCl[ci]? = some (C, T, N) ∧ (∀ w ∈ u_ws C T N, w ∈ gt) ∧ k < N ∧ N = (ftab ci).length ∧ ci < 11 ∧ Cond.fieldLink own idx (T k).1 (T k).2.1 (T k).2.2.1 ∈ gt ∧ (∃ ty0 : Nat → FieldType, ∀ k, k < N → parseFieldDescriptor (T k).2.2.1 = some (ty0 k)) ∧ (∀ a, a < N → ∀ b, b < N → a ≠ b → (T a).2.1 ≠ (T b).2.1) ∧ (T k).2.2.2 = false ∧ parseFieldDescriptor (T k).2.2.1 = some ty
theorem J_putF {X : XX} {G : GG} {ρ : Nat → Nat} {n : Nat} {cc : ByteArray} {nL : Nat} {own : String} {d pc : Nat} {lv : List (Nat × Value)} {st : List Value} {rt : Rt} {m : Mm} (hX : Ok X G ρ cc nL own d) {idx ci k a : Nat} {v : Value} {ty : FieldType} {rt2 : Rt} {m2 : Mm} (hd : decode cc pc = .ok (.putfield idx, 3)) (hf : PL own idx ci k ty) (ha : a < n) (hla : (lay a).1 = ci) (hn : narrow ty (mv ρ v) = mv ρ v) (hfit : fits ty (mv ρ v) = true)
    (h1 : fv ((ftab ci).getD k 0) ρ rt2 m2 a k = mv ρ v) (h2 : ∀ j, j ≠ k → ∀ t, fv t ρ rt2 m2 a j = fv t ρ rt m a j) (h3 : ∀ b, b ≠ a → cE G ρ rt2 m2 b = cE G ρ rt m b) (k1 : J X G ρ n nL (pc + 3) lv (st) rt2 m2) : J X G ρ n nL pc lv (v :: .ref a :: st) rt m := by
  intro H locs ls hP hS hl
  obtain ⟨C, T, N, e1, e2, e3, e4, e5, e6, ⟨ty0, e7⟩, e8, e9, e10⟩ := hf
  have hg : (wl G ρ rt m n)[a]? = some (ρ a, .inr (ci, flds (ftab ci) ρ rt m a)) := by rw [wl_get _ _ _ _ ha, cE_obj hla e5]
  refine va_put hX.1 hX.2.1 hX.2.2.2.2.1 e2 ty0 e7 e8 hX.2.2.2.1 hX.2.2.2.2.2.1.1 hP.1 hP.2 hS a hg e1 k e3 (hX.2.2.2.2.1 _ e6) (fun _ h9 => h9) e9 e10 hn hfit (by rw [flds_len, ← e4]; exact e3) hd (fun H1 locs1 p1 d1 s1 => ?_)
  have hset : (wl G ρ rt m n).set a (ρ a, .inr (ci, (flds (ftab ci) ρ rt m a).set k (mv ρ v))) = wl G ρ rt2 m2 n := wl_set (by rw [cE_obj hla e5, flds_set h1 (fun j hj => h2 j hj _)]) h3
  rw [hset] at p1 d1
  exact k1 H1 locs1 ls ⟨p1, d1⟩ s1 hl
theorem J_putI {X : XX} {G : GG} {ρ : Nat → Nat} {n : Nat} {cc : ByteArray} {nL : Nat} {own : String} {d pc : Nat} {lv : List (Nat × Value)} {st : List Value} {rt : Rt} {m : Mm} {α : Type} {K : Mm → Option α} {res : α} (hX : Ok X G ρ cc nL own d) {idx ci k a : Nat} {x : Int32} {ty : FieldType} (hd : decode cc pc = .ok (.putfield idx, 3)) (hf : PL own idx ci k ty) (ha : a < n) (hla : (lay a).1 = ci) (ht : (ftab ci).getD k 0 = 0) (hn : narrow ty (.int x) = .int x) (hfit : fits ty (.int x) = true) (h : stI m a k x K = some res)
    (k1 : ∀ m2, K m2 = some res → J X G ρ n nL (pc + 3) lv (st) rt m2) : J X G ρ n nL pc lv (.int x :: .ref a :: st) rt m :=
  J_putF (v := .int x) (m2 := sI m a k x) hX hd hf ha hla hn hfit (by rw [ht]; simp [fv, sI, mv]) (fun j hj t => by simp [fv, sI, hj]) (fun b hb => cE_sI_ne hb) (k1 _ h)
theorem J_putL {X : XX} {G : GG} {ρ : Nat → Nat} {n : Nat} {cc : ByteArray} {nL : Nat} {own : String} {d pc : Nat} {lv : List (Nat × Value)} {st : List Value} {rt : Rt} {m : Mm} {α : Type} {K : Mm → Option α} {res : α} (hX : Ok X G ρ cc nL own d) {idx ci k a : Nat} {x : Int64} (hd : decode cc pc = .ok (.putfield idx, 3)) (hf : PL own idx ci k .long) (ha : a < n) (hla : (lay a).1 = ci) (ht : (ftab ci).getD k 0 = 1) (h : stL m a k x K = some res)
    (k1 : ∀ m2, K m2 = some res → J X G ρ n nL (pc + 3) lv (st) rt m2) : J X G ρ n nL pc lv (.long x :: .ref a :: st) rt m :=
  J_putF (v := .long x) (m2 := sL m a k x) hX hd hf ha hla rfl rfl (by rw [ht]; simp [fv, sL, mv]) (fun j hj t => by simp [fv, sL, hj]) (fun b hb => cE_sL_ne hb) (k1 _ h)
theorem J_iaload0 {X : XX} {G : GG} {ρ : Nat → Nat} {n : Nat} {cc : ByteArray} {nL : Nat} {own : String} {d pc : Nat} {lv : List (Nat × Value)} {st : List Value} {rt : Rt} {m : Mm} (hX : Ok X G ρ cc nL own d) {a len : Nat} {i : Int32} (hd : decode cc pc = .ok (.iaload, 1)) (ha : a < n) (hla : lay a = (12, len)) (hi : inb i len = true) (k : J X G ρ n nL (pc + 1) lv (.int (gI m a (ix i)) :: st) rt m) : J X G ρ n nL pc lv (.int i :: .ref a :: st) rt m := by
  intro H locs ls hP hS hl
  exact va_iald hX.1 hX.2.1 hX.2.2.2.2.2.1.1 hP.1 a 1 (by rw [wl_get _ _ _ _ ha, cE_int hla (by decide) (by decide)] <;> rfl) rfl (inb_in hi) hd (k H locs ls hP hS hl)
theorem J_iaload {X : XX} {G : GG} {ρ : Nat → Nat} {n : Nat} {cc : ByteArray} {nL : Nat} {own : String} {d pc : Nat} {lv : List (Nat × Value)} {st : List Value} {rt : Rt} {m : Mm} {α : Type} {A : Option α} {res : α} (hX : Ok X G ρ cc nL own d) {a len : Nat} {i : Int32} (hd : decode cc pc = .ok (.iaload, 1)) (ha : a < n) (hla : lay a = (12, len)) (h : gd (inb i len) A = some res) (k : A = some res → J X G ρ n nL (pc + 1) lv (.int (gI m a (ix i)) :: st) rt m) : J X G ρ n nL pc lv (.int i :: .ref a :: st) rt m := J_iaload0 hX hd ha hla (gd_some h).1 (k (gd_some h).2)
theorem J_caload0 {X : XX} {G : GG} {ρ : Nat → Nat} {n : Nat} {cc : ByteArray} {nL : Nat} {own : String} {d pc : Nat} {lv : List (Nat × Value)} {st : List Value} {rt : Rt} {m : Mm} (hX : Ok X G ρ cc nL own d) {a len : Nat} {i : Int32} (hd : decode cc pc = .ok (.caload, 1)) (ha : a < n) (hla : lay a = (11, len)) (hi : inb i len = true) (k : J X G ρ n nL (pc + 1) lv (.int (gI m a (ix i)) :: st) rt m) : J X G ρ n nL pc lv (.int i :: .ref a :: st) rt m := by
  intro H locs ls hP hS hl
  exact va_cald hX.1 hX.2.1 hX.2.2.2.2.2.1.1 hP.1 a 0 (by rw [wl_get _ _ _ _ ha, cE_int hla (by decide) (by decide)] <;> rfl) rfl (inb_in hi) hd (k H locs ls hP hS hl)
theorem J_caload {X : XX} {G : GG} {ρ : Nat → Nat} {n : Nat} {cc : ByteArray} {nL : Nat} {own : String} {d pc : Nat} {lv : List (Nat × Value)} {st : List Value} {rt : Rt} {m : Mm} {α : Type} {A : Option α} {res : α} (hX : Ok X G ρ cc nL own d) {a len : Nat} {i : Int32} (hd : decode cc pc = .ok (.caload, 1)) (ha : a < n) (hla : lay a = (11, len)) (h : gd (inb i len) A = some res) (k : A = some res → J X G ρ n nL (pc + 1) lv (.int (gI m a (ix i)) :: st) rt m) : J X G ρ n nL pc lv (.int i :: .ref a :: st) rt m := J_caload0 hX hd ha hla (gd_some h).1 (k (gd_some h).2)
theorem J_baload0 {X : XX} {G : GG} {ρ : Nat → Nat} {n : Nat} {cc : ByteArray} {nL : Nat} {own : String} {d pc : Nat} {lv : List (Nat × Value)} {st : List Value} {rt : Rt} {m : Mm} (hX : Ok X G ρ cc nL own d) {a len : Nat} {i : Int32} (hd : decode cc pc = .ok (.baload, 1)) (ha : a < n) (hla : lay a = (13, len)) (hi : inb i len = true) (k : J X G ρ n nL (pc + 1) lv (.int (gI m a (ix i)) :: st) rt m) : J X G ρ n nL pc lv (.int i :: .ref a :: st) rt m := by
  intro H locs ls hP hS hl
  exact va_zald hX.1 hX.2.1 hX.2.2.2.2.2.1.1 hP.1 a 2 (by rw [wl_get _ _ _ _ ha, cE_int hla (by decide) (by decide)] <;> rfl) rfl (inb_in hi) hd (k H locs ls hP hS hl)
theorem J_baload {X : XX} {G : GG} {ρ : Nat → Nat} {n : Nat} {cc : ByteArray} {nL : Nat} {own : String} {d pc : Nat} {lv : List (Nat × Value)} {st : List Value} {rt : Rt} {m : Mm} {α : Type} {A : Option α} {res : α} (hX : Ok X G ρ cc nL own d) {a len : Nat} {i : Int32} (hd : decode cc pc = .ok (.baload, 1)) (ha : a < n) (hla : lay a = (13, len)) (h : gd (inb i len) A = some res) (k : A = some res → J X G ρ n nL (pc + 1) lv (.int (gI m a (ix i)) :: st) rt m) : J X G ρ n nL pc lv (.int i :: .ref a :: st) rt m := J_baload0 hX hd ha hla (gd_some h).1 (k (gd_some h).2)
theorem J_laload0 {X : XX} {G : GG} {ρ : Nat → Nat} {n : Nat} {cc : ByteArray} {nL : Nat} {own : String} {d pc : Nat} {lv : List (Nat × Value)} {st : List Value} {rt : Rt} {m : Mm} (hX : Ok X G ρ cc nL own d) {a len : Nat} {i : Int32} (hd : decode cc pc = .ok (.laload, 1)) (ha : a < n) (hla : lay a = (15, len)) (hi : inb i len = true) (k : J X G ρ n nL (pc + 1) lv (.long (gL m a (ix i)) :: st) rt m) : J X G ρ n nL pc lv (.int i :: .ref a :: st) rt m := by
  intro H locs ls hP hS hl
  exact va_lald hX.1 hX.2.1 hX.2.2.2.2.2.1.1 hP.1 a 4 (by rw [wl_get _ _ _ _ ha, cE_long hla] <;> rfl) rfl (inb_in hi) hd (k H locs ls hP hS hl)
theorem J_aaload0 {X : XX} {G : GG} {ρ : Nat → Nat} {n : Nat} {cc : ByteArray} {nL : Nat} {own : String} {d pc : Nat} {lv : List (Nat × Value)} {st : List Value} {rt : Rt} {m : Mm} (hX : Ok X G ρ cc nL own d) {a len b : Nat} {i : Int32} (hd : decode cc pc = .ok (.aaload, 1)) (ha : a < n) (hla : lay a = (14, len)) (hi : inb i len = true) (hr : rt a (ix i) = some b) (k : J X G ρ n nL (pc + 1) lv (.ref b :: st) rt m) : J X G ρ n nL pc lv (.int i :: .ref a :: st) rt m := by
  intro H locs ls hP hS hl
  refine va_aldq hX.1 hX.2.1 hX.2.2.2.2.2.1.1 hP.1 a 3 (by rw [wl_get _ _ _ _ ha, cE_ref hla] <;> rfl) rfl (inb_in hi) hd ?_
  have e : (rt a i.toNatClampNeg).map ρ = some (ρ b) := by rw [show rt a i.toNatClampNeg = some b from hr]; rfl
  rw [e]
  exact k H locs ls hP hS hl
theorem J_iastore0 {X : XX} {G : GG} {ρ : Nat → Nat} {n : Nat} {cc : ByteArray} {nL : Nat} {own : String} {d pc : Nat} {lv : List (Nat × Value)} {st : List Value} {rt : Rt} {m : Mm} {α : Type} {K : Mm → Option α} {res : α} (hX : Ok X G ρ cc nL own d) {a len : Nat} {i x : Int32} (hd : decode cc pc = .ok (.iastore, 1)) (ha : a < n) (hla : lay a = (12, len)) (hi : inb i len = true) (h : stI m a (ix i) x K = some res) (k : ∀ m2, K m2 = some res → J X G ρ n nL (pc + 1) lv (st) rt m2) : J X G ρ n nL pc lv (.int x :: .int i :: .ref a :: st) rt m := by
  intro H locs ls hP hS hl
  refine va_iast hX.1 hX.2.1 hX.2.2.2.2.2.1.1 hP.1 hP.2 hS a 1 (by rw [wl_get _ _ _ _ ha, cE_int hla (by decide) (by decide)] <;> rfl) rfl (inb_in hi) hd (fun H1 locs1 p1 d1 s1 => ?_)
  have hset : (wl G ρ rt m n).set a (ρ a, .inl (G.2.1 1, len, .inl (upd (m.1 a) i.toNatClampNeg x))) = wl G ρ rt (sI m a (ix i) x) n := wl_set (by rw [cE_int hla (by decide) (by decide), sI_row]; rfl) (fun b hb => cE_sI_ne hb)
  rw [hset] at p1 d1
  exact k _ h H1 locs1 ls ⟨p1, d1⟩ s1 hl
theorem J_iastore {X : XX} {G : GG} {ρ : Nat → Nat} {n : Nat} {cc : ByteArray} {nL : Nat} {own : String} {d pc : Nat} {lv : List (Nat × Value)} {st : List Value} {rt : Rt} {m : Mm} {α : Type} {K : Mm → Option α} {res : α} (hX : Ok X G ρ cc nL own d) {a len : Nat} {i x : Int32} (hd : decode cc pc = .ok (.iastore, 1)) (ha : a < n) (hla : lay a = (12, len)) (h : gd (inb i len) (stI m a (ix i) x K) = some res) (k : ∀ m2, K m2 = some res → J X G ρ n nL (pc + 1) lv (st) rt m2) : J X G ρ n nL pc lv (.int x :: .int i :: .ref a :: st) rt m := J_iastore0 hX hd ha hla (gd_some h).1 (gd_some h).2 k
theorem J_bastore0 {X : XX} {G : GG} {ρ : Nat → Nat} {n : Nat} {cc : ByteArray} {nL : Nat} {own : String} {d pc : Nat} {lv : List (Nat × Value)} {st : List Value} {rt : Rt} {m : Mm} {α : Type} {K : Mm → Option α} {res : α} (hX : Ok X G ρ cc nL own d) {a len : Nat} {i x : Int32} (hd : decode cc pc = .ok (.bastore, 1)) (ha : a < n) (hla : lay a = (13, len)) (hi : inb i len = true) (hx1 : vp_nar .boolean x = x) (h : stI m a (ix i) x K = some res) (k : ∀ m2, K m2 = some res → J X G ρ n nL (pc + 1) lv (st) rt m2) : J X G ρ n nL pc lv (.int x :: .int i :: .ref a :: st) rt m := by
  intro H locs ls hP hS hl
  refine va_zast hX.1 hX.2.1 hX.2.2.2.2.2.1.1 hP.1 hP.2 hS a 2 (by rw [wl_get _ _ _ _ ha, cE_int hla (by decide) (by decide)] <;> rfl) rfl (inb_in hi) hd (fun H1 locs1 p1 d1 s1 => ?_)
  rw [hx1] at p1 d1
  have hset : (wl G ρ rt m n).set a (ρ a, .inl (G.2.1 2, len, .inl (upd (m.1 a) i.toNatClampNeg x))) = wl G ρ rt (sI m a (ix i) x) n := wl_set (by rw [cE_int hla (by decide) (by decide), sI_row]; rfl) (fun b hb => cE_sI_ne hb)
  rw [hset] at p1 d1
  exact k _ h H1 locs1 ls ⟨p1, d1⟩ s1 hl
theorem J_bastore {X : XX} {G : GG} {ρ : Nat → Nat} {n : Nat} {cc : ByteArray} {nL : Nat} {own : String} {d pc : Nat} {lv : List (Nat × Value)} {st : List Value} {rt : Rt} {m : Mm} {α : Type} {K : Mm → Option α} {res : α} (hX : Ok X G ρ cc nL own d) {a len : Nat} {i x : Int32} (hd : decode cc pc = .ok (.bastore, 1)) (ha : a < n) (hla : lay a = (13, len)) (hx1 : vp_nar .boolean x = x) (h : gd (inb i len) (stI m a (ix i) x K) = some res) (k : ∀ m2, K m2 = some res → J X G ρ n nL (pc + 1) lv (st) rt m2) : J X G ρ n nL pc lv (.int x :: .int i :: .ref a :: st) rt m := J_bastore0 hX hd ha hla (gd_some h).1 hx1 (gd_some h).2 k
theorem J_castore0 {X : XX} {G : GG} {ρ : Nat → Nat} {n : Nat} {cc : ByteArray} {nL : Nat} {own : String} {d pc : Nat} {lv : List (Nat × Value)} {st : List Value} {rt : Rt} {m : Mm} {α : Type} {K : Mm → Option α} {res : α} (hX : Ok X G ρ cc nL own d) {a len : Nat} {i x : Int32} (hd : decode cc pc = .ok (.castore, 1)) (ha : a < n) (hla : lay a = (11, len)) (hi : inb i len = true) (hx1 : vp_nar .char x = x) (h : stI m a (ix i) x K = some res) (k : ∀ m2, K m2 = some res → J X G ρ n nL (pc + 1) lv (st) rt m2) : J X G ρ n nL pc lv (.int x :: .int i :: .ref a :: st) rt m := by
  intro H locs ls hP hS hl
  refine va_cast hX.1 hX.2.1 hX.2.2.2.2.2.1.1 hP.1 hP.2 hS a 0 (by rw [wl_get _ _ _ _ ha, cE_int hla (by decide) (by decide)] <;> rfl) rfl (inb_in hi) hd (fun H1 locs1 p1 d1 s1 => ?_)
  rw [hx1] at p1 d1
  have hset : (wl G ρ rt m n).set a (ρ a, .inl (G.2.1 0, len, .inl (upd (m.1 a) i.toNatClampNeg x))) = wl G ρ rt (sI m a (ix i) x) n := wl_set (by rw [cE_int hla (by decide) (by decide), sI_row]; rfl) (fun b hb => cE_sI_ne hb)
  rw [hset] at p1 d1
  exact k _ h H1 locs1 ls ⟨p1, d1⟩ s1 hl
theorem J_castore {X : XX} {G : GG} {ρ : Nat → Nat} {n : Nat} {cc : ByteArray} {nL : Nat} {own : String} {d pc : Nat} {lv : List (Nat × Value)} {st : List Value} {rt : Rt} {m : Mm} {α : Type} {K : Mm → Option α} {res : α} (hX : Ok X G ρ cc nL own d) {a len : Nat} {i x : Int32} (hd : decode cc pc = .ok (.castore, 1)) (ha : a < n) (hla : lay a = (11, len)) (hx1 : vp_nar .char x = x) (h : gd (inb i len) (stI m a (ix i) x K) = some res) (k : ∀ m2, K m2 = some res → J X G ρ n nL (pc + 1) lv (st) rt m2) : J X G ρ n nL pc lv (.int x :: .int i :: .ref a :: st) rt m := J_castore0 hX hd ha hla (gd_some h).1 hx1 (gd_some h).2 k
theorem J_alen {X : XX} {G : GG} {ρ : Nat → Nat} {n : Nat} {cc : ByteArray} {nL : Nat} {own : String} {d pc : Nat} {lv : List (Nat × Value)} {st : List Value} {rt : Rt} {m : Mm} (hX : Ok X G ρ cc nL own d) {a t len : Nat} (v : Int32) (hd : decode cc pc = .ok (.arraylength, 1)) (ha : a < n) (hla : lay a = (t, len)) (ht : t = 12 ∨ t = 11 ∨ t = 13) (hv : Int32.ofNat len = v) (k : J X G ρ n nL (pc + 1) lv (.int v :: st) rt m) : J X G ρ n nL pc lv (.ref a :: st) rt m := by
  intro H locs ls hP hS hl
  rcases ht with rfl | rfl | rfl
  · exact va_alen hX.1 hX.2.1 hX.2.2.2.2.2.1.1 hP.1 a 1 (by rw [wl_get _ _ _ _ ha, cE_int hla (by decide) (by decide)] <;> rfl) rfl hv hd (k H locs ls hP hS hl)
  · exact va_alen hX.1 hX.2.1 hX.2.2.2.2.2.1.1 hP.1 a 0 (by rw [wl_get _ _ _ _ ha, cE_int hla (by decide) (by decide)] <;> rfl) rfl hv hd (k H locs ls hP hS hl)
  · exact va_alen hX.1 hX.2.1 hX.2.2.2.2.2.1.1 hP.1 a 2 (by rw [wl_get _ _ _ _ ha, cE_int hla (by decide) (by decide)] <;> rfl) rfl hv hd (k H locs ls hP hS hl)
