/-! ROWS: one an instruction -/
def irem (x y : Int32) : Int32 := x - x / y * y
def lrem (x y : Int64) : Int64 := x - x / y * y
def i2b (x : Int32) : Int32 := x.toInt8.toInt32
def i2c (x : Int32) : Int32 := (x.toUInt32 % 65536).toInt32
def lushr (x : Int64) (y : Int32) : Int64 := (x.toUInt64 >>> (y.toInt64.toUInt64 &&& Int64.toUInt64 63)).toInt64
def lshl (x : Int64) (y : Int32) : Int64 := x <<< (y.toInt64 &&& 63)
def lshr (x : Int64) (y : Int32) : Int64 := x >>> (y.toInt64 &&& 63)
theorem cat_rf (r : Option Nat) : (va_rf r).category = 1 := by cases r <;> rfl
theorem rf_or (r : Option Nat) : va_rf r = .null ∨ ∃ a, va_rf r = .ref a := by
  cases r with
  | none => exact Or.inl rfl
  | some a => exact Or.inr ⟨a, rfl⟩
theorem si_iconst {ρ : Type} {E : EV} {M : MI} {out : FIN ρ} {cells slots pc : Nat} {lo : LL} {st : List Value} {h : HS} {k : Option ρ} {n : Int} {v : Int32} (hd : decode M.1 pc = .ok (.iconst n, 1)) (hv : Int32.ofInt n = v) (kk : Sim E M out cells slots (pc + 1) lo (.int v :: st) h k) : Sim E M out cells slots pc lo (st) h k := by
  obtain ⟨p, l, e, R, s, m, args, below, meth, c, G, h0⟩ := E
  intro hE res hk ls H locs hl hH hS
  exact lv_iconst hE.1 hE.2.1 hd hv (kk hE res hk ls H locs hl hH hS)
theorem si_bipush {ρ : Type} {E : EV} {M : MI} {out : FIN ρ} {cells slots pc : Nat} {lo : LL} {st : List Value} {h : HS} {k : Option ρ} {n : Int} {v : Int32} (hd : decode M.1 pc = .ok (.bipush n, 2)) (hv : (Int8.ofInt n).toInt32 = v) (kk : Sim E M out cells slots (pc + 2) lo (.int v :: st) h k) : Sim E M out cells slots pc lo (st) h k := by
  obtain ⟨p, l, e, R, s, m, args, below, meth, c, G, h0⟩ := E
  intro hE res hk ls H locs hl hH hS
  exact lv_bipush hE.1 hE.2.1 hd hv (kk hE res hk ls H locs hl hH hS)
theorem si_sipush {ρ : Type} {E : EV} {M : MI} {out : FIN ρ} {cells slots pc : Nat} {lo : LL} {st : List Value} {h : HS} {k : Option ρ} {n : Int} {v : Int32} (hd : decode M.1 pc = .ok (.sipush n, 3)) (hv : (Int16.ofInt n).toInt32 = v) (kk : Sim E M out cells slots (pc + 3) lo (.int v :: st) h k) : Sim E M out cells slots pc lo (st) h k := by
  obtain ⟨p, l, e, R, s, m, args, below, meth, c, G, h0⟩ := E
  intro hE res hk ls H locs hl hH hS
  exact lv_sipush hE.1 hE.2.1 hd hv (kk hE res hk ls H locs hl hH hS)
theorem si_lconst {ρ : Type} {E : EV} {M : MI} {out : FIN ρ} {cells slots pc : Nat} {lo : LL} {st : List Value} {h : HS} {k : Option ρ} {n : Fin 2} {v : Int64} (hd : decode M.1 pc = .ok (.lconst n, 1)) (hv : Int64.ofNat (n : Nat) = v) (kk : Sim E M out cells slots (pc + 1) lo (.long v :: st) h k) : Sim E M out cells slots pc lo (st) h k := by
  obtain ⟨p, l, e, R, s, m, args, below, meth, c, G, h0⟩ := E
  intro hE res hk ls H locs hl hH hS
  exact lv_lconst hE.1 hE.2.1 hd hv (kk hE res hk ls H locs hl hH hS)
theorem si_null {ρ : Type} {E : EV} {M : MI} {out : FIN ρ} {cells slots pc : Nat} {lo : LL} {st : List Value} {h : HS} {k : Option ρ}  (hd : decode M.1 pc = .ok (.aconst_null, 1)) (kk : Sim E M out cells slots (pc + 1) lo (va_rf none :: st) h k) : Sim E M out cells slots pc lo (st) h k := by
  obtain ⟨p, l, e, R, s, m, args, below, meth, c, G, h0⟩ := E
  intro hE res hk ls H locs hl hH hS
  exact lv_null hE.1 hE.2.1 hd (kk hE res hk ls H locs hl hH hS)
theorem si_iload_n {ρ : Type} {E : EV} {M : MI} {out : FIN ρ} {cells slots pc : Nat} {lo : LL} {st : List Value} {h : HS} {k : Option ρ} (i : Nat) {j : Fin 4} {x : Int32} (hd : decode M.1 pc = .ok (.iload_n j, 1)) (hj : (j : Nat) = i) (hi : lkL lo i = some (lvI x)) (kk : Sim E M out cells slots (pc + 1) lo (.int x :: st) h k) : Sim E M out cells slots pc lo (st) h k := by
  obtain ⟨p, l, e, R, s, m, args, below, meth, c, G, h0⟩ := E
  intro hE res hk ls H locs hl hH hS
  exact lv_iload_n hE.1 hE.2.1 hd hj (lk_at hl hi) (kk hE res hk ls H locs hl hH hS)
theorem si_iload {ρ : Type} {E : EV} {M : MI} {out : FIN ρ} {cells slots pc : Nat} {lo : LL} {st : List Value} {h : HS} {k : Option ρ} (i : Nat) {x : Int32} (hd : decode M.1 pc = .ok (.iload i, 2)) (hi : lkL lo i = some (lvI x)) (kk : Sim E M out cells slots (pc + 2) lo (.int x :: st) h k) : Sim E M out cells slots pc lo (st) h k := by
  obtain ⟨p, l, e, R, s, m, args, below, meth, c, G, h0⟩ := E
  intro hE res hk ls H locs hl hH hS
  exact lv_iload hE.1 hE.2.1 hd (lk_at hl hi) (kk hE res hk ls H locs hl hH hS)
theorem si_lload_n {ρ : Type} {E : EV} {M : MI} {out : FIN ρ} {cells slots pc : Nat} {lo : LL} {st : List Value} {h : HS} {k : Option ρ} (i : Nat) {j : Fin 4} {x : Int64} (hd : decode M.1 pc = .ok (.lload_n j, 1)) (hj : (j : Nat) = i) (hi : lkL lo i = some (lvJ x)) (kk : Sim E M out cells slots (pc + 1) lo (.long x :: st) h k) : Sim E M out cells slots pc lo (st) h k := by
  obtain ⟨p, l, e, R, s, m, args, below, meth, c, G, h0⟩ := E
  intro hE res hk ls H locs hl hH hS
  exact lv_lload_n hE.1 hE.2.1 hd hj (lk_at hl hi) (kk hE res hk ls H locs hl hH hS)
theorem si_lload {ρ : Type} {E : EV} {M : MI} {out : FIN ρ} {cells slots pc : Nat} {lo : LL} {st : List Value} {h : HS} {k : Option ρ} (i : Nat) {x : Int64} (hd : decode M.1 pc = .ok (.lload i, 2)) (hi : lkL lo i = some (lvJ x)) (kk : Sim E M out cells slots (pc + 2) lo (.long x :: st) h k) : Sim E M out cells slots pc lo (st) h k := by
  obtain ⟨p, l, e, R, s, m, args, below, meth, c, G, h0⟩ := E
  intro hE res hk ls H locs hl hH hS
  exact lv_lload hE.1 hE.2.1 hd (lk_at hl hi) (kk hE res hk ls H locs hl hH hS)
theorem si_aload_n {ρ : Type} {E : EV} {M : MI} {out : FIN ρ} {cells slots pc : Nat} {lo : LL} {st : List Value} {h : HS} {k : Option ρ} (i : Nat) {j : Fin 4} {x : Option Nat} (hd : decode M.1 pc = .ok (.aload_n j, 1)) (hj : (j : Nat) = i) (hi : lkL lo i = some (lvR x)) (kk : Sim E M out cells slots (pc + 1) lo (va_rf x :: st) h k) : Sim E M out cells slots pc lo st h k := by
  obtain ⟨p, l, e, R, s, m, args, below, meth, c, G, h0⟩ := E
  intro hE res hk ls H locs hl hH hS
  have h1 := lk_at hl hi
  have h2 := kk hE res hk ls H locs hl hH hS
  cases x with
  | none => exact lv_aload_nN hE.1 hE.2.1 hd hj h1 h2
  | some x => exact lv_aload_n hE.1 hE.2.1 hd hj h1 h2
theorem si_aload {ρ : Type} {E : EV} {M : MI} {out : FIN ρ} {cells slots pc : Nat} {lo : LL} {st : List Value} {h : HS} {k : Option ρ} (i : Nat) {x : Option Nat} (hd : decode M.1 pc = .ok (.aload i, 2)) (hi : lkL lo i = some (lvR x)) (kk : Sim E M out cells slots (pc + 2) lo (va_rf x :: st) h k) : Sim E M out cells slots pc lo st h k := by
  obtain ⟨p, l, e, R, s, m, args, below, meth, c, G, h0⟩ := E
  intro hE res hk ls H locs hl hH hS
  have h1 := lk_at hl hi
  have h2 := kk hE res hk ls H locs hl hH hS
  cases x with
  | none => exact lv_aloadN hE.1 hE.2.1 hd h1 h2
  | some x => exact lv_aload hE.1 hE.2.1 hd h1 h2
theorem si_istore_n {ρ : Type} {E : EV} {M : MI} {out : FIN ρ} {cells slots pc : Nat} {lo : LL} {st : List Value} {h : HS} {k : Option ρ} (i : Nat) {j : Fin 4} {x : Int32} (hd : decode M.1 pc = .ok (.istore_n j, 1)) (hj : (j : Nat) = i) (hn : i < M.2.1) (kk : Sim E M out cells slots (pc + 1) (stL lo i (lvI x)) st h k) : Sim E M out cells slots pc lo (.int x :: st) h k := by
  obtain ⟨p, l, e, R, s, m, args, below, meth, c, G, h0⟩ := E
  intro hE res hk ls H locs hl hH hS
  exact lv_istore_n hE.1 hE.2.1 hd hj hl hn (stL_eq lo i (lvI x)) (fun ls' hl' => kk hE res hk ls' H locs hl' hH hS)
theorem si_istore {ρ : Type} {E : EV} {M : MI} {out : FIN ρ} {cells slots pc : Nat} {lo : LL} {st : List Value} {h : HS} {k : Option ρ} (i : Nat) {x : Int32} (hd : decode M.1 pc = .ok (.istore i, 2)) (hn : i < M.2.1) (kk : Sim E M out cells slots (pc + 2) (stL lo i (lvI x)) st h k) : Sim E M out cells slots pc lo (.int x :: st) h k := by
  obtain ⟨p, l, e, R, s, m, args, below, meth, c, G, h0⟩ := E
  intro hE res hk ls H locs hl hH hS
  exact lv_istore hE.1 hE.2.1 hd hl hn (stL_eq lo i (lvI x)) (fun ls' hl' => kk hE res hk ls' H locs hl' hH hS)
theorem si_lstore_n {ρ : Type} {E : EV} {M : MI} {out : FIN ρ} {cells slots pc : Nat} {lo : LL} {st : List Value} {h : HS} {k : Option ρ} (i : Nat) {j : Fin 4} {x : Int64} (hd : decode M.1 pc = .ok (.lstore_n j, 1)) (hj : (j : Nat) = i) (hn : i + 1 < M.2.1) (kk : Sim E M out cells slots (pc + 1) (stJ lo i (lvJ x)) st h k) : Sim E M out cells slots pc lo (.long x :: st) h k := by
  obtain ⟨p, l, e, R, s, m, args, below, meth, c, G, h0⟩ := E
  intro hE res hk ls H locs hl hH hS
  exact lv_lstore_n hE.1 hE.2.1 hd hj hl hn (stJ_eq lo i (lvJ x)) (fun ls' hl' => kk hE res hk ls' H locs hl' hH hS)
theorem si_lstore {ρ : Type} {E : EV} {M : MI} {out : FIN ρ} {cells slots pc : Nat} {lo : LL} {st : List Value} {h : HS} {k : Option ρ} (i : Nat) {x : Int64} (hd : decode M.1 pc = .ok (.lstore i, 2)) (hn : i + 1 < M.2.1) (kk : Sim E M out cells slots (pc + 2) (stJ lo i (lvJ x)) st h k) : Sim E M out cells slots pc lo (.long x :: st) h k := by
  obtain ⟨p, l, e, R, s, m, args, below, meth, c, G, h0⟩ := E
  intro hE res hk ls H locs hl hH hS
  exact lv_lstore hE.1 hE.2.1 hd hl hn (stJ_eq lo i (lvJ x)) (fun ls' hl' => kk hE res hk ls' H locs hl' hH hS)
theorem si_astore_n {ρ : Type} {E : EV} {M : MI} {out : FIN ρ} {cells slots pc : Nat} {lo : LL} {st : List Value} {h : HS} {k : Option ρ} (i : Nat) {j : Fin 4} {x : Option Nat} (hd : decode M.1 pc = .ok (.astore_n j, 1)) (hj : (j : Nat) = i) (hn : i < M.2.1) (kk : Sim E M out cells slots (pc + 1) (stL lo i (lvR x)) st h k) : Sim E M out cells slots pc lo (va_rf x :: st) h k := by
  obtain ⟨p, l, e, R, s, m, args, below, meth, c, G, h0⟩ := E
  intro hE res hk ls H locs hl hH hS
  have h1 := stL_eq lo i (lvR x)
  cases x with
  | none => exact lv_astore_nN hE.1 hE.2.1 hd hj hl hn h1 (fun ls' hl' => kk hE res hk ls' H locs hl' hH hS)
  | some x => exact lv_astore_n hE.1 hE.2.1 hd hj hl hn h1 (fun ls' hl' => kk hE res hk ls' H locs hl' hH hS)
theorem si_astore {ρ : Type} {E : EV} {M : MI} {out : FIN ρ} {cells slots pc : Nat} {lo : LL} {st : List Value} {h : HS} {k : Option ρ} (i : Nat) {x : Option Nat} (hd : decode M.1 pc = .ok (.astore i, 2)) (hn : i < M.2.1) (kk : Sim E M out cells slots (pc + 2) (stL lo i (lvR x)) st h k) : Sim E M out cells slots pc lo (va_rf x :: st) h k := by
  obtain ⟨p, l, e, R, s, m, args, below, meth, c, G, h0⟩ := E
  intro hE res hk ls H locs hl hH hS
  have h1 := stL_eq lo i (lvR x)
  cases x with
  | none => exact lv_astoreN hE.1 hE.2.1 hd hl hn h1 (fun ls' hl' => kk hE res hk ls' H locs hl' hH hS)
  | some x => exact lv_astore hE.1 hE.2.1 hd hl hn h1 (fun ls' hl' => kk hE res hk ls' H locs hl' hH hS)
theorem si_iinc {ρ : Type} {E : EV} {M : MI} {out : FIN ρ} {cells slots pc : Nat} {lo : LL} {st : List Value} {h : HS} {k : Option ρ} (i : Nat) {n : Int} {x : Int32} (v : Int32) (hd : decode M.1 pc = .ok (.iinc i n, 3)) (hi : lkL lo i = some (lvI x)) (hv : Int32.ofInt n = v) (hn : i < M.2.1) (kk : Sim E M out cells slots (pc + 3) (stL lo i (lvI (x + v))) st h k) : Sim E M out cells slots pc lo st h k := by
  obtain ⟨p, l, e, R, s, m, args, below, meth, c, G, h0⟩ := E
  intro hE res hk ls H locs hl hH hS
  obtain ⟨q, hq⟩ := lk_pl hi
  exact lv_iinc hE.1 hE.2.1 hd hl hq (by rw [hv]) hn (stL_eq lo i (lvI (x + v))) (fun ls' hl' => kk hE res hk ls' H locs hl' hH hS)
theorem si_iadd {ρ : Type} {E : EV} {M : MI} {out : FIN ρ} {cells slots pc : Nat} {lo : LL} {st : List Value} {h : HS} {k : Option ρ} {x y : Int32} (hd : decode M.1 pc = .ok (.iadd, 1)) (kk : Sim E M out cells slots (pc + 1) lo (.int (x + y) :: st) h k) : Sim E M out cells slots pc lo (.int y :: .int x :: st) h k := by
  obtain ⟨p, l, e, R, s, m, args, below, meth, c, G, h0⟩ := E
  intro hE res hk ls H locs hl hH hS
  exact lv_iadd hE.1 hE.2.1 hd (kk hE res hk ls H locs hl hH hS)
theorem si_isub {ρ : Type} {E : EV} {M : MI} {out : FIN ρ} {cells slots pc : Nat} {lo : LL} {st : List Value} {h : HS} {k : Option ρ} {x y : Int32} (hd : decode M.1 pc = .ok (.isub, 1)) (kk : Sim E M out cells slots (pc + 1) lo (.int (x - y) :: st) h k) : Sim E M out cells slots pc lo (.int y :: .int x :: st) h k := by
  obtain ⟨p, l, e, R, s, m, args, below, meth, c, G, h0⟩ := E
  intro hE res hk ls H locs hl hH hS
  exact lv_isub hE.1 hE.2.1 hd (kk hE res hk ls H locs hl hH hS)
theorem si_imul {ρ : Type} {E : EV} {M : MI} {out : FIN ρ} {cells slots pc : Nat} {lo : LL} {st : List Value} {h : HS} {k : Option ρ} {x y : Int32} (hd : decode M.1 pc = .ok (.imul, 1)) (kk : Sim E M out cells slots (pc + 1) lo (.int (x * y) :: st) h k) : Sim E M out cells slots pc lo (.int y :: .int x :: st) h k := by
  obtain ⟨p, l, e, R, s, m, args, below, meth, c, G, h0⟩ := E
  intro hE res hk ls H locs hl hH hS
  exact lv_imul hE.1 hE.2.1 hd (kk hE res hk ls H locs hl hH hS)
theorem si_iand {ρ : Type} {E : EV} {M : MI} {out : FIN ρ} {cells slots pc : Nat} {lo : LL} {st : List Value} {h : HS} {k : Option ρ} {x y : Int32} (hd : decode M.1 pc = .ok (.iand, 1)) (kk : Sim E M out cells slots (pc + 1) lo (.int (x &&& y) :: st) h k) : Sim E M out cells slots pc lo (.int y :: .int x :: st) h k := by
  obtain ⟨p, l, e, R, s, m, args, below, meth, c, G, h0⟩ := E
  intro hE res hk ls H locs hl hH hS
  exact lv_iand hE.1 hE.2.1 hd (kk hE res hk ls H locs hl hH hS)
theorem si_ior {ρ : Type} {E : EV} {M : MI} {out : FIN ρ} {cells slots pc : Nat} {lo : LL} {st : List Value} {h : HS} {k : Option ρ} {x y : Int32} (hd : decode M.1 pc = .ok (.ior, 1)) (kk : Sim E M out cells slots (pc + 1) lo (.int (x ||| y) :: st) h k) : Sim E M out cells slots pc lo (.int y :: .int x :: st) h k := by
  obtain ⟨p, l, e, R, s, m, args, below, meth, c, G, h0⟩ := E
  intro hE res hk ls H locs hl hH hS
  exact lv_ior hE.1 hE.2.1 hd (kk hE res hk ls H locs hl hH hS)
theorem si_ixor {ρ : Type} {E : EV} {M : MI} {out : FIN ρ} {cells slots pc : Nat} {lo : LL} {st : List Value} {h : HS} {k : Option ρ} {x y : Int32} (hd : decode M.1 pc = .ok (.ixor, 1)) (kk : Sim E M out cells slots (pc + 1) lo (.int (x ^^^ y) :: st) h k) : Sim E M out cells slots pc lo (.int y :: .int x :: st) h k := by
  obtain ⟨p, l, e, R, s, m, args, below, meth, c, G, h0⟩ := E
  intro hE res hk ls H locs hl hH hS
  exact lv_ixor hE.1 hE.2.1 hd (kk hE res hk ls H locs hl hH hS)
theorem si_ishl {ρ : Type} {E : EV} {M : MI} {out : FIN ρ} {cells slots pc : Nat} {lo : LL} {st : List Value} {h : HS} {k : Option ρ} {x y : Int32} (hd : decode M.1 pc = .ok (.ishl, 1)) (kk : Sim E M out cells slots (pc + 1) lo (.int (x <<< (y &&& 31)) :: st) h k) : Sim E M out cells slots pc lo (.int y :: .int x :: st) h k := by
  obtain ⟨p, l, e, R, s, m, args, below, meth, c, G, h0⟩ := E
  intro hE res hk ls H locs hl hH hS
  exact lv_ishl hE.1 hE.2.1 hd (kk hE res hk ls H locs hl hH hS)
theorem si_ishr {ρ : Type} {E : EV} {M : MI} {out : FIN ρ} {cells slots pc : Nat} {lo : LL} {st : List Value} {h : HS} {k : Option ρ} {x y : Int32} (hd : decode M.1 pc = .ok (.ishr, 1)) (kk : Sim E M out cells slots (pc + 1) lo (.int (x >>> (y &&& 31)) :: st) h k) : Sim E M out cells slots pc lo (.int y :: .int x :: st) h k := by
  obtain ⟨p, l, e, R, s, m, args, below, meth, c, G, h0⟩ := E
  intro hE res hk ls H locs hl hH hS
  exact lv_ishr hE.1 hE.2.1 hd (kk hE res hk ls H locs hl hH hS)
theorem si_idiv {ρ : Type} {E : EV} {M : MI} {out : FIN ρ} {cells slots pc : Nat} {lo : LL} {st : List Value} {h : HS} {k : Option ρ} {x y : Int32} (hd : decode M.1 pc = .ok (.idiv, 1)) (hne : ¬ y = 0) (kk : Sim E M out cells slots (pc + 1) lo (.int (x / y) :: st) h k) : Sim E M out cells slots pc lo (.int y :: .int x :: st) h k := by
  obtain ⟨p, l, e, R, s, m, args, below, meth, c, G, h0⟩ := E
  intro hE res hk ls H locs hl hH hS
  exact lv_idiv hE.1 hE.2.1 hd hne (kk hE res hk ls H locs hl hH hS)
theorem si_irem {ρ : Type} {E : EV} {M : MI} {out : FIN ρ} {cells slots pc : Nat} {lo : LL} {st : List Value} {h : HS} {k : Option ρ} {x y : Int32} (hd : decode M.1 pc = .ok (.irem, 1)) (hne : ¬ y = 0) (kk : Sim E M out cells slots (pc + 1) lo (.int (irem x y) :: st) h k) : Sim E M out cells slots pc lo (.int y :: .int x :: st) h k := by
  obtain ⟨p, l, e, R, s, m, args, below, meth, c, G, h0⟩ := E
  intro hE res hk ls H locs hl hH hS
  exact lv_irem hE.1 hE.2.1 hd hne (kk hE res hk ls H locs hl hH hS)
theorem si_ineg {ρ : Type} {E : EV} {M : MI} {out : FIN ρ} {cells slots pc : Nat} {lo : LL} {st : List Value} {h : HS} {k : Option ρ} {x : Int32} (hd : decode M.1 pc = .ok (.ineg, 1)) (kk : Sim E M out cells slots (pc + 1) lo (.int (-x) :: st) h k) : Sim E M out cells slots pc lo (.int x :: st) h k := by
  obtain ⟨p, l, e, R, s, m, args, below, meth, c, G, h0⟩ := E
  intro hE res hk ls H locs hl hH hS
  exact lv_ineg hE.1 hE.2.1 hd (kk hE res hk ls H locs hl hH hS)
theorem si_ladd {ρ : Type} {E : EV} {M : MI} {out : FIN ρ} {cells slots pc : Nat} {lo : LL} {st : List Value} {h : HS} {k : Option ρ} {x y : Int64} (hd : decode M.1 pc = .ok (.ladd, 1)) (kk : Sim E M out cells slots (pc + 1) lo (.long (x + y) :: st) h k) : Sim E M out cells slots pc lo (.long y :: .long x :: st) h k := by
  obtain ⟨p, l, e, R, s, m, args, below, meth, c, G, h0⟩ := E
  intro hE res hk ls H locs hl hH hS
  exact lv_ladd hE.1 hE.2.1 hd (kk hE res hk ls H locs hl hH hS)
theorem si_lsub {ρ : Type} {E : EV} {M : MI} {out : FIN ρ} {cells slots pc : Nat} {lo : LL} {st : List Value} {h : HS} {k : Option ρ} {x y : Int64} (hd : decode M.1 pc = .ok (.lsub, 1)) (kk : Sim E M out cells slots (pc + 1) lo (.long (x - y) :: st) h k) : Sim E M out cells slots pc lo (.long y :: .long x :: st) h k := by
  obtain ⟨p, l, e, R, s, m, args, below, meth, c, G, h0⟩ := E
  intro hE res hk ls H locs hl hH hS
  exact lv_lsub hE.1 hE.2.1 hd (kk hE res hk ls H locs hl hH hS)
theorem si_lmul {ρ : Type} {E : EV} {M : MI} {out : FIN ρ} {cells slots pc : Nat} {lo : LL} {st : List Value} {h : HS} {k : Option ρ} {x y : Int64} (hd : decode M.1 pc = .ok (.lmul, 1)) (kk : Sim E M out cells slots (pc + 1) lo (.long (x * y) :: st) h k) : Sim E M out cells slots pc lo (.long y :: .long x :: st) h k := by
  obtain ⟨p, l, e, R, s, m, args, below, meth, c, G, h0⟩ := E
  intro hE res hk ls H locs hl hH hS
  exact lv_lmul hE.1 hE.2.1 hd (kk hE res hk ls H locs hl hH hS)
theorem si_land {ρ : Type} {E : EV} {M : MI} {out : FIN ρ} {cells slots pc : Nat} {lo : LL} {st : List Value} {h : HS} {k : Option ρ} {x y : Int64} (hd : decode M.1 pc = .ok (.land, 1)) (kk : Sim E M out cells slots (pc + 1) lo (.long (x &&& y) :: st) h k) : Sim E M out cells slots pc lo (.long y :: .long x :: st) h k := by
  obtain ⟨p, l, e, R, s, m, args, below, meth, c, G, h0⟩ := E
  intro hE res hk ls H locs hl hH hS
  exact lv_land hE.1 hE.2.1 hd (kk hE res hk ls H locs hl hH hS)
theorem si_lor {ρ : Type} {E : EV} {M : MI} {out : FIN ρ} {cells slots pc : Nat} {lo : LL} {st : List Value} {h : HS} {k : Option ρ} {x y : Int64} (hd : decode M.1 pc = .ok (.lor, 1)) (kk : Sim E M out cells slots (pc + 1) lo (.long (x ||| y) :: st) h k) : Sim E M out cells slots pc lo (.long y :: .long x :: st) h k := by
  obtain ⟨p, l, e, R, s, m, args, below, meth, c, G, h0⟩ := E
  intro hE res hk ls H locs hl hH hS
  exact lv_lor hE.1 hE.2.1 hd (kk hE res hk ls H locs hl hH hS)
theorem si_lxor {ρ : Type} {E : EV} {M : MI} {out : FIN ρ} {cells slots pc : Nat} {lo : LL} {st : List Value} {h : HS} {k : Option ρ} {x y : Int64} (hd : decode M.1 pc = .ok (.lxor, 1)) (kk : Sim E M out cells slots (pc + 1) lo (.long (x ^^^ y) :: st) h k) : Sim E M out cells slots pc lo (.long y :: .long x :: st) h k := by
  obtain ⟨p, l, e, R, s, m, args, below, meth, c, G, h0⟩ := E
  intro hE res hk ls H locs hl hH hS
  exact lv_lxor hE.1 hE.2.1 hd (kk hE res hk ls H locs hl hH hS)
theorem si_ldiv {ρ : Type} {E : EV} {M : MI} {out : FIN ρ} {cells slots pc : Nat} {lo : LL} {st : List Value} {h : HS} {k : Option ρ} {x y : Int64} (hd : decode M.1 pc = .ok (.ldiv, 1)) (hne : ¬ y = 0) (kk : Sim E M out cells slots (pc + 1) lo (.long (x / y) :: st) h k) : Sim E M out cells slots pc lo (.long y :: .long x :: st) h k := by
  obtain ⟨p, l, e, R, s, m, args, below, meth, c, G, h0⟩ := E
  intro hE res hk ls H locs hl hH hS
  exact lv_ldiv hE.1 hE.2.1 hd hne (kk hE res hk ls H locs hl hH hS)
theorem si_lrem {ρ : Type} {E : EV} {M : MI} {out : FIN ρ} {cells slots pc : Nat} {lo : LL} {st : List Value} {h : HS} {k : Option ρ} {x y : Int64} (hd : decode M.1 pc = .ok (.lrem, 1)) (hne : ¬ y = 0) (kk : Sim E M out cells slots (pc + 1) lo (.long (lrem x y) :: st) h k) : Sim E M out cells slots pc lo (.long y :: .long x :: st) h k := by
  obtain ⟨p, l, e, R, s, m, args, below, meth, c, G, h0⟩ := E
  intro hE res hk ls H locs hl hH hS
  exact lv_lrem hE.1 hE.2.1 hd hne (kk hE res hk ls H locs hl hH hS)
theorem si_i2l {ρ : Type} {E : EV} {M : MI} {out : FIN ρ} {cells slots pc : Nat} {lo : LL} {st : List Value} {h : HS} {k : Option ρ} {x : Int32} (hd : decode M.1 pc = .ok (.i2l, 1)) (kk : Sim E M out cells slots (pc + 1) lo (.long x.toInt64 :: st) h k) : Sim E M out cells slots pc lo (.int x :: st) h k := by
  obtain ⟨p, l, e, R, s, m, args, below, meth, c, G, h0⟩ := E
  intro hE res hk ls H locs hl hH hS
  exact lv_i2l hE.1 hE.2.1 hd rfl (kk hE res hk ls H locs hl hH hS)
theorem si_l2i {ρ : Type} {E : EV} {M : MI} {out : FIN ρ} {cells slots pc : Nat} {lo : LL} {st : List Value} {h : HS} {k : Option ρ} {x : Int64} (hd : decode M.1 pc = .ok (.l2i, 1)) (kk : Sim E M out cells slots (pc + 1) lo (.int x.toInt32 :: st) h k) : Sim E M out cells slots pc lo (.long x :: st) h k := by
  obtain ⟨p, l, e, R, s, m, args, below, meth, c, G, h0⟩ := E
  intro hE res hk ls H locs hl hH hS
  exact lv_l2i hE.1 hE.2.1 hd rfl (kk hE res hk ls H locs hl hH hS)
theorem si_i2b {ρ : Type} {E : EV} {M : MI} {out : FIN ρ} {cells slots pc : Nat} {lo : LL} {st : List Value} {h : HS} {k : Option ρ} {x : Int32} (hd : decode M.1 pc = .ok (.i2b, 1)) (kk : Sim E M out cells slots (pc + 1) lo (.int (i2b x) :: st) h k) : Sim E M out cells slots pc lo (.int x :: st) h k := by
  obtain ⟨p, l, e, R, s, m, args, below, meth, c, G, h0⟩ := E
  intro hE res hk ls H locs hl hH hS
  exact lv_i2b hE.1 hE.2.1 hd rfl (kk hE res hk ls H locs hl hH hS)
theorem si_i2c {ρ : Type} {E : EV} {M : MI} {out : FIN ρ} {cells slots pc : Nat} {lo : LL} {st : List Value} {h : HS} {k : Option ρ} {x : Int32} (hd : decode M.1 pc = .ok (.i2c, 1)) (kk : Sim E M out cells slots (pc + 1) lo (.int (i2c x) :: st) h k) : Sim E M out cells slots pc lo (.int x :: st) h k := by
  obtain ⟨p, l, e, R, s, m, args, below, meth, c, G, h0⟩ := E
  intro hE res hk ls H locs hl hH hS
  exact lv_i2c hE.1 hE.2.1 hd rfl (kk hE res hk ls H locs hl hH hS)
theorem si_lushr {ρ : Type} {E : EV} {M : MI} {out : FIN ρ} {cells slots pc : Nat} {lo : LL} {st : List Value} {h : HS} {k : Option ρ} {x : Int64} {y : Int32} (hd : decode M.1 pc = .ok (.lushr, 1)) (kk : Sim E M out cells slots (pc + 1) lo (.long (lushr x y) :: st) h k) : Sim E M out cells slots pc lo (.int y :: .long x :: st) h k := by
  obtain ⟨p, l, e, R, s, m, args, below, meth, c, G, h0⟩ := E
  intro hE res hk ls H locs hl hH hS
  exact lv_lushr hE.1 hE.2.1 hd rfl (kk hE res hk ls H locs hl hH hS)
theorem si_lshl {ρ : Type} {E : EV} {M : MI} {out : FIN ρ} {cells slots pc : Nat} {lo : LL} {st : List Value} {h : HS} {k : Option ρ} {x : Int64} {y : Int32} (hd : decode M.1 pc = .ok (.lshl, 1)) (kk : Sim E M out cells slots (pc + 1) lo (.long (lshl x y) :: st) h k) : Sim E M out cells slots pc lo (.int y :: .long x :: st) h k := by
  obtain ⟨p, l, e, R, s, m, args, below, meth, c, G, h0⟩ := E
  intro hE res hk ls H locs hl hH hS
  exact lv_lshl hE.1 hE.2.1 hd rfl (kk hE res hk ls H locs hl hH hS)
theorem si_lshr {ρ : Type} {E : EV} {M : MI} {out : FIN ρ} {cells slots pc : Nat} {lo : LL} {st : List Value} {h : HS} {k : Option ρ} {x : Int64} {y : Int32} (hd : decode M.1 pc = .ok (.lshr, 1)) (kk : Sim E M out cells slots (pc + 1) lo (.long (lshr x y) :: st) h k) : Sim E M out cells slots pc lo (.int y :: .long x :: st) h k := by
  obtain ⟨p, l, e, R, s, m, args, below, meth, c, G, h0⟩ := E
  intro hE res hk ls H locs hl hH hS
  exact lv_lshr hE.1 hE.2.1 hd rfl (kk hE res hk ls H locs hl hH hS)
theorem si_lcmp {ρ : Type} {E : EV} {M : MI} {out : FIN ρ} {cells slots pc : Nat} {lo : LL} {st : List Value} {h : HS} {k : Option ρ} {x y : Int64} (hd : decode M.1 pc = .ok (.lcmp, 1)) (kk : Sim E M out cells slots (pc + 1) lo (.int (lg_cmp x y) :: st) h k) : Sim E M out cells slots pc lo (.long y :: .long x :: st) h k := by
  obtain ⟨p, l, e, R, s, m, args, below, meth, c, G, h0⟩ := E
  intro hE res hk ls H locs hl hH hS
  exact W.lcmp hE.1 hE.2.1 hd (kk hE res hk ls H locs hl hH hS)
theorem si_dup {ρ : Type} {E : EV} {M : MI} {out : FIN ρ} {cells slots pc : Nat} {lo : LL} {st : List Value} {h : HS} {k : Option ρ} {v : Value} (hd : decode M.1 pc = .ok (.dup, 1)) (h1 : v.category = 1) (kk : Sim E M out cells slots (pc + 1) lo (v :: v :: st) h k) : Sim E M out cells slots pc lo (v :: st) h k := by
  obtain ⟨p, l, e, R, s, m, args, below, meth, c, G, h0⟩ := E
  intro hE res hk ls H locs hl hH hS
  exact lv_dup hE.1 hE.2.1 hd h1 (kk hE res hk ls H locs hl hH hS)
theorem si_pop {ρ : Type} {E : EV} {M : MI} {out : FIN ρ} {cells slots pc : Nat} {lo : LL} {st : List Value} {h : HS} {k : Option ρ} {v : Value} (hd : decode M.1 pc = .ok (.pop, 1)) (h1 : v.category = 1) (kk : Sim E M out cells slots (pc + 1) lo (st) h k) : Sim E M out cells slots pc lo (v :: st) h k := by
  obtain ⟨p, l, e, R, s, m, args, below, meth, c, G, h0⟩ := E
  intro hE res hk ls H locs hl hH hS
  exact lv_pop hE.1 hE.2.1 hd h1 (kk hE res hk ls H locs hl hH hS)
theorem si_dup_x1 {ρ : Type} {E : EV} {M : MI} {out : FIN ρ} {cells slots pc : Nat} {lo : LL} {st : List Value} {h : HS} {k : Option ρ} {v w : Value} (hd : decode M.1 pc = .ok (.dup_x1, 1)) (h1 : v.category = 1) (h2 : w.category = 1) (kk : Sim E M out cells slots (pc + 1) lo (v :: w :: v :: st) h k) : Sim E M out cells slots pc lo (v :: w :: st) h k := by
  obtain ⟨p, l, e, R, s, m, args, below, meth, c, G, h0⟩ := E
  intro hE res hk ls H locs hl hH hS
  exact lv_dup_x1 hE.1 hE.2.1 hd h1 h2 (kk hE res hk ls H locs hl hH hS)
theorem si_dup_x2 {ρ : Type} {E : EV} {M : MI} {out : FIN ρ} {cells slots pc : Nat} {lo : LL} {st : List Value} {h : HS} {k : Option ρ} {v w u : Value} (hd : decode M.1 pc = .ok (.dup_x2, 1)) (h1 : v.category = 1) (h2 : w.category = 1) (h3 : u.category = 1) (kk : Sim E M out cells slots (pc + 1) lo (v :: w :: u :: v :: st) h k) : Sim E M out cells slots pc lo (v :: w :: u :: st) h k := by
  obtain ⟨p, l, e, R, s, m, args, below, meth, c, G, h0⟩ := E
  intro hE res hk ls H locs hl hH hS
  exact lv_dup_x2 hE.1 hE.2.1 hd h1 h2 h3 (kk hE res hk ls H locs hl hH hS)
theorem si_dup2 {ρ : Type} {E : EV} {M : MI} {out : FIN ρ} {cells slots pc : Nat} {lo : LL} {st : List Value} {h : HS} {k : Option ρ} {v w : Value} (hd : decode M.1 pc = .ok (.dup2, 1)) (h1 : v.category = 1) (h2 : w.category = 1) (kk : Sim E M out cells slots (pc + 1) lo (v :: w :: v :: w :: st) h k) : Sim E M out cells slots pc lo (v :: w :: st) h k := by
  obtain ⟨p, l, e, R, s, m, args, below, meth, c, G, h0⟩ := E
  intro hE res hk ls H locs hl hH hS
  exact lv_dup2_11 hE.1 hE.2.1 hd h1 h2 (kk hE res hk ls H locs hl hH hS)
theorem si_ldc {ρ : Type} {E : EV} {M : MI} {out : FIN ρ} {cells slots pc : Nat} {lo : LL} {st : List Value} {h : HS} {k : Option ρ} {index : Nat} {v : Int32} (hd : decode M.1 pc = .ok (.ldc index, 2)) (hw : Cond.constant M.2.2.1 index v ∈ TBL) (kk : Sim E M out cells slots (pc + 2) lo (.int v :: st) h k) : Sim E M out cells slots pc lo st h k := by
  obtain ⟨p, l, e, R, s, m, args, below, meth, c, G, h0⟩ := E
  intro hE res hk ls H locs hl hH hS
  exact lv_ldc hE.1 hE.2.1 hE.2.2.2.1 (hE.2.2.2.2.2.2.2.2.1 _ hw) hd (kk hE res hk ls H locs hl hH hS)
theorem si_ldc2 {ρ : Type} {E : EV} {M : MI} {out : FIN ρ} {cells slots pc : Nat} {lo : LL} {st : List Value} {h : HS} {k : Option ρ} {index : Nat} {v : Int64} (hd : decode M.1 pc = .ok (.ldc2_w index, 3)) (hw : Cond.constantLong M.2.2.1 index v ∈ TBL) (kk : Sim E M out cells slots (pc + 3) lo (.long v :: st) h k) : Sim E M out cells slots pc lo st h k := by
  obtain ⟨p, l, e, R, s, m, args, below, meth, c, G, h0⟩ := E
  intro hE res hk ls H locs hl hH hS
  exact lv_ldc2 hE.1 hE.2.1 hE.2.2.2.1 (hE.2.2.2.2.2.2.2.2.1 _ hw) hd (kk hE res hk ls H locs hl hH hS)
theorem si_ldcw {ρ : Type} {E : EV} {M : MI} {out : FIN ρ} {cells slots pc : Nat} {lo : LL} {st : List Value} {h : HS} {k : Option ρ} {index : Nat} {v : Int32} (hd : decode M.1 pc = .ok (.ldc_w index, 3)) (hw : Cond.constant M.2.2.1 index v ∈ TBL) (kk : Sim E M out cells slots (pc + 3) lo (.int v :: st) h k) : Sim E M out cells slots pc lo st h k := by
  obtain ⟨p, l, e, R, s, m, args, below, meth, c, G, h0⟩ := E
  intro hE res hk ls H locs hl hH hS
  exact lv_ldcw hE.1 hE.2.1 hE.2.2.2.1 (hE.2.2.2.2.2.2.2.2.1 _ hw) hd (kk hE res hk ls H locs hl hH hS)
theorem si_if_eq {ρ : Type} {E : EV} {M : MI} {out : FIN ρ} {cells slots pc : Nat} {lo : LL} {st : List Value} {h : HS} {k1 k2 : Option ρ} {x : Int32} {off : Int} (tgt : Nat) (hd : decode M.1 pc = .ok (.ifCond .eq off, 3)) (ht : (pc : Int) + off = (tgt : Int)) (kt : Sim E M out cells slots tgt lo st h k1) (kf : Sim E M out cells slots (pc + 3) lo st h k2) : Sim E M out cells slots pc lo (.int x :: st) h (if x = 0 then k1 else k2) := by
  obtain ⟨p, l, e, R, s, m, args, below, meth, c, G, h0⟩ := E
  intro hE res hk ls H locs hl hH hS
  exact lv_if_eq hE.1 hE.2.1 hd ht (fun hc => kt hE res (by first | rwa [if_pos hc] at hk | rwa [if_neg (fun z => hc z)] at hk) ls H locs hl hH hS) (fun hc => kf hE res (by first | rwa [if_neg hc] at hk | rwa [if_pos hc] at hk) ls H locs hl hH hS)
theorem si_if_lt {ρ : Type} {E : EV} {M : MI} {out : FIN ρ} {cells slots pc : Nat} {lo : LL} {st : List Value} {h : HS} {k1 k2 : Option ρ} {x : Int32} {off : Int} (tgt : Nat) (hd : decode M.1 pc = .ok (.ifCond .lt off, 3)) (ht : (pc : Int) + off = (tgt : Int)) (kt : Sim E M out cells slots tgt lo st h k1) (kf : Sim E M out cells slots (pc + 3) lo st h k2) : Sim E M out cells slots pc lo (.int x :: st) h (if x < 0 then k1 else k2) := by
  obtain ⟨p, l, e, R, s, m, args, below, meth, c, G, h0⟩ := E
  intro hE res hk ls H locs hl hH hS
  exact lv_if_lt hE.1 hE.2.1 hd ht (fun hc => kt hE res (by first | rwa [if_pos hc] at hk | rwa [if_neg (fun z => hc z)] at hk) ls H locs hl hH hS) (fun hc => kf hE res (by first | rwa [if_neg hc] at hk | rwa [if_pos hc] at hk) ls H locs hl hH hS)
theorem si_if_ge {ρ : Type} {E : EV} {M : MI} {out : FIN ρ} {cells slots pc : Nat} {lo : LL} {st : List Value} {h : HS} {k1 k2 : Option ρ} {x : Int32} {off : Int} (tgt : Nat) (hd : decode M.1 pc = .ok (.ifCond .ge off, 3)) (ht : (pc : Int) + off = (tgt : Int)) (kt : Sim E M out cells slots tgt lo st h k1) (kf : Sim E M out cells slots (pc + 3) lo st h k2) : Sim E M out cells slots pc lo (.int x :: st) h (if 0 ≤ x then k1 else k2) := by
  obtain ⟨p, l, e, R, s, m, args, below, meth, c, G, h0⟩ := E
  intro hE res hk ls H locs hl hH hS
  exact lv_if_ge hE.1 hE.2.1 hd ht (fun hc => kt hE res (by first | rwa [if_pos hc] at hk | rwa [if_neg (fun z => hc z)] at hk) ls H locs hl hH hS) (fun hc => kf hE res (by first | rwa [if_neg hc] at hk | rwa [if_pos hc] at hk) ls H locs hl hH hS)
theorem si_if_gt {ρ : Type} {E : EV} {M : MI} {out : FIN ρ} {cells slots pc : Nat} {lo : LL} {st : List Value} {h : HS} {k1 k2 : Option ρ} {x : Int32} {off : Int} (tgt : Nat) (hd : decode M.1 pc = .ok (.ifCond .gt off, 3)) (ht : (pc : Int) + off = (tgt : Int)) (kt : Sim E M out cells slots tgt lo st h k1) (kf : Sim E M out cells slots (pc + 3) lo st h k2) : Sim E M out cells slots pc lo (.int x :: st) h (if 0 < x then k1 else k2) := by
  obtain ⟨p, l, e, R, s, m, args, below, meth, c, G, h0⟩ := E
  intro hE res hk ls H locs hl hH hS
  exact lv_if_gt hE.1 hE.2.1 hd ht (fun hc => kt hE res (by first | rwa [if_pos hc] at hk | rwa [if_neg (fun z => hc z)] at hk) ls H locs hl hH hS) (fun hc => kf hE res (by first | rwa [if_neg hc] at hk | rwa [if_pos hc] at hk) ls H locs hl hH hS)
theorem si_if_le {ρ : Type} {E : EV} {M : MI} {out : FIN ρ} {cells slots pc : Nat} {lo : LL} {st : List Value} {h : HS} {k1 k2 : Option ρ} {x : Int32} {off : Int} (tgt : Nat) (hd : decode M.1 pc = .ok (.ifCond .le off, 3)) (ht : (pc : Int) + off = (tgt : Int)) (kt : Sim E M out cells slots tgt lo st h k1) (kf : Sim E M out cells slots (pc + 3) lo st h k2) : Sim E M out cells slots pc lo (.int x :: st) h (if x ≤ 0 then k1 else k2) := by
  obtain ⟨p, l, e, R, s, m, args, below, meth, c, G, h0⟩ := E
  intro hE res hk ls H locs hl hH hS
  exact lv_if_le hE.1 hE.2.1 hd ht (fun hc => kt hE res (by first | rwa [if_pos hc] at hk | rwa [if_neg (fun z => hc z)] at hk) ls H locs hl hH hS) (fun hc => kf hE res (by first | rwa [if_neg hc] at hk | rwa [if_pos hc] at hk) ls H locs hl hH hS)
theorem si_icmp_eq {ρ : Type} {E : EV} {M : MI} {out : FIN ρ} {cells slots pc : Nat} {lo : LL} {st : List Value} {h : HS} {k1 k2 : Option ρ} {x y : Int32} {off : Int} (tgt : Nat) (hd : decode M.1 pc = .ok (.if_icmp .eq off, 3)) (ht : (pc : Int) + off = (tgt : Int)) (kt : Sim E M out cells slots tgt lo st h k1) (kf : Sim E M out cells slots (pc + 3) lo st h k2) : Sim E M out cells slots pc lo (.int y :: .int x :: st) h (if x = y then k1 else k2) := by
  obtain ⟨p, l, e, R, s, m, args, below, meth, c, G, h0⟩ := E
  intro hE res hk ls H locs hl hH hS
  exact lv_icmp_eq hE.1 hE.2.1 hd ht (fun hc => kt hE res (by first | rwa [if_pos hc] at hk | rwa [if_neg (fun z => hc z)] at hk) ls H locs hl hH hS) (fun hc => kf hE res (by first | rwa [if_neg hc] at hk | rwa [if_pos hc] at hk) ls H locs hl hH hS)
theorem si_icmp_lt {ρ : Type} {E : EV} {M : MI} {out : FIN ρ} {cells slots pc : Nat} {lo : LL} {st : List Value} {h : HS} {k1 k2 : Option ρ} {x y : Int32} {off : Int} (tgt : Nat) (hd : decode M.1 pc = .ok (.if_icmp .lt off, 3)) (ht : (pc : Int) + off = (tgt : Int)) (kt : Sim E M out cells slots tgt lo st h k1) (kf : Sim E M out cells slots (pc + 3) lo st h k2) : Sim E M out cells slots pc lo (.int y :: .int x :: st) h (if x < y then k1 else k2) := by
  obtain ⟨p, l, e, R, s, m, args, below, meth, c, G, h0⟩ := E
  intro hE res hk ls H locs hl hH hS
  exact lv_icmp_lt hE.1 hE.2.1 hd ht (fun hc => kt hE res (by first | rwa [if_pos hc] at hk | rwa [if_neg (fun z => hc z)] at hk) ls H locs hl hH hS) (fun hc => kf hE res (by first | rwa [if_neg hc] at hk | rwa [if_pos hc] at hk) ls H locs hl hH hS)
theorem si_icmp_ge {ρ : Type} {E : EV} {M : MI} {out : FIN ρ} {cells slots pc : Nat} {lo : LL} {st : List Value} {h : HS} {k1 k2 : Option ρ} {x y : Int32} {off : Int} (tgt : Nat) (hd : decode M.1 pc = .ok (.if_icmp .ge off, 3)) (ht : (pc : Int) + off = (tgt : Int)) (kt : Sim E M out cells slots tgt lo st h k1) (kf : Sim E M out cells slots (pc + 3) lo st h k2) : Sim E M out cells slots pc lo (.int y :: .int x :: st) h (if y ≤ x then k1 else k2) := by
  obtain ⟨p, l, e, R, s, m, args, below, meth, c, G, h0⟩ := E
  intro hE res hk ls H locs hl hH hS
  exact lv_icmp_ge hE.1 hE.2.1 hd ht (fun hc => kt hE res (by first | rwa [if_pos hc] at hk | rwa [if_neg (fun z => hc z)] at hk) ls H locs hl hH hS) (fun hc => kf hE res (by first | rwa [if_neg hc] at hk | rwa [if_pos hc] at hk) ls H locs hl hH hS)
theorem si_icmp_gt {ρ : Type} {E : EV} {M : MI} {out : FIN ρ} {cells slots pc : Nat} {lo : LL} {st : List Value} {h : HS} {k1 k2 : Option ρ} {x y : Int32} {off : Int} (tgt : Nat) (hd : decode M.1 pc = .ok (.if_icmp .gt off, 3)) (ht : (pc : Int) + off = (tgt : Int)) (kt : Sim E M out cells slots tgt lo st h k1) (kf : Sim E M out cells slots (pc + 3) lo st h k2) : Sim E M out cells slots pc lo (.int y :: .int x :: st) h (if y < x then k1 else k2) := by
  obtain ⟨p, l, e, R, s, m, args, below, meth, c, G, h0⟩ := E
  intro hE res hk ls H locs hl hH hS
  exact lv_icmp_gt hE.1 hE.2.1 hd ht (fun hc => kt hE res (by first | rwa [if_pos hc] at hk | rwa [if_neg (fun z => hc z)] at hk) ls H locs hl hH hS) (fun hc => kf hE res (by first | rwa [if_neg hc] at hk | rwa [if_pos hc] at hk) ls H locs hl hH hS)
theorem si_icmp_le {ρ : Type} {E : EV} {M : MI} {out : FIN ρ} {cells slots pc : Nat} {lo : LL} {st : List Value} {h : HS} {k1 k2 : Option ρ} {x y : Int32} {off : Int} (tgt : Nat) (hd : decode M.1 pc = .ok (.if_icmp .le off, 3)) (ht : (pc : Int) + off = (tgt : Int)) (kt : Sim E M out cells slots tgt lo st h k1) (kf : Sim E M out cells slots (pc + 3) lo st h k2) : Sim E M out cells slots pc lo (.int y :: .int x :: st) h (if x ≤ y then k1 else k2) := by
  obtain ⟨p, l, e, R, s, m, args, below, meth, c, G, h0⟩ := E
  intro hE res hk ls H locs hl hH hS
  exact lv_icmp_le hE.1 hE.2.1 hd ht (fun hc => kt hE res (by first | rwa [if_pos hc] at hk | rwa [if_neg (fun z => hc z)] at hk) ls H locs hl hH hS) (fun hc => kf hE res (by first | rwa [if_neg hc] at hk | rwa [if_pos hc] at hk) ls H locs hl hH hS)
theorem si_if_ne {ρ : Type} {E : EV} {M : MI} {out : FIN ρ} {cells slots pc : Nat} {lo : LL} {st : List Value} {h : HS} {k1 k2 : Option ρ} {x : Int32} {off : Int} (tgt : Nat) (hd : decode M.1 pc = .ok (.ifCond .ne off, 3)) (ht : (pc : Int) + off = (tgt : Int)) (kf : Sim E M out cells slots (pc + 3) lo st h k1) (kt : Sim E M out cells slots tgt lo st h k2) : Sim E M out cells slots pc lo (.int x :: st) h (if x = 0 then k1 else k2) := by
  obtain ⟨p, l, e, R, s, m, args, below, meth, c, G, h0⟩ := E
  intro hE res hk ls H locs hl hH hS
  exact lv_if_ne hE.1 hE.2.1 hd ht (fun hc => kt hE res (by rwa [if_neg hc] at hk) ls H locs hl hH hS) (fun hc => kf hE res (by rwa [if_pos hc] at hk) ls H locs hl hH hS)
theorem si_icmp_ne {ρ : Type} {E : EV} {M : MI} {out : FIN ρ} {cells slots pc : Nat} {lo : LL} {st : List Value} {h : HS} {k1 k2 : Option ρ} {x y : Int32} {off : Int} (tgt : Nat) (hd : decode M.1 pc = .ok (.if_icmp .ne off, 3)) (ht : (pc : Int) + off = (tgt : Int)) (kf : Sim E M out cells slots (pc + 3) lo st h k1) (kt : Sim E M out cells slots tgt lo st h k2) : Sim E M out cells slots pc lo (.int y :: .int x :: st) h (if x = y then k1 else k2) := by
  obtain ⟨p, l, e, R, s, m, args, below, meth, c, G, h0⟩ := E
  intro hE res hk ls H locs hl hH hS
  exact lv_icmp_ne hE.1 hE.2.1 hd ht (fun hc => kt hE res (by rwa [if_neg hc] at hk) ls H locs hl hH hS) (fun hc => kf hE res (by rwa [if_pos hc] at hk) ls H locs hl hH hS)
theorem si_goto {ρ : Type} {E : EV} {M : MI} {out : FIN ρ} {cells slots pc : Nat} {lo : LL} {st : List Value} {h : HS} {k : Option ρ} {off : Int} (tgt : Nat) (hd : decode M.1 pc = .ok (.goto off, 3)) (ht : (pc : Int) + off = (tgt : Int)) (kk : Sim E M out cells slots tgt lo st h k) : Sim E M out cells slots pc lo st h k := by
  obtain ⟨p, l, e, R, s, m, args, below, meth, c, G, h0⟩ := E
  intro hE res hk ls H locs hl hH hS
  exact lv_goto hE.1 hE.2.1 hd ht (kk hE res hk ls H locs hl hH hS)
theorem si_ifnull {ρ : Type} {E : EV} {M : MI} {out : FIN ρ} {cells slots pc : Nat} {lo : LL} {st : List Value} {h : HS} {k1 k2 : Option ρ} {x : Option Nat} {off : Int} (tgt : Nat) (hd : decode M.1 pc = .ok (.ifnull off, 3)) (ht : (pc : Int) + off = (tgt : Int)) (kt : Sim E M out cells slots tgt lo st h k1) (kf : Sim E M out cells slots (pc + 3) lo st h k2) : Sim E M out cells slots pc lo (va_rf x :: st) h (if x = none then k1 else k2) := by
  obtain ⟨p, l, e, R, s, m, args, below, meth, c, G, h0⟩ := E
  intro hE res hk ls H locs hl hH hS
  cases x with
  | none => exact lv_ifnullN hE.1 hE.2.1 hd ht (kt hE res (by rwa [if_pos rfl] at hk) ls H locs hl hH hS)
  | some x => exact lv_ifnull hE.1 hE.2.1 hd (kf hE res (by rwa [if_neg (by simp)] at hk) ls H locs hl hH hS)
theorem si_ifnonnull {ρ : Type} {E : EV} {M : MI} {out : FIN ρ} {cells slots pc : Nat} {lo : LL} {st : List Value} {h : HS} {k1 k2 : Option ρ} {x : Option Nat} {off : Int} (tgt : Nat) (hd : decode M.1 pc = .ok (.ifnonnull off, 3)) (ht : (pc : Int) + off = (tgt : Int)) (kf : Sim E M out cells slots (pc + 3) lo st h k1) (kt : Sim E M out cells slots tgt lo st h k2) : Sim E M out cells slots pc lo (va_rf x :: st) h (if x = none then k1 else k2) := by
  obtain ⟨p, l, e, R, s, m, args, below, meth, c, G, h0⟩ := E
  intro hE res hk ls H locs hl hH hS
  cases x with
  | none => exact lv_ifnonnullN hE.1 hE.2.1 hd (kf hE res (by rwa [if_pos rfl] at hk) ls H locs hl hH hS)
  | some x => exact lv_ifnonnull hE.1 hE.2.1 hd ht (kt hE res (by rwa [if_neg (by simp)] at hk) ls H locs hl hH hS)
theorem si_acmp_eq {ρ : Type} {E : EV} {M : MI} {out : FIN ρ} {cells slots pc : Nat} {lo : LL} {st : List Value} {h : HS} {k1 k2 : Option ρ} {x y : Option Nat} {off : Int} (tgt : Nat) (hd : decode M.1 pc = .ok (.if_acmp .eq off, 3)) (ht : (pc : Int) + off = (tgt : Int)) (kt : Sim E M out cells slots tgt lo st h k1) (kf : Sim E M out cells slots (pc + 3) lo st h k2) : Sim E M out cells slots pc lo (va_rf y :: va_rf x :: st) h (if x = y then k1 else k2) := by
  obtain ⟨p, l, e, R, s, m, args, below, meth, c, G, h0⟩ := E
  intro hE res hk ls H locs hl hH hS
  exact lv_acmp_eq hE.1 hE.2.1 hd ht (fun hc => kt hE res (by first | rwa [if_pos hc] at hk | rwa [if_neg (fun z => hc z)] at hk) ls H locs hl hH hS) (fun hc => kf hE res (by first | rwa [if_neg hc] at hk | rwa [if_pos hc] at hk) ls H locs hl hH hS)
theorem si_acmp_ne {ρ : Type} {E : EV} {M : MI} {out : FIN ρ} {cells slots pc : Nat} {lo : LL} {st : List Value} {h : HS} {k1 k2 : Option ρ} {x y : Option Nat} {off : Int} (tgt : Nat) (hd : decode M.1 pc = .ok (.if_acmp .ne off, 3)) (ht : (pc : Int) + off = (tgt : Int)) (kf : Sim E M out cells slots (pc + 3) lo st h k1) (kt : Sim E M out cells slots tgt lo st h k2) : Sim E M out cells slots pc lo (va_rf y :: va_rf x :: st) h (if x = y then k1 else k2) := by
  obtain ⟨p, l, e, R, s, m, args, below, meth, c, G, h0⟩ := E
  intro hE res hk ls H locs hl hH hS
  exact lv_acmp_ne hE.1 hE.2.1 hd ht (fun hc => kt hE res (by rwa [if_neg hc] at hk) ls H locs hl hH hS) (fun hc => kf hE res (by rwa [if_pos hc] at hk) ls H locs hl hH hS)
theorem si_ite {ρ : Type} {E : EV} {M : MI} {out : FIN ρ} {cells slots pc : Nat} {lo : LL} {st : List Value} {h : HS} {k1 k2 : Option ρ} {c : Prop} [Decidable c] (kt : c → Sim E M out cells slots pc lo st h k1) (kf : ¬ c → Sim E M out cells slots pc lo st h k2) : Sim E M out cells slots pc lo st h (if c then k1 else k2) := by
  by_cases hc : c
  · rw [if_pos hc]; exact kt hc
  · rw [if_neg hc]; exact kf hc
theorem si_none {ρ : Type} {E : EV} {M : MI} {out : FIN ρ} {cells slots pc : Nat} {lo : LL} {st : List Value} {h : HS}  : Sim E M out cells slots pc lo st h none := by
  obtain ⟨p, l, e, R, s, m, args, below, meth, c, G, h0⟩ := E
  intro hE res hk ls H locs hl hH hS
  cases hk
theorem si_tsIn {ρ : Type} {E : EV} {M : MI} {out : FIN ρ} {cells slots pc : Nat} {lo : LL} {st : List Value} {h : HS} {k : Option ρ} {x : Int32} (v : Int32) {dflt lo' hi : Int} {offs : Array Int} {len : Nat} {off : Int} (tgt : Nat) (hx : x = v) (hd : decode M.1 pc = .ok (.tableswitch dflt lo' hi offs, len)) (h1 : ¬ v.toInt < lo') (h2 : ¬ hi < v.toInt) (ho : offs[(v.toInt - lo').toNat]? = some off) (ht : (pc : Int) + off = (tgt : Int)) (kk : Sim E M out cells slots tgt lo st h k) : Sim E M out cells slots pc lo (.int x :: st) h k := by
  obtain ⟨p, l, e, R, s, m, args, below, meth, c, G, h0⟩ := E
  intro hE res hk ls H locs hl hH hS
  subst hx
  exact lv_tableIn hE.1 hE.2.1 hd h1 h2 ho ht (kk hE res hk ls H locs hl hH hS)
theorem si_tsOut {ρ : Type} {E : EV} {M : MI} {out : FIN ρ} {cells slots pc : Nat} {lo : LL} {st : List Value} {h : HS} {k : Option ρ} {x : Int32} {dflt lo' hi : Int} {offs : Array Int} {len : Nat} (tgt : Nat) (hd : decode M.1 pc = .ok (.tableswitch dflt lo' hi offs, len)) (hx : x.toInt < lo' ∨ hi < x.toInt) (ht : (pc : Int) + dflt = (tgt : Int)) (kk : Sim E M out cells slots tgt lo st h k) : Sim E M out cells slots pc lo (.int x :: st) h k := by
  obtain ⟨p, l, e, R, s, m, args, below, meth, c, G, h0⟩ := E
  intro hE res hk ls H locs hl hH hS
  exact lv_tableOut hE.1 hE.2.1 hd hx ht (kk hE res hk ls H locs hl hH hS)
theorem si_lsw {ρ : Type} {E : EV} {M : MI} {out : FIN ρ} {cells slots pc : Nat} {lo : LL} {st : List Value} {h : HS} {k : Option ρ} {x : Int32} {dflt : Int} {ps : Array (Int × Int)} {len : Nat} {off : Int} (tgt : Nat) (hd : decode M.1 pc = .ok (.lookupswitch dflt ps, len)) (hp : (ps.toList.zip (ps.toList.drop 1)).all (fun (a, next) => a.1 < next.1) = true) (ho : Op.lookupswitch.offset ps.toList dflt x.toInt = off) (ht : (pc : Int) + off = (tgt : Int)) (kk : Sim E M out cells slots tgt lo st h k) : Sim E M out cells slots pc lo (.int x :: st) h k := by
  obtain ⟨p, l, e, R, s, m, args, below, meth, c, G, h0⟩ := E
  intro hE res hk ls H locs hl hH hS
  exact lv_lookup hE.1 hE.2.1 hd hp ho ht (kk hE res hk ls H locs hl hH hS)
theorem si_widen {ρ : Type} {E : EV} {M : MI} {out : FIN ρ} {cells slots pc : Nat} {lo : LL} {st : List Value} {h : HS} {k : Option ρ} (c' s' : Nat) (h1 : cells ≤ c') (h2 : slots ≤ s') (kk : Sim E M out c' s' pc lo st h k) : Sim E M out cells slots pc lo st h k := by
  obtain ⟨p, l, e, R, s, m, args, below, meth, c, G, h0⟩ := E
  intro hE res hk ls H locs hl hH hS
  exact W.widen h1 h2 (kk hE res hk ls H locs hl hH hS)
theorem si_lo {ρ : Type} {E : EV} {M : MI} {out : FIN ρ} {cells slots pc : Nat} {lo : LL} {st : List Value} {h : HS} {k : Option ρ} (lo' : LL) (hs : allL lo lo') (kk : Sim E M out cells slots pc lo' st h k) : Sim E M out cells slots pc lo st h k := by
  obtain ⟨p, l, e, R, s, m, args, below, meth, c, G, h0⟩ := E
  intro hE res hk ls H locs hl hH hS
  exact kk hE res hk ls H locs (lk_sub hl hs) hH hS
theorem si_iret {E : EV} {M : MI} {cells slots pc : Nat} {lo : LL} {h : HS} {x : Int32} (hd : decode M.1 pc = .ok (.ireturn, 1)) (hr : M.2.2.2.1 = some .int) (h1 : cells ≤ M.2.2.2.2.2.1) (h2 : slots ≤ M.2.2.2.2.2.2.1) : Sim E M (fin oI) cells slots pc lo [.int x] h (some (x, h)) := by
  obtain ⟨p, l, e, R, s, m, args, below, meth, c, G, h0⟩ := E
  intro hE res hk ls H locs hl hH hS
  cases hk
  refine W.widen h1 h2 ?_
  obtain ⟨e1, e2, e3, e4, e5, e6, e7, e8, e9, e10⟩ := hE
  exact W.iret e1 e2 (e5.trans hr) (fun t ht hW => ⟨rfl, by rw [ht]; exact hH, hS.1.F ht, hS.2.1, hS.2.2.1⟩) hS.1.2.2 hd e8
theorem si_lret {E : EV} {M : MI} {cells slots pc : Nat} {lo : LL} {h : HS} {x : Int64} (hd : decode M.1 pc = .ok (.lreturn, 1)) (hr : M.2.2.2.1 = some .long) (h1 : cells ≤ M.2.2.2.2.2.1) (h2 : slots ≤ M.2.2.2.2.2.2.1) : Sim E M (fin oL) cells slots pc lo [.long x] h (some (x, h)) := by
  obtain ⟨p, l, e, R, s, m, args, below, meth, c, G, h0⟩ := E
  intro hE res hk ls H locs hl hH hS
  cases hk
  refine W.widen h1 h2 ?_
  obtain ⟨e1, e2, e3, e4, e5, e6, e7, e8, e9, e10⟩ := hE
  exact W.lret e1 e2 (e5.trans hr) (fun t ht hW => ⟨rfl, by rw [ht]; exact hH, hS.1.F ht, hS.2.1, hS.2.2.1⟩) hS.1.2.2 hd e8
theorem si_zret {E : EV} {M : MI} {cells slots pc : Nat} {lo : LL} {h : HS} {x : Int32} {ty : FieldType} (hd : decode M.1 pc = .ok (.ireturn, 1)) (hr : M.2.2.2.1 = some ty) (hn : narrow ty (.int x) = .int x) (h1 : cells ≤ M.2.2.2.2.2.1) (h2 : slots ≤ M.2.2.2.2.2.2.1) : Sim E M (fin oI) cells slots pc lo [.int x] h (some (x, h)) := by
  obtain ⟨p, l, e, R, s, m, args, below, meth, c, G, h0⟩ := E
  intro hE res hk ls H locs hl hH hS
  cases hk
  refine W.widen h1 h2 ?_
  obtain ⟨e1, e2, e3, e4, e5, e6, e7, e8, e9, e10⟩ := hE
  exact W.zret e1 e2 (e5.trans hr) hn (fun t ht hW => ⟨rfl, by rw [ht]; exact hH, hS.1.F ht, hS.2.1, hS.2.2.1⟩) hS.1.2.2 hd e8
theorem si_bret {E : EV} {M : MI} {cells slots pc : Nat} {lo : LL} {h : HS} {x : Int32} (hd : decode M.1 pc = .ok (.ireturn, 1)) (hr : M.2.2.2.1 = some .boolean) (h1 : cells ≤ M.2.2.2.2.2.1) (h2 : slots ≤ M.2.2.2.2.2.2.1) : Sim E M (fin oI) cells slots pc lo [.int x] h (if x = 0 ∨ x = 1 then some (x, h) else none) := by
  refine si_ite (fun hc => ?_) (fun _ => si_none)
  exact si_zret hd hr (by rcases hc with rfl | rfl <;> rfl) h1 h2
theorem si_vret {E : EV} {M : MI} {cells slots pc : Nat} {lo : LL} {h : HS} (hd : decode M.1 pc = .ok (.return_, 1)) (hr : M.2.2.2.1 = none) (h1 : cells ≤ M.2.2.2.2.2.1) (h2 : slots ≤ M.2.2.2.2.2.2.1) : Sim E M (fin oV) cells slots pc lo [] h (some h) := by
  obtain ⟨p, l, e, R, s, m, args, below, meth, c, G, h0⟩ := E
  intro hE res hk ls H locs hl hH hS
  cases hk
  refine W.widen h1 h2 ?_
  obtain ⟨e1, e2, e3, e4, e5, e6, e7, e8, e9, e10⟩ := hE
  exact W.vret e1 e2 (e5.trans hr) (fun t ht hW => ⟨rfl, by rw [ht]; exact hH, hS.1.F ht, hS.2.1, hS.2.2.1⟩) hS.1.2.2 hd e8
theorem si_aret {E : EV} {M : MI} {cells slots pc : Nat} {lo : LL} {h : HS} {x : Option Nat} {rt : FieldType} (hd : decode M.1 pc = .ok (.areturn, 1)) (hr : M.2.2.2.1 = some rt) (hrt : (∃ n, rt = .object n) ∨ ∃ t, rt = .array t) (h1 : cells ≤ M.2.2.2.2.2.1) (h2 : slots ≤ M.2.2.2.2.2.2.1) : Sim E M (fin oR) cells slots pc lo [va_rf x] h (some (x, h)) := by
  obtain ⟨p, l, e, R, s, m, args, below, meth, c, G, h0⟩ := E
  intro hE res hk ls H locs hl hH hS
  cases hk
  refine W.widen h1 h2 ?_
  obtain ⟨e1, e2, e3, e4, e5, e6, e7, e8, e9, e10⟩ := hE
  exact W.aret e1 e2 (e5.trans hr) hrt (rf_or x) (fun t ht hW => ⟨rfl, by rw [ht]; exact hH, hS.1.F ht, hS.2.1, hS.2.2.1⟩) hS.1.2.2 hd e8
