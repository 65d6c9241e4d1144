def R_law : String := "PanelHouseLaw"
def lw_P (b : Addr) (xs : List Int32) (args : Array Value) (s : State) : Prop := args = #[.ref b] ∧ s.IntsAt b xs ∧ xs.length ≤ 3584 ∧ (Jvm.Cond.and given_1 narrow_1).before args s = true
def lw_Q (_ : Array Value) (s : State) (o : Outcome) (t : State) : Prop := o = .returned (some (.int 1)) ∧ Framed s o t [] 601024 7293034
def lw_Z (below : List Frame) (a : Array Value) (s : State) : State → Prop := fun t => ∃ o, t.status = .running ∧ Ended t below o ∧ lw_Q a s o t
/-- the law's own end, with 1 on the stack, nothing written that was there before, its room as the claim has it -/
theorem lw_ret {p : Program} {l : Launch} {e : Env} {s : State} {m : MethodId} {below : List Frame} {meth : Method} {c : Code} {b : Nat} (hx : p.tables.exec = Jvm.exec) (hb : c.code = code) (hr : meth.sig.returnType = ret) (hlocks : meth.locks = false) {pc : Nat} {H : Heap} {ls : Array Slot} (hdg : decode code pc = .ok (.ireturn, 1)) : W p l e room_1 s m #[Value.ref b] below meth c H [] 601024 7293034 (lw_Z below #[Value.ref b] s) (F0 m pc ls [.int 1]) := by
  intro T hT X
  obtain ⟨fs, hret, hrun, hended, hW, hframe⟩ := X.leave (v := some (.int 1)) (hlocks := hlocks) (fun h => by rw [hr] at h; cases h)
  have hmeth' : T.vm.method? m = some meth := X.method'
  refine ⟨T.setFrames fs, ?_, .returned (some (.int 1)), hrun, hended, rfl, ⟨_, rfl⟩, hW, hframe⟩
  jvm_step X.here [X.here.top, hx, hb, hdg, hmeth', hr, ret, narrow_b1]
  (try refine ⟨rfl, ?_⟩); (try refine ⟨rfl, ?_⟩)
  first | (intro acts; rw [hret _ acts rfl rfl rfl]) | rw [hret _ _ rfl rfl rfl]
  exact Steps.refl _
/-- what holds at the law's entry: the machine, the code, the tables' words (any of lw_tbl by 'hts w (by decide +kernel)'), the script of L ints xs at the cell b, what the Statement gives of the start (any of its parts by flat_of_before) -/
def lw_At (p : Program) (s : State) (m : MethodId) (meth : Method) (c : Code) (b L : Nat) (xs : Nat → Int32) : Prop :=
  p.tables.exec = Jvm.exec ∧ c.code = code ∧ meth.sig.returnType = ret ∧ c.maxLocals = 7 ∧ s.vm.findClass R_law = some m.cls ∧ (∀ w ∈ lw_tbl, w.before #[Value.ref b] s = true) ∧ va_X b L xs s s.heap ∧ b < s.heap.size ∧ meth.locks = false ∧ (Jvm.Cond.and given_1 narrow_1).before #[Value.ref b] s = true
/-! THE LAW'S OWN WALK, over two memories: the class's (with the row for long answers) and the reference's -/
theorem code_law : code = cL_law := rfl
abbrev EL : Type := Program × Launch × Env × State × MethodId × List Frame × Method × Code × GG × Nat × Nat × (Nat → Int32)
def LOk (E : EL) : Prop := match E with
  | (p, l, _, s, m, _, meth, c, G, b, L, xs) => lw_At p s m meth c b L xs ∧ KW G s ∧ gH G = s.heap ∧ l.stackTraces = false ∧ L ≤ 3584
def DJ (hx hm : HS) : Prop := ∀ a, WrK (kd hx a) → WrK (kd hm a) → False
def SimL (E : EL) (cells slots pc : Nat) (lo : LL) (st : List Value) (hx hm : HS) : Prop := match E with
  | (p, l, e, s, m, below, meth, c, G, b, L, xs) => LOk (p, l, e, s, m, below, meth, c, G, b, L, xs) → ∀ ls H locs, lv_has ls 7 (toV lo) → hOk G hx H → hOk G hm H → DJ hx hm → va_S (AO G) s.heap H locs →
      W p l e room_1 s m #[Value.ref b] below meth c H locs cells slots (lw_Z below #[Value.ref b] s) (F0 m pc ls st)
theorem SimL.swap {E : EL} {cells slots pc : Nat} {lo : LL} {st : List Value} {hx hm : HS} (h : SimL E cells slots pc lo st hx hm) : SimL E cells slots pc lo st hm hx := by
  obtain ⟨p, l, e, s, m, below, meth, c, G, b, L, xs⟩ := E
  exact fun hE ls H locs hl h1 h2 h3 h4 => h hE ls H locs hl h2 h1 (fun a x y => h3 a y x) h4
def LE (p : Program) (s : State) (m : MethodId) (meth : Method) (c : Code) (b : Nat) : Prop := p.tables.exec = Jvm.exec ∧ c.code = cL_law ∧ c.maxLocals = 7 ∧ s.vm.findClass RL = some m.cls ∧ meth.sig.returnType = ret ∧ meth.locks = false ∧ (∀ w ∈ TBL, w.before #[Value.ref b] s = true)
theorem LOk.le {p : Program} {l : Launch} {e : Env} {s : State} {m : MethodId} {below : List Frame} {meth : Method} {c : Code} {G : GG} {b L : Nat} {xs : Nat → Int32} (h : LOk (p, l, e, s, m, below, meth, c, G, b, L, xs)) : LE p s m meth c b := by
  obtain ⟨⟨a1, a2, a3, a4, a5, a6, a7, a8, a9, -⟩, -⟩ := h
  exact ⟨a1, a2.trans code_law, a4, a5, a3, a9, fun w hw => a6 w (List.mem_filter.mp hw).1⟩
theorem hOk_shift {G : GG} {h : HS} {H H1 : Heap} (hH : hOk G h H) (hz : H.size ≤ H1.size) (hq : ∀ q, q < H.size → (WrK (kd h q) ∨ q < (gH G).size) → H1[q]? = H[q]?) : hOk G (wz h H1.size) H1 := by
  have h1 := hH.1
  have h5 := hH.2.2.2.2.1
  refine ⟨rfl, fun a ha => ?_, fun a ha => hH.2.2.1 a ha, fun a ha => ?_, ?_, hH.2.2.2.2.2⟩
  · obtain ⟨g1, g2⟩ := hH.2.1 a ha
    have hlt : a < H.size := by rw [h1]; exact g1
    refine ⟨Nat.lt_of_lt_of_le hlt hz, ?_⟩
    by_cases hw : kd h a < 300
    · exact g2.to rfl (fun _ => rfl) (fun _ => rfl) rfl rfl rfl rfl (hq a hlt (Or.inl ⟨ha, hw⟩))
    · obtain ⟨c1, c2, c3, c4, c5, c6, c7⟩ := g2
      refine ⟨fun n h2 h3 => ?_, fun h2 => ?_, fun h2 => ?_, fun h2 => ?_, c5, c6, c7⟩
      · exact absurd (show kd h a < 300 by have : kd h a = n + 1 := h2; omega) hw
      · have h2' : kI (kd h a) = true := h2
        simp only [kI, Bool.or_eq_true, beq_iff_eq] at h2'; omega
      · have h2' : kd h a = 204 := h2
        omega
      · have h2' : kR (kd h a) = true := h2
        simp only [kR, Bool.or_eq_true, beq_iff_eq] at h2'; omega
  · rw [hq a (by omega) (Or.inr ha)]; exact hH.2.2.2.1 a ha
  · show (gH G).size ≤ H1.size
    omega
theorem sl_iconst {E : EL} {cells slots pc : Nat} {lo : LL} {st : List Value} {hx hm : HS} {n : Int} {v : Int32} (hd : decode cL_law pc = .ok (.iconst n, 1)) (hv : Int32.ofInt n = v) (kk : SimL E cells slots (pc + 1) lo (.int v :: st) hx hm) : SimL E cells slots pc lo (st) hx hm := by
  obtain ⟨p, l, e, s, m, below, meth, c, G, b, L, xs⟩ := E
  intro hE ls H locs hl h1 h2 h3 h4
  obtain ⟨e1, e2, e3, e4, e5, e6, e7⟩ := LOk.le hE
  exact lv_iconst e1 e2 hd hv (kk hE ls H locs hl h1 h2 h3 h4)
theorem sl_bipush {E : EL} {cells slots pc : Nat} {lo : LL} {st : List Value} {hx hm : HS} {n : Int} {v : Int32} (hd : decode cL_law pc = .ok (.bipush n, 2)) (hv : (Int8.ofInt n).toInt32 = v) (kk : SimL E cells slots (pc + 2) lo (.int v :: st) hx hm) : SimL E cells slots pc lo (st) hx hm := by
  obtain ⟨p, l, e, s, m, below, meth, c, G, b, L, xs⟩ := E
  intro hE ls H locs hl h1 h2 h3 h4
  obtain ⟨e1, e2, e3, e4, e5, e6, e7⟩ := LOk.le hE
  exact lv_bipush e1 e2 hd hv (kk hE ls H locs hl h1 h2 h3 h4)
theorem sl_iload {E : EL} {cells slots pc : Nat} {lo : LL} {st : List Value} {hx hm : HS} (i : Nat) {x : Int32} (hd : decode cL_law pc = .ok (.iload i, 2)) (hi : lkL lo i = some (lvI x)) (kk : SimL E cells slots (pc + 2) lo (.int x :: st) hx hm) : SimL E cells slots pc lo (st) hx hm := by
  obtain ⟨p, l, e, s, m, below, meth, c, G, b, L, xs⟩ := E
  intro hE ls H locs hl h1 h2 h3 h4
  obtain ⟨e1, e2, e3, e4, e5, e6, e7⟩ := LOk.le hE
  exact lv_iload e1 e2 hd (lk_at hl hi) (kk hE ls H locs hl h1 h2 h3 h4)
theorem sl_aload_n {E : EL} {cells slots pc : Nat} {lo : LL} {st : List Value} {hx hm : HS} (i : Nat) {j : Fin 4} {x : Nat} (hd : decode cL_law pc = .ok (.aload_n j, 1)) (hj : (j : Nat) = i) (hi : lkL lo i = some (lvR (some x))) (kk : SimL E cells slots (pc + 1) lo (.ref x :: st) hx hm) : SimL E cells slots pc lo (st) hx hm := by
  obtain ⟨p, l, e, s, m, below, meth, c, G, b, L, xs⟩ := E
  intro hE ls H locs hl h1 h2 h3 h4
  obtain ⟨e1, e2, e3, e4, e5, e6, e7⟩ := LOk.le hE
  exact lv_aload_n e1 e2 hd hj (lk_at hl hi) (kk hE ls H locs hl h1 h2 h3 h4)
theorem sl_istore {E : EL} {cells slots pc : Nat} {lo : LL} {st : List Value} {hx hm : HS} (i : Nat) {x : Int32} (hd : decode cL_law pc = .ok (.istore i, 2)) (hn : i < 7) (kk : SimL E cells slots (pc + 2) (stL lo i (lvI x)) st hx hm) : SimL E cells slots pc lo (.int x :: st) hx hm := by
  obtain ⟨p, l, e, s, m, below, meth, c, G, b, L, xs⟩ := E
  intro hE ls H locs hl h1 h2 h3 h4
  obtain ⟨e1, e2, e3, e4, e5, e6, e7⟩ := LOk.le hE
  exact lv_istore e1 e2 hd hl hn (stL_eq lo i (lvI x)) (fun ls' hl' => kk hE ls' H locs hl' h1 h2 h3 h4)
theorem sl_astore_n {E : EL} {cells slots pc : Nat} {lo : LL} {st : List Value} {hx hm : HS} (i : Nat) {j : Fin 4} {x : Nat} (hd : decode cL_law pc = .ok (.astore_n j, 1)) (hj : (j : Nat) = i) (hn : i < 7) (kk : SimL E cells slots (pc + 1) (stL lo i (lvR (some x))) st hx hm) : SimL E cells slots pc lo (.ref x :: st) hx hm := by
  obtain ⟨p, l, e, s, m, below, meth, c, G, b, L, xs⟩ := E
  intro hE ls H locs hl h1 h2 h3 h4
  obtain ⟨e1, e2, e3, e4, e5, e6, e7⟩ := LOk.le hE
  exact lv_astore_n e1 e2 hd hj hl hn (stL_eq lo i (lvR (some x))) (fun ls' hl' => kk hE ls' H locs hl' h1 h2 h3 h4)
theorem sl_iinc {E : EL} {cells slots pc : Nat} {lo : LL} {st : List Value} {hx hm : HS} (i : Nat) {n : Int} {x : Int32} (v : Int32) (hd : decode cL_law pc = .ok (.iinc i n, 3)) (hi : lkL lo i = some (lvI x)) (hv : Int32.ofInt n = v) (hn : i < 7) (kk : SimL E cells slots (pc + 3) (stL lo i (lvI (x + v))) st hx hm) : SimL E cells slots pc lo st hx hm := by
  obtain ⟨p, l, e, s, m, below, meth, c, G, b, L, xs⟩ := E
  intro hE ls H locs hl h1 h2 h3 h4
  obtain ⟨e1, e2, e3, e4, e5, e6, e7⟩ := LOk.le hE
  obtain ⟨q, hq⟩ := lk_pl hi
  exact lv_iinc e1 e2 hd hl hq (by rw [hv]) hn (stL_eq lo i (lvI (x + v))) (fun ls' hl' => kk hE ls' H locs hl' h1 h2 h3 h4)
theorem sl_iadd {E : EL} {cells slots pc : Nat} {lo : LL} {st : List Value} {hx hm : HS} {x y : Int32} (hd : decode cL_law pc = .ok (.iadd, 1)) (kk : SimL E cells slots (pc + 1) lo (.int (x + y) :: st) hx hm) : SimL E cells slots pc lo (.int y :: .int x :: st) hx hm := by
  obtain ⟨p, l, e, s, m, below, meth, c, G, b, L, xs⟩ := E
  intro hE ls H locs hl h1 h2 h3 h4
  obtain ⟨e1, e2, e3, e4, e5, e6, e7⟩ := LOk.le hE
  exact lv_iadd e1 e2 hd (kk hE ls H locs hl h1 h2 h3 h4)
theorem sl_isub {E : EL} {cells slots pc : Nat} {lo : LL} {st : List Value} {hx hm : HS} {x y : Int32} (hd : decode cL_law pc = .ok (.isub, 1)) (kk : SimL E cells slots (pc + 1) lo (.int (x - y) :: st) hx hm) : SimL E cells slots pc lo (.int y :: .int x :: st) hx hm := by
  obtain ⟨p, l, e, s, m, below, meth, c, G, b, L, xs⟩ := E
  intro hE ls H locs hl h1 h2 h3 h4
  obtain ⟨e1, e2, e3, e4, e5, e6, e7⟩ := LOk.le hE
  exact lv_isub e1 e2 hd (kk hE ls H locs hl h1 h2 h3 h4)
theorem sl_iand {E : EL} {cells slots pc : Nat} {lo : LL} {st : List Value} {hx hm : HS} {x y : Int32} (hd : decode cL_law pc = .ok (.iand, 1)) (kk : SimL E cells slots (pc + 1) lo (.int (x &&& y) :: st) hx hm) : SimL E cells slots pc lo (.int y :: .int x :: st) hx hm := by
  obtain ⟨p, l, e, s, m, below, meth, c, G, b, L, xs⟩ := E
  intro hE ls H locs hl h1 h2 h3 h4
  obtain ⟨e1, e2, e3, e4, e5, e6, e7⟩ := LOk.le hE
  exact lv_iand e1 e2 hd (kk hE ls H locs hl h1 h2 h3 h4)
theorem sl_land {E : EL} {cells slots pc : Nat} {lo : LL} {st : List Value} {hx hm : HS} {x y : Int64} (hd : decode cL_law pc = .ok (.land, 1)) (kk : SimL E cells slots (pc + 1) lo (.long (x &&& y) :: st) hx hm) : SimL E cells slots pc lo (.long y :: .long x :: st) hx hm := by
  obtain ⟨p, l, e, s, m, below, meth, c, G, b, L, xs⟩ := E
  intro hE ls H locs hl h1 h2 h3 h4
  obtain ⟨e1, e2, e3, e4, e5, e6, e7⟩ := LOk.le hE
  exact lv_land e1 e2 hd (kk hE ls H locs hl h1 h2 h3 h4)
theorem sl_lor {E : EL} {cells slots pc : Nat} {lo : LL} {st : List Value} {hx hm : HS} {x y : Int64} (hd : decode cL_law pc = .ok (.lor, 1)) (kk : SimL E cells slots (pc + 1) lo (.long (x ||| y) :: st) hx hm) : SimL E cells slots pc lo (.long y :: .long x :: st) hx hm := by
  obtain ⟨p, l, e, s, m, below, meth, c, G, b, L, xs⟩ := E
  intro hE ls H locs hl h1 h2 h3 h4
  obtain ⟨e1, e2, e3, e4, e5, e6, e7⟩ := LOk.le hE
  exact lv_lor e1 e2 hd (kk hE ls H locs hl h1 h2 h3 h4)
theorem sl_i2l {E : EL} {cells slots pc : Nat} {lo : LL} {st : List Value} {hx hm : HS} {x : Int32} (hd : decode cL_law pc = .ok (.i2l, 1)) (kk : SimL E cells slots (pc + 1) lo (.long x.toInt64 :: st) hx hm) : SimL E cells slots pc lo (.int x :: st) hx hm := by
  obtain ⟨p, l, e, s, m, below, meth, c, G, b, L, xs⟩ := E
  intro hE ls H locs hl h1 h2 h3 h4
  obtain ⟨e1, e2, e3, e4, e5, e6, e7⟩ := LOk.le hE
  exact lv_i2l e1 e2 hd rfl (kk hE ls H locs hl h1 h2 h3 h4)
theorem sl_lshl {E : EL} {cells slots pc : Nat} {lo : LL} {st : List Value} {hx hm : HS} {x : Int64} {y : Int32} (hd : decode cL_law pc = .ok (.lshl, 1)) (kk : SimL E cells slots (pc + 1) lo (.long (lshl x y) :: st) hx hm) : SimL E cells slots pc lo (.int y :: .long x :: st) hx hm := by
  obtain ⟨p, l, e, s, m, below, meth, c, G, b, L, xs⟩ := E
  intro hE ls H locs hl h1 h2 h3 h4
  obtain ⟨e1, e2, e3, e4, e5, e6, e7⟩ := LOk.le hE
  exact lv_lshl e1 e2 hd rfl (kk hE ls H locs hl h1 h2 h3 h4)
theorem sl_dup {E : EL} {cells slots pc : Nat} {lo : LL} {st : List Value} {hx hm : HS} {v : Nat} (hd : decode cL_law pc = .ok (.dup, 1)) (kk : SimL E cells slots (pc + 1) lo (.ref v :: .ref v :: st) hx hm) : SimL E cells slots pc lo (.ref v :: st) hx hm := by
  obtain ⟨p, l, e, s, m, below, meth, c, G, b, L, xs⟩ := E
  intro hE ls H locs hl h1 h2 h3 h4
  obtain ⟨e1, e2, e3, e4, e5, e6, e7⟩ := LOk.le hE
  exact lv_dup e1 e2 hd rfl (kk hE ls H locs hl h1 h2 h3 h4)
theorem sl_lcmp {E : EL} {cells slots pc : Nat} {lo : LL} {st : List Value} {hx hm : HS} {x y : Int64} (hd : decode cL_law pc = .ok (.lcmp, 1)) (kk : SimL E cells slots (pc + 1) lo (.int (lg_cmp x y) :: st) hx hm) : SimL E cells slots pc lo (.long y :: .long x :: st) hx hm := by
  obtain ⟨p, l, e, s, m, below, meth, c, G, b, L, xs⟩ := E
  intro hE ls H locs hl h1 h2 h3 h4
  obtain ⟨e1, e2, e3, e4, e5, e6, e7⟩ := LOk.le hE
  exact W.lcmp e1 e2 hd (kk hE ls H locs hl h1 h2 h3 h4)
theorem sl_ldc2 {E : EL} {cells slots pc : Nat} {lo : LL} {st : List Value} {hx hm : HS} {index : Nat} {v : Int64} (hd : decode cL_law pc = .ok (.ldc2_w index, 3)) (hw : Cond.constantLong RL index v ∈ TBL) (kk : SimL E cells slots (pc + 3) lo (.long v :: st) hx hm) : SimL E cells slots pc lo st hx hm := by
  obtain ⟨p, l, e, s, m, below, meth, c, G, b, L, xs⟩ := E
  intro hE ls H locs hl h1 h2 h3 h4
  obtain ⟨e1, e2, e3, e4, e5, e6, e7⟩ := LOk.le hE
  exact lv_ldc2 e1 e2 e4 (e7 _ hw) hd (kk hE ls H locs hl h1 h2 h3 h4)
theorem sl_if_eq {E : EL} {cells slots pc : Nat} {lo : LL} {st : List Value} {hx hm : HS} {x : Int32} {off : Int} (tgt : Nat) (hd : decode cL_law pc = .ok (.ifCond .eq off, 3)) (ht : (pc : Int) + off = (tgt : Int)) (kt : (x = 0) → SimL E cells slots tgt lo st hx hm) (kf : ¬ (x = 0) → SimL E cells slots (pc + 3) lo st hx hm) : SimL E cells slots pc lo (.int x :: st) hx hm := by
  obtain ⟨p, l, e, s, m, below, meth, c, G, b, L, xs⟩ := E
  intro hE ls H locs hl h1 h2 h3 h4
  obtain ⟨e1, e2, e3, e4, e5, e6, e7⟩ := LOk.le hE
  exact lv_if_eq e1 e2 hd ht (fun hc => kt hc hE ls H locs hl h1 h2 h3 h4) (fun hc => kf hc hE ls H locs hl h1 h2 h3 h4)
theorem sl_if_ne {E : EL} {cells slots pc : Nat} {lo : LL} {st : List Value} {hx hm : HS} {x : Int32} {off : Int} (tgt : Nat) (hd : decode cL_law pc = .ok (.ifCond .ne off, 3)) (ht : (pc : Int) + off = (tgt : Int)) (kt : ¬ (x = 0) → SimL E cells slots tgt lo st hx hm) (kf : (x = 0) → SimL E cells slots (pc + 3) lo st hx hm) : SimL E cells slots pc lo (.int x :: st) hx hm := by
  obtain ⟨p, l, e, s, m, below, meth, c, G, b, L, xs⟩ := E
  intro hE ls H locs hl h1 h2 h3 h4
  obtain ⟨e1, e2, e3, e4, e5, e6, e7⟩ := LOk.le hE
  exact lv_if_ne e1 e2 hd ht (fun hc => kt hc hE ls H locs hl h1 h2 h3 h4) (fun hc => kf hc hE ls H locs hl h1 h2 h3 h4)
theorem sl_icmp_eq {E : EL} {cells slots pc : Nat} {lo : LL} {st : List Value} {hx hm : HS} {x y : Int32} {off : Int} (tgt : Nat) (hd : decode cL_law pc = .ok (.if_icmp .eq off, 3)) (ht : (pc : Int) + off = (tgt : Int)) (kt : (x = y) → SimL E cells slots tgt lo st hx hm) (kf : ¬ (x = y) → SimL E cells slots (pc + 3) lo st hx hm) : SimL E cells slots pc lo (.int y :: .int x :: st) hx hm := by
  obtain ⟨p, l, e, s, m, below, meth, c, G, b, L, xs⟩ := E
  intro hE ls H locs hl h1 h2 h3 h4
  obtain ⟨e1, e2, e3, e4, e5, e6, e7⟩ := LOk.le hE
  exact lv_icmp_eq e1 e2 hd ht (fun hc => kt hc hE ls H locs hl h1 h2 h3 h4) (fun hc => kf hc hE ls H locs hl h1 h2 h3 h4)
theorem sl_icmp_gt {E : EL} {cells slots pc : Nat} {lo : LL} {st : List Value} {hx hm : HS} {x y : Int32} {off : Int} (tgt : Nat) (hd : decode cL_law pc = .ok (.if_icmp .gt off, 3)) (ht : (pc : Int) + off = (tgt : Int)) (kt : (y < x) → SimL E cells slots tgt lo st hx hm) (kf : ¬ (y < x) → SimL E cells slots (pc + 3) lo st hx hm) : SimL E cells slots pc lo (.int y :: .int x :: st) hx hm := by
  obtain ⟨p, l, e, s, m, below, meth, c, G, b, L, xs⟩ := E
  intro hE ls H locs hl h1 h2 h3 h4
  obtain ⟨e1, e2, e3, e4, e5, e6, e7⟩ := LOk.le hE
  exact lv_icmp_gt e1 e2 hd ht (fun hc => kt hc hE ls H locs hl h1 h2 h3 h4) (fun hc => kf hc hE ls H locs hl h1 h2 h3 h4)
theorem sl_goto {E : EL} {cells slots pc : Nat} {lo : LL} {st : List Value} {hx hm : HS} {off : Int} (tgt : Nat) (hd : decode cL_law pc = .ok (.goto off, 3)) (ht : (pc : Int) + off = (tgt : Int)) (kk : SimL E cells slots tgt lo st hx hm) : SimL E cells slots pc lo st hx hm := by
  obtain ⟨p, l, e, s, m, below, meth, c, G, b, L, xs⟩ := E
  intro hE ls H locs hl h1 h2 h3 h4
  obtain ⟨e1, e2, e3, e4, e5, e6, e7⟩ := LOk.le hE
  exact lv_goto e1 e2 hd ht (kk hE ls H locs hl h1 h2 h3 h4)
theorem sl_tsIn {E : EL} {cells slots pc : Nat} {lo : LL} {st : List Value} {hx hm : HS} {x : Int32} (v : Int32) {dflt lo' hi : Int} {offs : Array Int} {len : Nat} {off : Int} (tgt : Nat) (hx' : x = v) (hd : decode cL_law pc = .ok (.tableswitch dflt lo' hi offs, len)) (hh1 : ¬ v.toInt < lo') (hh2 : ¬ hi < v.toInt) (ho : offs[(v.toInt - lo').toNat]? = some off) (ht : (pc : Int) + off = (tgt : Int)) (kk : SimL E cells slots tgt lo st hx hm) : SimL E cells slots pc lo (.int x :: st) hx hm := by
  obtain ⟨p, l, e, s, m, below, meth, c, G, b, L, xs⟩ := E
  intro hE ls H locs hl h1 h2 h3 h4
  obtain ⟨e1, e2, e3, e4, e5, e6, e7⟩ := LOk.le hE
  subst hx'
  exact lv_tableIn e1 e2 hd hh1 hh2 ho ht (kk hE ls H locs hl h1 h2 h3 h4)
theorem sl_tsOut {E : EL} {cells slots pc : Nat} {lo : LL} {st : List Value} {hx hm : HS} {x : Int32} {dflt lo' hi : Int} {offs : Array Int} {len : Nat} (tgt : Nat) (hd : decode cL_law pc = .ok (.tableswitch dflt lo' hi offs, len)) (hx' : x.toInt < lo' ∨ hi < x.toInt) (ht : (pc : Int) + dflt = (tgt : Int)) (kk : SimL E cells slots tgt lo st hx hm) : SimL E cells slots pc lo (.int x :: st) hx hm := by
  obtain ⟨p, l, e, s, m, below, meth, c, G, b, L, xs⟩ := E
  intro hE ls H locs hl h1 h2 h3 h4
  obtain ⟨e1, e2, e3, e4, e5, e6, e7⟩ := LOk.le hE
  exact lv_tableOut e1 e2 hd hx' ht (kk hE ls H locs hl h1 h2 h3 h4)
theorem sl_widen {E : EL} {cells slots pc : Nat} {lo : LL} {st : List Value} {hx hm : HS} (c' s' : Nat) (hh1 : cells ≤ c') (hh2 : slots ≤ s') (kk : SimL E c' s' pc lo st hx hm) : SimL E cells slots pc lo st hx hm := by
  obtain ⟨p, l, e, s, m, below, meth, c, G, b, L, xs⟩ := E
  intro hE ls H locs hl h1 h2 h3 h4
  obtain ⟨e1, e2, e3, e4, e5, e6, e7⟩ := LOk.le hE
  exact W.widen hh1 hh2 (kk hE ls H locs hl h1 h2 h3 h4)
theorem sl_lo {E : EL} {cells slots pc : Nat} {lo : LL} {st : List Value} {hx hm : HS} (lo' : LL) (hs : allL lo lo') (kk : SimL E cells slots pc lo' st hx hm) : SimL E cells slots pc lo st hx hm := by
  obtain ⟨p, l, e, s, m, below, meth, c, G, b, L, xs⟩ := E
  intro hE ls H locs hl h1 h2 h3 h4
  obtain ⟨e1, e2, e3, e4, e5, e6, e7⟩ := LOk.le hE
  exact kk hE ls H locs (lk_sub hl hs) h1 h2 h3 h4
def bE (E : EL) : Nat := E.2.2.2.2.2.2.2.2.2.1
def LE' (E : EL) : Nat := E.2.2.2.2.2.2.2.2.2.2.1
def xE (E : EL) : Nat → Int32 := E.2.2.2.2.2.2.2.2.2.2.2
def lEL (E : EL) : Launch := E.2.1
def gEL (E : EL) : GG := E.2.2.2.2.2.2.2.2.1
theorem not_ao {G : GG} {b : Nat} {H : Heap} (h : gH G = H) (hb : b < H.size) : ¬ AO G b := by
  subst h; exact Nat.not_le.mpr hb
theorem sl_sld {E : EL} {cells slots pc : Nat} {lo : LL} {st : List Value} {hx hm : HS} {i : Int32} (hd : decode cL_law pc = .ok (.iaload, 1)) (hin : vp_in i (LE' E)) (kk : SimL E cells slots (pc + 1) lo (.int (xE E i.toNatClampNeg) :: st) hx hm) : SimL E cells slots pc lo (.int i :: .ref (bE E) :: st) hx hm := by
  obtain ⟨p, l, e, s, m, below, meth, c, G, b, L, xs⟩ := E
  intro hE ls H locs hl h1 h2 h3 h4
  obtain ⟨e1, e2, e3, e4, e5, e6, e7⟩ := LOk.le hE
  exact va_sld e1 e2 hE.1.2.2.2.2.2.2.1 hE.1.2.2.2.2.2.2.2.1 (not_ao hE.2.2.1 hE.1.2.2.2.2.2.2.2.1) h4 hin hd (kk hE ls H locs hl h1 h2 h3 h4)
theorem sl_slen {E : EL} {cells slots pc : Nat} {lo : LL} {st : List Value} {hx hm : HS} (hd : decode cL_law pc = .ok (.arraylength, 1)) (kk : SimL E cells slots (pc + 1) lo (.int (nI (LE' E)) :: st) hx hm) : SimL E cells slots pc lo (.ref (bE E) :: st) hx hm := by
  obtain ⟨p, l, e, s, m, below, meth, c, G, b, L, xs⟩ := E
  intro hE ls H locs hl h1 h2 h3 h4
  obtain ⟨e1, e2, e3, e4, e5, e6, e7⟩ := LOk.le hE
  exact va_slen e1 e2 hE.1.2.2.2.2.2.2.1 hE.1.2.2.2.2.2.2.2.1 (not_ao hE.2.2.1 hE.1.2.2.2.2.2.2.2.1) h4 hd (kk hE ls H locs hl h1 h2 h3 h4)
theorem sl_lald {E : EL} {cells slots pc : Nat} {lo : LL} {st : List Value} {hx hm : HS} {a : Nat} {i : Int32} (hd : decode cL_law pc = .ok (.laload, 1)) (hk : kd hx a = 204) (hi : inB i (ln hx a) = true) (kk : SimL E cells slots (pc + 1) lo (.long (al hx a i.toNatClampNeg) :: st) hx hm) : SimL E cells slots pc lo (.int i :: .ref a :: st) hx hm := by
  obtain ⟨p, l, e, s, m, below, meth, c, G, b, L, xs⟩ := E
  intro hE ls H locs hl h1 h2 h3 h4
  obtain ⟨e1, e2, e3, e4, e5, e6, e7⟩ := LOk.le hE
  have c2 := (h1.2.1 a (by omega)).2.2.2.1 hk
  have hin := inB_in hi
  have hlt : i.toNatClampNeg < ln hx a := Nat.not_le.mp fun q => hin (Or.inr q)
  exact W.lald e1 e2 c2 ((arr_of hE.2.1 (k := 204) (by simp [arT, tyK])).1 _ _) (fun q => by cases q) (by rw [arrV_size]; exact hin) (by rw [arrV_read _ _ hlt]) rfl rfl hd (kk hE ls H locs hl h1 h2 h3 h4)
theorem sl_end {E : EL} {cells slots pc : Nat} {lo : LL} {st : List Value} {hx hm : HS} (hd : decode cL_law pc = .ok (.ireturn, 1)) (hc : cells ≤ 601024) (hs : slots ≤ 7293034) : SimL E cells slots pc lo [.int 1] hx hm := by
  obtain ⟨p, l, e, s, m, below, meth, c, G, b, L, xs⟩ := E
  intro hE ls H locs hl h1 h2 h3 h4
  obtain ⟨e1, e2, e3, e4, e5, e6, e7⟩ := LOk.le hE
  refine W.widen hc hs (va_forget (fun q hq => ?_) (lw_ret e1 (e2.trans code_law.symm) e5 e6 hd))
  have h5 := h4.2.2 q hq
  rw [← hE.2.2.1]; exact h5
/-- behind a call over the first memory -/
theorem djA {hx hm hx' : HS} (h3 : DJ hx hm) (hz : ∀ a, kd hm a ≠ 0 → a < sz hx) (hw : ∀ q, WrK (kd hx' q) → AA hx q) : DJ hx' hm := fun a x y => by
  rcases hw a x with z | z
  · exact h3 a z y
  · exact absurd (hz a y.1) (Nat.not_lt.mpr z)
theorem shA {G : GG} {hx hm : HS} {H H1 : Heap} {st₀ t : State} (h1 : hOk G hx H) (h2 : hOk G hm H) (h3 : DJ hx hm) (e0 : st₀.heap = H) (e1 : H1 = t.heap) (hF : va_F (AA hx) st₀ t) : hOk G (wz hm H1.size) H1 := by
  subst e1
  obtain ⟨f1, f2⟩ := hF
  rw [e0] at f1 f2
  refine hOk_shift h2 f1 (fun q hq hw => f2 q hq (fun z => ?_))
  rcases z with z | z
  · rcases hw with w | w
    · exact h3 q z w
    · exact absurd (h1.2.2.1 q z) (Nat.not_le.mpr w)
  · have := h1.1
    omega
theorem saA {G : GG} {s : State} {hx : HS} {H H1 : Heap} {locs L : List Loc} {st₀ t : State} (h1 : hOk G hx H) (hg : gH G = s.heap) (h4 : va_S (AO G) s.heap H locs) (e0 : st₀.heap = H) (e1 : H1 = t.heap) (hF : va_F (AA hx) st₀ t) (hL : ∀ q ∈ L, AA hx q.base) : va_S (AO G) s.heap H1 (locs ++ L) := by
  subst e1
  obtain ⟨f1, f2⟩ := hF
  rw [e0] at f1 f2
  have hAA : ∀ q, AA hx q → AO G q := fun q hq => by
    rcases hq with hq | hq
    · exact h1.2.2.1 q hq
    · exact Nat.le_trans h1.2.2.2.2.1 hq
  refine ⟨Nat.le_trans h4.1 f1, fun q x y => ?_, fun q hq => ?_⟩
  · rw [f2 q (Nat.lt_of_lt_of_le x h4.1) (fun z => y (hAA q z))]; exact h4.2.1 q x y
  · rcases List.mem_append.mp hq with h | h
    · exact h4.2.2 q h
    · exact hAA _ (hL q h)
def LF1 (M' : MI) (cells slots : Nat) : Prop := M'.2.2.2.2.1 + 1 ≤ 2048 ∧ 8 + (M'.2.1 + 11) + 40 * M'.2.2.2.2.1 ≤ 84000 ∧ cells + M'.2.2.2.2.2.1 ≤ 601024 ∧ slots + M'.2.2.2.2.2.2.1 ≤ 7293034
theorem sl_back {p : Program} {l : Launch} {e : Env} {s : State} {m : MethodId} {below : List Frame} {meth : Method} {c : Code} {G : GG} {b : Nat} {Q : State → Prop} {ls : Array Slot} {cells slots pc : Nat} {H : Heap} {locs : List Loc} {st0 rest : List Value} {arr : Array Value} {v : Option Value} {mc ms : Nat} {hx hm : HS} {o : Outcome × HS} (hr : va_Run p l e room_1 s m #[Value.ref b] below meth c H locs cells slots mc ms (F0 m pc ls st0) rest (QR G hx o arr) (AA hx)) (ho : o.1 = .returned v) (hg : gH G = s.heap) (h1 : hOk G hx H) (h2 : hOk G hm H) (h3 : DJ hx hm) (h4 : va_S (AO G) s.heap H locs)
    (kk : ∀ (H1 : Heap) (locs1 : List Loc), hOk G o.2 H1 → hOk G (wz hm (sz o.2)) H1 → DJ o.2 (wz hm (sz o.2)) → va_S (AO G) s.heap H1 locs1 → W p l e room_1 s m #[Value.ref b] below meth c H1 locs1 (cells + mc) (slots + ms) Q (F0 m (pc + 3) ls (v.toList ++ rest))) : W p l e room_1 s m #[Value.ref b] below meth c H locs cells slots Q (F0 m pc ls st0) := by
  intro T hT X
  obtain ⟨v', st₀, t, T', L, h00, X', hL, e1, e2, ⟨hv, hOk', hF, hw, hszz⟩, st⟩ := hr T hT X
  rw [ho] at hv
  cases hv
  have hz1 : T'.heap.size = sz o.2 := by rw [e1]; exact hOk'.1
  have hA := shA h1 h2 h3 h00 e1 hF
  rw [hz1] at hA
  obtain ⟨t2, a1, b1⟩ := kk T'.heap (locs ++ L) (by rw [e1]; exact hOk') hA (djA (hm := hm) h3 (fun a ha => by rw [← h1.1, h2.1]; exact (h2.2.1 a ha).1) hw) (saA h1 hg h4 h00 e1 hF hL) T' rfl X'
  exact ⟨t2, st t2 a1, b1⟩
theorem sl_cv {E : EL} {cells slots pc : Nat} {lo : LL} {st : List Value} {hx hm : HS} {M' : MI} {n index : Nat} {y : MethodName} {rest : List Value} {β : Type} {out' : β → Outcome × HS} {q : β} {v : Option Value} {a : Nat} (cn : Nat) (av : List LV) (hd : decode cL_law pc = .ok (.invokevirtual index, 3)) (hm' : MC y M' n) (hl' : Cond.methodLink RL index y ∈ TBL) (hin : Cond.instanceMethod y ∈ TBL) {rr : vw_C} (hrr : vwCl[cn]? = some rr) (hse : Cond.selects rr.1 y y ∈ TBL) (hc : cn < 100) (hn : av.length = n) (hf : LF1 M' cells slots) (hr : rest.length ≤ 4) (hk : kd hx a = cn + 1) (hC : Ct (lEL E) y M' (gEL E) (lvR (some a) :: av) hx (out' q)) (hvo : (out' q).1 = .returned v) (hs : st = (av.map lvV).reverse ++ .ref a :: rest)
    (k1 : SimL E (cells + M'.2.2.2.2.2.1) (slots + M'.2.2.2.2.2.2.1) (pc + 3) lo (v.toList ++ rest) (out' q).2 (wz hm (sz (out' q).2))) : SimL E cells slots pc lo st hx hm := by
  obtain ⟨p, l, e, s, m, below, meth, c, G, b, L, xs⟩ := E
  intro hE ls H locs hl h1 h2 h3 h4
  obtain ⟨e1, e2, e3, e4, e5, e6, e7⟩ := LOk.le hE
  subst hs
  obtain ⟨c1, c2, c3, c4⟩ := hm'
  obtain ⟨f1, f2, f3, f4⟩ := hf
  have e10 := hE.2.1
  obtain ⟨r2, hr2, cell, g1, g2, g3, -⟩ := gcell h1 hk hc
  cases hr2.symm.trans hrr
  have hcl := (e10.1.1 cn _ hrr).2
  have hpre : PreV s H rr.1 a (va_Pc ((lvR (some a) :: av).map lvV) (fun U => hOk G hx U.heap ∧ KW G U)) (av.map lvV) := ⟨blind, ⟨cell, g1, by rw [g3]; rfl, by rw [g2]; exact hcl.1⟩, fun U hU hW => ⟨rfl, by rw [hU]; exact h1, KW.moved hW e10⟩⟩
  have hcat := cat_sum rest
  have hroom : 2 * (F0 m pc ls ((av.map lvV).reverse ++ .ref a :: rest)).monitorRoom + (rest.map fun v => v.category).sum ≤ 8 := by show 2 * 0 + _ ≤ 8; omega
  exact sl_back (va_runV ⟨e1, e2, e3, e4, e7⟩ hC ⟨⟨rfl, rfl, f1, f2, ws_ok e7 c1, List.mem_cons_self, e7 _ c1, e7 _ c2, c3, len_ok c4, e7 _ hl'⟩, e7 _ hin, e7 _ hse⟩ hpre rfl (by rw [List.length_map]; exact hn) hl.1 rfl hroom hd ⟨f3, f4⟩) hvo hE.2.2.1 h1 h2 h3 h4 (fun H1 locs1 a1 a2 a3 a4 => k1 hE ls H1 locs1 hl a1 a2 a3 a4)
theorem sl_ci {E : EL} {cells slots pc : Nat} {lo : LL} {st : List Value} {hx hm : HS} {M' : MI} {n index : Nat} {y : MethodName} {rest : List Value} {q : HS} {a : Nat} (hd : decode cL_law pc = .ok (.invokespecial index, 3)) (hm' : MC y M' 0) (hret : M'.2.2.2.1 = none) (hl' : Cond.methodLink RL index y ∈ TBL) (hin : Cond.instanceMethod y ∈ TBL) (hy : y.name = "<init>") (hf : LF1 M' cells slots) (hr : rest.length ≤ 4) (hC : Ct (lEL E) y M' (gEL E) [lvR (some a)] hx (oV q)) (hs : st = .ref a :: rest)
    (k1 : SimL E (cells + M'.2.2.2.2.2.1) (slots + M'.2.2.2.2.2.2.1) (pc + 3) lo rest q (wz hm (sz q))) : SimL E cells slots pc lo st hx hm := by
  obtain ⟨p, l, e, s, m, below, meth, c, G, b, L, xs⟩ := E
  intro hE ls H locs hl h1 h2 h3 h4
  obtain ⟨e1, e2, e3, e4, e5, e6, e7⟩ := LOk.le hE
  subst hs
  obtain ⟨c1, c2, c3, c4⟩ := hm'
  obtain ⟨f1, f2, f3, f4⟩ := hf
  have e10 := hE.2.1
  have hpre : PreS s H (va_Pc ([lvR (some a)].map lvV) (fun U => hOk G hx U.heap ∧ KW G U)) [.ref a] := ⟨blind, fun U hU hW => ⟨rfl, by rw [hU]; exact h1, KW.moved hW e10⟩⟩
  have hcat := cat_sum rest
  have hroom : 2 * (F0 m pc ls (([] : List Value).reverse ++ .ref a :: rest)).monitorRoom + (rest.map fun v => v.category).sum ≤ 8 := by show 2 * 0 + _ ≤ 8; omega
  have hwk := ws_ok e7 c1
  have hC' := hC
  unfold Ct at hC'
  rw [hret] at hC' hwk c1
  exact sl_back (v := none) (va_runI (As := []) ⟨e1, e2, e3, e4, e7⟩ hC' ⟨⟨rfl, rfl, f1, f2, hwk, List.mem_cons_self, e7 _ c1, e7 _ c2, c3, len_ok c4, e7 _ hl'⟩, hy, e7 _ hin⟩ hpre rfl rfl hl.1 rfl hroom hd ⟨f3, f4⟩) rfl hE.2.2.1 h1 h2 h3 h4 (fun H1 locs1 a1 a2 a3 a4 => k1 hE ls H1 locs1 hl a1 a2 a3 a4)
theorem sl_cw {E : EL} {cells slots pc : Nat} {lo : LL} {st : List Value} {hx hm : HS} {M' : MI} {n index : Nat} {y : MethodName} {rest : List Value} {hh : List (Nat × Nat × Nat × Nat)} {q : Int32 × HS} (av : List LV) (hd : decode cL_law pc = .ok (.invokestatic index, 3)) (hcw : Cond.codeWith y M'.1 M'.2.1 M'.2.2.2.1 hh ∈ TBL) (hini : Cond.initialized y.cls ∈ TBL) (hyc : y.cls ≠ "java/lang/invoke/MethodHandle" ∧ y.cls ≠ "java/lang/invoke/VarHandle") (hpd : (parseMethodDescriptor y.desc).map (fun d => d.parameters.length) = some n) (hl' : Cond.methodLink RL index y ∈ TBL) (hst : Cond.static y ∈ TBL) (hn : av.length = n) (hf : LF1 M' cells slots) (hr : rest.length ≤ 4) (hC : CtW (lEL E) y M' hh (gEL E) av hx q) (hs : st = (av.map lvV).reverse ++ rest)
    (k1 : ∀ k, sz q.2 ≤ k → SimL E (cells + M'.2.2.2.2.2.1) (slots + M'.2.2.2.2.2.2.1) (pc + 3) lo (.int q.1 :: rest) (wz q.2 k) (wz hm k)) : SimL E cells slots pc lo st hx hm := by
  obtain ⟨p, l, e, s, m, below, meth, c, G, b, L, xs⟩ := E
  intro hE ls H locs hl h1 h2 h3 h4
  obtain ⟨e1, e2, e3, e4, e5, e6, e7⟩ := LOk.le hE
  subst hs
  obtain ⟨f1, f2, f3, f4⟩ := hf
  have e10 := hE.2.1
  have hpre : PreS s H (va_Pc (av.map lvV) (fun U => hOk G hx U.heap ∧ KW G U)) (av.map lvV) := ⟨blind, fun U hU hW => ⟨rfl, by rw [hU]; exact h1, KW.moved hW e10⟩⟩
  have hcat := cat_sum rest
  have hroom : 2 * (F0 m pc ls ((av.map lvV).reverse ++ rest)).monitorRoom + (rest.map fun v => v.category).sum ≤ 8 := by show 2 * 0 + _ ≤ 8; omega
  have hwk : ∀ w ∈ (Cond.codeWith y M'.1 M'.2.1 M'.2.2.2.1 hh :: TBL), ∀ (a' : Array Value) (U : State), s.WarmedH U.vm → w.before a' U = true := by
    intro w hw a' U hW
    have hw2 : w ∈ TBL := by
      rcases List.mem_cons.mp hw with rfl | q
      · exact hcw
      · exact q
    exact word_at hW (good_of_word (List.mem_filter.mp hw2).2) (e7 w hw2)
  have hrun := vx_runSW (p := p) (l := l) (e := e) (R := room_1) (below := below) (meth := meth) (locs := locs) (cells := cells) (slots := slots) ⟨e1, e2, e3, e4, e7⟩ hC ⟨⟨rfl, rfl, f1, f2, hwk, List.mem_cons_self⟩, e7 _ hcw, e7 _ hini, hyc, len_ok hpd, e7 _ hl', e7 _ hst⟩ hpre (g := F0 m pc ls ((av.map lvV).reverse ++ rest)) rfl (by rw [List.length_map]; exact hn) hl.1 rfl hroom hd ⟨f3, f4⟩
  intro T hT X
  obtain ⟨v', st₀, t, T', L, h00, X', hL, y1, y2, ⟨hv, hsz, hOk', hF, hw⟩, st⟩ := hrun T hT X
  cases hv
  have hA := shA h1 h2 h3 h00 y1 hF
  rw [y1] at hA
  obtain ⟨t2, a1, b1⟩ := k1 t.heap.size hsz hE ls T'.heap (locs ++ L) hl (by rw [y1]; exact hOk') (by rw [y1]; exact hA) (djA (hm := hm) h3 (fun a ha => by rw [← h1.1, h2.1]; exact (h2.2.1 a ha).1) hw) (saA h1 hE.2.2.1 h4 h00 y1 hF hL) T' rfl X'
  exact ⟨t2, st t2 a1, b1⟩
theorem sl_new {E : EL} {cells slots pc : Nat} {lo : LL} {st : List Value} {hx hm : HS} {index : Nat} (cn n : Nat) (hL : LN RL index cn n) (hd : decode cL_law pc = .ok (.new index, 3)) (hc : cn < 100) (hh1 : cells + 1 ≤ 601024) (hh2 : slots + n ≤ 7293034) (k1 : SimL E (cells + 1) (slots + n) (pc + 3) lo (.ref (sz hx) :: st) (nO hx cn) (wz hm (sz hx + 1))) : SimL E cells slots pc lo st hx hm := by
  obtain ⟨p, l, e, s, m, below, meth, c, G, b, L, xs⟩ := E
  intro hE ls H locs hl h1 h2 h3 h4
  obtain ⟨e1, e2, e3, e4, e5, e6, e7⟩ := LOk.le hE
  obtain ⟨rr, hrr, rfl, w1, w2, w3⟩ := hL
  have e10 := hE.2.1
  have hKn := e10.1.1 cn _ hrr
  refine W.newcK e1 e2 e4 (e7 _ w1) (e7 _ w2) (e7 _ w3) rfl hd hh1 hh2 hKn.2.1 h1.1 fun H1 kC hkC z1 z2 z3 => ?_
  have hHs : H.size = sz hx := h1.1
  have hB := hOk_shift h2 (H1 := H1) (by omega) (fun q hq _ => z3 q (by omega))
  rw [z2] at hB
  refine k1 hE ls H1 locs hl ?_ hB (djA (hm := hm) h3 (fun a ha => by rw [← h1.1, h2.1]; exact (h2.2.1 a ha).1) (fun q hq => ?_)) ⟨by have := h4.1; omega, fun q x y => by rw [z3 q (by have := h4.1; omega)]; exact h4.2.1 q x y, h4.2.2⟩
  · refine h1.new rfl rfl (fun q hq => by simp [kd, nO, va_up, hq]) (fun g b hb => by simp [fi, nO, hb]) (fun g b hb => by simp [fr, nO, hb]) (fun b hb => rfl) (fun b hb => rfl) (fun b hb => rfl) (fun b hb => rfl) ?_ z2 z3
    have hkd : kd (nO hx cn) (sz hx) = cn + 1 := by simp [kd, nO, va_up]
    refine ⟨fun n h3 h4 => ?_, fun h3 => ?_, fun h3 => ?_, fun h3 => ?_, fun h3 => ?_, fun h3 => ?_, fun h3 => ?_⟩
    · rw [hkd] at h3
      have : n = cn := by omega
      subst this
      refine ⟨rr, hrr, (u_born (tyC n) e7 (inT n _ hrr) hKn hkC z1 (tyC_ok n _ hrr)).to (fun k hk => ?_)⟩
      rw [dflt_ok (tyC_all n _ hrr k hk)]
      simp [fv, rfF, fi, fr, nO]
    · rw [hkd] at h3; simp [kI] at h3; omega
    · rw [hkd] at h3; omega
    · rw [hkd] at h3; simp [kR] at h3; omega
    · rw [hkd] at h3; omega
    · rw [hkd] at h3; omega
    · rw [hkd] at h3; omega
  · by_cases hqs : q = sz hx
    · exact Or.inr (by omega)
    · left
      have : kd (nO hx cn) q = kd hx q := by simp [kd, nO, va_up, hqs]
      rw [← this]; exact hq
theorem sl_newl {E : EL} {cells slots pc : Nat} {lo : LL} {st : List Value} {hx hm : HS} (hd : decode cL_law pc = .ok (.newarray .long, 2)) (hh1 : cells + 1 ≤ 601024) (hh2 : slots + 1 ≤ 7293034) (hw : Cond.arrayClass (tyK 204) ∈ TBL) (k1 : SimL E (cells + 1) (slots + 1) (pc + 2) lo (.ref (sz hx) :: st) (nA hx 204 1) (wz hm (sz hx + 1))) : SimL E cells slots pc lo (.int 1 :: st) hx hm := by
  obtain ⟨p, l, e, s, m, below, meth, c, G, b, L, xs⟩ := E
  intro hE ls H locs hl h1 h2 h3 h4
  obtain ⟨e1, e2, e3, e4, e5, e6, e7⟩ := LOk.le hE
  have e10 := hE.2.1
  have hHs : H.size = sz hx := h1.1
  refine va_newaK (atype := .long) e1 e2 (e7 _ hw) rfl hd rfl (by decide) (show (1 : Int32).toNatClampNeg = 1 by decide) (by decide) hh1 hh2 h1.1 fun H1 cA z1 z2 z3 hAr hfc => ?_
  have hcA : cA = dA G 204 := Option.some.inj (hfc.symm.trans (arr_of e10 (k := 204) (by simp [arT, tyK])).2)
  subst hcA
  have hB := hOk_shift h2 (H1 := H1) (by omega) (fun q hq _ => z3 q (by omega))
  rw [z2] at hB
  refine k1 hE ls H1 locs hl ?_ hB (djA (hm := hm) h3 (fun a ha => by rw [← h1.1, h2.1]; exact (h2.2.1 a ha).1) (fun q hq => ?_)) ⟨by have := h4.1; omega, fun q x y => by rw [z3 q (by have := h4.1; omega)]; exact h4.2.1 q x y, h4.2.2⟩
  · refine hOk_nA h1 rfl (by omega) (fun h3 => by cases h3) (fun h3 => ?_) (fun h3 => by cases h3) z2 z3
    rw [z1]; rfl
  · by_cases hqs : q = sz hx
    · exact Or.inr (by omega)
    · left
      have : kd (nA hx 204 1) q = kd hx q := by simp [kd, nA, va_up, hqs]
      rw [← this]; exact hq
