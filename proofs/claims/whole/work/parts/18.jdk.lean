/-! STATICS, TEXTS, the JDK's natives, over Sim -/
section ST
variable {ρ : Type} {E : EV} {M : MI} {out : FIN ρ} {cells slots pc : Nat} {lo : LL} {st : List Value} {h : HS} {k : Option ρ}
theorem w_gets {p : Program} {l : Launch} {e : Env} {R : Room} {s : State} {m : MethodId} {args : Array Value} {below : List Frame} {meth : Method} {c : Code} {H : Heap} {locs : List Loc} {Q : State → Prop} {G : GG} {ls : Array Slot} {rest : List Value} (hE : EOk p R s m args meth c G M) {C n d : String} {v : Value} {index : Nat} (hZ : va_Z C n d v (AO G) s (gH G)) (hH : hOk G h H) (hw : Cond.fieldLink M.2.2.1 index C n d ∈ TBL) (hd : decode M.1 pc = .ok (.getstatic index, 3)) (kk : W p l e R s m args below meth c H locs cells slots Q (F0 m (pc + 3) ls (v :: rest))) : W p l e R s m args below meth c H locs cells slots Q (F0 m pc ls rest) := by
  obtain ⟨e1, e2, e3, e4, e5, e6, e7, e8, e9, e10⟩ := id hE
  obtain ⟨cf, kf, fi, f, a, cell, h1, h2, h3, h4, h5, h6, h7, h8⟩ := hZ
  have hlt : a < (gH G).size := Nat.not_le.mp h8
  exact W.gets e1 e2 e4 (e9 _ hw) h1 h2 h3 h4 (by rw [hH.2.2.2.1 a hlt]; exact h5) (fun e => by rw [e] at h6; cases h6) h7 rfl hd kk
theorem si_gsE {index : Nat} (hw : Cond.fieldLink M.2.2.1 index "java/util/ArrayList" "DEFAULTCAPACITY_EMPTY_ELEMENTDATA" "[Ljava/lang/Object;" ∈ TBL) (hd : decode M.1 pc = .ok (.getstatic index, 3)) (k1 : Sim E M out cells slots (pc + 3) lo (va_rf (some (cs h 0)) :: st) h k) : Sim E M out cells slots pc lo st h k := by
  obtain ⟨p, l, e, R, s, m, args, below, meth, c, G, h0⟩ := E
  intro hE res hk ls H locs hl hH hS
  refine w_gets hE hE.2.2.2.2.2.2.2.2.2.2.2.2.2.2.2.2.1 hH hw hd ?_
  have e0 : gCs G 0 = cs h 0 := by rw [hH.2.2.2.2.2]
  rw [e0]
  exact k1 hE res hk ls H locs hl hH hS
theorem si_gsC {index : Nat} (hw : Cond.fieldLink M.2.2.1 index "java/lang/String" "COMPACT_STRINGS" "Z" ∈ TBL) (hd : decode M.1 pc = .ok (.getstatic index, 3)) (k1 : Sim E M out cells slots (pc + 3) lo (.int 1 :: st) h k) : Sim E M out cells slots pc lo st h k := by
  obtain ⟨p, l, e, R, s, m, args, below, meth, c, G, h0⟩ := E
  intro hE res hk ls H locs hl hH hS
  exact w_gets hE hE.2.2.2.2.2.2.2.2.2.2.2.2.2.2.2.2.2.2.1 hH hw hd (k1 hE res hk ls H locs hl hH hS)
theorem si_gsF {index : Nat} (hw : Cond.fieldLink M.2.2.1 index "jdk/internal/util/Preconditions" "SIOOBE_FORMATTER" "Ljava/util/function/BiFunction;" ∈ TBL) (hd : decode M.1 pc = .ok (.getstatic index, 3)) (k1 : ∀ r, Sim E M out cells slots (pc + 3) lo (va_rf r :: st) h k) : Sim E M out cells slots pc lo st h k := by
  obtain ⟨p, l, e, R, s, m, args, below, meth, c, G, h0⟩ := E
  intro hE res hk ls H locs hl hH hS
  rcases hE.2.2.2.2.2.2.2.2.2.2.2.2.2.2.2.2.2.2.2.1 with hz | ⟨t, hz⟩
  · exact w_gets hE hz hH hw hd (k1 none hE res hk ls H locs hl hH hS)
  · exact w_gets hE hz hH hw hd (k1 (some t) hE res hk ls H locs hl hH hS)
/-- a text of the class Tokens -/
theorem si_ldcS {index : Nat} (i : Nat) (hi : i < 8) (hx : ixS.getD i 0 = index) (hM : M.2.2.1 = RX7) (hd : decode M.1 pc = .ok (.ldc index, 2)) (k1 : Sim E M out cells slots (pc + 2) lo (va_rf (some (cs h (1 + i))) :: st) h k) : Sim E M out cells slots pc lo st h k := by
  obtain ⟨p, l, e, R, s, m, args, below, meth, c, G, h0⟩ := E
  intro hE res hk ls H locs hl hH hS
  obtain ⟨e1, e2, e3, e4, e5, e6, e7, e8, e9, e10⟩ := id hE
  have hR := e10.2.2.2.2.2.2.1 i hi
  rw [hx] at hR
  have e0 : gCs G (1 + i) = cs h (1 + i) := by rw [hH.2.2.2.2.2]
  rw [e0] at hR
  exact va_ldcS e1 e2 (by rw [← hM]; exact e4) hR hd (k1 hE res hk ls H locs hl hH hS)
theorem str_cell {G : GG} {s : State} {H : Heap} {a : Nat} (hK : KW G s) (hH : hOk G h H) (hk : kd h a = 350) : ∃ i, i < 8 ∧ a = gCs G (1 + i) ∧ a < (gH G).size ∧ fr h 35000 a = some (gAv G i) ∧ fi h 35001 a = 0 := by
  obtain ⟨i, hi, h1, h2, h3⟩ := (hH.2.1 a (by omega)).2.2.2.2.2.1 hk
  obtain ⟨cell, g1, g2, g3, g4⟩ := (hK.2.2.2.2.2.1.1 i hi).1
  exact ⟨i, hi, h1, by rw [h1]; exact Nat.not_le.mp g4, h2, h3⟩
theorem si_gSV {kk : Option Nat → Option ρ} {r : Option Nat} {index : Nat} (hw : Cond.fieldLink M.2.2.1 index "java/lang/String" "value" "[B" ∈ TBL) (hd : decode M.1 pc = .ok (.getfield index, 3)) (k1 : ∀ x, Sim E M out cells slots (pc + 3) lo (va_rf x :: st) h (kk x)) : Sim E M out cells slots pc lo (va_rf r :: st) h ((gR h r 349 100).bind kk) := by
  obtain ⟨p, l, e, R, s, m, args, below, meth, c, G, h0⟩ := E
  intro hE res hk ls H locs hl hH hS
  obtain ⟨x, hx, hk⟩ := bind_some hk
  obtain ⟨a, rfl, hkd, rfl⟩ := gR_some hx
  obtain ⟨e1, e2, e3, e4, e5, e6, e7, e8, e9, e10⟩ := id hE
  obtain ⟨i, hi, ha, hlt, hf, -⟩ := str_cell e10 hH hkd
  obtain ⟨cf, kf, fi', f, cell, q1, q2, q3, q4, q5, q6⟩ := (e10.2.2.2.2.2.1.1 i hi).2.2.1
  have e0 : fr h (100 * 349 + 100) a = some (gAv G i) := hf
  rw [e0] at hk
  refine W.getf e1 e2 e4 (e9 _ hw) q1 q2 (by rw [hH.2.2.2.1 a hlt, ha]; exact q3) q4 (v := .ref (gAv G i)) q5 rfl rfl hd ?_
  exact k1 _ hE res hk ls H locs hl hH hS
theorem si_gSC {kk : Int32 → Option ρ} {r : Option Nat} {index : Nat} (hw : Cond.fieldLink M.2.2.1 index "java/lang/String" "coder" "B" ∈ TBL) (hd : decode M.1 pc = .ok (.getfield index, 3)) (k1 : ∀ x, Sim E M out cells slots (pc + 3) lo (.int x :: st) h (kk x)) : Sim E M out cells slots pc lo (va_rf r :: st) h ((gI h r 349 101).bind kk) := by
  obtain ⟨p, l, e, R, s, m, args, below, meth, c, G, h0⟩ := E
  intro hE res hk ls H locs hl hH hS
  obtain ⟨x, hx, hk⟩ := bind_some hk
  obtain ⟨a, rfl, hkd, rfl⟩ := gI_some hx
  obtain ⟨e1, e2, e3, e4, e5, e6, e7, e8, e9, e10⟩ := id hE
  obtain ⟨i, hi, ha, hlt, -, hf⟩ := str_cell e10 hH hkd
  obtain ⟨cf, kf, fi', f, cell, q1, q2, q3, q4, q5, q6⟩ := (e10.2.2.2.2.2.1.1 i hi).2.1
  have e0 : fi h (100 * 349 + 101) a = 0 := hf
  rw [e0] at hk
  refine W.getf e1 e2 e4 (e9 _ hw) q1 q2 (by rw [hH.2.2.2.1 a hlt, ha]; exact q3) q4 (v := .int 0) q5 rfl rfl hd ?_
  exact k1 _ hE res hk ls H locs hl hH hS
/-- answers of byte and char -/
theorem si_byret {x : Int32} (hd : decode M.1 pc = .ok (.ireturn, 1)) (hr : M.2.2.2.1 = some .byte) (h1 : cells ≤ M.2.2.2.2.2.1) (h2 : slots ≤ M.2.2.2.2.2.2.1) : Sim E M (fin oI) cells slots pc lo [.int x] h (if i2b x = x then some (x, h) else none) := by
  refine si_ite (fun hc => ?_) (fun _ => si_none)
  exact si_zret hd hr (by show Value.int x.toInt8.toInt32 = _; exact congrArg _ hc) h1 h2
theorem si_cret {x : Int32} (hd : decode M.1 pc = .ok (.ireturn, 1)) (hr : M.2.2.2.1 = some .char) (h1 : cells ≤ M.2.2.2.2.2.1) (h2 : slots ≤ M.2.2.2.2.2.2.1) : Sim E M (fin oI) cells slots pc lo [.int x] h (if i2c x = x then some (x, h) else none) := by
  refine si_ite (fun hc => ?_) (fun _ => si_none)
  refine si_zret hd hr ?_ h1 h2
  have h9 := pk_nc x
  rw [show (x.toUInt32 % 65536).toInt32 = x from hc] at h9
  exact h9
end ST
section STC
variable {ρ : Type} {E : EV} {M M' : MI} {out : FIN ρ} {cells slots pc n index : Nat} {lo : LL} {h : HS} {y : MethodName} {rest st : List Value}
/-- a method of a text -/
theorem si_cvS {kk : Int32 × HS → Option ρ} {f : Nat → Option (Int32 × HS)} {r : Option Nat} (av : List LV) (hd : decode M.1 pc = .ok (.invokevirtual index, 3)) (hs : st = (av.map lvV).reverse ++ va_rf r :: rest) (hm : MC y M' n) (hl : Cond.methodLink M.2.2.1 index y ∈ TBL) (hin : Cond.instanceMethod y ∈ TBL) (hse : Cond.selects "java/lang/String" y y ∈ TBL) (hn : av.length = n) (hf : CF M M' cells slots) (hr : rest.length ≤ 4) (hC : ∀ b q, f b = some q → Ct (lE E) y M' (gE E) (lvR (some b) :: av) h (oI q)) (k1 : ∀ q : Int32 × HS, Sim E M out (cells + M'.2.2.2.2.2.1) (slots + M'.2.2.2.2.2.2.1) (pc + 3) lo (.int q.1 :: rest) q.2 (kk q)) : Sim E M out cells slots pc lo st h ((vc h r 349 f).bind kk) := by
  obtain ⟨p, l, e, R, s, m, args, below, meth, c, G, h0⟩ := E
  intro hE res hk ls H locs hl' hH hS
  obtain ⟨q, hq, hk2⟩ := bind_some hk
  obtain ⟨b, rfl, hkd, hfb⟩ := vc_some hq
  subst hs
  obtain ⟨e1, e2, e3, e4, e5, e6, e7, e8, e9, e10⟩ := id hE
  obtain ⟨c1, c2, c3, c4⟩ := hm
  obtain ⟨f1, f2, f3, f4⟩ := hf
  obtain ⟨i, hi, ha, hlt, -, -⟩ := str_cell e10 hH hkd
  obtain ⟨cell, g1, g2, g3, -⟩ := (e10.2.2.2.2.2.1.1 i hi).1
  have hpre : PreV s H "java/lang/String" b (va_Pc ((lvR (some b) :: av).map lvV) (fun U => hOk G h U.heap ∧ KW G U)) (av.map lvV) := ⟨blind, ⟨cell, by rw [hH.2.2.2.1 b hlt, ha]; exact g1, g2, g3⟩, fun U hU hW => ⟨rfl, by rw [hU]; exact hH, KW.moved hW e10⟩⟩
  have hcat := cat_sum rest
  have hroom : 2 * (F0 m pc ls ((av.map lvV).reverse ++ .ref b :: rest)).monitorRoom + (rest.map fun v => v.category).sum ≤ 8 := by show 2 * 0 + _ ≤ 8; omega
  have hcells : cells + M'.2.2.2.2.2.1 ≤ R.cells ∧ slots + M'.2.2.2.2.2.2.1 ≤ R.slots := by rw [e6]; exact ⟨f3, f4⟩
  have hfr : (rmD M'.2.2.2.2.1 M'.2.2.2.2.2.1 M'.2.2.2.2.2.2.1).frames + 1 ≤ R.frames := by rw [e6]; exact f1
  have hlo : 8 + (M'.2.1 + 11) + (rmD M'.2.2.2.2.1 M'.2.2.2.2.2.1 M'.2.2.2.2.2.2.1).locals ≤ R.locals := by rw [e6]; exact f2
  exact w_back (va_runV ⟨e1, e2, e3, e4, e9⟩ (hC b q hfb) ⟨⟨rfl, rfl, hfr, hlo, ws_ok e9 c1, List.mem_cons_self, e9 _ c1, e9 _ c2, c3, len_ok c4, e9 _ hl⟩, e9 _ hin, e9 _ hse⟩ hpre rfl (by rw [List.length_map]; exact hn) hl'.1 rfl hroom hd hcells) (v := some (.int q.1)) rfl hH hS (fun H1 locs1 h1 h2 => k1 q hE res hk2 ls H1 locs1 hl' h1 h2)
end STC
/-! ARRAYCOPY -/
theorem ac_nat : Cond.native arraycopyName ∈ TBL := tbl_in 299 (by decide +kernel) (by decide +kernel)
theorem ac_sta : Cond.static arraycopyName ∈ TBL := tbl_in 298 (by decide +kernel) (by decide +kernel)
theorem ac_ini : Cond.initialized "java/lang/System" ∈ TBL := tbl_in 15 (by decide +kernel) (by decide +kernel)
theorem cast_1 : Cond.castable RX0 "java/lang/Object" ∈ NST := nst_in 1279 (by decide +kernel) (by decide +kernel)
theorem cast_2 : Cond.castable RX1 "java/lang/Object" ∈ NST := nst_in 1276 (by decide +kernel) (by decide +kernel)
theorem cast_3 : Cond.castable RX2 "java/lang/Object" ∈ NST := nst_in 1277 (by decide +kernel) (by decide +kernel)
theorem gc_dec : Cond.declares ⟨"java/lang/Object", "getClass", "()Ljava/lang/Class;"⟩ ∈ NST := nst_in 1284 (by decide +kernel) (by decide +kernel)
theorem gc_ins : Cond.instanceMethod ⟨"java/lang/Object", "getClass", "()Ljava/lang/Class;"⟩ ∈ TBL := tbl_in 273 (by decide +kernel) (by decide +kernel)
theorem gc_nat : Cond.native ⟨"java/lang/Object", "getClass", "()Ljava/lang/Class;"⟩ ∈ TBL := tbl_in 287 (by decide +kernel) (by decide +kernel)
theorem gc_sel : Cond.selects "[Ljava/lang/Object;" ⟨"java/lang/Object", "getClass", "()Ljava/lang/Class;"⟩ ⟨"java/lang/Object", "getClass", "()Ljava/lang/Class;"⟩ ∈ TBL := tbl_in 1283 (by decide +kernel) (by decide +kernel)
def sRi (h : HS) (a : Nat) (f : Nat → Int32) : HS := (kd h, fi h, fr h, ln h, va_up (ai h) a f, al h, ar h, sz h, cs h)
def sRr (h : HS) (a : Nat) (f : Nat → Option Nat) : HS := (kd h, fi h, fr h, ln h, ai h, al h, va_up (ar h) a f, sz h, cs h)
/-- System.arraycopy of ints -/
def cpI (h : HS) (r0 : Option Nat) (sp : Int32) (r1 : Option Nat) (dp n : Int32) : Option HS := match r0, r1 with
  | some a0, some a1 => if kd h a0 = 201 ∧ kd h a1 = 201 ∧ 0 ≤ sp ∧ 0 ≤ dp ∧ 0 ≤ n ∧ sp.toNatClampNeg + n.toNatClampNeg ≤ ln h a0 ∧ dp.toNatClampNeg + n.toNatClampNeg ≤ ln h a1 then some (sRi h a1 (va_cpy (ai h a0) (ai h a1) sp.toNatClampNeg dp.toNatClampNeg n.toNatClampNeg)) else none
  | _, _ => none
/-- what lies in rows of objects: contracts, features, papers -/
def elO (k : Nat) : Bool := k == 2 || k == 3 || k == 4
def elN (h : HS) (r : Option Nat) : Bool := match r with
  | none => true
  | some a => elO (kd h a)
/-- System.arraycopy of rows of objects -/
def cpR (h : HS) (r0 : Option Nat) (sp : Int32) (r1 : Option Nat) (dp n : Int32) : Option HS := match r0, r1 with
  | some a0, some a1 => if kd h a0 = 206 ∧ kd h a1 = 206 ∧ 0 ≤ sp ∧ 0 ≤ dp ∧ 0 ≤ n ∧ sp.toNatClampNeg + n.toNatClampNeg ≤ ln h a0 ∧ dp.toNatClampNeg + n.toNatClampNeg ≤ ln h a1 ∧ (List.range n.toNatClampNeg).all (fun i => elN h (ar h a0 (sp.toNatClampNeg + i))) = true then some (sRr h a1 (va_cpy (ar h a0) (ar h a1) sp.toNatClampNeg dp.toNatClampNeg n.toNatClampNeg)) else none
  | _, _ => none
theorem cpI_some {h h' : HS} {r0 r1 : Option Nat} {sp dp n : Int32} (hg : cpI h r0 sp r1 dp n = some h') : ∃ a0 a1, r0 = some a0 ∧ r1 = some a1 ∧ kd h a0 = 201 ∧ kd h a1 = 201 ∧ 0 ≤ sp ∧ 0 ≤ dp ∧ 0 ≤ n ∧ sp.toNatClampNeg + n.toNatClampNeg ≤ ln h a0 ∧ dp.toNatClampNeg + n.toNatClampNeg ≤ ln h a1 ∧ h' = sRi h a1 (va_cpy (ai h a0) (ai h a1) sp.toNatClampNeg dp.toNatClampNeg n.toNatClampNeg) := by
  cases r0 with
  | none => cases hg
  | some a0 =>
    cases r1 with
    | none => cases hg
    | some a1 =>
      unfold cpI at hg
      simp only at hg
      split at hg
      · rename_i hc
        obtain ⟨c1, c2, c3, c4, c5, c6, c7⟩ := hc
        exact ⟨a0, a1, rfl, rfl, c1, c2, c3, c4, c5, c6, c7, (Option.some.inj hg).symm⟩
      · cases hg
theorem cpR_some {h h' : HS} {r0 r1 : Option Nat} {sp dp n : Int32} (hg : cpR h r0 sp r1 dp n = some h') : ∃ a0 a1, r0 = some a0 ∧ r1 = some a1 ∧ kd h a0 = 206 ∧ kd h a1 = 206 ∧ 0 ≤ sp ∧ 0 ≤ dp ∧ 0 ≤ n ∧ sp.toNatClampNeg + n.toNatClampNeg ≤ ln h a0 ∧ dp.toNatClampNeg + n.toNatClampNeg ≤ ln h a1 ∧ (List.range n.toNatClampNeg).all (fun i => elN h (ar h a0 (sp.toNatClampNeg + i))) = true ∧ h' = sRr h a1 (va_cpy (ar h a0) (ar h a1) sp.toNatClampNeg dp.toNatClampNeg n.toNatClampNeg) := by
  cases r0 with
  | none => cases hg
  | some a0 =>
    cases r1 with
    | none => cases hg
    | some a1 =>
      unfold cpR at hg
      simp only at hg
      split at hg
      · rename_i hc
        obtain ⟨c1, c2, c3, c4, c5, c6, c7, c8⟩ := hc
        exact ⟨a0, a1, rfl, rfl, c1, c2, c3, c4, c5, c6, c7, c8, (Option.some.inj hg).symm⟩
      · cases hg
theorem nn32 {z : Int32} (hz : ¬ z < 0) : z.toInt = (z.toNatClampNeg : Int) := by
  have h1 := Int32.le_iff_toInt_le.mp (Int32.not_lt.mp hz)
  have h0 : (0 : Int32).toInt = 0 := by decide
  show z.toInt = ((z.toInt.toNat : Nat) : Int)
  omega
theorem nlt32 {z : Int32} (hz : 0 ≤ z) : ¬ z < 0 := Int32.not_lt.mpr hz
section CP
variable {p : Program} {l : Launch} {e : Env} {R : Room} {s : State} {m : MethodId} {args : Array Value} {below : List Frame} {meth : Method} {c : Code} {H : Heap} {locs : List Loc} {cells slots pc : Nat} {Q : State → Prop} {G : GG} {M : MI} {ls : Array Slot} {rest : List Value} {h : HS}
theorem w_copy (hE : EOk p R s m args meth c G M) (hls : ls.size = M.2.1) {index : Nat} (hw : Cond.methodLink M.2.2.1 index arraycopyName ∈ TBL) (hf : 1 ≤ M.2.2.2.2.1) (hr : rest.length ≤ 4) {a0 a1 : Nat} {c0 c1 : Cell} {sp dp n : Int32} (g0 : H[a0]? = some c0) (g1 : H[a1]? = some c1) (v0 : c0.vm = .none) (v1 : c1.vm = .none) {k0 k1 : Class} {m0 m1 : ClassId} {t0 t1 : FieldType} (x0 : s.vm.classes[c0.cls]? = some k0) (x1 : s.vm.classes[c1.cls]? = some k1) (y0 : k0.kind = .array m0 t0) (y1 : k1.kind = .array m1 t1) (hty : ((refKind t0 != refKind t1) || (!refKind t0 && t0 != t1)) = false)
    (h1 : ¬ sp < 0) (h2 : ¬ dp < 0) (h3 : ¬ n < 0) (h4 : sp.toNatClampNeg + n.toNatClampNeg ≤ c0.slots.size) (h5 : dp.toNatClampNeg + n.toNatClampNeg ≤ c1.slots.size) (hv : ∀ (T : State) vm', T.heap = H → s.vm.Alike vm' → ∀ i, i < n.toNatClampNeg → fits t1 (c0.slots.getD (sp.toNatClampNeg + i) .null) = true ∧ (T.setVm vm').takes m1 (c0.slots.getD (sp.toNatClampNeg + i) .null)) (hd : decode M.1 pc = .ok (.invokestatic index, 3))
    (kk : ∀ (H1 : Heap) (L : List Loc), H1[a1]? = some (copied c0 c1 sp dp n) → H1.size = H.size → (∀ q, q ≠ a1 → H1[q]? = H[q]?) → (∀ q ∈ L, q.base = a1) → W p l e R s m args below meth c H1 (locs ++ L) cells slots Q (F0 m (pc + 3) ls rest)) : W p l e R s m args below meth c H locs cells slots Q (F0 m pc ls (.int n :: .int dp :: .ref a1 :: .int sp :: .ref a0 :: rest)) := by
  obtain ⟨e1, e2, e3, e4, e5, e6, e7, e8, e9, e10⟩ := id hE
  have hcat := cat_sum rest
  have hnf : nativeFrameWords "java/lang/System" "arraycopy" 5 + 11 ≤ 32 := by decide
  intro T hT X
  obtain ⟨vm', X', step⟩ := X.arraycopy e1 e4 (e9 _ hw) (e9 _ ac_nat) (e9 _ ac_sta) (e9 _ ac_ini) (src := a0) (dst := a1) (cs := c0) (cd := c1) (srcPos := sp) (destPos := dp) (n := n) (by rw [hT]; exact g0) (by rw [hT]; exact g1)
    (fun _ h => by rw [v0] at h; cases h) (fun _ h => by rw [v1] at h; cases h) (fun h => by rw [v0] at h; cases h) (fun h => by rw [v1] at h; cases h) x0 x1 y0 y1 hty h1 h2 h3 (by rw [nn32 h1, nn32 h3]; omega) (by rw [nn32 h2, nn32 h3]; omega)
    (fun vm₁ hal i hi => hv T vm₁ hT hal i hi) (g := F0 m pc ls (.int n :: .int dp :: .ref a1 :: .int sp :: .ref a0 :: rest)) rfl (by rw [e3]; exact hls) (rest := rest) rfl (by rw [e2]; exact hd) (by rw [e6]; exact hf) (by rw [e6]; show 2 * 0 + _ + _ ≤ 40 * M.2.2.2.2.1; omega)
  have hl : a1 < H.size := (Array.getElem?_eq_some_iff.mp g1).1
  have hheap : ((T.setVm vm').setCell a1 (copied c0 c1 sp dp n)).heap = H.setIfInBounds a1 (copied c0 c1 sp dp n) := by rw [← hT]; rfl
  obtain ⟨t, b1, b2⟩ := kk (H.setIfInBounds a1 (copied c0 c1 sp dp n)) ((c0.stretch sp.toNatClampNeg n.toNatClampNeg).zipIdx.map fun q => ⟨a1, dp.toNatClampNeg + q.2⟩) (by simp [Array.getElem?_setIfInBounds, hl]) (by simp) (fun q hq => by simp [Array.getElem?_setIfInBounds, Ne.symm hq]) (fun q hq => by
    obtain ⟨z, -, hz⟩ := List.mem_map.mp hq
    rw [← hz]) _ hheap X'
  exact ⟨t, step t b1, b2⟩
end CP
theorem SS.putL {h0 h h' : HS} {H0 H H1 : Heap} {locs L : List Loc} {a : Nat} (hS : SS h0 H0 h H locs) (hw : WrK (kd h a)) (hk : kd h' = kd h) (hz : sz h' = sz h) (z2 : H1.size = H.size) (z3 : ∀ q, q ≠ a → H1[q]? = H[q]?) (hL : ∀ q ∈ L, q.base = a) : SS h0 H0 h' H1 (locs ++ L) := by
  have ha := hS.2.1 a hw
  refine ⟨⟨by rw [z2]; exact hS.1.1, fun q g1 g2 => ?_, fun q hq => ?_⟩, fun q hq => hS.2.1 q (by rw [← hk]; exact hq), by rw [hz]; exact hS.2.2.1, hS.2.2.2⟩
  · rw [z3 q (fun e => g2 (by rw [e]; exact ha))]; exact hS.1.2.1 q g1 g2
  · rcases List.mem_append.mp hq with q1 | q1
    · exact hS.1.2.2 q q1
    · rw [hL q q1]; exact ha
section SCP
variable {ρ : Type} {E : EV} {M : MI} {out : FIN ρ} {cells slots pc : Nat} {lo : LL} {st : List Value} {h : HS}
theorem si_cpI {kk : HS → Option ρ} {r0 r1 : Option Nat} {sp dp n : Int32} {index : Nat} (hd : decode M.1 pc = .ok (.invokestatic index, 3)) (hw : Cond.methodLink M.2.2.1 index arraycopyName ∈ TBL) (hf : 1 ≤ M.2.2.2.2.1) (hr : st.length ≤ 4) (k1 : ∀ h', Sim E M out cells slots (pc + 3) lo st h' (kk h')) : Sim E M out cells slots pc lo (.int n :: .int dp :: va_rf r1 :: .int sp :: va_rf r0 :: st) h ((cpI h r0 sp r1 dp n).bind kk) := by
  obtain ⟨p, l, e, R, s, m, args, below, meth, c, G, h0⟩ := E
  intro hE res hk ls H locs hl hH hS
  obtain ⟨h', hx, hk⟩ := bind_some hk
  obtain ⟨a0, a1, rfl, rfl, q0, q1, q2, q3, q4, q5, q6, rfl⟩ := cpI_some hx
  obtain ⟨e1, e2, e3, e4, e5, e6, e7, e8, e9, e10⟩ := id hE
  have c0 := (hH.2.1 a0 (by omega)).2.2.1 (by rw [q0]; rfl)
  have c1 := (hH.2.1 a1 (by omega)).2.2.1 (by rw [q1]; rfl)
  rw [q0] at c0; rw [q1] at c1
  obtain ⟨-, k0, hk0, cm0, hkk0⟩ := (arr_of e10 (k := 201) (by simp [arT, tyK])).1 (ln h a0) (fun j => .int (ai h a0 j))
  refine w_copy hE hl.1 hw hf hr c0 c1 rfl rfl hk0 hk0 hkk0 hkk0 rfl (nlt32 q2) (nlt32 q3) (nlt32 q4) (by rw [arrV_size]; exact q5) (by rw [arrV_size]; exact q6) (fun T vm' hT hal i hi => ?_) hd (fun H1 L z1 z2 z3 hL => ?_)
  · have e0 : (arrV (dA G 201) (ln h a0) (fun j => Value.int (ai h a0 j))).slots.getD (sp.toNatClampNeg + i) .null = .int (ai h a0 (sp.toNatClampNeg + i)) := by
      rw [Array.getD_eq_getD_getElem?, arrV_read _ _ (by omega)]
      rfl
    rw [e0]
    exact ⟨rfl, trivial⟩
  · have ez : copied (arrV (dA G 201) (ln h a0) (fun j => Value.int (ai h a0 j))) (arrV (dA G 201) (ln h a1) (fun j => Value.int (ai h a1 j))) sp dp n = arrV (dA G 201) (ln h a1) (fun j => .int (va_cpy (ai h a0) (ai h a1) sp.toNatClampNeg dp.toNatClampNeg n.toNatClampNeg j)) := va_copied (fun z => .int z) _ _ _ _ q5
    rw [ez] at z1
    refine k1 _ hE res hk ls H1 _ hl ?_ (hS.putL (by rw [q1]; exact ⟨by omega, by omega⟩) rfl rfl z2 z3 hL)
    refine hOk.putA hH (by rw [q1]; rfl) (by omega) rfl rfl rfl rfl rfl rfl (fun b hb => by simp [ai, sRi, va_up, hb]) (fun b hb => rfl) (fun b hb => rfl) (fun _ => ?_) (fun h1 => ?_) (fun h1 => ?_) z2 z3
    · rw [z1, q1]; simp [ai, sRi, va_up]
    · omega
    · rw [q1] at h1; cases h1
theorem elO_any {G : GG} {s : State} {args : Array Value} {h : HS} {H : Heap} {a : Nat} (hK : KW G s) (hH : hOk G h H) (hel : elO (kd h a) = true) : ∃ (cell : Cell) (kC : Class), H[a]? = some cell ∧ cell.vm = .none ∧ s.vm.classes[cell.cls]? = some kC ∧ ∀ comp, s.vm.findClass "java/lang/Object" = some comp → s.vm.assignable cell.cls comp = true := by
  have key : ∀ cn rr, kd h a = cn + 1 → cn < 100 → vwCl[cn]? = some rr → Cond.castable rr.1 "java/lang/Object" ∈ NST → ∃ (cell : Cell) (kC : Class), H[a]? = some cell ∧ cell.vm = .none ∧ s.vm.classes[cell.cls]? = some kC ∧ ∀ comp, s.vm.findClass "java/lang/Object" = some comp → s.vm.assignable cell.cls comp = true := by
    intro cn rr hk hc hrr hcast
    obtain ⟨r2, hr2, cell, g1, g2, g3, -⟩ := gcell hH hk hc
    cases hr2.symm.trans hrr
    have hcls := (hK.1.1 cn rr hrr).2
    obtain ⟨kC, hkC, -⟩ := hcls.2
    obtain ⟨c0, t0, f1, f2, f3⟩ := Cond.castable_spec (va_Nw.use (A := args) rfl (hK.2.2.1 _ hcast))
    have q1 : c0 = G.1.1 cn := Option.some.inj (f1.symm.trans hcls.1)
    subst q1
    refine ⟨cell, kC, g1, g3, by rw [g2]; exact hkC, fun comp hc => ?_⟩
    have q2 : t0 = comp := Option.some.inj (f2.symm.trans hc)
    subst q2
    rw [g2]; exact f3
  simp only [elO, Bool.or_eq_true, beq_iff_eq] at hel
  rcases hel with (q | q) | q
  · exact key 1 _ q (by omega) rfl cast_1
  · exact key 2 _ q (by omega) rfl cast_2
  · exact key 3 _ q (by omega) rfl cast_3
theorem si_cpR {kk : HS → Option ρ} {r0 r1 : Option Nat} {sp dp n : Int32} {index : Nat} (hd : decode M.1 pc = .ok (.invokestatic index, 3)) (hw : Cond.methodLink M.2.2.1 index arraycopyName ∈ TBL) (hf : 1 ≤ M.2.2.2.2.1) (hr : st.length ≤ 4) (k1 : ∀ h', Sim E M out cells slots (pc + 3) lo st h' (kk h')) : Sim E M out cells slots pc lo (.int n :: .int dp :: va_rf r1 :: .int sp :: va_rf r0 :: st) h ((cpR h r0 sp r1 dp n).bind kk) := by
  obtain ⟨p, l, e, R, s, m, args, below, meth, c, G, h0⟩ := E
  intro hE res hk ls H locs hl hH hS
  obtain ⟨h', hx, hk⟩ := bind_some hk
  obtain ⟨a0, a1, rfl, rfl, q0, q1, q2, q3, q4, q5, q6, q7, rfl⟩ := cpR_some hx
  obtain ⟨e1, e2, e3, e4, e5, e6, e7, e8, e9, e10⟩ := id hE
  have c0 := (hH.2.1 a0 (by omega)).2.2.2.2.1 (by rw [q0]; rfl)
  have c1 := (hH.2.1 a1 (by omega)).2.2.2.2.1 (by rw [q1]; rfl)
  rw [q0] at c0; rw [q1] at c1
  obtain ⟨-, k0, hk0, cm0, hkk0⟩ := (arr_of e10 (k := 206) (by simp [arT, tyK])).1 (ln h a0) (fun j => va_rf (ar h a0 j))
  obtain ⟨kA0, comp, r1', r2', r3', -⟩ := (arr_of e10 (k := 206) (by simp [arT, tyK])).2
  cases hk0.symm.trans r1'
  cases hkk0.symm.trans r2'
  obtain ⟨kE, hkE, -⟩ := Vm.findClass_spec r3'
  refine w_copy hE hl.1 hw hf hr c0 c1 rfl rfl hk0 hk0 hkk0 hkk0 rfl (nlt32 q2) (nlt32 q3) (nlt32 q4) (by rw [arrV_size]; exact q5) (by rw [arrV_size]; exact q6) (fun T vm' hT hal i hi => ?_) hd (fun H1 L z1 z2 z3 hL => ?_)
  · have e0 : (arrV (dA G 206) (ln h a0) (fun j => va_rf (ar h a0 j))).slots.getD (sp.toNatClampNeg + i) .null = va_rf (ar h a0 (sp.toNatClampNeg + i)) := by
      rw [Array.getD_eq_getD_getElem?, arrV_read _ _ (by omega)]
      rfl
    rw [e0]
    have hel := List.all_eq_true.mp q7 i (List.mem_range.mpr hi)
    cases hy : ar h a0 (sp.toNatClampNeg + i) with
    | none => exact ⟨rfl, trivial⟩
    | some y =>
      rw [hy] at hel
      obtain ⟨cellV, kC, g1, g2, hkC, hasg⟩ := elO_any (args := args) e10 hH hel
      obtain ⟨kC', hkC', -⟩ := hal.2.2 _ _ hkC
      obtain ⟨kE', hkE', -⟩ := hal.2.2 _ _ hkE
      refine ⟨rfl, cellV, (show T.heap[y]? = some cellV by rw [hT]; exact g1), (fun q h => by rw [g2] at h; cases h), ⟨kC', hkC'⟩, ?_, ?_⟩
      · exact ⟨kE', hkE'⟩
      · show vm'.assignable _ _ = true
        rw [hal.assignable]
        exact hasg _ r3'
  · have ez : copied (arrV (dA G 206) (ln h a0) (fun j => va_rf (ar h a0 j))) (arrV (dA G 206) (ln h a1) (fun j => va_rf (ar h a1 j))) sp dp n = arrV (dA G 206) (ln h a1) (fun j => va_rf (va_cpy (ar h a0) (ar h a1) sp.toNatClampNeg dp.toNatClampNeg n.toNatClampNeg j)) := va_copied (fun z => va_rf z) _ _ _ _ q5
    rw [ez] at z1
    refine k1 _ hE res hk ls H1 _ hl ?_ (hS.putL (by rw [q1]; exact ⟨by omega, by omega⟩) rfl rfl z2 z3 hL)
    refine hOk.putA hH (by rw [q1]; rfl) (by omega) rfl rfl rfl rfl rfl rfl (fun b hb => rfl) (fun b hb => rfl) (fun b hb => by simp [ar, sRr, va_up, hb]) (fun h1 => ?_) (fun h1 => ?_) (fun _ => ?_) z2 z3
    · rw [q1] at h1; cases h1
    · omega
    · rw [z1, q1]; simp [ar, sRr, va_up]
/-- an object into a row of objects -/
def yO (h : HS) (r : Option Nat) (i : Int32) (x : Option Nat) : Option HS := match r, x with
  | some a, some b => if kd h a = 206 ∧ inB i (ln h a) = true ∧ elO (kd h b) = true then some (sAr h a i.toNatClampNeg (some b)) else none
  | _, _ => none
theorem yO_some {h h' : HS} {r x : Option Nat} {i : Int32} (hg : yO h r i x = some h') : ∃ a b, r = some a ∧ x = some b ∧ kd h a = 206 ∧ inB i (ln h a) = true ∧ elO (kd h b) = true ∧ h' = sAr h a i.toNatClampNeg (some b) := by
  cases r with
  | none => cases hg
  | some a =>
    cases x with
    | none => cases hg
    | some b =>
      by_cases hk : kd h a = 206 ∧ inB i (ln h a) = true ∧ elO (kd h b) = true
      · simp only [yO, if_pos hk] at hg; exact ⟨a, b, rfl, rfl, hk.1, hk.2.1, hk.2.2, (Option.some.inj hg).symm⟩
      · simp only [yO, if_neg hk] at hg; cases hg
theorem si_rO {kk : HS → Option ρ} {r x : Option Nat} {i : Int32} (hd : decode M.1 pc = .ok (.aastore, 1)) (k1 : ∀ h', Sim E M out cells slots (pc + 1) lo st h' (kk h')) : Sim E M out cells slots pc lo (va_rf x :: .int i :: va_rf r :: st) h ((yO h r i x).bind kk) := by
  obtain ⟨p, l, e, R, s, m, args, below, meth, c, G, h0⟩ := E
  intro hE res hk ls H locs hl hH hS
  obtain ⟨h', hx, hk⟩ := bind_some hk
  obtain ⟨a, b, rfl, rfl, hka, hi, hkb, rfl⟩ := yO_some hx
  obtain ⟨e1, e2, e3, e4, e5, e6, e7, e8, e9, e10⟩ := id hE
  have c2 := (hH.2.1 a (by omega)).2.2.2.2.1 (by rw [hka]; rfl)
  have hin := inB_in hi
  have hlt : i.toNatClampNeg < ln h a := Nat.not_le.mp fun q => hin (Or.inr q)
  have h0' : ¬ i < 0 := fun q => hin (Or.inl q)
  obtain ⟨cellV, kC, g1, g3, hkC, hasg⟩ := elO_any (args := args) e10 hH hkb
  obtain ⟨kA0, comp, w1, w2, w3, -⟩ := (arr_of e10 (k := 206) (by simp [arT, tyK])).2
  obtain ⟨kE, hkE, -⟩ := Vm.findClass_spec w3
  rw [hka] at c2
  refine W.aast e1 e2 c2 (fun q h => by cases h) (fun h => by cases h) w1 w2 rfl hkE ⟨h0', by rw [arrV_size]; exact hlt⟩ g1 (fun q h => by rw [g3] at h; cases h) hkC (hasg _ w3) rfl rfl hd fun H1 z1 z2 z3 => ?_
  refine k1 _ hE res hk ls H1 _ hl ?_ (hS.put (by rw [hka]; exact ⟨by omega, by omega⟩) rfl rfl z2 z3)
  refine hOk.putA hH (by rw [hka]; rfl) (by omega) rfl rfl rfl rfl rfl rfl (fun b hb => rfl) (fun b hb => rfl) (fun b hb => ?_) (fun h1 => ?_) (fun h1 => ?_) (fun h1 => ?_) z2 z3
  · funext j; simp [ar, sAr, up2, hb]
  · rw [hka] at h1; cases h1
  · omega
  · rw [z1, arrV_upR, hka]
    congr 2
    funext j
    simp [ar, sAr, up2]
theorem mx_sta : Cond.static Lib.Math.max.name ∈ TBL := tbl_in 263 (by decide +kernel) (by decide +kernel)
theorem mx_cod : Cond.code Lib.Math.max.name Lib.Math.max.code 2 (some .int) ∈ TBL := tbl_in 264 (by decide +kernel) (by decide +kernel)
theorem mn_sta : Cond.static Lib.Math.min.name ∈ TBL := tbl_in 295 (by decide +kernel) (by decide +kernel)
theorem mn_cod : Cond.code Lib.Math.min.name Lib.Math.min.code 2 (some .int) ∈ TBL := tbl_in 296 (by decide +kernel) (by decide +kernel)
theorem mm_ini : Cond.initialized "java/lang/Math" ∈ TBL := tbl_in 13 (by decide +kernel) (by decide +kernel)
theorem si_mmax {k : Option ρ} {x y : Int32} {index : Nat} (hd : decode M.1 pc = .ok (.invokestatic index, 3)) (hw : Cond.methodLink M.2.2.1 index Lib.Math.max.name ∈ TBL) (hf : 1 ≤ M.2.2.2.2.1) (hr : st.length ≤ 4) (h1 : cells ≤ M.2.2.2.2.2.1) (h2 : slots ≤ M.2.2.2.2.2.2.1) (k1 : Sim E M out cells slots (pc + 3) lo (.int (if x < y then y else x) :: st) h k) : Sim E M out cells slots pc lo (.int y :: .int x :: st) h k := by
  obtain ⟨p, l, e, R, s, m, args, below, meth, c, G, h0⟩ := E
  intro hE res hk ls H locs hl hH hS
  obtain ⟨e1, e2, e3, e4, e5, e6, e7, e8, e9, e10⟩ := id hE
  have hcat := cat_sum st
  exact va_mmax e1 e2 (by rw [e3]; exact hl.1.symm) e4 (e9 _ hw) (e9 _ mx_sta) (e9 _ mm_ini) (e9 _ mx_cod) (by rw [e6]; exact hf) (by rw [e6]; show _ + 13 ≤ 40 * M.2.2.2.2.1; omega) (by rw [e6]; exact h1) (by rw [e6]; exact h2) hd (k1 hE res hk ls H locs hl hH hS)
theorem si_mmin {k : Option ρ} {x y : Int32} {index : Nat} (hd : decode M.1 pc = .ok (.invokestatic index, 3)) (hw : Cond.methodLink M.2.2.1 index Lib.Math.min.name ∈ TBL) (hf : 1 ≤ M.2.2.2.2.1) (hr : st.length ≤ 4) (h1 : cells ≤ M.2.2.2.2.2.1) (h2 : slots ≤ M.2.2.2.2.2.2.1) (k1 : Sim E M out cells slots (pc + 3) lo (.int (if y < x then y else x) :: st) h k) : Sim E M out cells slots pc lo (.int y :: .int x :: st) h k := by
  obtain ⟨p, l, e, R, s, m, args, below, meth, c, G, h0⟩ := E
  intro hE res hk ls H locs hl hH hS
  obtain ⟨e1, e2, e3, e4, e5, e6, e7, e8, e9, e10⟩ := id hE
  have hcat := cat_sum st
  exact va_mmin e1 e2 (by rw [e3]; exact hl.1.symm) e4 (e9 _ hw) (e9 _ mn_sta) (e9 _ mm_ini) (e9 _ mn_cod) (by rw [e6]; exact hf) (by rw [e6]; show _ + 13 ≤ 40 * M.2.2.2.2.1; omega) (by rw [e6]; exact h1) (by rw [e6]; exact h2) hd (k1 hE res hk ls H locs hl hH hS)
/-- getClass of a row of objects, and the class constant -/
theorem si_gC {k : Option ρ} {index : Nat} (hd : decode M.1 pc = .ok (.invokevirtual index, 3)) (hw : Cond.methodLink M.2.2.1 index ⟨"java/lang/Object", "getClass", "()Ljava/lang/Class;"⟩ ∈ TBL) (hf : 1 ≤ M.2.2.2.2.1) (hr : st.length ≤ 4) {r : Option Nat} (k1 : Sim E M out cells slots (pc + 3) lo (va_rf (some (cs h 20)) :: st) h k) : Sim E M out cells slots pc lo (va_rf r :: st) h (vc h r 205 (fun _ => k)) := by
  obtain ⟨p, l, e, R, s, m, args, below, meth, c, G, h0⟩ := E
  intro hE res hk ls H locs hl hH hS
  obtain ⟨b, rfl, hkd, hk⟩ := vc_some hk
  obtain ⟨e1, e2, e3, e4, e5, e6, e7, e8, e9, e10⟩ := id hE
  have c2 := (hH.2.1 b (by omega)).2.2.2.2.1 (by rw [hkd]; rfl)
  have hcat := cat_sum st
  have hM := e10.2.2.2.2.2.2.2.2.2.2.2.2.2
  have e0 : gCs G 20 = cs h 20 := by rw [hH.2.2.2.2.2]
  rw [e0] at hM
  obtain ⟨kA0, comp, w1, w2, w3, w4⟩ := (arr_of e10 (k := 206) (by simp [arT, tyK])).2
  refine va_getC (C := "[Ljava/lang/Object;") e1 e2 (by rw [e3]; exact hl.1.symm) e4 (e9 _ hw) (va_Nw.use rfl (e10.2.2.1 _ gc_dec)) (e9 _ gc_sel) (e9 _ gc_ins) (e9 _ gc_nat) hM ⟨_, c2, rfl, ?_⟩ (by rw [e6]; exact hf) (by rw [e6]; show _ + 14 ≤ 40 * M.2.2.2.2.1; omega) hd (k1 hE res hk ls H locs hl hH hS)
  rw [hkd]; exact w4
theorem si_ldcM {k : Option ρ} {index : Nat} (hw : Cond.classLink M.2.2.1 index "[Ljava/lang/Object;" ∈ TBL) (hd : decode M.1 pc = .ok (.ldc index, 2)) (k1 : Sim E M out cells slots (pc + 2) lo (va_rf (some (cs h 20)) :: st) h k) : Sim E M out cells slots pc lo st h k := by
  obtain ⟨p, l, e, R, s, m, args, below, meth, c, G, h0⟩ := E
  intro hE res hk ls H locs hl hH hS
  obtain ⟨e1, e2, e3, e4, e5, e6, e7, e8, e9, e10⟩ := id hE
  have hM := e10.2.2.2.2.2.2.2.2.2.2.2.2.2
  have e0 : gCs G 20 = cs h 20 := by rw [hH.2.2.2.2.2]
  rw [e0] at hM
  exact va_ldcM e1 e2 e4 (e9 _ hw) hM hd (k1 hE res hk ls H locs hl hH hS)
end SCP
