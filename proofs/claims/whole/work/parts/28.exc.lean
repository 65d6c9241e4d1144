/-! METHODS THAT THROW NoSuchElementException, AND THEIR CALLERS -/
def wz (h : HS) (n : Nat) : HS := (kd h, fi h, fr h, ln h, ai h, al h, ar h, n, cs h)
theorem wz_self (h : HS) : wz h (sz h) = h := rfl
theorem hOk.wz {G : GG} {h : HS} {H H1 : Heap} (hH : hOk G h H) (hz : H.size ≤ H1.size) (hq : ∀ q, q < H.size → H1[q]? = H[q]?) : hOk G (wz h H1.size) H1 := by
  have h1 := hH.1
  have h5 := hH.2.2.2.2.1
  refine ⟨rfl, fun a ha => ?_, fun a ha => hH.2.2.1 a ha, fun a ha => ?_, ?_, hH.2.2.2.2.2⟩
  · obtain ⟨g1, g2⟩ := hH.2.1 a ha
    have hlt : a < H.size := by rw [h1]; exact g1
    exact ⟨Nat.lt_of_lt_of_le hlt hz, g2.to rfl (fun _ => rfl) (fun _ => rfl) rfl rfl rfl rfl (hq a hlt)⟩
  · rw [hq a (by omega)]; exact hH.2.2.2.1 a ha
  · show (gH G).size ≤ H1.size
    omega
abbrev NSE : String := "java/util/NoSuchElementException"
def NMS : List String := ["java/lang/RuntimeException", "java/lang/Exception"]
def QX (G : GG) (h0 : HS) (res : Option Int32 × HS) : Array Value → State → Outcome → State → Prop := fun a st oc t => ∃ v, res.1 = some v ∧ QR G h0 (.returned (some (.int v)), res.2) a st oc t
def XX (G : GG) (h0 : HS) (res : Option Int32 × HS) : String → State → State → Prop := fun E st t => res.1 = none ∧ E = NSE ∧ sz res.2 ≤ t.heap.size ∧ hOk G (wz res.2 t.heap.size) t.heap ∧ va_F (AA h0) st t ∧ (∀ q, WrK (kd res.2 q) → AA h0 q) ∧ sz h0 ≤ sz res.2
def finX : FIN (Option Int32 × HS) := fun E M res =>
  match E with
  | (_, _, _, _, s, _, args, below, _, _, G, h0) => vx_MQ below (QX G h0 res) (XX G h0 res) args s M.2.2.2.2.2.1 M.2.2.2.2.2.2.1 (AA h0)
def CtX (l : Launch) (y : MethodName) (M : MI) (G : GG) (av : List LV) (h : HS) (res : Option Int32 × HS) : Prop :=
  vx_Met l y (Cond.code y M.1 M.2.1 M.2.2.2.1 :: TBL) (rmD M.2.2.2.2.1 M.2.2.2.2.2.1 M.2.2.2.2.2.2.1) (va_Pc (av.map lvV) (fun U => hOk G h U.heap ∧ KW G U)) (QX G h res) (XX G h res) M.2.2.2.2.2.1 M.2.2.2.2.2.2.1 (AA h)
def EZ (E : EV) : Prop :=
  match E with
  | (_, l, _, _, s, _, _, _, _, c, G, h0) => hOk G h0 s.heap ∧ (∀ x ∈ c.exceptionTable.toList, False) ∧ l.stackTraces = false
theorem CtX.of {l : Launch} {y : MethodName} {M : MI} {G : GG} {av : List LV} {h : HS} {k : Option (Option Int32 × HS)} {res : Option Int32 × HS} (hl0 : l.stackTraces = false) (hy : plainName y.cls = true) (hown : y.cls = M.2.2.1) (hnm : y.name = M.2.2.2.2.2.2.2) (hlen : wl av ≤ M.2.1)
    (hk : k = some res) (hs : ∀ (p : Program) (e : Env) (s : State) (m : MethodId) (args : Array Value) (below : List Frame) (meth : Method) (c : Code), EZ (p, l, e, rmD M.2.2.2.2.1 M.2.2.2.2.2.1 M.2.2.2.2.2.2.1, s, m, args, below, meth, c, G, h) → Sim (p, l, e, rmD M.2.2.2.2.1 M.2.2.2.2.2.1 M.2.2.2.2.2.2.1, s, m, args, below, meth, c, G, h) M finX 0 0 0 (largs 0 av) [] h k) : CtX l y M G av h res := by
  refine vx_ofW (cc := M.1) (maxL := M.2.1) (ret := M.2.2.2.1) hy rfl ?_
  intro p e s m args below meth c s₁ B hml htab hv
  obtain ⟨hav, hH, hK⟩ := hv
  have hts := atoms_spec (ws := Cond.code y M.1 M.2.1 M.2.2.2.1 :: TBL) B.pre
  have hown' : s.vm.findClass M.2.2.1 = some m.cls := by rw [← hown]; exact findClass_of_methodNamed B.named
  have hl := lv_entry (av.map lvV) (n := M.2.1) (by rw [wl_eq]; exact hlen)
  rw [largs_eq] at hl
  subst hav
  rw [lg_entry_eq]
  exact hs p e s m _ below meth c ⟨hH, htab, hl0⟩ ⟨B.exec, B.bytes, hml, hown', B.returns, rfl, ((name_of_methodNamed B.named B.method).1).trans hnm, B.notSynchronized, fun w hw => hts w (List.mem_cons_of_mem _ hw), hK⟩ res hk _ s.heap [] hl hH (SS.rf hH.1)
theorem nse_all : (vx_at0 RX8 106 NSE NMS).all (fun w => tables_1.contains w && (goodWord w || nestWord w)) = true := by decide +kernel
theorem nse_cl : Cond.classLink RX8 104 NSE ∈ TBL := tbl_in 768 (by decide +kernel) (by decide +kernel)
theorem nse_in : Cond.initialized NSE ∈ TBL := tbl_in 22 (by decide +kernel) (by decide +kernel)
theorem nse_ot : ∀ w ∈ Cond.classLink RX8 104 NSE :: Cond.initialized NSE :: vx_at0 RX8 106 NSE NMS, vx_ot w = true := by decide +kernel
theorem nse_at {args : Array Value} {s : State} {G : GG} (h1 : ∀ w ∈ TBL, w.before args s = true) (h2 : KW G s) : ∀ w ∈ vx_at0 RX8 106 NSE NMS, w.before args s = true := by
  intro w hw
  have h3 := List.all_eq_true.mp nse_all w hw
  simp only [Bool.and_eq_true, Bool.or_eq_true] at h3
  obtain ⟨h4, h5⟩ := h3
  have h6 : w ∈ tables_1 := by simpa using h4
  rcases h5 with h5 | h5
  · exact h1 w (List.mem_filter.mpr ⟨List.mem_append_right _ h6, h5⟩)
  · exact va_Nw.use (nst_on h5) (h2.2.2.1 w (List.mem_filter.mpr ⟨h6, h5⟩))
section SX
variable {E : EV} {M : MI} {cells slots pc : Nat} {lo : LL} {st : List Value} {h : HS}
theorem sx_throw (hz : EZ E) (hM : M.2.2.1 = RX8) (d0 : decode M.1 pc = .ok (.new 104, 3)) (d3 : decode M.1 (pc + 3) = .ok (.dup, 1)) (d4 : decode M.1 (pc + 4) = .ok (.invokespecial 106, 3)) (d7 : decode M.1 (pc + 7) = .ok (.athrow, 1)) (hf : 6 ≤ M.2.2.2.2.1) (hr : st.length ≤ 4) (h1 : cells + 1 ≤ M.2.2.2.2.2.1) (h2 : slots + 6 ≤ M.2.2.2.2.2.2.1) : Sim E M finX cells slots pc lo st h (some (none, h)) := by
  obtain ⟨p, l, e, R, s, m, args, below, meth, c, G, h0⟩ := E
  intro hE res hk ls H locs hl hH hS
  cases hk
  obtain ⟨e1, e2, e3, e4, e5, e6, e7, e8, e9, e10⟩ := id hE
  obtain ⟨z1, z2, z3⟩ := hz
  have hcat := cat_sum st
  have hold : ∀ a, a < (gH G).size → ¬ AO G a → s.heap[a]? = (gH G)[a]? := fun a ha _ => z1.2.2.2.1 a ha
  have hU := (e10.2.2.2.2.2.2.2.2.2.2.2.1).kept hold
  have hN := (e10.2.2.2.2.2.2.2.2.2.2.2.2.1).kept hold
  have hAA : ∀ q, AA h0 q → AO G q := fun q hq => by
    rcases hq with hq | hq
    · exact z1.2.2.1 q hq
    · exact Nat.le_trans z1.2.2.2.2.1 hq
  have hS' : va_S (AO G) s.heap H locs := ⟨hS.1.1, fun q g1 g2 => by
    have hlt : q < (gH G).size := Nat.not_le.mp g2
    rw [hH.2.2.2.1 q hlt]; exact (z1.2.2.2.1 q hlt).symm, fun x hx => hAA _ (hS.1.2.2 x hx)⟩
  have hHs : H.size = sz h := hH.1
  refine vx_throw0 (own := RX8) (cls := NSE) (names := NMS) (A := AO G) e1 e2 z3 (by rw [← hM]; exact e4) (by decide +kernel) (by decide +kernel) (e9 _ nse_cl) (e9 _ nse_in) (nse_at e9 e10) nse_ot hU hN hS' (by rw [e3]; exact hl.1) d0 d3 d4 d7 (fun x hx => (z2 x hx).elim) ?_ ?_ ?_ ?_ e8 (fun t hal g1 g2 => ?_) hS.1.2.2 h1 h2
  · rw [e6]; show 2 + 3 < M.2.2.2.2.1; omega
  · rw [e6]; show _ + (13 * (2 + 1) + 42) ≤ 40 * M.2.2.2.2.1; omega
  · rw [e6]; exact h1
  · rw [e6]; exact h2
  · refine ⟨rfl, rfl, by show sz h ≤ _; omega, hH.wz g1 g2, ⟨Nat.le_trans hS.1.1 g1, fun q y1 y2 => ?_⟩, hS.2.1, hS.2.2.1⟩
    rw [g2 q (Nat.lt_of_lt_of_le y1 hS.1.1)]
    exact hS.1.2.1 q y1 y2
theorem sx_iret {x : Int32} (hd : decode M.1 pc = .ok (.ireturn, 1)) (hr : M.2.2.2.1 = some .int) (h1 : cells ≤ M.2.2.2.2.2.1) (h2 : slots ≤ M.2.2.2.2.2.2.1) : Sim E M finX cells slots pc lo [.int x] h (some (some x, h)) := by
  obtain ⟨p, l, e, R, s, m, args, below, meth, c, G, h0⟩ := E
  intro hE res hk ls H locs hl hH hS
  cases hk
  obtain ⟨e1, e2, e3, e4, e5, e6, e7, e8, e9, e10⟩ := id hE
  refine vx_ret ?_
  refine W.widen h1 h2 ?_
  exact W.iret e1 e2 (e5.trans hr) (fun t ht hW => ⟨x, rfl, rfl, by rw [ht]; exact hH, hS.1.F ht, hS.2.1, hS.2.2.1⟩) hS.1.2.2 hd e8
end SX
/-! the law's three callers -/
def QZ (G : GG) (h0 : HS) (res : Int32 × HS) : Array Value → State → Outcome → State → Prop := fun _ st oc t => oc = .returned (some (.int res.1)) ∧ sz res.2 ≤ t.heap.size ∧ hOk G (wz res.2 t.heap.size) t.heap ∧ va_F (AA h0) st t ∧ (∀ q, WrK (kd res.2 q) → AA h0 q)
def finZ : FIN (Int32 × HS) := fun E M res =>
  match E with
  | (_, _, _, _, s, _, args, below, _, _, G, h0) => MQ below (QZ G h0 res) args s M.2.2.2.2.2.1 M.2.2.2.2.2.2.1 (AA h0)
def CtW (l : Launch) (y : MethodName) (M : MI) (hh : List (Nat × Nat × Nat × Nat)) (G : GG) (av : List LV) (h : HS) (res : Int32 × HS) : Prop :=
  Met l y (Cond.codeWith y M.1 M.2.1 M.2.2.2.1 hh :: TBL) (rmD M.2.2.2.2.1 M.2.2.2.2.2.1 M.2.2.2.2.2.2.1) (va_Pc (av.map lvV) (fun U => hOk G h U.heap ∧ KW G U)) (QZ G h res) M.2.2.2.2.2.1 M.2.2.2.2.2.2.1 (AA h)
def EW (hh : List (Nat × Nat × Nat × Nat)) (E : EV) : Prop :=
  match E with
  | (_, _, _, _, _, _, _, _, _, c, _, _) => c.exceptionTable.toList = tableOf hh
theorem CtW.of {l : Launch} {y : MethodName} {M : MI} {hh : List (Nat × Nat × Nat × Nat)} {G : GG} {av : List LV} {h : HS} {k : Option (Int32 × HS)} {res : Int32 × HS} (hy : plainName y.cls = true) (hown : y.cls = M.2.2.1) (hnm : y.name = M.2.2.2.2.2.2.2) (hlen : wl av ≤ M.2.1)
    (hk : k = some res) (hs : ∀ (p : Program) (e : Env) (s : State) (m : MethodId) (args : Array Value) (below : List Frame) (meth : Method) (c : Code), EW hh (p, l, e, rmD M.2.2.2.2.1 M.2.2.2.2.2.1 M.2.2.2.2.2.2.1, s, m, args, below, meth, c, G, h) → Sim (p, l, e, rmD M.2.2.2.2.1 M.2.2.2.2.2.1 M.2.2.2.2.2.2.1, s, m, args, below, meth, c, G, h) M finZ 0 0 0 (largs 0 av) [] h k) : CtW l y M hh G av h res := by
  refine va_MetW (cc := M.1) (maxL := M.2.1) (ret := M.2.2.2.1) (hh := hh) hy rfl ?_
  intro p e s m args below meth c s₁ B hml hv
  obtain ⟨hav, hH, hK⟩ := hv
  have hts := atoms_spec (ws := Cond.codeWith y M.1 M.2.1 M.2.2.2.1 hh :: TBL) B.pre
  have htab := vx_table (x := y) B (hts _ List.mem_cons_self)
  have hown' : s.vm.findClass M.2.2.1 = some m.cls := by rw [← hown]; exact findClass_of_methodNamed B.named
  have hl := lv_entry (av.map lvV) (n := M.2.1) (by rw [wl_eq]; exact hlen)
  rw [largs_eq] at hl
  subst hav
  rw [lg_entry_eq]
  exact hs p e s m _ below meth c htab ⟨B.exec, B.bytes, hml, hown', B.returns, rfl, ((name_of_methodNamed B.named B.method).1).trans hnm, B.notSynchronized, fun w hw => hts w (List.mem_cons_of_mem _ hw), hK⟩ res hk _ s.heap [] hl hH (SS.rf hH.1)
theorem nse_lk : Cond.classLink RL 13 NSE ∈ TBL := tbl_in 763 (by decide +kernel) (by decide +kernel)
theorem nse_cs : Cond.castable NSE NSE ∈ NST := nst_in 770 (by decide +kernel) (by decide +kernel)
def oM {β : Type} (o : Option Int32) (s : Int32 → β) (n : β) : β := match o with
  | some v => s v
  | none => n
section SW
variable {E : EV} {M M' : MI} {cells slots pc n index : Nat} {lo : LL} {st rest : List Value} {h : HS} {y : MethodName}
theorem sw_ret {x : Int32} {k : Nat} (hk9 : sz h ≤ k) (hd : decode M.1 pc = .ok (.ireturn, 1)) (hr : M.2.2.2.1 = some .int) (h1 : cells ≤ M.2.2.2.2.2.1) (h2 : slots ≤ M.2.2.2.2.2.2.1) : Sim E M finZ cells slots pc lo [.int x] (wz h k) (some (x, h)) := by
  obtain ⟨p, l, e, R, s, m, args, below, meth, c, G, h0⟩ := E
  intro hE res hk ls H locs hl hH hS
  cases hk
  obtain ⟨e1, e2, e3, e4, e5, e6, e7, e8, e9, e10⟩ := id hE
  refine W.widen h1 h2 ?_
  have hsz : H.size = k := hH.1
  exact W.iret e1 e2 (e5.trans hr) (fun t ht hW => ⟨rfl, by rw [ht, hsz]; exact hk9, by rw [ht, hsz]; exact hH, hS.1.F ht, hS.2.1⟩) hS.1.2.2 hd e8
theorem sw_cv {f : Nat → Option (Option Int32 × HS)} {kS : Int32 → HS → Option (Int32 × HS)} {kN : HS → Option (Int32 × HS)} {r : Option Nat} {spc epc hpc : Nat} (hw : EW [(spc, epc, hpc, 13)] E) (hM : M.2.2.1 = RL) (hcov : spc ≤ pc ∧ pc < epc) (cn : Nat) (av : List LV) (hd : decode M.1 pc = .ok (.invokevirtual index, 3)) (hs : st = (av.map lvV).reverse ++ va_rf r :: rest) (hm : MC y M' n) (hl : Cond.methodLink M.2.2.1 index y ∈ TBL) (hin : Cond.instanceMethod y ∈ TBL) {rr : vw_C} (hrr : vwCl[cn]? = some rr) (hse : Cond.selects rr.1 y y ∈ TBL) (hc : cn < 100) (hn : av.length = n) (hf : CF M M' cells slots) (hr : rest.length ≤ 4) (hC : ∀ b q, f b = some q → CtX (lE E) y M' (gE E) (lvR (some b) :: av) h q)
    (k1 : ∀ v h', Sim E M finZ (cells + M'.2.2.2.2.2.1) (slots + M'.2.2.2.2.2.2.1) (pc + 3) lo (.int v :: rest) h' (kS v h')) (k2 : ∀ h' k q9, sz h' ≤ k → Sim E M finZ (cells + M'.2.2.2.2.2.1) (slots + M'.2.2.2.2.2.2.1) hpc lo [va_rf (some q9)] (wz h' k) (kN h')) : Sim E M finZ cells slots pc lo st h ((vc h r cn f).bind fun q => oM q.1 (fun v => kS v q.2) (kN q.2)) := by
  obtain ⟨p, l, e, R, s, m, args, below, meth, c, G, h0⟩ := E
  intro hE res hk ls H locs hl' hH hS
  obtain ⟨q, hq, hk2⟩ := bind_some hk
  obtain ⟨b, rfl, hkd, hfb⟩ := vc_some hq
  subst hs
  obtain ⟨e1, e2, e3, e4, e5, e6, e7, e8, e9, e10⟩ := id hE
  obtain ⟨c1, c2, c3, c4⟩ := hm
  obtain ⟨f1, f2, f3, f4⟩ := hf
  obtain ⟨r2, hr2, cell, g1, g2, g3, -⟩ := gcell hH hkd hc
  cases hr2.symm.trans hrr
  have hcl := (e10.1.1 cn _ hrr).2
  have hpre : PreV s H rr.1 b (va_Pc ((lvR (some b) :: av).map lvV) (fun U => hOk G h U.heap ∧ KW G U)) (av.map lvV) := ⟨blind, ⟨cell, g1, by rw [g3]; rfl, by rw [g2]; exact hcl.1⟩, fun U hU hW => ⟨rfl, by rw [hU]; exact hH, KW.moved hW e10⟩⟩
  have hcat := cat_sum rest
  have hroom : 2 * (F0 m pc ls ((av.map lvV).reverse ++ .ref b :: rest)).monitorRoom + (rest.map fun v => v.category).sum ≤ 8 := by show 2 * 0 + _ ≤ 8; omega
  have hcells : cells + M'.2.2.2.2.2.1 ≤ R.cells ∧ slots + M'.2.2.2.2.2.2.1 ≤ R.slots := by rw [e6]; exact ⟨f3, f4⟩
  have hfr : (rmD M'.2.2.2.2.1 M'.2.2.2.2.2.1 M'.2.2.2.2.2.2.1).frames + 1 ≤ R.frames := by rw [e6]; exact f1
  have hlo : 8 + (M'.2.1 + 11) + (rmD M'.2.2.2.2.1 M'.2.2.2.2.2.1 M'.2.2.2.2.2.2.1).locals ≤ R.locals := by rw [e6]; exact f2
  have hrun := vx_runV (p := p) (l := l) (e := e) (R := R) (below := below) (meth := meth) (locs := locs) (cells := cells) (slots := slots) ⟨e1, e2, e3, e4, e9⟩ (hC b q hfb) ⟨⟨rfl, rfl, hfr, hlo, ws_ok e9 c1, List.mem_cons_self, e9 _ c1, e9 _ c2, c3, len_ok c4, e9 _ hl⟩, e9 _ hin, e9 _ hse⟩ hpre (g := F0 m pc ls ((av.map lvV).reverse ++ .ref b :: rest)) rfl (by rw [List.length_map]; exact hn) hl'.1 rfl hroom hd hcells
  have hsub : ∀ q, AA h q → AA h0 q := fun q hq => by
    rcases hq with z | z
    · exact hS.2.1 q z
    · exact Or.inr (Nat.le_trans hS.2.2.1 z)
  have keep : ∀ (st₀ t T' : State) (L : List Loc), st₀.heap = H → T'.heap = t.heap → (∀ z ∈ L, AA h z.base) → va_F (AA h) st₀ t → va_S (AA h0) s.heap T'.heap (locs ++ L) := fun st₀ t T' L a1 a2 a3 a4 => (vx_keep a1 a2 hS.1 (fun q _ hq => hsub q hq) hsub a3 a4).2.2
  intro T hT X
  rcases hrun T hT X with ⟨v, st₀, t, T', L, y1, X', hL, y2, y3, ⟨v', hv', hv, hOk', hF, hw', hszz⟩, stp⟩ | ⟨q9, st₀, t, T', L, E9, ce, y1, X', hL, y2, y3, ⟨w1, w2, w3, w4, hF, w6, w7⟩, hce, hcv, hcl9, stp⟩
  · cases hv
    rw [hv'] at hk2
    change kS v' q.2 = some res at hk2
    obtain ⟨t2, a1, b1⟩ := k1 v' q.2 hE res hk2 ls T'.heap (locs ++ L) hl' (by rw [y2]; exact hOk') ⟨keep st₀ t T' L y1 y2 hL hF, fun q hq => hsub q (hw' q hq), Nat.le_trans hS.2.2.1 hszz, hS.2.2.2⟩ T' rfl X'
    exact ⟨t2, stp t2 a1, b1⟩
  · rw [w1] at hk2
    change kN q.2 = some res at hk2
    subst w2
    have hcatch := vx_catch (p := p) (l := l) (e := e) (R := R) (below := below) (meth := meth) (locs := locs ++ L) (cells := cells + M'.2.2.2.2.2.1) (slots := slots + M'.2.2.2.2.2.2.1) (own := RL) (name := NSE) (E := NSE) (ce := ce) (q := q9) (pc := pc) (ls := ls) (rest := rest) (by rw [← hM]; exact e4) [] ⟨spc, epc, hpc, 13⟩ [] hw (fun z hz => by cases hz) (by simp [covers, hcov]) (fun z => absurd (show (13 : Nat) = 0 from z) (by decide)) (e9 _ nse_lk) (va_Nw.use (nst_on (List.mem_filter.mp nse_cs).2) (e10.2.2.1 _ nse_cs)) (H := T'.heap) (by rw [y2]; exact hce) hcv hcl9
      (k2 q.2 t.heap.size q9 w3 hE res hk2 ls T'.heap (locs ++ L) hl' (by rw [y2]; exact w4) ⟨keep st₀ t T' L y1 y2 hL hF, fun q hq => hsub q (w6 q hq), Nat.le_trans hS.2.2.1 (Nat.le_trans w7 w3), hS.2.2.2⟩)
    obtain ⟨t2, a1, b1⟩ := hcatch T' rfl X'
    exact ⟨t2, stp.trans a1, b1⟩
end SW
