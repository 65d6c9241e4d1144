/-! CALLS, over Sim -/
/-- a method that can be called -/
def MC (y : MethodName) (M : MI) (n : Nat) : Prop := Cond.code y M.1 M.2.1 M.2.2.2.1 ∈ TBL ∧ Cond.initialized y.cls ∈ TBL ∧ (y.cls ≠ "java/lang/invoke/MethodHandle" ∧ y.cls ≠ "java/lang/invoke/VarHandle") ∧ (parseMethodDescriptor y.desc).map (fun d => d.parameters.length) = some n
def ML (own : String) (index : Nat) (y : MethodName) : Prop := Cond.methodLink own index y ∈ TBL ∨ ∃ host, Cond.methodLinkNest own index y host ∈ NST
/-- the callee's room within the caller's -/
def CF (M M' : MI) (cells slots : Nat) : Prop := M'.2.2.2.2.1 + 1 ≤ M.2.2.2.2.1 ∧ 8 + (M'.2.1 + 11) + 40 * M'.2.2.2.2.1 ≤ 40 * M.2.2.2.2.1 ∧ cells + M'.2.2.2.2.2.1 ≤ M.2.2.2.2.2.1 ∧ slots + M'.2.2.2.2.2.2.1 ≤ M.2.2.2.2.2.2.1
theorem ws_ok {s : State} {args : Array Value} (h : ∀ w ∈ TBL, w.before args s = true) {y : MethodName} {M : MI} (hc : Cond.code y M.1 M.2.1 M.2.2.2.1 ∈ TBL) : ∀ w ∈ (Cond.code y M.1 M.2.1 M.2.2.2.1 :: TBL), ∀ (a' : Array Value) (U : State), s.WarmedH U.vm → w.before a' U = true := by
  intro w hw a' U hW
  have hw2 : w ∈ TBL := by
    rcases List.mem_cons.mp hw with rfl | q
    · exact hc
    · exact q
  exact word_at hW (good_of_word (List.mem_filter.mp hw2).2) (h w hw2)
theorem blind {G : GG} {av : List Value} {h : HS} : FrameBlind (va_Pc av (fun U => hOk G h U.heap ∧ KW G U)) := fun a U g mk q => ⟨q.1, q.2.1, KW.moved (s := U) (U := U.calling g mk a) (State.WarmedH.refl U) q.2.2⟩
theorem len_ok {y : MethodName} {n : Nat} (h : (parseMethodDescriptor y.desc).map (fun d => d.parameters.length) = some n) : ∀ sig, parseMethodDescriptor y.desc = some sig → n = sig.parameters.length := by
  intro sig hs
  rw [hs] at h
  exact (Option.some.inj h).symm
section RUN
variable {p : Program} {l : Launch} {e : Env} {R : Room} {s : State} {m : MethodId} {args : Array Value} {below : List Frame} {meth : Method} {c : Code} {H : Heap} {locs : List Loc} {cells slots : Nat} {Q : State → Prop} {G : GG} {M M' : MI} {pc : Nat} {ls : Array Slot} {rest : List Value} {h h0 : HS} {y : MethodName} {av : List LV} {o : Outcome × HS} {n index : Nat}
theorem w_runS (hE : EOk p R s m args meth c G M) (hC : Ct l y M' G av h o) (hm : MC y M' n) (hl : ML M.2.2.1 index y) (hst : Cond.static y ∈ TBL) (hn : av.length = n) (hf : CF M M' cells slots) (hr : rest.length ≤ 4) (hls : ls.size = M.2.1) (hH : hOk G h H) (hd : decode M.1 pc = .ok (.invokestatic index, 3)) : va_Run p l e R s m args below meth c H locs cells slots M'.2.2.2.2.2.1 M'.2.2.2.2.2.2.1 (F0 m pc ls ((av.map lvV).reverse ++ rest)) rest (QR G h o (av.map lvV).toArray) (AA h) := by
  obtain ⟨e1, e2, e3, e4, e5, e6, e7, e8, e9, e10⟩ := id hE
  obtain ⟨c1, c2, c3, c4⟩ := hm
  obtain ⟨f1, f2, f3, f4⟩ := hf
  have hpre : PreS s H (va_Pc (av.map lvV) (fun U => hOk G h U.heap ∧ KW G U)) (av.map lvV) := ⟨blind, fun U hU hW => ⟨rfl, by rw [hU]; exact hH, KW.moved hW e10⟩⟩
  have hcat := cat_sum rest
  have hroom : 2 * (F0 m pc ls ((av.map lvV).reverse ++ rest)).monitorRoom + (rest.map fun v => v.category).sum ≤ 8 := by show 2 * 0 + _ ≤ 8; omega
  have hcells : cells + M'.2.2.2.2.2.1 ≤ R.cells ∧ slots + M'.2.2.2.2.2.2.1 ≤ R.slots := by rw [e6]; exact ⟨f3, f4⟩
  have hfr : (rmD M'.2.2.2.2.1 M'.2.2.2.2.2.1 M'.2.2.2.2.2.2.1).frames + 1 ≤ R.frames := by rw [e6]; exact f1
  have hlo : 8 + (M'.2.1 + 11) + (rmD M'.2.2.2.2.1 M'.2.2.2.2.2.1 M'.2.2.2.2.2.2.1).locals ≤ R.locals := by rw [e6]; exact f2
  rcases hl with hl | ⟨host, hl⟩
  · exact va_runS ⟨e1, e2, e3, e4, e9⟩ hC ⟨⟨rfl, rfl, hfr, hlo, ws_ok e9 c1, List.mem_cons_self, e9 _ c1, e9 _ c2, c3, len_ok c4, e9 _ hl⟩, e9 _ hst⟩ hpre rfl (by rw [List.length_map]; exact hn) hls rfl hroom hd hcells
  · exact va_runSN (host := host) ⟨e1, e2, e3, e4, e9⟩ hC ⟨⟨⟨rfl, rfl, hfr, hlo, ws_ok e9 c1, List.mem_cons_self⟩, e9 _ c1, e9 _ c2, c3, len_ok c4, va_Nw.use (nst_on (List.mem_filter.mp hl).2) (e10.2.2.1 _ hl)⟩, e9 _ hst, trivial⟩ hpre rfl (by rw [List.length_map]; exact hn) hls rfl hroom hd hcells
theorem w_runI {b : Nat} (hE : EOk p R s m args meth c G M) (hC : Ct l y M' G (lvR (some b) :: av) h o) (hret : M'.2.2.2.1 = none) (hm : MC y M' n) (hl : ML M.2.2.1 index y) (hin : Cond.instanceMethod y ∈ TBL) (hy : y.name = "<init>") (hn : av.length = n) (hf : CF M M' cells slots) (hr : rest.length ≤ 4) (hls : ls.size = M.2.1) (hH : hOk G h H) (hd : decode M.1 pc = .ok (.invokespecial index, 3)) : va_Run p l e R s m args below meth c H locs cells slots M'.2.2.2.2.2.1 M'.2.2.2.2.2.2.1 (F0 m pc ls ((av.map lvV).reverse ++ .ref b :: rest)) rest (QR G h o (Value.ref b :: av.map lvV).toArray) (AA h) := by
  obtain ⟨e1, e2, e3, e4, e5, e6, e7, e8, e9, e10⟩ := id hE
  obtain ⟨c1, c2, c3, c4⟩ := hm
  obtain ⟨f1, f2, f3, f4⟩ := hf
  have hpre : PreS s H (va_Pc ((lvR (some b) :: av).map lvV) (fun U => hOk G h U.heap ∧ KW G U)) (.ref b :: av.map lvV) := ⟨blind, fun U hU hW => ⟨rfl, by rw [hU]; exact hH, KW.moved hW e10⟩⟩
  have hcat := cat_sum rest
  have hroom : 2 * (F0 m pc ls ((av.map lvV).reverse ++ .ref b :: rest)).monitorRoom + (rest.map fun v => v.category).sum ≤ 8 := by show 2 * 0 + _ ≤ 8; omega
  have hcells : cells + M'.2.2.2.2.2.1 ≤ R.cells ∧ slots + M'.2.2.2.2.2.2.1 ≤ R.slots := by rw [e6]; exact ⟨f3, f4⟩
  have hfr : (rmD M'.2.2.2.2.1 M'.2.2.2.2.2.1 M'.2.2.2.2.2.2.1).frames + 1 ≤ R.frames := by rw [e6]; exact f1
  have hlo : 8 + (M'.2.1 + 11) + (rmD M'.2.2.2.2.1 M'.2.2.2.2.2.1 M'.2.2.2.2.2.2.1).locals ≤ R.locals := by rw [e6]; exact f2
  have hwk := ws_ok e9 c1
  have hC' := hC
  unfold Ct at hC'
  rw [hret] at hC' hwk c1
  rcases hl with hl | ⟨host, hl⟩
  · exact va_runI ⟨e1, e2, e3, e4, e9⟩ hC' ⟨⟨rfl, rfl, hfr, hlo, hwk, List.mem_cons_self, e9 _ c1, e9 _ c2, c3, len_ok c4, e9 _ hl⟩, hy, e9 _ hin⟩ hpre rfl (by rw [List.length_map]; exact hn) hls rfl hroom hd hcells
  · exact va_runIN (host := host) ⟨e1, e2, e3, e4, e9⟩ hC' ⟨⟨⟨rfl, rfl, hfr, hlo, hwk, List.mem_cons_self⟩, e9 _ c1, e9 _ c2, c3, len_ok c4, va_Nw.use (nst_on (List.mem_filter.mp hl).2) (e10.2.2.1 _ hl)⟩, hy, e9 _ hin⟩ hpre rfl (by rw [List.length_map]; exact hn) hls rfl hroom hd hcells
theorem w_runV {b cn : Nat} {rr : vw_C} (hE : EOk p R s m args meth c G M) (hC : Ct l y M' G (lvR (some b) :: av) h o) (hm : MC y M' n) (hl : ML M.2.2.1 index y) (hin : Cond.instanceMethod y ∈ TBL) (hrr : vwCl[cn]? = some rr) (hse : Cond.selects rr.1 y y ∈ TBL) (hkd : kd h b = cn + 1) (hc : cn < 100) (hn : av.length = n) (hf : CF M M' cells slots) (hr : rest.length ≤ 4) (hls : ls.size = M.2.1) (hH : hOk G h H) (hd : decode M.1 pc = .ok (.invokevirtual index, 3)) : va_Run p l e R s m args below meth c H locs cells slots M'.2.2.2.2.2.1 M'.2.2.2.2.2.2.1 (F0 m pc ls ((av.map lvV).reverse ++ .ref b :: rest)) rest (QR G h o (Value.ref b :: av.map lvV).toArray) (AA h) := by
  obtain ⟨e1, e2, e3, e4, e5, e6, e7, e8, e9, e10⟩ := id hE
  obtain ⟨c1, c2, c3, c4⟩ := hm
  obtain ⟨f1, f2, f3, f4⟩ := hf
  obtain ⟨r2, hr2, cell, g1, g2, g3, -⟩ := gcell hH hkd hc
  cases hr2.symm.trans hrr
  have hcl := (e10.1.1 cn _ hrr).2
  have hpre : PreV s H rr.1 b (va_Pc ((lvR (some b) :: av).map lvV) (fun U => hOk G h U.heap ∧ KW G U)) (av.map lvV) := ⟨blind, ⟨cell, g1, by rw [g3]; rfl, by rw [g2]; exact hcl.1⟩, fun U hU hW => ⟨rfl, by rw [hU]; exact hH, KW.moved hW e10⟩⟩
  have hcat := cat_sum rest
  have hroom : 2 * (F0 m pc ls ((av.map lvV).reverse ++ .ref b :: rest)).monitorRoom + (rest.map fun v => v.category).sum ≤ 8 := by show 2 * 0 + _ ≤ 8; omega
  have hcells : cells + M'.2.2.2.2.2.1 ≤ R.cells ∧ slots + M'.2.2.2.2.2.2.1 ≤ R.slots := by rw [e6]; exact ⟨f3, f4⟩
  have hfr : (rmD M'.2.2.2.2.1 M'.2.2.2.2.2.1 M'.2.2.2.2.2.2.1).frames + 1 ≤ R.frames := by rw [e6]; exact f1
  have hlo : 8 + (M'.2.1 + 11) + (rmD M'.2.2.2.2.1 M'.2.2.2.2.2.1 M'.2.2.2.2.2.2.1).locals ≤ R.locals := by rw [e6]; exact f2
  rcases hl with hl | ⟨host, hl⟩
  · exact va_runV ⟨e1, e2, e3, e4, e9⟩ hC ⟨⟨rfl, rfl, hfr, hlo, ws_ok e9 c1, List.mem_cons_self, e9 _ c1, e9 _ c2, c3, len_ok c4, e9 _ hl⟩, e9 _ hin, e9 _ hse⟩ hpre rfl (by rw [List.length_map]; exact hn) hls rfl hroom hd hcells
  · exact va_runVN (host := host) ⟨e1, e2, e3, e4, e9⟩ hC ⟨⟨⟨rfl, rfl, hfr, hlo, ws_ok e9 c1, List.mem_cons_self⟩, e9 _ c1, e9 _ c2, c3, len_ok c4, va_Nw.use (nst_on (List.mem_filter.mp hl).2) (e10.2.2.1 _ hl)⟩, e9 _ hin, e9 _ hse⟩ hpre rfl (by rw [List.length_map]; exact hn) hls rfl hroom hd hcells
/-- behind a call -/
theorem w_back {st0 : List Value} {arr : Array Value} {v : Option Value} {mc ms : Nat} (hr : va_Run p l e R s m args below meth c H locs cells slots mc ms (F0 m pc ls st0) rest (QR G h o arr) (AA h)) (ho : o.1 = .returned v) (hH : hOk G h H) (hS : SS h0 s.heap h H locs)
    (kk : ∀ (H1 : Heap) (locs1 : List Loc), hOk G o.2 H1 → SS h0 s.heap o.2 H1 locs1 → W p l e R s m args below meth c H1 locs1 (cells + mc) (slots + ms) Q (F0 m (pc + 3) ls (v.toList ++ rest))) : W p l e R s m args below meth c H locs cells slots Q (F0 m pc ls st0) := by
  intro T hT X
  obtain ⟨v', st₀, t, T', L, h00, X', hL, e1, e2, ⟨hv, hOk', ⟨hz, hk⟩, hw, hszz⟩, st⟩ := hr T hT X
  rw [ho] at hv
  cases hv
  rw [h00] at hz hk
  have hsub : ∀ q, AA h q → AA h0 q := fun q hq => by
    rcases hq with z | z
    · exact hS.2.1 q z
    · exact Or.inr (Nat.le_trans hS.2.2.1 z)
  have hHs : H.size = sz h := hH.1
  obtain ⟨t2, a1, b1⟩ := kk T'.heap (locs ++ L) (by rw [e1]; exact hOk')
    ⟨⟨Nat.le_trans hS.1.1 (by rw [e1]; exact hz), fun q h1 h2 => by
      rw [e1, hk q (Nat.lt_of_lt_of_le h1 hS.1.1) (fun z => h2 (hsub q z))]; exact hS.1.2.1 q h1 h2, fun q hq => by
      rcases List.mem_append.mp hq with h | h
      · exact hS.1.2.2 q h
      · exact hsub _ (hL q h)⟩, fun q hq => hsub q (hw q hq), Nat.le_trans hS.2.2.1 hszz, hS.2.2.2⟩ T' rfl X'
  exact ⟨t2, st t2 a1, b1⟩
end RUN
def lE (E : EV) : Launch := E.2.1
def gE (E : EV) : GG := E.2.2.2.2.2.2.2.2.2.2.1
/-- a method of the object r, if r is one of class c -/
def vc {β : Type} (h : HS) (r : Option Nat) (c : Nat) (f : Nat → Option β) : Option β := match r with
  | none => none
  | some a => if kd h a = c + 1 then f a else none
theorem vc_some {β : Type} {h : HS} {r : Option Nat} {c : Nat} {f : Nat → Option β} {b : β} (hg : vc h r c f = some b) : ∃ a, r = some a ∧ kd h a = c + 1 ∧ f a = some b := by
  cases r with
  | none => cases hg
  | some a =>
    by_cases hk : kd h a = c + 1
    · simp only [vc, if_pos hk] at hg; exact ⟨a, rfl, hk, hg⟩
    · simp only [vc, if_neg hk] at hg; cases hg
section CALL
variable {ρ β : Type} {E : EV} {M M' : MI} {out : FIN ρ} {out' : β → Outcome × HS} {cells slots pc n index : Nat} {lo : LL} {h : HS} {y : MethodName} {rest : List Value} {kk : β → Option ρ}
theorem si_cs {o : Option β} (av : List LV) (hd : decode M.1 pc = .ok (.invokestatic index, 3)) (hm : MC y M' n) (hl : ML M.2.2.1 index y) (hst : Cond.static y ∈ TBL) (hn : av.length = n) (hf : CF M M' cells slots) (hr : rest.length ≤ 4) (hC : ∀ q, o = some q → Ct (lE E) y M' (gE E) av h (out' q)) (vo : β → Option Value) (hvo : ∀ q, (out' q).1 = .returned (vo q)) {st : List Value} (hs : st = (av.map lvV).reverse ++ rest)
    (k1 : ∀ q, Sim E M out (cells + M'.2.2.2.2.2.1) (slots + M'.2.2.2.2.2.2.1) (pc + 3) lo ((vo q).toList ++ rest) (out' q).2 (kk q)) : Sim E M out cells slots pc lo st h (o.bind kk) := by
  obtain ⟨p, l, e, R, s, m, args, below, meth, c, G, h0⟩ := E
  intro hE res hk ls H locs hl' hH hS
  obtain ⟨q, hq, hk⟩ := bind_some hk
  subst hs
  exact w_back (w_runS hE (hC q hq) hm hl hst hn hf hr hl'.1 hH hd) (hvo q) hH hS (fun H1 locs1 h1 h2 => k1 q hE res hk ls H1 locs1 hl' h1 h2)
theorem si_ci {o : Option β} {b : Nat} (av : List LV) (hd : decode M.1 pc = .ok (.invokespecial index, 3)) (hm : MC y M' n) (hret : M'.2.2.2.1 = none) (hl : ML M.2.2.1 index y) (hin : Cond.instanceMethod y ∈ TBL) (hy : y.name = "<init>") (hn : av.length = n) (hf : CF M M' cells slots) (hr : rest.length ≤ 4) (hC : ∀ q, o = some q → Ct (lE E) y M' (gE E) (lvR (some b) :: av) h (out' q)) (vo : β → Option Value) (hvo : ∀ q, (out' q).1 = .returned (vo q)) {st : List Value} (hs : st = (av.map lvV).reverse ++ va_rf (some b) :: rest)
    (k1 : ∀ q, Sim E M out (cells + M'.2.2.2.2.2.1) (slots + M'.2.2.2.2.2.2.1) (pc + 3) lo ((vo q).toList ++ rest) (out' q).2 (kk q)) : Sim E M out cells slots pc lo st h (o.bind kk) := by
  obtain ⟨p, l, e, R, s, m, args, below, meth, c, G, h0⟩ := E
  intro hE res hk ls H locs hl' hH hS
  obtain ⟨q, hq, hk⟩ := bind_some hk
  subst hs
  exact w_back (w_runI hE (hC q hq) hret hm hl hin hy hn hf hr hl'.1 hH hd) (hvo q) hH hS (fun H1 locs1 h1 h2 => k1 q hE res hk ls H1 locs1 hl' h1 h2)
theorem si_cv {f : Nat → Option β} {r : Option Nat} (cn : Nat) (av : List LV) (hd : decode M.1 pc = .ok (.invokevirtual index, 3)) (hm : MC y M' n) (hl : ML M.2.2.1 index y) (hin : Cond.instanceMethod y ∈ TBL) {rr : vw_C} (hrr : vwCl[cn]? = some rr) (hse : Cond.selects rr.1 y y ∈ TBL) (hc : cn < 100) (hn : av.length = n) (hf : CF M M' cells slots) (hr : rest.length ≤ 4) (hC : ∀ b q, f b = some q → Ct (lE E) y M' (gE E) (lvR (some b) :: av) h (out' q)) (vo : β → Option Value) (hvo : ∀ q, (out' q).1 = .returned (vo q)) {st : List Value} (hs : st = (av.map lvV).reverse ++ va_rf r :: rest)
    (k1 : ∀ q, Sim E M out (cells + M'.2.2.2.2.2.1) (slots + M'.2.2.2.2.2.2.1) (pc + 3) lo ((vo q).toList ++ rest) (out' q).2 (kk q)) : Sim E M out cells slots pc lo st h ((vc h r cn f).bind kk) := by
  obtain ⟨p, l, e, R, s, m, args, below, meth, c, G, h0⟩ := E
  intro hE res hk ls H locs hl' hH hS
  obtain ⟨q, hq, hk2⟩ := bind_some hk
  obtain ⟨b, rfl, hkd, hfb⟩ := vc_some hq
  subst hs
  exact w_back (w_runV hE (hC b q hfb) hm hl hin hrr hse hkd hc hn hf hr hl'.1 hH hd) (hvo q) hH hS (fun H1 locs1 h1 h2 => k1 q hE res hk2 ls H1 locs1 hl' h1 h2)
end CALL
abbrev vI (q : Int32 × HS) : Option Value := some (.int q.1)
abbrev vL (q : Int64 × HS) : Option Value := some (.long q.1)
abbrev vR (q : Option Nat × HS) : Option Value := some (va_rf q.1)
abbrev vV (_ : HS) : Option Value := none
section CALLT
variable {ρ : Type} {E : EV} {M M' : MI} {out : FIN ρ} {cells slots pc n index : Nat} {lo : LL} {h : HS} {y : MethodName} {rest st : List Value}
theorem si_csI {kk : Int32 × HS → Option ρ} {o : Option (Int32 × HS)} (av : List LV) (hd : decode M.1 pc = .ok (.invokestatic index, 3)) (hs : st = (av.map lvV).reverse ++ rest) (hm : MC y M' n) (hl : ML M.2.2.1 index y) (hst : Cond.static y ∈ TBL) (hn : av.length = n) (hf : CF M M' cells slots) (hr : rest.length ≤ 4) (hC : ∀ q, o = some q → Ct (lE E) y M' (gE E) av h (oI q)) (k1 : ∀ q : Int32 × HS, Sim E M out (cells + M'.2.2.2.2.2.1) (slots + M'.2.2.2.2.2.2.1) (pc + 3) lo (.int q.1 :: rest) q.2 (kk q)) : Sim E M out cells slots pc lo st h (o.bind kk) := si_cs av hd hm hl hst hn hf hr hC vI (fun _ => rfl) hs k1
theorem si_ciI {kk : Int32 × HS → Option ρ} {o : Option (Int32 × HS)} {b : Nat} (av : List LV) (hd : decode M.1 pc = .ok (.invokespecial index, 3)) (hs : st = (av.map lvV).reverse ++ va_rf (some b) :: rest) (hm : MC y M' n) (hret : M'.2.2.2.1 = none) (hl : ML M.2.2.1 index y) (hin : Cond.instanceMethod y ∈ TBL) (hy : y.name = "<init>") (hn : av.length = n) (hf : CF M M' cells slots) (hr : rest.length ≤ 4) (hC : ∀ q, o = some q → Ct (lE E) y M' (gE E) (lvR (some b) :: av) h (oI q)) (k1 : ∀ q : Int32 × HS, Sim E M out (cells + M'.2.2.2.2.2.1) (slots + M'.2.2.2.2.2.2.1) (pc + 3) lo (.int q.1 :: rest) q.2 (kk q)) : Sim E M out cells slots pc lo st h (o.bind kk) := si_ci av hd hm hret hl hin hy hn hf hr hC vI (fun _ => rfl) hs k1
theorem si_cvI {kk : Int32 × HS → Option ρ} {f : Nat → Option (Int32 × HS)} {r : Option Nat} (cn : Nat) (av : List LV) (hd : decode M.1 pc = .ok (.invokevirtual index, 3)) (hs : st = (av.map lvV).reverse ++ va_rf r :: rest) (hm : MC y M' n) (hl : ML M.2.2.1 index y) (hin : Cond.instanceMethod y ∈ TBL) {rr : vw_C} (hrr : vwCl[cn]? = some rr) (hse : Cond.selects rr.1 y y ∈ TBL) (hc : cn < 100) (hn : av.length = n) (hf : CF M M' cells slots) (hr : rest.length ≤ 4) (hC : ∀ b q, f b = some q → Ct (lE E) y M' (gE E) (lvR (some b) :: av) h (oI q)) (k1 : ∀ q : Int32 × HS, Sim E M out (cells + M'.2.2.2.2.2.1) (slots + M'.2.2.2.2.2.2.1) (pc + 3) lo (.int q.1 :: rest) q.2 (kk q)) : Sim E M out cells slots pc lo st h ((vc h r cn f).bind kk) := si_cv cn av hd hm hl hin hrr hse hc hn hf hr hC vI (fun _ => rfl) hs k1
theorem si_csL {kk : Int64 × HS → Option ρ} {o : Option (Int64 × HS)} (av : List LV) (hd : decode M.1 pc = .ok (.invokestatic index, 3)) (hs : st = (av.map lvV).reverse ++ rest) (hm : MC y M' n) (hl : ML M.2.2.1 index y) (hst : Cond.static y ∈ TBL) (hn : av.length = n) (hf : CF M M' cells slots) (hr : rest.length ≤ 4) (hC : ∀ q, o = some q → Ct (lE E) y M' (gE E) av h (oL q)) (k1 : ∀ q : Int64 × HS, Sim E M out (cells + M'.2.2.2.2.2.1) (slots + M'.2.2.2.2.2.2.1) (pc + 3) lo (.long q.1 :: rest) q.2 (kk q)) : Sim E M out cells slots pc lo st h (o.bind kk) := si_cs av hd hm hl hst hn hf hr hC vL (fun _ => rfl) hs k1
theorem si_ciL {kk : Int64 × HS → Option ρ} {o : Option (Int64 × HS)} {b : Nat} (av : List LV) (hd : decode M.1 pc = .ok (.invokespecial index, 3)) (hs : st = (av.map lvV).reverse ++ va_rf (some b) :: rest) (hm : MC y M' n) (hret : M'.2.2.2.1 = none) (hl : ML M.2.2.1 index y) (hin : Cond.instanceMethod y ∈ TBL) (hy : y.name = "<init>") (hn : av.length = n) (hf : CF M M' cells slots) (hr : rest.length ≤ 4) (hC : ∀ q, o = some q → Ct (lE E) y M' (gE E) (lvR (some b) :: av) h (oL q)) (k1 : ∀ q : Int64 × HS, Sim E M out (cells + M'.2.2.2.2.2.1) (slots + M'.2.2.2.2.2.2.1) (pc + 3) lo (.long q.1 :: rest) q.2 (kk q)) : Sim E M out cells slots pc lo st h (o.bind kk) := si_ci av hd hm hret hl hin hy hn hf hr hC vL (fun _ => rfl) hs k1
theorem si_cvL {kk : Int64 × HS → Option ρ} {f : Nat → Option (Int64 × HS)} {r : Option Nat} (cn : Nat) (av : List LV) (hd : decode M.1 pc = .ok (.invokevirtual index, 3)) (hs : st = (av.map lvV).reverse ++ va_rf r :: rest) (hm : MC y M' n) (hl : ML M.2.2.1 index y) (hin : Cond.instanceMethod y ∈ TBL) {rr : vw_C} (hrr : vwCl[cn]? = some rr) (hse : Cond.selects rr.1 y y ∈ TBL) (hc : cn < 100) (hn : av.length = n) (hf : CF M M' cells slots) (hr : rest.length ≤ 4) (hC : ∀ b q, f b = some q → Ct (lE E) y M' (gE E) (lvR (some b) :: av) h (oL q)) (k1 : ∀ q : Int64 × HS, Sim E M out (cells + M'.2.2.2.2.2.1) (slots + M'.2.2.2.2.2.2.1) (pc + 3) lo (.long q.1 :: rest) q.2 (kk q)) : Sim E M out cells slots pc lo st h ((vc h r cn f).bind kk) := si_cv cn av hd hm hl hin hrr hse hc hn hf hr hC vL (fun _ => rfl) hs k1
theorem si_csR {kk : Option Nat × HS → Option ρ} {o : Option (Option Nat × HS)} (av : List LV) (hd : decode M.1 pc = .ok (.invokestatic index, 3)) (hs : st = (av.map lvV).reverse ++ rest) (hm : MC y M' n) (hl : ML M.2.2.1 index y) (hst : Cond.static y ∈ TBL) (hn : av.length = n) (hf : CF M M' cells slots) (hr : rest.length ≤ 4) (hC : ∀ q, o = some q → Ct (lE E) y M' (gE E) av h (oR q)) (k1 : ∀ q : Option Nat × HS, Sim E M out (cells + M'.2.2.2.2.2.1) (slots + M'.2.2.2.2.2.2.1) (pc + 3) lo (va_rf q.1 :: rest) q.2 (kk q)) : Sim E M out cells slots pc lo st h (o.bind kk) := si_cs av hd hm hl hst hn hf hr hC vR (fun _ => rfl) hs k1
theorem si_ciR {kk : Option Nat × HS → Option ρ} {o : Option (Option Nat × HS)} {b : Nat} (av : List LV) (hd : decode M.1 pc = .ok (.invokespecial index, 3)) (hs : st = (av.map lvV).reverse ++ va_rf (some b) :: rest) (hm : MC y M' n) (hret : M'.2.2.2.1 = none) (hl : ML M.2.2.1 index y) (hin : Cond.instanceMethod y ∈ TBL) (hy : y.name = "<init>") (hn : av.length = n) (hf : CF M M' cells slots) (hr : rest.length ≤ 4) (hC : ∀ q, o = some q → Ct (lE E) y M' (gE E) (lvR (some b) :: av) h (oR q)) (k1 : ∀ q : Option Nat × HS, Sim E M out (cells + M'.2.2.2.2.2.1) (slots + M'.2.2.2.2.2.2.1) (pc + 3) lo (va_rf q.1 :: rest) q.2 (kk q)) : Sim E M out cells slots pc lo st h (o.bind kk) := si_ci av hd hm hret hl hin hy hn hf hr hC vR (fun _ => rfl) hs k1
theorem si_cvR {kk : Option Nat × HS → Option ρ} {f : Nat → Option (Option Nat × HS)} {r : Option Nat} (cn : Nat) (av : List LV) (hd : decode M.1 pc = .ok (.invokevirtual index, 3)) (hs : st = (av.map lvV).reverse ++ va_rf r :: rest) (hm : MC y M' n) (hl : ML M.2.2.1 index y) (hin : Cond.instanceMethod y ∈ TBL) {rr : vw_C} (hrr : vwCl[cn]? = some rr) (hse : Cond.selects rr.1 y y ∈ TBL) (hc : cn < 100) (hn : av.length = n) (hf : CF M M' cells slots) (hr : rest.length ≤ 4) (hC : ∀ b q, f b = some q → Ct (lE E) y M' (gE E) (lvR (some b) :: av) h (oR q)) (k1 : ∀ q : Option Nat × HS, Sim E M out (cells + M'.2.2.2.2.2.1) (slots + M'.2.2.2.2.2.2.1) (pc + 3) lo (va_rf q.1 :: rest) q.2 (kk q)) : Sim E M out cells slots pc lo st h ((vc h r cn f).bind kk) := si_cv cn av hd hm hl hin hrr hse hc hn hf hr hC vR (fun _ => rfl) hs k1
theorem si_csV {kk : HS → Option ρ} {o : Option (HS)} (av : List LV) (hd : decode M.1 pc = .ok (.invokestatic index, 3)) (hs : st = (av.map lvV).reverse ++ rest) (hm : MC y M' n) (hl : ML M.2.2.1 index y) (hst : Cond.static y ∈ TBL) (hn : av.length = n) (hf : CF M M' cells slots) (hr : rest.length ≤ 4) (hC : ∀ q, o = some q → Ct (lE E) y M' (gE E) av h (oV q)) (k1 : ∀ q : HS, Sim E M out (cells + M'.2.2.2.2.2.1) (slots + M'.2.2.2.2.2.2.1) (pc + 3) lo rest q (kk q)) : Sim E M out cells slots pc lo st h (o.bind kk) := si_cs av hd hm hl hst hn hf hr hC vV (fun _ => rfl) hs k1
theorem si_ciV {kk : HS → Option ρ} {o : Option (HS)} {b : Nat} (av : List LV) (hd : decode M.1 pc = .ok (.invokespecial index, 3)) (hs : st = (av.map lvV).reverse ++ va_rf (some b) :: rest) (hm : MC y M' n) (hret : M'.2.2.2.1 = none) (hl : ML M.2.2.1 index y) (hin : Cond.instanceMethod y ∈ TBL) (hy : y.name = "<init>") (hn : av.length = n) (hf : CF M M' cells slots) (hr : rest.length ≤ 4) (hC : ∀ q, o = some q → Ct (lE E) y M' (gE E) (lvR (some b) :: av) h (oV q)) (k1 : ∀ q : HS, Sim E M out (cells + M'.2.2.2.2.2.1) (slots + M'.2.2.2.2.2.2.1) (pc + 3) lo rest q (kk q)) : Sim E M out cells slots pc lo st h (o.bind kk) := si_ci av hd hm hret hl hin hy hn hf hr hC vV (fun _ => rfl) hs k1
theorem si_cvV {kk : HS → Option ρ} {f : Nat → Option (HS)} {r : Option Nat} (cn : Nat) (av : List LV) (hd : decode M.1 pc = .ok (.invokevirtual index, 3)) (hs : st = (av.map lvV).reverse ++ va_rf r :: rest) (hm : MC y M' n) (hl : ML M.2.2.1 index y) (hin : Cond.instanceMethod y ∈ TBL) {rr : vw_C} (hrr : vwCl[cn]? = some rr) (hse : Cond.selects rr.1 y y ∈ TBL) (hc : cn < 100) (hn : av.length = n) (hf : CF M M' cells slots) (hr : rest.length ≤ 4) (hC : ∀ b q, f b = some q → Ct (lE E) y M' (gE E) (lvR (some b) :: av) h (oV q)) (k1 : ∀ q : HS, Sim E M out (cells + M'.2.2.2.2.2.1) (slots + M'.2.2.2.2.2.2.1) (pc + 3) lo rest q (kk q)) : Sim E M out cells slots pc lo st h ((vc h r cn f).bind kk) := si_cv cn av hd hm hl hin hrr hse hc hn hf hr hC vV (fun _ => rfl) hs k1
end CALLT
theorem sel_in {q : MethodName × Nat} (i : Nat) (h : lw_privs[i]? = some q) (g : goodWord (Cond.selects q.1.cls q.1 q.1) = true) : Cond.selects q.1.cls q.1 q.1 ∈ TBL := by
  refine List.mem_filter.mpr ⟨List.mem_append_left _ ?_, g⟩
  exact List.mem_map.mpr ⟨q, List.mem_of_getElem? h, rfl⟩
def FU : Nat := 1000
