/-! NEW CELLS, CALLS, over Sim -/
def okTy : FieldType → Bool
  | .int => true
  | .boolean => true
  | .object _ => true
  | .array _ => true
  | _ => false
theorem dflt_ok {ty : FieldType} (h : okTy ty = true) : defaultValue ty = if ty.isReference = true then va_rf none else .int 0 := by
  cases ty <;> first | rfl | (simp [okTy] at h)
theorem tyC_all (cn : Nat) (r : vw_C) (hr : vwCl[cn]? = some r) : ∀ k, k < r.2.2 → okTy (tyC cn k) = true := by
  match cn, hr with
  | 0, hr => cases hr; decide
  | 1, hr => cases hr; decide
  | 2, hr => cases hr; decide
  | 3, hr => cases hr; decide
  | 4, hr => cases hr; decide
  | 5, hr => cases hr; decide
  | 6, hr => cases hr; decide
  | 7, hr => cases hr; decide
  | 8, hr => cases hr; decide
  | 9, hr => cases hr; decide
  | 10, hr => cases hr; decide
  | n + 11, hr => simp [vwCl] at hr
def LN (own : String) (index cn n : Nat) : Prop := ∃ r, vwCl[cn]? = some r ∧ r.2.2 = n ∧ Cond.classLink own index r.1 ∈ TBL ∧ Cond.instantiable r.1 n ∈ TBL ∧ Cond.initialized r.1 ∈ TBL
theorem SS.new {h0 h h' : HS} {H0 H H1 : Heap} {locs : List Loc} (hS : SS h0 H0 h H locs) (hz : H.size = sz h) (hk : ∀ q, q ≠ sz h → kd h' q = kd h q) (hz' : sz h' = sz h + 1) (z2 : H1.size = sz h + 1) (z3 : ∀ q, q < sz h → H1[q]? = H[q]?) : SS h0 H0 h' H1 locs := by
  obtain ⟨⟨s1, s2, s3⟩, s4, s5, s6⟩ := hS
  refine ⟨⟨by omega, fun q h1 h2 => ?_, s3⟩, fun q hq => ?_, by omega, s6⟩
  · rw [z3 q (by omega)]; exact s2 q h1 h2
  · by_cases hqs : q = sz h
    · exact Or.inr (by omega)
    · rw [hk q hqs] at hq; exact s4 q hq
theorem hOk.new {G : GG} {h h' : HS} {H H1 : Heap} (hH : hOk G h H) (hz' : sz h' = sz h + 1) (ec : cs h' = cs h) (ek : ∀ q, q ≠ sz h → kd h' q = kd h q) (e1 : ∀ g b, b ≠ sz h → fi h' g b = fi h g b) (e2 : ∀ g b, b ≠ sz h → fr h' g b = fr h g b) (e3 : ∀ b, b ≠ sz h → ln h' b = ln h b) (e4 : ∀ b, b ≠ sz h → ai h' b = ai h b) (e5 : ∀ b, b ≠ sz h → al h' b = al h b) (e6 : ∀ b, b ≠ sz h → ar h' b = ar h b) (hc : cellP G h' (sz h) H1) (z2 : H1.size = sz h + 1) (z3 : ∀ q, q < sz h → H1[q]? = H[q]?) : hOk G h' H1 := by
  have hb0 := hH.2.2.2.2.1
  refine ⟨by omega, fun b hb => ?_, fun b hb => ?_, fun b hb => ?_, by omega, by rw [ec]; exact hH.2.2.2.2.2⟩
  · by_cases hbs : b = sz h
    · subst hbs; exact ⟨by omega, hc⟩
    · rw [ek b hbs] at hb
      obtain ⟨h1, h2⟩ := hH.2.1 b hb
      exact ⟨by omega, h2.to (ek b hbs) (fun g => e1 g b hbs) (fun g => e2 g b hbs) (e3 b hbs) (e4 b hbs) (e5 b hbs) (e6 b hbs) (z3 b h1)⟩
  · by_cases hbs : b = sz h
    · omega
    · rw [ek b hbs] at hb; exact hH.2.2.1 b hb
  · rw [z3 b (by omega)]; exact hH.2.2.2.1 b hb
theorem ob_inst : Cond.instanceMethod Lib.objectInit ∈ TBL := tbl_in 33 (by decide +kernel) (by decide +kernel)
theorem ob_code : Cond.code Lib.objectInit ⟨#[0xb1]⟩ 1 none ∈ TBL := tbl_in 34 (by decide +kernel) (by decide +kernel)
theorem cat_le (v : Value) : v.category ≤ 2 := by rcases lv_cat v with h | h <;> omega
theorem cat_sum : ∀ (st : List Value), (st.map fun v => v.category).sum ≤ 2 * st.length
  | [] => Nat.le_refl _
  | v :: r => by
    have h1 := cat_le v
    have h2 := cat_sum r
    simp only [List.map_cons, List.sum_cons, List.length_cons]
    omega
section SN
variable {ρ : Type} {E : EV} {M : MI} {out : FIN ρ} {cells slots pc : Nat} {lo : LL} {st : List Value} {h : HS}
theorem si_new {k : Option ρ} {index : Nat} (cn n : Nat) (hL : LN M.2.2.1 index cn n) (hd : decode M.1 pc = .ok (.new index, 3)) (hc : cn < 100) (h1 : cells + 1 ≤ M.2.2.2.2.2.1) (h2 : slots + n ≤ M.2.2.2.2.2.2.1) (k1 : Sim E M out (cells + 1) (slots + n) (pc + 3) lo (va_rf (some (sz h)) :: st) (nO h cn) k) : Sim E M out cells slots pc lo st h k := by
  obtain ⟨p, l, e, R, s, m, args, below, meth, c, G, h0⟩ := E
  intro hE res hk ls H locs hl hH hS
  obtain ⟨rr, hrr, rfl, w1, w2, w3⟩ := hL
  obtain ⟨e1, e2, e3, e4, e5, e6, e7, e8, e9, e10⟩ := id hE
  have hKn := e10.1.1 cn _ hrr
  have hcR : R.cells = M.2.2.2.2.2.1 := by rw [e6]; rfl
  have hsR : R.slots = M.2.2.2.2.2.2.1 := by rw [e6]; rfl
  refine W.newcK e1 e2 e4 (e9 _ w1) (e9 _ w2) (e9 _ w3) rfl hd (by omega) (by omega) hKn.2.1 hH.1 fun H1 kC hkC z1 z2 z3 => ?_
  refine k1 hE res hk ls H1 locs hl ?_ (hS.new hH.1 (fun q hq => by simp [kd, nO, va_up, hq]) rfl z2 z3)
  refine hH.new rfl rfl (fun q hq => by simp [kd, nO, va_up, hq]) (fun g b hb => by simp [fi, nO, hb]) (fun g b hb => by simp [fr, nO, hb]) (fun b hb => rfl) (fun b hb => rfl) (fun b hb => rfl) (fun b hb => rfl) ?_ z2 z3
  have hkd : kd (nO h cn) (sz h) = cn + 1 := by simp [kd, nO, va_up]
  refine ⟨fun n h3 h4 => ?_, fun h3 => ?_, fun h3 => ?_, fun h3 => ?_, fun h3 => ?_, fun h3 => ?_, fun h3 => ?_⟩
  · rw [hkd] at h3
    have : n = cn := by omega
    subst this
    refine ⟨rr, hrr, (u_born (tyC n) e9 (inT n _ hrr) hKn hkC z1 (tyC_ok n _ hrr)).to (fun k hk => ?_)⟩
    rw [dflt_ok (tyC_all n _ hrr k hk)]
    simp [fv, rfF, fi, fr, nO]
  · rw [hkd] at h3; simp [kI] at h3; omega
  · rw [hkd] at h3; omega
  · rw [hkd] at h3; simp [kR] at h3; omega
  · rw [hkd] at h3; omega
  · rw [hkd] at h3; omega
  · rw [hkd] at h3; omega
/-- a new array of at most 'cap' places -/
def nwA (cap : Nat) (h : HS) (k : Nat) (n : Int32) : Option (Option Nat × HS) := if inB n (cap + 1) = true then some (some (sz h), nA h k n.toNatClampNeg) else none
theorem nwA_some {cap k : Nat} {h : HS} {n : Int32} {q : Option Nat × HS} (hg : nwA cap h k n = some q) : inB n (cap + 1) = true ∧ q = (some (sz h), nA h k n.toNatClampNeg) := by
  by_cases hk : inB n (cap + 1) = true
  · simp only [nwA, if_pos hk] at hg; exact ⟨hk, (Option.some.inj hg).symm⟩
  · simp only [nwA, if_neg hk] at hg; cases hg
theorem hOk_nA {G : GG} {h : HS} {H H1 : Heap} {k n : Nat} (hH : hOk G h H) (hk : kA k = true) (hk3 : k < 300) (hI : kI k = true → H1[sz h]? = some (arrV (dA G k) n (fun _ => .int 0))) (hJ : k = 204 → H1[sz h]? = some (arrV (dA G 204) n (fun _ => .long 0))) (hR : kR k = true → H1[sz h]? = some (arrV (dA G k) n (fun _ => va_rf none))) (z2 : H1.size = sz h + 1) (z3 : ∀ q, q < sz h → H1[q]? = H[q]?) : hOk G (nA h k n) H1 := by
  refine hH.new rfl rfl (fun q hq => by simp [kd, nA, va_up, hq]) (fun g b hb => rfl) (fun g b hb => rfl) (fun b hb => by simp [ln, nA, va_up, hb]) (fun b hb => by simp [ai, nA, va_up, hb]) (fun b hb => by simp [al, nA, va_up, hb]) (fun b hb => by simp [ar, nA, va_up, hb]) ?_ z2 z3
  have hkd : kd (nA h k n) (sz h) = k := by simp [kd, nA, va_up]
  have e3 : ln (nA h k n) (sz h) = n := by simp [ln, nA, va_up]
  have e4 : ai (nA h k n) (sz h) = fun _ => 0 := by simp [ai, nA, va_up]
  have e5 : al (nA h k n) (sz h) = fun _ => 0 := by simp [al, nA, va_up]
  have e6 : ar (nA h k n) (sz h) = fun _ => none := by simp [ar, nA, va_up]
  refine ⟨fun j h3 h4 => ?_, fun h3 => ?_, fun h3 => ?_, fun h3 => ?_, fun h3 => ?_, fun h3 => ?_, fun h3 => ?_⟩
  · exfalso
    rw [hkd] at h3
    simp only [kA, kI, kR, Bool.or_eq_true, beq_iff_eq] at hk
    omega
  · rw [hkd] at h3 ⊢; rw [e3, e4]; exact hI h3
  · rw [hkd] at h3; rw [e3, e5]; exact hJ h3
  · rw [hkd] at h3 ⊢; rw [e3, e6]; exact hR h3
  · rw [hkd] at h3; omega
  · rw [hkd] at h3; omega
  · rw [hkd] at h3; omega
theorem si_newa {kk : Option Nat × HS → Option ρ} {n : Int32} {at0 : ArrayType} (cap kn : Nat) (hd : decode M.1 pc = .ok (.newarray at0, 2)) (hty : newarray.typeOf at0 = tyK kn) (hkn : kn = 201 ∨ kn = 202 ∨ kn = 203 ∨ kn = 204) (hw : Cond.arrayClass (tyK kn) ∈ TBL) (hcap : cap ≤ 1000000) (h1 : cells + 1 ≤ M.2.2.2.2.2.1) (h2 : slots + cap ≤ M.2.2.2.2.2.2.1) (k1 : ∀ q : Option Nat × HS, Sim E M out (cells + 1) (slots + cap) (pc + 2) lo (va_rf q.1 :: st) q.2 (kk q)) : Sim E M out cells slots pc lo (.int n :: st) h ((nwA cap h kn n).bind kk) := by
  obtain ⟨p, l, e, R, s, m, args, below, meth, c, G, h0⟩ := E
  intro hE res hk ls H locs hl hH hS
  obtain ⟨q, hq, hk⟩ := bind_some hk
  obtain ⟨hn, rfl⟩ := nwA_some hq
  obtain ⟨e1, e2, e3, e4, e5, e6, e7, e8, e9, e10⟩ := id hE
  have hin := inB_in hn
  have hn0 : ¬ n < 0 := fun q => hin (Or.inl q)
  have hnc : n.toNatClampNeg ≤ cap := by have : ¬ cap + 1 ≤ n.toNatClampNeg := fun q => hin (Or.inr q); omega
  have hcR : R.cells = M.2.2.2.2.2.1 := by rw [e6]; rfl
  have hsR : R.slots = M.2.2.2.2.2.2.1 := by rw [e6]; rfl
  have hcb : componentBytes (tyK kn) ≤ 8 := by rcases hkn with rfl | rfl | rfl | rfl <;> decide
  refine va_newaK e1 e2 (by rw [hty]; exact e9 _ hw) rfl hd rfl hn0 rfl (by rw [hty]; exact Nat.le_trans (Nat.mul_le_mul (Nat.le_trans hnc hcap) hcb) (by decide)) (by omega) (by omega) hH.1 fun H1 cA z1 z2 z3 hAr hfc => ?_
  rw [hty] at hfc z1
  have hcA : cA = dA G kn := by
    have hm : (kn, tyK kn) ∈ arT := by rcases hkn with rfl | rfl | rfl | rfl <;> simp [arT, tyK]
    have h5 := (arr_of e10 hm).2
    rcases hkn with rfl | rfl | rfl | rfl <;> exact Option.some.inj (hfc.symm.trans h5)
  subst hcA
  refine W.widen (Nat.le_refl _) (show slots + n.toNatClampNeg ≤ slots + cap by omega) ?_
  refine k1 (some (sz h), nA h kn n.toNatClampNeg) hE res hk ls H1 locs hl ?_ (hS.new hH.1 (fun q hq => by simp [kd, nA, va_up, hq]) rfl z2 z3)
  refine hOk_nA hH (by rcases hkn with rfl | rfl | rfl | rfl <;> rfl) (by omega) (fun h3 => ?_) (fun h3 => ?_) (fun h3 => ?_) z2 z3
  · rw [z1]; rcases hkn with rfl | rfl | rfl | rfl <;> first | rfl | cases h3
  · subst h3; rw [z1]; rfl
  · exfalso; rcases hkn with rfl | rfl | rfl | rfl <;> cases h3
theorem si_newq {kk : Option Nat × HS → Option ρ} {n : Int32} {index : Nat} (cap kn : Nat) (hd : decode M.1 pc = .ok (.anewarray index, 3)) (C : String) (hkn : (kn = 205 ∧ C = "PanelHouse$RateText") ∨ (kn = 206 ∧ C = "java/lang/Object")) (hw : Cond.classLink M.2.2.1 index C ∈ TBL) (hcap : cap ≤ 1000000) (h1 : cells + 1 ≤ M.2.2.2.2.2.1) (h2 : slots + cap ≤ M.2.2.2.2.2.2.1) (k1 : ∀ q : Option Nat × HS, Sim E M out (cells + 1) (slots + cap) (pc + 3) lo (va_rf q.1 :: st) q.2 (kk q)) : Sim E M out cells slots pc lo (.int n :: st) h ((nwA cap h kn n).bind kk) := by
  obtain ⟨p, l, e, R, s, m, args, below, meth, c, G, h0⟩ := E
  intro hE res hk ls H locs hl hH hS
  obtain ⟨q, hq, hk⟩ := bind_some hk
  obtain ⟨hn, rfl⟩ := nwA_some hq
  obtain ⟨e1, e2, e3, e4, e5, e6, e7, e8, e9, e10⟩ := id hE
  have hin := inB_in hn
  have hn0 : ¬ n < 0 := fun q => hin (Or.inl q)
  have hnc : n.toNatClampNeg ≤ cap := by have : ¬ cap + 1 ≤ n.toNatClampNeg := fun q => hin (Or.inr q); omega
  have hcR : R.cells = M.2.2.2.2.2.1 := by rw [e6]; rfl
  have hsR : R.slots = M.2.2.2.2.2.2.1 := by rw [e6]; rfl
  have hAO : va_AO C s := by
    rcases hkn with ⟨-, rfl⟩ | ⟨-, rfl⟩
    · exact e10.2.2.2.2.1
    · exact e10.2.2.2.1
  refine W.anew e1 e2 e4 (e9 _ hw) (va_AO.use hAO) rfl hd rfl hn0 (by omega) (by omega) (by omega) fun cA kA0 comp f1 f2 f3 f4 => ?_
  generalize hH1 : H.push ({ cls := cA, slots := Array.replicate n.toNatClampNeg .null, vm := .none } : Cell) = H1
  have z2 : H1.size = sz h + 1 := by rw [← hH1, Array.size_push, hH.1]
  have z1 : H1[sz h]? = some (arrV cA n.toNatClampNeg (fun _ => .null)) := by rw [← hH1, ← hH.1, Array.getElem?_push_size, ← arrV_new]
  have z3 : ∀ q : Nat, q < sz h → H1[q]? = H[q]? := fun q hq => by rw [← hH1, Array.getElem?_push, if_neg (by rw [hH.1]; exact Nat.ne_of_lt hq)]
  have hcA : cA = dA G kn := by
    rcases hkn with ⟨rfl, rfl⟩ | ⟨rfl, rfl⟩
    · obtain ⟨_, _, _, _, _, h5⟩ := (arr_of e10 (k := 205) (by simp [arT, tyK])).2
      exact Option.some.inj (f1.symm.trans h5)
    · obtain ⟨_, _, _, _, _, h5⟩ := (arr_of e10 (k := 206) (by simp [arT, tyK])).2
      exact Option.some.inj (f1.symm.trans h5)
  subst hcA
  have hsz : H.size = sz h := hH.1
  refine W.widen (Nat.le_refl _) (show slots + n.toNatClampNeg ≤ slots + cap by omega) ?_
  rw [hsz]
  refine k1 (some (sz h), nA h kn n.toNatClampNeg) hE res hk ls H1 locs hl ?_ (hS.new hH.1 (fun q hq => by simp [kd, nA, va_up, hq]) rfl z2 z3)
  refine hOk_nA hH (by rcases hkn with ⟨rfl, -⟩ | ⟨rfl, -⟩ <;> rfl) (by omega) (fun h3 => ?_) (fun h3 => ?_) (fun h3 => ?_) z2 z3
  · exfalso; rcases hkn with ⟨rfl, -⟩ | ⟨rfl, -⟩ <;> cases h3
  · exfalso; rcases hkn with ⟨rfl, -⟩ | ⟨rfl, -⟩ <;> cases h3
  · rw [z1]; rfl
/-- Object's constructor -/
theorem si_obj {k : Option ρ} {index a : Nat} (hd : decode M.1 pc = .ok (.invokespecial index, 3)) (hw : Cond.methodLink M.2.2.1 index Lib.objectInit ∈ TBL) (hf : 1 ≤ M.2.2.2.2.1) (hr : st.length ≤ 4) (k1 : Sim E M out cells slots (pc + 3) lo st h k) : Sim E M out cells slots pc lo (va_rf (some a) :: st) h k := by
  obtain ⟨p, l, e, R, s, m, args, below, meth, c, G, h0⟩ := E
  intro hE res hk ls H locs hl hH hS
  obtain ⟨e1, e2, e3, e4, e5, e6, e7, e8, e9, e10⟩ := id hE
  have hs := cat_sum st
  refine W.objInit e1 e2 e4 (e9 _ hw) (e9 _ ob_inst) (e9 _ ob_code) rfl (by rw [e3]; exact hl.1) rfl hd (by rw [e6]; exact hf) ?_ (k1 hE res hk ls H locs hl hH hS)
  rw [e6]
  show 2 * 0 + (st.map fun v => v.category).sum + 12 ≤ 40 * M.2.2.2.2.1
  omega
/-- a cast of an object of its class -/
def cst {β : Type} (h : HS) (r : Option Nat) (c : Nat) (k : Option β) : Option β := if r = none ∨ isO h r c = true then k else none
theorem si_cast {k : Option ρ} {index : Nat} {r : Option Nat} (cn : Nat) {rr : vw_C} (hrr : vwCl[cn]? = some rr) (hw : Cond.classLink M.2.2.1 index rr.1 ∈ TBL) (hd : decode M.1 pc = .ok (.checkcast index, 3)) (hc : cn < 100) (k1 : Sim E M out cells slots (pc + 3) lo (va_rf r :: st) h k) : Sim E M out cells slots pc lo (va_rf r :: st) h (cst h r cn k) := by
  obtain ⟨p, l, e, R, s, m, args, below, meth, c, G, h0⟩ := E
  intro hE res hk ls H locs hl hH hS
  obtain ⟨e1, e2, e3, e4, e5, e6, e7, e8, e9, e10⟩ := id hE
  have hcond : r = none ∨ isO h r cn = true := by
    by_cases hx : r = none ∨ isO h r cn = true
    · exact hx
    · simp only [cst, if_neg hx] at hk; cases hk
  simp only [cst, if_pos hcond] at hk
  have k2 := k1 hE res hk ls H locs hl hH hS
  cases r with
  | none => exact lv_castN e1 e2 hd k2
  | some a =>
    have hka : kd h a = cn + 1 := by
      rcases hcond with q | q
      · cases q
      · simpa [isO] using q
    obtain ⟨r2, hr2, cell, g1, g2, g3, -⟩ := gcell hH hka hc
    cases hr2.symm.trans hrr
    have hcl := (e10.1.1 cn _ hrr).2
    exact va_castS e1 e2 e4 (e9 _ hw) hcl ⟨cell, g1, by rw [g3]; rfl, by rw [g2]; exact hcl.1⟩ hd k2
end SN
