/-! THE MEMORY's READERS AND WRITERS, as a program over the memory uses them -/
def inB (i : Int32) (n : Nat) : Bool := decide (0 ≤ i) && decide (i.toNatClampNeg < n)
theorem inB_in {i : Int32} {n : Nat} (h : inB i n = true) : vp_in i n := by
  simp only [inB, Bool.and_eq_true, decide_eq_true_eq] at h
  intro z
  rcases z with z | z
  · have h1 := Int32.le_iff_toInt_le.mp h.1
    have h2 := Int32.lt_iff_toInt_lt.mp z
    omega
  · omega
def gI (h : HS) (r : Option Nat) (c k : Nat) : Option Int32 := match r with
  | none => none
  | some a => if kd h a = c + 1 then some (fi h (100 * c + k) a) else none
def gR (h : HS) (r : Option Nat) (c k : Nat) : Option (Option Nat) := match r with
  | none => none
  | some a => if kd h a = c + 1 then some (fr h (100 * c + k) a) else none
def pI (h : HS) (r : Option Nat) (c k : Nat) (x : Int32) : Option HS := match r with
  | none => none
  | some a => if kd h a = c + 1 then some (sFi h (100 * c + k) a x) else none
def pB (h : HS) (r : Option Nat) (c k : Nat) (x : Int32) : Option HS := if x = 0 ∨ x = 1 then pI h r c k x else none
def pR (h : HS) (r : Option Nat) (c k : Nat) (x : Option Nat) : Option HS := match r with
  | none => none
  | some a => if kd h a = c + 1 then some (sFr h (100 * c + k) a x) else none
def aN (h : HS) (r : Option Nat) : Option Int32 := match r with
  | none => none
  | some a => if kA (kd h a) = true then some (nI (ln h a)) else none
def xI (kk : Nat) (h : HS) (r : Option Nat) (i : Int32) : Option Int32 := match r with
  | none => none
  | some a => if kd h a = kk ∧ inB i (ln h a) = true then some (ai h a i.toNatClampNeg) else none
def xL (h : HS) (r : Option Nat) (i : Int32) : Option Int64 := match r with
  | none => none
  | some a => if kd h a = 204 ∧ inB i (ln h a) = true then some (al h a i.toNatClampNeg) else none
def xR (kk : Nat) (h : HS) (r : Option Nat) (i : Int32) : Option (Option Nat) := match r with
  | none => none
  | some a => if kd h a = kk ∧ inB i (ln h a) = true then some (ar h a i.toNatClampNeg) else none
def yI (kk : Nat) (h : HS) (r : Option Nat) (i x : Int32) : Option HS := match r with
  | none => none
  | some a => if kd h a = kk ∧ inB i (ln h a) = true then some (sAi h a i.toNatClampNeg (vp_nar (tyK kk) x)) else none
def yL (h : HS) (r : Option Nat) (i : Int32) (x : Int64) : Option HS := match r with
  | none => none
  | some a => if kd h a = 204 ∧ inB i (ln h a) = true then some (sAl h a i.toNatClampNeg x) else none
/-- a reference into an array of references; what is stored is an object of class c -/
def yR (kk c : Nat) (h : HS) (r : Option Nat) (i : Int32) (x : Option Nat) : Option HS := match r, x with
  | some a, some b => if kd h a = kk ∧ inB i (ln h a) = true ∧ kd h b = c + 1 then some (sAr h a i.toNatClampNeg (some b)) else none
  | _, _ => none
def isO (h : HS) (r : Option Nat) (c : Nat) : Bool := match r with
  | none => false
  | some a => kd h a == c + 1
/-- links of fields -/
def LF (own : String) (index c k : Nat) : Prop := ∃ (r : vw_C) (ref : String), vwCl[c]? = some r ∧ k < r.2.2 ∧ (ref = (r.2.1 k).1 ∨ Cond.sameField ref (r.2.1 k).1 (r.2.1 k).2.1 (r.2.1 k).2.2.1 ∈ TBL) ∧ (Cond.fieldLink own index ref (r.2.1 k).2.1 (r.2.1 k).2.2.1 ∈ TBL ∨ ∃ host, Cond.fieldLinkNest own index ref (r.2.1 k).2.1 (r.2.1 k).2.2.1 host ∈ NST)
theorem gcell {G : GG} {h : HS} {H : Heap} (hH : hOk G h H) {a c : Nat} (hk : kd h a = c + 1) (hc : c < 100) : ∃ r, vwCl[c]? = some r ∧ t_OB a (G.1.1 c) r.2.2 (G.1.2 c) H (fun k => fv h c k a) := (hH.2.1 a (by omega)).2.1 c hk hc
section HW
variable {p : Program} {l : Launch} {e : Env} {R : Room} {s : State} {m : MethodId} {args : Array Value} {below : List Frame} {meth : Method} {c : Code} {H : Heap} {locs : List Loc} {cells slots : Nat} {Q : State → Prop} {G : GG} {M : MI} {pc : Nat} {ls : Array Slot} {rest : List Value}
theorem w_getf (hE : EOk p R s m args meth c G M) {index cn k0 : Nat} (hL : LF M.2.2.1 index cn k0) {a : Nat} {r : vw_C} (hr0 : vwCl[cn]? = some r) {Vf : Nat → Value} (ho : t_OB a (G.1.1 cn) r.2.2 (G.1.2 cn) H Vf) (hd : decode M.1 pc = .ok (.getfield index, 3)) (kk : W p l e R s m args below meth c H locs cells slots Q (F0 m (pc + 3) ls (Vf k0 :: rest))) : W p l e R s m args below meth c H locs cells slots Q (F0 m pc ls (.ref a :: rest)) := by
  obtain ⟨r', ref, hr, hk, hsame, hlink⟩ := hL
  cases hr.symm.trans hr0
  obtain ⟨e1, e2, e3, e4, e5, e6, e7, e8, e9, e10⟩ := hE
  obtain ⟨C, T, N⟩ := r
  obtain ⟨hS, hfc, kC, hkC, hkind⟩ := e10.1.1 cn _ hr
  obtain ⟨cf, kf, fi', f, hi, hsl⟩ := hS k0 hk
  obtain ⟨cell, q1, q2, q3, q4⟩ := ho
  have hst := (u_facts hfc hkC (u_lays e9 (inT cn _ hr) hk) hi).1
  have hi' : s.fieldFound? ref (T k0).2.1 (T k0).2.2.1 = some (cf, kf, fi', f) := by
    rcases hsame with h | h
    · rw [h]; exact hi
    · exact u_same (e9 _ h) _ hi
  have hslot : cell.slots[f.slot]? = some (Vf k0) := by rw [hsl]; exact q4 k0 hk
  rcases hlink with h | ⟨host, h⟩
  · exact W.getf e1 e2 e4 (e9 _ h) hi' hst q1 (by rw [q3]; exact fun h => by cases h) hslot rfl rfl hd kk
  · exact va_Wgetf e1 e2 e4 (va_Nw.use (nst_on (List.mem_filter.mp h).2) (e10.2.2.1 _ h)) hi' hst q1 (by rw [q3]; exact fun h => by cases h) hslot rfl rfl hd kk
theorem w_putf (hE : EOk p R s m args meth c G M) {index cn k0 : Nat} (hL : LF M.2.2.1 index cn k0) {a : Nat} {r : vw_C} (hr0 : vwCl[cn]? = some r) (hfin : (r.2.1 k0).2.2.2 = false ∨ (M.2.2.2.2.2.2.2 = "<init>" ∧ (r.2.1 k0).1 = M.2.2.1 ∧ (r.2.1 k0).2.2.2 = true ∧ Cond.fieldLink M.2.2.1 index (r.2.1 k0).1 (r.2.1 k0).2.1 (r.2.1 k0).2.2.1 ∈ TBL)) {v : Value} (hn : narrow (tyC cn k0) v = v) (hfit : fits (tyC cn k0) v = true) {Vf : Nat → Value} (ho : t_OB a (G.1.1 cn) r.2.2 (G.1.2 cn) H Vf) (hd : decode M.1 pc = .ok (.putfield index, 3))
    (kk : ∀ (H1 : Heap) (fs : Nat), t_OB a (G.1.1 cn) r.2.2 (G.1.2 cn) H1 (updV Vf k0 v) → H1.size = H.size → (∀ q, q ≠ a → H1[q]? = H[q]?) → W p l e R s m args below meth c H1 (locs ++ [⟨a, fs⟩]) cells slots Q (F0 m (pc + 3) ls rest)) : W p l e R s m args below meth c H locs cells slots Q (F0 m pc ls (v :: .ref a :: rest)) := by
  obtain ⟨r', ref, hr, hk, hsame, hlink⟩ := hL
  cases hr.symm.trans hr0
  obtain ⟨e1, e2, e3, e4, e5, e6, e7, e8, e9, e10⟩ := hE
  obtain ⟨C, T, N⟩ := r
  have hap : ∀ x y, x < N → y < N → x ≠ y → (G.1.2 cn) x ≠ (G.1.2 cn) y := va_apart (own := M.2.2.1) e9 (inT cn _ hr) (tyC cn) (tyC_ok cn _ hr) (nmC cn _ hr) e10.1 hr
  obtain ⟨hS, hfc, kC, hkC, hkind⟩ := e10.1.1 cn _ hr
  obtain ⟨cf, kf, fi', f, hi, hsl⟩ := hS k0 hk
  obtain ⟨cell, q1, q2, q3, q4⟩ := ho
  have hst := (u_facts hfc hkC (u_lays e9 (inT cn _ hr) hk) hi).1
  have hi' : s.fieldFound? ref (T k0).2.1 (T k0).2.2.1 = some (cf, kf, fi', f) := by
    rcases hsame with h | h
    · rw [h]; exact hi
    · exact u_same (e9 _ h) _ hi
  have hlay := e9 _ (inT cn _ hr _ (u_in_lay hk))
  rcases hfin with hfin | ⟨hin, hdecl, hfin, hlk⟩
  · unfold u_lay at hlay
    rw [if_neg (by rw [hfin]; decide)] at hlay
    have h6 := u_store hfc hkC hkind hlay hi (tyC_ok cn _ hr k0 hk) hn hfit
    rcases hlink with h | ⟨host, h⟩
    · refine W.putK e1 e2 (f := f) ⟨e4, e9 _ h, ⟨_, _, _, hi'⟩, hst⟩ (by rw [q2]; exact h6) q1 q3 (by rw [hsl]; exact k2_hasslot (q4 k0 hk)) rfl rfl hd fun H' z1 z2 z3 => ?_
      rw [hsl] at z1 ⊢
      exact kk H' _ ⟨_, z1, q2, q3, t_set q4 hap hk v⟩ z2 z3
    · refine va_WputK e1 e2 (f := f) e4 (va_Nw.use (nst_on (List.mem_filter.mp h).2) (e10.2.2.1 _ h)) hi' hst (by rw [q2]; exact h6) q1 q3 (by rw [hsl]; exact k2_hasslot (q4 k0 hk)) rfl rfl hd fun H' z1 z2 z3 => ?_
      rw [hsl] at z1 ⊢
      exact kk H' _ ⟨_, z1, q2, q3, t_set q4 hap hk v⟩ z2 z3
  · unfold u_lay at hlay
    rw [if_pos hfin] at hlay
    have hcf : m.cls = cf := by
      obtain ⟨_, _, c', _, _, _, -, -, hf', -, -, -, hown2, -⟩ := Cond.laysFinal_spec hlay
      have z1 : c' = cf := by have := hi.symm.trans hf'; simp at this; exact this.1.symm
      rw [hdecl] at hown2
      rw [← z1]; exact Option.some.inj (e4.symm.trans hown2)
    have h6 := u_fits hfc hkC hkind (Or.inr hlay) hi (tyC_ok cn _ hr k0 hk) hn hfit
    refine W.putFinK e1 e2 e4 (e9 _ hlk) hi hst hcf (e7.trans hin) (by rw [q2]; exact h6) q1 q3 (by rw [hsl]; exact k2_hasslot (q4 k0 hk)) rfl rfl hd fun H' z1 z2 z3 => ?_
    rw [hsl] at z1 ⊢
    exact kk H' _ ⟨_, z1, q2, q3, t_set q4 hap hk v⟩ z2 z3
end HW
theorem SS.put {h0 h h' : HS} {H0 H H1 : Heap} {locs : List Loc} {a f : Nat} (hS : SS h0 H0 h H locs) (hw : WrK (kd h a)) (hk : kd h' = kd h) (hz : sz h' = sz h) (z2 : H1.size = H.size) (z3 : ∀ q, q ≠ a → H1[q]? = H[q]?) : SS h0 H0 h' H1 (locs ++ [⟨a, f⟩]) :=
  ⟨hS.1.put z2 z3 (hS.2.1 a hw), fun q hq => hS.2.1 q (by rw [← hk]; exact hq), by rw [hz]; exact hS.2.2.1, hS.2.2.2⟩
theorem hOk.old {G : GG} {h : HS} {H H1 : Heap} {a : Nat} (hH : hOk G h H) (hw : WrK (kd h a)) (z3 : ∀ q, q ≠ a → H1[q]? = H[q]?) : ∀ b, b < (gH G).size → H1[b]? = (gH G)[b]? := by
  intro b hb
  have h1 := hH.2.2.1 a hw
  rw [z3 b (by omega)]
  exact hH.2.2.2.1 b hb
theorem hOk.putO {G : GG} {h h' : HS} {H H1 : Heap} {a c : Nat} {r : vw_C} (hH : hOk G h H) (hk : kd h a = c + 1) (hr : vwCl[c]? = some r) (ek : kd h' = kd h) (ez : sz h' = sz h) (ec : cs h' = cs h) (e1 : ∀ g b, b ≠ a → fi h' g b = fi h g b) (e2 : ∀ g b, b ≠ a → fr h' g b = fr h g b) (e3 : ln h' = ln h) (e4 : ai h' = ai h) (e5 : al h' = al h) (e6 : ar h' = ar h)
    (ho : t_OB a (G.1.1 c) r.2.2 (G.1.2 c) H1 (fun k => fv h' c k a)) (hc : c < 100) (z2 : H1.size = H.size) (z3 : ∀ q, q ≠ a → H1[q]? = H[q]?) : hOk G h' H1 := by
  refine ⟨by rw [z2, ez]; exact hH.1, fun b hb => ?_, fun b hb => ?_, hH.old (by rw [hk]; exact ⟨by omega, by omega⟩) z3, by rw [ez]; exact hH.2.2.2.2.1, by rw [ec]; exact hH.2.2.2.2.2⟩
  · rw [ek] at hb
    obtain ⟨h1, h2⟩ := hH.2.1 b hb
    refine ⟨by rw [ez]; exact h1, ?_⟩
    by_cases hba : b = a
    · subst hba
      refine ⟨fun n h3 h4 => ?_, fun h3 => ?_, fun h3 => ?_, fun h3 => ?_, fun h3 => ?_, fun h3 => ?_, fun h3 => ?_⟩
      · rw [ek, hk] at h3
        have : n = c := by omega
        subst this
        exact ⟨r, hr, ho⟩
      · rw [ek, hk] at h3; simp [kI] at h3; omega
      · rw [ek, hk] at h3; omega
      · rw [ek, hk] at h3; simp [kR] at h3; omega
      · rw [ek, hk] at h3; omega
      · rw [ek, hk] at h3; omega
      · rw [ek, hk] at h3; omega
    · exact h2.to (by rw [ek]) (fun g => e1 g b hba) (fun g => e2 g b hba) (by rw [e3]) (by rw [e4]) (by rw [e5]) (by rw [e6]) (z3 b hba)
  · rw [ek] at hb; exact hH.2.2.1 b hb
theorem hOk.putA {G : GG} {h h' : HS} {H H1 : Heap} {a : Nat} (hH : hOk G h H) (hk : kA (kd h a) = true) (hw : kd h a < 300) (ek : kd h' = kd h) (ez : sz h' = sz h) (ec : cs h' = cs h) (e1 : fi h' = fi h) (e2 : fr h' = fr h) (e3 : ln h' = ln h) (e4 : ∀ b, b ≠ a → ai h' b = ai h b) (e5 : ∀ b, b ≠ a → al h' b = al h b) (e6 : ∀ b, b ≠ a → ar h' b = ar h b)
    (hI : kI (kd h a) = true → H1[a]? = some (arrV (dA G (kd h a)) (ln h a) (fun j => .int (ai h' a j)))) (hJ : kd h a = 204 → H1[a]? = some (arrV (dA G 204) (ln h a) (fun j => .long (al h' a j)))) (hR : kR (kd h a) = true → H1[a]? = some (arrV (dA G (kd h a)) (ln h a) (fun j => va_rf (ar h' a j)))) (z2 : H1.size = H.size) (z3 : ∀ q, q ≠ a → H1[q]? = H[q]?) : hOk G h' H1 := by
  have hk0 : kd h a ≠ 0 := by intro z; rw [z] at hk; simp [kA, kI, kR] at hk
  refine ⟨by rw [z2, ez]; exact hH.1, fun b hb => ?_, fun b hb => ?_, hH.old ⟨hk0, hw⟩ z3, by rw [ez]; exact hH.2.2.2.2.1, by rw [ec]; exact hH.2.2.2.2.2⟩
  · rw [ek] at hb
    obtain ⟨h1, h2⟩ := hH.2.1 b hb
    refine ⟨by rw [ez]; exact h1, ?_⟩
    by_cases hba : b = a
    · subst hba
      refine ⟨fun n h3 h4 => ?_, fun h3 => ?_, fun h3 => ?_, fun h3 => ?_, fun h3 => ?_, fun h3 => ?_, fun h3 => ?_⟩
      · rw [ek] at h3
        rw [h3] at hk
        simp [kA, kI, kR] at hk
        omega
      · rw [ek, e3]; exact hI (ek ▸ h3)
      · rw [e3]; exact hJ (ek ▸ h3)
      · rw [ek, e3]; exact hR (ek ▸ h3)
      · rw [ek] at h3; omega
      · rw [ek] at h3; omega
      · rw [ek] at h3; omega
    · exact h2.to (by rw [ek]) (fun g => by rw [e1]) (fun g => by rw [e2]) (by rw [e3]) (e4 b hba) (e5 b hba) (e6 b hba) (z3 b hba)
  · rw [ek] at hb; exact hH.2.2.1 b hb
