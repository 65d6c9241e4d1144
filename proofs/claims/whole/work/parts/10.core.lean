/-! THE MEMORY as functions: what stands at an address (its kind), fields by (class * 100 + place), lengths and contents of arrays, the heap's size -/
abbrev HS : Type := (Nat → Nat) × (Nat → Nat → Int32) × (Nat → Nat → Option Nat) × (Nat → Nat) × (Nat → Nat → Int32) × (Nat → Nat → Int64) × (Nat → Nat → Option Nat) × Nat × (Nat → Nat)
def kd (h : HS) : Nat → Nat := h.1
def fi (h : HS) : Nat → Nat → Int32 := h.2.1
def fr (h : HS) : Nat → Nat → Option Nat := h.2.2.1
def ln (h : HS) : Nat → Nat := h.2.2.2.1
def ai (h : HS) : Nat → Nat → Int32 := h.2.2.2.2.1
def al (h : HS) : Nat → Nat → Int64 := h.2.2.2.2.2.1
def ar (h : HS) : Nat → Nat → Option Nat := h.2.2.2.2.2.2.1
def sz (h : HS) : Nat := h.2.2.2.2.2.2.2.1
/-- the addresses of the constants: 0 the empty row of ArrayList, 1 + i the i-th text, 20 the class of rows of objects -/
def cs (h : HS) : Nat → Nat := h.2.2.2.2.2.2.2.2
def up2 {α : Type} (f : Nat → Nat → α) (a b : Nat) (v : α) : Nat → Nat → α := fun x y => if x = a ∧ y = b then v else f x y
def sFi (h : HS) (g a : Nat) (x : Int32) : HS := (kd h, up2 (fi h) g a x, fr h, ln h, ai h, al h, ar h, sz h, cs h)
def sFr (h : HS) (g a : Nat) (x : Option Nat) : HS := (kd h, fi h, up2 (fr h) g a x, ln h, ai h, al h, ar h, sz h, cs h)
def sAi (h : HS) (a i : Nat) (x : Int32) : HS := (kd h, fi h, fr h, ln h, up2 (ai h) a i x, al h, ar h, sz h, cs h)
def sAl (h : HS) (a i : Nat) (x : Int64) : HS := (kd h, fi h, fr h, ln h, ai h, up2 (al h) a i x, ar h, sz h, cs h)
def sAr (h : HS) (a i : Nat) (x : Option Nat) : HS := (kd h, fi h, fr h, ln h, ai h, al h, up2 (ar h) a i x, sz h, cs h)
def nO (h : HS) (c : Nat) : HS := (va_up (kd h) (sz h) (c + 1), fun g a => if a = sz h then 0 else fi h g a, fun g a => if a = sz h then none else fr h g a, ln h, ai h, al h, ar h, sz h + 1, cs h)
def nA (h : HS) (k n : Nat) : HS := (va_up (kd h) (sz h) k, fi h, fr h, va_up (ln h) (sz h) n, va_up (ai h) (sz h) (fun _ => 0), va_up (al h) (sz h) (fun _ => 0), va_up (ar h) (sz h) (fun _ => none), sz h + 1, cs h)
/-- the classes' fields by their types -/
def tyC (c : Nat) : Nat → FieldType := match c with
  | 0 => tyJx4a65c
  | 1 => tyX0
  | 2 => tyX1
  | 3 => tyX2
  | 4 => tyX3
  | 5 => tyX4
  | 6 => tyX5
  | 7 => tyX6
  | 8 => tyX7
  | 9 => tyX8
  | _ => tyX9
def rfF (c k : Nat) : Bool := (tyC c k).isReference
def fv (h : HS) (c k a : Nat) : Value := if rfF c k = true then va_rf (fr h (100 * c + k) a) else .int (fi h (100 * c + k) a)
/-- kinds: an object of class c: c + 1; arrays: 201 int, 202 boolean, 203 byte, 204 long, 205 RateText, 206 Object; never written: 303 byte (a text's), 306 Object (ArrayList's empty row), 350 a text -/
def kI (k : Nat) : Bool := k == 201 || k == 202 || k == 203
def kR (k : Nat) : Bool := k == 205 || k == 206
def kA (k : Nat) : Bool := kI k || kR k || k == 204 || k == 303 || k == 306
def tyK (k : Nat) : FieldType := match k with
  | 201 => .int
  | 202 => .boolean
  | 203 => .byte
  | 303 => .byte
  | 204 => .long
  | 205 => .object "PanelHouse$RateText"
  | _ => .object "java/lang/Object"
abbrev GG : Type := va_G × (Nat → ClassId) × (Nat → Nat) × (Nat → Nat) × Heap
def dA (G : GG) : Nat → ClassId := G.2.1
def gCs (G : GG) : Nat → Nat := G.2.2.1
def gAv (G : GG) : Nat → Nat := G.2.2.2.1
/-- the memory before the law's call -/
def gH (G : GG) : Heap := G.2.2.2.2
def AO (G : GG) (q : Nat) : Prop := (gH G).size ≤ q
def lenS : List Nat := [4, 4, 3, 4, 9, 7, 5, 5]
def bytS : List (List Int32) := [[114, 97, 116, 101], [119, 104, 101, 110], [97, 110, 100], [107, 105, 110, 100], [116, 104, 111, 117, 115, 97, 110, 100, 115], [112, 114, 105, 110, 116, 101, 100], [109, 111, 110, 116, 104], [119, 101, 101, 107, 115]]
def ixS : List Nat := [60, 66, 68, 70, 72, 74, 76, 78]
def txS : List String := ["rate", "when", "and", "kind", "thousands", "printed", "month", "weeks"]
def cellP (G : GG) (h : HS) (a : Nat) (H : Heap) : Prop :=
  (∀ n, kd h a = n + 1 → n < 100 → ∃ r, vwCl[n]? = some r ∧ t_OB a (G.1.1 n) r.2.2 (G.1.2 n) H (fun k => fv h n k a)) ∧
  (kI (kd h a) = true → H[a]? = some (arrV (dA G (kd h a)) (ln h a) (fun j => .int (ai h a j)))) ∧
  (kd h a = 204 → H[a]? = some (arrV (dA G 204) (ln h a) (fun j => .long (al h a j)))) ∧
  (kR (kd h a) = true → H[a]? = some (arrV (dA G (kd h a)) (ln h a) (fun j => va_rf (ar h a j)))) ∧
  (kd h a = 350 → ∃ i, i < 8 ∧ a = gCs G (1 + i) ∧ fr h 35000 a = some (gAv G i) ∧ fi h 35001 a = 0) ∧
  (kd h a = 303 → ∃ i, i < 8 ∧ a = gAv G i ∧ ln h a = lenS.getD i 0 ∧ ∀ j, j < ln h a → ai h a j = (bytS.getD i []).getD j 0) ∧
  (kd h a = 306 → a = gCs G 0 ∧ ln h a = 0)
def WrK (k : Nat) : Prop := k ≠ 0 ∧ k < 300
def hOk (G : GG) (h : HS) (H : Heap) : Prop := H.size = sz h ∧ (∀ a, kd h a ≠ 0 → a < sz h ∧ cellP G h a H) ∧ (∀ a, WrK (kd h a) → (gH G).size ≤ a) ∧ (∀ a, a < (gH G).size → H[a]? = (gH G)[a]?) ∧ (gH G).size ≤ sz h ∧ cs h = gCs G
theorem cellP.to {G : GG} {h h' : HS} {a : Nat} {H H' : Heap} (hc : cellP G h a H) (e0 : kd h' a = kd h a) (e1 : ∀ g, fi h' g a = fi h g a) (e2 : ∀ g, fr h' g a = fr h g a) (e3 : ln h' a = ln h a) (e4 : ai h' a = ai h a) (e5 : al h' a = al h a) (e6 : ar h' a = ar h a) (hq : H'[a]? = H[a]?) : cellP G h' a H' := by
  obtain ⟨c1, c2, c3, c4, c5, c6, c7⟩ := hc
  refine ⟨fun n h1 h2 => ?_, fun h1 => ?_, fun h1 => ?_, fun h1 => ?_, fun h1 => ?_, fun h1 => ?_, fun h1 => ?_⟩
  · obtain ⟨r, hr, ho⟩ := c1 n (e0 ▸ h1) h2
    exact ⟨r, hr, (ho.kept hq).to (fun k _ => by simp [fv, e1, e2])⟩
  · rw [hq, e0, e3, e4]; exact c2 (e0 ▸ h1)
  · rw [hq, e3, e5]; exact c3 (e0 ▸ h1)
  · rw [hq, e0, e3, e6]; exact c4 (e0 ▸ h1)
  · rw [e2, e1]; exact c5 (e0 ▸ h1)
  · rw [e3, e4]; exact c6 (e0 ▸ h1)
  · rw [e3]; exact c7 (e0 ▸ h1)
/-! WORDS -/
def TBL : List Cond := lw_tbl.filter goodWord
def nestWord : Cond → Bool
  | .fieldLinkNest _ _ _ _ _ _ => true
  | .methodLinkNest _ _ _ _ => true
  | .castable _ _ => true
  | .declares _ => true
  | _ => false
def NST : List Cond := tables_1.filter nestWord
theorem nst_moved {w : Cond} (hw : nestWord w = true) {s U : State} (hW : s.WarmedH U.vm) (h : va_Nw w s) : va_Nw w U := by
  cases w <;> first
    | exact va_Nw.warmF hW h
    | exact va_Nw.warmM hW h
    | exact va_Nw.warmC hW h
    | exact va_Nw.warmD hW h
    | (simp [nestWord] at hw)
def arT : List (Nat × FieldType) := [(201, .int), (202, .boolean), (203, .byte), (204, .long), (205, .object "PanelHouse$RateText"), (206, .object "java/lang/Object")]
/-- what is given of the start and stays: statics, texts -/
def KC (G : GG) (U : State) : Prop :=
  vk_S 8 lenS bytS (fun i => gCs G (1 + i)) (gAv G) (AO G) U (gH G) ∧ (∀ i, i < 8 → vk_R RX7 (ixS.getD i 0) (txS.getD i "") (gCs G (1 + i)) U) ∧
  va_Z "java/util/ArrayList" "DEFAULTCAPACITY_EMPTY_ELEMENTDATA" "[Ljava/lang/Object;" (.ref (gCs G 0)) (AO G) U (gH G) ∧ va_T (.object "java/lang/Object") (gCs G 0) 0 (fun _ => .null) (AO G) U (gH G) ∧
  va_Z "java/lang/String" "COMPACT_STRINGS" "Z" (.int 1) (AO G) U (gH G) ∧ va_Zq "jdk/internal/util/Preconditions" "SIOOBE_FORMATTER" "Ljava/util/function/BiFunction;" (AO G) U (gH G) ∧
  vx_Zq "java/lang/Throwable" "UNASSIGNED_STACK" "[Ljava/lang/StackTraceElement;" (AO G) U (gH G) ∧ vx_Zq "java/lang/Throwable" "SUPPRESSED_SENTINEL" "Ljava/util/List;" (AO G) U (gH G) ∧
  va_Mi "[Ljava/lang/Object;" (gCs G 20) U
theorem KC.moved {G : GG} {s U : State} (hW : s.WarmedH U.vm) (h : KC G s) : KC G U := by
  obtain ⟨h1, h2, h3, h4, h5, h6, h7, h8, h9⟩ := h
  exact ⟨vk_S.moved hW.alike h1, fun i hi => vk_R.warm hW (h2 i hi), va_Z.moved hW.alike h3, va_T.moved hW.alike h4, va_Z.moved hW.alike h5, va_Zq.moved hW.alike h6, vx_Zq.moved hW.alike h7, vx_Zq.moved hW.alike h8, va_Mi.moved hW.alike h9⟩
def KW (G : GG) (U : State) : Prop := va_K G.1 vwCl [] U ∧ (∀ q ∈ arT, ArrOfT U (dA G q.1) q.2 ∧ va_RA U (dA G q.1) q.2) ∧ (∀ w ∈ NST, va_Nw w U) ∧ va_AO "java/lang/Object" U ∧ va_AO "PanelHouse$RateText" U ∧ KC G U
theorem KW.moved {G : GG} {s U : State} (hW : s.WarmedH U.vm) (h : KW G s) : KW G U :=
  ⟨va_K.moved hW.alike h.1, fun q hq => ⟨arrOfT_moved hW.alike (h.2.1 q hq).1, (h.2.1 q hq).2.moved hW.alike⟩, fun w hw => nst_moved (List.mem_filter.mp hw).2 hW (h.2.2.1 w hw), va_AO.moved hW.alike h.2.2.2.1, va_AO.moved hW.alike h.2.2.2.2.1, KC.moved hW h.2.2.2.2.2⟩
/-! LOCALS -/
abbrev LV : Type := Int32 ⊕ Int64 ⊕ Option Nat
abbrev lvI (x : Int32) : LV := .inl x
abbrev lvJ (x : Int64) : LV := .inr (.inl x)
abbrev lvR (r : Option Nat) : LV := .inr (.inr r)
def lvV : LV → Value
  | .inl x => .int x
  | .inr (.inl x) => .long x
  | .inr (.inr r) => va_rf r
def isJ : LV → Bool
  | .inr (.inl _) => true
  | _ => false
abbrev LL : Type := List (Nat × LV)
def toV (lo : LL) : List (Nat × Value) := lo.map (fun q => (q.1, lvV q.2))
def lkL : LL → Nat → Option LV
  | [], _ => none
  | q :: r, i => bif q.1 == i then some q.2 else lkL r i
def stL (lo : LL) (i : Nat) (v : LV) : LL := (i, v) :: lo.filter (fun q => !(q.1 == i) && !(q.1 + 1 == i && isJ q.2))
def stJ (lo : LL) (i : Nat) (v : LV) : LL := (i, v) :: lo.filter (fun q => !(q.1 == i) && (!(q.1 == i + 1) && !(q.1 + 1 == i && isJ q.2)))
def allL (lo : LL) : LL → Prop
  | [] => True
  | q :: r => lkL lo q.1 = some q.2 ∧ allL lo r
theorem cat_lv (v : LV) : ((lvV v).category == 2) = isJ v := by
  rcases v with x | x | r
  · rfl
  · rfl
  · cases r <;> rfl
theorem stL_eq (lo : LL) (i : Nat) (v : LV) : (i, lvV v) :: (toV lo).filter (fun q => !(q.1 == i) && !(q.1 + 1 == i && q.2.category == 2)) = toV (stL lo i v) := by
  simp [toV, stL, List.filter_map, Function.comp_def, cat_lv]
theorem stJ_eq (lo : LL) (i : Nat) (v : LV) : (i, lvV v) :: (toV lo).filter (fun q => !(q.1 == i) && (!(q.1 == i + 1) && !(q.1 + 1 == i && q.2.category == 2))) = toV (stJ lo i v) := by
  simp [toV, stJ, List.filter_map, Function.comp_def, cat_lv]
theorem lk_mem : ∀ {lo : LL} {i : Nat} {v : LV}, lkL lo i = some v → (i, v) ∈ lo
  | [], _, _, h => by cases h
  | q :: r, i, v, h => by
    unfold lkL at h
    cases hq : (q.1 == i) with
    | true =>
      rw [hq] at h
      have h1 : q.1 = i := by simpa using hq
      have h2 : q.2 = v := Option.some.inj h
      rw [← h1, ← h2]
      exact List.mem_cons_self
    | false =>
      rw [hq] at h
      exact List.mem_cons_of_mem _ (lk_mem h)
theorem lk_memV {lo : LL} {i : Nat} {v : LV} (h : lkL lo i = some v) : (i, lvV v) ∈ toV lo := List.mem_map.mpr ⟨(i, v), lk_mem h, rfl⟩
theorem lk_at {ls : Array Slot} {n : Nat} {lo : LL} (hl : lv_has ls n (toV lo)) {i : Nat} {v : LV} (h : lkL lo i = some v) : ls[i]? = some (.val (lvV v)) := hl.2.2 (i, lvV v) (lk_memV h)
theorem lk_pl {lo : LL} {i : Nat} {v : LV} (h : lkL lo i = some v) : ∃ q : Nat, (toV lo)[q]? = some (i, lvV v) := List.getElem?_of_mem (lk_memV h)
theorem allL_mem : ∀ {lo lo' : LL}, allL lo lo' → ∀ q ∈ lo', lkL lo q.1 = some q.2
  | _, [], _, _, h => by cases h
  | _, _ :: _, h, q, hq => by
    rcases List.mem_cons.mp hq with rfl | h1
    · exact h.1
    · exact allL_mem h.2 q h1
theorem lk_sub {ls : Array Slot} {n : Nat} {lo lo' : LL} (hl : lv_has ls n (toV lo)) (h : allL lo lo') : lv_has ls n (toV lo') := by
  refine ⟨hl.1, hl.2.1, fun q hq => ?_⟩
  obtain ⟨q0, h1, rfl⟩ := List.mem_map.mp hq
  exact lk_at hl (allL_mem h q0 h1)
def largs : Nat → List LV → LL
  | _, [] => []
  | i, v :: vs => (i, v) :: largs (bif isJ v then i + 2 else i + 1) vs
def wl : List LV → Nat
  | [] => 0
  | v :: vs => (bif isJ v then 2 else 1) + wl vs
theorem largs_eq : ∀ (i : Nat) (av : List LV), lv_args i (av.map lvV) = toV (largs i av)
  | _, [] => rfl
  | i, v :: vs => by
    have h := cat_lv v
    cases hv : isJ v with
    | true =>
      rw [hv] at h
      have h2 : (lvV v).category = 2 := by simpa using h
      simp [lv_args, largs, toV, hv, h2, ← largs_eq (i + 2) vs]
      rw [largs_eq (i + 2) vs]; rfl
    | false =>
      rw [hv] at h
      have h2 : ¬ (lvV v).category = 2 := by simpa using h
      simp [lv_args, largs, toV, hv, h2]
      rw [largs_eq (i + 1) vs]; rfl
theorem wl_eq : ∀ (av : List LV), (lg_sl (av.map lvV)).length = wl av
  | [] => rfl
  | v :: vs => by
    have ih := wl_eq vs
    rcases v with x | x | r
    · simp [lg_sl, wl, isJ, lvV, Value.category] at ih ⊢
      omega
    · simp [lg_sl, wl, isJ, lvV, Value.category] at ih ⊢
      omega
    · cases r <;> (simp [lg_sl, wl, isJ, lvV, va_rf, Value.category] at ih ⊢; omega)
/-! WHAT MAY BE WRITTEN -/
def AA (h0 : HS) (q : Nat) : Prop := WrK (kd h0 q) ∨ sz h0 ≤ q
def rmD (n mc ms : Nat) : Room := { frames := n, cells := mc, slots := ms, locals := 40 * n }
/-- a method: its code, its locals, its class, what it returns, its depth, the cells and the slots that it may make, its name -/
abbrev MI : Type := ByteArray × Nat × String × Option FieldType × Nat × Nat × Nat × String
abbrev EV : Type := Program × Launch × Env × Room × State × MethodId × Array Value × List Frame × Method × Code × GG × HS
def EOk (p : Program) (R : Room) (s : State) (m : MethodId) (args : Array Value) (meth : Method) (c : Code) (G : GG) (M : MI) : Prop :=
  p.tables.exec = Jvm.exec ∧ c.code = M.1 ∧ c.maxLocals = M.2.1 ∧ s.vm.findClass M.2.2.1 = some m.cls ∧ meth.sig.returnType = M.2.2.2.1 ∧ R = rmD M.2.2.2.2.1 M.2.2.2.2.2.1 M.2.2.2.2.2.2.1 ∧ meth.name = M.2.2.2.2.2.2.2 ∧ meth.locks = false ∧ (∀ w ∈ TBL, w.before args s = true) ∧ KW G s
def SS (h0 : HS) (H0 : Heap) (h : HS) (H : Heap) (locs : List Loc) : Prop := va_S (AA h0) H0 H locs ∧ (∀ q, WrK (kd h q) → AA h0 q) ∧ sz h0 ≤ sz h ∧ H0.size = sz h0
def QR (G : GG) (h0 : HS) (o : Outcome × HS) : Array Value → State → Outcome → State → Prop := fun _ st oc t => oc = o.1 ∧ hOk G o.2 t.heap ∧ va_F (AA h0) st t ∧ (∀ q, WrK (kd o.2 q) → AA h0 q) ∧ sz h0 ≤ sz o.2
/-- what a walk must come to, by what it comes out with -/
abbrev FIN (ρ : Type) : Type := EV → MI → ρ → State → Prop
def Sim {ρ : Type} (E : EV) (M : MI) (out : FIN ρ) (cells slots pc : Nat) (lo : LL) (st : List Value) (h : HS) (k : Option ρ) : Prop :=
  match E with
  | (p, l, e, R, s, m, args, below, meth, c, G, h0) =>
    EOk p R s m args meth c G M → ∀ res, k = some res → ∀ ls H locs, lv_has ls M.2.1 (toV lo) → hOk G h H → SS h0 s.heap h H locs →
      W p l e R s m args below meth c H locs cells slots (out E M res) (F0 m pc ls st)
/-- the outcomes by the type that a method returns -/
abbrev oI (q : Int32 × HS) : Outcome × HS := (.returned (some (.int q.1)), q.2)
abbrev oL (q : Int64 × HS) : Outcome × HS := (.returned (some (.long q.1)), q.2)
abbrev oR (q : Option Nat × HS) : Outcome × HS := (.returned (some (va_rf q.1)), q.2)
abbrev oV (q : HS) : Outcome × HS := (.returned none, q)
def fin {ρ : Type} (o : ρ → Outcome × HS) : FIN ρ := fun E M res =>
  match E with
  | (_, _, _, _, s, _, args, below, _, _, G, h0) => MQ below (QR G h0 (o res)) args s M.2.2.2.2.2.1 M.2.2.2.2.2.2.1 (AA h0)
/-- a method's contract at given arguments and a given memory: what comes out -/
def Ct (l : Launch) (y : MethodName) (M : MI) (G : GG) (av : List LV) (h : HS) (o : Outcome × HS) : Prop :=
  Met l y (Cond.code y M.1 M.2.1 M.2.2.2.1 :: TBL) (rmD M.2.2.2.2.1 M.2.2.2.2.2.1 M.2.2.2.2.2.2.1) (va_Pc (av.map lvV) (fun U => hOk G h U.heap ∧ KW G U)) (QR G h o) M.2.2.2.2.2.1 M.2.2.2.2.2.2.1 (AA h)
theorem SS.rf {h : HS} {H : Heap} (hz : H.size = sz h) : SS h H h H [] := ⟨va_S.rf, fun _ hq => Or.inl hq, Nat.le_refl _, hz⟩
theorem Ct.of {ρ : Type} {l : Launch} {y : MethodName} {M : MI} {G : GG} {av : List LV} {h : HS} {out : ρ → Outcome × HS} {k : Option ρ} {res : ρ} (hy : plainName y.cls = true) (hown : y.cls = M.2.2.1) (hnm : y.name = M.2.2.2.2.2.2.2) (hlen : wl av ≤ M.2.1)
    (hk : k = some res) (hs : ∀ (p : Program) (e : Env) (s : State) (m : MethodId) (args : Array Value) (below : List Frame) (meth : Method) (c : Code), Sim (p, l, e, rmD M.2.2.2.2.1 M.2.2.2.2.2.1 M.2.2.2.2.2.2.1, s, m, args, below, meth, c, G, h) M (fin out) 0 0 0 (largs 0 av) [] h k) : Ct l y M G av h (out res) := by
  refine Met.ofW (cc := M.1) (maxL := M.2.1) (ret := M.2.2.2.1) hy rfl ?_
  intro p e s m args below meth c s₁ B hml hv
  obtain ⟨hav, hH, hK⟩ := hv
  have hts := atoms_spec (ws := Cond.code y M.1 M.2.1 M.2.2.2.1 :: TBL) B.pre
  have hown' : s.vm.findClass M.2.2.1 = some m.cls := by rw [← hown]; exact findClass_of_methodNamed B.named
  have hl := lv_entry (av.map lvV) (n := M.2.1) (by rw [wl_eq]; exact hlen)
  rw [largs_eq] at hl
  subst hav
  rw [lg_entry_eq]
  exact hs p e s m _ below meth c ⟨B.exec, B.bytes, hml, hown', B.returns, rfl, ((name_of_methodNamed B.named B.method).1).trans hnm, B.notSynchronized, fun w hw => hts w (List.mem_cons_of_mem _ hw), hK⟩ res hk _ s.heap [] hl hH (SS.rf hH.1)
