section BEHIND
variable {ax ao am : Nat} {ad : Nat → Nat → Nat} {n e pO fO q tm : Nat → Nat} {tx : Nat → List (Int32 × List Int32)} {w : Nat} {pn : Nat → Nat} {nw : Nat → Nat → Nat} {fs : Nat → Nat} {ls : Nat → Option Nat} {rs rl pr : Nat → Nat} {tl : Nat} {hx hm : HS}
def CT2 (am F2 : Nat) (r : Int32 × HS) : Option HS := if r.1 = 0 then X9_line_L168 am F2 0 r.2 else X9_line_L168 am F2 1 r.2
def BEH (am F1 F2 : Nat) (h : HS) : Option HS := (X9_goesOnBehind_L0 am F1 h).bind (CT2 am F2)
def BES (am F1 F2 : Nat) (h : HS) : Option HS := (X9_goesOnBehind_b43 am (X9_goesOnBehind_L0 am F1) h).bind (CT2 am F2)
def BET (am F1 F2 : Nat) (h : HS) : Option HS := (X9_goesOnBehind_b189 am (X9_goesOnBehind_L0 am F1) h).bind (CT2 am F2)
def BEA (am F1 F2 : Nat) (h : HS) : Option HS := (X9_goesOnBehind_b218 am (X9_goesOnBehind_L0 am F1) h).bind (CT2 am F2)
theorem l_0 {h : HS} (F : Nat) : X9_line_L168 am (F + 1) 0 h = X9_line_b202 am h := by
  conv => lhs; unfold X9_line_L168
  simp only [i0e0, if_true]
theorem l_part0 {h h1 : HS} (hM : SMA q am h) (f8 : mf am h 8 = 0) (hp : m_X9_part am h = some (0, h1)) (hs : kd h1 = kd h) (F : Nat) : X9_line_L168 am (F + 1) 1 h = BEH am FU F h1 := by
  have hkm : kd h am = 11 := hM.1
  have f8' : fi h 1008 am = 0 := f8
  conv => lhs; unfold X9_line_L168
  simp only [X9_line_b198, X9_line_b193, m_X9_goesOnBehind, aN, kA201, kA202, kA203, kA206, kA306, i1n0, i0n1, i0e0, i1e1, gI, gR, pI, pB, pR, xI, xL, yI, yL, vc, kd_sFi, fr_sFi, ln_sFi, ai_sFi, al_sFi, ar_sFi, cs_sFi, sz_sFi, sz_sAi, kd_sAi, fi_sAi, fr_sAi, ln_sAi, al_sAi, ar_sAi, cs_sAi, kd_wz, fi_wz, fr_wz, ln_wz, ai_wz, al_wz, ar_wz, Option.bind_some, if_true, if_false, Nat.reduceAdd, Nat.reduceMul, reduceIte, and_self, true_and, and_true, hkm, f8', hp, hs]
  rfl
theorem l_part1 {h h1 : HS} (hM : SMA q am h) (f8 : mf am h 8 = 0) (hp : m_X9_part am h = some (1, h1)) (F : Nat) : X9_line_L168 am (F + 1) 1 h = X9_line_L168 am F 1 h1 := by
  have hkm : kd h am = 11 := hM.1
  have f8' : fi h 1008 am = 0 := f8
  conv => lhs; unfold X9_line_L168
  simp only [X9_line_b193, X9_line_b198, aN, kA201, kA202, kA203, kA206, kA306, i1n0, i0n1, i0e0, i1e1, gI, gR, pI, pB, pR, xI, xL, yI, yL, vc, kd_sFi, fr_sFi, ln_sFi, ai_sFi, al_sFi, ar_sFi, cs_sFi, sz_sFi, sz_sAi, kd_sAi, fi_sAi, fr_sAi, ln_sAi, al_sAi, ar_sAi, cs_sAi, kd_wz, fi_wz, fr_wz, ln_wz, ai_wz, al_wz, ar_wz, Option.bind_some, if_true, if_false, Nat.reduceAdd, Nat.reduceMul, reduceIte, and_self, true_and, and_true, hkm, f8', hp]
theorem beh_flt {h : HS} (hM : SMA q am h) {f : Int32} (f8 : mf am h 8 = f) (hf : f ≠ 0) (F1 F : Nat) : BEH am (F1 + 1) (F + 1) h = X9_line_b202 am h := by
  have hkm : kd h am = 11 := hM.1
  have f8' : fi h 1008 am = f := f8
  have z : (f = 0) = False := eq_false hf
  have e1 : X9_goesOnBehind_L0 am (F1 + 1) h = some (0, h) := by
    conv => lhs; unfold X9_goesOnBehind_L0
    simp only [aN, kA201, kA202, kA203, kA206, kA306, i1n0, i0n1, i0e0, i1e1, gI, gR, pI, pB, pR, xI, xL, yI, yL, vc, kd_sFi, fr_sFi, ln_sFi, ai_sFi, al_sFi, ar_sFi, cs_sFi, sz_sFi, sz_sAi, kd_sAi, fi_sAi, fr_sAi, ln_sAi, al_sAi, ar_sAi, cs_sAi, kd_wz, fi_wz, fr_wz, ln_wz, ai_wz, al_wz, ar_wz, Option.bind_some, if_true, if_false, Nat.reduceAdd, Nat.reduceMul, reduceIte, and_self, true_and, and_true, hkm, f8', z]
  unfold BEH
  rw [e1]
  show CT2 am (F + 1) (0, h) = _
  unfold CT2
  rw [if_pos rfl, l_0]
theorem beh_0 {h : HS} (hM : SMA q am h) {A d : Nat} (hP : PM am A 0 d h) (hd : d < 7) (h19 : mv q h 19 d = 0) (F1 F2 : Nat) : BEH am (F1 + 1) F2 h = BES am F1 F2 h := by
  have hkm : kd h am = 11 := hM.1
  have f8 : fi h 1008 am = 0 := hP.2.1
  have f18 : fi h 1018 am = nI d := hP.2.2
  have r19 : fr h 1019 am = some (q 19) := (hM.2.1 (19, 201, 7) (by decide)).1
  have k19 : kd h (q 19) = 201 := (hM.2.1 (19, 201, 7) (by decide)).2.1
  have l19 : ln h (q 19) = 7 := (hM.2.1 (19, 201, 7) (by decide)).2.2
  have cl : (nI d).toNatClampNeg = d := nI_cl hd (by omega)
  have ib : inB (nI d) 7 = true := inB_nI hd (by omega)
  have v19 : ai h (q 19) d = 0 := h19
  unfold BEH BES
  conv => lhs; unfold X9_goesOnBehind_L0
  simp only [aN, kA201, kA202, kA203, kA206, kA306, i1n0, i0n1, i0e0, i1e1, gI, gR, pI, pB, pR, xI, xL, yI, yL, vc, kd_sFi, fr_sFi, ln_sFi, ai_sFi, al_sFi, ar_sFi, cs_sFi, sz_sFi, sz_sAi, kd_sAi, fi_sAi, fr_sAi, ln_sAi, al_sAi, ar_sAi, cs_sAi, kd_wz, fi_wz, fr_wz, ln_wz, ai_wz, al_wz, ar_wz, Option.bind_some, if_true, if_false, Nat.reduceAdd, Nat.reduceMul, reduceIte, and_self, true_and, and_true, hkm, f8, f18, r19, k19, l19, cl, ib, v19]
theorem beh_1 {h : HS} (hM : SMA q am h) {A d : Nat} {C : List Int32} (hP : PM am A 0 d h) (hC : CM am q C h) (hl : C.length < 660) (hd : d < 7) {s : Int32} (h19 : mv q h 19 d = eO s) (hs0 : eO s ≠ 0) (hsA : eA s = 0) : ∃ h', (∀ F1 F2, BEH am (F1 + 1) F2 h = BES am F1 F2 h') ∧ FM am q h h' ∧ PM am A 0 d h' ∧ CM am q (C ++ [s]) h' ∧ mv q h' 19 = va_up (mv q h 19) d 0 ∧ mv q h' 20 = mv q h 20 ∧ mv q h' 21 = mv q h 21 := by
  have hkm : kd h am = 11 := hM.1
  have f8 : fi h 1008 am = 0 := hP.2.1
  have f18 : fi h 1018 am = nI d := hP.2.2
  have r19 : fr h 1019 am = some (q 19) := (hM.2.1 (19, 201, 7) (by decide)).1
  have k19 : kd h (q 19) = 201 := (hM.2.1 (19, 201, 7) (by decide)).2.1
  have l19 : ln h (q 19) = 7 := (hM.2.1 (19, 201, 7) (by decide)).2.2
  have cl : (nI d).toNatClampNeg = d := nI_cl hd (by omega)
  have ib : inB (nI d) 7 = true := inB_nI hd (by omega)
  have v19 : ai h (q 19) d = eO s := h19
  have z : (eO s = 0) = False := eq_false hs0
  obtain ⟨h1, e1, e2, e3, e4, e5⟩ := r_emit hM hC hl s
  rw [hsA] at e1
  have hM1 := SMA_same e2.1 hM
  obtain ⟨b1, b2, b3⟩ := FM_w hM1 (k := 19) (by decide) d 0
  have d1 := e2.1.1
  have d2 := e2.1.2.1
  have d3 := e2.1.2.2.1
  have f181 : fi h1 1018 am = nI d := (e4 18 (by decide)).trans hP.2.2
  refine ⟨sAi h1 (q 19) d 0, fun F1 F2 => ?_, e2.tr b1, ⟨(e4 7 (by decide)).trans hP.1, (e4 8 (by decide)).trans hP.2.1, f181⟩, ⟨e3.1, fun j hj => ?_⟩, ?_, ?_, ?_⟩
  · unfold BEH BES
    conv => lhs; unfold X9_goesOnBehind_L0
    simp only [aN, kA201, kA202, kA203, kA206, kA306, i1n0, i0n1, i0e0, i1e1, gI, gR, pI, pB, pR, xI, xL, yI, yL, vc, kd_sFi, fr_sFi, ln_sFi, ai_sFi, al_sFi, ar_sFi, cs_sFi, sz_sFi, sz_sAi, kd_sAi, fi_sAi, fr_sAi, ln_sAi, al_sAi, ar_sAi, cs_sAi, kd_wz, fi_wz, fr_wz, ln_wz, ai_wz, al_wz, ar_wz, Option.bind_some, if_true, if_false, Nat.reduceAdd, Nat.reduceMul, reduceIte, and_self, true_and, and_true, hkm, f8, f18, r19, k19, l19, cl, ib, v19, z, e1, d1, d2, d3, f181, nar_i32]
  · rw [b3 15 (by decide), b3 16 (by decide)]; exact e3.2 j hj
  · rw [b2, e5 19 (by decide)]
  · rw [b3 20 (by decide), e5 20 (by decide)]
  · rw [b3 21 (by decide), e5 21 (by decide)]
/-- a sign is taken, and waits -/
theorem r_wait {h : HS} (hM : SMA q am h) {A d k : Nat} (hP : PM am A 0 d h) (hk : k = 19 ∨ k = 20 ∨ k = 21) (x : Int32) : FM am q h (sFi (sAi h (q k) d x) 1007 am (nI (A + 1))) ∧ PM am (A + 1) 0 d (sFi (sAi h (q k) d x) 1007 am (nI (A + 1))) ∧ (∀ C, CM am q C h → CM am q C (sFi (sAi h (q k) d x) 1007 am (nI (A + 1)))) ∧ mv q (sFi (sAi h (q k) d x) 1007 am (nI (A + 1))) k = va_up (mv q h k) d x ∧ ∀ k', k' ≠ k → mv q (sFi (sAi h (q k) d x) 1007 am (nI (A + 1))) k' = mv q h k' := by
  obtain ⟨b1, b2, b3⟩ := FM_w hM hk d x
  have hP1 : PM am A 0 d (sAi h (q k) d x) := hP
  obtain ⟨p1, p2, p3⟩ := r_at (q := q) hP1 (A + 1)
  refine ⟨b1.tr p1, p2, fun C hC => p3 C ⟨hC.1, fun j hj => ?_⟩, b2, b3⟩
  rw [b3 15 (by omega), b3 16 (by omega)]; exact hC.2 j hj
theorem bes_plus {h : HS} (hM : SMA q am h) {K P : Nat → Int32} {T A d : Nat} (hT : TM q K P T h) (hP : PM am A 0 d h) (hA : A ≤ T) (hd : d < 7) (hk : K A = 10010 ∨ K A = 10011) (F1 F2 : Nat) : BES am F1 F2 h = X9_line_L168 am F2 1 (sFi (sAi h (q 19) d (eO (K A))) 1007 am (nI (A + 1))) := by
  have hkm : kd h am = 11 := hM.1
  have f7 : fi h 1007 am = nI A := hP.1
  have f18 : fi h 1018 am = nI d := hP.2.2
  have r19 : fr h 1019 am = some (q 19) := (hM.2.1 (19, 201, 7) (by decide)).1
  have k19 : kd h (q 19) = 201 := (hM.2.1 (19, 201, 7) (by decide)).2.1
  have l19 : ln h (q 19) = 7 := (hM.2.1 (19, 201, 7) (by decide)).2.2
  have cl : (nI d).toNatClampNeg = d := nI_cl hd (by omega)
  have ib : inB (nI d) 7 = true := inB_nI hd (by omega)
  have s43 : m_X9_isSign am 43 h = some (if K A = 10010 then 1 else 0, h) := r_isSign hM hT hP hA (i := 2) (by decide) (c := 43) rfl
  have s45 : m_X9_isSign am 45 h = some (if K A = 10011 then 1 else 0, h) := r_isSign hM hT hP hA (i := 3) (by decide) (c := 45) rfl
  have ea : nI A + 1 = nI (A + 1) := nI_add A 1
  unfold BES
  rcases hk with hk | hk
  · rw [if_pos hk] at s43
    have eo : eO (K A) = 3 := by rw [hk]; decide
    rw [eo]
    simp only [X9_goesOnBehind_b43, X9_goesOnBehind_b61, X9_goesOnBehind_b83, aN, kA201, kA202, kA203, kA206, kA306, i1n0, i0n1, i0e0, i1e1, gI, gR, pI, pB, pR, xI, xL, yI, yL, vc, kd_sFi, fr_sFi, ln_sFi, ai_sFi, al_sFi, ar_sFi, cs_sFi, sz_sFi, sz_sAi, kd_sAi, fi_sAi, fr_sAi, ln_sAi, al_sAi, ar_sAi, cs_sAi, kd_wz, fi_wz, fr_wz, ln_wz, ai_wz, al_wz, ar_wz, Option.bind_some, if_true, if_false, Nat.reduceAdd, Nat.reduceMul, reduceIte, and_self, true_and, and_true, hkm, s43, f18, r19, k19, l19, cl, ib, nar_i32, f7, ea]
    rfl
  · rw [if_neg (by rw [hk]; decide)] at s43
    rw [if_pos hk] at s45
    have eo : eO (K A) = 4 := by rw [hk]; decide
    rw [eo]
    simp only [X9_goesOnBehind_b43, X9_goesOnBehind_b61, X9_goesOnBehind_b83, aN, kA201, kA202, kA203, kA206, kA306, i1n0, i0n1, i0e0, i1e1, gI, gR, pI, pB, pR, xI, xL, yI, yL, vc, kd_sFi, fr_sFi, ln_sFi, ai_sFi, al_sFi, ar_sFi, cs_sFi, sz_sFi, sz_sAi, kd_sAi, fi_sAi, fr_sAi, ln_sAi, al_sAi, ar_sAi, cs_sAi, kd_wz, fi_wz, fr_wz, ln_wz, ai_wz, al_wz, ar_wz, Option.bind_some, if_true, if_false, Nat.reduceAdd, Nat.reduceMul, reduceIte, and_self, true_and, and_true, hkm, s43, s45, f18, r19, k19, l19, cl, ib, nar_i32, f7, ea]
    rfl
theorem bes_t {h : HS} (hM : SMA q am h) {K P : Nat → Int32} {T A d : Nat} (hT : TM q K P T h) (hP : PM am A 0 d h) (hA : A ≤ T) (hd : d < 7) (h1 : K A ≠ 10010) (h2 : K A ≠ 10011) (h3 : K A ≠ 10012) (h4 : K A ≠ 10013) (h20 : mv q h 20 d = 0) (F1 F2 : Nat) : BES am F1 F2 h = BET am F1 F2 h := by
  have hkm : kd h am = 11 := hM.1
  have f18 : fi h 1018 am = nI d := hP.2.2
  have r20 : fr h 1020 am = some (q 20) := (hM.2.1 (20, 201, 7) (by decide)).1
  have k20 : kd h (q 20) = 201 := (hM.2.1 (20, 201, 7) (by decide)).2.1
  have l20 : ln h (q 20) = 7 := (hM.2.1 (20, 201, 7) (by decide)).2.2
  have cl : (nI d).toNatClampNeg = d := nI_cl hd (by omega)
  have ib : inB (nI d) 7 = true := inB_nI hd (by omega)
  have s43 : m_X9_isSign am 43 h = some (if K A = 10010 then 1 else 0, h) := r_isSign hM hT hP hA (i := 2) (by decide) (c := 43) rfl
  have s45 : m_X9_isSign am 45 h = some (if K A = 10011 then 1 else 0, h) := r_isSign hM hT hP hA (i := 3) (by decide) (c := 45) rfl
  have s60 : m_X9_isSign am 60 h = some (if K A = 10012 then 1 else 0, h) := r_isSign hM hT hP hA (i := 5) (by decide) (c := 60) rfl
  have s61 : m_X9_isSign am 61 h = some (if K A = 10013 then 1 else 0, h) := r_isSign hM hT hP hA (i := 6) (by decide) (c := 61) rfl
  rw [if_neg h1] at s43
  rw [if_neg h2] at s45
  rw [if_neg h3] at s60
  rw [if_neg h4] at s61
  have v20 : ai h (q 20) d = 0 := h20
  unfold BES BET
  simp only [X9_goesOnBehind_b43, aN, kA201, kA202, kA203, kA206, kA306, i1n0, i0n1, i0e0, i1e1, gI, gR, pI, pB, pR, xI, xL, yI, yL, vc, kd_sFi, fr_sFi, ln_sFi, ai_sFi, al_sFi, ar_sFi, cs_sFi, sz_sFi, sz_sAi, kd_sAi, fi_sAi, fr_sAi, ln_sAi, al_sAi, ar_sAi, cs_sAi, kd_wz, fi_wz, fr_wz, ln_wz, ai_wz, al_wz, ar_wz, Option.bind_some, if_true, if_false, Nat.reduceAdd, Nat.reduceMul, reduceIte, and_self, true_and, and_true, hkm, s43, s45, s60, s61, f18, r20, k20, l20, cl, ib, v20]
theorem bes_sg {h : HS} (hM : SMA q am h) {K P : Nat → Int32} {T A d : Nat} (hT : TM q K P T h) (hP : PM am A 0 d h) (hA : A ≤ T) (hd : d < 7) (hk : K A = 10012 ∨ K A = 10013) (h20 : mv q h 20 d = 0) (F1 F2 : Nat) : BES am F1 F2 h = X9_line_L168 am F2 1 (sFi (sAi h (q 20) d (eO (K A))) 1007 am (nI (A + 1))) := by
  have hkm : kd h am = 11 := hM.1
  have f7 : fi h 1007 am = nI A := hP.1
  have f18 : fi h 1018 am = nI d := hP.2.2
  have r20 : fr h 1020 am = some (q 20) := (hM.2.1 (20, 201, 7) (by decide)).1
  have k20 : kd h (q 20) = 201 := (hM.2.1 (20, 201, 7) (by decide)).2.1
  have l20 : ln h (q 20) = 7 := (hM.2.1 (20, 201, 7) (by decide)).2.2
  have cl : (nI d).toNatClampNeg = d := nI_cl hd (by omega)
  have ib : inB (nI d) 7 = true := inB_nI hd (by omega)
  have s43 : m_X9_isSign am 43 h = some (if K A = 10010 then 1 else 0, h) := r_isSign hM hT hP hA (i := 2) (by decide) (c := 43) rfl
  have s45 : m_X9_isSign am 45 h = some (if K A = 10011 then 1 else 0, h) := r_isSign hM hT hP hA (i := 3) (by decide) (c := 45) rfl
  have s60 : m_X9_isSign am 60 h = some (if K A = 10012 then 1 else 0, h) := r_isSign hM hT hP hA (i := 5) (by decide) (c := 60) rfl
  have s61 : m_X9_isSign am 61 h = some (if K A = 10013 then 1 else 0, h) := r_isSign hM hT hP hA (i := 6) (by decide) (c := 61) rfl
  have v20 : ai h (q 20) d = 0 := h20
  have ea : nI A + 1 = nI (A + 1) := nI_add A 1
  unfold BES
  rcases hk with hk | hk
  · rw [if_neg (by rw [hk]; decide)] at s43 s45
    rw [if_pos hk] at s60
    have eo : eO (K A) = 5 := by rw [hk]; decide
    rw [eo]
    simp only [X9_goesOnBehind_b43, X9_goesOnBehind_b153, X9_goesOnBehind_b176, aN, kA201, kA202, kA203, kA206, kA306, i1n0, i0n1, i0e0, i1e1, gI, gR, pI, pB, pR, xI, xL, yI, yL, vc, kd_sFi, fr_sFi, ln_sFi, ai_sFi, al_sFi, ar_sFi, cs_sFi, sz_sFi, sz_sAi, kd_sAi, fi_sAi, fr_sAi, ln_sAi, al_sAi, ar_sAi, cs_sAi, kd_wz, fi_wz, fr_wz, ln_wz, ai_wz, al_wz, ar_wz, Option.bind_some, if_true, if_false, Nat.reduceAdd, Nat.reduceMul, reduceIte, and_self, true_and, and_true, hkm, s43, s45, s60, f18, r20, k20, l20, cl, ib, v20, nar_i32, f7, ea]
    rfl
  · rw [if_neg (by rw [hk]; decide)] at s43 s45 s60
    rw [if_pos hk] at s61
    have eo : eO (K A) = 6 := by rw [hk]; decide
    rw [eo]
    simp only [X9_goesOnBehind_b43, X9_goesOnBehind_b153, X9_goesOnBehind_b176, aN, kA201, kA202, kA203, kA206, kA306, i1n0, i0n1, i0e0, i1e1, gI, gR, pI, pB, pR, xI, xL, yI, yL, vc, kd_sFi, fr_sFi, ln_sFi, ai_sFi, al_sFi, ar_sFi, cs_sFi, sz_sFi, sz_sAi, kd_sAi, fi_sAi, fr_sAi, ln_sAi, al_sAi, ar_sAi, cs_sAi, kd_wz, fi_wz, fr_wz, ln_wz, ai_wz, al_wz, ar_wz, Option.bind_some, if_true, if_false, Nat.reduceAdd, Nat.reduceMul, reduceIte, and_self, true_and, and_true, hkm, s43, s45, s60, s61, f18, r20, k20, l20, cl, ib, v20, nar_i32, f7, ea]
    rfl
theorem bes_em {h : HS} (hM : SMA q am h) {K P : Nat → Int32} {T A d : Nat} {C : List Int32} (hT : TM q K P T h) (hP : PM am A 0 d h) (hC : CM am q C h) (hl : C.length < 660) (hA : A ≤ T) (hd : d < 7) (h1 : K A ≠ 10010) (h2 : K A ≠ 10011) {s : Int32} (h20 : mv q h 20 d = eO s) (hs0 : eO s ≠ 0) (hsA : eA s = 0) : ∃ h', (∀ F1 F2, BES am F1 F2 h = BET am F1 F2 h') ∧ FM am q h h' ∧ PM am A 0 d h' ∧ CM am q (C ++ [s]) h' ∧ mv q h' 19 = mv q h 19 ∧ mv q h' 20 = va_up (mv q h 20) d 0 ∧ mv q h' 21 = mv q h 21 := by
  have hkm : kd h am = 11 := hM.1
  have f18 : fi h 1018 am = nI d := hP.2.2
  have r20 : fr h 1020 am = some (q 20) := (hM.2.1 (20, 201, 7) (by decide)).1
  have k20 : kd h (q 20) = 201 := (hM.2.1 (20, 201, 7) (by decide)).2.1
  have l20 : ln h (q 20) = 7 := (hM.2.1 (20, 201, 7) (by decide)).2.2
  have cl : (nI d).toNatClampNeg = d := nI_cl hd (by omega)
  have ib : inB (nI d) 7 = true := inB_nI hd (by omega)
  have s43 : m_X9_isSign am 43 h = some (if K A = 10010 then 1 else 0, h) := r_isSign hM hT hP hA (i := 2) (by decide) (c := 43) rfl
  have s45 : m_X9_isSign am 45 h = some (if K A = 10011 then 1 else 0, h) := r_isSign hM hT hP hA (i := 3) (by decide) (c := 45) rfl
  rw [if_neg h1] at s43
  rw [if_neg h2] at s45
  have v20 : ai h (q 20) d = eO s := h20
  have z : (eO s = 0) = False := eq_false hs0
  obtain ⟨h1', e1, e2, e3, e4, e5⟩ := r_emit hM hC hl s
  rw [hsA] at e1
  have hM1 := SMA_same e2.1 hM
  obtain ⟨b1, b2, b3⟩ := FM_w hM1 (k := 20) (by decide) d 0
  have d1 := e2.1.1
  have d2 := e2.1.2.1
  have d3 := e2.1.2.2.1
  have f181 : fi h1' 1018 am = nI d := (e4 18 (by decide)).trans hP.2.2
  refine ⟨sAi h1' (q 20) d 0, fun F1 F2 => ?_, e2.tr b1, ⟨(e4 7 (by decide)).trans hP.1, (e4 8 (by decide)).trans hP.2.1, f181⟩, ⟨e3.1, fun j hj => ?_⟩, ?_, ?_, ?_⟩
  · unfold BES BET
    simp only [X9_goesOnBehind_b43, aN, kA201, kA202, kA203, kA206, kA306, i1n0, i0n1, i0e0, i1e1, gI, gR, pI, pB, pR, xI, xL, yI, yL, vc, kd_sFi, fr_sFi, ln_sFi, ai_sFi, al_sFi, ar_sFi, cs_sFi, sz_sFi, sz_sAi, kd_sAi, fi_sAi, fr_sAi, ln_sAi, al_sAi, ar_sAi, cs_sAi, kd_wz, fi_wz, fr_wz, ln_wz, ai_wz, al_wz, ar_wz, Option.bind_some, if_true, if_false, Nat.reduceAdd, Nat.reduceMul, reduceIte, and_self, true_and, and_true, hkm, s43, s45, f18, r20, k20, l20, cl, ib, v20, z, e1, d1, d2, d3, f181, nar_i32]
  · rw [b3 15 (by decide), b3 16 (by decide)]; exact e3.2 j hj
  · rw [b3 19 (by decide), e5 19 (by decide)]
  · rw [b2, e5 20 (by decide)]
  · rw [b3 21 (by decide), e5 21 (by decide)]
theorem bet_0 {h : HS} (hM : SMA q am h) {A d : Nat} (hP : PM am A 0 d h) (hd : d < 7) (h21 : mv q h 21 d = 0) (F1 F2 : Nat) : BET am F1 F2 h = BEA am F1 F2 h := by
  have hkm : kd h am = 11 := hM.1
  have f18 : fi h 1018 am = nI d := hP.2.2
  have r21 : fr h 1021 am = some (q 21) := (hM.2.1 (21, 201, 7) (by decide)).1
  have k21 : kd h (q 21) = 201 := (hM.2.1 (21, 201, 7) (by decide)).2.1
  have l21 : ln h (q 21) = 7 := (hM.2.1 (21, 201, 7) (by decide)).2.2
  have cl : (nI d).toNatClampNeg = d := nI_cl hd (by omega)
  have ib : inB (nI d) 7 = true := inB_nI hd (by omega)
  have v21 : ai h (q 21) d = 0 := h21
  unfold BET BEA
  simp only [X9_goesOnBehind_b189, aN, kA201, kA202, kA203, kA206, kA306, i1n0, i0n1, i0e0, i1e1, gI, gR, pI, pB, pR, xI, xL, yI, yL, vc, kd_sFi, fr_sFi, ln_sFi, ai_sFi, al_sFi, ar_sFi, cs_sFi, sz_sFi, sz_sAi, kd_sAi, fi_sAi, fr_sAi, ln_sAi, al_sAi, ar_sAi, cs_sAi, kd_wz, fi_wz, fr_wz, ln_wz, ai_wz, al_wz, ar_wz, Option.bind_some, if_true, if_false, Nat.reduceAdd, Nat.reduceMul, reduceIte, and_self, true_and, and_true, hkm, f18, r21, k21, l21, cl, ib, v21]
theorem bet_1 {h : HS} (hM : SMA q am h) {A d : Nat} {C : List Int32} (hP : PM am A 0 d h) (hC : CM am q C h) (hl : C.length < 660) (hd : d < 7) (h21 : mv q h 21 d = 7) : ∃ h', (∀ F1 F2, BET am F1 F2 h = BEA am F1 F2 h') ∧ FM am q h h' ∧ PM am A 0 d h' ∧ CM am q (C ++ [10014]) h' ∧ mv q h' 19 = mv q h 19 ∧ mv q h' 20 = mv q h 20 ∧ mv q h' 21 = va_up (mv q h 21) d 0 := by
  have hkm : kd h am = 11 := hM.1
  have f18 : fi h 1018 am = nI d := hP.2.2
  have r21 : fr h 1021 am = some (q 21) := (hM.2.1 (21, 201, 7) (by decide)).1
  have k21 : kd h (q 21) = 201 := (hM.2.1 (21, 201, 7) (by decide)).2.1
  have l21 : ln h (q 21) = 7 := (hM.2.1 (21, 201, 7) (by decide)).2.2
  have cl : (nI d).toNatClampNeg = d := nI_cl hd (by omega)
  have ib : inB (nI d) 7 = true := inB_nI hd (by omega)
  have v21 : ai h (q 21) d = 7 := h21
  have z : ((7 : Int32) = 0) = False := eq_false (by decide)
  obtain ⟨h1', e1, e2, e3, e4, e5⟩ := r_emit hM hC hl 10014
  have e1' : m_X9_emit am 7 0 h = some h1' := e1
  have hM1 := SMA_same e2.1 hM
  obtain ⟨b1, b2, b3⟩ := FM_w hM1 (k := 21) (by decide) d 0
  have d1 := e2.1.1
  have d2 := e2.1.2.1
  have d3 := e2.1.2.2.1
  have f181 : fi h1' 1018 am = nI d := (e4 18 (by decide)).trans hP.2.2
  refine ⟨sAi h1' (q 21) d 0, fun F1 F2 => ?_, e2.tr b1, ⟨(e4 7 (by decide)).trans hP.1, (e4 8 (by decide)).trans hP.2.1, f181⟩, ⟨e3.1, fun j hj => ?_⟩, ?_, ?_, ?_⟩
  · unfold BET BEA
    simp only [X9_goesOnBehind_b189, aN, kA201, kA202, kA203, kA206, kA306, i1n0, i0n1, i0e0, i1e1, gI, gR, pI, pB, pR, xI, xL, yI, yL, vc, kd_sFi, fr_sFi, ln_sFi, ai_sFi, al_sFi, ar_sFi, cs_sFi, sz_sFi, sz_sAi, kd_sAi, fi_sAi, fr_sAi, ln_sAi, al_sAi, ar_sAi, cs_sAi, kd_wz, fi_wz, fr_wz, ln_wz, ai_wz, al_wz, ar_wz, Option.bind_some, if_true, if_false, Nat.reduceAdd, Nat.reduceMul, reduceIte, and_self, true_and, and_true, hkm, f18, r21, k21, l21, cl, ib, v21, z, e1', d1, d2, d3, f181, nar_i32]
  · rw [b3 15 (by decide), b3 16 (by decide)]; exact e3.2 j hj
  · rw [b3 19 (by decide), e5 19 (by decide)]
  · rw [b3 20 (by decide), e5 20 (by decide)]
  · rw [b2, e5 21 (by decide)]
theorem bea_and {h : HS} (hM : SMA q am h) {K P : Nat → Int32} {T A d : Nat} (hT : TM q K P T h) (hP : PM am A 0 d h) (hA : A ≤ T) (hd : d < 7) (hk : K A = 10014) (F1 F2 : Nat) : BEA am F1 F2 h = X9_line_L168 am F2 1 (sFi (sAi h (q 21) d 7) 1007 am (nI (A + 1))) := by
  have hkm : kd h am = 11 := hM.1
  have f7 : fi h 1007 am = nI A := hP.1
  have f18 : fi h 1018 am = nI d := hP.2.2
  have r21 : fr h 1021 am = some (q 21) := (hM.2.1 (21, 201, 7) (by decide)).1
  have k21 : kd h (q 21) = 201 := (hM.2.1 (21, 201, 7) (by decide)).2.1
  have l21 : ln h (q 21) = 7 := (hM.2.1 (21, 201, 7) (by decide)).2.2
  have cl : (nI d).toNatClampNeg = d := nI_cl hd (by omega)
  have ib : inB (nI d) 7 = true := inB_nI hd (by omega)
  have sw : m_X9_isWord am 2 h = some (if K A = 10014 then 1 else 0, h) := r_isWord hM hT hP hA (i := 2) (by decide)
  rw [if_pos hk] at sw
  have ea : nI A + 1 = nI (A + 1) := nI_add A 1
  unfold BEA
  simp only [X9_goesOnBehind_b218, aN, kA201, kA202, kA203, kA206, kA306, i1n0, i0n1, i0e0, i1e1, gI, gR, pI, pB, pR, xI, xL, yI, yL, vc, kd_sFi, fr_sFi, ln_sFi, ai_sFi, al_sFi, ar_sFi, cs_sFi, sz_sFi, sz_sAi, kd_sAi, fi_sAi, fr_sAi, ln_sAi, al_sAi, ar_sAi, cs_sAi, kd_wz, fi_wz, fr_wz, ln_wz, ai_wz, al_wz, ar_wz, Option.bind_some, if_true, if_false, Nat.reduceAdd, Nat.reduceMul, reduceIte, and_self, true_and, and_true, hkm, sw, f18, r21, k21, l21, cl, ib, nar_i32, f7, ea]
  rfl
theorem bea_end {h : HS} (hM : SMA q am h) {K P : Nat → Int32} {T A : Nat} (hT : TM q K P T h) (hP : PM am A 0 0 h) (hA : A ≤ T) (hk : K A ≠ 10014) (F1 F2 : Nat) : BEA am F1 (F2 + 1) h = X9_line_b202 am h := by
  have hkm : kd h am = 11 := hM.1
  have f18 : fi h 1018 am = 0 := hP.2.2
  have sw : m_X9_isWord am 2 h = some (if K A = 10014 then 1 else 0, h) := r_isWord hM hT hP hA (i := 2) (by decide)
  rw [if_neg hk] at sw
  unfold BEA
  simp only [X9_goesOnBehind_b218, aN, kA201, kA202, kA203, kA206, kA306, i1n0, i0n1, i0e0, i1e1, gI, gR, pI, pB, pR, xI, xL, yI, yL, vc, kd_sFi, fr_sFi, ln_sFi, ai_sFi, al_sFi, ar_sFi, cs_sFi, sz_sFi, sz_sAi, kd_sAi, fi_sAi, fr_sAi, ln_sAi, al_sAi, ar_sAi, cs_sAi, kd_wz, fi_wz, fr_wz, ln_wz, ai_wz, al_wz, ar_wz, Option.bind_some, if_true, if_false, Nat.reduceAdd, Nat.reduceMul, reduceIte, and_self, true_and, and_true, hkm, sw, f18, CT2, l_0]
theorem r_takeSign {h : HS} (hM : SMA q am h) {K P : Nat → Int32} {T A d : Nat} (hT : TM q K P T h) (hP : PM am A 0 d h) (hA : A ≤ T) {i : Nat} (hi : i < 7) {c : Int32} (hc : c.toInt64 = sgC.getD i 0) : m_X9_takeSign am c h = if K A = sgK.getD i 0 then some (sFi h 1007 am (nI (A + 1))) else some (sFi h 1008 am (1 + 16 * P A)) := by
  have hkm : kd h am = 11 := hM.1
  have f7 : fi h 1007 am = nI A := hP.1
  have hs := r_isSign hM hT hP hA hi hc
  have ea : nI A + 1 = nI (A + 1) := nI_add A 1
  have hw := r_wrong hM hT hP hA 1
  by_cases hk : K A = sgK.getD i 0
  · rw [if_pos hk] at hs ⊢
    simp only [m_X9_takeSign, aN, kA201, kA202, kA203, kA206, kA306, i1n0, i0n1, i0e0, i1e1, gI, gR, pI, pB, pR, xI, xL, yI, yL, vc, kd_sFi, fr_sFi, ln_sFi, ai_sFi, al_sFi, ar_sFi, cs_sFi, sz_sFi, sz_sAi, kd_sAi, fi_sAi, fr_sAi, ln_sAi, al_sAi, ar_sAi, cs_sAi, kd_wz, fi_wz, fr_wz, ln_wz, ai_wz, al_wz, ar_wz, Option.bind_some, if_true, if_false, Nat.reduceAdd, Nat.reduceMul, reduceIte, and_self, true_and, and_true, hkm, hs, f7, ea]
  · rw [if_neg hk] at hs ⊢
    simp only [m_X9_takeSign, aN, kA201, kA202, kA203, kA206, kA306, i1n0, i0n1, i0e0, i1e1, gI, gR, pI, pB, pR, xI, xL, yI, yL, vc, kd_sFi, fr_sFi, ln_sFi, ai_sFi, al_sFi, ar_sFi, cs_sFi, sz_sFi, sz_sAi, kd_sAi, fi_sAi, fr_sAi, ln_sAi, al_sAi, ar_sAi, cs_sAi, kd_wz, fi_wz, fr_wz, ln_wz, ai_wz, al_wz, ar_wz, Option.bind_some, if_true, if_false, Nat.reduceAdd, Nat.reduceMul, reduceIte, and_self, true_and, and_true, hkm, hs, hw]
theorem bea_close {h : HS} (hM : SMA q am h) {K P : Nat → Int32} {T A d : Nat} (hT : TM q K P T h) (hP : PM am A 0 (d + 1) h) (hA : A ≤ T) (hd : d + 1 < 7) (hk : K A ≠ 10014) : ∃ h', (∀ F1 F2, BEA am F1 F2 h = BEH am F1 F2 h') ∧ FM am q h h' ∧ (∀ k, mv q h' k = mv q h k) ∧ (∀ C, CM am q C h → CM am q C h') ∧ (K A = 10023 → PM am (A + 1) 0 d h') ∧ (K A ≠ 10023 → mf am h' 8 = 1 + 16 * P A) := by
  have hkm : kd h am = 11 := hM.1
  have f18 : fi h 1018 am = nI (d + 1) := hP.2.2
  have sw : m_X9_isWord am 2 h = some (if K A = 10014 then 1 else 0, h) := r_isWord hM hT hP hA (i := 2) (by decide)
  rw [if_neg hk] at sw
  have ts : m_X9_takeSign am 41 h = if K A = 10023 then some (sFi h 1007 am (nI (A + 1))) else some (sFi h 1008 am (1 + 16 * P A)) := r_takeSign hM hT hP hA (i := 1) (by decide) (c := 41) rfl
  have z : (nI (d + 1) = 0) = False := eq_false fun y => by have := (nI_eq (b := 0) (by omega) (by omega)).mp y; omega
  have ed : nI (d + 1) - 1 = nI d := nI_sub (a := d + 1) (b := 1) (by omega)
  have n1 : ((1018 : Nat) = 1007) = False := eq_false (by decide)
  have n2 : ((1018 : Nat) = 1008) = False := eq_false (by decide)
  by_cases hc : K A = 10023
  · rw [if_pos hc] at ts
    obtain ⟨p1, p2, p3⟩ := r_at (q := q) hP (A + 1)
    obtain ⟨s1, s2, s3⟩ := FM_s (am := am) (q := q) (h := sFi h 1007 am (nI (A + 1))) (k := 18) (by decide) (nI d)
    refine ⟨sFi (sFi h 1007 am (nI (A + 1))) 1018 am (nI d), fun F1 F2 => ?_, p1.tr s1, fun _ => rfl, fun C hC => ⟨?_, hC.2⟩, fun _ => ⟨?_, ?_, s2⟩, fun y => absurd hc y⟩
    · unfold BEA BEH
      simp only [X9_goesOnBehind_b218, aN, kA201, kA202, kA203, kA206, kA306, i1n0, i0n1, i0e0, i1e1, gI, gR, pI, pB, pR, xI, xL, yI, yL, vc, kd_sFi, fr_sFi, ln_sFi, ai_sFi, al_sFi, ar_sFi, cs_sFi, sz_sFi, sz_sAi, kd_sAi, fi_sAi, fr_sAi, ln_sAi, al_sAi, ar_sAi, cs_sAi, kd_wz, fi_wz, fr_wz, ln_wz, ai_wz, al_wz, ar_wz, Option.bind_some, if_true, if_false, Nat.reduceAdd, Nat.reduceMul, reduceIte, and_self, true_and, and_true, hkm, sw, f18, z, ts, fi_sFi, up2, n1, false_and, ed]
    · rw [s3 17 (by decide)]; exact (p3 C hC).1
    · rw [s3 7 (by decide)]; exact p2.1
    · rw [s3 8 (by decide)]; exact p2.2.1
  · rw [if_neg hc] at ts
    obtain ⟨p1, p2, p3⟩ := FM_s (am := am) (q := q) (h := h) (k := 8) (by decide) (1 + 16 * P A)
    obtain ⟨s1, s2, s3⟩ := FM_s (am := am) (q := q) (h := sFi h 1008 am (1 + 16 * P A)) (k := 18) (by decide) (nI d)
    refine ⟨sFi (sFi h 1008 am (1 + 16 * P A)) 1018 am (nI d), fun F1 F2 => ?_, p1.tr s1, fun _ => rfl, fun C hC => ⟨?_, hC.2⟩, fun y => absurd y hc, fun _ => ?_⟩
    · unfold BEA BEH
      simp only [X9_goesOnBehind_b218, aN, kA201, kA202, kA203, kA206, kA306, i1n0, i0n1, i0e0, i1e1, gI, gR, pI, pB, pR, xI, xL, yI, yL, vc, kd_sFi, fr_sFi, ln_sFi, ai_sFi, al_sFi, ar_sFi, cs_sFi, sz_sFi, sz_sAi, kd_sAi, fi_sAi, fr_sAi, ln_sAi, al_sAi, ar_sAi, cs_sAi, kd_wz, fi_wz, fr_wz, ln_wz, ai_wz, al_wz, ar_wz, Option.bind_some, if_true, if_false, Nat.reduceAdd, Nat.reduceMul, reduceIte, and_self, true_and, and_true, hkm, sw, f18, z, ts, fi_sFi, up2, n2, false_and, ed]
    · rw [s3 17 (by decide), p3 17 (by decide)]; exact hC.1
    · rw [s3 8 (by decide)]; exact p2
end BEHIND
