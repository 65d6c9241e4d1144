/-! ARRAYS, over Sim -/
theorem aN_some {h : HS} {r : Option Nat} {x : Int32} (hg : aN h r = some x) : ∃ a, r = some a ∧ kA (kd h a) = true ∧ x = nI (ln h a) := by
  cases r with
  | none => cases hg
  | some a =>
    by_cases hk : kA (kd h a) = true
    · simp only [aN, if_pos hk] at hg; exact ⟨a, rfl, hk, (Option.some.inj hg).symm⟩
    · simp only [aN, if_neg hk] at hg; cases hg
theorem xI_some {kk : Nat} {h : HS} {r : Option Nat} {i x : Int32} (hg : xI kk h r i = some x) : ∃ a, r = some a ∧ kd h a = kk ∧ inB i (ln h a) = true ∧ x = ai h a i.toNatClampNeg := by
  cases r with
  | none => cases hg
  | some a =>
    by_cases hk : kd h a = kk ∧ inB i (ln h a) = true
    · simp only [xI, if_pos hk] at hg; exact ⟨a, rfl, hk.1, hk.2, (Option.some.inj hg).symm⟩
    · simp only [xI, if_neg hk] at hg; cases hg
theorem xL_some {h : HS} {r : Option Nat} {i : Int32} {x : Int64} (hg : xL h r i = some x) : ∃ a, r = some a ∧ kd h a = 204 ∧ inB i (ln h a) = true ∧ x = al h a i.toNatClampNeg := by
  cases r with
  | none => cases hg
  | some a =>
    by_cases hk : kd h a = 204 ∧ inB i (ln h a) = true
    · simp only [xL, if_pos hk] at hg; exact ⟨a, rfl, hk.1, hk.2, (Option.some.inj hg).symm⟩
    · simp only [xL, if_neg hk] at hg; cases hg
theorem xR_some {kk : Nat} {h : HS} {r : Option Nat} {i : Int32} {x : Option Nat} (hg : xR kk h r i = some x) : ∃ a, r = some a ∧ kd h a = kk ∧ inB i (ln h a) = true ∧ x = ar h a i.toNatClampNeg := by
  cases r with
  | none => cases hg
  | some a =>
    by_cases hk : kd h a = kk ∧ inB i (ln h a) = true
    · simp only [xR, if_pos hk] at hg; exact ⟨a, rfl, hk.1, hk.2, (Option.some.inj hg).symm⟩
    · simp only [xR, if_neg hk] at hg; cases hg
theorem yI_some {kk : Nat} {h h' : HS} {r : Option Nat} {i x : Int32} (hg : yI kk h r i x = some h') : ∃ a, r = some a ∧ kd h a = kk ∧ inB i (ln h a) = true ∧ h' = sAi h a i.toNatClampNeg (vp_nar (tyK kk) x) := by
  cases r with
  | none => cases hg
  | some a =>
    by_cases hk : kd h a = kk ∧ inB i (ln h a) = true
    · simp only [yI, if_pos hk] at hg; exact ⟨a, rfl, hk.1, hk.2, (Option.some.inj hg).symm⟩
    · simp only [yI, if_neg hk] at hg; cases hg
theorem yL_some {h h' : HS} {r : Option Nat} {i : Int32} {x : Int64} (hg : yL h r i x = some h') : ∃ a, r = some a ∧ kd h a = 204 ∧ inB i (ln h a) = true ∧ h' = sAl h a i.toNatClampNeg x := by
  cases r with
  | none => cases hg
  | some a =>
    by_cases hk : kd h a = 204 ∧ inB i (ln h a) = true
    · simp only [yL, if_pos hk] at hg; exact ⟨a, rfl, hk.1, hk.2, (Option.some.inj hg).symm⟩
    · simp only [yL, if_neg hk] at hg; cases hg
theorem yR_some {kk c : Nat} {h h' : HS} {r x : Option Nat} {i : Int32} (hg : yR kk c h r i x = some h') : ∃ a b, r = some a ∧ x = some b ∧ kd h a = kk ∧ inB i (ln h a) = true ∧ kd h b = c + 1 ∧ h' = sAr h a i.toNatClampNeg (some b) := by
  cases r with
  | none => cases hg
  | some a =>
    cases x with
    | none => cases hg
    | some b =>
      by_cases hk : kd h a = kk ∧ inB i (ln h a) = true ∧ kd h b = c + 1
      · simp only [yR, if_pos hk] at hg; exact ⟨a, b, rfl, rfl, hk.1, hk.2.1, hk.2.2, (Option.some.inj hg).symm⟩
      · simp only [yR, if_neg hk] at hg; cases hg
section SA
variable {ρ : Type} {E : EV} {M : MI} {out : FIN ρ} {cells slots pc : Nat} {lo : LL} {st : List Value} {h : HS}
theorem arr_of {s : State} {G : GG} (hK : KW G s) {k : Nat} (hk : (k, tyK k) ∈ arT) : ArrOfT s (dA G k) (tyK k) ∧ va_RA s (dA G k) (tyK k) := hK.2.1 _ hk
theorem si_aN {kk : Int32 → Option ρ} {r : Option Nat} (hd : decode M.1 pc = .ok (.arraylength, 1)) (k1 : ∀ x, Sim E M out cells slots (pc + 1) lo (.int x :: st) h (kk x)) : Sim E M out cells slots pc lo (va_rf r :: st) h ((aN h r).bind kk) := by
  obtain ⟨p, l, e, R, s, m, args, below, meth, c, G, h0⟩ := E
  intro hE res hk ls H locs hl hH hS
  obtain ⟨x, hx, hk⟩ := bind_some hk
  obtain ⟨a, rfl, hka, rfl⟩ := aN_some hx
  obtain ⟨e1, e2, e3, e4, e5, e6, e7, e8, e9, e10⟩ := id hE
  have h0k : kd h a ≠ 0 := by intro z; rw [z] at hka; simp [kA, kI, kR] at hka
  obtain ⟨-, -, c2, c3, c4, -, c6, c7⟩ := hH.2.1 a h0k
  have k2 := k1 _ hE res hk ls H locs hl hH hS
  simp only [kA, Bool.or_eq_true, beq_iff_eq] at hka
  rcases hka with (((q | q) | q) | q) | q
  · have hm : (kd h a, tyK (kd h a)) ∈ arT := by
      simp only [kI, Bool.or_eq_true, beq_iff_eq] at q
      rcases q with (q | q) | q <;> (rw [q]; simp [arT, tyK])
    exact W.alen e1 e2 (c2 q) ((arr_of e10 hm).1 _ _) (by rw [arrV_size]; rfl) rfl rfl hd k2
  · have hm : (kd h a, tyK (kd h a)) ∈ arT := by
      simp only [kR, Bool.or_eq_true, beq_iff_eq] at q
      rcases q with q | q <;> (rw [q]; simp [arT, tyK])
    exact W.alen e1 e2 (c4 q) ((arr_of e10 hm).1 _ _) (by rw [arrV_size]; rfl) rfl rfl hd k2
  · exact W.alen e1 e2 (c3 q) ((arr_of e10 (k := 204) (by simp [arT, tyK])).1 _ _) (by rw [arrV_size]; rfl) rfl rfl hd k2
  · obtain ⟨i, hi, rfl, hln, -⟩ := c6 q
    obtain ⟨cell, t1, t2, t3, t4, t5, t6, t7⟩ := (e10.2.2.2.2.2.1.1 i hi).2.2.2
    have hlt : gAv G i < (gH G).size := Nat.not_le.mp t7
    exact W.alen e1 e2 (by rw [hH.2.2.2.1 _ hlt]; exact t1) t2 (by rw [t5, hln]; rfl) rfl rfl hd k2
  · obtain ⟨rfl, hln⟩ := c7 q
    obtain ⟨cell, t1, t2, t3, t4, t5, t6, t7⟩ := e10.2.2.2.2.2.2.2.2.1
    have hlt : gCs G 0 < (gH G).size := Nat.not_le.mp t7
    exact W.alen e1 e2 (by rw [hH.2.2.2.1 _ hlt]; exact t1) t2 (by rw [t5, hln]; rfl) rfl rfl hd k2
theorem si_ia {kk : Int32 → Option ρ} {r : Option Nat} {i : Int32} (hd : decode M.1 pc = .ok (.iaload, 1)) (k1 : ∀ x, Sim E M out cells slots (pc + 1) lo (.int x :: st) h (kk x)) : Sim E M out cells slots pc lo (.int i :: va_rf r :: st) h ((xI 201 h r i).bind kk) := by
  obtain ⟨p, l, e, R, s, m, args, below, meth, c, G, h0⟩ := E
  intro hE res hk ls H locs hl hH hS
  obtain ⟨x, hx, hk⟩ := bind_some hk
  obtain ⟨a, rfl, hka, hi, rfl⟩ := xI_some hx
  obtain ⟨e1, e2, e3, e4, e5, e6, e7, e8, e9, e10⟩ := id hE
  have c2 := (hH.2.1 a (by omega)).2.2.1 (by rw [hka]; rfl)
  have hin := inB_in hi
  have hlt : i.toNatClampNeg < ln h a := Nat.not_le.mp fun q => hin (Or.inr q)
  rw [hka] at c2
  exact W.iald e1 e2 c2 ((arr_of e10 (k := 201) (by simp [arT, tyK])).1 _ _) (fun q => by cases q) (by rw [arrV_size]; exact hin) (by rw [arrV_read _ _ hlt]) rfl rfl hd (k1 _ hE res hk ls H locs hl hH hS)
theorem si_za {kk : Int32 → Option ρ} {r : Option Nat} {i : Int32} (hd : decode M.1 pc = .ok (.baload, 1)) (k1 : ∀ x, Sim E M out cells slots (pc + 1) lo (.int x :: st) h (kk x)) : Sim E M out cells slots pc lo (.int i :: va_rf r :: st) h ((xI 202 h r i).bind kk) := by
  obtain ⟨p, l, e, R, s, m, args, below, meth, c, G, h0⟩ := E
  intro hE res hk ls H locs hl hH hS
  obtain ⟨x, hx, hk⟩ := bind_some hk
  obtain ⟨a, rfl, hka, hi, rfl⟩ := xI_some hx
  obtain ⟨e1, e2, e3, e4, e5, e6, e7, e8, e9, e10⟩ := id hE
  have c2 := (hH.2.1 a (by omega)).2.2.1 (by rw [hka]; rfl)
  have hin := inB_in hi
  have hlt : i.toNatClampNeg < ln h a := Nat.not_le.mp fun q => hin (Or.inr q)
  rw [hka] at c2
  exact W.zald e1 e2 c2 ((arr_of e10 (k := 202) (by simp [arT, tyK])).1 _ _) (fun q => by cases q) (by rw [arrV_size]; exact hin) (by rw [arrV_read _ _ hlt]) rfl rfl hd (k1 _ hE res hk ls H locs hl hH hS)
theorem si_ba {kk : Int32 → Option ρ} {r : Option Nat} {i : Int32} (kn : Nat) (hkn : kn = 203 ∨ kn = 303) (hd : decode M.1 pc = .ok (.baload, 1)) (k1 : ∀ x, Sim E M out cells slots (pc + 1) lo (.int x :: st) h (kk x)) : Sim E M out cells slots pc lo (.int i :: va_rf r :: st) h ((xI kn h r i).bind kk) := by
  obtain ⟨p, l, e, R, s, m, args, below, meth, c, G, h0⟩ := E
  intro hE res hk ls H locs hl hH hS
  obtain ⟨x, hx, hk⟩ := bind_some hk
  obtain ⟨a, rfl, hka, hi, rfl⟩ := xI_some hx
  obtain ⟨e1, e2, e3, e4, e5, e6, e7, e8, e9, e10⟩ := id hE
  have hin := inB_in hi
  have hlt : i.toNatClampNeg < ln h a := Nat.not_le.mp fun q => hin (Or.inr q)
  have k2 := k1 _ hE res hk ls H locs hl hH hS
  rcases hkn with rfl | rfl
  · have c2 := (hH.2.1 a (by omega)).2.2.1 (by rw [hka]; rfl)
    rw [hka] at c2
    exact W.bald e1 e2 c2 ((arr_of e10 (k := 203) (by simp [arT, tyK])).1 _ _) (fun q => by cases q) (by rw [arrV_size]; exact hin) (by rw [arrV_read _ _ hlt]) rfl rfl hd k2
  · obtain ⟨i0, hi0, rfl, hln, hai⟩ := (hH.2.1 a (by omega)).2.2.2.2.2.2.1 hka
    obtain ⟨cell, t1, t2, t3, t4, t5, t6, t7⟩ := (e10.2.2.2.2.2.1.1 i0 hi0).2.2.2
    have hlt2 : gAv G i0 < (gH G).size := Nat.not_le.mp t7
    refine W.bald e1 e2 (by rw [hH.2.2.2.1 _ hlt2]; exact t1) t2 t3 (fun q => ?_) ?_ rfl rfl hd k2
    · rcases q with q | q
      · exact hin (Or.inl q)
      · omega
    · rw [t6 _ (by omega), hai _ hlt]
theorem si_la {kk : Int64 → Option ρ} {r : Option Nat} {i : Int32} (hd : decode M.1 pc = .ok (.laload, 1)) (k1 : ∀ x, Sim E M out cells slots (pc + 1) lo (.long x :: st) h (kk x)) : Sim E M out cells slots pc lo (.int i :: va_rf r :: st) h ((xL h r i).bind kk) := by
  obtain ⟨p, l, e, R, s, m, args, below, meth, c, G, h0⟩ := E
  intro hE res hk ls H locs hl hH hS
  obtain ⟨x, hx, hk⟩ := bind_some hk
  obtain ⟨a, rfl, hka, hi, rfl⟩ := xL_some hx
  obtain ⟨e1, e2, e3, e4, e5, e6, e7, e8, e9, e10⟩ := id hE
  have c2 := (hH.2.1 a (by omega)).2.2.2.1 hka
  have hin := inB_in hi
  have hlt : i.toNatClampNeg < ln h a := Nat.not_le.mp fun q => hin (Or.inr q)
  exact W.lald e1 e2 c2 ((arr_of e10 (k := 204) (by simp [arT, tyK])).1 _ _) (fun q => by cases q) (by rw [arrV_size]; exact hin) (by rw [arrV_read _ _ hlt]) rfl rfl hd (k1 _ hE res hk ls H locs hl hH hS)
theorem si_ra {kk : Option Nat → Option ρ} {r : Option Nat} {i : Int32} (kn : Nat) (hkn : kn = 205 ∨ kn = 206) (hd : decode M.1 pc = .ok (.aaload, 1)) (k1 : ∀ x, Sim E M out cells slots (pc + 1) lo (va_rf x :: st) h (kk x)) : Sim E M out cells slots pc lo (.int i :: va_rf r :: st) h ((xR kn h r i).bind kk) := by
  obtain ⟨p, l, e, R, s, m, args, below, meth, c, G, h0⟩ := E
  intro hE res hk ls H locs hl hH hS
  obtain ⟨x, hx, hk⟩ := bind_some hk
  obtain ⟨a, rfl, hka, hi, rfl⟩ := xR_some hx
  obtain ⟨e1, e2, e3, e4, e5, e6, e7, e8, e9, e10⟩ := id hE
  have c2 := (hH.2.1 a (by omega)).2.2.2.2.1 (by rw [hka]; rcases hkn with rfl | rfl <;> rfl)
  have hin := inB_in hi
  have hlt : i.toNatClampNeg < ln h a := Nat.not_le.mp fun q => hin (Or.inr q)
  rw [hka] at c2
  have hAr : ∃ C, ArrOfT s (dA G kn) (.object C) := by
    rcases hkn with rfl | rfl
    · exact ⟨_, (arr_of e10 (k := 205) (by simp [arT, tyK])).1⟩
    · exact ⟨_, (arr_of e10 (k := 206) (by simp [arT, tyK])).1⟩
  obtain ⟨C, hAr⟩ := hAr
  exact W.aald e1 e2 c2 (hAr _ _) rfl (fun q => by cases q) (by rw [arrV_size]; exact hin) (by rw [arrV_read _ _ hlt]) rfl rfl hd (k1 _ hE res hk ls H locs hl hH hS)
theorem arrV_upI (cA : ClassId) (n k : Nat) (f : Nat → Int32) (x : Int32) : (arrV cA n (fun j => .int (f j))).setSlot k (.int x) = arrV cA n (fun j => .int (if j = k then x else f j)) := by
  rw [arrV_store]
  congr 1
  funext q
  by_cases hq : q = k <;> simp [updV, hq]
theorem arrV_upL (cA : ClassId) (n k : Nat) (f : Nat → Int64) (x : Int64) : (arrV cA n (fun j => .long (f j))).setSlot k (.long x) = arrV cA n (fun j => .long (if j = k then x else f j)) := by
  rw [arrV_store]
  congr 1
  funext q
  by_cases hq : q = k <;> simp [updV, hq]
theorem arrV_upR (cA : ClassId) (n k : Nat) (f : Nat → Option Nat) (x : Nat) : (arrV cA n (fun j => va_rf (f j))).setSlot k (.ref x) = arrV cA n (fun j => va_rf (if j = k then some x else f j)) := by
  rw [arrV_store]
  congr 1
  funext q
  by_cases hq : q = k <;> simp [updV, hq, va_rf]
theorem nar_i (ty : FieldType) (h : ty = .int ∨ ty = .boolean ∨ ty = .byte) (x : Int32) : narrow ty (.int x) = .int (vp_nar ty x) := by
  rcases h with rfl | rfl | rfl <;> rfl
theorem hOk_sAi {G : GG} {h : HS} {H H1 : Heap} {a k : Nat} {x : Int32} (hH : hOk G h H) (hk : kI (kd h a) = true) (e : H1[a]? = some ((arrV (dA G (kd h a)) (ln h a) (fun j => .int (ai h a j))).setSlot k (.int x))) (z2 : H1.size = H.size) (z3 : ∀ q, q ≠ a → H1[q]? = H[q]?) : hOk G (sAi h a k x) H1 := by
  refine hOk.putA hH (by simp [kA, hk]) (by simp only [kI, Bool.or_eq_true, beq_iff_eq] at hk; omega) rfl rfl rfl rfl rfl rfl (fun b hb => ?_) (fun b hb => rfl) (fun b hb => rfl) (fun _ => ?_) (fun h1 => ?_) (fun h1 => ?_) z2 z3
  · funext j; simp [ai, sAi, up2, hb]
  · rw [e, arrV_upI]
    congr 2
    funext j
    simp [ai, sAi, up2]
  · rw [h1] at hk; cases hk
  · exfalso
    simp only [kI, Bool.or_eq_true, beq_iff_eq] at hk
    simp only [kR, Bool.or_eq_true, beq_iff_eq] at h1
    omega
theorem si_is {kk : HS → Option ρ} {r : Option Nat} {i x : Int32} (hd : decode M.1 pc = .ok (.iastore, 1)) (k1 : ∀ h', Sim E M out cells slots (pc + 1) lo st h' (kk h')) : Sim E M out cells slots pc lo (.int x :: .int i :: va_rf r :: st) h ((yI 201 h r i x).bind kk) := by
  obtain ⟨p, l, e, R, s, m, args, below, meth, c, G, h0⟩ := E
  intro hE res hk ls H locs hl hH hS
  obtain ⟨h', hx, hk⟩ := bind_some hk
  obtain ⟨a, rfl, hka, hi, rfl⟩ := yI_some hx
  obtain ⟨e1, e2, e3, e4, e5, e6, e7, e8, e9, e10⟩ := id hE
  have c2 := (hH.2.1 a (by omega)).2.2.1 (by rw [hka]; rfl)
  have hin := inB_in hi
  refine W.iast e1 e2 c2 (by rw [hka]; exact (arr_of e10 (k := 201) (by simp [arT, tyK])).1 _ _) (fun q => by cases q) (by rw [arrV_size]; exact hin) rfl rfl hd fun H1 z1 z2 z3 => ?_
  exact k1 _ hE res hk ls H1 _ hl (hOk_sAi hH (by rw [hka]; rfl) (by rw [z1]; rfl) z2 z3) (hS.put (by rw [hka]; exact ⟨by omega, by omega⟩) rfl rfl z2 z3)
theorem si_zs {kk : HS → Option ρ} {r : Option Nat} {i x : Int32} (hd : decode M.1 pc = .ok (.bastore, 1)) (k1 : ∀ h', Sim E M out cells slots (pc + 1) lo st h' (kk h')) : Sim E M out cells slots pc lo (.int x :: .int i :: va_rf r :: st) h ((yI 202 h r i x).bind kk) := by
  obtain ⟨p, l, e, R, s, m, args, below, meth, c, G, h0⟩ := E
  intro hE res hk ls H locs hl hH hS
  obtain ⟨h', hx, hk⟩ := bind_some hk
  obtain ⟨a, rfl, hka, hi, rfl⟩ := yI_some hx
  obtain ⟨e1, e2, e3, e4, e5, e6, e7, e8, e9, e10⟩ := id hE
  have c2 := (hH.2.1 a (by omega)).2.2.1 (by rw [hka]; rfl)
  have hin := inB_in hi
  refine W.zast e1 e2 c2 (by rw [hka]; exact (arr_of e10 (k := 202) (by simp [arT, tyK])).1 _ _) (fun q => by cases q) (by rw [arrV_size]; exact hin) rfl rfl hd fun H1 z1 z2 z3 => ?_
  exact k1 _ hE res hk ls H1 _ hl (hOk_sAi hH (by rw [hka]; rfl) (by rw [z1]; rfl) z2 z3) (hS.put (by rw [hka]; exact ⟨by omega, by omega⟩) rfl rfl z2 z3)
theorem si_bs {kk : HS → Option ρ} {r : Option Nat} {i x : Int32} (hd : decode M.1 pc = .ok (.bastore, 1)) (k1 : ∀ h', Sim E M out cells slots (pc + 1) lo st h' (kk h')) : Sim E M out cells slots pc lo (.int x :: .int i :: va_rf r :: st) h ((yI 203 h r i x).bind kk) := by
  obtain ⟨p, l, e, R, s, m, args, below, meth, c, G, h0⟩ := E
  intro hE res hk ls H locs hl hH hS
  obtain ⟨h', hx, hk⟩ := bind_some hk
  obtain ⟨a, rfl, hka, hi, rfl⟩ := yI_some hx
  obtain ⟨e1, e2, e3, e4, e5, e6, e7, e8, e9, e10⟩ := id hE
  have c2 := (hH.2.1 a (by omega)).2.2.1 (by rw [hka]; rfl)
  have hin := inB_in hi
  refine W.bast e1 e2 c2 (by rw [hka]; exact (arr_of e10 (k := 203) (by simp [arT, tyK])).1 _ _) (fun q => by cases q) (by rw [arrV_size]; exact hin) rfl rfl hd fun H1 z1 z2 z3 => ?_
  exact k1 _ hE res hk ls H1 _ hl (hOk_sAi hH (by rw [hka]; rfl) (by rw [z1]; rfl) z2 z3) (hS.put (by rw [hka]; exact ⟨by omega, by omega⟩) rfl rfl z2 z3)
theorem si_lsr {kk : HS → Option ρ} {r : Option Nat} {i : Int32} {x : Int64} (hd : decode M.1 pc = .ok (.lastore, 1)) (k1 : ∀ h', Sim E M out cells slots (pc + 1) lo st h' (kk h')) : Sim E M out cells slots pc lo (.long x :: .int i :: va_rf r :: st) h ((yL h r i x).bind kk) := by
  obtain ⟨p, l, e, R, s, m, args, below, meth, c, G, h0⟩ := E
  intro hE res hk ls H locs hl hH hS
  obtain ⟨h', hx, hk⟩ := bind_some hk
  obtain ⟨a, rfl, hka, hi, rfl⟩ := yL_some hx
  obtain ⟨e1, e2, e3, e4, e5, e6, e7, e8, e9, e10⟩ := id hE
  have c2 := (hH.2.1 a (by omega)).2.2.2.1 hka
  have hin := inB_in hi
  refine W.last e1 e2 c2 ((arr_of e10 (k := 204) (by simp [arT, tyK])).1 _ _) (fun q => by cases q) (by rw [arrV_size]; exact hin) rfl rfl hd fun H1 z1 z2 z3 => ?_
  refine k1 _ hE res hk ls H1 _ hl ?_ (hS.put (by rw [hka]; exact ⟨by omega, by omega⟩) rfl rfl z2 z3)
  refine hOk.putA hH (by rw [hka]; rfl) (by omega) rfl rfl rfl rfl rfl rfl (fun b hb => rfl) (fun b hb => ?_) (fun b hb => rfl) (fun h1 => ?_) (fun h1 => ?_) (fun h1 => ?_) z2 z3
  · funext j; simp [al, sAl, up2, hb]
  · rw [hka] at h1; cases h1
  · rw [z1, arrV_upL]
    congr 2
    funext j
    simp [al, sAl, up2]
  · rw [hka] at h1; cases h1
theorem si_rs {kk : HS → Option ρ} {r x : Option Nat} {i : Int32} (kn cn : Nat) (hc : cn < 100) (hkn : (kn = 205 ∧ cn = 4) ∨ (kn = 206 ∧ ∃ rr, vwCl[cn]? = some rr ∧ Cond.castable rr.1 "java/lang/Object" ∈ NST)) (hd : decode M.1 pc = .ok (.aastore, 1)) (k1 : ∀ h', Sim E M out cells slots (pc + 1) lo st h' (kk h')) : Sim E M out cells slots pc lo (va_rf x :: .int i :: va_rf r :: st) h ((yR kn cn h r i x).bind kk) := by
  obtain ⟨p, l, e, R, s, m, args, below, meth, c, G, h0⟩ := E
  intro hE res hk ls H locs hl hH hS
  obtain ⟨h', hx, hk⟩ := bind_some hk
  obtain ⟨a, b, rfl, rfl, hka, hi, hkb, rfl⟩ := yR_some hx
  obtain ⟨e1, e2, e3, e4, e5, e6, e7, e8, e9, e10⟩ := id hE
  have hkR : kR (kd h a) = true := by rw [hka]; rcases hkn with ⟨rfl, -⟩ | ⟨rfl, -⟩ <;> rfl
  have c2 := (hH.2.1 a (by intro z; rw [z] at hkR; cases hkR)).2.2.2.2.1 hkR
  have hin := inB_in hi
  have hlt : i.toNatClampNeg < ln h a := Nat.not_le.mp fun q => hin (Or.inr q)
  have h0' : ¬ i < 0 := fun q => hin (Or.inl q)
  obtain ⟨rr, hrr, cellV, g1, g2, g3, -⟩ := gcell hH hkb hc
  have hcls := (e10.1.1 cn rr hrr).2
  obtain ⟨kC, hkC, -⟩ := hcls.2
  have hcomp : ∃ (kA0 : Class) (comp : ClassId) (C : String) (kcomp : Class), s.vm.classes[(dA G kn)]? = some kA0 ∧ kA0.kind = .array comp (.object C) ∧ s.vm.classes[comp]? = some kcomp ∧ s.vm.assignable (G.1.1 cn) comp = true := by
    rcases hkn with ⟨rfl, rfl⟩ | ⟨rfl, r2, hr2, hcast⟩
    · obtain ⟨kA0, comp, k1, k2, k3, -⟩ := (arr_of e10 (k := 205) (by simp [arT, tyK])).2
      cases hrr
      have : comp = G.1.1 4 := Option.some.inj (k3.symm.trans hcls.1)
      subst this
      exact ⟨kA0, _, _, kC, k1, k2, hkC, va_assign hcls⟩
    · cases hrr.symm.trans hr2
      obtain ⟨kA0, comp, k1, k2, k3, -⟩ := (arr_of e10 (k := 206) (by simp [arT, tyK])).2
      obtain ⟨c0, t0, f1, f2, f3⟩ := Cond.castable_spec (va_Nw.use (A := args) rfl (e10.2.2.1 _ hcast))
      have q1 : c0 = G.1.1 cn := Option.some.inj (f1.symm.trans hcls.1)
      have q2 : t0 = comp := Option.some.inj (f2.symm.trans k3)
      subst q1; subst q2
      obtain ⟨kcomp, hkcomp, -⟩ := Vm.findClass_spec k3
      exact ⟨kA0, _, _, kcomp, k1, k2, hkcomp, f3⟩
  obtain ⟨kA0, comp, C, kcomp, w1, w2, w3, w4⟩ := hcomp
  rw [hka] at c2
  refine W.aast e1 e2 c2 (fun q h => by cases h) (fun h => by cases h) w1 w2 rfl w3 ⟨h0', by rw [arrV_size]; exact hlt⟩ g1 (fun q h => by rw [g3] at h; cases h) (by rw [g2]; exact hkC) (by rw [g2]; exact w4) rfl rfl hd fun H1 z1 z2 z3 => ?_
  refine k1 _ hE res hk ls H1 _ hl ?_ (hS.put (by rw [hka]; rcases hkn with ⟨rfl, -⟩ | ⟨rfl, -⟩ <;> exact ⟨by omega, by omega⟩) rfl rfl z2 z3)
  refine hOk.putA hH (by simp [kA, hkR]) (by simp only [kR, Bool.or_eq_true, beq_iff_eq] at hkR; omega) rfl rfl rfl rfl rfl rfl (fun b hb => rfl) (fun b hb => rfl) (fun b hb => ?_) (fun h1 => ?_) (fun h1 => ?_) (fun h1 => ?_) z2 z3
  · funext j; simp [ar, sAr, up2, hb]
  · exfalso
    simp only [kR, Bool.or_eq_true, beq_iff_eq] at hkR
    simp only [kI, Bool.or_eq_true, beq_iff_eq] at h1
    omega
  · exfalso
    simp only [kR, Bool.or_eq_true, beq_iff_eq] at hkR
    omega
  · rw [z1, arrV_upR, hka]
    congr 2
    funext j
    simp [ar, sAr, up2]
end SA
