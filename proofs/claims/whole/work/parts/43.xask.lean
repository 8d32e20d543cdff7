set_option maxHeartbeats 4000000 in
set_option maxRecDepth 100000 in
theorem c_X4_atom (l : Launch) (hl0 : l.stackTraces = false) (D : va_G) (cs sa : Nat → Nat) (a : Nat → Nat) (M : Nat → Nat → Int32) (N : Nat → Int64) (sz : Nat) (hI : kI a 29) (nf : Nat) (x : Int32) (hfc : M 0 2 = nI nf) (hf40 : nf ≤ 40) : vx_Met l yX4_atom wsX4_atom ({ frames := 8, cells := 2, slots := 12, locals := 180 } : Room) (va_Pc [.ref (a 0), .int x] (XBT D cs sa a (xc cs a M N) sz)) (va_Qi (fun r (u : Nat → Nat → Int32) => r = nI nf ∧ (if (isIn 6 x) = true then (if (decide (nf < 40)) = true then 0 else 2) else 1) = 0 ∧ u = appM M nf 0 x (-1) (-1)) (fun (u : Nat → Nat → Int32) t => va_P D vwCl (xc cs a u (appN N nf 0 (-1) (-1))) t.heap) (kA a 29 sz)) (XX D (fun u => xc cs a u N) (fun E u => (E = "java/lang/IndexOutOfBoundsException" ∧ (if (isIn 6 x) = true then (if (decide (nf < 40)) = true then 0 else 2) else 1) = 1 ∨ E = "java/lang/IllegalStateException" ∧ (if (isIn 6 x) = true then (if (decide (nf < 40)) = true then 0 else 2) else 1) = 2) ∧ TX M u) (kA a 29 sz)) 2 12 (kA a 29 sz) := by
  refine vx_ofW (cc := cX4_atom) (maxL := 2) (ret := (some .int)) (by decide) rfl ?_
  intro p e s m args below meth c s₁ B hml htab hv
  obtain ⟨rfl, hsz, hP, hK, hT, hZ⟩ := hv
  have hx := B.exec
  have hb := B.bytes
  have hr := B.returns
  have hts := atoms_spec (ws := wsX4_atom) B.pre
  have hown : s.vm.findClass RX4 = some m.cls := findClass_of_methodNamed B.named
  have hlocks := B.notSynchronized
  have hK1 := hK.1
  have hinX4 : ∀ w ∈ wsX40, w ∈ wsX4_atom := fun w h => List.mem_cons_of_mem _ (List.mem_append_left _ (List.mem_append_left _ (List.mem_append_left _ (List.mem_append_right _ h))))
  have hinX0 : ∀ w ∈ wsX00, w ∈ wsX4_atom := fun w h => List.mem_cons_of_mem _ (List.mem_append_left _ (List.mem_append_left _ (List.mem_append_right _ h)))
  subst hsz
  have hS : va_S (kA a 29 s.heap.size) s.heap s.heap [] := va_S.rf
  have hl := lv_entry ([.ref (a 0), .int x]) (n := 2) (Nat.le_of_ble_eq_true rfl)
  rw [lg_entry_eq]
  generalize (lg_sl ([.ref (a 0), .int x]) ++ List.replicate (2 - (lg_sl ([.ref (a 0), .int x])).length) Slot.unset).toArray = ls at hl ⊢
  have hl : lv_has ls 2 [(0, .ref (a 0)), (1, .int x)] := hl
  refine W_Q (fun Q hQ => ?_)
  show W p l e ({ frames := 8, cells := 2, slots := 12, locals := 180 } : Room) s m ([.ref (a 0), .int x] : List Value).toArray below meth c s.heap [] 0 0 Q (F0 m 0 ls [])
  refine lv_iload_n hx hb dX4_atom_0 rfl (lv_at hl 1 rfl) ?_
  refine lv_if_lt (tgt := 10) hx hb dX4_atom_1 (by decide) (fun c1 => ?_) (fun c1 => ?_)
  ·
    have d7 : isIn 6 x = false := by first | exact isIn_f1 c1 | exact isIn_f2 (le_of_nlt32 c7)
    subst hQ
    exact vx_throwS (mc := 2) (ms := 12) hx hb hl0 hown fit117 fitN (hts (.classLink RX4 113 "java/lang/IndexOutOfBoundsException") (List.mem_of_getElem? (i := 1) rfl)) (hts (.initialized "java/lang/IndexOutOfBoundsException") (List.mem_of_getElem? (i := 2) rfl)) hT.2.2.2.2.2.1 (hat117 hT (fun w h => hts w (List.mem_cons_of_mem _ (List.mem_append_left _ (List.mem_append_right _ h))))) gow117 hZ.1 hZ.2 hS (hl.1.trans hml.symm) dX4_atom_10 dX4_atom_13 dX4_atom_14 dX4_atom_16 dX4_atom_19 (fun x h => (htab x h).elim) (Nat.le_of_ble_eq_true rfl) (Nat.le_of_ble_eq_true rfl) (Nat.le_of_ble_eq_true rfl) (Nat.le_of_ble_eq_true rfl) hlocks (xthr ⟨(Or.inl ⟨rfl, by simp only [if_true, if_false, Bool.false_eq_true, decide_true, decide_false, c1, d7]⟩), by first | exact TX_r | exact fun i x hi => TX_r i x (by omega)⟩ hP hS) hS.2.2 (Nat.le_of_ble_eq_true rfl) (Nat.le_of_ble_eq_true rfl)
  ·
    refine lv_iload_n hx hb dX4_atom_4 rfl (lv_at hl 1 rfl) ?_
    refine lv_bipush (v := (nI 6)) hx hb dX4_atom_5 (by decide) ?_
    refine lv_icmp_lt (tgt := 20) hx hb dX4_atom_7 (by decide) (fun c7 => ?_) (fun c7 => ?_)
    ·
      have d7 : isIn 6 x = true := isIn_t c1 (nle_of_lt32 c7)
      refine lv_aload_n hx hb dX4_atom_20 rfl (lv_at hl 0 rfl) ?_
      refine xcallxv (vx_runV (As := []) (rest := []) ⟨hx, hb, hml, hown, hts⟩ (c_X4_needRoomForFormula l hl0 D cs sa a M N _ hI nf hfc (by omega)) (cwV 0 hts gX4_atom_X4_needRoomForFormula rfl rfl rfl (by decide +kernel) ⟨Nat.le_of_ble_eq_true rfl, Nat.le_of_ble_eq_true rfl⟩) (xpreVT hP hK hT hZ hS hS.1 (ci := 4) 0 rfl rfl) rfl rfl hl.1 rfl (lv_room (Nat.le_of_ble_eq_true rfl)) dX4_atom_21 ⟨Nat.le_of_ble_eq_true rfl, Nat.le_of_ble_eq_true rfl⟩) hS (kAle hS.1) (fun E ce q9 u9 H locs hXE hP hS hce hcv hcl => ?_) (fun u9 H locs hrel hP hS => ?_)
      ·
        obtain ⟨rfl, c21, hue⟩ := hXE
        rw [hue] at hP
        subst hQ
        exact xout (mc := 2) (ms := 12) htab hlocks hce hcv hcl ⟨(Or.inr ⟨rfl, by simp only [if_true, if_false, Bool.false_eq_true, decide_true, decide_false, c1, c7, d7, c21]⟩), by first | exact TX_r | exact fun i x hi => TX_r i x (by omega)⟩ hP hS (Nat.le_of_ble_eq_true rfl) (Nat.le_of_ble_eq_true rfl)
      obtain ⟨c21, hue⟩ := hrel
      rw [hue] at hP
      clear hue
      refine W.widen (k := 1) (n := 6) (by decide) (by decide) ?_
      have hroom : nf < 40 := of_decide_eq_true c21
      refine lv_aload_n hx hb dX4_atom_24 rfl (lv_at hl 0 rfl) ?_
      refine va_get (D := D) (ci := 4) (v := .ref (a 8)) (C := RX4) (T := TX4) (N := 4) hx hb hts hinX4 hown hK1 hP 0 rfl rfl 1 (by decide) (hts (.fieldLink RX4 19 "KnowledgeModel" "formulas" "LKnowledgeModel$Formulas;") (List.mem_of_getElem? (i := 3) rfl)) (fun _ h9 => h9) rfl dX4_atom_25 ?_
      refine lv_iconst (v := (nI 0)) hx hb dX4_atom_28 (by decide) ?_
      refine lv_iload_n hx hb dX4_atom_29 rfl (lv_at hl 1 rfl) ?_
      refine lv_iconst (v := (-1 : Int32)) hx hb dX4_atom_30 (by decide) ?_
      refine lv_iconst (v := (-1 : Int32)) hx hb dX4_atom_31 (by decide) ?_
      refine xcallwi (va_runV (As := [.int (nI 0), .int x, .int (-1 : Int32), .int (-1 : Int32)]) (rest := []) ⟨hx, hb, hml, hown, hts⟩ (c_X0_append l D cs a M N _ hI nf 0 x (-1 : Int32) (-1 : Int32) (by decide) hfc (by omega) (Or.inl rfl) (Or.inl rfl)) (cwV 4 hts gX4_atom_X0_append rfl rfl rfl (by decide +kernel) ⟨Nat.le_of_ble_eq_true rfl, Nat.le_of_ble_eq_true rfl⟩) (xpreVs hP hK (ci := 0) 8 rfl rfl) rfl rfl hl.1 rfl (lv_room (Nat.le_of_ble_eq_true rfl)) dX4_atom_32 ⟨Nat.le_of_ble_eq_true rfl, Nat.le_of_ble_eq_true rfl⟩) hS (kAle hS.1) (fun u_1 H locs hu_1 hP _ _ hS => ?_)
      have hP : va_P D vwCl (xc cs a (appM M nf 0 x (-1 : Int32) (-1 : Int32)) (appN N nf 0 (-1 : Int32) (-1 : Int32))) H := hP
      obtain ⟨M_2, hM_2⟩ : ∃ z, z = appM M nf 0 x (-1 : Int32) (-1 : Int32) := ⟨_, rfl⟩
      rw [← hM_2] at hP
      obtain ⟨N_3, hN_3⟩ : ∃ z, z = appN N nf 0 (-1 : Int32) (-1 : Int32) := ⟨_, rfl⟩
      rw [← hN_3] at hP
      have hk_4 : M_2 0 2 = nI (nf + 1) := by rw [hM_2]; exact wr_same
      subst hQ
      refine W.widen (k := 2) (n := 12) (by decide) (by decide) ?_
      refine vx_ret ?_
      have hNfin : N_3 = appN N nf 0 (-1) (-1) := by simp only [if_true, if_false, Bool.false_eq_true, decide_true, decide_false, c1, c7, d7, c21, hroom, hM_2, hN_3]
      rw [hNfin] at hP
      have hrel : (if (isIn 6 x) = true then (if (decide (nf < 40)) = true then 0 else 2) else 1) = 0 ∧ M_2 = appM M nf 0 x (-1) (-1) := by refine ⟨by simp only [if_true, if_false, Bool.false_eq_true, decide_true, decide_false, c1, c7, d7, c21, hroom, hM_2, hN_3], ?_⟩; simp only [if_true, if_false, Bool.false_eq_true, decide_true, decide_false, c1, c7, d7, c21, hroom, hM_2, hN_3]
      have hfin : (nI nf) = nI nf := by rfl
      exact W.iret hx hb hr (fun t ht hW => ⟨⟨_, M_2, rfl, ⟨hfin, hrel⟩, by rw [← ht] at hP; exact hP⟩, hS.F ht⟩) hS.2.2 dX4_atom_35
    ·
      have d7 : isIn 6 x = false := by first | exact isIn_f1 c1 | exact isIn_f2 (le_of_nlt32 c7)
      subst hQ
      exact vx_throwS (mc := 2) (ms := 12) hx hb hl0 hown fit117 fitN (hts (.classLink RX4 113 "java/lang/IndexOutOfBoundsException") (List.mem_of_getElem? (i := 1) rfl)) (hts (.initialized "java/lang/IndexOutOfBoundsException") (List.mem_of_getElem? (i := 2) rfl)) hT.2.2.2.2.2.1 (hat117 hT (fun w h => hts w (List.mem_cons_of_mem _ (List.mem_append_left _ (List.mem_append_right _ h))))) gow117 hZ.1 hZ.2 hS (hl.1.trans hml.symm) dX4_atom_10 dX4_atom_13 dX4_atom_14 dX4_atom_16 dX4_atom_19 (fun x h => (htab x h).elim) (Nat.le_of_ble_eq_true rfl) (Nat.le_of_ble_eq_true rfl) (Nat.le_of_ble_eq_true rfl) (Nat.le_of_ble_eq_true rfl) hlocks (xthr ⟨(Or.inl ⟨rfl, by simp only [if_true, if_false, Bool.false_eq_true, decide_true, decide_false, c1, c7, d7]⟩), by first | exact TX_r | exact fun i x hi => TX_r i x (by omega)⟩ hP hS) hS.2.2 (Nat.le_of_ble_eq_true rfl) (Nat.le_of_ble_eq_true rfl)

set_option maxHeartbeats 4000000 in
set_option maxRecDepth 100000 in
theorem c_X4_not (l : Launch) (hl0 : l.stackTraces = false) (D : va_G) (cs sa : Nat → Nat) (a : Nat → Nat) (M : Nat → Nat → Int32) (N : Nat → Int64) (sz : Nat) (hI : kI a 29) (nf : Nat) (x : Int32) (hfc : M 0 2 = nI nf) (hf40 : nf ≤ 40) : vx_Met l yX4_not wsX4_not ({ frames := 8, cells := 2, slots := 12, locals := 180 } : Room) (va_Pc [.ref (a 0), .int x] (XBT D cs sa a (xc cs a M N) sz)) (va_Qi (fun r (u : Nat → Nat → Int32) => r = nI nf ∧ (if (isIn nf x) = true then (if (decide (nf < 40)) = true then 0 else 2) else 1) = 0 ∧ u = appM M nf 1 (nI 0) x (-1)) (fun (u : Nat → Nat → Int32) t => va_P D vwCl (xc cs a u (appN N nf 1 x (-1))) t.heap) (kA a 29 sz)) (XX D (fun u => xc cs a u N) (fun E u => (E = "java/lang/IndexOutOfBoundsException" ∧ (if (isIn nf x) = true then (if (decide (nf < 40)) = true then 0 else 2) else 1) = 1 ∨ E = "java/lang/IllegalStateException" ∧ (if (isIn nf x) = true then (if (decide (nf < 40)) = true then 0 else 2) else 1) = 2) ∧ TX M u) (kA a 29 sz)) 2 12 (kA a 29 sz) := by
  refine vx_ofW (cc := cX4_not) (maxL := 2) (ret := (some .int)) (by decide) rfl ?_
  intro p e s m args below meth c s₁ B hml htab hv
  obtain ⟨rfl, hsz, hP, hK, hT, hZ⟩ := hv
  have hx := B.exec
  have hb := B.bytes
  have hr := B.returns
  have hts := atoms_spec (ws := wsX4_not) B.pre
  have hown : s.vm.findClass RX4 = some m.cls := findClass_of_methodNamed B.named
  have hlocks := B.notSynchronized
  have hK1 := hK.1
  have hinX4 : ∀ w ∈ wsX40, w ∈ wsX4_not := fun w h => List.mem_cons_of_mem _ (List.mem_append_left _ (List.mem_append_left _ (List.mem_append_left _ (List.mem_append_right _ h))))
  have hinX0 : ∀ w ∈ wsX00, w ∈ wsX4_not := fun w h => List.mem_cons_of_mem _ (List.mem_append_left _ (List.mem_append_left _ (List.mem_append_right _ h)))
  subst hsz
  have hS : va_S (kA a 29 s.heap.size) s.heap s.heap [] := va_S.rf
  have hl := lv_entry ([.ref (a 0), .int x]) (n := 2) (Nat.le_of_ble_eq_true rfl)
  rw [lg_entry_eq]
  generalize (lg_sl ([.ref (a 0), .int x]) ++ List.replicate (2 - (lg_sl ([.ref (a 0), .int x])).length) Slot.unset).toArray = ls at hl ⊢
  have hl : lv_has ls 2 [(0, .ref (a 0)), (1, .int x)] := hl
  refine W_Q (fun Q hQ => ?_)
  show W p l e ({ frames := 8, cells := 2, slots := 12, locals := 180 } : Room) s m ([.ref (a 0), .int x] : List Value).toArray below meth c s.heap [] 0 0 Q (F0 m 0 ls [])
  refine lv_aload_n hx hb dX4_not_0 rfl (lv_at hl 0 rfl) ?_
  refine lv_iload_n hx hb dX4_not_1 rfl (lv_at hl 1 rfl) ?_
  refine xcallxv (vx_runV (As := [.int x]) (rest := []) ⟨hx, hb, hml, hown, hts⟩ (c_X4_needFormula l hl0 D cs sa a M N _ hI nf x hfc (by omega)) (cwV 1 hts gX4_not_X4_needFormula rfl rfl rfl (by decide +kernel) ⟨Nat.le_of_ble_eq_true rfl, Nat.le_of_ble_eq_true rfl⟩) (xpreVT hP hK hT hZ hS hS.1 (ci := 4) 0 rfl rfl) rfl rfl hl.1 rfl (lv_room (Nat.le_of_ble_eq_true rfl)) dX4_not_2 ⟨Nat.le_of_ble_eq_true rfl, Nat.le_of_ble_eq_true rfl⟩) hS (kAle hS.1) (fun E ce q9 u9 H locs hXE hP hS hce hcv hcl => ?_) (fun u9 H locs hrel hP hS => ?_)
  ·
    obtain ⟨rfl, c2, hue⟩ := hXE
    rw [hue] at hP
    subst hQ
    exact xout (mc := 2) (ms := 12) htab hlocks hce hcv hcl ⟨(Or.inl ⟨rfl, by simp only [if_true, if_false, Bool.false_eq_true, decide_true, decide_false, c2]⟩), by first | exact TX_r | exact fun i x hi => TX_r i x (by omega)⟩ hP hS (Nat.le_of_ble_eq_true rfl) (Nat.le_of_ble_eq_true rfl)
  obtain ⟨c2, hue⟩ := hrel
  rw [hue] at hP
  clear hue
  refine W.widen (k := 1) (n := 6) (by decide) (by decide) ?_
  obtain ⟨hlt_x, heq_x⟩ := isIn_eq (by omega) c2
  refine lv_aload_n hx hb dX4_not_5 rfl (lv_at hl 0 rfl) ?_
  refine xcallxv (vx_runV (As := []) (rest := []) ⟨hx, hb, hml, hown, hts⟩ (c_X4_needRoomForFormula l hl0 D cs sa a M N _ hI nf hfc (by omega)) (cwV 0 hts gX4_not_X4_needRoomForFormula rfl rfl rfl (by decide +kernel) ⟨Nat.le_of_ble_eq_true rfl, Nat.le_of_ble_eq_true rfl⟩) (xpreVT hP hK hT hZ hS hS.1 (ci := 4) 0 rfl rfl) rfl rfl hl.1 rfl (lv_room (Nat.le_of_ble_eq_true rfl)) dX4_not_6 ⟨Nat.le_of_ble_eq_true rfl, Nat.le_of_ble_eq_true rfl⟩) hS (kAle hS.1) (fun E ce q9 u9 H locs hXE hP hS hce hcv hcl => ?_) (fun u9 H locs hrel hP hS => ?_)
  ·
    obtain ⟨rfl, c6, hue⟩ := hXE
    rw [hue] at hP
    subst hQ
    exact xout (mc := 2) (ms := 12) htab hlocks hce hcv hcl ⟨(Or.inr ⟨rfl, by simp only [if_true, if_false, Bool.false_eq_true, decide_true, decide_false, c2, c6]⟩), by first | exact TX_r | exact fun i x hi => TX_r i x (by omega)⟩ hP hS (Nat.le_of_ble_eq_true rfl) (Nat.le_of_ble_eq_true rfl)
  obtain ⟨c6, hue⟩ := hrel
  rw [hue] at hP
  clear hue
  refine W.widen (k := 2) (n := 12) (by decide) (by decide) ?_
  have hroom : nf < 40 := of_decide_eq_true c6
  refine lv_aload_n hx hb dX4_not_9 rfl (lv_at hl 0 rfl) ?_
  refine va_get (D := D) (ci := 4) (v := .ref (a 8)) (C := RX4) (T := TX4) (N := 4) hx hb hts hinX4 hown hK1 hP 0 rfl rfl 1 (by decide) (hts (.fieldLink RX4 19 "KnowledgeModel" "formulas" "LKnowledgeModel$Formulas;") (List.mem_of_getElem? (i := 1) rfl)) (fun _ h9 => h9) rfl dX4_not_10 ?_
  refine lv_iconst (v := (nI 1)) hx hb dX4_not_13 (by decide) ?_
  refine lv_iconst (v := (nI 0)) hx hb dX4_not_14 (by decide) ?_
  refine lv_iload_n hx hb dX4_not_15 rfl (lv_at hl 1 rfl) ?_
  refine lv_iconst (v := (-1 : Int32)) hx hb dX4_not_16 (by decide) ?_
  refine xcallwi (va_runV (As := [.int (nI 1), .int (nI 0), .int x, .int (-1 : Int32)]) (rest := []) ⟨hx, hb, hml, hown, hts⟩ (c_X0_append l D cs a M N _ hI nf 1 (nI 0) x (-1 : Int32) (by decide) hfc (by omega) (Or.inr ⟨_, hlt_x, heq_x⟩) (Or.inl rfl)) (cwV 4 hts gX4_not_X0_append rfl rfl rfl (by decide +kernel) ⟨Nat.le_of_ble_eq_true rfl, Nat.le_of_ble_eq_true rfl⟩) (xpreVs hP hK (ci := 0) 8 rfl rfl) rfl rfl hl.1 rfl (lv_room (Nat.le_of_ble_eq_true rfl)) dX4_not_17 ⟨Nat.le_of_ble_eq_true rfl, Nat.le_of_ble_eq_true rfl⟩) hS (kAle hS.1) (fun u_1 H locs hu_1 hP _ _ hS => ?_)
  have hP : va_P D vwCl (xc cs a (appM M nf 1 (nI 0) x (-1 : Int32)) (appN N nf 1 x (-1 : Int32))) H := hP
  obtain ⟨M_2, hM_2⟩ : ∃ z, z = appM M nf 1 (nI 0) x (-1 : Int32) := ⟨_, rfl⟩
  rw [← hM_2] at hP
  obtain ⟨N_3, hN_3⟩ : ∃ z, z = appN N nf 1 x (-1 : Int32) := ⟨_, rfl⟩
  rw [← hN_3] at hP
  have hk_4 : M_2 0 2 = nI (nf + 1) := by rw [hM_2]; exact wr_same
  subst hQ
  refine vx_ret ?_
  have hNfin : N_3 = appN N nf 1 x (-1) := by simp only [if_true, if_false, Bool.false_eq_true, decide_true, decide_false, c2, c6, hroom, hM_2, hN_3]
  rw [hNfin] at hP
  have hrel : (if (isIn nf x) = true then (if (decide (nf < 40)) = true then 0 else 2) else 1) = 0 ∧ M_2 = appM M nf 1 (nI 0) x (-1) := by refine ⟨by simp only [if_true, if_false, Bool.false_eq_true, decide_true, decide_false, c2, c6, hroom, hM_2, hN_3], ?_⟩; simp only [if_true, if_false, Bool.false_eq_true, decide_true, decide_false, c2, c6, hroom, hM_2, hN_3]
  have hfin : (nI nf) = nI nf := by rfl
  exact W.iret hx hb hr (fun t ht hW => ⟨⟨_, M_2, rfl, ⟨hfin, hrel⟩, by rw [← ht] at hP; exact hP⟩, hS.F ht⟩) hS.2.2 dX4_not_20

set_option maxHeartbeats 4000000 in
set_option maxRecDepth 100000 in
theorem c_X4_both (l : Launch) (hl0 : l.stackTraces = false) (D : va_G) (cs sa : Nat → Nat) (a : Nat → Nat) (M : Nat → Nat → Int32) (N : Nat → Int64) (sz : Nat) (hI : kI a 29) (nf : Nat) (x : Int32) (y : Int32) (hfc : M 0 2 = nI nf) (hf40 : nf ≤ 40) : vx_Met l yX4_both wsX4_both ({ frames := 8, cells := 3, slots := 18, locals := 180 } : Room) (va_Pc [.ref (a 0), .int x, .int y] (XBT D cs sa a (xc cs a M N) sz)) (va_Qi (fun r (u : Nat → Nat → Int32) => r = nI nf ∧ (if (isIn nf x) = true then (if (isIn nf y) = true then (if (decide (nf < 40)) = true then 0 else 2) else 1) else 1) = 0 ∧ u = appM M nf 2 (nI 0) x y) (fun (u : Nat → Nat → Int32) t => va_P D vwCl (xc cs a u (appN N nf 2 x y)) t.heap) (kA a 29 sz)) (XX D (fun u => xc cs a u N) (fun E u => (E = "java/lang/IndexOutOfBoundsException" ∧ (if (isIn nf x) = true then (if (isIn nf y) = true then (if (decide (nf < 40)) = true then 0 else 2) else 1) else 1) = 1 ∨ E = "java/lang/IllegalStateException" ∧ (if (isIn nf x) = true then (if (isIn nf y) = true then (if (decide (nf < 40)) = true then 0 else 2) else 1) else 1) = 2) ∧ TX M u) (kA a 29 sz)) 3 18 (kA a 29 sz) := by
  refine vx_ofW (cc := cX4_both) (maxL := 3) (ret := (some .int)) (by decide) rfl ?_
  intro p e s m args below meth c s₁ B hml htab hv
  obtain ⟨rfl, hsz, hP, hK, hT, hZ⟩ := hv
  have hx := B.exec
  have hb := B.bytes
  have hr := B.returns
  have hts := atoms_spec (ws := wsX4_both) B.pre
  have hown : s.vm.findClass RX4 = some m.cls := findClass_of_methodNamed B.named
  have hlocks := B.notSynchronized
  have hK1 := hK.1
  have hinX4 : ∀ w ∈ wsX40, w ∈ wsX4_both := fun w h => List.mem_cons_of_mem _ (List.mem_append_left _ (List.mem_append_left _ (List.mem_append_left _ (List.mem_append_right _ h))))
  have hinX0 : ∀ w ∈ wsX00, w ∈ wsX4_both := fun w h => List.mem_cons_of_mem _ (List.mem_append_left _ (List.mem_append_left _ (List.mem_append_right _ h)))
  subst hsz
  have hS : va_S (kA a 29 s.heap.size) s.heap s.heap [] := va_S.rf
  have hl := lv_entry ([.ref (a 0), .int x, .int y]) (n := 3) (Nat.le_of_ble_eq_true rfl)
  rw [lg_entry_eq]
  generalize (lg_sl ([.ref (a 0), .int x, .int y]) ++ List.replicate (3 - (lg_sl ([.ref (a 0), .int x, .int y])).length) Slot.unset).toArray = ls at hl ⊢
  have hl : lv_has ls 3 [(0, .ref (a 0)), (1, .int x), (2, .int y)] := hl
  refine W_Q (fun Q hQ => ?_)
  show W p l e ({ frames := 8, cells := 3, slots := 18, locals := 180 } : Room) s m ([.ref (a 0), .int x, .int y] : List Value).toArray below meth c s.heap [] 0 0 Q (F0 m 0 ls [])
  refine lv_aload_n hx hb dX4_both_0 rfl (lv_at hl 0 rfl) ?_
  refine lv_iload_n hx hb dX4_both_1 rfl (lv_at hl 1 rfl) ?_
  refine xcallxv (vx_runV (As := [.int x]) (rest := []) ⟨hx, hb, hml, hown, hts⟩ (c_X4_needFormula l hl0 D cs sa a M N _ hI nf x hfc (by omega)) (cwV 1 hts gX4_both_X4_needFormula rfl rfl rfl (by decide +kernel) ⟨Nat.le_of_ble_eq_true rfl, Nat.le_of_ble_eq_true rfl⟩) (xpreVT hP hK hT hZ hS hS.1 (ci := 4) 0 rfl rfl) rfl rfl hl.1 rfl (lv_room (Nat.le_of_ble_eq_true rfl)) dX4_both_2 ⟨Nat.le_of_ble_eq_true rfl, Nat.le_of_ble_eq_true rfl⟩) hS (kAle hS.1) (fun E ce q9 u9 H locs hXE hP hS hce hcv hcl => ?_) (fun u9 H locs hrel hP hS => ?_)
  ·
    obtain ⟨rfl, c2, hue⟩ := hXE
    rw [hue] at hP
    subst hQ
    exact xout (mc := 3) (ms := 18) htab hlocks hce hcv hcl ⟨(Or.inl ⟨rfl, by simp only [if_true, if_false, Bool.false_eq_true, decide_true, decide_false, c2]⟩), by first | exact TX_r | exact fun i x hi => TX_r i x (by omega)⟩ hP hS (Nat.le_of_ble_eq_true rfl) (Nat.le_of_ble_eq_true rfl)
  obtain ⟨c2, hue⟩ := hrel
  rw [hue] at hP
  clear hue
  refine W.widen (k := 1) (n := 6) (by decide) (by decide) ?_
  obtain ⟨hlt_x, heq_x⟩ := isIn_eq (by omega) c2
  refine lv_aload_n hx hb dX4_both_5 rfl (lv_at hl 0 rfl) ?_
  refine lv_iload_n hx hb dX4_both_6 rfl (lv_at hl 2 rfl) ?_
  refine xcallxv (vx_runV (As := [.int y]) (rest := []) ⟨hx, hb, hml, hown, hts⟩ (c_X4_needFormula l hl0 D cs sa a M N _ hI nf y hfc (by omega)) (cwV 1 hts gX4_both_X4_needFormula rfl rfl rfl (by decide +kernel) ⟨Nat.le_of_ble_eq_true rfl, Nat.le_of_ble_eq_true rfl⟩) (xpreVT hP hK hT hZ hS hS.1 (ci := 4) 0 rfl rfl) rfl rfl hl.1 rfl (lv_room (Nat.le_of_ble_eq_true rfl)) dX4_both_7 ⟨Nat.le_of_ble_eq_true rfl, Nat.le_of_ble_eq_true rfl⟩) hS (kAle hS.1) (fun E ce q9 u9 H locs hXE hP hS hce hcv hcl => ?_) (fun u9 H locs hrel hP hS => ?_)
  ·
    obtain ⟨rfl, c7, hue⟩ := hXE
    rw [hue] at hP
    subst hQ
    exact xout (mc := 3) (ms := 18) htab hlocks hce hcv hcl ⟨(Or.inl ⟨rfl, by simp only [if_true, if_false, Bool.false_eq_true, decide_true, decide_false, c2, c7]⟩), by first | exact TX_r | exact fun i x hi => TX_r i x (by omega)⟩ hP hS (Nat.le_of_ble_eq_true rfl) (Nat.le_of_ble_eq_true rfl)
  obtain ⟨c7, hue⟩ := hrel
  rw [hue] at hP
  clear hue
  refine W.widen (k := 2) (n := 12) (by decide) (by decide) ?_
  obtain ⟨hlt_y, heq_y⟩ := isIn_eq (by omega) c7
  refine lv_aload_n hx hb dX4_both_10 rfl (lv_at hl 0 rfl) ?_
  refine xcallxv (vx_runV (As := []) (rest := []) ⟨hx, hb, hml, hown, hts⟩ (c_X4_needRoomForFormula l hl0 D cs sa a M N _ hI nf hfc (by omega)) (cwV 0 hts gX4_both_X4_needRoomForFormula rfl rfl rfl (by decide +kernel) ⟨Nat.le_of_ble_eq_true rfl, Nat.le_of_ble_eq_true rfl⟩) (xpreVT hP hK hT hZ hS hS.1 (ci := 4) 0 rfl rfl) rfl rfl hl.1 rfl (lv_room (Nat.le_of_ble_eq_true rfl)) dX4_both_11 ⟨Nat.le_of_ble_eq_true rfl, Nat.le_of_ble_eq_true rfl⟩) hS (kAle hS.1) (fun E ce q9 u9 H locs hXE hP hS hce hcv hcl => ?_) (fun u9 H locs hrel hP hS => ?_)
  ·
    obtain ⟨rfl, c11, hue⟩ := hXE
    rw [hue] at hP
    subst hQ
    exact xout (mc := 3) (ms := 18) htab hlocks hce hcv hcl ⟨(Or.inr ⟨rfl, by simp only [if_true, if_false, Bool.false_eq_true, decide_true, decide_false, c2, c7, c11]⟩), by first | exact TX_r | exact fun i x hi => TX_r i x (by omega)⟩ hP hS (Nat.le_of_ble_eq_true rfl) (Nat.le_of_ble_eq_true rfl)
  obtain ⟨c11, hue⟩ := hrel
  rw [hue] at hP
  clear hue
  refine W.widen (k := 3) (n := 18) (by decide) (by decide) ?_
  have hroom : nf < 40 := of_decide_eq_true c11
  refine lv_aload_n hx hb dX4_both_14 rfl (lv_at hl 0 rfl) ?_
  refine va_get (D := D) (ci := 4) (v := .ref (a 8)) (C := RX4) (T := TX4) (N := 4) hx hb hts hinX4 hown hK1 hP 0 rfl rfl 1 (by decide) (hts (.fieldLink RX4 19 "KnowledgeModel" "formulas" "LKnowledgeModel$Formulas;") (List.mem_of_getElem? (i := 1) rfl)) (fun _ h9 => h9) rfl dX4_both_15 ?_
  refine lv_iconst (v := (nI 2)) hx hb dX4_both_18 (by decide) ?_
  refine lv_iconst (v := (nI 0)) hx hb dX4_both_19 (by decide) ?_
  refine lv_iload_n hx hb dX4_both_20 rfl (lv_at hl 1 rfl) ?_
  refine lv_iload_n hx hb dX4_both_21 rfl (lv_at hl 2 rfl) ?_
  refine xcallwi (va_runV (As := [.int (nI 2), .int (nI 0), .int x, .int y]) (rest := []) ⟨hx, hb, hml, hown, hts⟩ (c_X0_append l D cs a M N _ hI nf 2 (nI 0) x y (by decide) hfc (by omega) (Or.inr ⟨_, hlt_x, heq_x⟩) (Or.inr ⟨_, hlt_y, heq_y⟩)) (cwV 4 hts gX4_both_X0_append rfl rfl rfl (by decide +kernel) ⟨Nat.le_of_ble_eq_true rfl, Nat.le_of_ble_eq_true rfl⟩) (xpreVs hP hK (ci := 0) 8 rfl rfl) rfl rfl hl.1 rfl (lv_room (Nat.le_of_ble_eq_true rfl)) dX4_both_22 ⟨Nat.le_of_ble_eq_true rfl, Nat.le_of_ble_eq_true rfl⟩) hS (kAle hS.1) (fun u_1 H locs hu_1 hP _ _ hS => ?_)
  have hP : va_P D vwCl (xc cs a (appM M nf 2 (nI 0) x y) (appN N nf 2 x y)) H := hP
  obtain ⟨M_2, hM_2⟩ : ∃ z, z = appM M nf 2 (nI 0) x y := ⟨_, rfl⟩
  rw [← hM_2] at hP
  obtain ⟨N_3, hN_3⟩ : ∃ z, z = appN N nf 2 x y := ⟨_, rfl⟩
  rw [← hN_3] at hP
  have hk_4 : M_2 0 2 = nI (nf + 1) := by rw [hM_2]; exact wr_same
  subst hQ
  refine vx_ret ?_
  have hNfin : N_3 = appN N nf 2 x y := by simp only [if_true, if_false, Bool.false_eq_true, decide_true, decide_false, c2, c7, c11, hroom, hM_2, hN_3]
  rw [hNfin] at hP
  have hrel : (if (isIn nf x) = true then (if (isIn nf y) = true then (if (decide (nf < 40)) = true then 0 else 2) else 1) else 1) = 0 ∧ M_2 = appM M nf 2 (nI 0) x y := by refine ⟨by simp only [if_true, if_false, Bool.false_eq_true, decide_true, decide_false, c2, c7, c11, hroom, hM_2, hN_3], ?_⟩; simp only [if_true, if_false, Bool.false_eq_true, decide_true, decide_false, c2, c7, c11, hroom, hM_2, hN_3]
  have hfin : (nI nf) = nI nf := by rfl
  exact W.iret hx hb hr (fun t ht hW => ⟨⟨_, M_2, rfl, ⟨hfin, hrel⟩, by rw [← ht] at hP; exact hP⟩, hS.F ht⟩) hS.2.2 dX4_both_25

set_option maxHeartbeats 4000000 in
set_option maxRecDepth 100000 in
theorem c_X4_knows (l : Launch) (hl0 : l.stackTraces = false) (D : va_G) (cs sa : Nat → Nat) (a : Nat → Nat) (M : Nat → Nat → Int32) (N : Nat → Int64) (sz : Nat) (hI : kI a 29) (nf : Nat) (x : Int32) (y : Int32) (hfc : M 0 2 = nI nf) (hf40 : nf ≤ 40) : vx_Met l yX4_knows wsX4_knows ({ frames := 8, cells := 3, slots := 18, locals := 180 } : Room) (va_Pc [.ref (a 0), .int x, .int y] (XBT D cs sa a (xc cs a M N) sz)) (va_Qi (fun r (u : Nat → Nat → Int32) => r = nI nf ∧ (if (isIn 4 x) = true then (if (isIn nf y) = true then (if (decide (nf < 40)) = true then 0 else 2) else 1) else 1) = 0 ∧ u = appM M nf 3 (sg x.toNatClampNeg) y (-1)) (fun (u : Nat → Nat → Int32) t => va_P D vwCl (xc cs a u (appN N nf 3 y (-1))) t.heap) (kA a 29 sz)) (XX D (fun u => xc cs a u N) (fun E u => (E = "java/lang/IndexOutOfBoundsException" ∧ (if (isIn 4 x) = true then (if (isIn nf y) = true then (if (decide (nf < 40)) = true then 0 else 2) else 1) else 1) = 1 ∨ E = "java/lang/IllegalStateException" ∧ (if (isIn 4 x) = true then (if (isIn nf y) = true then (if (decide (nf < 40)) = true then 0 else 2) else 1) else 1) = 2) ∧ TX M u) (kA a 29 sz)) 3 18 (kA a 29 sz) := by
  refine vx_ofW (cc := cX4_knows) (maxL := 3) (ret := (some .int)) (by decide) rfl ?_
  intro p e s m args below meth c s₁ B hml htab hv
  obtain ⟨rfl, hsz, hP, hK, hT, hZ⟩ := hv
  have hx := B.exec
  have hb := B.bytes
  have hr := B.returns
  have hts := atoms_spec (ws := wsX4_knows) B.pre
  have hown : s.vm.findClass RX4 = some m.cls := findClass_of_methodNamed B.named
  have hlocks := B.notSynchronized
  have hK1 := hK.1
  have hinX4 : ∀ w ∈ wsX40, w ∈ wsX4_knows := fun w h => List.mem_cons_of_mem _ (List.mem_append_left _ (List.mem_append_left _ (List.mem_append_left _ (List.mem_append_right _ h))))
  have hinX0 : ∀ w ∈ wsX00, w ∈ wsX4_knows := fun w h => List.mem_cons_of_mem _ (List.mem_append_left _ (List.mem_append_left _ (List.mem_append_right _ h)))
  subst hsz
  have hS : va_S (kA a 29 s.heap.size) s.heap s.heap [] := va_S.rf
  have hl := lv_entry ([.ref (a 0), .int x, .int y]) (n := 3) (Nat.le_of_ble_eq_true rfl)
  rw [lg_entry_eq]
  generalize (lg_sl ([.ref (a 0), .int x, .int y]) ++ List.replicate (3 - (lg_sl ([.ref (a 0), .int x, .int y])).length) Slot.unset).toArray = ls at hl ⊢
  have hl : lv_has ls 3 [(0, .ref (a 0)), (1, .int x), (2, .int y)] := hl
  refine W_Q (fun Q hQ => ?_)
  show W p l e ({ frames := 8, cells := 3, slots := 18, locals := 180 } : Room) s m ([.ref (a 0), .int x, .int y] : List Value).toArray below meth c s.heap [] 0 0 Q (F0 m 0 ls [])
  refine lv_aload_n hx hb dX4_knows_0 rfl (lv_at hl 0 rfl) ?_
  refine lv_iload_n hx hb dX4_knows_1 rfl (lv_at hl 1 rfl) ?_
  refine xcallxv (vx_runV (As := [.int x]) (rest := []) ⟨hx, hb, hml, hown, hts⟩ (c_X4_needAgent l hl0 D cs sa a M N _ hI x) (cwV 1 hts gX4_knows_X4_needAgent rfl rfl rfl (by decide +kernel) ⟨Nat.le_of_ble_eq_true rfl, Nat.le_of_ble_eq_true rfl⟩) (xpreVT hP hK hT hZ hS hS.1 (ci := 4) 0 rfl rfl) rfl rfl hl.1 rfl (lv_room (Nat.le_of_ble_eq_true rfl)) dX4_knows_2 ⟨Nat.le_of_ble_eq_true rfl, Nat.le_of_ble_eq_true rfl⟩) hS (kAle hS.1) (fun E ce q9 u9 H locs hXE hP hS hce hcv hcl => ?_) (fun u9 H locs hrel hP hS => ?_)
  ·
    obtain ⟨rfl, c2, hue⟩ := hXE
    rw [hue] at hP
    subst hQ
    exact xout (mc := 3) (ms := 18) htab hlocks hce hcv hcl ⟨(Or.inl ⟨rfl, by simp only [if_true, if_false, Bool.false_eq_true, decide_true, decide_false, c2]⟩), by first | exact TX_r | exact fun i x hi => TX_r i x (by omega)⟩ hP hS (Nat.le_of_ble_eq_true rfl) (Nat.le_of_ble_eq_true rfl)
  obtain ⟨c2, hue⟩ := hrel
  rw [hue] at hP
  clear hue
  refine W.widen (k := 1) (n := 6) (by decide) (by decide) ?_
  obtain ⟨hlt_x, heq_x⟩ := isIn_eq (by omega) c2
  have hl : lv_has ls 3 [(0, .ref (a 0)), (1, .int (nI x.toNatClampNeg)), (2, .int y)] := (lcons (lcons (lcons (lzero hl) hl 2 rfl rfl) hl 1 rfl (congrArg Value.int heq_x)) hl 0 rfl rfl)
  refine lv_aload_n hx hb dX4_knows_5 rfl (lv_at hl 0 rfl) ?_
  refine lv_iload_n hx hb dX4_knows_6 rfl (lv_at hl 2 rfl) ?_
  refine xcallxv (vx_runV (As := [.int y]) (rest := []) ⟨hx, hb, hml, hown, hts⟩ (c_X4_needFormula l hl0 D cs sa a M N _ hI nf y hfc (by omega)) (cwV 1 hts gX4_knows_X4_needFormula rfl rfl rfl (by decide +kernel) ⟨Nat.le_of_ble_eq_true rfl, Nat.le_of_ble_eq_true rfl⟩) (xpreVT hP hK hT hZ hS hS.1 (ci := 4) 0 rfl rfl) rfl rfl hl.1 rfl (lv_room (Nat.le_of_ble_eq_true rfl)) dX4_knows_7 ⟨Nat.le_of_ble_eq_true rfl, Nat.le_of_ble_eq_true rfl⟩) hS (kAle hS.1) (fun E ce q9 u9 H locs hXE hP hS hce hcv hcl => ?_) (fun u9 H locs hrel hP hS => ?_)
  ·
    obtain ⟨rfl, c7, hue⟩ := hXE
    rw [hue] at hP
    subst hQ
    exact xout (mc := 3) (ms := 18) htab hlocks hce hcv hcl ⟨(Or.inl ⟨rfl, by simp only [if_true, if_false, Bool.false_eq_true, decide_true, decide_false, c2, c7]⟩), by first | exact TX_r | exact fun i x hi => TX_r i x (by omega)⟩ hP hS (Nat.le_of_ble_eq_true rfl) (Nat.le_of_ble_eq_true rfl)
  obtain ⟨c7, hue⟩ := hrel
  rw [hue] at hP
  clear hue
  refine W.widen (k := 2) (n := 12) (by decide) (by decide) ?_
  obtain ⟨hlt_y, heq_y⟩ := isIn_eq (by omega) c7
  refine lv_aload_n hx hb dX4_knows_10 rfl (lv_at hl 0 rfl) ?_
  refine xcallxv (vx_runV (As := []) (rest := []) ⟨hx, hb, hml, hown, hts⟩ (c_X4_needRoomForFormula l hl0 D cs sa a M N _ hI nf hfc (by omega)) (cwV 0 hts gX4_knows_X4_needRoomForFormula rfl rfl rfl (by decide +kernel) ⟨Nat.le_of_ble_eq_true rfl, Nat.le_of_ble_eq_true rfl⟩) (xpreVT hP hK hT hZ hS hS.1 (ci := 4) 0 rfl rfl) rfl rfl hl.1 rfl (lv_room (Nat.le_of_ble_eq_true rfl)) dX4_knows_11 ⟨Nat.le_of_ble_eq_true rfl, Nat.le_of_ble_eq_true rfl⟩) hS (kAle hS.1) (fun E ce q9 u9 H locs hXE hP hS hce hcv hcl => ?_) (fun u9 H locs hrel hP hS => ?_)
  ·
    obtain ⟨rfl, c11, hue⟩ := hXE
    rw [hue] at hP
    subst hQ
    exact xout (mc := 3) (ms := 18) htab hlocks hce hcv hcl ⟨(Or.inr ⟨rfl, by simp only [if_true, if_false, Bool.false_eq_true, decide_true, decide_false, c2, c7, c11]⟩), by first | exact TX_r | exact fun i x hi => TX_r i x (by omega)⟩ hP hS (Nat.le_of_ble_eq_true rfl) (Nat.le_of_ble_eq_true rfl)
  obtain ⟨c11, hue⟩ := hrel
  rw [hue] at hP
  clear hue
  refine W.widen (k := 3) (n := 18) (by decide) (by decide) ?_
  have hroom : nf < 40 := of_decide_eq_true c11
  refine lv_aload_n hx hb dX4_knows_14 rfl (lv_at hl 0 rfl) ?_
  refine va_get (D := D) (ci := 4) (v := .ref (a 8)) (C := RX4) (T := TX4) (N := 4) hx hb hts hinX4 hown hK1 hP 0 rfl rfl 1 (by decide) (hts (.fieldLink RX4 19 "KnowledgeModel" "formulas" "LKnowledgeModel$Formulas;") (List.mem_of_getElem? (i := 1) rfl)) (fun _ h9 => h9) rfl dX4_knows_15 ?_
  refine lv_iconst (v := (nI 3)) hx hb dX4_knows_18 (by decide) ?_
  refine lv_iload_n hx hb dX4_knows_19 rfl (lv_at hl 1 rfl) ?_
  refine xcalli (va_runS (As := [.int (nI x.toNatClampNeg)]) (rest := [.int (nI 3), .ref (a 8)]) ⟨hx, hb, hml, hown, hts⟩ (c_X4_single l x.toNatClampNeg) (va_cwS 1 hts gX4_knows_X4_single rfl rfl rfl (by decide +kernel) ⟨Nat.le_of_ble_eq_true rfl, Nat.le_of_ble_eq_true rfl⟩) xpreN rfl rfl hl.1 rfl (lv_room (Nat.le_of_ble_eq_true rfl)) dX4_knows_20 ⟨Nat.le_of_ble_eq_true rfl, Nat.le_of_ble_eq_true rfl⟩) hS hP (fun H locs hP hS => ?_)
  refine lv_iload_n hx hb dX4_knows_23 rfl (lv_at hl 2 rfl) ?_
  refine lv_iconst (v := (-1 : Int32)) hx hb dX4_knows_24 (by decide) ?_
  refine xcallwi (va_runV (As := [.int (nI 3), .int (sg x.toNatClampNeg), .int y, .int (-1 : Int32)]) (rest := []) ⟨hx, hb, hml, hown, hts⟩ (c_X0_append l D cs a M N _ hI nf 3 (sg x.toNatClampNeg) y (-1 : Int32) (by decide) hfc (by omega) (Or.inr ⟨_, hlt_y, heq_y⟩) (Or.inl rfl)) (cwV 4 hts gX4_knows_X0_append rfl rfl rfl (by decide +kernel) ⟨Nat.le_of_ble_eq_true rfl, Nat.le_of_ble_eq_true rfl⟩) (xpreVs hP hK (ci := 0) 8 rfl rfl) rfl rfl hl.1 rfl (lv_room (Nat.le_of_ble_eq_true rfl)) dX4_knows_25 ⟨Nat.le_of_ble_eq_true rfl, Nat.le_of_ble_eq_true rfl⟩) hS (kAle hS.1) (fun u_1 H locs hu_1 hP _ _ hS => ?_)
  have hP : va_P D vwCl (xc cs a (appM M nf 3 (sg x.toNatClampNeg) y (-1 : Int32)) (appN N nf 3 y (-1 : Int32))) H := hP
  obtain ⟨M_2, hM_2⟩ : ∃ z, z = appM M nf 3 (sg x.toNatClampNeg) y (-1 : Int32) := ⟨_, rfl⟩
  rw [← hM_2] at hP
  obtain ⟨N_3, hN_3⟩ : ∃ z, z = appN N nf 3 y (-1 : Int32) := ⟨_, rfl⟩
  rw [← hN_3] at hP
  have hk_4 : M_2 0 2 = nI (nf + 1) := by rw [hM_2]; exact wr_same
  subst hQ
  refine vx_ret ?_
  have hNfin : N_3 = appN N nf 3 y (-1) := by simp only [if_true, if_false, Bool.false_eq_true, decide_true, decide_false, c2, c7, c11, hroom, hM_2, hN_3]
  rw [hNfin] at hP
  have hrel : (if (isIn 4 x) = true then (if (isIn nf y) = true then (if (decide (nf < 40)) = true then 0 else 2) else 1) else 1) = 0 ∧ M_2 = appM M nf 3 (sg x.toNatClampNeg) y (-1) := by refine ⟨by simp only [if_true, if_false, Bool.false_eq_true, decide_true, decide_false, c2, c7, c11, hroom, hM_2, hN_3], ?_⟩; simp only [if_true, if_false, Bool.false_eq_true, decide_true, decide_false, c2, c7, c11, hroom, hM_2, hN_3]
  have hfin : (nI nf) = nI nf := by rfl
  exact W.iret hx hb hr (fun t ht hW => ⟨⟨_, M_2, rfl, ⟨hfin, hrel⟩, by rw [← ht] at hP; exact hP⟩, hS.F ht⟩) hS.2.2 dX4_knows_28

set_option maxHeartbeats 4000000 in
set_option maxRecDepth 100000 in
theorem c_X4_ofGroup (l : Launch) (hl0 : l.stackTraces = false) (D : va_G) (cs sa : Nat → Nat) (a : Nat → Nat) (M : Nat → Nat → Int32) (N : Nat → Int64) (sz : Nat) (hI : kI a 29) (nf : Nat) (on : Bool) (g : Int32) (y : Int32) (hfc : M 0 2 = nI nf) (hf40 : nf ≤ 40) : vx_Met l yX4_ofGroup wsX4_ofGroup ({ frames := 8, cells := 3, slots := 18, locals := 180 } : Room) (va_Pc [.ref (a 0), .int (bI on), .int g, .int y] (XBT D cs sa a (xc cs a M N) sz)) (va_Qi (fun r (u : Nat → Nat → Int32) => r = nI nf ∧ (if (isIn nf y) = true then (if (isGr g) = true then (if (decide (nf < 40)) = true then 0 else 3) else 2) else 1) = 0 ∧ u = appM M nf (if on = true then 4 else 5) g y (-1)) (fun (u : Nat → Nat → Int32) t => va_P D vwCl (xc cs a u (appN N nf (if on = true then 4 else 5) y (-1))) t.heap) (kA a 29 sz)) (XX D (fun u => xc cs a u N) (fun E u => (E = "java/lang/IndexOutOfBoundsException" ∧ (if (isIn nf y) = true then (if (isGr g) = true then (if (decide (nf < 40)) = true then 0 else 3) else 2) else 1) = 1 ∨ E = "java/lang/IllegalArgumentException" ∧ (if (isIn nf y) = true then (if (isGr g) = true then (if (decide (nf < 40)) = true then 0 else 3) else 2) else 1) = 2 ∨ E = "java/lang/IllegalStateException" ∧ (if (isIn nf y) = true then (if (isGr g) = true then (if (decide (nf < 40)) = true then 0 else 3) else 2) else 1) = 3) ∧ TX M u) (kA a 29 sz)) 3 18 (kA a 29 sz) := by
  refine vx_ofW (cc := cX4_ofGroup) (maxL := 4) (ret := (some .int)) (by decide) rfl ?_
  intro p e s m args below meth c s₁ B hml htab hv
  obtain ⟨rfl, hsz, hP, hK, hT, hZ⟩ := hv
  have hx := B.exec
  have hb := B.bytes
  have hr := B.returns
  have hts := atoms_spec (ws := wsX4_ofGroup) B.pre
  have hown : s.vm.findClass RX4 = some m.cls := findClass_of_methodNamed B.named
  have hlocks := B.notSynchronized
  have hK1 := hK.1
  have hinX4 : ∀ w ∈ wsX40, w ∈ wsX4_ofGroup := fun w h => List.mem_cons_of_mem _ (List.mem_append_left _ (List.mem_append_left _ (List.mem_append_left _ (List.mem_append_left _ (List.mem_append_right _ h)))))
  have hinX0 : ∀ w ∈ wsX00, w ∈ wsX4_ofGroup := fun w h => List.mem_cons_of_mem _ (List.mem_append_left _ (List.mem_append_left _ (List.mem_append_left _ (List.mem_append_right _ h))))
  subst hsz
  have hS : va_S (kA a 29 s.heap.size) s.heap s.heap [] := va_S.rf
  have hl := lv_entry ([.ref (a 0), .int (bI on), .int g, .int y]) (n := 4) (Nat.le_of_ble_eq_true rfl)
  rw [lg_entry_eq]
  generalize (lg_sl ([.ref (a 0), .int (bI on), .int g, .int y]) ++ List.replicate (4 - (lg_sl ([.ref (a 0), .int (bI on), .int g, .int y])).length) Slot.unset).toArray = ls at hl ⊢
  have hl : lv_has ls 4 [(0, .ref (a 0)), (1, .int (bI on)), (2, .int g), (3, .int y)] := hl
  refine W_Q (fun Q hQ => ?_)
  show W p l e ({ frames := 8, cells := 3, slots := 18, locals := 180 } : Room) s m ([.ref (a 0), .int (bI on), .int g, .int y] : List Value).toArray below meth c s.heap [] 0 0 Q (F0 m 0 ls [])
  refine lv_aload_n hx hb dX4_ofGroup_0 rfl (lv_at hl 0 rfl) ?_
  refine lv_iload_n hx hb dX4_ofGroup_1 rfl (lv_at hl 3 rfl) ?_
  refine xcallxv (vx_runV (As := [.int y]) (rest := []) ⟨hx, hb, hml, hown, hts⟩ (c_X4_needFormula l hl0 D cs sa a M N _ hI nf y hfc (by omega)) (cwV 1 hts gX4_ofGroup_X4_needFormula rfl rfl rfl (by decide +kernel) ⟨Nat.le_of_ble_eq_true rfl, Nat.le_of_ble_eq_true rfl⟩) (xpreVT hP hK hT hZ hS hS.1 (ci := 4) 0 rfl rfl) rfl rfl hl.1 rfl (lv_room (Nat.le_of_ble_eq_true rfl)) dX4_ofGroup_2 ⟨Nat.le_of_ble_eq_true rfl, Nat.le_of_ble_eq_true rfl⟩) hS (kAle hS.1) (fun E ce q9 u9 H locs hXE hP hS hce hcv hcl => ?_) (fun u9 H locs hrel hP hS => ?_)
  ·
    obtain ⟨rfl, c2, hue⟩ := hXE
    rw [hue] at hP
    subst hQ
    exact xout (mc := 3) (ms := 18) htab hlocks hce hcv hcl ⟨(Or.inl ⟨rfl, by simp only [if_true, if_false, Bool.false_eq_true, decide_true, decide_false, c2]⟩), by first | exact TX_r | exact fun i x hi => TX_r i x (by omega)⟩ hP hS (Nat.le_of_ble_eq_true rfl) (Nat.le_of_ble_eq_true rfl)
  obtain ⟨c2, hue⟩ := hrel
  rw [hue] at hP
  clear hue
  refine W.widen (k := 1) (n := 6) (by decide) (by decide) ?_
  obtain ⟨hlt_y, heq_y⟩ := isIn_eq (by omega) c2
  refine lv_aload_n hx hb dX4_ofGroup_5 rfl (lv_at hl 0 rfl) ?_
  refine lv_iload_n hx hb dX4_ofGroup_6 rfl (lv_at hl 2 rfl) ?_
  refine xcallxv (vx_runV (As := [.int g]) (rest := []) ⟨hx, hb, hml, hown, hts⟩ (c_X4_needGroup l hl0 D cs sa a M N _ hI g) (cwV 1 hts gX4_ofGroup_X4_needGroup rfl rfl rfl (by decide +kernel) ⟨Nat.le_of_ble_eq_true rfl, Nat.le_of_ble_eq_true rfl⟩) (xpreVT hP hK hT hZ hS hS.1 (ci := 4) 0 rfl rfl) rfl rfl hl.1 rfl (lv_room (Nat.le_of_ble_eq_true rfl)) dX4_ofGroup_7 ⟨Nat.le_of_ble_eq_true rfl, Nat.le_of_ble_eq_true rfl⟩) hS (kAle hS.1) (fun E ce q9 u9 H locs hXE hP hS hce hcv hcl => ?_) (fun u9 H locs hrel hP hS => ?_)
  ·
    obtain ⟨rfl, c7, hue⟩ := hXE
    rw [hue] at hP
    subst hQ
    exact xout (mc := 3) (ms := 18) htab hlocks hce hcv hcl ⟨(Or.inr (Or.inl ⟨rfl, by simp only [if_true, if_false, Bool.false_eq_true, decide_true, decide_false, c2, c7]⟩)), by first | exact TX_r | exact fun i x hi => TX_r i x (by omega)⟩ hP hS (Nat.le_of_ble_eq_true rfl) (Nat.le_of_ble_eq_true rfl)
  obtain ⟨c7, hue⟩ := hrel
  rw [hue] at hP
  clear hue
  refine W.widen (k := 2) (n := 12) (by decide) (by decide) ?_
  refine lv_aload_n hx hb dX4_ofGroup_10 rfl (lv_at hl 0 rfl) ?_
  refine xcallxv (vx_runV (As := []) (rest := []) ⟨hx, hb, hml, hown, hts⟩ (c_X4_needRoomForFormula l hl0 D cs sa a M N _ hI nf hfc (by omega)) (cwV 0 hts gX4_ofGroup_X4_needRoomForFormula rfl rfl rfl (by decide +kernel) ⟨Nat.le_of_ble_eq_true rfl, Nat.le_of_ble_eq_true rfl⟩) (xpreVT hP hK hT hZ hS hS.1 (ci := 4) 0 rfl rfl) rfl rfl hl.1 rfl (lv_room (Nat.le_of_ble_eq_true rfl)) dX4_ofGroup_11 ⟨Nat.le_of_ble_eq_true rfl, Nat.le_of_ble_eq_true rfl⟩) hS (kAle hS.1) (fun E ce q9 u9 H locs hXE hP hS hce hcv hcl => ?_) (fun u9 H locs hrel hP hS => ?_)
  ·
    obtain ⟨rfl, c11, hue⟩ := hXE
    rw [hue] at hP
    subst hQ
    exact xout (mc := 3) (ms := 18) htab hlocks hce hcv hcl ⟨(Or.inr (Or.inr ⟨rfl, by simp only [if_true, if_false, Bool.false_eq_true, decide_true, decide_false, c2, c7, c11]⟩)), by first | exact TX_r | exact fun i x hi => TX_r i x (by omega)⟩ hP hS (Nat.le_of_ble_eq_true rfl) (Nat.le_of_ble_eq_true rfl)
  obtain ⟨c11, hue⟩ := hrel
  rw [hue] at hP
  clear hue
  refine W.widen (k := 3) (n := 18) (by decide) (by decide) ?_
  have hroom : nf < 40 := of_decide_eq_true c11
  refine lv_aload_n hx hb dX4_ofGroup_14 rfl (lv_at hl 0 rfl) ?_
  refine va_get (D := D) (ci := 4) (v := .ref (a 8)) (C := RX4) (T := TX4) (N := 4) hx hb hts hinX4 hown hK1 hP 0 rfl rfl 1 (by decide) (hts (.fieldLink RX4 19 "KnowledgeModel" "formulas" "LKnowledgeModel$Formulas;") (List.mem_of_getElem? (i := 1) rfl)) (fun _ h9 => h9) rfl dX4_ofGroup_15 ?_
  refine lv_iload_n hx hb dX4_ofGroup_18 rfl (lv_at hl 1 rfl) ?_
  refine lv_if_eq (tgt := 26) hx hb dX4_ofGroup_19 (by decide) (fun c19 => ?_) (fun c19 => ?_)
  ·
    replace c19 := bI_0 c19
    refine lv_iconst (v := (nI 5)) hx hb dX4_ofGroup_26 (by decide) ?_
    refine lv_iload_n hx hb dX4_ofGroup_27 rfl (lv_at hl 2 rfl) ?_
    refine lv_iload_n hx hb dX4_ofGroup_28 rfl (lv_at hl 3 rfl) ?_
    refine lv_iconst (v := (-1 : Int32)) hx hb dX4_ofGroup_29 (by decide) ?_
    refine xcallwi (va_runV (As := [.int (nI 5), .int g, .int y, .int (-1 : Int32)]) (rest := []) ⟨hx, hb, hml, hown, hts⟩ (c_X0_append l D cs a M N _ hI nf 5 g y (-1 : Int32) (by decide) hfc (by omega) (Or.inr ⟨_, hlt_y, heq_y⟩) (Or.inl rfl)) (cwV 4 hts gX4_ofGroup_X0_append rfl rfl rfl (by decide +kernel) ⟨Nat.le_of_ble_eq_true rfl, Nat.le_of_ble_eq_true rfl⟩) (xpreVs hP hK (ci := 0) 8 rfl rfl) rfl rfl hl.1 rfl (lv_room (Nat.le_of_ble_eq_true rfl)) dX4_ofGroup_30 ⟨Nat.le_of_ble_eq_true rfl, Nat.le_of_ble_eq_true rfl⟩) hS (kAle hS.1) (fun u_1 H locs hu_1 hP _ _ hS => ?_)
    have hP : va_P D vwCl (xc cs a (appM M nf 5 g y (-1 : Int32)) (appN N nf 5 y (-1 : Int32))) H := hP
    obtain ⟨M_2, hM_2⟩ : ∃ z, z = appM M nf 5 g y (-1 : Int32) := ⟨_, rfl⟩
    rw [← hM_2] at hP
    obtain ⟨N_3, hN_3⟩ : ∃ z, z = appN N nf 5 y (-1 : Int32) := ⟨_, rfl⟩
    rw [← hN_3] at hP
    have hk_4 : M_2 0 2 = nI (nf + 1) := by rw [hM_2]; exact wr_same
    subst hQ
    refine vx_ret ?_
    have hNfin : N_3 = appN N nf (if on = true then 4 else 5) y (-1) := by simp only [if_true, if_false, Bool.false_eq_true, decide_true, decide_false, c2, c7, c11, hroom, c19, hM_2, hN_3]
    rw [hNfin] at hP
    have hrel : (if (isIn nf y) = true then (if (isGr g) = true then (if (decide (nf < 40)) = true then 0 else 3) else 2) else 1) = 0 ∧ M_2 = appM M nf (if on = true then 4 else 5) g y (-1) := by refine ⟨by simp only [if_true, if_false, Bool.false_eq_true, decide_true, decide_false, c2, c7, c11, hroom, c19, hM_2, hN_3], ?_⟩; simp only [if_true, if_false, Bool.false_eq_true, decide_true, decide_false, c2, c7, c11, hroom, c19, hM_2, hN_3]
    have hfin : (nI nf) = nI nf := by rfl
    exact W.iret hx hb hr (fun t ht hW => ⟨⟨_, M_2, rfl, ⟨hfin, hrel⟩, by rw [← ht] at hP; exact hP⟩, hS.F ht⟩) hS.2.2 dX4_ofGroup_33
  ·
    replace c19 := bI_n0 c19
    refine lv_iconst (v := (nI 4)) hx hb dX4_ofGroup_22 (by decide) ?_
    refine lv_goto (tgt := 27) hx hb dX4_ofGroup_23 (by decide) ?_
    refine lv_iload_n hx hb dX4_ofGroup_27 rfl (lv_at hl 2 rfl) ?_
    refine lv_iload_n hx hb dX4_ofGroup_28 rfl (lv_at hl 3 rfl) ?_
    refine lv_iconst (v := (-1 : Int32)) hx hb dX4_ofGroup_29 (by decide) ?_
    refine xcallwi (va_runV (As := [.int (nI 4), .int g, .int y, .int (-1 : Int32)]) (rest := []) ⟨hx, hb, hml, hown, hts⟩ (c_X0_append l D cs a M N _ hI nf 4 g y (-1 : Int32) (by decide) hfc (by omega) (Or.inr ⟨_, hlt_y, heq_y⟩) (Or.inl rfl)) (cwV 4 hts gX4_ofGroup_X0_append rfl rfl rfl (by decide +kernel) ⟨Nat.le_of_ble_eq_true rfl, Nat.le_of_ble_eq_true rfl⟩) (xpreVs hP hK (ci := 0) 8 rfl rfl) rfl rfl hl.1 rfl (lv_room (Nat.le_of_ble_eq_true rfl)) dX4_ofGroup_30 ⟨Nat.le_of_ble_eq_true rfl, Nat.le_of_ble_eq_true rfl⟩) hS (kAle hS.1) (fun u_7 H locs hu_7 hP _ _ hS => ?_)
    have hP : va_P D vwCl (xc cs a (appM M nf 4 g y (-1 : Int32)) (appN N nf 4 y (-1 : Int32))) H := hP
    obtain ⟨M_8, hM_8⟩ : ∃ z, z = appM M nf 4 g y (-1 : Int32) := ⟨_, rfl⟩
    rw [← hM_8] at hP
    obtain ⟨N_9, hN_9⟩ : ∃ z, z = appN N nf 4 y (-1 : Int32) := ⟨_, rfl⟩
    rw [← hN_9] at hP
    have hk_10 : M_8 0 2 = nI (nf + 1) := by rw [hM_8]; exact wr_same
    subst hQ
    refine vx_ret ?_
    have hNfin : N_9 = appN N nf (if on = true then 4 else 5) y (-1) := by simp only [if_true, if_false, Bool.false_eq_true, decide_true, decide_false, c2, c7, c11, hroom, c19, hM_8, hN_9]
    rw [hNfin] at hP
    have hrel : (if (isIn nf y) = true then (if (isGr g) = true then (if (decide (nf < 40)) = true then 0 else 3) else 2) else 1) = 0 ∧ M_8 = appM M nf (if on = true then 4 else 5) g y (-1) := by refine ⟨by simp only [if_true, if_false, Bool.false_eq_true, decide_true, decide_false, c2, c7, c11, hroom, c19, hM_8, hN_9], ?_⟩; simp only [if_true, if_false, Bool.false_eq_true, decide_true, decide_false, c2, c7, c11, hroom, c19, hM_8, hN_9]
    have hfin : (nI nf) = nI nf := by rfl
    exact W.iret hx hb hr (fun t ht hW => ⟨⟨_, M_8, rfl, ⟨hfin, hrel⟩, by rw [← ht] at hP; exact hP⟩, hS.F ht⟩) hS.2.2 dX4_ofGroup_33

set_option maxHeartbeats 4000000 in
set_option maxRecDepth 100000 in
theorem c_X4_after (l : Launch) (hl0 : l.stackTraces = false) (D : va_G) (cs sa : Nat → Nat) (a : Nat → Nat) (M : Nat → Nat → Int32) (N : Nat → Int64) (sz : Nat) (hI : kI a 29) (nf : Nat) (x : Int32) (y : Int32) (hfc : M 0 2 = nI nf) (hf40 : nf ≤ 40) : vx_Met l yX4_after wsX4_after ({ frames := 8, cells := 4, slots := 24, locals := 180 } : Room) (va_Pc [.ref (a 0), .int x, .int y] (XBT D cs sa a (xc cs a M N) sz)) (va_Qi (fun r (u : Nat → Nat → Int32) => r = nI nf ∧ (if (isIn nf x) = true then (if (isIn nf y) = true then (if (decide (mx (M 11 x.toNatClampNeg) (M 11 y.toNatClampNeg) < nI 2)) = true then (if (decide (nf < 40)) = true then 0 else 3) else 2) else 1) else 1) = 0 ∧ u = appM M nf 6 (nI 0) x y) (fun (u : Nat → Nat → Int32) t => va_P D vwCl (xc cs a u (appN N nf 6 x y)) t.heap) (kA a 29 sz)) (XX D (fun u => xc cs a u N) (fun E u => (E = "java/lang/IndexOutOfBoundsException" ∧ (if (isIn nf x) = true then (if (isIn nf y) = true then (if (decide (mx (M 11 x.toNatClampNeg) (M 11 y.toNatClampNeg) < nI 2)) = true then (if (decide (nf < 40)) = true then 0 else 3) else 2) else 1) else 1) = 1 ∨ E = "java/lang/IllegalArgumentException" ∧ (if (isIn nf x) = true then (if (isIn nf y) = true then (if (decide (mx (M 11 x.toNatClampNeg) (M 11 y.toNatClampNeg) < nI 2)) = true then (if (decide (nf < 40)) = true then 0 else 3) else 2) else 1) else 1) = 2 ∨ E = "java/lang/IllegalStateException" ∧ (if (isIn nf x) = true then (if (isIn nf y) = true then (if (decide (mx (M 11 x.toNatClampNeg) (M 11 y.toNatClampNeg) < nI 2)) = true then (if (decide (nf < 40)) = true then 0 else 3) else 2) else 1) else 1) = 3) ∧ TX M u) (kA a 29 sz)) 4 24 (kA a 29 sz) := by
  refine vx_ofW (cc := cX4_after) (maxL := 3) (ret := (some .int)) (by decide) rfl ?_
  intro p e s m args below meth c s₁ B hml htab hv
  obtain ⟨rfl, hsz, hP, hK, hT, hZ⟩ := hv
  have hx := B.exec
  have hb := B.bytes
  have hr := B.returns
  have hts := atoms_spec (ws := wsX4_after) B.pre
  have hown : s.vm.findClass RX4 = some m.cls := findClass_of_methodNamed B.named
  have hlocks := B.notSynchronized
  have hK1 := hK.1
  have hinX4 : ∀ w ∈ wsX40, w ∈ wsX4_after := fun w h => List.mem_cons_of_mem _ (List.mem_append_left _ (List.mem_append_left _ (List.mem_append_left _ (List.mem_append_left _ (List.mem_append_right _ h)))))
  have hinX0 : ∀ w ∈ wsX00, w ∈ wsX4_after := fun w h => List.mem_cons_of_mem _ (List.mem_append_left _ (List.mem_append_left _ (List.mem_append_left _ (List.mem_append_right _ h))))
  subst hsz
  have hS : va_S (kA a 29 s.heap.size) s.heap s.heap [] := va_S.rf
  have hl := lv_entry ([.ref (a 0), .int x, .int y]) (n := 3) (Nat.le_of_ble_eq_true rfl)
  rw [lg_entry_eq]
  generalize (lg_sl ([.ref (a 0), .int x, .int y]) ++ List.replicate (3 - (lg_sl ([.ref (a 0), .int x, .int y])).length) Slot.unset).toArray = ls at hl ⊢
  have hl : lv_has ls 3 [(0, .ref (a 0)), (1, .int x), (2, .int y)] := hl
  refine W_Q (fun Q hQ => ?_)
  show W p l e ({ frames := 8, cells := 4, slots := 24, locals := 180 } : Room) s m ([.ref (a 0), .int x, .int y] : List Value).toArray below meth c s.heap [] 0 0 Q (F0 m 0 ls [])
  refine lv_aload_n hx hb dX4_after_0 rfl (lv_at hl 0 rfl) ?_
  refine lv_iload_n hx hb dX4_after_1 rfl (lv_at hl 1 rfl) ?_
  refine xcallxv (vx_runV (As := [.int x]) (rest := []) ⟨hx, hb, hml, hown, hts⟩ (c_X4_needFormula l hl0 D cs sa a M N _ hI nf x hfc (by omega)) (cwV 1 hts gX4_after_X4_needFormula rfl rfl rfl (by decide +kernel) ⟨Nat.le_of_ble_eq_true rfl, Nat.le_of_ble_eq_true rfl⟩) (xpreVT hP hK hT hZ hS hS.1 (ci := 4) 0 rfl rfl) rfl rfl hl.1 rfl (lv_room (Nat.le_of_ble_eq_true rfl)) dX4_after_2 ⟨Nat.le_of_ble_eq_true rfl, Nat.le_of_ble_eq_true rfl⟩) hS (kAle hS.1) (fun E ce q9 u9 H locs hXE hP hS hce hcv hcl => ?_) (fun u9 H locs hrel hP hS => ?_)
  ·
    obtain ⟨rfl, c2, hue⟩ := hXE
    rw [hue] at hP
    subst hQ
    exact xout (mc := 4) (ms := 24) htab hlocks hce hcv hcl ⟨(Or.inl ⟨rfl, by simp only [if_true, if_false, Bool.false_eq_true, decide_true, decide_false, c2]⟩), by first | exact TX_r | exact fun i x hi => TX_r i x (by omega)⟩ hP hS (Nat.le_of_ble_eq_true rfl) (Nat.le_of_ble_eq_true rfl)
  obtain ⟨c2, hue⟩ := hrel
  rw [hue] at hP
  clear hue
  refine W.widen (k := 1) (n := 6) (by decide) (by decide) ?_
  obtain ⟨hlt_x, heq_x⟩ := isIn_eq (by omega) c2
  refine lv_aload_n hx hb dX4_after_5 rfl (lv_at hl 0 rfl) ?_
  refine lv_iload_n hx hb dX4_after_6 rfl (lv_at hl 2 rfl) ?_
  refine xcallxv (vx_runV (As := [.int y]) (rest := []) ⟨hx, hb, hml, hown, hts⟩ (c_X4_needFormula l hl0 D cs sa a M N _ hI nf y hfc (by omega)) (cwV 1 hts gX4_after_X4_needFormula rfl rfl rfl (by decide +kernel) ⟨Nat.le_of_ble_eq_true rfl, Nat.le_of_ble_eq_true rfl⟩) (xpreVT hP hK hT hZ hS hS.1 (ci := 4) 0 rfl rfl) rfl rfl hl.1 rfl (lv_room (Nat.le_of_ble_eq_true rfl)) dX4_after_7 ⟨Nat.le_of_ble_eq_true rfl, Nat.le_of_ble_eq_true rfl⟩) hS (kAle hS.1) (fun E ce q9 u9 H locs hXE hP hS hce hcv hcl => ?_) (fun u9 H locs hrel hP hS => ?_)
  ·
    obtain ⟨rfl, c7, hue⟩ := hXE
    rw [hue] at hP
    subst hQ
    exact xout (mc := 4) (ms := 24) htab hlocks hce hcv hcl ⟨(Or.inl ⟨rfl, by simp only [if_true, if_false, Bool.false_eq_true, decide_true, decide_false, c2, c7]⟩), by first | exact TX_r | exact fun i x hi => TX_r i x (by omega)⟩ hP hS (Nat.le_of_ble_eq_true rfl) (Nat.le_of_ble_eq_true rfl)
  obtain ⟨c7, hue⟩ := hrel
  rw [hue] at hP
  clear hue
  refine W.widen (k := 2) (n := 12) (by decide) (by decide) ?_
  obtain ⟨hlt_y, heq_y⟩ := isIn_eq (by omega) c7
  refine lv_aload_n hx hb dX4_after_10 rfl (lv_at hl 0 rfl) ?_
  refine va_get (D := D) (ci := 4) (v := .ref (a 8)) (C := RX4) (T := TX4) (N := 4) hx hb hts hinX4 hown hK1 hP 0 rfl rfl 1 (by decide) (hts (.fieldLink RX4 19 "KnowledgeModel" "formulas" "LKnowledgeModel$Formulas;") (List.mem_of_getElem? (i := 3) rfl)) (fun _ h9 => h9) rfl dX4_after_11 ?_
  refine va_get (D := D) (ci := 0) (v := .ref (a 14)) (C := RX0) (T := TX0) (N := 8) hx hb hts hinX0 hown hK1 hP 8 rfl rfl 5 (by decide) (hts (.fieldLink RX4 130 "KnowledgeModel$Formulas" "nestingOf" "[I") (List.mem_of_getElem? (i := 4) rfl)) (fun _ h9 => h9) rfl dX4_after_14 ?_
  refine lv_iload_n hx hb dX4_after_17 rfl (lv_at hl 1 rfl) ?_
  refine xtop (y := nI x.toNatClampNeg) (by exact heq_x) ?_
  refine xiald (j := x.toNatClampNeg) (q0 := 14) (t0 := 0) hx hb hK1 hP rfl rfl (by omega) (by decide) dX4_after_18 ?_
  refine lv_aload_n hx hb dX4_after_19 rfl (lv_at hl 0 rfl) ?_
  refine va_get (D := D) (ci := 4) (v := .ref (a 8)) (C := RX4) (T := TX4) (N := 4) hx hb hts hinX4 hown hK1 hP 0 rfl rfl 1 (by decide) (hts (.fieldLink RX4 19 "KnowledgeModel" "formulas" "LKnowledgeModel$Formulas;") (List.mem_of_getElem? (i := 3) rfl)) (fun _ h9 => h9) rfl dX4_after_20 ?_
  refine va_get (D := D) (ci := 0) (v := .ref (a 14)) (C := RX0) (T := TX0) (N := 8) hx hb hts hinX0 hown hK1 hP 8 rfl rfl 5 (by decide) (hts (.fieldLink RX4 130 "KnowledgeModel$Formulas" "nestingOf" "[I") (List.mem_of_getElem? (i := 4) rfl)) (fun _ h9 => h9) rfl dX4_after_23 ?_
  refine lv_iload_n hx hb dX4_after_26 rfl (lv_at hl 2 rfl) ?_
  refine xtop (y := nI y.toNatClampNeg) (by exact heq_y) ?_
  refine xiald (j := y.toNatClampNeg) (q0 := 14) (t0 := 0) hx hb hK1 hP rfl rfl (by omega) (by decide) dX4_after_27 ?_
  refine va_mmax hx hb (hml.trans hl.1.symm) hown (hts (.methodLink RX4 133 Lib.Math.max.name) (List.mem_of_getElem? (i := 5) rfl)) (hts (.static Lib.Math.max.name) (List.mem_of_getElem? (i := 6) rfl)) (hts (.initialized "java/lang/Math") (List.mem_of_getElem? (i := 7) rfl)) (hts (.code Lib.Math.max.name Lib.Math.max.code 2 (some .int)) (List.mem_of_getElem? (i := 8) rfl)) (Nat.le_of_ble_eq_true rfl) (Nat.le_of_ble_eq_true rfl) (Nat.le_of_ble_eq_true rfl) (Nat.le_of_ble_eq_true rfl) dX4_after_28 ?_
  refine xtop (y := mx (M 11 x.toNatClampNeg) (M 11 y.toNatClampNeg)) rfl ?_
  refine lv_iconst (v := (nI 2)) hx hb dX4_after_31 (by decide) ?_
  refine lv_icmp_lt (tgt := 45) hx hb dX4_after_32 (by decide) (fun c32 => ?_) (fun c32 => ?_)
  ·
    have d32 : decide (mx (M 11 x.toNatClampNeg) (M 11 y.toNatClampNeg) < nI 2) = true := decide_eq_true c32
    refine lv_aload_n hx hb dX4_after_45 rfl (lv_at hl 0 rfl) ?_
    refine xcallxv (vx_runV (As := []) (rest := []) ⟨hx, hb, hml, hown, hts⟩ (c_X4_needRoomForFormula l hl0 D cs sa a M N _ hI nf hfc (by omega)) (cwV 0 hts gX4_after_X4_needRoomForFormula rfl rfl rfl (by decide +kernel) ⟨Nat.le_of_ble_eq_true rfl, Nat.le_of_ble_eq_true rfl⟩) (xpreVT hP hK hT hZ hS hS.1 (ci := 4) 0 rfl rfl) rfl rfl hl.1 rfl (lv_room (Nat.le_of_ble_eq_true rfl)) dX4_after_46 ⟨Nat.le_of_ble_eq_true rfl, Nat.le_of_ble_eq_true rfl⟩) hS (kAle hS.1) (fun E ce q9 u9 H locs hXE hP hS hce hcv hcl => ?_) (fun u9 H locs hrel hP hS => ?_)
    ·
      obtain ⟨rfl, c46, hue⟩ := hXE
      rw [hue] at hP
      subst hQ
      exact xout (mc := 4) (ms := 24) htab hlocks hce hcv hcl ⟨(Or.inr (Or.inr ⟨rfl, by simp only [if_true, if_false, Bool.false_eq_true, decide_true, decide_false, c2, c7, c32, d32, c46]⟩)), by first | exact TX_r | exact fun i x hi => TX_r i x (by omega)⟩ hP hS (Nat.le_of_ble_eq_true rfl) (Nat.le_of_ble_eq_true rfl)
    obtain ⟨c46, hue⟩ := hrel
    rw [hue] at hP
    clear hue
    refine W.widen (k := 3) (n := 18) (by decide) (by decide) ?_
    have hroom : nf < 40 := of_decide_eq_true c46
    refine lv_aload_n hx hb dX4_after_49 rfl (lv_at hl 0 rfl) ?_
    refine va_get (D := D) (ci := 4) (v := .ref (a 8)) (C := RX4) (T := TX4) (N := 4) hx hb hts hinX4 hown hK1 hP 0 rfl rfl 1 (by decide) (hts (.fieldLink RX4 19 "KnowledgeModel" "formulas" "LKnowledgeModel$Formulas;") (List.mem_of_getElem? (i := 3) rfl)) (fun _ h9 => h9) rfl dX4_after_50 ?_
    refine lv_bipush (v := (nI 6)) hx hb dX4_after_53 (by decide) ?_
    refine lv_iconst (v := (nI 0)) hx hb dX4_after_55 (by decide) ?_
    refine lv_iload_n hx hb dX4_after_56 rfl (lv_at hl 1 rfl) ?_
    refine lv_iload_n hx hb dX4_after_57 rfl (lv_at hl 2 rfl) ?_
    refine xcallwi (va_runV (As := [.int (nI 6), .int (nI 0), .int x, .int y]) (rest := []) ⟨hx, hb, hml, hown, hts⟩ (c_X0_append l D cs a M N _ hI nf 6 (nI 0) x y (by decide) hfc (by omega) (Or.inr ⟨_, hlt_x, heq_x⟩) (Or.inr ⟨_, hlt_y, heq_y⟩)) (cwV 4 hts gX4_after_X0_append rfl rfl rfl (by decide +kernel) ⟨Nat.le_of_ble_eq_true rfl, Nat.le_of_ble_eq_true rfl⟩) (xpreVs hP hK (ci := 0) 8 rfl rfl) rfl rfl hl.1 rfl (lv_room (Nat.le_of_ble_eq_true rfl)) dX4_after_58 ⟨Nat.le_of_ble_eq_true rfl, Nat.le_of_ble_eq_true rfl⟩) hS (kAle hS.1) (fun u_1 H locs hu_1 hP _ _ hS => ?_)
    have hP : va_P D vwCl (xc cs a (appM M nf 6 (nI 0) x y) (appN N nf 6 x y)) H := hP
    obtain ⟨M_2, hM_2⟩ : ∃ z, z = appM M nf 6 (nI 0) x y := ⟨_, rfl⟩
    rw [← hM_2] at hP
    obtain ⟨N_3, hN_3⟩ : ∃ z, z = appN N nf 6 x y := ⟨_, rfl⟩
    rw [← hN_3] at hP
    have hk_4 : M_2 0 2 = nI (nf + 1) := by rw [hM_2]; exact wr_same
    subst hQ
    refine W.widen (k := 4) (n := 24) (by decide) (by decide) ?_
    refine vx_ret ?_
    have hNfin : N_3 = appN N nf 6 x y := by simp only [if_true, if_false, Bool.false_eq_true, decide_true, decide_false, c2, c7, c32, d32, c46, hroom, hM_2, hN_3]
    rw [hNfin] at hP
    have hrel : (if (isIn nf x) = true then (if (isIn nf y) = true then (if (decide (mx (M 11 x.toNatClampNeg) (M 11 y.toNatClampNeg) < nI 2)) = true then (if (decide (nf < 40)) = true then 0 else 3) else 2) else 1) else 1) = 0 ∧ M_2 = appM M nf 6 (nI 0) x y := by refine ⟨by simp only [if_true, if_false, Bool.false_eq_true, decide_true, decide_false, c2, c7, c32, d32, c46, hroom, hM_2, hN_3], ?_⟩; simp only [if_true, if_false, Bool.false_eq_true, decide_true, decide_false, c2, c7, c32, d32, c46, hroom, hM_2, hN_3]
    have hfin : (nI nf) = nI nf := by rfl
    exact W.iret hx hb hr (fun t ht hW => ⟨⟨_, M_2, rfl, ⟨hfin, hrel⟩, by rw [← ht] at hP; exact hP⟩, hS.F ht⟩) hS.2.2 dX4_after_61
  ·
    have d32 : decide (mx (M 11 x.toNatClampNeg) (M 11 y.toNatClampNeg) < nI 2) = false := decide_eq_false c32
    subst hQ
    exact vx_throwS (mc := 4) (ms := 24) hx hb hl0 hown fit89 fitN (hts (.classLink RX4 85 "java/lang/IllegalArgumentException") (List.mem_of_getElem? (i := 1) rfl)) (hts (.initialized "java/lang/IllegalArgumentException") (List.mem_of_getElem? (i := 2) rfl)) hT.2.2.2.2.2.2.1 (hat89 hT (fun w h => hts w (List.mem_cons_of_mem _ (List.mem_append_left _ (List.mem_append_left _ (List.mem_append_right _ h)))))) gow89 hZ.1 hZ.2 hS (hl.1.trans hml.symm) dX4_after_35 dX4_after_38 dX4_after_39 dX4_after_41 dX4_after_44 (fun x h => (htab x h).elim) (Nat.le_of_ble_eq_true rfl) (Nat.le_of_ble_eq_true rfl) (Nat.le_of_ble_eq_true rfl) (Nat.le_of_ble_eq_true rfl) hlocks (xthr ⟨(Or.inr (Or.inl ⟨rfl, by simp only [if_true, if_false, Bool.false_eq_true, decide_true, decide_false, c2, c7, c32, d32]⟩)), by first | exact TX_r | exact fun i x hi => TX_r i x (by omega)⟩ hP hS) hS.2.2 (Nat.le_of_ble_eq_true rfl) (Nat.le_of_ble_eq_true rfl)

set_option maxHeartbeats 4000000 in
set_option maxRecDepth 100000 in
theorem c_X4_where (l : Launch) (hl0 : l.stackTraces = false) (D : va_G) (cs sa : Nat → Nat) (a : Nat → Nat) (M : Nat → Nat → Int32) (N : Nat → Int64) (sz : Nat) (hI : kI a 29) (n : Nat) (nf : Nat) (kd : Nat → Nat) (p1 : Nat → Nat) (p2 : Nat → Nat) (ns : Nat → Nat) (sb : Nat → Nat) (x : Int32) (hn : M 0 0 = nI n) (hn24 : n ≤ 24) (hfc : M 0 2 = nI nf) (hf40 : nf ≤ 40) (hwf : WFX M N nf kd p1 p2 ns sb) : vx_Met l yX4_where wsX4_where ({ frames := 15, cells := 1, slots := 6, locals := 350 } : Room) (va_Pc [.ref (a 0), .int x] (XBT D cs sa a (xc cs a M N) sz)) (va_Qi (fun r (u : Nat → Nat → Int32) => r = sem M n kd p1 p2 sb (sg n - nI 1) x.toNatClampNeg ∧ (if (isIn nf x) = true then 0 else 1) = 0 ∧ (∀ i x, ¬ (12 ≤ i ∧ i < 15) → u i x = M i x)) (fun (u : Nat → Nat → Int32) t => va_P D vwCl (xc cs a u N) t.heap) (kA a 29 sz)) (XX D (fun u => xc cs a u N) (fun E u => (E = "java/lang/IndexOutOfBoundsException" ∧ (if (isIn nf x) = true then 0 else 1) = 1) ∧ TX M u) (kA a 29 sz)) 1 6 (kA a 29 sz) := by
  refine vx_ofW (cc := cX4_where) (maxL := 2) (ret := (some .int)) (by decide) rfl ?_
  intro p e s m args below meth c s₁ B hml htab hv
  obtain ⟨rfl, hsz, hP, hK, hT, hZ⟩ := hv
  have hx := B.exec
  have hb := B.bytes
  have hr := B.returns
  have hts := atoms_spec (ws := wsX4_where) B.pre
  have hown : s.vm.findClass RX4 = some m.cls := findClass_of_methodNamed B.named
  have hlocks := B.notSynchronized
  have hK1 := hK.1
  have hinX4 : ∀ w ∈ wsX40, w ∈ wsX4_where := fun w h => List.mem_cons_of_mem _ (List.mem_append_left _ (List.mem_append_left _ (List.mem_append_left _ (List.mem_append_left _ (List.mem_append_right _ h)))))
  have hinX0 : ∀ w ∈ wsX00, w ∈ wsX4_where := fun w h => List.mem_cons_of_mem _ (List.mem_append_left _ (List.mem_append_left _ (List.mem_append_left _ (List.mem_append_right _ h))))
  have hinX2 : ∀ w ∈ wsX20, w ∈ wsX4_where := fun w h => List.mem_cons_of_mem _ (List.mem_append_left _ (List.mem_append_left _ (List.mem_append_right _ h)))
  have hinX3 : ∀ w ∈ wsX30, w ∈ wsX4_where := fun w h => List.mem_cons_of_mem _ (List.mem_append_left _ (List.mem_append_right _ h))
  subst hsz
  have hS : va_S (kA a 29 s.heap.size) s.heap s.heap [] := va_S.rf
  have hl := lv_entry ([.ref (a 0), .int x]) (n := 2) (Nat.le_of_ble_eq_true rfl)
  rw [lg_entry_eq]
  generalize (lg_sl ([.ref (a 0), .int x]) ++ List.replicate (2 - (lg_sl ([.ref (a 0), .int x])).length) Slot.unset).toArray = ls at hl ⊢
  have hl : lv_has ls 2 [(0, .ref (a 0)), (1, .int x)] := hl
  refine W_Q (fun Q hQ => ?_)
  show W p l e ({ frames := 15, cells := 1, slots := 6, locals := 350 } : Room) s m ([.ref (a 0), .int x] : List Value).toArray below meth c s.heap [] 0 0 Q (F0 m 0 ls [])
  refine lv_aload_n hx hb dX4_where_0 rfl (lv_at hl 0 rfl) ?_
  refine lv_iload_n hx hb dX4_where_1 rfl (lv_at hl 1 rfl) ?_
  refine xcallxv (vx_runV (As := [.int x]) (rest := []) ⟨hx, hb, hml, hown, hts⟩ (c_X4_needFormula l hl0 D cs sa a M N _ hI nf x hfc (by omega)) (cwV 1 hts gX4_where_X4_needFormula rfl rfl rfl (by decide +kernel) ⟨Nat.le_of_ble_eq_true rfl, Nat.le_of_ble_eq_true rfl⟩) (xpreVT hP hK hT hZ hS hS.1 (ci := 4) 0 rfl rfl) rfl rfl hl.1 rfl (lv_room (Nat.le_of_ble_eq_true rfl)) dX4_where_2 ⟨Nat.le_of_ble_eq_true rfl, Nat.le_of_ble_eq_true rfl⟩) hS (kAle hS.1) (fun E ce q9 u9 H locs hXE hP hS hce hcv hcl => ?_) (fun u9 H locs hrel hP hS => ?_)
  ·
    obtain ⟨rfl, c2, hue⟩ := hXE
    rw [hue] at hP
    subst hQ
    exact xout (mc := 1) (ms := 6) htab hlocks hce hcv hcl ⟨⟨rfl, by simp only [if_true, if_false, Bool.false_eq_true, decide_true, decide_false, c2]⟩, by first | exact TX_r | exact fun i x hi => TX_r i x (by omega)⟩ hP hS (Nat.le_of_ble_eq_true rfl) (Nat.le_of_ble_eq_true rfl)
  obtain ⟨c2, hue⟩ := hrel
  rw [hue] at hP
  clear hue
  refine W.widen (k := 1) (n := 6) (by decide) (by decide) ?_
  obtain ⟨hlt_x, heq_x⟩ := isIn_eq (by omega) c2
  have hl : lv_has ls 2 [(0, .ref (a 0)), (1, .int (nI x.toNatClampNeg))] := (lcons (lcons (lzero hl) hl 1 rfl (congrArg Value.int heq_x)) hl 0 rfl rfl)
  refine lv_aload_n hx hb dX4_where_5 rfl (lv_at hl 0 rfl) ?_
  refine va_get (D := D) (ci := 4) (v := .ref (a 16)) (C := RX4) (T := TX4) (N := 4) hx hb hts hinX4 hown hK1 hP 0 rfl rfl 2 (by decide) (hts (.fieldLink RX4 28 "KnowledgeModel" "truth" "LKnowledgeModel$Truth;") (List.mem_of_getElem? (i := 1) rfl)) (fun _ h9 => h9) rfl dX4_where_6 ?_
  refine lv_iload_n hx hb dX4_where_9 rfl (lv_at hl 1 rfl) ?_
  refine xcallwi (va_runV (As := [.int (nI x.toNatClampNeg)]) (rest := []) ⟨hx, hb, hml, hown, hts⟩ (c_X2_worldsOf l D cs a M N _ hI n nf kd p1 p2 ns sb x.toNatClampNeg hn (by omega) hwf hf40 hlt_x) (cwV 1 hts gX4_where_X2_worldsOf rfl rfl rfl (by decide +kernel) ⟨Nat.le_of_ble_eq_true rfl, Nat.le_of_ble_eq_true rfl⟩) (xpreVs hP hK (ci := 2) 16 rfl rfl) rfl rfl hl.1 rfl (lv_room (Nat.le_of_ble_eq_true rfl)) dX4_where_10 ⟨Nat.le_of_ble_eq_true rfl, Nat.le_of_ble_eq_true rfl⟩) hS (kAle hS.1) (fun u_1 H locs hu_1 hP _ _ hS => ?_)
  have hP : va_P D vwCl (xc cs a u_1 N) H := hP
  have hk_2 : u_1 0 0 = nI n := by rw [hu_1 0 0 (by decide)]; exact hn
  have hk_4 : u_1 0 2 = nI nf := by rw [hu_1 0 2 (by decide)]; exact hfc
  subst hQ
  refine vx_ret ?_
  have hrel : (if (isIn nf x) = true then 0 else 1) = 0 ∧ (∀ i x, ¬ (12 ≤ i ∧ i < 15) → u_1 i x = M i x) := by refine ⟨by simp only [if_true, if_false, Bool.false_eq_true, decide_true, decide_false, c2], ?_⟩; exact hu_1
  have hfin : (sem M n kd p1 p2 sb (sg n - nI 1) x.toNatClampNeg) = sem M n kd p1 p2 sb (sg n - nI 1) x.toNatClampNeg := by rfl
  exact W.iret hx hb hr (fun t ht hW => ⟨⟨_, u_1, rfl, ⟨hfin, hrel⟩, by rw [← ht] at hP; exact hP⟩, hS.F ht⟩) hS.2.2 dX4_where_13

set_option maxHeartbeats 4000000 in
set_option maxRecDepth 100000 in
theorem c_X4_holds (l : Launch) (hl0 : l.stackTraces = false) (D : va_G) (cs sa : Nat → Nat) (a : Nat → Nat) (M : Nat → Nat → Int32) (N : Nat → Int64) (sz : Nat) (hI : kI a 29) (n : Nat) (nf : Nat) (kd : Nat → Nat) (p1 : Nat → Nat) (p2 : Nat → Nat) (ns : Nat → Nat) (sb : Nat → Nat) (act : Nat) (x : Int32) (hn : M 0 0 = nI n) (hn24 : n ≤ 24) (hfc : M 0 2 = nI nf) (hf40 : nf ≤ 40) (hwf : WFX M N nf kd p1 p2 ns sb) (hact : M 0 1 = nI act) (ha24 : act < 24) : vx_Met l yX4_holds wsX4_holds ({ frames := 15, cells := 2, slots := 12, locals := 350 } : Room) (va_Pc [.ref (a 0), .int x] (XBT D cs sa a (xc cs a M N) sz)) (va_Qi (fun r (u : Nat → Nat → Int32) => r = bI (bt (sem M n kd p1 p2 sb (sg n - nI 1) x.toNatClampNeg) act) ∧ (if (isIn nf x) = true then (if (!decide (n = 0)) = true then 0 else 2) else 1) = 0 ∧ (∀ i x, ¬ (12 ≤ i ∧ i < 15) → u i x = M i x)) (fun (u : Nat → Nat → Int32) t => va_P D vwCl (xc cs a u N) t.heap) (kA a 29 sz)) (XX D (fun u => xc cs a u N) (fun E u => (E = "java/lang/IndexOutOfBoundsException" ∧ (if (isIn nf x) = true then (if (!decide (n = 0)) = true then 0 else 2) else 1) = 1 ∨ E = "java/lang/IllegalStateException" ∧ (if (isIn nf x) = true then (if (!decide (n = 0)) = true then 0 else 2) else 1) = 2) ∧ TX M u) (kA a 29 sz)) 2 12 (kA a 29 sz) := by
  refine vx_ofW (cc := cX4_holds) (maxL := 2) (ret := (some .boolean)) (by decide) rfl ?_
  intro p e s m args below meth c s₁ B hml htab hv
  obtain ⟨rfl, hsz, hP, hK, hT, hZ⟩ := hv
  have hx := B.exec
  have hb := B.bytes
  have hr := B.returns
  have hts := atoms_spec (ws := wsX4_holds) B.pre
  have hown : s.vm.findClass RX4 = some m.cls := findClass_of_methodNamed B.named
  have hlocks := B.notSynchronized
  have hK1 := hK.1
  have hinX4 : ∀ w ∈ wsX40, w ∈ wsX4_holds := fun w h => List.mem_cons_of_mem _ (List.mem_append_left _ (List.mem_append_left _ (List.mem_append_left _ (List.mem_append_left _ (List.mem_append_left _ (List.mem_append_right _ h))))))
  have hinX3 : ∀ w ∈ wsX30, w ∈ wsX4_holds := fun w h => List.mem_cons_of_mem _ (List.mem_append_left _ (List.mem_append_left _ (List.mem_append_left _ (List.mem_append_left _ (List.mem_append_right _ h)))))
  have hinX0 : ∀ w ∈ wsX00, w ∈ wsX4_holds := fun w h => List.mem_cons_of_mem _ (List.mem_append_left _ (List.mem_append_left _ (List.mem_append_left _ (List.mem_append_right _ h))))
  have hinX2 : ∀ w ∈ wsX20, w ∈ wsX4_holds := fun w h => List.mem_cons_of_mem _ (List.mem_append_left _ (List.mem_append_left _ (List.mem_append_right _ h)))
  subst hsz
  have hS : va_S (kA a 29 s.heap.size) s.heap s.heap [] := va_S.rf
  have hl := lv_entry ([.ref (a 0), .int x]) (n := 2) (Nat.le_of_ble_eq_true rfl)
  rw [lg_entry_eq]
  generalize (lg_sl ([.ref (a 0), .int x]) ++ List.replicate (2 - (lg_sl ([.ref (a 0), .int x])).length) Slot.unset).toArray = ls at hl ⊢
  have hl : lv_has ls 2 [(0, .ref (a 0)), (1, .int x)] := hl
  refine W_Q (fun Q hQ => ?_)
  show W p l e ({ frames := 15, cells := 2, slots := 12, locals := 350 } : Room) s m ([.ref (a 0), .int x] : List Value).toArray below meth c s.heap [] 0 0 Q (F0 m 0 ls [])
  refine lv_aload_n hx hb dX4_holds_0 rfl (lv_at hl 0 rfl) ?_
  refine lv_iload_n hx hb dX4_holds_1 rfl (lv_at hl 1 rfl) ?_
  refine xcallxv (vx_runV (As := [.int x]) (rest := []) ⟨hx, hb, hml, hown, hts⟩ (c_X4_needFormula l hl0 D cs sa a M N _ hI nf x hfc (by omega)) (cwV 1 hts gX4_holds_X4_needFormula rfl rfl rfl (by decide +kernel) ⟨Nat.le_of_ble_eq_true rfl, Nat.le_of_ble_eq_true rfl⟩) (xpreVT hP hK hT hZ hS hS.1 (ci := 4) 0 rfl rfl) rfl rfl hl.1 rfl (lv_room (Nat.le_of_ble_eq_true rfl)) dX4_holds_2 ⟨Nat.le_of_ble_eq_true rfl, Nat.le_of_ble_eq_true rfl⟩) hS (kAle hS.1) (fun E ce q9 u9 H locs hXE hP hS hce hcv hcl => ?_) (fun u9 H locs hrel hP hS => ?_)
  ·
    obtain ⟨rfl, c2, hue⟩ := hXE
    rw [hue] at hP
    subst hQ
    exact xout (mc := 2) (ms := 12) htab hlocks hce hcv hcl ⟨(Or.inl ⟨rfl, by simp only [if_true, if_false, Bool.false_eq_true, decide_true, decide_false, c2]⟩), by first | exact TX_r | exact fun i x hi => TX_r i x (by omega)⟩ hP hS (Nat.le_of_ble_eq_true rfl) (Nat.le_of_ble_eq_true rfl)
  obtain ⟨c2, hue⟩ := hrel
  rw [hue] at hP
  clear hue
  refine W.widen (k := 1) (n := 6) (by decide) (by decide) ?_
  refine lv_aload_n hx hb dX4_holds_5 rfl (lv_at hl 0 rfl) ?_
  refine xcallxv (vx_runV (As := []) (rest := []) ⟨hx, hb, hml, hown, hts⟩ (c_X4_needSomeWorld l hl0 D cs sa a M N _ hI n hn (by omega)) (cwV 0 hts gX4_holds_X4_needSomeWorld rfl rfl rfl (by decide +kernel) ⟨Nat.le_of_ble_eq_true rfl, Nat.le_of_ble_eq_true rfl⟩) (xpreVT hP hK hT hZ hS hS.1 (ci := 4) 0 rfl rfl) rfl rfl hl.1 rfl (lv_room (Nat.le_of_ble_eq_true rfl)) dX4_holds_6 ⟨Nat.le_of_ble_eq_true rfl, Nat.le_of_ble_eq_true rfl⟩) hS (kAle hS.1) (fun E ce q9 u9 H locs hXE hP hS hce hcv hcl => ?_) (fun u9 H locs hrel hP hS => ?_)
  ·
    obtain ⟨rfl, c6, hue⟩ := hXE
    rw [hue] at hP
    subst hQ
    exact xout (mc := 2) (ms := 12) htab hlocks hce hcv hcl ⟨(Or.inr ⟨rfl, by simp only [if_true, if_false, Bool.false_eq_true, decide_true, decide_false, c2, c6]⟩), by first | exact TX_r | exact fun i x hi => TX_r i x (by omega)⟩ hP hS (Nat.le_of_ble_eq_true rfl) (Nat.le_of_ble_eq_true rfl)
  obtain ⟨c6, hue⟩ := hrel
  rw [hue] at hP
  clear hue
  refine W.widen (k := 2) (n := 12) (by decide) (by decide) ?_
  obtain ⟨hlt_x, heq_x⟩ := isIn_eq (by omega) c2
  have hl : lv_has ls 2 [(0, .ref (a 0)), (1, .int (nI x.toNatClampNeg))] := (lcons (lcons (lzero hl) hl 1 rfl (congrArg Value.int heq_x)) hl 0 rfl rfl)
  refine lv_aload_n hx hb dX4_holds_9 rfl (lv_at hl 0 rfl) ?_
  refine va_get (D := D) (ci := 4) (v := .ref (a 16)) (C := RX4) (T := TX4) (N := 4) hx hb hts hinX4 hown hK1 hP 0 rfl rfl 2 (by decide) (hts (.fieldLink RX4 28 "KnowledgeModel" "truth" "LKnowledgeModel$Truth;") (List.mem_of_getElem? (i := 1) rfl)) (fun _ h9 => h9) rfl dX4_holds_10 ?_
  refine lv_iload_n hx hb dX4_holds_13 rfl (lv_at hl 1 rfl) ?_
  refine xcallwi (va_runV (As := [.int (nI x.toNatClampNeg)]) (rest := []) ⟨hx, hb, hml, hown, hts⟩ (c_X2_worldsOf l D cs a M N _ hI n nf kd p1 p2 ns sb x.toNatClampNeg hn (by omega) hwf hf40 hlt_x) (cwV 1 hts gX4_holds_X2_worldsOf rfl rfl rfl (by decide +kernel) ⟨Nat.le_of_ble_eq_true rfl, Nat.le_of_ble_eq_true rfl⟩) (xpreVs hP hK (ci := 2) 16 rfl rfl) rfl rfl hl.1 rfl (lv_room (Nat.le_of_ble_eq_true rfl)) dX4_holds_14 ⟨Nat.le_of_ble_eq_true rfl, Nat.le_of_ble_eq_true rfl⟩) hS (kAle hS.1) (fun u_1 H locs hu_1 hP _ _ hS => ?_)
  have hP : va_P D vwCl (xc cs a u_1 N) H := hP
  have hk_2 : u_1 0 0 = nI n := by rw [hu_1 0 0 (by decide)]; exact hn
  have hk_3 : u_1 0 1 = nI act := by rw [hu_1 0 1 (by decide)]; exact hact
  have hk_4 : u_1 0 2 = nI nf := by rw [hu_1 0 2 (by decide)]; exact hfc
  refine lv_aload_n hx hb dX4_holds_17 rfl (lv_at hl 0 rfl) ?_
  refine va_get (D := D) (ci := 4) (v := .ref (a 1)) (C := RX4) (T := TX4) (N := 4) hx hb hts hinX4 hown hK1 hP 0 rfl rfl 0 (by decide) (hts (.fieldLink RX4 10 "KnowledgeModel" "worlds" "LKnowledgeModel$Worlds;") (List.mem_of_getElem? (i := 2) rfl)) (fun _ h9 => h9) rfl dX4_holds_18 ?_
  refine va_get (D := D) (ci := 3) (v := .int (u_1 0 1)) (C := RX3) (T := TX3) (N := 4) hx hb hts hinX3 hown hK1 hP 1 rfl rfl 3 (by decide) (hts (.fieldLink RX4 94 "KnowledgeModel$Worlds" "actualWorld" "I") (List.mem_of_getElem? (i := 3) rfl)) (fun _ h9 => h9) rfl dX4_holds_21 ?_
  refine xtop (y := nI act) (hk_3) ?_
  refine xcalli (va_runS (As := [.int (sem M n kd p1 p2 sb (sg n - nI 1) x.toNatClampNeg), .int (nI act)]) (rest := []) ⟨hx, hb, hml, hown, hts⟩ (c_X4_contains l (sem M n kd p1 p2 sb (sg n - nI 1) x.toNatClampNeg) act (by omega)) (va_cwS 2 hts gX4_holds_X4_contains rfl rfl rfl (by decide +kernel) ⟨Nat.le_of_ble_eq_true rfl, Nat.le_of_ble_eq_true rfl⟩) xpreN rfl rfl hl.1 rfl (lv_room (Nat.le_of_ble_eq_true rfl)) dX4_holds_24 ⟨Nat.le_of_ble_eq_true rfl, Nat.le_of_ble_eq_true rfl⟩) hS hP (fun H locs hP hS => ?_)
  subst hQ
  refine vx_ret ?_
  have hrel : (if (isIn nf x) = true then (if (!decide (n = 0)) = true then 0 else 2) else 1) = 0 ∧ (∀ i x, ¬ (12 ≤ i ∧ i < 15) → u_1 i x = M i x) := by refine ⟨by simp only [if_true, if_false, Bool.false_eq_true, decide_true, decide_false, c2, c6], ?_⟩; exact hu_1
  have hfin : (bI (bt (sem M n kd p1 p2 sb (sg n - nI 1) x.toNatClampNeg) act)) = bI (bt (sem M n kd p1 p2 sb (sg n - nI 1) x.toNatClampNeg) act) := by rfl
  exact W.zret (ty := .boolean) hx hb hr (bI_nar _) (fun t ht hW => ⟨⟨_, u_1, rfl, ⟨hfin, hrel⟩, by rw [← ht] at hP; exact hP⟩, hS.F ht⟩) hS.2.2 dX4_holds_27

theorem cutN_g {M v : Nat → Nat → Int32} {g set : Int32} {n q : Nat} (h : ∀ i x, ¬ (12 ≤ i ∧ i < 15) → v i x = M i x) (hq : q ≤ 4) : cutN v g set n q = cutN M g set n q := by
  unfold cutN
  refine fo_cong (fun i hi r => ?_)
  have : cutI v set i r n = cutI M set i r n := by
    unfold cutI
    exact fo_cong (fun w hw r => by rw [h (2 + i) w (by omega)])
  rw [this]

set_option maxHeartbeats 4000000 in
set_option maxRecDepth 100000 in
theorem c_X4_tell (l : Launch) (hl0 : l.stackTraces = false) (D : va_G) (cs sa : Nat → Nat) (a : Nat → Nat) (M : Nat → Nat → Int32) (N : Nat → Int64) (sz : Nat) (hI : kI a 29) (n : Nat) (nf : Nat) (kd : Nat → Nat) (p1 : Nat → Nat) (p2 : Nat → Nat) (ns : Nat → Nat) (sb : Nat → Nat) (g : Int32) (y : Int32) (hn : M 0 0 = nI n) (hn24 : n ≤ 24) (hfc : M 0 2 = nI nf) (hf40 : nf ≤ 40) (hwf : WFX M N nf kd p1 p2 ns sb) : vx_Met l yX4_tell wsX4_tell ({ frames := 15, cells := 2, slots := 12, locals := 350 } : Room) (va_Pc [.ref (a 0), .int g, .int y] (XBT D cs sa a (xc cs a M N) sz)) (va_Qi (fun r (u : Nat → Nat → Int32) => r = cutN M g (sem M n kd p1 p2 sb (sg n - nI 1) y.toNatClampNeg) n 4 ∧ (if (isIn nf y) = true then (if (isGr g) = true then 0 else 2) else 1) = 0 ∧ (∃ v, (∀ i x, ¬ (12 ≤ i ∧ i < 15) → v i x = M i x) ∧ u = cutC v g (sem M n kd p1 p2 sb (sg n - nI 1) y.toNatClampNeg) n 4 0)) (fun (u : Nat → Nat → Int32) t => va_P D vwCl (xc cs a u N) t.heap) (kA a 29 sz)) (XX D (fun u => xc cs a u N) (fun E u => (E = "java/lang/IndexOutOfBoundsException" ∧ (if (isIn nf y) = true then (if (isGr g) = true then 0 else 2) else 1) = 1 ∨ E = "java/lang/IllegalArgumentException" ∧ (if (isIn nf y) = true then (if (isGr g) = true then 0 else 2) else 1) = 2) ∧ TX M u) (kA a 29 sz)) 2 12 (kA a 29 sz) := by
  refine vx_ofW (cc := cX4_tell) (maxL := 3) (ret := (some .int)) (by decide) rfl ?_
  intro p e s m args below meth c s₁ B hml htab hv
  obtain ⟨rfl, hsz, hP, hK, hT, hZ⟩ := hv
  have hx := B.exec
  have hb := B.bytes
  have hr := B.returns
  have hts := atoms_spec (ws := wsX4_tell) B.pre
  have hown : s.vm.findClass RX4 = some m.cls := findClass_of_methodNamed B.named
  have hlocks := B.notSynchronized
  have hK1 := hK.1
  have hinX4 : ∀ w ∈ wsX40, w ∈ wsX4_tell := fun w h => List.mem_cons_of_mem _ (List.mem_append_left _ (List.mem_append_left _ (List.mem_append_left _ (List.mem_append_left _ (List.mem_append_left _ (List.mem_append_right _ h))))))
  have hinX0 : ∀ w ∈ wsX00, w ∈ wsX4_tell := fun w h => List.mem_cons_of_mem _ (List.mem_append_left _ (List.mem_append_left _ (List.mem_append_left _ (List.mem_append_left _ (List.mem_append_right _ h)))))
  have hinX2 : ∀ w ∈ wsX20, w ∈ wsX4_tell := fun w h => List.mem_cons_of_mem _ (List.mem_append_left _ (List.mem_append_left _ (List.mem_append_left _ (List.mem_append_right _ h))))
  have hinX3 : ∀ w ∈ wsX30, w ∈ wsX4_tell := fun w h => List.mem_cons_of_mem _ (List.mem_append_left _ (List.mem_append_left _ (List.mem_append_right _ h)))
  subst hsz
  have hS : va_S (kA a 29 s.heap.size) s.heap s.heap [] := va_S.rf
  have hl := lv_entry ([.ref (a 0), .int g, .int y]) (n := 3) (Nat.le_of_ble_eq_true rfl)
  rw [lg_entry_eq]
  generalize (lg_sl ([.ref (a 0), .int g, .int y]) ++ List.replicate (3 - (lg_sl ([.ref (a 0), .int g, .int y])).length) Slot.unset).toArray = ls at hl ⊢
  have hl : lv_has ls 3 [(0, .ref (a 0)), (1, .int g), (2, .int y)] := hl
  refine W_Q (fun Q hQ => ?_)
  show W p l e ({ frames := 15, cells := 2, slots := 12, locals := 350 } : Room) s m ([.ref (a 0), .int g, .int y] : List Value).toArray below meth c s.heap [] 0 0 Q (F0 m 0 ls [])
  refine lv_aload_n hx hb dX4_tell_0 rfl (lv_at hl 0 rfl) ?_
  refine lv_iload_n hx hb dX4_tell_1 rfl (lv_at hl 2 rfl) ?_
  refine xcallxv (vx_runV (As := [.int y]) (rest := []) ⟨hx, hb, hml, hown, hts⟩ (c_X4_needFormula l hl0 D cs sa a M N _ hI nf y hfc (by omega)) (cwV 1 hts gX4_tell_X4_needFormula rfl rfl rfl (by decide +kernel) ⟨Nat.le_of_ble_eq_true rfl, Nat.le_of_ble_eq_true rfl⟩) (xpreVT hP hK hT hZ hS hS.1 (ci := 4) 0 rfl rfl) rfl rfl hl.1 rfl (lv_room (Nat.le_of_ble_eq_true rfl)) dX4_tell_2 ⟨Nat.le_of_ble_eq_true rfl, Nat.le_of_ble_eq_true rfl⟩) hS (kAle hS.1) (fun E ce q9 u9 H locs hXE hP hS hce hcv hcl => ?_) (fun u9 H locs hrel hP hS => ?_)
  ·
    obtain ⟨rfl, c2, hue⟩ := hXE
    rw [hue] at hP
    subst hQ
    exact xout (mc := 2) (ms := 12) htab hlocks hce hcv hcl ⟨(Or.inl ⟨rfl, by simp only [if_true, if_false, Bool.false_eq_true, decide_true, decide_false, c2]⟩), by first | exact TX_r | exact fun i x hi => TX_r i x (by omega)⟩ hP hS (Nat.le_of_ble_eq_true rfl) (Nat.le_of_ble_eq_true rfl)
  obtain ⟨c2, hue⟩ := hrel
  rw [hue] at hP
  clear hue
  refine W.widen (k := 1) (n := 6) (by decide) (by decide) ?_
  refine lv_aload_n hx hb dX4_tell_5 rfl (lv_at hl 0 rfl) ?_
  refine lv_iload_n hx hb dX4_tell_6 rfl (lv_at hl 1 rfl) ?_
  refine xcallxv (vx_runV (As := [.int g]) (rest := []) ⟨hx, hb, hml, hown, hts⟩ (c_X4_needGroup l hl0 D cs sa a M N _ hI g) (cwV 1 hts gX4_tell_X4_needGroup rfl rfl rfl (by decide +kernel) ⟨Nat.le_of_ble_eq_true rfl, Nat.le_of_ble_eq_true rfl⟩) (xpreVT hP hK hT hZ hS hS.1 (ci := 4) 0 rfl rfl) rfl rfl hl.1 rfl (lv_room (Nat.le_of_ble_eq_true rfl)) dX4_tell_7 ⟨Nat.le_of_ble_eq_true rfl, Nat.le_of_ble_eq_true rfl⟩) hS (kAle hS.1) (fun E ce q9 u9 H locs hXE hP hS hce hcv hcl => ?_) (fun u9 H locs hrel hP hS => ?_)
  ·
    obtain ⟨rfl, c7, hue⟩ := hXE
    rw [hue] at hP
    subst hQ
    exact xout (mc := 2) (ms := 12) htab hlocks hce hcv hcl ⟨(Or.inr ⟨rfl, by simp only [if_true, if_false, Bool.false_eq_true, decide_true, decide_false, c2, c7]⟩), by first | exact TX_r | exact fun i x hi => TX_r i x (by omega)⟩ hP hS (Nat.le_of_ble_eq_true rfl) (Nat.le_of_ble_eq_true rfl)
  obtain ⟨c7, hue⟩ := hrel
  rw [hue] at hP
  clear hue
  refine W.widen (k := 2) (n := 12) (by decide) (by decide) ?_
  obtain ⟨hlt_y, heq_y⟩ := isIn_eq (by omega) c2
  have hl : lv_has ls 3 [(0, .ref (a 0)), (1, .int g), (2, .int (nI y.toNatClampNeg))] := (lcons (lcons (lcons (lzero hl) hl 2 rfl (congrArg Value.int heq_y)) hl 1 rfl rfl) hl 0 rfl rfl)
  refine lv_aload_n hx hb dX4_tell_10 rfl (lv_at hl 0 rfl) ?_
  refine va_get (D := D) (ci := 4) (v := .ref (a 1)) (C := RX4) (T := TX4) (N := 4) hx hb hts hinX4 hown hK1 hP 0 rfl rfl 0 (by decide) (hts (.fieldLink RX4 10 "KnowledgeModel" "worlds" "LKnowledgeModel$Worlds;") (List.mem_of_getElem? (i := 1) rfl)) (fun _ h9 => h9) rfl dX4_tell_11 ?_
  refine lv_iload_n hx hb dX4_tell_14 rfl (lv_at hl 1 rfl) ?_
  refine lv_aload_n hx hb dX4_tell_15 rfl (lv_at hl 0 rfl) ?_
  refine va_get (D := D) (ci := 4) (v := .ref (a 16)) (C := RX4) (T := TX4) (N := 4) hx hb hts hinX4 hown hK1 hP 0 rfl rfl 2 (by decide) (hts (.fieldLink RX4 28 "KnowledgeModel" "truth" "LKnowledgeModel$Truth;") (List.mem_of_getElem? (i := 2) rfl)) (fun _ h9 => h9) rfl dX4_tell_16 ?_
  refine lv_iload_n hx hb dX4_tell_19 rfl (lv_at hl 2 rfl) ?_
  refine xcallwi (va_runV (As := [.int (nI y.toNatClampNeg)]) (rest := [.int g, .ref (a 1)]) ⟨hx, hb, hml, hown, hts⟩ (c_X2_worldsOf l D cs a M N _ hI n nf kd p1 p2 ns sb y.toNatClampNeg hn (by omega) hwf hf40 hlt_y) (cwV 1 hts gX4_tell_X2_worldsOf rfl rfl rfl (by decide +kernel) ⟨Nat.le_of_ble_eq_true rfl, Nat.le_of_ble_eq_true rfl⟩) (xpreVs hP hK (ci := 2) 16 rfl rfl) rfl rfl hl.1 rfl (lv_room (Nat.le_of_ble_eq_true rfl)) dX4_tell_20 ⟨Nat.le_of_ble_eq_true rfl, Nat.le_of_ble_eq_true rfl⟩) hS (kAle hS.1) (fun u_1 H locs hu_1 hP _ _ hS => ?_)
  have hP : va_P D vwCl (xc cs a u_1 N) H := hP
  have hk_2 : u_1 0 0 = nI n := by rw [hu_1 0 0 (by decide)]; exact hn
  have hk_4 : u_1 0 2 = nI nf := by rw [hu_1 0 2 (by decide)]; exact hfc
  obtain ⟨set, hset⟩ : ∃ z, z = sem M n kd p1 p2 sb (sg n - nI 1) y.toNatClampNeg := ⟨_, rfl⟩
  refine xtop (y := set) hset.symm ?_
  have hTV : (∀ i x, ¬ (12 ≤ i ∧ i < 15) → u_1 i x = M i x) := hu_1
  refine xcallwi (va_runV (As := [.int g, .int set]) (rest := []) ⟨hx, hb, hml, hown, hts⟩ (c_X3_cutBetween l D cs a u_1 N _ hI n g set hk_2 (by omega)) (cwV 2 hts gX4_tell_X3_cutBetween rfl rfl rfl (by decide +kernel) ⟨Nat.le_of_ble_eq_true rfl, Nat.le_of_ble_eq_true rfl⟩) (xpreVs hP hK (ci := 3) 1 rfl rfl) rfl rfl hl.1 rfl (lv_room (Nat.le_of_ble_eq_true rfl)) dX4_tell_23 ⟨Nat.le_of_ble_eq_true rfl, Nat.le_of_ble_eq_true rfl⟩) hS (kAle hS.1) (fun u_5 H locs hu_5 hP _ _ hS => ?_)
  have hP : va_P D vwCl (xc cs a (cutC u_1 g set n 4 0) N) H := hP
  obtain ⟨M_6, hM_6⟩ : ∃ z, z = cutC u_1 g set n 4 0 := ⟨_, rfl⟩
  rw [← hM_6] at hP
  subst hQ
  refine vx_ret ?_
  have hrel : (if (isIn nf y) = true then (if (isGr g) = true then 0 else 2) else 1) = 0 ∧ (∃ v, (∀ i x, ¬ (12 ≤ i ∧ i < 15) → v i x = M i x) ∧ M_6 = cutC v g (sem M n kd p1 p2 sb (sg n - nI 1) y.toNatClampNeg) n 4 0) := by refine ⟨by simp only [if_true, if_false, Bool.false_eq_true, decide_true, decide_false, c2, c7, hset, hM_6], ?_⟩; exact ⟨_, hTV, by rw [← hset]; assumption⟩
  have hfin : (cutN u_1 g set n 4) = cutN M g (sem M n kd p1 p2 sb (sg n - nI 1) y.toNatClampNeg) n 4 := by rw [← hset]; exact cutN_g hTV (by decide)
  exact W.iret hx hb hr (fun t ht hW => ⟨⟨_, M_6, rfl, ⟨hfin, hrel⟩, by rw [← ht] at hP; exact hP⟩, hS.F ht⟩) hS.2.2 dX4_tell_26

set_option maxHeartbeats 4000000 in
set_option maxRecDepth 100000 in
theorem c_X4_announce (l : Launch) (hl0 : l.stackTraces = false) (D : va_G) (cs sa : Nat → Nat) (a : Nat → Nat) (M : Nat → Nat → Int32) (N : Nat → Int64) (sz : Nat) (hI : kI a 29) (n : Nat) (nf : Nat) (kd : Nat → Nat) (p1 : Nat → Nat) (p2 : Nat → Nat) (ns : Nat → Nat) (sb : Nat → Nat) (act : Nat) (x : Int32) (hn : M 0 0 = nI n) (hn24 : n ≤ 24) (hfc : M 0 2 = nI nf) (hf40 : nf ≤ 40) (hwf : WFX M N nf kd p1 p2 ns sb) (hact : M 0 1 = nI act) (ha24 : act < 24) : vx_Met l yX4_announce wsX4_announce ({ frames := 15, cells := 3, slots := 18, locals := 350 } : Room) (va_Pc [.ref (a 0), .int x] (XBT D cs sa a (xc cs a M N) sz)) (va_Qi (fun r (u : Nat → Nat → Int32) => r = (nI n - bc (sem M n kd p1 p2 sb (sg n - nI 1) x.toNatClampNeg)) ∧ (if (isIn nf x) = true then (if (!decide (n = 0) && bt (sem M n kd p1 p2 sb (sg n - nI 1) x.toNatClampNeg) act) = true then 0 else 2) else 1) = 0 ∧ (∃ v, (∀ i x, ¬ (12 ≤ i ∧ i < 15) → v i x = M i x) ∧ KeepF v n act (sem M n kd p1 p2 sb (sg n - nI 1) x.toNatClampNeg) u)) (fun (u : Nat → Nat → Int32) t => va_P D vwCl (xc cs a u N) t.heap) (kA a 29 sz)) (XX D (fun u => xc cs a u N) (fun E u => (E = "java/lang/IndexOutOfBoundsException" ∧ (if (isIn nf x) = true then (if (!decide (n = 0) && bt (sem M n kd p1 p2 sb (sg n - nI 1) x.toNatClampNeg) act) = true then 0 else 2) else 1) = 1 ∨ E = "java/lang/IllegalStateException" ∧ (if (isIn nf x) = true then (if (!decide (n = 0) && bt (sem M n kd p1 p2 sb (sg n - nI 1) x.toNatClampNeg) act) = true then 0 else 2) else 1) = 2) ∧ TX M u) (kA a 29 sz)) 3 18 (kA a 29 sz) := by
  refine vx_ofW (cc := cX4_announce) (maxL := 3) (ret := (some .int)) (by decide) rfl ?_
  intro p e s m args below meth c s₁ B hml htab hv
  obtain ⟨rfl, hsz, hP, hK, hT, hZ⟩ := hv
  have hx := B.exec
  have hb := B.bytes
  have hr := B.returns
  have hts := atoms_spec (ws := wsX4_announce) B.pre
  have hown : s.vm.findClass RX4 = some m.cls := findClass_of_methodNamed B.named
  have hlocks := B.notSynchronized
  have hK1 := hK.1
  have hinX4 : ∀ w ∈ wsX40, w ∈ wsX4_announce := fun w h => List.mem_cons_of_mem _ (List.mem_append_left _ (List.mem_append_left _ (List.mem_append_left _ (List.mem_append_left _ (List.mem_append_left _ (List.mem_append_right _ h))))))
  have hinX0 : ∀ w ∈ wsX00, w ∈ wsX4_announce := fun w h => List.mem_cons_of_mem _ (List.mem_append_left _ (List.mem_append_left _ (List.mem_append_left _ (List.mem_append_left _ (List.mem_append_right _ h)))))
  have hinX2 : ∀ w ∈ wsX20, w ∈ wsX4_announce := fun w h => List.mem_cons_of_mem _ (List.mem_append_left _ (List.mem_append_left _ (List.mem_append_left _ (List.mem_append_right _ h))))
  have hinX3 : ∀ w ∈ wsX30, w ∈ wsX4_announce := fun w h => List.mem_cons_of_mem _ (List.mem_append_left _ (List.mem_append_left _ (List.mem_append_right _ h)))
  subst hsz
  have hS : va_S (kA a 29 s.heap.size) s.heap s.heap [] := va_S.rf
  have hl := lv_entry ([.ref (a 0), .int x]) (n := 3) (Nat.le_of_ble_eq_true rfl)
  rw [lg_entry_eq]
  generalize (lg_sl ([.ref (a 0), .int x]) ++ List.replicate (3 - (lg_sl ([.ref (a 0), .int x])).length) Slot.unset).toArray = ls at hl ⊢
  have hl : lv_has ls 3 [(0, .ref (a 0)), (1, .int x)] := hl
  refine W_Q (fun Q hQ => ?_)
  show W p l e ({ frames := 15, cells := 3, slots := 18, locals := 350 } : Room) s m ([.ref (a 0), .int x] : List Value).toArray below meth c s.heap [] 0 0 Q (F0 m 0 ls [])
  refine lv_aload_n hx hb dX4_announce_0 rfl (lv_at hl 0 rfl) ?_
  refine lv_iload_n hx hb dX4_announce_1 rfl (lv_at hl 1 rfl) ?_
  refine xcallxv (vx_runV (As := [.int x]) (rest := []) ⟨hx, hb, hml, hown, hts⟩ (c_X4_needFormula l hl0 D cs sa a M N _ hI nf x hfc (by omega)) (cwV 1 hts gX4_announce_X4_needFormula rfl rfl rfl (by decide +kernel) ⟨Nat.le_of_ble_eq_true rfl, Nat.le_of_ble_eq_true rfl⟩) (xpreVT hP hK hT hZ hS hS.1 (ci := 4) 0 rfl rfl) rfl rfl hl.1 rfl (lv_room (Nat.le_of_ble_eq_true rfl)) dX4_announce_2 ⟨Nat.le_of_ble_eq_true rfl, Nat.le_of_ble_eq_true rfl⟩) hS (kAle hS.1) (fun E ce q9 u9 H locs hXE hP hS hce hcv hcl => ?_) (fun u9 H locs hrel hP hS => ?_)
  ·
    obtain ⟨rfl, c2, hue⟩ := hXE
    rw [hue] at hP
    subst hQ
    exact xout (mc := 3) (ms := 18) htab hlocks hce hcv hcl ⟨(Or.inl ⟨rfl, by first | (simp only [if_true, if_false, Bool.false_eq_true, decide_true, decide_false, c2]; done) | (rw [← hset]; simp only [if_true, if_false, Bool.false_eq_true, decide_true, decide_false, c2, c16])⟩), by first | exact TX_r | exact fun i x hi => TX_r i x (by omega)⟩ hP hS (Nat.le_of_ble_eq_true rfl) (Nat.le_of_ble_eq_true rfl)
  obtain ⟨c2, hue⟩ := hrel
  rw [hue] at hP
  clear hue
  refine W.widen (k := 1) (n := 6) (by decide) (by decide) ?_
  obtain ⟨hlt_x, heq_x⟩ := isIn_eq (by omega) c2
  have hl : lv_has ls 3 [(0, .ref (a 0)), (1, .int (nI x.toNatClampNeg))] := (lcons (lcons (lzero hl) hl 1 rfl (congrArg Value.int heq_x)) hl 0 rfl rfl)
  refine lv_aload_n hx hb dX4_announce_5 rfl (lv_at hl 0 rfl) ?_
  refine va_get (D := D) (ci := 4) (v := .ref (a 16)) (C := RX4) (T := TX4) (N := 4) hx hb hts hinX4 hown hK1 hP 0 rfl rfl 2 (by decide) (hts (.fieldLink RX4 28 "KnowledgeModel" "truth" "LKnowledgeModel$Truth;") (List.mem_of_getElem? (i := 1) rfl)) (fun _ h9 => h9) rfl dX4_announce_6 ?_
  refine lv_iload_n hx hb dX4_announce_9 rfl (lv_at hl 1 rfl) ?_
  refine xcallwi (va_runV (As := [.int (nI x.toNatClampNeg)]) (rest := []) ⟨hx, hb, hml, hown, hts⟩ (c_X2_worldsOf l D cs a M N _ hI n nf kd p1 p2 ns sb x.toNatClampNeg hn (by omega) hwf hf40 hlt_x) (cwV 1 hts gX4_announce_X2_worldsOf rfl rfl rfl (by decide +kernel) ⟨Nat.le_of_ble_eq_true rfl, Nat.le_of_ble_eq_true rfl⟩) (xpreVs hP hK (ci := 2) 16 rfl rfl) rfl rfl hl.1 rfl (lv_room (Nat.le_of_ble_eq_true rfl)) dX4_announce_10 ⟨Nat.le_of_ble_eq_true rfl, Nat.le_of_ble_eq_true rfl⟩) hS (kAle hS.1) (fun u_1 H locs hu_1 hP _ _ hS => ?_)
  have hP : va_P D vwCl (xc cs a u_1 N) H := hP
  have hk_2 : u_1 0 0 = nI n := by rw [hu_1 0 0 (by decide)]; exact hn
  have hk_3 : u_1 0 1 = nI act := by rw [hu_1 0 1 (by decide)]; exact hact
  have hk_4 : u_1 0 2 = nI nf := by rw [hu_1 0 2 (by decide)]; exact hfc
  obtain ⟨set, hset⟩ : ∃ z, z = sem M n kd p1 p2 sb (sg n - nI 1) x.toNatClampNeg := ⟨_, rfl⟩
  refine xtop (y := set) hset.symm ?_
  have hTV : (∀ i x, ¬ (12 ≤ i ∧ i < 15) → u_1 i x = M i x) := hu_1
  refine lv_istore_n (lv' := [(2, .int set), (0, .ref (a 0)), (1, .int (nI x.toNatClampNeg))]) hx hb dX4_announce_13 rfl hl (by decide) rfl (fun ls hl => ?_)
  refine lv_aload_n hx hb dX4_announce_14 rfl (lv_at hl 1 rfl) ?_
  refine lv_iload_n hx hb dX4_announce_15 rfl (lv_at hl 0 rfl) ?_
  refine xcallxv (vx_runV (As := [.int set]) (rest := []) ⟨hx, hb, hml, hown, hts⟩ (c_X4_needActualIn l hl0 D cs sa a u_1 N _ hI n act set hk_2 (by omega) hk_3 (by omega)) (cwV 1 hts gX4_announce_X4_needActualIn rfl rfl rfl (by decide +kernel) ⟨Nat.le_of_ble_eq_true rfl, Nat.le_of_ble_eq_true rfl⟩) (xpreVT hP hK hT hZ hS hS.1 (ci := 4) 0 rfl rfl) rfl rfl hl.1 rfl (lv_room (Nat.le_of_ble_eq_true rfl)) dX4_announce_16 ⟨Nat.le_of_ble_eq_true rfl, Nat.le_of_ble_eq_true rfl⟩) hS (kAle hS.1) (fun E ce q9 u9 H locs hXE hP hS hce hcv hcl => ?_) (fun u9 H locs hrel hP hS => ?_)
  ·
    obtain ⟨rfl, c16, hue⟩ := hXE
    rw [hue] at hP
    subst hQ
    exact xout (mc := 3) (ms := 18) htab hlocks hce hcv hcl ⟨(Or.inr ⟨rfl, by first | (simp only [if_true, if_false, Bool.false_eq_true, decide_true, decide_false, c2, hset, c16]; done) | (rw [← hset]; simp only [if_true, if_false, Bool.false_eq_true, decide_true, decide_false, c2, c16])⟩), by first | exact TX_r | exact fun i x hi => hu_1 i x (by omega)⟩ hP hS (Nat.le_of_ble_eq_true rfl) (Nat.le_of_ble_eq_true rfl)
  obtain ⟨c16, hue⟩ := hrel
  rw [hue] at hP
  clear hue
  refine W.widen (k := 3) (n := 18) (by decide) (by decide) ?_
  refine lv_aload_n hx hb dX4_announce_19 rfl (lv_at hl 1 rfl) ?_
  refine va_get (D := D) (ci := 4) (v := .ref (a 1)) (C := RX4) (T := TX4) (N := 4) hx hb hts hinX4 hown hK1 hP 0 rfl rfl 0 (by decide) (hts (.fieldLink RX4 10 "KnowledgeModel" "worlds" "LKnowledgeModel$Worlds;") (List.mem_of_getElem? (i := 2) rfl)) (fun _ h9 => h9) rfl dX4_announce_20 ?_
  refine lv_iload_n hx hb dX4_announce_23 rfl (lv_at hl 0 rfl) ?_
  refine xcallwi (va_runV (As := [.int set]) (rest := []) ⟨hx, hb, hml, hown, hts⟩ (c_X3_keepOnly l D cs a u_1 N _ hI n act set hk_2 (by omega) hk_3 (by omega)) (cwV 1 hts gX4_announce_X3_keepOnly rfl rfl rfl (by decide +kernel) ⟨Nat.le_of_ble_eq_true rfl, Nat.le_of_ble_eq_true rfl⟩) (xpreVs hP hK (ci := 3) 1 rfl rfl) rfl rfl hl.1 rfl (lv_room (Nat.le_of_ble_eq_true rfl)) dX4_announce_24 ⟨Nat.le_of_ble_eq_true rfl, Nat.le_of_ble_eq_true rfl⟩) hS (kAle hS.1) (fun u_5 H locs hu_5 hP _ _ hS => ?_)
  have hP : va_P D vwCl (xc cs a u_5 N) H := hP
  subst hQ
  refine vx_ret ?_
  have hrel : (if (isIn nf x) = true then (if (!decide (n = 0) && bt (sem M n kd p1 p2 sb (sg n - nI 1) x.toNatClampNeg) act) = true then 0 else 2) else 1) = 0 ∧ (∃ v, (∀ i x, ¬ (12 ≤ i ∧ i < 15) → v i x = M i x) ∧ KeepF v n act (sem M n kd p1 p2 sb (sg n - nI 1) x.toNatClampNeg) u_5) := by refine ⟨by first | (simp only [if_true, if_false, Bool.false_eq_true, decide_true, decide_false, c2, hset, c16]; done) | (rw [← hset]; simp only [if_true, if_false, Bool.false_eq_true, decide_true, decide_false, c2, c16]), ?_⟩; exact ⟨_, hTV, by rw [← hset]; exact hu_5⟩
  have hfin : (nI n - bc set) = (nI n - bc (sem M n kd p1 p2 sb (sg n - nI 1) x.toNatClampNeg)) := by rw [← hset]
  exact W.iret hx hb hr (fun t ht hW => ⟨⟨_, u_5, rfl, ⟨hfin, hrel⟩, by rw [← ht] at hP; exact hP⟩, hS.F ht⟩) hS.2.2 dX4_announce_27

set_option maxHeartbeats 4000000 in
set_option maxRecDepth 100000 in
theorem c_X4_contract (l : Launch) (D : va_G) (cs : Nat → ClassId) (a : Nat → Nat) (M : Nat → Nat → Int32) (N : Nat → Int64) (sz : Nat) (hI : kI a 29)  (n : Nat) (act : Nat)  (hn : M 0 0 = nI n) (hn24 : n ≤ 24) (hact : M 0 1 = nI act) (ha24 : act < 24) : Met l yX4_contract wsX4_contract ({ frames := 6, cells := 0, slots := 0, locals := 140 } : Room) (va_Pc [.ref (a 0)] (XBs D cs (xc cs a M N) sz)) (va_Qi (fun r (u : Nat → Nat → Int32) => r = u 0 0 ∧ (∃ v, FindF M n v ∧ MergF v n act u)) (fun (u : Nat → Nat → Int32) t => va_P D vwCl (xc cs a u N) t.heap) (kA a 29 sz)) 0 0 (kA a 29 sz) := by
  refine Met.ofW (cc := cX4_contract) (maxL := 1) (ret := (some .int)) (by decide) rfl ?_
  intro p e s m args below meth c s₁ B hml hv
  obtain ⟨rfl, hsz, hP, hK⟩ := hv
  have hx := B.exec
  have hb := B.bytes
  have hr := B.returns
  have hts := atoms_spec (ws := wsX4_contract) B.pre
  have hown : s.vm.findClass RX4 = some m.cls := findClass_of_methodNamed B.named
  have hlocks := B.notSynchronized
  have hK1 := hK.1
  have hinX4 : ∀ w ∈ wsX40, w ∈ wsX4_contract := fun w h => List.mem_cons_of_mem _ (List.mem_append_left _ (List.mem_append_left _ (List.mem_append_right _ h)))
  have hinX3 : ∀ w ∈ wsX30, w ∈ wsX4_contract := fun w h => List.mem_cons_of_mem _ (List.mem_append_left _ (List.mem_append_right _ h))
  have hinX1 : ∀ w ∈ wsX10, w ∈ wsX4_contract := fun w h => List.mem_cons_of_mem _ (List.mem_append_right _ h)
  subst hsz
  have hS : va_S (kA a 29 s.heap.size) s.heap s.heap [] := va_S.rf
  have hl := lv_entry ([.ref (a 0)]) (n := 1) (Nat.le_of_ble_eq_true rfl)
  rw [lg_entry_eq]
  generalize (lg_sl ([.ref (a 0)]) ++ List.replicate (1 - (lg_sl ([.ref (a 0)])).length) Slot.unset).toArray = ls at hl ⊢
  have hl : lv_has ls 1 [(0, .ref (a 0))] := hl
  refine W_Q (fun Q hQ => ?_)
  show W p l e ({ frames := 6, cells := 0, slots := 0, locals := 140 } : Room) s m ([.ref (a 0)] : List Value).toArray below meth c s.heap [] 0 0 Q (F0 m 0 ls [])
  refine lv_aload_n hx hb dX4_contract_0 rfl (lv_at hl 0 rfl) ?_
  refine va_get (D := D) (ci := 4) (v := .ref (a 21)) (C := RX4) (T := TX4) (N := 4) hx hb hts hinX4 hown hK1 hP 0 rfl rfl 3 (by decide) (hts (.fieldLink RX4 37 "KnowledgeModel" "likeness" "LKnowledgeModel$Likeness;") (List.mem_of_getElem? (i := 1) rfl)) (fun _ h9 => h9) rfl dX4_contract_1 ?_
  refine xcallwv (va_runV (As := []) (rest := []) ⟨hx, hb, hml, hown, hts⟩ (c_X1_findClasses l D cs a M N _ hI n hn (by omega)) (cwV 0 hts gX4_contract_X1_findClasses rfl rfl rfl (by decide +kernel) ⟨Nat.le_of_ble_eq_true rfl, Nat.le_of_ble_eq_true rfl⟩) (xpreVs hP hK (ci := 1) 21 rfl rfl) rfl rfl hl.1 rfl (lv_room (Nat.le_of_ble_eq_true rfl)) dX4_contract_4 ⟨Nat.le_of_ble_eq_true rfl, Nat.le_of_ble_eq_true rfl⟩) hS (kAle hS.1) (fun u_1 H locs hu_1 hP _ _ hS => ?_)
  have hP : va_P D vwCl (xc cs a u_1 N) H := hP
  have hk_2 : u_1 0 0 = nI n := by obtain ⟨k9, _, hk9, _⟩ := hu_1; rw [hk9.2.1 0 0 (by decide)]; exact hn
  have hk_3 : u_1 0 1 = nI act := by obtain ⟨k9, _, hk9, _⟩ := hu_1; rw [hk9.2.1 0 1 (by decide)]; exact hact
  refine lv_aload_n hx hb dX4_contract_7 rfl (lv_at hl 0 rfl) ?_
  refine va_get (D := D) (ci := 4) (v := .ref (a 1)) (C := RX4) (T := TX4) (N := 4) hx hb hts hinX4 hown hK1 hP 0 rfl rfl 0 (by decide) (hts (.fieldLink RX4 10 "KnowledgeModel" "worlds" "LKnowledgeModel$Worlds;") (List.mem_of_getElem? (i := 2) rfl)) (fun _ h9 => h9) rfl dX4_contract_8 ?_
  refine lv_aload_n hx hb dX4_contract_11 rfl (lv_at hl 0 rfl) ?_
  refine va_get (D := D) (ci := 4) (v := .ref (a 21)) (C := RX4) (T := TX4) (N := 4) hx hb hts hinX4 hown hK1 hP 0 rfl rfl 3 (by decide) (hts (.fieldLink RX4 37 "KnowledgeModel" "likeness" "LKnowledgeModel$Likeness;") (List.mem_of_getElem? (i := 1) rfl)) (fun _ h9 => h9) rfl dX4_contract_12 ?_
  refine xcallwv (va_runV (As := [.ref (a 21)]) (rest := []) ⟨hx, hb, hml, hown, hts⟩ (c_X3_mergeClasses l D cs a u_1 N _ hI n act hk_2 (by omega) hk_3 (by omega)) (cwV 1 hts gX4_contract_X3_mergeClasses rfl rfl rfl (by decide +kernel) ⟨Nat.le_of_ble_eq_true rfl, Nat.le_of_ble_eq_true rfl⟩) (xpreVs hP hK (ci := 3) 1 rfl rfl) rfl rfl hl.1 rfl (lv_room (Nat.le_of_ble_eq_true rfl)) dX4_contract_15 ⟨Nat.le_of_ble_eq_true rfl, Nat.le_of_ble_eq_true rfl⟩) hS (kAle hS.1) (fun u_5 H locs hu_5 hP _ _ hS => ?_)
  have hP : va_P D vwCl (xc cs a u_5 N) H := hP
  refine lv_aload_n hx hb dX4_contract_18 rfl (lv_at hl 0 rfl) ?_
  refine va_get (D := D) (ci := 4) (v := .ref (a 1)) (C := RX4) (T := TX4) (N := 4) hx hb hts hinX4 hown hK1 hP 0 rfl rfl 0 (by decide) (hts (.fieldLink RX4 10 "KnowledgeModel" "worlds" "LKnowledgeModel$Worlds;") (List.mem_of_getElem? (i := 2) rfl)) (fun _ h9 => h9) rfl dX4_contract_19 ?_
  refine va_get (D := D) (ci := 3) (v := .int (u_5 0 0)) (C := RX3) (T := TX3) (N := 4) hx hb hts hinX3 hown hK1 hP 1 rfl rfl 2 (by decide) (hts (.fieldLink RX4 45 "KnowledgeModel$Worlds" "count" "I") (List.mem_of_getElem? (i := 3) rfl)) (fun _ h9 => h9) rfl dX4_contract_22 ?_
  subst hQ
  have hrel : (∃ v, FindF M n v ∧ MergF v n act u_5) := by exact ⟨_, hu_1, hu_5⟩
  have hfin : (u_5 0 0) = u_5 0 0 := by rfl
  exact W.iret hx hb hr (fun t ht hW => ⟨⟨_, u_5, rfl, ⟨hfin, hrel⟩, by rw [← ht] at hP; exact hP⟩, hS.F ht⟩) hS.2.2 dX4_contract_25

set_option maxHeartbeats 4000000 in
set_option maxRecDepth 100000 in
theorem c_X4_prune (l : Launch) (D : va_G) (cs : Nat → ClassId) (a : Nat → Nat) (M : Nat → Nat → Int32) (N : Nat → Int64) (sz : Nat) (hI : kI a 29)  (n : Nat) (act : Nat)  (hn : M 0 0 = nI n) (hn24 : n ≤ 24) (hact : M 0 1 = nI act) (ha24 : act < 24) : Met l yX4_prune wsX4_prune ({ frames := 6, cells := 0, slots := 0, locals := 140 } : Room) (va_Pc [.ref (a 0)] (XBs D cs (xc cs a M N) sz)) (va_Qi (fun r (u : Nat → Nat → Int32) => r = (if n = 0 then nI 0 else nI n - bc (reachF M n (nI 15) act ||| sg act)) ∧ (if n = 0 then u = M else KeepF M n act (reachF M n (nI 15) act ||| sg act) u)) (fun (u : Nat → Nat → Int32) t => va_P D vwCl (xc cs a u N) t.heap) (kA a 29 sz)) 0 0 (kA a 29 sz) := by
  refine Met.ofW (cc := cX4_prune) (maxL := 2) (ret := (some .int)) (by decide) rfl ?_
  intro p e s m args below meth c s₁ B hml hv
  obtain ⟨rfl, hsz, hP, hK⟩ := hv
  have hx := B.exec
  have hb := B.bytes
  have hr := B.returns
  have hts := atoms_spec (ws := wsX4_prune) B.pre
  have hown : s.vm.findClass RX4 = some m.cls := findClass_of_methodNamed B.named
  have hlocks := B.notSynchronized
  have hK1 := hK.1
  have hinX4 : ∀ w ∈ wsX40, w ∈ wsX4_prune := fun w h => List.mem_cons_of_mem _ (List.mem_append_left _ (List.mem_append_right _ h))
  have hinX3 : ∀ w ∈ wsX30, w ∈ wsX4_prune := fun w h => List.mem_cons_of_mem _ (List.mem_append_right _ h)
  subst hsz
  have hS : va_S (kA a 29 s.heap.size) s.heap s.heap [] := va_S.rf
  have hl := lv_entry ([.ref (a 0)]) (n := 2) (Nat.le_of_ble_eq_true rfl)
  rw [lg_entry_eq]
  generalize (lg_sl ([.ref (a 0)]) ++ List.replicate (2 - (lg_sl ([.ref (a 0)])).length) Slot.unset).toArray = ls at hl ⊢
  have hl : lv_has ls 2 [(0, .ref (a 0))] := hl
  refine W_Q (fun Q hQ => ?_)
  show W p l e ({ frames := 6, cells := 0, slots := 0, locals := 140 } : Room) s m ([.ref (a 0)] : List Value).toArray below meth c s.heap [] 0 0 Q (F0 m 0 ls [])
  refine lv_aload_n hx hb dX4_prune_0 rfl (lv_at hl 0 rfl) ?_
  refine va_get (D := D) (ci := 4) (v := .ref (a 1)) (C := RX4) (T := TX4) (N := 4) hx hb hts hinX4 hown hK1 hP 0 rfl rfl 0 (by decide) (hts (.fieldLink RX4 10 "KnowledgeModel" "worlds" "LKnowledgeModel$Worlds;") (List.mem_of_getElem? (i := 1) rfl)) (fun _ h9 => h9) rfl dX4_prune_1 ?_
  refine va_get (D := D) (ci := 3) (v := .int (M 0 0)) (C := RX3) (T := TX3) (N := 4) hx hb hts hinX3 hown hK1 hP 1 rfl rfl 2 (by decide) (hts (.fieldLink RX4 45 "KnowledgeModel$Worlds" "count" "I") (List.mem_of_getElem? (i := 2) rfl)) (fun _ h9 => h9) rfl dX4_prune_4 ?_
  refine xtop (y := nI n) (hn) ?_
  refine lv_if_ne (tgt := 12) hx hb dX4_prune_7 (by decide) (fun c7 => ?_) (fun c7 => ?_)
  ·
    replace c7 : ¬ n = 0 := k0_net c7 (by omega)
    refine lv_aload_n hx hb dX4_prune_12 rfl (lv_at hl 0 rfl) ?_
    refine va_get (D := D) (ci := 4) (v := .ref (a 1)) (C := RX4) (T := TX4) (N := 4) hx hb hts hinX4 hown hK1 hP 0 rfl rfl 0 (by decide) (hts (.fieldLink RX4 10 "KnowledgeModel" "worlds" "LKnowledgeModel$Worlds;") (List.mem_of_getElem? (i := 1) rfl)) (fun _ h9 => h9) rfl dX4_prune_13 ?_
    refine va_get (D := D) (ci := 3) (v := .int (M 0 1)) (C := RX3) (T := TX3) (N := 4) hx hb hts hinX3 hown hK1 hP 1 rfl rfl 3 (by decide) (hts (.fieldLink RX4 94 "KnowledgeModel$Worlds" "actualWorld" "I") (List.mem_of_getElem? (i := 3) rfl)) (fun _ h9 => h9) rfl dX4_prune_16 ?_
    refine xtop (y := nI act) (hact) ?_
    refine lv_istore_n (lv' := [(1, .int (nI act)), (0, .ref (a 0))]) hx hb dX4_prune_19 rfl hl (by decide) rfl (fun ls hl => ?_)
    refine lv_aload_n hx hb dX4_prune_20 rfl (lv_at hl 1 rfl) ?_
    refine va_get (D := D) (ci := 4) (v := .ref (a 1)) (C := RX4) (T := TX4) (N := 4) hx hb hts hinX4 hown hK1 hP 0 rfl rfl 0 (by decide) (hts (.fieldLink RX4 10 "KnowledgeModel" "worlds" "LKnowledgeModel$Worlds;") (List.mem_of_getElem? (i := 1) rfl)) (fun _ h9 => h9) rfl dX4_prune_21 ?_
    refine lv_aload_n hx hb dX4_prune_24 rfl (lv_at hl 1 rfl) ?_
    refine va_get (D := D) (ci := 4) (v := .ref (a 1)) (C := RX4) (T := TX4) (N := 4) hx hb hts hinX4 hown hK1 hP 0 rfl rfl 0 (by decide) (hts (.fieldLink RX4 10 "KnowledgeModel" "worlds" "LKnowledgeModel$Worlds;") (List.mem_of_getElem? (i := 1) rfl)) (fun _ h9 => h9) rfl dX4_prune_25 ?_
    refine lv_bipush (v := (nI 15)) hx hb dX4_prune_28 (by decide) ?_
    refine lv_iload_n hx hb dX4_prune_30 rfl (lv_at hl 0 rfl) ?_
    refine xcalli (va_runV (As := [.int (nI 15), .int (nI act)]) (rest := [.ref (a 1)]) ⟨hx, hb, hml, hown, hts⟩ (c_X3_reachableFrom l D cs a M N n (nI 15) act (by omega) hn (by omega)) (cwV 2 hts gX4_prune_X3_reachableFrom rfl rfl rfl (by decide +kernel) ⟨Nat.le_of_ble_eq_true rfl, Nat.le_of_ble_eq_true rfl⟩) (xpreV hP hK (ci := 3) 1 rfl rfl) rfl rfl hl.1 rfl (lv_room (Nat.le_of_ble_eq_true rfl)) dX4_prune_31 ⟨Nat.le_of_ble_eq_true rfl, Nat.le_of_ble_eq_true rfl⟩) hS hP (fun H locs hP hS => ?_)
    refine lv_iload_n hx hb dX4_prune_34 rfl (lv_at hl 0 rfl) ?_
    refine xcalli (va_runS (As := [.int (nI act)]) (rest := [.int (reachF M n (nI 15) act), .ref (a 1)]) ⟨hx, hb, hml, hown, hts⟩ (c_X4_single l act) (va_cwS 1 hts gX4_prune_X4_single rfl rfl rfl (by decide +kernel) ⟨Nat.le_of_ble_eq_true rfl, Nat.le_of_ble_eq_true rfl⟩) xpreN rfl rfl hl.1 rfl (lv_room (Nat.le_of_ble_eq_true rfl)) dX4_prune_35 ⟨Nat.le_of_ble_eq_true rfl, Nat.le_of_ble_eq_true rfl⟩) hS hP (fun H locs hP hS => ?_)
    refine lv_ior hx hb dX4_prune_38 ?_
    refine xcallwi (va_runV (As := [.int ((reachF M n (nI 15) act) ||| (sg act))]) (rest := []) ⟨hx, hb, hml, hown, hts⟩ (c_X3_keepOnly l D cs a M N _ hI n act ((reachF M n (nI 15) act) ||| (sg act)) hn (by omega) hact (by omega)) (cwV 1 hts gX4_prune_X3_keepOnly rfl rfl rfl (by decide +kernel) ⟨Nat.le_of_ble_eq_true rfl, Nat.le_of_ble_eq_true rfl⟩) (xpreVs hP hK (ci := 3) 1 rfl rfl) rfl rfl hl.1 rfl (lv_room (Nat.le_of_ble_eq_true rfl)) dX4_prune_39 ⟨Nat.le_of_ble_eq_true rfl, Nat.le_of_ble_eq_true rfl⟩) hS (kAle hS.1) (fun u_1 H locs hu_1 hP _ _ hS => ?_)
    have hP : va_P D vwCl (xc cs a u_1 N) H := hP
    subst hQ
    have hrel : (if n = 0 then u_1 = M else KeepF M n act (reachF M n (nI 15) act ||| sg act) u_1) := by first | (rw [if_pos c7]; done) | (rw [if_neg c7]; exact hu_1)
    have hfin : (nI n - bc ((reachF M n (nI 15) act) ||| (sg act))) = (if n = 0 then nI 0 else nI n - bc (reachF M n (nI 15) act ||| sg act)) := by first | (rw [if_pos c7]; done) | (rw [if_neg c7]; done)
    exact W.iret hx hb hr (fun t ht hW => ⟨⟨_, u_1, rfl, ⟨hfin, hrel⟩, by rw [← ht] at hP; exact hP⟩, hS.F ht⟩) hS.2.2 dX4_prune_42
  ·
    replace c7 : n = 0 := k0_nef c7 (by omega)
    refine lv_iconst (v := (nI 0)) hx hb dX4_prune_10 (by decide) ?_
    subst hQ
    have hrel : (if n = 0 then M = M else KeepF M n act (reachF M n (nI 15) act ||| sg act) M) := by first | (rw [if_pos c7]; done) | (rw [if_neg c7]; exact trivial)
    have hfin : (nI 0) = (if n = 0 then nI 0 else nI n - bc (reachF M n (nI 15) act ||| sg act)) := by first | (rw [if_pos c7]; done) | (rw [if_neg c7]; done)
    exact W.iret hx hb hr (fun t ht hW => ⟨⟨_, M, rfl, ⟨hfin, hrel⟩, by rw [← ht] at hP; exact hP⟩, hS.F ht⟩) hS.2.2 dX4_prune_11

set_option maxHeartbeats 4000000 in
set_option maxRecDepth 100000 in
theorem c_X4_areAlike (l : Launch) (hl0 : l.stackTraces = false) (D : va_G) (cs sa : Nat → Nat) (a : Nat → Nat) (M : Nat → Nat → Int32) (N : Nat → Int64) (sz : Nat) (hI : kI a 29) (n : Nat) (x : Int32) (y : Int32) (hn : M 0 0 = nI n) (hn24 : n ≤ 24) : vx_Met l yX4_areAlike wsX4_areAlike ({ frames := 8, cells := 2, slots := 12, locals := 180 } : Room) (va_Pc [.ref (a 0), .int x, .int y] (XBT D cs sa a (xc cs a M N) sz)) (va_Qi (fun r (u : Nat → Nat → Int32) => r = bI (decide (u 15 x.toNatClampNeg = u 15 y.toNatClampNeg)) ∧ (if (isIn n x) = true then (if (isIn n y) = true then 0 else 1) else 1) = 0 ∧ FindF M n u) (fun (u : Nat → Nat → Int32) t => va_P D vwCl (xc cs a u N) t.heap) (kA a 29 sz)) (XX D (fun u => xc cs a u N) (fun E u => (E = "java/lang/IndexOutOfBoundsException" ∧ (if (isIn n x) = true then (if (isIn n y) = true then 0 else 1) else 1) = 1) ∧ TX M u) (kA a 29 sz)) 2 12 (kA a 29 sz) := by
  refine vx_ofW (cc := cX4_areAlike) (maxL := 3) (ret := (some .boolean)) (by decide) rfl ?_
  intro p e s m args below meth c s₁ B hml htab hv
  obtain ⟨rfl, hsz, hP, hK, hT, hZ⟩ := hv
  have hx := B.exec
  have hb := B.bytes
  have hr := B.returns
  have hts := atoms_spec (ws := wsX4_areAlike) B.pre
  have hown : s.vm.findClass RX4 = some m.cls := findClass_of_methodNamed B.named
  have hlocks := B.notSynchronized
  have hK1 := hK.1
  have hinX4 : ∀ w ∈ wsX40, w ∈ wsX4_areAlike := fun w h => List.mem_cons_of_mem _ (List.mem_append_left _ (List.mem_append_left _ (List.mem_append_left _ (List.mem_append_right _ h))))
  have hinX1 : ∀ w ∈ wsX10, w ∈ wsX4_areAlike := fun w h => List.mem_cons_of_mem _ (List.mem_append_left _ (List.mem_append_left _ (List.mem_append_right _ h)))
  have hinX3 : ∀ w ∈ wsX30, w ∈ wsX4_areAlike := fun w h => List.mem_cons_of_mem _ (List.mem_append_left _ (List.mem_append_right _ h))
  subst hsz
  have hS : va_S (kA a 29 s.heap.size) s.heap s.heap [] := va_S.rf
  have hl := lv_entry ([.ref (a 0), .int x, .int y]) (n := 3) (Nat.le_of_ble_eq_true rfl)
  rw [lg_entry_eq]
  generalize (lg_sl ([.ref (a 0), .int x, .int y]) ++ List.replicate (3 - (lg_sl ([.ref (a 0), .int x, .int y])).length) Slot.unset).toArray = ls at hl ⊢
  have hl : lv_has ls 3 [(0, .ref (a 0)), (1, .int x), (2, .int y)] := hl
  refine W_Q (fun Q hQ => ?_)
  show W p l e ({ frames := 8, cells := 2, slots := 12, locals := 180 } : Room) s m ([.ref (a 0), .int x, .int y] : List Value).toArray below meth c s.heap [] 0 0 Q (F0 m 0 ls [])
  refine lv_aload_n hx hb dX4_areAlike_0 rfl (lv_at hl 0 rfl) ?_
  refine lv_iload_n hx hb dX4_areAlike_1 rfl (lv_at hl 1 rfl) ?_
  refine xcallxv (vx_runV (As := [.int x]) (rest := []) ⟨hx, hb, hml, hown, hts⟩ (c_X4_needWorld l hl0 D cs sa a M N _ hI n x hn (by omega)) (cwV 1 hts gX4_areAlike_X4_needWorld rfl rfl rfl (by decide +kernel) ⟨Nat.le_of_ble_eq_true rfl, Nat.le_of_ble_eq_true rfl⟩) (xpreVT hP hK hT hZ hS hS.1 (ci := 4) 0 rfl rfl) rfl rfl hl.1 rfl (lv_room (Nat.le_of_ble_eq_true rfl)) dX4_areAlike_2 ⟨Nat.le_of_ble_eq_true rfl, Nat.le_of_ble_eq_true rfl⟩) hS (kAle hS.1) (fun E ce q9 u9 H locs hXE hP hS hce hcv hcl => ?_) (fun u9 H locs hrel hP hS => ?_)
  ·
    obtain ⟨rfl, c2, hue⟩ := hXE
    rw [hue] at hP
    subst hQ
    exact xout (mc := 2) (ms := 12) htab hlocks hce hcv hcl ⟨⟨rfl, by simp only [if_true, if_false, Bool.false_eq_true, decide_true, decide_false, c2]⟩, by first | exact TX_r | exact fun i x hi => TX_r i x (by omega)⟩ hP hS (Nat.le_of_ble_eq_true rfl) (Nat.le_of_ble_eq_true rfl)
  obtain ⟨c2, hue⟩ := hrel
  rw [hue] at hP
  clear hue
  refine W.widen (k := 1) (n := 6) (by decide) (by decide) ?_
  refine lv_aload_n hx hb dX4_areAlike_5 rfl (lv_at hl 0 rfl) ?_
  refine lv_iload_n hx hb dX4_areAlike_6 rfl (lv_at hl 2 rfl) ?_
  refine xcallxv (vx_runV (As := [.int y]) (rest := []) ⟨hx, hb, hml, hown, hts⟩ (c_X4_needWorld l hl0 D cs sa a M N _ hI n y hn (by omega)) (cwV 1 hts gX4_areAlike_X4_needWorld rfl rfl rfl (by decide +kernel) ⟨Nat.le_of_ble_eq_true rfl, Nat.le_of_ble_eq_true rfl⟩) (xpreVT hP hK hT hZ hS hS.1 (ci := 4) 0 rfl rfl) rfl rfl hl.1 rfl (lv_room (Nat.le_of_ble_eq_true rfl)) dX4_areAlike_7 ⟨Nat.le_of_ble_eq_true rfl, Nat.le_of_ble_eq_true rfl⟩) hS (kAle hS.1) (fun E ce q9 u9 H locs hXE hP hS hce hcv hcl => ?_) (fun u9 H locs hrel hP hS => ?_)
  ·
    obtain ⟨rfl, c7, hue⟩ := hXE
    rw [hue] at hP
    subst hQ
    exact xout (mc := 2) (ms := 12) htab hlocks hce hcv hcl ⟨⟨rfl, by simp only [if_true, if_false, Bool.false_eq_true, decide_true, decide_false, c2, c7]⟩, by first | exact TX_r | exact fun i x hi => TX_r i x (by omega)⟩ hP hS (Nat.le_of_ble_eq_true rfl) (Nat.le_of_ble_eq_true rfl)
  obtain ⟨c7, hue⟩ := hrel
  rw [hue] at hP
  clear hue
  refine W.widen (k := 2) (n := 12) (by decide) (by decide) ?_
  obtain ⟨hlt_x, heq_x⟩ := isIn_eq (by omega) c2
  have hl : lv_has ls 3 [(0, .ref (a 0)), (1, .int (nI x.toNatClampNeg)), (2, .int y)] := (lcons (lcons (lcons (lzero hl) hl 2 rfl rfl) hl 1 rfl (congrArg Value.int heq_x)) hl 0 rfl rfl)
  obtain ⟨hlt_y, heq_y⟩ := isIn_eq (by omega) c7
  have hl : lv_has ls 3 [(0, .ref (a 0)), (1, .int (nI x.toNatClampNeg)), (2, .int (nI y.toNatClampNeg))] := (lcons (lcons (lcons (lzero hl) hl 2 rfl (congrArg Value.int heq_y)) hl 1 rfl rfl) hl 0 rfl rfl)
  refine lv_aload_n hx hb dX4_areAlike_10 rfl (lv_at hl 0 rfl) ?_
  refine va_get (D := D) (ci := 4) (v := .ref (a 21)) (C := RX4) (T := TX4) (N := 4) hx hb hts hinX4 hown hK1 hP 0 rfl rfl 3 (by decide) (hts (.fieldLink RX4 37 "KnowledgeModel" "likeness" "LKnowledgeModel$Likeness;") (List.mem_of_getElem? (i := 1) rfl)) (fun _ h9 => h9) rfl dX4_areAlike_11 ?_
  refine xcallwv (va_runV (As := []) (rest := []) ⟨hx, hb, hml, hown, hts⟩ (c_X1_findClasses l D cs a M N _ hI n hn (by omega)) (cwV 0 hts gX4_areAlike_X1_findClasses rfl rfl rfl (by decide +kernel) ⟨Nat.le_of_ble_eq_true rfl, Nat.le_of_ble_eq_true rfl⟩) (xpreVs hP hK (ci := 1) 21 rfl rfl) rfl rfl hl.1 rfl (lv_room (Nat.le_of_ble_eq_true rfl)) dX4_areAlike_14 ⟨Nat.le_of_ble_eq_true rfl, Nat.le_of_ble_eq_true rfl⟩) hS (kAle hS.1) (fun u_1 H locs hu_1 hP _ _ hS => ?_)
  have hP : va_P D vwCl (xc cs a u_1 N) H := hP
  refine lv_aload_n hx hb dX4_areAlike_17 rfl (lv_at hl 0 rfl) ?_
  refine va_get (D := D) (ci := 4) (v := .ref (a 21)) (C := RX4) (T := TX4) (N := 4) hx hb hts hinX4 hown hK1 hP 0 rfl rfl 3 (by decide) (hts (.fieldLink RX4 37 "KnowledgeModel" "likeness" "LKnowledgeModel$Likeness;") (List.mem_of_getElem? (i := 1) rfl)) (fun _ h9 => h9) rfl dX4_areAlike_18 ?_
  refine va_get (D := D) (ci := 1) (v := .ref (a 22)) (C := RX1) (T := TX1) (N := 4) hx hb hts hinX1 hown hK1 hP 21 rfl rfl 1 (by decide) (hts (.fieldLink RX4 161 "KnowledgeModel$Likeness" "classOf" "[I") (List.mem_of_getElem? (i := 2) rfl)) (fun _ h9 => h9) rfl dX4_areAlike_21 ?_
  refine lv_iload_n hx hb dX4_areAlike_24 rfl (lv_at hl 1 rfl) ?_
  refine xiald (j := x.toNatClampNeg) (q0 := 22) (t0 := 0) hx hb hK1 hP rfl rfl (by omega) (by decide) dX4_areAlike_25 ?_
  refine lv_aload_n hx hb dX4_areAlike_26 rfl (lv_at hl 0 rfl) ?_
  refine va_get (D := D) (ci := 4) (v := .ref (a 21)) (C := RX4) (T := TX4) (N := 4) hx hb hts hinX4 hown hK1 hP 0 rfl rfl 3 (by decide) (hts (.fieldLink RX4 37 "KnowledgeModel" "likeness" "LKnowledgeModel$Likeness;") (List.mem_of_getElem? (i := 1) rfl)) (fun _ h9 => h9) rfl dX4_areAlike_27 ?_
  refine va_get (D := D) (ci := 1) (v := .ref (a 22)) (C := RX1) (T := TX1) (N := 4) hx hb hts hinX1 hown hK1 hP 21 rfl rfl 1 (by decide) (hts (.fieldLink RX4 161 "KnowledgeModel$Likeness" "classOf" "[I") (List.mem_of_getElem? (i := 2) rfl)) (fun _ h9 => h9) rfl dX4_areAlike_30 ?_
  refine lv_iload_n hx hb dX4_areAlike_33 rfl (lv_at hl 2 rfl) ?_
  refine xiald (j := y.toNatClampNeg) (q0 := 22) (t0 := 0) hx hb hK1 hP rfl rfl (by omega) (by decide) dX4_areAlike_34 ?_
  refine lv_icmp_ne (tgt := 42) hx hb dX4_areAlike_35 (by decide) (fun c35 => ?_) (fun c35 => ?_)
  ·
    refine lv_iconst (v := (nI 0)) hx hb dX4_areAlike_42 (by decide) ?_
    subst hQ
    refine vx_ret ?_
    have hrel : (if (isIn n x) = true then (if (isIn n y) = true then 0 else 1) else 1) = 0 ∧ FindF M n u_1 := by refine ⟨by simp only [if_true, if_false, Bool.false_eq_true, decide_true, decide_false, c2, c7, c35], ?_⟩; exact hu_1
    have hfin : (nI 0) = bI (decide (u_1 15 x.toNatClampNeg = u_1 15 y.toNatClampNeg)) := by first | (rw [decide_eq_true c35]; rfl) | (rw [decide_eq_false c35]; rfl)
    exact W.zret (ty := .boolean) hx hb hr (by decide) (fun t ht hW => ⟨⟨_, u_1, rfl, ⟨hfin, hrel⟩, by rw [← ht] at hP; exact hP⟩, hS.F ht⟩) hS.2.2 dX4_areAlike_43
  ·
    refine lv_iconst (v := (nI 1)) hx hb dX4_areAlike_38 (by decide) ?_
    refine lv_goto (tgt := 43) hx hb dX4_areAlike_39 (by decide) ?_
    subst hQ
    refine vx_ret ?_
    have hrel : (if (isIn n x) = true then (if (isIn n y) = true then 0 else 1) else 1) = 0 ∧ FindF M n u_1 := by refine ⟨by simp only [if_true, if_false, Bool.false_eq_true, decide_true, decide_false, c2, c7, c35], ?_⟩; exact hu_1
    have hfin : (nI 1) = bI (decide (u_1 15 x.toNatClampNeg = u_1 15 y.toNatClampNeg)) := by first | (rw [decide_eq_true c35]; rfl) | (rw [decide_eq_false c35]; rfl)
    exact W.zret (ty := .boolean) hx hb hr (by decide) (fun t ht hW => ⟨⟨_, u_1, rfl, ⟨hfin, hrel⟩, by rw [← ht] at hP; exact hP⟩, hS.F ht⟩) hS.2.2 dX4_areAlike_43

set_option maxHeartbeats 4000000 in
set_option maxRecDepth 100000 in
theorem c_X4_whisper (l : Launch) (hl0 : l.stackTraces = false) (D : va_G) (cs sa : Nat → Nat) (a : Nat → Nat) (M : Nat → Nat → Int32) (N : Nat → Int64) (sz : Nat) (hI : kI a 29) (n : Nat) (nf : Nat) (kd : Nat → Nat) (p1 : Nat → Nat) (p2 : Nat → Nat) (ns : Nat → Nat) (sb : Nat → Nat) (act : Nat) (g : Int32) (y : Int32) (hn : M 0 0 = nI n) (hn24 : n ≤ 24) (hfc : M 0 2 = nI nf) (hf40 : nf ≤ 40) (hwf : WFX M N nf kd p1 p2 ns sb) (hact : M 0 1 = nI act) (ha24 : act < 24) : vx_Met l yX4_whisper wsX4_whisper ({ frames := 15, cells := 5, slots := 30, locals := 350 } : Room) (va_Pc [.ref (a 0), .int g, .int y] (XBT D cs sa a (xc cs a M N) sz)) (va_Qi (fun r (u : Nat → Nat → Int32) => r = nI (n + rk (sem M n kd p1 p2 sb (sg n - nI 1) y.toNatClampNeg) n) ∧ (if (isIn nf y) = true then (if (isGr g) = true then (if (!decide (n = 0) && bt (sem M n kd p1 p2 sb (sg n - nI 1) y.toNatClampNeg) act) = true then (if (decide (n + fb_ct (bt (sem M n kd p1 p2 sb (sg n - nI 1) y.toNatClampNeg)) 32 ≤ 24)) = true then 0 else 3) else 3) else 2) else 1) = 0 ∧ (∃ v, (∀ i x, ¬ (12 ≤ i ∧ i < 15) → v i x = M i x) ∧ CopyF v n act g (sem M n kd p1 p2 sb (sg n - nI 1) y.toNatClampNeg) u)) (fun (u : Nat → Nat → Int32) t => va_P D vwCl (xc cs a u N) t.heap) (kA a 29 sz)) (XX D (fun u => xc cs a u N) (fun E u => (E = "java/lang/IndexOutOfBoundsException" ∧ (if (isIn nf y) = true then (if (isGr g) = true then (if (!decide (n = 0) && bt (sem M n kd p1 p2 sb (sg n - nI 1) y.toNatClampNeg) act) = true then (if (decide (n + fb_ct (bt (sem M n kd p1 p2 sb (sg n - nI 1) y.toNatClampNeg)) 32 ≤ 24)) = true then 0 else 3) else 3) else 2) else 1) = 1 ∨ E = "java/lang/IllegalArgumentException" ∧ (if (isIn nf y) = true then (if (isGr g) = true then (if (!decide (n = 0) && bt (sem M n kd p1 p2 sb (sg n - nI 1) y.toNatClampNeg) act) = true then (if (decide (n + fb_ct (bt (sem M n kd p1 p2 sb (sg n - nI 1) y.toNatClampNeg)) 32 ≤ 24)) = true then 0 else 3) else 3) else 2) else 1) = 2 ∨ E = "java/lang/IllegalStateException" ∧ (if (isIn nf y) = true then (if (isGr g) = true then (if (!decide (n = 0) && bt (sem M n kd p1 p2 sb (sg n - nI 1) y.toNatClampNeg) act) = true then (if (decide (n + fb_ct (bt (sem M n kd p1 p2 sb (sg n - nI 1) y.toNatClampNeg)) 32 ≤ 24)) = true then 0 else 3) else 3) else 2) else 1) = 3) ∧ TX M u) (kA a 29 sz)) 5 30 (kA a 29 sz) := by
  refine vx_ofW (cc := cX4_whisper) (maxL := 4) (ret := (some .int)) (by decide) rfl ?_
  intro p e s m args below meth c s₁ B hml htab hv
  obtain ⟨rfl, hsz, hP, hK, hT, hZ⟩ := hv
  have hx := B.exec
  have hb := B.bytes
  have hr := B.returns
  have hts := atoms_spec (ws := wsX4_whisper) B.pre
  have hown : s.vm.findClass RX4 = some m.cls := findClass_of_methodNamed B.named
  have hlocks := B.notSynchronized
  have hK1 := hK.1
  have hinX4 : ∀ w ∈ wsX40, w ∈ wsX4_whisper := fun w h => List.mem_cons_of_mem _ (List.mem_append_left _ (List.mem_append_left _ (List.mem_append_left _ (List.mem_append_left _ (List.mem_append_left _ (List.mem_append_left _ (List.mem_append_right _ h)))))))
  have hinX3 : ∀ w ∈ wsX30, w ∈ wsX4_whisper := fun w h => List.mem_cons_of_mem _ (List.mem_append_left _ (List.mem_append_left _ (List.mem_append_left _ (List.mem_append_left _ (List.mem_append_left _ (List.mem_append_right _ h))))))
  have hinX0 : ∀ w ∈ wsX00, w ∈ wsX4_whisper := fun w h => List.mem_cons_of_mem _ (List.mem_append_left _ (List.mem_append_left _ (List.mem_append_left _ (List.mem_append_left _ (List.mem_append_right _ h)))))
  have hinX2 : ∀ w ∈ wsX20, w ∈ wsX4_whisper := fun w h => List.mem_cons_of_mem _ (List.mem_append_left _ (List.mem_append_left _ (List.mem_append_left _ (List.mem_append_right _ h))))
  subst hsz
  have hS : va_S (kA a 29 s.heap.size) s.heap s.heap [] := va_S.rf
  have hl := lv_entry ([.ref (a 0), .int g, .int y]) (n := 4) (Nat.le_of_ble_eq_true rfl)
  rw [lg_entry_eq]
  generalize (lg_sl ([.ref (a 0), .int g, .int y]) ++ List.replicate (4 - (lg_sl ([.ref (a 0), .int g, .int y])).length) Slot.unset).toArray = ls at hl ⊢
  have hl : lv_has ls 4 [(0, .ref (a 0)), (1, .int g), (2, .int y)] := hl
  refine W_Q (fun Q hQ => ?_)
  show W p l e ({ frames := 15, cells := 5, slots := 30, locals := 350 } : Room) s m ([.ref (a 0), .int g, .int y] : List Value).toArray below meth c s.heap [] 0 0 Q (F0 m 0 ls [])
  refine lv_aload_n hx hb dX4_whisper_0 rfl (lv_at hl 0 rfl) ?_
  refine lv_iload_n hx hb dX4_whisper_1 rfl (lv_at hl 2 rfl) ?_
  refine xcallxv (vx_runV (As := [.int y]) (rest := []) ⟨hx, hb, hml, hown, hts⟩ (c_X4_needFormula l hl0 D cs sa a M N _ hI nf y hfc (by omega)) (cwV 1 hts gX4_whisper_X4_needFormula rfl rfl rfl (by decide +kernel) ⟨Nat.le_of_ble_eq_true rfl, Nat.le_of_ble_eq_true rfl⟩) (xpreVT hP hK hT hZ hS hS.1 (ci := 4) 0 rfl rfl) rfl rfl hl.1 rfl (lv_room (Nat.le_of_ble_eq_true rfl)) dX4_whisper_2 ⟨Nat.le_of_ble_eq_true rfl, Nat.le_of_ble_eq_true rfl⟩) hS (kAle hS.1) (fun E ce q9 u9 H locs hXE hP hS hce hcv hcl => ?_) (fun u9 H locs hrel hP hS => ?_)
  ·
    obtain ⟨rfl, c2, hue⟩ := hXE
    rw [hue] at hP
    subst hQ
    exact xout (mc := 5) (ms := 30) htab hlocks hce hcv hcl ⟨(Or.inl ⟨rfl, by first | (simp only [if_true, if_false, Bool.false_eq_true, decide_true, decide_false, c2]; done) | (rw [← hset]; simp only [if_true, if_false, Bool.false_eq_true, decide_true, decide_false, c2, c7, c21]; done) | (rw [← hset] at d38 ⊢; simp only [if_true, if_false, Bool.false_eq_true, decide_true, decide_false, c2, c7, c21, d38]; done)⟩), by first | exact TX_r | exact fun i x hi => TX_r i x (by omega)⟩ hP hS (Nat.le_of_ble_eq_true rfl) (Nat.le_of_ble_eq_true rfl)
  obtain ⟨c2, hue⟩ := hrel
  rw [hue] at hP
  clear hue
  refine W.widen (k := 1) (n := 6) (by decide) (by decide) ?_
  refine lv_aload_n hx hb dX4_whisper_5 rfl (lv_at hl 0 rfl) ?_
  refine lv_iload_n hx hb dX4_whisper_6 rfl (lv_at hl 1 rfl) ?_
  refine xcallxv (vx_runV (As := [.int g]) (rest := []) ⟨hx, hb, hml, hown, hts⟩ (c_X4_needGroup l hl0 D cs sa a M N _ hI g) (cwV 1 hts gX4_whisper_X4_needGroup rfl rfl rfl (by decide +kernel) ⟨Nat.le_of_ble_eq_true rfl, Nat.le_of_ble_eq_true rfl⟩) (xpreVT hP hK hT hZ hS hS.1 (ci := 4) 0 rfl rfl) rfl rfl hl.1 rfl (lv_room (Nat.le_of_ble_eq_true rfl)) dX4_whisper_7 ⟨Nat.le_of_ble_eq_true rfl, Nat.le_of_ble_eq_true rfl⟩) hS (kAle hS.1) (fun E ce q9 u9 H locs hXE hP hS hce hcv hcl => ?_) (fun u9 H locs hrel hP hS => ?_)
  ·
    obtain ⟨rfl, c7, hue⟩ := hXE
    rw [hue] at hP
    subst hQ
    exact xout (mc := 5) (ms := 30) htab hlocks hce hcv hcl ⟨(Or.inr (Or.inl ⟨rfl, by first | (simp only [if_true, if_false, Bool.false_eq_true, decide_true, decide_false, c2, c7]; done) | (rw [← hset]; simp only [if_true, if_false, Bool.false_eq_true, decide_true, decide_false, c2, c7, c21]; done) | (rw [← hset] at d38 ⊢; simp only [if_true, if_false, Bool.false_eq_true, decide_true, decide_false, c2, c7, c21, d38]; done)⟩)), by first | exact TX_r | exact fun i x hi => TX_r i x (by omega)⟩ hP hS (Nat.le_of_ble_eq_true rfl) (Nat.le_of_ble_eq_true rfl)
  obtain ⟨c7, hue⟩ := hrel
  rw [hue] at hP
  clear hue
  refine W.widen (k := 2) (n := 12) (by decide) (by decide) ?_
  obtain ⟨hlt_y, heq_y⟩ := isIn_eq (by omega) c2
  have hl : lv_has ls 4 [(0, .ref (a 0)), (1, .int g), (2, .int (nI y.toNatClampNeg))] := (lcons (lcons (lcons (lzero hl) hl 2 rfl (congrArg Value.int heq_y)) hl 1 rfl rfl) hl 0 rfl rfl)
  refine lv_aload_n hx hb dX4_whisper_10 rfl (lv_at hl 0 rfl) ?_
  refine va_get (D := D) (ci := 4) (v := .ref (a 16)) (C := RX4) (T := TX4) (N := 4) hx hb hts hinX4 hown hK1 hP 0 rfl rfl 2 (by decide) (hts (.fieldLink RX4 28 "KnowledgeModel" "truth" "LKnowledgeModel$Truth;") (List.mem_of_getElem? (i := 3) rfl)) (fun _ h9 => h9) rfl dX4_whisper_11 ?_
  refine lv_iload_n hx hb dX4_whisper_14 rfl (lv_at hl 2 rfl) ?_
  refine xcallwi (va_runV (As := [.int (nI y.toNatClampNeg)]) (rest := []) ⟨hx, hb, hml, hown, hts⟩ (c_X2_worldsOf l D cs a M N _ hI n nf kd p1 p2 ns sb y.toNatClampNeg hn (by omega) hwf hf40 hlt_y) (cwV 1 hts gX4_whisper_X2_worldsOf rfl rfl rfl (by decide +kernel) ⟨Nat.le_of_ble_eq_true rfl, Nat.le_of_ble_eq_true rfl⟩) (xpreVs hP hK (ci := 2) 16 rfl rfl) rfl rfl hl.1 rfl (lv_room (Nat.le_of_ble_eq_true rfl)) dX4_whisper_15 ⟨Nat.le_of_ble_eq_true rfl, Nat.le_of_ble_eq_true rfl⟩) hS (kAle hS.1) (fun u_1 H locs hu_1 hP _ _ hS => ?_)
  have hP : va_P D vwCl (xc cs a u_1 N) H := hP
  have hk_2 : u_1 0 0 = nI n := by rw [hu_1 0 0 (by decide)]; exact hn
  have hk_3 : u_1 0 1 = nI act := by rw [hu_1 0 1 (by decide)]; exact hact
  have hk_4 : u_1 0 2 = nI nf := by rw [hu_1 0 2 (by decide)]; exact hfc
  obtain ⟨set, hset⟩ : ∃ z, z = sem M n kd p1 p2 sb (sg n - nI 1) y.toNatClampNeg := ⟨_, rfl⟩
  refine xtop (y := set) hset.symm ?_
  have hTV : (∀ i x, ¬ (12 ≤ i ∧ i < 15) → u_1 i x = M i x) := hu_1
  refine lv_istore_n (lv' := [(3, .int set), (0, .ref (a 0)), (1, .int g), (2, .int (nI y.toNatClampNeg))]) hx hb dX4_whisper_18 rfl hl (by decide) rfl (fun ls hl => ?_)
  refine lv_aload_n hx hb dX4_whisper_19 rfl (lv_at hl 1 rfl) ?_
  refine lv_iload_n hx hb dX4_whisper_20 rfl (lv_at hl 0 rfl) ?_
  refine xcallxv (vx_runV (As := [.int set]) (rest := []) ⟨hx, hb, hml, hown, hts⟩ (c_X4_needActualIn l hl0 D cs sa a u_1 N _ hI n act set hk_2 (by omega) hk_3 (by omega)) (cwV 1 hts gX4_whisper_X4_needActualIn rfl rfl rfl (by decide +kernel) ⟨Nat.le_of_ble_eq_true rfl, Nat.le_of_ble_eq_true rfl⟩) (xpreVT hP hK hT hZ hS hS.1 (ci := 4) 0 rfl rfl) rfl rfl hl.1 rfl (lv_room (Nat.le_of_ble_eq_true rfl)) dX4_whisper_21 ⟨Nat.le_of_ble_eq_true rfl, Nat.le_of_ble_eq_true rfl⟩) hS (kAle hS.1) (fun E ce q9 u9 H locs hXE hP hS hce hcv hcl => ?_) (fun u9 H locs hrel hP hS => ?_)
  ·
    obtain ⟨rfl, c21, hue⟩ := hXE
    rw [hue] at hP
    subst hQ
    exact xout (mc := 5) (ms := 30) htab hlocks hce hcv hcl ⟨(Or.inr (Or.inr ⟨rfl, by first | (simp only [if_true, if_false, Bool.false_eq_true, decide_true, decide_false, c2, c7, hset, c21]; done) | (rw [← hset]; simp only [if_true, if_false, Bool.false_eq_true, decide_true, decide_false, c2, c7, c21]; done) | (rw [← hset] at d38 ⊢; simp only [if_true, if_false, Bool.false_eq_true, decide_true, decide_false, c2, c7, c21, d38]; done)⟩)), by first | exact TX_r | exact fun i x hi => hu_1 i x (by omega)⟩ hP hS (Nat.le_of_ble_eq_true rfl) (Nat.le_of_ble_eq_true rfl)
  obtain ⟨c21, hue⟩ := hrel
  rw [hue] at hP
  clear hue
  refine W.widen (k := 4) (n := 24) (by decide) (by decide) ?_
  refine lv_aload_n hx hb dX4_whisper_24 rfl (lv_at hl 1 rfl) ?_
  refine va_get (D := D) (ci := 4) (v := .ref (a 1)) (C := RX4) (T := TX4) (N := 4) hx hb hts hinX4 hown hK1 hP 0 rfl rfl 0 (by decide) (hts (.fieldLink RX4 10 "KnowledgeModel" "worlds" "LKnowledgeModel$Worlds;") (List.mem_of_getElem? (i := 4) rfl)) (fun _ h9 => h9) rfl dX4_whisper_25 ?_
  refine va_get (D := D) (ci := 3) (v := .int (u_1 0 0)) (C := RX3) (T := TX3) (N := 4) hx hb hts hinX3 hown hK1 hP 1 rfl rfl 2 (by decide) (hts (.fieldLink RX4 45 "KnowledgeModel$Worlds" "count" "I") (List.mem_of_getElem? (i := 5) rfl)) (fun _ h9 => h9) rfl dX4_whisper_28 ?_
  refine xtop (y := nI n) (hk_2) ?_
  have hct := fb_ct_le (bt set) 32
  refine lv_iload_n hx hb dX4_whisper_31 rfl (lv_at hl 0 rfl) ?_
  refine xcalli (va_runS (As := [.int set]) (rest := [.int (nI n)]) ⟨hx, hb, hml, hown, hts⟩ (c_J6_bitCount_0f7a4 l set) (va_cwS 1 hts gX4_whisper_J6_bitCount_0f7a4 rfl rfl rfl (by decide +kernel) ⟨Nat.le_of_ble_eq_true rfl, Nat.le_of_ble_eq_true rfl⟩) xpreN rfl rfl hl.1 rfl (lv_room (Nat.le_of_ble_eq_true rfl)) dX4_whisper_32 ⟨Nat.le_of_ble_eq_true rfl, Nat.le_of_ble_eq_true rfl⟩) hS hP (fun H locs hP hS => ?_)
  refine xtop (y := (nI (fb_ct (bt set) 32))) (by exact bc_ct set) ?_
  refine xiadd hx hb dX4_whisper_35 ?_
  refine lv_bipush (v := (nI 24)) hx hb dX4_whisper_36 (by decide) ?_
  refine lv_icmp_le (tgt := 51) hx hb dX4_whisper_38 (by decide) (fun c38 => ?_) (fun c38 => ?_)
  ·
    replace c38 : (n + (fb_ct (bt set) 32)) ≤ 24 := k_let c38 (by omega) (by omega)
    have d38 : decide (n + fb_ct (bt (sem M n kd p1 p2 sb (sg n - nI 1) y.toNatClampNeg)) 32 ≤ 24) = true := by rw [← hset]; exact decide_eq_true (by omega)
    have hr32 := rk_32 set (show n ≤ 32 by omega)
    refine lv_aload_n hx hb dX4_whisper_51 rfl (lv_at hl 1 rfl) ?_
    refine va_get (D := D) (ci := 4) (v := .ref (a 1)) (C := RX4) (T := TX4) (N := 4) hx hb hts hinX4 hown hK1 hP 0 rfl rfl 0 (by decide) (hts (.fieldLink RX4 10 "KnowledgeModel" "worlds" "LKnowledgeModel$Worlds;") (List.mem_of_getElem? (i := 4) rfl)) (fun _ h9 => h9) rfl dX4_whisper_52 ?_
    refine lv_iload_n hx hb dX4_whisper_55 rfl (lv_at hl 2 rfl) ?_
    refine lv_iload_n hx hb dX4_whisper_56 rfl (lv_at hl 0 rfl) ?_
    refine xcallwv (va_runV (As := [.int g, .int set]) (rest := []) ⟨hx, hb, hml, hown, hts⟩ (c_X3_copyFor l D cs a u_1 N _ hI n act g set hk_2 (by omega) hk_3 (by omega) (by omega)) (cwV 2 hts gX4_whisper_X3_copyFor rfl rfl rfl (by decide +kernel) ⟨Nat.le_of_ble_eq_true rfl, Nat.le_of_ble_eq_true rfl⟩) (xpreVs hP hK (ci := 3) 1 rfl rfl) rfl rfl hl.1 rfl (lv_room (Nat.le_of_ble_eq_true rfl)) dX4_whisper_57 ⟨Nat.le_of_ble_eq_true rfl, Nat.le_of_ble_eq_true rfl⟩) hS (kAle hS.1) (fun u_5 H locs hu_5 hP _ _ hS => ?_)
    have hP : va_P D vwCl (xc cs a u_5 N) H := hP
    have hk_6 : u_5 0 0 = nI (n + rk set n) := by obtain ⟨v9, hv9, hu9⟩ := hu_5; rw [hu9]; exact (wr_ne (Or.inr (by decide))).trans hv9.1
    refine lv_aload_n hx hb dX4_whisper_60 rfl (lv_at hl 1 rfl) ?_
    refine va_get (D := D) (ci := 4) (v := .ref (a 1)) (C := RX4) (T := TX4) (N := 4) hx hb hts hinX4 hown hK1 hP 0 rfl rfl 0 (by decide) (hts (.fieldLink RX4 10 "KnowledgeModel" "worlds" "LKnowledgeModel$Worlds;") (List.mem_of_getElem? (i := 4) rfl)) (fun _ h9 => h9) rfl dX4_whisper_61 ?_
    refine va_get (D := D) (ci := 3) (v := .int (u_5 0 0)) (C := RX3) (T := TX3) (N := 4) hx hb hts hinX3 hown hK1 hP 1 rfl rfl 2 (by decide) (hts (.fieldLink RX4 45 "KnowledgeModel$Worlds" "count" "I") (List.mem_of_getElem? (i := 5) rfl)) (fun _ h9 => h9) rfl dX4_whisper_64 ?_
    refine xtop (y := nI (n + rk set n)) (hk_6) ?_
    subst hQ
    refine W.widen (k := 5) (n := 30) (by decide) (by decide) ?_
    refine vx_ret ?_
    have hrel : (if (isIn nf y) = true then (if (isGr g) = true then (if (!decide (n = 0) && bt (sem M n kd p1 p2 sb (sg n - nI 1) y.toNatClampNeg) act) = true then (if (decide (n + fb_ct (bt (sem M n kd p1 p2 sb (sg n - nI 1) y.toNatClampNeg)) 32 ≤ 24)) = true then 0 else 3) else 3) else 2) else 1) = 0 ∧ (∃ v, (∀ i x, ¬ (12 ≤ i ∧ i < 15) → v i x = M i x) ∧ CopyF v n act g (sem M n kd p1 p2 sb (sg n - nI 1) y.toNatClampNeg) u_5) := by refine ⟨by first | (simp only [if_true, if_false, Bool.false_eq_true, decide_true, decide_false, c2, c7, hset, c21, c38, d38]; done) | (rw [← hset]; simp only [if_true, if_false, Bool.false_eq_true, decide_true, decide_false, c2, c7, c21]; done) | (rw [← hset] at d38 ⊢; simp only [if_true, if_false, Bool.false_eq_true, decide_true, decide_false, c2, c7, c21, d38]; done), ?_⟩; exact ⟨_, hTV, by rw [← hset]; exact hu_5⟩
    have hfin : (nI (n + rk set n)) = nI (n + rk (sem M n kd p1 p2 sb (sg n - nI 1) y.toNatClampNeg) n) := by rw [← hset]
    exact W.iret hx hb hr (fun t ht hW => ⟨⟨_, u_5, rfl, ⟨hfin, hrel⟩, by rw [← ht] at hP; exact hP⟩, hS.F ht⟩) hS.2.2 dX4_whisper_67
  ·
    replace c38 : 24 < (n + (fb_ct (bt set) 32)) := k_lef c38 (by omega) (by omega)
    have d38 : decide (n + fb_ct (bt (sem M n kd p1 p2 sb (sg n - nI 1) y.toNatClampNeg)) 32 ≤ 24) = false := by rw [← hset]; exact decide_eq_false (by omega)
    subst hQ
    exact vx_throwS (mc := 5) (ms := 30) hx hb hl0 hown fit53 fitN (hts (.classLink RX4 49 "java/lang/IllegalStateException") (List.mem_of_getElem? (i := 1) rfl)) (hts (.initialized "java/lang/IllegalStateException") (List.mem_of_getElem? (i := 2) rfl)) hT.2.2.2.2.2.2.2.1 (hat53 hT (fun w h => hts w (List.mem_cons_of_mem _ (List.mem_append_left _ (List.mem_append_left _ (List.mem_append_right _ h)))))) gow53 hZ.1 hZ.2 hS (hl.1.trans hml.symm) dX4_whisper_41 dX4_whisper_44 dX4_whisper_45 dX4_whisper_47 dX4_whisper_50 (fun x h => (htab x h).elim) (Nat.le_of_ble_eq_true rfl) (Nat.le_of_ble_eq_true rfl) (Nat.le_of_ble_eq_true rfl) (Nat.le_of_ble_eq_true rfl) hlocks (xthr ⟨(Or.inr (Or.inr ⟨rfl, by first | (simp only [if_true, if_false, Bool.false_eq_true, decide_true, decide_false, c2, c7, hset, c21, c38, d38]; done) | (rw [← hset]; simp only [if_true, if_false, Bool.false_eq_true, decide_true, decide_false, c2, c7, c21]; done) | (rw [← hset] at d38 ⊢; simp only [if_true, if_false, Bool.false_eq_true, decide_true, decide_false, c2, c7, c21, d38]; done)⟩)), by first | exact TX_r | exact fun i x hi => hu_1 i x (by omega)⟩ hP hS) hS.2.2 (Nat.le_of_ble_eq_true rfl) (Nat.le_of_ble_eq_true rfl)

