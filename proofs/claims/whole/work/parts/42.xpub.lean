set_option maxHeartbeats 4000000 in
set_option maxRecDepth 100000 in
theorem c_X4_addWorld (l : Launch) (hl0 : l.stackTraces = false) (D : va_G) (cs sa : Nat → Nat) (a : Nat → Nat) (M : Nat → Nat → Int32) (N : Nat → Int64) (sz : Nat) (hI : kI a 29) (n : Nat) (x : Int32) (hn : M 0 0 = nI n) (hn24 : n ≤ 24) : vx_Met l yX4_addWorld wsX4_addWorld ({ frames := 8, cells := 2, slots := 12, locals := 180 } : Room) (va_Pc [.ref (a 0), .int x] (XBT D cs sa a (xc cs a M N) sz)) (va_Qi (fun r (u : Nat → Nat → Int32) => r = nI n ∧ (if (isIn 64 x) = true then (if (decide (n < 24)) = true then 0 else 2) else 1) = 0 ∧ u = wr (wr M 1 n x) 0 0 (nI (n + 1))) (fun (u : Nat → Nat → Int32) t => va_P D vwCl (xc cs a u N) t.heap) (kA a 29 sz)) (XX D (fun u => xc cs a u N) (fun E u => (E = "java/lang/IllegalArgumentException" ∧ (if (isIn 64 x) = true then (if (decide (n < 24)) = true then 0 else 2) else 1) = 1 ∨ E = "java/lang/IllegalStateException" ∧ (if (isIn 64 x) = true then (if (decide (n < 24)) = true then 0 else 2) else 1) = 2) ∧ TX M u) (kA a 29 sz)) 2 12 (kA a 29 sz) := by
  refine vx_ofW (cc := cX4_addWorld) (maxL := 2) (ret := (some .int)) (by decide) rfl ?_
  intro p e s m args below meth c s₁ B hml htab hv
  obtain ⟨rfl, hsz, hP, hK, hT, hZ⟩ := hv
  have hx := B.exec
  have hb := B.bytes
  have hr := B.returns
  have hts := atoms_spec (ws := wsX4_addWorld) B.pre
  have hown : s.vm.findClass RX4 = some m.cls := findClass_of_methodNamed B.named
  have hlocks := B.notSynchronized
  have hK1 := hK.1
  have hinX4 : ∀ w ∈ wsX40, w ∈ wsX4_addWorld := fun w h => List.mem_cons_of_mem _ (List.mem_append_left _ (List.mem_append_left _ (List.mem_append_left _ (List.mem_append_right _ h))))
  have hinX3 : ∀ w ∈ wsX30, w ∈ wsX4_addWorld := fun w h => List.mem_cons_of_mem _ (List.mem_append_left _ (List.mem_append_left _ (List.mem_append_right _ h)))
  subst hsz
  have hS : va_S (kA a 29 s.heap.size) s.heap s.heap [] := va_S.rf
  have hl := lv_entry ([.ref (a 0), .int x]) (n := 2) (Nat.le_of_ble_eq_true rfl)
  rw [lg_entry_eq]
  generalize (lg_sl ([.ref (a 0), .int x]) ++ List.replicate (2 - (lg_sl ([.ref (a 0), .int x])).length) Slot.unset).toArray = ls at hl ⊢
  have hl : lv_has ls 2 [(0, .ref (a 0)), (1, .int x)] := hl
  refine W_Q (fun Q hQ => ?_)
  show W p l e ({ frames := 8, cells := 2, slots := 12, locals := 180 } : Room) s m ([.ref (a 0), .int x] : List Value).toArray below meth c s.heap [] 0 0 Q (F0 m 0 ls [])
  refine lv_aload_n hx hb dX4_addWorld_0 rfl (lv_at hl 0 rfl) ?_
  refine lv_iload_n hx hb dX4_addWorld_1 rfl (lv_at hl 1 rfl) ?_
  refine xcallxv (vx_runV (As := [.int x]) (rest := []) ⟨hx, hb, hml, hown, hts⟩ (c_X4_needAtoms l hl0 D cs sa a M N _ hI x) (cwV 1 hts gX4_addWorld_X4_needAtoms rfl rfl rfl (by decide +kernel) ⟨Nat.le_of_ble_eq_true rfl, Nat.le_of_ble_eq_true rfl⟩) (xpreVT hP hK hT hZ hS hS.1 (ci := 4) 0 rfl rfl) rfl rfl hl.1 rfl (lv_room (Nat.le_of_ble_eq_true rfl)) dX4_addWorld_2 ⟨Nat.le_of_ble_eq_true rfl, Nat.le_of_ble_eq_true rfl⟩) hS (kAle hS.1) (fun E ce q9 u9 H locs hXE hP hS hce hcv hcl => ?_) (fun u9 H locs hrel hP hS => ?_)
  ·
    obtain ⟨rfl, c2, hue⟩ := hXE
    rw [hue] at hP
    subst hQ
    exact xout (mc := 2) (ms := 12) htab hlocks hce hcv hcl ⟨(Or.inl ⟨rfl, by simp only [if_true, if_false, Bool.false_eq_true, decide_true, decide_false, c2]⟩), by first | exact TX_r | exact fun i x hi => TX_r i x (by omega)⟩ hP hS (Nat.le_of_ble_eq_true rfl) (Nat.le_of_ble_eq_true rfl)
  obtain ⟨c2, hue⟩ := hrel
  rw [hue] at hP
  clear hue
  refine W.widen (k := 1) (n := 6) (by decide) (by decide) ?_
  refine lv_aload_n hx hb dX4_addWorld_5 rfl (lv_at hl 0 rfl) ?_
  refine va_get (D := D) (ci := 4) (v := .ref (a 1)) (C := RX4) (T := TX4) (N := 4) hx hb hts hinX4 hown hK1 hP 0 rfl rfl 0 (by decide) (hts (.fieldLink RX4 10 "KnowledgeModel" "worlds" "LKnowledgeModel$Worlds;") (List.mem_of_getElem? (i := 3) rfl)) (fun _ h9 => h9) rfl dX4_addWorld_6 ?_
  refine va_get (D := D) (ci := 3) (v := .int (M 0 0)) (C := RX3) (T := TX3) (N := 4) hx hb hts hinX3 hown hK1 hP 1 rfl rfl 2 (by decide) (hts (.fieldLink RX4 45 "KnowledgeModel$Worlds" "count" "I") (List.mem_of_getElem? (i := 4) rfl)) (fun _ h9 => h9) rfl dX4_addWorld_9 ?_
  refine xtop (y := nI n) (hn) ?_
  refine lv_bipush (v := (nI 24)) hx hb dX4_addWorld_12 (by decide) ?_
  refine lv_icmp_lt (tgt := 27) hx hb dX4_addWorld_14 (by decide) (fun c14 => ?_) (fun c14 => ?_)
  ·
    replace c14 : n < 24 := k_ltt c14 (by omega) (by omega)
    have d14 : decide (n < 24) = true := decide_eq_true c14
    refine lv_aload_n hx hb dX4_addWorld_27 rfl (lv_at hl 0 rfl) ?_
    refine va_get (D := D) (ci := 4) (v := .ref (a 1)) (C := RX4) (T := TX4) (N := 4) hx hb hts hinX4 hown hK1 hP 0 rfl rfl 0 (by decide) (hts (.fieldLink RX4 10 "KnowledgeModel" "worlds" "LKnowledgeModel$Worlds;") (List.mem_of_getElem? (i := 3) rfl)) (fun _ h9 => h9) rfl dX4_addWorld_28 ?_
    refine lv_iload_n hx hb dX4_addWorld_31 rfl (lv_at hl 1 rfl) ?_
    refine xcallwi (va_runV (As := [.int x]) (rest := []) ⟨hx, hb, hml, hown, hts⟩ (c_X3_append l D cs a M N _ hI n x hn (by omega)) (cwV 1 hts gX4_addWorld_X3_append rfl rfl rfl (by decide +kernel) ⟨Nat.le_of_ble_eq_true rfl, Nat.le_of_ble_eq_true rfl⟩) (xpreVs hP hK (ci := 3) 1 rfl rfl) rfl rfl hl.1 rfl (lv_room (Nat.le_of_ble_eq_true rfl)) dX4_addWorld_32 ⟨Nat.le_of_ble_eq_true rfl, Nat.le_of_ble_eq_true rfl⟩) hS (kAle hS.1) (fun u_1 H locs hu_1 hP _ _ hS => ?_)
    have hP : va_P D vwCl (xc cs a (wr (wr M 1 n x) 0 0 (nI (n + 1))) N) H := hP
    obtain ⟨M_2, hM_2⟩ : ∃ z, z = wr (wr M 1 n x) 0 0 (nI (n + 1)) := ⟨_, rfl⟩
    rw [← hM_2] at hP
    have hk_3 : M_2 0 0 = nI (n + 1) := by rw [hM_2]; exact wr_same
    subst hQ
    refine W.widen (k := 2) (n := 12) (by decide) (by decide) ?_
    refine vx_ret ?_
    have hrel : (if (isIn 64 x) = true then (if (decide (n < 24)) = true then 0 else 2) else 1) = 0 ∧ M_2 = wr (wr M 1 n x) 0 0 (nI (n + 1)) := by refine ⟨by simp only [if_true, if_false, Bool.false_eq_true, decide_true, decide_false, c2, c14, d14, hM_2], ?_⟩; simp only [fo_0, c2, c14, d14, hM_2]
    have hfin : (nI n) = nI n := by rfl
    exact W.iret hx hb hr (fun t ht hW => ⟨⟨_, M_2, rfl, ⟨hfin, hrel⟩, by rw [← ht] at hP; exact hP⟩, hS.F ht⟩) hS.2.2 dX4_addWorld_35
  ·
    replace c14 : 24 ≤ n := k_ltf c14 (by omega) (by omega)
    have d14 : decide (n < 24) = false := decide_eq_false (by omega)
    subst hQ
    exact vx_throwS (mc := 2) (ms := 12) hx hb hl0 hown fit53 fitN (hts (.classLink RX4 49 "java/lang/IllegalStateException") (List.mem_of_getElem? (i := 1) rfl)) (hts (.initialized "java/lang/IllegalStateException") (List.mem_of_getElem? (i := 2) rfl)) hT.2.2.2.1 (hat53 hT (fun w h => hts w (List.mem_cons_of_mem _ (List.mem_append_left _ (List.mem_append_right _ h))))) gow53 hZ.1 hZ.2 hS (hl.1.trans hml.symm) dX4_addWorld_17 dX4_addWorld_20 dX4_addWorld_21 dX4_addWorld_23 dX4_addWorld_26 (fun x h => (htab x h).elim) (Nat.le_of_ble_eq_true rfl) (Nat.le_of_ble_eq_true rfl) (Nat.le_of_ble_eq_true rfl) (Nat.le_of_ble_eq_true rfl) hlocks (xthr ⟨(Or.inr ⟨rfl, by simp only [if_true, if_false, Bool.false_eq_true, decide_true, decide_false, c2, c14, d14]⟩), by first | exact TX_r | exact fun i x hi => TX_r i x (by omega)⟩ hP hS) hS.2.2 (Nat.le_of_ble_eq_true rfl) (Nat.le_of_ble_eq_true rfl)

set_option maxHeartbeats 4000000 in
set_option maxRecDepth 100000 in
theorem c_X4_setAtoms (l : Launch) (hl0 : l.stackTraces = false) (D : va_G) (cs sa : Nat → Nat) (a : Nat → Nat) (M : Nat → Nat → Int32) (N : Nat → Int64) (sz : Nat) (hI : kI a 29) (n : Nat) (x : Int32) (y : Int32) (hn : M 0 0 = nI n) (hn24 : n ≤ 24) : vx_Met l yX4_setAtoms wsX4_setAtoms ({ frames := 8, cells := 2, slots := 12, locals := 180 } : Room) (va_Pc [.ref (a 0), .int x, .int y] (XBT D cs sa a (xc cs a M N) sz)) (va_Qi (fun r (u : Nat → Nat → Int32) => r = M 1 x.toNatClampNeg ∧ (if (isIn n x) = true then (if (isIn 64 y) = true then 0 else 2) else 1) = 0 ∧ u = wr M 1 x.toNatClampNeg y) (fun (u : Nat → Nat → Int32) t => va_P D vwCl (xc cs a u N) t.heap) (kA a 29 sz)) (XX D (fun u => xc cs a u N) (fun E u => (E = "java/lang/IndexOutOfBoundsException" ∧ (if (isIn n x) = true then (if (isIn 64 y) = true then 0 else 2) else 1) = 1 ∨ E = "java/lang/IllegalArgumentException" ∧ (if (isIn n x) = true then (if (isIn 64 y) = true then 0 else 2) else 1) = 2) ∧ TX M u) (kA a 29 sz)) 2 12 (kA a 29 sz) := by
  refine vx_ofW (cc := cX4_setAtoms) (maxL := 4) (ret := (some .int)) (by decide) rfl ?_
  intro p e s m args below meth c s₁ B hml htab hv
  obtain ⟨rfl, hsz, hP, hK, hT, hZ⟩ := hv
  have hx := B.exec
  have hb := B.bytes
  have hr := B.returns
  have hts := atoms_spec (ws := wsX4_setAtoms) B.pre
  have hown : s.vm.findClass RX4 = some m.cls := findClass_of_methodNamed B.named
  have hlocks := B.notSynchronized
  have hK1 := hK.1
  have hinX4 : ∀ w ∈ wsX40, w ∈ wsX4_setAtoms := fun w h => List.mem_cons_of_mem _ (List.mem_append_left _ (List.mem_append_left _ (List.mem_append_left _ (List.mem_append_right _ h))))
  have hinX3 : ∀ w ∈ wsX30, w ∈ wsX4_setAtoms := fun w h => List.mem_cons_of_mem _ (List.mem_append_left _ (List.mem_append_left _ (List.mem_append_right _ h)))
  subst hsz
  have hS : va_S (kA a 29 s.heap.size) s.heap s.heap [] := va_S.rf
  have hl := lv_entry ([.ref (a 0), .int x, .int y]) (n := 4) (Nat.le_of_ble_eq_true rfl)
  rw [lg_entry_eq]
  generalize (lg_sl ([.ref (a 0), .int x, .int y]) ++ List.replicate (4 - (lg_sl ([.ref (a 0), .int x, .int y])).length) Slot.unset).toArray = ls at hl ⊢
  have hl : lv_has ls 4 [(0, .ref (a 0)), (1, .int x), (2, .int y)] := hl
  refine W_Q (fun Q hQ => ?_)
  show W p l e ({ frames := 8, cells := 2, slots := 12, locals := 180 } : Room) s m ([.ref (a 0), .int x, .int y] : List Value).toArray below meth c s.heap [] 0 0 Q (F0 m 0 ls [])
  refine lv_aload_n hx hb dX4_setAtoms_0 rfl (lv_at hl 0 rfl) ?_
  refine lv_iload_n hx hb dX4_setAtoms_1 rfl (lv_at hl 1 rfl) ?_
  refine xcallxv (vx_runV (As := [.int x]) (rest := []) ⟨hx, hb, hml, hown, hts⟩ (c_X4_needWorld l hl0 D cs sa a M N _ hI n x hn (by omega)) (cwV 1 hts gX4_setAtoms_X4_needWorld rfl rfl rfl (by decide +kernel) ⟨Nat.le_of_ble_eq_true rfl, Nat.le_of_ble_eq_true rfl⟩) (xpreVT hP hK hT hZ hS hS.1 (ci := 4) 0 rfl rfl) rfl rfl hl.1 rfl (lv_room (Nat.le_of_ble_eq_true rfl)) dX4_setAtoms_2 ⟨Nat.le_of_ble_eq_true rfl, Nat.le_of_ble_eq_true rfl⟩) hS (kAle hS.1) (fun E ce q9 u9 H locs hXE hP hS hce hcv hcl => ?_) (fun u9 H locs hrel hP hS => ?_)
  ·
    obtain ⟨rfl, c2, hue⟩ := hXE
    rw [hue] at hP
    subst hQ
    exact xout (mc := 2) (ms := 12) htab hlocks hce hcv hcl ⟨(Or.inl ⟨rfl, by simp only [if_true, if_false, Bool.false_eq_true, decide_true, decide_false, c2]⟩), by first | exact TX_r | exact fun i x hi => TX_r i x (by omega)⟩ hP hS (Nat.le_of_ble_eq_true rfl) (Nat.le_of_ble_eq_true rfl)
  obtain ⟨c2, hue⟩ := hrel
  rw [hue] at hP
  clear hue
  refine W.widen (k := 1) (n := 6) (by decide) (by decide) ?_
  refine lv_aload_n hx hb dX4_setAtoms_5 rfl (lv_at hl 0 rfl) ?_
  refine lv_iload_n hx hb dX4_setAtoms_6 rfl (lv_at hl 2 rfl) ?_
  refine xcallxv (vx_runV (As := [.int y]) (rest := []) ⟨hx, hb, hml, hown, hts⟩ (c_X4_needAtoms l hl0 D cs sa a M N _ hI y) (cwV 1 hts gX4_setAtoms_X4_needAtoms rfl rfl rfl (by decide +kernel) ⟨Nat.le_of_ble_eq_true rfl, Nat.le_of_ble_eq_true rfl⟩) (xpreVT hP hK hT hZ hS hS.1 (ci := 4) 0 rfl rfl) rfl rfl hl.1 rfl (lv_room (Nat.le_of_ble_eq_true rfl)) dX4_setAtoms_7 ⟨Nat.le_of_ble_eq_true rfl, Nat.le_of_ble_eq_true rfl⟩) hS (kAle hS.1) (fun E ce q9 u9 H locs hXE hP hS hce hcv hcl => ?_) (fun u9 H locs hrel hP hS => ?_)
  ·
    obtain ⟨rfl, c7, hue⟩ := hXE
    rw [hue] at hP
    subst hQ
    exact xout (mc := 2) (ms := 12) htab hlocks hce hcv hcl ⟨(Or.inr ⟨rfl, by simp only [if_true, if_false, Bool.false_eq_true, decide_true, decide_false, c2, c7]⟩), by first | exact TX_r | exact fun i x hi => TX_r i x (by omega)⟩ hP hS (Nat.le_of_ble_eq_true rfl) (Nat.le_of_ble_eq_true rfl)
  obtain ⟨c7, hue⟩ := hrel
  rw [hue] at hP
  clear hue
  refine W.widen (k := 2) (n := 12) (by decide) (by decide) ?_
  obtain ⟨hlt_x, heq_x⟩ := isIn_eq (by omega) c2
  have hl : lv_has ls 4 [(0, .ref (a 0)), (1, .int (nI x.toNatClampNeg)), (2, .int y)] := (lcons (lcons (lcons (lzero hl) hl 2 rfl rfl) hl 1 rfl (congrArg Value.int heq_x)) hl 0 rfl rfl)
  refine lv_aload_n hx hb dX4_setAtoms_10 rfl (lv_at hl 0 rfl) ?_
  refine va_get (D := D) (ci := 4) (v := .ref (a 1)) (C := RX4) (T := TX4) (N := 4) hx hb hts hinX4 hown hK1 hP 0 rfl rfl 0 (by decide) (hts (.fieldLink RX4 10 "KnowledgeModel" "worlds" "LKnowledgeModel$Worlds;") (List.mem_of_getElem? (i := 1) rfl)) (fun _ h9 => h9) rfl dX4_setAtoms_11 ?_
  refine va_get (D := D) (ci := 3) (v := .ref (a 2)) (C := RX3) (T := TX3) (N := 4) hx hb hts hinX3 hown hK1 hP 1 rfl rfl 0 (by decide) (hts (.fieldLink RX4 63 "KnowledgeModel$Worlds" "atomsAt" "[I") (List.mem_of_getElem? (i := 2) rfl)) (fun _ h9 => h9) rfl dX4_setAtoms_14 ?_
  refine lv_iload_n hx hb dX4_setAtoms_17 rfl (lv_at hl 1 rfl) ?_
  refine xiald (j := x.toNatClampNeg) (q0 := 2) (t0 := 0) hx hb hK1 hP rfl rfl (by omega) (by decide) dX4_setAtoms_18 ?_
  refine lv_topi (fun x_1 hx_1 => ?_)
  refine lv_istore_n (lv' := [(3, .int x_1), (0, .ref (a 0)), (1, .int (nI x.toNatClampNeg)), (2, .int y)]) hx hb dX4_setAtoms_19 rfl hl (by decide) rfl (fun ls hl => ?_)
  refine lv_aload_n hx hb dX4_setAtoms_20 rfl (lv_at hl 1 rfl) ?_
  refine va_get (D := D) (ci := 4) (v := .ref (a 1)) (C := RX4) (T := TX4) (N := 4) hx hb hts hinX4 hown hK1 hP 0 rfl rfl 0 (by decide) (hts (.fieldLink RX4 10 "KnowledgeModel" "worlds" "LKnowledgeModel$Worlds;") (List.mem_of_getElem? (i := 1) rfl)) (fun _ h9 => h9) rfl dX4_setAtoms_21 ?_
  refine va_get (D := D) (ci := 3) (v := .ref (a 2)) (C := RX3) (T := TX3) (N := 4) hx hb hts hinX3 hown hK1 hP 1 rfl rfl 0 (by decide) (hts (.fieldLink RX4 63 "KnowledgeModel$Worlds" "atomsAt" "[I") (List.mem_of_getElem? (i := 2) rfl)) (fun _ h9 => h9) rfl dX4_setAtoms_24 ?_
  refine lv_iload_n hx hb dX4_setAtoms_27 rfl (lv_at hl 2 rfl) ?_
  refine lv_iload_n hx hb dX4_setAtoms_28 rfl (lv_at hl 3 rfl) ?_
  refine xiast (j := x.toNatClampNeg) (q0 := 2) (t0 := 0) (ws' := xc cs a (wr M 1 x.toNatClampNeg y) N) hx hb hK1 hP (xD hI) hS rfl rfl (by omega) (by decide) xs_2 dX4_setAtoms_29 (fun H locs hP hS => ?_)
  obtain ⟨M_2, hM_2⟩ : ∃ z, z = wr M 1 x.toNatClampNeg y := ⟨_, rfl⟩
  rw [← hM_2] at hP
  have hk_3 : M_2 0 0 = nI n := by rw [hM_2]; exact (wr_ne (Or.inl (by omega))).trans hn
  refine lv_iload_n hx hb dX4_setAtoms_30 rfl (lv_at hl 0 rfl) ?_
  subst hQ
  refine vx_ret ?_
  have hrel : (if (isIn n x) = true then (if (isIn 64 y) = true then 0 else 2) else 1) = 0 ∧ M_2 = wr M 1 x.toNatClampNeg y := by refine ⟨by simp only [if_true, if_false, Bool.false_eq_true, decide_true, decide_false, c2, c7, hx_1, hM_2], ?_⟩; simp only [fo_0, c2, c7, hx_1, hM_2]
  have hfin : x_1 = M 1 x.toNatClampNeg := by simp only [fo_0, c2, c7, hx_1, hM_2]
  exact W.iret hx hb hr (fun t ht hW => ⟨⟨_, M_2, rfl, ⟨hfin, hrel⟩, by rw [← ht] at hP; exact hP⟩, hS.F ht⟩) hS.2.2 dX4_setAtoms_31

set_option maxHeartbeats 4000000 in
set_option maxRecDepth 100000 in
theorem c_X4_connect (l : Launch) (hl0 : l.stackTraces = false) (D : va_G) (cs sa : Nat → Nat) (a : Nat → Nat) (M : Nat → Nat → Int32) (N : Nat → Int64) (sz : Nat) (hI : kI a 29) (n : Nat) (x : Int32) (y : Int32) (z : Int32) (on : Bool) (hn : M 0 0 = nI n) (hn24 : n ≤ 24) : vx_Met l yX4_connect wsX4_connect ({ frames := 8, cells := 3, slots := 18, locals := 180 } : Room) (va_Pc [.ref (a 0), .int x, .int y, .int z, .int (bI on)] (XBT D cs sa a (xc cs a M N) sz)) (va_Qi (fun r (u : Nat → Nat → Int32) => r = bI (bt (M (2 + x.toNatClampNeg) y.toNatClampNeg) z.toNatClampNeg) ∧ (if (isIn 4 x) = true then (if (isIn n y) = true then (if (isIn n z) = true then 0 else 1) else 1) else 1) = 0 ∧ u = wr M (2 + x.toNatClampNeg) y.toNatClampNeg (if on = true then M (2 + x.toNatClampNeg) y.toNatClampNeg ||| sg z.toNatClampNeg else M (2 + x.toNatClampNeg) y.toNatClampNeg &&& (sg z.toNatClampNeg ^^^ (-1)))) (fun (u : Nat → Nat → Int32) t => va_P D vwCl (xc cs a u N) t.heap) (kA a 29 sz)) (XX D (fun u => xc cs a u N) (fun E u => (E = "java/lang/IndexOutOfBoundsException" ∧ (if (isIn 4 x) = true then (if (isIn n y) = true then (if (isIn n z) = true then 0 else 1) else 1) else 1) = 1) ∧ TX M u) (kA a 29 sz)) 3 18 (kA a 29 sz) := by
  refine vx_ofW (cc := cX4_connect) (maxL := 6) (ret := (some .boolean)) (by decide) rfl ?_
  intro p e s m args below meth c s₁ B hml htab hv
  obtain ⟨rfl, hsz, hP, hK, hT, hZ⟩ := hv
  have hx := B.exec
  have hb := B.bytes
  have hr := B.returns
  have hts := atoms_spec (ws := wsX4_connect) B.pre
  have hown : s.vm.findClass RX4 = some m.cls := findClass_of_methodNamed B.named
  have hlocks := B.notSynchronized
  have hK1 := hK.1
  have hinX4 : ∀ w ∈ wsX40, w ∈ wsX4_connect := fun w h => List.mem_cons_of_mem _ (List.mem_append_left _ (List.mem_append_left _ (List.mem_append_right _ h)))
  have hinX3 : ∀ w ∈ wsX30, w ∈ wsX4_connect := fun w h => List.mem_cons_of_mem _ (List.mem_append_left _ (List.mem_append_right _ h))
  subst hsz
  have hS : va_S (kA a 29 s.heap.size) s.heap s.heap [] := va_S.rf
  have hl := lv_entry ([.ref (a 0), .int x, .int y, .int z, .int (bI on)]) (n := 6) (Nat.le_of_ble_eq_true rfl)
  rw [lg_entry_eq]
  generalize (lg_sl ([.ref (a 0), .int x, .int y, .int z, .int (bI on)]) ++ List.replicate (6 - (lg_sl ([.ref (a 0), .int x, .int y, .int z, .int (bI on)])).length) Slot.unset).toArray = ls at hl ⊢
  have hl : lv_has ls 6 [(0, .ref (a 0)), (1, .int x), (2, .int y), (3, .int z), (4, .int (bI on))] := hl
  refine W_Q (fun Q hQ => ?_)
  show W p l e ({ frames := 8, cells := 3, slots := 18, locals := 180 } : Room) s m ([.ref (a 0), .int x, .int y, .int z, .int (bI on)] : List Value).toArray below meth c s.heap [] 0 0 Q (F0 m 0 ls [])
  refine lv_aload_n hx hb dX4_connect_0 rfl (lv_at hl 0 rfl) ?_
  refine lv_iload_n hx hb dX4_connect_1 rfl (lv_at hl 1 rfl) ?_
  refine xcallxv (vx_runV (As := [.int x]) (rest := []) ⟨hx, hb, hml, hown, hts⟩ (c_X4_needAgent l hl0 D cs sa a M N _ hI x) (cwV 1 hts gX4_connect_X4_needAgent rfl rfl rfl (by decide +kernel) ⟨Nat.le_of_ble_eq_true rfl, Nat.le_of_ble_eq_true rfl⟩) (xpreVT hP hK hT hZ hS hS.1 (ci := 4) 0 rfl rfl) rfl rfl hl.1 rfl (lv_room (Nat.le_of_ble_eq_true rfl)) dX4_connect_2 ⟨Nat.le_of_ble_eq_true rfl, Nat.le_of_ble_eq_true rfl⟩) hS (kAle hS.1) (fun E ce q9 u9 H locs hXE hP hS hce hcv hcl => ?_) (fun u9 H locs hrel hP hS => ?_)
  ·
    obtain ⟨rfl, c2, hue⟩ := hXE
    rw [hue] at hP
    subst hQ
    exact xout (mc := 3) (ms := 18) htab hlocks hce hcv hcl ⟨⟨rfl, by simp only [if_true, if_false, Bool.false_eq_true, decide_true, decide_false, c2]⟩, by first | exact TX_r | exact fun i x hi => TX_r i x (by omega)⟩ hP hS (Nat.le_of_ble_eq_true rfl) (Nat.le_of_ble_eq_true rfl)
  obtain ⟨c2, hue⟩ := hrel
  rw [hue] at hP
  clear hue
  refine W.widen (k := 1) (n := 6) (by decide) (by decide) ?_
  refine lv_aload_n hx hb dX4_connect_5 rfl (lv_at hl 0 rfl) ?_
  refine lv_iload_n hx hb dX4_connect_6 rfl (lv_at hl 2 rfl) ?_
  refine xcallxv (vx_runV (As := [.int y]) (rest := []) ⟨hx, hb, hml, hown, hts⟩ (c_X4_needWorld l hl0 D cs sa a M N _ hI n y hn (by omega)) (cwV 1 hts gX4_connect_X4_needWorld rfl rfl rfl (by decide +kernel) ⟨Nat.le_of_ble_eq_true rfl, Nat.le_of_ble_eq_true rfl⟩) (xpreVT hP hK hT hZ hS hS.1 (ci := 4) 0 rfl rfl) rfl rfl hl.1 rfl (lv_room (Nat.le_of_ble_eq_true rfl)) dX4_connect_7 ⟨Nat.le_of_ble_eq_true rfl, Nat.le_of_ble_eq_true rfl⟩) hS (kAle hS.1) (fun E ce q9 u9 H locs hXE hP hS hce hcv hcl => ?_) (fun u9 H locs hrel hP hS => ?_)
  ·
    obtain ⟨rfl, c7, hue⟩ := hXE
    rw [hue] at hP
    subst hQ
    exact xout (mc := 3) (ms := 18) htab hlocks hce hcv hcl ⟨⟨rfl, by simp only [if_true, if_false, Bool.false_eq_true, decide_true, decide_false, c2, c7]⟩, by first | exact TX_r | exact fun i x hi => TX_r i x (by omega)⟩ hP hS (Nat.le_of_ble_eq_true rfl) (Nat.le_of_ble_eq_true rfl)
  obtain ⟨c7, hue⟩ := hrel
  rw [hue] at hP
  clear hue
  refine W.widen (k := 2) (n := 12) (by decide) (by decide) ?_
  refine lv_aload_n hx hb dX4_connect_10 rfl (lv_at hl 0 rfl) ?_
  refine lv_iload_n hx hb dX4_connect_11 rfl (lv_at hl 3 rfl) ?_
  refine xcallxv (vx_runV (As := [.int z]) (rest := []) ⟨hx, hb, hml, hown, hts⟩ (c_X4_needWorld l hl0 D cs sa a M N _ hI n z hn (by omega)) (cwV 1 hts gX4_connect_X4_needWorld rfl rfl rfl (by decide +kernel) ⟨Nat.le_of_ble_eq_true rfl, Nat.le_of_ble_eq_true rfl⟩) (xpreVT hP hK hT hZ hS hS.1 (ci := 4) 0 rfl rfl) rfl rfl hl.1 rfl (lv_room (Nat.le_of_ble_eq_true rfl)) dX4_connect_12 ⟨Nat.le_of_ble_eq_true rfl, Nat.le_of_ble_eq_true rfl⟩) hS (kAle hS.1) (fun E ce q9 u9 H locs hXE hP hS hce hcv hcl => ?_) (fun u9 H locs hrel hP hS => ?_)
  ·
    obtain ⟨rfl, c12, hue⟩ := hXE
    rw [hue] at hP
    subst hQ
    exact xout (mc := 3) (ms := 18) htab hlocks hce hcv hcl ⟨⟨rfl, by simp only [if_true, if_false, Bool.false_eq_true, decide_true, decide_false, c2, c7, c12]⟩, by first | exact TX_r | exact fun i x hi => TX_r i x (by omega)⟩ hP hS (Nat.le_of_ble_eq_true rfl) (Nat.le_of_ble_eq_true rfl)
  obtain ⟨c12, hue⟩ := hrel
  rw [hue] at hP
  clear hue
  refine W.widen (k := 3) (n := 18) (by decide) (by decide) ?_
  obtain ⟨hlt_x, heq_x⟩ := isIn_eq (by omega) c2
  have hl : lv_has ls 6 [(0, .ref (a 0)), (1, .int (nI x.toNatClampNeg)), (2, .int y), (3, .int z), (4, .int (bI on))] := (lcons (lcons (lcons (lcons (lcons (lzero hl) hl 4 rfl rfl) hl 3 rfl rfl) hl 2 rfl rfl) hl 1 rfl (congrArg Value.int heq_x)) hl 0 rfl rfl)
  obtain ⟨hlt_y, heq_y⟩ := isIn_eq (by omega) c7
  have hl : lv_has ls 6 [(0, .ref (a 0)), (1, .int (nI x.toNatClampNeg)), (2, .int (nI y.toNatClampNeg)), (3, .int z), (4, .int (bI on))] := (lcons (lcons (lcons (lcons (lcons (lzero hl) hl 4 rfl rfl) hl 3 rfl rfl) hl 2 rfl (congrArg Value.int heq_y)) hl 1 rfl rfl) hl 0 rfl rfl)
  obtain ⟨hlt_z, heq_z⟩ := isIn_eq (by omega) c12
  have hl : lv_has ls 6 [(0, .ref (a 0)), (1, .int (nI x.toNatClampNeg)), (2, .int (nI y.toNatClampNeg)), (3, .int (nI z.toNatClampNeg)), (4, .int (bI on))] := (lcons (lcons (lcons (lcons (lcons (lzero hl) hl 4 rfl rfl) hl 3 rfl (congrArg Value.int heq_z)) hl 2 rfl rfl) hl 1 rfl rfl) hl 0 rfl rfl)
  refine lv_aload_n hx hb dX4_connect_15 rfl (lv_at hl 0 rfl) ?_
  refine va_get (D := D) (ci := 4) (v := .ref (a 1)) (C := RX4) (T := TX4) (N := 4) hx hb hts hinX4 hown hK1 hP 0 rfl rfl 0 (by decide) (hts (.fieldLink RX4 10 "KnowledgeModel" "worlds" "LKnowledgeModel$Worlds;") (List.mem_of_getElem? (i := 1) rfl)) (fun _ h9 => h9) rfl dX4_connect_16 ?_
  refine va_get (D := D) (ci := 3) (v := .ref (a 3)) (C := RX3) (T := TX3) (N := 4) hx hb hts hinX3 hown hK1 hP 1 rfl rfl 1 (by decide) (hts (.fieldLink RX4 70 "KnowledgeModel$Worlds" "arrows" "[[I") (List.mem_of_getElem? (i := 2) rfl)) (fun _ h9 => h9) rfl dX4_connect_19 ?_
  refine lv_iload_n hx hb dX4_connect_22 rfl (lv_at hl 1 rfl) ?_
  refine xaald (j := x.toNatClampNeg) (q0 := 3) (t0 := 2) (f := fun i => a (4 + i)) hx hb hK1 hP rfl rfl (by omega) (by decide) dX4_connect_23 ?_
  refine lv_iload_n hx hb dX4_connect_24 rfl (lv_at hl 2 rfl) ?_
  refine xiald (j := y.toNatClampNeg) (q0 := (4 + x.toNatClampNeg)) (t0 := 0) hx hb hK1 hP (xg_ar (by omega)) rfl (by omega) (by decide) dX4_connect_25 ?_
  refine lv_topi (fun x_1 hx_1 => ?_)
  refine lv_istore (lv' := [(5, .int x_1), (0, .ref (a 0)), (1, .int (nI x.toNatClampNeg)), (2, .int (nI y.toNatClampNeg)), (3, .int (nI z.toNatClampNeg)), (4, .int (bI on))]) hx hb dX4_connect_26 hl (by decide) rfl (fun ls hl => ?_)
  refine lv_aload_n hx hb dX4_connect_28 rfl (lv_at hl 1 rfl) ?_
  refine va_get (D := D) (ci := 4) (v := .ref (a 1)) (C := RX4) (T := TX4) (N := 4) hx hb hts hinX4 hown hK1 hP 0 rfl rfl 0 (by decide) (hts (.fieldLink RX4 10 "KnowledgeModel" "worlds" "LKnowledgeModel$Worlds;") (List.mem_of_getElem? (i := 1) rfl)) (fun _ h9 => h9) rfl dX4_connect_29 ?_
  refine va_get (D := D) (ci := 3) (v := .ref (a 3)) (C := RX3) (T := TX3) (N := 4) hx hb hts hinX3 hown hK1 hP 1 rfl rfl 1 (by decide) (hts (.fieldLink RX4 70 "KnowledgeModel$Worlds" "arrows" "[[I") (List.mem_of_getElem? (i := 2) rfl)) (fun _ h9 => h9) rfl dX4_connect_32 ?_
  refine lv_iload_n hx hb dX4_connect_35 rfl (lv_at hl 2 rfl) ?_
  refine xaald (j := x.toNatClampNeg) (q0 := 3) (t0 := 2) (f := fun i => a (4 + i)) hx hb hK1 hP rfl rfl (by omega) (by decide) dX4_connect_36 ?_
  refine lv_iload_n hx hb dX4_connect_37 rfl (lv_at hl 3 rfl) ?_
  refine lv_iload hx hb dX4_connect_38 (lv_at hl 5 rfl) ?_
  refine lv_if_eq (tgt := 53) hx hb dX4_connect_40 (by decide) (fun c40 => ?_) (fun c40 => ?_)
  ·
    replace c40 := bI_0 c40
    refine lv_iload hx hb dX4_connect_53 (lv_at hl 0 rfl) ?_
    refine lv_iload_n hx hb dX4_connect_55 rfl (lv_at hl 4 rfl) ?_
    refine xcalli (va_runS (As := [.int (nI z.toNatClampNeg)]) (rest := [.int x_1, .int (nI y.toNatClampNeg), .ref (a (4 + x.toNatClampNeg))]) ⟨hx, hb, hml, hown, hts⟩ (c_X4_single l z.toNatClampNeg) (va_cwS 1 hts gX4_connect_X4_single rfl rfl rfl (by decide +kernel) ⟨Nat.le_of_ble_eq_true rfl, Nat.le_of_ble_eq_true rfl⟩) xpreN rfl rfl hl.1 rfl (lv_room (Nat.le_of_ble_eq_true rfl)) dX4_connect_56 ⟨Nat.le_of_ble_eq_true rfl, Nat.le_of_ble_eq_true rfl⟩) hS hP (fun H locs hP hS => ?_)
    refine lv_iconst (v := (-1 : Int32)) hx hb dX4_connect_59 (by decide) ?_
    refine lv_ixor hx hb dX4_connect_60 ?_
    refine lv_iand hx hb dX4_connect_61 ?_
    refine lv_topi (fun x_2 hx_2 => ?_)
    refine xiast (j := y.toNatClampNeg) (q0 := (4 + x.toNatClampNeg)) (t0 := 0) (ws' := xc cs a (wr M (2 + x.toNatClampNeg) y.toNatClampNeg x_2) N) hx hb hK1 hP (xD hI) hS (xg_ar (by omega)) rfl (by omega) (by decide) (xs_ar (by omega)) dX4_connect_62 (fun H locs hP hS => ?_)
    obtain ⟨M_3, hM_3⟩ : ∃ z, z = wr M (2 + x.toNatClampNeg) y.toNatClampNeg x_2 := ⟨_, rfl⟩
    rw [← hM_3] at hP
    have hk_4 : M_3 0 0 = nI n := by rw [hM_3]; exact (wr_ne (Or.inl (by omega))).trans hn
    refine lv_iload hx hb dX4_connect_63 (lv_at hl 0 rfl) ?_
    refine lv_iload_n hx hb dX4_connect_65 rfl (lv_at hl 4 rfl) ?_
    refine xcalli (va_runS (As := [.int x_1, .int (nI z.toNatClampNeg)]) (rest := []) ⟨hx, hb, hml, hown, hts⟩ (c_X4_contains l x_1 z.toNatClampNeg (by omega)) (va_cwS 2 hts gX4_connect_X4_contains rfl rfl rfl (by decide +kernel) ⟨Nat.le_of_ble_eq_true rfl, Nat.le_of_ble_eq_true rfl⟩) xpreN rfl rfl hl.1 rfl (lv_room (Nat.le_of_ble_eq_true rfl)) dX4_connect_66 ⟨Nat.le_of_ble_eq_true rfl, Nat.le_of_ble_eq_true rfl⟩) hS hP (fun H locs hP hS => ?_)
    subst hQ
    refine vx_ret ?_
    have hrel : (if (isIn 4 x) = true then (if (isIn n y) = true then (if (isIn n z) = true then 0 else 1) else 1) else 1) = 0 ∧ M_3 = wr M (2 + x.toNatClampNeg) y.toNatClampNeg (if on = true then M (2 + x.toNatClampNeg) y.toNatClampNeg ||| sg z.toNatClampNeg else M (2 + x.toNatClampNeg) y.toNatClampNeg &&& (sg z.toNatClampNeg ^^^ (-1))) := by refine ⟨by simp only [if_true, if_false, Bool.false_eq_true, decide_true, decide_false, c2, c7, c12, hx_1, c40, hx_2, hM_3], ?_⟩; simp only [if_true, if_false, Bool.false_eq_true, decide_true, decide_false, c2, c7, c12, hx_1, c40, hx_2, hM_3]
    have hfin : (bI (bt x_1 z.toNatClampNeg)) = bI (bt (M (2 + x.toNatClampNeg) y.toNatClampNeg) z.toNatClampNeg) := by simp only [fo_0, c2, c7, c12, hx_1, c40, hx_2, hM_3]
    exact W.zret (ty := .boolean) hx hb hr (bI_nar _) (fun t ht hW => ⟨⟨_, M_3, rfl, ⟨hfin, hrel⟩, by rw [← ht] at hP; exact hP⟩, hS.F ht⟩) hS.2.2 dX4_connect_69
  ·
    replace c40 := bI_n0 c40
    refine lv_iload hx hb dX4_connect_43 (lv_at hl 0 rfl) ?_
    refine lv_iload_n hx hb dX4_connect_45 rfl (lv_at hl 4 rfl) ?_
    refine xcalli (va_runS (As := [.int (nI z.toNatClampNeg)]) (rest := [.int x_1, .int (nI y.toNatClampNeg), .ref (a (4 + x.toNatClampNeg))]) ⟨hx, hb, hml, hown, hts⟩ (c_X4_single l z.toNatClampNeg) (va_cwS 1 hts gX4_connect_X4_single rfl rfl rfl (by decide +kernel) ⟨Nat.le_of_ble_eq_true rfl, Nat.le_of_ble_eq_true rfl⟩) xpreN rfl rfl hl.1 rfl (lv_room (Nat.le_of_ble_eq_true rfl)) dX4_connect_46 ⟨Nat.le_of_ble_eq_true rfl, Nat.le_of_ble_eq_true rfl⟩) hS hP (fun H locs hP hS => ?_)
    refine lv_ior hx hb dX4_connect_49 ?_
    refine lv_goto (tgt := 62) hx hb dX4_connect_50 (by decide) ?_
    refine lv_topi (fun x_5 hx_5 => ?_)
    refine xiast (j := y.toNatClampNeg) (q0 := (4 + x.toNatClampNeg)) (t0 := 0) (ws' := xc cs a (wr M (2 + x.toNatClampNeg) y.toNatClampNeg x_5) N) hx hb hK1 hP (xD hI) hS (xg_ar (by omega)) rfl (by omega) (by decide) (xs_ar (by omega)) dX4_connect_62 (fun H locs hP hS => ?_)
    obtain ⟨M_6, hM_6⟩ : ∃ z, z = wr M (2 + x.toNatClampNeg) y.toNatClampNeg x_5 := ⟨_, rfl⟩
    rw [← hM_6] at hP
    have hk_7 : M_6 0 0 = nI n := by rw [hM_6]; exact (wr_ne (Or.inl (by omega))).trans hn
    refine lv_iload hx hb dX4_connect_63 (lv_at hl 0 rfl) ?_
    refine lv_iload_n hx hb dX4_connect_65 rfl (lv_at hl 4 rfl) ?_
    refine xcalli (va_runS (As := [.int x_1, .int (nI z.toNatClampNeg)]) (rest := []) ⟨hx, hb, hml, hown, hts⟩ (c_X4_contains l x_1 z.toNatClampNeg (by omega)) (va_cwS 2 hts gX4_connect_X4_contains rfl rfl rfl (by decide +kernel) ⟨Nat.le_of_ble_eq_true rfl, Nat.le_of_ble_eq_true rfl⟩) xpreN rfl rfl hl.1 rfl (lv_room (Nat.le_of_ble_eq_true rfl)) dX4_connect_66 ⟨Nat.le_of_ble_eq_true rfl, Nat.le_of_ble_eq_true rfl⟩) hS hP (fun H locs hP hS => ?_)
    subst hQ
    refine vx_ret ?_
    have hrel : (if (isIn 4 x) = true then (if (isIn n y) = true then (if (isIn n z) = true then 0 else 1) else 1) else 1) = 0 ∧ M_6 = wr M (2 + x.toNatClampNeg) y.toNatClampNeg (if on = true then M (2 + x.toNatClampNeg) y.toNatClampNeg ||| sg z.toNatClampNeg else M (2 + x.toNatClampNeg) y.toNatClampNeg &&& (sg z.toNatClampNeg ^^^ (-1))) := by refine ⟨by simp only [if_true, if_false, Bool.false_eq_true, decide_true, decide_false, c2, c7, c12, hx_1, c40, hx_5, hM_6], ?_⟩; simp only [if_true, if_false, Bool.false_eq_true, decide_true, decide_false, c2, c7, c12, hx_1, c40, hx_5, hM_6]
    have hfin : (bI (bt x_1 z.toNatClampNeg)) = bI (bt (M (2 + x.toNatClampNeg) y.toNatClampNeg) z.toNatClampNeg) := by simp only [fo_0, c2, c7, c12, hx_1, c40, hx_5, hM_6]
    exact W.zret (ty := .boolean) hx hb hr (bI_nar _) (fun t ht hW => ⟨⟨_, M_6, rfl, ⟨hfin, hrel⟩, by rw [← ht] at hP; exact hP⟩, hS.F ht⟩) hS.2.2 dX4_connect_69

set_option maxHeartbeats 4000000 in
set_option maxRecDepth 100000 in
theorem c_X4_gather (l : Launch) (hl0 : l.stackTraces = false) (D : va_G) (cs sa : Nat → Nat) (a : Nat → Nat) (M : Nat → Nat → Int32) (N : Nat → Int64) (sz : Nat) (hI : kI a 29) (n : Nat) (x : Int32) (set : Int32) (hn : M 0 0 = nI n) (hn24 : n ≤ 24) : vx_Met l yX4_gather wsX4_gather ({ frames := 8, cells := 2, slots := 12, locals := 180 } : Room) (va_Pc [.ref (a 0), .int x, .int set] (XBT D cs sa a (xc cs a M N) sz)) (va_Qi (fun r (u : Nat → Nat → Int32) => r = joinN M x.toNatClampNeg set n ∧ (if (isIn 4 x) = true then (if (decide ((set &&& ((sg n - nI 1) ^^^ (-1))) = 0)) = true then 0 else 2) else 1) = 0 ∧ u = joinC M x.toNatClampNeg set n) (fun (u : Nat → Nat → Int32) t => va_P D vwCl (xc cs a u N) t.heap) (kA a 29 sz)) (XX D (fun u => xc cs a u N) (fun E u => (E = "java/lang/IndexOutOfBoundsException" ∧ (if (isIn 4 x) = true then (if (decide ((set &&& ((sg n - nI 1) ^^^ (-1))) = 0)) = true then 0 else 2) else 1) = 1 ∨ E = "java/lang/IllegalArgumentException" ∧ (if (isIn 4 x) = true then (if (decide ((set &&& ((sg n - nI 1) ^^^ (-1))) = 0)) = true then 0 else 2) else 1) = 2) ∧ TX M u) (kA a 29 sz)) 2 12 (kA a 29 sz) := by
  refine vx_ofW (cc := cX4_gather) (maxL := 3) (ret := (some .int)) (by decide) rfl ?_
  intro p e s m args below meth c s₁ B hml htab hv
  obtain ⟨rfl, hsz, hP, hK, hT, hZ⟩ := hv
  have hx := B.exec
  have hb := B.bytes
  have hr := B.returns
  have hts := atoms_spec (ws := wsX4_gather) B.pre
  have hown : s.vm.findClass RX4 = some m.cls := findClass_of_methodNamed B.named
  have hlocks := B.notSynchronized
  have hK1 := hK.1
  have hinX4 : ∀ w ∈ wsX40, w ∈ wsX4_gather := fun w h => List.mem_cons_of_mem _ (List.mem_append_left _ (List.mem_append_left _ (List.mem_append_left _ (List.mem_append_right _ h))))
  have hinX3 : ∀ w ∈ wsX30, w ∈ wsX4_gather := fun w h => List.mem_cons_of_mem _ (List.mem_append_left _ (List.mem_append_left _ (List.mem_append_right _ h)))
  subst hsz
  have hS : va_S (kA a 29 s.heap.size) s.heap s.heap [] := va_S.rf
  have hl := lv_entry ([.ref (a 0), .int x, .int set]) (n := 3) (Nat.le_of_ble_eq_true rfl)
  rw [lg_entry_eq]
  generalize (lg_sl ([.ref (a 0), .int x, .int set]) ++ List.replicate (3 - (lg_sl ([.ref (a 0), .int x, .int set])).length) Slot.unset).toArray = ls at hl ⊢
  have hl : lv_has ls 3 [(0, .ref (a 0)), (1, .int x), (2, .int set)] := hl
  refine W_Q (fun Q hQ => ?_)
  show W p l e ({ frames := 8, cells := 2, slots := 12, locals := 180 } : Room) s m ([.ref (a 0), .int x, .int set] : List Value).toArray below meth c s.heap [] 0 0 Q (F0 m 0 ls [])
  refine lv_aload_n hx hb dX4_gather_0 rfl (lv_at hl 0 rfl) ?_
  refine lv_iload_n hx hb dX4_gather_1 rfl (lv_at hl 1 rfl) ?_
  refine xcallxv (vx_runV (As := [.int x]) (rest := []) ⟨hx, hb, hml, hown, hts⟩ (c_X4_needAgent l hl0 D cs sa a M N _ hI x) (cwV 1 hts gX4_gather_X4_needAgent rfl rfl rfl (by decide +kernel) ⟨Nat.le_of_ble_eq_true rfl, Nat.le_of_ble_eq_true rfl⟩) (xpreVT hP hK hT hZ hS hS.1 (ci := 4) 0 rfl rfl) rfl rfl hl.1 rfl (lv_room (Nat.le_of_ble_eq_true rfl)) dX4_gather_2 ⟨Nat.le_of_ble_eq_true rfl, Nat.le_of_ble_eq_true rfl⟩) hS (kAle hS.1) (fun E ce q9 u9 H locs hXE hP hS hce hcv hcl => ?_) (fun u9 H locs hrel hP hS => ?_)
  ·
    obtain ⟨rfl, c2, hue⟩ := hXE
    rw [hue] at hP
    subst hQ
    exact xout (mc := 2) (ms := 12) htab hlocks hce hcv hcl ⟨(Or.inl ⟨rfl, by simp only [if_true, if_false, Bool.false_eq_true, decide_true, decide_false, c2]⟩), by first | exact TX_r | exact fun i x hi => TX_r i x (by omega)⟩ hP hS (Nat.le_of_ble_eq_true rfl) (Nat.le_of_ble_eq_true rfl)
  obtain ⟨c2, hue⟩ := hrel
  rw [hue] at hP
  clear hue
  refine W.widen (k := 1) (n := 6) (by decide) (by decide) ?_
  refine lv_iload_n hx hb dX4_gather_5 rfl (lv_at hl 2 rfl) ?_
  refine lv_aload_n hx hb dX4_gather_6 rfl (lv_at hl 0 rfl) ?_
  refine va_get (D := D) (ci := 4) (v := .ref (a 1)) (C := RX4) (T := TX4) (N := 4) hx hb hts hinX4 hown hK1 hP 0 rfl rfl 0 (by decide) (hts (.fieldLink RX4 10 "KnowledgeModel" "worlds" "LKnowledgeModel$Worlds;") (List.mem_of_getElem? (i := 3) rfl)) (fun _ h9 => h9) rfl dX4_gather_7 ?_
  refine xcalli (va_runV (As := []) (rest := [.int set]) ⟨hx, hb, hml, hown, hts⟩ (c_X3_all l D cs a M N n hn) (cwV 0 hts gX4_gather_X3_all rfl rfl rfl (by decide +kernel) ⟨Nat.le_of_ble_eq_true rfl, Nat.le_of_ble_eq_true rfl⟩) (xpreV hP hK (ci := 3) 1 rfl rfl) rfl rfl hl.1 rfl (lv_room (Nat.le_of_ble_eq_true rfl)) dX4_gather_10 ⟨Nat.le_of_ble_eq_true rfl, Nat.le_of_ble_eq_true rfl⟩) hS hP (fun H locs hP hS => ?_)
  refine lv_iconst (v := (-1 : Int32)) hx hb dX4_gather_13 (by decide) ?_
  refine lv_ixor hx hb dX4_gather_14 ?_
  refine lv_iand hx hb dX4_gather_15 ?_
  refine lv_if_eq (tgt := 29) hx hb dX4_gather_16 (by decide) (fun c16 => ?_) (fun c16 => ?_)
  ·
    have d16 : decide ((set &&& ((sg n - nI 1) ^^^ (-1))) = 0) = true := decide_eq_true c16
    obtain ⟨hlt_x, heq_x⟩ := isIn_eq (by omega) c2
    have hl : lv_has ls 3 [(0, .ref (a 0)), (1, .int (nI x.toNatClampNeg)), (2, .int set)] := (lcons (lcons (lcons (lzero hl) hl 2 rfl rfl) hl 1 rfl (congrArg Value.int heq_x)) hl 0 rfl rfl)
    refine lv_aload_n hx hb dX4_gather_29 rfl (lv_at hl 0 rfl) ?_
    refine va_get (D := D) (ci := 4) (v := .ref (a 1)) (C := RX4) (T := TX4) (N := 4) hx hb hts hinX4 hown hK1 hP 0 rfl rfl 0 (by decide) (hts (.fieldLink RX4 10 "KnowledgeModel" "worlds" "LKnowledgeModel$Worlds;") (List.mem_of_getElem? (i := 3) rfl)) (fun _ h9 => h9) rfl dX4_gather_30 ?_
    refine lv_iload_n hx hb dX4_gather_33 rfl (lv_at hl 1 rfl) ?_
    refine lv_iload_n hx hb dX4_gather_34 rfl (lv_at hl 2 rfl) ?_
    refine xcallwi (va_runV (As := [.int (nI x.toNatClampNeg), .int set]) (rest := []) ⟨hx, hb, hml, hown, hts⟩ (c_X3_joinAll l D cs a M N _ hI n x.toNatClampNeg set (by omega) hn (by omega)) (cwV 2 hts gX4_gather_X3_joinAll rfl rfl rfl (by decide +kernel) ⟨Nat.le_of_ble_eq_true rfl, Nat.le_of_ble_eq_true rfl⟩) (xpreVs hP hK (ci := 3) 1 rfl rfl) rfl rfl hl.1 rfl (lv_room (Nat.le_of_ble_eq_true rfl)) dX4_gather_35 ⟨Nat.le_of_ble_eq_true rfl, Nat.le_of_ble_eq_true rfl⟩) hS (kAle hS.1) (fun u_1 H locs hu_1 hP _ _ hS => ?_)
    have hP : va_P D vwCl (xc cs a (joinC M x.toNatClampNeg set n) N) H := hP
    obtain ⟨M_2, hM_2⟩ : ∃ z, z = joinC M x.toNatClampNeg set n := ⟨_, rfl⟩
    rw [← hM_2] at hP
    subst hQ
    refine W.widen (k := 2) (n := 12) (by decide) (by decide) ?_
    refine vx_ret ?_
    have hrel : (if (isIn 4 x) = true then (if (decide ((set &&& ((sg n - nI 1) ^^^ (-1))) = 0)) = true then 0 else 2) else 1) = 0 ∧ M_2 = joinC M x.toNatClampNeg set n := by refine ⟨by simp only [if_true, if_false, Bool.false_eq_true, decide_true, decide_false, c2, c16, d16, hM_2], ?_⟩; simp only [fo_0, c2, c16, d16, hM_2]
    have hfin : (joinN M x.toNatClampNeg set n) = joinN M x.toNatClampNeg set n := by rfl
    exact W.iret hx hb hr (fun t ht hW => ⟨⟨_, M_2, rfl, ⟨hfin, hrel⟩, by rw [← ht] at hP; exact hP⟩, hS.F ht⟩) hS.2.2 dX4_gather_38
  ·
    have d16 : decide ((set &&& ((sg n - nI 1) ^^^ (-1))) = 0) = false := decide_eq_false c16
    subst hQ
    exact vx_throwS (mc := 2) (ms := 12) hx hb hl0 hown fit89 fitN (hts (.classLink RX4 85 "java/lang/IllegalArgumentException") (List.mem_of_getElem? (i := 1) rfl)) (hts (.initialized "java/lang/IllegalArgumentException") (List.mem_of_getElem? (i := 2) rfl)) hT.2.2.2.2.1 (hat89 hT (fun w h => hts w (List.mem_cons_of_mem _ (List.mem_append_left _ (List.mem_append_right _ h))))) gow89 hZ.1 hZ.2 hS (hl.1.trans hml.symm) dX4_gather_19 dX4_gather_22 dX4_gather_23 dX4_gather_25 dX4_gather_28 (fun x h => (htab x h).elim) (Nat.le_of_ble_eq_true rfl) (Nat.le_of_ble_eq_true rfl) (Nat.le_of_ble_eq_true rfl) (Nat.le_of_ble_eq_true rfl) hlocks (xthr ⟨(Or.inr ⟨rfl, by simp only [if_true, if_false, Bool.false_eq_true, decide_true, decide_false, c2, c16, d16]⟩), by first | exact TX_r | exact fun i x hi => TX_r i x (by omega)⟩ hP hS) hS.2.2 (Nat.le_of_ble_eq_true rfl) (Nat.le_of_ble_eq_true rfl)

set_option maxHeartbeats 4000000 in
set_option maxRecDepth 100000 in
theorem c_X4_setActual (l : Launch) (hl0 : l.stackTraces = false) (D : va_G) (cs sa : Nat → Nat) (a : Nat → Nat) (M : Nat → Nat → Int32) (N : Nat → Int64) (sz : Nat) (hI : kI a 29) (n : Nat) (act : Nat) (x : Int32) (hn : M 0 0 = nI n) (hn24 : n ≤ 24) (hact : M 0 1 = nI act) (ha24 : act < 24) : vx_Met l yX4_setActual wsX4_setActual ({ frames := 8, cells := 1, slots := 6, locals := 180 } : Room) (va_Pc [.ref (a 0), .int x] (XBT D cs sa a (xc cs a M N) sz)) (va_Qi (fun r (u : Nat → Nat → Int32) => r = nI act ∧ (if (isIn n x) = true then 0 else 1) = 0 ∧ u = wr M 0 1 x) (fun (u : Nat → Nat → Int32) t => va_P D vwCl (xc cs a u N) t.heap) (kA a 29 sz)) (XX D (fun u => xc cs a u N) (fun E u => (E = "java/lang/IndexOutOfBoundsException" ∧ (if (isIn n x) = true then 0 else 1) = 1) ∧ TX M u) (kA a 29 sz)) 1 6 (kA a 29 sz) := by
  refine vx_ofW (cc := cX4_setActual) (maxL := 3) (ret := (some .int)) (by decide) rfl ?_
  intro p e s m args below meth c s₁ B hml htab hv
  obtain ⟨rfl, hsz, hP, hK, hT, hZ⟩ := hv
  have hx := B.exec
  have hb := B.bytes
  have hr := B.returns
  have hts := atoms_spec (ws := wsX4_setActual) B.pre
  have hown : s.vm.findClass RX4 = some m.cls := findClass_of_methodNamed B.named
  have hlocks := B.notSynchronized
  have hK1 := hK.1
  have hinX4 : ∀ w ∈ wsX40, w ∈ wsX4_setActual := fun w h => List.mem_cons_of_mem _ (List.mem_append_left _ (List.mem_append_left _ (List.mem_append_right _ h)))
  have hinX3 : ∀ w ∈ wsX30, w ∈ wsX4_setActual := fun w h => List.mem_cons_of_mem _ (List.mem_append_left _ (List.mem_append_right _ h))
  subst hsz
  have hS : va_S (kA a 29 s.heap.size) s.heap s.heap [] := va_S.rf
  have hl := lv_entry ([.ref (a 0), .int x]) (n := 3) (Nat.le_of_ble_eq_true rfl)
  rw [lg_entry_eq]
  generalize (lg_sl ([.ref (a 0), .int x]) ++ List.replicate (3 - (lg_sl ([.ref (a 0), .int x])).length) Slot.unset).toArray = ls at hl ⊢
  have hl : lv_has ls 3 [(0, .ref (a 0)), (1, .int x)] := hl
  refine W_Q (fun Q hQ => ?_)
  show W p l e ({ frames := 8, cells := 1, slots := 6, locals := 180 } : Room) s m ([.ref (a 0), .int x] : List Value).toArray below meth c s.heap [] 0 0 Q (F0 m 0 ls [])
  refine lv_aload_n hx hb dX4_setActual_0 rfl (lv_at hl 0 rfl) ?_
  refine lv_iload_n hx hb dX4_setActual_1 rfl (lv_at hl 1 rfl) ?_
  refine xcallxv (vx_runV (As := [.int x]) (rest := []) ⟨hx, hb, hml, hown, hts⟩ (c_X4_needWorld l hl0 D cs sa a M N _ hI n x hn (by omega)) (cwV 1 hts gX4_setActual_X4_needWorld rfl rfl rfl (by decide +kernel) ⟨Nat.le_of_ble_eq_true rfl, Nat.le_of_ble_eq_true rfl⟩) (xpreVT hP hK hT hZ hS hS.1 (ci := 4) 0 rfl rfl) rfl rfl hl.1 rfl (lv_room (Nat.le_of_ble_eq_true rfl)) dX4_setActual_2 ⟨Nat.le_of_ble_eq_true rfl, Nat.le_of_ble_eq_true rfl⟩) hS (kAle hS.1) (fun E ce q9 u9 H locs hXE hP hS hce hcv hcl => ?_) (fun u9 H locs hrel hP hS => ?_)
  ·
    obtain ⟨rfl, c2, hue⟩ := hXE
    rw [hue] at hP
    subst hQ
    exact xout (mc := 1) (ms := 6) htab hlocks hce hcv hcl ⟨⟨rfl, by simp only [if_true, if_false, Bool.false_eq_true, decide_true, decide_false, c2]⟩, by first | exact TX_r | exact fun i x hi => TX_r i x (by omega)⟩ hP hS (Nat.le_of_ble_eq_true rfl) (Nat.le_of_ble_eq_true rfl)
  obtain ⟨c2, hue⟩ := hrel
  rw [hue] at hP
  clear hue
  refine W.widen (k := 1) (n := 6) (by decide) (by decide) ?_
  refine lv_aload_n hx hb dX4_setActual_5 rfl (lv_at hl 0 rfl) ?_
  refine va_get (D := D) (ci := 4) (v := .ref (a 1)) (C := RX4) (T := TX4) (N := 4) hx hb hts hinX4 hown hK1 hP 0 rfl rfl 0 (by decide) (hts (.fieldLink RX4 10 "KnowledgeModel" "worlds" "LKnowledgeModel$Worlds;") (List.mem_of_getElem? (i := 1) rfl)) (fun _ h9 => h9) rfl dX4_setActual_6 ?_
  refine va_get (D := D) (ci := 3) (v := .int (M 0 1)) (C := RX3) (T := TX3) (N := 4) hx hb hts hinX3 hown hK1 hP 1 rfl rfl 3 (by decide) (hts (.fieldLink RX4 94 "KnowledgeModel$Worlds" "actualWorld" "I") (List.mem_of_getElem? (i := 2) rfl)) (fun _ h9 => h9) rfl dX4_setActual_9 ?_
  refine xtop (y := nI act) (hact) ?_
  refine lv_istore_n (lv' := [(2, .int (nI act)), (0, .ref (a 0)), (1, .int x)]) hx hb dX4_setActual_12 rfl hl (by decide) rfl (fun ls hl => ?_)
  refine lv_aload_n hx hb dX4_setActual_13 rfl (lv_at hl 1 rfl) ?_
  refine va_get (D := D) (ci := 4) (v := .ref (a 1)) (C := RX4) (T := TX4) (N := 4) hx hb hts hinX4 hown hK1 hP 0 rfl rfl 0 (by decide) (hts (.fieldLink RX4 10 "KnowledgeModel" "worlds" "LKnowledgeModel$Worlds;") (List.mem_of_getElem? (i := 1) rfl)) (fun _ h9 => h9) rfl dX4_setActual_14 ?_
  refine lv_iload_n hx hb dX4_setActual_17 rfl (lv_at hl 2 rfl) ?_
  refine xput (D := D) (ci := 3) (v := .int x) (ty := .int) (C := RX3) (T := TX3) (N := 4) (ws' := xc cs a (wr M 0 1 x) N) hx hb hts hinX3 tyX3 tyX3_ok nmX3 hown hK1 hP (xD hI) hS 1 rfl rfl 3 (by decide) (hts (.fieldLink RX4 94 "KnowledgeModel$Worlds" "actualWorld" "I") (List.mem_of_getElem? (i := 2) rfl)) (fun _ h9 => h9) rfl (by decide +kernel) rfl rfl (Nat.le_of_ble_eq_true rfl) rfl dX4_setActual_18 (fun H locs hP hS => ?_)
  obtain ⟨M_1, hM_1⟩ : ∃ z, z = wr M 0 1 x := ⟨_, rfl⟩
  rw [← hM_1] at hP
  have hk_2 : M_1 0 0 = nI n := by rw [hM_1]; exact (wr_ne (Or.inr (by decide))).trans hn
  refine lv_iload_n hx hb dX4_setActual_21 rfl (lv_at hl 0 rfl) ?_
  subst hQ
  refine vx_ret ?_
  have hrel : (if (isIn n x) = true then 0 else 1) = 0 ∧ M_1 = wr M 0 1 x := by refine ⟨by simp only [if_true, if_false, Bool.false_eq_true, decide_true, decide_false, c2, hM_1], ?_⟩; simp only [fo_0, c2, hM_1]
  have hfin : (nI act) = nI act := by rfl
  exact W.iret hx hb hr (fun t ht hW => ⟨⟨_, M_1, rfl, ⟨hfin, hrel⟩, by rw [← ht] at hP; exact hP⟩, hS.F ht⟩) hS.2.2 dX4_setActual_22

set_option maxHeartbeats 4000000 in
set_option maxRecDepth 100000 in
theorem c_X4_actual (l : Launch) (hl0 : l.stackTraces = false) (D : va_G) (cs sa : Nat → Nat) (a : Nat → Nat) (M : Nat → Nat → Int32) (N : Nat → Int64) (sz : Nat) (hI : kI a 29) (n : Nat) (act : Nat)  (hn : M 0 0 = nI n) (hn24 : n ≤ 24) (hact : M 0 1 = nI act) (ha24 : act < 24) : vx_Met l yX4_actual wsX4_actual ({ frames := 8, cells := 1, slots := 6, locals := 180 } : Room) (va_Pc [.ref (a 0)] (XBT D cs sa a (xc cs a M N) sz)) (va_Qi (fun r (u : Nat → Nat → Int32) => r = nI act ∧ (if (!decide (n = 0)) = true then 0 else 1) = 0 ∧ u = M) (fun (u : Nat → Nat → Int32) t => va_P D vwCl (xc cs a u N) t.heap) (kA a 29 sz)) (XX D (fun u => xc cs a u N) (fun E u => (E = "java/lang/IllegalStateException" ∧ (if (!decide (n = 0)) = true then 0 else 1) = 1) ∧ TX M u) (kA a 29 sz)) 1 6 (kA a 29 sz) := by
  refine vx_ofW (cc := cX4_actual) (maxL := 1) (ret := (some .int)) (by decide) rfl ?_
  intro p e s m args below meth c s₁ B hml htab hv
  obtain ⟨rfl, hsz, hP, hK, hT, hZ⟩ := hv
  have hx := B.exec
  have hb := B.bytes
  have hr := B.returns
  have hts := atoms_spec (ws := wsX4_actual) B.pre
  have hown : s.vm.findClass RX4 = some m.cls := findClass_of_methodNamed B.named
  have hlocks := B.notSynchronized
  have hK1 := hK.1
  have hinX4 : ∀ w ∈ wsX40, w ∈ wsX4_actual := fun w h => List.mem_cons_of_mem _ (List.mem_append_left _ (List.mem_append_left _ (List.mem_append_right _ h)))
  have hinX3 : ∀ w ∈ wsX30, w ∈ wsX4_actual := fun w h => List.mem_cons_of_mem _ (List.mem_append_left _ (List.mem_append_right _ h))
  subst hsz
  have hS : va_S (kA a 29 s.heap.size) s.heap s.heap [] := va_S.rf
  have hl := lv_entry ([.ref (a 0)]) (n := 1) (Nat.le_of_ble_eq_true rfl)
  rw [lg_entry_eq]
  generalize (lg_sl ([.ref (a 0)]) ++ List.replicate (1 - (lg_sl ([.ref (a 0)])).length) Slot.unset).toArray = ls at hl ⊢
  have hl : lv_has ls 1 [(0, .ref (a 0))] := hl
  refine W_Q (fun Q hQ => ?_)
  show W p l e ({ frames := 8, cells := 1, slots := 6, locals := 180 } : Room) s m ([.ref (a 0)] : List Value).toArray below meth c s.heap [] 0 0 Q (F0 m 0 ls [])
  refine lv_aload_n hx hb dX4_actual_0 rfl (lv_at hl 0 rfl) ?_
  refine xcallxv (vx_runV (As := []) (rest := []) ⟨hx, hb, hml, hown, hts⟩ (c_X4_needSomeWorld l hl0 D cs sa a M N _ hI n hn (by omega)) (cwV 0 hts gX4_actual_X4_needSomeWorld rfl rfl rfl (by decide +kernel) ⟨Nat.le_of_ble_eq_true rfl, Nat.le_of_ble_eq_true rfl⟩) (xpreVT hP hK hT hZ hS hS.1 (ci := 4) 0 rfl rfl) rfl rfl hl.1 rfl (lv_room (Nat.le_of_ble_eq_true rfl)) dX4_actual_1 ⟨Nat.le_of_ble_eq_true rfl, Nat.le_of_ble_eq_true rfl⟩) hS (kAle hS.1) (fun E ce q9 u9 H locs hXE hP hS hce hcv hcl => ?_) (fun u9 H locs hrel hP hS => ?_)
  ·
    obtain ⟨rfl, c1, hue⟩ := hXE
    rw [hue] at hP
    subst hQ
    exact xout (mc := 1) (ms := 6) htab hlocks hce hcv hcl ⟨⟨rfl, by simp only [if_true, if_false, Bool.false_eq_true, decide_true, decide_false, c1]⟩, by first | exact TX_r | exact fun i x hi => TX_r i x (by omega)⟩ hP hS (Nat.le_of_ble_eq_true rfl) (Nat.le_of_ble_eq_true rfl)
  obtain ⟨c1, hue⟩ := hrel
  rw [hue] at hP
  clear hue
  refine W.widen (k := 1) (n := 6) (by decide) (by decide) ?_
  refine lv_aload_n hx hb dX4_actual_4 rfl (lv_at hl 0 rfl) ?_
  refine va_get (D := D) (ci := 4) (v := .ref (a 1)) (C := RX4) (T := TX4) (N := 4) hx hb hts hinX4 hown hK1 hP 0 rfl rfl 0 (by decide) (hts (.fieldLink RX4 10 "KnowledgeModel" "worlds" "LKnowledgeModel$Worlds;") (List.mem_of_getElem? (i := 1) rfl)) (fun _ h9 => h9) rfl dX4_actual_5 ?_
  refine va_get (D := D) (ci := 3) (v := .int (M 0 1)) (C := RX3) (T := TX3) (N := 4) hx hb hts hinX3 hown hK1 hP 1 rfl rfl 3 (by decide) (hts (.fieldLink RX4 94 "KnowledgeModel$Worlds" "actualWorld" "I") (List.mem_of_getElem? (i := 2) rfl)) (fun _ h9 => h9) rfl dX4_actual_8 ?_
  refine xtop (y := nI act) (hact) ?_
  subst hQ
  refine vx_ret ?_
  have hrel : (if (!decide (n = 0)) = true then 0 else 1) = 0 ∧ M = M := by refine ⟨by simp only [if_true, if_false, Bool.false_eq_true, decide_true, decide_false, c1], ?_⟩; rfl
  have hfin : (nI act) = nI act := by rfl
  exact W.iret hx hb hr (fun t ht hW => ⟨⟨_, M, rfl, ⟨hfin, hrel⟩, by rw [← ht] at hP; exact hP⟩, hS.F ht⟩) hS.2.2 dX4_actual_11

set_option maxHeartbeats 4000000 in
set_option maxRecDepth 100000 in
theorem c_X4_atoms (l : Launch) (hl0 : l.stackTraces = false) (D : va_G) (cs sa : Nat → Nat) (a : Nat → Nat) (M : Nat → Nat → Int32) (N : Nat → Int64) (sz : Nat) (hI : kI a 29) (n : Nat) (x : Int32) (hn : M 0 0 = nI n) (hn24 : n ≤ 24) : vx_Met l yX4_atoms wsX4_atoms ({ frames := 8, cells := 1, slots := 6, locals := 180 } : Room) (va_Pc [.ref (a 0), .int x] (XBT D cs sa a (xc cs a M N) sz)) (va_Qi (fun r (u : Nat → Nat → Int32) => r = M 1 x.toNatClampNeg ∧ (if (isIn n x) = true then 0 else 1) = 0 ∧ u = M) (fun (u : Nat → Nat → Int32) t => va_P D vwCl (xc cs a u N) t.heap) (kA a 29 sz)) (XX D (fun u => xc cs a u N) (fun E u => (E = "java/lang/IndexOutOfBoundsException" ∧ (if (isIn n x) = true then 0 else 1) = 1) ∧ TX M u) (kA a 29 sz)) 1 6 (kA a 29 sz) := by
  refine vx_ofW (cc := cX4_atoms) (maxL := 2) (ret := (some .int)) (by decide) rfl ?_
  intro p e s m args below meth c s₁ B hml htab hv
  obtain ⟨rfl, hsz, hP, hK, hT, hZ⟩ := hv
  have hx := B.exec
  have hb := B.bytes
  have hr := B.returns
  have hts := atoms_spec (ws := wsX4_atoms) B.pre
  have hown : s.vm.findClass RX4 = some m.cls := findClass_of_methodNamed B.named
  have hlocks := B.notSynchronized
  have hK1 := hK.1
  have hinX4 : ∀ w ∈ wsX40, w ∈ wsX4_atoms := fun w h => List.mem_cons_of_mem _ (List.mem_append_left _ (List.mem_append_left _ (List.mem_append_right _ h)))
  have hinX3 : ∀ w ∈ wsX30, w ∈ wsX4_atoms := fun w h => List.mem_cons_of_mem _ (List.mem_append_left _ (List.mem_append_right _ h))
  subst hsz
  have hS : va_S (kA a 29 s.heap.size) s.heap s.heap [] := va_S.rf
  have hl := lv_entry ([.ref (a 0), .int x]) (n := 2) (Nat.le_of_ble_eq_true rfl)
  rw [lg_entry_eq]
  generalize (lg_sl ([.ref (a 0), .int x]) ++ List.replicate (2 - (lg_sl ([.ref (a 0), .int x])).length) Slot.unset).toArray = ls at hl ⊢
  have hl : lv_has ls 2 [(0, .ref (a 0)), (1, .int x)] := hl
  refine W_Q (fun Q hQ => ?_)
  show W p l e ({ frames := 8, cells := 1, slots := 6, locals := 180 } : Room) s m ([.ref (a 0), .int x] : List Value).toArray below meth c s.heap [] 0 0 Q (F0 m 0 ls [])
  refine lv_aload_n hx hb dX4_atoms_0 rfl (lv_at hl 0 rfl) ?_
  refine lv_iload_n hx hb dX4_atoms_1 rfl (lv_at hl 1 rfl) ?_
  refine xcallxv (vx_runV (As := [.int x]) (rest := []) ⟨hx, hb, hml, hown, hts⟩ (c_X4_needWorld l hl0 D cs sa a M N _ hI n x hn (by omega)) (cwV 1 hts gX4_atoms_X4_needWorld rfl rfl rfl (by decide +kernel) ⟨Nat.le_of_ble_eq_true rfl, Nat.le_of_ble_eq_true rfl⟩) (xpreVT hP hK hT hZ hS hS.1 (ci := 4) 0 rfl rfl) rfl rfl hl.1 rfl (lv_room (Nat.le_of_ble_eq_true rfl)) dX4_atoms_2 ⟨Nat.le_of_ble_eq_true rfl, Nat.le_of_ble_eq_true rfl⟩) hS (kAle hS.1) (fun E ce q9 u9 H locs hXE hP hS hce hcv hcl => ?_) (fun u9 H locs hrel hP hS => ?_)
  ·
    obtain ⟨rfl, c2, hue⟩ := hXE
    rw [hue] at hP
    subst hQ
    exact xout (mc := 1) (ms := 6) htab hlocks hce hcv hcl ⟨⟨rfl, by simp only [if_true, if_false, Bool.false_eq_true, decide_true, decide_false, c2]⟩, by first | exact TX_r | exact fun i x hi => TX_r i x (by omega)⟩ hP hS (Nat.le_of_ble_eq_true rfl) (Nat.le_of_ble_eq_true rfl)
  obtain ⟨c2, hue⟩ := hrel
  rw [hue] at hP
  clear hue
  refine W.widen (k := 1) (n := 6) (by decide) (by decide) ?_
  obtain ⟨hlt_x, heq_x⟩ := isIn_eq (by omega) c2
  have hl : lv_has ls 2 [(0, .ref (a 0)), (1, .int (nI x.toNatClampNeg))] := (lcons (lcons (lzero hl) hl 1 rfl (congrArg Value.int heq_x)) hl 0 rfl rfl)
  refine lv_aload_n hx hb dX4_atoms_5 rfl (lv_at hl 0 rfl) ?_
  refine va_get (D := D) (ci := 4) (v := .ref (a 1)) (C := RX4) (T := TX4) (N := 4) hx hb hts hinX4 hown hK1 hP 0 rfl rfl 0 (by decide) (hts (.fieldLink RX4 10 "KnowledgeModel" "worlds" "LKnowledgeModel$Worlds;") (List.mem_of_getElem? (i := 1) rfl)) (fun _ h9 => h9) rfl dX4_atoms_6 ?_
  refine va_get (D := D) (ci := 3) (v := .ref (a 2)) (C := RX3) (T := TX3) (N := 4) hx hb hts hinX3 hown hK1 hP 1 rfl rfl 0 (by decide) (hts (.fieldLink RX4 63 "KnowledgeModel$Worlds" "atomsAt" "[I") (List.mem_of_getElem? (i := 2) rfl)) (fun _ h9 => h9) rfl dX4_atoms_9 ?_
  refine lv_iload_n hx hb dX4_atoms_12 rfl (lv_at hl 1 rfl) ?_
  refine xiald (j := x.toNatClampNeg) (q0 := 2) (t0 := 0) hx hb hK1 hP rfl rfl (by omega) (by decide) dX4_atoms_13 ?_
  subst hQ
  refine vx_ret ?_
  have hrel : (if (isIn n x) = true then 0 else 1) = 0 ∧ M = M := by refine ⟨by simp only [if_true, if_false, Bool.false_eq_true, decide_true, decide_false, c2], ?_⟩; rfl
  have hfin : (M 1 x.toNatClampNeg) = M 1 x.toNatClampNeg := by rfl
  exact W.iret hx hb hr (fun t ht hW => ⟨⟨_, M, rfl, ⟨hfin, hrel⟩, by rw [← ht] at hP; exact hP⟩, hS.F ht⟩) hS.2.2 dX4_atoms_14

set_option maxHeartbeats 4000000 in
set_option maxRecDepth 100000 in
theorem c_X4_seen (l : Launch) (hl0 : l.stackTraces = false) (D : va_G) (cs sa : Nat → Nat) (a : Nat → Nat) (M : Nat → Nat → Int32) (N : Nat → Int64) (sz : Nat) (hI : kI a 29) (n : Nat) (x : Int32) (y : Int32) (hn : M 0 0 = nI n) (hn24 : n ≤ 24) : vx_Met l yX4_seen wsX4_seen ({ frames := 8, cells := 2, slots := 12, locals := 180 } : Room) (va_Pc [.ref (a 0), .int x, .int y] (XBT D cs sa a (xc cs a M N) sz)) (va_Qi (fun r (u : Nat → Nat → Int32) => r = M (2 + x.toNatClampNeg) y.toNatClampNeg ∧ (if (isIn 4 x) = true then (if (isIn n y) = true then 0 else 1) else 1) = 0 ∧ u = M) (fun (u : Nat → Nat → Int32) t => va_P D vwCl (xc cs a u N) t.heap) (kA a 29 sz)) (XX D (fun u => xc cs a u N) (fun E u => (E = "java/lang/IndexOutOfBoundsException" ∧ (if (isIn 4 x) = true then (if (isIn n y) = true then 0 else 1) else 1) = 1) ∧ TX M u) (kA a 29 sz)) 2 12 (kA a 29 sz) := by
  refine vx_ofW (cc := cX4_seen) (maxL := 3) (ret := (some .int)) (by decide) rfl ?_
  intro p e s m args below meth c s₁ B hml htab hv
  obtain ⟨rfl, hsz, hP, hK, hT, hZ⟩ := hv
  have hx := B.exec
  have hb := B.bytes
  have hr := B.returns
  have hts := atoms_spec (ws := wsX4_seen) B.pre
  have hown : s.vm.findClass RX4 = some m.cls := findClass_of_methodNamed B.named
  have hlocks := B.notSynchronized
  have hK1 := hK.1
  have hinX4 : ∀ w ∈ wsX40, w ∈ wsX4_seen := fun w h => List.mem_cons_of_mem _ (List.mem_append_left _ (List.mem_append_left _ (List.mem_append_right _ h)))
  have hinX3 : ∀ w ∈ wsX30, w ∈ wsX4_seen := fun w h => List.mem_cons_of_mem _ (List.mem_append_left _ (List.mem_append_right _ h))
  subst hsz
  have hS : va_S (kA a 29 s.heap.size) s.heap s.heap [] := va_S.rf
  have hl := lv_entry ([.ref (a 0), .int x, .int y]) (n := 3) (Nat.le_of_ble_eq_true rfl)
  rw [lg_entry_eq]
  generalize (lg_sl ([.ref (a 0), .int x, .int y]) ++ List.replicate (3 - (lg_sl ([.ref (a 0), .int x, .int y])).length) Slot.unset).toArray = ls at hl ⊢
  have hl : lv_has ls 3 [(0, .ref (a 0)), (1, .int x), (2, .int y)] := hl
  refine W_Q (fun Q hQ => ?_)
  show W p l e ({ frames := 8, cells := 2, slots := 12, locals := 180 } : Room) s m ([.ref (a 0), .int x, .int y] : List Value).toArray below meth c s.heap [] 0 0 Q (F0 m 0 ls [])
  refine lv_aload_n hx hb dX4_seen_0 rfl (lv_at hl 0 rfl) ?_
  refine lv_iload_n hx hb dX4_seen_1 rfl (lv_at hl 1 rfl) ?_
  refine xcallxv (vx_runV (As := [.int x]) (rest := []) ⟨hx, hb, hml, hown, hts⟩ (c_X4_needAgent l hl0 D cs sa a M N _ hI x) (cwV 1 hts gX4_seen_X4_needAgent rfl rfl rfl (by decide +kernel) ⟨Nat.le_of_ble_eq_true rfl, Nat.le_of_ble_eq_true rfl⟩) (xpreVT hP hK hT hZ hS hS.1 (ci := 4) 0 rfl rfl) rfl rfl hl.1 rfl (lv_room (Nat.le_of_ble_eq_true rfl)) dX4_seen_2 ⟨Nat.le_of_ble_eq_true rfl, Nat.le_of_ble_eq_true rfl⟩) hS (kAle hS.1) (fun E ce q9 u9 H locs hXE hP hS hce hcv hcl => ?_) (fun u9 H locs hrel hP hS => ?_)
  ·
    obtain ⟨rfl, c2, hue⟩ := hXE
    rw [hue] at hP
    subst hQ
    exact xout (mc := 2) (ms := 12) htab hlocks hce hcv hcl ⟨⟨rfl, by simp only [if_true, if_false, Bool.false_eq_true, decide_true, decide_false, c2]⟩, by first | exact TX_r | exact fun i x hi => TX_r i x (by omega)⟩ hP hS (Nat.le_of_ble_eq_true rfl) (Nat.le_of_ble_eq_true rfl)
  obtain ⟨c2, hue⟩ := hrel
  rw [hue] at hP
  clear hue
  refine W.widen (k := 1) (n := 6) (by decide) (by decide) ?_
  refine lv_aload_n hx hb dX4_seen_5 rfl (lv_at hl 0 rfl) ?_
  refine lv_iload_n hx hb dX4_seen_6 rfl (lv_at hl 2 rfl) ?_
  refine xcallxv (vx_runV (As := [.int y]) (rest := []) ⟨hx, hb, hml, hown, hts⟩ (c_X4_needWorld l hl0 D cs sa a M N _ hI n y hn (by omega)) (cwV 1 hts gX4_seen_X4_needWorld rfl rfl rfl (by decide +kernel) ⟨Nat.le_of_ble_eq_true rfl, Nat.le_of_ble_eq_true rfl⟩) (xpreVT hP hK hT hZ hS hS.1 (ci := 4) 0 rfl rfl) rfl rfl hl.1 rfl (lv_room (Nat.le_of_ble_eq_true rfl)) dX4_seen_7 ⟨Nat.le_of_ble_eq_true rfl, Nat.le_of_ble_eq_true rfl⟩) hS (kAle hS.1) (fun E ce q9 u9 H locs hXE hP hS hce hcv hcl => ?_) (fun u9 H locs hrel hP hS => ?_)
  ·
    obtain ⟨rfl, c7, hue⟩ := hXE
    rw [hue] at hP
    subst hQ
    exact xout (mc := 2) (ms := 12) htab hlocks hce hcv hcl ⟨⟨rfl, by simp only [if_true, if_false, Bool.false_eq_true, decide_true, decide_false, c2, c7]⟩, by first | exact TX_r | exact fun i x hi => TX_r i x (by omega)⟩ hP hS (Nat.le_of_ble_eq_true rfl) (Nat.le_of_ble_eq_true rfl)
  obtain ⟨c7, hue⟩ := hrel
  rw [hue] at hP
  clear hue
  refine W.widen (k := 2) (n := 12) (by decide) (by decide) ?_
  obtain ⟨hlt_x, heq_x⟩ := isIn_eq (by omega) c2
  have hl : lv_has ls 3 [(0, .ref (a 0)), (1, .int (nI x.toNatClampNeg)), (2, .int y)] := (lcons (lcons (lcons (lzero hl) hl 2 rfl rfl) hl 1 rfl (congrArg Value.int heq_x)) hl 0 rfl rfl)
  obtain ⟨hlt_y, heq_y⟩ := isIn_eq (by omega) c7
  have hl : lv_has ls 3 [(0, .ref (a 0)), (1, .int (nI x.toNatClampNeg)), (2, .int (nI y.toNatClampNeg))] := (lcons (lcons (lcons (lzero hl) hl 2 rfl (congrArg Value.int heq_y)) hl 1 rfl rfl) hl 0 rfl rfl)
  refine lv_aload_n hx hb dX4_seen_10 rfl (lv_at hl 0 rfl) ?_
  refine va_get (D := D) (ci := 4) (v := .ref (a 1)) (C := RX4) (T := TX4) (N := 4) hx hb hts hinX4 hown hK1 hP 0 rfl rfl 0 (by decide) (hts (.fieldLink RX4 10 "KnowledgeModel" "worlds" "LKnowledgeModel$Worlds;") (List.mem_of_getElem? (i := 1) rfl)) (fun _ h9 => h9) rfl dX4_seen_11 ?_
  refine va_get (D := D) (ci := 3) (v := .ref (a 3)) (C := RX3) (T := TX3) (N := 4) hx hb hts hinX3 hown hK1 hP 1 rfl rfl 1 (by decide) (hts (.fieldLink RX4 70 "KnowledgeModel$Worlds" "arrows" "[[I") (List.mem_of_getElem? (i := 2) rfl)) (fun _ h9 => h9) rfl dX4_seen_14 ?_
  refine lv_iload_n hx hb dX4_seen_17 rfl (lv_at hl 1 rfl) ?_
  refine xaald (j := x.toNatClampNeg) (q0 := 3) (t0 := 2) (f := fun i => a (4 + i)) hx hb hK1 hP rfl rfl (by omega) (by decide) dX4_seen_18 ?_
  refine lv_iload_n hx hb dX4_seen_19 rfl (lv_at hl 2 rfl) ?_
  refine xiald (j := y.toNatClampNeg) (q0 := (4 + x.toNatClampNeg)) (t0 := 0) hx hb hK1 hP (xg_ar (by omega)) rfl (by omega) (by decide) dX4_seen_20 ?_
  subst hQ
  refine vx_ret ?_
  have hrel : (if (isIn 4 x) = true then (if (isIn n y) = true then 0 else 1) else 1) = 0 ∧ M = M := by refine ⟨by simp only [if_true, if_false, Bool.false_eq_true, decide_true, decide_false, c2, c7], ?_⟩; rfl
  have hfin : (M (2 + x.toNatClampNeg) y.toNatClampNeg) = M (2 + x.toNatClampNeg) y.toNatClampNeg := by rfl
  exact W.iret hx hb hr (fun t ht hW => ⟨⟨_, M, rfl, ⟨hfin, hrel⟩, by rw [← ht] at hP; exact hP⟩, hS.F ht⟩) hS.2.2 dX4_seen_21

set_option maxHeartbeats 4000000 in
set_option maxRecDepth 100000 in
theorem c_X4_arrowCount (l : Launch) (hl0 : l.stackTraces = false) (D : va_G) (cs sa : Nat → Nat) (a : Nat → Nat) (M : Nat → Nat → Int32) (N : Nat → Int64) (sz : Nat) (hI : kI a 29) (n : Nat) (x : Int32) (hn : M 0 0 = nI n) (hn24 : n ≤ 24) : vx_Met l yX4_arrowCount wsX4_arrowCount ({ frames := 8, cells := 1, slots := 6, locals := 180 } : Room) (va_Pc [.ref (a 0), .int x] (XBT D cs sa a (xc cs a M N) sz)) (va_Qi (fun r (u : Nat → Nat → Int32) => r = countArr M n x.toNatClampNeg ∧ (if (isIn 4 x) = true then 0 else 1) = 0 ∧ u = M) (fun (u : Nat → Nat → Int32) t => va_P D vwCl (xc cs a u N) t.heap) (kA a 29 sz)) (XX D (fun u => xc cs a u N) (fun E u => (E = "java/lang/IndexOutOfBoundsException" ∧ (if (isIn 4 x) = true then 0 else 1) = 1) ∧ TX M u) (kA a 29 sz)) 1 6 (kA a 29 sz) := by
  refine vx_ofW (cc := cX4_arrowCount) (maxL := 2) (ret := (some .int)) (by decide) rfl ?_
  intro p e s m args below meth c s₁ B hml htab hv
  obtain ⟨rfl, hsz, hP, hK, hT, hZ⟩ := hv
  have hx := B.exec
  have hb := B.bytes
  have hr := B.returns
  have hts := atoms_spec (ws := wsX4_arrowCount) B.pre
  have hown : s.vm.findClass RX4 = some m.cls := findClass_of_methodNamed B.named
  have hlocks := B.notSynchronized
  have hK1 := hK.1
  have hinX4 : ∀ w ∈ wsX40, w ∈ wsX4_arrowCount := fun w h => List.mem_cons_of_mem _ (List.mem_append_left _ (List.mem_append_left _ (List.mem_append_right _ h)))
  have hinX3 : ∀ w ∈ wsX30, w ∈ wsX4_arrowCount := fun w h => List.mem_cons_of_mem _ (List.mem_append_left _ (List.mem_append_right _ h))
  subst hsz
  have hS : va_S (kA a 29 s.heap.size) s.heap s.heap [] := va_S.rf
  have hl := lv_entry ([.ref (a 0), .int x]) (n := 2) (Nat.le_of_ble_eq_true rfl)
  rw [lg_entry_eq]
  generalize (lg_sl ([.ref (a 0), .int x]) ++ List.replicate (2 - (lg_sl ([.ref (a 0), .int x])).length) Slot.unset).toArray = ls at hl ⊢
  have hl : lv_has ls 2 [(0, .ref (a 0)), (1, .int x)] := hl
  refine W_Q (fun Q hQ => ?_)
  show W p l e ({ frames := 8, cells := 1, slots := 6, locals := 180 } : Room) s m ([.ref (a 0), .int x] : List Value).toArray below meth c s.heap [] 0 0 Q (F0 m 0 ls [])
  refine lv_aload_n hx hb dX4_arrowCount_0 rfl (lv_at hl 0 rfl) ?_
  refine lv_iload_n hx hb dX4_arrowCount_1 rfl (lv_at hl 1 rfl) ?_
  refine xcallxv (vx_runV (As := [.int x]) (rest := []) ⟨hx, hb, hml, hown, hts⟩ (c_X4_needAgent l hl0 D cs sa a M N _ hI x) (cwV 1 hts gX4_arrowCount_X4_needAgent rfl rfl rfl (by decide +kernel) ⟨Nat.le_of_ble_eq_true rfl, Nat.le_of_ble_eq_true rfl⟩) (xpreVT hP hK hT hZ hS hS.1 (ci := 4) 0 rfl rfl) rfl rfl hl.1 rfl (lv_room (Nat.le_of_ble_eq_true rfl)) dX4_arrowCount_2 ⟨Nat.le_of_ble_eq_true rfl, Nat.le_of_ble_eq_true rfl⟩) hS (kAle hS.1) (fun E ce q9 u9 H locs hXE hP hS hce hcv hcl => ?_) (fun u9 H locs hrel hP hS => ?_)
  ·
    obtain ⟨rfl, c2, hue⟩ := hXE
    rw [hue] at hP
    subst hQ
    exact xout (mc := 1) (ms := 6) htab hlocks hce hcv hcl ⟨⟨rfl, by simp only [if_true, if_false, Bool.false_eq_true, decide_true, decide_false, c2]⟩, by first | exact TX_r | exact fun i x hi => TX_r i x (by omega)⟩ hP hS (Nat.le_of_ble_eq_true rfl) (Nat.le_of_ble_eq_true rfl)
  obtain ⟨c2, hue⟩ := hrel
  rw [hue] at hP
  clear hue
  refine W.widen (k := 1) (n := 6) (by decide) (by decide) ?_
  obtain ⟨hlt_x, heq_x⟩ := isIn_eq (by omega) c2
  have hl : lv_has ls 2 [(0, .ref (a 0)), (1, .int (nI x.toNatClampNeg))] := (lcons (lcons (lzero hl) hl 1 rfl (congrArg Value.int heq_x)) hl 0 rfl rfl)
  refine lv_aload_n hx hb dX4_arrowCount_5 rfl (lv_at hl 0 rfl) ?_
  refine va_get (D := D) (ci := 4) (v := .ref (a 1)) (C := RX4) (T := TX4) (N := 4) hx hb hts hinX4 hown hK1 hP 0 rfl rfl 0 (by decide) (hts (.fieldLink RX4 10 "KnowledgeModel" "worlds" "LKnowledgeModel$Worlds;") (List.mem_of_getElem? (i := 1) rfl)) (fun _ h9 => h9) rfl dX4_arrowCount_6 ?_
  refine lv_iload_n hx hb dX4_arrowCount_9 rfl (lv_at hl 1 rfl) ?_
  refine xcalli (va_runV (As := [.int (nI x.toNatClampNeg)]) (rest := []) ⟨hx, hb, hml, hown, hts⟩ (c_X3_countArrows l D cs a M N n x.toNatClampNeg (by omega) hn (by omega)) (cwV 1 hts gX4_arrowCount_X3_countArrows rfl rfl rfl (by decide +kernel) ⟨Nat.le_of_ble_eq_true rfl, Nat.le_of_ble_eq_true rfl⟩) (xpreV hP hK (ci := 3) 1 rfl rfl) rfl rfl hl.1 rfl (lv_room (Nat.le_of_ble_eq_true rfl)) dX4_arrowCount_10 ⟨Nat.le_of_ble_eq_true rfl, Nat.le_of_ble_eq_true rfl⟩) hS hP (fun H locs hP hS => ?_)
  subst hQ
  refine vx_ret ?_
  have hrel : (if (isIn 4 x) = true then 0 else 1) = 0 ∧ M = M := by refine ⟨by simp only [if_true, if_false, Bool.false_eq_true, decide_true, decide_false, c2], ?_⟩; rfl
  have hfin : (countArr M n x.toNatClampNeg) = countArr M n x.toNatClampNeg := by rfl
  exact W.iret hx hb hr (fun t ht hW => ⟨⟨_, M, rfl, ⟨hfin, hrel⟩, by rw [← ht] at hP; exact hP⟩, hS.F ht⟩) hS.2.2 dX4_arrowCount_13

set_option maxHeartbeats 4000000 in
set_option maxRecDepth 100000 in
theorem c_X4_shape (l : Launch) (hl0 : l.stackTraces = false) (D : va_G) (cs sa : Nat → Nat) (a : Nat → Nat) (M : Nat → Nat → Int32) (N : Nat → Int64) (sz : Nat) (hI : kI a 29) (n : Nat) (x : Int32) (hn : M 0 0 = nI n) (hn24 : n ≤ 24) : vx_Met l yX4_shape wsX4_shape ({ frames := 8, cells := 1, slots := 6, locals := 180 } : Room) (va_Pc [.ref (a 0), .int x] (XBT D cs sa a (xc cs a M N) sz)) (va_Qi (fun r (u : Nat → Nat → Int32) => r = nI ((if isRefl M n x.toNatClampNeg = true then 1 else 0) + (if isSym M n x.toNatClampNeg = true then 2 else 0) + (if isTrans M n x.toNatClampNeg = true then 4 else 0)) ∧ (if (isIn 4 x) = true then 0 else 1) = 0 ∧ u = M) (fun (u : Nat → Nat → Int32) t => va_P D vwCl (xc cs a u N) t.heap) (kA a 29 sz)) (XX D (fun u => xc cs a u N) (fun E u => (E = "java/lang/IndexOutOfBoundsException" ∧ (if (isIn 4 x) = true then 0 else 1) = 1) ∧ TX M u) (kA a 29 sz)) 1 6 (kA a 29 sz) := by
  refine vx_ofW (cc := cX4_shape) (maxL := 2) (ret := (some .int)) (by decide) rfl ?_
  intro p e s m args below meth c s₁ B hml htab hv
  obtain ⟨rfl, hsz, hP, hK, hT, hZ⟩ := hv
  have hx := B.exec
  have hb := B.bytes
  have hr := B.returns
  have hts := atoms_spec (ws := wsX4_shape) B.pre
  have hown : s.vm.findClass RX4 = some m.cls := findClass_of_methodNamed B.named
  have hlocks := B.notSynchronized
  have hK1 := hK.1
  have hinX4 : ∀ w ∈ wsX40, w ∈ wsX4_shape := fun w h => List.mem_cons_of_mem _ (List.mem_append_left _ (List.mem_append_left _ (List.mem_append_right _ h)))
  have hinX3 : ∀ w ∈ wsX30, w ∈ wsX4_shape := fun w h => List.mem_cons_of_mem _ (List.mem_append_left _ (List.mem_append_right _ h))
  subst hsz
  have hS : va_S (kA a 29 s.heap.size) s.heap s.heap [] := va_S.rf
  have hl := lv_entry ([.ref (a 0), .int x]) (n := 2) (Nat.le_of_ble_eq_true rfl)
  rw [lg_entry_eq]
  generalize (lg_sl ([.ref (a 0), .int x]) ++ List.replicate (2 - (lg_sl ([.ref (a 0), .int x])).length) Slot.unset).toArray = ls at hl ⊢
  have hl : lv_has ls 2 [(0, .ref (a 0)), (1, .int x)] := hl
  refine W_Q (fun Q hQ => ?_)
  show W p l e ({ frames := 8, cells := 1, slots := 6, locals := 180 } : Room) s m ([.ref (a 0), .int x] : List Value).toArray below meth c s.heap [] 0 0 Q (F0 m 0 ls [])
  refine lv_aload_n hx hb dX4_shape_0 rfl (lv_at hl 0 rfl) ?_
  refine lv_iload_n hx hb dX4_shape_1 rfl (lv_at hl 1 rfl) ?_
  refine xcallxv (vx_runV (As := [.int x]) (rest := []) ⟨hx, hb, hml, hown, hts⟩ (c_X4_needAgent l hl0 D cs sa a M N _ hI x) (cwV 1 hts gX4_shape_X4_needAgent rfl rfl rfl (by decide +kernel) ⟨Nat.le_of_ble_eq_true rfl, Nat.le_of_ble_eq_true rfl⟩) (xpreVT hP hK hT hZ hS hS.1 (ci := 4) 0 rfl rfl) rfl rfl hl.1 rfl (lv_room (Nat.le_of_ble_eq_true rfl)) dX4_shape_2 ⟨Nat.le_of_ble_eq_true rfl, Nat.le_of_ble_eq_true rfl⟩) hS (kAle hS.1) (fun E ce q9 u9 H locs hXE hP hS hce hcv hcl => ?_) (fun u9 H locs hrel hP hS => ?_)
  ·
    obtain ⟨rfl, c2, hue⟩ := hXE
    rw [hue] at hP
    subst hQ
    exact xout (mc := 1) (ms := 6) htab hlocks hce hcv hcl ⟨⟨rfl, by simp only [if_true, if_false, Bool.false_eq_true, decide_true, decide_false, c2]⟩, by first | exact TX_r | exact fun i x hi => TX_r i x (by omega)⟩ hP hS (Nat.le_of_ble_eq_true rfl) (Nat.le_of_ble_eq_true rfl)
  obtain ⟨c2, hue⟩ := hrel
  rw [hue] at hP
  clear hue
  refine W.widen (k := 1) (n := 6) (by decide) (by decide) ?_
  obtain ⟨hlt_x, heq_x⟩ := isIn_eq (by omega) c2
  have hl : lv_has ls 2 [(0, .ref (a 0)), (1, .int (nI x.toNatClampNeg))] := (lcons (lcons (lzero hl) hl 1 rfl (congrArg Value.int heq_x)) hl 0 rfl rfl)
  refine lv_aload_n hx hb dX4_shape_5 rfl (lv_at hl 0 rfl) ?_
  refine va_get (D := D) (ci := 4) (v := .ref (a 1)) (C := RX4) (T := TX4) (N := 4) hx hb hts hinX4 hown hK1 hP 0 rfl rfl 0 (by decide) (hts (.fieldLink RX4 10 "KnowledgeModel" "worlds" "LKnowledgeModel$Worlds;") (List.mem_of_getElem? (i := 1) rfl)) (fun _ h9 => h9) rfl dX4_shape_6 ?_
  refine lv_iload_n hx hb dX4_shape_9 rfl (lv_at hl 1 rfl) ?_
  refine xcalli (va_runV (As := [.int (nI x.toNatClampNeg)]) (rest := []) ⟨hx, hb, hml, hown, hts⟩ (c_X3_isReflexive l D cs a M N n x.toNatClampNeg (by omega) hn (by omega)) (cwV 1 hts gX4_shape_X3_isReflexive rfl rfl rfl (by decide +kernel) ⟨Nat.le_of_ble_eq_true rfl, Nat.le_of_ble_eq_true rfl⟩) (xpreV hP hK (ci := 3) 1 rfl rfl) rfl rfl hl.1 rfl (lv_room (Nat.le_of_ble_eq_true rfl)) dX4_shape_10 ⟨Nat.le_of_ble_eq_true rfl, Nat.le_of_ble_eq_true rfl⟩) hS hP (fun H locs hP hS => ?_)
  refine lv_if_eq (tgt := 20) hx hb dX4_shape_13 (by decide) (fun c13 => ?_) (fun c13 => ?_)
  ·
    replace c13 := bI_0 c13
    refine lv_iconst (v := (nI 0)) hx hb dX4_shape_20 (by decide) ?_
    refine lv_aload_n hx hb dX4_shape_21 rfl (lv_at hl 0 rfl) ?_
    refine va_get (D := D) (ci := 4) (v := .ref (a 1)) (C := RX4) (T := TX4) (N := 4) hx hb hts hinX4 hown hK1 hP 0 rfl rfl 0 (by decide) (hts (.fieldLink RX4 10 "KnowledgeModel" "worlds" "LKnowledgeModel$Worlds;") (List.mem_of_getElem? (i := 1) rfl)) (fun _ h9 => h9) rfl dX4_shape_22 ?_
    refine lv_iload_n hx hb dX4_shape_25 rfl (lv_at hl 1 rfl) ?_
    refine xcalli (va_runV (As := [.int (nI x.toNatClampNeg)]) (rest := [.int (nI 0)]) ⟨hx, hb, hml, hown, hts⟩ (c_X3_isSymmetric l D cs a M N n x.toNatClampNeg (by omega) hn (by omega)) (cwV 1 hts gX4_shape_X3_isSymmetric rfl rfl rfl (by decide +kernel) ⟨Nat.le_of_ble_eq_true rfl, Nat.le_of_ble_eq_true rfl⟩) (xpreV hP hK (ci := 3) 1 rfl rfl) rfl rfl hl.1 rfl (lv_room (Nat.le_of_ble_eq_true rfl)) dX4_shape_26 ⟨Nat.le_of_ble_eq_true rfl, Nat.le_of_ble_eq_true rfl⟩) hS hP (fun H locs hP hS => ?_)
    refine lv_if_eq (tgt := 36) hx hb dX4_shape_29 (by decide) (fun c29 => ?_) (fun c29 => ?_)
    ·
      replace c29 := bI_0 c29
      refine lv_iconst (v := (nI 0)) hx hb dX4_shape_36 (by decide) ?_
      refine xiadd hx hb dX4_shape_37 ?_
      refine lv_aload_n hx hb dX4_shape_38 rfl (lv_at hl 0 rfl) ?_
      refine va_get (D := D) (ci := 4) (v := .ref (a 1)) (C := RX4) (T := TX4) (N := 4) hx hb hts hinX4 hown hK1 hP 0 rfl rfl 0 (by decide) (hts (.fieldLink RX4 10 "KnowledgeModel" "worlds" "LKnowledgeModel$Worlds;") (List.mem_of_getElem? (i := 1) rfl)) (fun _ h9 => h9) rfl dX4_shape_39 ?_
      refine lv_iload_n hx hb dX4_shape_42 rfl (lv_at hl 1 rfl) ?_
      refine xcalli (va_runV (As := [.int (nI x.toNatClampNeg)]) (rest := [.int (nI (0 + 0))]) ⟨hx, hb, hml, hown, hts⟩ (c_X3_isTransitive l D cs a M N n x.toNatClampNeg (by omega) hn (by omega)) (cwV 1 hts gX4_shape_X3_isTransitive rfl rfl rfl (by decide +kernel) ⟨Nat.le_of_ble_eq_true rfl, Nat.le_of_ble_eq_true rfl⟩) (xpreV hP hK (ci := 3) 1 rfl rfl) rfl rfl hl.1 rfl (lv_room (Nat.le_of_ble_eq_true rfl)) dX4_shape_43 ⟨Nat.le_of_ble_eq_true rfl, Nat.le_of_ble_eq_true rfl⟩) hS hP (fun H locs hP hS => ?_)
      refine lv_if_eq (tgt := 53) hx hb dX4_shape_46 (by decide) (fun c46 => ?_) (fun c46 => ?_)
      ·
        replace c46 := bI_0 c46
        refine lv_iconst (v := (nI 0)) hx hb dX4_shape_53 (by decide) ?_
        refine xiadd hx hb dX4_shape_54 ?_
        subst hQ
        refine vx_ret ?_
        have hrel : (if (isIn 4 x) = true then 0 else 1) = 0 ∧ M = M := by refine ⟨by simp only [if_true, if_false, Bool.false_eq_true, decide_true, decide_false, c2, c13, c29, c46], ?_⟩; rfl
        have hfin : (nI ((0 + 0) + 0)) = nI ((if isRefl M n x.toNatClampNeg = true then 1 else 0) + (if isSym M n x.toNatClampNeg = true then 2 else 0) + (if isTrans M n x.toNatClampNeg = true then 4 else 0)) := by simp only [if_true, if_false, Bool.false_eq_true, decide_true, decide_false, c2, c13, c29, c46]
        exact W.iret hx hb hr (fun t ht hW => ⟨⟨_, M, rfl, ⟨hfin, hrel⟩, by rw [← ht] at hP; exact hP⟩, hS.F ht⟩) hS.2.2 dX4_shape_55
      ·
        replace c46 := bI_n0 c46
        refine lv_iconst (v := (nI 4)) hx hb dX4_shape_49 (by decide) ?_
        refine lv_goto (tgt := 54) hx hb dX4_shape_50 (by decide) ?_
        refine xiadd hx hb dX4_shape_54 ?_
        subst hQ
        refine vx_ret ?_
        have hrel : (if (isIn 4 x) = true then 0 else 1) = 0 ∧ M = M := by refine ⟨by simp only [if_true, if_false, Bool.false_eq_true, decide_true, decide_false, c2, c13, c29, c46], ?_⟩; rfl
        have hfin : (nI ((0 + 0) + 4)) = nI ((if isRefl M n x.toNatClampNeg = true then 1 else 0) + (if isSym M n x.toNatClampNeg = true then 2 else 0) + (if isTrans M n x.toNatClampNeg = true then 4 else 0)) := by simp only [if_true, if_false, Bool.false_eq_true, decide_true, decide_false, c2, c13, c29, c46]
        exact W.iret hx hb hr (fun t ht hW => ⟨⟨_, M, rfl, ⟨hfin, hrel⟩, by rw [← ht] at hP; exact hP⟩, hS.F ht⟩) hS.2.2 dX4_shape_55
    ·
      replace c29 := bI_n0 c29
      refine lv_iconst (v := (nI 2)) hx hb dX4_shape_32 (by decide) ?_
      refine lv_goto (tgt := 37) hx hb dX4_shape_33 (by decide) ?_
      refine xiadd hx hb dX4_shape_37 ?_
      refine lv_aload_n hx hb dX4_shape_38 rfl (lv_at hl 0 rfl) ?_
      refine va_get (D := D) (ci := 4) (v := .ref (a 1)) (C := RX4) (T := TX4) (N := 4) hx hb hts hinX4 hown hK1 hP 0 rfl rfl 0 (by decide) (hts (.fieldLink RX4 10 "KnowledgeModel" "worlds" "LKnowledgeModel$Worlds;") (List.mem_of_getElem? (i := 1) rfl)) (fun _ h9 => h9) rfl dX4_shape_39 ?_
      refine lv_iload_n hx hb dX4_shape_42 rfl (lv_at hl 1 rfl) ?_
      refine xcalli (va_runV (As := [.int (nI x.toNatClampNeg)]) (rest := [.int (nI (0 + 2))]) ⟨hx, hb, hml, hown, hts⟩ (c_X3_isTransitive l D cs a M N n x.toNatClampNeg (by omega) hn (by omega)) (cwV 1 hts gX4_shape_X3_isTransitive rfl rfl rfl (by decide +kernel) ⟨Nat.le_of_ble_eq_true rfl, Nat.le_of_ble_eq_true rfl⟩) (xpreV hP hK (ci := 3) 1 rfl rfl) rfl rfl hl.1 rfl (lv_room (Nat.le_of_ble_eq_true rfl)) dX4_shape_43 ⟨Nat.le_of_ble_eq_true rfl, Nat.le_of_ble_eq_true rfl⟩) hS hP (fun H locs hP hS => ?_)
      refine lv_if_eq (tgt := 53) hx hb dX4_shape_46 (by decide) (fun c46 => ?_) (fun c46 => ?_)
      ·
        replace c46 := bI_0 c46
        refine lv_iconst (v := (nI 0)) hx hb dX4_shape_53 (by decide) ?_
        refine xiadd hx hb dX4_shape_54 ?_
        subst hQ
        refine vx_ret ?_
        have hrel : (if (isIn 4 x) = true then 0 else 1) = 0 ∧ M = M := by refine ⟨by simp only [if_true, if_false, Bool.false_eq_true, decide_true, decide_false, c2, c13, c29, c46], ?_⟩; rfl
        have hfin : (nI ((0 + 2) + 0)) = nI ((if isRefl M n x.toNatClampNeg = true then 1 else 0) + (if isSym M n x.toNatClampNeg = true then 2 else 0) + (if isTrans M n x.toNatClampNeg = true then 4 else 0)) := by simp only [if_true, if_false, Bool.false_eq_true, decide_true, decide_false, c2, c13, c29, c46]
        exact W.iret hx hb hr (fun t ht hW => ⟨⟨_, M, rfl, ⟨hfin, hrel⟩, by rw [← ht] at hP; exact hP⟩, hS.F ht⟩) hS.2.2 dX4_shape_55
      ·
        replace c46 := bI_n0 c46
        refine lv_iconst (v := (nI 4)) hx hb dX4_shape_49 (by decide) ?_
        refine lv_goto (tgt := 54) hx hb dX4_shape_50 (by decide) ?_
        refine xiadd hx hb dX4_shape_54 ?_
        subst hQ
        refine vx_ret ?_
        have hrel : (if (isIn 4 x) = true then 0 else 1) = 0 ∧ M = M := by refine ⟨by simp only [if_true, if_false, Bool.false_eq_true, decide_true, decide_false, c2, c13, c29, c46], ?_⟩; rfl
        have hfin : (nI ((0 + 2) + 4)) = nI ((if isRefl M n x.toNatClampNeg = true then 1 else 0) + (if isSym M n x.toNatClampNeg = true then 2 else 0) + (if isTrans M n x.toNatClampNeg = true then 4 else 0)) := by simp only [if_true, if_false, Bool.false_eq_true, decide_true, decide_false, c2, c13, c29, c46]
        exact W.iret hx hb hr (fun t ht hW => ⟨⟨_, M, rfl, ⟨hfin, hrel⟩, by rw [← ht] at hP; exact hP⟩, hS.F ht⟩) hS.2.2 dX4_shape_55
  ·
    replace c13 := bI_n0 c13
    refine lv_iconst (v := (nI 1)) hx hb dX4_shape_16 (by decide) ?_
    refine lv_goto (tgt := 21) hx hb dX4_shape_17 (by decide) ?_
    refine lv_aload_n hx hb dX4_shape_21 rfl (lv_at hl 0 rfl) ?_
    refine va_get (D := D) (ci := 4) (v := .ref (a 1)) (C := RX4) (T := TX4) (N := 4) hx hb hts hinX4 hown hK1 hP 0 rfl rfl 0 (by decide) (hts (.fieldLink RX4 10 "KnowledgeModel" "worlds" "LKnowledgeModel$Worlds;") (List.mem_of_getElem? (i := 1) rfl)) (fun _ h9 => h9) rfl dX4_shape_22 ?_
    refine lv_iload_n hx hb dX4_shape_25 rfl (lv_at hl 1 rfl) ?_
    refine xcalli (va_runV (As := [.int (nI x.toNatClampNeg)]) (rest := [.int (nI 1)]) ⟨hx, hb, hml, hown, hts⟩ (c_X3_isSymmetric l D cs a M N n x.toNatClampNeg (by omega) hn (by omega)) (cwV 1 hts gX4_shape_X3_isSymmetric rfl rfl rfl (by decide +kernel) ⟨Nat.le_of_ble_eq_true rfl, Nat.le_of_ble_eq_true rfl⟩) (xpreV hP hK (ci := 3) 1 rfl rfl) rfl rfl hl.1 rfl (lv_room (Nat.le_of_ble_eq_true rfl)) dX4_shape_26 ⟨Nat.le_of_ble_eq_true rfl, Nat.le_of_ble_eq_true rfl⟩) hS hP (fun H locs hP hS => ?_)
    refine lv_if_eq (tgt := 36) hx hb dX4_shape_29 (by decide) (fun c29 => ?_) (fun c29 => ?_)
    ·
      replace c29 := bI_0 c29
      refine lv_iconst (v := (nI 0)) hx hb dX4_shape_36 (by decide) ?_
      refine xiadd hx hb dX4_shape_37 ?_
      refine lv_aload_n hx hb dX4_shape_38 rfl (lv_at hl 0 rfl) ?_
      refine va_get (D := D) (ci := 4) (v := .ref (a 1)) (C := RX4) (T := TX4) (N := 4) hx hb hts hinX4 hown hK1 hP 0 rfl rfl 0 (by decide) (hts (.fieldLink RX4 10 "KnowledgeModel" "worlds" "LKnowledgeModel$Worlds;") (List.mem_of_getElem? (i := 1) rfl)) (fun _ h9 => h9) rfl dX4_shape_39 ?_
      refine lv_iload_n hx hb dX4_shape_42 rfl (lv_at hl 1 rfl) ?_
      refine xcalli (va_runV (As := [.int (nI x.toNatClampNeg)]) (rest := [.int (nI (1 + 0))]) ⟨hx, hb, hml, hown, hts⟩ (c_X3_isTransitive l D cs a M N n x.toNatClampNeg (by omega) hn (by omega)) (cwV 1 hts gX4_shape_X3_isTransitive rfl rfl rfl (by decide +kernel) ⟨Nat.le_of_ble_eq_true rfl, Nat.le_of_ble_eq_true rfl⟩) (xpreV hP hK (ci := 3) 1 rfl rfl) rfl rfl hl.1 rfl (lv_room (Nat.le_of_ble_eq_true rfl)) dX4_shape_43 ⟨Nat.le_of_ble_eq_true rfl, Nat.le_of_ble_eq_true rfl⟩) hS hP (fun H locs hP hS => ?_)
      refine lv_if_eq (tgt := 53) hx hb dX4_shape_46 (by decide) (fun c46 => ?_) (fun c46 => ?_)
      ·
        replace c46 := bI_0 c46
        refine lv_iconst (v := (nI 0)) hx hb dX4_shape_53 (by decide) ?_
        refine xiadd hx hb dX4_shape_54 ?_
        subst hQ
        refine vx_ret ?_
        have hrel : (if (isIn 4 x) = true then 0 else 1) = 0 ∧ M = M := by refine ⟨by simp only [if_true, if_false, Bool.false_eq_true, decide_true, decide_false, c2, c13, c29, c46], ?_⟩; rfl
        have hfin : (nI ((1 + 0) + 0)) = nI ((if isRefl M n x.toNatClampNeg = true then 1 else 0) + (if isSym M n x.toNatClampNeg = true then 2 else 0) + (if isTrans M n x.toNatClampNeg = true then 4 else 0)) := by simp only [if_true, if_false, Bool.false_eq_true, decide_true, decide_false, c2, c13, c29, c46]
        exact W.iret hx hb hr (fun t ht hW => ⟨⟨_, M, rfl, ⟨hfin, hrel⟩, by rw [← ht] at hP; exact hP⟩, hS.F ht⟩) hS.2.2 dX4_shape_55
      ·
        replace c46 := bI_n0 c46
        refine lv_iconst (v := (nI 4)) hx hb dX4_shape_49 (by decide) ?_
        refine lv_goto (tgt := 54) hx hb dX4_shape_50 (by decide) ?_
        refine xiadd hx hb dX4_shape_54 ?_
        subst hQ
        refine vx_ret ?_
        have hrel : (if (isIn 4 x) = true then 0 else 1) = 0 ∧ M = M := by refine ⟨by simp only [if_true, if_false, Bool.false_eq_true, decide_true, decide_false, c2, c13, c29, c46], ?_⟩; rfl
        have hfin : (nI ((1 + 0) + 4)) = nI ((if isRefl M n x.toNatClampNeg = true then 1 else 0) + (if isSym M n x.toNatClampNeg = true then 2 else 0) + (if isTrans M n x.toNatClampNeg = true then 4 else 0)) := by simp only [if_true, if_false, Bool.false_eq_true, decide_true, decide_false, c2, c13, c29, c46]
        exact W.iret hx hb hr (fun t ht hW => ⟨⟨_, M, rfl, ⟨hfin, hrel⟩, by rw [← ht] at hP; exact hP⟩, hS.F ht⟩) hS.2.2 dX4_shape_55
    ·
      replace c29 := bI_n0 c29
      refine lv_iconst (v := (nI 2)) hx hb dX4_shape_32 (by decide) ?_
      refine lv_goto (tgt := 37) hx hb dX4_shape_33 (by decide) ?_
      refine xiadd hx hb dX4_shape_37 ?_
      refine lv_aload_n hx hb dX4_shape_38 rfl (lv_at hl 0 rfl) ?_
      refine va_get (D := D) (ci := 4) (v := .ref (a 1)) (C := RX4) (T := TX4) (N := 4) hx hb hts hinX4 hown hK1 hP 0 rfl rfl 0 (by decide) (hts (.fieldLink RX4 10 "KnowledgeModel" "worlds" "LKnowledgeModel$Worlds;") (List.mem_of_getElem? (i := 1) rfl)) (fun _ h9 => h9) rfl dX4_shape_39 ?_
      refine lv_iload_n hx hb dX4_shape_42 rfl (lv_at hl 1 rfl) ?_
      refine xcalli (va_runV (As := [.int (nI x.toNatClampNeg)]) (rest := [.int (nI (1 + 2))]) ⟨hx, hb, hml, hown, hts⟩ (c_X3_isTransitive l D cs a M N n x.toNatClampNeg (by omega) hn (by omega)) (cwV 1 hts gX4_shape_X3_isTransitive rfl rfl rfl (by decide +kernel) ⟨Nat.le_of_ble_eq_true rfl, Nat.le_of_ble_eq_true rfl⟩) (xpreV hP hK (ci := 3) 1 rfl rfl) rfl rfl hl.1 rfl (lv_room (Nat.le_of_ble_eq_true rfl)) dX4_shape_43 ⟨Nat.le_of_ble_eq_true rfl, Nat.le_of_ble_eq_true rfl⟩) hS hP (fun H locs hP hS => ?_)
      refine lv_if_eq (tgt := 53) hx hb dX4_shape_46 (by decide) (fun c46 => ?_) (fun c46 => ?_)
      ·
        replace c46 := bI_0 c46
        refine lv_iconst (v := (nI 0)) hx hb dX4_shape_53 (by decide) ?_
        refine xiadd hx hb dX4_shape_54 ?_
        subst hQ
        refine vx_ret ?_
        have hrel : (if (isIn 4 x) = true then 0 else 1) = 0 ∧ M = M := by refine ⟨by simp only [if_true, if_false, Bool.false_eq_true, decide_true, decide_false, c2, c13, c29, c46], ?_⟩; rfl
        have hfin : (nI ((1 + 2) + 0)) = nI ((if isRefl M n x.toNatClampNeg = true then 1 else 0) + (if isSym M n x.toNatClampNeg = true then 2 else 0) + (if isTrans M n x.toNatClampNeg = true then 4 else 0)) := by simp only [if_true, if_false, Bool.false_eq_true, decide_true, decide_false, c2, c13, c29, c46]
        exact W.iret hx hb hr (fun t ht hW => ⟨⟨_, M, rfl, ⟨hfin, hrel⟩, by rw [← ht] at hP; exact hP⟩, hS.F ht⟩) hS.2.2 dX4_shape_55
      ·
        replace c46 := bI_n0 c46
        refine lv_iconst (v := (nI 4)) hx hb dX4_shape_49 (by decide) ?_
        refine lv_goto (tgt := 54) hx hb dX4_shape_50 (by decide) ?_
        refine xiadd hx hb dX4_shape_54 ?_
        subst hQ
        refine vx_ret ?_
        have hrel : (if (isIn 4 x) = true then 0 else 1) = 0 ∧ M = M := by refine ⟨by simp only [if_true, if_false, Bool.false_eq_true, decide_true, decide_false, c2, c13, c29, c46], ?_⟩; rfl
        have hfin : (nI ((1 + 2) + 4)) = nI ((if isRefl M n x.toNatClampNeg = true then 1 else 0) + (if isSym M n x.toNatClampNeg = true then 2 else 0) + (if isTrans M n x.toNatClampNeg = true then 4 else 0)) := by simp only [if_true, if_false, Bool.false_eq_true, decide_true, decide_false, c2, c13, c29, c46]
        exact W.iret hx hb hr (fun t ht hW => ⟨⟨_, M, rfl, ⟨hfin, hrel⟩, by rw [← ht] at hP; exact hP⟩, hS.F ht⟩) hS.2.2 dX4_shape_55

set_option maxHeartbeats 4000000 in
set_option maxRecDepth 100000 in
theorem c_X4_decided (l : Launch) (hl0 : l.stackTraces = false) (D : va_G) (cs sa : Nat → Nat) (a : Nat → Nat) (M : Nat → Nat → Int32) (N : Nat → Int64) (sz : Nat) (hI : kI a 29) (n : Nat) (act : Nat) (x : Int32) (hn : M 0 0 = nI n) (hn24 : n ≤ 24) (hact : M 0 1 = nI act) (ha24 : act < 24) : vx_Met l yX4_decided wsX4_decided ({ frames := 8, cells := 2, slots := 12, locals := 180 } : Room) (va_Pc [.ref (a 0), .int x] (XBT D cs sa a (xc cs a M N) sz)) (va_Qi (fun r (u : Nat → Nat → Int32) => r = sameAt M n (M (2 + x.toNatClampNeg) act) ∧ (if (isIn 4 x) = true then (if (!decide (n = 0)) = true then 0 else 2) else 1) = 0 ∧ u = M) (fun (u : Nat → Nat → Int32) t => va_P D vwCl (xc cs a u N) t.heap) (kA a 29 sz)) (XX D (fun u => xc cs a u N) (fun E u => (E = "java/lang/IndexOutOfBoundsException" ∧ (if (isIn 4 x) = true then (if (!decide (n = 0)) = true then 0 else 2) else 1) = 1 ∨ E = "java/lang/IllegalStateException" ∧ (if (isIn 4 x) = true then (if (!decide (n = 0)) = true then 0 else 2) else 1) = 2) ∧ TX M u) (kA a 29 sz)) 2 12 (kA a 29 sz) := by
  refine vx_ofW (cc := cX4_decided) (maxL := 2) (ret := (some .int)) (by decide) rfl ?_
  intro p e s m args below meth c s₁ B hml htab hv
  obtain ⟨rfl, hsz, hP, hK, hT, hZ⟩ := hv
  have hx := B.exec
  have hb := B.bytes
  have hr := B.returns
  have hts := atoms_spec (ws := wsX4_decided) B.pre
  have hown : s.vm.findClass RX4 = some m.cls := findClass_of_methodNamed B.named
  have hlocks := B.notSynchronized
  have hK1 := hK.1
  have hinX4 : ∀ w ∈ wsX40, w ∈ wsX4_decided := fun w h => List.mem_cons_of_mem _ (List.mem_append_left _ (List.mem_append_left _ (List.mem_append_left _ (List.mem_append_right _ h))))
  have hinX3 : ∀ w ∈ wsX30, w ∈ wsX4_decided := fun w h => List.mem_cons_of_mem _ (List.mem_append_left _ (List.mem_append_left _ (List.mem_append_right _ h)))
  subst hsz
  have hS : va_S (kA a 29 s.heap.size) s.heap s.heap [] := va_S.rf
  have hl := lv_entry ([.ref (a 0), .int x]) (n := 2) (Nat.le_of_ble_eq_true rfl)
  rw [lg_entry_eq]
  generalize (lg_sl ([.ref (a 0), .int x]) ++ List.replicate (2 - (lg_sl ([.ref (a 0), .int x])).length) Slot.unset).toArray = ls at hl ⊢
  have hl : lv_has ls 2 [(0, .ref (a 0)), (1, .int x)] := hl
  refine W_Q (fun Q hQ => ?_)
  show W p l e ({ frames := 8, cells := 2, slots := 12, locals := 180 } : Room) s m ([.ref (a 0), .int x] : List Value).toArray below meth c s.heap [] 0 0 Q (F0 m 0 ls [])
  refine lv_aload_n hx hb dX4_decided_0 rfl (lv_at hl 0 rfl) ?_
  refine lv_iload_n hx hb dX4_decided_1 rfl (lv_at hl 1 rfl) ?_
  refine xcallxv (vx_runV (As := [.int x]) (rest := []) ⟨hx, hb, hml, hown, hts⟩ (c_X4_needAgent l hl0 D cs sa a M N _ hI x) (cwV 1 hts gX4_decided_X4_needAgent rfl rfl rfl (by decide +kernel) ⟨Nat.le_of_ble_eq_true rfl, Nat.le_of_ble_eq_true rfl⟩) (xpreVT hP hK hT hZ hS hS.1 (ci := 4) 0 rfl rfl) rfl rfl hl.1 rfl (lv_room (Nat.le_of_ble_eq_true rfl)) dX4_decided_2 ⟨Nat.le_of_ble_eq_true rfl, Nat.le_of_ble_eq_true rfl⟩) hS (kAle hS.1) (fun E ce q9 u9 H locs hXE hP hS hce hcv hcl => ?_) (fun u9 H locs hrel hP hS => ?_)
  ·
    obtain ⟨rfl, c2, hue⟩ := hXE
    rw [hue] at hP
    subst hQ
    exact xout (mc := 2) (ms := 12) htab hlocks hce hcv hcl ⟨(Or.inl ⟨rfl, by simp only [if_true, if_false, Bool.false_eq_true, decide_true, decide_false, c2]⟩), by first | exact TX_r | exact fun i x hi => TX_r i x (by omega)⟩ hP hS (Nat.le_of_ble_eq_true rfl) (Nat.le_of_ble_eq_true rfl)
  obtain ⟨c2, hue⟩ := hrel
  rw [hue] at hP
  clear hue
  refine W.widen (k := 1) (n := 6) (by decide) (by decide) ?_
  refine lv_aload_n hx hb dX4_decided_5 rfl (lv_at hl 0 rfl) ?_
  refine xcallxv (vx_runV (As := []) (rest := []) ⟨hx, hb, hml, hown, hts⟩ (c_X4_needSomeWorld l hl0 D cs sa a M N _ hI n hn (by omega)) (cwV 0 hts gX4_decided_X4_needSomeWorld rfl rfl rfl (by decide +kernel) ⟨Nat.le_of_ble_eq_true rfl, Nat.le_of_ble_eq_true rfl⟩) (xpreVT hP hK hT hZ hS hS.1 (ci := 4) 0 rfl rfl) rfl rfl hl.1 rfl (lv_room (Nat.le_of_ble_eq_true rfl)) dX4_decided_6 ⟨Nat.le_of_ble_eq_true rfl, Nat.le_of_ble_eq_true rfl⟩) hS (kAle hS.1) (fun E ce q9 u9 H locs hXE hP hS hce hcv hcl => ?_) (fun u9 H locs hrel hP hS => ?_)
  ·
    obtain ⟨rfl, c6, hue⟩ := hXE
    rw [hue] at hP
    subst hQ
    exact xout (mc := 2) (ms := 12) htab hlocks hce hcv hcl ⟨(Or.inr ⟨rfl, by simp only [if_true, if_false, Bool.false_eq_true, decide_true, decide_false, c2, c6]⟩), by first | exact TX_r | exact fun i x hi => TX_r i x (by omega)⟩ hP hS (Nat.le_of_ble_eq_true rfl) (Nat.le_of_ble_eq_true rfl)
  obtain ⟨c6, hue⟩ := hrel
  rw [hue] at hP
  clear hue
  refine W.widen (k := 2) (n := 12) (by decide) (by decide) ?_
  obtain ⟨hlt_x, heq_x⟩ := isIn_eq (by omega) c2
  have hl : lv_has ls 2 [(0, .ref (a 0)), (1, .int (nI x.toNatClampNeg))] := (lcons (lcons (lzero hl) hl 1 rfl (congrArg Value.int heq_x)) hl 0 rfl rfl)
  refine lv_aload_n hx hb dX4_decided_9 rfl (lv_at hl 0 rfl) ?_
  refine va_get (D := D) (ci := 4) (v := .ref (a 1)) (C := RX4) (T := TX4) (N := 4) hx hb hts hinX4 hown hK1 hP 0 rfl rfl 0 (by decide) (hts (.fieldLink RX4 10 "KnowledgeModel" "worlds" "LKnowledgeModel$Worlds;") (List.mem_of_getElem? (i := 1) rfl)) (fun _ h9 => h9) rfl dX4_decided_10 ?_
  refine lv_aload_n hx hb dX4_decided_13 rfl (lv_at hl 0 rfl) ?_
  refine va_get (D := D) (ci := 4) (v := .ref (a 1)) (C := RX4) (T := TX4) (N := 4) hx hb hts hinX4 hown hK1 hP 0 rfl rfl 0 (by decide) (hts (.fieldLink RX4 10 "KnowledgeModel" "worlds" "LKnowledgeModel$Worlds;") (List.mem_of_getElem? (i := 1) rfl)) (fun _ h9 => h9) rfl dX4_decided_14 ?_
  refine va_get (D := D) (ci := 3) (v := .ref (a 3)) (C := RX3) (T := TX3) (N := 4) hx hb hts hinX3 hown hK1 hP 1 rfl rfl 1 (by decide) (hts (.fieldLink RX4 70 "KnowledgeModel$Worlds" "arrows" "[[I") (List.mem_of_getElem? (i := 2) rfl)) (fun _ h9 => h9) rfl dX4_decided_17 ?_
  refine lv_iload_n hx hb dX4_decided_20 rfl (lv_at hl 1 rfl) ?_
  refine xaald (j := x.toNatClampNeg) (q0 := 3) (t0 := 2) (f := fun i => a (4 + i)) hx hb hK1 hP rfl rfl (by omega) (by decide) dX4_decided_21 ?_
  refine lv_aload_n hx hb dX4_decided_22 rfl (lv_at hl 0 rfl) ?_
  refine va_get (D := D) (ci := 4) (v := .ref (a 1)) (C := RX4) (T := TX4) (N := 4) hx hb hts hinX4 hown hK1 hP 0 rfl rfl 0 (by decide) (hts (.fieldLink RX4 10 "KnowledgeModel" "worlds" "LKnowledgeModel$Worlds;") (List.mem_of_getElem? (i := 1) rfl)) (fun _ h9 => h9) rfl dX4_decided_23 ?_
  refine va_get (D := D) (ci := 3) (v := .int (M 0 1)) (C := RX3) (T := TX3) (N := 4) hx hb hts hinX3 hown hK1 hP 1 rfl rfl 3 (by decide) (hts (.fieldLink RX4 94 "KnowledgeModel$Worlds" "actualWorld" "I") (List.mem_of_getElem? (i := 3) rfl)) (fun _ h9 => h9) rfl dX4_decided_26 ?_
  refine xtop (y := nI act) (hact) ?_
  refine xiald (j := act) (q0 := (4 + x.toNatClampNeg)) (t0 := 0) hx hb hK1 hP (xg_ar (by omega)) rfl (by omega) (by decide) dX4_decided_29 ?_
  refine xcalli (va_runV (As := [.int (M (2 + x.toNatClampNeg) act)]) (rest := []) ⟨hx, hb, hml, hown, hts⟩ (c_X3_sameAtomsOver l D cs a M N n (M (2 + x.toNatClampNeg) act) hn (by omega)) (cwV 1 hts gX4_decided_X3_sameAtomsOver rfl rfl rfl (by decide +kernel) ⟨Nat.le_of_ble_eq_true rfl, Nat.le_of_ble_eq_true rfl⟩) (xpreV hP hK (ci := 3) 1 rfl rfl) rfl rfl hl.1 rfl (lv_room (Nat.le_of_ble_eq_true rfl)) dX4_decided_30 ⟨Nat.le_of_ble_eq_true rfl, Nat.le_of_ble_eq_true rfl⟩) hS hP (fun H locs hP hS => ?_)
  subst hQ
  refine vx_ret ?_
  have hrel : (if (isIn 4 x) = true then (if (!decide (n = 0)) = true then 0 else 2) else 1) = 0 ∧ M = M := by refine ⟨by simp only [if_true, if_false, Bool.false_eq_true, decide_true, decide_false, c2, c6], ?_⟩; rfl
  have hfin : (sameAt M n (M (2 + x.toNatClampNeg) act)) = sameAt M n (M (2 + x.toNatClampNeg) act) := by rfl
  exact W.iret hx hb hr (fun t ht hW => ⟨⟨_, M, rfl, ⟨hfin, hrel⟩, by rw [← ht] at hP; exact hP⟩, hS.F ht⟩) hS.2.2 dX4_decided_33

set_option maxHeartbeats 4000000 in
set_option maxRecDepth 100000 in
theorem c_X4_reached (l : Launch) (hl0 : l.stackTraces = false) (D : va_G) (cs sa : Nat → Nat) (a : Nat → Nat) (M : Nat → Nat → Int32) (N : Nat → Int64) (sz : Nat) (hI : kI a 29) (n : Nat) (g : Int32) (y : Int32) (hn : M 0 0 = nI n) (hn24 : n ≤ 24) : vx_Met l yX4_reached wsX4_reached ({ frames := 8, cells := 2, slots := 12, locals := 180 } : Room) (va_Pc [.ref (a 0), .int g, .int y] (XBT D cs sa a (xc cs a M N) sz)) (va_Qi (fun r (u : Nat → Nat → Int32) => r = reachF M n g y.toNatClampNeg ∧ (if (isGr g) = true then (if (isIn n y) = true then 0 else 2) else 1) = 0 ∧ u = M) (fun (u : Nat → Nat → Int32) t => va_P D vwCl (xc cs a u N) t.heap) (kA a 29 sz)) (XX D (fun u => xc cs a u N) (fun E u => (E = "java/lang/IllegalArgumentException" ∧ (if (isGr g) = true then (if (isIn n y) = true then 0 else 2) else 1) = 1 ∨ E = "java/lang/IndexOutOfBoundsException" ∧ (if (isGr g) = true then (if (isIn n y) = true then 0 else 2) else 1) = 2) ∧ TX M u) (kA a 29 sz)) 2 12 (kA a 29 sz) := by
  refine vx_ofW (cc := cX4_reached) (maxL := 3) (ret := (some .int)) (by decide) rfl ?_
  intro p e s m args below meth c s₁ B hml htab hv
  obtain ⟨rfl, hsz, hP, hK, hT, hZ⟩ := hv
  have hx := B.exec
  have hb := B.bytes
  have hr := B.returns
  have hts := atoms_spec (ws := wsX4_reached) B.pre
  have hown : s.vm.findClass RX4 = some m.cls := findClass_of_methodNamed B.named
  have hlocks := B.notSynchronized
  have hK1 := hK.1
  have hinX4 : ∀ w ∈ wsX40, w ∈ wsX4_reached := fun w h => List.mem_cons_of_mem _ (List.mem_append_left _ (List.mem_append_left _ (List.mem_append_left _ (List.mem_append_right _ h))))
  have hinX3 : ∀ w ∈ wsX30, w ∈ wsX4_reached := fun w h => List.mem_cons_of_mem _ (List.mem_append_left _ (List.mem_append_left _ (List.mem_append_right _ h)))
  subst hsz
  have hS : va_S (kA a 29 s.heap.size) s.heap s.heap [] := va_S.rf
  have hl := lv_entry ([.ref (a 0), .int g, .int y]) (n := 3) (Nat.le_of_ble_eq_true rfl)
  rw [lg_entry_eq]
  generalize (lg_sl ([.ref (a 0), .int g, .int y]) ++ List.replicate (3 - (lg_sl ([.ref (a 0), .int g, .int y])).length) Slot.unset).toArray = ls at hl ⊢
  have hl : lv_has ls 3 [(0, .ref (a 0)), (1, .int g), (2, .int y)] := hl
  refine W_Q (fun Q hQ => ?_)
  show W p l e ({ frames := 8, cells := 2, slots := 12, locals := 180 } : Room) s m ([.ref (a 0), .int g, .int y] : List Value).toArray below meth c s.heap [] 0 0 Q (F0 m 0 ls [])
  refine lv_aload_n hx hb dX4_reached_0 rfl (lv_at hl 0 rfl) ?_
  refine lv_iload_n hx hb dX4_reached_1 rfl (lv_at hl 1 rfl) ?_
  refine xcallxv (vx_runV (As := [.int g]) (rest := []) ⟨hx, hb, hml, hown, hts⟩ (c_X4_needGroup l hl0 D cs sa a M N _ hI g) (cwV 1 hts gX4_reached_X4_needGroup rfl rfl rfl (by decide +kernel) ⟨Nat.le_of_ble_eq_true rfl, Nat.le_of_ble_eq_true rfl⟩) (xpreVT hP hK hT hZ hS hS.1 (ci := 4) 0 rfl rfl) rfl rfl hl.1 rfl (lv_room (Nat.le_of_ble_eq_true rfl)) dX4_reached_2 ⟨Nat.le_of_ble_eq_true rfl, Nat.le_of_ble_eq_true rfl⟩) hS (kAle hS.1) (fun E ce q9 u9 H locs hXE hP hS hce hcv hcl => ?_) (fun u9 H locs hrel hP hS => ?_)
  ·
    obtain ⟨rfl, c2, hue⟩ := hXE
    rw [hue] at hP
    subst hQ
    exact xout (mc := 2) (ms := 12) htab hlocks hce hcv hcl ⟨(Or.inl ⟨rfl, by simp only [if_true, if_false, Bool.false_eq_true, decide_true, decide_false, c2]⟩), by first | exact TX_r | exact fun i x hi => TX_r i x (by omega)⟩ hP hS (Nat.le_of_ble_eq_true rfl) (Nat.le_of_ble_eq_true rfl)
  obtain ⟨c2, hue⟩ := hrel
  rw [hue] at hP
  clear hue
  refine W.widen (k := 1) (n := 6) (by decide) (by decide) ?_
  refine lv_aload_n hx hb dX4_reached_5 rfl (lv_at hl 0 rfl) ?_
  refine lv_iload_n hx hb dX4_reached_6 rfl (lv_at hl 2 rfl) ?_
  refine xcallxv (vx_runV (As := [.int y]) (rest := []) ⟨hx, hb, hml, hown, hts⟩ (c_X4_needWorld l hl0 D cs sa a M N _ hI n y hn (by omega)) (cwV 1 hts gX4_reached_X4_needWorld rfl rfl rfl (by decide +kernel) ⟨Nat.le_of_ble_eq_true rfl, Nat.le_of_ble_eq_true rfl⟩) (xpreVT hP hK hT hZ hS hS.1 (ci := 4) 0 rfl rfl) rfl rfl hl.1 rfl (lv_room (Nat.le_of_ble_eq_true rfl)) dX4_reached_7 ⟨Nat.le_of_ble_eq_true rfl, Nat.le_of_ble_eq_true rfl⟩) hS (kAle hS.1) (fun E ce q9 u9 H locs hXE hP hS hce hcv hcl => ?_) (fun u9 H locs hrel hP hS => ?_)
  ·
    obtain ⟨rfl, c7, hue⟩ := hXE
    rw [hue] at hP
    subst hQ
    exact xout (mc := 2) (ms := 12) htab hlocks hce hcv hcl ⟨(Or.inr ⟨rfl, by simp only [if_true, if_false, Bool.false_eq_true, decide_true, decide_false, c2, c7]⟩), by first | exact TX_r | exact fun i x hi => TX_r i x (by omega)⟩ hP hS (Nat.le_of_ble_eq_true rfl) (Nat.le_of_ble_eq_true rfl)
  obtain ⟨c7, hue⟩ := hrel
  rw [hue] at hP
  clear hue
  refine W.widen (k := 2) (n := 12) (by decide) (by decide) ?_
  obtain ⟨hlt_y, heq_y⟩ := isIn_eq (by omega) c7
  have hl : lv_has ls 3 [(0, .ref (a 0)), (1, .int g), (2, .int (nI y.toNatClampNeg))] := (lcons (lcons (lcons (lzero hl) hl 2 rfl (congrArg Value.int heq_y)) hl 1 rfl rfl) hl 0 rfl rfl)
  refine lv_aload_n hx hb dX4_reached_10 rfl (lv_at hl 0 rfl) ?_
  refine va_get (D := D) (ci := 4) (v := .ref (a 1)) (C := RX4) (T := TX4) (N := 4) hx hb hts hinX4 hown hK1 hP 0 rfl rfl 0 (by decide) (hts (.fieldLink RX4 10 "KnowledgeModel" "worlds" "LKnowledgeModel$Worlds;") (List.mem_of_getElem? (i := 1) rfl)) (fun _ h9 => h9) rfl dX4_reached_11 ?_
  refine lv_iload_n hx hb dX4_reached_14 rfl (lv_at hl 1 rfl) ?_
  refine lv_iload_n hx hb dX4_reached_15 rfl (lv_at hl 2 rfl) ?_
  refine xcalli (va_runV (As := [.int g, .int (nI y.toNatClampNeg)]) (rest := []) ⟨hx, hb, hml, hown, hts⟩ (c_X3_reachableFrom l D cs a M N n g y.toNatClampNeg (by omega) hn (by omega)) (cwV 2 hts gX4_reached_X3_reachableFrom rfl rfl rfl (by decide +kernel) ⟨Nat.le_of_ble_eq_true rfl, Nat.le_of_ble_eq_true rfl⟩) (xpreV hP hK (ci := 3) 1 rfl rfl) rfl rfl hl.1 rfl (lv_room (Nat.le_of_ble_eq_true rfl)) dX4_reached_16 ⟨Nat.le_of_ble_eq_true rfl, Nat.le_of_ble_eq_true rfl⟩) hS hP (fun H locs hP hS => ?_)
  subst hQ
  refine vx_ret ?_
  have hrel : (if (isGr g) = true then (if (isIn n y) = true then 0 else 2) else 1) = 0 ∧ M = M := by refine ⟨by simp only [if_true, if_false, Bool.false_eq_true, decide_true, decide_false, c2, c7], ?_⟩; rfl
  have hfin : (reachF M n g y.toNatClampNeg) = reachF M n g y.toNatClampNeg := by rfl
  exact W.iret hx hb hr (fun t ht hW => ⟨⟨_, M, rfl, ⟨hfin, hrel⟩, by rw [← ht] at hP; exact hP⟩, hS.F ht⟩) hS.2.2 dX4_reached_19

set_option maxHeartbeats 4000000 in
set_option maxRecDepth 100000 in
theorem c_X4_worldCount (l : Launch) (D : va_G) (cs : Nat → ClassId) (a : Nat → Nat) (M : Nat → Nat → Int32) (N : Nat → Int64)  (n : Nat)  (hn : M 0 0 = nI n) (hn24 : n ≤ 24) : Met l yX4_worldCount wsX4_worldCount ({ frames := 0, cells := 0, slots := 0, locals := 0 } : Room) (va_Pc [.ref (a 0)] (XB D cs (xc cs a M N))) (va_Qi (fun r (_ : Unit) => r = nI n) (fun _ _ => True) (fun _ => False)) 0 0 (fun _ => False) := by
  refine Met.ofW (cc := cX4_worldCount) (maxL := 1) (ret := (some .int)) (by decide) rfl ?_
  intro p e s m args below meth c s₁ B hml hv
  obtain ⟨rfl, hP, hK⟩ := hv
  have hx := B.exec
  have hb := B.bytes
  have hr := B.returns
  have hts := atoms_spec (ws := wsX4_worldCount) B.pre
  have hown : s.vm.findClass RX4 = some m.cls := findClass_of_methodNamed B.named
  have hlocks := B.notSynchronized
  have hK1 := hK.1
  have hinX4 : ∀ w ∈ wsX40, w ∈ wsX4_worldCount := fun w h => List.mem_cons_of_mem _ (List.mem_append_left _ (List.mem_append_right _ h))
  have hinX3 : ∀ w ∈ wsX30, w ∈ wsX4_worldCount := fun w h => List.mem_cons_of_mem _ (List.mem_append_right _ h)
  have hS : va_S (fun _ => False) s.heap s.heap [] := va_S.rf
  have hl := lv_entry ([.ref (a 0)]) (n := 1) (Nat.le_of_ble_eq_true rfl)
  rw [lg_entry_eq]
  generalize (lg_sl ([.ref (a 0)]) ++ List.replicate (1 - (lg_sl ([.ref (a 0)])).length) Slot.unset).toArray = ls at hl ⊢
  have hl : lv_has ls 1 [(0, .ref (a 0))] := hl
  refine W_Q (fun Q hQ => ?_)
  show W p l e ({ frames := 0, cells := 0, slots := 0, locals := 0 } : Room) s m ([.ref (a 0)] : List Value).toArray below meth c s.heap [] 0 0 Q (F0 m 0 ls [])
  refine lv_aload_n hx hb dX4_worldCount_0 rfl (lv_at hl 0 rfl) ?_
  refine va_get (D := D) (ci := 4) (v := .ref (a 1)) (C := RX4) (T := TX4) (N := 4) hx hb hts hinX4 hown hK1 hP 0 rfl rfl 0 (by decide) (hts (.fieldLink RX4 10 "KnowledgeModel" "worlds" "LKnowledgeModel$Worlds;") (List.mem_of_getElem? (i := 1) rfl)) (fun _ h9 => h9) rfl dX4_worldCount_1 ?_
  refine va_get (D := D) (ci := 3) (v := .int (M 0 0)) (C := RX3) (T := TX3) (N := 4) hx hb hts hinX3 hown hK1 hP 1 rfl rfl 2 (by decide) (hts (.fieldLink RX4 45 "KnowledgeModel$Worlds" "count" "I") (List.mem_of_getElem? (i := 2) rfl)) (fun _ h9 => h9) rfl dX4_worldCount_4 ?_
  refine xtop (y := nI n) (hn) ?_
  subst hQ
  have hfin : (nI n) = nI n := by rfl
  exact W.iret hx hb hr (fun t ht hW => ⟨⟨_, (), rfl, hfin, trivial⟩, hS.F ht⟩) hS.2.2 dX4_worldCount_7

set_option maxHeartbeats 4000000 in
set_option maxRecDepth 100000 in
theorem c_X4_formulaCount (l : Launch) (D : va_G) (cs : Nat → ClassId) (a : Nat → Nat) (M : Nat → Nat → Int32) (N : Nat → Int64)  (nf : Nat)  (hfc : M 0 2 = nI nf) (hf40 : nf ≤ 40) : Met l yX4_formulaCount wsX4_formulaCount ({ frames := 0, cells := 0, slots := 0, locals := 0 } : Room) (va_Pc [.ref (a 0)] (XB D cs (xc cs a M N))) (va_Qi (fun r (_ : Unit) => r = nI nf) (fun _ _ => True) (fun _ => False)) 0 0 (fun _ => False) := by
  refine Met.ofW (cc := cX4_formulaCount) (maxL := 1) (ret := (some .int)) (by decide) rfl ?_
  intro p e s m args below meth c s₁ B hml hv
  obtain ⟨rfl, hP, hK⟩ := hv
  have hx := B.exec
  have hb := B.bytes
  have hr := B.returns
  have hts := atoms_spec (ws := wsX4_formulaCount) B.pre
  have hown : s.vm.findClass RX4 = some m.cls := findClass_of_methodNamed B.named
  have hlocks := B.notSynchronized
  have hK1 := hK.1
  have hinX4 : ∀ w ∈ wsX40, w ∈ wsX4_formulaCount := fun w h => List.mem_cons_of_mem _ (List.mem_append_left _ (List.mem_append_right _ h))
  have hinX0 : ∀ w ∈ wsX00, w ∈ wsX4_formulaCount := fun w h => List.mem_cons_of_mem _ (List.mem_append_right _ h)
  have hS : va_S (fun _ => False) s.heap s.heap [] := va_S.rf
  have hl := lv_entry ([.ref (a 0)]) (n := 1) (Nat.le_of_ble_eq_true rfl)
  rw [lg_entry_eq]
  generalize (lg_sl ([.ref (a 0)]) ++ List.replicate (1 - (lg_sl ([.ref (a 0)])).length) Slot.unset).toArray = ls at hl ⊢
  have hl : lv_has ls 1 [(0, .ref (a 0))] := hl
  refine W_Q (fun Q hQ => ?_)
  show W p l e ({ frames := 0, cells := 0, slots := 0, locals := 0 } : Room) s m ([.ref (a 0)] : List Value).toArray below meth c s.heap [] 0 0 Q (F0 m 0 ls [])
  refine lv_aload_n hx hb dX4_formulaCount_0 rfl (lv_at hl 0 rfl) ?_
  refine va_get (D := D) (ci := 4) (v := .ref (a 8)) (C := RX4) (T := TX4) (N := 4) hx hb hts hinX4 hown hK1 hP 0 rfl rfl 1 (by decide) (hts (.fieldLink RX4 19 "KnowledgeModel" "formulas" "LKnowledgeModel$Formulas;") (List.mem_of_getElem? (i := 1) rfl)) (fun _ h9 => h9) rfl dX4_formulaCount_1 ?_
  refine va_get (D := D) (ci := 0) (v := .int (M 0 2)) (C := RX0) (T := TX0) (N := 8) hx hb hts hinX0 hown hK1 hP 8 rfl rfl 7 (by decide) (hts (.fieldLink RX4 140 "KnowledgeModel$Formulas" "count" "I") (List.mem_of_getElem? (i := 2) rfl)) (fun _ h9 => h9) rfl dX4_formulaCount_4 ?_
  refine xtop (y := nI nf) (hfc) ?_
  subst hQ
  have hfin : (nI nf) = nI nf := by rfl
  exact W.iret hx hb hr (fun t ht hW => ⟨⟨_, (), rfl, hfin, trivial⟩, hS.F ht⟩) hS.2.2 dX4_formulaCount_7

set_option maxHeartbeats 4000000 in
set_option maxRecDepth 100000 in
theorem c_X4_digest (l : Launch) (D : va_G) (cs : Nat → ClassId) (a : Nat → Nat) (M : Nat → Nat → Int32) (N : Nat → Int64)  (n : Nat) (act : Nat) (nf : Nat)  (hn : M 0 0 = nI n) (hn24 : n ≤ 24) (hact : M 0 1 = nI act) (ha24 : act < 24) (hfc : M 0 2 = nI nf) (hf40 : nf ≤ 40) : Met l yX4_digest wsX4_digest ({ frames := 4, cells := 0, slots := 0, locals := 90 } : Room) (va_Pc [.ref (a 0)] (XB D cs (xc cs a M N))) (va_Ql (fun r (_ : Unit) => r = digF M (digW M n act 127 * 31 + (nI nf).toInt64) nf) (fun _ _ => True) (fun _ => False)) 0 0 (fun _ => False) := by
  refine Met.ofW (cc := cX4_digest) (maxL := 1) (ret := (some .long)) (by decide) rfl ?_
  intro p e s m args below meth c s₁ B hml hv
  obtain ⟨rfl, hP, hK⟩ := hv
  have hx := B.exec
  have hb := B.bytes
  have hr := B.returns
  have hts := atoms_spec (ws := wsX4_digest) B.pre
  have hown : s.vm.findClass RX4 = some m.cls := findClass_of_methodNamed B.named
  have hlocks := B.notSynchronized
  have hK1 := hK.1
  have hinX4 : ∀ w ∈ wsX40, w ∈ wsX4_digest := fun w h => List.mem_cons_of_mem _ (List.mem_append_left _ (List.mem_append_left _ (List.mem_append_right _ h)))
  have hinX3 : ∀ w ∈ wsX30, w ∈ wsX4_digest := fun w h => List.mem_cons_of_mem _ (List.mem_append_left _ (List.mem_append_right _ h))
  have hinX0 : ∀ w ∈ wsX00, w ∈ wsX4_digest := fun w h => List.mem_cons_of_mem _ (List.mem_append_right _ h)
  have hS : va_S (fun _ => False) s.heap s.heap [] := va_S.rf
  have hl := lv_entry ([.ref (a 0)]) (n := 1) (Nat.le_of_ble_eq_true rfl)
  rw [lg_entry_eq]
  generalize (lg_sl ([.ref (a 0)]) ++ List.replicate (1 - (lg_sl ([.ref (a 0)])).length) Slot.unset).toArray = ls at hl ⊢
  have hl : lv_has ls 1 [(0, .ref (a 0))] := hl
  refine W_Q (fun Q hQ => ?_)
  show W p l e ({ frames := 4, cells := 0, slots := 0, locals := 90 } : Room) s m ([.ref (a 0)] : List Value).toArray below meth c s.heap [] 0 0 Q (F0 m 0 ls [])
  refine lv_aload_n hx hb dX4_digest_0 rfl (lv_at hl 0 rfl) ?_
  refine va_get (D := D) (ci := 4) (v := .ref (a 8)) (C := RX4) (T := TX4) (N := 4) hx hb hts hinX4 hown hK1 hP 0 rfl rfl 1 (by decide) (hts (.fieldLink RX4 19 "KnowledgeModel" "formulas" "LKnowledgeModel$Formulas;") (List.mem_of_getElem? (i := 1) rfl)) (fun _ h9 => h9) rfl dX4_digest_1 ?_
  refine lv_aload_n hx hb dX4_digest_4 rfl (lv_at hl 0 rfl) ?_
  refine va_get (D := D) (ci := 4) (v := .ref (a 1)) (C := RX4) (T := TX4) (N := 4) hx hb hts hinX4 hown hK1 hP 0 rfl rfl 0 (by decide) (hts (.fieldLink RX4 10 "KnowledgeModel" "worlds" "LKnowledgeModel$Worlds;") (List.mem_of_getElem? (i := 2) rfl)) (fun _ h9 => h9) rfl dX4_digest_5 ?_
  refine lv_ldc2 hx hb hown (hts (.constantLong RX4 183 (127)) (List.mem_of_getElem? (i := 3) rfl)) dX4_digest_8 ?_
  refine xcalll (va_runV (As := [.long (127 : Int64)]) (rest := [.ref (a 8)]) ⟨hx, hb, hml, hown, hts⟩ (c_X3_addTo l D cs a M N n act (127 : Int64) hn (by omega) hact) (cwV 1 hts gX4_digest_X3_addTo rfl rfl rfl (by decide +kernel) ⟨Nat.le_of_ble_eq_true rfl, Nat.le_of_ble_eq_true rfl⟩) (xpreV hP hK (ci := 3) 1 rfl rfl) rfl rfl hl.1 rfl (lv_room (Nat.le_of_ble_eq_true rfl)) dX4_digest_11 ⟨Nat.le_of_ble_eq_true rfl, Nat.le_of_ble_eq_true rfl⟩) hS hP (fun H locs hP hS => ?_)
  refine xcalll (va_runV (As := [.long (digW M n act (127 : Int64))]) (rest := []) ⟨hx, hb, hml, hown, hts⟩ (c_X0_addTo l D cs a M N nf (digW M n act (127 : Int64)) hfc (by omega)) (cwV 1 hts gX4_digest_X0_addTo rfl rfl rfl (by decide +kernel) ⟨Nat.le_of_ble_eq_true rfl, Nat.le_of_ble_eq_true rfl⟩) (xpreV hP hK (ci := 0) 8 rfl rfl) rfl rfl hl.1 rfl (lv_room (Nat.le_of_ble_eq_true rfl)) dX4_digest_14 ⟨Nat.le_of_ble_eq_true rfl, Nat.le_of_ble_eq_true rfl⟩) hS hP (fun H locs hP hS => ?_)
  subst hQ
  have hfin : (digF M ((digW M n act (127 : Int64)) * 31 + (nI nf).toInt64) nf) = digF M (digW M n act 127 * 31 + (nI nf).toInt64) nf := by rfl
  exact W.lret hx hb hr (fun t ht hW => ⟨⟨_, (), rfl, hfin, trivial⟩, hS.F ht⟩) hS.2.2 dX4_digest_17

set_option maxHeartbeats 4000000 in
set_option maxRecDepth 100000 in
theorem c_X4_depth (l : Launch) (hl0 : l.stackTraces = false) (D : va_G) (cs sa : Nat → Nat) (a : Nat → Nat) (M : Nat → Nat → Int32) (N : Nat → Int64) (sz : Nat) (hI : kI a 29) (nf : Nat) (x : Int32) (hfc : M 0 2 = nI nf) (hf40 : nf ≤ 40) : vx_Met l yX4_depth wsX4_depth ({ frames := 8, cells := 1, slots := 6, locals := 180 } : Room) (va_Pc [.ref (a 0), .int x] (XBT D cs sa a (xc cs a M N) sz)) (va_Qi (fun r (u : Nat → Nat → Int32) => r = M 10 x.toNatClampNeg ∧ (if (isIn nf x) = true then 0 else 1) = 0 ∧ u = M) (fun (u : Nat → Nat → Int32) t => va_P D vwCl (xc cs a u N) t.heap) (kA a 29 sz)) (XX D (fun u => xc cs a u N) (fun E u => (E = "java/lang/IndexOutOfBoundsException" ∧ (if (isIn nf x) = true then 0 else 1) = 1) ∧ TX M u) (kA a 29 sz)) 1 6 (kA a 29 sz) := by
  refine vx_ofW (cc := cX4_depth) (maxL := 2) (ret := (some .int)) (by decide) rfl ?_
  intro p e s m args below meth c s₁ B hml htab hv
  obtain ⟨rfl, hsz, hP, hK, hT, hZ⟩ := hv
  have hx := B.exec
  have hb := B.bytes
  have hr := B.returns
  have hts := atoms_spec (ws := wsX4_depth) B.pre
  have hown : s.vm.findClass RX4 = some m.cls := findClass_of_methodNamed B.named
  have hlocks := B.notSynchronized
  have hK1 := hK.1
  have hinX4 : ∀ w ∈ wsX40, w ∈ wsX4_depth := fun w h => List.mem_cons_of_mem _ (List.mem_append_left _ (List.mem_append_left _ (List.mem_append_right _ h)))
  have hinX0 : ∀ w ∈ wsX00, w ∈ wsX4_depth := fun w h => List.mem_cons_of_mem _ (List.mem_append_left _ (List.mem_append_right _ h))
  subst hsz
  have hS : va_S (kA a 29 s.heap.size) s.heap s.heap [] := va_S.rf
  have hl := lv_entry ([.ref (a 0), .int x]) (n := 2) (Nat.le_of_ble_eq_true rfl)
  rw [lg_entry_eq]
  generalize (lg_sl ([.ref (a 0), .int x]) ++ List.replicate (2 - (lg_sl ([.ref (a 0), .int x])).length) Slot.unset).toArray = ls at hl ⊢
  have hl : lv_has ls 2 [(0, .ref (a 0)), (1, .int x)] := hl
  refine W_Q (fun Q hQ => ?_)
  show W p l e ({ frames := 8, cells := 1, slots := 6, locals := 180 } : Room) s m ([.ref (a 0), .int x] : List Value).toArray below meth c s.heap [] 0 0 Q (F0 m 0 ls [])
  refine lv_aload_n hx hb dX4_depth_0 rfl (lv_at hl 0 rfl) ?_
  refine lv_iload_n hx hb dX4_depth_1 rfl (lv_at hl 1 rfl) ?_
  refine xcallxv (vx_runV (As := [.int x]) (rest := []) ⟨hx, hb, hml, hown, hts⟩ (c_X4_needFormula l hl0 D cs sa a M N _ hI nf x hfc (by omega)) (cwV 1 hts gX4_depth_X4_needFormula rfl rfl rfl (by decide +kernel) ⟨Nat.le_of_ble_eq_true rfl, Nat.le_of_ble_eq_true rfl⟩) (xpreVT hP hK hT hZ hS hS.1 (ci := 4) 0 rfl rfl) rfl rfl hl.1 rfl (lv_room (Nat.le_of_ble_eq_true rfl)) dX4_depth_2 ⟨Nat.le_of_ble_eq_true rfl, Nat.le_of_ble_eq_true rfl⟩) hS (kAle hS.1) (fun E ce q9 u9 H locs hXE hP hS hce hcv hcl => ?_) (fun u9 H locs hrel hP hS => ?_)
  ·
    obtain ⟨rfl, c2, hue⟩ := hXE
    rw [hue] at hP
    subst hQ
    exact xout (mc := 1) (ms := 6) htab hlocks hce hcv hcl ⟨⟨rfl, by simp only [if_true, if_false, Bool.false_eq_true, decide_true, decide_false, c2]⟩, by first | exact TX_r | exact fun i x hi => TX_r i x (by omega)⟩ hP hS (Nat.le_of_ble_eq_true rfl) (Nat.le_of_ble_eq_true rfl)
  obtain ⟨c2, hue⟩ := hrel
  rw [hue] at hP
  clear hue
  refine W.widen (k := 1) (n := 6) (by decide) (by decide) ?_
  obtain ⟨hlt_x, heq_x⟩ := isIn_eq (by omega) c2
  have hl : lv_has ls 2 [(0, .ref (a 0)), (1, .int (nI x.toNatClampNeg))] := (lcons (lcons (lzero hl) hl 1 rfl (congrArg Value.int heq_x)) hl 0 rfl rfl)
  refine lv_aload_n hx hb dX4_depth_5 rfl (lv_at hl 0 rfl) ?_
  refine va_get (D := D) (ci := 4) (v := .ref (a 8)) (C := RX4) (T := TX4) (N := 4) hx hb hts hinX4 hown hK1 hP 0 rfl rfl 1 (by decide) (hts (.fieldLink RX4 19 "KnowledgeModel" "formulas" "LKnowledgeModel$Formulas;") (List.mem_of_getElem? (i := 1) rfl)) (fun _ h9 => h9) rfl dX4_depth_6 ?_
  refine va_get (D := D) (ci := 0) (v := .ref (a 13)) (C := RX0) (T := TX0) (N := 8) hx hb hts hinX0 hown hK1 hP 8 rfl rfl 4 (by decide) (hts (.fieldLink RX4 141 "KnowledgeModel$Formulas" "depthOf" "[I") (List.mem_of_getElem? (i := 2) rfl)) (fun _ h9 => h9) rfl dX4_depth_9 ?_
  refine lv_iload_n hx hb dX4_depth_12 rfl (lv_at hl 1 rfl) ?_
  refine xiald (j := x.toNatClampNeg) (q0 := 13) (t0 := 0) hx hb hK1 hP rfl rfl (by omega) (by decide) dX4_depth_13 ?_
  subst hQ
  refine vx_ret ?_
  have hrel : (if (isIn nf x) = true then 0 else 1) = 0 ∧ M = M := by refine ⟨by simp only [if_true, if_false, Bool.false_eq_true, decide_true, decide_false, c2], ?_⟩; rfl
  have hfin : (M 10 x.toNatClampNeg) = M 10 x.toNatClampNeg := by rfl
  exact W.iret hx hb hr (fun t ht hW => ⟨⟨_, M, rfl, ⟨hfin, hrel⟩, by rw [← ht] at hP; exact hP⟩, hS.F ht⟩) hS.2.2 dX4_depth_14

set_option maxHeartbeats 4000000 in
set_option maxRecDepth 100000 in
theorem c_X4_nesting (l : Launch) (hl0 : l.stackTraces = false) (D : va_G) (cs sa : Nat → Nat) (a : Nat → Nat) (M : Nat → Nat → Int32) (N : Nat → Int64) (sz : Nat) (hI : kI a 29) (nf : Nat) (x : Int32) (hfc : M 0 2 = nI nf) (hf40 : nf ≤ 40) : vx_Met l yX4_nesting wsX4_nesting ({ frames := 8, cells := 1, slots := 6, locals := 180 } : Room) (va_Pc [.ref (a 0), .int x] (XBT D cs sa a (xc cs a M N) sz)) (va_Qi (fun r (u : Nat → Nat → Int32) => r = M 11 x.toNatClampNeg ∧ (if (isIn nf x) = true then 0 else 1) = 0 ∧ u = M) (fun (u : Nat → Nat → Int32) t => va_P D vwCl (xc cs a u N) t.heap) (kA a 29 sz)) (XX D (fun u => xc cs a u N) (fun E u => (E = "java/lang/IndexOutOfBoundsException" ∧ (if (isIn nf x) = true then 0 else 1) = 1) ∧ TX M u) (kA a 29 sz)) 1 6 (kA a 29 sz) := by
  refine vx_ofW (cc := cX4_nesting) (maxL := 2) (ret := (some .int)) (by decide) rfl ?_
  intro p e s m args below meth c s₁ B hml htab hv
  obtain ⟨rfl, hsz, hP, hK, hT, hZ⟩ := hv
  have hx := B.exec
  have hb := B.bytes
  have hr := B.returns
  have hts := atoms_spec (ws := wsX4_nesting) B.pre
  have hown : s.vm.findClass RX4 = some m.cls := findClass_of_methodNamed B.named
  have hlocks := B.notSynchronized
  have hK1 := hK.1
  have hinX4 : ∀ w ∈ wsX40, w ∈ wsX4_nesting := fun w h => List.mem_cons_of_mem _ (List.mem_append_left _ (List.mem_append_left _ (List.mem_append_right _ h)))
  have hinX0 : ∀ w ∈ wsX00, w ∈ wsX4_nesting := fun w h => List.mem_cons_of_mem _ (List.mem_append_left _ (List.mem_append_right _ h))
  subst hsz
  have hS : va_S (kA a 29 s.heap.size) s.heap s.heap [] := va_S.rf
  have hl := lv_entry ([.ref (a 0), .int x]) (n := 2) (Nat.le_of_ble_eq_true rfl)
  rw [lg_entry_eq]
  generalize (lg_sl ([.ref (a 0), .int x]) ++ List.replicate (2 - (lg_sl ([.ref (a 0), .int x])).length) Slot.unset).toArray = ls at hl ⊢
  have hl : lv_has ls 2 [(0, .ref (a 0)), (1, .int x)] := hl
  refine W_Q (fun Q hQ => ?_)
  show W p l e ({ frames := 8, cells := 1, slots := 6, locals := 180 } : Room) s m ([.ref (a 0), .int x] : List Value).toArray below meth c s.heap [] 0 0 Q (F0 m 0 ls [])
  refine lv_aload_n hx hb dX4_nesting_0 rfl (lv_at hl 0 rfl) ?_
  refine lv_iload_n hx hb dX4_nesting_1 rfl (lv_at hl 1 rfl) ?_
  refine xcallxv (vx_runV (As := [.int x]) (rest := []) ⟨hx, hb, hml, hown, hts⟩ (c_X4_needFormula l hl0 D cs sa a M N _ hI nf x hfc (by omega)) (cwV 1 hts gX4_nesting_X4_needFormula rfl rfl rfl (by decide +kernel) ⟨Nat.le_of_ble_eq_true rfl, Nat.le_of_ble_eq_true rfl⟩) (xpreVT hP hK hT hZ hS hS.1 (ci := 4) 0 rfl rfl) rfl rfl hl.1 rfl (lv_room (Nat.le_of_ble_eq_true rfl)) dX4_nesting_2 ⟨Nat.le_of_ble_eq_true rfl, Nat.le_of_ble_eq_true rfl⟩) hS (kAle hS.1) (fun E ce q9 u9 H locs hXE hP hS hce hcv hcl => ?_) (fun u9 H locs hrel hP hS => ?_)
  ·
    obtain ⟨rfl, c2, hue⟩ := hXE
    rw [hue] at hP
    subst hQ
    exact xout (mc := 1) (ms := 6) htab hlocks hce hcv hcl ⟨⟨rfl, by simp only [if_true, if_false, Bool.false_eq_true, decide_true, decide_false, c2]⟩, by first | exact TX_r | exact fun i x hi => TX_r i x (by omega)⟩ hP hS (Nat.le_of_ble_eq_true rfl) (Nat.le_of_ble_eq_true rfl)
  obtain ⟨c2, hue⟩ := hrel
  rw [hue] at hP
  clear hue
  refine W.widen (k := 1) (n := 6) (by decide) (by decide) ?_
  obtain ⟨hlt_x, heq_x⟩ := isIn_eq (by omega) c2
  have hl : lv_has ls 2 [(0, .ref (a 0)), (1, .int (nI x.toNatClampNeg))] := (lcons (lcons (lzero hl) hl 1 rfl (congrArg Value.int heq_x)) hl 0 rfl rfl)
  refine lv_aload_n hx hb dX4_nesting_5 rfl (lv_at hl 0 rfl) ?_
  refine va_get (D := D) (ci := 4) (v := .ref (a 8)) (C := RX4) (T := TX4) (N := 4) hx hb hts hinX4 hown hK1 hP 0 rfl rfl 1 (by decide) (hts (.fieldLink RX4 19 "KnowledgeModel" "formulas" "LKnowledgeModel$Formulas;") (List.mem_of_getElem? (i := 1) rfl)) (fun _ h9 => h9) rfl dX4_nesting_6 ?_
  refine va_get (D := D) (ci := 0) (v := .ref (a 14)) (C := RX0) (T := TX0) (N := 8) hx hb hts hinX0 hown hK1 hP 8 rfl rfl 5 (by decide) (hts (.fieldLink RX4 130 "KnowledgeModel$Formulas" "nestingOf" "[I") (List.mem_of_getElem? (i := 2) rfl)) (fun _ h9 => h9) rfl dX4_nesting_9 ?_
  refine lv_iload_n hx hb dX4_nesting_12 rfl (lv_at hl 1 rfl) ?_
  refine xiald (j := x.toNatClampNeg) (q0 := 14) (t0 := 0) hx hb hK1 hP rfl rfl (by omega) (by decide) dX4_nesting_13 ?_
  subst hQ
  refine vx_ret ?_
  have hrel : (if (isIn nf x) = true then 0 else 1) = 0 ∧ M = M := by refine ⟨by simp only [if_true, if_false, Bool.false_eq_true, decide_true, decide_false, c2], ?_⟩; rfl
  have hfin : (M 11 x.toNatClampNeg) = M 11 x.toNatClampNeg := by rfl
  exact W.iret hx hb hr (fun t ht hW => ⟨⟨_, M, rfl, ⟨hfin, hrel⟩, by rw [← ht] at hP; exact hP⟩, hS.F ht⟩) hS.2.2 dX4_nesting_14

