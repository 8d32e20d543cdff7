theorem isIn63_f {x : Int32} (h : nI 63 < x) : isIn 64 x = false := isIn_f2 (by
  have e1 : (nI 63).toInt = 63 := by decide
  have e2 : (nI 64).toInt = 64 := by decide
  rw [Int32.lt_iff_toInt_lt, e1] at h
  rw [Int32.le_iff_toInt_le, e2]
  omega)
theorem isIn63_t {x : Int32} (h0 : ¬ x < 0) (h : x ≤ nI 63) : isIn 64 x = true := isIn_t h0 (fun q => by
  have e1 : (nI 63).toInt = 63 := by decide
  have e2 : (nI 64).toInt = 64 := by decide
  rw [Int32.le_iff_toInt_le, e1] at h
  rw [Int32.le_iff_toInt_le, e2] at q
  omega)
theorem isGr15_f {x : Int32} (h : nI 15 < x) : isGr x = false := isGr_f2 (by
  have e1 : (nI 15).toInt = 15 := by decide
  have e2 : (nI 16).toInt = 16 := by decide
  rw [Int32.lt_iff_toInt_lt, e1] at h
  rw [Int32.le_iff_toInt_le, e2]
  omega)
theorem isGr15_t {x : Int32} (h0 : ¬ x < nI 1) (h : x ≤ nI 15) : isGr x = true := isGr_t h0 (fun q => by
  have e1 : (nI 15).toInt = 15 := by decide
  have e2 : (nI 16).toInt = 16 := by decide
  rw [Int32.le_iff_toInt_le, e1] at h
  rw [Int32.le_iff_toInt_le, e2] at q
  omega)
theorem lt_of_nle32 {x y : Int32} (h : ¬ x ≤ y) : y < x := by
  rw [Int32.le_iff_toInt_le] at h
  rw [Int32.lt_iff_toInt_lt]
  omega

set_option maxHeartbeats 4000000 in
set_option maxRecDepth 100000 in
theorem c_X4_needAtoms (l : Launch) (hl0 : l.stackTraces = false) (D : va_G) (cs sa : Nat → Nat) (a : Nat → Nat) (M : Nat → Nat → Int32) (N : Nat → Int64) (sz : Nat) (hI : kI a 29)  (x : Int32) : vx_Met l yX4_needAtoms wsX4_needAtoms ({ frames := 6, cells := 1, slots := 6, locals := 120 } : Room) (va_Pc [.ref (a 0), .int x] (XBT D cs sa a (xc cs a M N) sz)) (va_Qv (fun (u : Nat → Nat → Int32) => (isIn 64 x) = true ∧ u = M) (fun (u : Nat → Nat → Int32) t => va_P D vwCl (xc cs a u N) t.heap) (kA a 29 sz)) (XX D (fun u => xc cs a u N) (fun E u => E = "java/lang/IllegalArgumentException" ∧ (isIn 64 x) = false ∧ u = M) (kA a 29 sz)) 1 6 (kA a 29 sz) := by
  refine vx_ofW (cc := cX4_needAtoms) (maxL := 2) (ret := none) (by decide) rfl ?_
  intro p e s m args below meth c s₁ B hml htab hv
  obtain ⟨rfl, hsz, hP, hK, hT, hZ⟩ := hv
  have hx := B.exec
  have hb := B.bytes
  have hr := B.returns
  have hts := atoms_spec (ws := wsX4_needAtoms) B.pre
  have hown : s.vm.findClass RX4 = some m.cls := findClass_of_methodNamed B.named
  have hlocks := B.notSynchronized
  have hK1 := hK.1
  subst hsz
  have hS : va_S (kA a 29 s.heap.size) s.heap s.heap [] := va_S.rf
  have hl := lv_entry ([.ref (a 0), .int x]) (n := 2) (Nat.le_of_ble_eq_true rfl)
  rw [lg_entry_eq]
  generalize (lg_sl ([.ref (a 0), .int x]) ++ List.replicate (2 - (lg_sl ([.ref (a 0), .int x])).length) Slot.unset).toArray = ls at hl ⊢
  have hl : lv_has ls 2 [(0, .ref (a 0)), (1, .int x)] := hl
  refine W_Q (fun Q hQ => ?_)
  show W p l e ({ frames := 6, cells := 1, slots := 6, locals := 120 } : Room) s m ([.ref (a 0), .int x] : List Value).toArray below meth c s.heap [] 0 0 Q (F0 m 0 ls [])
  refine lv_iload_n hx hb dX4_needAtoms_0 rfl (lv_at hl 1 rfl) ?_
  refine lv_if_lt (tgt := 10) hx hb dX4_needAtoms_1 (by decide) (fun c1 => ?_) (fun c1 => ?_)
  ·
    subst hQ
    exact vx_throwS (mc := 1) (ms := 6) hx hb hl0 hown fit89 fitN (hts (.classLink RX4 85 "java/lang/IllegalArgumentException") (List.mem_of_getElem? (i := 1) rfl)) (hts (.initialized "java/lang/IllegalArgumentException") (List.mem_of_getElem? (i := 2) rfl)) hT.2.2.2.2.2.2.2.2.1 (hat89 hT (fun w h => hts w (List.mem_cons_of_mem _ (List.mem_append_right _ h)))) gow89 hZ.1 hZ.2 hS (hl.1.trans hml.symm) dX4_needAtoms_10 dX4_needAtoms_13 dX4_needAtoms_14 dX4_needAtoms_16 dX4_needAtoms_19 (fun x h => (htab x h).elim) (Nat.le_of_ble_eq_true rfl) (Nat.le_of_ble_eq_true rfl) (Nat.le_of_ble_eq_true rfl) (Nat.le_of_ble_eq_true rfl) hlocks (xthr ⟨rfl, by first | exact isIn_f1 c1 | exact isIn63_f (lt_of_nle32 c7) | exact isIn63_f c7, rfl⟩ hP hS) hS.2.2 (Nat.le_of_ble_eq_true rfl) (Nat.le_of_ble_eq_true rfl)
  ·
    refine lv_iload_n hx hb dX4_needAtoms_4 rfl (lv_at hl 1 rfl) ?_
    refine lv_bipush (v := (nI 63)) hx hb dX4_needAtoms_5 (by decide) ?_
    refine lv_icmp_le (tgt := 20) hx hb dX4_needAtoms_7 (by decide) (fun c7 => ?_) (fun c7 => ?_)
    ·
      subst hQ
      refine W.widen (k := 1) (n := 6) (by decide) (by decide) ?_
      refine vx_ret ?_
      have hrel : (isIn 64 x) = true ∧ M = M := by exact ⟨isIn63_t c1 c7, rfl⟩
      exact W.vret hx hb hr (fun t ht hW => ⟨⟨M, rfl, hrel, by rw [← ht] at hP; exact hP⟩, hS.F ht⟩) hS.2.2 dX4_needAtoms_20
    ·
      subst hQ
      exact vx_throwS (mc := 1) (ms := 6) hx hb hl0 hown fit89 fitN (hts (.classLink RX4 85 "java/lang/IllegalArgumentException") (List.mem_of_getElem? (i := 1) rfl)) (hts (.initialized "java/lang/IllegalArgumentException") (List.mem_of_getElem? (i := 2) rfl)) hT.2.2.2.2.2.2.2.2.1 (hat89 hT (fun w h => hts w (List.mem_cons_of_mem _ (List.mem_append_right _ h)))) gow89 hZ.1 hZ.2 hS (hl.1.trans hml.symm) dX4_needAtoms_10 dX4_needAtoms_13 dX4_needAtoms_14 dX4_needAtoms_16 dX4_needAtoms_19 (fun x h => (htab x h).elim) (Nat.le_of_ble_eq_true rfl) (Nat.le_of_ble_eq_true rfl) (Nat.le_of_ble_eq_true rfl) (Nat.le_of_ble_eq_true rfl) hlocks (xthr ⟨rfl, by first | exact isIn_f1 c1 | exact isIn63_f (lt_of_nle32 c7) | exact isIn63_f c7, rfl⟩ hP hS) hS.2.2 (Nat.le_of_ble_eq_true rfl) (Nat.le_of_ble_eq_true rfl)

theorem le_of_nlt32 {x y : Int32} (h : ¬ x < y) : y ≤ x := by
  rw [Int32.lt_iff_toInt_lt] at h
  rw [Int32.le_iff_toInt_le]
  omega
theorem nle_of_lt32 {x y : Int32} (h : x < y) : ¬ y ≤ x := by
  rw [Int32.lt_iff_toInt_lt] at h
  rw [Int32.le_iff_toInt_le]
  omega

set_option maxHeartbeats 4000000 in
set_option maxRecDepth 100000 in
theorem c_X4_needAgent (l : Launch) (hl0 : l.stackTraces = false) (D : va_G) (cs sa : Nat → Nat) (a : Nat → Nat) (M : Nat → Nat → Int32) (N : Nat → Int64) (sz : Nat) (hI : kI a 29)  (x : Int32) : vx_Met l yX4_needAgent wsX4_needAgent ({ frames := 6, cells := 1, slots := 6, locals := 120 } : Room) (va_Pc [.ref (a 0), .int x] (XBT D cs sa a (xc cs a M N) sz)) (va_Qv (fun (u : Nat → Nat → Int32) => (isIn 4 x) = true ∧ u = M) (fun (u : Nat → Nat → Int32) t => va_P D vwCl (xc cs a u N) t.heap) (kA a 29 sz)) (XX D (fun u => xc cs a u N) (fun E u => E = "java/lang/IndexOutOfBoundsException" ∧ (isIn 4 x) = false ∧ u = M) (kA a 29 sz)) 1 6 (kA a 29 sz) := by
  refine vx_ofW (cc := cX4_needAgent) (maxL := 2) (ret := none) (by decide) rfl ?_
  intro p e s m args below meth c s₁ B hml htab hv
  obtain ⟨rfl, hsz, hP, hK, hT, hZ⟩ := hv
  have hx := B.exec
  have hb := B.bytes
  have hr := B.returns
  have hts := atoms_spec (ws := wsX4_needAgent) B.pre
  have hown : s.vm.findClass RX4 = some m.cls := findClass_of_methodNamed B.named
  have hlocks := B.notSynchronized
  have hK1 := hK.1
  subst hsz
  have hS : va_S (kA a 29 s.heap.size) s.heap s.heap [] := va_S.rf
  have hl := lv_entry ([.ref (a 0), .int x]) (n := 2) (Nat.le_of_ble_eq_true rfl)
  rw [lg_entry_eq]
  generalize (lg_sl ([.ref (a 0), .int x]) ++ List.replicate (2 - (lg_sl ([.ref (a 0), .int x])).length) Slot.unset).toArray = ls at hl ⊢
  have hl : lv_has ls 2 [(0, .ref (a 0)), (1, .int x)] := hl
  refine W_Q (fun Q hQ => ?_)
  show W p l e ({ frames := 6, cells := 1, slots := 6, locals := 120 } : Room) s m ([.ref (a 0), .int x] : List Value).toArray below meth c s.heap [] 0 0 Q (F0 m 0 ls [])
  refine lv_iload_n hx hb dX4_needAgent_0 rfl (lv_at hl 1 rfl) ?_
  refine lv_if_lt (tgt := 9) hx hb dX4_needAgent_1 (by decide) (fun c1 => ?_) (fun c1 => ?_)
  ·
    subst hQ
    exact vx_throwS (mc := 1) (ms := 6) hx hb hl0 hown fit117 fitN (hts (.classLink RX4 113 "java/lang/IndexOutOfBoundsException") (List.mem_of_getElem? (i := 1) rfl)) (hts (.initialized "java/lang/IndexOutOfBoundsException") (List.mem_of_getElem? (i := 2) rfl)) hT.2.2.2.2.2.2.2.2.2.1 (hat117 hT (fun w h => hts w (List.mem_cons_of_mem _ (List.mem_append_right _ h)))) gow117 hZ.1 hZ.2 hS (hl.1.trans hml.symm) dX4_needAgent_9 dX4_needAgent_12 dX4_needAgent_13 dX4_needAgent_15 dX4_needAgent_18 (fun x h => (htab x h).elim) (Nat.le_of_ble_eq_true rfl) (Nat.le_of_ble_eq_true rfl) (Nat.le_of_ble_eq_true rfl) (Nat.le_of_ble_eq_true rfl) hlocks (xthr ⟨rfl, by first | exact isIn_f1 c1 | exact isIn_f2 (le_of_nlt32 c6), rfl⟩ hP hS) hS.2.2 (Nat.le_of_ble_eq_true rfl) (Nat.le_of_ble_eq_true rfl)
  ·
    refine lv_iload_n hx hb dX4_needAgent_4 rfl (lv_at hl 1 rfl) ?_
    refine lv_iconst (v := (nI 4)) hx hb dX4_needAgent_5 (by decide) ?_
    refine lv_icmp_lt (tgt := 19) hx hb dX4_needAgent_6 (by decide) (fun c6 => ?_) (fun c6 => ?_)
    ·
      subst hQ
      refine W.widen (k := 1) (n := 6) (by decide) (by decide) ?_
      refine vx_ret ?_
      have hrel : (isIn 4 x) = true ∧ M = M := by exact ⟨isIn_t c1 (nle_of_lt32 c6), rfl⟩
      exact W.vret hx hb hr (fun t ht hW => ⟨⟨M, rfl, hrel, by rw [← ht] at hP; exact hP⟩, hS.F ht⟩) hS.2.2 dX4_needAgent_19
    ·
      subst hQ
      exact vx_throwS (mc := 1) (ms := 6) hx hb hl0 hown fit117 fitN (hts (.classLink RX4 113 "java/lang/IndexOutOfBoundsException") (List.mem_of_getElem? (i := 1) rfl)) (hts (.initialized "java/lang/IndexOutOfBoundsException") (List.mem_of_getElem? (i := 2) rfl)) hT.2.2.2.2.2.2.2.2.2.1 (hat117 hT (fun w h => hts w (List.mem_cons_of_mem _ (List.mem_append_right _ h)))) gow117 hZ.1 hZ.2 hS (hl.1.trans hml.symm) dX4_needAgent_9 dX4_needAgent_12 dX4_needAgent_13 dX4_needAgent_15 dX4_needAgent_18 (fun x h => (htab x h).elim) (Nat.le_of_ble_eq_true rfl) (Nat.le_of_ble_eq_true rfl) (Nat.le_of_ble_eq_true rfl) (Nat.le_of_ble_eq_true rfl) hlocks (xthr ⟨rfl, by first | exact isIn_f1 c1 | exact isIn_f2 (le_of_nlt32 c6), rfl⟩ hP hS) hS.2.2 (Nat.le_of_ble_eq_true rfl) (Nat.le_of_ble_eq_true rfl)

set_option maxHeartbeats 4000000 in
set_option maxRecDepth 100000 in
theorem c_X4_needGroup (l : Launch) (hl0 : l.stackTraces = false) (D : va_G) (cs sa : Nat → Nat) (a : Nat → Nat) (M : Nat → Nat → Int32) (N : Nat → Int64) (sz : Nat) (hI : kI a 29)  (x : Int32) : vx_Met l yX4_needGroup wsX4_needGroup ({ frames := 6, cells := 1, slots := 6, locals := 120 } : Room) (va_Pc [.ref (a 0), .int x] (XBT D cs sa a (xc cs a M N) sz)) (va_Qv (fun (u : Nat → Nat → Int32) => (isGr x) = true ∧ u = M) (fun (u : Nat → Nat → Int32) t => va_P D vwCl (xc cs a u N) t.heap) (kA a 29 sz)) (XX D (fun u => xc cs a u N) (fun E u => E = "java/lang/IllegalArgumentException" ∧ (isGr x) = false ∧ u = M) (kA a 29 sz)) 1 6 (kA a 29 sz) := by
  refine vx_ofW (cc := cX4_needGroup) (maxL := 2) (ret := none) (by decide) rfl ?_
  intro p e s m args below meth c s₁ B hml htab hv
  obtain ⟨rfl, hsz, hP, hK, hT, hZ⟩ := hv
  have hx := B.exec
  have hb := B.bytes
  have hr := B.returns
  have hts := atoms_spec (ws := wsX4_needGroup) B.pre
  have hown : s.vm.findClass RX4 = some m.cls := findClass_of_methodNamed B.named
  have hlocks := B.notSynchronized
  have hK1 := hK.1
  subst hsz
  have hS : va_S (kA a 29 s.heap.size) s.heap s.heap [] := va_S.rf
  have hl := lv_entry ([.ref (a 0), .int x]) (n := 2) (Nat.le_of_ble_eq_true rfl)
  rw [lg_entry_eq]
  generalize (lg_sl ([.ref (a 0), .int x]) ++ List.replicate (2 - (lg_sl ([.ref (a 0), .int x])).length) Slot.unset).toArray = ls at hl ⊢
  have hl : lv_has ls 2 [(0, .ref (a 0)), (1, .int x)] := hl
  refine W_Q (fun Q hQ => ?_)
  show W p l e ({ frames := 6, cells := 1, slots := 6, locals := 120 } : Room) s m ([.ref (a 0), .int x] : List Value).toArray below meth c s.heap [] 0 0 Q (F0 m 0 ls [])
  refine lv_iload_n hx hb dX4_needGroup_0 rfl (lv_at hl 1 rfl) ?_
  refine lv_iconst (v := (nI 1)) hx hb dX4_needGroup_1 (by decide) ?_
  refine lv_icmp_lt (tgt := 11) hx hb dX4_needGroup_2 (by decide) (fun c2 => ?_) (fun c2 => ?_)
  ·
    subst hQ
    exact vx_throwS (mc := 1) (ms := 6) hx hb hl0 hown fit89 fitN (hts (.classLink RX4 85 "java/lang/IllegalArgumentException") (List.mem_of_getElem? (i := 1) rfl)) (hts (.initialized "java/lang/IllegalArgumentException") (List.mem_of_getElem? (i := 2) rfl)) hT.2.2.2.2.2.2.2.2.2.2.1 (hat89 hT (fun w h => hts w (List.mem_cons_of_mem _ (List.mem_append_right _ h)))) gow89 hZ.1 hZ.2 hS (hl.1.trans hml.symm) dX4_needGroup_11 dX4_needGroup_14 dX4_needGroup_15 dX4_needGroup_17 dX4_needGroup_20 (fun x h => (htab x h).elim) (Nat.le_of_ble_eq_true rfl) (Nat.le_of_ble_eq_true rfl) (Nat.le_of_ble_eq_true rfl) (Nat.le_of_ble_eq_true rfl) hlocks (xthr ⟨rfl, by first | exact isGr_f1 c2 | exact isGr15_f (lt_of_nle32 c8), rfl⟩ hP hS) hS.2.2 (Nat.le_of_ble_eq_true rfl) (Nat.le_of_ble_eq_true rfl)
  ·
    refine lv_iload_n hx hb dX4_needGroup_5 rfl (lv_at hl 1 rfl) ?_
    refine lv_bipush (v := (nI 15)) hx hb dX4_needGroup_6 (by decide) ?_
    refine lv_icmp_le (tgt := 21) hx hb dX4_needGroup_8 (by decide) (fun c8 => ?_) (fun c8 => ?_)
    ·
      subst hQ
      refine W.widen (k := 1) (n := 6) (by decide) (by decide) ?_
      refine vx_ret ?_
      have hrel : (isGr x) = true ∧ M = M := by exact ⟨isGr15_t c2 c8, rfl⟩
      exact W.vret hx hb hr (fun t ht hW => ⟨⟨M, rfl, hrel, by rw [← ht] at hP; exact hP⟩, hS.F ht⟩) hS.2.2 dX4_needGroup_21
    ·
      subst hQ
      exact vx_throwS (mc := 1) (ms := 6) hx hb hl0 hown fit89 fitN (hts (.classLink RX4 85 "java/lang/IllegalArgumentException") (List.mem_of_getElem? (i := 1) rfl)) (hts (.initialized "java/lang/IllegalArgumentException") (List.mem_of_getElem? (i := 2) rfl)) hT.2.2.2.2.2.2.2.2.2.2.1 (hat89 hT (fun w h => hts w (List.mem_cons_of_mem _ (List.mem_append_right _ h)))) gow89 hZ.1 hZ.2 hS (hl.1.trans hml.symm) dX4_needGroup_11 dX4_needGroup_14 dX4_needGroup_15 dX4_needGroup_17 dX4_needGroup_20 (fun x h => (htab x h).elim) (Nat.le_of_ble_eq_true rfl) (Nat.le_of_ble_eq_true rfl) (Nat.le_of_ble_eq_true rfl) (Nat.le_of_ble_eq_true rfl) hlocks (xthr ⟨rfl, by first | exact isGr_f1 c2 | exact isGr15_f (lt_of_nle32 c8), rfl⟩ hP hS) hS.2.2 (Nat.le_of_ble_eq_true rfl) (Nat.le_of_ble_eq_true rfl)

set_option maxHeartbeats 4000000 in
set_option maxRecDepth 100000 in
theorem c_X4_needWorld (l : Launch) (hl0 : l.stackTraces = false) (D : va_G) (cs sa : Nat → Nat) (a : Nat → Nat) (M : Nat → Nat → Int32) (N : Nat → Int64) (sz : Nat) (hI : kI a 29) (n : Nat) (x : Int32) (hn : M 0 0 = nI n) (hn24 : n ≤ 24) : vx_Met l yX4_needWorld wsX4_needWorld ({ frames := 6, cells := 1, slots := 6, locals := 120 } : Room) (va_Pc [.ref (a 0), .int x] (XBT D cs sa a (xc cs a M N) sz)) (va_Qv (fun (u : Nat → Nat → Int32) => (isIn n x) = true ∧ u = M) (fun (u : Nat → Nat → Int32) t => va_P D vwCl (xc cs a u N) t.heap) (kA a 29 sz)) (XX D (fun u => xc cs a u N) (fun E u => E = "java/lang/IndexOutOfBoundsException" ∧ (isIn n x) = false ∧ u = M) (kA a 29 sz)) 1 6 (kA a 29 sz) := by
  refine vx_ofW (cc := cX4_needWorld) (maxL := 2) (ret := none) (by decide) rfl ?_
  intro p e s m args below meth c s₁ B hml htab hv
  obtain ⟨rfl, hsz, hP, hK, hT, hZ⟩ := hv
  have hx := B.exec
  have hb := B.bytes
  have hr := B.returns
  have hts := atoms_spec (ws := wsX4_needWorld) B.pre
  have hown : s.vm.findClass RX4 = some m.cls := findClass_of_methodNamed B.named
  have hlocks := B.notSynchronized
  have hK1 := hK.1
  have hinX4 : ∀ w ∈ wsX40, w ∈ wsX4_needWorld := fun w h => List.mem_cons_of_mem _ (List.mem_append_left _ (List.mem_append_left _ (List.mem_append_right _ h)))
  have hinX3 : ∀ w ∈ wsX30, w ∈ wsX4_needWorld := fun w h => List.mem_cons_of_mem _ (List.mem_append_left _ (List.mem_append_right _ h))
  subst hsz
  have hS : va_S (kA a 29 s.heap.size) s.heap s.heap [] := va_S.rf
  have hl := lv_entry ([.ref (a 0), .int x]) (n := 2) (Nat.le_of_ble_eq_true rfl)
  rw [lg_entry_eq]
  generalize (lg_sl ([.ref (a 0), .int x]) ++ List.replicate (2 - (lg_sl ([.ref (a 0), .int x])).length) Slot.unset).toArray = ls at hl ⊢
  have hl : lv_has ls 2 [(0, .ref (a 0)), (1, .int x)] := hl
  refine W_Q (fun Q hQ => ?_)
  show W p l e ({ frames := 6, cells := 1, slots := 6, locals := 120 } : Room) s m ([.ref (a 0), .int x] : List Value).toArray below meth c s.heap [] 0 0 Q (F0 m 0 ls [])
  refine lv_iload_n hx hb dX4_needWorld_0 rfl (lv_at hl 1 rfl) ?_
  refine lv_if_lt (tgt := 15) hx hb dX4_needWorld_1 (by decide) (fun c1 => ?_) (fun c1 => ?_)
  ·
    subst hQ
    exact vx_throwS (mc := 1) (ms := 6) hx hb hl0 hown fit117 fitN (hts (.classLink RX4 113 "java/lang/IndexOutOfBoundsException") (List.mem_of_getElem? (i := 1) rfl)) (hts (.initialized "java/lang/IndexOutOfBoundsException") (List.mem_of_getElem? (i := 2) rfl)) hT.2.2.2.2.2.2.2.2.2.2.2.1 (hat117 hT (fun w h => hts w (List.mem_cons_of_mem _ (List.mem_append_right _ h)))) gow117 hZ.1 hZ.2 hS (hl.1.trans hml.symm) dX4_needWorld_15 dX4_needWorld_18 dX4_needWorld_19 dX4_needWorld_21 dX4_needWorld_24 (fun x h => (htab x h).elim) (Nat.le_of_ble_eq_true rfl) (Nat.le_of_ble_eq_true rfl) (Nat.le_of_ble_eq_true rfl) (Nat.le_of_ble_eq_true rfl) hlocks (xthr ⟨rfl, by first | exact isIn_f1 c1 | exact isIn_f2 (le_of_nlt32 c12), rfl⟩ hP hS) hS.2.2 (Nat.le_of_ble_eq_true rfl) (Nat.le_of_ble_eq_true rfl)
  ·
    refine lv_iload_n hx hb dX4_needWorld_4 rfl (lv_at hl 1 rfl) ?_
    refine lv_aload_n hx hb dX4_needWorld_5 rfl (lv_at hl 0 rfl) ?_
    refine va_get (D := D) (ci := 4) (v := .ref (a 1)) (C := RX4) (T := TX4) (N := 4) hx hb hts hinX4 hown hK1 hP 0 rfl rfl 0 (by decide) (hts (.fieldLink RX4 10 "KnowledgeModel" "worlds" "LKnowledgeModel$Worlds;") (List.mem_of_getElem? (i := 3) rfl)) (fun _ h9 => h9) rfl dX4_needWorld_6 ?_
    refine va_get (D := D) (ci := 3) (v := .int (M 0 0)) (C := RX3) (T := TX3) (N := 4) hx hb hts hinX3 hown hK1 hP 1 rfl rfl 2 (by decide) (hts (.fieldLink RX4 45 "KnowledgeModel$Worlds" "count" "I") (List.mem_of_getElem? (i := 4) rfl)) (fun _ h9 => h9) rfl dX4_needWorld_9 ?_
    refine xtop (y := nI n) (hn) ?_
    refine lv_icmp_lt (tgt := 25) hx hb dX4_needWorld_12 (by decide) (fun c12 => ?_) (fun c12 => ?_)
    ·
      subst hQ
      refine W.widen (k := 1) (n := 6) (by decide) (by decide) ?_
      refine vx_ret ?_
      have hrel : (isIn n x) = true ∧ M = M := by exact ⟨isIn_t c1 (nle_of_lt32 c12), rfl⟩
      exact W.vret hx hb hr (fun t ht hW => ⟨⟨M, rfl, hrel, by rw [← ht] at hP; exact hP⟩, hS.F ht⟩) hS.2.2 dX4_needWorld_25
    ·
      subst hQ
      exact vx_throwS (mc := 1) (ms := 6) hx hb hl0 hown fit117 fitN (hts (.classLink RX4 113 "java/lang/IndexOutOfBoundsException") (List.mem_of_getElem? (i := 1) rfl)) (hts (.initialized "java/lang/IndexOutOfBoundsException") (List.mem_of_getElem? (i := 2) rfl)) hT.2.2.2.2.2.2.2.2.2.2.2.1 (hat117 hT (fun w h => hts w (List.mem_cons_of_mem _ (List.mem_append_right _ h)))) gow117 hZ.1 hZ.2 hS (hl.1.trans hml.symm) dX4_needWorld_15 dX4_needWorld_18 dX4_needWorld_19 dX4_needWorld_21 dX4_needWorld_24 (fun x h => (htab x h).elim) (Nat.le_of_ble_eq_true rfl) (Nat.le_of_ble_eq_true rfl) (Nat.le_of_ble_eq_true rfl) (Nat.le_of_ble_eq_true rfl) hlocks (xthr ⟨rfl, by first | exact isIn_f1 c1 | exact isIn_f2 (le_of_nlt32 c12), rfl⟩ hP hS) hS.2.2 (Nat.le_of_ble_eq_true rfl) (Nat.le_of_ble_eq_true rfl)

set_option maxHeartbeats 4000000 in
set_option maxRecDepth 100000 in
theorem c_X4_needFormula (l : Launch) (hl0 : l.stackTraces = false) (D : va_G) (cs sa : Nat → Nat) (a : Nat → Nat) (M : Nat → Nat → Int32) (N : Nat → Int64) (sz : Nat) (hI : kI a 29) (nf : Nat) (x : Int32) (hfc : M 0 2 = nI nf) (hf40 : nf ≤ 40) : vx_Met l yX4_needFormula wsX4_needFormula ({ frames := 6, cells := 1, slots := 6, locals := 120 } : Room) (va_Pc [.ref (a 0), .int x] (XBT D cs sa a (xc cs a M N) sz)) (va_Qv (fun (u : Nat → Nat → Int32) => (isIn nf x) = true ∧ u = M) (fun (u : Nat → Nat → Int32) t => va_P D vwCl (xc cs a u N) t.heap) (kA a 29 sz)) (XX D (fun u => xc cs a u N) (fun E u => E = "java/lang/IndexOutOfBoundsException" ∧ (isIn nf x) = false ∧ u = M) (kA a 29 sz)) 1 6 (kA a 29 sz) := by
  refine vx_ofW (cc := cX4_needFormula) (maxL := 2) (ret := none) (by decide) rfl ?_
  intro p e s m args below meth c s₁ B hml htab hv
  obtain ⟨rfl, hsz, hP, hK, hT, hZ⟩ := hv
  have hx := B.exec
  have hb := B.bytes
  have hr := B.returns
  have hts := atoms_spec (ws := wsX4_needFormula) B.pre
  have hown : s.vm.findClass RX4 = some m.cls := findClass_of_methodNamed B.named
  have hlocks := B.notSynchronized
  have hK1 := hK.1
  have hinX4 : ∀ w ∈ wsX40, w ∈ wsX4_needFormula := fun w h => List.mem_cons_of_mem _ (List.mem_append_left _ (List.mem_append_left _ (List.mem_append_right _ h)))
  have hinX0 : ∀ w ∈ wsX00, w ∈ wsX4_needFormula := fun w h => List.mem_cons_of_mem _ (List.mem_append_left _ (List.mem_append_right _ h))
  subst hsz
  have hS : va_S (kA a 29 s.heap.size) s.heap s.heap [] := va_S.rf
  have hl := lv_entry ([.ref (a 0), .int x]) (n := 2) (Nat.le_of_ble_eq_true rfl)
  rw [lg_entry_eq]
  generalize (lg_sl ([.ref (a 0), .int x]) ++ List.replicate (2 - (lg_sl ([.ref (a 0), .int x])).length) Slot.unset).toArray = ls at hl ⊢
  have hl : lv_has ls 2 [(0, .ref (a 0)), (1, .int x)] := hl
  refine W_Q (fun Q hQ => ?_)
  show W p l e ({ frames := 6, cells := 1, slots := 6, locals := 120 } : Room) s m ([.ref (a 0), .int x] : List Value).toArray below meth c s.heap [] 0 0 Q (F0 m 0 ls [])
  refine lv_iload_n hx hb dX4_needFormula_0 rfl (lv_at hl 1 rfl) ?_
  refine lv_if_lt (tgt := 15) hx hb dX4_needFormula_1 (by decide) (fun c1 => ?_) (fun c1 => ?_)
  ·
    subst hQ
    exact vx_throwS (mc := 1) (ms := 6) hx hb hl0 hown fit117 fitN (hts (.classLink RX4 113 "java/lang/IndexOutOfBoundsException") (List.mem_of_getElem? (i := 1) rfl)) (hts (.initialized "java/lang/IndexOutOfBoundsException") (List.mem_of_getElem? (i := 2) rfl)) hT.2.2.2.2.2.2.2.2.2.2.2.2.2.2.1 (hat117 hT (fun w h => hts w (List.mem_cons_of_mem _ (List.mem_append_right _ h)))) gow117 hZ.1 hZ.2 hS (hl.1.trans hml.symm) dX4_needFormula_15 dX4_needFormula_18 dX4_needFormula_19 dX4_needFormula_21 dX4_needFormula_24 (fun x h => (htab x h).elim) (Nat.le_of_ble_eq_true rfl) (Nat.le_of_ble_eq_true rfl) (Nat.le_of_ble_eq_true rfl) (Nat.le_of_ble_eq_true rfl) hlocks (xthr ⟨rfl, by first | exact isIn_f1 c1 | exact isIn_f2 (le_of_nlt32 c12), rfl⟩ hP hS) hS.2.2 (Nat.le_of_ble_eq_true rfl) (Nat.le_of_ble_eq_true rfl)
  ·
    refine lv_iload_n hx hb dX4_needFormula_4 rfl (lv_at hl 1 rfl) ?_
    refine lv_aload_n hx hb dX4_needFormula_5 rfl (lv_at hl 0 rfl) ?_
    refine va_get (D := D) (ci := 4) (v := .ref (a 8)) (C := RX4) (T := TX4) (N := 4) hx hb hts hinX4 hown hK1 hP 0 rfl rfl 1 (by decide) (hts (.fieldLink RX4 19 "KnowledgeModel" "formulas" "LKnowledgeModel$Formulas;") (List.mem_of_getElem? (i := 3) rfl)) (fun _ h9 => h9) rfl dX4_needFormula_6 ?_
    refine va_get (D := D) (ci := 0) (v := .int (M 0 2)) (C := RX0) (T := TX0) (N := 8) hx hb hts hinX0 hown hK1 hP 8 rfl rfl 7 (by decide) (hts (.fieldLink RX4 140 "KnowledgeModel$Formulas" "count" "I") (List.mem_of_getElem? (i := 4) rfl)) (fun _ h9 => h9) rfl dX4_needFormula_9 ?_
    refine xtop (y := nI nf) (hfc) ?_
    refine lv_icmp_lt (tgt := 25) hx hb dX4_needFormula_12 (by decide) (fun c12 => ?_) (fun c12 => ?_)
    ·
      subst hQ
      refine W.widen (k := 1) (n := 6) (by decide) (by decide) ?_
      refine vx_ret ?_
      have hrel : (isIn nf x) = true ∧ M = M := by exact ⟨isIn_t c1 (nle_of_lt32 c12), rfl⟩
      exact W.vret hx hb hr (fun t ht hW => ⟨⟨M, rfl, hrel, by rw [← ht] at hP; exact hP⟩, hS.F ht⟩) hS.2.2 dX4_needFormula_25
    ·
      subst hQ
      exact vx_throwS (mc := 1) (ms := 6) hx hb hl0 hown fit117 fitN (hts (.classLink RX4 113 "java/lang/IndexOutOfBoundsException") (List.mem_of_getElem? (i := 1) rfl)) (hts (.initialized "java/lang/IndexOutOfBoundsException") (List.mem_of_getElem? (i := 2) rfl)) hT.2.2.2.2.2.2.2.2.2.2.2.2.2.2.1 (hat117 hT (fun w h => hts w (List.mem_cons_of_mem _ (List.mem_append_right _ h)))) gow117 hZ.1 hZ.2 hS (hl.1.trans hml.symm) dX4_needFormula_15 dX4_needFormula_18 dX4_needFormula_19 dX4_needFormula_21 dX4_needFormula_24 (fun x h => (htab x h).elim) (Nat.le_of_ble_eq_true rfl) (Nat.le_of_ble_eq_true rfl) (Nat.le_of_ble_eq_true rfl) (Nat.le_of_ble_eq_true rfl) hlocks (xthr ⟨rfl, by first | exact isIn_f1 c1 | exact isIn_f2 (le_of_nlt32 c12), rfl⟩ hP hS) hS.2.2 (Nat.le_of_ble_eq_true rfl) (Nat.le_of_ble_eq_true rfl)

set_option maxHeartbeats 4000000 in
set_option maxRecDepth 100000 in
theorem c_X4_needSomeWorld (l : Launch) (hl0 : l.stackTraces = false) (D : va_G) (cs sa : Nat → Nat) (a : Nat → Nat) (M : Nat → Nat → Int32) (N : Nat → Int64) (sz : Nat) (hI : kI a 29) (n : Nat)  (hn : M 0 0 = nI n) (hn24 : n ≤ 24) : vx_Met l yX4_needSomeWorld wsX4_needSomeWorld ({ frames := 6, cells := 1, slots := 6, locals := 120 } : Room) (va_Pc [.ref (a 0)] (XBT D cs sa a (xc cs a M N) sz)) (va_Qv (fun (u : Nat → Nat → Int32) => (!decide (n = 0)) = true ∧ u = M) (fun (u : Nat → Nat → Int32) t => va_P D vwCl (xc cs a u N) t.heap) (kA a 29 sz)) (XX D (fun u => xc cs a u N) (fun E u => E = "java/lang/IllegalStateException" ∧ (!decide (n = 0)) = false ∧ u = M) (kA a 29 sz)) 1 6 (kA a 29 sz) := by
  refine vx_ofW (cc := cX4_needSomeWorld) (maxL := 1) (ret := none) (by decide) rfl ?_
  intro p e s m args below meth c s₁ B hml htab hv
  obtain ⟨rfl, hsz, hP, hK, hT, hZ⟩ := hv
  have hx := B.exec
  have hb := B.bytes
  have hr := B.returns
  have hts := atoms_spec (ws := wsX4_needSomeWorld) B.pre
  have hown : s.vm.findClass RX4 = some m.cls := findClass_of_methodNamed B.named
  have hlocks := B.notSynchronized
  have hK1 := hK.1
  have hinX4 : ∀ w ∈ wsX40, w ∈ wsX4_needSomeWorld := fun w h => List.mem_cons_of_mem _ (List.mem_append_left _ (List.mem_append_left _ (List.mem_append_right _ h)))
  have hinX3 : ∀ w ∈ wsX30, w ∈ wsX4_needSomeWorld := fun w h => List.mem_cons_of_mem _ (List.mem_append_left _ (List.mem_append_right _ h))
  subst hsz
  have hS : va_S (kA a 29 s.heap.size) s.heap s.heap [] := va_S.rf
  have hl := lv_entry ([.ref (a 0)]) (n := 1) (Nat.le_of_ble_eq_true rfl)
  rw [lg_entry_eq]
  generalize (lg_sl ([.ref (a 0)]) ++ List.replicate (1 - (lg_sl ([.ref (a 0)])).length) Slot.unset).toArray = ls at hl ⊢
  have hl : lv_has ls 1 [(0, .ref (a 0))] := hl
  refine W_Q (fun Q hQ => ?_)
  show W p l e ({ frames := 6, cells := 1, slots := 6, locals := 120 } : Room) s m ([.ref (a 0)] : List Value).toArray below meth c s.heap [] 0 0 Q (F0 m 0 ls [])
  refine lv_aload_n hx hb dX4_needSomeWorld_0 rfl (lv_at hl 0 rfl) ?_
  refine va_get (D := D) (ci := 4) (v := .ref (a 1)) (C := RX4) (T := TX4) (N := 4) hx hb hts hinX4 hown hK1 hP 0 rfl rfl 0 (by decide) (hts (.fieldLink RX4 10 "KnowledgeModel" "worlds" "LKnowledgeModel$Worlds;") (List.mem_of_getElem? (i := 3) rfl)) (fun _ h9 => h9) rfl dX4_needSomeWorld_1 ?_
  refine va_get (D := D) (ci := 3) (v := .int (M 0 0)) (C := RX3) (T := TX3) (N := 4) hx hb hts hinX3 hown hK1 hP 1 rfl rfl 2 (by decide) (hts (.fieldLink RX4 45 "KnowledgeModel$Worlds" "count" "I") (List.mem_of_getElem? (i := 4) rfl)) (fun _ h9 => h9) rfl dX4_needSomeWorld_4 ?_
  refine xtop (y := nI n) (hn) ?_
  refine lv_if_ne (tgt := 20) hx hb dX4_needSomeWorld_7 (by decide) (fun c7 => ?_) (fun c7 => ?_)
  ·
    replace c7 : ¬ n = 0 := k0_net c7 (by omega)
    subst hQ
    refine W.widen (k := 1) (n := 6) (by decide) (by decide) ?_
    refine vx_ret ?_
    have hrel : (!decide (n = 0)) = true ∧ M = M := by exact ⟨by rw [decide_eq_false c7]; rfl, rfl⟩
    exact W.vret hx hb hr (fun t ht hW => ⟨⟨M, rfl, hrel, by rw [← ht] at hP; exact hP⟩, hS.F ht⟩) hS.2.2 dX4_needSomeWorld_20
  ·
    replace c7 : n = 0 := k0_nef c7 (by omega)
    subst hQ
    exact vx_throwS (mc := 1) (ms := 6) hx hb hl0 hown fit53 fitN (hts (.classLink RX4 49 "java/lang/IllegalStateException") (List.mem_of_getElem? (i := 1) rfl)) (hts (.initialized "java/lang/IllegalStateException") (List.mem_of_getElem? (i := 2) rfl)) hT.2.2.2.2.2.2.2.2.2.2.2.2.1 (hat53 hT (fun w h => hts w (List.mem_cons_of_mem _ (List.mem_append_right _ h)))) gow53 hZ.1 hZ.2 hS (hl.1.trans hml.symm) dX4_needSomeWorld_10 dX4_needSomeWorld_13 dX4_needSomeWorld_14 dX4_needSomeWorld_16 dX4_needSomeWorld_19 (fun x h => (htab x h).elim) (Nat.le_of_ble_eq_true rfl) (Nat.le_of_ble_eq_true rfl) (Nat.le_of_ble_eq_true rfl) (Nat.le_of_ble_eq_true rfl) hlocks (xthr ⟨rfl, by rw [decide_eq_true c7]; rfl, rfl⟩ hP hS) hS.2.2 (Nat.le_of_ble_eq_true rfl) (Nat.le_of_ble_eq_true rfl)

set_option maxHeartbeats 4000000 in
set_option maxRecDepth 100000 in
theorem c_X4_needRoomForFormula (l : Launch) (hl0 : l.stackTraces = false) (D : va_G) (cs sa : Nat → Nat) (a : Nat → Nat) (M : Nat → Nat → Int32) (N : Nat → Int64) (sz : Nat) (hI : kI a 29) (nf : Nat)  (hfc : M 0 2 = nI nf) (hf40 : nf ≤ 40) : vx_Met l yX4_needRoomForFormula wsX4_needRoomForFormula ({ frames := 6, cells := 1, slots := 6, locals := 120 } : Room) (va_Pc [.ref (a 0)] (XBT D cs sa a (xc cs a M N) sz)) (va_Qv (fun (u : Nat → Nat → Int32) => (decide (nf < 40)) = true ∧ u = M) (fun (u : Nat → Nat → Int32) t => va_P D vwCl (xc cs a u N) t.heap) (kA a 29 sz)) (XX D (fun u => xc cs a u N) (fun E u => E = "java/lang/IllegalStateException" ∧ (decide (nf < 40)) = false ∧ u = M) (kA a 29 sz)) 1 6 (kA a 29 sz) := by
  refine vx_ofW (cc := cX4_needRoomForFormula) (maxL := 1) (ret := none) (by decide) rfl ?_
  intro p e s m args below meth c s₁ B hml htab hv
  obtain ⟨rfl, hsz, hP, hK, hT, hZ⟩ := hv
  have hx := B.exec
  have hb := B.bytes
  have hr := B.returns
  have hts := atoms_spec (ws := wsX4_needRoomForFormula) B.pre
  have hown : s.vm.findClass RX4 = some m.cls := findClass_of_methodNamed B.named
  have hlocks := B.notSynchronized
  have hK1 := hK.1
  have hinX4 : ∀ w ∈ wsX40, w ∈ wsX4_needRoomForFormula := fun w h => List.mem_cons_of_mem _ (List.mem_append_left _ (List.mem_append_left _ (List.mem_append_right _ h)))
  have hinX0 : ∀ w ∈ wsX00, w ∈ wsX4_needRoomForFormula := fun w h => List.mem_cons_of_mem _ (List.mem_append_left _ (List.mem_append_right _ h))
  subst hsz
  have hS : va_S (kA a 29 s.heap.size) s.heap s.heap [] := va_S.rf
  have hl := lv_entry ([.ref (a 0)]) (n := 1) (Nat.le_of_ble_eq_true rfl)
  rw [lg_entry_eq]
  generalize (lg_sl ([.ref (a 0)]) ++ List.replicate (1 - (lg_sl ([.ref (a 0)])).length) Slot.unset).toArray = ls at hl ⊢
  have hl : lv_has ls 1 [(0, .ref (a 0))] := hl
  refine W_Q (fun Q hQ => ?_)
  show W p l e ({ frames := 6, cells := 1, slots := 6, locals := 120 } : Room) s m ([.ref (a 0)] : List Value).toArray below meth c s.heap [] 0 0 Q (F0 m 0 ls [])
  refine lv_aload_n hx hb dX4_needRoomForFormula_0 rfl (lv_at hl 0 rfl) ?_
  refine va_get (D := D) (ci := 4) (v := .ref (a 8)) (C := RX4) (T := TX4) (N := 4) hx hb hts hinX4 hown hK1 hP 0 rfl rfl 1 (by decide) (hts (.fieldLink RX4 19 "KnowledgeModel" "formulas" "LKnowledgeModel$Formulas;") (List.mem_of_getElem? (i := 3) rfl)) (fun _ h9 => h9) rfl dX4_needRoomForFormula_1 ?_
  refine va_get (D := D) (ci := 0) (v := .int (M 0 2)) (C := RX0) (T := TX0) (N := 8) hx hb hts hinX0 hown hK1 hP 8 rfl rfl 7 (by decide) (hts (.fieldLink RX4 140 "KnowledgeModel$Formulas" "count" "I") (List.mem_of_getElem? (i := 4) rfl)) (fun _ h9 => h9) rfl dX4_needRoomForFormula_4 ?_
  refine xtop (y := nI nf) (hfc) ?_
  refine lv_bipush (v := (nI 40)) hx hb dX4_needRoomForFormula_7 (by decide) ?_
  refine lv_icmp_lt (tgt := 22) hx hb dX4_needRoomForFormula_9 (by decide) (fun c9 => ?_) (fun c9 => ?_)
  ·
    replace c9 : nf < 40 := k_ltt c9 (by omega) (by omega)
    subst hQ
    refine W.widen (k := 1) (n := 6) (by decide) (by decide) ?_
    refine vx_ret ?_
    have hrel : (decide (nf < 40)) = true ∧ M = M := by exact ⟨decide_eq_true c9, rfl⟩
    exact W.vret hx hb hr (fun t ht hW => ⟨⟨M, rfl, hrel, by rw [← ht] at hP; exact hP⟩, hS.F ht⟩) hS.2.2 dX4_needRoomForFormula_22
  ·
    replace c9 : 40 ≤ nf := k_ltf c9 (by omega) (by omega)
    subst hQ
    exact vx_throwS (mc := 1) (ms := 6) hx hb hl0 hown fit53 fitN (hts (.classLink RX4 49 "java/lang/IllegalStateException") (List.mem_of_getElem? (i := 1) rfl)) (hts (.initialized "java/lang/IllegalStateException") (List.mem_of_getElem? (i := 2) rfl)) hT.2.2.2.2.2.2.2.2.2.2.2.2.2.2.2.1 (hat53 hT (fun w h => hts w (List.mem_cons_of_mem _ (List.mem_append_right _ h)))) gow53 hZ.1 hZ.2 hS (hl.1.trans hml.symm) dX4_needRoomForFormula_12 dX4_needRoomForFormula_15 dX4_needRoomForFormula_16 dX4_needRoomForFormula_18 dX4_needRoomForFormula_21 (fun x h => (htab x h).elim) (Nat.le_of_ble_eq_true rfl) (Nat.le_of_ble_eq_true rfl) (Nat.le_of_ble_eq_true rfl) (Nat.le_of_ble_eq_true rfl) hlocks (xthr ⟨rfl, by exact decide_eq_false (by omega), rfl⟩ hP hS) hS.2.2 (Nat.le_of_ble_eq_true rfl) (Nat.le_of_ble_eq_true rfl)

set_option maxHeartbeats 4000000 in
set_option maxRecDepth 100000 in
theorem c_X4_needActualIn (l : Launch) (hl0 : l.stackTraces = false) (D : va_G) (cs sa : Nat → Nat) (a : Nat → Nat) (M : Nat → Nat → Int32) (N : Nat → Int64) (sz : Nat) (hI : kI a 29) (n : Nat) (act : Nat) (set : Int32) (hn : M 0 0 = nI n) (hn24 : n ≤ 24) (hact : M 0 1 = nI act) (ha24 : act < 24) : vx_Met l yX4_needActualIn wsX4_needActualIn ({ frames := 7, cells := 2, slots := 12, locals := 150 } : Room) (va_Pc [.ref (a 0), .int set] (XBT D cs sa a (xc cs a M N) sz)) (va_Qv (fun (u : Nat → Nat → Int32) => (!decide (n = 0) && bt set act) = true ∧ u = M) (fun (u : Nat → Nat → Int32) t => va_P D vwCl (xc cs a u N) t.heap) (kA a 29 sz)) (XX D (fun u => xc cs a u N) (fun E u => E = "java/lang/IllegalStateException" ∧ (!decide (n = 0) && bt set act) = false ∧ u = M) (kA a 29 sz)) 2 12 (kA a 29 sz) := by
  refine vx_ofW (cc := cX4_needActualIn) (maxL := 2) (ret := none) (by decide) rfl ?_
  intro p e s m args below meth c s₁ B hml htab hv
  obtain ⟨rfl, hsz, hP, hK, hT, hZ⟩ := hv
  have hx := B.exec
  have hb := B.bytes
  have hr := B.returns
  have hts := atoms_spec (ws := wsX4_needActualIn) B.pre
  have hown : s.vm.findClass RX4 = some m.cls := findClass_of_methodNamed B.named
  have hlocks := B.notSynchronized
  have hK1 := hK.1
  have hinX4 : ∀ w ∈ wsX40, w ∈ wsX4_needActualIn := fun w h => List.mem_cons_of_mem _ (List.mem_append_left _ (List.mem_append_left _ (List.mem_append_right _ h)))
  have hinX3 : ∀ w ∈ wsX30, w ∈ wsX4_needActualIn := fun w h => List.mem_cons_of_mem _ (List.mem_append_left _ (List.mem_append_right _ h))
  subst hsz
  have hS : va_S (kA a 29 s.heap.size) s.heap s.heap [] := va_S.rf
  have hl := lv_entry ([.ref (a 0), .int set]) (n := 2) (Nat.le_of_ble_eq_true rfl)
  rw [lg_entry_eq]
  generalize (lg_sl ([.ref (a 0), .int set]) ++ List.replicate (2 - (lg_sl ([.ref (a 0), .int set])).length) Slot.unset).toArray = ls at hl ⊢
  have hl : lv_has ls 2 [(0, .ref (a 0)), (1, .int set)] := hl
  refine W_Q (fun Q hQ => ?_)
  show W p l e ({ frames := 7, cells := 2, slots := 12, locals := 150 } : Room) s m ([.ref (a 0), .int set] : List Value).toArray below meth c s.heap [] 0 0 Q (F0 m 0 ls [])
  refine lv_aload_n hx hb dX4_needActualIn_0 rfl (lv_at hl 0 rfl) ?_
  refine xcallxv (vx_runV (As := []) (rest := []) ⟨hx, hb, hml, hown, hts⟩ (c_X4_needSomeWorld l hl0 D cs sa a M N _ hI n hn (by omega)) (cwV 0 hts gX4_needActualIn_X4_needSomeWorld rfl rfl rfl (by decide +kernel) ⟨Nat.le_of_ble_eq_true rfl, Nat.le_of_ble_eq_true rfl⟩) (xpreVT hP hK hT hZ hS hS.1 (ci := 4) 0 rfl rfl) rfl rfl hl.1 rfl (lv_room (Nat.le_of_ble_eq_true rfl)) dX4_needActualIn_1 ⟨Nat.le_of_ble_eq_true rfl, Nat.le_of_ble_eq_true rfl⟩) hS (kAle hS.1) (fun E ce q9 u9 H locs hXE hP hS hce hcv hcl => ?_) (fun u9 H locs hrel hP hS => ?_)
  ·
    obtain ⟨rfl, c1, hue⟩ := hXE
    rw [hue] at hP
    subst hQ
    exact xout (mc := 2) (ms := 12) htab hlocks hce hcv hcl ⟨rfl, by rw [c1]; rfl, rfl⟩ hP hS (Nat.le_of_ble_eq_true rfl) (Nat.le_of_ble_eq_true rfl)
  obtain ⟨c1, hue⟩ := hrel
  rw [hue] at hP
  clear hue
  refine W.widen (k := 1) (n := 6) (by decide) (by decide) ?_
  refine lv_iload_n hx hb dX4_needActualIn_4 rfl (lv_at hl 1 rfl) ?_
  refine lv_aload_n hx hb dX4_needActualIn_5 rfl (lv_at hl 0 rfl) ?_
  refine va_get (D := D) (ci := 4) (v := .ref (a 1)) (C := RX4) (T := TX4) (N := 4) hx hb hts hinX4 hown hK1 hP 0 rfl rfl 0 (by decide) (hts (.fieldLink RX4 10 "KnowledgeModel" "worlds" "LKnowledgeModel$Worlds;") (List.mem_of_getElem? (i := 3) rfl)) (fun _ h9 => h9) rfl dX4_needActualIn_6 ?_
  refine va_get (D := D) (ci := 3) (v := .int (M 0 1)) (C := RX3) (T := TX3) (N := 4) hx hb hts hinX3 hown hK1 hP 1 rfl rfl 3 (by decide) (hts (.fieldLink RX4 94 "KnowledgeModel$Worlds" "actualWorld" "I") (List.mem_of_getElem? (i := 4) rfl)) (fun _ h9 => h9) rfl dX4_needActualIn_9 ?_
  refine xtop (y := nI act) (hact) ?_
  refine xcalli (va_runS (As := [.int set, .int (nI act)]) (rest := []) ⟨hx, hb, hml, hown, hts⟩ (c_X4_contains l set act (by omega)) (va_cwS 2 hts gX4_needActualIn_X4_contains rfl rfl rfl (by decide +kernel) ⟨Nat.le_of_ble_eq_true rfl, Nat.le_of_ble_eq_true rfl⟩) xpreN rfl rfl hl.1 rfl (lv_room (Nat.le_of_ble_eq_true rfl)) dX4_needActualIn_12 ⟨Nat.le_of_ble_eq_true rfl, Nat.le_of_ble_eq_true rfl⟩) hS hP (fun H locs hP hS => ?_)
  refine lv_if_ne (tgt := 28) hx hb dX4_needActualIn_15 (by decide) (fun c15 => ?_) (fun c15 => ?_)
  ·
    replace c15 := bI_n0 c15
    subst hQ
    refine W.widen (k := 2) (n := 12) (by decide) (by decide) ?_
    refine vx_ret ?_
    have hrel : (!decide (n = 0) && bt set act) = true ∧ M = M := by exact ⟨by rw [c1, c15]; rfl, rfl⟩
    exact W.vret hx hb hr (fun t ht hW => ⟨⟨M, rfl, hrel, by rw [← ht] at hP; exact hP⟩, hS.F ht⟩) hS.2.2 dX4_needActualIn_28
  ·
    replace c15 := bI_0 c15
    subst hQ
    exact vx_throwS (mc := 2) (ms := 12) hx hb hl0 hown fit53 fitN (hts (.classLink RX4 49 "java/lang/IllegalStateException") (List.mem_of_getElem? (i := 1) rfl)) (hts (.initialized "java/lang/IllegalStateException") (List.mem_of_getElem? (i := 2) rfl)) hT.2.2.2.2.2.2.2.2.2.2.2.2.2.1 (hat53 hT (fun w h => hts w (List.mem_cons_of_mem _ (List.mem_append_right _ h)))) gow53 hZ.1 hZ.2 hS (hl.1.trans hml.symm) dX4_needActualIn_18 dX4_needActualIn_21 dX4_needActualIn_22 dX4_needActualIn_24 dX4_needActualIn_27 (fun x h => (htab x h).elim) (Nat.le_of_ble_eq_true rfl) (Nat.le_of_ble_eq_true rfl) (Nat.le_of_ble_eq_true rfl) (Nat.le_of_ble_eq_true rfl) hlocks (xthr ⟨rfl, by rw [c15, Bool.and_false], rfl⟩ hP hS) hS.2.2 (Nat.le_of_ble_eq_true rfl) (Nat.le_of_ble_eq_true rfl)

