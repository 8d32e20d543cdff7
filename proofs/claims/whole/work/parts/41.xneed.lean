theorem isIn63_f {x : Int32} (h : nI 63 < x) : isIn 64 x = false := isIn_f2 (by
  have e1 : (nI 63).toInt = 63 := by decide
  have e2 : (nI 64).toInt = 64 := by decide
  rw [Int32.lt_iff_toInt_lt, e1] at h
  rw [Int32.le_iff_toInt_le, e2]
  omega)
theorem isIn63_t {x : Int32} (h0 : ¬ x < 0) (h : x ≤ nI 63) : isIn 64 x = true := isIn_t h0 (fun q => by
  have e1 : (nI 63).toInt = 63 := by decide
  have e2 : (nI 64).toInt = 64 := by decide
  rw [Int32.le_iff_toInt_le, e1] at h
  rw [Int32.le_iff_toInt_le, e2] at q
  omega)
theorem isGr15_f {x : Int32} (h : nI 15 < x) : isGr x = false := isGr_f2 (by
  have e1 : (nI 15).toInt = 15 := by decide
  have e2 : (nI 16).toInt = 16 := by decide
  rw [Int32.lt_iff_toInt_lt, e1] at h
  rw [Int32.le_iff_toInt_le, e2]
  omega)
theorem isGr15_t {x : Int32} (h0 : ¬ x < nI 1) (h : x ≤ nI 15) : isGr x = true := isGr_t h0 (fun q => by
  have e1 : (nI 15).toInt = 15 := by decide
  have e2 : (nI 16).toInt = 16 := by decide
  rw [Int32.le_iff_toInt_le, e1] at h
  rw [Int32.le_iff_toInt_le, e2] at q
  omega)
theorem lt_of_nle32 {x y : Int32} (h : ¬ x ≤ y) : y < x := by
  rw [Int32.le_iff_toInt_le] at h
  rw [Int32.lt_iff_toInt_lt]
  omega

set_option maxHeartbeats 4000000 in
set_option maxRecDepth 100000 in
theorem c_X4_needAtoms (l : Launch) (hl0 : l.stackTraces = false) (D : va_G) (cs sa : Nat → Nat) (a : Nat → Nat) (M : Nat → Nat → Int32) (N : Nat → Int64) (sz : Nat) (hI : kI a 29)  (x : Int32) : vx_Met l yX4_needAtoms wsX4_needAtoms ({ frames := 6, cells := 1, slots := 6, locals := 120 } : Room) (va_Pc [.ref (a 0), .int x] (XBT D cs sa a (xc cs a M N) sz)) (va_Qv (fun (u : Nat → Nat → Int32) => (isIn 64 x) = true ∧ u = M) (fun (u : Nat → Nat → Int32) t => va_P D vwCl (xc cs a u N) t.heap) (kA a 29 sz)) (XX D (fun u => xc cs a u N) (fun E u => E = "java/lang/IllegalArgumentException" ∧ (isIn 64 x) = false ∧ u = M) (kA a 29 sz)) 1 6 (kA a 29 sz) := by
  refine vx_ofW (cc := cX4_needAtoms) (maxL := 2) (ret := none) (by decide) rfl ?_
  intro p e s m args below meth c s₁ B hml htab hv
  obtain ⟨rfl, hsz, hP, hK, hT, hZ⟩ := hv
  have hx := B.exec
  have hb := B.bytes
  have hr := B.returns
  have hts := atoms_spec (ws := wsX4_needAtoms) B.pre
  have hown : s.vm.findClass RX4 = some m.cls := findClass_of_methodNamed B.named
  have hlocks := B.notSynchronized
  have hK1 := hK.1
  subst hsz
  have hS : va_S (kA a 29 s.heap.size) s.heap s.heap [] := va_S.rf
  have hl := lv_entry ([.ref (a 0), .int x]) (n := 2) (Nat.le_of_ble_eq_true rfl)
  rw [lg_entry_eq]
  generalize (lg_sl ([.ref (a 0), .int x]) ++ List.replicate (2 - (lg_sl ([.ref (a 0), .int x])).length) Slot.unset).toArray = ls at hl ⊢
  have hl : lv_has ls 2 [(0, .ref (a 0)), (1, .int x)] := hl
  refine W_Q (fun Q hQ => ?_)
  show W p l e ({ frames := 6, cells := 1, slots := 6, locals := 120 } : Room) s m ([.ref (a 0), .int x] : List Value).toArray below meth c s.heap [] 0 0 Q (F0 m 0 ls [])
  refine lv_iload_n hx hb dX4_needAtoms_0 rfl (lv_at hl 1 rfl) ?_
  refine lv_if_lt (tgt := 10) hx hb dX4_needAtoms_1 (by decide) (fun c1 => ?_) (fun c1 => ?_)
  ·
    subst hQ
    exact vx_throwS (mc := 1) (ms := 6) hx hb hl0 hown fit89 fitN (hts (.classLink RX4 85 "java/lang/IllegalArgumentException") (List.mem_of_getElem? (i := 1) rfl)) (hts (.initialized "java/lang/IllegalArgumentException") (List.mem_of_getElem? (i := 2) rfl)) hT.2.2.2.2.2.2.2.2.1 (hat89 hT (fun w h => hts w (List.mem_cons_of_mem _ (List.mem_append_right _ h)))) gow89 hZ.1 hZ.2 hS (hl.1.trans hml.symm) dX4_needAtoms_10 dX4_needAtoms_13 dX4_needAtoms_14 dX4_needAtoms_16 dX4_needAtoms_19 (fun x h => (htab x h).elim) (Nat.le_of_ble_eq_true rfl) (Nat.le_of_ble_eq_true rfl) (Nat.le_of_ble_eq_true rfl) (Nat.le_of_ble_eq_true rfl) hlocks (xthr ⟨rfl, by first | exact isIn_f1 c1 | exact isIn63_f (lt_of_nle32 c7) | exact isIn63_f c7, rfl⟩ hP hS) hS.2.2 (Nat.le_of_ble_eq_true rfl) (Nat.le_of_ble_eq_true rfl)
  ·
    refine lv_iload_n hx hb dX4_needAtoms_4 rfl (lv_at hl 1 rfl) ?_
    refine lv_bipush (v := (nI 63)) hx hb dX4_needAtoms_5 (by decide) ?_
    refine lv_icmp_le (tgt := 20) hx hb dX4_needAtoms_7 (by decide) (fun c7 => ?_) (fun c7 => ?_)
    ·
      subst hQ
      refine W.widen (k := 1) (n := 6) (by decide) (by decide) ?_
      refine vx_ret ?_
      have hrel : (isIn 64 x) = true ∧ M = M := by exact ⟨isIn63_t c1 c7, rfl⟩
      exact W.vret hx hb hr (fun t ht hW => ⟨⟨M, rfl, hrel, by rw [← ht] at hP; exact hP⟩, hS.F ht⟩) hS.2.2 dX4_needAtoms_20
    ·
      subst hQ
      exact vx_throwS (mc := 1) (ms := 6) hx hb hl0 hown fit89 fitN (hts (.classLink RX4 85 "java/lang/IllegalArgumentException") (List.mem_of_getElem? (i := 1) rfl)) (hts (.initialized "java/lang/IllegalArgumentException") (List.mem_of_getElem? (i := 2) rfl)) hT.2.2.2.2.2.2.2.2.1 (hat89 hT (fun w h => hts w (List.mem_cons_of_mem _ (List.mem_append_right _ h)))) gow89 hZ.1 hZ.2 hS (hl.1.trans hml.symm) dX4_needAtoms_10 dX4_needAtoms_13 dX4_needAtoms_14 dX4_needAtoms_16 dX4_needAtoms_19 (fun x h => (htab x h).elim) (Nat.le_of_ble_eq_true rfl) (Nat.le_of_ble_eq_true rfl) (Nat.le_of_ble_eq_true rfl) (Nat.le_of_ble_eq_true rfl) hlocks (xthr ⟨rfl, by first | exact isIn_f1 c1 | exact isIn63_f (lt_of_nle32 c7) | exact isIn63_f c7, rfl⟩ hP hS) hS.2.2 (Nat.le_of_ble_eq_true rfl) (Nat.le_of_ble_eq_true rfl)

