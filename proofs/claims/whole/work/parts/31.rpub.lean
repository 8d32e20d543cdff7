set_option maxHeartbeats 4000000 in
set_option maxRecDepth 100000 in
theorem c_X5_worldCount (l : Launch) (D : va_G) (cs : Nat → ClassId) (b : Nat → Nat) (M : Nat → Nat → Int32) (sz : Nat) (hI : kI b 12)  (n : Nat)  (hn : M 0 1 = nI n) : Met l yX5_worldCount wsX5_worldCount ({ frames := 2, cells := 0, slots := 0, locals := 60 } : Room) (va_Pc [.ref (b 0)] (XBs D cs (rc cs b M) sz)) (va_Qi (fun r (u : Unit) => r = nI n ∧ True) (fun (u : Unit) t => va_P D vwCl (rc cs b (wr M 0 0 (nI 0))) t.heap) (kA b 12 sz)) 0 0 (kA b 12 sz) := by
  refine Met.ofW (cc := cX5_worldCount) (maxL := 1) (ret := (some .int)) (by decide) rfl ?_
  intro p e s m args below meth c s₁ B hml hv
  obtain ⟨rfl, hsz, hP, hK⟩ := hv
  have hx := B.exec
  have hb := B.bytes
  have hr := B.returns
  have hts := atoms_spec (ws := wsX5_worldCount) B.pre
  have hown : s.vm.findClass RX5 = some m.cls := findClass_of_methodNamed B.named
  have hlocks := B.notSynchronized
  have hK1 := hK.1
  have hinX5 : ∀ w ∈ wsX50, w ∈ wsX5_worldCount := fun w h => List.mem_cons_of_mem _ (List.mem_append_right _ h)
  subst hsz
  have hS : va_S (kA b 12 s.heap.size) s.heap s.heap [] := va_S.rf
  have hl := lv_entry ([.ref (b 0)]) (n := 1) (Nat.le_of_ble_eq_true rfl)
  rw [lg_entry_eq]
  generalize (lg_sl ([.ref (b 0)]) ++ List.replicate (1 - (lg_sl ([.ref (b 0)])).length) Slot.unset).toArray = ls at hl ⊢
  have hl : lv_has ls 1 [(0, .ref (b 0))] := hl
  refine W_Q (fun Q hQ => ?_)
  show W p l e ({ frames := 2, cells := 0, slots := 0, locals := 60 } : Room) s m ([.ref (b 0)] : List Value).toArray below meth c s.heap [] 0 0 Q (F0 m 0 ls [])
  refine lv_aload_n hx hb dX5_worldCount_0 rfl (lv_at hl 0 rfl) ?_
  refine lv_iconst (v := (nI 0)) hx hb dX5_worldCount_1 (by decide) ?_
  refine xput (D := D) (ci := 5) (v := .int (nI 0)) (ty := .int) (C := RX5) (T := TX5) (N := 15) (ws' := rc cs b (wr M 0 0 (nI 0))) hx hb hts hinX5 tyX5 tyX5_ok nmX5 hown hK1 hP (rD hI) hS 0 rfl rfl 0 (by decide) (hts (.fieldLink RX5 44 "KnowledgeModelModel" "thrown" "I") (List.mem_of_getElem? (i := 1) rfl)) (fun _ h9 => h9) rfl (by decide +kernel) rfl rfl (Nat.le_of_ble_eq_true rfl) rfl dX5_worldCount_2 (fun H locs hP hS => ?_)
  obtain ⟨M_1, hM_1⟩ : ∃ z, z = wr M 0 0 (nI 0) := ⟨_, rfl⟩
  rw [← hM_1] at hP
  have hk_2 : M_1 0 1 = nI n := by rw [hM_1]; exact (wr_ne (Or.inr (by decide))).trans hn
  have hk_3 : M_1 0 0 = nI 0 := by rw [hM_1]; exact wr_same
  refine lv_aload_n hx hb dX5_worldCount_5 rfl (lv_at hl 0 rfl) ?_
  refine va_get (D := D) (ci := 5) (v := .int (M_1 0 1)) (C := RX5) (T := TX5) (N := 15) hx hb hts hinX5 hown hK1 hP 0 rfl rfl 1 (by decide) (hts (.fieldLink RX5 48 "KnowledgeModelModel" "worlds" "I") (List.mem_of_getElem? (i := 2) rfl)) (fun _ h9 => h9) rfl dX5_worldCount_6 ?_
  refine xtop (y := nI n) (hk_2) ?_
  subst hQ
  have hMfin : M_1 = wr M 0 0 (nI 0) := by simp only [wr_wr, if_true, if_false, Bool.false_eq_true, Nat.one_ne_zero, hM_1]
  rw [hMfin] at hP
  have hrel : True := by trivial
  have hfin : (nI n) = nI n := by rfl
  exact W.iret hx hb hr (fun t ht hW => ⟨⟨_, (), rfl, ⟨hfin, hrel⟩, by rw [← ht] at hP; exact hP⟩, hS.F ht⟩) hS.2.2 dX5_worldCount_9

set_option maxHeartbeats 4000000 in
set_option maxRecDepth 100000 in
theorem c_X5_formulaCount (l : Launch) (D : va_G) (cs : Nat → ClassId) (b : Nat → Nat) (M : Nat → Nat → Int32) (sz : Nat) (hI : kI b 12)  (nf : Nat)  (hfc : M 0 3 = nI nf) : Met l yX5_formulaCount wsX5_formulaCount ({ frames := 2, cells := 0, slots := 0, locals := 60 } : Room) (va_Pc [.ref (b 0)] (XBs D cs (rc cs b M) sz)) (va_Qi (fun r (u : Unit) => r = nI nf ∧ True) (fun (u : Unit) t => va_P D vwCl (rc cs b (wr M 0 0 (nI 0))) t.heap) (kA b 12 sz)) 0 0 (kA b 12 sz) := by
  refine Met.ofW (cc := cX5_formulaCount) (maxL := 1) (ret := (some .int)) (by decide) rfl ?_
  intro p e s m args below meth c s₁ B hml hv
  obtain ⟨rfl, hsz, hP, hK⟩ := hv
  have hx := B.exec
  have hb := B.bytes
  have hr := B.returns
  have hts := atoms_spec (ws := wsX5_formulaCount) B.pre
  have hown : s.vm.findClass RX5 = some m.cls := findClass_of_methodNamed B.named
  have hlocks := B.notSynchronized
  have hK1 := hK.1
  have hinX5 : ∀ w ∈ wsX50, w ∈ wsX5_formulaCount := fun w h => List.mem_cons_of_mem _ (List.mem_append_right _ h)
  subst hsz
  have hS : va_S (kA b 12 s.heap.size) s.heap s.heap [] := va_S.rf
  have hl := lv_entry ([.ref (b 0)]) (n := 1) (Nat.le_of_ble_eq_true rfl)
  rw [lg_entry_eq]
  generalize (lg_sl ([.ref (b 0)]) ++ List.replicate (1 - (lg_sl ([.ref (b 0)])).length) Slot.unset).toArray = ls at hl ⊢
  have hl : lv_has ls 1 [(0, .ref (b 0))] := hl
  refine W_Q (fun Q hQ => ?_)
  show W p l e ({ frames := 2, cells := 0, slots := 0, locals := 60 } : Room) s m ([.ref (b 0)] : List Value).toArray below meth c s.heap [] 0 0 Q (F0 m 0 ls [])
  refine lv_aload_n hx hb dX5_formulaCount_0 rfl (lv_at hl 0 rfl) ?_
  refine lv_iconst (v := (nI 0)) hx hb dX5_formulaCount_1 (by decide) ?_
  refine xput (D := D) (ci := 5) (v := .int (nI 0)) (ty := .int) (C := RX5) (T := TX5) (N := 15) (ws' := rc cs b (wr M 0 0 (nI 0))) hx hb hts hinX5 tyX5 tyX5_ok nmX5 hown hK1 hP (rD hI) hS 0 rfl rfl 0 (by decide) (hts (.fieldLink RX5 44 "KnowledgeModelModel" "thrown" "I") (List.mem_of_getElem? (i := 1) rfl)) (fun _ h9 => h9) rfl (by decide +kernel) rfl rfl (Nat.le_of_ble_eq_true rfl) rfl dX5_formulaCount_2 (fun H locs hP hS => ?_)
  obtain ⟨M_1, hM_1⟩ : ∃ z, z = wr M 0 0 (nI 0) := ⟨_, rfl⟩
  rw [← hM_1] at hP
  have hk_2 : M_1 0 3 = nI nf := by rw [hM_1]; exact (wr_ne (Or.inr (by decide))).trans hfc
  have hk_3 : M_1 0 0 = nI 0 := by rw [hM_1]; exact wr_same
  refine lv_aload_n hx hb dX5_formulaCount_5 rfl (lv_at hl 0 rfl) ?_
  refine va_get (D := D) (ci := 5) (v := .int (M_1 0 3)) (C := RX5) (T := TX5) (N := 15) hx hb hts hinX5 hown hK1 hP 0 rfl rfl 5 (by decide) (hts (.fieldLink RX5 51 "KnowledgeModelModel" "formulas" "I") (List.mem_of_getElem? (i := 2) rfl)) (fun _ h9 => h9) rfl dX5_formulaCount_6 ?_
  refine xtop (y := nI nf) (hk_2) ?_
  subst hQ
  have hMfin : M_1 = wr M 0 0 (nI 0) := by simp only [wr_wr, if_true, if_false, Bool.false_eq_true, Nat.one_ne_zero, hM_1]
  rw [hMfin] at hP
  have hrel : True := by trivial
  have hfin : (nI nf) = nI nf := by rfl
  exact W.iret hx hb hr (fun t ht hW => ⟨⟨_, (), rfl, ⟨hfin, hrel⟩, by rw [← ht] at hP; exact hP⟩, hS.F ht⟩) hS.2.2 dX5_formulaCount_9

set_option maxHeartbeats 4000000 in
set_option maxRecDepth 100000 in
theorem c_X5_atoms (l : Launch) (D : va_G) (cs : Nat → ClassId) (b : Nat → Nat) (M : Nat → Nat → Int32) (sz : Nat) (hI : kI b 12)  (n : Nat) (x : Int32) (hn : M 0 1 = nI n) (hn24 : n ≤ 24) : Met l yX5_atoms wsX5_atoms ({ frames := 2, cells := 0, slots := 0, locals := 60 } : Room) (va_Pc [.ref (b 0), .int x] (XBs D cs (rc cs b M) sz)) (va_Qi (fun r (u : Unit) => r = (if isIn n x = true then M 1 x.toNatClampNeg else nI 0) ∧ True) (fun (u : Unit) t => va_P D vwCl (rc cs b (wr M 0 0 (if isIn n x = true then nI 0 else nI 1))) t.heap) (kA b 12 sz)) 0 0 (kA b 12 sz) := by
  refine Met.ofW (cc := cX5_atoms) (maxL := 2) (ret := (some .int)) (by decide) rfl ?_
  intro p e s m args below meth c s₁ B hml hv
  obtain ⟨rfl, hsz, hP, hK⟩ := hv
  have hx := B.exec
  have hb := B.bytes
  have hr := B.returns
  have hts := atoms_spec (ws := wsX5_atoms) B.pre
  have hown : s.vm.findClass RX5 = some m.cls := findClass_of_methodNamed B.named
  have hlocks := B.notSynchronized
  have hK1 := hK.1
  have hinX5 : ∀ w ∈ wsX50, w ∈ wsX5_atoms := fun w h => List.mem_cons_of_mem _ (List.mem_append_right _ h)
  subst hsz
  have hS : va_S (kA b 12 s.heap.size) s.heap s.heap [] := va_S.rf
  have hl := lv_entry ([.ref (b 0), .int x]) (n := 2) (Nat.le_of_ble_eq_true rfl)
  rw [lg_entry_eq]
  generalize (lg_sl ([.ref (b 0), .int x]) ++ List.replicate (2 - (lg_sl ([.ref (b 0), .int x])).length) Slot.unset).toArray = ls at hl ⊢
  have hl : lv_has ls 2 [(0, .ref (b 0)), (1, .int x)] := hl
  refine W_Q (fun Q hQ => ?_)
  show W p l e ({ frames := 2, cells := 0, slots := 0, locals := 60 } : Room) s m ([.ref (b 0), .int x] : List Value).toArray below meth c s.heap [] 0 0 Q (F0 m 0 ls [])
  refine lv_aload_n hx hb dX5_atoms_0 rfl (lv_at hl 0 rfl) ?_
  refine lv_iconst (v := (nI 0)) hx hb dX5_atoms_1 (by decide) ?_
  refine xput (D := D) (ci := 5) (v := .int (nI 0)) (ty := .int) (C := RX5) (T := TX5) (N := 15) (ws' := rc cs b (wr M 0 0 (nI 0))) hx hb hts hinX5 tyX5 tyX5_ok nmX5 hown hK1 hP (rD hI) hS 0 rfl rfl 0 (by decide) (hts (.fieldLink RX5 44 "KnowledgeModelModel" "thrown" "I") (List.mem_of_getElem? (i := 1) rfl)) (fun _ h9 => h9) rfl (by decide +kernel) rfl rfl (Nat.le_of_ble_eq_true rfl) rfl dX5_atoms_2 (fun H locs hP hS => ?_)
  obtain ⟨M_1, hM_1⟩ : ∃ z, z = wr M 0 0 (nI 0) := ⟨_, rfl⟩
  rw [← hM_1] at hP
  have hk_2 : M_1 0 1 = nI n := by rw [hM_1]; exact (wr_ne (Or.inr (by decide))).trans hn
  have hk_3 : M_1 0 0 = nI 0 := by rw [hM_1]; exact wr_same
  refine lv_aload_n hx hb dX5_atoms_5 rfl (lv_at hl 0 rfl) ?_
  refine lv_iload_n hx hb dX5_atoms_6 rfl (lv_at hl 1 rfl) ?_
  refine xcalli (va_runV (As := [.int x]) (rest := []) ⟨hx, hb, hml, hown, hts⟩ (c_X5_isWorld l D cs b M_1 n x hk_2) (cwV 1 hts gX5_atoms_X5_isWorld rfl rfl rfl (by decide +kernel) ⟨Nat.le_of_ble_eq_true rfl, Nat.le_of_ble_eq_true rfl⟩) (xpreV hP hK (ci := 5) 0 rfl rfl) rfl rfl hl.1 rfl (lv_room (Nat.le_of_ble_eq_true rfl)) dX5_atoms_7 ⟨Nat.le_of_ble_eq_true rfl, Nat.le_of_ble_eq_true rfl⟩) hS hP (fun H locs hP hS => ?_)
  refine lv_if_eq (tgt := 22) hx hb dX5_atoms_10 (by decide) (fun c10 => ?_) (fun c10 => ?_)
  ·
    replace c10 := bI_0 c10
    refine lv_aload_n hx hb dX5_atoms_22 rfl (lv_at hl 0 rfl) ?_
    refine lv_iconst (v := (nI 1)) hx hb dX5_atoms_23 (by decide) ?_
    refine xcallwi (va_runV (As := [.int (nI 1)]) (rest := []) ⟨hx, hb, hml, hown, hts⟩ (c_X5_no l D cs b M_1 _ hI (nI 1)) (cwV 1 hts gX5_atoms_X5_no rfl rfl rfl (by decide +kernel) ⟨Nat.le_of_ble_eq_true rfl, Nat.le_of_ble_eq_true rfl⟩) (xpreVs hP hK (ci := 5) 0 rfl rfl) rfl rfl hl.1 rfl (lv_room (Nat.le_of_ble_eq_true rfl)) dX5_atoms_24 ⟨Nat.le_of_ble_eq_true rfl, Nat.le_of_ble_eq_true rfl⟩) hS (kAle hS.1) (fun u_4 H locs hu_4 hP _ _ hS => ?_)
    have hP : va_P D vwCl (rc cs b (wr M_1 0 0 (nI 1))) H := hP
    obtain ⟨M_5, hM_5⟩ : ∃ z, z = wr M_1 0 0 (nI 1) := ⟨_, rfl⟩
    rw [← hM_5] at hP
    have hk_6 : M_5 0 1 = nI n := by rw [hM_5]; exact (wr_ne (Or.inr (by decide))).trans hk_2
    subst hQ
    have hMfin : M_5 = wr M 0 0 (if isIn n x = true then nI 0 else nI 1) := by simp only [wr_wr, if_true, if_false, Bool.false_eq_true, Nat.one_ne_zero, hM_1, c10, hM_5]
    rw [hMfin] at hP
    have hrel : True := by trivial
    have hfin : (nI 0) = (if isIn n x = true then M 1 x.toNatClampNeg else nI 0) := by simp only [wr_wr, if_true, if_false, Bool.false_eq_true, Nat.one_ne_zero, hM_1, c10, hM_5]
    exact W.iret hx hb hr (fun t ht hW => ⟨⟨_, (), rfl, ⟨hfin, hrel⟩, by rw [← ht] at hP; exact hP⟩, hS.F ht⟩) hS.2.2 dX5_atoms_27
  ·
    replace c10 := bI_n0 c10
    obtain ⟨hlt_x, heq_x⟩ := isIn_eq (by omega) c10
    refine lv_aload_n hx hb dX5_atoms_13 rfl (lv_at hl 0 rfl) ?_
    refine va_get (D := D) (ci := 5) (v := .ref (b 1)) (C := RX5) (T := TX5) (N := 15) hx hb hts hinX5 hown hK1 hP 0 rfl rfl 3 (by decide) (hts (.fieldLink RX5 9 "KnowledgeModelModel" "atoms" "[I") (List.mem_of_getElem? (i := 2) rfl)) (fun _ h9 => h9) rfl dX5_atoms_14 ?_
    refine lv_iload_n hx hb dX5_atoms_17 rfl (lv_at hl 1 rfl) ?_
    refine xtop (y := nI x.toNatClampNeg) (by exact heq_x) ?_
    refine xiald (j := x.toNatClampNeg) (q0 := 1) (t0 := 0) hx hb hK1 hP rfl rfl (by omega) (by decide) dX5_atoms_18 ?_
    refine xtop (y := (M 1 x.toNatClampNeg)) (by simp only [hM_1]; rfl) ?_
    refine lv_goto (tgt := 27) hx hb dX5_atoms_19 (by decide) ?_
    subst hQ
    have hMfin : M_1 = wr M 0 0 (if isIn n x = true then nI 0 else nI 1) := by simp only [wr_wr, if_true, if_false, Bool.false_eq_true, Nat.one_ne_zero, hM_1, c10]
    rw [hMfin] at hP
    have hrel : True := by trivial
    have hfin : (M 1 x.toNatClampNeg) = (if isIn n x = true then M 1 x.toNatClampNeg else nI 0) := by simp only [wr_wr, if_true, if_false, Bool.false_eq_true, Nat.one_ne_zero, hM_1, c10]
    exact W.iret hx hb hr (fun t ht hW => ⟨⟨_, (), rfl, ⟨hfin, hrel⟩, by rw [← ht] at hP; exact hP⟩, hS.F ht⟩) hS.2.2 dX5_atoms_27

set_option maxHeartbeats 4000000 in
set_option maxRecDepth 100000 in
theorem c_X5_depth (l : Launch) (D : va_G) (cs : Nat → ClassId) (b : Nat → Nat) (M : Nat → Nat → Int32) (sz : Nat) (hI : kI b 12)  (nf : Nat) (x : Int32) (hfc : M 0 3 = nI nf) (hf40 : nf ≤ 40) : Met l yX5_depth wsX5_depth ({ frames := 2, cells := 0, slots := 0, locals := 60 } : Room) (va_Pc [.ref (b 0), .int x] (XBs D cs (rc cs b M) sz)) (va_Qi (fun r (u : Unit) => r = (if isIn nf x = true then M 6 x.toNatClampNeg else nI 0) ∧ True) (fun (u : Unit) t => va_P D vwCl (rc cs b (wr M 0 0 (if isIn nf x = true then nI 0 else nI 1))) t.heap) (kA b 12 sz)) 0 0 (kA b 12 sz) := by
  refine Met.ofW (cc := cX5_depth) (maxL := 2) (ret := (some .int)) (by decide) rfl ?_
  intro p e s m args below meth c s₁ B hml hv
  obtain ⟨rfl, hsz, hP, hK⟩ := hv
  have hx := B.exec
  have hb := B.bytes
  have hr := B.returns
  have hts := atoms_spec (ws := wsX5_depth) B.pre
  have hown : s.vm.findClass RX5 = some m.cls := findClass_of_methodNamed B.named
  have hlocks := B.notSynchronized
  have hK1 := hK.1
  have hinX5 : ∀ w ∈ wsX50, w ∈ wsX5_depth := fun w h => List.mem_cons_of_mem _ (List.mem_append_right _ h)
  subst hsz
  have hS : va_S (kA b 12 s.heap.size) s.heap s.heap [] := va_S.rf
  have hl := lv_entry ([.ref (b 0), .int x]) (n := 2) (Nat.le_of_ble_eq_true rfl)
  rw [lg_entry_eq]
  generalize (lg_sl ([.ref (b 0), .int x]) ++ List.replicate (2 - (lg_sl ([.ref (b 0), .int x])).length) Slot.unset).toArray = ls at hl ⊢
  have hl : lv_has ls 2 [(0, .ref (b 0)), (1, .int x)] := hl
  refine W_Q (fun Q hQ => ?_)
  show W p l e ({ frames := 2, cells := 0, slots := 0, locals := 60 } : Room) s m ([.ref (b 0), .int x] : List Value).toArray below meth c s.heap [] 0 0 Q (F0 m 0 ls [])
  refine lv_aload_n hx hb dX5_depth_0 rfl (lv_at hl 0 rfl) ?_
  refine lv_iconst (v := (nI 0)) hx hb dX5_depth_1 (by decide) ?_
  refine xput (D := D) (ci := 5) (v := .int (nI 0)) (ty := .int) (C := RX5) (T := TX5) (N := 15) (ws' := rc cs b (wr M 0 0 (nI 0))) hx hb hts hinX5 tyX5 tyX5_ok nmX5 hown hK1 hP (rD hI) hS 0 rfl rfl 0 (by decide) (hts (.fieldLink RX5 44 "KnowledgeModelModel" "thrown" "I") (List.mem_of_getElem? (i := 1) rfl)) (fun _ h9 => h9) rfl (by decide +kernel) rfl rfl (Nat.le_of_ble_eq_true rfl) rfl dX5_depth_2 (fun H locs hP hS => ?_)
  obtain ⟨M_1, hM_1⟩ : ∃ z, z = wr M 0 0 (nI 0) := ⟨_, rfl⟩
  rw [← hM_1] at hP
  have hk_2 : M_1 0 3 = nI nf := by rw [hM_1]; exact (wr_ne (Or.inr (by decide))).trans hfc
  have hk_3 : M_1 0 0 = nI 0 := by rw [hM_1]; exact wr_same
  refine lv_aload_n hx hb dX5_depth_5 rfl (lv_at hl 0 rfl) ?_
  refine lv_iload_n hx hb dX5_depth_6 rfl (lv_at hl 1 rfl) ?_
  refine xcalli (va_runV (As := [.int x]) (rest := []) ⟨hx, hb, hml, hown, hts⟩ (c_X5_isFormula l D cs b M_1 nf x hk_2) (cwV 1 hts gX5_depth_X5_isFormula rfl rfl rfl (by decide +kernel) ⟨Nat.le_of_ble_eq_true rfl, Nat.le_of_ble_eq_true rfl⟩) (xpreV hP hK (ci := 5) 0 rfl rfl) rfl rfl hl.1 rfl (lv_room (Nat.le_of_ble_eq_true rfl)) dX5_depth_7 ⟨Nat.le_of_ble_eq_true rfl, Nat.le_of_ble_eq_true rfl⟩) hS hP (fun H locs hP hS => ?_)
  refine lv_if_eq (tgt := 22) hx hb dX5_depth_10 (by decide) (fun c10 => ?_) (fun c10 => ?_)
  ·
    replace c10 := bI_0 c10
    refine lv_aload_n hx hb dX5_depth_22 rfl (lv_at hl 0 rfl) ?_
    refine lv_iconst (v := (nI 1)) hx hb dX5_depth_23 (by decide) ?_
    refine xcallwi (va_runV (As := [.int (nI 1)]) (rest := []) ⟨hx, hb, hml, hown, hts⟩ (c_X5_no l D cs b M_1 _ hI (nI 1)) (cwV 1 hts gX5_depth_X5_no rfl rfl rfl (by decide +kernel) ⟨Nat.le_of_ble_eq_true rfl, Nat.le_of_ble_eq_true rfl⟩) (xpreVs hP hK (ci := 5) 0 rfl rfl) rfl rfl hl.1 rfl (lv_room (Nat.le_of_ble_eq_true rfl)) dX5_depth_24 ⟨Nat.le_of_ble_eq_true rfl, Nat.le_of_ble_eq_true rfl⟩) hS (kAle hS.1) (fun u_4 H locs hu_4 hP _ _ hS => ?_)
    have hP : va_P D vwCl (rc cs b (wr M_1 0 0 (nI 1))) H := hP
    obtain ⟨M_5, hM_5⟩ : ∃ z, z = wr M_1 0 0 (nI 1) := ⟨_, rfl⟩
    rw [← hM_5] at hP
    have hk_8 : M_5 0 3 = nI nf := by rw [hM_5]; exact (wr_ne (Or.inr (by decide))).trans hk_2
    subst hQ
    have hMfin : M_5 = wr M 0 0 (if isIn nf x = true then nI 0 else nI 1) := by simp only [wr_wr, if_true, if_false, Bool.false_eq_true, Nat.one_ne_zero, hM_1, c10, hM_5]
    rw [hMfin] at hP
    have hrel : True := by trivial
    have hfin : (nI 0) = (if isIn nf x = true then M 6 x.toNatClampNeg else nI 0) := by simp only [wr_wr, if_true, if_false, Bool.false_eq_true, Nat.one_ne_zero, hM_1, c10, hM_5]
    exact W.iret hx hb hr (fun t ht hW => ⟨⟨_, (), rfl, ⟨hfin, hrel⟩, by rw [← ht] at hP; exact hP⟩, hS.F ht⟩) hS.2.2 dX5_depth_27
  ·
    replace c10 := bI_n0 c10
    obtain ⟨hlt_x, heq_x⟩ := isIn_eq (by omega) c10
    refine lv_aload_n hx hb dX5_depth_13 rfl (lv_at hl 0 rfl) ?_
    refine va_get (D := D) (ci := 5) (v := .ref (b 6)) (C := RX5) (T := TX5) (N := 15) hx hb hts hinX5 hown hK1 hP 0 rfl rfl 9 (by decide) (hts (.fieldLink RX5 25 "KnowledgeModelModel" "depths" "[I") (List.mem_of_getElem? (i := 2) rfl)) (fun _ h9 => h9) rfl dX5_depth_14 ?_
    refine lv_iload_n hx hb dX5_depth_17 rfl (lv_at hl 1 rfl) ?_
    refine xtop (y := nI x.toNatClampNeg) (by exact heq_x) ?_
    refine xiald (j := x.toNatClampNeg) (q0 := 6) (t0 := 0) hx hb hK1 hP rfl rfl (by omega) (by decide) dX5_depth_18 ?_
    refine xtop (y := (M 6 x.toNatClampNeg)) (by simp only [hM_1]; rfl) ?_
    refine lv_goto (tgt := 27) hx hb dX5_depth_19 (by decide) ?_
    subst hQ
    have hMfin : M_1 = wr M 0 0 (if isIn nf x = true then nI 0 else nI 1) := by simp only [wr_wr, if_true, if_false, Bool.false_eq_true, Nat.one_ne_zero, hM_1, c10]
    rw [hMfin] at hP
    have hrel : True := by trivial
    have hfin : (M 6 x.toNatClampNeg) = (if isIn nf x = true then M 6 x.toNatClampNeg else nI 0) := by simp only [wr_wr, if_true, if_false, Bool.false_eq_true, Nat.one_ne_zero, hM_1, c10]
    exact W.iret hx hb hr (fun t ht hW => ⟨⟨_, (), rfl, ⟨hfin, hrel⟩, by rw [← ht] at hP; exact hP⟩, hS.F ht⟩) hS.2.2 dX5_depth_27

set_option maxHeartbeats 4000000 in
set_option maxRecDepth 100000 in
theorem c_X5_nesting (l : Launch) (D : va_G) (cs : Nat → ClassId) (b : Nat → Nat) (M : Nat → Nat → Int32) (sz : Nat) (hI : kI b 12)  (nf : Nat) (x : Int32) (hfc : M 0 3 = nI nf) (hf40 : nf ≤ 40) : Met l yX5_nesting wsX5_nesting ({ frames := 2, cells := 0, slots := 0, locals := 60 } : Room) (va_Pc [.ref (b 0), .int x] (XBs D cs (rc cs b M) sz)) (va_Qi (fun r (u : Unit) => r = (if isIn nf x = true then M 7 x.toNatClampNeg else nI 0) ∧ True) (fun (u : Unit) t => va_P D vwCl (rc cs b (wr M 0 0 (if isIn nf x = true then nI 0 else nI 1))) t.heap) (kA b 12 sz)) 0 0 (kA b 12 sz) := by
  refine Met.ofW (cc := cX5_nesting) (maxL := 2) (ret := (some .int)) (by decide) rfl ?_
  intro p e s m args below meth c s₁ B hml hv
  obtain ⟨rfl, hsz, hP, hK⟩ := hv
  have hx := B.exec
  have hb := B.bytes
  have hr := B.returns
  have hts := atoms_spec (ws := wsX5_nesting) B.pre
  have hown : s.vm.findClass RX5 = some m.cls := findClass_of_methodNamed B.named
  have hlocks := B.notSynchronized
  have hK1 := hK.1
  have hinX5 : ∀ w ∈ wsX50, w ∈ wsX5_nesting := fun w h => List.mem_cons_of_mem _ (List.mem_append_right _ h)
  subst hsz
  have hS : va_S (kA b 12 s.heap.size) s.heap s.heap [] := va_S.rf
  have hl := lv_entry ([.ref (b 0), .int x]) (n := 2) (Nat.le_of_ble_eq_true rfl)
  rw [lg_entry_eq]
  generalize (lg_sl ([.ref (b 0), .int x]) ++ List.replicate (2 - (lg_sl ([.ref (b 0), .int x])).length) Slot.unset).toArray = ls at hl ⊢
  have hl : lv_has ls 2 [(0, .ref (b 0)), (1, .int x)] := hl
  refine W_Q (fun Q hQ => ?_)
  show W p l e ({ frames := 2, cells := 0, slots := 0, locals := 60 } : Room) s m ([.ref (b 0), .int x] : List Value).toArray below meth c s.heap [] 0 0 Q (F0 m 0 ls [])
  refine lv_aload_n hx hb dX5_nesting_0 rfl (lv_at hl 0 rfl) ?_
  refine lv_iconst (v := (nI 0)) hx hb dX5_nesting_1 (by decide) ?_
  refine xput (D := D) (ci := 5) (v := .int (nI 0)) (ty := .int) (C := RX5) (T := TX5) (N := 15) (ws' := rc cs b (wr M 0 0 (nI 0))) hx hb hts hinX5 tyX5 tyX5_ok nmX5 hown hK1 hP (rD hI) hS 0 rfl rfl 0 (by decide) (hts (.fieldLink RX5 44 "KnowledgeModelModel" "thrown" "I") (List.mem_of_getElem? (i := 1) rfl)) (fun _ h9 => h9) rfl (by decide +kernel) rfl rfl (Nat.le_of_ble_eq_true rfl) rfl dX5_nesting_2 (fun H locs hP hS => ?_)
  obtain ⟨M_1, hM_1⟩ : ∃ z, z = wr M 0 0 (nI 0) := ⟨_, rfl⟩
  rw [← hM_1] at hP
  have hk_2 : M_1 0 3 = nI nf := by rw [hM_1]; exact (wr_ne (Or.inr (by decide))).trans hfc
  have hk_3 : M_1 0 0 = nI 0 := by rw [hM_1]; exact wr_same
  refine lv_aload_n hx hb dX5_nesting_5 rfl (lv_at hl 0 rfl) ?_
  refine lv_iload_n hx hb dX5_nesting_6 rfl (lv_at hl 1 rfl) ?_
  refine xcalli (va_runV (As := [.int x]) (rest := []) ⟨hx, hb, hml, hown, hts⟩ (c_X5_isFormula l D cs b M_1 nf x hk_2) (cwV 1 hts gX5_nesting_X5_isFormula rfl rfl rfl (by decide +kernel) ⟨Nat.le_of_ble_eq_true rfl, Nat.le_of_ble_eq_true rfl⟩) (xpreV hP hK (ci := 5) 0 rfl rfl) rfl rfl hl.1 rfl (lv_room (Nat.le_of_ble_eq_true rfl)) dX5_nesting_7 ⟨Nat.le_of_ble_eq_true rfl, Nat.le_of_ble_eq_true rfl⟩) hS hP (fun H locs hP hS => ?_)
  refine lv_if_eq (tgt := 22) hx hb dX5_nesting_10 (by decide) (fun c10 => ?_) (fun c10 => ?_)
  ·
    replace c10 := bI_0 c10
    refine lv_aload_n hx hb dX5_nesting_22 rfl (lv_at hl 0 rfl) ?_
    refine lv_iconst (v := (nI 1)) hx hb dX5_nesting_23 (by decide) ?_
    refine xcallwi (va_runV (As := [.int (nI 1)]) (rest := []) ⟨hx, hb, hml, hown, hts⟩ (c_X5_no l D cs b M_1 _ hI (nI 1)) (cwV 1 hts gX5_nesting_X5_no rfl rfl rfl (by decide +kernel) ⟨Nat.le_of_ble_eq_true rfl, Nat.le_of_ble_eq_true rfl⟩) (xpreVs hP hK (ci := 5) 0 rfl rfl) rfl rfl hl.1 rfl (lv_room (Nat.le_of_ble_eq_true rfl)) dX5_nesting_24 ⟨Nat.le_of_ble_eq_true rfl, Nat.le_of_ble_eq_true rfl⟩) hS (kAle hS.1) (fun u_4 H locs hu_4 hP _ _ hS => ?_)
    have hP : va_P D vwCl (rc cs b (wr M_1 0 0 (nI 1))) H := hP
    obtain ⟨M_5, hM_5⟩ : ∃ z, z = wr M_1 0 0 (nI 1) := ⟨_, rfl⟩
    rw [← hM_5] at hP
    have hk_8 : M_5 0 3 = nI nf := by rw [hM_5]; exact (wr_ne (Or.inr (by decide))).trans hk_2
    subst hQ
    have hMfin : M_5 = wr M 0 0 (if isIn nf x = true then nI 0 else nI 1) := by simp only [wr_wr, if_true, if_false, Bool.false_eq_true, Nat.one_ne_zero, hM_1, c10, hM_5]
    rw [hMfin] at hP
    have hrel : True := by trivial
    have hfin : (nI 0) = (if isIn nf x = true then M 7 x.toNatClampNeg else nI 0) := by simp only [wr_wr, if_true, if_false, Bool.false_eq_true, Nat.one_ne_zero, hM_1, c10, hM_5]
    exact W.iret hx hb hr (fun t ht hW => ⟨⟨_, (), rfl, ⟨hfin, hrel⟩, by rw [← ht] at hP; exact hP⟩, hS.F ht⟩) hS.2.2 dX5_nesting_27
  ·
    replace c10 := bI_n0 c10
    obtain ⟨hlt_x, heq_x⟩ := isIn_eq (by omega) c10
    refine lv_aload_n hx hb dX5_nesting_13 rfl (lv_at hl 0 rfl) ?_
    refine va_get (D := D) (ci := 5) (v := .ref (b 7)) (C := RX5) (T := TX5) (N := 15) hx hb hts hinX5 hown hK1 hP 0 rfl rfl 10 (by decide) (hts (.fieldLink RX5 28 "KnowledgeModelModel" "nestings" "[I") (List.mem_of_getElem? (i := 2) rfl)) (fun _ h9 => h9) rfl dX5_nesting_14 ?_
    refine lv_iload_n hx hb dX5_nesting_17 rfl (lv_at hl 1 rfl) ?_
    refine xtop (y := nI x.toNatClampNeg) (by exact heq_x) ?_
    refine xiald (j := x.toNatClampNeg) (q0 := 7) (t0 := 0) hx hb hK1 hP rfl rfl (by omega) (by decide) dX5_nesting_18 ?_
    refine xtop (y := (M 7 x.toNatClampNeg)) (by simp only [hM_1]; rfl) ?_
    refine lv_goto (tgt := 27) hx hb dX5_nesting_19 (by decide) ?_
    subst hQ
    have hMfin : M_1 = wr M 0 0 (if isIn nf x = true then nI 0 else nI 1) := by simp only [wr_wr, if_true, if_false, Bool.false_eq_true, Nat.one_ne_zero, hM_1, c10]
    rw [hMfin] at hP
    have hrel : True := by trivial
    have hfin : (M 7 x.toNatClampNeg) = (if isIn nf x = true then M 7 x.toNatClampNeg else nI 0) := by simp only [wr_wr, if_true, if_false, Bool.false_eq_true, Nat.one_ne_zero, hM_1, c10]
    exact W.iret hx hb hr (fun t ht hW => ⟨⟨_, (), rfl, ⟨hfin, hrel⟩, by rw [← ht] at hP; exact hP⟩, hS.F ht⟩) hS.2.2 dX5_nesting_27

set_option maxHeartbeats 4000000 in
set_option maxRecDepth 100000 in
theorem c_X5_actual (l : Launch) (D : va_G) (cs : Nat → ClassId) (b : Nat → Nat) (M : Nat → Nat → Int32) (sz : Nat) (hI : kI b 12)  (n : Nat) (act : Nat)  (hn : M 0 1 = nI n) (hn24 : n ≤ 24) (hact : M 0 2 = nI act) : Met l yX5_actual wsX5_actual ({ frames := 2, cells := 0, slots := 0, locals := 60 } : Room) (va_Pc [.ref (b 0)] (XBs D cs (rc cs b M) sz)) (va_Qi (fun r (u : Unit) => r = (if n = 0 then nI 0 else nI act) ∧ True) (fun (u : Unit) t => va_P D vwCl (rc cs b (wr M 0 0 (if n = 0 then nI 1 else nI 0))) t.heap) (kA b 12 sz)) 0 0 (kA b 12 sz) := by
  refine Met.ofW (cc := cX5_actual) (maxL := 1) (ret := (some .int)) (by decide) rfl ?_
  intro p e s m args below meth c s₁ B hml hv
  obtain ⟨rfl, hsz, hP, hK⟩ := hv
  have hx := B.exec
  have hb := B.bytes
  have hr := B.returns
  have hts := atoms_spec (ws := wsX5_actual) B.pre
  have hown : s.vm.findClass RX5 = some m.cls := findClass_of_methodNamed B.named
  have hlocks := B.notSynchronized
  have hK1 := hK.1
  have hinX5 : ∀ w ∈ wsX50, w ∈ wsX5_actual := fun w h => List.mem_cons_of_mem _ (List.mem_append_right _ h)
  subst hsz
  have hS : va_S (kA b 12 s.heap.size) s.heap s.heap [] := va_S.rf
  have hl := lv_entry ([.ref (b 0)]) (n := 1) (Nat.le_of_ble_eq_true rfl)
  rw [lg_entry_eq]
  generalize (lg_sl ([.ref (b 0)]) ++ List.replicate (1 - (lg_sl ([.ref (b 0)])).length) Slot.unset).toArray = ls at hl ⊢
  have hl : lv_has ls 1 [(0, .ref (b 0))] := hl
  refine W_Q (fun Q hQ => ?_)
  show W p l e ({ frames := 2, cells := 0, slots := 0, locals := 60 } : Room) s m ([.ref (b 0)] : List Value).toArray below meth c s.heap [] 0 0 Q (F0 m 0 ls [])
  refine lv_aload_n hx hb dX5_actual_0 rfl (lv_at hl 0 rfl) ?_
  refine lv_iconst (v := (nI 0)) hx hb dX5_actual_1 (by decide) ?_
  refine xput (D := D) (ci := 5) (v := .int (nI 0)) (ty := .int) (C := RX5) (T := TX5) (N := 15) (ws' := rc cs b (wr M 0 0 (nI 0))) hx hb hts hinX5 tyX5 tyX5_ok nmX5 hown hK1 hP (rD hI) hS 0 rfl rfl 0 (by decide) (hts (.fieldLink RX5 44 "KnowledgeModelModel" "thrown" "I") (List.mem_of_getElem? (i := 1) rfl)) (fun _ h9 => h9) rfl (by decide +kernel) rfl rfl (Nat.le_of_ble_eq_true rfl) rfl dX5_actual_2 (fun H locs hP hS => ?_)
  obtain ⟨M_1, hM_1⟩ : ∃ z, z = wr M 0 0 (nI 0) := ⟨_, rfl⟩
  rw [← hM_1] at hP
  have hk_2 : M_1 0 1 = nI n := by rw [hM_1]; exact (wr_ne (Or.inr (by decide))).trans hn
  have hk_3 : M_1 0 2 = nI act := by rw [hM_1]; exact (wr_ne (Or.inr (by decide))).trans hact
  have hk_4 : M_1 0 0 = nI 0 := by rw [hM_1]; exact wr_same
  refine lv_aload_n hx hb dX5_actual_5 rfl (lv_at hl 0 rfl) ?_
  refine va_get (D := D) (ci := 5) (v := .int (M_1 0 1)) (C := RX5) (T := TX5) (N := 15) hx hb hts hinX5 hown hK1 hP 0 rfl rfl 1 (by decide) (hts (.fieldLink RX5 48 "KnowledgeModelModel" "worlds" "I") (List.mem_of_getElem? (i := 2) rfl)) (fun _ h9 => h9) rfl dX5_actual_6 ?_
  refine xtop (y := nI n) (hk_2) ?_
  refine lv_if_ne (tgt := 20) hx hb dX5_actual_9 (by decide) (fun c9 => ?_) (fun c9 => ?_)
  ·
    replace c9 : ¬ n = 0 := k0_net c9 (by omega)
    refine lv_aload_n hx hb dX5_actual_20 rfl (lv_at hl 0 rfl) ?_
    refine va_get (D := D) (ci := 5) (v := .int (M_1 0 2)) (C := RX5) (T := TX5) (N := 15) hx hb hts hinX5 hown hK1 hP 0 rfl rfl 2 (by decide) (hts (.fieldLink RX5 62 "KnowledgeModelModel" "actual" "I") (List.mem_of_getElem? (i := 3) rfl)) (fun _ h9 => h9) rfl dX5_actual_21 ?_
    refine xtop (y := nI act) (hk_3) ?_
    subst hQ
    have hMfin : M_1 = wr M 0 0 (if n = 0 then nI 1 else nI 0) := by simp only [wr_wr, if_true, if_false, Bool.false_eq_true, Nat.one_ne_zero, hM_1, c9]
    rw [hMfin] at hP
    have hrel : True := by trivial
    have hfin : (nI act) = (if n = 0 then nI 0 else nI act) := by simp only [wr_wr, if_true, if_false, Bool.false_eq_true, Nat.one_ne_zero, hM_1, c9]
    exact W.iret hx hb hr (fun t ht hW => ⟨⟨_, (), rfl, ⟨hfin, hrel⟩, by rw [← ht] at hP; exact hP⟩, hS.F ht⟩) hS.2.2 dX5_actual_24
  ·
    replace c9 : n = 0 := k0_nef c9 (by omega)
    refine lv_aload_n hx hb dX5_actual_12 rfl (lv_at hl 0 rfl) ?_
    refine lv_iconst (v := (nI 1)) hx hb dX5_actual_13 (by decide) ?_
    refine xcallwi (va_runV (As := [.int (nI 1)]) (rest := []) ⟨hx, hb, hml, hown, hts⟩ (c_X5_no l D cs b M_1 _ hI (nI 1)) (cwV 1 hts gX5_actual_X5_no rfl rfl rfl (by decide +kernel) ⟨Nat.le_of_ble_eq_true rfl, Nat.le_of_ble_eq_true rfl⟩) (xpreVs hP hK (ci := 5) 0 rfl rfl) rfl rfl hl.1 rfl (lv_room (Nat.le_of_ble_eq_true rfl)) dX5_actual_14 ⟨Nat.le_of_ble_eq_true rfl, Nat.le_of_ble_eq_true rfl⟩) hS (kAle hS.1) (fun u_5 H locs hu_5 hP _ _ hS => ?_)
    have hP : va_P D vwCl (rc cs b (wr M_1 0 0 (nI 1))) H := hP
    obtain ⟨M_6, hM_6⟩ : ∃ z, z = wr M_1 0 0 (nI 1) := ⟨_, rfl⟩
    rw [← hM_6] at hP
    have hk_7 : M_6 0 1 = nI n := by rw [hM_6]; exact (wr_ne (Or.inr (by decide))).trans hk_2
    have hk_8 : M_6 0 2 = nI act := by rw [hM_6]; exact (wr_ne (Or.inr (by decide))).trans hk_3
    refine lv_goto (tgt := 24) hx hb dX5_actual_17 (by decide) ?_
    subst hQ
    have hMfin : M_6 = wr M 0 0 (if n = 0 then nI 1 else nI 0) := by simp only [wr_wr, if_true, if_false, Bool.false_eq_true, Nat.one_ne_zero, hM_1, c9, hM_6]
    rw [hMfin] at hP
    have hrel : True := by trivial
    have hfin : (nI 0) = (if n = 0 then nI 0 else nI act) := by simp only [wr_wr, if_true, if_false, Bool.false_eq_true, Nat.one_ne_zero, hM_1, c9, hM_6]
    exact W.iret hx hb hr (fun t ht hW => ⟨⟨_, (), rfl, ⟨hfin, hrel⟩, by rw [← ht] at hP; exact hP⟩, hS.F ht⟩) hS.2.2 dX5_actual_24

set_option maxHeartbeats 4000000 in
set_option maxRecDepth 100000 in
theorem c_X5_setActual (l : Launch) (D : va_G) (cs : Nat → ClassId) (b : Nat → Nat) (M : Nat → Nat → Int32) (sz : Nat) (hI : kI b 12)  (n : Nat) (act : Nat) (x : Int32) (hn : M 0 1 = nI n) (hn24 : n ≤ 24) (hact : M 0 2 = nI act) : Met l yX5_setActual wsX5_setActual ({ frames := 2, cells := 0, slots := 0, locals := 60 } : Room) (va_Pc [.ref (b 0), .int x] (XBs D cs (rc cs b M) sz)) (va_Qi (fun r (u : Unit) => r = (if isIn n x = true then nI act else nI 0) ∧ True) (fun (u : Unit) t => va_P D vwCl (rc cs b ((if isIn n x = true then wr (wr M 0 0 (nI 0)) 0 2 x else wr M 0 0 (nI 1)))) t.heap) (kA b 12 sz)) 0 0 (kA b 12 sz) := by
  refine Met.ofW (cc := cX5_setActual) (maxL := 3) (ret := (some .int)) (by decide) rfl ?_
  intro p e s m args below meth c s₁ B hml hv
  obtain ⟨rfl, hsz, hP, hK⟩ := hv
  have hx := B.exec
  have hb := B.bytes
  have hr := B.returns
  have hts := atoms_spec (ws := wsX5_setActual) B.pre
  have hown : s.vm.findClass RX5 = some m.cls := findClass_of_methodNamed B.named
  have hlocks := B.notSynchronized
  have hK1 := hK.1
  have hinX5 : ∀ w ∈ wsX50, w ∈ wsX5_setActual := fun w h => List.mem_cons_of_mem _ (List.mem_append_right _ h)
  subst hsz
  have hS : va_S (kA b 12 s.heap.size) s.heap s.heap [] := va_S.rf
  have hl := lv_entry ([.ref (b 0), .int x]) (n := 3) (Nat.le_of_ble_eq_true rfl)
  rw [lg_entry_eq]
  generalize (lg_sl ([.ref (b 0), .int x]) ++ List.replicate (3 - (lg_sl ([.ref (b 0), .int x])).length) Slot.unset).toArray = ls at hl ⊢
  have hl : lv_has ls 3 [(0, .ref (b 0)), (1, .int x)] := hl
  refine W_Q (fun Q hQ => ?_)
  show W p l e ({ frames := 2, cells := 0, slots := 0, locals := 60 } : Room) s m ([.ref (b 0), .int x] : List Value).toArray below meth c s.heap [] 0 0 Q (F0 m 0 ls [])
  refine lv_aload_n hx hb dX5_setActual_0 rfl (lv_at hl 0 rfl) ?_
  refine lv_iconst (v := (nI 0)) hx hb dX5_setActual_1 (by decide) ?_
  refine xput (D := D) (ci := 5) (v := .int (nI 0)) (ty := .int) (C := RX5) (T := TX5) (N := 15) (ws' := rc cs b (wr M 0 0 (nI 0))) hx hb hts hinX5 tyX5 tyX5_ok nmX5 hown hK1 hP (rD hI) hS 0 rfl rfl 0 (by decide) (hts (.fieldLink RX5 44 "KnowledgeModelModel" "thrown" "I") (List.mem_of_getElem? (i := 1) rfl)) (fun _ h9 => h9) rfl (by decide +kernel) rfl rfl (Nat.le_of_ble_eq_true rfl) rfl dX5_setActual_2 (fun H locs hP hS => ?_)
  obtain ⟨M_1, hM_1⟩ : ∃ z, z = wr M 0 0 (nI 0) := ⟨_, rfl⟩
  rw [← hM_1] at hP
  have hk_2 : M_1 0 1 = nI n := by rw [hM_1]; exact (wr_ne (Or.inr (by decide))).trans hn
  have hk_3 : M_1 0 2 = nI act := by rw [hM_1]; exact (wr_ne (Or.inr (by decide))).trans hact
  have hk_4 : M_1 0 0 = nI 0 := by rw [hM_1]; exact wr_same
  refine lv_aload_n hx hb dX5_setActual_5 rfl (lv_at hl 0 rfl) ?_
  refine lv_iload_n hx hb dX5_setActual_6 rfl (lv_at hl 1 rfl) ?_
  refine xcalli (va_runV (As := [.int x]) (rest := []) ⟨hx, hb, hml, hown, hts⟩ (c_X5_isWorld l D cs b M_1 n x hk_2) (cwV 1 hts gX5_setActual_X5_isWorld rfl rfl rfl (by decide +kernel) ⟨Nat.le_of_ble_eq_true rfl, Nat.le_of_ble_eq_true rfl⟩) (xpreV hP hK (ci := 5) 0 rfl rfl) rfl rfl hl.1 rfl (lv_room (Nat.le_of_ble_eq_true rfl)) dX5_setActual_7 ⟨Nat.le_of_ble_eq_true rfl, Nat.le_of_ble_eq_true rfl⟩) hS hP (fun H locs hP hS => ?_)
  refine lv_if_ne (tgt := 19) hx hb dX5_setActual_10 (by decide) (fun c10 => ?_) (fun c10 => ?_)
  ·
    replace c10 := bI_n0 c10
    refine lv_aload_n hx hb dX5_setActual_19 rfl (lv_at hl 0 rfl) ?_
    refine va_get (D := D) (ci := 5) (v := .int (M_1 0 2)) (C := RX5) (T := TX5) (N := 15) hx hb hts hinX5 hown hK1 hP 0 rfl rfl 2 (by decide) (hts (.fieldLink RX5 62 "KnowledgeModelModel" "actual" "I") (List.mem_of_getElem? (i := 2) rfl)) (fun _ h9 => h9) rfl dX5_setActual_20 ?_
    refine xtop (y := nI act) (hk_3) ?_
    refine lv_istore_n (lv' := [(2, .int (nI act)), (0, .ref (b 0)), (1, .int x)]) hx hb dX5_setActual_23 rfl hl (by decide) rfl (fun ls hl => ?_)
    refine lv_aload_n hx hb dX5_setActual_24 rfl (lv_at hl 1 rfl) ?_
    refine lv_iload_n hx hb dX5_setActual_25 rfl (lv_at hl 2 rfl) ?_
    refine xput (D := D) (ci := 5) (v := .int x) (ty := .int) (C := RX5) (T := TX5) (N := 15) (ws' := rc cs b (wr M_1 0 2 x)) hx hb hts hinX5 tyX5 tyX5_ok nmX5 hown hK1 hP (rD hI) hS 0 rfl rfl 2 (by decide) (hts (.fieldLink RX5 62 "KnowledgeModelModel" "actual" "I") (List.mem_of_getElem? (i := 2) rfl)) (fun _ h9 => h9) rfl (by decide +kernel) rfl rfl (Nat.le_of_ble_eq_true rfl) rfl dX5_setActual_26 (fun H locs hP hS => ?_)
    obtain ⟨M_5, hM_5⟩ : ∃ z, z = wr M_1 0 2 x := ⟨_, rfl⟩
    rw [← hM_5] at hP
    have hk_6 : M_5 0 1 = nI n := by rw [hM_5]; exact (wr_ne (Or.inr (by decide))).trans hk_2
    have hk_7 : M_5 0 0 = nI 0 := by rw [hM_5]; exact (wr_ne (Or.inr (by decide))).trans hk_4
    refine lv_iload_n hx hb dX5_setActual_29 rfl (lv_at hl 0 rfl) ?_
    subst hQ
    have hMfin : M_5 = (if isIn n x = true then wr (wr M 0 0 (nI 0)) 0 2 x else wr M 0 0 (nI 1)) := by simp only [wr_wr, if_true, if_false, Bool.false_eq_true, Nat.one_ne_zero, hM_1, c10, hM_5]
    rw [hMfin] at hP
    have hrel : True := by trivial
    have hfin : (nI act) = (if isIn n x = true then nI act else nI 0) := by simp only [wr_wr, if_true, if_false, Bool.false_eq_true, Nat.one_ne_zero, hM_1, c10, hM_5]
    exact W.iret hx hb hr (fun t ht hW => ⟨⟨_, (), rfl, ⟨hfin, hrel⟩, by rw [← ht] at hP; exact hP⟩, hS.F ht⟩) hS.2.2 dX5_setActual_30
  ·
    replace c10 := bI_0 c10
    refine lv_aload_n hx hb dX5_setActual_13 rfl (lv_at hl 0 rfl) ?_
    refine lv_iconst (v := (nI 1)) hx hb dX5_setActual_14 (by decide) ?_
    refine xcallwi (va_runV (As := [.int (nI 1)]) (rest := []) ⟨hx, hb, hml, hown, hts⟩ (c_X5_no l D cs b M_1 _ hI (nI 1)) (cwV 1 hts gX5_setActual_X5_no rfl rfl rfl (by decide +kernel) ⟨Nat.le_of_ble_eq_true rfl, Nat.le_of_ble_eq_true rfl⟩) (xpreVs hP hK (ci := 5) 0 rfl rfl) rfl rfl hl.1 rfl (lv_room (Nat.le_of_ble_eq_true rfl)) dX5_setActual_15 ⟨Nat.le_of_ble_eq_true rfl, Nat.le_of_ble_eq_true rfl⟩) hS (kAle hS.1) (fun u_8 H locs hu_8 hP _ _ hS => ?_)
    have hP : va_P D vwCl (rc cs b (wr M_1 0 0 (nI 1))) H := hP
    obtain ⟨M_9, hM_9⟩ : ∃ z, z = wr M_1 0 0 (nI 1) := ⟨_, rfl⟩
    rw [← hM_9] at hP
    have hk_10 : M_9 0 1 = nI n := by rw [hM_9]; exact (wr_ne (Or.inr (by decide))).trans hk_2
    have hk_11 : M_9 0 2 = nI act := by rw [hM_9]; exact (wr_ne (Or.inr (by decide))).trans hk_3
    subst hQ
    have hMfin : M_9 = (if isIn n x = true then wr (wr M 0 0 (nI 0)) 0 2 x else wr M 0 0 (nI 1)) := by simp only [wr_wr, if_true, if_false, Bool.false_eq_true, Nat.one_ne_zero, hM_1, c10, hM_9]
    rw [hMfin] at hP
    have hrel : True := by trivial
    have hfin : (nI 0) = (if isIn n x = true then nI act else nI 0) := by simp only [wr_wr, if_true, if_false, Bool.false_eq_true, Nat.one_ne_zero, hM_1, c10, hM_9]
    exact W.iret hx hb hr (fun t ht hW => ⟨⟨_, (), rfl, ⟨hfin, hrel⟩, by rw [← ht] at hP; exact hP⟩, hS.F ht⟩) hS.2.2 dX5_setActual_18

set_option maxHeartbeats 4000000 in
set_option maxRecDepth 100000 in
theorem c_X5_setAtoms (l : Launch) (D : va_G) (cs : Nat → ClassId) (b : Nat → Nat) (M : Nat → Nat → Int32) (sz : Nat) (hI : kI b 12)  (n : Nat) (x : Int32) (y : Int32) (hn : M 0 1 = nI n) (hn24 : n ≤ 24) : Met l yX5_setAtoms wsX5_setAtoms ({ frames := 2, cells := 0, slots := 0, locals := 60 } : Room) (va_Pc [.ref (b 0), .int x, .int y] (XBs D cs (rc cs b M) sz)) (va_Qi (fun r (u : Unit) => r = (if isIn n x = true then (if isIn 64 y = true then M 1 x.toNatClampNeg else nI 0) else nI 0) ∧ True) (fun (u : Unit) t => va_P D vwCl (rc cs b ((if isIn n x = true then (if isIn 64 y = true then wr (wr M 0 0 (nI 0)) 1 x.toNatClampNeg y else wr M 0 0 (nI 2)) else wr M 0 0 (nI 1)))) t.heap) (kA b 12 sz)) 0 0 (kA b 12 sz) := by
  refine Met.ofW (cc := cX5_setAtoms) (maxL := 4) (ret := (some .int)) (by decide) rfl ?_
  intro p e s m args below meth c s₁ B hml hv
  obtain ⟨rfl, hsz, hP, hK⟩ := hv
  have hx := B.exec
  have hb := B.bytes
  have hr := B.returns
  have hts := atoms_spec (ws := wsX5_setAtoms) B.pre
  have hown : s.vm.findClass RX5 = some m.cls := findClass_of_methodNamed B.named
  have hlocks := B.notSynchronized
  have hK1 := hK.1
  have hinX5 : ∀ w ∈ wsX50, w ∈ wsX5_setAtoms := fun w h => List.mem_cons_of_mem _ (List.mem_append_right _ h)
  subst hsz
  have hS : va_S (kA b 12 s.heap.size) s.heap s.heap [] := va_S.rf
  have hl := lv_entry ([.ref (b 0), .int x, .int y]) (n := 4) (Nat.le_of_ble_eq_true rfl)
  rw [lg_entry_eq]
  generalize (lg_sl ([.ref (b 0), .int x, .int y]) ++ List.replicate (4 - (lg_sl ([.ref (b 0), .int x, .int y])).length) Slot.unset).toArray = ls at hl ⊢
  have hl : lv_has ls 4 [(0, .ref (b 0)), (1, .int x), (2, .int y)] := hl
  refine W_Q (fun Q hQ => ?_)
  show W p l e ({ frames := 2, cells := 0, slots := 0, locals := 60 } : Room) s m ([.ref (b 0), .int x, .int y] : List Value).toArray below meth c s.heap [] 0 0 Q (F0 m 0 ls [])
  refine lv_aload_n hx hb dX5_setAtoms_0 rfl (lv_at hl 0 rfl) ?_
  refine lv_iconst (v := (nI 0)) hx hb dX5_setAtoms_1 (by decide) ?_
  refine xput (D := D) (ci := 5) (v := .int (nI 0)) (ty := .int) (C := RX5) (T := TX5) (N := 15) (ws' := rc cs b (wr M 0 0 (nI 0))) hx hb hts hinX5 tyX5 tyX5_ok nmX5 hown hK1 hP (rD hI) hS 0 rfl rfl 0 (by decide) (hts (.fieldLink RX5 44 "KnowledgeModelModel" "thrown" "I") (List.mem_of_getElem? (i := 1) rfl)) (fun _ h9 => h9) rfl (by decide +kernel) rfl rfl (Nat.le_of_ble_eq_true rfl) rfl dX5_setAtoms_2 (fun H locs hP hS => ?_)
  obtain ⟨M_1, hM_1⟩ : ∃ z, z = wr M 0 0 (nI 0) := ⟨_, rfl⟩
  rw [← hM_1] at hP
  have hk_2 : M_1 0 1 = nI n := by rw [hM_1]; exact (wr_ne (Or.inr (by decide))).trans hn
  have hk_3 : M_1 0 0 = nI 0 := by rw [hM_1]; exact wr_same
  refine lv_aload_n hx hb dX5_setAtoms_5 rfl (lv_at hl 0 rfl) ?_
  refine lv_iload_n hx hb dX5_setAtoms_6 rfl (lv_at hl 1 rfl) ?_
  refine xcalli (va_runV (As := [.int x]) (rest := []) ⟨hx, hb, hml, hown, hts⟩ (c_X5_isWorld l D cs b M_1 n x hk_2) (cwV 1 hts gX5_setAtoms_X5_isWorld rfl rfl rfl (by decide +kernel) ⟨Nat.le_of_ble_eq_true rfl, Nat.le_of_ble_eq_true rfl⟩) (xpreV hP hK (ci := 5) 0 rfl rfl) rfl rfl hl.1 rfl (lv_room (Nat.le_of_ble_eq_true rfl)) dX5_setAtoms_7 ⟨Nat.le_of_ble_eq_true rfl, Nat.le_of_ble_eq_true rfl⟩) hS hP (fun H locs hP hS => ?_)
  refine lv_if_ne (tgt := 19) hx hb dX5_setAtoms_10 (by decide) (fun c10 => ?_) (fun c10 => ?_)
  ·
    replace c10 := bI_n0 c10
    refine lv_iload_n hx hb dX5_setAtoms_19 rfl (lv_at hl 2 rfl) ?_
    refine xcalli (va_runS (As := [.int y]) (rest := []) ⟨hx, hb, hml, hown, hts⟩ (c_X5_areAtoms l y) (va_cwS 1 hts gX5_setAtoms_X5_areAtoms rfl rfl rfl (by decide +kernel) ⟨Nat.le_of_ble_eq_true rfl, Nat.le_of_ble_eq_true rfl⟩) xpreN rfl rfl hl.1 rfl (lv_room (Nat.le_of_ble_eq_true rfl)) dX5_setAtoms_20 ⟨Nat.le_of_ble_eq_true rfl, Nat.le_of_ble_eq_true rfl⟩) hS hP (fun H locs hP hS => ?_)
    refine lv_if_ne (tgt := 32) hx hb dX5_setAtoms_23 (by decide) (fun c23 => ?_) (fun c23 => ?_)
    ·
      replace c23 := bI_n0 c23
      obtain ⟨hlt_x, heq_x⟩ := isIn_eq (by omega) c10
      refine lv_aload_n hx hb dX5_setAtoms_32 rfl (lv_at hl 0 rfl) ?_
      refine va_get (D := D) (ci := 5) (v := .ref (b 1)) (C := RX5) (T := TX5) (N := 15) hx hb hts hinX5 hown hK1 hP 0 rfl rfl 3 (by decide) (hts (.fieldLink RX5 9 "KnowledgeModelModel" "atoms" "[I") (List.mem_of_getElem? (i := 2) rfl)) (fun _ h9 => h9) rfl dX5_setAtoms_33 ?_
      refine lv_iload_n hx hb dX5_setAtoms_36 rfl (lv_at hl 1 rfl) ?_
      refine xtop (y := nI x.toNatClampNeg) (by exact heq_x) ?_
      refine xiald (j := x.toNatClampNeg) (q0 := 1) (t0 := 0) hx hb hK1 hP rfl rfl (by omega) (by decide) dX5_setAtoms_37 ?_
      refine xtop (y := (M 1 x.toNatClampNeg)) (by simp only [hM_1]; rfl) ?_
      refine lv_topi (fun x_4 hx_4 => ?_)
      refine lv_istore_n (lv' := [(3, .int x_4), (0, .ref (b 0)), (1, .int x), (2, .int y)]) hx hb dX5_setAtoms_38 rfl hl (by decide) rfl (fun ls hl => ?_)
      refine lv_aload_n hx hb dX5_setAtoms_39 rfl (lv_at hl 1 rfl) ?_
      refine va_get (D := D) (ci := 5) (v := .ref (b 1)) (C := RX5) (T := TX5) (N := 15) hx hb hts hinX5 hown hK1 hP 0 rfl rfl 3 (by decide) (hts (.fieldLink RX5 9 "KnowledgeModelModel" "atoms" "[I") (List.mem_of_getElem? (i := 2) rfl)) (fun _ h9 => h9) rfl dX5_setAtoms_40 ?_
      refine lv_iload_n hx hb dX5_setAtoms_43 rfl (lv_at hl 2 rfl) ?_
      refine lv_iload_n hx hb dX5_setAtoms_44 rfl (lv_at hl 3 rfl) ?_
      refine xtop2 (y := nI x.toNatClampNeg) (by exact heq_x) ?_
      refine xiast (j := x.toNatClampNeg) (q0 := 1) (t0 := 0) (ws' := rc cs b (wr M_1 1 x.toNatClampNeg y)) hx hb hK1 hP (rD hI) hS rfl rfl (by omega) (by decide) rs_1 dX5_setAtoms_45 (fun H locs hP hS => ?_)
      obtain ⟨M_5, hM_5⟩ : ∃ z, z = wr M_1 1 x.toNatClampNeg y := ⟨_, rfl⟩
      rw [← hM_5] at hP
      have hk_6 : M_5 0 1 = nI n := by rw [hM_5]; exact (wr_ne (Or.inl (by omega))).trans hk_2
      have hk_7 : M_5 0 0 = nI 0 := by rw [hM_5]; exact (wr_ne (Or.inl (by omega))).trans hk_3
      refine lv_iload_n hx hb dX5_setAtoms_46 rfl (lv_at hl 0 rfl) ?_
      subst hQ
      have hMfin : M_5 = (if isIn n x = true then (if isIn 64 y = true then wr (wr M 0 0 (nI 0)) 1 x.toNatClampNeg y else wr M 0 0 (nI 2)) else wr M 0 0 (nI 1)) := by simp only [wr_wr, if_true, if_false, Bool.false_eq_true, Nat.one_ne_zero, hM_1, c10, c23, hx_4, hM_5]
      rw [hMfin] at hP
      have hrel : True := by trivial
      have hfin : x_4 = (if isIn n x = true then (if isIn 64 y = true then M 1 x.toNatClampNeg else nI 0) else nI 0) := by simp only [wr_wr, if_true, if_false, Bool.false_eq_true, Nat.one_ne_zero, hM_1, c10, c23, hx_4, hM_5]
      exact W.iret hx hb hr (fun t ht hW => ⟨⟨_, (), rfl, ⟨hfin, hrel⟩, by rw [← ht] at hP; exact hP⟩, hS.F ht⟩) hS.2.2 dX5_setAtoms_47
    ·
      replace c23 := bI_0 c23
      refine lv_aload_n hx hb dX5_setAtoms_26 rfl (lv_at hl 0 rfl) ?_
      refine lv_iconst (v := (nI 2)) hx hb dX5_setAtoms_27 (by decide) ?_
      refine xcallwi (va_runV (As := [.int (nI 2)]) (rest := []) ⟨hx, hb, hml, hown, hts⟩ (c_X5_no l D cs b M_1 _ hI (nI 2)) (cwV 1 hts gX5_setAtoms_X5_no rfl rfl rfl (by decide +kernel) ⟨Nat.le_of_ble_eq_true rfl, Nat.le_of_ble_eq_true rfl⟩) (xpreVs hP hK (ci := 5) 0 rfl rfl) rfl rfl hl.1 rfl (lv_room (Nat.le_of_ble_eq_true rfl)) dX5_setAtoms_28 ⟨Nat.le_of_ble_eq_true rfl, Nat.le_of_ble_eq_true rfl⟩) hS (kAle hS.1) (fun u_8 H locs hu_8 hP _ _ hS => ?_)
      have hP : va_P D vwCl (rc cs b (wr M_1 0 0 (nI 2))) H := hP
      obtain ⟨M_9, hM_9⟩ : ∃ z, z = wr M_1 0 0 (nI 2) := ⟨_, rfl⟩
      rw [← hM_9] at hP
      have hk_10 : M_9 0 1 = nI n := by rw [hM_9]; exact (wr_ne (Or.inr (by decide))).trans hk_2
      subst hQ
      have hMfin : M_9 = (if isIn n x = true then (if isIn 64 y = true then wr (wr M 0 0 (nI 0)) 1 x.toNatClampNeg y else wr M 0 0 (nI 2)) else wr M 0 0 (nI 1)) := by simp only [wr_wr, if_true, if_false, Bool.false_eq_true, Nat.one_ne_zero, hM_1, c10, c23, hM_9]
      rw [hMfin] at hP
      have hrel : True := by trivial
      have hfin : (nI 0) = (if isIn n x = true then (if isIn 64 y = true then M 1 x.toNatClampNeg else nI 0) else nI 0) := by simp only [wr_wr, if_true, if_false, Bool.false_eq_true, Nat.one_ne_zero, hM_1, c10, c23, hM_9]
      exact W.iret hx hb hr (fun t ht hW => ⟨⟨_, (), rfl, ⟨hfin, hrel⟩, by rw [← ht] at hP; exact hP⟩, hS.F ht⟩) hS.2.2 dX5_setAtoms_31
  ·
    replace c10 := bI_0 c10
    refine lv_aload_n hx hb dX5_setAtoms_13 rfl (lv_at hl 0 rfl) ?_
    refine lv_iconst (v := (nI 1)) hx hb dX5_setAtoms_14 (by decide) ?_
    refine xcallwi (va_runV (As := [.int (nI 1)]) (rest := []) ⟨hx, hb, hml, hown, hts⟩ (c_X5_no l D cs b M_1 _ hI (nI 1)) (cwV 1 hts gX5_setAtoms_X5_no rfl rfl rfl (by decide +kernel) ⟨Nat.le_of_ble_eq_true rfl, Nat.le_of_ble_eq_true rfl⟩) (xpreVs hP hK (ci := 5) 0 rfl rfl) rfl rfl hl.1 rfl (lv_room (Nat.le_of_ble_eq_true rfl)) dX5_setAtoms_15 ⟨Nat.le_of_ble_eq_true rfl, Nat.le_of_ble_eq_true rfl⟩) hS (kAle hS.1) (fun u_13 H locs hu_13 hP _ _ hS => ?_)
    have hP : va_P D vwCl (rc cs b (wr M_1 0 0 (nI 1))) H := hP
    obtain ⟨M_14, hM_14⟩ : ∃ z, z = wr M_1 0 0 (nI 1) := ⟨_, rfl⟩
    rw [← hM_14] at hP
    have hk_15 : M_14 0 1 = nI n := by rw [hM_14]; exact (wr_ne (Or.inr (by decide))).trans hk_2
    subst hQ
    have hMfin : M_14 = (if isIn n x = true then (if isIn 64 y = true then wr (wr M 0 0 (nI 0)) 1 x.toNatClampNeg y else wr M 0 0 (nI 2)) else wr M 0 0 (nI 1)) := by simp only [wr_wr, if_true, if_false, Bool.false_eq_true, Nat.one_ne_zero, hM_1, c10, hM_14]
    rw [hMfin] at hP
    have hrel : True := by trivial
    have hfin : (nI 0) = (if isIn n x = true then (if isIn 64 y = true then M 1 x.toNatClampNeg else nI 0) else nI 0) := by simp only [wr_wr, if_true, if_false, Bool.false_eq_true, Nat.one_ne_zero, hM_1, c10, hM_14]
    exact W.iret hx hb hr (fun t ht hW => ⟨⟨_, (), rfl, ⟨hfin, hrel⟩, by rw [← ht] at hP; exact hP⟩, hS.F ht⟩) hS.2.2 dX5_setAtoms_18

set_option maxHeartbeats 4000000 in
set_option maxRecDepth 100000 in
theorem c_X5_seen (l : Launch) (D : va_G) (cs : Nat → ClassId) (b : Nat → Nat) (M : Nat → Nat → Int32) (sz : Nat) (hI : kI b 12)  (n : Nat) (x : Int32) (y : Int32) (hn : M 0 1 = nI n) (hn24 : n ≤ 24) : Met l yX5_seen wsX5_seen ({ frames := 2, cells := 0, slots := 0, locals := 60 } : Room) (va_Pc [.ref (b 0), .int x, .int y] (XBs D cs (rc cs b M) sz)) (va_Qi (fun r (u : Unit) => r = (if isIn 4 x = true then (if isIn n y = true then M 2 (24 * x.toNatClampNeg + y.toNatClampNeg) else nI 0) else nI 0) ∧ True) (fun (u : Unit) t => va_P D vwCl (rc cs b (wr M 0 0 (if isIn 4 x = true then (if isIn n y = true then nI 0 else nI 1) else nI 1))) t.heap) (kA b 12 sz)) 0 0 (kA b 12 sz) := by
  refine Met.ofW (cc := cX5_seen) (maxL := 3) (ret := (some .int)) (by decide) rfl ?_
  intro p e s m args below meth c s₁ B hml hv
  obtain ⟨rfl, hsz, hP, hK⟩ := hv
  have hx := B.exec
  have hb := B.bytes
  have hr := B.returns
  have hts := atoms_spec (ws := wsX5_seen) B.pre
  have hown : s.vm.findClass RX5 = some m.cls := findClass_of_methodNamed B.named
  have hlocks := B.notSynchronized
  have hK1 := hK.1
  have hinX5 : ∀ w ∈ wsX50, w ∈ wsX5_seen := fun w h => List.mem_cons_of_mem _ (List.mem_append_right _ h)
  subst hsz
  have hS : va_S (kA b 12 s.heap.size) s.heap s.heap [] := va_S.rf
  have hl := lv_entry ([.ref (b 0), .int x, .int y]) (n := 3) (Nat.le_of_ble_eq_true rfl)
  rw [lg_entry_eq]
  generalize (lg_sl ([.ref (b 0), .int x, .int y]) ++ List.replicate (3 - (lg_sl ([.ref (b 0), .int x, .int y])).length) Slot.unset).toArray = ls at hl ⊢
  have hl : lv_has ls 3 [(0, .ref (b 0)), (1, .int x), (2, .int y)] := hl
  refine W_Q (fun Q hQ => ?_)
  show W p l e ({ frames := 2, cells := 0, slots := 0, locals := 60 } : Room) s m ([.ref (b 0), .int x, .int y] : List Value).toArray below meth c s.heap [] 0 0 Q (F0 m 0 ls [])
  refine lv_aload_n hx hb dX5_seen_0 rfl (lv_at hl 0 rfl) ?_
  refine lv_iconst (v := (nI 0)) hx hb dX5_seen_1 (by decide) ?_
  refine xput (D := D) (ci := 5) (v := .int (nI 0)) (ty := .int) (C := RX5) (T := TX5) (N := 15) (ws' := rc cs b (wr M 0 0 (nI 0))) hx hb hts hinX5 tyX5 tyX5_ok nmX5 hown hK1 hP (rD hI) hS 0 rfl rfl 0 (by decide) (hts (.fieldLink RX5 44 "KnowledgeModelModel" "thrown" "I") (List.mem_of_getElem? (i := 1) rfl)) (fun _ h9 => h9) rfl (by decide +kernel) rfl rfl (Nat.le_of_ble_eq_true rfl) rfl dX5_seen_2 (fun H locs hP hS => ?_)
  obtain ⟨M_1, hM_1⟩ : ∃ z, z = wr M 0 0 (nI 0) := ⟨_, rfl⟩
  rw [← hM_1] at hP
  have hk_2 : M_1 0 1 = nI n := by rw [hM_1]; exact (wr_ne (Or.inr (by decide))).trans hn
  have hk_3 : M_1 0 0 = nI 0 := by rw [hM_1]; exact wr_same
  refine lv_iload_n hx hb dX5_seen_5 rfl (lv_at hl 1 rfl) ?_
  refine xcalli (va_runS (As := [.int x]) (rest := []) ⟨hx, hb, hml, hown, hts⟩ (c_X5_isAgent l x) (va_cwS 1 hts gX5_seen_X5_isAgent rfl rfl rfl (by decide +kernel) ⟨Nat.le_of_ble_eq_true rfl, Nat.le_of_ble_eq_true rfl⟩) xpreN rfl rfl hl.1 rfl (lv_room (Nat.le_of_ble_eq_true rfl)) dX5_seen_6 ⟨Nat.le_of_ble_eq_true rfl, Nat.le_of_ble_eq_true rfl⟩) hS hP (fun H locs hP hS => ?_)
  refine lv_if_eq (tgt := 34) hx hb dX5_seen_9 (by decide) (fun c9 => ?_) (fun c9 => ?_)
  ·
    replace c9 := bI_0 c9
    refine lv_aload_n hx hb dX5_seen_34 rfl (lv_at hl 0 rfl) ?_
    refine lv_iconst (v := (nI 1)) hx hb dX5_seen_35 (by decide) ?_
    refine xcallwi (va_runV (As := [.int (nI 1)]) (rest := []) ⟨hx, hb, hml, hown, hts⟩ (c_X5_no l D cs b M_1 _ hI (nI 1)) (cwV 1 hts gX5_seen_X5_no rfl rfl rfl (by decide +kernel) ⟨Nat.le_of_ble_eq_true rfl, Nat.le_of_ble_eq_true rfl⟩) (xpreVs hP hK (ci := 5) 0 rfl rfl) rfl rfl hl.1 rfl (lv_room (Nat.le_of_ble_eq_true rfl)) dX5_seen_36 ⟨Nat.le_of_ble_eq_true rfl, Nat.le_of_ble_eq_true rfl⟩) hS (kAle hS.1) (fun u_4 H locs hu_4 hP _ _ hS => ?_)
    have hP : va_P D vwCl (rc cs b (wr M_1 0 0 (nI 1))) H := hP
    obtain ⟨M_5, hM_5⟩ : ∃ z, z = wr M_1 0 0 (nI 1) := ⟨_, rfl⟩
    rw [← hM_5] at hP
    have hk_6 : M_5 0 1 = nI n := by rw [hM_5]; exact (wr_ne (Or.inr (by decide))).trans hk_2
    subst hQ
    have hMfin : M_5 = wr M 0 0 (if isIn 4 x = true then (if isIn n y = true then nI 0 else nI 1) else nI 1) := by simp only [wr_wr, if_true, if_false, Bool.false_eq_true, Nat.one_ne_zero, hM_1, c9, hM_5]
    rw [hMfin] at hP
    have hrel : True := by trivial
    have hfin : (nI 0) = (if isIn 4 x = true then (if isIn n y = true then M 2 (24 * x.toNatClampNeg + y.toNatClampNeg) else nI 0) else nI 0) := by simp only [wr_wr, if_true, if_false, Bool.false_eq_true, Nat.one_ne_zero, hM_1, c9, hM_5]
    exact W.iret hx hb hr (fun t ht hW => ⟨⟨_, (), rfl, ⟨hfin, hrel⟩, by rw [← ht] at hP; exact hP⟩, hS.F ht⟩) hS.2.2 dX5_seen_39
  ·
    replace c9 := bI_n0 c9
    refine lv_aload_n hx hb dX5_seen_12 rfl (lv_at hl 0 rfl) ?_
    refine lv_iload_n hx hb dX5_seen_13 rfl (lv_at hl 2 rfl) ?_
    refine xcalli (va_runV (As := [.int y]) (rest := []) ⟨hx, hb, hml, hown, hts⟩ (c_X5_isWorld l D cs b M_1 n y hk_2) (cwV 1 hts gX5_seen_X5_isWorld rfl rfl rfl (by decide +kernel) ⟨Nat.le_of_ble_eq_true rfl, Nat.le_of_ble_eq_true rfl⟩) (xpreV hP hK (ci := 5) 0 rfl rfl) rfl rfl hl.1 rfl (lv_room (Nat.le_of_ble_eq_true rfl)) dX5_seen_14 ⟨Nat.le_of_ble_eq_true rfl, Nat.le_of_ble_eq_true rfl⟩) hS hP (fun H locs hP hS => ?_)
    refine lv_if_eq (tgt := 34) hx hb dX5_seen_17 (by decide) (fun c17 => ?_) (fun c17 => ?_)
    ·
      replace c17 := bI_0 c17
      refine lv_aload_n hx hb dX5_seen_34 rfl (lv_at hl 0 rfl) ?_
      refine lv_iconst (v := (nI 1)) hx hb dX5_seen_35 (by decide) ?_
      refine xcallwi (va_runV (As := [.int (nI 1)]) (rest := []) ⟨hx, hb, hml, hown, hts⟩ (c_X5_no l D cs b M_1 _ hI (nI 1)) (cwV 1 hts gX5_seen_X5_no rfl rfl rfl (by decide +kernel) ⟨Nat.le_of_ble_eq_true rfl, Nat.le_of_ble_eq_true rfl⟩) (xpreVs hP hK (ci := 5) 0 rfl rfl) rfl rfl hl.1 rfl (lv_room (Nat.le_of_ble_eq_true rfl)) dX5_seen_36 ⟨Nat.le_of_ble_eq_true rfl, Nat.le_of_ble_eq_true rfl⟩) hS (kAle hS.1) (fun u_9 H locs hu_9 hP _ _ hS => ?_)
      have hP : va_P D vwCl (rc cs b (wr M_1 0 0 (nI 1))) H := hP
      obtain ⟨M_10, hM_10⟩ : ∃ z, z = wr M_1 0 0 (nI 1) := ⟨_, rfl⟩
      rw [← hM_10] at hP
      have hk_11 : M_10 0 1 = nI n := by rw [hM_10]; exact (wr_ne (Or.inr (by decide))).trans hk_2
      subst hQ
      have hMfin : M_10 = wr M 0 0 (if isIn 4 x = true then (if isIn n y = true then nI 0 else nI 1) else nI 1) := by simp only [wr_wr, if_true, if_false, Bool.false_eq_true, Nat.one_ne_zero, hM_1, c9, c17, hM_10]
      rw [hMfin] at hP
      have hrel : True := by trivial
      have hfin : (nI 0) = (if isIn 4 x = true then (if isIn n y = true then M 2 (24 * x.toNatClampNeg + y.toNatClampNeg) else nI 0) else nI 0) := by simp only [wr_wr, if_true, if_false, Bool.false_eq_true, Nat.one_ne_zero, hM_1, c9, c17, hM_10]
      exact W.iret hx hb hr (fun t ht hW => ⟨⟨_, (), rfl, ⟨hfin, hrel⟩, by rw [← ht] at hP; exact hP⟩, hS.F ht⟩) hS.2.2 dX5_seen_39
    ·
      replace c17 := bI_n0 c17
      obtain ⟨hlt_x, heq_x⟩ := isIn_eq (by omega) c9
      have hl : lv_has ls 3 [(0, .ref (b 0)), (1, .int (nI x.toNatClampNeg)), (2, .int y)] := (lcons (lcons (lcons (lzero hl) hl 2 rfl rfl) hl 1 rfl (congrArg Value.int heq_x)) hl 0 rfl rfl)
      obtain ⟨hlt_y, heq_y⟩ := isIn_eq (by omega) c17
      have hl : lv_has ls 3 [(0, .ref (b 0)), (1, .int (nI x.toNatClampNeg)), (2, .int (nI y.toNatClampNeg))] := (lcons (lcons (lcons (lzero hl) hl 2 rfl (congrArg Value.int heq_y)) hl 1 rfl rfl) hl 0 rfl rfl)
      refine lv_aload_n hx hb dX5_seen_20 rfl (lv_at hl 0 rfl) ?_
      refine va_get (D := D) (ci := 5) (v := .ref (b 2)) (C := RX5) (T := TX5) (N := 15) hx hb hts hinX5 hown hK1 hP 0 rfl rfl 4 (by decide) (hts (.fieldLink RX5 13 "KnowledgeModelModel" "seen" "[I") (List.mem_of_getElem? (i := 2) rfl)) (fun _ h9 => h9) rfl dX5_seen_21 ?_
      refine lv_bipush (v := (nI 24)) hx hb dX5_seen_24 (by decide) ?_
      refine lv_iload_n hx hb dX5_seen_26 rfl (lv_at hl 1 rfl) ?_
      refine ximul hx hb dX5_seen_27 ?_
      refine lv_iload_n hx hb dX5_seen_28 rfl (lv_at hl 2 rfl) ?_
      refine xiadd hx hb dX5_seen_29 ?_
      refine xiald (j := (24 * x.toNatClampNeg) + y.toNatClampNeg) (q0 := 2) (t0 := 0) hx hb hK1 hP rfl rfl (by omega) (by decide) dX5_seen_30 ?_
      refine xtop (y := (M 2 ((24 * x.toNatClampNeg) + y.toNatClampNeg))) (by simp only [hM_1]; rfl) ?_
      refine lv_goto (tgt := 39) hx hb dX5_seen_31 (by decide) ?_
      subst hQ
      have hMfin : M_1 = wr M 0 0 (if isIn 4 x = true then (if isIn n y = true then nI 0 else nI 1) else nI 1) := by simp only [wr_wr, if_true, if_false, Bool.false_eq_true, Nat.one_ne_zero, hM_1, c9, c17]
      rw [hMfin] at hP
      have hrel : True := by trivial
      have hfin : (M 2 ((24 * x.toNatClampNeg) + y.toNatClampNeg)) = (if isIn 4 x = true then (if isIn n y = true then M 2 (24 * x.toNatClampNeg + y.toNatClampNeg) else nI 0) else nI 0) := by simp only [wr_wr, if_true, if_false, Bool.false_eq_true, Nat.one_ne_zero, hM_1, c9, c17]
      exact W.iret hx hb hr (fun t ht hW => ⟨⟨_, (), rfl, ⟨hfin, hrel⟩, by rw [← ht] at hP; exact hP⟩, hS.F ht⟩) hS.2.2 dX5_seen_39

def countR (M : Nat → Nat → Int32) (n ag : Nat) : Int32 := fo (fun w r => r + bc (M 2 (24 * ag + w))) (nI 0) n
def gatC (M : Nat → Nat → Int32) (ag : Nat) (set : Int32) (j : Nat) : Nat → Nat → Int32 := fun i x => if i = 2 ∧ (24 * ag ≤ x ∧ x < 24 * ag + j) ∧ bt set (x - 24 * ag) = true then M i x ||| set else M i x
theorem gatC_0 {M : Nat → Nat → Int32} {ag : Nat} {set : Int32} {j x : Nat} : gatC M ag set j 0 x = M 0 x := if_neg (by omega)
theorem gatC_at {M : Nat → Nat → Int32} {ag : Nat} {set : Int32} {j : Nat} : gatC M ag set j 2 (24 * ag + j) = M 2 (24 * ag + j) := if_neg (by omega)
def gatN (M : Nat → Nat → Int32) (ag : Nat) (set : Int32) (n : Nat) : Int32 := fo (fun w r => if bt set w then r + bc (set &&& (M 2 (24 * ag + w) ^^^ (-1))) else r) (nI 0) n
theorem gatC_s {M : Nat → Nat → Int32} {ag : Nat} {set : Int32} {j : Nat} (hb : bt set j = true) : wr (gatC M ag set j) 2 (24 * ag + j) (M 2 (24 * ag + j) ||| set) = gatC M ag set (j + 1) := by
  funext i x
  rw [wr_eq]
  unfold gatC
  by_cases h : i = 2 ∧ x = 24 * ag + j
  · obtain ⟨rfl, rfl⟩ := h
    rw [if_pos ⟨rfl, rfl⟩, if_pos ⟨rfl, ⟨by omega, by omega⟩, by rw [Nat.add_sub_cancel_left]; exact hb⟩]
  · rw [if_neg h]
    have : (i = 2 ∧ (24 * ag ≤ x ∧ x < 24 * ag + j) ∧ bt set (x - 24 * ag) = true) ↔ (i = 2 ∧ (24 * ag ≤ x ∧ x < 24 * ag + (j + 1)) ∧ bt set (x - 24 * ag) = true) := ⟨fun q => ⟨q.1, ⟨q.2.1.1, by omega⟩, q.2.2⟩, fun q => ⟨q.1, ⟨q.2.1.1, by omega⟩, q.2.2⟩⟩
    simp only [this]
theorem gatC_n {M : Nat → Nat → Int32} {ag : Nat} {set : Int32} {j : Nat} (hb : bt set j = false) : gatC M ag set j = gatC M ag set (j + 1) := by
  funext i x
  unfold gatC
  by_cases h : x = 24 * ag + j
  · subst h
    rw [if_neg (by omega), if_neg]
    rintro ⟨_, _, q⟩
    rw [Nat.add_sub_cancel_left, hb] at q; cases q
  · have : (i = 2 ∧ (24 * ag ≤ x ∧ x < 24 * ag + j) ∧ bt set (x - 24 * ag) = true) ↔ (i = 2 ∧ (24 * ag ≤ x ∧ x < 24 * ag + (j + 1)) ∧ bt set (x - 24 * ag) = true) := ⟨fun q => ⟨q.1, ⟨q.2.1.1, by omega⟩, q.2.2⟩, fun q => ⟨q.1, ⟨q.2.1.1, by omega⟩, q.2.2⟩⟩
    simp only [this]

set_option maxHeartbeats 4000000 in
set_option maxRecDepth 100000 in
theorem c_X5_arrowCount (l : Launch) (D : va_G) (cs : Nat → ClassId) (b : Nat → Nat) (M : Nat → Nat → Int32) (sz : Nat) (hI : kI b 12)  (n : Nat) (x : Int32) (hn : M 0 1 = nI n) (hn24 : n ≤ 24) : Met l yX5_arrowCount wsX5_arrowCount ({ frames := 2, cells := 0, slots := 0, locals := 60 } : Room) (va_Pc [.ref (b 0), .int x] (XBs D cs (rc cs b M) sz)) (va_Qi (fun r (u : Unit) => r = (if isIn 4 x = true then countR M n x.toNatClampNeg else nI 0) ∧ True) (fun (u : Unit) t => va_P D vwCl (rc cs b (wr M 0 0 (if isIn 4 x = true then nI 0 else nI 1))) t.heap) (kA b 12 sz)) 0 0 (kA b 12 sz) := by
  refine Met.ofW (cc := cX5_arrowCount) (maxL := 4) (ret := (some .int)) (by decide) rfl ?_
  intro p e s m args below meth c s₁ B hml hv
  obtain ⟨rfl, hsz, hP, hK⟩ := hv
  have hx := B.exec
  have hb := B.bytes
  have hr := B.returns
  have hts := atoms_spec (ws := wsX5_arrowCount) B.pre
  have hown : s.vm.findClass RX5 = some m.cls := findClass_of_methodNamed B.named
  have hlocks := B.notSynchronized
  have hK1 := hK.1
  have hinX5 : ∀ w ∈ wsX50, w ∈ wsX5_arrowCount := fun w h => List.mem_cons_of_mem _ (List.mem_append_right _ h)
  subst hsz
  have hS : va_S (kA b 12 s.heap.size) s.heap s.heap [] := va_S.rf
  have hl := lv_entry ([.ref (b 0), .int x]) (n := 4) (Nat.le_of_ble_eq_true rfl)
  rw [lg_entry_eq]
  generalize (lg_sl ([.ref (b 0), .int x]) ++ List.replicate (4 - (lg_sl ([.ref (b 0), .int x])).length) Slot.unset).toArray = ls at hl ⊢
  have hl : lv_has ls 4 [(0, .ref (b 0)), (1, .int x)] := hl
  refine W_Q (fun Q hQ => ?_)
  show W p l e ({ frames := 2, cells := 0, slots := 0, locals := 60 } : Room) s m ([.ref (b 0), .int x] : List Value).toArray below meth c s.heap [] 0 0 Q (F0 m 0 ls [])
  refine lv_aload_n hx hb dX5_arrowCount_0 rfl (lv_at hl 0 rfl) ?_
  refine lv_iconst (v := (nI 0)) hx hb dX5_arrowCount_1 (by decide) ?_
  refine xput (D := D) (ci := 5) (v := .int (nI 0)) (ty := .int) (C := RX5) (T := TX5) (N := 15) (ws' := rc cs b (wr M 0 0 (nI 0))) hx hb hts hinX5 tyX5 tyX5_ok nmX5 hown hK1 hP (rD hI) hS 0 rfl rfl 0 (by decide) (hts (.fieldLink RX5 44 "KnowledgeModelModel" "thrown" "I") (List.mem_of_getElem? (i := 1) rfl)) (fun _ h9 => h9) rfl (by decide +kernel) rfl rfl (Nat.le_of_ble_eq_true rfl) rfl dX5_arrowCount_2 (fun H locs hP hS => ?_)
  obtain ⟨M_1, hM_1⟩ : ∃ z, z = wr M 0 0 (nI 0) := ⟨_, rfl⟩
  rw [← hM_1] at hP
  have hk_2 : M_1 0 1 = nI n := by rw [hM_1]; exact (wr_ne (Or.inr (by decide))).trans hn
  have hk_3 : M_1 0 0 = nI 0 := by rw [hM_1]; exact wr_same
  refine lv_iload_n hx hb dX5_arrowCount_5 rfl (lv_at hl 1 rfl) ?_
  refine xcalli (va_runS (As := [.int x]) (rest := []) ⟨hx, hb, hml, hown, hts⟩ (c_X5_isAgent l x) (va_cwS 1 hts gX5_arrowCount_X5_isAgent rfl rfl rfl (by decide +kernel) ⟨Nat.le_of_ble_eq_true rfl, Nat.le_of_ble_eq_true rfl⟩) xpreN rfl rfl hl.1 rfl (lv_room (Nat.le_of_ble_eq_true rfl)) dX5_arrowCount_6 ⟨Nat.le_of_ble_eq_true rfl, Nat.le_of_ble_eq_true rfl⟩) hS hP (fun H locs hP hS => ?_)
  refine lv_if_ne (tgt := 18) hx hb dX5_arrowCount_9 (by decide) (fun c9 => ?_) (fun c9 => ?_)
  ·
    replace c9 := bI_n0 c9
    obtain ⟨hlt_x, heq_x⟩ := isIn_eq (by omega) c9
    have hl : lv_has ls 4 [(0, .ref (b 0)), (1, .int (nI x.toNatClampNeg))] := (lcons (lcons (lzero hl) hl 1 rfl (congrArg Value.int heq_x)) hl 0 rfl rfl)
    refine lv_iconst (v := (nI 0)) hx hb dX5_arrowCount_18 (by decide) ?_
    refine lv_istore_n (lv' := [(2, .int (nI 0)), (0, .ref (b 0)), (1, .int (nI x.toNatClampNeg))]) hx hb dX5_arrowCount_19 rfl hl (by decide) rfl (fun ls hl => ?_)
    refine lv_iconst (v := (nI 0)) hx hb dX5_arrowCount_20 (by decide) ?_
    refine lv_istore_n (lv' := [(3, .int (nI 0)), (2, .int (nI 0)), (0, .ref (b 0)), (1, .int (nI x.toNatClampNeg))]) hx hb dX5_arrowCount_21 rfl hl (by decide) rfl (fun ls hl => ?_)
    have cut22 : ∀ (f22 : Nat) (j : Nat) (hj : j ≤ n), n + 1 ≤ j + f22 → ∀ (H : Heap) (locs : List Loc), va_P D vwCl (rc cs b M_1) H → va_S (kA b 12 s.heap.size) s.heap H locs → ∀ (ls : Array Slot), lv_has ls 4 [(0, .ref (b 0)), (1, .int (nI x.toNatClampNeg)), (2, .int (fo (fun w r => r + bc (M 2 (24 * x.toNatClampNeg + w))) (nI 0) j)), (3, .int (nI j))] → W p l e ({ frames := 2, cells := 0, slots := 0, locals := 60 } : Room) s m ([.ref (b 0), .int x] : List Value).toArray below meth c H locs 0 0 Q (F0 m 22 ls []) := by
      intro f22
      induction f22 with
      | zero => intro j hj hfu22; exact absurd hfu22 (by omega)
      | succ f22 cut22 =>
        intro j hj hfu22 H locs hP hS ls hl
        refine lv_iload_n hx hb dX5_arrowCount_22 rfl (lv_at hl 3 rfl) ?_
        refine lv_aload_n hx hb dX5_arrowCount_23 rfl (lv_at hl 0 rfl) ?_
        refine va_get (D := D) (ci := 5) (v := .int (M_1 0 1)) (C := RX5) (T := TX5) (N := 15) hx hb hts hinX5 hown hK1 hP 0 rfl rfl 1 (by decide) (hts (.fieldLink RX5 48 "KnowledgeModelModel" "worlds" "I") (List.mem_of_getElem? (i := 2) rfl)) (fun _ h9 => h9) rfl dX5_arrowCount_24 ?_
        refine xtop (y := nI n) (hk_2) ?_
        refine lv_icmp_ge (tgt := 53) hx hb dX5_arrowCount_27 (by decide) (fun c27 => ?_) (fun c27 => ?_)
        ·
          replace c27 : n ≤ j := k_get c27 (by omega) (by omega)
          refine lv_iload_n hx hb dX5_arrowCount_53 rfl (lv_at hl 2 rfl) ?_
          subst hQ
          have hMfin : M_1 = wr M 0 0 (if isIn 4 x = true then nI 0 else nI 1) := by simp only [wr_wr, if_true, if_false, Bool.false_eq_true, Nat.one_ne_zero, hM_1, c9, c27]
          rw [hMfin] at hP
          have hrel : True := by trivial
          have hfin : (fo (fun w r => r + bc (M 2 (24 * x.toNatClampNeg + w))) (nI 0) j) = (if isIn 4 x = true then countR M n x.toNatClampNeg else nI 0) := by (have hje : j = n := by omega); subst hje; rw [if_pos c9]; rfl
          exact W.iret hx hb hr (fun t ht hW => ⟨⟨_, (), rfl, ⟨hfin, hrel⟩, by rw [← ht] at hP; exact hP⟩, hS.F ht⟩) hS.2.2 dX5_arrowCount_54
        ·
          replace c27 : j < n := k_gef c27 (by omega) (by omega)
          refine lv_iload_n hx hb dX5_arrowCount_30 rfl (lv_at hl 2 rfl) ?_
          refine lv_aload_n hx hb dX5_arrowCount_31 rfl (lv_at hl 0 rfl) ?_
          refine va_get (D := D) (ci := 5) (v := .ref (b 2)) (C := RX5) (T := TX5) (N := 15) hx hb hts hinX5 hown hK1 hP 0 rfl rfl 4 (by decide) (hts (.fieldLink RX5 13 "KnowledgeModelModel" "seen" "[I") (List.mem_of_getElem? (i := 3) rfl)) (fun _ h9 => h9) rfl dX5_arrowCount_32 ?_
          refine lv_bipush (v := (nI 24)) hx hb dX5_arrowCount_35 (by decide) ?_
          refine lv_iload_n hx hb dX5_arrowCount_37 rfl (lv_at hl 1 rfl) ?_
          refine ximul hx hb dX5_arrowCount_38 ?_
          refine lv_iload_n hx hb dX5_arrowCount_39 rfl (lv_at hl 3 rfl) ?_
          refine xiadd hx hb dX5_arrowCount_40 ?_
          refine xiald (j := (24 * x.toNatClampNeg) + j) (q0 := 2) (t0 := 0) hx hb hK1 hP rfl rfl (by omega) (by decide) dX5_arrowCount_41 ?_
          refine xtop (y := (M 2 ((24 * x.toNatClampNeg) + j))) (by simp only [hM_1]; rfl) ?_
          refine xcalli (va_runS (As := [.int (M 2 ((24 * x.toNatClampNeg) + j))]) (rest := [.int (fo (fun w r => r + bc (M 2 (24 * x.toNatClampNeg + w))) (nI 0) j)]) ⟨hx, hb, hml, hown, hts⟩ (c_J6_bitCount_0f7a4 l (M 2 ((24 * x.toNatClampNeg) + j))) (va_cwS 1 hts gX5_arrowCount_J6_bitCount_0f7a4 rfl rfl rfl (by decide +kernel) ⟨Nat.le_of_ble_eq_true rfl, Nat.le_of_ble_eq_true rfl⟩) xpreN rfl rfl hl.1 rfl (lv_room (Nat.le_of_ble_eq_true rfl)) dX5_arrowCount_42 ⟨Nat.le_of_ble_eq_true rfl, Nat.le_of_ble_eq_true rfl⟩) hS hP (fun H locs hP hS => ?_)
          refine lv_iadd hx hb dX5_arrowCount_45 ?_
          refine lv_topi (fun x_4 hx_4 => ?_)
          refine lv_istore_n (lv' := [(2, .int x_4), (0, .ref (b 0)), (1, .int (nI x.toNatClampNeg)), (3, .int (nI j))]) hx hb dX5_arrowCount_46 rfl hl (by decide) rfl (fun ls hl => ?_)
          refine lv_iinc (v := (nI (j + 1))) (lv' := [(3, .int (nI (j + 1))), (2, .int x_4), (0, .ref (b 0)), (1, .int (nI x.toNatClampNeg))]) hx hb dX5_arrowCount_47 hl (k := 3) rfl (nI_add j 1) (by decide) rfl (fun ls hl => ?_)
          refine lv_goto (tgt := 22) hx hb dX5_arrowCount_50 (by decide) ?_
          have e_5 : x_4 = (fo (fun w r => r + bc (M 2 (24 * x.toNatClampNeg + w))) (nI 0) (j + 1)) := by first | rfl | (simp [fo_s, hM_1, c9, c27, hx_4]; done) | (simp [fo_s, hM_1, c9, c27, hx_4] <;> rfl)
          exact cut22 (j + 1) (by omega) (by omega) _ _ hP hS ls (lcons (lcons (lcons (lcons (lzero hl) hl 0 rfl rfl) hl 1 rfl (congrArg Value.int e_5)) hl 3 rfl rfl) hl 2 rfl rfl)
    have e_6 : (nI 0) = (fo (fun w r => r + bc (M 2 (24 * x.toNatClampNeg + w))) (nI 0) 0) := by first | rfl | (simp [fo_s, hM_1, c9]; done) | (simp [fo_s, hM_1, c9] <;> rfl)
    exact cut22 (n + 1) 0 (by omega) (by omega) _ _ hP hS ls (lcons (lcons (lcons (lcons (lzero hl) hl 0 rfl rfl) hl 1 rfl (congrArg Value.int e_6)) hl 3 rfl rfl) hl 2 rfl rfl)
  ·
    replace c9 := bI_0 c9
    refine lv_aload_n hx hb dX5_arrowCount_12 rfl (lv_at hl 0 rfl) ?_
    refine lv_iconst (v := (nI 1)) hx hb dX5_arrowCount_13 (by decide) ?_
    refine xcallwi (va_runV (As := [.int (nI 1)]) (rest := []) ⟨hx, hb, hml, hown, hts⟩ (c_X5_no l D cs b M_1 _ hI (nI 1)) (cwV 1 hts gX5_arrowCount_X5_no rfl rfl rfl (by decide +kernel) ⟨Nat.le_of_ble_eq_true rfl, Nat.le_of_ble_eq_true rfl⟩) (xpreVs hP hK (ci := 5) 0 rfl rfl) rfl rfl hl.1 rfl (lv_room (Nat.le_of_ble_eq_true rfl)) dX5_arrowCount_14 ⟨Nat.le_of_ble_eq_true rfl, Nat.le_of_ble_eq_true rfl⟩) hS (kAle hS.1) (fun u_7 H locs hu_7 hP _ _ hS => ?_)
    have hP : va_P D vwCl (rc cs b (wr M_1 0 0 (nI 1))) H := hP
    obtain ⟨M_8, hM_8⟩ : ∃ z, z = wr M_1 0 0 (nI 1) := ⟨_, rfl⟩
    rw [← hM_8] at hP
    have hk_9 : M_8 0 1 = nI n := by rw [hM_8]; exact (wr_ne (Or.inr (by decide))).trans hk_2
    subst hQ
    have hMfin : M_8 = wr M 0 0 (if isIn 4 x = true then nI 0 else nI 1) := by simp only [wr_wr, if_true, if_false, Bool.false_eq_true, Nat.one_ne_zero, hM_1, c9, hM_8]
    rw [hMfin] at hP
    have hrel : True := by trivial
    have hfin : (nI 0) = (if isIn 4 x = true then countR M n x.toNatClampNeg else nI 0) := by simp only [wr_wr, if_true, if_false, Bool.false_eq_true, Nat.one_ne_zero, hM_1, c9, hM_8]
    exact W.iret hx hb hr (fun t ht hW => ⟨⟨_, (), rfl, ⟨hfin, hrel⟩, by rw [← ht] at hP; exact hP⟩, hS.F ht⟩) hS.2.2 dX5_arrowCount_17

set_option maxHeartbeats 4000000 in
set_option maxRecDepth 100000 in
theorem c_X5_gather (l : Launch) (D : va_G) (cs : Nat → ClassId) (b : Nat → Nat) (M : Nat → Nat → Int32) (sz : Nat) (hI : kI b 12)  (n : Nat) (x : Int32) (set : Int32) (hn : M 0 1 = nI n) (hn24 : n ≤ 24) : Met l yX5_gather wsX5_gather ({ frames := 2, cells := 0, slots := 0, locals := 60 } : Room) (va_Pc [.ref (b 0), .int x, .int set] (XBs D cs (rc cs b M) sz)) (va_Qi (fun r (u : Unit) => r = (if isIn 4 x = true then (if set < 0 ∨ ¬ (set >>> (nI n &&& 31)) = 0 then nI 0 else gatN M x.toNatClampNeg set n) else nI 0) ∧ True) (fun (u : Unit) t => va_P D vwCl (rc cs b ((if isIn 4 x = true then (if set < 0 ∨ ¬ (set >>> (nI n &&& 31)) = 0 then wr M 0 0 (nI 2) else gatC (wr M 0 0 (nI 0)) x.toNatClampNeg set n) else wr M 0 0 (nI 1)))) t.heap) (kA b 12 sz)) 0 0 (kA b 12 sz) := by
  refine Met.ofW (cc := cX5_gather) (maxL := 5) (ret := (some .int)) (by decide) rfl ?_
  intro p e s m args below meth c s₁ B hml hv
  obtain ⟨rfl, hsz, hP, hK⟩ := hv
  have hx := B.exec
  have hb := B.bytes
  have hr := B.returns
  have hts := atoms_spec (ws := wsX5_gather) B.pre
  have hown : s.vm.findClass RX5 = some m.cls := findClass_of_methodNamed B.named
  have hlocks := B.notSynchronized
  have hK1 := hK.1
  have hinX5 : ∀ w ∈ wsX50, w ∈ wsX5_gather := fun w h => List.mem_cons_of_mem _ (List.mem_append_right _ h)
  subst hsz
  have hS : va_S (kA b 12 s.heap.size) s.heap s.heap [] := va_S.rf
  have hl := lv_entry ([.ref (b 0), .int x, .int set]) (n := 5) (Nat.le_of_ble_eq_true rfl)
  rw [lg_entry_eq]
  generalize (lg_sl ([.ref (b 0), .int x, .int set]) ++ List.replicate (5 - (lg_sl ([.ref (b 0), .int x, .int set])).length) Slot.unset).toArray = ls at hl ⊢
  have hl : lv_has ls 5 [(0, .ref (b 0)), (1, .int x), (2, .int set)] := hl
  refine W_Q (fun Q hQ => ?_)
  show W p l e ({ frames := 2, cells := 0, slots := 0, locals := 60 } : Room) s m ([.ref (b 0), .int x, .int set] : List Value).toArray below meth c s.heap [] 0 0 Q (F0 m 0 ls [])
  refine lv_aload_n hx hb dX5_gather_0 rfl (lv_at hl 0 rfl) ?_
  refine lv_iconst (v := (nI 0)) hx hb dX5_gather_1 (by decide) ?_
  refine xput (D := D) (ci := 5) (v := .int (nI 0)) (ty := .int) (C := RX5) (T := TX5) (N := 15) (ws' := rc cs b (wr M 0 0 (nI 0))) hx hb hts hinX5 tyX5 tyX5_ok nmX5 hown hK1 hP (rD hI) hS 0 rfl rfl 0 (by decide) (hts (.fieldLink RX5 44 "KnowledgeModelModel" "thrown" "I") (List.mem_of_getElem? (i := 1) rfl)) (fun _ h9 => h9) rfl (by decide +kernel) rfl rfl (Nat.le_of_ble_eq_true rfl) rfl dX5_gather_2 (fun H locs hP hS => ?_)
  obtain ⟨M_1, hM_1⟩ : ∃ z, z = wr M 0 0 (nI 0) := ⟨_, rfl⟩
  rw [← hM_1] at hP
  have hk_2 : M_1 0 1 = nI n := by rw [hM_1]; exact (wr_ne (Or.inr (by decide))).trans hn
  have hk_3 : M_1 0 0 = nI 0 := by rw [hM_1]; exact wr_same
  refine lv_iload_n hx hb dX5_gather_5 rfl (lv_at hl 1 rfl) ?_
  refine xcalli (va_runS (As := [.int x]) (rest := []) ⟨hx, hb, hml, hown, hts⟩ (c_X5_isAgent l x) (va_cwS 1 hts gX5_gather_X5_isAgent rfl rfl rfl (by decide +kernel) ⟨Nat.le_of_ble_eq_true rfl, Nat.le_of_ble_eq_true rfl⟩) xpreN rfl rfl hl.1 rfl (lv_room (Nat.le_of_ble_eq_true rfl)) dX5_gather_6 ⟨Nat.le_of_ble_eq_true rfl, Nat.le_of_ble_eq_true rfl⟩) hS hP (fun H locs hP hS => ?_)
  refine lv_if_ne (tgt := 18) hx hb dX5_gather_9 (by decide) (fun c9 => ?_) (fun c9 => ?_)
  ·
    replace c9 := bI_n0 c9
    refine lv_iload_n hx hb dX5_gather_18 rfl (lv_at hl 2 rfl) ?_
    refine lv_if_lt (tgt := 31) hx hb dX5_gather_19 (by decide) (fun c19 => ?_) (fun c19 => ?_)
    ·
      refine lv_aload_n hx hb dX5_gather_31 rfl (lv_at hl 0 rfl) ?_
      refine lv_iconst (v := (nI 2)) hx hb dX5_gather_32 (by decide) ?_
      refine xcallwi (va_runV (As := [.int (nI 2)]) (rest := []) ⟨hx, hb, hml, hown, hts⟩ (c_X5_no l D cs b M_1 _ hI (nI 2)) (cwV 1 hts gX5_gather_X5_no rfl rfl rfl (by decide +kernel) ⟨Nat.le_of_ble_eq_true rfl, Nat.le_of_ble_eq_true rfl⟩) (xpreVs hP hK (ci := 5) 0 rfl rfl) rfl rfl hl.1 rfl (lv_room (Nat.le_of_ble_eq_true rfl)) dX5_gather_33 ⟨Nat.le_of_ble_eq_true rfl, Nat.le_of_ble_eq_true rfl⟩) hS (kAle hS.1) (fun u_4 H locs hu_4 hP _ _ hS => ?_)
      have hP : va_P D vwCl (rc cs b (wr M_1 0 0 (nI 2))) H := hP
      obtain ⟨M_5, hM_5⟩ : ∃ z, z = wr M_1 0 0 (nI 2) := ⟨_, rfl⟩
      rw [← hM_5] at hP
      have hk_6 : M_5 0 1 = nI n := by rw [hM_5]; exact (wr_ne (Or.inr (by decide))).trans hk_2
      subst hQ
      have hMfin : M_5 = (if isIn 4 x = true then (if set < 0 ∨ ¬ (set >>> (nI n &&& 31)) = 0 then wr M 0 0 (nI 2) else gatC (wr M 0 0 (nI 0)) x.toNatClampNeg set n) else wr M 0 0 (nI 1)) := by first | (rw [if_pos c9, if_pos (Or.inl c19)]; simp only [wr_wr, hM_1, c9, c19, hM_5]) | (rw [if_pos c9, if_pos (Or.inr c28)]; simp only [wr_wr, hM_1, c9, c19, hM_5])
      rw [hMfin] at hP
      have hrel : True := by trivial
      have hfin : (nI 0) = (if isIn 4 x = true then (if set < 0 ∨ ¬ (set >>> (nI n &&& 31)) = 0 then nI 0 else gatN M x.toNatClampNeg set n) else nI 0) := by first | rw [if_pos c9, if_pos (Or.inl c19)] | rw [if_pos c9, if_pos (Or.inr c28)]
      exact W.iret hx hb hr (fun t ht hW => ⟨⟨_, (), rfl, ⟨hfin, hrel⟩, by rw [← ht] at hP; exact hP⟩, hS.F ht⟩) hS.2.2 dX5_gather_36
    ·
      refine lv_iload_n hx hb dX5_gather_22 rfl (lv_at hl 2 rfl) ?_
      refine lv_aload_n hx hb dX5_gather_23 rfl (lv_at hl 0 rfl) ?_
      refine va_get (D := D) (ci := 5) (v := .int (M_1 0 1)) (C := RX5) (T := TX5) (N := 15) hx hb hts hinX5 hown hK1 hP 0 rfl rfl 1 (by decide) (hts (.fieldLink RX5 48 "KnowledgeModelModel" "worlds" "I") (List.mem_of_getElem? (i := 2) rfl)) (fun _ h9 => h9) rfl dX5_gather_24 ?_
      refine xtop (y := nI n) (hk_2) ?_
      refine lv_ishr hx hb dX5_gather_27 ?_
      refine lv_if_eq (tgt := 37) hx hb dX5_gather_28 (by decide) (fun c28 => ?_) (fun c28 => ?_)
      ·
        obtain ⟨hlt_x, heq_x⟩ := isIn_eq (by omega) c9
        have hl : lv_has ls 5 [(0, .ref (b 0)), (1, .int (nI x.toNatClampNeg)), (2, .int set)] := (lcons (lcons (lcons (lzero hl) hl 2 rfl rfl) hl 1 rfl (congrArg Value.int heq_x)) hl 0 rfl rfl)
        obtain ⟨ag, hag⟩ : ∃ z, z = x.toNatClampNeg := ⟨_, rfl⟩
        rw [← hag] at hl hlt_x
        have hM0 : M_1 = wr M 0 0 (nI 0) := by simp only [wr_eq, hM_1]
        refine lv_iconst (v := (nI 0)) hx hb dX5_gather_37 (by decide) ?_
        refine lv_istore_n (lv' := [(3, .int (nI 0)), (0, .ref (b 0)), (1, .int (nI ag)), (2, .int set)]) hx hb dX5_gather_38 rfl hl (by decide) rfl (fun ls hl => ?_)
        refine lv_iconst (v := (nI 0)) hx hb dX5_gather_39 (by decide) ?_
        refine lv_istore (lv' := [(4, .int (nI 0)), (3, .int (nI 0)), (0, .ref (b 0)), (1, .int (nI ag)), (2, .int set)]) hx hb dX5_gather_40 hl (by decide) rfl (fun ls hl => ?_)
        have cut42 : ∀ (f42 : Nat) (j : Nat) (hj : j ≤ n), n + 1 ≤ j + f42 → ∀ (H : Heap) (locs : List Loc), va_P D vwCl (rc cs b (gatC (wr M 0 0 (nI 0)) ag set j)) H → va_S (kA b 12 s.heap.size) s.heap H locs → ∀ (ls : Array Slot), lv_has ls 5 [(0, .ref (b 0)), (1, .int (nI ag)), (2, .int set), (3, .int (gatN M ag set j)), (4, .int (nI j))] → W p l e ({ frames := 2, cells := 0, slots := 0, locals := 60 } : Room) s m ([.ref (b 0), .int x, .int set] : List Value).toArray below meth c H locs 0 0 Q (F0 m 42 ls []) := by
          intro f42
          induction f42 with
          | zero => intro j hj hfu42; exact absurd hfu42 (by omega)
          | succ f42 cut42 =>
            intro j hj hfu42 H locs hP hS ls hl
            refine lv_iload hx hb dX5_gather_42 (lv_at hl 4 rfl) ?_
            refine lv_aload_n hx hb dX5_gather_44 rfl (lv_at hl 0 rfl) ?_
            refine va_get (D := D) (ci := 5) (v := .int ((gatC (wr M 0 0 (nI 0)) ag set j) 0 1)) (C := RX5) (T := TX5) (N := 15) hx hb hts hinX5 hown hK1 hP 0 rfl rfl 1 (by decide) (hts (.fieldLink RX5 48 "KnowledgeModelModel" "worlds" "I") (List.mem_of_getElem? (i := 2) rfl)) (fun _ h9 => h9) rfl dX5_gather_45 ?_
            refine xtop (y := nI n) ((gatC_0.trans ((wr_ne (Or.inr (by decide))).trans hn))) ?_
            refine lv_icmp_ge (tgt := 107) hx hb dX5_gather_48 (by decide) (fun c48 => ?_) (fun c48 => ?_)
            ·
              replace c48 : n ≤ j := k_get c48 (by omega) (by omega)
              refine lv_iload_n hx hb dX5_gather_107 rfl (lv_at hl 3 rfl) ?_
              subst hQ
              have hMfin : gatC (wr M 0 0 (nI 0)) ag set j = (if isIn 4 x = true then (if set < 0 ∨ ¬ (set >>> (nI n &&& 31)) = 0 then wr M 0 0 (nI 2) else gatC (wr M 0 0 (nI 0)) x.toNatClampNeg set n) else wr M 0 0 (nI 1)) := by (have hje : j = n := by omega); subst hje; rw [if_pos c9, if_neg (by rintro (q | q); exact c19 q; exact q c28), ← hag]
              rw [hMfin] at hP
              have hrel : True := by trivial
              have hfin : (gatN M ag set j) = (if isIn 4 x = true then (if set < 0 ∨ ¬ (set >>> (nI n &&& 31)) = 0 then nI 0 else gatN M x.toNatClampNeg set n) else nI 0) := by (have hje : j = n := by omega); subst hje; rw [if_pos c9, if_neg (by rintro (q | q); exact c19 q; exact q c28), ← hag]
              exact W.iret hx hb hr (fun t ht hW => ⟨⟨_, (), rfl, ⟨hfin, hrel⟩, by rw [← ht] at hP; exact hP⟩, hS.F ht⟩) hS.2.2 dX5_gather_108
            ·
              replace c48 : j < n := k_gef c48 (by omega) (by omega)
              refine lv_iload_n hx hb dX5_gather_51 rfl (lv_at hl 2 rfl) ?_
              refine lv_iload hx hb dX5_gather_52 (lv_at hl 4 rfl) ?_
              refine xcalli (va_runS (As := [.int set, .int (nI j)]) (rest := []) ⟨hx, hb, hml, hown, hts⟩ (c_X5_has l set j (by omega)) (va_cwS 2 hts gX5_gather_X5_has rfl rfl rfl (by decide +kernel) ⟨Nat.le_of_ble_eq_true rfl, Nat.le_of_ble_eq_true rfl⟩) xpreN rfl rfl hl.1 rfl (lv_room (Nat.le_of_ble_eq_true rfl)) dX5_gather_54 ⟨Nat.le_of_ble_eq_true rfl, Nat.le_of_ble_eq_true rfl⟩) hS hP (fun H locs hP hS => ?_)
              refine lv_if_ne (tgt := 63) hx hb dX5_gather_57 (by decide) (fun c57 => ?_) (fun c57 => ?_)
              ·
                replace c57 := bI_n0 c57
                refine lv_iload_n hx hb dX5_gather_63 rfl (lv_at hl 3 rfl) ?_
                refine lv_iload_n hx hb dX5_gather_64 rfl (lv_at hl 2 rfl) ?_
                refine lv_aload_n hx hb dX5_gather_65 rfl (lv_at hl 0 rfl) ?_
                refine va_get (D := D) (ci := 5) (v := .ref (b 2)) (C := RX5) (T := TX5) (N := 15) hx hb hts hinX5 hown hK1 hP 0 rfl rfl 4 (by decide) (hts (.fieldLink RX5 13 "KnowledgeModelModel" "seen" "[I") (List.mem_of_getElem? (i := 3) rfl)) (fun _ h9 => h9) rfl dX5_gather_66 ?_
                refine lv_bipush (v := (nI 24)) hx hb dX5_gather_69 (by decide) ?_
                refine lv_iload_n hx hb dX5_gather_71 rfl (lv_at hl 1 rfl) ?_
                refine ximul hx hb dX5_gather_72 ?_
                refine lv_iload hx hb dX5_gather_73 (lv_at hl 4 rfl) ?_
                refine xiadd hx hb dX5_gather_75 ?_
                refine xiald (j := (24 * ag) + j) (q0 := 2) (t0 := 0) hx hb hK1 hP rfl rfl (by omega) (by decide) dX5_gather_76 ?_
                refine xtop (y := (M 2 (24 * ag + j))) (by exact gatC_at) ?_
                refine lv_iconst (v := (-1 : Int32)) hx hb dX5_gather_77 (by decide) ?_
                refine lv_ixor hx hb dX5_gather_78 ?_
                refine lv_iand hx hb dX5_gather_79 ?_
                refine xcalli (va_runS (As := [.int (set &&& ((M 2 (24 * ag + j)) ^^^ (-1 : Int32)))]) (rest := [.int (gatN M ag set j)]) ⟨hx, hb, hml, hown, hts⟩ (c_J6_bitCount_0f7a4 l (set &&& ((M 2 (24 * ag + j)) ^^^ (-1 : Int32)))) (va_cwS 1 hts gX5_gather_J6_bitCount_0f7a4 rfl rfl rfl (by decide +kernel) ⟨Nat.le_of_ble_eq_true rfl, Nat.le_of_ble_eq_true rfl⟩) xpreN rfl rfl hl.1 rfl (lv_room (Nat.le_of_ble_eq_true rfl)) dX5_gather_80 ⟨Nat.le_of_ble_eq_true rfl, Nat.le_of_ble_eq_true rfl⟩) hS hP (fun H locs hP hS => ?_)
                refine lv_iadd hx hb dX5_gather_83 ?_
                refine lv_topi (fun x_9 hx_9 => ?_)
                refine lv_istore_n (lv' := [(3, .int x_9), (0, .ref (b 0)), (1, .int (nI ag)), (2, .int set), (4, .int (nI j))]) hx hb dX5_gather_84 rfl hl (by decide) rfl (fun ls hl => ?_)
                refine lv_aload_n hx hb dX5_gather_85 rfl (lv_at hl 1 rfl) ?_
                refine va_get (D := D) (ci := 5) (v := .ref (b 2)) (C := RX5) (T := TX5) (N := 15) hx hb hts hinX5 hown hK1 hP 0 rfl rfl 4 (by decide) (hts (.fieldLink RX5 13 "KnowledgeModelModel" "seen" "[I") (List.mem_of_getElem? (i := 3) rfl)) (fun _ h9 => h9) rfl dX5_gather_86 ?_
                refine lv_bipush (v := (nI 24)) hx hb dX5_gather_89 (by decide) ?_
                refine lv_iload_n hx hb dX5_gather_91 rfl (lv_at hl 2 rfl) ?_
                refine ximul hx hb dX5_gather_92 ?_
                refine lv_iload hx hb dX5_gather_93 (lv_at hl 4 rfl) ?_
                refine xiadd hx hb dX5_gather_95 ?_
                refine lv_dup2_11 hx hb dX5_gather_96 rfl rfl ?_
                refine xiald (j := (24 * ag) + j) (q0 := 2) (t0 := 0) hx hb hK1 hP rfl rfl (by omega) (by decide) dX5_gather_97 ?_
                refine xtop (y := (M 2 (24 * ag + j))) (by exact gatC_at) ?_
                refine lv_iload_n hx hb dX5_gather_98 rfl (lv_at hl 3 rfl) ?_
                refine lv_ior hx hb dX5_gather_99 ?_
                refine lv_topi (fun x_10 hx_10 => ?_)
                refine xiast (j := (24 * ag) + j) (q0 := 2) (t0 := 0) (ws' := rc cs b (wr (gatC (wr M 0 0 (nI 0)) ag set j) 2 ((24 * ag) + j) x_10)) hx hb hK1 hP (rD hI) hS rfl rfl (by omega) (by decide) rs_2 dX5_gather_100 (fun H locs hP hS => ?_)
                obtain ⟨M_11, hM_11⟩ : ∃ z, z = wr (gatC (wr M 0 0 (nI 0)) ag set j) 2 ((24 * ag) + j) x_10 := ⟨_, rfl⟩
                rw [← hM_11] at hP
                have hk_12 : M_11 0 1 = nI n := by rw [hM_11]; exact (wr_ne (Or.inl (by omega))).trans (gatC_0.trans ((wr_ne (Or.inr (by decide))).trans hn))
                refine lv_iinc (v := (nI (j + 1))) (lv' := [(4, .int (nI (j + 1))), (3, .int x_9), (0, .ref (b 0)), (1, .int (nI ag)), (2, .int set)]) hx hb dX5_gather_101 hl (k := 4) rfl (nI_add j 1) (by decide) rfl (fun ls hl => ?_)
                refine lv_goto (tgt := 42) hx hb dX5_gather_104 (by decide) ?_
                have e_13 : x_9 = (gatN M ag set (j + 1)) := by first | (simp only [gatN, fo_s, hM_1, c9, c19, c28, c48, c57, hx_9, hx_10, hM_11]; done) | (simp only [gatN, fo_s, hM_1, c9, c19, c28, c48, c57, hx_9, hx_10, hM_11]; rfl) | (simp [gatN, fo_s, hM_1, c9, c19, c28, c48, c57, hx_9, hx_10, hM_11]; done)
                have eM_14 : M_11 = gatC (wr M 0 0 (nI 0)) ag set (j + 1) := by first | exact gatC_n c57 | (rw [← gatC_s c57]; simp only [fo_0, hM_1, c9, c19, c28, c48, c57, hx_9, hx_10, hM_11]; rfl)
                exact cut42 (j + 1) (by omega) (by omega) _ _ (eM_14 ▸ hP) hS ls (lcons (lcons (lcons (lcons (lcons (lzero hl) hl 0 rfl rfl) hl 1 rfl (congrArg Value.int e_13)) hl 4 rfl rfl) hl 3 rfl rfl) hl 2 rfl rfl)
              ·
                replace c57 := bI_0 c57
                refine lv_goto (tgt := 101) hx hb dX5_gather_60 (by decide) ?_
                refine lv_iinc (v := (nI (j + 1))) (lv' := [(4, .int (nI (j + 1))), (0, .ref (b 0)), (1, .int (nI ag)), (2, .int set), (3, .int (gatN M ag set j))]) hx hb dX5_gather_101 hl (k := 4) rfl (nI_add j 1) (by decide) rfl (fun ls hl => ?_)
                refine lv_goto (tgt := 42) hx hb dX5_gather_104 (by decide) ?_
                have e_15 : (gatN M ag set j) = (gatN M ag set (j + 1)) := by first | (simp only [gatN, fo_s, hM_1, c9, c19, c28, c48, c57]; done) | (simp only [gatN, fo_s, hM_1, c9, c19, c28, c48, c57]; rfl) | (simp [gatN, fo_s, hM_1, c9, c19, c28, c48, c57]; done)
                have eM_16 : gatC (wr M 0 0 (nI 0)) ag set j = gatC (wr M 0 0 (nI 0)) ag set (j + 1) := by first | exact gatC_n c57 | (rw [← gatC_s c57]; simp only [fo_0, hM_1, c9, c19, c28, c48, c57]; rfl)
                exact cut42 (j + 1) (by omega) (by omega) _ _ (eM_16 ▸ hP) hS ls (lcons (lcons (lcons (lcons (lcons (lzero hl) hl 0 rfl rfl) hl 4 rfl (congrArg Value.int e_15)) hl 3 rfl rfl) hl 2 rfl rfl) hl 1 rfl rfl)
        have e_17 : (nI 0) = (gatN M ag set 0) := by rfl
        have eM_18 : M_1 = gatC (wr M 0 0 (nI 0)) ag set 0 := by rw [hM0]; funext i w; unfold gatC; rw [if_neg (by omega)]
        exact cut42 (n + 1) 0 (by omega) (by omega) _ _ (eM_18 ▸ hP) hS ls (lcons (lcons (lcons (lcons (lcons (lzero hl) hl 0 rfl rfl) hl 1 rfl (congrArg Value.int e_17)) hl 4 rfl rfl) hl 3 rfl rfl) hl 2 rfl rfl)
      ·
        refine lv_aload_n hx hb dX5_gather_31 rfl (lv_at hl 0 rfl) ?_
        refine lv_iconst (v := (nI 2)) hx hb dX5_gather_32 (by decide) ?_
        refine xcallwi (va_runV (As := [.int (nI 2)]) (rest := []) ⟨hx, hb, hml, hown, hts⟩ (c_X5_no l D cs b M_1 _ hI (nI 2)) (cwV 1 hts gX5_gather_X5_no rfl rfl rfl (by decide +kernel) ⟨Nat.le_of_ble_eq_true rfl, Nat.le_of_ble_eq_true rfl⟩) (xpreVs hP hK (ci := 5) 0 rfl rfl) rfl rfl hl.1 rfl (lv_room (Nat.le_of_ble_eq_true rfl)) dX5_gather_33 ⟨Nat.le_of_ble_eq_true rfl, Nat.le_of_ble_eq_true rfl⟩) hS (kAle hS.1) (fun u_19 H locs hu_19 hP _ _ hS => ?_)
        have hP : va_P D vwCl (rc cs b (wr M_1 0 0 (nI 2))) H := hP
        obtain ⟨M_20, hM_20⟩ : ∃ z, z = wr M_1 0 0 (nI 2) := ⟨_, rfl⟩
        rw [← hM_20] at hP
        have hk_21 : M_20 0 1 = nI n := by rw [hM_20]; exact (wr_ne (Or.inr (by decide))).trans hk_2
        subst hQ
        have hMfin : M_20 = (if isIn 4 x = true then (if set < 0 ∨ ¬ (set >>> (nI n &&& 31)) = 0 then wr M 0 0 (nI 2) else gatC (wr M 0 0 (nI 0)) x.toNatClampNeg set n) else wr M 0 0 (nI 1)) := by first | (rw [if_pos c9, if_pos (Or.inl c19)]; simp only [wr_wr, hM_1, c9, c19, c28, hM_20]) | (rw [if_pos c9, if_pos (Or.inr c28)]; simp only [wr_wr, hM_1, c9, c19, c28, hM_20])
        rw [hMfin] at hP
        have hrel : True := by trivial
        have hfin : (nI 0) = (if isIn 4 x = true then (if set < 0 ∨ ¬ (set >>> (nI n &&& 31)) = 0 then nI 0 else gatN M x.toNatClampNeg set n) else nI 0) := by first | rw [if_pos c9, if_pos (Or.inl c19)] | rw [if_pos c9, if_pos (Or.inr c28)]
        exact W.iret hx hb hr (fun t ht hW => ⟨⟨_, (), rfl, ⟨hfin, hrel⟩, by rw [← ht] at hP; exact hP⟩, hS.F ht⟩) hS.2.2 dX5_gather_36
  ·
    replace c9 := bI_0 c9
    refine lv_aload_n hx hb dX5_gather_12 rfl (lv_at hl 0 rfl) ?_
    refine lv_iconst (v := (nI 1)) hx hb dX5_gather_13 (by decide) ?_
    refine xcallwi (va_runV (As := [.int (nI 1)]) (rest := []) ⟨hx, hb, hml, hown, hts⟩ (c_X5_no l D cs b M_1 _ hI (nI 1)) (cwV 1 hts gX5_gather_X5_no rfl rfl rfl (by decide +kernel) ⟨Nat.le_of_ble_eq_true rfl, Nat.le_of_ble_eq_true rfl⟩) (xpreVs hP hK (ci := 5) 0 rfl rfl) rfl rfl hl.1 rfl (lv_room (Nat.le_of_ble_eq_true rfl)) dX5_gather_14 ⟨Nat.le_of_ble_eq_true rfl, Nat.le_of_ble_eq_true rfl⟩) hS (kAle hS.1) (fun u_24 H locs hu_24 hP _ _ hS => ?_)
    have hP : va_P D vwCl (rc cs b (wr M_1 0 0 (nI 1))) H := hP
    obtain ⟨M_25, hM_25⟩ : ∃ z, z = wr M_1 0 0 (nI 1) := ⟨_, rfl⟩
    rw [← hM_25] at hP
    have hk_26 : M_25 0 1 = nI n := by rw [hM_25]; exact (wr_ne (Or.inr (by decide))).trans hk_2
    subst hQ
    have hMfin : M_25 = (if isIn 4 x = true then (if set < 0 ∨ ¬ (set >>> (nI n &&& 31)) = 0 then wr M 0 0 (nI 2) else gatC (wr M 0 0 (nI 0)) x.toNatClampNeg set n) else wr M 0 0 (nI 1)) := by simp only [wr_wr, if_true, if_false, Bool.false_eq_true, Nat.one_ne_zero, hM_1, c9, hM_25]
    rw [hMfin] at hP
    have hrel : True := by trivial
    have hfin : (nI 0) = (if isIn 4 x = true then (if set < 0 ∨ ¬ (set >>> (nI n &&& 31)) = 0 then nI 0 else gatN M x.toNatClampNeg set n) else nI 0) := by simp only [wr_wr, if_true, if_false, Bool.false_eq_true, Nat.one_ne_zero, hM_1, c9, hM_25]
    exact W.iret hx hb hr (fun t ht hW => ⟨⟨_, (), rfl, ⟨hfin, hrel⟩, by rw [← ht] at hP; exact hP⟩, hS.F ht⟩) hS.2.2 dX5_gather_17

