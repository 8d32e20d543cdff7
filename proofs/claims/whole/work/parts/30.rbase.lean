/-- a number from 0 below n -/
def isIn (n : Nat) (x : Int32) : Bool := decide (¬ x < 0) && decide (¬ nI n ≤ x)
def isGr (x : Int32) : Bool := decide (¬ x < nI 1) && decide (¬ nI 16 ≤ x)
theorem isIn_eq {n : Nat} {x : Int32} (hn : n < 2 ^ 31) (h : isIn n x = true) : x.toNatClampNeg < n ∧ x = nI x.toNatClampNeg := by
  unfold isIn at h
  rw [Bool.and_eq_true, decide_eq_true_eq, decide_eq_true_eq] at h
  rcases pk_ix x hn with q | q | ⟨j, hj, rfl⟩
  · exact absurd q h.1
  · exact absurd q h.2
  · rw [nI_clamp (by omega)]; exact ⟨hj, rfl⟩
theorem isIn_t {n : Nat} {x : Int32} (h1 : ¬ x < 0) (h2 : ¬ nI n ≤ x) : isIn n x = true := by unfold isIn; rw [decide_eq_true h1, decide_eq_true h2]; rfl
theorem isIn_f1 {n : Nat} {x : Int32} (h1 : x < 0) : isIn n x = false := by unfold isIn; rw [decide_eq_false (fun q => q h1)]; rfl
theorem isIn_f2 {n : Nat} {x : Int32} (h2 : nI n ≤ x) : isIn n x = false := by unfold isIn; rw [decide_eq_false (show ¬ ¬ nI n ≤ x from fun q => q h2), Bool.and_false]
theorem isGr_t {x : Int32} (h1 : ¬ x < nI 1) (h2 : ¬ nI 16 ≤ x) : isGr x = true := by unfold isGr; rw [decide_eq_true h1, decide_eq_true h2]; rfl
theorem isGr_f1 {x : Int32} (h1 : x < nI 1) : isGr x = false := by unfold isGr; rw [decide_eq_false (fun q => q h1)]; rfl
theorem isGr_f2 {x : Int32} (h2 : nI 16 ≤ x) : isGr x = false := by unfold isGr; rw [decide_eq_false (show ¬ ¬ nI 16 ≤ x from fun q => q h2), Bool.and_false]
theorem wr_wr {M : Nat → Nat → Int32} {i j : Nat} {v v2 : Int32} : wr (wr M i j v) i j v2 = wr M i j v2 := by
  funext k q
  rw [wr_eq, wr_eq, wr_eq]
  by_cases h : k = i ∧ q = j
  · rw [if_pos h, if_pos h]
  · rw [if_neg h, if_neg h, if_neg h]
theorem fo_id {α : Type} {f : Nat → α → α} {x : α} : ∀ {n : Nat}, (∀ i, i < n → ∀ r, f i r = r) → fo f x n = x
  | 0, _ => rfl
  | n + 1, h => by rw [fo_s, h n (by omega), fo_id (fun i hi r => h i (by omega) r)]

set_option maxHeartbeats 4000000 in
set_option maxRecDepth 100000 in
theorem c_X5_no (l : Launch) (D : va_G) (cs : Nat → ClassId) (b : Nat → Nat) (M : Nat → Nat → Int32) (sz : Nat) (hI : kI b 12)   (x : Int32) : Met l yX5_no wsX5_no ({ frames := 0, cells := 0, slots := 0, locals := 0 } : Room) (va_Pc [.ref (b 0), .int x] (XBs D cs (rc cs b M) sz)) (va_Qi (fun r (u : Unit) => r = nI 0 ∧ True) (fun (u : Unit) t => va_P D vwCl (rc cs b (wr M 0 0 x)) t.heap) (kA b 12 sz)) 0 0 (kA b 12 sz) := by
  refine Met.ofW (cc := cX5_no) (maxL := 2) (ret := (some .int)) (by decide) rfl ?_
  intro p e s m args below meth c s₁ B hml hv
  obtain ⟨rfl, hsz, hP, hK⟩ := hv
  have hx := B.exec
  have hb := B.bytes
  have hr := B.returns
  have hts := atoms_spec (ws := wsX5_no) B.pre
  have hown : s.vm.findClass RX5 = some m.cls := findClass_of_methodNamed B.named
  have hlocks := B.notSynchronized
  have hK1 := hK.1
  have hinX5 : ∀ w ∈ wsX50, w ∈ wsX5_no := fun w h => List.mem_cons_of_mem _ (List.mem_append_right _ h)
  subst hsz
  have hS : va_S (kA b 12 s.heap.size) s.heap s.heap [] := va_S.rf
  have hl := lv_entry ([.ref (b 0), .int x]) (n := 2) (Nat.le_of_ble_eq_true rfl)
  rw [lg_entry_eq]
  generalize (lg_sl ([.ref (b 0), .int x]) ++ List.replicate (2 - (lg_sl ([.ref (b 0), .int x])).length) Slot.unset).toArray = ls at hl ⊢
  have hl : lv_has ls 2 [(0, .ref (b 0)), (1, .int x)] := hl
  refine W_Q (fun Q hQ => ?_)
  show W p l e ({ frames := 0, cells := 0, slots := 0, locals := 0 } : Room) s m ([.ref (b 0), .int x] : List Value).toArray below meth c s.heap [] 0 0 Q (F0 m 0 ls [])
  refine lv_aload_n hx hb dX5_no_0 rfl (lv_at hl 0 rfl) ?_
  refine lv_iload_n hx hb dX5_no_1 rfl (lv_at hl 1 rfl) ?_
  refine xput (D := D) (ci := 5) (v := .int x) (ty := .int) (C := RX5) (T := TX5) (N := 15) (ws' := rc cs b (wr M 0 0 x)) hx hb hts hinX5 tyX5 tyX5_ok nmX5 hown hK1 hP (rD hI) hS 0 rfl rfl 0 (by decide) (hts (.fieldLink RX5 44 "KnowledgeModelModel" "thrown" "I") (List.mem_of_getElem? (i := 1) rfl)) (fun _ h9 => h9) rfl (by decide +kernel) rfl rfl (Nat.le_of_ble_eq_true rfl) rfl dX5_no_2 (fun H locs hP hS => ?_)
  obtain ⟨M_1, hM_1⟩ : ∃ z, z = wr M 0 0 x := ⟨_, rfl⟩
  rw [← hM_1] at hP
  refine lv_iconst (v := (nI 0)) hx hb dX5_no_5 (by decide) ?_
  subst hQ
  have hMfin : M_1 = wr M 0 0 x := by simp only [wr_eq, hM_1]
  rw [hMfin] at hP
  have hrel : True := by trivial
  have hfin : (nI 0) = nI 0 := by rfl
  exact W.iret hx hb hr (fun t ht hW => ⟨⟨_, (), rfl, ⟨hfin, hrel⟩, by rw [← ht] at hP; exact hP⟩, hS.F ht⟩) hS.2.2 dX5_no_6

set_option maxHeartbeats 4000000 in
set_option maxRecDepth 100000 in
theorem c_X5_isWorld (l : Launch) (D : va_G) (cs : Nat → ClassId) (b : Nat → Nat) (M : Nat → Nat → Int32)  (n : Nat) (x : Int32) (hn : M 0 1 = nI n) : Met l yX5_isWorld wsX5_isWorld ({ frames := 0, cells := 0, slots := 0, locals := 0 } : Room) (va_Pc [.ref (b 0), .int x] (XB D cs (rc cs b M))) (va_Qi (fun r (_ : Unit) => r = bI (isIn n x)) (fun _ _ => True) (fun _ => False)) 0 0 (fun _ => False) := by
  refine Met.ofW (cc := cX5_isWorld) (maxL := 2) (ret := (some .boolean)) (by decide) rfl ?_
  intro p e s m args below meth c s₁ B hml hv
  obtain ⟨rfl, hP, hK⟩ := hv
  have hx := B.exec
  have hb := B.bytes
  have hr := B.returns
  have hts := atoms_spec (ws := wsX5_isWorld) B.pre
  have hown : s.vm.findClass RX5 = some m.cls := findClass_of_methodNamed B.named
  have hlocks := B.notSynchronized
  have hK1 := hK.1
  have hinX5 : ∀ w ∈ wsX50, w ∈ wsX5_isWorld := fun w h => List.mem_cons_of_mem _ (List.mem_append_right _ h)
  have hS : va_S (fun _ => False) s.heap s.heap [] := va_S.rf
  have hl := lv_entry ([.ref (b 0), .int x]) (n := 2) (Nat.le_of_ble_eq_true rfl)
  rw [lg_entry_eq]
  generalize (lg_sl ([.ref (b 0), .int x]) ++ List.replicate (2 - (lg_sl ([.ref (b 0), .int x])).length) Slot.unset).toArray = ls at hl ⊢
  have hl : lv_has ls 2 [(0, .ref (b 0)), (1, .int x)] := hl
  refine W_Q (fun Q hQ => ?_)
  show W p l e ({ frames := 0, cells := 0, slots := 0, locals := 0 } : Room) s m ([.ref (b 0), .int x] : List Value).toArray below meth c s.heap [] 0 0 Q (F0 m 0 ls [])
  refine lv_iload_n hx hb dX5_isWorld_0 rfl (lv_at hl 1 rfl) ?_
  refine lv_if_lt (tgt := 16) hx hb dX5_isWorld_1 (by decide) (fun c1 => ?_) (fun c1 => ?_)
  ·
    refine lv_iconst (v := (nI 0)) hx hb dX5_isWorld_16 (by decide) ?_
    subst hQ
    have hfin : (nI 0) = bI (isIn n x) := by first | exact (congrArg bI (isIn_t c1 c9)).symm | exact (congrArg bI (isIn_f1 c1)).symm | exact (congrArg bI (isIn_f2 c9)).symm
    exact W.zret (ty := .boolean) hx hb hr (by decide) (fun t ht hW => ⟨⟨_, (), rfl, hfin, trivial⟩, hS.F ht⟩) hS.2.2 dX5_isWorld_17
  ·
    refine lv_iload_n hx hb dX5_isWorld_4 rfl (lv_at hl 1 rfl) ?_
    refine lv_aload_n hx hb dX5_isWorld_5 rfl (lv_at hl 0 rfl) ?_
    refine va_get (D := D) (ci := 5) (v := .int (M 0 1)) (C := RX5) (T := TX5) (N := 15) hx hb hts hinX5 hown hK1 hP 0 rfl rfl 1 (by decide) (hts (.fieldLink RX5 48 "KnowledgeModelModel" "worlds" "I") (List.mem_of_getElem? (i := 1) rfl)) (fun _ h9 => h9) rfl dX5_isWorld_6 ?_
    refine xtop (y := nI n) (hn) ?_
    refine lv_icmp_ge (tgt := 16) hx hb dX5_isWorld_9 (by decide) (fun c9 => ?_) (fun c9 => ?_)
    ·
      refine lv_iconst (v := (nI 0)) hx hb dX5_isWorld_16 (by decide) ?_
      subst hQ
      have hfin : (nI 0) = bI (isIn n x) := by first | exact (congrArg bI (isIn_t c1 c9)).symm | exact (congrArg bI (isIn_f1 c1)).symm | exact (congrArg bI (isIn_f2 c9)).symm
      exact W.zret (ty := .boolean) hx hb hr (by decide) (fun t ht hW => ⟨⟨_, (), rfl, hfin, trivial⟩, hS.F ht⟩) hS.2.2 dX5_isWorld_17
    ·
      refine lv_iconst (v := (nI 1)) hx hb dX5_isWorld_12 (by decide) ?_
      refine lv_goto (tgt := 17) hx hb dX5_isWorld_13 (by decide) ?_
      subst hQ
      have hfin : (nI 1) = bI (isIn n x) := by first | exact (congrArg bI (isIn_t c1 c9)).symm | exact (congrArg bI (isIn_f1 c1)).symm | exact (congrArg bI (isIn_f2 c9)).symm
      exact W.zret (ty := .boolean) hx hb hr (by decide) (fun t ht hW => ⟨⟨_, (), rfl, hfin, trivial⟩, hS.F ht⟩) hS.2.2 dX5_isWorld_17

set_option maxHeartbeats 4000000 in
set_option maxRecDepth 100000 in
theorem c_X5_isAgent (l : Launch)    (x : Int32) : Met l yX5_isAgent wsX5_isAgent ({ frames := 0, cells := 0, slots := 0, locals := 0 } : Room) (va_Pc [.int x] (fun _ => True)) (va_Qi (fun r (_ : Unit) => r = bI (isIn 4 x)) (fun _ _ => True) (fun _ => False)) 0 0 (fun _ => False) := by
  refine Met.ofW (cc := cX5_isAgent) (maxL := 1) (ret := (some .boolean)) (by decide) rfl ?_
  intro p e s m args below meth c s₁ B hml hv
  obtain ⟨rfl, -⟩ := hv
  have hx := B.exec
  have hb := B.bytes
  have hr := B.returns
  have hts := atoms_spec (ws := wsX5_isAgent) B.pre
  have hown : s.vm.findClass RX5 = some m.cls := findClass_of_methodNamed B.named
  have hlocks := B.notSynchronized
  have hS : va_S (fun _ => False) s.heap s.heap [] := va_S.rf
  have hP : va_P ((fun _ => 0, fun _ _ => 0) : va_G) ([] : List vw_C) ([] : va_W) s.heap := fun k q h => by simp at h
  have hl := lv_entry ([.int x]) (n := 1) (Nat.le_of_ble_eq_true rfl)
  rw [lg_entry_eq]
  generalize (lg_sl ([.int x]) ++ List.replicate (1 - (lg_sl ([.int x])).length) Slot.unset).toArray = ls at hl ⊢
  have hl : lv_has ls 1 [(0, .int x)] := hl
  refine W_Q (fun Q hQ => ?_)
  show W p l e ({ frames := 0, cells := 0, slots := 0, locals := 0 } : Room) s m ([.int x] : List Value).toArray below meth c s.heap [] 0 0 Q (F0 m 0 ls [])
  refine lv_iload_n hx hb dX5_isAgent_0 rfl (lv_at hl 0 rfl) ?_
  refine lv_if_lt (tgt := 13) hx hb dX5_isAgent_1 (by decide) (fun c1 => ?_) (fun c1 => ?_)
  ·
    refine lv_iconst (v := (nI 0)) hx hb dX5_isAgent_13 (by decide) ?_
    subst hQ
    have hfin : (nI 0) = bI (isIn 4 x) := by first | exact (congrArg bI (isIn_t c1 c6)).symm | exact (congrArg bI (isIn_f1 c1)).symm | exact (congrArg bI (isIn_f2 c6)).symm
    exact W.zret (ty := .boolean) hx hb hr (by decide) (fun t ht hW => ⟨⟨_, (), rfl, hfin, trivial⟩, hS.F ht⟩) hS.2.2 dX5_isAgent_14
  ·
    refine lv_iload_n hx hb dX5_isAgent_4 rfl (lv_at hl 0 rfl) ?_
    refine lv_iconst (v := (nI 4)) hx hb dX5_isAgent_5 (by decide) ?_
    refine lv_icmp_ge (tgt := 13) hx hb dX5_isAgent_6 (by decide) (fun c6 => ?_) (fun c6 => ?_)
    ·
      refine lv_iconst (v := (nI 0)) hx hb dX5_isAgent_13 (by decide) ?_
      subst hQ
      have hfin : (nI 0) = bI (isIn 4 x) := by first | exact (congrArg bI (isIn_t c1 c6)).symm | exact (congrArg bI (isIn_f1 c1)).symm | exact (congrArg bI (isIn_f2 c6)).symm
      exact W.zret (ty := .boolean) hx hb hr (by decide) (fun t ht hW => ⟨⟨_, (), rfl, hfin, trivial⟩, hS.F ht⟩) hS.2.2 dX5_isAgent_14
    ·
      refine lv_iconst (v := (nI 1)) hx hb dX5_isAgent_9 (by decide) ?_
      refine lv_goto (tgt := 14) hx hb dX5_isAgent_10 (by decide) ?_
      subst hQ
      have hfin : (nI 1) = bI (isIn 4 x) := by first | exact (congrArg bI (isIn_t c1 c6)).symm | exact (congrArg bI (isIn_f1 c1)).symm | exact (congrArg bI (isIn_f2 c6)).symm
      exact W.zret (ty := .boolean) hx hb hr (by decide) (fun t ht hW => ⟨⟨_, (), rfl, hfin, trivial⟩, hS.F ht⟩) hS.2.2 dX5_isAgent_14

set_option maxHeartbeats 4000000 in
set_option maxRecDepth 100000 in
theorem c_X5_areAtoms (l : Launch)    (x : Int32) : Met l yX5_areAtoms wsX5_areAtoms ({ frames := 0, cells := 0, slots := 0, locals := 0 } : Room) (va_Pc [.int x] (fun _ => True)) (va_Qi (fun r (_ : Unit) => r = bI (isIn 64 x)) (fun _ _ => True) (fun _ => False)) 0 0 (fun _ => False) := by
  refine Met.ofW (cc := cX5_areAtoms) (maxL := 1) (ret := (some .boolean)) (by decide) rfl ?_
  intro p e s m args below meth c s₁ B hml hv
  obtain ⟨rfl, -⟩ := hv
  have hx := B.exec
  have hb := B.bytes
  have hr := B.returns
  have hts := atoms_spec (ws := wsX5_areAtoms) B.pre
  have hown : s.vm.findClass RX5 = some m.cls := findClass_of_methodNamed B.named
  have hlocks := B.notSynchronized
  have hS : va_S (fun _ => False) s.heap s.heap [] := va_S.rf
  have hP : va_P ((fun _ => 0, fun _ _ => 0) : va_G) ([] : List vw_C) ([] : va_W) s.heap := fun k q h => by simp at h
  have hl := lv_entry ([.int x]) (n := 1) (Nat.le_of_ble_eq_true rfl)
  rw [lg_entry_eq]
  generalize (lg_sl ([.int x]) ++ List.replicate (1 - (lg_sl ([.int x])).length) Slot.unset).toArray = ls at hl ⊢
  have hl : lv_has ls 1 [(0, .int x)] := hl
  refine W_Q (fun Q hQ => ?_)
  show W p l e ({ frames := 0, cells := 0, slots := 0, locals := 0 } : Room) s m ([.int x] : List Value).toArray below meth c s.heap [] 0 0 Q (F0 m 0 ls [])
  refine lv_iload_n hx hb dX5_areAtoms_0 rfl (lv_at hl 0 rfl) ?_
  refine lv_if_lt (tgt := 14) hx hb dX5_areAtoms_1 (by decide) (fun c1 => ?_) (fun c1 => ?_)
  ·
    refine lv_iconst (v := (nI 0)) hx hb dX5_areAtoms_14 (by decide) ?_
    subst hQ
    have hfin : (nI 0) = bI (isIn 64 x) := by first | exact (congrArg bI (isIn_t c1 c7)).symm | exact (congrArg bI (isIn_f1 c1)).symm | exact (congrArg bI (isIn_f2 c7)).symm
    exact W.zret (ty := .boolean) hx hb hr (by decide) (fun t ht hW => ⟨⟨_, (), rfl, hfin, trivial⟩, hS.F ht⟩) hS.2.2 dX5_areAtoms_15
  ·
    refine lv_iload_n hx hb dX5_areAtoms_4 rfl (lv_at hl 0 rfl) ?_
    refine lv_bipush (v := (nI 64)) hx hb dX5_areAtoms_5 (by decide) ?_
    refine lv_icmp_ge (tgt := 14) hx hb dX5_areAtoms_7 (by decide) (fun c7 => ?_) (fun c7 => ?_)
    ·
      refine lv_iconst (v := (nI 0)) hx hb dX5_areAtoms_14 (by decide) ?_
      subst hQ
      have hfin : (nI 0) = bI (isIn 64 x) := by first | exact (congrArg bI (isIn_t c1 c7)).symm | exact (congrArg bI (isIn_f1 c1)).symm | exact (congrArg bI (isIn_f2 c7)).symm
      exact W.zret (ty := .boolean) hx hb hr (by decide) (fun t ht hW => ⟨⟨_, (), rfl, hfin, trivial⟩, hS.F ht⟩) hS.2.2 dX5_areAtoms_15
    ·
      refine lv_iconst (v := (nI 1)) hx hb dX5_areAtoms_10 (by decide) ?_
      refine lv_goto (tgt := 15) hx hb dX5_areAtoms_11 (by decide) ?_
      subst hQ
      have hfin : (nI 1) = bI (isIn 64 x) := by first | exact (congrArg bI (isIn_t c1 c7)).symm | exact (congrArg bI (isIn_f1 c1)).symm | exact (congrArg bI (isIn_f2 c7)).symm
      exact W.zret (ty := .boolean) hx hb hr (by decide) (fun t ht hW => ⟨⟨_, (), rfl, hfin, trivial⟩, hS.F ht⟩) hS.2.2 dX5_areAtoms_15

set_option maxHeartbeats 4000000 in
set_option maxRecDepth 100000 in
theorem c_X5_isGroup (l : Launch)    (x : Int32) : Met l yX5_isGroup wsX5_isGroup ({ frames := 0, cells := 0, slots := 0, locals := 0 } : Room) (va_Pc [.int x] (fun _ => True)) (va_Qi (fun r (_ : Unit) => r = bI (isGr x)) (fun _ _ => True) (fun _ => False)) 0 0 (fun _ => False) := by
  refine Met.ofW (cc := cX5_isGroup) (maxL := 1) (ret := (some .boolean)) (by decide) rfl ?_
  intro p e s m args below meth c s₁ B hml hv
  obtain ⟨rfl, -⟩ := hv
  have hx := B.exec
  have hb := B.bytes
  have hr := B.returns
  have hts := atoms_spec (ws := wsX5_isGroup) B.pre
  have hown : s.vm.findClass RX5 = some m.cls := findClass_of_methodNamed B.named
  have hlocks := B.notSynchronized
  have hS : va_S (fun _ => False) s.heap s.heap [] := va_S.rf
  have hP : va_P ((fun _ => 0, fun _ _ => 0) : va_G) ([] : List vw_C) ([] : va_W) s.heap := fun k q h => by simp at h
  have hl := lv_entry ([.int x]) (n := 1) (Nat.le_of_ble_eq_true rfl)
  rw [lg_entry_eq]
  generalize (lg_sl ([.int x]) ++ List.replicate (1 - (lg_sl ([.int x])).length) Slot.unset).toArray = ls at hl ⊢
  have hl : lv_has ls 1 [(0, .int x)] := hl
  refine W_Q (fun Q hQ => ?_)
  show W p l e ({ frames := 0, cells := 0, slots := 0, locals := 0 } : Room) s m ([.int x] : List Value).toArray below meth c s.heap [] 0 0 Q (F0 m 0 ls [])
  refine lv_iload_n hx hb dX5_isGroup_0 rfl (lv_at hl 0 rfl) ?_
  refine lv_iconst (v := (nI 1)) hx hb dX5_isGroup_1 (by decide) ?_
  refine lv_icmp_lt (tgt := 15) hx hb dX5_isGroup_2 (by decide) (fun c2 => ?_) (fun c2 => ?_)
  ·
    refine lv_iconst (v := (nI 0)) hx hb dX5_isGroup_15 (by decide) ?_
    subst hQ
    have hfin : (nI 0) = bI (isGr x) := by first | exact (congrArg bI (isGr_t c2 c8)).symm | exact (congrArg bI (isGr_f1 c2)).symm | exact (congrArg bI (isGr_f2 c8)).symm
    exact W.zret (ty := .boolean) hx hb hr (by decide) (fun t ht hW => ⟨⟨_, (), rfl, hfin, trivial⟩, hS.F ht⟩) hS.2.2 dX5_isGroup_16
  ·
    refine lv_iload_n hx hb dX5_isGroup_5 rfl (lv_at hl 0 rfl) ?_
    refine lv_bipush (v := (nI 16)) hx hb dX5_isGroup_6 (by decide) ?_
    refine lv_icmp_ge (tgt := 15) hx hb dX5_isGroup_8 (by decide) (fun c8 => ?_) (fun c8 => ?_)
    ·
      refine lv_iconst (v := (nI 0)) hx hb dX5_isGroup_15 (by decide) ?_
      subst hQ
      have hfin : (nI 0) = bI (isGr x) := by first | exact (congrArg bI (isGr_t c2 c8)).symm | exact (congrArg bI (isGr_f1 c2)).symm | exact (congrArg bI (isGr_f2 c8)).symm
      exact W.zret (ty := .boolean) hx hb hr (by decide) (fun t ht hW => ⟨⟨_, (), rfl, hfin, trivial⟩, hS.F ht⟩) hS.2.2 dX5_isGroup_16
    ·
      refine lv_iconst (v := (nI 1)) hx hb dX5_isGroup_11 (by decide) ?_
      refine lv_goto (tgt := 16) hx hb dX5_isGroup_12 (by decide) ?_
      subst hQ
      have hfin : (nI 1) = bI (isGr x) := by first | exact (congrArg bI (isGr_t c2 c8)).symm | exact (congrArg bI (isGr_f1 c2)).symm | exact (congrArg bI (isGr_f2 c8)).symm
      exact W.zret (ty := .boolean) hx hb hr (by decide) (fun t ht hW => ⟨⟨_, (), rfl, hfin, trivial⟩, hS.F ht⟩) hS.2.2 dX5_isGroup_16

set_option maxHeartbeats 4000000 in
set_option maxRecDepth 100000 in
theorem c_X5_isFormula (l : Launch) (D : va_G) (cs : Nat → ClassId) (b : Nat → Nat) (M : Nat → Nat → Int32)  (nf : Nat) (x : Int32) (hfc : M 0 3 = nI nf) : Met l yX5_isFormula wsX5_isFormula ({ frames := 0, cells := 0, slots := 0, locals := 0 } : Room) (va_Pc [.ref (b 0), .int x] (XB D cs (rc cs b M))) (va_Qi (fun r (_ : Unit) => r = bI (isIn nf x)) (fun _ _ => True) (fun _ => False)) 0 0 (fun _ => False) := by
  refine Met.ofW (cc := cX5_isFormula) (maxL := 2) (ret := (some .boolean)) (by decide) rfl ?_
  intro p e s m args below meth c s₁ B hml hv
  obtain ⟨rfl, hP, hK⟩ := hv
  have hx := B.exec
  have hb := B.bytes
  have hr := B.returns
  have hts := atoms_spec (ws := wsX5_isFormula) B.pre
  have hown : s.vm.findClass RX5 = some m.cls := findClass_of_methodNamed B.named
  have hlocks := B.notSynchronized
  have hK1 := hK.1
  have hinX5 : ∀ w ∈ wsX50, w ∈ wsX5_isFormula := fun w h => List.mem_cons_of_mem _ (List.mem_append_right _ h)
  have hS : va_S (fun _ => False) s.heap s.heap [] := va_S.rf
  have hl := lv_entry ([.ref (b 0), .int x]) (n := 2) (Nat.le_of_ble_eq_true rfl)
  rw [lg_entry_eq]
  generalize (lg_sl ([.ref (b 0), .int x]) ++ List.replicate (2 - (lg_sl ([.ref (b 0), .int x])).length) Slot.unset).toArray = ls at hl ⊢
  have hl : lv_has ls 2 [(0, .ref (b 0)), (1, .int x)] := hl
  refine W_Q (fun Q hQ => ?_)
  show W p l e ({ frames := 0, cells := 0, slots := 0, locals := 0 } : Room) s m ([.ref (b 0), .int x] : List Value).toArray below meth c s.heap [] 0 0 Q (F0 m 0 ls [])
  refine lv_iload_n hx hb dX5_isFormula_0 rfl (lv_at hl 1 rfl) ?_
  refine lv_if_lt (tgt := 16) hx hb dX5_isFormula_1 (by decide) (fun c1 => ?_) (fun c1 => ?_)
  ·
    refine lv_iconst (v := (nI 0)) hx hb dX5_isFormula_16 (by decide) ?_
    subst hQ
    have hfin : (nI 0) = bI (isIn nf x) := by first | exact (congrArg bI (isIn_t c1 c9)).symm | exact (congrArg bI (isIn_f1 c1)).symm | exact (congrArg bI (isIn_f2 c9)).symm
    exact W.zret (ty := .boolean) hx hb hr (by decide) (fun t ht hW => ⟨⟨_, (), rfl, hfin, trivial⟩, hS.F ht⟩) hS.2.2 dX5_isFormula_17
  ·
    refine lv_iload_n hx hb dX5_isFormula_4 rfl (lv_at hl 1 rfl) ?_
    refine lv_aload_n hx hb dX5_isFormula_5 rfl (lv_at hl 0 rfl) ?_
    refine va_get (D := D) (ci := 5) (v := .int (M 0 3)) (C := RX5) (T := TX5) (N := 15) hx hb hts hinX5 hown hK1 hP 0 rfl rfl 5 (by decide) (hts (.fieldLink RX5 51 "KnowledgeModelModel" "formulas" "I") (List.mem_of_getElem? (i := 1) rfl)) (fun _ h9 => h9) rfl dX5_isFormula_6 ?_
    refine xtop (y := nI nf) (hfc) ?_
    refine lv_icmp_ge (tgt := 16) hx hb dX5_isFormula_9 (by decide) (fun c9 => ?_) (fun c9 => ?_)
    ·
      refine lv_iconst (v := (nI 0)) hx hb dX5_isFormula_16 (by decide) ?_
      subst hQ
      have hfin : (nI 0) = bI (isIn nf x) := by first | exact (congrArg bI (isIn_t c1 c9)).symm | exact (congrArg bI (isIn_f1 c1)).symm | exact (congrArg bI (isIn_f2 c9)).symm
      exact W.zret (ty := .boolean) hx hb hr (by decide) (fun t ht hW => ⟨⟨_, (), rfl, hfin, trivial⟩, hS.F ht⟩) hS.2.2 dX5_isFormula_17
    ·
      refine lv_iconst (v := (nI 1)) hx hb dX5_isFormula_12 (by decide) ?_
      refine lv_goto (tgt := 17) hx hb dX5_isFormula_13 (by decide) ?_
      subst hQ
      have hfin : (nI 1) = bI (isIn nf x) := by first | exact (congrArg bI (isIn_t c1 c9)).symm | exact (congrArg bI (isIn_f1 c1)).symm | exact (congrArg bI (isIn_f2 c9)).symm
      exact W.zret (ty := .boolean) hx hb hr (by decide) (fun t ht hW => ⟨⟨_, (), rfl, hfin, trivial⟩, hS.F ht⟩) hS.2.2 dX5_isFormula_17

set_option maxHeartbeats 4000000 in
set_option maxRecDepth 100000 in
theorem c_X5_has (l : Launch)    (x : Int32) (i : Nat) (hi : i < 32) : Met l yX5_has wsX5_has ({ frames := 0, cells := 0, slots := 0, locals := 0 } : Room) (va_Pc [.int x, .int (nI i)] (fun _ => True)) (va_Qi (fun r (_ : Unit) => r = bI (bt x i)) (fun _ _ => True) (fun _ => False)) 0 0 (fun _ => False) := by
  refine Met.ofW (cc := cX5_has) (maxL := 2) (ret := (some .boolean)) (by decide) rfl ?_
  intro p e s m args below meth c s₁ B hml hv
  obtain ⟨rfl, -⟩ := hv
  have hx := B.exec
  have hb := B.bytes
  have hr := B.returns
  have hts := atoms_spec (ws := wsX5_has) B.pre
  have hown : s.vm.findClass RX5 = some m.cls := findClass_of_methodNamed B.named
  have hlocks := B.notSynchronized
  have hS : va_S (fun _ => False) s.heap s.heap [] := va_S.rf
  have hP : va_P ((fun _ => 0, fun _ _ => 0) : va_G) ([] : List vw_C) ([] : va_W) s.heap := fun k q h => by simp at h
  have hl := lv_entry ([.int x, .int (nI i)]) (n := 2) (Nat.le_of_ble_eq_true rfl)
  rw [lg_entry_eq]
  generalize (lg_sl ([.int x, .int (nI i)]) ++ List.replicate (2 - (lg_sl ([.int x, .int (nI i)])).length) Slot.unset).toArray = ls at hl ⊢
  have hl : lv_has ls 2 [(0, .int x), (1, .int (nI i))] := hl
  refine W_Q (fun Q hQ => ?_)
  show W p l e ({ frames := 0, cells := 0, slots := 0, locals := 0 } : Room) s m ([.int x, .int (nI i)] : List Value).toArray below meth c s.heap [] 0 0 Q (F0 m 0 ls [])
  refine lv_iload_n hx hb dX5_has_0 rfl (lv_at hl 0 rfl) ?_
  refine lv_iload_n hx hb dX5_has_1 rfl (lv_at hl 1 rfl) ?_
  refine lv_ishr hx hb dX5_has_2 ?_
  refine lv_iconst (v := (nI 1)) hx hb dX5_has_3 (by decide) ?_
  refine lv_iand hx hb dX5_has_4 ?_
  refine lv_iconst (v := (nI 1)) hx hb dX5_has_5 (by decide) ?_
  refine lv_icmp_ne (tgt := 13) hx hb dX5_has_6 (by decide) (fun c6 => ?_) (fun c6 => ?_)
  ·
    refine lv_iconst (v := (nI 0)) hx hb dX5_has_13 (by decide) ?_
    subst hQ
    have hfin : (nI 0) = bI (bt x i) := by rw [bt_1 x i hi] at c6; revert c6; cases bt x i <;> decide
    exact W.zret (ty := .boolean) hx hb hr (by decide) (fun t ht hW => ⟨⟨_, (), rfl, hfin, trivial⟩, hS.F ht⟩) hS.2.2 dX5_has_14
  ·
    refine lv_iconst (v := (nI 1)) hx hb dX5_has_9 (by decide) ?_
    refine lv_goto (tgt := 14) hx hb dX5_has_10 (by decide) ?_
    subst hQ
    have hfin : (nI 1) = bI (bt x i) := by rw [bt_1 x i hi] at c6; revert c6; cases bt x i <;> decide
    exact W.zret (ty := .boolean) hx hb hr (by decide) (fun t ht hW => ⟨⟨_, (), rfl, hfin, trivial⟩, hS.F ht⟩) hS.2.2 dX5_has_14

set_option maxHeartbeats 4000000 in
set_option maxRecDepth 100000 in
theorem c_X5_all (l : Launch) (D : va_G) (cs : Nat → ClassId) (b : Nat → Nat) (M : Nat → Nat → Int32)  (n : Nat)  (hn : M 0 1 = nI n) : Met l yX5_all wsX5_all ({ frames := 0, cells := 0, slots := 0, locals := 0 } : Room) (va_Pc [.ref (b 0)] (XB D cs (rc cs b M))) (va_Qi (fun r (_ : Unit) => r = (sg n - nI 1)) (fun _ _ => True) (fun _ => False)) 0 0 (fun _ => False) := by
  refine Met.ofW (cc := cX5_all) (maxL := 1) (ret := (some .int)) (by decide) rfl ?_
  intro p e s m args below meth c s₁ B hml hv
  obtain ⟨rfl, hP, hK⟩ := hv
  have hx := B.exec
  have hb := B.bytes
  have hr := B.returns
  have hts := atoms_spec (ws := wsX5_all) B.pre
  have hown : s.vm.findClass RX5 = some m.cls := findClass_of_methodNamed B.named
  have hlocks := B.notSynchronized
  have hK1 := hK.1
  have hinX5 : ∀ w ∈ wsX50, w ∈ wsX5_all := fun w h => List.mem_cons_of_mem _ (List.mem_append_right _ h)
  have hS : va_S (fun _ => False) s.heap s.heap [] := va_S.rf
  have hl := lv_entry ([.ref (b 0)]) (n := 1) (Nat.le_of_ble_eq_true rfl)
  rw [lg_entry_eq]
  generalize (lg_sl ([.ref (b 0)]) ++ List.replicate (1 - (lg_sl ([.ref (b 0)])).length) Slot.unset).toArray = ls at hl ⊢
  have hl : lv_has ls 1 [(0, .ref (b 0))] := hl
  refine W_Q (fun Q hQ => ?_)
  show W p l e ({ frames := 0, cells := 0, slots := 0, locals := 0 } : Room) s m ([.ref (b 0)] : List Value).toArray below meth c s.heap [] 0 0 Q (F0 m 0 ls [])
  refine lv_iconst (v := (nI 1)) hx hb dX5_all_0 (by decide) ?_
  refine lv_aload_n hx hb dX5_all_1 rfl (lv_at hl 0 rfl) ?_
  refine va_get (D := D) (ci := 5) (v := .int (M 0 1)) (C := RX5) (T := TX5) (N := 15) hx hb hts hinX5 hown hK1 hP 0 rfl rfl 1 (by decide) (hts (.fieldLink RX5 48 "KnowledgeModelModel" "worlds" "I") (List.mem_of_getElem? (i := 1) rfl)) (fun _ h9 => h9) rfl dX5_all_2 ?_
  refine xtop (y := nI n) (hn) ?_
  refine lv_ishl hx hb dX5_all_5 ?_
  refine lv_iconst (v := (nI 1)) hx hb dX5_all_6 (by decide) ?_
  refine lv_isub hx hb dX5_all_7 ?_
  subst hQ
  have hfin : (((nI 1) <<< ((nI n) &&& 31)) - (nI 1)) = (sg n - nI 1) := by rfl
  exact W.iret hx hb hr (fun t ht hW => ⟨⟨_, (), rfl, hfin, trivial⟩, hS.F ht⟩) hS.2.2 dX5_all_8

set_option maxHeartbeats 4000000 in
set_option maxRecDepth 100000 in
theorem c_X5_thrown (l : Launch) (D : va_G) (cs : Nat → ClassId) (b : Nat → Nat) (M : Nat → Nat → Int32)    : Met l yX5_thrown wsX5_thrown ({ frames := 0, cells := 0, slots := 0, locals := 0 } : Room) (va_Pc [.ref (b 0)] (XB D cs (rc cs b M))) (va_Qi (fun r (_ : Unit) => r = M 0 0) (fun _ _ => True) (fun _ => False)) 0 0 (fun _ => False) := by
  refine Met.ofW (cc := cX5_thrown) (maxL := 1) (ret := (some .int)) (by decide) rfl ?_
  intro p e s m args below meth c s₁ B hml hv
  obtain ⟨rfl, hP, hK⟩ := hv
  have hx := B.exec
  have hb := B.bytes
  have hr := B.returns
  have hts := atoms_spec (ws := wsX5_thrown) B.pre
  have hown : s.vm.findClass RX5 = some m.cls := findClass_of_methodNamed B.named
  have hlocks := B.notSynchronized
  have hK1 := hK.1
  have hinX5 : ∀ w ∈ wsX50, w ∈ wsX5_thrown := fun w h => List.mem_cons_of_mem _ (List.mem_append_right _ h)
  have hS : va_S (fun _ => False) s.heap s.heap [] := va_S.rf
  have hl := lv_entry ([.ref (b 0)]) (n := 1) (Nat.le_of_ble_eq_true rfl)
  rw [lg_entry_eq]
  generalize (lg_sl ([.ref (b 0)]) ++ List.replicate (1 - (lg_sl ([.ref (b 0)])).length) Slot.unset).toArray = ls at hl ⊢
  have hl : lv_has ls 1 [(0, .ref (b 0))] := hl
  refine W_Q (fun Q hQ => ?_)
  show W p l e ({ frames := 0, cells := 0, slots := 0, locals := 0 } : Room) s m ([.ref (b 0)] : List Value).toArray below meth c s.heap [] 0 0 Q (F0 m 0 ls [])
  refine lv_aload_n hx hb dX5_thrown_0 rfl (lv_at hl 0 rfl) ?_
  refine va_get (D := D) (ci := 5) (v := .int (M 0 0)) (C := RX5) (T := TX5) (N := 15) hx hb hts hinX5 hown hK1 hP 0 rfl rfl 0 (by decide) (hts (.fieldLink RX5 44 "KnowledgeModelModel" "thrown" "I") (List.mem_of_getElem? (i := 1) rfl)) (fun _ h9 => h9) rfl dX5_thrown_1 ?_
  subst hQ
  have hfin : (M 0 0) = M 0 0 := by rfl
  exact W.iret hx hb hr (fun t ht hW => ⟨⟨_, (), rfl, hfin, trivial⟩, hS.F ht⟩) hS.2.2 dX5_thrown_4

def stepR (M : Nat → Nat → Int32) (n : Nat) (g fm : Int32) : Int32 := fo (fun i r => fo (fun w r => if bt g i && bt fm w then r ||| M 2 (24 * i + w) else r) r n) (nI 0) 4
def everyR (M : Nat → Nat → Int32) (n : Nat) (g : Int32) (w : Nat) : Int32 := fo (fun i r => if bt g i then r &&& M 2 (24 * i + w) else r) (sg n - nI 1) 4
def reachY (M : Nat → Nat → Int32) (n : Nat) (g y0 wi : Int32) (k : Nat) : Int32 := fo (fun _ y => y ||| (stepR M n g y &&& wi)) y0 k
def reachX (M : Nat → Nat → Int32) (n : Nat) (g y0 wi : Int32) : Nat → Int32 | 0 => nI 0 | k + 1 => reachY M n g y0 wi k
def reachR (M : Nat → Nat → Int32) (n : Nat) (g : Int32) (fr : Nat) (wi : Int32) : Int32 := reachY M n g (stepR M n g (sg fr) &&& wi) wi 33
theorem reachXY {M : Nat → Nat → Int32} {n : Nat} {g y0 wi : Int32} (k i : Nat) (h : bt (reachX M n g y0 wi k) i = true) : bt (reachY M n g y0 wi k) i = true := by
  cases k with
  | zero => rw [show reachX M n g y0 wi 0 = nI 0 from rfl, bt_n0] at h; cases h
  | succ k =>
    show bt (reachY M n g y0 wi k ||| _) i = true
    rw [b_or, show bt (reachY M n g y0 wi k) i = true from h, Bool.true_or]
theorem reach_grow {M : Nat → Nat → Int32} {n : Nat} {g y0 wi : Int32} {k : Nat} (h : ¬ reachY M n g y0 wi k = reachX M n g y0 wi k) : fb_ct (bt (reachX M n g y0 wi k)) 32 + 1 ≤ fb_ct (bt (reachX M n g y0 wi (k + 1))) 32 := by
  show _ ≤ fb_ct (bt (reachY M n g y0 wi k)) 32
  have h1 : fb_ct (bt (reachX M n g y0 wi k)) 32 ≤ fb_ct (bt (reachY M n g y0 wi k)) 32 := fb_ct_sub (fun i _ q => reachXY k i q)
  rcases Nat.lt_or_ge (fb_ct (bt (reachX M n g y0 wi k)) 32) (fb_ct (bt (reachY M n g y0 wi k)) 32) with q | q
  · exact q
  · exfalso
    apply h
    apply b_ext
    intro i hi
    cases hb : bt (reachX M n g y0 wi k) i with
    | true => rw [reachXY k i hb]
    | false =>
      cases hc : bt (reachY M n g y0 wi k) i with
      | false => rfl
      | true =>
        have h2 := fb_ct_upd (bt (reachX M n g y0 wi k)) true hi
        rw [hb] at h2
        have h3 : fb_ct (fun z => if z = i then true else bt (reachX M n g y0 wi k) z) 32 ≤ fb_ct (bt (reachY M n g y0 wi k)) 32 := fb_ct_sub (fun z _ hz => by
          by_cases e : z = i
          · rw [e]; exact hc
          · rw [if_neg e] at hz; exact reachXY k z hz)
        simp only [Bool.false_eq_true, if_false, if_true] at h2
        omega
theorem stepR_0 {M : Nat → Nat → Int32} {n : Nat} {g : Int32} : stepR M n g (nI 0) = nI 0 := fo_id (fun i _ r => fo_id (fun w _ r => by rw [bt_n0, Bool.and_false]; rfl))
theorem reach_end {M : Nat → Nat → Int32} {n : Nat} {g y0 wi : Int32} {k : Nat} (hk : k ≤ 33) (h : reachY M n g y0 wi k = reachX M n g y0 wi k) : reachX M n g y0 wi k = reachY M n g y0 wi 33 := by
  rw [← h]
  refine (fo_fixn (fun y => y ||| (stepR M n g y &&& wi)) y0 hk ?_).symm
  show reachY M n g y0 wi k ||| (stepR M n g (reachY M n g y0 wi k) &&& wi) = reachY M n g y0 wi k
  cases k with
  | zero =>
    have h0 : reachY M n g y0 wi 0 = nI 0 := h
    rw [h0, stepR_0]
    apply b_ext
    intro i _
    rw [b_or, b_and, bt_n0]; rfl
  | succ k =>
    have h0 : reachY M n g y0 wi (k + 1) = reachY M n g y0 wi k := h
    have h1 : reachY M n g y0 wi (k + 1) = reachY M n g y0 wi k ||| (stepR M n g (reachY M n g y0 wi k) &&& wi) := rfl
    rw [h0, ← h1, h0]

set_option maxHeartbeats 4000000 in
set_option maxRecDepth 100000 in
theorem c_X5_step (l : Launch) (D : va_G) (cs : Nat → ClassId) (b : Nat → Nat) (M : Nat → Nat → Int32)  (n : Nat) (g : Int32) (fm : Int32) (hn : M 0 1 = nI n) (hn24 : n ≤ 24) : Met l yX5_step wsX5_step ({ frames := 1, cells := 0, slots := 0, locals := 21 } : Room) (va_Pc [.ref (b 0), .int g, .int fm] (XB D cs (rc cs b M))) (va_Qi (fun r (_ : Unit) => r = stepR M n g fm) (fun _ _ => True) (fun _ => False)) 0 0 (fun _ => False) := by
  refine Met.ofW (cc := cX5_step) (maxL := 6) (ret := (some .int)) (by decide) rfl ?_
  intro p e s m args below meth c s₁ B hml hv
  obtain ⟨rfl, hP, hK⟩ := hv
  have hx := B.exec
  have hb := B.bytes
  have hr := B.returns
  have hts := atoms_spec (ws := wsX5_step) B.pre
  have hown : s.vm.findClass RX5 = some m.cls := findClass_of_methodNamed B.named
  have hlocks := B.notSynchronized
  have hK1 := hK.1
  have hinX5 : ∀ w ∈ wsX50, w ∈ wsX5_step := fun w h => List.mem_cons_of_mem _ (List.mem_append_right _ h)
  have hS : va_S (fun _ => False) s.heap s.heap [] := va_S.rf
  have hl := lv_entry ([.ref (b 0), .int g, .int fm]) (n := 6) (Nat.le_of_ble_eq_true rfl)
  rw [lg_entry_eq]
  generalize (lg_sl ([.ref (b 0), .int g, .int fm]) ++ List.replicate (6 - (lg_sl ([.ref (b 0), .int g, .int fm])).length) Slot.unset).toArray = ls at hl ⊢
  have hl : lv_has ls 6 [(0, .ref (b 0)), (1, .int g), (2, .int fm)] := hl
  refine W_Q (fun Q hQ => ?_)
  show W p l e ({ frames := 1, cells := 0, slots := 0, locals := 21 } : Room) s m ([.ref (b 0), .int g, .int fm] : List Value).toArray below meth c s.heap [] 0 0 Q (F0 m 0 ls [])
  refine lv_iconst (v := (nI 0)) hx hb dX5_step_0 (by decide) ?_
  refine lv_istore_n (lv' := [(3, .int (nI 0)), (0, .ref (b 0)), (1, .int g), (2, .int fm)]) hx hb dX5_step_1 rfl hl (by decide) rfl (fun ls hl => ?_)
  refine lv_iconst (v := (nI 0)) hx hb dX5_step_2 (by decide) ?_
  refine lv_istore (lv' := [(4, .int (nI 0)), (3, .int (nI 0)), (0, .ref (b 0)), (1, .int g), (2, .int fm)]) hx hb dX5_step_3 hl (by decide) rfl (fun ls hl => ?_)
  have cut5 : ∀ (f5 : Nat) (q : Nat) (hq : q ≤ 4), 4 + 1 ≤ q + f5 → ∀ (H : Heap) (locs : List Loc), va_P D vwCl (rc cs b M) H → va_S (fun _ => False) s.heap H locs → ∀ (ls : Array Slot), lv_has ls 6 [(0, .ref (b 0)), (1, .int g), (2, .int fm), (3, .int (fo (fun i r => fo (fun w r => if bt g i && bt fm w then r ||| M 2 (24 * i + w) else r) r n) (nI 0) q)), (4, .int (nI q))] → W p l e ({ frames := 1, cells := 0, slots := 0, locals := 21 } : Room) s m ([.ref (b 0), .int g, .int fm] : List Value).toArray below meth c H locs 0 0 Q (F0 m 5 ls []) := by
    intro f5
    induction f5 with
    | zero => intro q hq hfu5; exact absurd hfu5 (by omega)
    | succ f5 cut5 =>
      intro q hq hfu5 H locs hP hS ls hl
      refine lv_iload hx hb dX5_step_5 (lv_at hl 4 rfl) ?_
      refine lv_iconst (v := (nI 4)) hx hb dX5_step_7 (by decide) ?_
      refine lv_icmp_ge (tgt := 69) hx hb dX5_step_8 (by decide) (fun c8 => ?_) (fun c8 => ?_)
      ·
        replace c8 : 4 ≤ q := k_get c8 (by omega) (by omega)
        refine lv_iload_n hx hb dX5_step_69 rfl (lv_at hl 3 rfl) ?_
        subst hQ
        have hfin : (fo (fun i r => fo (fun w r => if bt g i && bt fm w then r ||| M 2 (24 * i + w) else r) r n) (nI 0) q) = stepR M n g fm := by (have hqe : q = 4 := by omega); subst hqe; rfl
        exact W.iret hx hb hr (fun t ht hW => ⟨⟨_, (), rfl, hfin, trivial⟩, hS.F ht⟩) hS.2.2 dX5_step_70
      ·
        replace c8 : q < 4 := k_gef c8 (by omega) (by omega)
        refine lv_iconst (v := (nI 0)) hx hb dX5_step_11 (by decide) ?_
        refine lv_istore (lv' := [(5, .int (nI 0)), (0, .ref (b 0)), (1, .int g), (2, .int fm), (3, .int (fo (fun i r => fo (fun w r => if bt g i && bt fm w then r ||| M 2 (24 * i + w) else r) r n) (nI 0) q)), (4, .int (nI q))]) hx hb dX5_step_12 hl (by decide) rfl (fun ls hl => ?_)
        have cut14 : ∀ (f14 : Nat) (j : Nat) (hj : j ≤ n), n + 1 ≤ j + f14 → ∀ (H : Heap) (locs : List Loc), va_P D vwCl (rc cs b M) H → va_S (fun _ => False) s.heap H locs → ∀ (ls : Array Slot), lv_has ls 6 [(0, .ref (b 0)), (1, .int g), (2, .int fm), (3, .int (fo (fun w r => if bt g q && bt fm w then r ||| M 2 (24 * q + w) else r) (fo (fun i r => fo (fun w r => if bt g i && bt fm w then r ||| M 2 (24 * i + w) else r) r n) (nI 0) q) j)), (4, .int (nI q)), (5, .int (nI j))] → W p l e ({ frames := 1, cells := 0, slots := 0, locals := 21 } : Room) s m ([.ref (b 0), .int g, .int fm] : List Value).toArray below meth c H locs 0 0 Q (F0 m 14 ls []) := by
          intro f14
          induction f14 with
          | zero => intro j hj hfu14; exact absurd hfu14 (by omega)
          | succ f14 cut14 =>
            intro j hj hfu14 H locs hP hS ls hl
            refine lv_iload hx hb dX5_step_14 (lv_at hl 5 rfl) ?_
            refine lv_aload_n hx hb dX5_step_16 rfl (lv_at hl 0 rfl) ?_
            refine va_get (D := D) (ci := 5) (v := .int (M 0 1)) (C := RX5) (T := TX5) (N := 15) hx hb hts hinX5 hown hK1 hP 0 rfl rfl 1 (by decide) (hts (.fieldLink RX5 48 "KnowledgeModelModel" "worlds" "I") (List.mem_of_getElem? (i := 1) rfl)) (fun _ h9 => h9) rfl dX5_step_17 ?_
            refine xtop (y := nI n) (hn) ?_
            refine lv_icmp_ge (tgt := 63) hx hb dX5_step_20 (by decide) (fun c20 => ?_) (fun c20 => ?_)
            ·
              replace c20 : n ≤ j := k_get c20 (by omega) (by omega)
              refine lv_iinc (v := (nI (q + 1))) (lv' := [(4, .int (nI (q + 1))), (0, .ref (b 0)), (1, .int g), (2, .int fm), (3, .int (fo (fun w r => if bt g q && bt fm w then r ||| M 2 (24 * q + w) else r) (fo (fun i r => fo (fun w r => if bt g i && bt fm w then r ||| M 2 (24 * i + w) else r) r n) (nI 0) q) j)), (5, .int (nI j))]) hx hb dX5_step_63 hl (k := 4) rfl (nI_add q 1) (by decide) rfl (fun ls hl => ?_)
              refine lv_goto (tgt := 5) hx hb dX5_step_66 (by decide) ?_
              have e_1 : (fo (fun w r => if bt g q && bt fm w then r ||| M 2 (24 * q + w) else r) (fo (fun i r => fo (fun w r => if bt g i && bt fm w then r ||| M 2 (24 * i + w) else r) r n) (nI 0) q) j) = (fo (fun i r => fo (fun w r => if bt g i && bt fm w then r ||| M 2 (24 * i + w) else r) r n) (nI 0) (q + 1)) := by rw [fo_s]; first | ((have hje : j = n := by omega); subst hje; rfl) | (rw [fo_id (n := n) (fun w _ r => by rw [c29, Bool.false_and]; rfl), fo_id (n := j) (fun w _ r => by rw [c29, Bool.false_and]; rfl)])
              exact cut5 (q + 1) (by omega) (by omega) _ _ hP hS ls (lcons (lcons (lcons (lcons (lcons (lzero hl) hl 0 rfl rfl) hl 4 rfl (congrArg Value.int e_1)) hl 3 rfl rfl) hl 2 rfl rfl) hl 1 rfl rfl)
            ·
              replace c20 : j < n := k_gef c20 (by omega) (by omega)
              refine lv_iload_n hx hb dX5_step_23 rfl (lv_at hl 1 rfl) ?_
              refine lv_iload hx hb dX5_step_24 (lv_at hl 4 rfl) ?_
              refine xcalli (va_runS (As := [.int g, .int (nI q)]) (rest := []) ⟨hx, hb, hml, hown, hts⟩ (c_X5_has l g q (by omega)) (va_cwS 2 hts gX5_step_X5_has rfl rfl rfl (by decide +kernel) ⟨Nat.le_of_ble_eq_true rfl, Nat.le_of_ble_eq_true rfl⟩) xpreN rfl rfl hl.1 rfl (lv_room (Nat.le_of_ble_eq_true rfl)) dX5_step_26 ⟨Nat.le_of_ble_eq_true rfl, Nat.le_of_ble_eq_true rfl⟩) hS hP (fun H locs hP hS => ?_)
              refine lv_if_eq (tgt := 63) hx hb dX5_step_29 (by decide) (fun c29 => ?_) (fun c29 => ?_)
              ·
                replace c29 := bI_0 c29
                refine lv_iinc (v := (nI (q + 1))) (lv' := [(4, .int (nI (q + 1))), (0, .ref (b 0)), (1, .int g), (2, .int fm), (3, .int (fo (fun w r => if bt g q && bt fm w then r ||| M 2 (24 * q + w) else r) (fo (fun i r => fo (fun w r => if bt g i && bt fm w then r ||| M 2 (24 * i + w) else r) r n) (nI 0) q) j)), (5, .int (nI j))]) hx hb dX5_step_63 hl (k := 4) rfl (nI_add q 1) (by decide) rfl (fun ls hl => ?_)
                refine lv_goto (tgt := 5) hx hb dX5_step_66 (by decide) ?_
                have e_2 : (fo (fun w r => if bt g q && bt fm w then r ||| M 2 (24 * q + w) else r) (fo (fun i r => fo (fun w r => if bt g i && bt fm w then r ||| M 2 (24 * i + w) else r) r n) (nI 0) q) j) = (fo (fun i r => fo (fun w r => if bt g i && bt fm w then r ||| M 2 (24 * i + w) else r) r n) (nI 0) (q + 1)) := by rw [fo_s]; first | ((have hje : j = n := by omega); subst hje; rfl) | (rw [fo_id (n := n) (fun w _ r => by rw [c29, Bool.false_and]; rfl), fo_id (n := j) (fun w _ r => by rw [c29, Bool.false_and]; rfl)])
                exact cut5 (q + 1) (by omega) (by omega) _ _ hP hS ls (lcons (lcons (lcons (lcons (lcons (lzero hl) hl 0 rfl rfl) hl 4 rfl (congrArg Value.int e_2)) hl 3 rfl rfl) hl 2 rfl rfl) hl 1 rfl rfl)
              ·
                replace c29 := bI_n0 c29
                refine lv_iload_n hx hb dX5_step_32 rfl (lv_at hl 2 rfl) ?_
                refine lv_iload hx hb dX5_step_33 (lv_at hl 5 rfl) ?_
                refine xcalli (va_runS (As := [.int fm, .int (nI j)]) (rest := []) ⟨hx, hb, hml, hown, hts⟩ (c_X5_has l fm j (by omega)) (va_cwS 2 hts gX5_step_X5_has rfl rfl rfl (by decide +kernel) ⟨Nat.le_of_ble_eq_true rfl, Nat.le_of_ble_eq_true rfl⟩) xpreN rfl rfl hl.1 rfl (lv_room (Nat.le_of_ble_eq_true rfl)) dX5_step_35 ⟨Nat.le_of_ble_eq_true rfl, Nat.le_of_ble_eq_true rfl⟩) hS hP (fun H locs hP hS => ?_)
                refine lv_if_eq (tgt := 57) hx hb dX5_step_38 (by decide) (fun c38 => ?_) (fun c38 => ?_)
                ·
                  replace c38 := bI_0 c38
                  refine lv_iinc (v := (nI (j + 1))) (lv' := [(5, .int (nI (j + 1))), (0, .ref (b 0)), (1, .int g), (2, .int fm), (3, .int (fo (fun w r => if bt g q && bt fm w then r ||| M 2 (24 * q + w) else r) (fo (fun i r => fo (fun w r => if bt g i && bt fm w then r ||| M 2 (24 * i + w) else r) r n) (nI 0) q) j)), (4, .int (nI q))]) hx hb dX5_step_57 hl (k := 5) rfl (nI_add j 1) (by decide) rfl (fun ls hl => ?_)
                  refine lv_goto (tgt := 14) hx hb dX5_step_60 (by decide) ?_
                  have e_3 : (fo (fun w r => if bt g q && bt fm w then r ||| M 2 (24 * q + w) else r) (fo (fun i r => fo (fun w r => if bt g i && bt fm w then r ||| M 2 (24 * i + w) else r) r n) (nI 0) q) j) = (fo (fun w r => if bt g q && bt fm w then r ||| M 2 (24 * q + w) else r) (fo (fun i r => fo (fun w r => if bt g i && bt fm w then r ||| M 2 (24 * i + w) else r) r n) (nI 0) q) (j + 1)) := by first | (rw [fo_s, if_neg (by rw [c29, c38]; exact Bool.false_ne_true)]; done) | (rw [fo_s, if_pos (by rw [c29, c38]; rfl)]; simp only [fo_0, c20, c29, c38])
                  exact cut14 (j + 1) (by omega) (by omega) _ _ hP hS ls (lcons (lcons (lcons (lcons (lcons (lcons (lzero hl) hl 0 rfl rfl) hl 5 rfl rfl) hl 4 rfl (congrArg Value.int e_3)) hl 3 rfl rfl) hl 2 rfl rfl) hl 1 rfl rfl)
                ·
                  replace c38 := bI_n0 c38
                  refine lv_iload_n hx hb dX5_step_41 rfl (lv_at hl 3 rfl) ?_
                  refine lv_aload_n hx hb dX5_step_42 rfl (lv_at hl 0 rfl) ?_
                  refine va_get (D := D) (ci := 5) (v := .ref (b 2)) (C := RX5) (T := TX5) (N := 15) hx hb hts hinX5 hown hK1 hP 0 rfl rfl 4 (by decide) (hts (.fieldLink RX5 13 "KnowledgeModelModel" "seen" "[I") (List.mem_of_getElem? (i := 2) rfl)) (fun _ h9 => h9) rfl dX5_step_43 ?_
                  refine lv_bipush (v := (nI 24)) hx hb dX5_step_46 (by decide) ?_
                  refine lv_iload hx hb dX5_step_48 (lv_at hl 4 rfl) ?_
                  refine ximul hx hb dX5_step_50 ?_
                  refine lv_iload hx hb dX5_step_51 (lv_at hl 5 rfl) ?_
                  refine xiadd hx hb dX5_step_53 ?_
                  refine xiald (j := (24 * q) + j) (q0 := 2) (t0 := 0) hx hb hK1 hP rfl rfl (by omega) (by decide) dX5_step_54 ?_
                  refine lv_ior hx hb dX5_step_55 ?_
                  refine lv_topi (fun x_4 hx_4 => ?_)
                  refine lv_istore_n (lv' := [(3, .int x_4), (0, .ref (b 0)), (1, .int g), (2, .int fm), (4, .int (nI q)), (5, .int (nI j))]) hx hb dX5_step_56 rfl hl (by decide) rfl (fun ls hl => ?_)
                  refine lv_iinc (v := (nI (j + 1))) (lv' := [(5, .int (nI (j + 1))), (3, .int x_4), (0, .ref (b 0)), (1, .int g), (2, .int fm), (4, .int (nI q))]) hx hb dX5_step_57 hl (k := 5) rfl (nI_add j 1) (by decide) rfl (fun ls hl => ?_)
                  refine lv_goto (tgt := 14) hx hb dX5_step_60 (by decide) ?_
                  have e_5 : x_4 = (fo (fun w r => if bt g q && bt fm w then r ||| M 2 (24 * q + w) else r) (fo (fun i r => fo (fun w r => if bt g i && bt fm w then r ||| M 2 (24 * i + w) else r) r n) (nI 0) q) (j + 1)) := by first | (rw [fo_s, if_neg (by rw [c29, c38]; exact Bool.false_ne_true)]; done) | (rw [fo_s, if_pos (by rw [c29, c38]; rfl)]; simp only [fo_0, c20, c29, c38, hx_4])
                  exact cut14 (j + 1) (by omega) (by omega) _ _ hP hS ls (lcons (lcons (lcons (lcons (lcons (lcons (lzero hl) hl 0 rfl rfl) hl 5 rfl rfl) hl 1 rfl (congrArg Value.int e_5)) hl 4 rfl rfl) hl 3 rfl rfl) hl 2 rfl rfl)
        have e_6 : (fo (fun i r => fo (fun w r => if bt g i && bt fm w then r ||| M 2 (24 * i + w) else r) r n) (nI 0) q) = (fo (fun w r => if bt g q && bt fm w then r ||| M 2 (24 * q + w) else r) (fo (fun i r => fo (fun w r => if bt g i && bt fm w then r ||| M 2 (24 * i + w) else r) r n) (nI 0) q) 0) := by rfl
        exact cut14 (n + 1) 0 (by omega) (by omega) _ _ hP hS ls (lcons (lcons (lcons (lcons (lcons (lcons (lzero hl) hl 0 rfl rfl) hl 5 rfl rfl) hl 4 rfl (congrArg Value.int e_6)) hl 3 rfl rfl) hl 2 rfl rfl) hl 1 rfl rfl)
  have e_7 : (nI 0) = (fo (fun i r => fo (fun w r => if bt g i && bt fm w then r ||| M 2 (24 * i + w) else r) r n) (nI 0) 0) := by first | rfl | (simp [fo_s]; done) | (simp [fo_s] <;> rfl)
  exact cut5 (4 + 1) 0 (by omega) (by omega) _ _ hP hS ls (lcons (lcons (lcons (lcons (lcons (lzero hl) hl 0 rfl rfl) hl 1 rfl (congrArg Value.int e_7)) hl 4 rfl rfl) hl 3 rfl rfl) hl 2 rfl rfl)

set_option maxHeartbeats 4000000 in
set_option maxRecDepth 100000 in
theorem c_X5_seenByAll (l : Launch) (D : va_G) (cs : Nat → ClassId) (b : Nat → Nat) (M : Nat → Nat → Int32)  (n : Nat) (g : Int32) (fr : Nat) (hfr : fr < 24) (hn : M 0 1 = nI n) : Met l yX5_seenByAll wsX5_seenByAll ({ frames := 1, cells := 0, slots := 0, locals := 21 } : Room) (va_Pc [.ref (b 0), .int g, .int (nI fr)] (XB D cs (rc cs b M))) (va_Qi (fun r (_ : Unit) => r = everyR M n g fr) (fun _ _ => True) (fun _ => False)) 0 0 (fun _ => False) := by
  refine Met.ofW (cc := cX5_seenByAll) (maxL := 5) (ret := (some .int)) (by decide) rfl ?_
  intro p e s m args below meth c s₁ B hml hv
  obtain ⟨rfl, hP, hK⟩ := hv
  have hx := B.exec
  have hb := B.bytes
  have hr := B.returns
  have hts := atoms_spec (ws := wsX5_seenByAll) B.pre
  have hown : s.vm.findClass RX5 = some m.cls := findClass_of_methodNamed B.named
  have hlocks := B.notSynchronized
  have hK1 := hK.1
  have hinX5 : ∀ w ∈ wsX50, w ∈ wsX5_seenByAll := fun w h => List.mem_cons_of_mem _ (List.mem_append_right _ h)
  have hS : va_S (fun _ => False) s.heap s.heap [] := va_S.rf
  have hl := lv_entry ([.ref (b 0), .int g, .int (nI fr)]) (n := 5) (Nat.le_of_ble_eq_true rfl)
  rw [lg_entry_eq]
  generalize (lg_sl ([.ref (b 0), .int g, .int (nI fr)]) ++ List.replicate (5 - (lg_sl ([.ref (b 0), .int g, .int (nI fr)])).length) Slot.unset).toArray = ls at hl ⊢
  have hl : lv_has ls 5 [(0, .ref (b 0)), (1, .int g), (2, .int (nI fr))] := hl
  refine W_Q (fun Q hQ => ?_)
  show W p l e ({ frames := 1, cells := 0, slots := 0, locals := 21 } : Room) s m ([.ref (b 0), .int g, .int (nI fr)] : List Value).toArray below meth c s.heap [] 0 0 Q (F0 m 0 ls [])
  refine lv_aload_n hx hb dX5_seenByAll_0 rfl (lv_at hl 0 rfl) ?_
  refine xcalli (va_runV (As := []) (rest := []) ⟨hx, hb, hml, hown, hts⟩ (c_X5_all l D cs b M n hn) (cwV 0 hts gX5_seenByAll_X5_all rfl rfl rfl (by decide +kernel) ⟨Nat.le_of_ble_eq_true rfl, Nat.le_of_ble_eq_true rfl⟩) (xpreV hP hK (ci := 5) 0 rfl rfl) rfl rfl hl.1 rfl (lv_room (Nat.le_of_ble_eq_true rfl)) dX5_seenByAll_1 ⟨Nat.le_of_ble_eq_true rfl, Nat.le_of_ble_eq_true rfl⟩) hS hP (fun H locs hP hS => ?_)
  refine lv_topi (fun x_1 hx_1 => ?_)
  refine lv_istore_n (lv' := [(3, .int x_1), (0, .ref (b 0)), (1, .int g), (2, .int (nI fr))]) hx hb dX5_seenByAll_4 rfl hl (by decide) rfl (fun ls hl => ?_)
  refine lv_iconst (v := (nI 0)) hx hb dX5_seenByAll_5 (by decide) ?_
  refine lv_istore (lv' := [(4, .int (nI 0)), (3, .int x_1), (0, .ref (b 0)), (1, .int g), (2, .int (nI fr))]) hx hb dX5_seenByAll_6 hl (by decide) rfl (fun ls hl => ?_)
  have cut8 : ∀ (f8 : Nat) (j : Nat) (hj : j ≤ 4), 4 + 1 ≤ j + f8 → ∀ (H : Heap) (locs : List Loc), va_P D vwCl (rc cs b M) H → va_S (fun _ => False) s.heap H locs → ∀ (ls : Array Slot), lv_has ls 5 [(0, .ref (b 0)), (1, .int g), (2, .int (nI fr)), (3, .int (fo (fun i r => if bt g i then r &&& M 2 (24 * i + fr) else r) (sg n - nI 1) j)), (4, .int (nI j))] → W p l e ({ frames := 1, cells := 0, slots := 0, locals := 21 } : Room) s m ([.ref (b 0), .int g, .int (nI fr)] : List Value).toArray below meth c H locs 0 0 Q (F0 m 8 ls []) := by
    intro f8
    induction f8 with
    | zero => intro j hj hfu8; exact absurd hfu8 (by omega)
    | succ f8 cut8 =>
      intro j hj hfu8 H locs hP hS ls hl
      refine lv_iload hx hb dX5_seenByAll_8 (lv_at hl 4 rfl) ?_
      refine lv_iconst (v := (nI 4)) hx hb dX5_seenByAll_10 (by decide) ?_
      refine lv_icmp_ge (tgt := 44) hx hb dX5_seenByAll_11 (by decide) (fun c11 => ?_) (fun c11 => ?_)
      ·
        replace c11 : 4 ≤ j := k_get c11 (by omega) (by omega)
        refine lv_iload_n hx hb dX5_seenByAll_44 rfl (lv_at hl 3 rfl) ?_
        subst hQ
        have hfin : (fo (fun i r => if bt g i then r &&& M 2 (24 * i + fr) else r) (sg n - nI 1) j) = everyR M n g fr := by (have hje : j = 4 := by omega); subst hje; rfl
        exact W.iret hx hb hr (fun t ht hW => ⟨⟨_, (), rfl, hfin, trivial⟩, hS.F ht⟩) hS.2.2 dX5_seenByAll_45
      ·
        replace c11 : j < 4 := k_gef c11 (by omega) (by omega)
        refine lv_iload_n hx hb dX5_seenByAll_14 rfl (lv_at hl 1 rfl) ?_
        refine lv_iload hx hb dX5_seenByAll_15 (lv_at hl 4 rfl) ?_
        refine xcalli (va_runS (As := [.int g, .int (nI j)]) (rest := []) ⟨hx, hb, hml, hown, hts⟩ (c_X5_has l g j (by omega)) (va_cwS 2 hts gX5_seenByAll_X5_has rfl rfl rfl (by decide +kernel) ⟨Nat.le_of_ble_eq_true rfl, Nat.le_of_ble_eq_true rfl⟩) xpreN rfl rfl hl.1 rfl (lv_room (Nat.le_of_ble_eq_true rfl)) dX5_seenByAll_17 ⟨Nat.le_of_ble_eq_true rfl, Nat.le_of_ble_eq_true rfl⟩) hS hP (fun H locs hP hS => ?_)
        refine lv_if_eq (tgt := 38) hx hb dX5_seenByAll_20 (by decide) (fun c20 => ?_) (fun c20 => ?_)
        ·
          replace c20 := bI_0 c20
          refine lv_iinc (v := (nI (j + 1))) (lv' := [(4, .int (nI (j + 1))), (0, .ref (b 0)), (1, .int g), (2, .int (nI fr)), (3, .int (fo (fun i r => if bt g i then r &&& M 2 (24 * i + fr) else r) (sg n - nI 1) j))]) hx hb dX5_seenByAll_38 hl (k := 4) rfl (nI_add j 1) (by decide) rfl (fun ls hl => ?_)
          refine lv_goto (tgt := 8) hx hb dX5_seenByAll_41 (by decide) ?_
          have e_2 : (fo (fun i r => if bt g i then r &&& M 2 (24 * i + fr) else r) (sg n - nI 1) j) = (fo (fun i r => if bt g i then r &&& M 2 (24 * i + fr) else r) (sg n - nI 1) (j + 1)) := by first | rfl | (simp [fo_s, c11, c20]; done) | (simp [fo_s, c11, c20] <;> rfl)
          exact cut8 (j + 1) (by omega) (by omega) _ _ hP hS ls (lcons (lcons (lcons (lcons (lcons (lzero hl) hl 0 rfl rfl) hl 4 rfl (congrArg Value.int e_2)) hl 3 rfl rfl) hl 2 rfl rfl) hl 1 rfl rfl)
        ·
          replace c20 := bI_n0 c20
          refine lv_iload_n hx hb dX5_seenByAll_23 rfl (lv_at hl 3 rfl) ?_
          refine lv_aload_n hx hb dX5_seenByAll_24 rfl (lv_at hl 0 rfl) ?_
          refine va_get (D := D) (ci := 5) (v := .ref (b 2)) (C := RX5) (T := TX5) (N := 15) hx hb hts hinX5 hown hK1 hP 0 rfl rfl 4 (by decide) (hts (.fieldLink RX5 13 "KnowledgeModelModel" "seen" "[I") (List.mem_of_getElem? (i := 1) rfl)) (fun _ h9 => h9) rfl dX5_seenByAll_25 ?_
          refine lv_bipush (v := (nI 24)) hx hb dX5_seenByAll_28 (by decide) ?_
          refine lv_iload hx hb dX5_seenByAll_30 (lv_at hl 4 rfl) ?_
          refine ximul hx hb dX5_seenByAll_32 ?_
          refine lv_iload_n hx hb dX5_seenByAll_33 rfl (lv_at hl 2 rfl) ?_
          refine xiadd hx hb dX5_seenByAll_34 ?_
          refine xiald (j := (24 * j) + fr) (q0 := 2) (t0 := 0) hx hb hK1 hP rfl rfl (by omega) (by decide) dX5_seenByAll_35 ?_
          refine lv_iand hx hb dX5_seenByAll_36 ?_
          refine lv_topi (fun x_3 hx_3 => ?_)
          refine lv_istore_n (lv' := [(3, .int x_3), (0, .ref (b 0)), (1, .int g), (2, .int (nI fr)), (4, .int (nI j))]) hx hb dX5_seenByAll_37 rfl hl (by decide) rfl (fun ls hl => ?_)
          refine lv_iinc (v := (nI (j + 1))) (lv' := [(4, .int (nI (j + 1))), (3, .int x_3), (0, .ref (b 0)), (1, .int g), (2, .int (nI fr))]) hx hb dX5_seenByAll_38 hl (k := 4) rfl (nI_add j 1) (by decide) rfl (fun ls hl => ?_)
          refine lv_goto (tgt := 8) hx hb dX5_seenByAll_41 (by decide) ?_
          have e_4 : x_3 = (fo (fun i r => if bt g i then r &&& M 2 (24 * i + fr) else r) (sg n - nI 1) (j + 1)) := by first | rfl | (simp [fo_s, c11, c20, hx_3]; done) | (simp [fo_s, c11, c20, hx_3] <;> rfl)
          exact cut8 (j + 1) (by omega) (by omega) _ _ hP hS ls (lcons (lcons (lcons (lcons (lcons (lzero hl) hl 0 rfl rfl) hl 1 rfl (congrArg Value.int e_4)) hl 4 rfl rfl) hl 3 rfl rfl) hl 2 rfl rfl)
  have e_5 : x_1 = (fo (fun i r => if bt g i then r &&& M 2 (24 * i + fr) else r) (sg n - nI 1) 0) := by first | rfl | (simp [fo_s, hx_1]; done) | (simp [fo_s, hx_1] <;> rfl)
  exact cut8 (4 + 1) 0 (by omega) (by omega) _ _ hP hS ls (lcons (lcons (lcons (lcons (lcons (lzero hl) hl 0 rfl rfl) hl 1 rfl (congrArg Value.int e_5)) hl 4 rfl rfl) hl 3 rfl rfl) hl 2 rfl rfl)

set_option maxHeartbeats 4000000 in
set_option maxRecDepth 100000 in
theorem c_X5_reach (l : Launch) (D : va_G) (cs : Nat → ClassId) (b : Nat → Nat) (M : Nat → Nat → Int32)  (n : Nat) (g : Int32) (fr : Nat) (wi : Int32) (hn : M 0 1 = nI n) (hn24 : n ≤ 24) : Met l yX5_reach wsX5_reach ({ frames := 2, cells := 0, slots := 0, locals := 48 } : Room) (va_Pc [.ref (b 0), .int g, .int (nI fr), .int wi] (XB D cs (rc cs b M))) (va_Qi (fun r (_ : Unit) => r = reachR M n g fr wi) (fun _ _ => True) (fun _ => False)) 0 0 (fun _ => False) := by
  refine Met.ofW (cc := cX5_reach) (maxL := 6) (ret := (some .int)) (by decide) rfl ?_
  intro p e s m args below meth c s₁ B hml hv
  obtain ⟨rfl, hP, hK⟩ := hv
  have hx := B.exec
  have hb := B.bytes
  have hr := B.returns
  have hts := atoms_spec (ws := wsX5_reach) B.pre
  have hown : s.vm.findClass RX5 = some m.cls := findClass_of_methodNamed B.named
  have hlocks := B.notSynchronized
  have hK1 := hK.1
  have hinX5 : ∀ w ∈ wsX50, w ∈ wsX5_reach := fun w h => List.mem_cons_of_mem _ (List.mem_append_right _ h)
  have hS : va_S (fun _ => False) s.heap s.heap [] := va_S.rf
  have hl := lv_entry ([.ref (b 0), .int g, .int (nI fr), .int wi]) (n := 6) (Nat.le_of_ble_eq_true rfl)
  rw [lg_entry_eq]
  generalize (lg_sl ([.ref (b 0), .int g, .int (nI fr), .int wi]) ++ List.replicate (6 - (lg_sl ([.ref (b 0), .int g, .int (nI fr), .int wi])).length) Slot.unset).toArray = ls at hl ⊢
  have hl : lv_has ls 6 [(0, .ref (b 0)), (1, .int g), (2, .int (nI fr)), (3, .int wi)] := hl
  refine W_Q (fun Q hQ => ?_)
  show W p l e ({ frames := 2, cells := 0, slots := 0, locals := 48 } : Room) s m ([.ref (b 0), .int g, .int (nI fr), .int wi] : List Value).toArray below meth c s.heap [] 0 0 Q (F0 m 0 ls [])
  refine lv_iconst (v := (nI 0)) hx hb dX5_reach_0 (by decide) ?_
  refine lv_istore (lv' := [(4, .int (nI 0)), (0, .ref (b 0)), (1, .int g), (2, .int (nI fr)), (3, .int wi)]) hx hb dX5_reach_1 hl (by decide) rfl (fun ls hl => ?_)
  refine lv_aload_n hx hb dX5_reach_3 rfl (lv_at hl 1 rfl) ?_
  refine lv_iload_n hx hb dX5_reach_4 rfl (lv_at hl 2 rfl) ?_
  refine lv_iconst (v := (nI 1)) hx hb dX5_reach_5 (by decide) ?_
  refine lv_iload_n hx hb dX5_reach_6 rfl (lv_at hl 3 rfl) ?_
  refine lv_ishl hx hb dX5_reach_7 ?_
  refine xcalli (va_runV (As := [.int g, .int ((nI 1) <<< ((nI fr) &&& 31))]) (rest := []) ⟨hx, hb, hml, hown, hts⟩ (c_X5_step l D cs b M n g ((nI 1) <<< ((nI fr) &&& 31)) hn (by omega)) (cwV 2 hts gX5_reach_X5_step rfl rfl rfl (by decide +kernel) ⟨Nat.le_of_ble_eq_true rfl, Nat.le_of_ble_eq_true rfl⟩) (xpreV hP hK (ci := 5) 0 rfl rfl) rfl rfl hl.1 rfl (lv_room (Nat.le_of_ble_eq_true rfl)) dX5_reach_8 ⟨Nat.le_of_ble_eq_true rfl, Nat.le_of_ble_eq_true rfl⟩) hS hP (fun H locs hP hS => ?_)
  refine lv_iload_n hx hb dX5_reach_11 rfl (lv_at hl 4 rfl) ?_
  refine lv_iand hx hb dX5_reach_12 ?_
  refine lv_topi (fun x_1 hx_1 => ?_)
  refine lv_istore (lv' := [(5, .int x_1), (4, .int (nI 0)), (0, .ref (b 0)), (1, .int g), (2, .int (nI fr)), (3, .int wi)]) hx hb dX5_reach_13 hl (by decide) rfl (fun ls hl => ?_)
  have cut15 : ∀ (f15 : Nat) (k : Nat) (hk : k ≤ 32) (hc : k ≤ fb_ct (bt (reachX M n g (stepR M n g (sg fr) &&& wi) wi k)) 32), 34 ≤ k + f15 → ∀ (H : Heap) (locs : List Loc), va_P D vwCl (rc cs b M) H → va_S (fun _ => False) s.heap H locs → ∀ (ls : Array Slot), lv_has ls 6 [(0, .ref (b 0)), (1, .int g), (2, .int (nI fr)), (3, .int wi), (4, .int (reachX M n g (stepR M n g (sg fr) &&& wi) wi k)), (5, .int (reachY M n g (stepR M n g (sg fr) &&& wi) wi k))] → W p l e ({ frames := 2, cells := 0, slots := 0, locals := 48 } : Room) s m ([.ref (b 0), .int g, .int (nI fr), .int wi] : List Value).toArray below meth c H locs 0 0 Q (F0 m 15 ls []) := by
    intro f15
    induction f15 with
    | zero => intro k hk hc hfu15; exact absurd hfu15 (by omega)
    | succ f15 cut15 =>
      intro k hk hc hfu15 H locs hP hS ls hl
      refine lv_iload hx hb dX5_reach_15 (lv_at hl 5 rfl) ?_
      refine lv_iload hx hb dX5_reach_17 (lv_at hl 4 rfl) ?_
      refine lv_icmp_eq (tgt := 43) hx hb dX5_reach_19 (by decide) (fun c19 => ?_) (fun c19 => ?_)
      ·
        refine lv_iload hx hb dX5_reach_43 (lv_at hl 4 rfl) ?_
        subst hQ
        have hfin : (reachX M n g (stepR M n g (sg fr) &&& wi) wi k) = reachR M n g fr wi := by exact reach_end (by omega) c19
        exact W.iret hx hb hr (fun t ht hW => ⟨⟨_, (), rfl, hfin, trivial⟩, hS.F ht⟩) hS.2.2 dX5_reach_45
      ·
        refine lv_iload hx hb dX5_reach_22 (lv_at hl 5 rfl) ?_
        refine lv_topi (fun x_2 hx_2 => ?_)
        refine lv_istore (lv' := [(4, .int x_2), (0, .ref (b 0)), (1, .int g), (2, .int (nI fr)), (3, .int wi), (5, .int (reachY M n g (stepR M n g (sg fr) &&& wi) wi k))]) hx hb dX5_reach_24 hl (by decide) rfl (fun ls hl => ?_)
        refine lv_iload hx hb dX5_reach_26 (lv_at hl 0 rfl) ?_
        refine lv_aload_n hx hb dX5_reach_28 rfl (lv_at hl 1 rfl) ?_
        refine lv_iload_n hx hb dX5_reach_29 rfl (lv_at hl 2 rfl) ?_
        refine lv_iload hx hb dX5_reach_30 (lv_at hl 0 rfl) ?_
        refine xcalli (va_runV (As := [.int g, .int x_2]) (rest := [.int x_2]) ⟨hx, hb, hml, hown, hts⟩ (c_X5_step l D cs b M n g x_2 hn (by omega)) (cwV 2 hts gX5_reach_X5_step rfl rfl rfl (by decide +kernel) ⟨Nat.le_of_ble_eq_true rfl, Nat.le_of_ble_eq_true rfl⟩) (xpreV hP hK (ci := 5) 0 rfl rfl) rfl rfl hl.1 rfl (lv_room (Nat.le_of_ble_eq_true rfl)) dX5_reach_32 ⟨Nat.le_of_ble_eq_true rfl, Nat.le_of_ble_eq_true rfl⟩) hS hP (fun H locs hP hS => ?_)
        refine lv_iload_n hx hb dX5_reach_35 rfl (lv_at hl 4 rfl) ?_
        refine lv_iand hx hb dX5_reach_36 ?_
        refine lv_ior hx hb dX5_reach_37 ?_
        refine lv_topi (fun x_3 hx_3 => ?_)
        refine lv_istore (lv' := [(5, .int x_3), (4, .int x_2), (0, .ref (b 0)), (1, .int g), (2, .int (nI fr)), (3, .int wi)]) hx hb dX5_reach_38 hl (by decide) rfl (fun ls hl => ?_)
        refine lv_goto (tgt := 15) hx hb dX5_reach_40 (by decide) ?_
        have e_4 : x_3 = (reachY M n g (stepR M n g (sg fr) &&& wi) wi (k + 1)) := by first | rfl | (simp only [fo_0, c19, hx_2, hx_3]; rfl)
        have e_5 : x_2 = (reachX M n g (stepR M n g (sg fr) &&& wi) wi (k + 1)) := by first | rfl | (simp only [fo_0, c19, hx_2, hx_3]; rfl)
        exact cut15 (k + 1) (by have h1 := reach_grow c19; have h2 := fb_ct_le (bt (reachX M n g (stepR M n g (sg fr) &&& wi) wi (k + 1))) 32; omega) (by have h1 := reach_grow c19; omega) (by omega) _ _ hP hS ls (lcons (lcons (lcons (lcons (lcons (lcons (lzero hl) hl 0 rfl (congrArg Value.int e_4)) hl 1 rfl (congrArg Value.int e_5)) hl 5 rfl rfl) hl 4 rfl rfl) hl 3 rfl rfl) hl 2 rfl rfl)
  have e_6 : x_1 = (reachY M n g (stepR M n g (sg fr) &&& wi) wi 0) := by simp only [fo_0, hx_1]; rfl
  have e_7 : (nI 0) = (reachX M n g (stepR M n g (sg fr) &&& wi) wi 0) := by rfl
  exact cut15 (34) 0 (by omega) (by omega) (by omega) _ _ hP hS ls (lcons (lcons (lcons (lcons (lcons (lcons (lzero hl) hl 0 rfl (congrArg Value.int e_6)) hl 1 rfl (congrArg Value.int e_7)) hl 5 rfl rfl) hl 4 rfl rfl) hl 3 rfl rfl) hl 2 rfl rfl)

