set_option maxHeartbeats 4000000 in
set_option maxRecDepth 100000 in
theorem c_X4_contains (l : Launch)    (x : Int32) (i : Nat) (hi : i < 32) : Met l yX4_contains wsX4_contains ({ frames := 0, cells := 0, slots := 0, locals := 0 } : Room) (va_Pc [.int x, .int (nI i)] (fun _ => True)) (va_Qi (fun r (_ : Unit) => r = bI (bt x i)) (fun _ _ => True) (fun _ => False)) 0 0 (fun _ => False) := by
  refine Met.ofW (cc := cX4_contains) (maxL := 2) (ret := (some .boolean)) (by decide) rfl ?_
  intro p e s m args below meth c s₁ B hml hv
  obtain ⟨rfl, -⟩ := hv
  have hx := B.exec
  have hb := B.bytes
  have hr := B.returns
  have hts := atoms_spec (ws := wsX4_contains) B.pre
  have hown : s.vm.findClass RX4 = some m.cls := findClass_of_methodNamed B.named
  have hlocks := B.notSynchronized
  have hS : va_S (fun _ => False) s.heap s.heap [] := va_S.rf
  have hP : va_P ((fun _ => 0, fun _ _ => 0) : va_G) ([] : List vw_C) ([] : va_W) s.heap := fun k q h => by simp at h
  have hl := lv_entry ([.int x, .int (nI i)]) (n := 2) (Nat.le_of_ble_eq_true rfl)
  rw [lg_entry_eq]
  generalize (lg_sl ([.int x, .int (nI i)]) ++ List.replicate (2 - (lg_sl ([.int x, .int (nI i)])).length) Slot.unset).toArray = ls at hl ⊢
  have hl : lv_has ls 2 [(0, .int x), (1, .int (nI i))] := hl
  refine W_Q (fun Q hQ => ?_)
  show W p l e ({ frames := 0, cells := 0, slots := 0, locals := 0 } : Room) s m ([.int x, .int (nI i)] : List Value).toArray below meth c s.heap [] 0 0 Q (F0 m 0 ls [])
  refine lv_iload_n hx hb dX4_contains_0 rfl (lv_at hl 0 rfl) ?_
  refine lv_iload_n hx hb dX4_contains_1 rfl (lv_at hl 1 rfl) ?_
  refine lv_ishr hx hb dX4_contains_2 ?_
  refine lv_iconst (v := (nI 1)) hx hb dX4_contains_3 (by decide) ?_
  refine lv_iand hx hb dX4_contains_4 ?_
  refine xtop (y := bI (bt x i)) (bt_1 x i hi) ?_
  refine lv_if_eq (tgt := 12) hx hb dX4_contains_5 (by decide) (fun c5 => ?_) (fun c5 => ?_)
  ·
    replace c5 := bI_0 c5
    refine lv_iconst (v := (nI 0)) hx hb dX4_contains_12 (by decide) ?_
    subst hQ
    have hfin : (nI 0) = bI (bt x i) := by rw [c5]; rfl
    exact W.zret (ty := .boolean) hx hb hr (by decide) (fun t ht hW => ⟨⟨_, (), rfl, hfin, trivial⟩, hS.F ht⟩) hS.2.2 dX4_contains_13
  ·
    replace c5 := bI_n0 c5
    refine lv_iconst (v := (nI 1)) hx hb dX4_contains_8 (by decide) ?_
    refine lv_goto (tgt := 13) hx hb dX4_contains_9 (by decide) ?_
    subst hQ
    have hfin : (nI 1) = bI (bt x i) := by rw [c5]; rfl
    exact W.zret (ty := .boolean) hx hb hr (by decide) (fun t ht hW => ⟨⟨_, (), rfl, hfin, trivial⟩, hS.F ht⟩) hS.2.2 dX4_contains_13

set_option maxHeartbeats 4000000 in
set_option maxRecDepth 100000 in
theorem c_X4_single (l : Launch)    (i : Nat) : Met l yX4_single wsX4_single ({ frames := 0, cells := 0, slots := 0, locals := 0 } : Room) (va_Pc [.int (nI i)] (fun _ => True)) (va_Qi (fun r (_ : Unit) => r = sg i) (fun _ _ => True) (fun _ => False)) 0 0 (fun _ => False) := by
  refine Met.ofW (cc := cX4_single) (maxL := 1) (ret := (some .int)) (by decide) rfl ?_
  intro p e s m args below meth c s₁ B hml hv
  obtain ⟨rfl, -⟩ := hv
  have hx := B.exec
  have hb := B.bytes
  have hr := B.returns
  have hts := atoms_spec (ws := wsX4_single) B.pre
  have hown : s.vm.findClass RX4 = some m.cls := findClass_of_methodNamed B.named
  have hlocks := B.notSynchronized
  have hS : va_S (fun _ => False) s.heap s.heap [] := va_S.rf
  have hP : va_P ((fun _ => 0, fun _ _ => 0) : va_G) ([] : List vw_C) ([] : va_W) s.heap := fun k q h => by simp at h
  have hl := lv_entry ([.int (nI i)]) (n := 1) (Nat.le_of_ble_eq_true rfl)
  rw [lg_entry_eq]
  generalize (lg_sl ([.int (nI i)]) ++ List.replicate (1 - (lg_sl ([.int (nI i)])).length) Slot.unset).toArray = ls at hl ⊢
  have hl : lv_has ls 1 [(0, .int (nI i))] := hl
  refine W_Q (fun Q hQ => ?_)
  show W p l e ({ frames := 0, cells := 0, slots := 0, locals := 0 } : Room) s m ([.int (nI i)] : List Value).toArray below meth c s.heap [] 0 0 Q (F0 m 0 ls [])
  refine lv_iconst (v := (nI 1)) hx hb dX4_single_0 (by decide) ?_
  refine lv_iload_n hx hb dX4_single_1 rfl (lv_at hl 0 rfl) ?_
  refine lv_ishl hx hb dX4_single_2 ?_
  subst hQ
  have hfin : ((nI 1) <<< ((nI i) &&& 31)) = sg i := by rfl
  exact W.iret hx hb hr (fun t ht hW => ⟨⟨_, (), rfl, hfin, trivial⟩, hS.F ht⟩) hS.2.2 dX4_single_3

set_option maxHeartbeats 4000000 in
set_option maxRecDepth 100000 in
theorem c_J6_bitCount_0f7a4 (l : Launch)    (x : Int32) : Met l yJ6_bitCount_0f7a4 wsJ6_bitCount_0f7a4 ({ frames := 0, cells := 0, slots := 0, locals := 0 } : Room) (va_Pc [.int x] (fun _ => True)) (va_Qi (fun r (_ : Unit) => r = bc x) (fun _ _ => True) (fun _ => False)) 0 0 (fun _ => False) := by
  refine Met.ofW (cc := cJ6_bitCount_0f7a4) (maxL := 1) (ret := (some .int)) (by decide) rfl ?_
  intro p e s m args below meth c s₁ B hml hv
  obtain ⟨rfl, -⟩ := hv
  have hx := B.exec
  have hb := B.bytes
  have hr := B.returns
  have hts := atoms_spec (ws := wsJ6_bitCount_0f7a4) B.pre
  have hown : s.vm.findClass RJ6 = some m.cls := findClass_of_methodNamed B.named
  have hlocks := B.notSynchronized
  have hS : va_S (fun _ => False) s.heap s.heap [] := va_S.rf
  have hP : va_P ((fun _ => 0, fun _ _ => 0) : va_G) ([] : List vw_C) ([] : va_W) s.heap := fun k q h => by simp at h
  have hl := lv_entry ([.int x]) (n := 1) (Nat.le_of_ble_eq_true rfl)
  rw [lg_entry_eq]
  generalize (lg_sl ([.int x]) ++ List.replicate (1 - (lg_sl ([.int x])).length) Slot.unset).toArray = ls at hl ⊢
  have hl : lv_has ls 1 [(0, .int x)] := hl
  refine W_Q (fun Q hQ => ?_)
  show W p l e ({ frames := 0, cells := 0, slots := 0, locals := 0 } : Room) s m ([.int x] : List Value).toArray below meth c s.heap [] 0 0 Q (F0 m 0 ls [])
  refine lv_iload_n hx hb dJ6_bitCount_0f7a4_0 rfl (lv_at hl 0 rfl) ?_
  refine lv_iload_n hx hb dJ6_bitCount_0f7a4_1 rfl (lv_at hl 0 rfl) ?_
  refine lv_iconst (v := (nI 1)) hx hb dJ6_bitCount_0f7a4_2 (by decide) ?_
  refine lv_iushr (v := (x.toUInt32 >>> ((nI 1).toUInt32 &&& Int32.toUInt32 31)).toInt32) hx hb dJ6_bitCount_0f7a4_3 rfl ?_
  refine lv_ldcw hx hb hown (hts (.constant RJ6 265 (1431655765)) (List.mem_of_getElem? (i := 1) rfl)) dJ6_bitCount_0f7a4_4 ?_
  refine lv_iand hx hb dJ6_bitCount_0f7a4_7 ?_
  refine lv_isub hx hb dJ6_bitCount_0f7a4_8 ?_
  refine lv_topi (fun x_1 hx_1 => ?_)
  refine lv_istore_n (lv' := [(0, .int x_1)]) hx hb dJ6_bitCount_0f7a4_9 rfl hl (by decide) rfl (fun ls hl => ?_)
  refine lv_iload_n hx hb dJ6_bitCount_0f7a4_10 rfl (lv_at hl 0 rfl) ?_
  refine lv_ldcw hx hb hown (hts (.constant RJ6 266 (858993459)) (List.mem_of_getElem? (i := 2) rfl)) dJ6_bitCount_0f7a4_11 ?_
  refine lv_iand hx hb dJ6_bitCount_0f7a4_14 ?_
  refine lv_iload_n hx hb dJ6_bitCount_0f7a4_15 rfl (lv_at hl 0 rfl) ?_
  refine lv_iconst (v := (nI 2)) hx hb dJ6_bitCount_0f7a4_16 (by decide) ?_
  refine lv_iushr (v := (x_1.toUInt32 >>> ((nI 2).toUInt32 &&& Int32.toUInt32 31)).toInt32) hx hb dJ6_bitCount_0f7a4_17 rfl ?_
  refine lv_ldcw hx hb hown (hts (.constant RJ6 266 (858993459)) (List.mem_of_getElem? (i := 2) rfl)) dJ6_bitCount_0f7a4_18 ?_
  refine lv_iand hx hb dJ6_bitCount_0f7a4_21 ?_
  refine lv_iadd hx hb dJ6_bitCount_0f7a4_22 ?_
  refine lv_topi (fun x_2 hx_2 => ?_)
  refine lv_istore_n (lv' := [(0, .int x_2)]) hx hb dJ6_bitCount_0f7a4_23 rfl hl (by decide) rfl (fun ls hl => ?_)
  refine lv_iload_n hx hb dJ6_bitCount_0f7a4_24 rfl (lv_at hl 0 rfl) ?_
  refine lv_iload_n hx hb dJ6_bitCount_0f7a4_25 rfl (lv_at hl 0 rfl) ?_
  refine lv_iconst (v := (nI 4)) hx hb dJ6_bitCount_0f7a4_26 (by decide) ?_
  refine lv_iushr (v := (x_2.toUInt32 >>> ((nI 4).toUInt32 &&& Int32.toUInt32 31)).toInt32) hx hb dJ6_bitCount_0f7a4_27 rfl ?_
  refine lv_iadd hx hb dJ6_bitCount_0f7a4_28 ?_
  refine lv_ldcw hx hb hown (hts (.constant RJ6 267 (252645135)) (List.mem_of_getElem? (i := 3) rfl)) dJ6_bitCount_0f7a4_29 ?_
  refine lv_iand hx hb dJ6_bitCount_0f7a4_32 ?_
  refine lv_topi (fun x_3 hx_3 => ?_)
  refine lv_istore_n (lv' := [(0, .int x_3)]) hx hb dJ6_bitCount_0f7a4_33 rfl hl (by decide) rfl (fun ls hl => ?_)
  refine lv_iload_n hx hb dJ6_bitCount_0f7a4_34 rfl (lv_at hl 0 rfl) ?_
  refine lv_iload_n hx hb dJ6_bitCount_0f7a4_35 rfl (lv_at hl 0 rfl) ?_
  refine lv_bipush (v := (nI 8)) hx hb dJ6_bitCount_0f7a4_36 (by decide) ?_
  refine lv_iushr (v := (x_3.toUInt32 >>> ((nI 8).toUInt32 &&& Int32.toUInt32 31)).toInt32) hx hb dJ6_bitCount_0f7a4_38 rfl ?_
  refine lv_iadd hx hb dJ6_bitCount_0f7a4_39 ?_
  refine lv_topi (fun x_4 hx_4 => ?_)
  refine lv_istore_n (lv' := [(0, .int x_4)]) hx hb dJ6_bitCount_0f7a4_40 rfl hl (by decide) rfl (fun ls hl => ?_)
  refine lv_iload_n hx hb dJ6_bitCount_0f7a4_41 rfl (lv_at hl 0 rfl) ?_
  refine lv_iload_n hx hb dJ6_bitCount_0f7a4_42 rfl (lv_at hl 0 rfl) ?_
  refine lv_bipush (v := (nI 16)) hx hb dJ6_bitCount_0f7a4_43 (by decide) ?_
  refine lv_iushr (v := (x_4.toUInt32 >>> ((nI 16).toUInt32 &&& Int32.toUInt32 31)).toInt32) hx hb dJ6_bitCount_0f7a4_45 rfl ?_
  refine lv_iadd hx hb dJ6_bitCount_0f7a4_46 ?_
  refine lv_topi (fun x_5 hx_5 => ?_)
  refine lv_istore_n (lv' := [(0, .int x_5)]) hx hb dJ6_bitCount_0f7a4_47 rfl hl (by decide) rfl (fun ls hl => ?_)
  refine lv_iload_n hx hb dJ6_bitCount_0f7a4_48 rfl (lv_at hl 0 rfl) ?_
  refine lv_bipush (v := (nI 63)) hx hb dJ6_bitCount_0f7a4_49 (by decide) ?_
  refine lv_iand hx hb dJ6_bitCount_0f7a4_51 ?_
  subst hQ
  have hfin : (x_5 &&& (nI 63)) = bc x := by simp only [*, bc]
  exact W.iret hx hb hr (fun t ht hW => ⟨⟨_, (), rfl, hfin, trivial⟩, hS.F ht⟩) hS.2.2 dJ6_bitCount_0f7a4_52

set_option maxHeartbeats 4000000 in
set_option maxRecDepth 100000 in
theorem c_X4_mixed (l : Launch)    (d : Int64) (x : Int32) : Met l yX4_mixed wsX4_mixed ({ frames := 0, cells := 0, slots := 0, locals := 0 } : Room) (va_Pc [.long d, .int x] (fun _ => True)) (va_Ql (fun r (_ : Unit) => r = (d * 31 + x.toInt64)) (fun _ _ => True) (fun _ => False)) 0 0 (fun _ => False) := by
  refine Met.ofW (cc := cX4_mixed) (maxL := 3) (ret := (some .long)) (by decide) rfl ?_
  intro p e s m args below meth c s₁ B hml hv
  obtain ⟨rfl, -⟩ := hv
  have hx := B.exec
  have hb := B.bytes
  have hr := B.returns
  have hts := atoms_spec (ws := wsX4_mixed) B.pre
  have hown : s.vm.findClass RX4 = some m.cls := findClass_of_methodNamed B.named
  have hlocks := B.notSynchronized
  have hS : va_S (fun _ => False) s.heap s.heap [] := va_S.rf
  have hP : va_P ((fun _ => 0, fun _ _ => 0) : va_G) ([] : List vw_C) ([] : va_W) s.heap := fun k q h => by simp at h
  have hl := lv_entry ([.long d, .int x]) (n := 3) (Nat.le_of_ble_eq_true rfl)
  rw [lg_entry_eq]
  generalize (lg_sl ([.long d, .int x]) ++ List.replicate (3 - (lg_sl ([.long d, .int x])).length) Slot.unset).toArray = ls at hl ⊢
  have hl : lv_has ls 3 [(0, .long d), (2, .int x)] := hl
  refine W_Q (fun Q hQ => ?_)
  show W p l e ({ frames := 0, cells := 0, slots := 0, locals := 0 } : Room) s m ([.long d, .int x] : List Value).toArray below meth c s.heap [] 0 0 Q (F0 m 0 ls [])
  refine lv_lload_n hx hb dX4_mixed_0 rfl (lv_at hl 0 rfl) ?_
  refine lv_ldc2 hx hb hown (hts (.constantLong RX4 209 (31)) (List.mem_of_getElem? (i := 1) rfl)) dX4_mixed_1 ?_
  refine lv_lmul hx hb dX4_mixed_4 ?_
  refine lv_iload_n hx hb dX4_mixed_5 rfl (lv_at hl 1 rfl) ?_
  refine lv_i2l (v := x.toInt64) hx hb dX4_mixed_6 rfl ?_
  refine lv_ladd hx hb dX4_mixed_7 ?_
  subst hQ
  have hfin : ((d * (31 : Int64)) + x.toInt64) = (d * 31 + x.toInt64) := by rfl
  exact W.lret hx hb hr (fun t ht hW => ⟨⟨_, (), rfl, hfin, trivial⟩, hS.F ht⟩) hS.2.2 dX4_mixed_8

set_option maxHeartbeats 4000000 in
set_option maxRecDepth 100000 in
theorem c_X3_all (l : Launch) (D : va_G) (cs : Nat → ClassId) (a : Nat → Nat) (M : Nat → Nat → Int32) (N : Nat → Int64)  (n : Nat)  (hn : M 0 0 = nI n) : Met l yX3_all wsX3_all ({ frames := 1, cells := 0, slots := 0, locals := 20 } : Room) (va_Pc [.ref (a 1)] (XB D cs (xc cs a M N))) (va_Qi (fun r (_ : Unit) => r = (sg n - nI 1)) (fun _ _ => True) (fun _ => False)) 0 0 (fun _ => False) := by
  refine Met.ofW (cc := cX3_all) (maxL := 1) (ret := (some .int)) (by decide) rfl ?_
  intro p e s m args below meth c s₁ B hml hv
  obtain ⟨rfl, hP, hK⟩ := hv
  have hx := B.exec
  have hb := B.bytes
  have hr := B.returns
  have hts := atoms_spec (ws := wsX3_all) B.pre
  have hown : s.vm.findClass RX3 = some m.cls := findClass_of_methodNamed B.named
  have hlocks := B.notSynchronized
  have hK1 := hK.1
  have hinX3 : ∀ w ∈ wsX30, w ∈ wsX3_all := fun w h => List.mem_cons_of_mem _ (List.mem_append_right _ h)
  have hS : va_S (fun _ => False) s.heap s.heap [] := va_S.rf
  have hl := lv_entry ([.ref (a 1)]) (n := 1) (Nat.le_of_ble_eq_true rfl)
  rw [lg_entry_eq]
  generalize (lg_sl ([.ref (a 1)]) ++ List.replicate (1 - (lg_sl ([.ref (a 1)])).length) Slot.unset).toArray = ls at hl ⊢
  have hl : lv_has ls 1 [(0, .ref (a 1))] := hl
  refine W_Q (fun Q hQ => ?_)
  show W p l e ({ frames := 1, cells := 0, slots := 0, locals := 20 } : Room) s m ([.ref (a 1)] : List Value).toArray below meth c s.heap [] 0 0 Q (F0 m 0 ls [])
  refine lv_iconst (v := (nI 1)) hx hb dX3_all_0 (by decide) ?_
  refine lv_aload_n hx hb dX3_all_1 rfl (lv_at hl 0 rfl) ?_
  refine va_get (D := D) (ci := 3) (v := .int (M 0 0)) (C := RX3) (T := TX3) (N := 4) hx hb hts hinX3 hown hK1 hP 1 rfl rfl 2 (by decide) (hts (.fieldLink RX3 20 "KnowledgeModel$Worlds" "count" "I") (List.mem_of_getElem? (i := 1) rfl)) (fun _ h9 => h9) rfl dX3_all_2 ?_
  refine xtop (y := nI n) (hn) ?_
  refine lv_ishl hx hb dX3_all_5 ?_
  refine lv_iconst (v := (nI 1)) hx hb dX3_all_6 (by decide) ?_
  refine lv_isub hx hb dX3_all_7 ?_
  subst hQ
  have hfin : (((nI 1) <<< ((nI n) &&& 31)) - (nI 1)) = (sg n - nI 1) := by rfl
  exact W.iret hx hb hr (fun t ht hW => ⟨⟨_, (), rfl, hfin, trivial⟩, hS.F ht⟩) hS.2.2 dX3_all_8

def seenSome (M : Nat → Nat → Int32) (g : Int32) (w : Nat) : Int32 := fo (fun i r => if bt g i then r ||| M (2 + i) w else r) (nI 0) 4
def seenEvery (M : Nat → Nat → Int32) (n : Nat) (g : Int32) (w : Nat) : Int32 := fo (fun i r => if bt g i then r &&& M (2 + i) w else r) (sg n - nI 1) 4
def worldsWith (M : Nat → Nat → Int32) (n p : Nat) : Int32 := fo (fun w r => if bt (M 1 w) p then r ||| sg w else r) (nI 0) n
def countArr (M : Nat → Nat → Int32) (n ag : Nat) : Int32 := fo (fun w r => r + bc (M (2 + ag) w)) (nI 0) n
def isRefl (M : Nat → Nat → Int32) (n ag : Nat) : Bool := allB (fun w => bt (M (2 + ag) w) w) n
def isSym (M : Nat → Nat → Int32) (n ag : Nat) : Bool := allB (fun v => allB (fun w => !bt (M (2 + ag) v) w || bt (M (2 + ag) w) v) n) n
def isTrans (M : Nat → Nat → Int32) (n ag : Nat) : Bool := allB (fun u => allB (fun v => !bt (M (2 + ag) u) v || decide ((M (2 + ag) v &&& (M (2 + ag) u ^^^ (-1))) = 0)) n) n
def sameAt (M : Nat → Nat → Int32) (n : Nat) (set : Int32) : Int32 := fo (fun w r => if bt set w then r &&& M 1 w else r) (nI 63) n ||| fo (fun w r => if bt set w then r &&& (M 1 w ^^^ (-1)) else r) (nI 63) n
def sweep (M : Nat → Nat → Int32) (n : Nat) (g x : Int32) : Int32 := fo (fun w r => if bt r w then r ||| seenSome M g w else r) x n
def reachF (M : Nat → Nat → Int32) (n : Nat) (g : Int32) (fr : Nat) : Int32 := fo (fun _ x => sweep M n g x) (seenSome M g fr) n

set_option maxHeartbeats 4000000 in
set_option maxRecDepth 100000 in
theorem c_X3_seenBySome (l : Launch) (D : va_G) (cs : Nat → ClassId) (a : Nat → Nat) (M : Nat → Nat → Int32) (N : Nat → Int64)   (g : Int32) (fr : Nat) (hfr : fr < 24) : Met l yX3_seenBySome wsX3_seenBySome ({ frames := 1, cells := 0, slots := 0, locals := 21 } : Room) (va_Pc [.ref (a 1), .int g, .int (nI fr)] (XB D cs (xc cs a M N))) (va_Qi (fun r (_ : Unit) => r = seenSome M g fr) (fun _ _ => True) (fun _ => False)) 0 0 (fun _ => False) := by
  refine Met.ofW (cc := cX3_seenBySome) (maxL := 5) (ret := (some .int)) (by decide) rfl ?_
  intro p e s m args below meth c s₁ B hml hv
  obtain ⟨rfl, hP, hK⟩ := hv
  have hx := B.exec
  have hb := B.bytes
  have hr := B.returns
  have hts := atoms_spec (ws := wsX3_seenBySome) B.pre
  have hown : s.vm.findClass RX3 = some m.cls := findClass_of_methodNamed B.named
  have hlocks := B.notSynchronized
  have hK1 := hK.1
  have hinX3 : ∀ w ∈ wsX30, w ∈ wsX3_seenBySome := fun w h => List.mem_cons_of_mem _ (List.mem_append_right _ h)
  have hS : va_S (fun _ => False) s.heap s.heap [] := va_S.rf
  have hl := lv_entry ([.ref (a 1), .int g, .int (nI fr)]) (n := 5) (Nat.le_of_ble_eq_true rfl)
  rw [lg_entry_eq]
  generalize (lg_sl ([.ref (a 1), .int g, .int (nI fr)]) ++ List.replicate (5 - (lg_sl ([.ref (a 1), .int g, .int (nI fr)])).length) Slot.unset).toArray = ls at hl ⊢
  have hl : lv_has ls 5 [(0, .ref (a 1)), (1, .int g), (2, .int (nI fr))] := hl
  refine W_Q (fun Q hQ => ?_)
  show W p l e ({ frames := 1, cells := 0, slots := 0, locals := 21 } : Room) s m ([.ref (a 1), .int g, .int (nI fr)] : List Value).toArray below meth c s.heap [] 0 0 Q (F0 m 0 ls [])
  refine lv_iconst (v := (nI 0)) hx hb dX3_seenBySome_0 (by decide) ?_
  refine lv_istore_n (lv' := [(3, .int (nI 0)), (0, .ref (a 1)), (1, .int g), (2, .int (nI fr))]) hx hb dX3_seenBySome_1 rfl hl (by decide) rfl (fun ls hl => ?_)
  refine lv_iconst (v := (nI 0)) hx hb dX3_seenBySome_2 (by decide) ?_
  refine lv_istore (lv' := [(4, .int (nI 0)), (3, .int (nI 0)), (0, .ref (a 1)), (1, .int g), (2, .int (nI fr))]) hx hb dX3_seenBySome_3 hl (by decide) rfl (fun ls hl => ?_)
  have cut5 : ∀ (f5 : Nat) (j : Nat) (hj : j ≤ 4), 4 + 1 ≤ j + f5 → ∀ (H : Heap) (locs : List Loc), va_P D vwCl (xc cs a M N) H → va_S (fun _ => False) s.heap H locs → ∀ (ls : Array Slot), lv_has ls 5 [(0, .ref (a 1)), (1, .int g), (2, .int (nI fr)), (3, .int (fo (fun i r => if bt g i then r ||| M (2 + i) fr else r) (nI 0) j)), (4, .int (nI j))] → W p l e ({ frames := 1, cells := 0, slots := 0, locals := 21 } : Room) s m ([.ref (a 1), .int g, .int (nI fr)] : List Value).toArray below meth c H locs 0 0 Q (F0 m 5 ls []) := by
    intro f5
    induction f5 with
    | zero => intro j hj hfu5; exact absurd hfu5 (by omega)
    | succ f5 cut5 =>
      intro j hj hfu5 H locs hP hS ls hl
      refine lv_iload hx hb dX3_seenBySome_5 (lv_at hl 4 rfl) ?_
      refine lv_iconst (v := (nI 4)) hx hb dX3_seenBySome_7 (by decide) ?_
      refine lv_icmp_ge (tgt := 38) hx hb dX3_seenBySome_8 (by decide) (fun c8 => ?_) (fun c8 => ?_)
      ·
        replace c8 : 4 ≤ j := k_get c8 (by omega) (by omega)
        refine lv_iload_n hx hb dX3_seenBySome_38 rfl (lv_at hl 3 rfl) ?_
        subst hQ
        have hfin : (fo (fun i r => if bt g i then r ||| M (2 + i) fr else r) (nI 0) j) = seenSome M g fr := by (have hje : j = 4 := by omega); subst hje; rfl
        exact W.iret hx hb hr (fun t ht hW => ⟨⟨_, (), rfl, hfin, trivial⟩, hS.F ht⟩) hS.2.2 dX3_seenBySome_39
      ·
        replace c8 : j < 4 := k_gef c8 (by omega) (by omega)
        refine lv_iload_n hx hb dX3_seenBySome_11 rfl (lv_at hl 1 rfl) ?_
        refine lv_iload hx hb dX3_seenBySome_12 (lv_at hl 4 rfl) ?_
        refine xcalli (va_runSN (As := [.int g, .int (nI j)]) (rest := []) ⟨hx, hb, hml, hown, hts⟩ (c_X4_contains l g j (by omega)) ⟨va_cnB 2 hts gX3_seenBySome_X4_contains_n27 rfl rfl rfl hK.2.2.2.2.2.2.2.1 (hts (.initialized RX4) (List.mem_of_getElem? (i := 3) rfl)) (by decide +kernel) ⟨Nat.le_of_ble_eq_true rfl, Nat.le_of_ble_eq_true rfl⟩, hts (.static yX4_contains) (List.mem_of_getElem? (i := 2) rfl), trivial⟩ xpreN rfl rfl hl.1 rfl (lv_room (Nat.le_of_ble_eq_true rfl)) dX3_seenBySome_14 ⟨Nat.le_of_ble_eq_true rfl, Nat.le_of_ble_eq_true rfl⟩) hS hP (fun H locs hP hS => ?_)
        refine lv_if_eq (tgt := 32) hx hb dX3_seenBySome_17 (by decide) (fun c17 => ?_) (fun c17 => ?_)
        ·
          replace c17 := bI_0 c17
          refine lv_iinc (v := (nI (j + 1))) (lv' := [(4, .int (nI (j + 1))), (0, .ref (a 1)), (1, .int g), (2, .int (nI fr)), (3, .int (fo (fun i r => if bt g i then r ||| M (2 + i) fr else r) (nI 0) j))]) hx hb dX3_seenBySome_32 hl (k := 4) rfl (nI_add j 1) (by decide) rfl (fun ls hl => ?_)
          refine lv_goto (tgt := 5) hx hb dX3_seenBySome_35 (by decide) ?_
          have e_1 : (fo (fun i r => if bt g i then r ||| M (2 + i) fr else r) (nI 0) j) = (fo (fun i r => if bt g i then r ||| M (2 + i) fr else r) (nI 0) (j + 1)) := by first | rfl | (simp [fo_s, c8, c17]; done) | (simp [fo_s, c8, c17] <;> rfl)
          exact cut5 (j + 1) (by omega) (by omega) _ _ hP hS ls (lcons (lcons (lcons (lcons (lcons (lzero hl) hl 0 rfl rfl) hl 4 rfl (congrArg Value.int e_1)) hl 3 rfl rfl) hl 2 rfl rfl) hl 1 rfl rfl)
        ·
          replace c17 := bI_n0 c17
          refine lv_iload_n hx hb dX3_seenBySome_20 rfl (lv_at hl 3 rfl) ?_
          refine lv_aload_n hx hb dX3_seenBySome_21 rfl (lv_at hl 0 rfl) ?_
          refine va_get (D := D) (ci := 3) (v := .ref (a 3)) (C := RX3) (T := TX3) (N := 4) hx hb hts hinX3 hown hK1 hP 1 rfl rfl 1 (by decide) (hts (.fieldLink RX3 17 "KnowledgeModel$Worlds" "arrows" "[[I") (List.mem_of_getElem? (i := 1) rfl)) (fun _ h9 => h9) rfl dX3_seenBySome_22 ?_
          refine lv_iload hx hb dX3_seenBySome_25 (lv_at hl 4 rfl) ?_
          refine xaald (j := j) (q0 := 3) (t0 := 2) (f := fun i => a (4 + i)) hx hb hK1 hP rfl rfl (by omega) (by decide) dX3_seenBySome_27 ?_
          refine lv_iload_n hx hb dX3_seenBySome_28 rfl (lv_at hl 2 rfl) ?_
          refine xiald (j := fr) (q0 := (4 + j)) (t0 := 0) hx hb hK1 hP (xg_ar (by omega)) rfl (by omega) (by decide) dX3_seenBySome_29 ?_
          refine lv_ior hx hb dX3_seenBySome_30 ?_
          refine lv_topi (fun x_2 hx_2 => ?_)
          refine lv_istore_n (lv' := [(3, .int x_2), (0, .ref (a 1)), (1, .int g), (2, .int (nI fr)), (4, .int (nI j))]) hx hb dX3_seenBySome_31 rfl hl (by decide) rfl (fun ls hl => ?_)
          refine lv_iinc (v := (nI (j + 1))) (lv' := [(4, .int (nI (j + 1))), (3, .int x_2), (0, .ref (a 1)), (1, .int g), (2, .int (nI fr))]) hx hb dX3_seenBySome_32 hl (k := 4) rfl (nI_add j 1) (by decide) rfl (fun ls hl => ?_)
          refine lv_goto (tgt := 5) hx hb dX3_seenBySome_35 (by decide) ?_
          have e_3 : x_2 = (fo (fun i r => if bt g i then r ||| M (2 + i) fr else r) (nI 0) (j + 1)) := by first | rfl | (simp [fo_s, c8, c17, hx_2]; done) | (simp [fo_s, c8, c17, hx_2] <;> rfl)
          exact cut5 (j + 1) (by omega) (by omega) _ _ hP hS ls (lcons (lcons (lcons (lcons (lcons (lzero hl) hl 0 rfl rfl) hl 1 rfl (congrArg Value.int e_3)) hl 4 rfl rfl) hl 3 rfl rfl) hl 2 rfl rfl)
  have e_4 : (nI 0) = (fo (fun i r => if bt g i then r ||| M (2 + i) fr else r) (nI 0) 0) := by first | rfl | (simp [fo_s]; done) | (simp [fo_s] <;> rfl)
  exact cut5 (4 + 1) 0 (by omega) (by omega) _ _ hP hS ls (lcons (lcons (lcons (lcons (lcons (lzero hl) hl 0 rfl rfl) hl 1 rfl (congrArg Value.int e_4)) hl 4 rfl rfl) hl 3 rfl rfl) hl 2 rfl rfl)

set_option maxHeartbeats 4000000 in
set_option maxRecDepth 100000 in
theorem c_X3_seenByEvery (l : Launch) (D : va_G) (cs : Nat → ClassId) (a : Nat → Nat) (M : Nat → Nat → Int32) (N : Nat → Int64)  (n : Nat) (g : Int32) (fr : Nat) (hfr : fr < 24) (hn : M 0 0 = nI n) : Met l yX3_seenByEvery wsX3_seenByEvery ({ frames := 2, cells := 0, slots := 0, locals := 40 } : Room) (va_Pc [.ref (a 1), .int g, .int (nI fr)] (XB D cs (xc cs a M N))) (va_Qi (fun r (_ : Unit) => r = seenEvery M n g fr) (fun _ _ => True) (fun _ => False)) 0 0 (fun _ => False) := by
  refine Met.ofW (cc := cX3_seenByEvery) (maxL := 5) (ret := (some .int)) (by decide) rfl ?_
  intro p e s m args below meth c s₁ B hml hv
  obtain ⟨rfl, hP, hK⟩ := hv
  have hx := B.exec
  have hb := B.bytes
  have hr := B.returns
  have hts := atoms_spec (ws := wsX3_seenByEvery) B.pre
  have hown : s.vm.findClass RX3 = some m.cls := findClass_of_methodNamed B.named
  have hlocks := B.notSynchronized
  have hK1 := hK.1
  have hinX3 : ∀ w ∈ wsX30, w ∈ wsX3_seenByEvery := fun w h => List.mem_cons_of_mem _ (List.mem_append_right _ h)
  have hS : va_S (fun _ => False) s.heap s.heap [] := va_S.rf
  have hl := lv_entry ([.ref (a 1), .int g, .int (nI fr)]) (n := 5) (Nat.le_of_ble_eq_true rfl)
  rw [lg_entry_eq]
  generalize (lg_sl ([.ref (a 1), .int g, .int (nI fr)]) ++ List.replicate (5 - (lg_sl ([.ref (a 1), .int g, .int (nI fr)])).length) Slot.unset).toArray = ls at hl ⊢
  have hl : lv_has ls 5 [(0, .ref (a 1)), (1, .int g), (2, .int (nI fr))] := hl
  refine W_Q (fun Q hQ => ?_)
  show W p l e ({ frames := 2, cells := 0, slots := 0, locals := 40 } : Room) s m ([.ref (a 1), .int g, .int (nI fr)] : List Value).toArray below meth c s.heap [] 0 0 Q (F0 m 0 ls [])
  refine lv_aload_n hx hb dX3_seenByEvery_0 rfl (lv_at hl 0 rfl) ?_
  refine xcalli (va_runV (As := []) (rest := []) ⟨hx, hb, hml, hown, hts⟩ (c_X3_all l D cs a M N n hn) (cwV 0 hts gX3_seenByEvery_X3_all rfl rfl rfl (by decide +kernel) ⟨Nat.le_of_ble_eq_true rfl, Nat.le_of_ble_eq_true rfl⟩) (xpreV hP hK (ci := 3) 1 rfl rfl) rfl rfl hl.1 rfl (lv_room (Nat.le_of_ble_eq_true rfl)) dX3_seenByEvery_1 ⟨Nat.le_of_ble_eq_true rfl, Nat.le_of_ble_eq_true rfl⟩) hS hP (fun H locs hP hS => ?_)
  refine lv_topi (fun x_1 hx_1 => ?_)
  refine lv_istore_n (lv' := [(3, .int x_1), (0, .ref (a 1)), (1, .int g), (2, .int (nI fr))]) hx hb dX3_seenByEvery_4 rfl hl (by decide) rfl (fun ls hl => ?_)
  refine lv_iconst (v := (nI 0)) hx hb dX3_seenByEvery_5 (by decide) ?_
  refine lv_istore (lv' := [(4, .int (nI 0)), (3, .int x_1), (0, .ref (a 1)), (1, .int g), (2, .int (nI fr))]) hx hb dX3_seenByEvery_6 hl (by decide) rfl (fun ls hl => ?_)
  have cut8 : ∀ (f8 : Nat) (j : Nat) (hj : j ≤ 4), 4 + 1 ≤ j + f8 → ∀ (H : Heap) (locs : List Loc), va_P D vwCl (xc cs a M N) H → va_S (fun _ => False) s.heap H locs → ∀ (ls : Array Slot), lv_has ls 5 [(0, .ref (a 1)), (1, .int g), (2, .int (nI fr)), (3, .int (fo (fun i r => if bt g i then r &&& M (2 + i) fr else r) (sg n - nI 1) j)), (4, .int (nI j))] → W p l e ({ frames := 2, cells := 0, slots := 0, locals := 40 } : Room) s m ([.ref (a 1), .int g, .int (nI fr)] : List Value).toArray below meth c H locs 0 0 Q (F0 m 8 ls []) := by
    intro f8
    induction f8 with
    | zero => intro j hj hfu8; exact absurd hfu8 (by omega)
    | succ f8 cut8 =>
      intro j hj hfu8 H locs hP hS ls hl
      refine lv_iload hx hb dX3_seenByEvery_8 (lv_at hl 4 rfl) ?_
      refine lv_iconst (v := (nI 4)) hx hb dX3_seenByEvery_10 (by decide) ?_
      refine lv_icmp_ge (tgt := 41) hx hb dX3_seenByEvery_11 (by decide) (fun c11 => ?_) (fun c11 => ?_)
      ·
        replace c11 : 4 ≤ j := k_get c11 (by omega) (by omega)
        refine lv_iload_n hx hb dX3_seenByEvery_41 rfl (lv_at hl 3 rfl) ?_
        subst hQ
        have hfin : (fo (fun i r => if bt g i then r &&& M (2 + i) fr else r) (sg n - nI 1) j) = seenEvery M n g fr := by (have hje : j = 4 := by omega); subst hje; rfl
        exact W.iret hx hb hr (fun t ht hW => ⟨⟨_, (), rfl, hfin, trivial⟩, hS.F ht⟩) hS.2.2 dX3_seenByEvery_42
      ·
        replace c11 : j < 4 := k_gef c11 (by omega) (by omega)
        refine lv_iload_n hx hb dX3_seenByEvery_14 rfl (lv_at hl 1 rfl) ?_
        refine lv_iload hx hb dX3_seenByEvery_15 (lv_at hl 4 rfl) ?_
        refine xcalli (va_runSN (As := [.int g, .int (nI j)]) (rest := []) ⟨hx, hb, hml, hown, hts⟩ (c_X4_contains l g j (by omega)) ⟨va_cnB 2 hts gX3_seenByEvery_X4_contains_n27 rfl rfl rfl hK.2.2.2.2.2.2.2.1 (hts (.initialized RX4) (List.mem_of_getElem? (i := 9) rfl)) (by decide +kernel) ⟨Nat.le_of_ble_eq_true rfl, Nat.le_of_ble_eq_true rfl⟩, hts (.static yX4_contains) (List.mem_of_getElem? (i := 8) rfl), trivial⟩ xpreN rfl rfl hl.1 rfl (lv_room (Nat.le_of_ble_eq_true rfl)) dX3_seenByEvery_17 ⟨Nat.le_of_ble_eq_true rfl, Nat.le_of_ble_eq_true rfl⟩) hS hP (fun H locs hP hS => ?_)
        refine lv_if_eq (tgt := 35) hx hb dX3_seenByEvery_20 (by decide) (fun c20 => ?_) (fun c20 => ?_)
        ·
          replace c20 := bI_0 c20
          refine lv_iinc (v := (nI (j + 1))) (lv' := [(4, .int (nI (j + 1))), (0, .ref (a 1)), (1, .int g), (2, .int (nI fr)), (3, .int (fo (fun i r => if bt g i then r &&& M (2 + i) fr else r) (sg n - nI 1) j))]) hx hb dX3_seenByEvery_35 hl (k := 4) rfl (nI_add j 1) (by decide) rfl (fun ls hl => ?_)
          refine lv_goto (tgt := 8) hx hb dX3_seenByEvery_38 (by decide) ?_
          have e_2 : (fo (fun i r => if bt g i then r &&& M (2 + i) fr else r) (sg n - nI 1) j) = (fo (fun i r => if bt g i then r &&& M (2 + i) fr else r) (sg n - nI 1) (j + 1)) := by first | rfl | (simp [fo_s, c11, c20]; done) | (simp [fo_s, c11, c20] <;> rfl)
          exact cut8 (j + 1) (by omega) (by omega) _ _ hP hS ls (lcons (lcons (lcons (lcons (lcons (lzero hl) hl 0 rfl rfl) hl 4 rfl (congrArg Value.int e_2)) hl 3 rfl rfl) hl 2 rfl rfl) hl 1 rfl rfl)
        ·
          replace c20 := bI_n0 c20
          refine lv_iload_n hx hb dX3_seenByEvery_23 rfl (lv_at hl 3 rfl) ?_
          refine lv_aload_n hx hb dX3_seenByEvery_24 rfl (lv_at hl 0 rfl) ?_
          refine va_get (D := D) (ci := 3) (v := .ref (a 3)) (C := RX3) (T := TX3) (N := 4) hx hb hts hinX3 hown hK1 hP 1 rfl rfl 1 (by decide) (hts (.fieldLink RX3 17 "KnowledgeModel$Worlds" "arrows" "[[I") (List.mem_of_getElem? (i := 1) rfl)) (fun _ h9 => h9) rfl dX3_seenByEvery_25 ?_
          refine lv_iload hx hb dX3_seenByEvery_28 (lv_at hl 4 rfl) ?_
          refine xaald (j := j) (q0 := 3) (t0 := 2) (f := fun i => a (4 + i)) hx hb hK1 hP rfl rfl (by omega) (by decide) dX3_seenByEvery_30 ?_
          refine lv_iload_n hx hb dX3_seenByEvery_31 rfl (lv_at hl 2 rfl) ?_
          refine xiald (j := fr) (q0 := (4 + j)) (t0 := 0) hx hb hK1 hP (xg_ar (by omega)) rfl (by omega) (by decide) dX3_seenByEvery_32 ?_
          refine lv_iand hx hb dX3_seenByEvery_33 ?_
          refine lv_topi (fun x_3 hx_3 => ?_)
          refine lv_istore_n (lv' := [(3, .int x_3), (0, .ref (a 1)), (1, .int g), (2, .int (nI fr)), (4, .int (nI j))]) hx hb dX3_seenByEvery_34 rfl hl (by decide) rfl (fun ls hl => ?_)
          refine lv_iinc (v := (nI (j + 1))) (lv' := [(4, .int (nI (j + 1))), (3, .int x_3), (0, .ref (a 1)), (1, .int g), (2, .int (nI fr))]) hx hb dX3_seenByEvery_35 hl (k := 4) rfl (nI_add j 1) (by decide) rfl (fun ls hl => ?_)
          refine lv_goto (tgt := 8) hx hb dX3_seenByEvery_38 (by decide) ?_
          have e_4 : x_3 = (fo (fun i r => if bt g i then r &&& M (2 + i) fr else r) (sg n - nI 1) (j + 1)) := by first | rfl | (simp [fo_s, c11, c20, hx_3]; done) | (simp [fo_s, c11, c20, hx_3] <;> rfl)
          exact cut8 (j + 1) (by omega) (by omega) _ _ hP hS ls (lcons (lcons (lcons (lcons (lcons (lzero hl) hl 0 rfl rfl) hl 1 rfl (congrArg Value.int e_4)) hl 4 rfl rfl) hl 3 rfl rfl) hl 2 rfl rfl)
  have e_5 : x_1 = (fo (fun i r => if bt g i then r &&& M (2 + i) fr else r) (sg n - nI 1) 0) := by first | rfl | (simp [fo_s, hx_1]; done) | (simp [fo_s, hx_1] <;> rfl)
  exact cut8 (4 + 1) 0 (by omega) (by omega) _ _ hP hS ls (lcons (lcons (lcons (lcons (lcons (lzero hl) hl 0 rfl rfl) hl 1 rfl (congrArg Value.int e_5)) hl 4 rfl rfl) hl 3 rfl rfl) hl 2 rfl rfl)

set_option maxHeartbeats 4000000 in
set_option maxRecDepth 100000 in
theorem c_X3_worldsWith (l : Launch) (D : va_G) (cs : Nat → ClassId) (a : Nat → Nat) (M : Nat → Nat → Int32) (N : Nat → Int64)  (n : Nat) (pp : Nat) (hpp : pp < 32) (hn : M 0 0 = nI n) (hn24 : n ≤ 24) : Met l yX3_worldsWith wsX3_worldsWith ({ frames := 1, cells := 0, slots := 0, locals := 21 } : Room) (va_Pc [.ref (a 1), .int (nI pp)] (XB D cs (xc cs a M N))) (va_Qi (fun r (_ : Unit) => r = worldsWith M n pp) (fun _ _ => True) (fun _ => False)) 0 0 (fun _ => False) := by
  refine Met.ofW (cc := cX3_worldsWith) (maxL := 4) (ret := (some .int)) (by decide) rfl ?_
  intro p e s m args below meth c s₁ B hml hv
  obtain ⟨rfl, hP, hK⟩ := hv
  have hx := B.exec
  have hb := B.bytes
  have hr := B.returns
  have hts := atoms_spec (ws := wsX3_worldsWith) B.pre
  have hown : s.vm.findClass RX3 = some m.cls := findClass_of_methodNamed B.named
  have hlocks := B.notSynchronized
  have hK1 := hK.1
  have hinX3 : ∀ w ∈ wsX30, w ∈ wsX3_worldsWith := fun w h => List.mem_cons_of_mem _ (List.mem_append_right _ h)
  have hS : va_S (fun _ => False) s.heap s.heap [] := va_S.rf
  have hl := lv_entry ([.ref (a 1), .int (nI pp)]) (n := 4) (Nat.le_of_ble_eq_true rfl)
  rw [lg_entry_eq]
  generalize (lg_sl ([.ref (a 1), .int (nI pp)]) ++ List.replicate (4 - (lg_sl ([.ref (a 1), .int (nI pp)])).length) Slot.unset).toArray = ls at hl ⊢
  have hl : lv_has ls 4 [(0, .ref (a 1)), (1, .int (nI pp))] := hl
  refine W_Q (fun Q hQ => ?_)
  show W p l e ({ frames := 1, cells := 0, slots := 0, locals := 21 } : Room) s m ([.ref (a 1), .int (nI pp)] : List Value).toArray below meth c s.heap [] 0 0 Q (F0 m 0 ls [])
  refine lv_iconst (v := (nI 0)) hx hb dX3_worldsWith_0 (by decide) ?_
  refine lv_istore_n (lv' := [(2, .int (nI 0)), (0, .ref (a 1)), (1, .int (nI pp))]) hx hb dX3_worldsWith_1 rfl hl (by decide) rfl (fun ls hl => ?_)
  refine lv_iconst (v := (nI 0)) hx hb dX3_worldsWith_2 (by decide) ?_
  refine lv_istore_n (lv' := [(3, .int (nI 0)), (2, .int (nI 0)), (0, .ref (a 1)), (1, .int (nI pp))]) hx hb dX3_worldsWith_3 rfl hl (by decide) rfl (fun ls hl => ?_)
  have cut4 : ∀ (f4 : Nat) (j : Nat) (hj : j ≤ n), n + 1 ≤ j + f4 → ∀ (H : Heap) (locs : List Loc), va_P D vwCl (xc cs a M N) H → va_S (fun _ => False) s.heap H locs → ∀ (ls : Array Slot), lv_has ls 4 [(0, .ref (a 1)), (1, .int (nI pp)), (2, .int (fo (fun w r => if bt (M 1 w) pp then r ||| sg w else r) (nI 0) j)), (3, .int (nI j))] → W p l e ({ frames := 1, cells := 0, slots := 0, locals := 21 } : Room) s m ([.ref (a 1), .int (nI pp)] : List Value).toArray below meth c H locs 0 0 Q (F0 m 4 ls []) := by
    intro f4
    induction f4 with
    | zero => intro j hj hfu4; exact absurd hfu4 (by omega)
    | succ f4 cut4 =>
      intro j hj hfu4 H locs hP hS ls hl
      refine lv_iload_n hx hb dX3_worldsWith_4 rfl (lv_at hl 3 rfl) ?_
      refine lv_aload_n hx hb dX3_worldsWith_5 rfl (lv_at hl 0 rfl) ?_
      refine va_get (D := D) (ci := 3) (v := .int (M 0 0)) (C := RX3) (T := TX3) (N := 4) hx hb hts hinX3 hown hK1 hP 1 rfl rfl 2 (by decide) (hts (.fieldLink RX3 20 "KnowledgeModel$Worlds" "count" "I") (List.mem_of_getElem? (i := 1) rfl)) (fun _ h9 => h9) rfl dX3_worldsWith_6 ?_
      refine xtop (y := nI n) (hn) ?_
      refine lv_icmp_ge (tgt := 38) hx hb dX3_worldsWith_9 (by decide) (fun c9 => ?_) (fun c9 => ?_)
      ·
        replace c9 : n ≤ j := k_get c9 (by omega) (by omega)
        refine lv_iload_n hx hb dX3_worldsWith_38 rfl (lv_at hl 2 rfl) ?_
        subst hQ
        have hfin : (fo (fun w r => if bt (M 1 w) pp then r ||| sg w else r) (nI 0) j) = worldsWith M n pp := by (have hje : j = n := by omega); subst hje; rfl
        exact W.iret hx hb hr (fun t ht hW => ⟨⟨_, (), rfl, hfin, trivial⟩, hS.F ht⟩) hS.2.2 dX3_worldsWith_39
      ·
        replace c9 : j < n := k_gef c9 (by omega) (by omega)
        refine lv_aload_n hx hb dX3_worldsWith_12 rfl (lv_at hl 0 rfl) ?_
        refine va_get (D := D) (ci := 3) (v := .ref (a 2)) (C := RX3) (T := TX3) (N := 4) hx hb hts hinX3 hown hK1 hP 1 rfl rfl 0 (by decide) (hts (.fieldLink RX3 9 "KnowledgeModel$Worlds" "atomsAt" "[I") (List.mem_of_getElem? (i := 2) rfl)) (fun _ h9 => h9) rfl dX3_worldsWith_13 ?_
        refine lv_iload_n hx hb dX3_worldsWith_16 rfl (lv_at hl 3 rfl) ?_
        refine xiald (j := j) (q0 := 2) (t0 := 0) hx hb hK1 hP rfl rfl (by omega) (by decide) dX3_worldsWith_17 ?_
        refine lv_iload_n hx hb dX3_worldsWith_18 rfl (lv_at hl 1 rfl) ?_
        refine xcalli (va_runSN (As := [.int (M 1 j), .int (nI pp)]) (rest := []) ⟨hx, hb, hml, hown, hts⟩ (c_X4_contains l (M 1 j) pp (by omega)) ⟨va_cnB 2 hts gX3_worldsWith_X4_contains_n27 rfl rfl rfl hK.2.2.2.2.2.2.2.1 (hts (.initialized RX4) (List.mem_of_getElem? (i := 4) rfl)) (by decide +kernel) ⟨Nat.le_of_ble_eq_true rfl, Nat.le_of_ble_eq_true rfl⟩, hts (.static yX4_contains) (List.mem_of_getElem? (i := 3) rfl), trivial⟩ xpreN rfl rfl hl.1 rfl (lv_room (Nat.le_of_ble_eq_true rfl)) dX3_worldsWith_19 ⟨Nat.le_of_ble_eq_true rfl, Nat.le_of_ble_eq_true rfl⟩) hS hP (fun H locs hP hS => ?_)
        refine lv_if_eq (tgt := 32) hx hb dX3_worldsWith_22 (by decide) (fun c22 => ?_) (fun c22 => ?_)
        ·
          replace c22 := bI_0 c22
          refine lv_iinc (v := (nI (j + 1))) (lv' := [(3, .int (nI (j + 1))), (0, .ref (a 1)), (1, .int (nI pp)), (2, .int (fo (fun w r => if bt (M 1 w) pp then r ||| sg w else r) (nI 0) j))]) hx hb dX3_worldsWith_32 hl (k := 3) rfl (nI_add j 1) (by decide) rfl (fun ls hl => ?_)
          refine lv_goto (tgt := 4) hx hb dX3_worldsWith_35 (by decide) ?_
          have e_1 : (fo (fun w r => if bt (M 1 w) pp then r ||| sg w else r) (nI 0) j) = (fo (fun w r => if bt (M 1 w) pp then r ||| sg w else r) (nI 0) (j + 1)) := by first | rfl | (simp [fo_s, c9, c22]; done) | (simp [fo_s, c9, c22] <;> rfl)
          exact cut4 (j + 1) (by omega) (by omega) _ _ hP hS ls (lcons (lcons (lcons (lcons (lzero hl) hl 0 rfl rfl) hl 3 rfl (congrArg Value.int e_1)) hl 2 rfl rfl) hl 1 rfl rfl)
        ·
          replace c22 := bI_n0 c22
          refine lv_iload_n hx hb dX3_worldsWith_25 rfl (lv_at hl 2 rfl) ?_
          refine lv_iload_n hx hb dX3_worldsWith_26 rfl (lv_at hl 3 rfl) ?_
          refine xcalli (va_runSN (As := [.int (nI j)]) (rest := [.int (fo (fun w r => if bt (M 1 w) pp then r ||| sg w else r) (nI 0) j)]) ⟨hx, hb, hml, hown, hts⟩ (c_X4_single l j) ⟨va_cnB 1 hts gX3_worldsWith_X4_single_n45 rfl rfl rfl hK.2.2.2.2.2.2.1 (hts (.initialized RX4) (List.mem_of_getElem? (i := 4) rfl)) (by decide +kernel) ⟨Nat.le_of_ble_eq_true rfl, Nat.le_of_ble_eq_true rfl⟩, hts (.static yX4_single) (List.mem_of_getElem? (i := 6) rfl), trivial⟩ xpreN rfl rfl hl.1 rfl (lv_room (Nat.le_of_ble_eq_true rfl)) dX3_worldsWith_27 ⟨Nat.le_of_ble_eq_true rfl, Nat.le_of_ble_eq_true rfl⟩) hS hP (fun H locs hP hS => ?_)
          refine lv_ior hx hb dX3_worldsWith_30 ?_
          refine lv_topi (fun x_2 hx_2 => ?_)
          refine lv_istore_n (lv' := [(2, .int x_2), (0, .ref (a 1)), (1, .int (nI pp)), (3, .int (nI j))]) hx hb dX3_worldsWith_31 rfl hl (by decide) rfl (fun ls hl => ?_)
          refine lv_iinc (v := (nI (j + 1))) (lv' := [(3, .int (nI (j + 1))), (2, .int x_2), (0, .ref (a 1)), (1, .int (nI pp))]) hx hb dX3_worldsWith_32 hl (k := 3) rfl (nI_add j 1) (by decide) rfl (fun ls hl => ?_)
          refine lv_goto (tgt := 4) hx hb dX3_worldsWith_35 (by decide) ?_
          have e_3 : x_2 = (fo (fun w r => if bt (M 1 w) pp then r ||| sg w else r) (nI 0) (j + 1)) := by first | rfl | (simp [fo_s, c9, c22, hx_2]; done) | (simp [fo_s, c9, c22, hx_2] <;> rfl)
          exact cut4 (j + 1) (by omega) (by omega) _ _ hP hS ls (lcons (lcons (lcons (lcons (lzero hl) hl 0 rfl rfl) hl 1 rfl (congrArg Value.int e_3)) hl 3 rfl rfl) hl 2 rfl rfl)
  have e_4 : (nI 0) = (fo (fun w r => if bt (M 1 w) pp then r ||| sg w else r) (nI 0) 0) := by first | rfl | (simp [fo_s]; done) | (simp [fo_s] <;> rfl)
  exact cut4 (n + 1) 0 (by omega) (by omega) _ _ hP hS ls (lcons (lcons (lcons (lcons (lzero hl) hl 0 rfl rfl) hl 1 rfl (congrArg Value.int e_4)) hl 3 rfl rfl) hl 2 rfl rfl)

set_option maxHeartbeats 4000000 in
set_option maxRecDepth 100000 in
theorem c_X3_countArrows (l : Launch) (D : va_G) (cs : Nat → ClassId) (a : Nat → Nat) (M : Nat → Nat → Int32) (N : Nat → Int64)  (n : Nat) (ag : Nat) (hag : ag < 4) (hn : M 0 0 = nI n) (hn24 : n ≤ 24) : Met l yX3_countArrows wsX3_countArrows ({ frames := 1, cells := 0, slots := 0, locals := 20 } : Room) (va_Pc [.ref (a 1), .int (nI ag)] (XB D cs (xc cs a M N))) (va_Qi (fun r (_ : Unit) => r = countArr M n ag) (fun _ _ => True) (fun _ => False)) 0 0 (fun _ => False) := by
  refine Met.ofW (cc := cX3_countArrows) (maxL := 4) (ret := (some .int)) (by decide) rfl ?_
  intro p e s m args below meth c s₁ B hml hv
  obtain ⟨rfl, hP, hK⟩ := hv
  have hx := B.exec
  have hb := B.bytes
  have hr := B.returns
  have hts := atoms_spec (ws := wsX3_countArrows) B.pre
  have hown : s.vm.findClass RX3 = some m.cls := findClass_of_methodNamed B.named
  have hlocks := B.notSynchronized
  have hK1 := hK.1
  have hinX3 : ∀ w ∈ wsX30, w ∈ wsX3_countArrows := fun w h => List.mem_cons_of_mem _ (List.mem_append_right _ h)
  have hS : va_S (fun _ => False) s.heap s.heap [] := va_S.rf
  have hl := lv_entry ([.ref (a 1), .int (nI ag)]) (n := 4) (Nat.le_of_ble_eq_true rfl)
  rw [lg_entry_eq]
  generalize (lg_sl ([.ref (a 1), .int (nI ag)]) ++ List.replicate (4 - (lg_sl ([.ref (a 1), .int (nI ag)])).length) Slot.unset).toArray = ls at hl ⊢
  have hl : lv_has ls 4 [(0, .ref (a 1)), (1, .int (nI ag))] := hl
  refine W_Q (fun Q hQ => ?_)
  show W p l e ({ frames := 1, cells := 0, slots := 0, locals := 20 } : Room) s m ([.ref (a 1), .int (nI ag)] : List Value).toArray below meth c s.heap [] 0 0 Q (F0 m 0 ls [])
  refine lv_iconst (v := (nI 0)) hx hb dX3_countArrows_0 (by decide) ?_
  refine lv_istore_n (lv' := [(2, .int (nI 0)), (0, .ref (a 1)), (1, .int (nI ag))]) hx hb dX3_countArrows_1 rfl hl (by decide) rfl (fun ls hl => ?_)
  refine lv_iconst (v := (nI 0)) hx hb dX3_countArrows_2 (by decide) ?_
  refine lv_istore_n (lv' := [(3, .int (nI 0)), (2, .int (nI 0)), (0, .ref (a 1)), (1, .int (nI ag))]) hx hb dX3_countArrows_3 rfl hl (by decide) rfl (fun ls hl => ?_)
  have cut4 : ∀ (f4 : Nat) (j : Nat) (hj : j ≤ n), n + 1 ≤ j + f4 → ∀ (H : Heap) (locs : List Loc), va_P D vwCl (xc cs a M N) H → va_S (fun _ => False) s.heap H locs → ∀ (ls : Array Slot), lv_has ls 4 [(0, .ref (a 1)), (1, .int (nI ag)), (2, .int (fo (fun w r => r + bc (M (2 + ag) w)) (nI 0) j)), (3, .int (nI j))] → W p l e ({ frames := 1, cells := 0, slots := 0, locals := 20 } : Room) s m ([.ref (a 1), .int (nI ag)] : List Value).toArray below meth c H locs 0 0 Q (F0 m 4 ls []) := by
    intro f4
    induction f4 with
    | zero => intro j hj hfu4; exact absurd hfu4 (by omega)
    | succ f4 cut4 =>
      intro j hj hfu4 H locs hP hS ls hl
      refine lv_iload_n hx hb dX3_countArrows_4 rfl (lv_at hl 3 rfl) ?_
      refine lv_aload_n hx hb dX3_countArrows_5 rfl (lv_at hl 0 rfl) ?_
      refine va_get (D := D) (ci := 3) (v := .int (M 0 0)) (C := RX3) (T := TX3) (N := 4) hx hb hts hinX3 hown hK1 hP 1 rfl rfl 2 (by decide) (hts (.fieldLink RX3 20 "KnowledgeModel$Worlds" "count" "I") (List.mem_of_getElem? (i := 1) rfl)) (fun _ h9 => h9) rfl dX3_countArrows_6 ?_
      refine xtop (y := nI n) (hn) ?_
      refine lv_icmp_ge (tgt := 32) hx hb dX3_countArrows_9 (by decide) (fun c9 => ?_) (fun c9 => ?_)
      ·
        replace c9 : n ≤ j := k_get c9 (by omega) (by omega)
        refine lv_iload_n hx hb dX3_countArrows_32 rfl (lv_at hl 2 rfl) ?_
        subst hQ
        have hfin : (fo (fun w r => r + bc (M (2 + ag) w)) (nI 0) j) = countArr M n ag := by (have hje : j = n := by omega); subst hje; rfl
        exact W.iret hx hb hr (fun t ht hW => ⟨⟨_, (), rfl, hfin, trivial⟩, hS.F ht⟩) hS.2.2 dX3_countArrows_33
      ·
        replace c9 : j < n := k_gef c9 (by omega) (by omega)
        refine lv_iload_n hx hb dX3_countArrows_12 rfl (lv_at hl 2 rfl) ?_
        refine lv_aload_n hx hb dX3_countArrows_13 rfl (lv_at hl 0 rfl) ?_
        refine va_get (D := D) (ci := 3) (v := .ref (a 3)) (C := RX3) (T := TX3) (N := 4) hx hb hts hinX3 hown hK1 hP 1 rfl rfl 1 (by decide) (hts (.fieldLink RX3 17 "KnowledgeModel$Worlds" "arrows" "[[I") (List.mem_of_getElem? (i := 2) rfl)) (fun _ h9 => h9) rfl dX3_countArrows_14 ?_
        refine lv_iload_n hx hb dX3_countArrows_17 rfl (lv_at hl 1 rfl) ?_
        refine xaald (j := ag) (q0 := 3) (t0 := 2) (f := fun i => a (4 + i)) hx hb hK1 hP rfl rfl (by omega) (by decide) dX3_countArrows_18 ?_
        refine lv_iload_n hx hb dX3_countArrows_19 rfl (lv_at hl 3 rfl) ?_
        refine xiald (j := j) (q0 := (4 + ag)) (t0 := 0) hx hb hK1 hP (xg_ar (by omega)) rfl (by omega) (by decide) dX3_countArrows_20 ?_
        refine xcalli (va_runS (As := [.int (M (2 + ag) j)]) (rest := [.int (fo (fun w r => r + bc (M (2 + ag) w)) (nI 0) j)]) ⟨hx, hb, hml, hown, hts⟩ (c_J6_bitCount_0f7a4 l (M (2 + ag) j)) (va_cwS 1 hts gX3_countArrows_J6_bitCount_0f7a4 rfl rfl rfl (by decide +kernel) ⟨Nat.le_of_ble_eq_true rfl, Nat.le_of_ble_eq_true rfl⟩) xpreN rfl rfl hl.1 rfl (lv_room (Nat.le_of_ble_eq_true rfl)) dX3_countArrows_21 ⟨Nat.le_of_ble_eq_true rfl, Nat.le_of_ble_eq_true rfl⟩) hS hP (fun H locs hP hS => ?_)
        refine lv_iadd hx hb dX3_countArrows_24 ?_
        refine lv_topi (fun x_1 hx_1 => ?_)
        refine lv_istore_n (lv' := [(2, .int x_1), (0, .ref (a 1)), (1, .int (nI ag)), (3, .int (nI j))]) hx hb dX3_countArrows_25 rfl hl (by decide) rfl (fun ls hl => ?_)
        refine lv_iinc (v := (nI (j + 1))) (lv' := [(3, .int (nI (j + 1))), (2, .int x_1), (0, .ref (a 1)), (1, .int (nI ag))]) hx hb dX3_countArrows_26 hl (k := 3) rfl (nI_add j 1) (by decide) rfl (fun ls hl => ?_)
        refine lv_goto (tgt := 4) hx hb dX3_countArrows_29 (by decide) ?_
        have e_2 : x_1 = (fo (fun w r => r + bc (M (2 + ag) w)) (nI 0) (j + 1)) := by first | rfl | (simp [fo_s, c9, hx_1]; done) | (simp [fo_s, c9, hx_1] <;> rfl)
        exact cut4 (j + 1) (by omega) (by omega) _ _ hP hS ls (lcons (lcons (lcons (lcons (lzero hl) hl 0 rfl rfl) hl 1 rfl (congrArg Value.int e_2)) hl 3 rfl rfl) hl 2 rfl rfl)
  have e_3 : (nI 0) = (fo (fun w r => r + bc (M (2 + ag) w)) (nI 0) 0) := by first | rfl | (simp [fo_s]; done) | (simp [fo_s] <;> rfl)
  exact cut4 (n + 1) 0 (by omega) (by omega) _ _ hP hS ls (lcons (lcons (lcons (lcons (lzero hl) hl 0 rfl rfl) hl 1 rfl (congrArg Value.int e_3)) hl 3 rfl rfl) hl 2 rfl rfl)

set_option maxHeartbeats 4000000 in
set_option maxRecDepth 100000 in
theorem c_X3_isReflexive (l : Launch) (D : va_G) (cs : Nat → ClassId) (a : Nat → Nat) (M : Nat → Nat → Int32) (N : Nat → Int64)  (n : Nat) (ag : Nat) (hag : ag < 4) (hn : M 0 0 = nI n) (hn24 : n ≤ 24) : Met l yX3_isReflexive wsX3_isReflexive ({ frames := 1, cells := 0, slots := 0, locals := 21 } : Room) (va_Pc [.ref (a 1), .int (nI ag)] (XB D cs (xc cs a M N))) (va_Qi (fun r (_ : Unit) => r = bI (isRefl M n ag)) (fun _ _ => True) (fun _ => False)) 0 0 (fun _ => False) := by
  refine Met.ofW (cc := cX3_isReflexive) (maxL := 3) (ret := (some .boolean)) (by decide) rfl ?_
  intro p e s m args below meth c s₁ B hml hv
  obtain ⟨rfl, hP, hK⟩ := hv
  have hx := B.exec
  have hb := B.bytes
  have hr := B.returns
  have hts := atoms_spec (ws := wsX3_isReflexive) B.pre
  have hown : s.vm.findClass RX3 = some m.cls := findClass_of_methodNamed B.named
  have hlocks := B.notSynchronized
  have hK1 := hK.1
  have hinX3 : ∀ w ∈ wsX30, w ∈ wsX3_isReflexive := fun w h => List.mem_cons_of_mem _ (List.mem_append_right _ h)
  have hS : va_S (fun _ => False) s.heap s.heap [] := va_S.rf
  have hl := lv_entry ([.ref (a 1), .int (nI ag)]) (n := 3) (Nat.le_of_ble_eq_true rfl)
  rw [lg_entry_eq]
  generalize (lg_sl ([.ref (a 1), .int (nI ag)]) ++ List.replicate (3 - (lg_sl ([.ref (a 1), .int (nI ag)])).length) Slot.unset).toArray = ls at hl ⊢
  have hl : lv_has ls 3 [(0, .ref (a 1)), (1, .int (nI ag))] := hl
  refine W_Q (fun Q hQ => ?_)
  show W p l e ({ frames := 1, cells := 0, slots := 0, locals := 21 } : Room) s m ([.ref (a 1), .int (nI ag)] : List Value).toArray below meth c s.heap [] 0 0 Q (F0 m 0 ls [])
  refine lv_iconst (v := (nI 0)) hx hb dX3_isReflexive_0 (by decide) ?_
  refine lv_istore_n (lv' := [(2, .int (nI 0)), (0, .ref (a 1)), (1, .int (nI ag))]) hx hb dX3_isReflexive_1 rfl hl (by decide) rfl (fun ls hl => ?_)
  have cut2 : ∀ (f2 : Nat) (j : Nat) (hj : j ≤ n) (ha : allB (fun w => bt (M (2 + ag) w) w) j = true), n + 1 ≤ j + f2 → ∀ (H : Heap) (locs : List Loc), va_P D vwCl (xc cs a M N) H → va_S (fun _ => False) s.heap H locs → ∀ (ls : Array Slot), lv_has ls 3 [(0, .ref (a 1)), (1, .int (nI ag)), (2, .int (nI j))] → W p l e ({ frames := 1, cells := 0, slots := 0, locals := 21 } : Room) s m ([.ref (a 1), .int (nI ag)] : List Value).toArray below meth c H locs 0 0 Q (F0 m 2 ls []) := by
    intro f2
    induction f2 with
    | zero => intro j hj ha hfu2; exact absurd hfu2 (by omega)
    | succ f2 cut2 =>
      intro j hj ha hfu2 H locs hP hS ls hl
      refine lv_iload_n hx hb dX3_isReflexive_2 rfl (lv_at hl 2 rfl) ?_
      refine lv_aload_n hx hb dX3_isReflexive_3 rfl (lv_at hl 0 rfl) ?_
      refine va_get (D := D) (ci := 3) (v := .int (M 0 0)) (C := RX3) (T := TX3) (N := 4) hx hb hts hinX3 hown hK1 hP 1 rfl rfl 2 (by decide) (hts (.fieldLink RX3 20 "KnowledgeModel$Worlds" "count" "I") (List.mem_of_getElem? (i := 1) rfl)) (fun _ h9 => h9) rfl dX3_isReflexive_4 ?_
      refine xtop (y := nI n) (hn) ?_
      refine lv_icmp_ge (tgt := 33) hx hb dX3_isReflexive_7 (by decide) (fun c7 => ?_) (fun c7 => ?_)
      ·
        replace c7 : n ≤ j := k_get c7 (by omega) (by omega)
        refine lv_iconst (v := (nI 1)) hx hb dX3_isReflexive_33 (by decide) ?_
        subst hQ
        have hfin : (nI 1) = bI (isRefl M n ag) := by (have hje : j = n := by omega); subst hje; unfold isRefl; rw [ha]; rfl
        exact W.zret (ty := .boolean) hx hb hr (by decide) (fun t ht hW => ⟨⟨_, (), rfl, hfin, trivial⟩, hS.F ht⟩) hS.2.2 dX3_isReflexive_34
      ·
        replace c7 : j < n := k_gef c7 (by omega) (by omega)
        refine lv_aload_n hx hb dX3_isReflexive_10 rfl (lv_at hl 0 rfl) ?_
        refine va_get (D := D) (ci := 3) (v := .ref (a 3)) (C := RX3) (T := TX3) (N := 4) hx hb hts hinX3 hown hK1 hP 1 rfl rfl 1 (by decide) (hts (.fieldLink RX3 17 "KnowledgeModel$Worlds" "arrows" "[[I") (List.mem_of_getElem? (i := 2) rfl)) (fun _ h9 => h9) rfl dX3_isReflexive_11 ?_
        refine lv_iload_n hx hb dX3_isReflexive_14 rfl (lv_at hl 1 rfl) ?_
        refine xaald (j := ag) (q0 := 3) (t0 := 2) (f := fun i => a (4 + i)) hx hb hK1 hP rfl rfl (by omega) (by decide) dX3_isReflexive_15 ?_
        refine lv_iload_n hx hb dX3_isReflexive_16 rfl (lv_at hl 2 rfl) ?_
        refine xiald (j := j) (q0 := (4 + ag)) (t0 := 0) hx hb hK1 hP (xg_ar (by omega)) rfl (by omega) (by decide) dX3_isReflexive_17 ?_
        refine lv_iload_n hx hb dX3_isReflexive_18 rfl (lv_at hl 2 rfl) ?_
        refine xcalli (va_runSN (As := [.int (M (2 + ag) j), .int (nI j)]) (rest := []) ⟨hx, hb, hml, hown, hts⟩ (c_X4_contains l (M (2 + ag) j) j (by omega)) ⟨va_cnB 2 hts gX3_isReflexive_X4_contains_n27 rfl rfl rfl hK.2.2.2.2.2.2.2.1 (hts (.initialized RX4) (List.mem_of_getElem? (i := 4) rfl)) (by decide +kernel) ⟨Nat.le_of_ble_eq_true rfl, Nat.le_of_ble_eq_true rfl⟩, hts (.static yX4_contains) (List.mem_of_getElem? (i := 3) rfl), trivial⟩ xpreN rfl rfl hl.1 rfl (lv_room (Nat.le_of_ble_eq_true rfl)) dX3_isReflexive_19 ⟨Nat.le_of_ble_eq_true rfl, Nat.le_of_ble_eq_true rfl⟩) hS hP (fun H locs hP hS => ?_)
        refine lv_if_ne (tgt := 27) hx hb dX3_isReflexive_22 (by decide) (fun c22 => ?_) (fun c22 => ?_)
        ·
          replace c22 := bI_n0 c22
          refine lv_iinc (v := (nI (j + 1))) (lv' := [(2, .int (nI (j + 1))), (0, .ref (a 1)), (1, .int (nI ag))]) hx hb dX3_isReflexive_27 hl (k := 2) rfl (nI_add j 1) (by decide) rfl (fun ls hl => ?_)
          refine lv_goto (tgt := 2) hx hb dX3_isReflexive_30 (by decide) ?_
          exact cut2 (j + 1) (by omega) (by simp [allB, ha, c7, c22]) (by omega) _ _ hP hS ls (lcons (lcons (lcons (lzero hl) hl 0 rfl rfl) hl 2 rfl rfl) hl 1 rfl rfl)
        ·
          replace c22 := bI_0 c22
          refine lv_iconst (v := (nI 0)) hx hb dX3_isReflexive_25 (by decide) ?_
          subst hQ
          have hfin : (nI 0) = bI (isRefl M n ag) := by exact (congrArg bI (show isRefl M n ag = false from allB_not (k := j) (by omega) c22)).symm
          exact W.zret (ty := .boolean) hx hb hr (by decide) (fun t ht hW => ⟨⟨_, (), rfl, hfin, trivial⟩, hS.F ht⟩) hS.2.2 dX3_isReflexive_26
  exact cut2 (n + 1) 0 (by omega) (by rfl) (by omega) _ _ hP hS ls (lcons (lcons (lcons (lzero hl) hl 0 rfl rfl) hl 2 rfl rfl) hl 1 rfl rfl)

set_option maxHeartbeats 4000000 in
set_option maxRecDepth 100000 in
theorem c_X3_isSymmetric (l : Launch) (D : va_G) (cs : Nat → ClassId) (a : Nat → Nat) (M : Nat → Nat → Int32) (N : Nat → Int64)  (n : Nat) (ag : Nat) (hag : ag < 4) (hn : M 0 0 = nI n) (hn24 : n ≤ 24) : Met l yX3_isSymmetric wsX3_isSymmetric ({ frames := 1, cells := 0, slots := 0, locals := 21 } : Room) (va_Pc [.ref (a 1), .int (nI ag)] (XB D cs (xc cs a M N))) (va_Qi (fun r (_ : Unit) => r = bI (isSym M n ag)) (fun _ _ => True) (fun _ => False)) 0 0 (fun _ => False) := by
  refine Met.ofW (cc := cX3_isSymmetric) (maxL := 4) (ret := (some .boolean)) (by decide) rfl ?_
  intro p e s m args below meth c s₁ B hml hv
  obtain ⟨rfl, hP, hK⟩ := hv
  have hx := B.exec
  have hb := B.bytes
  have hr := B.returns
  have hts := atoms_spec (ws := wsX3_isSymmetric) B.pre
  have hown : s.vm.findClass RX3 = some m.cls := findClass_of_methodNamed B.named
  have hlocks := B.notSynchronized
  have hK1 := hK.1
  have hinX3 : ∀ w ∈ wsX30, w ∈ wsX3_isSymmetric := fun w h => List.mem_cons_of_mem _ (List.mem_append_right _ h)
  have hS : va_S (fun _ => False) s.heap s.heap [] := va_S.rf
  have hl := lv_entry ([.ref (a 1), .int (nI ag)]) (n := 4) (Nat.le_of_ble_eq_true rfl)
  rw [lg_entry_eq]
  generalize (lg_sl ([.ref (a 1), .int (nI ag)]) ++ List.replicate (4 - (lg_sl ([.ref (a 1), .int (nI ag)])).length) Slot.unset).toArray = ls at hl ⊢
  have hl : lv_has ls 4 [(0, .ref (a 1)), (1, .int (nI ag))] := hl
  refine W_Q (fun Q hQ => ?_)
  show W p l e ({ frames := 1, cells := 0, slots := 0, locals := 21 } : Room) s m ([.ref (a 1), .int (nI ag)] : List Value).toArray below meth c s.heap [] 0 0 Q (F0 m 0 ls [])
  refine lv_iconst (v := (nI 0)) hx hb dX3_isSymmetric_0 (by decide) ?_
  refine lv_istore_n (lv' := [(2, .int (nI 0)), (0, .ref (a 1)), (1, .int (nI ag))]) hx hb dX3_isSymmetric_1 rfl hl (by decide) rfl (fun ls hl => ?_)
  have cut2 : ∀ (f2 : Nat) (j : Nat) (hj : j ≤ n) (ha : allB (fun v => allB (fun w => !bt (M (2 + ag) v) w || bt (M (2 + ag) w) v) n) j = true), n + 1 ≤ j + f2 → ∀ (H : Heap) (locs : List Loc), va_P D vwCl (xc cs a M N) H → va_S (fun _ => False) s.heap H locs → ∀ (ls : Array Slot), lv_has ls 4 [(0, .ref (a 1)), (1, .int (nI ag)), (2, .int (nI j))] → W p l e ({ frames := 1, cells := 0, slots := 0, locals := 21 } : Room) s m ([.ref (a 1), .int (nI ag)] : List Value).toArray below meth c H locs 0 0 Q (F0 m 2 ls []) := by
    intro f2
    induction f2 with
    | zero => intro j hj ha hfu2; exact absurd hfu2 (by omega)
    | succ f2 cut2 =>
      intro j hj ha hfu2 H locs hP hS ls hl
      refine lv_iload_n hx hb dX3_isSymmetric_2 rfl (lv_at hl 2 rfl) ?_
      refine lv_aload_n hx hb dX3_isSymmetric_3 rfl (lv_at hl 0 rfl) ?_
      refine va_get (D := D) (ci := 3) (v := .int (M 0 0)) (C := RX3) (T := TX3) (N := 4) hx hb hts hinX3 hown hK1 hP 1 rfl rfl 2 (by decide) (hts (.fieldLink RX3 20 "KnowledgeModel$Worlds" "count" "I") (List.mem_of_getElem? (i := 1) rfl)) (fun _ h9 => h9) rfl dX3_isSymmetric_4 ?_
      refine xtop (y := nI n) (hn) ?_
      refine lv_icmp_ge (tgt := 64) hx hb dX3_isSymmetric_7 (by decide) (fun c7 => ?_) (fun c7 => ?_)
      ·
        replace c7 : n ≤ j := k_get c7 (by omega) (by omega)
        refine lv_iconst (v := (nI 1)) hx hb dX3_isSymmetric_64 (by decide) ?_
        subst hQ
        have hfin : (nI 1) = bI (isSym M n ag) := by (have hje : j = n := by omega); subst hje; unfold isSym; rw [ha]; rfl
        exact W.zret (ty := .boolean) hx hb hr (by decide) (fun t ht hW => ⟨⟨_, (), rfl, hfin, trivial⟩, hS.F ht⟩) hS.2.2 dX3_isSymmetric_65
      ·
        replace c7 : j < n := k_gef c7 (by omega) (by omega)
        refine lv_iconst (v := (nI 0)) hx hb dX3_isSymmetric_10 (by decide) ?_
        refine lv_istore_n (lv' := [(3, .int (nI 0)), (0, .ref (a 1)), (1, .int (nI ag)), (2, .int (nI j))]) hx hb dX3_isSymmetric_11 rfl hl (by decide) rfl (fun ls hl => ?_)
        have cut12 : ∀ (f12 : Nat) (k : Nat) (hk : k ≤ n) (hb2 : allB (fun w => !bt (M (2 + ag) j) w || bt (M (2 + ag) w) j) k = true), n + 1 ≤ k + f12 → ∀ (H : Heap) (locs : List Loc), va_P D vwCl (xc cs a M N) H → va_S (fun _ => False) s.heap H locs → ∀ (ls : Array Slot), lv_has ls 4 [(0, .ref (a 1)), (1, .int (nI ag)), (2, .int (nI j)), (3, .int (nI k))] → W p l e ({ frames := 1, cells := 0, slots := 0, locals := 21 } : Room) s m ([.ref (a 1), .int (nI ag)] : List Value).toArray below meth c H locs 0 0 Q (F0 m 12 ls []) := by
          intro f12
          induction f12 with
          | zero => intro k hk hb2 hfu12; exact absurd hfu12 (by omega)
          | succ f12 cut12 =>
            intro k hk hb2 hfu12 H locs hP hS ls hl
            refine lv_iload_n hx hb dX3_isSymmetric_12 rfl (lv_at hl 3 rfl) ?_
            refine lv_aload_n hx hb dX3_isSymmetric_13 rfl (lv_at hl 0 rfl) ?_
            refine va_get (D := D) (ci := 3) (v := .int (M 0 0)) (C := RX3) (T := TX3) (N := 4) hx hb hts hinX3 hown hK1 hP 1 rfl rfl 2 (by decide) (hts (.fieldLink RX3 20 "KnowledgeModel$Worlds" "count" "I") (List.mem_of_getElem? (i := 1) rfl)) (fun _ h9 => h9) rfl dX3_isSymmetric_14 ?_
            refine xtop (y := nI n) (hn) ?_
            refine lv_icmp_ge (tgt := 58) hx hb dX3_isSymmetric_17 (by decide) (fun c17 => ?_) (fun c17 => ?_)
            ·
              replace c17 : n ≤ k := k_get c17 (by omega) (by omega)
              refine lv_iinc (v := (nI (j + 1))) (lv' := [(2, .int (nI (j + 1))), (0, .ref (a 1)), (1, .int (nI ag)), (3, .int (nI k))]) hx hb dX3_isSymmetric_58 hl (k := 2) rfl (nI_add j 1) (by decide) rfl (fun ls hl => ?_)
              refine lv_goto (tgt := 2) hx hb dX3_isSymmetric_61 (by decide) ?_
              exact cut2 (j + 1) (by omega) (by (have hke : k = n := by omega); subst hke; show (allB _ j && _) = true; rw [ha]; exact hb2) (by omega) _ _ hP hS ls (lcons (lcons (lcons (lzero hl) hl 0 rfl rfl) hl 2 rfl rfl) hl 1 rfl rfl)
            ·
              replace c17 : k < n := k_gef c17 (by omega) (by omega)
              refine lv_aload_n hx hb dX3_isSymmetric_20 rfl (lv_at hl 0 rfl) ?_
              refine va_get (D := D) (ci := 3) (v := .ref (a 3)) (C := RX3) (T := TX3) (N := 4) hx hb hts hinX3 hown hK1 hP 1 rfl rfl 1 (by decide) (hts (.fieldLink RX3 17 "KnowledgeModel$Worlds" "arrows" "[[I") (List.mem_of_getElem? (i := 2) rfl)) (fun _ h9 => h9) rfl dX3_isSymmetric_21 ?_
              refine lv_iload_n hx hb dX3_isSymmetric_24 rfl (lv_at hl 1 rfl) ?_
              refine xaald (j := ag) (q0 := 3) (t0 := 2) (f := fun i => a (4 + i)) hx hb hK1 hP rfl rfl (by omega) (by decide) dX3_isSymmetric_25 ?_
              refine lv_iload_n hx hb dX3_isSymmetric_26 rfl (lv_at hl 2 rfl) ?_
              refine xiald (j := j) (q0 := (4 + ag)) (t0 := 0) hx hb hK1 hP (xg_ar (by omega)) rfl (by omega) (by decide) dX3_isSymmetric_27 ?_
              refine lv_iload_n hx hb dX3_isSymmetric_28 rfl (lv_at hl 3 rfl) ?_
              refine xcalli (va_runSN (As := [.int (M (2 + ag) j), .int (nI k)]) (rest := []) ⟨hx, hb, hml, hown, hts⟩ (c_X4_contains l (M (2 + ag) j) k (by omega)) ⟨va_cnB 2 hts gX3_isSymmetric_X4_contains_n27 rfl rfl rfl hK.2.2.2.2.2.2.2.1 (hts (.initialized RX4) (List.mem_of_getElem? (i := 4) rfl)) (by decide +kernel) ⟨Nat.le_of_ble_eq_true rfl, Nat.le_of_ble_eq_true rfl⟩, hts (.static yX4_contains) (List.mem_of_getElem? (i := 3) rfl), trivial⟩ xpreN rfl rfl hl.1 rfl (lv_room (Nat.le_of_ble_eq_true rfl)) dX3_isSymmetric_29 ⟨Nat.le_of_ble_eq_true rfl, Nat.le_of_ble_eq_true rfl⟩) hS hP (fun H locs hP hS => ?_)
              refine lv_if_eq (tgt := 52) hx hb dX3_isSymmetric_32 (by decide) (fun c32 => ?_) (fun c32 => ?_)
              ·
                replace c32 := bI_0 c32
                refine lv_iinc (v := (nI (k + 1))) (lv' := [(3, .int (nI (k + 1))), (0, .ref (a 1)), (1, .int (nI ag)), (2, .int (nI j))]) hx hb dX3_isSymmetric_52 hl (k := 3) rfl (nI_add k 1) (by decide) rfl (fun ls hl => ?_)
                refine lv_goto (tgt := 12) hx hb dX3_isSymmetric_55 (by decide) ?_
                exact cut12 (k + 1) (by omega) (by simp [allB, hb2, c17, c32]) (by omega) _ _ hP hS ls (lcons (lcons (lcons (lcons (lzero hl) hl 0 rfl rfl) hl 3 rfl rfl) hl 2 rfl rfl) hl 1 rfl rfl)
              ·
                replace c32 := bI_n0 c32
                refine lv_aload_n hx hb dX3_isSymmetric_35 rfl (lv_at hl 0 rfl) ?_
                refine va_get (D := D) (ci := 3) (v := .ref (a 3)) (C := RX3) (T := TX3) (N := 4) hx hb hts hinX3 hown hK1 hP 1 rfl rfl 1 (by decide) (hts (.fieldLink RX3 17 "KnowledgeModel$Worlds" "arrows" "[[I") (List.mem_of_getElem? (i := 2) rfl)) (fun _ h9 => h9) rfl dX3_isSymmetric_36 ?_
                refine lv_iload_n hx hb dX3_isSymmetric_39 rfl (lv_at hl 1 rfl) ?_
                refine xaald (j := ag) (q0 := 3) (t0 := 2) (f := fun i => a (4 + i)) hx hb hK1 hP rfl rfl (by omega) (by decide) dX3_isSymmetric_40 ?_
                refine lv_iload_n hx hb dX3_isSymmetric_41 rfl (lv_at hl 3 rfl) ?_
                refine xiald (j := k) (q0 := (4 + ag)) (t0 := 0) hx hb hK1 hP (xg_ar (by omega)) rfl (by omega) (by decide) dX3_isSymmetric_42 ?_
                refine lv_iload_n hx hb dX3_isSymmetric_43 rfl (lv_at hl 2 rfl) ?_
                refine xcalli (va_runSN (As := [.int (M (2 + ag) k), .int (nI j)]) (rest := []) ⟨hx, hb, hml, hown, hts⟩ (c_X4_contains l (M (2 + ag) k) j (by omega)) ⟨va_cnB 2 hts gX3_isSymmetric_X4_contains_n27 rfl rfl rfl hK.2.2.2.2.2.2.2.1 (hts (.initialized RX4) (List.mem_of_getElem? (i := 4) rfl)) (by decide +kernel) ⟨Nat.le_of_ble_eq_true rfl, Nat.le_of_ble_eq_true rfl⟩, hts (.static yX4_contains) (List.mem_of_getElem? (i := 3) rfl), trivial⟩ xpreN rfl rfl hl.1 rfl (lv_room (Nat.le_of_ble_eq_true rfl)) dX3_isSymmetric_44 ⟨Nat.le_of_ble_eq_true rfl, Nat.le_of_ble_eq_true rfl⟩) hS hP (fun H locs hP hS => ?_)
                refine lv_if_ne (tgt := 52) hx hb dX3_isSymmetric_47 (by decide) (fun c47 => ?_) (fun c47 => ?_)
                ·
                  replace c47 := bI_n0 c47
                  refine lv_iinc (v := (nI (k + 1))) (lv' := [(3, .int (nI (k + 1))), (0, .ref (a 1)), (1, .int (nI ag)), (2, .int (nI j))]) hx hb dX3_isSymmetric_52 hl (k := 3) rfl (nI_add k 1) (by decide) rfl (fun ls hl => ?_)
                  refine lv_goto (tgt := 12) hx hb dX3_isSymmetric_55 (by decide) ?_
                  exact cut12 (k + 1) (by omega) (by simp [allB, hb2, c17, c32, c47]) (by omega) _ _ hP hS ls (lcons (lcons (lcons (lcons (lzero hl) hl 0 rfl rfl) hl 3 rfl rfl) hl 2 rfl rfl) hl 1 rfl rfl)
                ·
                  replace c47 := bI_0 c47
                  refine lv_iconst (v := (nI 0)) hx hb dX3_isSymmetric_50 (by decide) ?_
                  subst hQ
                  have hfin : (nI 0) = bI (isSym M n ag) := by exact (congrArg bI (show isSym M n ag = false from allB_not (k := j) (by omega) (allB_not (k := k) (by omega) (by simp only [c32, c47]; rfl)))).symm
                  exact W.zret (ty := .boolean) hx hb hr (by decide) (fun t ht hW => ⟨⟨_, (), rfl, hfin, trivial⟩, hS.F ht⟩) hS.2.2 dX3_isSymmetric_51
        exact cut12 (n + 1) 0 (by omega) (by rfl) (by omega) _ _ hP hS ls (lcons (lcons (lcons (lcons (lzero hl) hl 0 rfl rfl) hl 3 rfl rfl) hl 2 rfl rfl) hl 1 rfl rfl)
  exact cut2 (n + 1) 0 (by omega) (by rfl) (by omega) _ _ hP hS ls (lcons (lcons (lcons (lzero hl) hl 0 rfl rfl) hl 2 rfl rfl) hl 1 rfl rfl)

set_option maxHeartbeats 4000000 in
set_option maxRecDepth 100000 in
theorem c_X3_isTransitive (l : Launch) (D : va_G) (cs : Nat → ClassId) (a : Nat → Nat) (M : Nat → Nat → Int32) (N : Nat → Int64)  (n : Nat) (ag : Nat) (hag : ag < 4) (hn : M 0 0 = nI n) (hn24 : n ≤ 24) : Met l yX3_isTransitive wsX3_isTransitive ({ frames := 1, cells := 0, slots := 0, locals := 21 } : Room) (va_Pc [.ref (a 1), .int (nI ag)] (XB D cs (xc cs a M N))) (va_Qi (fun r (_ : Unit) => r = bI (isTrans M n ag)) (fun _ _ => True) (fun _ => False)) 0 0 (fun _ => False) := by
  refine Met.ofW (cc := cX3_isTransitive) (maxL := 5) (ret := (some .boolean)) (by decide) rfl ?_
  intro p e s m args below meth c s₁ B hml hv
  obtain ⟨rfl, hP, hK⟩ := hv
  have hx := B.exec
  have hb := B.bytes
  have hr := B.returns
  have hts := atoms_spec (ws := wsX3_isTransitive) B.pre
  have hown : s.vm.findClass RX3 = some m.cls := findClass_of_methodNamed B.named
  have hlocks := B.notSynchronized
  have hK1 := hK.1
  have hinX3 : ∀ w ∈ wsX30, w ∈ wsX3_isTransitive := fun w h => List.mem_cons_of_mem _ (List.mem_append_right _ h)
  have hS : va_S (fun _ => False) s.heap s.heap [] := va_S.rf
  have hl := lv_entry ([.ref (a 1), .int (nI ag)]) (n := 5) (Nat.le_of_ble_eq_true rfl)
  rw [lg_entry_eq]
  generalize (lg_sl ([.ref (a 1), .int (nI ag)]) ++ List.replicate (5 - (lg_sl ([.ref (a 1), .int (nI ag)])).length) Slot.unset).toArray = ls at hl ⊢
  have hl : lv_has ls 5 [(0, .ref (a 1)), (1, .int (nI ag))] := hl
  refine W_Q (fun Q hQ => ?_)
  show W p l e ({ frames := 1, cells := 0, slots := 0, locals := 21 } : Room) s m ([.ref (a 1), .int (nI ag)] : List Value).toArray below meth c s.heap [] 0 0 Q (F0 m 0 ls [])
  refine lv_iconst (v := (nI 0)) hx hb dX3_isTransitive_0 (by decide) ?_
  refine lv_istore_n (lv' := [(2, .int (nI 0)), (0, .ref (a 1)), (1, .int (nI ag))]) hx hb dX3_isTransitive_1 rfl hl (by decide) rfl (fun ls hl => ?_)
  have cut2 : ∀ (f2 : Nat) (j : Nat) (hj : j ≤ n) (ha : allB (fun u => allB (fun v => !bt (M (2 + ag) u) v || decide ((M (2 + ag) v &&& (M (2 + ag) u ^^^ (-1))) = 0)) n) j = true), n + 1 ≤ j + f2 → ∀ (H : Heap) (locs : List Loc), va_P D vwCl (xc cs a M N) H → va_S (fun _ => False) s.heap H locs → ∀ (ls : Array Slot), lv_has ls 5 [(0, .ref (a 1)), (1, .int (nI ag)), (2, .int (nI j))] → W p l e ({ frames := 1, cells := 0, slots := 0, locals := 21 } : Room) s m ([.ref (a 1), .int (nI ag)] : List Value).toArray below meth c H locs 0 0 Q (F0 m 2 ls []) := by
    intro f2
    induction f2 with
    | zero => intro j hj ha hfu2; exact absurd hfu2 (by omega)
    | succ f2 cut2 =>
      intro j hj ha hfu2 H locs hP hS ls hl
      refine lv_iload_n hx hb dX3_isTransitive_2 rfl (lv_at hl 2 rfl) ?_
      refine lv_aload_n hx hb dX3_isTransitive_3 rfl (lv_at hl 0 rfl) ?_
      refine va_get (D := D) (ci := 3) (v := .int (M 0 0)) (C := RX3) (T := TX3) (N := 4) hx hb hts hinX3 hown hK1 hP 1 rfl rfl 2 (by decide) (hts (.fieldLink RX3 20 "KnowledgeModel$Worlds" "count" "I") (List.mem_of_getElem? (i := 1) rfl)) (fun _ h9 => h9) rfl dX3_isTransitive_4 ?_
      refine xtop (y := nI n) (hn) ?_
      refine lv_icmp_ge (tgt := 70) hx hb dX3_isTransitive_7 (by decide) (fun c7 => ?_) (fun c7 => ?_)
      ·
        replace c7 : n ≤ j := k_get c7 (by omega) (by omega)
        refine lv_iconst (v := (nI 1)) hx hb dX3_isTransitive_70 (by decide) ?_
        subst hQ
        have hfin : (nI 1) = bI (isTrans M n ag) := by (have hje : j = n := by omega); subst hje; unfold isTrans; rw [ha]; rfl
        exact W.zret (ty := .boolean) hx hb hr (by decide) (fun t ht hW => ⟨⟨_, (), rfl, hfin, trivial⟩, hS.F ht⟩) hS.2.2 dX3_isTransitive_71
      ·
        replace c7 : j < n := k_gef c7 (by omega) (by omega)
        refine lv_aload_n hx hb dX3_isTransitive_10 rfl (lv_at hl 0 rfl) ?_
        refine va_get (D := D) (ci := 3) (v := .ref (a 3)) (C := RX3) (T := TX3) (N := 4) hx hb hts hinX3 hown hK1 hP 1 rfl rfl 1 (by decide) (hts (.fieldLink RX3 17 "KnowledgeModel$Worlds" "arrows" "[[I") (List.mem_of_getElem? (i := 2) rfl)) (fun _ h9 => h9) rfl dX3_isTransitive_11 ?_
        refine lv_iload_n hx hb dX3_isTransitive_14 rfl (lv_at hl 1 rfl) ?_
        refine xaald (j := ag) (q0 := 3) (t0 := 2) (f := fun i => a (4 + i)) hx hb hK1 hP rfl rfl (by omega) (by decide) dX3_isTransitive_15 ?_
        refine lv_iload_n hx hb dX3_isTransitive_16 rfl (lv_at hl 2 rfl) ?_
        refine xiald (j := j) (q0 := (4 + ag)) (t0 := 0) hx hb hK1 hP (xg_ar (by omega)) rfl (by omega) (by decide) dX3_isTransitive_17 ?_
        refine lv_topi (fun x_1 hx_1 => ?_)
        refine lv_istore_n (lv' := [(3, .int x_1), (0, .ref (a 1)), (1, .int (nI ag)), (2, .int (nI j))]) hx hb dX3_isTransitive_18 rfl hl (by decide) rfl (fun ls hl => ?_)
        refine lv_iconst (v := (nI 0)) hx hb dX3_isTransitive_19 (by decide) ?_
        refine lv_istore (lv' := [(4, .int (nI 0)), (3, .int x_1), (0, .ref (a 1)), (1, .int (nI ag)), (2, .int (nI j))]) hx hb dX3_isTransitive_20 hl (by decide) rfl (fun ls hl => ?_)
        have cut22 : ∀ (f22 : Nat) (k : Nat) (hk : k ≤ n) (hb2 : allB (fun v => !bt (M (2 + ag) j) v || decide ((M (2 + ag) v &&& (M (2 + ag) j ^^^ (-1))) = 0)) k = true), n + 1 ≤ k + f22 → ∀ (H : Heap) (locs : List Loc), va_P D vwCl (xc cs a M N) H → va_S (fun _ => False) s.heap H locs → ∀ (ls : Array Slot), lv_has ls 5 [(0, .ref (a 1)), (1, .int (nI ag)), (2, .int (nI j)), (3, .int (M (2 + ag) j)), (4, .int (nI k))] → W p l e ({ frames := 1, cells := 0, slots := 0, locals := 21 } : Room) s m ([.ref (a 1), .int (nI ag)] : List Value).toArray below meth c H locs 0 0 Q (F0 m 22 ls []) := by
          intro f22
          induction f22 with
          | zero => intro k hk hb2 hfu22; exact absurd hfu22 (by omega)
          | succ f22 cut22 =>
            intro k hk hb2 hfu22 H locs hP hS ls hl
            refine lv_iload hx hb dX3_isTransitive_22 (lv_at hl 4 rfl) ?_
            refine lv_aload_n hx hb dX3_isTransitive_24 rfl (lv_at hl 0 rfl) ?_
            refine va_get (D := D) (ci := 3) (v := .int (M 0 0)) (C := RX3) (T := TX3) (N := 4) hx hb hts hinX3 hown hK1 hP 1 rfl rfl 2 (by decide) (hts (.fieldLink RX3 20 "KnowledgeModel$Worlds" "count" "I") (List.mem_of_getElem? (i := 1) rfl)) (fun _ h9 => h9) rfl dX3_isTransitive_25 ?_
            refine xtop (y := nI n) (hn) ?_
            refine lv_icmp_ge (tgt := 64) hx hb dX3_isTransitive_28 (by decide) (fun c28 => ?_) (fun c28 => ?_)
            ·
              replace c28 : n ≤ k := k_get c28 (by omega) (by omega)
              refine lv_iinc (v := (nI (j + 1))) (lv' := [(2, .int (nI (j + 1))), (0, .ref (a 1)), (1, .int (nI ag)), (3, .int (M (2 + ag) j)), (4, .int (nI k))]) hx hb dX3_isTransitive_64 hl (k := 2) rfl (nI_add j 1) (by decide) rfl (fun ls hl => ?_)
              refine lv_goto (tgt := 2) hx hb dX3_isTransitive_67 (by decide) ?_
              exact cut2 (j + 1) (by omega) (by (have hke : k = n := by omega); subst hke; show (allB _ j && _) = true; rw [ha]; exact hb2) (by omega) _ _ hP hS ls (lcons (lcons (lcons (lzero hl) hl 0 rfl rfl) hl 2 rfl rfl) hl 1 rfl rfl)
            ·
              replace c28 : k < n := k_gef c28 (by omega) (by omega)
              refine lv_iload_n hx hb dX3_isTransitive_31 rfl (lv_at hl 3 rfl) ?_
              refine lv_iload hx hb dX3_isTransitive_32 (lv_at hl 4 rfl) ?_
              refine xcalli (va_runSN (As := [.int (M (2 + ag) j), .int (nI k)]) (rest := []) ⟨hx, hb, hml, hown, hts⟩ (c_X4_contains l (M (2 + ag) j) k (by omega)) ⟨va_cnB 2 hts gX3_isTransitive_X4_contains_n27 rfl rfl rfl hK.2.2.2.2.2.2.2.1 (hts (.initialized RX4) (List.mem_of_getElem? (i := 4) rfl)) (by decide +kernel) ⟨Nat.le_of_ble_eq_true rfl, Nat.le_of_ble_eq_true rfl⟩, hts (.static yX4_contains) (List.mem_of_getElem? (i := 3) rfl), trivial⟩ xpreN rfl rfl hl.1 rfl (lv_room (Nat.le_of_ble_eq_true rfl)) dX3_isTransitive_34 ⟨Nat.le_of_ble_eq_true rfl, Nat.le_of_ble_eq_true rfl⟩) hS hP (fun H locs hP hS => ?_)
              refine lv_if_eq (tgt := 58) hx hb dX3_isTransitive_37 (by decide) (fun c37 => ?_) (fun c37 => ?_)
              ·
                replace c37 := bI_0 c37
                refine lv_iinc (v := (nI (k + 1))) (lv' := [(4, .int (nI (k + 1))), (0, .ref (a 1)), (1, .int (nI ag)), (2, .int (nI j)), (3, .int (M (2 + ag) j))]) hx hb dX3_isTransitive_58 hl (k := 4) rfl (nI_add k 1) (by decide) rfl (fun ls hl => ?_)
                refine lv_goto (tgt := 22) hx hb dX3_isTransitive_61 (by decide) ?_
                exact cut22 (k + 1) (by omega) (by simp only [allB, hb2, decide_true, Bool.not_true, Bool.not_false, Bool.false_or, Bool.true_or, Bool.and_self, c28, c37]) (by omega) _ _ hP hS ls (lcons (lcons (lcons (lcons (lcons (lzero hl) hl 0 rfl rfl) hl 4 rfl rfl) hl 3 rfl rfl) hl 2 rfl rfl) hl 1 rfl rfl)
              ·
                replace c37 := bI_n0 c37
                refine lv_aload_n hx hb dX3_isTransitive_40 rfl (lv_at hl 0 rfl) ?_
                refine va_get (D := D) (ci := 3) (v := .ref (a 3)) (C := RX3) (T := TX3) (N := 4) hx hb hts hinX3 hown hK1 hP 1 rfl rfl 1 (by decide) (hts (.fieldLink RX3 17 "KnowledgeModel$Worlds" "arrows" "[[I") (List.mem_of_getElem? (i := 2) rfl)) (fun _ h9 => h9) rfl dX3_isTransitive_41 ?_
                refine lv_iload_n hx hb dX3_isTransitive_44 rfl (lv_at hl 1 rfl) ?_
                refine xaald (j := ag) (q0 := 3) (t0 := 2) (f := fun i => a (4 + i)) hx hb hK1 hP rfl rfl (by omega) (by decide) dX3_isTransitive_45 ?_
                refine lv_iload hx hb dX3_isTransitive_46 (lv_at hl 4 rfl) ?_
                refine xiald (j := k) (q0 := (4 + ag)) (t0 := 0) hx hb hK1 hP (xg_ar (by omega)) rfl (by omega) (by decide) dX3_isTransitive_48 ?_
                refine lv_iload_n hx hb dX3_isTransitive_49 rfl (lv_at hl 3 rfl) ?_
                refine lv_iconst (v := (-1 : Int32)) hx hb dX3_isTransitive_50 (by decide) ?_
                refine lv_ixor hx hb dX3_isTransitive_51 ?_
                refine lv_iand hx hb dX3_isTransitive_52 ?_
                refine lv_if_eq (tgt := 58) hx hb dX3_isTransitive_53 (by decide) (fun c53 => ?_) (fun c53 => ?_)
                ·
                  refine lv_iinc (v := (nI (k + 1))) (lv' := [(4, .int (nI (k + 1))), (0, .ref (a 1)), (1, .int (nI ag)), (2, .int (nI j)), (3, .int (M (2 + ag) j))]) hx hb dX3_isTransitive_58 hl (k := 4) rfl (nI_add k 1) (by decide) rfl (fun ls hl => ?_)
                  refine lv_goto (tgt := 22) hx hb dX3_isTransitive_61 (by decide) ?_
                  exact cut22 (k + 1) (by omega) (by simp only [allB, hb2, decide_true, Bool.not_true, Bool.not_false, Bool.false_or, Bool.true_or, Bool.and_self, c28, c37, c53]) (by omega) _ _ hP hS ls (lcons (lcons (lcons (lcons (lcons (lzero hl) hl 0 rfl rfl) hl 4 rfl rfl) hl 3 rfl rfl) hl 2 rfl rfl) hl 1 rfl rfl)
                ·
                  refine lv_iconst (v := (nI 0)) hx hb dX3_isTransitive_56 (by decide) ?_
                  subst hQ
                  have hfin : (nI 0) = bI (isTrans M n ag) := by exact (congrArg bI (show isTrans M n ag = false from allB_not (k := j) (by omega) (allB_not (k := k) (by omega) (by simp only [c37, Bool.not_true, Bool.false_or]; exact decide_eq_false c53)))).symm
                  exact W.zret (ty := .boolean) hx hb hr (by decide) (fun t ht hW => ⟨⟨_, (), rfl, hfin, trivial⟩, hS.F ht⟩) hS.2.2 dX3_isTransitive_57
        have e_2 : x_1 = (M (2 + ag) j) := by first | rfl | assumption
        exact cut22 (n + 1) 0 (by omega) (by rfl) (by omega) _ _ hP hS ls (lcons (lcons (lcons (lcons (lcons (lzero hl) hl 0 rfl rfl) hl 1 rfl (congrArg Value.int e_2)) hl 4 rfl rfl) hl 3 rfl rfl) hl 2 rfl rfl)
  exact cut2 (n + 1) 0 (by omega) (by rfl) (by omega) _ _ hP hS ls (lcons (lcons (lcons (lzero hl) hl 0 rfl rfl) hl 2 rfl rfl) hl 1 rfl rfl)

set_option maxHeartbeats 4000000 in
set_option maxRecDepth 100000 in
theorem c_X3_sameAtomsOver (l : Launch) (D : va_G) (cs : Nat → ClassId) (a : Nat → Nat) (M : Nat → Nat → Int32) (N : Nat → Int64)  (n : Nat) (set : Int32) (hn : M 0 0 = nI n) (hn24 : n ≤ 24) : Met l yX3_sameAtomsOver wsX3_sameAtomsOver ({ frames := 1, cells := 0, slots := 0, locals := 21 } : Room) (va_Pc [.ref (a 1), .int set] (XB D cs (xc cs a M N))) (va_Qi (fun r (_ : Unit) => r = sameAt M n set) (fun _ _ => True) (fun _ => False)) 0 0 (fun _ => False) := by
  refine Met.ofW (cc := cX3_sameAtomsOver) (maxL := 5) (ret := (some .int)) (by decide) rfl ?_
  intro p e s m args below meth c s₁ B hml hv
  obtain ⟨rfl, hP, hK⟩ := hv
  have hx := B.exec
  have hb := B.bytes
  have hr := B.returns
  have hts := atoms_spec (ws := wsX3_sameAtomsOver) B.pre
  have hown : s.vm.findClass RX3 = some m.cls := findClass_of_methodNamed B.named
  have hlocks := B.notSynchronized
  have hK1 := hK.1
  have hinX3 : ∀ w ∈ wsX30, w ∈ wsX3_sameAtomsOver := fun w h => List.mem_cons_of_mem _ (List.mem_append_right _ h)
  have hS : va_S (fun _ => False) s.heap s.heap [] := va_S.rf
  have hl := lv_entry ([.ref (a 1), .int set]) (n := 5) (Nat.le_of_ble_eq_true rfl)
  rw [lg_entry_eq]
  generalize (lg_sl ([.ref (a 1), .int set]) ++ List.replicate (5 - (lg_sl ([.ref (a 1), .int set])).length) Slot.unset).toArray = ls at hl ⊢
  have hl : lv_has ls 5 [(0, .ref (a 1)), (1, .int set)] := hl
  refine W_Q (fun Q hQ => ?_)
  show W p l e ({ frames := 1, cells := 0, slots := 0, locals := 21 } : Room) s m ([.ref (a 1), .int set] : List Value).toArray below meth c s.heap [] 0 0 Q (F0 m 0 ls [])
  refine lv_bipush (v := (nI 63)) hx hb dX3_sameAtomsOver_0 (by decide) ?_
  refine lv_istore_n (lv' := [(2, .int (nI 63)), (0, .ref (a 1)), (1, .int set)]) hx hb dX3_sameAtomsOver_2 rfl hl (by decide) rfl (fun ls hl => ?_)
  refine lv_bipush (v := (nI 63)) hx hb dX3_sameAtomsOver_3 (by decide) ?_
  refine lv_istore_n (lv' := [(3, .int (nI 63)), (2, .int (nI 63)), (0, .ref (a 1)), (1, .int set)]) hx hb dX3_sameAtomsOver_5 rfl hl (by decide) rfl (fun ls hl => ?_)
  refine lv_iconst (v := (nI 0)) hx hb dX3_sameAtomsOver_6 (by decide) ?_
  refine lv_istore (lv' := [(4, .int (nI 0)), (3, .int (nI 63)), (2, .int (nI 63)), (0, .ref (a 1)), (1, .int set)]) hx hb dX3_sameAtomsOver_7 hl (by decide) rfl (fun ls hl => ?_)
  have cut9 : ∀ (f9 : Nat) (j : Nat) (hj : j ≤ n), n + 1 ≤ j + f9 → ∀ (H : Heap) (locs : List Loc), va_P D vwCl (xc cs a M N) H → va_S (fun _ => False) s.heap H locs → ∀ (ls : Array Slot), lv_has ls 5 [(0, .ref (a 1)), (1, .int set), (2, .int (fo (fun w r => if bt set w then r &&& M 1 w else r) (nI 63) j)), (3, .int (fo (fun w r => if bt set w then r &&& (M 1 w ^^^ (-1)) else r) (nI 63) j)), (4, .int (nI j))] → W p l e ({ frames := 1, cells := 0, slots := 0, locals := 21 } : Room) s m ([.ref (a 1), .int set] : List Value).toArray below meth c H locs 0 0 Q (F0 m 9 ls []) := by
    intro f9
    induction f9 with
    | zero => intro j hj hfu9; exact absurd hfu9 (by omega)
    | succ f9 cut9 =>
      intro j hj hfu9 H locs hP hS ls hl
      refine lv_iload hx hb dX3_sameAtomsOver_9 (lv_at hl 4 rfl) ?_
      refine lv_aload_n hx hb dX3_sameAtomsOver_11 rfl (lv_at hl 0 rfl) ?_
      refine va_get (D := D) (ci := 3) (v := .int (M 0 0)) (C := RX3) (T := TX3) (N := 4) hx hb hts hinX3 hown hK1 hP 1 rfl rfl 2 (by decide) (hts (.fieldLink RX3 20 "KnowledgeModel$Worlds" "count" "I") (List.mem_of_getElem? (i := 1) rfl)) (fun _ h9 => h9) rfl dX3_sameAtomsOver_12 ?_
      refine xtop (y := nI n) (hn) ?_
      refine lv_icmp_ge (tgt := 55) hx hb dX3_sameAtomsOver_15 (by decide) (fun c15 => ?_) (fun c15 => ?_)
      ·
        replace c15 : n ≤ j := k_get c15 (by omega) (by omega)
        refine lv_iload_n hx hb dX3_sameAtomsOver_55 rfl (lv_at hl 2 rfl) ?_
        refine lv_iload_n hx hb dX3_sameAtomsOver_56 rfl (lv_at hl 3 rfl) ?_
        refine lv_ior hx hb dX3_sameAtomsOver_57 ?_
        subst hQ
        have hfin : ((fo (fun w r => if bt set w then r &&& M 1 w else r) (nI 63) j) ||| (fo (fun w r => if bt set w then r &&& (M 1 w ^^^ (-1)) else r) (nI 63) j)) = sameAt M n set := by (have hje : j = n := by omega); subst hje; rfl
        exact W.iret hx hb hr (fun t ht hW => ⟨⟨_, (), rfl, hfin, trivial⟩, hS.F ht⟩) hS.2.2 dX3_sameAtomsOver_58
      ·
        replace c15 : j < n := k_gef c15 (by omega) (by omega)
        refine lv_iload_n hx hb dX3_sameAtomsOver_18 rfl (lv_at hl 1 rfl) ?_
        refine lv_iload hx hb dX3_sameAtomsOver_19 (lv_at hl 4 rfl) ?_
        refine xcalli (va_runSN (As := [.int set, .int (nI j)]) (rest := []) ⟨hx, hb, hml, hown, hts⟩ (c_X4_contains l set j (by omega)) ⟨va_cnB 2 hts gX3_sameAtomsOver_X4_contains_n27 rfl rfl rfl hK.2.2.2.2.2.2.2.1 (hts (.initialized RX4) (List.mem_of_getElem? (i := 4) rfl)) (by decide +kernel) ⟨Nat.le_of_ble_eq_true rfl, Nat.le_of_ble_eq_true rfl⟩, hts (.static yX4_contains) (List.mem_of_getElem? (i := 3) rfl), trivial⟩ xpreN rfl rfl hl.1 rfl (lv_room (Nat.le_of_ble_eq_true rfl)) dX3_sameAtomsOver_21 ⟨Nat.le_of_ble_eq_true rfl, Nat.le_of_ble_eq_true rfl⟩) hS hP (fun H locs hP hS => ?_)
        refine lv_if_eq (tgt := 49) hx hb dX3_sameAtomsOver_24 (by decide) (fun c24 => ?_) (fun c24 => ?_)
        ·
          replace c24 := bI_0 c24
          refine lv_iinc (v := (nI (j + 1))) (lv' := [(4, .int (nI (j + 1))), (0, .ref (a 1)), (1, .int set), (2, .int (fo (fun w r => if bt set w then r &&& M 1 w else r) (nI 63) j)), (3, .int (fo (fun w r => if bt set w then r &&& (M 1 w ^^^ (-1)) else r) (nI 63) j))]) hx hb dX3_sameAtomsOver_49 hl (k := 4) rfl (nI_add j 1) (by decide) rfl (fun ls hl => ?_)
          refine lv_goto (tgt := 9) hx hb dX3_sameAtomsOver_52 (by decide) ?_
          have e_1 : (fo (fun w r => if bt set w then r &&& (M 1 w ^^^ (-1)) else r) (nI 63) j) = (fo (fun w r => if bt set w then r &&& (M 1 w ^^^ (-1)) else r) (nI 63) (j + 1)) := by first | rfl | (simp [fo_s, c15, c24]; done) | (simp [fo_s, c15, c24] <;> rfl)
          have e_2 : (fo (fun w r => if bt set w then r &&& M 1 w else r) (nI 63) j) = (fo (fun w r => if bt set w then r &&& M 1 w else r) (nI 63) (j + 1)) := by first | rfl | (simp [fo_s, c15, c24]; done) | (simp [fo_s, c15, c24] <;> rfl)
          exact cut9 (j + 1) (by omega) (by omega) _ _ hP hS ls (lcons (lcons (lcons (lcons (lcons (lzero hl) hl 0 rfl rfl) hl 4 rfl (congrArg Value.int e_1)) hl 3 rfl (congrArg Value.int e_2)) hl 2 rfl rfl) hl 1 rfl rfl)
        ·
          replace c24 := bI_n0 c24
          refine lv_iload_n hx hb dX3_sameAtomsOver_27 rfl (lv_at hl 2 rfl) ?_
          refine lv_aload_n hx hb dX3_sameAtomsOver_28 rfl (lv_at hl 0 rfl) ?_
          refine va_get (D := D) (ci := 3) (v := .ref (a 2)) (C := RX3) (T := TX3) (N := 4) hx hb hts hinX3 hown hK1 hP 1 rfl rfl 0 (by decide) (hts (.fieldLink RX3 9 "KnowledgeModel$Worlds" "atomsAt" "[I") (List.mem_of_getElem? (i := 2) rfl)) (fun _ h9 => h9) rfl dX3_sameAtomsOver_29 ?_
          refine lv_iload hx hb dX3_sameAtomsOver_32 (lv_at hl 4 rfl) ?_
          refine xiald (j := j) (q0 := 2) (t0 := 0) hx hb hK1 hP rfl rfl (by omega) (by decide) dX3_sameAtomsOver_34 ?_
          refine lv_iand hx hb dX3_sameAtomsOver_35 ?_
          refine lv_topi (fun x_3 hx_3 => ?_)
          refine lv_istore_n (lv' := [(2, .int x_3), (0, .ref (a 1)), (1, .int set), (3, .int (fo (fun w r => if bt set w then r &&& (M 1 w ^^^ (-1)) else r) (nI 63) j)), (4, .int (nI j))]) hx hb dX3_sameAtomsOver_36 rfl hl (by decide) rfl (fun ls hl => ?_)
          refine lv_iload_n hx hb dX3_sameAtomsOver_37 rfl (lv_at hl 3 rfl) ?_
          refine lv_aload_n hx hb dX3_sameAtomsOver_38 rfl (lv_at hl 1 rfl) ?_
          refine va_get (D := D) (ci := 3) (v := .ref (a 2)) (C := RX3) (T := TX3) (N := 4) hx hb hts hinX3 hown hK1 hP 1 rfl rfl 0 (by decide) (hts (.fieldLink RX3 9 "KnowledgeModel$Worlds" "atomsAt" "[I") (List.mem_of_getElem? (i := 2) rfl)) (fun _ h9 => h9) rfl dX3_sameAtomsOver_39 ?_
          refine lv_iload hx hb dX3_sameAtomsOver_42 (lv_at hl 4 rfl) ?_
          refine xiald (j := j) (q0 := 2) (t0 := 0) hx hb hK1 hP rfl rfl (by omega) (by decide) dX3_sameAtomsOver_44 ?_
          refine lv_iconst (v := (-1 : Int32)) hx hb dX3_sameAtomsOver_45 (by decide) ?_
          refine lv_ixor hx hb dX3_sameAtomsOver_46 ?_
          refine lv_iand hx hb dX3_sameAtomsOver_47 ?_
          refine lv_topi (fun x_4 hx_4 => ?_)
          refine lv_istore_n (lv' := [(3, .int x_4), (2, .int x_3), (0, .ref (a 1)), (1, .int set), (4, .int (nI j))]) hx hb dX3_sameAtomsOver_48 rfl hl (by decide) rfl (fun ls hl => ?_)
          refine lv_iinc (v := (nI (j + 1))) (lv' := [(4, .int (nI (j + 1))), (3, .int x_4), (2, .int x_3), (0, .ref (a 1)), (1, .int set)]) hx hb dX3_sameAtomsOver_49 hl (k := 4) rfl (nI_add j 1) (by decide) rfl (fun ls hl => ?_)
          refine lv_goto (tgt := 9) hx hb dX3_sameAtomsOver_52 (by decide) ?_
          have e_5 : x_4 = (fo (fun w r => if bt set w then r &&& (M 1 w ^^^ (-1)) else r) (nI 63) (j + 1)) := by first | rfl | (simp [fo_s, c15, c24, hx_3, hx_4]; done) | (simp [fo_s, c15, c24, hx_3, hx_4] <;> rfl)
          have e_6 : x_3 = (fo (fun w r => if bt set w then r &&& M 1 w else r) (nI 63) (j + 1)) := by first | rfl | (simp [fo_s, c15, c24, hx_3, hx_4]; done) | (simp [fo_s, c15, c24, hx_3, hx_4] <;> rfl)
          exact cut9 (j + 1) (by omega) (by omega) _ _ hP hS ls (lcons (lcons (lcons (lcons (lcons (lzero hl) hl 0 rfl rfl) hl 1 rfl (congrArg Value.int e_5)) hl 2 rfl (congrArg Value.int e_6)) hl 4 rfl rfl) hl 3 rfl rfl)
  have e_7 : (nI 63) = (fo (fun w r => if bt set w then r &&& (M 1 w ^^^ (-1)) else r) (nI 63) 0) := by first | rfl | (simp [fo_s]; done) | (simp [fo_s] <;> rfl)
  have e_8 : (nI 63) = (fo (fun w r => if bt set w then r &&& M 1 w else r) (nI 63) 0) := by first | rfl | (simp [fo_s]; done) | (simp [fo_s] <;> rfl)
  exact cut9 (n + 1) 0 (by omega) (by omega) _ _ hP hS ls (lcons (lcons (lcons (lcons (lcons (lzero hl) hl 0 rfl rfl) hl 1 rfl (congrArg Value.int e_7)) hl 2 rfl (congrArg Value.int e_8)) hl 4 rfl rfl) hl 3 rfl rfl)

set_option maxHeartbeats 4000000 in
set_option maxRecDepth 100000 in
theorem c_X3_reachableFrom (l : Launch) (D : va_G) (cs : Nat → ClassId) (a : Nat → Nat) (M : Nat → Nat → Int32) (N : Nat → Int64)  (n : Nat) (g : Int32) (fr : Nat) (hfr : fr < 24) (hn : M 0 0 = nI n) (hn24 : n ≤ 24) : Met l yX3_reachableFrom wsX3_reachableFrom ({ frames := 2, cells := 0, slots := 0, locals := 45 } : Room) (va_Pc [.ref (a 1), .int g, .int (nI fr)] (XB D cs (xc cs a M N))) (va_Qi (fun r (_ : Unit) => r = reachF M n g fr) (fun _ _ => True) (fun _ => False)) 0 0 (fun _ => False) := by
  refine Met.ofW (cc := cX3_reachableFrom) (maxL := 7) (ret := (some .int)) (by decide) rfl ?_
  intro p e s m args below meth c s₁ B hml hv
  obtain ⟨rfl, hP, hK⟩ := hv
  have hx := B.exec
  have hb := B.bytes
  have hr := B.returns
  have hts := atoms_spec (ws := wsX3_reachableFrom) B.pre
  have hown : s.vm.findClass RX3 = some m.cls := findClass_of_methodNamed B.named
  have hlocks := B.notSynchronized
  have hK1 := hK.1
  have hinX3 : ∀ w ∈ wsX30, w ∈ wsX3_reachableFrom := fun w h => List.mem_cons_of_mem _ (List.mem_append_right _ h)
  have hS : va_S (fun _ => False) s.heap s.heap [] := va_S.rf
  have hl := lv_entry ([.ref (a 1), .int g, .int (nI fr)]) (n := 7) (Nat.le_of_ble_eq_true rfl)
  rw [lg_entry_eq]
  generalize (lg_sl ([.ref (a 1), .int g, .int (nI fr)]) ++ List.replicate (7 - (lg_sl ([.ref (a 1), .int g, .int (nI fr)])).length) Slot.unset).toArray = ls at hl ⊢
  have hl : lv_has ls 7 [(0, .ref (a 1)), (1, .int g), (2, .int (nI fr))] := hl
  refine W_Q (fun Q hQ => ?_)
  show W p l e ({ frames := 2, cells := 0, slots := 0, locals := 45 } : Room) s m ([.ref (a 1), .int g, .int (nI fr)] : List Value).toArray below meth c s.heap [] 0 0 Q (F0 m 0 ls [])
  refine lv_aload_n hx hb dX3_reachableFrom_0 rfl (lv_at hl 0 rfl) ?_
  refine lv_iload_n hx hb dX3_reachableFrom_1 rfl (lv_at hl 1 rfl) ?_
  refine lv_iload_n hx hb dX3_reachableFrom_2 rfl (lv_at hl 2 rfl) ?_
  refine xcalli (va_runV (As := [.int g, .int (nI fr)]) (rest := []) ⟨hx, hb, hml, hown, hts⟩ (c_X3_seenBySome l D cs a M N g fr (by omega)) (cwV 2 hts gX3_reachableFrom_X3_seenBySome rfl rfl rfl (by decide +kernel) ⟨Nat.le_of_ble_eq_true rfl, Nat.le_of_ble_eq_true rfl⟩) (xpreV hP hK (ci := 3) 1 rfl rfl) rfl rfl hl.1 rfl (lv_room (Nat.le_of_ble_eq_true rfl)) dX3_reachableFrom_3 ⟨Nat.le_of_ble_eq_true rfl, Nat.le_of_ble_eq_true rfl⟩) hS hP (fun H locs hP hS => ?_)
  refine lv_topi (fun x_1 hx_1 => ?_)
  refine lv_istore_n (lv' := [(3, .int x_1), (0, .ref (a 1)), (1, .int g), (2, .int (nI fr))]) hx hb dX3_reachableFrom_6 rfl hl (by decide) rfl (fun ls hl => ?_)
  refine lv_iconst (v := (nI 0)) hx hb dX3_reachableFrom_7 (by decide) ?_
  refine lv_istore (lv' := [(4, .int (nI 0)), (3, .int x_1), (0, .ref (a 1)), (1, .int g), (2, .int (nI fr))]) hx hb dX3_reachableFrom_8 hl (by decide) rfl (fun ls hl => ?_)
  have cut10 : ∀ (f10 : Nat) (j : Nat) (hj : j ≤ n), n + 1 ≤ j + f10 → ∀ (H : Heap) (locs : List Loc), va_P D vwCl (xc cs a M N) H → va_S (fun _ => False) s.heap H locs → ∀ (ls : Array Slot), lv_has ls 7 [(0, .ref (a 1)), (1, .int g), (2, .int (nI fr)), (3, .int (fo (fun _ x => sweep M n g x) (seenSome M g fr) j)), (4, .int (nI j))] → W p l e ({ frames := 2, cells := 0, slots := 0, locals := 45 } : Room) s m ([.ref (a 1), .int g, .int (nI fr)] : List Value).toArray below meth c H locs 0 0 Q (F0 m 10 ls []) := by
    intro f10
    induction f10 with
    | zero => intro j hj hfu10; exact absurd hfu10 (by omega)
    | succ f10 cut10 =>
      intro j hj hfu10 H locs hP hS ls hl
      refine lv_iload hx hb dX3_reachableFrom_10 (lv_at hl 4 rfl) ?_
      refine lv_aload_n hx hb dX3_reachableFrom_12 rfl (lv_at hl 0 rfl) ?_
      refine va_get (D := D) (ci := 3) (v := .int (M 0 0)) (C := RX3) (T := TX3) (N := 4) hx hb hts hinX3 hown hK1 hP 1 rfl rfl 2 (by decide) (hts (.fieldLink RX3 20 "KnowledgeModel$Worlds" "count" "I") (List.mem_of_getElem? (i := 1) rfl)) (fun _ h9 => h9) rfl dX3_reachableFrom_13 ?_
      refine xtop (y := nI n) (hn) ?_
      refine lv_icmp_ge (tgt := 74) hx hb dX3_reachableFrom_16 (by decide) (fun c16 => ?_) (fun c16 => ?_)
      ·
        replace c16 : n ≤ j := k_get c16 (by omega) (by omega)
        refine lv_iload_n hx hb dX3_reachableFrom_74 rfl (lv_at hl 3 rfl) ?_
        subst hQ
        have hfin : (fo (fun _ x => sweep M n g x) (seenSome M g fr) j) = reachF M n g fr := by first | ((have hje : j = n := by omega); subst hje; rfl) | ((have hke : k = n := by omega); subst hke; exact c62.trans (fo_fixn (fun x => sweep M k g x) (seenSome M g fr) (j := j) (by omega) c62).symm)
        exact W.iret hx hb hr (fun t ht hW => ⟨⟨_, (), rfl, hfin, trivial⟩, hS.F ht⟩) hS.2.2 dX3_reachableFrom_75
      ·
        replace c16 : j < n := k_gef c16 (by omega) (by omega)
        refine lv_iload_n hx hb dX3_reachableFrom_19 rfl (lv_at hl 3 rfl) ?_
        refine lv_topi (fun x_2 hx_2 => ?_)
        refine lv_istore (lv' := [(5, .int x_2), (0, .ref (a 1)), (1, .int g), (2, .int (nI fr)), (3, .int (fo (fun _ x => sweep M n g x) (seenSome M g fr) j)), (4, .int (nI j))]) hx hb dX3_reachableFrom_20 hl (by decide) rfl (fun ls hl => ?_)
        refine lv_iconst (v := (nI 0)) hx hb dX3_reachableFrom_22 (by decide) ?_
        refine lv_istore (lv' := [(6, .int (nI 0)), (5, .int x_2), (0, .ref (a 1)), (1, .int g), (2, .int (nI fr)), (3, .int (fo (fun _ x => sweep M n g x) (seenSome M g fr) j)), (4, .int (nI j))]) hx hb dX3_reachableFrom_23 hl (by decide) rfl (fun ls hl => ?_)
        have cut25 : ∀ (f25 : Nat) (k : Nat) (hk : k ≤ n), n + 1 ≤ k + f25 → ∀ (H : Heap) (locs : List Loc), va_P D vwCl (xc cs a M N) H → va_S (fun _ => False) s.heap H locs → ∀ (ls : Array Slot), lv_has ls 7 [(0, .ref (a 1)), (1, .int g), (2, .int (nI fr)), (3, .int (fo (fun w r => if bt r w then r ||| seenSome M g w else r) (fo (fun _ x => sweep M n g x) (seenSome M g fr) j) k)), (4, .int (nI j)), (5, .int (fo (fun _ x => sweep M n g x) (seenSome M g fr) j)), (6, .int (nI k))] → W p l e ({ frames := 2, cells := 0, slots := 0, locals := 45 } : Room) s m ([.ref (a 1), .int g, .int (nI fr)] : List Value).toArray below meth c H locs 0 0 Q (F0 m 25 ls []) := by
          intro f25
          induction f25 with
          | zero => intro k hk hfu25; exact absurd hfu25 (by omega)
          | succ f25 cut25 =>
            intro k hk hfu25 H locs hP hS ls hl
            refine lv_iload hx hb dX3_reachableFrom_25 (lv_at hl 6 rfl) ?_
            refine lv_aload_n hx hb dX3_reachableFrom_27 rfl (lv_at hl 0 rfl) ?_
            refine va_get (D := D) (ci := 3) (v := .int (M 0 0)) (C := RX3) (T := TX3) (N := 4) hx hb hts hinX3 hown hK1 hP 1 rfl rfl 2 (by decide) (hts (.fieldLink RX3 20 "KnowledgeModel$Worlds" "count" "I") (List.mem_of_getElem? (i := 1) rfl)) (fun _ h9 => h9) rfl dX3_reachableFrom_28 ?_
            refine xtop (y := nI n) (hn) ?_
            refine lv_icmp_ge (tgt := 59) hx hb dX3_reachableFrom_31 (by decide) (fun c31 => ?_) (fun c31 => ?_)
            ·
              replace c31 : n ≤ k := k_get c31 (by omega) (by omega)
              refine lv_iload_n hx hb dX3_reachableFrom_59 rfl (lv_at hl 3 rfl) ?_
              refine lv_iload hx hb dX3_reachableFrom_60 (lv_at hl 5 rfl) ?_
              refine lv_icmp_ne (tgt := 68) hx hb dX3_reachableFrom_62 (by decide) (fun c62 => ?_) (fun c62 => ?_)
              ·
                refine lv_iinc (v := (nI (j + 1))) (lv' := [(4, .int (nI (j + 1))), (0, .ref (a 1)), (1, .int g), (2, .int (nI fr)), (3, .int (fo (fun w r => if bt r w then r ||| seenSome M g w else r) (fo (fun _ x => sweep M n g x) (seenSome M g fr) j) k)), (5, .int (fo (fun _ x => sweep M n g x) (seenSome M g fr) j)), (6, .int (nI k))]) hx hb dX3_reachableFrom_68 hl (k := 4) rfl (nI_add j 1) (by decide) rfl (fun ls hl => ?_)
                refine lv_goto (tgt := 10) hx hb dX3_reachableFrom_71 (by decide) ?_
                have e_3 : (fo (fun w r => if bt r w then r ||| seenSome M g w else r) (fo (fun _ x => sweep M n g x) (seenSome M g fr) j) k) = (fo (fun _ x => sweep M n g x) (seenSome M g fr) (j + 1)) := by (have hke : k = n := by omega); subst hke; rfl
                exact cut10 (j + 1) (by omega) (by omega) _ _ hP hS ls (lcons (lcons (lcons (lcons (lcons (lzero hl) hl 0 rfl rfl) hl 4 rfl (congrArg Value.int e_3)) hl 3 rfl rfl) hl 2 rfl rfl) hl 1 rfl rfl)
              ·
                refine lv_goto (tgt := 74) hx hb dX3_reachableFrom_65 (by decide) ?_
                refine lv_iload_n hx hb dX3_reachableFrom_74 rfl (lv_at hl 3 rfl) ?_
                subst hQ
                have hfin : (fo (fun w r => if bt r w then r ||| seenSome M g w else r) (fo (fun _ x => sweep M n g x) (seenSome M g fr) j) k) = reachF M n g fr := by first | ((have hje : j = n := by omega); subst hje; rfl) | ((have hke : k = n := by omega); subst hke; exact c62.trans (fo_fixn (fun x => sweep M k g x) (seenSome M g fr) (j := j) (by omega) c62).symm)
                exact W.iret hx hb hr (fun t ht hW => ⟨⟨_, (), rfl, hfin, trivial⟩, hS.F ht⟩) hS.2.2 dX3_reachableFrom_75
            ·
              replace c31 : k < n := k_gef c31 (by omega) (by omega)
              refine lv_iload_n hx hb dX3_reachableFrom_34 rfl (lv_at hl 3 rfl) ?_
              refine lv_iload hx hb dX3_reachableFrom_35 (lv_at hl 6 rfl) ?_
              refine xcalli (va_runSN (As := [.int (fo (fun w r => if bt r w then r ||| seenSome M g w else r) (fo (fun _ x => sweep M n g x) (seenSome M g fr) j) k), .int (nI k)]) (rest := []) ⟨hx, hb, hml, hown, hts⟩ (c_X4_contains l (fo (fun w r => if bt r w then r ||| seenSome M g w else r) (fo (fun _ x => sweep M n g x) (seenSome M g fr) j) k) k (by omega)) ⟨va_cnB 2 hts gX3_reachableFrom_X4_contains_n27 rfl rfl rfl hK.2.2.2.2.2.2.2.1 (hts (.initialized RX4) (List.mem_of_getElem? (i := 9) rfl)) (by decide +kernel) ⟨Nat.le_of_ble_eq_true rfl, Nat.le_of_ble_eq_true rfl⟩, hts (.static yX4_contains) (List.mem_of_getElem? (i := 8) rfl), trivial⟩ xpreN rfl rfl hl.1 rfl (lv_room (Nat.le_of_ble_eq_true rfl)) dX3_reachableFrom_37 ⟨Nat.le_of_ble_eq_true rfl, Nat.le_of_ble_eq_true rfl⟩) hS hP (fun H locs hP hS => ?_)
              refine lv_if_eq (tgt := 53) hx hb dX3_reachableFrom_40 (by decide) (fun c40 => ?_) (fun c40 => ?_)
              ·
                replace c40 := bI_0 c40
                refine lv_iinc (v := (nI (k + 1))) (lv' := [(6, .int (nI (k + 1))), (0, .ref (a 1)), (1, .int g), (2, .int (nI fr)), (3, .int (fo (fun w r => if bt r w then r ||| seenSome M g w else r) (fo (fun _ x => sweep M n g x) (seenSome M g fr) j) k)), (4, .int (nI j)), (5, .int (fo (fun _ x => sweep M n g x) (seenSome M g fr) j))]) hx hb dX3_reachableFrom_53 hl (k := 6) rfl (nI_add k 1) (by decide) rfl (fun ls hl => ?_)
                refine lv_goto (tgt := 25) hx hb dX3_reachableFrom_56 (by decide) ?_
                have e_4 : (fo (fun w r => if bt r w then r ||| seenSome M g w else r) (fo (fun _ x => sweep M n g x) (seenSome M g fr) j) k) = (fo (fun w r => if bt r w then r ||| seenSome M g w else r) (fo (fun _ x => sweep M n g x) (seenSome M g fr) j) (k + 1)) := by first | rfl | (simp [fo_s, c31, c40]; done) | (simp [fo_s, c31, c40] <;> rfl)
                exact cut25 (k + 1) (by omega) (by omega) _ _ hP hS ls (lcons (lcons (lcons (lcons (lcons (lcons (lcons (lzero hl) hl 0 rfl rfl) hl 6 rfl rfl) hl 5 rfl rfl) hl 4 rfl (congrArg Value.int e_4)) hl 3 rfl rfl) hl 2 rfl rfl) hl 1 rfl rfl)
              ·
                replace c40 := bI_n0 c40
                refine lv_iload_n hx hb dX3_reachableFrom_43 rfl (lv_at hl 3 rfl) ?_
                refine lv_aload_n hx hb dX3_reachableFrom_44 rfl (lv_at hl 0 rfl) ?_
                refine lv_iload_n hx hb dX3_reachableFrom_45 rfl (lv_at hl 1 rfl) ?_
                refine lv_iload hx hb dX3_reachableFrom_46 (lv_at hl 6 rfl) ?_
                refine xcalli (va_runV (As := [.int g, .int (nI k)]) (rest := [.int (fo (fun w r => if bt r w then r ||| seenSome M g w else r) (fo (fun _ x => sweep M n g x) (seenSome M g fr) j) k)]) ⟨hx, hb, hml, hown, hts⟩ (c_X3_seenBySome l D cs a M N g k (by omega)) (cwV 2 hts gX3_reachableFrom_X3_seenBySome rfl rfl rfl (by decide +kernel) ⟨Nat.le_of_ble_eq_true rfl, Nat.le_of_ble_eq_true rfl⟩) (xpreV hP hK (ci := 3) 1 rfl rfl) rfl rfl hl.1 rfl (lv_room (Nat.le_of_ble_eq_true rfl)) dX3_reachableFrom_48 ⟨Nat.le_of_ble_eq_true rfl, Nat.le_of_ble_eq_true rfl⟩) hS hP (fun H locs hP hS => ?_)
                refine lv_ior hx hb dX3_reachableFrom_51 ?_
                refine lv_topi (fun x_5 hx_5 => ?_)
                refine lv_istore_n (lv' := [(3, .int x_5), (0, .ref (a 1)), (1, .int g), (2, .int (nI fr)), (4, .int (nI j)), (5, .int (fo (fun _ x => sweep M n g x) (seenSome M g fr) j)), (6, .int (nI k))]) hx hb dX3_reachableFrom_52 rfl hl (by decide) rfl (fun ls hl => ?_)
                refine lv_iinc (v := (nI (k + 1))) (lv' := [(6, .int (nI (k + 1))), (3, .int x_5), (0, .ref (a 1)), (1, .int g), (2, .int (nI fr)), (4, .int (nI j)), (5, .int (fo (fun _ x => sweep M n g x) (seenSome M g fr) j))]) hx hb dX3_reachableFrom_53 hl (k := 6) rfl (nI_add k 1) (by decide) rfl (fun ls hl => ?_)
                refine lv_goto (tgt := 25) hx hb dX3_reachableFrom_56 (by decide) ?_
                have e_6 : x_5 = (fo (fun w r => if bt r w then r ||| seenSome M g w else r) (fo (fun _ x => sweep M n g x) (seenSome M g fr) j) (k + 1)) := by first | rfl | (simp [fo_s, c31, c40, hx_5]; done) | (simp [fo_s, c31, c40, hx_5] <;> rfl)
                exact cut25 (k + 1) (by omega) (by omega) _ _ hP hS ls (lcons (lcons (lcons (lcons (lcons (lcons (lcons (lzero hl) hl 0 rfl rfl) hl 6 rfl rfl) hl 5 rfl rfl) hl 1 rfl (congrArg Value.int e_6)) hl 4 rfl rfl) hl 3 rfl rfl) hl 2 rfl rfl)
        have e_7 : x_2 = (fo (fun _ x => sweep M n g x) (seenSome M g fr) j) := by first | rfl | assumption
        have e_8 : (fo (fun _ x => sweep M n g x) (seenSome M g fr) j) = (fo (fun w r => if bt r w then r ||| seenSome M g w else r) (fo (fun _ x => sweep M n g x) (seenSome M g fr) j) 0) := by first | rfl | (simp [fo_s, c16, hx_2]; done) | (simp [fo_s, c16, hx_2] <;> rfl)
        exact cut25 (n + 1) 0 (by omega) (by omega) _ _ hP hS ls (lcons (lcons (lcons (lcons (lcons (lcons (lcons (lzero hl) hl 0 rfl rfl) hl 1 rfl (congrArg Value.int e_7)) hl 6 rfl rfl) hl 5 rfl (congrArg Value.int e_8)) hl 4 rfl rfl) hl 3 rfl rfl) hl 2 rfl rfl)
  have e_9 : x_1 = (fo (fun _ x => sweep M n g x) (seenSome M g fr) 0) := by first | rfl | (simp [fo_s, hx_1]; done) | (simp [fo_s, hx_1] <;> rfl)
  exact cut10 (n + 1) 0 (by omega) (by omega) _ _ hP hS ls (lcons (lcons (lcons (lcons (lcons (lzero hl) hl 0 rfl rfl) hl 1 rfl (congrArg Value.int e_9)) hl 4 rfl rfl) hl 3 rfl rfl) hl 2 rfl rfl)

set_option maxHeartbeats 4000000 in
set_option maxRecDepth 100000 in
theorem c_X4_rankIn (l : Launch)    (x : Int32) (i : Nat) (hi : i < 32) : Met l yX4_rankIn wsX4_rankIn ({ frames := 1, cells := 0, slots := 0, locals := 20 } : Room) (va_Pc [.int x, .int (nI i)] (fun _ => True)) (va_Qi (fun r (_ : Unit) => r = nI (rk x i)) (fun _ _ => True) (fun _ => False)) 0 0 (fun _ => False) := by
  refine Met.ofW (cc := cX4_rankIn) (maxL := 2) (ret := (some .int)) (by decide) rfl ?_
  intro p e s m args below meth c s₁ B hml hv
  obtain ⟨rfl, -⟩ := hv
  have hx := B.exec
  have hb := B.bytes
  have hr := B.returns
  have hts := atoms_spec (ws := wsX4_rankIn) B.pre
  have hown : s.vm.findClass RX4 = some m.cls := findClass_of_methodNamed B.named
  have hlocks := B.notSynchronized
  have hS : va_S (fun _ => False) s.heap s.heap [] := va_S.rf
  have hP : va_P ((fun _ => 0, fun _ _ => 0) : va_G) ([] : List vw_C) ([] : va_W) s.heap := fun k q h => by simp at h
  have hl := lv_entry ([.int x, .int (nI i)]) (n := 2) (Nat.le_of_ble_eq_true rfl)
  rw [lg_entry_eq]
  generalize (lg_sl ([.int x, .int (nI i)]) ++ List.replicate (2 - (lg_sl ([.int x, .int (nI i)])).length) Slot.unset).toArray = ls at hl ⊢
  have hl : lv_has ls 2 [(0, .int x), (1, .int (nI i))] := hl
  refine W_Q (fun Q hQ => ?_)
  show W p l e ({ frames := 1, cells := 0, slots := 0, locals := 20 } : Room) s m ([.int x, .int (nI i)] : List Value).toArray below meth c s.heap [] 0 0 Q (F0 m 0 ls [])
  refine lv_iload_n hx hb dX4_rankIn_0 rfl (lv_at hl 0 rfl) ?_
  refine lv_iload_n hx hb dX4_rankIn_1 rfl (lv_at hl 1 rfl) ?_
  refine xcalli (va_runS (As := [.int (nI i)]) (rest := [.int x]) ⟨hx, hb, hml, hown, hts⟩ (c_X4_single l i) (va_cwS 1 hts gX4_rankIn_X4_single rfl rfl rfl (by decide +kernel) ⟨Nat.le_of_ble_eq_true rfl, Nat.le_of_ble_eq_true rfl⟩) xpreN rfl rfl hl.1 rfl (lv_room (Nat.le_of_ble_eq_true rfl)) dX4_rankIn_2 ⟨Nat.le_of_ble_eq_true rfl, Nat.le_of_ble_eq_true rfl⟩) hS hP (fun H locs hP hS => ?_)
  refine lv_iconst (v := (nI 1)) hx hb dX4_rankIn_5 (by decide) ?_
  refine lv_isub hx hb dX4_rankIn_6 ?_
  refine lv_iand hx hb dX4_rankIn_7 ?_
  refine xcalli (va_runS (As := [.int (x &&& ((sg i) - (nI 1)))]) (rest := []) ⟨hx, hb, hml, hown, hts⟩ (c_J6_bitCount_0f7a4 l (x &&& ((sg i) - (nI 1)))) (va_cwS 1 hts gX4_rankIn_J6_bitCount_0f7a4 rfl rfl rfl (by decide +kernel) ⟨Nat.le_of_ble_eq_true rfl, Nat.le_of_ble_eq_true rfl⟩) xpreN rfl rfl hl.1 rfl (lv_room (Nat.le_of_ble_eq_true rfl)) dX4_rankIn_8 ⟨Nat.le_of_ble_eq_true rfl, Nat.le_of_ble_eq_true rfl⟩) hS hP (fun H locs hP hS => ?_)
  subst hQ
  have hfin : (bc (x &&& ((sg i) - (nI 1)))) = nI (rk x i) := by exact rk_bc x hi
  exact W.iret hx hb hr (fun t ht hW => ⟨⟨_, (), rfl, hfin, trivial⟩, hS.F ht⟩) hS.2.2 dX4_rankIn_11

def renum (x k : Int32) : Int32 := fo (fun w r => if bt (x &&& k) w then r ||| sg (rk k w) else r) (nI 0) 24

set_option maxHeartbeats 4000000 in
set_option maxRecDepth 100000 in
theorem c_X4_renumbered (l : Launch)    (x : Int32) (k : Int32) : Met l yX4_renumbered wsX4_renumbered ({ frames := 2, cells := 0, slots := 0, locals := 45 } : Room) (va_Pc [.int x, .int k] (fun _ => True)) (va_Qi (fun r (_ : Unit) => r = renum x k) (fun _ _ => True) (fun _ => False)) 0 0 (fun _ => False) := by
  refine Met.ofW (cc := cX4_renumbered) (maxL := 4) (ret := (some .int)) (by decide) rfl ?_
  intro p e s m args below meth c s₁ B hml hv
  obtain ⟨rfl, -⟩ := hv
  have hx := B.exec
  have hb := B.bytes
  have hr := B.returns
  have hts := atoms_spec (ws := wsX4_renumbered) B.pre
  have hown : s.vm.findClass RX4 = some m.cls := findClass_of_methodNamed B.named
  have hlocks := B.notSynchronized
  have hS : va_S (fun _ => False) s.heap s.heap [] := va_S.rf
  have hP : va_P ((fun _ => 0, fun _ _ => 0) : va_G) ([] : List vw_C) ([] : va_W) s.heap := fun k q h => by simp at h
  have hl := lv_entry ([.int x, .int k]) (n := 4) (Nat.le_of_ble_eq_true rfl)
  rw [lg_entry_eq]
  generalize (lg_sl ([.int x, .int k]) ++ List.replicate (4 - (lg_sl ([.int x, .int k])).length) Slot.unset).toArray = ls at hl ⊢
  have hl : lv_has ls 4 [(0, .int x), (1, .int k)] := hl
  refine W_Q (fun Q hQ => ?_)
  show W p l e ({ frames := 2, cells := 0, slots := 0, locals := 45 } : Room) s m ([.int x, .int k] : List Value).toArray below meth c s.heap [] 0 0 Q (F0 m 0 ls [])
  refine lv_iconst (v := (nI 0)) hx hb dX4_renumbered_0 (by decide) ?_
  refine lv_istore_n (lv' := [(2, .int (nI 0)), (0, .int x), (1, .int k)]) hx hb dX4_renumbered_1 rfl hl (by decide) rfl (fun ls hl => ?_)
  refine lv_iconst (v := (nI 0)) hx hb dX4_renumbered_2 (by decide) ?_
  refine lv_istore_n (lv' := [(3, .int (nI 0)), (2, .int (nI 0)), (0, .int x), (1, .int k)]) hx hb dX4_renumbered_3 rfl hl (by decide) rfl (fun ls hl => ?_)
  have cut4 : ∀ (f4 : Nat) (j : Nat) (hj : j ≤ 24), 24 + 1 ≤ j + f4 → ∀ (H : Heap) (locs : List Loc), va_P ((fun _ => 0, fun _ _ => 0) : va_G) ([] : List vw_C) ([] : va_W) H → va_S (fun _ => False) s.heap H locs → ∀ (ls : Array Slot), lv_has ls 4 [(0, .int x), (1, .int k), (2, .int (fo (fun w r => if bt (x &&& k) w then r ||| sg (rk k w) else r) (nI 0) j)), (3, .int (nI j))] → W p l e ({ frames := 2, cells := 0, slots := 0, locals := 45 } : Room) s m ([.int x, .int k] : List Value).toArray below meth c H locs 0 0 Q (F0 m 4 ls []) := by
    intro f4
    induction f4 with
    | zero => intro j hj hfu4; exact absurd hfu4 (by omega)
    | succ f4 cut4 =>
      intro j hj hfu4 H locs hP hS ls hl
      refine lv_iload_n hx hb dX4_renumbered_4 rfl (lv_at hl 3 rfl) ?_
      refine lv_bipush (v := (nI 24)) hx hb dX4_renumbered_5 (by decide) ?_
      refine lv_icmp_ge (tgt := 37) hx hb dX4_renumbered_7 (by decide) (fun c7 => ?_) (fun c7 => ?_)
      ·
        replace c7 : 24 ≤ j := k_get c7 (by omega) (by omega)
        refine lv_iload_n hx hb dX4_renumbered_37 rfl (lv_at hl 2 rfl) ?_
        subst hQ
        have hfin : (fo (fun w r => if bt (x &&& k) w then r ||| sg (rk k w) else r) (nI 0) j) = renum x k := by (have hje : j = 24 := by omega); subst hje; rfl
        exact W.iret hx hb hr (fun t ht hW => ⟨⟨_, (), rfl, hfin, trivial⟩, hS.F ht⟩) hS.2.2 dX4_renumbered_38
      ·
        replace c7 : j < 24 := k_gef c7 (by omega) (by omega)
        refine lv_iload_n hx hb dX4_renumbered_10 rfl (lv_at hl 0 rfl) ?_
        refine lv_iload_n hx hb dX4_renumbered_11 rfl (lv_at hl 1 rfl) ?_
        refine lv_iand hx hb dX4_renumbered_12 ?_
        refine lv_iload_n hx hb dX4_renumbered_13 rfl (lv_at hl 3 rfl) ?_
        refine xcalli (va_runS (As := [.int (x &&& k), .int (nI j)]) (rest := []) ⟨hx, hb, hml, hown, hts⟩ (c_X4_contains l (x &&& k) j (by omega)) (va_cwS 2 hts gX4_renumbered_X4_contains rfl rfl rfl (by decide +kernel) ⟨Nat.le_of_ble_eq_true rfl, Nat.le_of_ble_eq_true rfl⟩) xpreN rfl rfl hl.1 rfl (lv_room (Nat.le_of_ble_eq_true rfl)) dX4_renumbered_14 ⟨Nat.le_of_ble_eq_true rfl, Nat.le_of_ble_eq_true rfl⟩) hS hP (fun H locs hP hS => ?_)
        refine lv_if_eq (tgt := 31) hx hb dX4_renumbered_17 (by decide) (fun c17 => ?_) (fun c17 => ?_)
        ·
          replace c17 := bI_0 c17
          refine lv_iinc (v := (nI (j + 1))) (lv' := [(3, .int (nI (j + 1))), (0, .int x), (1, .int k), (2, .int (fo (fun w r => if bt (x &&& k) w then r ||| sg (rk k w) else r) (nI 0) j))]) hx hb dX4_renumbered_31 hl (k := 3) rfl (nI_add j 1) (by decide) rfl (fun ls hl => ?_)
          refine lv_goto (tgt := 4) hx hb dX4_renumbered_34 (by decide) ?_
          have e_1 : (fo (fun w r => if bt (x &&& k) w then r ||| sg (rk k w) else r) (nI 0) j) = (fo (fun w r => if bt (x &&& k) w then r ||| sg (rk k w) else r) (nI 0) (j + 1)) := by first | rfl | (simp [fo_s, c7, c17]; done) | (simp [fo_s, c7, c17] <;> rfl)
          exact cut4 (j + 1) (by omega) (by omega) _ _ hP hS ls (lcons (lcons (lcons (lcons (lzero hl) hl 0 rfl rfl) hl 3 rfl (congrArg Value.int e_1)) hl 2 rfl rfl) hl 1 rfl rfl)
        ·
          replace c17 := bI_n0 c17
          refine lv_iload_n hx hb dX4_renumbered_20 rfl (lv_at hl 2 rfl) ?_
          refine lv_iload_n hx hb dX4_renumbered_21 rfl (lv_at hl 1 rfl) ?_
          refine lv_iload_n hx hb dX4_renumbered_22 rfl (lv_at hl 3 rfl) ?_
          refine xcalli (va_runS (As := [.int k, .int (nI j)]) (rest := [.int (fo (fun w r => if bt (x &&& k) w then r ||| sg (rk k w) else r) (nI 0) j)]) ⟨hx, hb, hml, hown, hts⟩ (c_X4_rankIn l k j (by omega)) (va_cwS 2 hts gX4_renumbered_X4_rankIn rfl rfl rfl (by decide +kernel) ⟨Nat.le_of_ble_eq_true rfl, Nat.le_of_ble_eq_true rfl⟩) xpreN rfl rfl hl.1 rfl (lv_room (Nat.le_of_ble_eq_true rfl)) dX4_renumbered_23 ⟨Nat.le_of_ble_eq_true rfl, Nat.le_of_ble_eq_true rfl⟩) hS hP (fun H locs hP hS => ?_)
          refine xcalli (va_runS (As := [.int (nI (rk k j))]) (rest := [.int (fo (fun w r => if bt (x &&& k) w then r ||| sg (rk k w) else r) (nI 0) j)]) ⟨hx, hb, hml, hown, hts⟩ (c_X4_single l (rk k j)) (va_cwS 1 hts gX4_renumbered_X4_single rfl rfl rfl (by decide +kernel) ⟨Nat.le_of_ble_eq_true rfl, Nat.le_of_ble_eq_true rfl⟩) xpreN rfl rfl hl.1 rfl (lv_room (Nat.le_of_ble_eq_true rfl)) dX4_renumbered_26 ⟨Nat.le_of_ble_eq_true rfl, Nat.le_of_ble_eq_true rfl⟩) hS hP (fun H locs hP hS => ?_)
          refine lv_ior hx hb dX4_renumbered_29 ?_
          refine lv_topi (fun x_2 hx_2 => ?_)
          refine lv_istore_n (lv' := [(2, .int x_2), (0, .int x), (1, .int k), (3, .int (nI j))]) hx hb dX4_renumbered_30 rfl hl (by decide) rfl (fun ls hl => ?_)
          refine lv_iinc (v := (nI (j + 1))) (lv' := [(3, .int (nI (j + 1))), (2, .int x_2), (0, .int x), (1, .int k)]) hx hb dX4_renumbered_31 hl (k := 3) rfl (nI_add j 1) (by decide) rfl (fun ls hl => ?_)
          refine lv_goto (tgt := 4) hx hb dX4_renumbered_34 (by decide) ?_
          have e_3 : x_2 = (fo (fun w r => if bt (x &&& k) w then r ||| sg (rk k w) else r) (nI 0) (j + 1)) := by first | rfl | (simp [fo_s, c7, c17, hx_2]; done) | (simp [fo_s, c7, c17, hx_2] <;> rfl)
          exact cut4 (j + 1) (by omega) (by omega) _ _ hP hS ls (lcons (lcons (lcons (lcons (lzero hl) hl 0 rfl rfl) hl 1 rfl (congrArg Value.int e_3)) hl 3 rfl rfl) hl 2 rfl rfl)
  have e_4 : (nI 0) = (fo (fun w r => if bt (x &&& k) w then r ||| sg (rk k w) else r) (nI 0) 0) := by first | rfl | (simp [fo_s]; done) | (simp [fo_s] <;> rfl)
  exact cut4 (24 + 1) 0 (by omega) (by omega) _ _ hP hS ls (lcons (lcons (lcons (lcons (lzero hl) hl 0 rfl rfl) hl 1 rfl (congrArg Value.int e_4)) hl 3 rfl rfl) hl 2 rfl rfl)

