def joinC (M : Nat → Nat → Int32) (ag : Nat) (set : Int32) (j : Nat) : Nat → Nat → Int32 := fun i w => if i = 2 + ag ∧ w < j ∧ bt set w = true then M i w ||| set else M i w
theorem joinC_0 {M : Nat → Nat → Int32} {ag : Nat} {set : Int32} {j x : Nat} : joinC M ag set j 0 x = M 0 x := if_neg (by omega)
theorem joinC_at {M : Nat → Nat → Int32} {ag : Nat} {set : Int32} {j : Nat} : joinC M ag set j (2 + ag) j = M (2 + ag) j := if_neg (by omega)
def joinN (M : Nat → Nat → Int32) (ag : Nat) (set : Int32) (n : Nat) : Int32 := fo (fun w r => if bt set w then r + bc (set &&& (M (2 + ag) w ^^^ (-1))) else r) (nI 0) n

set_option maxHeartbeats 4000000 in
set_option maxRecDepth 100000 in
theorem c_X3_append (l : Launch) (D : va_G) (cs : Nat → ClassId) (a : Nat → Nat) (M : Nat → Nat → Int32) (N : Nat → Int64) (sz : Nat) (hI : kI a 29)  (n : Nat) (at1 : Int32) (hn : M 0 0 = nI n) (hn24 : n < 24) : Met l yX3_append wsX3_append ({ frames := 0, cells := 0, slots := 0, locals := 0 } : Room) (va_Pc [.ref (a 1), .int at1] (XBs D cs (xc cs a M N) sz)) (va_Qi (fun r (u : Unit) => r = nI n ∧ True) (fun (u : Unit) t => va_P D vwCl (xc cs a (wr (wr M 1 n at1) 0 0 (nI (n + 1))) N) t.heap) (kA a 29 sz)) 0 0 (kA a 29 sz) := by
  refine Met.ofW (cc := cX3_append) (maxL := 3) (ret := (some .int)) (by decide) rfl ?_
  intro p e s m args below meth c s₁ B hml hv
  obtain ⟨rfl, hsz, hP, hK⟩ := hv
  have hx := B.exec
  have hb := B.bytes
  have hr := B.returns
  have hts := atoms_spec (ws := wsX3_append) B.pre
  have hown : s.vm.findClass RX3 = some m.cls := findClass_of_methodNamed B.named
  have hlocks := B.notSynchronized
  have hK1 := hK.1
  have hinX3 : ∀ w ∈ wsX30, w ∈ wsX3_append := fun w h => List.mem_cons_of_mem _ (List.mem_append_right _ h)
  subst hsz
  have hS : va_S (kA a 29 s.heap.size) s.heap s.heap [] := va_S.rf
  have hl := lv_entry ([.ref (a 1), .int at1]) (n := 3) (Nat.le_of_ble_eq_true rfl)
  rw [lg_entry_eq]
  generalize (lg_sl ([.ref (a 1), .int at1]) ++ List.replicate (3 - (lg_sl ([.ref (a 1), .int at1])).length) Slot.unset).toArray = ls at hl ⊢
  have hl : lv_has ls 3 [(0, .ref (a 1)), (1, .int at1)] := hl
  refine W_Q (fun Q hQ => ?_)
  show W p l e ({ frames := 0, cells := 0, slots := 0, locals := 0 } : Room) s m ([.ref (a 1), .int at1] : List Value).toArray below meth c s.heap [] 0 0 Q (F0 m 0 ls [])
  refine lv_aload_n hx hb dX3_append_0 rfl (lv_at hl 0 rfl) ?_
  refine va_get (D := D) (ci := 3) (v := .int (M 0 0)) (C := RX3) (T := TX3) (N := 4) hx hb hts hinX3 hown hK1 hP 1 rfl rfl 2 (by decide) (hts (.fieldLink RX3 20 "KnowledgeModel$Worlds" "count" "I") (List.mem_of_getElem? (i := 1) rfl)) (fun _ h9 => h9) rfl dX3_append_1 ?_
  refine xtop (y := nI n) (hn) ?_
  refine lv_istore_n (lv' := [(2, .int (nI n)), (0, .ref (a 1)), (1, .int at1)]) hx hb dX3_append_4 rfl hl (by decide) rfl (fun ls hl => ?_)
  refine lv_aload_n hx hb dX3_append_5 rfl (lv_at hl 1 rfl) ?_
  refine va_get (D := D) (ci := 3) (v := .ref (a 2)) (C := RX3) (T := TX3) (N := 4) hx hb hts hinX3 hown hK1 hP 1 rfl rfl 0 (by decide) (hts (.fieldLink RX3 9 "KnowledgeModel$Worlds" "atomsAt" "[I") (List.mem_of_getElem? (i := 2) rfl)) (fun _ h9 => h9) rfl dX3_append_6 ?_
  refine lv_iload_n hx hb dX3_append_9 rfl (lv_at hl 0 rfl) ?_
  refine lv_iload_n hx hb dX3_append_10 rfl (lv_at hl 2 rfl) ?_
  refine xiast (j := n) (q0 := 2) (t0 := 0) (ws' := xc cs a (wr M 1 n at1) N) hx hb hK1 hP (xD hI) hS rfl rfl (by omega) (by decide) xs_2 dX3_append_11 (fun H locs hP hS => ?_)
  obtain ⟨M_1, hM_1⟩ : ∃ z, z = wr M 1 n at1 := ⟨_, rfl⟩
  rw [← hM_1] at hP
  have hk_2 : M_1 0 0 = nI n := by rw [hM_1]; exact (wr_ne (Or.inl (by omega))).trans hn
  refine lv_aload_n hx hb dX3_append_12 rfl (lv_at hl 1 rfl) ?_
  refine lv_iload_n hx hb dX3_append_13 rfl (lv_at hl 0 rfl) ?_
  refine lv_iconst (v := (nI 1)) hx hb dX3_append_14 (by decide) ?_
  refine xiadd hx hb dX3_append_15 ?_
  refine xput (D := D) (ci := 3) (v := .int (nI (n + 1))) (ty := .int) (C := RX3) (T := TX3) (N := 4) (ws' := xc cs a (wr M_1 0 0 (nI (n + 1))) N) hx hb hts hinX3 tyX3 tyX3_ok nmX3 hown hK1 hP (xD hI) hS 1 rfl rfl 2 (by decide) (hts (.fieldLink RX3 20 "KnowledgeModel$Worlds" "count" "I") (List.mem_of_getElem? (i := 1) rfl)) (fun _ h9 => h9) rfl (by decide +kernel) rfl rfl (Nat.le_of_ble_eq_true rfl) rfl dX3_append_16 (fun H locs hP hS => ?_)
  obtain ⟨M_3, hM_3⟩ : ∃ z, z = wr M_1 0 0 (nI (n + 1)) := ⟨_, rfl⟩
  rw [← hM_3] at hP
  have hk_4 : M_3 0 0 = nI (n + 1) := by rw [hM_3]; exact wr_same
  refine lv_iload_n hx hb dX3_append_19 rfl (lv_at hl 0 rfl) ?_
  subst hQ
  have hMfin : M_3 = wr (wr M 1 n at1) 0 0 (nI (n + 1)) := by simp only [wr_eq, hM_1, hM_3]
  rw [hMfin] at hP
  have hrel : True := by trivial
  have hfin : (nI n) = nI n := by rfl
  exact W.iret hx hb hr (fun t ht hW => ⟨⟨_, (), rfl, ⟨hfin, hrel⟩, by rw [← ht] at hP; exact hP⟩, hS.F ht⟩) hS.2.2 dX3_append_20

set_option maxHeartbeats 4000000 in
set_option maxRecDepth 100000 in
theorem c_X3_joinAll (l : Launch) (D : va_G) (cs : Nat → ClassId) (a : Nat → Nat) (M : Nat → Nat → Int32) (N : Nat → Int64) (sz : Nat) (hI : kI a 29)  (n : Nat) (ag : Nat) (set : Int32) (hag : ag < 4) (hn : M 0 0 = nI n) (hn24 : n ≤ 24) : Met l yX3_joinAll wsX3_joinAll ({ frames := 1, cells := 0, slots := 0, locals := 21 } : Room) (va_Pc [.ref (a 1), .int (nI ag), .int set] (XBs D cs (xc cs a M N) sz)) (va_Qi (fun r (u : Unit) => r = joinN M ag set n ∧ True) (fun (u : Unit) t => va_P D vwCl (xc cs a (joinC M ag set n) N) t.heap) (kA a 29 sz)) 0 0 (kA a 29 sz) := by
  refine Met.ofW (cc := cX3_joinAll) (maxL := 5) (ret := (some .int)) (by decide) rfl ?_
  intro p e s m args below meth c s₁ B hml hv
  obtain ⟨rfl, hsz, hP, hK⟩ := hv
  have hx := B.exec
  have hb := B.bytes
  have hr := B.returns
  have hts := atoms_spec (ws := wsX3_joinAll) B.pre
  have hown : s.vm.findClass RX3 = some m.cls := findClass_of_methodNamed B.named
  have hlocks := B.notSynchronized
  have hK1 := hK.1
  have hinX3 : ∀ w ∈ wsX30, w ∈ wsX3_joinAll := fun w h => List.mem_cons_of_mem _ (List.mem_append_right _ h)
  subst hsz
  have hS : va_S (kA a 29 s.heap.size) s.heap s.heap [] := va_S.rf
  have hl := lv_entry ([.ref (a 1), .int (nI ag), .int set]) (n := 5) (Nat.le_of_ble_eq_true rfl)
  rw [lg_entry_eq]
  generalize (lg_sl ([.ref (a 1), .int (nI ag), .int set]) ++ List.replicate (5 - (lg_sl ([.ref (a 1), .int (nI ag), .int set])).length) Slot.unset).toArray = ls at hl ⊢
  have hl : lv_has ls 5 [(0, .ref (a 1)), (1, .int (nI ag)), (2, .int set)] := hl
  refine W_Q (fun Q hQ => ?_)
  show W p l e ({ frames := 1, cells := 0, slots := 0, locals := 21 } : Room) s m ([.ref (a 1), .int (nI ag), .int set] : List Value).toArray below meth c s.heap [] 0 0 Q (F0 m 0 ls [])
  refine lv_iconst (v := (nI 0)) hx hb dX3_joinAll_0 (by decide) ?_
  refine lv_istore_n (lv' := [(3, .int (nI 0)), (0, .ref (a 1)), (1, .int (nI ag)), (2, .int set)]) hx hb dX3_joinAll_1 rfl hl (by decide) rfl (fun ls hl => ?_)
  refine lv_iconst (v := (nI 0)) hx hb dX3_joinAll_2 (by decide) ?_
  refine lv_istore (lv' := [(4, .int (nI 0)), (3, .int (nI 0)), (0, .ref (a 1)), (1, .int (nI ag)), (2, .int set)]) hx hb dX3_joinAll_3 hl (by decide) rfl (fun ls hl => ?_)
  have cut5 : ∀ (f5 : Nat) (j : Nat) (hj : j ≤ n), n + 1 ≤ j + f5 → ∀ (H : Heap) (locs : List Loc), va_P D vwCl (xc cs a (joinC M ag set j) N) H → va_S (kA a 29 s.heap.size) s.heap H locs → ∀ (ls : Array Slot), lv_has ls 5 [(0, .ref (a 1)), (1, .int (nI ag)), (2, .int set), (3, .int (joinN M ag set j)), (4, .int (nI j))] → W p l e ({ frames := 1, cells := 0, slots := 0, locals := 21 } : Room) s m ([.ref (a 1), .int (nI ag), .int set] : List Value).toArray below meth c H locs 0 0 Q (F0 m 5 ls []) := by
    intro f5
    induction f5 with
    | zero => intro j hj hfu5; exact absurd hfu5 (by omega)
    | succ f5 cut5 =>
      intro j hj hfu5 H locs hP hS ls hl
      refine lv_iload hx hb dX3_joinAll_5 (lv_at hl 4 rfl) ?_
      refine lv_aload_n hx hb dX3_joinAll_7 rfl (lv_at hl 0 rfl) ?_
      refine va_get (D := D) (ci := 3) (v := .int ((joinC M ag set j) 0 0)) (C := RX3) (T := TX3) (N := 4) hx hb hts hinX3 hown hK1 hP 1 rfl rfl 2 (by decide) (hts (.fieldLink RX3 20 "KnowledgeModel$Worlds" "count" "I") (List.mem_of_getElem? (i := 1) rfl)) (fun _ h9 => h9) rfl dX3_joinAll_8 ?_
      refine xtop (y := nI n) ((joinC_0.trans hn)) ?_
      refine lv_icmp_ge (tgt := 61) hx hb dX3_joinAll_11 (by decide) (fun c11 => ?_) (fun c11 => ?_)
      ·
        replace c11 : n ≤ j := k_get c11 (by omega) (by omega)
        refine lv_iload_n hx hb dX3_joinAll_61 rfl (lv_at hl 3 rfl) ?_
        subst hQ
        have hMfin : joinC M ag set j = joinC M ag set n := by (have hje : j = n := by omega); subst hje; rfl
        rw [hMfin] at hP
        have hrel : True := by trivial
        have hfin : (joinN M ag set j) = joinN M ag set n := by (have hje : j = n := by omega); subst hje; rfl
        exact W.iret hx hb hr (fun t ht hW => ⟨⟨_, (), rfl, ⟨hfin, hrel⟩, by rw [← ht] at hP; exact hP⟩, hS.F ht⟩) hS.2.2 dX3_joinAll_62
      ·
        replace c11 : j < n := k_gef c11 (by omega) (by omega)
        refine lv_iload_n hx hb dX3_joinAll_14 rfl (lv_at hl 2 rfl) ?_
        refine lv_iload hx hb dX3_joinAll_15 (lv_at hl 4 rfl) ?_
        refine xcalli (va_runSN (As := [.int set, .int (nI j)]) (rest := []) ⟨hx, hb, hml, hown, hts⟩ (c_X4_contains l set j (by omega)) ⟨va_cnB 2 hts gX3_joinAll_X4_contains_n27 rfl rfl rfl hK.2.2.2.2.2.2.2.1 (hts (.initialized RX4) (List.mem_of_getElem? (i := 4) rfl)) (by decide +kernel) ⟨Nat.le_of_ble_eq_true rfl, Nat.le_of_ble_eq_true rfl⟩, hts (.static yX4_contains) (List.mem_of_getElem? (i := 3) rfl), trivial⟩ xpreN rfl rfl hl.1 rfl (lv_room (Nat.le_of_ble_eq_true rfl)) dX3_joinAll_17 ⟨Nat.le_of_ble_eq_true rfl, Nat.le_of_ble_eq_true rfl⟩) hS hP (fun H locs hP hS => ?_)
        refine lv_if_eq (tgt := 55) hx hb dX3_joinAll_20 (by decide) (fun c20 => ?_) (fun c20 => ?_)
        ·
          replace c20 := bI_0 c20
          refine lv_iinc (v := (nI (j + 1))) (lv' := [(4, .int (nI (j + 1))), (0, .ref (a 1)), (1, .int (nI ag)), (2, .int set), (3, .int (joinN M ag set j))]) hx hb dX3_joinAll_55 hl (k := 4) rfl (nI_add j 1) (by decide) rfl (fun ls hl => ?_)
          refine lv_goto (tgt := 5) hx hb dX3_joinAll_58 (by decide) ?_
          have e_1 : (joinN M ag set j) = (joinN M ag set (j + 1)) := by simp only [joinN, fo_s, c11, c20]; try rfl
          have eM_2 : joinC M ag set j = joinC M ag set (j + 1) := by funext i w; simp only [wr_eq, joinC, c11, c20]; grind
          exact cut5 (j + 1) (by omega) (by omega) _ _ (eM_2 ▸ hP) hS ls (lcons (lcons (lcons (lcons (lcons (lzero hl) hl 0 rfl rfl) hl 4 rfl (congrArg Value.int e_1)) hl 3 rfl rfl) hl 2 rfl rfl) hl 1 rfl rfl)
        ·
          replace c20 := bI_n0 c20
          refine lv_iload_n hx hb dX3_joinAll_23 rfl (lv_at hl 3 rfl) ?_
          refine lv_iload_n hx hb dX3_joinAll_24 rfl (lv_at hl 2 rfl) ?_
          refine lv_aload_n hx hb dX3_joinAll_25 rfl (lv_at hl 0 rfl) ?_
          refine va_get (D := D) (ci := 3) (v := .ref (a 3)) (C := RX3) (T := TX3) (N := 4) hx hb hts hinX3 hown hK1 hP 1 rfl rfl 1 (by decide) (hts (.fieldLink RX3 17 "KnowledgeModel$Worlds" "arrows" "[[I") (List.mem_of_getElem? (i := 2) rfl)) (fun _ h9 => h9) rfl dX3_joinAll_26 ?_
          refine lv_iload_n hx hb dX3_joinAll_29 rfl (lv_at hl 1 rfl) ?_
          refine xaald (j := ag) (q0 := 3) (t0 := 2) (f := fun i => a (4 + i)) hx hb hK1 hP rfl rfl (by omega) (by decide) dX3_joinAll_30 ?_
          refine lv_iload hx hb dX3_joinAll_31 (lv_at hl 4 rfl) ?_
          refine xiald (j := j) (q0 := (4 + ag)) (t0 := 0) hx hb hK1 hP (xg_ar (by omega)) rfl (by omega) (by decide) dX3_joinAll_33 ?_
          refine xtop (y := (M (2 + ag) j)) (by exact joinC_at) ?_
          refine lv_iconst (v := (-1)) hx hb dX3_joinAll_34 (by decide) ?_
          refine lv_ixor hx hb dX3_joinAll_35 ?_
          refine lv_iand hx hb dX3_joinAll_36 ?_
          refine xcalli (va_runS (As := [.int (set &&& ((M (2 + ag) j) ^^^ (-1)))]) (rest := [.int (joinN M ag set j)]) ⟨hx, hb, hml, hown, hts⟩ (c_J6_bitCount_0f7a4 l (set &&& ((M (2 + ag) j) ^^^ (-1)))) (va_cwS 1 hts gX3_joinAll_J6_bitCount_0f7a4 rfl rfl rfl (by decide +kernel) ⟨Nat.le_of_ble_eq_true rfl, Nat.le_of_ble_eq_true rfl⟩) xpreN rfl rfl hl.1 rfl (lv_room (Nat.le_of_ble_eq_true rfl)) dX3_joinAll_37 ⟨Nat.le_of_ble_eq_true rfl, Nat.le_of_ble_eq_true rfl⟩) hS hP (fun H locs hP hS => ?_)
          refine lv_iadd hx hb dX3_joinAll_40 ?_
          refine lv_topi (fun x_3 hx_3 => ?_)
          refine lv_istore_n (lv' := [(3, .int x_3), (0, .ref (a 1)), (1, .int (nI ag)), (2, .int set), (4, .int (nI j))]) hx hb dX3_joinAll_41 rfl hl (by decide) rfl (fun ls hl => ?_)
          refine lv_aload_n hx hb dX3_joinAll_42 rfl (lv_at hl 1 rfl) ?_
          refine va_get (D := D) (ci := 3) (v := .ref (a 3)) (C := RX3) (T := TX3) (N := 4) hx hb hts hinX3 hown hK1 hP 1 rfl rfl 1 (by decide) (hts (.fieldLink RX3 17 "KnowledgeModel$Worlds" "arrows" "[[I") (List.mem_of_getElem? (i := 2) rfl)) (fun _ h9 => h9) rfl dX3_joinAll_43 ?_
          refine lv_iload_n hx hb dX3_joinAll_46 rfl (lv_at hl 2 rfl) ?_
          refine xaald (j := ag) (q0 := 3) (t0 := 2) (f := fun i => a (4 + i)) hx hb hK1 hP rfl rfl (by omega) (by decide) dX3_joinAll_47 ?_
          refine lv_iload hx hb dX3_joinAll_48 (lv_at hl 4 rfl) ?_
          refine lv_dup2_11 hx hb dX3_joinAll_50 rfl rfl ?_
          refine xiald (j := j) (q0 := (4 + ag)) (t0 := 0) hx hb hK1 hP (xg_ar (by omega)) rfl (by omega) (by decide) dX3_joinAll_51 ?_
          refine xtop (y := (M (2 + ag) j)) (by exact joinC_at) ?_
          refine lv_iload_n hx hb dX3_joinAll_52 rfl (lv_at hl 3 rfl) ?_
          refine lv_ior hx hb dX3_joinAll_53 ?_
          refine lv_topi (fun x_4 hx_4 => ?_)
          refine xiast (j := j) (q0 := (4 + ag)) (t0 := 0) (ws' := xc cs a (wr (joinC M ag set j) (2 + ag) j x_4) N) hx hb hK1 hP (xD hI) hS (xg_ar (by omega)) rfl (by omega) (by decide) (xs_ar (by omega)) dX3_joinAll_54 (fun H locs hP hS => ?_)
          obtain ⟨M_5, hM_5⟩ : ∃ z, z = wr (joinC M ag set j) (2 + ag) j x_4 := ⟨_, rfl⟩
          rw [← hM_5] at hP
          have hk_6 : M_5 0 0 = nI n := by rw [hM_5]; exact (wr_ne (Or.inl (by omega))).trans (joinC_0.trans hn)
          refine lv_iinc (v := (nI (j + 1))) (lv' := [(4, .int (nI (j + 1))), (3, .int x_3), (0, .ref (a 1)), (1, .int (nI ag)), (2, .int set)]) hx hb dX3_joinAll_55 hl (k := 4) rfl (nI_add j 1) (by decide) rfl (fun ls hl => ?_)
          refine lv_goto (tgt := 5) hx hb dX3_joinAll_58 (by decide) ?_
          have e_7 : x_3 = (joinN M ag set (j + 1)) := by simp only [joinN, fo_s, c11, c20, hx_3, hx_4, hM_5]; try rfl
          have eM_8 : M_5 = joinC M ag set (j + 1) := by funext i w; simp only [wr_eq, joinC, c11, c20, hx_3, hx_4, hM_5]; grind
          exact cut5 (j + 1) (by omega) (by omega) _ _ (eM_8 ▸ hP) hS ls (lcons (lcons (lcons (lcons (lcons (lzero hl) hl 0 rfl rfl) hl 1 rfl (congrArg Value.int e_7)) hl 4 rfl rfl) hl 3 rfl rfl) hl 2 rfl rfl)
  have e_9 : (nI 0) = (joinN M ag set 0) := by first | rfl | (simp [fo_s]; done) | (simp [fo_s] <;> rfl)
  have eM_10 : M = joinC M ag set 0 := by funext i w; simp only [joinC]; rw [if_neg (by omega)]
  exact cut5 (n + 1) 0 (by omega) (by omega) _ _ (eM_10 ▸ hP) hS ls (lcons (lcons (lcons (lcons (lcons (lzero hl) hl 0 rfl rfl) hl 1 rfl (congrArg Value.int e_9)) hl 4 rfl rfl) hl 3 rfl rfl) hl 2 rfl rfl)

def shrA (M : Nat → Nat → Int32) (k j : Nat) : Nat → Nat → Int32 := fun i w => if (1 ≤ i ∧ i < 6) ∧ k ≤ w ∧ w < j then nI 0 else M i w
def shrB (M : Nat → Nat → Int32) (k j q : Nat) : Nat → Nat → Int32 := fun i w => if (1 ≤ i ∧ i < 6) ∧ k ≤ w ∧ w < j ∨ w = j ∧ 1 ≤ i ∧ i < 2 + q then nI 0 else M i w
theorem shrA_0 {M : Nat → Nat → Int32} {k j x : Nat} : shrA M k j 0 x = M 0 x := if_neg (by omega)
theorem shrB_0 {M : Nat → Nat → Int32} {k j q x : Nat} : shrB M k j q 0 x = M 0 x := if_neg (by omega)
def shrZ (M : Nat → Nat → Int32) (k n : Nat) : Nat → Nat → Int32 := wr (shrA M k n) 0 0 (nI k)

set_option maxHeartbeats 4000000 in
set_option maxRecDepth 100000 in
theorem c_X3_shrinkTo (l : Launch) (D : va_G) (cs : Nat → ClassId) (a : Nat → Nat) (M : Nat → Nat → Int32) (N : Nat → Int64) (sz : Nat) (hI : kI a 29)  (n : Nat) (k : Nat) (hk : k ≤ n) (hn : M 0 0 = nI n) (hn24 : n ≤ 24) : Met l yX3_shrinkTo wsX3_shrinkTo ({ frames := 0, cells := 0, slots := 0, locals := 0 } : Room) (va_Pc [.ref (a 1), .int (nI k)] (XBs D cs (xc cs a M N) sz)) (va_Qv (fun (u : Unit) => True) (fun (u : Unit) t => va_P D vwCl (xc cs a (shrZ M k n) N) t.heap) (kA a 29 sz)) 0 0 (kA a 29 sz) := by
  refine Met.ofW (cc := cX3_shrinkTo) (maxL := 4) (ret := none) (by decide) rfl ?_
  intro p e s m args below meth c s₁ B hml hv
  obtain ⟨rfl, hsz, hP, hK⟩ := hv
  have hx := B.exec
  have hb := B.bytes
  have hr := B.returns
  have hts := atoms_spec (ws := wsX3_shrinkTo) B.pre
  have hown : s.vm.findClass RX3 = some m.cls := findClass_of_methodNamed B.named
  have hlocks := B.notSynchronized
  have hK1 := hK.1
  have hinX3 : ∀ w ∈ wsX30, w ∈ wsX3_shrinkTo := fun w h => List.mem_cons_of_mem _ (List.mem_append_right _ h)
  subst hsz
  have hS : va_S (kA a 29 s.heap.size) s.heap s.heap [] := va_S.rf
  have hl := lv_entry ([.ref (a 1), .int (nI k)]) (n := 4) (Nat.le_of_ble_eq_true rfl)
  rw [lg_entry_eq]
  generalize (lg_sl ([.ref (a 1), .int (nI k)]) ++ List.replicate (4 - (lg_sl ([.ref (a 1), .int (nI k)])).length) Slot.unset).toArray = ls at hl ⊢
  have hl : lv_has ls 4 [(0, .ref (a 1)), (1, .int (nI k))] := hl
  refine W_Q (fun Q hQ => ?_)
  show W p l e ({ frames := 0, cells := 0, slots := 0, locals := 0 } : Room) s m ([.ref (a 1), .int (nI k)] : List Value).toArray below meth c s.heap [] 0 0 Q (F0 m 0 ls [])
  refine lv_iload_n hx hb dX3_shrinkTo_0 rfl (lv_at hl 1 rfl) ?_
  refine lv_istore_n (lv' := [(2, .int (nI k)), (0, .ref (a 1)), (1, .int (nI k))]) hx hb dX3_shrinkTo_1 rfl hl (by decide) rfl (fun ls hl => ?_)
  have cut2 : ∀ (f2 : Nat) (j : Nat) (hj : j ≤ n) (hkj : k ≤ j), n + 1 ≤ j + f2 → ∀ (H : Heap) (locs : List Loc), va_P D vwCl (xc cs a (shrA M k j) N) H → va_S (kA a 29 s.heap.size) s.heap H locs → ∀ (ls : Array Slot), lv_has ls 4 [(0, .ref (a 1)), (1, .int (nI k)), (2, .int (nI j))] → W p l e ({ frames := 0, cells := 0, slots := 0, locals := 0 } : Room) s m ([.ref (a 1), .int (nI k)] : List Value).toArray below meth c H locs 0 0 Q (F0 m 2 ls []) := by
    intro f2
    induction f2 with
    | zero => intro j hj hkj hfu2; exact absurd hfu2 (by omega)
    | succ f2 cut2 =>
      intro j hj hkj hfu2 H locs hP hS ls hl
      refine lv_iload_n hx hb dX3_shrinkTo_2 rfl (lv_at hl 2 rfl) ?_
      refine lv_aload_n hx hb dX3_shrinkTo_3 rfl (lv_at hl 0 rfl) ?_
      refine va_get (D := D) (ci := 3) (v := .int ((shrA M k j) 0 0)) (C := RX3) (T := TX3) (N := 4) hx hb hts hinX3 hown hK1 hP 1 rfl rfl 2 (by decide) (hts (.fieldLink RX3 20 "KnowledgeModel$Worlds" "count" "I") (List.mem_of_getElem? (i := 1) rfl)) (fun _ h9 => h9) rfl dX3_shrinkTo_4 ?_
      refine xtop (y := nI n) ((shrA_0.trans hn)) ?_
      refine lv_icmp_ge (tgt := 45) hx hb dX3_shrinkTo_7 (by decide) (fun c7 => ?_) (fun c7 => ?_)
      ·
        replace c7 : n ≤ j := k_get c7 (by omega) (by omega)
        refine lv_aload_n hx hb dX3_shrinkTo_45 rfl (lv_at hl 0 rfl) ?_
        refine lv_iload_n hx hb dX3_shrinkTo_46 rfl (lv_at hl 1 rfl) ?_
        refine xput (D := D) (ci := 3) (v := .int (nI k)) (ty := .int) (C := RX3) (T := TX3) (N := 4) (ws' := xc cs a (wr (shrA M k j) 0 0 (nI k)) N) hx hb hts hinX3 tyX3 tyX3_ok nmX3 hown hK1 hP (xD hI) hS 1 rfl rfl 2 (by decide) (hts (.fieldLink RX3 20 "KnowledgeModel$Worlds" "count" "I") (List.mem_of_getElem? (i := 1) rfl)) (fun _ h9 => h9) rfl (by decide +kernel) rfl rfl (Nat.le_of_ble_eq_true rfl) rfl dX3_shrinkTo_47 (fun H locs hP hS => ?_)
        obtain ⟨M_1, hM_1⟩ : ∃ z, z = wr (shrA M k j) 0 0 (nI k) := ⟨_, rfl⟩
        rw [← hM_1] at hP
        have hk_2 : M_1 0 0 = nI k := by rw [hM_1]; exact wr_same
        subst hQ
        have hMfin : M_1 = shrZ M k n := by (have hje : j = n := by omega); subst hje; simp only [shrZ, c7, hM_1]
        rw [hMfin] at hP
        have hrel : True := by trivial
        exact W.vret hx hb hr (fun t ht hW => ⟨⟨(), rfl, hrel, by rw [← ht] at hP; exact hP⟩, hS.F ht⟩) hS.2.2 dX3_shrinkTo_50
      ·
        replace c7 : j < n := k_gef c7 (by omega) (by omega)
        refine lv_aload_n hx hb dX3_shrinkTo_10 rfl (lv_at hl 0 rfl) ?_
        refine va_get (D := D) (ci := 3) (v := .ref (a 2)) (C := RX3) (T := TX3) (N := 4) hx hb hts hinX3 hown hK1 hP 1 rfl rfl 0 (by decide) (hts (.fieldLink RX3 9 "KnowledgeModel$Worlds" "atomsAt" "[I") (List.mem_of_getElem? (i := 2) rfl)) (fun _ h9 => h9) rfl dX3_shrinkTo_11 ?_
        refine lv_iload_n hx hb dX3_shrinkTo_14 rfl (lv_at hl 2 rfl) ?_
        refine lv_iconst (v := (nI 0)) hx hb dX3_shrinkTo_15 (by decide) ?_
        refine xiast (j := j) (q0 := 2) (t0 := 0) (ws' := xc cs a (wr (shrA M k j) 1 j (nI 0)) N) hx hb hK1 hP (xD hI) hS rfl rfl (by omega) (by decide) xs_2 dX3_shrinkTo_16 (fun H locs hP hS => ?_)
        obtain ⟨M_3, hM_3⟩ : ∃ z, z = wr (shrA M k j) 1 j (nI 0) := ⟨_, rfl⟩
        rw [← hM_3] at hP
        have hk_4 : M_3 0 0 = nI n := by rw [hM_3]; exact (wr_ne (Or.inl (by omega))).trans (shrA_0.trans hn)
        refine lv_iconst (v := (nI 0)) hx hb dX3_shrinkTo_17 (by decide) ?_
        refine lv_istore_n (lv' := [(3, .int (nI 0)), (0, .ref (a 1)), (1, .int (nI k)), (2, .int (nI j))]) hx hb dX3_shrinkTo_18 rfl hl (by decide) rfl (fun ls hl => ?_)
        have cut19 : ∀ (f19 : Nat) (q : Nat) (hq : q ≤ 4), 4 + 1 ≤ q + f19 → ∀ (H : Heap) (locs : List Loc), va_P D vwCl (xc cs a (shrB M k j q) N) H → va_S (kA a 29 s.heap.size) s.heap H locs → ∀ (ls : Array Slot), lv_has ls 4 [(0, .ref (a 1)), (1, .int (nI k)), (2, .int (nI j)), (3, .int (nI q))] → W p l e ({ frames := 0, cells := 0, slots := 0, locals := 0 } : Room) s m ([.ref (a 1), .int (nI k)] : List Value).toArray below meth c H locs 0 0 Q (F0 m 19 ls []) := by
          intro f19
          induction f19 with
          | zero => intro q hq hfu19; exact absurd hfu19 (by omega)
          | succ f19 cut19 =>
            intro q hq hfu19 H locs hP hS ls hl
            refine lv_iload_n hx hb dX3_shrinkTo_19 rfl (lv_at hl 3 rfl) ?_
            refine lv_iconst (v := (nI 4)) hx hb dX3_shrinkTo_20 (by decide) ?_
            refine lv_icmp_ge (tgt := 39) hx hb dX3_shrinkTo_21 (by decide) (fun c21 => ?_) (fun c21 => ?_)
            ·
              replace c21 : 4 ≤ q := k_get c21 (by omega) (by omega)
              refine lv_iinc (v := (nI (j + 1))) (lv' := [(2, .int (nI (j + 1))), (0, .ref (a 1)), (1, .int (nI k)), (3, .int (nI q))]) hx hb dX3_shrinkTo_39 hl (k := 2) rfl (nI_add j 1) (by decide) rfl (fun ls hl => ?_)
              refine lv_goto (tgt := 2) hx hb dX3_shrinkTo_42 (by decide) ?_
              have eM_5 : shrB M k j q = shrA M k (j + 1) := by (have hqe : q = 4 := by omega); subst hqe; funext i w; simp only [shrA, shrB]; grind
              exact cut2 (j + 1) (by omega) (by omega) (by omega) _ _ (eM_5 ▸ hP) hS ls (lcons (lcons (lcons (lzero hl) hl 0 rfl rfl) hl 2 rfl rfl) hl 1 rfl rfl)
            ·
              replace c21 : q < 4 := k_gef c21 (by omega) (by omega)
              refine lv_aload_n hx hb dX3_shrinkTo_24 rfl (lv_at hl 0 rfl) ?_
              refine va_get (D := D) (ci := 3) (v := .ref (a 3)) (C := RX3) (T := TX3) (N := 4) hx hb hts hinX3 hown hK1 hP 1 rfl rfl 1 (by decide) (hts (.fieldLink RX3 17 "KnowledgeModel$Worlds" "arrows" "[[I") (List.mem_of_getElem? (i := 3) rfl)) (fun _ h9 => h9) rfl dX3_shrinkTo_25 ?_
              refine lv_iload_n hx hb dX3_shrinkTo_28 rfl (lv_at hl 3 rfl) ?_
              refine xaald (j := q) (q0 := 3) (t0 := 2) (f := fun i => a (4 + i)) hx hb hK1 hP rfl rfl (by omega) (by decide) dX3_shrinkTo_29 ?_
              refine lv_iload_n hx hb dX3_shrinkTo_30 rfl (lv_at hl 2 rfl) ?_
              refine lv_iconst (v := (nI 0)) hx hb dX3_shrinkTo_31 (by decide) ?_
              refine xiast (j := j) (q0 := (4 + q)) (t0 := 0) (ws' := xc cs a (wr (shrB M k j q) (2 + q) j (nI 0)) N) hx hb hK1 hP (xD hI) hS (xg_ar (by omega)) rfl (by omega) (by decide) (xs_ar (by omega)) dX3_shrinkTo_32 (fun H locs hP hS => ?_)
              obtain ⟨M_6, hM_6⟩ : ∃ z, z = wr (shrB M k j q) (2 + q) j (nI 0) := ⟨_, rfl⟩
              rw [← hM_6] at hP
              have hk_7 : M_6 0 0 = nI n := by rw [hM_6]; exact (wr_ne (Or.inl (by omega))).trans (shrB_0.trans hn)
              refine lv_iinc (v := (nI (q + 1))) (lv' := [(3, .int (nI (q + 1))), (0, .ref (a 1)), (1, .int (nI k)), (2, .int (nI j))]) hx hb dX3_shrinkTo_33 hl (k := 3) rfl (nI_add q 1) (by decide) rfl (fun ls hl => ?_)
              refine lv_goto (tgt := 19) hx hb dX3_shrinkTo_36 (by decide) ?_
              have eM_8 : M_6 = shrB M k j (q + 1) := by funext i w; simp only [wr_eq, shrB, c21, hM_6]; grind
              exact cut19 (q + 1) (by omega) (by omega) _ _ (eM_8 ▸ hP) hS ls (lcons (lcons (lcons (lcons (lzero hl) hl 0 rfl rfl) hl 3 rfl rfl) hl 2 rfl rfl) hl 1 rfl rfl)
        have eM_9 : M_3 = shrB M k j 0 := by funext i w; simp only [wr_eq, shrA, shrB, c7, hM_3]; grind
        exact cut19 (4 + 1) 0 (by omega) (by omega) _ _ (eM_9 ▸ hP) hS ls (lcons (lcons (lcons (lcons (lzero hl) hl 0 rfl rfl) hl 3 rfl rfl) hl 2 rfl rfl) hl 1 rfl rfl)
  have eM_10 : M = shrA M k k := by funext i w; simp only [shrA]; rw [if_neg (by omega)]
  exact cut2 (n + 1) k (by omega) (by omega) (by omega) _ _ (eM_10 ▸ hP) hS ls (lcons (lcons (lcons (lzero hl) hl 0 rfl rfl) hl 2 rfl rfl) hl 1 rfl rfl)

/-- the worlds below j of the set, laid at their new numbers -/
def KeepR (M : Nat → Nat → Int32) (kept : Int32) (j : Nat) (u : Nat → Nat → Int32) : Prop :=
  (∀ w, w < j → bt kept w = true → u 1 (rk kept w) = M 1 w ∧ ∀ i, i < 4 → u (2 + i) (rk kept w) = renum (M (2 + i) w) kept) ∧ ∀ i x, (¬ (1 ≤ i ∧ i < 6) ∨ rk kept j ≤ x) → u i x = M i x
def KeepQ (M : Nat → Nat → Int32) (kept : Int32) (j q : Nat) (u : Nat → Nat → Int32) : Prop :=
  (∀ w, w < j → bt kept w = true → u 1 (rk kept w) = M 1 w ∧ ∀ i, i < 4 → u (2 + i) (rk kept w) = renum (M (2 + i) w) kept) ∧ u 1 (rk kept j) = M 1 j ∧ (∀ i, i < q → u (2 + i) (rk kept j) = renum (M (2 + i) j) kept) ∧ ∀ i x, (¬ (1 ≤ i ∧ i < 6) ∨ rk kept j < x ∨ x = rk kept j ∧ 2 + q ≤ i) → u i x = M i x
theorem rk_s {kept : Int32} {j : Nat} (h : bt kept j = true) : rk kept (j + 1) = rk kept j + 1 := by
  show fb_ct (bt kept) (j + 1) = _
  rw [fb_ct_succ, if_pos h]; rfl
theorem rk_n {kept : Int32} {j : Nat} (h : bt kept j = false) : rk kept (j + 1) = rk kept j := by
  show fb_ct (bt kept) (j + 1) = _
  rw [fb_ct_succ, h]; rfl
theorem rk_mono {kept : Int32} {w j : Nat} (h : w ≤ j) : rk kept w ≤ rk kept j := fb_ct_mono _ h
theorem rk_lt {kept : Int32} {w j : Nat} (h : w < j) (hb : bt kept w = true) : rk kept w < rk kept j := by
  have := rk_mono (kept := kept) (show w + 1 ≤ j from h)
  rw [rk_s hb] at this
  omega
theorem KeepR_0 {M : Nat → Nat → Int32} {kept : Int32} : KeepR M kept 0 M := ⟨fun w h => absurd h (by omega), fun _ _ _ => rfl⟩
theorem KeepR_skip {M u : Nat → Nat → Int32} {kept : Int32} {j : Nat} (h : KeepR M kept j u) (hb : bt kept j = false) : KeepR M kept (j + 1) u := by
  refine ⟨fun w hw hbw => ?_, fun i x hx => h.2 i x (by rw [rk_n hb] at hx; exact hx)⟩
  rcases Nat.lt_or_ge w j with q | q
  · exact h.1 w q hbw
  · have : w = j := by omega
    subst this
    rw [hb] at hbw; cases hbw
theorem KeepQ_0 {M u : Nat → Nat → Int32} {kept : Int32} {j : Nat} (h : KeepR M kept j u) : KeepQ M kept j 0 (wr u 1 (rk kept j) (M 1 j)) := by
  refine ⟨fun w hw hbw => ?_, wr_same, fun i hi => absurd hi (by omega), fun i x hx => ?_⟩
  · have h1 := rk_lt hw hbw
    obtain ⟨a1, a2⟩ := h.1 w hw hbw
    exact ⟨(wr_ne (Or.inr (by omega))).trans a1, fun i hi => (wr_ne (Or.inl (by omega))).trans (a2 i hi)⟩
  · rw [wr_ne (by rcases hx with q | q | q <;> omega)]
    exact h.2 i x (by rcases hx with q | q | q <;> omega)
theorem KeepQ_s {M u : Nat → Nat → Int32} {kept : Int32} {j q : Nat} (h : KeepQ M kept j q u) (hq : q < 4) : KeepQ M kept j (q + 1) (wr u (2 + q) (rk kept j) (renum (M (2 + q) j) kept)) := by
  obtain ⟨h1, h2, h3, h4⟩ := h
  refine ⟨fun w hw hbw => ?_, (wr_ne (Or.inl (by omega))).trans h2, fun i hi => ?_, fun i x hx => ?_⟩
  · have g1 := rk_lt hw hbw
    obtain ⟨a1, a2⟩ := h1 w hw hbw
    exact ⟨(wr_ne (Or.inl (by omega))).trans a1, fun i hi => (wr_ne (Or.inr (by omega))).trans (a2 i hi)⟩
  · rcases Nat.lt_or_ge i q with g | g
    · exact (wr_ne (Or.inl (by omega))).trans (h3 i g)
    · have : i = q := by omega
      subst this
      exact wr_same
  · rw [wr_ne (by rcases hx with g | g | g <;> omega)]
    exact h4 i x (by rcases hx with g | g | g <;> omega)
theorem KeepQ_end {M u : Nat → Nat → Int32} {kept : Int32} {j : Nat} (h : KeepQ M kept j 4 u) (hb : bt kept j = true) : KeepR M kept (j + 1) u := by
  obtain ⟨h1, h2, h3, h4⟩ := h
  refine ⟨fun w hw hbw => ?_, fun i x hx => h4 i x (by rw [rk_s hb] at hx; omega)⟩
  rcases Nat.lt_or_ge w j with q | q
  · exact h1 w q hbw
  · have : w = j := by omega
    subst this
    exact ⟨h2, h3⟩
/-- what keeping the set's worlds leaves -/
def KeepF (M : Nat → Nat → Int32) (n act : Nat) (kept : Int32) (u : Nat → Nat → Int32) : Prop :=
  ∃ v, KeepR M kept n v ∧ u = shrZ (wr v 0 1 (nI (rk kept act))) (rk kept n) n

set_option maxHeartbeats 4000000 in
set_option maxRecDepth 100000 in
theorem c_X3_keepOnly (l : Launch) (D : va_G) (cs : Nat → ClassId) (a : Nat → Nat) (M : Nat → Nat → Int32) (N : Nat → Int64) (sz : Nat) (hI : kI a 29)  (n : Nat) (act : Nat) (kept : Int32) (hn : M 0 0 = nI n) (hn24 : n ≤ 24) (hact : M 0 1 = nI act) (ha24 : act < 24) : Met l yX3_keepOnly wsX3_keepOnly ({ frames := 3, cells := 0, slots := 0, locals := 70 } : Room) (va_Pc [.ref (a 1), .int kept] (XBs D cs (xc cs a M N) sz)) (va_Qi (fun r (u : Nat → Nat → Int32) => r = (nI n - bc kept) ∧ KeepF M n act kept u) (fun (u : Nat → Nat → Int32) t => va_P D vwCl (xc cs a u N) t.heap) (kA a 29 sz)) 0 0 (kA a 29 sz) := by
  refine Met.ofW (cc := cX3_keepOnly) (maxL := 6) (ret := (some .int)) (by decide) rfl ?_
  intro p e s m args below meth c s₁ B hml hv
  obtain ⟨rfl, hsz, hP, hK⟩ := hv
  have hx := B.exec
  have hb := B.bytes
  have hr := B.returns
  have hts := atoms_spec (ws := wsX3_keepOnly) B.pre
  have hown : s.vm.findClass RX3 = some m.cls := findClass_of_methodNamed B.named
  have hlocks := B.notSynchronized
  have hK1 := hK.1
  have hinX3 : ∀ w ∈ wsX30, w ∈ wsX3_keepOnly := fun w h => List.mem_cons_of_mem _ (List.mem_append_right _ h)
  subst hsz
  have hS : va_S (kA a 29 s.heap.size) s.heap s.heap [] := va_S.rf
  have hl := lv_entry ([.ref (a 1), .int kept]) (n := 6) (Nat.le_of_ble_eq_true rfl)
  rw [lg_entry_eq]
  generalize (lg_sl ([.ref (a 1), .int kept]) ++ List.replicate (6 - (lg_sl ([.ref (a 1), .int kept])).length) Slot.unset).toArray = ls at hl ⊢
  have hl : lv_has ls 6 [(0, .ref (a 1)), (1, .int kept)] := hl
  refine W_Q (fun Q hQ => ?_)
  show W p l e ({ frames := 3, cells := 0, slots := 0, locals := 70 } : Room) s m ([.ref (a 1), .int kept] : List Value).toArray below meth c s.heap [] 0 0 Q (F0 m 0 ls [])
  refine lv_aload_n hx hb dX3_keepOnly_0 rfl (lv_at hl 0 rfl) ?_
  refine va_get (D := D) (ci := 3) (v := .int (M 0 0)) (C := RX3) (T := TX3) (N := 4) hx hb hts hinX3 hown hK1 hP 1 rfl rfl 2 (by decide) (hts (.fieldLink RX3 20 "KnowledgeModel$Worlds" "count" "I") (List.mem_of_getElem? (i := 1) rfl)) (fun _ h9 => h9) rfl dX3_keepOnly_1 ?_
  refine xtop (y := nI n) (hn) ?_
  refine lv_iload_n hx hb dX3_keepOnly_4 rfl (lv_at hl 1 rfl) ?_
  refine xcalli (va_runS (As := [.int kept]) (rest := [.int (nI n)]) ⟨hx, hb, hml, hown, hts⟩ (c_J6_bitCount_0f7a4 l kept) (va_cwS 1 hts gX3_keepOnly_J6_bitCount_0f7a4 rfl rfl rfl (by decide +kernel) ⟨Nat.le_of_ble_eq_true rfl, Nat.le_of_ble_eq_true rfl⟩) xpreN rfl rfl hl.1 rfl (lv_room (Nat.le_of_ble_eq_true rfl)) dX3_keepOnly_5 ⟨Nat.le_of_ble_eq_true rfl, Nat.le_of_ble_eq_true rfl⟩) hS hP (fun H locs hP hS => ?_)
  refine lv_isub hx hb dX3_keepOnly_8 ?_
  refine lv_topi (fun x_1 hx_1 => ?_)
  refine lv_istore_n (lv' := [(2, .int x_1), (0, .ref (a 1)), (1, .int kept)]) hx hb dX3_keepOnly_9 rfl hl (by decide) rfl (fun ls hl => ?_)
  refine lv_iconst (v := (nI 0)) hx hb dX3_keepOnly_10 (by decide) ?_
  refine lv_istore_n (lv' := [(3, .int (nI 0)), (2, .int x_1), (0, .ref (a 1)), (1, .int kept)]) hx hb dX3_keepOnly_11 rfl hl (by decide) rfl (fun ls hl => ?_)
  refine lv_iconst (v := (nI 0)) hx hb dX3_keepOnly_12 (by decide) ?_
  refine lv_istore (lv' := [(4, .int (nI 0)), (3, .int (nI 0)), (2, .int x_1), (0, .ref (a 1)), (1, .int kept)]) hx hb dX3_keepOnly_13 hl (by decide) rfl (fun ls hl => ?_)
  have cut15 : ∀ (f15 : Nat) (j : Nat) (Mj : Nat → Nat → Int32) (hj : j ≤ n) (hKR : KeepR M kept j Mj) (hnj : Mj 0 0 = nI n) (haj : Mj 0 1 = nI act), n + 1 ≤ j + f15 → ∀ (H : Heap) (locs : List Loc), va_P D vwCl (xc cs a Mj N) H → va_S (kA a 29 s.heap.size) s.heap H locs → ∀ (ls : Array Slot), lv_has ls 6 [(0, .ref (a 1)), (1, .int kept), (2, .int x_1), (3, .int (nI (rk kept j))), (4, .int (nI j))] → W p l e ({ frames := 3, cells := 0, slots := 0, locals := 70 } : Room) s m ([.ref (a 1), .int kept] : List Value).toArray below meth c H locs 0 0 Q (F0 m 15 ls []) := by
    intro f15
    induction f15 with
    | zero => intro j Mj hj hKR hnj haj hfu15; exact absurd hfu15 (by omega)
    | succ f15 cut15 =>
      intro j Mj hj hKR hnj haj hfu15 H locs hP hS ls hl
      have hrk := rk_le kept j
      refine lv_iload hx hb dX3_keepOnly_15 (lv_at hl 4 rfl) ?_
      refine lv_aload_n hx hb dX3_keepOnly_17 rfl (lv_at hl 0 rfl) ?_
      refine va_get (D := D) (ci := 3) (v := .int (Mj 0 0)) (C := RX3) (T := TX3) (N := 4) hx hb hts hinX3 hown hK1 hP 1 rfl rfl 2 (by decide) (hts (.fieldLink RX3 20 "KnowledgeModel$Worlds" "count" "I") (List.mem_of_getElem? (i := 1) rfl)) (fun _ h9 => h9) rfl dX3_keepOnly_18 ?_
      refine xtop (y := nI n) (hnj) ?_
      refine lv_icmp_ge (tgt := 93) hx hb dX3_keepOnly_21 (by decide) (fun c21 => ?_) (fun c21 => ?_)
      ·
        replace c21 : n ≤ j := k_get c21 (by omega) (by omega)
        refine lv_aload_n hx hb dX3_keepOnly_93 rfl (lv_at hl 0 rfl) ?_
        refine lv_iload_n hx hb dX3_keepOnly_94 rfl (lv_at hl 1 rfl) ?_
        refine lv_aload_n hx hb dX3_keepOnly_95 rfl (lv_at hl 0 rfl) ?_
        refine va_get (D := D) (ci := 3) (v := .int (Mj 0 1)) (C := RX3) (T := TX3) (N := 4) hx hb hts hinX3 hown hK1 hP 1 rfl rfl 3 (by decide) (hts (.fieldLink RX3 24 "KnowledgeModel$Worlds" "actualWorld" "I") (List.mem_of_getElem? (i := 4) rfl)) (fun _ h9 => h9) rfl dX3_keepOnly_96 ?_
        refine xtop (y := nI act) (haj) ?_
        refine xcalli (va_runSN (As := [.int kept, .int (nI act)]) (rest := [.ref (a 1)]) ⟨hx, hb, hml, hown, hts⟩ (c_X4_rankIn l kept act (by omega)) ⟨va_cnB 2 hts gX3_keepOnly_X4_rankIn_n51 rfl rfl rfl hK.2.2.2.2.2.2.2.2.2.1 (hts (.initialized RX4) (List.mem_of_getElem? (i := 13) rfl)) (by decide +kernel) ⟨Nat.le_of_ble_eq_true rfl, Nat.le_of_ble_eq_true rfl⟩, hts (.static yX4_rankIn) (List.mem_of_getElem? (i := 19) rfl), trivial⟩ xpreN rfl rfl hl.1 rfl (lv_room (Nat.le_of_ble_eq_true rfl)) dX3_keepOnly_99 ⟨Nat.le_of_ble_eq_true rfl, Nat.le_of_ble_eq_true rfl⟩) hS hP (fun H locs hP hS => ?_)
        refine xput (D := D) (ci := 3) (v := .int (nI (rk kept act))) (ty := .int) (C := RX3) (T := TX3) (N := 4) (ws' := xc cs a (wr Mj 0 1 (nI (rk kept act))) N) hx hb hts hinX3 tyX3 tyX3_ok nmX3 hown hK1 hP (xD hI) hS 1 rfl rfl 3 (by decide) (hts (.fieldLink RX3 24 "KnowledgeModel$Worlds" "actualWorld" "I") (List.mem_of_getElem? (i := 4) rfl)) (fun _ h9 => h9) rfl (by decide +kernel) rfl rfl (Nat.le_of_ble_eq_true rfl) rfl dX3_keepOnly_102 (fun H locs hP hS => ?_)
        obtain ⟨M_2, hM_2⟩ : ∃ z, z = wr Mj 0 1 (nI (rk kept act)) := ⟨_, rfl⟩
        rw [← hM_2] at hP
        have hk_3 : M_2 0 0 = nI n := by rw [hM_2]; exact (wr_ne (Or.inr (by decide))).trans hnj
        have hk_4 : M_2 0 1 = nI (rk kept act) := by rw [hM_2]; exact wr_same
        refine lv_aload_n hx hb dX3_keepOnly_105 rfl (lv_at hl 0 rfl) ?_
        refine lv_iload_n hx hb dX3_keepOnly_106 rfl (lv_at hl 3 rfl) ?_
        refine xcallwv (va_runV (As := [.int (nI (rk kept j))]) (rest := []) ⟨hx, hb, hml, hown, hts⟩ (c_X3_shrinkTo l D cs a M_2 N _ hI n (rk kept j) (by omega) hk_3 (by omega)) (cwV 1 hts gX3_keepOnly_X3_shrinkTo rfl rfl rfl (by decide +kernel) ⟨Nat.le_of_ble_eq_true rfl, Nat.le_of_ble_eq_true rfl⟩) (xpreVs hP hK (ci := 3) 1 rfl rfl) rfl rfl hl.1 rfl (lv_room (Nat.le_of_ble_eq_true rfl)) dX3_keepOnly_107 ⟨Nat.le_of_ble_eq_true rfl, Nat.le_of_ble_eq_true rfl⟩) hS (kAle hS.1) (fun u_5 H locs hu_5 hP _ _ hS => ?_)
        have hP : va_P D vwCl (xc cs a (shrZ M_2 (rk kept j) n) N) H := hP
        obtain ⟨M_6, hM_6⟩ : ∃ z, z = shrZ M_2 (rk kept j) n := ⟨_, rfl⟩
        rw [← hM_6] at hP
        have hk_7 : M_6 0 0 = nI (rk kept j) := by rw [hM_6]; exact wr_same
        have hk_8 : M_6 0 1 = nI (rk kept act) := by rw [hM_6]; exact (wr_ne (Or.inr (by decide))).trans (shrA_0.trans hk_4)
        refine lv_iload_n hx hb dX3_keepOnly_110 rfl (lv_at hl 2 rfl) ?_
        subst hQ
        have hrel : KeepF M n act kept M_6 := by (have hje : j = n := by omega); subst hje; exact ⟨Mj, hKR, by simp only [wr_eq, c21, hM_2, hM_6, hu_5]⟩
        have hfin : x_1 = (nI n - bc kept) := by assumption
        exact W.iret hx hb hr (fun t ht hW => ⟨⟨_, M_6, rfl, ⟨hfin, hrel⟩, by rw [← ht] at hP; exact hP⟩, hS.F ht⟩) hS.2.2 dX3_keepOnly_111
      ·
        replace c21 : j < n := k_gef c21 (by omega) (by omega)
        refine lv_iload_n hx hb dX3_keepOnly_24 rfl (lv_at hl 1 rfl) ?_
        refine lv_iload hx hb dX3_keepOnly_25 (lv_at hl 4 rfl) ?_
        refine xcalli (va_runSN (As := [.int kept, .int (nI j)]) (rest := []) ⟨hx, hb, hml, hown, hts⟩ (c_X4_contains l kept j (by omega)) ⟨va_cnB 2 hts gX3_keepOnly_X4_contains_n27 rfl rfl rfl hK.2.2.2.2.2.2.2.1 (hts (.initialized RX4) (List.mem_of_getElem? (i := 13) rfl)) (by decide +kernel) ⟨Nat.le_of_ble_eq_true rfl, Nat.le_of_ble_eq_true rfl⟩, hts (.static yX4_contains) (List.mem_of_getElem? (i := 12) rfl), trivial⟩ xpreN rfl rfl hl.1 rfl (lv_room (Nat.le_of_ble_eq_true rfl)) dX3_keepOnly_27 ⟨Nat.le_of_ble_eq_true rfl, Nat.le_of_ble_eq_true rfl⟩) hS hP (fun H locs hP hS => ?_)
        refine lv_if_eq (tgt := 87) hx hb dX3_keepOnly_30 (by decide) (fun c30 => ?_) (fun c30 => ?_)
        ·
          replace c30 := bI_0 c30
          refine lv_iinc (v := (nI (j + 1))) (lv' := [(4, .int (nI (j + 1))), (0, .ref (a 1)), (1, .int kept), (2, .int x_1), (3, .int (nI (rk kept j)))]) hx hb dX3_keepOnly_87 hl (k := 4) rfl (nI_add j 1) (by decide) rfl (fun ls hl => ?_)
          refine lv_goto (tgt := 15) hx hb dX3_keepOnly_90 (by decide) ?_
          have e_10 : (nI (rk kept j)) = (nI (rk kept (j + 1))) := by first | rw [rk_n c30] | rw [rk_s c30]
          exact cut15 (j + 1) Mj (by omega) (by first | exact KeepR_skip hKR c30 | ((have hqe : q = 4 := by omega); subst hqe; exact KeepQ_end hKQ c30)) (by first | exact hnj | exact hnq) (by first | exact haj | exact haq) (by omega) _ _ hP hS ls (lcons (lcons (lcons (lcons (lcons (lzero hl) hl 0 rfl rfl) hl 4 rfl (congrArg Value.int e_10)) hl 3 rfl rfl) hl 2 rfl rfl) hl 1 rfl rfl)
        ·
          replace c30 := bI_n0 c30
          refine lv_aload_n hx hb dX3_keepOnly_33 rfl (lv_at hl 0 rfl) ?_
          refine va_get (D := D) (ci := 3) (v := .ref (a 2)) (C := RX3) (T := TX3) (N := 4) hx hb hts hinX3 hown hK1 hP 1 rfl rfl 0 (by decide) (hts (.fieldLink RX3 9 "KnowledgeModel$Worlds" "atomsAt" "[I") (List.mem_of_getElem? (i := 2) rfl)) (fun _ h9 => h9) rfl dX3_keepOnly_34 ?_
          refine lv_iload_n hx hb dX3_keepOnly_37 rfl (lv_at hl 3 rfl) ?_
          refine lv_aload_n hx hb dX3_keepOnly_38 rfl (lv_at hl 0 rfl) ?_
          refine va_get (D := D) (ci := 3) (v := .ref (a 2)) (C := RX3) (T := TX3) (N := 4) hx hb hts hinX3 hown hK1 hP 1 rfl rfl 0 (by decide) (hts (.fieldLink RX3 9 "KnowledgeModel$Worlds" "atomsAt" "[I") (List.mem_of_getElem? (i := 2) rfl)) (fun _ h9 => h9) rfl dX3_keepOnly_39 ?_
          refine lv_iload hx hb dX3_keepOnly_42 (lv_at hl 4 rfl) ?_
          refine xiald (j := j) (q0 := 2) (t0 := 0) hx hb hK1 hP rfl rfl (by omega) (by decide) dX3_keepOnly_44 ?_
          refine xtop (y := (M 1 j)) (by exact hKR.2 1 j (Or.inr (by omega))) ?_
          refine lv_topi (fun x_11 hx_11 => ?_)
          refine xiast (j := rk kept j) (q0 := 2) (t0 := 0) (ws' := xc cs a (wr Mj 1 (rk kept j) x_11) N) hx hb hK1 hP (xD hI) hS rfl rfl (by omega) (by decide) xs_2 dX3_keepOnly_45 (fun H locs hP hS => ?_)
          obtain ⟨M_12, hM_12⟩ : ∃ z, z = wr Mj 1 (rk kept j) x_11 := ⟨_, rfl⟩
          rw [← hM_12] at hP
          have hk_13 : M_12 0 0 = nI n := by rw [hM_12]; exact (wr_ne (Or.inl (by omega))).trans hnj
          have hk_14 : M_12 0 1 = nI act := by rw [hM_12]; exact (wr_ne (Or.inl (by omega))).trans haj
          refine lv_iconst (v := (nI 0)) hx hb dX3_keepOnly_46 (by decide) ?_
          refine lv_istore (lv' := [(5, .int (nI 0)), (0, .ref (a 1)), (1, .int kept), (2, .int x_1), (3, .int (nI (rk kept j))), (4, .int (nI j))]) hx hb dX3_keepOnly_47 hl (by decide) rfl (fun ls hl => ?_)
          have cut49 : ∀ (f49 : Nat) (q : Nat) (Mq : Nat → Nat → Int32) (hq : q ≤ 4) (hKQ : KeepQ M kept j q Mq) (hnq : Mq 0 0 = nI n) (haq : Mq 0 1 = nI act), 4 + 1 ≤ q + f49 → ∀ (H : Heap) (locs : List Loc), va_P D vwCl (xc cs a Mq N) H → va_S (kA a 29 s.heap.size) s.heap H locs → ∀ (ls : Array Slot), lv_has ls 6 [(0, .ref (a 1)), (1, .int kept), (2, .int x_1), (3, .int (nI (rk kept j))), (4, .int (nI j)), (5, .int (nI q))] → W p l e ({ frames := 3, cells := 0, slots := 0, locals := 70 } : Room) s m ([.ref (a 1), .int kept] : List Value).toArray below meth c H locs 0 0 Q (F0 m 49 ls []) := by
            intro f49
            induction f49 with
            | zero => intro q Mq hq hKQ hnq haq hfu49; exact absurd hfu49 (by omega)
            | succ f49 cut49 =>
              intro q Mq hq hKQ hnq haq hfu49 H locs hP hS ls hl
              refine lv_iload hx hb dX3_keepOnly_49 (lv_at hl 5 rfl) ?_
              refine lv_iconst (v := (nI 4)) hx hb dX3_keepOnly_51 (by decide) ?_
              refine lv_icmp_ge (tgt := 84) hx hb dX3_keepOnly_52 (by decide) (fun c52 => ?_) (fun c52 => ?_)
              ·
                replace c52 : 4 ≤ q := k_get c52 (by omega) (by omega)
                refine lv_iinc (v := (nI (rk kept j + 1))) (lv' := [(3, .int (nI (rk kept j + 1))), (0, .ref (a 1)), (1, .int kept), (2, .int x_1), (4, .int (nI j)), (5, .int (nI q))]) hx hb dX3_keepOnly_84 hl (k := 3) rfl (nI_add (rk kept j) 1) (by decide) rfl (fun ls hl => ?_)
                refine lv_iinc (v := (nI (j + 1))) (lv' := [(4, .int (nI (j + 1))), (3, .int (nI (rk kept j + 1))), (0, .ref (a 1)), (1, .int kept), (2, .int x_1), (5, .int (nI q))]) hx hb dX3_keepOnly_87 hl (k := 4) rfl (nI_add j 1) (by decide) rfl (fun ls hl => ?_)
                refine lv_goto (tgt := 15) hx hb dX3_keepOnly_90 (by decide) ?_
                have e_15 : (nI (rk kept j + 1)) = (nI (rk kept (j + 1))) := by first | rw [rk_n c30] | rw [rk_s c30]
                exact cut15 (j + 1) Mq (by omega) (by first | exact KeepR_skip hKR c30 | ((have hqe : q = 4 := by omega); subst hqe; exact KeepQ_end hKQ c30)) (by first | exact hnj | exact hnq) (by first | exact haj | exact haq) (by omega) _ _ hP hS ls (lcons (lcons (lcons (lcons (lcons (lzero hl) hl 0 rfl rfl) hl 1 rfl (congrArg Value.int e_15)) hl 4 rfl rfl) hl 3 rfl rfl) hl 2 rfl rfl)
              ·
                replace c52 : q < 4 := k_gef c52 (by omega) (by omega)
                refine lv_aload_n hx hb dX3_keepOnly_55 rfl (lv_at hl 0 rfl) ?_
                refine va_get (D := D) (ci := 3) (v := .ref (a 3)) (C := RX3) (T := TX3) (N := 4) hx hb hts hinX3 hown hK1 hP 1 rfl rfl 1 (by decide) (hts (.fieldLink RX3 17 "KnowledgeModel$Worlds" "arrows" "[[I") (List.mem_of_getElem? (i := 3) rfl)) (fun _ h9 => h9) rfl dX3_keepOnly_56 ?_
                refine lv_iload hx hb dX3_keepOnly_59 (lv_at hl 5 rfl) ?_
                refine xaald (j := q) (q0 := 3) (t0 := 2) (f := fun i => a (4 + i)) hx hb hK1 hP rfl rfl (by omega) (by decide) dX3_keepOnly_61 ?_
                refine lv_iload_n hx hb dX3_keepOnly_62 rfl (lv_at hl 3 rfl) ?_
                refine lv_aload_n hx hb dX3_keepOnly_63 rfl (lv_at hl 0 rfl) ?_
                refine va_get (D := D) (ci := 3) (v := .ref (a 3)) (C := RX3) (T := TX3) (N := 4) hx hb hts hinX3 hown hK1 hP 1 rfl rfl 1 (by decide) (hts (.fieldLink RX3 17 "KnowledgeModel$Worlds" "arrows" "[[I") (List.mem_of_getElem? (i := 3) rfl)) (fun _ h9 => h9) rfl dX3_keepOnly_64 ?_
                refine lv_iload hx hb dX3_keepOnly_67 (lv_at hl 5 rfl) ?_
                refine xaald (j := q) (q0 := 3) (t0 := 2) (f := fun i => a (4 + i)) hx hb hK1 hP rfl rfl (by omega) (by decide) dX3_keepOnly_69 ?_
                refine lv_iload hx hb dX3_keepOnly_70 (lv_at hl 4 rfl) ?_
                refine xiald (j := j) (q0 := (4 + q)) (t0 := 0) hx hb hK1 hP (xg_ar (by omega)) rfl (by omega) (by decide) dX3_keepOnly_72 ?_
                refine xtop (y := (M (2 + q) j)) (by exact hKQ.2.2.2 (2 + q) j (by omega)) ?_
                refine lv_iload_n hx hb dX3_keepOnly_73 rfl (lv_at hl 1 rfl) ?_
                refine xcalli (va_runSN (As := [.int (M (2 + q) j), .int kept]) (rest := [.int (nI (rk kept j)), .ref (a (4 + q))]) ⟨hx, hb, hml, hown, hts⟩ (c_X4_renumbered l (M (2 + q) j) kept) ⟨va_cnB 2 hts gX3_keepOnly_X4_renumbered_n48 rfl rfl rfl hK.2.2.2.2.2.2.2.2.1 (hts (.initialized RX4) (List.mem_of_getElem? (i := 13) rfl)) (by decide +kernel) ⟨Nat.le_of_ble_eq_true rfl, Nat.le_of_ble_eq_true rfl⟩, hts (.static yX4_renumbered) (List.mem_of_getElem? (i := 15) rfl), trivial⟩ xpreN rfl rfl hl.1 rfl (lv_room (Nat.le_of_ble_eq_true rfl)) dX3_keepOnly_74 ⟨Nat.le_of_ble_eq_true rfl, Nat.le_of_ble_eq_true rfl⟩) hS hP (fun H locs hP hS => ?_)
                refine lv_topi (fun x_16 hx_16 => ?_)
                refine xiast (j := rk kept j) (q0 := (4 + q)) (t0 := 0) (ws' := xc cs a (wr Mq (2 + q) (rk kept j) x_16) N) hx hb hK1 hP (xD hI) hS (xg_ar (by omega)) rfl (by omega) (by decide) (xs_ar (by omega)) dX3_keepOnly_77 (fun H locs hP hS => ?_)
                obtain ⟨M_17, hM_17⟩ : ∃ z, z = wr Mq (2 + q) (rk kept j) x_16 := ⟨_, rfl⟩
                rw [← hM_17] at hP
                have hk_18 : M_17 0 0 = nI n := by rw [hM_17]; exact (wr_ne (Or.inl (by omega))).trans hnq
                have hk_19 : M_17 0 1 = nI act := by rw [hM_17]; exact (wr_ne (Or.inl (by omega))).trans haq
                refine lv_iinc (v := (nI (q + 1))) (lv' := [(5, .int (nI (q + 1))), (0, .ref (a 1)), (1, .int kept), (2, .int x_1), (3, .int (nI (rk kept j))), (4, .int (nI j))]) hx hb dX3_keepOnly_78 hl (k := 5) rfl (nI_add q 1) (by decide) rfl (fun ls hl => ?_)
                refine lv_goto (tgt := 49) hx hb dX3_keepOnly_81 (by decide) ?_
                exact cut49 (q + 1) M_17 (by omega) (by simp only [wr_eq, c52, hx_16, hM_17]; exact KeepQ_s hKQ c52) (by assumption) (by assumption) (by omega) _ _ hP hS ls (lcons (lcons (lcons (lcons (lcons (lcons (lzero hl) hl 0 rfl rfl) hl 5 rfl rfl) hl 4 rfl rfl) hl 3 rfl rfl) hl 2 rfl rfl) hl 1 rfl rfl)
          exact cut49 (4 + 1) 0 M_12 (by omega) (by simp only [wr_eq, c21, c30, hx_11, hM_12]; exact KeepQ_0 hKR) (by assumption) (by assumption) (by omega) _ _ hP hS ls (lcons (lcons (lcons (lcons (lcons (lcons (lzero hl) hl 0 rfl rfl) hl 5 rfl rfl) hl 4 rfl rfl) hl 3 rfl rfl) hl 2 rfl rfl) hl 1 rfl rfl)
  have e_20 : (nI 0) = (nI (rk kept 0)) := by rfl
  exact cut15 (n + 1) 0 M (by omega) (by exact KeepR_0) (by exact hn) (by exact hact) (by omega) _ _ hP hS ls (lcons (lcons (lcons (lcons (lcons (lzero hl) hl 0 rfl rfl) hl 1 rfl (congrArg Value.int e_20)) hl 2 rfl rfl) hl 4 rfl rfl) hl 3 rfl rfl)

