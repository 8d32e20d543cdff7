def side (set : Int32) (w : Nat) : Int32 := if bt set w = true then set else set ^^^ (-1)
def cutC (M : Nat → Nat → Int32) (g set : Int32) (n q j : Nat) : Nat → Nat → Int32 := fun i w => if (2 ≤ i ∧ i < 6 ∧ bt g (i - 2) = true) ∧ (i < 2 + q ∧ w < n ∨ i = 2 + q ∧ w < j) then M i w &&& side set w else M i w
theorem cutC_0 {M : Nat → Nat → Int32} {g set : Int32} {n q j x : Nat} : cutC M g set n q j 0 x = M 0 x := if_neg (by omega)
theorem cutC_at {M : Nat → Nat → Int32} {g set : Int32} {n q j : Nat} : cutC M g set n q j (2 + q) j = M (2 + q) j := if_neg (by omega)
def cutI (M : Nat → Nat → Int32) (set : Int32) (q : Nat) (r : Int32) (j : Nat) : Int32 := fo (fun w r => r + bc (M (2 + q) w &&& (side set w ^^^ (-1)))) r j
def cutN (M : Nat → Nat → Int32) (g set : Int32) (n q : Nat) : Int32 := fo (fun q r => if bt g q then cutI M set q r n else r) (nI 0) q
theorem cutC_s {M : Nat → Nat → Int32} {g set : Int32} {n q j : Nat} (hb : bt g q = true) (hq : q < 4) : wr (cutC M g set n q j) (2 + q) j (M (2 + q) j &&& side set j) = cutC M g set n q (j + 1) := by
  funext i w
  rw [wr_eq]
  by_cases h : i = 2 + q ∧ w = j
  · obtain ⟨rfl, rfl⟩ := h
    rw [if_pos ⟨rfl, rfl⟩]
    unfold cutC
    rw [if_pos ⟨⟨by omega, by omega, by rw [Nat.add_sub_cancel_left]; exact hb⟩, Or.inr ⟨rfl, by omega⟩⟩]
  · rw [if_neg h]
    unfold cutC
    have : (i < 2 + q ∧ w < n ∨ i = 2 + q ∧ w < j) ↔ (i < 2 + q ∧ w < n ∨ i = 2 + q ∧ w < j + 1) := by omega
    simp only [this]
theorem cutC_e {M : Nat → Nat → Int32} {g set : Int32} {n q : Nat} : cutC M g set n q n = cutC M g set n (q + 1) 0 := by
  funext i w
  unfold cutC
  have : (i < 2 + q ∧ w < n ∨ i = 2 + q ∧ w < n) ↔ (i < 2 + (q + 1) ∧ w < n ∨ i = 2 + (q + 1) ∧ w < 0) := by omega
  simp only [this]
theorem cutC_k {M : Nat → Nat → Int32} {g set : Int32} {n q : Nat} (hb : bt g q = false) : cutC M g set n q 0 = cutC M g set n (q + 1) 0 := by
  funext i w
  unfold cutC
  by_cases h : i = 2 + q
  · subst h
    rw [if_neg (by omega), if_neg]
    rintro ⟨⟨_, _, h3⟩, _⟩
    rw [Nat.add_sub_cancel_left, hb] at h3; cases h3
  · have : (i < 2 + q ∧ w < n ∨ i = 2 + q ∧ w < 0) ↔ (i < 2 + (q + 1) ∧ w < n ∨ i = 2 + (q + 1) ∧ w < 0) := by omega
    simp only [this]

set_option maxHeartbeats 4000000 in
set_option maxRecDepth 100000 in
theorem c_X3_cutBetween (l : Launch) (D : va_G) (cs : Nat → ClassId) (a : Nat → Nat) (M : Nat → Nat → Int32) (N : Nat → Int64) (sz : Nat) (hI : kI a 29)  (n : Nat) (g : Int32) (set : Int32) (hn : M 0 0 = nI n) (hn24 : n ≤ 24) : Met l yX3_cutBetween wsX3_cutBetween ({ frames := 1, cells := 0, slots := 0, locals := 21 } : Room) (va_Pc [.ref (a 1), .int g, .int set] (XBs D cs (xc cs a M N) sz)) (va_Qi (fun r (u : Unit) => r = cutN M g set n 4 ∧ True) (fun (u : Unit) t => va_P D vwCl (xc cs a (cutC M g set n 4 0) N) t.heap) (kA a 29 sz)) 0 0 (kA a 29 sz) := by
  refine Met.ofW (cc := cX3_cutBetween) (maxL := 7) (ret := (some .int)) (by decide) rfl ?_
  intro p e s m args below meth c s₁ B hml hv
  obtain ⟨rfl, hsz, hP, hK⟩ := hv
  have hx := B.exec
  have hb := B.bytes
  have hr := B.returns
  have hts := atoms_spec (ws := wsX3_cutBetween) B.pre
  have hown : s.vm.findClass RX3 = some m.cls := findClass_of_methodNamed B.named
  have hlocks := B.notSynchronized
  have hK1 := hK.1
  have hinX3 : ∀ w ∈ wsX30, w ∈ wsX3_cutBetween := fun w h => List.mem_cons_of_mem _ (List.mem_append_right _ h)
  subst hsz
  have hS : va_S (kA a 29 s.heap.size) s.heap s.heap [] := va_S.rf
  have hl := lv_entry ([.ref (a 1), .int g, .int set]) (n := 7) (Nat.le_of_ble_eq_true rfl)
  rw [lg_entry_eq]
  generalize (lg_sl ([.ref (a 1), .int g, .int set]) ++ List.replicate (7 - (lg_sl ([.ref (a 1), .int g, .int set])).length) Slot.unset).toArray = ls at hl ⊢
  have hl : lv_has ls 7 [(0, .ref (a 1)), (1, .int g), (2, .int set)] := hl
  refine W_Q (fun Q hQ => ?_)
  show W p l e ({ frames := 1, cells := 0, slots := 0, locals := 21 } : Room) s m ([.ref (a 1), .int g, .int set] : List Value).toArray below meth c s.heap [] 0 0 Q (F0 m 0 ls [])
  refine lv_iconst (v := (nI 0)) hx hb dX3_cutBetween_0 (by decide) ?_
  refine lv_istore_n (lv' := [(3, .int (nI 0)), (0, .ref (a 1)), (1, .int g), (2, .int set)]) hx hb dX3_cutBetween_1 rfl hl (by decide) rfl (fun ls hl => ?_)
  refine lv_iconst (v := (nI 0)) hx hb dX3_cutBetween_2 (by decide) ?_
  refine lv_istore (lv' := [(4, .int (nI 0)), (3, .int (nI 0)), (0, .ref (a 1)), (1, .int g), (2, .int set)]) hx hb dX3_cutBetween_3 hl (by decide) rfl (fun ls hl => ?_)
  have cut5 : ∀ (f5 : Nat) (q : Nat) (hq : q ≤ 4), 4 + 1 ≤ q + f5 → ∀ (H : Heap) (locs : List Loc), va_P D vwCl (xc cs a (cutC M g set n q 0) N) H → va_S (kA a 29 s.heap.size) s.heap H locs → ∀ (ls : Array Slot), lv_has ls 7 [(0, .ref (a 1)), (1, .int g), (2, .int set), (3, .int (cutN M g set n q)), (4, .int (nI q))] → W p l e ({ frames := 1, cells := 0, slots := 0, locals := 21 } : Room) s m ([.ref (a 1), .int g, .int set] : List Value).toArray below meth c H locs 0 0 Q (F0 m 5 ls []) := by
    intro f5
    induction f5 with
    | zero => intro q hq hfu5; exact absurd hfu5 (by omega)
    | succ f5 cut5 =>
      intro q hq hfu5 H locs hP hS ls hl
      refine lv_iload hx hb dX3_cutBetween_5 (lv_at hl 4 rfl) ?_
      refine lv_iconst (v := (nI 4)) hx hb dX3_cutBetween_7 (by decide) ?_
      refine lv_icmp_ge (tgt := 98) hx hb dX3_cutBetween_8 (by decide) (fun c8 => ?_) (fun c8 => ?_)
      ·
        replace c8 : 4 ≤ q := k_get c8 (by omega) (by omega)
        refine lv_iload_n hx hb dX3_cutBetween_98 rfl (lv_at hl 3 rfl) ?_
        subst hQ
        have hMfin : cutC M g set n q 0 = cutC M g set n 4 0 := by (have hqe : q = 4 := by omega); subst hqe; rfl
        rw [hMfin] at hP
        have hrel : True := by trivial
        have hfin : (cutN M g set n q) = cutN M g set n 4 := by (have hqe : q = 4 := by omega); subst hqe; rfl
        exact W.iret hx hb hr (fun t ht hW => ⟨⟨_, (), rfl, ⟨hfin, hrel⟩, by rw [← ht] at hP; exact hP⟩, hS.F ht⟩) hS.2.2 dX3_cutBetween_99
      ·
        replace c8 : q < 4 := k_gef c8 (by omega) (by omega)
        refine lv_iload_n hx hb dX3_cutBetween_11 rfl (lv_at hl 1 rfl) ?_
        refine lv_iload hx hb dX3_cutBetween_12 (lv_at hl 4 rfl) ?_
        refine xcalli (va_runSN (As := [.int g, .int (nI q)]) (rest := []) ⟨hx, hb, hml, hown, hts⟩ (c_X4_contains l g q (by omega)) ⟨va_cnB 2 hts gX3_cutBetween_X4_contains_n27 rfl rfl rfl hK.2.2.2.2.2.2.2.1 (hts (.initialized RX4) (List.mem_of_getElem? (i := 4) rfl)) (by decide +kernel) ⟨Nat.le_of_ble_eq_true rfl, Nat.le_of_ble_eq_true rfl⟩, hts (.static yX4_contains) (List.mem_of_getElem? (i := 3) rfl), trivial⟩ xpreN rfl rfl hl.1 rfl (lv_room (Nat.le_of_ble_eq_true rfl)) dX3_cutBetween_14 ⟨Nat.le_of_ble_eq_true rfl, Nat.le_of_ble_eq_true rfl⟩) hS hP (fun H locs hP hS => ?_)
        refine lv_if_eq (tgt := 92) hx hb dX3_cutBetween_17 (by decide) (fun c17 => ?_) (fun c17 => ?_)
        ·
          replace c17 := bI_0 c17
          refine lv_iinc (v := (nI (q + 1))) (lv' := [(4, .int (nI (q + 1))), (0, .ref (a 1)), (1, .int g), (2, .int set), (3, .int (cutN M g set n q))]) hx hb dX3_cutBetween_92 hl (k := 4) rfl (nI_add q 1) (by decide) rfl (fun ls hl => ?_)
          refine lv_goto (tgt := 5) hx hb dX3_cutBetween_95 (by decide) ?_
          have e_1 : (cutN M g set n q) = (cutN M g set n (q + 1)) := by first | (simp only [cutN, fo_s, c17]; rfl) | ((have hje : j = n := by omega); subst hje; simp only [cutN, fo_s, c17]; rfl)
          have eM_2 : cutC M g set n q 0 = cutC M g set n (q + 1) 0 := by first | exact cutC_k c17 | ((have hje : j = n := by omega); subst hje; exact cutC_e)
          exact cut5 (q + 1) (by omega) (by omega) _ _ (eM_2 ▸ hP) hS ls (lcons (lcons (lcons (lcons (lcons (lzero hl) hl 0 rfl rfl) hl 4 rfl (congrArg Value.int e_1)) hl 3 rfl rfl) hl 2 rfl rfl) hl 1 rfl rfl)
        ·
          replace c17 := bI_n0 c17
          refine lv_iconst (v := (nI 0)) hx hb dX3_cutBetween_20 (by decide) ?_
          refine lv_istore (lv' := [(5, .int (nI 0)), (0, .ref (a 1)), (1, .int g), (2, .int set), (3, .int (cutN M g set n q)), (4, .int (nI q))]) hx hb dX3_cutBetween_21 hl (by decide) rfl (fun ls hl => ?_)
          have cut23 : ∀ (f23 : Nat) (j : Nat) (hj : j ≤ n), n + 1 ≤ j + f23 → ∀ (H : Heap) (locs : List Loc), va_P D vwCl (xc cs a (cutC M g set n q j) N) H → va_S (kA a 29 s.heap.size) s.heap H locs → ∀ (ls : Array Slot), lv_has ls 7 [(0, .ref (a 1)), (1, .int g), (2, .int set), (3, .int (cutI M set q (cutN M g set n q) j)), (4, .int (nI q)), (5, .int (nI j))] → W p l e ({ frames := 1, cells := 0, slots := 0, locals := 21 } : Room) s m ([.ref (a 1), .int g, .int set] : List Value).toArray below meth c H locs 0 0 Q (F0 m 23 ls []) := by
            intro f23
            induction f23 with
            | zero => intro j hj hfu23; exact absurd hfu23 (by omega)
            | succ f23 cut23 =>
              intro j hj hfu23 H locs hP hS ls hl
              refine lv_iload hx hb dX3_cutBetween_23 (lv_at hl 5 rfl) ?_
              refine lv_aload_n hx hb dX3_cutBetween_25 rfl (lv_at hl 0 rfl) ?_
              refine va_get (D := D) (ci := 3) (v := .int ((cutC M g set n q j) 0 0)) (C := RX3) (T := TX3) (N := 4) hx hb hts hinX3 hown hK1 hP 1 rfl rfl 2 (by decide) (hts (.fieldLink RX3 20 "KnowledgeModel$Worlds" "count" "I") (List.mem_of_getElem? (i := 1) rfl)) (fun _ h9 => h9) rfl dX3_cutBetween_26 ?_
              refine xtop (y := nI n) ((cutC_0.trans hn)) ?_
              refine lv_icmp_ge (tgt := 92) hx hb dX3_cutBetween_29 (by decide) (fun c29 => ?_) (fun c29 => ?_)
              ·
                replace c29 : n ≤ j := k_get c29 (by omega) (by omega)
                refine lv_iinc (v := (nI (q + 1))) (lv' := [(4, .int (nI (q + 1))), (0, .ref (a 1)), (1, .int g), (2, .int set), (3, .int (cutI M set q (cutN M g set n q) j)), (5, .int (nI j))]) hx hb dX3_cutBetween_92 hl (k := 4) rfl (nI_add q 1) (by decide) rfl (fun ls hl => ?_)
                refine lv_goto (tgt := 5) hx hb dX3_cutBetween_95 (by decide) ?_
                have e_3 : (cutI M set q (cutN M g set n q) j) = (cutN M g set n (q + 1)) := by first | (simp only [cutN, fo_s, c17]; rfl) | ((have hje : j = n := by omega); subst hje; simp only [cutN, fo_s, c17]; rfl)
                have eM_4 : cutC M g set n q j = cutC M g set n (q + 1) 0 := by first | exact cutC_k c17 | ((have hje : j = n := by omega); subst hje; exact cutC_e)
                exact cut5 (q + 1) (by omega) (by omega) _ _ (eM_4 ▸ hP) hS ls (lcons (lcons (lcons (lcons (lcons (lzero hl) hl 0 rfl rfl) hl 4 rfl (congrArg Value.int e_3)) hl 3 rfl rfl) hl 2 rfl rfl) hl 1 rfl rfl)
              ·
                replace c29 : j < n := k_gef c29 (by omega) (by omega)
                refine lv_iload_n hx hb dX3_cutBetween_32 rfl (lv_at hl 2 rfl) ?_
                refine lv_iload hx hb dX3_cutBetween_33 (lv_at hl 5 rfl) ?_
                refine xcalli (va_runSN (As := [.int set, .int (nI j)]) (rest := []) ⟨hx, hb, hml, hown, hts⟩ (c_X4_contains l set j (by omega)) ⟨va_cnB 2 hts gX3_cutBetween_X4_contains_n27 rfl rfl rfl hK.2.2.2.2.2.2.2.1 (hts (.initialized RX4) (List.mem_of_getElem? (i := 4) rfl)) (by decide +kernel) ⟨Nat.le_of_ble_eq_true rfl, Nat.le_of_ble_eq_true rfl⟩, hts (.static yX4_contains) (List.mem_of_getElem? (i := 3) rfl), trivial⟩ xpreN rfl rfl hl.1 rfl (lv_room (Nat.le_of_ble_eq_true rfl)) dX3_cutBetween_35 ⟨Nat.le_of_ble_eq_true rfl, Nat.le_of_ble_eq_true rfl⟩) hS hP (fun H locs hP hS => ?_)
                refine lv_if_eq (tgt := 45) hx hb dX3_cutBetween_38 (by decide) (fun c38 => ?_) (fun c38 => ?_)
                ·
                  replace c38 := bI_0 c38
                  refine lv_iload_n hx hb dX3_cutBetween_45 rfl (lv_at hl 2 rfl) ?_
                  refine lv_iconst (v := (-1)) hx hb dX3_cutBetween_46 (by decide) ?_
                  refine lv_ixor hx hb dX3_cutBetween_47 ?_
                  refine lv_topi (fun x_5 hx_5 => ?_)
                  refine lv_istore (lv' := [(6, .int x_5), (0, .ref (a 1)), (1, .int g), (2, .int set), (3, .int (cutI M set q (cutN M g set n q) j)), (4, .int (nI q)), (5, .int (nI j))]) hx hb dX3_cutBetween_48 hl (by decide) rfl (fun ls hl => ?_)
                  refine lv_iload_n hx hb dX3_cutBetween_50 rfl (lv_at hl 4 rfl) ?_
                  refine lv_aload_n hx hb dX3_cutBetween_51 rfl (lv_at hl 1 rfl) ?_
                  refine va_get (D := D) (ci := 3) (v := .ref (a 3)) (C := RX3) (T := TX3) (N := 4) hx hb hts hinX3 hown hK1 hP 1 rfl rfl 1 (by decide) (hts (.fieldLink RX3 17 "KnowledgeModel$Worlds" "arrows" "[[I") (List.mem_of_getElem? (i := 2) rfl)) (fun _ h9 => h9) rfl dX3_cutBetween_52 ?_
                  refine lv_iload hx hb dX3_cutBetween_55 (lv_at hl 5 rfl) ?_
                  refine xaald (j := q) (q0 := 3) (t0 := 2) (f := fun i => a (4 + i)) hx hb hK1 hP rfl rfl (by omega) (by decide) dX3_cutBetween_57 ?_
                  refine lv_iload hx hb dX3_cutBetween_58 (lv_at hl 6 rfl) ?_
                  refine xiald (j := j) (q0 := (4 + q)) (t0 := 0) hx hb hK1 hP (xg_ar (by omega)) rfl (by omega) (by decide) dX3_cutBetween_60 ?_
                  refine xtop (y := (M (2 + q) j)) (by exact cutC_at) ?_
                  refine lv_iload hx hb dX3_cutBetween_61 (lv_at hl 0 rfl) ?_
                  refine lv_iconst (v := (-1)) hx hb dX3_cutBetween_63 (by decide) ?_
                  refine lv_ixor hx hb dX3_cutBetween_64 ?_
                  refine lv_iand hx hb dX3_cutBetween_65 ?_
                  refine xcalli (va_runS (As := [.int ((M (2 + q) j) &&& (x_5 ^^^ (-1)))]) (rest := [.int (cutI M set q (cutN M g set n q) j)]) ⟨hx, hb, hml, hown, hts⟩ (c_J6_bitCount_0f7a4 l ((M (2 + q) j) &&& (x_5 ^^^ (-1)))) (va_cwS 1 hts gX3_cutBetween_J6_bitCount_0f7a4 rfl rfl rfl (by decide +kernel) ⟨Nat.le_of_ble_eq_true rfl, Nat.le_of_ble_eq_true rfl⟩) xpreN rfl rfl hl.1 rfl (lv_room (Nat.le_of_ble_eq_true rfl)) dX3_cutBetween_66 ⟨Nat.le_of_ble_eq_true rfl, Nat.le_of_ble_eq_true rfl⟩) hS hP (fun H locs hP hS => ?_)
                  refine lv_iadd hx hb dX3_cutBetween_69 ?_
                  refine lv_topi (fun x_6 hx_6 => ?_)
                  refine lv_istore_n (lv' := [(3, .int x_6), (6, .int x_5), (0, .ref (a 1)), (1, .int g), (2, .int set), (4, .int (nI q)), (5, .int (nI j))]) hx hb dX3_cutBetween_70 rfl hl (by decide) rfl (fun ls hl => ?_)
                  refine lv_aload_n hx hb dX3_cutBetween_71 rfl (lv_at hl 2 rfl) ?_
                  refine va_get (D := D) (ci := 3) (v := .ref (a 3)) (C := RX3) (T := TX3) (N := 4) hx hb hts hinX3 hown hK1 hP 1 rfl rfl 1 (by decide) (hts (.fieldLink RX3 17 "KnowledgeModel$Worlds" "arrows" "[[I") (List.mem_of_getElem? (i := 2) rfl)) (fun _ h9 => h9) rfl dX3_cutBetween_72 ?_
                  refine lv_iload hx hb dX3_cutBetween_75 (lv_at hl 5 rfl) ?_
                  refine xaald (j := q) (q0 := 3) (t0 := 2) (f := fun i => a (4 + i)) hx hb hK1 hP rfl rfl (by omega) (by decide) dX3_cutBetween_77 ?_
                  refine lv_iload hx hb dX3_cutBetween_78 (lv_at hl 6 rfl) ?_
                  refine lv_dup2_11 hx hb dX3_cutBetween_80 rfl rfl ?_
                  refine xiald (j := j) (q0 := (4 + q)) (t0 := 0) hx hb hK1 hP (xg_ar (by omega)) rfl (by omega) (by decide) dX3_cutBetween_81 ?_
                  refine xtop (y := (M (2 + q) j)) (by exact cutC_at) ?_
                  refine lv_iload hx hb dX3_cutBetween_82 (lv_at hl 1 rfl) ?_
                  refine lv_iand hx hb dX3_cutBetween_84 ?_
                  refine lv_topi (fun x_7 hx_7 => ?_)
                  refine xiast (j := j) (q0 := (4 + q)) (t0 := 0) (ws' := xc cs a (wr (cutC M g set n q j) (2 + q) j x_7) N) hx hb hK1 hP (xD hI) hS (xg_ar (by omega)) rfl (by omega) (by decide) (xs_ar (by omega)) dX3_cutBetween_85 (fun H locs hP hS => ?_)
                  obtain ⟨M_8, hM_8⟩ : ∃ z, z = wr (cutC M g set n q j) (2 + q) j x_7 := ⟨_, rfl⟩
                  rw [← hM_8] at hP
                  have hk_9 : M_8 0 0 = nI n := by rw [hM_8]; exact (wr_ne (Or.inl (by omega))).trans (cutC_0.trans hn)
                  refine lv_iinc (v := (nI (j + 1))) (lv' := [(5, .int (nI (j + 1))), (3, .int x_6), (6, .int x_5), (0, .ref (a 1)), (1, .int g), (2, .int set), (4, .int (nI q))]) hx hb dX3_cutBetween_86 hl (k := 6) rfl (nI_add j 1) (by decide) rfl (fun ls hl => ?_)
                  refine lv_goto (tgt := 23) hx hb dX3_cutBetween_89 (by decide) ?_
                  have e_10 : x_6 = (cutI M set q (cutN M g set n q) (j + 1)) := by simp only [cutI, fo_s, side, c29, c38, hx_5, hx_6, hx_7, hM_8]; try rfl
                  have eM_11 : M_8 = cutC M g set n q (j + 1) := by rw [← cutC_s c17 c8]; simp only [side, c29, c38, hx_5, hx_6, hx_7, hM_8]; try rfl
                  exact cut23 (j + 1) (by omega) (by omega) _ _ (eM_11 ▸ hP) hS ls (lcons (lcons (lcons (lcons (lcons (lcons (lzero hl) hl 0 rfl rfl) hl 6 rfl rfl) hl 1 rfl (congrArg Value.int e_10)) hl 5 rfl rfl) hl 4 rfl rfl) hl 3 rfl rfl)
                ·
                  replace c38 := bI_n0 c38
                  refine lv_iload_n hx hb dX3_cutBetween_41 rfl (lv_at hl 2 rfl) ?_
                  refine lv_goto (tgt := 48) hx hb dX3_cutBetween_42 (by decide) ?_
                  refine lv_istore (lv' := [(6, .int set), (0, .ref (a 1)), (1, .int g), (2, .int set), (3, .int (cutI M set q (cutN M g set n q) j)), (4, .int (nI q)), (5, .int (nI j))]) hx hb dX3_cutBetween_48 hl (by decide) rfl (fun ls hl => ?_)
                  refine lv_iload_n hx hb dX3_cutBetween_50 rfl (lv_at hl 4 rfl) ?_
                  refine lv_aload_n hx hb dX3_cutBetween_51 rfl (lv_at hl 1 rfl) ?_
                  refine va_get (D := D) (ci := 3) (v := .ref (a 3)) (C := RX3) (T := TX3) (N := 4) hx hb hts hinX3 hown hK1 hP 1 rfl rfl 1 (by decide) (hts (.fieldLink RX3 17 "KnowledgeModel$Worlds" "arrows" "[[I") (List.mem_of_getElem? (i := 2) rfl)) (fun _ h9 => h9) rfl dX3_cutBetween_52 ?_
                  refine lv_iload hx hb dX3_cutBetween_55 (lv_at hl 5 rfl) ?_
                  refine xaald (j := q) (q0 := 3) (t0 := 2) (f := fun i => a (4 + i)) hx hb hK1 hP rfl rfl (by omega) (by decide) dX3_cutBetween_57 ?_
                  refine lv_iload hx hb dX3_cutBetween_58 (lv_at hl 6 rfl) ?_
                  refine xiald (j := j) (q0 := (4 + q)) (t0 := 0) hx hb hK1 hP (xg_ar (by omega)) rfl (by omega) (by decide) dX3_cutBetween_60 ?_
                  refine xtop (y := (M (2 + q) j)) (by exact cutC_at) ?_
                  refine lv_iload hx hb dX3_cutBetween_61 (lv_at hl 0 rfl) ?_
                  refine lv_iconst (v := (-1)) hx hb dX3_cutBetween_63 (by decide) ?_
                  refine lv_ixor hx hb dX3_cutBetween_64 ?_
                  refine lv_iand hx hb dX3_cutBetween_65 ?_
                  refine xcalli (va_runS (As := [.int ((M (2 + q) j) &&& (set ^^^ (-1)))]) (rest := [.int (cutI M set q (cutN M g set n q) j)]) ⟨hx, hb, hml, hown, hts⟩ (c_J6_bitCount_0f7a4 l ((M (2 + q) j) &&& (set ^^^ (-1)))) (va_cwS 1 hts gX3_cutBetween_J6_bitCount_0f7a4 rfl rfl rfl (by decide +kernel) ⟨Nat.le_of_ble_eq_true rfl, Nat.le_of_ble_eq_true rfl⟩) xpreN rfl rfl hl.1 rfl (lv_room (Nat.le_of_ble_eq_true rfl)) dX3_cutBetween_66 ⟨Nat.le_of_ble_eq_true rfl, Nat.le_of_ble_eq_true rfl⟩) hS hP (fun H locs hP hS => ?_)
                  refine lv_iadd hx hb dX3_cutBetween_69 ?_
                  refine lv_topi (fun x_12 hx_12 => ?_)
                  refine lv_istore_n (lv' := [(3, .int x_12), (6, .int set), (0, .ref (a 1)), (1, .int g), (2, .int set), (4, .int (nI q)), (5, .int (nI j))]) hx hb dX3_cutBetween_70 rfl hl (by decide) rfl (fun ls hl => ?_)
                  refine lv_aload_n hx hb dX3_cutBetween_71 rfl (lv_at hl 2 rfl) ?_
                  refine va_get (D := D) (ci := 3) (v := .ref (a 3)) (C := RX3) (T := TX3) (N := 4) hx hb hts hinX3 hown hK1 hP 1 rfl rfl 1 (by decide) (hts (.fieldLink RX3 17 "KnowledgeModel$Worlds" "arrows" "[[I") (List.mem_of_getElem? (i := 2) rfl)) (fun _ h9 => h9) rfl dX3_cutBetween_72 ?_
                  refine lv_iload hx hb dX3_cutBetween_75 (lv_at hl 5 rfl) ?_
                  refine xaald (j := q) (q0 := 3) (t0 := 2) (f := fun i => a (4 + i)) hx hb hK1 hP rfl rfl (by omega) (by decide) dX3_cutBetween_77 ?_
                  refine lv_iload hx hb dX3_cutBetween_78 (lv_at hl 6 rfl) ?_
                  refine lv_dup2_11 hx hb dX3_cutBetween_80 rfl rfl ?_
                  refine xiald (j := j) (q0 := (4 + q)) (t0 := 0) hx hb hK1 hP (xg_ar (by omega)) rfl (by omega) (by decide) dX3_cutBetween_81 ?_
                  refine xtop (y := (M (2 + q) j)) (by exact cutC_at) ?_
                  refine lv_iload hx hb dX3_cutBetween_82 (lv_at hl 1 rfl) ?_
                  refine lv_iand hx hb dX3_cutBetween_84 ?_
                  refine lv_topi (fun x_13 hx_13 => ?_)
                  refine xiast (j := j) (q0 := (4 + q)) (t0 := 0) (ws' := xc cs a (wr (cutC M g set n q j) (2 + q) j x_13) N) hx hb hK1 hP (xD hI) hS (xg_ar (by omega)) rfl (by omega) (by decide) (xs_ar (by omega)) dX3_cutBetween_85 (fun H locs hP hS => ?_)
                  obtain ⟨M_14, hM_14⟩ : ∃ z, z = wr (cutC M g set n q j) (2 + q) j x_13 := ⟨_, rfl⟩
                  rw [← hM_14] at hP
                  have hk_15 : M_14 0 0 = nI n := by rw [hM_14]; exact (wr_ne (Or.inl (by omega))).trans (cutC_0.trans hn)
                  refine lv_iinc (v := (nI (j + 1))) (lv' := [(5, .int (nI (j + 1))), (3, .int x_12), (6, .int set), (0, .ref (a 1)), (1, .int g), (2, .int set), (4, .int (nI q))]) hx hb dX3_cutBetween_86 hl (k := 6) rfl (nI_add j 1) (by decide) rfl (fun ls hl => ?_)
                  refine lv_goto (tgt := 23) hx hb dX3_cutBetween_89 (by decide) ?_
                  have e_16 : x_12 = (cutI M set q (cutN M g set n q) (j + 1)) := by simp only [cutI, fo_s, side, c29, c38, hx_12, hx_13, hM_14]; try rfl
                  have eM_17 : M_14 = cutC M g set n q (j + 1) := by rw [← cutC_s c17 c8]; simp only [side, c29, c38, hx_12, hx_13, hM_14]; try rfl
                  exact cut23 (j + 1) (by omega) (by omega) _ _ (eM_17 ▸ hP) hS ls (lcons (lcons (lcons (lcons (lcons (lcons (lzero hl) hl 0 rfl rfl) hl 6 rfl rfl) hl 1 rfl (congrArg Value.int e_16)) hl 5 rfl rfl) hl 4 rfl rfl) hl 3 rfl rfl)
          have e_18 : (cutN M g set n q) = (cutI M set q (cutN M g set n q) 0) := by rfl
          exact cut23 (n + 1) 0 (by omega) (by omega) _ _ hP hS ls (lcons (lcons (lcons (lcons (lcons (lcons (lzero hl) hl 0 rfl rfl) hl 5 rfl rfl) hl 4 rfl (congrArg Value.int e_18)) hl 3 rfl rfl) hl 2 rfl rfl) hl 1 rfl rfl)
  have e_19 : (nI 0) = (cutN M g set n 0) := by rfl
  have eM_20 : M = cutC M g set n 0 0 := by funext i w; unfold cutC; rw [if_neg (by omega)]
  exact cut5 (4 + 1) 0 (by omega) (by omega) _ _ (eM_20 ▸ hP) hS ls (lcons (lcons (lcons (lcons (lcons (lzero hl) hl 0 rfl rfl) hl 1 rfl (congrArg Value.int e_19)) hl 4 rfl rfl) hl 3 rfl rfl) hl 2 rfl rfl)

def cpv (M : Nat → Nat → Int32) (n : Nat) (g c : Int32) (i w : Nat) : Int32 := if bt g i = true then renum (M (2 + i) w) c <<< (nI n &&& 31) else M (2 + i) w
def CopyR (M : Nat → Nat → Int32) (n : Nat) (g c : Int32) (j : Nat) (u : Nat → Nat → Int32) : Prop :=
  u 0 0 = nI (n + rk c j) ∧ (∀ w, w < j → bt c w = true → u 1 (n + rk c w) = M 1 w ∧ ∀ i, i < 4 → u (2 + i) (n + rk c w) = cpv M n g c i w) ∧ ∀ i x, ¬ (i = 0 ∧ x = 0) → (¬ (1 ≤ i ∧ i < 6) ∨ x < n ∨ n + rk c j ≤ x) → u i x = M i x
def CopyQ (M : Nat → Nat → Int32) (n : Nat) (g c : Int32) (j q : Nat) (u : Nat → Nat → Int32) : Prop :=
  u 0 0 = nI (n + rk c j + 1) ∧ (∀ w, w < j → bt c w = true → u 1 (n + rk c w) = M 1 w ∧ ∀ i, i < 4 → u (2 + i) (n + rk c w) = cpv M n g c i w) ∧ u 1 (n + rk c j) = M 1 j ∧ (∀ i, i < q → u (2 + i) (n + rk c j) = cpv M n g c i j) ∧ ∀ i x, ¬ (i = 0 ∧ x = 0) → (¬ (1 ≤ i ∧ i < 6) ∨ x < n ∨ n + rk c j < x ∨ x = n + rk c j ∧ 2 + q ≤ i) → u i x = M i x
theorem CopyR_0 {M : Nat → Nat → Int32} {n : Nat} {g c : Int32} (h : M 0 0 = nI n) : CopyR M n g c 0 M := ⟨h, fun w h => absurd h (by omega), fun _ _ _ _ => rfl⟩
theorem CopyR_skip {M u : Nat → Nat → Int32} {n : Nat} {g c : Int32} {j : Nat} (h : CopyR M n g c j u) (hb : bt c j = false) : CopyR M n g c (j + 1) u := by
  refine ⟨by rw [rk_n hb]; exact h.1, fun w hw hbw => ?_, fun i x h0 hx => h.2.2 i x h0 (by rw [rk_n hb] at hx; exact hx)⟩
  rcases Nat.lt_or_ge w j with q | q
  · exact h.2.1 w q hbw
  · have : w = j := by omega
    subst this
    rw [hb] at hbw; cases hbw
theorem CopyR_fill {M u : Nat → Nat → Int32} {n : Nat} {g c : Int32} {j k : Nat} (h : CopyR M n g c j u) (hjk : j ≤ k) (he : rk c j = rk c k) : CopyR M n g c k u := by
  refine ⟨by rw [← he]; exact h.1, fun w hw hbw => ?_, fun i x h0 hx => h.2.2 i x h0 (by rw [← he] at hx; exact hx)⟩
  rcases Nat.lt_or_ge w j with q | q
  · exact h.2.1 w q hbw
  · have h1 := rk_lt hw hbw
    have h2 := rk_mono (kept := c) q
    omega
theorem CopyQ_0 {M u : Nat → Nat → Int32} {n : Nat} {g c : Int32} {j : Nat} (h : CopyR M n g c j u) (hn : 0 < n) : CopyQ M n g c j 0 (wr (wr u 1 (n + rk c j) (M 1 j)) 0 0 (nI (n + rk c j + 1))) := by
  refine ⟨wr_same, fun w hw hbw => ?_, (wr_ne (Or.inl (by omega))).trans wr_same, fun i hi => absurd hi (by omega), fun i x h0 hx => ?_⟩
  · have h1 := rk_lt hw hbw
    obtain ⟨a1, a2⟩ := h.2.1 w hw hbw
    exact ⟨(wr_ne (Or.inl (by omega))).trans ((wr_ne (Or.inr (by omega))).trans a1), fun i hi => (wr_ne (Or.inl (by omega))).trans ((wr_ne (Or.inl (by omega))).trans (a2 i hi))⟩
  · rw [wr_ne (by omega), wr_ne (by omega)]
    exact h.2.2 i x h0 (by omega)
theorem CopyQ_s {M u : Nat → Nat → Int32} {n : Nat} {g c : Int32} {j q : Nat} (h : CopyQ M n g c j q u) (hq : q < 4) : CopyQ M n g c j (q + 1) (wr u (2 + q) (n + rk c j) (cpv M n g c q j)) := by
  obtain ⟨h0, h1, h2, h3, h4⟩ := h
  refine ⟨(wr_ne (Or.inl (by omega))).trans h0, fun w hw hbw => ?_, (wr_ne (Or.inl (by omega))).trans h2, fun i hi => ?_, fun i x h0 hx => ?_⟩
  · have g1 := rk_lt hw hbw
    obtain ⟨a1, a2⟩ := h1 w hw hbw
    exact ⟨(wr_ne (Or.inl (by omega))).trans a1, fun i hi => (wr_ne (Or.inr (by omega))).trans (a2 i hi)⟩
  · rcases Nat.lt_or_ge i q with f | f
    · exact (wr_ne (Or.inl (by omega))).trans (h3 i f)
    · have : i = q := by omega
      subst this
      exact wr_same
  · rw [wr_ne (by omega)]
    exact h4 i x h0 (by omega)
theorem CopyQ_end {M u : Nat → Nat → Int32} {n : Nat} {g c : Int32} {j : Nat} (h : CopyQ M n g c j 4 u) (hb : bt c j = true) : CopyR M n g c (j + 1) u := by
  obtain ⟨h0, h1, h2, h3, h4⟩ := h
  refine ⟨by rw [rk_s hb]; exact h0, fun w hw hbw => ?_, fun i x hz hx => h4 i x hz (by rw [rk_s hb] at hx; omega)⟩
  rcases Nat.lt_or_ge w j with q | q
  · exact h1 w q hbw
  · have : w = j := by omega
    subst this
    exact ⟨h2, h3⟩
def CopyF (M : Nat → Nat → Int32) (n act : Nat) (g c : Int32) (u : Nat → Nat → Int32) : Prop := ∃ v, CopyR M n g c n v ∧ u = wr v 0 1 (nI (n + rk c act))

set_option maxHeartbeats 4000000 in
set_option maxRecDepth 100000 in
theorem c_X3_copyFor (l : Launch) (D : va_G) (cs : Nat → ClassId) (a : Nat → Nat) (M : Nat → Nat → Int32) (N : Nat → Int64) (sz : Nat) (hI : kI a 29)  (n : Nat) (act : Nat) (g : Int32) (cp : Int32) (hn : M 0 0 = nI n) (hn24 : n ≤ 24) (hact : M 0 1 = nI act) (ha24 : act < 24) (hroom : n + rk cp n ≤ 24) : Met l yX3_copyFor wsX3_copyFor ({ frames := 3, cells := 0, slots := 0, locals := 70 } : Room) (va_Pc [.ref (a 1), .int g, .int cp] (XBs D cs (xc cs a M N) sz)) (va_Qv (fun (u : Nat → Nat → Int32) => CopyF M n act g cp u) (fun (u : Nat → Nat → Int32) t => va_P D vwCl (xc cs a u N) t.heap) (kA a 29 sz)) 0 0 (kA a 29 sz) := by
  refine Met.ofW (cc := cX3_copyFor) (maxL := 8) (ret := none) (by decide) rfl ?_
  intro p e s m args below meth c s₁ B hml hv
  obtain ⟨rfl, hsz, hP, hK⟩ := hv
  have hx := B.exec
  have hb := B.bytes
  have hr := B.returns
  have hts := atoms_spec (ws := wsX3_copyFor) B.pre
  have hown : s.vm.findClass RX3 = some m.cls := findClass_of_methodNamed B.named
  have hlocks := B.notSynchronized
  have hK1 := hK.1
  have hinX3 : ∀ w ∈ wsX30, w ∈ wsX3_copyFor := fun w h => List.mem_cons_of_mem _ (List.mem_append_right _ h)
  subst hsz
  have hS : va_S (kA a 29 s.heap.size) s.heap s.heap [] := va_S.rf
  have hl := lv_entry ([.ref (a 1), .int g, .int cp]) (n := 8) (Nat.le_of_ble_eq_true rfl)
  rw [lg_entry_eq]
  generalize (lg_sl ([.ref (a 1), .int g, .int cp]) ++ List.replicate (8 - (lg_sl ([.ref (a 1), .int g, .int cp])).length) Slot.unset).toArray = ls at hl ⊢
  have hl : lv_has ls 8 [(0, .ref (a 1)), (1, .int g), (2, .int cp)] := hl
  refine W_Q (fun Q hQ => ?_)
  show W p l e ({ frames := 3, cells := 0, slots := 0, locals := 70 } : Room) s m ([.ref (a 1), .int g, .int cp] : List Value).toArray below meth c s.heap [] 0 0 Q (F0 m 0 ls [])
  refine lv_aload_n hx hb dX3_copyFor_0 rfl (lv_at hl 0 rfl) ?_
  refine va_get (D := D) (ci := 3) (v := .int (M 0 0)) (C := RX3) (T := TX3) (N := 4) hx hb hts hinX3 hown hK1 hP 1 rfl rfl 2 (by decide) (hts (.fieldLink RX3 20 "KnowledgeModel$Worlds" "count" "I") (List.mem_of_getElem? (i := 1) rfl)) (fun _ h9 => h9) rfl dX3_copyFor_1 ?_
  refine xtop (y := nI n) (hn) ?_
  refine lv_istore_n (lv' := [(3, .int (nI n)), (0, .ref (a 1)), (1, .int g), (2, .int cp)]) hx hb dX3_copyFor_4 rfl hl (by decide) rfl (fun ls hl => ?_)
  refine lv_iconst (v := (nI 0)) hx hb dX3_copyFor_5 (by decide) ?_
  refine lv_istore (lv' := [(4, .int (nI 0)), (3, .int (nI n)), (0, .ref (a 1)), (1, .int g), (2, .int cp)]) hx hb dX3_copyFor_6 hl (by decide) rfl (fun ls hl => ?_)
  have cut8 : ∀ (f8 : Nat) (j : Nat) (Mj : Nat → Nat → Int32) (hj : j ≤ n) (hCR : CopyR M n g cp j Mj) (haj : Mj 0 1 = nI act), n + 1 ≤ j + f8 → ∀ (H : Heap) (locs : List Loc), va_P D vwCl (xc cs a Mj N) H → va_S (kA a 29 s.heap.size) s.heap H locs → ∀ (ls : Array Slot), lv_has ls 8 [(0, .ref (a 1)), (1, .int g), (2, .int cp), (3, .int (nI n)), (4, .int (nI j))] → W p l e ({ frames := 3, cells := 0, slots := 0, locals := 70 } : Room) s m ([.ref (a 1), .int g, .int cp] : List Value).toArray below meth c H locs 0 0 Q (F0 m 8 ls []) := by
    intro f8
    induction f8 with
    | zero => intro j Mj hj hCR haj hfu8; exact absurd hfu8 (by omega)
    | succ f8 cut8 =>
      intro j Mj hj hCR haj hfu8 H locs hP hS ls hl
      have hrk := rk_le cp j
      have hrm := rk_mono (kept := cp) (show j ≤ n from hj)
      refine lv_iload hx hb dX3_copyFor_8 (lv_at hl 4 rfl) ?_
      refine lv_iload_n hx hb dX3_copyFor_10 rfl (lv_at hl 3 rfl) ?_
      refine lv_icmp_ge (tgt := 110) hx hb dX3_copyFor_11 (by decide) (fun c11 => ?_) (fun c11 => ?_)
      ·
        replace c11 : n ≤ j := k_get c11 (by omega) (by omega)
        refine lv_aload_n hx hb dX3_copyFor_110 rfl (lv_at hl 0 rfl) ?_
        refine lv_iload_n hx hb dX3_copyFor_111 rfl (lv_at hl 3 rfl) ?_
        refine lv_iload_n hx hb dX3_copyFor_112 rfl (lv_at hl 2 rfl) ?_
        refine lv_aload_n hx hb dX3_copyFor_113 rfl (lv_at hl 0 rfl) ?_
        refine va_get (D := D) (ci := 3) (v := .int (Mj 0 1)) (C := RX3) (T := TX3) (N := 4) hx hb hts hinX3 hown hK1 hP 1 rfl rfl 3 (by decide) (hts (.fieldLink RX3 24 "KnowledgeModel$Worlds" "actualWorld" "I") (List.mem_of_getElem? (i := 4) rfl)) (fun _ h9 => h9) rfl dX3_copyFor_114 ?_
        refine xtop (y := nI act) (haj) ?_
        refine xcalli (va_runSN (As := [.int cp, .int (nI act)]) (rest := [.int (nI n), .ref (a 1)]) ⟨hx, hb, hml, hown, hts⟩ (c_X4_rankIn l cp act (by omega)) ⟨va_cnB 2 hts gX3_copyFor_X4_rankIn_n51 rfl rfl rfl hK.2.2.2.2.2.2.2.2.2.1 (hts (.initialized RX4) (List.mem_of_getElem? (i := 6) rfl)) (by decide +kernel) ⟨Nat.le_of_ble_eq_true rfl, Nat.le_of_ble_eq_true rfl⟩, hts (.static yX4_rankIn) (List.mem_of_getElem? (i := 17) rfl), trivial⟩ xpreN rfl rfl hl.1 rfl (lv_room (Nat.le_of_ble_eq_true rfl)) dX3_copyFor_117 ⟨Nat.le_of_ble_eq_true rfl, Nat.le_of_ble_eq_true rfl⟩) hS hP (fun H locs hP hS => ?_)
        refine xiadd hx hb dX3_copyFor_120 ?_
        refine xput (D := D) (ci := 3) (v := .int (nI (n + (rk cp act)))) (ty := .int) (C := RX3) (T := TX3) (N := 4) (ws' := xc cs a (wr Mj 0 1 (nI (n + (rk cp act)))) N) hx hb hts hinX3 tyX3 tyX3_ok nmX3 hown hK1 hP (xD hI) hS 1 rfl rfl 3 (by decide) (hts (.fieldLink RX3 24 "KnowledgeModel$Worlds" "actualWorld" "I") (List.mem_of_getElem? (i := 4) rfl)) (fun _ h9 => h9) rfl (by decide +kernel) rfl rfl (Nat.le_of_ble_eq_true rfl) rfl dX3_copyFor_121 (fun H locs hP hS => ?_)
        obtain ⟨M_1, hM_1⟩ : ∃ z, z = wr Mj 0 1 (nI (n + (rk cp act))) := ⟨_, rfl⟩
        rw [← hM_1] at hP
        have hk_2 : M_1 0 0 = nI (n + rk cp j) := by rw [hM_1]; exact (wr_ne (Or.inr (by decide))).trans hCR.1
        have hk_3 : M_1 0 1 = nI (n + (rk cp act)) := by rw [hM_1]; exact wr_same
        subst hQ
        have hrel : CopyF M n act g cp M_1 := by exact ⟨Mj, (by first | ((have hje : j = n := by omega); subst hje; exact hCR) | exact CopyR_fill hCR (by omega) (by have := rk_mono (kept := cp) (show j ≤ n by omega); omega)), by simp only [wr_eq, c11, hM_1]⟩
        exact W.vret hx hb hr (fun t ht hW => ⟨⟨M_1, rfl, hrel, by rw [← ht] at hP; exact hP⟩, hS.F ht⟩) hS.2.2 dX3_copyFor_124
      ·
        replace c11 : j < n := k_gef c11 (by omega) (by omega)
        refine lv_aload_n hx hb dX3_copyFor_14 rfl (lv_at hl 0 rfl) ?_
        refine va_get (D := D) (ci := 3) (v := .int (Mj 0 0)) (C := RX3) (T := TX3) (N := 4) hx hb hts hinX3 hown hK1 hP 1 rfl rfl 2 (by decide) (hts (.fieldLink RX3 20 "KnowledgeModel$Worlds" "count" "I") (List.mem_of_getElem? (i := 1) rfl)) (fun _ h9 => h9) rfl dX3_copyFor_15 ?_
        refine xtop (y := nI (n + rk cp j)) (hCR.1) ?_
        refine lv_bipush (v := (nI 24)) hx hb dX3_copyFor_18 (by decide) ?_
        refine lv_icmp_ge (tgt := 110) hx hb dX3_copyFor_20 (by decide) (fun c20 => ?_) (fun c20 => ?_)
        ·
          replace c20 : 24 ≤ (n + rk cp j) := k_get c20 (by omega) (by omega)
          refine lv_aload_n hx hb dX3_copyFor_110 rfl (lv_at hl 0 rfl) ?_
          refine lv_iload_n hx hb dX3_copyFor_111 rfl (lv_at hl 3 rfl) ?_
          refine lv_iload_n hx hb dX3_copyFor_112 rfl (lv_at hl 2 rfl) ?_
          refine lv_aload_n hx hb dX3_copyFor_113 rfl (lv_at hl 0 rfl) ?_
          refine va_get (D := D) (ci := 3) (v := .int (Mj 0 1)) (C := RX3) (T := TX3) (N := 4) hx hb hts hinX3 hown hK1 hP 1 rfl rfl 3 (by decide) (hts (.fieldLink RX3 24 "KnowledgeModel$Worlds" "actualWorld" "I") (List.mem_of_getElem? (i := 4) rfl)) (fun _ h9 => h9) rfl dX3_copyFor_114 ?_
          refine xtop (y := nI act) (haj) ?_
          refine xcalli (va_runSN (As := [.int cp, .int (nI act)]) (rest := [.int (nI n), .ref (a 1)]) ⟨hx, hb, hml, hown, hts⟩ (c_X4_rankIn l cp act (by omega)) ⟨va_cnB 2 hts gX3_copyFor_X4_rankIn_n51 rfl rfl rfl hK.2.2.2.2.2.2.2.2.2.1 (hts (.initialized RX4) (List.mem_of_getElem? (i := 6) rfl)) (by decide +kernel) ⟨Nat.le_of_ble_eq_true rfl, Nat.le_of_ble_eq_true rfl⟩, hts (.static yX4_rankIn) (List.mem_of_getElem? (i := 17) rfl), trivial⟩ xpreN rfl rfl hl.1 rfl (lv_room (Nat.le_of_ble_eq_true rfl)) dX3_copyFor_117 ⟨Nat.le_of_ble_eq_true rfl, Nat.le_of_ble_eq_true rfl⟩) hS hP (fun H locs hP hS => ?_)
          refine xiadd hx hb dX3_copyFor_120 ?_
          refine xput (D := D) (ci := 3) (v := .int (nI (n + (rk cp act)))) (ty := .int) (C := RX3) (T := TX3) (N := 4) (ws' := xc cs a (wr Mj 0 1 (nI (n + (rk cp act)))) N) hx hb hts hinX3 tyX3 tyX3_ok nmX3 hown hK1 hP (xD hI) hS 1 rfl rfl 3 (by decide) (hts (.fieldLink RX3 24 "KnowledgeModel$Worlds" "actualWorld" "I") (List.mem_of_getElem? (i := 4) rfl)) (fun _ h9 => h9) rfl (by decide +kernel) rfl rfl (Nat.le_of_ble_eq_true rfl) rfl dX3_copyFor_121 (fun H locs hP hS => ?_)
          obtain ⟨M_4, hM_4⟩ : ∃ z, z = wr Mj 0 1 (nI (n + (rk cp act))) := ⟨_, rfl⟩
          rw [← hM_4] at hP
          have hk_5 : M_4 0 0 = nI (n + rk cp j) := by rw [hM_4]; exact (wr_ne (Or.inr (by decide))).trans hCR.1
          have hk_6 : M_4 0 1 = nI (n + (rk cp act)) := by rw [hM_4]; exact wr_same
          subst hQ
          have hrel : CopyF M n act g cp M_4 := by exact ⟨Mj, (by first | ((have hje : j = n := by omega); subst hje; exact hCR) | exact CopyR_fill hCR (by omega) (by have := rk_mono (kept := cp) (show j ≤ n by omega); omega)), by simp only [wr_eq, c11, c20, hM_4]⟩
          exact W.vret hx hb hr (fun t ht hW => ⟨⟨M_4, rfl, hrel, by rw [← ht] at hP; exact hP⟩, hS.F ht⟩) hS.2.2 dX3_copyFor_124
        ·
          replace c20 : (n + rk cp j) < 24 := k_gef c20 (by omega) (by omega)
          refine lv_iload_n hx hb dX3_copyFor_23 rfl (lv_at hl 2 rfl) ?_
          refine lv_iload hx hb dX3_copyFor_24 (lv_at hl 4 rfl) ?_
          refine xcalli (va_runSN (As := [.int cp, .int (nI j)]) (rest := []) ⟨hx, hb, hml, hown, hts⟩ (c_X4_contains l cp j (by omega)) ⟨va_cnB 2 hts gX3_copyFor_X4_contains_n27 rfl rfl rfl hK.2.2.2.2.2.2.2.1 (hts (.initialized RX4) (List.mem_of_getElem? (i := 6) rfl)) (by decide +kernel) ⟨Nat.le_of_ble_eq_true rfl, Nat.le_of_ble_eq_true rfl⟩, hts (.static yX4_contains) (List.mem_of_getElem? (i := 5) rfl), trivial⟩ xpreN rfl rfl hl.1 rfl (lv_room (Nat.le_of_ble_eq_true rfl)) dX3_copyFor_26 ⟨Nat.le_of_ble_eq_true rfl, Nat.le_of_ble_eq_true rfl⟩) hS hP (fun H locs hP hS => ?_)
          refine lv_if_eq (tgt := 104) hx hb dX3_copyFor_29 (by decide) (fun c29 => ?_) (fun c29 => ?_)
          ·
            replace c29 := bI_0 c29
            refine lv_iinc (v := (nI (j + 1))) (lv' := [(4, .int (nI (j + 1))), (0, .ref (a 1)), (1, .int g), (2, .int cp), (3, .int (nI n))]) hx hb dX3_copyFor_104 hl (k := 4) rfl (nI_add j 1) (by decide) rfl (fun ls hl => ?_)
            refine lv_goto (tgt := 8) hx hb dX3_copyFor_107 (by decide) ?_
            exact cut8 (j + 1) Mj (by omega) (by first | exact CopyR_skip hCR c29 | ((have hqe : q = 4 := by omega); subst hqe; exact CopyQ_end hCQ c29)) (by first | exact haj | exact haq) (by omega) _ _ hP hS ls (lcons (lcons (lcons (lcons (lcons (lzero hl) hl 0 rfl rfl) hl 4 rfl rfl) hl 3 rfl rfl) hl 2 rfl rfl) hl 1 rfl rfl)
          ·
            replace c29 := bI_n0 c29
            refine lv_aload_n hx hb dX3_copyFor_32 rfl (lv_at hl 0 rfl) ?_
            refine lv_aload_n hx hb dX3_copyFor_33 rfl (lv_at hl 0 rfl) ?_
            refine va_get (D := D) (ci := 3) (v := .ref (a 2)) (C := RX3) (T := TX3) (N := 4) hx hb hts hinX3 hown hK1 hP 1 rfl rfl 0 (by decide) (hts (.fieldLink RX3 9 "KnowledgeModel$Worlds" "atomsAt" "[I") (List.mem_of_getElem? (i := 2) rfl)) (fun _ h9 => h9) rfl dX3_copyFor_34 ?_
            refine lv_iload hx hb dX3_copyFor_37 (lv_at hl 4 rfl) ?_
            refine xiald (j := j) (q0 := 2) (t0 := 0) hx hb hK1 hP rfl rfl (by omega) (by decide) dX3_copyFor_39 ?_
            refine xtop (y := (M 1 j)) (by exact hCR.2.2 1 j (by omega) (by omega)) ?_
            refine xcallwi (va_runV (As := [.int (M 1 j)]) (rest := []) ⟨hx, hb, hml, hown, hts⟩ (c_X3_append l D cs a Mj N _ hI (n + rk cp j) (M 1 j) hCR.1 (by omega)) (cwV 1 hts gX3_copyFor_X3_append rfl rfl rfl (by decide +kernel) ⟨Nat.le_of_ble_eq_true rfl, Nat.le_of_ble_eq_true rfl⟩) (xpreVs hP hK (ci := 3) 1 rfl rfl) rfl rfl hl.1 rfl (lv_room (Nat.le_of_ble_eq_true rfl)) dX3_copyFor_40 ⟨Nat.le_of_ble_eq_true rfl, Nat.le_of_ble_eq_true rfl⟩) hS (kAle hS.1) (fun u_7 H locs hu_7 hP _ _ hS => ?_)
            have hP : va_P D vwCl (xc cs a (wr (wr Mj 1 (n + rk cp j) (M 1 j)) 0 0 (nI ((n + rk cp j) + 1))) N) H := hP
            obtain ⟨M_8, hM_8⟩ : ∃ z, z = wr (wr Mj 1 (n + rk cp j) (M 1 j)) 0 0 (nI ((n + rk cp j) + 1)) := ⟨_, rfl⟩
            rw [← hM_8] at hP
            have hk_9 : M_8 0 0 = nI ((n + rk cp j) + 1) := by rw [hM_8]; exact wr_same
            have hk_10 : M_8 0 1 = nI act := by rw [hM_8]; exact (wr_ne (Or.inr (by decide))).trans ((wr_ne (Or.inl (by decide))).trans haj)
            refine lv_istore (lv' := [(5, .int (nI (n + rk cp j))), (0, .ref (a 1)), (1, .int g), (2, .int cp), (3, .int (nI n)), (4, .int (nI j))]) hx hb dX3_copyFor_43 hl (by decide) rfl (fun ls hl => ?_)
            refine lv_iconst (v := (nI 0)) hx hb dX3_copyFor_45 (by decide) ?_
            refine lv_istore (lv' := [(6, .int (nI 0)), (5, .int (nI (n + rk cp j))), (0, .ref (a 1)), (1, .int g), (2, .int cp), (3, .int (nI n)), (4, .int (nI j))]) hx hb dX3_copyFor_46 hl (by decide) rfl (fun ls hl => ?_)
            have cut48 : ∀ (f48 : Nat) (q : Nat) (Mq : Nat → Nat → Int32) (hq : q ≤ 4) (hCQ : CopyQ M n g cp j q Mq) (haq : Mq 0 1 = nI act), 4 + 1 ≤ q + f48 → ∀ (H : Heap) (locs : List Loc), va_P D vwCl (xc cs a Mq N) H → va_S (kA a 29 s.heap.size) s.heap H locs → ∀ (ls : Array Slot), lv_has ls 8 [(0, .ref (a 1)), (1, .int g), (2, .int cp), (3, .int (nI n)), (4, .int (nI j)), (5, .int (nI (n + rk cp j))), (6, .int (nI q))] → W p l e ({ frames := 3, cells := 0, slots := 0, locals := 70 } : Room) s m ([.ref (a 1), .int g, .int cp] : List Value).toArray below meth c H locs 0 0 Q (F0 m 48 ls []) := by
              intro f48
              induction f48 with
              | zero => intro q Mq hq hCQ haq hfu48; exact absurd hfu48 (by omega)
              | succ f48 cut48 =>
                intro q Mq hq hCQ haq hfu48 H locs hP hS ls hl
                refine lv_iload hx hb dX3_copyFor_48 (lv_at hl 6 rfl) ?_
                refine lv_iconst (v := (nI 4)) hx hb dX3_copyFor_50 (by decide) ?_
                refine lv_icmp_ge (tgt := 104) hx hb dX3_copyFor_51 (by decide) (fun c51 => ?_) (fun c51 => ?_)
                ·
                  replace c51 : 4 ≤ q := k_get c51 (by omega) (by omega)
                  refine lv_iinc (v := (nI (j + 1))) (lv' := [(4, .int (nI (j + 1))), (0, .ref (a 1)), (1, .int g), (2, .int cp), (3, .int (nI n)), (5, .int (nI (n + rk cp j))), (6, .int (nI q))]) hx hb dX3_copyFor_104 hl (k := 4) rfl (nI_add j 1) (by decide) rfl (fun ls hl => ?_)
                  refine lv_goto (tgt := 8) hx hb dX3_copyFor_107 (by decide) ?_
                  exact cut8 (j + 1) Mq (by omega) (by first | exact CopyR_skip hCR c29 | ((have hqe : q = 4 := by omega); subst hqe; exact CopyQ_end hCQ c29)) (by first | exact haj | exact haq) (by omega) _ _ hP hS ls (lcons (lcons (lcons (lcons (lcons (lzero hl) hl 0 rfl rfl) hl 4 rfl rfl) hl 3 rfl rfl) hl 2 rfl rfl) hl 1 rfl rfl)
                ·
                  replace c51 : q < 4 := k_gef c51 (by omega) (by omega)
                  refine lv_aload_n hx hb dX3_copyFor_54 rfl (lv_at hl 0 rfl) ?_
                  refine va_get (D := D) (ci := 3) (v := .ref (a 3)) (C := RX3) (T := TX3) (N := 4) hx hb hts hinX3 hown hK1 hP 1 rfl rfl 1 (by decide) (hts (.fieldLink RX3 17 "KnowledgeModel$Worlds" "arrows" "[[I") (List.mem_of_getElem? (i := 3) rfl)) (fun _ h9 => h9) rfl dX3_copyFor_55 ?_
                  refine lv_iload hx hb dX3_copyFor_58 (lv_at hl 6 rfl) ?_
                  refine xaald (j := q) (q0 := 3) (t0 := 2) (f := fun i => a (4 + i)) hx hb hK1 hP rfl rfl (by omega) (by decide) dX3_copyFor_60 ?_
                  refine lv_iload hx hb dX3_copyFor_61 (lv_at hl 4 rfl) ?_
                  refine xiald (j := j) (q0 := (4 + q)) (t0 := 0) hx hb hK1 hP (xg_ar (by omega)) rfl (by omega) (by decide) dX3_copyFor_63 ?_
                  refine xtop (y := (M (2 + q) j)) (by exact hCQ.2.2.2.2 (2 + q) j (by omega) (by omega)) ?_
                  refine lv_topi (fun x_12 hx_12 => ?_)
                  refine lv_istore (lv' := [(7, .int x_12), (0, .ref (a 1)), (1, .int g), (2, .int cp), (3, .int (nI n)), (4, .int (nI j)), (5, .int (nI (n + rk cp j))), (6, .int (nI q))]) hx hb dX3_copyFor_64 hl (by decide) rfl (fun ls hl => ?_)
                  refine lv_aload_n hx hb dX3_copyFor_66 rfl (lv_at hl 1 rfl) ?_
                  refine va_get (D := D) (ci := 3) (v := .ref (a 3)) (C := RX3) (T := TX3) (N := 4) hx hb hts hinX3 hown hK1 hP 1 rfl rfl 1 (by decide) (hts (.fieldLink RX3 17 "KnowledgeModel$Worlds" "arrows" "[[I") (List.mem_of_getElem? (i := 3) rfl)) (fun _ h9 => h9) rfl dX3_copyFor_67 ?_
                  refine lv_iload hx hb dX3_copyFor_70 (lv_at hl 7 rfl) ?_
                  refine xaald (j := q) (q0 := 3) (t0 := 2) (f := fun i => a (4 + i)) hx hb hK1 hP rfl rfl (by omega) (by decide) dX3_copyFor_72 ?_
                  refine lv_iload hx hb dX3_copyFor_73 (lv_at hl 6 rfl) ?_
                  refine lv_iload_n hx hb dX3_copyFor_75 rfl (lv_at hl 2 rfl) ?_
                  refine lv_iload hx hb dX3_copyFor_76 (lv_at hl 7 rfl) ?_
                  refine xcalli (va_runSN (As := [.int g, .int (nI q)]) (rest := [.int (nI (n + rk cp j)), .ref (a (4 + q))]) ⟨hx, hb, hml, hown, hts⟩ (c_X4_contains l g q (by omega)) ⟨va_cnB 2 hts gX3_copyFor_X4_contains_n27 rfl rfl rfl hK.2.2.2.2.2.2.2.1 (hts (.initialized RX4) (List.mem_of_getElem? (i := 6) rfl)) (by decide +kernel) ⟨Nat.le_of_ble_eq_true rfl, Nat.le_of_ble_eq_true rfl⟩, hts (.static yX4_contains) (List.mem_of_getElem? (i := 5) rfl), trivial⟩ xpreN rfl rfl hl.1 rfl (lv_room (Nat.le_of_ble_eq_true rfl)) dX3_copyFor_78 ⟨Nat.le_of_ble_eq_true rfl, Nat.le_of_ble_eq_true rfl⟩) hS hP (fun H locs hP hS => ?_)
                  refine lv_if_eq (tgt := 95) hx hb dX3_copyFor_81 (by decide) (fun c81 => ?_) (fun c81 => ?_)
                  ·
                    replace c81 := bI_0 c81
                    refine lv_iload hx hb dX3_copyFor_95 (lv_at hl 0 rfl) ?_
                    refine xiast (j := n + rk cp j) (q0 := (4 + q)) (t0 := 0) (ws' := xc cs a (wr Mq (2 + q) (n + rk cp j) x_12) N) hx hb hK1 hP (xD hI) hS (xg_ar (by omega)) rfl (by omega) (by decide) (xs_ar (by omega)) dX3_copyFor_97 (fun H locs hP hS => ?_)
                    obtain ⟨M_13, hM_13⟩ : ∃ z, z = wr Mq (2 + q) (n + rk cp j) x_12 := ⟨_, rfl⟩
                    rw [← hM_13] at hP
                    have hk_14 : M_13 0 0 = nI (n + rk cp j + 1) := by rw [hM_13]; exact (wr_ne (Or.inl (by omega))).trans hCQ.1
                    have hk_15 : M_13 0 1 = nI act := by rw [hM_13]; exact (wr_ne (Or.inl (by omega))).trans haq
                    refine lv_iinc (v := (nI (q + 1))) (lv' := [(6, .int (nI (q + 1))), (7, .int x_12), (0, .ref (a 1)), (1, .int g), (2, .int cp), (3, .int (nI n)), (4, .int (nI j)), (5, .int (nI (n + rk cp j)))]) hx hb dX3_copyFor_98 hl (k := 7) rfl (nI_add q 1) (by decide) rfl (fun ls hl => ?_)
                    refine lv_goto (tgt := 48) hx hb dX3_copyFor_101 (by decide) ?_
                    exact cut48 (q + 1) M_13 (by omega) (by have hz := CopyQ_s hCQ c51; simp only [cpv, c81] at hz; simp only [wr_eq, c51, hx_12, c81, hM_13]; exact hz) (by assumption) (by omega) _ _ hP hS ls (lcons (lcons (lcons (lcons (lcons (lcons (lcons (lzero hl) hl 0 rfl rfl) hl 7 rfl rfl) hl 6 rfl rfl) hl 5 rfl rfl) hl 4 rfl rfl) hl 3 rfl rfl) hl 2 rfl rfl)
                  ·
                    replace c81 := bI_n0 c81
                    refine lv_iload hx hb dX3_copyFor_84 (lv_at hl 0 rfl) ?_
                    refine lv_iload_n hx hb dX3_copyFor_86 rfl (lv_at hl 3 rfl) ?_
                    refine xcalli (va_runSN (As := [.int x_12, .int cp]) (rest := [.int (nI (n + rk cp j)), .ref (a (4 + q))]) ⟨hx, hb, hml, hown, hts⟩ (c_X4_renumbered l x_12 cp) ⟨va_cnB 2 hts gX3_copyFor_X4_renumbered_n48 rfl rfl rfl hK.2.2.2.2.2.2.2.2.1 (hts (.initialized RX4) (List.mem_of_getElem? (i := 6) rfl)) (by decide +kernel) ⟨Nat.le_of_ble_eq_true rfl, Nat.le_of_ble_eq_true rfl⟩, hts (.static yX4_renumbered) (List.mem_of_getElem? (i := 13) rfl), trivial⟩ xpreN rfl rfl hl.1 rfl (lv_room (Nat.le_of_ble_eq_true rfl)) dX3_copyFor_87 ⟨Nat.le_of_ble_eq_true rfl, Nat.le_of_ble_eq_true rfl⟩) hS hP (fun H locs hP hS => ?_)
                    refine lv_iload_n hx hb dX3_copyFor_90 rfl (lv_at hl 4 rfl) ?_
                    refine lv_ishl hx hb dX3_copyFor_91 ?_
                    refine lv_goto (tgt := 97) hx hb dX3_copyFor_92 (by decide) ?_
                    refine lv_topi (fun x_16 hx_16 => ?_)
                    refine xiast (j := n + rk cp j) (q0 := (4 + q)) (t0 := 0) (ws' := xc cs a (wr Mq (2 + q) (n + rk cp j) x_16) N) hx hb hK1 hP (xD hI) hS (xg_ar (by omega)) rfl (by omega) (by decide) (xs_ar (by omega)) dX3_copyFor_97 (fun H locs hP hS => ?_)
                    obtain ⟨M_17, hM_17⟩ : ∃ z, z = wr Mq (2 + q) (n + rk cp j) x_16 := ⟨_, rfl⟩
                    rw [← hM_17] at hP
                    have hk_18 : M_17 0 0 = nI (n + rk cp j + 1) := by rw [hM_17]; exact (wr_ne (Or.inl (by omega))).trans hCQ.1
                    have hk_19 : M_17 0 1 = nI act := by rw [hM_17]; exact (wr_ne (Or.inl (by omega))).trans haq
                    refine lv_iinc (v := (nI (q + 1))) (lv' := [(6, .int (nI (q + 1))), (7, .int x_12), (0, .ref (a 1)), (1, .int g), (2, .int cp), (3, .int (nI n)), (4, .int (nI j)), (5, .int (nI (n + rk cp j)))]) hx hb dX3_copyFor_98 hl (k := 7) rfl (nI_add q 1) (by decide) rfl (fun ls hl => ?_)
                    refine lv_goto (tgt := 48) hx hb dX3_copyFor_101 (by decide) ?_
                    exact cut48 (q + 1) M_17 (by omega) (by have hz := CopyQ_s hCQ c51; simp only [cpv, c81] at hz; simp only [wr_eq, c51, hx_12, c81, hx_16, hM_17]; exact hz) (by assumption) (by omega) _ _ hP hS ls (lcons (lcons (lcons (lcons (lcons (lcons (lcons (lzero hl) hl 0 rfl rfl) hl 7 rfl rfl) hl 6 rfl rfl) hl 5 rfl rfl) hl 4 rfl rfl) hl 3 rfl rfl) hl 2 rfl rfl)
            exact cut48 (4 + 1) 0 M_8 (by omega) (by simp only [wr_eq, c11, c20, c29, hM_8, hu_7]; exact CopyQ_0 hCR (by omega)) (by assumption) (by omega) _ _ hP hS ls (lcons (lcons (lcons (lcons (lcons (lcons (lcons (lzero hl) hl 0 rfl rfl) hl 1 rfl rfl) hl 6 rfl rfl) hl 5 rfl rfl) hl 4 rfl rfl) hl 3 rfl rfl) hl 2 rfl rfl)
  exact cut8 (n + 1) 0 M (by omega) (by exact CopyR_0 hn) (by exact hact) (by omega) _ _ hP hS ls (lcons (lcons (lcons (lcons (lcons (lzero hl) hl 0 rfl rfl) hl 1 rfl rfl) hl 4 rfl rfl) hl 3 rfl rfl) hl 2 rfl rfl)

def nx (M : Nat → Nat → Int32) (j : Nat) : Nat := fo (fun w r => if M 15 w = nI r then r + 1 else r) 0 j
theorem nx_s {M : Nat → Nat → Int32} {j : Nat} (h : M 15 j = nI (nx M j)) : nx M (j + 1) = nx M j + 1 := by
  show (if M 15 j = nI (nx M j) then nx M j + 1 else nx M j) = _
  rw [if_pos h]
theorem nx_n {M : Nat → Nat → Int32} {j : Nat} (h : ¬ M 15 j = nI (nx M j)) : nx M (j + 1) = nx M j := by
  show (if M 15 j = nI (nx M j) then nx M j + 1 else nx M j) = _
  rw [if_neg h]
theorem nx_le (M : Nat → Nat → Int32) : ∀ j, nx M j ≤ j
  | 0 => Nat.le_refl _
  | j + 1 => by
    have h := nx_le M j
    by_cases q : M 15 j = nI (nx M j)
    · rw [nx_s q]; omega
    · rw [nx_n q]; omega
theorem nx_mono (M : Nat → Nat → Int32) {j k : Nat} (h : j ≤ k) : nx M j ≤ nx M k := by
  induction k with
  | zero => rw [Nat.le_zero.mp h]; exact Nat.le_refl _
  | succ k ih =>
    rcases Nat.lt_or_ge j (k + 1) with q | q
    · have h1 := ih (by omega)
      by_cases q : M 15 k = nI (nx M k)
      · rw [nx_s q]; omega
      · rw [nx_n q]; omega
    · rw [show j = k + 1 by omega]; exact Nat.le_refl _
theorem nx_lt {M : Nat → Nat → Int32} {w j : Nat} (h : w < j) (hb : M 15 w = nI (nx M w)) : nx M w < nx M j := by
  have := nx_mono M (show w + 1 ≤ j from h)
  rw [nx_s hb] at this
  omega
def MergR (M : Nat → Nat → Int32) (j : Nat) (u : Nat → Nat → Int32) : Prop :=
  (∀ w, w < j → M 15 w = nI (nx M w) → u 1 (nx M w) = M 1 w ∧ ∀ i, i < 4 → u (2 + i) (nx M w) = M (16 + i) w) ∧ ∀ i x, (¬ (1 ≤ i ∧ i < 6) ∨ nx M j ≤ x) → u i x = M i x
def MergQ (M : Nat → Nat → Int32) (j q : Nat) (u : Nat → Nat → Int32) : Prop :=
  (∀ w, w < j → M 15 w = nI (nx M w) → u 1 (nx M w) = M 1 w ∧ ∀ i, i < 4 → u (2 + i) (nx M w) = M (16 + i) w) ∧ u 1 (nx M j) = M 1 j ∧ (∀ i, i < q → u (2 + i) (nx M j) = M (16 + i) j) ∧ ∀ i x, (¬ (1 ≤ i ∧ i < 6) ∨ nx M j < x ∨ x = nx M j ∧ 2 + q ≤ i) → u i x = M i x
theorem MergR_0 {M : Nat → Nat → Int32} : MergR M 0 M := ⟨fun w h => absurd h (by omega), fun _ _ _ => rfl⟩
theorem MergR_skip {M u : Nat → Nat → Int32} {j : Nat} (h : MergR M j u) (hb : ¬ M 15 j = nI (nx M j)) : MergR M (j + 1) u := by
  refine ⟨fun w hw hbw => ?_, fun i x hx => h.2 i x (by rw [nx_n hb] at hx; exact hx)⟩
  rcases Nat.lt_or_ge w j with q | q
  · exact h.1 w q hbw
  · have : w = j := by omega
    subst this
    exact absurd hbw hb
theorem MergQ_0 {M u : Nat → Nat → Int32} {j : Nat} (h : MergR M j u) : MergQ M j 0 (wr u 1 (nx M j) (M 1 j)) := by
  refine ⟨fun w hw hbw => ?_, wr_same, fun i hi => absurd hi (by omega), fun i x hx => ?_⟩
  · have h1 := nx_lt hw hbw
    obtain ⟨a1, a2⟩ := h.1 w hw hbw
    exact ⟨(wr_ne (Or.inr (by omega))).trans a1, fun i hi => (wr_ne (Or.inl (by omega))).trans (a2 i hi)⟩
  · rw [wr_ne (by omega)]
    exact h.2 i x (by omega)
theorem MergQ_s {M u : Nat → Nat → Int32} {j q : Nat} (h : MergQ M j q u) (hq : q < 4) : MergQ M j (q + 1) (wr u (2 + q) (nx M j) (M (16 + q) j)) := by
  obtain ⟨h1, h2, h3, h4⟩ := h
  refine ⟨fun w hw hbw => ?_, (wr_ne (Or.inl (by omega))).trans h2, fun i hi => ?_, fun i x hx => ?_⟩
  · have g1 := nx_lt hw hbw
    obtain ⟨a1, a2⟩ := h1 w hw hbw
    exact ⟨(wr_ne (Or.inl (by omega))).trans a1, fun i hi => (wr_ne (Or.inr (by omega))).trans (a2 i hi)⟩
  · rcases Nat.lt_or_ge i q with g | g
    · exact (wr_ne (Or.inl (by omega))).trans (h3 i g)
    · have : i = q := by omega
      subst this
      exact wr_same
  · rw [wr_ne (by omega)]
    exact h4 i x (by omega)
theorem MergQ_end {M u : Nat → Nat → Int32} {j : Nat} (h : MergQ M j 4 u) (hb : M 15 j = nI (nx M j)) : MergR M (j + 1) u := by
  obtain ⟨h1, h2, h3, h4⟩ := h
  refine ⟨fun w hw hbw => ?_, fun i x hx => h4 i x (by rw [nx_s hb] at hx; omega)⟩
  rcases Nat.lt_or_ge w j with q | q
  · exact h1 w q hbw
  · have : w = j := by omega
    subst this
    exact ⟨h2, h3⟩
def MergF (M : Nat → Nat → Int32) (n act : Nat) (u : Nat → Nat → Int32) : Prop := ∃ v, MergR M n v ∧ u = shrZ (wr v 0 1 (M 15 act)) (nx M n) n

set_option maxHeartbeats 4000000 in
set_option maxRecDepth 100000 in
theorem c_X3_mergeClasses (l : Launch) (D : va_G) (cs : Nat → ClassId) (a : Nat → Nat) (M : Nat → Nat → Int32) (N : Nat → Int64) (sz : Nat) (hI : kI a 29)  (n : Nat) (act : Nat)  (hn : M 0 0 = nI n) (hn24 : n ≤ 24) (hact : M 0 1 = nI act) (ha24 : act < 24) : Met l yX3_mergeClasses wsX3_mergeClasses ({ frames := 2, cells := 0, slots := 0, locals := 50 } : Room) (va_Pc [.ref (a 1), .ref (a 21)] (XBs D cs (xc cs a M N) sz)) (va_Qv (fun (u : Nat → Nat → Int32) => MergF M n act u) (fun (u : Nat → Nat → Int32) t => va_P D vwCl (xc cs a u N) t.heap) (kA a 29 sz)) 0 0 (kA a 29 sz) := by
  refine Met.ofW (cc := cX3_mergeClasses) (maxL := 5) (ret := none) (by decide) rfl ?_
  intro p e s m args below meth c s₁ B hml hv
  obtain ⟨rfl, hsz, hP, hK⟩ := hv
  have hx := B.exec
  have hb := B.bytes
  have hr := B.returns
  have hts := atoms_spec (ws := wsX3_mergeClasses) B.pre
  have hown : s.vm.findClass RX3 = some m.cls := findClass_of_methodNamed B.named
  have hlocks := B.notSynchronized
  have hK1 := hK.1
  have hinX3 : ∀ w ∈ wsX30, w ∈ wsX3_mergeClasses := fun w h => List.mem_cons_of_mem _ (List.mem_append_left _ (List.mem_append_right _ h))
  have hinX1 : ∀ w ∈ wsX10, w ∈ wsX3_mergeClasses := fun w h => List.mem_cons_of_mem _ (List.mem_append_right _ h)
  subst hsz
  have hS : va_S (kA a 29 s.heap.size) s.heap s.heap [] := va_S.rf
  have hl := lv_entry ([.ref (a 1), .ref (a 21)]) (n := 5) (Nat.le_of_ble_eq_true rfl)
  rw [lg_entry_eq]
  generalize (lg_sl ([.ref (a 1), .ref (a 21)]) ++ List.replicate (5 - (lg_sl ([.ref (a 1), .ref (a 21)])).length) Slot.unset).toArray = ls at hl ⊢
  have hl : lv_has ls 5 [(0, .ref (a 1)), (1, .ref (a 21))] := hl
  refine W_Q (fun Q hQ => ?_)
  show W p l e ({ frames := 2, cells := 0, slots := 0, locals := 50 } : Room) s m ([.ref (a 1), .ref (a 21)] : List Value).toArray below meth c s.heap [] 0 0 Q (F0 m 0 ls [])
  refine lv_iconst (v := (nI 0)) hx hb dX3_mergeClasses_0 (by decide) ?_
  refine lv_istore_n (lv' := [(2, .int (nI 0)), (0, .ref (a 1)), (1, .ref (a 21))]) hx hb dX3_mergeClasses_1 rfl hl (by decide) rfl (fun ls hl => ?_)
  refine lv_iconst (v := (nI 0)) hx hb dX3_mergeClasses_2 (by decide) ?_
  refine lv_istore_n (lv' := [(3, .int (nI 0)), (2, .int (nI 0)), (0, .ref (a 1)), (1, .ref (a 21))]) hx hb dX3_mergeClasses_3 rfl hl (by decide) rfl (fun ls hl => ?_)
  have cut4 : ∀ (f4 : Nat) (j : Nat) (Mj : Nat → Nat → Int32) (hj : j ≤ n) (hMR : MergR M j Mj) (hnj : Mj 0 0 = nI n) (haj : Mj 0 1 = nI act), n + 1 ≤ j + f4 → ∀ (H : Heap) (locs : List Loc), va_P D vwCl (xc cs a Mj N) H → va_S (kA a 29 s.heap.size) s.heap H locs → ∀ (ls : Array Slot), lv_has ls 5 [(0, .ref (a 1)), (1, .ref (a 21)), (2, .int (nI (nx M j))), (3, .int (nI j))] → W p l e ({ frames := 2, cells := 0, slots := 0, locals := 50 } : Room) s m ([.ref (a 1), .ref (a 21)] : List Value).toArray below meth c H locs 0 0 Q (F0 m 4 ls []) := by
    intro f4
    induction f4 with
    | zero => intro j Mj hj hMR hnj haj hfu4; exact absurd hfu4 (by omega)
    | succ f4 cut4 =>
      intro j Mj hj hMR hnj haj hfu4 H locs hP hS ls hl
      have hrk := nx_le M j
      refine lv_iload_n hx hb dX3_mergeClasses_4 rfl (lv_at hl 3 rfl) ?_
      refine lv_aload_n hx hb dX3_mergeClasses_5 rfl (lv_at hl 0 rfl) ?_
      refine va_get (D := D) (ci := 3) (v := .int (Mj 0 0)) (C := RX3) (T := TX3) (N := 4) hx hb hts hinX3 hown hK1 hP 1 rfl rfl 2 (by decide) (hts (.fieldLink RX3 20 "KnowledgeModel$Worlds" "count" "I") (List.mem_of_getElem? (i := 1) rfl)) (fun _ h9 => h9) rfl dX3_mergeClasses_6 ?_
      refine xtop (y := nI n) (hnj) ?_
      refine lv_icmp_ge (tgt := 76) hx hb dX3_mergeClasses_9 (by decide) (fun c9 => ?_) (fun c9 => ?_)
      ·
        replace c9 : n ≤ j := k_get c9 (by omega) (by omega)
        refine lv_aload_n hx hb dX3_mergeClasses_76 rfl (lv_at hl 0 rfl) ?_
        refine lv_aload_n hx hb dX3_mergeClasses_77 rfl (lv_at hl 1 rfl) ?_
        refine va_get (D := D) (ci := 1) (v := .ref (a 22)) (C := RX1) (T := TX1) (N := 4) hx hb hts hinX1 hown hK1 hP 21 rfl rfl 1 (by decide) (hts (.fieldLink RX3 61 "KnowledgeModel$Likeness" "classOf" "[I") (List.mem_of_getElem? (i := 2) rfl)) (fun _ h9 => h9) rfl dX3_mergeClasses_78 ?_
        refine lv_aload_n hx hb dX3_mergeClasses_81 rfl (lv_at hl 0 rfl) ?_
        refine va_get (D := D) (ci := 3) (v := .int (Mj 0 1)) (C := RX3) (T := TX3) (N := 4) hx hb hts hinX3 hown hK1 hP 1 rfl rfl 3 (by decide) (hts (.fieldLink RX3 24 "KnowledgeModel$Worlds" "actualWorld" "I") (List.mem_of_getElem? (i := 6) rfl)) (fun _ h9 => h9) rfl dX3_mergeClasses_82 ?_
        refine xtop (y := nI act) (haj) ?_
        refine xiald (j := act) (q0 := 22) (t0 := 0) hx hb hK1 hP rfl rfl (by omega) (by decide) dX3_mergeClasses_85 ?_
        refine xtop (y := (M 15 act)) (by exact hMR.2 15 act (by omega)) ?_
        refine lv_topi (fun x_1 hx_1 => ?_)
        refine xput (D := D) (ci := 3) (v := .int x_1) (ty := .int) (C := RX3) (T := TX3) (N := 4) (ws' := xc cs a (wr Mj 0 1 x_1) N) hx hb hts hinX3 tyX3 tyX3_ok nmX3 hown hK1 hP (xD hI) hS 1 rfl rfl 3 (by decide) (hts (.fieldLink RX3 24 "KnowledgeModel$Worlds" "actualWorld" "I") (List.mem_of_getElem? (i := 6) rfl)) (fun _ h9 => h9) rfl (by decide +kernel) rfl rfl (Nat.le_of_ble_eq_true rfl) rfl dX3_mergeClasses_86 (fun H locs hP hS => ?_)
        obtain ⟨M_2, hM_2⟩ : ∃ z, z = wr Mj 0 1 x_1 := ⟨_, rfl⟩
        rw [← hM_2] at hP
        have hk_3 : M_2 0 0 = nI n := by rw [hM_2]; exact (wr_ne (Or.inr (by decide))).trans hnj
        refine lv_aload_n hx hb dX3_mergeClasses_89 rfl (lv_at hl 0 rfl) ?_
        refine lv_iload_n hx hb dX3_mergeClasses_90 rfl (lv_at hl 2 rfl) ?_
        refine xcallwv (va_runV (As := [.int (nI (nx M j))]) (rest := []) ⟨hx, hb, hml, hown, hts⟩ (c_X3_shrinkTo l D cs a M_2 N _ hI n (nx M j) (by omega) hk_3 (by omega)) (cwV 1 hts gX3_mergeClasses_X3_shrinkTo rfl rfl rfl (by decide +kernel) ⟨Nat.le_of_ble_eq_true rfl, Nat.le_of_ble_eq_true rfl⟩) (xpreVs hP hK (ci := 3) 1 rfl rfl) rfl rfl hl.1 rfl (lv_room (Nat.le_of_ble_eq_true rfl)) dX3_mergeClasses_91 ⟨Nat.le_of_ble_eq_true rfl, Nat.le_of_ble_eq_true rfl⟩) hS (kAle hS.1) (fun u_4 H locs hu_4 hP _ _ hS => ?_)
        have hP : va_P D vwCl (xc cs a (shrZ M_2 (nx M j) n) N) H := hP
        obtain ⟨M_5, hM_5⟩ : ∃ z, z = shrZ M_2 (nx M j) n := ⟨_, rfl⟩
        rw [← hM_5] at hP
        have hk_6 : M_5 0 0 = nI (nx M j) := by rw [hM_5]; exact wr_same
        subst hQ
        have hrel : MergF M n act M_5 := by (have hje : j = n := by omega); subst hje; exact ⟨Mj, hMR, by simp only [wr_eq, c9, hx_1, hM_2, hM_5, hu_4]⟩
        exact W.vret hx hb hr (fun t ht hW => ⟨⟨M_5, rfl, hrel, by rw [← ht] at hP; exact hP⟩, hS.F ht⟩) hS.2.2 dX3_mergeClasses_94
      ·
        replace c9 : j < n := k_gef c9 (by omega) (by omega)
        refine lv_aload_n hx hb dX3_mergeClasses_12 rfl (lv_at hl 1 rfl) ?_
        refine va_get (D := D) (ci := 1) (v := .ref (a 22)) (C := RX1) (T := TX1) (N := 4) hx hb hts hinX1 hown hK1 hP 21 rfl rfl 1 (by decide) (hts (.fieldLink RX3 61 "KnowledgeModel$Likeness" "classOf" "[I") (List.mem_of_getElem? (i := 2) rfl)) (fun _ h9 => h9) rfl dX3_mergeClasses_13 ?_
        refine lv_iload_n hx hb dX3_mergeClasses_16 rfl (lv_at hl 3 rfl) ?_
        refine xiald (j := j) (q0 := 22) (t0 := 0) hx hb hK1 hP rfl rfl (by omega) (by decide) dX3_mergeClasses_17 ?_
        refine xtop (y := (M 15 j)) (by exact hMR.2 15 j (by omega)) ?_
        refine lv_iload_n hx hb dX3_mergeClasses_18 rfl (lv_at hl 2 rfl) ?_
        refine lv_icmp_ne (tgt := 70) hx hb dX3_mergeClasses_19 (by decide) (fun c19 => ?_) (fun c19 => ?_)
        ·
          refine lv_iinc (v := (nI (j + 1))) (lv' := [(3, .int (nI (j + 1))), (0, .ref (a 1)), (1, .ref (a 21)), (2, .int (nI (nx M j)))]) hx hb dX3_mergeClasses_70 hl (k := 3) rfl (nI_add j 1) (by decide) rfl (fun ls hl => ?_)
          refine lv_goto (tgt := 4) hx hb dX3_mergeClasses_73 (by decide) ?_
          have e_9 : (nI (nx M j)) = (nI (nx M (j + 1))) := by first | rw [nx_n c19] | rw [nx_s c19]
          exact cut4 (j + 1) Mj (by omega) (by first | exact MergR_skip hMR c19 | ((have hqe : q = 4 := by omega); subst hqe; exact MergQ_end hMQ c19)) (by first | exact hnj | exact hnq) (by first | exact haj | exact haq) (by omega) _ _ hP hS ls (lcons (lcons (lcons (lcons (lzero hl) hl 0 rfl rfl) hl 3 rfl (congrArg Value.int e_9)) hl 2 rfl rfl) hl 1 rfl rfl)
        ·
          refine lv_aload_n hx hb dX3_mergeClasses_22 rfl (lv_at hl 0 rfl) ?_
          refine va_get (D := D) (ci := 3) (v := .ref (a 2)) (C := RX3) (T := TX3) (N := 4) hx hb hts hinX3 hown hK1 hP 1 rfl rfl 0 (by decide) (hts (.fieldLink RX3 9 "KnowledgeModel$Worlds" "atomsAt" "[I") (List.mem_of_getElem? (i := 3) rfl)) (fun _ h9 => h9) rfl dX3_mergeClasses_23 ?_
          refine lv_iload_n hx hb dX3_mergeClasses_26 rfl (lv_at hl 2 rfl) ?_
          refine lv_aload_n hx hb dX3_mergeClasses_27 rfl (lv_at hl 0 rfl) ?_
          refine va_get (D := D) (ci := 3) (v := .ref (a 2)) (C := RX3) (T := TX3) (N := 4) hx hb hts hinX3 hown hK1 hP 1 rfl rfl 0 (by decide) (hts (.fieldLink RX3 9 "KnowledgeModel$Worlds" "atomsAt" "[I") (List.mem_of_getElem? (i := 3) rfl)) (fun _ h9 => h9) rfl dX3_mergeClasses_28 ?_
          refine lv_iload_n hx hb dX3_mergeClasses_31 rfl (lv_at hl 3 rfl) ?_
          refine xiald (j := j) (q0 := 2) (t0 := 0) hx hb hK1 hP rfl rfl (by omega) (by decide) dX3_mergeClasses_32 ?_
          refine xtop (y := (M 1 j)) (by exact hMR.2 1 j (by omega)) ?_
          refine lv_topi (fun x_10 hx_10 => ?_)
          refine xiast (j := nx M j) (q0 := 2) (t0 := 0) (ws' := xc cs a (wr Mj 1 (nx M j) x_10) N) hx hb hK1 hP (xD hI) hS rfl rfl (by omega) (by decide) xs_2 dX3_mergeClasses_33 (fun H locs hP hS => ?_)
          obtain ⟨M_11, hM_11⟩ : ∃ z, z = wr Mj 1 (nx M j) x_10 := ⟨_, rfl⟩
          rw [← hM_11] at hP
          have hk_12 : M_11 0 0 = nI n := by rw [hM_11]; exact (wr_ne (Or.inl (by omega))).trans hnj
          have hk_13 : M_11 0 1 = nI act := by rw [hM_11]; exact (wr_ne (Or.inl (by omega))).trans haj
          refine lv_iconst (v := (nI 0)) hx hb dX3_mergeClasses_34 (by decide) ?_
          refine lv_istore (lv' := [(4, .int (nI 0)), (0, .ref (a 1)), (1, .ref (a 21)), (2, .int (nI (nx M j))), (3, .int (nI j))]) hx hb dX3_mergeClasses_35 hl (by decide) rfl (fun ls hl => ?_)
          have cut37 : ∀ (f37 : Nat) (q : Nat) (Mq : Nat → Nat → Int32) (hq : q ≤ 4) (hMQ : MergQ M j q Mq) (hnq : Mq 0 0 = nI n) (haq : Mq 0 1 = nI act), 4 + 1 ≤ q + f37 → ∀ (H : Heap) (locs : List Loc), va_P D vwCl (xc cs a Mq N) H → va_S (kA a 29 s.heap.size) s.heap H locs → ∀ (ls : Array Slot), lv_has ls 5 [(0, .ref (a 1)), (1, .ref (a 21)), (2, .int (nI (nx M j))), (3, .int (nI j)), (4, .int (nI q))] → W p l e ({ frames := 2, cells := 0, slots := 0, locals := 50 } : Room) s m ([.ref (a 1), .ref (a 21)] : List Value).toArray below meth c H locs 0 0 Q (F0 m 37 ls []) := by
            intro f37
            induction f37 with
            | zero => intro q Mq hq hMQ hnq haq hfu37; exact absurd hfu37 (by omega)
            | succ f37 cut37 =>
              intro q Mq hq hMQ hnq haq hfu37 H locs hP hS ls hl
              refine lv_iload hx hb dX3_mergeClasses_37 (lv_at hl 4 rfl) ?_
              refine lv_iconst (v := (nI 4)) hx hb dX3_mergeClasses_39 (by decide) ?_
              refine lv_icmp_ge (tgt := 67) hx hb dX3_mergeClasses_40 (by decide) (fun c40 => ?_) (fun c40 => ?_)
              ·
                replace c40 : 4 ≤ q := k_get c40 (by omega) (by omega)
                refine lv_iinc (v := (nI (nx M j + 1))) (lv' := [(2, .int (nI (nx M j + 1))), (0, .ref (a 1)), (1, .ref (a 21)), (3, .int (nI j)), (4, .int (nI q))]) hx hb dX3_mergeClasses_67 hl (k := 2) rfl (nI_add (nx M j) 1) (by decide) rfl (fun ls hl => ?_)
                refine lv_iinc (v := (nI (j + 1))) (lv' := [(3, .int (nI (j + 1))), (2, .int (nI (nx M j + 1))), (0, .ref (a 1)), (1, .ref (a 21)), (4, .int (nI q))]) hx hb dX3_mergeClasses_70 hl (k := 3) rfl (nI_add j 1) (by decide) rfl (fun ls hl => ?_)
                refine lv_goto (tgt := 4) hx hb dX3_mergeClasses_73 (by decide) ?_
                have e_14 : (nI (nx M j + 1)) = (nI (nx M (j + 1))) := by first | rw [nx_n c19] | rw [nx_s c19]
                exact cut4 (j + 1) Mq (by omega) (by first | exact MergR_skip hMR c19 | ((have hqe : q = 4 := by omega); subst hqe; exact MergQ_end hMQ c19)) (by first | exact hnj | exact hnq) (by first | exact haj | exact haq) (by omega) _ _ hP hS ls (lcons (lcons (lcons (lcons (lzero hl) hl 0 rfl rfl) hl 1 rfl (congrArg Value.int e_14)) hl 3 rfl rfl) hl 2 rfl rfl)
              ·
                replace c40 : q < 4 := k_gef c40 (by omega) (by omega)
                refine lv_aload_n hx hb dX3_mergeClasses_43 rfl (lv_at hl 0 rfl) ?_
                refine va_get (D := D) (ci := 3) (v := .ref (a 3)) (C := RX3) (T := TX3) (N := 4) hx hb hts hinX3 hown hK1 hP 1 rfl rfl 1 (by decide) (hts (.fieldLink RX3 17 "KnowledgeModel$Worlds" "arrows" "[[I") (List.mem_of_getElem? (i := 4) rfl)) (fun _ h9 => h9) rfl dX3_mergeClasses_44 ?_
                refine lv_iload hx hb dX3_mergeClasses_47 (lv_at hl 4 rfl) ?_
                refine xaald (j := q) (q0 := 3) (t0 := 2) (f := fun i => a (4 + i)) hx hb hK1 hP rfl rfl (by omega) (by decide) dX3_mergeClasses_49 ?_
                refine lv_iload_n hx hb dX3_mergeClasses_50 rfl (lv_at hl 2 rfl) ?_
                refine lv_aload_n hx hb dX3_mergeClasses_51 rfl (lv_at hl 1 rfl) ?_
                refine va_get (D := D) (ci := 1) (v := .ref (a 23)) (C := RX1) (T := TX1) (N := 4) hx hb hts hinX1 hown hK1 hP 21 rfl rfl 2 (by decide) (hts (.fieldLink RX3 66 "KnowledgeModel$Likeness" "seenClasses" "[[I") (List.mem_of_getElem? (i := 5) rfl)) (fun _ h9 => h9) rfl dX3_mergeClasses_52 ?_
                refine lv_iload hx hb dX3_mergeClasses_55 (lv_at hl 4 rfl) ?_
                refine xaald (j := q) (q0 := 23) (t0 := 2) (f := fun i => a (24 + i)) hx hb hK1 hP rfl rfl (by omega) (by decide) dX3_mergeClasses_57 ?_
                refine lv_iload_n hx hb dX3_mergeClasses_58 rfl (lv_at hl 3 rfl) ?_
                refine xiald (j := j) (q0 := (24 + q)) (t0 := 0) hx hb hK1 hP (xg_sc (by omega)) rfl (by omega) (by decide) dX3_mergeClasses_59 ?_
                refine xtop (y := (M (16 + q) j)) (by exact hMQ.2.2.2 (16 + q) j (by omega)) ?_
                refine lv_topi (fun x_15 hx_15 => ?_)
                refine xiast (j := nx M j) (q0 := (4 + q)) (t0 := 0) (ws' := xc cs a (wr Mq (2 + q) (nx M j) x_15) N) hx hb hK1 hP (xD hI) hS (xg_ar (by omega)) rfl (by omega) (by decide) (xs_ar (by omega)) dX3_mergeClasses_60 (fun H locs hP hS => ?_)
                obtain ⟨M_16, hM_16⟩ : ∃ z, z = wr Mq (2 + q) (nx M j) x_15 := ⟨_, rfl⟩
                rw [← hM_16] at hP
                have hk_17 : M_16 0 0 = nI n := by rw [hM_16]; exact (wr_ne (Or.inl (by omega))).trans hnq
                have hk_18 : M_16 0 1 = nI act := by rw [hM_16]; exact (wr_ne (Or.inl (by omega))).trans haq
                refine lv_iinc (v := (nI (q + 1))) (lv' := [(4, .int (nI (q + 1))), (0, .ref (a 1)), (1, .ref (a 21)), (2, .int (nI (nx M j))), (3, .int (nI j))]) hx hb dX3_mergeClasses_61 hl (k := 4) rfl (nI_add q 1) (by decide) rfl (fun ls hl => ?_)
                refine lv_goto (tgt := 37) hx hb dX3_mergeClasses_64 (by decide) ?_
                exact cut37 (q + 1) M_16 (by omega) (by simp only [wr_eq, c40, hx_15, hM_16]; exact MergQ_s hMQ c40) (by assumption) (by assumption) (by omega) _ _ hP hS ls (lcons (lcons (lcons (lcons (lcons (lzero hl) hl 0 rfl rfl) hl 4 rfl rfl) hl 3 rfl rfl) hl 2 rfl rfl) hl 1 rfl rfl)
          exact cut37 (4 + 1) 0 M_11 (by omega) (by simp only [wr_eq, c9, c19, hx_10, hM_11]; exact MergQ_0 hMR) (by assumption) (by assumption) (by omega) _ _ hP hS ls (lcons (lcons (lcons (lcons (lcons (lzero hl) hl 0 rfl rfl) hl 4 rfl rfl) hl 3 rfl rfl) hl 2 rfl rfl) hl 1 rfl rfl)
  have e_19 : (nI 0) = (nI (nx M 0)) := by rfl
  exact cut4 (n + 1) 0 M (by omega) (by exact MergR_0) (by exact hn) (by exact hact) (by omega) _ _ hP hS ls (lcons (lcons (lcons (lcons (lzero hl) hl 0 rfl rfl) hl 1 rfl (congrArg Value.int e_19)) hl 3 rfl rfl) hl 2 rfl rfl)

