def clrC (M : Nat → Nat → Int32) (n q : Nat) : Nat → Nat → Int32 := fun i y => if i = 2 ∧ y % 24 = n ∧ y / 24 < q then nI 0 else M i y
theorem clrC_0 {M : Nat → Nat → Int32} {n q x : Nat} : clrC M n q 0 x = M 0 x := if_neg (by omega)
theorem clrC_s {M : Nat → Nat → Int32} {n q : Nat} (hn : n < 24) : wr (clrC M n q) 2 (24 * q + n) (nI 0) = clrC M n (q + 1) := by
  funext i y
  rw [wr_eq]
  unfold clrC
  by_cases h : i = 2 ∧ y = 24 * q + n
  · rw [if_pos h, if_pos (by omega)]
  · rw [if_neg h]
    have : (i = 2 ∧ y % 24 = n ∧ y / 24 < q) ↔ (i = 2 ∧ y % 24 = n ∧ y / 24 < q + 1) := by omega
    simp only [this]
def addR (M : Nat → Nat → Int32) (n : Nat) (x : Int32) : Nat → Nat → Int32 :=
  wr (if n = 0 then wr (clrC (wr (wr M 0 0 (nI 0)) 1 n x) n 4) 0 2 (nI 0) else clrC (wr (wr M 0 0 (nI 0)) 1 n x) n 4) 0 1 (nI (n + 1))

set_option maxHeartbeats 4000000 in
set_option maxRecDepth 100000 in
theorem c_X5_addWorld (l : Launch) (D : va_G) (cs : Nat → ClassId) (b : Nat → Nat) (M : Nat → Nat → Int32) (sz : Nat) (hI : kI b 12)  (n : Nat) (x : Int32) (hn : M 0 1 = nI n) (hn24 : n ≤ 24) : Met l yX5_addWorld wsX5_addWorld ({ frames := 2, cells := 0, slots := 0, locals := 60 } : Room) (va_Pc [.ref (b 0), .int x] (XBs D cs (rc cs b M) sz)) (va_Qi (fun r (u : Unit) => r = (if isIn 64 x = true then (if n = 24 then nI 0 else nI n) else nI 0) ∧ True) (fun (u : Unit) t => va_P D vwCl (rc cs b ((if isIn 64 x = true then (if n = 24 then wr M 0 0 (nI 2) else addR M n x) else wr M 0 0 (nI 1)))) t.heap) (kA b 12 sz)) 0 0 (kA b 12 sz) := by
  refine Met.ofW (cc := cX5_addWorld) (maxL := 3) (ret := (some .int)) (by decide) rfl ?_
  intro p e s m args below meth c s₁ B hml hv
  obtain ⟨rfl, hsz, hP, hK⟩ := hv
  have hx := B.exec
  have hb := B.bytes
  have hr := B.returns
  have hts := atoms_spec (ws := wsX5_addWorld) B.pre
  have hown : s.vm.findClass RX5 = some m.cls := findClass_of_methodNamed B.named
  have hlocks := B.notSynchronized
  have hK1 := hK.1
  have hinX5 : ∀ w ∈ wsX50, w ∈ wsX5_addWorld := fun w h => List.mem_cons_of_mem _ (List.mem_append_right _ h)
  subst hsz
  have hS : va_S (kA b 12 s.heap.size) s.heap s.heap [] := va_S.rf
  have hl := lv_entry ([.ref (b 0), .int x]) (n := 3) (Nat.le_of_ble_eq_true rfl)
  rw [lg_entry_eq]
  generalize (lg_sl ([.ref (b 0), .int x]) ++ List.replicate (3 - (lg_sl ([.ref (b 0), .int x])).length) Slot.unset).toArray = ls at hl ⊢
  have hl : lv_has ls 3 [(0, .ref (b 0)), (1, .int x)] := hl
  refine W_Q (fun Q hQ => ?_)
  show W p l e ({ frames := 2, cells := 0, slots := 0, locals := 60 } : Room) s m ([.ref (b 0), .int x] : List Value).toArray below meth c s.heap [] 0 0 Q (F0 m 0 ls [])
  refine lv_aload_n hx hb dX5_addWorld_0 rfl (lv_at hl 0 rfl) ?_
  refine lv_iconst (v := (nI 0)) hx hb dX5_addWorld_1 (by decide) ?_
  refine xput (D := D) (ci := 5) (v := .int (nI 0)) (ty := .int) (C := RX5) (T := TX5) (N := 15) (ws' := rc cs b (wr M 0 0 (nI 0))) hx hb hts hinX5 tyX5 tyX5_ok nmX5 hown hK1 hP (rD hI) hS 0 rfl rfl 0 (by decide) (hts (.fieldLink RX5 44 "KnowledgeModelModel" "thrown" "I") (List.mem_of_getElem? (i := 1) rfl)) (fun _ h9 => h9) rfl (by decide +kernel) rfl rfl (Nat.le_of_ble_eq_true rfl) rfl dX5_addWorld_2 (fun H locs hP hS => ?_)
  obtain ⟨M_1, hM_1⟩ : ∃ z, z = wr M 0 0 (nI 0) := ⟨_, rfl⟩
  rw [← hM_1] at hP
  have hk_2 : M_1 0 1 = nI n := by rw [hM_1]; exact (wr_ne (Or.inr (by decide))).trans hn
  have hk_3 : M_1 0 0 = nI 0 := by rw [hM_1]; exact wr_same
  refine lv_iload_n hx hb dX5_addWorld_5 rfl (lv_at hl 1 rfl) ?_
  refine xcalli (va_runS (As := [.int x]) (rest := []) ⟨hx, hb, hml, hown, hts⟩ (c_X5_areAtoms l x) (va_cwS 1 hts gX5_addWorld_X5_areAtoms rfl rfl rfl (by decide +kernel) ⟨Nat.le_of_ble_eq_true rfl, Nat.le_of_ble_eq_true rfl⟩) xpreN rfl rfl hl.1 rfl (lv_room (Nat.le_of_ble_eq_true rfl)) dX5_addWorld_6 ⟨Nat.le_of_ble_eq_true rfl, Nat.le_of_ble_eq_true rfl⟩) hS hP (fun H locs hP hS => ?_)
  refine lv_if_ne (tgt := 18) hx hb dX5_addWorld_9 (by decide) (fun c9 => ?_) (fun c9 => ?_)
  ·
    replace c9 := bI_n0 c9
    refine lv_aload_n hx hb dX5_addWorld_18 rfl (lv_at hl 0 rfl) ?_
    refine va_get (D := D) (ci := 5) (v := .int (M_1 0 1)) (C := RX5) (T := TX5) (N := 15) hx hb hts hinX5 hown hK1 hP 0 rfl rfl 1 (by decide) (hts (.fieldLink RX5 48 "KnowledgeModelModel" "worlds" "I") (List.mem_of_getElem? (i := 2) rfl)) (fun _ h9 => h9) rfl dX5_addWorld_19 ?_
    refine xtop (y := nI n) (hk_2) ?_
    refine lv_bipush (v := (nI 24)) hx hb dX5_addWorld_22 (by decide) ?_
    refine lv_icmp_ne (tgt := 33) hx hb dX5_addWorld_24 (by decide) (fun c24 => ?_) (fun c24 => ?_)
    ·
      replace c24 : ¬ n = 24 := k_net c24 (by omega) (by omega)
      refine lv_aload_n hx hb dX5_addWorld_33 rfl (lv_at hl 0 rfl) ?_
      refine va_get (D := D) (ci := 5) (v := .ref (b 1)) (C := RX5) (T := TX5) (N := 15) hx hb hts hinX5 hown hK1 hP 0 rfl rfl 3 (by decide) (hts (.fieldLink RX5 9 "KnowledgeModelModel" "atoms" "[I") (List.mem_of_getElem? (i := 3) rfl)) (fun _ h9 => h9) rfl dX5_addWorld_34 ?_
      refine lv_aload_n hx hb dX5_addWorld_37 rfl (lv_at hl 0 rfl) ?_
      refine va_get (D := D) (ci := 5) (v := .int (M_1 0 1)) (C := RX5) (T := TX5) (N := 15) hx hb hts hinX5 hown hK1 hP 0 rfl rfl 1 (by decide) (hts (.fieldLink RX5 48 "KnowledgeModelModel" "worlds" "I") (List.mem_of_getElem? (i := 2) rfl)) (fun _ h9 => h9) rfl dX5_addWorld_38 ?_
      refine xtop (y := nI n) (hk_2) ?_
      refine lv_iload_n hx hb dX5_addWorld_41 rfl (lv_at hl 1 rfl) ?_
      refine xiast (j := n) (q0 := 1) (t0 := 0) (ws' := rc cs b (wr M_1 1 n x)) hx hb hK1 hP (rD hI) hS rfl rfl (by omega) (by decide) rs_1 dX5_addWorld_42 (fun H locs hP hS => ?_)
      obtain ⟨M_4, hM_4⟩ : ∃ z, z = wr M_1 1 n x := ⟨_, rfl⟩
      rw [← hM_4] at hP
      have hk_5 : M_4 0 1 = nI n := by rw [hM_4]; exact (wr_ne (Or.inl (by omega))).trans hk_2
      have hk_6 : M_4 0 0 = nI 0 := by rw [hM_4]; exact (wr_ne (Or.inl (by omega))).trans hk_3
      have hM0 : M_4 = wr (wr M 0 0 (nI 0)) 1 n x := by simp only [wr_eq, hM_1, hM_4]
      refine lv_iconst (v := (nI 0)) hx hb dX5_addWorld_43 (by decide) ?_
      refine lv_istore_n (lv' := [(2, .int (nI 0)), (0, .ref (b 0)), (1, .int x)]) hx hb dX5_addWorld_44 rfl hl (by decide) rfl (fun ls hl => ?_)
      have cut45 : ∀ (f45 : Nat) (q : Nat) (hq : q ≤ 4), 4 + 1 ≤ q + f45 → ∀ (H : Heap) (locs : List Loc), va_P D vwCl (rc cs b (clrC (wr (wr M 0 0 (nI 0)) 1 n x) n q)) H → va_S (kA b 12 s.heap.size) s.heap H locs → ∀ (ls : Array Slot), lv_has ls 3 [(0, .ref (b 0)), (1, .int x), (2, .int (nI q))] → W p l e ({ frames := 2, cells := 0, slots := 0, locals := 60 } : Room) s m ([.ref (b 0), .int x] : List Value).toArray below meth c H locs 0 0 Q (F0 m 45 ls []) := by
        intro f45
        induction f45 with
        | zero => intro q hq hfu45; exact absurd hfu45 (by omega)
        | succ f45 cut45 =>
          intro q hq hfu45 H locs hP hS ls hl
          refine lv_iload_n hx hb dX5_addWorld_45 rfl (lv_at hl 2 rfl) ?_
          refine lv_iconst (v := (nI 4)) hx hb dX5_addWorld_46 (by decide) ?_
          refine lv_icmp_ge (tgt := 71) hx hb dX5_addWorld_47 (by decide) (fun c47 => ?_) (fun c47 => ?_)
          ·
            replace c47 : 4 ≤ q := k_get c47 (by omega) (by omega)
            refine lv_aload_n hx hb dX5_addWorld_71 rfl (lv_at hl 0 rfl) ?_
            refine va_get (D := D) (ci := 5) (v := .int ((clrC (wr (wr M 0 0 (nI 0)) 1 n x) n q) 0 1)) (C := RX5) (T := TX5) (N := 15) hx hb hts hinX5 hown hK1 hP 0 rfl rfl 1 (by decide) (hts (.fieldLink RX5 48 "KnowledgeModelModel" "worlds" "I") (List.mem_of_getElem? (i := 2) rfl)) (fun _ h9 => h9) rfl dX5_addWorld_72 ?_
            refine xtop (y := nI n) ((clrC_0.trans ((wr_ne (Or.inl (by decide))).trans ((wr_ne (Or.inr (by decide))).trans hn)))) ?_
            refine lv_if_ne (tgt := 83) hx hb dX5_addWorld_75 (by decide) (fun c75 => ?_) (fun c75 => ?_)
            ·
              replace c75 : ¬ n = 0 := k0_net c75 (by omega)
              refine lv_aload_n hx hb dX5_addWorld_83 rfl (lv_at hl 0 rfl) ?_
              refine lv_dup hx hb dX5_addWorld_84 rfl ?_
              refine va_get (D := D) (ci := 5) (v := .int ((clrC (wr (wr M 0 0 (nI 0)) 1 n x) n q) 0 1)) (C := RX5) (T := TX5) (N := 15) hx hb hts hinX5 hown hK1 hP 0 rfl rfl 1 (by decide) (hts (.fieldLink RX5 48 "KnowledgeModelModel" "worlds" "I") (List.mem_of_getElem? (i := 2) rfl)) (fun _ h9 => h9) rfl dX5_addWorld_85 ?_
              refine xtop (y := nI n) ((clrC_0.trans ((wr_ne (Or.inl (by decide))).trans ((wr_ne (Or.inr (by decide))).trans hn)))) ?_
              refine lv_iconst (v := (nI 1)) hx hb dX5_addWorld_88 (by decide) ?_
              refine xiadd hx hb dX5_addWorld_89 ?_
              refine xput (D := D) (ci := 5) (v := .int (nI (n + 1))) (ty := .int) (C := RX5) (T := TX5) (N := 15) (ws' := rc cs b (wr (clrC (wr (wr M 0 0 (nI 0)) 1 n x) n q) 0 1 (nI (n + 1)))) hx hb hts hinX5 tyX5 tyX5_ok nmX5 hown hK1 hP (rD hI) hS 0 rfl rfl 1 (by decide) (hts (.fieldLink RX5 48 "KnowledgeModelModel" "worlds" "I") (List.mem_of_getElem? (i := 2) rfl)) (fun _ h9 => h9) rfl (by decide +kernel) rfl rfl (Nat.le_of_ble_eq_true rfl) rfl dX5_addWorld_90 (fun H locs hP hS => ?_)
              obtain ⟨M_7, hM_7⟩ : ∃ z, z = wr (clrC (wr (wr M 0 0 (nI 0)) 1 n x) n q) 0 1 (nI (n + 1)) := ⟨_, rfl⟩
              rw [← hM_7] at hP
              have hk_8 : M_7 0 1 = nI (n + 1) := by rw [hM_7]; exact wr_same
              refine lv_aload_n hx hb dX5_addWorld_93 rfl (lv_at hl 0 rfl) ?_
              refine va_get (D := D) (ci := 5) (v := .int (M_7 0 1)) (C := RX5) (T := TX5) (N := 15) hx hb hts hinX5 hown hK1 hP 0 rfl rfl 1 (by decide) (hts (.fieldLink RX5 48 "KnowledgeModelModel" "worlds" "I") (List.mem_of_getElem? (i := 2) rfl)) (fun _ h9 => h9) rfl dX5_addWorld_94 ?_
              refine xtop (y := nI (n + 1)) (hk_8) ?_
              refine lv_iconst (v := (nI 1)) hx hb dX5_addWorld_97 (by decide) ?_
              refine lv_isub hx hb dX5_addWorld_98 ?_
              subst hQ
              have hMfin : M_7 = (if isIn 64 x = true then (if n = 24 then wr M 0 0 (nI 2) else addR M n x) else wr M 0 0 (nI 1)) := by (have hqe : q = 4 := by omega); subst hqe; rw [if_pos c9, if_neg c24]; unfold addR; first | (rw [if_pos c75]; simp only [fo_0, hM_1, c9, c24, hM_4, c47, c75, hM_7]) | (rw [if_neg c75]; simp only [fo_0, hM_1, c9, c24, hM_4, c47, c75, hM_7])
              rw [hMfin] at hP
              have hrel : True := by trivial
              have hfin : ((nI (n + 1)) - (nI 1)) = (if isIn 64 x = true then (if n = 24 then nI 0 else nI n) else nI 0) := by rw [if_pos c9, if_neg c24]; exact nI_pred n
              exact W.iret hx hb hr (fun t ht hW => ⟨⟨_, (), rfl, ⟨hfin, hrel⟩, by rw [← ht] at hP; exact hP⟩, hS.F ht⟩) hS.2.2 dX5_addWorld_99
            ·
              replace c75 : n = 0 := k0_nef c75 (by omega)
              refine lv_aload_n hx hb dX5_addWorld_78 rfl (lv_at hl 0 rfl) ?_
              refine lv_iconst (v := (nI 0)) hx hb dX5_addWorld_79 (by decide) ?_
              refine xput (D := D) (ci := 5) (v := .int (nI 0)) (ty := .int) (C := RX5) (T := TX5) (N := 15) (ws' := rc cs b (wr (clrC (wr (wr M 0 0 (nI 0)) 1 n x) n q) 0 2 (nI 0))) hx hb hts hinX5 tyX5 tyX5_ok nmX5 hown hK1 hP (rD hI) hS 0 rfl rfl 2 (by decide) (hts (.fieldLink RX5 62 "KnowledgeModelModel" "actual" "I") (List.mem_of_getElem? (i := 5) rfl)) (fun _ h9 => h9) rfl (by decide +kernel) rfl rfl (Nat.le_of_ble_eq_true rfl) rfl dX5_addWorld_80 (fun H locs hP hS => ?_)
              obtain ⟨M_9, hM_9⟩ : ∃ z, z = wr (clrC (wr (wr M 0 0 (nI 0)) 1 n x) n q) 0 2 (nI 0) := ⟨_, rfl⟩
              rw [← hM_9] at hP
              have hk_10 : M_9 0 1 = nI n := by rw [hM_9]; exact (wr_ne (Or.inr (by decide))).trans (clrC_0.trans ((wr_ne (Or.inl (by decide))).trans ((wr_ne (Or.inr (by decide))).trans hn)))
              have hk_11 : M_9 0 2 = nI 0 := by rw [hM_9]; exact wr_same
              refine lv_aload_n hx hb dX5_addWorld_83 rfl (lv_at hl 0 rfl) ?_
              refine lv_dup hx hb dX5_addWorld_84 rfl ?_
              refine va_get (D := D) (ci := 5) (v := .int (M_9 0 1)) (C := RX5) (T := TX5) (N := 15) hx hb hts hinX5 hown hK1 hP 0 rfl rfl 1 (by decide) (hts (.fieldLink RX5 48 "KnowledgeModelModel" "worlds" "I") (List.mem_of_getElem? (i := 2) rfl)) (fun _ h9 => h9) rfl dX5_addWorld_85 ?_
              refine xtop (y := nI n) (hk_10) ?_
              refine lv_iconst (v := (nI 1)) hx hb dX5_addWorld_88 (by decide) ?_
              refine xiadd hx hb dX5_addWorld_89 ?_
              refine xput (D := D) (ci := 5) (v := .int (nI (n + 1))) (ty := .int) (C := RX5) (T := TX5) (N := 15) (ws' := rc cs b (wr M_9 0 1 (nI (n + 1)))) hx hb hts hinX5 tyX5 tyX5_ok nmX5 hown hK1 hP (rD hI) hS 0 rfl rfl 1 (by decide) (hts (.fieldLink RX5 48 "KnowledgeModelModel" "worlds" "I") (List.mem_of_getElem? (i := 2) rfl)) (fun _ h9 => h9) rfl (by decide +kernel) rfl rfl (Nat.le_of_ble_eq_true rfl) rfl dX5_addWorld_90 (fun H locs hP hS => ?_)
              obtain ⟨M_12, hM_12⟩ : ∃ z, z = wr M_9 0 1 (nI (n + 1)) := ⟨_, rfl⟩
              rw [← hM_12] at hP
              have hk_13 : M_12 0 2 = nI 0 := by rw [hM_12]; exact (wr_ne (Or.inr (by decide))).trans hk_11
              have hk_14 : M_12 0 1 = nI (n + 1) := by rw [hM_12]; exact wr_same
              refine lv_aload_n hx hb dX5_addWorld_93 rfl (lv_at hl 0 rfl) ?_
              refine va_get (D := D) (ci := 5) (v := .int (M_12 0 1)) (C := RX5) (T := TX5) (N := 15) hx hb hts hinX5 hown hK1 hP 0 rfl rfl 1 (by decide) (hts (.fieldLink RX5 48 "KnowledgeModelModel" "worlds" "I") (List.mem_of_getElem? (i := 2) rfl)) (fun _ h9 => h9) rfl dX5_addWorld_94 ?_
              refine xtop (y := nI (n + 1)) (hk_14) ?_
              refine lv_iconst (v := (nI 1)) hx hb dX5_addWorld_97 (by decide) ?_
              refine lv_isub hx hb dX5_addWorld_98 ?_
              subst hQ
              have hMfin : M_12 = (if isIn 64 x = true then (if n = 24 then wr M 0 0 (nI 2) else addR M n x) else wr M 0 0 (nI 1)) := by (have hqe : q = 4 := by omega); subst hqe; rw [if_pos c9, if_neg c24]; unfold addR; first | (rw [if_pos c75]; simp only [fo_0, hM_1, c9, c24, hM_4, c47, c75, hM_9, hM_12]) | (rw [if_neg c75]; simp only [fo_0, hM_1, c9, c24, hM_4, c47, c75, hM_9, hM_12])
              rw [hMfin] at hP
              have hrel : True := by trivial
              have hfin : ((nI (n + 1)) - (nI 1)) = (if isIn 64 x = true then (if n = 24 then nI 0 else nI n) else nI 0) := by rw [if_pos c9, if_neg c24]; exact nI_pred n
              exact W.iret hx hb hr (fun t ht hW => ⟨⟨_, (), rfl, ⟨hfin, hrel⟩, by rw [← ht] at hP; exact hP⟩, hS.F ht⟩) hS.2.2 dX5_addWorld_99
          ·
            replace c47 : q < 4 := k_gef c47 (by omega) (by omega)
            refine lv_aload_n hx hb dX5_addWorld_50 rfl (lv_at hl 0 rfl) ?_
            refine va_get (D := D) (ci := 5) (v := .ref (b 2)) (C := RX5) (T := TX5) (N := 15) hx hb hts hinX5 hown hK1 hP 0 rfl rfl 4 (by decide) (hts (.fieldLink RX5 13 "KnowledgeModelModel" "seen" "[I") (List.mem_of_getElem? (i := 4) rfl)) (fun _ h9 => h9) rfl dX5_addWorld_51 ?_
            refine lv_bipush (v := (nI 24)) hx hb dX5_addWorld_54 (by decide) ?_
            refine lv_iload_n hx hb dX5_addWorld_56 rfl (lv_at hl 2 rfl) ?_
            refine ximul hx hb dX5_addWorld_57 ?_
            refine lv_aload_n hx hb dX5_addWorld_58 rfl (lv_at hl 0 rfl) ?_
            refine va_get (D := D) (ci := 5) (v := .int ((clrC (wr (wr M 0 0 (nI 0)) 1 n x) n q) 0 1)) (C := RX5) (T := TX5) (N := 15) hx hb hts hinX5 hown hK1 hP 0 rfl rfl 1 (by decide) (hts (.fieldLink RX5 48 "KnowledgeModelModel" "worlds" "I") (List.mem_of_getElem? (i := 2) rfl)) (fun _ h9 => h9) rfl dX5_addWorld_59 ?_
            refine xtop (y := nI n) ((clrC_0.trans ((wr_ne (Or.inl (by decide))).trans ((wr_ne (Or.inr (by decide))).trans hn)))) ?_
            refine xiadd hx hb dX5_addWorld_62 ?_
            refine lv_iconst (v := (nI 0)) hx hb dX5_addWorld_63 (by decide) ?_
            refine xiast (j := (24 * q) + n) (q0 := 2) (t0 := 0) (ws' := rc cs b (wr (clrC (wr (wr M 0 0 (nI 0)) 1 n x) n q) 2 ((24 * q) + n) (nI 0))) hx hb hK1 hP (rD hI) hS rfl rfl (by omega) (by decide) rs_2 dX5_addWorld_64 (fun H locs hP hS => ?_)
            obtain ⟨M_15, hM_15⟩ : ∃ z, z = wr (clrC (wr (wr M 0 0 (nI 0)) 1 n x) n q) 2 ((24 * q) + n) (nI 0) := ⟨_, rfl⟩
            rw [← hM_15] at hP
            have hk_16 : M_15 0 1 = nI n := by rw [hM_15]; exact (wr_ne (Or.inl (by omega))).trans (clrC_0.trans ((wr_ne (Or.inl (by decide))).trans ((wr_ne (Or.inr (by decide))).trans hn)))
            refine lv_iinc (v := (nI (q + 1))) (lv' := [(2, .int (nI (q + 1))), (0, .ref (b 0)), (1, .int x)]) hx hb dX5_addWorld_65 hl (k := 2) rfl (nI_add q 1) (by decide) rfl (fun ls hl => ?_)
            refine lv_goto (tgt := 45) hx hb dX5_addWorld_68 (by decide) ?_
            have eM_17 : M_15 = clrC (wr (wr M 0 0 (nI 0)) 1 n x) n (q + 1) := by rw [← clrC_s (by omega)]; simp only [fo_0, hM_1, c9, c24, hM_4, c47, hM_15]
            exact cut45 (q + 1) (by omega) (by omega) _ _ (eM_17 ▸ hP) hS ls (lcons (lcons (lcons (lzero hl) hl 0 rfl rfl) hl 2 rfl rfl) hl 1 rfl rfl)
      have eM_18 : M_4 = clrC (wr (wr M 0 0 (nI 0)) 1 n x) n 0 := by rw [hM0]; funext i y; unfold clrC; rw [if_neg (by omega)]
      exact cut45 (4 + 1) 0 (by omega) (by omega) _ _ (eM_18 ▸ hP) hS ls (lcons (lcons (lcons (lzero hl) hl 0 rfl rfl) hl 2 rfl rfl) hl 1 rfl rfl)
    ·
      replace c24 : n = 24 := k_nef c24 (by omega) (by omega)
      refine lv_aload_n hx hb dX5_addWorld_27 rfl (lv_at hl 0 rfl) ?_
      refine lv_iconst (v := (nI 2)) hx hb dX5_addWorld_28 (by decide) ?_
      refine xcallwi (va_runV (As := [.int (nI 2)]) (rest := []) ⟨hx, hb, hml, hown, hts⟩ (c_X5_no l D cs b M_1 _ hI (nI 2)) (cwV 1 hts gX5_addWorld_X5_no rfl rfl rfl (by decide +kernel) ⟨Nat.le_of_ble_eq_true rfl, Nat.le_of_ble_eq_true rfl⟩) (xpreVs hP hK (ci := 5) 0 rfl rfl) rfl rfl hl.1 rfl (lv_room (Nat.le_of_ble_eq_true rfl)) dX5_addWorld_29 ⟨Nat.le_of_ble_eq_true rfl, Nat.le_of_ble_eq_true rfl⟩) hS (kAle hS.1) (fun u_19 H locs hu_19 hP _ _ hS => ?_)
      have hP : va_P D vwCl (rc cs b (wr M_1 0 0 (nI 2))) H := hP
      obtain ⟨M_20, hM_20⟩ : ∃ z, z = wr M_1 0 0 (nI 2) := ⟨_, rfl⟩
      rw [← hM_20] at hP
      have hk_21 : M_20 0 1 = nI n := by rw [hM_20]; exact (wr_ne (Or.inr (by decide))).trans hk_2
      subst hQ
      have hMfin : M_20 = (if isIn 64 x = true then (if n = 24 then wr M 0 0 (nI 2) else addR M n x) else wr M 0 0 (nI 1)) := by simp only [wr_wr, if_true, if_false, Bool.false_eq_true, Nat.one_ne_zero, hM_1, c9, c24, hM_20]
      rw [hMfin] at hP
      have hrel : True := by trivial
      have hfin : (nI 0) = (if isIn 64 x = true then (if n = 24 then nI 0 else nI n) else nI 0) := by simp only [wr_wr, if_true, if_false, Bool.false_eq_true, Nat.one_ne_zero, hM_1, c9, c24, hM_20]
      exact W.iret hx hb hr (fun t ht hW => ⟨⟨_, (), rfl, ⟨hfin, hrel⟩, by rw [← ht] at hP; exact hP⟩, hS.F ht⟩) hS.2.2 dX5_addWorld_32
  ·
    replace c9 := bI_0 c9
    refine lv_aload_n hx hb dX5_addWorld_12 rfl (lv_at hl 0 rfl) ?_
    refine lv_iconst (v := (nI 1)) hx hb dX5_addWorld_13 (by decide) ?_
    refine xcallwi (va_runV (As := [.int (nI 1)]) (rest := []) ⟨hx, hb, hml, hown, hts⟩ (c_X5_no l D cs b M_1 _ hI (nI 1)) (cwV 1 hts gX5_addWorld_X5_no rfl rfl rfl (by decide +kernel) ⟨Nat.le_of_ble_eq_true rfl, Nat.le_of_ble_eq_true rfl⟩) (xpreVs hP hK (ci := 5) 0 rfl rfl) rfl rfl hl.1 rfl (lv_room (Nat.le_of_ble_eq_true rfl)) dX5_addWorld_14 ⟨Nat.le_of_ble_eq_true rfl, Nat.le_of_ble_eq_true rfl⟩) hS (kAle hS.1) (fun u_24 H locs hu_24 hP _ _ hS => ?_)
    have hP : va_P D vwCl (rc cs b (wr M_1 0 0 (nI 1))) H := hP
    obtain ⟨M_25, hM_25⟩ : ∃ z, z = wr M_1 0 0 (nI 1) := ⟨_, rfl⟩
    rw [← hM_25] at hP
    have hk_26 : M_25 0 1 = nI n := by rw [hM_25]; exact (wr_ne (Or.inr (by decide))).trans hk_2
    subst hQ
    have hMfin : M_25 = (if isIn 64 x = true then (if n = 24 then wr M 0 0 (nI 2) else addR M n x) else wr M 0 0 (nI 1)) := by simp only [wr_wr, if_true, if_false, Bool.false_eq_true, Nat.one_ne_zero, hM_1, c9, hM_25]
    rw [hMfin] at hP
    have hrel : True := by trivial
    have hfin : (nI 0) = (if isIn 64 x = true then (if n = 24 then nI 0 else nI n) else nI 0) := by simp only [wr_wr, if_true, if_false, Bool.false_eq_true, Nat.one_ne_zero, hM_1, c9, hM_25]
    exact W.iret hx hb hr (fun t ht hW => ⟨⟨_, (), rfl, ⟨hfin, hrel⟩, by rw [← ht] at hP; exact hP⟩, hS.F ht⟩) hS.2.2 dX5_addWorld_17

set_option maxHeartbeats 4000000 in
set_option maxRecDepth 100000 in
theorem c_X5_connect (l : Launch) (D : va_G) (cs : Nat → ClassId) (b : Nat → Nat) (M : Nat → Nat → Int32) (sz : Nat) (hI : kI b 12)  (n : Nat) (x : Int32) (y : Int32) (z : Int32) (on : Bool) (hn : M 0 1 = nI n) (hn24 : n ≤ 24) : Met l yX5_connect wsX5_connect ({ frames := 2, cells := 0, slots := 0, locals := 60 } : Room) (va_Pc [.ref (b 0), .int x, .int y, .int z, .int (bI on)] (XBs D cs (rc cs b M) sz)) (va_Qi (fun r (u : Unit) => r = bI (isIn 4 x && isIn n y && isIn n z && bt (M 2 (24 * x.toNatClampNeg + y.toNatClampNeg)) z.toNatClampNeg) ∧ True) (fun (u : Unit) t => va_P D vwCl (rc cs b ((if (isIn 4 x && isIn n y && isIn n z) = true then wr (wr M 0 0 (nI 0)) 2 (24 * x.toNatClampNeg + y.toNatClampNeg) (if on = true then M 2 (24 * x.toNatClampNeg + y.toNatClampNeg) ||| sg z.toNatClampNeg else M 2 (24 * x.toNatClampNeg + y.toNatClampNeg) &&& (sg z.toNatClampNeg ^^^ (-1))) else wr M 0 0 (nI 1)))) t.heap) (kA b 12 sz)) 0 0 (kA b 12 sz) := by
  refine Met.ofW (cc := cX5_connect) (maxL := 7) (ret := (some .boolean)) (by decide) rfl ?_
  intro p e s m args below meth c s₁ B hml hv
  obtain ⟨rfl, hsz, hP, hK⟩ := hv
  have hx := B.exec
  have hb := B.bytes
  have hr := B.returns
  have hts := atoms_spec (ws := wsX5_connect) B.pre
  have hown : s.vm.findClass RX5 = some m.cls := findClass_of_methodNamed B.named
  have hlocks := B.notSynchronized
  have hK1 := hK.1
  have hinX5 : ∀ w ∈ wsX50, w ∈ wsX5_connect := fun w h => List.mem_cons_of_mem _ (List.mem_append_right _ h)
  subst hsz
  have hS : va_S (kA b 12 s.heap.size) s.heap s.heap [] := va_S.rf
  have hl := lv_entry ([.ref (b 0), .int x, .int y, .int z, .int (bI on)]) (n := 7) (Nat.le_of_ble_eq_true rfl)
  rw [lg_entry_eq]
  generalize (lg_sl ([.ref (b 0), .int x, .int y, .int z, .int (bI on)]) ++ List.replicate (7 - (lg_sl ([.ref (b 0), .int x, .int y, .int z, .int (bI on)])).length) Slot.unset).toArray = ls at hl ⊢
  have hl : lv_has ls 7 [(0, .ref (b 0)), (1, .int x), (2, .int y), (3, .int z), (4, .int (bI on))] := hl
  refine W_Q (fun Q hQ => ?_)
  show W p l e ({ frames := 2, cells := 0, slots := 0, locals := 60 } : Room) s m ([.ref (b 0), .int x, .int y, .int z, .int (bI on)] : List Value).toArray below meth c s.heap [] 0 0 Q (F0 m 0 ls [])
  refine lv_aload_n hx hb dX5_connect_0 rfl (lv_at hl 0 rfl) ?_
  refine lv_iload_n hx hb dX5_connect_1 rfl (lv_at hl 1 rfl) ?_
  refine xcalli (va_runS (As := [.int x]) (rest := [.ref (b 0)]) ⟨hx, hb, hml, hown, hts⟩ (c_X5_isAgent l x) (va_cwS 1 hts gX5_connect_X5_isAgent rfl rfl rfl (by decide +kernel) ⟨Nat.le_of_ble_eq_true rfl, Nat.le_of_ble_eq_true rfl⟩) xpreN rfl rfl hl.1 rfl (lv_room (Nat.le_of_ble_eq_true rfl)) dX5_connect_2 ⟨Nat.le_of_ble_eq_true rfl, Nat.le_of_ble_eq_true rfl⟩) hS hP (fun H locs hP hS => ?_)
  refine lv_if_eq (tgt := 28) hx hb dX5_connect_5 (by decide) (fun c5 => ?_) (fun c5 => ?_)
  ·
    replace c5 := bI_0 c5
    refine lv_iconst (v := (nI 1)) hx hb dX5_connect_28 (by decide) ?_
    refine xput (D := D) (ci := 5) (v := .int (nI 1)) (ty := .int) (C := RX5) (T := TX5) (N := 15) (ws' := rc cs b (wr M 0 0 (nI 1))) hx hb hts hinX5 tyX5 tyX5_ok nmX5 hown hK1 hP (rD hI) hS 0 rfl rfl 0 (by decide) (hts (.fieldLink RX5 44 "KnowledgeModelModel" "thrown" "I") (List.mem_of_getElem? (i := 1) rfl)) (fun _ h9 => h9) rfl (by decide +kernel) rfl rfl (Nat.le_of_ble_eq_true rfl) rfl dX5_connect_29 (fun H locs hP hS => ?_)
    obtain ⟨M_1, hM_1⟩ : ∃ z, z = wr M 0 0 (nI 1) := ⟨_, rfl⟩
    rw [← hM_1] at hP
    have hk_2 : M_1 0 1 = nI n := by rw [hM_1]; exact (wr_ne (Or.inr (by decide))).trans hn
    have hk_3 : M_1 0 0 = nI 1 := by rw [hM_1]; exact wr_same
    refine lv_aload_n hx hb dX5_connect_32 rfl (lv_at hl 0 rfl) ?_
    refine va_get (D := D) (ci := 5) (v := .int (M_1 0 0)) (C := RX5) (T := TX5) (N := 15) hx hb hts hinX5 hown hK1 hP 0 rfl rfl 0 (by decide) (hts (.fieldLink RX5 44 "KnowledgeModelModel" "thrown" "I") (List.mem_of_getElem? (i := 1) rfl)) (fun _ h9 => h9) rfl dX5_connect_33 ?_
    refine xtop (y := nI 1) (hk_3) ?_
    refine lv_if_eq (tgt := 41) hx hb dX5_connect_36 (by decide) (fun c36 => ?_) (fun c36 => ?_)
    ·
      replace c36 : 1 = 0 := k0_eqt c36 (by omega)
      exfalso; omega
    ·
      replace c36 : ¬ 1 = 0 := k0_eqf c36 (by omega)
      refine lv_iconst (v := (nI 0)) hx hb dX5_connect_39 (by decide) ?_
      subst hQ
      have hMfin : M_1 = (if (isIn 4 x && isIn n y && isIn n z) = true then wr (wr M 0 0 (nI 0)) 2 (24 * x.toNatClampNeg + y.toNatClampNeg) (if on = true then M 2 (24 * x.toNatClampNeg + y.toNatClampNeg) ||| sg z.toNatClampNeg else M 2 (24 * x.toNatClampNeg + y.toNatClampNeg) &&& (sg z.toNatClampNeg ^^^ (-1))) else wr M 0 0 (nI 1)) := by first | (rw [c5]; simp only [Bool.false_and, Bool.false_eq_true, if_false, c5, hM_1, c36]; done) | (rw [c5, c13]; simp only [Bool.false_and, Bool.and_false, Bool.false_eq_true, if_false, c5, hM_1, c36]; done) | (rw [c5, c13, c21]; simp only [Bool.and_false, Bool.false_eq_true, if_false, c5, hM_1, c36]; done)
      rw [hMfin] at hP
      have hrel : True := by trivial
      have hfin : (nI 0) = bI (isIn 4 x && isIn n y && isIn n z && bt (M 2 (24 * x.toNatClampNeg + y.toNatClampNeg)) z.toNatClampNeg) := by first | (rw [c5]; rfl) | (rw [c5, c13]; rfl) | (rw [c5, c13, c21]; rfl)
      exact W.zret (ty := .boolean) hx hb hr (by decide) (fun t ht hW => ⟨⟨_, (), rfl, ⟨hfin, hrel⟩, by rw [← ht] at hP; exact hP⟩, hS.F ht⟩) hS.2.2 dX5_connect_40
  ·
    replace c5 := bI_n0 c5
    refine lv_aload_n hx hb dX5_connect_8 rfl (lv_at hl 0 rfl) ?_
    refine lv_iload_n hx hb dX5_connect_9 rfl (lv_at hl 2 rfl) ?_
    refine xcalli (va_runV (As := [.int y]) (rest := [.ref (b 0)]) ⟨hx, hb, hml, hown, hts⟩ (c_X5_isWorld l D cs b M n y hn) (cwV 1 hts gX5_connect_X5_isWorld rfl rfl rfl (by decide +kernel) ⟨Nat.le_of_ble_eq_true rfl, Nat.le_of_ble_eq_true rfl⟩) (xpreV hP hK (ci := 5) 0 rfl rfl) rfl rfl hl.1 rfl (lv_room (Nat.le_of_ble_eq_true rfl)) dX5_connect_10 ⟨Nat.le_of_ble_eq_true rfl, Nat.le_of_ble_eq_true rfl⟩) hS hP (fun H locs hP hS => ?_)
    refine lv_if_eq (tgt := 28) hx hb dX5_connect_13 (by decide) (fun c13 => ?_) (fun c13 => ?_)
    ·
      replace c13 := bI_0 c13
      refine lv_iconst (v := (nI 1)) hx hb dX5_connect_28 (by decide) ?_
      refine xput (D := D) (ci := 5) (v := .int (nI 1)) (ty := .int) (C := RX5) (T := TX5) (N := 15) (ws' := rc cs b (wr M 0 0 (nI 1))) hx hb hts hinX5 tyX5 tyX5_ok nmX5 hown hK1 hP (rD hI) hS 0 rfl rfl 0 (by decide) (hts (.fieldLink RX5 44 "KnowledgeModelModel" "thrown" "I") (List.mem_of_getElem? (i := 1) rfl)) (fun _ h9 => h9) rfl (by decide +kernel) rfl rfl (Nat.le_of_ble_eq_true rfl) rfl dX5_connect_29 (fun H locs hP hS => ?_)
      obtain ⟨M_4, hM_4⟩ : ∃ z, z = wr M 0 0 (nI 1) := ⟨_, rfl⟩
      rw [← hM_4] at hP
      have hk_5 : M_4 0 1 = nI n := by rw [hM_4]; exact (wr_ne (Or.inr (by decide))).trans hn
      have hk_6 : M_4 0 0 = nI 1 := by rw [hM_4]; exact wr_same
      refine lv_aload_n hx hb dX5_connect_32 rfl (lv_at hl 0 rfl) ?_
      refine va_get (D := D) (ci := 5) (v := .int (M_4 0 0)) (C := RX5) (T := TX5) (N := 15) hx hb hts hinX5 hown hK1 hP 0 rfl rfl 0 (by decide) (hts (.fieldLink RX5 44 "KnowledgeModelModel" "thrown" "I") (List.mem_of_getElem? (i := 1) rfl)) (fun _ h9 => h9) rfl dX5_connect_33 ?_
      refine xtop (y := nI 1) (hk_6) ?_
      refine lv_if_eq (tgt := 41) hx hb dX5_connect_36 (by decide) (fun c36 => ?_) (fun c36 => ?_)
      ·
        replace c36 : 1 = 0 := k0_eqt c36 (by omega)
        exfalso; omega
      ·
        replace c36 : ¬ 1 = 0 := k0_eqf c36 (by omega)
        refine lv_iconst (v := (nI 0)) hx hb dX5_connect_39 (by decide) ?_
        subst hQ
        have hMfin : M_4 = (if (isIn 4 x && isIn n y && isIn n z) = true then wr (wr M 0 0 (nI 0)) 2 (24 * x.toNatClampNeg + y.toNatClampNeg) (if on = true then M 2 (24 * x.toNatClampNeg + y.toNatClampNeg) ||| sg z.toNatClampNeg else M 2 (24 * x.toNatClampNeg + y.toNatClampNeg) &&& (sg z.toNatClampNeg ^^^ (-1))) else wr M 0 0 (nI 1)) := by first | (rw [c5]; simp only [Bool.false_and, Bool.false_eq_true, if_false, c5, c13, hM_4, c36]; done) | (rw [c5, c13]; simp only [Bool.false_and, Bool.and_false, Bool.false_eq_true, if_false, c5, c13, hM_4, c36]; done) | (rw [c5, c13, c21]; simp only [Bool.and_false, Bool.false_eq_true, if_false, c5, c13, hM_4, c36]; done)
        rw [hMfin] at hP
        have hrel : True := by trivial
        have hfin : (nI 0) = bI (isIn 4 x && isIn n y && isIn n z && bt (M 2 (24 * x.toNatClampNeg + y.toNatClampNeg)) z.toNatClampNeg) := by first | (rw [c5]; rfl) | (rw [c5, c13]; rfl) | (rw [c5, c13, c21]; rfl)
        exact W.zret (ty := .boolean) hx hb hr (by decide) (fun t ht hW => ⟨⟨_, (), rfl, ⟨hfin, hrel⟩, by rw [← ht] at hP; exact hP⟩, hS.F ht⟩) hS.2.2 dX5_connect_40
    ·
      replace c13 := bI_n0 c13
      refine lv_aload_n hx hb dX5_connect_16 rfl (lv_at hl 0 rfl) ?_
      refine lv_iload_n hx hb dX5_connect_17 rfl (lv_at hl 3 rfl) ?_
      refine xcalli (va_runV (As := [.int z]) (rest := [.ref (b 0)]) ⟨hx, hb, hml, hown, hts⟩ (c_X5_isWorld l D cs b M n z hn) (cwV 1 hts gX5_connect_X5_isWorld rfl rfl rfl (by decide +kernel) ⟨Nat.le_of_ble_eq_true rfl, Nat.le_of_ble_eq_true rfl⟩) (xpreV hP hK (ci := 5) 0 rfl rfl) rfl rfl hl.1 rfl (lv_room (Nat.le_of_ble_eq_true rfl)) dX5_connect_18 ⟨Nat.le_of_ble_eq_true rfl, Nat.le_of_ble_eq_true rfl⟩) hS hP (fun H locs hP hS => ?_)
      refine lv_if_eq (tgt := 28) hx hb dX5_connect_21 (by decide) (fun c21 => ?_) (fun c21 => ?_)
      ·
        replace c21 := bI_0 c21
        refine lv_iconst (v := (nI 1)) hx hb dX5_connect_28 (by decide) ?_
        refine xput (D := D) (ci := 5) (v := .int (nI 1)) (ty := .int) (C := RX5) (T := TX5) (N := 15) (ws' := rc cs b (wr M 0 0 (nI 1))) hx hb hts hinX5 tyX5 tyX5_ok nmX5 hown hK1 hP (rD hI) hS 0 rfl rfl 0 (by decide) (hts (.fieldLink RX5 44 "KnowledgeModelModel" "thrown" "I") (List.mem_of_getElem? (i := 1) rfl)) (fun _ h9 => h9) rfl (by decide +kernel) rfl rfl (Nat.le_of_ble_eq_true rfl) rfl dX5_connect_29 (fun H locs hP hS => ?_)
        obtain ⟨M_7, hM_7⟩ : ∃ z, z = wr M 0 0 (nI 1) := ⟨_, rfl⟩
        rw [← hM_7] at hP
        have hk_8 : M_7 0 1 = nI n := by rw [hM_7]; exact (wr_ne (Or.inr (by decide))).trans hn
        have hk_9 : M_7 0 0 = nI 1 := by rw [hM_7]; exact wr_same
        refine lv_aload_n hx hb dX5_connect_32 rfl (lv_at hl 0 rfl) ?_
        refine va_get (D := D) (ci := 5) (v := .int (M_7 0 0)) (C := RX5) (T := TX5) (N := 15) hx hb hts hinX5 hown hK1 hP 0 rfl rfl 0 (by decide) (hts (.fieldLink RX5 44 "KnowledgeModelModel" "thrown" "I") (List.mem_of_getElem? (i := 1) rfl)) (fun _ h9 => h9) rfl dX5_connect_33 ?_
        refine xtop (y := nI 1) (hk_9) ?_
        refine lv_if_eq (tgt := 41) hx hb dX5_connect_36 (by decide) (fun c36 => ?_) (fun c36 => ?_)
        ·
          replace c36 : 1 = 0 := k0_eqt c36 (by omega)
          exfalso; omega
        ·
          replace c36 : ¬ 1 = 0 := k0_eqf c36 (by omega)
          refine lv_iconst (v := (nI 0)) hx hb dX5_connect_39 (by decide) ?_
          subst hQ
          have hMfin : M_7 = (if (isIn 4 x && isIn n y && isIn n z) = true then wr (wr M 0 0 (nI 0)) 2 (24 * x.toNatClampNeg + y.toNatClampNeg) (if on = true then M 2 (24 * x.toNatClampNeg + y.toNatClampNeg) ||| sg z.toNatClampNeg else M 2 (24 * x.toNatClampNeg + y.toNatClampNeg) &&& (sg z.toNatClampNeg ^^^ (-1))) else wr M 0 0 (nI 1)) := by first | (rw [c5]; simp only [Bool.false_and, Bool.false_eq_true, if_false, c5, c13, c21, hM_7, c36]; done) | (rw [c5, c13]; simp only [Bool.false_and, Bool.and_false, Bool.false_eq_true, if_false, c5, c13, c21, hM_7, c36]; done) | (rw [c5, c13, c21]; simp only [Bool.and_false, Bool.false_eq_true, if_false, c5, c13, c21, hM_7, c36]; done)
          rw [hMfin] at hP
          have hrel : True := by trivial
          have hfin : (nI 0) = bI (isIn 4 x && isIn n y && isIn n z && bt (M 2 (24 * x.toNatClampNeg + y.toNatClampNeg)) z.toNatClampNeg) := by first | (rw [c5]; rfl) | (rw [c5, c13]; rfl) | (rw [c5, c13, c21]; rfl)
          exact W.zret (ty := .boolean) hx hb hr (by decide) (fun t ht hW => ⟨⟨_, (), rfl, ⟨hfin, hrel⟩, by rw [← ht] at hP; exact hP⟩, hS.F ht⟩) hS.2.2 dX5_connect_40
      ·
        replace c21 := bI_n0 c21
        refine lv_iconst (v := (nI 0)) hx hb dX5_connect_24 (by decide) ?_
        refine lv_goto (tgt := 29) hx hb dX5_connect_25 (by decide) ?_
        refine xput (D := D) (ci := 5) (v := .int (nI 0)) (ty := .int) (C := RX5) (T := TX5) (N := 15) (ws' := rc cs b (wr M 0 0 (nI 0))) hx hb hts hinX5 tyX5 tyX5_ok nmX5 hown hK1 hP (rD hI) hS 0 rfl rfl 0 (by decide) (hts (.fieldLink RX5 44 "KnowledgeModelModel" "thrown" "I") (List.mem_of_getElem? (i := 1) rfl)) (fun _ h9 => h9) rfl (by decide +kernel) rfl rfl (Nat.le_of_ble_eq_true rfl) rfl dX5_connect_29 (fun H locs hP hS => ?_)
        obtain ⟨M_10, hM_10⟩ : ∃ z, z = wr M 0 0 (nI 0) := ⟨_, rfl⟩
        rw [← hM_10] at hP
        have hk_11 : M_10 0 1 = nI n := by rw [hM_10]; exact (wr_ne (Or.inr (by decide))).trans hn
        have hk_12 : M_10 0 0 = nI 0 := by rw [hM_10]; exact wr_same
        refine lv_aload_n hx hb dX5_connect_32 rfl (lv_at hl 0 rfl) ?_
        refine va_get (D := D) (ci := 5) (v := .int (M_10 0 0)) (C := RX5) (T := TX5) (N := 15) hx hb hts hinX5 hown hK1 hP 0 rfl rfl 0 (by decide) (hts (.fieldLink RX5 44 "KnowledgeModelModel" "thrown" "I") (List.mem_of_getElem? (i := 1) rfl)) (fun _ h9 => h9) rfl dX5_connect_33 ?_
        refine xtop (y := nI 0) (hk_12) ?_
        refine lv_if_eq (tgt := 41) hx hb dX5_connect_36 (by decide) (fun c36 => ?_) (fun c36 => ?_)
        ·
          replace c36 : 0 = 0 := k0_eqt c36 (by omega)
          obtain ⟨hlt_x, heq_x⟩ := isIn_eq (by omega) c5
          have hl : lv_has ls 7 [(0, .ref (b 0)), (1, .int (nI x.toNatClampNeg)), (2, .int y), (3, .int z), (4, .int (bI on))] := (lcons (lcons (lcons (lcons (lcons (lzero hl) hl 4 rfl rfl) hl 3 rfl rfl) hl 2 rfl rfl) hl 1 rfl (congrArg Value.int heq_x)) hl 0 rfl rfl)
          obtain ⟨hlt_y, heq_y⟩ := isIn_eq (by omega) c13
          have hl : lv_has ls 7 [(0, .ref (b 0)), (1, .int (nI x.toNatClampNeg)), (2, .int (nI y.toNatClampNeg)), (3, .int z), (4, .int (bI on))] := (lcons (lcons (lcons (lcons (lcons (lzero hl) hl 4 rfl rfl) hl 3 rfl rfl) hl 2 rfl (congrArg Value.int heq_y)) hl 1 rfl rfl) hl 0 rfl rfl)
          obtain ⟨hlt_z, heq_z⟩ := isIn_eq (by omega) c21
          have hl : lv_has ls 7 [(0, .ref (b 0)), (1, .int (nI x.toNatClampNeg)), (2, .int (nI y.toNatClampNeg)), (3, .int (nI z.toNatClampNeg)), (4, .int (bI on))] := (lcons (lcons (lcons (lcons (lcons (lzero hl) hl 4 rfl rfl) hl 3 rfl (congrArg Value.int heq_z)) hl 2 rfl rfl) hl 1 rfl rfl) hl 0 rfl rfl)
          refine lv_bipush (v := (nI 24)) hx hb dX5_connect_41 (by decide) ?_
          refine lv_iload_n hx hb dX5_connect_43 rfl (lv_at hl 1 rfl) ?_
          refine ximul hx hb dX5_connect_44 ?_
          refine lv_iload_n hx hb dX5_connect_45 rfl (lv_at hl 2 rfl) ?_
          refine xiadd hx hb dX5_connect_46 ?_
          refine lv_istore (lv' := [(5, .int (nI ((24 * x.toNatClampNeg) + y.toNatClampNeg))), (0, .ref (b 0)), (1, .int (nI x.toNatClampNeg)), (2, .int (nI y.toNatClampNeg)), (3, .int (nI z.toNatClampNeg)), (4, .int (bI on))]) hx hb dX5_connect_47 hl (by decide) rfl (fun ls hl => ?_)
          refine lv_aload_n hx hb dX5_connect_49 rfl (lv_at hl 1 rfl) ?_
          refine va_get (D := D) (ci := 5) (v := .ref (b 2)) (C := RX5) (T := TX5) (N := 15) hx hb hts hinX5 hown hK1 hP 0 rfl rfl 4 (by decide) (hts (.fieldLink RX5 13 "KnowledgeModelModel" "seen" "[I") (List.mem_of_getElem? (i := 2) rfl)) (fun _ h9 => h9) rfl dX5_connect_50 ?_
          refine lv_iload hx hb dX5_connect_53 (lv_at hl 0 rfl) ?_
          refine xiald (j := (24 * x.toNatClampNeg) + y.toNatClampNeg) (q0 := 2) (t0 := 0) hx hb hK1 hP rfl rfl (by omega) (by decide) dX5_connect_55 ?_
          refine xtop (y := (M 2 ((24 * x.toNatClampNeg) + y.toNatClampNeg))) (by simp only [hM_10]; rfl) ?_
          refine lv_iload_n hx hb dX5_connect_56 rfl (lv_at hl 4 rfl) ?_
          refine xcalli (va_runS (As := [.int (M 2 ((24 * x.toNatClampNeg) + y.toNatClampNeg)), .int (nI z.toNatClampNeg)]) (rest := []) ⟨hx, hb, hml, hown, hts⟩ (c_X5_has l (M 2 ((24 * x.toNatClampNeg) + y.toNatClampNeg)) z.toNatClampNeg (by omega)) (va_cwS 2 hts gX5_connect_X5_has rfl rfl rfl (by decide +kernel) ⟨Nat.le_of_ble_eq_true rfl, Nat.le_of_ble_eq_true rfl⟩) xpreN rfl rfl hl.1 rfl (lv_room (Nat.le_of_ble_eq_true rfl)) dX5_connect_57 ⟨Nat.le_of_ble_eq_true rfl, Nat.le_of_ble_eq_true rfl⟩) hS hP (fun H locs hP hS => ?_)
          refine lv_istore (lv' := [(6, .int (bI (bt (M 2 ((24 * x.toNatClampNeg) + y.toNatClampNeg)) z.toNatClampNeg))), (5, .int (nI ((24 * x.toNatClampNeg) + y.toNatClampNeg))), (0, .ref (b 0)), (1, .int (nI x.toNatClampNeg)), (2, .int (nI y.toNatClampNeg)), (3, .int (nI z.toNatClampNeg)), (4, .int (bI on))]) hx hb dX5_connect_60 hl (by decide) rfl (fun ls hl => ?_)
          refine lv_aload_n hx hb dX5_connect_62 rfl (lv_at hl 2 rfl) ?_
          refine va_get (D := D) (ci := 5) (v := .ref (b 2)) (C := RX5) (T := TX5) (N := 15) hx hb hts hinX5 hown hK1 hP 0 rfl rfl 4 (by decide) (hts (.fieldLink RX5 13 "KnowledgeModelModel" "seen" "[I") (List.mem_of_getElem? (i := 2) rfl)) (fun _ h9 => h9) rfl dX5_connect_63 ?_
          refine lv_iload hx hb dX5_connect_66 (lv_at hl 1 rfl) ?_
          refine lv_iload hx hb dX5_connect_68 (lv_at hl 6 rfl) ?_
          refine lv_if_eq (tgt := 87) hx hb dX5_connect_70 (by decide) (fun c70 => ?_) (fun c70 => ?_)
          ·
            replace c70 := bI_0 c70
            refine lv_aload_n hx hb dX5_connect_87 rfl (lv_at hl 2 rfl) ?_
            refine va_get (D := D) (ci := 5) (v := .ref (b 2)) (C := RX5) (T := TX5) (N := 15) hx hb hts hinX5 hown hK1 hP 0 rfl rfl 4 (by decide) (hts (.fieldLink RX5 13 "KnowledgeModelModel" "seen" "[I") (List.mem_of_getElem? (i := 2) rfl)) (fun _ h9 => h9) rfl dX5_connect_88 ?_
            refine lv_iload hx hb dX5_connect_91 (lv_at hl 1 rfl) ?_
            refine xiald (j := (24 * x.toNatClampNeg) + y.toNatClampNeg) (q0 := 2) (t0 := 0) hx hb hK1 hP rfl rfl (by omega) (by decide) dX5_connect_93 ?_
            refine xtop (y := (M 2 ((24 * x.toNatClampNeg) + y.toNatClampNeg))) (by simp only [hM_10]; rfl) ?_
            refine lv_iconst (v := (nI 1)) hx hb dX5_connect_94 (by decide) ?_
            refine lv_iload_n hx hb dX5_connect_95 rfl (lv_at hl 5 rfl) ?_
            refine lv_ishl hx hb dX5_connect_96 ?_
            refine lv_iconst (v := (-1 : Int32)) hx hb dX5_connect_97 (by decide) ?_
            refine lv_ixor hx hb dX5_connect_98 ?_
            refine lv_iand hx hb dX5_connect_99 ?_
            refine lv_topi (fun x_13 hx_13 => ?_)
            refine xiast (j := (24 * x.toNatClampNeg) + y.toNatClampNeg) (q0 := 2) (t0 := 0) (ws' := rc cs b (wr M_10 2 ((24 * x.toNatClampNeg) + y.toNatClampNeg) x_13)) hx hb hK1 hP (rD hI) hS rfl rfl (by omega) (by decide) rs_2 dX5_connect_100 (fun H locs hP hS => ?_)
            obtain ⟨M_14, hM_14⟩ : ∃ z, z = wr M_10 2 ((24 * x.toNatClampNeg) + y.toNatClampNeg) x_13 := ⟨_, rfl⟩
            rw [← hM_14] at hP
            have hk_15 : M_14 0 1 = nI n := by rw [hM_14]; exact (wr_ne (Or.inl (by omega))).trans hk_11
            have hk_16 : M_14 0 0 = nI 0 := by rw [hM_14]; exact (wr_ne (Or.inl (by omega))).trans hk_12
            refine lv_iload hx hb dX5_connect_101 (lv_at hl 0 rfl) ?_
            subst hQ
            have hMfin : M_14 = (if (isIn 4 x && isIn n y && isIn n z) = true then wr (wr M 0 0 (nI 0)) 2 (24 * x.toNatClampNeg + y.toNatClampNeg) (if on = true then M 2 (24 * x.toNatClampNeg + y.toNatClampNeg) ||| sg z.toNatClampNeg else M 2 (24 * x.toNatClampNeg + y.toNatClampNeg) &&& (sg z.toNatClampNeg ^^^ (-1))) else wr M 0 0 (nI 1)) := by rw [c5, c13, c21]; simp only [Bool.and_self, if_true, c70, Bool.false_eq_true, if_false, c5, c13, c21, hM_10, c36, c70, hx_13, hM_14]; rfl
            rw [hMfin] at hP
            have hrel : True := by trivial
            have hfin : (bI (bt (M 2 ((24 * x.toNatClampNeg) + y.toNatClampNeg)) z.toNatClampNeg)) = bI (isIn 4 x && isIn n y && isIn n z && bt (M 2 (24 * x.toNatClampNeg + y.toNatClampNeg)) z.toNatClampNeg) := by rw [c5, c13, c21]; rfl
            exact W.zret (ty := .boolean) hx hb hr (bI_nar _) (fun t ht hW => ⟨⟨_, (), rfl, ⟨hfin, hrel⟩, by rw [← ht] at hP; exact hP⟩, hS.F ht⟩) hS.2.2 dX5_connect_103
          ·
            replace c70 := bI_n0 c70
            refine lv_aload_n hx hb dX5_connect_73 rfl (lv_at hl 2 rfl) ?_
            refine va_get (D := D) (ci := 5) (v := .ref (b 2)) (C := RX5) (T := TX5) (N := 15) hx hb hts hinX5 hown hK1 hP 0 rfl rfl 4 (by decide) (hts (.fieldLink RX5 13 "KnowledgeModelModel" "seen" "[I") (List.mem_of_getElem? (i := 2) rfl)) (fun _ h9 => h9) rfl dX5_connect_74 ?_
            refine lv_iload hx hb dX5_connect_77 (lv_at hl 1 rfl) ?_
            refine xiald (j := (24 * x.toNatClampNeg) + y.toNatClampNeg) (q0 := 2) (t0 := 0) hx hb hK1 hP rfl rfl (by omega) (by decide) dX5_connect_79 ?_
            refine xtop (y := (M 2 ((24 * x.toNatClampNeg) + y.toNatClampNeg))) (by simp only [hM_10]; rfl) ?_
            refine lv_iconst (v := (nI 1)) hx hb dX5_connect_80 (by decide) ?_
            refine lv_iload_n hx hb dX5_connect_81 rfl (lv_at hl 5 rfl) ?_
            refine lv_ishl hx hb dX5_connect_82 ?_
            refine lv_ior hx hb dX5_connect_83 ?_
            refine lv_goto (tgt := 100) hx hb dX5_connect_84 (by decide) ?_
            refine lv_topi (fun x_17 hx_17 => ?_)
            refine xiast (j := (24 * x.toNatClampNeg) + y.toNatClampNeg) (q0 := 2) (t0 := 0) (ws' := rc cs b (wr M_10 2 ((24 * x.toNatClampNeg) + y.toNatClampNeg) x_17)) hx hb hK1 hP (rD hI) hS rfl rfl (by omega) (by decide) rs_2 dX5_connect_100 (fun H locs hP hS => ?_)
            obtain ⟨M_18, hM_18⟩ : ∃ z, z = wr M_10 2 ((24 * x.toNatClampNeg) + y.toNatClampNeg) x_17 := ⟨_, rfl⟩
            rw [← hM_18] at hP
            have hk_19 : M_18 0 1 = nI n := by rw [hM_18]; exact (wr_ne (Or.inl (by omega))).trans hk_11
            have hk_20 : M_18 0 0 = nI 0 := by rw [hM_18]; exact (wr_ne (Or.inl (by omega))).trans hk_12
            refine lv_iload hx hb dX5_connect_101 (lv_at hl 0 rfl) ?_
            subst hQ
            have hMfin : M_18 = (if (isIn 4 x && isIn n y && isIn n z) = true then wr (wr M 0 0 (nI 0)) 2 (24 * x.toNatClampNeg + y.toNatClampNeg) (if on = true then M 2 (24 * x.toNatClampNeg + y.toNatClampNeg) ||| sg z.toNatClampNeg else M 2 (24 * x.toNatClampNeg + y.toNatClampNeg) &&& (sg z.toNatClampNeg ^^^ (-1))) else wr M 0 0 (nI 1)) := by rw [c5, c13, c21]; simp only [Bool.and_self, if_true, c70, Bool.false_eq_true, if_false, c5, c13, c21, hM_10, c36, c70, hx_17, hM_18]; rfl
            rw [hMfin] at hP
            have hrel : True := by trivial
            have hfin : (bI (bt (M 2 ((24 * x.toNatClampNeg) + y.toNatClampNeg)) z.toNatClampNeg)) = bI (isIn 4 x && isIn n y && isIn n z && bt (M 2 (24 * x.toNatClampNeg + y.toNatClampNeg)) z.toNatClampNeg) := by rw [c5, c13, c21]; rfl
            exact W.zret (ty := .boolean) hx hb hr (bI_nar _) (fun t ht hW => ⟨⟨_, (), rfl, ⟨hfin, hrel⟩, by rw [← ht] at hP; exact hP⟩, hS.F ht⟩) hS.2.2 dX5_connect_103
        ·
          replace c36 : ¬ 0 = 0 := k0_eqf c36 (by omega)
          exfalso; omega

def reflR (M : Nat → Nat → Int32) (n ag : Nat) : Bool := allB (fun u => bt (M 2 (24 * ag + u)) u) n
def symR (M : Nat → Nat → Int32) (n ag : Nat) : Bool := allB (fun u => allB (fun v => !bt (M 2 (24 * ag + u)) v || bt (M 2 (24 * ag + v)) u) n) n
def transR (M : Nat → Nat → Int32) (n ag : Nat) : Bool := allB (fun u => allB (fun v => !bt (M 2 (24 * ag + u)) v || decide ((M 2 (24 * ag + v) &&& (M 2 (24 * ag + u) ^^^ (-1))) = 0)) n) n

set_option maxHeartbeats 4000000 in
set_option maxRecDepth 100000 in
theorem c_X5_shape (l : Launch) (D : va_G) (cs : Nat → ClassId) (b : Nat → Nat) (M : Nat → Nat → Int32) (sz : Nat) (hI : kI b 12)  (n : Nat) (x : Int32) (hn : M 0 1 = nI n) (hn24 : n ≤ 24) : Met l yX5_shape wsX5_shape ({ frames := 2, cells := 0, slots := 0, locals := 60 } : Room) (va_Pc [.ref (b 0), .int x] (XBs D cs (rc cs b M) sz)) (va_Qi (fun r (u : Unit) => r = (if isIn 4 x = true then nI ((if reflR M n x.toNatClampNeg = true then 1 else 0) + (if symR M n x.toNatClampNeg = true then 2 else 0) + (if transR M n x.toNatClampNeg = true then 4 else 0)) else nI 0) ∧ True) (fun (u : Unit) t => va_P D vwCl (rc cs b (wr M 0 0 (if isIn 4 x = true then nI 0 else nI 1))) t.heap) (kA b 12 sz)) 0 0 (kA b 12 sz) := by
  refine Met.ofW (cc := cX5_shape) (maxL := 8) (ret := (some .int)) (by decide) rfl ?_
  intro p e s m args below meth c s₁ B hml hv
  obtain ⟨rfl, hsz, hP, hK⟩ := hv
  have hx := B.exec
  have hb := B.bytes
  have hr := B.returns
  have hts := atoms_spec (ws := wsX5_shape) B.pre
  have hown : s.vm.findClass RX5 = some m.cls := findClass_of_methodNamed B.named
  have hlocks := B.notSynchronized
  have hK1 := hK.1
  have hinX5 : ∀ w ∈ wsX50, w ∈ wsX5_shape := fun w h => List.mem_cons_of_mem _ (List.mem_append_right _ h)
  subst hsz
  have hS : va_S (kA b 12 s.heap.size) s.heap s.heap [] := va_S.rf
  have hl := lv_entry ([.ref (b 0), .int x]) (n := 8) (Nat.le_of_ble_eq_true rfl)
  rw [lg_entry_eq]
  generalize (lg_sl ([.ref (b 0), .int x]) ++ List.replicate (8 - (lg_sl ([.ref (b 0), .int x])).length) Slot.unset).toArray = ls at hl ⊢
  have hl : lv_has ls 8 [(0, .ref (b 0)), (1, .int x)] := hl
  refine W_Q (fun Q hQ => ?_)
  show W p l e ({ frames := 2, cells := 0, slots := 0, locals := 60 } : Room) s m ([.ref (b 0), .int x] : List Value).toArray below meth c s.heap [] 0 0 Q (F0 m 0 ls [])
  refine lv_aload_n hx hb dX5_shape_0 rfl (lv_at hl 0 rfl) ?_
  refine lv_iconst (v := (nI 0)) hx hb dX5_shape_1 (by decide) ?_
  refine xput (D := D) (ci := 5) (v := .int (nI 0)) (ty := .int) (C := RX5) (T := TX5) (N := 15) (ws' := rc cs b (wr M 0 0 (nI 0))) hx hb hts hinX5 tyX5 tyX5_ok nmX5 hown hK1 hP (rD hI) hS 0 rfl rfl 0 (by decide) (hts (.fieldLink RX5 44 "KnowledgeModelModel" "thrown" "I") (List.mem_of_getElem? (i := 1) rfl)) (fun _ h9 => h9) rfl (by decide +kernel) rfl rfl (Nat.le_of_ble_eq_true rfl) rfl dX5_shape_2 (fun H locs hP hS => ?_)
  obtain ⟨M_1, hM_1⟩ : ∃ z, z = wr M 0 0 (nI 0) := ⟨_, rfl⟩
  rw [← hM_1] at hP
  have hk_2 : M_1 0 1 = nI n := by rw [hM_1]; exact (wr_ne (Or.inr (by decide))).trans hn
  have hk_3 : M_1 0 0 = nI 0 := by rw [hM_1]; exact wr_same
  refine lv_iload_n hx hb dX5_shape_5 rfl (lv_at hl 1 rfl) ?_
  refine xcalli (va_runS (As := [.int x]) (rest := []) ⟨hx, hb, hml, hown, hts⟩ (c_X5_isAgent l x) (va_cwS 1 hts gX5_shape_X5_isAgent rfl rfl rfl (by decide +kernel) ⟨Nat.le_of_ble_eq_true rfl, Nat.le_of_ble_eq_true rfl⟩) xpreN rfl rfl hl.1 rfl (lv_room (Nat.le_of_ble_eq_true rfl)) dX5_shape_6 ⟨Nat.le_of_ble_eq_true rfl, Nat.le_of_ble_eq_true rfl⟩) hS hP (fun H locs hP hS => ?_)
  refine lv_if_ne (tgt := 18) hx hb dX5_shape_9 (by decide) (fun c9 => ?_) (fun c9 => ?_)
  ·
    replace c9 := bI_n0 c9
    obtain ⟨hlt_x, heq_x⟩ := isIn_eq (by omega) c9
    have hl : lv_has ls 8 [(0, .ref (b 0)), (1, .int (nI x.toNatClampNeg))] := (lcons (lcons (lzero hl) hl 1 rfl (congrArg Value.int heq_x)) hl 0 rfl rfl)
    obtain ⟨ag, hag⟩ : ∃ z, z = x.toNatClampNeg := ⟨_, rfl⟩
    rw [← hag] at hl hlt_x
    refine lv_iconst (v := (nI 1)) hx hb dX5_shape_18 (by decide) ?_
    refine lv_istore_n (lv' := [(2, .int (nI 1)), (0, .ref (b 0)), (1, .int (nI ag))]) hx hb dX5_shape_19 rfl hl (by decide) rfl (fun ls hl => ?_)
    refine lv_iconst (v := (nI 1)) hx hb dX5_shape_20 (by decide) ?_
    refine lv_istore_n (lv' := [(3, .int (nI 1)), (2, .int (nI 1)), (0, .ref (b 0)), (1, .int (nI ag))]) hx hb dX5_shape_21 rfl hl (by decide) rfl (fun ls hl => ?_)
    refine lv_iconst (v := (nI 1)) hx hb dX5_shape_22 (by decide) ?_
    refine lv_istore (lv' := [(4, .int (nI 1)), (3, .int (nI 1)), (2, .int (nI 1)), (0, .ref (b 0)), (1, .int (nI ag))]) hx hb dX5_shape_23 hl (by decide) rfl (fun ls hl => ?_)
    refine lv_iconst (v := (nI 0)) hx hb dX5_shape_25 (by decide) ?_
    refine lv_istore (lv' := [(5, .int (nI 0)), (4, .int (nI 1)), (3, .int (nI 1)), (2, .int (nI 1)), (0, .ref (b 0)), (1, .int (nI ag))]) hx hb dX5_shape_26 hl (by decide) rfl (fun ls hl => ?_)
    have cut28 : ∀ (f28 : Nat) (j : Nat) (hj : j ≤ n), n + 1 ≤ j + f28 → ∀ (H : Heap) (locs : List Loc), va_P D vwCl (rc cs b M_1) H → va_S (kA b 12 s.heap.size) s.heap H locs → ∀ (ls : Array Slot), lv_has ls 8 [(0, .ref (b 0)), (1, .int (nI ag)), (2, .int (bI (allB (fun u => bt (M 2 (24 * ag + u)) u) j))), (3, .int (bI (allB (fun u => allB (fun v => !bt (M 2 (24 * ag + u)) v || bt (M 2 (24 * ag + v)) u) n) j))), (4, .int (bI (allB (fun u => allB (fun v => !bt (M 2 (24 * ag + u)) v || decide ((M 2 (24 * ag + v) &&& (M 2 (24 * ag + u) ^^^ (-1))) = 0)) n) j))), (5, .int (nI j))] → W p l e ({ frames := 2, cells := 0, slots := 0, locals := 60 } : Room) s m ([.ref (b 0), .int x] : List Value).toArray below meth c H locs 0 0 Q (F0 m 28 ls []) := by
      intro f28
      induction f28 with
      | zero => intro j hj hfu28; exact absurd hfu28 (by omega)
      | succ f28 cut28 =>
        intro j hj hfu28 H locs hP hS ls hl
        refine lv_iload hx hb dX5_shape_28 (lv_at hl 5 rfl) ?_
        refine lv_aload_n hx hb dX5_shape_30 rfl (lv_at hl 0 rfl) ?_
        refine va_get (D := D) (ci := 5) (v := .int (M_1 0 1)) (C := RX5) (T := TX5) (N := 15) hx hb hts hinX5 hown hK1 hP 0 rfl rfl 1 (by decide) (hts (.fieldLink RX5 48 "KnowledgeModelModel" "worlds" "I") (List.mem_of_getElem? (i := 2) rfl)) (fun _ h9 => h9) rfl dX5_shape_31 ?_
        refine xtop (y := nI n) (hk_2) ?_
        refine lv_icmp_ge (tgt := 170) hx hb dX5_shape_34 (by decide) (fun c34 => ?_) (fun c34 => ?_)
        ·
          replace c34 : n ≤ j := k_get c34 (by omega) (by omega)
          refine lv_iload_n hx hb dX5_shape_170 rfl (lv_at hl 2 rfl) ?_
          refine lv_if_eq (tgt := 178) hx hb dX5_shape_171 (by decide) (fun c171 => ?_) (fun c171 => ?_)
          ·
            replace c171 := bI_0 c171
            refine lv_iconst (v := (nI 0)) hx hb dX5_shape_178 (by decide) ?_
            refine lv_iload_n hx hb dX5_shape_179 rfl (lv_at hl 3 rfl) ?_
            refine lv_if_eq (tgt := 187) hx hb dX5_shape_180 (by decide) (fun c180 => ?_) (fun c180 => ?_)
            ·
              replace c180 := bI_0 c180
              refine lv_iconst (v := (nI 0)) hx hb dX5_shape_187 (by decide) ?_
              refine xiadd hx hb dX5_shape_188 ?_
              refine lv_iload hx hb dX5_shape_189 (lv_at hl 4 rfl) ?_
              refine lv_if_eq (tgt := 198) hx hb dX5_shape_191 (by decide) (fun c191 => ?_) (fun c191 => ?_)
              ·
                replace c191 := bI_0 c191
                refine lv_iconst (v := (nI 0)) hx hb dX5_shape_198 (by decide) ?_
                refine xiadd hx hb dX5_shape_199 ?_
                subst hQ
                have hMfin : M_1 = wr M 0 0 (if isIn 4 x = true then nI 0 else nI 1) := by simp only [wr_wr, if_true, if_false, Bool.false_eq_true, Nat.one_ne_zero, hM_1, c9, c34, c171, c180, c191]
                rw [hMfin] at hP
                have hrel : True := by trivial
                have hfin : (nI ((0 + 0) + 0)) = (if isIn 4 x = true then nI ((if reflR M n x.toNatClampNeg = true then 1 else 0) + (if symR M n x.toNatClampNeg = true then 2 else 0) + (if transR M n x.toNatClampNeg = true then 4 else 0)) else nI 0) := by (have hje : j = n := by omega); subst hje; rw [if_pos c9, ← hag]; unfold reflR symR transR; simp only [wr_wr, if_true, if_false, Bool.false_eq_true, Nat.one_ne_zero, c171, c180, c191]
                exact W.iret hx hb hr (fun t ht hW => ⟨⟨_, (), rfl, ⟨hfin, hrel⟩, by rw [← ht] at hP; exact hP⟩, hS.F ht⟩) hS.2.2 dX5_shape_200
              ·
                replace c191 := bI_n0 c191
                refine lv_iconst (v := (nI 4)) hx hb dX5_shape_194 (by decide) ?_
                refine lv_goto (tgt := 199) hx hb dX5_shape_195 (by decide) ?_
                refine xiadd hx hb dX5_shape_199 ?_
                subst hQ
                have hMfin : M_1 = wr M 0 0 (if isIn 4 x = true then nI 0 else nI 1) := by simp only [wr_wr, if_true, if_false, Bool.false_eq_true, Nat.one_ne_zero, hM_1, c9, c34, c171, c180, c191]
                rw [hMfin] at hP
                have hrel : True := by trivial
                have hfin : (nI ((0 + 0) + 4)) = (if isIn 4 x = true then nI ((if reflR M n x.toNatClampNeg = true then 1 else 0) + (if symR M n x.toNatClampNeg = true then 2 else 0) + (if transR M n x.toNatClampNeg = true then 4 else 0)) else nI 0) := by (have hje : j = n := by omega); subst hje; rw [if_pos c9, ← hag]; unfold reflR symR transR; simp only [wr_wr, if_true, if_false, Bool.false_eq_true, Nat.one_ne_zero, c171, c180, c191]
                exact W.iret hx hb hr (fun t ht hW => ⟨⟨_, (), rfl, ⟨hfin, hrel⟩, by rw [← ht] at hP; exact hP⟩, hS.F ht⟩) hS.2.2 dX5_shape_200
            ·
              replace c180 := bI_n0 c180
              refine lv_iconst (v := (nI 2)) hx hb dX5_shape_183 (by decide) ?_
              refine lv_goto (tgt := 188) hx hb dX5_shape_184 (by decide) ?_
              refine xiadd hx hb dX5_shape_188 ?_
              refine lv_iload hx hb dX5_shape_189 (lv_at hl 4 rfl) ?_
              refine lv_if_eq (tgt := 198) hx hb dX5_shape_191 (by decide) (fun c191 => ?_) (fun c191 => ?_)
              ·
                replace c191 := bI_0 c191
                refine lv_iconst (v := (nI 0)) hx hb dX5_shape_198 (by decide) ?_
                refine xiadd hx hb dX5_shape_199 ?_
                subst hQ
                have hMfin : M_1 = wr M 0 0 (if isIn 4 x = true then nI 0 else nI 1) := by simp only [wr_wr, if_true, if_false, Bool.false_eq_true, Nat.one_ne_zero, hM_1, c9, c34, c171, c180, c191]
                rw [hMfin] at hP
                have hrel : True := by trivial
                have hfin : (nI ((0 + 2) + 0)) = (if isIn 4 x = true then nI ((if reflR M n x.toNatClampNeg = true then 1 else 0) + (if symR M n x.toNatClampNeg = true then 2 else 0) + (if transR M n x.toNatClampNeg = true then 4 else 0)) else nI 0) := by (have hje : j = n := by omega); subst hje; rw [if_pos c9, ← hag]; unfold reflR symR transR; simp only [wr_wr, if_true, if_false, Bool.false_eq_true, Nat.one_ne_zero, c171, c180, c191]
                exact W.iret hx hb hr (fun t ht hW => ⟨⟨_, (), rfl, ⟨hfin, hrel⟩, by rw [← ht] at hP; exact hP⟩, hS.F ht⟩) hS.2.2 dX5_shape_200
              ·
                replace c191 := bI_n0 c191
                refine lv_iconst (v := (nI 4)) hx hb dX5_shape_194 (by decide) ?_
                refine lv_goto (tgt := 199) hx hb dX5_shape_195 (by decide) ?_
                refine xiadd hx hb dX5_shape_199 ?_
                subst hQ
                have hMfin : M_1 = wr M 0 0 (if isIn 4 x = true then nI 0 else nI 1) := by simp only [wr_wr, if_true, if_false, Bool.false_eq_true, Nat.one_ne_zero, hM_1, c9, c34, c171, c180, c191]
                rw [hMfin] at hP
                have hrel : True := by trivial
                have hfin : (nI ((0 + 2) + 4)) = (if isIn 4 x = true then nI ((if reflR M n x.toNatClampNeg = true then 1 else 0) + (if symR M n x.toNatClampNeg = true then 2 else 0) + (if transR M n x.toNatClampNeg = true then 4 else 0)) else nI 0) := by (have hje : j = n := by omega); subst hje; rw [if_pos c9, ← hag]; unfold reflR symR transR; simp only [wr_wr, if_true, if_false, Bool.false_eq_true, Nat.one_ne_zero, c171, c180, c191]
                exact W.iret hx hb hr (fun t ht hW => ⟨⟨_, (), rfl, ⟨hfin, hrel⟩, by rw [← ht] at hP; exact hP⟩, hS.F ht⟩) hS.2.2 dX5_shape_200
          ·
            replace c171 := bI_n0 c171
            refine lv_iconst (v := (nI 1)) hx hb dX5_shape_174 (by decide) ?_
            refine lv_goto (tgt := 179) hx hb dX5_shape_175 (by decide) ?_
            refine lv_iload_n hx hb dX5_shape_179 rfl (lv_at hl 3 rfl) ?_
            refine lv_if_eq (tgt := 187) hx hb dX5_shape_180 (by decide) (fun c180 => ?_) (fun c180 => ?_)
            ·
              replace c180 := bI_0 c180
              refine lv_iconst (v := (nI 0)) hx hb dX5_shape_187 (by decide) ?_
              refine xiadd hx hb dX5_shape_188 ?_
              refine lv_iload hx hb dX5_shape_189 (lv_at hl 4 rfl) ?_
              refine lv_if_eq (tgt := 198) hx hb dX5_shape_191 (by decide) (fun c191 => ?_) (fun c191 => ?_)
              ·
                replace c191 := bI_0 c191
                refine lv_iconst (v := (nI 0)) hx hb dX5_shape_198 (by decide) ?_
                refine xiadd hx hb dX5_shape_199 ?_
                subst hQ
                have hMfin : M_1 = wr M 0 0 (if isIn 4 x = true then nI 0 else nI 1) := by simp only [wr_wr, if_true, if_false, Bool.false_eq_true, Nat.one_ne_zero, hM_1, c9, c34, c171, c180, c191]
                rw [hMfin] at hP
                have hrel : True := by trivial
                have hfin : (nI ((1 + 0) + 0)) = (if isIn 4 x = true then nI ((if reflR M n x.toNatClampNeg = true then 1 else 0) + (if symR M n x.toNatClampNeg = true then 2 else 0) + (if transR M n x.toNatClampNeg = true then 4 else 0)) else nI 0) := by (have hje : j = n := by omega); subst hje; rw [if_pos c9, ← hag]; unfold reflR symR transR; simp only [wr_wr, if_true, if_false, Bool.false_eq_true, Nat.one_ne_zero, c171, c180, c191]
                exact W.iret hx hb hr (fun t ht hW => ⟨⟨_, (), rfl, ⟨hfin, hrel⟩, by rw [← ht] at hP; exact hP⟩, hS.F ht⟩) hS.2.2 dX5_shape_200
              ·
                replace c191 := bI_n0 c191
                refine lv_iconst (v := (nI 4)) hx hb dX5_shape_194 (by decide) ?_
                refine lv_goto (tgt := 199) hx hb dX5_shape_195 (by decide) ?_
                refine xiadd hx hb dX5_shape_199 ?_
                subst hQ
                have hMfin : M_1 = wr M 0 0 (if isIn 4 x = true then nI 0 else nI 1) := by simp only [wr_wr, if_true, if_false, Bool.false_eq_true, Nat.one_ne_zero, hM_1, c9, c34, c171, c180, c191]
                rw [hMfin] at hP
                have hrel : True := by trivial
                have hfin : (nI ((1 + 0) + 4)) = (if isIn 4 x = true then nI ((if reflR M n x.toNatClampNeg = true then 1 else 0) + (if symR M n x.toNatClampNeg = true then 2 else 0) + (if transR M n x.toNatClampNeg = true then 4 else 0)) else nI 0) := by (have hje : j = n := by omega); subst hje; rw [if_pos c9, ← hag]; unfold reflR symR transR; simp only [wr_wr, if_true, if_false, Bool.false_eq_true, Nat.one_ne_zero, c171, c180, c191]
                exact W.iret hx hb hr (fun t ht hW => ⟨⟨_, (), rfl, ⟨hfin, hrel⟩, by rw [← ht] at hP; exact hP⟩, hS.F ht⟩) hS.2.2 dX5_shape_200
            ·
              replace c180 := bI_n0 c180
              refine lv_iconst (v := (nI 2)) hx hb dX5_shape_183 (by decide) ?_
              refine lv_goto (tgt := 188) hx hb dX5_shape_184 (by decide) ?_
              refine xiadd hx hb dX5_shape_188 ?_
              refine lv_iload hx hb dX5_shape_189 (lv_at hl 4 rfl) ?_
              refine lv_if_eq (tgt := 198) hx hb dX5_shape_191 (by decide) (fun c191 => ?_) (fun c191 => ?_)
              ·
                replace c191 := bI_0 c191
                refine lv_iconst (v := (nI 0)) hx hb dX5_shape_198 (by decide) ?_
                refine xiadd hx hb dX5_shape_199 ?_
                subst hQ
                have hMfin : M_1 = wr M 0 0 (if isIn 4 x = true then nI 0 else nI 1) := by simp only [wr_wr, if_true, if_false, Bool.false_eq_true, Nat.one_ne_zero, hM_1, c9, c34, c171, c180, c191]
                rw [hMfin] at hP
                have hrel : True := by trivial
                have hfin : (nI ((1 + 2) + 0)) = (if isIn 4 x = true then nI ((if reflR M n x.toNatClampNeg = true then 1 else 0) + (if symR M n x.toNatClampNeg = true then 2 else 0) + (if transR M n x.toNatClampNeg = true then 4 else 0)) else nI 0) := by (have hje : j = n := by omega); subst hje; rw [if_pos c9, ← hag]; unfold reflR symR transR; simp only [wr_wr, if_true, if_false, Bool.false_eq_true, Nat.one_ne_zero, c171, c180, c191]
                exact W.iret hx hb hr (fun t ht hW => ⟨⟨_, (), rfl, ⟨hfin, hrel⟩, by rw [← ht] at hP; exact hP⟩, hS.F ht⟩) hS.2.2 dX5_shape_200
              ·
                replace c191 := bI_n0 c191
                refine lv_iconst (v := (nI 4)) hx hb dX5_shape_194 (by decide) ?_
                refine lv_goto (tgt := 199) hx hb dX5_shape_195 (by decide) ?_
                refine xiadd hx hb dX5_shape_199 ?_
                subst hQ
                have hMfin : M_1 = wr M 0 0 (if isIn 4 x = true then nI 0 else nI 1) := by simp only [wr_wr, if_true, if_false, Bool.false_eq_true, Nat.one_ne_zero, hM_1, c9, c34, c171, c180, c191]
                rw [hMfin] at hP
                have hrel : True := by trivial
                have hfin : (nI ((1 + 2) + 4)) = (if isIn 4 x = true then nI ((if reflR M n x.toNatClampNeg = true then 1 else 0) + (if symR M n x.toNatClampNeg = true then 2 else 0) + (if transR M n x.toNatClampNeg = true then 4 else 0)) else nI 0) := by (have hje : j = n := by omega); subst hje; rw [if_pos c9, ← hag]; unfold reflR symR transR; simp only [wr_wr, if_true, if_false, Bool.false_eq_true, Nat.one_ne_zero, c171, c180, c191]
                exact W.iret hx hb hr (fun t ht hW => ⟨⟨_, (), rfl, ⟨hfin, hrel⟩, by rw [← ht] at hP; exact hP⟩, hS.F ht⟩) hS.2.2 dX5_shape_200
        ·
          replace c34 : j < n := k_gef c34 (by omega) (by omega)
          refine lv_aload_n hx hb dX5_shape_37 rfl (lv_at hl 0 rfl) ?_
          refine va_get (D := D) (ci := 5) (v := .ref (b 2)) (C := RX5) (T := TX5) (N := 15) hx hb hts hinX5 hown hK1 hP 0 rfl rfl 4 (by decide) (hts (.fieldLink RX5 13 "KnowledgeModelModel" "seen" "[I") (List.mem_of_getElem? (i := 3) rfl)) (fun _ h9 => h9) rfl dX5_shape_38 ?_
          refine lv_bipush (v := (nI 24)) hx hb dX5_shape_41 (by decide) ?_
          refine lv_iload_n hx hb dX5_shape_43 rfl (lv_at hl 1 rfl) ?_
          refine ximul hx hb dX5_shape_44 ?_
          refine lv_iload hx hb dX5_shape_45 (lv_at hl 5 rfl) ?_
          refine xiadd hx hb dX5_shape_47 ?_
          refine xiald (j := (24 * ag) + j) (q0 := 2) (t0 := 0) hx hb hK1 hP rfl rfl (by omega) (by decide) dX5_shape_48 ?_
          refine xtop (y := (M 2 ((24 * ag) + j))) (by simp only [hM_1]; rfl) ?_
          refine lv_istore (lv' := [(6, .int (M 2 ((24 * ag) + j))), (0, .ref (b 0)), (1, .int (nI ag)), (2, .int (bI (allB (fun u => bt (M 2 (24 * ag + u)) u) j))), (3, .int (bI (allB (fun u => allB (fun v => !bt (M 2 (24 * ag + u)) v || bt (M 2 (24 * ag + v)) u) n) j))), (4, .int (bI (allB (fun u => allB (fun v => !bt (M 2 (24 * ag + u)) v || decide ((M 2 (24 * ag + v) &&& (M 2 (24 * ag + u) ^^^ (-1))) = 0)) n) j))), (5, .int (nI j))]) hx hb dX5_shape_49 hl (by decide) rfl (fun ls hl => ?_)
          have cut71 : ∀ (H : Heap) (locs : List Loc), va_P D vwCl (rc cs b M_1) H → va_S (kA b 12 s.heap.size) s.heap H locs → ∀ (ls : Array Slot), lv_has ls 8 [(0, .ref (b 0)), (1, .int (nI ag)), (2, .int (bI (allB (fun u => bt (M 2 (24 * ag + u)) u) (j + 1)))), (3, .int (bI (allB (fun u => allB (fun v => !bt (M 2 (24 * ag + u)) v || bt (M 2 (24 * ag + v)) u) n) j))), (4, .int (bI (allB (fun u => allB (fun v => !bt (M 2 (24 * ag + u)) v || decide ((M 2 (24 * ag + v) &&& (M 2 (24 * ag + u) ^^^ (-1))) = 0)) n) j))), (5, .int (nI j)), (6, .int (M 2 (24 * ag + j)))] → W p l e ({ frames := 2, cells := 0, slots := 0, locals := 60 } : Room) s m ([.ref (b 0), .int x] : List Value).toArray below meth c H locs 0 0 Q (F0 m 71 ls []) := by
            intro   H locs hP hS ls hl
            refine lv_iconst (v := (nI 0)) hx hb dX5_shape_71 (by decide) ?_
            refine lv_istore (lv' := [(7, .int (nI 0)), (0, .ref (b 0)), (1, .int (nI ag)), (2, .int (bI (allB (fun u => bt (M 2 (24 * ag + u)) u) (j + 1)))), (3, .int (bI (allB (fun u => allB (fun v => !bt (M 2 (24 * ag + u)) v || bt (M 2 (24 * ag + v)) u) n) j))), (4, .int (bI (allB (fun u => allB (fun v => !bt (M 2 (24 * ag + u)) v || decide ((M 2 (24 * ag + v) &&& (M 2 (24 * ag + u) ^^^ (-1))) = 0)) n) j))), (5, .int (nI j)), (6, .int (M 2 (24 * ag + j)))]) hx hb dX5_shape_72 hl (by decide) rfl (fun ls hl => ?_)
            have cut74 : ∀ (f74 : Nat) (k : Nat) (hk : k ≤ n), n + 1 ≤ k + f74 → ∀ (H : Heap) (locs : List Loc), va_P D vwCl (rc cs b M_1) H → va_S (kA b 12 s.heap.size) s.heap H locs → ∀ (ls : Array Slot), lv_has ls 8 [(0, .ref (b 0)), (1, .int (nI ag)), (2, .int (bI (allB (fun u => bt (M 2 (24 * ag + u)) u) (j + 1)))), (3, .int (bI (allB (fun u => allB (fun v => !bt (M 2 (24 * ag + u)) v || bt (M 2 (24 * ag + v)) u) n) j && allB (fun v => !bt (M 2 (24 * ag + j)) v || bt (M 2 (24 * ag + v)) j) k))), (4, .int (bI (allB (fun u => allB (fun v => !bt (M 2 (24 * ag + u)) v || decide ((M 2 (24 * ag + v) &&& (M 2 (24 * ag + u) ^^^ (-1))) = 0)) n) j && allB (fun v => !bt (M 2 (24 * ag + j)) v || decide ((M 2 (24 * ag + v) &&& (M 2 (24 * ag + j) ^^^ (-1))) = 0)) k))), (5, .int (nI j)), (6, .int (M 2 (24 * ag + j))), (7, .int (nI k))] → W p l e ({ frames := 2, cells := 0, slots := 0, locals := 60 } : Room) s m ([.ref (b 0), .int x] : List Value).toArray below meth c H locs 0 0 Q (F0 m 74 ls []) := by
              intro f74
              induction f74 with
              | zero => intro k hk hfu74; exact absurd hfu74 (by omega)
              | succ f74 cut74 =>
                intro k hk hfu74 H locs hP hS ls hl
                refine lv_iload hx hb dX5_shape_74 (lv_at hl 7 rfl) ?_
                refine lv_aload_n hx hb dX5_shape_76 rfl (lv_at hl 0 rfl) ?_
                refine va_get (D := D) (ci := 5) (v := .int (M_1 0 1)) (C := RX5) (T := TX5) (N := 15) hx hb hts hinX5 hown hK1 hP 0 rfl rfl 1 (by decide) (hts (.fieldLink RX5 48 "KnowledgeModelModel" "worlds" "I") (List.mem_of_getElem? (i := 2) rfl)) (fun _ h9 => h9) rfl dX5_shape_77 ?_
                refine xtop (y := nI n) (hk_2) ?_
                refine lv_icmp_ge (tgt := 164) hx hb dX5_shape_80 (by decide) (fun c80 => ?_) (fun c80 => ?_)
                ·
                  replace c80 : n ≤ k := k_get c80 (by omega) (by omega)
                  refine lv_iinc (v := (nI (j + 1))) (lv' := [(5, .int (nI (j + 1))), (0, .ref (b 0)), (1, .int (nI ag)), (2, .int (bI (allB (fun u => bt (M 2 (24 * ag + u)) u) (j + 1)))), (3, .int (bI (allB (fun u => allB (fun v => !bt (M 2 (24 * ag + u)) v || bt (M 2 (24 * ag + v)) u) n) j && allB (fun v => !bt (M 2 (24 * ag + j)) v || bt (M 2 (24 * ag + v)) j) k))), (4, .int (bI (allB (fun u => allB (fun v => !bt (M 2 (24 * ag + u)) v || decide ((M 2 (24 * ag + v) &&& (M 2 (24 * ag + u) ^^^ (-1))) = 0)) n) j && allB (fun v => !bt (M 2 (24 * ag + j)) v || decide ((M 2 (24 * ag + v) &&& (M 2 (24 * ag + j) ^^^ (-1))) = 0)) k))), (6, .int (M 2 (24 * ag + j))), (7, .int (nI k))]) hx hb dX5_shape_164 hl (k := 5) rfl (nI_add j 1) (by decide) rfl (fun ls hl => ?_)
                  refine lv_goto (tgt := 28) hx hb dX5_shape_167 (by decide) ?_
                  have e_4 : (bI (allB (fun u => allB (fun v => !bt (M 2 (24 * ag + u)) v || decide ((M 2 (24 * ag + v) &&& (M 2 (24 * ag + u) ^^^ (-1))) = 0)) n) j && allB (fun v => !bt (M 2 (24 * ag + j)) v || decide ((M 2 (24 * ag + v) &&& (M 2 (24 * ag + j) ^^^ (-1))) = 0)) k)) = (bI (allB (fun u => allB (fun v => !bt (M 2 (24 * ag + u)) v || decide ((M 2 (24 * ag + v) &&& (M 2 (24 * ag + u) ^^^ (-1))) = 0)) n) (j + 1))) := by (have hke : k = n := by omega); subst hke; rfl
                  have e_5 : (bI (allB (fun u => allB (fun v => !bt (M 2 (24 * ag + u)) v || bt (M 2 (24 * ag + v)) u) n) j && allB (fun v => !bt (M 2 (24 * ag + j)) v || bt (M 2 (24 * ag + v)) j) k)) = (bI (allB (fun u => allB (fun v => !bt (M 2 (24 * ag + u)) v || bt (M 2 (24 * ag + v)) u) n) (j + 1))) := by (have hke : k = n := by omega); subst hke; rfl
                  exact cut28 (j + 1) (by omega) (by omega) _ _ hP hS ls (lcons (lcons (lcons (lcons (lcons (lcons (lzero hl) hl 0 rfl rfl) hl 5 rfl (congrArg Value.int e_4)) hl 4 rfl (congrArg Value.int e_5)) hl 3 rfl rfl) hl 2 rfl rfl) hl 1 rfl rfl)
                ·
                  replace c80 : k < n := k_gef c80 (by omega) (by omega)
                  have cut158 : ∀ (H : Heap) (locs : List Loc), va_P D vwCl (rc cs b M_1) H → va_S (kA b 12 s.heap.size) s.heap H locs → ∀ (ls : Array Slot), lv_has ls 8 [(0, .ref (b 0)), (1, .int (nI ag)), (2, .int (bI (allB (fun u => bt (M 2 (24 * ag + u)) u) (j + 1)))), (3, .int (bI (allB (fun u => allB (fun v => !bt (M 2 (24 * ag + u)) v || bt (M 2 (24 * ag + v)) u) n) j && allB (fun v => !bt (M 2 (24 * ag + j)) v || bt (M 2 (24 * ag + v)) j) (k + 1)))), (4, .int (bI (allB (fun u => allB (fun v => !bt (M 2 (24 * ag + u)) v || decide ((M 2 (24 * ag + v) &&& (M 2 (24 * ag + u) ^^^ (-1))) = 0)) n) j && allB (fun v => !bt (M 2 (24 * ag + j)) v || decide ((M 2 (24 * ag + v) &&& (M 2 (24 * ag + j) ^^^ (-1))) = 0)) (k + 1)))), (5, .int (nI j)), (6, .int (M 2 (24 * ag + j))), (7, .int (nI k))] → W p l e ({ frames := 2, cells := 0, slots := 0, locals := 60 } : Room) s m ([.ref (b 0), .int x] : List Value).toArray below meth c H locs 0 0 Q (F0 m 158 ls []) := by
                    intro   H locs hP hS ls hl
                    refine lv_iinc (v := (nI (k + 1))) (lv' := [(7, .int (nI (k + 1))), (0, .ref (b 0)), (1, .int (nI ag)), (2, .int (bI (allB (fun u => bt (M 2 (24 * ag + u)) u) (j + 1)))), (3, .int (bI (allB (fun u => allB (fun v => !bt (M 2 (24 * ag + u)) v || bt (M 2 (24 * ag + v)) u) n) j && allB (fun v => !bt (M 2 (24 * ag + j)) v || bt (M 2 (24 * ag + v)) j) (k + 1)))), (4, .int (bI (allB (fun u => allB (fun v => !bt (M 2 (24 * ag + u)) v || decide ((M 2 (24 * ag + v) &&& (M 2 (24 * ag + u) ^^^ (-1))) = 0)) n) j && allB (fun v => !bt (M 2 (24 * ag + j)) v || decide ((M 2 (24 * ag + v) &&& (M 2 (24 * ag + j) ^^^ (-1))) = 0)) (k + 1)))), (5, .int (nI j)), (6, .int (M 2 (24 * ag + j)))]) hx hb dX5_shape_158 hl (k := 7) rfl (nI_add k 1) (by decide) rfl (fun ls hl => ?_)
                    refine lv_goto (tgt := 74) hx hb dX5_shape_161 (by decide) ?_
                    exact cut74 (k + 1) (by omega) (by omega) _ _ hP hS ls (lcons (lcons (lcons (lcons (lcons (lcons (lcons (lcons (lzero hl) hl 0 rfl rfl) hl 7 rfl rfl) hl 6 rfl rfl) hl 5 rfl rfl) hl 4 rfl rfl) hl 3 rfl rfl) hl 2 rfl rfl) hl 1 rfl rfl)
                  refine lv_iload hx hb dX5_shape_83 (lv_at hl 6 rfl) ?_
                  refine lv_iload hx hb dX5_shape_85 (lv_at hl 7 rfl) ?_
                  refine xcalli (va_runS (As := [.int (M 2 (24 * ag + j)), .int (nI k)]) (rest := []) ⟨hx, hb, hml, hown, hts⟩ (c_X5_has l (M 2 (24 * ag + j)) k (by omega)) (va_cwS 2 hts gX5_shape_X5_has rfl rfl rfl (by decide +kernel) ⟨Nat.le_of_ble_eq_true rfl, Nat.le_of_ble_eq_true rfl⟩) xpreN rfl rfl hl.1 rfl (lv_room (Nat.le_of_ble_eq_true rfl)) dX5_shape_87 ⟨Nat.le_of_ble_eq_true rfl, Nat.le_of_ble_eq_true rfl⟩) hS hP (fun H locs hP hS => ?_)
                  refine lv_if_ne (tgt := 96) hx hb dX5_shape_90 (by decide) (fun c90 => ?_) (fun c90 => ?_)
                  ·
                    replace c90 := bI_n0 c90
                    have cut126 : ∀ (H : Heap) (locs : List Loc), va_P D vwCl (rc cs b M_1) H → va_S (kA b 12 s.heap.size) s.heap H locs → ∀ (ls : Array Slot), lv_has ls 8 [(0, .ref (b 0)), (1, .int (nI ag)), (2, .int (bI (allB (fun u => bt (M 2 (24 * ag + u)) u) (j + 1)))), (3, .int (bI (allB (fun u => allB (fun v => !bt (M 2 (24 * ag + u)) v || bt (M 2 (24 * ag + v)) u) n) j && allB (fun v => !bt (M 2 (24 * ag + j)) v || bt (M 2 (24 * ag + v)) j) (k + 1)))), (4, .int (bI (allB (fun u => allB (fun v => !bt (M 2 (24 * ag + u)) v || decide ((M 2 (24 * ag + v) &&& (M 2 (24 * ag + u) ^^^ (-1))) = 0)) n) j && allB (fun v => !bt (M 2 (24 * ag + j)) v || decide ((M 2 (24 * ag + v) &&& (M 2 (24 * ag + j) ^^^ (-1))) = 0)) k))), (5, .int (nI j)), (6, .int (M 2 (24 * ag + j))), (7, .int (nI k))] → W p l e ({ frames := 2, cells := 0, slots := 0, locals := 60 } : Room) s m ([.ref (b 0), .int x] : List Value).toArray below meth c H locs 0 0 Q (F0 m 126 ls []) := by
                      intro   H locs hP hS ls hl
                      refine lv_iload hx hb dX5_shape_126 (lv_at hl 4 rfl) ?_
                      refine lv_if_eq (tgt := 155) hx hb dX5_shape_128 (by decide) (fun c128 => ?_) (fun c128 => ?_)
                      ·
                        replace c128 := bI_0 c128
                        refine lv_iconst (v := (nI 0)) hx hb dX5_shape_155 (by decide) ?_
                        refine lv_istore (lv' := [(4, .int (nI 0)), (0, .ref (b 0)), (1, .int (nI ag)), (2, .int (bI (allB (fun u => bt (M 2 (24 * ag + u)) u) (j + 1)))), (3, .int (bI (allB (fun u => allB (fun v => !bt (M 2 (24 * ag + u)) v || bt (M 2 (24 * ag + v)) u) n) j && allB (fun v => !bt (M 2 (24 * ag + j)) v || bt (M 2 (24 * ag + v)) j) (k + 1)))), (5, .int (nI j)), (6, .int (M 2 (24 * ag + j))), (7, .int (nI k))]) hx hb dX5_shape_156 hl (by decide) rfl (fun ls hl => ?_)
                        have e_6 : (nI 0) = (bI (allB (fun u => allB (fun v => !bt (M 2 (24 * ag + u)) v || decide ((M 2 (24 * ag + v) &&& (M 2 (24 * ag + u) ^^^ (-1))) = 0)) n) j && allB (fun v => !bt (M 2 (24 * ag + j)) v || decide ((M 2 (24 * ag + v) &&& (M 2 (24 * ag + j) ^^^ (-1))) = 0)) (k + 1))) := by first | (simp only [allB, c90, Bool.not_false, Bool.true_or, Bool.and_true]; done) | (simp only [allB, c90, c128, decide_eq_true c148, decide_true, Bool.not_true, Bool.false_or, Bool.and_true]; rfl) | (simp only [allB, c90, c128, decide_eq_false c148, Bool.not_true, Bool.false_or, Bool.and_false]; rfl) | (simp only [allB, ← Bool.and_assoc, c128, Bool.false_and]; rfl)
                        exact cut158    _ _ hP hS ls (lcons (lcons (lcons (lcons (lcons (lcons (lcons (lcons (lzero hl) hl 7 rfl rfl) hl 6 rfl rfl) hl 5 rfl rfl) hl 0 rfl (congrArg Value.int e_6)) hl 4 rfl rfl) hl 3 rfl rfl) hl 2 rfl rfl) hl 1 rfl rfl)
                      ·
                        replace c128 := bI_n0 c128
                        refine lv_aload_n hx hb dX5_shape_131 rfl (lv_at hl 0 rfl) ?_
                        refine va_get (D := D) (ci := 5) (v := .ref (b 2)) (C := RX5) (T := TX5) (N := 15) hx hb hts hinX5 hown hK1 hP 0 rfl rfl 4 (by decide) (hts (.fieldLink RX5 13 "KnowledgeModelModel" "seen" "[I") (List.mem_of_getElem? (i := 3) rfl)) (fun _ h9 => h9) rfl dX5_shape_132 ?_
                        refine lv_bipush (v := (nI 24)) hx hb dX5_shape_135 (by decide) ?_
                        refine lv_iload_n hx hb dX5_shape_137 rfl (lv_at hl 1 rfl) ?_
                        refine ximul hx hb dX5_shape_138 ?_
                        refine lv_iload hx hb dX5_shape_139 (lv_at hl 7 rfl) ?_
                        refine xiadd hx hb dX5_shape_141 ?_
                        refine xiald (j := (24 * ag) + k) (q0 := 2) (t0 := 0) hx hb hK1 hP rfl rfl (by omega) (by decide) dX5_shape_142 ?_
                        refine xtop (y := (M 2 ((24 * ag) + k))) (by simp only [hM_1]; rfl) ?_
                        refine lv_iload hx hb dX5_shape_143 (lv_at hl 6 rfl) ?_
                        refine lv_iconst (v := (-1 : Int32)) hx hb dX5_shape_145 (by decide) ?_
                        refine lv_ixor hx hb dX5_shape_146 ?_
                        refine lv_iand hx hb dX5_shape_147 ?_
                        refine lv_if_ne (tgt := 155) hx hb dX5_shape_148 (by decide) (fun c148 => ?_) (fun c148 => ?_)
                        ·
                          refine lv_iconst (v := (nI 0)) hx hb dX5_shape_155 (by decide) ?_
                          refine lv_istore (lv' := [(4, .int (nI 0)), (0, .ref (b 0)), (1, .int (nI ag)), (2, .int (bI (allB (fun u => bt (M 2 (24 * ag + u)) u) (j + 1)))), (3, .int (bI (allB (fun u => allB (fun v => !bt (M 2 (24 * ag + u)) v || bt (M 2 (24 * ag + v)) u) n) j && allB (fun v => !bt (M 2 (24 * ag + j)) v || bt (M 2 (24 * ag + v)) j) (k + 1)))), (5, .int (nI j)), (6, .int (M 2 (24 * ag + j))), (7, .int (nI k))]) hx hb dX5_shape_156 hl (by decide) rfl (fun ls hl => ?_)
                          have e_7 : (nI 0) = (bI (allB (fun u => allB (fun v => !bt (M 2 (24 * ag + u)) v || decide ((M 2 (24 * ag + v) &&& (M 2 (24 * ag + u) ^^^ (-1))) = 0)) n) j && allB (fun v => !bt (M 2 (24 * ag + j)) v || decide ((M 2 (24 * ag + v) &&& (M 2 (24 * ag + j) ^^^ (-1))) = 0)) (k + 1))) := by first | (simp only [allB, c90, Bool.not_false, Bool.true_or, Bool.and_true]; done) | (simp only [allB, c90, c128, decide_eq_true c148, decide_true, Bool.not_true, Bool.false_or, Bool.and_true]; rfl) | (simp only [allB, c90, c128, decide_eq_false c148, Bool.not_true, Bool.false_or, Bool.and_false]; rfl) | (simp only [allB, ← Bool.and_assoc, c128, Bool.false_and]; rfl)
                          exact cut158    _ _ hP hS ls (lcons (lcons (lcons (lcons (lcons (lcons (lcons (lcons (lzero hl) hl 7 rfl rfl) hl 6 rfl rfl) hl 5 rfl rfl) hl 0 rfl (congrArg Value.int e_7)) hl 4 rfl rfl) hl 3 rfl rfl) hl 2 rfl rfl) hl 1 rfl rfl)
                        ·
                          refine lv_iconst (v := (nI 1)) hx hb dX5_shape_151 (by decide) ?_
                          refine lv_goto (tgt := 156) hx hb dX5_shape_152 (by decide) ?_
                          refine lv_istore (lv' := [(4, .int (nI 1)), (0, .ref (b 0)), (1, .int (nI ag)), (2, .int (bI (allB (fun u => bt (M 2 (24 * ag + u)) u) (j + 1)))), (3, .int (bI (allB (fun u => allB (fun v => !bt (M 2 (24 * ag + u)) v || bt (M 2 (24 * ag + v)) u) n) j && allB (fun v => !bt (M 2 (24 * ag + j)) v || bt (M 2 (24 * ag + v)) j) (k + 1)))), (5, .int (nI j)), (6, .int (M 2 (24 * ag + j))), (7, .int (nI k))]) hx hb dX5_shape_156 hl (by decide) rfl (fun ls hl => ?_)
                          have e_8 : (nI 1) = (bI (allB (fun u => allB (fun v => !bt (M 2 (24 * ag + u)) v || decide ((M 2 (24 * ag + v) &&& (M 2 (24 * ag + u) ^^^ (-1))) = 0)) n) j && allB (fun v => !bt (M 2 (24 * ag + j)) v || decide ((M 2 (24 * ag + v) &&& (M 2 (24 * ag + j) ^^^ (-1))) = 0)) (k + 1))) := by first | (simp only [allB, c90, Bool.not_false, Bool.true_or, Bool.and_true]; done) | (simp only [allB, c90, c128, decide_eq_true c148, decide_true, Bool.not_true, Bool.false_or, Bool.and_true]; rfl) | (simp only [allB, c90, c128, decide_eq_false c148, Bool.not_true, Bool.false_or, Bool.and_false]; rfl) | (simp only [allB, ← Bool.and_assoc, c128, Bool.false_and]; rfl)
                          exact cut158    _ _ hP hS ls (lcons (lcons (lcons (lcons (lcons (lcons (lcons (lcons (lzero hl) hl 7 rfl rfl) hl 6 rfl rfl) hl 5 rfl rfl) hl 0 rfl (congrArg Value.int e_8)) hl 4 rfl rfl) hl 3 rfl rfl) hl 2 rfl rfl) hl 1 rfl rfl)
                    refine lv_iload_n hx hb dX5_shape_96 rfl (lv_at hl 3 rfl) ?_
                    refine lv_if_eq (tgt := 124) hx hb dX5_shape_97 (by decide) (fun c97 => ?_) (fun c97 => ?_)
                    ·
                      replace c97 := bI_0 c97
                      refine lv_iconst (v := (nI 0)) hx hb dX5_shape_124 (by decide) ?_
                      refine lv_istore_n (lv' := [(3, .int (nI 0)), (0, .ref (b 0)), (1, .int (nI ag)), (2, .int (bI (allB (fun u => bt (M 2 (24 * ag + u)) u) (j + 1)))), (4, .int (bI (allB (fun u => allB (fun v => !bt (M 2 (24 * ag + u)) v || decide ((M 2 (24 * ag + v) &&& (M 2 (24 * ag + u) ^^^ (-1))) = 0)) n) j && allB (fun v => !bt (M 2 (24 * ag + j)) v || decide ((M 2 (24 * ag + v) &&& (M 2 (24 * ag + j) ^^^ (-1))) = 0)) k))), (5, .int (nI j)), (6, .int (M 2 (24 * ag + j))), (7, .int (nI k))]) hx hb dX5_shape_125 rfl hl (by decide) rfl (fun ls hl => ?_)
                      have e_9 : (nI 0) = (bI (allB (fun u => allB (fun v => !bt (M 2 (24 * ag + u)) v || bt (M 2 (24 * ag + v)) u) n) j && allB (fun v => !bt (M 2 (24 * ag + j)) v || bt (M 2 (24 * ag + v)) j) (k + 1))) := by first | (simp only [allB, ← Bool.and_assoc, c97, c117, c90, Bool.not_true, Bool.false_or, Bool.and_self]; rfl) | (simp only [allB, ← Bool.and_assoc, c97, c117, c90, Bool.not_true, Bool.false_or, Bool.and_false]; rfl) | (simp only [allB, ← Bool.and_assoc, c97, Bool.false_and]; rfl)
                      exact cut126    _ _ hP hS ls (lcons (lcons (lcons (lcons (lcons (lcons (lcons (lcons (lzero hl) hl 7 rfl rfl) hl 6 rfl rfl) hl 5 rfl rfl) hl 4 rfl rfl) hl 0 rfl (congrArg Value.int e_9)) hl 3 rfl rfl) hl 2 rfl rfl) hl 1 rfl rfl)
                    ·
                      replace c97 := bI_n0 c97
                      refine lv_aload_n hx hb dX5_shape_100 rfl (lv_at hl 0 rfl) ?_
                      refine va_get (D := D) (ci := 5) (v := .ref (b 2)) (C := RX5) (T := TX5) (N := 15) hx hb hts hinX5 hown hK1 hP 0 rfl rfl 4 (by decide) (hts (.fieldLink RX5 13 "KnowledgeModelModel" "seen" "[I") (List.mem_of_getElem? (i := 3) rfl)) (fun _ h9 => h9) rfl dX5_shape_101 ?_
                      refine lv_bipush (v := (nI 24)) hx hb dX5_shape_104 (by decide) ?_
                      refine lv_iload_n hx hb dX5_shape_106 rfl (lv_at hl 1 rfl) ?_
                      refine ximul hx hb dX5_shape_107 ?_
                      refine lv_iload hx hb dX5_shape_108 (lv_at hl 7 rfl) ?_
                      refine xiadd hx hb dX5_shape_110 ?_
                      refine xiald (j := (24 * ag) + k) (q0 := 2) (t0 := 0) hx hb hK1 hP rfl rfl (by omega) (by decide) dX5_shape_111 ?_
                      refine xtop (y := (M 2 ((24 * ag) + k))) (by simp only [hM_1]; rfl) ?_
                      refine lv_iload hx hb dX5_shape_112 (lv_at hl 5 rfl) ?_
                      refine xcalli (va_runS (As := [.int (M 2 ((24 * ag) + k)), .int (nI j)]) (rest := []) ⟨hx, hb, hml, hown, hts⟩ (c_X5_has l (M 2 ((24 * ag) + k)) j (by omega)) (va_cwS 2 hts gX5_shape_X5_has rfl rfl rfl (by decide +kernel) ⟨Nat.le_of_ble_eq_true rfl, Nat.le_of_ble_eq_true rfl⟩) xpreN rfl rfl hl.1 rfl (lv_room (Nat.le_of_ble_eq_true rfl)) dX5_shape_114 ⟨Nat.le_of_ble_eq_true rfl, Nat.le_of_ble_eq_true rfl⟩) hS hP (fun H locs hP hS => ?_)
                      refine lv_if_eq (tgt := 124) hx hb dX5_shape_117 (by decide) (fun c117 => ?_) (fun c117 => ?_)
                      ·
                        replace c117 := bI_0 c117
                        refine lv_iconst (v := (nI 0)) hx hb dX5_shape_124 (by decide) ?_
                        refine lv_istore_n (lv' := [(3, .int (nI 0)), (0, .ref (b 0)), (1, .int (nI ag)), (2, .int (bI (allB (fun u => bt (M 2 (24 * ag + u)) u) (j + 1)))), (4, .int (bI (allB (fun u => allB (fun v => !bt (M 2 (24 * ag + u)) v || decide ((M 2 (24 * ag + v) &&& (M 2 (24 * ag + u) ^^^ (-1))) = 0)) n) j && allB (fun v => !bt (M 2 (24 * ag + j)) v || decide ((M 2 (24 * ag + v) &&& (M 2 (24 * ag + j) ^^^ (-1))) = 0)) k))), (5, .int (nI j)), (6, .int (M 2 (24 * ag + j))), (7, .int (nI k))]) hx hb dX5_shape_125 rfl hl (by decide) rfl (fun ls hl => ?_)
                        have e_10 : (nI 0) = (bI (allB (fun u => allB (fun v => !bt (M 2 (24 * ag + u)) v || bt (M 2 (24 * ag + v)) u) n) j && allB (fun v => !bt (M 2 (24 * ag + j)) v || bt (M 2 (24 * ag + v)) j) (k + 1))) := by first | (simp only [allB, ← Bool.and_assoc, c97, c117, c90, Bool.not_true, Bool.false_or, Bool.and_self]; rfl) | (simp only [allB, ← Bool.and_assoc, c97, c117, c90, Bool.not_true, Bool.false_or, Bool.and_false]; rfl) | (simp only [allB, ← Bool.and_assoc, c97, Bool.false_and]; rfl)
                        exact cut126    _ _ hP hS ls (lcons (lcons (lcons (lcons (lcons (lcons (lcons (lcons (lzero hl) hl 7 rfl rfl) hl 6 rfl rfl) hl 5 rfl rfl) hl 4 rfl rfl) hl 0 rfl (congrArg Value.int e_10)) hl 3 rfl rfl) hl 2 rfl rfl) hl 1 rfl rfl)
                      ·
                        replace c117 := bI_n0 c117
                        refine lv_iconst (v := (nI 1)) hx hb dX5_shape_120 (by decide) ?_
                        refine lv_goto (tgt := 125) hx hb dX5_shape_121 (by decide) ?_
                        refine lv_istore_n (lv' := [(3, .int (nI 1)), (0, .ref (b 0)), (1, .int (nI ag)), (2, .int (bI (allB (fun u => bt (M 2 (24 * ag + u)) u) (j + 1)))), (4, .int (bI (allB (fun u => allB (fun v => !bt (M 2 (24 * ag + u)) v || decide ((M 2 (24 * ag + v) &&& (M 2 (24 * ag + u) ^^^ (-1))) = 0)) n) j && allB (fun v => !bt (M 2 (24 * ag + j)) v || decide ((M 2 (24 * ag + v) &&& (M 2 (24 * ag + j) ^^^ (-1))) = 0)) k))), (5, .int (nI j)), (6, .int (M 2 (24 * ag + j))), (7, .int (nI k))]) hx hb dX5_shape_125 rfl hl (by decide) rfl (fun ls hl => ?_)
                        have e_11 : (nI 1) = (bI (allB (fun u => allB (fun v => !bt (M 2 (24 * ag + u)) v || bt (M 2 (24 * ag + v)) u) n) j && allB (fun v => !bt (M 2 (24 * ag + j)) v || bt (M 2 (24 * ag + v)) j) (k + 1))) := by first | (simp only [allB, ← Bool.and_assoc, c97, c117, c90, Bool.not_true, Bool.false_or, Bool.and_self]; rfl) | (simp only [allB, ← Bool.and_assoc, c97, c117, c90, Bool.not_true, Bool.false_or, Bool.and_false]; rfl) | (simp only [allB, ← Bool.and_assoc, c97, Bool.false_and]; rfl)
                        exact cut126    _ _ hP hS ls (lcons (lcons (lcons (lcons (lcons (lcons (lcons (lcons (lzero hl) hl 7 rfl rfl) hl 6 rfl rfl) hl 5 rfl rfl) hl 4 rfl rfl) hl 0 rfl (congrArg Value.int e_11)) hl 3 rfl rfl) hl 2 rfl rfl) hl 1 rfl rfl)
                  ·
                    replace c90 := bI_0 c90
                    refine lv_goto (tgt := 158) hx hb dX5_shape_93 (by decide) ?_
                    have e_12 : (bI (allB (fun u => allB (fun v => !bt (M 2 (24 * ag + u)) v || decide ((M 2 (24 * ag + v) &&& (M 2 (24 * ag + u) ^^^ (-1))) = 0)) n) j && allB (fun v => !bt (M 2 (24 * ag + j)) v || decide ((M 2 (24 * ag + v) &&& (M 2 (24 * ag + j) ^^^ (-1))) = 0)) k)) = (bI (allB (fun u => allB (fun v => !bt (M 2 (24 * ag + u)) v || decide ((M 2 (24 * ag + v) &&& (M 2 (24 * ag + u) ^^^ (-1))) = 0)) n) j && allB (fun v => !bt (M 2 (24 * ag + j)) v || decide ((M 2 (24 * ag + v) &&& (M 2 (24 * ag + j) ^^^ (-1))) = 0)) (k + 1))) := by first | (simp only [allB, c90, Bool.not_false, Bool.true_or, Bool.and_true]; done) | (simp only [allB, c90, c128, decide_eq_true c148, decide_true, Bool.not_true, Bool.false_or, Bool.and_true]; rfl) | (simp only [allB, c90, c128, decide_eq_false c148, Bool.not_true, Bool.false_or, Bool.and_false]; rfl) | (simp only [allB, ← Bool.and_assoc, c128, Bool.false_and]; rfl)
                    have e_13 : (bI (allB (fun u => allB (fun v => !bt (M 2 (24 * ag + u)) v || bt (M 2 (24 * ag + v)) u) n) j && allB (fun v => !bt (M 2 (24 * ag + j)) v || bt (M 2 (24 * ag + v)) j) k)) = (bI (allB (fun u => allB (fun v => !bt (M 2 (24 * ag + u)) v || bt (M 2 (24 * ag + v)) u) n) j && allB (fun v => !bt (M 2 (24 * ag + j)) v || bt (M 2 (24 * ag + v)) j) (k + 1))) := by first | rfl | (simp only [allB, c90, Bool.not_false, Bool.true_or, Bool.and_true]; done)
                    exact cut158    _ _ hP hS ls (lcons (lcons (lcons (lcons (lcons (lcons (lcons (lcons (lzero hl) hl 7 rfl rfl) hl 6 rfl rfl) hl 5 rfl rfl) hl 4 rfl (congrArg Value.int e_12)) hl 3 rfl (congrArg Value.int e_13)) hl 2 rfl rfl) hl 1 rfl rfl) hl 0 rfl rfl)
            have e_14 : (bI (allB (fun u => allB (fun v => !bt (M 2 (24 * ag + u)) v || decide ((M 2 (24 * ag + v) &&& (M 2 (24 * ag + u) ^^^ (-1))) = 0)) n) j)) = (bI (allB (fun u => allB (fun v => !bt (M 2 (24 * ag + u)) v || decide ((M 2 (24 * ag + v) &&& (M 2 (24 * ag + u) ^^^ (-1))) = 0)) n) j && allB (fun v => !bt (M 2 (24 * ag + j)) v || decide ((M 2 (24 * ag + v) &&& (M 2 (24 * ag + j) ^^^ (-1))) = 0)) 0)) := by rw [show allB _ 0 = true from rfl, Bool.and_true]
            have e_15 : (bI (allB (fun u => allB (fun v => !bt (M 2 (24 * ag + u)) v || bt (M 2 (24 * ag + v)) u) n) j)) = (bI (allB (fun u => allB (fun v => !bt (M 2 (24 * ag + u)) v || bt (M 2 (24 * ag + v)) u) n) j && allB (fun v => !bt (M 2 (24 * ag + j)) v || bt (M 2 (24 * ag + v)) j) 0)) := by rw [show allB _ 0 = true from rfl, Bool.and_true]
            exact cut74 (n + 1) 0 (by omega) (by omega) _ _ hP hS ls (lcons (lcons (lcons (lcons (lcons (lcons (lcons (lcons (lzero hl) hl 0 rfl rfl) hl 7 rfl rfl) hl 6 rfl rfl) hl 5 rfl (congrArg Value.int e_14)) hl 4 rfl (congrArg Value.int e_15)) hl 3 rfl rfl) hl 2 rfl rfl) hl 1 rfl rfl)
          refine lv_iload_n hx hb dX5_shape_51 rfl (lv_at hl 3 rfl) ?_
          refine lv_if_eq (tgt := 69) hx hb dX5_shape_52 (by decide) (fun c52 => ?_) (fun c52 => ?_)
          ·
            replace c52 := bI_0 c52
            refine lv_iconst (v := (nI 0)) hx hb dX5_shape_69 (by decide) ?_
            refine lv_istore_n (lv' := [(2, .int (nI 0)), (6, .int (M 2 ((24 * ag) + j))), (0, .ref (b 0)), (1, .int (nI ag)), (3, .int (bI (allB (fun u => allB (fun v => !bt (M 2 (24 * ag + u)) v || bt (M 2 (24 * ag + v)) u) n) j))), (4, .int (bI (allB (fun u => allB (fun v => !bt (M 2 (24 * ag + u)) v || decide ((M 2 (24 * ag + v) &&& (M 2 (24 * ag + u) ^^^ (-1))) = 0)) n) j))), (5, .int (nI j))]) hx hb dX5_shape_70 rfl hl (by decide) rfl (fun ls hl => ?_)
            have e_16 : (M 2 ((24 * ag) + j)) = (M 2 (24 * ag + j)) := by first | rfl | assumption
            have e_17 : (nI 0) = (bI (allB (fun u => bt (M 2 (24 * ag + u)) u) (j + 1))) := by first | (simp only [allB, c52, c62]; rfl) | (simp only [allB, c52, Bool.false_and]; rfl)
            exact cut71    _ _ hP hS ls (lcons (lcons (lcons (lcons (lcons (lcons (lcons (lzero hl) hl 1 rfl (congrArg Value.int e_16)) hl 6 rfl rfl) hl 5 rfl rfl) hl 4 rfl rfl) hl 0 rfl (congrArg Value.int e_17)) hl 3 rfl rfl) hl 2 rfl rfl)
          ·
            replace c52 := bI_n0 c52
            refine lv_iload hx hb dX5_shape_55 (lv_at hl 0 rfl) ?_
            refine lv_iload hx hb dX5_shape_57 (lv_at hl 6 rfl) ?_
            refine xcalli (va_runS (As := [.int (M 2 ((24 * ag) + j)), .int (nI j)]) (rest := []) ⟨hx, hb, hml, hown, hts⟩ (c_X5_has l (M 2 ((24 * ag) + j)) j (by omega)) (va_cwS 2 hts gX5_shape_X5_has rfl rfl rfl (by decide +kernel) ⟨Nat.le_of_ble_eq_true rfl, Nat.le_of_ble_eq_true rfl⟩) xpreN rfl rfl hl.1 rfl (lv_room (Nat.le_of_ble_eq_true rfl)) dX5_shape_59 ⟨Nat.le_of_ble_eq_true rfl, Nat.le_of_ble_eq_true rfl⟩) hS hP (fun H locs hP hS => ?_)
            refine lv_if_eq (tgt := 69) hx hb dX5_shape_62 (by decide) (fun c62 => ?_) (fun c62 => ?_)
            ·
              replace c62 := bI_0 c62
              refine lv_iconst (v := (nI 0)) hx hb dX5_shape_69 (by decide) ?_
              refine lv_istore_n (lv' := [(2, .int (nI 0)), (6, .int (M 2 ((24 * ag) + j))), (0, .ref (b 0)), (1, .int (nI ag)), (3, .int (bI (allB (fun u => allB (fun v => !bt (M 2 (24 * ag + u)) v || bt (M 2 (24 * ag + v)) u) n) j))), (4, .int (bI (allB (fun u => allB (fun v => !bt (M 2 (24 * ag + u)) v || decide ((M 2 (24 * ag + v) &&& (M 2 (24 * ag + u) ^^^ (-1))) = 0)) n) j))), (5, .int (nI j))]) hx hb dX5_shape_70 rfl hl (by decide) rfl (fun ls hl => ?_)
              have e_18 : (M 2 ((24 * ag) + j)) = (M 2 (24 * ag + j)) := by first | rfl | assumption
              have e_19 : (nI 0) = (bI (allB (fun u => bt (M 2 (24 * ag + u)) u) (j + 1))) := by first | (simp only [allB, c52, c62]; rfl) | (simp only [allB, c52, Bool.false_and]; rfl)
              exact cut71    _ _ hP hS ls (lcons (lcons (lcons (lcons (lcons (lcons (lcons (lzero hl) hl 1 rfl (congrArg Value.int e_18)) hl 6 rfl rfl) hl 5 rfl rfl) hl 4 rfl rfl) hl 0 rfl (congrArg Value.int e_19)) hl 3 rfl rfl) hl 2 rfl rfl)
            ·
              replace c62 := bI_n0 c62
              refine lv_iconst (v := (nI 1)) hx hb dX5_shape_65 (by decide) ?_
              refine lv_goto (tgt := 70) hx hb dX5_shape_66 (by decide) ?_
              refine lv_istore_n (lv' := [(2, .int (nI 1)), (6, .int (M 2 ((24 * ag) + j))), (0, .ref (b 0)), (1, .int (nI ag)), (3, .int (bI (allB (fun u => allB (fun v => !bt (M 2 (24 * ag + u)) v || bt (M 2 (24 * ag + v)) u) n) j))), (4, .int (bI (allB (fun u => allB (fun v => !bt (M 2 (24 * ag + u)) v || decide ((M 2 (24 * ag + v) &&& (M 2 (24 * ag + u) ^^^ (-1))) = 0)) n) j))), (5, .int (nI j))]) hx hb dX5_shape_70 rfl hl (by decide) rfl (fun ls hl => ?_)
              have e_20 : (M 2 ((24 * ag) + j)) = (M 2 (24 * ag + j)) := by first | rfl | assumption
              have e_21 : (nI 1) = (bI (allB (fun u => bt (M 2 (24 * ag + u)) u) (j + 1))) := by first | (simp only [allB, c52, c62]; rfl) | (simp only [allB, c52, Bool.false_and]; rfl)
              exact cut71    _ _ hP hS ls (lcons (lcons (lcons (lcons (lcons (lcons (lcons (lzero hl) hl 1 rfl (congrArg Value.int e_20)) hl 6 rfl rfl) hl 5 rfl rfl) hl 4 rfl rfl) hl 0 rfl (congrArg Value.int e_21)) hl 3 rfl rfl) hl 2 rfl rfl)
    have e_22 : (nI 1) = (bI (allB (fun u => allB (fun v => !bt (M 2 (24 * ag + u)) v || decide ((M 2 (24 * ag + v) &&& (M 2 (24 * ag + u) ^^^ (-1))) = 0)) n) 0)) := by rfl
    have e_23 : (nI 1) = (bI (allB (fun u => allB (fun v => !bt (M 2 (24 * ag + u)) v || bt (M 2 (24 * ag + v)) u) n) 0)) := by rfl
    have e_24 : (nI 1) = (bI (allB (fun u => bt (M 2 (24 * ag + u)) u) 0)) := by rfl
    exact cut28 (n + 1) 0 (by omega) (by omega) _ _ hP hS ls (lcons (lcons (lcons (lcons (lcons (lcons (lzero hl) hl 0 rfl rfl) hl 1 rfl (congrArg Value.int e_22)) hl 2 rfl (congrArg Value.int e_23)) hl 3 rfl (congrArg Value.int e_24)) hl 5 rfl rfl) hl 4 rfl rfl)
  ·
    replace c9 := bI_0 c9
    refine lv_aload_n hx hb dX5_shape_12 rfl (lv_at hl 0 rfl) ?_
    refine lv_iconst (v := (nI 1)) hx hb dX5_shape_13 (by decide) ?_
    refine xcallwi (va_runV (As := [.int (nI 1)]) (rest := []) ⟨hx, hb, hml, hown, hts⟩ (c_X5_no l D cs b M_1 _ hI (nI 1)) (cwV 1 hts gX5_shape_X5_no rfl rfl rfl (by decide +kernel) ⟨Nat.le_of_ble_eq_true rfl, Nat.le_of_ble_eq_true rfl⟩) (xpreVs hP hK (ci := 5) 0 rfl rfl) rfl rfl hl.1 rfl (lv_room (Nat.le_of_ble_eq_true rfl)) dX5_shape_14 ⟨Nat.le_of_ble_eq_true rfl, Nat.le_of_ble_eq_true rfl⟩) hS (kAle hS.1) (fun u_25 H locs hu_25 hP _ _ hS => ?_)
    have hP : va_P D vwCl (rc cs b (wr M_1 0 0 (nI 1))) H := hP
    obtain ⟨M_26, hM_26⟩ : ∃ z, z = wr M_1 0 0 (nI 1) := ⟨_, rfl⟩
    rw [← hM_26] at hP
    have hk_27 : M_26 0 1 = nI n := by rw [hM_26]; exact (wr_ne (Or.inr (by decide))).trans hk_2
    subst hQ
    have hMfin : M_26 = wr M 0 0 (if isIn 4 x = true then nI 0 else nI 1) := by simp only [wr_wr, if_true, if_false, Bool.false_eq_true, Nat.one_ne_zero, hM_1, c9, hM_26]
    rw [hMfin] at hP
    have hrel : True := by trivial
    have hfin : (nI 0) = (if isIn 4 x = true then nI ((if reflR M n x.toNatClampNeg = true then 1 else 0) + (if symR M n x.toNatClampNeg = true then 2 else 0) + (if transR M n x.toNatClampNeg = true then 4 else 0)) else nI 0) := by simp only [wr_wr, if_true, if_false, Bool.false_eq_true, Nat.one_ne_zero, hM_1, c9, hM_26]
    exact W.iret hx hb hr (fun t ht hW => ⟨⟨_, (), rfl, ⟨hfin, hrel⟩, by rw [← ht] at hP; exact hP⟩, hS.F ht⟩) hS.2.2 dX5_shape_17

def crtR (M : Nat → Nat → Int32) (nf kd : Nat) (x y d v : Int32) : Nat → Nat → Int32 := wr (wr (wr (wr (wr (wr M 3 nf (nI kd)) 4 nf x) 5 nf y) 6 nf d) 7 nf v) 0 3 (nI (nf + 1))
def crtT (kd : Nat) : Int32 := if kd = 4 ∨ kd = 5 ∨ kd = 6 then nI 3 else nI 2
def crt (M : Nat → Nat → Int32) (nf kd : Nat) (x y d v : Int32) : Nat → Nat → Int32 := if nf = 40 then wr M 0 0 (crtT kd) else crtR M nf kd x y d v

set_option maxHeartbeats 4000000 in
set_option maxRecDepth 100000 in
theorem c_X5_create (l : Launch) (D : va_G) (cs : Nat → ClassId) (b : Nat → Nat) (M : Nat → Nat → Int32) (sz : Nat) (hI : kI b 12)  (nf : Nat) (kd : Nat) (x : Int32) (y : Int32) (d : Int32) (v : Int32) (hkd : kd < 7) (hfc : M 0 3 = nI nf) (hf40 : nf ≤ 40) : Met l yX5_create wsX5_create ({ frames := 1, cells := 0, slots := 0, locals := 21 } : Room) (va_Pc [.ref (b 0), .int (nI kd), .int x, .int y, .int d, .int v] (XBs D cs (rc cs b M) sz)) (va_Qi (fun r (u : Unit) => r = (if nf = 40 then nI 0 else nI nf) ∧ True) (fun (u : Unit) t => va_P D vwCl (rc cs b (crt M nf kd x y d v)) t.heap) (kA b 12 sz)) 0 0 (kA b 12 sz) := by
  refine Met.ofW (cc := cX5_create) (maxL := 6) (ret := (some .int)) (by decide) rfl ?_
  intro p e s m args below meth c s₁ B hml hv
  obtain ⟨rfl, hsz, hP, hK⟩ := hv
  have hx := B.exec
  have hb := B.bytes
  have hr := B.returns
  have hts := atoms_spec (ws := wsX5_create) B.pre
  have hown : s.vm.findClass RX5 = some m.cls := findClass_of_methodNamed B.named
  have hlocks := B.notSynchronized
  have hK1 := hK.1
  have hinX5 : ∀ w ∈ wsX50, w ∈ wsX5_create := fun w h => List.mem_cons_of_mem _ (List.mem_append_right _ h)
  subst hsz
  have hS : va_S (kA b 12 s.heap.size) s.heap s.heap [] := va_S.rf
  have hl := lv_entry ([.ref (b 0), .int (nI kd), .int x, .int y, .int d, .int v]) (n := 6) (Nat.le_of_ble_eq_true rfl)
  rw [lg_entry_eq]
  generalize (lg_sl ([.ref (b 0), .int (nI kd), .int x, .int y, .int d, .int v]) ++ List.replicate (6 - (lg_sl ([.ref (b 0), .int (nI kd), .int x, .int y, .int d, .int v])).length) Slot.unset).toArray = ls at hl ⊢
  have hl : lv_has ls 6 [(0, .ref (b 0)), (1, .int (nI kd)), (2, .int x), (3, .int y), (4, .int d), (5, .int v)] := hl
  refine W_Q (fun Q hQ => ?_)
  show W p l e ({ frames := 1, cells := 0, slots := 0, locals := 21 } : Room) s m ([.ref (b 0), .int (nI kd), .int x, .int y, .int d, .int v] : List Value).toArray below meth c s.heap [] 0 0 Q (F0 m 0 ls [])
  refine lv_aload_n hx hb dX5_create_0 rfl (lv_at hl 0 rfl) ?_
  refine va_get (D := D) (ci := 5) (v := .int (M 0 3)) (C := RX5) (T := TX5) (N := 15) hx hb hts hinX5 hown hK1 hP 0 rfl rfl 5 (by decide) (hts (.fieldLink RX5 51 "KnowledgeModelModel" "formulas" "I") (List.mem_of_getElem? (i := 1) rfl)) (fun _ h9 => h9) rfl dX5_create_1 ?_
  refine xtop (y := nI nf) (hfc) ?_
  refine lv_bipush (v := (nI 40)) hx hb dX5_create_4 (by decide) ?_
  refine lv_icmp_ne (tgt := 35) hx hb dX5_create_6 (by decide) (fun c6 => ?_) (fun c6 => ?_)
  ·
    replace c6 : ¬ nf = 40 := k_net c6 (by omega) (by omega)
    refine lv_aload_n hx hb dX5_create_35 rfl (lv_at hl 0 rfl) ?_
    refine va_get (D := D) (ci := 5) (v := .ref (b 3)) (C := RX5) (T := TX5) (N := 15) hx hb hts hinX5 hown hK1 hP 0 rfl rfl 6 (by decide) (hts (.fieldLink RX5 16 "KnowledgeModelModel" "kinds" "[I") (List.mem_of_getElem? (i := 2) rfl)) (fun _ h9 => h9) rfl dX5_create_36 ?_
    refine lv_aload_n hx hb dX5_create_39 rfl (lv_at hl 0 rfl) ?_
    refine va_get (D := D) (ci := 5) (v := .int (M 0 3)) (C := RX5) (T := TX5) (N := 15) hx hb hts hinX5 hown hK1 hP 0 rfl rfl 5 (by decide) (hts (.fieldLink RX5 51 "KnowledgeModelModel" "formulas" "I") (List.mem_of_getElem? (i := 1) rfl)) (fun _ h9 => h9) rfl dX5_create_40 ?_
    refine xtop (y := nI nf) (hfc) ?_
    refine lv_iload_n hx hb dX5_create_43 rfl (lv_at hl 1 rfl) ?_
    refine xiast (j := nf) (q0 := 3) (t0 := 0) (ws' := rc cs b (wr M 3 nf (nI kd))) hx hb hK1 hP (rD hI) hS rfl rfl (by omega) (by decide) rs_3 dX5_create_44 (fun H locs hP hS => ?_)
    obtain ⟨M_1, hM_1⟩ : ∃ z, z = wr M 3 nf (nI kd) := ⟨_, rfl⟩
    rw [← hM_1] at hP
    have hk_2 : M_1 0 3 = nI nf := by rw [hM_1]; exact (wr_ne (Or.inl (by omega))).trans hfc
    refine lv_aload_n hx hb dX5_create_45 rfl (lv_at hl 0 rfl) ?_
    refine va_get (D := D) (ci := 5) (v := .ref (b 4)) (C := RX5) (T := TX5) (N := 15) hx hb hts hinX5 hown hK1 hP 0 rfl rfl 7 (by decide) (hts (.fieldLink RX5 19 "KnowledgeModelModel" "firsts" "[I") (List.mem_of_getElem? (i := 3) rfl)) (fun _ h9 => h9) rfl dX5_create_46 ?_
    refine lv_aload_n hx hb dX5_create_49 rfl (lv_at hl 0 rfl) ?_
    refine va_get (D := D) (ci := 5) (v := .int (M_1 0 3)) (C := RX5) (T := TX5) (N := 15) hx hb hts hinX5 hown hK1 hP 0 rfl rfl 5 (by decide) (hts (.fieldLink RX5 51 "KnowledgeModelModel" "formulas" "I") (List.mem_of_getElem? (i := 1) rfl)) (fun _ h9 => h9) rfl dX5_create_50 ?_
    refine xtop (y := nI nf) (hk_2) ?_
    refine lv_iload_n hx hb dX5_create_53 rfl (lv_at hl 2 rfl) ?_
    refine xiast (j := nf) (q0 := 4) (t0 := 0) (ws' := rc cs b (wr M_1 4 nf x)) hx hb hK1 hP (rD hI) hS rfl rfl (by omega) (by decide) rs_4 dX5_create_54 (fun H locs hP hS => ?_)
    obtain ⟨M_3, hM_3⟩ : ∃ z, z = wr M_1 4 nf x := ⟨_, rfl⟩
    rw [← hM_3] at hP
    have hk_4 : M_3 0 3 = nI nf := by rw [hM_3]; exact (wr_ne (Or.inl (by omega))).trans hk_2
    refine lv_aload_n hx hb dX5_create_55 rfl (lv_at hl 0 rfl) ?_
    refine va_get (D := D) (ci := 5) (v := .ref (b 5)) (C := RX5) (T := TX5) (N := 15) hx hb hts hinX5 hown hK1 hP 0 rfl rfl 8 (by decide) (hts (.fieldLink RX5 22 "KnowledgeModelModel" "seconds" "[I") (List.mem_of_getElem? (i := 4) rfl)) (fun _ h9 => h9) rfl dX5_create_56 ?_
    refine lv_aload_n hx hb dX5_create_59 rfl (lv_at hl 0 rfl) ?_
    refine va_get (D := D) (ci := 5) (v := .int (M_3 0 3)) (C := RX5) (T := TX5) (N := 15) hx hb hts hinX5 hown hK1 hP 0 rfl rfl 5 (by decide) (hts (.fieldLink RX5 51 "KnowledgeModelModel" "formulas" "I") (List.mem_of_getElem? (i := 1) rfl)) (fun _ h9 => h9) rfl dX5_create_60 ?_
    refine xtop (y := nI nf) (hk_4) ?_
    refine lv_iload_n hx hb dX5_create_63 rfl (lv_at hl 3 rfl) ?_
    refine xiast (j := nf) (q0 := 5) (t0 := 0) (ws' := rc cs b (wr M_3 5 nf y)) hx hb hK1 hP (rD hI) hS rfl rfl (by omega) (by decide) rs_5 dX5_create_64 (fun H locs hP hS => ?_)
    obtain ⟨M_5, hM_5⟩ : ∃ z, z = wr M_3 5 nf y := ⟨_, rfl⟩
    rw [← hM_5] at hP
    have hk_6 : M_5 0 3 = nI nf := by rw [hM_5]; exact (wr_ne (Or.inl (by omega))).trans hk_4
    refine lv_aload_n hx hb dX5_create_65 rfl (lv_at hl 0 rfl) ?_
    refine va_get (D := D) (ci := 5) (v := .ref (b 6)) (C := RX5) (T := TX5) (N := 15) hx hb hts hinX5 hown hK1 hP 0 rfl rfl 9 (by decide) (hts (.fieldLink RX5 25 "KnowledgeModelModel" "depths" "[I") (List.mem_of_getElem? (i := 5) rfl)) (fun _ h9 => h9) rfl dX5_create_66 ?_
    refine lv_aload_n hx hb dX5_create_69 rfl (lv_at hl 0 rfl) ?_
    refine va_get (D := D) (ci := 5) (v := .int (M_5 0 3)) (C := RX5) (T := TX5) (N := 15) hx hb hts hinX5 hown hK1 hP 0 rfl rfl 5 (by decide) (hts (.fieldLink RX5 51 "KnowledgeModelModel" "formulas" "I") (List.mem_of_getElem? (i := 1) rfl)) (fun _ h9 => h9) rfl dX5_create_70 ?_
    refine xtop (y := nI nf) (hk_6) ?_
    refine lv_iload hx hb dX5_create_73 (lv_at hl 4 rfl) ?_
    refine xiast (j := nf) (q0 := 6) (t0 := 0) (ws' := rc cs b (wr M_5 6 nf d)) hx hb hK1 hP (rD hI) hS rfl rfl (by omega) (by decide) rs_6 dX5_create_75 (fun H locs hP hS => ?_)
    obtain ⟨M_7, hM_7⟩ : ∃ z, z = wr M_5 6 nf d := ⟨_, rfl⟩
    rw [← hM_7] at hP
    have hk_8 : M_7 0 3 = nI nf := by rw [hM_7]; exact (wr_ne (Or.inl (by omega))).trans hk_6
    refine lv_aload_n hx hb dX5_create_76 rfl (lv_at hl 0 rfl) ?_
    refine va_get (D := D) (ci := 5) (v := .ref (b 7)) (C := RX5) (T := TX5) (N := 15) hx hb hts hinX5 hown hK1 hP 0 rfl rfl 10 (by decide) (hts (.fieldLink RX5 28 "KnowledgeModelModel" "nestings" "[I") (List.mem_of_getElem? (i := 6) rfl)) (fun _ h9 => h9) rfl dX5_create_77 ?_
    refine lv_aload_n hx hb dX5_create_80 rfl (lv_at hl 0 rfl) ?_
    refine va_get (D := D) (ci := 5) (v := .int (M_7 0 3)) (C := RX5) (T := TX5) (N := 15) hx hb hts hinX5 hown hK1 hP 0 rfl rfl 5 (by decide) (hts (.fieldLink RX5 51 "KnowledgeModelModel" "formulas" "I") (List.mem_of_getElem? (i := 1) rfl)) (fun _ h9 => h9) rfl dX5_create_81 ?_
    refine xtop (y := nI nf) (hk_8) ?_
    refine lv_iload hx hb dX5_create_84 (lv_at hl 5 rfl) ?_
    refine xiast (j := nf) (q0 := 7) (t0 := 0) (ws' := rc cs b (wr M_7 7 nf v)) hx hb hK1 hP (rD hI) hS rfl rfl (by omega) (by decide) rs_7 dX5_create_86 (fun H locs hP hS => ?_)
    obtain ⟨M_9, hM_9⟩ : ∃ z, z = wr M_7 7 nf v := ⟨_, rfl⟩
    rw [← hM_9] at hP
    have hk_10 : M_9 0 3 = nI nf := by rw [hM_9]; exact (wr_ne (Or.inl (by omega))).trans hk_8
    refine lv_aload_n hx hb dX5_create_87 rfl (lv_at hl 0 rfl) ?_
    refine lv_dup hx hb dX5_create_88 rfl ?_
    refine va_get (D := D) (ci := 5) (v := .int (M_9 0 3)) (C := RX5) (T := TX5) (N := 15) hx hb hts hinX5 hown hK1 hP 0 rfl rfl 5 (by decide) (hts (.fieldLink RX5 51 "KnowledgeModelModel" "formulas" "I") (List.mem_of_getElem? (i := 1) rfl)) (fun _ h9 => h9) rfl dX5_create_89 ?_
    refine xtop (y := nI nf) (hk_10) ?_
    refine lv_iconst (v := (nI 1)) hx hb dX5_create_92 (by decide) ?_
    refine xiadd hx hb dX5_create_93 ?_
    refine xput (D := D) (ci := 5) (v := .int (nI (nf + 1))) (ty := .int) (C := RX5) (T := TX5) (N := 15) (ws' := rc cs b (wr M_9 0 3 (nI (nf + 1)))) hx hb hts hinX5 tyX5 tyX5_ok nmX5 hown hK1 hP (rD hI) hS 0 rfl rfl 5 (by decide) (hts (.fieldLink RX5 51 "KnowledgeModelModel" "formulas" "I") (List.mem_of_getElem? (i := 1) rfl)) (fun _ h9 => h9) rfl (by decide +kernel) rfl rfl (Nat.le_of_ble_eq_true rfl) rfl dX5_create_94 (fun H locs hP hS => ?_)
    obtain ⟨M_11, hM_11⟩ : ∃ z, z = wr M_9 0 3 (nI (nf + 1)) := ⟨_, rfl⟩
    rw [← hM_11] at hP
    have hk_12 : M_11 0 3 = nI (nf + 1) := by rw [hM_11]; exact wr_same
    refine lv_aload_n hx hb dX5_create_97 rfl (lv_at hl 0 rfl) ?_
    refine va_get (D := D) (ci := 5) (v := .int (M_11 0 3)) (C := RX5) (T := TX5) (N := 15) hx hb hts hinX5 hown hK1 hP 0 rfl rfl 5 (by decide) (hts (.fieldLink RX5 51 "KnowledgeModelModel" "formulas" "I") (List.mem_of_getElem? (i := 1) rfl)) (fun _ h9 => h9) rfl dX5_create_98 ?_
    refine xtop (y := nI (nf + 1)) (hk_12) ?_
    refine lv_iconst (v := (nI 1)) hx hb dX5_create_101 (by decide) ?_
    refine lv_isub hx hb dX5_create_102 ?_
    subst hQ
    have hMfin : M_11 = crt M nf kd x y d v := by unfold crt crtR; rw [if_neg c6]; simp only [fo_0, c6, hM_1, hM_3, hM_5, hM_7, hM_9, hM_11]
    rw [hMfin] at hP
    have hrel : True := by trivial
    have hfin : ((nI (nf + 1)) - (nI 1)) = (if nf = 40 then nI 0 else nI nf) := by rw [if_neg c6]; exact nI_pred nf
    exact W.iret hx hb hr (fun t ht hW => ⟨⟨_, (), rfl, ⟨hfin, hrel⟩, by rw [← ht] at hP; exact hP⟩, hS.F ht⟩) hS.2.2 dX5_create_103
  ·
    replace c6 : nf = 40 := k_nef c6 (by omega) (by omega)
    refine lv_aload_n hx hb dX5_create_9 rfl (lv_at hl 0 rfl) ?_
    refine lv_iload_n hx hb dX5_create_10 rfl (lv_at hl 1 rfl) ?_
    refine lv_iconst (v := (nI 4)) hx hb dX5_create_11 (by decide) ?_
    refine lv_icmp_eq (tgt := 26) hx hb dX5_create_12 (by decide) (fun c12 => ?_) (fun c12 => ?_)
    ·
      replace c12 : kd = 4 := k_eqt c12 (by omega) (by omega)
      refine lv_iconst (v := (nI 3)) hx hb dX5_create_26 (by decide) ?_
      refine lv_goto (tgt := 31) hx hb dX5_create_27 (by decide) ?_
      refine xcallwi (va_runV (As := [.int (nI 3)]) (rest := []) ⟨hx, hb, hml, hown, hts⟩ (c_X5_no l D cs b M _ hI (nI 3)) (cwV 1 hts gX5_create_X5_no rfl rfl rfl (by decide +kernel) ⟨Nat.le_of_ble_eq_true rfl, Nat.le_of_ble_eq_true rfl⟩) (xpreVs hP hK (ci := 5) 0 rfl rfl) rfl rfl hl.1 rfl (lv_room (Nat.le_of_ble_eq_true rfl)) dX5_create_31 ⟨Nat.le_of_ble_eq_true rfl, Nat.le_of_ble_eq_true rfl⟩) hS (kAle hS.1) (fun u_13 H locs hu_13 hP _ _ hS => ?_)
      have hP : va_P D vwCl (rc cs b (wr M 0 0 (nI 3))) H := hP
      obtain ⟨M_14, hM_14⟩ : ∃ z, z = wr M 0 0 (nI 3) := ⟨_, rfl⟩
      rw [← hM_14] at hP
      have hk_17 : M_14 0 3 = nI nf := by rw [hM_14]; exact (wr_ne (Or.inr (by decide))).trans hfc
      subst hQ
      have hMfin : M_14 = crt M nf kd x y d v := by unfold crt crtT; rw [if_pos c6]; first | (rw [if_pos (Or.inl c12)]; simp only [fo_0, c6, c12, hM_14]) | (rw [if_pos (Or.inr (Or.inl c17))]; simp only [fo_0, c6, c12, hM_14]) | (rw [if_pos (Or.inr (Or.inr c23))]; simp only [fo_0, c6, c12, hM_14]) | (rw [if_neg (by omega)]; simp only [fo_0, c6, c12, hM_14])
      rw [hMfin] at hP
      have hrel : True := by trivial
      have hfin : (nI 0) = (if nf = 40 then nI 0 else nI nf) := by rw [if_pos c6]
      exact W.iret hx hb hr (fun t ht hW => ⟨⟨_, (), rfl, ⟨hfin, hrel⟩, by rw [← ht] at hP; exact hP⟩, hS.F ht⟩) hS.2.2 dX5_create_34
    ·
      replace c12 : ¬ kd = 4 := k_eqf c12 (by omega) (by omega)
      refine lv_iload_n hx hb dX5_create_15 rfl (lv_at hl 1 rfl) ?_
      refine lv_iconst (v := (nI 5)) hx hb dX5_create_16 (by decide) ?_
      refine lv_icmp_eq (tgt := 26) hx hb dX5_create_17 (by decide) (fun c17 => ?_) (fun c17 => ?_)
      ·
        replace c17 : kd = 5 := k_eqt c17 (by omega) (by omega)
        refine lv_iconst (v := (nI 3)) hx hb dX5_create_26 (by decide) ?_
        refine lv_goto (tgt := 31) hx hb dX5_create_27 (by decide) ?_
        refine xcallwi (va_runV (As := [.int (nI 3)]) (rest := []) ⟨hx, hb, hml, hown, hts⟩ (c_X5_no l D cs b M _ hI (nI 3)) (cwV 1 hts gX5_create_X5_no rfl rfl rfl (by decide +kernel) ⟨Nat.le_of_ble_eq_true rfl, Nat.le_of_ble_eq_true rfl⟩) (xpreVs hP hK (ci := 5) 0 rfl rfl) rfl rfl hl.1 rfl (lv_room (Nat.le_of_ble_eq_true rfl)) dX5_create_31 ⟨Nat.le_of_ble_eq_true rfl, Nat.le_of_ble_eq_true rfl⟩) hS (kAle hS.1) (fun u_18 H locs hu_18 hP _ _ hS => ?_)
        have hP : va_P D vwCl (rc cs b (wr M 0 0 (nI 3))) H := hP
        obtain ⟨M_19, hM_19⟩ : ∃ z, z = wr M 0 0 (nI 3) := ⟨_, rfl⟩
        rw [← hM_19] at hP
        have hk_22 : M_19 0 3 = nI nf := by rw [hM_19]; exact (wr_ne (Or.inr (by decide))).trans hfc
        subst hQ
        have hMfin : M_19 = crt M nf kd x y d v := by unfold crt crtT; rw [if_pos c6]; first | (rw [if_pos (Or.inl c12)]; simp only [fo_0, c6, c12, c17, hM_19]) | (rw [if_pos (Or.inr (Or.inl c17))]; simp only [fo_0, c6, c12, c17, hM_19]) | (rw [if_pos (Or.inr (Or.inr c23))]; simp only [fo_0, c6, c12, c17, hM_19]) | (rw [if_neg (by omega)]; simp only [fo_0, c6, c12, c17, hM_19])
        rw [hMfin] at hP
        have hrel : True := by trivial
        have hfin : (nI 0) = (if nf = 40 then nI 0 else nI nf) := by rw [if_pos c6]
        exact W.iret hx hb hr (fun t ht hW => ⟨⟨_, (), rfl, ⟨hfin, hrel⟩, by rw [← ht] at hP; exact hP⟩, hS.F ht⟩) hS.2.2 dX5_create_34
      ·
        replace c17 : ¬ kd = 5 := k_eqf c17 (by omega) (by omega)
        refine lv_iload_n hx hb dX5_create_20 rfl (lv_at hl 1 rfl) ?_
        refine lv_bipush (v := (nI 6)) hx hb dX5_create_21 (by decide) ?_
        refine lv_icmp_ne (tgt := 30) hx hb dX5_create_23 (by decide) (fun c23 => ?_) (fun c23 => ?_)
        ·
          replace c23 : ¬ kd = 6 := k_net c23 (by omega) (by omega)
          refine lv_iconst (v := (nI 2)) hx hb dX5_create_30 (by decide) ?_
          refine xcallwi (va_runV (As := [.int (nI 2)]) (rest := []) ⟨hx, hb, hml, hown, hts⟩ (c_X5_no l D cs b M _ hI (nI 2)) (cwV 1 hts gX5_create_X5_no rfl rfl rfl (by decide +kernel) ⟨Nat.le_of_ble_eq_true rfl, Nat.le_of_ble_eq_true rfl⟩) (xpreVs hP hK (ci := 5) 0 rfl rfl) rfl rfl hl.1 rfl (lv_room (Nat.le_of_ble_eq_true rfl)) dX5_create_31 ⟨Nat.le_of_ble_eq_true rfl, Nat.le_of_ble_eq_true rfl⟩) hS (kAle hS.1) (fun u_23 H locs hu_23 hP _ _ hS => ?_)
          have hP : va_P D vwCl (rc cs b (wr M 0 0 (nI 2))) H := hP
          obtain ⟨M_24, hM_24⟩ : ∃ z, z = wr M 0 0 (nI 2) := ⟨_, rfl⟩
          rw [← hM_24] at hP
          have hk_27 : M_24 0 3 = nI nf := by rw [hM_24]; exact (wr_ne (Or.inr (by decide))).trans hfc
          subst hQ
          have hMfin : M_24 = crt M nf kd x y d v := by unfold crt crtT; rw [if_pos c6]; first | (rw [if_pos (Or.inl c12)]; simp only [fo_0, c6, c12, c17, c23, hM_24]) | (rw [if_pos (Or.inr (Or.inl c17))]; simp only [fo_0, c6, c12, c17, c23, hM_24]) | (rw [if_pos (Or.inr (Or.inr c23))]; simp only [fo_0, c6, c12, c17, c23, hM_24]) | (rw [if_neg (by omega)]; simp only [fo_0, c6, c12, c17, c23, hM_24])
          rw [hMfin] at hP
          have hrel : True := by trivial
          have hfin : (nI 0) = (if nf = 40 then nI 0 else nI nf) := by rw [if_pos c6]
          exact W.iret hx hb hr (fun t ht hW => ⟨⟨_, (), rfl, ⟨hfin, hrel⟩, by rw [← ht] at hP; exact hP⟩, hS.F ht⟩) hS.2.2 dX5_create_34
        ·
          replace c23 : kd = 6 := k_nef c23 (by omega) (by omega)
          refine lv_iconst (v := (nI 3)) hx hb dX5_create_26 (by decide) ?_
          refine lv_goto (tgt := 31) hx hb dX5_create_27 (by decide) ?_
          refine xcallwi (va_runV (As := [.int (nI 3)]) (rest := []) ⟨hx, hb, hml, hown, hts⟩ (c_X5_no l D cs b M _ hI (nI 3)) (cwV 1 hts gX5_create_X5_no rfl rfl rfl (by decide +kernel) ⟨Nat.le_of_ble_eq_true rfl, Nat.le_of_ble_eq_true rfl⟩) (xpreVs hP hK (ci := 5) 0 rfl rfl) rfl rfl hl.1 rfl (lv_room (Nat.le_of_ble_eq_true rfl)) dX5_create_31 ⟨Nat.le_of_ble_eq_true rfl, Nat.le_of_ble_eq_true rfl⟩) hS (kAle hS.1) (fun u_28 H locs hu_28 hP _ _ hS => ?_)
          have hP : va_P D vwCl (rc cs b (wr M 0 0 (nI 3))) H := hP
          obtain ⟨M_29, hM_29⟩ : ∃ z, z = wr M 0 0 (nI 3) := ⟨_, rfl⟩
          rw [← hM_29] at hP
          have hk_32 : M_29 0 3 = nI nf := by rw [hM_29]; exact (wr_ne (Or.inr (by decide))).trans hfc
          subst hQ
          have hMfin : M_29 = crt M nf kd x y d v := by unfold crt crtT; rw [if_pos c6]; first | (rw [if_pos (Or.inl c12)]; simp only [fo_0, c6, c12, c17, c23, hM_29]) | (rw [if_pos (Or.inr (Or.inl c17))]; simp only [fo_0, c6, c12, c17, c23, hM_29]) | (rw [if_pos (Or.inr (Or.inr c23))]; simp only [fo_0, c6, c12, c17, c23, hM_29]) | (rw [if_neg (by omega)]; simp only [fo_0, c6, c12, c17, c23, hM_29])
          rw [hMfin] at hP
          have hrel : True := by trivial
          have hfin : (nI 0) = (if nf = 40 then nI 0 else nI nf) := by rw [if_pos c6]
          exact W.iret hx hb hr (fun t ht hW => ⟨⟨_, (), rfl, ⟨hfin, hrel⟩, by rw [← ht] at hP; exact hP⟩, hS.F ht⟩) hS.2.2 dX5_create_34

set_option maxHeartbeats 4000000 in
set_option maxRecDepth 100000 in
theorem c_X5_atom (l : Launch) (D : va_G) (cs : Nat → ClassId) (b : Nat → Nat) (M : Nat → Nat → Int32) (sz : Nat) (hI : kI b 12)  (nf : Nat) (x : Int32) (hfc : M 0 3 = nI nf) (hf40 : nf ≤ 40) : Met l yX5_atom wsX5_atom ({ frames := 3, cells := 0, slots := 0, locals := 70 } : Room) (va_Pc [.ref (b 0), .int x] (XBs D cs (rc cs b M) sz)) (va_Qi (fun r (u : Unit) => r = (if isIn 6 x = true then (if nf = 40 then nI 0 else nI nf) else nI 0) ∧ True) (fun (u : Unit) t => va_P D vwCl (rc cs b ((if isIn 6 x = true then crt (wr M 0 0 (nI 0)) nf 0 x (-1) (nI 0) (nI 0) else wr M 0 0 (nI 1)))) t.heap) (kA b 12 sz)) 0 0 (kA b 12 sz) := by
  refine Met.ofW (cc := cX5_atom) (maxL := 2) (ret := (some .int)) (by decide) rfl ?_
  intro p e s m args below meth c s₁ B hml hv
  obtain ⟨rfl, hsz, hP, hK⟩ := hv
  have hx := B.exec
  have hb := B.bytes
  have hr := B.returns
  have hts := atoms_spec (ws := wsX5_atom) B.pre
  have hown : s.vm.findClass RX5 = some m.cls := findClass_of_methodNamed B.named
  have hlocks := B.notSynchronized
  have hK1 := hK.1
  have hinX5 : ∀ w ∈ wsX50, w ∈ wsX5_atom := fun w h => List.mem_cons_of_mem _ (List.mem_append_right _ h)
  subst hsz
  have hS : va_S (kA b 12 s.heap.size) s.heap s.heap [] := va_S.rf
  have hl := lv_entry ([.ref (b 0), .int x]) (n := 2) (Nat.le_of_ble_eq_true rfl)
  rw [lg_entry_eq]
  generalize (lg_sl ([.ref (b 0), .int x]) ++ List.replicate (2 - (lg_sl ([.ref (b 0), .int x])).length) Slot.unset).toArray = ls at hl ⊢
  have hl : lv_has ls 2 [(0, .ref (b 0)), (1, .int x)] := hl
  refine W_Q (fun Q hQ => ?_)
  show W p l e ({ frames := 3, cells := 0, slots := 0, locals := 70 } : Room) s m ([.ref (b 0), .int x] : List Value).toArray below meth c s.heap [] 0 0 Q (F0 m 0 ls [])
  refine lv_aload_n hx hb dX5_atom_0 rfl (lv_at hl 0 rfl) ?_
  refine lv_iconst (v := (nI 0)) hx hb dX5_atom_1 (by decide) ?_
  refine xput (D := D) (ci := 5) (v := .int (nI 0)) (ty := .int) (C := RX5) (T := TX5) (N := 15) (ws' := rc cs b (wr M 0 0 (nI 0))) hx hb hts hinX5 tyX5 tyX5_ok nmX5 hown hK1 hP (rD hI) hS 0 rfl rfl 0 (by decide) (hts (.fieldLink RX5 44 "KnowledgeModelModel" "thrown" "I") (List.mem_of_getElem? (i := 1) rfl)) (fun _ h9 => h9) rfl (by decide +kernel) rfl rfl (Nat.le_of_ble_eq_true rfl) rfl dX5_atom_2 (fun H locs hP hS => ?_)
  obtain ⟨M_1, hM_1⟩ : ∃ z, z = wr M 0 0 (nI 0) := ⟨_, rfl⟩
  rw [← hM_1] at hP
  have hk_2 : M_1 0 3 = nI nf := by rw [hM_1]; exact (wr_ne (Or.inr (by decide))).trans hfc
  have hk_3 : M_1 0 0 = nI 0 := by rw [hM_1]; exact wr_same
  refine lv_iload_n hx hb dX5_atom_5 rfl (lv_at hl 1 rfl) ?_
  refine lv_if_lt (tgt := 27) hx hb dX5_atom_6 (by decide) (fun c6 => ?_) (fun c6 => ?_)
  ·
    refine lv_aload_n hx hb dX5_atom_27 rfl (lv_at hl 0 rfl) ?_
    refine lv_iconst (v := (nI 1)) hx hb dX5_atom_28 (by decide) ?_
    refine xcallwi (va_runV (As := [.int (nI 1)]) (rest := []) ⟨hx, hb, hml, hown, hts⟩ (c_X5_no l D cs b M_1 _ hI (nI 1)) (cwV 1 hts gX5_atom_X5_no rfl rfl rfl (by decide +kernel) ⟨Nat.le_of_ble_eq_true rfl, Nat.le_of_ble_eq_true rfl⟩) (xpreVs hP hK (ci := 5) 0 rfl rfl) rfl rfl hl.1 rfl (lv_room (Nat.le_of_ble_eq_true rfl)) dX5_atom_29 ⟨Nat.le_of_ble_eq_true rfl, Nat.le_of_ble_eq_true rfl⟩) hS (kAle hS.1) (fun u_4 H locs hu_4 hP _ _ hS => ?_)
    have hP : va_P D vwCl (rc cs b (wr M_1 0 0 (nI 1))) H := hP
    obtain ⟨M_5, hM_5⟩ : ∃ z, z = wr M_1 0 0 (nI 1) := ⟨_, rfl⟩
    rw [← hM_5] at hP
    have hk_8 : M_5 0 3 = nI nf := by rw [hM_5]; exact (wr_ne (Or.inr (by decide))).trans hk_2
    subst hQ
    have hMfin : M_5 = (if isIn 6 x = true then crt (wr M 0 0 (nI 0)) nf 0 x (-1) (nI 0) (nI 0) else wr M 0 0 (nI 1)) := by first | (rw [if_pos (isIn_t c6 c12)]; simp only [fo_0, hM_1, c6, hM_5]; done) | (rw [isIn_f1 c6]; simp only [wr_wr, if_true, if_false, Bool.false_eq_true, Nat.one_ne_zero, hM_1, c6, hM_5]; done) | (rw [isIn_f2 c12]; simp only [wr_wr, if_true, if_false, Bool.false_eq_true, Nat.one_ne_zero, hM_1, c6, hM_5]; done)
    rw [hMfin] at hP
    have hrel : True := by trivial
    have hfin : (nI 0) = (if isIn 6 x = true then (if nf = 40 then nI 0 else nI nf) else nI 0) := by first | (rw [if_pos (isIn_t c6 c12)]; done) | (rw [isIn_f1 c6]; rfl) | (rw [isIn_f2 c12]; rfl)
    exact W.iret hx hb hr (fun t ht hW => ⟨⟨_, (), rfl, ⟨hfin, hrel⟩, by rw [← ht] at hP; exact hP⟩, hS.F ht⟩) hS.2.2 dX5_atom_32
  ·
    refine lv_iload_n hx hb dX5_atom_9 rfl (lv_at hl 1 rfl) ?_
    refine lv_bipush (v := (nI 6)) hx hb dX5_atom_10 (by decide) ?_
    refine lv_icmp_ge (tgt := 27) hx hb dX5_atom_12 (by decide) (fun c12 => ?_) (fun c12 => ?_)
    ·
      refine lv_aload_n hx hb dX5_atom_27 rfl (lv_at hl 0 rfl) ?_
      refine lv_iconst (v := (nI 1)) hx hb dX5_atom_28 (by decide) ?_
      refine xcallwi (va_runV (As := [.int (nI 1)]) (rest := []) ⟨hx, hb, hml, hown, hts⟩ (c_X5_no l D cs b M_1 _ hI (nI 1)) (cwV 1 hts gX5_atom_X5_no rfl rfl rfl (by decide +kernel) ⟨Nat.le_of_ble_eq_true rfl, Nat.le_of_ble_eq_true rfl⟩) (xpreVs hP hK (ci := 5) 0 rfl rfl) rfl rfl hl.1 rfl (lv_room (Nat.le_of_ble_eq_true rfl)) dX5_atom_29 ⟨Nat.le_of_ble_eq_true rfl, Nat.le_of_ble_eq_true rfl⟩) hS (kAle hS.1) (fun u_9 H locs hu_9 hP _ _ hS => ?_)
      have hP : va_P D vwCl (rc cs b (wr M_1 0 0 (nI 1))) H := hP
      obtain ⟨M_10, hM_10⟩ : ∃ z, z = wr M_1 0 0 (nI 1) := ⟨_, rfl⟩
      rw [← hM_10] at hP
      have hk_13 : M_10 0 3 = nI nf := by rw [hM_10]; exact (wr_ne (Or.inr (by decide))).trans hk_2
      subst hQ
      have hMfin : M_10 = (if isIn 6 x = true then crt (wr M 0 0 (nI 0)) nf 0 x (-1) (nI 0) (nI 0) else wr M 0 0 (nI 1)) := by first | (rw [if_pos (isIn_t c6 c12)]; simp only [fo_0, hM_1, c6, c12, hM_10]; done) | (rw [isIn_f1 c6]; simp only [wr_wr, if_true, if_false, Bool.false_eq_true, Nat.one_ne_zero, hM_1, c6, c12, hM_10]; done) | (rw [isIn_f2 c12]; simp only [wr_wr, if_true, if_false, Bool.false_eq_true, Nat.one_ne_zero, hM_1, c6, c12, hM_10]; done)
      rw [hMfin] at hP
      have hrel : True := by trivial
      have hfin : (nI 0) = (if isIn 6 x = true then (if nf = 40 then nI 0 else nI nf) else nI 0) := by first | (rw [if_pos (isIn_t c6 c12)]; done) | (rw [isIn_f1 c6]; rfl) | (rw [isIn_f2 c12]; rfl)
      exact W.iret hx hb hr (fun t ht hW => ⟨⟨_, (), rfl, ⟨hfin, hrel⟩, by rw [← ht] at hP; exact hP⟩, hS.F ht⟩) hS.2.2 dX5_atom_32
    ·
      refine lv_aload_n hx hb dX5_atom_15 rfl (lv_at hl 0 rfl) ?_
      refine lv_iconst (v := (nI 0)) hx hb dX5_atom_16 (by decide) ?_
      refine lv_iload_n hx hb dX5_atom_17 rfl (lv_at hl 1 rfl) ?_
      refine lv_iconst (v := (-1 : Int32)) hx hb dX5_atom_18 (by decide) ?_
      refine lv_iconst (v := (nI 0)) hx hb dX5_atom_19 (by decide) ?_
      refine lv_iconst (v := (nI 0)) hx hb dX5_atom_20 (by decide) ?_
      refine xcallwi (va_runV (As := [.int (nI 0), .int x, .int (-1 : Int32), .int (nI 0), .int (nI 0)]) (rest := []) ⟨hx, hb, hml, hown, hts⟩ (c_X5_create l D cs b M_1 _ hI nf 0 x (-1 : Int32) (nI 0) (nI 0) (by omega) hk_2 (by omega)) (cwV 5 hts gX5_atom_X5_create rfl rfl rfl (by decide +kernel) ⟨Nat.le_of_ble_eq_true rfl, Nat.le_of_ble_eq_true rfl⟩) (xpreVs hP hK (ci := 5) 0 rfl rfl) rfl rfl hl.1 rfl (lv_room (Nat.le_of_ble_eq_true rfl)) dX5_atom_21 ⟨Nat.le_of_ble_eq_true rfl, Nat.le_of_ble_eq_true rfl⟩) hS (kAle hS.1) (fun u_14 H locs hu_14 hP _ _ hS => ?_)
      have hP : va_P D vwCl (rc cs b (crt M_1 nf 0 x (-1 : Int32) (nI 0) (nI 0))) H := hP
      obtain ⟨M_15, hM_15⟩ : ∃ z, z = crt M_1 nf 0 x (-1 : Int32) (nI 0) (nI 0) := ⟨_, rfl⟩
      rw [← hM_15] at hP
      refine lv_goto (tgt := 32) hx hb dX5_atom_24 (by decide) ?_
      subst hQ
      have hMfin : M_15 = (if isIn 6 x = true then crt (wr M 0 0 (nI 0)) nf 0 x (-1) (nI 0) (nI 0) else wr M 0 0 (nI 1)) := by first | (rw [if_pos (isIn_t c6 c12)]; simp only [fo_0, hM_1, c6, c12, hM_15]; done) | (rw [isIn_f1 c6]; simp only [wr_wr, if_true, if_false, Bool.false_eq_true, Nat.one_ne_zero, hM_1, c6, c12, hM_15]; done) | (rw [isIn_f2 c12]; simp only [wr_wr, if_true, if_false, Bool.false_eq_true, Nat.one_ne_zero, hM_1, c6, c12, hM_15]; done)
      rw [hMfin] at hP
      have hrel : True := by trivial
      have hfin : (if nf = 40 then nI 0 else nI nf) = (if isIn 6 x = true then (if nf = 40 then nI 0 else nI nf) else nI 0) := by first | (rw [if_pos (isIn_t c6 c12)]; done) | (rw [isIn_f1 c6]; rfl) | (rw [isIn_f2 c12]; rfl)
      exact W.iret hx hb hr (fun t ht hW => ⟨⟨_, (), rfl, ⟨hfin, hrel⟩, by rw [← ht] at hP; exact hP⟩, hS.F ht⟩) hS.2.2 dX5_atom_32

set_option maxHeartbeats 4000000 in
set_option maxRecDepth 100000 in
theorem c_X5_not (l : Launch) (D : va_G) (cs : Nat → ClassId) (b : Nat → Nat) (M : Nat → Nat → Int32) (sz : Nat) (hI : kI b 12)  (nf : Nat) (x : Int32) (hfc : M 0 3 = nI nf) (hf40 : nf ≤ 40) : Met l yX5_not wsX5_not ({ frames := 3, cells := 0, slots := 0, locals := 70 } : Room) (va_Pc [.ref (b 0), .int x] (XBs D cs (rc cs b M) sz)) (va_Qi (fun r (u : Unit) => r = (if isIn nf x = true then (if nf = 40 then nI 0 else nI nf) else nI 0) ∧ True) (fun (u : Unit) t => va_P D vwCl (rc cs b ((if isIn nf x = true then crt (wr M 0 0 (nI 0)) nf 1 (-1) x (M 6 x.toNatClampNeg) (M 7 x.toNatClampNeg) else wr M 0 0 (nI 1)))) t.heap) (kA b 12 sz)) 0 0 (kA b 12 sz) := by
  refine Met.ofW (cc := cX5_not) (maxL := 2) (ret := (some .int)) (by decide) rfl ?_
  intro p e s m args below meth c s₁ B hml hv
  obtain ⟨rfl, hsz, hP, hK⟩ := hv
  have hx := B.exec
  have hb := B.bytes
  have hr := B.returns
  have hts := atoms_spec (ws := wsX5_not) B.pre
  have hown : s.vm.findClass RX5 = some m.cls := findClass_of_methodNamed B.named
  have hlocks := B.notSynchronized
  have hK1 := hK.1
  have hinX5 : ∀ w ∈ wsX50, w ∈ wsX5_not := fun w h => List.mem_cons_of_mem _ (List.mem_append_right _ h)
  subst hsz
  have hS : va_S (kA b 12 s.heap.size) s.heap s.heap [] := va_S.rf
  have hl := lv_entry ([.ref (b 0), .int x]) (n := 2) (Nat.le_of_ble_eq_true rfl)
  rw [lg_entry_eq]
  generalize (lg_sl ([.ref (b 0), .int x]) ++ List.replicate (2 - (lg_sl ([.ref (b 0), .int x])).length) Slot.unset).toArray = ls at hl ⊢
  have hl : lv_has ls 2 [(0, .ref (b 0)), (1, .int x)] := hl
  refine W_Q (fun Q hQ => ?_)
  show W p l e ({ frames := 3, cells := 0, slots := 0, locals := 70 } : Room) s m ([.ref (b 0), .int x] : List Value).toArray below meth c s.heap [] 0 0 Q (F0 m 0 ls [])
  refine lv_aload_n hx hb dX5_not_0 rfl (lv_at hl 0 rfl) ?_
  refine lv_iconst (v := (nI 0)) hx hb dX5_not_1 (by decide) ?_
  refine xput (D := D) (ci := 5) (v := .int (nI 0)) (ty := .int) (C := RX5) (T := TX5) (N := 15) (ws' := rc cs b (wr M 0 0 (nI 0))) hx hb hts hinX5 tyX5 tyX5_ok nmX5 hown hK1 hP (rD hI) hS 0 rfl rfl 0 (by decide) (hts (.fieldLink RX5 44 "KnowledgeModelModel" "thrown" "I") (List.mem_of_getElem? (i := 1) rfl)) (fun _ h9 => h9) rfl (by decide +kernel) rfl rfl (Nat.le_of_ble_eq_true rfl) rfl dX5_not_2 (fun H locs hP hS => ?_)
  obtain ⟨M_1, hM_1⟩ : ∃ z, z = wr M 0 0 (nI 0) := ⟨_, rfl⟩
  rw [← hM_1] at hP
  have hk_2 : M_1 0 3 = nI nf := by rw [hM_1]; exact (wr_ne (Or.inr (by decide))).trans hfc
  have hk_3 : M_1 0 0 = nI 0 := by rw [hM_1]; exact wr_same
  refine lv_aload_n hx hb dX5_not_5 rfl (lv_at hl 0 rfl) ?_
  refine lv_iload_n hx hb dX5_not_6 rfl (lv_at hl 1 rfl) ?_
  refine xcalli (va_runV (As := [.int x]) (rest := []) ⟨hx, hb, hml, hown, hts⟩ (c_X5_isFormula l D cs b M_1 nf x hk_2) (cwV 1 hts gX5_not_X5_isFormula rfl rfl rfl (by decide +kernel) ⟨Nat.le_of_ble_eq_true rfl, Nat.le_of_ble_eq_true rfl⟩) (xpreV hP hK (ci := 5) 0 rfl rfl) rfl rfl hl.1 rfl (lv_room (Nat.le_of_ble_eq_true rfl)) dX5_not_7 ⟨Nat.le_of_ble_eq_true rfl, Nat.le_of_ble_eq_true rfl⟩) hS hP (fun H locs hP hS => ?_)
  refine lv_if_eq (tgt := 35) hx hb dX5_not_10 (by decide) (fun c10 => ?_) (fun c10 => ?_)
  ·
    replace c10 := bI_0 c10
    refine lv_aload_n hx hb dX5_not_35 rfl (lv_at hl 0 rfl) ?_
    refine lv_iconst (v := (nI 1)) hx hb dX5_not_36 (by decide) ?_
    refine xcallwi (va_runV (As := [.int (nI 1)]) (rest := []) ⟨hx, hb, hml, hown, hts⟩ (c_X5_no l D cs b M_1 _ hI (nI 1)) (cwV 1 hts gX5_not_X5_no rfl rfl rfl (by decide +kernel) ⟨Nat.le_of_ble_eq_true rfl, Nat.le_of_ble_eq_true rfl⟩) (xpreVs hP hK (ci := 5) 0 rfl rfl) rfl rfl hl.1 rfl (lv_room (Nat.le_of_ble_eq_true rfl)) dX5_not_37 ⟨Nat.le_of_ble_eq_true rfl, Nat.le_of_ble_eq_true rfl⟩) hS (kAle hS.1) (fun u_4 H locs hu_4 hP _ _ hS => ?_)
    have hP : va_P D vwCl (rc cs b (wr M_1 0 0 (nI 1))) H := hP
    obtain ⟨M_5, hM_5⟩ : ∃ z, z = wr M_1 0 0 (nI 1) := ⟨_, rfl⟩
    rw [← hM_5] at hP
    have hk_8 : M_5 0 3 = nI nf := by rw [hM_5]; exact (wr_ne (Or.inr (by decide))).trans hk_2
    subst hQ
    have hMfin : M_5 = (if isIn nf x = true then crt (wr M 0 0 (nI 0)) nf 1 (-1) x (M 6 x.toNatClampNeg) (M 7 x.toNatClampNeg) else wr M 0 0 (nI 1)) := by simp only [wr_wr, if_true, if_false, Bool.false_eq_true, Nat.one_ne_zero, hM_1, c10, hM_5]
    rw [hMfin] at hP
    have hrel : True := by trivial
    have hfin : (nI 0) = (if isIn nf x = true then (if nf = 40 then nI 0 else nI nf) else nI 0) := by simp only [wr_wr, if_true, if_false, Bool.false_eq_true, Nat.one_ne_zero, hM_1, c10, hM_5]
    exact W.iret hx hb hr (fun t ht hW => ⟨⟨_, (), rfl, ⟨hfin, hrel⟩, by rw [← ht] at hP; exact hP⟩, hS.F ht⟩) hS.2.2 dX5_not_40
  ·
    replace c10 := bI_n0 c10
    obtain ⟨hlt_x, heq_x⟩ := isIn_eq (by omega) c10
    refine lv_aload_n hx hb dX5_not_13 rfl (lv_at hl 0 rfl) ?_
    refine lv_iconst (v := (nI 1)) hx hb dX5_not_14 (by decide) ?_
    refine lv_iconst (v := (-1 : Int32)) hx hb dX5_not_15 (by decide) ?_
    refine lv_iload_n hx hb dX5_not_16 rfl (lv_at hl 1 rfl) ?_
    refine lv_aload_n hx hb dX5_not_17 rfl (lv_at hl 0 rfl) ?_
    refine va_get (D := D) (ci := 5) (v := .ref (b 6)) (C := RX5) (T := TX5) (N := 15) hx hb hts hinX5 hown hK1 hP 0 rfl rfl 9 (by decide) (hts (.fieldLink RX5 25 "KnowledgeModelModel" "depths" "[I") (List.mem_of_getElem? (i := 2) rfl)) (fun _ h9 => h9) rfl dX5_not_18 ?_
    refine lv_iload_n hx hb dX5_not_21 rfl (lv_at hl 1 rfl) ?_
    refine xtop (y := nI x.toNatClampNeg) (by exact heq_x) ?_
    refine xiald (j := x.toNatClampNeg) (q0 := 6) (t0 := 0) hx hb hK1 hP rfl rfl (by omega) (by decide) dX5_not_22 ?_
    refine xtop (y := (M 6 x.toNatClampNeg)) (by simp only [hM_1]; rfl) ?_
    refine lv_aload_n hx hb dX5_not_23 rfl (lv_at hl 0 rfl) ?_
    refine va_get (D := D) (ci := 5) (v := .ref (b 7)) (C := RX5) (T := TX5) (N := 15) hx hb hts hinX5 hown hK1 hP 0 rfl rfl 10 (by decide) (hts (.fieldLink RX5 28 "KnowledgeModelModel" "nestings" "[I") (List.mem_of_getElem? (i := 3) rfl)) (fun _ h9 => h9) rfl dX5_not_24 ?_
    refine lv_iload_n hx hb dX5_not_27 rfl (lv_at hl 1 rfl) ?_
    refine xtop (y := nI x.toNatClampNeg) (by exact heq_x) ?_
    refine xiald (j := x.toNatClampNeg) (q0 := 7) (t0 := 0) hx hb hK1 hP rfl rfl (by omega) (by decide) dX5_not_28 ?_
    refine xtop (y := (M 7 x.toNatClampNeg)) (by simp only [hM_1]; rfl) ?_
    refine xcallwi (va_runV (As := [.int (nI 1), .int (-1 : Int32), .int x, .int (M 6 x.toNatClampNeg), .int (M 7 x.toNatClampNeg)]) (rest := []) ⟨hx, hb, hml, hown, hts⟩ (c_X5_create l D cs b M_1 _ hI nf 1 (-1 : Int32) x (M 6 x.toNatClampNeg) (M 7 x.toNatClampNeg) (by omega) hk_2 (by omega)) (cwV 5 hts gX5_not_X5_create rfl rfl rfl (by decide +kernel) ⟨Nat.le_of_ble_eq_true rfl, Nat.le_of_ble_eq_true rfl⟩) (xpreVs hP hK (ci := 5) 0 rfl rfl) rfl rfl hl.1 rfl (lv_room (Nat.le_of_ble_eq_true rfl)) dX5_not_29 ⟨Nat.le_of_ble_eq_true rfl, Nat.le_of_ble_eq_true rfl⟩) hS (kAle hS.1) (fun u_9 H locs hu_9 hP _ _ hS => ?_)
    have hP : va_P D vwCl (rc cs b (crt M_1 nf 1 (-1 : Int32) x (M 6 x.toNatClampNeg) (M 7 x.toNatClampNeg))) H := hP
    obtain ⟨M_10, hM_10⟩ : ∃ z, z = crt M_1 nf 1 (-1 : Int32) x (M 6 x.toNatClampNeg) (M 7 x.toNatClampNeg) := ⟨_, rfl⟩
    rw [← hM_10] at hP
    refine lv_goto (tgt := 40) hx hb dX5_not_32 (by decide) ?_
    subst hQ
    have hMfin : M_10 = (if isIn nf x = true then crt (wr M 0 0 (nI 0)) nf 1 (-1) x (M 6 x.toNatClampNeg) (M 7 x.toNatClampNeg) else wr M 0 0 (nI 1)) := by simp only [wr_wr, if_true, if_false, Bool.false_eq_true, Nat.one_ne_zero, hM_1, c10, hM_10]
    rw [hMfin] at hP
    have hrel : True := by trivial
    have hfin : (if nf = 40 then nI 0 else nI nf) = (if isIn nf x = true then (if nf = 40 then nI 0 else nI nf) else nI 0) := by simp only [wr_wr, if_true, if_false, Bool.false_eq_true, Nat.one_ne_zero, hM_1, c10, hM_10]
    exact W.iret hx hb hr (fun t ht hW => ⟨⟨_, (), rfl, ⟨hfin, hrel⟩, by rw [← ht] at hP; exact hP⟩, hS.F ht⟩) hS.2.2 dX5_not_40

set_option maxHeartbeats 4000000 in
set_option maxRecDepth 100000 in
theorem c_X5_both (l : Launch) (D : va_G) (cs : Nat → ClassId) (b : Nat → Nat) (M : Nat → Nat → Int32) (sz : Nat) (hI : kI b 12)  (nf : Nat) (x : Int32) (y : Int32) (hfc : M 0 3 = nI nf) (hf40 : nf ≤ 40) : Met l yX5_both wsX5_both ({ frames := 3, cells := 0, slots := 0, locals := 70 } : Room) (va_Pc [.ref (b 0), .int x, .int y] (XBs D cs (rc cs b M) sz)) (va_Qi (fun r (u : Unit) => r = (if (isIn nf x && isIn nf y) = true then (if nf = 40 then nI 0 else nI nf) else nI 0) ∧ True) (fun (u : Unit) t => va_P D vwCl (rc cs b ((if (isIn nf x && isIn nf y) = true then crt (wr M 0 0 (nI 0)) nf 2 x y (mx (M 6 x.toNatClampNeg) (M 6 y.toNatClampNeg)) (mx (M 7 x.toNatClampNeg) (M 7 y.toNatClampNeg)) else wr M 0 0 (nI 1)))) t.heap) (kA b 12 sz)) 0 0 (kA b 12 sz) := by
  refine Met.ofW (cc := cX5_both) (maxL := 3) (ret := (some .int)) (by decide) rfl ?_
  intro p e s m args below meth c s₁ B hml hv
  obtain ⟨rfl, hsz, hP, hK⟩ := hv
  have hx := B.exec
  have hb := B.bytes
  have hr := B.returns
  have hts := atoms_spec (ws := wsX5_both) B.pre
  have hown : s.vm.findClass RX5 = some m.cls := findClass_of_methodNamed B.named
  have hlocks := B.notSynchronized
  have hK1 := hK.1
  have hinX5 : ∀ w ∈ wsX50, w ∈ wsX5_both := fun w h => List.mem_cons_of_mem _ (List.mem_append_right _ h)
  subst hsz
  have hS : va_S (kA b 12 s.heap.size) s.heap s.heap [] := va_S.rf
  have hl := lv_entry ([.ref (b 0), .int x, .int y]) (n := 3) (Nat.le_of_ble_eq_true rfl)
  rw [lg_entry_eq]
  generalize (lg_sl ([.ref (b 0), .int x, .int y]) ++ List.replicate (3 - (lg_sl ([.ref (b 0), .int x, .int y])).length) Slot.unset).toArray = ls at hl ⊢
  have hl : lv_has ls 3 [(0, .ref (b 0)), (1, .int x), (2, .int y)] := hl
  refine W_Q (fun Q hQ => ?_)
  show W p l e ({ frames := 3, cells := 0, slots := 0, locals := 70 } : Room) s m ([.ref (b 0), .int x, .int y] : List Value).toArray below meth c s.heap [] 0 0 Q (F0 m 0 ls [])
  refine lv_aload_n hx hb dX5_both_0 rfl (lv_at hl 0 rfl) ?_
  refine lv_iconst (v := (nI 0)) hx hb dX5_both_1 (by decide) ?_
  refine xput (D := D) (ci := 5) (v := .int (nI 0)) (ty := .int) (C := RX5) (T := TX5) (N := 15) (ws' := rc cs b (wr M 0 0 (nI 0))) hx hb hts hinX5 tyX5 tyX5_ok nmX5 hown hK1 hP (rD hI) hS 0 rfl rfl 0 (by decide) (hts (.fieldLink RX5 44 "KnowledgeModelModel" "thrown" "I") (List.mem_of_getElem? (i := 1) rfl)) (fun _ h9 => h9) rfl (by decide +kernel) rfl rfl (Nat.le_of_ble_eq_true rfl) rfl dX5_both_2 (fun H locs hP hS => ?_)
  obtain ⟨M_1, hM_1⟩ : ∃ z, z = wr M 0 0 (nI 0) := ⟨_, rfl⟩
  rw [← hM_1] at hP
  have hk_2 : M_1 0 3 = nI nf := by rw [hM_1]; exact (wr_ne (Or.inr (by decide))).trans hfc
  have hk_3 : M_1 0 0 = nI 0 := by rw [hM_1]; exact wr_same
  refine lv_aload_n hx hb dX5_both_5 rfl (lv_at hl 0 rfl) ?_
  refine lv_iload_n hx hb dX5_both_6 rfl (lv_at hl 1 rfl) ?_
  refine xcalli (va_runV (As := [.int x]) (rest := []) ⟨hx, hb, hml, hown, hts⟩ (c_X5_isFormula l D cs b M_1 nf x hk_2) (cwV 1 hts gX5_both_X5_isFormula rfl rfl rfl (by decide +kernel) ⟨Nat.le_of_ble_eq_true rfl, Nat.le_of_ble_eq_true rfl⟩) (xpreV hP hK (ci := 5) 0 rfl rfl) rfl rfl hl.1 rfl (lv_room (Nat.le_of_ble_eq_true rfl)) dX5_both_7 ⟨Nat.le_of_ble_eq_true rfl, Nat.le_of_ble_eq_true rfl⟩) hS hP (fun H locs hP hS => ?_)
  refine lv_if_eq (tgt := 61) hx hb dX5_both_10 (by decide) (fun c10 => ?_) (fun c10 => ?_)
  ·
    replace c10 := bI_0 c10
    refine lv_aload_n hx hb dX5_both_61 rfl (lv_at hl 0 rfl) ?_
    refine lv_iconst (v := (nI 1)) hx hb dX5_both_62 (by decide) ?_
    refine xcallwi (va_runV (As := [.int (nI 1)]) (rest := []) ⟨hx, hb, hml, hown, hts⟩ (c_X5_no l D cs b M_1 _ hI (nI 1)) (cwV 1 hts gX5_both_X5_no rfl rfl rfl (by decide +kernel) ⟨Nat.le_of_ble_eq_true rfl, Nat.le_of_ble_eq_true rfl⟩) (xpreVs hP hK (ci := 5) 0 rfl rfl) rfl rfl hl.1 rfl (lv_room (Nat.le_of_ble_eq_true rfl)) dX5_both_63 ⟨Nat.le_of_ble_eq_true rfl, Nat.le_of_ble_eq_true rfl⟩) hS (kAle hS.1) (fun u_4 H locs hu_4 hP _ _ hS => ?_)
    have hP : va_P D vwCl (rc cs b (wr M_1 0 0 (nI 1))) H := hP
    obtain ⟨M_5, hM_5⟩ : ∃ z, z = wr M_1 0 0 (nI 1) := ⟨_, rfl⟩
    rw [← hM_5] at hP
    have hk_8 : M_5 0 3 = nI nf := by rw [hM_5]; exact (wr_ne (Or.inr (by decide))).trans hk_2
    subst hQ
    have hMfin : M_5 = (if (isIn nf x && isIn nf y) = true then crt (wr M 0 0 (nI 0)) nf 2 x y (mx (M 6 x.toNatClampNeg) (M 6 y.toNatClampNeg)) (mx (M 7 x.toNatClampNeg) (M 7 y.toNatClampNeg)) else wr M 0 0 (nI 1)) := by simp only [Bool.and_self, Bool.and_false, Bool.false_and, wr_wr, if_true, if_false, Bool.false_eq_true, Nat.one_ne_zero, hM_1, c10, hM_5]
    rw [hMfin] at hP
    have hrel : True := by trivial
    have hfin : (nI 0) = (if (isIn nf x && isIn nf y) = true then (if nf = 40 then nI 0 else nI nf) else nI 0) := by simp only [Bool.and_self, Bool.and_false, Bool.false_and, wr_wr, if_true, if_false, Bool.false_eq_true, Nat.one_ne_zero, hM_1, c10, hM_5]
    exact W.iret hx hb hr (fun t ht hW => ⟨⟨_, (), rfl, ⟨hfin, hrel⟩, by rw [← ht] at hP; exact hP⟩, hS.F ht⟩) hS.2.2 dX5_both_66
  ·
    replace c10 := bI_n0 c10
    refine lv_aload_n hx hb dX5_both_13 rfl (lv_at hl 0 rfl) ?_
    refine lv_iload_n hx hb dX5_both_14 rfl (lv_at hl 2 rfl) ?_
    refine xcalli (va_runV (As := [.int y]) (rest := []) ⟨hx, hb, hml, hown, hts⟩ (c_X5_isFormula l D cs b M_1 nf y hk_2) (cwV 1 hts gX5_both_X5_isFormula rfl rfl rfl (by decide +kernel) ⟨Nat.le_of_ble_eq_true rfl, Nat.le_of_ble_eq_true rfl⟩) (xpreV hP hK (ci := 5) 0 rfl rfl) rfl rfl hl.1 rfl (lv_room (Nat.le_of_ble_eq_true rfl)) dX5_both_15 ⟨Nat.le_of_ble_eq_true rfl, Nat.le_of_ble_eq_true rfl⟩) hS hP (fun H locs hP hS => ?_)
    refine lv_if_eq (tgt := 61) hx hb dX5_both_18 (by decide) (fun c18 => ?_) (fun c18 => ?_)
    ·
      replace c18 := bI_0 c18
      refine lv_aload_n hx hb dX5_both_61 rfl (lv_at hl 0 rfl) ?_
      refine lv_iconst (v := (nI 1)) hx hb dX5_both_62 (by decide) ?_
      refine xcallwi (va_runV (As := [.int (nI 1)]) (rest := []) ⟨hx, hb, hml, hown, hts⟩ (c_X5_no l D cs b M_1 _ hI (nI 1)) (cwV 1 hts gX5_both_X5_no rfl rfl rfl (by decide +kernel) ⟨Nat.le_of_ble_eq_true rfl, Nat.le_of_ble_eq_true rfl⟩) (xpreVs hP hK (ci := 5) 0 rfl rfl) rfl rfl hl.1 rfl (lv_room (Nat.le_of_ble_eq_true rfl)) dX5_both_63 ⟨Nat.le_of_ble_eq_true rfl, Nat.le_of_ble_eq_true rfl⟩) hS (kAle hS.1) (fun u_9 H locs hu_9 hP _ _ hS => ?_)
      have hP : va_P D vwCl (rc cs b (wr M_1 0 0 (nI 1))) H := hP
      obtain ⟨M_10, hM_10⟩ : ∃ z, z = wr M_1 0 0 (nI 1) := ⟨_, rfl⟩
      rw [← hM_10] at hP
      have hk_13 : M_10 0 3 = nI nf := by rw [hM_10]; exact (wr_ne (Or.inr (by decide))).trans hk_2
      subst hQ
      have hMfin : M_10 = (if (isIn nf x && isIn nf y) = true then crt (wr M 0 0 (nI 0)) nf 2 x y (mx (M 6 x.toNatClampNeg) (M 6 y.toNatClampNeg)) (mx (M 7 x.toNatClampNeg) (M 7 y.toNatClampNeg)) else wr M 0 0 (nI 1)) := by simp only [Bool.and_self, Bool.and_false, Bool.false_and, wr_wr, if_true, if_false, Bool.false_eq_true, Nat.one_ne_zero, hM_1, c10, c18, hM_10]
      rw [hMfin] at hP
      have hrel : True := by trivial
      have hfin : (nI 0) = (if (isIn nf x && isIn nf y) = true then (if nf = 40 then nI 0 else nI nf) else nI 0) := by simp only [Bool.and_self, Bool.and_false, Bool.false_and, wr_wr, if_true, if_false, Bool.false_eq_true, Nat.one_ne_zero, hM_1, c10, c18, hM_10]
      exact W.iret hx hb hr (fun t ht hW => ⟨⟨_, (), rfl, ⟨hfin, hrel⟩, by rw [← ht] at hP; exact hP⟩, hS.F ht⟩) hS.2.2 dX5_both_66
    ·
      replace c18 := bI_n0 c18
      obtain ⟨hlt_x, heq_x⟩ := isIn_eq (by omega) c10
      obtain ⟨hlt_y, heq_y⟩ := isIn_eq (by omega) c18
      refine lv_aload_n hx hb dX5_both_21 rfl (lv_at hl 0 rfl) ?_
      refine lv_iconst (v := (nI 2)) hx hb dX5_both_22 (by decide) ?_
      refine lv_iload_n hx hb dX5_both_23 rfl (lv_at hl 1 rfl) ?_
      refine lv_iload_n hx hb dX5_both_24 rfl (lv_at hl 2 rfl) ?_
      refine lv_aload_n hx hb dX5_both_25 rfl (lv_at hl 0 rfl) ?_
      refine va_get (D := D) (ci := 5) (v := .ref (b 6)) (C := RX5) (T := TX5) (N := 15) hx hb hts hinX5 hown hK1 hP 0 rfl rfl 9 (by decide) (hts (.fieldLink RX5 25 "KnowledgeModelModel" "depths" "[I") (List.mem_of_getElem? (i := 2) rfl)) (fun _ h9 => h9) rfl dX5_both_26 ?_
      refine lv_iload_n hx hb dX5_both_29 rfl (lv_at hl 1 rfl) ?_
      refine xtop (y := nI x.toNatClampNeg) (by exact heq_x) ?_
      refine xiald (j := x.toNatClampNeg) (q0 := 6) (t0 := 0) hx hb hK1 hP rfl rfl (by omega) (by decide) dX5_both_30 ?_
      refine xtop (y := (M 6 x.toNatClampNeg)) (by simp only [hM_1]; rfl) ?_
      refine lv_aload_n hx hb dX5_both_31 rfl (lv_at hl 0 rfl) ?_
      refine va_get (D := D) (ci := 5) (v := .ref (b 6)) (C := RX5) (T := TX5) (N := 15) hx hb hts hinX5 hown hK1 hP 0 rfl rfl 9 (by decide) (hts (.fieldLink RX5 25 "KnowledgeModelModel" "depths" "[I") (List.mem_of_getElem? (i := 2) rfl)) (fun _ h9 => h9) rfl dX5_both_32 ?_
      refine lv_iload_n hx hb dX5_both_35 rfl (lv_at hl 2 rfl) ?_
      refine xtop (y := nI y.toNatClampNeg) (by exact heq_y) ?_
      refine xiald (j := y.toNatClampNeg) (q0 := 6) (t0 := 0) hx hb hK1 hP rfl rfl (by omega) (by decide) dX5_both_36 ?_
      refine xtop (y := (M 6 y.toNatClampNeg)) (by simp only [hM_1]; rfl) ?_
      refine va_mmax hx hb (hml.trans hl.1.symm) hown (hts (.methodLink RX5 87 Lib.Math.max.name) (List.mem_of_getElem? (i := 3) rfl)) (hts (.static Lib.Math.max.name) (List.mem_of_getElem? (i := 4) rfl)) (hts (.initialized "java/lang/Math") (List.mem_of_getElem? (i := 5) rfl)) (hts (.code Lib.Math.max.name Lib.Math.max.code 2 (some .int)) (List.mem_of_getElem? (i := 6) rfl)) (Nat.le_of_ble_eq_true rfl) (Nat.le_of_ble_eq_true rfl) (Nat.le_of_ble_eq_true rfl) (Nat.le_of_ble_eq_true rfl) dX5_both_37 ?_
      refine xtop (y := mx (M 6 x.toNatClampNeg) (M 6 y.toNatClampNeg)) rfl ?_
      refine lv_aload_n hx hb dX5_both_40 rfl (lv_at hl 0 rfl) ?_
      refine va_get (D := D) (ci := 5) (v := .ref (b 7)) (C := RX5) (T := TX5) (N := 15) hx hb hts hinX5 hown hK1 hP 0 rfl rfl 10 (by decide) (hts (.fieldLink RX5 28 "KnowledgeModelModel" "nestings" "[I") (List.mem_of_getElem? (i := 7) rfl)) (fun _ h9 => h9) rfl dX5_both_41 ?_
      refine lv_iload_n hx hb dX5_both_44 rfl (lv_at hl 1 rfl) ?_
      refine xtop (y := nI x.toNatClampNeg) (by exact heq_x) ?_
      refine xiald (j := x.toNatClampNeg) (q0 := 7) (t0 := 0) hx hb hK1 hP rfl rfl (by omega) (by decide) dX5_both_45 ?_
      refine xtop (y := (M 7 x.toNatClampNeg)) (by simp only [hM_1]; rfl) ?_
      refine lv_aload_n hx hb dX5_both_46 rfl (lv_at hl 0 rfl) ?_
      refine va_get (D := D) (ci := 5) (v := .ref (b 7)) (C := RX5) (T := TX5) (N := 15) hx hb hts hinX5 hown hK1 hP 0 rfl rfl 10 (by decide) (hts (.fieldLink RX5 28 "KnowledgeModelModel" "nestings" "[I") (List.mem_of_getElem? (i := 7) rfl)) (fun _ h9 => h9) rfl dX5_both_47 ?_
      refine lv_iload_n hx hb dX5_both_50 rfl (lv_at hl 2 rfl) ?_
      refine xtop (y := nI y.toNatClampNeg) (by exact heq_y) ?_
      refine xiald (j := y.toNatClampNeg) (q0 := 7) (t0 := 0) hx hb hK1 hP rfl rfl (by omega) (by decide) dX5_both_51 ?_
      refine xtop (y := (M 7 y.toNatClampNeg)) (by simp only [hM_1]; rfl) ?_
      refine va_mmax hx hb (hml.trans hl.1.symm) hown (hts (.methodLink RX5 87 Lib.Math.max.name) (List.mem_of_getElem? (i := 3) rfl)) (hts (.static Lib.Math.max.name) (List.mem_of_getElem? (i := 4) rfl)) (hts (.initialized "java/lang/Math") (List.mem_of_getElem? (i := 5) rfl)) (hts (.code Lib.Math.max.name Lib.Math.max.code 2 (some .int)) (List.mem_of_getElem? (i := 6) rfl)) (Nat.le_of_ble_eq_true rfl) (Nat.le_of_ble_eq_true rfl) (Nat.le_of_ble_eq_true rfl) (Nat.le_of_ble_eq_true rfl) dX5_both_52 ?_
      refine xtop (y := mx (M 7 x.toNatClampNeg) (M 7 y.toNatClampNeg)) rfl ?_
      refine xcallwi (va_runV (As := [.int (nI 2), .int x, .int y, .int (mx (M 6 x.toNatClampNeg) (M 6 y.toNatClampNeg)), .int (mx (M 7 x.toNatClampNeg) (M 7 y.toNatClampNeg))]) (rest := []) ⟨hx, hb, hml, hown, hts⟩ (c_X5_create l D cs b M_1 _ hI nf 2 x y (mx (M 6 x.toNatClampNeg) (M 6 y.toNatClampNeg)) (mx (M 7 x.toNatClampNeg) (M 7 y.toNatClampNeg)) (by omega) hk_2 (by omega)) (cwV 5 hts gX5_both_X5_create rfl rfl rfl (by decide +kernel) ⟨Nat.le_of_ble_eq_true rfl, Nat.le_of_ble_eq_true rfl⟩) (xpreVs hP hK (ci := 5) 0 rfl rfl) rfl rfl hl.1 rfl (lv_room (Nat.le_of_ble_eq_true rfl)) dX5_both_55 ⟨Nat.le_of_ble_eq_true rfl, Nat.le_of_ble_eq_true rfl⟩) hS (kAle hS.1) (fun u_14 H locs hu_14 hP _ _ hS => ?_)
      have hP : va_P D vwCl (rc cs b (crt M_1 nf 2 x y (mx (M 6 x.toNatClampNeg) (M 6 y.toNatClampNeg)) (mx (M 7 x.toNatClampNeg) (M 7 y.toNatClampNeg)))) H := hP
      obtain ⟨M_15, hM_15⟩ : ∃ z, z = crt M_1 nf 2 x y (mx (M 6 x.toNatClampNeg) (M 6 y.toNatClampNeg)) (mx (M 7 x.toNatClampNeg) (M 7 y.toNatClampNeg)) := ⟨_, rfl⟩
      rw [← hM_15] at hP
      refine lv_goto (tgt := 66) hx hb dX5_both_58 (by decide) ?_
      subst hQ
      have hMfin : M_15 = (if (isIn nf x && isIn nf y) = true then crt (wr M 0 0 (nI 0)) nf 2 x y (mx (M 6 x.toNatClampNeg) (M 6 y.toNatClampNeg)) (mx (M 7 x.toNatClampNeg) (M 7 y.toNatClampNeg)) else wr M 0 0 (nI 1)) := by simp only [Bool.and_self, Bool.and_false, Bool.false_and, wr_wr, if_true, if_false, Bool.false_eq_true, Nat.one_ne_zero, hM_1, c10, c18, hM_15]
      rw [hMfin] at hP
      have hrel : True := by trivial
      have hfin : (if nf = 40 then nI 0 else nI nf) = (if (isIn nf x && isIn nf y) = true then (if nf = 40 then nI 0 else nI nf) else nI 0) := by simp only [Bool.and_self, Bool.and_false, Bool.false_and, wr_wr, if_true, if_false, Bool.false_eq_true, Nat.one_ne_zero, hM_1, c10, c18, hM_15]
      exact W.iret hx hb hr (fun t ht hW => ⟨⟨_, (), rfl, ⟨hfin, hrel⟩, by rw [← ht] at hP; exact hP⟩, hS.F ht⟩) hS.2.2 dX5_both_66

set_option maxHeartbeats 4000000 in
set_option maxRecDepth 100000 in
theorem c_X5_knows (l : Launch) (D : va_G) (cs : Nat → ClassId) (b : Nat → Nat) (M : Nat → Nat → Int32) (sz : Nat) (hI : kI b 12)  (nf : Nat) (x : Int32) (y : Int32) (hfc : M 0 3 = nI nf) (hf40 : nf ≤ 40) : Met l yX5_knows wsX5_knows ({ frames := 3, cells := 0, slots := 0, locals := 70 } : Room) (va_Pc [.ref (b 0), .int x, .int y] (XBs D cs (rc cs b M) sz)) (va_Qi (fun r (u : Unit) => r = (if (isIn 4 x && isIn nf y) = true then (if nf = 40 then nI 0 else nI nf) else nI 0) ∧ True) (fun (u : Unit) t => va_P D vwCl (rc cs b ((if (isIn 4 x && isIn nf y) = true then crt (wr M 0 0 (nI 0)) nf 3 x y (nI 1 + M 6 y.toNatClampNeg) (M 7 y.toNatClampNeg) else wr M 0 0 (nI 1)))) t.heap) (kA b 12 sz)) 0 0 (kA b 12 sz) := by
  refine Met.ofW (cc := cX5_knows) (maxL := 3) (ret := (some .int)) (by decide) rfl ?_
  intro p e s m args below meth c s₁ B hml hv
  obtain ⟨rfl, hsz, hP, hK⟩ := hv
  have hx := B.exec
  have hb := B.bytes
  have hr := B.returns
  have hts := atoms_spec (ws := wsX5_knows) B.pre
  have hown : s.vm.findClass RX5 = some m.cls := findClass_of_methodNamed B.named
  have hlocks := B.notSynchronized
  have hK1 := hK.1
  have hinX5 : ∀ w ∈ wsX50, w ∈ wsX5_knows := fun w h => List.mem_cons_of_mem _ (List.mem_append_right _ h)
  subst hsz
  have hS : va_S (kA b 12 s.heap.size) s.heap s.heap [] := va_S.rf
  have hl := lv_entry ([.ref (b 0), .int x, .int y]) (n := 3) (Nat.le_of_ble_eq_true rfl)
  rw [lg_entry_eq]
  generalize (lg_sl ([.ref (b 0), .int x, .int y]) ++ List.replicate (3 - (lg_sl ([.ref (b 0), .int x, .int y])).length) Slot.unset).toArray = ls at hl ⊢
  have hl : lv_has ls 3 [(0, .ref (b 0)), (1, .int x), (2, .int y)] := hl
  refine W_Q (fun Q hQ => ?_)
  show W p l e ({ frames := 3, cells := 0, slots := 0, locals := 70 } : Room) s m ([.ref (b 0), .int x, .int y] : List Value).toArray below meth c s.heap [] 0 0 Q (F0 m 0 ls [])
  refine lv_aload_n hx hb dX5_knows_0 rfl (lv_at hl 0 rfl) ?_
  refine lv_iconst (v := (nI 0)) hx hb dX5_knows_1 (by decide) ?_
  refine xput (D := D) (ci := 5) (v := .int (nI 0)) (ty := .int) (C := RX5) (T := TX5) (N := 15) (ws' := rc cs b (wr M 0 0 (nI 0))) hx hb hts hinX5 tyX5 tyX5_ok nmX5 hown hK1 hP (rD hI) hS 0 rfl rfl 0 (by decide) (hts (.fieldLink RX5 44 "KnowledgeModelModel" "thrown" "I") (List.mem_of_getElem? (i := 1) rfl)) (fun _ h9 => h9) rfl (by decide +kernel) rfl rfl (Nat.le_of_ble_eq_true rfl) rfl dX5_knows_2 (fun H locs hP hS => ?_)
  obtain ⟨M_1, hM_1⟩ : ∃ z, z = wr M 0 0 (nI 0) := ⟨_, rfl⟩
  rw [← hM_1] at hP
  have hk_2 : M_1 0 3 = nI nf := by rw [hM_1]; exact (wr_ne (Or.inr (by decide))).trans hfc
  have hk_3 : M_1 0 0 = nI 0 := by rw [hM_1]; exact wr_same
  refine lv_iload_n hx hb dX5_knows_5 rfl (lv_at hl 1 rfl) ?_
  refine xcalli (va_runS (As := [.int x]) (rest := []) ⟨hx, hb, hml, hown, hts⟩ (c_X5_isAgent l x) (va_cwS 1 hts gX5_knows_X5_isAgent rfl rfl rfl (by decide +kernel) ⟨Nat.le_of_ble_eq_true rfl, Nat.le_of_ble_eq_true rfl⟩) xpreN rfl rfl hl.1 rfl (lv_room (Nat.le_of_ble_eq_true rfl)) dX5_knows_6 ⟨Nat.le_of_ble_eq_true rfl, Nat.le_of_ble_eq_true rfl⟩) hS hP (fun H locs hP hS => ?_)
  refine lv_if_eq (tgt := 44) hx hb dX5_knows_9 (by decide) (fun c9 => ?_) (fun c9 => ?_)
  ·
    replace c9 := bI_0 c9
    refine lv_aload_n hx hb dX5_knows_44 rfl (lv_at hl 0 rfl) ?_
    refine lv_iconst (v := (nI 1)) hx hb dX5_knows_45 (by decide) ?_
    refine xcallwi (va_runV (As := [.int (nI 1)]) (rest := []) ⟨hx, hb, hml, hown, hts⟩ (c_X5_no l D cs b M_1 _ hI (nI 1)) (cwV 1 hts gX5_knows_X5_no rfl rfl rfl (by decide +kernel) ⟨Nat.le_of_ble_eq_true rfl, Nat.le_of_ble_eq_true rfl⟩) (xpreVs hP hK (ci := 5) 0 rfl rfl) rfl rfl hl.1 rfl (lv_room (Nat.le_of_ble_eq_true rfl)) dX5_knows_46 ⟨Nat.le_of_ble_eq_true rfl, Nat.le_of_ble_eq_true rfl⟩) hS (kAle hS.1) (fun u_4 H locs hu_4 hP _ _ hS => ?_)
    have hP : va_P D vwCl (rc cs b (wr M_1 0 0 (nI 1))) H := hP
    obtain ⟨M_5, hM_5⟩ : ∃ z, z = wr M_1 0 0 (nI 1) := ⟨_, rfl⟩
    rw [← hM_5] at hP
    have hk_8 : M_5 0 3 = nI nf := by rw [hM_5]; exact (wr_ne (Or.inr (by decide))).trans hk_2
    subst hQ
    have hMfin : M_5 = (if (isIn 4 x && isIn nf y) = true then crt (wr M 0 0 (nI 0)) nf 3 x y (nI 1 + M 6 y.toNatClampNeg) (M 7 y.toNatClampNeg) else wr M 0 0 (nI 1)) := by simp only [Bool.and_self, Bool.and_false, Bool.false_and, wr_wr, if_true, if_false, Bool.false_eq_true, Nat.one_ne_zero, hM_1, c9, hM_5]
    rw [hMfin] at hP
    have hrel : True := by trivial
    have hfin : (nI 0) = (if (isIn 4 x && isIn nf y) = true then (if nf = 40 then nI 0 else nI nf) else nI 0) := by simp only [Bool.and_self, Bool.and_false, Bool.false_and, wr_wr, if_true, if_false, Bool.false_eq_true, Nat.one_ne_zero, hM_1, c9, hM_5]
    exact W.iret hx hb hr (fun t ht hW => ⟨⟨_, (), rfl, ⟨hfin, hrel⟩, by rw [← ht] at hP; exact hP⟩, hS.F ht⟩) hS.2.2 dX5_knows_49
  ·
    replace c9 := bI_n0 c9
    refine lv_aload_n hx hb dX5_knows_12 rfl (lv_at hl 0 rfl) ?_
    refine lv_iload_n hx hb dX5_knows_13 rfl (lv_at hl 2 rfl) ?_
    refine xcalli (va_runV (As := [.int y]) (rest := []) ⟨hx, hb, hml, hown, hts⟩ (c_X5_isFormula l D cs b M_1 nf y hk_2) (cwV 1 hts gX5_knows_X5_isFormula rfl rfl rfl (by decide +kernel) ⟨Nat.le_of_ble_eq_true rfl, Nat.le_of_ble_eq_true rfl⟩) (xpreV hP hK (ci := 5) 0 rfl rfl) rfl rfl hl.1 rfl (lv_room (Nat.le_of_ble_eq_true rfl)) dX5_knows_14 ⟨Nat.le_of_ble_eq_true rfl, Nat.le_of_ble_eq_true rfl⟩) hS hP (fun H locs hP hS => ?_)
    refine lv_if_eq (tgt := 44) hx hb dX5_knows_17 (by decide) (fun c17 => ?_) (fun c17 => ?_)
    ·
      replace c17 := bI_0 c17
      refine lv_aload_n hx hb dX5_knows_44 rfl (lv_at hl 0 rfl) ?_
      refine lv_iconst (v := (nI 1)) hx hb dX5_knows_45 (by decide) ?_
      refine xcallwi (va_runV (As := [.int (nI 1)]) (rest := []) ⟨hx, hb, hml, hown, hts⟩ (c_X5_no l D cs b M_1 _ hI (nI 1)) (cwV 1 hts gX5_knows_X5_no rfl rfl rfl (by decide +kernel) ⟨Nat.le_of_ble_eq_true rfl, Nat.le_of_ble_eq_true rfl⟩) (xpreVs hP hK (ci := 5) 0 rfl rfl) rfl rfl hl.1 rfl (lv_room (Nat.le_of_ble_eq_true rfl)) dX5_knows_46 ⟨Nat.le_of_ble_eq_true rfl, Nat.le_of_ble_eq_true rfl⟩) hS (kAle hS.1) (fun u_9 H locs hu_9 hP _ _ hS => ?_)
      have hP : va_P D vwCl (rc cs b (wr M_1 0 0 (nI 1))) H := hP
      obtain ⟨M_10, hM_10⟩ : ∃ z, z = wr M_1 0 0 (nI 1) := ⟨_, rfl⟩
      rw [← hM_10] at hP
      have hk_13 : M_10 0 3 = nI nf := by rw [hM_10]; exact (wr_ne (Or.inr (by decide))).trans hk_2
      subst hQ
      have hMfin : M_10 = (if (isIn 4 x && isIn nf y) = true then crt (wr M 0 0 (nI 0)) nf 3 x y (nI 1 + M 6 y.toNatClampNeg) (M 7 y.toNatClampNeg) else wr M 0 0 (nI 1)) := by simp only [Bool.and_self, Bool.and_false, Bool.false_and, wr_wr, if_true, if_false, Bool.false_eq_true, Nat.one_ne_zero, hM_1, c9, c17, hM_10]
      rw [hMfin] at hP
      have hrel : True := by trivial
      have hfin : (nI 0) = (if (isIn 4 x && isIn nf y) = true then (if nf = 40 then nI 0 else nI nf) else nI 0) := by simp only [Bool.and_self, Bool.and_false, Bool.false_and, wr_wr, if_true, if_false, Bool.false_eq_true, Nat.one_ne_zero, hM_1, c9, c17, hM_10]
      exact W.iret hx hb hr (fun t ht hW => ⟨⟨_, (), rfl, ⟨hfin, hrel⟩, by rw [← ht] at hP; exact hP⟩, hS.F ht⟩) hS.2.2 dX5_knows_49
    ·
      replace c17 := bI_n0 c17
      obtain ⟨hlt_y, heq_y⟩ := isIn_eq (by omega) c17
      refine lv_aload_n hx hb dX5_knows_20 rfl (lv_at hl 0 rfl) ?_
      refine lv_iconst (v := (nI 3)) hx hb dX5_knows_21 (by decide) ?_
      refine lv_iload_n hx hb dX5_knows_22 rfl (lv_at hl 1 rfl) ?_
      refine lv_iload_n hx hb dX5_knows_23 rfl (lv_at hl 2 rfl) ?_
      refine lv_iconst (v := (nI 1)) hx hb dX5_knows_24 (by decide) ?_
      refine lv_aload_n hx hb dX5_knows_25 rfl (lv_at hl 0 rfl) ?_
      refine va_get (D := D) (ci := 5) (v := .ref (b 6)) (C := RX5) (T := TX5) (N := 15) hx hb hts hinX5 hown hK1 hP 0 rfl rfl 9 (by decide) (hts (.fieldLink RX5 25 "KnowledgeModelModel" "depths" "[I") (List.mem_of_getElem? (i := 2) rfl)) (fun _ h9 => h9) rfl dX5_knows_26 ?_
      refine lv_iload_n hx hb dX5_knows_29 rfl (lv_at hl 2 rfl) ?_
      refine xtop (y := nI y.toNatClampNeg) (by exact heq_y) ?_
      refine xiald (j := y.toNatClampNeg) (q0 := 6) (t0 := 0) hx hb hK1 hP rfl rfl (by omega) (by decide) dX5_knows_30 ?_
      refine xtop (y := (M 6 y.toNatClampNeg)) (by simp only [hM_1]; rfl) ?_
      refine lv_iadd hx hb dX5_knows_31 ?_
      refine lv_aload_n hx hb dX5_knows_32 rfl (lv_at hl 0 rfl) ?_
      refine va_get (D := D) (ci := 5) (v := .ref (b 7)) (C := RX5) (T := TX5) (N := 15) hx hb hts hinX5 hown hK1 hP 0 rfl rfl 10 (by decide) (hts (.fieldLink RX5 28 "KnowledgeModelModel" "nestings" "[I") (List.mem_of_getElem? (i := 3) rfl)) (fun _ h9 => h9) rfl dX5_knows_33 ?_
      refine lv_iload_n hx hb dX5_knows_36 rfl (lv_at hl 2 rfl) ?_
      refine xtop (y := nI y.toNatClampNeg) (by exact heq_y) ?_
      refine xiald (j := y.toNatClampNeg) (q0 := 7) (t0 := 0) hx hb hK1 hP rfl rfl (by omega) (by decide) dX5_knows_37 ?_
      refine xtop (y := (M 7 y.toNatClampNeg)) (by simp only [hM_1]; rfl) ?_
      refine xcallwi (va_runV (As := [.int (nI 3), .int x, .int y, .int ((nI 1) + (M 6 y.toNatClampNeg)), .int (M 7 y.toNatClampNeg)]) (rest := []) ⟨hx, hb, hml, hown, hts⟩ (c_X5_create l D cs b M_1 _ hI nf 3 x y ((nI 1) + (M 6 y.toNatClampNeg)) (M 7 y.toNatClampNeg) (by omega) hk_2 (by omega)) (cwV 5 hts gX5_knows_X5_create rfl rfl rfl (by decide +kernel) ⟨Nat.le_of_ble_eq_true rfl, Nat.le_of_ble_eq_true rfl⟩) (xpreVs hP hK (ci := 5) 0 rfl rfl) rfl rfl hl.1 rfl (lv_room (Nat.le_of_ble_eq_true rfl)) dX5_knows_38 ⟨Nat.le_of_ble_eq_true rfl, Nat.le_of_ble_eq_true rfl⟩) hS (kAle hS.1) (fun u_14 H locs hu_14 hP _ _ hS => ?_)
      have hP : va_P D vwCl (rc cs b (crt M_1 nf 3 x y ((nI 1) + (M 6 y.toNatClampNeg)) (M 7 y.toNatClampNeg))) H := hP
      obtain ⟨M_15, hM_15⟩ : ∃ z, z = crt M_1 nf 3 x y ((nI 1) + (M 6 y.toNatClampNeg)) (M 7 y.toNatClampNeg) := ⟨_, rfl⟩
      rw [← hM_15] at hP
      refine lv_goto (tgt := 49) hx hb dX5_knows_41 (by decide) ?_
      subst hQ
      have hMfin : M_15 = (if (isIn 4 x && isIn nf y) = true then crt (wr M 0 0 (nI 0)) nf 3 x y (nI 1 + M 6 y.toNatClampNeg) (M 7 y.toNatClampNeg) else wr M 0 0 (nI 1)) := by simp only [Bool.and_self, Bool.and_false, Bool.false_and, wr_wr, if_true, if_false, Bool.false_eq_true, Nat.one_ne_zero, hM_1, c9, c17, hM_15]
      rw [hMfin] at hP
      have hrel : True := by trivial
      have hfin : (if nf = 40 then nI 0 else nI nf) = (if (isIn 4 x && isIn nf y) = true then (if nf = 40 then nI 0 else nI nf) else nI 0) := by simp only [Bool.and_self, Bool.and_false, Bool.false_and, wr_wr, if_true, if_false, Bool.false_eq_true, Nat.one_ne_zero, hM_1, c9, c17, hM_15]
      exact W.iret hx hb hr (fun t ht hW => ⟨⟨_, (), rfl, ⟨hfin, hrel⟩, by rw [← ht] at hP; exact hP⟩, hS.F ht⟩) hS.2.2 dX5_knows_49

set_option maxHeartbeats 4000000 in
set_option maxRecDepth 100000 in
theorem c_X5_ofGroup (l : Launch) (D : va_G) (cs : Nat → ClassId) (b : Nat → Nat) (M : Nat → Nat → Int32) (sz : Nat) (hI : kI b 12)  (nf : Nat) (on : Bool) (g : Int32) (y : Int32) (hfc : M 0 3 = nI nf) (hf40 : nf ≤ 40) : Met l yX5_ofGroup wsX5_ofGroup ({ frames := 3, cells := 0, slots := 0, locals := 70 } : Room) (va_Pc [.ref (b 0), .int (bI on), .int g, .int y] (XBs D cs (rc cs b M) sz)) (va_Qi (fun r (u : Unit) => r = (if isIn nf y = true then (if isGr g = true then (if nf = 40 then nI 0 else nI nf) else nI 0) else nI 0) ∧ True) (fun (u : Unit) t => va_P D vwCl (rc cs b ((if isIn nf y = true then (if isGr g = true then crt (wr M 0 0 (nI 0)) nf (if on = true then 4 else 5) g y (nI 1 + M 6 y.toNatClampNeg) (M 7 y.toNatClampNeg) else wr M 0 0 (nI 2)) else wr M 0 0 (nI 1)))) t.heap) (kA b 12 sz)) 0 0 (kA b 12 sz) := by
  refine Met.ofW (cc := cX5_ofGroup) (maxL := 4) (ret := (some .int)) (by decide) rfl ?_
  intro p e s m args below meth c s₁ B hml hv
  obtain ⟨rfl, hsz, hP, hK⟩ := hv
  have hx := B.exec
  have hb := B.bytes
  have hr := B.returns
  have hts := atoms_spec (ws := wsX5_ofGroup) B.pre
  have hown : s.vm.findClass RX5 = some m.cls := findClass_of_methodNamed B.named
  have hlocks := B.notSynchronized
  have hK1 := hK.1
  have hinX5 : ∀ w ∈ wsX50, w ∈ wsX5_ofGroup := fun w h => List.mem_cons_of_mem _ (List.mem_append_right _ h)
  subst hsz
  have hS : va_S (kA b 12 s.heap.size) s.heap s.heap [] := va_S.rf
  have hl := lv_entry ([.ref (b 0), .int (bI on), .int g, .int y]) (n := 4) (Nat.le_of_ble_eq_true rfl)
  rw [lg_entry_eq]
  generalize (lg_sl ([.ref (b 0), .int (bI on), .int g, .int y]) ++ List.replicate (4 - (lg_sl ([.ref (b 0), .int (bI on), .int g, .int y])).length) Slot.unset).toArray = ls at hl ⊢
  have hl : lv_has ls 4 [(0, .ref (b 0)), (1, .int (bI on)), (2, .int g), (3, .int y)] := hl
  refine W_Q (fun Q hQ => ?_)
  show W p l e ({ frames := 3, cells := 0, slots := 0, locals := 70 } : Room) s m ([.ref (b 0), .int (bI on), .int g, .int y] : List Value).toArray below meth c s.heap [] 0 0 Q (F0 m 0 ls [])
  refine lv_aload_n hx hb dX5_ofGroup_0 rfl (lv_at hl 0 rfl) ?_
  refine lv_iconst (v := (nI 0)) hx hb dX5_ofGroup_1 (by decide) ?_
  refine xput (D := D) (ci := 5) (v := .int (nI 0)) (ty := .int) (C := RX5) (T := TX5) (N := 15) (ws' := rc cs b (wr M 0 0 (nI 0))) hx hb hts hinX5 tyX5 tyX5_ok nmX5 hown hK1 hP (rD hI) hS 0 rfl rfl 0 (by decide) (hts (.fieldLink RX5 44 "KnowledgeModelModel" "thrown" "I") (List.mem_of_getElem? (i := 1) rfl)) (fun _ h9 => h9) rfl (by decide +kernel) rfl rfl (Nat.le_of_ble_eq_true rfl) rfl dX5_ofGroup_2 (fun H locs hP hS => ?_)
  obtain ⟨M_1, hM_1⟩ : ∃ z, z = wr M 0 0 (nI 0) := ⟨_, rfl⟩
  rw [← hM_1] at hP
  have hk_2 : M_1 0 3 = nI nf := by rw [hM_1]; exact (wr_ne (Or.inr (by decide))).trans hfc
  have hk_3 : M_1 0 0 = nI 0 := by rw [hM_1]; exact wr_same
  refine lv_aload_n hx hb dX5_ofGroup_5 rfl (lv_at hl 0 rfl) ?_
  refine lv_iload_n hx hb dX5_ofGroup_6 rfl (lv_at hl 3 rfl) ?_
  refine xcalli (va_runV (As := [.int y]) (rest := []) ⟨hx, hb, hml, hown, hts⟩ (c_X5_isFormula l D cs b M_1 nf y hk_2) (cwV 1 hts gX5_ofGroup_X5_isFormula rfl rfl rfl (by decide +kernel) ⟨Nat.le_of_ble_eq_true rfl, Nat.le_of_ble_eq_true rfl⟩) (xpreV hP hK (ci := 5) 0 rfl rfl) rfl rfl hl.1 rfl (lv_room (Nat.le_of_ble_eq_true rfl)) dX5_ofGroup_7 ⟨Nat.le_of_ble_eq_true rfl, Nat.le_of_ble_eq_true rfl⟩) hS hP (fun H locs hP hS => ?_)
  refine lv_if_ne (tgt := 19) hx hb dX5_ofGroup_10 (by decide) (fun c10 => ?_) (fun c10 => ?_)
  ·
    replace c10 := bI_n0 c10
    refine lv_iload_n hx hb dX5_ofGroup_19 rfl (lv_at hl 2 rfl) ?_
    refine xcalli (va_runS (As := [.int g]) (rest := []) ⟨hx, hb, hml, hown, hts⟩ (c_X5_isGroup l g) (va_cwS 1 hts gX5_ofGroup_X5_isGroup rfl rfl rfl (by decide +kernel) ⟨Nat.le_of_ble_eq_true rfl, Nat.le_of_ble_eq_true rfl⟩) xpreN rfl rfl hl.1 rfl (lv_room (Nat.le_of_ble_eq_true rfl)) dX5_ofGroup_20 ⟨Nat.le_of_ble_eq_true rfl, Nat.le_of_ble_eq_true rfl⟩) hS hP (fun H locs hP hS => ?_)
    refine lv_if_eq (tgt := 58) hx hb dX5_ofGroup_23 (by decide) (fun c23 => ?_) (fun c23 => ?_)
    ·
      replace c23 := bI_0 c23
      refine lv_aload_n hx hb dX5_ofGroup_58 rfl (lv_at hl 0 rfl) ?_
      refine lv_iconst (v := (nI 2)) hx hb dX5_ofGroup_59 (by decide) ?_
      refine xcallwi (va_runV (As := [.int (nI 2)]) (rest := []) ⟨hx, hb, hml, hown, hts⟩ (c_X5_no l D cs b M_1 _ hI (nI 2)) (cwV 1 hts gX5_ofGroup_X5_no rfl rfl rfl (by decide +kernel) ⟨Nat.le_of_ble_eq_true rfl, Nat.le_of_ble_eq_true rfl⟩) (xpreVs hP hK (ci := 5) 0 rfl rfl) rfl rfl hl.1 rfl (lv_room (Nat.le_of_ble_eq_true rfl)) dX5_ofGroup_60 ⟨Nat.le_of_ble_eq_true rfl, Nat.le_of_ble_eq_true rfl⟩) hS (kAle hS.1) (fun u_4 H locs hu_4 hP _ _ hS => ?_)
      have hP : va_P D vwCl (rc cs b (wr M_1 0 0 (nI 2))) H := hP
      obtain ⟨M_5, hM_5⟩ : ∃ z, z = wr M_1 0 0 (nI 2) := ⟨_, rfl⟩
      rw [← hM_5] at hP
      have hk_8 : M_5 0 3 = nI nf := by rw [hM_5]; exact (wr_ne (Or.inr (by decide))).trans hk_2
      subst hQ
      have hMfin : M_5 = (if isIn nf y = true then (if isGr g = true then crt (wr M 0 0 (nI 0)) nf (if on = true then 4 else 5) g y (nI 1 + M 6 y.toNatClampNeg) (M 7 y.toNatClampNeg) else wr M 0 0 (nI 2)) else wr M 0 0 (nI 1)) := by simp only [wr_wr, if_true, if_false, Bool.false_eq_true, Nat.one_ne_zero, hM_1, c10, c23, hM_5]
      rw [hMfin] at hP
      have hrel : True := by trivial
      have hfin : (nI 0) = (if isIn nf y = true then (if isGr g = true then (if nf = 40 then nI 0 else nI nf) else nI 0) else nI 0) := by simp only [wr_wr, if_true, if_false, Bool.false_eq_true, Nat.one_ne_zero, hM_1, c10, c23, hM_5]
      exact W.iret hx hb hr (fun t ht hW => ⟨⟨_, (), rfl, ⟨hfin, hrel⟩, by rw [← ht] at hP; exact hP⟩, hS.F ht⟩) hS.2.2 dX5_ofGroup_63
    ·
      replace c23 := bI_n0 c23
      obtain ⟨hlt_y, heq_y⟩ := isIn_eq (by omega) c10
      refine lv_aload_n hx hb dX5_ofGroup_26 rfl (lv_at hl 0 rfl) ?_
      refine lv_iload_n hx hb dX5_ofGroup_27 rfl (lv_at hl 1 rfl) ?_
      refine lv_if_eq (tgt := 35) hx hb dX5_ofGroup_28 (by decide) (fun c28 => ?_) (fun c28 => ?_)
      ·
        replace c28 := bI_0 c28
        refine lv_iconst (v := (nI 5)) hx hb dX5_ofGroup_35 (by decide) ?_
        refine lv_iload_n hx hb dX5_ofGroup_36 rfl (lv_at hl 2 rfl) ?_
        refine lv_iload_n hx hb dX5_ofGroup_37 rfl (lv_at hl 3 rfl) ?_
        refine lv_iconst (v := (nI 1)) hx hb dX5_ofGroup_38 (by decide) ?_
        refine lv_aload_n hx hb dX5_ofGroup_39 rfl (lv_at hl 0 rfl) ?_
        refine va_get (D := D) (ci := 5) (v := .ref (b 6)) (C := RX5) (T := TX5) (N := 15) hx hb hts hinX5 hown hK1 hP 0 rfl rfl 9 (by decide) (hts (.fieldLink RX5 25 "KnowledgeModelModel" "depths" "[I") (List.mem_of_getElem? (i := 2) rfl)) (fun _ h9 => h9) rfl dX5_ofGroup_40 ?_
        refine lv_iload_n hx hb dX5_ofGroup_43 rfl (lv_at hl 3 rfl) ?_
        refine xtop (y := nI y.toNatClampNeg) (by exact heq_y) ?_
        refine xiald (j := y.toNatClampNeg) (q0 := 6) (t0 := 0) hx hb hK1 hP rfl rfl (by omega) (by decide) dX5_ofGroup_44 ?_
        refine xtop (y := (M 6 y.toNatClampNeg)) (by simp only [hM_1]; rfl) ?_
        refine lv_iadd hx hb dX5_ofGroup_45 ?_
        refine lv_aload_n hx hb dX5_ofGroup_46 rfl (lv_at hl 0 rfl) ?_
        refine va_get (D := D) (ci := 5) (v := .ref (b 7)) (C := RX5) (T := TX5) (N := 15) hx hb hts hinX5 hown hK1 hP 0 rfl rfl 10 (by decide) (hts (.fieldLink RX5 28 "KnowledgeModelModel" "nestings" "[I") (List.mem_of_getElem? (i := 3) rfl)) (fun _ h9 => h9) rfl dX5_ofGroup_47 ?_
        refine lv_iload_n hx hb dX5_ofGroup_50 rfl (lv_at hl 3 rfl) ?_
        refine xtop (y := nI y.toNatClampNeg) (by exact heq_y) ?_
        refine xiald (j := y.toNatClampNeg) (q0 := 7) (t0 := 0) hx hb hK1 hP rfl rfl (by omega) (by decide) dX5_ofGroup_51 ?_
        refine xtop (y := (M 7 y.toNatClampNeg)) (by simp only [hM_1]; rfl) ?_
        refine xcallwi (va_runV (As := [.int (nI 5), .int g, .int y, .int ((nI 1) + (M 6 y.toNatClampNeg)), .int (M 7 y.toNatClampNeg)]) (rest := []) ⟨hx, hb, hml, hown, hts⟩ (c_X5_create l D cs b M_1 _ hI nf 5 g y ((nI 1) + (M 6 y.toNatClampNeg)) (M 7 y.toNatClampNeg) (by omega) hk_2 (by omega)) (cwV 5 hts gX5_ofGroup_X5_create rfl rfl rfl (by decide +kernel) ⟨Nat.le_of_ble_eq_true rfl, Nat.le_of_ble_eq_true rfl⟩) (xpreVs hP hK (ci := 5) 0 rfl rfl) rfl rfl hl.1 rfl (lv_room (Nat.le_of_ble_eq_true rfl)) dX5_ofGroup_52 ⟨Nat.le_of_ble_eq_true rfl, Nat.le_of_ble_eq_true rfl⟩) hS (kAle hS.1) (fun u_9 H locs hu_9 hP _ _ hS => ?_)
        have hP : va_P D vwCl (rc cs b (crt M_1 nf 5 g y ((nI 1) + (M 6 y.toNatClampNeg)) (M 7 y.toNatClampNeg))) H := hP
        obtain ⟨M_10, hM_10⟩ : ∃ z, z = crt M_1 nf 5 g y ((nI 1) + (M 6 y.toNatClampNeg)) (M 7 y.toNatClampNeg) := ⟨_, rfl⟩
        rw [← hM_10] at hP
        refine lv_goto (tgt := 63) hx hb dX5_ofGroup_55 (by decide) ?_
        subst hQ
        have hMfin : M_10 = (if isIn nf y = true then (if isGr g = true then crt (wr M 0 0 (nI 0)) nf (if on = true then 4 else 5) g y (nI 1 + M 6 y.toNatClampNeg) (M 7 y.toNatClampNeg) else wr M 0 0 (nI 2)) else wr M 0 0 (nI 1)) := by simp only [wr_wr, if_true, if_false, Bool.false_eq_true, Nat.one_ne_zero, hM_1, c10, c23, c28, hM_10]
        rw [hMfin] at hP
        have hrel : True := by trivial
        have hfin : (if nf = 40 then nI 0 else nI nf) = (if isIn nf y = true then (if isGr g = true then (if nf = 40 then nI 0 else nI nf) else nI 0) else nI 0) := by simp only [wr_wr, if_true, if_false, Bool.false_eq_true, Nat.one_ne_zero, hM_1, c10, c23, c28, hM_10]
        exact W.iret hx hb hr (fun t ht hW => ⟨⟨_, (), rfl, ⟨hfin, hrel⟩, by rw [← ht] at hP; exact hP⟩, hS.F ht⟩) hS.2.2 dX5_ofGroup_63
      ·
        replace c28 := bI_n0 c28
        refine lv_iconst (v := (nI 4)) hx hb dX5_ofGroup_31 (by decide) ?_
        refine lv_goto (tgt := 36) hx hb dX5_ofGroup_32 (by decide) ?_
        refine lv_iload_n hx hb dX5_ofGroup_36 rfl (lv_at hl 2 rfl) ?_
        refine lv_iload_n hx hb dX5_ofGroup_37 rfl (lv_at hl 3 rfl) ?_
        refine lv_iconst (v := (nI 1)) hx hb dX5_ofGroup_38 (by decide) ?_
        refine lv_aload_n hx hb dX5_ofGroup_39 rfl (lv_at hl 0 rfl) ?_
        refine va_get (D := D) (ci := 5) (v := .ref (b 6)) (C := RX5) (T := TX5) (N := 15) hx hb hts hinX5 hown hK1 hP 0 rfl rfl 9 (by decide) (hts (.fieldLink RX5 25 "KnowledgeModelModel" "depths" "[I") (List.mem_of_getElem? (i := 2) rfl)) (fun _ h9 => h9) rfl dX5_ofGroup_40 ?_
        refine lv_iload_n hx hb dX5_ofGroup_43 rfl (lv_at hl 3 rfl) ?_
        refine xtop (y := nI y.toNatClampNeg) (by exact heq_y) ?_
        refine xiald (j := y.toNatClampNeg) (q0 := 6) (t0 := 0) hx hb hK1 hP rfl rfl (by omega) (by decide) dX5_ofGroup_44 ?_
        refine xtop (y := (M 6 y.toNatClampNeg)) (by simp only [hM_1]; rfl) ?_
        refine lv_iadd hx hb dX5_ofGroup_45 ?_
        refine lv_aload_n hx hb dX5_ofGroup_46 rfl (lv_at hl 0 rfl) ?_
        refine va_get (D := D) (ci := 5) (v := .ref (b 7)) (C := RX5) (T := TX5) (N := 15) hx hb hts hinX5 hown hK1 hP 0 rfl rfl 10 (by decide) (hts (.fieldLink RX5 28 "KnowledgeModelModel" "nestings" "[I") (List.mem_of_getElem? (i := 3) rfl)) (fun _ h9 => h9) rfl dX5_ofGroup_47 ?_
        refine lv_iload_n hx hb dX5_ofGroup_50 rfl (lv_at hl 3 rfl) ?_
        refine xtop (y := nI y.toNatClampNeg) (by exact heq_y) ?_
        refine xiald (j := y.toNatClampNeg) (q0 := 7) (t0 := 0) hx hb hK1 hP rfl rfl (by omega) (by decide) dX5_ofGroup_51 ?_
        refine xtop (y := (M 7 y.toNatClampNeg)) (by simp only [hM_1]; rfl) ?_
        refine xcallwi (va_runV (As := [.int (nI 4), .int g, .int y, .int ((nI 1) + (M 6 y.toNatClampNeg)), .int (M 7 y.toNatClampNeg)]) (rest := []) ⟨hx, hb, hml, hown, hts⟩ (c_X5_create l D cs b M_1 _ hI nf 4 g y ((nI 1) + (M 6 y.toNatClampNeg)) (M 7 y.toNatClampNeg) (by omega) hk_2 (by omega)) (cwV 5 hts gX5_ofGroup_X5_create rfl rfl rfl (by decide +kernel) ⟨Nat.le_of_ble_eq_true rfl, Nat.le_of_ble_eq_true rfl⟩) (xpreVs hP hK (ci := 5) 0 rfl rfl) rfl rfl hl.1 rfl (lv_room (Nat.le_of_ble_eq_true rfl)) dX5_ofGroup_52 ⟨Nat.le_of_ble_eq_true rfl, Nat.le_of_ble_eq_true rfl⟩) hS (kAle hS.1) (fun u_11 H locs hu_11 hP _ _ hS => ?_)
        have hP : va_P D vwCl (rc cs b (crt M_1 nf 4 g y ((nI 1) + (M 6 y.toNatClampNeg)) (M 7 y.toNatClampNeg))) H := hP
        obtain ⟨M_12, hM_12⟩ : ∃ z, z = crt M_1 nf 4 g y ((nI 1) + (M 6 y.toNatClampNeg)) (M 7 y.toNatClampNeg) := ⟨_, rfl⟩
        rw [← hM_12] at hP
        refine lv_goto (tgt := 63) hx hb dX5_ofGroup_55 (by decide) ?_
        subst hQ
        have hMfin : M_12 = (if isIn nf y = true then (if isGr g = true then crt (wr M 0 0 (nI 0)) nf (if on = true then 4 else 5) g y (nI 1 + M 6 y.toNatClampNeg) (M 7 y.toNatClampNeg) else wr M 0 0 (nI 2)) else wr M 0 0 (nI 1)) := by simp only [wr_wr, if_true, if_false, Bool.false_eq_true, Nat.one_ne_zero, hM_1, c10, c23, c28, hM_12]
        rw [hMfin] at hP
        have hrel : True := by trivial
        have hfin : (if nf = 40 then nI 0 else nI nf) = (if isIn nf y = true then (if isGr g = true then (if nf = 40 then nI 0 else nI nf) else nI 0) else nI 0) := by simp only [wr_wr, if_true, if_false, Bool.false_eq_true, Nat.one_ne_zero, hM_1, c10, c23, c28, hM_12]
        exact W.iret hx hb hr (fun t ht hW => ⟨⟨_, (), rfl, ⟨hfin, hrel⟩, by rw [← ht] at hP; exact hP⟩, hS.F ht⟩) hS.2.2 dX5_ofGroup_63
  ·
    replace c10 := bI_0 c10
    refine lv_aload_n hx hb dX5_ofGroup_13 rfl (lv_at hl 0 rfl) ?_
    refine lv_iconst (v := (nI 1)) hx hb dX5_ofGroup_14 (by decide) ?_
    refine xcallwi (va_runV (As := [.int (nI 1)]) (rest := []) ⟨hx, hb, hml, hown, hts⟩ (c_X5_no l D cs b M_1 _ hI (nI 1)) (cwV 1 hts gX5_ofGroup_X5_no rfl rfl rfl (by decide +kernel) ⟨Nat.le_of_ble_eq_true rfl, Nat.le_of_ble_eq_true rfl⟩) (xpreVs hP hK (ci := 5) 0 rfl rfl) rfl rfl hl.1 rfl (lv_room (Nat.le_of_ble_eq_true rfl)) dX5_ofGroup_15 ⟨Nat.le_of_ble_eq_true rfl, Nat.le_of_ble_eq_true rfl⟩) hS (kAle hS.1) (fun u_13 H locs hu_13 hP _ _ hS => ?_)
    have hP : va_P D vwCl (rc cs b (wr M_1 0 0 (nI 1))) H := hP
    obtain ⟨M_14, hM_14⟩ : ∃ z, z = wr M_1 0 0 (nI 1) := ⟨_, rfl⟩
    rw [← hM_14] at hP
    have hk_17 : M_14 0 3 = nI nf := by rw [hM_14]; exact (wr_ne (Or.inr (by decide))).trans hk_2
    subst hQ
    have hMfin : M_14 = (if isIn nf y = true then (if isGr g = true then crt (wr M 0 0 (nI 0)) nf (if on = true then 4 else 5) g y (nI 1 + M 6 y.toNatClampNeg) (M 7 y.toNatClampNeg) else wr M 0 0 (nI 2)) else wr M 0 0 (nI 1)) := by simp only [wr_wr, if_true, if_false, Bool.false_eq_true, Nat.one_ne_zero, hM_1, c10, hM_14]
    rw [hMfin] at hP
    have hrel : True := by trivial
    have hfin : (nI 0) = (if isIn nf y = true then (if isGr g = true then (if nf = 40 then nI 0 else nI nf) else nI 0) else nI 0) := by simp only [wr_wr, if_true, if_false, Bool.false_eq_true, Nat.one_ne_zero, hM_1, c10, hM_14]
    exact W.iret hx hb hr (fun t ht hW => ⟨⟨_, (), rfl, ⟨hfin, hrel⟩, by rw [← ht] at hP; exact hP⟩, hS.F ht⟩) hS.2.2 dX5_ofGroup_18

set_option maxHeartbeats 4000000 in
set_option maxRecDepth 100000 in
theorem c_X5_after (l : Launch) (D : va_G) (cs : Nat → ClassId) (b : Nat → Nat) (M : Nat → Nat → Int32) (sz : Nat) (hI : kI b 12)  (nf : Nat) (x : Int32) (y : Int32) (hfc : M 0 3 = nI nf) (hf40 : nf ≤ 40) : Met l yX5_after wsX5_after ({ frames := 3, cells := 0, slots := 0, locals := 70 } : Room) (va_Pc [.ref (b 0), .int x, .int y] (XBs D cs (rc cs b M) sz)) (va_Qi (fun r (u : Unit) => r = (if (isIn nf x && isIn nf y) = true then (if nI 1 + mx (M 7 x.toNatClampNeg) (M 7 y.toNatClampNeg) < nI 3 then (if nf = 40 then nI 0 else nI nf) else nI 0) else nI 0) ∧ True) (fun (u : Unit) t => va_P D vwCl (rc cs b ((if (isIn nf x && isIn nf y) = true then (if nI 1 + mx (M 7 x.toNatClampNeg) (M 7 y.toNatClampNeg) < nI 3 then crt (wr M 0 0 (nI 0)) nf 6 x y (mx (M 6 x.toNatClampNeg) (M 6 y.toNatClampNeg)) (nI 1 + mx (M 7 x.toNatClampNeg) (M 7 y.toNatClampNeg)) else wr M 0 0 (nI 2)) else wr M 0 0 (nI 1)))) t.heap) (kA b 12 sz)) 0 0 (kA b 12 sz) := by
  refine Met.ofW (cc := cX5_after) (maxL := 4) (ret := (some .int)) (by decide) rfl ?_
  intro p e s m args below meth c s₁ B hml hv
  obtain ⟨rfl, hsz, hP, hK⟩ := hv
  have hx := B.exec
  have hb := B.bytes
  have hr := B.returns
  have hts := atoms_spec (ws := wsX5_after) B.pre
  have hown : s.vm.findClass RX5 = some m.cls := findClass_of_methodNamed B.named
  have hlocks := B.notSynchronized
  have hK1 := hK.1
  have hinX5 : ∀ w ∈ wsX50, w ∈ wsX5_after := fun w h => List.mem_cons_of_mem _ (List.mem_append_right _ h)
  subst hsz
  have hS : va_S (kA b 12 s.heap.size) s.heap s.heap [] := va_S.rf
  have hl := lv_entry ([.ref (b 0), .int x, .int y]) (n := 4) (Nat.le_of_ble_eq_true rfl)
  rw [lg_entry_eq]
  generalize (lg_sl ([.ref (b 0), .int x, .int y]) ++ List.replicate (4 - (lg_sl ([.ref (b 0), .int x, .int y])).length) Slot.unset).toArray = ls at hl ⊢
  have hl : lv_has ls 4 [(0, .ref (b 0)), (1, .int x), (2, .int y)] := hl
  refine W_Q (fun Q hQ => ?_)
  show W p l e ({ frames := 3, cells := 0, slots := 0, locals := 70 } : Room) s m ([.ref (b 0), .int x, .int y] : List Value).toArray below meth c s.heap [] 0 0 Q (F0 m 0 ls [])
  refine lv_aload_n hx hb dX5_after_0 rfl (lv_at hl 0 rfl) ?_
  refine lv_iconst (v := (nI 0)) hx hb dX5_after_1 (by decide) ?_
  refine xput (D := D) (ci := 5) (v := .int (nI 0)) (ty := .int) (C := RX5) (T := TX5) (N := 15) (ws' := rc cs b (wr M 0 0 (nI 0))) hx hb hts hinX5 tyX5 tyX5_ok nmX5 hown hK1 hP (rD hI) hS 0 rfl rfl 0 (by decide) (hts (.fieldLink RX5 44 "KnowledgeModelModel" "thrown" "I") (List.mem_of_getElem? (i := 1) rfl)) (fun _ h9 => h9) rfl (by decide +kernel) rfl rfl (Nat.le_of_ble_eq_true rfl) rfl dX5_after_2 (fun H locs hP hS => ?_)
  obtain ⟨M_1, hM_1⟩ : ∃ z, z = wr M 0 0 (nI 0) := ⟨_, rfl⟩
  rw [← hM_1] at hP
  have hk_2 : M_1 0 3 = nI nf := by rw [hM_1]; exact (wr_ne (Or.inr (by decide))).trans hfc
  have hk_3 : M_1 0 0 = nI 0 := by rw [hM_1]; exact wr_same
  refine lv_aload_n hx hb dX5_after_5 rfl (lv_at hl 0 rfl) ?_
  refine lv_iload_n hx hb dX5_after_6 rfl (lv_at hl 1 rfl) ?_
  refine xcalli (va_runV (As := [.int x]) (rest := []) ⟨hx, hb, hml, hown, hts⟩ (c_X5_isFormula l D cs b M_1 nf x hk_2) (cwV 1 hts gX5_after_X5_isFormula rfl rfl rfl (by decide +kernel) ⟨Nat.le_of_ble_eq_true rfl, Nat.le_of_ble_eq_true rfl⟩) (xpreV hP hK (ci := 5) 0 rfl rfl) rfl rfl hl.1 rfl (lv_room (Nat.le_of_ble_eq_true rfl)) dX5_after_7 ⟨Nat.le_of_ble_eq_true rfl, Nat.le_of_ble_eq_true rfl⟩) hS hP (fun H locs hP hS => ?_)
  refine lv_if_eq (tgt := 21) hx hb dX5_after_10 (by decide) (fun c10 => ?_) (fun c10 => ?_)
  ·
    replace c10 := bI_0 c10
    refine lv_aload_n hx hb dX5_after_21 rfl (lv_at hl 0 rfl) ?_
    refine lv_iconst (v := (nI 1)) hx hb dX5_after_22 (by decide) ?_
    refine xcallwi (va_runV (As := [.int (nI 1)]) (rest := []) ⟨hx, hb, hml, hown, hts⟩ (c_X5_no l D cs b M_1 _ hI (nI 1)) (cwV 1 hts gX5_after_X5_no rfl rfl rfl (by decide +kernel) ⟨Nat.le_of_ble_eq_true rfl, Nat.le_of_ble_eq_true rfl⟩) (xpreVs hP hK (ci := 5) 0 rfl rfl) rfl rfl hl.1 rfl (lv_room (Nat.le_of_ble_eq_true rfl)) dX5_after_23 ⟨Nat.le_of_ble_eq_true rfl, Nat.le_of_ble_eq_true rfl⟩) hS (kAle hS.1) (fun u_4 H locs hu_4 hP _ _ hS => ?_)
    have hP : va_P D vwCl (rc cs b (wr M_1 0 0 (nI 1))) H := hP
    obtain ⟨M_5, hM_5⟩ : ∃ z, z = wr M_1 0 0 (nI 1) := ⟨_, rfl⟩
    rw [← hM_5] at hP
    have hk_8 : M_5 0 3 = nI nf := by rw [hM_5]; exact (wr_ne (Or.inr (by decide))).trans hk_2
    subst hQ
    have hMfin : M_5 = (if (isIn nf x && isIn nf y) = true then (if nI 1 + mx (M 7 x.toNatClampNeg) (M 7 y.toNatClampNeg) < nI 3 then crt (wr M 0 0 (nI 0)) nf 6 x y (mx (M 6 x.toNatClampNeg) (M 6 y.toNatClampNeg)) (nI 1 + mx (M 7 x.toNatClampNeg) (M 7 y.toNatClampNeg)) else wr M 0 0 (nI 2)) else wr M 0 0 (nI 1)) := by simp only [Bool.and_self, Bool.and_false, Bool.false_and, wr_wr, if_true, if_false, Bool.false_eq_true, Nat.one_ne_zero, hM_1, c10, hM_5]
    rw [hMfin] at hP
    have hrel : True := by trivial
    have hfin : (nI 0) = (if (isIn nf x && isIn nf y) = true then (if nI 1 + mx (M 7 x.toNatClampNeg) (M 7 y.toNatClampNeg) < nI 3 then (if nf = 40 then nI 0 else nI nf) else nI 0) else nI 0) := by simp only [Bool.and_self, Bool.and_false, Bool.false_and, wr_wr, if_true, if_false, Bool.false_eq_true, Nat.one_ne_zero, hM_1, c10, hM_5]
    exact W.iret hx hb hr (fun t ht hW => ⟨⟨_, (), rfl, ⟨hfin, hrel⟩, by rw [← ht] at hP; exact hP⟩, hS.F ht⟩) hS.2.2 dX5_after_26
  ·
    replace c10 := bI_n0 c10
    refine lv_aload_n hx hb dX5_after_13 rfl (lv_at hl 0 rfl) ?_
    refine lv_iload_n hx hb dX5_after_14 rfl (lv_at hl 2 rfl) ?_
    refine xcalli (va_runV (As := [.int y]) (rest := []) ⟨hx, hb, hml, hown, hts⟩ (c_X5_isFormula l D cs b M_1 nf y hk_2) (cwV 1 hts gX5_after_X5_isFormula rfl rfl rfl (by decide +kernel) ⟨Nat.le_of_ble_eq_true rfl, Nat.le_of_ble_eq_true rfl⟩) (xpreV hP hK (ci := 5) 0 rfl rfl) rfl rfl hl.1 rfl (lv_room (Nat.le_of_ble_eq_true rfl)) dX5_after_15 ⟨Nat.le_of_ble_eq_true rfl, Nat.le_of_ble_eq_true rfl⟩) hS hP (fun H locs hP hS => ?_)
    refine lv_if_ne (tgt := 27) hx hb dX5_after_18 (by decide) (fun c18 => ?_) (fun c18 => ?_)
    ·
      replace c18 := bI_n0 c18
      obtain ⟨hlt_x, heq_x⟩ := isIn_eq (by omega) c10
      obtain ⟨hlt_y, heq_y⟩ := isIn_eq (by omega) c18
      refine lv_iconst (v := (nI 1)) hx hb dX5_after_27 (by decide) ?_
      refine lv_aload_n hx hb dX5_after_28 rfl (lv_at hl 0 rfl) ?_
      refine va_get (D := D) (ci := 5) (v := .ref (b 7)) (C := RX5) (T := TX5) (N := 15) hx hb hts hinX5 hown hK1 hP 0 rfl rfl 10 (by decide) (hts (.fieldLink RX5 28 "KnowledgeModelModel" "nestings" "[I") (List.mem_of_getElem? (i := 2) rfl)) (fun _ h9 => h9) rfl dX5_after_29 ?_
      refine lv_iload_n hx hb dX5_after_32 rfl (lv_at hl 1 rfl) ?_
      refine xtop (y := nI x.toNatClampNeg) (by exact heq_x) ?_
      refine xiald (j := x.toNatClampNeg) (q0 := 7) (t0 := 0) hx hb hK1 hP rfl rfl (by omega) (by decide) dX5_after_33 ?_
      refine xtop (y := (M 7 x.toNatClampNeg)) (by simp only [hM_1]; rfl) ?_
      refine lv_aload_n hx hb dX5_after_34 rfl (lv_at hl 0 rfl) ?_
      refine va_get (D := D) (ci := 5) (v := .ref (b 7)) (C := RX5) (T := TX5) (N := 15) hx hb hts hinX5 hown hK1 hP 0 rfl rfl 10 (by decide) (hts (.fieldLink RX5 28 "KnowledgeModelModel" "nestings" "[I") (List.mem_of_getElem? (i := 2) rfl)) (fun _ h9 => h9) rfl dX5_after_35 ?_
      refine lv_iload_n hx hb dX5_after_38 rfl (lv_at hl 2 rfl) ?_
      refine xtop (y := nI y.toNatClampNeg) (by exact heq_y) ?_
      refine xiald (j := y.toNatClampNeg) (q0 := 7) (t0 := 0) hx hb hK1 hP rfl rfl (by omega) (by decide) dX5_after_39 ?_
      refine xtop (y := (M 7 y.toNatClampNeg)) (by simp only [hM_1]; rfl) ?_
      refine va_mmax hx hb (hml.trans hl.1.symm) hown (hts (.methodLink RX5 87 Lib.Math.max.name) (List.mem_of_getElem? (i := 3) rfl)) (hts (.static Lib.Math.max.name) (List.mem_of_getElem? (i := 4) rfl)) (hts (.initialized "java/lang/Math") (List.mem_of_getElem? (i := 5) rfl)) (hts (.code Lib.Math.max.name Lib.Math.max.code 2 (some .int)) (List.mem_of_getElem? (i := 6) rfl)) (Nat.le_of_ble_eq_true rfl) (Nat.le_of_ble_eq_true rfl) (Nat.le_of_ble_eq_true rfl) (Nat.le_of_ble_eq_true rfl) dX5_after_40 ?_
      refine xtop (y := mx (M 7 x.toNatClampNeg) (M 7 y.toNatClampNeg)) rfl ?_
      refine lv_iadd hx hb dX5_after_43 ?_
      refine lv_istore_n (lv' := [(3, .int ((nI 1) + (mx (M 7 x.toNatClampNeg) (M 7 y.toNatClampNeg)))), (0, .ref (b 0)), (1, .int x), (2, .int y)]) hx hb dX5_after_44 rfl hl (by decide) rfl (fun ls hl => ?_)
      refine lv_iload_n hx hb dX5_after_45 rfl (lv_at hl 0 rfl) ?_
      refine lv_iconst (v := (nI 3)) hx hb dX5_after_46 (by decide) ?_
      refine lv_icmp_lt (tgt := 58) hx hb dX5_after_47 (by decide) (fun c47 => ?_) (fun c47 => ?_)
      ·
        refine lv_aload_n hx hb dX5_after_58 rfl (lv_at hl 1 rfl) ?_
        refine lv_bipush (v := (nI 6)) hx hb dX5_after_59 (by decide) ?_
        refine lv_iload_n hx hb dX5_after_61 rfl (lv_at hl 2 rfl) ?_
        refine lv_iload_n hx hb dX5_after_62 rfl (lv_at hl 3 rfl) ?_
        refine lv_aload_n hx hb dX5_after_63 rfl (lv_at hl 1 rfl) ?_
        refine va_get (D := D) (ci := 5) (v := .ref (b 6)) (C := RX5) (T := TX5) (N := 15) hx hb hts hinX5 hown hK1 hP 0 rfl rfl 9 (by decide) (hts (.fieldLink RX5 25 "KnowledgeModelModel" "depths" "[I") (List.mem_of_getElem? (i := 7) rfl)) (fun _ h9 => h9) rfl dX5_after_64 ?_
        refine lv_iload_n hx hb dX5_after_67 rfl (lv_at hl 2 rfl) ?_
        refine xtop (y := nI x.toNatClampNeg) (by exact heq_x) ?_
        refine xiald (j := x.toNatClampNeg) (q0 := 6) (t0 := 0) hx hb hK1 hP rfl rfl (by omega) (by decide) dX5_after_68 ?_
        refine xtop (y := (M 6 x.toNatClampNeg)) (by simp only [hM_1]; rfl) ?_
        refine lv_aload_n hx hb dX5_after_69 rfl (lv_at hl 1 rfl) ?_
        refine va_get (D := D) (ci := 5) (v := .ref (b 6)) (C := RX5) (T := TX5) (N := 15) hx hb hts hinX5 hown hK1 hP 0 rfl rfl 9 (by decide) (hts (.fieldLink RX5 25 "KnowledgeModelModel" "depths" "[I") (List.mem_of_getElem? (i := 7) rfl)) (fun _ h9 => h9) rfl dX5_after_70 ?_
        refine lv_iload_n hx hb dX5_after_73 rfl (lv_at hl 3 rfl) ?_
        refine xtop (y := nI y.toNatClampNeg) (by exact heq_y) ?_
        refine xiald (j := y.toNatClampNeg) (q0 := 6) (t0 := 0) hx hb hK1 hP rfl rfl (by omega) (by decide) dX5_after_74 ?_
        refine xtop (y := (M 6 y.toNatClampNeg)) (by simp only [hM_1]; rfl) ?_
        refine va_mmax hx hb (hml.trans hl.1.symm) hown (hts (.methodLink RX5 87 Lib.Math.max.name) (List.mem_of_getElem? (i := 3) rfl)) (hts (.static Lib.Math.max.name) (List.mem_of_getElem? (i := 4) rfl)) (hts (.initialized "java/lang/Math") (List.mem_of_getElem? (i := 5) rfl)) (hts (.code Lib.Math.max.name Lib.Math.max.code 2 (some .int)) (List.mem_of_getElem? (i := 6) rfl)) (Nat.le_of_ble_eq_true rfl) (Nat.le_of_ble_eq_true rfl) (Nat.le_of_ble_eq_true rfl) (Nat.le_of_ble_eq_true rfl) dX5_after_75 ?_
        refine xtop (y := mx (M 6 x.toNatClampNeg) (M 6 y.toNatClampNeg)) rfl ?_
        refine lv_iload_n hx hb dX5_after_78 rfl (lv_at hl 0 rfl) ?_
        refine xcallwi (va_runV (As := [.int (nI 6), .int x, .int y, .int (mx (M 6 x.toNatClampNeg) (M 6 y.toNatClampNeg)), .int ((nI 1) + (mx (M 7 x.toNatClampNeg) (M 7 y.toNatClampNeg)))]) (rest := []) ⟨hx, hb, hml, hown, hts⟩ (c_X5_create l D cs b M_1 _ hI nf 6 x y (mx (M 6 x.toNatClampNeg) (M 6 y.toNatClampNeg)) ((nI 1) + (mx (M 7 x.toNatClampNeg) (M 7 y.toNatClampNeg))) (by omega) hk_2 (by omega)) (cwV 5 hts gX5_after_X5_create rfl rfl rfl (by decide +kernel) ⟨Nat.le_of_ble_eq_true rfl, Nat.le_of_ble_eq_true rfl⟩) (xpreVs hP hK (ci := 5) 0 rfl rfl) rfl rfl hl.1 rfl (lv_room (Nat.le_of_ble_eq_true rfl)) dX5_after_79 ⟨Nat.le_of_ble_eq_true rfl, Nat.le_of_ble_eq_true rfl⟩) hS (kAle hS.1) (fun u_9 H locs hu_9 hP _ _ hS => ?_)
        have hP : va_P D vwCl (rc cs b (crt M_1 nf 6 x y (mx (M 6 x.toNatClampNeg) (M 6 y.toNatClampNeg)) ((nI 1) + (mx (M 7 x.toNatClampNeg) (M 7 y.toNatClampNeg))))) H := hP
        obtain ⟨M_10, hM_10⟩ : ∃ z, z = crt M_1 nf 6 x y (mx (M 6 x.toNatClampNeg) (M 6 y.toNatClampNeg)) ((nI 1) + (mx (M 7 x.toNatClampNeg) (M 7 y.toNatClampNeg))) := ⟨_, rfl⟩
        rw [← hM_10] at hP
        subst hQ
        have hMfin : M_10 = (if (isIn nf x && isIn nf y) = true then (if nI 1 + mx (M 7 x.toNatClampNeg) (M 7 y.toNatClampNeg) < nI 3 then crt (wr M 0 0 (nI 0)) nf 6 x y (mx (M 6 x.toNatClampNeg) (M 6 y.toNatClampNeg)) (nI 1 + mx (M 7 x.toNatClampNeg) (M 7 y.toNatClampNeg)) else wr M 0 0 (nI 2)) else wr M 0 0 (nI 1)) := by simp only [Bool.and_self, Bool.and_false, Bool.false_and, wr_wr, if_true, if_false, Bool.false_eq_true, Nat.one_ne_zero, hM_1, c10, c18, c47, hM_10]
        rw [hMfin] at hP
        have hrel : True := by trivial
        have hfin : (if nf = 40 then nI 0 else nI nf) = (if (isIn nf x && isIn nf y) = true then (if nI 1 + mx (M 7 x.toNatClampNeg) (M 7 y.toNatClampNeg) < nI 3 then (if nf = 40 then nI 0 else nI nf) else nI 0) else nI 0) := by simp only [Bool.and_self, Bool.and_false, Bool.false_and, wr_wr, if_true, if_false, Bool.false_eq_true, Nat.one_ne_zero, hM_1, c10, c18, c47, hM_10]
        exact W.iret hx hb hr (fun t ht hW => ⟨⟨_, (), rfl, ⟨hfin, hrel⟩, by rw [← ht] at hP; exact hP⟩, hS.F ht⟩) hS.2.2 dX5_after_82
      ·
        refine lv_aload_n hx hb dX5_after_50 rfl (lv_at hl 1 rfl) ?_
        refine lv_iconst (v := (nI 2)) hx hb dX5_after_51 (by decide) ?_
        refine xcallwi (va_runV (As := [.int (nI 2)]) (rest := []) ⟨hx, hb, hml, hown, hts⟩ (c_X5_no l D cs b M_1 _ hI (nI 2)) (cwV 1 hts gX5_after_X5_no rfl rfl rfl (by decide +kernel) ⟨Nat.le_of_ble_eq_true rfl, Nat.le_of_ble_eq_true rfl⟩) (xpreVs hP hK (ci := 5) 0 rfl rfl) rfl rfl hl.1 rfl (lv_room (Nat.le_of_ble_eq_true rfl)) dX5_after_52 ⟨Nat.le_of_ble_eq_true rfl, Nat.le_of_ble_eq_true rfl⟩) hS (kAle hS.1) (fun u_11 H locs hu_11 hP _ _ hS => ?_)
        have hP : va_P D vwCl (rc cs b (wr M_1 0 0 (nI 2))) H := hP
        obtain ⟨M_12, hM_12⟩ : ∃ z, z = wr M_1 0 0 (nI 2) := ⟨_, rfl⟩
        rw [← hM_12] at hP
        have hk_15 : M_12 0 3 = nI nf := by rw [hM_12]; exact (wr_ne (Or.inr (by decide))).trans hk_2
        refine lv_goto (tgt := 82) hx hb dX5_after_55 (by decide) ?_
        subst hQ
        have hMfin : M_12 = (if (isIn nf x && isIn nf y) = true then (if nI 1 + mx (M 7 x.toNatClampNeg) (M 7 y.toNatClampNeg) < nI 3 then crt (wr M 0 0 (nI 0)) nf 6 x y (mx (M 6 x.toNatClampNeg) (M 6 y.toNatClampNeg)) (nI 1 + mx (M 7 x.toNatClampNeg) (M 7 y.toNatClampNeg)) else wr M 0 0 (nI 2)) else wr M 0 0 (nI 1)) := by simp only [Bool.and_self, Bool.and_false, Bool.false_and, wr_wr, if_true, if_false, Bool.false_eq_true, Nat.one_ne_zero, hM_1, c10, c18, c47, hM_12]
        rw [hMfin] at hP
        have hrel : True := by trivial
        have hfin : (nI 0) = (if (isIn nf x && isIn nf y) = true then (if nI 1 + mx (M 7 x.toNatClampNeg) (M 7 y.toNatClampNeg) < nI 3 then (if nf = 40 then nI 0 else nI nf) else nI 0) else nI 0) := by simp only [Bool.and_self, Bool.and_false, Bool.false_and, wr_wr, if_true, if_false, Bool.false_eq_true, Nat.one_ne_zero, hM_1, c10, c18, c47, hM_12]
        exact W.iret hx hb hr (fun t ht hW => ⟨⟨_, (), rfl, ⟨hfin, hrel⟩, by rw [← ht] at hP; exact hP⟩, hS.F ht⟩) hS.2.2 dX5_after_82
    ·
      replace c18 := bI_0 c18
      refine lv_aload_n hx hb dX5_after_21 rfl (lv_at hl 0 rfl) ?_
      refine lv_iconst (v := (nI 1)) hx hb dX5_after_22 (by decide) ?_
      refine xcallwi (va_runV (As := [.int (nI 1)]) (rest := []) ⟨hx, hb, hml, hown, hts⟩ (c_X5_no l D cs b M_1 _ hI (nI 1)) (cwV 1 hts gX5_after_X5_no rfl rfl rfl (by decide +kernel) ⟨Nat.le_of_ble_eq_true rfl, Nat.le_of_ble_eq_true rfl⟩) (xpreVs hP hK (ci := 5) 0 rfl rfl) rfl rfl hl.1 rfl (lv_room (Nat.le_of_ble_eq_true rfl)) dX5_after_23 ⟨Nat.le_of_ble_eq_true rfl, Nat.le_of_ble_eq_true rfl⟩) hS (kAle hS.1) (fun u_16 H locs hu_16 hP _ _ hS => ?_)
      have hP : va_P D vwCl (rc cs b (wr M_1 0 0 (nI 1))) H := hP
      obtain ⟨M_17, hM_17⟩ : ∃ z, z = wr M_1 0 0 (nI 1) := ⟨_, rfl⟩
      rw [← hM_17] at hP
      have hk_20 : M_17 0 3 = nI nf := by rw [hM_17]; exact (wr_ne (Or.inr (by decide))).trans hk_2
      subst hQ
      have hMfin : M_17 = (if (isIn nf x && isIn nf y) = true then (if nI 1 + mx (M 7 x.toNatClampNeg) (M 7 y.toNatClampNeg) < nI 3 then crt (wr M 0 0 (nI 0)) nf 6 x y (mx (M 6 x.toNatClampNeg) (M 6 y.toNatClampNeg)) (nI 1 + mx (M 7 x.toNatClampNeg) (M 7 y.toNatClampNeg)) else wr M 0 0 (nI 2)) else wr M 0 0 (nI 1)) := by simp only [Bool.and_self, Bool.and_false, Bool.false_and, wr_wr, if_true, if_false, Bool.false_eq_true, Nat.one_ne_zero, hM_1, c10, c18, hM_17]
      rw [hMfin] at hP
      have hrel : True := by trivial
      have hfin : (nI 0) = (if (isIn nf x && isIn nf y) = true then (if nI 1 + mx (M 7 x.toNatClampNeg) (M 7 y.toNatClampNeg) < nI 3 then (if nf = 40 then nI 0 else nI nf) else nI 0) else nI 0) := by simp only [Bool.and_self, Bool.and_false, Bool.false_and, wr_wr, if_true, if_false, Bool.false_eq_true, Nat.one_ne_zero, hM_1, c10, c18, hM_17]
      exact W.iret hx hb hr (fun t ht hW => ⟨⟨_, (), rfl, ⟨hfin, hrel⟩, by rw [← ht] at hP; exact hP⟩, hS.F ht⟩) hS.2.2 dX5_after_26

def digAR (M : Nat → Nat → Int32) (d : Int64) (j : Nat) : Int64 := fo (fun w d => fo (fun i d => d * 31 + (M 2 (24 * i + w)).toInt64) (d * 31 + (M 1 w).toInt64) 4) d j
def digFR (M : Nat → Nat → Int32) (d : Int64) (j : Nat) : Int64 := fo (fun f d => ((d * 31 + (M 3 f).toInt64) * 31 + (M 6 f).toInt64) * 31 + (M 7 f).toInt64) d j
def digR (M : Nat → Nat → Int32) (n act nf : Nat) : Int64 := digFR M ((digAR M (3937 + (nI n).toInt64) n * 31 + (if n = 0 then (-1 : Int32) else nI act).toInt64) * 31 + (nI nf).toInt64) nf
def decR (M : Nat → Nat → Int32) (n act ag : Nat) : Int32 := fo (fun w r => if bt (M 2 (24 * ag + act)) w then r &&& M 1 w else r) (nI 63) n ||| fo (fun w r => if bt (M 2 (24 * ag + act)) w then r &&& (M 1 w ^^^ (-1)) else r) (nI 63) n

set_option maxHeartbeats 4000000 in
set_option maxRecDepth 100000 in
theorem c_X5_decided (l : Launch) (D : va_G) (cs : Nat → ClassId) (b : Nat → Nat) (M : Nat → Nat → Int32) (sz : Nat) (hI : kI b 12)  (n : Nat) (act : Nat) (x : Int32) (hn : M 0 1 = nI n) (hn24 : n ≤ 24) (hact : M 0 2 = nI act) (ha24 : act < 24) : Met l yX5_decided wsX5_decided ({ frames := 2, cells := 0, slots := 0, locals := 60 } : Room) (va_Pc [.ref (b 0), .int x] (XBs D cs (rc cs b M) sz)) (va_Qi (fun r (u : Unit) => r = (if isIn 4 x = true then (if n = 0 then nI 0 else decR M n act x.toNatClampNeg) else nI 0) ∧ True) (fun (u : Unit) t => va_P D vwCl (rc cs b (wr M 0 0 (if isIn 4 x = true then (if n = 0 then nI 2 else nI 0) else nI 1))) t.heap) (kA b 12 sz)) 0 0 (kA b 12 sz) := by
  refine Met.ofW (cc := cX5_decided) (maxL := 5) (ret := (some .int)) (by decide) rfl ?_
  intro p e s m args below meth c s₁ B hml hv
  obtain ⟨rfl, hsz, hP, hK⟩ := hv
  have hx := B.exec
  have hb := B.bytes
  have hr := B.returns
  have hts := atoms_spec (ws := wsX5_decided) B.pre
  have hown : s.vm.findClass RX5 = some m.cls := findClass_of_methodNamed B.named
  have hlocks := B.notSynchronized
  have hK1 := hK.1
  have hinX5 : ∀ w ∈ wsX50, w ∈ wsX5_decided := fun w h => List.mem_cons_of_mem _ (List.mem_append_right _ h)
  subst hsz
  have hS : va_S (kA b 12 s.heap.size) s.heap s.heap [] := va_S.rf
  have hl := lv_entry ([.ref (b 0), .int x]) (n := 5) (Nat.le_of_ble_eq_true rfl)
  rw [lg_entry_eq]
  generalize (lg_sl ([.ref (b 0), .int x]) ++ List.replicate (5 - (lg_sl ([.ref (b 0), .int x])).length) Slot.unset).toArray = ls at hl ⊢
  have hl : lv_has ls 5 [(0, .ref (b 0)), (1, .int x)] := hl
  refine W_Q (fun Q hQ => ?_)
  show W p l e ({ frames := 2, cells := 0, slots := 0, locals := 60 } : Room) s m ([.ref (b 0), .int x] : List Value).toArray below meth c s.heap [] 0 0 Q (F0 m 0 ls [])
  refine lv_aload_n hx hb dX5_decided_0 rfl (lv_at hl 0 rfl) ?_
  refine lv_iconst (v := (nI 0)) hx hb dX5_decided_1 (by decide) ?_
  refine xput (D := D) (ci := 5) (v := .int (nI 0)) (ty := .int) (C := RX5) (T := TX5) (N := 15) (ws' := rc cs b (wr M 0 0 (nI 0))) hx hb hts hinX5 tyX5 tyX5_ok nmX5 hown hK1 hP (rD hI) hS 0 rfl rfl 0 (by decide) (hts (.fieldLink RX5 44 "KnowledgeModelModel" "thrown" "I") (List.mem_of_getElem? (i := 1) rfl)) (fun _ h9 => h9) rfl (by decide +kernel) rfl rfl (Nat.le_of_ble_eq_true rfl) rfl dX5_decided_2 (fun H locs hP hS => ?_)
  obtain ⟨M_1, hM_1⟩ : ∃ z, z = wr M 0 0 (nI 0) := ⟨_, rfl⟩
  rw [← hM_1] at hP
  have hk_2 : M_1 0 1 = nI n := by rw [hM_1]; exact (wr_ne (Or.inr (by decide))).trans hn
  have hk_3 : M_1 0 2 = nI act := by rw [hM_1]; exact (wr_ne (Or.inr (by decide))).trans hact
  have hk_4 : M_1 0 0 = nI 0 := by rw [hM_1]; exact wr_same
  refine lv_iload_n hx hb dX5_decided_5 rfl (lv_at hl 1 rfl) ?_
  refine xcalli (va_runS (As := [.int x]) (rest := []) ⟨hx, hb, hml, hown, hts⟩ (c_X5_isAgent l x) (va_cwS 1 hts gX5_decided_X5_isAgent rfl rfl rfl (by decide +kernel) ⟨Nat.le_of_ble_eq_true rfl, Nat.le_of_ble_eq_true rfl⟩) xpreN rfl rfl hl.1 rfl (lv_room (Nat.le_of_ble_eq_true rfl)) dX5_decided_6 ⟨Nat.le_of_ble_eq_true rfl, Nat.le_of_ble_eq_true rfl⟩) hS hP (fun H locs hP hS => ?_)
  refine lv_if_ne (tgt := 18) hx hb dX5_decided_9 (by decide) (fun c9 => ?_) (fun c9 => ?_)
  ·
    replace c9 := bI_n0 c9
    refine lv_aload_n hx hb dX5_decided_18 rfl (lv_at hl 0 rfl) ?_
    refine va_get (D := D) (ci := 5) (v := .int (M_1 0 1)) (C := RX5) (T := TX5) (N := 15) hx hb hts hinX5 hown hK1 hP 0 rfl rfl 1 (by decide) (hts (.fieldLink RX5 48 "KnowledgeModelModel" "worlds" "I") (List.mem_of_getElem? (i := 2) rfl)) (fun _ h9 => h9) rfl dX5_decided_19 ?_
    refine xtop (y := nI n) (hk_2) ?_
    refine lv_if_ne (tgt := 31) hx hb dX5_decided_22 (by decide) (fun c22 => ?_) (fun c22 => ?_)
    ·
      replace c22 : ¬ n = 0 := k0_net c22 (by omega)
      obtain ⟨hlt_x, heq_x⟩ := isIn_eq (by omega) c9
      have hl : lv_has ls 5 [(0, .ref (b 0)), (1, .int (nI x.toNatClampNeg))] := (lcons (lcons (lzero hl) hl 1 rfl (congrArg Value.int heq_x)) hl 0 rfl rfl)
      obtain ⟨ag, hag⟩ : ∃ z, z = x.toNatClampNeg := ⟨_, rfl⟩
      rw [← hag] at hl hlt_x
      refine lv_bipush (v := (nI 63)) hx hb dX5_decided_31 (by decide) ?_
      refine lv_istore_n (lv' := [(2, .int (nI 63)), (0, .ref (b 0)), (1, .int (nI ag))]) hx hb dX5_decided_33 rfl hl (by decide) rfl (fun ls hl => ?_)
      refine lv_iload_n hx hb dX5_decided_34 rfl (lv_at hl 0 rfl) ?_
      refine lv_istore_n (lv' := [(3, .int (nI 63)), (2, .int (nI 63)), (0, .ref (b 0)), (1, .int (nI ag))]) hx hb dX5_decided_35 rfl hl (by decide) rfl (fun ls hl => ?_)
      refine lv_iconst (v := (nI 0)) hx hb dX5_decided_36 (by decide) ?_
      refine lv_istore (lv' := [(4, .int (nI 0)), (3, .int (nI 63)), (2, .int (nI 63)), (0, .ref (b 0)), (1, .int (nI ag))]) hx hb dX5_decided_37 hl (by decide) rfl (fun ls hl => ?_)
      have cut39 : ∀ (f39 : Nat) (j : Nat) (hj : j ≤ n), n + 1 ≤ j + f39 → ∀ (H : Heap) (locs : List Loc), va_P D vwCl (rc cs b M_1) H → va_S (kA b 12 s.heap.size) s.heap H locs → ∀ (ls : Array Slot), lv_has ls 5 [(0, .ref (b 0)), (1, .int (nI ag)), (2, .int (fo (fun w r => if bt (M 2 (24 * ag + act)) w then r &&& M 1 w else r) (nI 63) j)), (3, .int (fo (fun w r => if bt (M 2 (24 * ag + act)) w then r &&& (M 1 w ^^^ (-1)) else r) (nI 63) j)), (4, .int (nI j))] → W p l e ({ frames := 2, cells := 0, slots := 0, locals := 60 } : Room) s m ([.ref (b 0), .int x] : List Value).toArray below meth c H locs 0 0 Q (F0 m 39 ls []) := by
        intro f39
        induction f39 with
        | zero => intro j hj hfu39; exact absurd hfu39 (by omega)
        | succ f39 cut39 =>
          intro j hj hfu39 H locs hP hS ls hl
          refine lv_iload hx hb dX5_decided_39 (lv_at hl 4 rfl) ?_
          refine lv_aload_n hx hb dX5_decided_41 rfl (lv_at hl 0 rfl) ?_
          refine va_get (D := D) (ci := 5) (v := .int (M_1 0 1)) (C := RX5) (T := TX5) (N := 15) hx hb hts hinX5 hown hK1 hP 0 rfl rfl 1 (by decide) (hts (.fieldLink RX5 48 "KnowledgeModelModel" "worlds" "I") (List.mem_of_getElem? (i := 2) rfl)) (fun _ h9 => h9) rfl dX5_decided_42 ?_
          refine xtop (y := nI n) (hk_2) ?_
          refine lv_icmp_ge (tgt := 101) hx hb dX5_decided_45 (by decide) (fun c45 => ?_) (fun c45 => ?_)
          ·
            replace c45 : n ≤ j := k_get c45 (by omega) (by omega)
            refine lv_iload_n hx hb dX5_decided_101 rfl (lv_at hl 2 rfl) ?_
            refine lv_iload_n hx hb dX5_decided_102 rfl (lv_at hl 3 rfl) ?_
            refine lv_ior hx hb dX5_decided_103 ?_
            subst hQ
            have hMfin : M_1 = wr M 0 0 (if isIn 4 x = true then (if n = 0 then nI 2 else nI 0) else nI 1) := by simp only [wr_wr, if_true, if_false, Bool.false_eq_true, Nat.one_ne_zero, hM_1, c9, c22, c45]
            rw [hMfin] at hP
            have hrel : True := by trivial
            have hfin : ((fo (fun w r => if bt (M 2 (24 * ag + act)) w then r &&& M 1 w else r) (nI 63) j) ||| (fo (fun w r => if bt (M 2 (24 * ag + act)) w then r &&& (M 1 w ^^^ (-1)) else r) (nI 63) j)) = (if isIn 4 x = true then (if n = 0 then nI 0 else decR M n act x.toNatClampNeg) else nI 0) := by (have hje : j = n := by omega); subst hje; rw [if_pos c9, if_neg c22, ← hag]; rfl
            exact W.iret hx hb hr (fun t ht hW => ⟨⟨_, (), rfl, ⟨hfin, hrel⟩, by rw [← ht] at hP; exact hP⟩, hS.F ht⟩) hS.2.2 dX5_decided_104
          ·
            replace c45 : j < n := k_gef c45 (by omega) (by omega)
            refine lv_aload_n hx hb dX5_decided_48 rfl (lv_at hl 0 rfl) ?_
            refine va_get (D := D) (ci := 5) (v := .ref (b 2)) (C := RX5) (T := TX5) (N := 15) hx hb hts hinX5 hown hK1 hP 0 rfl rfl 4 (by decide) (hts (.fieldLink RX5 13 "KnowledgeModelModel" "seen" "[I") (List.mem_of_getElem? (i := 3) rfl)) (fun _ h9 => h9) rfl dX5_decided_49 ?_
            refine lv_bipush (v := (nI 24)) hx hb dX5_decided_52 (by decide) ?_
            refine lv_iload_n hx hb dX5_decided_54 rfl (lv_at hl 1 rfl) ?_
            refine ximul hx hb dX5_decided_55 ?_
            refine lv_aload_n hx hb dX5_decided_56 rfl (lv_at hl 0 rfl) ?_
            refine va_get (D := D) (ci := 5) (v := .int (M_1 0 2)) (C := RX5) (T := TX5) (N := 15) hx hb hts hinX5 hown hK1 hP 0 rfl rfl 2 (by decide) (hts (.fieldLink RX5 62 "KnowledgeModelModel" "actual" "I") (List.mem_of_getElem? (i := 4) rfl)) (fun _ h9 => h9) rfl dX5_decided_57 ?_
            refine xtop (y := nI act) (hk_3) ?_
            refine xiadd hx hb dX5_decided_60 ?_
            refine xiald (j := (24 * ag) + act) (q0 := 2) (t0 := 0) hx hb hK1 hP rfl rfl (by omega) (by decide) dX5_decided_61 ?_
            refine xtop (y := (M 2 ((24 * ag) + act))) (by simp only [hM_1]; rfl) ?_
            refine lv_iload hx hb dX5_decided_62 (lv_at hl 4 rfl) ?_
            refine xcalli (va_runS (As := [.int (M 2 ((24 * ag) + act)), .int (nI j)]) (rest := []) ⟨hx, hb, hml, hown, hts⟩ (c_X5_has l (M 2 ((24 * ag) + act)) j (by omega)) (va_cwS 2 hts gX5_decided_X5_has rfl rfl rfl (by decide +kernel) ⟨Nat.le_of_ble_eq_true rfl, Nat.le_of_ble_eq_true rfl⟩) xpreN rfl rfl hl.1 rfl (lv_room (Nat.le_of_ble_eq_true rfl)) dX5_decided_64 ⟨Nat.le_of_ble_eq_true rfl, Nat.le_of_ble_eq_true rfl⟩) hS hP (fun H locs hP hS => ?_)
            refine lv_if_ne (tgt := 73) hx hb dX5_decided_67 (by decide) (fun c67 => ?_) (fun c67 => ?_)
            ·
              replace c67 := bI_n0 c67
              refine lv_iload_n hx hb dX5_decided_73 rfl (lv_at hl 2 rfl) ?_
              refine lv_aload_n hx hb dX5_decided_74 rfl (lv_at hl 0 rfl) ?_
              refine va_get (D := D) (ci := 5) (v := .ref (b 1)) (C := RX5) (T := TX5) (N := 15) hx hb hts hinX5 hown hK1 hP 0 rfl rfl 3 (by decide) (hts (.fieldLink RX5 9 "KnowledgeModelModel" "atoms" "[I") (List.mem_of_getElem? (i := 5) rfl)) (fun _ h9 => h9) rfl dX5_decided_75 ?_
              refine lv_iload hx hb dX5_decided_78 (lv_at hl 4 rfl) ?_
              refine xiald (j := j) (q0 := 1) (t0 := 0) hx hb hK1 hP rfl rfl (by omega) (by decide) dX5_decided_80 ?_
              refine xtop (y := (M 1 j)) (by simp only [hM_1]; rfl) ?_
              refine lv_iand hx hb dX5_decided_81 ?_
              refine lv_topi (fun x_5 hx_5 => ?_)
              refine lv_istore_n (lv' := [(2, .int x_5), (0, .ref (b 0)), (1, .int (nI ag)), (3, .int (fo (fun w r => if bt (M 2 (24 * ag + act)) w then r &&& (M 1 w ^^^ (-1)) else r) (nI 63) j)), (4, .int (nI j))]) hx hb dX5_decided_82 rfl hl (by decide) rfl (fun ls hl => ?_)
              refine lv_iload_n hx hb dX5_decided_83 rfl (lv_at hl 3 rfl) ?_
              refine lv_aload_n hx hb dX5_decided_84 rfl (lv_at hl 1 rfl) ?_
              refine va_get (D := D) (ci := 5) (v := .ref (b 1)) (C := RX5) (T := TX5) (N := 15) hx hb hts hinX5 hown hK1 hP 0 rfl rfl 3 (by decide) (hts (.fieldLink RX5 9 "KnowledgeModelModel" "atoms" "[I") (List.mem_of_getElem? (i := 5) rfl)) (fun _ h9 => h9) rfl dX5_decided_85 ?_
              refine lv_iload hx hb dX5_decided_88 (lv_at hl 4 rfl) ?_
              refine xiald (j := j) (q0 := 1) (t0 := 0) hx hb hK1 hP rfl rfl (by omega) (by decide) dX5_decided_90 ?_
              refine xtop (y := (M 1 j)) (by simp only [hM_1]; rfl) ?_
              refine lv_iconst (v := (-1 : Int32)) hx hb dX5_decided_91 (by decide) ?_
              refine lv_ixor hx hb dX5_decided_92 ?_
              refine lv_iand hx hb dX5_decided_93 ?_
              refine lv_topi (fun x_6 hx_6 => ?_)
              refine lv_istore_n (lv' := [(3, .int x_6), (2, .int x_5), (0, .ref (b 0)), (1, .int (nI ag)), (4, .int (nI j))]) hx hb dX5_decided_94 rfl hl (by decide) rfl (fun ls hl => ?_)
              refine lv_iinc (v := (nI (j + 1))) (lv' := [(4, .int (nI (j + 1))), (3, .int x_6), (2, .int x_5), (0, .ref (b 0)), (1, .int (nI ag))]) hx hb dX5_decided_95 hl (k := 4) rfl (nI_add j 1) (by decide) rfl (fun ls hl => ?_)
              refine lv_goto (tgt := 39) hx hb dX5_decided_98 (by decide) ?_
              have e_7 : x_6 = (fo (fun w r => if bt (M 2 (24 * ag + act)) w then r &&& (M 1 w ^^^ (-1)) else r) (nI 63) (j + 1)) := by rw [fo_s, c67]; simp only [wr_wr, if_true, if_false, Bool.false_eq_true, Nat.one_ne_zero, hM_1, c9, c22, c45, c67, hx_5, hx_6]
              have e_8 : x_5 = (fo (fun w r => if bt (M 2 (24 * ag + act)) w then r &&& M 1 w else r) (nI 63) (j + 1)) := by rw [fo_s, c67]; simp only [wr_wr, if_true, if_false, Bool.false_eq_true, Nat.one_ne_zero, hM_1, c9, c22, c45, c67, hx_5, hx_6]
              exact cut39 (j + 1) (by omega) (by omega) _ _ hP hS ls (lcons (lcons (lcons (lcons (lcons (lzero hl) hl 0 rfl rfl) hl 1 rfl (congrArg Value.int e_7)) hl 2 rfl (congrArg Value.int e_8)) hl 4 rfl rfl) hl 3 rfl rfl)
            ·
              replace c67 := bI_0 c67
              refine lv_goto (tgt := 95) hx hb dX5_decided_70 (by decide) ?_
              refine lv_iinc (v := (nI (j + 1))) (lv' := [(4, .int (nI (j + 1))), (0, .ref (b 0)), (1, .int (nI ag)), (2, .int (fo (fun w r => if bt (M 2 (24 * ag + act)) w then r &&& M 1 w else r) (nI 63) j)), (3, .int (fo (fun w r => if bt (M 2 (24 * ag + act)) w then r &&& (M 1 w ^^^ (-1)) else r) (nI 63) j))]) hx hb dX5_decided_95 hl (k := 4) rfl (nI_add j 1) (by decide) rfl (fun ls hl => ?_)
              refine lv_goto (tgt := 39) hx hb dX5_decided_98 (by decide) ?_
              have e_9 : (fo (fun w r => if bt (M 2 (24 * ag + act)) w then r &&& (M 1 w ^^^ (-1)) else r) (nI 63) j) = (fo (fun w r => if bt (M 2 (24 * ag + act)) w then r &&& (M 1 w ^^^ (-1)) else r) (nI 63) (j + 1)) := by rw [fo_s, c67]; simp only [wr_wr, if_true, if_false, Bool.false_eq_true, Nat.one_ne_zero, hM_1, c9, c22, c45, c67]
              have e_10 : (fo (fun w r => if bt (M 2 (24 * ag + act)) w then r &&& M 1 w else r) (nI 63) j) = (fo (fun w r => if bt (M 2 (24 * ag + act)) w then r &&& M 1 w else r) (nI 63) (j + 1)) := by rw [fo_s, c67]; simp only [wr_wr, if_true, if_false, Bool.false_eq_true, Nat.one_ne_zero, hM_1, c9, c22, c45, c67]
              exact cut39 (j + 1) (by omega) (by omega) _ _ hP hS ls (lcons (lcons (lcons (lcons (lcons (lzero hl) hl 0 rfl rfl) hl 4 rfl (congrArg Value.int e_9)) hl 3 rfl (congrArg Value.int e_10)) hl 2 rfl rfl) hl 1 rfl rfl)
      have e_11 : (nI 63) = (fo (fun w r => if bt (M 2 (24 * ag + act)) w then r &&& (M 1 w ^^^ (-1)) else r) (nI 63) 0) := by first | rfl | (simp only [fo_0, hM_1, c9, c22]; done)
      have e_12 : (nI 63) = (fo (fun w r => if bt (M 2 (24 * ag + act)) w then r &&& M 1 w else r) (nI 63) 0) := by rfl
      exact cut39 (n + 1) 0 (by omega) (by omega) _ _ hP hS ls (lcons (lcons (lcons (lcons (lcons (lzero hl) hl 0 rfl rfl) hl 1 rfl (congrArg Value.int e_11)) hl 2 rfl (congrArg Value.int e_12)) hl 4 rfl rfl) hl 3 rfl rfl)
    ·
      replace c22 : n = 0 := k0_nef c22 (by omega)
      refine lv_aload_n hx hb dX5_decided_25 rfl (lv_at hl 0 rfl) ?_
      refine lv_iconst (v := (nI 2)) hx hb dX5_decided_26 (by decide) ?_
      refine xcallwi (va_runV (As := [.int (nI 2)]) (rest := []) ⟨hx, hb, hml, hown, hts⟩ (c_X5_no l D cs b M_1 _ hI (nI 2)) (cwV 1 hts gX5_decided_X5_no rfl rfl rfl (by decide +kernel) ⟨Nat.le_of_ble_eq_true rfl, Nat.le_of_ble_eq_true rfl⟩) (xpreVs hP hK (ci := 5) 0 rfl rfl) rfl rfl hl.1 rfl (lv_room (Nat.le_of_ble_eq_true rfl)) dX5_decided_27 ⟨Nat.le_of_ble_eq_true rfl, Nat.le_of_ble_eq_true rfl⟩) hS (kAle hS.1) (fun u_13 H locs hu_13 hP _ _ hS => ?_)
      have hP : va_P D vwCl (rc cs b (wr M_1 0 0 (nI 2))) H := hP
      obtain ⟨M_14, hM_14⟩ : ∃ z, z = wr M_1 0 0 (nI 2) := ⟨_, rfl⟩
      rw [← hM_14] at hP
      have hk_15 : M_14 0 1 = nI n := by rw [hM_14]; exact (wr_ne (Or.inr (by decide))).trans hk_2
      have hk_16 : M_14 0 2 = nI act := by rw [hM_14]; exact (wr_ne (Or.inr (by decide))).trans hk_3
      subst hQ
      have hMfin : M_14 = wr M 0 0 (if isIn 4 x = true then (if n = 0 then nI 2 else nI 0) else nI 1) := by simp only [wr_wr, if_true, if_false, Bool.false_eq_true, Nat.one_ne_zero, hM_1, c9, c22, hM_14]
      rw [hMfin] at hP
      have hrel : True := by trivial
      have hfin : (nI 0) = (if isIn 4 x = true then (if n = 0 then nI 0 else decR M n act x.toNatClampNeg) else nI 0) := by simp only [wr_wr, if_true, if_false, Bool.false_eq_true, Nat.one_ne_zero, hM_1, c9, c22, hM_14]
      exact W.iret hx hb hr (fun t ht hW => ⟨⟨_, (), rfl, ⟨hfin, hrel⟩, by rw [← ht] at hP; exact hP⟩, hS.F ht⟩) hS.2.2 dX5_decided_30
  ·
    replace c9 := bI_0 c9
    refine lv_aload_n hx hb dX5_decided_12 rfl (lv_at hl 0 rfl) ?_
    refine lv_iconst (v := (nI 1)) hx hb dX5_decided_13 (by decide) ?_
    refine xcallwi (va_runV (As := [.int (nI 1)]) (rest := []) ⟨hx, hb, hml, hown, hts⟩ (c_X5_no l D cs b M_1 _ hI (nI 1)) (cwV 1 hts gX5_decided_X5_no rfl rfl rfl (by decide +kernel) ⟨Nat.le_of_ble_eq_true rfl, Nat.le_of_ble_eq_true rfl⟩) (xpreVs hP hK (ci := 5) 0 rfl rfl) rfl rfl hl.1 rfl (lv_room (Nat.le_of_ble_eq_true rfl)) dX5_decided_14 ⟨Nat.le_of_ble_eq_true rfl, Nat.le_of_ble_eq_true rfl⟩) hS (kAle hS.1) (fun u_18 H locs hu_18 hP _ _ hS => ?_)
    have hP : va_P D vwCl (rc cs b (wr M_1 0 0 (nI 1))) H := hP
    obtain ⟨M_19, hM_19⟩ : ∃ z, z = wr M_1 0 0 (nI 1) := ⟨_, rfl⟩
    rw [← hM_19] at hP
    have hk_20 : M_19 0 1 = nI n := by rw [hM_19]; exact (wr_ne (Or.inr (by decide))).trans hk_2
    have hk_21 : M_19 0 2 = nI act := by rw [hM_19]; exact (wr_ne (Or.inr (by decide))).trans hk_3
    subst hQ
    have hMfin : M_19 = wr M 0 0 (if isIn 4 x = true then (if n = 0 then nI 2 else nI 0) else nI 1) := by simp only [wr_wr, if_true, if_false, Bool.false_eq_true, Nat.one_ne_zero, hM_1, c9, hM_19]
    rw [hMfin] at hP
    have hrel : True := by trivial
    have hfin : (nI 0) = (if isIn 4 x = true then (if n = 0 then nI 0 else decR M n act x.toNatClampNeg) else nI 0) := by simp only [wr_wr, if_true, if_false, Bool.false_eq_true, Nat.one_ne_zero, hM_1, c9, hM_19]
    exact W.iret hx hb hr (fun t ht hW => ⟨⟨_, (), rfl, ⟨hfin, hrel⟩, by rw [← ht] at hP; exact hP⟩, hS.F ht⟩) hS.2.2 dX5_decided_17

set_option maxHeartbeats 4000000 in
set_option maxRecDepth 100000 in
theorem c_X5_digest (l : Launch) (D : va_G) (cs : Nat → ClassId) (b : Nat → Nat) (M : Nat → Nat → Int32) (sz : Nat) (hI : kI b 12)  (n : Nat) (act : Nat) (nf : Nat)  (hn : M 0 1 = nI n) (hn24 : n ≤ 24) (hact : M 0 2 = nI act) (hfc : M 0 3 = nI nf) (hf40 : nf ≤ 40) : Met l yX5_digest wsX5_digest ({ frames := 2, cells := 0, slots := 0, locals := 60 } : Room) (va_Pc [.ref (b 0)] (XBs D cs (rc cs b M) sz)) (va_Ql (fun r (u : Unit) => r = digR M n act nf ∧ True) (fun (u : Unit) t => va_P D vwCl (rc cs b (wr M 0 0 (nI 0))) t.heap) (kA b 12 sz)) 0 0 (kA b 12 sz) := by
  refine Met.ofW (cc := cX5_digest) (maxL := 5) (ret := (some .long)) (by decide) rfl ?_
  intro p e s m args below meth c s₁ B hml hv
  obtain ⟨rfl, hsz, hP, hK⟩ := hv
  have hx := B.exec
  have hb := B.bytes
  have hr := B.returns
  have hts := atoms_spec (ws := wsX5_digest) B.pre
  have hown : s.vm.findClass RX5 = some m.cls := findClass_of_methodNamed B.named
  have hlocks := B.notSynchronized
  have hK1 := hK.1
  have hinX5 : ∀ w ∈ wsX50, w ∈ wsX5_digest := fun w h => List.mem_cons_of_mem _ (List.mem_append_right _ h)
  subst hsz
  have hS : va_S (kA b 12 s.heap.size) s.heap s.heap [] := va_S.rf
  have hl := lv_entry ([.ref (b 0)]) (n := 5) (Nat.le_of_ble_eq_true rfl)
  rw [lg_entry_eq]
  generalize (lg_sl ([.ref (b 0)]) ++ List.replicate (5 - (lg_sl ([.ref (b 0)])).length) Slot.unset).toArray = ls at hl ⊢
  have hl : lv_has ls 5 [(0, .ref (b 0))] := hl
  refine W_Q (fun Q hQ => ?_)
  show W p l e ({ frames := 2, cells := 0, slots := 0, locals := 60 } : Room) s m ([.ref (b 0)] : List Value).toArray below meth c s.heap [] 0 0 Q (F0 m 0 ls [])
  refine lv_aload_n hx hb dX5_digest_0 rfl (lv_at hl 0 rfl) ?_
  refine lv_iconst (v := (nI 0)) hx hb dX5_digest_1 (by decide) ?_
  refine xput (D := D) (ci := 5) (v := .int (nI 0)) (ty := .int) (C := RX5) (T := TX5) (N := 15) (ws' := rc cs b (wr M 0 0 (nI 0))) hx hb hts hinX5 tyX5 tyX5_ok nmX5 hown hK1 hP (rD hI) hS 0 rfl rfl 0 (by decide) (hts (.fieldLink RX5 44 "KnowledgeModelModel" "thrown" "I") (List.mem_of_getElem? (i := 1) rfl)) (fun _ h9 => h9) rfl (by decide +kernel) rfl rfl (Nat.le_of_ble_eq_true rfl) rfl dX5_digest_2 (fun H locs hP hS => ?_)
  obtain ⟨M_1, hM_1⟩ : ∃ z, z = wr M 0 0 (nI 0) := ⟨_, rfl⟩
  rw [← hM_1] at hP
  have hk_2 : M_1 0 1 = nI n := by rw [hM_1]; exact (wr_ne (Or.inr (by decide))).trans hn
  have hk_3 : M_1 0 2 = nI act := by rw [hM_1]; exact (wr_ne (Or.inr (by decide))).trans hact
  have hk_4 : M_1 0 3 = nI nf := by rw [hM_1]; exact (wr_ne (Or.inr (by decide))).trans hfc
  have hk_5 : M_1 0 0 = nI 0 := by rw [hM_1]; exact wr_same
  refine lv_ldc2 hx hb hown (hts (.constantLong RX5 132 (3937)) (List.mem_of_getElem? (i := 2) rfl)) dX5_digest_5 ?_
  refine lv_aload_n hx hb dX5_digest_8 rfl (lv_at hl 0 rfl) ?_
  refine va_get (D := D) (ci := 5) (v := .int (M_1 0 1)) (C := RX5) (T := TX5) (N := 15) hx hb hts hinX5 hown hK1 hP 0 rfl rfl 1 (by decide) (hts (.fieldLink RX5 48 "KnowledgeModelModel" "worlds" "I") (List.mem_of_getElem? (i := 3) rfl)) (fun _ h9 => h9) rfl dX5_digest_9 ?_
  refine xtop (y := nI n) (hk_2) ?_
  refine lv_i2l (v := (nI n).toInt64) hx hb dX5_digest_12 rfl ?_
  refine lv_ladd hx hb dX5_digest_13 ?_
  refine lv_lstore_n (lv' := [(1, .long ((3937 : Int64) + ((nI n).toInt64))), (0, .ref (b 0))]) hx hb dX5_digest_14 rfl hl (by decide) rfl (fun ls hl => ?_)
  refine lv_iconst (v := (nI 0)) hx hb dX5_digest_15 (by decide) ?_
  refine lv_istore_n (lv' := [(3, .int (nI 0)), (1, .long ((3937 : Int64) + ((nI n).toInt64))), (0, .ref (b 0))]) hx hb dX5_digest_16 rfl hl (by decide) rfl (fun ls hl => ?_)
  have cut17 : ∀ (f17 : Nat) (j : Nat) (hj : j ≤ n), n + 1 ≤ j + f17 → ∀ (H : Heap) (locs : List Loc), va_P D vwCl (rc cs b M_1) H → va_S (kA b 12 s.heap.size) s.heap H locs → ∀ (ls : Array Slot), lv_has ls 5 [(0, .ref (b 0)), (1, .long (digAR M (3937 + (nI n).toInt64) j)), (3, .int (nI j))] → W p l e ({ frames := 2, cells := 0, slots := 0, locals := 60 } : Room) s m ([.ref (b 0)] : List Value).toArray below meth c H locs 0 0 Q (F0 m 17 ls []) := by
    intro f17
    induction f17 with
    | zero => intro j hj hfu17; exact absurd hfu17 (by omega)
    | succ f17 cut17 =>
      intro j hj hfu17 H locs hP hS ls hl
      refine lv_iload_n hx hb dX5_digest_17 rfl (lv_at hl 2 rfl) ?_
      refine lv_aload_n hx hb dX5_digest_18 rfl (lv_at hl 0 rfl) ?_
      refine va_get (D := D) (ci := 5) (v := .int (M_1 0 1)) (C := RX5) (T := TX5) (N := 15) hx hb hts hinX5 hown hK1 hP 0 rfl rfl 1 (by decide) (hts (.fieldLink RX5 48 "KnowledgeModelModel" "worlds" "I") (List.mem_of_getElem? (i := 3) rfl)) (fun _ h9 => h9) rfl dX5_digest_19 ?_
      refine xtop (y := nI n) (hk_2) ?_
      refine lv_icmp_ge (tgt := 80) hx hb dX5_digest_22 (by decide) (fun c22 => ?_) (fun c22 => ?_)
      ·
        replace c22 : n ≤ j := k_get c22 (by omega) (by omega)
        refine lv_lload_n hx hb dX5_digest_80 rfl (lv_at hl 1 rfl) ?_
        refine lv_ldc2 hx hb hown (hts (.constantLong RX5 134 (31)) (List.mem_of_getElem? (i := 4) rfl)) dX5_digest_81 ?_
        refine lv_lmul hx hb dX5_digest_84 ?_
        refine lv_aload_n hx hb dX5_digest_85 rfl (lv_at hl 0 rfl) ?_
        refine va_get (D := D) (ci := 5) (v := .int (M_1 0 1)) (C := RX5) (T := TX5) (N := 15) hx hb hts hinX5 hown hK1 hP 0 rfl rfl 1 (by decide) (hts (.fieldLink RX5 48 "KnowledgeModelModel" "worlds" "I") (List.mem_of_getElem? (i := 3) rfl)) (fun _ h9 => h9) rfl dX5_digest_86 ?_
        refine xtop (y := nI n) (hk_2) ?_
        refine lv_if_ne (tgt := 96) hx hb dX5_digest_89 (by decide) (fun c89 => ?_) (fun c89 => ?_)
        ·
          replace c89 : ¬ n = 0 := k0_net c89 (by omega)
          refine lv_aload_n hx hb dX5_digest_96 rfl (lv_at hl 0 rfl) ?_
          refine va_get (D := D) (ci := 5) (v := .int (M_1 0 2)) (C := RX5) (T := TX5) (N := 15) hx hb hts hinX5 hown hK1 hP 0 rfl rfl 2 (by decide) (hts (.fieldLink RX5 62 "KnowledgeModelModel" "actual" "I") (List.mem_of_getElem? (i := 7) rfl)) (fun _ h9 => h9) rfl dX5_digest_97 ?_
          refine xtop (y := nI act) (hk_3) ?_
          refine lv_i2l (v := (nI act).toInt64) hx hb dX5_digest_100 rfl ?_
          refine lv_ladd hx hb dX5_digest_101 ?_
          refine lv_ldc2 hx hb hown (hts (.constantLong RX5 134 (31)) (List.mem_of_getElem? (i := 4) rfl)) dX5_digest_102 ?_
          refine lv_lmul hx hb dX5_digest_105 ?_
          refine lv_aload_n hx hb dX5_digest_106 rfl (lv_at hl 0 rfl) ?_
          refine va_get (D := D) (ci := 5) (v := .int (M_1 0 3)) (C := RX5) (T := TX5) (N := 15) hx hb hts hinX5 hown hK1 hP 0 rfl rfl 5 (by decide) (hts (.fieldLink RX5 51 "KnowledgeModelModel" "formulas" "I") (List.mem_of_getElem? (i := 8) rfl)) (fun _ h9 => h9) rfl dX5_digest_107 ?_
          refine xtop (y := nI nf) (hk_4) ?_
          refine lv_i2l (v := (nI nf).toInt64) hx hb dX5_digest_110 rfl ?_
          refine lv_ladd hx hb dX5_digest_111 ?_
          refine lv_lstore_n (lv' := [(1, .long (((((digAR M (3937 + (nI n).toInt64) j) * (31 : Int64)) + ((nI act).toInt64)) * (31 : Int64)) + ((nI nf).toInt64))), (0, .ref (b 0)), (3, .int (nI j))]) hx hb dX5_digest_112 rfl hl (by decide) rfl (fun ls hl => ?_)
          refine lv_iconst (v := (nI 0)) hx hb dX5_digest_113 (by decide) ?_
          refine lv_istore_n (lv' := [(3, .int (nI 0)), (1, .long (((((digAR M (3937 + (nI n).toInt64) j) * (31 : Int64)) + ((nI act).toInt64)) * (31 : Int64)) + ((nI nf).toInt64))), (0, .ref (b 0))]) hx hb dX5_digest_114 rfl hl (by decide) rfl (fun ls hl => ?_)
          have cut115 : ∀ (f115 : Nat) (f : Nat) (hf : f ≤ nf), nf + 1 ≤ f + f115 → ∀ (H : Heap) (locs : List Loc), va_P D vwCl (rc cs b M_1) H → va_S (kA b 12 s.heap.size) s.heap H locs → ∀ (ls : Array Slot), lv_has ls 5 [(0, .ref (b 0)), (1, .long (digFR M ((digAR M (3937 + (nI n).toInt64) n * 31 + (if n = 0 then (-1 : Int32) else nI act).toInt64) * 31 + (nI nf).toInt64) f)), (3, .int (nI f))] → W p l e ({ frames := 2, cells := 0, slots := 0, locals := 60 } : Room) s m ([.ref (b 0)] : List Value).toArray below meth c H locs 0 0 Q (F0 m 115 ls []) := by
            intro f115
            induction f115 with
            | zero => intro f hf hfu115; exact absurd hfu115 (by omega)
            | succ f115 cut115 =>
              intro f hf hfu115 H locs hP hS ls hl
              refine lv_iload_n hx hb dX5_digest_115 rfl (lv_at hl 2 rfl) ?_
              refine lv_aload_n hx hb dX5_digest_116 rfl (lv_at hl 0 rfl) ?_
              refine va_get (D := D) (ci := 5) (v := .int (M_1 0 3)) (C := RX5) (T := TX5) (N := 15) hx hb hts hinX5 hown hK1 hP 0 rfl rfl 5 (by decide) (hts (.fieldLink RX5 51 "KnowledgeModelModel" "formulas" "I") (List.mem_of_getElem? (i := 8) rfl)) (fun _ h9 => h9) rfl dX5_digest_117 ?_
              refine xtop (y := nI nf) (hk_4) ?_
              refine lv_icmp_ge (tgt := 167) hx hb dX5_digest_120 (by decide) (fun c120 => ?_) (fun c120 => ?_)
              ·
                replace c120 : nf ≤ f := k_get c120 (by omega) (by omega)
                refine lv_lload_n hx hb dX5_digest_167 rfl (lv_at hl 1 rfl) ?_
                subst hQ
                have hMfin : M_1 = wr M 0 0 (nI 0) := by simp only [fo_0, hM_1, c22, c89, c120]
                rw [hMfin] at hP
                have hrel : True := by trivial
                have hfin : (digFR M ((digAR M (3937 + (nI n).toInt64) n * 31 + (if n = 0 then (-1 : Int32) else nI act).toInt64) * 31 + (nI nf).toInt64) f) = digR M n act nf := by (have hfe : f = nf := by omega); subst hfe; rfl
                exact W.lret hx hb hr (fun t ht hW => ⟨⟨_, (), rfl, ⟨hfin, hrel⟩, by rw [← ht] at hP; exact hP⟩, hS.F ht⟩) hS.2.2 dX5_digest_168
              ·
                replace c120 : f < nf := k_gef c120 (by omega) (by omega)
                refine lv_lload_n hx hb dX5_digest_123 rfl (lv_at hl 1 rfl) ?_
                refine lv_ldc2 hx hb hown (hts (.constantLong RX5 134 (31)) (List.mem_of_getElem? (i := 4) rfl)) dX5_digest_124 ?_
                refine lv_lmul hx hb dX5_digest_127 ?_
                refine lv_aload_n hx hb dX5_digest_128 rfl (lv_at hl 0 rfl) ?_
                refine va_get (D := D) (ci := 5) (v := .ref (b 3)) (C := RX5) (T := TX5) (N := 15) hx hb hts hinX5 hown hK1 hP 0 rfl rfl 6 (by decide) (hts (.fieldLink RX5 16 "KnowledgeModelModel" "kinds" "[I") (List.mem_of_getElem? (i := 9) rfl)) (fun _ h9 => h9) rfl dX5_digest_129 ?_
                refine lv_iload_n hx hb dX5_digest_132 rfl (lv_at hl 2 rfl) ?_
                refine xiald (j := f) (q0 := 3) (t0 := 0) hx hb hK1 hP rfl rfl (by omega) (by decide) dX5_digest_133 ?_
                refine xtop (y := (M 3 f)) (by simp only [hM_1]; rfl) ?_
                refine lv_i2l (v := (M 3 f).toInt64) hx hb dX5_digest_134 rfl ?_
                refine lv_ladd hx hb dX5_digest_135 ?_
                refine lv_ldc2 hx hb hown (hts (.constantLong RX5 134 (31)) (List.mem_of_getElem? (i := 4) rfl)) dX5_digest_136 ?_
                refine lv_lmul hx hb dX5_digest_139 ?_
                refine lv_aload_n hx hb dX5_digest_140 rfl (lv_at hl 0 rfl) ?_
                refine va_get (D := D) (ci := 5) (v := .ref (b 6)) (C := RX5) (T := TX5) (N := 15) hx hb hts hinX5 hown hK1 hP 0 rfl rfl 9 (by decide) (hts (.fieldLink RX5 25 "KnowledgeModelModel" "depths" "[I") (List.mem_of_getElem? (i := 10) rfl)) (fun _ h9 => h9) rfl dX5_digest_141 ?_
                refine lv_iload_n hx hb dX5_digest_144 rfl (lv_at hl 2 rfl) ?_
                refine xiald (j := f) (q0 := 6) (t0 := 0) hx hb hK1 hP rfl rfl (by omega) (by decide) dX5_digest_145 ?_
                refine xtop (y := (M 6 f)) (by simp only [hM_1]; rfl) ?_
                refine lv_i2l (v := (M 6 f).toInt64) hx hb dX5_digest_146 rfl ?_
                refine lv_ladd hx hb dX5_digest_147 ?_
                refine lv_ldc2 hx hb hown (hts (.constantLong RX5 134 (31)) (List.mem_of_getElem? (i := 4) rfl)) dX5_digest_148 ?_
                refine lv_lmul hx hb dX5_digest_151 ?_
                refine lv_aload_n hx hb dX5_digest_152 rfl (lv_at hl 0 rfl) ?_
                refine va_get (D := D) (ci := 5) (v := .ref (b 7)) (C := RX5) (T := TX5) (N := 15) hx hb hts hinX5 hown hK1 hP 0 rfl rfl 10 (by decide) (hts (.fieldLink RX5 28 "KnowledgeModelModel" "nestings" "[I") (List.mem_of_getElem? (i := 11) rfl)) (fun _ h9 => h9) rfl dX5_digest_153 ?_
                refine lv_iload_n hx hb dX5_digest_156 rfl (lv_at hl 2 rfl) ?_
                refine xiald (j := f) (q0 := 7) (t0 := 0) hx hb hK1 hP rfl rfl (by omega) (by decide) dX5_digest_157 ?_
                refine xtop (y := (M 7 f)) (by simp only [hM_1]; rfl) ?_
                refine lv_i2l (v := (M 7 f).toInt64) hx hb dX5_digest_158 rfl ?_
                refine lv_ladd hx hb dX5_digest_159 ?_
                refine lv_lstore_n (lv' := [(1, .long (((((((digFR M ((digAR M (3937 + (nI n).toInt64) n * 31 + (if n = 0 then (-1 : Int32) else nI act).toInt64) * 31 + (nI nf).toInt64) f) * (31 : Int64)) + ((M 3 f).toInt64)) * (31 : Int64)) + ((M 6 f).toInt64)) * (31 : Int64)) + ((M 7 f).toInt64))), (0, .ref (b 0)), (3, .int (nI f))]) hx hb dX5_digest_160 rfl hl (by decide) rfl (fun ls hl => ?_)
                refine lv_iinc (v := (nI (f + 1))) (lv' := [(3, .int (nI (f + 1))), (1, .long (((((((digFR M ((digAR M (3937 + (nI n).toInt64) n * 31 + (if n = 0 then (-1 : Int32) else nI act).toInt64) * 31 + (nI nf).toInt64) f) * (31 : Int64)) + ((M 3 f).toInt64)) * (31 : Int64)) + ((M 6 f).toInt64)) * (31 : Int64)) + ((M 7 f).toInt64))), (0, .ref (b 0))]) hx hb dX5_digest_161 hl (k := 2) rfl (nI_add f 1) (by decide) rfl (fun ls hl => ?_)
                refine lv_goto (tgt := 115) hx hb dX5_digest_164 (by decide) ?_
                have e_6 : (((((((digFR M ((digAR M (3937 + (nI n).toInt64) n * 31 + (if n = 0 then (-1 : Int32) else nI act).toInt64) * 31 + (nI nf).toInt64) f) * (31 : Int64)) + ((M 3 f).toInt64)) * (31 : Int64)) + ((M 6 f).toInt64)) * (31 : Int64)) + ((M 7 f).toInt64)) = (digFR M ((digAR M (3937 + (nI n).toInt64) n * 31 + (if n = 0 then (-1 : Int32) else nI act).toInt64) * 31 + (nI nf).toInt64) (f + 1)) := by rfl
                exact cut115 (f + 1) (by omega) (by omega) _ _ hP hS ls (lcons (lcons (lcons (lzero hl) hl 0 rfl rfl) hl 1 rfl (congrArg Value.long e_6)) hl 2 rfl rfl)
          have e_7 : (((((digAR M (3937 + (nI n).toInt64) j) * (31 : Int64)) + ((nI act).toInt64)) * (31 : Int64)) + ((nI nf).toInt64)) = (digFR M ((digAR M (3937 + (nI n).toInt64) n * 31 + (if n = 0 then (-1 : Int32) else nI act).toInt64) * 31 + (nI nf).toInt64) 0) := by (have hje : j = n := by omega); subst hje; first | (rw [if_pos c89]; rfl) | (rw [if_neg c89]; rfl)
          exact cut115 (nf + 1) 0 (by omega) (by omega) _ _ hP hS ls (lcons (lcons (lcons (lzero hl) hl 0 rfl rfl) hl 1 rfl (congrArg Value.long e_7)) hl 2 rfl rfl)
        ·
          replace c89 : n = 0 := k0_nef c89 (by omega)
          refine lv_iconst (v := (-1 : Int32)) hx hb dX5_digest_92 (by decide) ?_
          refine lv_goto (tgt := 100) hx hb dX5_digest_93 (by decide) ?_
          refine lv_i2l (v := (-1 : Int32).toInt64) hx hb dX5_digest_100 rfl ?_
          refine lv_ladd hx hb dX5_digest_101 ?_
          refine lv_ldc2 hx hb hown (hts (.constantLong RX5 134 (31)) (List.mem_of_getElem? (i := 4) rfl)) dX5_digest_102 ?_
          refine lv_lmul hx hb dX5_digest_105 ?_
          refine lv_aload_n hx hb dX5_digest_106 rfl (lv_at hl 0 rfl) ?_
          refine va_get (D := D) (ci := 5) (v := .int (M_1 0 3)) (C := RX5) (T := TX5) (N := 15) hx hb hts hinX5 hown hK1 hP 0 rfl rfl 5 (by decide) (hts (.fieldLink RX5 51 "KnowledgeModelModel" "formulas" "I") (List.mem_of_getElem? (i := 8) rfl)) (fun _ h9 => h9) rfl dX5_digest_107 ?_
          refine xtop (y := nI nf) (hk_4) ?_
          refine lv_i2l (v := (nI nf).toInt64) hx hb dX5_digest_110 rfl ?_
          refine lv_ladd hx hb dX5_digest_111 ?_
          refine lv_lstore_n (lv' := [(1, .long (((((digAR M (3937 + (nI n).toInt64) j) * (31 : Int64)) + ((-1 : Int32).toInt64)) * (31 : Int64)) + ((nI nf).toInt64))), (0, .ref (b 0)), (3, .int (nI j))]) hx hb dX5_digest_112 rfl hl (by decide) rfl (fun ls hl => ?_)
          refine lv_iconst (v := (nI 0)) hx hb dX5_digest_113 (by decide) ?_
          refine lv_istore_n (lv' := [(3, .int (nI 0)), (1, .long (((((digAR M (3937 + (nI n).toInt64) j) * (31 : Int64)) + ((-1 : Int32).toInt64)) * (31 : Int64)) + ((nI nf).toInt64))), (0, .ref (b 0))]) hx hb dX5_digest_114 rfl hl (by decide) rfl (fun ls hl => ?_)
          have cut115 : ∀ (f115 : Nat) (f : Nat) (hf : f ≤ nf), nf + 1 ≤ f + f115 → ∀ (H : Heap) (locs : List Loc), va_P D vwCl (rc cs b M_1) H → va_S (kA b 12 s.heap.size) s.heap H locs → ∀ (ls : Array Slot), lv_has ls 5 [(0, .ref (b 0)), (1, .long (digFR M ((digAR M (3937 + (nI n).toInt64) n * 31 + (if n = 0 then (-1 : Int32) else nI act).toInt64) * 31 + (nI nf).toInt64) f)), (3, .int (nI f))] → W p l e ({ frames := 2, cells := 0, slots := 0, locals := 60 } : Room) s m ([.ref (b 0)] : List Value).toArray below meth c H locs 0 0 Q (F0 m 115 ls []) := by
            intro f115
            induction f115 with
            | zero => intro f hf hfu115; exact absurd hfu115 (by omega)
            | succ f115 cut115 =>
              intro f hf hfu115 H locs hP hS ls hl
              refine lv_iload_n hx hb dX5_digest_115 rfl (lv_at hl 2 rfl) ?_
              refine lv_aload_n hx hb dX5_digest_116 rfl (lv_at hl 0 rfl) ?_
              refine va_get (D := D) (ci := 5) (v := .int (M_1 0 3)) (C := RX5) (T := TX5) (N := 15) hx hb hts hinX5 hown hK1 hP 0 rfl rfl 5 (by decide) (hts (.fieldLink RX5 51 "KnowledgeModelModel" "formulas" "I") (List.mem_of_getElem? (i := 8) rfl)) (fun _ h9 => h9) rfl dX5_digest_117 ?_
              refine xtop (y := nI nf) (hk_4) ?_
              refine lv_icmp_ge (tgt := 167) hx hb dX5_digest_120 (by decide) (fun c120 => ?_) (fun c120 => ?_)
              ·
                replace c120 : nf ≤ f := k_get c120 (by omega) (by omega)
                refine lv_lload_n hx hb dX5_digest_167 rfl (lv_at hl 1 rfl) ?_
                subst hQ
                have hMfin : M_1 = wr M 0 0 (nI 0) := by simp only [fo_0, hM_1, c22, c89, c120]
                rw [hMfin] at hP
                have hrel : True := by trivial
                have hfin : (digFR M ((digAR M (3937 + (nI n).toInt64) n * 31 + (if n = 0 then (-1 : Int32) else nI act).toInt64) * 31 + (nI nf).toInt64) f) = digR M n act nf := by (have hfe : f = nf := by omega); subst hfe; rfl
                exact W.lret hx hb hr (fun t ht hW => ⟨⟨_, (), rfl, ⟨hfin, hrel⟩, by rw [← ht] at hP; exact hP⟩, hS.F ht⟩) hS.2.2 dX5_digest_168
              ·
                replace c120 : f < nf := k_gef c120 (by omega) (by omega)
                refine lv_lload_n hx hb dX5_digest_123 rfl (lv_at hl 1 rfl) ?_
                refine lv_ldc2 hx hb hown (hts (.constantLong RX5 134 (31)) (List.mem_of_getElem? (i := 4) rfl)) dX5_digest_124 ?_
                refine lv_lmul hx hb dX5_digest_127 ?_
                refine lv_aload_n hx hb dX5_digest_128 rfl (lv_at hl 0 rfl) ?_
                refine va_get (D := D) (ci := 5) (v := .ref (b 3)) (C := RX5) (T := TX5) (N := 15) hx hb hts hinX5 hown hK1 hP 0 rfl rfl 6 (by decide) (hts (.fieldLink RX5 16 "KnowledgeModelModel" "kinds" "[I") (List.mem_of_getElem? (i := 9) rfl)) (fun _ h9 => h9) rfl dX5_digest_129 ?_
                refine lv_iload_n hx hb dX5_digest_132 rfl (lv_at hl 2 rfl) ?_
                refine xiald (j := f) (q0 := 3) (t0 := 0) hx hb hK1 hP rfl rfl (by omega) (by decide) dX5_digest_133 ?_
                refine xtop (y := (M 3 f)) (by simp only [hM_1]; rfl) ?_
                refine lv_i2l (v := (M 3 f).toInt64) hx hb dX5_digest_134 rfl ?_
                refine lv_ladd hx hb dX5_digest_135 ?_
                refine lv_ldc2 hx hb hown (hts (.constantLong RX5 134 (31)) (List.mem_of_getElem? (i := 4) rfl)) dX5_digest_136 ?_
                refine lv_lmul hx hb dX5_digest_139 ?_
                refine lv_aload_n hx hb dX5_digest_140 rfl (lv_at hl 0 rfl) ?_
                refine va_get (D := D) (ci := 5) (v := .ref (b 6)) (C := RX5) (T := TX5) (N := 15) hx hb hts hinX5 hown hK1 hP 0 rfl rfl 9 (by decide) (hts (.fieldLink RX5 25 "KnowledgeModelModel" "depths" "[I") (List.mem_of_getElem? (i := 10) rfl)) (fun _ h9 => h9) rfl dX5_digest_141 ?_
                refine lv_iload_n hx hb dX5_digest_144 rfl (lv_at hl 2 rfl) ?_
                refine xiald (j := f) (q0 := 6) (t0 := 0) hx hb hK1 hP rfl rfl (by omega) (by decide) dX5_digest_145 ?_
                refine xtop (y := (M 6 f)) (by simp only [hM_1]; rfl) ?_
                refine lv_i2l (v := (M 6 f).toInt64) hx hb dX5_digest_146 rfl ?_
                refine lv_ladd hx hb dX5_digest_147 ?_
                refine lv_ldc2 hx hb hown (hts (.constantLong RX5 134 (31)) (List.mem_of_getElem? (i := 4) rfl)) dX5_digest_148 ?_
                refine lv_lmul hx hb dX5_digest_151 ?_
                refine lv_aload_n hx hb dX5_digest_152 rfl (lv_at hl 0 rfl) ?_
                refine va_get (D := D) (ci := 5) (v := .ref (b 7)) (C := RX5) (T := TX5) (N := 15) hx hb hts hinX5 hown hK1 hP 0 rfl rfl 10 (by decide) (hts (.fieldLink RX5 28 "KnowledgeModelModel" "nestings" "[I") (List.mem_of_getElem? (i := 11) rfl)) (fun _ h9 => h9) rfl dX5_digest_153 ?_
                refine lv_iload_n hx hb dX5_digest_156 rfl (lv_at hl 2 rfl) ?_
                refine xiald (j := f) (q0 := 7) (t0 := 0) hx hb hK1 hP rfl rfl (by omega) (by decide) dX5_digest_157 ?_
                refine xtop (y := (M 7 f)) (by simp only [hM_1]; rfl) ?_
                refine lv_i2l (v := (M 7 f).toInt64) hx hb dX5_digest_158 rfl ?_
                refine lv_ladd hx hb dX5_digest_159 ?_
                refine lv_lstore_n (lv' := [(1, .long (((((((digFR M ((digAR M (3937 + (nI n).toInt64) n * 31 + (if n = 0 then (-1 : Int32) else nI act).toInt64) * 31 + (nI nf).toInt64) f) * (31 : Int64)) + ((M 3 f).toInt64)) * (31 : Int64)) + ((M 6 f).toInt64)) * (31 : Int64)) + ((M 7 f).toInt64))), (0, .ref (b 0)), (3, .int (nI f))]) hx hb dX5_digest_160 rfl hl (by decide) rfl (fun ls hl => ?_)
                refine lv_iinc (v := (nI (f + 1))) (lv' := [(3, .int (nI (f + 1))), (1, .long (((((((digFR M ((digAR M (3937 + (nI n).toInt64) n * 31 + (if n = 0 then (-1 : Int32) else nI act).toInt64) * 31 + (nI nf).toInt64) f) * (31 : Int64)) + ((M 3 f).toInt64)) * (31 : Int64)) + ((M 6 f).toInt64)) * (31 : Int64)) + ((M 7 f).toInt64))), (0, .ref (b 0))]) hx hb dX5_digest_161 hl (k := 2) rfl (nI_add f 1) (by decide) rfl (fun ls hl => ?_)
                refine lv_goto (tgt := 115) hx hb dX5_digest_164 (by decide) ?_
                have e_8 : (((((((digFR M ((digAR M (3937 + (nI n).toInt64) n * 31 + (if n = 0 then (-1 : Int32) else nI act).toInt64) * 31 + (nI nf).toInt64) f) * (31 : Int64)) + ((M 3 f).toInt64)) * (31 : Int64)) + ((M 6 f).toInt64)) * (31 : Int64)) + ((M 7 f).toInt64)) = (digFR M ((digAR M (3937 + (nI n).toInt64) n * 31 + (if n = 0 then (-1 : Int32) else nI act).toInt64) * 31 + (nI nf).toInt64) (f + 1)) := by rfl
                exact cut115 (f + 1) (by omega) (by omega) _ _ hP hS ls (lcons (lcons (lcons (lzero hl) hl 0 rfl rfl) hl 1 rfl (congrArg Value.long e_8)) hl 2 rfl rfl)
          have e_9 : (((((digAR M (3937 + (nI n).toInt64) j) * (31 : Int64)) + ((-1 : Int32).toInt64)) * (31 : Int64)) + ((nI nf).toInt64)) = (digFR M ((digAR M (3937 + (nI n).toInt64) n * 31 + (if n = 0 then (-1 : Int32) else nI act).toInt64) * 31 + (nI nf).toInt64) 0) := by (have hje : j = n := by omega); subst hje; first | (rw [if_pos c89]; rfl) | (rw [if_neg c89]; rfl)
          exact cut115 (nf + 1) 0 (by omega) (by omega) _ _ hP hS ls (lcons (lcons (lcons (lzero hl) hl 0 rfl rfl) hl 1 rfl (congrArg Value.long e_9)) hl 2 rfl rfl)
      ·
        replace c22 : j < n := k_gef c22 (by omega) (by omega)
        refine lv_lload_n hx hb dX5_digest_25 rfl (lv_at hl 1 rfl) ?_
        refine lv_ldc2 hx hb hown (hts (.constantLong RX5 134 (31)) (List.mem_of_getElem? (i := 4) rfl)) dX5_digest_26 ?_
        refine lv_lmul hx hb dX5_digest_29 ?_
        refine lv_aload_n hx hb dX5_digest_30 rfl (lv_at hl 0 rfl) ?_
        refine va_get (D := D) (ci := 5) (v := .ref (b 1)) (C := RX5) (T := TX5) (N := 15) hx hb hts hinX5 hown hK1 hP 0 rfl rfl 3 (by decide) (hts (.fieldLink RX5 9 "KnowledgeModelModel" "atoms" "[I") (List.mem_of_getElem? (i := 5) rfl)) (fun _ h9 => h9) rfl dX5_digest_31 ?_
        refine lv_iload_n hx hb dX5_digest_34 rfl (lv_at hl 2 rfl) ?_
        refine xiald (j := j) (q0 := 1) (t0 := 0) hx hb hK1 hP rfl rfl (by omega) (by decide) dX5_digest_35 ?_
        refine xtop (y := (M 1 j)) (by simp only [hM_1]; rfl) ?_
        refine lv_i2l (v := (M 1 j).toInt64) hx hb dX5_digest_36 rfl ?_
        refine lv_ladd hx hb dX5_digest_37 ?_
        refine lv_lstore_n (lv' := [(1, .long (((digAR M (3937 + (nI n).toInt64) j) * (31 : Int64)) + ((M 1 j).toInt64))), (0, .ref (b 0)), (3, .int (nI j))]) hx hb dX5_digest_38 rfl hl (by decide) rfl (fun ls hl => ?_)
        refine lv_iconst (v := (nI 0)) hx hb dX5_digest_39 (by decide) ?_
        refine lv_istore (lv' := [(4, .int (nI 0)), (1, .long (((digAR M (3937 + (nI n).toInt64) j) * (31 : Int64)) + ((M 1 j).toInt64))), (0, .ref (b 0)), (3, .int (nI j))]) hx hb dX5_digest_40 hl (by decide) rfl (fun ls hl => ?_)
        have cut42 : ∀ (f42 : Nat) (q : Nat) (hq : q ≤ 4), 4 + 1 ≤ q + f42 → ∀ (H : Heap) (locs : List Loc), va_P D vwCl (rc cs b M_1) H → va_S (kA b 12 s.heap.size) s.heap H locs → ∀ (ls : Array Slot), lv_has ls 5 [(0, .ref (b 0)), (1, .long (fo (fun i d => d * 31 + (M 2 (24 * i + j)).toInt64) (digAR M (3937 + (nI n).toInt64) j * 31 + (M 1 j).toInt64) q)), (3, .int (nI j)), (4, .int (nI q))] → W p l e ({ frames := 2, cells := 0, slots := 0, locals := 60 } : Room) s m ([.ref (b 0)] : List Value).toArray below meth c H locs 0 0 Q (F0 m 42 ls []) := by
          intro f42
          induction f42 with
          | zero => intro q hq hfu42; exact absurd hfu42 (by omega)
          | succ f42 cut42 =>
            intro q hq hfu42 H locs hP hS ls hl
            refine lv_iload hx hb dX5_digest_42 (lv_at hl 3 rfl) ?_
            refine lv_iconst (v := (nI 4)) hx hb dX5_digest_44 (by decide) ?_
            refine lv_icmp_ge (tgt := 74) hx hb dX5_digest_45 (by decide) (fun c45 => ?_) (fun c45 => ?_)
            ·
              replace c45 : 4 ≤ q := k_get c45 (by omega) (by omega)
              refine lv_iinc (v := (nI (j + 1))) (lv' := [(3, .int (nI (j + 1))), (0, .ref (b 0)), (1, .long (fo (fun i d => d * 31 + (M 2 (24 * i + j)).toInt64) (digAR M (3937 + (nI n).toInt64) j * 31 + (M 1 j).toInt64) q)), (4, .int (nI q))]) hx hb dX5_digest_74 hl (k := 2) rfl (nI_add j 1) (by decide) rfl (fun ls hl => ?_)
              refine lv_goto (tgt := 17) hx hb dX5_digest_77 (by decide) ?_
              have e_10 : (fo (fun i d => d * 31 + (M 2 (24 * i + j)).toInt64) (digAR M (3937 + (nI n).toInt64) j * 31 + (M 1 j).toInt64) q) = (digAR M (3937 + (nI n).toInt64) (j + 1)) := by (have hqe : q = 4 := by omega); subst hqe; rfl
              exact cut17 (j + 1) (by omega) (by omega) _ _ hP hS ls (lcons (lcons (lcons (lzero hl) hl 0 rfl rfl) hl 2 rfl (congrArg Value.long e_10)) hl 1 rfl rfl)
            ·
              replace c45 : q < 4 := k_gef c45 (by omega) (by omega)
              refine lv_lload_n hx hb dX5_digest_48 rfl (lv_at hl 1 rfl) ?_
              refine lv_ldc2 hx hb hown (hts (.constantLong RX5 134 (31)) (List.mem_of_getElem? (i := 4) rfl)) dX5_digest_49 ?_
              refine lv_lmul hx hb dX5_digest_52 ?_
              refine lv_aload_n hx hb dX5_digest_53 rfl (lv_at hl 0 rfl) ?_
              refine va_get (D := D) (ci := 5) (v := .ref (b 2)) (C := RX5) (T := TX5) (N := 15) hx hb hts hinX5 hown hK1 hP 0 rfl rfl 4 (by decide) (hts (.fieldLink RX5 13 "KnowledgeModelModel" "seen" "[I") (List.mem_of_getElem? (i := 6) rfl)) (fun _ h9 => h9) rfl dX5_digest_54 ?_
              refine lv_bipush (v := (nI 24)) hx hb dX5_digest_57 (by decide) ?_
              refine lv_iload hx hb dX5_digest_59 (lv_at hl 3 rfl) ?_
              refine ximul hx hb dX5_digest_61 ?_
              refine lv_iload_n hx hb dX5_digest_62 rfl (lv_at hl 2 rfl) ?_
              refine xiadd hx hb dX5_digest_63 ?_
              refine xiald (j := (24 * q) + j) (q0 := 2) (t0 := 0) hx hb hK1 hP rfl rfl (by omega) (by decide) dX5_digest_64 ?_
              refine xtop (y := (M 2 ((24 * q) + j))) (by simp only [hM_1]; rfl) ?_
              refine lv_i2l (v := (M 2 ((24 * q) + j)).toInt64) hx hb dX5_digest_65 rfl ?_
              refine lv_ladd hx hb dX5_digest_66 ?_
              refine lv_lstore_n (lv' := [(1, .long (((fo (fun i d => d * 31 + (M 2 (24 * i + j)).toInt64) (digAR M (3937 + (nI n).toInt64) j * 31 + (M 1 j).toInt64) q) * (31 : Int64)) + ((M 2 ((24 * q) + j)).toInt64))), (0, .ref (b 0)), (3, .int (nI j)), (4, .int (nI q))]) hx hb dX5_digest_67 rfl hl (by decide) rfl (fun ls hl => ?_)
              refine lv_iinc (v := (nI (q + 1))) (lv' := [(4, .int (nI (q + 1))), (1, .long (((fo (fun i d => d * 31 + (M 2 (24 * i + j)).toInt64) (digAR M (3937 + (nI n).toInt64) j * 31 + (M 1 j).toInt64) q) * (31 : Int64)) + ((M 2 ((24 * q) + j)).toInt64))), (0, .ref (b 0)), (3, .int (nI j))]) hx hb dX5_digest_68 hl (k := 3) rfl (nI_add q 1) (by decide) rfl (fun ls hl => ?_)
              refine lv_goto (tgt := 42) hx hb dX5_digest_71 (by decide) ?_
              have e_11 : (((fo (fun i d => d * 31 + (M 2 (24 * i + j)).toInt64) (digAR M (3937 + (nI n).toInt64) j * 31 + (M 1 j).toInt64) q) * (31 : Int64)) + ((M 2 ((24 * q) + j)).toInt64)) = (fo (fun i d => d * 31 + (M 2 (24 * i + j)).toInt64) (digAR M (3937 + (nI n).toInt64) j * 31 + (M 1 j).toInt64) (q + 1)) := by rfl
              exact cut42 (q + 1) (by omega) (by omega) _ _ hP hS ls (lcons (lcons (lcons (lcons (lzero hl) hl 0 rfl rfl) hl 3 rfl rfl) hl 1 rfl (congrArg Value.long e_11)) hl 2 rfl rfl)
        have e_12 : (((digAR M (3937 + (nI n).toInt64) j) * (31 : Int64)) + ((M 1 j).toInt64)) = (fo (fun i d => d * 31 + (M 2 (24 * i + j)).toInt64) (digAR M (3937 + (nI n).toInt64) j * 31 + (M 1 j).toInt64) 0) := by rfl
        exact cut42 (4 + 1) 0 (by omega) (by omega) _ _ hP hS ls (lcons (lcons (lcons (lcons (lzero hl) hl 0 rfl rfl) hl 3 rfl rfl) hl 1 rfl (congrArg Value.long e_12)) hl 2 rfl rfl)
  have e_13 : ((3937 : Int64) + ((nI n).toInt64)) = (digAR M (3937 + (nI n).toInt64) 0) := by rfl
  exact cut17 (n + 1) 0 (by omega) (by omega) _ _ hP hS ls (lcons (lcons (lcons (lzero hl) hl 0 rfl rfl) hl 1 rfl (congrArg Value.long e_13)) hl 2 rfl rfl)

