def shv (k n : Nat) : UInt64 := FP.ddiv (FP.i2d (nI k)) (FP.i2d (nI n))
set_option maxRecDepth 100000 in
theorem sh_nan : ∀ k, k < 33 → ∀ n, n < 25 → 0 < n → vf_n64 (shv k n) := by unfold vf_n64; decide +kernel
set_option maxRecDepth 100000 in
theorem sh_cmp : ∀ k, k < 33 → ∀ n, n < 25 → 0 < n → FP.dcmp (shv k n) (shv k n) = some .eq := by decide +kernel
theorem sh_0 : FP.dcmp FP.dconst0 FP.dconst0 = some .eq := by decide +kernel

set_option maxHeartbeats 4000000 in
set_option maxRecDepth 100000 in
theorem c_X4_share (l : Launch) (hl0 : l.stackTraces = false) (D : va_G) (cs sa : Nat → Nat) (a : Nat → Nat) (M : Nat → Nat → Int32) (N : Nat → Int64) (sz : Nat) (hI : kI a 29) (n : Nat) (nf : Nat) (kd : Nat → Nat) (p1 : Nat → Nat) (p2 : Nat → Nat) (ns : Nat → Nat) (sb : Nat → Nat) (x : Int32) (hn : M 0 0 = nI n) (hn24 : n ≤ 24) (hfc : M 0 2 = nI nf) (hf40 : nf ≤ 40) (hwf : WFX M N nf kd p1 p2 ns sb) : vx_Met l yX4_share wsX4_share ({ frames := 15, cells := 1, slots := 6, locals := 350 } : Room) (va_Pc [.ref (a 0), .int x] (XBT D cs sa a (xc cs a M N) sz)) (va_Qd (fun r (u : Nat → Nat → Int32) => r = (if n = 0 then FP.dconst0 else shv (fb_ct (bt (sem M n kd p1 p2 sb (sg n - nI 1) x.toNatClampNeg)) 32) n) ∧ (if (isIn nf x) = true then 0 else 1) = 0 ∧ (∀ i x, ¬ (12 ≤ i ∧ i < 15) → u i x = M i x)) (fun (u : Nat → Nat → Int32) t => va_P D vwCl (xc cs a u N) t.heap) (kA a 29 sz)) (XX D (fun u => xc cs a u N) (fun E u => (E = "java/lang/IndexOutOfBoundsException" ∧ (if (isIn nf x) = true then 0 else 1) = 1) ∧ TX M u) (kA a 29 sz)) 1 6 (kA a 29 sz) := by
  refine vx_ofW (cc := cX4_share) (maxL := 2) (ret := (some .double)) (by decide) rfl ?_
  intro p e s m args below meth c s₁ B hml htab hv
  obtain ⟨rfl, hsz, hP, hK, hT, hZ⟩ := hv
  have hx := B.exec
  have hb := B.bytes
  have hr := B.returns
  have hts := atoms_spec (ws := wsX4_share) B.pre
  have hown : s.vm.findClass RX4 = some m.cls := findClass_of_methodNamed B.named
  have hlocks := B.notSynchronized
  have hK1 := hK.1
  have hinX4 : ∀ w ∈ wsX40, w ∈ wsX4_share := fun w h => List.mem_cons_of_mem _ (List.mem_append_left _ (List.mem_append_left _ (List.mem_append_left _ (List.mem_append_left _ (List.mem_append_right _ h)))))
  have hinX3 : ∀ w ∈ wsX30, w ∈ wsX4_share := fun w h => List.mem_cons_of_mem _ (List.mem_append_left _ (List.mem_append_left _ (List.mem_append_left _ (List.mem_append_right _ h))))
  have hinX0 : ∀ w ∈ wsX00, w ∈ wsX4_share := fun w h => List.mem_cons_of_mem _ (List.mem_append_left _ (List.mem_append_left _ (List.mem_append_right _ h)))
  have hinX2 : ∀ w ∈ wsX20, w ∈ wsX4_share := fun w h => List.mem_cons_of_mem _ (List.mem_append_left _ (List.mem_append_right _ h))
  subst hsz
  have hS : va_S (kA a 29 s.heap.size) s.heap s.heap [] := va_S.rf
  have hl := lv_entry ([.ref (a 0), .int x]) (n := 2) (Nat.le_of_ble_eq_true rfl)
  rw [lg_entry_eq]
  generalize (lg_sl ([.ref (a 0), .int x]) ++ List.replicate (2 - (lg_sl ([.ref (a 0), .int x])).length) Slot.unset).toArray = ls at hl ⊢
  have hl : lv_has ls 2 [(0, .ref (a 0)), (1, .int x)] := hl
  refine W_Q (fun Q hQ => ?_)
  show W p l e ({ frames := 15, cells := 1, slots := 6, locals := 350 } : Room) s m ([.ref (a 0), .int x] : List Value).toArray below meth c s.heap [] 0 0 Q (F0 m 0 ls [])
  refine lv_aload_n hx hb dX4_share_0 rfl (lv_at hl 0 rfl) ?_
  refine lv_iload_n hx hb dX4_share_1 rfl (lv_at hl 1 rfl) ?_
  refine xcallxv (vx_runV (As := [.int x]) (rest := []) ⟨hx, hb, hml, hown, hts⟩ (c_X4_needFormula l hl0 D cs sa a M N _ hI nf x hfc (by omega)) (cwV 1 hts gX4_share_X4_needFormula rfl rfl rfl (by decide +kernel) ⟨Nat.le_of_ble_eq_true rfl, Nat.le_of_ble_eq_true rfl⟩) (xpreVT hP hK hT hZ hS hS.1 (ci := 4) 0 rfl rfl) rfl rfl hl.1 rfl (lv_room (Nat.le_of_ble_eq_true rfl)) dX4_share_2 ⟨Nat.le_of_ble_eq_true rfl, Nat.le_of_ble_eq_true rfl⟩) hS (kAle hS.1) (fun E ce q9 u9 H locs hXE hP hS hce hcv hcl => ?_) (fun u9 H locs hrel hP hS => ?_)
  ·
    obtain ⟨rfl, c2, hue⟩ := hXE
    rw [hue] at hP
    subst hQ
    exact xout (mc := 1) (ms := 6) htab hlocks hce hcv hcl ⟨⟨rfl, by simp only [if_true, if_false, Bool.false_eq_true, decide_true, decide_false, c2]⟩, by first | exact TX_r | exact fun i x hi => TX_r i x (by omega)⟩ hP hS (Nat.le_of_ble_eq_true rfl) (Nat.le_of_ble_eq_true rfl)
  obtain ⟨c2, hue⟩ := hrel
  rw [hue] at hP
  clear hue
  refine W.widen (k := 1) (n := 6) (by decide) (by decide) ?_
  obtain ⟨hlt_x, heq_x⟩ := isIn_eq (by omega) c2
  have hl : lv_has ls 2 [(0, .ref (a 0)), (1, .int (nI x.toNatClampNeg))] := (lcons (lcons (lzero hl) hl 1 rfl (congrArg Value.int heq_x)) hl 0 rfl rfl)
  refine lv_aload_n hx hb dX4_share_5 rfl (lv_at hl 0 rfl) ?_
  refine va_get (D := D) (ci := 4) (v := .ref (a 1)) (C := RX4) (T := TX4) (N := 4) hx hb hts hinX4 hown hK1 hP 0 rfl rfl 0 (by decide) (hts (.fieldLink RX4 10 "KnowledgeModel" "worlds" "LKnowledgeModel$Worlds;") (List.mem_of_getElem? (i := 1) rfl)) (fun _ h9 => h9) rfl dX4_share_6 ?_
  refine va_get (D := D) (ci := 3) (v := .int (M 0 0)) (C := RX3) (T := TX3) (N := 4) hx hb hts hinX3 hown hK1 hP 1 rfl rfl 2 (by decide) (hts (.fieldLink RX4 45 "KnowledgeModel$Worlds" "count" "I") (List.mem_of_getElem? (i := 2) rfl)) (fun _ h9 => h9) rfl dX4_share_9 ?_
  refine xtop (y := nI n) (hn) ?_
  refine lv_if_ne (tgt := 17) hx hb dX4_share_12 (by decide) (fun c12 => ?_) (fun c12 => ?_)
  ·
    replace c12 : ¬ n = 0 := k0_net c12 (by omega)
    refine lv_aload_n hx hb dX4_share_17 rfl (lv_at hl 0 rfl) ?_
    refine va_get (D := D) (ci := 4) (v := .ref (a 16)) (C := RX4) (T := TX4) (N := 4) hx hb hts hinX4 hown hK1 hP 0 rfl rfl 2 (by decide) (hts (.fieldLink RX4 28 "KnowledgeModel" "truth" "LKnowledgeModel$Truth;") (List.mem_of_getElem? (i := 3) rfl)) (fun _ h9 => h9) rfl dX4_share_18 ?_
    refine lv_iload_n hx hb dX4_share_21 rfl (lv_at hl 1 rfl) ?_
    refine xcallwi (va_runV (As := [.int (nI x.toNatClampNeg)]) (rest := []) ⟨hx, hb, hml, hown, hts⟩ (c_X2_worldsOf l D cs a M N _ hI n nf kd p1 p2 ns sb x.toNatClampNeg hn (by omega) hwf hf40 hlt_x) (cwV 1 hts gX4_share_X2_worldsOf rfl rfl rfl (by decide +kernel) ⟨Nat.le_of_ble_eq_true rfl, Nat.le_of_ble_eq_true rfl⟩) (xpreVs hP hK (ci := 2) 16 rfl rfl) rfl rfl hl.1 rfl (lv_room (Nat.le_of_ble_eq_true rfl)) dX4_share_22 ⟨Nat.le_of_ble_eq_true rfl, Nat.le_of_ble_eq_true rfl⟩) hS (kAle hS.1) (fun u_1 H locs hu_1 hP _ _ hS => ?_)
    have hP : va_P D vwCl (xc cs a u_1 N) H := hP
    have hk_2 : u_1 0 0 = nI n := by rw [hu_1 0 0 (by decide)]; exact hn
    have hk_4 : u_1 0 2 = nI nf := by rw [hu_1 0 2 (by decide)]; exact hfc
    obtain ⟨set, hset⟩ : ∃ z, z = sem M n kd p1 p2 sb (sg n - nI 1) x.toNatClampNeg := ⟨_, rfl⟩
    refine xtop (y := set) hset.symm ?_
    have hTV : (∀ i x, ¬ (12 ≤ i ∧ i < 15) → u_1 i x = M i x) := hu_1
    refine xcalli (va_runS (As := [.int set]) (rest := []) ⟨hx, hb, hml, hown, hts⟩ (c_J6_bitCount_0f7a4 l set) (va_cwS 1 hts gX4_share_J6_bitCount_0f7a4 rfl rfl rfl (by decide +kernel) ⟨Nat.le_of_ble_eq_true rfl, Nat.le_of_ble_eq_true rfl⟩) xpreN rfl rfl hl.1 rfl (lv_room (Nat.le_of_ble_eq_true rfl)) dX4_share_25 ⟨Nat.le_of_ble_eq_true rfl, Nat.le_of_ble_eq_true rfl⟩) hS hP (fun H locs hP hS => ?_)
    refine xtop (y := (nI (fb_ct (bt set) 32))) (by exact bc_ct set) ?_
    have hct := fb_ct_le (bt set) 32
    refine lv_i2d hx hb dX4_share_28 ?_
    refine lv_aload_n hx hb dX4_share_29 rfl (lv_at hl 0 rfl) ?_
    refine va_get (D := D) (ci := 4) (v := .ref (a 1)) (C := RX4) (T := TX4) (N := 4) hx hb hts hinX4 hown hK1 hP 0 rfl rfl 0 (by decide) (hts (.fieldLink RX4 10 "KnowledgeModel" "worlds" "LKnowledgeModel$Worlds;") (List.mem_of_getElem? (i := 1) rfl)) (fun _ h9 => h9) rfl dX4_share_30 ?_
    refine va_get (D := D) (ci := 3) (v := .int (u_1 0 0)) (C := RX3) (T := TX3) (N := 4) hx hb hts hinX3 hown hK1 hP 1 rfl rfl 2 (by decide) (hts (.fieldLink RX4 45 "KnowledgeModel$Worlds" "count" "I") (List.mem_of_getElem? (i := 2) rfl)) (fun _ h9 => h9) rfl dX4_share_33 ?_
    refine xtop (y := nI n) (hk_2) ?_
    refine lv_i2d hx hb dX4_share_36 ?_
    refine lv_ddiv hx hb dX4_share_37 (sh_nan (fb_ct (bt set) 32) (by omega) n (by omega) (by omega)) ?_
    subst hQ
    refine vx_ret ?_
    have hrel : (if (isIn nf x) = true then 0 else 1) = 0 ∧ (∀ i x, ¬ (12 ≤ i ∧ i < 15) → u_1 i x = M i x) := by refine ⟨by simp only [if_true, if_false, Bool.false_eq_true, decide_true, decide_false, c2, c12, hset], ?_⟩; first | exact hTV | exact fun _ _ _ => rfl
    have hfin : (FP.ddiv (FP.i2d (nI (fb_ct (bt set) 32))) (FP.i2d (nI n))) = (if n = 0 then FP.dconst0 else shv (fb_ct (bt (sem M n kd p1 p2 sb (sg n - nI 1) x.toNatClampNeg)) 32) n) := by first | (rw [if_pos c12]; done) | (rw [if_neg c12, ← hset]; rfl)
    exact W.dret hx hb hr (fun t ht hW => ⟨⟨_, u_1, rfl, ⟨hfin, hrel⟩, by rw [← ht] at hP; exact hP⟩, hS.F ht⟩) hS.2.2 dX4_share_38
  ·
    replace c12 : n = 0 := k0_nef c12 (by omega)
    refine lv_dconst0 hx hb dX4_share_15 ?_
    subst hQ
    refine vx_ret ?_
    have hrel : (if (isIn nf x) = true then 0 else 1) = 0 ∧ (∀ i x, ¬ (12 ≤ i ∧ i < 15) → M i x = M i x) := by refine ⟨by simp only [if_true, if_false, Bool.false_eq_true, decide_true, decide_false, c2, c12], ?_⟩; first | exact hTV | exact fun _ _ _ => rfl
    have hfin : FP.dconst0 = (if n = 0 then FP.dconst0 else shv (fb_ct (bt (sem M n kd p1 p2 sb (sg n - nI 1) x.toNatClampNeg)) 32) n) := by first | (rw [if_pos c12]; done) | (rw [if_neg c12, ← hset]; rfl)
    exact W.dret hx hb hr (fun t ht hW => ⟨⟨_, M, rfl, ⟨hfin, hrel⟩, by rw [← ht] at hP; exact hP⟩, hS.F ht⟩) hS.2.2 dX4_share_16

set_option maxHeartbeats 4000000 in
set_option maxRecDepth 100000 in
theorem c_X5_share (l : Launch) (D : va_G) (cs : Nat → ClassId) (b : Nat → Nat) (M : Nat → Nat → Int32) (sz : Nat) (hI : kI b 12)  (n : Nat) (nf : Nat) (kd : Nat → Nat) (p1 : Nat → Nat) (p2 : Nat → Nat) (ns : Nat → Nat) (sb : Nat → Nat) (ag : Nat → Nat) (M0 : Nat → Nat → Int32) (x : Int32) (hn : M 0 1 = nI n) (hn24 : n ≤ 24) (hfc : M 0 3 = nI nf) (hf40 : nf ≤ 40) (hrw : Rw M M0) (hwf : WFR M0 nf kd p1 p2 ns sb ag) : Met l yX5_share wsX5_share ({ frames := 152, cells := 0, slots := 0, locals := 4450 } : Room) (va_Pc [.ref (b 0), .int x] (XBs D cs (rc cs b M) sz)) (va_Qd (fun r (u : Nat → Nat → Int32) => r = (if isIn nf x = true then (if n = 0 then FP.dconst0 else shv (fb_ct (bt (semR M0 n kd p1 p2 sb ag (sg n - nI 1) x.toNatClampNeg)) 32) n) else FP.dconst0) ∧ TQ (wr M 0 0 (if isIn nf x = true then nI 0 else nI 1)) u) (fun (u : Nat → Nat → Int32) t => va_P D vwCl (rc cs b u) t.heap) (kA b 12 sz)) 0 0 (kA b 12 sz) := by
  refine Met.ofW (cc := cX5_share) (maxL := 2) (ret := (some .double)) (by decide) rfl ?_
  intro p e s m args below meth c s₁ B hml hv
  obtain ⟨rfl, hsz, hP, hK⟩ := hv
  have hx := B.exec
  have hb := B.bytes
  have hr := B.returns
  have hts := atoms_spec (ws := wsX5_share) B.pre
  have hown : s.vm.findClass RX5 = some m.cls := findClass_of_methodNamed B.named
  have hlocks := B.notSynchronized
  have hK1 := hK.1
  have hinX5 : ∀ w ∈ wsX50, w ∈ wsX5_share := fun w h => List.mem_cons_of_mem _ (List.mem_append_right _ h)
  subst hsz
  have hS : va_S (kA b 12 s.heap.size) s.heap s.heap [] := va_S.rf
  have hl := lv_entry ([.ref (b 0), .int x]) (n := 2) (Nat.le_of_ble_eq_true rfl)
  rw [lg_entry_eq]
  generalize (lg_sl ([.ref (b 0), .int x]) ++ List.replicate (2 - (lg_sl ([.ref (b 0), .int x])).length) Slot.unset).toArray = ls at hl ⊢
  have hl : lv_has ls 2 [(0, .ref (b 0)), (1, .int x)] := hl
  refine W_Q (fun Q hQ => ?_)
  show W p l e ({ frames := 152, cells := 0, slots := 0, locals := 4450 } : Room) s m ([.ref (b 0), .int x] : List Value).toArray below meth c s.heap [] 0 0 Q (F0 m 0 ls [])
  refine lv_aload_n hx hb dX5_share_0 rfl (lv_at hl 0 rfl) ?_
  refine lv_aload_n hx hb dX5_share_1 rfl (lv_at hl 0 rfl) ?_
  refine lv_iload_n hx hb dX5_share_2 rfl (lv_at hl 1 rfl) ?_
  refine xcalli (va_runV (As := [.int x]) (rest := [.ref (b 0)]) ⟨hx, hb, hml, hown, hts⟩ (c_X5_isFormula l D cs b M nf x hfc) (cwV 1 hts gX5_share_X5_isFormula rfl rfl rfl (by decide +kernel) ⟨Nat.le_of_ble_eq_true rfl, Nat.le_of_ble_eq_true rfl⟩) (xpreV hP hK (ci := 5) 0 rfl rfl) rfl rfl hl.1 rfl (lv_room (Nat.le_of_ble_eq_true rfl)) dX5_share_3 ⟨Nat.le_of_ble_eq_true rfl, Nat.le_of_ble_eq_true rfl⟩) hS hP (fun H locs hP hS => ?_)
  refine lv_if_eq (tgt := 13) hx hb dX5_share_6 (by decide) (fun c6 => ?_) (fun c6 => ?_)
  ·
    replace c6 := bI_0 c6
    refine lv_iconst (v := (nI 1)) hx hb dX5_share_13 (by decide) ?_
    refine xput (D := D) (ci := 5) (v := .int (nI 1)) (ty := .int) (C := RX5) (T := TX5) (N := 15) (ws' := rc cs b (wr M 0 0 (nI 1))) hx hb hts hinX5 tyX5 tyX5_ok nmX5 hown hK1 hP (rD hI) hS 0 rfl rfl 0 (by decide) (hts (.fieldLink RX5 44 "KnowledgeModelModel" "thrown" "I") (List.mem_of_getElem? (i := 1) rfl)) (fun _ h9 => h9) rfl (by decide +kernel) rfl rfl (Nat.le_of_ble_eq_true rfl) rfl dX5_share_14 (fun H locs hP hS => ?_)
    obtain ⟨M_1, hM_1⟩ : ∃ z, z = wr M 0 0 (nI 1) := ⟨_, rfl⟩
    rw [← hM_1] at hP
    have hk_2 : M_1 0 1 = nI n := by rw [hM_1]; exact (wr_ne (Or.inr (by decide))).trans hn
    have hk_3 : M_1 0 3 = nI nf := by rw [hM_1]; exact (wr_ne (Or.inr (by decide))).trans hfc
    have hk_4 : M_1 0 0 = nI 1 := by rw [hM_1]; exact wr_same
    refine lv_aload_n hx hb dX5_share_17 rfl (lv_at hl 0 rfl) ?_
    refine va_get (D := D) (ci := 5) (v := .int (M_1 0 0)) (C := RX5) (T := TX5) (N := 15) hx hb hts hinX5 hown hK1 hP 0 rfl rfl 0 (by decide) (hts (.fieldLink RX5 44 "KnowledgeModelModel" "thrown" "I") (List.mem_of_getElem? (i := 1) rfl)) (fun _ h9 => h9) rfl dX5_share_18 ?_
    refine xtop (y := nI 1) (hk_4) ?_
    refine lv_if_ne (tgt := 31) hx hb dX5_share_21 (by decide) (fun c21 => ?_) (fun c21 => ?_)
    ·
      replace c21 : ¬ 1 = 0 := k0_net c21 (by omega)
      refine lv_dconst0 hx hb dX5_share_31 ?_
      refine lv_goto (tgt := 50) hx hb dX5_share_32 (by decide) ?_
      subst hQ
      have hrel : TQ (wr M 0 0 (if isIn nf x = true then nI 0 else nI 1)) M_1 := by first | (intro i x hi; simp only [wr_wr, if_true, if_false, Bool.false_eq_true, Nat.one_ne_zero, c6, hM_1, c21]; done) | (intro i x hi; rw [trivial i x hi]; simp only [wr_wr, if_true, if_false, Bool.false_eq_true, Nat.one_ne_zero, c6, hM_1, c21])
      have hfin : FP.dconst0 = (if isIn nf x = true then (if n = 0 then FP.dconst0 else shv (fb_ct (bt (semR M0 n kd p1 p2 sb ag (sg n - nI 1) x.toNatClampNeg)) 32) n) else FP.dconst0) := by first | (rw [c6]; rfl) | (rw [if_pos c6, if_pos c28]; done) | (rw [if_pos c6, if_neg c28, ← hset]; rfl)
      exact W.dret hx hb hr (fun t ht hW => ⟨⟨_, M_1, rfl, ⟨hfin, hrel⟩, by rw [← ht] at hP; exact hP⟩, hS.F ht⟩) hS.2.2 dX5_share_50
    ·
      replace c21 : 1 = 0 := k0_nef c21 (by omega)
      exfalso; omega
  ·
    replace c6 := bI_n0 c6
    refine lv_iconst (v := (nI 0)) hx hb dX5_share_9 (by decide) ?_
    refine lv_goto (tgt := 14) hx hb dX5_share_10 (by decide) ?_
    refine xput (D := D) (ci := 5) (v := .int (nI 0)) (ty := .int) (C := RX5) (T := TX5) (N := 15) (ws' := rc cs b (wr M 0 0 (nI 0))) hx hb hts hinX5 tyX5 tyX5_ok nmX5 hown hK1 hP (rD hI) hS 0 rfl rfl 0 (by decide) (hts (.fieldLink RX5 44 "KnowledgeModelModel" "thrown" "I") (List.mem_of_getElem? (i := 1) rfl)) (fun _ h9 => h9) rfl (by decide +kernel) rfl rfl (Nat.le_of_ble_eq_true rfl) rfl dX5_share_14 (fun H locs hP hS => ?_)
    obtain ⟨M_5, hM_5⟩ : ∃ z, z = wr M 0 0 (nI 0) := ⟨_, rfl⟩
    rw [← hM_5] at hP
    have hk_6 : M_5 0 1 = nI n := by rw [hM_5]; exact (wr_ne (Or.inr (by decide))).trans hn
    have hk_7 : M_5 0 3 = nI nf := by rw [hM_5]; exact (wr_ne (Or.inr (by decide))).trans hfc
    have hk_8 : M_5 0 0 = nI 0 := by rw [hM_5]; exact wr_same
    refine lv_aload_n hx hb dX5_share_17 rfl (lv_at hl 0 rfl) ?_
    refine va_get (D := D) (ci := 5) (v := .int (M_5 0 0)) (C := RX5) (T := TX5) (N := 15) hx hb hts hinX5 hown hK1 hP 0 rfl rfl 0 (by decide) (hts (.fieldLink RX5 44 "KnowledgeModelModel" "thrown" "I") (List.mem_of_getElem? (i := 1) rfl)) (fun _ h9 => h9) rfl dX5_share_18 ?_
    refine xtop (y := nI 0) (hk_8) ?_
    refine lv_if_ne (tgt := 31) hx hb dX5_share_21 (by decide) (fun c21 => ?_) (fun c21 => ?_)
    ·
      replace c21 : ¬ 0 = 0 := k0_net c21 (by omega)
      exfalso; omega
    ·
      replace c21 : 0 = 0 := k0_nef c21 (by omega)
      refine lv_aload_n hx hb dX5_share_24 rfl (lv_at hl 0 rfl) ?_
      refine va_get (D := D) (ci := 5) (v := .int (M_5 0 1)) (C := RX5) (T := TX5) (N := 15) hx hb hts hinX5 hown hK1 hP 0 rfl rfl 1 (by decide) (hts (.fieldLink RX5 48 "KnowledgeModelModel" "worlds" "I") (List.mem_of_getElem? (i := 2) rfl)) (fun _ h9 => h9) rfl dX5_share_25 ?_
      refine xtop (y := nI n) (hk_6) ?_
      refine lv_if_ne (tgt := 35) hx hb dX5_share_28 (by decide) (fun c28 => ?_) (fun c28 => ?_)
      ·
        replace c28 : ¬ n = 0 := k0_net c28 (by omega)
        obtain ⟨hlt_x, heq_x⟩ := isIn_eq (by omega) c6
        have hl : lv_has ls 2 [(0, .ref (b 0)), (1, .int (nI x.toNatClampNeg))] := (lcons (lcons (lzero hl) hl 1 rfl (congrArg Value.int heq_x)) hl 0 rfl rfl)
        refine lv_aload_n hx hb dX5_share_35 rfl (lv_at hl 0 rfl) ?_
        refine lv_iload_n hx hb dX5_share_36 rfl (lv_at hl 1 rfl) ?_
        refine xcallwi (va_runV (As := [.int (nI x.toNatClampNeg)]) (rest := []) ⟨hx, hb, hml, hown, hts⟩ (c_X5_trueAt l D cs b M_5 _ hI n nf kd p1 p2 ns sb ag M0 x.toNatClampNeg hk_6 (by omega) hk_7 hf40 (by simp only [fo_0, hM_5]; exact hrw) hwf hlt_x) (cwV 1 hts gX5_share_X5_trueAt rfl rfl rfl (by decide +kernel) ⟨Nat.le_of_ble_eq_true rfl, Nat.le_of_ble_eq_true rfl⟩) (xpreVs hP hK (ci := 5) 0 rfl rfl) rfl rfl hl.1 rfl (lv_room (Nat.le_of_ble_eq_true rfl)) dX5_share_37 ⟨Nat.le_of_ble_eq_true rfl, Nat.le_of_ble_eq_true rfl⟩) hS (kAle hS.1) (fun u_9 H locs hu_9 hP _ _ hS => ?_)
        have hP : va_P D vwCl (rc cs b u_9) H := hP
        have hk_10 : u_9 0 1 = nI n := by rw [hu_9 0 1 (by decide)]; exact hk_6
        have hk_12 : u_9 0 3 = nI nf := by rw [hu_9 0 3 (by decide)]; exact hk_7
        obtain ⟨set, hset⟩ : ∃ z, z = semR M0 n kd p1 p2 sb ag (sg n - nI 1) x.toNatClampNeg := ⟨_, rfl⟩
        refine xtop (y := set) hset.symm ?_
        refine xcalli (va_runS (As := [.int set]) (rest := []) ⟨hx, hb, hml, hown, hts⟩ (c_J6_bitCount_0f7a4 l set) (va_cwS 1 hts gX5_share_J6_bitCount_0f7a4 rfl rfl rfl (by decide +kernel) ⟨Nat.le_of_ble_eq_true rfl, Nat.le_of_ble_eq_true rfl⟩) xpreN rfl rfl hl.1 rfl (lv_room (Nat.le_of_ble_eq_true rfl)) dX5_share_40 ⟨Nat.le_of_ble_eq_true rfl, Nat.le_of_ble_eq_true rfl⟩) hS hP (fun H locs hP hS => ?_)
        refine xtop (y := (nI (fb_ct (bt set) 32))) (by exact bc_ct set) ?_
        have hct := fb_ct_le (bt set) 32
        refine lv_i2d hx hb dX5_share_43 ?_
        refine lv_aload_n hx hb dX5_share_44 rfl (lv_at hl 0 rfl) ?_
        refine va_get (D := D) (ci := 5) (v := .int (u_9 0 1)) (C := RX5) (T := TX5) (N := 15) hx hb hts hinX5 hown hK1 hP 0 rfl rfl 1 (by decide) (hts (.fieldLink RX5 48 "KnowledgeModelModel" "worlds" "I") (List.mem_of_getElem? (i := 2) rfl)) (fun _ h9 => h9) rfl dX5_share_45 ?_
        refine xtop (y := nI n) (hk_10) ?_
        refine lv_i2d hx hb dX5_share_48 ?_
        refine lv_ddiv hx hb dX5_share_49 (sh_nan (fb_ct (bt set) 32) (by omega) n (by omega) (by omega)) ?_
        subst hQ
        have hrel : TQ (wr M 0 0 (if isIn nf x = true then nI 0 else nI 1)) u_9 := by first | (intro i x hi; simp only [wr_wr, if_true, if_false, Bool.false_eq_true, Nat.one_ne_zero, c6, hM_5, c21, c28]; done) | (intro i x hi; rw [hu_9 i x hi]; simp only [wr_wr, if_true, if_false, Bool.false_eq_true, Nat.one_ne_zero, c6, hM_5, c21, c28])
        have hfin : (FP.ddiv (FP.i2d (nI (fb_ct (bt set) 32))) (FP.i2d (nI n))) = (if isIn nf x = true then (if n = 0 then FP.dconst0 else shv (fb_ct (bt (semR M0 n kd p1 p2 sb ag (sg n - nI 1) x.toNatClampNeg)) 32) n) else FP.dconst0) := by first | (rw [c6]; rfl) | (rw [if_pos c6, if_pos c28]; done) | (rw [if_pos c6, if_neg c28, ← hset]; rfl)
        exact W.dret hx hb hr (fun t ht hW => ⟨⟨_, u_9, rfl, ⟨hfin, hrel⟩, by rw [← ht] at hP; exact hP⟩, hS.F ht⟩) hS.2.2 dX5_share_50
      ·
        replace c28 : n = 0 := k0_nef c28 (by omega)
        refine lv_dconst0 hx hb dX5_share_31 ?_
        refine lv_goto (tgt := 50) hx hb dX5_share_32 (by decide) ?_
        subst hQ
        have hrel : TQ (wr M 0 0 (if isIn nf x = true then nI 0 else nI 1)) M_5 := by first | (intro i x hi; simp only [wr_wr, if_true, if_false, Bool.false_eq_true, Nat.one_ne_zero, c6, hM_5, c21, c28]; done) | (intro i x hi; rw [trivial i x hi]; simp only [wr_wr, if_true, if_false, Bool.false_eq_true, Nat.one_ne_zero, c6, hM_5, c21, c28])
        have hfin : FP.dconst0 = (if isIn nf x = true then (if n = 0 then FP.dconst0 else shv (fb_ct (bt (semR M0 n kd p1 p2 sb ag (sg n - nI 1) x.toNatClampNeg)) 32) n) else FP.dconst0) := by first | (rw [c6]; rfl) | (rw [if_pos c6, if_pos c28]; done) | (rw [if_pos c6, if_neg c28, ← hset]; rfl)
        exact W.dret hx hb hr (fun t ht hW => ⟨⟨_, M_5, rfl, ⟨hfin, hrel⟩, by rw [← ht] at hP; exact hP⟩, hS.F ht⟩) hS.2.2 dX5_share_50

