theorem TQ_w {M u : Nat → Nat → Int32} {x y : Int32} (h : TQ (wr M 0 0 x) u) : TQ (wr M 0 0 y) (wr u 0 0 y) := by
  intro i k hi
  rw [wr_eq, wr_eq]
  by_cases e : i = 0 ∧ k = 0
  · rw [if_pos e, if_pos e]
  · rw [if_neg e, if_neg e, h i k hi]
    exact wr_ne (by omega)
def annF (M : Nat → Nat → Int32) (n act : Nat) (set : Int32) (u : Nat → Nat → Int32) : Prop := if n = 0 ∨ bt set act = false then TQ (wr M 0 0 (nI 2)) u else ∃ v, TQ (wr M 0 0 (nI 0)) v ∧ KeepRF v n act set u

set_option maxHeartbeats 4000000 in
set_option maxRecDepth 100000 in
theorem c_X5_announce (l : Launch) (D : va_G) (cs : Nat → ClassId) (b : Nat → Nat) (M : Nat → Nat → Int32) (sz : Nat) (hI : kI b 12)  (n : Nat) (nf : Nat) (kd : Nat → Nat) (p1 : Nat → Nat) (p2 : Nat → Nat) (ns : Nat → Nat) (sb : Nat → Nat) (ag : Nat → Nat) (act : Nat) (M0 : Nat → Nat → Int32) (x : Int32) (hn : M 0 1 = nI n) (hn24 : n ≤ 24) (hfc : M 0 3 = nI nf) (hf40 : nf ≤ 40) (hrw : Rw M M0) (hwf : WFR M0 nf kd p1 p2 ns sb ag) (hact : M 0 2 = nI act) (ha24 : act < 24) (han : 0 < n → act < n) : Met l yX5_announce wsX5_announce ({ frames := 152, cells := 1, slots := 24, locals := 4450 } : Room) (va_Pc [.ref (b 0), .int x] (XBs D cs (rc cs b M) sz)) (va_Qi (fun r (u : Nat → Nat → Int32) => r = (if isIn nf x = true then (if n = 0 ∨ bt (semR M0 n kd p1 p2 sb ag (sg n - nI 1) x.toNatClampNeg) act = false then nI 0 else nI n - nI (rk (semR M0 n kd p1 p2 sb ag (sg n - nI 1) x.toNatClampNeg) n)) else nI 0) ∧ (if isIn nf x = true then annF M n act (semR M0 n kd p1 p2 sb ag (sg n - nI 1) x.toNatClampNeg) u else u = wr M 0 0 (nI 1))) (fun (u : Nat → Nat → Int32) t => va_P D vwCl (rc cs b u) t.heap) (kA b 12 sz)) 1 24 (kA b 12 sz) := by
  refine Met.ofW (cc := cX5_announce) (maxL := 3) (ret := (some .int)) (by decide) rfl ?_
  intro p e s m args below meth c s₁ B hml hv
  obtain ⟨rfl, hsz, hP, hK⟩ := hv
  have hx := B.exec
  have hb := B.bytes
  have hr := B.returns
  have hts := atoms_spec (ws := wsX5_announce) B.pre
  have hown : s.vm.findClass RX5 = some m.cls := findClass_of_methodNamed B.named
  have hlocks := B.notSynchronized
  have hK1 := hK.1
  have hinX5 : ∀ w ∈ wsX50, w ∈ wsX5_announce := fun w h => List.mem_cons_of_mem _ (List.mem_append_right _ h)
  subst hsz
  have hS : va_S (kA b 12 s.heap.size) s.heap s.heap [] := va_S.rf
  have hl := lv_entry ([.ref (b 0), .int x]) (n := 3) (Nat.le_of_ble_eq_true rfl)
  rw [lg_entry_eq]
  generalize (lg_sl ([.ref (b 0), .int x]) ++ List.replicate (3 - (lg_sl ([.ref (b 0), .int x])).length) Slot.unset).toArray = ls at hl ⊢
  have hl : lv_has ls 3 [(0, .ref (b 0)), (1, .int x)] := hl
  refine W_Q (fun Q hQ => ?_)
  show W p l e ({ frames := 152, cells := 1, slots := 24, locals := 4450 } : Room) s m ([.ref (b 0), .int x] : List Value).toArray below meth c s.heap [] 0 0 Q (F0 m 0 ls [])
  refine lv_aload_n hx hb dX5_announce_0 rfl (lv_at hl 0 rfl) ?_
  refine lv_iconst (v := (nI 0)) hx hb dX5_announce_1 (by decide) ?_
  refine xput (D := D) (ci := 5) (v := .int (nI 0)) (ty := .int) (C := RX5) (T := TX5) (N := 15) (ws' := rc cs b (wr M 0 0 (nI 0))) hx hb hts hinX5 tyX5 tyX5_ok nmX5 hown hK1 hP (rD hI) hS 0 rfl rfl 0 (by decide) (hts (.fieldLink RX5 44 "KnowledgeModelModel" "thrown" "I") (List.mem_of_getElem? (i := 1) rfl)) (fun _ h9 => h9) rfl (by decide +kernel) rfl rfl (Nat.le_of_ble_eq_true rfl) rfl dX5_announce_2 (fun H locs hP hS => ?_)
  obtain ⟨M_1, hM_1⟩ : ∃ z, z = wr M 0 0 (nI 0) := ⟨_, rfl⟩
  rw [← hM_1] at hP
  have hk_2 : M_1 0 1 = nI n := by rw [hM_1]; exact (wr_ne (Or.inr (by decide))).trans hn
  have hk_3 : M_1 0 2 = nI act := by rw [hM_1]; exact (wr_ne (Or.inr (by decide))).trans hact
  have hk_4 : M_1 0 3 = nI nf := by rw [hM_1]; exact (wr_ne (Or.inr (by decide))).trans hfc
  have hk_5 : M_1 0 0 = nI 0 := by rw [hM_1]; exact wr_same
  refine lv_aload_n hx hb dX5_announce_5 rfl (lv_at hl 0 rfl) ?_
  refine lv_iload_n hx hb dX5_announce_6 rfl (lv_at hl 1 rfl) ?_
  refine xcalli (va_runV (As := [.int x]) (rest := []) ⟨hx, hb, hml, hown, hts⟩ (c_X5_isFormula l D cs b M_1 nf x hk_4) (cwV 1 hts gX5_announce_X5_isFormula rfl rfl rfl (by decide +kernel) ⟨Nat.le_of_ble_eq_true rfl, Nat.le_of_ble_eq_true rfl⟩) (xpreV hP hK (ci := 5) 0 rfl rfl) rfl rfl hl.1 rfl (lv_room (Nat.le_of_ble_eq_true rfl)) dX5_announce_7 ⟨Nat.le_of_ble_eq_true rfl, Nat.le_of_ble_eq_true rfl⟩) hS hP (fun H locs hP hS => ?_)
  refine lv_if_ne (tgt := 19) hx hb dX5_announce_10 (by decide) (fun c10 => ?_) (fun c10 => ?_)
  ·
    replace c10 := bI_n0 c10
    obtain ⟨hlt_x, heq_x⟩ := isIn_eq (by omega) c10
    have hl : lv_has ls 3 [(0, .ref (b 0)), (1, .int (nI x.toNatClampNeg))] := (lcons (lcons (lzero hl) hl 1 rfl (congrArg Value.int heq_x)) hl 0 rfl rfl)
    refine lv_aload_n hx hb dX5_announce_19 rfl (lv_at hl 0 rfl) ?_
    refine lv_iload_n hx hb dX5_announce_20 rfl (lv_at hl 1 rfl) ?_
    refine xcallwi (va_runV (As := [.int (nI x.toNatClampNeg)]) (rest := []) ⟨hx, hb, hml, hown, hts⟩ (c_X5_trueAt l D cs b M_1 _ hI n nf kd p1 p2 ns sb ag M0 x.toNatClampNeg hk_2 (by omega) hk_4 hf40 (by simp only [fo_0, hM_1]; exact hrw) hwf hlt_x) (cwV 1 hts gX5_announce_X5_trueAt rfl rfl rfl (by decide +kernel) ⟨Nat.le_of_ble_eq_true rfl, Nat.le_of_ble_eq_true rfl⟩) (xpreVs hP hK (ci := 5) 0 rfl rfl) rfl rfl hl.1 rfl (lv_room (Nat.le_of_ble_eq_true rfl)) dX5_announce_21 ⟨Nat.le_of_ble_eq_true rfl, Nat.le_of_ble_eq_true rfl⟩) hS (kAle hS.1) (fun u_6 H locs hu_6 hP _ _ hS => ?_)
    have hP : va_P D vwCl (rc cs b u_6) H := hP
    have hk_7 : u_6 0 1 = nI n := by rw [hu_6 0 1 (by decide)]; exact hk_2
    have hk_8 : u_6 0 2 = nI act := by rw [hu_6 0 2 (by decide)]; exact hk_3
    have hk_9 : u_6 0 3 = nI nf := by rw [hu_6 0 3 (by decide)]; exact hk_4
    obtain ⟨set, hset⟩ : ∃ z, z = semR M0 n kd p1 p2 sb ag (sg n - nI 1) x.toNatClampNeg := ⟨_, rfl⟩
    refine xtop (y := set) hset.symm ?_
    have hTQ : TQ (wr M 0 0 (nI 0)) u_6 := by have h9 := hu_6; simp only [fo_0, hM_1] at h9; exact h9
    refine lv_istore_n (lv' := [(2, .int set), (0, .ref (b 0)), (1, .int (nI x.toNatClampNeg))]) hx hb dX5_announce_24 rfl hl (by decide) rfl (fun ls hl => ?_)
    refine lv_aload_n hx hb dX5_announce_25 rfl (lv_at hl 1 rfl) ?_
    refine va_get (D := D) (ci := 5) (v := .int (u_6 0 1)) (C := RX5) (T := TX5) (N := 15) hx hb hts hinX5 hown hK1 hP 0 rfl rfl 1 (by decide) (hts (.fieldLink RX5 48 "KnowledgeModelModel" "worlds" "I") (List.mem_of_getElem? (i := 2) rfl)) (fun _ h9 => h9) rfl dX5_announce_26 ?_
    refine xtop (y := nI n) (hk_7) ?_
    refine lv_if_eq (tgt := 43) hx hb dX5_announce_29 (by decide) (fun c29 => ?_) (fun c29 => ?_)
    ·
      replace c29 : n = 0 := k0_eqt c29 (by omega)
      refine lv_aload_n hx hb dX5_announce_43 rfl (lv_at hl 1 rfl) ?_
      refine lv_iconst (v := (nI 2)) hx hb dX5_announce_44 (by decide) ?_
      refine xcallwi (va_runV (As := [.int (nI 2)]) (rest := []) ⟨hx, hb, hml, hown, hts⟩ (c_X5_no l D cs b u_6 _ hI (nI 2)) (cwV 1 hts gX5_announce_X5_no rfl rfl rfl (by decide +kernel) ⟨Nat.le_of_ble_eq_true rfl, Nat.le_of_ble_eq_true rfl⟩) (xpreVs hP hK (ci := 5) 0 rfl rfl) rfl rfl hl.1 rfl (lv_room (Nat.le_of_ble_eq_true rfl)) dX5_announce_45 ⟨Nat.le_of_ble_eq_true rfl, Nat.le_of_ble_eq_true rfl⟩) hS (kAle hS.1) (fun u_10 H locs hu_10 hP _ _ hS => ?_)
      have hP : va_P D vwCl (rc cs b (wr u_6 0 0 (nI 2))) H := hP
      obtain ⟨M_11, hM_11⟩ : ∃ z, z = wr u_6 0 0 (nI 2) := ⟨_, rfl⟩
      rw [← hM_11] at hP
      have hk_12 : M_11 0 1 = nI n := by rw [hM_11]; exact (wr_ne (Or.inr (by decide))).trans hk_7
      have hk_13 : M_11 0 2 = nI act := by rw [hM_11]; exact (wr_ne (Or.inr (by decide))).trans hk_8
      have hk_14 : M_11 0 3 = nI nf := by rw [hM_11]; exact (wr_ne (Or.inr (by decide))).trans hk_9
      refine lv_goto (tgt := 56) hx hb dX5_announce_48 (by decide) ?_
      subst hQ
      refine W.widen (k := 1) (n := 24) (by decide) (by decide) ?_
      have hrel : (if isIn nf x = true then annF M n act (semR M0 n kd p1 p2 sb ag (sg n - nI 1) x.toNatClampNeg) M_11 else M_11 = wr M 0 0 (nI 1)) := by first | (rw [c10]; simp only [wr_wr, if_true, if_false, Bool.false_eq_true, Nat.one_ne_zero, hM_1, c10, c29, hM_11]; done) | (rw [if_pos c10, ← hset]; unfold annF; rw [if_pos (Or.inl c29)]; simp only [fo_0, hM_1, c10, c29, hM_11]; exact TQ_w hTQ) | (rw [if_pos c10, ← hset]; unfold annF; rw [if_pos (Or.inr c40)]; simp only [fo_0, hM_1, c10, c29, hM_11]; exact TQ_w hTQ) | (rw [if_pos c10, ← hset]; unfold annF; rw [if_neg (by rintro (q | q); exact c29 q; rw [c40] at q; cases q)]; exact ⟨_, hTQ, hu_10⟩)
      have hfin : (nI 0) = (if isIn nf x = true then (if n = 0 ∨ bt (semR M0 n kd p1 p2 sb ag (sg n - nI 1) x.toNatClampNeg) act = false then nI 0 else nI n - nI (rk (semR M0 n kd p1 p2 sb ag (sg n - nI 1) x.toNatClampNeg) n)) else nI 0) := by first | (rw [c10]; simp only [wr_wr, if_true, if_false, Bool.false_eq_true, Nat.one_ne_zero, hM_1, c10, c29, hM_11]; done) | (rw [if_pos c10, ← hset, if_pos (Or.inl c29)]; done) | (rw [if_pos c10, ← hset, if_pos (Or.inr c40)]; done) | (rw [if_pos c10, ← hset, if_neg (by rintro (q | q); exact c29 q; rw [c40] at q; cases q)]; done)
      exact W.iret hx hb hr (fun t ht hW => ⟨⟨_, M_11, rfl, ⟨hfin, hrel⟩, by rw [← ht] at hP; exact hP⟩, hS.F ht⟩) hS.2.2 dX5_announce_56
    ·
      replace c29 : ¬ n = 0 := k0_eqf c29 (by omega)
      refine lv_iload_n hx hb dX5_announce_32 rfl (lv_at hl 0 rfl) ?_
      refine lv_aload_n hx hb dX5_announce_33 rfl (lv_at hl 1 rfl) ?_
      refine va_get (D := D) (ci := 5) (v := .int (u_6 0 2)) (C := RX5) (T := TX5) (N := 15) hx hb hts hinX5 hown hK1 hP 0 rfl rfl 2 (by decide) (hts (.fieldLink RX5 62 "KnowledgeModelModel" "actual" "I") (List.mem_of_getElem? (i := 3) rfl)) (fun _ h9 => h9) rfl dX5_announce_34 ?_
      refine xtop (y := nI act) (hk_8) ?_
      refine xcalli (va_runS (As := [.int set, .int (nI act)]) (rest := []) ⟨hx, hb, hml, hown, hts⟩ (c_X5_has l set act (by omega)) (va_cwS 2 hts gX5_announce_X5_has rfl rfl rfl (by decide +kernel) ⟨Nat.le_of_ble_eq_true rfl, Nat.le_of_ble_eq_true rfl⟩) xpreN rfl rfl hl.1 rfl (lv_room (Nat.le_of_ble_eq_true rfl)) dX5_announce_37 ⟨Nat.le_of_ble_eq_true rfl, Nat.le_of_ble_eq_true rfl⟩) hS hP (fun H locs hP hS => ?_)
      refine lv_if_ne (tgt := 51) hx hb dX5_announce_40 (by decide) (fun c40 => ?_) (fun c40 => ?_)
      ·
        replace c40 := bI_n0 c40
        refine lv_aload_n hx hb dX5_announce_51 rfl (lv_at hl 1 rfl) ?_
        refine lv_iload_n hx hb dX5_announce_52 rfl (lv_at hl 0 rfl) ?_
        refine xcallwi (va_runV (As := [.int set]) (rest := []) ⟨hx, hb, hml, hown, hts⟩ (c_X5_keep l D cs b u_6 _ hI n act set hk_7 (by omega) hk_8 han) (cwV 1 hts gX5_announce_X5_keep rfl rfl rfl (by decide +kernel) ⟨Nat.le_of_ble_eq_true rfl, Nat.le_of_ble_eq_true rfl⟩) (xpreVs hP hK (ci := 5) 0 rfl rfl) rfl rfl hl.1 rfl (lv_room (Nat.le_of_ble_eq_true rfl)) dX5_announce_53 ⟨Nat.le_of_ble_eq_true rfl, Nat.le_of_ble_eq_true rfl⟩) hS (kAle hS.1) (fun u_15 H locs hu_15 hP _ _ hS => ?_)
        refine W.widen (k := 1) (n := 24) (by decide) (by decide) ?_
        have hP : va_P D vwCl (rc cs b u_15) H := hP
        subst hQ
        have hrel : (if isIn nf x = true then annF M n act (semR M0 n kd p1 p2 sb ag (sg n - nI 1) x.toNatClampNeg) u_15 else u_15 = wr M 0 0 (nI 1)) := by first | (rw [c10]; simp only [wr_wr, if_true, if_false, Bool.false_eq_true, Nat.one_ne_zero, hM_1, c10, c29, c40]; done) | (rw [if_pos c10, ← hset]; unfold annF; rw [if_pos (Or.inl c29)]; simp only [fo_0, hM_1, c10, c29, c40]; exact TQ_w hTQ) | (rw [if_pos c10, ← hset]; unfold annF; rw [if_pos (Or.inr c40)]; simp only [fo_0, hM_1, c10, c29, c40]; exact TQ_w hTQ) | (rw [if_pos c10, ← hset]; unfold annF; rw [if_neg (by rintro (q | q); exact c29 q; rw [c40] at q; cases q)]; exact ⟨_, hTQ, hu_15⟩)
        have hfin : (nI n - nI (rk set n)) = (if isIn nf x = true then (if n = 0 ∨ bt (semR M0 n kd p1 p2 sb ag (sg n - nI 1) x.toNatClampNeg) act = false then nI 0 else nI n - nI (rk (semR M0 n kd p1 p2 sb ag (sg n - nI 1) x.toNatClampNeg) n)) else nI 0) := by first | (rw [c10]; simp only [wr_wr, if_true, if_false, Bool.false_eq_true, Nat.one_ne_zero, hM_1, c10, c29, c40]; done) | (rw [if_pos c10, ← hset, if_pos (Or.inl c29)]; done) | (rw [if_pos c10, ← hset, if_pos (Or.inr c40)]; done) | (rw [if_pos c10, ← hset, if_neg (by rintro (q | q); exact c29 q; rw [c40] at q; cases q)]; done)
        exact W.iret hx hb hr (fun t ht hW => ⟨⟨_, u_15, rfl, ⟨hfin, hrel⟩, by rw [← ht] at hP; exact hP⟩, hS.F ht⟩) hS.2.2 dX5_announce_56
      ·
        replace c40 := bI_0 c40
        refine lv_aload_n hx hb dX5_announce_43 rfl (lv_at hl 1 rfl) ?_
        refine lv_iconst (v := (nI 2)) hx hb dX5_announce_44 (by decide) ?_
        refine xcallwi (va_runV (As := [.int (nI 2)]) (rest := []) ⟨hx, hb, hml, hown, hts⟩ (c_X5_no l D cs b u_6 _ hI (nI 2)) (cwV 1 hts gX5_announce_X5_no rfl rfl rfl (by decide +kernel) ⟨Nat.le_of_ble_eq_true rfl, Nat.le_of_ble_eq_true rfl⟩) (xpreVs hP hK (ci := 5) 0 rfl rfl) rfl rfl hl.1 rfl (lv_room (Nat.le_of_ble_eq_true rfl)) dX5_announce_45 ⟨Nat.le_of_ble_eq_true rfl, Nat.le_of_ble_eq_true rfl⟩) hS (kAle hS.1) (fun u_16 H locs hu_16 hP _ _ hS => ?_)
        have hP : va_P D vwCl (rc cs b (wr u_6 0 0 (nI 2))) H := hP
        obtain ⟨M_17, hM_17⟩ : ∃ z, z = wr u_6 0 0 (nI 2) := ⟨_, rfl⟩
        rw [← hM_17] at hP
        have hk_18 : M_17 0 1 = nI n := by rw [hM_17]; exact (wr_ne (Or.inr (by decide))).trans hk_7
        have hk_19 : M_17 0 2 = nI act := by rw [hM_17]; exact (wr_ne (Or.inr (by decide))).trans hk_8
        have hk_20 : M_17 0 3 = nI nf := by rw [hM_17]; exact (wr_ne (Or.inr (by decide))).trans hk_9
        refine lv_goto (tgt := 56) hx hb dX5_announce_48 (by decide) ?_
        subst hQ
        refine W.widen (k := 1) (n := 24) (by decide) (by decide) ?_
        have hrel : (if isIn nf x = true then annF M n act (semR M0 n kd p1 p2 sb ag (sg n - nI 1) x.toNatClampNeg) M_17 else M_17 = wr M 0 0 (nI 1)) := by first | (rw [c10]; simp only [wr_wr, if_true, if_false, Bool.false_eq_true, Nat.one_ne_zero, hM_1, c10, c29, c40, hM_17]; done) | (rw [if_pos c10, ← hset]; unfold annF; rw [if_pos (Or.inl c29)]; simp only [fo_0, hM_1, c10, c29, c40, hM_17]; exact TQ_w hTQ) | (rw [if_pos c10, ← hset]; unfold annF; rw [if_pos (Or.inr c40)]; simp only [fo_0, hM_1, c10, c29, c40, hM_17]; exact TQ_w hTQ) | (rw [if_pos c10, ← hset]; unfold annF; rw [if_neg (by rintro (q | q); exact c29 q; rw [c40] at q; cases q)]; exact ⟨_, hTQ, hu_16⟩)
        have hfin : (nI 0) = (if isIn nf x = true then (if n = 0 ∨ bt (semR M0 n kd p1 p2 sb ag (sg n - nI 1) x.toNatClampNeg) act = false then nI 0 else nI n - nI (rk (semR M0 n kd p1 p2 sb ag (sg n - nI 1) x.toNatClampNeg) n)) else nI 0) := by first | (rw [c10]; simp only [wr_wr, if_true, if_false, Bool.false_eq_true, Nat.one_ne_zero, hM_1, c10, c29, c40, hM_17]; done) | (rw [if_pos c10, ← hset, if_pos (Or.inl c29)]; done) | (rw [if_pos c10, ← hset, if_pos (Or.inr c40)]; done) | (rw [if_pos c10, ← hset, if_neg (by rintro (q | q); exact c29 q; rw [c40] at q; cases q)]; done)
        exact W.iret hx hb hr (fun t ht hW => ⟨⟨_, M_17, rfl, ⟨hfin, hrel⟩, by rw [← ht] at hP; exact hP⟩, hS.F ht⟩) hS.2.2 dX5_announce_56
  ·
    replace c10 := bI_0 c10
    refine lv_aload_n hx hb dX5_announce_13 rfl (lv_at hl 0 rfl) ?_
    refine lv_iconst (v := (nI 1)) hx hb dX5_announce_14 (by decide) ?_
    refine xcallwi (va_runV (As := [.int (nI 1)]) (rest := []) ⟨hx, hb, hml, hown, hts⟩ (c_X5_no l D cs b M_1 _ hI (nI 1)) (cwV 1 hts gX5_announce_X5_no rfl rfl rfl (by decide +kernel) ⟨Nat.le_of_ble_eq_true rfl, Nat.le_of_ble_eq_true rfl⟩) (xpreVs hP hK (ci := 5) 0 rfl rfl) rfl rfl hl.1 rfl (lv_room (Nat.le_of_ble_eq_true rfl)) dX5_announce_15 ⟨Nat.le_of_ble_eq_true rfl, Nat.le_of_ble_eq_true rfl⟩) hS (kAle hS.1) (fun u_21 H locs hu_21 hP _ _ hS => ?_)
    have hP : va_P D vwCl (rc cs b (wr M_1 0 0 (nI 1))) H := hP
    obtain ⟨M_22, hM_22⟩ : ∃ z, z = wr M_1 0 0 (nI 1) := ⟨_, rfl⟩
    rw [← hM_22] at hP
    have hk_23 : M_22 0 1 = nI n := by rw [hM_22]; exact (wr_ne (Or.inr (by decide))).trans hk_2
    have hk_24 : M_22 0 2 = nI act := by rw [hM_22]; exact (wr_ne (Or.inr (by decide))).trans hk_3
    have hk_25 : M_22 0 3 = nI nf := by rw [hM_22]; exact (wr_ne (Or.inr (by decide))).trans hk_4
    subst hQ
    refine W.widen (k := 1) (n := 24) (by decide) (by decide) ?_
    have hrel : (if isIn nf x = true then annF M n act (semR M0 n kd p1 p2 sb ag (sg n - nI 1) x.toNatClampNeg) M_22 else M_22 = wr M 0 0 (nI 1)) := by first | (rw [c10]; simp only [wr_wr, if_true, if_false, Bool.false_eq_true, Nat.one_ne_zero, hM_1, c10, hM_22]; done) | (rw [if_pos c10, ← hset]; unfold annF; rw [if_pos (Or.inl c29)]; simp only [fo_0, hM_1, c10, hM_22]; exact TQ_w hTQ) | (rw [if_pos c10, ← hset]; unfold annF; rw [if_pos (Or.inr c40)]; simp only [fo_0, hM_1, c10, hM_22]; exact TQ_w hTQ) | (rw [if_pos c10, ← hset]; unfold annF; rw [if_neg (by rintro (q | q); exact c29 q; rw [c40] at q; cases q)]; exact ⟨_, hTQ, hu_21⟩)
    have hfin : (nI 0) = (if isIn nf x = true then (if n = 0 ∨ bt (semR M0 n kd p1 p2 sb ag (sg n - nI 1) x.toNatClampNeg) act = false then nI 0 else nI n - nI (rk (semR M0 n kd p1 p2 sb ag (sg n - nI 1) x.toNatClampNeg) n)) else nI 0) := by first | (rw [c10]; simp only [wr_wr, if_true, if_false, Bool.false_eq_true, Nat.one_ne_zero, hM_1, c10, hM_22]; done) | (rw [if_pos c10, ← hset, if_pos (Or.inl c29)]; done) | (rw [if_pos c10, ← hset, if_pos (Or.inr c40)]; done) | (rw [if_pos c10, ← hset, if_neg (by rintro (q | q); exact c29 q; rw [c40] at q; cases q)]; done)
    exact W.iret hx hb hr (fun t ht hW => ⟨⟨_, M_22, rfl, ⟨hfin, hrel⟩, by rw [← ht] at hP; exact hP⟩, hS.F ht⟩) hS.2.2 dX5_announce_18

set_option maxHeartbeats 4000000 in
set_option maxRecDepth 100000 in
theorem c_X5_prune (l : Launch) (D : va_G) (cs : Nat → ClassId) (b : Nat → Nat) (M : Nat → Nat → Int32) (sz : Nat) (hI : kI b 12)  (n : Nat) (act : Nat)  (hn : M 0 1 = nI n) (hn24 : n ≤ 24) (hact : M 0 2 = nI act) (han : 0 < n → act < n) : Met l yX5_prune wsX5_prune ({ frames := 4, cells := 1, slots := 24, locals := 90 } : Room) (va_Pc [.ref (b 0)] (XBs D cs (rc cs b M) sz)) (va_Qi (fun r (u : Nat → Nat → Int32) => r = (if n = 0 then nI 0 else nI n - nI (rk (sg act ||| reachR M n (nI 15) act (sg n - nI 1)) n)) ∧ (if n = 0 then u = wr M 0 0 (nI 0) else KeepRF (wr M 0 0 (nI 0)) n act (sg act ||| reachR M n (nI 15) act (sg n - nI 1)) u)) (fun (u : Nat → Nat → Int32) t => va_P D vwCl (rc cs b u) t.heap) (kA b 12 sz)) 1 24 (kA b 12 sz) := by
  refine Met.ofW (cc := cX5_prune) (maxL := 1) (ret := (some .int)) (by decide) rfl ?_
  intro p e s m args below meth c s₁ B hml hv
  obtain ⟨rfl, hsz, hP, hK⟩ := hv
  have hx := B.exec
  have hb := B.bytes
  have hr := B.returns
  have hts := atoms_spec (ws := wsX5_prune) B.pre
  have hown : s.vm.findClass RX5 = some m.cls := findClass_of_methodNamed B.named
  have hlocks := B.notSynchronized
  have hK1 := hK.1
  have hinX5 : ∀ w ∈ wsX50, w ∈ wsX5_prune := fun w h => List.mem_cons_of_mem _ (List.mem_append_right _ h)
  subst hsz
  have hS : va_S (kA b 12 s.heap.size) s.heap s.heap [] := va_S.rf
  have hl := lv_entry ([.ref (b 0)]) (n := 1) (Nat.le_of_ble_eq_true rfl)
  rw [lg_entry_eq]
  generalize (lg_sl ([.ref (b 0)]) ++ List.replicate (1 - (lg_sl ([.ref (b 0)])).length) Slot.unset).toArray = ls at hl ⊢
  have hl : lv_has ls 1 [(0, .ref (b 0))] := hl
  refine W_Q (fun Q hQ => ?_)
  show W p l e ({ frames := 4, cells := 1, slots := 24, locals := 90 } : Room) s m ([.ref (b 0)] : List Value).toArray below meth c s.heap [] 0 0 Q (F0 m 0 ls [])
  refine lv_aload_n hx hb dX5_prune_0 rfl (lv_at hl 0 rfl) ?_
  refine lv_iconst (v := (nI 0)) hx hb dX5_prune_1 (by decide) ?_
  refine xput (D := D) (ci := 5) (v := .int (nI 0)) (ty := .int) (C := RX5) (T := TX5) (N := 15) (ws' := rc cs b (wr M 0 0 (nI 0))) hx hb hts hinX5 tyX5 tyX5_ok nmX5 hown hK1 hP (rD hI) hS 0 rfl rfl 0 (by decide) (hts (.fieldLink RX5 44 "KnowledgeModelModel" "thrown" "I") (List.mem_of_getElem? (i := 1) rfl)) (fun _ h9 => h9) rfl (by decide +kernel) rfl rfl (Nat.le_of_ble_eq_true rfl) rfl dX5_prune_2 (fun H locs hP hS => ?_)
  obtain ⟨M_1, hM_1⟩ : ∃ z, z = wr M 0 0 (nI 0) := ⟨_, rfl⟩
  rw [← hM_1] at hP
  have hk_2 : M_1 0 1 = nI n := by rw [hM_1]; exact (wr_ne (Or.inr (by decide))).trans hn
  have hk_3 : M_1 0 2 = nI act := by rw [hM_1]; exact (wr_ne (Or.inr (by decide))).trans hact
  have hk_4 : M_1 0 0 = nI 0 := by rw [hM_1]; exact wr_same
  refine lv_aload_n hx hb dX5_prune_5 rfl (lv_at hl 0 rfl) ?_
  refine va_get (D := D) (ci := 5) (v := .int (M_1 0 1)) (C := RX5) (T := TX5) (N := 15) hx hb hts hinX5 hown hK1 hP 0 rfl rfl 1 (by decide) (hts (.fieldLink RX5 48 "KnowledgeModelModel" "worlds" "I") (List.mem_of_getElem? (i := 2) rfl)) (fun _ h9 => h9) rfl dX5_prune_6 ?_
  refine xtop (y := nI n) (hk_2) ?_
  refine lv_if_ne (tgt := 16) hx hb dX5_prune_9 (by decide) (fun c9 => ?_) (fun c9 => ?_)
  ·
    replace c9 : ¬ n = 0 := k0_net c9 (by omega)
    refine lv_aload_n hx hb dX5_prune_16 rfl (lv_at hl 0 rfl) ?_
    refine lv_iconst (v := (nI 1)) hx hb dX5_prune_17 (by decide) ?_
    refine lv_aload_n hx hb dX5_prune_18 rfl (lv_at hl 0 rfl) ?_
    refine va_get (D := D) (ci := 5) (v := .int (M_1 0 2)) (C := RX5) (T := TX5) (N := 15) hx hb hts hinX5 hown hK1 hP 0 rfl rfl 2 (by decide) (hts (.fieldLink RX5 62 "KnowledgeModelModel" "actual" "I") (List.mem_of_getElem? (i := 3) rfl)) (fun _ h9 => h9) rfl dX5_prune_19 ?_
    refine xtop (y := nI act) (hk_3) ?_
    refine lv_ishl hx hb dX5_prune_22 ?_
    refine lv_aload_n hx hb dX5_prune_23 rfl (lv_at hl 0 rfl) ?_
    refine lv_bipush (v := (nI 15)) hx hb dX5_prune_24 (by decide) ?_
    refine lv_aload_n hx hb dX5_prune_26 rfl (lv_at hl 0 rfl) ?_
    refine va_get (D := D) (ci := 5) (v := .int (M_1 0 2)) (C := RX5) (T := TX5) (N := 15) hx hb hts hinX5 hown hK1 hP 0 rfl rfl 2 (by decide) (hts (.fieldLink RX5 62 "KnowledgeModelModel" "actual" "I") (List.mem_of_getElem? (i := 3) rfl)) (fun _ h9 => h9) rfl dX5_prune_27 ?_
    refine xtop (y := nI act) (hk_3) ?_
    refine lv_aload_n hx hb dX5_prune_30 rfl (lv_at hl 0 rfl) ?_
    refine xcalli (va_runV (As := []) (rest := [.int (nI act), .int (nI 15), .ref (b 0), .int ((nI 1) <<< ((nI act) &&& 31)), .ref (b 0)]) ⟨hx, hb, hml, hown, hts⟩ (c_X5_all l D cs b M_1 n hk_2) (cwV 0 hts gX5_prune_X5_all rfl rfl rfl (by decide +kernel) ⟨Nat.le_of_ble_eq_true rfl, Nat.le_of_ble_eq_true rfl⟩) (xpreV hP hK (ci := 5) 0 rfl rfl) rfl rfl hl.1 rfl (lv_room (Nat.le_of_ble_eq_true rfl)) dX5_prune_31 ⟨Nat.le_of_ble_eq_true rfl, Nat.le_of_ble_eq_true rfl⟩) hS hP (fun H locs hP hS => ?_)
    refine xcalli (va_runV (As := [.int (nI 15), .int (nI act), .int (sg n - nI 1)]) (rest := [.int ((nI 1) <<< ((nI act) &&& 31)), .ref (b 0)]) ⟨hx, hb, hml, hown, hts⟩ (c_X5_reach l D cs b M_1 n (nI 15) act (sg n - nI 1) hk_2 (by omega)) (cwV 3 hts gX5_prune_X5_reach rfl rfl rfl (by decide +kernel) ⟨Nat.le_of_ble_eq_true rfl, Nat.le_of_ble_eq_true rfl⟩) (xpreV hP hK (ci := 5) 0 rfl rfl) rfl rfl hl.1 rfl (lv_room (Nat.le_of_ble_eq_true rfl)) dX5_prune_34 ⟨Nat.le_of_ble_eq_true rfl, Nat.le_of_ble_eq_true rfl⟩) hS hP (fun H locs hP hS => ?_)
    refine xtop (y := (reachR M n (nI 15) act (sg n - nI 1))) (by exact reachR_g (by simp only [fo_0, hM_1]; rfl)) ?_
    refine lv_ior hx hb dX5_prune_37 ?_
    refine xcallwi (va_runV (As := [.int (((nI 1) <<< ((nI act) &&& 31)) ||| (reachR M n (nI 15) act (sg n - nI 1)))]) (rest := []) ⟨hx, hb, hml, hown, hts⟩ (c_X5_keep l D cs b M_1 _ hI n act (((nI 1) <<< ((nI act) &&& 31)) ||| (reachR M n (nI 15) act (sg n - nI 1))) hk_2 (by omega) hk_3 han) (cwV 1 hts gX5_prune_X5_keep rfl rfl rfl (by decide +kernel) ⟨Nat.le_of_ble_eq_true rfl, Nat.le_of_ble_eq_true rfl⟩) (xpreVs hP hK (ci := 5) 0 rfl rfl) rfl rfl hl.1 rfl (lv_room (Nat.le_of_ble_eq_true rfl)) dX5_prune_38 ⟨Nat.le_of_ble_eq_true rfl, Nat.le_of_ble_eq_true rfl⟩) hS (kAle hS.1) (fun u_5 H locs hu_5 hP _ _ hS => ?_)
    refine W.widen (k := 1) (n := 24) (by decide) (by decide) ?_
    have hP : va_P D vwCl (rc cs b u_5) H := hP
    subst hQ
    have hrel : (if n = 0 then u_5 = wr M 0 0 (nI 0) else KeepRF (wr M 0 0 (nI 0)) n act (sg act ||| reachR M n (nI 15) act (sg n - nI 1)) u_5) := by first | (rw [if_pos c9]; simp only [fo_0, hM_1, c9]; done) | (rw [if_neg c9]; have h9 := hu_5; simp only [fo_0, hM_1, c9] at h9; exact h9)
    have hfin : (nI n - nI (rk (((nI 1) <<< ((nI act) &&& 31)) ||| (reachR M n (nI 15) act (sg n - nI 1))) n)) = (if n = 0 then nI 0 else nI n - nI (rk (sg act ||| reachR M n (nI 15) act (sg n - nI 1)) n)) := by first | (rw [if_pos c9]; done) | (rw [if_neg c9]; rfl)
    exact W.iret hx hb hr (fun t ht hW => ⟨⟨_, u_5, rfl, ⟨hfin, hrel⟩, by rw [← ht] at hP; exact hP⟩, hS.F ht⟩) hS.2.2 dX5_prune_41
  ·
    replace c9 : n = 0 := k0_nef c9 (by omega)
    refine lv_iconst (v := (nI 0)) hx hb dX5_prune_12 (by decide) ?_
    refine lv_goto (tgt := 41) hx hb dX5_prune_13 (by decide) ?_
    subst hQ
    refine W.widen (k := 1) (n := 24) (by decide) (by decide) ?_
    have hrel : (if n = 0 then M_1 = wr M 0 0 (nI 0) else KeepRF (wr M 0 0 (nI 0)) n act (sg act ||| reachR M n (nI 15) act (sg n - nI 1)) M_1) := by first | (rw [if_pos c9]; simp only [fo_0, hM_1, c9]; done) | (rw [if_neg c9]; have h9 := trivial; simp only [fo_0, hM_1, c9] at h9; exact h9)
    have hfin : (nI 0) = (if n = 0 then nI 0 else nI n - nI (rk (sg act ||| reachR M n (nI 15) act (sg n - nI 1)) n)) := by first | (rw [if_pos c9]; done) | (rw [if_neg c9]; rfl)
    exact W.iret hx hb hr (fun t ht hW => ⟨⟨_, M_1, rfl, ⟨hfin, hrel⟩, by rw [← ht] at hP; exact hP⟩, hS.F ht⟩) hS.2.2 dX5_prune_41

def cpvR (M : Nat → Nat → Int32) (g set : Int32) (n i w : Nat) : Int32 := if bt g i = true then fo (fun v r => if bt (set &&& M 2 (24 * i + w)) v then r ||| sg (n + rk set v) else r) (nI 0) n else M 2 (24 * i + w)
def CRr (M : Nat → Nat → Int32) (g set : Int32) (n j : Nat) (u : Nat → Nat → Int32) : Prop :=
  (∀ w, w < j → bt set w = true → u 1 (n + rk set w) = M 1 w ∧ ∀ i, i < 4 → u 2 (24 * i + (n + rk set w)) = cpvR M g set n i w) ∧ (∀ i x, i ≠ 1 → i ≠ 2 → u i x = M i x) ∧ (∀ x, (x < n ∨ n + rk set j ≤ x) → u 1 x = M 1 x) ∧ ∀ i x, i < 4 → x < 24 → (x < n ∨ n + rk set j ≤ x) → u 2 (24 * i + x) = M 2 (24 * i + x)
def CRq (M : Nat → Nat → Int32) (g set : Int32) (n j q : Nat) (u : Nat → Nat → Int32) : Prop :=
  (∀ w, w < j → bt set w = true → u 1 (n + rk set w) = M 1 w ∧ ∀ i, i < 4 → u 2 (24 * i + (n + rk set w)) = cpvR M g set n i w) ∧ (∀ i x, i ≠ 1 → i ≠ 2 → u i x = M i x) ∧ u 1 (n + rk set j) = M 1 j ∧ (∀ x, (x < n ∨ n + rk set j < x) → u 1 x = M 1 x) ∧ (∀ i, i < q → u 2 (24 * i + (n + rk set j)) = cpvR M g set n i j) ∧ ∀ i x, i < 4 → x < 24 → (x < n ∨ n + rk set j < x ∨ x = n + rk set j ∧ q ≤ i) → u 2 (24 * i + x) = M 2 (24 * i + x)
theorem CRr_0 {M : Nat → Nat → Int32} {g set : Int32} {n : Nat} : CRr M g set n 0 M := ⟨fun w h => absurd h (by omega), fun _ _ _ _ => rfl, fun _ _ => rfl, fun _ _ _ _ _ => rfl⟩
theorem CRr_skip {M u : Nat → Nat → Int32} {g set : Int32} {n j : Nat} (h : CRr M g set n j u) (hb : bt set j = false) : CRr M g set n (j + 1) u := by
  refine ⟨fun w hw hbw => ?_, h.2.1, fun x hx => h.2.2.1 x (by rw [rk_n hb] at hx; exact hx), fun i x hi h24 hx => h.2.2.2 i x hi h24 (by rw [rk_n hb] at hx; exact hx)⟩
  rcases Nat.lt_or_ge w j with q | q
  · exact h.1 w q hbw
  · have : w = j := by omega
    subst this
    rw [hb] at hbw; cases hbw
theorem CRq_0 {M u : Nat → Nat → Int32} {g set : Int32} {n j : Nat} (h : CRr M g set n j u) : CRq M g set n j 0 (wr u 1 (n + rk set j) (M 1 j)) := by
  refine ⟨fun w hw hbw => ?_, fun i x h1 h2 => (wr_ne (Or.inl h1)).trans (h.2.1 i x h1 h2), wr_same, fun x hx => (wr_ne (Or.inr (by omega))).trans (h.2.2.1 x (by omega)), fun i hi => absurd hi (by omega), fun i x hi h24 hx => (wr_ne (Or.inl (by decide))).trans (h.2.2.2 i x hi h24 (by omega))⟩
  have h1 := rk_lt hw hbw
  obtain ⟨a1, a2⟩ := h.1 w hw hbw
  exact ⟨(wr_ne (Or.inr (by omega))).trans a1, fun i hi => (wr_ne (Or.inl (by decide))).trans (a2 i hi)⟩
theorem CRq_s {M u : Nat → Nat → Int32} {g set : Int32} {n j q : Nat} (h : CRq M g set n j q u) (hq : q < 4) (hr : n + rk set j < 24) : CRq M g set n j (q + 1) (wr u 2 (24 * q + (n + rk set j)) (cpvR M g set n q j)) := by
  obtain ⟨h1, h2, h3, h4, h5, h6⟩ := h
  refine ⟨fun w hw hbw => ?_, fun i x e1 e2 => (wr_ne (Or.inl e2)).trans (h2 i x e1 e2), (wr_ne (Or.inl (by decide))).trans h3, fun x hx => (wr_ne (Or.inl (by decide))).trans (h4 x hx), fun i hi => ?_, fun i x hi h24 hx => ?_⟩
  · have g1 := rk_lt hw hbw
    obtain ⟨a1, a2⟩ := h1 w hw hbw
    exact ⟨(wr_ne (Or.inl (by decide))).trans a1, fun i hi => (wr_ne (Or.inr (by omega))).trans (a2 i hi)⟩
  · by_cases e : i = q
    · subst e; exact wr_same
    · exact (wr_ne (Or.inr (by omega))).trans (h5 i (by omega))
  · rw [wr_ne (Or.inr (by omega))]
    exact h6 i x hi h24 (by omega)
theorem CRq_end {M u : Nat → Nat → Int32} {g set : Int32} {n j : Nat} (h : CRq M g set n j 4 u) (hb : bt set j = true) : CRr M g set n (j + 1) u := by
  obtain ⟨h1, h2, h3, h4, h5, h6⟩ := h
  refine ⟨fun w hw hbw => ?_, h2, fun x hx => h4 x (by rw [rk_s hb] at hx; omega), fun i x hi h24 hx => h6 i x hi h24 (by rw [rk_s hb] at hx; omega)⟩
  rcases Nat.lt_or_ge w j with q | q
  · exact h1 w q hbw
  · have : w = j := by omega
    subst this
    exact ⟨h3, h5⟩
def whiB (n act : Nat) (set : Int32) : Prop := n = 0 ∨ bt set act = false ∨ 24 < n + fb_ct (bt set) 32
def whiF (M : Nat → Nat → Int32) (n act : Nat) (g set : Int32) (u : Nat → Nat → Int32) : Prop := (whiB n act set → TQ (wr M 0 0 (nI 3)) u) ∧ (¬ whiB n act set → ∃ v0 v, TQ (wr M 0 0 (nI 0)) v0 ∧ CRr v0 g set n n v ∧ u = wr (wr v 0 2 (nI (n + rk set act))) 0 1 (nI (n + rk set n)))
theorem rk_32 (set : Int32) {n : Nat} (hn : n ≤ 32) : rk set n ≤ fb_ct (bt set) 32 := fb_ct_mono _ hn

set_option maxHeartbeats 4000000 in
set_option maxRecDepth 100000 in
theorem c_X5_whisper (l : Launch) (D : va_G) (cs : Nat → ClassId) (b : Nat → Nat) (M : Nat → Nat → Int32) (sz : Nat) (hI : kI b 12)  (n : Nat) (nf : Nat) (kd : Nat → Nat) (p1 : Nat → Nat) (p2 : Nat → Nat) (ns : Nat → Nat) (sb : Nat → Nat) (ag : Nat → Nat) (act : Nat) (M0 : Nat → Nat → Int32) (g : Int32) (y : Int32) (hn : M 0 1 = nI n) (hn24 : n ≤ 24) (hfc : M 0 3 = nI nf) (hf40 : nf ≤ 40) (hrw : Rw M M0) (hwf : WFR M0 nf kd p1 p2 ns sb ag) (hact : M 0 2 = nI act) (ha24 : act < 24) (han : 0 < n → act < n) : Met l yX5_whisper wsX5_whisper ({ frames := 152, cells := 1, slots := 24, locals := 4450 } : Room) (va_Pc [.ref (b 0), .int g, .int y] (XBs D cs (rc cs b M) sz)) (va_Qi (fun r (u : Nat → Nat → Int32) => r = (if isIn nf y = true then (if isGr g = true then (if n = 0 ∨ bt (semR M0 n kd p1 p2 sb ag (sg n - nI 1) y.toNatClampNeg) act = false ∨ 24 < n + fb_ct (bt (semR M0 n kd p1 p2 sb ag (sg n - nI 1) y.toNatClampNeg)) 32 then nI 0 else nI (n + rk (semR M0 n kd p1 p2 sb ag (sg n - nI 1) y.toNatClampNeg) n)) else nI 0) else nI 0) ∧ (if isIn nf y = true then (if isGr g = true then whiF M n act g (semR M0 n kd p1 p2 sb ag (sg n - nI 1) y.toNatClampNeg) u else u = wr M 0 0 (nI 2)) else u = wr M 0 0 (nI 1))) (fun (u : Nat → Nat → Int32) t => va_P D vwCl (rc cs b u) t.heap) (kA b 12 sz)) 1 24 (kA b 12 sz) := by
  refine Met.ofW (cc := cX5_whisper) (maxL := 10) (ret := (some .int)) (by decide) rfl ?_
  intro p e s m args below meth c s₁ B hml hv
  obtain ⟨rfl, hsz, hP, hK⟩ := hv
  have hx := B.exec
  have hb := B.bytes
  have hr := B.returns
  have hts := atoms_spec (ws := wsX5_whisper) B.pre
  have hown : s.vm.findClass RX5 = some m.cls := findClass_of_methodNamed B.named
  have hlocks := B.notSynchronized
  have hK1 := hK.1
  have hinX5 : ∀ w ∈ wsX50, w ∈ wsX5_whisper := fun w h => List.mem_cons_of_mem _ (List.mem_append_right _ h)
  subst hsz
  have hS : va_S (kA b 12 s.heap.size) s.heap s.heap [] := va_S.rf
  have hl := lv_entry ([.ref (b 0), .int g, .int y]) (n := 10) (Nat.le_of_ble_eq_true rfl)
  rw [lg_entry_eq]
  generalize (lg_sl ([.ref (b 0), .int g, .int y]) ++ List.replicate (10 - (lg_sl ([.ref (b 0), .int g, .int y])).length) Slot.unset).toArray = ls at hl ⊢
  have hl : lv_has ls 10 [(0, .ref (b 0)), (1, .int g), (2, .int y)] := hl
  refine W_Q (fun Q hQ => ?_)
  show W p l e ({ frames := 152, cells := 1, slots := 24, locals := 4450 } : Room) s m ([.ref (b 0), .int g, .int y] : List Value).toArray below meth c s.heap [] 0 0 Q (F0 m 0 ls [])
  refine lv_aload_n hx hb dX5_whisper_0 rfl (lv_at hl 0 rfl) ?_
  refine lv_iconst (v := (nI 0)) hx hb dX5_whisper_1 (by decide) ?_
  refine xput (D := D) (ci := 5) (v := .int (nI 0)) (ty := .int) (C := RX5) (T := TX5) (N := 15) (ws' := rc cs b (wr M 0 0 (nI 0))) hx hb hts hinX5 tyX5 tyX5_ok nmX5 hown hK1 hP (rD hI) hS 0 rfl rfl 0 (by decide) (hts (.fieldLink RX5 44 "KnowledgeModelModel" "thrown" "I") (List.mem_of_getElem? (i := 1) rfl)) (fun _ h9 => h9) rfl (by decide +kernel) rfl rfl (Nat.le_of_ble_eq_true rfl) rfl dX5_whisper_2 (fun H locs hP hS => ?_)
  obtain ⟨M_1, hM_1⟩ : ∃ z, z = wr M 0 0 (nI 0) := ⟨_, rfl⟩
  rw [← hM_1] at hP
  have hk_2 : M_1 0 1 = nI n := by rw [hM_1]; exact (wr_ne (Or.inr (by decide))).trans hn
  have hk_3 : M_1 0 2 = nI act := by rw [hM_1]; exact (wr_ne (Or.inr (by decide))).trans hact
  have hk_4 : M_1 0 3 = nI nf := by rw [hM_1]; exact (wr_ne (Or.inr (by decide))).trans hfc
  have hk_5 : M_1 0 0 = nI 0 := by rw [hM_1]; exact wr_same
  refine lv_aload_n hx hb dX5_whisper_5 rfl (lv_at hl 0 rfl) ?_
  refine lv_iload_n hx hb dX5_whisper_6 rfl (lv_at hl 2 rfl) ?_
  refine xcalli (va_runV (As := [.int y]) (rest := []) ⟨hx, hb, hml, hown, hts⟩ (c_X5_isFormula l D cs b M_1 nf y hk_4) (cwV 1 hts gX5_whisper_X5_isFormula rfl rfl rfl (by decide +kernel) ⟨Nat.le_of_ble_eq_true rfl, Nat.le_of_ble_eq_true rfl⟩) (xpreV hP hK (ci := 5) 0 rfl rfl) rfl rfl hl.1 rfl (lv_room (Nat.le_of_ble_eq_true rfl)) dX5_whisper_7 ⟨Nat.le_of_ble_eq_true rfl, Nat.le_of_ble_eq_true rfl⟩) hS hP (fun H locs hP hS => ?_)
  refine lv_if_ne (tgt := 19) hx hb dX5_whisper_10 (by decide) (fun c10 => ?_) (fun c10 => ?_)
  ·
    replace c10 := bI_n0 c10
    refine lv_iload_n hx hb dX5_whisper_19 rfl (lv_at hl 1 rfl) ?_
    refine xcalli (va_runS (As := [.int g]) (rest := []) ⟨hx, hb, hml, hown, hts⟩ (c_X5_isGroup l g) (va_cwS 1 hts gX5_whisper_X5_isGroup rfl rfl rfl (by decide +kernel) ⟨Nat.le_of_ble_eq_true rfl, Nat.le_of_ble_eq_true rfl⟩) xpreN rfl rfl hl.1 rfl (lv_room (Nat.le_of_ble_eq_true rfl)) dX5_whisper_20 ⟨Nat.le_of_ble_eq_true rfl, Nat.le_of_ble_eq_true rfl⟩) hS hP (fun H locs hP hS => ?_)
    refine lv_if_ne (tgt := 32) hx hb dX5_whisper_23 (by decide) (fun c23 => ?_) (fun c23 => ?_)
    ·
      replace c23 := bI_n0 c23
      obtain ⟨hlt_y, heq_y⟩ := isIn_eq (by omega) c10
      have hl : lv_has ls 10 [(0, .ref (b 0)), (1, .int g), (2, .int (nI y.toNatClampNeg))] := (lcons (lcons (lcons (lzero hl) hl 2 rfl (congrArg Value.int heq_y)) hl 1 rfl rfl) hl 0 rfl rfl)
      refine lv_aload_n hx hb dX5_whisper_32 rfl (lv_at hl 0 rfl) ?_
      refine lv_iload_n hx hb dX5_whisper_33 rfl (lv_at hl 2 rfl) ?_
      refine xcallwi (va_runV (As := [.int (nI y.toNatClampNeg)]) (rest := []) ⟨hx, hb, hml, hown, hts⟩ (c_X5_trueAt l D cs b M_1 _ hI n nf kd p1 p2 ns sb ag M0 y.toNatClampNeg hk_2 (by omega) hk_4 hf40 (by simp only [fo_0, hM_1]; exact hrw) hwf hlt_y) (cwV 1 hts gX5_whisper_X5_trueAt rfl rfl rfl (by decide +kernel) ⟨Nat.le_of_ble_eq_true rfl, Nat.le_of_ble_eq_true rfl⟩) (xpreVs hP hK (ci := 5) 0 rfl rfl) rfl rfl hl.1 rfl (lv_room (Nat.le_of_ble_eq_true rfl)) dX5_whisper_34 ⟨Nat.le_of_ble_eq_true rfl, Nat.le_of_ble_eq_true rfl⟩) hS (kAle hS.1) (fun u_6 H locs hu_6 hP _ _ hS => ?_)
      have hP : va_P D vwCl (rc cs b u_6) H := hP
      have hk_7 : u_6 0 1 = nI n := by rw [hu_6 0 1 (by decide)]; exact hk_2
      have hk_8 : u_6 0 2 = nI act := by rw [hu_6 0 2 (by decide)]; exact hk_3
      have hk_9 : u_6 0 3 = nI nf := by rw [hu_6 0 3 (by decide)]; exact hk_4
      obtain ⟨set, hset⟩ : ∃ z, z = semR M0 n kd p1 p2 sb ag (sg n - nI 1) y.toNatClampNeg := ⟨_, rfl⟩
      refine xtop (y := set) hset.symm ?_
      have hTQ : TQ (wr M 0 0 (nI 0)) u_6 := by have h9 := hu_6; simp only [fo_0, hM_1] at h9; exact h9
      refine lv_istore_n (lv' := [(3, .int set), (0, .ref (b 0)), (1, .int g), (2, .int (nI y.toNatClampNeg))]) hx hb dX5_whisper_37 rfl hl (by decide) rfl (fun ls hl => ?_)
      refine lv_aload_n hx hb dX5_whisper_38 rfl (lv_at hl 1 rfl) ?_
      refine va_get (D := D) (ci := 5) (v := .int (u_6 0 1)) (C := RX5) (T := TX5) (N := 15) hx hb hts hinX5 hown hK1 hP 0 rfl rfl 1 (by decide) (hts (.fieldLink RX5 48 "KnowledgeModelModel" "worlds" "I") (List.mem_of_getElem? (i := 2) rfl)) (fun _ h9 => h9) rfl dX5_whisper_39 ?_
      refine xtop (y := nI n) (hk_7) ?_
      refine lv_if_eq (tgt := 70) hx hb dX5_whisper_42 (by decide) (fun c42 => ?_) (fun c42 => ?_)
      ·
        replace c42 : n = 0 := k0_eqt c42 (by omega)
        refine lv_aload_n hx hb dX5_whisper_70 rfl (lv_at hl 1 rfl) ?_
        refine lv_iconst (v := (nI 3)) hx hb dX5_whisper_71 (by decide) ?_
        refine xcallwi (va_runV (As := [.int (nI 3)]) (rest := []) ⟨hx, hb, hml, hown, hts⟩ (c_X5_no l D cs b u_6 _ hI (nI 3)) (cwV 1 hts gX5_whisper_X5_no rfl rfl rfl (by decide +kernel) ⟨Nat.le_of_ble_eq_true rfl, Nat.le_of_ble_eq_true rfl⟩) (xpreVs hP hK (ci := 5) 0 rfl rfl) rfl rfl hl.1 rfl (lv_room (Nat.le_of_ble_eq_true rfl)) dX5_whisper_72 ⟨Nat.le_of_ble_eq_true rfl, Nat.le_of_ble_eq_true rfl⟩) hS (kAle hS.1) (fun u_10 H locs hu_10 hP _ _ hS => ?_)
        have hP : va_P D vwCl (rc cs b (wr u_6 0 0 (nI 3))) H := hP
        obtain ⟨M_11, hM_11⟩ : ∃ z, z = wr u_6 0 0 (nI 3) := ⟨_, rfl⟩
        rw [← hM_11] at hP
        have hk_12 : M_11 0 1 = nI n := by rw [hM_11]; exact (wr_ne (Or.inr (by decide))).trans hk_7
        have hk_13 : M_11 0 2 = nI act := by rw [hM_11]; exact (wr_ne (Or.inr (by decide))).trans hk_8
        have hk_14 : M_11 0 3 = nI nf := by rw [hM_11]; exact (wr_ne (Or.inr (by decide))).trans hk_9
        subst hQ
        refine W.widen (k := 1) (n := 24) (by decide) (by decide) ?_
        have hrel : (if isIn nf y = true then (if isGr g = true then whiF M n act g (semR M0 n kd p1 p2 sb ag (sg n - nI 1) y.toNatClampNeg) M_11 else M_11 = wr M 0 0 (nI 2)) else M_11 = wr M 0 0 (nI 1)) := by first | (rw [c10]; simp only [wr_wr, if_true, if_false, Bool.false_eq_true, Nat.one_ne_zero, hM_1, c10, c23, c42, hM_11]; done) | (rw [if_pos c10, c23]; simp only [wr_wr, if_true, if_false, Bool.false_eq_true, Nat.one_ne_zero, hM_1, c10, c23, c42, hM_11]; done) | (rw [if_pos c10, if_pos c23, ← hset]; exact ⟨fun _ => by simp only [fo_0, hM_1, c10, c23, c42, hM_11]; exact TQ_w hTQ, fun q => absurd (Or.inl c42) q⟩) | (rw [if_pos c10, if_pos c23, ← hset]; exact ⟨fun _ => by simp only [fo_0, hM_1, c10, c23, c42, hM_11]; exact TQ_w hTQ, fun q => absurd (Or.inr (Or.inl c53)) q⟩) | (rw [if_pos c10, if_pos c23, ← hset]; exact ⟨fun _ => by simp only [fo_0, hM_1, c10, c23, c42, hM_11]; exact TQ_w hTQ, fun q => absurd (Or.inr (Or.inr c67)) q⟩) | ((have hje : j = n := by omega); subst hje; rw [if_pos c10, if_pos c23, ← hset]; exact ⟨fun q => absurd q hnb, fun _ => ⟨_, Mj, hTQ, hCR, by simp only [fo_0, hM_1, c10, c23, c42, hM_11]⟩⟩)
        have hfin : (nI 0) = (if isIn nf y = true then (if isGr g = true then (if n = 0 ∨ bt (semR M0 n kd p1 p2 sb ag (sg n - nI 1) y.toNatClampNeg) act = false ∨ 24 < n + fb_ct (bt (semR M0 n kd p1 p2 sb ag (sg n - nI 1) y.toNatClampNeg)) 32 then nI 0 else nI (n + rk (semR M0 n kd p1 p2 sb ag (sg n - nI 1) y.toNatClampNeg) n)) else nI 0) else nI 0) := by first | (rw [c10]; simp only [wr_wr, if_true, if_false, Bool.false_eq_true, Nat.one_ne_zero, hM_1, c10, c23, c42, hM_11]; done) | (rw [if_pos c10, c23]; simp only [wr_wr, if_true, if_false, Bool.false_eq_true, Nat.one_ne_zero, hM_1, c10, c23, c42, hM_11]; done) | (rw [if_pos c10, if_pos c23, ← hset, if_pos (Or.inl c42)]; done) | (rw [if_pos c10, if_pos c23, ← hset, if_pos (Or.inr (Or.inl c53))]; done) | (rw [if_pos c10, if_pos c23, ← hset, if_pos (Or.inr (Or.inr c67))]; done) | (rw [if_pos c10, if_pos c23, ← hset, if_neg (show ¬ (n = 0 ∨ bt set act = false ∨ 24 < n + fb_ct (bt set) 32) from hnb)]; done)
        exact W.iret hx hb hr (fun t ht hW => ⟨⟨_, M_11, rfl, ⟨hfin, hrel⟩, by rw [← ht] at hP; exact hP⟩, hS.F ht⟩) hS.2.2 dX5_whisper_75
      ·
        replace c42 : ¬ n = 0 := k0_eqf c42 (by omega)
        refine lv_iload_n hx hb dX5_whisper_45 rfl (lv_at hl 0 rfl) ?_
        refine lv_aload_n hx hb dX5_whisper_46 rfl (lv_at hl 1 rfl) ?_
        refine va_get (D := D) (ci := 5) (v := .int (u_6 0 2)) (C := RX5) (T := TX5) (N := 15) hx hb hts hinX5 hown hK1 hP 0 rfl rfl 2 (by decide) (hts (.fieldLink RX5 62 "KnowledgeModelModel" "actual" "I") (List.mem_of_getElem? (i := 3) rfl)) (fun _ h9 => h9) rfl dX5_whisper_47 ?_
        refine xtop (y := nI act) (hk_8) ?_
        refine xcalli (va_runS (As := [.int set, .int (nI act)]) (rest := []) ⟨hx, hb, hml, hown, hts⟩ (c_X5_has l set act (by omega)) (va_cwS 2 hts gX5_whisper_X5_has rfl rfl rfl (by decide +kernel) ⟨Nat.le_of_ble_eq_true rfl, Nat.le_of_ble_eq_true rfl⟩) xpreN rfl rfl hl.1 rfl (lv_room (Nat.le_of_ble_eq_true rfl)) dX5_whisper_50 ⟨Nat.le_of_ble_eq_true rfl, Nat.le_of_ble_eq_true rfl⟩) hS hP (fun H locs hP hS => ?_)
        refine lv_if_eq (tgt := 70) hx hb dX5_whisper_53 (by decide) (fun c53 => ?_) (fun c53 => ?_)
        ·
          replace c53 := bI_0 c53
          refine lv_aload_n hx hb dX5_whisper_70 rfl (lv_at hl 1 rfl) ?_
          refine lv_iconst (v := (nI 3)) hx hb dX5_whisper_71 (by decide) ?_
          refine xcallwi (va_runV (As := [.int (nI 3)]) (rest := []) ⟨hx, hb, hml, hown, hts⟩ (c_X5_no l D cs b u_6 _ hI (nI 3)) (cwV 1 hts gX5_whisper_X5_no rfl rfl rfl (by decide +kernel) ⟨Nat.le_of_ble_eq_true rfl, Nat.le_of_ble_eq_true rfl⟩) (xpreVs hP hK (ci := 5) 0 rfl rfl) rfl rfl hl.1 rfl (lv_room (Nat.le_of_ble_eq_true rfl)) dX5_whisper_72 ⟨Nat.le_of_ble_eq_true rfl, Nat.le_of_ble_eq_true rfl⟩) hS (kAle hS.1) (fun u_15 H locs hu_15 hP _ _ hS => ?_)
          have hP : va_P D vwCl (rc cs b (wr u_6 0 0 (nI 3))) H := hP
          obtain ⟨M_16, hM_16⟩ : ∃ z, z = wr u_6 0 0 (nI 3) := ⟨_, rfl⟩
          rw [← hM_16] at hP
          have hk_17 : M_16 0 1 = nI n := by rw [hM_16]; exact (wr_ne (Or.inr (by decide))).trans hk_7
          have hk_18 : M_16 0 2 = nI act := by rw [hM_16]; exact (wr_ne (Or.inr (by decide))).trans hk_8
          have hk_19 : M_16 0 3 = nI nf := by rw [hM_16]; exact (wr_ne (Or.inr (by decide))).trans hk_9
          subst hQ
          refine W.widen (k := 1) (n := 24) (by decide) (by decide) ?_
          have hrel : (if isIn nf y = true then (if isGr g = true then whiF M n act g (semR M0 n kd p1 p2 sb ag (sg n - nI 1) y.toNatClampNeg) M_16 else M_16 = wr M 0 0 (nI 2)) else M_16 = wr M 0 0 (nI 1)) := by first | (rw [c10]; simp only [wr_wr, if_true, if_false, Bool.false_eq_true, Nat.one_ne_zero, hM_1, c10, c23, c42, c53, hM_16]; done) | (rw [if_pos c10, c23]; simp only [wr_wr, if_true, if_false, Bool.false_eq_true, Nat.one_ne_zero, hM_1, c10, c23, c42, c53, hM_16]; done) | (rw [if_pos c10, if_pos c23, ← hset]; exact ⟨fun _ => by simp only [fo_0, hM_1, c10, c23, c42, c53, hM_16]; exact TQ_w hTQ, fun q => absurd (Or.inl c42) q⟩) | (rw [if_pos c10, if_pos c23, ← hset]; exact ⟨fun _ => by simp only [fo_0, hM_1, c10, c23, c42, c53, hM_16]; exact TQ_w hTQ, fun q => absurd (Or.inr (Or.inl c53)) q⟩) | (rw [if_pos c10, if_pos c23, ← hset]; exact ⟨fun _ => by simp only [fo_0, hM_1, c10, c23, c42, c53, hM_16]; exact TQ_w hTQ, fun q => absurd (Or.inr (Or.inr c67)) q⟩) | ((have hje : j = n := by omega); subst hje; rw [if_pos c10, if_pos c23, ← hset]; exact ⟨fun q => absurd q hnb, fun _ => ⟨_, Mj, hTQ, hCR, by simp only [fo_0, hM_1, c10, c23, c42, c53, hM_16]⟩⟩)
          have hfin : (nI 0) = (if isIn nf y = true then (if isGr g = true then (if n = 0 ∨ bt (semR M0 n kd p1 p2 sb ag (sg n - nI 1) y.toNatClampNeg) act = false ∨ 24 < n + fb_ct (bt (semR M0 n kd p1 p2 sb ag (sg n - nI 1) y.toNatClampNeg)) 32 then nI 0 else nI (n + rk (semR M0 n kd p1 p2 sb ag (sg n - nI 1) y.toNatClampNeg) n)) else nI 0) else nI 0) := by first | (rw [c10]; simp only [wr_wr, if_true, if_false, Bool.false_eq_true, Nat.one_ne_zero, hM_1, c10, c23, c42, c53, hM_16]; done) | (rw [if_pos c10, c23]; simp only [wr_wr, if_true, if_false, Bool.false_eq_true, Nat.one_ne_zero, hM_1, c10, c23, c42, c53, hM_16]; done) | (rw [if_pos c10, if_pos c23, ← hset, if_pos (Or.inl c42)]; done) | (rw [if_pos c10, if_pos c23, ← hset, if_pos (Or.inr (Or.inl c53))]; done) | (rw [if_pos c10, if_pos c23, ← hset, if_pos (Or.inr (Or.inr c67))]; done) | (rw [if_pos c10, if_pos c23, ← hset, if_neg (show ¬ (n = 0 ∨ bt set act = false ∨ 24 < n + fb_ct (bt set) 32) from hnb)]; done)
          exact W.iret hx hb hr (fun t ht hW => ⟨⟨_, M_16, rfl, ⟨hfin, hrel⟩, by rw [← ht] at hP; exact hP⟩, hS.F ht⟩) hS.2.2 dX5_whisper_75
        ·
          replace c53 := bI_n0 c53
          refine lv_aload_n hx hb dX5_whisper_56 rfl (lv_at hl 1 rfl) ?_
          refine va_get (D := D) (ci := 5) (v := .int (u_6 0 1)) (C := RX5) (T := TX5) (N := 15) hx hb hts hinX5 hown hK1 hP 0 rfl rfl 1 (by decide) (hts (.fieldLink RX5 48 "KnowledgeModelModel" "worlds" "I") (List.mem_of_getElem? (i := 2) rfl)) (fun _ h9 => h9) rfl dX5_whisper_57 ?_
          refine xtop (y := nI n) (hk_7) ?_
          have hct := fb_ct_le (bt set) 32
          refine lv_iload_n hx hb dX5_whisper_60 rfl (lv_at hl 0 rfl) ?_
          refine xcalli (va_runS (As := [.int set]) (rest := [.int (nI n)]) ⟨hx, hb, hml, hown, hts⟩ (c_J6_bitCount_0f7a4 l set) (va_cwS 1 hts gX5_whisper_J6_bitCount_0f7a4 rfl rfl rfl (by decide +kernel) ⟨Nat.le_of_ble_eq_true rfl, Nat.le_of_ble_eq_true rfl⟩) xpreN rfl rfl hl.1 rfl (lv_room (Nat.le_of_ble_eq_true rfl)) dX5_whisper_61 ⟨Nat.le_of_ble_eq_true rfl, Nat.le_of_ble_eq_true rfl⟩) hS hP (fun H locs hP hS => ?_)
          refine xtop (y := (nI (fb_ct (bt set) 32))) (by exact bc_ct set) ?_
          refine xiadd hx hb dX5_whisper_64 ?_
          refine lv_bipush (v := (nI 24)) hx hb dX5_whisper_65 (by decide) ?_
          refine lv_icmp_le (tgt := 76) hx hb dX5_whisper_67 (by decide) (fun c67 => ?_) (fun c67 => ?_)
          ·
            replace c67 : (n + (fb_ct (bt set) 32)) ≤ 24 := k_let c67 (by omega) (by omega)
            have hr32 := rk_32 set (show n ≤ 32 by omega)
            have hnb : ¬ whiB n act set := by rintro (q | q | q); exact c42 q; (rw [c53] at q; cases q); omega
            refine lv_bipush (v := (nI 24)) hx hb dX5_whisper_76 (by decide) ?_
            refine xnewi hx hb (hts (.arrayClass .int) (List.mem_of_getElem? (i := 4) rfl)) hK1 hP (rD hI) hS kAn (Nat.le_of_ble_eq_true rfl) (Nat.le_of_ble_eq_true rfl) dX5_whisper_78 (fun q78 H hP hD1 hS => ?_)
            have hP : va_P D vwCl (rc1 cs b u_6 q78 (fun _ => 0)) H := hP
            have hD1 : va_D (kA b 12 s.heap.size) (rc1 cs b u_6 q78 (fun _ => 0)) := hD1
            refine W.widen (k := 1) (n := 24) (by decide) (by decide) ?_
            refine lv_astore (lv' := [(4, .ref q78), (3, .int set), (0, .ref (b 0)), (1, .int g), (2, .int (nI y.toNatClampNeg))]) hx hb dX5_whisper_80 hl (by decide) rfl (fun ls hl => ?_)
            refine lv_aload_n hx hb dX5_whisper_82 rfl (lv_at hl 2 rfl) ?_
            refine va_get (D := D) (ci := 5) (v := .int (u_6 0 1)) (C := RX5) (T := TX5) (N := 15) hx hb hts hinX5 hown hK1 hP 0 rfl rfl 1 (by decide) (hts (.fieldLink RX5 48 "KnowledgeModelModel" "worlds" "I") (List.mem_of_getElem? (i := 2) rfl)) (fun _ h9 => h9) rfl dX5_whisper_83 ?_
            refine xtop (y := nI n) (hk_7) ?_
            refine lv_istore (lv' := [(5, .int (nI n)), (4, .ref q78), (3, .int set), (0, .ref (b 0)), (1, .int g), (2, .int (nI y.toNatClampNeg))]) hx hb dX5_whisper_86 hl (by decide) rfl (fun ls hl => ?_)
            refine lv_iconst (v := (nI 0)) hx hb dX5_whisper_88 (by decide) ?_
            refine lv_istore (lv' := [(6, .int (nI 0)), (5, .int (nI n)), (4, .ref q78), (3, .int set), (0, .ref (b 0)), (1, .int g), (2, .int (nI y.toNatClampNeg))]) hx hb dX5_whisper_89 hl (by decide) rfl (fun ls hl => ?_)
            have cut91 : ∀ (f91 : Nat) (j : Nat) (Tf : Nat → Int32) (hj : j ≤ n) (hT : ∀ x, x < j → Tf x = nI (n + rk set x)), n + 1 ≤ j + f91 → ∀ (H : Heap) (locs : List Loc), va_P D vwCl (rc1 cs b u_6 q78 Tf) H → va_S (kA b 12 s.heap.size) s.heap H locs → ∀ (ls : Array Slot), lv_has ls 10 [(0, .ref (b 0)), (1, .int g), (2, .int (nI y.toNatClampNeg)), (3, .int set), (4, .ref q78), (5, .int (nI (n + rk set j))), (6, .int (nI j))] → W p l e ({ frames := 152, cells := 1, slots := 24, locals := 4450 } : Room) s m ([.ref (b 0), .int g, .int y] : List Value).toArray below meth c H locs 1 24 Q (F0 m 91 ls []) := by
              intro f91
              induction f91 with
              | zero => intro j Tf hj hT hfu91; exact absurd hfu91 (by omega)
              | succ f91 cut91 =>
                intro j Tf hj hT hfu91 H locs hP hS ls hl
                have hrk := rk_le set j
                refine lv_iload hx hb dX5_whisper_91 (lv_at hl 6 rfl) ?_
                refine lv_aload_n hx hb dX5_whisper_93 rfl (lv_at hl 0 rfl) ?_
                refine va_get (D := D) (ci := 5) (v := .int (u_6 0 1)) (C := RX5) (T := TX5) (N := 15) hx hb hts hinX5 hown hK1 hP 0 rfl rfl 1 (by decide) (hts (.fieldLink RX5 48 "KnowledgeModelModel" "worlds" "I") (List.mem_of_getElem? (i := 2) rfl)) (fun _ h9 => h9) rfl dX5_whisper_94 ?_
                refine xtop (y := nI n) (hk_7) ?_
                refine lv_icmp_ge (tgt := 132) hx hb dX5_whisper_97 (by decide) (fun c97 => ?_) (fun c97 => ?_)
                ·
                  replace c97 : n ≤ j := k_get c97 (by omega) (by omega)
                  refine lv_iconst (v := (nI 0)) hx hb dX5_whisper_132 (by decide) ?_
                  refine lv_istore (lv' := [(6, .int (nI 0)), (0, .ref (b 0)), (1, .int g), (2, .int (nI y.toNatClampNeg)), (3, .int set), (4, .ref q78), (5, .int (nI (n + rk set j)))]) hx hb dX5_whisper_133 hl (by decide) rfl (fun ls hl => ?_)
                  have cut135 : ∀ (f135 : Nat) (j : Nat) (Mj : Nat → Nat → Int32) (hj : j ≤ n) (hCR : CRr u_6 g set n j Mj), n + 1 ≤ j + f135 → ∀ (H : Heap) (locs : List Loc), va_P D vwCl (rc1 cs b Mj q78 Tf) H → va_S (kA b 12 s.heap.size) s.heap H locs → ∀ (ls : Array Slot), lv_has ls 10 [(0, .ref (b 0)), (1, .int g), (2, .int (nI y.toNatClampNeg)), (3, .int set), (4, .ref q78), (5, .int (nI (n + rk set n))), (6, .int (nI j))] → W p l e ({ frames := 152, cells := 1, slots := 24, locals := 4450 } : Room) s m ([.ref (b 0), .int g, .int y] : List Value).toArray below meth c H locs 1 24 Q (F0 m 135 ls []) := by
                    intro f135
                    induction f135 with
                    | zero => intro j Mj hj hCR hfu135; exact absurd hfu135 (by omega)
                    | succ f135 cut135 =>
                      intro j Mj hj hCR hfu135 H locs hP hS ls hl
                      have hrk := rk_le set j
                      have hrm := rk_mono (kept := set) (show j ≤ n from hj)
                      refine lv_iload hx hb dX5_whisper_135 (lv_at hl 6 rfl) ?_
                      refine lv_aload_n hx hb dX5_whisper_137 rfl (lv_at hl 0 rfl) ?_
                      refine va_get (D := D) (ci := 5) (v := .int (Mj 0 1)) (C := RX5) (T := TX5) (N := 15) hx hb hts hinX5 hown hK1 hP 0 rfl rfl 1 (by decide) (hts (.fieldLink RX5 48 "KnowledgeModelModel" "worlds" "I") (List.mem_of_getElem? (i := 2) rfl)) (fun _ h9 => h9) rfl dX5_whisper_138 ?_
                      refine xtop (y := nI n) (((hCR.2.1 0 1 (by decide) (by decide)).trans hk_7)) ?_
                      refine lv_icmp_ge (tgt := 302) hx hb dX5_whisper_141 (by decide) (fun c141 => ?_) (fun c141 => ?_)
                      ·
                        replace c141 : n ≤ j := k_get c141 (by omega) (by omega)
                        refine lv_aload_n hx hb dX5_whisper_302 rfl (lv_at hl 0 rfl) ?_
                        refine lv_aload hx hb dX5_whisper_303 (lv_at hl 4 rfl) ?_
                        refine lv_aload_n hx hb dX5_whisper_305 rfl (lv_at hl 0 rfl) ?_
                        refine va_get (D := D) (ci := 5) (v := .int (Mj 0 2)) (C := RX5) (T := TX5) (N := 15) hx hb hts hinX5 hown hK1 hP 0 rfl rfl 2 (by decide) (hts (.fieldLink RX5 62 "KnowledgeModelModel" "actual" "I") (List.mem_of_getElem? (i := 3) rfl)) (fun _ h9 => h9) rfl dX5_whisper_306 ?_
                        refine xtop (y := nI act) (((hCR.2.1 0 2 (by decide) (by decide)).trans hk_8)) ?_
                        refine xiald (j := act) (q0 := 12) (t0 := 0) hx hb hK1 hP rfl rfl (by omega) (by decide) dX5_whisper_309 ?_
                        refine xtop (y := (nI (n + rk set act))) (by exact hT act (by omega)) ?_
                        refine xput (D := D) (ci := 5) (v := .int (nI (n + rk set act))) (ty := .int) (C := RX5) (T := TX5) (N := 15) (ws' := rc1 cs b (wr Mj 0 2 (nI (n + rk set act))) q78 Tf) hx hb hts hinX5 tyX5 tyX5_ok nmX5 hown hK1 hP (vD_same hD1 rfl) hS 0 rfl rfl 2 (by decide) (hts (.fieldLink RX5 62 "KnowledgeModelModel" "actual" "I") (List.mem_of_getElem? (i := 3) rfl)) (fun _ h9 => h9) rfl (by decide +kernel) rfl rfl (Nat.le_of_ble_eq_true rfl) rfl dX5_whisper_310 (fun H locs hP hS => ?_)
                        obtain ⟨M_20, hM_20⟩ : ∃ z, z = wr Mj 0 2 (nI (n + rk set act)) := ⟨_, rfl⟩
                        rw [← hM_20] at hP
                        have hk_21 : M_20 0 1 = nI n := by rw [hM_20]; exact (wr_ne (Or.inr (by decide))).trans ((hCR.2.1 0 1 (by decide) (by decide)).trans hk_7)
                        have hk_22 : M_20 0 2 = nI (n + rk set act) := by rw [hM_20]; exact wr_same
                        refine lv_aload_n hx hb dX5_whisper_313 rfl (lv_at hl 0 rfl) ?_
                        refine lv_iload hx hb dX5_whisper_314 (lv_at hl 5 rfl) ?_
                        refine xput (D := D) (ci := 5) (v := .int (nI (n + rk set n))) (ty := .int) (C := RX5) (T := TX5) (N := 15) (ws' := rc1 cs b (wr M_20 0 1 (nI (n + rk set n))) q78 Tf) hx hb hts hinX5 tyX5 tyX5_ok nmX5 hown hK1 hP (vD_same hD1 rfl) hS 0 rfl rfl 1 (by decide) (hts (.fieldLink RX5 48 "KnowledgeModelModel" "worlds" "I") (List.mem_of_getElem? (i := 2) rfl)) (fun _ h9 => h9) rfl (by decide +kernel) rfl rfl (Nat.le_of_ble_eq_true rfl) rfl dX5_whisper_316 (fun H locs hP hS => ?_)
                        obtain ⟨M_23, hM_23⟩ : ∃ z, z = wr M_20 0 1 (nI (n + rk set n)) := ⟨_, rfl⟩
                        rw [← hM_23] at hP
                        have hk_24 : M_23 0 2 = nI (n + rk set act) := by rw [hM_23]; exact (wr_ne (Or.inr (by decide))).trans hk_22
                        have hk_25 : M_23 0 1 = nI (n + rk set n) := by rw [hM_23]; exact wr_same
                        refine lv_aload_n hx hb dX5_whisper_319 rfl (lv_at hl 0 rfl) ?_
                        refine va_get (D := D) (ci := 5) (v := .int (M_23 0 1)) (C := RX5) (T := TX5) (N := 15) hx hb hts hinX5 hown hK1 hP 0 rfl rfl 1 (by decide) (hts (.fieldLink RX5 48 "KnowledgeModelModel" "worlds" "I") (List.mem_of_getElem? (i := 2) rfl)) (fun _ h9 => h9) rfl dX5_whisper_320 ?_
                        refine xtop (y := nI (n + rk set n)) (hk_25) ?_
                        subst hQ
                        have hP := r1P hP
                        have hrel : (if isIn nf y = true then (if isGr g = true then whiF M n act g (semR M0 n kd p1 p2 sb ag (sg n - nI 1) y.toNatClampNeg) M_23 else M_23 = wr M 0 0 (nI 2)) else M_23 = wr M 0 0 (nI 1)) := by first | (rw [c10]; simp only [wr_wr, if_true, if_false, Bool.false_eq_true, Nat.one_ne_zero, hM_1, c10, c23, c42, c53, c67, c97, c141, hM_20, hM_23]; done) | (rw [if_pos c10, c23]; simp only [wr_wr, if_true, if_false, Bool.false_eq_true, Nat.one_ne_zero, hM_1, c10, c23, c42, c53, c67, c97, c141, hM_20, hM_23]; done) | (rw [if_pos c10, if_pos c23, ← hset]; exact ⟨fun _ => by simp only [fo_0, hM_1, c10, c23, c42, c53, c67, c97, c141, hM_20, hM_23]; exact TQ_w hTQ, fun q => absurd (Or.inl c42) q⟩) | (rw [if_pos c10, if_pos c23, ← hset]; exact ⟨fun _ => by simp only [fo_0, hM_1, c10, c23, c42, c53, c67, c97, c141, hM_20, hM_23]; exact TQ_w hTQ, fun q => absurd (Or.inr (Or.inl c53)) q⟩) | (rw [if_pos c10, if_pos c23, ← hset]; exact ⟨fun _ => by simp only [fo_0, hM_1, c10, c23, c42, c53, c67, c97, c141, hM_20, hM_23]; exact TQ_w hTQ, fun q => absurd (Or.inr (Or.inr c67)) q⟩) | ((have hje : j = n := by omega); subst hje; rw [if_pos c10, if_pos c23, ← hset]; exact ⟨fun q => absurd q hnb, fun _ => ⟨_, Mj, hTQ, hCR, by simp only [fo_0, hM_1, c10, c23, c42, c53, c67, c97, c141, hM_20, hM_23]⟩⟩)
                        have hfin : (nI (n + rk set n)) = (if isIn nf y = true then (if isGr g = true then (if n = 0 ∨ bt (semR M0 n kd p1 p2 sb ag (sg n - nI 1) y.toNatClampNeg) act = false ∨ 24 < n + fb_ct (bt (semR M0 n kd p1 p2 sb ag (sg n - nI 1) y.toNatClampNeg)) 32 then nI 0 else nI (n + rk (semR M0 n kd p1 p2 sb ag (sg n - nI 1) y.toNatClampNeg) n)) else nI 0) else nI 0) := by first | (rw [c10]; simp only [wr_wr, if_true, if_false, Bool.false_eq_true, Nat.one_ne_zero, hM_1, c10, c23, c42, c53, c67, c97, c141, hM_20, hM_23]; done) | (rw [if_pos c10, c23]; simp only [wr_wr, if_true, if_false, Bool.false_eq_true, Nat.one_ne_zero, hM_1, c10, c23, c42, c53, c67, c97, c141, hM_20, hM_23]; done) | (rw [if_pos c10, if_pos c23, ← hset, if_pos (Or.inl c42)]; done) | (rw [if_pos c10, if_pos c23, ← hset, if_pos (Or.inr (Or.inl c53))]; done) | (rw [if_pos c10, if_pos c23, ← hset, if_pos (Or.inr (Or.inr c67))]; done) | (rw [if_pos c10, if_pos c23, ← hset, if_neg (show ¬ (n = 0 ∨ bt set act = false ∨ 24 < n + fb_ct (bt set) 32) from hnb)]; done)
                        exact W.iret hx hb hr (fun t ht hW => ⟨⟨_, M_23, rfl, ⟨hfin, hrel⟩, by rw [← ht] at hP; exact hP⟩, hS.F ht⟩) hS.2.2 dX5_whisper_323
                      ·
                        replace c141 : j < n := k_gef c141 (by omega) (by omega)
                        refine lv_iload_n hx hb dX5_whisper_144 rfl (lv_at hl 3 rfl) ?_
                        refine lv_iload hx hb dX5_whisper_145 (lv_at hl 6 rfl) ?_
                        refine xcalli (va_runS (As := [.int set, .int (nI j)]) (rest := []) ⟨hx, hb, hml, hown, hts⟩ (c_X5_has l set j (by omega)) (va_cwS 2 hts gX5_whisper_X5_has rfl rfl rfl (by decide +kernel) ⟨Nat.le_of_ble_eq_true rfl, Nat.le_of_ble_eq_true rfl⟩) xpreN rfl rfl hl.1 rfl (lv_room (Nat.le_of_ble_eq_true rfl)) dX5_whisper_147 ⟨Nat.le_of_ble_eq_true rfl, Nat.le_of_ble_eq_true rfl⟩) hS hP (fun H locs hP hS => ?_)
                        refine lv_if_ne (tgt := 156) hx hb dX5_whisper_150 (by decide) (fun c150 => ?_) (fun c150 => ?_)
                        ·
                          replace c150 := bI_n0 c150
                          have hrs := rk_lt (show j < n by omega) c150
                          refine lv_aload_n hx hb dX5_whisper_156 rfl (lv_at hl 0 rfl) ?_
                          refine va_get (D := D) (ci := 5) (v := .ref (b 1)) (C := RX5) (T := TX5) (N := 15) hx hb hts hinX5 hown hK1 hP 0 rfl rfl 3 (by decide) (hts (.fieldLink RX5 9 "KnowledgeModelModel" "atoms" "[I") (List.mem_of_getElem? (i := 5) rfl)) (fun _ h9 => h9) rfl dX5_whisper_157 ?_
                          refine lv_aload hx hb dX5_whisper_160 (lv_at hl 4 rfl) ?_
                          refine lv_iload hx hb dX5_whisper_162 (lv_at hl 6 rfl) ?_
                          refine xiald (j := j) (q0 := 12) (t0 := 0) hx hb hK1 hP rfl rfl (by omega) (by decide) dX5_whisper_164 ?_
                          refine xtop (y := (nI (n + rk set j))) (by exact hT j (by omega)) ?_
                          refine lv_aload_n hx hb dX5_whisper_165 rfl (lv_at hl 0 rfl) ?_
                          refine va_get (D := D) (ci := 5) (v := .ref (b 1)) (C := RX5) (T := TX5) (N := 15) hx hb hts hinX5 hown hK1 hP 0 rfl rfl 3 (by decide) (hts (.fieldLink RX5 9 "KnowledgeModelModel" "atoms" "[I") (List.mem_of_getElem? (i := 5) rfl)) (fun _ h9 => h9) rfl dX5_whisper_166 ?_
                          refine lv_iload hx hb dX5_whisper_169 (lv_at hl 6 rfl) ?_
                          refine xiald (j := j) (q0 := 1) (t0 := 0) hx hb hK1 hP rfl rfl (by omega) (by decide) dX5_whisper_171 ?_
                          refine xtop (y := (u_6 1 j)) (by exact hCR.2.2.1 j (by omega)) ?_
                          refine lv_topi (fun x_26 hx_26 => ?_)
                          refine xiast (j := n + rk set j) (q0 := 1) (t0 := 0) (ws' := rc1 cs b (wr Mj 1 (n + rk set j) x_26) q78 Tf) hx hb hK1 hP (vD_same hD1 rfl) hS rfl rfl (by omega) (by decide) rfl dX5_whisper_172 (fun H locs hP hS => ?_)
                          obtain ⟨M_27, hM_27⟩ : ∃ z, z = wr Mj 1 (n + rk set j) x_26 := ⟨_, rfl⟩
                          rw [← hM_27] at hP
                          have hk_28 : M_27 0 1 = nI n := by rw [hM_27]; exact (wr_ne (Or.inl (by omega))).trans ((hCR.2.1 0 1 (by decide) (by decide)).trans hk_7)
                          have hk_29 : M_27 0 2 = nI act := by rw [hM_27]; exact (wr_ne (Or.inl (by omega))).trans ((hCR.2.1 0 2 (by decide) (by decide)).trans hk_8)
                          refine lv_iconst (v := (nI 0)) hx hb dX5_whisper_173 (by decide) ?_
                          refine lv_istore (lv' := [(7, .int (nI 0)), (0, .ref (b 0)), (1, .int g), (2, .int (nI y.toNatClampNeg)), (3, .int set), (4, .ref q78), (5, .int (nI (n + rk set n))), (6, .int (nI j))]) hx hb dX5_whisper_174 hl (by decide) rfl (fun ls hl => ?_)
                          have cut176 : ∀ (f176 : Nat) (q : Nat) (Mq : Nat → Nat → Int32) (hq : q ≤ 4) (hCQ : CRq u_6 g set n j q Mq), 4 + 1 ≤ q + f176 → ∀ (H : Heap) (locs : List Loc), va_P D vwCl (rc1 cs b Mq q78 Tf) H → va_S (kA b 12 s.heap.size) s.heap H locs → ∀ (ls : Array Slot), lv_has ls 10 [(0, .ref (b 0)), (1, .int g), (2, .int (nI y.toNatClampNeg)), (3, .int set), (4, .ref q78), (5, .int (nI (n + rk set n))), (6, .int (nI j)), (7, .int (nI q))] → W p l e ({ frames := 152, cells := 1, slots := 24, locals := 4450 } : Room) s m ([.ref (b 0), .int g, .int y] : List Value).toArray below meth c H locs 1 24 Q (F0 m 176 ls []) := by
                            intro f176
                            induction f176 with
                            | zero => intro q Mq hq hCQ hfu176; exact absurd hfu176 (by omega)
                            | succ f176 cut176 =>
                              intro q Mq hq hCQ hfu176 H locs hP hS ls hl
                              refine lv_iload hx hb dX5_whisper_176 (lv_at hl 7 rfl) ?_
                              refine lv_iconst (v := (nI 4)) hx hb dX5_whisper_178 (by decide) ?_
                              refine lv_icmp_ge (tgt := 296) hx hb dX5_whisper_179 (by decide) (fun c179 => ?_) (fun c179 => ?_)
                              ·
                                replace c179 : 4 ≤ q := k_get c179 (by omega) (by omega)
                                refine lv_iinc (v := (nI (j + 1))) (lv' := [(6, .int (nI (j + 1))), (0, .ref (b 0)), (1, .int g), (2, .int (nI y.toNatClampNeg)), (3, .int set), (4, .ref q78), (5, .int (nI (n + rk set n))), (7, .int (nI q))]) hx hb dX5_whisper_296 hl (k := 6) rfl (nI_add j 1) (by decide) rfl (fun ls hl => ?_)
                                refine lv_goto (tgt := 135) hx hb dX5_whisper_299 (by decide) ?_
                                exact cut135 (j + 1) Mq (by omega) (by first | exact CRr_skip hCR c150 | ((have hqe : q = 4 := by omega); subst hqe; exact CRq_end hCQ c150)) (by omega) _ _ hP hS ls (lcons (lcons (lcons (lcons (lcons (lcons (lcons (lzero hl) hl 0 rfl rfl) hl 6 rfl rfl) hl 5 rfl rfl) hl 4 rfl rfl) hl 3 rfl rfl) hl 2 rfl rfl) hl 1 rfl rfl)
                              ·
                                replace c179 : q < 4 := k_gef c179 (by omega) (by omega)
                                refine lv_iload_n hx hb dX5_whisper_182 rfl (lv_at hl 1 rfl) ?_
                                refine lv_iload hx hb dX5_whisper_183 (lv_at hl 7 rfl) ?_
                                refine xcalli (va_runS (As := [.int g, .int (nI q)]) (rest := []) ⟨hx, hb, hml, hown, hts⟩ (c_X5_has l g q (by omega)) (va_cwS 2 hts gX5_whisper_X5_has rfl rfl rfl (by decide +kernel) ⟨Nat.le_of_ble_eq_true rfl, Nat.le_of_ble_eq_true rfl⟩) xpreN rfl rfl hl.1 rfl (lv_room (Nat.le_of_ble_eq_true rfl)) dX5_whisper_185 ⟨Nat.le_of_ble_eq_true rfl, Nat.le_of_ble_eq_true rfl⟩) hS hP (fun H locs hP hS => ?_)
                                refine lv_if_eq (tgt := 195) hx hb dX5_whisper_188 (by decide) (fun c188 => ?_) (fun c188 => ?_)
                                ·
                                  replace c188 := bI_0 c188
                                  refine lv_aload_n hx hb dX5_whisper_195 rfl (lv_at hl 0 rfl) ?_
                                  refine va_get (D := D) (ci := 5) (v := .ref (b 2)) (C := RX5) (T := TX5) (N := 15) hx hb hts hinX5 hown hK1 hP 0 rfl rfl 4 (by decide) (hts (.fieldLink RX5 13 "KnowledgeModelModel" "seen" "[I") (List.mem_of_getElem? (i := 6) rfl)) (fun _ h9 => h9) rfl dX5_whisper_196 ?_
                                  refine lv_bipush (v := (nI 24)) hx hb dX5_whisper_199 (by decide) ?_
                                  refine lv_iload hx hb dX5_whisper_201 (lv_at hl 7 rfl) ?_
                                  refine ximul hx hb dX5_whisper_203 ?_
                                  refine lv_iload hx hb dX5_whisper_204 (lv_at hl 6 rfl) ?_
                                  refine xiadd hx hb dX5_whisper_206 ?_
                                  refine xiald (j := (24 * q) + j) (q0 := 2) (t0 := 0) hx hb hK1 hP rfl rfl (by omega) (by decide) dX5_whisper_207 ?_
                                  refine xtop (y := (u_6 2 (24 * q + j))) (by exact hCQ.2.2.2.2.2 q j (by omega) (by omega) (by omega)) ?_
                                  refine lv_istore (lv' := [(8, .int (u_6 2 (24 * q + j))), (0, .ref (b 0)), (1, .int g), (2, .int (nI y.toNatClampNeg)), (3, .int set), (4, .ref q78), (5, .int (nI (n + rk set n))), (6, .int (nI j)), (7, .int (nI q))]) hx hb dX5_whisper_208 hl (by decide) rfl (fun ls hl => ?_)
                                  refine lv_iconst (v := (nI 0)) hx hb dX5_whisper_210 (by decide) ?_
                                  refine lv_istore (lv' := [(9, .int (nI 0)), (8, .int (u_6 2 (24 * q + j))), (0, .ref (b 0)), (1, .int g), (2, .int (nI y.toNatClampNeg)), (3, .int set), (4, .ref q78), (5, .int (nI (n + rk set n))), (6, .int (nI j)), (7, .int (nI q))]) hx hb dX5_whisper_211 hl (by decide) rfl (fun ls hl => ?_)
                                  have cut213 : ∀ (f213 : Nat) (t : Nat) (ht : t ≤ n), n + 1 ≤ t + f213 → ∀ (H : Heap) (locs : List Loc), va_P D vwCl (rc1 cs b Mq q78 Tf) H → va_S (kA b 12 s.heap.size) s.heap H locs → ∀ (ls : Array Slot), lv_has ls 10 [(0, .ref (b 0)), (1, .int g), (2, .int (nI y.toNatClampNeg)), (3, .int set), (4, .ref q78), (5, .int (nI (n + rk set n))), (6, .int (nI j)), (7, .int (nI q)), (8, .int (u_6 2 (24 * q + j))), (9, .int (nI t))] → W p l e ({ frames := 152, cells := 1, slots := 24, locals := 4450 } : Room) s m ([.ref (b 0), .int g, .int y] : List Value).toArray below meth c H locs 1 24 Q (F0 m 213 ls []) := by
                                    intro f213
                                    induction f213 with
                                    | zero => intro t ht hfu213; exact absurd hfu213 (by omega)
                                    | succ f213 cut213 =>
                                      intro t ht hfu213 H locs hP hS ls hl
                                      refine lv_iload hx hb dX5_whisper_213 (lv_at hl 9 rfl) ?_
                                      refine lv_aload_n hx hb dX5_whisper_215 rfl (lv_at hl 0 rfl) ?_
                                      refine va_get (D := D) (ci := 5) (v := .int (Mq 0 1)) (C := RX5) (T := TX5) (N := 15) hx hb hts hinX5 hown hK1 hP 0 rfl rfl 1 (by decide) (hts (.fieldLink RX5 48 "KnowledgeModelModel" "worlds" "I") (List.mem_of_getElem? (i := 2) rfl)) (fun _ h9 => h9) rfl dX5_whisper_216 ?_
                                      refine xtop (y := nI n) (((hCQ.2.1 0 1 (by decide) (by decide)).trans hk_7)) ?_
                                      refine lv_icmp_ge (tgt := 272) hx hb dX5_whisper_219 (by decide) (fun c219 => ?_) (fun c219 => ?_)
                                      ·
                                        replace c219 : n ≤ t := k_get c219 (by omega) (by omega)
                                        refine lv_aload_n hx hb dX5_whisper_272 rfl (lv_at hl 0 rfl) ?_
                                        refine va_get (D := D) (ci := 5) (v := .ref (b 2)) (C := RX5) (T := TX5) (N := 15) hx hb hts hinX5 hown hK1 hP 0 rfl rfl 4 (by decide) (hts (.fieldLink RX5 13 "KnowledgeModelModel" "seen" "[I") (List.mem_of_getElem? (i := 6) rfl)) (fun _ h9 => h9) rfl dX5_whisper_273 ?_
                                        refine lv_bipush (v := (nI 24)) hx hb dX5_whisper_276 (by decide) ?_
                                        refine lv_iload hx hb dX5_whisper_278 (lv_at hl 7 rfl) ?_
                                        refine ximul hx hb dX5_whisper_280 ?_
                                        refine lv_aload hx hb dX5_whisper_281 (lv_at hl 4 rfl) ?_
                                        refine lv_iload hx hb dX5_whisper_283 (lv_at hl 6 rfl) ?_
                                        refine xiald (j := j) (q0 := 12) (t0 := 0) hx hb hK1 hP rfl rfl (by omega) (by decide) dX5_whisper_285 ?_
                                        refine xtop (y := (nI (n + rk set j))) (by exact hT j (by omega)) ?_
                                        refine xiadd hx hb dX5_whisper_286 ?_
                                        refine lv_iload hx hb dX5_whisper_287 (lv_at hl 8 rfl) ?_
                                        refine lv_topi (fun x_30 hx_30 => ?_)
                                        refine xiast (j := (24 * q) + (n + rk set j)) (q0 := 2) (t0 := 0) (ws' := rc1 cs b (wr Mq 2 ((24 * q) + (n + rk set j)) x_30) q78 Tf) hx hb hK1 hP (vD_same hD1 rfl) hS rfl rfl (by omega) (by decide) rfl dX5_whisper_289 (fun H locs hP hS => ?_)
                                        obtain ⟨M_31, hM_31⟩ : ∃ z, z = wr Mq 2 ((24 * q) + (n + rk set j)) x_30 := ⟨_, rfl⟩
                                        rw [← hM_31] at hP
                                        have hk_32 : M_31 0 1 = nI n := by rw [hM_31]; exact (wr_ne (Or.inl (by omega))).trans ((hCQ.2.1 0 1 (by decide) (by decide)).trans hk_7)
                                        have hk_33 : M_31 0 2 = nI act := by rw [hM_31]; exact (wr_ne (Or.inl (by omega))).trans ((hCQ.2.1 0 2 (by decide) (by decide)).trans hk_8)
                                        refine lv_iinc (v := (nI (q + 1))) (lv' := [(7, .int (nI (q + 1))), (0, .ref (b 0)), (1, .int g), (2, .int (nI y.toNatClampNeg)), (3, .int set), (4, .ref q78), (5, .int (nI (n + rk set n))), (6, .int (nI j)), (8, .int (u_6 2 (24 * q + j))), (9, .int (nI t))]) hx hb dX5_whisper_290 hl (k := 7) rfl (nI_add q 1) (by decide) rfl (fun ls hl => ?_)
                                        refine lv_goto (tgt := 176) hx hb dX5_whisper_293 (by decide) ?_
                                        exact cut176 (q + 1) M_31 (by omega) (by have h9 := CRq_s hCQ c179 (by omega); unfold cpvR at h9; first | (rw [if_pos c188] at h9; (have hte : t = n := by omega); subst hte; simp only [fo_0, hM_1, c10, c23, c42, c53, c67, c97, c141, c150, hx_26, hM_27, c179, c188, c219, hx_30, hM_31]; exact h9) | (rw [c188] at h9; simp only [fo_0, Bool.false_eq_true, if_false, hM_1, c10, c23, c42, c53, c67, c97, c141, c150, hx_26, hM_27, c179, c188, c219, hx_30, hM_31] at h9 ⊢; exact h9)) (by omega) _ _ hP hS ls (lcons (lcons (lcons (lcons (lcons (lcons (lcons (lcons (lzero hl) hl 0 rfl rfl) hl 7 rfl rfl) hl 6 rfl rfl) hl 5 rfl rfl) hl 4 rfl rfl) hl 3 rfl rfl) hl 2 rfl rfl) hl 1 rfl rfl)
                                      ·
                                        replace c219 : t < n := k_gef c219 (by omega) (by omega)
                                        refine lv_iload_n hx hb dX5_whisper_222 rfl (lv_at hl 1 rfl) ?_
                                        refine lv_iload hx hb dX5_whisper_223 (lv_at hl 7 rfl) ?_
                                        refine xcalli (va_runS (As := [.int g, .int (nI q)]) (rest := []) ⟨hx, hb, hml, hown, hts⟩ (c_X5_has l g q (by omega)) (va_cwS 2 hts gX5_whisper_X5_has rfl rfl rfl (by decide +kernel) ⟨Nat.le_of_ble_eq_true rfl, Nat.le_of_ble_eq_true rfl⟩) xpreN rfl rfl hl.1 rfl (lv_room (Nat.le_of_ble_eq_true rfl)) dX5_whisper_225 ⟨Nat.le_of_ble_eq_true rfl, Nat.le_of_ble_eq_true rfl⟩) hS hP (fun H locs hP hS => ?_)
                                        refine lv_if_eq (tgt := 272) hx hb dX5_whisper_228 (by decide) (fun c228 => ?_) (fun c228 => ?_)
                                        ·
                                          replace c228 := bI_0 c228
                                          refine lv_aload_n hx hb dX5_whisper_272 rfl (lv_at hl 0 rfl) ?_
                                          refine va_get (D := D) (ci := 5) (v := .ref (b 2)) (C := RX5) (T := TX5) (N := 15) hx hb hts hinX5 hown hK1 hP 0 rfl rfl 4 (by decide) (hts (.fieldLink RX5 13 "KnowledgeModelModel" "seen" "[I") (List.mem_of_getElem? (i := 6) rfl)) (fun _ h9 => h9) rfl dX5_whisper_273 ?_
                                          refine lv_bipush (v := (nI 24)) hx hb dX5_whisper_276 (by decide) ?_
                                          refine lv_iload hx hb dX5_whisper_278 (lv_at hl 7 rfl) ?_
                                          refine ximul hx hb dX5_whisper_280 ?_
                                          refine lv_aload hx hb dX5_whisper_281 (lv_at hl 4 rfl) ?_
                                          refine lv_iload hx hb dX5_whisper_283 (lv_at hl 6 rfl) ?_
                                          refine xiald (j := j) (q0 := 12) (t0 := 0) hx hb hK1 hP rfl rfl (by omega) (by decide) dX5_whisper_285 ?_
                                          refine xtop (y := (nI (n + rk set j))) (by exact hT j (by omega)) ?_
                                          refine xiadd hx hb dX5_whisper_286 ?_
                                          refine lv_iload hx hb dX5_whisper_287 (lv_at hl 8 rfl) ?_
                                          refine lv_topi (fun x_34 hx_34 => ?_)
                                          refine xiast (j := (24 * q) + (n + rk set j)) (q0 := 2) (t0 := 0) (ws' := rc1 cs b (wr Mq 2 ((24 * q) + (n + rk set j)) x_34) q78 Tf) hx hb hK1 hP (vD_same hD1 rfl) hS rfl rfl (by omega) (by decide) rfl dX5_whisper_289 (fun H locs hP hS => ?_)
                                          obtain ⟨M_35, hM_35⟩ : ∃ z, z = wr Mq 2 ((24 * q) + (n + rk set j)) x_34 := ⟨_, rfl⟩
                                          rw [← hM_35] at hP
                                          have hk_36 : M_35 0 1 = nI n := by rw [hM_35]; exact (wr_ne (Or.inl (by omega))).trans ((hCQ.2.1 0 1 (by decide) (by decide)).trans hk_7)
                                          have hk_37 : M_35 0 2 = nI act := by rw [hM_35]; exact (wr_ne (Or.inl (by omega))).trans ((hCQ.2.1 0 2 (by decide) (by decide)).trans hk_8)
                                          refine lv_iinc (v := (nI (q + 1))) (lv' := [(7, .int (nI (q + 1))), (0, .ref (b 0)), (1, .int g), (2, .int (nI y.toNatClampNeg)), (3, .int set), (4, .ref q78), (5, .int (nI (n + rk set n))), (6, .int (nI j)), (8, .int (u_6 2 (24 * q + j))), (9, .int (nI t))]) hx hb dX5_whisper_290 hl (k := 7) rfl (nI_add q 1) (by decide) rfl (fun ls hl => ?_)
                                          refine lv_goto (tgt := 176) hx hb dX5_whisper_293 (by decide) ?_
                                          exact cut176 (q + 1) M_35 (by omega) (by have h9 := CRq_s hCQ c179 (by omega); unfold cpvR at h9; first | (rw [if_pos c188] at h9; (have hte : t = n := by omega); subst hte; simp only [fo_0, hM_1, c10, c23, c42, c53, c67, c97, c141, c150, hx_26, hM_27, c179, c188, c219, c228, hx_34, hM_35]; exact h9) | (rw [c188] at h9; simp only [fo_0, Bool.false_eq_true, if_false, hM_1, c10, c23, c42, c53, c67, c97, c141, c150, hx_26, hM_27, c179, c188, c219, c228, hx_34, hM_35] at h9 ⊢; exact h9)) (by omega) _ _ hP hS ls (lcons (lcons (lcons (lcons (lcons (lcons (lcons (lcons (lzero hl) hl 0 rfl rfl) hl 7 rfl rfl) hl 6 rfl rfl) hl 5 rfl rfl) hl 4 rfl rfl) hl 3 rfl rfl) hl 2 rfl rfl) hl 1 rfl rfl)
                                        ·
                                          replace c228 := bI_n0 c228
                                          exfalso
                                          rw [c188] at c228; cases c228
                                  exact cut213 (n + 1) 0 (by omega) (by omega) _ _ hP hS ls (lcons (lcons (lcons (lcons (lcons (lcons (lcons (lcons (lcons (lcons (lzero hl) hl 0 rfl rfl) hl 1 rfl rfl) hl 9 rfl rfl) hl 8 rfl rfl) hl 7 rfl rfl) hl 6 rfl rfl) hl 5 rfl rfl) hl 4 rfl rfl) hl 3 rfl rfl) hl 2 rfl rfl)
                                ·
                                  replace c188 := bI_n0 c188
                                  refine lv_iconst (v := (nI 0)) hx hb dX5_whisper_191 (by decide) ?_
                                  refine lv_goto (tgt := 208) hx hb dX5_whisper_192 (by decide) ?_
                                  refine lv_istore (lv' := [(8, .int (nI 0)), (0, .ref (b 0)), (1, .int g), (2, .int (nI y.toNatClampNeg)), (3, .int set), (4, .ref q78), (5, .int (nI (n + rk set n))), (6, .int (nI j)), (7, .int (nI q))]) hx hb dX5_whisper_208 hl (by decide) rfl (fun ls hl => ?_)
                                  refine lv_iconst (v := (nI 0)) hx hb dX5_whisper_210 (by decide) ?_
                                  refine lv_istore (lv' := [(9, .int (nI 0)), (8, .int (nI 0)), (0, .ref (b 0)), (1, .int g), (2, .int (nI y.toNatClampNeg)), (3, .int set), (4, .ref q78), (5, .int (nI (n + rk set n))), (6, .int (nI j)), (7, .int (nI q))]) hx hb dX5_whisper_211 hl (by decide) rfl (fun ls hl => ?_)
                                  have cut213 : ∀ (f213 : Nat) (t : Nat) (ht : t ≤ n), n + 1 ≤ t + f213 → ∀ (H : Heap) (locs : List Loc), va_P D vwCl (rc1 cs b Mq q78 Tf) H → va_S (kA b 12 s.heap.size) s.heap H locs → ∀ (ls : Array Slot), lv_has ls 10 [(0, .ref (b 0)), (1, .int g), (2, .int (nI y.toNatClampNeg)), (3, .int set), (4, .ref q78), (5, .int (nI (n + rk set n))), (6, .int (nI j)), (7, .int (nI q)), (8, .int (fo (fun v r => if bt (set &&& u_6 2 (24 * q + j)) v then r ||| sg (n + rk set v) else r) (nI 0) t)), (9, .int (nI t))] → W p l e ({ frames := 152, cells := 1, slots := 24, locals := 4450 } : Room) s m ([.ref (b 0), .int g, .int y] : List Value).toArray below meth c H locs 1 24 Q (F0 m 213 ls []) := by
                                    intro f213
                                    induction f213 with
                                    | zero => intro t ht hfu213; exact absurd hfu213 (by omega)
                                    | succ f213 cut213 =>
                                      intro t ht hfu213 H locs hP hS ls hl
                                      refine lv_iload hx hb dX5_whisper_213 (lv_at hl 9 rfl) ?_
                                      refine lv_aload_n hx hb dX5_whisper_215 rfl (lv_at hl 0 rfl) ?_
                                      refine va_get (D := D) (ci := 5) (v := .int (Mq 0 1)) (C := RX5) (T := TX5) (N := 15) hx hb hts hinX5 hown hK1 hP 0 rfl rfl 1 (by decide) (hts (.fieldLink RX5 48 "KnowledgeModelModel" "worlds" "I") (List.mem_of_getElem? (i := 2) rfl)) (fun _ h9 => h9) rfl dX5_whisper_216 ?_
                                      refine xtop (y := nI n) (((hCQ.2.1 0 1 (by decide) (by decide)).trans hk_7)) ?_
                                      refine lv_icmp_ge (tgt := 272) hx hb dX5_whisper_219 (by decide) (fun c219 => ?_) (fun c219 => ?_)
                                      ·
                                        replace c219 : n ≤ t := k_get c219 (by omega) (by omega)
                                        refine lv_aload_n hx hb dX5_whisper_272 rfl (lv_at hl 0 rfl) ?_
                                        refine va_get (D := D) (ci := 5) (v := .ref (b 2)) (C := RX5) (T := TX5) (N := 15) hx hb hts hinX5 hown hK1 hP 0 rfl rfl 4 (by decide) (hts (.fieldLink RX5 13 "KnowledgeModelModel" "seen" "[I") (List.mem_of_getElem? (i := 6) rfl)) (fun _ h9 => h9) rfl dX5_whisper_273 ?_
                                        refine lv_bipush (v := (nI 24)) hx hb dX5_whisper_276 (by decide) ?_
                                        refine lv_iload hx hb dX5_whisper_278 (lv_at hl 7 rfl) ?_
                                        refine ximul hx hb dX5_whisper_280 ?_
                                        refine lv_aload hx hb dX5_whisper_281 (lv_at hl 4 rfl) ?_
                                        refine lv_iload hx hb dX5_whisper_283 (lv_at hl 6 rfl) ?_
                                        refine xiald (j := j) (q0 := 12) (t0 := 0) hx hb hK1 hP rfl rfl (by omega) (by decide) dX5_whisper_285 ?_
                                        refine xtop (y := (nI (n + rk set j))) (by exact hT j (by omega)) ?_
                                        refine xiadd hx hb dX5_whisper_286 ?_
                                        refine lv_iload hx hb dX5_whisper_287 (lv_at hl 8 rfl) ?_
                                        refine lv_topi (fun x_38 hx_38 => ?_)
                                        refine xiast (j := (24 * q) + (n + rk set j)) (q0 := 2) (t0 := 0) (ws' := rc1 cs b (wr Mq 2 ((24 * q) + (n + rk set j)) x_38) q78 Tf) hx hb hK1 hP (vD_same hD1 rfl) hS rfl rfl (by omega) (by decide) rfl dX5_whisper_289 (fun H locs hP hS => ?_)
                                        obtain ⟨M_39, hM_39⟩ : ∃ z, z = wr Mq 2 ((24 * q) + (n + rk set j)) x_38 := ⟨_, rfl⟩
                                        rw [← hM_39] at hP
                                        have hk_40 : M_39 0 1 = nI n := by rw [hM_39]; exact (wr_ne (Or.inl (by omega))).trans ((hCQ.2.1 0 1 (by decide) (by decide)).trans hk_7)
                                        have hk_41 : M_39 0 2 = nI act := by rw [hM_39]; exact (wr_ne (Or.inl (by omega))).trans ((hCQ.2.1 0 2 (by decide) (by decide)).trans hk_8)
                                        refine lv_iinc (v := (nI (q + 1))) (lv' := [(7, .int (nI (q + 1))), (0, .ref (b 0)), (1, .int g), (2, .int (nI y.toNatClampNeg)), (3, .int set), (4, .ref q78), (5, .int (nI (n + rk set n))), (6, .int (nI j)), (8, .int (fo (fun v r => if bt (set &&& u_6 2 (24 * q + j)) v then r ||| sg (n + rk set v) else r) (nI 0) t)), (9, .int (nI t))]) hx hb dX5_whisper_290 hl (k := 7) rfl (nI_add q 1) (by decide) rfl (fun ls hl => ?_)
                                        refine lv_goto (tgt := 176) hx hb dX5_whisper_293 (by decide) ?_
                                        exact cut176 (q + 1) M_39 (by omega) (by have h9 := CRq_s hCQ c179 (by omega); unfold cpvR at h9; first | (rw [if_pos c188] at h9; (have hte : t = n := by omega); subst hte; simp only [fo_0, hM_1, c10, c23, c42, c53, c67, c97, c141, c150, hx_26, hM_27, c179, c188, c219, hx_38, hM_39]; exact h9) | (rw [c188] at h9; simp only [fo_0, Bool.false_eq_true, if_false, hM_1, c10, c23, c42, c53, c67, c97, c141, c150, hx_26, hM_27, c179, c188, c219, hx_38, hM_39] at h9 ⊢; exact h9)) (by omega) _ _ hP hS ls (lcons (lcons (lcons (lcons (lcons (lcons (lcons (lcons (lzero hl) hl 0 rfl rfl) hl 7 rfl rfl) hl 6 rfl rfl) hl 5 rfl rfl) hl 4 rfl rfl) hl 3 rfl rfl) hl 2 rfl rfl) hl 1 rfl rfl)
                                      ·
                                        replace c219 : t < n := k_gef c219 (by omega) (by omega)
                                        refine lv_iload_n hx hb dX5_whisper_222 rfl (lv_at hl 1 rfl) ?_
                                        refine lv_iload hx hb dX5_whisper_223 (lv_at hl 7 rfl) ?_
                                        refine xcalli (va_runS (As := [.int g, .int (nI q)]) (rest := []) ⟨hx, hb, hml, hown, hts⟩ (c_X5_has l g q (by omega)) (va_cwS 2 hts gX5_whisper_X5_has rfl rfl rfl (by decide +kernel) ⟨Nat.le_of_ble_eq_true rfl, Nat.le_of_ble_eq_true rfl⟩) xpreN rfl rfl hl.1 rfl (lv_room (Nat.le_of_ble_eq_true rfl)) dX5_whisper_225 ⟨Nat.le_of_ble_eq_true rfl, Nat.le_of_ble_eq_true rfl⟩) hS hP (fun H locs hP hS => ?_)
                                        refine lv_if_eq (tgt := 272) hx hb dX5_whisper_228 (by decide) (fun c228 => ?_) (fun c228 => ?_)
                                        ·
                                          replace c228 := bI_0 c228
                                          exfalso
                                          rw [c188] at c228; cases c228
                                        ·
                                          replace c228 := bI_n0 c228
                                          refine lv_iload_n hx hb dX5_whisper_231 rfl (lv_at hl 3 rfl) ?_
                                          refine lv_aload_n hx hb dX5_whisper_232 rfl (lv_at hl 0 rfl) ?_
                                          refine va_get (D := D) (ci := 5) (v := .ref (b 2)) (C := RX5) (T := TX5) (N := 15) hx hb hts hinX5 hown hK1 hP 0 rfl rfl 4 (by decide) (hts (.fieldLink RX5 13 "KnowledgeModelModel" "seen" "[I") (List.mem_of_getElem? (i := 6) rfl)) (fun _ h9 => h9) rfl dX5_whisper_233 ?_
                                          refine lv_bipush (v := (nI 24)) hx hb dX5_whisper_236 (by decide) ?_
                                          refine lv_iload hx hb dX5_whisper_238 (lv_at hl 7 rfl) ?_
                                          refine ximul hx hb dX5_whisper_240 ?_
                                          refine lv_iload hx hb dX5_whisper_241 (lv_at hl 6 rfl) ?_
                                          refine xiadd hx hb dX5_whisper_243 ?_
                                          refine xiald (j := (24 * q) + j) (q0 := 2) (t0 := 0) hx hb hK1 hP rfl rfl (by omega) (by decide) dX5_whisper_244 ?_
                                          refine xtop (y := (u_6 2 (24 * q + j))) (by exact hCQ.2.2.2.2.2 q j (by omega) (by omega) (by omega)) ?_
                                          refine lv_iand hx hb dX5_whisper_245 ?_
                                          refine lv_iload hx hb dX5_whisper_246 (lv_at hl 9 rfl) ?_
                                          refine xcalli (va_runS (As := [.int (set &&& (u_6 2 (24 * q + j))), .int (nI t)]) (rest := []) ⟨hx, hb, hml, hown, hts⟩ (c_X5_has l (set &&& (u_6 2 (24 * q + j))) t (by omega)) (va_cwS 2 hts gX5_whisper_X5_has rfl rfl rfl (by decide +kernel) ⟨Nat.le_of_ble_eq_true rfl, Nat.le_of_ble_eq_true rfl⟩) xpreN rfl rfl hl.1 rfl (lv_room (Nat.le_of_ble_eq_true rfl)) dX5_whisper_248 ⟨Nat.le_of_ble_eq_true rfl, Nat.le_of_ble_eq_true rfl⟩) hS hP (fun H locs hP hS => ?_)
                                          refine lv_if_eq (tgt := 266) hx hb dX5_whisper_251 (by decide) (fun c251 => ?_) (fun c251 => ?_)
                                          ·
                                            replace c251 := bI_0 c251
                                            refine lv_iinc (v := (nI (t + 1))) (lv' := [(9, .int (nI (t + 1))), (0, .ref (b 0)), (1, .int g), (2, .int (nI y.toNatClampNeg)), (3, .int set), (4, .ref q78), (5, .int (nI (n + rk set n))), (6, .int (nI j)), (7, .int (nI q)), (8, .int (fo (fun v r => if bt (set &&& u_6 2 (24 * q + j)) v then r ||| sg (n + rk set v) else r) (nI 0) t))]) hx hb dX5_whisper_266 hl (k := 9) rfl (nI_add t 1) (by decide) rfl (fun ls hl => ?_)
                                            refine lv_goto (tgt := 213) hx hb dX5_whisper_269 (by decide) ?_
                                            have e_42 : (fo (fun v r => if bt (set &&& u_6 2 (24 * q + j)) v then r ||| sg (n + rk set v) else r) (nI 0) t) = (fo (fun v r => if bt (set &&& u_6 2 (24 * q + j)) v then r ||| sg (n + rk set v) else r) (nI 0) (t + 1)) := by first | (rw [fo_s, if_neg (by rw [c251]; exact Bool.false_ne_true)]; done) | (rw [fo_s, if_pos c251]; assumption)
                                            exact cut213 (t + 1) (by omega) (by omega) _ _ hP hS ls (lcons (lcons (lcons (lcons (lcons (lcons (lcons (lcons (lcons (lcons (lzero hl) hl 0 rfl rfl) hl 9 rfl (congrArg Value.int e_42)) hl 8 rfl rfl) hl 7 rfl rfl) hl 6 rfl rfl) hl 5 rfl rfl) hl 4 rfl rfl) hl 3 rfl rfl) hl 2 rfl rfl) hl 1 rfl rfl)
                                          ·
                                            replace c251 := bI_n0 c251
                                            refine lv_iload hx hb dX5_whisper_254 (lv_at hl 8 rfl) ?_
                                            refine lv_iconst (v := (nI 1)) hx hb dX5_whisper_256 (by decide) ?_
                                            refine lv_aload hx hb dX5_whisper_257 (lv_at hl 4 rfl) ?_
                                            refine lv_iload hx hb dX5_whisper_259 (lv_at hl 9 rfl) ?_
                                            refine xiald (j := t) (q0 := 12) (t0 := 0) hx hb hK1 hP rfl rfl (by omega) (by decide) dX5_whisper_261 ?_
                                            refine xtop (y := (nI (n + rk set t))) (by exact hT t (by omega)) ?_
                                            refine lv_ishl hx hb dX5_whisper_262 ?_
                                            refine lv_ior hx hb dX5_whisper_263 ?_
                                            refine lv_topi (fun x_43 hx_43 => ?_)
                                            refine lv_istore (lv' := [(8, .int x_43), (0, .ref (b 0)), (1, .int g), (2, .int (nI y.toNatClampNeg)), (3, .int set), (4, .ref q78), (5, .int (nI (n + rk set n))), (6, .int (nI j)), (7, .int (nI q)), (9, .int (nI t))]) hx hb dX5_whisper_264 hl (by decide) rfl (fun ls hl => ?_)
                                            refine lv_iinc (v := (nI (t + 1))) (lv' := [(9, .int (nI (t + 1))), (8, .int x_43), (0, .ref (b 0)), (1, .int g), (2, .int (nI y.toNatClampNeg)), (3, .int set), (4, .ref q78), (5, .int (nI (n + rk set n))), (6, .int (nI j)), (7, .int (nI q))]) hx hb dX5_whisper_266 hl (k := 9) rfl (nI_add t 1) (by decide) rfl (fun ls hl => ?_)
                                            refine lv_goto (tgt := 213) hx hb dX5_whisper_269 (by decide) ?_
                                            have e_44 : x_43 = (fo (fun v r => if bt (set &&& u_6 2 (24 * q + j)) v then r ||| sg (n + rk set v) else r) (nI 0) (t + 1)) := by first | (rw [fo_s, if_neg (by rw [c251]; exact Bool.false_ne_true)]; done) | (rw [fo_s, if_pos c251]; assumption)
                                            exact cut213 (t + 1) (by omega) (by omega) _ _ hP hS ls (lcons (lcons (lcons (lcons (lcons (lcons (lcons (lcons (lcons (lcons (lzero hl) hl 0 rfl rfl) hl 1 rfl (congrArg Value.int e_44)) hl 9 rfl rfl) hl 8 rfl rfl) hl 7 rfl rfl) hl 6 rfl rfl) hl 5 rfl rfl) hl 4 rfl rfl) hl 3 rfl rfl) hl 2 rfl rfl)
                                  have e_45 : (nI 0) = (fo (fun v r => if bt (set &&& u_6 2 (24 * q + j)) v then r ||| sg (n + rk set v) else r) (nI 0) 0) := by rfl
                                  exact cut213 (n + 1) 0 (by omega) (by omega) _ _ hP hS ls (lcons (lcons (lcons (lcons (lcons (lcons (lcons (lcons (lcons (lcons (lzero hl) hl 0 rfl rfl) hl 1 rfl (congrArg Value.int e_45)) hl 9 rfl rfl) hl 8 rfl rfl) hl 7 rfl rfl) hl 6 rfl rfl) hl 5 rfl rfl) hl 4 rfl rfl) hl 3 rfl rfl) hl 2 rfl rfl)
                          exact cut176 (4 + 1) 0 M_27 (by omega) (by simp only [fo_0, hM_1, c10, c23, c42, c53, c67, c97, c141, c150, hx_26, hM_27]; exact CRq_0 hCR) (by omega) _ _ hP hS ls (lcons (lcons (lcons (lcons (lcons (lcons (lcons (lcons (lzero hl) hl 0 rfl rfl) hl 7 rfl rfl) hl 6 rfl rfl) hl 5 rfl rfl) hl 4 rfl rfl) hl 3 rfl rfl) hl 2 rfl rfl) hl 1 rfl rfl)
                        ·
                          replace c150 := bI_0 c150
                          refine lv_goto (tgt := 296) hx hb dX5_whisper_153 (by decide) ?_
                          refine lv_iinc (v := (nI (j + 1))) (lv' := [(6, .int (nI (j + 1))), (0, .ref (b 0)), (1, .int g), (2, .int (nI y.toNatClampNeg)), (3, .int set), (4, .ref q78), (5, .int (nI (n + rk set n)))]) hx hb dX5_whisper_296 hl (k := 6) rfl (nI_add j 1) (by decide) rfl (fun ls hl => ?_)
                          refine lv_goto (tgt := 135) hx hb dX5_whisper_299 (by decide) ?_
                          exact cut135 (j + 1) Mj (by omega) (by first | exact CRr_skip hCR c150 | ((have hqe : q = 4 := by omega); subst hqe; exact CRq_end hCQ c150)) (by omega) _ _ hP hS ls (lcons (lcons (lcons (lcons (lcons (lcons (lcons (lzero hl) hl 0 rfl rfl) hl 6 rfl rfl) hl 5 rfl rfl) hl 4 rfl rfl) hl 3 rfl rfl) hl 2 rfl rfl) hl 1 rfl rfl)
                  have e_46 : (nI (n + rk set j)) = (nI (n + rk set n)) := by rw [show j = n by omega]
                  exact cut135 (n + 1) 0 u_6 (by omega) (by exact CRr_0) (by omega) _ _ hP hS ls (lcons (lcons (lcons (lcons (lcons (lcons (lcons (lzero hl) hl 0 rfl rfl) hl 6 rfl (congrArg Value.int e_46)) hl 5 rfl rfl) hl 4 rfl rfl) hl 3 rfl rfl) hl 2 rfl rfl) hl 1 rfl rfl)
                ·
                  replace c97 : j < n := k_gef c97 (by omega) (by omega)
                  refine lv_aload hx hb dX5_whisper_100 (lv_at hl 4 rfl) ?_
                  refine lv_iload hx hb dX5_whisper_102 (lv_at hl 6 rfl) ?_
                  refine lv_iload hx hb dX5_whisper_104 (lv_at hl 5 rfl) ?_
                  refine xiast (j := j) (q0 := 12) (t0 := 0) (ws' := rc1 cs b u_6 q78 (upd Tf j (nI (n + rk set j)))) hx hb hK1 hP (vD_same hD1 rfl) hS rfl rfl (by omega) (by decide) rfl dX5_whisper_106 (fun H locs hP hS => ?_)
                  obtain ⟨T_47, hT_47⟩ : ∃ z, z = upd Tf j (nI (n + rk set j)) := ⟨_, rfl⟩
                  rw [← hT_47] at hP
                  refine lv_iload hx hb dX5_whisper_107 (lv_at hl 5 rfl) ?_
                  refine lv_iload_n hx hb dX5_whisper_109 rfl (lv_at hl 3 rfl) ?_
                  refine lv_iload hx hb dX5_whisper_110 (lv_at hl 6 rfl) ?_
                  refine xcalli (va_runS (As := [.int set, .int (nI j)]) (rest := [.int (nI (n + rk set j))]) ⟨hx, hb, hml, hown, hts⟩ (c_X5_has l set j (by omega)) (va_cwS 2 hts gX5_whisper_X5_has rfl rfl rfl (by decide +kernel) ⟨Nat.le_of_ble_eq_true rfl, Nat.le_of_ble_eq_true rfl⟩) xpreN rfl rfl hl.1 rfl (lv_room (Nat.le_of_ble_eq_true rfl)) dX5_whisper_112 ⟨Nat.le_of_ble_eq_true rfl, Nat.le_of_ble_eq_true rfl⟩) hS hP (fun H locs hP hS => ?_)
                  refine lv_if_eq (tgt := 122) hx hb dX5_whisper_115 (by decide) (fun c115 => ?_) (fun c115 => ?_)
                  ·
                    replace c115 := bI_0 c115
                    refine lv_iconst (v := (nI 0)) hx hb dX5_whisper_122 (by decide) ?_
                    refine xiadd hx hb dX5_whisper_123 ?_
                    refine lv_istore (lv' := [(5, .int (nI ((n + rk set j) + 0))), (0, .ref (b 0)), (1, .int g), (2, .int (nI y.toNatClampNeg)), (3, .int set), (4, .ref q78), (6, .int (nI j))]) hx hb dX5_whisper_124 hl (by decide) rfl (fun ls hl => ?_)
                    refine lv_iinc (v := (nI (j + 1))) (lv' := [(6, .int (nI (j + 1))), (5, .int (nI ((n + rk set j) + 0))), (0, .ref (b 0)), (1, .int g), (2, .int (nI y.toNatClampNeg)), (3, .int set), (4, .ref q78)]) hx hb dX5_whisper_126 hl (k := 6) rfl (nI_add j 1) (by decide) rfl (fun ls hl => ?_)
                    refine lv_goto (tgt := 91) hx hb dX5_whisper_129 (by decide) ?_
                    have e_48 : (nI ((n + rk set j) + 0)) = (nI (n + rk set (j + 1))) := by first | (rw [rk_n c115]; rfl) | (rw [rk_s c115]; rfl)
                    exact cut91 (j + 1) T_47 (by omega) (by intro x hx; simp only [upd, hM_1, c10, c23, c42, c53, c67, c97, hT_47, c115]; by_cases e : x = j; (rw [if_pos e, e]); (rw [if_neg e]; exact hT x (by omega))) (by omega) _ _ hP hS ls (lcons (lcons (lcons (lcons (lcons (lcons (lcons (lzero hl) hl 0 rfl rfl) hl 1 rfl (congrArg Value.int e_48)) hl 6 rfl rfl) hl 5 rfl rfl) hl 4 rfl rfl) hl 3 rfl rfl) hl 2 rfl rfl)
                  ·
                    replace c115 := bI_n0 c115
                    refine lv_iconst (v := (nI 1)) hx hb dX5_whisper_118 (by decide) ?_
                    refine lv_goto (tgt := 123) hx hb dX5_whisper_119 (by decide) ?_
                    refine xiadd hx hb dX5_whisper_123 ?_
                    refine lv_istore (lv' := [(5, .int (nI ((n + rk set j) + 1))), (0, .ref (b 0)), (1, .int g), (2, .int (nI y.toNatClampNeg)), (3, .int set), (4, .ref q78), (6, .int (nI j))]) hx hb dX5_whisper_124 hl (by decide) rfl (fun ls hl => ?_)
                    refine lv_iinc (v := (nI (j + 1))) (lv' := [(6, .int (nI (j + 1))), (5, .int (nI ((n + rk set j) + 1))), (0, .ref (b 0)), (1, .int g), (2, .int (nI y.toNatClampNeg)), (3, .int set), (4, .ref q78)]) hx hb dX5_whisper_126 hl (k := 6) rfl (nI_add j 1) (by decide) rfl (fun ls hl => ?_)
                    refine lv_goto (tgt := 91) hx hb dX5_whisper_129 (by decide) ?_
                    have e_49 : (nI ((n + rk set j) + 1)) = (nI (n + rk set (j + 1))) := by first | (rw [rk_n c115]; rfl) | (rw [rk_s c115]; rfl)
                    exact cut91 (j + 1) T_47 (by omega) (by intro x hx; simp only [upd, hM_1, c10, c23, c42, c53, c67, c97, hT_47, c115]; by_cases e : x = j; (rw [if_pos e, e]); (rw [if_neg e]; exact hT x (by omega))) (by omega) _ _ hP hS ls (lcons (lcons (lcons (lcons (lcons (lcons (lcons (lzero hl) hl 0 rfl rfl) hl 1 rfl (congrArg Value.int e_49)) hl 6 rfl rfl) hl 5 rfl rfl) hl 4 rfl rfl) hl 3 rfl rfl) hl 2 rfl rfl)
            have e_50 : (nI n) = (nI (n + rk set 0)) := by rfl
            exact cut91 (n + 1) 0 (fun _ => 0) (by omega) (by intro x hx; omega) (by omega) _ _ hP hS ls (lcons (lcons (lcons (lcons (lcons (lcons (lcons (lzero hl) hl 0 rfl rfl) hl 1 rfl (congrArg Value.int e_50)) hl 2 rfl rfl) hl 3 rfl rfl) hl 6 rfl rfl) hl 5 rfl rfl) hl 4 rfl rfl)
          ·
            replace c67 : 24 < (n + (fb_ct (bt set) 32)) := k_lef c67 (by omega) (by omega)
            refine lv_aload_n hx hb dX5_whisper_70 rfl (lv_at hl 1 rfl) ?_
            refine lv_iconst (v := (nI 3)) hx hb dX5_whisper_71 (by decide) ?_
            refine xcallwi (va_runV (As := [.int (nI 3)]) (rest := []) ⟨hx, hb, hml, hown, hts⟩ (c_X5_no l D cs b u_6 _ hI (nI 3)) (cwV 1 hts gX5_whisper_X5_no rfl rfl rfl (by decide +kernel) ⟨Nat.le_of_ble_eq_true rfl, Nat.le_of_ble_eq_true rfl⟩) (xpreVs hP hK (ci := 5) 0 rfl rfl) rfl rfl hl.1 rfl (lv_room (Nat.le_of_ble_eq_true rfl)) dX5_whisper_72 ⟨Nat.le_of_ble_eq_true rfl, Nat.le_of_ble_eq_true rfl⟩) hS (kAle hS.1) (fun u_51 H locs hu_51 hP _ _ hS => ?_)
            have hP : va_P D vwCl (rc cs b (wr u_6 0 0 (nI 3))) H := hP
            obtain ⟨M_52, hM_52⟩ : ∃ z, z = wr u_6 0 0 (nI 3) := ⟨_, rfl⟩
            rw [← hM_52] at hP
            have hk_53 : M_52 0 1 = nI n := by rw [hM_52]; exact (wr_ne (Or.inr (by decide))).trans hk_7
            have hk_54 : M_52 0 2 = nI act := by rw [hM_52]; exact (wr_ne (Or.inr (by decide))).trans hk_8
            have hk_55 : M_52 0 3 = nI nf := by rw [hM_52]; exact (wr_ne (Or.inr (by decide))).trans hk_9
            subst hQ
            refine W.widen (k := 1) (n := 24) (by decide) (by decide) ?_
            have hrel : (if isIn nf y = true then (if isGr g = true then whiF M n act g (semR M0 n kd p1 p2 sb ag (sg n - nI 1) y.toNatClampNeg) M_52 else M_52 = wr M 0 0 (nI 2)) else M_52 = wr M 0 0 (nI 1)) := by first | (rw [c10]; simp only [wr_wr, if_true, if_false, Bool.false_eq_true, Nat.one_ne_zero, hM_1, c10, c23, c42, c53, c67, hM_52]; done) | (rw [if_pos c10, c23]; simp only [wr_wr, if_true, if_false, Bool.false_eq_true, Nat.one_ne_zero, hM_1, c10, c23, c42, c53, c67, hM_52]; done) | (rw [if_pos c10, if_pos c23, ← hset]; exact ⟨fun _ => by simp only [fo_0, hM_1, c10, c23, c42, c53, c67, hM_52]; exact TQ_w hTQ, fun q => absurd (Or.inl c42) q⟩) | (rw [if_pos c10, if_pos c23, ← hset]; exact ⟨fun _ => by simp only [fo_0, hM_1, c10, c23, c42, c53, c67, hM_52]; exact TQ_w hTQ, fun q => absurd (Or.inr (Or.inl c53)) q⟩) | (rw [if_pos c10, if_pos c23, ← hset]; exact ⟨fun _ => by simp only [fo_0, hM_1, c10, c23, c42, c53, c67, hM_52]; exact TQ_w hTQ, fun q => absurd (Or.inr (Or.inr c67)) q⟩) | ((have hje : j = n := by omega); subst hje; rw [if_pos c10, if_pos c23, ← hset]; exact ⟨fun q => absurd q hnb, fun _ => ⟨_, Mj, hTQ, hCR, by simp only [fo_0, hM_1, c10, c23, c42, c53, c67, hM_52]⟩⟩)
            have hfin : (nI 0) = (if isIn nf y = true then (if isGr g = true then (if n = 0 ∨ bt (semR M0 n kd p1 p2 sb ag (sg n - nI 1) y.toNatClampNeg) act = false ∨ 24 < n + fb_ct (bt (semR M0 n kd p1 p2 sb ag (sg n - nI 1) y.toNatClampNeg)) 32 then nI 0 else nI (n + rk (semR M0 n kd p1 p2 sb ag (sg n - nI 1) y.toNatClampNeg) n)) else nI 0) else nI 0) := by first | (rw [c10]; simp only [wr_wr, if_true, if_false, Bool.false_eq_true, Nat.one_ne_zero, hM_1, c10, c23, c42, c53, c67, hM_52]; done) | (rw [if_pos c10, c23]; simp only [wr_wr, if_true, if_false, Bool.false_eq_true, Nat.one_ne_zero, hM_1, c10, c23, c42, c53, c67, hM_52]; done) | (rw [if_pos c10, if_pos c23, ← hset, if_pos (Or.inl c42)]; done) | (rw [if_pos c10, if_pos c23, ← hset, if_pos (Or.inr (Or.inl c53))]; done) | (rw [if_pos c10, if_pos c23, ← hset, if_pos (Or.inr (Or.inr c67))]; done) | (rw [if_pos c10, if_pos c23, ← hset, if_neg (show ¬ (n = 0 ∨ bt set act = false ∨ 24 < n + fb_ct (bt set) 32) from hnb)]; done)
            exact W.iret hx hb hr (fun t ht hW => ⟨⟨_, M_52, rfl, ⟨hfin, hrel⟩, by rw [← ht] at hP; exact hP⟩, hS.F ht⟩) hS.2.2 dX5_whisper_75
    ·
      replace c23 := bI_0 c23
      refine lv_aload_n hx hb dX5_whisper_26 rfl (lv_at hl 0 rfl) ?_
      refine lv_iconst (v := (nI 2)) hx hb dX5_whisper_27 (by decide) ?_
      refine xcallwi (va_runV (As := [.int (nI 2)]) (rest := []) ⟨hx, hb, hml, hown, hts⟩ (c_X5_no l D cs b M_1 _ hI (nI 2)) (cwV 1 hts gX5_whisper_X5_no rfl rfl rfl (by decide +kernel) ⟨Nat.le_of_ble_eq_true rfl, Nat.le_of_ble_eq_true rfl⟩) (xpreVs hP hK (ci := 5) 0 rfl rfl) rfl rfl hl.1 rfl (lv_room (Nat.le_of_ble_eq_true rfl)) dX5_whisper_28 ⟨Nat.le_of_ble_eq_true rfl, Nat.le_of_ble_eq_true rfl⟩) hS (kAle hS.1) (fun u_56 H locs hu_56 hP _ _ hS => ?_)
      have hP : va_P D vwCl (rc cs b (wr M_1 0 0 (nI 2))) H := hP
      obtain ⟨M_57, hM_57⟩ : ∃ z, z = wr M_1 0 0 (nI 2) := ⟨_, rfl⟩
      rw [← hM_57] at hP
      have hk_58 : M_57 0 1 = nI n := by rw [hM_57]; exact (wr_ne (Or.inr (by decide))).trans hk_2
      have hk_59 : M_57 0 2 = nI act := by rw [hM_57]; exact (wr_ne (Or.inr (by decide))).trans hk_3
      have hk_60 : M_57 0 3 = nI nf := by rw [hM_57]; exact (wr_ne (Or.inr (by decide))).trans hk_4
      subst hQ
      refine W.widen (k := 1) (n := 24) (by decide) (by decide) ?_
      have hrel : (if isIn nf y = true then (if isGr g = true then whiF M n act g (semR M0 n kd p1 p2 sb ag (sg n - nI 1) y.toNatClampNeg) M_57 else M_57 = wr M 0 0 (nI 2)) else M_57 = wr M 0 0 (nI 1)) := by first | (rw [c10]; simp only [wr_wr, if_true, if_false, Bool.false_eq_true, Nat.one_ne_zero, hM_1, c10, c23, hM_57]; done) | (rw [if_pos c10, c23]; simp only [wr_wr, if_true, if_false, Bool.false_eq_true, Nat.one_ne_zero, hM_1, c10, c23, hM_57]; done) | (rw [if_pos c10, if_pos c23, ← hset]; exact ⟨fun _ => by simp only [fo_0, hM_1, c10, c23, hM_57]; exact TQ_w hTQ, fun q => absurd (Or.inl c42) q⟩) | (rw [if_pos c10, if_pos c23, ← hset]; exact ⟨fun _ => by simp only [fo_0, hM_1, c10, c23, hM_57]; exact TQ_w hTQ, fun q => absurd (Or.inr (Or.inl c53)) q⟩) | (rw [if_pos c10, if_pos c23, ← hset]; exact ⟨fun _ => by simp only [fo_0, hM_1, c10, c23, hM_57]; exact TQ_w hTQ, fun q => absurd (Or.inr (Or.inr c67)) q⟩) | ((have hje : j = n := by omega); subst hje; rw [if_pos c10, if_pos c23, ← hset]; exact ⟨fun q => absurd q hnb, fun _ => ⟨_, Mj, hTQ, hCR, by simp only [fo_0, hM_1, c10, c23, hM_57]⟩⟩)
      have hfin : (nI 0) = (if isIn nf y = true then (if isGr g = true then (if n = 0 ∨ bt (semR M0 n kd p1 p2 sb ag (sg n - nI 1) y.toNatClampNeg) act = false ∨ 24 < n + fb_ct (bt (semR M0 n kd p1 p2 sb ag (sg n - nI 1) y.toNatClampNeg)) 32 then nI 0 else nI (n + rk (semR M0 n kd p1 p2 sb ag (sg n - nI 1) y.toNatClampNeg) n)) else nI 0) else nI 0) := by first | (rw [c10]; simp only [wr_wr, if_true, if_false, Bool.false_eq_true, Nat.one_ne_zero, hM_1, c10, c23, hM_57]; done) | (rw [if_pos c10, c23]; simp only [wr_wr, if_true, if_false, Bool.false_eq_true, Nat.one_ne_zero, hM_1, c10, c23, hM_57]; done) | (rw [if_pos c10, if_pos c23, ← hset, if_pos (Or.inl c42)]; done) | (rw [if_pos c10, if_pos c23, ← hset, if_pos (Or.inr (Or.inl c53))]; done) | (rw [if_pos c10, if_pos c23, ← hset, if_pos (Or.inr (Or.inr c67))]; done) | (rw [if_pos c10, if_pos c23, ← hset, if_neg (show ¬ (n = 0 ∨ bt set act = false ∨ 24 < n + fb_ct (bt set) 32) from hnb)]; done)
      exact W.iret hx hb hr (fun t ht hW => ⟨⟨_, M_57, rfl, ⟨hfin, hrel⟩, by rw [← ht] at hP; exact hP⟩, hS.F ht⟩) hS.2.2 dX5_whisper_31
  ·
    replace c10 := bI_0 c10
    refine lv_aload_n hx hb dX5_whisper_13 rfl (lv_at hl 0 rfl) ?_
    refine lv_iconst (v := (nI 1)) hx hb dX5_whisper_14 (by decide) ?_
    refine xcallwi (va_runV (As := [.int (nI 1)]) (rest := []) ⟨hx, hb, hml, hown, hts⟩ (c_X5_no l D cs b M_1 _ hI (nI 1)) (cwV 1 hts gX5_whisper_X5_no rfl rfl rfl (by decide +kernel) ⟨Nat.le_of_ble_eq_true rfl, Nat.le_of_ble_eq_true rfl⟩) (xpreVs hP hK (ci := 5) 0 rfl rfl) rfl rfl hl.1 rfl (lv_room (Nat.le_of_ble_eq_true rfl)) dX5_whisper_15 ⟨Nat.le_of_ble_eq_true rfl, Nat.le_of_ble_eq_true rfl⟩) hS (kAle hS.1) (fun u_61 H locs hu_61 hP _ _ hS => ?_)
    have hP : va_P D vwCl (rc cs b (wr M_1 0 0 (nI 1))) H := hP
    obtain ⟨M_62, hM_62⟩ : ∃ z, z = wr M_1 0 0 (nI 1) := ⟨_, rfl⟩
    rw [← hM_62] at hP
    have hk_63 : M_62 0 1 = nI n := by rw [hM_62]; exact (wr_ne (Or.inr (by decide))).trans hk_2
    have hk_64 : M_62 0 2 = nI act := by rw [hM_62]; exact (wr_ne (Or.inr (by decide))).trans hk_3
    have hk_65 : M_62 0 3 = nI nf := by rw [hM_62]; exact (wr_ne (Or.inr (by decide))).trans hk_4
    subst hQ
    refine W.widen (k := 1) (n := 24) (by decide) (by decide) ?_
    have hrel : (if isIn nf y = true then (if isGr g = true then whiF M n act g (semR M0 n kd p1 p2 sb ag (sg n - nI 1) y.toNatClampNeg) M_62 else M_62 = wr M 0 0 (nI 2)) else M_62 = wr M 0 0 (nI 1)) := by first | (rw [c10]; simp only [wr_wr, if_true, if_false, Bool.false_eq_true, Nat.one_ne_zero, hM_1, c10, hM_62]; done) | (rw [if_pos c10, c23]; simp only [wr_wr, if_true, if_false, Bool.false_eq_true, Nat.one_ne_zero, hM_1, c10, hM_62]; done) | (rw [if_pos c10, if_pos c23, ← hset]; exact ⟨fun _ => by simp only [fo_0, hM_1, c10, hM_62]; exact TQ_w hTQ, fun q => absurd (Or.inl c42) q⟩) | (rw [if_pos c10, if_pos c23, ← hset]; exact ⟨fun _ => by simp only [fo_0, hM_1, c10, hM_62]; exact TQ_w hTQ, fun q => absurd (Or.inr (Or.inl c53)) q⟩) | (rw [if_pos c10, if_pos c23, ← hset]; exact ⟨fun _ => by simp only [fo_0, hM_1, c10, hM_62]; exact TQ_w hTQ, fun q => absurd (Or.inr (Or.inr c67)) q⟩) | ((have hje : j = n := by omega); subst hje; rw [if_pos c10, if_pos c23, ← hset]; exact ⟨fun q => absurd q hnb, fun _ => ⟨_, Mj, hTQ, hCR, by simp only [fo_0, hM_1, c10, hM_62]⟩⟩)
    have hfin : (nI 0) = (if isIn nf y = true then (if isGr g = true then (if n = 0 ∨ bt (semR M0 n kd p1 p2 sb ag (sg n - nI 1) y.toNatClampNeg) act = false ∨ 24 < n + fb_ct (bt (semR M0 n kd p1 p2 sb ag (sg n - nI 1) y.toNatClampNeg)) 32 then nI 0 else nI (n + rk (semR M0 n kd p1 p2 sb ag (sg n - nI 1) y.toNatClampNeg) n)) else nI 0) else nI 0) := by first | (rw [c10]; simp only [wr_wr, if_true, if_false, Bool.false_eq_true, Nat.one_ne_zero, hM_1, c10, hM_62]; done) | (rw [if_pos c10, c23]; simp only [wr_wr, if_true, if_false, Bool.false_eq_true, Nat.one_ne_zero, hM_1, c10, hM_62]; done) | (rw [if_pos c10, if_pos c23, ← hset, if_pos (Or.inl c42)]; done) | (rw [if_pos c10, if_pos c23, ← hset, if_pos (Or.inr (Or.inl c53))]; done) | (rw [if_pos c10, if_pos c23, ← hset, if_pos (Or.inr (Or.inr c67))]; done) | (rw [if_pos c10, if_pos c23, ← hset, if_neg (show ¬ (n = 0 ∨ bt set act = false ∨ 24 < n + fb_ct (bt set) 32) from hnb)]; done)
    exact W.iret hx hb hr (fun t ht hW => ⟨⟨_, M_62, rfl, ⟨hfin, hrel⟩, by rw [← ht] at hP; exact hP⟩, hS.F ht⟩) hS.2.2 dX5_whisper_18

