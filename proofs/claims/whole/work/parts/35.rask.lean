theorem stepR_g {M M0 : Nat → Nat → Int32} {n : Nat} {g fm : Int32} (h : M 2 = M0 2) : stepR M n g fm = stepR M0 n g fm := by unfold stepR; rw [h]
theorem reachR_g {M M0 : Nat → Nat → Int32} {n : Nat} {g wi : Int32} {fr : Nat} (h : M 2 = M0 2) : reachR M n g fr wi = reachR M0 n g fr wi := by
  have e : ∀ x, stepR M n g x = stepR M0 n g x := fun x => stepR_g h
  unfold reachR reachY
  rw [e, fo_cong (fun i _ r => by rw [e])]
theorem everyR_g {M M0 : Nat → Nat → Int32} {n : Nat} {g : Int32} {fr : Nat} (h : M 2 = M0 2) : everyR M n g fr = everyR M0 n g fr := by unfold everyR; rw [h]
theorem askR_g {M M0 : Nat → Nat → Int32} {n : Nat} {kd ag : Nat → Nat} {f w : Nat} {mo : Int32} (h : M 2 = M0 2) (h4 : M 4 = M0 4) : askR M n kd ag f w mo = askR M0 n kd ag f w mo := by
  unfold askR
  rw [reachR_g h, everyR_g h, h, h4]
theorem semRV_g {M M0 : Nat → Nat → Int32} {n : Nat} {kd p1 p2 sb ag : Nat → Nat} (h1 : M 1 = M0 1) (h : M 2 = M0 2) (h4 : M 4 = M0 4) : ∀ (k f : Nat) (mo : Int32), semRV M n kd p1 p2 sb ag k mo f = semRV M0 n kd p1 p2 sb ag k mo f := by
  intro k
  induction k with
  | zero => intro f mo; rfl
  | succ k ih =>
    intro f mo
    show (if kd f = 0 then _ else _) = (if kd f = 0 then _ else _)
    have ea : ∀ w, askR M n kd ag f w mo = askR M0 n kd ag f w mo := fun w => askR_g h h4
    simp only [h1, ih, ea]
theorem semR_g {M M0 : Nat → Nat → Int32} {n : Nat} {kd p1 p2 sb ag : Nat → Nat} (h1 : M 1 = M0 1) (h : M 2 = M0 2) (h4 : M 4 = M0 4) (mo : Int32) (f : Nat) : semR M n kd p1 p2 sb ag mo f = semR M0 n kd p1 p2 sb ag mo f := semRV_g h1 h h4 _ _ _
theorem WFR_g {M M0 : Nat → Nat → Int32} {nf : Nat} {kd p1 p2 ns sb ag : Nat → Nat} (h3 : M 3 = M0 3) (h4 : M 4 = M0 4) (h5 : M 5 = M0 5) (hw : WFR M0 nf kd p1 p2 ns sb ag) : WFR M nf kd p1 p2 ns sb ag := by
  unfold WFR at hw ⊢
  rw [h3, h4, h5]; exact hw
/-- the scratch of asking apart, nothing has changed -/
def TQ (M u : Nat → Nat → Int32) : Prop := ∀ i x, (i < 8 ∨ i = 11) → u i x = M i x
/-- the rows of worlds and formulas are alike -/
def Rw (M M0 : Nat → Nat → Int32) : Prop := M 1 = M0 1 ∧ M 2 = M0 2 ∧ M 3 = M0 3 ∧ M 4 = M0 4 ∧ M 5 = M0 5
theorem Rw_r {M : Nat → Nat → Int32} : Rw M M := ⟨rfl, rfl, rfl, rfl, rfl⟩
theorem Rw_0 {M : Nat → Nat → Int32} {j : Nat} {v : Int32} : Rw (wr M 0 j v) M := ⟨rfl, rfl, rfl, rfl, rfl⟩
theorem Rw_t {M M0 u : Nat → Nat → Int32} (h : Rw M M0) (hu : TQ M u) : Rw u M0 :=
  ⟨(funext fun x => hu 1 x (by decide)).trans h.1, (funext fun x => hu 2 x (by decide)).trans h.2.1, (funext fun x => hu 3 x (by decide)).trans h.2.2.1, (funext fun x => hu 4 x (by decide)).trans h.2.2.2.1, (funext fun x => hu 5 x (by decide)).trans h.2.2.2.2⟩

set_option maxHeartbeats 4000000 in
set_option maxRecDepth 100000 in
theorem c_X5_trueAt (l : Launch) (D : va_G) (cs : Nat → ClassId) (b : Nat → Nat) (M : Nat → Nat → Int32) (sz : Nat) (hI : kI b 12)  (n : Nat) (nf : Nat) (kd : Nat → Nat) (p1 : Nat → Nat) (p2 : Nat → Nat) (ns : Nat → Nat) (sb : Nat → Nat) (ag : Nat → Nat) (M0 : Nat → Nat → Int32) (f : Nat) (hn : M 0 1 = nI n) (hn24 : n ≤ 24) (hfc : M 0 3 = nI nf) (hf40 : nf ≤ 40) (hrw : Rw M M0) (hwf : WFR M0 nf kd p1 p2 ns sb ag) (hf : f < nf) : Met l yX5_trueAt wsX5_trueAt ({ frames := 150, cells := 0, slots := 0, locals := 4400 } : Room) (va_Pc [.ref (b 0), .int (nI f)] (XBs D cs (rc cs b M) sz)) (va_Qi (fun r (u : Nat → Nat → Int32) => r = semR M0 n kd p1 p2 sb ag (sg n - nI 1) f ∧ TQ M u) (fun (u : Nat → Nat → Int32) t => va_P D vwCl (rc cs b u) t.heap) (kA b 12 sz)) 0 0 (kA b 12 sz) := by
  refine Met.ofW (cc := cX5_trueAt) (maxL := 2) (ret := (some .int)) (by decide) rfl ?_
  intro p e s m args below meth c s₁ B hml hv
  obtain ⟨rfl, hsz, hP, hK⟩ := hv
  have hx := B.exec
  have hb := B.bytes
  have hr := B.returns
  have hts := atoms_spec (ws := wsX5_trueAt) B.pre
  have hown : s.vm.findClass RX5 = some m.cls := findClass_of_methodNamed B.named
  have hlocks := B.notSynchronized
  have hK1 := hK.1
  have hinX5 : ∀ w ∈ wsX50, w ∈ wsX5_trueAt := fun w h => List.mem_cons_of_mem _ (List.mem_append_right _ h)
  subst hsz
  have hS : va_S (kA b 12 s.heap.size) s.heap s.heap [] := va_S.rf
  have hl := lv_entry ([.ref (b 0), .int (nI f)]) (n := 2) (Nat.le_of_ble_eq_true rfl)
  rw [lg_entry_eq]
  generalize (lg_sl ([.ref (b 0), .int (nI f)]) ++ List.replicate (2 - (lg_sl ([.ref (b 0), .int (nI f)])).length) Slot.unset).toArray = ls at hl ⊢
  have hl : lv_has ls 2 [(0, .ref (b 0)), (1, .int (nI f))] := hl
  refine W_Q (fun Q hQ => ?_)
  show W p l e ({ frames := 150, cells := 0, slots := 0, locals := 4400 } : Room) s m ([.ref (b 0), .int (nI f)] : List Value).toArray below meth c s.heap [] 0 0 Q (F0 m 0 ls [])
  refine lv_aload_n hx hb dX5_trueAt_0 rfl (lv_at hl 0 rfl) ?_
  refine lv_iconst (v := (nI 0)) hx hb dX5_trueAt_1 (by decide) ?_
  refine lv_aload_n hx hb dX5_trueAt_2 rfl (lv_at hl 0 rfl) ?_
  refine xcalli (va_runV (As := []) (rest := [.int (nI 0), .ref (b 0)]) ⟨hx, hb, hml, hown, hts⟩ (c_X5_all l D cs b M n hn) (cwV 0 hts gX5_trueAt_X5_all rfl rfl rfl (by decide +kernel) ⟨Nat.le_of_ble_eq_true rfl, Nat.le_of_ble_eq_true rfl⟩) (xpreV hP hK (ci := 5) 0 rfl rfl) rfl rfl hl.1 rfl (lv_room (Nat.le_of_ble_eq_true rfl)) dX5_trueAt_3 ⟨Nat.le_of_ble_eq_true rfl, Nat.le_of_ble_eq_true rfl⟩) hS hP (fun H locs hP hS => ?_)
  refine xcallwv (va_runV (As := [.int (nI 0), .int (sg n - nI 1)]) (rest := []) ⟨hx, hb, hml, hown, hts⟩ (c_X5_begin l D cs b M _ hI nf 0 (sg n - nI 1) (by decide) hfc (by omega)) (cwV 2 hts gX5_trueAt_X5_begin rfl rfl rfl (by decide +kernel) ⟨Nat.le_of_ble_eq_true rfl, Nat.le_of_ble_eq_true rfl⟩) (xpreVs hP hK (ci := 5) 0 rfl rfl) rfl rfl hl.1 rfl (lv_room (Nat.le_of_ble_eq_true rfl)) dX5_trueAt_6 ⟨Nat.le_of_ble_eq_true rfl, Nat.le_of_ble_eq_true rfl⟩) hS (kAle hS.1) (fun u_1 H locs hu_1 hP _ _ hS => ?_)
  have hP : va_P D vwCl (rc cs b (begC (wr M 8 0 (sg n - nI 1)) 0 nf)) H := hP
  obtain ⟨M_2, hM_2⟩ : ∃ z, z = begC (wr M 8 0 (sg n - nI 1)) 0 nf := ⟨_, rfl⟩
  rw [← hM_2] at hP
  have hk_3 : M_2 0 1 = nI n := by rw [hM_2]; exact (begC_o (by decide)).trans ((wr_ne (Or.inl (by decide))).trans hn)
  have hk_5 : M_2 0 3 = nI nf := by rw [hM_2]; exact (begC_o (by decide)).trans ((wr_ne (Or.inl (by decide))).trans hfc)
  refine lv_aload_n hx hb dX5_trueAt_9 rfl (lv_at hl 0 rfl) ?_
  refine lv_iconst (v := (nI 0)) hx hb dX5_trueAt_10 (by decide) ?_
  refine lv_iload_n hx hb dX5_trueAt_11 rfl (lv_at hl 1 rfl) ?_
  refine xcallwi (va_runV (As := [.int (nI 0), .int (nI f)]) (rest := []) ⟨hx, hb, hml, hown, hts⟩ (c_X5_truth_0 l D cs b hI n nf kd p1 p2 ns sb ag M hn hn24 (WFR_g hrw.2.2.1 hrw.2.2.2.1 hrw.2.2.2.2 hwf) hfc hf40 f M_2 _ 0 (sg n - nI 1) (by simp only [fo_0, hM_2]; exact fun i y hi => (begC_o (by omega)).trans (wr_ne (Or.inl (by omega)))) rfl hf (by have := (hwf.2 f hf).1.2.2; omega) (by simp only [fo_0, hM_2]; exact TI_b hf40)) (cwV 2 hts gX5_trueAt_X5_truth rfl rfl rfl (by decide +kernel) ⟨by dsimp only; omega, by dsimp only; omega⟩) (xpreVs hP hK (ci := 5) 0 rfl rfl) rfl rfl hl.1 rfl (lv_room (Nat.le_of_ble_eq_true rfl)) dX5_trueAt_12 ⟨Nat.le_of_ble_eq_true rfl, Nat.le_of_ble_eq_true rfl⟩) hS (kAle hS.1) (fun u_6 H locs hu_6 hP _ _ hS => ?_)
  have hP : va_P D vwCl (rc cs b u_6) H := hP
  subst hQ
  have hrel : TQ M u_6 := by intro i x hi; rw [hu_6.1 i x hi]; simp only [fo_0, hM_2]; exact (begC_o (by omega)).trans (wr_ne (Or.inl (by omega)))
  have hfin : (semR M n kd p1 p2 sb ag (sg n - nI 1) f) = semR M0 n kd p1 p2 sb ag (sg n - nI 1) f := by exact semR_g hrw.1 hrw.2.1 hrw.2.2.2.1 _ _
  exact W.iret hx hb hr (fun t ht hW => ⟨⟨_, u_6, rfl, ⟨hfin, hrel⟩, by rw [← ht] at hP; exact hP⟩, hS.F ht⟩) hS.2.2 dX5_trueAt_15

set_option maxHeartbeats 4000000 in
set_option maxRecDepth 100000 in
theorem c_X5_where (l : Launch) (D : va_G) (cs : Nat → ClassId) (b : Nat → Nat) (M : Nat → Nat → Int32) (sz : Nat) (hI : kI b 12)  (n : Nat) (nf : Nat) (kd : Nat → Nat) (p1 : Nat → Nat) (p2 : Nat → Nat) (ns : Nat → Nat) (sb : Nat → Nat) (ag : Nat → Nat) (M0 : Nat → Nat → Int32) (x : Int32) (hn : M 0 1 = nI n) (hn24 : n ≤ 24) (hfc : M 0 3 = nI nf) (hf40 : nf ≤ 40) (hrw : Rw M M0) (hwf : WFR M0 nf kd p1 p2 ns sb ag) : Met l yX5_where wsX5_where ({ frames := 152, cells := 0, slots := 0, locals := 4450 } : Room) (va_Pc [.ref (b 0), .int x] (XBs D cs (rc cs b M) sz)) (va_Qi (fun r (u : Nat → Nat → Int32) => r = (if isIn nf x = true then semR M0 n kd p1 p2 sb ag (sg n - nI 1) x.toNatClampNeg else nI 0) ∧ TQ (wr M 0 0 (if isIn nf x = true then nI 0 else nI 1)) u) (fun (u : Nat → Nat → Int32) t => va_P D vwCl (rc cs b u) t.heap) (kA b 12 sz)) 0 0 (kA b 12 sz) := by
  refine Met.ofW (cc := cX5_where) (maxL := 2) (ret := (some .int)) (by decide) rfl ?_
  intro p e s m args below meth c s₁ B hml hv
  obtain ⟨rfl, hsz, hP, hK⟩ := hv
  have hx := B.exec
  have hb := B.bytes
  have hr := B.returns
  have hts := atoms_spec (ws := wsX5_where) B.pre
  have hown : s.vm.findClass RX5 = some m.cls := findClass_of_methodNamed B.named
  have hlocks := B.notSynchronized
  have hK1 := hK.1
  have hinX5 : ∀ w ∈ wsX50, w ∈ wsX5_where := fun w h => List.mem_cons_of_mem _ (List.mem_append_right _ h)
  subst hsz
  have hS : va_S (kA b 12 s.heap.size) s.heap s.heap [] := va_S.rf
  have hl := lv_entry ([.ref (b 0), .int x]) (n := 2) (Nat.le_of_ble_eq_true rfl)
  rw [lg_entry_eq]
  generalize (lg_sl ([.ref (b 0), .int x]) ++ List.replicate (2 - (lg_sl ([.ref (b 0), .int x])).length) Slot.unset).toArray = ls at hl ⊢
  have hl : lv_has ls 2 [(0, .ref (b 0)), (1, .int x)] := hl
  refine W_Q (fun Q hQ => ?_)
  show W p l e ({ frames := 152, cells := 0, slots := 0, locals := 4450 } : Room) s m ([.ref (b 0), .int x] : List Value).toArray below meth c s.heap [] 0 0 Q (F0 m 0 ls [])
  refine lv_aload_n hx hb dX5_where_0 rfl (lv_at hl 0 rfl) ?_
  refine lv_iconst (v := (nI 0)) hx hb dX5_where_1 (by decide) ?_
  refine xput (D := D) (ci := 5) (v := .int (nI 0)) (ty := .int) (C := RX5) (T := TX5) (N := 15) (ws' := rc cs b (wr M 0 0 (nI 0))) hx hb hts hinX5 tyX5 tyX5_ok nmX5 hown hK1 hP (rD hI) hS 0 rfl rfl 0 (by decide) (hts (.fieldLink RX5 44 "KnowledgeModelModel" "thrown" "I") (List.mem_of_getElem? (i := 1) rfl)) (fun _ h9 => h9) rfl (by decide +kernel) rfl rfl (Nat.le_of_ble_eq_true rfl) rfl dX5_where_2 (fun H locs hP hS => ?_)
  obtain ⟨M_1, hM_1⟩ : ∃ z, z = wr M 0 0 (nI 0) := ⟨_, rfl⟩
  rw [← hM_1] at hP
  have hk_2 : M_1 0 1 = nI n := by rw [hM_1]; exact (wr_ne (Or.inr (by decide))).trans hn
  have hk_3 : M_1 0 3 = nI nf := by rw [hM_1]; exact (wr_ne (Or.inr (by decide))).trans hfc
  have hk_4 : M_1 0 0 = nI 0 := by rw [hM_1]; exact wr_same
  refine lv_aload_n hx hb dX5_where_5 rfl (lv_at hl 0 rfl) ?_
  refine lv_iload_n hx hb dX5_where_6 rfl (lv_at hl 1 rfl) ?_
  refine xcalli (va_runV (As := [.int x]) (rest := []) ⟨hx, hb, hml, hown, hts⟩ (c_X5_isFormula l D cs b M_1 nf x hk_3) (cwV 1 hts gX5_where_X5_isFormula rfl rfl rfl (by decide +kernel) ⟨Nat.le_of_ble_eq_true rfl, Nat.le_of_ble_eq_true rfl⟩) (xpreV hP hK (ci := 5) 0 rfl rfl) rfl rfl hl.1 rfl (lv_room (Nat.le_of_ble_eq_true rfl)) dX5_where_7 ⟨Nat.le_of_ble_eq_true rfl, Nat.le_of_ble_eq_true rfl⟩) hS hP (fun H locs hP hS => ?_)
  refine lv_if_eq (tgt := 21) hx hb dX5_where_10 (by decide) (fun c10 => ?_) (fun c10 => ?_)
  ·
    replace c10 := bI_0 c10
    refine lv_aload_n hx hb dX5_where_21 rfl (lv_at hl 0 rfl) ?_
    refine lv_iconst (v := (nI 1)) hx hb dX5_where_22 (by decide) ?_
    refine xcallwi (va_runV (As := [.int (nI 1)]) (rest := []) ⟨hx, hb, hml, hown, hts⟩ (c_X5_no l D cs b M_1 _ hI (nI 1)) (cwV 1 hts gX5_where_X5_no rfl rfl rfl (by decide +kernel) ⟨Nat.le_of_ble_eq_true rfl, Nat.le_of_ble_eq_true rfl⟩) (xpreVs hP hK (ci := 5) 0 rfl rfl) rfl rfl hl.1 rfl (lv_room (Nat.le_of_ble_eq_true rfl)) dX5_where_23 ⟨Nat.le_of_ble_eq_true rfl, Nat.le_of_ble_eq_true rfl⟩) hS (kAle hS.1) (fun u_5 H locs hu_5 hP _ _ hS => ?_)
    have hP : va_P D vwCl (rc cs b (wr M_1 0 0 (nI 1))) H := hP
    obtain ⟨M_6, hM_6⟩ : ∃ z, z = wr M_1 0 0 (nI 1) := ⟨_, rfl⟩
    rw [← hM_6] at hP
    have hk_7 : M_6 0 1 = nI n := by rw [hM_6]; exact (wr_ne (Or.inr (by decide))).trans hk_2
    have hk_9 : M_6 0 3 = nI nf := by rw [hM_6]; exact (wr_ne (Or.inr (by decide))).trans hk_3
    subst hQ
    have hrel : TQ (wr M 0 0 (if isIn nf x = true then nI 0 else nI 1)) M_6 := by first | (intro i x hi; simp only [wr_wr, if_true, if_false, Bool.false_eq_true, Nat.one_ne_zero, hM_1, c10, hM_6]; done) | (intro i x hi; rw [hu_5 i x hi]; simp only [wr_wr, if_true, if_false, Bool.false_eq_true, Nat.one_ne_zero, hM_1, c10, hM_6])
    have hfin : (nI 0) = (if isIn nf x = true then semR M0 n kd p1 p2 sb ag (sg n - nI 1) x.toNatClampNeg else nI 0) := by simp only [wr_wr, if_true, if_false, Bool.false_eq_true, Nat.one_ne_zero, hM_1, c10, hM_6]
    exact W.iret hx hb hr (fun t ht hW => ⟨⟨_, M_6, rfl, ⟨hfin, hrel⟩, by rw [← ht] at hP; exact hP⟩, hS.F ht⟩) hS.2.2 dX5_where_26
  ·
    replace c10 := bI_n0 c10
    obtain ⟨hlt_x, heq_x⟩ := isIn_eq (by omega) c10
    have hl : lv_has ls 2 [(0, .ref (b 0)), (1, .int (nI x.toNatClampNeg))] := (lcons (lcons (lzero hl) hl 1 rfl (congrArg Value.int heq_x)) hl 0 rfl rfl)
    refine lv_aload_n hx hb dX5_where_13 rfl (lv_at hl 0 rfl) ?_
    refine lv_iload_n hx hb dX5_where_14 rfl (lv_at hl 1 rfl) ?_
    refine xcallwi (va_runV (As := [.int (nI x.toNatClampNeg)]) (rest := []) ⟨hx, hb, hml, hown, hts⟩ (c_X5_trueAt l D cs b M_1 _ hI n nf kd p1 p2 ns sb ag M0 x.toNatClampNeg hk_2 (by omega) hk_3 hf40 (by simp only [fo_0, hM_1]; exact hrw) hwf hlt_x) (cwV 1 hts gX5_where_X5_trueAt rfl rfl rfl (by decide +kernel) ⟨Nat.le_of_ble_eq_true rfl, Nat.le_of_ble_eq_true rfl⟩) (xpreVs hP hK (ci := 5) 0 rfl rfl) rfl rfl hl.1 rfl (lv_room (Nat.le_of_ble_eq_true rfl)) dX5_where_15 ⟨Nat.le_of_ble_eq_true rfl, Nat.le_of_ble_eq_true rfl⟩) hS (kAle hS.1) (fun u_10 H locs hu_10 hP _ _ hS => ?_)
    have hP : va_P D vwCl (rc cs b u_10) H := hP
    have hk_11 : u_10 0 1 = nI n := by rw [hu_10 0 1 (by decide)]; exact hk_2
    have hk_13 : u_10 0 3 = nI nf := by rw [hu_10 0 3 (by decide)]; exact hk_3
    refine lv_goto (tgt := 26) hx hb dX5_where_18 (by decide) ?_
    subst hQ
    have hrel : TQ (wr M 0 0 (if isIn nf x = true then nI 0 else nI 1)) u_10 := by first | (intro i x hi; simp only [wr_wr, if_true, if_false, Bool.false_eq_true, Nat.one_ne_zero, hM_1, c10]; done) | (intro i x hi; rw [hu_10 i x hi]; simp only [wr_wr, if_true, if_false, Bool.false_eq_true, Nat.one_ne_zero, hM_1, c10])
    have hfin : (semR M0 n kd p1 p2 sb ag (sg n - nI 1) x.toNatClampNeg) = (if isIn nf x = true then semR M0 n kd p1 p2 sb ag (sg n - nI 1) x.toNatClampNeg else nI 0) := by simp only [wr_wr, if_true, if_false, Bool.false_eq_true, Nat.one_ne_zero, hM_1, c10]
    exact W.iret hx hb hr (fun t ht hW => ⟨⟨_, u_10, rfl, ⟨hfin, hrel⟩, by rw [← ht] at hP; exact hP⟩, hS.F ht⟩) hS.2.2 dX5_where_26

set_option maxHeartbeats 4000000 in
set_option maxRecDepth 100000 in
theorem c_X5_holds (l : Launch) (D : va_G) (cs : Nat → ClassId) (b : Nat → Nat) (M : Nat → Nat → Int32) (sz : Nat) (hI : kI b 12)  (n : Nat) (nf : Nat) (kd : Nat → Nat) (p1 : Nat → Nat) (p2 : Nat → Nat) (ns : Nat → Nat) (sb : Nat → Nat) (ag : Nat → Nat) (act : Nat) (M0 : Nat → Nat → Int32) (x : Int32) (hn : M 0 1 = nI n) (hn24 : n ≤ 24) (hfc : M 0 3 = nI nf) (hf40 : nf ≤ 40) (hrw : Rw M M0) (hwf : WFR M0 nf kd p1 p2 ns sb ag) (hact : M 0 2 = nI act) (ha24 : act < 24) : Met l yX5_holds wsX5_holds ({ frames := 152, cells := 0, slots := 0, locals := 4450 } : Room) (va_Pc [.ref (b 0), .int x] (XBs D cs (rc cs b M) sz)) (va_Qi (fun r (u : Nat → Nat → Int32) => r = bI (isIn nf x && !decide (n = 0) && bt (semR M0 n kd p1 p2 sb ag (sg n - nI 1) x.toNatClampNeg) act) ∧ TQ (wr M 0 0 (if isIn nf x = true then (if n = 0 then nI 2 else nI 0) else nI 1)) u) (fun (u : Nat → Nat → Int32) t => va_P D vwCl (rc cs b u) t.heap) (kA b 12 sz)) 0 0 (kA b 12 sz) := by
  refine Met.ofW (cc := cX5_holds) (maxL := 2) (ret := (some .boolean)) (by decide) rfl ?_
  intro p e s m args below meth c s₁ B hml hv
  obtain ⟨rfl, hsz, hP, hK⟩ := hv
  have hx := B.exec
  have hb := B.bytes
  have hr := B.returns
  have hts := atoms_spec (ws := wsX5_holds) B.pre
  have hown : s.vm.findClass RX5 = some m.cls := findClass_of_methodNamed B.named
  have hlocks := B.notSynchronized
  have hK1 := hK.1
  have hinX5 : ∀ w ∈ wsX50, w ∈ wsX5_holds := fun w h => List.mem_cons_of_mem _ (List.mem_append_right _ h)
  subst hsz
  have hS : va_S (kA b 12 s.heap.size) s.heap s.heap [] := va_S.rf
  have hl := lv_entry ([.ref (b 0), .int x]) (n := 2) (Nat.le_of_ble_eq_true rfl)
  rw [lg_entry_eq]
  generalize (lg_sl ([.ref (b 0), .int x]) ++ List.replicate (2 - (lg_sl ([.ref (b 0), .int x])).length) Slot.unset).toArray = ls at hl ⊢
  have hl : lv_has ls 2 [(0, .ref (b 0)), (1, .int x)] := hl
  refine W_Q (fun Q hQ => ?_)
  show W p l e ({ frames := 152, cells := 0, slots := 0, locals := 4450 } : Room) s m ([.ref (b 0), .int x] : List Value).toArray below meth c s.heap [] 0 0 Q (F0 m 0 ls [])
  refine lv_aload_n hx hb dX5_holds_0 rfl (lv_at hl 0 rfl) ?_
  refine lv_aload_n hx hb dX5_holds_1 rfl (lv_at hl 0 rfl) ?_
  refine lv_iload_n hx hb dX5_holds_2 rfl (lv_at hl 1 rfl) ?_
  refine xcalli (va_runV (As := [.int x]) (rest := [.ref (b 0)]) ⟨hx, hb, hml, hown, hts⟩ (c_X5_isFormula l D cs b M nf x hfc) (cwV 1 hts gX5_holds_X5_isFormula rfl rfl rfl (by decide +kernel) ⟨Nat.le_of_ble_eq_true rfl, Nat.le_of_ble_eq_true rfl⟩) (xpreV hP hK (ci := 5) 0 rfl rfl) rfl rfl hl.1 rfl (lv_room (Nat.le_of_ble_eq_true rfl)) dX5_holds_3 ⟨Nat.le_of_ble_eq_true rfl, Nat.le_of_ble_eq_true rfl⟩) hS hP (fun H locs hP hS => ?_)
  refine lv_if_ne (tgt := 13) hx hb dX5_holds_6 (by decide) (fun c6 => ?_) (fun c6 => ?_)
  ·
    replace c6 := bI_n0 c6
    refine lv_aload_n hx hb dX5_holds_13 rfl (lv_at hl 0 rfl) ?_
    refine va_get (D := D) (ci := 5) (v := .int (M 0 1)) (C := RX5) (T := TX5) (N := 15) hx hb hts hinX5 hown hK1 hP 0 rfl rfl 1 (by decide) (hts (.fieldLink RX5 48 "KnowledgeModelModel" "worlds" "I") (List.mem_of_getElem? (i := 1) rfl)) (fun _ h9 => h9) rfl dX5_holds_14 ?_
    refine xtop (y := nI n) (hn) ?_
    refine lv_if_ne (tgt := 24) hx hb dX5_holds_17 (by decide) (fun c17 => ?_) (fun c17 => ?_)
    ·
      replace c17 : ¬ n = 0 := k0_net c17 (by omega)
      refine lv_iconst (v := (nI 0)) hx hb dX5_holds_24 (by decide) ?_
      refine xput (D := D) (ci := 5) (v := .int (nI 0)) (ty := .int) (C := RX5) (T := TX5) (N := 15) (ws' := rc cs b (wr M 0 0 (nI 0))) hx hb hts hinX5 tyX5 tyX5_ok nmX5 hown hK1 hP (rD hI) hS 0 rfl rfl 0 (by decide) (hts (.fieldLink RX5 44 "KnowledgeModelModel" "thrown" "I") (List.mem_of_getElem? (i := 2) rfl)) (fun _ h9 => h9) rfl (by decide +kernel) rfl rfl (Nat.le_of_ble_eq_true rfl) rfl dX5_holds_25 (fun H locs hP hS => ?_)
      obtain ⟨M_1, hM_1⟩ : ∃ z, z = wr M 0 0 (nI 0) := ⟨_, rfl⟩
      rw [← hM_1] at hP
      have hk_2 : M_1 0 1 = nI n := by rw [hM_1]; exact (wr_ne (Or.inr (by decide))).trans hn
      have hk_3 : M_1 0 2 = nI act := by rw [hM_1]; exact (wr_ne (Or.inr (by decide))).trans hact
      have hk_4 : M_1 0 3 = nI nf := by rw [hM_1]; exact (wr_ne (Or.inr (by decide))).trans hfc
      have hk_5 : M_1 0 0 = nI 0 := by rw [hM_1]; exact wr_same
      refine lv_aload_n hx hb dX5_holds_28 rfl (lv_at hl 0 rfl) ?_
      refine va_get (D := D) (ci := 5) (v := .int (M_1 0 0)) (C := RX5) (T := TX5) (N := 15) hx hb hts hinX5 hown hK1 hP 0 rfl rfl 0 (by decide) (hts (.fieldLink RX5 44 "KnowledgeModelModel" "thrown" "I") (List.mem_of_getElem? (i := 2) rfl)) (fun _ h9 => h9) rfl dX5_holds_29 ?_
      refine xtop (y := nI 0) (hk_5) ?_
      refine lv_if_ne (tgt := 54) hx hb dX5_holds_32 (by decide) (fun c32 => ?_) (fun c32 => ?_)
      ·
        replace c32 : ¬ 0 = 0 := k0_net c32 (by omega)
        exfalso; omega
      ·
        replace c32 : 0 = 0 := k0_nef c32 (by omega)
        obtain ⟨hlt_x, heq_x⟩ := isIn_eq (by omega) c6
        have hl : lv_has ls 2 [(0, .ref (b 0)), (1, .int (nI x.toNatClampNeg))] := (lcons (lcons (lzero hl) hl 1 rfl (congrArg Value.int heq_x)) hl 0 rfl rfl)
        refine lv_aload_n hx hb dX5_holds_35 rfl (lv_at hl 0 rfl) ?_
        refine lv_iload_n hx hb dX5_holds_36 rfl (lv_at hl 1 rfl) ?_
        refine xcallwi (va_runV (As := [.int (nI x.toNatClampNeg)]) (rest := []) ⟨hx, hb, hml, hown, hts⟩ (c_X5_trueAt l D cs b M_1 _ hI n nf kd p1 p2 ns sb ag M0 x.toNatClampNeg hk_2 (by omega) hk_4 hf40 (by simp only [fo_0, hM_1]; exact hrw) hwf hlt_x) (cwV 1 hts gX5_holds_X5_trueAt rfl rfl rfl (by decide +kernel) ⟨Nat.le_of_ble_eq_true rfl, Nat.le_of_ble_eq_true rfl⟩) (xpreVs hP hK (ci := 5) 0 rfl rfl) rfl rfl hl.1 rfl (lv_room (Nat.le_of_ble_eq_true rfl)) dX5_holds_37 ⟨Nat.le_of_ble_eq_true rfl, Nat.le_of_ble_eq_true rfl⟩) hS (kAle hS.1) (fun u_6 H locs hu_6 hP _ _ hS => ?_)
        have hP : va_P D vwCl (rc cs b u_6) H := hP
        have hk_7 : u_6 0 1 = nI n := by rw [hu_6 0 1 (by decide)]; exact hk_2
        have hk_8 : u_6 0 2 = nI act := by rw [hu_6 0 2 (by decide)]; exact hk_3
        have hk_9 : u_6 0 3 = nI nf := by rw [hu_6 0 3 (by decide)]; exact hk_4
        refine lv_aload_n hx hb dX5_holds_40 rfl (lv_at hl 0 rfl) ?_
        refine va_get (D := D) (ci := 5) (v := .int (u_6 0 2)) (C := RX5) (T := TX5) (N := 15) hx hb hts hinX5 hown hK1 hP 0 rfl rfl 2 (by decide) (hts (.fieldLink RX5 62 "KnowledgeModelModel" "actual" "I") (List.mem_of_getElem? (i := 3) rfl)) (fun _ h9 => h9) rfl dX5_holds_41 ?_
        refine xtop (y := nI act) (hk_8) ?_
        refine xcalli (va_runS (As := [.int (semR M0 n kd p1 p2 sb ag (sg n - nI 1) x.toNatClampNeg), .int (nI act)]) (rest := []) ⟨hx, hb, hml, hown, hts⟩ (c_X5_has l (semR M0 n kd p1 p2 sb ag (sg n - nI 1) x.toNatClampNeg) act (by omega)) (va_cwS 2 hts gX5_holds_X5_has rfl rfl rfl (by decide +kernel) ⟨Nat.le_of_ble_eq_true rfl, Nat.le_of_ble_eq_true rfl⟩) xpreN rfl rfl hl.1 rfl (lv_room (Nat.le_of_ble_eq_true rfl)) dX5_holds_44 ⟨Nat.le_of_ble_eq_true rfl, Nat.le_of_ble_eq_true rfl⟩) hS hP (fun H locs hP hS => ?_)
        refine lv_if_eq (tgt := 54) hx hb dX5_holds_47 (by decide) (fun c47 => ?_) (fun c47 => ?_)
        ·
          replace c47 := bI_0 c47
          refine lv_iconst (v := (nI 0)) hx hb dX5_holds_54 (by decide) ?_
          subst hQ
          have hrel : TQ (wr M 0 0 (if isIn nf x = true then (if n = 0 then nI 2 else nI 0) else nI 1)) u_6 := by first | (intro i x hi; simp only [wr_wr, if_true, if_false, Bool.false_eq_true, Nat.one_ne_zero, c6, c17, hM_1, c32, c47]; done) | (intro i x hi; rw [hu_6 i x hi]; simp only [wr_wr, if_true, if_false, Bool.false_eq_true, Nat.one_ne_zero, c6, c17, hM_1, c32, c47])
          have hfin : (nI 0) = bI (isIn nf x && !decide (n = 0) && bt (semR M0 n kd p1 p2 sb ag (sg n - nI 1) x.toNatClampNeg) act) := by first | (rw [c6]; rfl) | (rw [c6, decide_eq_true c17]; rfl) | (rw [c6, decide_eq_false c17, c47]; rfl)
          exact W.zret (ty := .boolean) hx hb hr (by decide) (fun t ht hW => ⟨⟨_, u_6, rfl, ⟨hfin, hrel⟩, by rw [← ht] at hP; exact hP⟩, hS.F ht⟩) hS.2.2 dX5_holds_55
        ·
          replace c47 := bI_n0 c47
          refine lv_iconst (v := (nI 1)) hx hb dX5_holds_50 (by decide) ?_
          refine lv_goto (tgt := 55) hx hb dX5_holds_51 (by decide) ?_
          subst hQ
          have hrel : TQ (wr M 0 0 (if isIn nf x = true then (if n = 0 then nI 2 else nI 0) else nI 1)) u_6 := by first | (intro i x hi; simp only [wr_wr, if_true, if_false, Bool.false_eq_true, Nat.one_ne_zero, c6, c17, hM_1, c32, c47]; done) | (intro i x hi; rw [hu_6 i x hi]; simp only [wr_wr, if_true, if_false, Bool.false_eq_true, Nat.one_ne_zero, c6, c17, hM_1, c32, c47])
          have hfin : (nI 1) = bI (isIn nf x && !decide (n = 0) && bt (semR M0 n kd p1 p2 sb ag (sg n - nI 1) x.toNatClampNeg) act) := by first | (rw [c6]; rfl) | (rw [c6, decide_eq_true c17]; rfl) | (rw [c6, decide_eq_false c17, c47]; rfl)
          exact W.zret (ty := .boolean) hx hb hr (by decide) (fun t ht hW => ⟨⟨_, u_6, rfl, ⟨hfin, hrel⟩, by rw [← ht] at hP; exact hP⟩, hS.F ht⟩) hS.2.2 dX5_holds_55
    ·
      replace c17 : n = 0 := k0_nef c17 (by omega)
      refine lv_iconst (v := (nI 2)) hx hb dX5_holds_20 (by decide) ?_
      refine lv_goto (tgt := 25) hx hb dX5_holds_21 (by decide) ?_
      refine xput (D := D) (ci := 5) (v := .int (nI 2)) (ty := .int) (C := RX5) (T := TX5) (N := 15) (ws' := rc cs b (wr M 0 0 (nI 2))) hx hb hts hinX5 tyX5 tyX5_ok nmX5 hown hK1 hP (rD hI) hS 0 rfl rfl 0 (by decide) (hts (.fieldLink RX5 44 "KnowledgeModelModel" "thrown" "I") (List.mem_of_getElem? (i := 2) rfl)) (fun _ h9 => h9) rfl (by decide +kernel) rfl rfl (Nat.le_of_ble_eq_true rfl) rfl dX5_holds_25 (fun H locs hP hS => ?_)
      obtain ⟨M_10, hM_10⟩ : ∃ z, z = wr M 0 0 (nI 2) := ⟨_, rfl⟩
      rw [← hM_10] at hP
      have hk_11 : M_10 0 1 = nI n := by rw [hM_10]; exact (wr_ne (Or.inr (by decide))).trans hn
      have hk_12 : M_10 0 2 = nI act := by rw [hM_10]; exact (wr_ne (Or.inr (by decide))).trans hact
      have hk_13 : M_10 0 3 = nI nf := by rw [hM_10]; exact (wr_ne (Or.inr (by decide))).trans hfc
      have hk_14 : M_10 0 0 = nI 2 := by rw [hM_10]; exact wr_same
      refine lv_aload_n hx hb dX5_holds_28 rfl (lv_at hl 0 rfl) ?_
      refine va_get (D := D) (ci := 5) (v := .int (M_10 0 0)) (C := RX5) (T := TX5) (N := 15) hx hb hts hinX5 hown hK1 hP 0 rfl rfl 0 (by decide) (hts (.fieldLink RX5 44 "KnowledgeModelModel" "thrown" "I") (List.mem_of_getElem? (i := 2) rfl)) (fun _ h9 => h9) rfl dX5_holds_29 ?_
      refine xtop (y := nI 2) (hk_14) ?_
      refine lv_if_ne (tgt := 54) hx hb dX5_holds_32 (by decide) (fun c32 => ?_) (fun c32 => ?_)
      ·
        replace c32 : ¬ 2 = 0 := k0_net c32 (by omega)
        refine lv_iconst (v := (nI 0)) hx hb dX5_holds_54 (by decide) ?_
        subst hQ
        have hrel : TQ (wr M 0 0 (if isIn nf x = true then (if n = 0 then nI 2 else nI 0) else nI 1)) M_10 := by first | (intro i x hi; simp only [wr_wr, if_true, if_false, Bool.false_eq_true, Nat.one_ne_zero, c6, c17, hM_10, c32]; done) | (intro i x hi; rw [trivial i x hi]; simp only [wr_wr, if_true, if_false, Bool.false_eq_true, Nat.one_ne_zero, c6, c17, hM_10, c32])
        have hfin : (nI 0) = bI (isIn nf x && !decide (n = 0) && bt (semR M0 n kd p1 p2 sb ag (sg n - nI 1) x.toNatClampNeg) act) := by first | (rw [c6]; rfl) | (rw [c6, decide_eq_true c17]; rfl) | (rw [c6, decide_eq_false c17, c47]; rfl)
        exact W.zret (ty := .boolean) hx hb hr (by decide) (fun t ht hW => ⟨⟨_, M_10, rfl, ⟨hfin, hrel⟩, by rw [← ht] at hP; exact hP⟩, hS.F ht⟩) hS.2.2 dX5_holds_55
      ·
        replace c32 : 2 = 0 := k0_nef c32 (by omega)
        exfalso; omega
  ·
    replace c6 := bI_0 c6
    refine lv_iconst (v := (nI 1)) hx hb dX5_holds_9 (by decide) ?_
    refine lv_goto (tgt := 25) hx hb dX5_holds_10 (by decide) ?_
    refine xput (D := D) (ci := 5) (v := .int (nI 1)) (ty := .int) (C := RX5) (T := TX5) (N := 15) (ws' := rc cs b (wr M 0 0 (nI 1))) hx hb hts hinX5 tyX5 tyX5_ok nmX5 hown hK1 hP (rD hI) hS 0 rfl rfl 0 (by decide) (hts (.fieldLink RX5 44 "KnowledgeModelModel" "thrown" "I") (List.mem_of_getElem? (i := 2) rfl)) (fun _ h9 => h9) rfl (by decide +kernel) rfl rfl (Nat.le_of_ble_eq_true rfl) rfl dX5_holds_25 (fun H locs hP hS => ?_)
    obtain ⟨M_15, hM_15⟩ : ∃ z, z = wr M 0 0 (nI 1) := ⟨_, rfl⟩
    rw [← hM_15] at hP
    have hk_16 : M_15 0 1 = nI n := by rw [hM_15]; exact (wr_ne (Or.inr (by decide))).trans hn
    have hk_17 : M_15 0 2 = nI act := by rw [hM_15]; exact (wr_ne (Or.inr (by decide))).trans hact
    have hk_18 : M_15 0 3 = nI nf := by rw [hM_15]; exact (wr_ne (Or.inr (by decide))).trans hfc
    have hk_19 : M_15 0 0 = nI 1 := by rw [hM_15]; exact wr_same
    refine lv_aload_n hx hb dX5_holds_28 rfl (lv_at hl 0 rfl) ?_
    refine va_get (D := D) (ci := 5) (v := .int (M_15 0 0)) (C := RX5) (T := TX5) (N := 15) hx hb hts hinX5 hown hK1 hP 0 rfl rfl 0 (by decide) (hts (.fieldLink RX5 44 "KnowledgeModelModel" "thrown" "I") (List.mem_of_getElem? (i := 2) rfl)) (fun _ h9 => h9) rfl dX5_holds_29 ?_
    refine xtop (y := nI 1) (hk_19) ?_
    refine lv_if_ne (tgt := 54) hx hb dX5_holds_32 (by decide) (fun c32 => ?_) (fun c32 => ?_)
    ·
      replace c32 : ¬ 1 = 0 := k0_net c32 (by omega)
      refine lv_iconst (v := (nI 0)) hx hb dX5_holds_54 (by decide) ?_
      subst hQ
      have hrel : TQ (wr M 0 0 (if isIn nf x = true then (if n = 0 then nI 2 else nI 0) else nI 1)) M_15 := by first | (intro i x hi; simp only [wr_wr, if_true, if_false, Bool.false_eq_true, Nat.one_ne_zero, c6, hM_15, c32]; done) | (intro i x hi; rw [trivial i x hi]; simp only [wr_wr, if_true, if_false, Bool.false_eq_true, Nat.one_ne_zero, c6, hM_15, c32])
      have hfin : (nI 0) = bI (isIn nf x && !decide (n = 0) && bt (semR M0 n kd p1 p2 sb ag (sg n - nI 1) x.toNatClampNeg) act) := by first | (rw [c6]; rfl) | (rw [c6, decide_eq_true c17]; rfl) | (rw [c6, decide_eq_false c17, c47]; rfl)
      exact W.zret (ty := .boolean) hx hb hr (by decide) (fun t ht hW => ⟨⟨_, M_15, rfl, ⟨hfin, hrel⟩, by rw [← ht] at hP; exact hP⟩, hS.F ht⟩) hS.2.2 dX5_holds_55
    ·
      replace c32 : 1 = 0 := k0_nef c32 (by omega)
      exfalso; omega

set_option maxHeartbeats 4000000 in
set_option maxRecDepth 100000 in
theorem c_X5_reached (l : Launch) (D : va_G) (cs : Nat → ClassId) (b : Nat → Nat) (M : Nat → Nat → Int32) (sz : Nat) (hI : kI b 12)  (n : Nat) (g : Int32) (y : Int32) (hn : M 0 1 = nI n) (hn24 : n ≤ 24) : Met l yX5_reached wsX5_reached ({ frames := 4, cells := 0, slots := 0, locals := 90 } : Room) (va_Pc [.ref (b 0), .int g, .int y] (XBs D cs (rc cs b M) sz)) (va_Qi (fun r (u : Unit) => r = (if isGr g = true then (if isIn n y = true then reachR M n g y.toNatClampNeg (sg n - nI 1) else nI 0) else nI 0) ∧ True) (fun (u : Unit) t => va_P D vwCl (rc cs b (wr M 0 0 (if isGr g = true then (if isIn n y = true then nI 0 else nI 2) else nI 1))) t.heap) (kA b 12 sz)) 0 0 (kA b 12 sz) := by
  refine Met.ofW (cc := cX5_reached) (maxL := 3) (ret := (some .int)) (by decide) rfl ?_
  intro p e s m args below meth c s₁ B hml hv
  obtain ⟨rfl, hsz, hP, hK⟩ := hv
  have hx := B.exec
  have hb := B.bytes
  have hr := B.returns
  have hts := atoms_spec (ws := wsX5_reached) B.pre
  have hown : s.vm.findClass RX5 = some m.cls := findClass_of_methodNamed B.named
  have hlocks := B.notSynchronized
  have hK1 := hK.1
  have hinX5 : ∀ w ∈ wsX50, w ∈ wsX5_reached := fun w h => List.mem_cons_of_mem _ (List.mem_append_right _ h)
  subst hsz
  have hS : va_S (kA b 12 s.heap.size) s.heap s.heap [] := va_S.rf
  have hl := lv_entry ([.ref (b 0), .int g, .int y]) (n := 3) (Nat.le_of_ble_eq_true rfl)
  rw [lg_entry_eq]
  generalize (lg_sl ([.ref (b 0), .int g, .int y]) ++ List.replicate (3 - (lg_sl ([.ref (b 0), .int g, .int y])).length) Slot.unset).toArray = ls at hl ⊢
  have hl : lv_has ls 3 [(0, .ref (b 0)), (1, .int g), (2, .int y)] := hl
  refine W_Q (fun Q hQ => ?_)
  show W p l e ({ frames := 4, cells := 0, slots := 0, locals := 90 } : Room) s m ([.ref (b 0), .int g, .int y] : List Value).toArray below meth c s.heap [] 0 0 Q (F0 m 0 ls [])
  refine lv_aload_n hx hb dX5_reached_0 rfl (lv_at hl 0 rfl) ?_
  refine lv_iconst (v := (nI 0)) hx hb dX5_reached_1 (by decide) ?_
  refine xput (D := D) (ci := 5) (v := .int (nI 0)) (ty := .int) (C := RX5) (T := TX5) (N := 15) (ws' := rc cs b (wr M 0 0 (nI 0))) hx hb hts hinX5 tyX5 tyX5_ok nmX5 hown hK1 hP (rD hI) hS 0 rfl rfl 0 (by decide) (hts (.fieldLink RX5 44 "KnowledgeModelModel" "thrown" "I") (List.mem_of_getElem? (i := 1) rfl)) (fun _ h9 => h9) rfl (by decide +kernel) rfl rfl (Nat.le_of_ble_eq_true rfl) rfl dX5_reached_2 (fun H locs hP hS => ?_)
  obtain ⟨M_1, hM_1⟩ : ∃ z, z = wr M 0 0 (nI 0) := ⟨_, rfl⟩
  rw [← hM_1] at hP
  have hk_2 : M_1 0 1 = nI n := by rw [hM_1]; exact (wr_ne (Or.inr (by decide))).trans hn
  have hk_3 : M_1 0 0 = nI 0 := by rw [hM_1]; exact wr_same
  refine lv_iload_n hx hb dX5_reached_5 rfl (lv_at hl 1 rfl) ?_
  refine xcalli (va_runS (As := [.int g]) (rest := []) ⟨hx, hb, hml, hown, hts⟩ (c_X5_isGroup l g) (va_cwS 1 hts gX5_reached_X5_isGroup rfl rfl rfl (by decide +kernel) ⟨Nat.le_of_ble_eq_true rfl, Nat.le_of_ble_eq_true rfl⟩) xpreN rfl rfl hl.1 rfl (lv_room (Nat.le_of_ble_eq_true rfl)) dX5_reached_6 ⟨Nat.le_of_ble_eq_true rfl, Nat.le_of_ble_eq_true rfl⟩) hS hP (fun H locs hP hS => ?_)
  refine lv_if_ne (tgt := 18) hx hb dX5_reached_9 (by decide) (fun c9 => ?_) (fun c9 => ?_)
  ·
    replace c9 := bI_n0 c9
    refine lv_aload_n hx hb dX5_reached_18 rfl (lv_at hl 0 rfl) ?_
    refine lv_iload_n hx hb dX5_reached_19 rfl (lv_at hl 2 rfl) ?_
    refine xcalli (va_runV (As := [.int y]) (rest := []) ⟨hx, hb, hml, hown, hts⟩ (c_X5_isWorld l D cs b M_1 n y hk_2) (cwV 1 hts gX5_reached_X5_isWorld rfl rfl rfl (by decide +kernel) ⟨Nat.le_of_ble_eq_true rfl, Nat.le_of_ble_eq_true rfl⟩) (xpreV hP hK (ci := 5) 0 rfl rfl) rfl rfl hl.1 rfl (lv_room (Nat.le_of_ble_eq_true rfl)) dX5_reached_20 ⟨Nat.le_of_ble_eq_true rfl, Nat.le_of_ble_eq_true rfl⟩) hS hP (fun H locs hP hS => ?_)
    refine lv_if_eq (tgt := 39) hx hb dX5_reached_23 (by decide) (fun c23 => ?_) (fun c23 => ?_)
    ·
      replace c23 := bI_0 c23
      refine lv_aload_n hx hb dX5_reached_39 rfl (lv_at hl 0 rfl) ?_
      refine lv_iconst (v := (nI 2)) hx hb dX5_reached_40 (by decide) ?_
      refine xcallwi (va_runV (As := [.int (nI 2)]) (rest := []) ⟨hx, hb, hml, hown, hts⟩ (c_X5_no l D cs b M_1 _ hI (nI 2)) (cwV 1 hts gX5_reached_X5_no rfl rfl rfl (by decide +kernel) ⟨Nat.le_of_ble_eq_true rfl, Nat.le_of_ble_eq_true rfl⟩) (xpreVs hP hK (ci := 5) 0 rfl rfl) rfl rfl hl.1 rfl (lv_room (Nat.le_of_ble_eq_true rfl)) dX5_reached_41 ⟨Nat.le_of_ble_eq_true rfl, Nat.le_of_ble_eq_true rfl⟩) hS (kAle hS.1) (fun u_4 H locs hu_4 hP _ _ hS => ?_)
      have hP : va_P D vwCl (rc cs b (wr M_1 0 0 (nI 2))) H := hP
      obtain ⟨M_5, hM_5⟩ : ∃ z, z = wr M_1 0 0 (nI 2) := ⟨_, rfl⟩
      rw [← hM_5] at hP
      have hk_6 : M_5 0 1 = nI n := by rw [hM_5]; exact (wr_ne (Or.inr (by decide))).trans hk_2
      subst hQ
      have hMfin : M_5 = wr M 0 0 (if isGr g = true then (if isIn n y = true then nI 0 else nI 2) else nI 1) := by simp only [wr_wr, if_true, if_false, Bool.false_eq_true, Nat.one_ne_zero, hM_1, c9, c23, hM_5]
      rw [hMfin] at hP
      have hrel : True := by trivial
      have hfin : (nI 0) = (if isGr g = true then (if isIn n y = true then reachR M n g y.toNatClampNeg (sg n - nI 1) else nI 0) else nI 0) := by first | (rw [if_pos c9, if_pos c23]; done) | (rw [if_pos c9, c23]; rfl)
      exact W.iret hx hb hr (fun t ht hW => ⟨⟨_, (), rfl, ⟨hfin, hrel⟩, by rw [← ht] at hP; exact hP⟩, hS.F ht⟩) hS.2.2 dX5_reached_44
    ·
      replace c23 := bI_n0 c23
      obtain ⟨hlt_y, heq_y⟩ := isIn_eq (by omega) c23
      have hl : lv_has ls 3 [(0, .ref (b 0)), (1, .int g), (2, .int (nI y.toNatClampNeg))] := (lcons (lcons (lcons (lzero hl) hl 2 rfl (congrArg Value.int heq_y)) hl 1 rfl rfl) hl 0 rfl rfl)
      refine lv_aload_n hx hb dX5_reached_26 rfl (lv_at hl 0 rfl) ?_
      refine lv_iload_n hx hb dX5_reached_27 rfl (lv_at hl 1 rfl) ?_
      refine lv_iload_n hx hb dX5_reached_28 rfl (lv_at hl 2 rfl) ?_
      refine lv_aload_n hx hb dX5_reached_29 rfl (lv_at hl 0 rfl) ?_
      refine xcalli (va_runV (As := []) (rest := [.int (nI y.toNatClampNeg), .int g, .ref (b 0)]) ⟨hx, hb, hml, hown, hts⟩ (c_X5_all l D cs b M_1 n hk_2) (cwV 0 hts gX5_reached_X5_all rfl rfl rfl (by decide +kernel) ⟨Nat.le_of_ble_eq_true rfl, Nat.le_of_ble_eq_true rfl⟩) (xpreV hP hK (ci := 5) 0 rfl rfl) rfl rfl hl.1 rfl (lv_room (Nat.le_of_ble_eq_true rfl)) dX5_reached_30 ⟨Nat.le_of_ble_eq_true rfl, Nat.le_of_ble_eq_true rfl⟩) hS hP (fun H locs hP hS => ?_)
      refine xcalli (va_runV (As := [.int g, .int (nI y.toNatClampNeg), .int (sg n - nI 1)]) (rest := []) ⟨hx, hb, hml, hown, hts⟩ (c_X5_reach l D cs b M_1 n g y.toNatClampNeg (sg n - nI 1) hk_2 (by omega)) (cwV 3 hts gX5_reached_X5_reach rfl rfl rfl (by decide +kernel) ⟨Nat.le_of_ble_eq_true rfl, Nat.le_of_ble_eq_true rfl⟩) (xpreV hP hK (ci := 5) 0 rfl rfl) rfl rfl hl.1 rfl (lv_room (Nat.le_of_ble_eq_true rfl)) dX5_reached_33 ⟨Nat.le_of_ble_eq_true rfl, Nat.le_of_ble_eq_true rfl⟩) hS hP (fun H locs hP hS => ?_)
      refine xtop (y := (reachR M n g y.toNatClampNeg (sg n - nI 1))) (by exact reachR_g (by simp only [fo_0, hM_1]; rfl)) ?_
      refine lv_goto (tgt := 44) hx hb dX5_reached_36 (by decide) ?_
      subst hQ
      have hMfin : M_1 = wr M 0 0 (if isGr g = true then (if isIn n y = true then nI 0 else nI 2) else nI 1) := by simp only [wr_wr, if_true, if_false, Bool.false_eq_true, Nat.one_ne_zero, hM_1, c9, c23]
      rw [hMfin] at hP
      have hrel : True := by trivial
      have hfin : (reachR M n g y.toNatClampNeg (sg n - nI 1)) = (if isGr g = true then (if isIn n y = true then reachR M n g y.toNatClampNeg (sg n - nI 1) else nI 0) else nI 0) := by first | (rw [if_pos c9, if_pos c23]; done) | (rw [if_pos c9, c23]; rfl)
      exact W.iret hx hb hr (fun t ht hW => ⟨⟨_, (), rfl, ⟨hfin, hrel⟩, by rw [← ht] at hP; exact hP⟩, hS.F ht⟩) hS.2.2 dX5_reached_44
  ·
    replace c9 := bI_0 c9
    refine lv_aload_n hx hb dX5_reached_12 rfl (lv_at hl 0 rfl) ?_
    refine lv_iconst (v := (nI 1)) hx hb dX5_reached_13 (by decide) ?_
    refine xcallwi (va_runV (As := [.int (nI 1)]) (rest := []) ⟨hx, hb, hml, hown, hts⟩ (c_X5_no l D cs b M_1 _ hI (nI 1)) (cwV 1 hts gX5_reached_X5_no rfl rfl rfl (by decide +kernel) ⟨Nat.le_of_ble_eq_true rfl, Nat.le_of_ble_eq_true rfl⟩) (xpreVs hP hK (ci := 5) 0 rfl rfl) rfl rfl hl.1 rfl (lv_room (Nat.le_of_ble_eq_true rfl)) dX5_reached_14 ⟨Nat.le_of_ble_eq_true rfl, Nat.le_of_ble_eq_true rfl⟩) hS (kAle hS.1) (fun u_9 H locs hu_9 hP _ _ hS => ?_)
    have hP : va_P D vwCl (rc cs b (wr M_1 0 0 (nI 1))) H := hP
    obtain ⟨M_10, hM_10⟩ : ∃ z, z = wr M_1 0 0 (nI 1) := ⟨_, rfl⟩
    rw [← hM_10] at hP
    have hk_11 : M_10 0 1 = nI n := by rw [hM_10]; exact (wr_ne (Or.inr (by decide))).trans hk_2
    subst hQ
    have hMfin : M_10 = wr M 0 0 (if isGr g = true then (if isIn n y = true then nI 0 else nI 2) else nI 1) := by simp only [wr_wr, if_true, if_false, Bool.false_eq_true, Nat.one_ne_zero, hM_1, c9, hM_10]
    rw [hMfin] at hP
    have hrel : True := by trivial
    have hfin : (nI 0) = (if isGr g = true then (if isIn n y = true then reachR M n g y.toNatClampNeg (sg n - nI 1) else nI 0) else nI 0) := by simp only [wr_wr, if_true, if_false, Bool.false_eq_true, Nat.one_ne_zero, hM_1, c9, hM_10]
    exact W.iret hx hb hr (fun t ht hW => ⟨⟨_, (), rfl, ⟨hfin, hrel⟩, by rw [← ht] at hP; exact hP⟩, hS.F ht⟩) hS.2.2 dX5_reached_17

def goneR (set : Int32) (w : Nat) (x : Int32) : Int32 := x &&& (if bt set w = true then set ^^^ (-1) else set)
def telC (M : Nat → Nat → Int32) (g set : Int32) (n q j : Nat) : Nat → Nat → Int32 := fun i x => if (i = 2 ∧ bt g (x / 24) = true) ∧ (x / 24 < q ∧ x % 24 < n ∨ x / 24 = q ∧ x % 24 < j) then M i x &&& (goneR set (x % 24) (M i x) ^^^ (-1)) else M i x
theorem telC_o {M : Nat → Nat → Int32} {g set : Int32} {n q j i x : Nat} (h : i ≠ 2) : telC M g set n q j i x = M i x := if_neg (fun f => h f.1.1)
theorem telC_at {M : Nat → Nat → Int32} {g set : Int32} {n q j : Nat} (hj : j < 24) : telC M g set n q j 2 (24 * q + j) = M 2 (24 * q + j) := if_neg (by omega)
def telI (M : Nat → Nat → Int32) (set : Int32) (q : Nat) (r : Int32) (j : Nat) : Int32 := fo (fun w r => r + bc (goneR set w (M 2 (24 * q + w)))) r j
def telN (M : Nat → Nat → Int32) (g set : Int32) (n q : Nat) : Int32 := fo (fun q r => if bt g q then telI M set q r n else r) (nI 0) q
theorem telC_s {M : Nat → Nat → Int32} {g set : Int32} {n q j : Nat} (hb : bt g q = true) (hj : j < 24) : wr (telC M g set n q j) 2 (24 * q + j) (M 2 (24 * q + j) &&& (goneR set j (M 2 (24 * q + j)) ^^^ (-1))) = telC M g set n q (j + 1) := by
  funext i x
  rw [wr_eq]
  by_cases h : i = 2 ∧ x = 24 * q + j
  · obtain ⟨rfl, rfl⟩ := h
    rw [if_pos ⟨rfl, rfl⟩]
    unfold telC
    have e1 : (24 * q + j) / 24 = q := by omega
    have e2 : (24 * q + j) % 24 = j := by omega
    rw [e1, e2, if_pos ⟨⟨rfl, hb⟩, Or.inr ⟨rfl, by omega⟩⟩]
  · rw [if_neg h]
    unfold telC
    by_cases h2 : i = 2
    · have : (x / 24 < q ∧ x % 24 < n ∨ x / 24 = q ∧ x % 24 < j) ↔ (x / 24 < q ∧ x % 24 < n ∨ x / 24 = q ∧ x % 24 < j + 1) := by omega
      simp only [this]
    · rw [if_neg (fun f => h2 f.1.1), if_neg (fun f => h2 f.1.1)]
theorem telC_e {M : Nat → Nat → Int32} {g set : Int32} {n q : Nat} : telC M g set n q n = telC M g set n (q + 1) 0 := by
  funext i x
  unfold telC
  have : (x / 24 < q ∧ x % 24 < n ∨ x / 24 = q ∧ x % 24 < n) ↔ (x / 24 < q + 1 ∧ x % 24 < n ∨ x / 24 = q + 1 ∧ x % 24 < 0) := by omega
  simp only [this]
theorem telC_k {M : Nat → Nat → Int32} {g set : Int32} {n q : Nat} (hb : bt g q = false) : telC M g set n q 0 = telC M g set n (q + 1) 0 := by
  funext i x
  unfold telC
  by_cases h : x / 24 = q
  · rw [if_neg (by omega), if_neg]
    rintro ⟨⟨_, h3⟩, _⟩
    rw [h, hb] at h3; cases h3
  · have : (x / 24 < q ∧ x % 24 < n ∨ x / 24 = q ∧ x % 24 < 0) ↔ (x / 24 < q + 1 ∧ x % 24 < n ∨ x / 24 = q + 1 ∧ x % 24 < 0) := by omega
    simp only [this]

set_option maxHeartbeats 4000000 in
set_option maxRecDepth 100000 in
theorem c_X5_tell (l : Launch) (D : va_G) (cs : Nat → ClassId) (b : Nat → Nat) (M : Nat → Nat → Int32) (sz : Nat) (hI : kI b 12)  (n : Nat) (nf : Nat) (kd : Nat → Nat) (p1 : Nat → Nat) (p2 : Nat → Nat) (ns : Nat → Nat) (sb : Nat → Nat) (ag : Nat → Nat) (M0 : Nat → Nat → Int32) (g : Int32) (y : Int32) (hn : M 0 1 = nI n) (hn24 : n ≤ 24) (hfc : M 0 3 = nI nf) (hf40 : nf ≤ 40) (hrw : Rw M M0) (hwf : WFR M0 nf kd p1 p2 ns sb ag) : Met l yX5_tell wsX5_tell ({ frames := 152, cells := 0, slots := 0, locals := 4450 } : Room) (va_Pc [.ref (b 0), .int g, .int y] (XBs D cs (rc cs b M) sz)) (va_Qi (fun r (u : Nat → Nat → Int32) => r = (if isIn nf y = true then (if isGr g = true then telN M g (semR M0 n kd p1 p2 sb ag (sg n - nI 1) y.toNatClampNeg) n 4 else nI 0) else nI 0) ∧ (if isIn nf y = true then (if isGr g = true then (∃ v, TQ (wr M 0 0 (nI 0)) v ∧ u = telC v g (semR M0 n kd p1 p2 sb ag (sg n - nI 1) y.toNatClampNeg) n 4 0) else u = wr M 0 0 (nI 2)) else u = wr M 0 0 (nI 1))) (fun (u : Nat → Nat → Int32) t => va_P D vwCl (rc cs b u) t.heap) (kA b 12 sz)) 0 0 (kA b 12 sz) := by
  refine Met.ofW (cc := cX5_tell) (maxL := 8) (ret := (some .int)) (by decide) rfl ?_
  intro p e s m args below meth c s₁ B hml hv
  obtain ⟨rfl, hsz, hP, hK⟩ := hv
  have hx := B.exec
  have hb := B.bytes
  have hr := B.returns
  have hts := atoms_spec (ws := wsX5_tell) B.pre
  have hown : s.vm.findClass RX5 = some m.cls := findClass_of_methodNamed B.named
  have hlocks := B.notSynchronized
  have hK1 := hK.1
  have hinX5 : ∀ w ∈ wsX50, w ∈ wsX5_tell := fun w h => List.mem_cons_of_mem _ (List.mem_append_right _ h)
  subst hsz
  have hS : va_S (kA b 12 s.heap.size) s.heap s.heap [] := va_S.rf
  have hl := lv_entry ([.ref (b 0), .int g, .int y]) (n := 8) (Nat.le_of_ble_eq_true rfl)
  rw [lg_entry_eq]
  generalize (lg_sl ([.ref (b 0), .int g, .int y]) ++ List.replicate (8 - (lg_sl ([.ref (b 0), .int g, .int y])).length) Slot.unset).toArray = ls at hl ⊢
  have hl : lv_has ls 8 [(0, .ref (b 0)), (1, .int g), (2, .int y)] := hl
  refine W_Q (fun Q hQ => ?_)
  show W p l e ({ frames := 152, cells := 0, slots := 0, locals := 4450 } : Room) s m ([.ref (b 0), .int g, .int y] : List Value).toArray below meth c s.heap [] 0 0 Q (F0 m 0 ls [])
  refine lv_aload_n hx hb dX5_tell_0 rfl (lv_at hl 0 rfl) ?_
  refine lv_iconst (v := (nI 0)) hx hb dX5_tell_1 (by decide) ?_
  refine xput (D := D) (ci := 5) (v := .int (nI 0)) (ty := .int) (C := RX5) (T := TX5) (N := 15) (ws' := rc cs b (wr M 0 0 (nI 0))) hx hb hts hinX5 tyX5 tyX5_ok nmX5 hown hK1 hP (rD hI) hS 0 rfl rfl 0 (by decide) (hts (.fieldLink RX5 44 "KnowledgeModelModel" "thrown" "I") (List.mem_of_getElem? (i := 1) rfl)) (fun _ h9 => h9) rfl (by decide +kernel) rfl rfl (Nat.le_of_ble_eq_true rfl) rfl dX5_tell_2 (fun H locs hP hS => ?_)
  obtain ⟨M_1, hM_1⟩ : ∃ z, z = wr M 0 0 (nI 0) := ⟨_, rfl⟩
  rw [← hM_1] at hP
  have hk_2 : M_1 0 1 = nI n := by rw [hM_1]; exact (wr_ne (Or.inr (by decide))).trans hn
  have hk_3 : M_1 0 3 = nI nf := by rw [hM_1]; exact (wr_ne (Or.inr (by decide))).trans hfc
  have hk_4 : M_1 0 0 = nI 0 := by rw [hM_1]; exact wr_same
  refine lv_aload_n hx hb dX5_tell_5 rfl (lv_at hl 0 rfl) ?_
  refine lv_iload_n hx hb dX5_tell_6 rfl (lv_at hl 2 rfl) ?_
  refine xcalli (va_runV (As := [.int y]) (rest := []) ⟨hx, hb, hml, hown, hts⟩ (c_X5_isFormula l D cs b M_1 nf y hk_3) (cwV 1 hts gX5_tell_X5_isFormula rfl rfl rfl (by decide +kernel) ⟨Nat.le_of_ble_eq_true rfl, Nat.le_of_ble_eq_true rfl⟩) (xpreV hP hK (ci := 5) 0 rfl rfl) rfl rfl hl.1 rfl (lv_room (Nat.le_of_ble_eq_true rfl)) dX5_tell_7 ⟨Nat.le_of_ble_eq_true rfl, Nat.le_of_ble_eq_true rfl⟩) hS hP (fun H locs hP hS => ?_)
  refine lv_if_ne (tgt := 19) hx hb dX5_tell_10 (by decide) (fun c10 => ?_) (fun c10 => ?_)
  ·
    replace c10 := bI_n0 c10
    refine lv_iload_n hx hb dX5_tell_19 rfl (lv_at hl 1 rfl) ?_
    refine xcalli (va_runS (As := [.int g]) (rest := []) ⟨hx, hb, hml, hown, hts⟩ (c_X5_isGroup l g) (va_cwS 1 hts gX5_tell_X5_isGroup rfl rfl rfl (by decide +kernel) ⟨Nat.le_of_ble_eq_true rfl, Nat.le_of_ble_eq_true rfl⟩) xpreN rfl rfl hl.1 rfl (lv_room (Nat.le_of_ble_eq_true rfl)) dX5_tell_20 ⟨Nat.le_of_ble_eq_true rfl, Nat.le_of_ble_eq_true rfl⟩) hS hP (fun H locs hP hS => ?_)
    refine lv_if_ne (tgt := 32) hx hb dX5_tell_23 (by decide) (fun c23 => ?_) (fun c23 => ?_)
    ·
      replace c23 := bI_n0 c23
      obtain ⟨hlt_y, heq_y⟩ := isIn_eq (by omega) c10
      have hl : lv_has ls 8 [(0, .ref (b 0)), (1, .int g), (2, .int (nI y.toNatClampNeg))] := (lcons (lcons (lcons (lzero hl) hl 2 rfl (congrArg Value.int heq_y)) hl 1 rfl rfl) hl 0 rfl rfl)
      refine lv_aload_n hx hb dX5_tell_32 rfl (lv_at hl 0 rfl) ?_
      refine lv_iload_n hx hb dX5_tell_33 rfl (lv_at hl 2 rfl) ?_
      refine xcallwi (va_runV (As := [.int (nI y.toNatClampNeg)]) (rest := []) ⟨hx, hb, hml, hown, hts⟩ (c_X5_trueAt l D cs b M_1 _ hI n nf kd p1 p2 ns sb ag M0 y.toNatClampNeg hk_2 (by omega) hk_3 hf40 (by simp only [fo_0, hM_1]; exact hrw) hwf hlt_y) (cwV 1 hts gX5_tell_X5_trueAt rfl rfl rfl (by decide +kernel) ⟨Nat.le_of_ble_eq_true rfl, Nat.le_of_ble_eq_true rfl⟩) (xpreVs hP hK (ci := 5) 0 rfl rfl) rfl rfl hl.1 rfl (lv_room (Nat.le_of_ble_eq_true rfl)) dX5_tell_34 ⟨Nat.le_of_ble_eq_true rfl, Nat.le_of_ble_eq_true rfl⟩) hS (kAle hS.1) (fun u_5 H locs hu_5 hP _ _ hS => ?_)
      have hP : va_P D vwCl (rc cs b u_5) H := hP
      have hk_6 : u_5 0 1 = nI n := by rw [hu_5 0 1 (by decide)]; exact hk_2
      have hk_8 : u_5 0 3 = nI nf := by rw [hu_5 0 3 (by decide)]; exact hk_3
      obtain ⟨set, hset⟩ : ∃ z, z = semR M0 n kd p1 p2 sb ag (sg n - nI 1) y.toNatClampNeg := ⟨_, rfl⟩
      refine xtop (y := set) hset.symm ?_
      have hu2 : u_5 2 = M 2 := (Rw_t Rw_0 (by have h9 := hu_5; simp only [fo_0, hM_1] at h9; exact h9)).2.1
      have hgo : ∀ x, u_5 2 x = M 2 x := fun x => congrFun hu2 x
      have hTQ : TQ (wr M 0 0 (nI 0)) u_5 := by have h9 := hu_5; simp only [fo_0, hM_1] at h9; exact h9
      refine lv_istore_n (lv' := [(3, .int set), (0, .ref (b 0)), (1, .int g), (2, .int (nI y.toNatClampNeg))]) hx hb dX5_tell_37 rfl hl (by decide) rfl (fun ls hl => ?_)
      refine lv_iconst (v := (nI 0)) hx hb dX5_tell_38 (by decide) ?_
      refine lv_istore (lv' := [(4, .int (nI 0)), (3, .int set), (0, .ref (b 0)), (1, .int g), (2, .int (nI y.toNatClampNeg))]) hx hb dX5_tell_39 hl (by decide) rfl (fun ls hl => ?_)
      refine lv_iconst (v := (nI 0)) hx hb dX5_tell_41 (by decide) ?_
      refine lv_istore (lv' := [(5, .int (nI 0)), (4, .int (nI 0)), (3, .int set), (0, .ref (b 0)), (1, .int g), (2, .int (nI y.toNatClampNeg))]) hx hb dX5_tell_42 hl (by decide) rfl (fun ls hl => ?_)
      have cut44 : ∀ (f44 : Nat) (q : Nat) (hq : q ≤ 4), 4 + 1 ≤ q + f44 → ∀ (H : Heap) (locs : List Loc), va_P D vwCl (rc cs b (telC u_5 g set n q 0)) H → va_S (kA b 12 s.heap.size) s.heap H locs → ∀ (ls : Array Slot), lv_has ls 8 [(0, .ref (b 0)), (1, .int g), (2, .int (nI y.toNatClampNeg)), (3, .int set), (4, .int (telN M g set n q)), (5, .int (nI q))] → W p l e ({ frames := 152, cells := 0, slots := 0, locals := 4450 } : Room) s m ([.ref (b 0), .int g, .int y] : List Value).toArray below meth c H locs 0 0 Q (F0 m 44 ls []) := by
        intro f44
        induction f44 with
        | zero => intro q hq hfu44; exact absurd hfu44 (by omega)
        | succ f44 cut44 =>
          intro q hq hfu44 H locs hP hS ls hl
          refine lv_iload hx hb dX5_tell_44 (lv_at hl 5 rfl) ?_
          refine lv_iconst (v := (nI 4)) hx hb dX5_tell_46 (by decide) ?_
          refine lv_icmp_ge (tgt := 148) hx hb dX5_tell_47 (by decide) (fun c47 => ?_) (fun c47 => ?_)
          ·
            replace c47 : 4 ≤ q := k_get c47 (by omega) (by omega)
            refine lv_iload hx hb dX5_tell_148 (lv_at hl 4 rfl) ?_
            subst hQ
            have hrel : (if isIn nf y = true then (if isGr g = true then (∃ v, TQ (wr M 0 0 (nI 0)) v ∧ telC u_5 g set n q 0 = telC v g (semR M0 n kd p1 p2 sb ag (sg n - nI 1) y.toNatClampNeg) n 4 0) else telC u_5 g set n q 0 = wr M 0 0 (nI 2)) else telC u_5 g set n q 0 = wr M 0 0 (nI 1)) := by first | (rw [c10]; simp only [wr_wr, if_true, if_false, Bool.false_eq_true, Nat.one_ne_zero, hM_1, c10, c23, c47]; done) | (rw [if_pos c10, c23]; simp only [wr_wr, if_true, if_false, Bool.false_eq_true, Nat.one_ne_zero, hM_1, c10, c23, c47]; done) | ((have hqe : q = 4 := by omega); subst hqe; rw [if_pos c10, if_pos c23]; refine ⟨_, ?_, by rw [← hset]⟩; exact hTQ)
            have hfin : (telN M g set n q) = (if isIn nf y = true then (if isGr g = true then telN M g (semR M0 n kd p1 p2 sb ag (sg n - nI 1) y.toNatClampNeg) n 4 else nI 0) else nI 0) := by (have hqe : q = 4 := by omega); subst hqe; rw [if_pos c10, if_pos c23, ← hset]
            exact W.iret hx hb hr (fun t ht hW => ⟨⟨_, telC u_5 g set n q 0, rfl, ⟨hfin, hrel⟩, by rw [← ht] at hP; exact hP⟩, hS.F ht⟩) hS.2.2 dX5_tell_150
          ·
            replace c47 : q < 4 := k_gef c47 (by omega) (by omega)
            refine lv_iload_n hx hb dX5_tell_50 rfl (lv_at hl 1 rfl) ?_
            refine lv_iload hx hb dX5_tell_51 (lv_at hl 5 rfl) ?_
            refine xcalli (va_runS (As := [.int g, .int (nI q)]) (rest := []) ⟨hx, hb, hml, hown, hts⟩ (c_X5_has l g q (by omega)) (va_cwS 2 hts gX5_tell_X5_has rfl rfl rfl (by decide +kernel) ⟨Nat.le_of_ble_eq_true rfl, Nat.le_of_ble_eq_true rfl⟩) xpreN rfl rfl hl.1 rfl (lv_room (Nat.le_of_ble_eq_true rfl)) dX5_tell_53 ⟨Nat.le_of_ble_eq_true rfl, Nat.le_of_ble_eq_true rfl⟩) hS hP (fun H locs hP hS => ?_)
            refine lv_if_ne (tgt := 62) hx hb dX5_tell_56 (by decide) (fun c56 => ?_) (fun c56 => ?_)
            ·
              replace c56 := bI_n0 c56
              refine lv_iconst (v := (nI 0)) hx hb dX5_tell_62 (by decide) ?_
              refine lv_istore (lv' := [(6, .int (nI 0)), (0, .ref (b 0)), (1, .int g), (2, .int (nI y.toNatClampNeg)), (3, .int set), (4, .int (telN M g set n q)), (5, .int (nI q))]) hx hb dX5_tell_63 hl (by decide) rfl (fun ls hl => ?_)
              have cut65 : ∀ (f65 : Nat) (j : Nat) (hj : j ≤ n), n + 1 ≤ j + f65 → ∀ (H : Heap) (locs : List Loc), va_P D vwCl (rc cs b (telC u_5 g set n q j)) H → va_S (kA b 12 s.heap.size) s.heap H locs → ∀ (ls : Array Slot), lv_has ls 8 [(0, .ref (b 0)), (1, .int g), (2, .int (nI y.toNatClampNeg)), (3, .int set), (4, .int (telI M set q (telN M g set n q) j)), (5, .int (nI q)), (6, .int (nI j))] → W p l e ({ frames := 152, cells := 0, slots := 0, locals := 4450 } : Room) s m ([.ref (b 0), .int g, .int y] : List Value).toArray below meth c H locs 0 0 Q (F0 m 65 ls []) := by
                intro f65
                induction f65 with
                | zero => intro j hj hfu65; exact absurd hfu65 (by omega)
                | succ f65 cut65 =>
                  intro j hj hfu65 H locs hP hS ls hl
                  refine lv_iload hx hb dX5_tell_65 (lv_at hl 6 rfl) ?_
                  refine lv_aload_n hx hb dX5_tell_67 rfl (lv_at hl 0 rfl) ?_
                  refine va_get (D := D) (ci := 5) (v := .int ((telC u_5 g set n q j) 0 1)) (C := RX5) (T := TX5) (N := 15) hx hb hts hinX5 hown hK1 hP 0 rfl rfl 1 (by decide) (hts (.fieldLink RX5 48 "KnowledgeModelModel" "worlds" "I") (List.mem_of_getElem? (i := 2) rfl)) (fun _ h9 => h9) rfl dX5_tell_68 ?_
                  refine xtop (y := nI n) (((telC_o (by decide)).trans hk_6)) ?_
                  refine lv_icmp_ge (tgt := 142) hx hb dX5_tell_71 (by decide) (fun c71 => ?_) (fun c71 => ?_)
                  ·
                    replace c71 : n ≤ j := k_get c71 (by omega) (by omega)
                    refine lv_iinc (v := (nI (q + 1))) (lv' := [(5, .int (nI (q + 1))), (0, .ref (b 0)), (1, .int g), (2, .int (nI y.toNatClampNeg)), (3, .int set), (4, .int (telI M set q (telN M g set n q) j)), (6, .int (nI j))]) hx hb dX5_tell_142 hl (k := 5) rfl (nI_add q 1) (by decide) rfl (fun ls hl => ?_)
                    refine lv_goto (tgt := 44) hx hb dX5_tell_145 (by decide) ?_
                    have e_9 : (telI M set q (telN M g set n q) j) = (telN M g set n (q + 1)) := by first | (simp only [telN, fo_s, c56]; rfl) | ((have hje : j = n := by omega); subst hje; simp only [telN, fo_s, c56]; rfl)
                    have eM_10 : telC u_5 g set n q j = telC u_5 g set n (q + 1) 0 := by first | exact telC_k c56 | ((have hje : j = n := by omega); subst hje; exact telC_e)
                    exact cut44 (q + 1) (by omega) (by omega) _ _ (eM_10 ▸ hP) hS ls (lcons (lcons (lcons (lcons (lcons (lcons (lzero hl) hl 0 rfl rfl) hl 5 rfl (congrArg Value.int e_9)) hl 4 rfl rfl) hl 3 rfl rfl) hl 2 rfl rfl) hl 1 rfl rfl)
                  ·
                    replace c71 : j < n := k_gef c71 (by omega) (by omega)
                    refine lv_aload_n hx hb dX5_tell_74 rfl (lv_at hl 0 rfl) ?_
                    refine va_get (D := D) (ci := 5) (v := .ref (b 2)) (C := RX5) (T := TX5) (N := 15) hx hb hts hinX5 hown hK1 hP 0 rfl rfl 4 (by decide) (hts (.fieldLink RX5 13 "KnowledgeModelModel" "seen" "[I") (List.mem_of_getElem? (i := 3) rfl)) (fun _ h9 => h9) rfl dX5_tell_75 ?_
                    refine lv_bipush (v := (nI 24)) hx hb dX5_tell_78 (by decide) ?_
                    refine lv_iload hx hb dX5_tell_80 (lv_at hl 5 rfl) ?_
                    refine ximul hx hb dX5_tell_82 ?_
                    refine lv_iload hx hb dX5_tell_83 (lv_at hl 6 rfl) ?_
                    refine xiadd hx hb dX5_tell_85 ?_
                    refine xiald (j := (24 * q) + j) (q0 := 2) (t0 := 0) hx hb hK1 hP rfl rfl (by omega) (by decide) dX5_tell_86 ?_
                    refine xtop (y := (M 2 (24 * q + j))) (by exact (telC_at (by omega)).trans (hgo _)) ?_
                    refine lv_iload_n hx hb dX5_tell_87 rfl (lv_at hl 3 rfl) ?_
                    refine lv_iload hx hb dX5_tell_88 (lv_at hl 6 rfl) ?_
                    refine xcalli (va_runS (As := [.int set, .int (nI j)]) (rest := [.int (M 2 (24 * q + j))]) ⟨hx, hb, hml, hown, hts⟩ (c_X5_has l set j (by omega)) (va_cwS 2 hts gX5_tell_X5_has rfl rfl rfl (by decide +kernel) ⟨Nat.le_of_ble_eq_true rfl, Nat.le_of_ble_eq_true rfl⟩) xpreN rfl rfl hl.1 rfl (lv_room (Nat.le_of_ble_eq_true rfl)) dX5_tell_90 ⟨Nat.le_of_ble_eq_true rfl, Nat.le_of_ble_eq_true rfl⟩) hS hP (fun H locs hP hS => ?_)
                    refine lv_if_eq (tgt := 102) hx hb dX5_tell_93 (by decide) (fun c93 => ?_) (fun c93 => ?_)
                    ·
                      replace c93 := bI_0 c93
                      refine lv_iload_n hx hb dX5_tell_102 rfl (lv_at hl 3 rfl) ?_
                      refine lv_iand hx hb dX5_tell_103 ?_
                      refine lv_topi (fun x_11 hx_11 => ?_)
                      refine lv_istore (lv' := [(7, .int x_11), (0, .ref (b 0)), (1, .int g), (2, .int (nI y.toNatClampNeg)), (3, .int set), (4, .int (telI M set q (telN M g set n q) j)), (5, .int (nI q)), (6, .int (nI j))]) hx hb dX5_tell_104 hl (by decide) rfl (fun ls hl => ?_)
                      refine lv_iload hx hb dX5_tell_106 (lv_at hl 5 rfl) ?_
                      refine lv_iload hx hb dX5_tell_108 (lv_at hl 0 rfl) ?_
                      refine xcalli (va_runS (As := [.int x_11]) (rest := [.int (telI M set q (telN M g set n q) j)]) ⟨hx, hb, hml, hown, hts⟩ (c_J6_bitCount_0f7a4 l x_11) (va_cwS 1 hts gX5_tell_J6_bitCount_0f7a4 rfl rfl rfl (by decide +kernel) ⟨Nat.le_of_ble_eq_true rfl, Nat.le_of_ble_eq_true rfl⟩) xpreN rfl rfl hl.1 rfl (lv_room (Nat.le_of_ble_eq_true rfl)) dX5_tell_110 ⟨Nat.le_of_ble_eq_true rfl, Nat.le_of_ble_eq_true rfl⟩) hS hP (fun H locs hP hS => ?_)
                      refine lv_iadd hx hb dX5_tell_113 ?_
                      refine lv_topi (fun x_12 hx_12 => ?_)
                      refine lv_istore (lv' := [(4, .int x_12), (7, .int x_11), (0, .ref (b 0)), (1, .int g), (2, .int (nI y.toNatClampNeg)), (3, .int set), (5, .int (nI q)), (6, .int (nI j))]) hx hb dX5_tell_114 hl (by decide) rfl (fun ls hl => ?_)
                      refine lv_aload_n hx hb dX5_tell_116 rfl (lv_at hl 2 rfl) ?_
                      refine va_get (D := D) (ci := 5) (v := .ref (b 2)) (C := RX5) (T := TX5) (N := 15) hx hb hts hinX5 hown hK1 hP 0 rfl rfl 4 (by decide) (hts (.fieldLink RX5 13 "KnowledgeModelModel" "seen" "[I") (List.mem_of_getElem? (i := 3) rfl)) (fun _ h9 => h9) rfl dX5_tell_117 ?_
                      refine lv_bipush (v := (nI 24)) hx hb dX5_tell_120 (by decide) ?_
                      refine lv_iload hx hb dX5_tell_122 (lv_at hl 6 rfl) ?_
                      refine ximul hx hb dX5_tell_124 ?_
                      refine lv_iload hx hb dX5_tell_125 (lv_at hl 7 rfl) ?_
                      refine xiadd hx hb dX5_tell_127 ?_
                      refine lv_dup2_11 hx hb dX5_tell_128 rfl rfl ?_
                      refine xiald (j := (24 * q) + j) (q0 := 2) (t0 := 0) hx hb hK1 hP rfl rfl (by omega) (by decide) dX5_tell_129 ?_
                      refine xtop (y := (M 2 (24 * q + j))) (by exact (telC_at (by omega)).trans (hgo _)) ?_
                      refine lv_iload hx hb dX5_tell_130 (lv_at hl 1 rfl) ?_
                      refine lv_iconst (v := (-1 : Int32)) hx hb dX5_tell_132 (by decide) ?_
                      refine lv_ixor hx hb dX5_tell_133 ?_
                      refine lv_iand hx hb dX5_tell_134 ?_
                      refine lv_topi (fun x_13 hx_13 => ?_)
                      refine xiast (j := (24 * q) + j) (q0 := 2) (t0 := 0) (ws' := rc cs b (wr (telC u_5 g set n q j) 2 ((24 * q) + j) x_13)) hx hb hK1 hP (rD hI) hS rfl rfl (by omega) (by decide) rs_2 dX5_tell_135 (fun H locs hP hS => ?_)
                      obtain ⟨M_14, hM_14⟩ : ∃ z, z = wr (telC u_5 g set n q j) 2 ((24 * q) + j) x_13 := ⟨_, rfl⟩
                      rw [← hM_14] at hP
                      have hk_15 : M_14 0 1 = nI n := by rw [hM_14]; exact (wr_ne (Or.inl (by omega))).trans ((telC_o (by decide)).trans hk_6)
                      have hk_16 : M_14 0 3 = nI nf := by rw [hM_14]; exact (wr_ne (Or.inl (by omega))).trans ((telC_o (by decide)).trans hk_8)
                      refine lv_iinc (v := (nI (j + 1))) (lv' := [(6, .int (nI (j + 1))), (4, .int x_12), (7, .int x_11), (0, .ref (b 0)), (1, .int g), (2, .int (nI y.toNatClampNeg)), (3, .int set), (5, .int (nI q))]) hx hb dX5_tell_136 hl (k := 7) rfl (nI_add j 1) (by decide) rfl (fun ls hl => ?_)
                      refine lv_goto (tgt := 65) hx hb dX5_tell_139 (by decide) ?_
                      have e_17 : x_12 = (telI M set q (telN M g set n q) (j + 1)) := by simp only [telI, fo_s, goneR, hM_1, c10, c23, c47, c56, c71, c93, hx_11, hx_12, hx_13, hM_14]; try rfl
                      have eM_18 : M_14 = telC u_5 g set n q (j + 1) := by rw [← telC_s c56 (by omega), hgo]; simp only [goneR, hM_1, c10, c23, c47, c56, c71, c93, hx_11, hx_12, hx_13, hM_14]; try rfl
                      exact cut65 (j + 1) (by omega) (by omega) _ _ (eM_18 ▸ hP) hS ls (lcons (lcons (lcons (lcons (lcons (lcons (lcons (lzero hl) hl 0 rfl rfl) hl 7 rfl rfl) hl 1 rfl (congrArg Value.int e_17)) hl 6 rfl rfl) hl 5 rfl rfl) hl 4 rfl rfl) hl 3 rfl rfl)
                    ·
                      replace c93 := bI_n0 c93
                      refine lv_iload_n hx hb dX5_tell_96 rfl (lv_at hl 3 rfl) ?_
                      refine lv_iconst (v := (-1 : Int32)) hx hb dX5_tell_97 (by decide) ?_
                      refine lv_ixor hx hb dX5_tell_98 ?_
                      refine lv_goto (tgt := 103) hx hb dX5_tell_99 (by decide) ?_
                      refine lv_iand hx hb dX5_tell_103 ?_
                      refine lv_topi (fun x_19 hx_19 => ?_)
                      refine lv_istore (lv' := [(7, .int x_19), (0, .ref (b 0)), (1, .int g), (2, .int (nI y.toNatClampNeg)), (3, .int set), (4, .int (telI M set q (telN M g set n q) j)), (5, .int (nI q)), (6, .int (nI j))]) hx hb dX5_tell_104 hl (by decide) rfl (fun ls hl => ?_)
                      refine lv_iload hx hb dX5_tell_106 (lv_at hl 5 rfl) ?_
                      refine lv_iload hx hb dX5_tell_108 (lv_at hl 0 rfl) ?_
                      refine xcalli (va_runS (As := [.int x_19]) (rest := [.int (telI M set q (telN M g set n q) j)]) ⟨hx, hb, hml, hown, hts⟩ (c_J6_bitCount_0f7a4 l x_19) (va_cwS 1 hts gX5_tell_J6_bitCount_0f7a4 rfl rfl rfl (by decide +kernel) ⟨Nat.le_of_ble_eq_true rfl, Nat.le_of_ble_eq_true rfl⟩) xpreN rfl rfl hl.1 rfl (lv_room (Nat.le_of_ble_eq_true rfl)) dX5_tell_110 ⟨Nat.le_of_ble_eq_true rfl, Nat.le_of_ble_eq_true rfl⟩) hS hP (fun H locs hP hS => ?_)
                      refine lv_iadd hx hb dX5_tell_113 ?_
                      refine lv_topi (fun x_20 hx_20 => ?_)
                      refine lv_istore (lv' := [(4, .int x_20), (7, .int x_19), (0, .ref (b 0)), (1, .int g), (2, .int (nI y.toNatClampNeg)), (3, .int set), (5, .int (nI q)), (6, .int (nI j))]) hx hb dX5_tell_114 hl (by decide) rfl (fun ls hl => ?_)
                      refine lv_aload_n hx hb dX5_tell_116 rfl (lv_at hl 2 rfl) ?_
                      refine va_get (D := D) (ci := 5) (v := .ref (b 2)) (C := RX5) (T := TX5) (N := 15) hx hb hts hinX5 hown hK1 hP 0 rfl rfl 4 (by decide) (hts (.fieldLink RX5 13 "KnowledgeModelModel" "seen" "[I") (List.mem_of_getElem? (i := 3) rfl)) (fun _ h9 => h9) rfl dX5_tell_117 ?_
                      refine lv_bipush (v := (nI 24)) hx hb dX5_tell_120 (by decide) ?_
                      refine lv_iload hx hb dX5_tell_122 (lv_at hl 6 rfl) ?_
                      refine ximul hx hb dX5_tell_124 ?_
                      refine lv_iload hx hb dX5_tell_125 (lv_at hl 7 rfl) ?_
                      refine xiadd hx hb dX5_tell_127 ?_
                      refine lv_dup2_11 hx hb dX5_tell_128 rfl rfl ?_
                      refine xiald (j := (24 * q) + j) (q0 := 2) (t0 := 0) hx hb hK1 hP rfl rfl (by omega) (by decide) dX5_tell_129 ?_
                      refine xtop (y := (M 2 (24 * q + j))) (by exact (telC_at (by omega)).trans (hgo _)) ?_
                      refine lv_iload hx hb dX5_tell_130 (lv_at hl 1 rfl) ?_
                      refine lv_iconst (v := (-1 : Int32)) hx hb dX5_tell_132 (by decide) ?_
                      refine lv_ixor hx hb dX5_tell_133 ?_
                      refine lv_iand hx hb dX5_tell_134 ?_
                      refine lv_topi (fun x_21 hx_21 => ?_)
                      refine xiast (j := (24 * q) + j) (q0 := 2) (t0 := 0) (ws' := rc cs b (wr (telC u_5 g set n q j) 2 ((24 * q) + j) x_21)) hx hb hK1 hP (rD hI) hS rfl rfl (by omega) (by decide) rs_2 dX5_tell_135 (fun H locs hP hS => ?_)
                      obtain ⟨M_22, hM_22⟩ : ∃ z, z = wr (telC u_5 g set n q j) 2 ((24 * q) + j) x_21 := ⟨_, rfl⟩
                      rw [← hM_22] at hP
                      have hk_23 : M_22 0 1 = nI n := by rw [hM_22]; exact (wr_ne (Or.inl (by omega))).trans ((telC_o (by decide)).trans hk_6)
                      have hk_24 : M_22 0 3 = nI nf := by rw [hM_22]; exact (wr_ne (Or.inl (by omega))).trans ((telC_o (by decide)).trans hk_8)
                      refine lv_iinc (v := (nI (j + 1))) (lv' := [(6, .int (nI (j + 1))), (4, .int x_20), (7, .int x_19), (0, .ref (b 0)), (1, .int g), (2, .int (nI y.toNatClampNeg)), (3, .int set), (5, .int (nI q))]) hx hb dX5_tell_136 hl (k := 7) rfl (nI_add j 1) (by decide) rfl (fun ls hl => ?_)
                      refine lv_goto (tgt := 65) hx hb dX5_tell_139 (by decide) ?_
                      have e_25 : x_20 = (telI M set q (telN M g set n q) (j + 1)) := by simp only [telI, fo_s, goneR, hM_1, c10, c23, c47, c56, c71, c93, hx_19, hx_20, hx_21, hM_22]; try rfl
                      have eM_26 : M_22 = telC u_5 g set n q (j + 1) := by rw [← telC_s c56 (by omega), hgo]; simp only [goneR, hM_1, c10, c23, c47, c56, c71, c93, hx_19, hx_20, hx_21, hM_22]; try rfl
                      exact cut65 (j + 1) (by omega) (by omega) _ _ (eM_26 ▸ hP) hS ls (lcons (lcons (lcons (lcons (lcons (lcons (lcons (lzero hl) hl 0 rfl rfl) hl 7 rfl rfl) hl 1 rfl (congrArg Value.int e_25)) hl 6 rfl rfl) hl 5 rfl rfl) hl 4 rfl rfl) hl 3 rfl rfl)
              have e_27 : (telN M g set n q) = (telI M set q (telN M g set n q) 0) := by rfl
              exact cut65 (n + 1) 0 (by omega) (by omega) _ _ hP hS ls (lcons (lcons (lcons (lcons (lcons (lcons (lcons (lzero hl) hl 0 rfl rfl) hl 6 rfl rfl) hl 5 rfl (congrArg Value.int e_27)) hl 4 rfl rfl) hl 3 rfl rfl) hl 2 rfl rfl) hl 1 rfl rfl)
            ·
              replace c56 := bI_0 c56
              refine lv_goto (tgt := 142) hx hb dX5_tell_59 (by decide) ?_
              refine lv_iinc (v := (nI (q + 1))) (lv' := [(5, .int (nI (q + 1))), (0, .ref (b 0)), (1, .int g), (2, .int (nI y.toNatClampNeg)), (3, .int set), (4, .int (telN M g set n q))]) hx hb dX5_tell_142 hl (k := 5) rfl (nI_add q 1) (by decide) rfl (fun ls hl => ?_)
              refine lv_goto (tgt := 44) hx hb dX5_tell_145 (by decide) ?_
              have e_28 : (telN M g set n q) = (telN M g set n (q + 1)) := by first | (simp only [telN, fo_s, c56]; rfl) | ((have hje : j = n := by omega); subst hje; simp only [telN, fo_s, c56]; rfl)
              have eM_29 : telC u_5 g set n q 0 = telC u_5 g set n (q + 1) 0 := by first | exact telC_k c56 | ((have hje : j = n := by omega); subst hje; exact telC_e)
              exact cut44 (q + 1) (by omega) (by omega) _ _ (eM_29 ▸ hP) hS ls (lcons (lcons (lcons (lcons (lcons (lcons (lzero hl) hl 0 rfl rfl) hl 5 rfl (congrArg Value.int e_28)) hl 4 rfl rfl) hl 3 rfl rfl) hl 2 rfl rfl) hl 1 rfl rfl)
      have e_30 : (nI 0) = (telN M g set n 0) := by rfl
      have eM_31 : u_5 = telC u_5 g set n 0 0 := by funext i x; unfold telC; rw [if_neg (by omega)]
      exact cut44 (4 + 1) 0 (by omega) (by omega) _ _ (eM_31 ▸ hP) hS ls (lcons (lcons (lcons (lcons (lcons (lcons (lzero hl) hl 0 rfl rfl) hl 1 rfl (congrArg Value.int e_30)) hl 2 rfl rfl) hl 5 rfl rfl) hl 4 rfl rfl) hl 3 rfl rfl)
    ·
      replace c23 := bI_0 c23
      refine lv_aload_n hx hb dX5_tell_26 rfl (lv_at hl 0 rfl) ?_
      refine lv_iconst (v := (nI 2)) hx hb dX5_tell_27 (by decide) ?_
      refine xcallwi (va_runV (As := [.int (nI 2)]) (rest := []) ⟨hx, hb, hml, hown, hts⟩ (c_X5_no l D cs b M_1 _ hI (nI 2)) (cwV 1 hts gX5_tell_X5_no rfl rfl rfl (by decide +kernel) ⟨Nat.le_of_ble_eq_true rfl, Nat.le_of_ble_eq_true rfl⟩) (xpreVs hP hK (ci := 5) 0 rfl rfl) rfl rfl hl.1 rfl (lv_room (Nat.le_of_ble_eq_true rfl)) dX5_tell_28 ⟨Nat.le_of_ble_eq_true rfl, Nat.le_of_ble_eq_true rfl⟩) hS (kAle hS.1) (fun u_32 H locs hu_32 hP _ _ hS => ?_)
      have hP : va_P D vwCl (rc cs b (wr M_1 0 0 (nI 2))) H := hP
      obtain ⟨M_33, hM_33⟩ : ∃ z, z = wr M_1 0 0 (nI 2) := ⟨_, rfl⟩
      rw [← hM_33] at hP
      have hk_34 : M_33 0 1 = nI n := by rw [hM_33]; exact (wr_ne (Or.inr (by decide))).trans hk_2
      have hk_36 : M_33 0 3 = nI nf := by rw [hM_33]; exact (wr_ne (Or.inr (by decide))).trans hk_3
      subst hQ
      have hrel : (if isIn nf y = true then (if isGr g = true then (∃ v, TQ (wr M 0 0 (nI 0)) v ∧ M_33 = telC v g (semR M0 n kd p1 p2 sb ag (sg n - nI 1) y.toNatClampNeg) n 4 0) else M_33 = wr M 0 0 (nI 2)) else M_33 = wr M 0 0 (nI 1)) := by first | (rw [c10]; simp only [wr_wr, if_true, if_false, Bool.false_eq_true, Nat.one_ne_zero, hM_1, c10, c23, hM_33]; done) | (rw [if_pos c10, c23]; simp only [wr_wr, if_true, if_false, Bool.false_eq_true, Nat.one_ne_zero, hM_1, c10, c23, hM_33]; done) | ((have hqe : q = 4 := by omega); subst hqe; rw [if_pos c10, if_pos c23]; refine ⟨_, ?_, by rw [← hset]⟩; exact hTQ)
      have hfin : (nI 0) = (if isIn nf y = true then (if isGr g = true then telN M g (semR M0 n kd p1 p2 sb ag (sg n - nI 1) y.toNatClampNeg) n 4 else nI 0) else nI 0) := by simp only [wr_wr, if_true, if_false, Bool.false_eq_true, Nat.one_ne_zero, hM_1, c10, c23, hM_33]
      exact W.iret hx hb hr (fun t ht hW => ⟨⟨_, M_33, rfl, ⟨hfin, hrel⟩, by rw [← ht] at hP; exact hP⟩, hS.F ht⟩) hS.2.2 dX5_tell_31
  ·
    replace c10 := bI_0 c10
    refine lv_aload_n hx hb dX5_tell_13 rfl (lv_at hl 0 rfl) ?_
    refine lv_iconst (v := (nI 1)) hx hb dX5_tell_14 (by decide) ?_
    refine xcallwi (va_runV (As := [.int (nI 1)]) (rest := []) ⟨hx, hb, hml, hown, hts⟩ (c_X5_no l D cs b M_1 _ hI (nI 1)) (cwV 1 hts gX5_tell_X5_no rfl rfl rfl (by decide +kernel) ⟨Nat.le_of_ble_eq_true rfl, Nat.le_of_ble_eq_true rfl⟩) (xpreVs hP hK (ci := 5) 0 rfl rfl) rfl rfl hl.1 rfl (lv_room (Nat.le_of_ble_eq_true rfl)) dX5_tell_15 ⟨Nat.le_of_ble_eq_true rfl, Nat.le_of_ble_eq_true rfl⟩) hS (kAle hS.1) (fun u_37 H locs hu_37 hP _ _ hS => ?_)
    have hP : va_P D vwCl (rc cs b (wr M_1 0 0 (nI 1))) H := hP
    obtain ⟨M_38, hM_38⟩ : ∃ z, z = wr M_1 0 0 (nI 1) := ⟨_, rfl⟩
    rw [← hM_38] at hP
    have hk_39 : M_38 0 1 = nI n := by rw [hM_38]; exact (wr_ne (Or.inr (by decide))).trans hk_2
    have hk_41 : M_38 0 3 = nI nf := by rw [hM_38]; exact (wr_ne (Or.inr (by decide))).trans hk_3
    subst hQ
    have hrel : (if isIn nf y = true then (if isGr g = true then (∃ v, TQ (wr M 0 0 (nI 0)) v ∧ M_38 = telC v g (semR M0 n kd p1 p2 sb ag (sg n - nI 1) y.toNatClampNeg) n 4 0) else M_38 = wr M 0 0 (nI 2)) else M_38 = wr M 0 0 (nI 1)) := by first | (rw [c10]; simp only [wr_wr, if_true, if_false, Bool.false_eq_true, Nat.one_ne_zero, hM_1, c10, hM_38]; done) | (rw [if_pos c10, c23]; simp only [wr_wr, if_true, if_false, Bool.false_eq_true, Nat.one_ne_zero, hM_1, c10, hM_38]; done) | ((have hqe : q = 4 := by omega); subst hqe; rw [if_pos c10, if_pos c23]; refine ⟨_, ?_, by rw [← hset]⟩; exact hTQ)
    have hfin : (nI 0) = (if isIn nf y = true then (if isGr g = true then telN M g (semR M0 n kd p1 p2 sb ag (sg n - nI 1) y.toNatClampNeg) n 4 else nI 0) else nI 0) := by simp only [wr_wr, if_true, if_false, Bool.false_eq_true, Nat.one_ne_zero, hM_1, c10, hM_38]
    exact W.iret hx hb hr (fun t ht hW => ⟨⟨_, M_38, rfl, ⟨hfin, hrel⟩, by rw [← ht] at hP; exact hP⟩, hS.F ht⟩) hS.2.2 dX5_tell_18

