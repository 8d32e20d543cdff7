/-! The law, call by call. -/
set_option maxHeartbeats 4000000 in
set_option maxRecDepth 100000 in
theorem k_share {p : Program} {l : Launch} {e : Env} {s : State} {m : MethodId} {below : List Frame} {meth : Method} {c : Code} {bq L : Nat} {xs : Nat → Int32} {D : va_G} {cs sa a b : Nat → Nat} {o od : Nat} {Q : State → Prop} {i cells slots : Nat} {M R : Nat → Nat → Int32} {N go : Nat → Int64} {gd : Nat → UInt64} {H : Heap} {locs : List Loc} {ls : Array Slot} (C : LX p l s m meth c bq L xs D cs sa a b o od) (hi : i + 5 ≤ L) (hsim : SimE M N R) (hJ : LJ D cs a b o od M N R go gd H) (hS : va_S (fun q : Nat => s.heap.size ≤ q) s.heap H locs) (hl : lv_has ls 9 [(5, .int (nI i)), (4, .ref od), (3, .ref o), (2, .ref (b 0)), (1, .ref (a 0)), (0, .ref bq)]) (hc : cells + 10 ≤ 601024) (hs : slots + 200 ≤ 7293034) (hkk : LK p l e s m below meth c bq D cs a b o od Q i cells slots) : W p l e room_1 s m #[Value.ref bq] below meth c H locs cells slots Q (F0 m 1500 ls []) := by
  obtain ⟨⟨hx, hb, hr, hml, hown, -, hX, hbl, hlocks, -⟩, hts, hl0, hL, hK, hT, hNc, hZ, hA⟩ := C
  obtain ⟨n, act, nf, kd, p1, p2, ns, sb, ag, hW, hF⟩ := hsim
  have hb : c.code = cL_law := hb
  have hown : s.vm.findClass RL = some m.cls := hown
  have hbA : ¬ (fun q : Nat => s.heap.size ≤ q) bq := Nat.not_le.mpr hbl
  obtain ⟨x, e_x⟩ : ∃ x : Int32, x = xs (i + 1) := ⟨_, rfl⟩
  refine lv_aload_n hx hb dL_law_1500 rfl (lv_at hl 4 rfl) ?_
  refine lv_aload_n hx hb dL_law_1501 rfl (lv_at hl 5 rfl) ?_
  refine lv_iload hx hb dL_law_1502 (lv_at hl 0 rfl) ?_
  refine lv_iconst (v := nI 1) hx hb dL_law_1504 (by decide) ?_
  refine xiadd hx hb dL_law_1505 ?_
  refine xsld hx hb hX hbl hbA hS hL (by omega) dL_law_1506 ?_
  refine xtop e_x.symm ?_
  refine lv_aload hx hb dL_law_1507 (lv_at hl 1 rfl) ?_
  refine lcalli (vx_runSW (As := [.ref (a 0), .int x, .ref od]) (rest := []) ⟨hx, hb, hml, hown, hts⟩ (c_L_share l hl0 D cs sa a M N od gd _ hA.1 hA.2.2.2.2.1 n nf kd p1 p2 ns sb x hW.2.1.1 hW.1.1 hF.2.1 hF.1 hF.2.2.2.1) (vx_cwSW 3 hts gL_law_L_share rfl rfl rfl (by decide +kernel) ⟨(Nat.le_of_ble_eq_true rfl), (Nat.le_of_ble_eq_true rfl)⟩) (lpreS (LJ_od hJ) hK hT hNc hZ hS (Ap_od hA hS.1)) rfl rfl hl.1 rfl (lv_room (Nat.le_of_ble_eq_true rfl)) dL_law_1509 (lfit hc hs (by decide) (by decide))) hS (Ap_od hA hS.1) (fun u9 H locs hu hP9 hk9 hS => ?_)
  have hJ := LJ_xd hJ hA hP9 hk9
  obtain ⟨K9, hK9⟩ : ∃ K9 : Nat, K9 = (if (isIn nf x) = true then 0 else 1) := ⟨_, rfl⟩
  have h4 : K9 < 4 := by rw [hK9]; repeat' (first | decide | split)
  refine xtop (congrArg nI hK9.symm) ?_
  refine lv_istore (lv' := [(6, .int (nI K9)), (5, .int (nI i)), (4, .ref od), (3, .ref o), (2, .ref (b 0)), (1, .ref (a 0)), (0, .ref bq)]) hx hb dL_law_1512 hl (by decide) rfl (fun ls hl => ?_)
  refine lv_aload_n hx hb dL_law_1514 rfl (lv_at hl 4 rfl) ?_
  refine lv_aload_n hx hb dL_law_1515 rfl (lv_at hl 6 rfl) ?_
  refine lv_iload hx hb dL_law_1516 (lv_at hl 1 rfl) ?_
  refine lv_iconst (v := nI 1) hx hb dL_law_1518 (by decide) ?_
  refine xiadd hx hb dL_law_1519 ?_
  refine xsld hx hb hX hbl hbA hS hL (by omega) dL_law_1520 ?_
  refine xtop e_x.symm ?_
  refine lcalld (va_runV (As := [.int x]) (rest := []) ⟨hx, hb, hml, hown, hts⟩ (c_X5_share l D cs b R _ hA.2.1 n nf kd p1 p2 ns sb ag R x hW.2.2.1.1 hW.1.1 hF.2.2.1 hF.1 Rw_r hF.2.2.2.2.1) (cwV 1 hts gL_law_X5_share rfl rfl rfl (by decide +kernel) ⟨(Nat.le_of_ble_eq_true rfl), (Nat.le_of_ble_eq_true rfl)⟩) (xpreVs hJ.2.1 hK (ci := 5) 0 rfl rfl) rfl rfl hl.1 rfl (lv_room (Nat.le_of_ble_eq_true rfl)) dL_law_1521 (lfit2 hc hs (by decide) (by decide))) hS (Ap_b hA hS.1) (fun R1 H locs hv hP9 hk9 hS => ?_)
  have hJ := LJ_r hJ hA hP9 hk9
  obtain ⟨B9, hB9⟩ : ∃ B9 : UInt64, B9 = (if isIn nf x = true then (if n = 0 then FP.dconst0 else shv (fb_ct (bt (semR R n kd p1 p2 sb ag (sg n - nI 1) x.toNatClampNeg)) 32) n) else FP.dconst0) := ⟨_, rfl⟩
  refine xtopd hB9.symm ?_
  refine lv_dstore (lv' := [(7, .double B9), (6, .int (nI K9)), (5, .int (nI i)), (4, .ref od), (3, .ref o), (2, .ref (b 0)), (1, .ref (a 0)), (0, .ref bq)]) hx hb dL_law_1524 hl (by decide) rfl (fun ls hl => ?_)
  obtain ⟨e0, e1, hsim⟩ := op_share hW hF x hu hv
  have e0 : R1 0 0 = nI K9 := e0.trans (congrArg nI hK9.symm)
  refine lv_aload_n hx hb dL_law_1526 rfl (lv_at hl 5 rfl) ?_
  refine lcall0i (va_runV (As := []) (rest := []) ⟨hx, hb, hml, hown, hts⟩ (c_X5_thrown l D cs b R1) (cwV 0 hts gL_law_X5_thrown rfl rfl rfl (by decide +kernel) ⟨(Nat.le_of_ble_eq_true rfl), (Nat.le_of_ble_eq_true rfl)⟩) (xpreV hJ.2.1 hK (ci := 5) 0 rfl rfl) rfl rfl hl.1 rfl (lv_room (Nat.le_of_ble_eq_true rfl)) dL_law_1527 (lfit3 (z := 1) (w := 6) (z2 := 0) (w2 := 0) hc hs (by decide) (by decide))) hS (fun H locs hk9 hS => ?_)
  have hJ := LJ_0 hJ hk9
  refine xtop e0 ?_
  refine lv_iload hx hb dL_law_1530 (lv_at hl 1 rfl) ?_
  refine lv_icmp_eq (tgt := 1537) hx hb dL_law_1532 (by decide) (fun _ => ?_) (fun q => absurd rfl q)
  refine lv_iload hx hb dL_law_1537 (lv_at hl 1 rfl) ?_
  refine lv_if_ne (tgt := 1574) hx hb dL_law_1539 (by decide) (fun q => ?_) (fun q => ?_)
  ·
    refine lv_goto (tgt := 2008) hx hb dL_law_1574 (by decide) ?_
    exact lfin hkk hsim hJ hS (lv_sub hl [2, 3, 4, 5, 6, 7] rfl) (by decide) (by decide)
  ·
    refine lv_aload hx hb dL_law_1542 (lv_at hl 3 rfl) ?_
    refine lv_iconst (v := nI 0) hx hb dL_law_1544 (by decide) ?_
    obtain ⟨e2, e3⟩ := e1 (hK9.symm.trans (nI_c h4 q))
    refine va_dald hx hb hK.1 hJ.2.2.2 0 4 rfl rfl (vp_in_nI (by decide) (by decide)) dL_law_1545 ?_
    refine xtopd (show u9.2 (nI 0).toNatClampNeg = B9 from e2.trans hB9.symm) ?_
    refine lv_dload hx hb dL_law_1546 (lv_at hl 0 rfl) ?_
    refine lv_dcmp hx hb dL_law_1548 ?_
    have e4 : FP.dcmp B9 B9 = some .eq := by rw [hB9, ← e2]; exact e3
    refine lv_if_eq (tgt := 1574) hx hb dL_law_1549 (by decide) (fun _ => ?_) (fun q => absurd (by rw [e4]; rfl) q)
    refine lv_goto (tgt := 2008) hx hb dL_law_1574 (by decide) ?_
    exact lfin hkk hsim hJ hS (lv_sub hl [2, 3, 4, 5, 6, 7] rfl) (by decide) (by decide)

set_option maxHeartbeats 4000000 in
set_option maxRecDepth 100000 in
theorem k_decided {p : Program} {l : Launch} {e : Env} {s : State} {m : MethodId} {below : List Frame} {meth : Method} {c : Code} {bq L : Nat} {xs : Nat → Int32} {D : va_G} {cs sa a b : Nat → Nat} {o od : Nat} {Q : State → Prop} {i cells slots : Nat} {M R : Nat → Nat → Int32} {N go : Nat → Int64} {gd : Nat → UInt64} {H : Heap} {locs : List Loc} {ls : Array Slot} (C : LX p l s m meth c bq L xs D cs sa a b o od) (hi : i + 5 ≤ L) (hsim : SimE M N R) (hJ : LJ D cs a b o od M N R go gd H) (hS : va_S (fun q : Nat => s.heap.size ≤ q) s.heap H locs) (hl : lv_has ls 9 [(5, .int (nI i)), (4, .ref od), (3, .ref o), (2, .ref (b 0)), (1, .ref (a 0)), (0, .ref bq)]) (hc : cells + 10 ≤ 601024) (hs : slots + 200 ≤ 7293034) (hkk : LK p l e s m below meth c bq D cs a b o od Q i cells slots) : W p l e room_1 s m #[Value.ref bq] below meth c H locs cells slots Q (F0 m 1577 ls []) := by
  obtain ⟨⟨hx, hb, hr, hml, hown, -, hX, hbl, hlocks, -⟩, hts, hl0, hL, hK, hT, hNc, hZ, hA⟩ := C
  obtain ⟨n, act, nf, kd, p1, p2, ns, sb, ag, hW, hF⟩ := hsim
  have hb : c.code = cL_law := hb
  have hown : s.vm.findClass RL = some m.cls := hown
  have hbA : ¬ (fun q : Nat => s.heap.size ≤ q) bq := Nat.not_le.mpr hbl
  obtain ⟨x, e_x⟩ : ∃ x : Int32, x = xs (i + 1) := ⟨_, rfl⟩
  refine lv_aload_n hx hb dL_law_1577 rfl (lv_at hl 4 rfl) ?_
  refine lv_aload_n hx hb dL_law_1578 rfl (lv_at hl 5 rfl) ?_
  refine lv_iload hx hb dL_law_1579 (lv_at hl 0 rfl) ?_
  refine lv_iconst (v := nI 1) hx hb dL_law_1581 (by decide) ?_
  refine xiadd hx hb dL_law_1582 ?_
  refine xsld hx hb hX hbl hbA hS hL (by omega) dL_law_1583 ?_
  refine xtop e_x.symm ?_
  refine lv_aload_n hx hb dL_law_1584 rfl (lv_at hl 2 rfl) ?_
  refine lcalli (vx_runSW (As := [.ref (a 0), .int x, .ref o]) (rest := []) ⟨hx, hb, hml, hown, hts⟩ (c_L_decided l hl0 D cs sa a M N o go _ hA.1 hA.2.2.2.1 n act x hW.2.1.1 hW.1.1 hW.2.1.2 (act_lt hW)) (vx_cwSW 3 hts gL_law_L_decided rfl rfl rfl (by decide +kernel) ⟨(Nat.le_of_ble_eq_true rfl), (Nat.le_of_ble_eq_true rfl)⟩) (lpreS (LJ_o hJ) hK hT hNc hZ hS (Ap_o hA hS.1)) rfl rfl hl.1 rfl (lv_room (Nat.le_of_ble_eq_true rfl)) dL_law_1585 (lfit hc hs (by decide) (by decide))) hS (Ap_o hA hS.1) (fun u9 H locs hu hP9 hk9 hS => ?_)
  have hJ := LJ_x hJ hA hP9 hk9
  obtain ⟨K9, hK9⟩ : ∃ K9 : Nat, K9 = (if (isIn 4 x) = true then (if (!decide (n = 0)) = true then 0 else 2) else 1) := ⟨_, rfl⟩
  have h4 : K9 < 4 := by rw [hK9]; repeat' (first | decide | split)
  refine xtop (congrArg nI hK9.symm) ?_
  refine lv_istore (lv' := [(6, .int (nI K9)), (5, .int (nI i)), (4, .ref od), (3, .ref o), (2, .ref (b 0)), (1, .ref (a 0)), (0, .ref bq)]) hx hb dL_law_1588 hl (by decide) rfl (fun ls hl => ?_)
  refine lv_aload_n hx hb dL_law_1590 rfl (lv_at hl 4 rfl) ?_
  refine lv_aload_n hx hb dL_law_1591 rfl (lv_at hl 6 rfl) ?_
  refine lv_iload hx hb dL_law_1592 (lv_at hl 1 rfl) ?_
  refine lv_iconst (v := nI 1) hx hb dL_law_1594 (by decide) ?_
  refine xiadd hx hb dL_law_1595 ?_
  refine xsld hx hb hX hbl hbA hS hL (by omega) dL_law_1596 ?_
  refine xtop e_x.symm ?_
  refine lcalli (va_runV (As := [.int x]) (rest := []) ⟨hx, hb, hml, hown, hts⟩ (c_X5_decided l D cs b R _ hA.2.1 n act x hW.2.2.1.1 hW.1.1 hW.2.2.1.2 (act_lt hW)) (cwV 1 hts gL_law_X5_decided rfl rfl rfl (by decide +kernel) ⟨(Nat.le_of_ble_eq_true rfl), (Nat.le_of_ble_eq_true rfl)⟩) (xpreVs hJ.2.1 hK (ci := 5) 0 rfl rfl) rfl rfl hl.1 rfl (lv_room (Nat.le_of_ble_eq_true rfl)) dL_law_1597 (lfit2 hc hs (by decide) (by decide))) hS (Ap_b hA hS.1) (fun _ H locs hv hP9 hk9 hS => ?_)
  obtain ⟨R1, hv⟩ : ∃ R1 : Nat → Nat → Int32, R1 = wr R 0 0 (if isIn 4 x = true then (if n = 0 then nI 2 else nI 0) else nI 1) := ⟨_, rfl⟩
  rw [← hv] at hP9
  have hJ := LJ_r hJ hA hP9 hk9
  obtain ⟨B9, hB9⟩ : ∃ B9 : Int32, B9 = (if isIn 4 x = true then (if n = 0 then nI 0 else decR R n act x.toNatClampNeg) else nI 0) := ⟨_, rfl⟩
  refine xtop hB9.symm ?_
  refine lv_istore (lv' := [(7, .int B9), (6, .int (nI K9)), (5, .int (nI i)), (4, .ref od), (3, .ref o), (2, .ref (b 0)), (1, .ref (a 0)), (0, .ref bq)]) hx hb dL_law_1600 hl (by decide) rfl (fun ls hl => ?_)
  obtain ⟨e0, e1, hsim⟩ := op_decided hW hF x hu hv
  have e0 : R1 0 0 = nI K9 := e0.trans (congrArg nI hK9.symm)
  refine lv_aload_n hx hb dL_law_1602 rfl (lv_at hl 5 rfl) ?_
  refine lcall0i (va_runV (As := []) (rest := []) ⟨hx, hb, hml, hown, hts⟩ (c_X5_thrown l D cs b R1) (cwV 0 hts gL_law_X5_thrown rfl rfl rfl (by decide +kernel) ⟨(Nat.le_of_ble_eq_true rfl), (Nat.le_of_ble_eq_true rfl)⟩) (xpreV hJ.2.1 hK (ci := 5) 0 rfl rfl) rfl rfl hl.1 rfl (lv_room (Nat.le_of_ble_eq_true rfl)) dL_law_1603 (lfit3 (z := 2) (w := 12) (z2 := 0) (w2 := 0) hc hs (by decide) (by decide))) hS (fun H locs hk9 hS => ?_)
  have hJ := LJ_0 hJ hk9
  refine xtop e0 ?_
  refine lv_iload hx hb dL_law_1606 (lv_at hl 1 rfl) ?_
  refine lv_icmp_eq (tgt := 1613) hx hb dL_law_1608 (by decide) (fun _ => ?_) (fun q => absurd rfl q)
  refine lv_iload hx hb dL_law_1613 (lv_at hl 1 rfl) ?_
  refine lv_if_ne (tgt := 1630) hx hb dL_law_1615 (by decide) (fun q => ?_) (fun q => ?_)
  ·
    refine lv_goto (tgt := 2008) hx hb dL_law_1630 (by decide) ?_
    exact lfin hkk hsim hJ hS (lv_sub hl [2, 3, 4, 5, 6, 7] rfl) (by decide) (by decide)
  ·
    refine lv_aload_n hx hb dL_law_1618 rfl (lv_at hl 4 rfl) ?_
    refine lv_iconst (v := nI 0) hx hb dL_law_1619 (by decide) ?_
    have e2 := e1 (hK9.symm.trans (nI_c h4 q))
    refine xlald (q0 := 0) (t0 := 1) hx hb hK.1 hJ.2.2.1 rfl rfl (by decide) (by decide) dL_law_1620 ?_
    refine xtopl (y := B9.toInt64) (by rw [hB9]; exact e2) ?_
    refine lv_iload hx hb dL_law_1621 (lv_at hl 0 rfl) ?_
    refine lv_i2l (v := B9.toInt64) hx hb dL_law_1623 rfl ?_
    refine W.lcmp hx hb dL_law_1624 ?_
    refine lv_if_eq (tgt := 1630) hx hb dL_law_1625 (by decide) (fun _ => ?_) (fun q => absurd ((lg_cmp_eq _ _).mpr rfl) q)
    refine lv_goto (tgt := 2008) hx hb dL_law_1630 (by decide) ?_
    exact lfin hkk hsim hJ hS (lv_sub hl [2, 3, 4, 5, 6, 7] rfl) (by decide) (by decide)

set_option maxHeartbeats 4000000 in
set_option maxRecDepth 100000 in
theorem k_reached {p : Program} {l : Launch} {e : Env} {s : State} {m : MethodId} {below : List Frame} {meth : Method} {c : Code} {bq L : Nat} {xs : Nat → Int32} {D : va_G} {cs sa a b : Nat → Nat} {o od : Nat} {Q : State → Prop} {i cells slots : Nat} {M R : Nat → Nat → Int32} {N go : Nat → Int64} {gd : Nat → UInt64} {H : Heap} {locs : List Loc} {ls : Array Slot} (C : LX p l s m meth c bq L xs D cs sa a b o od) (hi : i + 5 ≤ L) (hsim : SimE M N R) (hJ : LJ D cs a b o od M N R go gd H) (hS : va_S (fun q : Nat => s.heap.size ≤ q) s.heap H locs) (hl : lv_has ls 9 [(5, .int (nI i)), (4, .ref od), (3, .ref o), (2, .ref (b 0)), (1, .ref (a 0)), (0, .ref bq)]) (hc : cells + 10 ≤ 601024) (hs : slots + 200 ≤ 7293034) (hkk : LK p l e s m below meth c bq D cs a b o od Q i cells slots) : W p l e room_1 s m #[Value.ref bq] below meth c H locs cells slots Q (F0 m 1633 ls []) := by
  obtain ⟨⟨hx, hb, hr, hml, hown, -, hX, hbl, hlocks, -⟩, hts, hl0, hL, hK, hT, hNc, hZ, hA⟩ := C
  obtain ⟨n, act, nf, kd, p1, p2, ns, sb, ag, hW, hF⟩ := hsim
  have hb : c.code = cL_law := hb
  have hown : s.vm.findClass RL = some m.cls := hown
  have hbA : ¬ (fun q : Nat => s.heap.size ≤ q) bq := Nat.not_le.mpr hbl
  obtain ⟨g, e_g⟩ : ∃ g : Int32, g = xs (i + 1) := ⟨_, rfl⟩
  obtain ⟨y, e_y⟩ : ∃ y : Int32, y = xs (i + 2) := ⟨_, rfl⟩
  refine lv_aload_n hx hb dL_law_1633 rfl (lv_at hl 4 rfl) ?_
  refine lv_aload_n hx hb dL_law_1634 rfl (lv_at hl 5 rfl) ?_
  refine lv_iload hx hb dL_law_1635 (lv_at hl 0 rfl) ?_
  refine lv_iconst (v := nI 1) hx hb dL_law_1637 (by decide) ?_
  refine xiadd hx hb dL_law_1638 ?_
  refine xsld hx hb hX hbl hbA hS hL (by omega) dL_law_1639 ?_
  refine xtop e_g.symm ?_
  refine lv_aload_n hx hb dL_law_1640 rfl (lv_at hl 5 rfl) ?_
  refine lv_iload hx hb dL_law_1641 (lv_at hl 0 rfl) ?_
  refine lv_iconst (v := nI 2) hx hb dL_law_1643 (by decide) ?_
  refine xiadd hx hb dL_law_1644 ?_
  refine xsld hx hb hX hbl hbA hS hL (by omega) dL_law_1645 ?_
  refine xtop e_y.symm ?_
  refine lv_aload_n hx hb dL_law_1646 rfl (lv_at hl 2 rfl) ?_
  refine lcalli (vx_runSW (As := [.ref (a 0), .int g, .int y, .ref o]) (rest := []) ⟨hx, hb, hml, hown, hts⟩ (c_L_reached l hl0 D cs sa a M N o go _ hA.1 hA.2.2.2.1 n g y hW.2.1.1 hW.1.1) (vx_cwSW 4 hts gL_law_L_reached rfl rfl rfl (by decide +kernel) ⟨(Nat.le_of_ble_eq_true rfl), (Nat.le_of_ble_eq_true rfl)⟩) (lpreS (LJ_o hJ) hK hT hNc hZ hS (Ap_o hA hS.1)) rfl rfl hl.1 rfl (lv_room (Nat.le_of_ble_eq_true rfl)) dL_law_1647 (lfit hc hs (by decide) (by decide))) hS (Ap_o hA hS.1) (fun u9 H locs hu hP9 hk9 hS => ?_)
  have hJ := LJ_x hJ hA hP9 hk9
  obtain ⟨K9, hK9⟩ : ∃ K9 : Nat, K9 = (if (isGr g) = true then (if (isIn n y) = true then 0 else 2) else 1) := ⟨_, rfl⟩
  have h4 : K9 < 4 := by rw [hK9]; repeat' (first | decide | split)
  refine xtop (congrArg nI hK9.symm) ?_
  refine lv_istore (lv' := [(6, .int (nI K9)), (5, .int (nI i)), (4, .ref od), (3, .ref o), (2, .ref (b 0)), (1, .ref (a 0)), (0, .ref bq)]) hx hb dL_law_1650 hl (by decide) rfl (fun ls hl => ?_)
  refine lv_aload_n hx hb dL_law_1652 rfl (lv_at hl 4 rfl) ?_
  refine lv_aload_n hx hb dL_law_1653 rfl (lv_at hl 6 rfl) ?_
  refine lv_iload hx hb dL_law_1654 (lv_at hl 1 rfl) ?_
  refine lv_iconst (v := nI 1) hx hb dL_law_1656 (by decide) ?_
  refine xiadd hx hb dL_law_1657 ?_
  refine xsld hx hb hX hbl hbA hS hL (by omega) dL_law_1658 ?_
  refine xtop e_g.symm ?_
  refine lv_aload_n hx hb dL_law_1659 rfl (lv_at hl 6 rfl) ?_
  refine lv_iload hx hb dL_law_1660 (lv_at hl 1 rfl) ?_
  refine lv_iconst (v := nI 2) hx hb dL_law_1662 (by decide) ?_
  refine xiadd hx hb dL_law_1663 ?_
  refine xsld hx hb hX hbl hbA hS hL (by omega) dL_law_1664 ?_
  refine xtop e_y.symm ?_
  refine lcalli (va_runV (As := [.int g, .int y]) (rest := []) ⟨hx, hb, hml, hown, hts⟩ (c_X5_reached l D cs b R _ hA.2.1 n g y hW.2.2.1.1 hW.1.1) (cwV 2 hts gL_law_X5_reached rfl rfl rfl (by decide +kernel) ⟨(Nat.le_of_ble_eq_true rfl), (Nat.le_of_ble_eq_true rfl)⟩) (xpreVs hJ.2.1 hK (ci := 5) 0 rfl rfl) rfl rfl hl.1 rfl (lv_room (Nat.le_of_ble_eq_true rfl)) dL_law_1665 (lfit2 hc hs (by decide) (by decide))) hS (Ap_b hA hS.1) (fun _ H locs hv hP9 hk9 hS => ?_)
  obtain ⟨R1, hv⟩ : ∃ R1 : Nat → Nat → Int32, R1 = wr R 0 0 (if isGr g = true then (if isIn n y = true then nI 0 else nI 2) else nI 1) := ⟨_, rfl⟩
  rw [← hv] at hP9
  have hJ := LJ_r hJ hA hP9 hk9
  obtain ⟨B9, hB9⟩ : ∃ B9 : Int32, B9 = (if isGr g = true then (if isIn n y = true then reachR R n g y.toNatClampNeg (sg n - nI 1) else nI 0) else nI 0) := ⟨_, rfl⟩
  refine xtop hB9.symm ?_
  refine lv_istore (lv' := [(7, .int B9), (6, .int (nI K9)), (5, .int (nI i)), (4, .ref od), (3, .ref o), (2, .ref (b 0)), (1, .ref (a 0)), (0, .ref bq)]) hx hb dL_law_1668 hl (by decide) rfl (fun ls hl => ?_)
  obtain ⟨e0, e1, hsim⟩ := op_reached hW hF g y hu hv
  have e0 : R1 0 0 = nI K9 := e0.trans (congrArg nI hK9.symm)
  refine lv_aload_n hx hb dL_law_1670 rfl (lv_at hl 5 rfl) ?_
  refine lcall0i (va_runV (As := []) (rest := []) ⟨hx, hb, hml, hown, hts⟩ (c_X5_thrown l D cs b R1) (cwV 0 hts gL_law_X5_thrown rfl rfl rfl (by decide +kernel) ⟨(Nat.le_of_ble_eq_true rfl), (Nat.le_of_ble_eq_true rfl)⟩) (xpreV hJ.2.1 hK (ci := 5) 0 rfl rfl) rfl rfl hl.1 rfl (lv_room (Nat.le_of_ble_eq_true rfl)) dL_law_1671 (lfit3 (z := 2) (w := 12) (z2 := 0) (w2 := 0) hc hs (by decide) (by decide))) hS (fun H locs hk9 hS => ?_)
  have hJ := LJ_0 hJ hk9
  refine xtop e0 ?_
  refine lv_iload hx hb dL_law_1674 (lv_at hl 1 rfl) ?_
  refine lv_icmp_eq (tgt := 1681) hx hb dL_law_1676 (by decide) (fun _ => ?_) (fun q => absurd rfl q)
  refine lv_iload hx hb dL_law_1681 (lv_at hl 1 rfl) ?_
  refine lv_if_ne (tgt := 1698) hx hb dL_law_1683 (by decide) (fun q => ?_) (fun q => ?_)
  ·
    refine lv_goto (tgt := 2008) hx hb dL_law_1698 (by decide) ?_
    exact lfin hkk hsim hJ hS (lv_sub hl [2, 3, 4, 5, 6, 7] rfl) (by decide) (by decide)
  ·
    refine lv_aload_n hx hb dL_law_1686 rfl (lv_at hl 4 rfl) ?_
    refine lv_iconst (v := nI 0) hx hb dL_law_1687 (by decide) ?_
    have e2 := e1 (hK9.symm.trans (nI_c h4 q))
    refine xlald (q0 := 0) (t0 := 1) hx hb hK.1 hJ.2.2.1 rfl rfl (by decide) (by decide) dL_law_1688 ?_
    refine xtopl (y := B9.toInt64) (by rw [hB9]; exact e2) ?_
    refine lv_iload hx hb dL_law_1689 (lv_at hl 0 rfl) ?_
    refine lv_i2l (v := B9.toInt64) hx hb dL_law_1691 rfl ?_
    refine W.lcmp hx hb dL_law_1692 ?_
    refine lv_if_eq (tgt := 1698) hx hb dL_law_1693 (by decide) (fun _ => ?_) (fun q => absurd ((lg_cmp_eq _ _).mpr rfl) q)
    refine lv_goto (tgt := 2008) hx hb dL_law_1698 (by decide) ?_
    exact lfin hkk hsim hJ hS (lv_sub hl [2, 3, 4, 5, 6, 7] rfl) (by decide) (by decide)

set_option maxHeartbeats 4000000 in
set_option maxRecDepth 100000 in
theorem k_areAlike {p : Program} {l : Launch} {e : Env} {s : State} {m : MethodId} {below : List Frame} {meth : Method} {c : Code} {bq L : Nat} {xs : Nat → Int32} {D : va_G} {cs sa a b : Nat → Nat} {o od : Nat} {Q : State → Prop} {i cells slots : Nat} {M R : Nat → Nat → Int32} {N go : Nat → Int64} {gd : Nat → UInt64} {H : Heap} {locs : List Loc} {ls : Array Slot} (C : LX p l s m meth c bq L xs D cs sa a b o od) (hi : i + 5 ≤ L) (hsim : SimE M N R) (hJ : LJ D cs a b o od M N R go gd H) (hS : va_S (fun q : Nat => s.heap.size ≤ q) s.heap H locs) (hl : lv_has ls 9 [(5, .int (nI i)), (4, .ref od), (3, .ref o), (2, .ref (b 0)), (1, .ref (a 0)), (0, .ref bq)]) (hc : cells + 10 ≤ 601024) (hs : slots + 200 ≤ 7293034) (hkk : LK p l e s m below meth c bq D cs a b o od Q i cells slots) : W p l e room_1 s m #[Value.ref bq] below meth c H locs cells slots Q (F0 m 1701 ls []) := by
  obtain ⟨⟨hx, hb, hr, hml, hown, -, hX, hbl, hlocks, -⟩, hts, hl0, hL, hK, hT, hNc, hZ, hA⟩ := C
  obtain ⟨n, act, nf, kd, p1, p2, ns, sb, ag, hW, hF⟩ := hsim
  have hb : c.code = cL_law := hb
  have hown : s.vm.findClass RL = some m.cls := hown
  have hbA : ¬ (fun q : Nat => s.heap.size ≤ q) bq := Nat.not_le.mpr hbl
  obtain ⟨x, e_x⟩ : ∃ x : Int32, x = xs (i + 1) := ⟨_, rfl⟩
  obtain ⟨y, e_y⟩ : ∃ y : Int32, y = xs (i + 2) := ⟨_, rfl⟩
  refine lv_aload_n hx hb dL_law_1701 rfl (lv_at hl 4 rfl) ?_
  refine lv_aload_n hx hb dL_law_1702 rfl (lv_at hl 5 rfl) ?_
  refine lv_iload hx hb dL_law_1703 (lv_at hl 0 rfl) ?_
  refine lv_iconst (v := nI 1) hx hb dL_law_1705 (by decide) ?_
  refine xiadd hx hb dL_law_1706 ?_
  refine xsld hx hb hX hbl hbA hS hL (by omega) dL_law_1707 ?_
  refine xtop e_x.symm ?_
  refine lv_aload_n hx hb dL_law_1708 rfl (lv_at hl 5 rfl) ?_
  refine lv_iload hx hb dL_law_1709 (lv_at hl 0 rfl) ?_
  refine lv_iconst (v := nI 2) hx hb dL_law_1711 (by decide) ?_
  refine xiadd hx hb dL_law_1712 ?_
  refine xsld hx hb hX hbl hbA hS hL (by omega) dL_law_1713 ?_
  refine xtop e_y.symm ?_
  refine lv_aload_n hx hb dL_law_1714 rfl (lv_at hl 2 rfl) ?_
  refine lcalli (vx_runSW (As := [.ref (a 0), .int x, .int y, .ref o]) (rest := []) ⟨hx, hb, hml, hown, hts⟩ (c_L_areAlike l hl0 D cs sa a M N o go _ hA.1 hA.2.2.2.1 n x y hW.2.1.1 hW.1.1) (vx_cwSW 4 hts gL_law_L_areAlike rfl rfl rfl (by decide +kernel) ⟨(Nat.le_of_ble_eq_true rfl), (Nat.le_of_ble_eq_true rfl)⟩) (lpreS (LJ_o hJ) hK hT hNc hZ hS (Ap_o hA hS.1)) rfl rfl hl.1 rfl (lv_room (Nat.le_of_ble_eq_true rfl)) dL_law_1715 (lfit hc hs (by decide) (by decide))) hS (Ap_o hA hS.1) (fun u9 H locs hu hP9 hk9 hS => ?_)
  have hJ := LJ_x hJ hA hP9 hk9
  obtain ⟨K9, hK9⟩ : ∃ K9 : Nat, K9 = (if (isIn n x) = true then (if (isIn n y) = true then 0 else 1) else 1) := ⟨_, rfl⟩
  have h4 : K9 < 4 := by rw [hK9]; repeat' (first | decide | split)
  refine xtop (congrArg nI hK9.symm) ?_
  refine lv_istore (lv' := [(6, .int (nI K9)), (5, .int (nI i)), (4, .ref od), (3, .ref o), (2, .ref (b 0)), (1, .ref (a 0)), (0, .ref bq)]) hx hb dL_law_1718 hl (by decide) rfl (fun ls hl => ?_)
  refine lv_aload_n hx hb dL_law_1720 rfl (lv_at hl 4 rfl) ?_
  refine lv_aload_n hx hb dL_law_1721 rfl (lv_at hl 6 rfl) ?_
  refine lv_iload hx hb dL_law_1722 (lv_at hl 1 rfl) ?_
  refine lv_iconst (v := nI 1) hx hb dL_law_1724 (by decide) ?_
  refine xiadd hx hb dL_law_1725 ?_
  refine xsld hx hb hX hbl hbA hS hL (by omega) dL_law_1726 ?_
  refine xtop e_x.symm ?_
  refine lv_aload_n hx hb dL_law_1727 rfl (lv_at hl 6 rfl) ?_
  refine lv_iload hx hb dL_law_1728 (lv_at hl 1 rfl) ?_
  refine lv_iconst (v := nI 2) hx hb dL_law_1730 (by decide) ?_
  refine xiadd hx hb dL_law_1731 ?_
  refine xsld hx hb hX hbl hbA hS hL (by omega) dL_law_1732 ?_
  refine xtop e_y.symm ?_
  refine lcalli (va_runV (As := [.int x, .int y]) (rest := []) ⟨hx, hb, hml, hown, hts⟩ (c_X5_areAlike l D cs b R _ hA.2.1 n x y hW.2.2.1.1 hW.1.1) (cwV 2 hts gL_law_X5_areAlike rfl rfl rfl (by decide +kernel) ⟨(Nat.le_of_ble_eq_true rfl), (Nat.le_of_ble_eq_true rfl)⟩) (xpreVs hJ.2.1 hK (ci := 5) 0 rfl rfl) rfl rfl hl.1 rfl (lv_room (Nat.le_of_ble_eq_true rfl)) dL_law_1733 (lfit2 hc hs (by decide) (by decide))) hS (Ap_b hA hS.1) (fun R1 H locs hv hP9 hk9 hS => ?_)
  have hJ := LJ_r hJ hA hP9 hk9
  obtain ⟨B9, hB9⟩ : ∃ B9 : Bool, B9 = (isIn n x && isIn n y && decide (R1 11 x.toNatClampNeg = R1 11 y.toNatClampNeg)) := ⟨_, rfl⟩
  refine xtop (congrArg bI hB9.symm) ?_
  refine lv_istore (lv' := [(7, .int (bI B9)), (6, .int (nI K9)), (5, .int (nI i)), (4, .ref od), (3, .ref o), (2, .ref (b 0)), (1, .ref (a 0)), (0, .ref bq)]) hx hb dL_law_1736 hl (by decide) rfl (fun ls hl => ?_)
  obtain ⟨e0, e1, hsim⟩ := op_areAlike hW hF x y hu hv
  have e0 : R1 0 0 = nI K9 := e0.trans (congrArg nI hK9.symm)
  refine lv_aload_n hx hb dL_law_1738 rfl (lv_at hl 5 rfl) ?_
  refine lcall0i (va_runV (As := []) (rest := []) ⟨hx, hb, hml, hown, hts⟩ (c_X5_thrown l D cs b R1) (cwV 0 hts gL_law_X5_thrown rfl rfl rfl (by decide +kernel) ⟨(Nat.le_of_ble_eq_true rfl), (Nat.le_of_ble_eq_true rfl)⟩) (xpreV hJ.2.1 hK (ci := 5) 0 rfl rfl) rfl rfl hl.1 rfl (lv_room (Nat.le_of_ble_eq_true rfl)) dL_law_1739 (lfit3 (z := 2) (w := 12) (z2 := 1) (w2 := 24) hc hs (by decide) (by decide))) hS (fun H locs hk9 hS => ?_)
  have hJ := LJ_0 hJ hk9
  refine xtop e0 ?_
  refine lv_iload hx hb dL_law_1742 (lv_at hl 1 rfl) ?_
  refine lv_icmp_eq (tgt := 1749) hx hb dL_law_1744 (by decide) (fun _ => ?_) (fun q => absurd rfl q)
  refine lv_iload hx hb dL_law_1749 (lv_at hl 1 rfl) ?_
  refine lv_if_ne (tgt := 1773) hx hb dL_law_1751 (by decide) (fun q => ?_) (fun q => ?_)
  ·
    refine lv_goto (tgt := 2008) hx hb dL_law_1773 (by decide) ?_
    exact lfin hkk hsim hJ hS (lv_sub hl [2, 3, 4, 5, 6, 7] rfl) (by decide) (by decide)
  ·
    refine lv_aload_n hx hb dL_law_1754 rfl (lv_at hl 4 rfl) ?_
    refine lv_iconst (v := nI 0) hx hb dL_law_1755 (by decide) ?_
    have e2 := e1 (hK9.symm.trans (nI_c h4 q))
    refine xlald (q0 := 0) (t0 := 1) hx hb hK.1 hJ.2.2.1 rfl rfl (by decide) (by decide) dL_law_1756 ?_
    refine xtopl (y := if B9 = true then (1 : Int64) else 0) (by rw [hB9]; exact e2) ?_
    refine lv_iload hx hb dL_law_1757 (lv_at hl 0 rfl) ?_
    refine xbl (t1 := 1766) (t2 := 1767) hx hb dL_law_1759 (by decide) dL_law_1762 dL_law_1763 (by decide) dL_law_1766 rfl ?_
    refine W.lcmp hx hb dL_law_1767 ?_
    refine lv_if_eq (tgt := 1773) hx hb dL_law_1768 (by decide) (fun _ => ?_) (fun q => absurd ((lg_cmp_eq _ _).mpr rfl) q)
    refine lv_goto (tgt := 2008) hx hb dL_law_1773 (by decide) ?_
    exact lfin hkk hsim hJ hS (lv_sub hl [2, 3, 4, 5, 6, 7] rfl) (by decide) (by decide)

set_option maxHeartbeats 4000000 in
set_option maxRecDepth 100000 in
theorem k_announce {p : Program} {l : Launch} {e : Env} {s : State} {m : MethodId} {below : List Frame} {meth : Method} {c : Code} {bq L : Nat} {xs : Nat → Int32} {D : va_G} {cs sa a b : Nat → Nat} {o od : Nat} {Q : State → Prop} {i cells slots : Nat} {M R : Nat → Nat → Int32} {N go : Nat → Int64} {gd : Nat → UInt64} {H : Heap} {locs : List Loc} {ls : Array Slot} (C : LX p l s m meth c bq L xs D cs sa a b o od) (hi : i + 5 ≤ L) (hsim : SimE M N R) (hJ : LJ D cs a b o od M N R go gd H) (hS : va_S (fun q : Nat => s.heap.size ≤ q) s.heap H locs) (hl : lv_has ls 9 [(5, .int (nI i)), (4, .ref od), (3, .ref o), (2, .ref (b 0)), (1, .ref (a 0)), (0, .ref bq)]) (hc : cells + 10 ≤ 601024) (hs : slots + 200 ≤ 7293034) (hkk : LK p l e s m below meth c bq D cs a b o od Q i cells slots) : W p l e room_1 s m #[Value.ref bq] below meth c H locs cells slots Q (F0 m 1776 ls []) := by
  obtain ⟨⟨hx, hb, hr, hml, hown, -, hX, hbl, hlocks, -⟩, hts, hl0, hL, hK, hT, hNc, hZ, hA⟩ := C
  obtain ⟨n, act, nf, kd, p1, p2, ns, sb, ag, hW, hF⟩ := hsim
  have hb : c.code = cL_law := hb
  have hown : s.vm.findClass RL = some m.cls := hown
  have hbA : ¬ (fun q : Nat => s.heap.size ≤ q) bq := Nat.not_le.mpr hbl
  obtain ⟨x, e_x⟩ : ∃ x : Int32, x = xs (i + 1) := ⟨_, rfl⟩
  refine lv_aload_n hx hb dL_law_1776 rfl (lv_at hl 4 rfl) ?_
  refine lv_aload_n hx hb dL_law_1777 rfl (lv_at hl 5 rfl) ?_
  refine lv_iload hx hb dL_law_1778 (lv_at hl 0 rfl) ?_
  refine lv_iconst (v := nI 1) hx hb dL_law_1780 (by decide) ?_
  refine xiadd hx hb dL_law_1781 ?_
  refine xsld hx hb hX hbl hbA hS hL (by omega) dL_law_1782 ?_
  refine xtop e_x.symm ?_
  refine lv_aload_n hx hb dL_law_1783 rfl (lv_at hl 2 rfl) ?_
  refine lcalli (vx_runSW (As := [.ref (a 0), .int x, .ref o]) (rest := []) ⟨hx, hb, hml, hown, hts⟩ (c_L_announce l hl0 D cs sa a M N o go _ hA.1 hA.2.2.2.1 n nf kd p1 p2 ns sb act x hW.2.1.1 hW.1.1 hF.2.1 hF.1 hF.2.2.2.1 hW.2.1.2 (act_lt hW)) (vx_cwSW 3 hts gL_law_L_announce rfl rfl rfl (by decide +kernel) ⟨(Nat.le_of_ble_eq_true rfl), (Nat.le_of_ble_eq_true rfl)⟩) (lpreS (LJ_o hJ) hK hT hNc hZ hS (Ap_o hA hS.1)) rfl rfl hl.1 rfl (lv_room (Nat.le_of_ble_eq_true rfl)) dL_law_1784 (lfit hc hs (by decide) (by decide))) hS (Ap_o hA hS.1) (fun u9 H locs hu hP9 hk9 hS => ?_)
  have hJ := LJ_x hJ hA hP9 hk9
  obtain ⟨K9, hK9⟩ : ∃ K9 : Nat, K9 = (if (isIn nf x) = true then (if (!decide (n = 0) && bt (sem M n kd p1 p2 sb (sg n - nI 1) x.toNatClampNeg) act) = true then 0 else 2) else 1) := ⟨_, rfl⟩
  have h4 : K9 < 4 := by rw [hK9]; repeat' (first | decide | split)
  refine xtop (congrArg nI hK9.symm) ?_
  refine lv_istore (lv' := [(6, .int (nI K9)), (5, .int (nI i)), (4, .ref od), (3, .ref o), (2, .ref (b 0)), (1, .ref (a 0)), (0, .ref bq)]) hx hb dL_law_1787 hl (by decide) rfl (fun ls hl => ?_)
  refine lv_aload_n hx hb dL_law_1789 rfl (lv_at hl 4 rfl) ?_
  refine lv_aload_n hx hb dL_law_1790 rfl (lv_at hl 6 rfl) ?_
  refine lv_iload hx hb dL_law_1791 (lv_at hl 1 rfl) ?_
  refine lv_iconst (v := nI 1) hx hb dL_law_1793 (by decide) ?_
  refine xiadd hx hb dL_law_1794 ?_
  refine xsld hx hb hX hbl hbA hS hL (by omega) dL_law_1795 ?_
  refine xtop e_x.symm ?_
  refine lcalli (va_runV (As := [.int x]) (rest := []) ⟨hx, hb, hml, hown, hts⟩ (c_X5_announce l D cs b R _ hA.2.1 n nf kd p1 p2 ns sb ag act R x hW.2.2.1.1 hW.1.1 hF.2.2.1 hF.1 Rw_r hF.2.2.2.2.1 hW.2.2.1.2 (act_lt hW) hW.1.2.1) (cwV 1 hts gL_law_X5_announce rfl rfl rfl (by decide +kernel) ⟨(Nat.le_of_ble_eq_true rfl), (Nat.le_of_ble_eq_true rfl)⟩) (xpreVs hJ.2.1 hK (ci := 5) 0 rfl rfl) rfl rfl hl.1 rfl (lv_room (Nat.le_of_ble_eq_true rfl)) dL_law_1796 (lfit2 hc hs (by decide) (by decide))) hS (Ap_b hA hS.1) (fun R1 H locs hv hP9 hk9 hS => ?_)
  have hJ := LJ_r hJ hA hP9 hk9
  obtain ⟨B9, hB9⟩ : ∃ B9 : Int32, B9 = (if isIn nf x = true then (if n = 0 ∨ bt (semR R n kd p1 p2 sb ag (sg n - nI 1) x.toNatClampNeg) act = false then nI 0 else nI n - nI (rk (semR R n kd p1 p2 sb ag (sg n - nI 1) x.toNatClampNeg) n)) else nI 0) := ⟨_, rfl⟩
  refine xtop hB9.symm ?_
  refine lv_istore (lv' := [(7, .int B9), (6, .int (nI K9)), (5, .int (nI i)), (4, .ref od), (3, .ref o), (2, .ref (b 0)), (1, .ref (a 0)), (0, .ref bq)]) hx hb dL_law_1799 hl (by decide) rfl (fun ls hl => ?_)
  obtain ⟨e0, e1, hsim⟩ := op_announce hW hF x hu hv
  have e0 : R1 0 0 = nI K9 := e0.trans (congrArg nI hK9.symm)
  refine lv_aload_n hx hb dL_law_1801 rfl (lv_at hl 5 rfl) ?_
  refine lcall0i (va_runV (As := []) (rest := []) ⟨hx, hb, hml, hown, hts⟩ (c_X5_thrown l D cs b R1) (cwV 0 hts gL_law_X5_thrown rfl rfl rfl (by decide +kernel) ⟨(Nat.le_of_ble_eq_true rfl), (Nat.le_of_ble_eq_true rfl)⟩) (xpreV hJ.2.1 hK (ci := 5) 0 rfl rfl) rfl rfl hl.1 rfl (lv_room (Nat.le_of_ble_eq_true rfl)) dL_law_1802 (lfit3 (z := 3) (w := 18) (z2 := 1) (w2 := 24) hc hs (by decide) (by decide))) hS (fun H locs hk9 hS => ?_)
  have hJ := LJ_0 hJ hk9
  refine xtop e0 ?_
  refine lv_iload hx hb dL_law_1805 (lv_at hl 1 rfl) ?_
  refine lv_icmp_eq (tgt := 1812) hx hb dL_law_1807 (by decide) (fun _ => ?_) (fun q => absurd rfl q)
  refine lv_iload hx hb dL_law_1812 (lv_at hl 1 rfl) ?_
  refine lv_if_ne (tgt := 1829) hx hb dL_law_1814 (by decide) (fun q => ?_) (fun q => ?_)
  ·
    refine lv_goto (tgt := 2008) hx hb dL_law_1829 (by decide) ?_
    exact lfin hkk hsim hJ hS (lv_sub hl [2, 3, 4, 5, 6, 7] rfl) (by decide) (by decide)
  ·
    refine lv_aload_n hx hb dL_law_1817 rfl (lv_at hl 4 rfl) ?_
    refine lv_iconst (v := nI 0) hx hb dL_law_1818 (by decide) ?_
    have e2 := e1 (hK9.symm.trans (nI_c h4 q))
    refine xlald (q0 := 0) (t0 := 1) hx hb hK.1 hJ.2.2.1 rfl rfl (by decide) (by decide) dL_law_1819 ?_
    refine xtopl (y := B9.toInt64) (by rw [hB9]; exact e2) ?_
    refine lv_iload hx hb dL_law_1820 (lv_at hl 0 rfl) ?_
    refine lv_i2l (v := B9.toInt64) hx hb dL_law_1822 rfl ?_
    refine W.lcmp hx hb dL_law_1823 ?_
    refine lv_if_eq (tgt := 1829) hx hb dL_law_1824 (by decide) (fun _ => ?_) (fun q => absurd ((lg_cmp_eq _ _).mpr rfl) q)
    refine lv_goto (tgt := 2008) hx hb dL_law_1829 (by decide) ?_
    exact lfin hkk hsim hJ hS (lv_sub hl [2, 3, 4, 5, 6, 7] rfl) (by decide) (by decide)

set_option maxHeartbeats 4000000 in
set_option maxRecDepth 100000 in
theorem k_tell {p : Program} {l : Launch} {e : Env} {s : State} {m : MethodId} {below : List Frame} {meth : Method} {c : Code} {bq L : Nat} {xs : Nat → Int32} {D : va_G} {cs sa a b : Nat → Nat} {o od : Nat} {Q : State → Prop} {i cells slots : Nat} {M R : Nat → Nat → Int32} {N go : Nat → Int64} {gd : Nat → UInt64} {H : Heap} {locs : List Loc} {ls : Array Slot} (C : LX p l s m meth c bq L xs D cs sa a b o od) (hi : i + 5 ≤ L) (hsim : SimE M N R) (hJ : LJ D cs a b o od M N R go gd H) (hS : va_S (fun q : Nat => s.heap.size ≤ q) s.heap H locs) (hl : lv_has ls 9 [(5, .int (nI i)), (4, .ref od), (3, .ref o), (2, .ref (b 0)), (1, .ref (a 0)), (0, .ref bq)]) (hc : cells + 10 ≤ 601024) (hs : slots + 200 ≤ 7293034) (hkk : LK p l e s m below meth c bq D cs a b o od Q i cells slots) : W p l e room_1 s m #[Value.ref bq] below meth c H locs cells slots Q (F0 m 1832 ls []) := by
  obtain ⟨⟨hx, hb, hr, hml, hown, -, hX, hbl, hlocks, -⟩, hts, hl0, hL, hK, hT, hNc, hZ, hA⟩ := C
  obtain ⟨n, act, nf, kd, p1, p2, ns, sb, ag, hW, hF⟩ := hsim
  have hb : c.code = cL_law := hb
  have hown : s.vm.findClass RL = some m.cls := hown
  have hbA : ¬ (fun q : Nat => s.heap.size ≤ q) bq := Nat.not_le.mpr hbl
  obtain ⟨g, e_g⟩ : ∃ g : Int32, g = xs (i + 1) := ⟨_, rfl⟩
  obtain ⟨y, e_y⟩ : ∃ y : Int32, y = xs (i + 2) := ⟨_, rfl⟩
  refine lv_aload_n hx hb dL_law_1832 rfl (lv_at hl 4 rfl) ?_
  refine lv_aload_n hx hb dL_law_1833 rfl (lv_at hl 5 rfl) ?_
  refine lv_iload hx hb dL_law_1834 (lv_at hl 0 rfl) ?_
  refine lv_iconst (v := nI 1) hx hb dL_law_1836 (by decide) ?_
  refine xiadd hx hb dL_law_1837 ?_
  refine xsld hx hb hX hbl hbA hS hL (by omega) dL_law_1838 ?_
  refine xtop e_g.symm ?_
  refine lv_aload_n hx hb dL_law_1839 rfl (lv_at hl 5 rfl) ?_
  refine lv_iload hx hb dL_law_1840 (lv_at hl 0 rfl) ?_
  refine lv_iconst (v := nI 2) hx hb dL_law_1842 (by decide) ?_
  refine xiadd hx hb dL_law_1843 ?_
  refine xsld hx hb hX hbl hbA hS hL (by omega) dL_law_1844 ?_
  refine xtop e_y.symm ?_
  refine lv_aload_n hx hb dL_law_1845 rfl (lv_at hl 2 rfl) ?_
  refine lcalli (vx_runSW (As := [.ref (a 0), .int g, .int y, .ref o]) (rest := []) ⟨hx, hb, hml, hown, hts⟩ (c_L_tell l hl0 D cs sa a M N o go _ hA.1 hA.2.2.2.1 n nf kd p1 p2 ns sb g y hW.2.1.1 hW.1.1 hF.2.1 hF.1 hF.2.2.2.1) (vx_cwSW 4 hts gL_law_L_tell rfl rfl rfl (by decide +kernel) ⟨(Nat.le_of_ble_eq_true rfl), (Nat.le_of_ble_eq_true rfl)⟩) (lpreS (LJ_o hJ) hK hT hNc hZ hS (Ap_o hA hS.1)) rfl rfl hl.1 rfl (lv_room (Nat.le_of_ble_eq_true rfl)) dL_law_1846 (lfit hc hs (by decide) (by decide))) hS (Ap_o hA hS.1) (fun u9 H locs hu hP9 hk9 hS => ?_)
  have hJ := LJ_x hJ hA hP9 hk9
  obtain ⟨K9, hK9⟩ : ∃ K9 : Nat, K9 = (if (isIn nf y) = true then (if (isGr g) = true then 0 else 2) else 1) := ⟨_, rfl⟩
  have h4 : K9 < 4 := by rw [hK9]; repeat' (first | decide | split)
  refine xtop (congrArg nI hK9.symm) ?_
  refine lv_istore (lv' := [(6, .int (nI K9)), (5, .int (nI i)), (4, .ref od), (3, .ref o), (2, .ref (b 0)), (1, .ref (a 0)), (0, .ref bq)]) hx hb dL_law_1849 hl (by decide) rfl (fun ls hl => ?_)
  refine lv_aload_n hx hb dL_law_1851 rfl (lv_at hl 4 rfl) ?_
  refine lv_aload_n hx hb dL_law_1852 rfl (lv_at hl 6 rfl) ?_
  refine lv_iload hx hb dL_law_1853 (lv_at hl 1 rfl) ?_
  refine lv_iconst (v := nI 1) hx hb dL_law_1855 (by decide) ?_
  refine xiadd hx hb dL_law_1856 ?_
  refine xsld hx hb hX hbl hbA hS hL (by omega) dL_law_1857 ?_
  refine xtop e_g.symm ?_
  refine lv_aload_n hx hb dL_law_1858 rfl (lv_at hl 6 rfl) ?_
  refine lv_iload hx hb dL_law_1859 (lv_at hl 1 rfl) ?_
  refine lv_iconst (v := nI 2) hx hb dL_law_1861 (by decide) ?_
  refine xiadd hx hb dL_law_1862 ?_
  refine xsld hx hb hX hbl hbA hS hL (by omega) dL_law_1863 ?_
  refine xtop e_y.symm ?_
  refine lcalli (va_runV (As := [.int g, .int y]) (rest := []) ⟨hx, hb, hml, hown, hts⟩ (c_X5_tell l D cs b R _ hA.2.1 n nf kd p1 p2 ns sb ag R g y hW.2.2.1.1 hW.1.1 hF.2.2.1 hF.1 Rw_r hF.2.2.2.2.1) (cwV 2 hts gL_law_X5_tell rfl rfl rfl (by decide +kernel) ⟨(Nat.le_of_ble_eq_true rfl), (Nat.le_of_ble_eq_true rfl)⟩) (xpreVs hJ.2.1 hK (ci := 5) 0 rfl rfl) rfl rfl hl.1 rfl (lv_room (Nat.le_of_ble_eq_true rfl)) dL_law_1864 (lfit2 hc hs (by decide) (by decide))) hS (Ap_b hA hS.1) (fun R1 H locs hv hP9 hk9 hS => ?_)
  have hJ := LJ_r hJ hA hP9 hk9
  obtain ⟨B9, hB9⟩ : ∃ B9 : Int32, B9 = (if isIn nf y = true then (if isGr g = true then telN R g (semR R n kd p1 p2 sb ag (sg n - nI 1) y.toNatClampNeg) n 4 else nI 0) else nI 0) := ⟨_, rfl⟩
  refine xtop hB9.symm ?_
  refine lv_istore (lv' := [(7, .int B9), (6, .int (nI K9)), (5, .int (nI i)), (4, .ref od), (3, .ref o), (2, .ref (b 0)), (1, .ref (a 0)), (0, .ref bq)]) hx hb dL_law_1867 hl (by decide) rfl (fun ls hl => ?_)
  obtain ⟨e0, e1, hsim⟩ := op_tell hW hF g y hu hv
  have e0 : R1 0 0 = nI K9 := e0.trans (congrArg nI hK9.symm)
  refine lv_aload_n hx hb dL_law_1869 rfl (lv_at hl 5 rfl) ?_
  refine lcall0i (va_runV (As := []) (rest := []) ⟨hx, hb, hml, hown, hts⟩ (c_X5_thrown l D cs b R1) (cwV 0 hts gL_law_X5_thrown rfl rfl rfl (by decide +kernel) ⟨(Nat.le_of_ble_eq_true rfl), (Nat.le_of_ble_eq_true rfl)⟩) (xpreV hJ.2.1 hK (ci := 5) 0 rfl rfl) rfl rfl hl.1 rfl (lv_room (Nat.le_of_ble_eq_true rfl)) dL_law_1870 (lfit3 (z := 2) (w := 12) (z2 := 0) (w2 := 0) hc hs (by decide) (by decide))) hS (fun H locs hk9 hS => ?_)
  have hJ := LJ_0 hJ hk9
  refine xtop e0 ?_
  refine lv_iload hx hb dL_law_1873 (lv_at hl 1 rfl) ?_
  refine lv_icmp_eq (tgt := 1880) hx hb dL_law_1875 (by decide) (fun _ => ?_) (fun q => absurd rfl q)
  refine lv_iload hx hb dL_law_1880 (lv_at hl 1 rfl) ?_
  refine lv_if_ne (tgt := 1897) hx hb dL_law_1882 (by decide) (fun q => ?_) (fun q => ?_)
  ·
    refine lv_goto (tgt := 2008) hx hb dL_law_1897 (by decide) ?_
    exact lfin hkk hsim hJ hS (lv_sub hl [2, 3, 4, 5, 6, 7] rfl) (by decide) (by decide)
  ·
    refine lv_aload_n hx hb dL_law_1885 rfl (lv_at hl 4 rfl) ?_
    refine lv_iconst (v := nI 0) hx hb dL_law_1886 (by decide) ?_
    have e2 := e1 (hK9.symm.trans (nI_c h4 q))
    refine xlald (q0 := 0) (t0 := 1) hx hb hK.1 hJ.2.2.1 rfl rfl (by decide) (by decide) dL_law_1887 ?_
    refine xtopl (y := B9.toInt64) (by rw [hB9]; exact e2) ?_
    refine lv_iload hx hb dL_law_1888 (lv_at hl 0 rfl) ?_
    refine lv_i2l (v := B9.toInt64) hx hb dL_law_1890 rfl ?_
    refine W.lcmp hx hb dL_law_1891 ?_
    refine lv_if_eq (tgt := 1897) hx hb dL_law_1892 (by decide) (fun _ => ?_) (fun q => absurd ((lg_cmp_eq _ _).mpr rfl) q)
    refine lv_goto (tgt := 2008) hx hb dL_law_1897 (by decide) ?_
    exact lfin hkk hsim hJ hS (lv_sub hl [2, 3, 4, 5, 6, 7] rfl) (by decide) (by decide)

set_option maxHeartbeats 4000000 in
set_option maxRecDepth 100000 in
theorem k_whisper {p : Program} {l : Launch} {e : Env} {s : State} {m : MethodId} {below : List Frame} {meth : Method} {c : Code} {bq L : Nat} {xs : Nat → Int32} {D : va_G} {cs sa a b : Nat → Nat} {o od : Nat} {Q : State → Prop} {i cells slots : Nat} {M R : Nat → Nat → Int32} {N go : Nat → Int64} {gd : Nat → UInt64} {H : Heap} {locs : List Loc} {ls : Array Slot} (C : LX p l s m meth c bq L xs D cs sa a b o od) (hi : i + 5 ≤ L) (hsim : SimE M N R) (hJ : LJ D cs a b o od M N R go gd H) (hS : va_S (fun q : Nat => s.heap.size ≤ q) s.heap H locs) (hl : lv_has ls 9 [(5, .int (nI i)), (4, .ref od), (3, .ref o), (2, .ref (b 0)), (1, .ref (a 0)), (0, .ref bq)]) (hc : cells + 10 ≤ 601024) (hs : slots + 200 ≤ 7293034) (hkk : LK p l e s m below meth c bq D cs a b o od Q i cells slots) : W p l e room_1 s m #[Value.ref bq] below meth c H locs cells slots Q (F0 m 1900 ls []) := by
  obtain ⟨⟨hx, hb, hr, hml, hown, -, hX, hbl, hlocks, -⟩, hts, hl0, hL, hK, hT, hNc, hZ, hA⟩ := C
  obtain ⟨n, act, nf, kd, p1, p2, ns, sb, ag, hW, hF⟩ := hsim
  have hb : c.code = cL_law := hb
  have hown : s.vm.findClass RL = some m.cls := hown
  have hbA : ¬ (fun q : Nat => s.heap.size ≤ q) bq := Nat.not_le.mpr hbl
  obtain ⟨g, e_g⟩ : ∃ g : Int32, g = xs (i + 1) := ⟨_, rfl⟩
  obtain ⟨y, e_y⟩ : ∃ y : Int32, y = xs (i + 2) := ⟨_, rfl⟩
  refine lv_aload_n hx hb dL_law_1900 rfl (lv_at hl 4 rfl) ?_
  refine lv_aload_n hx hb dL_law_1901 rfl (lv_at hl 5 rfl) ?_
  refine lv_iload hx hb dL_law_1902 (lv_at hl 0 rfl) ?_
  refine lv_iconst (v := nI 1) hx hb dL_law_1904 (by decide) ?_
  refine xiadd hx hb dL_law_1905 ?_
  refine xsld hx hb hX hbl hbA hS hL (by omega) dL_law_1906 ?_
  refine xtop e_g.symm ?_
  refine lv_aload_n hx hb dL_law_1907 rfl (lv_at hl 5 rfl) ?_
  refine lv_iload hx hb dL_law_1908 (lv_at hl 0 rfl) ?_
  refine lv_iconst (v := nI 2) hx hb dL_law_1910 (by decide) ?_
  refine xiadd hx hb dL_law_1911 ?_
  refine xsld hx hb hX hbl hbA hS hL (by omega) dL_law_1912 ?_
  refine xtop e_y.symm ?_
  refine lv_aload_n hx hb dL_law_1913 rfl (lv_at hl 2 rfl) ?_
  refine lcalli (vx_runSW (As := [.ref (a 0), .int g, .int y, .ref o]) (rest := []) ⟨hx, hb, hml, hown, hts⟩ (c_L_whisper l hl0 D cs sa a M N o go _ hA.1 hA.2.2.2.1 n nf kd p1 p2 ns sb act g y hW.2.1.1 hW.1.1 hF.2.1 hF.1 hF.2.2.2.1 hW.2.1.2 (act_lt hW)) (vx_cwSW 4 hts gL_law_L_whisper rfl rfl rfl (by decide +kernel) ⟨(Nat.le_of_ble_eq_true rfl), (Nat.le_of_ble_eq_true rfl)⟩) (lpreS (LJ_o hJ) hK hT hNc hZ hS (Ap_o hA hS.1)) rfl rfl hl.1 rfl (lv_room (Nat.le_of_ble_eq_true rfl)) dL_law_1914 (lfit hc hs (by decide) (by decide))) hS (Ap_o hA hS.1) (fun u9 H locs hu hP9 hk9 hS => ?_)
  have hJ := LJ_x hJ hA hP9 hk9
  obtain ⟨K9, hK9⟩ : ∃ K9 : Nat, K9 = (if (isIn nf y) = true then (if (isGr g) = true then (if (!decide (n = 0) && bt (sem M n kd p1 p2 sb (sg n - nI 1) y.toNatClampNeg) act) = true then (if (decide (n + fb_ct (bt (sem M n kd p1 p2 sb (sg n - nI 1) y.toNatClampNeg)) 32 ≤ 24)) = true then 0 else 3) else 3) else 2) else 1) := ⟨_, rfl⟩
  have h4 : K9 < 4 := by rw [hK9]; repeat' (first | decide | split)
  refine xtop (congrArg nI hK9.symm) ?_
  refine lv_istore (lv' := [(6, .int (nI K9)), (5, .int (nI i)), (4, .ref od), (3, .ref o), (2, .ref (b 0)), (1, .ref (a 0)), (0, .ref bq)]) hx hb dL_law_1917 hl (by decide) rfl (fun ls hl => ?_)
  refine lv_aload_n hx hb dL_law_1919 rfl (lv_at hl 4 rfl) ?_
  refine lv_aload_n hx hb dL_law_1920 rfl (lv_at hl 6 rfl) ?_
  refine lv_iload hx hb dL_law_1921 (lv_at hl 1 rfl) ?_
  refine lv_iconst (v := nI 1) hx hb dL_law_1923 (by decide) ?_
  refine xiadd hx hb dL_law_1924 ?_
  refine xsld hx hb hX hbl hbA hS hL (by omega) dL_law_1925 ?_
  refine xtop e_g.symm ?_
  refine lv_aload_n hx hb dL_law_1926 rfl (lv_at hl 6 rfl) ?_
  refine lv_iload hx hb dL_law_1927 (lv_at hl 1 rfl) ?_
  refine lv_iconst (v := nI 2) hx hb dL_law_1929 (by decide) ?_
  refine xiadd hx hb dL_law_1930 ?_
  refine xsld hx hb hX hbl hbA hS hL (by omega) dL_law_1931 ?_
  refine xtop e_y.symm ?_
  refine lcalli (va_runV (As := [.int g, .int y]) (rest := []) ⟨hx, hb, hml, hown, hts⟩ (c_X5_whisper l D cs b R _ hA.2.1 n nf kd p1 p2 ns sb ag act R g y hW.2.2.1.1 hW.1.1 hF.2.2.1 hF.1 Rw_r hF.2.2.2.2.1 hW.2.2.1.2 (act_lt hW) hW.1.2.1) (cwV 2 hts gL_law_X5_whisper rfl rfl rfl (by decide +kernel) ⟨(Nat.le_of_ble_eq_true rfl), (Nat.le_of_ble_eq_true rfl)⟩) (xpreVs hJ.2.1 hK (ci := 5) 0 rfl rfl) rfl rfl hl.1 rfl (lv_room (Nat.le_of_ble_eq_true rfl)) dL_law_1932 (lfit2 hc hs (by decide) (by decide))) hS (Ap_b hA hS.1) (fun R1 H locs hv hP9 hk9 hS => ?_)
  have hJ := LJ_r hJ hA hP9 hk9
  obtain ⟨B9, hB9⟩ : ∃ B9 : Int32, B9 = (if isIn nf y = true then (if isGr g = true then (if n = 0 ∨ bt (semR R n kd p1 p2 sb ag (sg n - nI 1) y.toNatClampNeg) act = false ∨ 24 < n + fb_ct (bt (semR R n kd p1 p2 sb ag (sg n - nI 1) y.toNatClampNeg)) 32 then nI 0 else nI (n + rk (semR R n kd p1 p2 sb ag (sg n - nI 1) y.toNatClampNeg) n)) else nI 0) else nI 0) := ⟨_, rfl⟩
  refine xtop hB9.symm ?_
  refine lv_istore (lv' := [(7, .int B9), (6, .int (nI K9)), (5, .int (nI i)), (4, .ref od), (3, .ref o), (2, .ref (b 0)), (1, .ref (a 0)), (0, .ref bq)]) hx hb dL_law_1935 hl (by decide) rfl (fun ls hl => ?_)
  obtain ⟨e0, e1, hsim⟩ := op_whisper hW hF g y hu hv
  have e0 : R1 0 0 = nI K9 := e0.trans (congrArg nI hK9.symm)
  refine lv_aload_n hx hb dL_law_1937 rfl (lv_at hl 5 rfl) ?_
  refine lcall0i (va_runV (As := []) (rest := []) ⟨hx, hb, hml, hown, hts⟩ (c_X5_thrown l D cs b R1) (cwV 0 hts gL_law_X5_thrown rfl rfl rfl (by decide +kernel) ⟨(Nat.le_of_ble_eq_true rfl), (Nat.le_of_ble_eq_true rfl)⟩) (xpreV hJ.2.1 hK (ci := 5) 0 rfl rfl) rfl rfl hl.1 rfl (lv_room (Nat.le_of_ble_eq_true rfl)) dL_law_1938 (lfit3 (z := 5) (w := 30) (z2 := 1) (w2 := 24) hc hs (by decide) (by decide))) hS (fun H locs hk9 hS => ?_)
  have hJ := LJ_0 hJ hk9
  refine xtop e0 ?_
  refine lv_iload hx hb dL_law_1941 (lv_at hl 1 rfl) ?_
  refine lv_icmp_eq (tgt := 1948) hx hb dL_law_1943 (by decide) (fun _ => ?_) (fun q => absurd rfl q)
  refine lv_iload hx hb dL_law_1948 (lv_at hl 1 rfl) ?_
  refine lv_if_ne (tgt := 1965) hx hb dL_law_1950 (by decide) (fun q => ?_) (fun q => ?_)
  ·
    refine lv_goto (tgt := 2008) hx hb dL_law_1965 (by decide) ?_
    exact lfin hkk hsim hJ hS (lv_sub hl [2, 3, 4, 5, 6, 7] rfl) (by decide) (by decide)
  ·
    refine lv_aload_n hx hb dL_law_1953 rfl (lv_at hl 4 rfl) ?_
    refine lv_iconst (v := nI 0) hx hb dL_law_1954 (by decide) ?_
    have e2 := e1 (hK9.symm.trans (nI_c h4 q))
    refine xlald (q0 := 0) (t0 := 1) hx hb hK.1 hJ.2.2.1 rfl rfl (by decide) (by decide) dL_law_1955 ?_
    refine xtopl (y := B9.toInt64) (by rw [hB9]; exact e2) ?_
    refine lv_iload hx hb dL_law_1956 (lv_at hl 0 rfl) ?_
    refine lv_i2l (v := B9.toInt64) hx hb dL_law_1958 rfl ?_
    refine W.lcmp hx hb dL_law_1959 ?_
    refine lv_if_eq (tgt := 1965) hx hb dL_law_1960 (by decide) (fun _ => ?_) (fun q => absurd ((lg_cmp_eq _ _).mpr rfl) q)
    refine lv_goto (tgt := 2008) hx hb dL_law_1965 (by decide) ?_
    exact lfin hkk hsim hJ hS (lv_sub hl [2, 3, 4, 5, 6, 7] rfl) (by decide) (by decide)

set_option maxHeartbeats 4000000 in
set_option maxRecDepth 100000 in
theorem k_contract {p : Program} {l : Launch} {e : Env} {s : State} {m : MethodId} {below : List Frame} {meth : Method} {c : Code} {bq L : Nat} {xs : Nat → Int32} {D : va_G} {cs sa a b : Nat → Nat} {o od : Nat} {Q : State → Prop} {i cells slots : Nat} {M R : Nat → Nat → Int32} {N go : Nat → Int64} {gd : Nat → UInt64} {H : Heap} {locs : List Loc} {ls : Array Slot} (C : LX p l s m meth c bq L xs D cs sa a b o od) (hi : i + 5 ≤ L) (hsim : SimE M N R) (hJ : LJ D cs a b o od M N R go gd H) (hS : va_S (fun q : Nat => s.heap.size ≤ q) s.heap H locs) (hl : lv_has ls 9 [(5, .int (nI i)), (4, .ref od), (3, .ref o), (2, .ref (b 0)), (1, .ref (a 0)), (0, .ref bq)]) (hc : cells + 10 ≤ 601024) (hs : slots + 200 ≤ 7293034) (hkk : LK p l e s m below meth c bq D cs a b o od Q i cells slots) : W p l e room_1 s m #[Value.ref bq] below meth c H locs cells slots Q (F0 m 1968 ls []) := by
  obtain ⟨⟨hx, hb, hr, hml, hown, -, hX, hbl, hlocks, -⟩, hts, hl0, hL, hK, hT, hNc, hZ, hA⟩ := C
  obtain ⟨n, act, nf, kd, p1, p2, ns, sb, ag, hW, hF⟩ := hsim
  have hb : c.code = cL_law := hb
  have hown : s.vm.findClass RL = some m.cls := hown
  have hbA : ¬ (fun q : Nat => s.heap.size ≤ q) bq := Nat.not_le.mpr hbl
  refine lv_aload_n hx hb dL_law_1968 rfl (lv_at hl 4 rfl) ?_
  refine lcalli (va_runV (As := []) (rest := []) ⟨hx, hb, hml, hown, hts⟩ (c_X4_contract l D cs a M N _ hA.1 n act hW.2.1.1 hW.1.1 hW.2.1.2 (act_lt hW)) (cwV 0 hts gL_law_X4_contract rfl rfl rfl (by decide +kernel) ⟨(Nat.le_of_ble_eq_true rfl), (Nat.le_of_ble_eq_true rfl)⟩) (xpreVs hJ.1 hK (ci := 4) 0 rfl rfl) rfl rfl hl.1 rfl (lv_room (Nat.le_of_ble_eq_true rfl)) dL_law_1969 (lfit hc hs (by decide) (by decide))) hS (Ap_a hA hS.1) (fun u9 H locs hu hP9 hk9 hS => ?_)
  have hJ := LJ_a hJ hA hP9 hk9
  obtain ⟨C9, hC9⟩ : ∃ C9 : Int32, C9 = u9 0 0 := ⟨_, rfl⟩
  refine xtop hC9.symm ?_
  refine lv_aload_n hx hb dL_law_1972 rfl (lv_at hl 3 rfl) ?_
  refine lcalli (va_runV (As := []) (rest := [.int C9]) ⟨hx, hb, hml, hown, hts⟩ (c_X5_contract l D cs b R _ hA.2.1 n act  hW.2.2.1.1 hW.1.1 hW.2.2.1.2 hW.1.2.1) (cwV 0 hts gL_law_X5_contract rfl rfl rfl (by decide +kernel) ⟨(Nat.le_of_ble_eq_true rfl), (Nat.le_of_ble_eq_true rfl)⟩) (xpreVs hJ.2.1 hK (ci := 5) 0 rfl rfl) rfl rfl hl.1 rfl (lv_room (Nat.le_of_ble_eq_true rfl)) dL_law_1973 (lfit2 hc hs (by decide) (by decide))) hS (Ap_b hA hS.1) (fun R1 H locs hv hP9 hk9 hS => ?_)
  have hJ := LJ_r hJ hA hP9 hk9
  have ee : C9 = R1 0 1 ∧ SimE u9 N R1 := by
    rw [hC9]; exact op_contract hW hF hu hv
  obtain ⟨ee, hsim⟩ := ee
  refine lv_icmp_eq (tgt := 2008) hx hb dL_law_1976 (by decide) (fun _ => ?_) (fun q => absurd ee q)
  exact lfin hkk hsim hJ hS hl (by decide) (by decide)

set_option maxHeartbeats 4000000 in
set_option maxRecDepth 100000 in
theorem k_prune {p : Program} {l : Launch} {e : Env} {s : State} {m : MethodId} {below : List Frame} {meth : Method} {c : Code} {bq L : Nat} {xs : Nat → Int32} {D : va_G} {cs sa a b : Nat → Nat} {o od : Nat} {Q : State → Prop} {i cells slots : Nat} {M R : Nat → Nat → Int32} {N go : Nat → Int64} {gd : Nat → UInt64} {H : Heap} {locs : List Loc} {ls : Array Slot} (C : LX p l s m meth c bq L xs D cs sa a b o od) (hi : i + 5 ≤ L) (hsim : SimE M N R) (hJ : LJ D cs a b o od M N R go gd H) (hS : va_S (fun q : Nat => s.heap.size ≤ q) s.heap H locs) (hl : lv_has ls 9 [(5, .int (nI i)), (4, .ref od), (3, .ref o), (2, .ref (b 0)), (1, .ref (a 0)), (0, .ref bq)]) (hc : cells + 10 ≤ 601024) (hs : slots + 200 ≤ 7293034) (hkk : LK p l e s m below meth c bq D cs a b o od Q i cells slots) : W p l e room_1 s m #[Value.ref bq] below meth c H locs cells slots Q (F0 m 1981 ls []) := by
  obtain ⟨⟨hx, hb, hr, hml, hown, -, hX, hbl, hlocks, -⟩, hts, hl0, hL, hK, hT, hNc, hZ, hA⟩ := C
  obtain ⟨n, act, nf, kd, p1, p2, ns, sb, ag, hW, hF⟩ := hsim
  have hb : c.code = cL_law := hb
  have hown : s.vm.findClass RL = some m.cls := hown
  have hbA : ¬ (fun q : Nat => s.heap.size ≤ q) bq := Nat.not_le.mpr hbl
  refine lv_aload_n hx hb dL_law_1981 rfl (lv_at hl 4 rfl) ?_
  refine lcalli (va_runV (As := []) (rest := []) ⟨hx, hb, hml, hown, hts⟩ (c_X4_prune l D cs a M N _ hA.1 n act hW.2.1.1 hW.1.1 hW.2.1.2 (act_lt hW)) (cwV 0 hts gL_law_X4_prune rfl rfl rfl (by decide +kernel) ⟨(Nat.le_of_ble_eq_true rfl), (Nat.le_of_ble_eq_true rfl)⟩) (xpreVs hJ.1 hK (ci := 4) 0 rfl rfl) rfl rfl hl.1 rfl (lv_room (Nat.le_of_ble_eq_true rfl)) dL_law_1982 (lfit hc hs (by decide) (by decide))) hS (Ap_a hA hS.1) (fun u9 H locs hu hP9 hk9 hS => ?_)
  have hJ := LJ_a hJ hA hP9 hk9
  obtain ⟨C9, hC9⟩ : ∃ C9 : Int32, C9 = (if n = 0 then nI 0 else nI n - bc (reachF M n (nI 15) act ||| sg act)) := ⟨_, rfl⟩
  refine xtop hC9.symm ?_
  refine lv_aload_n hx hb dL_law_1985 rfl (lv_at hl 3 rfl) ?_
  refine lcalli (va_runV (As := []) (rest := [.int C9]) ⟨hx, hb, hml, hown, hts⟩ (c_X5_prune l D cs b R _ hA.2.1 n act  hW.2.2.1.1 hW.1.1 hW.2.2.1.2 hW.1.2.1) (cwV 0 hts gL_law_X5_prune rfl rfl rfl (by decide +kernel) ⟨(Nat.le_of_ble_eq_true rfl), (Nat.le_of_ble_eq_true rfl)⟩) (xpreVs hJ.2.1 hK (ci := 5) 0 rfl rfl) rfl rfl hl.1 rfl (lv_room (Nat.le_of_ble_eq_true rfl)) dL_law_1986 (lfit2 hc hs (by decide) (by decide))) hS (Ap_b hA hS.1) (fun R1 H locs hv hP9 hk9 hS => ?_)
  have hJ := LJ_r hJ hA hP9 hk9
  have ee : C9 = (if n = 0 then nI 0 else nI n - nI (rk (sg act ||| reachR R n (nI 15) act (sg n - nI 1)) n)) ∧ SimE u9 N R1 := by
    rw [hC9]; exact op_prune hW hF hu hv
  obtain ⟨ee, hsim⟩ := ee
  refine lv_icmp_eq (tgt := 2008) hx hb dL_law_1989 (by decide) (fun _ => ?_) (fun q => absurd ee q)
  exact lfin hkk hsim hJ hS hl (by decide) (by decide)

set_option maxHeartbeats 4000000 in
set_option maxRecDepth 100000 in
theorem k_digest {p : Program} {l : Launch} {e : Env} {s : State} {m : MethodId} {below : List Frame} {meth : Method} {c : Code} {bq L : Nat} {xs : Nat → Int32} {D : va_G} {cs sa a b : Nat → Nat} {o od : Nat} {Q : State → Prop} {i cells slots : Nat} {M R : Nat → Nat → Int32} {N go : Nat → Int64} {gd : Nat → UInt64} {H : Heap} {locs : List Loc} {ls : Array Slot} (C : LX p l s m meth c bq L xs D cs sa a b o od) (hi : i + 5 ≤ L) (hsim : SimE M N R) (hJ : LJ D cs a b o od M N R go gd H) (hS : va_S (fun q : Nat => s.heap.size ≤ q) s.heap H locs) (hl : lv_has ls 9 [(5, .int (nI i)), (4, .ref od), (3, .ref o), (2, .ref (b 0)), (1, .ref (a 0)), (0, .ref bq)]) (hc : cells + 10 ≤ 601024) (hs : slots + 200 ≤ 7293034) (hkk : LK p l e s m below meth c bq D cs a b o od Q i cells slots) : W p l e room_1 s m #[Value.ref bq] below meth c H locs cells slots Q (F0 m 1994 ls []) := by
  obtain ⟨⟨hx, hb, hr, hml, hown, -, hX, hbl, hlocks, -⟩, hts, hl0, hL, hK, hT, hNc, hZ, hA⟩ := C
  obtain ⟨n, act, nf, kd, p1, p2, ns, sb, ag, hW, hF⟩ := hsim
  have hb : c.code = cL_law := hb
  have hown : s.vm.findClass RL = some m.cls := hown
  have hbA : ¬ (fun q : Nat => s.heap.size ≤ q) bq := Nat.not_le.mpr hbl
  refine lv_aload_n hx hb dL_law_1994 rfl (lv_at hl 4 rfl) ?_
  refine lcall0l (va_runV (As := []) (rest := []) ⟨hx, hb, hml, hown, hts⟩ (c_X4_digest l D cs a M N  n act nf hW.2.1.1 hW.1.1 hW.2.1.2 (act_lt hW) hF.2.1 hF.1) (cwV 0 hts gL_law_X4_digest rfl rfl rfl (by decide +kernel) ⟨(Nat.le_of_ble_eq_true rfl), (Nat.le_of_ble_eq_true rfl)⟩) (xpreV hJ.1 hK (ci := 4) 0 rfl rfl) rfl rfl hl.1 rfl (lv_room (Nat.le_of_ble_eq_true rfl)) dL_law_1995 (lfit hc hs (by decide) (by decide))) hS (fun H locs hk9 hS => ?_)
  have hJ := LJ_0 hJ hk9
  obtain ⟨C9, hC9⟩ : ∃ C9 : Int64, C9 = digF M (digW M n act 127 * 31 + (nI nf).toInt64) nf := ⟨_, rfl⟩
  refine xtopl hC9.symm ?_
  refine lv_aload_n hx hb dL_law_1998 rfl (lv_at hl 3 rfl) ?_
  refine lcalll (va_runV (As := []) (rest := [.long C9]) ⟨hx, hb, hml, hown, hts⟩ (c_X5_digest l D cs b R _ hA.2.1 n act nf  hW.2.2.1.1 hW.1.1 hW.2.2.1.2 hF.2.2.1 hF.1) (cwV 0 hts gL_law_X5_digest rfl rfl rfl (by decide +kernel) ⟨(Nat.le_of_ble_eq_true rfl), (Nat.le_of_ble_eq_true rfl)⟩) (xpreVs hJ.2.1 hK (ci := 5) 0 rfl rfl) rfl rfl hl.1 rfl (lv_room (Nat.le_of_ble_eq_true rfl)) dL_law_1999 (lfit hc hs (by decide) (by decide))) hS (Ap_b hA hS.1) (fun _ H locs hv hP9 hk9 hS => ?_)
  obtain ⟨R1, hv⟩ : ∃ R1 : Nat → Nat → Int32, R1 = wr R 0 0 (nI 0) := ⟨_, rfl⟩
  rw [← hv] at hP9
  have hJ := LJ_r hJ hA hP9 hk9
  have ee : C9 = digR R n act nf ∧ SimE M N R1 := by
    rw [hC9, hv]; exact ⟨op_digest hW hF, simQ hW hF TX_r⟩
  obtain ⟨ee, hsim⟩ := ee
  refine W.lcmp hx hb dL_law_2002 ?_
  refine lv_if_eq (tgt := 2008) hx hb dL_law_2003 (by decide) (fun _ => ?_) (fun q => absurd ((lg_cmp_eq _ _).mpr ee) q)
  exact lfin (z := 0) (w := 0) hkk hsim hJ hS hl (by decide) (by decide)
