/-! The law, call by call. -/
set_option maxHeartbeats 4000000 in
set_option maxRecDepth 100000 in
theorem k_atom {p : Program} {l : Launch} {e : Env} {s : State} {m : MethodId} {below : List Frame} {meth : Method} {c : Code} {bq L : Nat} {xs : Nat → Int32} {D : va_G} {cs sa a b : Nat → Nat} {o od : Nat} {Q : State → Prop} {i cells slots : Nat} {M R : Nat → Nat → Int32} {N go : Nat → Int64} {gd : Nat → UInt64} {H : Heap} {locs : List Loc} {ls : Array Slot} (C : LX p l s m meth c bq L xs D cs sa a b o od) (hi : i + 5 ≤ L) (hsim : SimE M N R) (hJ : LJ D cs a b o od M N R go gd H) (hS : va_S (fun q : Nat => s.heap.size ≤ q) s.heap H locs) (hl : lv_has ls 9 [(5, .int (nI i)), (4, .ref od), (3, .ref o), (2, .ref (b 0)), (1, .ref (a 0)), (0, .ref bq)]) (hc : cells + 10 ≤ 601024) (hs : slots + 200 ≤ 7293034) (hkk : LK p l e s m below meth c bq D cs a b o od Q i cells slots) : W p l e room_1 s m #[Value.ref bq] below meth c H locs cells slots Q (F0 m 844 ls []) := by
  obtain ⟨⟨hx, hb, hr, hml, hown, -, hX, hbl, hlocks, -⟩, hts, hl0, hL, hK, hT, hNc, hZ, hA⟩ := C
  obtain ⟨n, act, nf, kd, p1, p2, ns, sb, ag, hW, hF⟩ := hsim
  have hb : c.code = cL_law := hb
  have hown : s.vm.findClass RL = some m.cls := hown
  have hbA : ¬ (fun q : Nat => s.heap.size ≤ q) bq := Nat.not_le.mpr hbl
  obtain ⟨x, e_x⟩ : ∃ x : Int32, x = xs (i + 1) := ⟨_, rfl⟩
  refine lv_aload_n hx hb dL_law_844 rfl (lv_at hl 4 rfl) ?_
  refine lv_aload_n hx hb dL_law_845 rfl (lv_at hl 5 rfl) ?_
  refine lv_iload hx hb dL_law_846 (lv_at hl 0 rfl) ?_
  refine lv_iconst (v := nI 1) hx hb dL_law_848 (by decide) ?_
  refine xiadd hx hb dL_law_849 ?_
  refine xsld hx hb hX hbl hbA hS hL (by omega) dL_law_850 ?_
  refine xtop e_x.symm ?_
  refine lv_aload_n hx hb dL_law_851 rfl (lv_at hl 2 rfl) ?_
  refine lcalli (vx_runSW (As := [.ref (a 0), .int x, .ref o]) (rest := []) ⟨hx, hb, hml, hown, hts⟩ (c_L_atom l hl0 D cs sa a M N o go _ hA.1 hA.2.2.2.1 nf x hF.2.1 hF.1) (vx_cwSW 3 hts gL_law_L_atom rfl rfl rfl (by decide +kernel) ⟨(Nat.le_of_ble_eq_true rfl), (Nat.le_of_ble_eq_true rfl)⟩) (lpreS (LJ_o hJ) hK hT hNc hZ hS (Ap_o hA hS.1)) rfl rfl hl.1 rfl (lv_room (Nat.le_of_ble_eq_true rfl)) dL_law_852 (lfit hc hs (by decide) (by decide))) hS (Ap_o hA hS.1) (fun u9 H locs hu hP9 hk9 hS => ?_)
  have hJ := LJ_x hJ hA hP9 hk9
  obtain ⟨K9, hK9⟩ : ∃ K9 : Nat, K9 = (if (isIn 6 x) = true then (if (decide (nf < 40)) = true then 0 else 2) else 1) := ⟨_, rfl⟩
  have h4 : K9 < 4 := by rw [hK9]; repeat' (first | decide | split)
  refine xtop (congrArg nI hK9.symm) ?_
  refine lv_istore (lv' := [(6, .int (nI K9)), (5, .int (nI i)), (4, .ref od), (3, .ref o), (2, .ref (b 0)), (1, .ref (a 0)), (0, .ref bq)]) hx hb dL_law_855 hl (by decide) rfl (fun ls hl => ?_)
  refine lv_aload_n hx hb dL_law_857 rfl (lv_at hl 4 rfl) ?_
  refine lv_aload_n hx hb dL_law_858 rfl (lv_at hl 6 rfl) ?_
  refine lv_iload hx hb dL_law_859 (lv_at hl 1 rfl) ?_
  refine lv_iconst (v := nI 1) hx hb dL_law_861 (by decide) ?_
  refine xiadd hx hb dL_law_862 ?_
  refine xsld hx hb hX hbl hbA hS hL (by omega) dL_law_863 ?_
  refine xtop e_x.symm ?_
  refine lcalli (va_runV (As := [.int x]) (rest := []) ⟨hx, hb, hml, hown, hts⟩ (c_X5_atom l D cs b R _ hA.2.1 nf x hF.2.2.1 hF.1) (cwV 1 hts gL_law_X5_atom rfl rfl rfl (by decide +kernel) ⟨(Nat.le_of_ble_eq_true rfl), (Nat.le_of_ble_eq_true rfl)⟩) (xpreVs hJ.2.1 hK (ci := 5) 0 rfl rfl) rfl rfl hl.1 rfl (lv_room (Nat.le_of_ble_eq_true rfl)) dL_law_864 (lfit2 hc hs (by decide) (by decide))) hS (Ap_b hA hS.1) (fun _ H locs hv hP9 hk9 hS => ?_)
  obtain ⟨R1, hv⟩ : ∃ R1 : Nat → Nat → Int32, R1 = (if isIn 6 x = true then crt (wr R 0 0 (nI 0)) nf 0 x (-1) (nI 0) (nI 0) else wr R 0 0 (nI 1)) := ⟨_, rfl⟩
  rw [← hv] at hP9
  have hJ := LJ_r hJ hA hP9 hk9
  obtain ⟨B9, hB9⟩ : ∃ B9 : Int32, B9 = (if isIn 6 x = true then (if nf = 40 then nI 0 else nI nf) else nI 0) := ⟨_, rfl⟩
  refine xtop hB9.symm ?_
  refine lv_istore (lv' := [(7, .int B9), (6, .int (nI K9)), (5, .int (nI i)), (4, .ref od), (3, .ref o), (2, .ref (b 0)), (1, .ref (a 0)), (0, .ref bq)]) hx hb dL_law_867 hl (by decide) rfl (fun ls hl => ?_)
  obtain ⟨e0, e1, hsim⟩ := op_atom hW hF x hu hv
  have e0 : R1 0 0 = nI K9 := e0.trans (congrArg nI hK9.symm)
  refine lv_aload_n hx hb dL_law_869 rfl (lv_at hl 5 rfl) ?_
  refine lcall0i (va_runV (As := []) (rest := []) ⟨hx, hb, hml, hown, hts⟩ (c_X5_thrown l D cs b R1) (cwV 0 hts gL_law_X5_thrown rfl rfl rfl (by decide +kernel) ⟨(Nat.le_of_ble_eq_true rfl), (Nat.le_of_ble_eq_true rfl)⟩) (xpreV hJ.2.1 hK (ci := 5) 0 rfl rfl) rfl rfl hl.1 rfl (lv_room (Nat.le_of_ble_eq_true rfl)) dL_law_870 (lfit3 (z := 2) (w := 12) (z2 := 0) (w2 := 0) hc hs (by decide) (by decide))) hS (fun H locs hk9 hS => ?_)
  have hJ := LJ_0 hJ hk9
  refine xtop e0 ?_
  refine lv_iload hx hb dL_law_873 (lv_at hl 1 rfl) ?_
  refine lv_icmp_eq (tgt := 880) hx hb dL_law_875 (by decide) (fun _ => ?_) (fun q => absurd rfl q)
  refine lv_iload hx hb dL_law_880 (lv_at hl 1 rfl) ?_
  refine lv_if_ne (tgt := 897) hx hb dL_law_882 (by decide) (fun q => ?_) (fun q => ?_)
  ·
    refine lv_goto (tgt := 2008) hx hb dL_law_897 (by decide) ?_
    exact lfin hkk hsim hJ hS (lv_sub hl [2, 3, 4, 5, 6, 7] rfl) (by decide) (by decide)
  ·
    refine lv_aload_n hx hb dL_law_885 rfl (lv_at hl 4 rfl) ?_
    refine lv_iconst (v := nI 0) hx hb dL_law_886 (by decide) ?_
    have e2 := e1 (hK9.symm.trans (nI_c h4 q))
    refine xlald (q0 := 0) (t0 := 1) hx hb hK.1 hJ.2.2.1 rfl rfl (by decide) (by decide) dL_law_887 ?_
    refine xtopl (y := B9.toInt64) (by rw [hB9]; exact e2) ?_
    refine lv_iload hx hb dL_law_888 (lv_at hl 0 rfl) ?_
    refine lv_i2l (v := B9.toInt64) hx hb dL_law_890 rfl ?_
    refine W.lcmp hx hb dL_law_891 ?_
    refine lv_if_eq (tgt := 897) hx hb dL_law_892 (by decide) (fun _ => ?_) (fun q => absurd ((lg_cmp_eq _ _).mpr rfl) q)
    refine lv_goto (tgt := 2008) hx hb dL_law_897 (by decide) ?_
    exact lfin hkk hsim hJ hS (lv_sub hl [2, 3, 4, 5, 6, 7] rfl) (by decide) (by decide)

set_option maxHeartbeats 4000000 in
set_option maxRecDepth 100000 in
theorem k_not {p : Program} {l : Launch} {e : Env} {s : State} {m : MethodId} {below : List Frame} {meth : Method} {c : Code} {bq L : Nat} {xs : Nat → Int32} {D : va_G} {cs sa a b : Nat → Nat} {o od : Nat} {Q : State → Prop} {i cells slots : Nat} {M R : Nat → Nat → Int32} {N go : Nat → Int64} {gd : Nat → UInt64} {H : Heap} {locs : List Loc} {ls : Array Slot} (C : LX p l s m meth c bq L xs D cs sa a b o od) (hi : i + 5 ≤ L) (hsim : SimE M N R) (hJ : LJ D cs a b o od M N R go gd H) (hS : va_S (fun q : Nat => s.heap.size ≤ q) s.heap H locs) (hl : lv_has ls 9 [(5, .int (nI i)), (4, .ref od), (3, .ref o), (2, .ref (b 0)), (1, .ref (a 0)), (0, .ref bq)]) (hc : cells + 10 ≤ 601024) (hs : slots + 200 ≤ 7293034) (hkk : LK p l e s m below meth c bq D cs a b o od Q i cells slots) : W p l e room_1 s m #[Value.ref bq] below meth c H locs cells slots Q (F0 m 900 ls []) := by
  obtain ⟨⟨hx, hb, hr, hml, hown, -, hX, hbl, hlocks, -⟩, hts, hl0, hL, hK, hT, hNc, hZ, hA⟩ := C
  obtain ⟨n, act, nf, kd, p1, p2, ns, sb, ag, hW, hF⟩ := hsim
  have hb : c.code = cL_law := hb
  have hown : s.vm.findClass RL = some m.cls := hown
  have hbA : ¬ (fun q : Nat => s.heap.size ≤ q) bq := Nat.not_le.mpr hbl
  obtain ⟨x, e_x⟩ : ∃ x : Int32, x = xs (i + 1) := ⟨_, rfl⟩
  refine lv_aload_n hx hb dL_law_900 rfl (lv_at hl 4 rfl) ?_
  refine lv_aload_n hx hb dL_law_901 rfl (lv_at hl 5 rfl) ?_
  refine lv_iload hx hb dL_law_902 (lv_at hl 0 rfl) ?_
  refine lv_iconst (v := nI 1) hx hb dL_law_904 (by decide) ?_
  refine xiadd hx hb dL_law_905 ?_
  refine xsld hx hb hX hbl hbA hS hL (by omega) dL_law_906 ?_
  refine xtop e_x.symm ?_
  refine lv_aload_n hx hb dL_law_907 rfl (lv_at hl 2 rfl) ?_
  refine lcalli (vx_runSW (As := [.ref (a 0), .int x, .ref o]) (rest := []) ⟨hx, hb, hml, hown, hts⟩ (c_L_not l hl0 D cs sa a M N o go _ hA.1 hA.2.2.2.1 nf x hF.2.1 hF.1) (vx_cwSW 3 hts gL_law_L_not rfl rfl rfl (by decide +kernel) ⟨(Nat.le_of_ble_eq_true rfl), (Nat.le_of_ble_eq_true rfl)⟩) (lpreS (LJ_o hJ) hK hT hNc hZ hS (Ap_o hA hS.1)) rfl rfl hl.1 rfl (lv_room (Nat.le_of_ble_eq_true rfl)) dL_law_908 (lfit hc hs (by decide) (by decide))) hS (Ap_o hA hS.1) (fun u9 H locs hu hP9 hk9 hS => ?_)
  have hJ := LJ_x hJ hA hP9 hk9
  obtain ⟨K9, hK9⟩ : ∃ K9 : Nat, K9 = (if (isIn nf x) = true then (if (decide (nf < 40)) = true then 0 else 2) else 1) := ⟨_, rfl⟩
  have h4 : K9 < 4 := by rw [hK9]; repeat' (first | decide | split)
  refine xtop (congrArg nI hK9.symm) ?_
  refine lv_istore (lv' := [(6, .int (nI K9)), (5, .int (nI i)), (4, .ref od), (3, .ref o), (2, .ref (b 0)), (1, .ref (a 0)), (0, .ref bq)]) hx hb dL_law_911 hl (by decide) rfl (fun ls hl => ?_)
  refine lv_aload_n hx hb dL_law_913 rfl (lv_at hl 4 rfl) ?_
  refine lv_aload_n hx hb dL_law_914 rfl (lv_at hl 6 rfl) ?_
  refine lv_iload hx hb dL_law_915 (lv_at hl 1 rfl) ?_
  refine lv_iconst (v := nI 1) hx hb dL_law_917 (by decide) ?_
  refine xiadd hx hb dL_law_918 ?_
  refine xsld hx hb hX hbl hbA hS hL (by omega) dL_law_919 ?_
  refine xtop e_x.symm ?_
  refine lcalli (va_runV (As := [.int x]) (rest := []) ⟨hx, hb, hml, hown, hts⟩ (c_X5_not l D cs b R _ hA.2.1 nf x hF.2.2.1 hF.1) (cwV 1 hts gL_law_X5_not rfl rfl rfl (by decide +kernel) ⟨(Nat.le_of_ble_eq_true rfl), (Nat.le_of_ble_eq_true rfl)⟩) (xpreVs hJ.2.1 hK (ci := 5) 0 rfl rfl) rfl rfl hl.1 rfl (lv_room (Nat.le_of_ble_eq_true rfl)) dL_law_920 (lfit2 hc hs (by decide) (by decide))) hS (Ap_b hA hS.1) (fun _ H locs hv hP9 hk9 hS => ?_)
  obtain ⟨R1, hv⟩ : ∃ R1 : Nat → Nat → Int32, R1 = (if isIn nf x = true then crt (wr R 0 0 (nI 0)) nf 1 (-1) x (R 6 x.toNatClampNeg) (R 7 x.toNatClampNeg) else wr R 0 0 (nI 1)) := ⟨_, rfl⟩
  rw [← hv] at hP9
  have hJ := LJ_r hJ hA hP9 hk9
  obtain ⟨B9, hB9⟩ : ∃ B9 : Int32, B9 = (if isIn nf x = true then (if nf = 40 then nI 0 else nI nf) else nI 0) := ⟨_, rfl⟩
  refine xtop hB9.symm ?_
  refine lv_istore (lv' := [(7, .int B9), (6, .int (nI K9)), (5, .int (nI i)), (4, .ref od), (3, .ref o), (2, .ref (b 0)), (1, .ref (a 0)), (0, .ref bq)]) hx hb dL_law_923 hl (by decide) rfl (fun ls hl => ?_)
  obtain ⟨e0, e1, hsim⟩ := op_not hW hF x hu hv
  have e0 : R1 0 0 = nI K9 := e0.trans (congrArg nI hK9.symm)
  refine lv_aload_n hx hb dL_law_925 rfl (lv_at hl 5 rfl) ?_
  refine lcall0i (va_runV (As := []) (rest := []) ⟨hx, hb, hml, hown, hts⟩ (c_X5_thrown l D cs b R1) (cwV 0 hts gL_law_X5_thrown rfl rfl rfl (by decide +kernel) ⟨(Nat.le_of_ble_eq_true rfl), (Nat.le_of_ble_eq_true rfl)⟩) (xpreV hJ.2.1 hK (ci := 5) 0 rfl rfl) rfl rfl hl.1 rfl (lv_room (Nat.le_of_ble_eq_true rfl)) dL_law_926 (lfit3 (z := 2) (w := 12) (z2 := 0) (w2 := 0) hc hs (by decide) (by decide))) hS (fun H locs hk9 hS => ?_)
  have hJ := LJ_0 hJ hk9
  refine xtop e0 ?_
  refine lv_iload hx hb dL_law_929 (lv_at hl 1 rfl) ?_
  refine lv_icmp_eq (tgt := 936) hx hb dL_law_931 (by decide) (fun _ => ?_) (fun q => absurd rfl q)
  refine lv_iload hx hb dL_law_936 (lv_at hl 1 rfl) ?_
  refine lv_if_ne (tgt := 953) hx hb dL_law_938 (by decide) (fun q => ?_) (fun q => ?_)
  ·
    refine lv_goto (tgt := 2008) hx hb dL_law_953 (by decide) ?_
    exact lfin hkk hsim hJ hS (lv_sub hl [2, 3, 4, 5, 6, 7] rfl) (by decide) (by decide)
  ·
    refine lv_aload_n hx hb dL_law_941 rfl (lv_at hl 4 rfl) ?_
    refine lv_iconst (v := nI 0) hx hb dL_law_942 (by decide) ?_
    have e2 := e1 (hK9.symm.trans (nI_c h4 q))
    refine xlald (q0 := 0) (t0 := 1) hx hb hK.1 hJ.2.2.1 rfl rfl (by decide) (by decide) dL_law_943 ?_
    refine xtopl (y := B9.toInt64) (by rw [hB9]; exact e2) ?_
    refine lv_iload hx hb dL_law_944 (lv_at hl 0 rfl) ?_
    refine lv_i2l (v := B9.toInt64) hx hb dL_law_946 rfl ?_
    refine W.lcmp hx hb dL_law_947 ?_
    refine lv_if_eq (tgt := 953) hx hb dL_law_948 (by decide) (fun _ => ?_) (fun q => absurd ((lg_cmp_eq _ _).mpr rfl) q)
    refine lv_goto (tgt := 2008) hx hb dL_law_953 (by decide) ?_
    exact lfin hkk hsim hJ hS (lv_sub hl [2, 3, 4, 5, 6, 7] rfl) (by decide) (by decide)

set_option maxHeartbeats 4000000 in
set_option maxRecDepth 100000 in
theorem k_both {p : Program} {l : Launch} {e : Env} {s : State} {m : MethodId} {below : List Frame} {meth : Method} {c : Code} {bq L : Nat} {xs : Nat → Int32} {D : va_G} {cs sa a b : Nat → Nat} {o od : Nat} {Q : State → Prop} {i cells slots : Nat} {M R : Nat → Nat → Int32} {N go : Nat → Int64} {gd : Nat → UInt64} {H : Heap} {locs : List Loc} {ls : Array Slot} (C : LX p l s m meth c bq L xs D cs sa a b o od) (hi : i + 5 ≤ L) (hsim : SimE M N R) (hJ : LJ D cs a b o od M N R go gd H) (hS : va_S (fun q : Nat => s.heap.size ≤ q) s.heap H locs) (hl : lv_has ls 9 [(5, .int (nI i)), (4, .ref od), (3, .ref o), (2, .ref (b 0)), (1, .ref (a 0)), (0, .ref bq)]) (hc : cells + 10 ≤ 601024) (hs : slots + 200 ≤ 7293034) (hkk : LK p l e s m below meth c bq D cs a b o od Q i cells slots) : W p l e room_1 s m #[Value.ref bq] below meth c H locs cells slots Q (F0 m 956 ls []) := by
  obtain ⟨⟨hx, hb, hr, hml, hown, -, hX, hbl, hlocks, -⟩, hts, hl0, hL, hK, hT, hNc, hZ, hA⟩ := C
  obtain ⟨n, act, nf, kd, p1, p2, ns, sb, ag, hW, hF⟩ := hsim
  have hb : c.code = cL_law := hb
  have hown : s.vm.findClass RL = some m.cls := hown
  have hbA : ¬ (fun q : Nat => s.heap.size ≤ q) bq := Nat.not_le.mpr hbl
  obtain ⟨x, e_x⟩ : ∃ x : Int32, x = xs (i + 1) := ⟨_, rfl⟩
  obtain ⟨y, e_y⟩ : ∃ y : Int32, y = xs (i + 2) := ⟨_, rfl⟩
  refine lv_aload_n hx hb dL_law_956 rfl (lv_at hl 4 rfl) ?_
  refine lv_aload_n hx hb dL_law_957 rfl (lv_at hl 5 rfl) ?_
  refine lv_iload hx hb dL_law_958 (lv_at hl 0 rfl) ?_
  refine lv_iconst (v := nI 1) hx hb dL_law_960 (by decide) ?_
  refine xiadd hx hb dL_law_961 ?_
  refine xsld hx hb hX hbl hbA hS hL (by omega) dL_law_962 ?_
  refine xtop e_x.symm ?_
  refine lv_aload_n hx hb dL_law_963 rfl (lv_at hl 5 rfl) ?_
  refine lv_iload hx hb dL_law_964 (lv_at hl 0 rfl) ?_
  refine lv_iconst (v := nI 2) hx hb dL_law_966 (by decide) ?_
  refine xiadd hx hb dL_law_967 ?_
  refine xsld hx hb hX hbl hbA hS hL (by omega) dL_law_968 ?_
  refine xtop e_y.symm ?_
  refine lv_aload_n hx hb dL_law_969 rfl (lv_at hl 2 rfl) ?_
  refine lcalli (vx_runSW (As := [.ref (a 0), .int x, .int y, .ref o]) (rest := []) ⟨hx, hb, hml, hown, hts⟩ (c_L_both l hl0 D cs sa a M N o go _ hA.1 hA.2.2.2.1 nf x y hF.2.1 hF.1) (vx_cwSW 4 hts gL_law_L_both rfl rfl rfl (by decide +kernel) ⟨(Nat.le_of_ble_eq_true rfl), (Nat.le_of_ble_eq_true rfl)⟩) (lpreS (LJ_o hJ) hK hT hNc hZ hS (Ap_o hA hS.1)) rfl rfl hl.1 rfl (lv_room (Nat.le_of_ble_eq_true rfl)) dL_law_970 (lfit hc hs (by decide) (by decide))) hS (Ap_o hA hS.1) (fun u9 H locs hu hP9 hk9 hS => ?_)
  have hJ := LJ_x hJ hA hP9 hk9
  obtain ⟨K9, hK9⟩ : ∃ K9 : Nat, K9 = (if (isIn nf x) = true then (if (isIn nf y) = true then (if (decide (nf < 40)) = true then 0 else 2) else 1) else 1) := ⟨_, rfl⟩
  have h4 : K9 < 4 := by rw [hK9]; repeat' (first | decide | split)
  refine xtop (congrArg nI hK9.symm) ?_
  refine lv_istore (lv' := [(6, .int (nI K9)), (5, .int (nI i)), (4, .ref od), (3, .ref o), (2, .ref (b 0)), (1, .ref (a 0)), (0, .ref bq)]) hx hb dL_law_973 hl (by decide) rfl (fun ls hl => ?_)
  refine lv_aload_n hx hb dL_law_975 rfl (lv_at hl 4 rfl) ?_
  refine lv_aload_n hx hb dL_law_976 rfl (lv_at hl 6 rfl) ?_
  refine lv_iload hx hb dL_law_977 (lv_at hl 1 rfl) ?_
  refine lv_iconst (v := nI 1) hx hb dL_law_979 (by decide) ?_
  refine xiadd hx hb dL_law_980 ?_
  refine xsld hx hb hX hbl hbA hS hL (by omega) dL_law_981 ?_
  refine xtop e_x.symm ?_
  refine lv_aload_n hx hb dL_law_982 rfl (lv_at hl 6 rfl) ?_
  refine lv_iload hx hb dL_law_983 (lv_at hl 1 rfl) ?_
  refine lv_iconst (v := nI 2) hx hb dL_law_985 (by decide) ?_
  refine xiadd hx hb dL_law_986 ?_
  refine xsld hx hb hX hbl hbA hS hL (by omega) dL_law_987 ?_
  refine xtop e_y.symm ?_
  refine lcalli (va_runV (As := [.int x, .int y]) (rest := []) ⟨hx, hb, hml, hown, hts⟩ (c_X5_both l D cs b R _ hA.2.1 nf x y hF.2.2.1 hF.1) (cwV 2 hts gL_law_X5_both rfl rfl rfl (by decide +kernel) ⟨(Nat.le_of_ble_eq_true rfl), (Nat.le_of_ble_eq_true rfl)⟩) (xpreVs hJ.2.1 hK (ci := 5) 0 rfl rfl) rfl rfl hl.1 rfl (lv_room (Nat.le_of_ble_eq_true rfl)) dL_law_988 (lfit2 hc hs (by decide) (by decide))) hS (Ap_b hA hS.1) (fun _ H locs hv hP9 hk9 hS => ?_)
  obtain ⟨R1, hv⟩ : ∃ R1 : Nat → Nat → Int32, R1 = (if (isIn nf x && isIn nf y) = true then crt (wr R 0 0 (nI 0)) nf 2 x y (mx (R 6 x.toNatClampNeg) (R 6 y.toNatClampNeg)) (mx (R 7 x.toNatClampNeg) (R 7 y.toNatClampNeg)) else wr R 0 0 (nI 1)) := ⟨_, rfl⟩
  rw [← hv] at hP9
  have hJ := LJ_r hJ hA hP9 hk9
  obtain ⟨B9, hB9⟩ : ∃ B9 : Int32, B9 = (if (isIn nf x && isIn nf y) = true then (if nf = 40 then nI 0 else nI nf) else nI 0) := ⟨_, rfl⟩
  refine xtop hB9.symm ?_
  refine lv_istore (lv' := [(7, .int B9), (6, .int (nI K9)), (5, .int (nI i)), (4, .ref od), (3, .ref o), (2, .ref (b 0)), (1, .ref (a 0)), (0, .ref bq)]) hx hb dL_law_991 hl (by decide) rfl (fun ls hl => ?_)
  obtain ⟨e0, e1, hsim⟩ := op_both hW hF x y hu hv
  have e0 : R1 0 0 = nI K9 := e0.trans (congrArg nI hK9.symm)
  refine lv_aload_n hx hb dL_law_993 rfl (lv_at hl 5 rfl) ?_
  refine lcall0i (va_runV (As := []) (rest := []) ⟨hx, hb, hml, hown, hts⟩ (c_X5_thrown l D cs b R1) (cwV 0 hts gL_law_X5_thrown rfl rfl rfl (by decide +kernel) ⟨(Nat.le_of_ble_eq_true rfl), (Nat.le_of_ble_eq_true rfl)⟩) (xpreV hJ.2.1 hK (ci := 5) 0 rfl rfl) rfl rfl hl.1 rfl (lv_room (Nat.le_of_ble_eq_true rfl)) dL_law_994 (lfit3 (z := 3) (w := 18) (z2 := 0) (w2 := 0) hc hs (by decide) (by decide))) hS (fun H locs hk9 hS => ?_)
  have hJ := LJ_0 hJ hk9
  refine xtop e0 ?_
  refine lv_iload hx hb dL_law_997 (lv_at hl 1 rfl) ?_
  refine lv_icmp_eq (tgt := 1004) hx hb dL_law_999 (by decide) (fun _ => ?_) (fun q => absurd rfl q)
  refine lv_iload hx hb dL_law_1004 (lv_at hl 1 rfl) ?_
  refine lv_if_ne (tgt := 1021) hx hb dL_law_1006 (by decide) (fun q => ?_) (fun q => ?_)
  ·
    refine lv_goto (tgt := 2008) hx hb dL_law_1021 (by decide) ?_
    exact lfin hkk hsim hJ hS (lv_sub hl [2, 3, 4, 5, 6, 7] rfl) (by decide) (by decide)
  ·
    refine lv_aload_n hx hb dL_law_1009 rfl (lv_at hl 4 rfl) ?_
    refine lv_iconst (v := nI 0) hx hb dL_law_1010 (by decide) ?_
    have e2 := e1 (hK9.symm.trans (nI_c h4 q))
    refine xlald (q0 := 0) (t0 := 1) hx hb hK.1 hJ.2.2.1 rfl rfl (by decide) (by decide) dL_law_1011 ?_
    refine xtopl (y := B9.toInt64) (by rw [hB9]; exact e2) ?_
    refine lv_iload hx hb dL_law_1012 (lv_at hl 0 rfl) ?_
    refine lv_i2l (v := B9.toInt64) hx hb dL_law_1014 rfl ?_
    refine W.lcmp hx hb dL_law_1015 ?_
    refine lv_if_eq (tgt := 1021) hx hb dL_law_1016 (by decide) (fun _ => ?_) (fun q => absurd ((lg_cmp_eq _ _).mpr rfl) q)
    refine lv_goto (tgt := 2008) hx hb dL_law_1021 (by decide) ?_
    exact lfin hkk hsim hJ hS (lv_sub hl [2, 3, 4, 5, 6, 7] rfl) (by decide) (by decide)

set_option maxHeartbeats 4000000 in
set_option maxRecDepth 100000 in
theorem k_knows {p : Program} {l : Launch} {e : Env} {s : State} {m : MethodId} {below : List Frame} {meth : Method} {c : Code} {bq L : Nat} {xs : Nat → Int32} {D : va_G} {cs sa a b : Nat → Nat} {o od : Nat} {Q : State → Prop} {i cells slots : Nat} {M R : Nat → Nat → Int32} {N go : Nat → Int64} {gd : Nat → UInt64} {H : Heap} {locs : List Loc} {ls : Array Slot} (C : LX p l s m meth c bq L xs D cs sa a b o od) (hi : i + 5 ≤ L) (hsim : SimE M N R) (hJ : LJ D cs a b o od M N R go gd H) (hS : va_S (fun q : Nat => s.heap.size ≤ q) s.heap H locs) (hl : lv_has ls 9 [(5, .int (nI i)), (4, .ref od), (3, .ref o), (2, .ref (b 0)), (1, .ref (a 0)), (0, .ref bq)]) (hc : cells + 10 ≤ 601024) (hs : slots + 200 ≤ 7293034) (hkk : LK p l e s m below meth c bq D cs a b o od Q i cells slots) : W p l e room_1 s m #[Value.ref bq] below meth c H locs cells slots Q (F0 m 1024 ls []) := by
  obtain ⟨⟨hx, hb, hr, hml, hown, -, hX, hbl, hlocks, -⟩, hts, hl0, hL, hK, hT, hNc, hZ, hA⟩ := C
  obtain ⟨n, act, nf, kd, p1, p2, ns, sb, ag, hW, hF⟩ := hsim
  have hb : c.code = cL_law := hb
  have hown : s.vm.findClass RL = some m.cls := hown
  have hbA : ¬ (fun q : Nat => s.heap.size ≤ q) bq := Nat.not_le.mpr hbl
  obtain ⟨x, e_x⟩ : ∃ x : Int32, x = xs (i + 1) := ⟨_, rfl⟩
  obtain ⟨y, e_y⟩ : ∃ y : Int32, y = xs (i + 2) := ⟨_, rfl⟩
  refine lv_aload_n hx hb dL_law_1024 rfl (lv_at hl 4 rfl) ?_
  refine lv_aload_n hx hb dL_law_1025 rfl (lv_at hl 5 rfl) ?_
  refine lv_iload hx hb dL_law_1026 (lv_at hl 0 rfl) ?_
  refine lv_iconst (v := nI 1) hx hb dL_law_1028 (by decide) ?_
  refine xiadd hx hb dL_law_1029 ?_
  refine xsld hx hb hX hbl hbA hS hL (by omega) dL_law_1030 ?_
  refine xtop e_x.symm ?_
  refine lv_aload_n hx hb dL_law_1031 rfl (lv_at hl 5 rfl) ?_
  refine lv_iload hx hb dL_law_1032 (lv_at hl 0 rfl) ?_
  refine lv_iconst (v := nI 2) hx hb dL_law_1034 (by decide) ?_
  refine xiadd hx hb dL_law_1035 ?_
  refine xsld hx hb hX hbl hbA hS hL (by omega) dL_law_1036 ?_
  refine xtop e_y.symm ?_
  refine lv_aload_n hx hb dL_law_1037 rfl (lv_at hl 2 rfl) ?_
  refine lcalli (vx_runSW (As := [.ref (a 0), .int x, .int y, .ref o]) (rest := []) ⟨hx, hb, hml, hown, hts⟩ (c_L_knows l hl0 D cs sa a M N o go _ hA.1 hA.2.2.2.1 nf x y hF.2.1 hF.1) (vx_cwSW 4 hts gL_law_L_knows rfl rfl rfl (by decide +kernel) ⟨(Nat.le_of_ble_eq_true rfl), (Nat.le_of_ble_eq_true rfl)⟩) (lpreS (LJ_o hJ) hK hT hNc hZ hS (Ap_o hA hS.1)) rfl rfl hl.1 rfl (lv_room (Nat.le_of_ble_eq_true rfl)) dL_law_1038 (lfit hc hs (by decide) (by decide))) hS (Ap_o hA hS.1) (fun u9 H locs hu hP9 hk9 hS => ?_)
  have hJ := LJ_x hJ hA hP9 hk9
  obtain ⟨K9, hK9⟩ : ∃ K9 : Nat, K9 = (if (isIn 4 x) = true then (if (isIn nf y) = true then (if (decide (nf < 40)) = true then 0 else 2) else 1) else 1) := ⟨_, rfl⟩
  have h4 : K9 < 4 := by rw [hK9]; repeat' (first | decide | split)
  refine xtop (congrArg nI hK9.symm) ?_
  refine lv_istore (lv' := [(6, .int (nI K9)), (5, .int (nI i)), (4, .ref od), (3, .ref o), (2, .ref (b 0)), (1, .ref (a 0)), (0, .ref bq)]) hx hb dL_law_1041 hl (by decide) rfl (fun ls hl => ?_)
  refine lv_aload_n hx hb dL_law_1043 rfl (lv_at hl 4 rfl) ?_
  refine lv_aload_n hx hb dL_law_1044 rfl (lv_at hl 6 rfl) ?_
  refine lv_iload hx hb dL_law_1045 (lv_at hl 1 rfl) ?_
  refine lv_iconst (v := nI 1) hx hb dL_law_1047 (by decide) ?_
  refine xiadd hx hb dL_law_1048 ?_
  refine xsld hx hb hX hbl hbA hS hL (by omega) dL_law_1049 ?_
  refine xtop e_x.symm ?_
  refine lv_aload_n hx hb dL_law_1050 rfl (lv_at hl 6 rfl) ?_
  refine lv_iload hx hb dL_law_1051 (lv_at hl 1 rfl) ?_
  refine lv_iconst (v := nI 2) hx hb dL_law_1053 (by decide) ?_
  refine xiadd hx hb dL_law_1054 ?_
  refine xsld hx hb hX hbl hbA hS hL (by omega) dL_law_1055 ?_
  refine xtop e_y.symm ?_
  refine lcalli (va_runV (As := [.int x, .int y]) (rest := []) ⟨hx, hb, hml, hown, hts⟩ (c_X5_knows l D cs b R _ hA.2.1 nf x y hF.2.2.1 hF.1) (cwV 2 hts gL_law_X5_knows rfl rfl rfl (by decide +kernel) ⟨(Nat.le_of_ble_eq_true rfl), (Nat.le_of_ble_eq_true rfl)⟩) (xpreVs hJ.2.1 hK (ci := 5) 0 rfl rfl) rfl rfl hl.1 rfl (lv_room (Nat.le_of_ble_eq_true rfl)) dL_law_1056 (lfit2 hc hs (by decide) (by decide))) hS (Ap_b hA hS.1) (fun _ H locs hv hP9 hk9 hS => ?_)
  obtain ⟨R1, hv⟩ : ∃ R1 : Nat → Nat → Int32, R1 = (if (isIn 4 x && isIn nf y) = true then crt (wr R 0 0 (nI 0)) nf 3 x y (nI 1 + R 6 y.toNatClampNeg) (R 7 y.toNatClampNeg) else wr R 0 0 (nI 1)) := ⟨_, rfl⟩
  rw [← hv] at hP9
  have hJ := LJ_r hJ hA hP9 hk9
  obtain ⟨B9, hB9⟩ : ∃ B9 : Int32, B9 = (if (isIn 4 x && isIn nf y) = true then (if nf = 40 then nI 0 else nI nf) else nI 0) := ⟨_, rfl⟩
  refine xtop hB9.symm ?_
  refine lv_istore (lv' := [(7, .int B9), (6, .int (nI K9)), (5, .int (nI i)), (4, .ref od), (3, .ref o), (2, .ref (b 0)), (1, .ref (a 0)), (0, .ref bq)]) hx hb dL_law_1059 hl (by decide) rfl (fun ls hl => ?_)
  obtain ⟨e0, e1, hsim⟩ := op_knows hW hF x y hu hv
  have e0 : R1 0 0 = nI K9 := e0.trans (congrArg nI hK9.symm)
  refine lv_aload_n hx hb dL_law_1061 rfl (lv_at hl 5 rfl) ?_
  refine lcall0i (va_runV (As := []) (rest := []) ⟨hx, hb, hml, hown, hts⟩ (c_X5_thrown l D cs b R1) (cwV 0 hts gL_law_X5_thrown rfl rfl rfl (by decide +kernel) ⟨(Nat.le_of_ble_eq_true rfl), (Nat.le_of_ble_eq_true rfl)⟩) (xpreV hJ.2.1 hK (ci := 5) 0 rfl rfl) rfl rfl hl.1 rfl (lv_room (Nat.le_of_ble_eq_true rfl)) dL_law_1062 (lfit3 (z := 3) (w := 18) (z2 := 0) (w2 := 0) hc hs (by decide) (by decide))) hS (fun H locs hk9 hS => ?_)
  have hJ := LJ_0 hJ hk9
  refine xtop e0 ?_
  refine lv_iload hx hb dL_law_1065 (lv_at hl 1 rfl) ?_
  refine lv_icmp_eq (tgt := 1072) hx hb dL_law_1067 (by decide) (fun _ => ?_) (fun q => absurd rfl q)
  refine lv_iload hx hb dL_law_1072 (lv_at hl 1 rfl) ?_
  refine lv_if_ne (tgt := 1089) hx hb dL_law_1074 (by decide) (fun q => ?_) (fun q => ?_)
  ·
    refine lv_goto (tgt := 2008) hx hb dL_law_1089 (by decide) ?_
    exact lfin hkk hsim hJ hS (lv_sub hl [2, 3, 4, 5, 6, 7] rfl) (by decide) (by decide)
  ·
    refine lv_aload_n hx hb dL_law_1077 rfl (lv_at hl 4 rfl) ?_
    refine lv_iconst (v := nI 0) hx hb dL_law_1078 (by decide) ?_
    have e2 := e1 (hK9.symm.trans (nI_c h4 q))
    refine xlald (q0 := 0) (t0 := 1) hx hb hK.1 hJ.2.2.1 rfl rfl (by decide) (by decide) dL_law_1079 ?_
    refine xtopl (y := B9.toInt64) (by rw [hB9]; exact e2) ?_
    refine lv_iload hx hb dL_law_1080 (lv_at hl 0 rfl) ?_
    refine lv_i2l (v := B9.toInt64) hx hb dL_law_1082 rfl ?_
    refine W.lcmp hx hb dL_law_1083 ?_
    refine lv_if_eq (tgt := 1089) hx hb dL_law_1084 (by decide) (fun _ => ?_) (fun q => absurd ((lg_cmp_eq _ _).mpr rfl) q)
    refine lv_goto (tgt := 2008) hx hb dL_law_1089 (by decide) ?_
    exact lfin hkk hsim hJ hS (lv_sub hl [2, 3, 4, 5, 6, 7] rfl) (by decide) (by decide)

set_option maxHeartbeats 4000000 in
set_option maxRecDepth 100000 in
theorem k_ofGroup {p : Program} {l : Launch} {e : Env} {s : State} {m : MethodId} {below : List Frame} {meth : Method} {c : Code} {bq L : Nat} {xs : Nat → Int32} {D : va_G} {cs sa a b : Nat → Nat} {o od : Nat} {Q : State → Prop} {i cells slots : Nat} {M R : Nat → Nat → Int32} {N go : Nat → Int64} {gd : Nat → UInt64} {H : Heap} {locs : List Loc} {ls : Array Slot} (C : LX p l s m meth c bq L xs D cs sa a b o od) (hi : i + 5 ≤ L) (hsim : SimE M N R) (hJ : LJ D cs a b o od M N R go gd H) (hS : va_S (fun q : Nat => s.heap.size ≤ q) s.heap H locs) (hl : lv_has ls 9 [(5, .int (nI i)), (4, .ref od), (3, .ref o), (2, .ref (b 0)), (1, .ref (a 0)), (0, .ref bq)]) (hc : cells + 10 ≤ 601024) (hs : slots + 200 ≤ 7293034) (hkk : LK p l e s m below meth c bq D cs a b o od Q i cells slots) : W p l e room_1 s m #[Value.ref bq] below meth c H locs cells slots Q (F0 m 1092 ls []) := by
  obtain ⟨⟨hx, hb, hr, hml, hown, -, hX, hbl, hlocks, -⟩, hts, hl0, hL, hK, hT, hNc, hZ, hA⟩ := C
  obtain ⟨n, act, nf, kd, p1, p2, ns, sb, ag, hW, hF⟩ := hsim
  have hb : c.code = cL_law := hb
  have hown : s.vm.findClass RL = some m.cls := hown
  have hbA : ¬ (fun q : Nat => s.heap.size ≤ q) bq := Nat.not_le.mpr hbl
  obtain ⟨on, e_on⟩ : ∃ on : Bool, on = !decide (xs (i + 1) = 0) := ⟨_, rfl⟩
  obtain ⟨g, e_g⟩ : ∃ g : Int32, g = xs (i + 2) := ⟨_, rfl⟩
  obtain ⟨y, e_y⟩ : ∃ y : Int32, y = xs (i + 3) := ⟨_, rfl⟩
  refine lv_aload_n hx hb dL_law_1092 rfl (lv_at hl 4 rfl) ?_
  refine lv_aload_n hx hb dL_law_1093 rfl (lv_at hl 5 rfl) ?_
  refine lv_iload hx hb dL_law_1094 (lv_at hl 0 rfl) ?_
  refine lv_iconst (v := nI 1) hx hb dL_law_1096 (by decide) ?_
  refine xiadd hx hb dL_law_1097 ?_
  refine xsld hx hb hX hbl hbA hS hL (by omega) dL_law_1098 ?_
  refine xnz (t1 := 1106) (t2 := 1107) hx hb dL_law_1099 (by decide) dL_law_1102 dL_law_1103 (by decide) dL_law_1106 rfl ?_
  refine xtop (congrArg bI e_on.symm) ?_
  refine lv_aload_n hx hb dL_law_1107 rfl (lv_at hl 5 rfl) ?_
  refine lv_iload hx hb dL_law_1108 (lv_at hl 0 rfl) ?_
  refine lv_iconst (v := nI 2) hx hb dL_law_1110 (by decide) ?_
  refine xiadd hx hb dL_law_1111 ?_
  refine xsld hx hb hX hbl hbA hS hL (by omega) dL_law_1112 ?_
  refine xtop e_g.symm ?_
  refine lv_aload_n hx hb dL_law_1113 rfl (lv_at hl 5 rfl) ?_
  refine lv_iload hx hb dL_law_1114 (lv_at hl 0 rfl) ?_
  refine lv_iconst (v := nI 3) hx hb dL_law_1116 (by decide) ?_
  refine xiadd hx hb dL_law_1117 ?_
  refine xsld hx hb hX hbl hbA hS hL (by omega) dL_law_1118 ?_
  refine xtop e_y.symm ?_
  refine lv_aload_n hx hb dL_law_1119 rfl (lv_at hl 2 rfl) ?_
  refine lcalli (vx_runSW (As := [.ref (a 0), .int (bI on), .int g, .int y, .ref o]) (rest := []) ⟨hx, hb, hml, hown, hts⟩ (c_L_ofGroup l hl0 D cs sa a M N o go _ hA.1 hA.2.2.2.1 nf on g y hF.2.1 hF.1) (vx_cwSW 5 hts gL_law_L_ofGroup rfl rfl rfl (by decide +kernel) ⟨(Nat.le_of_ble_eq_true rfl), (Nat.le_of_ble_eq_true rfl)⟩) (lpreS (LJ_o hJ) hK hT hNc hZ hS (Ap_o hA hS.1)) rfl rfl hl.1 rfl (lv_room (Nat.le_of_ble_eq_true rfl)) dL_law_1120 (lfit hc hs (by decide) (by decide))) hS (Ap_o hA hS.1) (fun u9 H locs hu hP9 hk9 hS => ?_)
  have hJ := LJ_x hJ hA hP9 hk9
  obtain ⟨K9, hK9⟩ : ∃ K9 : Nat, K9 = (if (isIn nf y) = true then (if (isGr g) = true then (if (decide (nf < 40)) = true then 0 else 3) else 2) else 1) := ⟨_, rfl⟩
  have h4 : K9 < 4 := by rw [hK9]; repeat' (first | decide | split)
  refine xtop (congrArg nI hK9.symm) ?_
  refine lv_istore (lv' := [(6, .int (nI K9)), (5, .int (nI i)), (4, .ref od), (3, .ref o), (2, .ref (b 0)), (1, .ref (a 0)), (0, .ref bq)]) hx hb dL_law_1123 hl (by decide) rfl (fun ls hl => ?_)
  refine lv_aload_n hx hb dL_law_1125 rfl (lv_at hl 4 rfl) ?_
  refine lv_aload_n hx hb dL_law_1126 rfl (lv_at hl 6 rfl) ?_
  refine lv_iload hx hb dL_law_1127 (lv_at hl 1 rfl) ?_
  refine lv_iconst (v := nI 1) hx hb dL_law_1129 (by decide) ?_
  refine xiadd hx hb dL_law_1130 ?_
  refine xsld hx hb hX hbl hbA hS hL (by omega) dL_law_1131 ?_
  refine xnz (t1 := 1139) (t2 := 1140) hx hb dL_law_1132 (by decide) dL_law_1135 dL_law_1136 (by decide) dL_law_1139 rfl ?_
  refine xtop (congrArg bI e_on.symm) ?_
  refine lv_aload_n hx hb dL_law_1140 rfl (lv_at hl 6 rfl) ?_
  refine lv_iload hx hb dL_law_1141 (lv_at hl 1 rfl) ?_
  refine lv_iconst (v := nI 2) hx hb dL_law_1143 (by decide) ?_
  refine xiadd hx hb dL_law_1144 ?_
  refine xsld hx hb hX hbl hbA hS hL (by omega) dL_law_1145 ?_
  refine xtop e_g.symm ?_
  refine lv_aload_n hx hb dL_law_1146 rfl (lv_at hl 6 rfl) ?_
  refine lv_iload hx hb dL_law_1147 (lv_at hl 1 rfl) ?_
  refine lv_iconst (v := nI 3) hx hb dL_law_1149 (by decide) ?_
  refine xiadd hx hb dL_law_1150 ?_
  refine xsld hx hb hX hbl hbA hS hL (by omega) dL_law_1151 ?_
  refine xtop e_y.symm ?_
  refine lcalli (va_runV (As := [.int (bI on), .int g, .int y]) (rest := []) ⟨hx, hb, hml, hown, hts⟩ (c_X5_ofGroup l D cs b R _ hA.2.1 nf on g y hF.2.2.1 hF.1) (cwV 3 hts gL_law_X5_ofGroup rfl rfl rfl (by decide +kernel) ⟨(Nat.le_of_ble_eq_true rfl), (Nat.le_of_ble_eq_true rfl)⟩) (xpreVs hJ.2.1 hK (ci := 5) 0 rfl rfl) rfl rfl hl.1 rfl (lv_room (Nat.le_of_ble_eq_true rfl)) dL_law_1152 (lfit2 hc hs (by decide) (by decide))) hS (Ap_b hA hS.1) (fun _ H locs hv hP9 hk9 hS => ?_)
  obtain ⟨R1, hv⟩ : ∃ R1 : Nat → Nat → Int32, R1 = (if isIn nf y = true then (if isGr g = true then crt (wr R 0 0 (nI 0)) nf (if on = true then 4 else 5) g y (nI 1 + R 6 y.toNatClampNeg) (R 7 y.toNatClampNeg) else wr R 0 0 (nI 2)) else wr R 0 0 (nI 1)) := ⟨_, rfl⟩
  rw [← hv] at hP9
  have hJ := LJ_r hJ hA hP9 hk9
  obtain ⟨B9, hB9⟩ : ∃ B9 : Int32, B9 = (if isIn nf y = true then (if isGr g = true then (if nf = 40 then nI 0 else nI nf) else nI 0) else nI 0) := ⟨_, rfl⟩
  refine xtop hB9.symm ?_
  refine lv_istore (lv' := [(7, .int B9), (6, .int (nI K9)), (5, .int (nI i)), (4, .ref od), (3, .ref o), (2, .ref (b 0)), (1, .ref (a 0)), (0, .ref bq)]) hx hb dL_law_1155 hl (by decide) rfl (fun ls hl => ?_)
  obtain ⟨e0, e1, hsim⟩ := op_ofGroup hW hF on g y hu hv
  have e0 : R1 0 0 = nI K9 := e0.trans (congrArg nI hK9.symm)
  refine lv_aload_n hx hb dL_law_1157 rfl (lv_at hl 5 rfl) ?_
  refine lcall0i (va_runV (As := []) (rest := []) ⟨hx, hb, hml, hown, hts⟩ (c_X5_thrown l D cs b R1) (cwV 0 hts gL_law_X5_thrown rfl rfl rfl (by decide +kernel) ⟨(Nat.le_of_ble_eq_true rfl), (Nat.le_of_ble_eq_true rfl)⟩) (xpreV hJ.2.1 hK (ci := 5) 0 rfl rfl) rfl rfl hl.1 rfl (lv_room (Nat.le_of_ble_eq_true rfl)) dL_law_1158 (lfit3 (z := 3) (w := 18) (z2 := 0) (w2 := 0) hc hs (by decide) (by decide))) hS (fun H locs hk9 hS => ?_)
  have hJ := LJ_0 hJ hk9
  refine xtop e0 ?_
  refine lv_iload hx hb dL_law_1161 (lv_at hl 1 rfl) ?_
  refine lv_icmp_eq (tgt := 1168) hx hb dL_law_1163 (by decide) (fun _ => ?_) (fun q => absurd rfl q)
  refine lv_iload hx hb dL_law_1168 (lv_at hl 1 rfl) ?_
  refine lv_if_ne (tgt := 1185) hx hb dL_law_1170 (by decide) (fun q => ?_) (fun q => ?_)
  ·
    refine lv_goto (tgt := 2008) hx hb dL_law_1185 (by decide) ?_
    exact lfin hkk hsim hJ hS (lv_sub hl [2, 3, 4, 5, 6, 7] rfl) (by decide) (by decide)
  ·
    refine lv_aload_n hx hb dL_law_1173 rfl (lv_at hl 4 rfl) ?_
    refine lv_iconst (v := nI 0) hx hb dL_law_1174 (by decide) ?_
    have e2 := e1 (hK9.symm.trans (nI_c h4 q))
    refine xlald (q0 := 0) (t0 := 1) hx hb hK.1 hJ.2.2.1 rfl rfl (by decide) (by decide) dL_law_1175 ?_
    refine xtopl (y := B9.toInt64) (by rw [hB9]; exact e2) ?_
    refine lv_iload hx hb dL_law_1176 (lv_at hl 0 rfl) ?_
    refine lv_i2l (v := B9.toInt64) hx hb dL_law_1178 rfl ?_
    refine W.lcmp hx hb dL_law_1179 ?_
    refine lv_if_eq (tgt := 1185) hx hb dL_law_1180 (by decide) (fun _ => ?_) (fun q => absurd ((lg_cmp_eq _ _).mpr rfl) q)
    refine lv_goto (tgt := 2008) hx hb dL_law_1185 (by decide) ?_
    exact lfin hkk hsim hJ hS (lv_sub hl [2, 3, 4, 5, 6, 7] rfl) (by decide) (by decide)

set_option maxHeartbeats 4000000 in
set_option maxRecDepth 100000 in
theorem k_after {p : Program} {l : Launch} {e : Env} {s : State} {m : MethodId} {below : List Frame} {meth : Method} {c : Code} {bq L : Nat} {xs : Nat → Int32} {D : va_G} {cs sa a b : Nat → Nat} {o od : Nat} {Q : State → Prop} {i cells slots : Nat} {M R : Nat → Nat → Int32} {N go : Nat → Int64} {gd : Nat → UInt64} {H : Heap} {locs : List Loc} {ls : Array Slot} (C : LX p l s m meth c bq L xs D cs sa a b o od) (hi : i + 5 ≤ L) (hsim : SimE M N R) (hJ : LJ D cs a b o od M N R go gd H) (hS : va_S (fun q : Nat => s.heap.size ≤ q) s.heap H locs) (hl : lv_has ls 9 [(5, .int (nI i)), (4, .ref od), (3, .ref o), (2, .ref (b 0)), (1, .ref (a 0)), (0, .ref bq)]) (hc : cells + 10 ≤ 601024) (hs : slots + 200 ≤ 7293034) (hkk : LK p l e s m below meth c bq D cs a b o od Q i cells slots) : W p l e room_1 s m #[Value.ref bq] below meth c H locs cells slots Q (F0 m 1188 ls []) := by
  obtain ⟨⟨hx, hb, hr, hml, hown, -, hX, hbl, hlocks, -⟩, hts, hl0, hL, hK, hT, hNc, hZ, hA⟩ := C
  obtain ⟨n, act, nf, kd, p1, p2, ns, sb, ag, hW, hF⟩ := hsim
  have hb : c.code = cL_law := hb
  have hown : s.vm.findClass RL = some m.cls := hown
  have hbA : ¬ (fun q : Nat => s.heap.size ≤ q) bq := Nat.not_le.mpr hbl
  obtain ⟨x, e_x⟩ : ∃ x : Int32, x = xs (i + 1) := ⟨_, rfl⟩
  obtain ⟨y, e_y⟩ : ∃ y : Int32, y = xs (i + 2) := ⟨_, rfl⟩
  refine lv_aload_n hx hb dL_law_1188 rfl (lv_at hl 4 rfl) ?_
  refine lv_aload_n hx hb dL_law_1189 rfl (lv_at hl 5 rfl) ?_
  refine lv_iload hx hb dL_law_1190 (lv_at hl 0 rfl) ?_
  refine lv_iconst (v := nI 1) hx hb dL_law_1192 (by decide) ?_
  refine xiadd hx hb dL_law_1193 ?_
  refine xsld hx hb hX hbl hbA hS hL (by omega) dL_law_1194 ?_
  refine xtop e_x.symm ?_
  refine lv_aload_n hx hb dL_law_1195 rfl (lv_at hl 5 rfl) ?_
  refine lv_iload hx hb dL_law_1196 (lv_at hl 0 rfl) ?_
  refine lv_iconst (v := nI 2) hx hb dL_law_1198 (by decide) ?_
  refine xiadd hx hb dL_law_1199 ?_
  refine xsld hx hb hX hbl hbA hS hL (by omega) dL_law_1200 ?_
  refine xtop e_y.symm ?_
  refine lv_aload_n hx hb dL_law_1201 rfl (lv_at hl 2 rfl) ?_
  refine lcalli (vx_runSW (As := [.ref (a 0), .int x, .int y, .ref o]) (rest := []) ⟨hx, hb, hml, hown, hts⟩ (c_L_after l hl0 D cs sa a M N o go _ hA.1 hA.2.2.2.1 nf x y hF.2.1 hF.1) (vx_cwSW 4 hts gL_law_L_after rfl rfl rfl (by decide +kernel) ⟨(Nat.le_of_ble_eq_true rfl), (Nat.le_of_ble_eq_true rfl)⟩) (lpreS (LJ_o hJ) hK hT hNc hZ hS (Ap_o hA hS.1)) rfl rfl hl.1 rfl (lv_room (Nat.le_of_ble_eq_true rfl)) dL_law_1202 (lfit hc hs (by decide) (by decide))) hS (Ap_o hA hS.1) (fun u9 H locs hu hP9 hk9 hS => ?_)
  have hJ := LJ_x hJ hA hP9 hk9
  obtain ⟨K9, hK9⟩ : ∃ K9 : Nat, K9 = (if (isIn nf x) = true then (if (isIn nf y) = true then (if (decide (mx (M 11 x.toNatClampNeg) (M 11 y.toNatClampNeg) < nI 2)) = true then (if (decide (nf < 40)) = true then 0 else 3) else 2) else 1) else 1) := ⟨_, rfl⟩
  have h4 : K9 < 4 := by rw [hK9]; repeat' (first | decide | split)
  refine xtop (congrArg nI hK9.symm) ?_
  refine lv_istore (lv' := [(6, .int (nI K9)), (5, .int (nI i)), (4, .ref od), (3, .ref o), (2, .ref (b 0)), (1, .ref (a 0)), (0, .ref bq)]) hx hb dL_law_1205 hl (by decide) rfl (fun ls hl => ?_)
  refine lv_aload_n hx hb dL_law_1207 rfl (lv_at hl 4 rfl) ?_
  refine lv_aload_n hx hb dL_law_1208 rfl (lv_at hl 6 rfl) ?_
  refine lv_iload hx hb dL_law_1209 (lv_at hl 1 rfl) ?_
  refine lv_iconst (v := nI 1) hx hb dL_law_1211 (by decide) ?_
  refine xiadd hx hb dL_law_1212 ?_
  refine xsld hx hb hX hbl hbA hS hL (by omega) dL_law_1213 ?_
  refine xtop e_x.symm ?_
  refine lv_aload_n hx hb dL_law_1214 rfl (lv_at hl 6 rfl) ?_
  refine lv_iload hx hb dL_law_1215 (lv_at hl 1 rfl) ?_
  refine lv_iconst (v := nI 2) hx hb dL_law_1217 (by decide) ?_
  refine xiadd hx hb dL_law_1218 ?_
  refine xsld hx hb hX hbl hbA hS hL (by omega) dL_law_1219 ?_
  refine xtop e_y.symm ?_
  refine lcalli (va_runV (As := [.int x, .int y]) (rest := []) ⟨hx, hb, hml, hown, hts⟩ (c_X5_after l D cs b R _ hA.2.1 nf x y hF.2.2.1 hF.1) (cwV 2 hts gL_law_X5_after rfl rfl rfl (by decide +kernel) ⟨(Nat.le_of_ble_eq_true rfl), (Nat.le_of_ble_eq_true rfl)⟩) (xpreVs hJ.2.1 hK (ci := 5) 0 rfl rfl) rfl rfl hl.1 rfl (lv_room (Nat.le_of_ble_eq_true rfl)) dL_law_1220 (lfit2 hc hs (by decide) (by decide))) hS (Ap_b hA hS.1) (fun _ H locs hv hP9 hk9 hS => ?_)
  obtain ⟨R1, hv⟩ : ∃ R1 : Nat → Nat → Int32, R1 = (if (isIn nf x && isIn nf y) = true then (if nI 1 + mx (R 7 x.toNatClampNeg) (R 7 y.toNatClampNeg) < nI 3 then crt (wr R 0 0 (nI 0)) nf 6 x y (mx (R 6 x.toNatClampNeg) (R 6 y.toNatClampNeg)) (nI 1 + mx (R 7 x.toNatClampNeg) (R 7 y.toNatClampNeg)) else wr R 0 0 (nI 2)) else wr R 0 0 (nI 1)) := ⟨_, rfl⟩
  rw [← hv] at hP9
  have hJ := LJ_r hJ hA hP9 hk9
  obtain ⟨B9, hB9⟩ : ∃ B9 : Int32, B9 = (if (isIn nf x && isIn nf y) = true then (if nI 1 + mx (R 7 x.toNatClampNeg) (R 7 y.toNatClampNeg) < nI 3 then (if nf = 40 then nI 0 else nI nf) else nI 0) else nI 0) := ⟨_, rfl⟩
  refine xtop hB9.symm ?_
  refine lv_istore (lv' := [(7, .int B9), (6, .int (nI K9)), (5, .int (nI i)), (4, .ref od), (3, .ref o), (2, .ref (b 0)), (1, .ref (a 0)), (0, .ref bq)]) hx hb dL_law_1223 hl (by decide) rfl (fun ls hl => ?_)
  obtain ⟨e0, e1, hsim⟩ := op_after hW hF x y hu hv
  have e0 : R1 0 0 = nI K9 := e0.trans (congrArg nI hK9.symm)
  refine lv_aload_n hx hb dL_law_1225 rfl (lv_at hl 5 rfl) ?_
  refine lcall0i (va_runV (As := []) (rest := []) ⟨hx, hb, hml, hown, hts⟩ (c_X5_thrown l D cs b R1) (cwV 0 hts gL_law_X5_thrown rfl rfl rfl (by decide +kernel) ⟨(Nat.le_of_ble_eq_true rfl), (Nat.le_of_ble_eq_true rfl)⟩) (xpreV hJ.2.1 hK (ci := 5) 0 rfl rfl) rfl rfl hl.1 rfl (lv_room (Nat.le_of_ble_eq_true rfl)) dL_law_1226 (lfit3 (z := 4) (w := 24) (z2 := 0) (w2 := 0) hc hs (by decide) (by decide))) hS (fun H locs hk9 hS => ?_)
  have hJ := LJ_0 hJ hk9
  refine xtop e0 ?_
  refine lv_iload hx hb dL_law_1229 (lv_at hl 1 rfl) ?_
  refine lv_icmp_eq (tgt := 1236) hx hb dL_law_1231 (by decide) (fun _ => ?_) (fun q => absurd rfl q)
  refine lv_iload hx hb dL_law_1236 (lv_at hl 1 rfl) ?_
  refine lv_if_ne (tgt := 1253) hx hb dL_law_1238 (by decide) (fun q => ?_) (fun q => ?_)
  ·
    refine lv_goto (tgt := 2008) hx hb dL_law_1253 (by decide) ?_
    exact lfin hkk hsim hJ hS (lv_sub hl [2, 3, 4, 5, 6, 7] rfl) (by decide) (by decide)
  ·
    refine lv_aload_n hx hb dL_law_1241 rfl (lv_at hl 4 rfl) ?_
    refine lv_iconst (v := nI 0) hx hb dL_law_1242 (by decide) ?_
    have e2 := e1 (hK9.symm.trans (nI_c h4 q))
    refine xlald (q0 := 0) (t0 := 1) hx hb hK.1 hJ.2.2.1 rfl rfl (by decide) (by decide) dL_law_1243 ?_
    refine xtopl (y := B9.toInt64) (by rw [hB9]; exact e2) ?_
    refine lv_iload hx hb dL_law_1244 (lv_at hl 0 rfl) ?_
    refine lv_i2l (v := B9.toInt64) hx hb dL_law_1246 rfl ?_
    refine W.lcmp hx hb dL_law_1247 ?_
    refine lv_if_eq (tgt := 1253) hx hb dL_law_1248 (by decide) (fun _ => ?_) (fun q => absurd ((lg_cmp_eq _ _).mpr rfl) q)
    refine lv_goto (tgt := 2008) hx hb dL_law_1253 (by decide) ?_
    exact lfin hkk hsim hJ hS (lv_sub hl [2, 3, 4, 5, 6, 7] rfl) (by decide) (by decide)

set_option maxHeartbeats 4000000 in
set_option maxRecDepth 100000 in
theorem k_formulaCount {p : Program} {l : Launch} {e : Env} {s : State} {m : MethodId} {below : List Frame} {meth : Method} {c : Code} {bq L : Nat} {xs : Nat → Int32} {D : va_G} {cs sa a b : Nat → Nat} {o od : Nat} {Q : State → Prop} {i cells slots : Nat} {M R : Nat → Nat → Int32} {N go : Nat → Int64} {gd : Nat → UInt64} {H : Heap} {locs : List Loc} {ls : Array Slot} (C : LX p l s m meth c bq L xs D cs sa a b o od) (hi : i + 5 ≤ L) (hsim : SimE M N R) (hJ : LJ D cs a b o od M N R go gd H) (hS : va_S (fun q : Nat => s.heap.size ≤ q) s.heap H locs) (hl : lv_has ls 9 [(5, .int (nI i)), (4, .ref od), (3, .ref o), (2, .ref (b 0)), (1, .ref (a 0)), (0, .ref bq)]) (hc : cells + 10 ≤ 601024) (hs : slots + 200 ≤ 7293034) (hkk : LK p l e s m below meth c bq D cs a b o od Q i cells slots) : W p l e room_1 s m #[Value.ref bq] below meth c H locs cells slots Q (F0 m 1256 ls []) := by
  obtain ⟨⟨hx, hb, hr, hml, hown, -, hX, hbl, hlocks, -⟩, hts, hl0, hL, hK, hT, hNc, hZ, hA⟩ := C
  obtain ⟨n, act, nf, kd, p1, p2, ns, sb, ag, hW, hF⟩ := hsim
  have hb : c.code = cL_law := hb
  have hown : s.vm.findClass RL = some m.cls := hown
  have hbA : ¬ (fun q : Nat => s.heap.size ≤ q) bq := Nat.not_le.mpr hbl
  refine lv_aload_n hx hb dL_law_1256 rfl (lv_at hl 4 rfl) ?_
  refine lcall0i (va_runV (As := []) (rest := []) ⟨hx, hb, hml, hown, hts⟩ (c_X4_formulaCount l D cs a M N  nf hF.2.1 hF.1) (cwV 0 hts gL_law_X4_formulaCount rfl rfl rfl (by decide +kernel) ⟨(Nat.le_of_ble_eq_true rfl), (Nat.le_of_ble_eq_true rfl)⟩) (xpreV hJ.1 hK (ci := 4) 0 rfl rfl) rfl rfl hl.1 rfl (lv_room (Nat.le_of_ble_eq_true rfl)) dL_law_1257 (lfit hc hs (by decide) (by decide))) hS (fun H locs hk9 hS => ?_)
  have hJ := LJ_0 hJ hk9
  obtain ⟨C9, hC9⟩ : ∃ C9 : Int32, C9 = nI nf := ⟨_, rfl⟩
  refine xtop hC9.symm ?_
  refine lv_aload_n hx hb dL_law_1260 rfl (lv_at hl 3 rfl) ?_
  refine lcalli (va_runV (As := []) (rest := [.int C9]) ⟨hx, hb, hml, hown, hts⟩ (c_X5_formulaCount l D cs b R _ hA.2.1 nf  hF.2.2.1) (cwV 0 hts gL_law_X5_formulaCount rfl rfl rfl (by decide +kernel) ⟨(Nat.le_of_ble_eq_true rfl), (Nat.le_of_ble_eq_true rfl)⟩) (xpreVs hJ.2.1 hK (ci := 5) 0 rfl rfl) rfl rfl hl.1 rfl (lv_room (Nat.le_of_ble_eq_true rfl)) dL_law_1261 (lfit hc hs (by decide) (by decide))) hS (Ap_b hA hS.1) (fun _ H locs hv hP9 hk9 hS => ?_)
  obtain ⟨R1, hv⟩ : ∃ R1 : Nat → Nat → Int32, R1 = wr R 0 0 (nI 0) := ⟨_, rfl⟩
  rw [← hv] at hP9
  have hJ := LJ_r hJ hA hP9 hk9
  have ee : C9 = nI nf ∧ SimE M N R1 := by
    rw [hC9, hv]; exact ⟨rfl, simQ hW hF TX_r⟩
  obtain ⟨ee, hsim⟩ := ee
  refine lv_icmp_eq (tgt := 2008) hx hb dL_law_1264 (by decide) (fun _ => ?_) (fun q => absurd ee q)
  exact lfin (z := 0) (w := 0) hkk hsim hJ hS hl (by decide) (by decide)

set_option maxHeartbeats 4000000 in
set_option maxRecDepth 100000 in
theorem k_depth {p : Program} {l : Launch} {e : Env} {s : State} {m : MethodId} {below : List Frame} {meth : Method} {c : Code} {bq L : Nat} {xs : Nat → Int32} {D : va_G} {cs sa a b : Nat → Nat} {o od : Nat} {Q : State → Prop} {i cells slots : Nat} {M R : Nat → Nat → Int32} {N go : Nat → Int64} {gd : Nat → UInt64} {H : Heap} {locs : List Loc} {ls : Array Slot} (C : LX p l s m meth c bq L xs D cs sa a b o od) (hi : i + 5 ≤ L) (hsim : SimE M N R) (hJ : LJ D cs a b o od M N R go gd H) (hS : va_S (fun q : Nat => s.heap.size ≤ q) s.heap H locs) (hl : lv_has ls 9 [(5, .int (nI i)), (4, .ref od), (3, .ref o), (2, .ref (b 0)), (1, .ref (a 0)), (0, .ref bq)]) (hc : cells + 10 ≤ 601024) (hs : slots + 200 ≤ 7293034) (hkk : LK p l e s m below meth c bq D cs a b o od Q i cells slots) : W p l e room_1 s m #[Value.ref bq] below meth c H locs cells slots Q (F0 m 1269 ls []) := by
  obtain ⟨⟨hx, hb, hr, hml, hown, -, hX, hbl, hlocks, -⟩, hts, hl0, hL, hK, hT, hNc, hZ, hA⟩ := C
  obtain ⟨n, act, nf, kd, p1, p2, ns, sb, ag, hW, hF⟩ := hsim
  have hb : c.code = cL_law := hb
  have hown : s.vm.findClass RL = some m.cls := hown
  have hbA : ¬ (fun q : Nat => s.heap.size ≤ q) bq := Nat.not_le.mpr hbl
  obtain ⟨x, e_x⟩ : ∃ x : Int32, x = xs (i + 1) := ⟨_, rfl⟩
  refine lv_aload_n hx hb dL_law_1269 rfl (lv_at hl 4 rfl) ?_
  refine lv_aload_n hx hb dL_law_1270 rfl (lv_at hl 5 rfl) ?_
  refine lv_iload hx hb dL_law_1271 (lv_at hl 0 rfl) ?_
  refine lv_iconst (v := nI 1) hx hb dL_law_1273 (by decide) ?_
  refine xiadd hx hb dL_law_1274 ?_
  refine xsld hx hb hX hbl hbA hS hL (by omega) dL_law_1275 ?_
  refine xtop e_x.symm ?_
  refine lv_aload_n hx hb dL_law_1276 rfl (lv_at hl 2 rfl) ?_
  refine lcalli (vx_runSW (As := [.ref (a 0), .int x, .ref o]) (rest := []) ⟨hx, hb, hml, hown, hts⟩ (c_L_depth l hl0 D cs sa a M N o go _ hA.1 hA.2.2.2.1 nf x hF.2.1 hF.1) (vx_cwSW 3 hts gL_law_L_depth rfl rfl rfl (by decide +kernel) ⟨(Nat.le_of_ble_eq_true rfl), (Nat.le_of_ble_eq_true rfl)⟩) (lpreS (LJ_o hJ) hK hT hNc hZ hS (Ap_o hA hS.1)) rfl rfl hl.1 rfl (lv_room (Nat.le_of_ble_eq_true rfl)) dL_law_1277 (lfit hc hs (by decide) (by decide))) hS (Ap_o hA hS.1) (fun u9 H locs hu hP9 hk9 hS => ?_)
  have hJ := LJ_x hJ hA hP9 hk9
  obtain ⟨K9, hK9⟩ : ∃ K9 : Nat, K9 = (if (isIn nf x) = true then 0 else 1) := ⟨_, rfl⟩
  have h4 : K9 < 4 := by rw [hK9]; repeat' (first | decide | split)
  refine xtop (congrArg nI hK9.symm) ?_
  refine lv_istore (lv' := [(6, .int (nI K9)), (5, .int (nI i)), (4, .ref od), (3, .ref o), (2, .ref (b 0)), (1, .ref (a 0)), (0, .ref bq)]) hx hb dL_law_1280 hl (by decide) rfl (fun ls hl => ?_)
  refine lv_aload_n hx hb dL_law_1282 rfl (lv_at hl 4 rfl) ?_
  refine lv_aload_n hx hb dL_law_1283 rfl (lv_at hl 6 rfl) ?_
  refine lv_iload hx hb dL_law_1284 (lv_at hl 1 rfl) ?_
  refine lv_iconst (v := nI 1) hx hb dL_law_1286 (by decide) ?_
  refine xiadd hx hb dL_law_1287 ?_
  refine xsld hx hb hX hbl hbA hS hL (by omega) dL_law_1288 ?_
  refine xtop e_x.symm ?_
  refine lcalli (va_runV (As := [.int x]) (rest := []) ⟨hx, hb, hml, hown, hts⟩ (c_X5_depth l D cs b R _ hA.2.1 nf x hF.2.2.1 hF.1) (cwV 1 hts gL_law_X5_depth rfl rfl rfl (by decide +kernel) ⟨(Nat.le_of_ble_eq_true rfl), (Nat.le_of_ble_eq_true rfl)⟩) (xpreVs hJ.2.1 hK (ci := 5) 0 rfl rfl) rfl rfl hl.1 rfl (lv_room (Nat.le_of_ble_eq_true rfl)) dL_law_1289 (lfit2 hc hs (by decide) (by decide))) hS (Ap_b hA hS.1) (fun _ H locs hv hP9 hk9 hS => ?_)
  obtain ⟨R1, hv⟩ : ∃ R1 : Nat → Nat → Int32, R1 = wr R 0 0 (if isIn nf x = true then nI 0 else nI 1) := ⟨_, rfl⟩
  rw [← hv] at hP9
  have hJ := LJ_r hJ hA hP9 hk9
  obtain ⟨B9, hB9⟩ : ∃ B9 : Int32, B9 = (if isIn nf x = true then R 6 x.toNatClampNeg else nI 0) := ⟨_, rfl⟩
  refine xtop hB9.symm ?_
  refine lv_istore (lv' := [(7, .int B9), (6, .int (nI K9)), (5, .int (nI i)), (4, .ref od), (3, .ref o), (2, .ref (b 0)), (1, .ref (a 0)), (0, .ref bq)]) hx hb dL_law_1292 hl (by decide) rfl (fun ls hl => ?_)
  obtain ⟨e0, e1, hsim⟩ := op_depth hW hF x hu hv
  have e0 : R1 0 0 = nI K9 := e0.trans (congrArg nI hK9.symm)
  refine lv_aload_n hx hb dL_law_1294 rfl (lv_at hl 5 rfl) ?_
  refine lcall0i (va_runV (As := []) (rest := []) ⟨hx, hb, hml, hown, hts⟩ (c_X5_thrown l D cs b R1) (cwV 0 hts gL_law_X5_thrown rfl rfl rfl (by decide +kernel) ⟨(Nat.le_of_ble_eq_true rfl), (Nat.le_of_ble_eq_true rfl)⟩) (xpreV hJ.2.1 hK (ci := 5) 0 rfl rfl) rfl rfl hl.1 rfl (lv_room (Nat.le_of_ble_eq_true rfl)) dL_law_1295 (lfit3 (z := 1) (w := 6) (z2 := 0) (w2 := 0) hc hs (by decide) (by decide))) hS (fun H locs hk9 hS => ?_)
  have hJ := LJ_0 hJ hk9
  refine xtop e0 ?_
  refine lv_iload hx hb dL_law_1298 (lv_at hl 1 rfl) ?_
  refine lv_icmp_eq (tgt := 1305) hx hb dL_law_1300 (by decide) (fun _ => ?_) (fun q => absurd rfl q)
  refine lv_iload hx hb dL_law_1305 (lv_at hl 1 rfl) ?_
  refine lv_if_ne (tgt := 1322) hx hb dL_law_1307 (by decide) (fun q => ?_) (fun q => ?_)
  ·
    refine lv_goto (tgt := 2008) hx hb dL_law_1322 (by decide) ?_
    exact lfin hkk hsim hJ hS (lv_sub hl [2, 3, 4, 5, 6, 7] rfl) (by decide) (by decide)
  ·
    refine lv_aload_n hx hb dL_law_1310 rfl (lv_at hl 4 rfl) ?_
    refine lv_iconst (v := nI 0) hx hb dL_law_1311 (by decide) ?_
    have e2 := e1 (hK9.symm.trans (nI_c h4 q))
    refine xlald (q0 := 0) (t0 := 1) hx hb hK.1 hJ.2.2.1 rfl rfl (by decide) (by decide) dL_law_1312 ?_
    refine xtopl (y := B9.toInt64) (by rw [hB9]; exact e2) ?_
    refine lv_iload hx hb dL_law_1313 (lv_at hl 0 rfl) ?_
    refine lv_i2l (v := B9.toInt64) hx hb dL_law_1315 rfl ?_
    refine W.lcmp hx hb dL_law_1316 ?_
    refine lv_if_eq (tgt := 1322) hx hb dL_law_1317 (by decide) (fun _ => ?_) (fun q => absurd ((lg_cmp_eq _ _).mpr rfl) q)
    refine lv_goto (tgt := 2008) hx hb dL_law_1322 (by decide) ?_
    exact lfin hkk hsim hJ hS (lv_sub hl [2, 3, 4, 5, 6, 7] rfl) (by decide) (by decide)

set_option maxHeartbeats 4000000 in
set_option maxRecDepth 100000 in
theorem k_nesting {p : Program} {l : Launch} {e : Env} {s : State} {m : MethodId} {below : List Frame} {meth : Method} {c : Code} {bq L : Nat} {xs : Nat → Int32} {D : va_G} {cs sa a b : Nat → Nat} {o od : Nat} {Q : State → Prop} {i cells slots : Nat} {M R : Nat → Nat → Int32} {N go : Nat → Int64} {gd : Nat → UInt64} {H : Heap} {locs : List Loc} {ls : Array Slot} (C : LX p l s m meth c bq L xs D cs sa a b o od) (hi : i + 5 ≤ L) (hsim : SimE M N R) (hJ : LJ D cs a b o od M N R go gd H) (hS : va_S (fun q : Nat => s.heap.size ≤ q) s.heap H locs) (hl : lv_has ls 9 [(5, .int (nI i)), (4, .ref od), (3, .ref o), (2, .ref (b 0)), (1, .ref (a 0)), (0, .ref bq)]) (hc : cells + 10 ≤ 601024) (hs : slots + 200 ≤ 7293034) (hkk : LK p l e s m below meth c bq D cs a b o od Q i cells slots) : W p l e room_1 s m #[Value.ref bq] below meth c H locs cells slots Q (F0 m 1325 ls []) := by
  obtain ⟨⟨hx, hb, hr, hml, hown, -, hX, hbl, hlocks, -⟩, hts, hl0, hL, hK, hT, hNc, hZ, hA⟩ := C
  obtain ⟨n, act, nf, kd, p1, p2, ns, sb, ag, hW, hF⟩ := hsim
  have hb : c.code = cL_law := hb
  have hown : s.vm.findClass RL = some m.cls := hown
  have hbA : ¬ (fun q : Nat => s.heap.size ≤ q) bq := Nat.not_le.mpr hbl
  obtain ⟨x, e_x⟩ : ∃ x : Int32, x = xs (i + 1) := ⟨_, rfl⟩
  refine lv_aload_n hx hb dL_law_1325 rfl (lv_at hl 4 rfl) ?_
  refine lv_aload_n hx hb dL_law_1326 rfl (lv_at hl 5 rfl) ?_
  refine lv_iload hx hb dL_law_1327 (lv_at hl 0 rfl) ?_
  refine lv_iconst (v := nI 1) hx hb dL_law_1329 (by decide) ?_
  refine xiadd hx hb dL_law_1330 ?_
  refine xsld hx hb hX hbl hbA hS hL (by omega) dL_law_1331 ?_
  refine xtop e_x.symm ?_
  refine lv_aload_n hx hb dL_law_1332 rfl (lv_at hl 2 rfl) ?_
  refine lcalli (vx_runSW (As := [.ref (a 0), .int x, .ref o]) (rest := []) ⟨hx, hb, hml, hown, hts⟩ (c_L_nesting l hl0 D cs sa a M N o go _ hA.1 hA.2.2.2.1 nf x hF.2.1 hF.1) (vx_cwSW 3 hts gL_law_L_nesting rfl rfl rfl (by decide +kernel) ⟨(Nat.le_of_ble_eq_true rfl), (Nat.le_of_ble_eq_true rfl)⟩) (lpreS (LJ_o hJ) hK hT hNc hZ hS (Ap_o hA hS.1)) rfl rfl hl.1 rfl (lv_room (Nat.le_of_ble_eq_true rfl)) dL_law_1333 (lfit hc hs (by decide) (by decide))) hS (Ap_o hA hS.1) (fun u9 H locs hu hP9 hk9 hS => ?_)
  have hJ := LJ_x hJ hA hP9 hk9
  obtain ⟨K9, hK9⟩ : ∃ K9 : Nat, K9 = (if (isIn nf x) = true then 0 else 1) := ⟨_, rfl⟩
  have h4 : K9 < 4 := by rw [hK9]; repeat' (first | decide | split)
  refine xtop (congrArg nI hK9.symm) ?_
  refine lv_istore (lv' := [(6, .int (nI K9)), (5, .int (nI i)), (4, .ref od), (3, .ref o), (2, .ref (b 0)), (1, .ref (a 0)), (0, .ref bq)]) hx hb dL_law_1336 hl (by decide) rfl (fun ls hl => ?_)
  refine lv_aload_n hx hb dL_law_1338 rfl (lv_at hl 4 rfl) ?_
  refine lv_aload_n hx hb dL_law_1339 rfl (lv_at hl 6 rfl) ?_
  refine lv_iload hx hb dL_law_1340 (lv_at hl 1 rfl) ?_
  refine lv_iconst (v := nI 1) hx hb dL_law_1342 (by decide) ?_
  refine xiadd hx hb dL_law_1343 ?_
  refine xsld hx hb hX hbl hbA hS hL (by omega) dL_law_1344 ?_
  refine xtop e_x.symm ?_
  refine lcalli (va_runV (As := [.int x]) (rest := []) ⟨hx, hb, hml, hown, hts⟩ (c_X5_nesting l D cs b R _ hA.2.1 nf x hF.2.2.1 hF.1) (cwV 1 hts gL_law_X5_nesting rfl rfl rfl (by decide +kernel) ⟨(Nat.le_of_ble_eq_true rfl), (Nat.le_of_ble_eq_true rfl)⟩) (xpreVs hJ.2.1 hK (ci := 5) 0 rfl rfl) rfl rfl hl.1 rfl (lv_room (Nat.le_of_ble_eq_true rfl)) dL_law_1345 (lfit2 hc hs (by decide) (by decide))) hS (Ap_b hA hS.1) (fun _ H locs hv hP9 hk9 hS => ?_)
  obtain ⟨R1, hv⟩ : ∃ R1 : Nat → Nat → Int32, R1 = wr R 0 0 (if isIn nf x = true then nI 0 else nI 1) := ⟨_, rfl⟩
  rw [← hv] at hP9
  have hJ := LJ_r hJ hA hP9 hk9
  obtain ⟨B9, hB9⟩ : ∃ B9 : Int32, B9 = (if isIn nf x = true then R 7 x.toNatClampNeg else nI 0) := ⟨_, rfl⟩
  refine xtop hB9.symm ?_
  refine lv_istore (lv' := [(7, .int B9), (6, .int (nI K9)), (5, .int (nI i)), (4, .ref od), (3, .ref o), (2, .ref (b 0)), (1, .ref (a 0)), (0, .ref bq)]) hx hb dL_law_1348 hl (by decide) rfl (fun ls hl => ?_)
  obtain ⟨e0, e1, hsim⟩ := op_nesting hW hF x hu hv
  have e0 : R1 0 0 = nI K9 := e0.trans (congrArg nI hK9.symm)
  refine lv_aload_n hx hb dL_law_1350 rfl (lv_at hl 5 rfl) ?_
  refine lcall0i (va_runV (As := []) (rest := []) ⟨hx, hb, hml, hown, hts⟩ (c_X5_thrown l D cs b R1) (cwV 0 hts gL_law_X5_thrown rfl rfl rfl (by decide +kernel) ⟨(Nat.le_of_ble_eq_true rfl), (Nat.le_of_ble_eq_true rfl)⟩) (xpreV hJ.2.1 hK (ci := 5) 0 rfl rfl) rfl rfl hl.1 rfl (lv_room (Nat.le_of_ble_eq_true rfl)) dL_law_1351 (lfit3 (z := 1) (w := 6) (z2 := 0) (w2 := 0) hc hs (by decide) (by decide))) hS (fun H locs hk9 hS => ?_)
  have hJ := LJ_0 hJ hk9
  refine xtop e0 ?_
  refine lv_iload hx hb dL_law_1354 (lv_at hl 1 rfl) ?_
  refine lv_icmp_eq (tgt := 1361) hx hb dL_law_1356 (by decide) (fun _ => ?_) (fun q => absurd rfl q)
  refine lv_iload hx hb dL_law_1361 (lv_at hl 1 rfl) ?_
  refine lv_if_ne (tgt := 1378) hx hb dL_law_1363 (by decide) (fun q => ?_) (fun q => ?_)
  ·
    refine lv_goto (tgt := 2008) hx hb dL_law_1378 (by decide) ?_
    exact lfin hkk hsim hJ hS (lv_sub hl [2, 3, 4, 5, 6, 7] rfl) (by decide) (by decide)
  ·
    refine lv_aload_n hx hb dL_law_1366 rfl (lv_at hl 4 rfl) ?_
    refine lv_iconst (v := nI 0) hx hb dL_law_1367 (by decide) ?_
    have e2 := e1 (hK9.symm.trans (nI_c h4 q))
    refine xlald (q0 := 0) (t0 := 1) hx hb hK.1 hJ.2.2.1 rfl rfl (by decide) (by decide) dL_law_1368 ?_
    refine xtopl (y := B9.toInt64) (by rw [hB9]; exact e2) ?_
    refine lv_iload hx hb dL_law_1369 (lv_at hl 0 rfl) ?_
    refine lv_i2l (v := B9.toInt64) hx hb dL_law_1371 rfl ?_
    refine W.lcmp hx hb dL_law_1372 ?_
    refine lv_if_eq (tgt := 1378) hx hb dL_law_1373 (by decide) (fun _ => ?_) (fun q => absurd ((lg_cmp_eq _ _).mpr rfl) q)
    refine lv_goto (tgt := 2008) hx hb dL_law_1378 (by decide) ?_
    exact lfin hkk hsim hJ hS (lv_sub hl [2, 3, 4, 5, 6, 7] rfl) (by decide) (by decide)

set_option maxHeartbeats 4000000 in
set_option maxRecDepth 100000 in
theorem k_where {p : Program} {l : Launch} {e : Env} {s : State} {m : MethodId} {below : List Frame} {meth : Method} {c : Code} {bq L : Nat} {xs : Nat → Int32} {D : va_G} {cs sa a b : Nat → Nat} {o od : Nat} {Q : State → Prop} {i cells slots : Nat} {M R : Nat → Nat → Int32} {N go : Nat → Int64} {gd : Nat → UInt64} {H : Heap} {locs : List Loc} {ls : Array Slot} (C : LX p l s m meth c bq L xs D cs sa a b o od) (hi : i + 5 ≤ L) (hsim : SimE M N R) (hJ : LJ D cs a b o od M N R go gd H) (hS : va_S (fun q : Nat => s.heap.size ≤ q) s.heap H locs) (hl : lv_has ls 9 [(5, .int (nI i)), (4, .ref od), (3, .ref o), (2, .ref (b 0)), (1, .ref (a 0)), (0, .ref bq)]) (hc : cells + 10 ≤ 601024) (hs : slots + 200 ≤ 7293034) (hkk : LK p l e s m below meth c bq D cs a b o od Q i cells slots) : W p l e room_1 s m #[Value.ref bq] below meth c H locs cells slots Q (F0 m 1381 ls []) := by
  obtain ⟨⟨hx, hb, hr, hml, hown, -, hX, hbl, hlocks, -⟩, hts, hl0, hL, hK, hT, hNc, hZ, hA⟩ := C
  obtain ⟨n, act, nf, kd, p1, p2, ns, sb, ag, hW, hF⟩ := hsim
  have hb : c.code = cL_law := hb
  have hown : s.vm.findClass RL = some m.cls := hown
  have hbA : ¬ (fun q : Nat => s.heap.size ≤ q) bq := Nat.not_le.mpr hbl
  obtain ⟨x, e_x⟩ : ∃ x : Int32, x = xs (i + 1) := ⟨_, rfl⟩
  refine lv_aload_n hx hb dL_law_1381 rfl (lv_at hl 4 rfl) ?_
  refine lv_aload_n hx hb dL_law_1382 rfl (lv_at hl 5 rfl) ?_
  refine lv_iload hx hb dL_law_1383 (lv_at hl 0 rfl) ?_
  refine lv_iconst (v := nI 1) hx hb dL_law_1385 (by decide) ?_
  refine xiadd hx hb dL_law_1386 ?_
  refine xsld hx hb hX hbl hbA hS hL (by omega) dL_law_1387 ?_
  refine xtop e_x.symm ?_
  refine lv_aload_n hx hb dL_law_1388 rfl (lv_at hl 2 rfl) ?_
  refine lcalli (vx_runSW (As := [.ref (a 0), .int x, .ref o]) (rest := []) ⟨hx, hb, hml, hown, hts⟩ (c_L_where l hl0 D cs sa a M N o go _ hA.1 hA.2.2.2.1 n nf kd p1 p2 ns sb x hW.2.1.1 hW.1.1 hF.2.1 hF.1 hF.2.2.2.1) (vx_cwSW 3 hts gL_law_L_where rfl rfl rfl (by decide +kernel) ⟨(Nat.le_of_ble_eq_true rfl), (Nat.le_of_ble_eq_true rfl)⟩) (lpreS (LJ_o hJ) hK hT hNc hZ hS (Ap_o hA hS.1)) rfl rfl hl.1 rfl (lv_room (Nat.le_of_ble_eq_true rfl)) dL_law_1389 (lfit hc hs (by decide) (by decide))) hS (Ap_o hA hS.1) (fun u9 H locs hu hP9 hk9 hS => ?_)
  have hJ := LJ_x hJ hA hP9 hk9
  obtain ⟨K9, hK9⟩ : ∃ K9 : Nat, K9 = (if (isIn nf x) = true then 0 else 1) := ⟨_, rfl⟩
  have h4 : K9 < 4 := by rw [hK9]; repeat' (first | decide | split)
  refine xtop (congrArg nI hK9.symm) ?_
  refine lv_istore (lv' := [(6, .int (nI K9)), (5, .int (nI i)), (4, .ref od), (3, .ref o), (2, .ref (b 0)), (1, .ref (a 0)), (0, .ref bq)]) hx hb dL_law_1392 hl (by decide) rfl (fun ls hl => ?_)
  refine lv_aload_n hx hb dL_law_1394 rfl (lv_at hl 4 rfl) ?_
  refine lv_aload_n hx hb dL_law_1395 rfl (lv_at hl 6 rfl) ?_
  refine lv_iload hx hb dL_law_1396 (lv_at hl 1 rfl) ?_
  refine lv_iconst (v := nI 1) hx hb dL_law_1398 (by decide) ?_
  refine xiadd hx hb dL_law_1399 ?_
  refine xsld hx hb hX hbl hbA hS hL (by omega) dL_law_1400 ?_
  refine xtop e_x.symm ?_
  refine lcalli (va_runV (As := [.int x]) (rest := []) ⟨hx, hb, hml, hown, hts⟩ (c_X5_where l D cs b R _ hA.2.1 n nf kd p1 p2 ns sb ag R x hW.2.2.1.1 hW.1.1 hF.2.2.1 hF.1 Rw_r hF.2.2.2.2.1) (cwV 1 hts gL_law_X5_where rfl rfl rfl (by decide +kernel) ⟨(Nat.le_of_ble_eq_true rfl), (Nat.le_of_ble_eq_true rfl)⟩) (xpreVs hJ.2.1 hK (ci := 5) 0 rfl rfl) rfl rfl hl.1 rfl (lv_room (Nat.le_of_ble_eq_true rfl)) dL_law_1401 (lfit2 hc hs (by decide) (by decide))) hS (Ap_b hA hS.1) (fun R1 H locs hv hP9 hk9 hS => ?_)
  have hJ := LJ_r hJ hA hP9 hk9
  obtain ⟨B9, hB9⟩ : ∃ B9 : Int32, B9 = (if isIn nf x = true then semR R n kd p1 p2 sb ag (sg n - nI 1) x.toNatClampNeg else nI 0) := ⟨_, rfl⟩
  refine xtop hB9.symm ?_
  refine lv_istore (lv' := [(7, .int B9), (6, .int (nI K9)), (5, .int (nI i)), (4, .ref od), (3, .ref o), (2, .ref (b 0)), (1, .ref (a 0)), (0, .ref bq)]) hx hb dL_law_1404 hl (by decide) rfl (fun ls hl => ?_)
  obtain ⟨e0, e1, hsim⟩ := op_where hW hF x hu hv
  have e0 : R1 0 0 = nI K9 := e0.trans (congrArg nI hK9.symm)
  refine lv_aload_n hx hb dL_law_1406 rfl (lv_at hl 5 rfl) ?_
  refine lcall0i (va_runV (As := []) (rest := []) ⟨hx, hb, hml, hown, hts⟩ (c_X5_thrown l D cs b R1) (cwV 0 hts gL_law_X5_thrown rfl rfl rfl (by decide +kernel) ⟨(Nat.le_of_ble_eq_true rfl), (Nat.le_of_ble_eq_true rfl)⟩) (xpreV hJ.2.1 hK (ci := 5) 0 rfl rfl) rfl rfl hl.1 rfl (lv_room (Nat.le_of_ble_eq_true rfl)) dL_law_1407 (lfit3 (z := 1) (w := 6) (z2 := 0) (w2 := 0) hc hs (by decide) (by decide))) hS (fun H locs hk9 hS => ?_)
  have hJ := LJ_0 hJ hk9
  refine xtop e0 ?_
  refine lv_iload hx hb dL_law_1410 (lv_at hl 1 rfl) ?_
  refine lv_icmp_eq (tgt := 1417) hx hb dL_law_1412 (by decide) (fun _ => ?_) (fun q => absurd rfl q)
  refine lv_iload hx hb dL_law_1417 (lv_at hl 1 rfl) ?_
  refine lv_if_ne (tgt := 1434) hx hb dL_law_1419 (by decide) (fun q => ?_) (fun q => ?_)
  ·
    refine lv_goto (tgt := 2008) hx hb dL_law_1434 (by decide) ?_
    exact lfin hkk hsim hJ hS (lv_sub hl [2, 3, 4, 5, 6, 7] rfl) (by decide) (by decide)
  ·
    refine lv_aload_n hx hb dL_law_1422 rfl (lv_at hl 4 rfl) ?_
    refine lv_iconst (v := nI 0) hx hb dL_law_1423 (by decide) ?_
    have e2 := e1 (hK9.symm.trans (nI_c h4 q))
    refine xlald (q0 := 0) (t0 := 1) hx hb hK.1 hJ.2.2.1 rfl rfl (by decide) (by decide) dL_law_1424 ?_
    refine xtopl (y := B9.toInt64) (by rw [hB9]; exact e2) ?_
    refine lv_iload hx hb dL_law_1425 (lv_at hl 0 rfl) ?_
    refine lv_i2l (v := B9.toInt64) hx hb dL_law_1427 rfl ?_
    refine W.lcmp hx hb dL_law_1428 ?_
    refine lv_if_eq (tgt := 1434) hx hb dL_law_1429 (by decide) (fun _ => ?_) (fun q => absurd ((lg_cmp_eq _ _).mpr rfl) q)
    refine lv_goto (tgt := 2008) hx hb dL_law_1434 (by decide) ?_
    exact lfin hkk hsim hJ hS (lv_sub hl [2, 3, 4, 5, 6, 7] rfl) (by decide) (by decide)

set_option maxHeartbeats 4000000 in
set_option maxRecDepth 100000 in
theorem k_holds {p : Program} {l : Launch} {e : Env} {s : State} {m : MethodId} {below : List Frame} {meth : Method} {c : Code} {bq L : Nat} {xs : Nat → Int32} {D : va_G} {cs sa a b : Nat → Nat} {o od : Nat} {Q : State → Prop} {i cells slots : Nat} {M R : Nat → Nat → Int32} {N go : Nat → Int64} {gd : Nat → UInt64} {H : Heap} {locs : List Loc} {ls : Array Slot} (C : LX p l s m meth c bq L xs D cs sa a b o od) (hi : i + 5 ≤ L) (hsim : SimE M N R) (hJ : LJ D cs a b o od M N R go gd H) (hS : va_S (fun q : Nat => s.heap.size ≤ q) s.heap H locs) (hl : lv_has ls 9 [(5, .int (nI i)), (4, .ref od), (3, .ref o), (2, .ref (b 0)), (1, .ref (a 0)), (0, .ref bq)]) (hc : cells + 10 ≤ 601024) (hs : slots + 200 ≤ 7293034) (hkk : LK p l e s m below meth c bq D cs a b o od Q i cells slots) : W p l e room_1 s m #[Value.ref bq] below meth c H locs cells slots Q (F0 m 1437 ls []) := by
  obtain ⟨⟨hx, hb, hr, hml, hown, -, hX, hbl, hlocks, -⟩, hts, hl0, hL, hK, hT, hNc, hZ, hA⟩ := C
  obtain ⟨n, act, nf, kd, p1, p2, ns, sb, ag, hW, hF⟩ := hsim
  have hb : c.code = cL_law := hb
  have hown : s.vm.findClass RL = some m.cls := hown
  have hbA : ¬ (fun q : Nat => s.heap.size ≤ q) bq := Nat.not_le.mpr hbl
  obtain ⟨x, e_x⟩ : ∃ x : Int32, x = xs (i + 1) := ⟨_, rfl⟩
  refine lv_aload_n hx hb dL_law_1437 rfl (lv_at hl 4 rfl) ?_
  refine lv_aload_n hx hb dL_law_1438 rfl (lv_at hl 5 rfl) ?_
  refine lv_iload hx hb dL_law_1439 (lv_at hl 0 rfl) ?_
  refine lv_iconst (v := nI 1) hx hb dL_law_1441 (by decide) ?_
  refine xiadd hx hb dL_law_1442 ?_
  refine xsld hx hb hX hbl hbA hS hL (by omega) dL_law_1443 ?_
  refine xtop e_x.symm ?_
  refine lv_aload_n hx hb dL_law_1444 rfl (lv_at hl 2 rfl) ?_
  refine lcalli (vx_runSW (As := [.ref (a 0), .int x, .ref o]) (rest := []) ⟨hx, hb, hml, hown, hts⟩ (c_L_holds l hl0 D cs sa a M N o go _ hA.1 hA.2.2.2.1 n nf kd p1 p2 ns sb act x hW.2.1.1 hW.1.1 hF.2.1 hF.1 hF.2.2.2.1 hW.2.1.2 (act_lt hW)) (vx_cwSW 3 hts gL_law_L_holds rfl rfl rfl (by decide +kernel) ⟨(Nat.le_of_ble_eq_true rfl), (Nat.le_of_ble_eq_true rfl)⟩) (lpreS (LJ_o hJ) hK hT hNc hZ hS (Ap_o hA hS.1)) rfl rfl hl.1 rfl (lv_room (Nat.le_of_ble_eq_true rfl)) dL_law_1445 (lfit hc hs (by decide) (by decide))) hS (Ap_o hA hS.1) (fun u9 H locs hu hP9 hk9 hS => ?_)
  have hJ := LJ_x hJ hA hP9 hk9
  obtain ⟨K9, hK9⟩ : ∃ K9 : Nat, K9 = (if (isIn nf x) = true then (if (!decide (n = 0)) = true then 0 else 2) else 1) := ⟨_, rfl⟩
  have h4 : K9 < 4 := by rw [hK9]; repeat' (first | decide | split)
  refine xtop (congrArg nI hK9.symm) ?_
  refine lv_istore (lv' := [(6, .int (nI K9)), (5, .int (nI i)), (4, .ref od), (3, .ref o), (2, .ref (b 0)), (1, .ref (a 0)), (0, .ref bq)]) hx hb dL_law_1448 hl (by decide) rfl (fun ls hl => ?_)
  refine lv_aload_n hx hb dL_law_1450 rfl (lv_at hl 4 rfl) ?_
  refine lv_aload_n hx hb dL_law_1451 rfl (lv_at hl 6 rfl) ?_
  refine lv_iload hx hb dL_law_1452 (lv_at hl 1 rfl) ?_
  refine lv_iconst (v := nI 1) hx hb dL_law_1454 (by decide) ?_
  refine xiadd hx hb dL_law_1455 ?_
  refine xsld hx hb hX hbl hbA hS hL (by omega) dL_law_1456 ?_
  refine xtop e_x.symm ?_
  refine lcalli (va_runV (As := [.int x]) (rest := []) ⟨hx, hb, hml, hown, hts⟩ (c_X5_holds l D cs b R _ hA.2.1 n nf kd p1 p2 ns sb ag act R x hW.2.2.1.1 hW.1.1 hF.2.2.1 hF.1 Rw_r hF.2.2.2.2.1 hW.2.2.1.2 (act_lt hW)) (cwV 1 hts gL_law_X5_holds rfl rfl rfl (by decide +kernel) ⟨(Nat.le_of_ble_eq_true rfl), (Nat.le_of_ble_eq_true rfl)⟩) (xpreVs hJ.2.1 hK (ci := 5) 0 rfl rfl) rfl rfl hl.1 rfl (lv_room (Nat.le_of_ble_eq_true rfl)) dL_law_1457 (lfit2 hc hs (by decide) (by decide))) hS (Ap_b hA hS.1) (fun R1 H locs hv hP9 hk9 hS => ?_)
  have hJ := LJ_r hJ hA hP9 hk9
  obtain ⟨B9, hB9⟩ : ∃ B9 : Bool, B9 = (isIn nf x && !decide (n = 0) && bt (semR R n kd p1 p2 sb ag (sg n - nI 1) x.toNatClampNeg) act) := ⟨_, rfl⟩
  refine xtop (congrArg bI hB9.symm) ?_
  refine lv_istore (lv' := [(7, .int (bI B9)), (6, .int (nI K9)), (5, .int (nI i)), (4, .ref od), (3, .ref o), (2, .ref (b 0)), (1, .ref (a 0)), (0, .ref bq)]) hx hb dL_law_1460 hl (by decide) rfl (fun ls hl => ?_)
  obtain ⟨e0, e1, hsim⟩ := op_holds hW hF x hu hv
  have e0 : R1 0 0 = nI K9 := e0.trans (congrArg nI hK9.symm)
  refine lv_aload_n hx hb dL_law_1462 rfl (lv_at hl 5 rfl) ?_
  refine lcall0i (va_runV (As := []) (rest := []) ⟨hx, hb, hml, hown, hts⟩ (c_X5_thrown l D cs b R1) (cwV 0 hts gL_law_X5_thrown rfl rfl rfl (by decide +kernel) ⟨(Nat.le_of_ble_eq_true rfl), (Nat.le_of_ble_eq_true rfl)⟩) (xpreV hJ.2.1 hK (ci := 5) 0 rfl rfl) rfl rfl hl.1 rfl (lv_room (Nat.le_of_ble_eq_true rfl)) dL_law_1463 (lfit3 (z := 2) (w := 12) (z2 := 0) (w2 := 0) hc hs (by decide) (by decide))) hS (fun H locs hk9 hS => ?_)
  have hJ := LJ_0 hJ hk9
  refine xtop e0 ?_
  refine lv_iload hx hb dL_law_1466 (lv_at hl 1 rfl) ?_
  refine lv_icmp_eq (tgt := 1473) hx hb dL_law_1468 (by decide) (fun _ => ?_) (fun q => absurd rfl q)
  refine lv_iload hx hb dL_law_1473 (lv_at hl 1 rfl) ?_
  refine lv_if_ne (tgt := 1497) hx hb dL_law_1475 (by decide) (fun q => ?_) (fun q => ?_)
  ·
    refine lv_goto (tgt := 2008) hx hb dL_law_1497 (by decide) ?_
    exact lfin hkk hsim hJ hS (lv_sub hl [2, 3, 4, 5, 6, 7] rfl) (by decide) (by decide)
  ·
    refine lv_aload_n hx hb dL_law_1478 rfl (lv_at hl 4 rfl) ?_
    refine lv_iconst (v := nI 0) hx hb dL_law_1479 (by decide) ?_
    have e2 := e1 (hK9.symm.trans (nI_c h4 q))
    refine xlald (q0 := 0) (t0 := 1) hx hb hK.1 hJ.2.2.1 rfl rfl (by decide) (by decide) dL_law_1480 ?_
    refine xtopl (y := if B9 = true then (1 : Int64) else 0) (by rw [hB9]; exact e2) ?_
    refine lv_iload hx hb dL_law_1481 (lv_at hl 0 rfl) ?_
    refine xbl (t1 := 1490) (t2 := 1491) hx hb dL_law_1483 (by decide) dL_law_1486 dL_law_1487 (by decide) dL_law_1490 rfl ?_
    refine W.lcmp hx hb dL_law_1491 ?_
    refine lv_if_eq (tgt := 1497) hx hb dL_law_1492 (by decide) (fun _ => ?_) (fun q => absurd ((lg_cmp_eq _ _).mpr rfl) q)
    refine lv_goto (tgt := 2008) hx hb dL_law_1497 (by decide) ?_
    exact lfin hkk hsim hJ hS (lv_sub hl [2, 3, 4, 5, 6, 7] rfl) (by decide) (by decide)
