/-! The law, call by call. -/
set_option maxHeartbeats 4000000 in
set_option maxRecDepth 100000 in
theorem k_addWorld {p : Program} {l : Launch} {e : Env} {s : State} {m : MethodId} {below : List Frame} {meth : Method} {c : Code} {bq L : Nat} {xs : Nat → Int32} {D : va_G} {cs sa a b : Nat → Nat} {o od : Nat} {Q : State → Prop} {i cells slots : Nat} {M R : Nat → Nat → Int32} {N go : Nat → Int64} {gd : Nat → UInt64} {H : Heap} {locs : List Loc} {ls : Array Slot} (C : LX p l s m meth c bq L xs D cs sa a b o od) (hi : i + 5 ≤ L) (hsim : SimE M N R) (hJ : LJ D cs a b o od M N R go gd H) (hS : va_S (fun q : Nat => s.heap.size ≤ q) s.heap H locs) (hl : lv_has ls 9 [(5, .int (nI i)), (4, .ref od), (3, .ref o), (2, .ref (b 0)), (1, .ref (a 0)), (0, .ref bq)]) (hc : cells + 10 ≤ 601024) (hs : slots + 200 ≤ 7293034) (hkk : LK p l e s m below meth c bq D cs a b o od Q i cells slots) : W p l e room_1 s m #[Value.ref bq] below meth c H locs cells slots Q (F0 m 188 ls []) := by
  obtain ⟨⟨hx, hb, hr, hml, hown, -, hX, hbl, hlocks, -⟩, hts, hl0, hL, hK, hT, hNc, hZ, hA⟩ := C
  obtain ⟨n, act, nf, kd, p1, p2, ns, sb, ag, hW, hF⟩ := hsim
  have hb : c.code = cL_law := hb
  have hown : s.vm.findClass RL = some m.cls := hown
  have hbA : ¬ (fun q : Nat => s.heap.size ≤ q) bq := Nat.not_le.mpr hbl
  obtain ⟨x, e_x⟩ : ∃ x : Int32, x = xs (i + 1) := ⟨_, rfl⟩
  refine lv_aload_n hx hb dL_law_188 rfl (lv_at hl 4 rfl) ?_
  refine lv_aload_n hx hb dL_law_189 rfl (lv_at hl 5 rfl) ?_
  refine lv_iload hx hb dL_law_190 (lv_at hl 0 rfl) ?_
  refine lv_iconst (v := nI 1) hx hb dL_law_192 (by decide) ?_
  refine xiadd hx hb dL_law_193 ?_
  refine xsld hx hb hX hbl hbA hS hL (by omega) dL_law_194 ?_
  refine xtop e_x.symm ?_
  refine lv_aload_n hx hb dL_law_195 rfl (lv_at hl 2 rfl) ?_
  refine lcalli (vx_runSW (As := [.ref (a 0), .int x, .ref o]) (rest := []) ⟨hx, hb, hml, hown, hts⟩ (c_L_addWorld l hl0 D cs sa a M N o go _ hA.1 hA.2.2.2.1 n x hW.2.1.1 hW.1.1) (vx_cwSW 3 hts gL_law_L_addWorld rfl rfl rfl (by decide +kernel) ⟨(Nat.le_of_ble_eq_true rfl), (Nat.le_of_ble_eq_true rfl)⟩) (lpreS (LJ_o hJ) hK hT hNc hZ hS (Ap_o hA hS.1)) rfl rfl hl.1 rfl (lv_room (Nat.le_of_ble_eq_true rfl)) dL_law_196 (lfit hc hs (by decide) (by decide))) hS (Ap_o hA hS.1) (fun u9 H locs hu hP9 hk9 hS => ?_)
  have hJ := LJ_x hJ hA hP9 hk9
  obtain ⟨K9, hK9⟩ : ∃ K9 : Nat, K9 = (if (isIn 64 x) = true then (if (decide (n < 24)) = true then 0 else 2) else 1) := ⟨_, rfl⟩
  have h4 : K9 < 4 := by rw [hK9]; repeat' (first | decide | split)
  refine xtop (congrArg nI hK9.symm) ?_
  refine lv_istore (lv' := [(6, .int (nI K9)), (5, .int (nI i)), (4, .ref od), (3, .ref o), (2, .ref (b 0)), (1, .ref (a 0)), (0, .ref bq)]) hx hb dL_law_199 hl (by decide) rfl (fun ls hl => ?_)
  refine lv_aload_n hx hb dL_law_201 rfl (lv_at hl 4 rfl) ?_
  refine lv_aload_n hx hb dL_law_202 rfl (lv_at hl 6 rfl) ?_
  refine lv_iload hx hb dL_law_203 (lv_at hl 1 rfl) ?_
  refine lv_iconst (v := nI 1) hx hb dL_law_205 (by decide) ?_
  refine xiadd hx hb dL_law_206 ?_
  refine xsld hx hb hX hbl hbA hS hL (by omega) dL_law_207 ?_
  refine xtop e_x.symm ?_
  refine lcalli (va_runV (As := [.int x]) (rest := []) ⟨hx, hb, hml, hown, hts⟩ (c_X5_addWorld l D cs b R _ hA.2.1 n x hW.2.2.1.1 hW.1.1) (cwV 1 hts gL_law_X5_addWorld rfl rfl rfl (by decide +kernel) ⟨(Nat.le_of_ble_eq_true rfl), (Nat.le_of_ble_eq_true rfl)⟩) (xpreVs hJ.2.1 hK (ci := 5) 0 rfl rfl) rfl rfl hl.1 rfl (lv_room (Nat.le_of_ble_eq_true rfl)) dL_law_208 (lfit2 hc hs (by decide) (by decide))) hS (Ap_b hA hS.1) (fun _ H locs hv hP9 hk9 hS => ?_)
  obtain ⟨R1, hv⟩ : ∃ R1 : Nat → Nat → Int32, R1 = (if isIn 64 x = true then (if n = 24 then wr R 0 0 (nI 2) else addR R n x) else wr R 0 0 (nI 1)) := ⟨_, rfl⟩
  rw [← hv] at hP9
  have hJ := LJ_r hJ hA hP9 hk9
  obtain ⟨B9, hB9⟩ : ∃ B9 : Int32, B9 = (if isIn 64 x = true then (if n = 24 then nI 0 else nI n) else nI 0) := ⟨_, rfl⟩
  refine xtop hB9.symm ?_
  refine lv_istore (lv' := [(7, .int B9), (6, .int (nI K9)), (5, .int (nI i)), (4, .ref od), (3, .ref o), (2, .ref (b 0)), (1, .ref (a 0)), (0, .ref bq)]) hx hb dL_law_211 hl (by decide) rfl (fun ls hl => ?_)
  obtain ⟨e0, e1, hsim⟩ := op_addWorld hW hF x hu hv
  have e0 : R1 0 0 = nI K9 := e0.trans (congrArg nI hK9.symm)
  refine lv_aload_n hx hb dL_law_213 rfl (lv_at hl 5 rfl) ?_
  refine lcall0i (va_runV (As := []) (rest := []) ⟨hx, hb, hml, hown, hts⟩ (c_X5_thrown l D cs b R1) (cwV 0 hts gL_law_X5_thrown rfl rfl rfl (by decide +kernel) ⟨(Nat.le_of_ble_eq_true rfl), (Nat.le_of_ble_eq_true rfl)⟩) (xpreV hJ.2.1 hK (ci := 5) 0 rfl rfl) rfl rfl hl.1 rfl (lv_room (Nat.le_of_ble_eq_true rfl)) dL_law_214 (lfit3 (z := 2) (w := 12) (z2 := 0) (w2 := 0) hc hs (by decide) (by decide))) hS (fun H locs hk9 hS => ?_)
  have hJ := LJ_0 hJ hk9
  refine xtop e0 ?_
  refine lv_iload hx hb dL_law_217 (lv_at hl 1 rfl) ?_
  refine lv_icmp_eq (tgt := 224) hx hb dL_law_219 (by decide) (fun _ => ?_) (fun q => absurd rfl q)
  refine lv_iload hx hb dL_law_224 (lv_at hl 1 rfl) ?_
  refine lv_if_ne (tgt := 241) hx hb dL_law_226 (by decide) (fun q => ?_) (fun q => ?_)
  ·
    refine lv_goto (tgt := 2008) hx hb dL_law_241 (by decide) ?_
    exact lfin hkk hsim hJ hS (lv_sub hl [2, 3, 4, 5, 6, 7] rfl) (by decide) (by decide)
  ·
    refine lv_aload_n hx hb dL_law_229 rfl (lv_at hl 4 rfl) ?_
    refine lv_iconst (v := nI 0) hx hb dL_law_230 (by decide) ?_
    have e2 := e1 (hK9.symm.trans (nI_c h4 q))
    refine xlald (q0 := 0) (t0 := 1) hx hb hK.1 hJ.2.2.1 rfl rfl (by decide) (by decide) dL_law_231 ?_
    refine xtopl (y := B9.toInt64) (by rw [hB9]; exact e2) ?_
    refine lv_iload hx hb dL_law_232 (lv_at hl 0 rfl) ?_
    refine lv_i2l (v := B9.toInt64) hx hb dL_law_234 rfl ?_
    refine W.lcmp hx hb dL_law_235 ?_
    refine lv_if_eq (tgt := 241) hx hb dL_law_236 (by decide) (fun _ => ?_) (fun q => absurd ((lg_cmp_eq _ _).mpr rfl) q)
    refine lv_goto (tgt := 2008) hx hb dL_law_241 (by decide) ?_
    exact lfin hkk hsim hJ hS (lv_sub hl [2, 3, 4, 5, 6, 7] rfl) (by decide) (by decide)

set_option maxHeartbeats 4000000 in
set_option maxRecDepth 100000 in
theorem k_setAtoms {p : Program} {l : Launch} {e : Env} {s : State} {m : MethodId} {below : List Frame} {meth : Method} {c : Code} {bq L : Nat} {xs : Nat → Int32} {D : va_G} {cs sa a b : Nat → Nat} {o od : Nat} {Q : State → Prop} {i cells slots : Nat} {M R : Nat → Nat → Int32} {N go : Nat → Int64} {gd : Nat → UInt64} {H : Heap} {locs : List Loc} {ls : Array Slot} (C : LX p l s m meth c bq L xs D cs sa a b o od) (hi : i + 5 ≤ L) (hsim : SimE M N R) (hJ : LJ D cs a b o od M N R go gd H) (hS : va_S (fun q : Nat => s.heap.size ≤ q) s.heap H locs) (hl : lv_has ls 9 [(5, .int (nI i)), (4, .ref od), (3, .ref o), (2, .ref (b 0)), (1, .ref (a 0)), (0, .ref bq)]) (hc : cells + 10 ≤ 601024) (hs : slots + 200 ≤ 7293034) (hkk : LK p l e s m below meth c bq D cs a b o od Q i cells slots) : W p l e room_1 s m #[Value.ref bq] below meth c H locs cells slots Q (F0 m 244 ls []) := by
  obtain ⟨⟨hx, hb, hr, hml, hown, -, hX, hbl, hlocks, -⟩, hts, hl0, hL, hK, hT, hNc, hZ, hA⟩ := C
  obtain ⟨n, act, nf, kd, p1, p2, ns, sb, ag, hW, hF⟩ := hsim
  have hb : c.code = cL_law := hb
  have hown : s.vm.findClass RL = some m.cls := hown
  have hbA : ¬ (fun q : Nat => s.heap.size ≤ q) bq := Nat.not_le.mpr hbl
  obtain ⟨x, e_x⟩ : ∃ x : Int32, x = xs (i + 1) := ⟨_, rfl⟩
  obtain ⟨y, e_y⟩ : ∃ y : Int32, y = xs (i + 2) := ⟨_, rfl⟩
  refine lv_aload_n hx hb dL_law_244 rfl (lv_at hl 4 rfl) ?_
  refine lv_aload_n hx hb dL_law_245 rfl (lv_at hl 5 rfl) ?_
  refine lv_iload hx hb dL_law_246 (lv_at hl 0 rfl) ?_
  refine lv_iconst (v := nI 1) hx hb dL_law_248 (by decide) ?_
  refine xiadd hx hb dL_law_249 ?_
  refine xsld hx hb hX hbl hbA hS hL (by omega) dL_law_250 ?_
  refine xtop e_x.symm ?_
  refine lv_aload_n hx hb dL_law_251 rfl (lv_at hl 5 rfl) ?_
  refine lv_iload hx hb dL_law_252 (lv_at hl 0 rfl) ?_
  refine lv_iconst (v := nI 2) hx hb dL_law_254 (by decide) ?_
  refine xiadd hx hb dL_law_255 ?_
  refine xsld hx hb hX hbl hbA hS hL (by omega) dL_law_256 ?_
  refine xtop e_y.symm ?_
  refine lv_aload_n hx hb dL_law_257 rfl (lv_at hl 2 rfl) ?_
  refine lcalli (vx_runSW (As := [.ref (a 0), .int x, .int y, .ref o]) (rest := []) ⟨hx, hb, hml, hown, hts⟩ (c_L_setAtoms l hl0 D cs sa a M N o go _ hA.1 hA.2.2.2.1 n x y hW.2.1.1 hW.1.1) (vx_cwSW 4 hts gL_law_L_setAtoms rfl rfl rfl (by decide +kernel) ⟨(Nat.le_of_ble_eq_true rfl), (Nat.le_of_ble_eq_true rfl)⟩) (lpreS (LJ_o hJ) hK hT hNc hZ hS (Ap_o hA hS.1)) rfl rfl hl.1 rfl (lv_room (Nat.le_of_ble_eq_true rfl)) dL_law_258 (lfit hc hs (by decide) (by decide))) hS (Ap_o hA hS.1) (fun u9 H locs hu hP9 hk9 hS => ?_)
  have hJ := LJ_x hJ hA hP9 hk9
  obtain ⟨K9, hK9⟩ : ∃ K9 : Nat, K9 = (if (isIn n x) = true then (if (isIn 64 y) = true then 0 else 2) else 1) := ⟨_, rfl⟩
  have h4 : K9 < 4 := by rw [hK9]; repeat' (first | decide | split)
  refine xtop (congrArg nI hK9.symm) ?_
  refine lv_istore (lv' := [(6, .int (nI K9)), (5, .int (nI i)), (4, .ref od), (3, .ref o), (2, .ref (b 0)), (1, .ref (a 0)), (0, .ref bq)]) hx hb dL_law_261 hl (by decide) rfl (fun ls hl => ?_)
  refine lv_aload_n hx hb dL_law_263 rfl (lv_at hl 4 rfl) ?_
  refine lv_aload_n hx hb dL_law_264 rfl (lv_at hl 6 rfl) ?_
  refine lv_iload hx hb dL_law_265 (lv_at hl 1 rfl) ?_
  refine lv_iconst (v := nI 1) hx hb dL_law_267 (by decide) ?_
  refine xiadd hx hb dL_law_268 ?_
  refine xsld hx hb hX hbl hbA hS hL (by omega) dL_law_269 ?_
  refine xtop e_x.symm ?_
  refine lv_aload_n hx hb dL_law_270 rfl (lv_at hl 6 rfl) ?_
  refine lv_iload hx hb dL_law_271 (lv_at hl 1 rfl) ?_
  refine lv_iconst (v := nI 2) hx hb dL_law_273 (by decide) ?_
  refine xiadd hx hb dL_law_274 ?_
  refine xsld hx hb hX hbl hbA hS hL (by omega) dL_law_275 ?_
  refine xtop e_y.symm ?_
  refine lcalli (va_runV (As := [.int x, .int y]) (rest := []) ⟨hx, hb, hml, hown, hts⟩ (c_X5_setAtoms l D cs b R _ hA.2.1 n x y hW.2.2.1.1 hW.1.1) (cwV 2 hts gL_law_X5_setAtoms rfl rfl rfl (by decide +kernel) ⟨(Nat.le_of_ble_eq_true rfl), (Nat.le_of_ble_eq_true rfl)⟩) (xpreVs hJ.2.1 hK (ci := 5) 0 rfl rfl) rfl rfl hl.1 rfl (lv_room (Nat.le_of_ble_eq_true rfl)) dL_law_276 (lfit2 hc hs (by decide) (by decide))) hS (Ap_b hA hS.1) (fun _ H locs hv hP9 hk9 hS => ?_)
  obtain ⟨R1, hv⟩ : ∃ R1 : Nat → Nat → Int32, R1 = (if isIn n x = true then (if isIn 64 y = true then wr (wr R 0 0 (nI 0)) 1 x.toNatClampNeg y else wr R 0 0 (nI 2)) else wr R 0 0 (nI 1)) := ⟨_, rfl⟩
  rw [← hv] at hP9
  have hJ := LJ_r hJ hA hP9 hk9
  obtain ⟨B9, hB9⟩ : ∃ B9 : Int32, B9 = (if isIn n x = true then (if isIn 64 y = true then R 1 x.toNatClampNeg else nI 0) else nI 0) := ⟨_, rfl⟩
  refine xtop hB9.symm ?_
  refine lv_istore (lv' := [(7, .int B9), (6, .int (nI K9)), (5, .int (nI i)), (4, .ref od), (3, .ref o), (2, .ref (b 0)), (1, .ref (a 0)), (0, .ref bq)]) hx hb dL_law_279 hl (by decide) rfl (fun ls hl => ?_)
  obtain ⟨e0, e1, hsim⟩ := op_setAtoms hW hF x y hu hv
  have e0 : R1 0 0 = nI K9 := e0.trans (congrArg nI hK9.symm)
  refine lv_aload_n hx hb dL_law_281 rfl (lv_at hl 5 rfl) ?_
  refine lcall0i (va_runV (As := []) (rest := []) ⟨hx, hb, hml, hown, hts⟩ (c_X5_thrown l D cs b R1) (cwV 0 hts gL_law_X5_thrown rfl rfl rfl (by decide +kernel) ⟨(Nat.le_of_ble_eq_true rfl), (Nat.le_of_ble_eq_true rfl)⟩) (xpreV hJ.2.1 hK (ci := 5) 0 rfl rfl) rfl rfl hl.1 rfl (lv_room (Nat.le_of_ble_eq_true rfl)) dL_law_282 (lfit3 (z := 2) (w := 12) (z2 := 0) (w2 := 0) hc hs (by decide) (by decide))) hS (fun H locs hk9 hS => ?_)
  have hJ := LJ_0 hJ hk9
  refine xtop e0 ?_
  refine lv_iload hx hb dL_law_285 (lv_at hl 1 rfl) ?_
  refine lv_icmp_eq (tgt := 292) hx hb dL_law_287 (by decide) (fun _ => ?_) (fun q => absurd rfl q)
  refine lv_iload hx hb dL_law_292 (lv_at hl 1 rfl) ?_
  refine lv_if_ne (tgt := 309) hx hb dL_law_294 (by decide) (fun q => ?_) (fun q => ?_)
  ·
    refine lv_goto (tgt := 2008) hx hb dL_law_309 (by decide) ?_
    exact lfin hkk hsim hJ hS (lv_sub hl [2, 3, 4, 5, 6, 7] rfl) (by decide) (by decide)
  ·
    refine lv_aload_n hx hb dL_law_297 rfl (lv_at hl 4 rfl) ?_
    refine lv_iconst (v := nI 0) hx hb dL_law_298 (by decide) ?_
    have e2 := e1 (hK9.symm.trans (nI_c h4 q))
    refine xlald (q0 := 0) (t0 := 1) hx hb hK.1 hJ.2.2.1 rfl rfl (by decide) (by decide) dL_law_299 ?_
    refine xtopl (y := B9.toInt64) (by rw [hB9]; exact e2) ?_
    refine lv_iload hx hb dL_law_300 (lv_at hl 0 rfl) ?_
    refine lv_i2l (v := B9.toInt64) hx hb dL_law_302 rfl ?_
    refine W.lcmp hx hb dL_law_303 ?_
    refine lv_if_eq (tgt := 309) hx hb dL_law_304 (by decide) (fun _ => ?_) (fun q => absurd ((lg_cmp_eq _ _).mpr rfl) q)
    refine lv_goto (tgt := 2008) hx hb dL_law_309 (by decide) ?_
    exact lfin hkk hsim hJ hS (lv_sub hl [2, 3, 4, 5, 6, 7] rfl) (by decide) (by decide)

set_option maxHeartbeats 4000000 in
set_option maxRecDepth 100000 in
theorem k_connect {p : Program} {l : Launch} {e : Env} {s : State} {m : MethodId} {below : List Frame} {meth : Method} {c : Code} {bq L : Nat} {xs : Nat → Int32} {D : va_G} {cs sa a b : Nat → Nat} {o od : Nat} {Q : State → Prop} {i cells slots : Nat} {M R : Nat → Nat → Int32} {N go : Nat → Int64} {gd : Nat → UInt64} {H : Heap} {locs : List Loc} {ls : Array Slot} (C : LX p l s m meth c bq L xs D cs sa a b o od) (hi : i + 5 ≤ L) (hsim : SimE M N R) (hJ : LJ D cs a b o od M N R go gd H) (hS : va_S (fun q : Nat => s.heap.size ≤ q) s.heap H locs) (hl : lv_has ls 9 [(5, .int (nI i)), (4, .ref od), (3, .ref o), (2, .ref (b 0)), (1, .ref (a 0)), (0, .ref bq)]) (hc : cells + 10 ≤ 601024) (hs : slots + 200 ≤ 7293034) (hkk : LK p l e s m below meth c bq D cs a b o od Q i cells slots) : W p l e room_1 s m #[Value.ref bq] below meth c H locs cells slots Q (F0 m 312 ls []) := by
  obtain ⟨⟨hx, hb, hr, hml, hown, -, hX, hbl, hlocks, -⟩, hts, hl0, hL, hK, hT, hNc, hZ, hA⟩ := C
  obtain ⟨n, act, nf, kd, p1, p2, ns, sb, ag, hW, hF⟩ := hsim
  have hb : c.code = cL_law := hb
  have hown : s.vm.findClass RL = some m.cls := hown
  have hbA : ¬ (fun q : Nat => s.heap.size ≤ q) bq := Nat.not_le.mpr hbl
  obtain ⟨x, e_x⟩ : ∃ x : Int32, x = xs (i + 1) := ⟨_, rfl⟩
  obtain ⟨y, e_y⟩ : ∃ y : Int32, y = xs (i + 2) := ⟨_, rfl⟩
  obtain ⟨z, e_z⟩ : ∃ z : Int32, z = xs (i + 3) := ⟨_, rfl⟩
  obtain ⟨on, e_on⟩ : ∃ on : Bool, on = !decide (xs (i + 4) = 0) := ⟨_, rfl⟩
  refine lv_aload_n hx hb dL_law_312 rfl (lv_at hl 4 rfl) ?_
  refine lv_aload_n hx hb dL_law_313 rfl (lv_at hl 5 rfl) ?_
  refine lv_iload hx hb dL_law_314 (lv_at hl 0 rfl) ?_
  refine lv_iconst (v := nI 1) hx hb dL_law_316 (by decide) ?_
  refine xiadd hx hb dL_law_317 ?_
  refine xsld hx hb hX hbl hbA hS hL (by omega) dL_law_318 ?_
  refine xtop e_x.symm ?_
  refine lv_aload_n hx hb dL_law_319 rfl (lv_at hl 5 rfl) ?_
  refine lv_iload hx hb dL_law_320 (lv_at hl 0 rfl) ?_
  refine lv_iconst (v := nI 2) hx hb dL_law_322 (by decide) ?_
  refine xiadd hx hb dL_law_323 ?_
  refine xsld hx hb hX hbl hbA hS hL (by omega) dL_law_324 ?_
  refine xtop e_y.symm ?_
  refine lv_aload_n hx hb dL_law_325 rfl (lv_at hl 5 rfl) ?_
  refine lv_iload hx hb dL_law_326 (lv_at hl 0 rfl) ?_
  refine lv_iconst (v := nI 3) hx hb dL_law_328 (by decide) ?_
  refine xiadd hx hb dL_law_329 ?_
  refine xsld hx hb hX hbl hbA hS hL (by omega) dL_law_330 ?_
  refine xtop e_z.symm ?_
  refine lv_aload_n hx hb dL_law_331 rfl (lv_at hl 5 rfl) ?_
  refine lv_iload hx hb dL_law_332 (lv_at hl 0 rfl) ?_
  refine lv_iconst (v := nI 4) hx hb dL_law_334 (by decide) ?_
  refine xiadd hx hb dL_law_335 ?_
  refine xsld hx hb hX hbl hbA hS hL (by omega) dL_law_336 ?_
  refine xnz (t1 := 344) (t2 := 345) hx hb dL_law_337 (by decide) dL_law_340 dL_law_341 (by decide) dL_law_344 rfl ?_
  refine xtop (congrArg bI e_on.symm) ?_
  refine lv_aload_n hx hb dL_law_345 rfl (lv_at hl 2 rfl) ?_
  refine lcalli (vx_runSW (As := [.ref (a 0), .int x, .int y, .int z, .int (bI on), .ref o]) (rest := []) ⟨hx, hb, hml, hown, hts⟩ (c_L_connect l hl0 D cs sa a M N o go _ hA.1 hA.2.2.2.1 n x y z on hW.2.1.1 hW.1.1) (vx_cwSW 6 hts gL_law_L_connect rfl rfl rfl (by decide +kernel) ⟨(Nat.le_of_ble_eq_true rfl), (Nat.le_of_ble_eq_true rfl)⟩) (lpreS (LJ_o hJ) hK hT hNc hZ hS (Ap_o hA hS.1)) rfl rfl hl.1 rfl (lv_room (Nat.le_of_ble_eq_true rfl)) dL_law_346 (lfit hc hs (by decide) (by decide))) hS (Ap_o hA hS.1) (fun u9 H locs hu hP9 hk9 hS => ?_)
  have hJ := LJ_x hJ hA hP9 hk9
  obtain ⟨K9, hK9⟩ : ∃ K9 : Nat, K9 = (if (isIn 4 x) = true then (if (isIn n y) = true then (if (isIn n z) = true then 0 else 1) else 1) else 1) := ⟨_, rfl⟩
  have h4 : K9 < 4 := by rw [hK9]; repeat' (first | decide | split)
  refine xtop (congrArg nI hK9.symm) ?_
  refine lv_istore (lv' := [(6, .int (nI K9)), (5, .int (nI i)), (4, .ref od), (3, .ref o), (2, .ref (b 0)), (1, .ref (a 0)), (0, .ref bq)]) hx hb dL_law_349 hl (by decide) rfl (fun ls hl => ?_)
  refine lv_aload_n hx hb dL_law_351 rfl (lv_at hl 4 rfl) ?_
  refine lv_aload_n hx hb dL_law_352 rfl (lv_at hl 6 rfl) ?_
  refine lv_iload hx hb dL_law_353 (lv_at hl 1 rfl) ?_
  refine lv_iconst (v := nI 1) hx hb dL_law_355 (by decide) ?_
  refine xiadd hx hb dL_law_356 ?_
  refine xsld hx hb hX hbl hbA hS hL (by omega) dL_law_357 ?_
  refine xtop e_x.symm ?_
  refine lv_aload_n hx hb dL_law_358 rfl (lv_at hl 6 rfl) ?_
  refine lv_iload hx hb dL_law_359 (lv_at hl 1 rfl) ?_
  refine lv_iconst (v := nI 2) hx hb dL_law_361 (by decide) ?_
  refine xiadd hx hb dL_law_362 ?_
  refine xsld hx hb hX hbl hbA hS hL (by omega) dL_law_363 ?_
  refine xtop e_y.symm ?_
  refine lv_aload_n hx hb dL_law_364 rfl (lv_at hl 6 rfl) ?_
  refine lv_iload hx hb dL_law_365 (lv_at hl 1 rfl) ?_
  refine lv_iconst (v := nI 3) hx hb dL_law_367 (by decide) ?_
  refine xiadd hx hb dL_law_368 ?_
  refine xsld hx hb hX hbl hbA hS hL (by omega) dL_law_369 ?_
  refine xtop e_z.symm ?_
  refine lv_aload_n hx hb dL_law_370 rfl (lv_at hl 6 rfl) ?_
  refine lv_iload hx hb dL_law_371 (lv_at hl 1 rfl) ?_
  refine lv_iconst (v := nI 4) hx hb dL_law_373 (by decide) ?_
  refine xiadd hx hb dL_law_374 ?_
  refine xsld hx hb hX hbl hbA hS hL (by omega) dL_law_375 ?_
  refine xnz (t1 := 383) (t2 := 384) hx hb dL_law_376 (by decide) dL_law_379 dL_law_380 (by decide) dL_law_383 rfl ?_
  refine xtop (congrArg bI e_on.symm) ?_
  refine lcalli (va_runV (As := [.int x, .int y, .int z, .int (bI on)]) (rest := []) ⟨hx, hb, hml, hown, hts⟩ (c_X5_connect l D cs b R _ hA.2.1 n x y z on hW.2.2.1.1 hW.1.1) (cwV 4 hts gL_law_X5_connect rfl rfl rfl (by decide +kernel) ⟨(Nat.le_of_ble_eq_true rfl), (Nat.le_of_ble_eq_true rfl)⟩) (xpreVs hJ.2.1 hK (ci := 5) 0 rfl rfl) rfl rfl hl.1 rfl (lv_room (Nat.le_of_ble_eq_true rfl)) dL_law_384 (lfit2 hc hs (by decide) (by decide))) hS (Ap_b hA hS.1) (fun _ H locs hv hP9 hk9 hS => ?_)
  obtain ⟨R1, hv⟩ : ∃ R1 : Nat → Nat → Int32, R1 = (if (isIn 4 x && isIn n y && isIn n z) = true then wr (wr R 0 0 (nI 0)) 2 (24 * x.toNatClampNeg + y.toNatClampNeg) (if on = true then R 2 (24 * x.toNatClampNeg + y.toNatClampNeg) ||| sg z.toNatClampNeg else R 2 (24 * x.toNatClampNeg + y.toNatClampNeg) &&& (sg z.toNatClampNeg ^^^ (-1))) else wr R 0 0 (nI 1)) := ⟨_, rfl⟩
  rw [← hv] at hP9
  have hJ := LJ_r hJ hA hP9 hk9
  obtain ⟨B9, hB9⟩ : ∃ B9 : Bool, B9 = (isIn 4 x && isIn n y && isIn n z && bt (R 2 (24 * x.toNatClampNeg + y.toNatClampNeg)) z.toNatClampNeg) := ⟨_, rfl⟩
  refine xtop (congrArg bI hB9.symm) ?_
  refine lv_istore (lv' := [(7, .int (bI B9)), (6, .int (nI K9)), (5, .int (nI i)), (4, .ref od), (3, .ref o), (2, .ref (b 0)), (1, .ref (a 0)), (0, .ref bq)]) hx hb dL_law_387 hl (by decide) rfl (fun ls hl => ?_)
  obtain ⟨e0, e1, hsim⟩ := op_connect hW hF x y z on hu hv
  have e0 : R1 0 0 = nI K9 := e0.trans (congrArg nI hK9.symm)
  refine lv_aload_n hx hb dL_law_389 rfl (lv_at hl 5 rfl) ?_
  refine lcall0i (va_runV (As := []) (rest := []) ⟨hx, hb, hml, hown, hts⟩ (c_X5_thrown l D cs b R1) (cwV 0 hts gL_law_X5_thrown rfl rfl rfl (by decide +kernel) ⟨(Nat.le_of_ble_eq_true rfl), (Nat.le_of_ble_eq_true rfl)⟩) (xpreV hJ.2.1 hK (ci := 5) 0 rfl rfl) rfl rfl hl.1 rfl (lv_room (Nat.le_of_ble_eq_true rfl)) dL_law_390 (lfit3 (z := 3) (w := 18) (z2 := 0) (w2 := 0) hc hs (by decide) (by decide))) hS (fun H locs hk9 hS => ?_)
  have hJ := LJ_0 hJ hk9
  refine xtop e0 ?_
  refine lv_iload hx hb dL_law_393 (lv_at hl 1 rfl) ?_
  refine lv_icmp_eq (tgt := 400) hx hb dL_law_395 (by decide) (fun _ => ?_) (fun q => absurd rfl q)
  refine lv_iload hx hb dL_law_400 (lv_at hl 1 rfl) ?_
  refine lv_if_ne (tgt := 424) hx hb dL_law_402 (by decide) (fun q => ?_) (fun q => ?_)
  ·
    refine lv_goto (tgt := 2008) hx hb dL_law_424 (by decide) ?_
    exact lfin hkk hsim hJ hS (lv_sub hl [2, 3, 4, 5, 6, 7] rfl) (by decide) (by decide)
  ·
    refine lv_aload_n hx hb dL_law_405 rfl (lv_at hl 4 rfl) ?_
    refine lv_iconst (v := nI 0) hx hb dL_law_406 (by decide) ?_
    have e2 := e1 (hK9.symm.trans (nI_c h4 q))
    refine xlald (q0 := 0) (t0 := 1) hx hb hK.1 hJ.2.2.1 rfl rfl (by decide) (by decide) dL_law_407 ?_
    refine xtopl (y := if B9 = true then (1 : Int64) else 0) (by rw [hB9]; exact e2) ?_
    refine lv_iload hx hb dL_law_408 (lv_at hl 0 rfl) ?_
    refine xbl (t1 := 417) (t2 := 418) hx hb dL_law_410 (by decide) dL_law_413 dL_law_414 (by decide) dL_law_417 rfl ?_
    refine W.lcmp hx hb dL_law_418 ?_
    refine lv_if_eq (tgt := 424) hx hb dL_law_419 (by decide) (fun _ => ?_) (fun q => absurd ((lg_cmp_eq _ _).mpr rfl) q)
    refine lv_goto (tgt := 2008) hx hb dL_law_424 (by decide) ?_
    exact lfin hkk hsim hJ hS (lv_sub hl [2, 3, 4, 5, 6, 7] rfl) (by decide) (by decide)

set_option maxHeartbeats 4000000 in
set_option maxRecDepth 100000 in
theorem k_gather {p : Program} {l : Launch} {e : Env} {s : State} {m : MethodId} {below : List Frame} {meth : Method} {c : Code} {bq L : Nat} {xs : Nat → Int32} {D : va_G} {cs sa a b : Nat → Nat} {o od : Nat} {Q : State → Prop} {i cells slots : Nat} {M R : Nat → Nat → Int32} {N go : Nat → Int64} {gd : Nat → UInt64} {H : Heap} {locs : List Loc} {ls : Array Slot} (C : LX p l s m meth c bq L xs D cs sa a b o od) (hi : i + 5 ≤ L) (hsim : SimE M N R) (hJ : LJ D cs a b o od M N R go gd H) (hS : va_S (fun q : Nat => s.heap.size ≤ q) s.heap H locs) (hl : lv_has ls 9 [(5, .int (nI i)), (4, .ref od), (3, .ref o), (2, .ref (b 0)), (1, .ref (a 0)), (0, .ref bq)]) (hc : cells + 10 ≤ 601024) (hs : slots + 200 ≤ 7293034) (hkk : LK p l e s m below meth c bq D cs a b o od Q i cells slots) : W p l e room_1 s m #[Value.ref bq] below meth c H locs cells slots Q (F0 m 427 ls []) := by
  obtain ⟨⟨hx, hb, hr, hml, hown, -, hX, hbl, hlocks, -⟩, hts, hl0, hL, hK, hT, hNc, hZ, hA⟩ := C
  obtain ⟨n, act, nf, kd, p1, p2, ns, sb, ag, hW, hF⟩ := hsim
  have hb : c.code = cL_law := hb
  have hown : s.vm.findClass RL = some m.cls := hown
  have hbA : ¬ (fun q : Nat => s.heap.size ≤ q) bq := Nat.not_le.mpr hbl
  obtain ⟨x, e_x⟩ : ∃ x : Int32, x = xs (i + 1) := ⟨_, rfl⟩
  obtain ⟨set, e_set⟩ : ∃ set : Int32, set = xs (i + 2) := ⟨_, rfl⟩
  refine lv_aload_n hx hb dL_law_427 rfl (lv_at hl 4 rfl) ?_
  refine lv_aload_n hx hb dL_law_428 rfl (lv_at hl 5 rfl) ?_
  refine lv_iload hx hb dL_law_429 (lv_at hl 0 rfl) ?_
  refine lv_iconst (v := nI 1) hx hb dL_law_431 (by decide) ?_
  refine xiadd hx hb dL_law_432 ?_
  refine xsld hx hb hX hbl hbA hS hL (by omega) dL_law_433 ?_
  refine xtop e_x.symm ?_
  refine lv_aload_n hx hb dL_law_434 rfl (lv_at hl 5 rfl) ?_
  refine lv_iload hx hb dL_law_435 (lv_at hl 0 rfl) ?_
  refine lv_iconst (v := nI 2) hx hb dL_law_437 (by decide) ?_
  refine xiadd hx hb dL_law_438 ?_
  refine xsld hx hb hX hbl hbA hS hL (by omega) dL_law_439 ?_
  refine xtop e_set.symm ?_
  refine lv_aload_n hx hb dL_law_440 rfl (lv_at hl 2 rfl) ?_
  refine lcalli (vx_runSW (As := [.ref (a 0), .int x, .int set, .ref o]) (rest := []) ⟨hx, hb, hml, hown, hts⟩ (c_L_gather l hl0 D cs sa a M N o go _ hA.1 hA.2.2.2.1 n x set hW.2.1.1 hW.1.1) (vx_cwSW 4 hts gL_law_L_gather rfl rfl rfl (by decide +kernel) ⟨(Nat.le_of_ble_eq_true rfl), (Nat.le_of_ble_eq_true rfl)⟩) (lpreS (LJ_o hJ) hK hT hNc hZ hS (Ap_o hA hS.1)) rfl rfl hl.1 rfl (lv_room (Nat.le_of_ble_eq_true rfl)) dL_law_441 (lfit hc hs (by decide) (by decide))) hS (Ap_o hA hS.1) (fun u9 H locs hu hP9 hk9 hS => ?_)
  have hJ := LJ_x hJ hA hP9 hk9
  obtain ⟨K9, hK9⟩ : ∃ K9 : Nat, K9 = (if (isIn 4 x) = true then (if (decide ((set &&& ((sg n - nI 1) ^^^ (-1))) = 0)) = true then 0 else 2) else 1) := ⟨_, rfl⟩
  have h4 : K9 < 4 := by rw [hK9]; repeat' (first | decide | split)
  refine xtop (congrArg nI hK9.symm) ?_
  refine lv_istore (lv' := [(6, .int (nI K9)), (5, .int (nI i)), (4, .ref od), (3, .ref o), (2, .ref (b 0)), (1, .ref (a 0)), (0, .ref bq)]) hx hb dL_law_444 hl (by decide) rfl (fun ls hl => ?_)
  refine lv_aload_n hx hb dL_law_446 rfl (lv_at hl 4 rfl) ?_
  refine lv_aload_n hx hb dL_law_447 rfl (lv_at hl 6 rfl) ?_
  refine lv_iload hx hb dL_law_448 (lv_at hl 1 rfl) ?_
  refine lv_iconst (v := nI 1) hx hb dL_law_450 (by decide) ?_
  refine xiadd hx hb dL_law_451 ?_
  refine xsld hx hb hX hbl hbA hS hL (by omega) dL_law_452 ?_
  refine xtop e_x.symm ?_
  refine lv_aload_n hx hb dL_law_453 rfl (lv_at hl 6 rfl) ?_
  refine lv_iload hx hb dL_law_454 (lv_at hl 1 rfl) ?_
  refine lv_iconst (v := nI 2) hx hb dL_law_456 (by decide) ?_
  refine xiadd hx hb dL_law_457 ?_
  refine xsld hx hb hX hbl hbA hS hL (by omega) dL_law_458 ?_
  refine xtop e_set.symm ?_
  refine lcalli (va_runV (As := [.int x, .int set]) (rest := []) ⟨hx, hb, hml, hown, hts⟩ (c_X5_gather l D cs b R _ hA.2.1 n x set hW.2.2.1.1 hW.1.1) (cwV 2 hts gL_law_X5_gather rfl rfl rfl (by decide +kernel) ⟨(Nat.le_of_ble_eq_true rfl), (Nat.le_of_ble_eq_true rfl)⟩) (xpreVs hJ.2.1 hK (ci := 5) 0 rfl rfl) rfl rfl hl.1 rfl (lv_room (Nat.le_of_ble_eq_true rfl)) dL_law_459 (lfit2 hc hs (by decide) (by decide))) hS (Ap_b hA hS.1) (fun _ H locs hv hP9 hk9 hS => ?_)
  obtain ⟨R1, hv⟩ : ∃ R1 : Nat → Nat → Int32, R1 = (if isIn 4 x = true then (if set < 0 ∨ ¬ (set >>> (nI n &&& 31)) = 0 then wr R 0 0 (nI 2) else gatC (wr R 0 0 (nI 0)) x.toNatClampNeg set n) else wr R 0 0 (nI 1)) := ⟨_, rfl⟩
  rw [← hv] at hP9
  have hJ := LJ_r hJ hA hP9 hk9
  obtain ⟨B9, hB9⟩ : ∃ B9 : Int32, B9 = (if isIn 4 x = true then (if set < 0 ∨ ¬ (set >>> (nI n &&& 31)) = 0 then nI 0 else gatN R x.toNatClampNeg set n) else nI 0) := ⟨_, rfl⟩
  refine xtop hB9.symm ?_
  refine lv_istore (lv' := [(7, .int B9), (6, .int (nI K9)), (5, .int (nI i)), (4, .ref od), (3, .ref o), (2, .ref (b 0)), (1, .ref (a 0)), (0, .ref bq)]) hx hb dL_law_462 hl (by decide) rfl (fun ls hl => ?_)
  obtain ⟨e0, e1, hsim⟩ := op_gather hW hF x set hu hv
  have e0 : R1 0 0 = nI K9 := e0.trans (congrArg nI hK9.symm)
  refine lv_aload_n hx hb dL_law_464 rfl (lv_at hl 5 rfl) ?_
  refine lcall0i (va_runV (As := []) (rest := []) ⟨hx, hb, hml, hown, hts⟩ (c_X5_thrown l D cs b R1) (cwV 0 hts gL_law_X5_thrown rfl rfl rfl (by decide +kernel) ⟨(Nat.le_of_ble_eq_true rfl), (Nat.le_of_ble_eq_true rfl)⟩) (xpreV hJ.2.1 hK (ci := 5) 0 rfl rfl) rfl rfl hl.1 rfl (lv_room (Nat.le_of_ble_eq_true rfl)) dL_law_465 (lfit3 (z := 2) (w := 12) (z2 := 0) (w2 := 0) hc hs (by decide) (by decide))) hS (fun H locs hk9 hS => ?_)
  have hJ := LJ_0 hJ hk9
  refine xtop e0 ?_
  refine lv_iload hx hb dL_law_468 (lv_at hl 1 rfl) ?_
  refine lv_icmp_eq (tgt := 475) hx hb dL_law_470 (by decide) (fun _ => ?_) (fun q => absurd rfl q)
  refine lv_iload hx hb dL_law_475 (lv_at hl 1 rfl) ?_
  refine lv_if_ne (tgt := 492) hx hb dL_law_477 (by decide) (fun q => ?_) (fun q => ?_)
  ·
    refine lv_goto (tgt := 2008) hx hb dL_law_492 (by decide) ?_
    exact lfin hkk hsim hJ hS (lv_sub hl [2, 3, 4, 5, 6, 7] rfl) (by decide) (by decide)
  ·
    refine lv_aload_n hx hb dL_law_480 rfl (lv_at hl 4 rfl) ?_
    refine lv_iconst (v := nI 0) hx hb dL_law_481 (by decide) ?_
    have e2 := e1 (hK9.symm.trans (nI_c h4 q))
    refine xlald (q0 := 0) (t0 := 1) hx hb hK.1 hJ.2.2.1 rfl rfl (by decide) (by decide) dL_law_482 ?_
    refine xtopl (y := B9.toInt64) (by rw [hB9]; exact e2) ?_
    refine lv_iload hx hb dL_law_483 (lv_at hl 0 rfl) ?_
    refine lv_i2l (v := B9.toInt64) hx hb dL_law_485 rfl ?_
    refine W.lcmp hx hb dL_law_486 ?_
    refine lv_if_eq (tgt := 492) hx hb dL_law_487 (by decide) (fun _ => ?_) (fun q => absurd ((lg_cmp_eq _ _).mpr rfl) q)
    refine lv_goto (tgt := 2008) hx hb dL_law_492 (by decide) ?_
    exact lfin hkk hsim hJ hS (lv_sub hl [2, 3, 4, 5, 6, 7] rfl) (by decide) (by decide)

set_option maxHeartbeats 4000000 in
set_option maxRecDepth 100000 in
theorem k_setActual {p : Program} {l : Launch} {e : Env} {s : State} {m : MethodId} {below : List Frame} {meth : Method} {c : Code} {bq L : Nat} {xs : Nat → Int32} {D : va_G} {cs sa a b : Nat → Nat} {o od : Nat} {Q : State → Prop} {i cells slots : Nat} {M R : Nat → Nat → Int32} {N go : Nat → Int64} {gd : Nat → UInt64} {H : Heap} {locs : List Loc} {ls : Array Slot} (C : LX p l s m meth c bq L xs D cs sa a b o od) (hi : i + 5 ≤ L) (hsim : SimE M N R) (hJ : LJ D cs a b o od M N R go gd H) (hS : va_S (fun q : Nat => s.heap.size ≤ q) s.heap H locs) (hl : lv_has ls 9 [(5, .int (nI i)), (4, .ref od), (3, .ref o), (2, .ref (b 0)), (1, .ref (a 0)), (0, .ref bq)]) (hc : cells + 10 ≤ 601024) (hs : slots + 200 ≤ 7293034) (hkk : LK p l e s m below meth c bq D cs a b o od Q i cells slots) : W p l e room_1 s m #[Value.ref bq] below meth c H locs cells slots Q (F0 m 495 ls []) := by
  obtain ⟨⟨hx, hb, hr, hml, hown, -, hX, hbl, hlocks, -⟩, hts, hl0, hL, hK, hT, hNc, hZ, hA⟩ := C
  obtain ⟨n, act, nf, kd, p1, p2, ns, sb, ag, hW, hF⟩ := hsim
  have hb : c.code = cL_law := hb
  have hown : s.vm.findClass RL = some m.cls := hown
  have hbA : ¬ (fun q : Nat => s.heap.size ≤ q) bq := Nat.not_le.mpr hbl
  obtain ⟨x, e_x⟩ : ∃ x : Int32, x = xs (i + 1) := ⟨_, rfl⟩
  refine lv_aload_n hx hb dL_law_495 rfl (lv_at hl 4 rfl) ?_
  refine lv_aload_n hx hb dL_law_496 rfl (lv_at hl 5 rfl) ?_
  refine lv_iload hx hb dL_law_497 (lv_at hl 0 rfl) ?_
  refine lv_iconst (v := nI 1) hx hb dL_law_499 (by decide) ?_
  refine xiadd hx hb dL_law_500 ?_
  refine xsld hx hb hX hbl hbA hS hL (by omega) dL_law_501 ?_
  refine xtop e_x.symm ?_
  refine lv_aload_n hx hb dL_law_502 rfl (lv_at hl 2 rfl) ?_
  refine lcalli (vx_runSW (As := [.ref (a 0), .int x, .ref o]) (rest := []) ⟨hx, hb, hml, hown, hts⟩ (c_L_setActual l hl0 D cs sa a M N o go _ hA.1 hA.2.2.2.1 n act x hW.2.1.1 hW.1.1 hW.2.1.2 (act_lt hW)) (vx_cwSW 3 hts gL_law_L_setActual rfl rfl rfl (by decide +kernel) ⟨(Nat.le_of_ble_eq_true rfl), (Nat.le_of_ble_eq_true rfl)⟩) (lpreS (LJ_o hJ) hK hT hNc hZ hS (Ap_o hA hS.1)) rfl rfl hl.1 rfl (lv_room (Nat.le_of_ble_eq_true rfl)) dL_law_503 (lfit hc hs (by decide) (by decide))) hS (Ap_o hA hS.1) (fun u9 H locs hu hP9 hk9 hS => ?_)
  have hJ := LJ_x hJ hA hP9 hk9
  obtain ⟨K9, hK9⟩ : ∃ K9 : Nat, K9 = (if (isIn n x) = true then 0 else 1) := ⟨_, rfl⟩
  have h4 : K9 < 4 := by rw [hK9]; repeat' (first | decide | split)
  refine xtop (congrArg nI hK9.symm) ?_
  refine lv_istore (lv' := [(6, .int (nI K9)), (5, .int (nI i)), (4, .ref od), (3, .ref o), (2, .ref (b 0)), (1, .ref (a 0)), (0, .ref bq)]) hx hb dL_law_506 hl (by decide) rfl (fun ls hl => ?_)
  refine lv_aload_n hx hb dL_law_508 rfl (lv_at hl 4 rfl) ?_
  refine lv_aload_n hx hb dL_law_509 rfl (lv_at hl 6 rfl) ?_
  refine lv_iload hx hb dL_law_510 (lv_at hl 1 rfl) ?_
  refine lv_iconst (v := nI 1) hx hb dL_law_512 (by decide) ?_
  refine xiadd hx hb dL_law_513 ?_
  refine xsld hx hb hX hbl hbA hS hL (by omega) dL_law_514 ?_
  refine xtop e_x.symm ?_
  refine lcalli (va_runV (As := [.int x]) (rest := []) ⟨hx, hb, hml, hown, hts⟩ (c_X5_setActual l D cs b R _ hA.2.1 n act x hW.2.2.1.1 hW.1.1 hW.2.2.1.2) (cwV 1 hts gL_law_X5_setActual rfl rfl rfl (by decide +kernel) ⟨(Nat.le_of_ble_eq_true rfl), (Nat.le_of_ble_eq_true rfl)⟩) (xpreVs hJ.2.1 hK (ci := 5) 0 rfl rfl) rfl rfl hl.1 rfl (lv_room (Nat.le_of_ble_eq_true rfl)) dL_law_515 (lfit2 hc hs (by decide) (by decide))) hS (Ap_b hA hS.1) (fun _ H locs hv hP9 hk9 hS => ?_)
  obtain ⟨R1, hv⟩ : ∃ R1 : Nat → Nat → Int32, R1 = (if isIn n x = true then wr (wr R 0 0 (nI 0)) 0 2 x else wr R 0 0 (nI 1)) := ⟨_, rfl⟩
  rw [← hv] at hP9
  have hJ := LJ_r hJ hA hP9 hk9
  obtain ⟨B9, hB9⟩ : ∃ B9 : Int32, B9 = (if isIn n x = true then nI act else nI 0) := ⟨_, rfl⟩
  refine xtop hB9.symm ?_
  refine lv_istore (lv' := [(7, .int B9), (6, .int (nI K9)), (5, .int (nI i)), (4, .ref od), (3, .ref o), (2, .ref (b 0)), (1, .ref (a 0)), (0, .ref bq)]) hx hb dL_law_518 hl (by decide) rfl (fun ls hl => ?_)
  obtain ⟨e0, e1, hsim⟩ := op_setActual hW hF x hu hv
  have e0 : R1 0 0 = nI K9 := e0.trans (congrArg nI hK9.symm)
  refine lv_aload_n hx hb dL_law_520 rfl (lv_at hl 5 rfl) ?_
  refine lcall0i (va_runV (As := []) (rest := []) ⟨hx, hb, hml, hown, hts⟩ (c_X5_thrown l D cs b R1) (cwV 0 hts gL_law_X5_thrown rfl rfl rfl (by decide +kernel) ⟨(Nat.le_of_ble_eq_true rfl), (Nat.le_of_ble_eq_true rfl)⟩) (xpreV hJ.2.1 hK (ci := 5) 0 rfl rfl) rfl rfl hl.1 rfl (lv_room (Nat.le_of_ble_eq_true rfl)) dL_law_521 (lfit3 (z := 1) (w := 6) (z2 := 0) (w2 := 0) hc hs (by decide) (by decide))) hS (fun H locs hk9 hS => ?_)
  have hJ := LJ_0 hJ hk9
  refine xtop e0 ?_
  refine lv_iload hx hb dL_law_524 (lv_at hl 1 rfl) ?_
  refine lv_icmp_eq (tgt := 531) hx hb dL_law_526 (by decide) (fun _ => ?_) (fun q => absurd rfl q)
  refine lv_iload hx hb dL_law_531 (lv_at hl 1 rfl) ?_
  refine lv_if_ne (tgt := 548) hx hb dL_law_533 (by decide) (fun q => ?_) (fun q => ?_)
  ·
    refine lv_goto (tgt := 2008) hx hb dL_law_548 (by decide) ?_
    exact lfin hkk hsim hJ hS (lv_sub hl [2, 3, 4, 5, 6, 7] rfl) (by decide) (by decide)
  ·
    refine lv_aload_n hx hb dL_law_536 rfl (lv_at hl 4 rfl) ?_
    refine lv_iconst (v := nI 0) hx hb dL_law_537 (by decide) ?_
    have e2 := e1 (hK9.symm.trans (nI_c h4 q))
    refine xlald (q0 := 0) (t0 := 1) hx hb hK.1 hJ.2.2.1 rfl rfl (by decide) (by decide) dL_law_538 ?_
    refine xtopl (y := B9.toInt64) (by rw [hB9]; exact e2) ?_
    refine lv_iload hx hb dL_law_539 (lv_at hl 0 rfl) ?_
    refine lv_i2l (v := B9.toInt64) hx hb dL_law_541 rfl ?_
    refine W.lcmp hx hb dL_law_542 ?_
    refine lv_if_eq (tgt := 548) hx hb dL_law_543 (by decide) (fun _ => ?_) (fun q => absurd ((lg_cmp_eq _ _).mpr rfl) q)
    refine lv_goto (tgt := 2008) hx hb dL_law_548 (by decide) ?_
    exact lfin hkk hsim hJ hS (lv_sub hl [2, 3, 4, 5, 6, 7] rfl) (by decide) (by decide)

set_option maxHeartbeats 4000000 in
set_option maxRecDepth 100000 in
theorem k_actual {p : Program} {l : Launch} {e : Env} {s : State} {m : MethodId} {below : List Frame} {meth : Method} {c : Code} {bq L : Nat} {xs : Nat → Int32} {D : va_G} {cs sa a b : Nat → Nat} {o od : Nat} {Q : State → Prop} {i cells slots : Nat} {M R : Nat → Nat → Int32} {N go : Nat → Int64} {gd : Nat → UInt64} {H : Heap} {locs : List Loc} {ls : Array Slot} (C : LX p l s m meth c bq L xs D cs sa a b o od) (hi : i + 5 ≤ L) (hsim : SimE M N R) (hJ : LJ D cs a b o od M N R go gd H) (hS : va_S (fun q : Nat => s.heap.size ≤ q) s.heap H locs) (hl : lv_has ls 9 [(5, .int (nI i)), (4, .ref od), (3, .ref o), (2, .ref (b 0)), (1, .ref (a 0)), (0, .ref bq)]) (hc : cells + 10 ≤ 601024) (hs : slots + 200 ≤ 7293034) (hkk : LK p l e s m below meth c bq D cs a b o od Q i cells slots) : W p l e room_1 s m #[Value.ref bq] below meth c H locs cells slots Q (F0 m 551 ls []) := by
  obtain ⟨⟨hx, hb, hr, hml, hown, -, hX, hbl, hlocks, -⟩, hts, hl0, hL, hK, hT, hNc, hZ, hA⟩ := C
  obtain ⟨n, act, nf, kd, p1, p2, ns, sb, ag, hW, hF⟩ := hsim
  have hb : c.code = cL_law := hb
  have hown : s.vm.findClass RL = some m.cls := hown
  have hbA : ¬ (fun q : Nat => s.heap.size ≤ q) bq := Nat.not_le.mpr hbl
  refine lv_aload_n hx hb dL_law_551 rfl (lv_at hl 4 rfl) ?_
  refine lv_aload_n hx hb dL_law_552 rfl (lv_at hl 2 rfl) ?_
  refine lcalli (vx_runSW (As := [.ref (a 0), .ref o]) (rest := []) ⟨hx, hb, hml, hown, hts⟩ (c_L_actual l hl0 D cs sa a M N o go _ hA.1 hA.2.2.2.1 n act  hW.2.1.1 hW.1.1 hW.2.1.2 (act_lt hW)) (vx_cwSW 2 hts gL_law_L_actual rfl rfl rfl (by decide +kernel) ⟨(Nat.le_of_ble_eq_true rfl), (Nat.le_of_ble_eq_true rfl)⟩) (lpreS (LJ_o hJ) hK hT hNc hZ hS (Ap_o hA hS.1)) rfl rfl hl.1 rfl (lv_room (Nat.le_of_ble_eq_true rfl)) dL_law_553 (lfit hc hs (by decide) (by decide))) hS (Ap_o hA hS.1) (fun u9 H locs hu hP9 hk9 hS => ?_)
  have hJ := LJ_x hJ hA hP9 hk9
  obtain ⟨K9, hK9⟩ : ∃ K9 : Nat, K9 = (if (!decide (n = 0)) = true then 0 else 1) := ⟨_, rfl⟩
  have h4 : K9 < 4 := by rw [hK9]; repeat' (first | decide | split)
  refine xtop (congrArg nI hK9.symm) ?_
  refine lv_istore (lv' := [(6, .int (nI K9)), (5, .int (nI i)), (4, .ref od), (3, .ref o), (2, .ref (b 0)), (1, .ref (a 0)), (0, .ref bq)]) hx hb dL_law_556 hl (by decide) rfl (fun ls hl => ?_)
  refine lv_aload_n hx hb dL_law_558 rfl (lv_at hl 4 rfl) ?_
  refine lcalli (va_runV (As := []) (rest := []) ⟨hx, hb, hml, hown, hts⟩ (c_X5_actual l D cs b R _ hA.2.1 n act  hW.2.2.1.1 hW.1.1 hW.2.2.1.2) (cwV 0 hts gL_law_X5_actual rfl rfl rfl (by decide +kernel) ⟨(Nat.le_of_ble_eq_true rfl), (Nat.le_of_ble_eq_true rfl)⟩) (xpreVs hJ.2.1 hK (ci := 5) 0 rfl rfl) rfl rfl hl.1 rfl (lv_room (Nat.le_of_ble_eq_true rfl)) dL_law_559 (lfit2 hc hs (by decide) (by decide))) hS (Ap_b hA hS.1) (fun _ H locs hv hP9 hk9 hS => ?_)
  obtain ⟨R1, hv⟩ : ∃ R1 : Nat → Nat → Int32, R1 = wr R 0 0 (if n = 0 then nI 1 else nI 0) := ⟨_, rfl⟩
  rw [← hv] at hP9
  have hJ := LJ_r hJ hA hP9 hk9
  obtain ⟨B9, hB9⟩ : ∃ B9 : Int32, B9 = (if n = 0 then nI 0 else nI act) := ⟨_, rfl⟩
  refine xtop hB9.symm ?_
  refine lv_istore (lv' := [(7, .int B9), (6, .int (nI K9)), (5, .int (nI i)), (4, .ref od), (3, .ref o), (2, .ref (b 0)), (1, .ref (a 0)), (0, .ref bq)]) hx hb dL_law_562 hl (by decide) rfl (fun ls hl => ?_)
  obtain ⟨e0, e1, hsim⟩ := op_actual hW hF  hu hv
  have e0 : R1 0 0 = nI K9 := e0.trans (congrArg nI hK9.symm)
  refine lv_aload_n hx hb dL_law_564 rfl (lv_at hl 5 rfl) ?_
  refine lcall0i (va_runV (As := []) (rest := []) ⟨hx, hb, hml, hown, hts⟩ (c_X5_thrown l D cs b R1) (cwV 0 hts gL_law_X5_thrown rfl rfl rfl (by decide +kernel) ⟨(Nat.le_of_ble_eq_true rfl), (Nat.le_of_ble_eq_true rfl)⟩) (xpreV hJ.2.1 hK (ci := 5) 0 rfl rfl) rfl rfl hl.1 rfl (lv_room (Nat.le_of_ble_eq_true rfl)) dL_law_565 (lfit3 (z := 1) (w := 6) (z2 := 0) (w2 := 0) hc hs (by decide) (by decide))) hS (fun H locs hk9 hS => ?_)
  have hJ := LJ_0 hJ hk9
  refine xtop e0 ?_
  refine lv_iload hx hb dL_law_568 (lv_at hl 1 rfl) ?_
  refine lv_icmp_eq (tgt := 575) hx hb dL_law_570 (by decide) (fun _ => ?_) (fun q => absurd rfl q)
  refine lv_iload hx hb dL_law_575 (lv_at hl 1 rfl) ?_
  refine lv_if_ne (tgt := 592) hx hb dL_law_577 (by decide) (fun q => ?_) (fun q => ?_)
  ·
    refine lv_goto (tgt := 2008) hx hb dL_law_592 (by decide) ?_
    exact lfin hkk hsim hJ hS (lv_sub hl [2, 3, 4, 5, 6, 7] rfl) (by decide) (by decide)
  ·
    refine lv_aload_n hx hb dL_law_580 rfl (lv_at hl 4 rfl) ?_
    refine lv_iconst (v := nI 0) hx hb dL_law_581 (by decide) ?_
    have e2 := e1 (hK9.symm.trans (nI_c h4 q))
    refine xlald (q0 := 0) (t0 := 1) hx hb hK.1 hJ.2.2.1 rfl rfl (by decide) (by decide) dL_law_582 ?_
    refine xtopl (y := B9.toInt64) (by rw [hB9]; exact e2) ?_
    refine lv_iload hx hb dL_law_583 (lv_at hl 0 rfl) ?_
    refine lv_i2l (v := B9.toInt64) hx hb dL_law_585 rfl ?_
    refine W.lcmp hx hb dL_law_586 ?_
    refine lv_if_eq (tgt := 592) hx hb dL_law_587 (by decide) (fun _ => ?_) (fun q => absurd ((lg_cmp_eq _ _).mpr rfl) q)
    refine lv_goto (tgt := 2008) hx hb dL_law_592 (by decide) ?_
    exact lfin hkk hsim hJ hS (lv_sub hl [2, 3, 4, 5, 6, 7] rfl) (by decide) (by decide)

set_option maxHeartbeats 4000000 in
set_option maxRecDepth 100000 in
theorem k_worldCount {p : Program} {l : Launch} {e : Env} {s : State} {m : MethodId} {below : List Frame} {meth : Method} {c : Code} {bq L : Nat} {xs : Nat → Int32} {D : va_G} {cs sa a b : Nat → Nat} {o od : Nat} {Q : State → Prop} {i cells slots : Nat} {M R : Nat → Nat → Int32} {N go : Nat → Int64} {gd : Nat → UInt64} {H : Heap} {locs : List Loc} {ls : Array Slot} (C : LX p l s m meth c bq L xs D cs sa a b o od) (hi : i + 5 ≤ L) (hsim : SimE M N R) (hJ : LJ D cs a b o od M N R go gd H) (hS : va_S (fun q : Nat => s.heap.size ≤ q) s.heap H locs) (hl : lv_has ls 9 [(5, .int (nI i)), (4, .ref od), (3, .ref o), (2, .ref (b 0)), (1, .ref (a 0)), (0, .ref bq)]) (hc : cells + 10 ≤ 601024) (hs : slots + 200 ≤ 7293034) (hkk : LK p l e s m below meth c bq D cs a b o od Q i cells slots) : W p l e room_1 s m #[Value.ref bq] below meth c H locs cells slots Q (F0 m 595 ls []) := by
  obtain ⟨⟨hx, hb, hr, hml, hown, -, hX, hbl, hlocks, -⟩, hts, hl0, hL, hK, hT, hNc, hZ, hA⟩ := C
  obtain ⟨n, act, nf, kd, p1, p2, ns, sb, ag, hW, hF⟩ := hsim
  have hb : c.code = cL_law := hb
  have hown : s.vm.findClass RL = some m.cls := hown
  have hbA : ¬ (fun q : Nat => s.heap.size ≤ q) bq := Nat.not_le.mpr hbl
  refine lv_aload_n hx hb dL_law_595 rfl (lv_at hl 4 rfl) ?_
  refine lcall0i (va_runV (As := []) (rest := []) ⟨hx, hb, hml, hown, hts⟩ (c_X4_worldCount l D cs a M N  n hW.2.1.1 hW.1.1) (cwV 0 hts gL_law_X4_worldCount rfl rfl rfl (by decide +kernel) ⟨(Nat.le_of_ble_eq_true rfl), (Nat.le_of_ble_eq_true rfl)⟩) (xpreV hJ.1 hK (ci := 4) 0 rfl rfl) rfl rfl hl.1 rfl (lv_room (Nat.le_of_ble_eq_true rfl)) dL_law_596 (lfit hc hs (by decide) (by decide))) hS (fun H locs hk9 hS => ?_)
  have hJ := LJ_0 hJ hk9
  obtain ⟨C9, hC9⟩ : ∃ C9 : Int32, C9 = nI n := ⟨_, rfl⟩
  refine xtop hC9.symm ?_
  refine lv_aload_n hx hb dL_law_599 rfl (lv_at hl 3 rfl) ?_
  refine lcalli (va_runV (As := []) (rest := [.int C9]) ⟨hx, hb, hml, hown, hts⟩ (c_X5_worldCount l D cs b R _ hA.2.1 n  hW.2.2.1.1) (cwV 0 hts gL_law_X5_worldCount rfl rfl rfl (by decide +kernel) ⟨(Nat.le_of_ble_eq_true rfl), (Nat.le_of_ble_eq_true rfl)⟩) (xpreVs hJ.2.1 hK (ci := 5) 0 rfl rfl) rfl rfl hl.1 rfl (lv_room (Nat.le_of_ble_eq_true rfl)) dL_law_600 (lfit hc hs (by decide) (by decide))) hS (Ap_b hA hS.1) (fun _ H locs hv hP9 hk9 hS => ?_)
  obtain ⟨R1, hv⟩ : ∃ R1 : Nat → Nat → Int32, R1 = wr R 0 0 (nI 0) := ⟨_, rfl⟩
  rw [← hv] at hP9
  have hJ := LJ_r hJ hA hP9 hk9
  have ee : C9 = nI n ∧ SimE M N R1 := by
    rw [hC9, hv]; exact ⟨rfl, simQ hW hF TX_r⟩
  obtain ⟨ee, hsim⟩ := ee
  refine lv_icmp_eq (tgt := 2008) hx hb dL_law_603 (by decide) (fun _ => ?_) (fun q => absurd ee q)
  exact lfin (z := 0) (w := 0) hkk hsim hJ hS hl (by decide) (by decide)

set_option maxHeartbeats 4000000 in
set_option maxRecDepth 100000 in
theorem k_atoms {p : Program} {l : Launch} {e : Env} {s : State} {m : MethodId} {below : List Frame} {meth : Method} {c : Code} {bq L : Nat} {xs : Nat → Int32} {D : va_G} {cs sa a b : Nat → Nat} {o od : Nat} {Q : State → Prop} {i cells slots : Nat} {M R : Nat → Nat → Int32} {N go : Nat → Int64} {gd : Nat → UInt64} {H : Heap} {locs : List Loc} {ls : Array Slot} (C : LX p l s m meth c bq L xs D cs sa a b o od) (hi : i + 5 ≤ L) (hsim : SimE M N R) (hJ : LJ D cs a b o od M N R go gd H) (hS : va_S (fun q : Nat => s.heap.size ≤ q) s.heap H locs) (hl : lv_has ls 9 [(5, .int (nI i)), (4, .ref od), (3, .ref o), (2, .ref (b 0)), (1, .ref (a 0)), (0, .ref bq)]) (hc : cells + 10 ≤ 601024) (hs : slots + 200 ≤ 7293034) (hkk : LK p l e s m below meth c bq D cs a b o od Q i cells slots) : W p l e room_1 s m #[Value.ref bq] below meth c H locs cells slots Q (F0 m 608 ls []) := by
  obtain ⟨⟨hx, hb, hr, hml, hown, -, hX, hbl, hlocks, -⟩, hts, hl0, hL, hK, hT, hNc, hZ, hA⟩ := C
  obtain ⟨n, act, nf, kd, p1, p2, ns, sb, ag, hW, hF⟩ := hsim
  have hb : c.code = cL_law := hb
  have hown : s.vm.findClass RL = some m.cls := hown
  have hbA : ¬ (fun q : Nat => s.heap.size ≤ q) bq := Nat.not_le.mpr hbl
  obtain ⟨x, e_x⟩ : ∃ x : Int32, x = xs (i + 1) := ⟨_, rfl⟩
  refine lv_aload_n hx hb dL_law_608 rfl (lv_at hl 4 rfl) ?_
  refine lv_aload_n hx hb dL_law_609 rfl (lv_at hl 5 rfl) ?_
  refine lv_iload hx hb dL_law_610 (lv_at hl 0 rfl) ?_
  refine lv_iconst (v := nI 1) hx hb dL_law_612 (by decide) ?_
  refine xiadd hx hb dL_law_613 ?_
  refine xsld hx hb hX hbl hbA hS hL (by omega) dL_law_614 ?_
  refine xtop e_x.symm ?_
  refine lv_aload_n hx hb dL_law_615 rfl (lv_at hl 2 rfl) ?_
  refine lcalli (vx_runSW (As := [.ref (a 0), .int x, .ref o]) (rest := []) ⟨hx, hb, hml, hown, hts⟩ (c_L_atoms l hl0 D cs sa a M N o go _ hA.1 hA.2.2.2.1 n x hW.2.1.1 hW.1.1) (vx_cwSW 3 hts gL_law_L_atoms rfl rfl rfl (by decide +kernel) ⟨(Nat.le_of_ble_eq_true rfl), (Nat.le_of_ble_eq_true rfl)⟩) (lpreS (LJ_o hJ) hK hT hNc hZ hS (Ap_o hA hS.1)) rfl rfl hl.1 rfl (lv_room (Nat.le_of_ble_eq_true rfl)) dL_law_616 (lfit hc hs (by decide) (by decide))) hS (Ap_o hA hS.1) (fun u9 H locs hu hP9 hk9 hS => ?_)
  have hJ := LJ_x hJ hA hP9 hk9
  obtain ⟨K9, hK9⟩ : ∃ K9 : Nat, K9 = (if (isIn n x) = true then 0 else 1) := ⟨_, rfl⟩
  have h4 : K9 < 4 := by rw [hK9]; repeat' (first | decide | split)
  refine xtop (congrArg nI hK9.symm) ?_
  refine lv_istore (lv' := [(6, .int (nI K9)), (5, .int (nI i)), (4, .ref od), (3, .ref o), (2, .ref (b 0)), (1, .ref (a 0)), (0, .ref bq)]) hx hb dL_law_619 hl (by decide) rfl (fun ls hl => ?_)
  refine lv_aload_n hx hb dL_law_621 rfl (lv_at hl 4 rfl) ?_
  refine lv_aload_n hx hb dL_law_622 rfl (lv_at hl 6 rfl) ?_
  refine lv_iload hx hb dL_law_623 (lv_at hl 1 rfl) ?_
  refine lv_iconst (v := nI 1) hx hb dL_law_625 (by decide) ?_
  refine xiadd hx hb dL_law_626 ?_
  refine xsld hx hb hX hbl hbA hS hL (by omega) dL_law_627 ?_
  refine xtop e_x.symm ?_
  refine lcalli (va_runV (As := [.int x]) (rest := []) ⟨hx, hb, hml, hown, hts⟩ (c_X5_atoms l D cs b R _ hA.2.1 n x hW.2.2.1.1 hW.1.1) (cwV 1 hts gL_law_X5_atoms rfl rfl rfl (by decide +kernel) ⟨(Nat.le_of_ble_eq_true rfl), (Nat.le_of_ble_eq_true rfl)⟩) (xpreVs hJ.2.1 hK (ci := 5) 0 rfl rfl) rfl rfl hl.1 rfl (lv_room (Nat.le_of_ble_eq_true rfl)) dL_law_628 (lfit2 hc hs (by decide) (by decide))) hS (Ap_b hA hS.1) (fun _ H locs hv hP9 hk9 hS => ?_)
  obtain ⟨R1, hv⟩ : ∃ R1 : Nat → Nat → Int32, R1 = wr R 0 0 (if isIn n x = true then nI 0 else nI 1) := ⟨_, rfl⟩
  rw [← hv] at hP9
  have hJ := LJ_r hJ hA hP9 hk9
  obtain ⟨B9, hB9⟩ : ∃ B9 : Int32, B9 = (if isIn n x = true then R 1 x.toNatClampNeg else nI 0) := ⟨_, rfl⟩
  refine xtop hB9.symm ?_
  refine lv_istore (lv' := [(7, .int B9), (6, .int (nI K9)), (5, .int (nI i)), (4, .ref od), (3, .ref o), (2, .ref (b 0)), (1, .ref (a 0)), (0, .ref bq)]) hx hb dL_law_631 hl (by decide) rfl (fun ls hl => ?_)
  obtain ⟨e0, e1, hsim⟩ := op_atoms hW hF x hu hv
  have e0 : R1 0 0 = nI K9 := e0.trans (congrArg nI hK9.symm)
  refine lv_aload_n hx hb dL_law_633 rfl (lv_at hl 5 rfl) ?_
  refine lcall0i (va_runV (As := []) (rest := []) ⟨hx, hb, hml, hown, hts⟩ (c_X5_thrown l D cs b R1) (cwV 0 hts gL_law_X5_thrown rfl rfl rfl (by decide +kernel) ⟨(Nat.le_of_ble_eq_true rfl), (Nat.le_of_ble_eq_true rfl)⟩) (xpreV hJ.2.1 hK (ci := 5) 0 rfl rfl) rfl rfl hl.1 rfl (lv_room (Nat.le_of_ble_eq_true rfl)) dL_law_634 (lfit3 (z := 1) (w := 6) (z2 := 0) (w2 := 0) hc hs (by decide) (by decide))) hS (fun H locs hk9 hS => ?_)
  have hJ := LJ_0 hJ hk9
  refine xtop e0 ?_
  refine lv_iload hx hb dL_law_637 (lv_at hl 1 rfl) ?_
  refine lv_icmp_eq (tgt := 644) hx hb dL_law_639 (by decide) (fun _ => ?_) (fun q => absurd rfl q)
  refine lv_iload hx hb dL_law_644 (lv_at hl 1 rfl) ?_
  refine lv_if_ne (tgt := 661) hx hb dL_law_646 (by decide) (fun q => ?_) (fun q => ?_)
  ·
    refine lv_goto (tgt := 2008) hx hb dL_law_661 (by decide) ?_
    exact lfin hkk hsim hJ hS (lv_sub hl [2, 3, 4, 5, 6, 7] rfl) (by decide) (by decide)
  ·
    refine lv_aload_n hx hb dL_law_649 rfl (lv_at hl 4 rfl) ?_
    refine lv_iconst (v := nI 0) hx hb dL_law_650 (by decide) ?_
    have e2 := e1 (hK9.symm.trans (nI_c h4 q))
    refine xlald (q0 := 0) (t0 := 1) hx hb hK.1 hJ.2.2.1 rfl rfl (by decide) (by decide) dL_law_651 ?_
    refine xtopl (y := B9.toInt64) (by rw [hB9]; exact e2) ?_
    refine lv_iload hx hb dL_law_652 (lv_at hl 0 rfl) ?_
    refine lv_i2l (v := B9.toInt64) hx hb dL_law_654 rfl ?_
    refine W.lcmp hx hb dL_law_655 ?_
    refine lv_if_eq (tgt := 661) hx hb dL_law_656 (by decide) (fun _ => ?_) (fun q => absurd ((lg_cmp_eq _ _).mpr rfl) q)
    refine lv_goto (tgt := 2008) hx hb dL_law_661 (by decide) ?_
    exact lfin hkk hsim hJ hS (lv_sub hl [2, 3, 4, 5, 6, 7] rfl) (by decide) (by decide)

set_option maxHeartbeats 4000000 in
set_option maxRecDepth 100000 in
theorem k_seen {p : Program} {l : Launch} {e : Env} {s : State} {m : MethodId} {below : List Frame} {meth : Method} {c : Code} {bq L : Nat} {xs : Nat → Int32} {D : va_G} {cs sa a b : Nat → Nat} {o od : Nat} {Q : State → Prop} {i cells slots : Nat} {M R : Nat → Nat → Int32} {N go : Nat → Int64} {gd : Nat → UInt64} {H : Heap} {locs : List Loc} {ls : Array Slot} (C : LX p l s m meth c bq L xs D cs sa a b o od) (hi : i + 5 ≤ L) (hsim : SimE M N R) (hJ : LJ D cs a b o od M N R go gd H) (hS : va_S (fun q : Nat => s.heap.size ≤ q) s.heap H locs) (hl : lv_has ls 9 [(5, .int (nI i)), (4, .ref od), (3, .ref o), (2, .ref (b 0)), (1, .ref (a 0)), (0, .ref bq)]) (hc : cells + 10 ≤ 601024) (hs : slots + 200 ≤ 7293034) (hkk : LK p l e s m below meth c bq D cs a b o od Q i cells slots) : W p l e room_1 s m #[Value.ref bq] below meth c H locs cells slots Q (F0 m 664 ls []) := by
  obtain ⟨⟨hx, hb, hr, hml, hown, -, hX, hbl, hlocks, -⟩, hts, hl0, hL, hK, hT, hNc, hZ, hA⟩ := C
  obtain ⟨n, act, nf, kd, p1, p2, ns, sb, ag, hW, hF⟩ := hsim
  have hb : c.code = cL_law := hb
  have hown : s.vm.findClass RL = some m.cls := hown
  have hbA : ¬ (fun q : Nat => s.heap.size ≤ q) bq := Nat.not_le.mpr hbl
  obtain ⟨x, e_x⟩ : ∃ x : Int32, x = xs (i + 1) := ⟨_, rfl⟩
  obtain ⟨y, e_y⟩ : ∃ y : Int32, y = xs (i + 2) := ⟨_, rfl⟩
  refine lv_aload_n hx hb dL_law_664 rfl (lv_at hl 4 rfl) ?_
  refine lv_aload_n hx hb dL_law_665 rfl (lv_at hl 5 rfl) ?_
  refine lv_iload hx hb dL_law_666 (lv_at hl 0 rfl) ?_
  refine lv_iconst (v := nI 1) hx hb dL_law_668 (by decide) ?_
  refine xiadd hx hb dL_law_669 ?_
  refine xsld hx hb hX hbl hbA hS hL (by omega) dL_law_670 ?_
  refine xtop e_x.symm ?_
  refine lv_aload_n hx hb dL_law_671 rfl (lv_at hl 5 rfl) ?_
  refine lv_iload hx hb dL_law_672 (lv_at hl 0 rfl) ?_
  refine lv_iconst (v := nI 2) hx hb dL_law_674 (by decide) ?_
  refine xiadd hx hb dL_law_675 ?_
  refine xsld hx hb hX hbl hbA hS hL (by omega) dL_law_676 ?_
  refine xtop e_y.symm ?_
  refine lv_aload_n hx hb dL_law_677 rfl (lv_at hl 2 rfl) ?_
  refine lcalli (vx_runSW (As := [.ref (a 0), .int x, .int y, .ref o]) (rest := []) ⟨hx, hb, hml, hown, hts⟩ (c_L_seen l hl0 D cs sa a M N o go _ hA.1 hA.2.2.2.1 n x y hW.2.1.1 hW.1.1) (vx_cwSW 4 hts gL_law_L_seen rfl rfl rfl (by decide +kernel) ⟨(Nat.le_of_ble_eq_true rfl), (Nat.le_of_ble_eq_true rfl)⟩) (lpreS (LJ_o hJ) hK hT hNc hZ hS (Ap_o hA hS.1)) rfl rfl hl.1 rfl (lv_room (Nat.le_of_ble_eq_true rfl)) dL_law_678 (lfit hc hs (by decide) (by decide))) hS (Ap_o hA hS.1) (fun u9 H locs hu hP9 hk9 hS => ?_)
  have hJ := LJ_x hJ hA hP9 hk9
  obtain ⟨K9, hK9⟩ : ∃ K9 : Nat, K9 = (if (isIn 4 x) = true then (if (isIn n y) = true then 0 else 1) else 1) := ⟨_, rfl⟩
  have h4 : K9 < 4 := by rw [hK9]; repeat' (first | decide | split)
  refine xtop (congrArg nI hK9.symm) ?_
  refine lv_istore (lv' := [(6, .int (nI K9)), (5, .int (nI i)), (4, .ref od), (3, .ref o), (2, .ref (b 0)), (1, .ref (a 0)), (0, .ref bq)]) hx hb dL_law_681 hl (by decide) rfl (fun ls hl => ?_)
  refine lv_aload_n hx hb dL_law_683 rfl (lv_at hl 4 rfl) ?_
  refine lv_aload_n hx hb dL_law_684 rfl (lv_at hl 6 rfl) ?_
  refine lv_iload hx hb dL_law_685 (lv_at hl 1 rfl) ?_
  refine lv_iconst (v := nI 1) hx hb dL_law_687 (by decide) ?_
  refine xiadd hx hb dL_law_688 ?_
  refine xsld hx hb hX hbl hbA hS hL (by omega) dL_law_689 ?_
  refine xtop e_x.symm ?_
  refine lv_aload_n hx hb dL_law_690 rfl (lv_at hl 6 rfl) ?_
  refine lv_iload hx hb dL_law_691 (lv_at hl 1 rfl) ?_
  refine lv_iconst (v := nI 2) hx hb dL_law_693 (by decide) ?_
  refine xiadd hx hb dL_law_694 ?_
  refine xsld hx hb hX hbl hbA hS hL (by omega) dL_law_695 ?_
  refine xtop e_y.symm ?_
  refine lcalli (va_runV (As := [.int x, .int y]) (rest := []) ⟨hx, hb, hml, hown, hts⟩ (c_X5_seen l D cs b R _ hA.2.1 n x y hW.2.2.1.1 hW.1.1) (cwV 2 hts gL_law_X5_seen rfl rfl rfl (by decide +kernel) ⟨(Nat.le_of_ble_eq_true rfl), (Nat.le_of_ble_eq_true rfl)⟩) (xpreVs hJ.2.1 hK (ci := 5) 0 rfl rfl) rfl rfl hl.1 rfl (lv_room (Nat.le_of_ble_eq_true rfl)) dL_law_696 (lfit2 hc hs (by decide) (by decide))) hS (Ap_b hA hS.1) (fun _ H locs hv hP9 hk9 hS => ?_)
  obtain ⟨R1, hv⟩ : ∃ R1 : Nat → Nat → Int32, R1 = wr R 0 0 (if isIn 4 x = true then (if isIn n y = true then nI 0 else nI 1) else nI 1) := ⟨_, rfl⟩
  rw [← hv] at hP9
  have hJ := LJ_r hJ hA hP9 hk9
  obtain ⟨B9, hB9⟩ : ∃ B9 : Int32, B9 = (if isIn 4 x = true then (if isIn n y = true then R 2 (24 * x.toNatClampNeg + y.toNatClampNeg) else nI 0) else nI 0) := ⟨_, rfl⟩
  refine xtop hB9.symm ?_
  refine lv_istore (lv' := [(7, .int B9), (6, .int (nI K9)), (5, .int (nI i)), (4, .ref od), (3, .ref o), (2, .ref (b 0)), (1, .ref (a 0)), (0, .ref bq)]) hx hb dL_law_699 hl (by decide) rfl (fun ls hl => ?_)
  obtain ⟨e0, e1, hsim⟩ := op_seen hW hF x y hu hv
  have e0 : R1 0 0 = nI K9 := e0.trans (congrArg nI hK9.symm)
  refine lv_aload_n hx hb dL_law_701 rfl (lv_at hl 5 rfl) ?_
  refine lcall0i (va_runV (As := []) (rest := []) ⟨hx, hb, hml, hown, hts⟩ (c_X5_thrown l D cs b R1) (cwV 0 hts gL_law_X5_thrown rfl rfl rfl (by decide +kernel) ⟨(Nat.le_of_ble_eq_true rfl), (Nat.le_of_ble_eq_true rfl)⟩) (xpreV hJ.2.1 hK (ci := 5) 0 rfl rfl) rfl rfl hl.1 rfl (lv_room (Nat.le_of_ble_eq_true rfl)) dL_law_702 (lfit3 (z := 2) (w := 12) (z2 := 0) (w2 := 0) hc hs (by decide) (by decide))) hS (fun H locs hk9 hS => ?_)
  have hJ := LJ_0 hJ hk9
  refine xtop e0 ?_
  refine lv_iload hx hb dL_law_705 (lv_at hl 1 rfl) ?_
  refine lv_icmp_eq (tgt := 712) hx hb dL_law_707 (by decide) (fun _ => ?_) (fun q => absurd rfl q)
  refine lv_iload hx hb dL_law_712 (lv_at hl 1 rfl) ?_
  refine lv_if_ne (tgt := 729) hx hb dL_law_714 (by decide) (fun q => ?_) (fun q => ?_)
  ·
    refine lv_goto (tgt := 2008) hx hb dL_law_729 (by decide) ?_
    exact lfin hkk hsim hJ hS (lv_sub hl [2, 3, 4, 5, 6, 7] rfl) (by decide) (by decide)
  ·
    refine lv_aload_n hx hb dL_law_717 rfl (lv_at hl 4 rfl) ?_
    refine lv_iconst (v := nI 0) hx hb dL_law_718 (by decide) ?_
    have e2 := e1 (hK9.symm.trans (nI_c h4 q))
    refine xlald (q0 := 0) (t0 := 1) hx hb hK.1 hJ.2.2.1 rfl rfl (by decide) (by decide) dL_law_719 ?_
    refine xtopl (y := B9.toInt64) (by rw [hB9]; exact e2) ?_
    refine lv_iload hx hb dL_law_720 (lv_at hl 0 rfl) ?_
    refine lv_i2l (v := B9.toInt64) hx hb dL_law_722 rfl ?_
    refine W.lcmp hx hb dL_law_723 ?_
    refine lv_if_eq (tgt := 729) hx hb dL_law_724 (by decide) (fun _ => ?_) (fun q => absurd ((lg_cmp_eq _ _).mpr rfl) q)
    refine lv_goto (tgt := 2008) hx hb dL_law_729 (by decide) ?_
    exact lfin hkk hsim hJ hS (lv_sub hl [2, 3, 4, 5, 6, 7] rfl) (by decide) (by decide)

set_option maxHeartbeats 4000000 in
set_option maxRecDepth 100000 in
theorem k_arrowCount {p : Program} {l : Launch} {e : Env} {s : State} {m : MethodId} {below : List Frame} {meth : Method} {c : Code} {bq L : Nat} {xs : Nat → Int32} {D : va_G} {cs sa a b : Nat → Nat} {o od : Nat} {Q : State → Prop} {i cells slots : Nat} {M R : Nat → Nat → Int32} {N go : Nat → Int64} {gd : Nat → UInt64} {H : Heap} {locs : List Loc} {ls : Array Slot} (C : LX p l s m meth c bq L xs D cs sa a b o od) (hi : i + 5 ≤ L) (hsim : SimE M N R) (hJ : LJ D cs a b o od M N R go gd H) (hS : va_S (fun q : Nat => s.heap.size ≤ q) s.heap H locs) (hl : lv_has ls 9 [(5, .int (nI i)), (4, .ref od), (3, .ref o), (2, .ref (b 0)), (1, .ref (a 0)), (0, .ref bq)]) (hc : cells + 10 ≤ 601024) (hs : slots + 200 ≤ 7293034) (hkk : LK p l e s m below meth c bq D cs a b o od Q i cells slots) : W p l e room_1 s m #[Value.ref bq] below meth c H locs cells slots Q (F0 m 732 ls []) := by
  obtain ⟨⟨hx, hb, hr, hml, hown, -, hX, hbl, hlocks, -⟩, hts, hl0, hL, hK, hT, hNc, hZ, hA⟩ := C
  obtain ⟨n, act, nf, kd, p1, p2, ns, sb, ag, hW, hF⟩ := hsim
  have hb : c.code = cL_law := hb
  have hown : s.vm.findClass RL = some m.cls := hown
  have hbA : ¬ (fun q : Nat => s.heap.size ≤ q) bq := Nat.not_le.mpr hbl
  obtain ⟨x, e_x⟩ : ∃ x : Int32, x = xs (i + 1) := ⟨_, rfl⟩
  refine lv_aload_n hx hb dL_law_732 rfl (lv_at hl 4 rfl) ?_
  refine lv_aload_n hx hb dL_law_733 rfl (lv_at hl 5 rfl) ?_
  refine lv_iload hx hb dL_law_734 (lv_at hl 0 rfl) ?_
  refine lv_iconst (v := nI 1) hx hb dL_law_736 (by decide) ?_
  refine xiadd hx hb dL_law_737 ?_
  refine xsld hx hb hX hbl hbA hS hL (by omega) dL_law_738 ?_
  refine xtop e_x.symm ?_
  refine lv_aload_n hx hb dL_law_739 rfl (lv_at hl 2 rfl) ?_
  refine lcalli (vx_runSW (As := [.ref (a 0), .int x, .ref o]) (rest := []) ⟨hx, hb, hml, hown, hts⟩ (c_L_arrowCount l hl0 D cs sa a M N o go _ hA.1 hA.2.2.2.1 n x hW.2.1.1 hW.1.1) (vx_cwSW 3 hts gL_law_L_arrowCount rfl rfl rfl (by decide +kernel) ⟨(Nat.le_of_ble_eq_true rfl), (Nat.le_of_ble_eq_true rfl)⟩) (lpreS (LJ_o hJ) hK hT hNc hZ hS (Ap_o hA hS.1)) rfl rfl hl.1 rfl (lv_room (Nat.le_of_ble_eq_true rfl)) dL_law_740 (lfit hc hs (by decide) (by decide))) hS (Ap_o hA hS.1) (fun u9 H locs hu hP9 hk9 hS => ?_)
  have hJ := LJ_x hJ hA hP9 hk9
  obtain ⟨K9, hK9⟩ : ∃ K9 : Nat, K9 = (if (isIn 4 x) = true then 0 else 1) := ⟨_, rfl⟩
  have h4 : K9 < 4 := by rw [hK9]; repeat' (first | decide | split)
  refine xtop (congrArg nI hK9.symm) ?_
  refine lv_istore (lv' := [(6, .int (nI K9)), (5, .int (nI i)), (4, .ref od), (3, .ref o), (2, .ref (b 0)), (1, .ref (a 0)), (0, .ref bq)]) hx hb dL_law_743 hl (by decide) rfl (fun ls hl => ?_)
  refine lv_aload_n hx hb dL_law_745 rfl (lv_at hl 4 rfl) ?_
  refine lv_aload_n hx hb dL_law_746 rfl (lv_at hl 6 rfl) ?_
  refine lv_iload hx hb dL_law_747 (lv_at hl 1 rfl) ?_
  refine lv_iconst (v := nI 1) hx hb dL_law_749 (by decide) ?_
  refine xiadd hx hb dL_law_750 ?_
  refine xsld hx hb hX hbl hbA hS hL (by omega) dL_law_751 ?_
  refine xtop e_x.symm ?_
  refine lcalli (va_runV (As := [.int x]) (rest := []) ⟨hx, hb, hml, hown, hts⟩ (c_X5_arrowCount l D cs b R _ hA.2.1 n x hW.2.2.1.1 hW.1.1) (cwV 1 hts gL_law_X5_arrowCount rfl rfl rfl (by decide +kernel) ⟨(Nat.le_of_ble_eq_true rfl), (Nat.le_of_ble_eq_true rfl)⟩) (xpreVs hJ.2.1 hK (ci := 5) 0 rfl rfl) rfl rfl hl.1 rfl (lv_room (Nat.le_of_ble_eq_true rfl)) dL_law_752 (lfit2 hc hs (by decide) (by decide))) hS (Ap_b hA hS.1) (fun _ H locs hv hP9 hk9 hS => ?_)
  obtain ⟨R1, hv⟩ : ∃ R1 : Nat → Nat → Int32, R1 = wr R 0 0 (if isIn 4 x = true then nI 0 else nI 1) := ⟨_, rfl⟩
  rw [← hv] at hP9
  have hJ := LJ_r hJ hA hP9 hk9
  obtain ⟨B9, hB9⟩ : ∃ B9 : Int32, B9 = (if isIn 4 x = true then countR R n x.toNatClampNeg else nI 0) := ⟨_, rfl⟩
  refine xtop hB9.symm ?_
  refine lv_istore (lv' := [(7, .int B9), (6, .int (nI K9)), (5, .int (nI i)), (4, .ref od), (3, .ref o), (2, .ref (b 0)), (1, .ref (a 0)), (0, .ref bq)]) hx hb dL_law_755 hl (by decide) rfl (fun ls hl => ?_)
  obtain ⟨e0, e1, hsim⟩ := op_arrowCount hW hF x hu hv
  have e0 : R1 0 0 = nI K9 := e0.trans (congrArg nI hK9.symm)
  refine lv_aload_n hx hb dL_law_757 rfl (lv_at hl 5 rfl) ?_
  refine lcall0i (va_runV (As := []) (rest := []) ⟨hx, hb, hml, hown, hts⟩ (c_X5_thrown l D cs b R1) (cwV 0 hts gL_law_X5_thrown rfl rfl rfl (by decide +kernel) ⟨(Nat.le_of_ble_eq_true rfl), (Nat.le_of_ble_eq_true rfl)⟩) (xpreV hJ.2.1 hK (ci := 5) 0 rfl rfl) rfl rfl hl.1 rfl (lv_room (Nat.le_of_ble_eq_true rfl)) dL_law_758 (lfit3 (z := 1) (w := 6) (z2 := 0) (w2 := 0) hc hs (by decide) (by decide))) hS (fun H locs hk9 hS => ?_)
  have hJ := LJ_0 hJ hk9
  refine xtop e0 ?_
  refine lv_iload hx hb dL_law_761 (lv_at hl 1 rfl) ?_
  refine lv_icmp_eq (tgt := 768) hx hb dL_law_763 (by decide) (fun _ => ?_) (fun q => absurd rfl q)
  refine lv_iload hx hb dL_law_768 (lv_at hl 1 rfl) ?_
  refine lv_if_ne (tgt := 785) hx hb dL_law_770 (by decide) (fun q => ?_) (fun q => ?_)
  ·
    refine lv_goto (tgt := 2008) hx hb dL_law_785 (by decide) ?_
    exact lfin hkk hsim hJ hS (lv_sub hl [2, 3, 4, 5, 6, 7] rfl) (by decide) (by decide)
  ·
    refine lv_aload_n hx hb dL_law_773 rfl (lv_at hl 4 rfl) ?_
    refine lv_iconst (v := nI 0) hx hb dL_law_774 (by decide) ?_
    have e2 := e1 (hK9.symm.trans (nI_c h4 q))
    refine xlald (q0 := 0) (t0 := 1) hx hb hK.1 hJ.2.2.1 rfl rfl (by decide) (by decide) dL_law_775 ?_
    refine xtopl (y := B9.toInt64) (by rw [hB9]; exact e2) ?_
    refine lv_iload hx hb dL_law_776 (lv_at hl 0 rfl) ?_
    refine lv_i2l (v := B9.toInt64) hx hb dL_law_778 rfl ?_
    refine W.lcmp hx hb dL_law_779 ?_
    refine lv_if_eq (tgt := 785) hx hb dL_law_780 (by decide) (fun _ => ?_) (fun q => absurd ((lg_cmp_eq _ _).mpr rfl) q)
    refine lv_goto (tgt := 2008) hx hb dL_law_785 (by decide) ?_
    exact lfin hkk hsim hJ hS (lv_sub hl [2, 3, 4, 5, 6, 7] rfl) (by decide) (by decide)

set_option maxHeartbeats 4000000 in
set_option maxRecDepth 100000 in
theorem k_shape {p : Program} {l : Launch} {e : Env} {s : State} {m : MethodId} {below : List Frame} {meth : Method} {c : Code} {bq L : Nat} {xs : Nat → Int32} {D : va_G} {cs sa a b : Nat → Nat} {o od : Nat} {Q : State → Prop} {i cells slots : Nat} {M R : Nat → Nat → Int32} {N go : Nat → Int64} {gd : Nat → UInt64} {H : Heap} {locs : List Loc} {ls : Array Slot} (C : LX p l s m meth c bq L xs D cs sa a b o od) (hi : i + 5 ≤ L) (hsim : SimE M N R) (hJ : LJ D cs a b o od M N R go gd H) (hS : va_S (fun q : Nat => s.heap.size ≤ q) s.heap H locs) (hl : lv_has ls 9 [(5, .int (nI i)), (4, .ref od), (3, .ref o), (2, .ref (b 0)), (1, .ref (a 0)), (0, .ref bq)]) (hc : cells + 10 ≤ 601024) (hs : slots + 200 ≤ 7293034) (hkk : LK p l e s m below meth c bq D cs a b o od Q i cells slots) : W p l e room_1 s m #[Value.ref bq] below meth c H locs cells slots Q (F0 m 788 ls []) := by
  obtain ⟨⟨hx, hb, hr, hml, hown, -, hX, hbl, hlocks, -⟩, hts, hl0, hL, hK, hT, hNc, hZ, hA⟩ := C
  obtain ⟨n, act, nf, kd, p1, p2, ns, sb, ag, hW, hF⟩ := hsim
  have hb : c.code = cL_law := hb
  have hown : s.vm.findClass RL = some m.cls := hown
  have hbA : ¬ (fun q : Nat => s.heap.size ≤ q) bq := Nat.not_le.mpr hbl
  obtain ⟨x, e_x⟩ : ∃ x : Int32, x = xs (i + 1) := ⟨_, rfl⟩
  refine lv_aload_n hx hb dL_law_788 rfl (lv_at hl 4 rfl) ?_
  refine lv_aload_n hx hb dL_law_789 rfl (lv_at hl 5 rfl) ?_
  refine lv_iload hx hb dL_law_790 (lv_at hl 0 rfl) ?_
  refine lv_iconst (v := nI 1) hx hb dL_law_792 (by decide) ?_
  refine xiadd hx hb dL_law_793 ?_
  refine xsld hx hb hX hbl hbA hS hL (by omega) dL_law_794 ?_
  refine xtop e_x.symm ?_
  refine lv_aload_n hx hb dL_law_795 rfl (lv_at hl 2 rfl) ?_
  refine lcalli (vx_runSW (As := [.ref (a 0), .int x, .ref o]) (rest := []) ⟨hx, hb, hml, hown, hts⟩ (c_L_shape l hl0 D cs sa a M N o go _ hA.1 hA.2.2.2.1 n x hW.2.1.1 hW.1.1) (vx_cwSW 3 hts gL_law_L_shape rfl rfl rfl (by decide +kernel) ⟨(Nat.le_of_ble_eq_true rfl), (Nat.le_of_ble_eq_true rfl)⟩) (lpreS (LJ_o hJ) hK hT hNc hZ hS (Ap_o hA hS.1)) rfl rfl hl.1 rfl (lv_room (Nat.le_of_ble_eq_true rfl)) dL_law_796 (lfit hc hs (by decide) (by decide))) hS (Ap_o hA hS.1) (fun u9 H locs hu hP9 hk9 hS => ?_)
  have hJ := LJ_x hJ hA hP9 hk9
  obtain ⟨K9, hK9⟩ : ∃ K9 : Nat, K9 = (if (isIn 4 x) = true then 0 else 1) := ⟨_, rfl⟩
  have h4 : K9 < 4 := by rw [hK9]; repeat' (first | decide | split)
  refine xtop (congrArg nI hK9.symm) ?_
  refine lv_istore (lv' := [(6, .int (nI K9)), (5, .int (nI i)), (4, .ref od), (3, .ref o), (2, .ref (b 0)), (1, .ref (a 0)), (0, .ref bq)]) hx hb dL_law_799 hl (by decide) rfl (fun ls hl => ?_)
  refine lv_aload_n hx hb dL_law_801 rfl (lv_at hl 4 rfl) ?_
  refine lv_aload_n hx hb dL_law_802 rfl (lv_at hl 6 rfl) ?_
  refine lv_iload hx hb dL_law_803 (lv_at hl 1 rfl) ?_
  refine lv_iconst (v := nI 1) hx hb dL_law_805 (by decide) ?_
  refine xiadd hx hb dL_law_806 ?_
  refine xsld hx hb hX hbl hbA hS hL (by omega) dL_law_807 ?_
  refine xtop e_x.symm ?_
  refine lcalli (va_runV (As := [.int x]) (rest := []) ⟨hx, hb, hml, hown, hts⟩ (c_X5_shape l D cs b R _ hA.2.1 n x hW.2.2.1.1 hW.1.1) (cwV 1 hts gL_law_X5_shape rfl rfl rfl (by decide +kernel) ⟨(Nat.le_of_ble_eq_true rfl), (Nat.le_of_ble_eq_true rfl)⟩) (xpreVs hJ.2.1 hK (ci := 5) 0 rfl rfl) rfl rfl hl.1 rfl (lv_room (Nat.le_of_ble_eq_true rfl)) dL_law_808 (lfit2 hc hs (by decide) (by decide))) hS (Ap_b hA hS.1) (fun _ H locs hv hP9 hk9 hS => ?_)
  obtain ⟨R1, hv⟩ : ∃ R1 : Nat → Nat → Int32, R1 = wr R 0 0 (if isIn 4 x = true then nI 0 else nI 1) := ⟨_, rfl⟩
  rw [← hv] at hP9
  have hJ := LJ_r hJ hA hP9 hk9
  obtain ⟨B9, hB9⟩ : ∃ B9 : Int32, B9 = (if isIn 4 x = true then nI ((if reflR R n x.toNatClampNeg = true then 1 else 0) + (if symR R n x.toNatClampNeg = true then 2 else 0) + (if transR R n x.toNatClampNeg = true then 4 else 0)) else nI 0) := ⟨_, rfl⟩
  refine xtop hB9.symm ?_
  refine lv_istore (lv' := [(7, .int B9), (6, .int (nI K9)), (5, .int (nI i)), (4, .ref od), (3, .ref o), (2, .ref (b 0)), (1, .ref (a 0)), (0, .ref bq)]) hx hb dL_law_811 hl (by decide) rfl (fun ls hl => ?_)
  obtain ⟨e0, e1, hsim⟩ := op_shape hW hF x hu hv
  have e0 : R1 0 0 = nI K9 := e0.trans (congrArg nI hK9.symm)
  refine lv_aload_n hx hb dL_law_813 rfl (lv_at hl 5 rfl) ?_
  refine lcall0i (va_runV (As := []) (rest := []) ⟨hx, hb, hml, hown, hts⟩ (c_X5_thrown l D cs b R1) (cwV 0 hts gL_law_X5_thrown rfl rfl rfl (by decide +kernel) ⟨(Nat.le_of_ble_eq_true rfl), (Nat.le_of_ble_eq_true rfl)⟩) (xpreV hJ.2.1 hK (ci := 5) 0 rfl rfl) rfl rfl hl.1 rfl (lv_room (Nat.le_of_ble_eq_true rfl)) dL_law_814 (lfit3 (z := 1) (w := 6) (z2 := 0) (w2 := 0) hc hs (by decide) (by decide))) hS (fun H locs hk9 hS => ?_)
  have hJ := LJ_0 hJ hk9
  refine xtop e0 ?_
  refine lv_iload hx hb dL_law_817 (lv_at hl 1 rfl) ?_
  refine lv_icmp_eq (tgt := 824) hx hb dL_law_819 (by decide) (fun _ => ?_) (fun q => absurd rfl q)
  refine lv_iload hx hb dL_law_824 (lv_at hl 1 rfl) ?_
  refine lv_if_ne (tgt := 841) hx hb dL_law_826 (by decide) (fun q => ?_) (fun q => ?_)
  ·
    refine lv_goto (tgt := 2008) hx hb dL_law_841 (by decide) ?_
    exact lfin hkk hsim hJ hS (lv_sub hl [2, 3, 4, 5, 6, 7] rfl) (by decide) (by decide)
  ·
    refine lv_aload_n hx hb dL_law_829 rfl (lv_at hl 4 rfl) ?_
    refine lv_iconst (v := nI 0) hx hb dL_law_830 (by decide) ?_
    have e2 := e1 (hK9.symm.trans (nI_c h4 q))
    refine xlald (q0 := 0) (t0 := 1) hx hb hK.1 hJ.2.2.1 rfl rfl (by decide) (by decide) dL_law_831 ?_
    refine xtopl (y := B9.toInt64) (by rw [hB9]; exact e2) ?_
    refine lv_iload hx hb dL_law_832 (lv_at hl 0 rfl) ?_
    refine lv_i2l (v := B9.toInt64) hx hb dL_law_834 rfl ?_
    refine W.lcmp hx hb dL_law_835 ?_
    refine lv_if_eq (tgt := 841) hx hb dL_law_836 (by decide) (fun _ => ?_) (fun q => absurd ((lg_cmp_eq _ _).mpr rfl) q)
    refine lv_goto (tgt := 2008) hx hb dL_law_841 (by decide) ?_
    exact lfin hkk hsim hJ hS (lv_sub hl [2, 3, 4, 5, 6, 7] rfl) (by decide) (by decide)
