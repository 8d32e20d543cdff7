/-! The law from its entry. -/
theorem pw_in {D : va_G} {cl : List vw_C} {ws ws' : va_W} {H : Heap} (h : ∀ q ∈ ws', q ∈ ws) (hP : va_P D cl ws H) : va_P D cl ws' H := fun k q hk => by
  obtain ⟨i, hi⟩ := List.mem_iff_getElem?.mp (h q (List.mem_of_getElem? hk))
  exact hP i q hi
theorem Ap_of {cs a b : Nat → Nat} {M R : Nat → Nat → Int32} {N : Nat → Int64} {o od z : Nat} {E1 E2 : va_E} (hD : va_D (fun q : Nat => z ≤ q) (((xc cs a M N ++ rc cs b R) ++ [(o, E1)]) ++ [(od, E2)])) : Ap a b o od z := by
  generalize hw : ((xc cs a M N ++ rc cs b R) ++ [(o, E1)]) ++ [(od, E2)] = ws at hD
  have e : ws.map Prod.fst = (((List.range 29).map a ++ (List.range 12).map b) ++ [o]) ++ [od] := by rw [← hw]; rfl
  have at' : ∀ k x, ((((List.range 29).map a ++ (List.range 12).map b) ++ [o]) ++ [od])[k]? = some x → ∃ q : Nat × va_E, ws[k]? = some q ∧ q.1 = x := fun k x hk => by
    rw [← e, List.getElem?_map] at hk
    cases hq : ws[k]? with
    | none => rw [hq] at hk; cases hk
    | some q => rw [hq] at hk; exact ⟨q, hq, Option.some.inj hk⟩
  have ia : ∀ k, k < 29 → ∃ q : Nat × va_E, ws[k]? = some q ∧ q.1 = a k := fun k hk => at' k _ (by
    have l1 : ((List.range 29).map a).length = 29 := by rw [List.length_map, List.length_range]
    have l2 : ((List.range 12).map b).length = 12 := by rw [List.length_map, List.length_range]
    rw [List.getElem?_append_left (by rw [List.length_append, List.length_append, l1, l2]; omega), List.getElem?_append_left (by rw [List.length_append, l1, l2]; omega), List.getElem?_append_left (by rw [l1]; omega), List.getElem?_map, List.getElem?_range hk]
    rfl)
  have ib : ∀ j, j < 12 → ∃ q : Nat × va_E, ws[29 + j]? = some q ∧ q.1 = b j := fun j hj => at' (29 + j) _ (by
    have l1 : ((List.range 29).map a).length = 29 := by rw [List.length_map, List.length_range]
    have l2 : ((List.range 12).map b).length = 12 := by rw [List.length_map, List.length_range]
    rw [List.getElem?_append_left (by rw [List.length_append, List.length_append, l1, l2]; omega), List.getElem?_append_left (by rw [List.length_append, l1, l2]; omega), List.getElem?_append_right (by rw [l1]; omega), l1, Nat.add_sub_cancel_left, List.getElem?_map, List.getElem?_range hj]
    rfl)
  have io : ∃ q : Nat × va_E, ws[41]? = some q ∧ q.1 = o := at' 41 o rfl
  have id' : ∃ q : Nat × va_E, ws[42]? = some q ∧ q.1 = od := at' 42 od rfl
  have key : ∀ (i j x y : Nat), (∃ q : Nat × va_E, ws[i]? = some q ∧ q.1 = x) → (∃ q : Nat × va_E, ws[j]? = some q ∧ q.1 = y) → x = y → i = j := by
    rintro i j x y ⟨q1, h1, e1⟩ ⟨q2, h2, e2⟩ he
    exact hD.1 i j q1 q2 h1 h2 (by rw [e1, e2]; exact he)
  have big : ∀ (i x : Nat), (∃ q : Nat × va_E, ws[i]? = some q ∧ q.1 = x) → z ≤ x := by
    rintro i x ⟨q1, h1, e1⟩
    rw [← e1]
    exact hD.2 i q1 h1
  refine ⟨fun i j hi hj he => key i j _ _ (ia i hi) (ia j hj) he, fun i j hi hj he => ?_, fun k j hk hj he => ?_, fun k hk he => ?_, fun k hk he => ?_, fun j hj he => ?_, fun j hj he => ?_, fun he => ?_, fun k hk => big _ _ (ia k hk), fun j hj => big _ _ (ib j hj), big _ _ io, big _ _ id'⟩
  · have := key _ _ _ _ (ib i hi) (ib j hj) he
    omega
  · have := key _ _ _ _ (ia k hk) (ib j hj) he
    omega
  · have := key _ _ _ _ (ia k hk) io he
    omega
  · have := key _ _ _ _ (ia k hk) id' he
    omega
  · have := key _ _ _ _ (ib j hj) io he
    omega
  · have := key _ _ _ _ (ib j hj) id' he
    omega
  · have := key _ _ _ _ io id' he
    omega
theorem xnewdN {p : Program} {l : Launch} {e : Env} {R : Room} {s : State} {m : MethodId} {args : Array Value} {below : List Frame} {meth : Method} {c : Code} {H H0 : Heap} {locs : List Loc} {cells slots : Nat} {Q : State → Prop} {pc : Nat} {ls : Array Slot} {rest : List Value} {cc : ByteArray} {D : va_G} {cl : List vw_C} {ws : va_W} {A : Nat → Prop} {cs : Nat → ClassId} {n : Nat} (hexec : p.tables.exec = Jvm.exec) (hb : c.code = cc) (harr : (Cond.arrayClass .double).before args s = true) (hK : va_K D cl (ty5 cs) s) (hP : va_P D cl ws H) (hD : va_D A ws) (hS : va_S A H0 H locs) (hA : ∀ q, H0.size ≤ q → A q) (hn : ¬ nI n < 0) (hN : (nI n).toNatClampNeg = n) (hbb : n * componentBytes .double ≤ 536870912) (hcells : cells + 1 ≤ R.cells) (hslots : slots + n ≤ R.slots) (hdg : decode cc pc = .ok (.newarray .double, 2))
    (kk : ∀ (q : Nat) (H1 : Heap), va_P D cl (ws ++ [(q, .inl (cs 4, n, .inr (.inr (.inr (.inl (fun _ => 0))))))]) H1 → va_D A (ws ++ [(q, .inl (cs 4, n, .inr (.inr (.inr (.inl (fun _ => 0))))))]) → va_S A H0 H1 locs → W p l e R s m args below meth c H1 locs (cells + 1) (slots + n) Q (F0 m (pc + 2) ls (.ref q :: rest))) : W p l e R s m args below meth c H locs cells slots Q (F0 m pc ls (.int (nI n) :: rest)) := by
  refine va_newa (atype := .double) (ty := .double) (N' := n) (a0 := (n, .inr (.inr (.inr (.inl (fun _ => 0)))))) hexec hb harr rfl hK hP hD hS hA (fun cA => rfl) hn hN hbb hcells hslots hdg (fun q cA H1 hK2 hP2 hD2 hS2 => ?_)
  have h1 := (hK2.2 5 (cA, .double) rfl).2
  have h2 := (hK2.2 4 (cs 4, .double) rfl).2
  have e : cA = cs 4 := Option.some.inj (h1.symm.trans h2)
  subst e
  exact kk q H1 hP2 hD2 hS2
set_option maxHeartbeats 4000000 in
set_option maxRecDepth 100000 in
theorem whole_start {p : Program} {e : Env} {s : State} {m : MethodId} {below : List Frame} {meth : Method} {c : Code} (l : Launch) (hflags : l.flags = flags0) {b L : Nat} {xs : Nat → Int32} (hL : L ≤ 2560) (C0 : lw_At p s m meth c b L xs) : W p l e room_1 s m #[Value.ref b] below meth c s.heap [] 0 0 (lw_Z below #[Value.ref b] s) (entryFrame m ([Value.ref b] : List Value).toArray 9) := by
  have hl0 : l.stackTraces = false := by unfold Launch.stackTraces; rw [hflags]; decide
  obtain ⟨D, cs, hK⟩ := law_K C0
  obtain ⟨sa, hT⟩ := law_T C0
  obtain ⟨hNc, hZ, hO⟩ := law_Z C0
  obtain ⟨hx, hb, hr, hml, hown, hts0, hX, hbl, hlocks, hgv⟩ := id C0
  have hts : ∀ w ∈ wsL_law, w.before #[Value.ref b] s = true := fun w h => hts0 w (lw_in w h)
  have hb : c.code = cL_law := hb
  have hown : s.vm.findClass RL = some m.cls := hown
  have hA : ∀ q : Nat, s.heap.size ≤ q → (fun q : Nat => s.heap.size ≤ q) q := fun _ h => h
  have hS : va_S (fun q : Nat => s.heap.size ≤ q) s.heap s.heap [] := va_S.rf
  have hP : va_P D vwCl [] s.heap := fun k q h => by simp at h
  have hD : va_D (fun q : Nat => s.heap.size ≤ q) [] := ⟨fun i j p q h => by simp at h, fun k q h => by simp at h⟩
  have hl := lv_entry ([.ref b]) (n := 9) (Nat.le_of_ble_eq_true rfl)
  rw [lg_entry_eq]
  generalize (lg_sl ([.ref b]) ++ List.replicate (9 - (lg_sl ([.ref b])).length) Slot.unset).toArray = ls at hl ⊢
  have hl : lv_has ls 9 [(0, .ref b)] := hl
  refine va_new (ci := 4) (fs := [.null, .null, .null, .null]) (C := RX4) (T := TX4) (N := 4) hx hb hts inlX4 tyX4 tyX4_ok hown (hts0 (Cond.classLink RL 8 RX4) (List.mem_of_getElem? (i := 52) (by decide +kernel))) (hts0 (Cond.instantiable RX4 4) (List.mem_of_getElem? (i := 53) (by decide +kernel))) (hts0 (Cond.initialized RX4) (List.mem_of_getElem? (i := 37) (by decide +kernel))) hK.1 hP hD hS hA rfl (fun j hj => by (rcases (show j = 0 ∨ j = 1 ∨ j = 2 ∨ j = 3 by omega) with rfl | rfl | rfl | rfl) <;> rfl) (Nat.le_of_ble_eq_true rfl) (Nat.le_of_ble_eq_true rfl) dL_law_0 (fun q0 H hP hD hS => ?_)
  have hP : va_P D vwCl [(q0, .inr (4, [.null, .null, .null, .null]))] H := hP
  have hD : va_D (fun q : Nat => s.heap.size ≤ q) [(q0, .inr (4, [.null, .null, .null, .null]))] := hD
  refine lv_dup hx hb dL_law_3 rfl ?_
  have hPc := hP.sub (ws' := [(q0, .inr (4, [.null, .null, .null, .null]))]) [0] rfl
  have hDc := hD.sub (ws' := [(q0, .inr (4, [.null, .null, .null, .null]))]) [0] (by decide) rfl
  have hFc := va_free (wc := [(q0, .inr (4, [.null, .null, .null, .null]))]) hD hS hA [0] rfl
  refine va_callv (va_runI (As := []) (rest := [.ref q0]) ⟨hx, hb, hml, hown, hts⟩ (c_X4_init l D cs q0 H.size) (cwI 0 hts gL_law_X4_init rfl rfl rfl (hts0 (Cond.initialized RX4) (List.mem_of_getElem? (i := 37) (by decide +kernel))) (hts0 (Cond.methodLink RL 104 yX4_init) (List.mem_of_getElem? (i := 54) (by decide +kernel))) (hts0 (Cond.instanceMethod yX4_init) (List.mem_of_getElem? (i := 55) (by decide +kernel))) rfl (by decide +kernel) ⟨(Nat.le_of_ble_eq_true rfl), (Nat.le_of_ble_eq_true rfl)⟩) ⟨fun _ U g mk h => ⟨h.1, h.2.1, h.2.2.1, ⟨va_K.moved (u := U) (U := U.calling g mk _) (Vm.Alike.refl U.vm) h.2.2.2.1.1, h.2.2.2.1.2.same rfl⟩, AOI_moved (u := U) (U := U.calling g mk _) (Vm.Alike.refl U.vm) h.2.2.2.2.1, h.2.2.2.2.2⟩, fun U hU hW => ⟨rfl, by rw [hU], by rw [hU]; exact hPc, hK.warm hW, AOI_moved hW.alike hO, hDc.weaken (fun _ _ _ _ => trivial)⟩⟩ rfl rfl hl.1 rfl (lv_room (Nat.le_of_ble_eq_true rfl)) dL_law_4 ⟨(Nat.le_of_ble_eq_true rfl), (Nat.le_of_ble_eq_true rfl)⟩) hS (fun q _ h => hFc q h) hFc (fun a t H1 locs ht hvm hpost hB hz1 hk1 hS => ?_)
  rw [ht] at hB
  obtain ⟨hP, hDa⟩ := hB
  have hD : va_D (fun q : Nat => s.heap.size ≤ q) (xc cs a M00 N00) := hDa.weaken (fun k q _ h => hFc q.1 h)
  generalize H1 = H at hP hS ⊢
  have hpost : a 0 = q0 := hpost
  rw [← hpost]
  clear hDa hFc hDc hPc hk1 hz1 ht hvm
  refine lv_astore_n (lv' := [(1, .ref (a 0)), (0, .ref b)]) hx hb dL_law_7 rfl hl (by decide) rfl (fun ls hl => ?_)
  refine va_new (ci := 5) (fs := [.int 0, .int 0, .int 0, .null, .null, .int 0, .null, .null, .null, .null, .null, .null, .null, .null, .null]) (C := RX5) (T := TX5) (N := 15) hx hb hts inlX5 tyX5 tyX5_ok hown (hts0 (Cond.classLink RL 105 RX5) (List.mem_of_getElem? (i := 712) (by decide +kernel))) (hts0 (Cond.instantiable RX5 15) (List.mem_of_getElem? (i := 713) (by decide +kernel))) (hts0 (Cond.initialized RX5) (List.mem_of_getElem? (i := 42) (by decide +kernel))) hK.1 hP hD hS hA rfl (fun j hj => by (rcases (show j = 0 ∨ j = 1 ∨ j = 2 ∨ j = 3 ∨ j = 4 ∨ j = 5 ∨ j = 6 ∨ j = 7 ∨ j = 8 ∨ j = 9 ∨ j = 10 ∨ j = 11 ∨ j = 12 ∨ j = 13 ∨ j = 14 by omega) with rfl | rfl | rfl | rfl | rfl | rfl | rfl | rfl | rfl | rfl | rfl | rfl | rfl | rfl | rfl) <;> rfl) (Nat.le_of_ble_eq_true rfl) (Nat.le_of_ble_eq_true rfl) dL_law_8 (fun q1 H hP hD hS => ?_)
  refine lv_dup hx hb dL_law_11 rfl ?_
  have hPc := hP.sub (ws' := [(q1, .inr (5, [.int 0, .int 0, .int 0, .null, .null, .int 0, .null, .null, .null, .null, .null, .null, .null, .null, .null]))]) [29] rfl
  have hDc := hD.sub (ws' := [(q1, .inr (5, [.int 0, .int 0, .int 0, .null, .null, .int 0, .null, .null, .null, .null, .null, .null, .null, .null, .null]))]) [29] (by decide) rfl
  have hFc := va_free (wc := [(q1, .inr (5, [.int 0, .int 0, .int 0, .null, .null, .int 0, .null, .null, .null, .null, .null, .null, .null, .null, .null]))]) hD hS hA [29] rfl
  refine va_callv (va_runI (As := []) (rest := [.ref q1]) ⟨hx, hb, hml, hown, hts⟩ (c_X5_init l D cs q1 H.size) (cwI 0 hts gL_law_X5_init rfl rfl rfl (hts0 (Cond.initialized RX5) (List.mem_of_getElem? (i := 42) (by decide +kernel))) (hts0 (Cond.methodLink RL 107 yX5_init) (List.mem_of_getElem? (i := 714) (by decide +kernel))) (hts0 (Cond.instanceMethod yX5_init) (List.mem_of_getElem? (i := 715) (by decide +kernel))) rfl (by decide +kernel) ⟨(Nat.le_of_ble_eq_true rfl), (Nat.le_of_ble_eq_true rfl)⟩) ⟨fun _ U g mk h => ⟨h.1, h.2.1, h.2.2.1, ⟨va_K.moved (u := U) (U := U.calling g mk _) (Vm.Alike.refl U.vm) h.2.2.2.1.1, h.2.2.2.1.2.same rfl⟩, AOI_moved (u := U) (U := U.calling g mk _) (Vm.Alike.refl U.vm) h.2.2.2.2.1, h.2.2.2.2.2⟩, fun U hU hW => ⟨rfl, by rw [hU], by rw [hU]; exact hPc, hK.warm hW, AOI_moved hW.alike hO, hDc.weaken (fun _ _ _ _ => trivial)⟩⟩ rfl rfl hl.1 rfl (lv_room (Nat.le_of_ble_eq_true rfl)) dL_law_12 ⟨(Nat.le_of_ble_eq_true rfl), (Nat.le_of_ble_eq_true rfl)⟩) hS (fun q _ h => hFc q h) hFc (fun b2 t H1 locs ht hvm hpost hB hz1 hk1 hS => ?_)
  rw [ht] at hB
  have hpost : b2 0 = q1 := hpost
  obtain ⟨hP, hD⟩ := va_join (wr := xc cs a M00 N00) (w1 := rc cs b2 M00) hP hD [29] [0, 1, 2, 3, 4, 5, 6, 7, 8, 9, 10, 11, 12, 13, 14, 15, 16, 17, 18, 19, 20, 21, 22, 23, 24, 25, 26, 27, 28] rfl rfl (by decide) (by decide) hk1 hFc hB.1 hB.2
  generalize H1 = H at hP hS ⊢
  rw [← hpost]
  refine lv_astore_n (lv' := [(2, .ref (b2 0)), (1, .ref (a 0)), (0, .ref b)]) hx hb dL_law_15 rfl hl (by decide) rfl (fun ls hl => ?_)
  refine lv_iconst (v := nI 1) hx hb dL_law_16 (by decide) ?_
  refine xnewlN (n := 1) hx hb (hts0 (Cond.arrayClass .long) (List.mem_of_getElem? (i := 129) (by decide +kernel))) hK.1 hP hD hS hA (by decide) (by decide) (by decide) (Nat.le_of_ble_eq_true rfl) (Nat.le_of_ble_eq_true rfl) dL_law_17 (fun o H hP hD hS => ?_)
  refine lv_astore_n (lv' := [(3, .ref o), (2, .ref (b2 0)), (1, .ref (a 0)), (0, .ref b)]) hx hb dL_law_19 rfl hl (by decide) rfl (fun ls hl => ?_)
  refine lv_iconst (v := nI 1) hx hb dL_law_20 (by decide) ?_
  refine xnewdN (n := 1) hx hb (hts0 (Cond.arrayClass .double) (List.mem_of_getElem? (i := 973) (by decide +kernel))) hK.1 hP hD hS hA (by decide) (by decide) (by decide) (Nat.le_of_ble_eq_true rfl) (Nat.le_of_ble_eq_true rfl) dL_law_21 (fun od H hP hD hS => ?_)
  refine lv_astore (lv' := [(4, .ref od), (3, .ref o), (2, .ref (b2 0)), (1, .ref (a 0)), (0, .ref b)]) hx hb dL_law_23 hl (by decide) rfl (fun ls hl => ?_)
  refine lv_iconst (v := nI 0) hx hb dL_law_25 (by decide) ?_
  refine lv_istore (lv' := [(5, .int (nI 0)), (4, .ref od), (3, .ref o), (2, .ref (b2 0)), (1, .ref (a 0)), (0, .ref b)]) hx hb dL_law_26 hl (by decide) rfl (fun ls hl => ?_)
  have hAp : Ap a b2 o od s.heap.size := Ap_of hD
  have hJ : LJ D cs a b2 o od M00 N00 M00 (fun _ => 0) (fun _ => 0) H := ⟨pw_in (fun q h => List.mem_append_left _ (List.mem_append_left _ (List.mem_append_left _ h))) hP, pw_in (fun q h => List.mem_append_left _ (List.mem_append_left _ (List.mem_append_right _ h))) hP, pw_in (fun q h => List.mem_append_left _ (List.mem_append_right _ h)) hP, pw_in (fun q h => List.mem_append_right _ h) hP⟩
  exact law_loop ⟨C0, hts, hl0, hL, hK, hT, hNc, hZ, hAp⟩ (L + 1) 0 _ _ M00 M00 N00 _ _ H _ ls (Nat.zero_le L) (by omega) (by decide) (by decide) sim_new hJ hS hl
