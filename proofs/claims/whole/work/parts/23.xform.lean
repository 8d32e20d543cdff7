def digA (M : Nat → Nat → Int32) (d : Int64) (j : Nat) : Int64 := fo (fun w d => fo (fun i d => d * 31 + (M (2 + i) w).toInt64) (d * 31 + (M 1 w).toInt64) 4) d j
def digW (M : Nat → Nat → Int32) (n act : Nat) (d : Int64) : Int64 := digA M (d * 31 + (nI n).toInt64) n * 31 + (if n = 0 then (-1 : Int32) else nI act).toInt64
def digF (M : Nat → Nat → Int32) (d : Int64) (j : Nat) : Int64 := fo (fun f d => ((d * 31 + (M 6 f).toInt64) * 31 + (M 10 f).toInt64) * 31 + (M 11 f).toInt64) d j
theorem xg_ms {cs : Nat → ClassId} {a : Nat → Nat} {M : Nat → Nat → Int32} {N : Nat → Int64} {i : Nat} (hi : i = 10 ∨ i = 11) : (xc cs a M N)[3 + i]? = some (a (3 + i), .inl (cs 0, 40, .inl (M (0 + i)))) := by
  rcases hi with rfl | rfl <;> rfl
def mx (x y : Int32) : Int32 := if x < y then y else x
/-- what a part has, 0 where there is none -/
def ptv (f : Nat → Int32) (x : Int32) : Int32 := if x = -1 then nI 0 else f x.toNatClampNeg
def ndv (f : Nat → Int64) (x : Int32) : Int64 := if x = -1 then 0 else f x.toNatClampNeg
theorem ptv_at {f : Nat → Int32} {x : Int32} {k : Nat} (h : x = nI k) (hk : k < 40) : ptv f x = f k := by
  subst h
  unfold ptv
  rw [if_neg (fun e => absurd (show nI k < 0 by rw [e]; decide) (nI_pos (by omega))), nI_clamp (by omega)]
theorem ndv_at {f : Nat → Int64} {x : Int32} {k : Nat} (h : x = nI k) (hk : k < 40) : ndv f x = f k := by
  subst h
  unfold ndv
  rw [if_neg (fun e => absurd (show nI k < 0 by rw [e]; decide) (nI_pos (by omega))), nI_clamp (by omega)]
/-- a part of a formula below nf, or none -/
def isPt (nf : Nat) (x : Int32) : Prop := x = -1 ∨ ∃ k, k < nf ∧ x = nI k

set_option maxHeartbeats 4000000 in
set_option maxRecDepth 100000 in
theorem c_X3_addTo (l : Launch) (D : va_G) (cs : Nat → ClassId) (a : Nat → Nat) (M : Nat → Nat → Int32) (N : Nat → Int64)  (n : Nat) (act : Nat) (d : Int64) (hn : M 0 0 = nI n) (hn24 : n ≤ 24) (hact : M 0 1 = nI act) : Met l yX3_addTo wsX3_addTo ({ frames := 1, cells := 0, slots := 0, locals := 22 } : Room) (va_Pc [.ref (a 1), .long d] (XB D cs (xc cs a M N))) (va_Ql (fun r (_ : Unit) => r = digW M n act d) (fun _ _ => True) (fun _ => False)) 0 0 (fun _ => False) := by
  refine Met.ofW (cc := cX3_addTo) (maxL := 7) (ret := (some .long)) (by decide) rfl ?_
  intro p e s m args below meth c s₁ B hml hv
  obtain ⟨rfl, hP, hK⟩ := hv
  have hx := B.exec
  have hb := B.bytes
  have hr := B.returns
  have hts := atoms_spec (ws := wsX3_addTo) B.pre
  have hown : s.vm.findClass RX3 = some m.cls := findClass_of_methodNamed B.named
  have hlocks := B.notSynchronized
  have hK1 := hK.1
  have hinX3 : ∀ w ∈ wsX30, w ∈ wsX3_addTo := fun w h => List.mem_cons_of_mem _ (List.mem_append_right _ h)
  have hS : va_S (fun _ => False) s.heap s.heap [] := va_S.rf
  have hl := lv_entry ([.ref (a 1), .long d]) (n := 7) (Nat.le_of_ble_eq_true rfl)
  rw [lg_entry_eq]
  generalize (lg_sl ([.ref (a 1), .long d]) ++ List.replicate (7 - (lg_sl ([.ref (a 1), .long d])).length) Slot.unset).toArray = ls at hl ⊢
  have hl : lv_has ls 7 [(0, .ref (a 1)), (1, .long d)] := hl
  refine W_Q (fun Q hQ => ?_)
  show W p l e ({ frames := 1, cells := 0, slots := 0, locals := 22 } : Room) s m ([.ref (a 1), .long d] : List Value).toArray below meth c s.heap [] 0 0 Q (F0 m 0 ls [])
  refine lv_lload_n hx hb dX3_addTo_0 rfl (lv_at hl 1 rfl) ?_
  refine lv_aload_n hx hb dX3_addTo_1 rfl (lv_at hl 0 rfl) ?_
  refine va_get (D := D) (ci := 3) (v := .int (M 0 0)) (C := RX3) (T := TX3) (N := 4) hx hb hts hinX3 hown hK1 hP 1 rfl rfl 2 (by decide) (hts (.fieldLink RX3 20 "KnowledgeModel$Worlds" "count" "I") (List.mem_of_getElem? (i := 1) rfl)) (fun _ h9 => h9) rfl dX3_addTo_2 ?_
  refine xtop (y := nI n) (hn) ?_
  refine xcalll (va_runSN (As := [.long d, .int (nI n)]) (rest := []) ⟨hx, hb, hml, hown, hts⟩ (c_X4_mixed l d (nI n)) ⟨va_cnB 2 hts gX3_addTo_X4_mixed_n69 rfl rfl rfl hK.2.2.2.2.2.2.2.2.2.2 (hts (.initialized RX4) (List.mem_of_getElem? (i := 6) rfl)) (by decide +kernel) ⟨Nat.le_of_ble_eq_true rfl, Nat.le_of_ble_eq_true rfl⟩, hts (.static yX4_mixed) (List.mem_of_getElem? (i := 5) rfl), trivial⟩ xpreN rfl rfl hl.1 rfl (lv_room (Nat.le_of_ble_eq_true rfl)) dX3_addTo_5 ⟨Nat.le_of_ble_eq_true rfl, Nat.le_of_ble_eq_true rfl⟩) hS hP (fun H locs hP hS => ?_)
  refine lv_lstore_n (lv' := [(3, .long (d * 31 + (nI n).toInt64)), (0, .ref (a 1)), (1, .long d)]) hx hb dX3_addTo_8 rfl hl (by decide) rfl (fun ls hl => ?_)
  refine lv_iconst (v := (nI 0)) hx hb dX3_addTo_9 (by decide) ?_
  refine lv_istore (lv' := [(5, .int (nI 0)), (3, .long (d * 31 + (nI n).toInt64)), (0, .ref (a 1)), (1, .long d)]) hx hb dX3_addTo_10 hl (by decide) rfl (fun ls hl => ?_)
  have cut12 : ∀ (f12 : Nat) (j : Nat) (hj : j ≤ n), n + 1 ≤ j + f12 → ∀ (H : Heap) (locs : List Loc), va_P D vwCl (xc cs a M N) H → va_S (fun _ => False) s.heap H locs → ∀ (ls : Array Slot), lv_has ls 7 [(0, .ref (a 1)), (1, .long d), (3, .long (digA M (d * 31 + (nI n).toInt64) j)), (5, .int (nI j))] → W p l e ({ frames := 1, cells := 0, slots := 0, locals := 22 } : Room) s m ([.ref (a 1), .long d] : List Value).toArray below meth c H locs 0 0 Q (F0 m 12 ls []) := by
    intro f12
    induction f12 with
    | zero => intro j hj hfu12; exact absurd hfu12 (by omega)
    | succ f12 cut12 =>
      intro j hj hfu12 H locs hP hS ls hl
      refine lv_iload hx hb dX3_addTo_12 (lv_at hl 3 rfl) ?_
      refine lv_aload_n hx hb dX3_addTo_14 rfl (lv_at hl 0 rfl) ?_
      refine va_get (D := D) (ci := 3) (v := .int (M 0 0)) (C := RX3) (T := TX3) (N := 4) hx hb hts hinX3 hown hK1 hP 1 rfl rfl 2 (by decide) (hts (.fieldLink RX3 20 "KnowledgeModel$Worlds" "count" "I") (List.mem_of_getElem? (i := 1) rfl)) (fun _ h9 => h9) rfl dX3_addTo_15 ?_
      refine xtop (y := nI n) (hn) ?_
      refine lv_icmp_ge (tgt := 69) hx hb dX3_addTo_18 (by decide) (fun c18 => ?_) (fun c18 => ?_)
      ·
        replace c18 : n ≤ j := k_get c18 (by omega) (by omega)
        refine lv_lload_n hx hb dX3_addTo_69 rfl (lv_at hl 2 rfl) ?_
        refine lv_aload_n hx hb dX3_addTo_70 rfl (lv_at hl 0 rfl) ?_
        refine va_get (D := D) (ci := 3) (v := .int (M 0 0)) (C := RX3) (T := TX3) (N := 4) hx hb hts hinX3 hown hK1 hP 1 rfl rfl 2 (by decide) (hts (.fieldLink RX3 20 "KnowledgeModel$Worlds" "count" "I") (List.mem_of_getElem? (i := 1) rfl)) (fun _ h9 => h9) rfl dX3_addTo_71 ?_
        refine xtop (y := nI n) (hn) ?_
        refine lv_if_ne (tgt := 81) hx hb dX3_addTo_74 (by decide) (fun c74 => ?_) (fun c74 => ?_)
        ·
          replace c74 : ¬ n = 0 := k0_net c74 (by omega)
          refine lv_aload_n hx hb dX3_addTo_81 rfl (lv_at hl 0 rfl) ?_
          refine va_get (D := D) (ci := 3) (v := .int (M 0 1)) (C := RX3) (T := TX3) (N := 4) hx hb hts hinX3 hown hK1 hP 1 rfl rfl 3 (by decide) (hts (.fieldLink RX3 24 "KnowledgeModel$Worlds" "actualWorld" "I") (List.mem_of_getElem? (i := 4) rfl)) (fun _ h9 => h9) rfl dX3_addTo_82 ?_
          refine xtop (y := nI act) (hact) ?_
          refine xcalll (va_runSN (As := [.long (digA M (d * 31 + (nI n).toInt64) j), .int (nI act)]) (rest := []) ⟨hx, hb, hml, hown, hts⟩ (c_X4_mixed l (digA M (d * 31 + (nI n).toInt64) j) (nI act)) ⟨va_cnB 2 hts gX3_addTo_X4_mixed_n69 rfl rfl rfl hK.2.2.2.2.2.2.2.2.2.2 (hts (.initialized RX4) (List.mem_of_getElem? (i := 6) rfl)) (by decide +kernel) ⟨Nat.le_of_ble_eq_true rfl, Nat.le_of_ble_eq_true rfl⟩, hts (.static yX4_mixed) (List.mem_of_getElem? (i := 5) rfl), trivial⟩ xpreN rfl rfl hl.1 rfl (lv_room (Nat.le_of_ble_eq_true rfl)) dX3_addTo_85 ⟨Nat.le_of_ble_eq_true rfl, Nat.le_of_ble_eq_true rfl⟩) hS hP (fun H locs hP hS => ?_)
          subst hQ
          have hfin : ((digA M (d * 31 + (nI n).toInt64) j) * 31 + (nI act).toInt64) = digW M n act d := by (have hje : j = n := by omega); subst hje; simp only [digW]; first | rw [if_pos c74] | rw [if_neg c74]
          exact W.lret hx hb hr (fun t ht hW => ⟨⟨_, (), rfl, hfin, trivial⟩, hS.F ht⟩) hS.2.2 dX3_addTo_88
        ·
          replace c74 : n = 0 := k0_nef c74 (by omega)
          refine lv_iconst (v := (-1 : Int32)) hx hb dX3_addTo_77 (by decide) ?_
          refine lv_goto (tgt := 85) hx hb dX3_addTo_78 (by decide) ?_
          refine xcalll (va_runSN (As := [.long (digA M (d * 31 + (nI n).toInt64) j), .int (-1 : Int32)]) (rest := []) ⟨hx, hb, hml, hown, hts⟩ (c_X4_mixed l (digA M (d * 31 + (nI n).toInt64) j) (-1 : Int32)) ⟨va_cnB 2 hts gX3_addTo_X4_mixed_n69 rfl rfl rfl hK.2.2.2.2.2.2.2.2.2.2 (hts (.initialized RX4) (List.mem_of_getElem? (i := 6) rfl)) (by decide +kernel) ⟨Nat.le_of_ble_eq_true rfl, Nat.le_of_ble_eq_true rfl⟩, hts (.static yX4_mixed) (List.mem_of_getElem? (i := 5) rfl), trivial⟩ xpreN rfl rfl hl.1 rfl (lv_room (Nat.le_of_ble_eq_true rfl)) dX3_addTo_85 ⟨Nat.le_of_ble_eq_true rfl, Nat.le_of_ble_eq_true rfl⟩) hS hP (fun H locs hP hS => ?_)
          subst hQ
          have hfin : ((digA M (d * 31 + (nI n).toInt64) j) * 31 + (-1 : Int32).toInt64) = digW M n act d := by (have hje : j = n := by omega); subst hje; simp only [digW]; first | rw [if_pos c74] | rw [if_neg c74]
          exact W.lret hx hb hr (fun t ht hW => ⟨⟨_, (), rfl, hfin, trivial⟩, hS.F ht⟩) hS.2.2 dX3_addTo_88
      ·
        replace c18 : j < n := k_gef c18 (by omega) (by omega)
        refine lv_lload_n hx hb dX3_addTo_21 rfl (lv_at hl 2 rfl) ?_
        refine lv_aload_n hx hb dX3_addTo_22 rfl (lv_at hl 0 rfl) ?_
        refine va_get (D := D) (ci := 3) (v := .ref (a 2)) (C := RX3) (T := TX3) (N := 4) hx hb hts hinX3 hown hK1 hP 1 rfl rfl 0 (by decide) (hts (.fieldLink RX3 9 "KnowledgeModel$Worlds" "atomsAt" "[I") (List.mem_of_getElem? (i := 2) rfl)) (fun _ h9 => h9) rfl dX3_addTo_23 ?_
        refine lv_iload hx hb dX3_addTo_26 (lv_at hl 3 rfl) ?_
        refine xiald (j := j) (q0 := 2) (t0 := 0) hx hb hK1 hP rfl rfl (by omega) (by decide) dX3_addTo_28 ?_
        refine xcalll (va_runSN (As := [.long (digA M (d * 31 + (nI n).toInt64) j), .int (M 1 j)]) (rest := []) ⟨hx, hb, hml, hown, hts⟩ (c_X4_mixed l (digA M (d * 31 + (nI n).toInt64) j) (M 1 j)) ⟨va_cnB 2 hts gX3_addTo_X4_mixed_n69 rfl rfl rfl hK.2.2.2.2.2.2.2.2.2.2 (hts (.initialized RX4) (List.mem_of_getElem? (i := 6) rfl)) (by decide +kernel) ⟨Nat.le_of_ble_eq_true rfl, Nat.le_of_ble_eq_true rfl⟩, hts (.static yX4_mixed) (List.mem_of_getElem? (i := 5) rfl), trivial⟩ xpreN rfl rfl hl.1 rfl (lv_room (Nat.le_of_ble_eq_true rfl)) dX3_addTo_29 ⟨Nat.le_of_ble_eq_true rfl, Nat.le_of_ble_eq_true rfl⟩) hS hP (fun H locs hP hS => ?_)
        refine lv_lstore_n (lv' := [(3, .long ((digA M (d * 31 + (nI n).toInt64) j) * 31 + (M 1 j).toInt64)), (0, .ref (a 1)), (1, .long d), (5, .int (nI j))]) hx hb dX3_addTo_32 rfl hl (by decide) rfl (fun ls hl => ?_)
        refine lv_iconst (v := (nI 0)) hx hb dX3_addTo_33 (by decide) ?_
        refine lv_istore (lv' := [(6, .int (nI 0)), (3, .long ((digA M (d * 31 + (nI n).toInt64) j) * 31 + (M 1 j).toInt64)), (0, .ref (a 1)), (1, .long d), (5, .int (nI j))]) hx hb dX3_addTo_34 hl (by decide) rfl (fun ls hl => ?_)
        have cut36 : ∀ (f36 : Nat) (q : Nat) (hq : q ≤ 4), 4 + 1 ≤ q + f36 → ∀ (H : Heap) (locs : List Loc), va_P D vwCl (xc cs a M N) H → va_S (fun _ => False) s.heap H locs → ∀ (ls : Array Slot), lv_has ls 7 [(0, .ref (a 1)), (1, .long d), (3, .long (fo (fun i d => d * 31 + (M (2 + i) j).toInt64) (digA M (d * 31 + (nI n).toInt64) j * 31 + (M 1 j).toInt64) q)), (5, .int (nI j)), (6, .int (nI q))] → W p l e ({ frames := 1, cells := 0, slots := 0, locals := 22 } : Room) s m ([.ref (a 1), .long d] : List Value).toArray below meth c H locs 0 0 Q (F0 m 36 ls []) := by
          intro f36
          induction f36 with
          | zero => intro q hq hfu36; exact absurd hfu36 (by omega)
          | succ f36 cut36 =>
            intro q hq hfu36 H locs hP hS ls hl
            refine lv_iload hx hb dX3_addTo_36 (lv_at hl 4 rfl) ?_
            refine lv_iconst (v := (nI 4)) hx hb dX3_addTo_38 (by decide) ?_
            refine lv_icmp_ge (tgt := 63) hx hb dX3_addTo_39 (by decide) (fun c39 => ?_) (fun c39 => ?_)
            ·
              replace c39 : 4 ≤ q := k_get c39 (by omega) (by omega)
              refine lv_iinc (v := (nI (j + 1))) (lv' := [(5, .int (nI (j + 1))), (0, .ref (a 1)), (1, .long d), (3, .long (fo (fun i d => d * 31 + (M (2 + i) j).toInt64) (digA M (d * 31 + (nI n).toInt64) j * 31 + (M 1 j).toInt64) q)), (6, .int (nI q))]) hx hb dX3_addTo_63 hl (k := 3) rfl (nI_add j 1) (by decide) rfl (fun ls hl => ?_)
              refine lv_goto (tgt := 12) hx hb dX3_addTo_66 (by decide) ?_
              have e_1 : (fo (fun i d => d * 31 + (M (2 + i) j).toInt64) (digA M (d * 31 + (nI n).toInt64) j * 31 + (M 1 j).toInt64) q) = (digA M (d * 31 + (nI n).toInt64) (j + 1)) := by (have hqe : q = 4 := by omega); subst hqe; rfl
              exact cut12 (j + 1) (by omega) (by omega) _ _ hP hS ls (lcons (lcons (lcons (lcons (lzero hl) hl 0 rfl rfl) hl 3 rfl (congrArg Value.long e_1)) hl 2 rfl rfl) hl 1 rfl rfl)
            ·
              replace c39 : q < 4 := k_gef c39 (by omega) (by omega)
              refine lv_lload_n hx hb dX3_addTo_42 rfl (lv_at hl 2 rfl) ?_
              refine lv_aload_n hx hb dX3_addTo_43 rfl (lv_at hl 0 rfl) ?_
              refine va_get (D := D) (ci := 3) (v := .ref (a 3)) (C := RX3) (T := TX3) (N := 4) hx hb hts hinX3 hown hK1 hP 1 rfl rfl 1 (by decide) (hts (.fieldLink RX3 17 "KnowledgeModel$Worlds" "arrows" "[[I") (List.mem_of_getElem? (i := 3) rfl)) (fun _ h9 => h9) rfl dX3_addTo_44 ?_
              refine lv_iload hx hb dX3_addTo_47 (lv_at hl 4 rfl) ?_
              refine xaald (j := q) (q0 := 3) (t0 := 2) (f := fun i => a (4 + i)) hx hb hK1 hP rfl rfl (by omega) (by decide) dX3_addTo_49 ?_
              refine lv_iload hx hb dX3_addTo_50 (lv_at hl 3 rfl) ?_
              refine xiald (j := j) (q0 := (4 + q)) (t0 := 0) hx hb hK1 hP (xg_ar (by omega)) rfl (by omega) (by decide) dX3_addTo_52 ?_
              refine xcalll (va_runSN (As := [.long (fo (fun i d => d * 31 + (M (2 + i) j).toInt64) (digA M (d * 31 + (nI n).toInt64) j * 31 + (M 1 j).toInt64) q), .int (M (2 + q) j)]) (rest := []) ⟨hx, hb, hml, hown, hts⟩ (c_X4_mixed l (fo (fun i d => d * 31 + (M (2 + i) j).toInt64) (digA M (d * 31 + (nI n).toInt64) j * 31 + (M 1 j).toInt64) q) (M (2 + q) j)) ⟨va_cnB 2 hts gX3_addTo_X4_mixed_n69 rfl rfl rfl hK.2.2.2.2.2.2.2.2.2.2 (hts (.initialized RX4) (List.mem_of_getElem? (i := 6) rfl)) (by decide +kernel) ⟨Nat.le_of_ble_eq_true rfl, Nat.le_of_ble_eq_true rfl⟩, hts (.static yX4_mixed) (List.mem_of_getElem? (i := 5) rfl), trivial⟩ xpreN rfl rfl hl.1 rfl (lv_room (Nat.le_of_ble_eq_true rfl)) dX3_addTo_53 ⟨Nat.le_of_ble_eq_true rfl, Nat.le_of_ble_eq_true rfl⟩) hS hP (fun H locs hP hS => ?_)
              refine lv_lstore_n (lv' := [(3, .long ((fo (fun i d => d * 31 + (M (2 + i) j).toInt64) (digA M (d * 31 + (nI n).toInt64) j * 31 + (M 1 j).toInt64) q) * 31 + (M (2 + q) j).toInt64)), (0, .ref (a 1)), (1, .long d), (5, .int (nI j)), (6, .int (nI q))]) hx hb dX3_addTo_56 rfl hl (by decide) rfl (fun ls hl => ?_)
              refine lv_iinc (v := (nI (q + 1))) (lv' := [(6, .int (nI (q + 1))), (3, .long ((fo (fun i d => d * 31 + (M (2 + i) j).toInt64) (digA M (d * 31 + (nI n).toInt64) j * 31 + (M 1 j).toInt64) q) * 31 + (M (2 + q) j).toInt64)), (0, .ref (a 1)), (1, .long d), (5, .int (nI j))]) hx hb dX3_addTo_57 hl (k := 4) rfl (nI_add q 1) (by decide) rfl (fun ls hl => ?_)
              refine lv_goto (tgt := 36) hx hb dX3_addTo_60 (by decide) ?_
              have e_2 : ((fo (fun i d => d * 31 + (M (2 + i) j).toInt64) (digA M (d * 31 + (nI n).toInt64) j * 31 + (M 1 j).toInt64) q) * 31 + (M (2 + q) j).toInt64) = (fo (fun i d => d * 31 + (M (2 + i) j).toInt64) (digA M (d * 31 + (nI n).toInt64) j * 31 + (M 1 j).toInt64) (q + 1)) := by rfl
              exact cut36 (q + 1) (by omega) (by omega) _ _ hP hS ls (lcons (lcons (lcons (lcons (lcons (lzero hl) hl 0 rfl rfl) hl 4 rfl rfl) hl 1 rfl (congrArg Value.long e_2)) hl 3 rfl rfl) hl 2 rfl rfl)
        have e_3 : ((digA M (d * 31 + (nI n).toInt64) j) * 31 + (M 1 j).toInt64) = (fo (fun i d => d * 31 + (M (2 + i) j).toInt64) (digA M (d * 31 + (nI n).toInt64) j * 31 + (M 1 j).toInt64) 0) := by rfl
        exact cut36 (4 + 1) 0 (by omega) (by omega) _ _ hP hS ls (lcons (lcons (lcons (lcons (lcons (lzero hl) hl 0 rfl rfl) hl 4 rfl rfl) hl 1 rfl (congrArg Value.long e_3)) hl 3 rfl rfl) hl 2 rfl rfl)
  have e_4 : (d * 31 + (nI n).toInt64) = (digA M (d * 31 + (nI n).toInt64) 0) := by rfl
  exact cut12 (n + 1) 0 (by omega) (by omega) _ _ hP hS ls (lcons (lcons (lcons (lcons (lzero hl) hl 0 rfl rfl) hl 1 rfl (congrArg Value.long e_4)) hl 3 rfl rfl) hl 2 rfl rfl)

set_option maxHeartbeats 4000000 in
set_option maxRecDepth 100000 in
theorem c_X0_addTo (l : Launch) (D : va_G) (cs : Nat → ClassId) (a : Nat → Nat) (M : Nat → Nat → Int32) (N : Nat → Int64)  (nf : Nat) (d : Int64) (hfc : M 0 2 = nI nf) (hf40 : nf ≤ 40) : Met l yX0_addTo wsX0_addTo ({ frames := 1, cells := 0, slots := 0, locals := 22 } : Room) (va_Pc [.ref (a 8), .long d] (XB D cs (xc cs a M N))) (va_Ql (fun r (_ : Unit) => r = digF M (d * 31 + (nI nf).toInt64) nf) (fun _ _ => True) (fun _ => False)) 0 0 (fun _ => False) := by
  refine Met.ofW (cc := cX0_addTo) (maxL := 6) (ret := (some .long)) (by decide) rfl ?_
  intro p e s m args below meth c s₁ B hml hv
  obtain ⟨rfl, hP, hK⟩ := hv
  have hx := B.exec
  have hb := B.bytes
  have hr := B.returns
  have hts := atoms_spec (ws := wsX0_addTo) B.pre
  have hown : s.vm.findClass RX0 = some m.cls := findClass_of_methodNamed B.named
  have hlocks := B.notSynchronized
  have hK1 := hK.1
  have hinX0 : ∀ w ∈ wsX00, w ∈ wsX0_addTo := fun w h => List.mem_cons_of_mem _ (List.mem_append_right _ h)
  have hS : va_S (fun _ => False) s.heap s.heap [] := va_S.rf
  have hl := lv_entry ([.ref (a 8), .long d]) (n := 6) (Nat.le_of_ble_eq_true rfl)
  rw [lg_entry_eq]
  generalize (lg_sl ([.ref (a 8), .long d]) ++ List.replicate (6 - (lg_sl ([.ref (a 8), .long d])).length) Slot.unset).toArray = ls at hl ⊢
  have hl : lv_has ls 6 [(0, .ref (a 8)), (1, .long d)] := hl
  refine W_Q (fun Q hQ => ?_)
  show W p l e ({ frames := 1, cells := 0, slots := 0, locals := 22 } : Room) s m ([.ref (a 8), .long d] : List Value).toArray below meth c s.heap [] 0 0 Q (F0 m 0 ls [])
  refine lv_lload_n hx hb dX0_addTo_0 rfl (lv_at hl 1 rfl) ?_
  refine lv_aload_n hx hb dX0_addTo_1 rfl (lv_at hl 0 rfl) ?_
  refine va_get (D := D) (ci := 0) (v := .int (M 0 2)) (C := RX0) (T := TX0) (N := 8) hx hb hts hinX0 hown hK1 hP 8 rfl rfl 7 (by decide) (hts (.fieldLink RX0 34 "KnowledgeModel$Formulas" "count" "I") (List.mem_of_getElem? (i := 1) rfl)) (fun _ h9 => h9) rfl dX0_addTo_2 ?_
  refine xtop (y := nI nf) (hfc) ?_
  refine xcalll (va_runSN (As := [.long d, .int (nI nf)]) (rest := []) ⟨hx, hb, hml, hown, hts⟩ (c_X4_mixed l d (nI nf)) ⟨va_cnB 2 hts gX0_addTo_X4_mixed_n52 rfl rfl rfl hK.2.1 (hts (.initialized RX4) (List.mem_of_getElem? (i := 6) rfl)) (by decide +kernel) ⟨Nat.le_of_ble_eq_true rfl, Nat.le_of_ble_eq_true rfl⟩, hts (.static yX4_mixed) (List.mem_of_getElem? (i := 5) rfl), trivial⟩ xpreN rfl rfl hl.1 rfl (lv_room (Nat.le_of_ble_eq_true rfl)) dX0_addTo_5 ⟨Nat.le_of_ble_eq_true rfl, Nat.le_of_ble_eq_true rfl⟩) hS hP (fun H locs hP hS => ?_)
  refine lv_lstore_n (lv' := [(3, .long (d * 31 + (nI nf).toInt64)), (0, .ref (a 8)), (1, .long d)]) hx hb dX0_addTo_8 rfl hl (by decide) rfl (fun ls hl => ?_)
  refine lv_iconst (v := (nI 0)) hx hb dX0_addTo_9 (by decide) ?_
  refine lv_istore (lv' := [(5, .int (nI 0)), (3, .long (d * 31 + (nI nf).toInt64)), (0, .ref (a 8)), (1, .long d)]) hx hb dX0_addTo_10 hl (by decide) rfl (fun ls hl => ?_)
  have cut12 : ∀ (f12 : Nat) (j : Nat) (hj : j ≤ nf), nf + 1 ≤ j + f12 → ∀ (H : Heap) (locs : List Loc), va_P D vwCl (xc cs a M N) H → va_S (fun _ => False) s.heap H locs → ∀ (ls : Array Slot), lv_has ls 6 [(0, .ref (a 8)), (1, .long d), (3, .long (digF M (d * 31 + (nI nf).toInt64) j)), (5, .int (nI j))] → W p l e ({ frames := 1, cells := 0, slots := 0, locals := 22 } : Room) s m ([.ref (a 8), .long d] : List Value).toArray below meth c H locs 0 0 Q (F0 m 12 ls []) := by
    intro f12
    induction f12 with
    | zero => intro j hj hfu12; exact absurd hfu12 (by omega)
    | succ f12 cut12 =>
      intro j hj hfu12 H locs hP hS ls hl
      refine lv_iload hx hb dX0_addTo_12 (lv_at hl 3 rfl) ?_
      refine lv_aload_n hx hb dX0_addTo_14 rfl (lv_at hl 0 rfl) ?_
      refine va_get (D := D) (ci := 0) (v := .int (M 0 2)) (C := RX0) (T := TX0) (N := 8) hx hb hts hinX0 hown hK1 hP 8 rfl rfl 7 (by decide) (hts (.fieldLink RX0 34 "KnowledgeModel$Formulas" "count" "I") (List.mem_of_getElem? (i := 1) rfl)) (fun _ h9 => h9) rfl dX0_addTo_15 ?_
      refine xtop (y := nI nf) (hfc) ?_
      refine lv_icmp_ge (tgt := 63) hx hb dX0_addTo_18 (by decide) (fun c18 => ?_) (fun c18 => ?_)
      ·
        replace c18 : nf ≤ j := k_get c18 (by omega) (by omega)
        refine lv_lload_n hx hb dX0_addTo_63 rfl (lv_at hl 2 rfl) ?_
        subst hQ
        have hfin : (digF M (d * 31 + (nI nf).toInt64) j) = digF M (d * 31 + (nI nf).toInt64) nf := by (have hje : j = nf := by omega); subst hje; rfl
        exact W.lret hx hb hr (fun t ht hW => ⟨⟨_, (), rfl, hfin, trivial⟩, hS.F ht⟩) hS.2.2 dX0_addTo_64
      ·
        replace c18 : j < nf := k_gef c18 (by omega) (by omega)
        refine lv_lload_n hx hb dX0_addTo_21 rfl (lv_at hl 2 rfl) ?_
        refine lv_aload_n hx hb dX0_addTo_22 rfl (lv_at hl 0 rfl) ?_
        refine va_get (D := D) (ci := 0) (v := .ref (a 9)) (C := RX0) (T := TX0) (N := 8) hx hb hts hinX0 hown hK1 hP 8 rfl rfl 0 (by decide) (hts (.fieldLink RX0 9 "KnowledgeModel$Formulas" "kindOf" "[I") (List.mem_of_getElem? (i := 2) rfl)) (fun _ h9 => h9) rfl dX0_addTo_23 ?_
        refine lv_iload hx hb dX0_addTo_26 (lv_at hl 3 rfl) ?_
        refine xiald (j := j) (q0 := 9) (t0 := 0) hx hb hK1 hP rfl rfl (by omega) (by decide) dX0_addTo_28 ?_
        refine xcalll (va_runSN (As := [.long (digF M (d * 31 + (nI nf).toInt64) j), .int (M 6 j)]) (rest := []) ⟨hx, hb, hml, hown, hts⟩ (c_X4_mixed l (digF M (d * 31 + (nI nf).toInt64) j) (M 6 j)) ⟨va_cnB 2 hts gX0_addTo_X4_mixed_n52 rfl rfl rfl hK.2.1 (hts (.initialized RX4) (List.mem_of_getElem? (i := 6) rfl)) (by decide +kernel) ⟨Nat.le_of_ble_eq_true rfl, Nat.le_of_ble_eq_true rfl⟩, hts (.static yX4_mixed) (List.mem_of_getElem? (i := 5) rfl), trivial⟩ xpreN rfl rfl hl.1 rfl (lv_room (Nat.le_of_ble_eq_true rfl)) dX0_addTo_29 ⟨Nat.le_of_ble_eq_true rfl, Nat.le_of_ble_eq_true rfl⟩) hS hP (fun H locs hP hS => ?_)
        refine lv_lstore_n (lv' := [(3, .long ((digF M (d * 31 + (nI nf).toInt64) j) * 31 + (M 6 j).toInt64)), (0, .ref (a 8)), (1, .long d), (5, .int (nI j))]) hx hb dX0_addTo_32 rfl hl (by decide) rfl (fun ls hl => ?_)
        refine lv_lload_n hx hb dX0_addTo_33 rfl (lv_at hl 0 rfl) ?_
        refine lv_aload_n hx hb dX0_addTo_34 rfl (lv_at hl 1 rfl) ?_
        refine va_get (D := D) (ci := 0) (v := .ref (a 13)) (C := RX0) (T := TX0) (N := 8) hx hb hts hinX0 hown hK1 hP 8 rfl rfl 4 (by decide) (hts (.fieldLink RX0 24 "KnowledgeModel$Formulas" "depthOf" "[I") (List.mem_of_getElem? (i := 3) rfl)) (fun _ h9 => h9) rfl dX0_addTo_35 ?_
        refine lv_iload hx hb dX0_addTo_38 (lv_at hl 3 rfl) ?_
        refine xiald (j := j) (q0 := 13) (t0 := 0) hx hb hK1 hP rfl rfl (by omega) (by decide) dX0_addTo_40 ?_
        refine xcalll (va_runSN (As := [.long ((digF M (d * 31 + (nI nf).toInt64) j) * 31 + (M 6 j).toInt64), .int (M 10 j)]) (rest := []) ⟨hx, hb, hml, hown, hts⟩ (c_X4_mixed l ((digF M (d * 31 + (nI nf).toInt64) j) * 31 + (M 6 j).toInt64) (M 10 j)) ⟨va_cnB 2 hts gX0_addTo_X4_mixed_n52 rfl rfl rfl hK.2.1 (hts (.initialized RX4) (List.mem_of_getElem? (i := 6) rfl)) (by decide +kernel) ⟨Nat.le_of_ble_eq_true rfl, Nat.le_of_ble_eq_true rfl⟩, hts (.static yX4_mixed) (List.mem_of_getElem? (i := 5) rfl), trivial⟩ xpreN rfl rfl hl.1 rfl (lv_room (Nat.le_of_ble_eq_true rfl)) dX0_addTo_41 ⟨Nat.le_of_ble_eq_true rfl, Nat.le_of_ble_eq_true rfl⟩) hS hP (fun H locs hP hS => ?_)
        refine lv_lstore_n (lv' := [(3, .long (((digF M (d * 31 + (nI nf).toInt64) j) * 31 + (M 6 j).toInt64) * 31 + (M 10 j).toInt64)), (0, .ref (a 8)), (1, .long d), (5, .int (nI j))]) hx hb dX0_addTo_44 rfl hl (by decide) rfl (fun ls hl => ?_)
        refine lv_lload_n hx hb dX0_addTo_45 rfl (lv_at hl 0 rfl) ?_
        refine lv_aload_n hx hb dX0_addTo_46 rfl (lv_at hl 1 rfl) ?_
        refine va_get (D := D) (ci := 0) (v := .ref (a 14)) (C := RX0) (T := TX0) (N := 8) hx hb hts hinX0 hown hK1 hP 8 rfl rfl 5 (by decide) (hts (.fieldLink RX0 27 "KnowledgeModel$Formulas" "nestingOf" "[I") (List.mem_of_getElem? (i := 4) rfl)) (fun _ h9 => h9) rfl dX0_addTo_47 ?_
        refine lv_iload hx hb dX0_addTo_50 (lv_at hl 3 rfl) ?_
        refine xiald (j := j) (q0 := 14) (t0 := 0) hx hb hK1 hP rfl rfl (by omega) (by decide) dX0_addTo_52 ?_
        refine xcalll (va_runSN (As := [.long (((digF M (d * 31 + (nI nf).toInt64) j) * 31 + (M 6 j).toInt64) * 31 + (M 10 j).toInt64), .int (M 11 j)]) (rest := []) ⟨hx, hb, hml, hown, hts⟩ (c_X4_mixed l (((digF M (d * 31 + (nI nf).toInt64) j) * 31 + (M 6 j).toInt64) * 31 + (M 10 j).toInt64) (M 11 j)) ⟨va_cnB 2 hts gX0_addTo_X4_mixed_n52 rfl rfl rfl hK.2.1 (hts (.initialized RX4) (List.mem_of_getElem? (i := 6) rfl)) (by decide +kernel) ⟨Nat.le_of_ble_eq_true rfl, Nat.le_of_ble_eq_true rfl⟩, hts (.static yX4_mixed) (List.mem_of_getElem? (i := 5) rfl), trivial⟩ xpreN rfl rfl hl.1 rfl (lv_room (Nat.le_of_ble_eq_true rfl)) dX0_addTo_53 ⟨Nat.le_of_ble_eq_true rfl, Nat.le_of_ble_eq_true rfl⟩) hS hP (fun H locs hP hS => ?_)
        refine lv_lstore_n (lv' := [(3, .long ((((digF M (d * 31 + (nI nf).toInt64) j) * 31 + (M 6 j).toInt64) * 31 + (M 10 j).toInt64) * 31 + (M 11 j).toInt64)), (0, .ref (a 8)), (1, .long d), (5, .int (nI j))]) hx hb dX0_addTo_56 rfl hl (by decide) rfl (fun ls hl => ?_)
        refine lv_iinc (v := (nI (j + 1))) (lv' := [(5, .int (nI (j + 1))), (3, .long ((((digF M (d * 31 + (nI nf).toInt64) j) * 31 + (M 6 j).toInt64) * 31 + (M 10 j).toInt64) * 31 + (M 11 j).toInt64)), (0, .ref (a 8)), (1, .long d)]) hx hb dX0_addTo_57 hl (k := 3) rfl (nI_add j 1) (by decide) rfl (fun ls hl => ?_)
        refine lv_goto (tgt := 12) hx hb dX0_addTo_60 (by decide) ?_
        have e_1 : ((((digF M (d * 31 + (nI nf).toInt64) j) * 31 + (M 6 j).toInt64) * 31 + (M 10 j).toInt64) * 31 + (M 11 j).toInt64) = (digF M (d * 31 + (nI nf).toInt64) (j + 1)) := by rfl
        exact cut12 (j + 1) (by omega) (by omega) _ _ hP hS ls (lcons (lcons (lcons (lcons (lzero hl) hl 0 rfl rfl) hl 1 rfl (congrArg Value.long e_1)) hl 3 rfl rfl) hl 2 rfl rfl)
  have e_2 : (d * 31 + (nI nf).toInt64) = (digF M (d * 31 + (nI nf).toInt64) 0) := by rfl
  exact cut12 (nf + 1) 0 (by omega) (by omega) _ _ hP hS ls (lcons (lcons (lcons (lcons (lzero hl) hl 0 rfl rfl) hl 1 rfl (congrArg Value.long e_2)) hl 3 rfl rfl) hl 2 rfl rfl)

set_option maxHeartbeats 4000000 in
set_option maxRecDepth 100000 in
theorem c_X0_greatestOf (l : Launch) (D : va_G) (cs : Nat → ClassId) (a : Nat → Nat) (M : Nat → Nat → Int32) (N : Nat → Int64)  (nf : Nat) (mr : Nat) (x : Int32) (y : Int32) (hmr : mr = 10 ∨ mr = 11) (hf40 : nf ≤ 40) (hpx : isPt nf x) (hpy : isPt nf y) : Met l yX0_greatestOf wsX0_greatestOf ({ frames := 1, cells := 0, slots := 0, locals := 21 } : Room) (va_Pc [.ref (a 8), .ref (a (3 + mr)), .int x, .int y] (XB D cs (xc cs a M N))) (va_Qi (fun r (_ : Unit) => r = mx (ptv (M (0 + mr)) x) (ptv (M (0 + mr)) y)) (fun _ _ => True) (fun _ => False)) 0 0 (fun _ => False) := by
  refine Met.ofW (cc := cX0_greatestOf) (maxL := 6) (ret := (some .int)) (by decide) rfl ?_
  intro p e s m args below meth c s₁ B hml hv
  obtain ⟨rfl, hP, hK⟩ := hv
  have hx := B.exec
  have hb := B.bytes
  have hr := B.returns
  have hts := atoms_spec (ws := wsX0_greatestOf) B.pre
  have hown : s.vm.findClass RX0 = some m.cls := findClass_of_methodNamed B.named
  have hlocks := B.notSynchronized
  have hK1 := hK.1
  have hS : va_S (fun _ => False) s.heap s.heap [] := va_S.rf
  have hl := lv_entry ([.ref (a 8), .ref (a (3 + mr)), .int x, .int y]) (n := 6) (Nat.le_of_ble_eq_true rfl)
  rw [lg_entry_eq]
  generalize (lg_sl ([.ref (a 8), .ref (a (3 + mr)), .int x, .int y]) ++ List.replicate (6 - (lg_sl ([.ref (a 8), .ref (a (3 + mr)), .int x, .int y])).length) Slot.unset).toArray = ls at hl ⊢
  have hl : lv_has ls 6 [(0, .ref (a 8)), (1, .ref (a (3 + mr))), (2, .int x), (3, .int y)] := hl
  refine W_Q (fun Q hQ => ?_)
  show W p l e ({ frames := 1, cells := 0, slots := 0, locals := 21 } : Room) s m ([.ref (a 8), .ref (a (3 + mr)), .int x, .int y] : List Value).toArray below meth c s.heap [] 0 0 Q (F0 m 0 ls [])
  refine lv_iload_n hx hb dX0_greatestOf_0 rfl (lv_at hl 2 rfl) ?_
  refine lv_iconst (v := (-1 : Int32)) hx hb dX0_greatestOf_1 (by decide) ?_
  refine lv_icmp_ne (tgt := 9) hx hb dX0_greatestOf_2 (by decide) (fun c2 => ?_) (fun c2 => ?_)
  ·
    obtain ⟨kx, hkx, hex⟩ := hpx.resolve_left c2
    refine lv_aload_n hx hb dX0_greatestOf_9 rfl (lv_at hl 1 rfl) ?_
    refine lv_iload_n hx hb dX0_greatestOf_10 rfl (lv_at hl 2 rfl) ?_
    refine xtop (y := nI kx) (by exact hex) ?_
    refine xiald (j := kx) (q0 := (3 + mr)) (t0 := 0) hx hb hK1 hP (xg_ms (by omega)) rfl (by omega) (by decide) dX0_greatestOf_11 ?_
    refine lv_topi (fun x_1 hx_1 => ?_)
    refine lv_istore (lv' := [(4, .int x_1), (0, .ref (a 8)), (1, .ref (a (3 + mr))), (2, .int x), (3, .int y)]) hx hb dX0_greatestOf_12 hl (by decide) rfl (fun ls hl => ?_)
    refine lv_iload_n hx hb dX0_greatestOf_14 rfl (lv_at hl 4 rfl) ?_
    refine lv_iconst (v := (-1 : Int32)) hx hb dX0_greatestOf_15 (by decide) ?_
    refine lv_icmp_ne (tgt := 23) hx hb dX0_greatestOf_16 (by decide) (fun c16 => ?_) (fun c16 => ?_)
    ·
      obtain ⟨ky, hky, hey⟩ := hpy.resolve_left c16
      refine lv_aload_n hx hb dX0_greatestOf_23 rfl (lv_at hl 2 rfl) ?_
      refine lv_iload_n hx hb dX0_greatestOf_24 rfl (lv_at hl 4 rfl) ?_
      refine xtop (y := nI ky) (by exact hey) ?_
      refine xiald (j := ky) (q0 := (3 + mr)) (t0 := 0) hx hb hK1 hP (xg_ms (by omega)) rfl (by omega) (by decide) dX0_greatestOf_25 ?_
      refine lv_topi (fun x_2 hx_2 => ?_)
      refine lv_istore (lv' := [(5, .int x_2), (4, .int x_1), (0, .ref (a 8)), (1, .ref (a (3 + mr))), (2, .int x), (3, .int y)]) hx hb dX0_greatestOf_26 hl (by decide) rfl (fun ls hl => ?_)
      refine lv_iload hx hb dX0_greatestOf_28 (lv_at hl 1 rfl) ?_
      refine lv_iload hx hb dX0_greatestOf_30 (lv_at hl 0 rfl) ?_
      refine va_mmax hx hb (hml.trans hl.1.symm) hown (hts (.methodLink RX0 46 Lib.Math.max.name) (List.mem_of_getElem? (i := 1) rfl)) (hts (.static Lib.Math.max.name) (List.mem_of_getElem? (i := 2) rfl)) (hts (.initialized "java/lang/Math") (List.mem_of_getElem? (i := 3) rfl)) (hts (.code Lib.Math.max.name Lib.Math.max.code 2 (some .int)) (List.mem_of_getElem? (i := 4) rfl)) (Nat.le_of_ble_eq_true rfl) (Nat.le_of_ble_eq_true rfl) (Nat.le_of_ble_eq_true rfl) (Nat.le_of_ble_eq_true rfl) dX0_greatestOf_32 ?_
      refine xtop (y := mx x_1 x_2) rfl ?_
      subst hQ
      have hfin : (mx x_1 x_2) = mx (ptv (M (0 + mr)) x) (ptv (M (0 + mr)) y) := by first | (rw [show ptv (M (0 + mr)) x = nI 0 from if_pos c2, show ptv (M (0 + mr)) y = nI 0 from if_pos c16] <;> simp only [mx, c2, hx_1, c16, hx_2]) | (rw [show ptv (M (0 + mr)) x = nI 0 from if_pos c2, ptv_at (f := M (0 + mr)) hey (by omega)] <;> simp only [mx, c2, hx_1, c16, hx_2]) | (rw [ptv_at (f := M (0 + mr)) hex (by omega), show ptv (M (0 + mr)) y = nI 0 from if_pos c16] <;> simp only [mx, c2, hx_1, c16, hx_2]) | (rw [ptv_at (f := M (0 + mr)) hex (by omega), ptv_at (f := M (0 + mr)) hey (by omega)] <;> simp only [mx, c2, hx_1, c16, hx_2])
      exact W.iret hx hb hr (fun t ht hW => ⟨⟨_, (), rfl, hfin, trivial⟩, hS.F ht⟩) hS.2.2 dX0_greatestOf_35
    ·
      refine lv_iconst (v := (nI 0)) hx hb dX0_greatestOf_19 (by decide) ?_
      refine lv_goto (tgt := 26) hx hb dX0_greatestOf_20 (by decide) ?_
      refine lv_istore (lv' := [(5, .int (nI 0)), (4, .int x_1), (0, .ref (a 8)), (1, .ref (a (3 + mr))), (2, .int x), (3, .int y)]) hx hb dX0_greatestOf_26 hl (by decide) rfl (fun ls hl => ?_)
      refine lv_iload hx hb dX0_greatestOf_28 (lv_at hl 1 rfl) ?_
      refine lv_iload hx hb dX0_greatestOf_30 (lv_at hl 0 rfl) ?_
      refine va_mmax hx hb (hml.trans hl.1.symm) hown (hts (.methodLink RX0 46 Lib.Math.max.name) (List.mem_of_getElem? (i := 1) rfl)) (hts (.static Lib.Math.max.name) (List.mem_of_getElem? (i := 2) rfl)) (hts (.initialized "java/lang/Math") (List.mem_of_getElem? (i := 3) rfl)) (hts (.code Lib.Math.max.name Lib.Math.max.code 2 (some .int)) (List.mem_of_getElem? (i := 4) rfl)) (Nat.le_of_ble_eq_true rfl) (Nat.le_of_ble_eq_true rfl) (Nat.le_of_ble_eq_true rfl) (Nat.le_of_ble_eq_true rfl) dX0_greatestOf_32 ?_
      refine xtop (y := mx x_1 (nI 0)) rfl ?_
      subst hQ
      have hfin : (mx x_1 (nI 0)) = mx (ptv (M (0 + mr)) x) (ptv (M (0 + mr)) y) := by first | (rw [show ptv (M (0 + mr)) x = nI 0 from if_pos c2, show ptv (M (0 + mr)) y = nI 0 from if_pos c16] <;> simp only [mx, c2, hx_1, c16]) | (rw [show ptv (M (0 + mr)) x = nI 0 from if_pos c2, ptv_at (f := M (0 + mr)) hey (by omega)] <;> simp only [mx, c2, hx_1, c16]) | (rw [ptv_at (f := M (0 + mr)) hex (by omega), show ptv (M (0 + mr)) y = nI 0 from if_pos c16] <;> simp only [mx, c2, hx_1, c16]) | (rw [ptv_at (f := M (0 + mr)) hex (by omega), ptv_at (f := M (0 + mr)) hey (by omega)] <;> simp only [mx, c2, hx_1, c16])
      exact W.iret hx hb hr (fun t ht hW => ⟨⟨_, (), rfl, hfin, trivial⟩, hS.F ht⟩) hS.2.2 dX0_greatestOf_35
  ·
    refine lv_iconst (v := (nI 0)) hx hb dX0_greatestOf_5 (by decide) ?_
    refine lv_goto (tgt := 12) hx hb dX0_greatestOf_6 (by decide) ?_
    refine lv_istore (lv' := [(4, .int (nI 0)), (0, .ref (a 8)), (1, .ref (a (3 + mr))), (2, .int x), (3, .int y)]) hx hb dX0_greatestOf_12 hl (by decide) rfl (fun ls hl => ?_)
    refine lv_iload_n hx hb dX0_greatestOf_14 rfl (lv_at hl 4 rfl) ?_
    refine lv_iconst (v := (-1 : Int32)) hx hb dX0_greatestOf_15 (by decide) ?_
    refine lv_icmp_ne (tgt := 23) hx hb dX0_greatestOf_16 (by decide) (fun c16 => ?_) (fun c16 => ?_)
    ·
      obtain ⟨ky, hky, hey⟩ := hpy.resolve_left c16
      refine lv_aload_n hx hb dX0_greatestOf_23 rfl (lv_at hl 2 rfl) ?_
      refine lv_iload_n hx hb dX0_greatestOf_24 rfl (lv_at hl 4 rfl) ?_
      refine xtop (y := nI ky) (by exact hey) ?_
      refine xiald (j := ky) (q0 := (3 + mr)) (t0 := 0) hx hb hK1 hP (xg_ms (by omega)) rfl (by omega) (by decide) dX0_greatestOf_25 ?_
      refine lv_topi (fun x_3 hx_3 => ?_)
      refine lv_istore (lv' := [(5, .int x_3), (4, .int (nI 0)), (0, .ref (a 8)), (1, .ref (a (3 + mr))), (2, .int x), (3, .int y)]) hx hb dX0_greatestOf_26 hl (by decide) rfl (fun ls hl => ?_)
      refine lv_iload hx hb dX0_greatestOf_28 (lv_at hl 1 rfl) ?_
      refine lv_iload hx hb dX0_greatestOf_30 (lv_at hl 0 rfl) ?_
      refine va_mmax hx hb (hml.trans hl.1.symm) hown (hts (.methodLink RX0 46 Lib.Math.max.name) (List.mem_of_getElem? (i := 1) rfl)) (hts (.static Lib.Math.max.name) (List.mem_of_getElem? (i := 2) rfl)) (hts (.initialized "java/lang/Math") (List.mem_of_getElem? (i := 3) rfl)) (hts (.code Lib.Math.max.name Lib.Math.max.code 2 (some .int)) (List.mem_of_getElem? (i := 4) rfl)) (Nat.le_of_ble_eq_true rfl) (Nat.le_of_ble_eq_true rfl) (Nat.le_of_ble_eq_true rfl) (Nat.le_of_ble_eq_true rfl) dX0_greatestOf_32 ?_
      refine xtop (y := mx (nI 0) x_3) rfl ?_
      subst hQ
      have hfin : (mx (nI 0) x_3) = mx (ptv (M (0 + mr)) x) (ptv (M (0 + mr)) y) := by first | (rw [show ptv (M (0 + mr)) x = nI 0 from if_pos c2, show ptv (M (0 + mr)) y = nI 0 from if_pos c16] <;> simp only [mx, c2, c16, hx_3]) | (rw [show ptv (M (0 + mr)) x = nI 0 from if_pos c2, ptv_at (f := M (0 + mr)) hey (by omega)] <;> simp only [mx, c2, c16, hx_3]) | (rw [ptv_at (f := M (0 + mr)) hex (by omega), show ptv (M (0 + mr)) y = nI 0 from if_pos c16] <;> simp only [mx, c2, c16, hx_3]) | (rw [ptv_at (f := M (0 + mr)) hex (by omega), ptv_at (f := M (0 + mr)) hey (by omega)] <;> simp only [mx, c2, c16, hx_3])
      exact W.iret hx hb hr (fun t ht hW => ⟨⟨_, (), rfl, hfin, trivial⟩, hS.F ht⟩) hS.2.2 dX0_greatestOf_35
    ·
      refine lv_iconst (v := (nI 0)) hx hb dX0_greatestOf_19 (by decide) ?_
      refine lv_goto (tgt := 26) hx hb dX0_greatestOf_20 (by decide) ?_
      refine lv_istore (lv' := [(5, .int (nI 0)), (4, .int (nI 0)), (0, .ref (a 8)), (1, .ref (a (3 + mr))), (2, .int x), (3, .int y)]) hx hb dX0_greatestOf_26 hl (by decide) rfl (fun ls hl => ?_)
      refine lv_iload hx hb dX0_greatestOf_28 (lv_at hl 1 rfl) ?_
      refine lv_iload hx hb dX0_greatestOf_30 (lv_at hl 0 rfl) ?_
      refine va_mmax hx hb (hml.trans hl.1.symm) hown (hts (.methodLink RX0 46 Lib.Math.max.name) (List.mem_of_getElem? (i := 1) rfl)) (hts (.static Lib.Math.max.name) (List.mem_of_getElem? (i := 2) rfl)) (hts (.initialized "java/lang/Math") (List.mem_of_getElem? (i := 3) rfl)) (hts (.code Lib.Math.max.name Lib.Math.max.code 2 (some .int)) (List.mem_of_getElem? (i := 4) rfl)) (Nat.le_of_ble_eq_true rfl) (Nat.le_of_ble_eq_true rfl) (Nat.le_of_ble_eq_true rfl) (Nat.le_of_ble_eq_true rfl) dX0_greatestOf_32 ?_
      refine xtop (y := mx (nI 0) (nI 0)) rfl ?_
      subst hQ
      have hfin : (mx (nI 0) (nI 0)) = mx (ptv (M (0 + mr)) x) (ptv (M (0 + mr)) y) := by first | (rw [show ptv (M (0 + mr)) x = nI 0 from if_pos c2, show ptv (M (0 + mr)) y = nI 0 from if_pos c16] <;> simp only [mx, c2, c16]) | (rw [show ptv (M (0 + mr)) x = nI 0 from if_pos c2, ptv_at (f := M (0 + mr)) hey (by omega)] <;> simp only [mx, c2, c16]) | (rw [ptv_at (f := M (0 + mr)) hex (by omega), show ptv (M (0 + mr)) y = nI 0 from if_pos c16] <;> simp only [mx, c2, c16]) | (rw [ptv_at (f := M (0 + mr)) hex (by omega), ptv_at (f := M (0 + mr)) hey (by omega)] <;> simp only [mx, c2, c16])
      exact W.iret hx hb hr (fun t ht hW => ⟨⟨_, (), rfl, hfin, trivial⟩, hS.F ht⟩) hS.2.2 dX0_greatestOf_35

set_option maxHeartbeats 4000000 in
set_option maxRecDepth 100000 in
theorem c_X0_neededOf (l : Launch) (D : va_G) (cs : Nat → ClassId) (a : Nat → Nat) (M : Nat → Nat → Int32) (N : Nat → Int64)  (nf : Nat) (x : Int32) (hf40 : nf ≤ 40) (hpx : isPt nf x) : Met l yX0_neededOf wsX0_neededOf ({ frames := 0, cells := 0, slots := 0, locals := 0 } : Room) (va_Pc [.ref (a 8), .int x] (XB D cs (xc cs a M N))) (va_Ql (fun r (_ : Unit) => r = ndv N x) (fun _ _ => True) (fun _ => False)) 0 0 (fun _ => False) := by
  refine Met.ofW (cc := cX0_neededOf) (maxL := 2) (ret := (some .long)) (by decide) rfl ?_
  intro p e s m args below meth c s₁ B hml hv
  obtain ⟨rfl, hP, hK⟩ := hv
  have hx := B.exec
  have hb := B.bytes
  have hr := B.returns
  have hts := atoms_spec (ws := wsX0_neededOf) B.pre
  have hown : s.vm.findClass RX0 = some m.cls := findClass_of_methodNamed B.named
  have hlocks := B.notSynchronized
  have hK1 := hK.1
  have hinX0 : ∀ w ∈ wsX00, w ∈ wsX0_neededOf := fun w h => List.mem_cons_of_mem _ (List.mem_append_right _ h)
  have hS : va_S (fun _ => False) s.heap s.heap [] := va_S.rf
  have hl := lv_entry ([.ref (a 8), .int x]) (n := 2) (Nat.le_of_ble_eq_true rfl)
  rw [lg_entry_eq]
  generalize (lg_sl ([.ref (a 8), .int x]) ++ List.replicate (2 - (lg_sl ([.ref (a 8), .int x])).length) Slot.unset).toArray = ls at hl ⊢
  have hl : lv_has ls 2 [(0, .ref (a 8)), (1, .int x)] := hl
  refine W_Q (fun Q hQ => ?_)
  show W p l e ({ frames := 0, cells := 0, slots := 0, locals := 0 } : Room) s m ([.ref (a 8), .int x] : List Value).toArray below meth c s.heap [] 0 0 Q (F0 m 0 ls [])
  refine lv_iload_n hx hb dX0_neededOf_0 rfl (lv_at hl 1 rfl) ?_
  refine lv_iconst (v := (-1 : Int32)) hx hb dX0_neededOf_1 (by decide) ?_
  refine lv_icmp_ne (tgt := 9) hx hb dX0_neededOf_2 (by decide) (fun c2 => ?_) (fun c2 => ?_)
  ·
    obtain ⟨kx, hkx, hex⟩ := hpx.resolve_left c2
    refine lv_aload_n hx hb dX0_neededOf_9 rfl (lv_at hl 0 rfl) ?_
    refine va_get (D := D) (ci := 0) (v := .ref (a 15)) (C := RX0) (T := TX0) (N := 8) hx hb hts hinX0 hown hK1 hP 8 rfl rfl 6 (by decide) (hts (.fieldLink RX0 30 "KnowledgeModel$Formulas" "neededFor" "[J") (List.mem_of_getElem? (i := 1) rfl)) (fun _ h9 => h9) rfl dX0_neededOf_10 ?_
    refine lv_iload_n hx hb dX0_neededOf_13 rfl (lv_at hl 1 rfl) ?_
    refine xtop (y := nI kx) (by exact hex) ?_
    refine xlald (j := kx) (q0 := 15) (t0 := 1) hx hb hK1 hP rfl rfl (by omega) (by decide) dX0_neededOf_14 ?_
    subst hQ
    have hfin : (N kx) = ndv N x := by first | (unfold ndv; rw [if_pos c2]; done) | exact (ndv_at hex (by omega)).symm
    exact W.lret hx hb hr (fun t ht hW => ⟨⟨_, (), rfl, hfin, trivial⟩, hS.F ht⟩) hS.2.2 dX0_neededOf_15
  ·
    refine lv_lconst (v := 0) hx hb dX0_neededOf_5 (by decide) ?_
    refine lv_goto (tgt := 15) hx hb dX0_neededOf_6 (by decide) ?_
    subst hQ
    have hfin : (0 : Int64) = ndv N x := by first | (unfold ndv; rw [if_pos c2]; done) | exact (ndv_at hex (by omega)).symm
    exact W.lret hx hb hr (fun t ht hW => ⟨⟨_, (), rfl, hfin, trivial⟩, hS.F ht⟩) hS.2.2 dX0_neededOf_15

def isDp (kd : Nat) : Bool := kd == 3 || kd == 4 || kd == 5
def dpV (M : Nat → Nat → Int32) (kd : Nat) (x y : Int32) : Int32 := mx (ptv (M 10) x) (ptv (M 10) y) + bI (isDp kd)
def nsV (M : Nat → Nat → Int32) (kd : Nat) (x y : Int32) : Int32 := mx (ptv (M 11) x) (ptv (M 11) y) + bI (kd == 6)
def ndN (N : Nat → Int64) (nf kd : Nat) (x y : Int32) : Int64 := 1 <<< ((nI nf).toInt64 &&& 63) ||| ndv N x ||| (if kd = 6 then 0 else ndv N y)
def appM (M : Nat → Nat → Int32) (nf kd : Nat) (su x y : Int32) : Nat → Nat → Int32 := wr (wr (wr (wr (wr (wr (wr M 6 nf (nI kd)) 7 nf su) 8 nf x) 9 nf y) 10 nf (dpV M kd x y)) 11 nf (nsV M kd x y)) 0 2 (nI (nf + 1))
def appN (N : Nat → Int64) (nf kd : Nat) (x y : Int32) : Nat → Int64 := vp_updL N nf (ndN N nf kd x y)

set_option maxHeartbeats 4000000 in
set_option maxRecDepth 100000 in
theorem c_X0_append (l : Launch) (D : va_G) (cs : Nat → ClassId) (a : Nat → Nat) (M : Nat → Nat → Int32) (N : Nat → Int64) (sz : Nat) (hI : kI a 29)  (nf : Nat) (kd : Nat) (su : Int32) (x : Int32) (y : Int32) (hkd : kd < 7) (hfc : M 0 2 = nI nf) (hf40 : nf < 40) (hpx : isPt nf x) (hpy : isPt nf y) : Met l yX0_append wsX0_append ({ frames := 2, cells := 0, slots := 0, locals := 50 } : Room) (va_Pc [.ref (a 8), .int (nI kd), .int su, .int x, .int y] (XBs D cs (xc cs a M N) sz)) (va_Qi (fun r (u : Unit) => r = nI nf ∧ True) (fun (u : Unit) t => va_P D vwCl (xc cs a (appM M nf kd su x y) (appN N nf kd x y)) t.heap) (kA a 29 sz)) 0 0 (kA a 29 sz) := by
  refine Met.ofW (cc := cX0_append) (maxL := 9) (ret := (some .int)) (by decide) rfl ?_
  intro p e s m args below meth c s₁ B hml hv
  obtain ⟨rfl, hsz, hP, hK⟩ := hv
  have hx := B.exec
  have hb := B.bytes
  have hr := B.returns
  have hts := atoms_spec (ws := wsX0_append) B.pre
  have hown : s.vm.findClass RX0 = some m.cls := findClass_of_methodNamed B.named
  have hlocks := B.notSynchronized
  have hK1 := hK.1
  have hinX0 : ∀ w ∈ wsX00, w ∈ wsX0_append := fun w h => List.mem_cons_of_mem _ (List.mem_append_right _ h)
  subst hsz
  have hS : va_S (kA a 29 s.heap.size) s.heap s.heap [] := va_S.rf
  have hl := lv_entry ([.ref (a 8), .int (nI kd), .int su, .int x, .int y]) (n := 9) (Nat.le_of_ble_eq_true rfl)
  rw [lg_entry_eq]
  generalize (lg_sl ([.ref (a 8), .int (nI kd), .int su, .int x, .int y]) ++ List.replicate (9 - (lg_sl ([.ref (a 8), .int (nI kd), .int su, .int x, .int y])).length) Slot.unset).toArray = ls at hl ⊢
  have hl : lv_has ls 9 [(0, .ref (a 8)), (1, .int (nI kd)), (2, .int su), (3, .int x), (4, .int y)] := hl
  refine W_Q (fun Q hQ => ?_)
  show W p l e ({ frames := 2, cells := 0, slots := 0, locals := 50 } : Room) s m ([.ref (a 8), .int (nI kd), .int su, .int x, .int y] : List Value).toArray below meth c s.heap [] 0 0 Q (F0 m 0 ls [])
  refine lv_aload_n hx hb dX0_append_0 rfl (lv_at hl 0 rfl) ?_
  refine va_get (D := D) (ci := 0) (v := .int (M 0 2)) (C := RX0) (T := TX0) (N := 8) hx hb hts hinX0 hown hK1 hP 8 rfl rfl 7 (by decide) (hts (.fieldLink RX0 34 "KnowledgeModel$Formulas" "count" "I") (List.mem_of_getElem? (i := 1) rfl)) (fun _ h9 => h9) rfl dX0_append_1 ?_
  refine xtop (y := nI nf) (hfc) ?_
  refine lv_istore (lv' := [(5, .int (nI nf)), (0, .ref (a 8)), (1, .int (nI kd)), (2, .int su), (3, .int x), (4, .int y)]) hx hb dX0_append_4 hl (by decide) rfl (fun ls hl => ?_)
  refine lv_aload_n hx hb dX0_append_6 rfl (lv_at hl 1 rfl) ?_
  refine va_get (D := D) (ci := 0) (v := .ref (a 9)) (C := RX0) (T := TX0) (N := 8) hx hb hts hinX0 hown hK1 hP 8 rfl rfl 0 (by decide) (hts (.fieldLink RX0 9 "KnowledgeModel$Formulas" "kindOf" "[I") (List.mem_of_getElem? (i := 2) rfl)) (fun _ h9 => h9) rfl dX0_append_7 ?_
  refine lv_iload hx hb dX0_append_10 (lv_at hl 0 rfl) ?_
  refine lv_iload_n hx hb dX0_append_12 rfl (lv_at hl 2 rfl) ?_
  refine xiast (j := nf) (q0 := 9) (t0 := 0) (ws' := xc cs a (wr M 6 nf (nI kd)) N) hx hb hK1 hP (xD hI) hS rfl rfl (by omega) (by decide) xs_9 dX0_append_13 (fun H locs hP hS => ?_)
  obtain ⟨M_1, hM_1⟩ : ∃ z, z = wr M 6 nf (nI kd) := ⟨_, rfl⟩
  rw [← hM_1] at hP
  have hk_2 : M_1 0 2 = nI nf := by rw [hM_1]; exact (wr_ne (Or.inl (by omega))).trans hfc
  refine lv_aload_n hx hb dX0_append_14 rfl (lv_at hl 1 rfl) ?_
  refine va_get (D := D) (ci := 0) (v := .ref (a 10)) (C := RX0) (T := TX0) (N := 8) hx hb hts hinX0 hown hK1 hP 8 rfl rfl 1 (by decide) (hts (.fieldLink RX0 15 "KnowledgeModel$Formulas" "subjectOf" "[I") (List.mem_of_getElem? (i := 3) rfl)) (fun _ h9 => h9) rfl dX0_append_15 ?_
  refine lv_iload hx hb dX0_append_18 (lv_at hl 0 rfl) ?_
  refine lv_iload_n hx hb dX0_append_20 rfl (lv_at hl 3 rfl) ?_
  refine xiast (j := nf) (q0 := 10) (t0 := 0) (ws' := xc cs a (wr M_1 7 nf su) N) hx hb hK1 hP (xD hI) hS rfl rfl (by omega) (by decide) xs_10 dX0_append_21 (fun H locs hP hS => ?_)
  obtain ⟨M_3, hM_3⟩ : ∃ z, z = wr M_1 7 nf su := ⟨_, rfl⟩
  rw [← hM_3] at hP
  have hk_4 : M_3 0 2 = nI nf := by rw [hM_3]; exact (wr_ne (Or.inl (by omega))).trans hk_2
  refine lv_aload_n hx hb dX0_append_22 rfl (lv_at hl 1 rfl) ?_
  refine va_get (D := D) (ci := 0) (v := .ref (a 11)) (C := RX0) (T := TX0) (N := 8) hx hb hts hinX0 hown hK1 hP 8 rfl rfl 2 (by decide) (hts (.fieldLink RX0 18 "KnowledgeModel$Formulas" "firstOf" "[I") (List.mem_of_getElem? (i := 4) rfl)) (fun _ h9 => h9) rfl dX0_append_23 ?_
  refine lv_iload hx hb dX0_append_26 (lv_at hl 0 rfl) ?_
  refine lv_iload_n hx hb dX0_append_28 rfl (lv_at hl 4 rfl) ?_
  refine xiast (j := nf) (q0 := 11) (t0 := 0) (ws' := xc cs a (wr M_3 8 nf x) N) hx hb hK1 hP (xD hI) hS rfl rfl (by omega) (by decide) xs_11 dX0_append_29 (fun H locs hP hS => ?_)
  obtain ⟨M_5, hM_5⟩ : ∃ z, z = wr M_3 8 nf x := ⟨_, rfl⟩
  rw [← hM_5] at hP
  have hk_6 : M_5 0 2 = nI nf := by rw [hM_5]; exact (wr_ne (Or.inl (by omega))).trans hk_4
  refine lv_aload_n hx hb dX0_append_30 rfl (lv_at hl 1 rfl) ?_
  refine va_get (D := D) (ci := 0) (v := .ref (a 12)) (C := RX0) (T := TX0) (N := 8) hx hb hts hinX0 hown hK1 hP 8 rfl rfl 3 (by decide) (hts (.fieldLink RX0 21 "KnowledgeModel$Formulas" "secondOf" "[I") (List.mem_of_getElem? (i := 5) rfl)) (fun _ h9 => h9) rfl dX0_append_31 ?_
  refine lv_iload hx hb dX0_append_34 (lv_at hl 0 rfl) ?_
  refine lv_iload hx hb dX0_append_36 (lv_at hl 5 rfl) ?_
  refine xiast (j := nf) (q0 := 12) (t0 := 0) (ws' := xc cs a (wr M_5 9 nf y) N) hx hb hK1 hP (xD hI) hS rfl rfl (by omega) (by decide) xs_12 dX0_append_38 (fun H locs hP hS => ?_)
  obtain ⟨M_7, hM_7⟩ : ∃ z, z = wr M_5 9 nf y := ⟨_, rfl⟩
  rw [← hM_7] at hP
  have hk_8 : M_7 0 2 = nI nf := by rw [hM_7]; exact (wr_ne (Or.inl (by omega))).trans hk_6
  have cut59 : ∀ (H : Heap) (locs : List Loc), va_P D vwCl (xc cs a M_7 N) H → va_S (kA a 29 s.heap.size) s.heap H locs → ∀ (ls : Array Slot), lv_has ls 9 [(0, .ref (a 8)), (1, .int (nI kd)), (2, .int su), (3, .int x), (4, .int y), (5, .int (nI nf))] → W p l e ({ frames := 2, cells := 0, slots := 0, locals := 50 } : Room) s m ([.ref (a 8), .int (nI kd), .int su, .int x, .int y] : List Value).toArray below meth c H locs 0 0 Q (F0 m 59 ls [.int (bI (isDp kd))]) := by
    intro   H locs hP hS ls hl
    refine lv_istore (lv' := [(6, .int (bI (isDp kd))), (0, .ref (a 8)), (1, .int (nI kd)), (2, .int su), (3, .int x), (4, .int y), (5, .int (nI nf))]) hx hb dX0_append_59 hl (by decide) rfl (fun ls hl => ?_)
    refine lv_aload_n hx hb dX0_append_61 rfl (lv_at hl 1 rfl) ?_
    refine va_get (D := D) (ci := 0) (v := .ref (a 13)) (C := RX0) (T := TX0) (N := 8) hx hb hts hinX0 hown hK1 hP 8 rfl rfl 4 (by decide) (hts (.fieldLink RX0 24 "KnowledgeModel$Formulas" "depthOf" "[I") (List.mem_of_getElem? (i := 6) rfl)) (fun _ h9 => h9) rfl dX0_append_62 ?_
    refine lv_iload hx hb dX0_append_65 (lv_at hl 6 rfl) ?_
    refine lv_aload_n hx hb dX0_append_67 rfl (lv_at hl 1 rfl) ?_
    refine lv_aload_n hx hb dX0_append_68 rfl (lv_at hl 1 rfl) ?_
    refine va_get (D := D) (ci := 0) (v := .ref (a 13)) (C := RX0) (T := TX0) (N := 8) hx hb hts hinX0 hown hK1 hP 8 rfl rfl 4 (by decide) (hts (.fieldLink RX0 24 "KnowledgeModel$Formulas" "depthOf" "[I") (List.mem_of_getElem? (i := 6) rfl)) (fun _ h9 => h9) rfl dX0_append_69 ?_
    refine lv_iload_n hx hb dX0_append_72 rfl (lv_at hl 4 rfl) ?_
    refine lv_iload hx hb dX0_append_73 (lv_at hl 5 rfl) ?_
    refine xcalli (va_runV (As := [.ref (a 13), .int x, .int y]) (rest := [.int (nI nf), .ref (a 13)]) ⟨hx, hb, hml, hown, hts⟩ (c_X0_greatestOf l D cs a M_7 N nf 10 x y (Or.inl rfl) (by omega) hpx hpy) (cwV 3 hts gX0_append_X0_greatestOf rfl rfl rfl (by decide +kernel) ⟨Nat.le_of_ble_eq_true rfl, Nat.le_of_ble_eq_true rfl⟩) (xpreV hP hK (ci := 0) 8 rfl rfl) rfl rfl hl.1 rfl (lv_room (Nat.le_of_ble_eq_true rfl)) dX0_append_75 ⟨Nat.le_of_ble_eq_true rfl, Nat.le_of_ble_eq_true rfl⟩) hS hP (fun H locs hP hS => ?_)
    refine lv_iload hx hb dX0_append_78 (lv_at hl 0 rfl) ?_
    refine lv_if_eq (tgt := 87) hx hb dX0_append_80 (by decide) (fun c80 => ?_) (fun c80 => ?_)
    ·
      replace c80 := bI_0 c80
      refine lv_iconst (v := (nI 0)) hx hb dX0_append_87 (by decide) ?_
      refine lv_iadd hx hb dX0_append_88 ?_
      refine lv_topi (fun x_9 hx_9 => ?_)
      refine xiast (j := nf) (q0 := 13) (t0 := 0) (ws' := xc cs a (wr M_7 10 nf x_9) N) hx hb hK1 hP (xD hI) hS rfl rfl (by omega) (by decide) xs_13 dX0_append_89 (fun H locs hP hS => ?_)
      obtain ⟨M_10, hM_10⟩ : ∃ z, z = wr M_7 10 nf x_9 := ⟨_, rfl⟩
      rw [← hM_10] at hP
      have hk_11 : M_10 0 2 = nI nf := by rw [hM_10]; exact (wr_ne (Or.inl (by omega))).trans hk_8
      refine lv_aload_n hx hb dX0_append_90 rfl (lv_at hl 1 rfl) ?_
      refine va_get (D := D) (ci := 0) (v := .ref (a 14)) (C := RX0) (T := TX0) (N := 8) hx hb hts hinX0 hown hK1 hP 8 rfl rfl 5 (by decide) (hts (.fieldLink RX0 27 "KnowledgeModel$Formulas" "nestingOf" "[I") (List.mem_of_getElem? (i := 7) rfl)) (fun _ h9 => h9) rfl dX0_append_91 ?_
      refine lv_iload hx hb dX0_append_94 (lv_at hl 6 rfl) ?_
      refine lv_aload_n hx hb dX0_append_96 rfl (lv_at hl 1 rfl) ?_
      refine lv_aload_n hx hb dX0_append_97 rfl (lv_at hl 1 rfl) ?_
      refine va_get (D := D) (ci := 0) (v := .ref (a 14)) (C := RX0) (T := TX0) (N := 8) hx hb hts hinX0 hown hK1 hP 8 rfl rfl 5 (by decide) (hts (.fieldLink RX0 27 "KnowledgeModel$Formulas" "nestingOf" "[I") (List.mem_of_getElem? (i := 7) rfl)) (fun _ h9 => h9) rfl dX0_append_98 ?_
      refine lv_iload_n hx hb dX0_append_101 rfl (lv_at hl 4 rfl) ?_
      refine lv_iload hx hb dX0_append_102 (lv_at hl 5 rfl) ?_
      refine xcalli (va_runV (As := [.ref (a 14), .int x, .int y]) (rest := [.int (nI nf), .ref (a 14)]) ⟨hx, hb, hml, hown, hts⟩ (c_X0_greatestOf l D cs a M_10 N nf 11 x y (Or.inr rfl) (by omega) hpx hpy) (cwV 3 hts gX0_append_X0_greatestOf rfl rfl rfl (by decide +kernel) ⟨Nat.le_of_ble_eq_true rfl, Nat.le_of_ble_eq_true rfl⟩) (xpreV hP hK (ci := 0) 8 rfl rfl) rfl rfl hl.1 rfl (lv_room (Nat.le_of_ble_eq_true rfl)) dX0_append_104 ⟨Nat.le_of_ble_eq_true rfl, Nat.le_of_ble_eq_true rfl⟩) hS hP (fun H locs hP hS => ?_)
      refine lv_iload_n hx hb dX0_append_107 rfl (lv_at hl 2 rfl) ?_
      refine lv_bipush (v := (nI 6)) hx hb dX0_append_108 (by decide) ?_
      refine lv_icmp_ne (tgt := 117) hx hb dX0_append_110 (by decide) (fun c110 => ?_) (fun c110 => ?_)
      ·
        replace c110 : ¬ kd = 6 := k_net c110 (by omega) (by omega)
        refine lv_iconst (v := (nI 0)) hx hb dX0_append_117 (by decide) ?_
        refine lv_iadd hx hb dX0_append_118 ?_
        refine lv_topi (fun x_12 hx_12 => ?_)
        refine xiast (j := nf) (q0 := 14) (t0 := 0) (ws' := xc cs a (wr M_10 11 nf x_12) N) hx hb hK1 hP (xD hI) hS rfl rfl (by omega) (by decide) xs_14 dX0_append_119 (fun H locs hP hS => ?_)
        obtain ⟨M_13, hM_13⟩ : ∃ z, z = wr M_10 11 nf x_12 := ⟨_, rfl⟩
        rw [← hM_13] at hP
        have hk_14 : M_13 0 2 = nI nf := by rw [hM_13]; exact (wr_ne (Or.inl (by omega))).trans hk_11
        refine lv_iload_n hx hb dX0_append_120 rfl (lv_at hl 2 rfl) ?_
        refine lv_bipush (v := (nI 6)) hx hb dX0_append_121 (by decide) ?_
        refine lv_icmp_ne (tgt := 130) hx hb dX0_append_123 (by decide) (fun c123 => ?_) (fun c123 => ?_)
        ·
          replace c123 : ¬ kd = 6 := k_net c123 (by omega) (by omega)
          refine lv_aload_n hx hb dX0_append_130 rfl (lv_at hl 1 rfl) ?_
          refine lv_iload hx hb dX0_append_131 (lv_at hl 5 rfl) ?_
          refine xcalll (va_runV (As := [.int y]) (rest := []) ⟨hx, hb, hml, hown, hts⟩ (c_X0_neededOf l D cs a M_13 N nf y (by omega) hpy) (cwV 1 hts gX0_append_X0_neededOf rfl rfl rfl (by decide +kernel) ⟨Nat.le_of_ble_eq_true rfl, Nat.le_of_ble_eq_true rfl⟩) (xpreV hP hK (ci := 0) 8 rfl rfl) rfl rfl hl.1 rfl (lv_room (Nat.le_of_ble_eq_true rfl)) dX0_append_133 ⟨Nat.le_of_ble_eq_true rfl, Nat.le_of_ble_eq_true rfl⟩) hS hP (fun H locs hP hS => ?_)
          refine lv_lstore (lv' := [(7, .long (ndv N y)), (6, .int (bI (isDp kd))), (0, .ref (a 8)), (1, .int (nI kd)), (2, .int su), (3, .int x), (4, .int y), (5, .int (nI nf))]) hx hb dX0_append_136 hl (by decide) rfl (fun ls hl => ?_)
          refine lv_aload_n hx hb dX0_append_138 rfl (lv_at hl 2 rfl) ?_
          refine va_get (D := D) (ci := 0) (v := .ref (a 15)) (C := RX0) (T := TX0) (N := 8) hx hb hts hinX0 hown hK1 hP 8 rfl rfl 6 (by decide) (hts (.fieldLink RX0 30 "KnowledgeModel$Formulas" "neededFor" "[J") (List.mem_of_getElem? (i := 8) rfl)) (fun _ h9 => h9) rfl dX0_append_139 ?_
          refine lv_iload hx hb dX0_append_142 (lv_at hl 7 rfl) ?_
          refine lv_lconst (v := 1) hx hb dX0_append_144 (by decide) ?_
          refine lv_iload hx hb dX0_append_145 (lv_at hl 7 rfl) ?_
          refine lv_lshl (v := (1 : Int64) <<< ((nI nf).toInt64 &&& 63)) hx hb dX0_append_147 rfl ?_
          refine lv_aload_n hx hb dX0_append_148 rfl (lv_at hl 2 rfl) ?_
          refine lv_iload_n hx hb dX0_append_149 rfl (lv_at hl 5 rfl) ?_
          refine xcalll (va_runV (As := [.int x]) (rest := [.long ((1 : Int64) <<< ((nI nf).toInt64 &&& 63)), .int (nI nf), .ref (a 15)]) ⟨hx, hb, hml, hown, hts⟩ (c_X0_neededOf l D cs a M_13 N nf x (by omega) hpx) (cwV 1 hts gX0_append_X0_neededOf rfl rfl rfl (by decide +kernel) ⟨Nat.le_of_ble_eq_true rfl, Nat.le_of_ble_eq_true rfl⟩) (xpreV hP hK (ci := 0) 8 rfl rfl) rfl rfl hl.1 rfl (lv_room (Nat.le_of_ble_eq_true rfl)) dX0_append_150 ⟨Nat.le_of_ble_eq_true rfl, Nat.le_of_ble_eq_true rfl⟩) hS hP (fun H locs hP hS => ?_)
          refine lv_lor hx hb dX0_append_153 ?_
          refine lv_lload hx hb dX0_append_154 (lv_at hl 0 rfl) ?_
          refine lv_lor hx hb dX0_append_156 ?_
          refine lv_topl (fun y_15 hy_15 => ?_)
          refine xlast (j := nf) (q0 := 15) (t0 := 1) (ws' := xc cs a M_13 (vp_updL N nf y_15)) hx hb hK1 hP (xD hI) hS rfl rfl (by omega) (by decide) rfl dX0_append_157 (fun H locs hP hS => ?_)
          obtain ⟨N_16, hN_16⟩ : ∃ z, z = vp_updL N nf y_15 := ⟨_, rfl⟩
          rw [← hN_16] at hP
          refine lv_aload_n hx hb dX0_append_158 rfl (lv_at hl 2 rfl) ?_
          refine lv_iload hx hb dX0_append_159 (lv_at hl 7 rfl) ?_
          refine lv_iconst (v := (nI 1)) hx hb dX0_append_161 (by decide) ?_
          refine xiadd hx hb dX0_append_162 ?_
          refine xput (D := D) (ci := 0) (v := .int (nI (nf + 1))) (ty := .int) (C := RX0) (T := TX0) (N := 8) (ws' := xc cs a (wr M_13 0 2 (nI (nf + 1))) N_16) hx hb hts hinX0 tyX0 tyX0_ok nmX0 hown hK1 hP (xD hI) hS 8 rfl rfl 7 (by decide) (hts (.fieldLink RX0 34 "KnowledgeModel$Formulas" "count" "I") (List.mem_of_getElem? (i := 1) rfl)) (fun _ h9 => h9) rfl (by decide +kernel) rfl rfl (Nat.le_of_ble_eq_true rfl) rfl dX0_append_163 (fun H locs hP hS => ?_)
          obtain ⟨M_17, hM_17⟩ : ∃ z, z = wr M_13 0 2 (nI (nf + 1)) := ⟨_, rfl⟩
          rw [← hM_17] at hP
          have hk_18 : M_17 0 2 = nI (nf + 1) := by rw [hM_17]; exact wr_same
          refine lv_iload hx hb dX0_append_166 (lv_at hl 7 rfl) ?_
          subst hQ
          have hMfin : M_17 = appM M nf kd su x y := by first | (exfalso; omega) | (exfalso; rw [c110] at c80; revert c80; decide) | ((have hk6 : (kd == 6) = true := by simp [c110]); simp only [appM, dpV, nsV, hk6, Nat.reduceAdd, wr_row (show (10 : Nat) ≠ 6 by decide), wr_row (show (10 : Nat) ≠ 7 by decide), wr_row (show (10 : Nat) ≠ 8 by decide), wr_row (show (10 : Nat) ≠ 9 by decide), wr_row (show (11 : Nat) ≠ 6 by decide), wr_row (show (11 : Nat) ≠ 7 by decide), wr_row (show (11 : Nat) ≠ 8 by decide), wr_row (show (11 : Nat) ≠ 9 by decide), wr_row (show (11 : Nat) ≠ 10 by decide), hM_1, hM_3, hM_5, hM_7, c80, hx_9, hM_10, c110, hx_12, hM_13, c123, hy_15, hN_16, hM_17]; rfl) | ((have hk6 : (kd == 6) = false := by simp [c110]); simp only [appM, dpV, nsV, hk6, Nat.reduceAdd, wr_row (show (10 : Nat) ≠ 6 by decide), wr_row (show (10 : Nat) ≠ 7 by decide), wr_row (show (10 : Nat) ≠ 8 by decide), wr_row (show (10 : Nat) ≠ 9 by decide), wr_row (show (11 : Nat) ≠ 6 by decide), wr_row (show (11 : Nat) ≠ 7 by decide), wr_row (show (11 : Nat) ≠ 8 by decide), wr_row (show (11 : Nat) ≠ 9 by decide), wr_row (show (11 : Nat) ≠ 10 by decide), hM_1, hM_3, hM_5, hM_7, c80, hx_9, hM_10, c110, hx_12, hM_13, c123, hy_15, hN_16, hM_17]; rfl)
          rw [hMfin] at hP
          have hNfin : N_16 = appN N nf kd x y := by first | (exfalso; omega) | (simp only [appN, ndN, hM_1, hM_3, hM_5, hM_7, c80, hx_9, hM_10, c110, hx_12, hM_13, c123, hy_15, hN_16, hM_17]; rfl) | (simp only [appN, ndN, if_true, if_false, hM_1, hM_3, hM_5, hM_7, c80, hx_9, hM_10, c110, hx_12, hM_13, c123, hy_15, hN_16, hM_17]; rfl) | (simp [appN, ndN, hM_1, hM_3, hM_5, hM_7, c80, hx_9, hM_10, c110, hx_12, hM_13, c123, hy_15, hN_16, hM_17]; done)
          rw [hNfin] at hP
          have hrel : True := by trivial
          have hfin : (nI nf) = nI nf := by rfl
          exact W.iret hx hb hr (fun t ht hW => ⟨⟨_, (), rfl, ⟨hfin, hrel⟩, by rw [← ht] at hP; exact hP⟩, hS.F ht⟩) hS.2.2 dX0_append_168
        ·
          replace c123 : kd = 6 := k_nef c123 (by omega) (by omega)
          refine lv_lconst (v := 0) hx hb dX0_append_126 (by decide) ?_
          refine lv_goto (tgt := 136) hx hb dX0_append_127 (by decide) ?_
          refine lv_lstore (lv' := [(7, .long (0 : Int64)), (6, .int (bI (isDp kd))), (0, .ref (a 8)), (1, .int (nI kd)), (2, .int su), (3, .int x), (4, .int y), (5, .int (nI nf))]) hx hb dX0_append_136 hl (by decide) rfl (fun ls hl => ?_)
          refine lv_aload_n hx hb dX0_append_138 rfl (lv_at hl 2 rfl) ?_
          refine va_get (D := D) (ci := 0) (v := .ref (a 15)) (C := RX0) (T := TX0) (N := 8) hx hb hts hinX0 hown hK1 hP 8 rfl rfl 6 (by decide) (hts (.fieldLink RX0 30 "KnowledgeModel$Formulas" "neededFor" "[J") (List.mem_of_getElem? (i := 8) rfl)) (fun _ h9 => h9) rfl dX0_append_139 ?_
          refine lv_iload hx hb dX0_append_142 (lv_at hl 7 rfl) ?_
          refine lv_lconst (v := 1) hx hb dX0_append_144 (by decide) ?_
          refine lv_iload hx hb dX0_append_145 (lv_at hl 7 rfl) ?_
          refine lv_lshl (v := (1 : Int64) <<< ((nI nf).toInt64 &&& 63)) hx hb dX0_append_147 rfl ?_
          refine lv_aload_n hx hb dX0_append_148 rfl (lv_at hl 2 rfl) ?_
          refine lv_iload_n hx hb dX0_append_149 rfl (lv_at hl 5 rfl) ?_
          refine xcalll (va_runV (As := [.int x]) (rest := [.long ((1 : Int64) <<< ((nI nf).toInt64 &&& 63)), .int (nI nf), .ref (a 15)]) ⟨hx, hb, hml, hown, hts⟩ (c_X0_neededOf l D cs a M_13 N nf x (by omega) hpx) (cwV 1 hts gX0_append_X0_neededOf rfl rfl rfl (by decide +kernel) ⟨Nat.le_of_ble_eq_true rfl, Nat.le_of_ble_eq_true rfl⟩) (xpreV hP hK (ci := 0) 8 rfl rfl) rfl rfl hl.1 rfl (lv_room (Nat.le_of_ble_eq_true rfl)) dX0_append_150 ⟨Nat.le_of_ble_eq_true rfl, Nat.le_of_ble_eq_true rfl⟩) hS hP (fun H locs hP hS => ?_)
          refine lv_lor hx hb dX0_append_153 ?_
          refine lv_lload hx hb dX0_append_154 (lv_at hl 0 rfl) ?_
          refine lv_lor hx hb dX0_append_156 ?_
          refine lv_topl (fun y_19 hy_19 => ?_)
          refine xlast (j := nf) (q0 := 15) (t0 := 1) (ws' := xc cs a M_13 (vp_updL N nf y_19)) hx hb hK1 hP (xD hI) hS rfl rfl (by omega) (by decide) rfl dX0_append_157 (fun H locs hP hS => ?_)
          obtain ⟨N_20, hN_20⟩ : ∃ z, z = vp_updL N nf y_19 := ⟨_, rfl⟩
          rw [← hN_20] at hP
          refine lv_aload_n hx hb dX0_append_158 rfl (lv_at hl 2 rfl) ?_
          refine lv_iload hx hb dX0_append_159 (lv_at hl 7 rfl) ?_
          refine lv_iconst (v := (nI 1)) hx hb dX0_append_161 (by decide) ?_
          refine xiadd hx hb dX0_append_162 ?_
          refine xput (D := D) (ci := 0) (v := .int (nI (nf + 1))) (ty := .int) (C := RX0) (T := TX0) (N := 8) (ws' := xc cs a (wr M_13 0 2 (nI (nf + 1))) N_20) hx hb hts hinX0 tyX0 tyX0_ok nmX0 hown hK1 hP (xD hI) hS 8 rfl rfl 7 (by decide) (hts (.fieldLink RX0 34 "KnowledgeModel$Formulas" "count" "I") (List.mem_of_getElem? (i := 1) rfl)) (fun _ h9 => h9) rfl (by decide +kernel) rfl rfl (Nat.le_of_ble_eq_true rfl) rfl dX0_append_163 (fun H locs hP hS => ?_)
          obtain ⟨M_21, hM_21⟩ : ∃ z, z = wr M_13 0 2 (nI (nf + 1)) := ⟨_, rfl⟩
          rw [← hM_21] at hP
          have hk_22 : M_21 0 2 = nI (nf + 1) := by rw [hM_21]; exact wr_same
          refine lv_iload hx hb dX0_append_166 (lv_at hl 7 rfl) ?_
          subst hQ
          have hMfin : M_21 = appM M nf kd su x y := by first | (exfalso; omega) | (exfalso; rw [c110] at c80; revert c80; decide) | ((have hk6 : (kd == 6) = true := by simp [c110]); simp only [appM, dpV, nsV, hk6, Nat.reduceAdd, wr_row (show (10 : Nat) ≠ 6 by decide), wr_row (show (10 : Nat) ≠ 7 by decide), wr_row (show (10 : Nat) ≠ 8 by decide), wr_row (show (10 : Nat) ≠ 9 by decide), wr_row (show (11 : Nat) ≠ 6 by decide), wr_row (show (11 : Nat) ≠ 7 by decide), wr_row (show (11 : Nat) ≠ 8 by decide), wr_row (show (11 : Nat) ≠ 9 by decide), wr_row (show (11 : Nat) ≠ 10 by decide), hM_1, hM_3, hM_5, hM_7, c80, hx_9, hM_10, c110, hx_12, hM_13, c123, hy_19, hN_20, hM_21]; rfl) | ((have hk6 : (kd == 6) = false := by simp [c110]); simp only [appM, dpV, nsV, hk6, Nat.reduceAdd, wr_row (show (10 : Nat) ≠ 6 by decide), wr_row (show (10 : Nat) ≠ 7 by decide), wr_row (show (10 : Nat) ≠ 8 by decide), wr_row (show (10 : Nat) ≠ 9 by decide), wr_row (show (11 : Nat) ≠ 6 by decide), wr_row (show (11 : Nat) ≠ 7 by decide), wr_row (show (11 : Nat) ≠ 8 by decide), wr_row (show (11 : Nat) ≠ 9 by decide), wr_row (show (11 : Nat) ≠ 10 by decide), hM_1, hM_3, hM_5, hM_7, c80, hx_9, hM_10, c110, hx_12, hM_13, c123, hy_19, hN_20, hM_21]; rfl)
          rw [hMfin] at hP
          have hNfin : N_20 = appN N nf kd x y := by first | (exfalso; omega) | (simp only [appN, ndN, hM_1, hM_3, hM_5, hM_7, c80, hx_9, hM_10, c110, hx_12, hM_13, c123, hy_19, hN_20, hM_21]; rfl) | (simp only [appN, ndN, if_true, if_false, hM_1, hM_3, hM_5, hM_7, c80, hx_9, hM_10, c110, hx_12, hM_13, c123, hy_19, hN_20, hM_21]; rfl) | (simp [appN, ndN, hM_1, hM_3, hM_5, hM_7, c80, hx_9, hM_10, c110, hx_12, hM_13, c123, hy_19, hN_20, hM_21]; done)
          rw [hNfin] at hP
          have hrel : True := by trivial
          have hfin : (nI nf) = nI nf := by rfl
          exact W.iret hx hb hr (fun t ht hW => ⟨⟨_, (), rfl, ⟨hfin, hrel⟩, by rw [← ht] at hP; exact hP⟩, hS.F ht⟩) hS.2.2 dX0_append_168
      ·
        replace c110 : kd = 6 := k_nef c110 (by omega) (by omega)
        refine lv_iconst (v := (nI 1)) hx hb dX0_append_113 (by decide) ?_
        refine lv_goto (tgt := 118) hx hb dX0_append_114 (by decide) ?_
        refine lv_iadd hx hb dX0_append_118 ?_
        refine lv_topi (fun x_23 hx_23 => ?_)
        refine xiast (j := nf) (q0 := 14) (t0 := 0) (ws' := xc cs a (wr M_10 11 nf x_23) N) hx hb hK1 hP (xD hI) hS rfl rfl (by omega) (by decide) xs_14 dX0_append_119 (fun H locs hP hS => ?_)
        obtain ⟨M_24, hM_24⟩ : ∃ z, z = wr M_10 11 nf x_23 := ⟨_, rfl⟩
        rw [← hM_24] at hP
        have hk_25 : M_24 0 2 = nI nf := by rw [hM_24]; exact (wr_ne (Or.inl (by omega))).trans hk_11
        refine lv_iload_n hx hb dX0_append_120 rfl (lv_at hl 2 rfl) ?_
        refine lv_bipush (v := (nI 6)) hx hb dX0_append_121 (by decide) ?_
        refine lv_icmp_ne (tgt := 130) hx hb dX0_append_123 (by decide) (fun c123 => ?_) (fun c123 => ?_)
        ·
          replace c123 : ¬ kd = 6 := k_net c123 (by omega) (by omega)
          refine lv_aload_n hx hb dX0_append_130 rfl (lv_at hl 1 rfl) ?_
          refine lv_iload hx hb dX0_append_131 (lv_at hl 5 rfl) ?_
          refine xcalll (va_runV (As := [.int y]) (rest := []) ⟨hx, hb, hml, hown, hts⟩ (c_X0_neededOf l D cs a M_24 N nf y (by omega) hpy) (cwV 1 hts gX0_append_X0_neededOf rfl rfl rfl (by decide +kernel) ⟨Nat.le_of_ble_eq_true rfl, Nat.le_of_ble_eq_true rfl⟩) (xpreV hP hK (ci := 0) 8 rfl rfl) rfl rfl hl.1 rfl (lv_room (Nat.le_of_ble_eq_true rfl)) dX0_append_133 ⟨Nat.le_of_ble_eq_true rfl, Nat.le_of_ble_eq_true rfl⟩) hS hP (fun H locs hP hS => ?_)
          refine lv_lstore (lv' := [(7, .long (ndv N y)), (6, .int (bI (isDp kd))), (0, .ref (a 8)), (1, .int (nI kd)), (2, .int su), (3, .int x), (4, .int y), (5, .int (nI nf))]) hx hb dX0_append_136 hl (by decide) rfl (fun ls hl => ?_)
          refine lv_aload_n hx hb dX0_append_138 rfl (lv_at hl 2 rfl) ?_
          refine va_get (D := D) (ci := 0) (v := .ref (a 15)) (C := RX0) (T := TX0) (N := 8) hx hb hts hinX0 hown hK1 hP 8 rfl rfl 6 (by decide) (hts (.fieldLink RX0 30 "KnowledgeModel$Formulas" "neededFor" "[J") (List.mem_of_getElem? (i := 8) rfl)) (fun _ h9 => h9) rfl dX0_append_139 ?_
          refine lv_iload hx hb dX0_append_142 (lv_at hl 7 rfl) ?_
          refine lv_lconst (v := 1) hx hb dX0_append_144 (by decide) ?_
          refine lv_iload hx hb dX0_append_145 (lv_at hl 7 rfl) ?_
          refine lv_lshl (v := (1 : Int64) <<< ((nI nf).toInt64 &&& 63)) hx hb dX0_append_147 rfl ?_
          refine lv_aload_n hx hb dX0_append_148 rfl (lv_at hl 2 rfl) ?_
          refine lv_iload_n hx hb dX0_append_149 rfl (lv_at hl 5 rfl) ?_
          refine xcalll (va_runV (As := [.int x]) (rest := [.long ((1 : Int64) <<< ((nI nf).toInt64 &&& 63)), .int (nI nf), .ref (a 15)]) ⟨hx, hb, hml, hown, hts⟩ (c_X0_neededOf l D cs a M_24 N nf x (by omega) hpx) (cwV 1 hts gX0_append_X0_neededOf rfl rfl rfl (by decide +kernel) ⟨Nat.le_of_ble_eq_true rfl, Nat.le_of_ble_eq_true rfl⟩) (xpreV hP hK (ci := 0) 8 rfl rfl) rfl rfl hl.1 rfl (lv_room (Nat.le_of_ble_eq_true rfl)) dX0_append_150 ⟨Nat.le_of_ble_eq_true rfl, Nat.le_of_ble_eq_true rfl⟩) hS hP (fun H locs hP hS => ?_)
          refine lv_lor hx hb dX0_append_153 ?_
          refine lv_lload hx hb dX0_append_154 (lv_at hl 0 rfl) ?_
          refine lv_lor hx hb dX0_append_156 ?_
          refine lv_topl (fun y_26 hy_26 => ?_)
          refine xlast (j := nf) (q0 := 15) (t0 := 1) (ws' := xc cs a M_24 (vp_updL N nf y_26)) hx hb hK1 hP (xD hI) hS rfl rfl (by omega) (by decide) rfl dX0_append_157 (fun H locs hP hS => ?_)
          obtain ⟨N_27, hN_27⟩ : ∃ z, z = vp_updL N nf y_26 := ⟨_, rfl⟩
          rw [← hN_27] at hP
          refine lv_aload_n hx hb dX0_append_158 rfl (lv_at hl 2 rfl) ?_
          refine lv_iload hx hb dX0_append_159 (lv_at hl 7 rfl) ?_
          refine lv_iconst (v := (nI 1)) hx hb dX0_append_161 (by decide) ?_
          refine xiadd hx hb dX0_append_162 ?_
          refine xput (D := D) (ci := 0) (v := .int (nI (nf + 1))) (ty := .int) (C := RX0) (T := TX0) (N := 8) (ws' := xc cs a (wr M_24 0 2 (nI (nf + 1))) N_27) hx hb hts hinX0 tyX0 tyX0_ok nmX0 hown hK1 hP (xD hI) hS 8 rfl rfl 7 (by decide) (hts (.fieldLink RX0 34 "KnowledgeModel$Formulas" "count" "I") (List.mem_of_getElem? (i := 1) rfl)) (fun _ h9 => h9) rfl (by decide +kernel) rfl rfl (Nat.le_of_ble_eq_true rfl) rfl dX0_append_163 (fun H locs hP hS => ?_)
          obtain ⟨M_28, hM_28⟩ : ∃ z, z = wr M_24 0 2 (nI (nf + 1)) := ⟨_, rfl⟩
          rw [← hM_28] at hP
          have hk_29 : M_28 0 2 = nI (nf + 1) := by rw [hM_28]; exact wr_same
          refine lv_iload hx hb dX0_append_166 (lv_at hl 7 rfl) ?_
          subst hQ
          have hMfin : M_28 = appM M nf kd su x y := by first | (exfalso; omega) | (exfalso; rw [c110] at c80; revert c80; decide) | ((have hk6 : (kd == 6) = true := by simp [c110]); simp only [appM, dpV, nsV, hk6, Nat.reduceAdd, wr_row (show (10 : Nat) ≠ 6 by decide), wr_row (show (10 : Nat) ≠ 7 by decide), wr_row (show (10 : Nat) ≠ 8 by decide), wr_row (show (10 : Nat) ≠ 9 by decide), wr_row (show (11 : Nat) ≠ 6 by decide), wr_row (show (11 : Nat) ≠ 7 by decide), wr_row (show (11 : Nat) ≠ 8 by decide), wr_row (show (11 : Nat) ≠ 9 by decide), wr_row (show (11 : Nat) ≠ 10 by decide), hM_1, hM_3, hM_5, hM_7, c80, hx_9, hM_10, c110, hx_23, hM_24, c123, hy_26, hN_27, hM_28]; rfl) | ((have hk6 : (kd == 6) = false := by simp [c110]); simp only [appM, dpV, nsV, hk6, Nat.reduceAdd, wr_row (show (10 : Nat) ≠ 6 by decide), wr_row (show (10 : Nat) ≠ 7 by decide), wr_row (show (10 : Nat) ≠ 8 by decide), wr_row (show (10 : Nat) ≠ 9 by decide), wr_row (show (11 : Nat) ≠ 6 by decide), wr_row (show (11 : Nat) ≠ 7 by decide), wr_row (show (11 : Nat) ≠ 8 by decide), wr_row (show (11 : Nat) ≠ 9 by decide), wr_row (show (11 : Nat) ≠ 10 by decide), hM_1, hM_3, hM_5, hM_7, c80, hx_9, hM_10, c110, hx_23, hM_24, c123, hy_26, hN_27, hM_28]; rfl)
          rw [hMfin] at hP
          have hNfin : N_27 = appN N nf kd x y := by first | (exfalso; omega) | (simp only [appN, ndN, hM_1, hM_3, hM_5, hM_7, c80, hx_9, hM_10, c110, hx_23, hM_24, c123, hy_26, hN_27, hM_28]; rfl) | (simp only [appN, ndN, if_true, if_false, hM_1, hM_3, hM_5, hM_7, c80, hx_9, hM_10, c110, hx_23, hM_24, c123, hy_26, hN_27, hM_28]; rfl) | (simp [appN, ndN, hM_1, hM_3, hM_5, hM_7, c80, hx_9, hM_10, c110, hx_23, hM_24, c123, hy_26, hN_27, hM_28]; done)
          rw [hNfin] at hP
          have hrel : True := by trivial
          have hfin : (nI nf) = nI nf := by rfl
          exact W.iret hx hb hr (fun t ht hW => ⟨⟨_, (), rfl, ⟨hfin, hrel⟩, by rw [← ht] at hP; exact hP⟩, hS.F ht⟩) hS.2.2 dX0_append_168
        ·
          replace c123 : kd = 6 := k_nef c123 (by omega) (by omega)
          refine lv_lconst (v := 0) hx hb dX0_append_126 (by decide) ?_
          refine lv_goto (tgt := 136) hx hb dX0_append_127 (by decide) ?_
          refine lv_lstore (lv' := [(7, .long (0 : Int64)), (6, .int (bI (isDp kd))), (0, .ref (a 8)), (1, .int (nI kd)), (2, .int su), (3, .int x), (4, .int y), (5, .int (nI nf))]) hx hb dX0_append_136 hl (by decide) rfl (fun ls hl => ?_)
          refine lv_aload_n hx hb dX0_append_138 rfl (lv_at hl 2 rfl) ?_
          refine va_get (D := D) (ci := 0) (v := .ref (a 15)) (C := RX0) (T := TX0) (N := 8) hx hb hts hinX0 hown hK1 hP 8 rfl rfl 6 (by decide) (hts (.fieldLink RX0 30 "KnowledgeModel$Formulas" "neededFor" "[J") (List.mem_of_getElem? (i := 8) rfl)) (fun _ h9 => h9) rfl dX0_append_139 ?_
          refine lv_iload hx hb dX0_append_142 (lv_at hl 7 rfl) ?_
          refine lv_lconst (v := 1) hx hb dX0_append_144 (by decide) ?_
          refine lv_iload hx hb dX0_append_145 (lv_at hl 7 rfl) ?_
          refine lv_lshl (v := (1 : Int64) <<< ((nI nf).toInt64 &&& 63)) hx hb dX0_append_147 rfl ?_
          refine lv_aload_n hx hb dX0_append_148 rfl (lv_at hl 2 rfl) ?_
          refine lv_iload_n hx hb dX0_append_149 rfl (lv_at hl 5 rfl) ?_
          refine xcalll (va_runV (As := [.int x]) (rest := [.long ((1 : Int64) <<< ((nI nf).toInt64 &&& 63)), .int (nI nf), .ref (a 15)]) ⟨hx, hb, hml, hown, hts⟩ (c_X0_neededOf l D cs a M_24 N nf x (by omega) hpx) (cwV 1 hts gX0_append_X0_neededOf rfl rfl rfl (by decide +kernel) ⟨Nat.le_of_ble_eq_true rfl, Nat.le_of_ble_eq_true rfl⟩) (xpreV hP hK (ci := 0) 8 rfl rfl) rfl rfl hl.1 rfl (lv_room (Nat.le_of_ble_eq_true rfl)) dX0_append_150 ⟨Nat.le_of_ble_eq_true rfl, Nat.le_of_ble_eq_true rfl⟩) hS hP (fun H locs hP hS => ?_)
          refine lv_lor hx hb dX0_append_153 ?_
          refine lv_lload hx hb dX0_append_154 (lv_at hl 0 rfl) ?_
          refine lv_lor hx hb dX0_append_156 ?_
          refine lv_topl (fun y_30 hy_30 => ?_)
          refine xlast (j := nf) (q0 := 15) (t0 := 1) (ws' := xc cs a M_24 (vp_updL N nf y_30)) hx hb hK1 hP (xD hI) hS rfl rfl (by omega) (by decide) rfl dX0_append_157 (fun H locs hP hS => ?_)
          obtain ⟨N_31, hN_31⟩ : ∃ z, z = vp_updL N nf y_30 := ⟨_, rfl⟩
          rw [← hN_31] at hP
          refine lv_aload_n hx hb dX0_append_158 rfl (lv_at hl 2 rfl) ?_
          refine lv_iload hx hb dX0_append_159 (lv_at hl 7 rfl) ?_
          refine lv_iconst (v := (nI 1)) hx hb dX0_append_161 (by decide) ?_
          refine xiadd hx hb dX0_append_162 ?_
          refine xput (D := D) (ci := 0) (v := .int (nI (nf + 1))) (ty := .int) (C := RX0) (T := TX0) (N := 8) (ws' := xc cs a (wr M_24 0 2 (nI (nf + 1))) N_31) hx hb hts hinX0 tyX0 tyX0_ok nmX0 hown hK1 hP (xD hI) hS 8 rfl rfl 7 (by decide) (hts (.fieldLink RX0 34 "KnowledgeModel$Formulas" "count" "I") (List.mem_of_getElem? (i := 1) rfl)) (fun _ h9 => h9) rfl (by decide +kernel) rfl rfl (Nat.le_of_ble_eq_true rfl) rfl dX0_append_163 (fun H locs hP hS => ?_)
          obtain ⟨M_32, hM_32⟩ : ∃ z, z = wr M_24 0 2 (nI (nf + 1)) := ⟨_, rfl⟩
          rw [← hM_32] at hP
          have hk_33 : M_32 0 2 = nI (nf + 1) := by rw [hM_32]; exact wr_same
          refine lv_iload hx hb dX0_append_166 (lv_at hl 7 rfl) ?_
          subst hQ
          have hMfin : M_32 = appM M nf kd su x y := by first | (exfalso; omega) | (exfalso; rw [c110] at c80; revert c80; decide) | ((have hk6 : (kd == 6) = true := by simp [c110]); simp only [appM, dpV, nsV, hk6, Nat.reduceAdd, wr_row (show (10 : Nat) ≠ 6 by decide), wr_row (show (10 : Nat) ≠ 7 by decide), wr_row (show (10 : Nat) ≠ 8 by decide), wr_row (show (10 : Nat) ≠ 9 by decide), wr_row (show (11 : Nat) ≠ 6 by decide), wr_row (show (11 : Nat) ≠ 7 by decide), wr_row (show (11 : Nat) ≠ 8 by decide), wr_row (show (11 : Nat) ≠ 9 by decide), wr_row (show (11 : Nat) ≠ 10 by decide), hM_1, hM_3, hM_5, hM_7, c80, hx_9, hM_10, c110, hx_23, hM_24, c123, hy_30, hN_31, hM_32]; rfl) | ((have hk6 : (kd == 6) = false := by simp [c110]); simp only [appM, dpV, nsV, hk6, Nat.reduceAdd, wr_row (show (10 : Nat) ≠ 6 by decide), wr_row (show (10 : Nat) ≠ 7 by decide), wr_row (show (10 : Nat) ≠ 8 by decide), wr_row (show (10 : Nat) ≠ 9 by decide), wr_row (show (11 : Nat) ≠ 6 by decide), wr_row (show (11 : Nat) ≠ 7 by decide), wr_row (show (11 : Nat) ≠ 8 by decide), wr_row (show (11 : Nat) ≠ 9 by decide), wr_row (show (11 : Nat) ≠ 10 by decide), hM_1, hM_3, hM_5, hM_7, c80, hx_9, hM_10, c110, hx_23, hM_24, c123, hy_30, hN_31, hM_32]; rfl)
          rw [hMfin] at hP
          have hNfin : N_31 = appN N nf kd x y := by first | (exfalso; omega) | (simp only [appN, ndN, hM_1, hM_3, hM_5, hM_7, c80, hx_9, hM_10, c110, hx_23, hM_24, c123, hy_30, hN_31, hM_32]; rfl) | (simp only [appN, ndN, if_true, if_false, hM_1, hM_3, hM_5, hM_7, c80, hx_9, hM_10, c110, hx_23, hM_24, c123, hy_30, hN_31, hM_32]; rfl) | (simp [appN, ndN, hM_1, hM_3, hM_5, hM_7, c80, hx_9, hM_10, c110, hx_23, hM_24, c123, hy_30, hN_31, hM_32]; done)
          rw [hNfin] at hP
          have hrel : True := by trivial
          have hfin : (nI nf) = nI nf := by rfl
          exact W.iret hx hb hr (fun t ht hW => ⟨⟨_, (), rfl, ⟨hfin, hrel⟩, by rw [← ht] at hP; exact hP⟩, hS.F ht⟩) hS.2.2 dX0_append_168
    ·
      replace c80 := bI_n0 c80
      refine lv_iconst (v := (nI 1)) hx hb dX0_append_83 (by decide) ?_
      refine lv_goto (tgt := 88) hx hb dX0_append_84 (by decide) ?_
      refine lv_iadd hx hb dX0_append_88 ?_
      refine lv_topi (fun x_34 hx_34 => ?_)
      refine xiast (j := nf) (q0 := 13) (t0 := 0) (ws' := xc cs a (wr M_7 10 nf x_34) N) hx hb hK1 hP (xD hI) hS rfl rfl (by omega) (by decide) xs_13 dX0_append_89 (fun H locs hP hS => ?_)
      obtain ⟨M_35, hM_35⟩ : ∃ z, z = wr M_7 10 nf x_34 := ⟨_, rfl⟩
      rw [← hM_35] at hP
      have hk_36 : M_35 0 2 = nI nf := by rw [hM_35]; exact (wr_ne (Or.inl (by omega))).trans hk_8
      refine lv_aload_n hx hb dX0_append_90 rfl (lv_at hl 1 rfl) ?_
      refine va_get (D := D) (ci := 0) (v := .ref (a 14)) (C := RX0) (T := TX0) (N := 8) hx hb hts hinX0 hown hK1 hP 8 rfl rfl 5 (by decide) (hts (.fieldLink RX0 27 "KnowledgeModel$Formulas" "nestingOf" "[I") (List.mem_of_getElem? (i := 7) rfl)) (fun _ h9 => h9) rfl dX0_append_91 ?_
      refine lv_iload hx hb dX0_append_94 (lv_at hl 6 rfl) ?_
      refine lv_aload_n hx hb dX0_append_96 rfl (lv_at hl 1 rfl) ?_
      refine lv_aload_n hx hb dX0_append_97 rfl (lv_at hl 1 rfl) ?_
      refine va_get (D := D) (ci := 0) (v := .ref (a 14)) (C := RX0) (T := TX0) (N := 8) hx hb hts hinX0 hown hK1 hP 8 rfl rfl 5 (by decide) (hts (.fieldLink RX0 27 "KnowledgeModel$Formulas" "nestingOf" "[I") (List.mem_of_getElem? (i := 7) rfl)) (fun _ h9 => h9) rfl dX0_append_98 ?_
      refine lv_iload_n hx hb dX0_append_101 rfl (lv_at hl 4 rfl) ?_
      refine lv_iload hx hb dX0_append_102 (lv_at hl 5 rfl) ?_
      refine xcalli (va_runV (As := [.ref (a 14), .int x, .int y]) (rest := [.int (nI nf), .ref (a 14)]) ⟨hx, hb, hml, hown, hts⟩ (c_X0_greatestOf l D cs a M_35 N nf 11 x y (Or.inr rfl) (by omega) hpx hpy) (cwV 3 hts gX0_append_X0_greatestOf rfl rfl rfl (by decide +kernel) ⟨Nat.le_of_ble_eq_true rfl, Nat.le_of_ble_eq_true rfl⟩) (xpreV hP hK (ci := 0) 8 rfl rfl) rfl rfl hl.1 rfl (lv_room (Nat.le_of_ble_eq_true rfl)) dX0_append_104 ⟨Nat.le_of_ble_eq_true rfl, Nat.le_of_ble_eq_true rfl⟩) hS hP (fun H locs hP hS => ?_)
      refine lv_iload_n hx hb dX0_append_107 rfl (lv_at hl 2 rfl) ?_
      refine lv_bipush (v := (nI 6)) hx hb dX0_append_108 (by decide) ?_
      refine lv_icmp_ne (tgt := 117) hx hb dX0_append_110 (by decide) (fun c110 => ?_) (fun c110 => ?_)
      ·
        replace c110 : ¬ kd = 6 := k_net c110 (by omega) (by omega)
        refine lv_iconst (v := (nI 0)) hx hb dX0_append_117 (by decide) ?_
        refine lv_iadd hx hb dX0_append_118 ?_
        refine lv_topi (fun x_37 hx_37 => ?_)
        refine xiast (j := nf) (q0 := 14) (t0 := 0) (ws' := xc cs a (wr M_35 11 nf x_37) N) hx hb hK1 hP (xD hI) hS rfl rfl (by omega) (by decide) xs_14 dX0_append_119 (fun H locs hP hS => ?_)
        obtain ⟨M_38, hM_38⟩ : ∃ z, z = wr M_35 11 nf x_37 := ⟨_, rfl⟩
        rw [← hM_38] at hP
        have hk_39 : M_38 0 2 = nI nf := by rw [hM_38]; exact (wr_ne (Or.inl (by omega))).trans hk_36
        refine lv_iload_n hx hb dX0_append_120 rfl (lv_at hl 2 rfl) ?_
        refine lv_bipush (v := (nI 6)) hx hb dX0_append_121 (by decide) ?_
        refine lv_icmp_ne (tgt := 130) hx hb dX0_append_123 (by decide) (fun c123 => ?_) (fun c123 => ?_)
        ·
          replace c123 : ¬ kd = 6 := k_net c123 (by omega) (by omega)
          refine lv_aload_n hx hb dX0_append_130 rfl (lv_at hl 1 rfl) ?_
          refine lv_iload hx hb dX0_append_131 (lv_at hl 5 rfl) ?_
          refine xcalll (va_runV (As := [.int y]) (rest := []) ⟨hx, hb, hml, hown, hts⟩ (c_X0_neededOf l D cs a M_38 N nf y (by omega) hpy) (cwV 1 hts gX0_append_X0_neededOf rfl rfl rfl (by decide +kernel) ⟨Nat.le_of_ble_eq_true rfl, Nat.le_of_ble_eq_true rfl⟩) (xpreV hP hK (ci := 0) 8 rfl rfl) rfl rfl hl.1 rfl (lv_room (Nat.le_of_ble_eq_true rfl)) dX0_append_133 ⟨Nat.le_of_ble_eq_true rfl, Nat.le_of_ble_eq_true rfl⟩) hS hP (fun H locs hP hS => ?_)
          refine lv_lstore (lv' := [(7, .long (ndv N y)), (6, .int (bI (isDp kd))), (0, .ref (a 8)), (1, .int (nI kd)), (2, .int su), (3, .int x), (4, .int y), (5, .int (nI nf))]) hx hb dX0_append_136 hl (by decide) rfl (fun ls hl => ?_)
          refine lv_aload_n hx hb dX0_append_138 rfl (lv_at hl 2 rfl) ?_
          refine va_get (D := D) (ci := 0) (v := .ref (a 15)) (C := RX0) (T := TX0) (N := 8) hx hb hts hinX0 hown hK1 hP 8 rfl rfl 6 (by decide) (hts (.fieldLink RX0 30 "KnowledgeModel$Formulas" "neededFor" "[J") (List.mem_of_getElem? (i := 8) rfl)) (fun _ h9 => h9) rfl dX0_append_139 ?_
          refine lv_iload hx hb dX0_append_142 (lv_at hl 7 rfl) ?_
          refine lv_lconst (v := 1) hx hb dX0_append_144 (by decide) ?_
          refine lv_iload hx hb dX0_append_145 (lv_at hl 7 rfl) ?_
          refine lv_lshl (v := (1 : Int64) <<< ((nI nf).toInt64 &&& 63)) hx hb dX0_append_147 rfl ?_
          refine lv_aload_n hx hb dX0_append_148 rfl (lv_at hl 2 rfl) ?_
          refine lv_iload_n hx hb dX0_append_149 rfl (lv_at hl 5 rfl) ?_
          refine xcalll (va_runV (As := [.int x]) (rest := [.long ((1 : Int64) <<< ((nI nf).toInt64 &&& 63)), .int (nI nf), .ref (a 15)]) ⟨hx, hb, hml, hown, hts⟩ (c_X0_neededOf l D cs a M_38 N nf x (by omega) hpx) (cwV 1 hts gX0_append_X0_neededOf rfl rfl rfl (by decide +kernel) ⟨Nat.le_of_ble_eq_true rfl, Nat.le_of_ble_eq_true rfl⟩) (xpreV hP hK (ci := 0) 8 rfl rfl) rfl rfl hl.1 rfl (lv_room (Nat.le_of_ble_eq_true rfl)) dX0_append_150 ⟨Nat.le_of_ble_eq_true rfl, Nat.le_of_ble_eq_true rfl⟩) hS hP (fun H locs hP hS => ?_)
          refine lv_lor hx hb dX0_append_153 ?_
          refine lv_lload hx hb dX0_append_154 (lv_at hl 0 rfl) ?_
          refine lv_lor hx hb dX0_append_156 ?_
          refine lv_topl (fun y_40 hy_40 => ?_)
          refine xlast (j := nf) (q0 := 15) (t0 := 1) (ws' := xc cs a M_38 (vp_updL N nf y_40)) hx hb hK1 hP (xD hI) hS rfl rfl (by omega) (by decide) rfl dX0_append_157 (fun H locs hP hS => ?_)
          obtain ⟨N_41, hN_41⟩ : ∃ z, z = vp_updL N nf y_40 := ⟨_, rfl⟩
          rw [← hN_41] at hP
          refine lv_aload_n hx hb dX0_append_158 rfl (lv_at hl 2 rfl) ?_
          refine lv_iload hx hb dX0_append_159 (lv_at hl 7 rfl) ?_
          refine lv_iconst (v := (nI 1)) hx hb dX0_append_161 (by decide) ?_
          refine xiadd hx hb dX0_append_162 ?_
          refine xput (D := D) (ci := 0) (v := .int (nI (nf + 1))) (ty := .int) (C := RX0) (T := TX0) (N := 8) (ws' := xc cs a (wr M_38 0 2 (nI (nf + 1))) N_41) hx hb hts hinX0 tyX0 tyX0_ok nmX0 hown hK1 hP (xD hI) hS 8 rfl rfl 7 (by decide) (hts (.fieldLink RX0 34 "KnowledgeModel$Formulas" "count" "I") (List.mem_of_getElem? (i := 1) rfl)) (fun _ h9 => h9) rfl (by decide +kernel) rfl rfl (Nat.le_of_ble_eq_true rfl) rfl dX0_append_163 (fun H locs hP hS => ?_)
          obtain ⟨M_42, hM_42⟩ : ∃ z, z = wr M_38 0 2 (nI (nf + 1)) := ⟨_, rfl⟩
          rw [← hM_42] at hP
          have hk_43 : M_42 0 2 = nI (nf + 1) := by rw [hM_42]; exact wr_same
          refine lv_iload hx hb dX0_append_166 (lv_at hl 7 rfl) ?_
          subst hQ
          have hMfin : M_42 = appM M nf kd su x y := by first | (exfalso; omega) | (exfalso; rw [c110] at c80; revert c80; decide) | ((have hk6 : (kd == 6) = true := by simp [c110]); simp only [appM, dpV, nsV, hk6, Nat.reduceAdd, wr_row (show (10 : Nat) ≠ 6 by decide), wr_row (show (10 : Nat) ≠ 7 by decide), wr_row (show (10 : Nat) ≠ 8 by decide), wr_row (show (10 : Nat) ≠ 9 by decide), wr_row (show (11 : Nat) ≠ 6 by decide), wr_row (show (11 : Nat) ≠ 7 by decide), wr_row (show (11 : Nat) ≠ 8 by decide), wr_row (show (11 : Nat) ≠ 9 by decide), wr_row (show (11 : Nat) ≠ 10 by decide), hM_1, hM_3, hM_5, hM_7, c80, hx_34, hM_35, c110, hx_37, hM_38, c123, hy_40, hN_41, hM_42]; rfl) | ((have hk6 : (kd == 6) = false := by simp [c110]); simp only [appM, dpV, nsV, hk6, Nat.reduceAdd, wr_row (show (10 : Nat) ≠ 6 by decide), wr_row (show (10 : Nat) ≠ 7 by decide), wr_row (show (10 : Nat) ≠ 8 by decide), wr_row (show (10 : Nat) ≠ 9 by decide), wr_row (show (11 : Nat) ≠ 6 by decide), wr_row (show (11 : Nat) ≠ 7 by decide), wr_row (show (11 : Nat) ≠ 8 by decide), wr_row (show (11 : Nat) ≠ 9 by decide), wr_row (show (11 : Nat) ≠ 10 by decide), hM_1, hM_3, hM_5, hM_7, c80, hx_34, hM_35, c110, hx_37, hM_38, c123, hy_40, hN_41, hM_42]; rfl)
          rw [hMfin] at hP
          have hNfin : N_41 = appN N nf kd x y := by first | (exfalso; omega) | (simp only [appN, ndN, hM_1, hM_3, hM_5, hM_7, c80, hx_34, hM_35, c110, hx_37, hM_38, c123, hy_40, hN_41, hM_42]; rfl) | (simp only [appN, ndN, if_true, if_false, hM_1, hM_3, hM_5, hM_7, c80, hx_34, hM_35, c110, hx_37, hM_38, c123, hy_40, hN_41, hM_42]; rfl) | (simp [appN, ndN, hM_1, hM_3, hM_5, hM_7, c80, hx_34, hM_35, c110, hx_37, hM_38, c123, hy_40, hN_41, hM_42]; done)
          rw [hNfin] at hP
          have hrel : True := by trivial
          have hfin : (nI nf) = nI nf := by rfl
          exact W.iret hx hb hr (fun t ht hW => ⟨⟨_, (), rfl, ⟨hfin, hrel⟩, by rw [← ht] at hP; exact hP⟩, hS.F ht⟩) hS.2.2 dX0_append_168
        ·
          replace c123 : kd = 6 := k_nef c123 (by omega) (by omega)
          refine lv_lconst (v := 0) hx hb dX0_append_126 (by decide) ?_
          refine lv_goto (tgt := 136) hx hb dX0_append_127 (by decide) ?_
          refine lv_lstore (lv' := [(7, .long (0 : Int64)), (6, .int (bI (isDp kd))), (0, .ref (a 8)), (1, .int (nI kd)), (2, .int su), (3, .int x), (4, .int y), (5, .int (nI nf))]) hx hb dX0_append_136 hl (by decide) rfl (fun ls hl => ?_)
          refine lv_aload_n hx hb dX0_append_138 rfl (lv_at hl 2 rfl) ?_
          refine va_get (D := D) (ci := 0) (v := .ref (a 15)) (C := RX0) (T := TX0) (N := 8) hx hb hts hinX0 hown hK1 hP 8 rfl rfl 6 (by decide) (hts (.fieldLink RX0 30 "KnowledgeModel$Formulas" "neededFor" "[J") (List.mem_of_getElem? (i := 8) rfl)) (fun _ h9 => h9) rfl dX0_append_139 ?_
          refine lv_iload hx hb dX0_append_142 (lv_at hl 7 rfl) ?_
          refine lv_lconst (v := 1) hx hb dX0_append_144 (by decide) ?_
          refine lv_iload hx hb dX0_append_145 (lv_at hl 7 rfl) ?_
          refine lv_lshl (v := (1 : Int64) <<< ((nI nf).toInt64 &&& 63)) hx hb dX0_append_147 rfl ?_
          refine lv_aload_n hx hb dX0_append_148 rfl (lv_at hl 2 rfl) ?_
          refine lv_iload_n hx hb dX0_append_149 rfl (lv_at hl 5 rfl) ?_
          refine xcalll (va_runV (As := [.int x]) (rest := [.long ((1 : Int64) <<< ((nI nf).toInt64 &&& 63)), .int (nI nf), .ref (a 15)]) ⟨hx, hb, hml, hown, hts⟩ (c_X0_neededOf l D cs a M_38 N nf x (by omega) hpx) (cwV 1 hts gX0_append_X0_neededOf rfl rfl rfl (by decide +kernel) ⟨Nat.le_of_ble_eq_true rfl, Nat.le_of_ble_eq_true rfl⟩) (xpreV hP hK (ci := 0) 8 rfl rfl) rfl rfl hl.1 rfl (lv_room (Nat.le_of_ble_eq_true rfl)) dX0_append_150 ⟨Nat.le_of_ble_eq_true rfl, Nat.le_of_ble_eq_true rfl⟩) hS hP (fun H locs hP hS => ?_)
          refine lv_lor hx hb dX0_append_153 ?_
          refine lv_lload hx hb dX0_append_154 (lv_at hl 0 rfl) ?_
          refine lv_lor hx hb dX0_append_156 ?_
          refine lv_topl (fun y_44 hy_44 => ?_)
          refine xlast (j := nf) (q0 := 15) (t0 := 1) (ws' := xc cs a M_38 (vp_updL N nf y_44)) hx hb hK1 hP (xD hI) hS rfl rfl (by omega) (by decide) rfl dX0_append_157 (fun H locs hP hS => ?_)
          obtain ⟨N_45, hN_45⟩ : ∃ z, z = vp_updL N nf y_44 := ⟨_, rfl⟩
          rw [← hN_45] at hP
          refine lv_aload_n hx hb dX0_append_158 rfl (lv_at hl 2 rfl) ?_
          refine lv_iload hx hb dX0_append_159 (lv_at hl 7 rfl) ?_
          refine lv_iconst (v := (nI 1)) hx hb dX0_append_161 (by decide) ?_
          refine xiadd hx hb dX0_append_162 ?_
          refine xput (D := D) (ci := 0) (v := .int (nI (nf + 1))) (ty := .int) (C := RX0) (T := TX0) (N := 8) (ws' := xc cs a (wr M_38 0 2 (nI (nf + 1))) N_45) hx hb hts hinX0 tyX0 tyX0_ok nmX0 hown hK1 hP (xD hI) hS 8 rfl rfl 7 (by decide) (hts (.fieldLink RX0 34 "KnowledgeModel$Formulas" "count" "I") (List.mem_of_getElem? (i := 1) rfl)) (fun _ h9 => h9) rfl (by decide +kernel) rfl rfl (Nat.le_of_ble_eq_true rfl) rfl dX0_append_163 (fun H locs hP hS => ?_)
          obtain ⟨M_46, hM_46⟩ : ∃ z, z = wr M_38 0 2 (nI (nf + 1)) := ⟨_, rfl⟩
          rw [← hM_46] at hP
          have hk_47 : M_46 0 2 = nI (nf + 1) := by rw [hM_46]; exact wr_same
          refine lv_iload hx hb dX0_append_166 (lv_at hl 7 rfl) ?_
          subst hQ
          have hMfin : M_46 = appM M nf kd su x y := by first | (exfalso; omega) | (exfalso; rw [c110] at c80; revert c80; decide) | ((have hk6 : (kd == 6) = true := by simp [c110]); simp only [appM, dpV, nsV, hk6, Nat.reduceAdd, wr_row (show (10 : Nat) ≠ 6 by decide), wr_row (show (10 : Nat) ≠ 7 by decide), wr_row (show (10 : Nat) ≠ 8 by decide), wr_row (show (10 : Nat) ≠ 9 by decide), wr_row (show (11 : Nat) ≠ 6 by decide), wr_row (show (11 : Nat) ≠ 7 by decide), wr_row (show (11 : Nat) ≠ 8 by decide), wr_row (show (11 : Nat) ≠ 9 by decide), wr_row (show (11 : Nat) ≠ 10 by decide), hM_1, hM_3, hM_5, hM_7, c80, hx_34, hM_35, c110, hx_37, hM_38, c123, hy_44, hN_45, hM_46]; rfl) | ((have hk6 : (kd == 6) = false := by simp [c110]); simp only [appM, dpV, nsV, hk6, Nat.reduceAdd, wr_row (show (10 : Nat) ≠ 6 by decide), wr_row (show (10 : Nat) ≠ 7 by decide), wr_row (show (10 : Nat) ≠ 8 by decide), wr_row (show (10 : Nat) ≠ 9 by decide), wr_row (show (11 : Nat) ≠ 6 by decide), wr_row (show (11 : Nat) ≠ 7 by decide), wr_row (show (11 : Nat) ≠ 8 by decide), wr_row (show (11 : Nat) ≠ 9 by decide), wr_row (show (11 : Nat) ≠ 10 by decide), hM_1, hM_3, hM_5, hM_7, c80, hx_34, hM_35, c110, hx_37, hM_38, c123, hy_44, hN_45, hM_46]; rfl)
          rw [hMfin] at hP
          have hNfin : N_45 = appN N nf kd x y := by first | (exfalso; omega) | (simp only [appN, ndN, hM_1, hM_3, hM_5, hM_7, c80, hx_34, hM_35, c110, hx_37, hM_38, c123, hy_44, hN_45, hM_46]; rfl) | (simp only [appN, ndN, if_true, if_false, hM_1, hM_3, hM_5, hM_7, c80, hx_34, hM_35, c110, hx_37, hM_38, c123, hy_44, hN_45, hM_46]; rfl) | (simp [appN, ndN, hM_1, hM_3, hM_5, hM_7, c80, hx_34, hM_35, c110, hx_37, hM_38, c123, hy_44, hN_45, hM_46]; done)
          rw [hNfin] at hP
          have hrel : True := by trivial
          have hfin : (nI nf) = nI nf := by rfl
          exact W.iret hx hb hr (fun t ht hW => ⟨⟨_, (), rfl, ⟨hfin, hrel⟩, by rw [← ht] at hP; exact hP⟩, hS.F ht⟩) hS.2.2 dX0_append_168
      ·
        replace c110 : kd = 6 := k_nef c110 (by omega) (by omega)
        refine lv_iconst (v := (nI 1)) hx hb dX0_append_113 (by decide) ?_
        refine lv_goto (tgt := 118) hx hb dX0_append_114 (by decide) ?_
        refine lv_iadd hx hb dX0_append_118 ?_
        refine lv_topi (fun x_48 hx_48 => ?_)
        refine xiast (j := nf) (q0 := 14) (t0 := 0) (ws' := xc cs a (wr M_35 11 nf x_48) N) hx hb hK1 hP (xD hI) hS rfl rfl (by omega) (by decide) xs_14 dX0_append_119 (fun H locs hP hS => ?_)
        obtain ⟨M_49, hM_49⟩ : ∃ z, z = wr M_35 11 nf x_48 := ⟨_, rfl⟩
        rw [← hM_49] at hP
        have hk_50 : M_49 0 2 = nI nf := by rw [hM_49]; exact (wr_ne (Or.inl (by omega))).trans hk_36
        refine lv_iload_n hx hb dX0_append_120 rfl (lv_at hl 2 rfl) ?_
        refine lv_bipush (v := (nI 6)) hx hb dX0_append_121 (by decide) ?_
        refine lv_icmp_ne (tgt := 130) hx hb dX0_append_123 (by decide) (fun c123 => ?_) (fun c123 => ?_)
        ·
          replace c123 : ¬ kd = 6 := k_net c123 (by omega) (by omega)
          refine lv_aload_n hx hb dX0_append_130 rfl (lv_at hl 1 rfl) ?_
          refine lv_iload hx hb dX0_append_131 (lv_at hl 5 rfl) ?_
          refine xcalll (va_runV (As := [.int y]) (rest := []) ⟨hx, hb, hml, hown, hts⟩ (c_X0_neededOf l D cs a M_49 N nf y (by omega) hpy) (cwV 1 hts gX0_append_X0_neededOf rfl rfl rfl (by decide +kernel) ⟨Nat.le_of_ble_eq_true rfl, Nat.le_of_ble_eq_true rfl⟩) (xpreV hP hK (ci := 0) 8 rfl rfl) rfl rfl hl.1 rfl (lv_room (Nat.le_of_ble_eq_true rfl)) dX0_append_133 ⟨Nat.le_of_ble_eq_true rfl, Nat.le_of_ble_eq_true rfl⟩) hS hP (fun H locs hP hS => ?_)
          refine lv_lstore (lv' := [(7, .long (ndv N y)), (6, .int (bI (isDp kd))), (0, .ref (a 8)), (1, .int (nI kd)), (2, .int su), (3, .int x), (4, .int y), (5, .int (nI nf))]) hx hb dX0_append_136 hl (by decide) rfl (fun ls hl => ?_)
          refine lv_aload_n hx hb dX0_append_138 rfl (lv_at hl 2 rfl) ?_
          refine va_get (D := D) (ci := 0) (v := .ref (a 15)) (C := RX0) (T := TX0) (N := 8) hx hb hts hinX0 hown hK1 hP 8 rfl rfl 6 (by decide) (hts (.fieldLink RX0 30 "KnowledgeModel$Formulas" "neededFor" "[J") (List.mem_of_getElem? (i := 8) rfl)) (fun _ h9 => h9) rfl dX0_append_139 ?_
          refine lv_iload hx hb dX0_append_142 (lv_at hl 7 rfl) ?_
          refine lv_lconst (v := 1) hx hb dX0_append_144 (by decide) ?_
          refine lv_iload hx hb dX0_append_145 (lv_at hl 7 rfl) ?_
          refine lv_lshl (v := (1 : Int64) <<< ((nI nf).toInt64 &&& 63)) hx hb dX0_append_147 rfl ?_
          refine lv_aload_n hx hb dX0_append_148 rfl (lv_at hl 2 rfl) ?_
          refine lv_iload_n hx hb dX0_append_149 rfl (lv_at hl 5 rfl) ?_
          refine xcalll (va_runV (As := [.int x]) (rest := [.long ((1 : Int64) <<< ((nI nf).toInt64 &&& 63)), .int (nI nf), .ref (a 15)]) ⟨hx, hb, hml, hown, hts⟩ (c_X0_neededOf l D cs a M_49 N nf x (by omega) hpx) (cwV 1 hts gX0_append_X0_neededOf rfl rfl rfl (by decide +kernel) ⟨Nat.le_of_ble_eq_true rfl, Nat.le_of_ble_eq_true rfl⟩) (xpreV hP hK (ci := 0) 8 rfl rfl) rfl rfl hl.1 rfl (lv_room (Nat.le_of_ble_eq_true rfl)) dX0_append_150 ⟨Nat.le_of_ble_eq_true rfl, Nat.le_of_ble_eq_true rfl⟩) hS hP (fun H locs hP hS => ?_)
          refine lv_lor hx hb dX0_append_153 ?_
          refine lv_lload hx hb dX0_append_154 (lv_at hl 0 rfl) ?_
          refine lv_lor hx hb dX0_append_156 ?_
          refine lv_topl (fun y_51 hy_51 => ?_)
          refine xlast (j := nf) (q0 := 15) (t0 := 1) (ws' := xc cs a M_49 (vp_updL N nf y_51)) hx hb hK1 hP (xD hI) hS rfl rfl (by omega) (by decide) rfl dX0_append_157 (fun H locs hP hS => ?_)
          obtain ⟨N_52, hN_52⟩ : ∃ z, z = vp_updL N nf y_51 := ⟨_, rfl⟩
          rw [← hN_52] at hP
          refine lv_aload_n hx hb dX0_append_158 rfl (lv_at hl 2 rfl) ?_
          refine lv_iload hx hb dX0_append_159 (lv_at hl 7 rfl) ?_
          refine lv_iconst (v := (nI 1)) hx hb dX0_append_161 (by decide) ?_
          refine xiadd hx hb dX0_append_162 ?_
          refine xput (D := D) (ci := 0) (v := .int (nI (nf + 1))) (ty := .int) (C := RX0) (T := TX0) (N := 8) (ws' := xc cs a (wr M_49 0 2 (nI (nf + 1))) N_52) hx hb hts hinX0 tyX0 tyX0_ok nmX0 hown hK1 hP (xD hI) hS 8 rfl rfl 7 (by decide) (hts (.fieldLink RX0 34 "KnowledgeModel$Formulas" "count" "I") (List.mem_of_getElem? (i := 1) rfl)) (fun _ h9 => h9) rfl (by decide +kernel) rfl rfl (Nat.le_of_ble_eq_true rfl) rfl dX0_append_163 (fun H locs hP hS => ?_)
          obtain ⟨M_53, hM_53⟩ : ∃ z, z = wr M_49 0 2 (nI (nf + 1)) := ⟨_, rfl⟩
          rw [← hM_53] at hP
          have hk_54 : M_53 0 2 = nI (nf + 1) := by rw [hM_53]; exact wr_same
          refine lv_iload hx hb dX0_append_166 (lv_at hl 7 rfl) ?_
          subst hQ
          have hMfin : M_53 = appM M nf kd su x y := by first | (exfalso; omega) | (exfalso; rw [c110] at c80; revert c80; decide) | ((have hk6 : (kd == 6) = true := by simp [c110]); simp only [appM, dpV, nsV, hk6, Nat.reduceAdd, wr_row (show (10 : Nat) ≠ 6 by decide), wr_row (show (10 : Nat) ≠ 7 by decide), wr_row (show (10 : Nat) ≠ 8 by decide), wr_row (show (10 : Nat) ≠ 9 by decide), wr_row (show (11 : Nat) ≠ 6 by decide), wr_row (show (11 : Nat) ≠ 7 by decide), wr_row (show (11 : Nat) ≠ 8 by decide), wr_row (show (11 : Nat) ≠ 9 by decide), wr_row (show (11 : Nat) ≠ 10 by decide), hM_1, hM_3, hM_5, hM_7, c80, hx_34, hM_35, c110, hx_48, hM_49, c123, hy_51, hN_52, hM_53]; rfl) | ((have hk6 : (kd == 6) = false := by simp [c110]); simp only [appM, dpV, nsV, hk6, Nat.reduceAdd, wr_row (show (10 : Nat) ≠ 6 by decide), wr_row (show (10 : Nat) ≠ 7 by decide), wr_row (show (10 : Nat) ≠ 8 by decide), wr_row (show (10 : Nat) ≠ 9 by decide), wr_row (show (11 : Nat) ≠ 6 by decide), wr_row (show (11 : Nat) ≠ 7 by decide), wr_row (show (11 : Nat) ≠ 8 by decide), wr_row (show (11 : Nat) ≠ 9 by decide), wr_row (show (11 : Nat) ≠ 10 by decide), hM_1, hM_3, hM_5, hM_7, c80, hx_34, hM_35, c110, hx_48, hM_49, c123, hy_51, hN_52, hM_53]; rfl)
          rw [hMfin] at hP
          have hNfin : N_52 = appN N nf kd x y := by first | (exfalso; omega) | (simp only [appN, ndN, hM_1, hM_3, hM_5, hM_7, c80, hx_34, hM_35, c110, hx_48, hM_49, c123, hy_51, hN_52, hM_53]; rfl) | (simp only [appN, ndN, if_true, if_false, hM_1, hM_3, hM_5, hM_7, c80, hx_34, hM_35, c110, hx_48, hM_49, c123, hy_51, hN_52, hM_53]; rfl) | (simp [appN, ndN, hM_1, hM_3, hM_5, hM_7, c80, hx_34, hM_35, c110, hx_48, hM_49, c123, hy_51, hN_52, hM_53]; done)
          rw [hNfin] at hP
          have hrel : True := by trivial
          have hfin : (nI nf) = nI nf := by rfl
          exact W.iret hx hb hr (fun t ht hW => ⟨⟨_, (), rfl, ⟨hfin, hrel⟩, by rw [← ht] at hP; exact hP⟩, hS.F ht⟩) hS.2.2 dX0_append_168
        ·
          replace c123 : kd = 6 := k_nef c123 (by omega) (by omega)
          refine lv_lconst (v := 0) hx hb dX0_append_126 (by decide) ?_
          refine lv_goto (tgt := 136) hx hb dX0_append_127 (by decide) ?_
          refine lv_lstore (lv' := [(7, .long (0 : Int64)), (6, .int (bI (isDp kd))), (0, .ref (a 8)), (1, .int (nI kd)), (2, .int su), (3, .int x), (4, .int y), (5, .int (nI nf))]) hx hb dX0_append_136 hl (by decide) rfl (fun ls hl => ?_)
          refine lv_aload_n hx hb dX0_append_138 rfl (lv_at hl 2 rfl) ?_
          refine va_get (D := D) (ci := 0) (v := .ref (a 15)) (C := RX0) (T := TX0) (N := 8) hx hb hts hinX0 hown hK1 hP 8 rfl rfl 6 (by decide) (hts (.fieldLink RX0 30 "KnowledgeModel$Formulas" "neededFor" "[J") (List.mem_of_getElem? (i := 8) rfl)) (fun _ h9 => h9) rfl dX0_append_139 ?_
          refine lv_iload hx hb dX0_append_142 (lv_at hl 7 rfl) ?_
          refine lv_lconst (v := 1) hx hb dX0_append_144 (by decide) ?_
          refine lv_iload hx hb dX0_append_145 (lv_at hl 7 rfl) ?_
          refine lv_lshl (v := (1 : Int64) <<< ((nI nf).toInt64 &&& 63)) hx hb dX0_append_147 rfl ?_
          refine lv_aload_n hx hb dX0_append_148 rfl (lv_at hl 2 rfl) ?_
          refine lv_iload_n hx hb dX0_append_149 rfl (lv_at hl 5 rfl) ?_
          refine xcalll (va_runV (As := [.int x]) (rest := [.long ((1 : Int64) <<< ((nI nf).toInt64 &&& 63)), .int (nI nf), .ref (a 15)]) ⟨hx, hb, hml, hown, hts⟩ (c_X0_neededOf l D cs a M_49 N nf x (by omega) hpx) (cwV 1 hts gX0_append_X0_neededOf rfl rfl rfl (by decide +kernel) ⟨Nat.le_of_ble_eq_true rfl, Nat.le_of_ble_eq_true rfl⟩) (xpreV hP hK (ci := 0) 8 rfl rfl) rfl rfl hl.1 rfl (lv_room (Nat.le_of_ble_eq_true rfl)) dX0_append_150 ⟨Nat.le_of_ble_eq_true rfl, Nat.le_of_ble_eq_true rfl⟩) hS hP (fun H locs hP hS => ?_)
          refine lv_lor hx hb dX0_append_153 ?_
          refine lv_lload hx hb dX0_append_154 (lv_at hl 0 rfl) ?_
          refine lv_lor hx hb dX0_append_156 ?_
          refine lv_topl (fun y_55 hy_55 => ?_)
          refine xlast (j := nf) (q0 := 15) (t0 := 1) (ws' := xc cs a M_49 (vp_updL N nf y_55)) hx hb hK1 hP (xD hI) hS rfl rfl (by omega) (by decide) rfl dX0_append_157 (fun H locs hP hS => ?_)
          obtain ⟨N_56, hN_56⟩ : ∃ z, z = vp_updL N nf y_55 := ⟨_, rfl⟩
          rw [← hN_56] at hP
          refine lv_aload_n hx hb dX0_append_158 rfl (lv_at hl 2 rfl) ?_
          refine lv_iload hx hb dX0_append_159 (lv_at hl 7 rfl) ?_
          refine lv_iconst (v := (nI 1)) hx hb dX0_append_161 (by decide) ?_
          refine xiadd hx hb dX0_append_162 ?_
          refine xput (D := D) (ci := 0) (v := .int (nI (nf + 1))) (ty := .int) (C := RX0) (T := TX0) (N := 8) (ws' := xc cs a (wr M_49 0 2 (nI (nf + 1))) N_56) hx hb hts hinX0 tyX0 tyX0_ok nmX0 hown hK1 hP (xD hI) hS 8 rfl rfl 7 (by decide) (hts (.fieldLink RX0 34 "KnowledgeModel$Formulas" "count" "I") (List.mem_of_getElem? (i := 1) rfl)) (fun _ h9 => h9) rfl (by decide +kernel) rfl rfl (Nat.le_of_ble_eq_true rfl) rfl dX0_append_163 (fun H locs hP hS => ?_)
          obtain ⟨M_57, hM_57⟩ : ∃ z, z = wr M_49 0 2 (nI (nf + 1)) := ⟨_, rfl⟩
          rw [← hM_57] at hP
          have hk_58 : M_57 0 2 = nI (nf + 1) := by rw [hM_57]; exact wr_same
          refine lv_iload hx hb dX0_append_166 (lv_at hl 7 rfl) ?_
          subst hQ
          have hMfin : M_57 = appM M nf kd su x y := by first | (exfalso; omega) | (exfalso; rw [c110] at c80; revert c80; decide) | ((have hk6 : (kd == 6) = true := by simp [c110]); simp only [appM, dpV, nsV, hk6, Nat.reduceAdd, wr_row (show (10 : Nat) ≠ 6 by decide), wr_row (show (10 : Nat) ≠ 7 by decide), wr_row (show (10 : Nat) ≠ 8 by decide), wr_row (show (10 : Nat) ≠ 9 by decide), wr_row (show (11 : Nat) ≠ 6 by decide), wr_row (show (11 : Nat) ≠ 7 by decide), wr_row (show (11 : Nat) ≠ 8 by decide), wr_row (show (11 : Nat) ≠ 9 by decide), wr_row (show (11 : Nat) ≠ 10 by decide), hM_1, hM_3, hM_5, hM_7, c80, hx_34, hM_35, c110, hx_48, hM_49, c123, hy_55, hN_56, hM_57]; rfl) | ((have hk6 : (kd == 6) = false := by simp [c110]); simp only [appM, dpV, nsV, hk6, Nat.reduceAdd, wr_row (show (10 : Nat) ≠ 6 by decide), wr_row (show (10 : Nat) ≠ 7 by decide), wr_row (show (10 : Nat) ≠ 8 by decide), wr_row (show (10 : Nat) ≠ 9 by decide), wr_row (show (11 : Nat) ≠ 6 by decide), wr_row (show (11 : Nat) ≠ 7 by decide), wr_row (show (11 : Nat) ≠ 8 by decide), wr_row (show (11 : Nat) ≠ 9 by decide), wr_row (show (11 : Nat) ≠ 10 by decide), hM_1, hM_3, hM_5, hM_7, c80, hx_34, hM_35, c110, hx_48, hM_49, c123, hy_55, hN_56, hM_57]; rfl)
          rw [hMfin] at hP
          have hNfin : N_56 = appN N nf kd x y := by first | (exfalso; omega) | (simp only [appN, ndN, hM_1, hM_3, hM_5, hM_7, c80, hx_34, hM_35, c110, hx_48, hM_49, c123, hy_55, hN_56, hM_57]; rfl) | (simp only [appN, ndN, if_true, if_false, hM_1, hM_3, hM_5, hM_7, c80, hx_34, hM_35, c110, hx_48, hM_49, c123, hy_55, hN_56, hM_57]; rfl) | (simp [appN, ndN, hM_1, hM_3, hM_5, hM_7, c80, hx_34, hM_35, c110, hx_48, hM_49, c123, hy_55, hN_56, hM_57]; done)
          rw [hNfin] at hP
          have hrel : True := by trivial
          have hfin : (nI nf) = nI nf := by rfl
          exact W.iret hx hb hr (fun t ht hW => ⟨⟨_, (), rfl, ⟨hfin, hrel⟩, by rw [← ht] at hP; exact hP⟩, hS.F ht⟩) hS.2.2 dX0_append_168
  refine lv_iload_n hx hb dX0_append_39 rfl (lv_at hl 2 rfl) ?_
  refine lv_iconst (v := (nI 3)) hx hb dX0_append_40 (by decide) ?_
  refine lv_icmp_eq (tgt := 54) hx hb dX0_append_41 (by decide) (fun c41 => ?_) (fun c41 => ?_)
  ·
    replace c41 : kd = 3 := k_eqt c41 (by omega) (by omega)
    refine lv_iconst (v := (nI 1)) hx hb dX0_append_54 (by decide) ?_
    refine lv_goto (tgt := 59) hx hb dX0_append_55 (by decide) ?_
    refine xtop (y := (bI (isDp kd))) (by first | (subst c41; rfl) | (subst c46; rfl) | (subst c51; rfl) | (rw [show isDp kd = false by simp [isDp, c41, c46, c51]]; rfl)) ?_
    exact cut59    _ _ hP hS ls (lcons (lcons (lcons (lcons (lcons (lcons (lzero hl) hl 0 rfl rfl) hl 5 rfl rfl) hl 4 rfl rfl) hl 3 rfl rfl) hl 2 rfl rfl) hl 1 rfl rfl)
  ·
    replace c41 : ¬ kd = 3 := k_eqf c41 (by omega) (by omega)
    refine lv_iload_n hx hb dX0_append_44 rfl (lv_at hl 2 rfl) ?_
    refine lv_iconst (v := (nI 4)) hx hb dX0_append_45 (by decide) ?_
    refine lv_icmp_eq (tgt := 54) hx hb dX0_append_46 (by decide) (fun c46 => ?_) (fun c46 => ?_)
    ·
      replace c46 : kd = 4 := k_eqt c46 (by omega) (by omega)
      refine lv_iconst (v := (nI 1)) hx hb dX0_append_54 (by decide) ?_
      refine lv_goto (tgt := 59) hx hb dX0_append_55 (by decide) ?_
      refine xtop (y := (bI (isDp kd))) (by first | (subst c41; rfl) | (subst c46; rfl) | (subst c51; rfl) | (rw [show isDp kd = false by simp [isDp, c41, c46, c51]]; rfl)) ?_
      exact cut59    _ _ hP hS ls (lcons (lcons (lcons (lcons (lcons (lcons (lzero hl) hl 0 rfl rfl) hl 5 rfl rfl) hl 4 rfl rfl) hl 3 rfl rfl) hl 2 rfl rfl) hl 1 rfl rfl)
    ·
      replace c46 : ¬ kd = 4 := k_eqf c46 (by omega) (by omega)
      refine lv_iload_n hx hb dX0_append_49 rfl (lv_at hl 2 rfl) ?_
      refine lv_iconst (v := (nI 5)) hx hb dX0_append_50 (by decide) ?_
      refine lv_icmp_ne (tgt := 58) hx hb dX0_append_51 (by decide) (fun c51 => ?_) (fun c51 => ?_)
      ·
        replace c51 : ¬ kd = 5 := k_net c51 (by omega) (by omega)
        refine lv_iconst (v := (nI 0)) hx hb dX0_append_58 (by decide) ?_
        refine xtop (y := (bI (isDp kd))) (by first | (subst c41; rfl) | (subst c46; rfl) | (subst c51; rfl) | (rw [show isDp kd = false by simp [isDp, c41, c46, c51]]; rfl)) ?_
        exact cut59    _ _ hP hS ls (lcons (lcons (lcons (lcons (lcons (lcons (lzero hl) hl 0 rfl rfl) hl 5 rfl rfl) hl 4 rfl rfl) hl 3 rfl rfl) hl 2 rfl rfl) hl 1 rfl rfl)
      ·
        replace c51 : kd = 5 := k_nef c51 (by omega) (by omega)
        refine lv_iconst (v := (nI 1)) hx hb dX0_append_54 (by decide) ?_
        refine lv_goto (tgt := 59) hx hb dX0_append_55 (by decide) ?_
        refine xtop (y := (bI (isDp kd))) (by first | (subst c41; rfl) | (subst c46; rfl) | (subst c51; rfl) | (rw [show isDp kd = false by simp [isDp, c41, c46, c51]]; rfl)) ?_
        exact cut59    _ _ hP hS ls (lcons (lcons (lcons (lcons (lcons (lcons (lzero hl) hl 0 rfl rfl) hl 5 rfl rfl) hl 4 rfl rfl) hl 3 rfl rfl) hl 2 rfl rfl) hl 1 rfl rfl)

