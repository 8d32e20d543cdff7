def clsIn (n : Nat) (cl : Nat → Nat) (set : Int32) : Int32 := fo (fun w r => if bt set w then r ||| sg (cl w) else r) (nI 0) n
def noteC (M : Nat → Nat → Int32) (n : Nat) (cl : Nat → Nat) (q j : Nat) : Nat → Nat → Int32 := fun i w => if (16 ≤ i ∧ i < 20) ∧ (i < 16 + q ∧ w < n ∨ i = 16 + q ∧ w < j) then clsIn n cl (M (i - 14) w) else M i w
theorem noteC_o {M : Nat → Nat → Int32} {n : Nat} {cl : Nat → Nat} {q j i x : Nat} (h : ¬ (16 ≤ i ∧ i < 20)) : noteC M n cl q j i x = M i x := if_neg (fun f => h f.1)
theorem noteC_s {M : Nat → Nat → Int32} {n : Nat} {cl : Nat → Nat} {q j : Nat} (hq : q < 4) : wr (noteC M n cl q j) (16 + q) j (clsIn n cl (M (2 + q) j)) = noteC M n cl q (j + 1) := by
  funext i w
  rw [wr_eq]
  by_cases h : i = 16 + q ∧ w = j
  · obtain ⟨rfl, rfl⟩ := h
    rw [if_pos ⟨rfl, rfl⟩]
    unfold noteC
    rw [if_pos (by omega), show 16 + q - 14 = 2 + q by omega]
  · rw [if_neg h]
    unfold noteC
    have : (i < 16 + q ∧ w < n ∨ i = 16 + q ∧ w < j) ↔ (i < 16 + q ∧ w < n ∨ i = 16 + q ∧ w < j + 1) := by omega
    simp only [this]
theorem noteC_e {M : Nat → Nat → Int32} {n : Nat} {cl : Nat → Nat} {q : Nat} : noteC M n cl q n = noteC M n cl (q + 1) 0 := by
  funext i w
  unfold noteC
  have : (i < 16 + q ∧ w < n ∨ i = 16 + q ∧ w < n) ↔ (i < 16 + (q + 1) ∧ w < n ∨ i = 16 + (q + 1) ∧ w < 0) := by omega
  simp only [this]
theorem noteC_b {M : Nat → Nat → Int32} {n : Nat} {cl : Nat → Nat} : M = noteC M n cl 0 0 := by
  funext i w; unfold noteC; rw [if_neg (by omega)]
theorem noteC_at {M : Nat → Nat → Int32} {n : Nat} {cl : Nat → Nat} {i w : Nat} (hi : i < 4) (hw : w < n) : noteC M n cl 4 0 (16 + i) w = clsIn n cl (M (2 + i) w) := by
  unfold noteC
  rw [if_pos (by omega), show 16 + i - 14 = 2 + i by omega]
def twinB (M : Nat → Nat → Int32) (v w : Nat) : Bool := decide (M 15 v = M 15 w) && decide (M 1 v = M 1 w) && allB (fun i => decide (M (16 + i) v = M (16 + i) w)) 4
def fstB (p : Nat → Bool) : Nat → Nat | 0 => 0 | n + 1 => if fstB p n < n then fstB p n else if p n then n else n + 1
theorem fst_none {p : Nat → Bool} : ∀ {n : Nat}, (∀ v, v < n → p v = false) → fstB p n = n
  | 0, _ => rfl
  | n + 1, h => by
    have h1 := fst_none (n := n) (fun v hv => h v (by omega))
    show (if fstB p n < n then fstB p n else if p n then n else n + 1) = n + 1
    rw [if_neg (by omega), h n (by omega)]; rfl
theorem fst_at {p : Nat → Bool} {j : Nat} (hj : ∀ v, v < j → p v = false) (hp : p j = true) : ∀ {n : Nat}, j < n → fstB p n = j
  | 0, h => absurd h (by omega)
  | n + 1, h => by
    show (if fstB p n < n then fstB p n else if p n then n else n + 1) = j
    rcases Nat.lt_or_ge j n with q | q
    · rw [fst_at hj hp q, if_pos q]
    · have e : j = n := by omega
      subst e
      rw [fst_none hj, if_neg (by omega), hp]; rfl
theorem fst_cong {p q : Nat → Bool} : ∀ {n : Nat}, (∀ v, v < n → p v = q v) → fstB p n = fstB q n
  | 0, _ => rfl
  | n + 1, h => by
    show (if fstB p n < n then fstB p n else if p n then n else n + 1) = (if fstB q n < n then fstB q n else if q n then n else n + 1)
    rw [fst_cong (n := n) (fun v hv => h v (by omega)), h n (by omega)]
theorem fst_le (p : Nat → Bool) : ∀ n, fstB p n ≤ n
  | 0 => Nat.le_refl _
  | n + 1 => by
    show (if fstB p n < n then fstB p n else if p n then n else n + 1) ≤ n + 1
    split
    · omega
    · split <;> omega
theorem allB_cong {p q : Nat → Bool} : ∀ {n : Nat}, (∀ v, v < n → p v = q v) → allB p n = allB q n
  | 0, _ => rfl
  | n + 1, h => by
    show (allB p n && p n) = (allB q n && q n)
    rw [allB_cong (n := n) (fun v hv => h v (by omega)), h n (by omega)]
def tw (M : Nat → Nat → Int32) (w : Nat) : Nat := fstB (fun v => twinB M v w) w
theorem tw_le (M : Nat → Nat → Int32) (w : Nat) : tw M w ≤ w := fst_le _ _
def rep (M : Nat → Nat → Int32) (v : Nat) : Bool := decide (tw M v = v)
def finF (M : Nat → Nat → Int32) (j : Nat) : Nat → Nat := fo (fun w f x => if x = w then (if tw M w = w then fb_ct (rep M) w else f (tw M w)) else f x) (fun _ => 0) j
def splC (M : Nat → Nat → Int32) (j : Nat) : Nat → Nat → Int32 := fun i x => if i = 20 ∧ x < j then nI (finF M j x) else M i x
theorem splC_o {M : Nat → Nat → Int32} {j i : Nat} (h : i ≠ 20) : splC M j i = M i := funext fun x => if_neg (by omega)
theorem finF_s {M : Nat → Nat → Int32} {j x : Nat} : finF M (j + 1) x = if x = j then (if tw M j = j then fb_ct (rep M) j else finF M j (tw M j)) else finF M j x := rfl
theorem twinB_spl {M : Nat → Nat → Int32} {j v w : Nat} : twinB (splC M j) v w = twinB M v w := by
  unfold twinB
  rw [splC_o (by decide), splC_o (by decide), allB_cong (fun i hi => by rw [splC_o (by omega)])]
theorem tw_spl {M : Nat → Nat → Int32} {j : Nat} : fstB (fun v => twinB (splC M j) v j) j = tw M j := fst_cong (fun v _ => twinB_spl)
theorem splC_1 {M : Nat → Nat → Int32} {j : Nat} (h : tw M j = j) : wr (splC M j) 20 j (nI (fb_ct (rep M) j)) = splC M (j + 1) := by
  funext i x
  rw [wr_eq]
  unfold splC
  by_cases h1 : i = 20 ∧ x = j
  · rw [if_pos h1, if_pos (by omega), finF_s, if_pos h1.2, if_pos h]
  · rw [if_neg h1]
    by_cases h2 : i = 20 ∧ x < j
    · rw [if_pos h2, if_pos (by omega), finF_s, if_neg (by omega)]
    · rw [if_neg h2, if_neg (by omega)]
theorem splC_2 {M : Nat → Nat → Int32} {j : Nat} (h : ¬ tw M j = j) : wr (splC M j) 20 j (nI (finF M j (tw M j))) = splC M (j + 1) := by
  funext i x
  rw [wr_eq]
  unfold splC
  by_cases h1 : i = 20 ∧ x = j
  · rw [if_pos h1, if_pos (by omega), finF_s, if_pos h1.2, if_neg h]
  · rw [if_neg h1]
    by_cases h2 : i = 20 ∧ x < j
    · rw [if_pos h2, if_pos (by omega), finF_s, if_neg (by omega)]
    · rw [if_neg h2, if_neg (by omega)]
def cpM (M : Nat → Nat → Int32) : Nat → Nat → Int32 := fun i => if i = 15 then va_cpy (M 20) (M 15) 0 0 24 else M i

set_option maxHeartbeats 4000000 in
set_option maxRecDepth 100000 in
theorem c_X1_classesIn (l : Launch) (D : va_G) (cs : Nat → ClassId) (a : Nat → Nat) (M : Nat → Nat → Int32) (N : Nat → Int64)  (n : Nat) (cl : Nat → Nat) (set : Int32) (hn : M 0 0 = nI n) (hn24 : n ≤ 24) (hcl : ∀ w, w < n → M 15 w = nI (cl w)) : Met l yX1_classesIn wsX1_classesIn ({ frames := 1, cells := 0, slots := 0, locals := 21 } : Room) (va_Pc [.ref (a 21), .int set] (XB D cs (xc cs a M N))) (va_Qi (fun r (_ : Unit) => r = clsIn n cl set) (fun _ _ => True) (fun _ => False)) 0 0 (fun _ => False) := by
  refine Met.ofW (cc := cX1_classesIn) (maxL := 4) (ret := (some .int)) (by decide) rfl ?_
  intro p e s m args below meth c s₁ B hml hv
  obtain ⟨rfl, hP, hK⟩ := hv
  have hx := B.exec
  have hb := B.bytes
  have hr := B.returns
  have hts := atoms_spec (ws := wsX1_classesIn) B.pre
  have hown : s.vm.findClass RX1 = some m.cls := findClass_of_methodNamed B.named
  have hlocks := B.notSynchronized
  have hK1 := hK.1
  have hinX1 : ∀ w ∈ wsX10, w ∈ wsX1_classesIn := fun w h => List.mem_cons_of_mem _ (List.mem_append_left _ (List.mem_append_right _ h))
  have hinX3 : ∀ w ∈ wsX30, w ∈ wsX1_classesIn := fun w h => List.mem_cons_of_mem _ (List.mem_append_right _ h)
  have hS : va_S (fun _ => False) s.heap s.heap [] := va_S.rf
  have hl := lv_entry ([.ref (a 21), .int set]) (n := 4) (Nat.le_of_ble_eq_true rfl)
  rw [lg_entry_eq]
  generalize (lg_sl ([.ref (a 21), .int set]) ++ List.replicate (4 - (lg_sl ([.ref (a 21), .int set])).length) Slot.unset).toArray = ls at hl ⊢
  have hl : lv_has ls 4 [(0, .ref (a 21)), (1, .int set)] := hl
  refine W_Q (fun Q hQ => ?_)
  show W p l e ({ frames := 1, cells := 0, slots := 0, locals := 21 } : Room) s m ([.ref (a 21), .int set] : List Value).toArray below meth c s.heap [] 0 0 Q (F0 m 0 ls [])
  refine lv_iconst (v := (nI 0)) hx hb dX1_classesIn_0 (by decide) ?_
  refine lv_istore_n (lv' := [(2, .int (nI 0)), (0, .ref (a 21)), (1, .int set)]) hx hb dX1_classesIn_1 rfl hl (by decide) rfl (fun ls hl => ?_)
  refine lv_iconst (v := (nI 0)) hx hb dX1_classesIn_2 (by decide) ?_
  refine lv_istore_n (lv' := [(3, .int (nI 0)), (2, .int (nI 0)), (0, .ref (a 21)), (1, .int set)]) hx hb dX1_classesIn_3 rfl hl (by decide) rfl (fun ls hl => ?_)
  have cut4 : ∀ (f4 : Nat) (j : Nat) (hj : j ≤ n), n + 1 ≤ j + f4 → ∀ (H : Heap) (locs : List Loc), va_P D vwCl (xc cs a M N) H → va_S (fun _ => False) s.heap H locs → ∀ (ls : Array Slot), lv_has ls 4 [(0, .ref (a 21)), (1, .int set), (2, .int (fo (fun w r => if bt set w then r ||| sg (cl w) else r) (nI 0) j)), (3, .int (nI j))] → W p l e ({ frames := 1, cells := 0, slots := 0, locals := 21 } : Room) s m ([.ref (a 21), .int set] : List Value).toArray below meth c H locs 0 0 Q (F0 m 4 ls []) := by
    intro f4
    induction f4 with
    | zero => intro j hj hfu4; exact absurd hfu4 (by omega)
    | succ f4 cut4 =>
      intro j hj hfu4 H locs hP hS ls hl
      refine lv_iload_n hx hb dX1_classesIn_4 rfl (lv_at hl 3 rfl) ?_
      refine lv_aload_n hx hb dX1_classesIn_5 rfl (lv_at hl 0 rfl) ?_
      refine va_get (D := D) (ci := 1) (v := .ref (a 1)) (C := RX1) (T := TX1) (N := 4) hx hb hts hinX1 hown hK1 hP 21 rfl rfl 0 (by decide) (hts (.fieldLink RX1 9 "KnowledgeModel$Likeness" "worlds" "LKnowledgeModel$Worlds;") (List.mem_of_getElem? (i := 1) rfl)) (fun _ h9 => h9) rfl dX1_classesIn_6 ?_
      refine va_get (D := D) (ci := 3) (v := .int (M 0 0)) (C := RX3) (T := TX3) (N := 4) hx hb hts hinX3 hown hK1 hP 1 rfl rfl 2 (by decide) (hts (.fieldLink RX1 27 "KnowledgeModel$Worlds" "count" "I") (List.mem_of_getElem? (i := 2) rfl)) (fun _ h9 => h9) rfl dX1_classesIn_9 ?_
      refine xtop (y := nI n) (hn) ?_
      refine lv_icmp_ge (tgt := 41) hx hb dX1_classesIn_12 (by decide) (fun c12 => ?_) (fun c12 => ?_)
      ·
        replace c12 : n ≤ j := k_get c12 (by omega) (by omega)
        refine lv_iload_n hx hb dX1_classesIn_41 rfl (lv_at hl 2 rfl) ?_
        subst hQ
        have hfin : (fo (fun w r => if bt set w then r ||| sg (cl w) else r) (nI 0) j) = clsIn n cl set := by (have hje : j = n := by omega); subst hje; rfl
        exact W.iret hx hb hr (fun t ht hW => ⟨⟨_, (), rfl, hfin, trivial⟩, hS.F ht⟩) hS.2.2 dX1_classesIn_42
      ·
        replace c12 : j < n := k_gef c12 (by omega) (by omega)
        refine lv_iload_n hx hb dX1_classesIn_15 rfl (lv_at hl 1 rfl) ?_
        refine lv_iload_n hx hb dX1_classesIn_16 rfl (lv_at hl 3 rfl) ?_
        refine xcalli (va_runSN (As := [.int set, .int (nI j)]) (rest := []) ⟨hx, hb, hml, hown, hts⟩ (c_X4_contains l set j (by omega)) ⟨va_cnB 2 hts gX1_classesIn_X4_contains_n47 rfl rfl rfl hK.2.2.1 (hts (.initialized RX4) (List.mem_of_getElem? (i := 5) rfl)) (by decide +kernel) ⟨Nat.le_of_ble_eq_true rfl, Nat.le_of_ble_eq_true rfl⟩, hts (.static yX4_contains) (List.mem_of_getElem? (i := 4) rfl), trivial⟩ xpreN rfl rfl hl.1 rfl (lv_room (Nat.le_of_ble_eq_true rfl)) dX1_classesIn_17 ⟨Nat.le_of_ble_eq_true rfl, Nat.le_of_ble_eq_true rfl⟩) hS hP (fun H locs hP hS => ?_)
        refine lv_if_eq (tgt := 35) hx hb dX1_classesIn_20 (by decide) (fun c20 => ?_) (fun c20 => ?_)
        ·
          replace c20 := bI_0 c20
          refine lv_iinc (v := (nI (j + 1))) (lv' := [(3, .int (nI (j + 1))), (0, .ref (a 21)), (1, .int set), (2, .int (fo (fun w r => if bt set w then r ||| sg (cl w) else r) (nI 0) j))]) hx hb dX1_classesIn_35 hl (k := 3) rfl (nI_add j 1) (by decide) rfl (fun ls hl => ?_)
          refine lv_goto (tgt := 4) hx hb dX1_classesIn_38 (by decide) ?_
          have e_1 : (fo (fun w r => if bt set w then r ||| sg (cl w) else r) (nI 0) j) = (fo (fun w r => if bt set w then r ||| sg (cl w) else r) (nI 0) (j + 1)) := by first | rfl | (simp [fo_s, c12, c20]; done) | (simp [fo_s, c12, c20] <;> rfl)
          exact cut4 (j + 1) (by omega) (by omega) _ _ hP hS ls (lcons (lcons (lcons (lcons (lzero hl) hl 0 rfl rfl) hl 3 rfl (congrArg Value.int e_1)) hl 2 rfl rfl) hl 1 rfl rfl)
        ·
          replace c20 := bI_n0 c20
          refine lv_iload_n hx hb dX1_classesIn_23 rfl (lv_at hl 2 rfl) ?_
          refine lv_aload_n hx hb dX1_classesIn_24 rfl (lv_at hl 0 rfl) ?_
          refine va_get (D := D) (ci := 1) (v := .ref (a 22)) (C := RX1) (T := TX1) (N := 4) hx hb hts hinX1 hown hK1 hP 21 rfl rfl 1 (by decide) (hts (.fieldLink RX1 15 "KnowledgeModel$Likeness" "classOf" "[I") (List.mem_of_getElem? (i := 3) rfl)) (fun _ h9 => h9) rfl dX1_classesIn_25 ?_
          refine lv_iload_n hx hb dX1_classesIn_28 rfl (lv_at hl 3 rfl) ?_
          refine xiald (j := j) (q0 := 22) (t0 := 0) hx hb hK1 hP rfl rfl (by omega) (by decide) dX1_classesIn_29 ?_
          refine xtop (y := (nI (cl j))) (by exact hcl j c12) ?_
          refine xcalli (va_runSN (As := [.int (nI (cl j))]) (rest := [.int (fo (fun w r => if bt set w then r ||| sg (cl w) else r) (nI 0) j)]) ⟨hx, hb, hml, hown, hts⟩ (c_X4_single l (cl j)) ⟨va_cnB 1 hts gX1_classesIn_X4_single_n51 rfl rfl rfl hK.2.2.2.1 (hts (.initialized RX4) (List.mem_of_getElem? (i := 5) rfl)) (by decide +kernel) ⟨Nat.le_of_ble_eq_true rfl, Nat.le_of_ble_eq_true rfl⟩, hts (.static yX4_single) (List.mem_of_getElem? (i := 7) rfl), trivial⟩ xpreN rfl rfl hl.1 rfl (lv_room (Nat.le_of_ble_eq_true rfl)) dX1_classesIn_30 ⟨Nat.le_of_ble_eq_true rfl, Nat.le_of_ble_eq_true rfl⟩) hS hP (fun H locs hP hS => ?_)
          refine lv_ior hx hb dX1_classesIn_33 ?_
          refine lv_topi (fun x_2 hx_2 => ?_)
          refine lv_istore_n (lv' := [(2, .int x_2), (0, .ref (a 21)), (1, .int set), (3, .int (nI j))]) hx hb dX1_classesIn_34 rfl hl (by decide) rfl (fun ls hl => ?_)
          refine lv_iinc (v := (nI (j + 1))) (lv' := [(3, .int (nI (j + 1))), (2, .int x_2), (0, .ref (a 21)), (1, .int set)]) hx hb dX1_classesIn_35 hl (k := 3) rfl (nI_add j 1) (by decide) rfl (fun ls hl => ?_)
          refine lv_goto (tgt := 4) hx hb dX1_classesIn_38 (by decide) ?_
          have e_3 : x_2 = (fo (fun w r => if bt set w then r ||| sg (cl w) else r) (nI 0) (j + 1)) := by first | rfl | (simp [fo_s, c12, c20, hx_2]; done) | (simp [fo_s, c12, c20, hx_2] <;> rfl)
          exact cut4 (j + 1) (by omega) (by omega) _ _ hP hS ls (lcons (lcons (lcons (lcons (lzero hl) hl 0 rfl rfl) hl 1 rfl (congrArg Value.int e_3)) hl 3 rfl rfl) hl 2 rfl rfl)
  have e_4 : (nI 0) = (fo (fun w r => if bt set w then r ||| sg (cl w) else r) (nI 0) 0) := by first | rfl | (simp [fo_s]; done) | (simp [fo_s] <;> rfl)
  exact cut4 (n + 1) 0 (by omega) (by omega) _ _ hP hS ls (lcons (lcons (lcons (lcons (lzero hl) hl 0 rfl rfl) hl 1 rfl (congrArg Value.int e_4)) hl 3 rfl rfl) hl 2 rfl rfl)

set_option maxHeartbeats 4000000 in
set_option maxRecDepth 100000 in
theorem c_X1_noteSeenClasses (l : Launch) (D : va_G) (cs : Nat → ClassId) (a : Nat → Nat) (M : Nat → Nat → Int32) (N : Nat → Int64) (sz : Nat) (hI : kI a 29)  (n : Nat) (cl : Nat → Nat)  (hn : M 0 0 = nI n) (hn24 : n ≤ 24) (hcl : ∀ w, w < n → M 15 w = nI (cl w)) : Met l yX1_noteSeenClasses wsX1_noteSeenClasses ({ frames := 2, cells := 0, slots := 0, locals := 45 } : Room) (va_Pc [.ref (a 21)] (XBs D cs (xc cs a M N) sz)) (va_Qv (fun (u : Unit) => True) (fun (u : Unit) t => va_P D vwCl (xc cs a (noteC M n cl 4 0) N) t.heap) (kA a 29 sz)) 0 0 (kA a 29 sz) := by
  refine Met.ofW (cc := cX1_noteSeenClasses) (maxL := 3) (ret := none) (by decide) rfl ?_
  intro p e s m args below meth c s₁ B hml hv
  obtain ⟨rfl, hsz, hP, hK⟩ := hv
  have hx := B.exec
  have hb := B.bytes
  have hr := B.returns
  have hts := atoms_spec (ws := wsX1_noteSeenClasses) B.pre
  have hown : s.vm.findClass RX1 = some m.cls := findClass_of_methodNamed B.named
  have hlocks := B.notSynchronized
  have hK1 := hK.1
  have hinX1 : ∀ w ∈ wsX10, w ∈ wsX1_noteSeenClasses := fun w h => List.mem_cons_of_mem _ (List.mem_append_left _ (List.mem_append_right _ h))
  have hinX3 : ∀ w ∈ wsX30, w ∈ wsX1_noteSeenClasses := fun w h => List.mem_cons_of_mem _ (List.mem_append_right _ h)
  subst hsz
  have hS : va_S (kA a 29 s.heap.size) s.heap s.heap [] := va_S.rf
  have hl := lv_entry ([.ref (a 21)]) (n := 3) (Nat.le_of_ble_eq_true rfl)
  rw [lg_entry_eq]
  generalize (lg_sl ([.ref (a 21)]) ++ List.replicate (3 - (lg_sl ([.ref (a 21)])).length) Slot.unset).toArray = ls at hl ⊢
  have hl : lv_has ls 3 [(0, .ref (a 21))] := hl
  refine W_Q (fun Q hQ => ?_)
  show W p l e ({ frames := 2, cells := 0, slots := 0, locals := 45 } : Room) s m ([.ref (a 21)] : List Value).toArray below meth c s.heap [] 0 0 Q (F0 m 0 ls [])
  refine lv_iconst (v := (nI 0)) hx hb dX1_noteSeenClasses_0 (by decide) ?_
  refine lv_istore_n (lv' := [(1, .int (nI 0)), (0, .ref (a 21))]) hx hb dX1_noteSeenClasses_1 rfl hl (by decide) rfl (fun ls hl => ?_)
  have cut2 : ∀ (f2 : Nat) (q : Nat) (hq : q ≤ 4), 4 + 1 ≤ q + f2 → ∀ (H : Heap) (locs : List Loc), va_P D vwCl (xc cs a (noteC M n cl q 0) N) H → va_S (kA a 29 s.heap.size) s.heap H locs → ∀ (ls : Array Slot), lv_has ls 3 [(0, .ref (a 21)), (1, .int (nI q))] → W p l e ({ frames := 2, cells := 0, slots := 0, locals := 45 } : Room) s m ([.ref (a 21)] : List Value).toArray below meth c H locs 0 0 Q (F0 m 2 ls []) := by
    intro f2
    induction f2 with
    | zero => intro q hq hfu2; exact absurd hfu2 (by omega)
    | succ f2 cut2 =>
      intro q hq hfu2 H locs hP hS ls hl
      refine lv_iload_n hx hb dX1_noteSeenClasses_2 rfl (lv_at hl 1 rfl) ?_
      refine lv_iconst (v := (nI 4)) hx hb dX1_noteSeenClasses_3 (by decide) ?_
      refine lv_icmp_ge (tgt := 55) hx hb dX1_noteSeenClasses_4 (by decide) (fun c4 => ?_) (fun c4 => ?_)
      ·
        replace c4 : 4 ≤ q := k_get c4 (by omega) (by omega)
        subst hQ
        have hMfin : noteC M n cl q 0 = noteC M n cl 4 0 := by (have hqe : q = 4 := by omega); subst hqe; rfl
        rw [hMfin] at hP
        have hrel : True := by trivial
        exact W.vret hx hb hr (fun t ht hW => ⟨⟨(), rfl, hrel, by rw [← ht] at hP; exact hP⟩, hS.F ht⟩) hS.2.2 dX1_noteSeenClasses_55
      ·
        replace c4 : q < 4 := k_gef c4 (by omega) (by omega)
        refine lv_iconst (v := (nI 0)) hx hb dX1_noteSeenClasses_7 (by decide) ?_
        refine lv_istore_n (lv' := [(2, .int (nI 0)), (0, .ref (a 21)), (1, .int (nI q))]) hx hb dX1_noteSeenClasses_8 rfl hl (by decide) rfl (fun ls hl => ?_)
        have cut9 : ∀ (f9 : Nat) (j : Nat) (hj : j ≤ n), n + 1 ≤ j + f9 → ∀ (H : Heap) (locs : List Loc), va_P D vwCl (xc cs a (noteC M n cl q j) N) H → va_S (kA a 29 s.heap.size) s.heap H locs → ∀ (ls : Array Slot), lv_has ls 3 [(0, .ref (a 21)), (1, .int (nI q)), (2, .int (nI j))] → W p l e ({ frames := 2, cells := 0, slots := 0, locals := 45 } : Room) s m ([.ref (a 21)] : List Value).toArray below meth c H locs 0 0 Q (F0 m 9 ls []) := by
          intro f9
          induction f9 with
          | zero => intro j hj hfu9; exact absurd hfu9 (by omega)
          | succ f9 cut9 =>
            intro j hj hfu9 H locs hP hS ls hl
            refine lv_iload_n hx hb dX1_noteSeenClasses_9 rfl (lv_at hl 2 rfl) ?_
            refine lv_aload_n hx hb dX1_noteSeenClasses_10 rfl (lv_at hl 0 rfl) ?_
            refine va_get (D := D) (ci := 1) (v := .ref (a 1)) (C := RX1) (T := TX1) (N := 4) hx hb hts hinX1 hown hK1 hP 21 rfl rfl 0 (by decide) (hts (.fieldLink RX1 9 "KnowledgeModel$Likeness" "worlds" "LKnowledgeModel$Worlds;") (List.mem_of_getElem? (i := 1) rfl)) (fun _ h9 => h9) rfl dX1_noteSeenClasses_11 ?_
            refine va_get (D := D) (ci := 3) (v := .int ((noteC M n cl q j) 0 0)) (C := RX3) (T := TX3) (N := 4) hx hb hts hinX3 hown hK1 hP 1 rfl rfl 2 (by decide) (hts (.fieldLink RX1 27 "KnowledgeModel$Worlds" "count" "I") (List.mem_of_getElem? (i := 2) rfl)) (fun _ h9 => h9) rfl dX1_noteSeenClasses_14 ?_
            refine xtop (y := nI n) (((noteC_o (by decide)).trans hn)) ?_
            refine lv_icmp_ge (tgt := 49) hx hb dX1_noteSeenClasses_17 (by decide) (fun c17 => ?_) (fun c17 => ?_)
            ·
              replace c17 : n ≤ j := k_get c17 (by omega) (by omega)
              refine lv_iinc (v := (nI (q + 1))) (lv' := [(1, .int (nI (q + 1))), (0, .ref (a 21)), (2, .int (nI j))]) hx hb dX1_noteSeenClasses_49 hl (k := 1) rfl (nI_add q 1) (by decide) rfl (fun ls hl => ?_)
              refine lv_goto (tgt := 2) hx hb dX1_noteSeenClasses_52 (by decide) ?_
              have eM_1 : noteC M n cl q j = noteC M n cl (q + 1) 0 := by (have hje : j = n := by omega); subst hje; exact noteC_e
              exact cut2 (q + 1) (by omega) (by omega) _ _ (eM_1 ▸ hP) hS ls (lcons (lcons (lzero hl) hl 0 rfl rfl) hl 1 rfl rfl)
            ·
              replace c17 : j < n := k_gef c17 (by omega) (by omega)
              refine lv_aload_n hx hb dX1_noteSeenClasses_20 rfl (lv_at hl 0 rfl) ?_
              refine va_get (D := D) (ci := 1) (v := .ref (a 23)) (C := RX1) (T := TX1) (N := 4) hx hb hts hinX1 hown hK1 hP 21 rfl rfl 2 (by decide) (hts (.fieldLink RX1 21 "KnowledgeModel$Likeness" "seenClasses" "[[I") (List.mem_of_getElem? (i := 3) rfl)) (fun _ h9 => h9) rfl dX1_noteSeenClasses_21 ?_
              refine lv_iload_n hx hb dX1_noteSeenClasses_24 rfl (lv_at hl 1 rfl) ?_
              refine xaald (j := q) (q0 := 23) (t0 := 2) (f := fun i => a (24 + i)) hx hb hK1 hP rfl rfl (by omega) (by decide) dX1_noteSeenClasses_25 ?_
              refine lv_iload_n hx hb dX1_noteSeenClasses_26 rfl (lv_at hl 2 rfl) ?_
              refine lv_aload_n hx hb dX1_noteSeenClasses_27 rfl (lv_at hl 0 rfl) ?_
              refine lv_aload_n hx hb dX1_noteSeenClasses_28 rfl (lv_at hl 0 rfl) ?_
              refine va_get (D := D) (ci := 1) (v := .ref (a 1)) (C := RX1) (T := TX1) (N := 4) hx hb hts hinX1 hown hK1 hP 21 rfl rfl 0 (by decide) (hts (.fieldLink RX1 9 "KnowledgeModel$Likeness" "worlds" "LKnowledgeModel$Worlds;") (List.mem_of_getElem? (i := 1) rfl)) (fun _ h9 => h9) rfl dX1_noteSeenClasses_29 ?_
              refine va_get (D := D) (ci := 3) (v := .ref (a 3)) (C := RX3) (T := TX3) (N := 4) hx hb hts hinX3 hown hK1 hP 1 rfl rfl 1 (by decide) (hts (.fieldLink RX1 40 "KnowledgeModel$Worlds" "arrows" "[[I") (List.mem_of_getElem? (i := 4) rfl)) (fun _ h9 => h9) rfl dX1_noteSeenClasses_32 ?_
              refine lv_iload_n hx hb dX1_noteSeenClasses_35 rfl (lv_at hl 1 rfl) ?_
              refine xaald (j := q) (q0 := 3) (t0 := 2) (f := fun i => a (4 + i)) hx hb hK1 hP rfl rfl (by omega) (by decide) dX1_noteSeenClasses_36 ?_
              refine lv_iload_n hx hb dX1_noteSeenClasses_37 rfl (lv_at hl 2 rfl) ?_
              refine xiald (j := j) (q0 := (4 + q)) (t0 := 0) hx hb hK1 hP (xg_ar (by omega)) rfl (by omega) (by decide) dX1_noteSeenClasses_38 ?_
              refine xtop (y := (M (2 + q) j)) (by exact noteC_o (by omega)) ?_
              refine xcalli (va_runV (As := [.int (M (2 + q) j)]) (rest := [.int (nI j), .ref (a (24 + q))]) ⟨hx, hb, hml, hown, hts⟩ (c_X1_classesIn l D cs a (noteC M n cl q j) N n cl (M (2 + q) j) ((noteC_o (by decide)).trans hn) (by omega) (fun w hw => (noteC_o (by decide)).trans (hcl w hw))) (cwV 1 hts gX1_noteSeenClasses_X1_classesIn rfl rfl rfl (by decide +kernel) ⟨Nat.le_of_ble_eq_true rfl, Nat.le_of_ble_eq_true rfl⟩) (xpreV hP hK (ci := 1) 21 rfl rfl) rfl rfl hl.1 rfl (lv_room (Nat.le_of_ble_eq_true rfl)) dX1_noteSeenClasses_39 ⟨Nat.le_of_ble_eq_true rfl, Nat.le_of_ble_eq_true rfl⟩) hS hP (fun H locs hP hS => ?_)
              refine lv_topi (fun x_2 hx_2 => ?_)
              refine xiast (j := j) (q0 := (24 + q)) (t0 := 0) (ws' := xc cs a (wr (noteC M n cl q j) (16 + q) j x_2) N) hx hb hK1 hP (xD hI) hS (xg_sc (by omega)) rfl (by omega) (by decide) (xs_sc (by omega)) dX1_noteSeenClasses_42 (fun H locs hP hS => ?_)
              obtain ⟨M_3, hM_3⟩ : ∃ z, z = wr (noteC M n cl q j) (16 + q) j x_2 := ⟨_, rfl⟩
              rw [← hM_3] at hP
              have hk_4 : M_3 0 0 = nI n := by rw [hM_3]; exact (wr_ne (Or.inl (by omega))).trans ((noteC_o (by decide)).trans hn)
              refine lv_iinc (v := (nI (j + 1))) (lv' := [(2, .int (nI (j + 1))), (0, .ref (a 21)), (1, .int (nI q))]) hx hb dX1_noteSeenClasses_43 hl (k := 2) rfl (nI_add j 1) (by decide) rfl (fun ls hl => ?_)
              refine lv_goto (tgt := 9) hx hb dX1_noteSeenClasses_46 (by decide) ?_
              have eM_5 : M_3 = noteC M n cl q (j + 1) := by rw [← noteC_s c4]; simp only [wr_eq, c17, hx_2, hM_3]
              exact cut9 (j + 1) (by omega) (by omega) _ _ (eM_5 ▸ hP) hS ls (lcons (lcons (lcons (lzero hl) hl 0 rfl rfl) hl 2 rfl rfl) hl 1 rfl rfl)
        exact cut9 (n + 1) 0 (by omega) (by omega) _ _ hP hS ls (lcons (lcons (lcons (lzero hl) hl 0 rfl rfl) hl 2 rfl rfl) hl 1 rfl rfl)
  have eM_6 : M = noteC M n cl 0 0 := by exact noteC_b
  exact cut2 (4 + 1) 0 (by omega) (by omega) _ _ (eM_6 ▸ hP) hS ls (lcons (lcons (lzero hl) hl 0 rfl rfl) hl 1 rfl rfl)

set_option maxHeartbeats 4000000 in
set_option maxRecDepth 100000 in
theorem c_X1_areTwins (l : Launch) (D : va_G) (cs : Nat → ClassId) (a : Nat → Nat) (M : Nat → Nat → Int32) (N : Nat → Int64)   (v : Nat) (w : Nat) (hv : v < 24) (hw : w < 24) : Met l yX1_areTwins wsX1_areTwins ({ frames := 0, cells := 0, slots := 0, locals := 0 } : Room) (va_Pc [.ref (a 21), .int (nI v), .int (nI w)] (XB D cs (xc cs a M N))) (va_Qi (fun r (_ : Unit) => r = bI (twinB M v w)) (fun _ _ => True) (fun _ => False)) 0 0 (fun _ => False) := by
  refine Met.ofW (cc := cX1_areTwins) (maxL := 4) (ret := (some .boolean)) (by decide) rfl ?_
  intro p e s m args below meth c s₁ B hml hv
  obtain ⟨rfl, hP, hK⟩ := hv
  have hx := B.exec
  have hb := B.bytes
  have hr := B.returns
  have hts := atoms_spec (ws := wsX1_areTwins) B.pre
  have hown : s.vm.findClass RX1 = some m.cls := findClass_of_methodNamed B.named
  have hlocks := B.notSynchronized
  have hK1 := hK.1
  have hinX1 : ∀ w ∈ wsX10, w ∈ wsX1_areTwins := fun w h => List.mem_cons_of_mem _ (List.mem_append_left _ (List.mem_append_right _ h))
  have hinX3 : ∀ w ∈ wsX30, w ∈ wsX1_areTwins := fun w h => List.mem_cons_of_mem _ (List.mem_append_right _ h)
  have hS : va_S (fun _ => False) s.heap s.heap [] := va_S.rf
  have hl := lv_entry ([.ref (a 21), .int (nI v), .int (nI w)]) (n := 4) (Nat.le_of_ble_eq_true rfl)
  rw [lg_entry_eq]
  generalize (lg_sl ([.ref (a 21), .int (nI v), .int (nI w)]) ++ List.replicate (4 - (lg_sl ([.ref (a 21), .int (nI v), .int (nI w)])).length) Slot.unset).toArray = ls at hl ⊢
  have hl : lv_has ls 4 [(0, .ref (a 21)), (1, .int (nI v)), (2, .int (nI w))] := hl
  refine W_Q (fun Q hQ => ?_)
  show W p l e ({ frames := 0, cells := 0, slots := 0, locals := 0 } : Room) s m ([.ref (a 21), .int (nI v), .int (nI w)] : List Value).toArray below meth c s.heap [] 0 0 Q (F0 m 0 ls [])
  refine lv_aload_n hx hb dX1_areTwins_0 rfl (lv_at hl 0 rfl) ?_
  refine va_get (D := D) (ci := 1) (v := .ref (a 22)) (C := RX1) (T := TX1) (N := 4) hx hb hts hinX1 hown hK1 hP 21 rfl rfl 1 (by decide) (hts (.fieldLink RX1 15 "KnowledgeModel$Likeness" "classOf" "[I") (List.mem_of_getElem? (i := 1) rfl)) (fun _ h9 => h9) rfl dX1_areTwins_1 ?_
  refine lv_iload_n hx hb dX1_areTwins_4 rfl (lv_at hl 1 rfl) ?_
  refine xiald (j := v) (q0 := 22) (t0 := 0) hx hb hK1 hP rfl rfl (by omega) (by decide) dX1_areTwins_5 ?_
  refine lv_aload_n hx hb dX1_areTwins_6 rfl (lv_at hl 0 rfl) ?_
  refine va_get (D := D) (ci := 1) (v := .ref (a 22)) (C := RX1) (T := TX1) (N := 4) hx hb hts hinX1 hown hK1 hP 21 rfl rfl 1 (by decide) (hts (.fieldLink RX1 15 "KnowledgeModel$Likeness" "classOf" "[I") (List.mem_of_getElem? (i := 1) rfl)) (fun _ h9 => h9) rfl dX1_areTwins_7 ?_
  refine lv_iload_n hx hb dX1_areTwins_10 rfl (lv_at hl 2 rfl) ?_
  refine xiald (j := w) (q0 := 22) (t0 := 0) hx hb hK1 hP rfl rfl (by omega) (by decide) dX1_areTwins_11 ?_
  refine lv_icmp_ne (tgt := 36) hx hb dX1_areTwins_12 (by decide) (fun c12 => ?_) (fun c12 => ?_)
  ·
    refine lv_iconst (v := (nI 0)) hx hb dX1_areTwins_36 (by decide) ?_
    subst hQ
    have hfin : (nI 0) = bI (twinB M v w) := by first | exact (congrArg bI (show twinB M v w = false by unfold twinB; rw [decide_eq_false c12, Bool.false_and, Bool.false_and])).symm | exact (congrArg bI (show twinB M v w = false by unfold twinB; rw [decide_eq_false c33, Bool.and_false, Bool.false_and])).symm
    exact W.zret (ty := .boolean) hx hb hr (by decide) (fun t ht hW => ⟨⟨_, (), rfl, hfin, trivial⟩, hS.F ht⟩) hS.2.2 dX1_areTwins_37
  ·
    refine lv_aload_n hx hb dX1_areTwins_15 rfl (lv_at hl 0 rfl) ?_
    refine va_get (D := D) (ci := 1) (v := .ref (a 1)) (C := RX1) (T := TX1) (N := 4) hx hb hts hinX1 hown hK1 hP 21 rfl rfl 0 (by decide) (hts (.fieldLink RX1 9 "KnowledgeModel$Likeness" "worlds" "LKnowledgeModel$Worlds;") (List.mem_of_getElem? (i := 2) rfl)) (fun _ h9 => h9) rfl dX1_areTwins_16 ?_
    refine va_get (D := D) (ci := 3) (v := .ref (a 2)) (C := RX3) (T := TX3) (N := 4) hx hb hts hinX3 hown hK1 hP 1 rfl rfl 0 (by decide) (hts (.fieldLink RX1 66 "KnowledgeModel$Worlds" "atomsAt" "[I") (List.mem_of_getElem? (i := 3) rfl)) (fun _ h9 => h9) rfl dX1_areTwins_19 ?_
    refine lv_iload_n hx hb dX1_areTwins_22 rfl (lv_at hl 1 rfl) ?_
    refine xiald (j := v) (q0 := 2) (t0 := 0) hx hb hK1 hP rfl rfl (by omega) (by decide) dX1_areTwins_23 ?_
    refine lv_aload_n hx hb dX1_areTwins_24 rfl (lv_at hl 0 rfl) ?_
    refine va_get (D := D) (ci := 1) (v := .ref (a 1)) (C := RX1) (T := TX1) (N := 4) hx hb hts hinX1 hown hK1 hP 21 rfl rfl 0 (by decide) (hts (.fieldLink RX1 9 "KnowledgeModel$Likeness" "worlds" "LKnowledgeModel$Worlds;") (List.mem_of_getElem? (i := 2) rfl)) (fun _ h9 => h9) rfl dX1_areTwins_25 ?_
    refine va_get (D := D) (ci := 3) (v := .ref (a 2)) (C := RX3) (T := TX3) (N := 4) hx hb hts hinX3 hown hK1 hP 1 rfl rfl 0 (by decide) (hts (.fieldLink RX1 66 "KnowledgeModel$Worlds" "atomsAt" "[I") (List.mem_of_getElem? (i := 3) rfl)) (fun _ h9 => h9) rfl dX1_areTwins_28 ?_
    refine lv_iload_n hx hb dX1_areTwins_31 rfl (lv_at hl 2 rfl) ?_
    refine xiald (j := w) (q0 := 2) (t0 := 0) hx hb hK1 hP rfl rfl (by omega) (by decide) dX1_areTwins_32 ?_
    refine lv_icmp_eq (tgt := 38) hx hb dX1_areTwins_33 (by decide) (fun c33 => ?_) (fun c33 => ?_)
    ·
      refine lv_iconst (v := (nI 0)) hx hb dX1_areTwins_38 (by decide) ?_
      refine lv_istore_n (lv' := [(3, .int (nI 0)), (0, .ref (a 21)), (1, .int (nI v)), (2, .int (nI w))]) hx hb dX1_areTwins_39 rfl hl (by decide) rfl (fun ls hl => ?_)
      have cut40 : ∀ (f40 : Nat) (q : Nat) (hq : q ≤ 4) (ha : allB (fun i => decide (M (16 + i) v = M (16 + i) w)) q = true), 4 + 1 ≤ q + f40 → ∀ (H : Heap) (locs : List Loc), va_P D vwCl (xc cs a M N) H → va_S (fun _ => False) s.heap H locs → ∀ (ls : Array Slot), lv_has ls 4 [(0, .ref (a 21)), (1, .int (nI v)), (2, .int (nI w)), (3, .int (nI q))] → W p l e ({ frames := 0, cells := 0, slots := 0, locals := 0 } : Room) s m ([.ref (a 21), .int (nI v), .int (nI w)] : List Value).toArray below meth c H locs 0 0 Q (F0 m 40 ls []) := by
        intro f40
        induction f40 with
        | zero => intro q hq ha hfu40; exact absurd hfu40 (by omega)
        | succ f40 cut40 =>
          intro q hq ha hfu40 H locs hP hS ls hl
          refine lv_iload_n hx hb dX1_areTwins_40 rfl (lv_at hl 3 rfl) ?_
          refine lv_iconst (v := (nI 4)) hx hb dX1_areTwins_41 (by decide) ?_
          refine lv_icmp_ge (tgt := 72) hx hb dX1_areTwins_42 (by decide) (fun c42 => ?_) (fun c42 => ?_)
          ·
            replace c42 : 4 ≤ q := k_get c42 (by omega) (by omega)
            refine lv_iconst (v := (nI 1)) hx hb dX1_areTwins_72 (by decide) ?_
            subst hQ
            have hfin : (nI 1) = bI (twinB M v w) := by (have hqe : q = 4 := by omega); subst hqe; exact (congrArg bI (show twinB M v w = true by unfold twinB; rw [decide_eq_true c12, decide_eq_true c33, ha]; rfl)).symm
            exact W.zret (ty := .boolean) hx hb hr (by decide) (fun t ht hW => ⟨⟨_, (), rfl, hfin, trivial⟩, hS.F ht⟩) hS.2.2 dX1_areTwins_73
          ·
            replace c42 : q < 4 := k_gef c42 (by omega) (by omega)
            refine lv_aload_n hx hb dX1_areTwins_45 rfl (lv_at hl 0 rfl) ?_
            refine va_get (D := D) (ci := 1) (v := .ref (a 23)) (C := RX1) (T := TX1) (N := 4) hx hb hts hinX1 hown hK1 hP 21 rfl rfl 2 (by decide) (hts (.fieldLink RX1 21 "KnowledgeModel$Likeness" "seenClasses" "[[I") (List.mem_of_getElem? (i := 4) rfl)) (fun _ h9 => h9) rfl dX1_areTwins_46 ?_
            refine lv_iload_n hx hb dX1_areTwins_49 rfl (lv_at hl 3 rfl) ?_
            refine xaald (j := q) (q0 := 23) (t0 := 2) (f := fun i => a (24 + i)) hx hb hK1 hP rfl rfl (by omega) (by decide) dX1_areTwins_50 ?_
            refine lv_iload_n hx hb dX1_areTwins_51 rfl (lv_at hl 1 rfl) ?_
            refine xiald (j := v) (q0 := (24 + q)) (t0 := 0) hx hb hK1 hP (xg_sc (by omega)) rfl (by omega) (by decide) dX1_areTwins_52 ?_
            refine lv_aload_n hx hb dX1_areTwins_53 rfl (lv_at hl 0 rfl) ?_
            refine va_get (D := D) (ci := 1) (v := .ref (a 23)) (C := RX1) (T := TX1) (N := 4) hx hb hts hinX1 hown hK1 hP 21 rfl rfl 2 (by decide) (hts (.fieldLink RX1 21 "KnowledgeModel$Likeness" "seenClasses" "[[I") (List.mem_of_getElem? (i := 4) rfl)) (fun _ h9 => h9) rfl dX1_areTwins_54 ?_
            refine lv_iload_n hx hb dX1_areTwins_57 rfl (lv_at hl 3 rfl) ?_
            refine xaald (j := q) (q0 := 23) (t0 := 2) (f := fun i => a (24 + i)) hx hb hK1 hP rfl rfl (by omega) (by decide) dX1_areTwins_58 ?_
            refine lv_iload_n hx hb dX1_areTwins_59 rfl (lv_at hl 2 rfl) ?_
            refine xiald (j := w) (q0 := (24 + q)) (t0 := 0) hx hb hK1 hP (xg_sc (by omega)) rfl (by omega) (by decide) dX1_areTwins_60 ?_
            refine lv_icmp_eq (tgt := 66) hx hb dX1_areTwins_61 (by decide) (fun c61 => ?_) (fun c61 => ?_)
            ·
              refine lv_iinc (v := (nI (q + 1))) (lv' := [(3, .int (nI (q + 1))), (0, .ref (a 21)), (1, .int (nI v)), (2, .int (nI w))]) hx hb dX1_areTwins_66 hl (k := 3) rfl (nI_add q 1) (by decide) rfl (fun ls hl => ?_)
              refine lv_goto (tgt := 40) hx hb dX1_areTwins_69 (by decide) ?_
              exact cut40 (q + 1) (by omega) (by simp only [allB, ha, decide_eq_true c61, Bool.and_self]) (by omega) _ _ hP hS ls (lcons (lcons (lcons (lcons (lzero hl) hl 0 rfl rfl) hl 3 rfl rfl) hl 2 rfl rfl) hl 1 rfl rfl)
            ·
              refine lv_iconst (v := (nI 0)) hx hb dX1_areTwins_64 (by decide) ?_
              subst hQ
              have hfin : (nI 0) = bI (twinB M v w) := by exact (congrArg bI (show twinB M v w = false by unfold twinB; rw [allB_not (p := fun i => decide (M (16 + i) v = M (16 + i) w)) (k := q) (by omega) (decide_eq_false c61), Bool.and_false])).symm
              exact W.zret (ty := .boolean) hx hb hr (by decide) (fun t ht hW => ⟨⟨_, (), rfl, hfin, trivial⟩, hS.F ht⟩) hS.2.2 dX1_areTwins_65
      exact cut40 (4 + 1) 0 (by omega) (by rfl) (by omega) _ _ hP hS ls (lcons (lcons (lcons (lcons (lzero hl) hl 0 rfl rfl) hl 3 rfl rfl) hl 2 rfl rfl) hl 1 rfl rfl)
    ·
      refine lv_iconst (v := (nI 0)) hx hb dX1_areTwins_36 (by decide) ?_
      subst hQ
      have hfin : (nI 0) = bI (twinB M v w) := by first | exact (congrArg bI (show twinB M v w = false by unfold twinB; rw [decide_eq_false c12, Bool.false_and, Bool.false_and])).symm | exact (congrArg bI (show twinB M v w = false by unfold twinB; rw [decide_eq_false c33, Bool.and_false, Bool.false_and])).symm
      exact W.zret (ty := .boolean) hx hb hr (by decide) (fun t ht hW => ⟨⟨_, (), rfl, hfin, trivial⟩, hS.F ht⟩) hS.2.2 dX1_areTwins_37

set_option maxHeartbeats 4000000 in
set_option maxRecDepth 100000 in
theorem c_X1_firstTwinOf (l : Launch) (D : va_G) (cs : Nat → ClassId) (a : Nat → Nat) (M : Nat → Nat → Int32) (N : Nat → Int64)   (w : Nat) (hw : w < 24) : Met l yX1_firstTwinOf wsX1_firstTwinOf ({ frames := 1, cells := 0, slots := 0, locals := 23 } : Room) (va_Pc [.ref (a 21), .int (nI w)] (XB D cs (xc cs a M N))) (va_Qi (fun r (_ : Unit) => r = nI (fstB (fun v => twinB M v w) w)) (fun _ _ => True) (fun _ => False)) 0 0 (fun _ => False) := by
  refine Met.ofW (cc := cX1_firstTwinOf) (maxL := 3) (ret := (some .int)) (by decide) rfl ?_
  intro p e s m args below meth c s₁ B hml hv
  obtain ⟨rfl, hP, hK⟩ := hv
  have hx := B.exec
  have hb := B.bytes
  have hr := B.returns
  have hts := atoms_spec (ws := wsX1_firstTwinOf) B.pre
  have hown : s.vm.findClass RX1 = some m.cls := findClass_of_methodNamed B.named
  have hlocks := B.notSynchronized
  have hK1 := hK.1
  have hinX1 : ∀ w ∈ wsX10, w ∈ wsX1_firstTwinOf := fun w h => List.mem_cons_of_mem _ (List.mem_append_left _ (List.mem_append_right _ h))
  have hinX3 : ∀ w ∈ wsX30, w ∈ wsX1_firstTwinOf := fun w h => List.mem_cons_of_mem _ (List.mem_append_right _ h)
  have hS : va_S (fun _ => False) s.heap s.heap [] := va_S.rf
  have hl := lv_entry ([.ref (a 21), .int (nI w)]) (n := 3) (Nat.le_of_ble_eq_true rfl)
  rw [lg_entry_eq]
  generalize (lg_sl ([.ref (a 21), .int (nI w)]) ++ List.replicate (3 - (lg_sl ([.ref (a 21), .int (nI w)])).length) Slot.unset).toArray = ls at hl ⊢
  have hl : lv_has ls 3 [(0, .ref (a 21)), (1, .int (nI w))] := hl
  refine W_Q (fun Q hQ => ?_)
  show W p l e ({ frames := 1, cells := 0, slots := 0, locals := 23 } : Room) s m ([.ref (a 21), .int (nI w)] : List Value).toArray below meth c s.heap [] 0 0 Q (F0 m 0 ls [])
  refine lv_iconst (v := (nI 0)) hx hb dX1_firstTwinOf_0 (by decide) ?_
  refine lv_istore_n (lv' := [(2, .int (nI 0)), (0, .ref (a 21)), (1, .int (nI w))]) hx hb dX1_firstTwinOf_1 rfl hl (by decide) rfl (fun ls hl => ?_)
  have cut2 : ∀ (f2 : Nat) (j : Nat) (hj : j ≤ w) (hno : ∀ v, v < j → twinB M v w = false), w + 1 ≤ j + f2 → ∀ (H : Heap) (locs : List Loc), va_P D vwCl (xc cs a M N) H → va_S (fun _ => False) s.heap H locs → ∀ (ls : Array Slot), lv_has ls 3 [(0, .ref (a 21)), (1, .int (nI w)), (2, .int (nI j))] → W p l e ({ frames := 1, cells := 0, slots := 0, locals := 23 } : Room) s m ([.ref (a 21), .int (nI w)] : List Value).toArray below meth c H locs 0 0 Q (F0 m 2 ls []) := by
    intro f2
    induction f2 with
    | zero => intro j hj hno hfu2; exact absurd hfu2 (by omega)
    | succ f2 cut2 =>
      intro j hj hno hfu2 H locs hP hS ls hl
      refine lv_iload_n hx hb dX1_firstTwinOf_2 rfl (lv_at hl 2 rfl) ?_
      refine lv_iload_n hx hb dX1_firstTwinOf_3 rfl (lv_at hl 1 rfl) ?_
      refine lv_icmp_ge (tgt := 24) hx hb dX1_firstTwinOf_4 (by decide) (fun c4 => ?_) (fun c4 => ?_)
      ·
        replace c4 : w ≤ j := k_get c4 (by omega) (by omega)
        refine lv_iload_n hx hb dX1_firstTwinOf_24 rfl (lv_at hl 1 rfl) ?_
        subst hQ
        have hfin : (nI w) = nI (fstB (fun v => twinB M v w) w) := by (have hje : j = w := by omega); subst hje; exact congrArg nI (fst_none (p := fun v => twinB M v j) hno).symm
        exact W.iret hx hb hr (fun t ht hW => ⟨⟨_, (), rfl, hfin, trivial⟩, hS.F ht⟩) hS.2.2 dX1_firstTwinOf_25
      ·
        replace c4 : j < w := k_gef c4 (by omega) (by omega)
        refine lv_aload_n hx hb dX1_firstTwinOf_7 rfl (lv_at hl 0 rfl) ?_
        refine lv_iload_n hx hb dX1_firstTwinOf_8 rfl (lv_at hl 2 rfl) ?_
        refine lv_iload_n hx hb dX1_firstTwinOf_9 rfl (lv_at hl 1 rfl) ?_
        refine xcalli (va_runV (As := [.int (nI j), .int (nI w)]) (rest := []) ⟨hx, hb, hml, hown, hts⟩ (c_X1_areTwins l D cs a M N j w (by omega) (by omega)) (cwV 2 hts gX1_firstTwinOf_X1_areTwins rfl rfl rfl (by decide +kernel) ⟨Nat.le_of_ble_eq_true rfl, Nat.le_of_ble_eq_true rfl⟩) (xpreV hP hK (ci := 1) 21 rfl rfl) rfl rfl hl.1 rfl (lv_room (Nat.le_of_ble_eq_true rfl)) dX1_firstTwinOf_10 ⟨Nat.le_of_ble_eq_true rfl, Nat.le_of_ble_eq_true rfl⟩) hS hP (fun H locs hP hS => ?_)
        refine lv_if_eq (tgt := 18) hx hb dX1_firstTwinOf_13 (by decide) (fun c13 => ?_) (fun c13 => ?_)
        ·
          replace c13 := bI_0 c13
          refine lv_iinc (v := (nI (j + 1))) (lv' := [(2, .int (nI (j + 1))), (0, .ref (a 21)), (1, .int (nI w))]) hx hb dX1_firstTwinOf_18 hl (k := 2) rfl (nI_add j 1) (by decide) rfl (fun ls hl => ?_)
          refine lv_goto (tgt := 2) hx hb dX1_firstTwinOf_21 (by decide) ?_
          exact cut2 (j + 1) (by omega) (by intro v hv; rcases Nat.lt_or_ge v j with hh | hh; exact hno v hh; (have hve : v = j := by omega); subst hve; exact c13) (by omega) _ _ hP hS ls (lcons (lcons (lcons (lzero hl) hl 0 rfl rfl) hl 2 rfl rfl) hl 1 rfl rfl)
        ·
          replace c13 := bI_n0 c13
          refine lv_iload_n hx hb dX1_firstTwinOf_16 rfl (lv_at hl 2 rfl) ?_
          subst hQ
          have hfin : (nI j) = nI (fstB (fun v => twinB M v w) w) := by exact congrArg nI (fst_at (p := fun v => twinB M v w) hno c13 c4).symm
          exact W.iret hx hb hr (fun t ht hW => ⟨⟨_, (), rfl, hfin, trivial⟩, hS.F ht⟩) hS.2.2 dX1_firstTwinOf_17
  exact cut2 (w + 1) 0 (by omega) (by intro v hv; omega) (by omega) _ _ hP hS ls (lcons (lcons (lcons (lzero hl) hl 0 rfl rfl) hl 2 rfl rfl) hl 1 rfl rfl)

set_option maxHeartbeats 4000000 in
set_option maxRecDepth 100000 in
theorem c_X1_split (l : Launch) (D : va_G) (cs : Nat → ClassId) (a : Nat → Nat) (M : Nat → Nat → Int32) (N : Nat → Int64) (sz : Nat) (hI : kI a 29)  (n : Nat)  (hn : M 0 0 = nI n) (hn24 : n ≤ 24) : Met l yX1_split wsX1_split ({ frames := 2, cells := 0, slots := 0, locals := 45 } : Room) (va_Pc [.ref (a 21)] (XBs D cs (xc cs a M N) sz)) (va_Qi (fun r (u : Unit) => r = nI (fb_ct (rep M) n) ∧ True) (fun (u : Unit) t => va_P D vwCl (xc cs a (cpM (splC M n)) N) t.heap) (kA a 29 sz)) 0 0 (kA a 29 sz) := by
  refine Met.ofW (cc := cX1_split) (maxL := 4) (ret := (some .int)) (by decide) rfl ?_
  intro p e s m args below meth c s₁ B hml hv
  obtain ⟨rfl, hsz, hP, hK⟩ := hv
  have hx := B.exec
  have hb := B.bytes
  have hr := B.returns
  have hts := atoms_spec (ws := wsX1_split) B.pre
  have hown : s.vm.findClass RX1 = some m.cls := findClass_of_methodNamed B.named
  have hlocks := B.notSynchronized
  have hK1 := hK.1
  have hinX1 : ∀ w ∈ wsX10, w ∈ wsX1_split := fun w h => List.mem_cons_of_mem _ (List.mem_append_left _ (List.mem_append_right _ h))
  have hinX3 : ∀ w ∈ wsX30, w ∈ wsX1_split := fun w h => List.mem_cons_of_mem _ (List.mem_append_right _ h)
  subst hsz
  have hS : va_S (kA a 29 s.heap.size) s.heap s.heap [] := va_S.rf
  have hl := lv_entry ([.ref (a 21)]) (n := 4) (Nat.le_of_ble_eq_true rfl)
  rw [lg_entry_eq]
  generalize (lg_sl ([.ref (a 21)]) ++ List.replicate (4 - (lg_sl ([.ref (a 21)])).length) Slot.unset).toArray = ls at hl ⊢
  have hl : lv_has ls 4 [(0, .ref (a 21))] := hl
  refine W_Q (fun Q hQ => ?_)
  show W p l e ({ frames := 2, cells := 0, slots := 0, locals := 45 } : Room) s m ([.ref (a 21)] : List Value).toArray below meth c s.heap [] 0 0 Q (F0 m 0 ls [])
  refine lv_iconst (v := (nI 0)) hx hb dX1_split_0 (by decide) ?_
  refine lv_istore_n (lv' := [(1, .int (nI 0)), (0, .ref (a 21))]) hx hb dX1_split_1 rfl hl (by decide) rfl (fun ls hl => ?_)
  refine lv_iconst (v := (nI 0)) hx hb dX1_split_2 (by decide) ?_
  refine lv_istore_n (lv' := [(2, .int (nI 0)), (1, .int (nI 0)), (0, .ref (a 21))]) hx hb dX1_split_3 rfl hl (by decide) rfl (fun ls hl => ?_)
  have cut4 : ∀ (f4 : Nat) (j : Nat) (hj : j ≤ n), n + 1 ≤ j + f4 → ∀ (H : Heap) (locs : List Loc), va_P D vwCl (xc cs a (splC M j) N) H → va_S (kA a 29 s.heap.size) s.heap H locs → ∀ (ls : Array Slot), lv_has ls 4 [(0, .ref (a 21)), (1, .int (nI (fb_ct (rep M) j))), (2, .int (nI j))] → W p l e ({ frames := 2, cells := 0, slots := 0, locals := 45 } : Room) s m ([.ref (a 21)] : List Value).toArray below meth c H locs 0 0 Q (F0 m 4 ls []) := by
    intro f4
    induction f4 with
    | zero => intro j hj hfu4; exact absurd hfu4 (by omega)
    | succ f4 cut4 =>
      intro j hj hfu4 H locs hP hS ls hl
      have htw := tw_le M j
      have hcj := fb_ct_le (rep M) j
      refine lv_iload_n hx hb dX1_split_4 rfl (lv_at hl 2 rfl) ?_
      refine lv_aload_n hx hb dX1_split_5 rfl (lv_at hl 0 rfl) ?_
      refine va_get (D := D) (ci := 1) (v := .ref (a 1)) (C := RX1) (T := TX1) (N := 4) hx hb hts hinX1 hown hK1 hP 21 rfl rfl 0 (by decide) (hts (.fieldLink RX1 9 "KnowledgeModel$Likeness" "worlds" "LKnowledgeModel$Worlds;") (List.mem_of_getElem? (i := 1) rfl)) (fun _ h9 => h9) rfl dX1_split_6 ?_
      refine va_get (D := D) (ci := 3) (v := .int ((splC M j) 0 0)) (C := RX3) (T := TX3) (N := 4) hx hb hts hinX3 hown hK1 hP 1 rfl rfl 2 (by decide) (hts (.fieldLink RX1 27 "KnowledgeModel$Worlds" "count" "I") (List.mem_of_getElem? (i := 2) rfl)) (fun _ h9 => h9) rfl dX1_split_9 ?_
      refine xtop (y := nI n) (((congrFun (splC_o (by decide)) 0).trans hn)) ?_
      refine lv_icmp_ge (tgt := 57) hx hb dX1_split_12 (by decide) (fun c12 => ?_) (fun c12 => ?_)
      ·
        replace c12 : n ≤ j := k_get c12 (by omega) (by omega)
        refine lv_aload_n hx hb dX1_split_57 rfl (lv_at hl 0 rfl) ?_
        refine va_get (D := D) (ci := 1) (v := .ref (a 28)) (C := RX1) (T := TX1) (N := 4) hx hb hts hinX1 hown hK1 hP 21 rfl rfl 3 (by decide) (hts (.fieldLink RX1 24 "KnowledgeModel$Likeness" "finerClassOf" "[I") (List.mem_of_getElem? (i := 3) rfl)) (fun _ h9 => h9) rfl dX1_split_58 ?_
        refine lv_iconst (v := (nI 0)) hx hb dX1_split_61 (by decide) ?_
        refine lv_aload_n hx hb dX1_split_62 rfl (lv_at hl 0 rfl) ?_
        refine va_get (D := D) (ci := 1) (v := .ref (a 22)) (C := RX1) (T := TX1) (N := 4) hx hb hts hinX1 hown hK1 hP 21 rfl rfl 1 (by decide) (hts (.fieldLink RX1 15 "KnowledgeModel$Likeness" "classOf" "[I") (List.mem_of_getElem? (i := 4) rfl)) (fun _ h9 => h9) rfl dX1_split_63 ?_
        refine lv_iconst (v := (nI 0)) hx hb dX1_split_66 (by decide) ?_
        refine lv_bipush (v := (nI 24)) hx hb dX1_split_67 (by decide) ?_
        refine va_copyi hx hb (hml.trans hl.1.symm) hown (hts (.methodLink RX1 57 arraycopyName) (List.mem_of_getElem? (i := 5) rfl)) (hts (.native arraycopyName) (List.mem_of_getElem? (i := 6) rfl)) (hts (.static arraycopyName) (List.mem_of_getElem? (i := 7) rfl)) (hts (.initialized "java/lang/System") (List.mem_of_getElem? (i := 8) rfl)) hK1 hP (xD hI) hS 28 22 0 0 rfl rfl rfl rfl rfl (by decide) (by decide) (by decide) (by decide) (by decide) (fun _ _ => rfl) (Nat.le_of_ble_eq_true rfl) (Nat.le_of_ble_eq_true rfl) dX1_split_69 (fun H locs hP _ hS => ?_)
        have hP : va_P D vwCl (xc cs a (cpM (splC M j)) N) H := hP
        obtain ⟨M_1, hM_1⟩ : ∃ z, z = cpM (splC M j) := ⟨_, rfl⟩
        rw [← hM_1] at hP
        have hk_2 : M_1 0 0 = nI n := by rw [hM_1]; exact (show (splC M j) 0 0 = nI n from ((congrFun (splC_o (by decide)) 0).trans hn))
        refine lv_iload_n hx hb dX1_split_72 rfl (lv_at hl 1 rfl) ?_
        subst hQ
        have hMfin : M_1 = cpM (splC M n) := by (have hje : j = n := by omega); subst hje; simp only [cpM, c12, hM_1]
        rw [hMfin] at hP
        have hrel : True := by trivial
        have hfin : (nI (fb_ct (rep M) j)) = nI (fb_ct (rep M) n) := by (have hje : j = n := by omega); subst hje; rfl
        exact W.iret hx hb hr (fun t ht hW => ⟨⟨_, (), rfl, ⟨hfin, hrel⟩, by rw [← ht] at hP; exact hP⟩, hS.F ht⟩) hS.2.2 dX1_split_73
      ·
        replace c12 : j < n := k_gef c12 (by omega) (by omega)
        refine lv_aload_n hx hb dX1_split_15 rfl (lv_at hl 0 rfl) ?_
        refine lv_iload_n hx hb dX1_split_16 rfl (lv_at hl 2 rfl) ?_
        refine xcalli (va_runV (As := [.int (nI j)]) (rest := []) ⟨hx, hb, hml, hown, hts⟩ (c_X1_firstTwinOf l D cs a (splC M j) N j (by omega)) (cwV 1 hts gX1_split_X1_firstTwinOf rfl rfl rfl (by decide +kernel) ⟨Nat.le_of_ble_eq_true rfl, Nat.le_of_ble_eq_true rfl⟩) (xpreV hP hK (ci := 1) 21 rfl rfl) rfl rfl hl.1 rfl (lv_room (Nat.le_of_ble_eq_true rfl)) dX1_split_17 ⟨Nat.le_of_ble_eq_true rfl, Nat.le_of_ble_eq_true rfl⟩) hS hP (fun H locs hP hS => ?_)
        refine xtop (y := (nI (tw M j))) (by exact congrArg nI tw_spl) ?_
        refine lv_istore_n (lv' := [(3, .int (nI (tw M j))), (0, .ref (a 21)), (1, .int (nI (fb_ct (rep M) j))), (2, .int (nI j))]) hx hb dX1_split_20 rfl hl (by decide) rfl (fun ls hl => ?_)
        refine lv_iload_n hx hb dX1_split_21 rfl (lv_at hl 0 rfl) ?_
        refine lv_iload_n hx hb dX1_split_22 rfl (lv_at hl 3 rfl) ?_
        refine lv_icmp_ne (tgt := 39) hx hb dX1_split_23 (by decide) (fun c23 => ?_) (fun c23 => ?_)
        ·
          replace c23 : ¬ (tw M j) = j := k_net c23 (by omega) (by omega)
          refine lv_aload_n hx hb dX1_split_39 rfl (lv_at hl 1 rfl) ?_
          refine va_get (D := D) (ci := 1) (v := .ref (a 28)) (C := RX1) (T := TX1) (N := 4) hx hb hts hinX1 hown hK1 hP 21 rfl rfl 3 (by decide) (hts (.fieldLink RX1 24 "KnowledgeModel$Likeness" "finerClassOf" "[I") (List.mem_of_getElem? (i := 3) rfl)) (fun _ h9 => h9) rfl dX1_split_40 ?_
          refine lv_iload_n hx hb dX1_split_43 rfl (lv_at hl 3 rfl) ?_
          refine lv_aload_n hx hb dX1_split_44 rfl (lv_at hl 1 rfl) ?_
          refine va_get (D := D) (ci := 1) (v := .ref (a 28)) (C := RX1) (T := TX1) (N := 4) hx hb hts hinX1 hown hK1 hP 21 rfl rfl 3 (by decide) (hts (.fieldLink RX1 24 "KnowledgeModel$Likeness" "finerClassOf" "[I") (List.mem_of_getElem? (i := 3) rfl)) (fun _ h9 => h9) rfl dX1_split_45 ?_
          refine lv_iload_n hx hb dX1_split_48 rfl (lv_at hl 0 rfl) ?_
          refine xiald (j := tw M j) (q0 := 28) (t0 := 0) hx hb hK1 hP rfl rfl (by omega) (by decide) dX1_split_49 ?_
          refine xtop (y := (nI (finF M j (tw M j)))) (by exact if_pos ⟨rfl, by omega⟩) ?_
          refine xiast (j := j) (q0 := 28) (t0 := 0) (ws' := xc cs a (wr (splC M j) 20 j (nI (finF M j (tw M j)))) N) hx hb hK1 hP (xD hI) hS rfl rfl (by omega) (by decide) xs_28 dX1_split_50 (fun H locs hP hS => ?_)
          obtain ⟨M_3, hM_3⟩ : ∃ z, z = wr (splC M j) 20 j (nI (finF M j (tw M j))) := ⟨_, rfl⟩
          rw [← hM_3] at hP
          have hk_4 : M_3 0 0 = nI n := by rw [hM_3]; exact (wr_ne (Or.inl (by omega))).trans ((congrFun (splC_o (by decide)) 0).trans hn)
          refine lv_iinc (v := (nI (j + 1))) (lv' := [(2, .int (nI (j + 1))), (3, .int (nI (tw M j))), (0, .ref (a 21)), (1, .int (nI (fb_ct (rep M) j)))]) hx hb dX1_split_51 hl (k := 3) rfl (nI_add j 1) (by decide) rfl (fun ls hl => ?_)
          refine lv_goto (tgt := 4) hx hb dX1_split_54 (by decide) ?_
          have e_5 : (nI (fb_ct (rep M) j)) = (nI (fb_ct (rep M) (j + 1))) := by first | (rw [fb_ct_succ, show rep M j = true from decide_eq_true c23]; rfl) | (rw [fb_ct_succ, show rep M j = false from decide_eq_false c23]; rfl)
          have eM_6 : M_3 = splC M (j + 1) := by first | (rw [← splC_1 c23]; simp only [wr_eq, c12, c23, hM_3]; done) | (rw [← splC_2 c23]; simp only [wr_eq, c12, c23, hM_3]; done)
          exact cut4 (j + 1) (by omega) (by omega) _ _ (eM_6 ▸ hP) hS ls (lcons (lcons (lcons (lzero hl) hl 0 rfl rfl) hl 3 rfl (congrArg Value.int e_5)) hl 2 rfl rfl)
        ·
          replace c23 : (tw M j) = j := k_nef c23 (by omega) (by omega)
          refine lv_aload_n hx hb dX1_split_26 rfl (lv_at hl 1 rfl) ?_
          refine va_get (D := D) (ci := 1) (v := .ref (a 28)) (C := RX1) (T := TX1) (N := 4) hx hb hts hinX1 hown hK1 hP 21 rfl rfl 3 (by decide) (hts (.fieldLink RX1 24 "KnowledgeModel$Likeness" "finerClassOf" "[I") (List.mem_of_getElem? (i := 3) rfl)) (fun _ h9 => h9) rfl dX1_split_27 ?_
          refine lv_iload_n hx hb dX1_split_30 rfl (lv_at hl 3 rfl) ?_
          refine lv_iload_n hx hb dX1_split_31 rfl (lv_at hl 2 rfl) ?_
          refine xiast (j := j) (q0 := 28) (t0 := 0) (ws' := xc cs a (wr (splC M j) 20 j (nI (fb_ct (rep M) j))) N) hx hb hK1 hP (xD hI) hS rfl rfl (by omega) (by decide) xs_28 dX1_split_32 (fun H locs hP hS => ?_)
          obtain ⟨M_7, hM_7⟩ : ∃ z, z = wr (splC M j) 20 j (nI (fb_ct (rep M) j)) := ⟨_, rfl⟩
          rw [← hM_7] at hP
          have hk_8 : M_7 0 0 = nI n := by rw [hM_7]; exact (wr_ne (Or.inl (by omega))).trans ((congrFun (splC_o (by decide)) 0).trans hn)
          refine lv_iinc (v := (nI (fb_ct (rep M) j + 1))) (lv' := [(1, .int (nI (fb_ct (rep M) j + 1))), (3, .int (nI (tw M j))), (0, .ref (a 21)), (2, .int (nI j))]) hx hb dX1_split_33 hl (k := 2) rfl (nI_add (fb_ct (rep M) j) 1) (by decide) rfl (fun ls hl => ?_)
          refine lv_goto (tgt := 51) hx hb dX1_split_36 (by decide) ?_
          refine lv_iinc (v := (nI (j + 1))) (lv' := [(2, .int (nI (j + 1))), (1, .int (nI (fb_ct (rep M) j + 1))), (3, .int (nI (tw M j))), (0, .ref (a 21))]) hx hb dX1_split_51 hl (k := 3) rfl (nI_add j 1) (by decide) rfl (fun ls hl => ?_)
          refine lv_goto (tgt := 4) hx hb dX1_split_54 (by decide) ?_
          have e_9 : (nI (fb_ct (rep M) j + 1)) = (nI (fb_ct (rep M) (j + 1))) := by first | (rw [fb_ct_succ, show rep M j = true from decide_eq_true c23]; rfl) | (rw [fb_ct_succ, show rep M j = false from decide_eq_false c23]; rfl)
          have eM_10 : M_7 = splC M (j + 1) := by first | (rw [← splC_1 c23]; simp only [wr_eq, c12, c23, hM_7]; done) | (rw [← splC_2 c23]; simp only [wr_eq, c12, c23, hM_7]; done)
          exact cut4 (j + 1) (by omega) (by omega) _ _ (eM_10 ▸ hP) hS ls (lcons (lcons (lcons (lzero hl) hl 0 rfl rfl) hl 1 rfl (congrArg Value.int e_9)) hl 3 rfl rfl)
  have e_11 : (nI 0) = (nI (fb_ct (rep M) 0)) := by rfl
  have eM_12 : M = splC M 0 := by funext i x; unfold splC; rw [if_neg (by omega)]
  exact cut4 (n + 1) 0 (by omega) (by omega) _ _ (eM_12 ▸ hP) hS ls (lcons (lcons (lcons (lzero hl) hl 0 rfl rfl) hl 1 rfl (congrArg Value.int e_11)) hl 2 rfl rfl)

def twinP (M : Nat → Nat → Int32) (n : Nat) (cl : Nat → Nat) (v w : Nat) : Bool := decide (cl v = cl w) && decide (M 1 v = M 1 w) && allB (fun i => decide (clsIn n cl (M (2 + i) v) = clsIn n cl (M (2 + i) w))) 4
def twP (M : Nat → Nat → Int32) (n : Nat) (cl : Nat → Nat) (w : Nat) : Nat := fstB (fun v => twinP M n cl v w) w
def repP (M : Nat → Nat → Int32) (n : Nat) (cl : Nat → Nat) (v : Nat) : Bool := decide (twP M n cl v = v)
def finP (M : Nat → Nat → Int32) (n : Nat) (cl : Nat → Nat) (j : Nat) : Nat → Nat := fo (fun w f x => if x = w then (if twP M n cl w = w then fb_ct (repP M n cl) w else f (twP M n cl w)) else f x) (fun _ => 0) j
theorem finP_s {M : Nat → Nat → Int32} {n : Nat} {cl : Nat → Nat} {j x : Nat} : finP M n cl (j + 1) x = if x = j then (if twP M n cl j = j then fb_ct (repP M n cl) j else finP M n cl j (twP M n cl j)) else finP M n cl j x := rfl
theorem finP_le (M : Nat → Nat → Int32) (n : Nat) (cl : Nat → Nat) : ∀ j x, finP M n cl j x ≤ x
  | 0, x => Nat.zero_le x
  | j + 1, x => by
    rw [finP_s]
    by_cases h : x = j
    · subst h
      rw [if_pos rfl]
      by_cases h2 : twP M n cl x = x
      · rw [if_pos h2]; exact fb_ct_le _ _
      · rw [if_neg h2]; exact Nat.le_trans (finP_le M n cl x _) (fst_le _ _)
    · rw [if_neg h]; exact finP_le M n cl j x
def clk (M : Nat → Nat → Int32) (n : Nat) : Nat → Nat → Nat | 0 => fun _ => 0 | k + 1 => finP M n (clk M n k) n
theorem clk_le (M : Nat → Nat → Int32) (n k x : Nat) : clk M n k x ≤ x := by
  cases k with
  | zero => exact Nat.zero_le x
  | succ k => exact finP_le M n _ n x
def cc (M : Nat → Nat → Int32) (n : Nat) : Nat → Nat | 0 => 1 | k + 1 => fb_ct (repP M n (clk M n k)) n
/-- the state behind k rounds -/
def FindR (M : Nat → Nat → Int32) (n k : Nat) (u : Nat → Nat → Int32) : Prop :=
  (∀ x, x < n → u 15 x = nI (clk M n k x)) ∧ (∀ i x, ¬ (15 ≤ i ∧ i < 21) → u i x = M i x) ∧ (0 < k → ∀ i, i < 4 → ∀ x, x < n → u (16 + i) x = clsIn n (clk M n (k - 1)) (M (2 + i) x)) ∧ (k = 0 → ∀ i x, (i ≠ 15 ∨ n ≤ x) → u i x = M i x)
def zrC (M : Nat → Nat → Int32) (j : Nat) : Nat → Nat → Int32 := fun i x => if i = 15 ∧ x < j then nI 0 else M i x
theorem zrC_o {M : Nat → Nat → Int32} {j i x : Nat} (h : i ≠ 15) : zrC M j i x = M i x := if_neg (by omega)
theorem FindR_0 {M : Nat → Nat → Int32} {n : Nat} : FindR M n 0 (zrC M n) := ⟨fun x hx => if_pos ⟨rfl, hx⟩, fun i x h => if_neg (by omega), fun h => absurd h (by omega), fun _ i x h => if_neg (by omega)⟩
theorem twin_link {M u : Nat → Nat → Int32} {n k v w : Nat} (hn : n ≤ 24) (h : FindR M n k u) (hv : v < n) (hw : w < n) : twinB (noteC u n (clk M n k) 4 0) v w = twinP M n (clk M n k) v w := by
  unfold twinB twinP
  rw [noteC_o (by decide), noteC_o (by decide), noteC_o (by decide), noteC_o (by decide), h.1 v hv, h.1 w hw, h.2.1 1 v (by decide), h.2.1 1 w (by decide)]
  have e : (nI (clk M n k v) = nI (clk M n k w)) ↔ (clk M n k v = clk M n k w) := nI_eq (by have := clk_le M n k v; omega) (by have := clk_le M n k w; omega)
  rw [allB_cong (fun i hi => by rw [noteC_at hi hv, noteC_at hi hw, h.2.1 (2 + i) v (by omega), h.2.1 (2 + i) w (by omega)])]
  simp only [e]
theorem tw_link {M u : Nat → Nat → Int32} {n k w : Nat} (hn : n ≤ 24) (h : FindR M n k u) (hw : w < n) : tw (noteC u n (clk M n k) 4 0) w = twP M n (clk M n k) w := fst_cong (fun v hv => twin_link hn h (by omega) hw)
theorem rep_link {M u : Nat → Nat → Int32} {n k w : Nat} (hn : n ≤ 24) (h : FindR M n k u) (hw : w < n) : rep (noteC u n (clk M n k) 4 0) w = repP M n (clk M n k) w := by
  unfold rep repP
  rw [tw_link hn h hw]
theorem fin_link {M u : Nat → Nat → Int32} {n k : Nat} (hn : n ≤ 24) (h : FindR M n k u) : ∀ j, j ≤ n → finF (noteC u n (clk M n k) 4 0) j = finP M n (clk M n k) j
  | 0, _ => rfl
  | j + 1, hj => by
    funext x
    rw [finF_s, finP_s, fin_link hn h j (by omega), tw_link hn h (by omega), fb_ct_cong (fun v hv => rep_link hn h (by omega))]
theorem cnt_link {M u : Nat → Nat → Int32} {n k : Nat} (hn : n ≤ 24) (h : FindR M n k u) : fb_ct (rep (noteC u n (clk M n k) 4 0)) n = cc M n (k + 1) := fb_ct_cong (fun v hv => rep_link hn h hv)
theorem FindR_s {M u : Nat → Nat → Int32} {n k : Nat} (hn : n ≤ 24) (hn0 : 0 < n) (h : FindR M n k u) : FindR M n (k + 1) (cpM (splC (noteC u n (clk M n k) 4 0) n)) := by
  refine ⟨fun x hx => ?_, fun i x hi => ?_, fun _ i hi x hx => ?_, fun f => absurd f (by omega)⟩
  · show va_cpy _ _ 0 0 24 x = _
    rw [pk_cpy_in (by omega) (by omega)]
    show splC _ n 20 (0 + (x - 0)) = _
    rw [Nat.zero_add, Nat.sub_zero]
    unfold splC
    rw [if_pos ⟨rfl, hx⟩, fin_link hn h n (Nat.le_refl n)]
    rfl
  · show (if i = 15 then _ else splC _ n i) x = _
    rw [if_neg (by omega), splC_o (by omega), noteC_o (by omega)]
    exact h.2.1 i x hi
  · show (if 16 + i = 15 then _ else splC _ n (16 + i)) x = _
    rw [if_neg (by omega), splC_o (by omega), noteC_at hi hx, h.2.1 (2 + i) x (by omega)]
    rfl
def FindF (M : Nat → Nat → Int32) (n : Nat) (u : Nat → Nat → Int32) : Prop := ∃ k, k ≤ n ∧ FindR M n k u ∧ (k = n ∨ (0 < k ∧ cc M n k = cc M n (k - 1)))
theorem cc_le {M : Nat → Nat → Int32} {n : Nat} (hn : n ≤ 24) (k : Nat) : cc M n k ≤ 24 := by
  cases k with
  | zero => exact (by decide : 1 ≤ 24)
  | succ k => exact Nat.le_trans (fb_ct_le _ _) hn

set_option maxHeartbeats 4000000 in
set_option maxRecDepth 100000 in
theorem c_X1_findClasses (l : Launch) (D : va_G) (cs : Nat → ClassId) (a : Nat → Nat) (M : Nat → Nat → Int32) (N : Nat → Int64) (sz : Nat) (hI : kI a 29)  (n : Nat)  (hn : M 0 0 = nI n) (hn24 : n ≤ 24) : Met l yX1_findClasses wsX1_findClasses ({ frames := 3, cells := 0, slots := 0, locals := 70 } : Room) (va_Pc [.ref (a 21)] (XBs D cs (xc cs a M N) sz)) (va_Qv (fun (u : Nat → Nat → Int32) => FindF M n u) (fun (u : Nat → Nat → Int32) t => va_P D vwCl (xc cs a u N) t.heap) (kA a 29 sz)) 0 0 (kA a 29 sz) := by
  refine Met.ofW (cc := cX1_findClasses) (maxL := 4) (ret := none) (by decide) rfl ?_
  intro p e s m args below meth c s₁ B hml hv
  obtain ⟨rfl, hsz, hP, hK⟩ := hv
  have hx := B.exec
  have hb := B.bytes
  have hr := B.returns
  have hts := atoms_spec (ws := wsX1_findClasses) B.pre
  have hown : s.vm.findClass RX1 = some m.cls := findClass_of_methodNamed B.named
  have hlocks := B.notSynchronized
  have hK1 := hK.1
  have hinX1 : ∀ w ∈ wsX10, w ∈ wsX1_findClasses := fun w h => List.mem_cons_of_mem _ (List.mem_append_left _ (List.mem_append_right _ h))
  have hinX3 : ∀ w ∈ wsX30, w ∈ wsX1_findClasses := fun w h => List.mem_cons_of_mem _ (List.mem_append_right _ h)
  subst hsz
  have hS : va_S (kA a 29 s.heap.size) s.heap s.heap [] := va_S.rf
  have hl := lv_entry ([.ref (a 21)]) (n := 4) (Nat.le_of_ble_eq_true rfl)
  rw [lg_entry_eq]
  generalize (lg_sl ([.ref (a 21)]) ++ List.replicate (4 - (lg_sl ([.ref (a 21)])).length) Slot.unset).toArray = ls at hl ⊢
  have hl : lv_has ls 4 [(0, .ref (a 21))] := hl
  refine W_Q (fun Q hQ => ?_)
  show W p l e ({ frames := 3, cells := 0, slots := 0, locals := 70 } : Room) s m ([.ref (a 21)] : List Value).toArray below meth c s.heap [] 0 0 Q (F0 m 0 ls [])
  refine lv_iconst (v := (nI 0)) hx hb dX1_findClasses_0 (by decide) ?_
  refine lv_istore_n (lv' := [(1, .int (nI 0)), (0, .ref (a 21))]) hx hb dX1_findClasses_1 rfl hl (by decide) rfl (fun ls hl => ?_)
  have cut2 : ∀ (f2 : Nat) (j : Nat) (hj : j ≤ n), n + 1 ≤ j + f2 → ∀ (H : Heap) (locs : List Loc), va_P D vwCl (xc cs a (zrC M j) N) H → va_S (kA a 29 s.heap.size) s.heap H locs → ∀ (ls : Array Slot), lv_has ls 4 [(0, .ref (a 21)), (1, .int (nI j))] → W p l e ({ frames := 3, cells := 0, slots := 0, locals := 70 } : Room) s m ([.ref (a 21)] : List Value).toArray below meth c H locs 0 0 Q (F0 m 2 ls []) := by
    intro f2
    induction f2 with
    | zero => intro j hj hfu2; exact absurd hfu2 (by omega)
    | succ f2 cut2 =>
      intro j hj hfu2 H locs hP hS ls hl
      refine lv_iload_n hx hb dX1_findClasses_2 rfl (lv_at hl 1 rfl) ?_
      refine lv_aload_n hx hb dX1_findClasses_3 rfl (lv_at hl 0 rfl) ?_
      refine va_get (D := D) (ci := 1) (v := .ref (a 1)) (C := RX1) (T := TX1) (N := 4) hx hb hts hinX1 hown hK1 hP 21 rfl rfl 0 (by decide) (hts (.fieldLink RX1 9 "KnowledgeModel$Likeness" "worlds" "LKnowledgeModel$Worlds;") (List.mem_of_getElem? (i := 1) rfl)) (fun _ h9 => h9) rfl dX1_findClasses_4 ?_
      refine va_get (D := D) (ci := 3) (v := .int ((zrC M j) 0 0)) (C := RX3) (T := TX3) (N := 4) hx hb hts hinX3 hown hK1 hP 1 rfl rfl 2 (by decide) (hts (.fieldLink RX1 27 "KnowledgeModel$Worlds" "count" "I") (List.mem_of_getElem? (i := 2) rfl)) (fun _ h9 => h9) rfl dX1_findClasses_7 ?_
      refine xtop (y := nI n) (((zrC_o (by decide)).trans hn)) ?_
      refine lv_icmp_ge (tgt := 26) hx hb dX1_findClasses_10 (by decide) (fun c10 => ?_) (fun c10 => ?_)
      ·
        replace c10 : n ≤ j := k_get c10 (by omega) (by omega)
        refine lv_iconst (v := (nI 1)) hx hb dX1_findClasses_26 (by decide) ?_
        refine lv_istore_n (lv' := [(1, .int (nI 1)), (0, .ref (a 21))]) hx hb dX1_findClasses_27 rfl hl (by decide) rfl (fun ls hl => ?_)
        refine lv_iconst (v := (nI 0)) hx hb dX1_findClasses_28 (by decide) ?_
        refine lv_istore_n (lv' := [(2, .int (nI 0)), (1, .int (nI 1)), (0, .ref (a 21))]) hx hb dX1_findClasses_29 rfl hl (by decide) rfl (fun ls hl => ?_)
        have cut30 : ∀ (f30 : Nat) (k : Nat) (Mk : Nat → Nat → Int32) (hk : k ≤ n) (hFR : FindR M n k Mk) (hnk : Mk 0 0 = nI n), n + 1 ≤ k + f30 → ∀ (H : Heap) (locs : List Loc), va_P D vwCl (xc cs a Mk N) H → va_S (kA a 29 s.heap.size) s.heap H locs → ∀ (ls : Array Slot), lv_has ls 4 [(0, .ref (a 21)), (1, .int (nI (cc M n k))), (2, .int (nI k))] → W p l e ({ frames := 3, cells := 0, slots := 0, locals := 70 } : Room) s m ([.ref (a 21)] : List Value).toArray below meth c H locs 0 0 Q (F0 m 30 ls []) := by
          intro f30
          induction f30 with
          | zero => intro k Mk hk hFR hnk hfu30; exact absurd hfu30 (by omega)
          | succ f30 cut30 =>
            intro k Mk hk hFR hnk hfu30 H locs hP hS ls hl
            have hc1 := cc_le (M := M) hn24 k
            have hc2 := cc_le (M := M) hn24 (k + 1)
            refine lv_iload_n hx hb dX1_findClasses_30 rfl (lv_at hl 2 rfl) ?_
            refine lv_aload_n hx hb dX1_findClasses_31 rfl (lv_at hl 0 rfl) ?_
            refine va_get (D := D) (ci := 1) (v := .ref (a 1)) (C := RX1) (T := TX1) (N := 4) hx hb hts hinX1 hown hK1 hP 21 rfl rfl 0 (by decide) (hts (.fieldLink RX1 9 "KnowledgeModel$Likeness" "worlds" "LKnowledgeModel$Worlds;") (List.mem_of_getElem? (i := 1) rfl)) (fun _ h9 => h9) rfl dX1_findClasses_32 ?_
            refine va_get (D := D) (ci := 3) (v := .int (Mk 0 0)) (C := RX3) (T := TX3) (N := 4) hx hb hts hinX3 hown hK1 hP 1 rfl rfl 2 (by decide) (hts (.fieldLink RX1 27 "KnowledgeModel$Worlds" "count" "I") (List.mem_of_getElem? (i := 2) rfl)) (fun _ h9 => h9) rfl dX1_findClasses_35 ?_
            refine xtop (y := nI n) (hnk) ?_
            refine lv_icmp_ge (tgt := 66) hx hb dX1_findClasses_38 (by decide) (fun c38 => ?_) (fun c38 => ?_)
            ·
              replace c38 : n ≤ k := k_get c38 (by omega) (by omega)
              subst hQ
              have hrel : FindF M n Mk := by first | ((have hke : k = n := by omega); subst hke; exact ⟨k, hk, hFR, Or.inl rfl⟩) | (refine ⟨k + 1, by omega, ?_, Or.inr ⟨by omega, c52⟩⟩; simp only [wr_eq, c38]; exact FindR_s hn24 (by omega) hFR)
              exact W.vret hx hb hr (fun t ht hW => ⟨⟨Mk, rfl, hrel, by rw [← ht] at hP; exact hP⟩, hS.F ht⟩) hS.2.2 dX1_findClasses_66
            ·
              replace c38 : k < n := k_gef c38 (by omega) (by omega)
              refine lv_aload_n hx hb dX1_findClasses_41 rfl (lv_at hl 0 rfl) ?_
              refine xcallwv (va_runV (As := []) (rest := []) ⟨hx, hb, hml, hown, hts⟩ (c_X1_noteSeenClasses l D cs a Mk N _ hI n (clk M n k) hnk (by omega) (fun w hw => hFR.1 w hw)) (cwV 0 hts gX1_findClasses_X1_noteSeenClasses rfl rfl rfl (by decide +kernel) ⟨Nat.le_of_ble_eq_true rfl, Nat.le_of_ble_eq_true rfl⟩) (xpreVs hP hK (ci := 1) 21 rfl rfl) rfl rfl hl.1 rfl (lv_room (Nat.le_of_ble_eq_true rfl)) dX1_findClasses_42 ⟨Nat.le_of_ble_eq_true rfl, Nat.le_of_ble_eq_true rfl⟩) hS (kAle hS.1) (fun u_1 H locs hu_1 hP _ _ hS => ?_)
              have hP : va_P D vwCl (xc cs a (noteC Mk n (clk M n k) 4 0) N) H := hP
              obtain ⟨M_2, hM_2⟩ : ∃ z, z = noteC Mk n (clk M n k) 4 0 := ⟨_, rfl⟩
              rw [← hM_2] at hP
              have hk_3 : M_2 0 0 = nI n := by rw [hM_2]; exact (noteC_o (by decide)).trans hnk
              refine lv_aload_n hx hb dX1_findClasses_45 rfl (lv_at hl 0 rfl) ?_
              refine xcallwi (va_runV (As := []) (rest := []) ⟨hx, hb, hml, hown, hts⟩ (c_X1_split l D cs a M_2 N _ hI n hk_3 (by omega)) (cwV 0 hts gX1_findClasses_X1_split rfl rfl rfl (by decide +kernel) ⟨Nat.le_of_ble_eq_true rfl, Nat.le_of_ble_eq_true rfl⟩) (xpreVs hP hK (ci := 1) 21 rfl rfl) rfl rfl hl.1 rfl (lv_room (Nat.le_of_ble_eq_true rfl)) dX1_findClasses_46 ⟨Nat.le_of_ble_eq_true rfl, Nat.le_of_ble_eq_true rfl⟩) hS (kAle hS.1) (fun u_5 H locs hu_5 hP _ _ hS => ?_)
              have hP : va_P D vwCl (xc cs a (cpM (splC M_2 n)) N) H := hP
              obtain ⟨M_6, hM_6⟩ : ∃ z, z = cpM (splC M_2 n) := ⟨_, rfl⟩
              rw [← hM_6] at hP
              have hk_7 : M_6 0 0 = nI n := by rw [hM_6]; show splC M_2 n 0 0 = _; exact (congrFun (splC_o (by decide)) 0).trans hk_3
              refine xtop (y := (nI (cc M n (k + 1)))) (by simp only [c38, hM_2, hu_1, hM_6, hu_5]; exact congrArg nI (cnt_link hn24 hFR)) ?_
              refine lv_istore_n (lv' := [(3, .int (nI (cc M n (k + 1)))), (0, .ref (a 21)), (1, .int (nI (cc M n k))), (2, .int (nI k))]) hx hb dX1_findClasses_49 rfl hl (by decide) rfl (fun ls hl => ?_)
              refine lv_iload_n hx hb dX1_findClasses_50 rfl (lv_at hl 0 rfl) ?_
              refine lv_iload_n hx hb dX1_findClasses_51 rfl (lv_at hl 2 rfl) ?_
              refine lv_icmp_ne (tgt := 58) hx hb dX1_findClasses_52 (by decide) (fun c52 => ?_) (fun c52 => ?_)
              ·
                replace c52 : ¬ (cc M n (k + 1)) = (cc M n k) := k_net c52 (by omega) (by omega)
                refine lv_iload_n hx hb dX1_findClasses_58 rfl (lv_at hl 0 rfl) ?_
                refine lv_istore_n (lv' := [(1, .int (nI (cc M n (k + 1)))), (3, .int (nI (cc M n (k + 1)))), (0, .ref (a 21)), (2, .int (nI k))]) hx hb dX1_findClasses_59 rfl hl (by decide) rfl (fun ls hl => ?_)
                refine lv_iinc (v := (nI (k + 1))) (lv' := [(2, .int (nI (k + 1))), (1, .int (nI (cc M n (k + 1)))), (3, .int (nI (cc M n (k + 1)))), (0, .ref (a 21))]) hx hb dX1_findClasses_60 hl (k := 3) rfl (nI_add k 1) (by decide) rfl (fun ls hl => ?_)
                refine lv_goto (tgt := 30) hx hb dX1_findClasses_63 (by decide) ?_
                exact cut30 (k + 1) M_6 (by omega) (by simp only [wr_eq, c38, hM_2, hu_1, hM_6, hu_5, c52]; exact FindR_s hn24 (by omega) hFR) (by assumption) (by omega) _ _ hP hS ls (lcons (lcons (lcons (lzero hl) hl 0 rfl rfl) hl 1 rfl rfl) hl 3 rfl rfl)
              ·
                replace c52 : (cc M n (k + 1)) = (cc M n k) := k_nef c52 (by omega) (by omega)
                refine lv_goto (tgt := 66) hx hb dX1_findClasses_55 (by decide) ?_
                subst hQ
                have hrel : FindF M n M_6 := by first | ((have hke : k = n := by omega); subst hke; exact ⟨k, hk, hFR, Or.inl rfl⟩) | (refine ⟨k + 1, by omega, ?_, Or.inr ⟨by omega, c52⟩⟩; simp only [wr_eq, c38, hM_2, hu_1, hM_6, hu_5, c52]; exact FindR_s hn24 (by omega) hFR)
                exact W.vret hx hb hr (fun t ht hW => ⟨⟨M_6, rfl, hrel, by rw [← ht] at hP; exact hP⟩, hS.F ht⟩) hS.2.2 dX1_findClasses_66
        have e_9 : (nI 1) = (nI (cc M n 0)) := by rfl
        have eM_10 : zrC M j = (zrC M j) := by first | rfl | (simp [fo_s, c10]; done) | (simp [fo_s, c10] <;> rfl)
        exact cut30 (n + 1) 0 (zrC M j) (by omega) (by (have hje : j = n := by omega); subst hje; exact FindR_0) (by exact (zrC_o (by decide)).trans hn) (by omega) _ _ (eM_10 ▸ hP) hS ls (lcons (lcons (lcons (lzero hl) hl 0 rfl rfl) hl 1 rfl (congrArg Value.int e_9)) hl 2 rfl rfl)
      ·
        replace c10 : j < n := k_gef c10 (by omega) (by omega)
        refine lv_aload_n hx hb dX1_findClasses_13 rfl (lv_at hl 0 rfl) ?_
        refine va_get (D := D) (ci := 1) (v := .ref (a 22)) (C := RX1) (T := TX1) (N := 4) hx hb hts hinX1 hown hK1 hP 21 rfl rfl 1 (by decide) (hts (.fieldLink RX1 15 "KnowledgeModel$Likeness" "classOf" "[I") (List.mem_of_getElem? (i := 3) rfl)) (fun _ h9 => h9) rfl dX1_findClasses_14 ?_
        refine lv_iload_n hx hb dX1_findClasses_17 rfl (lv_at hl 1 rfl) ?_
        refine lv_iconst (v := (nI 0)) hx hb dX1_findClasses_18 (by decide) ?_
        refine xiast (j := j) (q0 := 22) (t0 := 0) (ws' := xc cs a (wr (zrC M j) 15 j (nI 0)) N) hx hb hK1 hP (xD hI) hS rfl rfl (by omega) (by decide) xs_22 dX1_findClasses_19 (fun H locs hP hS => ?_)
        obtain ⟨M_11, hM_11⟩ : ∃ z, z = wr (zrC M j) 15 j (nI 0) := ⟨_, rfl⟩
        rw [← hM_11] at hP
        have hk_12 : M_11 0 0 = nI n := by rw [hM_11]; exact (wr_ne (Or.inl (by omega))).trans ((zrC_o (by decide)).trans hn)
        refine lv_iinc (v := (nI (j + 1))) (lv' := [(1, .int (nI (j + 1))), (0, .ref (a 21))]) hx hb dX1_findClasses_20 hl (k := 1) rfl (nI_add j 1) (by decide) rfl (fun ls hl => ?_)
        refine lv_goto (tgt := 2) hx hb dX1_findClasses_23 (by decide) ?_
        have eM_13 : M_11 = zrC M (j + 1) := by funext i x; simp only [wr_eq, zrC, c10, hM_11]; grind
        exact cut2 (j + 1) (by omega) (by omega) _ _ (eM_13 ▸ hP) hS ls (lcons (lcons (lzero hl) hl 0 rfl rfl) hl 1 rfl rfl)
  have eM_14 : M = zrC M 0 := by funext i x; unfold zrC; rw [if_neg (by omega)]
  exact cut2 (n + 1) 0 (by omega) (by omega) _ _ (eM_14 ▸ hP) hS ls (lcons (lcons (lzero hl) hl 0 rfl rfl) hl 1 rfl rfl)

