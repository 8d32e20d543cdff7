theorem s_l64 : ∀ n, n < 64 → (((nI n).toInt64 &&& 63).toBitVec.smod 64).toNat = n := by decide +kernel
/-- a bit of a long -/
def nb (x : Int64) (g : Nat) : Bool := x.toBitVec.getLsbD g
theorem nb_bI (x : Int64) {g : Nat} (hg : g < 63) : lg_cmp ((x >>> ((nI g).toInt64 &&& 63)) &&& (1 : Int64)) (0 : Int64) = bI (nb x g) := by
  have h1 : ∀ k, k < 64 → (1 : Int64).toBitVec.getLsbD k = decide (k = 0) := by decide +kernel
  have hz : ∀ k, k < 64 → ((x >>> ((nI g).toInt64 &&& 63)) &&& (1 : Int64)).toBitVec.getLsbD k = (decide (k = 0) && nb x g) := by
    intro k hk
    rw [Int64.toBitVec_and, BitVec.getLsbD_and, h1 k hk, Int64.toBitVec_shiftRight]
    by_cases h : k = 0
    · subst h
      show ((x.toBitVec.sshiftRight (((nI g).toInt64 &&& 63).toBitVec.smod 64).toNat).getLsbD 0 && _) = _
      rw [s_l64 g (by omega), BitVec.getLsbD_sshiftRight]
      simp [nb, show g < 64 by omega]
    · simp [h]
  cases hb : nb x g with
  | false =>
    have : (x >>> ((nI g).toInt64 &&& 63)) &&& (1 : Int64) = 0 := by
      apply Int64.toBitVec_inj.mp
      apply BitVec.eq_of_getLsbD_eq
      intro k hk
      rw [hz k hk, hb, Bool.and_false]
      exact BitVec.getLsbD_zero.symm
    rw [this]; decide
  | true =>
    have : (x >>> ((nI g).toInt64 &&& 63)) &&& (1 : Int64) = 1 := by
      apply Int64.toBitVec_inj.mp
      apply BitVec.eq_of_getLsbD_eq
      intro k hk
      rw [hz k hk, hb, Bool.and_true, h1 k hk]
    rw [this]; decide
def wSeen (M : Nat → Nat → Int32) (n : Nat) (set g mo : Int32) : Int32 := fo (fun w r => if bt mo w && decide ((seenEvery M n g w &&& (mo &&& (set ^^^ (-1)))) = 0) then r ||| sg w else r) (nI 0) n
def swB (M : Nat → Nat → Int32) (n : Nat) (g mo out x : Int32) : Int32 := fo (fun w f => if bt mo w && !decide ((seenSome M g w &&& (out ||| f)) = 0) then f ||| sg w else f) x n
def wReach (M : Nat → Nat → Int32) (n : Nat) (set g mo : Int32) : Int32 := mo &&& (fo (fun _ x => swB M n g mo (mo &&& (set ^^^ (-1))) x) (nI 0) (n + 1) ^^^ (-1))
theorem fo_cong {α : Type} {f g : Nat → α → α} {x : α} : ∀ {n : Nat}, (∀ i, i < n → ∀ r, f i r = g i r) → fo f x n = fo g x n
  | 0, _ => rfl
  | n + 1, h => by rw [fo_s, fo_s, fo_cong (n := n) (fun i hi r => h i (by omega) r), h n (by omega)]
/-- the rows of the worlds and formulas are alike -/
def Ag (M M0 : Nat → Nat → Int32) : Prop := ∀ i x, i < 12 → M i x = M0 i x
theorem worldsWith_c {M M0 : Nat → Nat → Int32} {n pp : Nat} (h : Ag M M0) : worldsWith M n pp = worldsWith M0 n pp := fo_cong (fun i _ r => by rw [h 1 i (by decide)])
theorem seenSome_c {M M0 : Nat → Nat → Int32} {g : Int32} {w : Nat} (h : Ag M M0) : seenSome M g w = seenSome M0 g w := fo_cong (fun i _ r => by rw [h (2 + i) w (by omega)])
theorem seenEvery_c {M M0 : Nat → Nat → Int32} {n : Nat} {g : Int32} {w : Nat} (h : Ag M M0) : seenEvery M n g w = seenEvery M0 n g w := fo_cong (fun i _ r => by rw [h (2 + i) w (by omega)])
theorem wSeen_c {M M0 : Nat → Nat → Int32} {n : Nat} {set g mo : Int32} (h : Ag M M0) : wSeen M n set g mo = wSeen M0 n set g mo := fo_cong (fun i _ r => by rw [seenEvery_c h])
theorem swB_c {M M0 : Nat → Nat → Int32} {n : Nat} {g mo out x : Int32} (h : Ag M M0) : swB M n g mo out x = swB M0 n g mo out x := fo_cong (fun i _ r => by rw [seenSome_c h])
theorem wReach_c {M M0 : Nat → Nat → Int32} {n : Nat} {set g mo : Int32} (h : Ag M M0) : wReach M n set g mo = wReach M0 n set g mo := by
  unfold wReach
  rw [fo_cong (fun i _ r => swB_c h)]
def semV (M : Nat → Nat → Int32) (n : Nat) (kd p1 p2 sb : Nat → Nat) : Nat → Int32 → Nat → Int32
  | 0, _, _ => nI 0
  | k + 1, mo, f =>
    if kd f = 0 then mo &&& worldsWith M n (sb f)
    else if kd f = 1 then mo &&& (semV M n kd p1 p2 sb k mo (p1 f) ^^^ (-1))
    else if kd f = 2 then semV M n kd p1 p2 sb k mo (p1 f) &&& semV M n kd p1 p2 sb k mo (p2 f)
    else if kd f = 4 then wReach M n (semV M n kd p1 p2 sb k mo (p1 f)) (M 7 f) mo
    else if kd f = 6 then (mo &&& (semV M n kd p1 p2 sb k mo (p1 f) ^^^ (-1))) ||| semV M n kd p1 p2 sb k (semV M n kd p1 p2 sb k mo (p1 f)) (p2 f)
    else wSeen M n (semV M n kd p1 p2 sb k mo (p1 f)) (M 7 f) mo
/-- where a formula is true in the model mo -/
def sem (M : Nat → Nat → Int32) (n : Nat) (kd p1 p2 sb : Nat → Nat) (mo : Int32) (f : Nat) : Int32 := semV M n kd p1 p2 sb (f + 1) mo f
/-- the parts of formulas are below them -/
def WFp (nf : Nat) (kd p1 p2 : Nat → Nat) : Prop := ∀ f, f < nf → (kd f ≠ 0 → p1 f < f) ∧ (kd f = 2 ∨ kd f = 6 → p2 f < f)
theorem semV_fuel {M : Nat → Nat → Int32} {n nf : Nat} {kd p1 p2 sb : Nat → Nat} (hw : WFp nf kd p1 p2) : ∀ (k f : Nat) (mo : Int32), f < nf → f < k → semV M n kd p1 p2 sb k mo f = sem M n kd p1 p2 sb mo f := by
  intro k
  induction k using Nat.strongRecOn with
  | ind k ih =>
    intro f mo hf hk
    obtain ⟨k, rfl⟩ : ∃ k', k = k' + 1 := ⟨k - 1, by omega⟩
    unfold sem
    have key : ∀ (g : Nat) (mo : Int32), g < f → semV M n kd p1 p2 sb k mo g = semV M n kd p1 p2 sb f mo g := by
      intro g mo hg
      rw [ih k (by omega) g mo (by omega) (by omega)]
      rcases Nat.lt_or_ge f k with q | q
      · rw [ih f (by omega) g mo (by omega) hg]
      · rw [show f = k by omega, ih k (by omega) g mo (by omega) (by omega)]
    obtain ⟨h1, h2⟩ := hw f hf
    show (if kd f = 0 then _ else _) = (if kd f = 0 then _ else _)
    by_cases c0 : kd f = 0
    · rw [if_pos c0, if_pos c0]
    rw [if_neg c0, if_neg c0, key _ mo (h1 c0)]
    by_cases c1 : kd f = 1
    · rw [if_pos c1, if_pos c1]
    rw [if_neg c1, if_neg c1]
    by_cases c2 : kd f = 2
    · rw [if_pos c2, if_pos c2, key _ mo (h2 (Or.inl c2))]
    rw [if_neg c2, if_neg c2]
    by_cases c4 : kd f = 4
    · rw [if_pos c4, if_pos c4]
    rw [if_neg c4, if_neg c4]
    by_cases c6 : kd f = 6
    · rw [if_pos c6, if_pos c6, key _ _ (h2 (Or.inr c6))]
    rw [if_neg c6, if_neg c6]
theorem sem_eq {M : Nat → Nat → Int32} {n nf : Nat} {kd p1 p2 sb : Nat → Nat} (hw : WFp nf kd p1 p2) {f : Nat} (hf : f < nf) (mo : Int32) : sem M n kd p1 p2 sb mo f =
    if kd f = 0 then mo &&& worldsWith M n (sb f)
    else if kd f = 1 then mo &&& (sem M n kd p1 p2 sb mo (p1 f) ^^^ (-1))
    else if kd f = 2 then sem M n kd p1 p2 sb mo (p1 f) &&& sem M n kd p1 p2 sb mo (p2 f)
    else if kd f = 4 then wReach M n (sem M n kd p1 p2 sb mo (p1 f)) (M 7 f) mo
    else if kd f = 6 then (mo &&& (sem M n kd p1 p2 sb mo (p1 f) ^^^ (-1))) ||| sem M n kd p1 p2 sb (sem M n kd p1 p2 sb mo (p1 f)) (p2 f)
    else wSeen M n (sem M n kd p1 p2 sb mo (p1 f)) (M 7 f) mo := by
  obtain ⟨h1, h2⟩ := hw f hf
  show (if kd f = 0 then _ else _) = _
  by_cases c0 : kd f = 0
  · rw [if_pos c0, if_pos c0]
  have q1 := h1 c0
  rw [if_neg c0, if_neg c0, semV_fuel hw f (p1 f) mo (by omega) q1]
  by_cases c1 : kd f = 1
  · rw [if_pos c1, if_pos c1]
  rw [if_neg c1, if_neg c1]
  by_cases c2 : kd f = 2
  · have q2 := h2 (Or.inl c2)
    rw [if_pos c2, if_pos c2, semV_fuel hw f (p2 f) mo (by omega) q2]
  rw [if_neg c2, if_neg c2]
  by_cases c4 : kd f = 4
  · rw [if_pos c4, if_pos c4]
  rw [if_neg c4, if_neg c4]
  by_cases c6 : kd f = 6
  · have q2 := h2 (Or.inr c6)
    rw [if_pos c6, if_pos c6, semV_fuel hw f (p2 f) _ (by omega) q2]
  rw [if_neg c6, if_neg c6]
/-- what the rows of the formulas hold -/
def WFX (M : Nat → Nat → Int32) (N : Nat → Int64) (nf : Nat) (kd p1 p2 ns sb : Nat → Nat) : Prop :=
  WFp nf kd p1 p2 ∧ ∀ f, f < nf → (kd f < 7 ∧ M 6 f = nI (kd f) ∧ M 11 f = nI (ns f) ∧ ns f ≤ 2) ∧ (kd f = 0 → M 8 f = -1 ∧ M 7 f = nI (sb f) ∧ sb f < 6) ∧ (kd f ≠ 0 → M 8 f = nI (p1 f) ∧ ns (p1 f) ≤ ns f) ∧ (kd f = 2 ∨ kd f = 6 → M 9 f = nI (p2 f)) ∧ (kd f = 6 → ns (p1 f) + 1 ≤ ns f ∧ ns (p2 f) + 1 ≤ ns f) ∧ (kd f ≠ 2 → kd f ≠ 6 → M 9 f = -1) ∧
    nb (N f) f = true ∧ ∀ g, g ≤ f → nb (N f) g = true → ns g ≤ ns f ∧ (kd g ≠ 0 → nb (N f) (p1 g) = true) ∧ (kd g = 2 → nb (N f) (p2 g) = true)
theorem nI_ne_m1 {k : Nat} (hk : k < 2 ^ 31) : ¬ nI k = (-1 : Int32) := fun e => absurd (show nI k < 0 by rw [e]; decide) (nI_pos hk)

set_option maxHeartbeats 4000000 in
set_option maxRecDepth 100000 in
theorem c_X2_whereAllSeenAreIn (l : Launch) (D : va_G) (cs : Nat → ClassId) (a : Nat → Nat) (M : Nat → Nat → Int32) (N : Nat → Int64)  (n : Nat) (set : Int32) (g : Int32) (mo : Int32) (hn : M 0 0 = nI n) (hn24 : n ≤ 24) : Met l yX2_whereAllSeenAreIn wsX2_whereAllSeenAreIn ({ frames := 3, cells := 0, slots := 0, locals := 70 } : Room) (va_Pc [.ref (a 16), .int set, .int g, .int mo] (XB D cs (xc cs a M N))) (va_Qi (fun r (_ : Unit) => r = wSeen M n set g mo) (fun _ _ => True) (fun _ => False)) 0 0 (fun _ => False) := by
  refine Met.ofW (cc := cX2_whereAllSeenAreIn) (maxL := 7) (ret := (some .int)) (by decide) rfl ?_
  intro p e s m args below meth c s₁ B hml hv
  obtain ⟨rfl, hP, hK⟩ := hv
  have hx := B.exec
  have hb := B.bytes
  have hr := B.returns
  have hts := atoms_spec (ws := wsX2_whereAllSeenAreIn) B.pre
  have hown : s.vm.findClass RX2 = some m.cls := findClass_of_methodNamed B.named
  have hlocks := B.notSynchronized
  have hK1 := hK.1
  have hinX2 : ∀ w ∈ wsX20, w ∈ wsX2_whereAllSeenAreIn := fun w h => List.mem_cons_of_mem _ (List.mem_append_left _ (List.mem_append_right _ h))
  have hinX3 : ∀ w ∈ wsX30, w ∈ wsX2_whereAllSeenAreIn := fun w h => List.mem_cons_of_mem _ (List.mem_append_right _ h)
  have hS : va_S (fun _ => False) s.heap s.heap [] := va_S.rf
  have hl := lv_entry ([.ref (a 16), .int set, .int g, .int mo]) (n := 7) (Nat.le_of_ble_eq_true rfl)
  rw [lg_entry_eq]
  generalize (lg_sl ([.ref (a 16), .int set, .int g, .int mo]) ++ List.replicate (7 - (lg_sl ([.ref (a 16), .int set, .int g, .int mo])).length) Slot.unset).toArray = ls at hl ⊢
  have hl : lv_has ls 7 [(0, .ref (a 16)), (1, .int set), (2, .int g), (3, .int mo)] := hl
  refine W_Q (fun Q hQ => ?_)
  show W p l e ({ frames := 3, cells := 0, slots := 0, locals := 70 } : Room) s m ([.ref (a 16), .int set, .int g, .int mo] : List Value).toArray below meth c s.heap [] 0 0 Q (F0 m 0 ls [])
  refine lv_iload_n hx hb dX2_whereAllSeenAreIn_0 rfl (lv_at hl 3 rfl) ?_
  refine lv_iload_n hx hb dX2_whereAllSeenAreIn_1 rfl (lv_at hl 1 rfl) ?_
  refine lv_iconst (v := (-1 : Int32)) hx hb dX2_whereAllSeenAreIn_2 (by decide) ?_
  refine lv_ixor hx hb dX2_whereAllSeenAreIn_3 ?_
  refine lv_iand hx hb dX2_whereAllSeenAreIn_4 ?_
  refine lv_topi (fun x_1 hx_1 => ?_)
  refine lv_istore (lv' := [(4, .int x_1), (0, .ref (a 16)), (1, .int set), (2, .int g), (3, .int mo)]) hx hb dX2_whereAllSeenAreIn_5 hl (by decide) rfl (fun ls hl => ?_)
  refine lv_iconst (v := (nI 0)) hx hb dX2_whereAllSeenAreIn_7 (by decide) ?_
  refine lv_istore (lv' := [(5, .int (nI 0)), (4, .int x_1), (0, .ref (a 16)), (1, .int set), (2, .int g), (3, .int mo)]) hx hb dX2_whereAllSeenAreIn_8 hl (by decide) rfl (fun ls hl => ?_)
  refine lv_iconst (v := (nI 0)) hx hb dX2_whereAllSeenAreIn_10 (by decide) ?_
  refine lv_istore (lv' := [(6, .int (nI 0)), (5, .int (nI 0)), (4, .int x_1), (0, .ref (a 16)), (1, .int set), (2, .int g), (3, .int mo)]) hx hb dX2_whereAllSeenAreIn_11 hl (by decide) rfl (fun ls hl => ?_)
  have cut13 : ∀ (f13 : Nat) (j : Nat) (hj : j ≤ n), n + 1 ≤ j + f13 → ∀ (H : Heap) (locs : List Loc), va_P D vwCl (xc cs a M N) H → va_S (fun _ => False) s.heap H locs → ∀ (ls : Array Slot), lv_has ls 7 [(0, .ref (a 16)), (1, .int set), (2, .int g), (3, .int mo), (4, .int (mo &&& (set ^^^ (-1)))), (5, .int (fo (fun w r => if bt mo w && decide ((seenEvery M n g w &&& (mo &&& (set ^^^ (-1)))) = 0) then r ||| sg w else r) (nI 0) j)), (6, .int (nI j))] → W p l e ({ frames := 3, cells := 0, slots := 0, locals := 70 } : Room) s m ([.ref (a 16), .int set, .int g, .int mo] : List Value).toArray below meth c H locs 0 0 Q (F0 m 13 ls []) := by
    intro f13
    induction f13 with
    | zero => intro j hj hfu13; exact absurd hfu13 (by omega)
    | succ f13 cut13 =>
      intro j hj hfu13 H locs hP hS ls hl
      refine lv_iload hx hb dX2_whereAllSeenAreIn_13 (lv_at hl 6 rfl) ?_
      refine lv_aload_n hx hb dX2_whereAllSeenAreIn_15 rfl (lv_at hl 0 rfl) ?_
      refine va_get (D := D) (ci := 2) (v := .ref (a 1)) (C := RX2) (T := TX2) (N := 3) hx hb hts hinX2 hown hK1 hP 16 rfl rfl 0 (by decide) (hts (.fieldLink RX2 9 "KnowledgeModel$Truth" "worlds" "LKnowledgeModel$Worlds;") (List.mem_of_getElem? (i := 1) rfl)) (fun _ h9 => h9) rfl dX2_whereAllSeenAreIn_16 ?_
      refine va_get (D := D) (ci := 3) (v := .int (M 0 0)) (C := RX3) (T := TX3) (N := 4) hx hb hts hinX3 hown hK1 hP 1 rfl rfl 2 (by decide) (hts (.fieldLink RX2 66 "KnowledgeModel$Worlds" "count" "I") (List.mem_of_getElem? (i := 2) rfl)) (fun _ h9 => h9) rfl dX2_whereAllSeenAreIn_19 ?_
      refine xtop (y := nI n) (hn) ?_
      refine lv_icmp_ge (tgt := 66) hx hb dX2_whereAllSeenAreIn_22 (by decide) (fun c22 => ?_) (fun c22 => ?_)
      ·
        replace c22 : n ≤ j := k_get c22 (by omega) (by omega)
        refine lv_iload hx hb dX2_whereAllSeenAreIn_66 (lv_at hl 5 rfl) ?_
        subst hQ
        have hfin : (fo (fun w r => if bt mo w && decide ((seenEvery M n g w &&& (mo &&& (set ^^^ (-1)))) = 0) then r ||| sg w else r) (nI 0) j) = wSeen M n set g mo := by (have hje : j = n := by omega); subst hje; rfl
        exact W.iret hx hb hr (fun t ht hW => ⟨⟨_, (), rfl, hfin, trivial⟩, hS.F ht⟩) hS.2.2 dX2_whereAllSeenAreIn_68
      ·
        replace c22 : j < n := k_gef c22 (by omega) (by omega)
        refine lv_iload_n hx hb dX2_whereAllSeenAreIn_25 rfl (lv_at hl 3 rfl) ?_
        refine lv_iload hx hb dX2_whereAllSeenAreIn_26 (lv_at hl 6 rfl) ?_
        refine xcalli (va_runSN (As := [.int mo, .int (nI j)]) (rest := []) ⟨hx, hb, hml, hown, hts⟩ (c_X4_contains l mo j (by omega)) ⟨va_cnB 2 hts gX2_whereAllSeenAreIn_X4_contains_n70 rfl rfl rfl hK.2.2.2.2.1 (hts (.initialized RX4) (List.mem_of_getElem? (i := 4) rfl)) (by decide +kernel) ⟨Nat.le_of_ble_eq_true rfl, Nat.le_of_ble_eq_true rfl⟩, hts (.static yX4_contains) (List.mem_of_getElem? (i := 3) rfl), trivial⟩ xpreN rfl rfl hl.1 rfl (lv_room (Nat.le_of_ble_eq_true rfl)) dX2_whereAllSeenAreIn_28 ⟨Nat.le_of_ble_eq_true rfl, Nat.le_of_ble_eq_true rfl⟩) hS hP (fun H locs hP hS => ?_)
        refine lv_if_eq (tgt := 60) hx hb dX2_whereAllSeenAreIn_31 (by decide) (fun c31 => ?_) (fun c31 => ?_)
        ·
          replace c31 := bI_0 c31
          refine lv_iinc (v := (nI (j + 1))) (lv' := [(6, .int (nI (j + 1))), (0, .ref (a 16)), (1, .int set), (2, .int g), (3, .int mo), (4, .int (mo &&& (set ^^^ (-1)))), (5, .int (fo (fun w r => if bt mo w && decide ((seenEvery M n g w &&& (mo &&& (set ^^^ (-1)))) = 0) then r ||| sg w else r) (nI 0) j))]) hx hb dX2_whereAllSeenAreIn_60 hl (k := 6) rfl (nI_add j 1) (by decide) rfl (fun ls hl => ?_)
          refine lv_goto (tgt := 13) hx hb dX2_whereAllSeenAreIn_63 (by decide) ?_
          have e_2 : (fo (fun w r => if bt mo w && decide ((seenEvery M n g w &&& (mo &&& (set ^^^ (-1)))) = 0) then r ||| sg w else r) (nI 0) j) = (fo (fun w r => if bt mo w && decide ((seenEvery M n g w &&& (mo &&& (set ^^^ (-1)))) = 0) then r ||| sg w else r) (nI 0) (j + 1)) := by first | (rw [fo_s, if_neg (by rw [c31]; exact Bool.false_ne_true)]; done) | (rw [fo_s, if_neg (by rw [c31, decide_eq_false c47]; exact Bool.false_ne_true)]; done) | (rw [fo_s, if_pos (by rw [c31, decide_eq_true c47]; rfl)]; simp only [wr_eq, c22, c31])
          exact cut13 (j + 1) (by omega) (by omega) _ _ hP hS ls (lcons (lcons (lcons (lcons (lcons (lcons (lcons (lzero hl) hl 0 rfl rfl) hl 6 rfl (congrArg Value.int e_2)) hl 5 rfl rfl) hl 4 rfl rfl) hl 3 rfl rfl) hl 2 rfl rfl) hl 1 rfl rfl)
        ·
          replace c31 := bI_n0 c31
          refine lv_aload_n hx hb dX2_whereAllSeenAreIn_34 rfl (lv_at hl 0 rfl) ?_
          refine va_get (D := D) (ci := 2) (v := .ref (a 1)) (C := RX2) (T := TX2) (N := 3) hx hb hts hinX2 hown hK1 hP 16 rfl rfl 0 (by decide) (hts (.fieldLink RX2 9 "KnowledgeModel$Truth" "worlds" "LKnowledgeModel$Worlds;") (List.mem_of_getElem? (i := 1) rfl)) (fun _ h9 => h9) rfl dX2_whereAllSeenAreIn_35 ?_
          refine lv_iload_n hx hb dX2_whereAllSeenAreIn_38 rfl (lv_at hl 2 rfl) ?_
          refine lv_iload hx hb dX2_whereAllSeenAreIn_39 (lv_at hl 6 rfl) ?_
          refine xcalli (va_runV (As := [.int g, .int (nI j)]) (rest := []) ⟨hx, hb, hml, hown, hts⟩ (c_X3_seenByEvery l D cs a M N n g j (by omega) hn) (cwV 2 hts gX2_whereAllSeenAreIn_X3_seenByEvery rfl rfl rfl (by decide +kernel) ⟨Nat.le_of_ble_eq_true rfl, Nat.le_of_ble_eq_true rfl⟩) (xpreV hP hK (ci := 3) 1 rfl rfl) rfl rfl hl.1 rfl (lv_room (Nat.le_of_ble_eq_true rfl)) dX2_whereAllSeenAreIn_41 ⟨Nat.le_of_ble_eq_true rfl, Nat.le_of_ble_eq_true rfl⟩) hS hP (fun H locs hP hS => ?_)
          refine lv_iload hx hb dX2_whereAllSeenAreIn_44 (lv_at hl 4 rfl) ?_
          refine lv_iand hx hb dX2_whereAllSeenAreIn_46 ?_
          refine lv_if_ne (tgt := 60) hx hb dX2_whereAllSeenAreIn_47 (by decide) (fun c47 => ?_) (fun c47 => ?_)
          ·
            refine lv_iinc (v := (nI (j + 1))) (lv' := [(6, .int (nI (j + 1))), (0, .ref (a 16)), (1, .int set), (2, .int g), (3, .int mo), (4, .int (mo &&& (set ^^^ (-1)))), (5, .int (fo (fun w r => if bt mo w && decide ((seenEvery M n g w &&& (mo &&& (set ^^^ (-1)))) = 0) then r ||| sg w else r) (nI 0) j))]) hx hb dX2_whereAllSeenAreIn_60 hl (k := 6) rfl (nI_add j 1) (by decide) rfl (fun ls hl => ?_)
            refine lv_goto (tgt := 13) hx hb dX2_whereAllSeenAreIn_63 (by decide) ?_
            have e_3 : (fo (fun w r => if bt mo w && decide ((seenEvery M n g w &&& (mo &&& (set ^^^ (-1)))) = 0) then r ||| sg w else r) (nI 0) j) = (fo (fun w r => if bt mo w && decide ((seenEvery M n g w &&& (mo &&& (set ^^^ (-1)))) = 0) then r ||| sg w else r) (nI 0) (j + 1)) := by first | (rw [fo_s, if_neg (by rw [c31]; exact Bool.false_ne_true)]; done) | (rw [fo_s, if_neg (by rw [c31, decide_eq_false c47]; exact Bool.false_ne_true)]; done) | (rw [fo_s, if_pos (by rw [c31, decide_eq_true c47]; rfl)]; simp only [wr_eq, c22, c31, c47])
            exact cut13 (j + 1) (by omega) (by omega) _ _ hP hS ls (lcons (lcons (lcons (lcons (lcons (lcons (lcons (lzero hl) hl 0 rfl rfl) hl 6 rfl (congrArg Value.int e_3)) hl 5 rfl rfl) hl 4 rfl rfl) hl 3 rfl rfl) hl 2 rfl rfl) hl 1 rfl rfl)
          ·
            refine lv_iload hx hb dX2_whereAllSeenAreIn_50 (lv_at hl 5 rfl) ?_
            refine lv_iload hx hb dX2_whereAllSeenAreIn_52 (lv_at hl 6 rfl) ?_
            refine xcalli (va_runSN (As := [.int (nI j)]) (rest := [.int (fo (fun w r => if bt mo w && decide ((seenEvery M n g w &&& (mo &&& (set ^^^ (-1)))) = 0) then r ||| sg w else r) (nI 0) j)]) ⟨hx, hb, hml, hown, hts⟩ (c_X4_single l j) ⟨va_cnB 1 hts gX2_whereAllSeenAreIn_X4_single_n78 rfl rfl rfl hK.2.2.2.2.2.1 (hts (.initialized RX4) (List.mem_of_getElem? (i := 4) rfl)) (by decide +kernel) ⟨Nat.le_of_ble_eq_true rfl, Nat.le_of_ble_eq_true rfl⟩, hts (.static yX4_single) (List.mem_of_getElem? (i := 17) rfl), trivial⟩ xpreN rfl rfl hl.1 rfl (lv_room (Nat.le_of_ble_eq_true rfl)) dX2_whereAllSeenAreIn_54 ⟨Nat.le_of_ble_eq_true rfl, Nat.le_of_ble_eq_true rfl⟩) hS hP (fun H locs hP hS => ?_)
            refine lv_ior hx hb dX2_whereAllSeenAreIn_57 ?_
            refine lv_topi (fun x_4 hx_4 => ?_)
            refine lv_istore (lv' := [(5, .int x_4), (0, .ref (a 16)), (1, .int set), (2, .int g), (3, .int mo), (4, .int (mo &&& (set ^^^ (-1)))), (6, .int (nI j))]) hx hb dX2_whereAllSeenAreIn_58 hl (by decide) rfl (fun ls hl => ?_)
            refine lv_iinc (v := (nI (j + 1))) (lv' := [(6, .int (nI (j + 1))), (5, .int x_4), (0, .ref (a 16)), (1, .int set), (2, .int g), (3, .int mo), (4, .int (mo &&& (set ^^^ (-1))))]) hx hb dX2_whereAllSeenAreIn_60 hl (k := 6) rfl (nI_add j 1) (by decide) rfl (fun ls hl => ?_)
            refine lv_goto (tgt := 13) hx hb dX2_whereAllSeenAreIn_63 (by decide) ?_
            have e_5 : x_4 = (fo (fun w r => if bt mo w && decide ((seenEvery M n g w &&& (mo &&& (set ^^^ (-1)))) = 0) then r ||| sg w else r) (nI 0) (j + 1)) := by first | (rw [fo_s, if_neg (by rw [c31]; exact Bool.false_ne_true)]; done) | (rw [fo_s, if_neg (by rw [c31, decide_eq_false c47]; exact Bool.false_ne_true)]; done) | (rw [fo_s, if_pos (by rw [c31, decide_eq_true c47]; rfl)]; simp only [wr_eq, c22, c31, c47, hx_4])
            exact cut13 (j + 1) (by omega) (by omega) _ _ hP hS ls (lcons (lcons (lcons (lcons (lcons (lcons (lcons (lzero hl) hl 0 rfl rfl) hl 1 rfl (congrArg Value.int e_5)) hl 6 rfl rfl) hl 5 rfl rfl) hl 4 rfl rfl) hl 3 rfl rfl) hl 2 rfl rfl)
  have e_6 : (nI 0) = (fo (fun w r => if bt mo w && decide ((seenEvery M n g w &&& (mo &&& (set ^^^ (-1)))) = 0) then r ||| sg w else r) (nI 0) 0) := by rfl
  have e_7 : x_1 = (mo &&& (set ^^^ (-1))) := by simp only [wr_eq, hx_1]
  exact cut13 (n + 1) 0 (by omega) (by omega) _ _ hP hS ls (lcons (lcons (lcons (lcons (lcons (lcons (lcons (lzero hl) hl 0 rfl rfl) hl 1 rfl (congrArg Value.int e_6)) hl 2 rfl (congrArg Value.int e_7)) hl 6 rfl rfl) hl 5 rfl rfl) hl 4 rfl rfl) hl 3 rfl rfl)

set_option maxHeartbeats 4000000 in
set_option maxRecDepth 100000 in
theorem c_X2_whereAllReachedAreIn (l : Launch) (D : va_G) (cs : Nat → ClassId) (a : Nat → Nat) (M : Nat → Nat → Int32) (N : Nat → Int64)  (n : Nat) (set : Int32) (g : Int32) (mo : Int32) (hn : M 0 0 = nI n) (hn24 : n ≤ 24) : Met l yX2_whereAllReachedAreIn wsX2_whereAllReachedAreIn ({ frames := 3, cells := 0, slots := 0, locals := 70 } : Room) (va_Pc [.ref (a 16), .int set, .int g, .int mo] (XB D cs (xc cs a M N))) (va_Qi (fun r (_ : Unit) => r = wReach M n set g mo) (fun _ _ => True) (fun _ => False)) 0 0 (fun _ => False) := by
  refine Met.ofW (cc := cX2_whereAllReachedAreIn) (maxL := 9) (ret := (some .int)) (by decide) rfl ?_
  intro p e s m args below meth c s₁ B hml hv
  obtain ⟨rfl, hP, hK⟩ := hv
  have hx := B.exec
  have hb := B.bytes
  have hr := B.returns
  have hts := atoms_spec (ws := wsX2_whereAllReachedAreIn) B.pre
  have hown : s.vm.findClass RX2 = some m.cls := findClass_of_methodNamed B.named
  have hlocks := B.notSynchronized
  have hK1 := hK.1
  have hinX2 : ∀ w ∈ wsX20, w ∈ wsX2_whereAllReachedAreIn := fun w h => List.mem_cons_of_mem _ (List.mem_append_left _ (List.mem_append_right _ h))
  have hinX3 : ∀ w ∈ wsX30, w ∈ wsX2_whereAllReachedAreIn := fun w h => List.mem_cons_of_mem _ (List.mem_append_right _ h)
  have hS : va_S (fun _ => False) s.heap s.heap [] := va_S.rf
  have hl := lv_entry ([.ref (a 16), .int set, .int g, .int mo]) (n := 9) (Nat.le_of_ble_eq_true rfl)
  rw [lg_entry_eq]
  generalize (lg_sl ([.ref (a 16), .int set, .int g, .int mo]) ++ List.replicate (9 - (lg_sl ([.ref (a 16), .int set, .int g, .int mo])).length) Slot.unset).toArray = ls at hl ⊢
  have hl : lv_has ls 9 [(0, .ref (a 16)), (1, .int set), (2, .int g), (3, .int mo)] := hl
  refine W_Q (fun Q hQ => ?_)
  show W p l e ({ frames := 3, cells := 0, slots := 0, locals := 70 } : Room) s m ([.ref (a 16), .int set, .int g, .int mo] : List Value).toArray below meth c s.heap [] 0 0 Q (F0 m 0 ls [])
  refine lv_iload_n hx hb dX2_whereAllReachedAreIn_0 rfl (lv_at hl 3 rfl) ?_
  refine lv_iload_n hx hb dX2_whereAllReachedAreIn_1 rfl (lv_at hl 1 rfl) ?_
  refine lv_iconst (v := (-1 : Int32)) hx hb dX2_whereAllReachedAreIn_2 (by decide) ?_
  refine lv_ixor hx hb dX2_whereAllReachedAreIn_3 ?_
  refine lv_iand hx hb dX2_whereAllReachedAreIn_4 ?_
  refine lv_topi (fun x_1 hx_1 => ?_)
  refine lv_istore (lv' := [(4, .int x_1), (0, .ref (a 16)), (1, .int set), (2, .int g), (3, .int mo)]) hx hb dX2_whereAllReachedAreIn_5 hl (by decide) rfl (fun ls hl => ?_)
  refine lv_iconst (v := (nI 0)) hx hb dX2_whereAllReachedAreIn_7 (by decide) ?_
  refine lv_istore (lv' := [(5, .int (nI 0)), (4, .int x_1), (0, .ref (a 16)), (1, .int set), (2, .int g), (3, .int mo)]) hx hb dX2_whereAllReachedAreIn_8 hl (by decide) rfl (fun ls hl => ?_)
  refine lv_iconst (v := (nI 0)) hx hb dX2_whereAllReachedAreIn_10 (by decide) ?_
  refine lv_istore (lv' := [(6, .int (nI 0)), (5, .int (nI 0)), (4, .int x_1), (0, .ref (a 16)), (1, .int set), (2, .int g), (3, .int mo)]) hx hb dX2_whereAllReachedAreIn_11 hl (by decide) rfl (fun ls hl => ?_)
  have cut13 : ∀ (f13 : Nat) (j : Nat) (hj : j ≤ n + 1), n + 2 ≤ j + f13 → ∀ (H : Heap) (locs : List Loc), va_P D vwCl (xc cs a M N) H → va_S (fun _ => False) s.heap H locs → ∀ (ls : Array Slot), lv_has ls 9 [(0, .ref (a 16)), (1, .int set), (2, .int g), (3, .int mo), (4, .int (mo &&& (set ^^^ (-1)))), (5, .int (fo (fun _ x => swB M n g mo (mo &&& (set ^^^ (-1))) x) (nI 0) j)), (6, .int (nI j))] → W p l e ({ frames := 3, cells := 0, slots := 0, locals := 70 } : Room) s m ([.ref (a 16), .int set, .int g, .int mo] : List Value).toArray below meth c H locs 0 0 Q (F0 m 13 ls []) := by
    intro f13
    induction f13 with
    | zero => intro j hj hfu13; exact absurd hfu13 (by omega)
    | succ f13 cut13 =>
      intro j hj hfu13 H locs hP hS ls hl
      refine lv_iload hx hb dX2_whereAllReachedAreIn_13 (lv_at hl 6 rfl) ?_
      refine lv_aload_n hx hb dX2_whereAllReachedAreIn_15 rfl (lv_at hl 0 rfl) ?_
      refine va_get (D := D) (ci := 2) (v := .ref (a 1)) (C := RX2) (T := TX2) (N := 3) hx hb hts hinX2 hown hK1 hP 16 rfl rfl 0 (by decide) (hts (.fieldLink RX2 9 "KnowledgeModel$Truth" "worlds" "LKnowledgeModel$Worlds;") (List.mem_of_getElem? (i := 1) rfl)) (fun _ h9 => h9) rfl dX2_whereAllReachedAreIn_16 ?_
      refine va_get (D := D) (ci := 3) (v := .int (M 0 0)) (C := RX3) (T := TX3) (N := 4) hx hb hts hinX3 hown hK1 hP 1 rfl rfl 2 (by decide) (hts (.fieldLink RX2 66 "KnowledgeModel$Worlds" "count" "I") (List.mem_of_getElem? (i := 2) rfl)) (fun _ h9 => h9) rfl dX2_whereAllReachedAreIn_19 ?_
      refine xtop (y := nI n) (hn) ?_
      refine lv_icmp_gt (tgt := 104) hx hb dX2_whereAllReachedAreIn_22 (by decide) (fun c22 => ?_) (fun c22 => ?_)
      ·
        replace c22 : n < j := k_gtt c22 (by omega) (by omega)
        refine lv_iload_n hx hb dX2_whereAllReachedAreIn_104 rfl (lv_at hl 3 rfl) ?_
        refine lv_iload hx hb dX2_whereAllReachedAreIn_105 (lv_at hl 5 rfl) ?_
        refine lv_iconst (v := (-1 : Int32)) hx hb dX2_whereAllReachedAreIn_107 (by decide) ?_
        refine lv_ixor hx hb dX2_whereAllReachedAreIn_108 ?_
        refine lv_iand hx hb dX2_whereAllReachedAreIn_109 ?_
        subst hQ
        have hfin : (mo &&& ((fo (fun _ x => swB M n g mo (mo &&& (set ^^^ (-1))) x) (nI 0) j) ^^^ (-1 : Int32))) = wReach M n set g mo := by first | ((have hje : j = n + 1 := by omega); subst hje; rfl) | ((have hke : k = n := by omega); subst hke; unfold wReach; rw [fo_fixn (fun x => swB M k g mo (mo &&& (set ^^^ (-1))) x) (nI 0) (j := j) (n := k + 1) (by omega) c92]; exact congrArg (fun z => mo &&& (z ^^^ (-1))) c92)
        exact W.iret hx hb hr (fun t ht hW => ⟨⟨_, (), rfl, hfin, trivial⟩, hS.F ht⟩) hS.2.2 dX2_whereAllReachedAreIn_110
      ·
        replace c22 : j ≤ n := k_gtf c22 (by omega) (by omega)
        refine lv_iload hx hb dX2_whereAllReachedAreIn_25 (lv_at hl 5 rfl) ?_
        refine lv_topi (fun x_2 hx_2 => ?_)
        refine lv_istore (lv' := [(7, .int x_2), (0, .ref (a 16)), (1, .int set), (2, .int g), (3, .int mo), (4, .int (mo &&& (set ^^^ (-1)))), (5, .int (fo (fun _ x => swB M n g mo (mo &&& (set ^^^ (-1))) x) (nI 0) j)), (6, .int (nI j))]) hx hb dX2_whereAllReachedAreIn_27 hl (by decide) rfl (fun ls hl => ?_)
        refine lv_iconst (v := (nI 0)) hx hb dX2_whereAllReachedAreIn_29 (by decide) ?_
        refine lv_istore (lv' := [(8, .int (nI 0)), (7, .int x_2), (0, .ref (a 16)), (1, .int set), (2, .int g), (3, .int mo), (4, .int (mo &&& (set ^^^ (-1)))), (5, .int (fo (fun _ x => swB M n g mo (mo &&& (set ^^^ (-1))) x) (nI 0) j)), (6, .int (nI j))]) hx hb dX2_whereAllReachedAreIn_30 hl (by decide) rfl (fun ls hl => ?_)
        have cut32 : ∀ (f32 : Nat) (k : Nat) (hk : k ≤ n), n + 1 ≤ k + f32 → ∀ (H : Heap) (locs : List Loc), va_P D vwCl (xc cs a M N) H → va_S (fun _ => False) s.heap H locs → ∀ (ls : Array Slot), lv_has ls 9 [(0, .ref (a 16)), (1, .int set), (2, .int g), (3, .int mo), (4, .int (mo &&& (set ^^^ (-1)))), (5, .int (fo (fun w f => if bt mo w && !decide ((seenSome M g w &&& ((mo &&& (set ^^^ (-1))) ||| f)) = 0) then f ||| sg w else f) (fo (fun _ x => swB M n g mo (mo &&& (set ^^^ (-1))) x) (nI 0) j) k)), (6, .int (nI j)), (7, .int (fo (fun _ x => swB M n g mo (mo &&& (set ^^^ (-1))) x) (nI 0) j)), (8, .int (nI k))] → W p l e ({ frames := 3, cells := 0, slots := 0, locals := 70 } : Room) s m ([.ref (a 16), .int set, .int g, .int mo] : List Value).toArray below meth c H locs 0 0 Q (F0 m 32 ls []) := by
          intro f32
          induction f32 with
          | zero => intro k hk hfu32; exact absurd hfu32 (by omega)
          | succ f32 cut32 =>
            intro k hk hfu32 H locs hP hS ls hl
            refine lv_iload hx hb dX2_whereAllReachedAreIn_32 (lv_at hl 8 rfl) ?_
            refine lv_aload_n hx hb dX2_whereAllReachedAreIn_34 rfl (lv_at hl 0 rfl) ?_
            refine va_get (D := D) (ci := 2) (v := .ref (a 1)) (C := RX2) (T := TX2) (N := 3) hx hb hts hinX2 hown hK1 hP 16 rfl rfl 0 (by decide) (hts (.fieldLink RX2 9 "KnowledgeModel$Truth" "worlds" "LKnowledgeModel$Worlds;") (List.mem_of_getElem? (i := 1) rfl)) (fun _ h9 => h9) rfl dX2_whereAllReachedAreIn_35 ?_
            refine va_get (D := D) (ci := 3) (v := .int (M 0 0)) (C := RX3) (T := TX3) (N := 4) hx hb hts hinX3 hown hK1 hP 1 rfl rfl 2 (by decide) (hts (.fieldLink RX2 66 "KnowledgeModel$Worlds" "count" "I") (List.mem_of_getElem? (i := 2) rfl)) (fun _ h9 => h9) rfl dX2_whereAllReachedAreIn_38 ?_
            refine xtop (y := nI n) (hn) ?_
            refine lv_icmp_ge (tgt := 88) hx hb dX2_whereAllReachedAreIn_41 (by decide) (fun c41 => ?_) (fun c41 => ?_)
            ·
              replace c41 : n ≤ k := k_get c41 (by omega) (by omega)
              refine lv_iload hx hb dX2_whereAllReachedAreIn_88 (lv_at hl 5 rfl) ?_
              refine lv_iload hx hb dX2_whereAllReachedAreIn_90 (lv_at hl 7 rfl) ?_
              refine lv_icmp_ne (tgt := 98) hx hb dX2_whereAllReachedAreIn_92 (by decide) (fun c92 => ?_) (fun c92 => ?_)
              ·
                refine lv_iinc (v := (nI (j + 1))) (lv' := [(6, .int (nI (j + 1))), (0, .ref (a 16)), (1, .int set), (2, .int g), (3, .int mo), (4, .int (mo &&& (set ^^^ (-1)))), (5, .int (fo (fun w f => if bt mo w && !decide ((seenSome M g w &&& ((mo &&& (set ^^^ (-1))) ||| f)) = 0) then f ||| sg w else f) (fo (fun _ x => swB M n g mo (mo &&& (set ^^^ (-1))) x) (nI 0) j) k)), (7, .int (fo (fun _ x => swB M n g mo (mo &&& (set ^^^ (-1))) x) (nI 0) j)), (8, .int (nI k))]) hx hb dX2_whereAllReachedAreIn_98 hl (k := 6) rfl (nI_add j 1) (by decide) rfl (fun ls hl => ?_)
                refine lv_goto (tgt := 13) hx hb dX2_whereAllReachedAreIn_101 (by decide) ?_
                have e_3 : (fo (fun w f => if bt mo w && !decide ((seenSome M g w &&& ((mo &&& (set ^^^ (-1))) ||| f)) = 0) then f ||| sg w else f) (fo (fun _ x => swB M n g mo (mo &&& (set ^^^ (-1))) x) (nI 0) j) k) = (fo (fun _ x => swB M n g mo (mo &&& (set ^^^ (-1))) x) (nI 0) (j + 1)) := by (have hke : k = n := by omega); subst hke; rfl
                exact cut13 (j + 1) (by omega) (by omega) _ _ hP hS ls (lcons (lcons (lcons (lcons (lcons (lcons (lcons (lzero hl) hl 0 rfl rfl) hl 6 rfl (congrArg Value.int e_3)) hl 5 rfl rfl) hl 4 rfl rfl) hl 3 rfl rfl) hl 2 rfl rfl) hl 1 rfl rfl)
              ·
                refine lv_goto (tgt := 104) hx hb dX2_whereAllReachedAreIn_95 (by decide) ?_
                refine lv_iload_n hx hb dX2_whereAllReachedAreIn_104 rfl (lv_at hl 3 rfl) ?_
                refine lv_iload hx hb dX2_whereAllReachedAreIn_105 (lv_at hl 5 rfl) ?_
                refine lv_iconst (v := (-1 : Int32)) hx hb dX2_whereAllReachedAreIn_107 (by decide) ?_
                refine lv_ixor hx hb dX2_whereAllReachedAreIn_108 ?_
                refine lv_iand hx hb dX2_whereAllReachedAreIn_109 ?_
                subst hQ
                have hfin : (mo &&& ((fo (fun w f => if bt mo w && !decide ((seenSome M g w &&& ((mo &&& (set ^^^ (-1))) ||| f)) = 0) then f ||| sg w else f) (fo (fun _ x => swB M n g mo (mo &&& (set ^^^ (-1))) x) (nI 0) j) k) ^^^ (-1 : Int32))) = wReach M n set g mo := by first | ((have hje : j = n + 1 := by omega); subst hje; rfl) | ((have hke : k = n := by omega); subst hke; unfold wReach; rw [fo_fixn (fun x => swB M k g mo (mo &&& (set ^^^ (-1))) x) (nI 0) (j := j) (n := k + 1) (by omega) c92]; exact congrArg (fun z => mo &&& (z ^^^ (-1))) c92)
                exact W.iret hx hb hr (fun t ht hW => ⟨⟨_, (), rfl, hfin, trivial⟩, hS.F ht⟩) hS.2.2 dX2_whereAllReachedAreIn_110
            ·
              replace c41 : k < n := k_gef c41 (by omega) (by omega)
              refine lv_iload_n hx hb dX2_whereAllReachedAreIn_44 rfl (lv_at hl 3 rfl) ?_
              refine lv_iload hx hb dX2_whereAllReachedAreIn_45 (lv_at hl 8 rfl) ?_
              refine xcalli (va_runSN (As := [.int mo, .int (nI k)]) (rest := []) ⟨hx, hb, hml, hown, hts⟩ (c_X4_contains l mo k (by omega)) ⟨va_cnB 2 hts gX2_whereAllReachedAreIn_X4_contains_n70 rfl rfl rfl hK.2.2.2.2.1 (hts (.initialized RX4) (List.mem_of_getElem? (i := 4) rfl)) (by decide +kernel) ⟨Nat.le_of_ble_eq_true rfl, Nat.le_of_ble_eq_true rfl⟩, hts (.static yX4_contains) (List.mem_of_getElem? (i := 3) rfl), trivial⟩ xpreN rfl rfl hl.1 rfl (lv_room (Nat.le_of_ble_eq_true rfl)) dX2_whereAllReachedAreIn_47 ⟨Nat.le_of_ble_eq_true rfl, Nat.le_of_ble_eq_true rfl⟩) hS hP (fun H locs hP hS => ?_)
              refine lv_if_eq (tgt := 82) hx hb dX2_whereAllReachedAreIn_50 (by decide) (fun c50 => ?_) (fun c50 => ?_)
              ·
                replace c50 := bI_0 c50
                refine lv_iinc (v := (nI (k + 1))) (lv' := [(8, .int (nI (k + 1))), (0, .ref (a 16)), (1, .int set), (2, .int g), (3, .int mo), (4, .int (mo &&& (set ^^^ (-1)))), (5, .int (fo (fun w f => if bt mo w && !decide ((seenSome M g w &&& ((mo &&& (set ^^^ (-1))) ||| f)) = 0) then f ||| sg w else f) (fo (fun _ x => swB M n g mo (mo &&& (set ^^^ (-1))) x) (nI 0) j) k)), (6, .int (nI j)), (7, .int (fo (fun _ x => swB M n g mo (mo &&& (set ^^^ (-1))) x) (nI 0) j))]) hx hb dX2_whereAllReachedAreIn_82 hl (k := 8) rfl (nI_add k 1) (by decide) rfl (fun ls hl => ?_)
                refine lv_goto (tgt := 32) hx hb dX2_whereAllReachedAreIn_85 (by decide) ?_
                have e_4 : (fo (fun w f => if bt mo w && !decide ((seenSome M g w &&& ((mo &&& (set ^^^ (-1))) ||| f)) = 0) then f ||| sg w else f) (fo (fun _ x => swB M n g mo (mo &&& (set ^^^ (-1))) x) (nI 0) j) k) = (fo (fun w f => if bt mo w && !decide ((seenSome M g w &&& ((mo &&& (set ^^^ (-1))) ||| f)) = 0) then f ||| sg w else f) (fo (fun _ x => swB M n g mo (mo &&& (set ^^^ (-1))) x) (nI 0) j) (k + 1)) := by first | (rw [fo_s, if_neg (by rw [c50]; exact Bool.false_ne_true)]; done) | (rw [fo_s, if_neg (by rw [c50, decide_eq_true c69]; exact Bool.false_ne_true)]; done) | (rw [fo_s, if_pos (by rw [c50, decide_eq_false c69]; rfl)]; simp only [wr_eq, c41, c50])
                exact cut32 (k + 1) (by omega) (by omega) _ _ hP hS ls (lcons (lcons (lcons (lcons (lcons (lcons (lcons (lcons (lcons (lzero hl) hl 0 rfl rfl) hl 8 rfl rfl) hl 7 rfl rfl) hl 6 rfl (congrArg Value.int e_4)) hl 5 rfl rfl) hl 4 rfl rfl) hl 3 rfl rfl) hl 2 rfl rfl) hl 1 rfl rfl)
              ·
                replace c50 := bI_n0 c50
                refine lv_aload_n hx hb dX2_whereAllReachedAreIn_53 rfl (lv_at hl 0 rfl) ?_
                refine va_get (D := D) (ci := 2) (v := .ref (a 1)) (C := RX2) (T := TX2) (N := 3) hx hb hts hinX2 hown hK1 hP 16 rfl rfl 0 (by decide) (hts (.fieldLink RX2 9 "KnowledgeModel$Truth" "worlds" "LKnowledgeModel$Worlds;") (List.mem_of_getElem? (i := 1) rfl)) (fun _ h9 => h9) rfl dX2_whereAllReachedAreIn_54 ?_
                refine lv_iload_n hx hb dX2_whereAllReachedAreIn_57 rfl (lv_at hl 2 rfl) ?_
                refine lv_iload hx hb dX2_whereAllReachedAreIn_58 (lv_at hl 8 rfl) ?_
                refine xcalli (va_runV (As := [.int g, .int (nI k)]) (rest := []) ⟨hx, hb, hml, hown, hts⟩ (c_X3_seenBySome l D cs a M N g k (by omega)) (cwV 2 hts gX2_whereAllReachedAreIn_X3_seenBySome rfl rfl rfl (by decide +kernel) ⟨Nat.le_of_ble_eq_true rfl, Nat.le_of_ble_eq_true rfl⟩) (xpreV hP hK (ci := 3) 1 rfl rfl) rfl rfl hl.1 rfl (lv_room (Nat.le_of_ble_eq_true rfl)) dX2_whereAllReachedAreIn_60 ⟨Nat.le_of_ble_eq_true rfl, Nat.le_of_ble_eq_true rfl⟩) hS hP (fun H locs hP hS => ?_)
                refine lv_iload hx hb dX2_whereAllReachedAreIn_63 (lv_at hl 4 rfl) ?_
                refine lv_iload hx hb dX2_whereAllReachedAreIn_65 (lv_at hl 5 rfl) ?_
                refine lv_ior hx hb dX2_whereAllReachedAreIn_67 ?_
                refine lv_iand hx hb dX2_whereAllReachedAreIn_68 ?_
                refine lv_if_eq (tgt := 82) hx hb dX2_whereAllReachedAreIn_69 (by decide) (fun c69 => ?_) (fun c69 => ?_)
                ·
                  refine lv_iinc (v := (nI (k + 1))) (lv' := [(8, .int (nI (k + 1))), (0, .ref (a 16)), (1, .int set), (2, .int g), (3, .int mo), (4, .int (mo &&& (set ^^^ (-1)))), (5, .int (fo (fun w f => if bt mo w && !decide ((seenSome M g w &&& ((mo &&& (set ^^^ (-1))) ||| f)) = 0) then f ||| sg w else f) (fo (fun _ x => swB M n g mo (mo &&& (set ^^^ (-1))) x) (nI 0) j) k)), (6, .int (nI j)), (7, .int (fo (fun _ x => swB M n g mo (mo &&& (set ^^^ (-1))) x) (nI 0) j))]) hx hb dX2_whereAllReachedAreIn_82 hl (k := 8) rfl (nI_add k 1) (by decide) rfl (fun ls hl => ?_)
                  refine lv_goto (tgt := 32) hx hb dX2_whereAllReachedAreIn_85 (by decide) ?_
                  have e_5 : (fo (fun w f => if bt mo w && !decide ((seenSome M g w &&& ((mo &&& (set ^^^ (-1))) ||| f)) = 0) then f ||| sg w else f) (fo (fun _ x => swB M n g mo (mo &&& (set ^^^ (-1))) x) (nI 0) j) k) = (fo (fun w f => if bt mo w && !decide ((seenSome M g w &&& ((mo &&& (set ^^^ (-1))) ||| f)) = 0) then f ||| sg w else f) (fo (fun _ x => swB M n g mo (mo &&& (set ^^^ (-1))) x) (nI 0) j) (k + 1)) := by first | (rw [fo_s, if_neg (by rw [c50]; exact Bool.false_ne_true)]; done) | (rw [fo_s, if_neg (by rw [c50, decide_eq_true c69]; exact Bool.false_ne_true)]; done) | (rw [fo_s, if_pos (by rw [c50, decide_eq_false c69]; rfl)]; simp only [wr_eq, c41, c50, c69])
                  exact cut32 (k + 1) (by omega) (by omega) _ _ hP hS ls (lcons (lcons (lcons (lcons (lcons (lcons (lcons (lcons (lcons (lzero hl) hl 0 rfl rfl) hl 8 rfl rfl) hl 7 rfl rfl) hl 6 rfl (congrArg Value.int e_5)) hl 5 rfl rfl) hl 4 rfl rfl) hl 3 rfl rfl) hl 2 rfl rfl) hl 1 rfl rfl)
                ·
                  refine lv_iload hx hb dX2_whereAllReachedAreIn_72 (lv_at hl 5 rfl) ?_
                  refine lv_iload hx hb dX2_whereAllReachedAreIn_74 (lv_at hl 8 rfl) ?_
                  refine xcalli (va_runSN (As := [.int (nI k)]) (rest := [.int (fo (fun w f => if bt mo w && !decide ((seenSome M g w &&& ((mo &&& (set ^^^ (-1))) ||| f)) = 0) then f ||| sg w else f) (fo (fun _ x => swB M n g mo (mo &&& (set ^^^ (-1))) x) (nI 0) j) k)]) ⟨hx, hb, hml, hown, hts⟩ (c_X4_single l k) ⟨va_cnB 1 hts gX2_whereAllReachedAreIn_X4_single_n78 rfl rfl rfl hK.2.2.2.2.2.1 (hts (.initialized RX4) (List.mem_of_getElem? (i := 4) rfl)) (by decide +kernel) ⟨Nat.le_of_ble_eq_true rfl, Nat.le_of_ble_eq_true rfl⟩, hts (.static yX4_single) (List.mem_of_getElem? (i := 12) rfl), trivial⟩ xpreN rfl rfl hl.1 rfl (lv_room (Nat.le_of_ble_eq_true rfl)) dX2_whereAllReachedAreIn_76 ⟨Nat.le_of_ble_eq_true rfl, Nat.le_of_ble_eq_true rfl⟩) hS hP (fun H locs hP hS => ?_)
                  refine lv_ior hx hb dX2_whereAllReachedAreIn_79 ?_
                  refine lv_topi (fun x_6 hx_6 => ?_)
                  refine lv_istore (lv' := [(5, .int x_6), (0, .ref (a 16)), (1, .int set), (2, .int g), (3, .int mo), (4, .int (mo &&& (set ^^^ (-1)))), (6, .int (nI j)), (7, .int (fo (fun _ x => swB M n g mo (mo &&& (set ^^^ (-1))) x) (nI 0) j)), (8, .int (nI k))]) hx hb dX2_whereAllReachedAreIn_80 hl (by decide) rfl (fun ls hl => ?_)
                  refine lv_iinc (v := (nI (k + 1))) (lv' := [(8, .int (nI (k + 1))), (5, .int x_6), (0, .ref (a 16)), (1, .int set), (2, .int g), (3, .int mo), (4, .int (mo &&& (set ^^^ (-1)))), (6, .int (nI j)), (7, .int (fo (fun _ x => swB M n g mo (mo &&& (set ^^^ (-1))) x) (nI 0) j))]) hx hb dX2_whereAllReachedAreIn_82 hl (k := 8) rfl (nI_add k 1) (by decide) rfl (fun ls hl => ?_)
                  refine lv_goto (tgt := 32) hx hb dX2_whereAllReachedAreIn_85 (by decide) ?_
                  have e_7 : x_6 = (fo (fun w f => if bt mo w && !decide ((seenSome M g w &&& ((mo &&& (set ^^^ (-1))) ||| f)) = 0) then f ||| sg w else f) (fo (fun _ x => swB M n g mo (mo &&& (set ^^^ (-1))) x) (nI 0) j) (k + 1)) := by first | (rw [fo_s, if_neg (by rw [c50]; exact Bool.false_ne_true)]; done) | (rw [fo_s, if_neg (by rw [c50, decide_eq_true c69]; exact Bool.false_ne_true)]; done) | (rw [fo_s, if_pos (by rw [c50, decide_eq_false c69]; rfl)]; simp only [wr_eq, c41, c50, c69, hx_6])
                  exact cut32 (k + 1) (by omega) (by omega) _ _ hP hS ls (lcons (lcons (lcons (lcons (lcons (lcons (lcons (lcons (lcons (lzero hl) hl 0 rfl rfl) hl 8 rfl rfl) hl 7 rfl rfl) hl 1 rfl (congrArg Value.int e_7)) hl 6 rfl rfl) hl 5 rfl rfl) hl 4 rfl rfl) hl 3 rfl rfl) hl 2 rfl rfl)
        have e_8 : x_2 = (fo (fun _ x => swB M n g mo (mo &&& (set ^^^ (-1))) x) (nI 0) j) := by first | rfl | assumption
        have e_9 : (fo (fun _ x => swB M n g mo (mo &&& (set ^^^ (-1))) x) (nI 0) j) = (fo (fun w f => if bt mo w && !decide ((seenSome M g w &&& ((mo &&& (set ^^^ (-1))) ||| f)) = 0) then f ||| sg w else f) (fo (fun _ x => swB M n g mo (mo &&& (set ^^^ (-1))) x) (nI 0) j) 0) := by rfl
        exact cut32 (n + 1) 0 (by omega) (by omega) _ _ hP hS ls (lcons (lcons (lcons (lcons (lcons (lcons (lcons (lcons (lcons (lzero hl) hl 0 rfl rfl) hl 1 rfl (congrArg Value.int e_8)) hl 8 rfl rfl) hl 7 rfl (congrArg Value.int e_9)) hl 6 rfl rfl) hl 5 rfl rfl) hl 4 rfl rfl) hl 3 rfl rfl) hl 2 rfl rfl)
  have e_10 : (nI 0) = (fo (fun _ x => swB M n g mo (mo &&& (set ^^^ (-1))) x) (nI 0) 0) := by rfl
  have e_11 : x_1 = (mo &&& (set ^^^ (-1))) := by simp only [wr_eq, hx_1]
  exact cut13 (n + 2) 0 (by omega) (by omega) _ _ hP hS ls (lcons (lcons (lcons (lcons (lcons (lcons (lcons (lzero hl) hl 0 rfl rfl) hl 1 rfl (congrArg Value.int e_10)) hl 2 rfl (congrArg Value.int e_11)) hl 6 rfl rfl) hl 5 rfl rfl) hl 4 rfl rfl) hl 3 rfl rfl)

theorem VR_s {M0 M Mg u : Nat → Nat → Int32} {N : Nat → Int64} {n lv f g : Nat} {kd p1 p2 sb : Nat → Nat} {mo : Int32} (h : (∀ h, h < g → nb (N f) h = true → Mg (12 + lv) h = sem M0 n kd p1 p2 sb mo h) ∧ (∀ i x, ¬ (12 + lv ≤ i ∧ i < 15) → Mg i x = M i x)) (hlv : lv < 3) (hu : ∀ i x, ¬ (12 + lv + 1 ≤ i ∧ i < 15) → u i x = Mg i x) : (∀ h, h < g + 1 → nb (N f) h = true → wr u (12 + lv) g (sem M0 n kd p1 p2 sb mo g) (12 + lv) h = sem M0 n kd p1 p2 sb mo h) ∧ (∀ i x, ¬ (12 + lv ≤ i ∧ i < 15) → wr u (12 + lv) g (sem M0 n kd p1 p2 sb mo g) i x = M i x) := by
  refine ⟨fun k hk hb => ?_, fun i x hi => ?_⟩
  · rw [wr_eq]
    by_cases e : k = g
    · subst e; rw [if_pos ⟨rfl, rfl⟩]
    · rw [if_neg (fun q => e q.2), hu _ _ (by omega)]
      exact h.1 k (by omega) hb
  · rw [wr_ne (Or.inl (by omega)), hu _ _ (by omega)]
    exact h.2 i x hi

set_option maxHeartbeats 4000000 in
set_option maxRecDepth 100000 in
theorem c_X2_valueFromParts_2 (l : Launch) (D : va_G) (cs : Nat → ClassId) (a : Nat → Nat) (M : Nat → Nat → Int32) (N : Nat → Int64) (sz : Nat) (hI : kI a 29)  (n : Nat) (nf : Nat) (kd : Nat → Nat) (p1 : Nat → Nat) (p2 : Nat → Nat) (ns : Nat → Nat) (sb : Nat → Nat) (M0 : Nat → Nat → Int32) (lv : Nat) (mo : Int32) (f : Nat) (hn : M 0 0 = nI n) (hn24 : n ≤ 24) (hag : Ag M M0) (hwf : WFX M0 N nf kd p1 p2 ns sb) (hf40 : nf ≤ 40) (hlv : lv = 2) (hf : f < nf) (hns : ns f + lv ≤ 2) (hp1 : kd f ≠ 0 → M (12 + lv) (p1 f) = sem M0 n kd p1 p2 sb mo (p1 f)) (hp2 : kd f = 2 → M (12 + lv) (p2 f) = sem M0 n kd p1 p2 sb mo (p2 f)) : Met l yX2_valueFromParts wsX2_valueFromParts ({ frames := 4, cells := 0, slots := 0, locals := 100 } : Room) (va_Pc [.ref (a 16), .int (nI lv), .int mo, .int (nI f)] (XBs D cs (xc cs a M N) sz)) (va_Qi (fun r (u : Nat → Nat → Int32) => r = sem M0 n kd p1 p2 sb mo f ∧ (∀ i x, ¬ (12 + lv + 1 ≤ i ∧ i < 15) → u i x = M i x)) (fun (u : Nat → Nat → Int32) t => va_P D vwCl (xc cs a u N) t.heap) (kA a 29 sz)) 0 0 (kA a 29 sz) := by
  refine Met.ofW (cc := cX2_valueFromParts) (maxL := 8) (ret := (some .int)) (by decide) rfl ?_
  intro p e s m args below meth c s₁ B hml hv
  obtain ⟨rfl, hsz, hP, hK⟩ := hv
  have hx := B.exec
  have hb := B.bytes
  have hr := B.returns
  have hts := atoms_spec (ws := wsX2_valueFromParts) B.pre
  have hown : s.vm.findClass RX2 = some m.cls := findClass_of_methodNamed B.named
  have hlocks := B.notSynchronized
  have hK1 := hK.1
  have hinX2 : ∀ w ∈ wsX20, w ∈ wsX2_valueFromParts := fun w h => List.mem_cons_of_mem _ (List.mem_append_left _ (List.mem_append_left _ (List.mem_append_right _ h)))
  have hinX0 : ∀ w ∈ wsX00, w ∈ wsX2_valueFromParts := fun w h => List.mem_cons_of_mem _ (List.mem_append_left _ (List.mem_append_right _ h))
  have hinX3 : ∀ w ∈ wsX30, w ∈ wsX2_valueFromParts := fun w h => List.mem_cons_of_mem _ (List.mem_append_right _ h)
  subst hsz
  have hS : va_S (kA a 29 s.heap.size) s.heap s.heap [] := va_S.rf
  have hl := lv_entry ([.ref (a 16), .int (nI lv), .int mo, .int (nI f)]) (n := 8) (Nat.le_of_ble_eq_true rfl)
  rw [lg_entry_eq]
  generalize (lg_sl ([.ref (a 16), .int (nI lv), .int mo, .int (nI f)]) ++ List.replicate (8 - (lg_sl ([.ref (a 16), .int (nI lv), .int mo, .int (nI f)])).length) Slot.unset).toArray = ls at hl ⊢
  have hl : lv_has ls 8 [(0, .ref (a 16)), (1, .int (nI lv)), (2, .int mo), (3, .int (nI f))] := hl
  refine W_Q (fun Q hQ => ?_)
  show W p l e ({ frames := 4, cells := 0, slots := 0, locals := 100 } : Room) s m ([.ref (a 16), .int (nI lv), .int mo, .int (nI f)] : List Value).toArray below meth c s.heap [] 0 0 Q (F0 m 0 ls [])
  obtain ⟨⟨hk7, hk6, hk11, hk2⟩, hA, hB, hC, hD6, hE, hF1, hF2⟩ := hwf.2 f hf
  have hwp := hwf.1
  have hL := hwf.1 f hf
  rcases (show kd f = 0 ∨ kd f = 1 ∨ kd f = 2 ∨ kd f = 3 ∨ kd f = 4 ∨ kd f = 5 ∨ kd f = 6 by omega) with hkd | hkd | hkd | hkd | hkd | hkd | hkd
  ·
    obtain ⟨hA1, hA2, hA3⟩ := hA hkd
    have hE1 := hE (by omega) (by omega)
    refine lv_aload_n hx hb dX2_valueFromParts_0 rfl (lv_at hl 0 rfl) ?_
    refine va_get (D := D) (ci := 2) (v := .ref (a 8)) (C := RX2) (T := TX2) (N := 3) hx hb hts hinX2 hown hK1 hP 16 rfl rfl 1 (by decide) (hts (.fieldLink RX2 15 "KnowledgeModel$Truth" "formulas" "LKnowledgeModel$Formulas;") (List.mem_of_getElem? (i := 1) rfl)) (fun _ h9 => h9) rfl dX2_valueFromParts_1 ?_
    refine va_get (D := D) (ci := 0) (v := .ref (a 10)) (C := RX0) (T := TX0) (N := 8) hx hb hts hinX0 hown hK1 hP 8 rfl rfl 1 (by decide) (hts (.fieldLink RX2 43 "KnowledgeModel$Formulas" "subjectOf" "[I") (List.mem_of_getElem? (i := 2) rfl)) (fun _ h9 => h9) rfl dX2_valueFromParts_4 ?_
    refine lv_iload_n hx hb dX2_valueFromParts_7 rfl (lv_at hl 3 rfl) ?_
    refine xiald (j := f) (q0 := 10) (t0 := 0) hx hb hK1 hP rfl rfl (by omega) (by decide) dX2_valueFromParts_8 ?_
    refine xtop (y := (nI (sb f))) (by exact (hag 7 f (by decide)).trans hA2) ?_
    refine lv_istore (lv' := [(4, .int (nI (sb f))), (0, .ref (a 16)), (1, .int (nI lv)), (2, .int mo), (3, .int (nI f))]) hx hb dX2_valueFromParts_9 hl (by decide) rfl (fun ls hl => ?_)
    refine lv_aload_n hx hb dX2_valueFromParts_11 rfl (lv_at hl 1 rfl) ?_
    refine va_get (D := D) (ci := 2) (v := .ref (a 8)) (C := RX2) (T := TX2) (N := 3) hx hb hts hinX2 hown hK1 hP 16 rfl rfl 1 (by decide) (hts (.fieldLink RX2 15 "KnowledgeModel$Truth" "formulas" "LKnowledgeModel$Formulas;") (List.mem_of_getElem? (i := 1) rfl)) (fun _ h9 => h9) rfl dX2_valueFromParts_12 ?_
    refine va_get (D := D) (ci := 0) (v := .ref (a 11)) (C := RX0) (T := TX0) (N := 8) hx hb hts hinX0 hown hK1 hP 8 rfl rfl 2 (by decide) (hts (.fieldLink RX2 47 "KnowledgeModel$Formulas" "firstOf" "[I") (List.mem_of_getElem? (i := 3) rfl)) (fun _ h9 => h9) rfl dX2_valueFromParts_15 ?_
    refine lv_iload_n hx hb dX2_valueFromParts_18 rfl (lv_at hl 4 rfl) ?_
    refine xiald (j := f) (q0 := 11) (t0 := 0) hx hb hK1 hP rfl rfl (by omega) (by decide) dX2_valueFromParts_19 ?_
    refine xtop (y := (-1 : Int32)) (by exact (hag 8 f (by decide)).trans hA1) ?_
    refine lv_istore (lv' := [(5, .int (-1 : Int32)), (4, .int (nI (sb f))), (0, .ref (a 16)), (1, .int (nI lv)), (2, .int mo), (3, .int (nI f))]) hx hb dX2_valueFromParts_20 hl (by decide) rfl (fun ls hl => ?_)
    refine lv_aload_n hx hb dX2_valueFromParts_22 rfl (lv_at hl 2 rfl) ?_
    refine va_get (D := D) (ci := 2) (v := .ref (a 8)) (C := RX2) (T := TX2) (N := 3) hx hb hts hinX2 hown hK1 hP 16 rfl rfl 1 (by decide) (hts (.fieldLink RX2 15 "KnowledgeModel$Truth" "formulas" "LKnowledgeModel$Formulas;") (List.mem_of_getElem? (i := 1) rfl)) (fun _ h9 => h9) rfl dX2_valueFromParts_23 ?_
    refine va_get (D := D) (ci := 0) (v := .ref (a 12)) (C := RX0) (T := TX0) (N := 8) hx hb hts hinX0 hown hK1 hP 8 rfl rfl 3 (by decide) (hts (.fieldLink RX2 50 "KnowledgeModel$Formulas" "secondOf" "[I") (List.mem_of_getElem? (i := 4) rfl)) (fun _ h9 => h9) rfl dX2_valueFromParts_26 ?_
    refine lv_iload_n hx hb dX2_valueFromParts_29 rfl (lv_at hl 5 rfl) ?_
    refine xiald (j := f) (q0 := 12) (t0 := 0) hx hb hK1 hP rfl rfl (by omega) (by decide) dX2_valueFromParts_30 ?_
    refine xtop (y := (-1 : Int32)) (by exact (hag 9 f (by decide)).trans hE1) ?_
    refine lv_istore (lv' := [(6, .int (-1 : Int32)), (5, .int (-1 : Int32)), (4, .int (nI (sb f))), (0, .ref (a 16)), (1, .int (nI lv)), (2, .int mo), (3, .int (nI f))]) hx hb dX2_valueFromParts_31 hl (by decide) rfl (fun ls hl => ?_)
    refine lv_iload hx hb dX2_valueFromParts_33 (lv_at hl 1 rfl) ?_
    refine lv_iconst (v := (-1 : Int32)) hx hb dX2_valueFromParts_35 (by decide) ?_
    refine lv_icmp_ne (tgt := 43) hx hb dX2_valueFromParts_36 (by decide) (fun c36 => ?_) (fun c36 => ?_)
    ·
      exfalso
      exact c36 rfl
    ·
      refine lv_iconst (v := (nI 0)) hx hb dX2_valueFromParts_39 (by decide) ?_
      refine lv_goto (tgt := 52) hx hb dX2_valueFromParts_40 (by decide) ?_
      refine lv_istore (lv' := [(7, .int (nI 0)), (6, .int (-1 : Int32)), (5, .int (-1 : Int32)), (4, .int (nI (sb f))), (0, .ref (a 16)), (1, .int (nI lv)), (2, .int mo), (3, .int (nI f))]) hx hb dX2_valueFromParts_52 hl (by decide) rfl (fun ls hl => ?_)
      refine lv_aload_n hx hb dX2_valueFromParts_54 rfl (lv_at hl 4 rfl) ?_
      refine va_get (D := D) (ci := 2) (v := .ref (a 8)) (C := RX2) (T := TX2) (N := 3) hx hb hts hinX2 hown hK1 hP 16 rfl rfl 1 (by decide) (hts (.fieldLink RX2 15 "KnowledgeModel$Truth" "formulas" "LKnowledgeModel$Formulas;") (List.mem_of_getElem? (i := 1) rfl)) (fun _ h9 => h9) rfl dX2_valueFromParts_55 ?_
      refine va_get (D := D) (ci := 0) (v := .ref (a 9)) (C := RX0) (T := TX0) (N := 8) hx hb hts hinX0 hown hK1 hP 8 rfl rfl 0 (by decide) (hts (.fieldLink RX2 53 "KnowledgeModel$Formulas" "kindOf" "[I") (List.mem_of_getElem? (i := 6) rfl)) (fun _ h9 => h9) rfl dX2_valueFromParts_58 ?_
      refine lv_iload_n hx hb dX2_valueFromParts_61 rfl (lv_at hl 7 rfl) ?_
      refine xiald (j := f) (q0 := 9) (t0 := 0) hx hb hK1 hP rfl rfl (by omega) (by decide) dX2_valueFromParts_62 ?_
      refine xtop (y := (nI 0)) (by exact ((hag 6 f (by decide)).trans hk6).trans (congrArg nI hkd)) ?_
      refine lv_tableIn (tgt := 104) hx hb dX2_valueFromParts_63 (by decide) (by decide) rfl (by decide) ?_
      refine lv_iload_n hx hb dX2_valueFromParts_104 rfl (lv_at hl 6 rfl) ?_
      refine lv_aload_n hx hb dX2_valueFromParts_105 rfl (lv_at hl 4 rfl) ?_
      refine va_get (D := D) (ci := 2) (v := .ref (a 1)) (C := RX2) (T := TX2) (N := 3) hx hb hts hinX2 hown hK1 hP 16 rfl rfl 0 (by decide) (hts (.fieldLink RX2 9 "KnowledgeModel$Truth" "worlds" "LKnowledgeModel$Worlds;") (List.mem_of_getElem? (i := 7) rfl)) (fun _ h9 => h9) rfl dX2_valueFromParts_106 ?_
      refine lv_iload hx hb dX2_valueFromParts_109 (lv_at hl 3 rfl) ?_
      refine xcalli (va_runV (As := [.int (nI (sb f))]) (rest := [.int mo]) ⟨hx, hb, hml, hown, hts⟩ (c_X3_worldsWith l D cs a M N n (sb f) (by omega) hn (by omega)) (cwV 1 hts gX2_valueFromParts_X3_worldsWith rfl rfl rfl (by decide +kernel) ⟨Nat.le_of_ble_eq_true rfl, Nat.le_of_ble_eq_true rfl⟩) (xpreV hP hK (ci := 3) 1 rfl rfl) rfl rfl hl.1 rfl (lv_room (Nat.le_of_ble_eq_true rfl)) dX2_valueFromParts_111 ⟨Nat.le_of_ble_eq_true rfl, Nat.le_of_ble_eq_true rfl⟩) hS hP (fun H locs hP hS => ?_)
      refine xtop (y := (worldsWith M0 n (sb f))) (by exact worldsWith_c hag) ?_
      refine lv_iand hx hb dX2_valueFromParts_114 ?_
      subst hQ
      have hrel : (∀ i x, ¬ (12 + lv + 1 ≤ i ∧ i < 15) → M i x = M i x) := by first | (intro i x _; rfl) | exact trivial
      have hfin : (mo &&& (worldsWith M0 n (sb f))) = sem M0 n kd p1 p2 sb mo f := by rw [sem_eq hwp hf]; simp only [hkd, if_true, if_false, show (1 : Nat) ≠ 0 by decide, show (2 : Nat) ≠ 0 by decide, show (2 : Nat) ≠ 1 by decide, show (3 : Nat) ≠ 0 by decide, show (3 : Nat) ≠ 1 by decide, show (3 : Nat) ≠ 2 by decide, show (3 : Nat) ≠ 4 by decide, show (3 : Nat) ≠ 6 by decide, show (4 : Nat) ≠ 0 by decide, show (4 : Nat) ≠ 1 by decide, show (4 : Nat) ≠ 2 by decide, show (5 : Nat) ≠ 0 by decide, show (5 : Nat) ≠ 1 by decide, show (5 : Nat) ≠ 2 by decide, show (5 : Nat) ≠ 4 by decide, show (5 : Nat) ≠ 6 by decide, show (6 : Nat) ≠ 0 by decide, show (6 : Nat) ≠ 1 by decide, show (6 : Nat) ≠ 2 by decide, show (6 : Nat) ≠ 4 by decide, c36]
      exact W.iret hx hb hr (fun t ht hW => ⟨⟨_, M, rfl, ⟨hfin, hrel⟩, by rw [← ht] at hP; exact hP⟩, hS.F ht⟩) hS.2.2 dX2_valueFromParts_115
  ·
    obtain ⟨hB1, hB2⟩ := hB (by omega)
    have hq1 := hL.1 (by omega)
    have hE1 := hE (by omega) (by omega)
    refine lv_aload_n hx hb dX2_valueFromParts_0 rfl (lv_at hl 0 rfl) ?_
    refine va_get (D := D) (ci := 2) (v := .ref (a 8)) (C := RX2) (T := TX2) (N := 3) hx hb hts hinX2 hown hK1 hP 16 rfl rfl 1 (by decide) (hts (.fieldLink RX2 15 "KnowledgeModel$Truth" "formulas" "LKnowledgeModel$Formulas;") (List.mem_of_getElem? (i := 1) rfl)) (fun _ h9 => h9) rfl dX2_valueFromParts_1 ?_
    refine va_get (D := D) (ci := 0) (v := .ref (a 10)) (C := RX0) (T := TX0) (N := 8) hx hb hts hinX0 hown hK1 hP 8 rfl rfl 1 (by decide) (hts (.fieldLink RX2 43 "KnowledgeModel$Formulas" "subjectOf" "[I") (List.mem_of_getElem? (i := 2) rfl)) (fun _ h9 => h9) rfl dX2_valueFromParts_4 ?_
    refine lv_iload_n hx hb dX2_valueFromParts_7 rfl (lv_at hl 3 rfl) ?_
    refine xiald (j := f) (q0 := 10) (t0 := 0) hx hb hK1 hP rfl rfl (by omega) (by decide) dX2_valueFromParts_8 ?_
    refine xtop (y := (M0 7 f)) (by exact hag 7 f (by decide)) ?_
    refine lv_topi (fun x_1 hx_1 => ?_)
    refine lv_istore (lv' := [(4, .int x_1), (0, .ref (a 16)), (1, .int (nI lv)), (2, .int mo), (3, .int (nI f))]) hx hb dX2_valueFromParts_9 hl (by decide) rfl (fun ls hl => ?_)
    refine lv_aload_n hx hb dX2_valueFromParts_11 rfl (lv_at hl 1 rfl) ?_
    refine va_get (D := D) (ci := 2) (v := .ref (a 8)) (C := RX2) (T := TX2) (N := 3) hx hb hts hinX2 hown hK1 hP 16 rfl rfl 1 (by decide) (hts (.fieldLink RX2 15 "KnowledgeModel$Truth" "formulas" "LKnowledgeModel$Formulas;") (List.mem_of_getElem? (i := 1) rfl)) (fun _ h9 => h9) rfl dX2_valueFromParts_12 ?_
    refine va_get (D := D) (ci := 0) (v := .ref (a 11)) (C := RX0) (T := TX0) (N := 8) hx hb hts hinX0 hown hK1 hP 8 rfl rfl 2 (by decide) (hts (.fieldLink RX2 47 "KnowledgeModel$Formulas" "firstOf" "[I") (List.mem_of_getElem? (i := 3) rfl)) (fun _ h9 => h9) rfl dX2_valueFromParts_15 ?_
    refine lv_iload_n hx hb dX2_valueFromParts_18 rfl (lv_at hl 4 rfl) ?_
    refine xiald (j := f) (q0 := 11) (t0 := 0) hx hb hK1 hP rfl rfl (by omega) (by decide) dX2_valueFromParts_19 ?_
    refine xtop (y := (nI (p1 f))) (by exact (hag 8 f (by decide)).trans hB1) ?_
    refine lv_istore (lv' := [(5, .int (nI (p1 f))), (4, .int x_1), (0, .ref (a 16)), (1, .int (nI lv)), (2, .int mo), (3, .int (nI f))]) hx hb dX2_valueFromParts_20 hl (by decide) rfl (fun ls hl => ?_)
    refine lv_aload_n hx hb dX2_valueFromParts_22 rfl (lv_at hl 2 rfl) ?_
    refine va_get (D := D) (ci := 2) (v := .ref (a 8)) (C := RX2) (T := TX2) (N := 3) hx hb hts hinX2 hown hK1 hP 16 rfl rfl 1 (by decide) (hts (.fieldLink RX2 15 "KnowledgeModel$Truth" "formulas" "LKnowledgeModel$Formulas;") (List.mem_of_getElem? (i := 1) rfl)) (fun _ h9 => h9) rfl dX2_valueFromParts_23 ?_
    refine va_get (D := D) (ci := 0) (v := .ref (a 12)) (C := RX0) (T := TX0) (N := 8) hx hb hts hinX0 hown hK1 hP 8 rfl rfl 3 (by decide) (hts (.fieldLink RX2 50 "KnowledgeModel$Formulas" "secondOf" "[I") (List.mem_of_getElem? (i := 4) rfl)) (fun _ h9 => h9) rfl dX2_valueFromParts_26 ?_
    refine lv_iload_n hx hb dX2_valueFromParts_29 rfl (lv_at hl 5 rfl) ?_
    refine xiald (j := f) (q0 := 12) (t0 := 0) hx hb hK1 hP rfl rfl (by omega) (by decide) dX2_valueFromParts_30 ?_
    refine xtop (y := (-1 : Int32)) (by exact (hag 9 f (by decide)).trans hE1) ?_
    refine lv_istore (lv' := [(6, .int (-1 : Int32)), (5, .int (nI (p1 f))), (4, .int x_1), (0, .ref (a 16)), (1, .int (nI lv)), (2, .int mo), (3, .int (nI f))]) hx hb dX2_valueFromParts_31 hl (by decide) rfl (fun ls hl => ?_)
    refine lv_iload hx hb dX2_valueFromParts_33 (lv_at hl 1 rfl) ?_
    refine lv_iconst (v := (-1 : Int32)) hx hb dX2_valueFromParts_35 (by decide) ?_
    refine lv_icmp_ne (tgt := 43) hx hb dX2_valueFromParts_36 (by decide) (fun c36 => ?_) (fun c36 => ?_)
    ·
      refine lv_aload_n hx hb dX2_valueFromParts_43 rfl (lv_at hl 3 rfl) ?_
      refine va_get (D := D) (ci := 2) (v := .ref (a 17)) (C := RX2) (T := TX2) (N := 3) hx hb hts hinX2 hown hK1 hP 16 rfl rfl 2 (by decide) (hts (.fieldLink RX2 21 "KnowledgeModel$Truth" "values" "[[I") (List.mem_of_getElem? (i := 5) rfl)) (fun _ h9 => h9) rfl dX2_valueFromParts_44 ?_
      refine lv_iload_n hx hb dX2_valueFromParts_47 rfl (lv_at hl 4 rfl) ?_
      refine xaald (j := lv) (q0 := 17) (t0 := 2) (f := fun i => a (18 + i)) hx hb hK1 hP rfl rfl (by omega) (by decide) dX2_valueFromParts_48 ?_
      refine lv_iload hx hb dX2_valueFromParts_49 (lv_at hl 1 rfl) ?_
      refine xiald (j := p1 f) (q0 := (18 + lv)) (t0 := 0) hx hb hK1 hP (xg_va (by omega)) rfl (by omega) (by decide) dX2_valueFromParts_51 ?_
      refine xtop (y := (sem M0 n kd p1 p2 sb mo (p1 f))) (by exact hp1 (by omega)) ?_
      refine lv_topi (fun x_2 hx_2 => ?_)
      refine lv_istore (lv' := [(7, .int x_2), (6, .int (-1 : Int32)), (5, .int (nI (p1 f))), (4, .int x_1), (0, .ref (a 16)), (1, .int (nI lv)), (2, .int mo), (3, .int (nI f))]) hx hb dX2_valueFromParts_52 hl (by decide) rfl (fun ls hl => ?_)
      refine lv_aload_n hx hb dX2_valueFromParts_54 rfl (lv_at hl 4 rfl) ?_
      refine va_get (D := D) (ci := 2) (v := .ref (a 8)) (C := RX2) (T := TX2) (N := 3) hx hb hts hinX2 hown hK1 hP 16 rfl rfl 1 (by decide) (hts (.fieldLink RX2 15 "KnowledgeModel$Truth" "formulas" "LKnowledgeModel$Formulas;") (List.mem_of_getElem? (i := 1) rfl)) (fun _ h9 => h9) rfl dX2_valueFromParts_55 ?_
      refine va_get (D := D) (ci := 0) (v := .ref (a 9)) (C := RX0) (T := TX0) (N := 8) hx hb hts hinX0 hown hK1 hP 8 rfl rfl 0 (by decide) (hts (.fieldLink RX2 53 "KnowledgeModel$Formulas" "kindOf" "[I") (List.mem_of_getElem? (i := 6) rfl)) (fun _ h9 => h9) rfl dX2_valueFromParts_58 ?_
      refine lv_iload_n hx hb dX2_valueFromParts_61 rfl (lv_at hl 7 rfl) ?_
      refine xiald (j := f) (q0 := 9) (t0 := 0) hx hb hK1 hP rfl rfl (by omega) (by decide) dX2_valueFromParts_62 ?_
      refine xtop (y := (nI 1)) (by exact ((hag 6 f (by decide)).trans hk6).trans (congrArg nI hkd)) ?_
      refine lv_tableIn (tgt := 116) hx hb dX2_valueFromParts_63 (by decide) (by decide) rfl (by decide) ?_
      refine lv_iload_n hx hb dX2_valueFromParts_116 rfl (lv_at hl 6 rfl) ?_
      refine lv_iload hx hb dX2_valueFromParts_117 (lv_at hl 0 rfl) ?_
      refine lv_iconst (v := (-1 : Int32)) hx hb dX2_valueFromParts_119 (by decide) ?_
      refine lv_ixor hx hb dX2_valueFromParts_120 ?_
      refine lv_iand hx hb dX2_valueFromParts_121 ?_
      subst hQ
      have hrel : (∀ i x, ¬ (12 + lv + 1 ≤ i ∧ i < 15) → M i x = M i x) := by first | (intro i x _; rfl) | exact trivial
      have hfin : (mo &&& (x_2 ^^^ (-1 : Int32))) = sem M0 n kd p1 p2 sb mo f := by rw [sem_eq hwp hf]; simp only [hkd, if_true, if_false, show (1 : Nat) ≠ 0 by decide, show (2 : Nat) ≠ 0 by decide, show (2 : Nat) ≠ 1 by decide, show (3 : Nat) ≠ 0 by decide, show (3 : Nat) ≠ 1 by decide, show (3 : Nat) ≠ 2 by decide, show (3 : Nat) ≠ 4 by decide, show (3 : Nat) ≠ 6 by decide, show (4 : Nat) ≠ 0 by decide, show (4 : Nat) ≠ 1 by decide, show (4 : Nat) ≠ 2 by decide, show (5 : Nat) ≠ 0 by decide, show (5 : Nat) ≠ 1 by decide, show (5 : Nat) ≠ 2 by decide, show (5 : Nat) ≠ 4 by decide, show (5 : Nat) ≠ 6 by decide, show (6 : Nat) ≠ 0 by decide, show (6 : Nat) ≠ 1 by decide, show (6 : Nat) ≠ 2 by decide, show (6 : Nat) ≠ 4 by decide, hx_1, c36, hx_2]
      exact W.iret hx hb hr (fun t ht hW => ⟨⟨_, M, rfl, ⟨hfin, hrel⟩, by rw [← ht] at hP; exact hP⟩, hS.F ht⟩) hS.2.2 dX2_valueFromParts_122
    ·
      exfalso
      exact nI_ne_m1 (by omega) c36
  ·
    obtain ⟨hB1, hB2⟩ := hB (by omega)
    have hq1 := hL.1 (by omega)
    have hC1 := hC (by omega)
    have hq2 := hL.2 (by omega)
    refine lv_aload_n hx hb dX2_valueFromParts_0 rfl (lv_at hl 0 rfl) ?_
    refine va_get (D := D) (ci := 2) (v := .ref (a 8)) (C := RX2) (T := TX2) (N := 3) hx hb hts hinX2 hown hK1 hP 16 rfl rfl 1 (by decide) (hts (.fieldLink RX2 15 "KnowledgeModel$Truth" "formulas" "LKnowledgeModel$Formulas;") (List.mem_of_getElem? (i := 1) rfl)) (fun _ h9 => h9) rfl dX2_valueFromParts_1 ?_
    refine va_get (D := D) (ci := 0) (v := .ref (a 10)) (C := RX0) (T := TX0) (N := 8) hx hb hts hinX0 hown hK1 hP 8 rfl rfl 1 (by decide) (hts (.fieldLink RX2 43 "KnowledgeModel$Formulas" "subjectOf" "[I") (List.mem_of_getElem? (i := 2) rfl)) (fun _ h9 => h9) rfl dX2_valueFromParts_4 ?_
    refine lv_iload_n hx hb dX2_valueFromParts_7 rfl (lv_at hl 3 rfl) ?_
    refine xiald (j := f) (q0 := 10) (t0 := 0) hx hb hK1 hP rfl rfl (by omega) (by decide) dX2_valueFromParts_8 ?_
    refine xtop (y := (M0 7 f)) (by exact hag 7 f (by decide)) ?_
    refine lv_topi (fun x_3 hx_3 => ?_)
    refine lv_istore (lv' := [(4, .int x_3), (0, .ref (a 16)), (1, .int (nI lv)), (2, .int mo), (3, .int (nI f))]) hx hb dX2_valueFromParts_9 hl (by decide) rfl (fun ls hl => ?_)
    refine lv_aload_n hx hb dX2_valueFromParts_11 rfl (lv_at hl 1 rfl) ?_
    refine va_get (D := D) (ci := 2) (v := .ref (a 8)) (C := RX2) (T := TX2) (N := 3) hx hb hts hinX2 hown hK1 hP 16 rfl rfl 1 (by decide) (hts (.fieldLink RX2 15 "KnowledgeModel$Truth" "formulas" "LKnowledgeModel$Formulas;") (List.mem_of_getElem? (i := 1) rfl)) (fun _ h9 => h9) rfl dX2_valueFromParts_12 ?_
    refine va_get (D := D) (ci := 0) (v := .ref (a 11)) (C := RX0) (T := TX0) (N := 8) hx hb hts hinX0 hown hK1 hP 8 rfl rfl 2 (by decide) (hts (.fieldLink RX2 47 "KnowledgeModel$Formulas" "firstOf" "[I") (List.mem_of_getElem? (i := 3) rfl)) (fun _ h9 => h9) rfl dX2_valueFromParts_15 ?_
    refine lv_iload_n hx hb dX2_valueFromParts_18 rfl (lv_at hl 4 rfl) ?_
    refine xiald (j := f) (q0 := 11) (t0 := 0) hx hb hK1 hP rfl rfl (by omega) (by decide) dX2_valueFromParts_19 ?_
    refine xtop (y := (nI (p1 f))) (by exact (hag 8 f (by decide)).trans hB1) ?_
    refine lv_istore (lv' := [(5, .int (nI (p1 f))), (4, .int x_3), (0, .ref (a 16)), (1, .int (nI lv)), (2, .int mo), (3, .int (nI f))]) hx hb dX2_valueFromParts_20 hl (by decide) rfl (fun ls hl => ?_)
    refine lv_aload_n hx hb dX2_valueFromParts_22 rfl (lv_at hl 2 rfl) ?_
    refine va_get (D := D) (ci := 2) (v := .ref (a 8)) (C := RX2) (T := TX2) (N := 3) hx hb hts hinX2 hown hK1 hP 16 rfl rfl 1 (by decide) (hts (.fieldLink RX2 15 "KnowledgeModel$Truth" "formulas" "LKnowledgeModel$Formulas;") (List.mem_of_getElem? (i := 1) rfl)) (fun _ h9 => h9) rfl dX2_valueFromParts_23 ?_
    refine va_get (D := D) (ci := 0) (v := .ref (a 12)) (C := RX0) (T := TX0) (N := 8) hx hb hts hinX0 hown hK1 hP 8 rfl rfl 3 (by decide) (hts (.fieldLink RX2 50 "KnowledgeModel$Formulas" "secondOf" "[I") (List.mem_of_getElem? (i := 4) rfl)) (fun _ h9 => h9) rfl dX2_valueFromParts_26 ?_
    refine lv_iload_n hx hb dX2_valueFromParts_29 rfl (lv_at hl 5 rfl) ?_
    refine xiald (j := f) (q0 := 12) (t0 := 0) hx hb hK1 hP rfl rfl (by omega) (by decide) dX2_valueFromParts_30 ?_
    refine xtop (y := (nI (p2 f))) (by exact (hag 9 f (by decide)).trans hC1) ?_
    refine lv_istore (lv' := [(6, .int (nI (p2 f))), (5, .int (nI (p1 f))), (4, .int x_3), (0, .ref (a 16)), (1, .int (nI lv)), (2, .int mo), (3, .int (nI f))]) hx hb dX2_valueFromParts_31 hl (by decide) rfl (fun ls hl => ?_)
    refine lv_iload hx hb dX2_valueFromParts_33 (lv_at hl 1 rfl) ?_
    refine lv_iconst (v := (-1 : Int32)) hx hb dX2_valueFromParts_35 (by decide) ?_
    refine lv_icmp_ne (tgt := 43) hx hb dX2_valueFromParts_36 (by decide) (fun c36 => ?_) (fun c36 => ?_)
    ·
      refine lv_aload_n hx hb dX2_valueFromParts_43 rfl (lv_at hl 3 rfl) ?_
      refine va_get (D := D) (ci := 2) (v := .ref (a 17)) (C := RX2) (T := TX2) (N := 3) hx hb hts hinX2 hown hK1 hP 16 rfl rfl 2 (by decide) (hts (.fieldLink RX2 21 "KnowledgeModel$Truth" "values" "[[I") (List.mem_of_getElem? (i := 5) rfl)) (fun _ h9 => h9) rfl dX2_valueFromParts_44 ?_
      refine lv_iload_n hx hb dX2_valueFromParts_47 rfl (lv_at hl 4 rfl) ?_
      refine xaald (j := lv) (q0 := 17) (t0 := 2) (f := fun i => a (18 + i)) hx hb hK1 hP rfl rfl (by omega) (by decide) dX2_valueFromParts_48 ?_
      refine lv_iload hx hb dX2_valueFromParts_49 (lv_at hl 1 rfl) ?_
      refine xiald (j := p1 f) (q0 := (18 + lv)) (t0 := 0) hx hb hK1 hP (xg_va (by omega)) rfl (by omega) (by decide) dX2_valueFromParts_51 ?_
      refine xtop (y := (sem M0 n kd p1 p2 sb mo (p1 f))) (by exact hp1 (by omega)) ?_
      refine lv_topi (fun x_4 hx_4 => ?_)
      refine lv_istore (lv' := [(7, .int x_4), (6, .int (nI (p2 f))), (5, .int (nI (p1 f))), (4, .int x_3), (0, .ref (a 16)), (1, .int (nI lv)), (2, .int mo), (3, .int (nI f))]) hx hb dX2_valueFromParts_52 hl (by decide) rfl (fun ls hl => ?_)
      refine lv_aload_n hx hb dX2_valueFromParts_54 rfl (lv_at hl 4 rfl) ?_
      refine va_get (D := D) (ci := 2) (v := .ref (a 8)) (C := RX2) (T := TX2) (N := 3) hx hb hts hinX2 hown hK1 hP 16 rfl rfl 1 (by decide) (hts (.fieldLink RX2 15 "KnowledgeModel$Truth" "formulas" "LKnowledgeModel$Formulas;") (List.mem_of_getElem? (i := 1) rfl)) (fun _ h9 => h9) rfl dX2_valueFromParts_55 ?_
      refine va_get (D := D) (ci := 0) (v := .ref (a 9)) (C := RX0) (T := TX0) (N := 8) hx hb hts hinX0 hown hK1 hP 8 rfl rfl 0 (by decide) (hts (.fieldLink RX2 53 "KnowledgeModel$Formulas" "kindOf" "[I") (List.mem_of_getElem? (i := 6) rfl)) (fun _ h9 => h9) rfl dX2_valueFromParts_58 ?_
      refine lv_iload_n hx hb dX2_valueFromParts_61 rfl (lv_at hl 7 rfl) ?_
      refine xiald (j := f) (q0 := 9) (t0 := 0) hx hb hK1 hP rfl rfl (by omega) (by decide) dX2_valueFromParts_62 ?_
      refine xtop (y := (nI 2)) (by exact ((hag 6 f (by decide)).trans hk6).trans (congrArg nI hkd)) ?_
      refine lv_tableIn (tgt := 123) hx hb dX2_valueFromParts_63 (by decide) (by decide) rfl (by decide) ?_
      refine lv_iload hx hb dX2_valueFromParts_123 (lv_at hl 1 rfl) ?_
      refine lv_iconst (v := (-1 : Int32)) hx hb dX2_valueFromParts_125 (by decide) ?_
      refine lv_icmp_ne (tgt := 133) hx hb dX2_valueFromParts_126 (by decide) (fun c126 => ?_) (fun c126 => ?_)
      ·
        refine lv_iload hx hb dX2_valueFromParts_133 (lv_at hl 0 rfl) ?_
        refine lv_aload_n hx hb dX2_valueFromParts_135 rfl (lv_at hl 4 rfl) ?_
        refine va_get (D := D) (ci := 2) (v := .ref (a 17)) (C := RX2) (T := TX2) (N := 3) hx hb hts hinX2 hown hK1 hP 16 rfl rfl 2 (by decide) (hts (.fieldLink RX2 21 "KnowledgeModel$Truth" "values" "[[I") (List.mem_of_getElem? (i := 5) rfl)) (fun _ h9 => h9) rfl dX2_valueFromParts_136 ?_
        refine lv_iload_n hx hb dX2_valueFromParts_139 rfl (lv_at hl 5 rfl) ?_
        refine xaald (j := lv) (q0 := 17) (t0 := 2) (f := fun i => a (18 + i)) hx hb hK1 hP rfl rfl (by omega) (by decide) dX2_valueFromParts_140 ?_
        refine lv_iload hx hb dX2_valueFromParts_141 (lv_at hl 1 rfl) ?_
        refine xiald (j := p2 f) (q0 := (18 + lv)) (t0 := 0) hx hb hK1 hP (xg_va (by omega)) rfl (by omega) (by decide) dX2_valueFromParts_143 ?_
        refine xtop (y := (sem M0 n kd p1 p2 sb mo (p2 f))) (by exact hp2 hkd) ?_
        refine lv_iand hx hb dX2_valueFromParts_144 ?_
        subst hQ
        have hrel : (∀ i x, ¬ (12 + lv + 1 ≤ i ∧ i < 15) → M i x = M i x) := by first | (intro i x _; rfl) | exact trivial
        have hfin : (x_4 &&& (sem M0 n kd p1 p2 sb mo (p2 f))) = sem M0 n kd p1 p2 sb mo f := by rw [sem_eq hwp hf]; simp only [hkd, if_true, if_false, show (1 : Nat) ≠ 0 by decide, show (2 : Nat) ≠ 0 by decide, show (2 : Nat) ≠ 1 by decide, show (3 : Nat) ≠ 0 by decide, show (3 : Nat) ≠ 1 by decide, show (3 : Nat) ≠ 2 by decide, show (3 : Nat) ≠ 4 by decide, show (3 : Nat) ≠ 6 by decide, show (4 : Nat) ≠ 0 by decide, show (4 : Nat) ≠ 1 by decide, show (4 : Nat) ≠ 2 by decide, show (5 : Nat) ≠ 0 by decide, show (5 : Nat) ≠ 1 by decide, show (5 : Nat) ≠ 2 by decide, show (5 : Nat) ≠ 4 by decide, show (5 : Nat) ≠ 6 by decide, show (6 : Nat) ≠ 0 by decide, show (6 : Nat) ≠ 1 by decide, show (6 : Nat) ≠ 2 by decide, show (6 : Nat) ≠ 4 by decide, hx_3, c36, hx_4, c126]
        exact W.iret hx hb hr (fun t ht hW => ⟨⟨_, M, rfl, ⟨hfin, hrel⟩, by rw [← ht] at hP; exact hP⟩, hS.F ht⟩) hS.2.2 dX2_valueFromParts_145
      ·
        exfalso
        exact nI_ne_m1 (by omega) c126
    ·
      exfalso
      exact nI_ne_m1 (by omega) c36
  ·
    obtain ⟨hB1, hB2⟩ := hB (by omega)
    have hq1 := hL.1 (by omega)
    have hE1 := hE (by omega) (by omega)
    refine lv_aload_n hx hb dX2_valueFromParts_0 rfl (lv_at hl 0 rfl) ?_
    refine va_get (D := D) (ci := 2) (v := .ref (a 8)) (C := RX2) (T := TX2) (N := 3) hx hb hts hinX2 hown hK1 hP 16 rfl rfl 1 (by decide) (hts (.fieldLink RX2 15 "KnowledgeModel$Truth" "formulas" "LKnowledgeModel$Formulas;") (List.mem_of_getElem? (i := 1) rfl)) (fun _ h9 => h9) rfl dX2_valueFromParts_1 ?_
    refine va_get (D := D) (ci := 0) (v := .ref (a 10)) (C := RX0) (T := TX0) (N := 8) hx hb hts hinX0 hown hK1 hP 8 rfl rfl 1 (by decide) (hts (.fieldLink RX2 43 "KnowledgeModel$Formulas" "subjectOf" "[I") (List.mem_of_getElem? (i := 2) rfl)) (fun _ h9 => h9) rfl dX2_valueFromParts_4 ?_
    refine lv_iload_n hx hb dX2_valueFromParts_7 rfl (lv_at hl 3 rfl) ?_
    refine xiald (j := f) (q0 := 10) (t0 := 0) hx hb hK1 hP rfl rfl (by omega) (by decide) dX2_valueFromParts_8 ?_
    refine xtop (y := (M0 7 f)) (by exact hag 7 f (by decide)) ?_
    refine lv_topi (fun x_5 hx_5 => ?_)
    refine lv_istore (lv' := [(4, .int x_5), (0, .ref (a 16)), (1, .int (nI lv)), (2, .int mo), (3, .int (nI f))]) hx hb dX2_valueFromParts_9 hl (by decide) rfl (fun ls hl => ?_)
    refine lv_aload_n hx hb dX2_valueFromParts_11 rfl (lv_at hl 1 rfl) ?_
    refine va_get (D := D) (ci := 2) (v := .ref (a 8)) (C := RX2) (T := TX2) (N := 3) hx hb hts hinX2 hown hK1 hP 16 rfl rfl 1 (by decide) (hts (.fieldLink RX2 15 "KnowledgeModel$Truth" "formulas" "LKnowledgeModel$Formulas;") (List.mem_of_getElem? (i := 1) rfl)) (fun _ h9 => h9) rfl dX2_valueFromParts_12 ?_
    refine va_get (D := D) (ci := 0) (v := .ref (a 11)) (C := RX0) (T := TX0) (N := 8) hx hb hts hinX0 hown hK1 hP 8 rfl rfl 2 (by decide) (hts (.fieldLink RX2 47 "KnowledgeModel$Formulas" "firstOf" "[I") (List.mem_of_getElem? (i := 3) rfl)) (fun _ h9 => h9) rfl dX2_valueFromParts_15 ?_
    refine lv_iload_n hx hb dX2_valueFromParts_18 rfl (lv_at hl 4 rfl) ?_
    refine xiald (j := f) (q0 := 11) (t0 := 0) hx hb hK1 hP rfl rfl (by omega) (by decide) dX2_valueFromParts_19 ?_
    refine xtop (y := (nI (p1 f))) (by exact (hag 8 f (by decide)).trans hB1) ?_
    refine lv_istore (lv' := [(5, .int (nI (p1 f))), (4, .int x_5), (0, .ref (a 16)), (1, .int (nI lv)), (2, .int mo), (3, .int (nI f))]) hx hb dX2_valueFromParts_20 hl (by decide) rfl (fun ls hl => ?_)
    refine lv_aload_n hx hb dX2_valueFromParts_22 rfl (lv_at hl 2 rfl) ?_
    refine va_get (D := D) (ci := 2) (v := .ref (a 8)) (C := RX2) (T := TX2) (N := 3) hx hb hts hinX2 hown hK1 hP 16 rfl rfl 1 (by decide) (hts (.fieldLink RX2 15 "KnowledgeModel$Truth" "formulas" "LKnowledgeModel$Formulas;") (List.mem_of_getElem? (i := 1) rfl)) (fun _ h9 => h9) rfl dX2_valueFromParts_23 ?_
    refine va_get (D := D) (ci := 0) (v := .ref (a 12)) (C := RX0) (T := TX0) (N := 8) hx hb hts hinX0 hown hK1 hP 8 rfl rfl 3 (by decide) (hts (.fieldLink RX2 50 "KnowledgeModel$Formulas" "secondOf" "[I") (List.mem_of_getElem? (i := 4) rfl)) (fun _ h9 => h9) rfl dX2_valueFromParts_26 ?_
    refine lv_iload_n hx hb dX2_valueFromParts_29 rfl (lv_at hl 5 rfl) ?_
    refine xiald (j := f) (q0 := 12) (t0 := 0) hx hb hK1 hP rfl rfl (by omega) (by decide) dX2_valueFromParts_30 ?_
    refine xtop (y := (-1 : Int32)) (by exact (hag 9 f (by decide)).trans hE1) ?_
    refine lv_istore (lv' := [(6, .int (-1 : Int32)), (5, .int (nI (p1 f))), (4, .int x_5), (0, .ref (a 16)), (1, .int (nI lv)), (2, .int mo), (3, .int (nI f))]) hx hb dX2_valueFromParts_31 hl (by decide) rfl (fun ls hl => ?_)
    refine lv_iload hx hb dX2_valueFromParts_33 (lv_at hl 1 rfl) ?_
    refine lv_iconst (v := (-1 : Int32)) hx hb dX2_valueFromParts_35 (by decide) ?_
    refine lv_icmp_ne (tgt := 43) hx hb dX2_valueFromParts_36 (by decide) (fun c36 => ?_) (fun c36 => ?_)
    ·
      refine lv_aload_n hx hb dX2_valueFromParts_43 rfl (lv_at hl 3 rfl) ?_
      refine va_get (D := D) (ci := 2) (v := .ref (a 17)) (C := RX2) (T := TX2) (N := 3) hx hb hts hinX2 hown hK1 hP 16 rfl rfl 2 (by decide) (hts (.fieldLink RX2 21 "KnowledgeModel$Truth" "values" "[[I") (List.mem_of_getElem? (i := 5) rfl)) (fun _ h9 => h9) rfl dX2_valueFromParts_44 ?_
      refine lv_iload_n hx hb dX2_valueFromParts_47 rfl (lv_at hl 4 rfl) ?_
      refine xaald (j := lv) (q0 := 17) (t0 := 2) (f := fun i => a (18 + i)) hx hb hK1 hP rfl rfl (by omega) (by decide) dX2_valueFromParts_48 ?_
      refine lv_iload hx hb dX2_valueFromParts_49 (lv_at hl 1 rfl) ?_
      refine xiald (j := p1 f) (q0 := (18 + lv)) (t0 := 0) hx hb hK1 hP (xg_va (by omega)) rfl (by omega) (by decide) dX2_valueFromParts_51 ?_
      refine xtop (y := (sem M0 n kd p1 p2 sb mo (p1 f))) (by exact hp1 (by omega)) ?_
      refine lv_topi (fun x_6 hx_6 => ?_)
      refine lv_istore (lv' := [(7, .int x_6), (6, .int (-1 : Int32)), (5, .int (nI (p1 f))), (4, .int x_5), (0, .ref (a 16)), (1, .int (nI lv)), (2, .int mo), (3, .int (nI f))]) hx hb dX2_valueFromParts_52 hl (by decide) rfl (fun ls hl => ?_)
      refine lv_aload_n hx hb dX2_valueFromParts_54 rfl (lv_at hl 4 rfl) ?_
      refine va_get (D := D) (ci := 2) (v := .ref (a 8)) (C := RX2) (T := TX2) (N := 3) hx hb hts hinX2 hown hK1 hP 16 rfl rfl 1 (by decide) (hts (.fieldLink RX2 15 "KnowledgeModel$Truth" "formulas" "LKnowledgeModel$Formulas;") (List.mem_of_getElem? (i := 1) rfl)) (fun _ h9 => h9) rfl dX2_valueFromParts_55 ?_
      refine va_get (D := D) (ci := 0) (v := .ref (a 9)) (C := RX0) (T := TX0) (N := 8) hx hb hts hinX0 hown hK1 hP 8 rfl rfl 0 (by decide) (hts (.fieldLink RX2 53 "KnowledgeModel$Formulas" "kindOf" "[I") (List.mem_of_getElem? (i := 6) rfl)) (fun _ h9 => h9) rfl dX2_valueFromParts_58 ?_
      refine lv_iload_n hx hb dX2_valueFromParts_61 rfl (lv_at hl 7 rfl) ?_
      refine xiald (j := f) (q0 := 9) (t0 := 0) hx hb hK1 hP rfl rfl (by omega) (by decide) dX2_valueFromParts_62 ?_
      refine xtop (y := (nI 3)) (by exact ((hag 6 f (by decide)).trans hk6).trans (congrArg nI hkd)) ?_
      refine lv_tableIn (tgt := 146) hx hb dX2_valueFromParts_63 (by decide) (by decide) rfl (by decide) ?_
      refine lv_aload_n hx hb dX2_valueFromParts_146 rfl (lv_at hl 4 rfl) ?_
      refine lv_iload hx hb dX2_valueFromParts_147 (lv_at hl 0 rfl) ?_
      refine lv_iload hx hb dX2_valueFromParts_149 (lv_at hl 3 rfl) ?_
      refine lv_iload_n hx hb dX2_valueFromParts_151 rfl (lv_at hl 6 rfl) ?_
      refine xcalli (va_runV (As := [.int x_6, .int x_5, .int mo]) (rest := []) ⟨hx, hb, hml, hown, hts⟩ (c_X2_whereAllSeenAreIn l D cs a M N n x_6 x_5 mo hn (by omega)) (cwV 3 hts gX2_valueFromParts_X2_whereAllSeenAreIn rfl rfl rfl (by decide +kernel) ⟨Nat.le_of_ble_eq_true rfl, Nat.le_of_ble_eq_true rfl⟩) (xpreV hP hK (ci := 2) 16 rfl rfl) rfl rfl hl.1 rfl (lv_room (Nat.le_of_ble_eq_true rfl)) dX2_valueFromParts_152 ⟨Nat.le_of_ble_eq_true rfl, Nat.le_of_ble_eq_true rfl⟩) hS hP (fun H locs hP hS => ?_)
      refine xtop (y := (wSeen M0 n x_6 x_5 mo)) (by exact wSeen_c hag) ?_
      subst hQ
      have hrel : (∀ i x, ¬ (12 + lv + 1 ≤ i ∧ i < 15) → M i x = M i x) := by first | (intro i x _; rfl) | exact trivial
      have hfin : (wSeen M0 n x_6 x_5 mo) = sem M0 n kd p1 p2 sb mo f := by rw [sem_eq hwp hf]; simp only [hkd, if_true, if_false, show (1 : Nat) ≠ 0 by decide, show (2 : Nat) ≠ 0 by decide, show (2 : Nat) ≠ 1 by decide, show (3 : Nat) ≠ 0 by decide, show (3 : Nat) ≠ 1 by decide, show (3 : Nat) ≠ 2 by decide, show (3 : Nat) ≠ 4 by decide, show (3 : Nat) ≠ 6 by decide, show (4 : Nat) ≠ 0 by decide, show (4 : Nat) ≠ 1 by decide, show (4 : Nat) ≠ 2 by decide, show (5 : Nat) ≠ 0 by decide, show (5 : Nat) ≠ 1 by decide, show (5 : Nat) ≠ 2 by decide, show (5 : Nat) ≠ 4 by decide, show (5 : Nat) ≠ 6 by decide, show (6 : Nat) ≠ 0 by decide, show (6 : Nat) ≠ 1 by decide, show (6 : Nat) ≠ 2 by decide, show (6 : Nat) ≠ 4 by decide, hx_5, c36, hx_6]
      exact W.iret hx hb hr (fun t ht hW => ⟨⟨_, M, rfl, ⟨hfin, hrel⟩, by rw [← ht] at hP; exact hP⟩, hS.F ht⟩) hS.2.2 dX2_valueFromParts_155
    ·
      exfalso
      exact nI_ne_m1 (by omega) c36
  ·
    obtain ⟨hB1, hB2⟩ := hB (by omega)
    have hq1 := hL.1 (by omega)
    have hE1 := hE (by omega) (by omega)
    refine lv_aload_n hx hb dX2_valueFromParts_0 rfl (lv_at hl 0 rfl) ?_
    refine va_get (D := D) (ci := 2) (v := .ref (a 8)) (C := RX2) (T := TX2) (N := 3) hx hb hts hinX2 hown hK1 hP 16 rfl rfl 1 (by decide) (hts (.fieldLink RX2 15 "KnowledgeModel$Truth" "formulas" "LKnowledgeModel$Formulas;") (List.mem_of_getElem? (i := 1) rfl)) (fun _ h9 => h9) rfl dX2_valueFromParts_1 ?_
    refine va_get (D := D) (ci := 0) (v := .ref (a 10)) (C := RX0) (T := TX0) (N := 8) hx hb hts hinX0 hown hK1 hP 8 rfl rfl 1 (by decide) (hts (.fieldLink RX2 43 "KnowledgeModel$Formulas" "subjectOf" "[I") (List.mem_of_getElem? (i := 2) rfl)) (fun _ h9 => h9) rfl dX2_valueFromParts_4 ?_
    refine lv_iload_n hx hb dX2_valueFromParts_7 rfl (lv_at hl 3 rfl) ?_
    refine xiald (j := f) (q0 := 10) (t0 := 0) hx hb hK1 hP rfl rfl (by omega) (by decide) dX2_valueFromParts_8 ?_
    refine xtop (y := (M0 7 f)) (by exact hag 7 f (by decide)) ?_
    refine lv_topi (fun x_7 hx_7 => ?_)
    refine lv_istore (lv' := [(4, .int x_7), (0, .ref (a 16)), (1, .int (nI lv)), (2, .int mo), (3, .int (nI f))]) hx hb dX2_valueFromParts_9 hl (by decide) rfl (fun ls hl => ?_)
    refine lv_aload_n hx hb dX2_valueFromParts_11 rfl (lv_at hl 1 rfl) ?_
    refine va_get (D := D) (ci := 2) (v := .ref (a 8)) (C := RX2) (T := TX2) (N := 3) hx hb hts hinX2 hown hK1 hP 16 rfl rfl 1 (by decide) (hts (.fieldLink RX2 15 "KnowledgeModel$Truth" "formulas" "LKnowledgeModel$Formulas;") (List.mem_of_getElem? (i := 1) rfl)) (fun _ h9 => h9) rfl dX2_valueFromParts_12 ?_
    refine va_get (D := D) (ci := 0) (v := .ref (a 11)) (C := RX0) (T := TX0) (N := 8) hx hb hts hinX0 hown hK1 hP 8 rfl rfl 2 (by decide) (hts (.fieldLink RX2 47 "KnowledgeModel$Formulas" "firstOf" "[I") (List.mem_of_getElem? (i := 3) rfl)) (fun _ h9 => h9) rfl dX2_valueFromParts_15 ?_
    refine lv_iload_n hx hb dX2_valueFromParts_18 rfl (lv_at hl 4 rfl) ?_
    refine xiald (j := f) (q0 := 11) (t0 := 0) hx hb hK1 hP rfl rfl (by omega) (by decide) dX2_valueFromParts_19 ?_
    refine xtop (y := (nI (p1 f))) (by exact (hag 8 f (by decide)).trans hB1) ?_
    refine lv_istore (lv' := [(5, .int (nI (p1 f))), (4, .int x_7), (0, .ref (a 16)), (1, .int (nI lv)), (2, .int mo), (3, .int (nI f))]) hx hb dX2_valueFromParts_20 hl (by decide) rfl (fun ls hl => ?_)
    refine lv_aload_n hx hb dX2_valueFromParts_22 rfl (lv_at hl 2 rfl) ?_
    refine va_get (D := D) (ci := 2) (v := .ref (a 8)) (C := RX2) (T := TX2) (N := 3) hx hb hts hinX2 hown hK1 hP 16 rfl rfl 1 (by decide) (hts (.fieldLink RX2 15 "KnowledgeModel$Truth" "formulas" "LKnowledgeModel$Formulas;") (List.mem_of_getElem? (i := 1) rfl)) (fun _ h9 => h9) rfl dX2_valueFromParts_23 ?_
    refine va_get (D := D) (ci := 0) (v := .ref (a 12)) (C := RX0) (T := TX0) (N := 8) hx hb hts hinX0 hown hK1 hP 8 rfl rfl 3 (by decide) (hts (.fieldLink RX2 50 "KnowledgeModel$Formulas" "secondOf" "[I") (List.mem_of_getElem? (i := 4) rfl)) (fun _ h9 => h9) rfl dX2_valueFromParts_26 ?_
    refine lv_iload_n hx hb dX2_valueFromParts_29 rfl (lv_at hl 5 rfl) ?_
    refine xiald (j := f) (q0 := 12) (t0 := 0) hx hb hK1 hP rfl rfl (by omega) (by decide) dX2_valueFromParts_30 ?_
    refine xtop (y := (-1 : Int32)) (by exact (hag 9 f (by decide)).trans hE1) ?_
    refine lv_istore (lv' := [(6, .int (-1 : Int32)), (5, .int (nI (p1 f))), (4, .int x_7), (0, .ref (a 16)), (1, .int (nI lv)), (2, .int mo), (3, .int (nI f))]) hx hb dX2_valueFromParts_31 hl (by decide) rfl (fun ls hl => ?_)
    refine lv_iload hx hb dX2_valueFromParts_33 (lv_at hl 1 rfl) ?_
    refine lv_iconst (v := (-1 : Int32)) hx hb dX2_valueFromParts_35 (by decide) ?_
    refine lv_icmp_ne (tgt := 43) hx hb dX2_valueFromParts_36 (by decide) (fun c36 => ?_) (fun c36 => ?_)
    ·
      refine lv_aload_n hx hb dX2_valueFromParts_43 rfl (lv_at hl 3 rfl) ?_
      refine va_get (D := D) (ci := 2) (v := .ref (a 17)) (C := RX2) (T := TX2) (N := 3) hx hb hts hinX2 hown hK1 hP 16 rfl rfl 2 (by decide) (hts (.fieldLink RX2 21 "KnowledgeModel$Truth" "values" "[[I") (List.mem_of_getElem? (i := 5) rfl)) (fun _ h9 => h9) rfl dX2_valueFromParts_44 ?_
      refine lv_iload_n hx hb dX2_valueFromParts_47 rfl (lv_at hl 4 rfl) ?_
      refine xaald (j := lv) (q0 := 17) (t0 := 2) (f := fun i => a (18 + i)) hx hb hK1 hP rfl rfl (by omega) (by decide) dX2_valueFromParts_48 ?_
      refine lv_iload hx hb dX2_valueFromParts_49 (lv_at hl 1 rfl) ?_
      refine xiald (j := p1 f) (q0 := (18 + lv)) (t0 := 0) hx hb hK1 hP (xg_va (by omega)) rfl (by omega) (by decide) dX2_valueFromParts_51 ?_
      refine xtop (y := (sem M0 n kd p1 p2 sb mo (p1 f))) (by exact hp1 (by omega)) ?_
      refine lv_topi (fun x_8 hx_8 => ?_)
      refine lv_istore (lv' := [(7, .int x_8), (6, .int (-1 : Int32)), (5, .int (nI (p1 f))), (4, .int x_7), (0, .ref (a 16)), (1, .int (nI lv)), (2, .int mo), (3, .int (nI f))]) hx hb dX2_valueFromParts_52 hl (by decide) rfl (fun ls hl => ?_)
      refine lv_aload_n hx hb dX2_valueFromParts_54 rfl (lv_at hl 4 rfl) ?_
      refine va_get (D := D) (ci := 2) (v := .ref (a 8)) (C := RX2) (T := TX2) (N := 3) hx hb hts hinX2 hown hK1 hP 16 rfl rfl 1 (by decide) (hts (.fieldLink RX2 15 "KnowledgeModel$Truth" "formulas" "LKnowledgeModel$Formulas;") (List.mem_of_getElem? (i := 1) rfl)) (fun _ h9 => h9) rfl dX2_valueFromParts_55 ?_
      refine va_get (D := D) (ci := 0) (v := .ref (a 9)) (C := RX0) (T := TX0) (N := 8) hx hb hts hinX0 hown hK1 hP 8 rfl rfl 0 (by decide) (hts (.fieldLink RX2 53 "KnowledgeModel$Formulas" "kindOf" "[I") (List.mem_of_getElem? (i := 6) rfl)) (fun _ h9 => h9) rfl dX2_valueFromParts_58 ?_
      refine lv_iload_n hx hb dX2_valueFromParts_61 rfl (lv_at hl 7 rfl) ?_
      refine xiald (j := f) (q0 := 9) (t0 := 0) hx hb hK1 hP rfl rfl (by omega) (by decide) dX2_valueFromParts_62 ?_
      refine xtop (y := (nI 4)) (by exact ((hag 6 f (by decide)).trans hk6).trans (congrArg nI hkd)) ?_
      refine lv_tableIn (tgt := 156) hx hb dX2_valueFromParts_63 (by decide) (by decide) rfl (by decide) ?_
      refine lv_aload_n hx hb dX2_valueFromParts_156 rfl (lv_at hl 4 rfl) ?_
      refine lv_iload hx hb dX2_valueFromParts_157 (lv_at hl 0 rfl) ?_
      refine lv_iload hx hb dX2_valueFromParts_159 (lv_at hl 3 rfl) ?_
      refine lv_iload_n hx hb dX2_valueFromParts_161 rfl (lv_at hl 6 rfl) ?_
      refine xcalli (va_runV (As := [.int x_8, .int x_7, .int mo]) (rest := []) ⟨hx, hb, hml, hown, hts⟩ (c_X2_whereAllReachedAreIn l D cs a M N n x_8 x_7 mo hn (by omega)) (cwV 3 hts gX2_valueFromParts_X2_whereAllReachedAreIn rfl rfl rfl (by decide +kernel) ⟨Nat.le_of_ble_eq_true rfl, Nat.le_of_ble_eq_true rfl⟩) (xpreV hP hK (ci := 2) 16 rfl rfl) rfl rfl hl.1 rfl (lv_room (Nat.le_of_ble_eq_true rfl)) dX2_valueFromParts_162 ⟨Nat.le_of_ble_eq_true rfl, Nat.le_of_ble_eq_true rfl⟩) hS hP (fun H locs hP hS => ?_)
      refine xtop (y := (wReach M0 n x_8 x_7 mo)) (by exact wReach_c hag) ?_
      subst hQ
      have hrel : (∀ i x, ¬ (12 + lv + 1 ≤ i ∧ i < 15) → M i x = M i x) := by first | (intro i x _; rfl) | exact trivial
      have hfin : (wReach M0 n x_8 x_7 mo) = sem M0 n kd p1 p2 sb mo f := by rw [sem_eq hwp hf]; simp only [hkd, if_true, if_false, show (1 : Nat) ≠ 0 by decide, show (2 : Nat) ≠ 0 by decide, show (2 : Nat) ≠ 1 by decide, show (3 : Nat) ≠ 0 by decide, show (3 : Nat) ≠ 1 by decide, show (3 : Nat) ≠ 2 by decide, show (3 : Nat) ≠ 4 by decide, show (3 : Nat) ≠ 6 by decide, show (4 : Nat) ≠ 0 by decide, show (4 : Nat) ≠ 1 by decide, show (4 : Nat) ≠ 2 by decide, show (5 : Nat) ≠ 0 by decide, show (5 : Nat) ≠ 1 by decide, show (5 : Nat) ≠ 2 by decide, show (5 : Nat) ≠ 4 by decide, show (5 : Nat) ≠ 6 by decide, show (6 : Nat) ≠ 0 by decide, show (6 : Nat) ≠ 1 by decide, show (6 : Nat) ≠ 2 by decide, show (6 : Nat) ≠ 4 by decide, hx_7, c36, hx_8]
      exact W.iret hx hb hr (fun t ht hW => ⟨⟨_, M, rfl, ⟨hfin, hrel⟩, by rw [← ht] at hP; exact hP⟩, hS.F ht⟩) hS.2.2 dX2_valueFromParts_165
    ·
      exfalso
      exact nI_ne_m1 (by omega) c36
  ·
    obtain ⟨hB1, hB2⟩ := hB (by omega)
    have hq1 := hL.1 (by omega)
    have hE1 := hE (by omega) (by omega)
    refine lv_aload_n hx hb dX2_valueFromParts_0 rfl (lv_at hl 0 rfl) ?_
    refine va_get (D := D) (ci := 2) (v := .ref (a 8)) (C := RX2) (T := TX2) (N := 3) hx hb hts hinX2 hown hK1 hP 16 rfl rfl 1 (by decide) (hts (.fieldLink RX2 15 "KnowledgeModel$Truth" "formulas" "LKnowledgeModel$Formulas;") (List.mem_of_getElem? (i := 1) rfl)) (fun _ h9 => h9) rfl dX2_valueFromParts_1 ?_
    refine va_get (D := D) (ci := 0) (v := .ref (a 10)) (C := RX0) (T := TX0) (N := 8) hx hb hts hinX0 hown hK1 hP 8 rfl rfl 1 (by decide) (hts (.fieldLink RX2 43 "KnowledgeModel$Formulas" "subjectOf" "[I") (List.mem_of_getElem? (i := 2) rfl)) (fun _ h9 => h9) rfl dX2_valueFromParts_4 ?_
    refine lv_iload_n hx hb dX2_valueFromParts_7 rfl (lv_at hl 3 rfl) ?_
    refine xiald (j := f) (q0 := 10) (t0 := 0) hx hb hK1 hP rfl rfl (by omega) (by decide) dX2_valueFromParts_8 ?_
    refine xtop (y := (M0 7 f)) (by exact hag 7 f (by decide)) ?_
    refine lv_topi (fun x_9 hx_9 => ?_)
    refine lv_istore (lv' := [(4, .int x_9), (0, .ref (a 16)), (1, .int (nI lv)), (2, .int mo), (3, .int (nI f))]) hx hb dX2_valueFromParts_9 hl (by decide) rfl (fun ls hl => ?_)
    refine lv_aload_n hx hb dX2_valueFromParts_11 rfl (lv_at hl 1 rfl) ?_
    refine va_get (D := D) (ci := 2) (v := .ref (a 8)) (C := RX2) (T := TX2) (N := 3) hx hb hts hinX2 hown hK1 hP 16 rfl rfl 1 (by decide) (hts (.fieldLink RX2 15 "KnowledgeModel$Truth" "formulas" "LKnowledgeModel$Formulas;") (List.mem_of_getElem? (i := 1) rfl)) (fun _ h9 => h9) rfl dX2_valueFromParts_12 ?_
    refine va_get (D := D) (ci := 0) (v := .ref (a 11)) (C := RX0) (T := TX0) (N := 8) hx hb hts hinX0 hown hK1 hP 8 rfl rfl 2 (by decide) (hts (.fieldLink RX2 47 "KnowledgeModel$Formulas" "firstOf" "[I") (List.mem_of_getElem? (i := 3) rfl)) (fun _ h9 => h9) rfl dX2_valueFromParts_15 ?_
    refine lv_iload_n hx hb dX2_valueFromParts_18 rfl (lv_at hl 4 rfl) ?_
    refine xiald (j := f) (q0 := 11) (t0 := 0) hx hb hK1 hP rfl rfl (by omega) (by decide) dX2_valueFromParts_19 ?_
    refine xtop (y := (nI (p1 f))) (by exact (hag 8 f (by decide)).trans hB1) ?_
    refine lv_istore (lv' := [(5, .int (nI (p1 f))), (4, .int x_9), (0, .ref (a 16)), (1, .int (nI lv)), (2, .int mo), (3, .int (nI f))]) hx hb dX2_valueFromParts_20 hl (by decide) rfl (fun ls hl => ?_)
    refine lv_aload_n hx hb dX2_valueFromParts_22 rfl (lv_at hl 2 rfl) ?_
    refine va_get (D := D) (ci := 2) (v := .ref (a 8)) (C := RX2) (T := TX2) (N := 3) hx hb hts hinX2 hown hK1 hP 16 rfl rfl 1 (by decide) (hts (.fieldLink RX2 15 "KnowledgeModel$Truth" "formulas" "LKnowledgeModel$Formulas;") (List.mem_of_getElem? (i := 1) rfl)) (fun _ h9 => h9) rfl dX2_valueFromParts_23 ?_
    refine va_get (D := D) (ci := 0) (v := .ref (a 12)) (C := RX0) (T := TX0) (N := 8) hx hb hts hinX0 hown hK1 hP 8 rfl rfl 3 (by decide) (hts (.fieldLink RX2 50 "KnowledgeModel$Formulas" "secondOf" "[I") (List.mem_of_getElem? (i := 4) rfl)) (fun _ h9 => h9) rfl dX2_valueFromParts_26 ?_
    refine lv_iload_n hx hb dX2_valueFromParts_29 rfl (lv_at hl 5 rfl) ?_
    refine xiald (j := f) (q0 := 12) (t0 := 0) hx hb hK1 hP rfl rfl (by omega) (by decide) dX2_valueFromParts_30 ?_
    refine xtop (y := (-1 : Int32)) (by exact (hag 9 f (by decide)).trans hE1) ?_
    refine lv_istore (lv' := [(6, .int (-1 : Int32)), (5, .int (nI (p1 f))), (4, .int x_9), (0, .ref (a 16)), (1, .int (nI lv)), (2, .int mo), (3, .int (nI f))]) hx hb dX2_valueFromParts_31 hl (by decide) rfl (fun ls hl => ?_)
    refine lv_iload hx hb dX2_valueFromParts_33 (lv_at hl 1 rfl) ?_
    refine lv_iconst (v := (-1 : Int32)) hx hb dX2_valueFromParts_35 (by decide) ?_
    refine lv_icmp_ne (tgt := 43) hx hb dX2_valueFromParts_36 (by decide) (fun c36 => ?_) (fun c36 => ?_)
    ·
      refine lv_aload_n hx hb dX2_valueFromParts_43 rfl (lv_at hl 3 rfl) ?_
      refine va_get (D := D) (ci := 2) (v := .ref (a 17)) (C := RX2) (T := TX2) (N := 3) hx hb hts hinX2 hown hK1 hP 16 rfl rfl 2 (by decide) (hts (.fieldLink RX2 21 "KnowledgeModel$Truth" "values" "[[I") (List.mem_of_getElem? (i := 5) rfl)) (fun _ h9 => h9) rfl dX2_valueFromParts_44 ?_
      refine lv_iload_n hx hb dX2_valueFromParts_47 rfl (lv_at hl 4 rfl) ?_
      refine xaald (j := lv) (q0 := 17) (t0 := 2) (f := fun i => a (18 + i)) hx hb hK1 hP rfl rfl (by omega) (by decide) dX2_valueFromParts_48 ?_
      refine lv_iload hx hb dX2_valueFromParts_49 (lv_at hl 1 rfl) ?_
      refine xiald (j := p1 f) (q0 := (18 + lv)) (t0 := 0) hx hb hK1 hP (xg_va (by omega)) rfl (by omega) (by decide) dX2_valueFromParts_51 ?_
      refine xtop (y := (sem M0 n kd p1 p2 sb mo (p1 f))) (by exact hp1 (by omega)) ?_
      refine lv_topi (fun x_10 hx_10 => ?_)
      refine lv_istore (lv' := [(7, .int x_10), (6, .int (-1 : Int32)), (5, .int (nI (p1 f))), (4, .int x_9), (0, .ref (a 16)), (1, .int (nI lv)), (2, .int mo), (3, .int (nI f))]) hx hb dX2_valueFromParts_52 hl (by decide) rfl (fun ls hl => ?_)
      refine lv_aload_n hx hb dX2_valueFromParts_54 rfl (lv_at hl 4 rfl) ?_
      refine va_get (D := D) (ci := 2) (v := .ref (a 8)) (C := RX2) (T := TX2) (N := 3) hx hb hts hinX2 hown hK1 hP 16 rfl rfl 1 (by decide) (hts (.fieldLink RX2 15 "KnowledgeModel$Truth" "formulas" "LKnowledgeModel$Formulas;") (List.mem_of_getElem? (i := 1) rfl)) (fun _ h9 => h9) rfl dX2_valueFromParts_55 ?_
      refine va_get (D := D) (ci := 0) (v := .ref (a 9)) (C := RX0) (T := TX0) (N := 8) hx hb hts hinX0 hown hK1 hP 8 rfl rfl 0 (by decide) (hts (.fieldLink RX2 53 "KnowledgeModel$Formulas" "kindOf" "[I") (List.mem_of_getElem? (i := 6) rfl)) (fun _ h9 => h9) rfl dX2_valueFromParts_58 ?_
      refine lv_iload_n hx hb dX2_valueFromParts_61 rfl (lv_at hl 7 rfl) ?_
      refine xiald (j := f) (q0 := 9) (t0 := 0) hx hb hK1 hP rfl rfl (by omega) (by decide) dX2_valueFromParts_62 ?_
      refine xtop (y := (nI 5)) (by exact ((hag 6 f (by decide)).trans hk6).trans (congrArg nI hkd)) ?_
      refine lv_tableIn (tgt := 146) hx hb dX2_valueFromParts_63 (by decide) (by decide) rfl (by decide) ?_
      refine lv_aload_n hx hb dX2_valueFromParts_146 rfl (lv_at hl 4 rfl) ?_
      refine lv_iload hx hb dX2_valueFromParts_147 (lv_at hl 0 rfl) ?_
      refine lv_iload hx hb dX2_valueFromParts_149 (lv_at hl 3 rfl) ?_
      refine lv_iload_n hx hb dX2_valueFromParts_151 rfl (lv_at hl 6 rfl) ?_
      refine xcalli (va_runV (As := [.int x_10, .int x_9, .int mo]) (rest := []) ⟨hx, hb, hml, hown, hts⟩ (c_X2_whereAllSeenAreIn l D cs a M N n x_10 x_9 mo hn (by omega)) (cwV 3 hts gX2_valueFromParts_X2_whereAllSeenAreIn rfl rfl rfl (by decide +kernel) ⟨Nat.le_of_ble_eq_true rfl, Nat.le_of_ble_eq_true rfl⟩) (xpreV hP hK (ci := 2) 16 rfl rfl) rfl rfl hl.1 rfl (lv_room (Nat.le_of_ble_eq_true rfl)) dX2_valueFromParts_152 ⟨Nat.le_of_ble_eq_true rfl, Nat.le_of_ble_eq_true rfl⟩) hS hP (fun H locs hP hS => ?_)
      refine xtop (y := (wSeen M0 n x_10 x_9 mo)) (by exact wSeen_c hag) ?_
      subst hQ
      have hrel : (∀ i x, ¬ (12 + lv + 1 ≤ i ∧ i < 15) → M i x = M i x) := by first | (intro i x _; rfl) | exact trivial
      have hfin : (wSeen M0 n x_10 x_9 mo) = sem M0 n kd p1 p2 sb mo f := by rw [sem_eq hwp hf]; simp only [hkd, if_true, if_false, show (1 : Nat) ≠ 0 by decide, show (2 : Nat) ≠ 0 by decide, show (2 : Nat) ≠ 1 by decide, show (3 : Nat) ≠ 0 by decide, show (3 : Nat) ≠ 1 by decide, show (3 : Nat) ≠ 2 by decide, show (3 : Nat) ≠ 4 by decide, show (3 : Nat) ≠ 6 by decide, show (4 : Nat) ≠ 0 by decide, show (4 : Nat) ≠ 1 by decide, show (4 : Nat) ≠ 2 by decide, show (5 : Nat) ≠ 0 by decide, show (5 : Nat) ≠ 1 by decide, show (5 : Nat) ≠ 2 by decide, show (5 : Nat) ≠ 4 by decide, show (5 : Nat) ≠ 6 by decide, show (6 : Nat) ≠ 0 by decide, show (6 : Nat) ≠ 1 by decide, show (6 : Nat) ≠ 2 by decide, show (6 : Nat) ≠ 4 by decide, hx_9, c36, hx_10]
      exact W.iret hx hb hr (fun t ht hW => ⟨⟨_, M, rfl, ⟨hfin, hrel⟩, by rw [← ht] at hP; exact hP⟩, hS.F ht⟩) hS.2.2 dX2_valueFromParts_155
    ·
      exfalso
      exact nI_ne_m1 (by omega) c36
  ·
    exfalso; have := (hD6 hkd).2; omega

set_option maxHeartbeats 4000000 in
set_option maxRecDepth 100000 in
theorem c_X2_valueIn_2 (l : Launch) (D : va_G) (cs : Nat → ClassId) (a : Nat → Nat) (M : Nat → Nat → Int32) (N : Nat → Int64) (sz : Nat) (hI : kI a 29)  (n : Nat) (nf : Nat) (kd : Nat → Nat) (p1 : Nat → Nat) (p2 : Nat → Nat) (ns : Nat → Nat) (sb : Nat → Nat) (M0 : Nat → Nat → Int32) (lv : Nat) (mo : Int32) (f : Nat) (hn : M 0 0 = nI n) (hn24 : n ≤ 24) (hag : Ag M M0) (hwf : WFX M0 N nf kd p1 p2 ns sb) (hf40 : nf ≤ 40) (hlv : lv = 2) (hf : f < nf) (hns : ns f + lv ≤ 2) : Met l yX2_valueIn wsX2_valueIn ({ frames := 5, cells := 0, slots := 0, locals := 130 } : Room) (va_Pc [.ref (a 16), .int (nI lv), .int mo, .int (nI f)] (XBs D cs (xc cs a M N) sz)) (va_Qi (fun r (u : Nat → Nat → Int32) => r = sem M0 n kd p1 p2 sb mo f ∧ (∀ i x, ¬ (12 + lv ≤ i ∧ i < 15) → u i x = M i x)) (fun (u : Nat → Nat → Int32) t => va_P D vwCl (xc cs a u N) t.heap) (kA a 29 sz)) 0 0 (kA a 29 sz) := by
  refine Met.ofW (cc := cX2_valueIn) (maxL := 7) (ret := (some .int)) (by decide) rfl ?_
  intro p e s m args below meth c s₁ B hml hv
  obtain ⟨rfl, hsz, hP, hK⟩ := hv
  have hx := B.exec
  have hb := B.bytes
  have hr := B.returns
  have hts := atoms_spec (ws := wsX2_valueIn) B.pre
  have hown : s.vm.findClass RX2 = some m.cls := findClass_of_methodNamed B.named
  have hlocks := B.notSynchronized
  have hK1 := hK.1
  have hinX2 : ∀ w ∈ wsX20, w ∈ wsX2_valueIn := fun w h => List.mem_cons_of_mem _ (List.mem_append_left _ (List.mem_append_left _ (List.mem_append_right _ h)))
  have hinX0 : ∀ w ∈ wsX00, w ∈ wsX2_valueIn := fun w h => List.mem_cons_of_mem _ (List.mem_append_left _ (List.mem_append_right _ h))
  have hinX3 : ∀ w ∈ wsX30, w ∈ wsX2_valueIn := fun w h => List.mem_cons_of_mem _ (List.mem_append_right _ h)
  subst hsz
  have hS : va_S (kA a 29 s.heap.size) s.heap s.heap [] := va_S.rf
  have hl := lv_entry ([.ref (a 16), .int (nI lv), .int mo, .int (nI f)]) (n := 7) (Nat.le_of_ble_eq_true rfl)
  rw [lg_entry_eq]
  generalize (lg_sl ([.ref (a 16), .int (nI lv), .int mo, .int (nI f)]) ++ List.replicate (7 - (lg_sl ([.ref (a 16), .int (nI lv), .int mo, .int (nI f)])).length) Slot.unset).toArray = ls at hl ⊢
  have hl : lv_has ls 7 [(0, .ref (a 16)), (1, .int (nI lv)), (2, .int mo), (3, .int (nI f))] := hl
  refine W_Q (fun Q hQ => ?_)
  show W p l e ({ frames := 5, cells := 0, slots := 0, locals := 130 } : Room) s m ([.ref (a 16), .int (nI lv), .int mo, .int (nI f)] : List Value).toArray below meth c s.heap [] 0 0 Q (F0 m 0 ls [])
  obtain ⟨-, -, -, -, -, -, hF1, hF2⟩ := hwf.2 f hf
  refine lv_iload_n hx hb dX2_valueIn_0 rfl (lv_at hl 1 rfl) ?_
  refine lv_iconst (v := (nI 2)) hx hb dX2_valueIn_1 (by decide) ?_
  refine lv_icmp_le (tgt := 7) hx hb dX2_valueIn_2 (by decide) (fun c2 => ?_) (fun c2 => ?_)
  ·
    replace c2 : lv ≤ 2 := k_let c2 (by omega) (by omega)
    refine lv_aload_n hx hb dX2_valueIn_7 rfl (lv_at hl 0 rfl) ?_
    refine va_get (D := D) (ci := 2) (v := .ref (a 8)) (C := RX2) (T := TX2) (N := 3) hx hb hts hinX2 hown hK1 hP 16 rfl rfl 1 (by decide) (hts (.fieldLink RX2 15 "KnowledgeModel$Truth" "formulas" "LKnowledgeModel$Formulas;") (List.mem_of_getElem? (i := 1) rfl)) (fun _ h9 => h9) rfl dX2_valueIn_8 ?_
    refine va_get (D := D) (ci := 0) (v := .ref (a 15)) (C := RX0) (T := TX0) (N := 8) hx hb hts hinX0 hown hK1 hP 8 rfl rfl 6 (by decide) (hts (.fieldLink RX2 34 "KnowledgeModel$Formulas" "neededFor" "[J") (List.mem_of_getElem? (i := 2) rfl)) (fun _ h9 => h9) rfl dX2_valueIn_11 ?_
    refine lv_iload_n hx hb dX2_valueIn_14 rfl (lv_at hl 3 rfl) ?_
    refine xlald (j := f) (q0 := 15) (t0 := 1) hx hb hK1 hP rfl rfl (by omega) (by decide) dX2_valueIn_15 ?_
    refine lv_lstore (lv' := [(4, .long (N f)), (0, .ref (a 16)), (1, .int (nI lv)), (2, .int mo), (3, .int (nI f))]) hx hb dX2_valueIn_16 hl (by decide) rfl (fun ls hl => ?_)
    refine lv_iconst (v := (nI 0)) hx hb dX2_valueIn_18 (by decide) ?_
    refine lv_istore (lv' := [(6, .int (nI 0)), (4, .long (N f)), (0, .ref (a 16)), (1, .int (nI lv)), (2, .int mo), (3, .int (nI f))]) hx hb dX2_valueIn_19 hl (by decide) rfl (fun ls hl => ?_)
    have cut21 : ∀ (f21 : Nat) (g : Nat) (Mg : Nat → Nat → Int32) (hg : g ≤ f + 1) (hVR : (∀ h, h < g → nb (N f) h = true → Mg (12 + lv) h = sem M0 n kd p1 p2 sb mo h) ∧ (∀ i x, ¬ (12 + lv ≤ i ∧ i < 15) → Mg i x = M i x)) (hng : Mg 0 0 = nI n), f + 2 ≤ g + f21 → ∀ (H : Heap) (locs : List Loc), va_P D vwCl (xc cs a Mg N) H → va_S (kA a 29 s.heap.size) s.heap H locs → ∀ (ls : Array Slot), lv_has ls 7 [(0, .ref (a 16)), (1, .int (nI lv)), (2, .int mo), (3, .int (nI f)), (4, .long (N f)), (6, .int (nI g))] → W p l e ({ frames := 5, cells := 0, slots := 0, locals := 130 } : Room) s m ([.ref (a 16), .int (nI lv), .int mo, .int (nI f)] : List Value).toArray below meth c H locs 0 0 Q (F0 m 21 ls []) := by
      intro f21
      induction f21 with
      | zero => intro g Mg hg hVR hng hfu21; exact absurd hfu21 (by omega)
      | succ f21 cut21 =>
        intro g Mg hg hVR hng hfu21 H locs hP hS ls hl
        have hagg : Ag Mg M0 := fun i x hi => (hVR.2 i x (by omega)).trans (hag i x hi)
        refine lv_iload hx hb dX2_valueIn_21 (lv_at hl 5 rfl) ?_
        refine lv_iload_n hx hb dX2_valueIn_23 rfl (lv_at hl 3 rfl) ?_
        refine lv_icmp_gt (tgt := 62) hx hb dX2_valueIn_24 (by decide) (fun c24 => ?_) (fun c24 => ?_)
        ·
          replace c24 : f < g := k_gtt c24 (by omega) (by omega)
          refine lv_aload_n hx hb dX2_valueIn_62 rfl (lv_at hl 0 rfl) ?_
          refine va_get (D := D) (ci := 2) (v := .ref (a 17)) (C := RX2) (T := TX2) (N := 3) hx hb hts hinX2 hown hK1 hP 16 rfl rfl 2 (by decide) (hts (.fieldLink RX2 21 "KnowledgeModel$Truth" "values" "[[I") (List.mem_of_getElem? (i := 3) rfl)) (fun _ h9 => h9) rfl dX2_valueIn_63 ?_
          refine lv_iload_n hx hb dX2_valueIn_66 rfl (lv_at hl 1 rfl) ?_
          refine xaald (j := lv) (q0 := 17) (t0 := 2) (f := fun i => a (18 + i)) hx hb hK1 hP rfl rfl (by omega) (by decide) dX2_valueIn_67 ?_
          refine lv_iload_n hx hb dX2_valueIn_68 rfl (lv_at hl 3 rfl) ?_
          refine xiald (j := f) (q0 := (18 + lv)) (t0 := 0) hx hb hK1 hP (xg_va (by omega)) rfl (by omega) (by decide) dX2_valueIn_69 ?_
          refine xtop (y := (sem M0 n kd p1 p2 sb mo f)) (by exact hVR.1 f (by omega) hF1) ?_
          subst hQ
          have hrel : (∀ i x, ¬ (12 + lv ≤ i ∧ i < 15) → Mg i x = M i x) := by exact hVR.2
          have hfin : (sem M0 n kd p1 p2 sb mo f) = sem M0 n kd p1 p2 sb mo f := by rfl
          exact W.iret hx hb hr (fun t ht hW => ⟨⟨_, Mg, rfl, ⟨hfin, hrel⟩, by rw [← ht] at hP; exact hP⟩, hS.F ht⟩) hS.2.2 dX2_valueIn_70
        ·
          replace c24 : g ≤ f := k_gtf c24 (by omega) (by omega)
          refine lv_lload hx hb dX2_valueIn_27 (lv_at hl 4 rfl) ?_
          refine lv_iload hx hb dX2_valueIn_29 (lv_at hl 5 rfl) ?_
          refine lv_lshr (v := (N f) >>> ((nI g).toInt64 &&& 63)) hx hb dX2_valueIn_31 rfl ?_
          refine lv_lconst (v := 1) hx hb dX2_valueIn_32 (by decide) ?_
          refine lv_land hx hb dX2_valueIn_33 ?_
          refine lv_lconst (v := 0) hx hb dX2_valueIn_34 (by decide) ?_
          refine W.lcmp hx hb dX2_valueIn_35 ?_
          refine xtop (y := bI (nb (N f) g)) (nb_bI _ (by omega)) ?_
          refine lv_if_eq (tgt := 56) hx hb dX2_valueIn_36 (by decide) (fun c36 => ?_) (fun c36 => ?_)
          ·
            replace c36 := bI_0 c36
            refine lv_iinc (v := (nI (g + 1))) (lv' := [(6, .int (nI (g + 1))), (0, .ref (a 16)), (1, .int (nI lv)), (2, .int mo), (3, .int (nI f)), (4, .long (N f))]) hx hb dX2_valueIn_56 hl (k := 5) rfl (nI_add g 1) (by decide) rfl (fun ls hl => ?_)
            refine lv_goto (tgt := 21) hx hb dX2_valueIn_59 (by decide) ?_
            exact cut21 (g + 1) Mg (by omega) (by first | (refine ⟨fun h hh hb2 => ?_, hVR.2⟩; rcases Nat.lt_or_ge h g with qq | qq; exact hVR.1 h qq hb2; (have he : h = g := by omega); subst he; rw [c36] at hb2; cases hb2) | (simp only [fo_0, c24, c36]; exact VR_s hVR (by omega) trivial)) (by first | exact hng | assumption) (by omega) _ _ hP hS ls (lcons (lcons (lcons (lcons (lcons (lcons (lzero hl) hl 0 rfl rfl) hl 5 rfl rfl) hl 4 rfl rfl) hl 3 rfl rfl) hl 2 rfl rfl) hl 1 rfl rfl)
          ·
            replace c36 := bI_n0 c36
            refine lv_aload_n hx hb dX2_valueIn_39 rfl (lv_at hl 0 rfl) ?_
            refine va_get (D := D) (ci := 2) (v := .ref (a 17)) (C := RX2) (T := TX2) (N := 3) hx hb hts hinX2 hown hK1 hP 16 rfl rfl 2 (by decide) (hts (.fieldLink RX2 21 "KnowledgeModel$Truth" "values" "[[I") (List.mem_of_getElem? (i := 3) rfl)) (fun _ h9 => h9) rfl dX2_valueIn_40 ?_
            refine lv_iload_n hx hb dX2_valueIn_43 rfl (lv_at hl 1 rfl) ?_
            refine xaald (j := lv) (q0 := 17) (t0 := 2) (f := fun i => a (18 + i)) hx hb hK1 hP rfl rfl (by omega) (by decide) dX2_valueIn_44 ?_
            refine lv_iload hx hb dX2_valueIn_45 (lv_at hl 5 rfl) ?_
            refine lv_aload_n hx hb dX2_valueIn_47 rfl (lv_at hl 0 rfl) ?_
            refine lv_iload_n hx hb dX2_valueIn_48 rfl (lv_at hl 1 rfl) ?_
            refine lv_iload_n hx hb dX2_valueIn_49 rfl (lv_at hl 2 rfl) ?_
            refine lv_iload hx hb dX2_valueIn_50 (lv_at hl 5 rfl) ?_
            refine xcallwi (va_runV (As := [.int (nI lv), .int mo, .int (nI g)]) (rest := [.int (nI g), .ref (a (18 + lv))]) ⟨hx, hb, hml, hown, hts⟩ (c_X2_valueFromParts_2 l D cs a Mg N _ hI n nf kd p1 p2 ns sb M0 lv mo g hng (by omega) hagg hwf hf40 hlv (by omega) (by have := (hF2 g (by omega) c36).1; omega) (fun hz => hVR.1 (p1 g) ((hwf.1 g (by omega)).1 hz) ((hF2 g (by omega) c36).2.1 hz)) (fun hz => hVR.1 (p2 g) ((hwf.1 g (by omega)).2 (Or.inl hz)) ((hF2 g (by omega) c36).2.2 hz))) (cwV 3 hts gX2_valueIn_X2_valueFromParts rfl rfl rfl (by decide +kernel) ⟨Nat.le_of_ble_eq_true rfl, Nat.le_of_ble_eq_true rfl⟩) (xpreVs hP hK (ci := 2) 16 rfl rfl) rfl rfl hl.1 rfl (lv_room (Nat.le_of_ble_eq_true rfl)) dX2_valueIn_52 ⟨Nat.le_of_ble_eq_true rfl, Nat.le_of_ble_eq_true rfl⟩) hS (kAle hS.1) (fun u_1 H locs hu_1 hP _ _ hS => ?_)
            have hP : va_P D vwCl (xc cs a u_1 N) H := hP
            have hk_2 : u_1 0 0 = nI n := by rw [hu_1 0 0 (by omega)]; exact hng
            refine lv_topi (fun x_3 hx_3 => ?_)
            refine xiast (j := g) (q0 := (18 + lv)) (t0 := 0) (ws' := xc cs a (wr u_1 (12 + lv) g x_3) N) hx hb hK1 hP (xD hI) hS (xg_va (by omega)) rfl (by omega) (by decide) (xs_va (by omega)) dX2_valueIn_55 (fun H locs hP hS => ?_)
            obtain ⟨M_4, hM_4⟩ : ∃ z, z = wr u_1 (12 + lv) g x_3 := ⟨_, rfl⟩
            rw [← hM_4] at hP
            have hk_5 : M_4 0 0 = nI n := by rw [hM_4]; exact (wr_ne (Or.inl (by omega))).trans hk_2
            refine lv_iinc (v := (nI (g + 1))) (lv' := [(6, .int (nI (g + 1))), (0, .ref (a 16)), (1, .int (nI lv)), (2, .int mo), (3, .int (nI f)), (4, .long (N f))]) hx hb dX2_valueIn_56 hl (k := 5) rfl (nI_add g 1) (by decide) rfl (fun ls hl => ?_)
            refine lv_goto (tgt := 21) hx hb dX2_valueIn_59 (by decide) ?_
            exact cut21 (g + 1) M_4 (by omega) (by first | (refine ⟨fun h hh hb2 => ?_, hVR.2⟩; rcases Nat.lt_or_ge h g with qq | qq; exact hVR.1 h qq hb2; (have he : h = g := by omega); subst he; rw [c36] at hb2; cases hb2) | (simp only [fo_0, c24, c36, hx_3, hM_4]; exact VR_s hVR (by omega) hu_1)) (by first | exact hng | assumption) (by omega) _ _ hP hS ls (lcons (lcons (lcons (lcons (lcons (lcons (lzero hl) hl 0 rfl rfl) hl 5 rfl rfl) hl 4 rfl rfl) hl 3 rfl rfl) hl 2 rfl rfl) hl 1 rfl rfl)
    exact cut21 (f + 2) 0 M (by omega) (by exact ⟨fun h hh => absurd hh (by omega), fun _ _ _ => rfl⟩) (by exact hn) (by omega) _ _ hP hS ls (lcons (lcons (lcons (lcons (lcons (lcons (lzero hl) hl 0 rfl rfl) hl 1 rfl rfl) hl 5 rfl rfl) hl 4 rfl rfl) hl 3 rfl rfl) hl 2 rfl rfl)
  ·
    replace c2 : 2 < lv := k_lef c2 (by omega) (by omega)
    exfalso
    omega

set_option maxHeartbeats 4000000 in
set_option maxRecDepth 100000 in
theorem c_X2_valueFromParts_1 (l : Launch) (D : va_G) (cs : Nat → ClassId) (a : Nat → Nat) (M : Nat → Nat → Int32) (N : Nat → Int64) (sz : Nat) (hI : kI a 29)  (n : Nat) (nf : Nat) (kd : Nat → Nat) (p1 : Nat → Nat) (p2 : Nat → Nat) (ns : Nat → Nat) (sb : Nat → Nat) (M0 : Nat → Nat → Int32) (lv : Nat) (mo : Int32) (f : Nat) (hn : M 0 0 = nI n) (hn24 : n ≤ 24) (hag : Ag M M0) (hwf : WFX M0 N nf kd p1 p2 ns sb) (hf40 : nf ≤ 40) (hlv : lv = 1) (hf : f < nf) (hns : ns f + lv ≤ 2) (hp1 : kd f ≠ 0 → M (12 + lv) (p1 f) = sem M0 n kd p1 p2 sb mo (p1 f)) (hp2 : kd f = 2 → M (12 + lv) (p2 f) = sem M0 n kd p1 p2 sb mo (p2 f)) : Met l yX2_valueFromParts wsX2_valueFromParts ({ frames := 6, cells := 0, slots := 0, locals := 160 } : Room) (va_Pc [.ref (a 16), .int (nI lv), .int mo, .int (nI f)] (XBs D cs (xc cs a M N) sz)) (va_Qi (fun r (u : Nat → Nat → Int32) => r = sem M0 n kd p1 p2 sb mo f ∧ (∀ i x, ¬ (12 + lv + 1 ≤ i ∧ i < 15) → u i x = M i x)) (fun (u : Nat → Nat → Int32) t => va_P D vwCl (xc cs a u N) t.heap) (kA a 29 sz)) 0 0 (kA a 29 sz) := by
  refine Met.ofW (cc := cX2_valueFromParts) (maxL := 8) (ret := (some .int)) (by decide) rfl ?_
  intro p e s m args below meth c s₁ B hml hv
  obtain ⟨rfl, hsz, hP, hK⟩ := hv
  have hx := B.exec
  have hb := B.bytes
  have hr := B.returns
  have hts := atoms_spec (ws := wsX2_valueFromParts) B.pre
  have hown : s.vm.findClass RX2 = some m.cls := findClass_of_methodNamed B.named
  have hlocks := B.notSynchronized
  have hK1 := hK.1
  have hinX2 : ∀ w ∈ wsX20, w ∈ wsX2_valueFromParts := fun w h => List.mem_cons_of_mem _ (List.mem_append_left _ (List.mem_append_left _ (List.mem_append_right _ h)))
  have hinX0 : ∀ w ∈ wsX00, w ∈ wsX2_valueFromParts := fun w h => List.mem_cons_of_mem _ (List.mem_append_left _ (List.mem_append_right _ h))
  have hinX3 : ∀ w ∈ wsX30, w ∈ wsX2_valueFromParts := fun w h => List.mem_cons_of_mem _ (List.mem_append_right _ h)
  subst hsz
  have hS : va_S (kA a 29 s.heap.size) s.heap s.heap [] := va_S.rf
  have hl := lv_entry ([.ref (a 16), .int (nI lv), .int mo, .int (nI f)]) (n := 8) (Nat.le_of_ble_eq_true rfl)
  rw [lg_entry_eq]
  generalize (lg_sl ([.ref (a 16), .int (nI lv), .int mo, .int (nI f)]) ++ List.replicate (8 - (lg_sl ([.ref (a 16), .int (nI lv), .int mo, .int (nI f)])).length) Slot.unset).toArray = ls at hl ⊢
  have hl : lv_has ls 8 [(0, .ref (a 16)), (1, .int (nI lv)), (2, .int mo), (3, .int (nI f))] := hl
  refine W_Q (fun Q hQ => ?_)
  show W p l e ({ frames := 6, cells := 0, slots := 0, locals := 160 } : Room) s m ([.ref (a 16), .int (nI lv), .int mo, .int (nI f)] : List Value).toArray below meth c s.heap [] 0 0 Q (F0 m 0 ls [])
  obtain ⟨⟨hk7, hk6, hk11, hk2⟩, hA, hB, hC, hD6, hE, hF1, hF2⟩ := hwf.2 f hf
  have hwp := hwf.1
  have hL := hwf.1 f hf
  rcases (show kd f = 0 ∨ kd f = 1 ∨ kd f = 2 ∨ kd f = 3 ∨ kd f = 4 ∨ kd f = 5 ∨ kd f = 6 by omega) with hkd | hkd | hkd | hkd | hkd | hkd | hkd
  ·
    obtain ⟨hA1, hA2, hA3⟩ := hA hkd
    have hE1 := hE (by omega) (by omega)
    refine lv_aload_n hx hb dX2_valueFromParts_0 rfl (lv_at hl 0 rfl) ?_
    refine va_get (D := D) (ci := 2) (v := .ref (a 8)) (C := RX2) (T := TX2) (N := 3) hx hb hts hinX2 hown hK1 hP 16 rfl rfl 1 (by decide) (hts (.fieldLink RX2 15 "KnowledgeModel$Truth" "formulas" "LKnowledgeModel$Formulas;") (List.mem_of_getElem? (i := 1) rfl)) (fun _ h9 => h9) rfl dX2_valueFromParts_1 ?_
    refine va_get (D := D) (ci := 0) (v := .ref (a 10)) (C := RX0) (T := TX0) (N := 8) hx hb hts hinX0 hown hK1 hP 8 rfl rfl 1 (by decide) (hts (.fieldLink RX2 43 "KnowledgeModel$Formulas" "subjectOf" "[I") (List.mem_of_getElem? (i := 2) rfl)) (fun _ h9 => h9) rfl dX2_valueFromParts_4 ?_
    refine lv_iload_n hx hb dX2_valueFromParts_7 rfl (lv_at hl 3 rfl) ?_
    refine xiald (j := f) (q0 := 10) (t0 := 0) hx hb hK1 hP rfl rfl (by omega) (by decide) dX2_valueFromParts_8 ?_
    refine xtop (y := (nI (sb f))) (by exact (hag 7 f (by decide)).trans hA2) ?_
    refine lv_istore (lv' := [(4, .int (nI (sb f))), (0, .ref (a 16)), (1, .int (nI lv)), (2, .int mo), (3, .int (nI f))]) hx hb dX2_valueFromParts_9 hl (by decide) rfl (fun ls hl => ?_)
    refine lv_aload_n hx hb dX2_valueFromParts_11 rfl (lv_at hl 1 rfl) ?_
    refine va_get (D := D) (ci := 2) (v := .ref (a 8)) (C := RX2) (T := TX2) (N := 3) hx hb hts hinX2 hown hK1 hP 16 rfl rfl 1 (by decide) (hts (.fieldLink RX2 15 "KnowledgeModel$Truth" "formulas" "LKnowledgeModel$Formulas;") (List.mem_of_getElem? (i := 1) rfl)) (fun _ h9 => h9) rfl dX2_valueFromParts_12 ?_
    refine va_get (D := D) (ci := 0) (v := .ref (a 11)) (C := RX0) (T := TX0) (N := 8) hx hb hts hinX0 hown hK1 hP 8 rfl rfl 2 (by decide) (hts (.fieldLink RX2 47 "KnowledgeModel$Formulas" "firstOf" "[I") (List.mem_of_getElem? (i := 3) rfl)) (fun _ h9 => h9) rfl dX2_valueFromParts_15 ?_
    refine lv_iload_n hx hb dX2_valueFromParts_18 rfl (lv_at hl 4 rfl) ?_
    refine xiald (j := f) (q0 := 11) (t0 := 0) hx hb hK1 hP rfl rfl (by omega) (by decide) dX2_valueFromParts_19 ?_
    refine xtop (y := (-1 : Int32)) (by exact (hag 8 f (by decide)).trans hA1) ?_
    refine lv_istore (lv' := [(5, .int (-1 : Int32)), (4, .int (nI (sb f))), (0, .ref (a 16)), (1, .int (nI lv)), (2, .int mo), (3, .int (nI f))]) hx hb dX2_valueFromParts_20 hl (by decide) rfl (fun ls hl => ?_)
    refine lv_aload_n hx hb dX2_valueFromParts_22 rfl (lv_at hl 2 rfl) ?_
    refine va_get (D := D) (ci := 2) (v := .ref (a 8)) (C := RX2) (T := TX2) (N := 3) hx hb hts hinX2 hown hK1 hP 16 rfl rfl 1 (by decide) (hts (.fieldLink RX2 15 "KnowledgeModel$Truth" "formulas" "LKnowledgeModel$Formulas;") (List.mem_of_getElem? (i := 1) rfl)) (fun _ h9 => h9) rfl dX2_valueFromParts_23 ?_
    refine va_get (D := D) (ci := 0) (v := .ref (a 12)) (C := RX0) (T := TX0) (N := 8) hx hb hts hinX0 hown hK1 hP 8 rfl rfl 3 (by decide) (hts (.fieldLink RX2 50 "KnowledgeModel$Formulas" "secondOf" "[I") (List.mem_of_getElem? (i := 4) rfl)) (fun _ h9 => h9) rfl dX2_valueFromParts_26 ?_
    refine lv_iload_n hx hb dX2_valueFromParts_29 rfl (lv_at hl 5 rfl) ?_
    refine xiald (j := f) (q0 := 12) (t0 := 0) hx hb hK1 hP rfl rfl (by omega) (by decide) dX2_valueFromParts_30 ?_
    refine xtop (y := (-1 : Int32)) (by exact (hag 9 f (by decide)).trans hE1) ?_
    refine lv_istore (lv' := [(6, .int (-1 : Int32)), (5, .int (-1 : Int32)), (4, .int (nI (sb f))), (0, .ref (a 16)), (1, .int (nI lv)), (2, .int mo), (3, .int (nI f))]) hx hb dX2_valueFromParts_31 hl (by decide) rfl (fun ls hl => ?_)
    refine lv_iload hx hb dX2_valueFromParts_33 (lv_at hl 1 rfl) ?_
    refine lv_iconst (v := (-1 : Int32)) hx hb dX2_valueFromParts_35 (by decide) ?_
    refine lv_icmp_ne (tgt := 43) hx hb dX2_valueFromParts_36 (by decide) (fun c36 => ?_) (fun c36 => ?_)
    ·
      exfalso
      exact c36 rfl
    ·
      refine lv_iconst (v := (nI 0)) hx hb dX2_valueFromParts_39 (by decide) ?_
      refine lv_goto (tgt := 52) hx hb dX2_valueFromParts_40 (by decide) ?_
      refine lv_istore (lv' := [(7, .int (nI 0)), (6, .int (-1 : Int32)), (5, .int (-1 : Int32)), (4, .int (nI (sb f))), (0, .ref (a 16)), (1, .int (nI lv)), (2, .int mo), (3, .int (nI f))]) hx hb dX2_valueFromParts_52 hl (by decide) rfl (fun ls hl => ?_)
      refine lv_aload_n hx hb dX2_valueFromParts_54 rfl (lv_at hl 4 rfl) ?_
      refine va_get (D := D) (ci := 2) (v := .ref (a 8)) (C := RX2) (T := TX2) (N := 3) hx hb hts hinX2 hown hK1 hP 16 rfl rfl 1 (by decide) (hts (.fieldLink RX2 15 "KnowledgeModel$Truth" "formulas" "LKnowledgeModel$Formulas;") (List.mem_of_getElem? (i := 1) rfl)) (fun _ h9 => h9) rfl dX2_valueFromParts_55 ?_
      refine va_get (D := D) (ci := 0) (v := .ref (a 9)) (C := RX0) (T := TX0) (N := 8) hx hb hts hinX0 hown hK1 hP 8 rfl rfl 0 (by decide) (hts (.fieldLink RX2 53 "KnowledgeModel$Formulas" "kindOf" "[I") (List.mem_of_getElem? (i := 6) rfl)) (fun _ h9 => h9) rfl dX2_valueFromParts_58 ?_
      refine lv_iload_n hx hb dX2_valueFromParts_61 rfl (lv_at hl 7 rfl) ?_
      refine xiald (j := f) (q0 := 9) (t0 := 0) hx hb hK1 hP rfl rfl (by omega) (by decide) dX2_valueFromParts_62 ?_
      refine xtop (y := (nI 0)) (by exact ((hag 6 f (by decide)).trans hk6).trans (congrArg nI hkd)) ?_
      refine lv_tableIn (tgt := 104) hx hb dX2_valueFromParts_63 (by decide) (by decide) rfl (by decide) ?_
      refine lv_iload_n hx hb dX2_valueFromParts_104 rfl (lv_at hl 6 rfl) ?_
      refine lv_aload_n hx hb dX2_valueFromParts_105 rfl (lv_at hl 4 rfl) ?_
      refine va_get (D := D) (ci := 2) (v := .ref (a 1)) (C := RX2) (T := TX2) (N := 3) hx hb hts hinX2 hown hK1 hP 16 rfl rfl 0 (by decide) (hts (.fieldLink RX2 9 "KnowledgeModel$Truth" "worlds" "LKnowledgeModel$Worlds;") (List.mem_of_getElem? (i := 7) rfl)) (fun _ h9 => h9) rfl dX2_valueFromParts_106 ?_
      refine lv_iload hx hb dX2_valueFromParts_109 (lv_at hl 3 rfl) ?_
      refine xcalli (va_runV (As := [.int (nI (sb f))]) (rest := [.int mo]) ⟨hx, hb, hml, hown, hts⟩ (c_X3_worldsWith l D cs a M N n (sb f) (by omega) hn (by omega)) (cwV 1 hts gX2_valueFromParts_X3_worldsWith rfl rfl rfl (by decide +kernel) ⟨Nat.le_of_ble_eq_true rfl, Nat.le_of_ble_eq_true rfl⟩) (xpreV hP hK (ci := 3) 1 rfl rfl) rfl rfl hl.1 rfl (lv_room (Nat.le_of_ble_eq_true rfl)) dX2_valueFromParts_111 ⟨Nat.le_of_ble_eq_true rfl, Nat.le_of_ble_eq_true rfl⟩) hS hP (fun H locs hP hS => ?_)
      refine xtop (y := (worldsWith M0 n (sb f))) (by exact worldsWith_c hag) ?_
      refine lv_iand hx hb dX2_valueFromParts_114 ?_
      subst hQ
      have hrel : (∀ i x, ¬ (12 + lv + 1 ≤ i ∧ i < 15) → M i x = M i x) := by first | (intro i x _; rfl) | exact trivial
      have hfin : (mo &&& (worldsWith M0 n (sb f))) = sem M0 n kd p1 p2 sb mo f := by rw [sem_eq hwp hf]; simp only [hkd, if_true, if_false, show (1 : Nat) ≠ 0 by decide, show (2 : Nat) ≠ 0 by decide, show (2 : Nat) ≠ 1 by decide, show (3 : Nat) ≠ 0 by decide, show (3 : Nat) ≠ 1 by decide, show (3 : Nat) ≠ 2 by decide, show (3 : Nat) ≠ 4 by decide, show (3 : Nat) ≠ 6 by decide, show (4 : Nat) ≠ 0 by decide, show (4 : Nat) ≠ 1 by decide, show (4 : Nat) ≠ 2 by decide, show (5 : Nat) ≠ 0 by decide, show (5 : Nat) ≠ 1 by decide, show (5 : Nat) ≠ 2 by decide, show (5 : Nat) ≠ 4 by decide, show (5 : Nat) ≠ 6 by decide, show (6 : Nat) ≠ 0 by decide, show (6 : Nat) ≠ 1 by decide, show (6 : Nat) ≠ 2 by decide, show (6 : Nat) ≠ 4 by decide, c36]
      exact W.iret hx hb hr (fun t ht hW => ⟨⟨_, M, rfl, ⟨hfin, hrel⟩, by rw [← ht] at hP; exact hP⟩, hS.F ht⟩) hS.2.2 dX2_valueFromParts_115
  ·
    obtain ⟨hB1, hB2⟩ := hB (by omega)
    have hq1 := hL.1 (by omega)
    have hE1 := hE (by omega) (by omega)
    refine lv_aload_n hx hb dX2_valueFromParts_0 rfl (lv_at hl 0 rfl) ?_
    refine va_get (D := D) (ci := 2) (v := .ref (a 8)) (C := RX2) (T := TX2) (N := 3) hx hb hts hinX2 hown hK1 hP 16 rfl rfl 1 (by decide) (hts (.fieldLink RX2 15 "KnowledgeModel$Truth" "formulas" "LKnowledgeModel$Formulas;") (List.mem_of_getElem? (i := 1) rfl)) (fun _ h9 => h9) rfl dX2_valueFromParts_1 ?_
    refine va_get (D := D) (ci := 0) (v := .ref (a 10)) (C := RX0) (T := TX0) (N := 8) hx hb hts hinX0 hown hK1 hP 8 rfl rfl 1 (by decide) (hts (.fieldLink RX2 43 "KnowledgeModel$Formulas" "subjectOf" "[I") (List.mem_of_getElem? (i := 2) rfl)) (fun _ h9 => h9) rfl dX2_valueFromParts_4 ?_
    refine lv_iload_n hx hb dX2_valueFromParts_7 rfl (lv_at hl 3 rfl) ?_
    refine xiald (j := f) (q0 := 10) (t0 := 0) hx hb hK1 hP rfl rfl (by omega) (by decide) dX2_valueFromParts_8 ?_
    refine xtop (y := (M0 7 f)) (by exact hag 7 f (by decide)) ?_
    refine lv_topi (fun x_1 hx_1 => ?_)
    refine lv_istore (lv' := [(4, .int x_1), (0, .ref (a 16)), (1, .int (nI lv)), (2, .int mo), (3, .int (nI f))]) hx hb dX2_valueFromParts_9 hl (by decide) rfl (fun ls hl => ?_)
    refine lv_aload_n hx hb dX2_valueFromParts_11 rfl (lv_at hl 1 rfl) ?_
    refine va_get (D := D) (ci := 2) (v := .ref (a 8)) (C := RX2) (T := TX2) (N := 3) hx hb hts hinX2 hown hK1 hP 16 rfl rfl 1 (by decide) (hts (.fieldLink RX2 15 "KnowledgeModel$Truth" "formulas" "LKnowledgeModel$Formulas;") (List.mem_of_getElem? (i := 1) rfl)) (fun _ h9 => h9) rfl dX2_valueFromParts_12 ?_
    refine va_get (D := D) (ci := 0) (v := .ref (a 11)) (C := RX0) (T := TX0) (N := 8) hx hb hts hinX0 hown hK1 hP 8 rfl rfl 2 (by decide) (hts (.fieldLink RX2 47 "KnowledgeModel$Formulas" "firstOf" "[I") (List.mem_of_getElem? (i := 3) rfl)) (fun _ h9 => h9) rfl dX2_valueFromParts_15 ?_
    refine lv_iload_n hx hb dX2_valueFromParts_18 rfl (lv_at hl 4 rfl) ?_
    refine xiald (j := f) (q0 := 11) (t0 := 0) hx hb hK1 hP rfl rfl (by omega) (by decide) dX2_valueFromParts_19 ?_
    refine xtop (y := (nI (p1 f))) (by exact (hag 8 f (by decide)).trans hB1) ?_
    refine lv_istore (lv' := [(5, .int (nI (p1 f))), (4, .int x_1), (0, .ref (a 16)), (1, .int (nI lv)), (2, .int mo), (3, .int (nI f))]) hx hb dX2_valueFromParts_20 hl (by decide) rfl (fun ls hl => ?_)
    refine lv_aload_n hx hb dX2_valueFromParts_22 rfl (lv_at hl 2 rfl) ?_
    refine va_get (D := D) (ci := 2) (v := .ref (a 8)) (C := RX2) (T := TX2) (N := 3) hx hb hts hinX2 hown hK1 hP 16 rfl rfl 1 (by decide) (hts (.fieldLink RX2 15 "KnowledgeModel$Truth" "formulas" "LKnowledgeModel$Formulas;") (List.mem_of_getElem? (i := 1) rfl)) (fun _ h9 => h9) rfl dX2_valueFromParts_23 ?_
    refine va_get (D := D) (ci := 0) (v := .ref (a 12)) (C := RX0) (T := TX0) (N := 8) hx hb hts hinX0 hown hK1 hP 8 rfl rfl 3 (by decide) (hts (.fieldLink RX2 50 "KnowledgeModel$Formulas" "secondOf" "[I") (List.mem_of_getElem? (i := 4) rfl)) (fun _ h9 => h9) rfl dX2_valueFromParts_26 ?_
    refine lv_iload_n hx hb dX2_valueFromParts_29 rfl (lv_at hl 5 rfl) ?_
    refine xiald (j := f) (q0 := 12) (t0 := 0) hx hb hK1 hP rfl rfl (by omega) (by decide) dX2_valueFromParts_30 ?_
    refine xtop (y := (-1 : Int32)) (by exact (hag 9 f (by decide)).trans hE1) ?_
    refine lv_istore (lv' := [(6, .int (-1 : Int32)), (5, .int (nI (p1 f))), (4, .int x_1), (0, .ref (a 16)), (1, .int (nI lv)), (2, .int mo), (3, .int (nI f))]) hx hb dX2_valueFromParts_31 hl (by decide) rfl (fun ls hl => ?_)
    refine lv_iload hx hb dX2_valueFromParts_33 (lv_at hl 1 rfl) ?_
    refine lv_iconst (v := (-1 : Int32)) hx hb dX2_valueFromParts_35 (by decide) ?_
    refine lv_icmp_ne (tgt := 43) hx hb dX2_valueFromParts_36 (by decide) (fun c36 => ?_) (fun c36 => ?_)
    ·
      refine lv_aload_n hx hb dX2_valueFromParts_43 rfl (lv_at hl 3 rfl) ?_
      refine va_get (D := D) (ci := 2) (v := .ref (a 17)) (C := RX2) (T := TX2) (N := 3) hx hb hts hinX2 hown hK1 hP 16 rfl rfl 2 (by decide) (hts (.fieldLink RX2 21 "KnowledgeModel$Truth" "values" "[[I") (List.mem_of_getElem? (i := 5) rfl)) (fun _ h9 => h9) rfl dX2_valueFromParts_44 ?_
      refine lv_iload_n hx hb dX2_valueFromParts_47 rfl (lv_at hl 4 rfl) ?_
      refine xaald (j := lv) (q0 := 17) (t0 := 2) (f := fun i => a (18 + i)) hx hb hK1 hP rfl rfl (by omega) (by decide) dX2_valueFromParts_48 ?_
      refine lv_iload hx hb dX2_valueFromParts_49 (lv_at hl 1 rfl) ?_
      refine xiald (j := p1 f) (q0 := (18 + lv)) (t0 := 0) hx hb hK1 hP (xg_va (by omega)) rfl (by omega) (by decide) dX2_valueFromParts_51 ?_
      refine xtop (y := (sem M0 n kd p1 p2 sb mo (p1 f))) (by exact hp1 (by omega)) ?_
      refine lv_topi (fun x_2 hx_2 => ?_)
      refine lv_istore (lv' := [(7, .int x_2), (6, .int (-1 : Int32)), (5, .int (nI (p1 f))), (4, .int x_1), (0, .ref (a 16)), (1, .int (nI lv)), (2, .int mo), (3, .int (nI f))]) hx hb dX2_valueFromParts_52 hl (by decide) rfl (fun ls hl => ?_)
      refine lv_aload_n hx hb dX2_valueFromParts_54 rfl (lv_at hl 4 rfl) ?_
      refine va_get (D := D) (ci := 2) (v := .ref (a 8)) (C := RX2) (T := TX2) (N := 3) hx hb hts hinX2 hown hK1 hP 16 rfl rfl 1 (by decide) (hts (.fieldLink RX2 15 "KnowledgeModel$Truth" "formulas" "LKnowledgeModel$Formulas;") (List.mem_of_getElem? (i := 1) rfl)) (fun _ h9 => h9) rfl dX2_valueFromParts_55 ?_
      refine va_get (D := D) (ci := 0) (v := .ref (a 9)) (C := RX0) (T := TX0) (N := 8) hx hb hts hinX0 hown hK1 hP 8 rfl rfl 0 (by decide) (hts (.fieldLink RX2 53 "KnowledgeModel$Formulas" "kindOf" "[I") (List.mem_of_getElem? (i := 6) rfl)) (fun _ h9 => h9) rfl dX2_valueFromParts_58 ?_
      refine lv_iload_n hx hb dX2_valueFromParts_61 rfl (lv_at hl 7 rfl) ?_
      refine xiald (j := f) (q0 := 9) (t0 := 0) hx hb hK1 hP rfl rfl (by omega) (by decide) dX2_valueFromParts_62 ?_
      refine xtop (y := (nI 1)) (by exact ((hag 6 f (by decide)).trans hk6).trans (congrArg nI hkd)) ?_
      refine lv_tableIn (tgt := 116) hx hb dX2_valueFromParts_63 (by decide) (by decide) rfl (by decide) ?_
      refine lv_iload_n hx hb dX2_valueFromParts_116 rfl (lv_at hl 6 rfl) ?_
      refine lv_iload hx hb dX2_valueFromParts_117 (lv_at hl 0 rfl) ?_
      refine lv_iconst (v := (-1 : Int32)) hx hb dX2_valueFromParts_119 (by decide) ?_
      refine lv_ixor hx hb dX2_valueFromParts_120 ?_
      refine lv_iand hx hb dX2_valueFromParts_121 ?_
      subst hQ
      have hrel : (∀ i x, ¬ (12 + lv + 1 ≤ i ∧ i < 15) → M i x = M i x) := by first | (intro i x _; rfl) | exact trivial
      have hfin : (mo &&& (x_2 ^^^ (-1 : Int32))) = sem M0 n kd p1 p2 sb mo f := by rw [sem_eq hwp hf]; simp only [hkd, if_true, if_false, show (1 : Nat) ≠ 0 by decide, show (2 : Nat) ≠ 0 by decide, show (2 : Nat) ≠ 1 by decide, show (3 : Nat) ≠ 0 by decide, show (3 : Nat) ≠ 1 by decide, show (3 : Nat) ≠ 2 by decide, show (3 : Nat) ≠ 4 by decide, show (3 : Nat) ≠ 6 by decide, show (4 : Nat) ≠ 0 by decide, show (4 : Nat) ≠ 1 by decide, show (4 : Nat) ≠ 2 by decide, show (5 : Nat) ≠ 0 by decide, show (5 : Nat) ≠ 1 by decide, show (5 : Nat) ≠ 2 by decide, show (5 : Nat) ≠ 4 by decide, show (5 : Nat) ≠ 6 by decide, show (6 : Nat) ≠ 0 by decide, show (6 : Nat) ≠ 1 by decide, show (6 : Nat) ≠ 2 by decide, show (6 : Nat) ≠ 4 by decide, hx_1, c36, hx_2]
      exact W.iret hx hb hr (fun t ht hW => ⟨⟨_, M, rfl, ⟨hfin, hrel⟩, by rw [← ht] at hP; exact hP⟩, hS.F ht⟩) hS.2.2 dX2_valueFromParts_122
    ·
      exfalso
      exact nI_ne_m1 (by omega) c36
  ·
    obtain ⟨hB1, hB2⟩ := hB (by omega)
    have hq1 := hL.1 (by omega)
    have hC1 := hC (by omega)
    have hq2 := hL.2 (by omega)
    refine lv_aload_n hx hb dX2_valueFromParts_0 rfl (lv_at hl 0 rfl) ?_
    refine va_get (D := D) (ci := 2) (v := .ref (a 8)) (C := RX2) (T := TX2) (N := 3) hx hb hts hinX2 hown hK1 hP 16 rfl rfl 1 (by decide) (hts (.fieldLink RX2 15 "KnowledgeModel$Truth" "formulas" "LKnowledgeModel$Formulas;") (List.mem_of_getElem? (i := 1) rfl)) (fun _ h9 => h9) rfl dX2_valueFromParts_1 ?_
    refine va_get (D := D) (ci := 0) (v := .ref (a 10)) (C := RX0) (T := TX0) (N := 8) hx hb hts hinX0 hown hK1 hP 8 rfl rfl 1 (by decide) (hts (.fieldLink RX2 43 "KnowledgeModel$Formulas" "subjectOf" "[I") (List.mem_of_getElem? (i := 2) rfl)) (fun _ h9 => h9) rfl dX2_valueFromParts_4 ?_
    refine lv_iload_n hx hb dX2_valueFromParts_7 rfl (lv_at hl 3 rfl) ?_
    refine xiald (j := f) (q0 := 10) (t0 := 0) hx hb hK1 hP rfl rfl (by omega) (by decide) dX2_valueFromParts_8 ?_
    refine xtop (y := (M0 7 f)) (by exact hag 7 f (by decide)) ?_
    refine lv_topi (fun x_3 hx_3 => ?_)
    refine lv_istore (lv' := [(4, .int x_3), (0, .ref (a 16)), (1, .int (nI lv)), (2, .int mo), (3, .int (nI f))]) hx hb dX2_valueFromParts_9 hl (by decide) rfl (fun ls hl => ?_)
    refine lv_aload_n hx hb dX2_valueFromParts_11 rfl (lv_at hl 1 rfl) ?_
    refine va_get (D := D) (ci := 2) (v := .ref (a 8)) (C := RX2) (T := TX2) (N := 3) hx hb hts hinX2 hown hK1 hP 16 rfl rfl 1 (by decide) (hts (.fieldLink RX2 15 "KnowledgeModel$Truth" "formulas" "LKnowledgeModel$Formulas;") (List.mem_of_getElem? (i := 1) rfl)) (fun _ h9 => h9) rfl dX2_valueFromParts_12 ?_
    refine va_get (D := D) (ci := 0) (v := .ref (a 11)) (C := RX0) (T := TX0) (N := 8) hx hb hts hinX0 hown hK1 hP 8 rfl rfl 2 (by decide) (hts (.fieldLink RX2 47 "KnowledgeModel$Formulas" "firstOf" "[I") (List.mem_of_getElem? (i := 3) rfl)) (fun _ h9 => h9) rfl dX2_valueFromParts_15 ?_
    refine lv_iload_n hx hb dX2_valueFromParts_18 rfl (lv_at hl 4 rfl) ?_
    refine xiald (j := f) (q0 := 11) (t0 := 0) hx hb hK1 hP rfl rfl (by omega) (by decide) dX2_valueFromParts_19 ?_
    refine xtop (y := (nI (p1 f))) (by exact (hag 8 f (by decide)).trans hB1) ?_
    refine lv_istore (lv' := [(5, .int (nI (p1 f))), (4, .int x_3), (0, .ref (a 16)), (1, .int (nI lv)), (2, .int mo), (3, .int (nI f))]) hx hb dX2_valueFromParts_20 hl (by decide) rfl (fun ls hl => ?_)
    refine lv_aload_n hx hb dX2_valueFromParts_22 rfl (lv_at hl 2 rfl) ?_
    refine va_get (D := D) (ci := 2) (v := .ref (a 8)) (C := RX2) (T := TX2) (N := 3) hx hb hts hinX2 hown hK1 hP 16 rfl rfl 1 (by decide) (hts (.fieldLink RX2 15 "KnowledgeModel$Truth" "formulas" "LKnowledgeModel$Formulas;") (List.mem_of_getElem? (i := 1) rfl)) (fun _ h9 => h9) rfl dX2_valueFromParts_23 ?_
    refine va_get (D := D) (ci := 0) (v := .ref (a 12)) (C := RX0) (T := TX0) (N := 8) hx hb hts hinX0 hown hK1 hP 8 rfl rfl 3 (by decide) (hts (.fieldLink RX2 50 "KnowledgeModel$Formulas" "secondOf" "[I") (List.mem_of_getElem? (i := 4) rfl)) (fun _ h9 => h9) rfl dX2_valueFromParts_26 ?_
    refine lv_iload_n hx hb dX2_valueFromParts_29 rfl (lv_at hl 5 rfl) ?_
    refine xiald (j := f) (q0 := 12) (t0 := 0) hx hb hK1 hP rfl rfl (by omega) (by decide) dX2_valueFromParts_30 ?_
    refine xtop (y := (nI (p2 f))) (by exact (hag 9 f (by decide)).trans hC1) ?_
    refine lv_istore (lv' := [(6, .int (nI (p2 f))), (5, .int (nI (p1 f))), (4, .int x_3), (0, .ref (a 16)), (1, .int (nI lv)), (2, .int mo), (3, .int (nI f))]) hx hb dX2_valueFromParts_31 hl (by decide) rfl (fun ls hl => ?_)
    refine lv_iload hx hb dX2_valueFromParts_33 (lv_at hl 1 rfl) ?_
    refine lv_iconst (v := (-1 : Int32)) hx hb dX2_valueFromParts_35 (by decide) ?_
    refine lv_icmp_ne (tgt := 43) hx hb dX2_valueFromParts_36 (by decide) (fun c36 => ?_) (fun c36 => ?_)
    ·
      refine lv_aload_n hx hb dX2_valueFromParts_43 rfl (lv_at hl 3 rfl) ?_
      refine va_get (D := D) (ci := 2) (v := .ref (a 17)) (C := RX2) (T := TX2) (N := 3) hx hb hts hinX2 hown hK1 hP 16 rfl rfl 2 (by decide) (hts (.fieldLink RX2 21 "KnowledgeModel$Truth" "values" "[[I") (List.mem_of_getElem? (i := 5) rfl)) (fun _ h9 => h9) rfl dX2_valueFromParts_44 ?_
      refine lv_iload_n hx hb dX2_valueFromParts_47 rfl (lv_at hl 4 rfl) ?_
      refine xaald (j := lv) (q0 := 17) (t0 := 2) (f := fun i => a (18 + i)) hx hb hK1 hP rfl rfl (by omega) (by decide) dX2_valueFromParts_48 ?_
      refine lv_iload hx hb dX2_valueFromParts_49 (lv_at hl 1 rfl) ?_
      refine xiald (j := p1 f) (q0 := (18 + lv)) (t0 := 0) hx hb hK1 hP (xg_va (by omega)) rfl (by omega) (by decide) dX2_valueFromParts_51 ?_
      refine xtop (y := (sem M0 n kd p1 p2 sb mo (p1 f))) (by exact hp1 (by omega)) ?_
      refine lv_topi (fun x_4 hx_4 => ?_)
      refine lv_istore (lv' := [(7, .int x_4), (6, .int (nI (p2 f))), (5, .int (nI (p1 f))), (4, .int x_3), (0, .ref (a 16)), (1, .int (nI lv)), (2, .int mo), (3, .int (nI f))]) hx hb dX2_valueFromParts_52 hl (by decide) rfl (fun ls hl => ?_)
      refine lv_aload_n hx hb dX2_valueFromParts_54 rfl (lv_at hl 4 rfl) ?_
      refine va_get (D := D) (ci := 2) (v := .ref (a 8)) (C := RX2) (T := TX2) (N := 3) hx hb hts hinX2 hown hK1 hP 16 rfl rfl 1 (by decide) (hts (.fieldLink RX2 15 "KnowledgeModel$Truth" "formulas" "LKnowledgeModel$Formulas;") (List.mem_of_getElem? (i := 1) rfl)) (fun _ h9 => h9) rfl dX2_valueFromParts_55 ?_
      refine va_get (D := D) (ci := 0) (v := .ref (a 9)) (C := RX0) (T := TX0) (N := 8) hx hb hts hinX0 hown hK1 hP 8 rfl rfl 0 (by decide) (hts (.fieldLink RX2 53 "KnowledgeModel$Formulas" "kindOf" "[I") (List.mem_of_getElem? (i := 6) rfl)) (fun _ h9 => h9) rfl dX2_valueFromParts_58 ?_
      refine lv_iload_n hx hb dX2_valueFromParts_61 rfl (lv_at hl 7 rfl) ?_
      refine xiald (j := f) (q0 := 9) (t0 := 0) hx hb hK1 hP rfl rfl (by omega) (by decide) dX2_valueFromParts_62 ?_
      refine xtop (y := (nI 2)) (by exact ((hag 6 f (by decide)).trans hk6).trans (congrArg nI hkd)) ?_
      refine lv_tableIn (tgt := 123) hx hb dX2_valueFromParts_63 (by decide) (by decide) rfl (by decide) ?_
      refine lv_iload hx hb dX2_valueFromParts_123 (lv_at hl 1 rfl) ?_
      refine lv_iconst (v := (-1 : Int32)) hx hb dX2_valueFromParts_125 (by decide) ?_
      refine lv_icmp_ne (tgt := 133) hx hb dX2_valueFromParts_126 (by decide) (fun c126 => ?_) (fun c126 => ?_)
      ·
        refine lv_iload hx hb dX2_valueFromParts_133 (lv_at hl 0 rfl) ?_
        refine lv_aload_n hx hb dX2_valueFromParts_135 rfl (lv_at hl 4 rfl) ?_
        refine va_get (D := D) (ci := 2) (v := .ref (a 17)) (C := RX2) (T := TX2) (N := 3) hx hb hts hinX2 hown hK1 hP 16 rfl rfl 2 (by decide) (hts (.fieldLink RX2 21 "KnowledgeModel$Truth" "values" "[[I") (List.mem_of_getElem? (i := 5) rfl)) (fun _ h9 => h9) rfl dX2_valueFromParts_136 ?_
        refine lv_iload_n hx hb dX2_valueFromParts_139 rfl (lv_at hl 5 rfl) ?_
        refine xaald (j := lv) (q0 := 17) (t0 := 2) (f := fun i => a (18 + i)) hx hb hK1 hP rfl rfl (by omega) (by decide) dX2_valueFromParts_140 ?_
        refine lv_iload hx hb dX2_valueFromParts_141 (lv_at hl 1 rfl) ?_
        refine xiald (j := p2 f) (q0 := (18 + lv)) (t0 := 0) hx hb hK1 hP (xg_va (by omega)) rfl (by omega) (by decide) dX2_valueFromParts_143 ?_
        refine xtop (y := (sem M0 n kd p1 p2 sb mo (p2 f))) (by exact hp2 hkd) ?_
        refine lv_iand hx hb dX2_valueFromParts_144 ?_
        subst hQ
        have hrel : (∀ i x, ¬ (12 + lv + 1 ≤ i ∧ i < 15) → M i x = M i x) := by first | (intro i x _; rfl) | exact trivial
        have hfin : (x_4 &&& (sem M0 n kd p1 p2 sb mo (p2 f))) = sem M0 n kd p1 p2 sb mo f := by rw [sem_eq hwp hf]; simp only [hkd, if_true, if_false, show (1 : Nat) ≠ 0 by decide, show (2 : Nat) ≠ 0 by decide, show (2 : Nat) ≠ 1 by decide, show (3 : Nat) ≠ 0 by decide, show (3 : Nat) ≠ 1 by decide, show (3 : Nat) ≠ 2 by decide, show (3 : Nat) ≠ 4 by decide, show (3 : Nat) ≠ 6 by decide, show (4 : Nat) ≠ 0 by decide, show (4 : Nat) ≠ 1 by decide, show (4 : Nat) ≠ 2 by decide, show (5 : Nat) ≠ 0 by decide, show (5 : Nat) ≠ 1 by decide, show (5 : Nat) ≠ 2 by decide, show (5 : Nat) ≠ 4 by decide, show (5 : Nat) ≠ 6 by decide, show (6 : Nat) ≠ 0 by decide, show (6 : Nat) ≠ 1 by decide, show (6 : Nat) ≠ 2 by decide, show (6 : Nat) ≠ 4 by decide, hx_3, c36, hx_4, c126]
        exact W.iret hx hb hr (fun t ht hW => ⟨⟨_, M, rfl, ⟨hfin, hrel⟩, by rw [← ht] at hP; exact hP⟩, hS.F ht⟩) hS.2.2 dX2_valueFromParts_145
      ·
        exfalso
        exact nI_ne_m1 (by omega) c126
    ·
      exfalso
      exact nI_ne_m1 (by omega) c36
  ·
    obtain ⟨hB1, hB2⟩ := hB (by omega)
    have hq1 := hL.1 (by omega)
    have hE1 := hE (by omega) (by omega)
    refine lv_aload_n hx hb dX2_valueFromParts_0 rfl (lv_at hl 0 rfl) ?_
    refine va_get (D := D) (ci := 2) (v := .ref (a 8)) (C := RX2) (T := TX2) (N := 3) hx hb hts hinX2 hown hK1 hP 16 rfl rfl 1 (by decide) (hts (.fieldLink RX2 15 "KnowledgeModel$Truth" "formulas" "LKnowledgeModel$Formulas;") (List.mem_of_getElem? (i := 1) rfl)) (fun _ h9 => h9) rfl dX2_valueFromParts_1 ?_
    refine va_get (D := D) (ci := 0) (v := .ref (a 10)) (C := RX0) (T := TX0) (N := 8) hx hb hts hinX0 hown hK1 hP 8 rfl rfl 1 (by decide) (hts (.fieldLink RX2 43 "KnowledgeModel$Formulas" "subjectOf" "[I") (List.mem_of_getElem? (i := 2) rfl)) (fun _ h9 => h9) rfl dX2_valueFromParts_4 ?_
    refine lv_iload_n hx hb dX2_valueFromParts_7 rfl (lv_at hl 3 rfl) ?_
    refine xiald (j := f) (q0 := 10) (t0 := 0) hx hb hK1 hP rfl rfl (by omega) (by decide) dX2_valueFromParts_8 ?_
    refine xtop (y := (M0 7 f)) (by exact hag 7 f (by decide)) ?_
    refine lv_topi (fun x_5 hx_5 => ?_)
    refine lv_istore (lv' := [(4, .int x_5), (0, .ref (a 16)), (1, .int (nI lv)), (2, .int mo), (3, .int (nI f))]) hx hb dX2_valueFromParts_9 hl (by decide) rfl (fun ls hl => ?_)
    refine lv_aload_n hx hb dX2_valueFromParts_11 rfl (lv_at hl 1 rfl) ?_
    refine va_get (D := D) (ci := 2) (v := .ref (a 8)) (C := RX2) (T := TX2) (N := 3) hx hb hts hinX2 hown hK1 hP 16 rfl rfl 1 (by decide) (hts (.fieldLink RX2 15 "KnowledgeModel$Truth" "formulas" "LKnowledgeModel$Formulas;") (List.mem_of_getElem? (i := 1) rfl)) (fun _ h9 => h9) rfl dX2_valueFromParts_12 ?_
    refine va_get (D := D) (ci := 0) (v := .ref (a 11)) (C := RX0) (T := TX0) (N := 8) hx hb hts hinX0 hown hK1 hP 8 rfl rfl 2 (by decide) (hts (.fieldLink RX2 47 "KnowledgeModel$Formulas" "firstOf" "[I") (List.mem_of_getElem? (i := 3) rfl)) (fun _ h9 => h9) rfl dX2_valueFromParts_15 ?_
    refine lv_iload_n hx hb dX2_valueFromParts_18 rfl (lv_at hl 4 rfl) ?_
    refine xiald (j := f) (q0 := 11) (t0 := 0) hx hb hK1 hP rfl rfl (by omega) (by decide) dX2_valueFromParts_19 ?_
    refine xtop (y := (nI (p1 f))) (by exact (hag 8 f (by decide)).trans hB1) ?_
    refine lv_istore (lv' := [(5, .int (nI (p1 f))), (4, .int x_5), (0, .ref (a 16)), (1, .int (nI lv)), (2, .int mo), (3, .int (nI f))]) hx hb dX2_valueFromParts_20 hl (by decide) rfl (fun ls hl => ?_)
    refine lv_aload_n hx hb dX2_valueFromParts_22 rfl (lv_at hl 2 rfl) ?_
    refine va_get (D := D) (ci := 2) (v := .ref (a 8)) (C := RX2) (T := TX2) (N := 3) hx hb hts hinX2 hown hK1 hP 16 rfl rfl 1 (by decide) (hts (.fieldLink RX2 15 "KnowledgeModel$Truth" "formulas" "LKnowledgeModel$Formulas;") (List.mem_of_getElem? (i := 1) rfl)) (fun _ h9 => h9) rfl dX2_valueFromParts_23 ?_
    refine va_get (D := D) (ci := 0) (v := .ref (a 12)) (C := RX0) (T := TX0) (N := 8) hx hb hts hinX0 hown hK1 hP 8 rfl rfl 3 (by decide) (hts (.fieldLink RX2 50 "KnowledgeModel$Formulas" "secondOf" "[I") (List.mem_of_getElem? (i := 4) rfl)) (fun _ h9 => h9) rfl dX2_valueFromParts_26 ?_
    refine lv_iload_n hx hb dX2_valueFromParts_29 rfl (lv_at hl 5 rfl) ?_
    refine xiald (j := f) (q0 := 12) (t0 := 0) hx hb hK1 hP rfl rfl (by omega) (by decide) dX2_valueFromParts_30 ?_
    refine xtop (y := (-1 : Int32)) (by exact (hag 9 f (by decide)).trans hE1) ?_
    refine lv_istore (lv' := [(6, .int (-1 : Int32)), (5, .int (nI (p1 f))), (4, .int x_5), (0, .ref (a 16)), (1, .int (nI lv)), (2, .int mo), (3, .int (nI f))]) hx hb dX2_valueFromParts_31 hl (by decide) rfl (fun ls hl => ?_)
    refine lv_iload hx hb dX2_valueFromParts_33 (lv_at hl 1 rfl) ?_
    refine lv_iconst (v := (-1 : Int32)) hx hb dX2_valueFromParts_35 (by decide) ?_
    refine lv_icmp_ne (tgt := 43) hx hb dX2_valueFromParts_36 (by decide) (fun c36 => ?_) (fun c36 => ?_)
    ·
      refine lv_aload_n hx hb dX2_valueFromParts_43 rfl (lv_at hl 3 rfl) ?_
      refine va_get (D := D) (ci := 2) (v := .ref (a 17)) (C := RX2) (T := TX2) (N := 3) hx hb hts hinX2 hown hK1 hP 16 rfl rfl 2 (by decide) (hts (.fieldLink RX2 21 "KnowledgeModel$Truth" "values" "[[I") (List.mem_of_getElem? (i := 5) rfl)) (fun _ h9 => h9) rfl dX2_valueFromParts_44 ?_
      refine lv_iload_n hx hb dX2_valueFromParts_47 rfl (lv_at hl 4 rfl) ?_
      refine xaald (j := lv) (q0 := 17) (t0 := 2) (f := fun i => a (18 + i)) hx hb hK1 hP rfl rfl (by omega) (by decide) dX2_valueFromParts_48 ?_
      refine lv_iload hx hb dX2_valueFromParts_49 (lv_at hl 1 rfl) ?_
      refine xiald (j := p1 f) (q0 := (18 + lv)) (t0 := 0) hx hb hK1 hP (xg_va (by omega)) rfl (by omega) (by decide) dX2_valueFromParts_51 ?_
      refine xtop (y := (sem M0 n kd p1 p2 sb mo (p1 f))) (by exact hp1 (by omega)) ?_
      refine lv_topi (fun x_6 hx_6 => ?_)
      refine lv_istore (lv' := [(7, .int x_6), (6, .int (-1 : Int32)), (5, .int (nI (p1 f))), (4, .int x_5), (0, .ref (a 16)), (1, .int (nI lv)), (2, .int mo), (3, .int (nI f))]) hx hb dX2_valueFromParts_52 hl (by decide) rfl (fun ls hl => ?_)
      refine lv_aload_n hx hb dX2_valueFromParts_54 rfl (lv_at hl 4 rfl) ?_
      refine va_get (D := D) (ci := 2) (v := .ref (a 8)) (C := RX2) (T := TX2) (N := 3) hx hb hts hinX2 hown hK1 hP 16 rfl rfl 1 (by decide) (hts (.fieldLink RX2 15 "KnowledgeModel$Truth" "formulas" "LKnowledgeModel$Formulas;") (List.mem_of_getElem? (i := 1) rfl)) (fun _ h9 => h9) rfl dX2_valueFromParts_55 ?_
      refine va_get (D := D) (ci := 0) (v := .ref (a 9)) (C := RX0) (T := TX0) (N := 8) hx hb hts hinX0 hown hK1 hP 8 rfl rfl 0 (by decide) (hts (.fieldLink RX2 53 "KnowledgeModel$Formulas" "kindOf" "[I") (List.mem_of_getElem? (i := 6) rfl)) (fun _ h9 => h9) rfl dX2_valueFromParts_58 ?_
      refine lv_iload_n hx hb dX2_valueFromParts_61 rfl (lv_at hl 7 rfl) ?_
      refine xiald (j := f) (q0 := 9) (t0 := 0) hx hb hK1 hP rfl rfl (by omega) (by decide) dX2_valueFromParts_62 ?_
      refine xtop (y := (nI 3)) (by exact ((hag 6 f (by decide)).trans hk6).trans (congrArg nI hkd)) ?_
      refine lv_tableIn (tgt := 146) hx hb dX2_valueFromParts_63 (by decide) (by decide) rfl (by decide) ?_
      refine lv_aload_n hx hb dX2_valueFromParts_146 rfl (lv_at hl 4 rfl) ?_
      refine lv_iload hx hb dX2_valueFromParts_147 (lv_at hl 0 rfl) ?_
      refine lv_iload hx hb dX2_valueFromParts_149 (lv_at hl 3 rfl) ?_
      refine lv_iload_n hx hb dX2_valueFromParts_151 rfl (lv_at hl 6 rfl) ?_
      refine xcalli (va_runV (As := [.int x_6, .int x_5, .int mo]) (rest := []) ⟨hx, hb, hml, hown, hts⟩ (c_X2_whereAllSeenAreIn l D cs a M N n x_6 x_5 mo hn (by omega)) (cwV 3 hts gX2_valueFromParts_X2_whereAllSeenAreIn rfl rfl rfl (by decide +kernel) ⟨Nat.le_of_ble_eq_true rfl, Nat.le_of_ble_eq_true rfl⟩) (xpreV hP hK (ci := 2) 16 rfl rfl) rfl rfl hl.1 rfl (lv_room (Nat.le_of_ble_eq_true rfl)) dX2_valueFromParts_152 ⟨Nat.le_of_ble_eq_true rfl, Nat.le_of_ble_eq_true rfl⟩) hS hP (fun H locs hP hS => ?_)
      refine xtop (y := (wSeen M0 n x_6 x_5 mo)) (by exact wSeen_c hag) ?_
      subst hQ
      have hrel : (∀ i x, ¬ (12 + lv + 1 ≤ i ∧ i < 15) → M i x = M i x) := by first | (intro i x _; rfl) | exact trivial
      have hfin : (wSeen M0 n x_6 x_5 mo) = sem M0 n kd p1 p2 sb mo f := by rw [sem_eq hwp hf]; simp only [hkd, if_true, if_false, show (1 : Nat) ≠ 0 by decide, show (2 : Nat) ≠ 0 by decide, show (2 : Nat) ≠ 1 by decide, show (3 : Nat) ≠ 0 by decide, show (3 : Nat) ≠ 1 by decide, show (3 : Nat) ≠ 2 by decide, show (3 : Nat) ≠ 4 by decide, show (3 : Nat) ≠ 6 by decide, show (4 : Nat) ≠ 0 by decide, show (4 : Nat) ≠ 1 by decide, show (4 : Nat) ≠ 2 by decide, show (5 : Nat) ≠ 0 by decide, show (5 : Nat) ≠ 1 by decide, show (5 : Nat) ≠ 2 by decide, show (5 : Nat) ≠ 4 by decide, show (5 : Nat) ≠ 6 by decide, show (6 : Nat) ≠ 0 by decide, show (6 : Nat) ≠ 1 by decide, show (6 : Nat) ≠ 2 by decide, show (6 : Nat) ≠ 4 by decide, hx_5, c36, hx_6]
      exact W.iret hx hb hr (fun t ht hW => ⟨⟨_, M, rfl, ⟨hfin, hrel⟩, by rw [← ht] at hP; exact hP⟩, hS.F ht⟩) hS.2.2 dX2_valueFromParts_155
    ·
      exfalso
      exact nI_ne_m1 (by omega) c36
  ·
    obtain ⟨hB1, hB2⟩ := hB (by omega)
    have hq1 := hL.1 (by omega)
    have hE1 := hE (by omega) (by omega)
    refine lv_aload_n hx hb dX2_valueFromParts_0 rfl (lv_at hl 0 rfl) ?_
    refine va_get (D := D) (ci := 2) (v := .ref (a 8)) (C := RX2) (T := TX2) (N := 3) hx hb hts hinX2 hown hK1 hP 16 rfl rfl 1 (by decide) (hts (.fieldLink RX2 15 "KnowledgeModel$Truth" "formulas" "LKnowledgeModel$Formulas;") (List.mem_of_getElem? (i := 1) rfl)) (fun _ h9 => h9) rfl dX2_valueFromParts_1 ?_
    refine va_get (D := D) (ci := 0) (v := .ref (a 10)) (C := RX0) (T := TX0) (N := 8) hx hb hts hinX0 hown hK1 hP 8 rfl rfl 1 (by decide) (hts (.fieldLink RX2 43 "KnowledgeModel$Formulas" "subjectOf" "[I") (List.mem_of_getElem? (i := 2) rfl)) (fun _ h9 => h9) rfl dX2_valueFromParts_4 ?_
    refine lv_iload_n hx hb dX2_valueFromParts_7 rfl (lv_at hl 3 rfl) ?_
    refine xiald (j := f) (q0 := 10) (t0 := 0) hx hb hK1 hP rfl rfl (by omega) (by decide) dX2_valueFromParts_8 ?_
    refine xtop (y := (M0 7 f)) (by exact hag 7 f (by decide)) ?_
    refine lv_topi (fun x_7 hx_7 => ?_)
    refine lv_istore (lv' := [(4, .int x_7), (0, .ref (a 16)), (1, .int (nI lv)), (2, .int mo), (3, .int (nI f))]) hx hb dX2_valueFromParts_9 hl (by decide) rfl (fun ls hl => ?_)
    refine lv_aload_n hx hb dX2_valueFromParts_11 rfl (lv_at hl 1 rfl) ?_
    refine va_get (D := D) (ci := 2) (v := .ref (a 8)) (C := RX2) (T := TX2) (N := 3) hx hb hts hinX2 hown hK1 hP 16 rfl rfl 1 (by decide) (hts (.fieldLink RX2 15 "KnowledgeModel$Truth" "formulas" "LKnowledgeModel$Formulas;") (List.mem_of_getElem? (i := 1) rfl)) (fun _ h9 => h9) rfl dX2_valueFromParts_12 ?_
    refine va_get (D := D) (ci := 0) (v := .ref (a 11)) (C := RX0) (T := TX0) (N := 8) hx hb hts hinX0 hown hK1 hP 8 rfl rfl 2 (by decide) (hts (.fieldLink RX2 47 "KnowledgeModel$Formulas" "firstOf" "[I") (List.mem_of_getElem? (i := 3) rfl)) (fun _ h9 => h9) rfl dX2_valueFromParts_15 ?_
    refine lv_iload_n hx hb dX2_valueFromParts_18 rfl (lv_at hl 4 rfl) ?_
    refine xiald (j := f) (q0 := 11) (t0 := 0) hx hb hK1 hP rfl rfl (by omega) (by decide) dX2_valueFromParts_19 ?_
    refine xtop (y := (nI (p1 f))) (by exact (hag 8 f (by decide)).trans hB1) ?_
    refine lv_istore (lv' := [(5, .int (nI (p1 f))), (4, .int x_7), (0, .ref (a 16)), (1, .int (nI lv)), (2, .int mo), (3, .int (nI f))]) hx hb dX2_valueFromParts_20 hl (by decide) rfl (fun ls hl => ?_)
    refine lv_aload_n hx hb dX2_valueFromParts_22 rfl (lv_at hl 2 rfl) ?_
    refine va_get (D := D) (ci := 2) (v := .ref (a 8)) (C := RX2) (T := TX2) (N := 3) hx hb hts hinX2 hown hK1 hP 16 rfl rfl 1 (by decide) (hts (.fieldLink RX2 15 "KnowledgeModel$Truth" "formulas" "LKnowledgeModel$Formulas;") (List.mem_of_getElem? (i := 1) rfl)) (fun _ h9 => h9) rfl dX2_valueFromParts_23 ?_
    refine va_get (D := D) (ci := 0) (v := .ref (a 12)) (C := RX0) (T := TX0) (N := 8) hx hb hts hinX0 hown hK1 hP 8 rfl rfl 3 (by decide) (hts (.fieldLink RX2 50 "KnowledgeModel$Formulas" "secondOf" "[I") (List.mem_of_getElem? (i := 4) rfl)) (fun _ h9 => h9) rfl dX2_valueFromParts_26 ?_
    refine lv_iload_n hx hb dX2_valueFromParts_29 rfl (lv_at hl 5 rfl) ?_
    refine xiald (j := f) (q0 := 12) (t0 := 0) hx hb hK1 hP rfl rfl (by omega) (by decide) dX2_valueFromParts_30 ?_
    refine xtop (y := (-1 : Int32)) (by exact (hag 9 f (by decide)).trans hE1) ?_
    refine lv_istore (lv' := [(6, .int (-1 : Int32)), (5, .int (nI (p1 f))), (4, .int x_7), (0, .ref (a 16)), (1, .int (nI lv)), (2, .int mo), (3, .int (nI f))]) hx hb dX2_valueFromParts_31 hl (by decide) rfl (fun ls hl => ?_)
    refine lv_iload hx hb dX2_valueFromParts_33 (lv_at hl 1 rfl) ?_
    refine lv_iconst (v := (-1 : Int32)) hx hb dX2_valueFromParts_35 (by decide) ?_
    refine lv_icmp_ne (tgt := 43) hx hb dX2_valueFromParts_36 (by decide) (fun c36 => ?_) (fun c36 => ?_)
    ·
      refine lv_aload_n hx hb dX2_valueFromParts_43 rfl (lv_at hl 3 rfl) ?_
      refine va_get (D := D) (ci := 2) (v := .ref (a 17)) (C := RX2) (T := TX2) (N := 3) hx hb hts hinX2 hown hK1 hP 16 rfl rfl 2 (by decide) (hts (.fieldLink RX2 21 "KnowledgeModel$Truth" "values" "[[I") (List.mem_of_getElem? (i := 5) rfl)) (fun _ h9 => h9) rfl dX2_valueFromParts_44 ?_
      refine lv_iload_n hx hb dX2_valueFromParts_47 rfl (lv_at hl 4 rfl) ?_
      refine xaald (j := lv) (q0 := 17) (t0 := 2) (f := fun i => a (18 + i)) hx hb hK1 hP rfl rfl (by omega) (by decide) dX2_valueFromParts_48 ?_
      refine lv_iload hx hb dX2_valueFromParts_49 (lv_at hl 1 rfl) ?_
      refine xiald (j := p1 f) (q0 := (18 + lv)) (t0 := 0) hx hb hK1 hP (xg_va (by omega)) rfl (by omega) (by decide) dX2_valueFromParts_51 ?_
      refine xtop (y := (sem M0 n kd p1 p2 sb mo (p1 f))) (by exact hp1 (by omega)) ?_
      refine lv_topi (fun x_8 hx_8 => ?_)
      refine lv_istore (lv' := [(7, .int x_8), (6, .int (-1 : Int32)), (5, .int (nI (p1 f))), (4, .int x_7), (0, .ref (a 16)), (1, .int (nI lv)), (2, .int mo), (3, .int (nI f))]) hx hb dX2_valueFromParts_52 hl (by decide) rfl (fun ls hl => ?_)
      refine lv_aload_n hx hb dX2_valueFromParts_54 rfl (lv_at hl 4 rfl) ?_
      refine va_get (D := D) (ci := 2) (v := .ref (a 8)) (C := RX2) (T := TX2) (N := 3) hx hb hts hinX2 hown hK1 hP 16 rfl rfl 1 (by decide) (hts (.fieldLink RX2 15 "KnowledgeModel$Truth" "formulas" "LKnowledgeModel$Formulas;") (List.mem_of_getElem? (i := 1) rfl)) (fun _ h9 => h9) rfl dX2_valueFromParts_55 ?_
      refine va_get (D := D) (ci := 0) (v := .ref (a 9)) (C := RX0) (T := TX0) (N := 8) hx hb hts hinX0 hown hK1 hP 8 rfl rfl 0 (by decide) (hts (.fieldLink RX2 53 "KnowledgeModel$Formulas" "kindOf" "[I") (List.mem_of_getElem? (i := 6) rfl)) (fun _ h9 => h9) rfl dX2_valueFromParts_58 ?_
      refine lv_iload_n hx hb dX2_valueFromParts_61 rfl (lv_at hl 7 rfl) ?_
      refine xiald (j := f) (q0 := 9) (t0 := 0) hx hb hK1 hP rfl rfl (by omega) (by decide) dX2_valueFromParts_62 ?_
      refine xtop (y := (nI 4)) (by exact ((hag 6 f (by decide)).trans hk6).trans (congrArg nI hkd)) ?_
      refine lv_tableIn (tgt := 156) hx hb dX2_valueFromParts_63 (by decide) (by decide) rfl (by decide) ?_
      refine lv_aload_n hx hb dX2_valueFromParts_156 rfl (lv_at hl 4 rfl) ?_
      refine lv_iload hx hb dX2_valueFromParts_157 (lv_at hl 0 rfl) ?_
      refine lv_iload hx hb dX2_valueFromParts_159 (lv_at hl 3 rfl) ?_
      refine lv_iload_n hx hb dX2_valueFromParts_161 rfl (lv_at hl 6 rfl) ?_
      refine xcalli (va_runV (As := [.int x_8, .int x_7, .int mo]) (rest := []) ⟨hx, hb, hml, hown, hts⟩ (c_X2_whereAllReachedAreIn l D cs a M N n x_8 x_7 mo hn (by omega)) (cwV 3 hts gX2_valueFromParts_X2_whereAllReachedAreIn rfl rfl rfl (by decide +kernel) ⟨Nat.le_of_ble_eq_true rfl, Nat.le_of_ble_eq_true rfl⟩) (xpreV hP hK (ci := 2) 16 rfl rfl) rfl rfl hl.1 rfl (lv_room (Nat.le_of_ble_eq_true rfl)) dX2_valueFromParts_162 ⟨Nat.le_of_ble_eq_true rfl, Nat.le_of_ble_eq_true rfl⟩) hS hP (fun H locs hP hS => ?_)
      refine xtop (y := (wReach M0 n x_8 x_7 mo)) (by exact wReach_c hag) ?_
      subst hQ
      have hrel : (∀ i x, ¬ (12 + lv + 1 ≤ i ∧ i < 15) → M i x = M i x) := by first | (intro i x _; rfl) | exact trivial
      have hfin : (wReach M0 n x_8 x_7 mo) = sem M0 n kd p1 p2 sb mo f := by rw [sem_eq hwp hf]; simp only [hkd, if_true, if_false, show (1 : Nat) ≠ 0 by decide, show (2 : Nat) ≠ 0 by decide, show (2 : Nat) ≠ 1 by decide, show (3 : Nat) ≠ 0 by decide, show (3 : Nat) ≠ 1 by decide, show (3 : Nat) ≠ 2 by decide, show (3 : Nat) ≠ 4 by decide, show (3 : Nat) ≠ 6 by decide, show (4 : Nat) ≠ 0 by decide, show (4 : Nat) ≠ 1 by decide, show (4 : Nat) ≠ 2 by decide, show (5 : Nat) ≠ 0 by decide, show (5 : Nat) ≠ 1 by decide, show (5 : Nat) ≠ 2 by decide, show (5 : Nat) ≠ 4 by decide, show (5 : Nat) ≠ 6 by decide, show (6 : Nat) ≠ 0 by decide, show (6 : Nat) ≠ 1 by decide, show (6 : Nat) ≠ 2 by decide, show (6 : Nat) ≠ 4 by decide, hx_7, c36, hx_8]
      exact W.iret hx hb hr (fun t ht hW => ⟨⟨_, M, rfl, ⟨hfin, hrel⟩, by rw [← ht] at hP; exact hP⟩, hS.F ht⟩) hS.2.2 dX2_valueFromParts_165
    ·
      exfalso
      exact nI_ne_m1 (by omega) c36
  ·
    obtain ⟨hB1, hB2⟩ := hB (by omega)
    have hq1 := hL.1 (by omega)
    have hE1 := hE (by omega) (by omega)
    refine lv_aload_n hx hb dX2_valueFromParts_0 rfl (lv_at hl 0 rfl) ?_
    refine va_get (D := D) (ci := 2) (v := .ref (a 8)) (C := RX2) (T := TX2) (N := 3) hx hb hts hinX2 hown hK1 hP 16 rfl rfl 1 (by decide) (hts (.fieldLink RX2 15 "KnowledgeModel$Truth" "formulas" "LKnowledgeModel$Formulas;") (List.mem_of_getElem? (i := 1) rfl)) (fun _ h9 => h9) rfl dX2_valueFromParts_1 ?_
    refine va_get (D := D) (ci := 0) (v := .ref (a 10)) (C := RX0) (T := TX0) (N := 8) hx hb hts hinX0 hown hK1 hP 8 rfl rfl 1 (by decide) (hts (.fieldLink RX2 43 "KnowledgeModel$Formulas" "subjectOf" "[I") (List.mem_of_getElem? (i := 2) rfl)) (fun _ h9 => h9) rfl dX2_valueFromParts_4 ?_
    refine lv_iload_n hx hb dX2_valueFromParts_7 rfl (lv_at hl 3 rfl) ?_
    refine xiald (j := f) (q0 := 10) (t0 := 0) hx hb hK1 hP rfl rfl (by omega) (by decide) dX2_valueFromParts_8 ?_
    refine xtop (y := (M0 7 f)) (by exact hag 7 f (by decide)) ?_
    refine lv_topi (fun x_9 hx_9 => ?_)
    refine lv_istore (lv' := [(4, .int x_9), (0, .ref (a 16)), (1, .int (nI lv)), (2, .int mo), (3, .int (nI f))]) hx hb dX2_valueFromParts_9 hl (by decide) rfl (fun ls hl => ?_)
    refine lv_aload_n hx hb dX2_valueFromParts_11 rfl (lv_at hl 1 rfl) ?_
    refine va_get (D := D) (ci := 2) (v := .ref (a 8)) (C := RX2) (T := TX2) (N := 3) hx hb hts hinX2 hown hK1 hP 16 rfl rfl 1 (by decide) (hts (.fieldLink RX2 15 "KnowledgeModel$Truth" "formulas" "LKnowledgeModel$Formulas;") (List.mem_of_getElem? (i := 1) rfl)) (fun _ h9 => h9) rfl dX2_valueFromParts_12 ?_
    refine va_get (D := D) (ci := 0) (v := .ref (a 11)) (C := RX0) (T := TX0) (N := 8) hx hb hts hinX0 hown hK1 hP 8 rfl rfl 2 (by decide) (hts (.fieldLink RX2 47 "KnowledgeModel$Formulas" "firstOf" "[I") (List.mem_of_getElem? (i := 3) rfl)) (fun _ h9 => h9) rfl dX2_valueFromParts_15 ?_
    refine lv_iload_n hx hb dX2_valueFromParts_18 rfl (lv_at hl 4 rfl) ?_
    refine xiald (j := f) (q0 := 11) (t0 := 0) hx hb hK1 hP rfl rfl (by omega) (by decide) dX2_valueFromParts_19 ?_
    refine xtop (y := (nI (p1 f))) (by exact (hag 8 f (by decide)).trans hB1) ?_
    refine lv_istore (lv' := [(5, .int (nI (p1 f))), (4, .int x_9), (0, .ref (a 16)), (1, .int (nI lv)), (2, .int mo), (3, .int (nI f))]) hx hb dX2_valueFromParts_20 hl (by decide) rfl (fun ls hl => ?_)
    refine lv_aload_n hx hb dX2_valueFromParts_22 rfl (lv_at hl 2 rfl) ?_
    refine va_get (D := D) (ci := 2) (v := .ref (a 8)) (C := RX2) (T := TX2) (N := 3) hx hb hts hinX2 hown hK1 hP 16 rfl rfl 1 (by decide) (hts (.fieldLink RX2 15 "KnowledgeModel$Truth" "formulas" "LKnowledgeModel$Formulas;") (List.mem_of_getElem? (i := 1) rfl)) (fun _ h9 => h9) rfl dX2_valueFromParts_23 ?_
    refine va_get (D := D) (ci := 0) (v := .ref (a 12)) (C := RX0) (T := TX0) (N := 8) hx hb hts hinX0 hown hK1 hP 8 rfl rfl 3 (by decide) (hts (.fieldLink RX2 50 "KnowledgeModel$Formulas" "secondOf" "[I") (List.mem_of_getElem? (i := 4) rfl)) (fun _ h9 => h9) rfl dX2_valueFromParts_26 ?_
    refine lv_iload_n hx hb dX2_valueFromParts_29 rfl (lv_at hl 5 rfl) ?_
    refine xiald (j := f) (q0 := 12) (t0 := 0) hx hb hK1 hP rfl rfl (by omega) (by decide) dX2_valueFromParts_30 ?_
    refine xtop (y := (-1 : Int32)) (by exact (hag 9 f (by decide)).trans hE1) ?_
    refine lv_istore (lv' := [(6, .int (-1 : Int32)), (5, .int (nI (p1 f))), (4, .int x_9), (0, .ref (a 16)), (1, .int (nI lv)), (2, .int mo), (3, .int (nI f))]) hx hb dX2_valueFromParts_31 hl (by decide) rfl (fun ls hl => ?_)
    refine lv_iload hx hb dX2_valueFromParts_33 (lv_at hl 1 rfl) ?_
    refine lv_iconst (v := (-1 : Int32)) hx hb dX2_valueFromParts_35 (by decide) ?_
    refine lv_icmp_ne (tgt := 43) hx hb dX2_valueFromParts_36 (by decide) (fun c36 => ?_) (fun c36 => ?_)
    ·
      refine lv_aload_n hx hb dX2_valueFromParts_43 rfl (lv_at hl 3 rfl) ?_
      refine va_get (D := D) (ci := 2) (v := .ref (a 17)) (C := RX2) (T := TX2) (N := 3) hx hb hts hinX2 hown hK1 hP 16 rfl rfl 2 (by decide) (hts (.fieldLink RX2 21 "KnowledgeModel$Truth" "values" "[[I") (List.mem_of_getElem? (i := 5) rfl)) (fun _ h9 => h9) rfl dX2_valueFromParts_44 ?_
      refine lv_iload_n hx hb dX2_valueFromParts_47 rfl (lv_at hl 4 rfl) ?_
      refine xaald (j := lv) (q0 := 17) (t0 := 2) (f := fun i => a (18 + i)) hx hb hK1 hP rfl rfl (by omega) (by decide) dX2_valueFromParts_48 ?_
      refine lv_iload hx hb dX2_valueFromParts_49 (lv_at hl 1 rfl) ?_
      refine xiald (j := p1 f) (q0 := (18 + lv)) (t0 := 0) hx hb hK1 hP (xg_va (by omega)) rfl (by omega) (by decide) dX2_valueFromParts_51 ?_
      refine xtop (y := (sem M0 n kd p1 p2 sb mo (p1 f))) (by exact hp1 (by omega)) ?_
      refine lv_topi (fun x_10 hx_10 => ?_)
      refine lv_istore (lv' := [(7, .int x_10), (6, .int (-1 : Int32)), (5, .int (nI (p1 f))), (4, .int x_9), (0, .ref (a 16)), (1, .int (nI lv)), (2, .int mo), (3, .int (nI f))]) hx hb dX2_valueFromParts_52 hl (by decide) rfl (fun ls hl => ?_)
      refine lv_aload_n hx hb dX2_valueFromParts_54 rfl (lv_at hl 4 rfl) ?_
      refine va_get (D := D) (ci := 2) (v := .ref (a 8)) (C := RX2) (T := TX2) (N := 3) hx hb hts hinX2 hown hK1 hP 16 rfl rfl 1 (by decide) (hts (.fieldLink RX2 15 "KnowledgeModel$Truth" "formulas" "LKnowledgeModel$Formulas;") (List.mem_of_getElem? (i := 1) rfl)) (fun _ h9 => h9) rfl dX2_valueFromParts_55 ?_
      refine va_get (D := D) (ci := 0) (v := .ref (a 9)) (C := RX0) (T := TX0) (N := 8) hx hb hts hinX0 hown hK1 hP 8 rfl rfl 0 (by decide) (hts (.fieldLink RX2 53 "KnowledgeModel$Formulas" "kindOf" "[I") (List.mem_of_getElem? (i := 6) rfl)) (fun _ h9 => h9) rfl dX2_valueFromParts_58 ?_
      refine lv_iload_n hx hb dX2_valueFromParts_61 rfl (lv_at hl 7 rfl) ?_
      refine xiald (j := f) (q0 := 9) (t0 := 0) hx hb hK1 hP rfl rfl (by omega) (by decide) dX2_valueFromParts_62 ?_
      refine xtop (y := (nI 5)) (by exact ((hag 6 f (by decide)).trans hk6).trans (congrArg nI hkd)) ?_
      refine lv_tableIn (tgt := 146) hx hb dX2_valueFromParts_63 (by decide) (by decide) rfl (by decide) ?_
      refine lv_aload_n hx hb dX2_valueFromParts_146 rfl (lv_at hl 4 rfl) ?_
      refine lv_iload hx hb dX2_valueFromParts_147 (lv_at hl 0 rfl) ?_
      refine lv_iload hx hb dX2_valueFromParts_149 (lv_at hl 3 rfl) ?_
      refine lv_iload_n hx hb dX2_valueFromParts_151 rfl (lv_at hl 6 rfl) ?_
      refine xcalli (va_runV (As := [.int x_10, .int x_9, .int mo]) (rest := []) ⟨hx, hb, hml, hown, hts⟩ (c_X2_whereAllSeenAreIn l D cs a M N n x_10 x_9 mo hn (by omega)) (cwV 3 hts gX2_valueFromParts_X2_whereAllSeenAreIn rfl rfl rfl (by decide +kernel) ⟨Nat.le_of_ble_eq_true rfl, Nat.le_of_ble_eq_true rfl⟩) (xpreV hP hK (ci := 2) 16 rfl rfl) rfl rfl hl.1 rfl (lv_room (Nat.le_of_ble_eq_true rfl)) dX2_valueFromParts_152 ⟨Nat.le_of_ble_eq_true rfl, Nat.le_of_ble_eq_true rfl⟩) hS hP (fun H locs hP hS => ?_)
      refine xtop (y := (wSeen M0 n x_10 x_9 mo)) (by exact wSeen_c hag) ?_
      subst hQ
      have hrel : (∀ i x, ¬ (12 + lv + 1 ≤ i ∧ i < 15) → M i x = M i x) := by first | (intro i x _; rfl) | exact trivial
      have hfin : (wSeen M0 n x_10 x_9 mo) = sem M0 n kd p1 p2 sb mo f := by rw [sem_eq hwp hf]; simp only [hkd, if_true, if_false, show (1 : Nat) ≠ 0 by decide, show (2 : Nat) ≠ 0 by decide, show (2 : Nat) ≠ 1 by decide, show (3 : Nat) ≠ 0 by decide, show (3 : Nat) ≠ 1 by decide, show (3 : Nat) ≠ 2 by decide, show (3 : Nat) ≠ 4 by decide, show (3 : Nat) ≠ 6 by decide, show (4 : Nat) ≠ 0 by decide, show (4 : Nat) ≠ 1 by decide, show (4 : Nat) ≠ 2 by decide, show (5 : Nat) ≠ 0 by decide, show (5 : Nat) ≠ 1 by decide, show (5 : Nat) ≠ 2 by decide, show (5 : Nat) ≠ 4 by decide, show (5 : Nat) ≠ 6 by decide, show (6 : Nat) ≠ 0 by decide, show (6 : Nat) ≠ 1 by decide, show (6 : Nat) ≠ 2 by decide, show (6 : Nat) ≠ 4 by decide, hx_9, c36, hx_10]
      exact W.iret hx hb hr (fun t ht hW => ⟨⟨_, M, rfl, ⟨hfin, hrel⟩, by rw [← ht] at hP; exact hP⟩, hS.F ht⟩) hS.2.2 dX2_valueFromParts_155
    ·
      exfalso
      exact nI_ne_m1 (by omega) c36
  ·
    obtain ⟨hB1, hB2⟩ := hB (by omega)
    have hq1 := hL.1 (by omega)
    have hC1 := hC (by omega)
    have hq2 := hL.2 (by omega)
    have hD1 := hD6 hkd
    refine lv_aload_n hx hb dX2_valueFromParts_0 rfl (lv_at hl 0 rfl) ?_
    refine va_get (D := D) (ci := 2) (v := .ref (a 8)) (C := RX2) (T := TX2) (N := 3) hx hb hts hinX2 hown hK1 hP 16 rfl rfl 1 (by decide) (hts (.fieldLink RX2 15 "KnowledgeModel$Truth" "formulas" "LKnowledgeModel$Formulas;") (List.mem_of_getElem? (i := 1) rfl)) (fun _ h9 => h9) rfl dX2_valueFromParts_1 ?_
    refine va_get (D := D) (ci := 0) (v := .ref (a 10)) (C := RX0) (T := TX0) (N := 8) hx hb hts hinX0 hown hK1 hP 8 rfl rfl 1 (by decide) (hts (.fieldLink RX2 43 "KnowledgeModel$Formulas" "subjectOf" "[I") (List.mem_of_getElem? (i := 2) rfl)) (fun _ h9 => h9) rfl dX2_valueFromParts_4 ?_
    refine lv_iload_n hx hb dX2_valueFromParts_7 rfl (lv_at hl 3 rfl) ?_
    refine xiald (j := f) (q0 := 10) (t0 := 0) hx hb hK1 hP rfl rfl (by omega) (by decide) dX2_valueFromParts_8 ?_
    refine xtop (y := (M0 7 f)) (by exact hag 7 f (by decide)) ?_
    refine lv_topi (fun x_11 hx_11 => ?_)
    refine lv_istore (lv' := [(4, .int x_11), (0, .ref (a 16)), (1, .int (nI lv)), (2, .int mo), (3, .int (nI f))]) hx hb dX2_valueFromParts_9 hl (by decide) rfl (fun ls hl => ?_)
    refine lv_aload_n hx hb dX2_valueFromParts_11 rfl (lv_at hl 1 rfl) ?_
    refine va_get (D := D) (ci := 2) (v := .ref (a 8)) (C := RX2) (T := TX2) (N := 3) hx hb hts hinX2 hown hK1 hP 16 rfl rfl 1 (by decide) (hts (.fieldLink RX2 15 "KnowledgeModel$Truth" "formulas" "LKnowledgeModel$Formulas;") (List.mem_of_getElem? (i := 1) rfl)) (fun _ h9 => h9) rfl dX2_valueFromParts_12 ?_
    refine va_get (D := D) (ci := 0) (v := .ref (a 11)) (C := RX0) (T := TX0) (N := 8) hx hb hts hinX0 hown hK1 hP 8 rfl rfl 2 (by decide) (hts (.fieldLink RX2 47 "KnowledgeModel$Formulas" "firstOf" "[I") (List.mem_of_getElem? (i := 3) rfl)) (fun _ h9 => h9) rfl dX2_valueFromParts_15 ?_
    refine lv_iload_n hx hb dX2_valueFromParts_18 rfl (lv_at hl 4 rfl) ?_
    refine xiald (j := f) (q0 := 11) (t0 := 0) hx hb hK1 hP rfl rfl (by omega) (by decide) dX2_valueFromParts_19 ?_
    refine xtop (y := (nI (p1 f))) (by exact (hag 8 f (by decide)).trans hB1) ?_
    refine lv_istore (lv' := [(5, .int (nI (p1 f))), (4, .int x_11), (0, .ref (a 16)), (1, .int (nI lv)), (2, .int mo), (3, .int (nI f))]) hx hb dX2_valueFromParts_20 hl (by decide) rfl (fun ls hl => ?_)
    refine lv_aload_n hx hb dX2_valueFromParts_22 rfl (lv_at hl 2 rfl) ?_
    refine va_get (D := D) (ci := 2) (v := .ref (a 8)) (C := RX2) (T := TX2) (N := 3) hx hb hts hinX2 hown hK1 hP 16 rfl rfl 1 (by decide) (hts (.fieldLink RX2 15 "KnowledgeModel$Truth" "formulas" "LKnowledgeModel$Formulas;") (List.mem_of_getElem? (i := 1) rfl)) (fun _ h9 => h9) rfl dX2_valueFromParts_23 ?_
    refine va_get (D := D) (ci := 0) (v := .ref (a 12)) (C := RX0) (T := TX0) (N := 8) hx hb hts hinX0 hown hK1 hP 8 rfl rfl 3 (by decide) (hts (.fieldLink RX2 50 "KnowledgeModel$Formulas" "secondOf" "[I") (List.mem_of_getElem? (i := 4) rfl)) (fun _ h9 => h9) rfl dX2_valueFromParts_26 ?_
    refine lv_iload_n hx hb dX2_valueFromParts_29 rfl (lv_at hl 5 rfl) ?_
    refine xiald (j := f) (q0 := 12) (t0 := 0) hx hb hK1 hP rfl rfl (by omega) (by decide) dX2_valueFromParts_30 ?_
    refine xtop (y := (nI (p2 f))) (by exact (hag 9 f (by decide)).trans hC1) ?_
    refine lv_istore (lv' := [(6, .int (nI (p2 f))), (5, .int (nI (p1 f))), (4, .int x_11), (0, .ref (a 16)), (1, .int (nI lv)), (2, .int mo), (3, .int (nI f))]) hx hb dX2_valueFromParts_31 hl (by decide) rfl (fun ls hl => ?_)
    refine lv_iload hx hb dX2_valueFromParts_33 (lv_at hl 1 rfl) ?_
    refine lv_iconst (v := (-1 : Int32)) hx hb dX2_valueFromParts_35 (by decide) ?_
    refine lv_icmp_ne (tgt := 43) hx hb dX2_valueFromParts_36 (by decide) (fun c36 => ?_) (fun c36 => ?_)
    ·
      refine lv_aload_n hx hb dX2_valueFromParts_43 rfl (lv_at hl 3 rfl) ?_
      refine va_get (D := D) (ci := 2) (v := .ref (a 17)) (C := RX2) (T := TX2) (N := 3) hx hb hts hinX2 hown hK1 hP 16 rfl rfl 2 (by decide) (hts (.fieldLink RX2 21 "KnowledgeModel$Truth" "values" "[[I") (List.mem_of_getElem? (i := 5) rfl)) (fun _ h9 => h9) rfl dX2_valueFromParts_44 ?_
      refine lv_iload_n hx hb dX2_valueFromParts_47 rfl (lv_at hl 4 rfl) ?_
      refine xaald (j := lv) (q0 := 17) (t0 := 2) (f := fun i => a (18 + i)) hx hb hK1 hP rfl rfl (by omega) (by decide) dX2_valueFromParts_48 ?_
      refine lv_iload hx hb dX2_valueFromParts_49 (lv_at hl 1 rfl) ?_
      refine xiald (j := p1 f) (q0 := (18 + lv)) (t0 := 0) hx hb hK1 hP (xg_va (by omega)) rfl (by omega) (by decide) dX2_valueFromParts_51 ?_
      refine xtop (y := (sem M0 n kd p1 p2 sb mo (p1 f))) (by exact hp1 (by omega)) ?_
      refine lv_topi (fun x_12 hx_12 => ?_)
      refine lv_istore (lv' := [(7, .int x_12), (6, .int (nI (p2 f))), (5, .int (nI (p1 f))), (4, .int x_11), (0, .ref (a 16)), (1, .int (nI lv)), (2, .int mo), (3, .int (nI f))]) hx hb dX2_valueFromParts_52 hl (by decide) rfl (fun ls hl => ?_)
      refine lv_aload_n hx hb dX2_valueFromParts_54 rfl (lv_at hl 4 rfl) ?_
      refine va_get (D := D) (ci := 2) (v := .ref (a 8)) (C := RX2) (T := TX2) (N := 3) hx hb hts hinX2 hown hK1 hP 16 rfl rfl 1 (by decide) (hts (.fieldLink RX2 15 "KnowledgeModel$Truth" "formulas" "LKnowledgeModel$Formulas;") (List.mem_of_getElem? (i := 1) rfl)) (fun _ h9 => h9) rfl dX2_valueFromParts_55 ?_
      refine va_get (D := D) (ci := 0) (v := .ref (a 9)) (C := RX0) (T := TX0) (N := 8) hx hb hts hinX0 hown hK1 hP 8 rfl rfl 0 (by decide) (hts (.fieldLink RX2 53 "KnowledgeModel$Formulas" "kindOf" "[I") (List.mem_of_getElem? (i := 6) rfl)) (fun _ h9 => h9) rfl dX2_valueFromParts_58 ?_
      refine lv_iload_n hx hb dX2_valueFromParts_61 rfl (lv_at hl 7 rfl) ?_
      refine xiald (j := f) (q0 := 9) (t0 := 0) hx hb hK1 hP rfl rfl (by omega) (by decide) dX2_valueFromParts_62 ?_
      refine xtop (y := (nI 6)) (by exact ((hag 6 f (by decide)).trans hk6).trans (congrArg nI hkd)) ?_
      refine lv_tableIn (tgt := 166) hx hb dX2_valueFromParts_63 (by decide) (by decide) rfl (by decide) ?_
      refine lv_iload hx hb dX2_valueFromParts_166 (lv_at hl 1 rfl) ?_
      refine lv_iconst (v := (-1 : Int32)) hx hb dX2_valueFromParts_168 (by decide) ?_
      refine lv_icmp_ne (tgt := 176) hx hb dX2_valueFromParts_169 (by decide) (fun c169 => ?_) (fun c169 => ?_)
      ·
        refine lv_iload_n hx hb dX2_valueFromParts_176 rfl (lv_at hl 6 rfl) ?_
        refine lv_iload hx hb dX2_valueFromParts_177 (lv_at hl 0 rfl) ?_
        refine lv_iconst (v := (-1 : Int32)) hx hb dX2_valueFromParts_179 (by decide) ?_
        refine lv_ixor hx hb dX2_valueFromParts_180 ?_
        refine lv_iand hx hb dX2_valueFromParts_181 ?_
        refine lv_aload_n hx hb dX2_valueFromParts_182 rfl (lv_at hl 4 rfl) ?_
        refine lv_iload_n hx hb dX2_valueFromParts_183 rfl (lv_at hl 5 rfl) ?_
        refine lv_iconst (v := (nI 1)) hx hb dX2_valueFromParts_184 (by decide) ?_
        refine xiadd hx hb dX2_valueFromParts_185 ?_
        refine lv_iload hx hb dX2_valueFromParts_186 (lv_at hl 0 rfl) ?_
        refine lv_iload hx hb dX2_valueFromParts_188 (lv_at hl 1 rfl) ?_
        refine xcallwi (va_runV (As := [.int (nI (lv + 1)), .int x_12, .int (nI (p2 f))]) (rest := [.int (mo &&& (x_12 ^^^ (-1 : Int32)))]) ⟨hx, hb, hml, hown, hts⟩ (c_X2_valueIn_2 l D cs a M N _ hI n nf kd p1 p2 ns sb M0 (lv + 1) x_12 (p2 f) hn (by omega) hag hwf hf40 (by omega) (by omega) (by omega)) (cwV 3 hts gX2_valueFromParts_X2_valueIn rfl rfl rfl (by decide +kernel) ⟨Nat.le_of_ble_eq_true rfl, Nat.le_of_ble_eq_true rfl⟩) (xpreVs hP hK (ci := 2) 16 rfl rfl) rfl rfl hl.1 rfl (lv_room (Nat.le_of_ble_eq_true rfl)) dX2_valueFromParts_190 ⟨Nat.le_of_ble_eq_true rfl, Nat.le_of_ble_eq_true rfl⟩) hS (kAle hS.1) (fun u_13 H locs hu_13 hP _ _ hS => ?_)
        have hP : va_P D vwCl (xc cs a u_13 N) H := hP
        refine lv_ior hx hb dX2_valueFromParts_193 ?_
        subst hQ
        have hrel : (∀ i x, ¬ (12 + lv + 1 ≤ i ∧ i < 15) → u_13 i x = M i x) := by first | (intro i x _; rfl) | exact hu_13
        have hfin : ((mo &&& (x_12 ^^^ (-1 : Int32))) ||| (sem M0 n kd p1 p2 sb x_12 (p2 f))) = sem M0 n kd p1 p2 sb mo f := by rw [sem_eq hwp hf]; simp only [hkd, if_true, if_false, show (1 : Nat) ≠ 0 by decide, show (2 : Nat) ≠ 0 by decide, show (2 : Nat) ≠ 1 by decide, show (3 : Nat) ≠ 0 by decide, show (3 : Nat) ≠ 1 by decide, show (3 : Nat) ≠ 2 by decide, show (3 : Nat) ≠ 4 by decide, show (3 : Nat) ≠ 6 by decide, show (4 : Nat) ≠ 0 by decide, show (4 : Nat) ≠ 1 by decide, show (4 : Nat) ≠ 2 by decide, show (5 : Nat) ≠ 0 by decide, show (5 : Nat) ≠ 1 by decide, show (5 : Nat) ≠ 2 by decide, show (5 : Nat) ≠ 4 by decide, show (5 : Nat) ≠ 6 by decide, show (6 : Nat) ≠ 0 by decide, show (6 : Nat) ≠ 1 by decide, show (6 : Nat) ≠ 2 by decide, show (6 : Nat) ≠ 4 by decide, hx_11, c36, hx_12, c169]
        exact W.iret hx hb hr (fun t ht hW => ⟨⟨_, u_13, rfl, ⟨hfin, hrel⟩, by rw [← ht] at hP; exact hP⟩, hS.F ht⟩) hS.2.2 dX2_valueFromParts_194
      ·
        exfalso
        exact nI_ne_m1 (by omega) c169
    ·
      exfalso
      exact nI_ne_m1 (by omega) c36

set_option maxHeartbeats 4000000 in
set_option maxRecDepth 100000 in
theorem c_X2_valueIn_1 (l : Launch) (D : va_G) (cs : Nat → ClassId) (a : Nat → Nat) (M : Nat → Nat → Int32) (N : Nat → Int64) (sz : Nat) (hI : kI a 29)  (n : Nat) (nf : Nat) (kd : Nat → Nat) (p1 : Nat → Nat) (p2 : Nat → Nat) (ns : Nat → Nat) (sb : Nat → Nat) (M0 : Nat → Nat → Int32) (lv : Nat) (mo : Int32) (f : Nat) (hn : M 0 0 = nI n) (hn24 : n ≤ 24) (hag : Ag M M0) (hwf : WFX M0 N nf kd p1 p2 ns sb) (hf40 : nf ≤ 40) (hlv : lv = 1) (hf : f < nf) (hns : ns f + lv ≤ 2) : Met l yX2_valueIn wsX2_valueIn ({ frames := 7, cells := 0, slots := 0, locals := 190 } : Room) (va_Pc [.ref (a 16), .int (nI lv), .int mo, .int (nI f)] (XBs D cs (xc cs a M N) sz)) (va_Qi (fun r (u : Nat → Nat → Int32) => r = sem M0 n kd p1 p2 sb mo f ∧ (∀ i x, ¬ (12 + lv ≤ i ∧ i < 15) → u i x = M i x)) (fun (u : Nat → Nat → Int32) t => va_P D vwCl (xc cs a u N) t.heap) (kA a 29 sz)) 0 0 (kA a 29 sz) := by
  refine Met.ofW (cc := cX2_valueIn) (maxL := 7) (ret := (some .int)) (by decide) rfl ?_
  intro p e s m args below meth c s₁ B hml hv
  obtain ⟨rfl, hsz, hP, hK⟩ := hv
  have hx := B.exec
  have hb := B.bytes
  have hr := B.returns
  have hts := atoms_spec (ws := wsX2_valueIn) B.pre
  have hown : s.vm.findClass RX2 = some m.cls := findClass_of_methodNamed B.named
  have hlocks := B.notSynchronized
  have hK1 := hK.1
  have hinX2 : ∀ w ∈ wsX20, w ∈ wsX2_valueIn := fun w h => List.mem_cons_of_mem _ (List.mem_append_left _ (List.mem_append_left _ (List.mem_append_right _ h)))
  have hinX0 : ∀ w ∈ wsX00, w ∈ wsX2_valueIn := fun w h => List.mem_cons_of_mem _ (List.mem_append_left _ (List.mem_append_right _ h))
  have hinX3 : ∀ w ∈ wsX30, w ∈ wsX2_valueIn := fun w h => List.mem_cons_of_mem _ (List.mem_append_right _ h)
  subst hsz
  have hS : va_S (kA a 29 s.heap.size) s.heap s.heap [] := va_S.rf
  have hl := lv_entry ([.ref (a 16), .int (nI lv), .int mo, .int (nI f)]) (n := 7) (Nat.le_of_ble_eq_true rfl)
  rw [lg_entry_eq]
  generalize (lg_sl ([.ref (a 16), .int (nI lv), .int mo, .int (nI f)]) ++ List.replicate (7 - (lg_sl ([.ref (a 16), .int (nI lv), .int mo, .int (nI f)])).length) Slot.unset).toArray = ls at hl ⊢
  have hl : lv_has ls 7 [(0, .ref (a 16)), (1, .int (nI lv)), (2, .int mo), (3, .int (nI f))] := hl
  refine W_Q (fun Q hQ => ?_)
  show W p l e ({ frames := 7, cells := 0, slots := 0, locals := 190 } : Room) s m ([.ref (a 16), .int (nI lv), .int mo, .int (nI f)] : List Value).toArray below meth c s.heap [] 0 0 Q (F0 m 0 ls [])
  obtain ⟨-, -, -, -, -, -, hF1, hF2⟩ := hwf.2 f hf
  refine lv_iload_n hx hb dX2_valueIn_0 rfl (lv_at hl 1 rfl) ?_
  refine lv_iconst (v := (nI 2)) hx hb dX2_valueIn_1 (by decide) ?_
  refine lv_icmp_le (tgt := 7) hx hb dX2_valueIn_2 (by decide) (fun c2 => ?_) (fun c2 => ?_)
  ·
    replace c2 : lv ≤ 2 := k_let c2 (by omega) (by omega)
    refine lv_aload_n hx hb dX2_valueIn_7 rfl (lv_at hl 0 rfl) ?_
    refine va_get (D := D) (ci := 2) (v := .ref (a 8)) (C := RX2) (T := TX2) (N := 3) hx hb hts hinX2 hown hK1 hP 16 rfl rfl 1 (by decide) (hts (.fieldLink RX2 15 "KnowledgeModel$Truth" "formulas" "LKnowledgeModel$Formulas;") (List.mem_of_getElem? (i := 1) rfl)) (fun _ h9 => h9) rfl dX2_valueIn_8 ?_
    refine va_get (D := D) (ci := 0) (v := .ref (a 15)) (C := RX0) (T := TX0) (N := 8) hx hb hts hinX0 hown hK1 hP 8 rfl rfl 6 (by decide) (hts (.fieldLink RX2 34 "KnowledgeModel$Formulas" "neededFor" "[J") (List.mem_of_getElem? (i := 2) rfl)) (fun _ h9 => h9) rfl dX2_valueIn_11 ?_
    refine lv_iload_n hx hb dX2_valueIn_14 rfl (lv_at hl 3 rfl) ?_
    refine xlald (j := f) (q0 := 15) (t0 := 1) hx hb hK1 hP rfl rfl (by omega) (by decide) dX2_valueIn_15 ?_
    refine lv_lstore (lv' := [(4, .long (N f)), (0, .ref (a 16)), (1, .int (nI lv)), (2, .int mo), (3, .int (nI f))]) hx hb dX2_valueIn_16 hl (by decide) rfl (fun ls hl => ?_)
    refine lv_iconst (v := (nI 0)) hx hb dX2_valueIn_18 (by decide) ?_
    refine lv_istore (lv' := [(6, .int (nI 0)), (4, .long (N f)), (0, .ref (a 16)), (1, .int (nI lv)), (2, .int mo), (3, .int (nI f))]) hx hb dX2_valueIn_19 hl (by decide) rfl (fun ls hl => ?_)
    have cut21 : ∀ (f21 : Nat) (g : Nat) (Mg : Nat → Nat → Int32) (hg : g ≤ f + 1) (hVR : (∀ h, h < g → nb (N f) h = true → Mg (12 + lv) h = sem M0 n kd p1 p2 sb mo h) ∧ (∀ i x, ¬ (12 + lv ≤ i ∧ i < 15) → Mg i x = M i x)) (hng : Mg 0 0 = nI n), f + 2 ≤ g + f21 → ∀ (H : Heap) (locs : List Loc), va_P D vwCl (xc cs a Mg N) H → va_S (kA a 29 s.heap.size) s.heap H locs → ∀ (ls : Array Slot), lv_has ls 7 [(0, .ref (a 16)), (1, .int (nI lv)), (2, .int mo), (3, .int (nI f)), (4, .long (N f)), (6, .int (nI g))] → W p l e ({ frames := 7, cells := 0, slots := 0, locals := 190 } : Room) s m ([.ref (a 16), .int (nI lv), .int mo, .int (nI f)] : List Value).toArray below meth c H locs 0 0 Q (F0 m 21 ls []) := by
      intro f21
      induction f21 with
      | zero => intro g Mg hg hVR hng hfu21; exact absurd hfu21 (by omega)
      | succ f21 cut21 =>
        intro g Mg hg hVR hng hfu21 H locs hP hS ls hl
        have hagg : Ag Mg M0 := fun i x hi => (hVR.2 i x (by omega)).trans (hag i x hi)
        refine lv_iload hx hb dX2_valueIn_21 (lv_at hl 5 rfl) ?_
        refine lv_iload_n hx hb dX2_valueIn_23 rfl (lv_at hl 3 rfl) ?_
        refine lv_icmp_gt (tgt := 62) hx hb dX2_valueIn_24 (by decide) (fun c24 => ?_) (fun c24 => ?_)
        ·
          replace c24 : f < g := k_gtt c24 (by omega) (by omega)
          refine lv_aload_n hx hb dX2_valueIn_62 rfl (lv_at hl 0 rfl) ?_
          refine va_get (D := D) (ci := 2) (v := .ref (a 17)) (C := RX2) (T := TX2) (N := 3) hx hb hts hinX2 hown hK1 hP 16 rfl rfl 2 (by decide) (hts (.fieldLink RX2 21 "KnowledgeModel$Truth" "values" "[[I") (List.mem_of_getElem? (i := 3) rfl)) (fun _ h9 => h9) rfl dX2_valueIn_63 ?_
          refine lv_iload_n hx hb dX2_valueIn_66 rfl (lv_at hl 1 rfl) ?_
          refine xaald (j := lv) (q0 := 17) (t0 := 2) (f := fun i => a (18 + i)) hx hb hK1 hP rfl rfl (by omega) (by decide) dX2_valueIn_67 ?_
          refine lv_iload_n hx hb dX2_valueIn_68 rfl (lv_at hl 3 rfl) ?_
          refine xiald (j := f) (q0 := (18 + lv)) (t0 := 0) hx hb hK1 hP (xg_va (by omega)) rfl (by omega) (by decide) dX2_valueIn_69 ?_
          refine xtop (y := (sem M0 n kd p1 p2 sb mo f)) (by exact hVR.1 f (by omega) hF1) ?_
          subst hQ
          have hrel : (∀ i x, ¬ (12 + lv ≤ i ∧ i < 15) → Mg i x = M i x) := by exact hVR.2
          have hfin : (sem M0 n kd p1 p2 sb mo f) = sem M0 n kd p1 p2 sb mo f := by rfl
          exact W.iret hx hb hr (fun t ht hW => ⟨⟨_, Mg, rfl, ⟨hfin, hrel⟩, by rw [← ht] at hP; exact hP⟩, hS.F ht⟩) hS.2.2 dX2_valueIn_70
        ·
          replace c24 : g ≤ f := k_gtf c24 (by omega) (by omega)
          refine lv_lload hx hb dX2_valueIn_27 (lv_at hl 4 rfl) ?_
          refine lv_iload hx hb dX2_valueIn_29 (lv_at hl 5 rfl) ?_
          refine lv_lshr (v := (N f) >>> ((nI g).toInt64 &&& 63)) hx hb dX2_valueIn_31 rfl ?_
          refine lv_lconst (v := 1) hx hb dX2_valueIn_32 (by decide) ?_
          refine lv_land hx hb dX2_valueIn_33 ?_
          refine lv_lconst (v := 0) hx hb dX2_valueIn_34 (by decide) ?_
          refine W.lcmp hx hb dX2_valueIn_35 ?_
          refine xtop (y := bI (nb (N f) g)) (nb_bI _ (by omega)) ?_
          refine lv_if_eq (tgt := 56) hx hb dX2_valueIn_36 (by decide) (fun c36 => ?_) (fun c36 => ?_)
          ·
            replace c36 := bI_0 c36
            refine lv_iinc (v := (nI (g + 1))) (lv' := [(6, .int (nI (g + 1))), (0, .ref (a 16)), (1, .int (nI lv)), (2, .int mo), (3, .int (nI f)), (4, .long (N f))]) hx hb dX2_valueIn_56 hl (k := 5) rfl (nI_add g 1) (by decide) rfl (fun ls hl => ?_)
            refine lv_goto (tgt := 21) hx hb dX2_valueIn_59 (by decide) ?_
            exact cut21 (g + 1) Mg (by omega) (by first | (refine ⟨fun h hh hb2 => ?_, hVR.2⟩; rcases Nat.lt_or_ge h g with qq | qq; exact hVR.1 h qq hb2; (have he : h = g := by omega); subst he; rw [c36] at hb2; cases hb2) | (simp only [fo_0, c24, c36]; exact VR_s hVR (by omega) trivial)) (by first | exact hng | assumption) (by omega) _ _ hP hS ls (lcons (lcons (lcons (lcons (lcons (lcons (lzero hl) hl 0 rfl rfl) hl 5 rfl rfl) hl 4 rfl rfl) hl 3 rfl rfl) hl 2 rfl rfl) hl 1 rfl rfl)
          ·
            replace c36 := bI_n0 c36
            refine lv_aload_n hx hb dX2_valueIn_39 rfl (lv_at hl 0 rfl) ?_
            refine va_get (D := D) (ci := 2) (v := .ref (a 17)) (C := RX2) (T := TX2) (N := 3) hx hb hts hinX2 hown hK1 hP 16 rfl rfl 2 (by decide) (hts (.fieldLink RX2 21 "KnowledgeModel$Truth" "values" "[[I") (List.mem_of_getElem? (i := 3) rfl)) (fun _ h9 => h9) rfl dX2_valueIn_40 ?_
            refine lv_iload_n hx hb dX2_valueIn_43 rfl (lv_at hl 1 rfl) ?_
            refine xaald (j := lv) (q0 := 17) (t0 := 2) (f := fun i => a (18 + i)) hx hb hK1 hP rfl rfl (by omega) (by decide) dX2_valueIn_44 ?_
            refine lv_iload hx hb dX2_valueIn_45 (lv_at hl 5 rfl) ?_
            refine lv_aload_n hx hb dX2_valueIn_47 rfl (lv_at hl 0 rfl) ?_
            refine lv_iload_n hx hb dX2_valueIn_48 rfl (lv_at hl 1 rfl) ?_
            refine lv_iload_n hx hb dX2_valueIn_49 rfl (lv_at hl 2 rfl) ?_
            refine lv_iload hx hb dX2_valueIn_50 (lv_at hl 5 rfl) ?_
            refine xcallwi (va_runV (As := [.int (nI lv), .int mo, .int (nI g)]) (rest := [.int (nI g), .ref (a (18 + lv))]) ⟨hx, hb, hml, hown, hts⟩ (c_X2_valueFromParts_1 l D cs a Mg N _ hI n nf kd p1 p2 ns sb M0 lv mo g hng (by omega) hagg hwf hf40 hlv (by omega) (by have := (hF2 g (by omega) c36).1; omega) (fun hz => hVR.1 (p1 g) ((hwf.1 g (by omega)).1 hz) ((hF2 g (by omega) c36).2.1 hz)) (fun hz => hVR.1 (p2 g) ((hwf.1 g (by omega)).2 (Or.inl hz)) ((hF2 g (by omega) c36).2.2 hz))) (cwV 3 hts gX2_valueIn_X2_valueFromParts rfl rfl rfl (by decide +kernel) ⟨Nat.le_of_ble_eq_true rfl, Nat.le_of_ble_eq_true rfl⟩) (xpreVs hP hK (ci := 2) 16 rfl rfl) rfl rfl hl.1 rfl (lv_room (Nat.le_of_ble_eq_true rfl)) dX2_valueIn_52 ⟨Nat.le_of_ble_eq_true rfl, Nat.le_of_ble_eq_true rfl⟩) hS (kAle hS.1) (fun u_1 H locs hu_1 hP _ _ hS => ?_)
            have hP : va_P D vwCl (xc cs a u_1 N) H := hP
            have hk_2 : u_1 0 0 = nI n := by rw [hu_1 0 0 (by omega)]; exact hng
            refine lv_topi (fun x_3 hx_3 => ?_)
            refine xiast (j := g) (q0 := (18 + lv)) (t0 := 0) (ws' := xc cs a (wr u_1 (12 + lv) g x_3) N) hx hb hK1 hP (xD hI) hS (xg_va (by omega)) rfl (by omega) (by decide) (xs_va (by omega)) dX2_valueIn_55 (fun H locs hP hS => ?_)
            obtain ⟨M_4, hM_4⟩ : ∃ z, z = wr u_1 (12 + lv) g x_3 := ⟨_, rfl⟩
            rw [← hM_4] at hP
            have hk_5 : M_4 0 0 = nI n := by rw [hM_4]; exact (wr_ne (Or.inl (by omega))).trans hk_2
            refine lv_iinc (v := (nI (g + 1))) (lv' := [(6, .int (nI (g + 1))), (0, .ref (a 16)), (1, .int (nI lv)), (2, .int mo), (3, .int (nI f)), (4, .long (N f))]) hx hb dX2_valueIn_56 hl (k := 5) rfl (nI_add g 1) (by decide) rfl (fun ls hl => ?_)
            refine lv_goto (tgt := 21) hx hb dX2_valueIn_59 (by decide) ?_
            exact cut21 (g + 1) M_4 (by omega) (by first | (refine ⟨fun h hh hb2 => ?_, hVR.2⟩; rcases Nat.lt_or_ge h g with qq | qq; exact hVR.1 h qq hb2; (have he : h = g := by omega); subst he; rw [c36] at hb2; cases hb2) | (simp only [fo_0, c24, c36, hx_3, hM_4]; exact VR_s hVR (by omega) hu_1)) (by first | exact hng | assumption) (by omega) _ _ hP hS ls (lcons (lcons (lcons (lcons (lcons (lcons (lzero hl) hl 0 rfl rfl) hl 5 rfl rfl) hl 4 rfl rfl) hl 3 rfl rfl) hl 2 rfl rfl) hl 1 rfl rfl)
    exact cut21 (f + 2) 0 M (by omega) (by exact ⟨fun h hh => absurd hh (by omega), fun _ _ _ => rfl⟩) (by exact hn) (by omega) _ _ hP hS ls (lcons (lcons (lcons (lcons (lcons (lcons (lzero hl) hl 0 rfl rfl) hl 1 rfl rfl) hl 5 rfl rfl) hl 4 rfl rfl) hl 3 rfl rfl) hl 2 rfl rfl)
  ·
    replace c2 : 2 < lv := k_lef c2 (by omega) (by omega)
    exfalso
    omega

set_option maxHeartbeats 4000000 in
set_option maxRecDepth 100000 in
theorem c_X2_valueFromParts_0 (l : Launch) (D : va_G) (cs : Nat → ClassId) (a : Nat → Nat) (M : Nat → Nat → Int32) (N : Nat → Int64) (sz : Nat) (hI : kI a 29)  (n : Nat) (nf : Nat) (kd : Nat → Nat) (p1 : Nat → Nat) (p2 : Nat → Nat) (ns : Nat → Nat) (sb : Nat → Nat) (M0 : Nat → Nat → Int32) (lv : Nat) (mo : Int32) (f : Nat) (hn : M 0 0 = nI n) (hn24 : n ≤ 24) (hag : Ag M M0) (hwf : WFX M0 N nf kd p1 p2 ns sb) (hf40 : nf ≤ 40) (hlv : lv = 0) (hf : f < nf) (hns : ns f + lv ≤ 2) (hp1 : kd f ≠ 0 → M (12 + lv) (p1 f) = sem M0 n kd p1 p2 sb mo (p1 f)) (hp2 : kd f = 2 → M (12 + lv) (p2 f) = sem M0 n kd p1 p2 sb mo (p2 f)) : Met l yX2_valueFromParts wsX2_valueFromParts ({ frames := 8, cells := 0, slots := 0, locals := 220 } : Room) (va_Pc [.ref (a 16), .int (nI lv), .int mo, .int (nI f)] (XBs D cs (xc cs a M N) sz)) (va_Qi (fun r (u : Nat → Nat → Int32) => r = sem M0 n kd p1 p2 sb mo f ∧ (∀ i x, ¬ (12 + lv + 1 ≤ i ∧ i < 15) → u i x = M i x)) (fun (u : Nat → Nat → Int32) t => va_P D vwCl (xc cs a u N) t.heap) (kA a 29 sz)) 0 0 (kA a 29 sz) := by
  refine Met.ofW (cc := cX2_valueFromParts) (maxL := 8) (ret := (some .int)) (by decide) rfl ?_
  intro p e s m args below meth c s₁ B hml hv
  obtain ⟨rfl, hsz, hP, hK⟩ := hv
  have hx := B.exec
  have hb := B.bytes
  have hr := B.returns
  have hts := atoms_spec (ws := wsX2_valueFromParts) B.pre
  have hown : s.vm.findClass RX2 = some m.cls := findClass_of_methodNamed B.named
  have hlocks := B.notSynchronized
  have hK1 := hK.1
  have hinX2 : ∀ w ∈ wsX20, w ∈ wsX2_valueFromParts := fun w h => List.mem_cons_of_mem _ (List.mem_append_left _ (List.mem_append_left _ (List.mem_append_right _ h)))
  have hinX0 : ∀ w ∈ wsX00, w ∈ wsX2_valueFromParts := fun w h => List.mem_cons_of_mem _ (List.mem_append_left _ (List.mem_append_right _ h))
  have hinX3 : ∀ w ∈ wsX30, w ∈ wsX2_valueFromParts := fun w h => List.mem_cons_of_mem _ (List.mem_append_right _ h)
  subst hsz
  have hS : va_S (kA a 29 s.heap.size) s.heap s.heap [] := va_S.rf
  have hl := lv_entry ([.ref (a 16), .int (nI lv), .int mo, .int (nI f)]) (n := 8) (Nat.le_of_ble_eq_true rfl)
  rw [lg_entry_eq]
  generalize (lg_sl ([.ref (a 16), .int (nI lv), .int mo, .int (nI f)]) ++ List.replicate (8 - (lg_sl ([.ref (a 16), .int (nI lv), .int mo, .int (nI f)])).length) Slot.unset).toArray = ls at hl ⊢
  have hl : lv_has ls 8 [(0, .ref (a 16)), (1, .int (nI lv)), (2, .int mo), (3, .int (nI f))] := hl
  refine W_Q (fun Q hQ => ?_)
  show W p l e ({ frames := 8, cells := 0, slots := 0, locals := 220 } : Room) s m ([.ref (a 16), .int (nI lv), .int mo, .int (nI f)] : List Value).toArray below meth c s.heap [] 0 0 Q (F0 m 0 ls [])
  obtain ⟨⟨hk7, hk6, hk11, hk2⟩, hA, hB, hC, hD6, hE, hF1, hF2⟩ := hwf.2 f hf
  have hwp := hwf.1
  have hL := hwf.1 f hf
  rcases (show kd f = 0 ∨ kd f = 1 ∨ kd f = 2 ∨ kd f = 3 ∨ kd f = 4 ∨ kd f = 5 ∨ kd f = 6 by omega) with hkd | hkd | hkd | hkd | hkd | hkd | hkd
  ·
    obtain ⟨hA1, hA2, hA3⟩ := hA hkd
    have hE1 := hE (by omega) (by omega)
    refine lv_aload_n hx hb dX2_valueFromParts_0 rfl (lv_at hl 0 rfl) ?_
    refine va_get (D := D) (ci := 2) (v := .ref (a 8)) (C := RX2) (T := TX2) (N := 3) hx hb hts hinX2 hown hK1 hP 16 rfl rfl 1 (by decide) (hts (.fieldLink RX2 15 "KnowledgeModel$Truth" "formulas" "LKnowledgeModel$Formulas;") (List.mem_of_getElem? (i := 1) rfl)) (fun _ h9 => h9) rfl dX2_valueFromParts_1 ?_
    refine va_get (D := D) (ci := 0) (v := .ref (a 10)) (C := RX0) (T := TX0) (N := 8) hx hb hts hinX0 hown hK1 hP 8 rfl rfl 1 (by decide) (hts (.fieldLink RX2 43 "KnowledgeModel$Formulas" "subjectOf" "[I") (List.mem_of_getElem? (i := 2) rfl)) (fun _ h9 => h9) rfl dX2_valueFromParts_4 ?_
    refine lv_iload_n hx hb dX2_valueFromParts_7 rfl (lv_at hl 3 rfl) ?_
    refine xiald (j := f) (q0 := 10) (t0 := 0) hx hb hK1 hP rfl rfl (by omega) (by decide) dX2_valueFromParts_8 ?_
    refine xtop (y := (nI (sb f))) (by exact (hag 7 f (by decide)).trans hA2) ?_
    refine lv_istore (lv' := [(4, .int (nI (sb f))), (0, .ref (a 16)), (1, .int (nI lv)), (2, .int mo), (3, .int (nI f))]) hx hb dX2_valueFromParts_9 hl (by decide) rfl (fun ls hl => ?_)
    refine lv_aload_n hx hb dX2_valueFromParts_11 rfl (lv_at hl 1 rfl) ?_
    refine va_get (D := D) (ci := 2) (v := .ref (a 8)) (C := RX2) (T := TX2) (N := 3) hx hb hts hinX2 hown hK1 hP 16 rfl rfl 1 (by decide) (hts (.fieldLink RX2 15 "KnowledgeModel$Truth" "formulas" "LKnowledgeModel$Formulas;") (List.mem_of_getElem? (i := 1) rfl)) (fun _ h9 => h9) rfl dX2_valueFromParts_12 ?_
    refine va_get (D := D) (ci := 0) (v := .ref (a 11)) (C := RX0) (T := TX0) (N := 8) hx hb hts hinX0 hown hK1 hP 8 rfl rfl 2 (by decide) (hts (.fieldLink RX2 47 "KnowledgeModel$Formulas" "firstOf" "[I") (List.mem_of_getElem? (i := 3) rfl)) (fun _ h9 => h9) rfl dX2_valueFromParts_15 ?_
    refine lv_iload_n hx hb dX2_valueFromParts_18 rfl (lv_at hl 4 rfl) ?_
    refine xiald (j := f) (q0 := 11) (t0 := 0) hx hb hK1 hP rfl rfl (by omega) (by decide) dX2_valueFromParts_19 ?_
    refine xtop (y := (-1 : Int32)) (by exact (hag 8 f (by decide)).trans hA1) ?_
    refine lv_istore (lv' := [(5, .int (-1 : Int32)), (4, .int (nI (sb f))), (0, .ref (a 16)), (1, .int (nI lv)), (2, .int mo), (3, .int (nI f))]) hx hb dX2_valueFromParts_20 hl (by decide) rfl (fun ls hl => ?_)
    refine lv_aload_n hx hb dX2_valueFromParts_22 rfl (lv_at hl 2 rfl) ?_
    refine va_get (D := D) (ci := 2) (v := .ref (a 8)) (C := RX2) (T := TX2) (N := 3) hx hb hts hinX2 hown hK1 hP 16 rfl rfl 1 (by decide) (hts (.fieldLink RX2 15 "KnowledgeModel$Truth" "formulas" "LKnowledgeModel$Formulas;") (List.mem_of_getElem? (i := 1) rfl)) (fun _ h9 => h9) rfl dX2_valueFromParts_23 ?_
    refine va_get (D := D) (ci := 0) (v := .ref (a 12)) (C := RX0) (T := TX0) (N := 8) hx hb hts hinX0 hown hK1 hP 8 rfl rfl 3 (by decide) (hts (.fieldLink RX2 50 "KnowledgeModel$Formulas" "secondOf" "[I") (List.mem_of_getElem? (i := 4) rfl)) (fun _ h9 => h9) rfl dX2_valueFromParts_26 ?_
    refine lv_iload_n hx hb dX2_valueFromParts_29 rfl (lv_at hl 5 rfl) ?_
    refine xiald (j := f) (q0 := 12) (t0 := 0) hx hb hK1 hP rfl rfl (by omega) (by decide) dX2_valueFromParts_30 ?_
    refine xtop (y := (-1 : Int32)) (by exact (hag 9 f (by decide)).trans hE1) ?_
    refine lv_istore (lv' := [(6, .int (-1 : Int32)), (5, .int (-1 : Int32)), (4, .int (nI (sb f))), (0, .ref (a 16)), (1, .int (nI lv)), (2, .int mo), (3, .int (nI f))]) hx hb dX2_valueFromParts_31 hl (by decide) rfl (fun ls hl => ?_)
    refine lv_iload hx hb dX2_valueFromParts_33 (lv_at hl 1 rfl) ?_
    refine lv_iconst (v := (-1 : Int32)) hx hb dX2_valueFromParts_35 (by decide) ?_
    refine lv_icmp_ne (tgt := 43) hx hb dX2_valueFromParts_36 (by decide) (fun c36 => ?_) (fun c36 => ?_)
    ·
      exfalso
      exact c36 rfl
    ·
      refine lv_iconst (v := (nI 0)) hx hb dX2_valueFromParts_39 (by decide) ?_
      refine lv_goto (tgt := 52) hx hb dX2_valueFromParts_40 (by decide) ?_
      refine lv_istore (lv' := [(7, .int (nI 0)), (6, .int (-1 : Int32)), (5, .int (-1 : Int32)), (4, .int (nI (sb f))), (0, .ref (a 16)), (1, .int (nI lv)), (2, .int mo), (3, .int (nI f))]) hx hb dX2_valueFromParts_52 hl (by decide) rfl (fun ls hl => ?_)
      refine lv_aload_n hx hb dX2_valueFromParts_54 rfl (lv_at hl 4 rfl) ?_
      refine va_get (D := D) (ci := 2) (v := .ref (a 8)) (C := RX2) (T := TX2) (N := 3) hx hb hts hinX2 hown hK1 hP 16 rfl rfl 1 (by decide) (hts (.fieldLink RX2 15 "KnowledgeModel$Truth" "formulas" "LKnowledgeModel$Formulas;") (List.mem_of_getElem? (i := 1) rfl)) (fun _ h9 => h9) rfl dX2_valueFromParts_55 ?_
      refine va_get (D := D) (ci := 0) (v := .ref (a 9)) (C := RX0) (T := TX0) (N := 8) hx hb hts hinX0 hown hK1 hP 8 rfl rfl 0 (by decide) (hts (.fieldLink RX2 53 "KnowledgeModel$Formulas" "kindOf" "[I") (List.mem_of_getElem? (i := 6) rfl)) (fun _ h9 => h9) rfl dX2_valueFromParts_58 ?_
      refine lv_iload_n hx hb dX2_valueFromParts_61 rfl (lv_at hl 7 rfl) ?_
      refine xiald (j := f) (q0 := 9) (t0 := 0) hx hb hK1 hP rfl rfl (by omega) (by decide) dX2_valueFromParts_62 ?_
      refine xtop (y := (nI 0)) (by exact ((hag 6 f (by decide)).trans hk6).trans (congrArg nI hkd)) ?_
      refine lv_tableIn (tgt := 104) hx hb dX2_valueFromParts_63 (by decide) (by decide) rfl (by decide) ?_
      refine lv_iload_n hx hb dX2_valueFromParts_104 rfl (lv_at hl 6 rfl) ?_
      refine lv_aload_n hx hb dX2_valueFromParts_105 rfl (lv_at hl 4 rfl) ?_
      refine va_get (D := D) (ci := 2) (v := .ref (a 1)) (C := RX2) (T := TX2) (N := 3) hx hb hts hinX2 hown hK1 hP 16 rfl rfl 0 (by decide) (hts (.fieldLink RX2 9 "KnowledgeModel$Truth" "worlds" "LKnowledgeModel$Worlds;") (List.mem_of_getElem? (i := 7) rfl)) (fun _ h9 => h9) rfl dX2_valueFromParts_106 ?_
      refine lv_iload hx hb dX2_valueFromParts_109 (lv_at hl 3 rfl) ?_
      refine xcalli (va_runV (As := [.int (nI (sb f))]) (rest := [.int mo]) ⟨hx, hb, hml, hown, hts⟩ (c_X3_worldsWith l D cs a M N n (sb f) (by omega) hn (by omega)) (cwV 1 hts gX2_valueFromParts_X3_worldsWith rfl rfl rfl (by decide +kernel) ⟨Nat.le_of_ble_eq_true rfl, Nat.le_of_ble_eq_true rfl⟩) (xpreV hP hK (ci := 3) 1 rfl rfl) rfl rfl hl.1 rfl (lv_room (Nat.le_of_ble_eq_true rfl)) dX2_valueFromParts_111 ⟨Nat.le_of_ble_eq_true rfl, Nat.le_of_ble_eq_true rfl⟩) hS hP (fun H locs hP hS => ?_)
      refine xtop (y := (worldsWith M0 n (sb f))) (by exact worldsWith_c hag) ?_
      refine lv_iand hx hb dX2_valueFromParts_114 ?_
      subst hQ
      have hrel : (∀ i x, ¬ (12 + lv + 1 ≤ i ∧ i < 15) → M i x = M i x) := by first | (intro i x _; rfl) | exact trivial
      have hfin : (mo &&& (worldsWith M0 n (sb f))) = sem M0 n kd p1 p2 sb mo f := by rw [sem_eq hwp hf]; simp only [hkd, if_true, if_false, show (1 : Nat) ≠ 0 by decide, show (2 : Nat) ≠ 0 by decide, show (2 : Nat) ≠ 1 by decide, show (3 : Nat) ≠ 0 by decide, show (3 : Nat) ≠ 1 by decide, show (3 : Nat) ≠ 2 by decide, show (3 : Nat) ≠ 4 by decide, show (3 : Nat) ≠ 6 by decide, show (4 : Nat) ≠ 0 by decide, show (4 : Nat) ≠ 1 by decide, show (4 : Nat) ≠ 2 by decide, show (5 : Nat) ≠ 0 by decide, show (5 : Nat) ≠ 1 by decide, show (5 : Nat) ≠ 2 by decide, show (5 : Nat) ≠ 4 by decide, show (5 : Nat) ≠ 6 by decide, show (6 : Nat) ≠ 0 by decide, show (6 : Nat) ≠ 1 by decide, show (6 : Nat) ≠ 2 by decide, show (6 : Nat) ≠ 4 by decide, c36]
      exact W.iret hx hb hr (fun t ht hW => ⟨⟨_, M, rfl, ⟨hfin, hrel⟩, by rw [← ht] at hP; exact hP⟩, hS.F ht⟩) hS.2.2 dX2_valueFromParts_115
  ·
    obtain ⟨hB1, hB2⟩ := hB (by omega)
    have hq1 := hL.1 (by omega)
    have hE1 := hE (by omega) (by omega)
    refine lv_aload_n hx hb dX2_valueFromParts_0 rfl (lv_at hl 0 rfl) ?_
    refine va_get (D := D) (ci := 2) (v := .ref (a 8)) (C := RX2) (T := TX2) (N := 3) hx hb hts hinX2 hown hK1 hP 16 rfl rfl 1 (by decide) (hts (.fieldLink RX2 15 "KnowledgeModel$Truth" "formulas" "LKnowledgeModel$Formulas;") (List.mem_of_getElem? (i := 1) rfl)) (fun _ h9 => h9) rfl dX2_valueFromParts_1 ?_
    refine va_get (D := D) (ci := 0) (v := .ref (a 10)) (C := RX0) (T := TX0) (N := 8) hx hb hts hinX0 hown hK1 hP 8 rfl rfl 1 (by decide) (hts (.fieldLink RX2 43 "KnowledgeModel$Formulas" "subjectOf" "[I") (List.mem_of_getElem? (i := 2) rfl)) (fun _ h9 => h9) rfl dX2_valueFromParts_4 ?_
    refine lv_iload_n hx hb dX2_valueFromParts_7 rfl (lv_at hl 3 rfl) ?_
    refine xiald (j := f) (q0 := 10) (t0 := 0) hx hb hK1 hP rfl rfl (by omega) (by decide) dX2_valueFromParts_8 ?_
    refine xtop (y := (M0 7 f)) (by exact hag 7 f (by decide)) ?_
    refine lv_topi (fun x_1 hx_1 => ?_)
    refine lv_istore (lv' := [(4, .int x_1), (0, .ref (a 16)), (1, .int (nI lv)), (2, .int mo), (3, .int (nI f))]) hx hb dX2_valueFromParts_9 hl (by decide) rfl (fun ls hl => ?_)
    refine lv_aload_n hx hb dX2_valueFromParts_11 rfl (lv_at hl 1 rfl) ?_
    refine va_get (D := D) (ci := 2) (v := .ref (a 8)) (C := RX2) (T := TX2) (N := 3) hx hb hts hinX2 hown hK1 hP 16 rfl rfl 1 (by decide) (hts (.fieldLink RX2 15 "KnowledgeModel$Truth" "formulas" "LKnowledgeModel$Formulas;") (List.mem_of_getElem? (i := 1) rfl)) (fun _ h9 => h9) rfl dX2_valueFromParts_12 ?_
    refine va_get (D := D) (ci := 0) (v := .ref (a 11)) (C := RX0) (T := TX0) (N := 8) hx hb hts hinX0 hown hK1 hP 8 rfl rfl 2 (by decide) (hts (.fieldLink RX2 47 "KnowledgeModel$Formulas" "firstOf" "[I") (List.mem_of_getElem? (i := 3) rfl)) (fun _ h9 => h9) rfl dX2_valueFromParts_15 ?_
    refine lv_iload_n hx hb dX2_valueFromParts_18 rfl (lv_at hl 4 rfl) ?_
    refine xiald (j := f) (q0 := 11) (t0 := 0) hx hb hK1 hP rfl rfl (by omega) (by decide) dX2_valueFromParts_19 ?_
    refine xtop (y := (nI (p1 f))) (by exact (hag 8 f (by decide)).trans hB1) ?_
    refine lv_istore (lv' := [(5, .int (nI (p1 f))), (4, .int x_1), (0, .ref (a 16)), (1, .int (nI lv)), (2, .int mo), (3, .int (nI f))]) hx hb dX2_valueFromParts_20 hl (by decide) rfl (fun ls hl => ?_)
    refine lv_aload_n hx hb dX2_valueFromParts_22 rfl (lv_at hl 2 rfl) ?_
    refine va_get (D := D) (ci := 2) (v := .ref (a 8)) (C := RX2) (T := TX2) (N := 3) hx hb hts hinX2 hown hK1 hP 16 rfl rfl 1 (by decide) (hts (.fieldLink RX2 15 "KnowledgeModel$Truth" "formulas" "LKnowledgeModel$Formulas;") (List.mem_of_getElem? (i := 1) rfl)) (fun _ h9 => h9) rfl dX2_valueFromParts_23 ?_
    refine va_get (D := D) (ci := 0) (v := .ref (a 12)) (C := RX0) (T := TX0) (N := 8) hx hb hts hinX0 hown hK1 hP 8 rfl rfl 3 (by decide) (hts (.fieldLink RX2 50 "KnowledgeModel$Formulas" "secondOf" "[I") (List.mem_of_getElem? (i := 4) rfl)) (fun _ h9 => h9) rfl dX2_valueFromParts_26 ?_
    refine lv_iload_n hx hb dX2_valueFromParts_29 rfl (lv_at hl 5 rfl) ?_
    refine xiald (j := f) (q0 := 12) (t0 := 0) hx hb hK1 hP rfl rfl (by omega) (by decide) dX2_valueFromParts_30 ?_
    refine xtop (y := (-1 : Int32)) (by exact (hag 9 f (by decide)).trans hE1) ?_
    refine lv_istore (lv' := [(6, .int (-1 : Int32)), (5, .int (nI (p1 f))), (4, .int x_1), (0, .ref (a 16)), (1, .int (nI lv)), (2, .int mo), (3, .int (nI f))]) hx hb dX2_valueFromParts_31 hl (by decide) rfl (fun ls hl => ?_)
    refine lv_iload hx hb dX2_valueFromParts_33 (lv_at hl 1 rfl) ?_
    refine lv_iconst (v := (-1 : Int32)) hx hb dX2_valueFromParts_35 (by decide) ?_
    refine lv_icmp_ne (tgt := 43) hx hb dX2_valueFromParts_36 (by decide) (fun c36 => ?_) (fun c36 => ?_)
    ·
      refine lv_aload_n hx hb dX2_valueFromParts_43 rfl (lv_at hl 3 rfl) ?_
      refine va_get (D := D) (ci := 2) (v := .ref (a 17)) (C := RX2) (T := TX2) (N := 3) hx hb hts hinX2 hown hK1 hP 16 rfl rfl 2 (by decide) (hts (.fieldLink RX2 21 "KnowledgeModel$Truth" "values" "[[I") (List.mem_of_getElem? (i := 5) rfl)) (fun _ h9 => h9) rfl dX2_valueFromParts_44 ?_
      refine lv_iload_n hx hb dX2_valueFromParts_47 rfl (lv_at hl 4 rfl) ?_
      refine xaald (j := lv) (q0 := 17) (t0 := 2) (f := fun i => a (18 + i)) hx hb hK1 hP rfl rfl (by omega) (by decide) dX2_valueFromParts_48 ?_
      refine lv_iload hx hb dX2_valueFromParts_49 (lv_at hl 1 rfl) ?_
      refine xiald (j := p1 f) (q0 := (18 + lv)) (t0 := 0) hx hb hK1 hP (xg_va (by omega)) rfl (by omega) (by decide) dX2_valueFromParts_51 ?_
      refine xtop (y := (sem M0 n kd p1 p2 sb mo (p1 f))) (by exact hp1 (by omega)) ?_
      refine lv_topi (fun x_2 hx_2 => ?_)
      refine lv_istore (lv' := [(7, .int x_2), (6, .int (-1 : Int32)), (5, .int (nI (p1 f))), (4, .int x_1), (0, .ref (a 16)), (1, .int (nI lv)), (2, .int mo), (3, .int (nI f))]) hx hb dX2_valueFromParts_52 hl (by decide) rfl (fun ls hl => ?_)
      refine lv_aload_n hx hb dX2_valueFromParts_54 rfl (lv_at hl 4 rfl) ?_
      refine va_get (D := D) (ci := 2) (v := .ref (a 8)) (C := RX2) (T := TX2) (N := 3) hx hb hts hinX2 hown hK1 hP 16 rfl rfl 1 (by decide) (hts (.fieldLink RX2 15 "KnowledgeModel$Truth" "formulas" "LKnowledgeModel$Formulas;") (List.mem_of_getElem? (i := 1) rfl)) (fun _ h9 => h9) rfl dX2_valueFromParts_55 ?_
      refine va_get (D := D) (ci := 0) (v := .ref (a 9)) (C := RX0) (T := TX0) (N := 8) hx hb hts hinX0 hown hK1 hP 8 rfl rfl 0 (by decide) (hts (.fieldLink RX2 53 "KnowledgeModel$Formulas" "kindOf" "[I") (List.mem_of_getElem? (i := 6) rfl)) (fun _ h9 => h9) rfl dX2_valueFromParts_58 ?_
      refine lv_iload_n hx hb dX2_valueFromParts_61 rfl (lv_at hl 7 rfl) ?_
      refine xiald (j := f) (q0 := 9) (t0 := 0) hx hb hK1 hP rfl rfl (by omega) (by decide) dX2_valueFromParts_62 ?_
      refine xtop (y := (nI 1)) (by exact ((hag 6 f (by decide)).trans hk6).trans (congrArg nI hkd)) ?_
      refine lv_tableIn (tgt := 116) hx hb dX2_valueFromParts_63 (by decide) (by decide) rfl (by decide) ?_
      refine lv_iload_n hx hb dX2_valueFromParts_116 rfl (lv_at hl 6 rfl) ?_
      refine lv_iload hx hb dX2_valueFromParts_117 (lv_at hl 0 rfl) ?_
      refine lv_iconst (v := (-1 : Int32)) hx hb dX2_valueFromParts_119 (by decide) ?_
      refine lv_ixor hx hb dX2_valueFromParts_120 ?_
      refine lv_iand hx hb dX2_valueFromParts_121 ?_
      subst hQ
      have hrel : (∀ i x, ¬ (12 + lv + 1 ≤ i ∧ i < 15) → M i x = M i x) := by first | (intro i x _; rfl) | exact trivial
      have hfin : (mo &&& (x_2 ^^^ (-1 : Int32))) = sem M0 n kd p1 p2 sb mo f := by rw [sem_eq hwp hf]; simp only [hkd, if_true, if_false, show (1 : Nat) ≠ 0 by decide, show (2 : Nat) ≠ 0 by decide, show (2 : Nat) ≠ 1 by decide, show (3 : Nat) ≠ 0 by decide, show (3 : Nat) ≠ 1 by decide, show (3 : Nat) ≠ 2 by decide, show (3 : Nat) ≠ 4 by decide, show (3 : Nat) ≠ 6 by decide, show (4 : Nat) ≠ 0 by decide, show (4 : Nat) ≠ 1 by decide, show (4 : Nat) ≠ 2 by decide, show (5 : Nat) ≠ 0 by decide, show (5 : Nat) ≠ 1 by decide, show (5 : Nat) ≠ 2 by decide, show (5 : Nat) ≠ 4 by decide, show (5 : Nat) ≠ 6 by decide, show (6 : Nat) ≠ 0 by decide, show (6 : Nat) ≠ 1 by decide, show (6 : Nat) ≠ 2 by decide, show (6 : Nat) ≠ 4 by decide, hx_1, c36, hx_2]
      exact W.iret hx hb hr (fun t ht hW => ⟨⟨_, M, rfl, ⟨hfin, hrel⟩, by rw [← ht] at hP; exact hP⟩, hS.F ht⟩) hS.2.2 dX2_valueFromParts_122
    ·
      exfalso
      exact nI_ne_m1 (by omega) c36
  ·
    obtain ⟨hB1, hB2⟩ := hB (by omega)
    have hq1 := hL.1 (by omega)
    have hC1 := hC (by omega)
    have hq2 := hL.2 (by omega)
    refine lv_aload_n hx hb dX2_valueFromParts_0 rfl (lv_at hl 0 rfl) ?_
    refine va_get (D := D) (ci := 2) (v := .ref (a 8)) (C := RX2) (T := TX2) (N := 3) hx hb hts hinX2 hown hK1 hP 16 rfl rfl 1 (by decide) (hts (.fieldLink RX2 15 "KnowledgeModel$Truth" "formulas" "LKnowledgeModel$Formulas;") (List.mem_of_getElem? (i := 1) rfl)) (fun _ h9 => h9) rfl dX2_valueFromParts_1 ?_
    refine va_get (D := D) (ci := 0) (v := .ref (a 10)) (C := RX0) (T := TX0) (N := 8) hx hb hts hinX0 hown hK1 hP 8 rfl rfl 1 (by decide) (hts (.fieldLink RX2 43 "KnowledgeModel$Formulas" "subjectOf" "[I") (List.mem_of_getElem? (i := 2) rfl)) (fun _ h9 => h9) rfl dX2_valueFromParts_4 ?_
    refine lv_iload_n hx hb dX2_valueFromParts_7 rfl (lv_at hl 3 rfl) ?_
    refine xiald (j := f) (q0 := 10) (t0 := 0) hx hb hK1 hP rfl rfl (by omega) (by decide) dX2_valueFromParts_8 ?_
    refine xtop (y := (M0 7 f)) (by exact hag 7 f (by decide)) ?_
    refine lv_topi (fun x_3 hx_3 => ?_)
    refine lv_istore (lv' := [(4, .int x_3), (0, .ref (a 16)), (1, .int (nI lv)), (2, .int mo), (3, .int (nI f))]) hx hb dX2_valueFromParts_9 hl (by decide) rfl (fun ls hl => ?_)
    refine lv_aload_n hx hb dX2_valueFromParts_11 rfl (lv_at hl 1 rfl) ?_
    refine va_get (D := D) (ci := 2) (v := .ref (a 8)) (C := RX2) (T := TX2) (N := 3) hx hb hts hinX2 hown hK1 hP 16 rfl rfl 1 (by decide) (hts (.fieldLink RX2 15 "KnowledgeModel$Truth" "formulas" "LKnowledgeModel$Formulas;") (List.mem_of_getElem? (i := 1) rfl)) (fun _ h9 => h9) rfl dX2_valueFromParts_12 ?_
    refine va_get (D := D) (ci := 0) (v := .ref (a 11)) (C := RX0) (T := TX0) (N := 8) hx hb hts hinX0 hown hK1 hP 8 rfl rfl 2 (by decide) (hts (.fieldLink RX2 47 "KnowledgeModel$Formulas" "firstOf" "[I") (List.mem_of_getElem? (i := 3) rfl)) (fun _ h9 => h9) rfl dX2_valueFromParts_15 ?_
    refine lv_iload_n hx hb dX2_valueFromParts_18 rfl (lv_at hl 4 rfl) ?_
    refine xiald (j := f) (q0 := 11) (t0 := 0) hx hb hK1 hP rfl rfl (by omega) (by decide) dX2_valueFromParts_19 ?_
    refine xtop (y := (nI (p1 f))) (by exact (hag 8 f (by decide)).trans hB1) ?_
    refine lv_istore (lv' := [(5, .int (nI (p1 f))), (4, .int x_3), (0, .ref (a 16)), (1, .int (nI lv)), (2, .int mo), (3, .int (nI f))]) hx hb dX2_valueFromParts_20 hl (by decide) rfl (fun ls hl => ?_)
    refine lv_aload_n hx hb dX2_valueFromParts_22 rfl (lv_at hl 2 rfl) ?_
    refine va_get (D := D) (ci := 2) (v := .ref (a 8)) (C := RX2) (T := TX2) (N := 3) hx hb hts hinX2 hown hK1 hP 16 rfl rfl 1 (by decide) (hts (.fieldLink RX2 15 "KnowledgeModel$Truth" "formulas" "LKnowledgeModel$Formulas;") (List.mem_of_getElem? (i := 1) rfl)) (fun _ h9 => h9) rfl dX2_valueFromParts_23 ?_
    refine va_get (D := D) (ci := 0) (v := .ref (a 12)) (C := RX0) (T := TX0) (N := 8) hx hb hts hinX0 hown hK1 hP 8 rfl rfl 3 (by decide) (hts (.fieldLink RX2 50 "KnowledgeModel$Formulas" "secondOf" "[I") (List.mem_of_getElem? (i := 4) rfl)) (fun _ h9 => h9) rfl dX2_valueFromParts_26 ?_
    refine lv_iload_n hx hb dX2_valueFromParts_29 rfl (lv_at hl 5 rfl) ?_
    refine xiald (j := f) (q0 := 12) (t0 := 0) hx hb hK1 hP rfl rfl (by omega) (by decide) dX2_valueFromParts_30 ?_
    refine xtop (y := (nI (p2 f))) (by exact (hag 9 f (by decide)).trans hC1) ?_
    refine lv_istore (lv' := [(6, .int (nI (p2 f))), (5, .int (nI (p1 f))), (4, .int x_3), (0, .ref (a 16)), (1, .int (nI lv)), (2, .int mo), (3, .int (nI f))]) hx hb dX2_valueFromParts_31 hl (by decide) rfl (fun ls hl => ?_)
    refine lv_iload hx hb dX2_valueFromParts_33 (lv_at hl 1 rfl) ?_
    refine lv_iconst (v := (-1 : Int32)) hx hb dX2_valueFromParts_35 (by decide) ?_
    refine lv_icmp_ne (tgt := 43) hx hb dX2_valueFromParts_36 (by decide) (fun c36 => ?_) (fun c36 => ?_)
    ·
      refine lv_aload_n hx hb dX2_valueFromParts_43 rfl (lv_at hl 3 rfl) ?_
      refine va_get (D := D) (ci := 2) (v := .ref (a 17)) (C := RX2) (T := TX2) (N := 3) hx hb hts hinX2 hown hK1 hP 16 rfl rfl 2 (by decide) (hts (.fieldLink RX2 21 "KnowledgeModel$Truth" "values" "[[I") (List.mem_of_getElem? (i := 5) rfl)) (fun _ h9 => h9) rfl dX2_valueFromParts_44 ?_
      refine lv_iload_n hx hb dX2_valueFromParts_47 rfl (lv_at hl 4 rfl) ?_
      refine xaald (j := lv) (q0 := 17) (t0 := 2) (f := fun i => a (18 + i)) hx hb hK1 hP rfl rfl (by omega) (by decide) dX2_valueFromParts_48 ?_
      refine lv_iload hx hb dX2_valueFromParts_49 (lv_at hl 1 rfl) ?_
      refine xiald (j := p1 f) (q0 := (18 + lv)) (t0 := 0) hx hb hK1 hP (xg_va (by omega)) rfl (by omega) (by decide) dX2_valueFromParts_51 ?_
      refine xtop (y := (sem M0 n kd p1 p2 sb mo (p1 f))) (by exact hp1 (by omega)) ?_
      refine lv_topi (fun x_4 hx_4 => ?_)
      refine lv_istore (lv' := [(7, .int x_4), (6, .int (nI (p2 f))), (5, .int (nI (p1 f))), (4, .int x_3), (0, .ref (a 16)), (1, .int (nI lv)), (2, .int mo), (3, .int (nI f))]) hx hb dX2_valueFromParts_52 hl (by decide) rfl (fun ls hl => ?_)
      refine lv_aload_n hx hb dX2_valueFromParts_54 rfl (lv_at hl 4 rfl) ?_
      refine va_get (D := D) (ci := 2) (v := .ref (a 8)) (C := RX2) (T := TX2) (N := 3) hx hb hts hinX2 hown hK1 hP 16 rfl rfl 1 (by decide) (hts (.fieldLink RX2 15 "KnowledgeModel$Truth" "formulas" "LKnowledgeModel$Formulas;") (List.mem_of_getElem? (i := 1) rfl)) (fun _ h9 => h9) rfl dX2_valueFromParts_55 ?_
      refine va_get (D := D) (ci := 0) (v := .ref (a 9)) (C := RX0) (T := TX0) (N := 8) hx hb hts hinX0 hown hK1 hP 8 rfl rfl 0 (by decide) (hts (.fieldLink RX2 53 "KnowledgeModel$Formulas" "kindOf" "[I") (List.mem_of_getElem? (i := 6) rfl)) (fun _ h9 => h9) rfl dX2_valueFromParts_58 ?_
      refine lv_iload_n hx hb dX2_valueFromParts_61 rfl (lv_at hl 7 rfl) ?_
      refine xiald (j := f) (q0 := 9) (t0 := 0) hx hb hK1 hP rfl rfl (by omega) (by decide) dX2_valueFromParts_62 ?_
      refine xtop (y := (nI 2)) (by exact ((hag 6 f (by decide)).trans hk6).trans (congrArg nI hkd)) ?_
      refine lv_tableIn (tgt := 123) hx hb dX2_valueFromParts_63 (by decide) (by decide) rfl (by decide) ?_
      refine lv_iload hx hb dX2_valueFromParts_123 (lv_at hl 1 rfl) ?_
      refine lv_iconst (v := (-1 : Int32)) hx hb dX2_valueFromParts_125 (by decide) ?_
      refine lv_icmp_ne (tgt := 133) hx hb dX2_valueFromParts_126 (by decide) (fun c126 => ?_) (fun c126 => ?_)
      ·
        refine lv_iload hx hb dX2_valueFromParts_133 (lv_at hl 0 rfl) ?_
        refine lv_aload_n hx hb dX2_valueFromParts_135 rfl (lv_at hl 4 rfl) ?_
        refine va_get (D := D) (ci := 2) (v := .ref (a 17)) (C := RX2) (T := TX2) (N := 3) hx hb hts hinX2 hown hK1 hP 16 rfl rfl 2 (by decide) (hts (.fieldLink RX2 21 "KnowledgeModel$Truth" "values" "[[I") (List.mem_of_getElem? (i := 5) rfl)) (fun _ h9 => h9) rfl dX2_valueFromParts_136 ?_
        refine lv_iload_n hx hb dX2_valueFromParts_139 rfl (lv_at hl 5 rfl) ?_
        refine xaald (j := lv) (q0 := 17) (t0 := 2) (f := fun i => a (18 + i)) hx hb hK1 hP rfl rfl (by omega) (by decide) dX2_valueFromParts_140 ?_
        refine lv_iload hx hb dX2_valueFromParts_141 (lv_at hl 1 rfl) ?_
        refine xiald (j := p2 f) (q0 := (18 + lv)) (t0 := 0) hx hb hK1 hP (xg_va (by omega)) rfl (by omega) (by decide) dX2_valueFromParts_143 ?_
        refine xtop (y := (sem M0 n kd p1 p2 sb mo (p2 f))) (by exact hp2 hkd) ?_
        refine lv_iand hx hb dX2_valueFromParts_144 ?_
        subst hQ
        have hrel : (∀ i x, ¬ (12 + lv + 1 ≤ i ∧ i < 15) → M i x = M i x) := by first | (intro i x _; rfl) | exact trivial
        have hfin : (x_4 &&& (sem M0 n kd p1 p2 sb mo (p2 f))) = sem M0 n kd p1 p2 sb mo f := by rw [sem_eq hwp hf]; simp only [hkd, if_true, if_false, show (1 : Nat) ≠ 0 by decide, show (2 : Nat) ≠ 0 by decide, show (2 : Nat) ≠ 1 by decide, show (3 : Nat) ≠ 0 by decide, show (3 : Nat) ≠ 1 by decide, show (3 : Nat) ≠ 2 by decide, show (3 : Nat) ≠ 4 by decide, show (3 : Nat) ≠ 6 by decide, show (4 : Nat) ≠ 0 by decide, show (4 : Nat) ≠ 1 by decide, show (4 : Nat) ≠ 2 by decide, show (5 : Nat) ≠ 0 by decide, show (5 : Nat) ≠ 1 by decide, show (5 : Nat) ≠ 2 by decide, show (5 : Nat) ≠ 4 by decide, show (5 : Nat) ≠ 6 by decide, show (6 : Nat) ≠ 0 by decide, show (6 : Nat) ≠ 1 by decide, show (6 : Nat) ≠ 2 by decide, show (6 : Nat) ≠ 4 by decide, hx_3, c36, hx_4, c126]
        exact W.iret hx hb hr (fun t ht hW => ⟨⟨_, M, rfl, ⟨hfin, hrel⟩, by rw [← ht] at hP; exact hP⟩, hS.F ht⟩) hS.2.2 dX2_valueFromParts_145
      ·
        exfalso
        exact nI_ne_m1 (by omega) c126
    ·
      exfalso
      exact nI_ne_m1 (by omega) c36
  ·
    obtain ⟨hB1, hB2⟩ := hB (by omega)
    have hq1 := hL.1 (by omega)
    have hE1 := hE (by omega) (by omega)
    refine lv_aload_n hx hb dX2_valueFromParts_0 rfl (lv_at hl 0 rfl) ?_
    refine va_get (D := D) (ci := 2) (v := .ref (a 8)) (C := RX2) (T := TX2) (N := 3) hx hb hts hinX2 hown hK1 hP 16 rfl rfl 1 (by decide) (hts (.fieldLink RX2 15 "KnowledgeModel$Truth" "formulas" "LKnowledgeModel$Formulas;") (List.mem_of_getElem? (i := 1) rfl)) (fun _ h9 => h9) rfl dX2_valueFromParts_1 ?_
    refine va_get (D := D) (ci := 0) (v := .ref (a 10)) (C := RX0) (T := TX0) (N := 8) hx hb hts hinX0 hown hK1 hP 8 rfl rfl 1 (by decide) (hts (.fieldLink RX2 43 "KnowledgeModel$Formulas" "subjectOf" "[I") (List.mem_of_getElem? (i := 2) rfl)) (fun _ h9 => h9) rfl dX2_valueFromParts_4 ?_
    refine lv_iload_n hx hb dX2_valueFromParts_7 rfl (lv_at hl 3 rfl) ?_
    refine xiald (j := f) (q0 := 10) (t0 := 0) hx hb hK1 hP rfl rfl (by omega) (by decide) dX2_valueFromParts_8 ?_
    refine xtop (y := (M0 7 f)) (by exact hag 7 f (by decide)) ?_
    refine lv_topi (fun x_5 hx_5 => ?_)
    refine lv_istore (lv' := [(4, .int x_5), (0, .ref (a 16)), (1, .int (nI lv)), (2, .int mo), (3, .int (nI f))]) hx hb dX2_valueFromParts_9 hl (by decide) rfl (fun ls hl => ?_)
    refine lv_aload_n hx hb dX2_valueFromParts_11 rfl (lv_at hl 1 rfl) ?_
    refine va_get (D := D) (ci := 2) (v := .ref (a 8)) (C := RX2) (T := TX2) (N := 3) hx hb hts hinX2 hown hK1 hP 16 rfl rfl 1 (by decide) (hts (.fieldLink RX2 15 "KnowledgeModel$Truth" "formulas" "LKnowledgeModel$Formulas;") (List.mem_of_getElem? (i := 1) rfl)) (fun _ h9 => h9) rfl dX2_valueFromParts_12 ?_
    refine va_get (D := D) (ci := 0) (v := .ref (a 11)) (C := RX0) (T := TX0) (N := 8) hx hb hts hinX0 hown hK1 hP 8 rfl rfl 2 (by decide) (hts (.fieldLink RX2 47 "KnowledgeModel$Formulas" "firstOf" "[I") (List.mem_of_getElem? (i := 3) rfl)) (fun _ h9 => h9) rfl dX2_valueFromParts_15 ?_
    refine lv_iload_n hx hb dX2_valueFromParts_18 rfl (lv_at hl 4 rfl) ?_
    refine xiald (j := f) (q0 := 11) (t0 := 0) hx hb hK1 hP rfl rfl (by omega) (by decide) dX2_valueFromParts_19 ?_
    refine xtop (y := (nI (p1 f))) (by exact (hag 8 f (by decide)).trans hB1) ?_
    refine lv_istore (lv' := [(5, .int (nI (p1 f))), (4, .int x_5), (0, .ref (a 16)), (1, .int (nI lv)), (2, .int mo), (3, .int (nI f))]) hx hb dX2_valueFromParts_20 hl (by decide) rfl (fun ls hl => ?_)
    refine lv_aload_n hx hb dX2_valueFromParts_22 rfl (lv_at hl 2 rfl) ?_
    refine va_get (D := D) (ci := 2) (v := .ref (a 8)) (C := RX2) (T := TX2) (N := 3) hx hb hts hinX2 hown hK1 hP 16 rfl rfl 1 (by decide) (hts (.fieldLink RX2 15 "KnowledgeModel$Truth" "formulas" "LKnowledgeModel$Formulas;") (List.mem_of_getElem? (i := 1) rfl)) (fun _ h9 => h9) rfl dX2_valueFromParts_23 ?_
    refine va_get (D := D) (ci := 0) (v := .ref (a 12)) (C := RX0) (T := TX0) (N := 8) hx hb hts hinX0 hown hK1 hP 8 rfl rfl 3 (by decide) (hts (.fieldLink RX2 50 "KnowledgeModel$Formulas" "secondOf" "[I") (List.mem_of_getElem? (i := 4) rfl)) (fun _ h9 => h9) rfl dX2_valueFromParts_26 ?_
    refine lv_iload_n hx hb dX2_valueFromParts_29 rfl (lv_at hl 5 rfl) ?_
    refine xiald (j := f) (q0 := 12) (t0 := 0) hx hb hK1 hP rfl rfl (by omega) (by decide) dX2_valueFromParts_30 ?_
    refine xtop (y := (-1 : Int32)) (by exact (hag 9 f (by decide)).trans hE1) ?_
    refine lv_istore (lv' := [(6, .int (-1 : Int32)), (5, .int (nI (p1 f))), (4, .int x_5), (0, .ref (a 16)), (1, .int (nI lv)), (2, .int mo), (3, .int (nI f))]) hx hb dX2_valueFromParts_31 hl (by decide) rfl (fun ls hl => ?_)
    refine lv_iload hx hb dX2_valueFromParts_33 (lv_at hl 1 rfl) ?_
    refine lv_iconst (v := (-1 : Int32)) hx hb dX2_valueFromParts_35 (by decide) ?_
    refine lv_icmp_ne (tgt := 43) hx hb dX2_valueFromParts_36 (by decide) (fun c36 => ?_) (fun c36 => ?_)
    ·
      refine lv_aload_n hx hb dX2_valueFromParts_43 rfl (lv_at hl 3 rfl) ?_
      refine va_get (D := D) (ci := 2) (v := .ref (a 17)) (C := RX2) (T := TX2) (N := 3) hx hb hts hinX2 hown hK1 hP 16 rfl rfl 2 (by decide) (hts (.fieldLink RX2 21 "KnowledgeModel$Truth" "values" "[[I") (List.mem_of_getElem? (i := 5) rfl)) (fun _ h9 => h9) rfl dX2_valueFromParts_44 ?_
      refine lv_iload_n hx hb dX2_valueFromParts_47 rfl (lv_at hl 4 rfl) ?_
      refine xaald (j := lv) (q0 := 17) (t0 := 2) (f := fun i => a (18 + i)) hx hb hK1 hP rfl rfl (by omega) (by decide) dX2_valueFromParts_48 ?_
      refine lv_iload hx hb dX2_valueFromParts_49 (lv_at hl 1 rfl) ?_
      refine xiald (j := p1 f) (q0 := (18 + lv)) (t0 := 0) hx hb hK1 hP (xg_va (by omega)) rfl (by omega) (by decide) dX2_valueFromParts_51 ?_
      refine xtop (y := (sem M0 n kd p1 p2 sb mo (p1 f))) (by exact hp1 (by omega)) ?_
      refine lv_topi (fun x_6 hx_6 => ?_)
      refine lv_istore (lv' := [(7, .int x_6), (6, .int (-1 : Int32)), (5, .int (nI (p1 f))), (4, .int x_5), (0, .ref (a 16)), (1, .int (nI lv)), (2, .int mo), (3, .int (nI f))]) hx hb dX2_valueFromParts_52 hl (by decide) rfl (fun ls hl => ?_)
      refine lv_aload_n hx hb dX2_valueFromParts_54 rfl (lv_at hl 4 rfl) ?_
      refine va_get (D := D) (ci := 2) (v := .ref (a 8)) (C := RX2) (T := TX2) (N := 3) hx hb hts hinX2 hown hK1 hP 16 rfl rfl 1 (by decide) (hts (.fieldLink RX2 15 "KnowledgeModel$Truth" "formulas" "LKnowledgeModel$Formulas;") (List.mem_of_getElem? (i := 1) rfl)) (fun _ h9 => h9) rfl dX2_valueFromParts_55 ?_
      refine va_get (D := D) (ci := 0) (v := .ref (a 9)) (C := RX0) (T := TX0) (N := 8) hx hb hts hinX0 hown hK1 hP 8 rfl rfl 0 (by decide) (hts (.fieldLink RX2 53 "KnowledgeModel$Formulas" "kindOf" "[I") (List.mem_of_getElem? (i := 6) rfl)) (fun _ h9 => h9) rfl dX2_valueFromParts_58 ?_
      refine lv_iload_n hx hb dX2_valueFromParts_61 rfl (lv_at hl 7 rfl) ?_
      refine xiald (j := f) (q0 := 9) (t0 := 0) hx hb hK1 hP rfl rfl (by omega) (by decide) dX2_valueFromParts_62 ?_
      refine xtop (y := (nI 3)) (by exact ((hag 6 f (by decide)).trans hk6).trans (congrArg nI hkd)) ?_
      refine lv_tableIn (tgt := 146) hx hb dX2_valueFromParts_63 (by decide) (by decide) rfl (by decide) ?_
      refine lv_aload_n hx hb dX2_valueFromParts_146 rfl (lv_at hl 4 rfl) ?_
      refine lv_iload hx hb dX2_valueFromParts_147 (lv_at hl 0 rfl) ?_
      refine lv_iload hx hb dX2_valueFromParts_149 (lv_at hl 3 rfl) ?_
      refine lv_iload_n hx hb dX2_valueFromParts_151 rfl (lv_at hl 6 rfl) ?_
      refine xcalli (va_runV (As := [.int x_6, .int x_5, .int mo]) (rest := []) ⟨hx, hb, hml, hown, hts⟩ (c_X2_whereAllSeenAreIn l D cs a M N n x_6 x_5 mo hn (by omega)) (cwV 3 hts gX2_valueFromParts_X2_whereAllSeenAreIn rfl rfl rfl (by decide +kernel) ⟨Nat.le_of_ble_eq_true rfl, Nat.le_of_ble_eq_true rfl⟩) (xpreV hP hK (ci := 2) 16 rfl rfl) rfl rfl hl.1 rfl (lv_room (Nat.le_of_ble_eq_true rfl)) dX2_valueFromParts_152 ⟨Nat.le_of_ble_eq_true rfl, Nat.le_of_ble_eq_true rfl⟩) hS hP (fun H locs hP hS => ?_)
      refine xtop (y := (wSeen M0 n x_6 x_5 mo)) (by exact wSeen_c hag) ?_
      subst hQ
      have hrel : (∀ i x, ¬ (12 + lv + 1 ≤ i ∧ i < 15) → M i x = M i x) := by first | (intro i x _; rfl) | exact trivial
      have hfin : (wSeen M0 n x_6 x_5 mo) = sem M0 n kd p1 p2 sb mo f := by rw [sem_eq hwp hf]; simp only [hkd, if_true, if_false, show (1 : Nat) ≠ 0 by decide, show (2 : Nat) ≠ 0 by decide, show (2 : Nat) ≠ 1 by decide, show (3 : Nat) ≠ 0 by decide, show (3 : Nat) ≠ 1 by decide, show (3 : Nat) ≠ 2 by decide, show (3 : Nat) ≠ 4 by decide, show (3 : Nat) ≠ 6 by decide, show (4 : Nat) ≠ 0 by decide, show (4 : Nat) ≠ 1 by decide, show (4 : Nat) ≠ 2 by decide, show (5 : Nat) ≠ 0 by decide, show (5 : Nat) ≠ 1 by decide, show (5 : Nat) ≠ 2 by decide, show (5 : Nat) ≠ 4 by decide, show (5 : Nat) ≠ 6 by decide, show (6 : Nat) ≠ 0 by decide, show (6 : Nat) ≠ 1 by decide, show (6 : Nat) ≠ 2 by decide, show (6 : Nat) ≠ 4 by decide, hx_5, c36, hx_6]
      exact W.iret hx hb hr (fun t ht hW => ⟨⟨_, M, rfl, ⟨hfin, hrel⟩, by rw [← ht] at hP; exact hP⟩, hS.F ht⟩) hS.2.2 dX2_valueFromParts_155
    ·
      exfalso
      exact nI_ne_m1 (by omega) c36
  ·
    obtain ⟨hB1, hB2⟩ := hB (by omega)
    have hq1 := hL.1 (by omega)
    have hE1 := hE (by omega) (by omega)
    refine lv_aload_n hx hb dX2_valueFromParts_0 rfl (lv_at hl 0 rfl) ?_
    refine va_get (D := D) (ci := 2) (v := .ref (a 8)) (C := RX2) (T := TX2) (N := 3) hx hb hts hinX2 hown hK1 hP 16 rfl rfl 1 (by decide) (hts (.fieldLink RX2 15 "KnowledgeModel$Truth" "formulas" "LKnowledgeModel$Formulas;") (List.mem_of_getElem? (i := 1) rfl)) (fun _ h9 => h9) rfl dX2_valueFromParts_1 ?_
    refine va_get (D := D) (ci := 0) (v := .ref (a 10)) (C := RX0) (T := TX0) (N := 8) hx hb hts hinX0 hown hK1 hP 8 rfl rfl 1 (by decide) (hts (.fieldLink RX2 43 "KnowledgeModel$Formulas" "subjectOf" "[I") (List.mem_of_getElem? (i := 2) rfl)) (fun _ h9 => h9) rfl dX2_valueFromParts_4 ?_
    refine lv_iload_n hx hb dX2_valueFromParts_7 rfl (lv_at hl 3 rfl) ?_
    refine xiald (j := f) (q0 := 10) (t0 := 0) hx hb hK1 hP rfl rfl (by omega) (by decide) dX2_valueFromParts_8 ?_
    refine xtop (y := (M0 7 f)) (by exact hag 7 f (by decide)) ?_
    refine lv_topi (fun x_7 hx_7 => ?_)
    refine lv_istore (lv' := [(4, .int x_7), (0, .ref (a 16)), (1, .int (nI lv)), (2, .int mo), (3, .int (nI f))]) hx hb dX2_valueFromParts_9 hl (by decide) rfl (fun ls hl => ?_)
    refine lv_aload_n hx hb dX2_valueFromParts_11 rfl (lv_at hl 1 rfl) ?_
    refine va_get (D := D) (ci := 2) (v := .ref (a 8)) (C := RX2) (T := TX2) (N := 3) hx hb hts hinX2 hown hK1 hP 16 rfl rfl 1 (by decide) (hts (.fieldLink RX2 15 "KnowledgeModel$Truth" "formulas" "LKnowledgeModel$Formulas;") (List.mem_of_getElem? (i := 1) rfl)) (fun _ h9 => h9) rfl dX2_valueFromParts_12 ?_
    refine va_get (D := D) (ci := 0) (v := .ref (a 11)) (C := RX0) (T := TX0) (N := 8) hx hb hts hinX0 hown hK1 hP 8 rfl rfl 2 (by decide) (hts (.fieldLink RX2 47 "KnowledgeModel$Formulas" "firstOf" "[I") (List.mem_of_getElem? (i := 3) rfl)) (fun _ h9 => h9) rfl dX2_valueFromParts_15 ?_
    refine lv_iload_n hx hb dX2_valueFromParts_18 rfl (lv_at hl 4 rfl) ?_
    refine xiald (j := f) (q0 := 11) (t0 := 0) hx hb hK1 hP rfl rfl (by omega) (by decide) dX2_valueFromParts_19 ?_
    refine xtop (y := (nI (p1 f))) (by exact (hag 8 f (by decide)).trans hB1) ?_
    refine lv_istore (lv' := [(5, .int (nI (p1 f))), (4, .int x_7), (0, .ref (a 16)), (1, .int (nI lv)), (2, .int mo), (3, .int (nI f))]) hx hb dX2_valueFromParts_20 hl (by decide) rfl (fun ls hl => ?_)
    refine lv_aload_n hx hb dX2_valueFromParts_22 rfl (lv_at hl 2 rfl) ?_
    refine va_get (D := D) (ci := 2) (v := .ref (a 8)) (C := RX2) (T := TX2) (N := 3) hx hb hts hinX2 hown hK1 hP 16 rfl rfl 1 (by decide) (hts (.fieldLink RX2 15 "KnowledgeModel$Truth" "formulas" "LKnowledgeModel$Formulas;") (List.mem_of_getElem? (i := 1) rfl)) (fun _ h9 => h9) rfl dX2_valueFromParts_23 ?_
    refine va_get (D := D) (ci := 0) (v := .ref (a 12)) (C := RX0) (T := TX0) (N := 8) hx hb hts hinX0 hown hK1 hP 8 rfl rfl 3 (by decide) (hts (.fieldLink RX2 50 "KnowledgeModel$Formulas" "secondOf" "[I") (List.mem_of_getElem? (i := 4) rfl)) (fun _ h9 => h9) rfl dX2_valueFromParts_26 ?_
    refine lv_iload_n hx hb dX2_valueFromParts_29 rfl (lv_at hl 5 rfl) ?_
    refine xiald (j := f) (q0 := 12) (t0 := 0) hx hb hK1 hP rfl rfl (by omega) (by decide) dX2_valueFromParts_30 ?_
    refine xtop (y := (-1 : Int32)) (by exact (hag 9 f (by decide)).trans hE1) ?_
    refine lv_istore (lv' := [(6, .int (-1 : Int32)), (5, .int (nI (p1 f))), (4, .int x_7), (0, .ref (a 16)), (1, .int (nI lv)), (2, .int mo), (3, .int (nI f))]) hx hb dX2_valueFromParts_31 hl (by decide) rfl (fun ls hl => ?_)
    refine lv_iload hx hb dX2_valueFromParts_33 (lv_at hl 1 rfl) ?_
    refine lv_iconst (v := (-1 : Int32)) hx hb dX2_valueFromParts_35 (by decide) ?_
    refine lv_icmp_ne (tgt := 43) hx hb dX2_valueFromParts_36 (by decide) (fun c36 => ?_) (fun c36 => ?_)
    ·
      refine lv_aload_n hx hb dX2_valueFromParts_43 rfl (lv_at hl 3 rfl) ?_
      refine va_get (D := D) (ci := 2) (v := .ref (a 17)) (C := RX2) (T := TX2) (N := 3) hx hb hts hinX2 hown hK1 hP 16 rfl rfl 2 (by decide) (hts (.fieldLink RX2 21 "KnowledgeModel$Truth" "values" "[[I") (List.mem_of_getElem? (i := 5) rfl)) (fun _ h9 => h9) rfl dX2_valueFromParts_44 ?_
      refine lv_iload_n hx hb dX2_valueFromParts_47 rfl (lv_at hl 4 rfl) ?_
      refine xaald (j := lv) (q0 := 17) (t0 := 2) (f := fun i => a (18 + i)) hx hb hK1 hP rfl rfl (by omega) (by decide) dX2_valueFromParts_48 ?_
      refine lv_iload hx hb dX2_valueFromParts_49 (lv_at hl 1 rfl) ?_
      refine xiald (j := p1 f) (q0 := (18 + lv)) (t0 := 0) hx hb hK1 hP (xg_va (by omega)) rfl (by omega) (by decide) dX2_valueFromParts_51 ?_
      refine xtop (y := (sem M0 n kd p1 p2 sb mo (p1 f))) (by exact hp1 (by omega)) ?_
      refine lv_topi (fun x_8 hx_8 => ?_)
      refine lv_istore (lv' := [(7, .int x_8), (6, .int (-1 : Int32)), (5, .int (nI (p1 f))), (4, .int x_7), (0, .ref (a 16)), (1, .int (nI lv)), (2, .int mo), (3, .int (nI f))]) hx hb dX2_valueFromParts_52 hl (by decide) rfl (fun ls hl => ?_)
      refine lv_aload_n hx hb dX2_valueFromParts_54 rfl (lv_at hl 4 rfl) ?_
      refine va_get (D := D) (ci := 2) (v := .ref (a 8)) (C := RX2) (T := TX2) (N := 3) hx hb hts hinX2 hown hK1 hP 16 rfl rfl 1 (by decide) (hts (.fieldLink RX2 15 "KnowledgeModel$Truth" "formulas" "LKnowledgeModel$Formulas;") (List.mem_of_getElem? (i := 1) rfl)) (fun _ h9 => h9) rfl dX2_valueFromParts_55 ?_
      refine va_get (D := D) (ci := 0) (v := .ref (a 9)) (C := RX0) (T := TX0) (N := 8) hx hb hts hinX0 hown hK1 hP 8 rfl rfl 0 (by decide) (hts (.fieldLink RX2 53 "KnowledgeModel$Formulas" "kindOf" "[I") (List.mem_of_getElem? (i := 6) rfl)) (fun _ h9 => h9) rfl dX2_valueFromParts_58 ?_
      refine lv_iload_n hx hb dX2_valueFromParts_61 rfl (lv_at hl 7 rfl) ?_
      refine xiald (j := f) (q0 := 9) (t0 := 0) hx hb hK1 hP rfl rfl (by omega) (by decide) dX2_valueFromParts_62 ?_
      refine xtop (y := (nI 4)) (by exact ((hag 6 f (by decide)).trans hk6).trans (congrArg nI hkd)) ?_
      refine lv_tableIn (tgt := 156) hx hb dX2_valueFromParts_63 (by decide) (by decide) rfl (by decide) ?_
      refine lv_aload_n hx hb dX2_valueFromParts_156 rfl (lv_at hl 4 rfl) ?_
      refine lv_iload hx hb dX2_valueFromParts_157 (lv_at hl 0 rfl) ?_
      refine lv_iload hx hb dX2_valueFromParts_159 (lv_at hl 3 rfl) ?_
      refine lv_iload_n hx hb dX2_valueFromParts_161 rfl (lv_at hl 6 rfl) ?_
      refine xcalli (va_runV (As := [.int x_8, .int x_7, .int mo]) (rest := []) ⟨hx, hb, hml, hown, hts⟩ (c_X2_whereAllReachedAreIn l D cs a M N n x_8 x_7 mo hn (by omega)) (cwV 3 hts gX2_valueFromParts_X2_whereAllReachedAreIn rfl rfl rfl (by decide +kernel) ⟨Nat.le_of_ble_eq_true rfl, Nat.le_of_ble_eq_true rfl⟩) (xpreV hP hK (ci := 2) 16 rfl rfl) rfl rfl hl.1 rfl (lv_room (Nat.le_of_ble_eq_true rfl)) dX2_valueFromParts_162 ⟨Nat.le_of_ble_eq_true rfl, Nat.le_of_ble_eq_true rfl⟩) hS hP (fun H locs hP hS => ?_)
      refine xtop (y := (wReach M0 n x_8 x_7 mo)) (by exact wReach_c hag) ?_
      subst hQ
      have hrel : (∀ i x, ¬ (12 + lv + 1 ≤ i ∧ i < 15) → M i x = M i x) := by first | (intro i x _; rfl) | exact trivial
      have hfin : (wReach M0 n x_8 x_7 mo) = sem M0 n kd p1 p2 sb mo f := by rw [sem_eq hwp hf]; simp only [hkd, if_true, if_false, show (1 : Nat) ≠ 0 by decide, show (2 : Nat) ≠ 0 by decide, show (2 : Nat) ≠ 1 by decide, show (3 : Nat) ≠ 0 by decide, show (3 : Nat) ≠ 1 by decide, show (3 : Nat) ≠ 2 by decide, show (3 : Nat) ≠ 4 by decide, show (3 : Nat) ≠ 6 by decide, show (4 : Nat) ≠ 0 by decide, show (4 : Nat) ≠ 1 by decide, show (4 : Nat) ≠ 2 by decide, show (5 : Nat) ≠ 0 by decide, show (5 : Nat) ≠ 1 by decide, show (5 : Nat) ≠ 2 by decide, show (5 : Nat) ≠ 4 by decide, show (5 : Nat) ≠ 6 by decide, show (6 : Nat) ≠ 0 by decide, show (6 : Nat) ≠ 1 by decide, show (6 : Nat) ≠ 2 by decide, show (6 : Nat) ≠ 4 by decide, hx_7, c36, hx_8]
      exact W.iret hx hb hr (fun t ht hW => ⟨⟨_, M, rfl, ⟨hfin, hrel⟩, by rw [← ht] at hP; exact hP⟩, hS.F ht⟩) hS.2.2 dX2_valueFromParts_165
    ·
      exfalso
      exact nI_ne_m1 (by omega) c36
  ·
    obtain ⟨hB1, hB2⟩ := hB (by omega)
    have hq1 := hL.1 (by omega)
    have hE1 := hE (by omega) (by omega)
    refine lv_aload_n hx hb dX2_valueFromParts_0 rfl (lv_at hl 0 rfl) ?_
    refine va_get (D := D) (ci := 2) (v := .ref (a 8)) (C := RX2) (T := TX2) (N := 3) hx hb hts hinX2 hown hK1 hP 16 rfl rfl 1 (by decide) (hts (.fieldLink RX2 15 "KnowledgeModel$Truth" "formulas" "LKnowledgeModel$Formulas;") (List.mem_of_getElem? (i := 1) rfl)) (fun _ h9 => h9) rfl dX2_valueFromParts_1 ?_
    refine va_get (D := D) (ci := 0) (v := .ref (a 10)) (C := RX0) (T := TX0) (N := 8) hx hb hts hinX0 hown hK1 hP 8 rfl rfl 1 (by decide) (hts (.fieldLink RX2 43 "KnowledgeModel$Formulas" "subjectOf" "[I") (List.mem_of_getElem? (i := 2) rfl)) (fun _ h9 => h9) rfl dX2_valueFromParts_4 ?_
    refine lv_iload_n hx hb dX2_valueFromParts_7 rfl (lv_at hl 3 rfl) ?_
    refine xiald (j := f) (q0 := 10) (t0 := 0) hx hb hK1 hP rfl rfl (by omega) (by decide) dX2_valueFromParts_8 ?_
    refine xtop (y := (M0 7 f)) (by exact hag 7 f (by decide)) ?_
    refine lv_topi (fun x_9 hx_9 => ?_)
    refine lv_istore (lv' := [(4, .int x_9), (0, .ref (a 16)), (1, .int (nI lv)), (2, .int mo), (3, .int (nI f))]) hx hb dX2_valueFromParts_9 hl (by decide) rfl (fun ls hl => ?_)
    refine lv_aload_n hx hb dX2_valueFromParts_11 rfl (lv_at hl 1 rfl) ?_
    refine va_get (D := D) (ci := 2) (v := .ref (a 8)) (C := RX2) (T := TX2) (N := 3) hx hb hts hinX2 hown hK1 hP 16 rfl rfl 1 (by decide) (hts (.fieldLink RX2 15 "KnowledgeModel$Truth" "formulas" "LKnowledgeModel$Formulas;") (List.mem_of_getElem? (i := 1) rfl)) (fun _ h9 => h9) rfl dX2_valueFromParts_12 ?_
    refine va_get (D := D) (ci := 0) (v := .ref (a 11)) (C := RX0) (T := TX0) (N := 8) hx hb hts hinX0 hown hK1 hP 8 rfl rfl 2 (by decide) (hts (.fieldLink RX2 47 "KnowledgeModel$Formulas" "firstOf" "[I") (List.mem_of_getElem? (i := 3) rfl)) (fun _ h9 => h9) rfl dX2_valueFromParts_15 ?_
    refine lv_iload_n hx hb dX2_valueFromParts_18 rfl (lv_at hl 4 rfl) ?_
    refine xiald (j := f) (q0 := 11) (t0 := 0) hx hb hK1 hP rfl rfl (by omega) (by decide) dX2_valueFromParts_19 ?_
    refine xtop (y := (nI (p1 f))) (by exact (hag 8 f (by decide)).trans hB1) ?_
    refine lv_istore (lv' := [(5, .int (nI (p1 f))), (4, .int x_9), (0, .ref (a 16)), (1, .int (nI lv)), (2, .int mo), (3, .int (nI f))]) hx hb dX2_valueFromParts_20 hl (by decide) rfl (fun ls hl => ?_)
    refine lv_aload_n hx hb dX2_valueFromParts_22 rfl (lv_at hl 2 rfl) ?_
    refine va_get (D := D) (ci := 2) (v := .ref (a 8)) (C := RX2) (T := TX2) (N := 3) hx hb hts hinX2 hown hK1 hP 16 rfl rfl 1 (by decide) (hts (.fieldLink RX2 15 "KnowledgeModel$Truth" "formulas" "LKnowledgeModel$Formulas;") (List.mem_of_getElem? (i := 1) rfl)) (fun _ h9 => h9) rfl dX2_valueFromParts_23 ?_
    refine va_get (D := D) (ci := 0) (v := .ref (a 12)) (C := RX0) (T := TX0) (N := 8) hx hb hts hinX0 hown hK1 hP 8 rfl rfl 3 (by decide) (hts (.fieldLink RX2 50 "KnowledgeModel$Formulas" "secondOf" "[I") (List.mem_of_getElem? (i := 4) rfl)) (fun _ h9 => h9) rfl dX2_valueFromParts_26 ?_
    refine lv_iload_n hx hb dX2_valueFromParts_29 rfl (lv_at hl 5 rfl) ?_
    refine xiald (j := f) (q0 := 12) (t0 := 0) hx hb hK1 hP rfl rfl (by omega) (by decide) dX2_valueFromParts_30 ?_
    refine xtop (y := (-1 : Int32)) (by exact (hag 9 f (by decide)).trans hE1) ?_
    refine lv_istore (lv' := [(6, .int (-1 : Int32)), (5, .int (nI (p1 f))), (4, .int x_9), (0, .ref (a 16)), (1, .int (nI lv)), (2, .int mo), (3, .int (nI f))]) hx hb dX2_valueFromParts_31 hl (by decide) rfl (fun ls hl => ?_)
    refine lv_iload hx hb dX2_valueFromParts_33 (lv_at hl 1 rfl) ?_
    refine lv_iconst (v := (-1 : Int32)) hx hb dX2_valueFromParts_35 (by decide) ?_
    refine lv_icmp_ne (tgt := 43) hx hb dX2_valueFromParts_36 (by decide) (fun c36 => ?_) (fun c36 => ?_)
    ·
      refine lv_aload_n hx hb dX2_valueFromParts_43 rfl (lv_at hl 3 rfl) ?_
      refine va_get (D := D) (ci := 2) (v := .ref (a 17)) (C := RX2) (T := TX2) (N := 3) hx hb hts hinX2 hown hK1 hP 16 rfl rfl 2 (by decide) (hts (.fieldLink RX2 21 "KnowledgeModel$Truth" "values" "[[I") (List.mem_of_getElem? (i := 5) rfl)) (fun _ h9 => h9) rfl dX2_valueFromParts_44 ?_
      refine lv_iload_n hx hb dX2_valueFromParts_47 rfl (lv_at hl 4 rfl) ?_
      refine xaald (j := lv) (q0 := 17) (t0 := 2) (f := fun i => a (18 + i)) hx hb hK1 hP rfl rfl (by omega) (by decide) dX2_valueFromParts_48 ?_
      refine lv_iload hx hb dX2_valueFromParts_49 (lv_at hl 1 rfl) ?_
      refine xiald (j := p1 f) (q0 := (18 + lv)) (t0 := 0) hx hb hK1 hP (xg_va (by omega)) rfl (by omega) (by decide) dX2_valueFromParts_51 ?_
      refine xtop (y := (sem M0 n kd p1 p2 sb mo (p1 f))) (by exact hp1 (by omega)) ?_
      refine lv_topi (fun x_10 hx_10 => ?_)
      refine lv_istore (lv' := [(7, .int x_10), (6, .int (-1 : Int32)), (5, .int (nI (p1 f))), (4, .int x_9), (0, .ref (a 16)), (1, .int (nI lv)), (2, .int mo), (3, .int (nI f))]) hx hb dX2_valueFromParts_52 hl (by decide) rfl (fun ls hl => ?_)
      refine lv_aload_n hx hb dX2_valueFromParts_54 rfl (lv_at hl 4 rfl) ?_
      refine va_get (D := D) (ci := 2) (v := .ref (a 8)) (C := RX2) (T := TX2) (N := 3) hx hb hts hinX2 hown hK1 hP 16 rfl rfl 1 (by decide) (hts (.fieldLink RX2 15 "KnowledgeModel$Truth" "formulas" "LKnowledgeModel$Formulas;") (List.mem_of_getElem? (i := 1) rfl)) (fun _ h9 => h9) rfl dX2_valueFromParts_55 ?_
      refine va_get (D := D) (ci := 0) (v := .ref (a 9)) (C := RX0) (T := TX0) (N := 8) hx hb hts hinX0 hown hK1 hP 8 rfl rfl 0 (by decide) (hts (.fieldLink RX2 53 "KnowledgeModel$Formulas" "kindOf" "[I") (List.mem_of_getElem? (i := 6) rfl)) (fun _ h9 => h9) rfl dX2_valueFromParts_58 ?_
      refine lv_iload_n hx hb dX2_valueFromParts_61 rfl (lv_at hl 7 rfl) ?_
      refine xiald (j := f) (q0 := 9) (t0 := 0) hx hb hK1 hP rfl rfl (by omega) (by decide) dX2_valueFromParts_62 ?_
      refine xtop (y := (nI 5)) (by exact ((hag 6 f (by decide)).trans hk6).trans (congrArg nI hkd)) ?_
      refine lv_tableIn (tgt := 146) hx hb dX2_valueFromParts_63 (by decide) (by decide) rfl (by decide) ?_
      refine lv_aload_n hx hb dX2_valueFromParts_146 rfl (lv_at hl 4 rfl) ?_
      refine lv_iload hx hb dX2_valueFromParts_147 (lv_at hl 0 rfl) ?_
      refine lv_iload hx hb dX2_valueFromParts_149 (lv_at hl 3 rfl) ?_
      refine lv_iload_n hx hb dX2_valueFromParts_151 rfl (lv_at hl 6 rfl) ?_
      refine xcalli (va_runV (As := [.int x_10, .int x_9, .int mo]) (rest := []) ⟨hx, hb, hml, hown, hts⟩ (c_X2_whereAllSeenAreIn l D cs a M N n x_10 x_9 mo hn (by omega)) (cwV 3 hts gX2_valueFromParts_X2_whereAllSeenAreIn rfl rfl rfl (by decide +kernel) ⟨Nat.le_of_ble_eq_true rfl, Nat.le_of_ble_eq_true rfl⟩) (xpreV hP hK (ci := 2) 16 rfl rfl) rfl rfl hl.1 rfl (lv_room (Nat.le_of_ble_eq_true rfl)) dX2_valueFromParts_152 ⟨Nat.le_of_ble_eq_true rfl, Nat.le_of_ble_eq_true rfl⟩) hS hP (fun H locs hP hS => ?_)
      refine xtop (y := (wSeen M0 n x_10 x_9 mo)) (by exact wSeen_c hag) ?_
      subst hQ
      have hrel : (∀ i x, ¬ (12 + lv + 1 ≤ i ∧ i < 15) → M i x = M i x) := by first | (intro i x _; rfl) | exact trivial
      have hfin : (wSeen M0 n x_10 x_9 mo) = sem M0 n kd p1 p2 sb mo f := by rw [sem_eq hwp hf]; simp only [hkd, if_true, if_false, show (1 : Nat) ≠ 0 by decide, show (2 : Nat) ≠ 0 by decide, show (2 : Nat) ≠ 1 by decide, show (3 : Nat) ≠ 0 by decide, show (3 : Nat) ≠ 1 by decide, show (3 : Nat) ≠ 2 by decide, show (3 : Nat) ≠ 4 by decide, show (3 : Nat) ≠ 6 by decide, show (4 : Nat) ≠ 0 by decide, show (4 : Nat) ≠ 1 by decide, show (4 : Nat) ≠ 2 by decide, show (5 : Nat) ≠ 0 by decide, show (5 : Nat) ≠ 1 by decide, show (5 : Nat) ≠ 2 by decide, show (5 : Nat) ≠ 4 by decide, show (5 : Nat) ≠ 6 by decide, show (6 : Nat) ≠ 0 by decide, show (6 : Nat) ≠ 1 by decide, show (6 : Nat) ≠ 2 by decide, show (6 : Nat) ≠ 4 by decide, hx_9, c36, hx_10]
      exact W.iret hx hb hr (fun t ht hW => ⟨⟨_, M, rfl, ⟨hfin, hrel⟩, by rw [← ht] at hP; exact hP⟩, hS.F ht⟩) hS.2.2 dX2_valueFromParts_155
    ·
      exfalso
      exact nI_ne_m1 (by omega) c36
  ·
    obtain ⟨hB1, hB2⟩ := hB (by omega)
    have hq1 := hL.1 (by omega)
    have hC1 := hC (by omega)
    have hq2 := hL.2 (by omega)
    have hD1 := hD6 hkd
    refine lv_aload_n hx hb dX2_valueFromParts_0 rfl (lv_at hl 0 rfl) ?_
    refine va_get (D := D) (ci := 2) (v := .ref (a 8)) (C := RX2) (T := TX2) (N := 3) hx hb hts hinX2 hown hK1 hP 16 rfl rfl 1 (by decide) (hts (.fieldLink RX2 15 "KnowledgeModel$Truth" "formulas" "LKnowledgeModel$Formulas;") (List.mem_of_getElem? (i := 1) rfl)) (fun _ h9 => h9) rfl dX2_valueFromParts_1 ?_
    refine va_get (D := D) (ci := 0) (v := .ref (a 10)) (C := RX0) (T := TX0) (N := 8) hx hb hts hinX0 hown hK1 hP 8 rfl rfl 1 (by decide) (hts (.fieldLink RX2 43 "KnowledgeModel$Formulas" "subjectOf" "[I") (List.mem_of_getElem? (i := 2) rfl)) (fun _ h9 => h9) rfl dX2_valueFromParts_4 ?_
    refine lv_iload_n hx hb dX2_valueFromParts_7 rfl (lv_at hl 3 rfl) ?_
    refine xiald (j := f) (q0 := 10) (t0 := 0) hx hb hK1 hP rfl rfl (by omega) (by decide) dX2_valueFromParts_8 ?_
    refine xtop (y := (M0 7 f)) (by exact hag 7 f (by decide)) ?_
    refine lv_topi (fun x_11 hx_11 => ?_)
    refine lv_istore (lv' := [(4, .int x_11), (0, .ref (a 16)), (1, .int (nI lv)), (2, .int mo), (3, .int (nI f))]) hx hb dX2_valueFromParts_9 hl (by decide) rfl (fun ls hl => ?_)
    refine lv_aload_n hx hb dX2_valueFromParts_11 rfl (lv_at hl 1 rfl) ?_
    refine va_get (D := D) (ci := 2) (v := .ref (a 8)) (C := RX2) (T := TX2) (N := 3) hx hb hts hinX2 hown hK1 hP 16 rfl rfl 1 (by decide) (hts (.fieldLink RX2 15 "KnowledgeModel$Truth" "formulas" "LKnowledgeModel$Formulas;") (List.mem_of_getElem? (i := 1) rfl)) (fun _ h9 => h9) rfl dX2_valueFromParts_12 ?_
    refine va_get (D := D) (ci := 0) (v := .ref (a 11)) (C := RX0) (T := TX0) (N := 8) hx hb hts hinX0 hown hK1 hP 8 rfl rfl 2 (by decide) (hts (.fieldLink RX2 47 "KnowledgeModel$Formulas" "firstOf" "[I") (List.mem_of_getElem? (i := 3) rfl)) (fun _ h9 => h9) rfl dX2_valueFromParts_15 ?_
    refine lv_iload_n hx hb dX2_valueFromParts_18 rfl (lv_at hl 4 rfl) ?_
    refine xiald (j := f) (q0 := 11) (t0 := 0) hx hb hK1 hP rfl rfl (by omega) (by decide) dX2_valueFromParts_19 ?_
    refine xtop (y := (nI (p1 f))) (by exact (hag 8 f (by decide)).trans hB1) ?_
    refine lv_istore (lv' := [(5, .int (nI (p1 f))), (4, .int x_11), (0, .ref (a 16)), (1, .int (nI lv)), (2, .int mo), (3, .int (nI f))]) hx hb dX2_valueFromParts_20 hl (by decide) rfl (fun ls hl => ?_)
    refine lv_aload_n hx hb dX2_valueFromParts_22 rfl (lv_at hl 2 rfl) ?_
    refine va_get (D := D) (ci := 2) (v := .ref (a 8)) (C := RX2) (T := TX2) (N := 3) hx hb hts hinX2 hown hK1 hP 16 rfl rfl 1 (by decide) (hts (.fieldLink RX2 15 "KnowledgeModel$Truth" "formulas" "LKnowledgeModel$Formulas;") (List.mem_of_getElem? (i := 1) rfl)) (fun _ h9 => h9) rfl dX2_valueFromParts_23 ?_
    refine va_get (D := D) (ci := 0) (v := .ref (a 12)) (C := RX0) (T := TX0) (N := 8) hx hb hts hinX0 hown hK1 hP 8 rfl rfl 3 (by decide) (hts (.fieldLink RX2 50 "KnowledgeModel$Formulas" "secondOf" "[I") (List.mem_of_getElem? (i := 4) rfl)) (fun _ h9 => h9) rfl dX2_valueFromParts_26 ?_
    refine lv_iload_n hx hb dX2_valueFromParts_29 rfl (lv_at hl 5 rfl) ?_
    refine xiald (j := f) (q0 := 12) (t0 := 0) hx hb hK1 hP rfl rfl (by omega) (by decide) dX2_valueFromParts_30 ?_
    refine xtop (y := (nI (p2 f))) (by exact (hag 9 f (by decide)).trans hC1) ?_
    refine lv_istore (lv' := [(6, .int (nI (p2 f))), (5, .int (nI (p1 f))), (4, .int x_11), (0, .ref (a 16)), (1, .int (nI lv)), (2, .int mo), (3, .int (nI f))]) hx hb dX2_valueFromParts_31 hl (by decide) rfl (fun ls hl => ?_)
    refine lv_iload hx hb dX2_valueFromParts_33 (lv_at hl 1 rfl) ?_
    refine lv_iconst (v := (-1 : Int32)) hx hb dX2_valueFromParts_35 (by decide) ?_
    refine lv_icmp_ne (tgt := 43) hx hb dX2_valueFromParts_36 (by decide) (fun c36 => ?_) (fun c36 => ?_)
    ·
      refine lv_aload_n hx hb dX2_valueFromParts_43 rfl (lv_at hl 3 rfl) ?_
      refine va_get (D := D) (ci := 2) (v := .ref (a 17)) (C := RX2) (T := TX2) (N := 3) hx hb hts hinX2 hown hK1 hP 16 rfl rfl 2 (by decide) (hts (.fieldLink RX2 21 "KnowledgeModel$Truth" "values" "[[I") (List.mem_of_getElem? (i := 5) rfl)) (fun _ h9 => h9) rfl dX2_valueFromParts_44 ?_
      refine lv_iload_n hx hb dX2_valueFromParts_47 rfl (lv_at hl 4 rfl) ?_
      refine xaald (j := lv) (q0 := 17) (t0 := 2) (f := fun i => a (18 + i)) hx hb hK1 hP rfl rfl (by omega) (by decide) dX2_valueFromParts_48 ?_
      refine lv_iload hx hb dX2_valueFromParts_49 (lv_at hl 1 rfl) ?_
      refine xiald (j := p1 f) (q0 := (18 + lv)) (t0 := 0) hx hb hK1 hP (xg_va (by omega)) rfl (by omega) (by decide) dX2_valueFromParts_51 ?_
      refine xtop (y := (sem M0 n kd p1 p2 sb mo (p1 f))) (by exact hp1 (by omega)) ?_
      refine lv_topi (fun x_12 hx_12 => ?_)
      refine lv_istore (lv' := [(7, .int x_12), (6, .int (nI (p2 f))), (5, .int (nI (p1 f))), (4, .int x_11), (0, .ref (a 16)), (1, .int (nI lv)), (2, .int mo), (3, .int (nI f))]) hx hb dX2_valueFromParts_52 hl (by decide) rfl (fun ls hl => ?_)
      refine lv_aload_n hx hb dX2_valueFromParts_54 rfl (lv_at hl 4 rfl) ?_
      refine va_get (D := D) (ci := 2) (v := .ref (a 8)) (C := RX2) (T := TX2) (N := 3) hx hb hts hinX2 hown hK1 hP 16 rfl rfl 1 (by decide) (hts (.fieldLink RX2 15 "KnowledgeModel$Truth" "formulas" "LKnowledgeModel$Formulas;") (List.mem_of_getElem? (i := 1) rfl)) (fun _ h9 => h9) rfl dX2_valueFromParts_55 ?_
      refine va_get (D := D) (ci := 0) (v := .ref (a 9)) (C := RX0) (T := TX0) (N := 8) hx hb hts hinX0 hown hK1 hP 8 rfl rfl 0 (by decide) (hts (.fieldLink RX2 53 "KnowledgeModel$Formulas" "kindOf" "[I") (List.mem_of_getElem? (i := 6) rfl)) (fun _ h9 => h9) rfl dX2_valueFromParts_58 ?_
      refine lv_iload_n hx hb dX2_valueFromParts_61 rfl (lv_at hl 7 rfl) ?_
      refine xiald (j := f) (q0 := 9) (t0 := 0) hx hb hK1 hP rfl rfl (by omega) (by decide) dX2_valueFromParts_62 ?_
      refine xtop (y := (nI 6)) (by exact ((hag 6 f (by decide)).trans hk6).trans (congrArg nI hkd)) ?_
      refine lv_tableIn (tgt := 166) hx hb dX2_valueFromParts_63 (by decide) (by decide) rfl (by decide) ?_
      refine lv_iload hx hb dX2_valueFromParts_166 (lv_at hl 1 rfl) ?_
      refine lv_iconst (v := (-1 : Int32)) hx hb dX2_valueFromParts_168 (by decide) ?_
      refine lv_icmp_ne (tgt := 176) hx hb dX2_valueFromParts_169 (by decide) (fun c169 => ?_) (fun c169 => ?_)
      ·
        refine lv_iload_n hx hb dX2_valueFromParts_176 rfl (lv_at hl 6 rfl) ?_
        refine lv_iload hx hb dX2_valueFromParts_177 (lv_at hl 0 rfl) ?_
        refine lv_iconst (v := (-1 : Int32)) hx hb dX2_valueFromParts_179 (by decide) ?_
        refine lv_ixor hx hb dX2_valueFromParts_180 ?_
        refine lv_iand hx hb dX2_valueFromParts_181 ?_
        refine lv_aload_n hx hb dX2_valueFromParts_182 rfl (lv_at hl 4 rfl) ?_
        refine lv_iload_n hx hb dX2_valueFromParts_183 rfl (lv_at hl 5 rfl) ?_
        refine lv_iconst (v := (nI 1)) hx hb dX2_valueFromParts_184 (by decide) ?_
        refine xiadd hx hb dX2_valueFromParts_185 ?_
        refine lv_iload hx hb dX2_valueFromParts_186 (lv_at hl 0 rfl) ?_
        refine lv_iload hx hb dX2_valueFromParts_188 (lv_at hl 1 rfl) ?_
        refine xcallwi (va_runV (As := [.int (nI (lv + 1)), .int x_12, .int (nI (p2 f))]) (rest := [.int (mo &&& (x_12 ^^^ (-1 : Int32)))]) ⟨hx, hb, hml, hown, hts⟩ (c_X2_valueIn_1 l D cs a M N _ hI n nf kd p1 p2 ns sb M0 (lv + 1) x_12 (p2 f) hn (by omega) hag hwf hf40 (by omega) (by omega) (by omega)) (cwV 3 hts gX2_valueFromParts_X2_valueIn rfl rfl rfl (by decide +kernel) ⟨Nat.le_of_ble_eq_true rfl, Nat.le_of_ble_eq_true rfl⟩) (xpreVs hP hK (ci := 2) 16 rfl rfl) rfl rfl hl.1 rfl (lv_room (Nat.le_of_ble_eq_true rfl)) dX2_valueFromParts_190 ⟨Nat.le_of_ble_eq_true rfl, Nat.le_of_ble_eq_true rfl⟩) hS (kAle hS.1) (fun u_13 H locs hu_13 hP _ _ hS => ?_)
        have hP : va_P D vwCl (xc cs a u_13 N) H := hP
        refine lv_ior hx hb dX2_valueFromParts_193 ?_
        subst hQ
        have hrel : (∀ i x, ¬ (12 + lv + 1 ≤ i ∧ i < 15) → u_13 i x = M i x) := by first | (intro i x _; rfl) | exact hu_13
        have hfin : ((mo &&& (x_12 ^^^ (-1 : Int32))) ||| (sem M0 n kd p1 p2 sb x_12 (p2 f))) = sem M0 n kd p1 p2 sb mo f := by rw [sem_eq hwp hf]; simp only [hkd, if_true, if_false, show (1 : Nat) ≠ 0 by decide, show (2 : Nat) ≠ 0 by decide, show (2 : Nat) ≠ 1 by decide, show (3 : Nat) ≠ 0 by decide, show (3 : Nat) ≠ 1 by decide, show (3 : Nat) ≠ 2 by decide, show (3 : Nat) ≠ 4 by decide, show (3 : Nat) ≠ 6 by decide, show (4 : Nat) ≠ 0 by decide, show (4 : Nat) ≠ 1 by decide, show (4 : Nat) ≠ 2 by decide, show (5 : Nat) ≠ 0 by decide, show (5 : Nat) ≠ 1 by decide, show (5 : Nat) ≠ 2 by decide, show (5 : Nat) ≠ 4 by decide, show (5 : Nat) ≠ 6 by decide, show (6 : Nat) ≠ 0 by decide, show (6 : Nat) ≠ 1 by decide, show (6 : Nat) ≠ 2 by decide, show (6 : Nat) ≠ 4 by decide, hx_11, c36, hx_12, c169]
        exact W.iret hx hb hr (fun t ht hW => ⟨⟨_, u_13, rfl, ⟨hfin, hrel⟩, by rw [← ht] at hP; exact hP⟩, hS.F ht⟩) hS.2.2 dX2_valueFromParts_194
      ·
        exfalso
        exact nI_ne_m1 (by omega) c169
    ·
      exfalso
      exact nI_ne_m1 (by omega) c36

set_option maxHeartbeats 4000000 in
set_option maxRecDepth 100000 in
theorem c_X2_valueIn_0 (l : Launch) (D : va_G) (cs : Nat → ClassId) (a : Nat → Nat) (M : Nat → Nat → Int32) (N : Nat → Int64) (sz : Nat) (hI : kI a 29)  (n : Nat) (nf : Nat) (kd : Nat → Nat) (p1 : Nat → Nat) (p2 : Nat → Nat) (ns : Nat → Nat) (sb : Nat → Nat) (M0 : Nat → Nat → Int32) (lv : Nat) (mo : Int32) (f : Nat) (hn : M 0 0 = nI n) (hn24 : n ≤ 24) (hag : Ag M M0) (hwf : WFX M0 N nf kd p1 p2 ns sb) (hf40 : nf ≤ 40) (hlv : lv = 0) (hf : f < nf) (hns : ns f + lv ≤ 2) : Met l yX2_valueIn wsX2_valueIn ({ frames := 9, cells := 0, slots := 0, locals := 250 } : Room) (va_Pc [.ref (a 16), .int (nI lv), .int mo, .int (nI f)] (XBs D cs (xc cs a M N) sz)) (va_Qi (fun r (u : Nat → Nat → Int32) => r = sem M0 n kd p1 p2 sb mo f ∧ (∀ i x, ¬ (12 + lv ≤ i ∧ i < 15) → u i x = M i x)) (fun (u : Nat → Nat → Int32) t => va_P D vwCl (xc cs a u N) t.heap) (kA a 29 sz)) 0 0 (kA a 29 sz) := by
  refine Met.ofW (cc := cX2_valueIn) (maxL := 7) (ret := (some .int)) (by decide) rfl ?_
  intro p e s m args below meth c s₁ B hml hv
  obtain ⟨rfl, hsz, hP, hK⟩ := hv
  have hx := B.exec
  have hb := B.bytes
  have hr := B.returns
  have hts := atoms_spec (ws := wsX2_valueIn) B.pre
  have hown : s.vm.findClass RX2 = some m.cls := findClass_of_methodNamed B.named
  have hlocks := B.notSynchronized
  have hK1 := hK.1
  have hinX2 : ∀ w ∈ wsX20, w ∈ wsX2_valueIn := fun w h => List.mem_cons_of_mem _ (List.mem_append_left _ (List.mem_append_left _ (List.mem_append_right _ h)))
  have hinX0 : ∀ w ∈ wsX00, w ∈ wsX2_valueIn := fun w h => List.mem_cons_of_mem _ (List.mem_append_left _ (List.mem_append_right _ h))
  have hinX3 : ∀ w ∈ wsX30, w ∈ wsX2_valueIn := fun w h => List.mem_cons_of_mem _ (List.mem_append_right _ h)
  subst hsz
  have hS : va_S (kA a 29 s.heap.size) s.heap s.heap [] := va_S.rf
  have hl := lv_entry ([.ref (a 16), .int (nI lv), .int mo, .int (nI f)]) (n := 7) (Nat.le_of_ble_eq_true rfl)
  rw [lg_entry_eq]
  generalize (lg_sl ([.ref (a 16), .int (nI lv), .int mo, .int (nI f)]) ++ List.replicate (7 - (lg_sl ([.ref (a 16), .int (nI lv), .int mo, .int (nI f)])).length) Slot.unset).toArray = ls at hl ⊢
  have hl : lv_has ls 7 [(0, .ref (a 16)), (1, .int (nI lv)), (2, .int mo), (3, .int (nI f))] := hl
  refine W_Q (fun Q hQ => ?_)
  show W p l e ({ frames := 9, cells := 0, slots := 0, locals := 250 } : Room) s m ([.ref (a 16), .int (nI lv), .int mo, .int (nI f)] : List Value).toArray below meth c s.heap [] 0 0 Q (F0 m 0 ls [])
  obtain ⟨-, -, -, -, -, -, hF1, hF2⟩ := hwf.2 f hf
  refine lv_iload_n hx hb dX2_valueIn_0 rfl (lv_at hl 1 rfl) ?_
  refine lv_iconst (v := (nI 2)) hx hb dX2_valueIn_1 (by decide) ?_
  refine lv_icmp_le (tgt := 7) hx hb dX2_valueIn_2 (by decide) (fun c2 => ?_) (fun c2 => ?_)
  ·
    replace c2 : lv ≤ 2 := k_let c2 (by omega) (by omega)
    refine lv_aload_n hx hb dX2_valueIn_7 rfl (lv_at hl 0 rfl) ?_
    refine va_get (D := D) (ci := 2) (v := .ref (a 8)) (C := RX2) (T := TX2) (N := 3) hx hb hts hinX2 hown hK1 hP 16 rfl rfl 1 (by decide) (hts (.fieldLink RX2 15 "KnowledgeModel$Truth" "formulas" "LKnowledgeModel$Formulas;") (List.mem_of_getElem? (i := 1) rfl)) (fun _ h9 => h9) rfl dX2_valueIn_8 ?_
    refine va_get (D := D) (ci := 0) (v := .ref (a 15)) (C := RX0) (T := TX0) (N := 8) hx hb hts hinX0 hown hK1 hP 8 rfl rfl 6 (by decide) (hts (.fieldLink RX2 34 "KnowledgeModel$Formulas" "neededFor" "[J") (List.mem_of_getElem? (i := 2) rfl)) (fun _ h9 => h9) rfl dX2_valueIn_11 ?_
    refine lv_iload_n hx hb dX2_valueIn_14 rfl (lv_at hl 3 rfl) ?_
    refine xlald (j := f) (q0 := 15) (t0 := 1) hx hb hK1 hP rfl rfl (by omega) (by decide) dX2_valueIn_15 ?_
    refine lv_lstore (lv' := [(4, .long (N f)), (0, .ref (a 16)), (1, .int (nI lv)), (2, .int mo), (3, .int (nI f))]) hx hb dX2_valueIn_16 hl (by decide) rfl (fun ls hl => ?_)
    refine lv_iconst (v := (nI 0)) hx hb dX2_valueIn_18 (by decide) ?_
    refine lv_istore (lv' := [(6, .int (nI 0)), (4, .long (N f)), (0, .ref (a 16)), (1, .int (nI lv)), (2, .int mo), (3, .int (nI f))]) hx hb dX2_valueIn_19 hl (by decide) rfl (fun ls hl => ?_)
    have cut21 : ∀ (f21 : Nat) (g : Nat) (Mg : Nat → Nat → Int32) (hg : g ≤ f + 1) (hVR : (∀ h, h < g → nb (N f) h = true → Mg (12 + lv) h = sem M0 n kd p1 p2 sb mo h) ∧ (∀ i x, ¬ (12 + lv ≤ i ∧ i < 15) → Mg i x = M i x)) (hng : Mg 0 0 = nI n), f + 2 ≤ g + f21 → ∀ (H : Heap) (locs : List Loc), va_P D vwCl (xc cs a Mg N) H → va_S (kA a 29 s.heap.size) s.heap H locs → ∀ (ls : Array Slot), lv_has ls 7 [(0, .ref (a 16)), (1, .int (nI lv)), (2, .int mo), (3, .int (nI f)), (4, .long (N f)), (6, .int (nI g))] → W p l e ({ frames := 9, cells := 0, slots := 0, locals := 250 } : Room) s m ([.ref (a 16), .int (nI lv), .int mo, .int (nI f)] : List Value).toArray below meth c H locs 0 0 Q (F0 m 21 ls []) := by
      intro f21
      induction f21 with
      | zero => intro g Mg hg hVR hng hfu21; exact absurd hfu21 (by omega)
      | succ f21 cut21 =>
        intro g Mg hg hVR hng hfu21 H locs hP hS ls hl
        have hagg : Ag Mg M0 := fun i x hi => (hVR.2 i x (by omega)).trans (hag i x hi)
        refine lv_iload hx hb dX2_valueIn_21 (lv_at hl 5 rfl) ?_
        refine lv_iload_n hx hb dX2_valueIn_23 rfl (lv_at hl 3 rfl) ?_
        refine lv_icmp_gt (tgt := 62) hx hb dX2_valueIn_24 (by decide) (fun c24 => ?_) (fun c24 => ?_)
        ·
          replace c24 : f < g := k_gtt c24 (by omega) (by omega)
          refine lv_aload_n hx hb dX2_valueIn_62 rfl (lv_at hl 0 rfl) ?_
          refine va_get (D := D) (ci := 2) (v := .ref (a 17)) (C := RX2) (T := TX2) (N := 3) hx hb hts hinX2 hown hK1 hP 16 rfl rfl 2 (by decide) (hts (.fieldLink RX2 21 "KnowledgeModel$Truth" "values" "[[I") (List.mem_of_getElem? (i := 3) rfl)) (fun _ h9 => h9) rfl dX2_valueIn_63 ?_
          refine lv_iload_n hx hb dX2_valueIn_66 rfl (lv_at hl 1 rfl) ?_
          refine xaald (j := lv) (q0 := 17) (t0 := 2) (f := fun i => a (18 + i)) hx hb hK1 hP rfl rfl (by omega) (by decide) dX2_valueIn_67 ?_
          refine lv_iload_n hx hb dX2_valueIn_68 rfl (lv_at hl 3 rfl) ?_
          refine xiald (j := f) (q0 := (18 + lv)) (t0 := 0) hx hb hK1 hP (xg_va (by omega)) rfl (by omega) (by decide) dX2_valueIn_69 ?_
          refine xtop (y := (sem M0 n kd p1 p2 sb mo f)) (by exact hVR.1 f (by omega) hF1) ?_
          subst hQ
          have hrel : (∀ i x, ¬ (12 + lv ≤ i ∧ i < 15) → Mg i x = M i x) := by exact hVR.2
          have hfin : (sem M0 n kd p1 p2 sb mo f) = sem M0 n kd p1 p2 sb mo f := by rfl
          exact W.iret hx hb hr (fun t ht hW => ⟨⟨_, Mg, rfl, ⟨hfin, hrel⟩, by rw [← ht] at hP; exact hP⟩, hS.F ht⟩) hS.2.2 dX2_valueIn_70
        ·
          replace c24 : g ≤ f := k_gtf c24 (by omega) (by omega)
          refine lv_lload hx hb dX2_valueIn_27 (lv_at hl 4 rfl) ?_
          refine lv_iload hx hb dX2_valueIn_29 (lv_at hl 5 rfl) ?_
          refine lv_lshr (v := (N f) >>> ((nI g).toInt64 &&& 63)) hx hb dX2_valueIn_31 rfl ?_
          refine lv_lconst (v := 1) hx hb dX2_valueIn_32 (by decide) ?_
          refine lv_land hx hb dX2_valueIn_33 ?_
          refine lv_lconst (v := 0) hx hb dX2_valueIn_34 (by decide) ?_
          refine W.lcmp hx hb dX2_valueIn_35 ?_
          refine xtop (y := bI (nb (N f) g)) (nb_bI _ (by omega)) ?_
          refine lv_if_eq (tgt := 56) hx hb dX2_valueIn_36 (by decide) (fun c36 => ?_) (fun c36 => ?_)
          ·
            replace c36 := bI_0 c36
            refine lv_iinc (v := (nI (g + 1))) (lv' := [(6, .int (nI (g + 1))), (0, .ref (a 16)), (1, .int (nI lv)), (2, .int mo), (3, .int (nI f)), (4, .long (N f))]) hx hb dX2_valueIn_56 hl (k := 5) rfl (nI_add g 1) (by decide) rfl (fun ls hl => ?_)
            refine lv_goto (tgt := 21) hx hb dX2_valueIn_59 (by decide) ?_
            exact cut21 (g + 1) Mg (by omega) (by first | (refine ⟨fun h hh hb2 => ?_, hVR.2⟩; rcases Nat.lt_or_ge h g with qq | qq; exact hVR.1 h qq hb2; (have he : h = g := by omega); subst he; rw [c36] at hb2; cases hb2) | (simp only [fo_0, c24, c36]; exact VR_s hVR (by omega) trivial)) (by first | exact hng | assumption) (by omega) _ _ hP hS ls (lcons (lcons (lcons (lcons (lcons (lcons (lzero hl) hl 0 rfl rfl) hl 5 rfl rfl) hl 4 rfl rfl) hl 3 rfl rfl) hl 2 rfl rfl) hl 1 rfl rfl)
          ·
            replace c36 := bI_n0 c36
            refine lv_aload_n hx hb dX2_valueIn_39 rfl (lv_at hl 0 rfl) ?_
            refine va_get (D := D) (ci := 2) (v := .ref (a 17)) (C := RX2) (T := TX2) (N := 3) hx hb hts hinX2 hown hK1 hP 16 rfl rfl 2 (by decide) (hts (.fieldLink RX2 21 "KnowledgeModel$Truth" "values" "[[I") (List.mem_of_getElem? (i := 3) rfl)) (fun _ h9 => h9) rfl dX2_valueIn_40 ?_
            refine lv_iload_n hx hb dX2_valueIn_43 rfl (lv_at hl 1 rfl) ?_
            refine xaald (j := lv) (q0 := 17) (t0 := 2) (f := fun i => a (18 + i)) hx hb hK1 hP rfl rfl (by omega) (by decide) dX2_valueIn_44 ?_
            refine lv_iload hx hb dX2_valueIn_45 (lv_at hl 5 rfl) ?_
            refine lv_aload_n hx hb dX2_valueIn_47 rfl (lv_at hl 0 rfl) ?_
            refine lv_iload_n hx hb dX2_valueIn_48 rfl (lv_at hl 1 rfl) ?_
            refine lv_iload_n hx hb dX2_valueIn_49 rfl (lv_at hl 2 rfl) ?_
            refine lv_iload hx hb dX2_valueIn_50 (lv_at hl 5 rfl) ?_
            refine xcallwi (va_runV (As := [.int (nI lv), .int mo, .int (nI g)]) (rest := [.int (nI g), .ref (a (18 + lv))]) ⟨hx, hb, hml, hown, hts⟩ (c_X2_valueFromParts_0 l D cs a Mg N _ hI n nf kd p1 p2 ns sb M0 lv mo g hng (by omega) hagg hwf hf40 hlv (by omega) (by have := (hF2 g (by omega) c36).1; omega) (fun hz => hVR.1 (p1 g) ((hwf.1 g (by omega)).1 hz) ((hF2 g (by omega) c36).2.1 hz)) (fun hz => hVR.1 (p2 g) ((hwf.1 g (by omega)).2 (Or.inl hz)) ((hF2 g (by omega) c36).2.2 hz))) (cwV 3 hts gX2_valueIn_X2_valueFromParts rfl rfl rfl (by decide +kernel) ⟨Nat.le_of_ble_eq_true rfl, Nat.le_of_ble_eq_true rfl⟩) (xpreVs hP hK (ci := 2) 16 rfl rfl) rfl rfl hl.1 rfl (lv_room (Nat.le_of_ble_eq_true rfl)) dX2_valueIn_52 ⟨Nat.le_of_ble_eq_true rfl, Nat.le_of_ble_eq_true rfl⟩) hS (kAle hS.1) (fun u_1 H locs hu_1 hP _ _ hS => ?_)
            have hP : va_P D vwCl (xc cs a u_1 N) H := hP
            have hk_2 : u_1 0 0 = nI n := by rw [hu_1 0 0 (by omega)]; exact hng
            refine lv_topi (fun x_3 hx_3 => ?_)
            refine xiast (j := g) (q0 := (18 + lv)) (t0 := 0) (ws' := xc cs a (wr u_1 (12 + lv) g x_3) N) hx hb hK1 hP (xD hI) hS (xg_va (by omega)) rfl (by omega) (by decide) (xs_va (by omega)) dX2_valueIn_55 (fun H locs hP hS => ?_)
            obtain ⟨M_4, hM_4⟩ : ∃ z, z = wr u_1 (12 + lv) g x_3 := ⟨_, rfl⟩
            rw [← hM_4] at hP
            have hk_5 : M_4 0 0 = nI n := by rw [hM_4]; exact (wr_ne (Or.inl (by omega))).trans hk_2
            refine lv_iinc (v := (nI (g + 1))) (lv' := [(6, .int (nI (g + 1))), (0, .ref (a 16)), (1, .int (nI lv)), (2, .int mo), (3, .int (nI f)), (4, .long (N f))]) hx hb dX2_valueIn_56 hl (k := 5) rfl (nI_add g 1) (by decide) rfl (fun ls hl => ?_)
            refine lv_goto (tgt := 21) hx hb dX2_valueIn_59 (by decide) ?_
            exact cut21 (g + 1) M_4 (by omega) (by first | (refine ⟨fun h hh hb2 => ?_, hVR.2⟩; rcases Nat.lt_or_ge h g with qq | qq; exact hVR.1 h qq hb2; (have he : h = g := by omega); subst he; rw [c36] at hb2; cases hb2) | (simp only [fo_0, c24, c36, hx_3, hM_4]; exact VR_s hVR (by omega) hu_1)) (by first | exact hng | assumption) (by omega) _ _ hP hS ls (lcons (lcons (lcons (lcons (lcons (lcons (lzero hl) hl 0 rfl rfl) hl 5 rfl rfl) hl 4 rfl rfl) hl 3 rfl rfl) hl 2 rfl rfl) hl 1 rfl rfl)
    exact cut21 (f + 2) 0 M (by omega) (by exact ⟨fun h hh => absurd hh (by omega), fun _ _ _ => rfl⟩) (by exact hn) (by omega) _ _ hP hS ls (lcons (lcons (lcons (lcons (lcons (lcons (lzero hl) hl 0 rfl rfl) hl 1 rfl rfl) hl 5 rfl rfl) hl 4 rfl rfl) hl 3 rfl rfl) hl 2 rfl rfl)
  ·
    replace c2 : 2 < lv := k_lef c2 (by omega) (by omega)
    exfalso
    omega

set_option maxHeartbeats 4000000 in
set_option maxRecDepth 100000 in
theorem c_X2_worldsOf (l : Launch) (D : va_G) (cs : Nat → ClassId) (a : Nat → Nat) (M : Nat → Nat → Int32) (N : Nat → Int64) (sz : Nat) (hI : kI a 29)  (n : Nat) (nf : Nat) (kd : Nat → Nat) (p1 : Nat → Nat) (p2 : Nat → Nat) (ns : Nat → Nat) (sb : Nat → Nat) (f : Nat) (hn : M 0 0 = nI n) (hn24 : n ≤ 24) (hwf : WFX M N nf kd p1 p2 ns sb) (hf40 : nf ≤ 40) (hf : f < nf) : Met l yX2_worldsOf wsX2_worldsOf ({ frames := 12, cells := 0, slots := 0, locals := 300 } : Room) (va_Pc [.ref (a 16), .int (nI f)] (XBs D cs (xc cs a M N) sz)) (va_Qi (fun r (u : Nat → Nat → Int32) => r = sem M n kd p1 p2 sb (sg n - nI 1) f ∧ (∀ i x, ¬ (12 ≤ i ∧ i < 15) → u i x = M i x)) (fun (u : Nat → Nat → Int32) t => va_P D vwCl (xc cs a u N) t.heap) (kA a 29 sz)) 0 0 (kA a 29 sz) := by
  refine Met.ofW (cc := cX2_worldsOf) (maxL := 2) (ret := (some .int)) (by decide) rfl ?_
  intro p e s m args below meth c s₁ B hml hv
  obtain ⟨rfl, hsz, hP, hK⟩ := hv
  have hx := B.exec
  have hb := B.bytes
  have hr := B.returns
  have hts := atoms_spec (ws := wsX2_worldsOf) B.pre
  have hown : s.vm.findClass RX2 = some m.cls := findClass_of_methodNamed B.named
  have hlocks := B.notSynchronized
  have hK1 := hK.1
  have hinX2 : ∀ w ∈ wsX20, w ∈ wsX2_worldsOf := fun w h => List.mem_cons_of_mem _ (List.mem_append_left _ (List.mem_append_left _ (List.mem_append_right _ h)))
  have hinX3 : ∀ w ∈ wsX30, w ∈ wsX2_worldsOf := fun w h => List.mem_cons_of_mem _ (List.mem_append_left _ (List.mem_append_right _ h))
  have hinX0 : ∀ w ∈ wsX00, w ∈ wsX2_worldsOf := fun w h => List.mem_cons_of_mem _ (List.mem_append_right _ h)
  subst hsz
  have hS : va_S (kA a 29 s.heap.size) s.heap s.heap [] := va_S.rf
  have hl := lv_entry ([.ref (a 16), .int (nI f)]) (n := 2) (Nat.le_of_ble_eq_true rfl)
  rw [lg_entry_eq]
  generalize (lg_sl ([.ref (a 16), .int (nI f)]) ++ List.replicate (2 - (lg_sl ([.ref (a 16), .int (nI f)])).length) Slot.unset).toArray = ls at hl ⊢
  have hl : lv_has ls 2 [(0, .ref (a 16)), (1, .int (nI f))] := hl
  refine W_Q (fun Q hQ => ?_)
  show W p l e ({ frames := 12, cells := 0, slots := 0, locals := 300 } : Room) s m ([.ref (a 16), .int (nI f)] : List Value).toArray below meth c s.heap [] 0 0 Q (F0 m 0 ls [])
  refine lv_aload_n hx hb dX2_worldsOf_0 rfl (lv_at hl 0 rfl) ?_
  refine lv_iconst (v := (nI 0)) hx hb dX2_worldsOf_1 (by decide) ?_
  refine lv_aload_n hx hb dX2_worldsOf_2 rfl (lv_at hl 0 rfl) ?_
  refine va_get (D := D) (ci := 2) (v := .ref (a 1)) (C := RX2) (T := TX2) (N := 3) hx hb hts hinX2 hown hK1 hP 16 rfl rfl 0 (by decide) (hts (.fieldLink RX2 9 "KnowledgeModel$Truth" "worlds" "LKnowledgeModel$Worlds;") (List.mem_of_getElem? (i := 1) rfl)) (fun _ h9 => h9) rfl dX2_worldsOf_3 ?_
  refine xcalli (va_runV (As := []) (rest := [.int (nI 0), .ref (a 16)]) ⟨hx, hb, hml, hown, hts⟩ (c_X3_all l D cs a M N n hn) (cwV 0 hts gX2_worldsOf_X3_all rfl rfl rfl (by decide +kernel) ⟨Nat.le_of_ble_eq_true rfl, Nat.le_of_ble_eq_true rfl⟩) (xpreV hP hK (ci := 3) 1 rfl rfl) rfl rfl hl.1 rfl (lv_room (Nat.le_of_ble_eq_true rfl)) dX2_worldsOf_6 ⟨Nat.le_of_ble_eq_true rfl, Nat.le_of_ble_eq_true rfl⟩) hS hP (fun H locs hP hS => ?_)
  refine lv_iload_n hx hb dX2_worldsOf_9 rfl (lv_at hl 1 rfl) ?_
  refine xcallwi (va_runV (As := [.int (nI 0), .int (sg n - nI 1), .int (nI f)]) (rest := []) ⟨hx, hb, hml, hown, hts⟩ (c_X2_valueIn_0 l D cs a M N _ hI n nf kd p1 p2 ns sb M 0 (sg n - nI 1) f hn (by omega) (fun _ _ _ => rfl) hwf hf40 rfl hf (by have := (hwf.2 f hf).1.2.2.2; omega)) (cwV 3 hts gX2_worldsOf_X2_valueIn rfl rfl rfl (by decide +kernel) ⟨Nat.le_of_ble_eq_true rfl, Nat.le_of_ble_eq_true rfl⟩) (xpreVs hP hK (ci := 2) 16 rfl rfl) rfl rfl hl.1 rfl (lv_room (Nat.le_of_ble_eq_true rfl)) dX2_worldsOf_10 ⟨Nat.le_of_ble_eq_true rfl, Nat.le_of_ble_eq_true rfl⟩) hS (kAle hS.1) (fun u_1 H locs hu_1 hP _ _ hS => ?_)
  have hP : va_P D vwCl (xc cs a u_1 N) H := hP
  subst hQ
  have hrel : (∀ i x, ¬ (12 ≤ i ∧ i < 15) → u_1 i x = M i x) := by assumption
  have hfin : (sem M n kd p1 p2 sb (sg n - nI 1) f) = sem M n kd p1 p2 sb (sg n - nI 1) f := by rfl
  exact W.iret hx hb hr (fun t ht hW => ⟨⟨_, u_1, rfl, ⟨hfin, hrel⟩, by rw [← ht] at hP; exact hP⟩, hS.F ht⟩) hS.2.2 dX2_worldsOf_13

