/-! New formulas: class and reference. -/
def up (h : Nat → Nat) (m v : Nat) : Nat → Nat := fun f => if f = m then v else h f
theorem up_s {h : Nat → Nat} {m v : Nat} : up h m v m = v := if_pos rfl
theorem up_o {h : Nat → Nat} {m v f : Nat} (hf : f < m) : up h m v f = h f := if_neg (by omega)
theorem nb_own : ∀ (nf : Fin 40) (g : Fin 64), nb (1 <<< ((nI nf.val).toInt64 &&& 63)) g.val = decide (g.val = nf.val) := by decide +kernel
theorem nb_lt {x : Int64} {g : Nat} (h : nb x g = true) : g < 64 := by
  apply Classical.byContradiction
  intro q
  unfold nb at h
  rw [BitVec.getLsbD_of_ge _ _ (by omega)] at h
  cases h
theorem nb_or {x y : Int64} {g : Nat} : nb (x ||| y) g = true ↔ nb x g = true ∨ nb y g = true := by
  unfold nb
  rw [Int64.toBitVec_or, BitVec.getLsbD_or, Bool.or_eq_true]
theorem nb_z {g : Nat} : ¬ nb (0 : Int64) g = true := by
  unfold nb
  rw [Int64.toBitVec_zero, BitVec.getLsbD_zero]
  exact Bool.false_ne_true
theorem nb_1 {nf g : Nat} (h : nf < 40) : nb (1 <<< ((nI nf).toInt64 &&& 63)) g = true ↔ g = nf := by
  constructor
  · intro q
    have := nb_own ⟨nf, h⟩ ⟨g, nb_lt q⟩
    rw [show nb (1 <<< ((nI nf).toInt64 &&& 63)) g = true from q] at this
    exact of_decide_eq_true this.symm
  · intro q
    subst q
    have := nb_own ⟨g, h⟩ ⟨g, by omega⟩
    rw [this]
    exact decide_eq_true rfl
theorem appM_o {M : Nat → Nat → Int32} {nf k : Nat} {su x y : Int32} {i f : Nat} (hi : i ≠ 0) (hf : f < nf) : appM M nf k su x y i f = M i f := by
  unfold appM
  rw [wr_ne (by omega), wr_ne (by omega), wr_ne (by omega), wr_ne (by omega), wr_ne (by omega), wr_ne (by omega), wr_ne (by omega)]
theorem appM_r {M : Nat → Nat → Int32} {nf k : Nat} {su x y : Int32} {i f : Nat} (hi : i < 6 ∨ 12 ≤ i) (hf : ¬ (i = 0 ∧ f = 2)) : appM M nf k su x y i f = M i f := by
  unfold appM
  rw [wr_ne (by omega), wr_ne (by omega), wr_ne (by omega), wr_ne (by omega), wr_ne (by omega), wr_ne (by omega), wr_ne (by omega)]
theorem appM_6 {M : Nat → Nat → Int32} {nf k : Nat} {su x y : Int32} : appM M nf k su x y 6 nf = nI k := by
  unfold appM
  rw [wr_ne (by omega), wr_ne (by omega), wr_ne (by omega), wr_ne (by omega), wr_ne (by omega), wr_ne (by omega), wr_same]
theorem appM_7 {M : Nat → Nat → Int32} {nf k : Nat} {su x y : Int32} : appM M nf k su x y 7 nf = su := by
  unfold appM
  rw [wr_ne (by omega), wr_ne (by omega), wr_ne (by omega), wr_ne (by omega), wr_ne (by omega), wr_same]
theorem appM_8 {M : Nat → Nat → Int32} {nf k : Nat} {su x y : Int32} : appM M nf k su x y 8 nf = x := by
  unfold appM
  rw [wr_ne (by omega), wr_ne (by omega), wr_ne (by omega), wr_ne (by omega), wr_same]
theorem appM_9 {M : Nat → Nat → Int32} {nf k : Nat} {su x y : Int32} : appM M nf k su x y 9 nf = y := by
  unfold appM
  rw [wr_ne (by omega), wr_ne (by omega), wr_ne (by omega), wr_same]
theorem appM_10 {M : Nat → Nat → Int32} {nf k : Nat} {su x y : Int32} : appM M nf k su x y 10 nf = dpV M k x y := by
  unfold appM
  rw [wr_ne (by omega), wr_ne (by omega), wr_same]
theorem appM_11 {M : Nat → Nat → Int32} {nf k : Nat} {su x y : Int32} : appM M nf k su x y 11 nf = nsV M k x y := by
  unfold appM
  rw [wr_ne (by omega), wr_same]
theorem crtR_o {M : Nat → Nat → Int32} {nf k : Nat} {x y d v : Int32} {i f : Nat} (hi : i ≠ 0) (hf : f < nf) : crtR M nf k x y d v i f = M i f := by
  unfold crtR
  rw [wr_ne (by omega), wr_ne (by omega), wr_ne (by omega), wr_ne (by omega), wr_ne (by omega), wr_ne (by omega)]
theorem crtR_r {M : Nat → Nat → Int32} {nf k : Nat} {x y d v : Int32} {i f : Nat} (hi : i < 3 ∨ 8 ≤ i) (hf : ¬ (i = 0 ∧ f = 3)) : crtR M nf k x y d v i f = M i f := by
  unfold crtR
  rw [wr_ne (by omega), wr_ne (by omega), wr_ne (by omega), wr_ne (by omega), wr_ne (by omega), wr_ne (by omega)]
theorem crtR_3 {M : Nat → Nat → Int32} {nf k : Nat} {x y d v : Int32} : crtR M nf k x y d v 3 nf = nI k := by
  unfold crtR
  rw [wr_ne (by omega), wr_ne (by omega), wr_ne (by omega), wr_ne (by omega), wr_ne (by omega), wr_same]
theorem crtR_4 {M : Nat → Nat → Int32} {nf k : Nat} {x y d v : Int32} : crtR M nf k x y d v 4 nf = x := by
  unfold crtR
  rw [wr_ne (by omega), wr_ne (by omega), wr_ne (by omega), wr_ne (by omega), wr_same]
theorem crtR_5 {M : Nat → Nat → Int32} {nf k : Nat} {x y d v : Int32} : crtR M nf k x y d v 5 nf = y := by
  unfold crtR
  rw [wr_ne (by omega), wr_ne (by omega), wr_ne (by omega), wr_same]
theorem crtR_6 {M : Nat → Nat → Int32} {nf k : Nat} {x y d v : Int32} : crtR M nf k x y d v 6 nf = d := by
  unfold crtR
  rw [wr_ne (by omega), wr_ne (by omega), wr_same]
theorem crtR_7 {M : Nat → Nat → Int32} {nf k : Nat} {x y d v : Int32} : crtR M nf k x y d v 7 nf = v := by
  unfold crtR
  rw [wr_ne (by omega), wr_same]
/-- what a new formula owes -/
def NewF (M : Nat → Nat → Int32) (nf : Nat) (ns : Nat → Nat) (k q1 q2 s b0 a0 e : Nat) (su x y x4 y5 d v : Int32) : Prop :=
  (k < 7 ∧ nsV M k x y = nI s ∧ s ≤ 2 ∧ v = nI s) ∧ (dpV M k x y = nI e ∧ e ≤ nf ∧ d = nI e) ∧ (k = 0 → x = -1 ∧ su = nI b0 ∧ b0 < 6 ∧ x4 = nI b0) ∧ (k ≠ 0 → x = nI q1 ∧ q1 < nf ∧ ns q1 ≤ s) ∧ (k = 2 ∨ k = 6 → y = nI q2 ∧ q2 < nf ∧ x4 = nI q1 ∧ y5 = nI q2) ∧ (k = 2 → ns q2 ≤ s) ∧ (k = 6 → ns q1 + 1 ≤ s ∧ ns q2 + 1 ≤ s) ∧ (k = 3 → x4 = nI a0 ∧ a0 < 4 ∧ su = sg a0) ∧ (k = 4 ∨ k = 5 → x4 = su) ∧ (k = 1 ∨ k = 3 ∨ k = 4 ∨ k = 5 → y5 = nI q1) ∧ (k ≠ 2 → k ≠ 6 → y = -1)
theorem app_F {M R : Nat → Nat → Int32} {N : Nat → Int64} {nf : Nat} {kd p1 p2 ns sb ag : Nat → Nat} {k q1 q2 s b0 a0 e : Nat} {su x y x4 y5 d v : Int32} (hF : SimF M N R nf kd p1 p2 ns sb ag) (hnf : nf < 40) (hw : NewF M nf ns k q1 q2 s b0 a0 e su x y x4 y5 d v) : SimF (appM M nf k su x y) (appN N nf k x y) (crtR R nf k x4 y5 d v) (nf + 1) (up kd nf k) (up p1 nf q1) (up p2 nf q2) (up ns nf s) (up sb nf b0) (up ag nf a0) := by
  obtain ⟨-, hc, hcR, ⟨hX1, hX⟩, ⟨hR1, hR⟩, hl⟩ := hF
  obtain ⟨⟨w1, w2, w3, w4⟩, ⟨w5, w6, w7⟩, w8, w9, w10, w11, w12, w13, w14, w15, w16⟩ := hw
  have wp : WFp (nf + 1) (up kd nf k) (up p1 nf q1) (up p2 nf q2) := by
    intro f hf
    by_cases e1 : f = nf
    · subst e1
      rw [up_s, up_s, up_s]
      exact ⟨fun h => (w9 h).2.1, fun h => (w10 h).2.1⟩
    · have hf2 : f < nf := by omega
      rw [up_o hf2, up_o hf2, up_o hf2]
      exact hX1 f hf2
  have hN : ∀ g, nb (appN N nf k x y nf) g = true ↔ g = nf ∨ (k ≠ 0 ∧ nb (N q1) g = true) ∨ (k = 2 ∧ nb (N q2) g = true) := by
    intro g
    unfold appN ndN
    rw [pk_uLs, nb_or, nb_or, nb_1 hnf, or_assoc]
    have t1 : nb (ndv N x) g = true ↔ k ≠ 0 ∧ nb (N q1) g = true := by
      by_cases h : k = 0
      · rw [(w8 h).1]
        unfold ndv
        rw [if_pos rfl]
        exact ⟨fun q => absurd q nb_z, fun q => absurd h q.1⟩
      · rw [ndv_at (w9 h).1 (by have := (w9 h).2.1; omega)]
        exact ⟨fun q => ⟨h, q⟩, fun q => q.2⟩
    have t2 : nb (if k = 6 then 0 else ndv N y) g = true ↔ k = 2 ∧ nb (N q2) g = true := by
      by_cases h : k = 6
      · rw [if_pos h]
        exact ⟨fun q => absurd q nb_z, fun q => absurd q.1 (by omega)⟩
      rw [if_neg h]
      by_cases h2 : k = 2
      · rw [ndv_at (w10 (Or.inl h2)).1 (by have := (w10 (Or.inl h2)).2.1; omega)]
        exact ⟨fun q => ⟨h2, q⟩, fun q => q.2⟩
      · rw [w16 h2 h]
        unfold ndv
        rw [if_pos rfl]
        exact ⟨fun q => absurd q nb_z, fun q => absurd q.1 h2⟩
    rw [t1, t2]
  have hNo : ∀ f, f < nf → appN N nf k x y f = N f := fun f hf => pk_uLn (by omega)
  refine ⟨by omega, wr_same, wr_same, ⟨wp, fun f hf => ?_⟩, ⟨wp, fun f hf => ?_⟩, fun f hf => ?_⟩
  · by_cases e1 : f = nf
    · subst e1
      rw [up_s, up_s, up_s, up_s, up_s, appM_6, appM_7, appM_8, appM_9, appM_11]
      refine ⟨⟨w1, rfl, w2, w3⟩, fun h => ⟨(w8 h).1, (w8 h).2.1, (w8 h).2.2.1⟩, fun h => ⟨(w9 h).1, ?_⟩, fun h => (w10 h).1, fun h => ?_, w16, (hN f).mpr (Or.inl rfl), fun g hg hb => ?_⟩
      · rw [up_o (w9 h).2.1]; exact (w9 h).2.2
      · rw [up_o (w9 (by omega)).2.1, up_o (w10 (Or.inr h)).2.1]; exact w12 h
      · rcases (hN g).mp hb with h | ⟨h, h2⟩ | ⟨h, h2⟩
        · subst h
          rw [up_s, up_s, up_s, up_s]
          refine ⟨Nat.le_refl _, fun h => (hN q1).mpr (Or.inr (Or.inl ⟨h, ?_⟩)), fun h => (hN q2).mpr (Or.inr (Or.inr ⟨h, ?_⟩))⟩
          · exact (hX q1 (w9 h).2.1).2.2.2.2.2.2.1
          · exact (hX q2 (w10 (Or.inl h)).2.1).2.2.2.2.2.2.1
        · have hq := (w9 h).2.1
          have hg2 := (hl q1 hq).2.2.2.2.1 g h2
          have hg3 : g < f := by omega
          rw [up_o hg3, up_o hg3, up_o hg3, up_o hg3]
          obtain ⟨z1, z2, z3⟩ := (hX q1 hq).2.2.2.2.2.2.2 g hg2 h2
          exact ⟨Nat.le_trans z1 (w9 h).2.2, fun h3 => (hN _).mpr (Or.inr (Or.inl ⟨h, z2 h3⟩)), fun h3 => (hN _).mpr (Or.inr (Or.inl ⟨h, z3 h3⟩))⟩
        · have hq := (w10 (Or.inl h)).2.1
          have hg2 := (hl q2 hq).2.2.2.2.1 g h2
          have hg3 : g < f := by omega
          rw [up_o hg3, up_o hg3, up_o hg3, up_o hg3]
          obtain ⟨z1, z2, z3⟩ := (hX q2 hq).2.2.2.2.2.2.2 g hg2 h2
          exact ⟨Nat.le_trans z1 (w11 h), fun h3 => (hN _).mpr (Or.inr (Or.inr ⟨h, z2 h3⟩)), fun h3 => (hN _).mpr (Or.inr (Or.inr ⟨h, z3 h3⟩))⟩
    · have hf2 : f < nf := by omega
      rw [up_o hf2, up_o hf2, up_o hf2, up_o hf2, up_o hf2, appM_o (by decide) hf2, appM_o (by decide) hf2, appM_o (by decide) hf2, appM_o (by decide) hf2, appM_o (by decide) hf2, hNo f hf2]
      obtain ⟨x1, x2, x3, x4, x5, x6, x7, x8⟩ := hX f hf2
      obtain ⟨y1, y2⟩ := hX1 f hf2
      refine ⟨x1, x2, fun h => ⟨(x3 h).1, ?_⟩, x4, fun h => ?_, x6, x7, fun g hg hb => ?_⟩
      · have := y1 h
        rw [up_o (by omega)]; exact (x3 h).2
      · have := y1 (by omega)
        have := y2 (Or.inr h)
        rw [up_o (by omega), up_o (by omega)]; exact x5 h
      · have hg3 : g < nf := by omega
        rw [up_o hg3, up_o hg3, up_o hg3, up_o hg3]
        exact x8 g hg hb
  · by_cases e1 : f = nf
    · subst e1
      rw [up_s, up_s, up_s, up_s, up_s, up_s, crtR_3, crtR_4, crtR_5]
      refine ⟨⟨w1, rfl, w3⟩, fun h => ⟨(w8 h).2.2.2, (w8 h).2.2.1⟩, w15, fun h => (w10 h).2.2, fun h => ⟨(w13 h).1, (w13 h).2.1⟩, fun h => ?_, fun h => ?_, fun h => ?_⟩
      · rw [up_o (w9 h).2.1]; exact (w9 h).2.2
      · rw [up_o (w10 (Or.inl h)).2.1]; exact w11 h
      · rw [up_o (w9 (by omega)).2.1, up_o (w10 (Or.inr h)).2.1]; exact w12 h
    · have hf2 : f < nf := by omega
      rw [up_o hf2, up_o hf2, up_o hf2, up_o hf2, up_o hf2, up_o hf2, crtR_o (by decide) hf2, crtR_o (by decide) hf2, crtR_o (by decide) hf2]
      obtain ⟨x1, x2, x3, x4, x5, x6, x7, x8⟩ := hR f hf2
      obtain ⟨y1, y2⟩ := hX1 f hf2
      refine ⟨x1, x2, x3, x4, x5, fun h => ?_, fun h => ?_, fun h => ?_⟩
      · have := y1 h
        rw [up_o (by omega)]; exact x6 h
      · have := y2 (Or.inl h)
        rw [up_o (by omega)]; exact x7 h
      · have := y1 (by omega)
        have := y2 (Or.inr h)
        rw [up_o (by omega), up_o (by omega)]; exact x8 h
  · by_cases e1 : f = nf
    · subst e1
      rw [up_s, up_s, crtR_4, crtR_6, crtR_7, appM_7, appM_10, appM_11]
      refine ⟨w7.trans w5.symm, w4.trans w2.symm, fun h => (w13 h).2.2, w14, fun g hg => ?_, e, w6, w5⟩
      rcases (hN g).mp hg with h | ⟨h, h2⟩ | ⟨h, h2⟩
      · omega
      · have := (hl q1 (w9 h).2.1).2.2.2.2.1 g h2
        have := (w9 h).2.1
        omega
      · have := (hl q2 (w10 (Or.inl h)).2.1).2.2.2.2.1 g h2
        have := (w10 (Or.inl h)).2.1
        omega
    · have hf2 : f < nf := by omega
      rw [up_o hf2, up_o hf2, crtR_o (by decide) hf2, crtR_o (by decide) hf2, crtR_o (by decide) hf2, appM_o (by decide) hf2, appM_o (by decide) hf2, appM_o (by decide) hf2, hNo f hf2]
      exact hl f hf2
theorem SimF_z {M R : Nat → Nat → Int32} {N : Nat → Int64} {nf : Nat} {kd p1 p2 ns sb ag : Nat → Nat} {z : Int32} (h : SimF M N R nf kd p1 p2 ns sb ag) : SimF M N (wr R 0 0 z) nf kd p1 p2 ns sb ag := SimF_m h (fun _ _ _ => rfl) (fun i x h => wr_ne (by omega))
theorem app_E {M R : Nat → Nat → Int32} {N : Nat → Int64} {n act nf : Nat} {kd p1 p2 ns sb ag : Nat → Nat} {k q1 q2 s b0 a0 e : Nat} {su x y x4 y5 d v z : Int32} (hW : SimW M R n act) (hF : SimF M N R nf kd p1 p2 ns sb ag) (hnf : nf < 40) (hw : NewF M nf ns k q1 q2 s b0 a0 e su x y x4 y5 d v) : SimE (appM M nf k su x y) (appN N nf k x y) (crtR (wr R 0 0 z) nf k x4 y5 d v) :=
  ⟨n, act, nf + 1, _, _, _, _, _, _, SimW_m hW (fun i q hi h => appM_r (by omega) h) (fun i q hi h => (crtR_r (by omega) (by omega)).trans (wr_ne (by omega))) (fun _ => appM_r (by omega) (by omega)), app_F (SimF_z hF) hnf hw⟩
theorem crt_n {M : Nat → Nat → Int32} {nf k : Nat} {x y d v : Int32} (h : ¬ nf = 40) : crt M nf k x y d v = crtR M nf k x y d v := if_neg h
theorem crt_y {M : Nat → Nat → Int32} {k : Nat} {x y d v : Int32} : crt M 40 k x y d v = wr M 0 0 (crtT k) := if_pos rfl
theorem crtR_00 {R : Nat → Nat → Int32} {nf k : Nat} {x y d v z : Int32} : crtR (wr R 0 0 z) nf k x y d v 0 0 = z := (crtR_r (by omega) (by omega)).trans wr_same
theorem wr2_00 {R : Nat → Nat → Int32} {z w : Int32} : wr (wr R 0 0 z) 0 0 w = wr R 0 0 w := by
  funext i x
  rw [wr_eq, wr_eq, wr_eq]
  by_cases h : i = 0 ∧ x = 0
  · rw [if_pos h, if_pos h]
  · rw [if_neg h, if_neg h, if_neg h]
theorem mx_n {a b : Nat} (ha : a < 1000) (hb : b < 1000) : mx (nI a) (nI b) = nI (max a b) := by
  unfold mx
  by_cases h : a < b
  · rw [if_pos ((nI_ltI (by omega) (by omega)).mpr h), Nat.max_eq_right (by omega)]
  · rw [if_neg (fun q => h ((nI_ltI (by omega) (by omega)).mp q)), Nat.max_eq_left (by omega)]
theorem ptv_m {f : Nat → Int32} : ptv f (-1) = nI 0 := if_pos rfl
theorem nI_a (a b : Nat) : nI a + nI b = nI (a + b) := nI_add a b
theorem bI_1 : bI true = nI 1 := rfl
theorem bI_z : bI false = nI 0 := rfl

theorem op_atom {M R : Nat → Nat → Int32} {N : Nat → Int64} {n act nf : Nat} {kd p1 p2 ns sb ag : Nat → Nat} (hW : SimW M R n act) (hF : SimF M N R nf kd p1 p2 ns sb ag) (x : Int32) {u : (Nat → Nat → Int32) × (Nat → Int64)} (hu : ((if (isIn 6 x) = true then (if (decide (nf < 40)) = true then 0 else 2) else 1) = 0 → u.1 = appM M nf 0 x (-1) (-1) ∧ u.2 0 = (nI nf).toInt64) ∧ (¬ (if (isIn 6 x) = true then (if (decide (nf < 40)) = true then 0 else 2) else 1) = 0 → TX M u.1)) {v : Nat → Nat → Int32} (hv : v = (if isIn 6 x = true then crt (wr R 0 0 (nI 0)) nf 0 x (-1) (nI 0) (nI 0) else wr R 0 0 (nI 1))) : v 0 0 = nI (if (isIn 6 x) = true then (if (decide (nf < 40)) = true then 0 else 2) else 1) ∧ ((if (isIn 6 x) = true then (if (decide (nf < 40)) = true then 0 else 2) else 1) = 0 → u.2 0 = ((if isIn 6 x = true then (if nf = 40 then nI 0 else nI nf) else nI 0)).toInt64) ∧ SimE u.1 (if (if (isIn 6 x) = true then (if (decide (nf < 40)) = true then 0 else 2) else 1) = 0 then appN N nf 0 (-1) (-1) else N) v := by
  obtain ⟨hu0, hu1⟩ := hu
  have h40 := hF.1
  by_cases h1 : isIn 6 x = true
  case neg =>
    rw [Bool.not_eq_true] at h1
    simp only [h1, if_true, if_false, Bool.false_eq_true, Bool.and_true, Bool.and_false, Bool.true_and, Bool.false_and] at hu0 hu1 hv ⊢
    subst hv
    exact ⟨wr_same, fun h => absurd h (by decide), simQ hW hF (hu1 (by decide))⟩
  by_cases hz : nf = 40
  · subst hz
    simp only [h1, crt_y, wr2_00, if_true, decide_false, Nat.lt_irrefl, Bool.false_eq_true, if_false, Bool.and_true] at hu0 hu1 hv ⊢
    subst hv
    exact ⟨wr_same.trans (by first | rfl | (cases on <;> rfl)), fun h => absurd h (by decide), simQ hW hF (hu1 (by decide))⟩
  have hnf : nf < 40 := by omega
  simp only [h1, hnf, hz, crt_n hz, if_true, decide_true, if_false, Bool.and_true] at hu0 hu1 hv ⊢
  obtain ⟨e1, e2⟩ := hu0 trivial
  subst hv
  refine ⟨crtR_00, fun _ => e2, ?_⟩
  rw [e1]
  obtain ⟨xl, xe⟩ := isIn_eq (by decide) h1
  refine app_E (q1 := 0) (q2 := 0) (s := 0) (b0 := x.toNatClampNeg) (a0 := 0) (e := 0) hW hF hnf ⟨⟨by decide, ?_, by decide, rfl⟩, ⟨?_, by omega, rfl⟩, fun _ => ⟨rfl, xe, xl, xe⟩, fun h => absurd rfl h, fun h => absurd h (by decide), fun h => absurd h (by decide), fun h => absurd h (by decide), fun h => absurd h (by decide), fun h => absurd h (by decide), fun h => absurd h (by decide), fun _ _ => rfl⟩
  · unfold nsV
    rw [ptv_m]; rfl
  · unfold dpV
    rw [ptv_m]; rfl

theorem op_not {M R : Nat → Nat → Int32} {N : Nat → Int64} {n act nf : Nat} {kd p1 p2 ns sb ag : Nat → Nat} (hW : SimW M R n act) (hF : SimF M N R nf kd p1 p2 ns sb ag) (x : Int32) {u : (Nat → Nat → Int32) × (Nat → Int64)} (hu : ((if (isIn nf x) = true then (if (decide (nf < 40)) = true then 0 else 2) else 1) = 0 → u.1 = appM M nf 1 (nI 0) x (-1) ∧ u.2 0 = (nI nf).toInt64) ∧ (¬ (if (isIn nf x) = true then (if (decide (nf < 40)) = true then 0 else 2) else 1) = 0 → TX M u.1)) {v : Nat → Nat → Int32} (hv : v = (if isIn nf x = true then crt (wr R 0 0 (nI 0)) nf 1 (-1) x (R 6 x.toNatClampNeg) (R 7 x.toNatClampNeg) else wr R 0 0 (nI 1))) : v 0 0 = nI (if (isIn nf x) = true then (if (decide (nf < 40)) = true then 0 else 2) else 1) ∧ ((if (isIn nf x) = true then (if (decide (nf < 40)) = true then 0 else 2) else 1) = 0 → u.2 0 = ((if isIn nf x = true then (if nf = 40 then nI 0 else nI nf) else nI 0)).toInt64) ∧ SimE u.1 (if (if (isIn nf x) = true then (if (decide (nf < 40)) = true then 0 else 2) else 1) = 0 then appN N nf 1 x (-1) else N) v := by
  obtain ⟨hu0, hu1⟩ := hu
  have h40 := hF.1
  by_cases h1 : isIn nf x = true
  case neg =>
    rw [Bool.not_eq_true] at h1
    simp only [h1, if_true, if_false, Bool.false_eq_true, Bool.and_true, Bool.and_false, Bool.true_and, Bool.false_and] at hu0 hu1 hv ⊢
    subst hv
    exact ⟨wr_same, fun h => absurd h (by decide), simQ hW hF (hu1 (by decide))⟩
  by_cases hz : nf = 40
  · subst hz
    simp only [h1, crt_y, wr2_00, if_true, decide_false, Nat.lt_irrefl, Bool.false_eq_true, if_false, Bool.and_true] at hu0 hu1 hv ⊢
    subst hv
    exact ⟨wr_same.trans (by first | rfl | (cases on <;> rfl)), fun h => absurd h (by decide), simQ hW hF (hu1 (by decide))⟩
  have hnf : nf < 40 := by omega
  simp only [h1, hnf, hz, crt_n hz, if_true, decide_true, if_false, Bool.and_true] at hu0 hu1 hv ⊢
  obtain ⟨e1, e2⟩ := hu0 trivial
  subst hv
  refine ⟨crtR_00, fun _ => e2, ?_⟩
  rw [e1]
  obtain ⟨xl, xe⟩ := isIn_eq (by omega) h1
  obtain ⟨rx6, rx7, -, -, -, dx, dxl, dxe⟩ := hF.2.2.2.2.2 _ xl
  obtain ⟨⟨-, -, nxe, nxl⟩, -⟩ := hF.2.2.2.1.2 _ xl
  refine app_E (q1 := x.toNatClampNeg) (q2 := 0) (s := ns x.toNatClampNeg) (b0 := 0) (a0 := 0) (e := dx) hW hF hnf ⟨⟨by decide, ?_, nxl, rx7.trans nxe⟩, ⟨?_, by omega, rx6.trans dxe⟩, fun h => absurd h (by decide), fun _ => ⟨xe, xl, Nat.le_refl _⟩, fun h => absurd h (by decide), fun h => absurd h (by decide), fun h => absurd h (by decide), fun h => absurd h (by decide), fun h => absurd h (by decide), fun _ => xe, fun _ _ => rfl⟩
  · unfold nsV
    rw [ptv_at xe (by omega), ptv_m, nxe, mx_n (by omega) (by decide), Nat.max_eq_left (Nat.zero_le _)]
    exact nI_a _ 0
  · unfold dpV
    rw [ptv_at xe (by omega), ptv_m, dxe, mx_n (by omega) (by decide), Nat.max_eq_left (Nat.zero_le _)]
    exact nI_a _ 0

theorem op_both {M R : Nat → Nat → Int32} {N : Nat → Int64} {n act nf : Nat} {kd p1 p2 ns sb ag : Nat → Nat} (hW : SimW M R n act) (hF : SimF M N R nf kd p1 p2 ns sb ag) (x : Int32) (y : Int32) {u : (Nat → Nat → Int32) × (Nat → Int64)} (hu : ((if (isIn nf x) = true then (if (isIn nf y) = true then (if (decide (nf < 40)) = true then 0 else 2) else 1) else 1) = 0 → u.1 = appM M nf 2 (nI 0) x y ∧ u.2 0 = (nI nf).toInt64) ∧ (¬ (if (isIn nf x) = true then (if (isIn nf y) = true then (if (decide (nf < 40)) = true then 0 else 2) else 1) else 1) = 0 → TX M u.1)) {v : Nat → Nat → Int32} (hv : v = (if (isIn nf x && isIn nf y) = true then crt (wr R 0 0 (nI 0)) nf 2 x y (mx (R 6 x.toNatClampNeg) (R 6 y.toNatClampNeg)) (mx (R 7 x.toNatClampNeg) (R 7 y.toNatClampNeg)) else wr R 0 0 (nI 1))) : v 0 0 = nI (if (isIn nf x) = true then (if (isIn nf y) = true then (if (decide (nf < 40)) = true then 0 else 2) else 1) else 1) ∧ ((if (isIn nf x) = true then (if (isIn nf y) = true then (if (decide (nf < 40)) = true then 0 else 2) else 1) else 1) = 0 → u.2 0 = ((if (isIn nf x && isIn nf y) = true then (if nf = 40 then nI 0 else nI nf) else nI 0)).toInt64) ∧ SimE u.1 (if (if (isIn nf x) = true then (if (isIn nf y) = true then (if (decide (nf < 40)) = true then 0 else 2) else 1) else 1) = 0 then appN N nf 2 x y else N) v := by
  obtain ⟨hu0, hu1⟩ := hu
  have h40 := hF.1
  by_cases h1 : isIn nf x = true
  case neg =>
    rw [Bool.not_eq_true] at h1
    simp only [h1, if_true, if_false, Bool.false_eq_true, Bool.and_true, Bool.and_false, Bool.true_and, Bool.false_and] at hu0 hu1 hv ⊢
    subst hv
    exact ⟨wr_same, fun h => absurd h (by decide), simQ hW hF (hu1 (by decide))⟩
  by_cases h2 : isIn nf y = true
  case neg =>
    rw [Bool.not_eq_true] at h2
    simp only [h1, h2, if_true, if_false, Bool.false_eq_true, Bool.and_true, Bool.and_false, Bool.true_and, Bool.false_and] at hu0 hu1 hv ⊢
    subst hv
    exact ⟨wr_same, fun h => absurd h (by decide), simQ hW hF (hu1 (by decide))⟩
  by_cases hz : nf = 40
  · subst hz
    simp only [h1, h2, crt_y, wr2_00, if_true, decide_false, Nat.lt_irrefl, Bool.false_eq_true, if_false, Bool.and_true] at hu0 hu1 hv ⊢
    subst hv
    exact ⟨wr_same.trans (by first | rfl | (cases on <;> rfl)), fun h => absurd h (by decide), simQ hW hF (hu1 (by decide))⟩
  have hnf : nf < 40 := by omega
  simp only [h1, h2, hnf, hz, crt_n hz, if_true, decide_true, if_false, Bool.and_true] at hu0 hu1 hv ⊢
  obtain ⟨e1, e2⟩ := hu0 trivial
  subst hv
  refine ⟨crtR_00, fun _ => e2, ?_⟩
  rw [e1]
  obtain ⟨xl, xe⟩ := isIn_eq (by omega) h1
  obtain ⟨rx6, rx7, -, -, -, dx, dxl, dxe⟩ := hF.2.2.2.2.2 _ xl
  obtain ⟨⟨-, -, nxe, nxl⟩, -⟩ := hF.2.2.2.1.2 _ xl
  obtain ⟨yl, ye⟩ := isIn_eq (by omega) h2
  obtain ⟨ry6, ry7, -, -, -, dy, dyl, dye⟩ := hF.2.2.2.2.2 _ yl
  obtain ⟨⟨-, -, nye, nyl⟩, -⟩ := hF.2.2.2.1.2 _ yl
  refine app_E (q1 := x.toNatClampNeg) (q2 := y.toNatClampNeg) (s := max (ns x.toNatClampNeg) (ns y.toNatClampNeg)) (b0 := 0) (a0 := 0) (e := max dx dy) hW hF hnf ⟨⟨by decide, ?_, by omega, ?_⟩, ⟨?_, by omega, ?_⟩, fun h => absurd h (by decide), fun _ => ⟨xe, xl, Nat.le_max_left _ _⟩, fun _ => ⟨ye, yl, xe, ye⟩, fun _ => Nat.le_max_right _ _, fun h => absurd h (by decide), fun h => absurd h (by decide), fun h => absurd h (by decide), fun h => absurd h (by decide), fun h => absurd rfl h⟩
  · unfold nsV
    rw [ptv_at xe (by omega), ptv_at ye (by omega), nxe, nye, mx_n (by omega) (by omega)]
    exact nI_a _ 0
  · rw [rx7, ry7, nxe, nye, mx_n (by omega) (by omega)]
  · unfold dpV
    rw [ptv_at xe (by omega), ptv_at ye (by omega), dxe, dye, mx_n (by omega) (by omega)]
    exact nI_a _ 0
  · rw [rx6, ry6, dxe, dye, mx_n (by omega) (by omega)]

theorem op_knows {M R : Nat → Nat → Int32} {N : Nat → Int64} {n act nf : Nat} {kd p1 p2 ns sb ag : Nat → Nat} (hW : SimW M R n act) (hF : SimF M N R nf kd p1 p2 ns sb ag) (x : Int32) (y : Int32) {u : (Nat → Nat → Int32) × (Nat → Int64)} (hu : ((if (isIn 4 x) = true then (if (isIn nf y) = true then (if (decide (nf < 40)) = true then 0 else 2) else 1) else 1) = 0 → u.1 = appM M nf 3 (sg x.toNatClampNeg) y (-1) ∧ u.2 0 = (nI nf).toInt64) ∧ (¬ (if (isIn 4 x) = true then (if (isIn nf y) = true then (if (decide (nf < 40)) = true then 0 else 2) else 1) else 1) = 0 → TX M u.1)) {v : Nat → Nat → Int32} (hv : v = (if (isIn 4 x && isIn nf y) = true then crt (wr R 0 0 (nI 0)) nf 3 x y (nI 1 + R 6 y.toNatClampNeg) (R 7 y.toNatClampNeg) else wr R 0 0 (nI 1))) : v 0 0 = nI (if (isIn 4 x) = true then (if (isIn nf y) = true then (if (decide (nf < 40)) = true then 0 else 2) else 1) else 1) ∧ ((if (isIn 4 x) = true then (if (isIn nf y) = true then (if (decide (nf < 40)) = true then 0 else 2) else 1) else 1) = 0 → u.2 0 = ((if (isIn 4 x && isIn nf y) = true then (if nf = 40 then nI 0 else nI nf) else nI 0)).toInt64) ∧ SimE u.1 (if (if (isIn 4 x) = true then (if (isIn nf y) = true then (if (decide (nf < 40)) = true then 0 else 2) else 1) else 1) = 0 then appN N nf 3 y (-1) else N) v := by
  obtain ⟨hu0, hu1⟩ := hu
  have h40 := hF.1
  by_cases h1 : isIn 4 x = true
  case neg =>
    rw [Bool.not_eq_true] at h1
    simp only [h1, if_true, if_false, Bool.false_eq_true, Bool.and_true, Bool.and_false, Bool.true_and, Bool.false_and] at hu0 hu1 hv ⊢
    subst hv
    exact ⟨wr_same, fun h => absurd h (by decide), simQ hW hF (hu1 (by decide))⟩
  by_cases h2 : isIn nf y = true
  case neg =>
    rw [Bool.not_eq_true] at h2
    simp only [h1, h2, if_true, if_false, Bool.false_eq_true, Bool.and_true, Bool.and_false, Bool.true_and, Bool.false_and] at hu0 hu1 hv ⊢
    subst hv
    exact ⟨wr_same, fun h => absurd h (by decide), simQ hW hF (hu1 (by decide))⟩
  by_cases hz : nf = 40
  · subst hz
    simp only [h1, h2, crt_y, wr2_00, if_true, decide_false, Nat.lt_irrefl, Bool.false_eq_true, if_false, Bool.and_true] at hu0 hu1 hv ⊢
    subst hv
    exact ⟨wr_same.trans (by first | rfl | (cases on <;> rfl)), fun h => absurd h (by decide), simQ hW hF (hu1 (by decide))⟩
  have hnf : nf < 40 := by omega
  simp only [h1, h2, hnf, hz, crt_n hz, if_true, decide_true, if_false, Bool.and_true] at hu0 hu1 hv ⊢
  obtain ⟨e1, e2⟩ := hu0 trivial
  subst hv
  refine ⟨crtR_00, fun _ => e2, ?_⟩
  rw [e1]
  obtain ⟨xl, xe⟩ := isIn_eq (by decide) h1
  obtain ⟨yl, ye⟩ := isIn_eq (by omega) h2
  obtain ⟨ry6, ry7, -, -, -, dy, dyl, dye⟩ := hF.2.2.2.2.2 _ yl
  obtain ⟨⟨-, -, nye, nyl⟩, -⟩ := hF.2.2.2.1.2 _ yl
  refine app_E (q1 := y.toNatClampNeg) (q2 := 0) (s := ns y.toNatClampNeg) (b0 := 0) (a0 := x.toNatClampNeg) (e := dy + 1) hW hF hnf ⟨⟨by decide, ?_, nyl, ry7.trans nye⟩, ⟨?_, by omega, ?_⟩, fun h => absurd h (by decide), fun _ => ⟨ye, yl, Nat.le_refl _⟩, fun h => absurd h (by decide), fun h => absurd h (by decide), fun h => absurd h (by decide), fun _ => ⟨xe, xl, rfl⟩, fun h => absurd h (by decide), fun _ => ye, fun _ _ => rfl⟩
  · unfold nsV
    rw [ptv_at ye (by omega), ptv_m, nye, mx_n (by omega) (by decide), Nat.max_eq_left (Nat.zero_le _)]
    exact nI_a _ 0
  · unfold dpV
    rw [ptv_at ye (by omega), ptv_m, dye, mx_n (by omega) (by decide), Nat.max_eq_left (Nat.zero_le _)]
    exact nI_a _ 1
  · rw [ry6, dye, nI_a, Nat.add_comm]

theorem op_ofGroup {M R : Nat → Nat → Int32} {N : Nat → Int64} {n act nf : Nat} {kd p1 p2 ns sb ag : Nat → Nat} (hW : SimW M R n act) (hF : SimF M N R nf kd p1 p2 ns sb ag) (on : Bool) (g : Int32) (y : Int32) {u : (Nat → Nat → Int32) × (Nat → Int64)} (hu : ((if (isIn nf y) = true then (if (isGr g) = true then (if (decide (nf < 40)) = true then 0 else 3) else 2) else 1) = 0 → u.1 = appM M nf (if on = true then 4 else 5) g y (-1) ∧ u.2 0 = (nI nf).toInt64) ∧ (¬ (if (isIn nf y) = true then (if (isGr g) = true then (if (decide (nf < 40)) = true then 0 else 3) else 2) else 1) = 0 → TX M u.1)) {v : Nat → Nat → Int32} (hv : v = (if isIn nf y = true then (if isGr g = true then crt (wr R 0 0 (nI 0)) nf (if on = true then 4 else 5) g y (nI 1 + R 6 y.toNatClampNeg) (R 7 y.toNatClampNeg) else wr R 0 0 (nI 2)) else wr R 0 0 (nI 1))) : v 0 0 = nI (if (isIn nf y) = true then (if (isGr g) = true then (if (decide (nf < 40)) = true then 0 else 3) else 2) else 1) ∧ ((if (isIn nf y) = true then (if (isGr g) = true then (if (decide (nf < 40)) = true then 0 else 3) else 2) else 1) = 0 → u.2 0 = ((if isIn nf y = true then (if isGr g = true then (if nf = 40 then nI 0 else nI nf) else nI 0) else nI 0)).toInt64) ∧ SimE u.1 (if (if (isIn nf y) = true then (if (isGr g) = true then (if (decide (nf < 40)) = true then 0 else 3) else 2) else 1) = 0 then appN N nf (if on = true then 4 else 5) y (-1) else N) v := by
  obtain ⟨hu0, hu1⟩ := hu
  have h40 := hF.1
  by_cases h1 : isIn nf y = true
  case neg =>
    rw [Bool.not_eq_true] at h1
    simp only [h1, if_true, if_false, Bool.false_eq_true, Bool.and_true, Bool.and_false, Bool.true_and, Bool.false_and] at hu0 hu1 hv ⊢
    subst hv
    exact ⟨wr_same, fun h => absurd h (by decide), simQ hW hF (hu1 (by decide))⟩
  by_cases h2 : isGr g = true
  case neg =>
    rw [Bool.not_eq_true] at h2
    simp only [h1, h2, if_true, if_false, Bool.false_eq_true, Bool.and_true, Bool.and_false, Bool.true_and, Bool.false_and] at hu0 hu1 hv ⊢
    subst hv
    exact ⟨wr_same, fun h => absurd h (by decide), simQ hW hF (hu1 (by decide))⟩
  by_cases hz : nf = 40
  · subst hz
    simp only [h1, h2, crt_y, wr2_00, if_true, decide_false, Nat.lt_irrefl, Bool.false_eq_true, if_false, Bool.and_true] at hu0 hu1 hv ⊢
    subst hv
    exact ⟨wr_same.trans (by first | rfl | (cases on <;> rfl)), fun h => absurd h (by decide), simQ hW hF (hu1 (by decide))⟩
  have hnf : nf < 40 := by omega
  simp only [h1, h2, hnf, hz, crt_n hz, if_true, decide_true, if_false, Bool.and_true] at hu0 hu1 hv ⊢
  obtain ⟨e1, e2⟩ := hu0 trivial
  subst hv
  refine ⟨crtR_00, fun _ => e2, ?_⟩
  rw [e1]
  obtain ⟨yl, ye⟩ := isIn_eq (by omega) h1
  obtain ⟨ry6, ry7, -, -, -, dy, dyl, dye⟩ := hF.2.2.2.2.2 _ yl
  obtain ⟨⟨-, -, nye, nyl⟩, -⟩ := hF.2.2.2.1.2 _ yl
  cases on
  · simp only [Bool.false_eq_true, if_false]
    refine app_E (q1 := y.toNatClampNeg) (q2 := 0) (s := ns y.toNatClampNeg) (b0 := 0) (a0 := 0) (e := dy + 1) hW hF hnf ⟨⟨by decide, ?_, nyl, ry7.trans nye⟩, ⟨?_, by omega, ?_⟩, fun h => absurd h (by decide), fun _ => ⟨ye, yl, Nat.le_refl _⟩, fun h => absurd h (by decide), fun h => absurd h (by decide), fun h => absurd h (by decide), fun h => absurd h (by decide), fun _ => rfl, fun _ => ye, fun _ _ => rfl⟩
    · unfold nsV
      rw [ptv_at ye (by omega), ptv_m, nye, mx_n (by omega) (by decide), Nat.max_eq_left (Nat.zero_le _)]
      exact nI_a _ 0
    · unfold dpV
      rw [ptv_at ye (by omega), ptv_m, dye, mx_n (by omega) (by decide), Nat.max_eq_left (Nat.zero_le _)]
      exact nI_a _ 1
    · rw [ry6, dye, nI_a, Nat.add_comm]
  · simp only [if_true]
    refine app_E (q1 := y.toNatClampNeg) (q2 := 0) (s := ns y.toNatClampNeg) (b0 := 0) (a0 := 0) (e := dy + 1) hW hF hnf ⟨⟨by decide, ?_, nyl, ry7.trans nye⟩, ⟨?_, by omega, ?_⟩, fun h => absurd h (by decide), fun _ => ⟨ye, yl, Nat.le_refl _⟩, fun h => absurd h (by decide), fun h => absurd h (by decide), fun h => absurd h (by decide), fun h => absurd h (by decide), fun _ => rfl, fun _ => ye, fun _ _ => rfl⟩
    · unfold nsV
      rw [ptv_at ye (by omega), ptv_m, nye, mx_n (by omega) (by decide), Nat.max_eq_left (Nat.zero_le _)]
      exact nI_a _ 0
    · unfold dpV
      rw [ptv_at ye (by omega), ptv_m, dye, mx_n (by omega) (by decide), Nat.max_eq_left (Nat.zero_le _)]
      exact nI_a _ 1
    · rw [ry6, dye, nI_a, Nat.add_comm]

theorem op_after {M R : Nat → Nat → Int32} {N : Nat → Int64} {n act nf : Nat} {kd p1 p2 ns sb ag : Nat → Nat} (hW : SimW M R n act) (hF : SimF M N R nf kd p1 p2 ns sb ag) (x : Int32) (y : Int32) {u : (Nat → Nat → Int32) × (Nat → Int64)} (hu : ((if (isIn nf x) = true then (if (isIn nf y) = true then (if (decide (mx (M 11 x.toNatClampNeg) (M 11 y.toNatClampNeg) < nI 2)) = true then (if (decide (nf < 40)) = true then 0 else 3) else 2) else 1) else 1) = 0 → u.1 = appM M nf 6 (nI 0) x y ∧ u.2 0 = (nI nf).toInt64) ∧ (¬ (if (isIn nf x) = true then (if (isIn nf y) = true then (if (decide (mx (M 11 x.toNatClampNeg) (M 11 y.toNatClampNeg) < nI 2)) = true then (if (decide (nf < 40)) = true then 0 else 3) else 2) else 1) else 1) = 0 → TX M u.1)) {v : Nat → Nat → Int32} (hv : v = (if (isIn nf x && isIn nf y) = true then (if nI 1 + mx (R 7 x.toNatClampNeg) (R 7 y.toNatClampNeg) < nI 3 then crt (wr R 0 0 (nI 0)) nf 6 x y (mx (R 6 x.toNatClampNeg) (R 6 y.toNatClampNeg)) (nI 1 + mx (R 7 x.toNatClampNeg) (R 7 y.toNatClampNeg)) else wr R 0 0 (nI 2)) else wr R 0 0 (nI 1))) : v 0 0 = nI (if (isIn nf x) = true then (if (isIn nf y) = true then (if (decide (mx (M 11 x.toNatClampNeg) (M 11 y.toNatClampNeg) < nI 2)) = true then (if (decide (nf < 40)) = true then 0 else 3) else 2) else 1) else 1) ∧ ((if (isIn nf x) = true then (if (isIn nf y) = true then (if (decide (mx (M 11 x.toNatClampNeg) (M 11 y.toNatClampNeg) < nI 2)) = true then (if (decide (nf < 40)) = true then 0 else 3) else 2) else 1) else 1) = 0 → u.2 0 = ((if (isIn nf x && isIn nf y) = true then (if nI 1 + mx (R 7 x.toNatClampNeg) (R 7 y.toNatClampNeg) < nI 3 then (if nf = 40 then nI 0 else nI nf) else nI 0) else nI 0)).toInt64) ∧ SimE u.1 (if (if (isIn nf x) = true then (if (isIn nf y) = true then (if (decide (mx (M 11 x.toNatClampNeg) (M 11 y.toNatClampNeg) < nI 2)) = true then (if (decide (nf < 40)) = true then 0 else 3) else 2) else 1) else 1) = 0 then appN N nf 6 x y else N) v := by
  obtain ⟨hu0, hu1⟩ := hu
  have h40 := hF.1
  by_cases h1 : isIn nf x = true
  case neg =>
    rw [Bool.not_eq_true] at h1
    simp only [h1, if_false, Bool.false_eq_true, Bool.false_and] at hu0 hu1 hv ⊢
    subst hv
    exact ⟨wr_same, fun h => absurd h (by decide), simQ hW hF (hu1 (by decide))⟩
  by_cases h2 : isIn nf y = true
  case neg =>
    rw [Bool.not_eq_true] at h2
    simp only [h1, h2, if_true, if_false, Bool.false_eq_true, Bool.and_false] at hu0 hu1 hv ⊢
    subst hv
    exact ⟨wr_same, fun h => absurd h (by decide), simQ hW hF (hu1 (by decide))⟩
  obtain ⟨xl, xe⟩ := isIn_eq (by omega) h1
  obtain ⟨rx6, rx7, -, -, -, dx, dxl, dxe⟩ := hF.2.2.2.2.2 _ xl
  obtain ⟨⟨-, -, nxe, nxl⟩, -⟩ := hF.2.2.2.1.2 _ xl
  obtain ⟨yl, ye⟩ := isIn_eq (by omega) h2
  obtain ⟨ry6, ry7, -, -, -, dy, dyl, dye⟩ := hF.2.2.2.2.2 _ yl
  obtain ⟨⟨-, -, nye, nyl⟩, -⟩ := hF.2.2.2.1.2 _ yl
  have m7 : mx (M 11 x.toNatClampNeg) (M 11 y.toNatClampNeg) = nI (max (ns x.toNatClampNeg) (ns y.toNatClampNeg)) := by rw [nxe, nye, mx_n (by omega) (by omega)]
  have m7r : mx (R 7 x.toNatClampNeg) (R 7 y.toNatClampNeg) = nI (max (ns x.toNatClampNeg) (ns y.toNatClampNeg)) := by rw [rx7, ry7, nxe, nye, mx_n (by omega) (by omega)]
  rw [m7r, nI_a] at hv
  rw [m7r, nI_a]
  rw [m7] at hu0 hu1 ⊢
  by_cases h3 : max (ns x.toNatClampNeg) (ns y.toNatClampNeg) < 2
  case neg =>
    have h4 : ¬ nI (max (ns x.toNatClampNeg) (ns y.toNatClampNeg)) < nI 2 := fun q => h3 ((nI_ltI (by omega) (by omega)).mp q)
    have h5 : ¬ nI (1 + max (ns x.toNatClampNeg) (ns y.toNatClampNeg)) < nI 3 := fun q => h3 (by have := (nI_ltI (by omega) (by omega)).mp q; omega)
    simp only [h1, h2, h4, h5, if_true, if_false, decide_false, Bool.false_eq_true, Bool.and_true] at hu0 hu1 hv ⊢
    subst hv
    exact ⟨wr_same, fun h => absurd h (by decide), simQ hW hF (hu1 (by decide))⟩
  have h4 : nI (max (ns x.toNatClampNeg) (ns y.toNatClampNeg)) < nI 2 := (nI_ltI (by omega) (by omega)).mpr h3
  have h5 : nI (1 + max (ns x.toNatClampNeg) (ns y.toNatClampNeg)) < nI 3 := (nI_ltI (by omega) (by omega)).mpr (by omega)
  by_cases hz : nf = 40
  · subst hz
    simp only [h1, h2, h4, h5, crt_y, wr2_00, if_true, decide_true, decide_false, Nat.lt_irrefl, Bool.false_eq_true, if_false, Bool.and_true] at hu0 hu1 hv ⊢
    subst hv
    exact ⟨wr_same.trans rfl, fun h => absurd h (by decide), simQ hW hF (hu1 (by decide))⟩
  have hnf : nf < 40 := by omega
  simp only [h1, h2, h4, h5, hnf, hz, crt_n hz, if_true, decide_true, if_false, Bool.and_true] at hu0 hu1 hv ⊢
  obtain ⟨e1, e2⟩ := hu0 trivial
  subst hv
  refine ⟨crtR_00, fun _ => e2, ?_⟩
  rw [e1]
  refine app_E (q1 := x.toNatClampNeg) (q2 := y.toNatClampNeg) (s := 1 + max (ns x.toNatClampNeg) (ns y.toNatClampNeg)) (b0 := 0) (a0 := 0) (e := max dx dy) hW hF hnf ⟨⟨by decide, ?_, by omega, rfl⟩, ⟨?_, by omega, ?_⟩, fun h => absurd h (by decide), fun _ => ⟨xe, xl, by omega⟩, fun _ => ⟨ye, yl, xe, ye⟩, fun h => absurd h (by decide), fun _ => ⟨by omega, by omega⟩, fun h => absurd h (by decide), fun h => absurd h (by decide), fun h => absurd h (by decide), fun _ h => absurd rfl h⟩
  · unfold nsV
    rw [ptv_at xe (by omega), ptv_at ye (by omega), m7, Nat.add_comm 1]
    exact nI_a _ 1
  · unfold dpV
    rw [ptv_at xe (by omega), ptv_at ye (by omega), dxe, dye, mx_n (by omega) (by omega)]
    exact nI_a _ 0
  · rw [rx6, ry6, dxe, dye, mx_n (by omega) (by omega)]

def M00 : Nat → Nat → Int32 := fun _ _ => nI 0
def N00 : Nat → Int64 := fun _ => 0
theorem sim_new : SimE M00 N00 M00 := by
  refine ⟨0, 0, 0, id, id, id, id, id, id, ⟨⟨by decide, fun h => absurd h (by decide), fun _ => ⟨rfl, rfl⟩⟩, ⟨rfl, rfl⟩, ⟨rfl, rfl⟩, fun w hw => absurd hw (Nat.not_lt_zero w), fun i hi w hw => absurd hw (Nat.not_lt_zero w), fun i hi w hw => absurd hw (Nat.not_lt_zero w), fun i hi w h1 h2 => rfl⟩, ⟨by decide, rfl, rfl, ⟨fun f hf => absurd hf (Nat.not_lt_zero f), fun f hf => absurd hf (Nat.not_lt_zero f)⟩, ⟨fun f hf => absurd hf (Nat.not_lt_zero f), fun f hf => absurd hf (Nat.not_lt_zero f)⟩, fun f hf => absurd hf (Nat.not_lt_zero f)⟩⟩
