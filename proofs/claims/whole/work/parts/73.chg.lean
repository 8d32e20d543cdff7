/-! Changes of worlds and arrows. -/
theorem simC {M R u v : Nat → Nat → Int32} {N : Nat → Int64} {n act n2 act2 nf : Nat} {kd p1 p2 ns sb ag : Nat → Nat} (hW : SimW u v n2 act2) (hF : SimF M N R nf kd p1 p2 ns sb ag) (hu : ∀ i x, (6 ≤ i ∧ i < 12 ∨ i = 0 ∧ x = 2) → u i x = M i x) (hv : ∀ i x, (3 ≤ i ∧ i < 8 ∨ i = 0 ∧ x = 3) → v i x = R i x) : SimE u N v :=
  ⟨n2, act2, nf, kd, p1, p2, ns, sb, ag, hW, SimF_m hF hu hv⟩
theorem b_31 (x : Int32) : x < 0 ↔ bt x 31 = true := by
  rw [Int32.lt_iff_toInt_lt]
  show x.toBitVec.toInt < 0 ↔ x.toBitVec.getLsbD 31 = true
  have h := BitVec.msb_eq_toInt (x := x.toBitVec)
  rw [BitVec.msb_eq_getLsbD_last] at h
  rw [show (32 - 1 : Nat) = 31 from rfl] at h
  rw [h, decide_eq_true_eq]
theorem gat_iff {n : Nat} (hn : n ≤ 24) (set : Int32) : (set &&& ((sg n - nI 1) ^^^ (-1))) = 0 ↔ ¬ (set < 0 ∨ ¬ (set >>> (nI n &&& 31)) = 0) := by
  rw [not_or, Classical.not_not, b_31, b_zero_i, b_zero_i]
  constructor
  · intro h
    have key : ∀ j, bt set j = true → j < n := fun j hj => by
      apply Classical.byContradiction
      intro q
      exact h j (b_and_i.mpr ⟨hj, (b_not_i (bt_lt hj)).mpr (fun z => q ((b_all_i (by omega)).mp z))⟩)
    refine ⟨fun h31 => absurd (key 31 h31) (by omega), fun j hj => ?_⟩
    have hj2 := bt_lt hj
    rw [b_sshr n (by omega) set hj2] at hj
    split at hj
    · exact absurd (key _ hj) (by omega)
    · exact absurd (key _ hj) (by omega)
  · rintro ⟨h1, h2⟩ j hj
    obtain ⟨h3, h4⟩ := b_and_i.mp hj
    have hj2 := bt_lt h3
    have h5 : ¬ j < n := fun z => (b_not_i hj2).mp h4 ((b_all_i (by omega)).mpr z)
    apply h2 (j - n)
    rw [b_sshr n (by omega) set (by omega), if_pos (by omega), show n + (j - n) = j by omega]
    exact h3
theorem gat_lt {n : Nat} (hn : n ≤ 24) {set : Int32} (h : (set &&& ((sg n - nI 1) ^^^ (-1))) = 0) {j : Nat} (hj : bt set j = true) : j < n := by
  apply Classical.byContradiction
  intro q
  exact b_zero_i.mp h j (b_and_i.mpr ⟨hj, (b_not_i (bt_lt hj)).mpr (fun z => q ((b_all_i (by omega)).mp z))⟩)
theorem join_eq {M R : Nat → Nat → Int32} {n a : Nat} (hA : Ar M R n) (ha : a < 4) {set : Int32} : joinN M a set n = gatN R a set n := fo_cong (fun w hw r => by rw [hA a ha w hw])
theorem joinC_o {M : Nat → Nat → Int32} {a : Nat} {set : Int32} {n i w : Nat} (h : i < 2 ∨ 6 ≤ i) (ha : a < 4) : joinC M a set n i w = M i w := if_neg (by omega)
theorem gatC_o {M : Nat → Nat → Int32} {a : Nat} {set : Int32} {n i w : Nat} (h : i ≠ 2) : gatC M a set n i w = M i w := if_neg (by omega)
theorem gat_W {M R : Nat → Nat → Int32} {n act a : Nat} {set : Int32} {z : Int32} (hW : SimW M R n act) (ha : a < 4) (hs : ∀ j, bt set j = true → j < n) : SimW (joinC M a set n) (gatC (wr R 0 0 z) a set n) n act := by
  obtain ⟨h0, ⟨a1, a2⟩, ⟨b1, b2⟩, hat, hA, hB, hZ⟩ := hW
  refine ⟨⟨h0.1, h0.2.1, fun h => ⟨(h0.2.2 h).1, (joinC_o (by omega) ha).trans (h0.2.2 h).2⟩⟩, ⟨(joinC_o (by omega) ha).trans a1, (joinC_o (by omega) ha).trans a2⟩, ⟨(gatC_o (by decide)).trans ((wr_ne (by omega)).trans b1), (gatC_o (by decide)).trans ((wr_ne (by omega)).trans b2)⟩, fun w hw => ?_, fun i hi w hw => ?_, fun i hi w hw j hj => ?_, fun i hi w h1 h2 => ?_⟩
  · rw [gatC_o (by decide), joinC_o (by omega) ha, wr_ne (by omega)]; exact hat w hw
  · unfold gatC joinC
    rw [wr_ne (by omega), hA i hi w hw]
    by_cases e : i = a
    · subst e
      rw [show 24 * i + w - 24 * i = w by omega]
      by_cases hb : bt set w = true
      · rw [if_pos ⟨rfl, by omega, hb⟩, if_pos ⟨rfl, hw, hb⟩]
      · rw [if_neg (fun q => hb q.2.2), if_neg (fun q => hb q.2.2)]
    · rw [if_neg (by omega), if_neg (by omega)]
  · unfold joinC at hj
    split at hj
    · rcases b_or_i.mp hj with h | h
      · exact hB i hi w hw j h
      · exact hs j h
    · exact hB i hi w hw j hj
  · unfold joinC
    rw [if_neg (by omega)]
    exact hZ i hi w h1 h2

theorem op_addWorld {M R : Nat → Nat → Int32} {N : Nat → Int64} {n act nf : Nat} {kd p1 p2 ns sb ag : Nat → Nat} (hW : SimW M R n act) (hF : SimF M N R nf kd p1 p2 ns sb ag) (x : Int32) {u : (Nat → Nat → Int32) × (Nat → Int64)} (hu : ((if (isIn 64 x) = true then (if (decide (n < 24)) = true then 0 else 2) else 1) = 0 → u.1 = wr (wr M 1 n x) 0 0 (nI (n + 1)) ∧ u.2 0 = (nI n).toInt64) ∧ (¬ (if (isIn 64 x) = true then (if (decide (n < 24)) = true then 0 else 2) else 1) = 0 → TX M u.1)) {v : Nat → Nat → Int32} (hv : v = (if isIn 64 x = true then (if n = 24 then wr R 0 0 (nI 2) else addR R n x) else wr R 0 0 (nI 1))) : v 0 0 = nI (if (isIn 64 x) = true then (if (decide (n < 24)) = true then 0 else 2) else 1) ∧ ((if (isIn 64 x) = true then (if (decide (n < 24)) = true then 0 else 2) else 1) = 0 → u.2 0 = ((if isIn 64 x = true then (if n = 24 then nI 0 else nI n) else nI 0)).toInt64) ∧ SimE u.1 N v := by
  obtain ⟨hu0, hu1⟩ := hu
  by_cases h1 : isIn 64 x = true
  · by_cases h2 : n = 24
    · subst h2
      simp only [h1, if_true, decide_false, Nat.lt_irrefl, Bool.false_eq_true, if_false] at hu0 hu1 hv ⊢
      subst hv
      exact ⟨wr_same, fun h => absurd h (by decide), simQ hW hF (hu1 (by decide))⟩
    · have hn : n < 24 := by have := hW.1.1; omega
      simp only [h1, hn, h2, if_true, decide_true, if_false] at hu0 hu1 hv ⊢
      obtain ⟨e1, e2⟩ := hu0 trivial
      have hv1 : ∀ i q, i ≠ 2 → v i q = (if i = 0 ∧ q = 1 then nI (n + 1) else if n = 0 ∧ i = 0 ∧ q = 2 then nI 0 else if i = 1 ∧ q = n then x else if i = 0 ∧ q = 0 then nI 0 else R i q) := fun i q hi => by
        subst hv
        unfold addR
        have ec : ∀ i q, i ≠ 2 → clrC (wr (wr R 0 0 (nI 0)) 1 n x) n 4 i q = (if i = 1 ∧ q = n then x else if i = 0 ∧ q = 0 then nI 0 else R i q) := fun i q hi => by
          unfold clrC
          rw [if_neg (fun z => hi z.1), wr_eq, wr_eq]
        rw [wr_eq]
        by_cases h3 : i = 0 ∧ q = 1
        · rw [if_pos h3, if_pos h3]
        · rw [if_neg h3, if_neg h3]
          by_cases h4 : n = 0
          · rw [if_pos h4, wr_eq, ec i q hi]
            by_cases h5 : i = 0 ∧ q = 2
            · rw [if_pos h5, if_pos ⟨h4, h5⟩]
            · rw [if_neg h5, if_neg (show ¬ (n = 0 ∧ i = 0 ∧ q = 2) from fun z => h5 z.2)]
          · rw [if_neg h4, ec i q hi, if_neg (show ¬ (n = 0 ∧ i = 0 ∧ q = 2) from fun z => h4 z.1)]
      have hv2 : ∀ q, v 2 q = (if q % 24 = n ∧ q / 24 < 4 then nI 0 else R 2 q) := fun q => by
        subst hv
        unfold addR
        rw [wr_ne (by omega)]
        have ec : clrC (wr (wr R 0 0 (nI 0)) 1 n x) n 4 2 q = (if q % 24 = n ∧ q / 24 < 4 then nI 0 else R 2 q) := by
          unfold clrC
          rw [wr_ne (by omega), wr_ne (by omega)]
          by_cases h5 : q % 24 = n ∧ q / 24 < 4
          · rw [if_pos ⟨rfl, h5⟩, if_pos h5]
          · rw [if_neg (fun z => h5 z.2), if_neg h5]
        split
        · rw [wr_ne (by omega)]; exact ec
        · exact ec
      obtain ⟨h0, ⟨a1, a2⟩, ⟨b1, b2⟩, hat, hA, hB, hZ⟩ := hW
      have hue : ∀ i q, ¬ (i = 1 ∧ q = n) → ¬ (i = 0 ∧ q = 0) → u.1 i q = M i q := fun i q g1 g2 => by
        rw [e1, wr_ne (by omega), wr_ne (by omega)]
      refine ⟨by rw [hv1 0 0 (by decide), if_neg (by omega), if_neg (by omega), if_neg (by omega), if_pos ⟨rfl, rfl⟩], fun _ => e2, ?_⟩
      refine simC (n := n) (act := act) (n2 := n + 1) (act2 := act) ⟨⟨by omega, fun _ => by rcases Nat.eq_zero_or_pos n with h | h; (have := (h0.2.2 h).1; omega); (have := h0.2.1 h; omega), fun h => absurd h (by omega)⟩, ⟨by rw [e1]; exact wr_same, by rw [hue 0 1 (by omega) (by omega)]; exact a2⟩, ⟨by rw [hv1 0 1 (by decide), if_pos ⟨rfl, rfl⟩], ?_⟩, fun w hw => ?_, fun i hi w hw => ?_, fun i hi w hw j hj => ?_, fun i hi w g1 g2 => ?_⟩ hF (fun i q h => hue i q (by omega) (by omega)) (fun i q h => by rw [hv1 i q (by omega), if_neg (by omega), if_neg (by omega), if_neg (by omega), if_neg (by omega)])
      · rw [hv1 0 2 (by decide), if_neg (by omega)]
        by_cases hz : n = 0
        · rw [if_pos ⟨hz, rfl, rfl⟩, (h0.2.2 hz).1]
        · rw [if_neg (by omega), if_neg (by omega), if_neg (by omega)]; exact b2
      · rw [hv1 1 w (by decide), if_neg (by omega), if_neg (by omega)]
        by_cases hz : w = n
        · rw [if_pos ⟨rfl, hz⟩, e1, wr_ne (by omega), hz, wr_same]
        · rw [if_neg (by omega), if_neg (by omega), hue 1 w (by omega) (by omega)]; exact hat w (by omega)
      · rw [hv2, hue (2 + i) w (by omega) (by omega), show (24 * i + w) % 24 = w by omega, show (24 * i + w) / 24 = i by omega]
        by_cases hz : w = n
        · rw [if_pos ⟨hz, hi⟩, hz, hZ i hi n (by omega) hn]
        · rw [if_neg (by omega)]; exact hA i hi w (by omega)
      · rw [hue (2 + i) w (by omega) (by omega)] at hj
        by_cases hz : w = n
        · rw [hz, hZ i hi n (by omega) hn, bt_n0] at hj; cases hj
        · have := hB i hi w (by omega) j hj; omega
      · rw [hue (2 + i) w (by omega) (by omega)]; exact hZ i hi w (by omega) g2
  · rw [Bool.not_eq_true] at h1
    simp only [h1, if_false, Bool.false_eq_true] at hu0 hu1 hv ⊢
    subst hv
    exact ⟨wr_same, fun h => absurd h (by decide), simQ hW hF (hu1 (by decide))⟩

theorem op_setAtoms {M R : Nat → Nat → Int32} {N : Nat → Int64} {n act nf : Nat} {kd p1 p2 ns sb ag : Nat → Nat} (hW : SimW M R n act) (hF : SimF M N R nf kd p1 p2 ns sb ag) (x : Int32) (y : Int32) {u : (Nat → Nat → Int32) × (Nat → Int64)} (hu : ((if (isIn n x) = true then (if (isIn 64 y) = true then 0 else 2) else 1) = 0 → u.1 = wr M 1 x.toNatClampNeg y ∧ u.2 0 = (M 1 x.toNatClampNeg).toInt64) ∧ (¬ (if (isIn n x) = true then (if (isIn 64 y) = true then 0 else 2) else 1) = 0 → TX M u.1)) {v : Nat → Nat → Int32} (hv : v = (if isIn n x = true then (if isIn 64 y = true then wr (wr R 0 0 (nI 0)) 1 x.toNatClampNeg y else wr R 0 0 (nI 2)) else wr R 0 0 (nI 1))) : v 0 0 = nI (if (isIn n x) = true then (if (isIn 64 y) = true then 0 else 2) else 1) ∧ ((if (isIn n x) = true then (if (isIn 64 y) = true then 0 else 2) else 1) = 0 → u.2 0 = ((if isIn n x = true then (if isIn 64 y = true then R 1 x.toNatClampNeg else nI 0) else nI 0)).toInt64) ∧ SimE u.1 N v := by
  obtain ⟨hu0, hu1⟩ := hu
  by_cases h1 : isIn n x = true
  · obtain ⟨hx1, -⟩ := isIn_eq (by have := hW.1.1; omega) h1
    by_cases h2 : isIn 64 y = true
    · simp only [h1, h2, if_true] at hu0 hu1 hv ⊢
      obtain ⟨e1, e2⟩ := hu0 trivial
      subst hv
      refine ⟨(wr_ne (by omega)).trans wr_same, fun _ => by rw [e2, hW.2.2.2.1 _ hx1], ?_⟩
      obtain ⟨h0, ⟨a1, a2⟩, ⟨b1, b2⟩, hat, hA, hB, hZ⟩ := hW
      rw [e1]
      refine simC (n := n) (act := act) (n2 := n) (act2 := act) ⟨⟨h0.1, h0.2.1, fun h => absurd hx1 (by omega)⟩, ⟨(wr_ne (by omega)).trans a1, (wr_ne (by omega)).trans a2⟩, ⟨(wr_ne (by omega)).trans ((wr_ne (by omega)).trans b1), (wr_ne (by omega)).trans ((wr_ne (by omega)).trans b2)⟩, fun w hw => ?_, fun i hi w hw => ?_, fun i hi w hw j hj => ?_, fun i hi w g1 g2 => ?_⟩ hF (fun i q h => wr_ne (by omega)) (fun i q h => (wr_ne (by omega)).trans (wr_ne (by omega)))
      · rw [wr_eq (wr R 0 0 (nI 0)), wr_eq M]
        split
        · rfl
        · rw [wr_ne (by omega)]; exact hat w hw
      · rw [wr_ne (by omega), wr_ne (by omega), wr_ne (by omega)]; exact hA i hi w hw
      · rw [wr_ne (by omega)] at hj; exact hB i hi w hw j hj
      · rw [wr_ne (by omega)]; exact hZ i hi w g1 g2
    · rw [Bool.not_eq_true] at h2
      simp only [h1, h2, if_true, if_false, Bool.false_eq_true] at hu0 hu1 hv ⊢
      subst hv
      exact ⟨wr_same, fun h => absurd h (by decide), simQ hW hF (hu1 (by decide))⟩
  · rw [Bool.not_eq_true] at h1
    simp only [h1, if_false, Bool.false_eq_true] at hu0 hu1 hv ⊢
    subst hv
    exact ⟨wr_same, fun h => absurd h (by decide), simQ hW hF (hu1 (by decide))⟩

theorem op_setActual {M R : Nat → Nat → Int32} {N : Nat → Int64} {n act nf : Nat} {kd p1 p2 ns sb ag : Nat → Nat} (hW : SimW M R n act) (hF : SimF M N R nf kd p1 p2 ns sb ag) (x : Int32) {u : (Nat → Nat → Int32) × (Nat → Int64)} (hu : ((if (isIn n x) = true then 0 else 1) = 0 → u.1 = wr M 0 1 x ∧ u.2 0 = (nI act).toInt64) ∧ (¬ (if (isIn n x) = true then 0 else 1) = 0 → TX M u.1)) {v : Nat → Nat → Int32} (hv : v = (if isIn n x = true then wr (wr R 0 0 (nI 0)) 0 2 x else wr R 0 0 (nI 1))) : v 0 0 = nI (if (isIn n x) = true then 0 else 1) ∧ ((if (isIn n x) = true then 0 else 1) = 0 → u.2 0 = ((if isIn n x = true then nI act else nI 0)).toInt64) ∧ SimE u.1 N v := by
  obtain ⟨hu0, hu1⟩ := hu
  by_cases h1 : isIn n x = true
  · obtain ⟨hx1, hx2⟩ := isIn_eq (by have := hW.1.1; omega) h1
    simp only [h1, if_true] at hu0 hu1 hv ⊢
    obtain ⟨e1, e2⟩ := hu0 trivial
    subst hv
    refine ⟨(wr_ne (by omega)).trans wr_same, fun _ => e2, ?_⟩
    obtain ⟨h0, ⟨a1, a2⟩, ⟨b1, b2⟩, hat, hA, hB, hZ⟩ := hW
    rw [e1]
    refine simC (n := n) (act := act) (n2 := n) (act2 := x.toNatClampNeg) ⟨⟨h0.1, fun _ => hx1, fun h => absurd hx1 (by omega)⟩, ⟨(wr_ne (by omega)).trans a1, wr_same.trans hx2⟩, ⟨(wr_ne (by omega)).trans ((wr_ne (by omega)).trans b1), wr_same.trans hx2⟩, fun w hw => ?_, fun i hi w hw => ?_, fun i hi w hw j hj => ?_, fun i hi w g1 g2 => ?_⟩ hF (fun i q h => wr_ne (by omega)) (fun i q h => (wr_ne (by omega)).trans (wr_ne (by omega)))
    · rw [wr_ne (by omega), wr_ne (by omega), wr_ne (by omega)]; exact hat w hw
    · rw [wr_ne (by omega), wr_ne (by omega), wr_ne (by omega)]; exact hA i hi w hw
    · rw [wr_ne (by omega)] at hj; exact hB i hi w hw j hj
    · rw [wr_ne (by omega)]; exact hZ i hi w g1 g2
  · rw [Bool.not_eq_true] at h1
    simp only [h1, if_false, Bool.false_eq_true] at hu0 hu1 hv ⊢
    subst hv
    exact ⟨wr_same, fun h => absurd h (by decide), simQ hW hF (hu1 (by decide))⟩

theorem op_connect {M R : Nat → Nat → Int32} {N : Nat → Int64} {n act nf : Nat} {kd p1 p2 ns sb ag : Nat → Nat} (hW : SimW M R n act) (hF : SimF M N R nf kd p1 p2 ns sb ag) (x : Int32) (y : Int32) (z : Int32) (on : Bool) {u : (Nat → Nat → Int32) × (Nat → Int64)} (hu : ((if (isIn 4 x) = true then (if (isIn n y) = true then (if (isIn n z) = true then 0 else 1) else 1) else 1) = 0 → u.1 = wr M (2 + x.toNatClampNeg) y.toNatClampNeg (if on = true then M (2 + x.toNatClampNeg) y.toNatClampNeg ||| sg z.toNatClampNeg else M (2 + x.toNatClampNeg) y.toNatClampNeg &&& (sg z.toNatClampNeg ^^^ (-1))) ∧ u.2 0 = (if (bt (M (2 + x.toNatClampNeg) y.toNatClampNeg) z.toNatClampNeg) = true then (1 : Int64) else 0)) ∧ (¬ (if (isIn 4 x) = true then (if (isIn n y) = true then (if (isIn n z) = true then 0 else 1) else 1) else 1) = 0 → TX M u.1)) {v : Nat → Nat → Int32} (hv : v = (if (isIn 4 x && isIn n y && isIn n z) = true then wr (wr R 0 0 (nI 0)) 2 (24 * x.toNatClampNeg + y.toNatClampNeg) (if on = true then R 2 (24 * x.toNatClampNeg + y.toNatClampNeg) ||| sg z.toNatClampNeg else R 2 (24 * x.toNatClampNeg + y.toNatClampNeg) &&& (sg z.toNatClampNeg ^^^ (-1))) else wr R 0 0 (nI 1))) : v 0 0 = nI (if (isIn 4 x) = true then (if (isIn n y) = true then (if (isIn n z) = true then 0 else 1) else 1) else 1) ∧ ((if (isIn 4 x) = true then (if (isIn n y) = true then (if (isIn n z) = true then 0 else 1) else 1) else 1) = 0 → u.2 0 = (if (isIn 4 x && isIn n y && isIn n z && bt (R 2 (24 * x.toNatClampNeg + y.toNatClampNeg)) z.toNatClampNeg) = true then (1 : Int64) else 0)) ∧ SimE u.1 N v := by
  obtain ⟨hu0, hu1⟩ := hu
  have hno : (isIn 4 x && isIn n y && isIn n z) = false → (if isIn 4 x = true then (if isIn n y = true then (if isIn n z = true then 0 else 1) else 1) else 1) = 1 := by
    cases isIn 4 x <;> cases isIn n y <;> cases isIn n z <;> simp
  by_cases h1 : (isIn 4 x && isIn n y && isIn n z) = true
  · have h2 := h1
    rw [Bool.and_eq_true, Bool.and_eq_true] at h2
    obtain ⟨⟨hx, hy⟩, hz⟩ := h2
    obtain ⟨hx1, -⟩ := isIn_eq (by decide) hx
    obtain ⟨hy1, -⟩ := isIn_eq (by have := hW.1.1; omega) hy
    obtain ⟨hz1, -⟩ := isIn_eq (by have := hW.1.1; omega) hz
    simp only [hx, hy, hz, if_true, Bool.true_and, Bool.and_self] at hu0 hu1 hv ⊢
    obtain ⟨e1, e2⟩ := hu0 trivial
    subst hv
    have hA0 := hW.2.2.2.2.1 _ hx1 _ hy1
    refine ⟨(wr_ne (by omega)).trans wr_same, fun _ => by rw [e2, hA0], ?_⟩
    obtain ⟨h0, ⟨a1, a2⟩, ⟨b1, b2⟩, hat, hA, hB, hZ⟩ := hW
    rw [e1, hA0]
    obtain ⟨V, hV⟩ : ∃ V, V = (if on = true then M (2 + x.toNatClampNeg) y.toNatClampNeg ||| sg z.toNatClampNeg else M (2 + x.toNatClampNeg) y.toNatClampNeg &&& (sg z.toNatClampNeg ^^^ (-1))) := ⟨_, rfl⟩
    rw [← hV]
    have hVb : ∀ j, bt V j = true → j < n := fun j hj => by
      rw [hV] at hj
      split at hj
      · rcases b_or_i.mp hj with h | h
        · exact hB _ hx1 _ hy1 j h
        · have := (b_sg_i (by omega)).mp h; omega
      · exact hB _ hx1 _ hy1 j (b_and_i.mp hj).1
    refine simC (n := n) (act := act) (n2 := n) (act2 := act) ⟨⟨h0.1, h0.2.1, fun h => absurd hy1 (by omega)⟩, ⟨(wr_ne (by omega)).trans a1, (wr_ne (by omega)).trans a2⟩, ⟨(wr_ne (by omega)).trans ((wr_ne (by omega)).trans b1), (wr_ne (by omega)).trans ((wr_ne (by omega)).trans b2)⟩, fun w hw => ?_, fun i hi w hw => ?_, fun i hi w hw j hj => ?_, fun i hi w g1 g2 => ?_⟩ hF (fun i q h => wr_ne (by omega)) (fun i q h => (wr_ne (by omega)).trans (wr_ne (by omega)))
    · rw [wr_ne (by omega), wr_ne (by omega), wr_ne (by omega)]; exact hat w hw
    · rw [wr_eq (wr R 0 0 (nI 0)), wr_eq M]
      by_cases e : i = x.toNatClampNeg ∧ w = y.toNatClampNeg
      · rw [if_pos (by omega), if_pos (by omega)]
      · rw [if_neg (by omega), if_neg (by omega), wr_ne (by omega)]; exact hA i hi w hw
    · rw [wr_eq] at hj
      split at hj
      · exact hVb j hj
      · exact hB i hi w hw j hj
    · rw [wr_ne (by omega)]; exact hZ i hi w g1 g2
  · rw [Bool.not_eq_true] at h1
    rw [hno h1] at hu0 hu1 ⊢
    simp only [h1, if_false, Bool.false_eq_true] at hv
    subst hv
    exact ⟨wr_same, fun h => absurd h (by decide), simQ hW hF (hu1 (by decide))⟩

theorem op_gather {M R : Nat → Nat → Int32} {N : Nat → Int64} {n act nf : Nat} {kd p1 p2 ns sb ag : Nat → Nat} (hW : SimW M R n act) (hF : SimF M N R nf kd p1 p2 ns sb ag) (x : Int32) (set : Int32) {u : (Nat → Nat → Int32) × (Nat → Int64)} (hu : ((if (isIn 4 x) = true then (if (decide ((set &&& ((sg n - nI 1) ^^^ (-1))) = 0)) = true then 0 else 2) else 1) = 0 → u.1 = joinC M x.toNatClampNeg set n ∧ u.2 0 = (joinN M x.toNatClampNeg set n).toInt64) ∧ (¬ (if (isIn 4 x) = true then (if (decide ((set &&& ((sg n - nI 1) ^^^ (-1))) = 0)) = true then 0 else 2) else 1) = 0 → TX M u.1)) {v : Nat → Nat → Int32} (hv : v = (if isIn 4 x = true then (if set < 0 ∨ ¬ (set >>> (nI n &&& 31)) = 0 then wr R 0 0 (nI 2) else gatC (wr R 0 0 (nI 0)) x.toNatClampNeg set n) else wr R 0 0 (nI 1))) : v 0 0 = nI (if (isIn 4 x) = true then (if (decide ((set &&& ((sg n - nI 1) ^^^ (-1))) = 0)) = true then 0 else 2) else 1) ∧ ((if (isIn 4 x) = true then (if (decide ((set &&& ((sg n - nI 1) ^^^ (-1))) = 0)) = true then 0 else 2) else 1) = 0 → u.2 0 = ((if isIn 4 x = true then (if set < 0 ∨ ¬ (set >>> (nI n &&& 31)) = 0 then nI 0 else gatN R x.toNatClampNeg set n) else nI 0)).toInt64) ∧ SimE u.1 N v := by
  obtain ⟨hu0, hu1⟩ := hu
  by_cases h1 : isIn 4 x = true
  · obtain ⟨hx1, -⟩ := isIn_eq (by decide) h1
    have hg := gat_iff hW.1.1 set
    by_cases h2 : (set &&& ((sg n - nI 1) ^^^ (-1))) = 0
    · have h3 := hg.mp h2
      rw [decide_eq_true h2] at hu0 hu1 ⊢
      rw [if_neg h3] at hv ⊢
      simp only [h1, if_true] at hu0 hu1 hv ⊢
      obtain ⟨e1, e2⟩ := hu0 trivial
      subst hv
      refine ⟨(gatC_o (by decide)).trans wr_same, fun _ => by rw [e2, join_eq hW.2.2.2.2.1 hx1], ?_⟩
      rw [e1]
      exact simC (n := n) (act := act) (gat_W hW hx1 (fun j hj => gat_lt hW.1.1 h2 hj)) hF (fun i q h => joinC_o (by omega) hx1) (fun i q h => (gatC_o (by omega)).trans (wr_ne (by omega)))
    · have h3 : set < 0 ∨ ¬ (set >>> (nI n &&& 31)) = 0 := Classical.byContradiction (fun q => h2 (hg.mpr q))
      rw [decide_eq_false h2] at hu0 hu1 ⊢
      rw [if_pos h3] at hv
      simp only [h1, if_true, if_false, Bool.false_eq_true] at hu0 hu1 hv ⊢
      subst hv
      exact ⟨wr_same, fun h => absurd h (by decide), simQ hW hF (hu1 (by decide))⟩
  · rw [Bool.not_eq_true] at h1
    simp only [h1, if_false, Bool.false_eq_true] at hu0 hu1 hv ⊢
    subst hv
    exact ⟨wr_same, fun h => absurd h (by decide), simQ hW hF (hu1 (by decide))⟩

