/-! Answers: class and reference. -/
theorem simQ {M R u : Nat → Nat → Int32} {N : Nat → Int64} {n act nf : Nat} {kd p1 p2 ns sb ag : Nat → Nat} (hW : SimW M R n act) (hF : SimF M N R nf kd p1 p2 ns sb ag) (hu : TX M u) {z : Int32} : SimE u N (wr R 0 0 z) := simT hW hF hu (fun i q hi h => wr_ne (by omega))
theorem simTQ {M R u v : Nat → Nat → Int32} {N : Nat → Int64} {n act nf : Nat} {kd p1 p2 ns sb ag : Nat → Nat} (hW : SimW M R n act) (hF : SimF M N R nf kd p1 p2 ns sb ag) (hu : TX M u) {z : Int32} (hv : TQ (wr R 0 0 z) v) : SimE u N v := simT hW hF hu (fun i q hi h => (hv i q (Or.inl hi)).trans (wr_ne (by omega)))
theorem TQ_00 {R v : Nat → Nat → Int32} {z : Int32} (hv : TQ (wr R 0 0 z) v) : v 0 0 = z := (hv 0 0 (by decide)).trans wr_same
theorem TX_e {M u : Nat → Nat → Int32} (h : u = M) : TX M u := by subst h; exact TX_r
theorem TX_v {M u : Nat → Nat → Int32} (h : ∀ i x, ¬ (12 ≤ i ∧ i < 15) → u i x = M i x) : TX M u := fun i x hi => h i x (by omega)
theorem refl_eq {M R : Nat → Nat → Int32} {n a : Nat} (hA : Ar M R n) (ha : a < 4) : isRefl M n a = reflR R n a := allB_cong (fun w hw => by rw [hA a ha w hw])
theorem sym_eq {M R : Nat → Nat → Int32} {n a : Nat} (hA : Ar M R n) (ha : a < 4) : isSym M n a = symR R n a := allB_cong (fun v hv => allB_cong (fun w hw => by rw [hA a ha w hw, hA a ha v hv]))
theorem trans_eq {M R : Nat → Nat → Int32} {n a : Nat} (hA : Ar M R n) (ha : a < 4) : isTrans M n a = transR R n a := allB_cong (fun v hv => allB_cong (fun w hw => by rw [hA a ha w hw, hA a ha v hv]))
theorem count_eq {M R : Nat → Nat → Int32} {n a : Nat} (hA : Ar M R n) (ha : a < 4) : countArr M n a = countR R n a := fo_cong (fun w hw r => by rw [hA a ha w hw])
theorem dec_eq {M R : Nat → Nat → Int32} {n act a : Nat} (hA : Ar M R n) (hat : ∀ w, w < n → R 1 w = M 1 w) (ha : a < 4) (hact : act < n) : sameAt M n (M (2 + a) act) = decR R n act a := by
  unfold sameAt decR
  rw [← hA a ha act hact]
  congr 1
  · exact fo_cong (fun w hw r => by rw [hat w hw])
  · exact fo_cong (fun w hw r => by rw [hat w hw])

theorem op_atoms {M R : Nat → Nat → Int32} {N : Nat → Int64} {n act nf : Nat} {kd p1 p2 ns sb ag : Nat → Nat} (hW : SimW M R n act) (hF : SimF M N R nf kd p1 p2 ns sb ag) (x : Int32) {u : (Nat → Nat → Int32) × (Nat → Int64)} (hu : ((if (isIn n x) = true then 0 else 1) = 0 → u.1 = M ∧ u.2 0 = (M 1 x.toNatClampNeg).toInt64) ∧ (¬ (if (isIn n x) = true then 0 else 1) = 0 → TX M u.1)) {v : Nat → Nat → Int32} (hv : v = wr R 0 0 (if isIn n x = true then nI 0 else nI 1)) : v 0 0 = nI (if (isIn n x) = true then 0 else 1) ∧ ((if (isIn n x) = true then 0 else 1) = 0 → u.2 0 = ((if isIn n x = true then R 1 x.toNatClampNeg else nI 0)).toInt64) ∧ SimE u.1 N v := by
  obtain ⟨hu0, hu1⟩ := hu
  subst hv
  by_cases h1 : isIn n x = true
  · simp only [h1, if_true] at hu0 hu1 ⊢
    obtain ⟨e1, e2⟩ := hu0 trivial
    refine ⟨wr_same, fun _ => ?_, simQ hW hF (TX_e e1)⟩
    rw [e2]
    obtain ⟨hx1, -⟩ := isIn_eq (by have := hW.1.1; omega) h1
    rw [hW.2.2.2.1 _ hx1]
  · rw [Bool.not_eq_true] at h1
    simp only [h1, if_false, Bool.false_eq_true] at hu0 hu1 ⊢
    exact ⟨wr_same, fun h => absurd h (by decide), simQ hW hF (hu1 (by decide))⟩

theorem op_arrowCount {M R : Nat → Nat → Int32} {N : Nat → Int64} {n act nf : Nat} {kd p1 p2 ns sb ag : Nat → Nat} (hW : SimW M R n act) (hF : SimF M N R nf kd p1 p2 ns sb ag) (x : Int32) {u : (Nat → Nat → Int32) × (Nat → Int64)} (hu : ((if (isIn 4 x) = true then 0 else 1) = 0 → u.1 = M ∧ u.2 0 = (countArr M n x.toNatClampNeg).toInt64) ∧ (¬ (if (isIn 4 x) = true then 0 else 1) = 0 → TX M u.1)) {v : Nat → Nat → Int32} (hv : v = wr R 0 0 (if isIn 4 x = true then nI 0 else nI 1)) : v 0 0 = nI (if (isIn 4 x) = true then 0 else 1) ∧ ((if (isIn 4 x) = true then 0 else 1) = 0 → u.2 0 = ((if isIn 4 x = true then countR R n x.toNatClampNeg else nI 0)).toInt64) ∧ SimE u.1 N v := by
  obtain ⟨hu0, hu1⟩ := hu
  subst hv
  by_cases h1 : isIn 4 x = true
  · simp only [h1, if_true] at hu0 hu1 ⊢
    obtain ⟨e1, e2⟩ := hu0 trivial
    refine ⟨wr_same, fun _ => ?_, simQ hW hF (TX_e e1)⟩
    rw [e2]
    obtain ⟨hx1, -⟩ := isIn_eq (by decide) h1
    rw [count_eq hW.2.2.2.2.1 hx1]
  · rw [Bool.not_eq_true] at h1
    simp only [h1, if_false, Bool.false_eq_true] at hu0 hu1 ⊢
    exact ⟨wr_same, fun h => absurd h (by decide), simQ hW hF (hu1 (by decide))⟩

theorem op_shape {M R : Nat → Nat → Int32} {N : Nat → Int64} {n act nf : Nat} {kd p1 p2 ns sb ag : Nat → Nat} (hW : SimW M R n act) (hF : SimF M N R nf kd p1 p2 ns sb ag) (x : Int32) {u : (Nat → Nat → Int32) × (Nat → Int64)} (hu : ((if (isIn 4 x) = true then 0 else 1) = 0 → u.1 = M ∧ u.2 0 = (nI ((if isRefl M n x.toNatClampNeg = true then 1 else 0) + (if isSym M n x.toNatClampNeg = true then 2 else 0) + (if isTrans M n x.toNatClampNeg = true then 4 else 0))).toInt64) ∧ (¬ (if (isIn 4 x) = true then 0 else 1) = 0 → TX M u.1)) {v : Nat → Nat → Int32} (hv : v = wr R 0 0 (if isIn 4 x = true then nI 0 else nI 1)) : v 0 0 = nI (if (isIn 4 x) = true then 0 else 1) ∧ ((if (isIn 4 x) = true then 0 else 1) = 0 → u.2 0 = ((if isIn 4 x = true then nI ((if reflR R n x.toNatClampNeg = true then 1 else 0) + (if symR R n x.toNatClampNeg = true then 2 else 0) + (if transR R n x.toNatClampNeg = true then 4 else 0)) else nI 0)).toInt64) ∧ SimE u.1 N v := by
  obtain ⟨hu0, hu1⟩ := hu
  subst hv
  by_cases h1 : isIn 4 x = true
  · simp only [h1, if_true] at hu0 hu1 ⊢
    obtain ⟨e1, e2⟩ := hu0 trivial
    refine ⟨wr_same, fun _ => ?_, simQ hW hF (TX_e e1)⟩
    rw [e2]
    obtain ⟨hx1, -⟩ := isIn_eq (by decide) h1
    have hA := hW.2.2.2.2.1
    rw [refl_eq hA hx1, sym_eq hA hx1, trans_eq hA hx1]
  · rw [Bool.not_eq_true] at h1
    simp only [h1, if_false, Bool.false_eq_true] at hu0 hu1 ⊢
    exact ⟨wr_same, fun h => absurd h (by decide), simQ hW hF (hu1 (by decide))⟩

theorem op_depth {M R : Nat → Nat → Int32} {N : Nat → Int64} {n act nf : Nat} {kd p1 p2 ns sb ag : Nat → Nat} (hW : SimW M R n act) (hF : SimF M N R nf kd p1 p2 ns sb ag) (x : Int32) {u : (Nat → Nat → Int32) × (Nat → Int64)} (hu : ((if (isIn nf x) = true then 0 else 1) = 0 → u.1 = M ∧ u.2 0 = (M 10 x.toNatClampNeg).toInt64) ∧ (¬ (if (isIn nf x) = true then 0 else 1) = 0 → TX M u.1)) {v : Nat → Nat → Int32} (hv : v = wr R 0 0 (if isIn nf x = true then nI 0 else nI 1)) : v 0 0 = nI (if (isIn nf x) = true then 0 else 1) ∧ ((if (isIn nf x) = true then 0 else 1) = 0 → u.2 0 = ((if isIn nf x = true then R 6 x.toNatClampNeg else nI 0)).toInt64) ∧ SimE u.1 N v := by
  obtain ⟨hu0, hu1⟩ := hu
  subst hv
  by_cases h1 : isIn nf x = true
  · simp only [h1, if_true] at hu0 hu1 ⊢
    obtain ⟨e1, e2⟩ := hu0 trivial
    refine ⟨wr_same, fun _ => ?_, simQ hW hF (TX_e e1)⟩
    rw [e2]
    obtain ⟨hx1, -⟩ := isIn_eq (by have := hF.1; omega) h1
    rw [(hF.2.2.2.2.2 _ hx1).1]
  · rw [Bool.not_eq_true] at h1
    simp only [h1, if_false, Bool.false_eq_true] at hu0 hu1 ⊢
    exact ⟨wr_same, fun h => absurd h (by decide), simQ hW hF (hu1 (by decide))⟩

theorem op_nesting {M R : Nat → Nat → Int32} {N : Nat → Int64} {n act nf : Nat} {kd p1 p2 ns sb ag : Nat → Nat} (hW : SimW M R n act) (hF : SimF M N R nf kd p1 p2 ns sb ag) (x : Int32) {u : (Nat → Nat → Int32) × (Nat → Int64)} (hu : ((if (isIn nf x) = true then 0 else 1) = 0 → u.1 = M ∧ u.2 0 = (M 11 x.toNatClampNeg).toInt64) ∧ (¬ (if (isIn nf x) = true then 0 else 1) = 0 → TX M u.1)) {v : Nat → Nat → Int32} (hv : v = wr R 0 0 (if isIn nf x = true then nI 0 else nI 1)) : v 0 0 = nI (if (isIn nf x) = true then 0 else 1) ∧ ((if (isIn nf x) = true then 0 else 1) = 0 → u.2 0 = ((if isIn nf x = true then R 7 x.toNatClampNeg else nI 0)).toInt64) ∧ SimE u.1 N v := by
  obtain ⟨hu0, hu1⟩ := hu
  subst hv
  by_cases h1 : isIn nf x = true
  · simp only [h1, if_true] at hu0 hu1 ⊢
    obtain ⟨e1, e2⟩ := hu0 trivial
    refine ⟨wr_same, fun _ => ?_, simQ hW hF (TX_e e1)⟩
    rw [e2]
    obtain ⟨hx1, -⟩ := isIn_eq (by have := hF.1; omega) h1
    rw [(hF.2.2.2.2.2 _ hx1).2.1]
  · rw [Bool.not_eq_true] at h1
    simp only [h1, if_false, Bool.false_eq_true] at hu0 hu1 ⊢
    exact ⟨wr_same, fun h => absurd h (by decide), simQ hW hF (hu1 (by decide))⟩

theorem op_seen {M R : Nat → Nat → Int32} {N : Nat → Int64} {n act nf : Nat} {kd p1 p2 ns sb ag : Nat → Nat} (hW : SimW M R n act) (hF : SimF M N R nf kd p1 p2 ns sb ag) (x : Int32) (y : Int32) {u : (Nat → Nat → Int32) × (Nat → Int64)} (hu : ((if (isIn 4 x) = true then (if (isIn n y) = true then 0 else 1) else 1) = 0 → u.1 = M ∧ u.2 0 = (M (2 + x.toNatClampNeg) y.toNatClampNeg).toInt64) ∧ (¬ (if (isIn 4 x) = true then (if (isIn n y) = true then 0 else 1) else 1) = 0 → TX M u.1)) {v : Nat → Nat → Int32} (hv : v = wr R 0 0 (if isIn 4 x = true then (if isIn n y = true then nI 0 else nI 1) else nI 1)) : v 0 0 = nI (if (isIn 4 x) = true then (if (isIn n y) = true then 0 else 1) else 1) ∧ ((if (isIn 4 x) = true then (if (isIn n y) = true then 0 else 1) else 1) = 0 → u.2 0 = ((if isIn 4 x = true then (if isIn n y = true then R 2 (24 * x.toNatClampNeg + y.toNatClampNeg) else nI 0) else nI 0)).toInt64) ∧ SimE u.1 N v := by
  obtain ⟨hu0, hu1⟩ := hu
  subst hv
  by_cases h1 : isIn 4 x = true
  · by_cases h2 : isIn n y = true
    · simp only [h1, h2, if_true] at hu0 hu1 ⊢
      obtain ⟨e1, e2⟩ := hu0 trivial
      refine ⟨wr_same, fun _ => ?_, simQ hW hF (TX_e e1)⟩
      rw [e2]
      obtain ⟨hx1, -⟩ := isIn_eq (by decide) h1
      obtain ⟨hy1, -⟩ := isIn_eq (by have := hW.1.1; omega) h2
      rw [hW.2.2.2.2.1 _ hx1 _ hy1]
    · rw [Bool.not_eq_true] at h2
      simp only [h1, h2, if_true, if_false, Bool.false_eq_true] at hu0 hu1 ⊢
      exact ⟨wr_same, fun h => absurd h (by decide), simQ hW hF (hu1 (by decide))⟩
  · rw [Bool.not_eq_true] at h1
    simp only [h1, if_false, Bool.false_eq_true] at hu0 hu1 ⊢
    exact ⟨wr_same, fun h => absurd h (by decide), simQ hW hF (hu1 (by decide))⟩

theorem op_reached {M R : Nat → Nat → Int32} {N : Nat → Int64} {n act nf : Nat} {kd p1 p2 ns sb ag : Nat → Nat} (hW : SimW M R n act) (hF : SimF M N R nf kd p1 p2 ns sb ag) (g : Int32) (y : Int32) {u : (Nat → Nat → Int32) × (Nat → Int64)} (hu : ((if (isGr g) = true then (if (isIn n y) = true then 0 else 2) else 1) = 0 → u.1 = M ∧ u.2 0 = (reachF M n g y.toNatClampNeg).toInt64) ∧ (¬ (if (isGr g) = true then (if (isIn n y) = true then 0 else 2) else 1) = 0 → TX M u.1)) {v : Nat → Nat → Int32} (hv : v = wr R 0 0 (if isGr g = true then (if isIn n y = true then nI 0 else nI 2) else nI 1)) : v 0 0 = nI (if (isGr g) = true then (if (isIn n y) = true then 0 else 2) else 1) ∧ ((if (isGr g) = true then (if (isIn n y) = true then 0 else 2) else 1) = 0 → u.2 0 = ((if isGr g = true then (if isIn n y = true then reachR R n g y.toNatClampNeg (sg n - nI 1) else nI 0) else nI 0)).toInt64) ∧ SimE u.1 N v := by
  obtain ⟨hu0, hu1⟩ := hu
  subst hv
  by_cases h1 : isGr g = true
  · by_cases h2 : isIn n y = true
    · simp only [h1, h2, if_true] at hu0 hu1 ⊢
      obtain ⟨e1, e2⟩ := hu0 trivial
      refine ⟨wr_same, fun _ => ?_, simQ hW hF (TX_e e1)⟩
      rw [e2]
      obtain ⟨hy1, -⟩ := isIn_eq (by have := hW.1.1; omega) h2
      rw [reachF_eq hW.2.2.2.2.1 hW.2.2.2.2.2.1 hW.1.1 hy1]
    · rw [Bool.not_eq_true] at h2
      simp only [h1, h2, if_true, if_false, Bool.false_eq_true] at hu0 hu1 ⊢
      exact ⟨wr_same, fun h => absurd h (by decide), simQ hW hF (hu1 (by decide))⟩
  · rw [Bool.not_eq_true] at h1
    simp only [h1, if_false, Bool.false_eq_true] at hu0 hu1 ⊢
    exact ⟨wr_same, fun h => absurd h (by decide), simQ hW hF (hu1 (by decide))⟩

theorem op_actual {M R : Nat → Nat → Int32} {N : Nat → Int64} {n act nf : Nat} {kd p1 p2 ns sb ag : Nat → Nat} (hW : SimW M R n act) (hF : SimF M N R nf kd p1 p2 ns sb ag)  {u : (Nat → Nat → Int32) × (Nat → Int64)} (hu : ((if (!decide (n = 0)) = true then 0 else 1) = 0 → u.1 = M ∧ u.2 0 = (nI act).toInt64) ∧ (¬ (if (!decide (n = 0)) = true then 0 else 1) = 0 → TX M u.1)) {v : Nat → Nat → Int32} (hv : v = wr R 0 0 (if n = 0 then nI 1 else nI 0)) : v 0 0 = nI (if (!decide (n = 0)) = true then 0 else 1) ∧ ((if (!decide (n = 0)) = true then 0 else 1) = 0 → u.2 0 = ((if n = 0 then nI 0 else nI act)).toInt64) ∧ SimE u.1 N v := by
  obtain ⟨hu0, hu1⟩ := hu
  subst hv
  by_cases h0 : n = 0
  · subst h0
    simp only [decide_true, Bool.not_true, Bool.false_eq_true, if_false, if_true] at hu0 hu1 ⊢
    exact ⟨wr_same, fun h => absurd h (by decide), simQ hW hF (hu1 (by decide))⟩
  · simp only [h0, decide_false, Bool.not_false, if_true, if_false] at hu0 hu1 ⊢
    obtain ⟨e1, e2⟩ := hu0 trivial
    exact ⟨wr_same, fun _ => e2, simQ hW hF (TX_e e1)⟩

theorem op_decided {M R : Nat → Nat → Int32} {N : Nat → Int64} {n act nf : Nat} {kd p1 p2 ns sb ag : Nat → Nat} (hW : SimW M R n act) (hF : SimF M N R nf kd p1 p2 ns sb ag) (x : Int32) {u : (Nat → Nat → Int32) × (Nat → Int64)} (hu : ((if (isIn 4 x) = true then (if (!decide (n = 0)) = true then 0 else 2) else 1) = 0 → u.1 = M ∧ u.2 0 = (sameAt M n (M (2 + x.toNatClampNeg) act)).toInt64) ∧ (¬ (if (isIn 4 x) = true then (if (!decide (n = 0)) = true then 0 else 2) else 1) = 0 → TX M u.1)) {v : Nat → Nat → Int32} (hv : v = wr R 0 0 (if isIn 4 x = true then (if n = 0 then nI 2 else nI 0) else nI 1)) : v 0 0 = nI (if (isIn 4 x) = true then (if (!decide (n = 0)) = true then 0 else 2) else 1) ∧ ((if (isIn 4 x) = true then (if (!decide (n = 0)) = true then 0 else 2) else 1) = 0 → u.2 0 = ((if isIn 4 x = true then (if n = 0 then nI 0 else decR R n act x.toNatClampNeg) else nI 0)).toInt64) ∧ SimE u.1 N v := by
  obtain ⟨hu0, hu1⟩ := hu
  subst hv
  by_cases h1 : isIn 4 x = true
  · obtain ⟨hx1, -⟩ := isIn_eq (by decide) h1
    by_cases h0 : n = 0
    · subst h0
      simp only [h1, decide_true, Bool.not_true, Bool.false_eq_true, if_false, if_true] at hu0 hu1 ⊢
      exact ⟨wr_same, fun h => absurd h (by decide), simQ hW hF (hu1 (by decide))⟩
    · simp only [h1, h0, decide_false, Bool.not_false, if_true, if_false] at hu0 hu1 ⊢
      obtain ⟨e1, e2⟩ := hu0 trivial
      refine ⟨wr_same, fun _ => ?_, simQ hW hF (TX_e e1)⟩
      rw [e2, dec_eq hW.2.2.2.2.1 hW.2.2.2.1 hx1 (hW.1.2.1 (by omega))]
  · rw [Bool.not_eq_true] at h1
    simp only [h1, if_false, Bool.false_eq_true] at hu0 hu1 ⊢
    exact ⟨wr_same, fun h => absurd h (by decide), simQ hW hF (hu1 (by decide))⟩

theorem op_where {M R : Nat → Nat → Int32} {N : Nat → Int64} {n act nf : Nat} {kd p1 p2 ns sb ag : Nat → Nat} (hW : SimW M R n act) (hF : SimF M N R nf kd p1 p2 ns sb ag) (x : Int32) {u : (Nat → Nat → Int32) × (Nat → Int64)} (hu : ((if (isIn nf x) = true then 0 else 1) = 0 → (∀ i x, ¬ (12 ≤ i ∧ i < 15) → u.1 i x = M i x) ∧ u.2 0 = (sem M n kd p1 p2 sb (sg n - nI 1) x.toNatClampNeg).toInt64) ∧ (¬ (if (isIn nf x) = true then 0 else 1) = 0 → TX M u.1)) {v : Nat → Nat → Int32} (hv : TQ (wr R 0 0 (if isIn nf x = true then nI 0 else nI 1)) v) : v 0 0 = nI (if (isIn nf x) = true then 0 else 1) ∧ ((if (isIn nf x) = true then 0 else 1) = 0 → u.2 0 = ((if isIn nf x = true then semR R n kd p1 p2 sb ag (sg n - nI 1) x.toNatClampNeg else nI 0)).toInt64) ∧ SimE u.1 N v := by
  obtain ⟨hu0, hu1⟩ := hu
  by_cases h1 : isIn nf x = true
  · obtain ⟨hx1, -⟩ := isIn_eq (by have := hF.1; omega) h1
    simp only [h1, if_true, Bool.true_and] at hu0 hu1 hv ⊢
    obtain ⟨e1, e2⟩ := hu0 trivial
    refine ⟨TQ_00 hv, fun _ => ?_, simTQ hW hF (TX_v e1) hv⟩
    rw [e2, sim_sem hW hF hx1]
  · rw [Bool.not_eq_true] at h1
    simp only [h1, if_false, Bool.false_eq_true, Bool.false_and] at hu0 hu1 hv ⊢
    exact ⟨TQ_00 hv, fun h => absurd h (by decide), simTQ hW hF (hu1 (by decide)) hv⟩

theorem op_holds {M R : Nat → Nat → Int32} {N : Nat → Int64} {n act nf : Nat} {kd p1 p2 ns sb ag : Nat → Nat} (hW : SimW M R n act) (hF : SimF M N R nf kd p1 p2 ns sb ag) (x : Int32) {u : (Nat → Nat → Int32) × (Nat → Int64)} (hu : ((if (isIn nf x) = true then (if (!decide (n = 0)) = true then 0 else 2) else 1) = 0 → (∀ i x, ¬ (12 ≤ i ∧ i < 15) → u.1 i x = M i x) ∧ u.2 0 = (if (bt (sem M n kd p1 p2 sb (sg n - nI 1) x.toNatClampNeg) act) = true then (1 : Int64) else 0)) ∧ (¬ (if (isIn nf x) = true then (if (!decide (n = 0)) = true then 0 else 2) else 1) = 0 → TX M u.1)) {v : Nat → Nat → Int32} (hv : TQ (wr R 0 0 (if isIn nf x = true then (if n = 0 then nI 2 else nI 0) else nI 1)) v) : v 0 0 = nI (if (isIn nf x) = true then (if (!decide (n = 0)) = true then 0 else 2) else 1) ∧ ((if (isIn nf x) = true then (if (!decide (n = 0)) = true then 0 else 2) else 1) = 0 → u.2 0 = (if (isIn nf x && !decide (n = 0) && bt (semR R n kd p1 p2 sb ag (sg n - nI 1) x.toNatClampNeg) act) = true then (1 : Int64) else 0)) ∧ SimE u.1 N v := by
  obtain ⟨hu0, hu1⟩ := hu
  by_cases h1 : isIn nf x = true
  · obtain ⟨hx1, -⟩ := isIn_eq (by have := hF.1; omega) h1
    simp only [h1, if_true, Bool.true_and] at hu0 hu1 hv ⊢
    by_cases h0 : n = 0
    · subst h0
      simp only [decide_true, Bool.not_true, Bool.false_eq_true, if_false, if_true] at hu0 hu1 hv ⊢
      exact ⟨TQ_00 hv, fun h => absurd h (by decide), simTQ hW hF (hu1 (by decide)) hv⟩
    · simp only [h0, decide_false, Bool.not_false, Bool.true_and, if_true, if_false] at hu0 hu1 hv ⊢
      obtain ⟨e1, e2⟩ := hu0 trivial
      refine ⟨TQ_00 hv, fun _ => ?_, simTQ hW hF (TX_v e1) hv⟩
      rw [e2, sim_sem hW hF hx1]
  · rw [Bool.not_eq_true] at h1
    simp only [h1, if_false, Bool.false_eq_true, Bool.false_and] at hu0 hu1 hv ⊢
    exact ⟨TQ_00 hv, fun h => absurd h (by decide), simTQ hW hF (hu1 (by decide)) hv⟩

theorem op_share {M R : Nat → Nat → Int32} {N : Nat → Int64} {n act nf : Nat} {kd p1 p2 ns sb ag : Nat → Nat} (hW : SimW M R n act) (hF : SimF M N R nf kd p1 p2 ns sb ag) (x : Int32) {u : (Nat → Nat → Int32) × (Nat → UInt64)} (hu : ((if (isIn nf x) = true then 0 else 1) = 0 → (∀ i x, ¬ (12 ≤ i ∧ i < 15) → u.1 i x = M i x) ∧ u.2 0 = (if n = 0 then FP.dconst0 else shv (fb_ct (bt (sem M n kd p1 p2 sb (sg n - nI 1) x.toNatClampNeg)) 32) n)) ∧ (¬ (if (isIn nf x) = true then 0 else 1) = 0 → TX M u.1)) {v : Nat → Nat → Int32} (hv : TQ (wr R 0 0 (if isIn nf x = true then nI 0 else nI 1)) v) : v 0 0 = nI (if (isIn nf x) = true then 0 else 1) ∧ ((if (isIn nf x) = true then 0 else 1) = 0 → u.2 0 = (if isIn nf x = true then (if n = 0 then FP.dconst0 else shv (fb_ct (bt (semR R n kd p1 p2 sb ag (sg n - nI 1) x.toNatClampNeg)) 32) n) else FP.dconst0) ∧ FP.dcmp (u.2 0) (u.2 0) = some .eq) ∧ SimE u.1 N v := by
  obtain ⟨hu0, hu1⟩ := hu
  by_cases h1 : isIn nf x = true
  · obtain ⟨hx1, -⟩ := isIn_eq (by have := hF.1; omega) h1
    simp only [h1, if_true, Bool.true_and] at hu0 hu1 hv ⊢
    obtain ⟨e1, e2⟩ := hu0 trivial
    refine ⟨TQ_00 hv, fun _ => ⟨?_, ?_⟩, simTQ hW hF (TX_v e1) hv⟩
    · rw [e2, sim_sem hW hF hx1]
    · rw [e2]
      by_cases h0 : n = 0
      · rw [if_pos h0]; exact sh_0
      · rw [if_neg h0]; exact sh_cmp _ (Nat.lt_succ_of_le (fb_ct_le _ 32)) _ (by have := hW.1.1; omega) (by omega)
  · rw [Bool.not_eq_true] at h1
    simp only [h1, if_false, Bool.false_eq_true, Bool.false_and] at hu0 hu1 hv ⊢
    exact ⟨TQ_00 hv, fun h => absurd h (by decide), simTQ hW hF (hu1 (by decide)) hv⟩

