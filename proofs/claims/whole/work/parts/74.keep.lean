/-! Worlds kept and copied, arrows cut. -/
theorem ct32 {set : Int32} {n : Nat} (hn : n ≤ 32) (hs : ∀ j, bt set j = true → j < n) : fb_ct (bt set) 32 = rk set n := by
  have h := fb_ct_split (bt set) n (32 - n)
  rw [show n + (32 - n) = 32 by omega] at h
  have hz : fb_ct (fun k => bt set (n + k)) (32 - n) = 0 := fb_ct_zero.mpr (fun k _ => by
    cases hb : bt set (n + k) with
    | false => rfl
    | true => exact absurd (hs _ hb) (by omega))
  rw [h, hz]
  rfl
theorem ren_i {x k : Int32} {j : Nat} : bt (renum x k) j = true ↔ ∃ w, w < 24 ∧ bt (x &&& k) w = true ∧ j = rk k w := fo_im (P := fun w => bt (x &&& k) w) (c := fun w => rk k w) (fun w hw => by have := rk_le k w; omega)
theorem renR_i {x k : Int32} {n j : Nat} (hn : n ≤ 24) : bt (renR n k x) j = true ↔ ∃ w, w < n ∧ bt (x &&& k) w = true ∧ j = rk k w := fo_im (P := fun w => bt (x &&& k) w) (c := fun w => rk k w) (fun w hw => by have := rk_le k w; omega)
theorem ren_eq {x k : Int32} {n : Nat} (hn : n ≤ 24) (hx : ∀ j, bt x j = true → j < n) : renum x k = renR n k x := by
  refine b_exi (fun j _ => ?_)
  rw [ren_i, renR_i hn]
  constructor
  · rintro ⟨w, hw, h1, h2⟩; exact ⟨w, hx w (b_and_i.mp h1).1, h1, h2⟩
  · rintro ⟨w, hw, h1, h2⟩; exact ⟨w, by omega, h1, h2⟩
theorem kth {set : Int32} {n q : Nat} (h : q < rk set n) : ∃ w, w < n ∧ bt set w = true ∧ rk set w = q := fb_ct_kth h
theorem keep_u {M u : Nat → Nat → Int32} {n act : Nat} {set : Int32} (h : KeepF M n act set u) : (∀ i x, (6 ≤ i ∨ i = 0 ∧ x = 2) → u i x = M i x) ∧ u 0 0 = nI (rk set n) ∧ u 0 1 = nI (rk set act) ∧ (∀ w, w < n → bt set w = true → u 1 (rk set w) = M 1 w ∧ ∀ i, i < 4 → u (2 + i) (rk set w) = renum (M (2 + i) w) set) ∧ ∀ i, i < 4 → ∀ q, rk set n ≤ q → u (2 + i) q = (if q < n then nI 0 else M (2 + i) q) := by
  obtain ⟨v, ⟨h1, h2⟩, rfl⟩ := h
  have sh : ∀ i x, ¬ (i = 0 ∧ x = 0) → ¬ (i = 0 ∧ x = 1) → ¬ ((1 ≤ i ∧ i < 6) ∧ rk set n ≤ x ∧ x < n) → shrZ (wr v 0 1 (nI (rk set act))) (rk set n) n i x = v i x := fun i x g1 g2 g3 => by
    unfold shrZ
    rw [wr_ne (by omega)]
    unfold shrA
    rw [if_neg g3, wr_ne (by omega)]
  refine ⟨fun i x hi => by rw [sh i x (by omega) (by omega) (by omega)]; exact h2 i x (by omega), wr_same, ?_, fun w hw hb => ?_, fun i hi q hq => ?_⟩
  · unfold shrZ
    rw [wr_ne (by decide)]
    unfold shrA
    rw [if_neg (by omega)]
    exact wr_same
  · have hl := rk_lt hw hb
    obtain ⟨g1, g2⟩ := h1 w hw hb
    exact ⟨by rw [sh 1 _ (by omega) (by omega) (by omega)]; exact g1, fun i hi => by rw [sh (2 + i) _ (by omega) (by omega) (by omega)]; exact g2 i hi⟩
  · by_cases e : q < n
    · rw [if_pos e]
      unfold shrZ
      rw [wr_ne (by omega)]
      unfold shrA
      rw [if_pos (by omega)]
    · rw [if_neg e, sh (2 + i) q (by omega) (by omega) (by omega)]
      exact h2 (2 + i) q (Or.inr hq)
theorem keep_v {R v : Nat → Nat → Int32} {n act : Nat} {set : Int32} (hn0 : 0 < n) (h : KeepRF R n act set v) : (∀ i x, (3 ≤ i ∨ i = 0 ∧ (x = 3 ∨ x = 0)) → v i x = R i x) ∧ v 0 1 = nI (rk set n) ∧ v 0 2 = nI (rk set act) ∧ (∀ w, w < n → bt set w = true → v 1 (rk set w) = R 1 w ∧ ∀ i, i < 4 → v 2 (24 * i + rk set w) = renR n set (R 2 (24 * i + w))) := by
  obtain ⟨w, ⟨h1, h2, -, -⟩, rfl⟩ := h
  rw [if_neg (show ¬ n = 0 by omega)]
  refine ⟨fun i x hi => by rw [wr_ne (by omega), wr_ne (by omega)]; exact h2 i x (by omega) (by omega), wr_same, by rw [wr_ne (by decide)]; exact wr_same, fun w' hw hb => ?_⟩
  obtain ⟨g1, g2⟩ := h1 w' hw hb
  exact ⟨by rw [wr_ne (by omega), wr_ne (by omega)]; exact g1, fun i hi => by rw [wr_ne (by omega), wr_ne (by omega)]; exact g2 i hi⟩
theorem keep_W {M R u v : Nat → Nat → Int32} {n act : Nat} {set : Int32} (hW : SimW M R n act) (hn0 : 0 < n) (hu : KeepF M n act set u) (hv : KeepRF R n act set v) (hs : ∀ j, bt set j = true → j < n) (ha : bt set act = true) : SimW u v (rk set n) (rk set act) := by
  obtain ⟨h0, ⟨a1, a2⟩, ⟨b1, b2⟩, hat, hA, hB, hZ⟩ := hW
  obtain ⟨-, u2, u3, u4, u5⟩ := keep_u hu
  obtain ⟨-, v2, v3, v4⟩ := keep_v hn0 hv
  have hrn := rk_le set n
  have hra := rk_lt (hs act ha) ha
  refine ⟨⟨by omega, fun _ => hra, fun h => absurd hra (by omega)⟩, ⟨u2, u3⟩, ⟨v2, v3⟩, fun q hq => ?_, fun i hi q hq => ?_, fun i hi q hq j hj => ?_, fun i hi q g1 g2 => ?_⟩
  · obtain ⟨w, hw, hb, rfl⟩ := kth hq
    rw [(v4 w hw hb).1, (u4 w hw hb).1]; exact hat w hw
  · obtain ⟨w, hw, hb, rfl⟩ := kth hq
    rw [(v4 w hw hb).2 i hi, (u4 w hw hb).2 i hi, hA i hi w hw, ren_eq h0.1 (hB i hi w hw)]
  · obtain ⟨w, hw, hb, rfl⟩ := kth hq
    rw [(u4 w hw hb).2 i hi] at hj
    obtain ⟨y, -, h2, rfl⟩ := ren_i.mp hj
    have hy := (b_and_i.mp h2).2
    exact rk_lt (hs y hy) hy
  · rw [u5 i hi q g1]
    split
    · rfl
    · exact hZ i hi q (by omega) g2
theorem gone_and (set x : Int32) (w : Nat) : x &&& (goneR set w x ^^^ (-1)) = x &&& side set w := by
  refine b_exi (fun j hj => ?_)
  unfold goneR side
  rw [b_and_i, b_and_i, b_not_i hj, b_and_i]
  by_cases h : bt set w = true
  · rw [if_pos h, if_pos h, b_not_i hj]
    constructor
    · rintro ⟨h1, h2⟩; exact ⟨h1, Classical.byContradiction (fun q => h2 ⟨h1, q⟩)⟩
    · rintro ⟨h1, h2⟩; exact ⟨h1, fun q => q.2 h2⟩
  · rw [if_neg h, if_neg h, b_not_i hj]
    constructor
    · rintro ⟨h1, h2⟩; exact ⟨h1, fun q => h2 ⟨h1, q⟩⟩
    · rintro ⟨h1, h2⟩; exact ⟨h1, fun q => h2 q.2⟩
theorem gone_cut (set x : Int32) (w : Nat) : x &&& (side set w ^^^ (-1)) = goneR set w x := by
  refine b_exi (fun j hj => ?_)
  unfold goneR side
  rw [b_and_i, b_and_i, b_not_i hj]
  by_cases h : bt set w = true
  · rw [if_pos h, if_pos h, b_not_i hj]
  · rw [if_neg h, if_neg h, b_not_i hj, Classical.not_not]
theorem cut_eq {M R : Nat → Nat → Int32} {n : Nat} (hA : Ar M R n) {g set : Int32} : cutN M g set n 4 = telN R g set n 4 := by
  unfold cutN telN
  refine fo_cong (fun i hi r => ?_)
  have : cutI M set i r n = telI R set i r n := by
    unfold cutI telI
    exact fo_cong (fun w hw r => by rw [gone_cut, hA i hi w hw])
  rw [this]
theorem cut_W {M R : Nat → Nat → Int32} {n act : Nat} {g set : Int32} (hW : SimW M R n act) : SimW (cutC M g set n 4 0) (telC R g set n 4 0) n act := by
  obtain ⟨h0, ⟨a1, a2⟩, ⟨b1, b2⟩, hat, hA, hB, hZ⟩ := hW
  have co : ∀ i w, i < 2 → cutC M g set n 4 0 i w = M i w := fun i w h => if_neg (by omega)
  refine ⟨⟨h0.1, h0.2.1, fun h => ⟨(h0.2.2 h).1, (show cutC M g set n 4 0 15 0 = M 15 0 from if_neg (by omega)).trans (h0.2.2 h).2⟩⟩, ⟨(co 0 0 (by omega)).trans a1, (co 0 1 (by omega)).trans a2⟩, ⟨(telC_o (by decide)).trans b1, (telC_o (by decide)).trans b2⟩, fun w hw => ?_, fun i hi w hw => ?_, fun i hi w hw j hj => ?_, fun i hi w g1 g2 => ?_⟩
  · rw [telC_o (by decide), co 1 w (by omega)]; exact hat w hw
  · unfold cutC telC
    rw [show (24 * i + w) / 24 = i by omega, show (24 * i + w) % 24 = w by omega, show 2 + i - 2 = i by omega, hA i hi w hw]
    by_cases h : bt g i = true
    · rw [if_pos ⟨⟨rfl, h⟩, by omega⟩, if_pos ⟨⟨by omega, by omega, h⟩, by omega⟩, gone_and]
    · rw [if_neg (fun q => h q.1.2), if_neg (fun q => h q.1.2.2)]
  · unfold cutC at hj
    split at hj
    · exact hB i hi w hw j (b_and_i.mp hj).1
    · exact hB i hi w hw j hj
  · unfold cutC
    rw [if_neg (by omega)]; exact hZ i hi w g1 g2
theorem sim_TV {M R w v : Nat → Nat → Int32} {n act : Nat} {z : Int32} (hW : SimW M R n act) (hu : ∀ i x, ¬ (12 ≤ i ∧ i < 15) → w i x = M i x) (hv : TQ (wr R 0 0 z) v) : SimW w v n act := SimW_m hW (fun i x hi _ => hu i x (by omega)) (fun i x hi h => (hv i x (by omega)).trans (wr_ne (by omega))) (fun _ => hu 15 0 (by omega))
theorem keepE {M R w u z v : Nat → Nat → Int32} {N : Nat → Int64} {n act nf : Nat} {kd p1 p2 ns sb ag : Nat → Nat} {set : Int32} (hW : SimW w z n act) (hF : SimF M N R nf kd p1 p2 ns sb ag) (hw : ∀ i x, ¬ (12 ≤ i ∧ i < 21) → w i x = M i x) (hz : ∀ i x, (3 ≤ i ∧ i < 8 ∨ i = 0 ∧ x = 3) → z i x = R i x) (hn0 : 0 < n) (hu : KeepF w n act set u) (hv : KeepRF z n act set v) (hs : ∀ j, bt set j = true → j < n) (ha : bt set act = true) : SimE u N v :=
  simC (n := n) (act := act) (keep_W hW hn0 hu hv hs ha) hF (fun i x h => ((keep_u hu).1 i x (by omega)).trans (hw i x (by omega))) (fun i x h => ((keep_v hn0 hv).1 i x (by omega)).trans (hz i x h))
theorem copy_bits {x c : Int32} {n : Nat} (hn : n ≤ 24) (hr : n + rk c n ≤ 24) (hx : ∀ j, bt x j = true → j < n) : renum x c <<< (nI n &&& 31) = fo (fun v r => if bt (c &&& x) v then r ||| sg (n + rk c v) else r) (nI 0) n := by
  refine b_exi (fun j hj => ?_)
  have hmono : ∀ v, v < n → rk c v ≤ rk c n := fun v hv => rk_mono (by omega)
  rw [b_shl n (by omega) _ hj, Bool.and_eq_true, decide_eq_true_eq, ren_i, fo_im (P := fun v => bt (c &&& x) v) (c := fun v => n + rk c v) (fun w hw => by have := hmono w hw; omega)]
  constructor
  · rintro ⟨h1, w, hw, h2, h3⟩
    obtain ⟨h4, h5⟩ := b_and_i.mp h2
    exact ⟨w, hx w h4, b_and_i.mpr ⟨h5, h4⟩, by omega⟩
  · rintro ⟨w, hw, h2, h3⟩
    obtain ⟨h4, h5⟩ := b_and_i.mp h2
    exact ⟨by omega, w, by omega, b_and_i.mpr ⟨h5, h4⟩, by omega⟩
theorem copy_W {M R u v v1 : Nat → Nat → Int32} {n act : Nat} {g c : Int32} (hW : SimW M R n act) (hu : CopyF M n act g c u) (hv1 : CRr R g c n n v1) (hv : v = wr (wr v1 0 2 (nI (n + rk c act))) 0 1 (nI (n + rk c n))) (hs : ∀ j, bt c j = true → j < n) (ha : bt c act = true) (hr : n + rk c n ≤ 24) : SimW u v (n + rk c n) (n + rk c act) := by
  obtain ⟨h0, ⟨a1, a2⟩, ⟨b1, b2⟩, hat, hA, hB, hZ⟩ := hW
  obtain ⟨u0, ⟨u1, u2, u3⟩, rfl⟩ := hu
  obtain ⟨r1, r2, r3, r4⟩ := hv1
  have hra := rk_lt (hs act ha) ha
  have ve : ∀ i x, i ≠ 0 → v i x = v1 i x := fun i x hi => by rw [hv, wr_ne (by omega), wr_ne (by omega)]
  have ue : ∀ i x, i ≠ 0 → wr u0 0 1 (nI (n + rk c act)) i x = u0 i x := fun i x hi => wr_ne (by omega)
  have split : ∀ q, q < n + rk c n → q < n ∨ ∃ w, w < n ∧ bt c w = true ∧ q = n + rk c w := fun q hq => by
    by_cases h : q < n
    · exact Or.inl h
    · obtain ⟨w, hw, hb, e⟩ := kth (show q - n < rk c n by omega)
      exact Or.inr ⟨w, hw, hb, by omega⟩
  have hcv : ∀ i, i < 4 → ∀ w, w < n → cpv M n g c i w = cpvR R g c n i w := fun i hi w hw => by
    unfold cpv cpvR
    rw [hA i hi w hw]
    split
    · exact copy_bits h0.1 hr (hB i hi w hw)
    · rfl
  refine ⟨⟨hr, fun _ => by omega, fun h => absurd hra (by omega)⟩, ⟨(wr_ne (by decide)).trans u1, wr_same⟩, ⟨by rw [hv]; exact wr_same, by rw [hv, wr_ne (by decide)]; exact wr_same⟩, fun q hq => ?_, fun i hi q hq => ?_, fun i hi q hq j hj => ?_, fun i hi q g1 g2 => ?_⟩
  · rw [ve 1 q (by decide), ue 1 q (by decide)]
    rcases split q hq with h | ⟨w, hw, hb, rfl⟩
    · rw [r3 q (Or.inl h), u3 1 q (by omega) (Or.inr (Or.inl h))]; exact hat q h
    · rw [(r1 w hw hb).1, (u2 w hw hb).1]; exact hat w hw
  · rw [ve 2 _ (by decide), ue (2 + i) q (by omega)]
    rcases split q hq with h | ⟨w, hw, hb, rfl⟩
    · rw [r4 i q hi (by omega) (Or.inl h), u3 (2 + i) q (by omega) (Or.inr (Or.inl h))]; exact hA i hi q h
    · rw [(r1 w hw hb).2 i hi, (u2 w hw hb).2 i hi, hcv i hi w hw]
  · rw [ue (2 + i) q (by omega)] at hj
    rcases split q hq with h | ⟨w, hw, hb, rfl⟩
    · rw [u3 (2 + i) q (by omega) (Or.inr (Or.inl h))] at hj
      have := hB i hi q h j hj; omega
    · rw [(u2 w hw hb).2 i hi, hcv i hi w hw] at hj
      unfold cpvR at hj
      split at hj
      · rw [fo_im (P := fun v => bt (c &&& R 2 (24 * i + w)) v) (c := fun v => n + rk c v) (fun w hw => by have := rk_mono (kept := c) (show w ≤ n by omega); omega)] at hj
        obtain ⟨y, hy, h1, rfl⟩ := hj
        have := rk_lt hy (b_and_i.mp h1).1
        omega
      · rw [hA i hi w hw] at hj
        have := hB i hi w hw j hj; omega
  · rw [ue (2 + i) q (by omega), u3 (2 + i) q (by omega) (Or.inr (Or.inr g1))]
    exact hZ i hi q (by omega) g2

theorem op_tell {M R : Nat → Nat → Int32} {N : Nat → Int64} {n act nf : Nat} {kd p1 p2 ns sb ag : Nat → Nat} (hW : SimW M R n act) (hF : SimF M N R nf kd p1 p2 ns sb ag) (g : Int32) (y : Int32) {u : (Nat → Nat → Int32) × (Nat → Int64)} (hu : ((if (isIn nf y) = true then (if (isGr g) = true then 0 else 2) else 1) = 0 → (∃ v, (∀ i x, ¬ (12 ≤ i ∧ i < 15) → v i x = M i x) ∧ u.1 = cutC v g (sem M n kd p1 p2 sb (sg n - nI 1) y.toNatClampNeg) n 4 0) ∧ u.2 0 = (cutN M g (sem M n kd p1 p2 sb (sg n - nI 1) y.toNatClampNeg) n 4).toInt64) ∧ (¬ (if (isIn nf y) = true then (if (isGr g) = true then 0 else 2) else 1) = 0 → TX M u.1)) {v : Nat → Nat → Int32} (hv : (if isIn nf y = true then (if isGr g = true then (∃ v9, TQ (wr R 0 0 (nI 0)) v9 ∧ v = telC v9 g (semR R n kd p1 p2 sb ag (sg n - nI 1) y.toNatClampNeg) n 4 0) else v = wr R 0 0 (nI 2)) else v = wr R 0 0 (nI 1))) : v 0 0 = nI (if (isIn nf y) = true then (if (isGr g) = true then 0 else 2) else 1) ∧ ((if (isIn nf y) = true then (if (isGr g) = true then 0 else 2) else 1) = 0 → u.2 0 = ((if isIn nf y = true then (if isGr g = true then telN R g (semR R n kd p1 p2 sb ag (sg n - nI 1) y.toNatClampNeg) n 4 else nI 0) else nI 0)).toInt64) ∧ SimE u.1 N v := by
  obtain ⟨hu0, hu1⟩ := hu
  by_cases h1 : isIn nf y = true
  · obtain ⟨hy1, -⟩ := isIn_eq (by have := hF.1; omega) h1
    rw [sim_sem hW hF hy1] at hu0
    by_cases h2 : isGr g = true
    · simp only [h1, h2, if_true] at hu0 hu1 hv ⊢
      obtain ⟨⟨w, e0, e1⟩, e2⟩ := hu0 trivial
      obtain ⟨z, z1, z2⟩ := hv
      refine ⟨by rw [z2, telC_o (by decide)]; exact TQ_00 z1, fun _ => by rw [e2, cut_eq hW.2.2.2.2.1], ?_⟩
      rw [e1, z2]
      exact simC (n := n) (act := act) (cut_W (sim_TV hW e0 z1)) hF (fun i x h => (show cutC w g _ n 4 0 i x = w i x from if_neg (by omega)).trans (e0 i x (by omega))) (fun i x h => (telC_o (by omega)).trans ((z1 i x (by omega)).trans (wr_ne (by omega))))
    · rw [Bool.not_eq_true] at h2
      simp only [h1, h2, if_true, if_false, Bool.false_eq_true] at hu0 hu1 hv ⊢
      subst hv
      exact ⟨wr_same, fun h => absurd h (by decide), simQ hW hF (hu1 (by decide))⟩
  · rw [Bool.not_eq_true] at h1
    simp only [h1, if_false, Bool.false_eq_true] at hu0 hu1 hv ⊢
    subst hv
    exact ⟨wr_same, fun h => absurd h (by decide), simQ hW hF (hu1 (by decide))⟩

theorem op_announce {M R : Nat → Nat → Int32} {N : Nat → Int64} {n act nf : Nat} {kd p1 p2 ns sb ag : Nat → Nat} (hW : SimW M R n act) (hF : SimF M N R nf kd p1 p2 ns sb ag) (x : Int32) {u : (Nat → Nat → Int32) × (Nat → Int64)} (hu : ((if (isIn nf x) = true then (if (!decide (n = 0) && bt (sem M n kd p1 p2 sb (sg n - nI 1) x.toNatClampNeg) act) = true then 0 else 2) else 1) = 0 → (∃ v, (∀ i x, ¬ (12 ≤ i ∧ i < 15) → v i x = M i x) ∧ KeepF v n act (sem M n kd p1 p2 sb (sg n - nI 1) x.toNatClampNeg) u.1) ∧ u.2 0 = ((nI n - bc (sem M n kd p1 p2 sb (sg n - nI 1) x.toNatClampNeg))).toInt64) ∧ (¬ (if (isIn nf x) = true then (if (!decide (n = 0) && bt (sem M n kd p1 p2 sb (sg n - nI 1) x.toNatClampNeg) act) = true then 0 else 2) else 1) = 0 → TX M u.1)) {v : Nat → Nat → Int32} (hv : (if isIn nf x = true then annF R n act (semR R n kd p1 p2 sb ag (sg n - nI 1) x.toNatClampNeg) v else v = wr R 0 0 (nI 1))) : v 0 0 = nI (if (isIn nf x) = true then (if (!decide (n = 0) && bt (sem M n kd p1 p2 sb (sg n - nI 1) x.toNatClampNeg) act) = true then 0 else 2) else 1) ∧ ((if (isIn nf x) = true then (if (!decide (n = 0) && bt (sem M n kd p1 p2 sb (sg n - nI 1) x.toNatClampNeg) act) = true then 0 else 2) else 1) = 0 → u.2 0 = ((if isIn nf x = true then (if n = 0 ∨ bt (semR R n kd p1 p2 sb ag (sg n - nI 1) x.toNatClampNeg) act = false then nI 0 else nI n - nI (rk (semR R n kd p1 p2 sb ag (sg n - nI 1) x.toNatClampNeg) n)) else nI 0)).toInt64) ∧ SimE u.1 N v := by
  obtain ⟨hu0, hu1⟩ := hu
  by_cases h1 : isIn nf x = true
  · obtain ⟨hx1, -⟩ := isIn_eq (by have := hF.1; omega) h1
    have hsub : ∀ j, bt (semR R n kd p1 p2 sb ag (sg n - nI 1) x.toNatClampNeg) j = true → j < n := fun j hj => by rw [← sim_sem hW hF hx1] at hj; exact sem_all hW.1.1 hj
    rw [sim_sem hW hF hx1] at hu0 hu1 ⊢
    obtain ⟨set, hset⟩ : ∃ z, z = semR R n kd p1 p2 sb ag (sg n - nI 1) x.toNatClampNeg := ⟨_, rfl⟩
    rw [← hset] at hu0 hu1 hv hsub ⊢
    simp only [h1, if_true] at hu0 hu1 hv ⊢
    by_cases h2 : n = 0 ∨ bt set act = false
    · have hc : (!decide (n = 0) && bt set act) = false := by
        rcases h2 with h | h
        · rw [decide_eq_true h]; rfl
        · rw [h, Bool.and_false]
      unfold annF at hv
      rw [if_pos h2] at hv
      simp only [hc, if_false, Bool.false_eq_true] at hu0 hu1 ⊢
      exact ⟨TQ_00 hv, fun h => absurd h (by decide), simTQ hW hF (hu1 (by decide)) hv⟩
    · have h3 : ¬ n = 0 := fun q => h2 (Or.inl q)
      have h4 : bt set act = true := by
        cases hb : bt set act with
        | true => rfl
        | false => exact absurd (Or.inr hb) h2
      have hc : (!decide (n = 0) && bt set act) = true := by rw [decide_eq_false h3, h4]; rfl
      unfold annF at hv
      rw [if_neg h2] at hv ⊢
      simp only [hc, if_true] at hu0 hu1 ⊢
      obtain ⟨⟨w, e0, e1⟩, e2⟩ := hu0 trivial
      obtain ⟨z, z1, z2⟩ := hv
      refine ⟨((keep_v (by omega) z2).1 0 0 (by omega)).trans (TQ_00 z1), fun _ => by rw [e2, bc_ct, ct32 (by have := hW.1.1; omega) hsub], ?_⟩
      exact keepE (sim_TV hW e0 z1) hF (fun i x h => e0 i x (by omega)) (fun i x h => (z1 i x (by omega)).trans (wr_ne (by omega))) (by omega) e1 z2 hsub h4
  · rw [Bool.not_eq_true] at h1
    simp only [h1, if_false, Bool.false_eq_true] at hu0 hu1 hv ⊢
    subst hv
    exact ⟨wr_same, fun h => absurd h (by decide), simQ hW hF (hu1 (by decide))⟩

theorem op_whisper {M R : Nat → Nat → Int32} {N : Nat → Int64} {n act nf : Nat} {kd p1 p2 ns sb ag : Nat → Nat} (hW : SimW M R n act) (hF : SimF M N R nf kd p1 p2 ns sb ag) (g : Int32) (y : Int32) {u : (Nat → Nat → Int32) × (Nat → Int64)} (hu : ((if (isIn nf y) = true then (if (isGr g) = true then (if (!decide (n = 0) && bt (sem M n kd p1 p2 sb (sg n - nI 1) y.toNatClampNeg) act) = true then (if (decide (n + fb_ct (bt (sem M n kd p1 p2 sb (sg n - nI 1) y.toNatClampNeg)) 32 ≤ 24)) = true then 0 else 3) else 3) else 2) else 1) = 0 → (∃ v, (∀ i x, ¬ (12 ≤ i ∧ i < 15) → v i x = M i x) ∧ CopyF v n act g (sem M n kd p1 p2 sb (sg n - nI 1) y.toNatClampNeg) u.1) ∧ u.2 0 = (nI (n + rk (sem M n kd p1 p2 sb (sg n - nI 1) y.toNatClampNeg) n)).toInt64) ∧ (¬ (if (isIn nf y) = true then (if (isGr g) = true then (if (!decide (n = 0) && bt (sem M n kd p1 p2 sb (sg n - nI 1) y.toNatClampNeg) act) = true then (if (decide (n + fb_ct (bt (sem M n kd p1 p2 sb (sg n - nI 1) y.toNatClampNeg)) 32 ≤ 24)) = true then 0 else 3) else 3) else 2) else 1) = 0 → TX M u.1)) {v : Nat → Nat → Int32} (hv : (if isIn nf y = true then (if isGr g = true then whiF R n act g (semR R n kd p1 p2 sb ag (sg n - nI 1) y.toNatClampNeg) v else v = wr R 0 0 (nI 2)) else v = wr R 0 0 (nI 1))) : v 0 0 = nI (if (isIn nf y) = true then (if (isGr g) = true then (if (!decide (n = 0) && bt (sem M n kd p1 p2 sb (sg n - nI 1) y.toNatClampNeg) act) = true then (if (decide (n + fb_ct (bt (sem M n kd p1 p2 sb (sg n - nI 1) y.toNatClampNeg)) 32 ≤ 24)) = true then 0 else 3) else 3) else 2) else 1) ∧ ((if (isIn nf y) = true then (if (isGr g) = true then (if (!decide (n = 0) && bt (sem M n kd p1 p2 sb (sg n - nI 1) y.toNatClampNeg) act) = true then (if (decide (n + fb_ct (bt (sem M n kd p1 p2 sb (sg n - nI 1) y.toNatClampNeg)) 32 ≤ 24)) = true then 0 else 3) else 3) else 2) else 1) = 0 → u.2 0 = ((if isIn nf y = true then (if isGr g = true then (if n = 0 ∨ bt (semR R n kd p1 p2 sb ag (sg n - nI 1) y.toNatClampNeg) act = false ∨ 24 < n + fb_ct (bt (semR R n kd p1 p2 sb ag (sg n - nI 1) y.toNatClampNeg)) 32 then nI 0 else nI (n + rk (semR R n kd p1 p2 sb ag (sg n - nI 1) y.toNatClampNeg) n)) else nI 0) else nI 0)).toInt64) ∧ SimE u.1 N v := by
  obtain ⟨hu0, hu1⟩ := hu
  by_cases h1 : isIn nf y = true
  · obtain ⟨hy1, -⟩ := isIn_eq (by have := hF.1; omega) h1
    have hsub : ∀ j, bt (semR R n kd p1 p2 sb ag (sg n - nI 1) y.toNatClampNeg) j = true → j < n := fun j hj => by rw [← sim_sem hW hF hy1] at hj; exact sem_all hW.1.1 hj
    rw [sim_sem hW hF hy1] at hu0 hu1 ⊢
    obtain ⟨set, hset⟩ : ∃ z, z = semR R n kd p1 p2 sb ag (sg n - nI 1) y.toNatClampNeg := ⟨_, rfl⟩
    rw [← hset] at hu0 hu1 hv hsub ⊢
    by_cases h2 : isGr g = true
    · simp only [h1, h2, if_true] at hu0 hu1 hv ⊢
      have hct := ct32 (n := n) (by have := hW.1.1; omega) hsub
      by_cases h3 : n = 0 ∨ bt set act = false ∨ 24 < n + fb_ct (bt set) 32
      · have hc : (if (!decide (n = 0) && bt set act) = true then (if decide (n + fb_ct (bt set) 32 ≤ 24) = true then 0 else 3) else 3) = 3 := by
          rcases h3 with h | h | h
          · rw [decide_eq_true h]; rfl
          · rw [h, Bool.and_false]; rfl
          · rw [decide_eq_false (show ¬ n + fb_ct (bt set) 32 ≤ 24 by omega)]; split <;> rfl
        rw [hc] at hu0 hu1 ⊢
        have hv1 := hv.1 h3
        exact ⟨TQ_00 hv1, fun h => absurd h (by decide), simTQ hW hF (hu1 (by decide)) hv1⟩
      · have g1 : ¬ n = 0 := fun q => h3 (Or.inl q)
        have g2 : bt set act = true := by
          cases hb : bt set act with
          | true => rfl
          | false => exact absurd (Or.inr (Or.inl hb)) h3
        have g3 : n + fb_ct (bt set) 32 ≤ 24 := Nat.not_lt.mp (fun q => h3 (Or.inr (Or.inr q)))
        have hc : (if (!decide (n = 0) && bt set act) = true then (if decide (n + fb_ct (bt set) 32 ≤ 24) = true then 0 else 3) else 3) = 0 := by
          rw [decide_eq_false g1, g2, decide_eq_true g3]; rfl
        rw [hc] at hu0 hu1 ⊢
        rw [if_neg h3]
        obtain ⟨⟨w, e0, e1⟩, e2⟩ := hu0 rfl
        obtain ⟨v0, v1, z1, z2, z3⟩ := hv.2 h3
        refine ⟨by rw [z3, wr_ne (by decide), wr_ne (by decide), z2.2.1 0 0 (by decide) (by decide)]; exact TQ_00 z1, fun _ => e2, ?_⟩
        refine simC (n := n) (act := act) (copy_W (sim_TV hW e0 z1) e1 z2 z3 hsub g2 (by omega)) hF (fun i x h => ?_) (fun i x h => ?_)
        · obtain ⟨u0, ⟨-, -, u3⟩, e3⟩ := e1
          rw [e3, wr_ne (by omega), u3 i x (by omega) (by omega)]; exact e0 i x (by omega)
        · rw [z3, wr_ne (by omega), wr_ne (by omega), z2.2.1 i x (by omega) (by omega), z1 i x (by omega)]; exact wr_ne (by omega)
    · rw [Bool.not_eq_true] at h2
      simp only [h1, h2, if_true, if_false, Bool.false_eq_true] at hu0 hu1 hv ⊢
      subst hv
      exact ⟨wr_same, fun h => absurd h (by decide), simQ hW hF (hu1 (by decide))⟩
  · rw [Bool.not_eq_true] at h1
    simp only [h1, if_false, Bool.false_eq_true] at hu0 hu1 hv ⊢
    subst hv
    exact ⟨wr_same, fun h => absurd h (by decide), simQ hW hF (hu1 (by decide))⟩

theorem op_prune {M R : Nat → Nat → Int32} {N : Nat → Int64} {n act nf : Nat} {kd p1 p2 ns sb ag : Nat → Nat} (hW : SimW M R n act) (hF : SimF M N R nf kd p1 p2 ns sb ag) {u v : Nat → Nat → Int32} (hu : (if n = 0 then u = M else KeepF M n act (reachF M n (nI 15) act ||| sg act) u)) (hv : (if n = 0 then v = wr R 0 0 (nI 0) else KeepRF (wr R 0 0 (nI 0)) n act (sg act ||| reachR R n (nI 15) act (sg n - nI 1)) v)) : (if n = 0 then nI 0 else nI n - bc (reachF M n (nI 15) act ||| sg act)) = (if n = 0 then nI 0 else nI n - nI (rk (sg act ||| reachR R n (nI 15) act (sg n - nI 1)) n)) ∧ SimE u N v := by
  by_cases h0 : n = 0
  · rw [if_pos h0] at hu hv
    rw [if_pos h0, if_pos h0]
    subst hv
    exact ⟨rfl, simQ hW hF (TX_e hu)⟩
  · rw [if_neg h0] at hu hv
    rw [if_neg h0, if_neg h0]
    have hact := hW.1.2.1 (by omega)
    have hs : (reachF M n (nI 15) act ||| sg act) = (sg act ||| reachR R n (nI 15) act (sg n - nI 1)) := by
      rw [reachF_eq hW.2.2.2.2.1 hW.2.2.2.2.2.1 hW.1.1 hact]
      refine b_exi (fun j _ => ?_)
      rw [b_or_i, b_or_i]; exact or_comm
    have hn := hW.1.1
    have hsub : ∀ j, bt (sg act ||| reachR R n (nI 15) act (sg n - nI 1)) j = true → j < n := fun j hj => by
      rcases b_or_i.mp hj with h | h
      · have := (b_sg_i (by omega)).mp h; omega
      · exact (b_all_i (by omega)).mp (reach_in hW.2.2.2.2.1 hact hn h)
    rw [hs] at hu ⊢
    refine ⟨by rw [bc_ct, ct32 (by omega) hsub], ?_⟩
    exact keepE (SimW_m hW (fun i x _ _ => rfl) (fun i x hi h => wr_ne (by omega)) (fun _ => rfl) : SimW M (wr R 0 0 (nI 0)) n act) hF (fun i x _ => rfl) (fun i x h => wr_ne (by omega)) (by omega) hu hv hsub (b_or_i.mpr (Or.inl ((b_sg_i (by omega)).mpr rfl)))

