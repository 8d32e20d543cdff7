/-! The law's loop. -/
theorem and31 (x : Int32) : ∃ k, k < 32 ∧ x &&& nI 31 = nI k := by
  refine ⟨(x &&& nI 31).toBitVec.toNat, ?_, ?_⟩
  · rw [Int32.toBitVec_and, BitVec.toNat_and]
    exact Nat.lt_of_le_of_lt Nat.and_le_right (by decide)
  · apply Int32.toBitVec_inj.mp
    show (x &&& nI 31).toBitVec = BitVec.ofNat 32 (x &&& nI 31).toBitVec.toNat
    rw [BitVec.ofNat_toNat, BitVec.setWidth_eq]
theorem sub5 {L i : Nat} (hL : L ≤ 2560) (hi : i ≤ 2560) : nI L - nI 5 < nI i ↔ L < i + 5 := by
  rw [Int32.lt_iff_toInt_lt, Int32.toInt_sub, nI_toInt (by omega), nI_toInt (by omega), nI_toInt (by omega), Int.bmod_eq_of_le (by omega) (by omega)]
  omega
set_option maxHeartbeats 4000000 in
set_option maxRecDepth 100000 in
theorem law_loop {p : Program} {l : Launch} {e : Env} {s : State} {m : MethodId} {below : List Frame} {meth : Method} {c : Code} {bq L : Nat} {xs : Nat → Int32} {D : va_G} {cs sa a b : Nat → Nat} {o od : Nat} (C : LX p l s m meth c bq L xs D cs sa a b o od) : ∀ (k i cells slots : Nat) (M R : Nat → Nat → Int32) (N go : Nat → Int64) (gd : Nat → UInt64) (H : Heap) (locs : List Loc) (ls : Array Slot), i ≤ L → L + 1 ≤ i + 5 * k → cells ≤ 60 + 2 * i → slots ≤ 2000 + 40 * i → SimE M N R → LJ D cs a b o od M N R go gd H → va_S (fun q : Nat => s.heap.size ≤ q) s.heap H locs → lv_has ls 9 [(5, .int (nI i)), (4, .ref od), (3, .ref o), (2, .ref (b 0)), (1, .ref (a 0)), (0, .ref bq)] → W p l e room_1 s m #[Value.ref bq] below meth c H locs cells slots (lw_Z below #[Value.ref bq] s) (F0 m 28 ls []) := by
  obtain ⟨⟨hx, hb, hr, hml, hown, -, hX, hbl, hlocks, -⟩, -, -, hL, -, -, -, -, -⟩ := id C
  have hb2 : c.code = code := hb
  have hb : c.code = cL_law := hb
  have hbA : ¬ (fun q : Nat => s.heap.size ≤ q) bq := Nat.not_le.mpr hbl
  intro k
  induction k with
  | zero =>
    intro i cells slots M R N go gd H locs ls h1 h2
    exact absurd h2 (by omega)
  | succ k ih =>
    intro i cells slots M R N go gd H locs ls hiL hik hc hs hsim hJ hS hl
    refine lv_iload hx hb dL_law_28 (lv_at hl 0 rfl) ?_
    refine lv_aload_n hx hb dL_law_30 rfl (lv_at hl 5 rfl) ?_
    refine va_slen hx hb hX hbl hbA hS dL_law_31 ?_
    refine lv_iconst (v := nI 5) hx hb dL_law_32 (by decide) ?_
    refine lv_isub hx hb dL_law_33 ?_
    refine lv_icmp_gt (tgt := 2014) hx hb dL_law_34 (by decide) (fun q => ?_) (fun q => ?_)
    · refine lv_iconst (v := 1) hx hb dL_law_2014 (by decide) ?_
      refine va_forget (fun q hq => hS.2.2 q hq) ?_
      refine W.widen (k := 601024) (n := 7293034) (by omega) (by omega) ?_
      refine W.base ?_
      exact lw_ret (Drawn.sameBut.refl s.drawn lw_cs) hx hb2 hr hlocks dL_law_2015
    · have hle : i + 5 ≤ L := by
        rcases Nat.lt_or_ge L (i + 5) with h | h
        · exact absurd ((sub5 hL (by omega)).mpr h) q
        · exact h
      refine lv_aload_n hx hb dL_law_37 rfl (lv_at hl 5 rfl) ?_
      refine lv_iload hx hb dL_law_38 (lv_at hl 0 rfl) ?_
      refine xsld hx hb hX hbl hbA hS hL (by omega) dL_law_40 ?_
      refine lv_bipush (v := nI 31) hx hb dL_law_41 (by decide) ?_
      refine lv_iand hx hb dL_law_43 ?_
      obtain ⟨t, ht, et⟩ := and31 (xs i)
      refine xtop et ?_
      have hc10 : cells + 10 ≤ 601024 := by omega
      have hs200 : slots + 200 ≤ 7293034 := by omega
      have hkk : LK p l e s m below meth c bq D cs a b o od (lw_Z below #[Value.ref bq] s) i cells slots := by
        intro M R N g gd H locs ls h1 h2 h3 h4
        refine lv_iinc (k := 0) (v := nI (i + 5)) (lv' := [(5, .int (nI (i + 5))), (4, .ref od), (3, .ref o), (2, .ref (b 0)), (1, .ref (a 0)), (0, .ref bq)]) hx hb dL_law_2008 h4 rfl (nI_add i 5) (by decide) rfl (fun ls hl => ?_)
        refine lv_goto (tgt := 28) hx hb dL_law_2011 (by decide) ?_
        exact ih (i + 5) (cells + 10) (slots + 200) M R N g gd H locs ls hle (by omega) (by omega) (by omega) h1 h2 h3 hl
      clear ih
      rcases (show t = 0 ∨ t = 1 ∨ t = 2 ∨ t = 3 ∨ t = 4 ∨ t = 5 ∨ t = 6 ∨ t = 7 ∨ t = 8 ∨ t = 9 ∨ t = 10 ∨ t = 11 ∨ t = 12 ∨ t = 13 ∨ t = 14 ∨ t = 15 ∨ t = 16 ∨ t = 17 ∨ t = 18 ∨ t = 19 ∨ t = 20 ∨ t = 21 ∨ t = 22 ∨ t = 23 ∨ t = 24 ∨ t = 25 ∨ t = 26 ∨ t = 27 ∨ t = 28 ∨ t = 29 ∨ t = 30 ∨ t = 31 by omega) with rfl | rfl | rfl | rfl | rfl | rfl | rfl | rfl | rfl | rfl | rfl | rfl | rfl | rfl | rfl | rfl | rfl | rfl | rfl | rfl | rfl | rfl | rfl | rfl | rfl | rfl | rfl | rfl | rfl | rfl | rfl | rfl
      · refine lv_tableIn (off := 144) (tgt := 188) hx hb dL_law_44 (by decide) (by decide) rfl (by decide) ?_
        exact k_addWorld C hle hsim hJ hS hl hc10 hs200 hkk
      · refine lv_tableIn (off := 200) (tgt := 244) hx hb dL_law_44 (by decide) (by decide) rfl (by decide) ?_
        exact k_setAtoms C hle hsim hJ hS hl hc10 hs200 hkk
      · refine lv_tableIn (off := 268) (tgt := 312) hx hb dL_law_44 (by decide) (by decide) rfl (by decide) ?_
        exact k_connect C hle hsim hJ hS hl hc10 hs200 hkk
      · refine lv_tableIn (off := 383) (tgt := 427) hx hb dL_law_44 (by decide) (by decide) rfl (by decide) ?_
        exact k_gather C hle hsim hJ hS hl hc10 hs200 hkk
      · refine lv_tableIn (off := 451) (tgt := 495) hx hb dL_law_44 (by decide) (by decide) rfl (by decide) ?_
        exact k_setActual C hle hsim hJ hS hl hc10 hs200 hkk
      · refine lv_tableIn (off := 507) (tgt := 551) hx hb dL_law_44 (by decide) (by decide) rfl (by decide) ?_
        exact k_actual C hle hsim hJ hS hl hc10 hs200 hkk
      · refine lv_tableIn (off := 551) (tgt := 595) hx hb dL_law_44 (by decide) (by decide) rfl (by decide) ?_
        exact k_worldCount C hle hsim hJ hS hl hc10 hs200 hkk
      · refine lv_tableIn (off := 564) (tgt := 608) hx hb dL_law_44 (by decide) (by decide) rfl (by decide) ?_
        exact k_atoms C hle hsim hJ hS hl hc10 hs200 hkk
      · refine lv_tableIn (off := 620) (tgt := 664) hx hb dL_law_44 (by decide) (by decide) rfl (by decide) ?_
        exact k_seen C hle hsim hJ hS hl hc10 hs200 hkk
      · refine lv_tableIn (off := 688) (tgt := 732) hx hb dL_law_44 (by decide) (by decide) rfl (by decide) ?_
        exact k_arrowCount C hle hsim hJ hS hl hc10 hs200 hkk
      · refine lv_tableIn (off := 744) (tgt := 788) hx hb dL_law_44 (by decide) (by decide) rfl (by decide) ?_
        exact k_shape C hle hsim hJ hS hl hc10 hs200 hkk
      · refine lv_tableIn (off := 800) (tgt := 844) hx hb dL_law_44 (by decide) (by decide) rfl (by decide) ?_
        exact k_atom C hle hsim hJ hS hl hc10 hs200 hkk
      · refine lv_tableIn (off := 856) (tgt := 900) hx hb dL_law_44 (by decide) (by decide) rfl (by decide) ?_
        exact k_not C hle hsim hJ hS hl hc10 hs200 hkk
      · refine lv_tableIn (off := 912) (tgt := 956) hx hb dL_law_44 (by decide) (by decide) rfl (by decide) ?_
        exact k_both C hle hsim hJ hS hl hc10 hs200 hkk
      · refine lv_tableIn (off := 980) (tgt := 1024) hx hb dL_law_44 (by decide) (by decide) rfl (by decide) ?_
        exact k_knows C hle hsim hJ hS hl hc10 hs200 hkk
      · refine lv_tableIn (off := 1048) (tgt := 1092) hx hb dL_law_44 (by decide) (by decide) rfl (by decide) ?_
        exact k_ofGroup C hle hsim hJ hS hl hc10 hs200 hkk
      · refine lv_tableIn (off := 1144) (tgt := 1188) hx hb dL_law_44 (by decide) (by decide) rfl (by decide) ?_
        exact k_after C hle hsim hJ hS hl hc10 hs200 hkk
      · refine lv_tableIn (off := 1212) (tgt := 1256) hx hb dL_law_44 (by decide) (by decide) rfl (by decide) ?_
        exact k_formulaCount C hle hsim hJ hS hl hc10 hs200 hkk
      · refine lv_tableIn (off := 1225) (tgt := 1269) hx hb dL_law_44 (by decide) (by decide) rfl (by decide) ?_
        exact k_depth C hle hsim hJ hS hl hc10 hs200 hkk
      · refine lv_tableIn (off := 1281) (tgt := 1325) hx hb dL_law_44 (by decide) (by decide) rfl (by decide) ?_
        exact k_nesting C hle hsim hJ hS hl hc10 hs200 hkk
      · refine lv_tableIn (off := 1337) (tgt := 1381) hx hb dL_law_44 (by decide) (by decide) rfl (by decide) ?_
        exact k_where C hle hsim hJ hS hl hc10 hs200 hkk
      · refine lv_tableIn (off := 1393) (tgt := 1437) hx hb dL_law_44 (by decide) (by decide) rfl (by decide) ?_
        exact k_holds C hle hsim hJ hS hl hc10 hs200 hkk
      · refine lv_tableIn (off := 1456) (tgt := 1500) hx hb dL_law_44 (by decide) (by decide) rfl (by decide) ?_
        exact k_share C hle hsim hJ hS hl hc10 hs200 hkk
      · refine lv_tableIn (off := 1533) (tgt := 1577) hx hb dL_law_44 (by decide) (by decide) rfl (by decide) ?_
        exact k_decided C hle hsim hJ hS hl hc10 hs200 hkk
      · refine lv_tableIn (off := 1589) (tgt := 1633) hx hb dL_law_44 (by decide) (by decide) rfl (by decide) ?_
        exact k_reached C hle hsim hJ hS hl hc10 hs200 hkk
      · refine lv_tableIn (off := 1657) (tgt := 1701) hx hb dL_law_44 (by decide) (by decide) rfl (by decide) ?_
        exact k_areAlike C hle hsim hJ hS hl hc10 hs200 hkk
      · refine lv_tableIn (off := 1732) (tgt := 1776) hx hb dL_law_44 (by decide) (by decide) rfl (by decide) ?_
        exact k_announce C hle hsim hJ hS hl hc10 hs200 hkk
      · refine lv_tableIn (off := 1788) (tgt := 1832) hx hb dL_law_44 (by decide) (by decide) rfl (by decide) ?_
        exact k_tell C hle hsim hJ hS hl hc10 hs200 hkk
      · refine lv_tableIn (off := 1856) (tgt := 1900) hx hb dL_law_44 (by decide) (by decide) rfl (by decide) ?_
        exact k_whisper C hle hsim hJ hS hl hc10 hs200 hkk
      · refine lv_tableIn (off := 1924) (tgt := 1968) hx hb dL_law_44 (by decide) (by decide) rfl (by decide) ?_
        exact k_contract C hle hsim hJ hS hl hc10 hs200 hkk
      · refine lv_tableIn (off := 1937) (tgt := 1981) hx hb dL_law_44 (by decide) (by decide) rfl (by decide) ?_
        exact k_prune C hle hsim hJ hS hl hc10 hs200 hkk
      · refine lv_tableIn (off := 1950) (tgt := 1994) hx hb dL_law_44 (by decide) (by decide) rfl (by decide) ?_
        exact k_digest C hle hsim hJ hS hl hc10 hs200 hkk
