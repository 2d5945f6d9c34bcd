/-! ===== the law: a round for each case, then all rounds ===== -/
section LOOP
variable {S : mm_S} {G : gb_G} {i L : Nat} {x : Int32}
theorem lp_0 (hi : i ≤ 600) (hI : LI S G i L) (hb : ∀ j, j ≤ 5 → mm_inb (x + nI j) L = true) : ∃ U G2, LI U G2 (i + 1) L ∧ mm_ex 30 225 188 [.ref mm_SC, .ref 0, .ref 92, .int x] [] S = mm_ex 30 225 18 [.ref mm_SC, .ref 0, .ref 92, .int (x + nI 6)] [] U := by
  have hwS := hI.1.1
  have hnS := li_n hi hI
  have ok := hI.2.2.1
  have hbS : ∀ j, j ≤ 5 → mm_inb (x + nI j) (mm_N S mm_SC) = true := by rw [hI.2.2.2.2.2]; exact hb
  obtain ⟨T, U, h1, h2, ⟨hwT, hnT, qN, qM⟩, hU⟩ := stp (y := 73) (y2 := 131) (as := [.ref 0, .int (mm_M S mm_SC (x + (nI 1)).toNatClampNeg), .int (mm_M S mm_SC (x + (nI 2)).toNatClampNeg), .int (mm_M S mm_SC (x + (nI 3)).toNatClampNeg)]) (as2 := [.ref 92, .int (mm_M S mm_SC (x + (nI 1)).toNatClampNeg), .int (mm_M S mm_SC (x + (nI 2)).toNatClampNeg), .int (mm_M S mm_SC (x + (nI 3)).toNatClampNeg)]) hi hI (c_0 (d := 24) ok hI.1 (by omega)) (ok_0 ok) (fun T hM => m_0 (d := 28) ok hM)
  have hbT : ∀ j, j ≤ 5 → mm_inb (x + nI j) (mm_N T mm_SC) = true := by rw [qN]; exact hbS
  refine ⟨U, _, hU, ?_⟩
  rw [b225_188 (sc_a hnS) (hbS 1 (by decide)) (hbS 2 (by decide)) (hbS 3 (by decide)) (wf_k0 hwS), h1, hp_bd, hp_ts, b225_207 (sc_a hnT) (hbT 1 (by decide)) (hbT 2 (by decide)) (hbT 3 (by decide)) (wf_k92 hwT), qM, h2, hp_bd, hp_ts, b225_227]
theorem lp_1 (hi : i ≤ 600) (hI : LI S G i L) (hb : ∀ j, j ≤ 5 → mm_inb (x + nI j) L = true) : ∃ U G2, LI U G2 (i + 1) L ∧ mm_ex 30 225 231 [.ref mm_SC, .ref 0, .ref 92, .int x] [] S = mm_ex 30 225 18 [.ref mm_SC, .ref 0, .ref 92, .int (x + nI 6)] [] U := by
  have hwS := hI.1.1
  have hnS := li_n hi hI
  have ok := hI.2.2.1
  have hbS : ∀ j, j ≤ 5 → mm_inb (x + nI j) (mm_N S mm_SC) = true := by rw [hI.2.2.2.2.2]; exact hb
  obtain ⟨T, U, h1, h2, ⟨hwT, hnT, qN, qM⟩, hU⟩ := stp (y := 74) (y2 := 132) (as := [.ref 0, .int (mm_M S mm_SC (x + (nI 1)).toNatClampNeg), .int (mm_M S mm_SC (x + (nI 2)).toNatClampNeg)]) (as2 := [.ref 92, .int (mm_M S mm_SC (x + (nI 1)).toNatClampNeg), .int (mm_M S mm_SC (x + (nI 2)).toNatClampNeg)]) hi hI (oC_1 ok hI.1) ok (fun T hM => m_1 (d := 24) ok hM)
  have hbT : ∀ j, j ≤ 5 → mm_inb (x + nI j) (mm_N T mm_SC) = true := by rw [qN]; exact hbS
  refine ⟨U, _, hU, ?_⟩
  rw [b225_231 (sc_a hnS) (hbS 1 (by decide)) (hbS 2 (by decide)) (wf_k0 hwS), h1, hp_bd, hp_ts, b225_245 (sc_a hnT) (hbT 1 (by decide)) (hbT 2 (by decide)) (wf_k92 hwT), qM, h2, hp_bd, hp_ts, b225_260]
theorem lp_2 (hi : i ≤ 600) (hI : LI S G i L) (hb : ∀ j, j ≤ 5 → mm_inb (x + nI j) L = true) : ∃ U G2, LI U G2 (i + 1) L ∧ mm_ex 30 225 264 [.ref mm_SC, .ref 0, .ref 92, .int x] [] S = mm_ex 30 225 18 [.ref mm_SC, .ref 0, .ref 92, .int (x + nI 6)] [] U := by
  have hwS := hI.1.1
  have hnS := li_n hi hI
  have ok := hI.2.2.1
  have hbS : ∀ j, j ≤ 5 → mm_inb (x + nI j) (mm_N S mm_SC) = true := by rw [hI.2.2.2.2.2]; exact hb
  obtain ⟨T, U, h1, h2, ⟨hwT, hnT, qN, qM⟩, hU⟩ := stp (y := 75) (y2 := 133) (as := [.ref 0, .int (mm_M S mm_SC (x + (nI 1)).toNatClampNeg)]) (as2 := [.ref 92, .int (mm_M S mm_SC (x + (nI 1)).toNatClampNeg)]) hi hI (oC_id hI.1 (c_2 (d := 28) ok hI.1)) ok (fun T hM => m_2 (d := 27) ok hM)
  have hbT : ∀ j, j ≤ 5 → mm_inb (x + nI j) (mm_N T mm_SC) = true := by rw [qN]; exact hbS
  refine ⟨U, _, hU, ?_⟩
  rw [b225_264 (sc_a hnS) (hbS 1 (by decide)) (wf_k0 hwS), h1, hp_bd, hp_ts, b225_273 (sc_a hnT) (hbT 1 (by decide)) (wf_k92 hwT), qM, h2, hp_bd, hp_ts, b225_283]
theorem lp_3 (hi : i ≤ 600) (hI : LI S G i L) (hb : ∀ j, j ≤ 5 → mm_inb (x + nI j) L = true) : ∃ U G2, LI U G2 (i + 1) L ∧ mm_ex 30 225 287 [.ref mm_SC, .ref 0, .ref 92, .int x] [] S = mm_ex 30 225 18 [.ref mm_SC, .ref 0, .ref 92, .int (x + nI 6)] [] U := by
  have hwS := hI.1.1
  have hnS := li_n hi hI
  have ok := hI.2.2.1
  have hbS : ∀ j, j ≤ 5 → mm_inb (x + nI j) (mm_N S mm_SC) = true := by rw [hI.2.2.2.2.2]; exact hb
  obtain ⟨T, U, h1, h2, ⟨hwT, hnT, qN, qM⟩, hU⟩ := stp (y := 76) (y2 := 134) (as := [.ref 0, .int (mm_M S mm_SC (x + (nI 1)).toNatClampNeg), .int (mm_M S mm_SC (x + (nI 2)).toNatClampNeg)]) (as2 := [.ref 92, .int (mm_M S mm_SC (x + (nI 1)).toNatClampNeg), .int (mm_M S mm_SC (x + (nI 2)).toNatClampNeg)]) hi hI (c_3 (d := 28) ok hI.1) (ok_3 ok) (fun T hM => m_3 (d := 27) ok hM)
  have hbT : ∀ j, j ≤ 5 → mm_inb (x + nI j) (mm_N T mm_SC) = true := by rw [qN]; exact hbS
  refine ⟨U, _, hU, ?_⟩
  rw [b225_287 (sc_a hnS) (hbS 1 (by decide)) (hbS 2 (by decide)) (wf_k0 hwS), h1, hp_bd, hp_ts, b225_301 (sc_a hnT) (hbT 1 (by decide)) (hbT 2 (by decide)) (wf_k92 hwT), qM, h2, hp_bd, hp_ts, b225_316]
theorem lp_4 (hi : i ≤ 600) (hI : LI S G i L) (hb : ∀ j, j ≤ 5 → mm_inb (x + nI j) L = true) : ∃ U G2, LI U G2 (i + 1) L ∧ mm_ex 30 225 320 [.ref mm_SC, .ref 0, .ref 92, .int x] [] S = mm_ex 30 225 18 [.ref mm_SC, .ref 0, .ref 92, .int (x + nI 6)] [] U := by
  have hwS := hI.1.1
  have hnS := li_n hi hI
  have ok := hI.2.2.1
  have hbS : ∀ j, j ≤ 5 → mm_inb (x + nI j) (mm_N S mm_SC) = true := by rw [hI.2.2.2.2.2]; exact hb
  obtain ⟨T, U, h1, h2, ⟨hwT, hnT, qN, qM⟩, hU⟩ := stp (y := 77) (y2 := 135) (as := [.ref 0, .int (mm_M S mm_SC (x + (nI 1)).toNatClampNeg), .int (mm_M S mm_SC (x + (nI 2)).toNatClampNeg), .int (mm_M S mm_SC (x + (nI 3)).toNatClampNeg)]) (as2 := [.ref 92, .int (mm_M S mm_SC (x + (nI 1)).toNatClampNeg), .int (mm_M S mm_SC (x + (nI 2)).toNatClampNeg), .int (mm_M S mm_SC (x + (nI 3)).toNatClampNeg)]) hi hI (c_4 (d := 28) ok hI.1) (ok_4 ok) (fun T hM => m_4 (d := 27) ok hM)
  have hbT : ∀ j, j ≤ 5 → mm_inb (x + nI j) (mm_N T mm_SC) = true := by rw [qN]; exact hbS
  refine ⟨U, _, hU, ?_⟩
  rw [b225_320 (sc_a hnS) (hbS 1 (by decide)) (hbS 2 (by decide)) (hbS 3 (by decide)) (wf_k0 hwS), h1, hp_bd, hp_ts, b225_339 (sc_a hnT) (hbT 1 (by decide)) (hbT 2 (by decide)) (hbT 3 (by decide)) (wf_k92 hwT), qM, h2, hp_bd, hp_ts, b225_359]
theorem lp_5 (hi : i ≤ 600) (hI : LI S G i L) (hb : ∀ j, j ≤ 5 → mm_inb (x + nI j) L = true) : ∃ U G2, LI U G2 (i + 1) L ∧ mm_ex 30 225 363 [.ref mm_SC, .ref 0, .ref 92, .int x] [] S = mm_ex 30 225 18 [.ref mm_SC, .ref 0, .ref 92, .int (x + nI 6)] [] U := by
  have hwS := hI.1.1
  have hnS := li_n hi hI
  have ok := hI.2.2.1
  have hbS : ∀ j, j ≤ 5 → mm_inb (x + nI j) (mm_N S mm_SC) = true := by rw [hI.2.2.2.2.2]; exact hb
  obtain ⟨T, U, h1, h2, ⟨hwT, hnT, qN, qM⟩, hU⟩ := stp (y := 78) (y2 := 136) (as := [.ref 0, .int (mm_M S mm_SC (x + (nI 1)).toNatClampNeg)]) (as2 := [.ref 92, .int (mm_M S mm_SC (x + (nI 1)).toNatClampNeg)]) hi hI (c_5 (d := 28) ok hI.1) (ok_5 ok) (fun T hM => m_5 (d := 27) ok hM)
  have hbT : ∀ j, j ≤ 5 → mm_inb (x + nI j) (mm_N T mm_SC) = true := by rw [qN]; exact hbS
  refine ⟨U, _, hU, ?_⟩
  rw [b225_363 (sc_a hnS) (hbS 1 (by decide)) (wf_k0 hwS), h1, hp_bd, hp_ts, b225_372 (sc_a hnT) (hbT 1 (by decide)) (wf_k92 hwT), qM, h2, hp_bd, hp_ts, b225_382]
theorem lp_6 (hi : i ≤ 600) (hI : LI S G i L) (hb : ∀ j, j ≤ 5 → mm_inb (x + nI j) L = true) : ∃ U G2, LI U G2 (i + 1) L ∧ mm_ex 30 225 386 [.ref mm_SC, .ref 0, .ref 92, .int x] [] S = mm_ex 30 225 18 [.ref mm_SC, .ref 0, .ref 92, .int (x + nI 6)] [] U := by
  have hwS := hI.1.1
  have hnS := li_n hi hI
  have ok := hI.2.2.1
  have hbS : ∀ j, j ≤ 5 → mm_inb (x + nI j) (mm_N S mm_SC) = true := by rw [hI.2.2.2.2.2]; exact hb
  obtain ⟨T, U, h1, h2, ⟨hwT, hnT, qN, qM⟩, hU⟩ := stp (y := 79) (y2 := 137) (as := [.ref 0, .int (mm_M S mm_SC (x + (nI 1)).toNatClampNeg), .int (mm_M S mm_SC (x + (nI 2)).toNatClampNeg)]) (as2 := [.ref 92, .int (mm_M S mm_SC (x + (nI 1)).toNatClampNeg), .int (mm_M S mm_SC (x + (nI 2)).toNatClampNeg)]) hi hI (c_6 (d := 29) ok hI.1) (ok_6 ok) (fun T hM => m_6 (d := 28) ok hM)
  have hbT : ∀ j, j ≤ 5 → mm_inb (x + nI j) (mm_N T mm_SC) = true := by rw [qN]; exact hbS
  refine ⟨U, _, hU, ?_⟩
  rw [b225_386 (sc_a hnS) (hbS 1 (by decide)) (hbS 2 (by decide)) (wf_k0 hwS), h1, hp_bd, hp_ts, b225_400 (sc_a hnT) (hbT 1 (by decide)) (hbT 2 (by decide)) (wf_k92 hwT), qM, h2, hp_bd, hp_ts, b225_415]
theorem lp_7 (hi : i ≤ 600) (hI : LI S G i L) (hb : ∀ j, j ≤ 5 → mm_inb (x + nI j) L = true) : ∃ U G2, LI U G2 (i + 1) L ∧ mm_ex 30 225 419 [.ref mm_SC, .ref 0, .ref 92, .int x] [] S = mm_ex 30 225 18 [.ref mm_SC, .ref 0, .ref 92, .int (x + nI 6)] [] U := by
  have hwS := hI.1.1
  have hnS := li_n hi hI
  have ok := hI.2.2.1
  have hbS : ∀ j, j ≤ 5 → mm_inb (x + nI j) (mm_N S mm_SC) = true := by rw [hI.2.2.2.2.2]; exact hb
  obtain ⟨T, U, h1, h2, ⟨hwT, hnT, qN, qM⟩, hU⟩ := stp (y := 80) (y2 := 138) (as := [.ref 0, .int (mm_M S mm_SC (x + (nI 1)).toNatClampNeg)]) (as2 := [.ref 92, .int (mm_M S mm_SC (x + (nI 1)).toNatClampNeg)]) hi hI (c_7 (d := 28) ok hI.1) (ok_7 ok) (fun T hM => m_7 (d := 28) ok hM)
  have hbT : ∀ j, j ≤ 5 → mm_inb (x + nI j) (mm_N T mm_SC) = true := by rw [qN]; exact hbS
  refine ⟨U, _, hU, ?_⟩
  rw [b225_419 (sc_a hnS) (hbS 1 (by decide)) (wf_k0 hwS), h1, hp_bd, hp_ts, b225_428 (sc_a hnT) (hbT 1 (by decide)) (wf_k92 hwT), qM, h2, hp_bd, hp_ts, b225_438]
theorem lp_8 (hi : i ≤ 600) (hI : LI S G i L) (hb : ∀ j, j ≤ 5 → mm_inb (x + nI j) L = true) : ∃ U G2, LI U G2 (i + 1) L ∧ mm_ex 30 225 442 [.ref mm_SC, .ref 0, .ref 92, .int x] [] S = mm_ex 30 225 18 [.ref mm_SC, .ref 0, .ref 92, .int (x + nI 6)] [] U := by
  have hwS := hI.1.1
  have hnS := li_n hi hI
  have ok := hI.2.2.1
  have hbS : ∀ j, j ≤ 5 → mm_inb (x + nI j) (mm_N S mm_SC) = true := by rw [hI.2.2.2.2.2]; exact hb
  obtain ⟨v, G2, hP, hc⟩ := c_8 (d := 6) ok hI.1 (by omega)
  obtain ⟨T, U, h1, h2, ⟨hwT, hnT, qN, qM⟩, hU⟩ := stp (y := 81) (y2 := 152) hi hI hc (ok_8 ok hP) (fun T hM => m_8 (d := 22) ok hM hP)
  have hbT : ∀ j, j ≤ 5 → mm_inb (x + nI j) (mm_N T mm_SC) = true := by rw [qN]; exact hbS
  refine ⟨U, _, hU, ?_⟩
  rw [b225_442 (wf_k0 hwS), h1, hp_bd, hp_ts, b225_446 (wf_k92 hwT), h2, hp_bd, hp_ts, b225_451]
theorem lp_9 (hi : i ≤ 600) (hI : LI S G i L) (hb : ∀ j, j ≤ 5 → mm_inb (x + nI j) L = true) : ∃ U G2, LI U G2 (i + 1) L ∧ mm_ex 30 225 455 [.ref mm_SC, .ref 0, .ref 92, .int x] [] S = mm_ex 30 225 18 [.ref mm_SC, .ref 0, .ref 92, .int (x + nI 6)] [] U := by
  have hwS := hI.1.1
  have hnS := li_n hi hI
  have ok := hI.2.2.1
  have hbS : ∀ j, j ≤ 5 → mm_inb (x + nI j) (mm_N S mm_SC) = true := by rw [hI.2.2.2.2.2]; exact hb
  obtain ⟨T, U, h1, h2, ⟨hwT, hnT, qN, qM⟩, hU⟩ := stp (y := 82) (y2 := 159) (as := [.ref 0, .int (mm_M S mm_SC (x + (nI 1)).toNatClampNeg)]) (as2 := [.ref 92, .int (mm_M S mm_SC (x + (nI 1)).toNatClampNeg)]) hi hI (c_9 (d := 28) ok hI.1) ok (fun T hM => m_9 (d := 28) ok hM)
  have hbT : ∀ j, j ≤ 5 → mm_inb (x + nI j) (mm_N T mm_SC) = true := by rw [qN]; exact hbS
  refine ⟨U, _, hU, ?_⟩
  rw [b225_455 (sc_a hnS) (hbS 1 (by decide)) (wf_k0 hwS), h1, hp_bd, hp_ts, b225_464 (sc_a hnT) (hbT 1 (by decide)) (wf_k92 hwT), qM, h2, hp_bd, hp_ts, b225_474]
theorem lp_10 (hi : i ≤ 600) (hI : LI S G i L) (hb : ∀ j, j ≤ 5 → mm_inb (x + nI j) L = true) : ∃ U G2, LI U G2 (i + 1) L ∧ mm_ex 30 225 478 [.ref mm_SC, .ref 0, .ref 92, .int x] [] S = mm_ex 30 225 18 [.ref mm_SC, .ref 0, .ref 92, .int (x + nI 6)] [] U := by
  have hwS := hI.1.1
  have hnS := li_n hi hI
  have ok := hI.2.2.1
  have hbS : ∀ j, j ≤ 5 → mm_inb (x + nI j) (mm_N S mm_SC) = true := by rw [hI.2.2.2.2.2]; exact hb
  obtain ⟨v, hc⟩ := c_10 (d := 25) ok hI.1 (x := (mm_M S mm_SC (x + (nI 1)).toNatClampNeg))
  obtain ⟨T, U, h1, h2, ⟨hwT, hnT, qN, qM⟩, hU⟩ := stp (y := 83) (y2 := 167) (as := [.ref 0, .int (mm_M S mm_SC (x + (nI 1)).toNatClampNeg)]) (as2 := [.ref 92, .int (mm_M S mm_SC (x + (nI 1)).toNatClampNeg)]) hi hI hc ok (fun T hM => m_10 (d := 20) ok hM)
  have hbT : ∀ j, j ≤ 5 → mm_inb (x + nI j) (mm_N T mm_SC) = true := by rw [qN]; exact hbS
  refine ⟨U, _, hU, ?_⟩
  rw [b225_478 (sc_a hnS) (hbS 1 (by decide)) (wf_k0 hwS), h1, hp_bd, hp_ts, b225_487 (sc_a hnT) (hbT 1 (by decide)) (wf_k92 hwT), qM, h2, hp_bd, hp_ts, b225_497]
theorem lp_11 (hi : i ≤ 600) (hI : LI S G i L) (hb : ∀ j, j ≤ 5 → mm_inb (x + nI j) L = true) : ∃ U G2, LI U G2 (i + 1) L ∧ mm_ex 30 225 501 [.ref mm_SC, .ref 0, .ref 92, .int x] [] S = mm_ex 30 225 18 [.ref mm_SC, .ref 0, .ref 92, .int (x + nI 6)] [] U := by
  have hwS := hI.1.1
  have hnS := li_n hi hI
  have ok := hI.2.2.1
  have hbS : ∀ j, j ≤ 5 → mm_inb (x + nI j) (mm_N S mm_SC) = true := by rw [hI.2.2.2.2.2]; exact hb
  obtain ⟨T, U, h1, h2, ⟨hwT, hnT, qN, qM⟩, hU⟩ := stp (y := 84) (y2 := 170) (as := [.ref 0]) (as2 := [.ref 92]) hi hI (c_11 (d := 24) ok hI.1) (ok_11 ok) (fun T hM => m_11 (d := 20) ok hM)
  have hbT : ∀ j, j ≤ 5 → mm_inb (x + nI j) (mm_N T mm_SC) = true := by rw [qN]; exact hbS
  refine ⟨U, _, hU, ?_⟩
  rw [b225_501 (wf_k0 hwS), h1, hp_bd, hp_ts, b225_505 (wf_k92 hwT), h2, hp_bd, hp_ts, b225_510]
theorem lp_12 (hi : i ≤ 600) (hI : LI S G i L) (hb : ∀ j, j ≤ 5 → mm_inb (x + nI j) L = true) : ∃ U G2, LI U G2 (i + 1) L ∧ mm_ex 30 225 514 [.ref mm_SC, .ref 0, .ref 92, .int x] [] S = mm_ex 30 225 18 [.ref mm_SC, .ref 0, .ref 92, .int (x + nI 6)] [] U := by
  have hwS := hI.1.1
  have hnS := li_n hi hI
  have ok := hI.2.2.1
  have hbS : ∀ j, j ≤ 5 → mm_inb (x + nI j) (mm_N S mm_SC) = true := by rw [hI.2.2.2.2.2]; exact hb
  obtain ⟨T, U, h1, h2, ⟨hwT, hnT, qN, qM⟩, hU⟩ := stp (y := 85) (y2 := 175) (as := [.ref 0, .int (mm_M S mm_SC (x + (nI 1)).toNatClampNeg)]) (as2 := [.ref 92, .int (mm_M S mm_SC (x + (nI 1)).toNatClampNeg)]) hi hI (c_12 (d := 22) ok hI.1) ok (fun T hM => m_12 (d := 19) ok hM)
  have hbT : ∀ j, j ≤ 5 → mm_inb (x + nI j) (mm_N T mm_SC) = true := by rw [qN]; exact hbS
  refine ⟨U, _, hU, ?_⟩
  rw [b225_514 (sc_a hnS) (hbS 1 (by decide)) (wf_k0 hwS), h1, hp_bd, hp_ts, b225_523 (sc_a hnT) (hbT 1 (by decide)) (wf_k92 hwT), qM, h2, hp_bd, hp_ts, b225_533]
theorem lp_13 (hi : i ≤ 600) (hI : LI S G i L) (hb : ∀ j, j ≤ 5 → mm_inb (x + nI j) L = true) : ∃ U G2, LI U G2 (i + 1) L ∧ mm_ex 30 225 537 [.ref mm_SC, .ref 0, .ref 92, .int x] [] S = mm_ex 30 225 18 [.ref mm_SC, .ref 0, .ref 92, .int (x + nI 6)] [] U := by
  have hwS := hI.1.1
  have hnS := li_n hi hI
  have ok := hI.2.2.1
  have hbS : ∀ j, j ≤ 5 → mm_inb (x + nI j) (mm_N S mm_SC) = true := by rw [hI.2.2.2.2.2]; exact hb
  obtain ⟨T, U, h1, h2, ⟨hwT, hnT, qN, qM⟩, hU⟩ := stp (y := 86) (y2 := 176) (as := [.ref 0, .int (mm_M S mm_SC (x + (nI 1)).toNatClampNeg)]) (as2 := [.ref 92, .int (mm_M S mm_SC (x + (nI 1)).toNatClampNeg)]) hi hI (c_13 (d := 22) ok hI.1) ok (fun T hM => m_13 (d := 19) ok hM)
  have hbT : ∀ j, j ≤ 5 → mm_inb (x + nI j) (mm_N T mm_SC) = true := by rw [qN]; exact hbS
  refine ⟨U, _, hU, ?_⟩
  rw [b225_537 (sc_a hnS) (hbS 1 (by decide)) (wf_k0 hwS), h1, hp_bd, hp_ts, b225_546 (sc_a hnT) (hbT 1 (by decide)) (wf_k92 hwT), qM, h2, hp_bd, hp_ts, b225_556]
theorem lp_14 (hi : i ≤ 600) (hI : LI S G i L) (hb : ∀ j, j ≤ 5 → mm_inb (x + nI j) L = true) : ∃ U G2, LI U G2 (i + 1) L ∧ mm_ex 30 225 560 [.ref mm_SC, .ref 0, .ref 92, .int x] [] S = mm_ex 30 225 18 [.ref mm_SC, .ref 0, .ref 92, .int (x + nI 6)] [] U := by
  have hwS := hI.1.1
  have hnS := li_n hi hI
  have ok := hI.2.2.1
  have hbS : ∀ j, j ≤ 5 → mm_inb (x + nI j) (mm_N S mm_SC) = true := by rw [hI.2.2.2.2.2]; exact hb
  obtain ⟨T, U, h1, h2, ⟨hwT, hnT, qN, qM⟩, hU⟩ := stp (y := 87) (y2 := 179) (as := [.ref 0, .int (mm_M S mm_SC (x + (nI 1)).toNatClampNeg), .int (mm_M S mm_SC (x + (nI 2)).toNatClampNeg)]) (as2 := [.ref 92, .int (mm_M S mm_SC (x + (nI 1)).toNatClampNeg), .int (mm_M S mm_SC (x + (nI 2)).toNatClampNeg)]) hi hI (c_14 (d := 22) ok hI.1) ok (fun T hM => m_14 (d := 19) ok hM)
  have hbT : ∀ j, j ≤ 5 → mm_inb (x + nI j) (mm_N T mm_SC) = true := by rw [qN]; exact hbS
  refine ⟨U, _, hU, ?_⟩
  rw [b225_560 (sc_a hnS) (hbS 1 (by decide)) (hbS 2 (by decide)) (wf_k0 hwS), h1, hp_bd, hp_ts, b225_574 (sc_a hnT) (hbT 1 (by decide)) (hbT 2 (by decide)) (wf_k92 hwT), qM, h2, hp_bd, hp_ts, b225_589]
theorem lp_15 (hi : i ≤ 600) (hI : LI S G i L) (hb : ∀ j, j ≤ 5 → mm_inb (x + nI j) L = true) : ∃ U G2, LI U G2 (i + 1) L ∧ mm_ex 30 225 593 [.ref mm_SC, .ref 0, .ref 92, .int x] [] S = mm_ex 30 225 18 [.ref mm_SC, .ref 0, .ref 92, .int (x + nI 6)] [] U := by
  have hwS := hI.1.1
  have hnS := li_n hi hI
  have ok := hI.2.2.1
  have hbS : ∀ j, j ≤ 5 → mm_inb (x + nI j) (mm_N S mm_SC) = true := by rw [hI.2.2.2.2.2]; exact hb
  obtain ⟨T, U, h1, h2, ⟨hwT, hnT, qN, qM⟩, hU⟩ := stp (y := 88) (y2 := 180) (as := [.ref 0, .int (mm_M S mm_SC (x + (nI 1)).toNatClampNeg)]) (as2 := [.ref 92, .int (mm_M S mm_SC (x + (nI 1)).toNatClampNeg)]) hi hI (c_15 (d := 22) ok hI.1) ok (fun T hM => m_15 (d := 19) ok hM)
  have hbT : ∀ j, j ≤ 5 → mm_inb (x + nI j) (mm_N T mm_SC) = true := by rw [qN]; exact hbS
  refine ⟨U, _, hU, ?_⟩
  rw [b225_593 (sc_a hnS) (hbS 1 (by decide)) (wf_k0 hwS), h1, hp_bd, hp_ts, b225_602 (sc_a hnT) (hbT 1 (by decide)) (wf_k92 hwT), qM, h2, hp_bd, hp_ts, b225_612]
theorem lp_16 (hi : i ≤ 600) (hI : LI S G i L) (hb : ∀ j, j ≤ 5 → mm_inb (x + nI j) L = true) : ∃ U G2, LI U G2 (i + 1) L ∧ mm_ex 30 225 616 [.ref mm_SC, .ref 0, .ref 92, .int x] [] S = mm_ex 30 225 18 [.ref mm_SC, .ref 0, .ref 92, .int (x + nI 6)] [] U := by
  have hwS := hI.1.1
  have hnS := li_n hi hI
  have ok := hI.2.2.1
  have hbS : ∀ j, j ≤ 5 → mm_inb (x + nI j) (mm_N S mm_SC) = true := by rw [hI.2.2.2.2.2]; exact hb
  obtain ⟨T, U, h1, h2, ⟨hwT, hnT, qN, qM⟩, hU⟩ := stp (y := 89) (y2 := 182) (as := [.ref 0, .int (mm_M S mm_SC (x + (nI 1)).toNatClampNeg)]) (as2 := [.ref 92, .int (mm_M S mm_SC (x + (nI 1)).toNatClampNeg)]) hi hI (c_16 (d := 23) ok hI.1) ok (fun T hM => m_16 (d := 19) ok hM)
  have hbT : ∀ j, j ≤ 5 → mm_inb (x + nI j) (mm_N T mm_SC) = true := by rw [qN]; exact hbS
  refine ⟨U, _, hU, ?_⟩
  rw [b225_616 (sc_a hnS) (hbS 1 (by decide)) (wf_k0 hwS), h1, hp_bd, hp_ts, b225_625 (sc_a hnT) (hbT 1 (by decide)) (wf_k92 hwT), qM, h2, hp_bd, hp_ts, b225_635]
theorem lp_17 (hi : i ≤ 600) (hI : LI S G i L) (hb : ∀ j, j ≤ 5 → mm_inb (x + nI j) L = true) : ∃ U G2, LI U G2 (i + 1) L ∧ mm_ex 30 225 639 [.ref mm_SC, .ref 0, .ref 92, .int x] [] S = mm_ex 30 225 18 [.ref mm_SC, .ref 0, .ref 92, .int (x + nI 6)] [] U := by
  have hwS := hI.1.1
  have hnS := li_n hi hI
  have ok := hI.2.2.1
  have hbS : ∀ j, j ≤ 5 → mm_inb (x + nI j) (mm_N S mm_SC) = true := by rw [hI.2.2.2.2.2]; exact hb
  obtain ⟨T, U, h1, h2, ⟨hwT, hnT, qN, qM⟩, hU⟩ := stp (y := 90) (y2 := 183) (as := [.ref 0]) (as2 := [.ref 92]) hi hI (c_17 (d := 22) ok hI.1) ok (fun T hM => m_17 (d := 19) ok hM)
  have hbT : ∀ j, j ≤ 5 → mm_inb (x + nI j) (mm_N T mm_SC) = true := by rw [qN]; exact hbS
  refine ⟨U, _, hU, ?_⟩
  rw [b225_639 (wf_k0 hwS), h1, hp_bd, hp_ts, b225_643 (wf_k92 hwT), h2, hp_bd, hp_ts, b225_648]
theorem lp_18 (hi : i ≤ 600) (hI : LI S G i L) (hb : ∀ j, j ≤ 5 → mm_inb (x + nI j) L = true) : ∃ U G2, LI U G2 (i + 1) L ∧ mm_ex 30 225 652 [.ref mm_SC, .ref 0, .ref 92, .int x] [] S = mm_ex 30 225 18 [.ref mm_SC, .ref 0, .ref 92, .int (x + nI 6)] [] U := by
  have hwS := hI.1.1
  have hnS := li_n hi hI
  have ok := hI.2.2.1
  have hbS : ∀ j, j ≤ 5 → mm_inb (x + nI j) (mm_N S mm_SC) = true := by rw [hI.2.2.2.2.2]; exact hb
  obtain ⟨T, U, h1, h2, ⟨hwT, hnT, qN, qM⟩, hU⟩ := stp (y := 91) (y2 := 184) (as := [.ref 0, .int (mm_M S mm_SC (x + (nI 1)).toNatClampNeg)]) (as2 := [.ref 92, .int (mm_M S mm_SC (x + (nI 1)).toNatClampNeg)]) hi hI (c_18 (d := 25) ok hI.1) ok (fun T hM => m_18 (d := 24) ok hM)
  have hbT : ∀ j, j ≤ 5 → mm_inb (x + nI j) (mm_N T mm_SC) = true := by rw [qN]; exact hbS
  refine ⟨U, _, hU, ?_⟩
  rw [b225_652 (sc_a hnS) (hbS 1 (by decide)) (wf_k0 hwS), h1, hp_bd, hp_ts, b225_661 (sc_a hnT) (hbT 1 (by decide)) (wf_k92 hwT), qM, h2, hp_bd, hp_ts, b225_671]
theorem lp_19 (hi : i ≤ 600) (hI : LI S G i L) (hb : ∀ j, j ≤ 5 → mm_inb (x + nI j) L = true) : ∃ U G2, LI U G2 (i + 1) L ∧ mm_ex 30 225 675 [.ref mm_SC, .ref 0, .ref 92, .int x] [] S = mm_ex 30 225 18 [.ref mm_SC, .ref 0, .ref 92, .int (x + nI 6)] [] U := by
  have hwS := hI.1.1
  have hnS := li_n hi hI
  have ok := hI.2.2.1
  have hbS : ∀ j, j ≤ 5 → mm_inb (x + nI j) (mm_N S mm_SC) = true := by rw [hI.2.2.2.2.2]; exact hb
  obtain ⟨T, U, h1, h2, ⟨hwT, hnT, qN, qM⟩, hU⟩ := stp (y := 92) (y2 := 186) (as := [.ref 0, .int (mm_M S mm_SC (x + (nI 1)).toNatClampNeg)]) (as2 := [.ref 92, .int (mm_M S mm_SC (x + (nI 1)).toNatClampNeg)]) hi hI (c_19 (d := 22) ok hI.1) ok (fun T hM => m_19 (d := 18) ok hM)
  have hbT : ∀ j, j ≤ 5 → mm_inb (x + nI j) (mm_N T mm_SC) = true := by rw [qN]; exact hbS
  refine ⟨U, _, hU, ?_⟩
  rw [b225_675 (sc_a hnS) (hbS 1 (by decide)) (wf_k0 hwS), h1, hp_bd, hp_ts, b225_684 (sc_a hnT) (hbT 1 (by decide)) (wf_k92 hwT), qM, h2, hp_bd, hp_ts, b225_694]
theorem lp_20 (hi : i ≤ 600) (hI : LI S G i L) (hb : ∀ j, j ≤ 5 → mm_inb (x + nI j) L = true) : ∃ U G2, LI U G2 (i + 1) L ∧ mm_ex 30 225 698 [.ref mm_SC, .ref 0, .ref 92, .int x] [] S = mm_ex 30 225 18 [.ref mm_SC, .ref 0, .ref 92, .int (x + nI 6)] [] U := by
  have hwS := hI.1.1
  have hnS := li_n hi hI
  have ok := hI.2.2.1
  have hbS : ∀ j, j ≤ 5 → mm_inb (x + nI j) (mm_N S mm_SC) = true := by rw [hI.2.2.2.2.2]; exact hb
  obtain ⟨T, U, h1, h2, ⟨hwT, hnT, qN, qM⟩, hU⟩ := stp (y := 93) (y2 := 187) (as := [.ref 0, .int (mm_M S mm_SC (x + (nI 1)).toNatClampNeg)]) (as2 := [.ref 92, .int (mm_M S mm_SC (x + (nI 1)).toNatClampNeg)]) hi hI (c_20 (d := 29) ok hI.1) (ok_20 ok) (fun T hM => m_20 (d := 28) ok hM)
  have hbT : ∀ j, j ≤ 5 → mm_inb (x + nI j) (mm_N T mm_SC) = true := by rw [qN]; exact hbS
  refine ⟨U, _, hU, ?_⟩
  rw [b225_698 (sc_a hnS) (hbS 1 (by decide)) (wf_k0 hwS), h1, hp_bd, hp_ts, b225_707 (sc_a hnT) (hbT 1 (by decide)) (wf_k92 hwT), qM, h2, hp_bd, hp_ts, b225_717]
theorem lp_21 (hi : i ≤ 600) (hI : LI S G i L) (hb : ∀ j, j ≤ 5 → mm_inb (x + nI j) L = true) : ∃ U G2, LI U G2 (i + 1) L ∧ mm_ex 30 225 721 [.ref mm_SC, .ref 0, .ref 92, .int x] [] S = mm_ex 30 225 18 [.ref mm_SC, .ref 0, .ref 92, .int (x + nI 6)] [] U := by
  have hwS := hI.1.1
  have hnS := li_n hi hI
  have ok := hI.2.2.1
  have hbS : ∀ j, j ≤ 5 → mm_inb (x + nI j) (mm_N S mm_SC) = true := by rw [hI.2.2.2.2.2]; exact hb
  obtain ⟨T, U, h1, h2, ⟨hwT, hnT, qN, qM⟩, hU⟩ := stp (y := 94) (y2 := 191) (as := [.ref 0, .int (mm_M S mm_SC (x + (nI 1)).toNatClampNeg), .int (mm_M S mm_SC (x + (nI 2)).toNatClampNeg)]) (as2 := [.ref 92, .int (mm_M S mm_SC (x + (nI 1)).toNatClampNeg), .int (mm_M S mm_SC (x + (nI 2)).toNatClampNeg)]) hi hI (c_21 (d := 23) ok hI.1) ok (fun T hM => m_21 (d := 7) ok hM)
  have hbT : ∀ j, j ≤ 5 → mm_inb (x + nI j) (mm_N T mm_SC) = true := by rw [qN]; exact hbS
  refine ⟨U, _, hU, ?_⟩
  rw [b225_721 (sc_a hnS) (hbS 1 (by decide)) (hbS 2 (by decide)) (wf_k0 hwS), h1, hp_bd, hp_ts, b225_735 (sc_a hnT) (hbT 1 (by decide)) (hbT 2 (by decide)) (wf_k92 hwT), qM, h2, hp_bd, hp_ts, b225_750]
theorem lp_22 (hi : i ≤ 600) (hI : LI S G i L) (hb : ∀ j, j ≤ 5 → mm_inb (x + nI j) L = true) : ∃ U G2, LI U G2 (i + 1) L ∧ mm_ex 30 225 754 [.ref mm_SC, .ref 0, .ref 92, .int x] [] S = mm_ex 30 225 18 [.ref mm_SC, .ref 0, .ref 92, .int (x + nI 6)] [] U := by
  have hwS := hI.1.1
  have hnS := li_n hi hI
  have ok := hI.2.2.1
  have hbS : ∀ j, j ≤ 5 → mm_inb (x + nI j) (mm_N S mm_SC) = true := by rw [hI.2.2.2.2.2]; exact hb
  obtain ⟨T, U, h1, h2, ⟨hwT, hnT, qN, qM⟩, hU⟩ := stp (y := 95) (y2 := 192) (as := [.ref 0, .int (mm_M S mm_SC (x + (nI 1)).toNatClampNeg)]) (as2 := [.ref 92, .int (mm_M S mm_SC (x + (nI 1)).toNatClampNeg)]) hi hI (c_22 (d := 29) ok hI.1) (ok_22 ok) (fun T hM => m_22 (d := 28) ok hM)
  have hbT : ∀ j, j ≤ 5 → mm_inb (x + nI j) (mm_N T mm_SC) = true := by rw [qN]; exact hbS
  refine ⟨U, _, hU, ?_⟩
  rw [b225_754 (sc_a hnS) (hbS 1 (by decide)) (wf_k0 hwS), h1, hp_bd, hp_ts, b225_763 (sc_a hnT) (hbT 1 (by decide)) (wf_k92 hwT), qM, h2, hp_bd, hp_ts, b225_773]
theorem lp_23 (hi : i ≤ 600) (hI : LI S G i L) (hb : ∀ j, j ≤ 5 → mm_inb (x + nI j) L = true) : ∃ U G2, LI U G2 (i + 1) L ∧ mm_ex 30 225 777 [.ref mm_SC, .ref 0, .ref 92, .int x] [] S = mm_ex 30 225 18 [.ref mm_SC, .ref 0, .ref 92, .int (x + nI 6)] [] U := by
  have hwS := hI.1.1
  have hnS := li_n hi hI
  have ok := hI.2.2.1
  have hbS : ∀ j, j ≤ 5 → mm_inb (x + nI j) (mm_N S mm_SC) = true := by rw [hI.2.2.2.2.2]; exact hb
  obtain ⟨T, U, h1, h2, ⟨hwT, hnT, qN, qM⟩, hU⟩ := stp (y := 96) (y2 := 193) (as := [.ref 0]) (as2 := [.ref 92]) hi hI (c_23 (d := 24) ok hI.1) ok (fun T hM => m_23 (d := 20) ok hM)
  have hbT : ∀ j, j ≤ 5 → mm_inb (x + nI j) (mm_N T mm_SC) = true := by rw [qN]; exact hbS
  refine ⟨U, _, hU, ?_⟩
  rw [b225_777 (wf_k0 hwS), h1, hp_bd, hp_ts, b225_781 (wf_k92 hwT), h2, hp_bd, hp_ts, b225_786]
theorem lp_24 (hi : i ≤ 600) (hI : LI S G i L) (hb : ∀ j, j ≤ 5 → mm_inb (x + nI j) L = true) : ∃ U G2, LI U G2 (i + 1) L ∧ mm_ex 30 225 790 [.ref mm_SC, .ref 0, .ref 92, .int x] [] S = mm_ex 30 225 18 [.ref mm_SC, .ref 0, .ref 92, .int (x + nI 6)] [] U := by
  have hwS := hI.1.1
  have hnS := li_n hi hI
  have ok := hI.2.2.1
  have hbS : ∀ j, j ≤ 5 → mm_inb (x + nI j) (mm_N S mm_SC) = true := by rw [hI.2.2.2.2.2]; exact hb
  obtain ⟨T, U, h1, h2, ⟨hwT, hnT, qN, qM⟩, hU⟩ := stp (y := 97) (y2 := 195) (as := [.ref 0, .int (mm_M S mm_SC (x + (nI 1)).toNatClampNeg), .int (mm_M S mm_SC (x + (nI 2)).toNatClampNeg)]) (as2 := [.ref 92, .int (mm_M S mm_SC (x + (nI 1)).toNatClampNeg), .int (mm_M S mm_SC (x + (nI 2)).toNatClampNeg)]) hi hI (c_24 (d := 22) ok hI.1) ok (fun T hM => m_24 (d := 19) ok hM)
  have hbT : ∀ j, j ≤ 5 → mm_inb (x + nI j) (mm_N T mm_SC) = true := by rw [qN]; exact hbS
  refine ⟨U, _, hU, ?_⟩
  rw [b225_790 (sc_a hnS) (hbS 1 (by decide)) (hbS 2 (by decide)) (wf_k0 hwS), h1, hp_bd, hp_ts, b225_804 (sc_a hnT) (hbT 1 (by decide)) (hbT 2 (by decide)) (wf_k92 hwT), qM, h2, hp_bd, hp_ts, b225_819]
theorem lp_25 (hi : i ≤ 600) (hI : LI S G i L) (hb : ∀ j, j ≤ 5 → mm_inb (x + nI j) L = true) : ∃ U G2, LI U G2 (i + 1) L ∧ mm_ex 30 225 823 [.ref mm_SC, .ref 0, .ref 92, .int x] [] S = mm_ex 30 225 18 [.ref mm_SC, .ref 0, .ref 92, .int (x + nI 6)] [] U := by
  have hwS := hI.1.1
  have hnS := li_n hi hI
  have ok := hI.2.2.1
  have hbS : ∀ j, j ≤ 5 → mm_inb (x + nI j) (mm_N S mm_SC) = true := by rw [hI.2.2.2.2.2]; exact hb
  obtain ⟨T, U, h1, h2, ⟨hwT, hnT, qN, qM⟩, hU⟩ := stp (y := 98) (y2 := 196) (as := [.ref 0]) (as2 := [.ref 92]) hi hI (c_25 (d := 27) ok hI.1) (ok_25 ok) (fun T hM => m_25 (d := 29) ok hM)
  have hbT : ∀ j, j ≤ 5 → mm_inb (x + nI j) (mm_N T mm_SC) = true := by rw [qN]; exact hbS
  refine ⟨U, _, hU, ?_⟩
  rw [b225_823 (wf_k0 hwS), h1, hp_bd, hp_ts, b225_827 (wf_k92 hwT), h2, hp_bd, hp_ts, b225_832]
theorem lp_26 (hi : i ≤ 600) (hI : LI S G i L) (hb : ∀ j, j ≤ 5 → mm_inb (x + nI j) L = true) : ∃ U G2, LI U G2 (i + 1) L ∧ mm_ex 30 225 836 [.ref mm_SC, .ref 0, .ref 92, .int x] [] S = mm_ex 30 225 18 [.ref mm_SC, .ref 0, .ref 92, .int (x + nI 6)] [] U := by
  have hwS := hI.1.1
  have hnS := li_n hi hI
  have ok := hI.2.2.1
  have hbS : ∀ j, j ≤ 5 → mm_inb (x + nI j) (mm_N S mm_SC) = true := by rw [hI.2.2.2.2.2]; exact hb
  obtain ⟨T, U, h1, h2, ⟨hwT, hnT, qN, qM⟩, hU⟩ := stp (y := 99) (y2 := 197) (as := [.ref 0]) (as2 := [.ref 92]) hi hI (c_26 (d := 27) ok hI.1) (ok_26 ok) (fun T hM => m_26 (d := 29) ok hM)
  have hbT : ∀ j, j ≤ 5 → mm_inb (x + nI j) (mm_N T mm_SC) = true := by rw [qN]; exact hbS
  refine ⟨U, _, hU, ?_⟩
  rw [b225_836 (wf_k0 hwS), h1, hp_bd, hp_ts, b225_840 (wf_k92 hwT), h2, hp_bd, hp_ts, b225_845]
theorem lp_27 (hi : i ≤ 600) (hI : LI S G i L) (hb : ∀ j, j ≤ 5 → mm_inb (x + nI j) L = true) : ∃ U G2, LI U G2 (i + 1) L ∧ mm_ex 30 225 849 [.ref mm_SC, .ref 0, .ref 92, .int x] [] S = mm_ex 30 225 18 [.ref mm_SC, .ref 0, .ref 92, .int (x + nI 6)] [] U := by
  have hwS := hI.1.1
  have hnS := li_n hi hI
  have ok := hI.2.2.1
  have hbS : ∀ j, j ≤ 5 → mm_inb (x + nI j) (mm_N S mm_SC) = true := by rw [hI.2.2.2.2.2]; exact hb
  obtain ⟨T, U, h1, h2, ⟨hwT, hnT, qN, qM⟩, hU⟩ := stp (y := 100) (y2 := 203) (as := [.ref 0, .int (mm_M S mm_SC (x + (nI 1)).toNatClampNeg), .int (mm_M S mm_SC (x + (nI 2)).toNatClampNeg), .int (mm_M S mm_SC (x + (nI 3)).toNatClampNeg)]) (as2 := [.ref 92, .int (mm_M S mm_SC (x + (nI 1)).toNatClampNeg), .int (mm_M S mm_SC (x + (nI 2)).toNatClampNeg), .int (mm_M S mm_SC (x + (nI 3)).toNatClampNeg)]) hi hI (c_27 (d := 21) ok hI.1) (ok_27 ok) (fun T hM => m_27 (d := 19) ok hM)
  have hbT : ∀ j, j ≤ 5 → mm_inb (x + nI j) (mm_N T mm_SC) = true := by rw [qN]; exact hbS
  refine ⟨U, _, hU, ?_⟩
  rw [b225_849 (sc_a hnS) (hbS 1 (by decide)) (hbS 2 (by decide)) (hbS 3 (by decide)) (wf_k0 hwS), h1, hp_bd, hp_ts, b225_868 (sc_a hnT) (hbT 1 (by decide)) (hbT 2 (by decide)) (hbT 3 (by decide)) (wf_k92 hwT), qM, h2, hp_bd, hp_ts, b225_888]
theorem lp_28 (hi : i ≤ 600) (hI : LI S G i L) (hb : ∀ j, j ≤ 5 → mm_inb (x + nI j) L = true) : ∃ U G2, LI U G2 (i + 1) L ∧ mm_ex 30 225 892 [.ref mm_SC, .ref 0, .ref 92, .int x] [] S = mm_ex 30 225 18 [.ref mm_SC, .ref 0, .ref 92, .int (x + nI 6)] [] U := by
  have hwS := hI.1.1
  have hnS := li_n hi hI
  have ok := hI.2.2.1
  have hbS : ∀ j, j ≤ 5 → mm_inb (x + nI j) (mm_N S mm_SC) = true := by rw [hI.2.2.2.2.2]; exact hb
  obtain ⟨T, U, h1, h2, ⟨hwT, hnT, qN, qM⟩, hU⟩ := stp (y := 101) (y2 := 204) (as := [.ref 0, .int (mm_M S mm_SC (x + (nI 1)).toNatClampNeg)]) (as2 := [.ref 92, .int (mm_M S mm_SC (x + (nI 1)).toNatClampNeg)]) hi hI (c_28 (d := 28) ok hI.1) ok (fun T hM => m_28 (d := 29) ok hM)
  have hbT : ∀ j, j ≤ 5 → mm_inb (x + nI j) (mm_N T mm_SC) = true := by rw [qN]; exact hbS
  refine ⟨U, _, hU, ?_⟩
  rw [b225_892 (sc_a hnS) (hbS 1 (by decide)) (wf_k0 hwS), h1, hp_bd, hp_ts, b225_901 (sc_a hnT) (hbT 1 (by decide)) (wf_k92 hwT), qM, h2, hp_bd, hp_ts, b225_911]
theorem lp_29 (hi : i ≤ 600) (hI : LI S G i L) (hb : ∀ j, j ≤ 5 → mm_inb (x + nI j) L = true) : ∃ U G2, LI U G2 (i + 1) L ∧ mm_ex 30 225 915 [.ref mm_SC, .ref 0, .ref 92, .int x] [] S = mm_ex 30 225 18 [.ref mm_SC, .ref 0, .ref 92, .int (x + nI 6)] [] U := by
  have hwS := hI.1.1
  have hnS := li_n hi hI
  have ok := hI.2.2.1
  have hbS : ∀ j, j ≤ 5 → mm_inb (x + nI j) (mm_N S mm_SC) = true := by rw [hI.2.2.2.2.2]; exact hb
  obtain ⟨T, U, h1, h2, ⟨hwT, hnT, qN, qM⟩, hU⟩ := stp (y := 102) (y2 := 205) (as := [.ref 0, .int (mm_M S mm_SC (x + (nI 1)).toNatClampNeg), .int (mm_M S mm_SC (x + (nI 2)).toNatClampNeg)]) (as2 := [.ref 92, .int (mm_M S mm_SC (x + (nI 1)).toNatClampNeg), .int (mm_M S mm_SC (x + (nI 2)).toNatClampNeg)]) hi hI (c_29 (d := 28) ok hI.1) ok (fun T hM => m_29 (d := 27) ok hM)
  have hbT : ∀ j, j ≤ 5 → mm_inb (x + nI j) (mm_N T mm_SC) = true := by rw [qN]; exact hbS
  refine ⟨U, _, hU, ?_⟩
  rw [b225_915 (sc_a hnS) (hbS 1 (by decide)) (hbS 2 (by decide)) (wf_k0 hwS), h1, hp_bd, hp_ts, b225_929 (sc_a hnT) (hbT 1 (by decide)) (hbT 2 (by decide)) (wf_k92 hwT), qM, h2, hp_bd, hp_ts, b225_944]
theorem lp_30 (hi : i ≤ 600) (hI : LI S G i L) (hb : ∀ j, j ≤ 5 → mm_inb (x + nI j) L = true) : ∃ U G2, LI U G2 (i + 1) L ∧ mm_ex 30 225 948 [.ref mm_SC, .ref 0, .ref 92, .int x] [] S = mm_ex 30 225 18 [.ref mm_SC, .ref 0, .ref 92, .int (x + nI 6)] [] U := by
  have hwS := hI.1.1
  have hnS := li_n hi hI
  have ok := hI.2.2.1
  have hbS : ∀ j, j ≤ 5 → mm_inb (x + nI j) (mm_N S mm_SC) = true := by rw [hI.2.2.2.2.2]; exact hb
  obtain ⟨T, U, h1, h2, ⟨hwT, hnT, qN, qM⟩, hU⟩ := stp (y := 103) (y2 := 206) (as := [.ref 0, .int (mm_M S mm_SC (x + (nI 1)).toNatClampNeg)]) (as2 := [.ref 92, .int (mm_M S mm_SC (x + (nI 1)).toNatClampNeg)]) hi hI (c_30 (d := 29) ok hI.1) ok (fun T hM => m_30 (d := 29) ok hM)
  have hbT : ∀ j, j ≤ 5 → mm_inb (x + nI j) (mm_N T mm_SC) = true := by rw [qN]; exact hbS
  refine ⟨U, _, hU, ?_⟩
  rw [b225_948 (sc_a hnS) (hbS 1 (by decide)) (wf_k0 hwS), h1, hp_bd, hp_ts, b225_957 (sc_a hnT) (hbT 1 (by decide)) (wf_k92 hwT), qM, h2, hp_bd, hp_ts, b225_967]
theorem lp_31 (hi : i ≤ 600) (hI : LI S G i L) (hb : ∀ j, j ≤ 5 → mm_inb (x + nI j) L = true) : ∃ U G2, LI U G2 (i + 1) L ∧ mm_ex 30 225 971 [.ref mm_SC, .ref 0, .ref 92, .int x] [] S = mm_ex 30 225 18 [.ref mm_SC, .ref 0, .ref 92, .int (x + nI 6)] [] U := by
  have hwS := hI.1.1
  have hnS := li_n hi hI
  have ok := hI.2.2.1
  have hbS : ∀ j, j ≤ 5 → mm_inb (x + nI j) (mm_N S mm_SC) = true := by rw [hI.2.2.2.2.2]; exact hb
  obtain ⟨T, U, h1, h2, ⟨hwT, hnT, qN, qM⟩, hU⟩ := stp (y := 104) (y2 := 207) (as := [.ref 0, .int (mm_M S mm_SC (x + (nI 1)).toNatClampNeg), .int (mm_M S mm_SC (x + (nI 2)).toNatClampNeg), .int (mm_M S mm_SC (x + (nI 3)).toNatClampNeg)]) (as2 := [.ref 92, .int (mm_M S mm_SC (x + (nI 1)).toNatClampNeg), .int (mm_M S mm_SC (x + (nI 2)).toNatClampNeg), .int (mm_M S mm_SC (x + (nI 3)).toNatClampNeg)]) hi hI (c_31 (d := 28) ok hI.1) (ok_31 ok) (fun T hM => m_31 (d := 27) ok hM)
  have hbT : ∀ j, j ≤ 5 → mm_inb (x + nI j) (mm_N T mm_SC) = true := by rw [qN]; exact hbS
  refine ⟨U, _, hU, ?_⟩
  rw [b225_971 (sc_a hnS) (hbS 1 (by decide)) (hbS 2 (by decide)) (hbS 3 (by decide)) (wf_k0 hwS), h1, hp_bd, hp_ts, b225_990 (sc_a hnT) (hbT 1 (by decide)) (hbT 2 (by decide)) (hbT 3 (by decide)) (wf_k92 hwT), qM, h2, hp_bd, hp_ts, b225_1010]
theorem lp_32 (hi : i ≤ 600) (hI : LI S G i L) (hb : ∀ j, j ≤ 5 → mm_inb (x + nI j) L = true) : ∃ U G2, LI U G2 (i + 1) L ∧ mm_ex 30 225 1014 [.ref mm_SC, .ref 0, .ref 92, .int x] [] S = mm_ex 30 225 18 [.ref mm_SC, .ref 0, .ref 92, .int (x + nI 6)] [] U := by
  have hwS := hI.1.1
  have hnS := li_n hi hI
  have ok := hI.2.2.1
  have hbS : ∀ j, j ≤ 5 → mm_inb (x + nI j) (mm_N S mm_SC) = true := by rw [hI.2.2.2.2.2]; exact hb
  obtain ⟨T, U, h1, h2, ⟨hwT, hnT, qN, qM⟩, hU⟩ := stp (y := 105) (y2 := 209) (as := [.ref 0, .int (mm_M S mm_SC (x + (nI 1)).toNatClampNeg), .int (mm_M S mm_SC (x + (nI 2)).toNatClampNeg), .long ((((mm_M S mm_SC (x + (nI 3)).toNatClampNeg).toInt64) <<< ((nI 32).toInt64 &&& 63)) ||| (((mm_M S mm_SC (x + (nI 4)).toNatClampNeg).toInt64) &&& 4294967295))]) (as2 := [.ref 92, .int (mm_M S mm_SC (x + (nI 1)).toNatClampNeg), .int (mm_M S mm_SC (x + (nI 2)).toNatClampNeg), .long ((((mm_M S mm_SC (x + (nI 3)).toNatClampNeg).toInt64) <<< ((nI 32).toInt64 &&& 63)) ||| (((mm_M S mm_SC (x + (nI 4)).toNatClampNeg).toInt64) &&& 4294967295))]) hi hI (c_32 (d := 28) ok hI.1) (ok_32 ok) (fun T hM => m_32 (d := 27) ok hM)
  have hbT : ∀ j, j ≤ 5 → mm_inb (x + nI j) (mm_N T mm_SC) = true := by rw [qN]; exact hbS
  refine ⟨U, _, hU, ?_⟩
  rw [b225_1014 (sc_a hnS) (hbS 1 (by decide)) (hbS 2 (by decide)) (hbS 3 (by decide)) (hbS 4 (by decide)) (wf_k0 hwS), h1, hp_bd, hp_ts, b225_1048 (sc_a hnT) (hbT 1 (by decide)) (hbT 2 (by decide)) (hbT 3 (by decide)) (hbT 4 (by decide)) (wf_k92 hwT), qM, h2, hp_bd, hp_ts, b225_1083]
theorem lp_33 (hi : i ≤ 600) (hI : LI S G i L) (hb : ∀ j, j ≤ 5 → mm_inb (x + nI j) L = true) : ∃ U G2, LI U G2 (i + 1) L ∧ mm_ex 30 225 1087 [.ref mm_SC, .ref 0, .ref 92, .int x] [] S = mm_ex 30 225 18 [.ref mm_SC, .ref 0, .ref 92, .int (x + nI 6)] [] U := by
  have hwS := hI.1.1
  have hnS := li_n hi hI
  have ok := hI.2.2.1
  have hbS : ∀ j, j ≤ 5 → mm_inb (x + nI j) (mm_N S mm_SC) = true := by rw [hI.2.2.2.2.2]; exact hb
  obtain ⟨T, U, h1, h2, ⟨hwT, hnT, qN, qM⟩, hU⟩ := stp (y := 106) (y2 := 210) (as := [.ref 0, .int (mm_M S mm_SC (x + (nI 1)).toNatClampNeg), .int (mm_M S mm_SC (x + (nI 2)).toNatClampNeg)]) (as2 := [.ref 92, .int (mm_M S mm_SC (x + (nI 1)).toNatClampNeg), .int (mm_M S mm_SC (x + (nI 2)).toNatClampNeg)]) hi hI (c_33 (d := 28) ok hI.1) ok (fun T hM => m_33 (d := 27) ok hM)
  have hbT : ∀ j, j ≤ 5 → mm_inb (x + nI j) (mm_N T mm_SC) = true := by rw [qN]; exact hbS
  refine ⟨U, _, hU, ?_⟩
  rw [b225_1087 (sc_a hnS) (hbS 1 (by decide)) (hbS 2 (by decide)) (wf_k0 hwS), h1, hp_bd, hp_ts, b225_1101 (sc_a hnT) (hbT 1 (by decide)) (hbT 2 (by decide)) (wf_k92 hwT), qM, h2, hp_bd, hp_ts, b225_1116]
theorem lp_34 (hi : i ≤ 600) (hI : LI S G i L) (hb : ∀ j, j ≤ 5 → mm_inb (x + nI j) L = true) : ∃ U G2, LI U G2 (i + 1) L ∧ mm_ex 30 225 1120 [.ref mm_SC, .ref 0, .ref 92, .int x] [] S = mm_ex 30 225 18 [.ref mm_SC, .ref 0, .ref 92, .int (x + nI 6)] [] U := by
  have hwS := hI.1.1
  have hnS := li_n hi hI
  have ok := hI.2.2.1
  have hbS : ∀ j, j ≤ 5 → mm_inb (x + nI j) (mm_N S mm_SC) = true := by rw [hI.2.2.2.2.2]; exact hb
  obtain ⟨T, U, h1, h2, ⟨hwT, hnT, qN, qM⟩, hU⟩ := stp (y := 107) (y2 := 211) (as := [.ref 0, .int (mm_M S mm_SC (x + (nI 1)).toNatClampNeg), .int (mm_M S mm_SC (x + (nI 2)).toNatClampNeg), .int (mm_M S mm_SC (x + (nI 3)).toNatClampNeg), .int (mm_M S mm_SC (x + (nI 4)).toNatClampNeg), .int (mm_M S mm_SC (x + (nI 5)).toNatClampNeg)]) (as2 := [.ref 92, .int (mm_M S mm_SC (x + (nI 1)).toNatClampNeg), .int (mm_M S mm_SC (x + (nI 2)).toNatClampNeg), .int (mm_M S mm_SC (x + (nI 3)).toNatClampNeg), .int (mm_M S mm_SC (x + (nI 4)).toNatClampNeg), .int (mm_M S mm_SC (x + (nI 5)).toNatClampNeg)]) hi hI (c_34 (d := 28) ok hI.1) (ok_34 ok) (fun T hM => m_34 (d := 27) ok hM)
  have hbT : ∀ j, j ≤ 5 → mm_inb (x + nI j) (mm_N T mm_SC) = true := by rw [qN]; exact hbS
  refine ⟨U, _, hU, ?_⟩
  rw [b225_1120 (sc_a hnS) (hbS 1 (by decide)) (hbS 2 (by decide)) (hbS 3 (by decide)) (hbS 4 (by decide)) (hbS 5 (by decide)) (wf_k0 hwS), h1, hp_bd, hp_ts, b225_1149 (sc_a hnT) (hbT 1 (by decide)) (hbT 2 (by decide)) (hbT 3 (by decide)) (hbT 4 (by decide)) (hbT 5 (by decide)) (wf_k92 hwT), qM, h2, hp_bd, hp_tsc, b225_1178, if_pos rfl, b225_1183]
theorem law_loop (hL : L ≤ 3072) : ∀ k i : Nat, i + k = L / 6 → ∀ (S : mm_S) (G : gb_G), LI S G i L → ∃ S2, mm_ex 30 225 18 [.ref mm_SC, .ref 0, .ref 92, .int (nI (6 * i))] [] S = some (some (.int 1), S2) ∧ mm_n S2 ≤ 600000 ∧ mm_z S2 ≤ 7302250 := by
  intro k
  induction k with
  | zero =>
    intro i hi S G hI
    have hn := li_n (by omega) hI
    have e : nI L - nI 6 < nI (6 * i) := by
      rw [Int32.lt_iff_toInt_lt, pk_sub_toInt (by omega) (by decide), nI_toInt (by omega)]
      omega
    rw [b225_18 (sc_b hn), hI.2.2.2.2.2, if_pos e, b225_1189]
    have h4 := hI.2.2.2.2.1
    exact ⟨S, rfl, hn, by omega⟩
  | succ k ih =>
    intro i hi S G hI
    have hn := li_n (by omega) hI
    have e : ¬ nI L - nI 6 < nI (6 * i) := by
      rw [Int32.lt_iff_toInt_lt, pk_sub_toInt (by omega) (by decide), nI_toInt (by omega)]
      omega
    have hb : ∀ j, j ≤ 5 → mm_inb (nI (6 * i) + nI j) L = true := fun j hj => by
      rw [nI_add]; exact hp_inb (by omega) (by omega)
    have hb0 : mm_inb (nI (6 * i)) L = true := hp_inb (by omega) (by omega)
    have fin : ∀ p, (∃ U G2, LI U G2 (i + 1) L ∧ mm_ex 30 225 p [.ref mm_SC, .ref 0, .ref 92, .int (nI (6 * i))] [] S = mm_ex 30 225 18 [.ref mm_SC, .ref 0, .ref 92, .int (nI (6 * i) + nI 6)] [] U) → ∃ S2, mm_ex 30 225 p [.ref mm_SC, .ref 0, .ref 92, .int (nI (6 * i))] [] S = some (some (.int 1), S2) ∧ mm_n S2 ≤ 600000 ∧ mm_z S2 ≤ 7302250 := by
      intro p ⟨U, G2, hU, h⟩
      rw [h, nI_add, show 6 * i + 6 = 6 * (i + 1) by omega]
      exact ih (i + 1) (by omega) U G2 hU
    have h600 : i ≤ 600 := by omega
    rw [b225_18 (sc_b hn), if_neg (by rw [hI.2.2.2.2.2]; exact e), b225_27 (sc_a hn) (by rw [hI.2.2.2.2.2]; exact hb0), b225_33]
    by_cases c0 : (mm_M S mm_SC (nI (6 * i)).toNatClampNeg) &&& (nI 63) = nI 0
    · rw [if_pos c0]; exact fin _ (lp_0 h600 hI hb)
    rw [if_neg c0]
    by_cases c1 : (mm_M S mm_SC (nI (6 * i)).toNatClampNeg) &&& (nI 63) = nI 1
    · rw [if_pos c1]; exact fin _ (lp_1 h600 hI hb)
    rw [if_neg c1]
    by_cases c2 : (mm_M S mm_SC (nI (6 * i)).toNatClampNeg) &&& (nI 63) = nI 2
    · rw [if_pos c2]; exact fin _ (lp_2 h600 hI hb)
    rw [if_neg c2]
    by_cases c3 : (mm_M S mm_SC (nI (6 * i)).toNatClampNeg) &&& (nI 63) = nI 3
    · rw [if_pos c3]; exact fin _ (lp_3 h600 hI hb)
    rw [if_neg c3]
    by_cases c4 : (mm_M S mm_SC (nI (6 * i)).toNatClampNeg) &&& (nI 63) = nI 4
    · rw [if_pos c4]; exact fin _ (lp_4 h600 hI hb)
    rw [if_neg c4]
    by_cases c5 : (mm_M S mm_SC (nI (6 * i)).toNatClampNeg) &&& (nI 63) = nI 5
    · rw [if_pos c5]; exact fin _ (lp_5 h600 hI hb)
    rw [if_neg c5]
    by_cases c6 : (mm_M S mm_SC (nI (6 * i)).toNatClampNeg) &&& (nI 63) = nI 6
    · rw [if_pos c6]; exact fin _ (lp_6 h600 hI hb)
    rw [if_neg c6]
    by_cases c7 : (mm_M S mm_SC (nI (6 * i)).toNatClampNeg) &&& (nI 63) = nI 7
    · rw [if_pos c7]; exact fin _ (lp_7 h600 hI hb)
    rw [if_neg c7]
    by_cases c8 : (mm_M S mm_SC (nI (6 * i)).toNatClampNeg) &&& (nI 63) = nI 8
    · rw [if_pos c8]; exact fin _ (lp_8 h600 hI hb)
    rw [if_neg c8]
    by_cases c9 : (mm_M S mm_SC (nI (6 * i)).toNatClampNeg) &&& (nI 63) = nI 9
    · rw [if_pos c9]; exact fin _ (lp_9 h600 hI hb)
    rw [if_neg c9]
    by_cases c10 : (mm_M S mm_SC (nI (6 * i)).toNatClampNeg) &&& (nI 63) = nI 10
    · rw [if_pos c10]; exact fin _ (lp_10 h600 hI hb)
    rw [if_neg c10]
    by_cases c11 : (mm_M S mm_SC (nI (6 * i)).toNatClampNeg) &&& (nI 63) = nI 11
    · rw [if_pos c11]; exact fin _ (lp_11 h600 hI hb)
    rw [if_neg c11]
    by_cases c12 : (mm_M S mm_SC (nI (6 * i)).toNatClampNeg) &&& (nI 63) = nI 12
    · rw [if_pos c12]; exact fin _ (lp_12 h600 hI hb)
    rw [if_neg c12]
    by_cases c13 : (mm_M S mm_SC (nI (6 * i)).toNatClampNeg) &&& (nI 63) = nI 13
    · rw [if_pos c13]; exact fin _ (lp_13 h600 hI hb)
    rw [if_neg c13]
    by_cases c14 : (mm_M S mm_SC (nI (6 * i)).toNatClampNeg) &&& (nI 63) = nI 14
    · rw [if_pos c14]; exact fin _ (lp_14 h600 hI hb)
    rw [if_neg c14]
    by_cases c15 : (mm_M S mm_SC (nI (6 * i)).toNatClampNeg) &&& (nI 63) = nI 15
    · rw [if_pos c15]; exact fin _ (lp_15 h600 hI hb)
    rw [if_neg c15]
    by_cases c16 : (mm_M S mm_SC (nI (6 * i)).toNatClampNeg) &&& (nI 63) = nI 16
    · rw [if_pos c16]; exact fin _ (lp_16 h600 hI hb)
    rw [if_neg c16]
    by_cases c17 : (mm_M S mm_SC (nI (6 * i)).toNatClampNeg) &&& (nI 63) = nI 17
    · rw [if_pos c17]; exact fin _ (lp_17 h600 hI hb)
    rw [if_neg c17]
    by_cases c18 : (mm_M S mm_SC (nI (6 * i)).toNatClampNeg) &&& (nI 63) = nI 18
    · rw [if_pos c18]; exact fin _ (lp_18 h600 hI hb)
    rw [if_neg c18]
    by_cases c19 : (mm_M S mm_SC (nI (6 * i)).toNatClampNeg) &&& (nI 63) = nI 19
    · rw [if_pos c19]; exact fin _ (lp_19 h600 hI hb)
    rw [if_neg c19]
    by_cases c20 : (mm_M S mm_SC (nI (6 * i)).toNatClampNeg) &&& (nI 63) = nI 20
    · rw [if_pos c20]; exact fin _ (lp_20 h600 hI hb)
    rw [if_neg c20]
    by_cases c21 : (mm_M S mm_SC (nI (6 * i)).toNatClampNeg) &&& (nI 63) = nI 21
    · rw [if_pos c21]; exact fin _ (lp_21 h600 hI hb)
    rw [if_neg c21]
    by_cases c22 : (mm_M S mm_SC (nI (6 * i)).toNatClampNeg) &&& (nI 63) = nI 22
    · rw [if_pos c22]; exact fin _ (lp_22 h600 hI hb)
    rw [if_neg c22]
    by_cases c23 : (mm_M S mm_SC (nI (6 * i)).toNatClampNeg) &&& (nI 63) = nI 23
    · rw [if_pos c23]; exact fin _ (lp_23 h600 hI hb)
    rw [if_neg c23]
    by_cases c24 : (mm_M S mm_SC (nI (6 * i)).toNatClampNeg) &&& (nI 63) = nI 24
    · rw [if_pos c24]; exact fin _ (lp_24 h600 hI hb)
    rw [if_neg c24]
    by_cases c25 : (mm_M S mm_SC (nI (6 * i)).toNatClampNeg) &&& (nI 63) = nI 25
    · rw [if_pos c25]; exact fin _ (lp_25 h600 hI hb)
    rw [if_neg c25]
    by_cases c26 : (mm_M S mm_SC (nI (6 * i)).toNatClampNeg) &&& (nI 63) = nI 26
    · rw [if_pos c26]; exact fin _ (lp_26 h600 hI hb)
    rw [if_neg c26]
    by_cases c27 : (mm_M S mm_SC (nI (6 * i)).toNatClampNeg) &&& (nI 63) = nI 27
    · rw [if_pos c27]; exact fin _ (lp_27 h600 hI hb)
    rw [if_neg c27]
    by_cases c28 : (mm_M S mm_SC (nI (6 * i)).toNatClampNeg) &&& (nI 63) = nI 28
    · rw [if_pos c28]; exact fin _ (lp_28 h600 hI hb)
    rw [if_neg c28]
    by_cases c29 : (mm_M S mm_SC (nI (6 * i)).toNatClampNeg) &&& (nI 63) = nI 29
    · rw [if_pos c29]; exact fin _ (lp_29 h600 hI hb)
    rw [if_neg c29]
    by_cases c30 : (mm_M S mm_SC (nI (6 * i)).toNatClampNeg) &&& (nI 63) = nI 30
    · rw [if_pos c30]; exact fin _ (lp_30 h600 hI hb)
    rw [if_neg c30]
    by_cases c31 : (mm_M S mm_SC (nI (6 * i)).toNatClampNeg) &&& (nI 63) = nI 31
    · rw [if_pos c31]; exact fin _ (lp_31 h600 hI hb)
    rw [if_neg c31]
    by_cases c32 : (mm_M S mm_SC (nI (6 * i)).toNatClampNeg) &&& (nI 63) = nI 32
    · rw [if_pos c32]; exact fin _ (lp_32 h600 hI hb)
    rw [if_neg c32]
    by_cases c33 : (mm_M S mm_SC (nI (6 * i)).toNatClampNeg) &&& (nI 63) = nI 33
    · rw [if_pos c33]; exact fin _ (lp_33 h600 hI hb)
    rw [if_neg c33]
    by_cases c34 : (mm_M S mm_SC (nI (6 * i)).toNatClampNeg) &&& (nI 63) = nI 34
    · rw [if_pos c34]; exact fin _ (lp_34 h600 hI hb)
    rw [if_neg c34]
    refine fin _ ⟨S, G, ⟨hI.1, hI.2.1, hI.2.2.1, ?_, ?_, hI.2.2.2.2.2⟩, b225_1183⟩
    · have := hI.2.2.2.1; omega
    · have := hI.2.2.2.2.1; omega
end LOOP
theorem mm_law (xs : Nat → Int32) (L : Nat) (hL : L ≤ 3072) : ∃ S', mm_ex 30 mm_nc 0 [.ref mm_SC, .null, .null, .null] [] (mm_S0 L xs) = some (some (.int 1), S') ∧ mm_n S' ≤ 600000 ∧ mm_z S' ≤ 7302250 := by
  obtain ⟨S, h0, n0, z0, t0, w0, N0, M0⟩ := law_start xs L
  rw [h0]
  exact law_loop hL (L / 6) 0 (Nat.zero_add _) S g0_G ⟨g0_RC t0 w0, g0_RM t0 w0, g0_ok, by omega, by omega, N0⟩
