/-! ===== the operations, class and model alike ===== -/
theorem oi_sampleAt {hi : am_HI} {g : am_G} (hI : am_Inv g) (a : LI hi g) (x0 : Int32) : OpI M_L_sampleAt M_X10_sampleAt [.int x0] hi g := by
  obtain ⟨Z, p, Y, c, cd, n, hs, hm, ok, okZ, okY⟩ := id a
  by_cases h0 : wi x0 0 (hi 124 48 - 1) = true
  rotate_left
  · exact opX hI a (by decide) (fun _ hc => l1_sampleAt hI hc) (x1_sampleAt hI hs.1 ok  (b_f h0)) (q1_sampleAt hI rfl ok  (b_f h0))
  obtain ⟨t0, ht0, rfl⟩ := cS ok h0
  exact opR hI a (fun _ hc => l_sampleAt hI hc) (r_sampleAt hI hs.1 ok ht0 h0) (fun h g1 hI1 e => q_sampleAt hI1 e ok ht0 h0)
theorem oi_firstWeight {hi : am_HI} {g : am_G} (hI : am_Inv g) (a : LI hi g) (x0 : Int32) : OpI M_L_firstWeight M_X10_firstWeight [.int x0] hi g := by
  obtain ⟨Z, p, Y, c, cd, n, hs, hm, ok, okZ, okY⟩ := id a
  by_cases h0 : wi x0 1 4 = true
  rotate_left
  · exact opX hI a (by decide) (fun _ hc => l1_firstWeight hI hc) (x1_firstWeight hI hs.1 ok  (b_f h0)) (q1_firstWeight hI rfl ok  (b_f h0))
  obtain ⟨t0, ht0, rfl⟩ := cW4 h0
  exact opR hI a (fun _ hc => l_firstWeight hI hc) (r_firstWeight hI hs.1 ok ht0 h0) (fun h g1 hI1 e => q_firstWeight hI1 e ok ht0 h0)
theorem oi_weightAt {hi : am_HI} {g : am_G} (hI : am_Inv g) (a : LI hi g) (x0 x1 : Int32) : OpI M_L_weightAt M_X10_weightAt [.int x0, .int x1] hi g := by
  obtain ⟨Z, p, Y, c, cd, n, hs, hm, ok, okZ, okY⟩ := id a
  by_cases h0 : wi x1 0 (hi 124 48) = true
  rotate_left
  · exact opX hI a (by decide) (fun _ hc => l1_weightAt hI hc) (x1_weightAt hI hs.1 ok  (b_f h0)) (q1_weightAt hI rfl ok  (b_f h0))
  by_cases h1 : wi x0 1 4 = true
  rotate_left
  · exact opX hI a (by decide) (fun _ hc => l2_weightAt hI hc) (x2_weightAt hI hs.1 ok h0 (b_f h1)) (q2_weightAt hI rfl ok h0 (b_f h1))
  obtain ⟨t0, ht0, rfl⟩ := cW4 h1
  obtain ⟨t1, ht1, rfl⟩ := cT ok h0
  exact opR hI a (fun _ hc => l_weightAt hI hc) (r_weightAt hI hs.1 ok ht0 ht1 h0 h1) (fun h g1 hI1 e => q_weightAt hI1 e ok ht0 ht1 h0 h1)
theorem oi_weightByCounting {hi : am_HI} {g : am_G} (hI : am_Inv g) (a : LI hi g) (x0 x1 : Int32) : OpI M_L_weightByCounting M_X10_weightByCounting [.int x0, .int x1] hi g := by
  obtain ⟨Z, p, Y, c, cd, n, hs, hm, ok, okZ, okY⟩ := id a
  by_cases h0 : wi x1 0 (hi 124 48) = true
  rotate_left
  · exact opX hI a (by decide) (fun _ hc => l1_weightByCounting hI hc) (x1_weightByCounting hI hs.1 ok  (b_f h0)) (q1_weightByCounting hI rfl ok  (b_f h0))
  by_cases h1 : wi x0 1 4 = true
  rotate_left
  · exact opX hI a (by decide) (fun _ hc => l2_weightByCounting hI hc) (x2_weightByCounting hI hs.1 ok h0 (b_f h1)) (q2_weightByCounting hI rfl ok h0 (b_f h1))
  obtain ⟨t0, ht0, rfl⟩ := cW4 h1
  obtain ⟨t1, ht1, rfl⟩ := cT ok h0
  exact opR hI a (fun _ hc => l_weightByCounting hI hc) (r_weightByCounting hI hs.1 ok ht0 ht1 h0 h1) (fun h g1 hI1 e => q_weightByCounting hI1 e ok ht0 ht1 h0 h1)
theorem oi_foretold {hi : am_HI} {g : am_G} (hI : am_Inv g) (a : LI hi g) (x0 x1 : Int32) : OpI M_L_foretold M_X10_foretold [.int x0, .int x1] hi g := by
  obtain ⟨Z, p, Y, c, cd, n, hs, hm, ok, okZ, okY⟩ := id a
  by_cases h0 : wi x1 0 (hi 124 48) = true
  rotate_left
  · exact opX hI a (by decide) (fun _ hc => l1_foretold hI hc) (x1_foretold hI hs.1 ok  (b_f h0)) (q1_foretold hI rfl ok  (b_f h0))
  by_cases h1 : wi x0 0 4 = true
  rotate_left
  · exact opX hI a (by decide) (fun _ hc => l2_foretold hI hc) (x2_foretold hI hs.1 ok h0 (b_f h1)) (q2_foretold hI rfl ok h0 (b_f h1))
  obtain ⟨t0, ht0, rfl⟩ := cK5 h1
  obtain ⟨t1, ht1, rfl⟩ := cT ok h0
  exact opR hI a (fun _ hc => l_foretold hI hc) (r_foretold hI hs.1 ok ht0 ht1 h0 h1) (fun h g1 hI1 e => q_foretold hI1 e ok ht0 ht1 h0 h1)
theorem oi_leftOver {hi : am_HI} {g : am_G} (hI : am_Inv g) (a : LI hi g) (x0 x1 : Int32) : OpI M_L_leftOver M_X10_leftOver [.int x0, .int x1] hi g := by
  obtain ⟨Z, p, Y, c, cd, n, hs, hm, ok, okZ, okY⟩ := id a
  by_cases h0 : wi x1 0 (hi 124 48 - 1) = true
  rotate_left
  · exact opX hI a (by decide) (fun _ hc => l1_leftOver hI hc) (x1_leftOver hI hs.1 ok  (b_f h0)) (q1_leftOver hI rfl ok  (b_f h0))
  by_cases h1 : wi x0 0 4 = true
  rotate_left
  · exact opX hI a (by decide) (fun _ hc => l2_leftOver hI hc) (x2_leftOver hI hs.1 ok h0 (b_f h1)) (q2_leftOver hI rfl ok h0 (b_f h1))
  obtain ⟨t0, ht0, rfl⟩ := cK5 h1
  obtain ⟨t1, ht1, rfl⟩ := cS ok h0
  exact opR hI a (fun _ hc => l_leftOver hI hc) (r_leftOver hI hs.1 ok ht0 ht1 h0 h1) (fun h g1 hI1 e => q_leftOver hI1 e ok ht0 ht1 h0 h1)
theorem oi_sumOf {hi : am_HI} {g : am_G} (hI : am_Inv g) (a : LI hi g) (x0 : Int32) : OpI M_L_sumOf M_X10_sumOf [.int x0] hi g := by
  obtain ⟨Z, p, Y, c, cd, n, hs, hm, ok, okZ, okY⟩ := id a
  by_cases h0 : wi x0 0 4 = true
  rotate_left
  · exact opX hI a (by decide) (fun _ hc => l1_sumOf hI hc) (x1_sumOf hI hs.1 ok  (b_f h0)) (q1_sumOf hI rfl ok  (b_f h0))
  obtain ⟨t0, ht0, rfl⟩ := cK5 h0
  exact opR hI a (fun _ hc => l_sumOf hI hc) (r_sumOf hI hs.1 ok ht0 h0) (fun h g1 hI1 e => q_sumOf hI1 e ok ht0 h0)
theorem oi_sumWithDelay {hi : am_HI} {g : am_G} (hI : am_Inv g) (a : LI hi g) (x0 : Int32) : OpI M_L_sumWithDelay M_X10_sumWithDelay [.int x0] hi g := by
  obtain ⟨Z, p, Y, c, cd, n, hs, hm, ok, okZ, okY⟩ := id a
  by_cases h0 : wi x0 1 12 = true
  rotate_left
  · exact opX hI a (by decide) (fun _ hc => l1_sumWithDelay hI hc) (x1_sumWithDelay hI hs.1 ok  (b_f h0)) (q1_sumWithDelay hI rfl ok  (b_f h0))
  obtain ⟨t0, ht0, rfl⟩ := cAB (a := 1) (b := 12) (by decide) (by decide) h0
  exact opR hI a (fun _ hc => l_sumWithDelay hI hc) (r_sumWithDelay hI hs.1 ok ht0 h0) (fun h g1 hI1 e => q_sumWithDelay hI1 e ok ht0 h0)
theorem oi_bestFirst {hi : am_HI} {g : am_G} (hI : am_Inv g) (a : LI hi g) (x0 : Int32) : OpI M_L_bestFirst M_X10_bestFirst [.int x0] hi g := by
  obtain ⟨Z, p, Y, c, cd, n, hs, hm, ok, okZ, okY⟩ := id a
  by_cases h0 : wi x0 1 4 = true
  rotate_left
  · exact opX hI a (by decide) (fun _ hc => l1_bestFirst hI hc) (x1_bestFirst hI hs.1 ok  (b_f h0)) (q1_bestFirst hI rfl ok  (b_f h0))
  obtain ⟨t0, ht0, rfl⟩ := cW4 h0
  exact opR hI a (fun _ hc => l_bestFirst hI hc) (r_bestFirst hI hs.1 ok ht0 h0) (fun h g1 hI1 e => q_bestFirst hI1 e ok ht0 h0)
theorem oi_bitsWith {hi : am_HI} {g : am_G} (hI : am_Inv g) (a : LI hi g) (x0 x1 x2 : Int32) : OpI M_L_bitsWith M_X10_bitsWith [.int x0, .int x1, .int x2] hi g := by
  obtain ⟨Z, p, Y, c, cd, n, hs, hm, ok, okZ, okY⟩ := id a
  by_cases h0 : wi x0 0 (nI (zn (hi 124)) - 1) = true
  rotate_left
  · exact opX hI a (by decide) (fun _ hc => l1_bitsWith hI hc) (x1_bitsWith hI hs.1 ok  (b_f h0)) (q1_bitsWith hI rfl ok  (b_f h0))
  by_cases h1 : wi x1 0 4 = true
  rotate_left
  · exact opX hI a (by decide) (fun _ hc => l2_bitsWith hI hc) (x2_bitsWith hI hs.1 ok h0 (b_f h1)) (q2_bitsWith hI rfl ok h0 (by rw [b_f h1]; rfl))
  by_cases h2 : wi x2 0 7 = true
  rotate_left
  · exact opX hI a (by decide) (fun _ hc => l2_bitsWith hI hc) (x3_bitsWith hI hs.1 ok h0 h1 (b_f h2)) (q2_bitsWith hI rfl ok h0 (by rw [h1, b_f h2]; rfl))
  obtain ⟨t0, ht0, rfl⟩ := cN (by have := zn_lt ok; omega) h0
  obtain ⟨t1, ht1, rfl⟩ := cK5 h1
  obtain ⟨t2, ht2, rfl⟩ := cP7 h2
  exact opR hI a (fun _ hc => l_bitsWith hI hc) (r_bitsWith hI hs.1 ok ht0 ht1 ht2 h0 h1 h2) (fun h g1 hI1 e => q_bitsWith hI1 e ok ht0 ht1 ht2 h0 h1 h2)
theorem oi_bestParameter {hi : am_HI} {g : am_G} (hI : am_Inv g) (a : LI hi g) (x0 x1 : Int32) : OpI M_L_bestParameter M_X10_bestParameter [.int x0, .int x1] hi g := by
  obtain ⟨Z, p, Y, c, cd, n, hs, hm, ok, okZ, okY⟩ := id a
  by_cases h0 : wi x0 0 (nI (zn (hi 124)) - 1) = true
  rotate_left
  · exact opX hI a (by decide) (fun _ hc => l1_bestParameter hI hc) (x1_bestParameter hI hs.1 ok  (b_f h0)) (q1_bestParameter hI rfl ok  (b_f h0))
  by_cases h1 : wi x1 0 4 = true
  rotate_left
  · exact opX hI a (by decide) (fun _ hc => l2_bestParameter hI hc) (x2_bestParameter hI hs.1 ok h0 (b_f h1)) (q2_bestParameter hI rfl ok h0 (b_f h1))
  obtain ⟨t0, ht0, rfl⟩ := cN (by have := zn_lt ok; omega) h0
  obtain ⟨t1, ht1, rfl⟩ := cK5 h1
  exact opR hI a (fun _ hc => l_bestParameter hI hc) (r_bestParameter hI hs.1 ok ht0 ht1 h0 h1) (fun h g1 hI1 e => q_bestParameter hI1 e ok ht0 ht1 h0 h1)
theorem oi_bestKind {hi : am_HI} {g : am_G} (hI : am_Inv g) (a : LI hi g) (x0 : Int32) : OpI M_L_bestKind M_X10_bestKind [.int x0] hi g := by
  obtain ⟨Z, p, Y, c, cd, n, hs, hm, ok, okZ, okY⟩ := id a
  by_cases h0 : wi x0 0 (nI (zn (hi 124)) - 1) = true
  rotate_left
  · exact opX hI a (by decide) (fun _ hc => l1_bestKind hI hc) (x1_bestKind hI hs.1 ok  (b_f h0)) (q1_bestKind hI rfl ok  (b_f h0))
  obtain ⟨t0, ht0, rfl⟩ := cN (by have := zn_lt ok; omega) h0
  exact opR hI a (fun _ hc => l_bestKind hI hc) (r_bestKind hI hs.1 ok ht0 h0) (fun h g1 hI1 e => q_bestKind hI1 e ok ht0 h0)
theorem oi_whyBest {hi : am_HI} {g : am_G} (hI : am_Inv g) (a : LI hi g) (x0 : Int32) : OpI M_L_whyBest M_X10_whyBest [.int x0] hi g := by
  obtain ⟨Z, p, Y, c, cd, n, hs, hm, ok, okZ, okY⟩ := id a
  by_cases h0 : wi x0 0 (nI (zn (hi 124)) - 1) = true
  rotate_left
  · exact opX hI a (by decide) (fun _ hc => l1_whyBest hI hc) (x1_whyBest hI hs.1 ok  (b_f h0)) (q1_whyBest hI rfl ok  (b_f h0))
  obtain ⟨t0, ht0, rfl⟩ := cN (by have := zn_lt ok; omega) h0
  exact opR hI a (fun _ hc => l_whyBest hI hc) (r_whyBest hI hs.1 ok ht0 h0) (fun h g1 hI1 e => q_whyBest hI1 e ok ht0 h0)
theorem oi_blocksWith {hi : am_HI} {g : am_G} (hI : am_Inv g) (a : LI hi g) (x0 : Int32) : OpI M_L_blocksWith M_X10_blocksWith [.int x0] hi g := by
  obtain ⟨Z, p, Y, c, cd, n, hs, hm, ok, okZ, okY⟩ := id a
  by_cases h0 : wi x0 0 4 = true
  rotate_left
  · exact opX hI a (by decide) (fun _ hc => l1_blocksWith hI hc) (x1_blocksWith hI hs.1 ok  (b_f h0)) (q1_blocksWith hI rfl ok  (b_f h0))
  obtain ⟨t0, ht0, rfl⟩ := cK5 h0
  exact opR hI a (fun _ hc => l_blocksWith hI hc) (r_blocksWith hI hs.1 ok ht0 h0) (fun h g1 hI1 e => q_blocksWith hI1 e ok ht0 h0)
theorem oi_bitsIfOnly {hi : am_HI} {g : am_G} (hI : am_Inv g) (a : LI hi g) (x0 : Int32) : OpI M_L_bitsIfOnly M_X10_bitsIfOnly [.int x0] hi g := by
  obtain ⟨Z, p, Y, c, cd, n, hs, hm, ok, okZ, okY⟩ := id a
  by_cases h0 : wi x0 0 4 = true
  rotate_left
  · exact opX hI a (by decide) (fun _ hc => l1_bitsIfOnly hI hc) (x1_bitsIfOnly hI hs.1 ok  (b_f h0)) (q1_bitsIfOnly hI rfl ok  (b_f h0))
  obtain ⟨t0, ht0, rfl⟩ := cK5 h0
  exact opR hI a (fun _ hc => l_bitsIfOnly hI hc) (r_bitsIfOnly hI hs.1 ok ht0 h0) (fun h g1 hI1 e => q_bitsIfOnly hI1 e ok ht0 h0)
theorem oi_letterKind {hi : am_HI} {g : am_G} (hI : am_Inv g) (a : LI hi g) (x0 : Int32) : OpI M_L_letterKind M_X10_letterKind [.int x0] hi g := by
  obtain ⟨Z, p, Y, c, cd, n, hs, hm, ok, okZ, okY⟩ := id a
  by_cases h0 : wi x0 0 (nI (zln (hi 124)) - 1) = true
  rotate_left
  · exact opX hI a (by decide) (fun _ hc => l1_letterKind hI hc) (x1_letterKind hI hs.1 ok  (b_f h0)) (q1_letterKind hI rfl ok  (b_f h0))
  obtain ⟨t0, ht0, rfl⟩ := cN (by have := zln_lt ok; omega) h0
  exact opR hI a (fun _ hc => l_letterKind hI hc) (r_letterKind hI hs.1 ok ht0 h0) (fun h g1 hI1 e => q_letterKind hI1 e ok ht0 h0)
theorem oi_letterParameter {hi : am_HI} {g : am_G} (hI : am_Inv g) (a : LI hi g) (x0 : Int32) : OpI M_L_letterParameter M_X10_letterParameter [.int x0] hi g := by
  obtain ⟨Z, p, Y, c, cd, n, hs, hm, ok, okZ, okY⟩ := id a
  by_cases h0 : wi x0 0 (nI (zln (hi 124)) - 1) = true
  rotate_left
  · exact opX hI a (by decide) (fun _ hc => l1_letterParameter hI hc) (x1_letterParameter hI hs.1 ok  (b_f h0)) (q1_letterParameter hI rfl ok  (b_f h0))
  obtain ⟨t0, ht0, rfl⟩ := cN (by have := zln_lt ok; omega) h0
  exact opR hI a (fun _ hc => l_letterParameter hI hc) (r_letterParameter hI hs.1 ok ht0 h0) (fun h g1 hI1 e => q_letterParameter hI1 e ok ht0 h0)
theorem oi_letterLeft {hi : am_HI} {g : am_G} (hI : am_Inv g) (a : LI hi g) (x0 : Int32) : OpI M_L_letterLeft M_X10_letterLeft [.int x0] hi g := by
  obtain ⟨Z, p, Y, c, cd, n, hs, hm, ok, okZ, okY⟩ := id a
  by_cases h0 : wi x0 0 (nI (zt (hi 124)) - 1) = true
  rotate_left
  · exact opX hI a (by decide) (fun _ hc => l1_letterLeft hI hc) (x1_letterLeft hI hs.1 ok  (b_f h0)) (q1_letterLeft hI rfl ok  (b_f h0))
  obtain ⟨t0, ht0, rfl⟩ := cN (by have := ok.2.2.1; omega) h0
  exact opR hI a (fun _ hc => l_letterLeft hI hc) (r_letterLeft hI hs.1 ok ht0 h0) (fun h g1 hI1 e => q_letterLeft hI1 e ok ht0 h0)
theorem oi_letterBit {hi : am_HI} {g : am_G} (hI : am_Inv g) (a : LI hi g) (x0 : Int32) : OpB M_L_letterBit M_X10_letterBit [.int x0] hi g := by
  obtain ⟨Z, p, Y, c, cd, n, hs, hm, ok, okZ, okY⟩ := id a
  by_cases h0 : wi x0 0 (nI (zbits (hi 124)) - 1) = true
  rotate_left
  · exact opXB hI a (by decide) (fun _ hc => l1_letterBit hI hc) (x1_letterBit hI hs.1 ok  (b_f h0)) (q1_letterBit hI rfl ok  (b_f h0))
  obtain ⟨t0, ht0, rfl⟩ := cN (by have := lbB_zb (hi 124); have := lbB_max ok ok.2.2.1; omega) h0
  exact opRB hI a (fun _ hc => l_letterBit hI hc) (r_letterBit hI hs.1 ok ht0 h0) (fun h g1 hI1 e => q_letterBit hI1 e ok ht0 h0)
theorem oi_heard {hi : am_HI} {g : am_G} (hI : am_Inv g) (a : LI hi g) (x0 : Int32) : OpI M_L_heard M_X10_heard [.int x0] hi g := by
  obtain ⟨Z, p, Y, c, cd, n, hs, hm, ok, okZ, okY⟩ := id a
  by_cases h0 : wi x0 0 (nI (zt (hi 124)) - 1) = true
  rotate_left
  · exact opX hI a (by decide) (fun _ hc => l1_heard hI hc) (x1_heard hI hs.1 ok  (b_f h0)) (q1_heard hI rfl ok  (b_f h0))
  obtain ⟨t0, ht0, rfl⟩ := cN (by have := ok.2.2.1; omega) h0
  exact opR hI a (fun _ hc => l_heard hI hc) (r_heard hI hs.1 ok ht0 h0) (fun h g1 hI1 e => q_heard hI1 e ok ht0 h0)
theorem oi_heardByBits {hi : am_HI} {g : am_G} (hI : am_Inv g) (a : LI hi g) (x0 : Int32) : OpI M_L_heardByBits M_X10_heardByBits [.int x0] hi g := by
  obtain ⟨Z, p, Y, c, cd, n, hs, hm, ok, okZ, okY⟩ := id a
  by_cases h0 : wi x0 0 (nI (zt (hi 124)) - 1) = true
  rotate_left
  · exact opX hI a (by decide) (fun _ hc => l1_heardByBits hI hc) (x1_heardByBits hI hs.1 ok  (b_f h0)) (q1_heardByBits hI rfl ok  (b_f h0))
  obtain ⟨t0, ht0, rfl⟩ := cN (by have := ok.2.2.1; omega) h0
  exact opR hI a (fun _ hc => l_heardByBits hI hc) (r_heardByBits hI hs.1 ok ht0 h0) (fun h g1 hI1 e => q_heardByBits hI1 e ok ht0 h0)
theorem oi_harm {hi : am_HI} {g : am_G} (hI : am_Inv g) (a : LI hi g) (x0 : Int32) : OpI M_L_harm M_X10_harm [.int x0] hi g := by
  obtain ⟨Z, p, Y, c, cd, n, hs, hm, ok, okZ, okY⟩ := id a
  by_cases h0 : wi x0 0 (nI (zt (hi 124)) - 1) = true
  rotate_left
  · exact opX hI a (by decide) (fun _ hc => l1_harm hI hc) (x1_harm hI hs.1 ok  (b_f h0)) (q1_harm hI rfl ok  (b_f h0))
  obtain ⟨t0, ht0, rfl⟩ := cN (by have := ok.2.2.1; omega) h0
  exact opR hI a (fun _ hc => l_harm hI hc) (r_harm hI hs.1 ok ht0 h0) (fun h g1 hI1 e => q_harm hI1 e ok ht0 h0)
theorem oi_samples {hi : am_HI} {g : am_G} (hI : am_Inv g) (a : LI hi g) : ∃ r : Int32, OpV M_X9_samples M_X10_samples (.int r) hi g := by
  obtain ⟨Z, p, Y, c, cd, n, hs, hm, ok, okZ, okY⟩ := id a
  exact ⟨_, opV hI a (r_samples hI hs.1 ok) (fun h g1 hI1 e => q_samples hI1 e ok)⟩
theorem oi_delay {hi : am_HI} {g : am_G} (hI : am_Inv g) (a : LI hi g) : ∃ r : Int32, OpV M_X9_delay M_X10_delay (.int r) hi g := by
  obtain ⟨Z, p, Y, c, cd, n, hs, hm, ok, okZ, okY⟩ := id a
  exact ⟨_, opV hI a (r_delay hI hs.1 ok) (fun h g1 hI1 e => q_delay hI1 e ok)⟩
theorem oi_speed {hi : am_HI} {g : am_G} (hI : am_Inv g) (a : LI hi g) : ∃ r : Int32, OpV M_X9_speed M_X10_speed (.int r) hi g := by
  obtain ⟨Z, p, Y, c, cd, n, hs, hm, ok, okZ, okY⟩ := id a
  exact ⟨_, opV hI a (r_speed hI hs.1 ok) (fun h g1 hI1 e => q_speed hI1 e ok)⟩
theorem oi_allowed {hi : am_HI} {g : am_G} (hI : am_Inv g) (a : LI hi g) : ∃ r : Int32, OpV M_X9_allowed M_X10_allowed (.int r) hi g := by
  obtain ⟨Z, p, Y, c, cd, n, hs, hm, ok, okZ, okY⟩ := id a
  exact ⟨_, opV hI a (r_allowed hI hs.1 ok) (fun h g1 hI1 e => q_allowed hI1 e ok)⟩
theorem oi_told {hi : am_HI} {g : am_G} (hI : am_Inv g) (a : LI hi g) : ∃ r : Int32, OpV M_X9_told M_X10_told (.int r) hi g := by
  obtain ⟨Z, p, Y, c, cd, n, hs, hm, ok, okZ, okY⟩ := id a
  exact ⟨_, opV hI a (r_told hI hs.1 ok) (fun h g1 hI1 e => q_told hI1 e ok)⟩
theorem oi_sent {hi : am_HI} {g : am_G} (hI : am_Inv g) (a : LI hi g) : ∃ r : Int32, OpV M_X9_sent M_X10_sent (.int r) hi g := by
  obtain ⟨Z, p, Y, c, cd, n, hs, hm, ok, okZ, okY⟩ := id a
  exact ⟨_, opV hI a (r_sent hI hs.1 ok) (fun h g1 hI1 e => q_sent hI1 e ok)⟩
theorem oi_blocks {hi : am_HI} {g : am_G} (hI : am_Inv g) (a : LI hi g) : ∃ r : Int32, OpV M_X9_blocks M_X10_blocks (.int r) hi g := by
  obtain ⟨Z, p, Y, c, cd, n, hs, hm, ok, okZ, okY⟩ := id a
  exact ⟨_, opV hI a (r_blocks hI hs.1 ok) (fun h g1 hI1 e => q_blocks hI1 e ok)⟩
theorem oi_letterBits {hi : am_HI} {g : am_G} (hI : am_Inv g) (a : LI hi g) : ∃ r : Int32, OpV M_X9_letterBits M_X10_letterBits (.int r) hi g := by
  obtain ⟨Z, p, Y, c, cd, n, hs, hm, ok, okZ, okY⟩ := id a
  exact ⟨_, opV hI a (r_letterBits hI hs.1 ok) (fun h g1 hI1 e => q_letterBits hI1 e ok)⟩
theorem oi_bits {hi : am_HI} {g : am_G} (hI : am_Inv g) (a : LI hi g) : ∃ r : Int32, OpV M_X9_bits M_X10_bits (.int r) hi g := by
  obtain ⟨Z, p, Y, c, cd, n, hs, hm, ok, okZ, okY⟩ := id a
  exact ⟨_, opV hI a (r_bits hI hs.1 ok) (fun h g1 hI1 e => q_bits hI1 e ok)⟩
theorem oi_bitsByKinds {hi : am_HI} {g : am_G} (hI : am_Inv g) (a : LI hi g) : ∃ r : Int32, OpV M_X9_bitsByKinds M_X10_bitsByKinds (.int r) hi g := by
  obtain ⟨Z, p, Y, c, cd, n, hs, hm, ok, okZ, okY⟩ := id a
  exact ⟨_, opV hI a (r_bitsByKinds hI hs.1 ok) (fun h g1 hI1 e => q_bitsByKinds hI1 e ok)⟩
theorem oi_bestDelay {hi : am_HI} {g : am_G} (hI : am_Inv g) (a : LI hi g) : ∃ r : Int32, OpV M_X9_bestDelay M_X10_bestDelay (.int r) hi g := by
  obtain ⟨Z, p, Y, c, cd, n, hs, hm, ok, okZ, okY⟩ := id a
  exact ⟨_, opV hI a (r_bestDelay hI hs.1 ok) (fun h g1 hI1 e => q_bestDelay hI1 e ok)⟩
theorem oi_bestSpeed {hi : am_HI} {g : am_G} (hI : am_Inv g) (a : LI hi g) : ∃ r : Int32, OpV M_X9_bestSpeed M_X10_bestSpeed (.int r) hi g := by
  obtain ⟨Z, p, Y, c, cd, n, hs, hm, ok, okZ, okY⟩ := id a
  exact ⟨_, opV hI a (r_bestSpeed hI hs.1 ok) (fun h g1 hI1 e => q_bestSpeed hI1 e ok)⟩
theorem oi_unlike {hi : am_HI} {g : am_G} (hI : am_Inv g) (a : LI hi g) : ∃ r : Int32, OpV M_X9_unlike M_X10_unlike (.int r) hi g := by
  obtain ⟨Z, p, Y, c, cd, n, hs, hm, ok, okZ, okY⟩ := id a
  exact ⟨_, opV hI a (r_unlike hI hs.1 ok) (fun h g1 hI1 e => q_unlike hI1 e ok)⟩
theorem oi_firstUnlike {hi : am_HI} {g : am_G} (hI : am_Inv g) (a : LI hi g) : ∃ r : Int32, OpV M_X9_firstUnlike M_X10_firstUnlike (.int r) hi g := by
  obtain ⟨Z, p, Y, c, cd, n, hs, hm, ok, okZ, okY⟩ := id a
  exact ⟨_, opV hI a (r_firstUnlike hI hs.1 ok) (fun h g1 hI1 e => q_firstUnlike hI1 e ok)⟩
theorem oi_worst {hi : am_HI} {g : am_G} (hI : am_Inv g) (a : LI hi g) : ∃ r : Int32, OpV M_X9_worst M_X10_worst (.int r) hi g := by
  obtain ⟨Z, p, Y, c, cd, n, hs, hm, ok, okZ, okY⟩ := id a
  exact ⟨_, opV hI a (r_worst hI hs.1 ok) (fun h g1 hI1 e => q_worst hI1 e ok)⟩
theorem oi_loudness {hi : am_HI} {g : am_G} (hI : am_Inv g) (a : LI hi g) : ∃ r : UInt64, okd r ∧ OpV M_X9_loudness M_X10_loudness (.double r) hi g := by
  obtain ⟨Z, p, Y, c, cd, n, hs, hm, ok, okZ, okY⟩ := id a
  exact ⟨_, lou_ok ok, opV hI a (r_loudness hI hs.1 ok) (fun h g1 hI1 e => q_loudness hI1 e ok)⟩
theorem oi_digest {hi : am_HI} {g : am_G} (hI : am_Inv g) (a : LI hi g) : ∃ r : Int64, OpV M_X9_digest M_X10_digest (.long r) hi g := by
  obtain ⟨Z, p, Y, c, cd, n, hs, hm, ok, okZ, okY⟩ := id a
  exact ⟨_, opV hI a (r_digest hI hs.1 ok) (fun h g1 hI1 e => q_digest hI1 e ok)⟩
theorem wi_rng {v : Int32} (h : wi v (-99) 99 = true) : rng v := by
  obtain ⟨h1, h2⟩ := wi_t.mp h
  rw [am_le] at h1 h2
  exact ⟨h1, h2⟩
theorem zal_up {z : Nat → Int32} {y : Int32} {k : Nat} : zal (upd z 55 y) k = alI y (nI k) := by
  unfold zal
  rw [show upd z 55 y 55 = y from by simp [upd]]
section OW
variable {hi : am_HI} {g : am_G}
theorem oi_add (hI : am_Inv g) (a : LI hi g) (v : Int32) : OpI M_L_add M_X10_add [.int v] hi g := by
  obtain ⟨Z, p, Y, c, cd, n, hs, hm, ok, okZ, okY⟩ := id a
  by_cases h0 : wi v (-99) 99 = true
  · by_cases h1 : zc (hi 124) < 48
    · exact opW (fun _ hc => l_add hI hc) (w_add hI hs ok h0 h1) (fun h g1 hI1 f => qW (q_add hI1 (hm.fc f) ok h0 h1)) (zput_ok ok h1 (wi_rng h0)) (svZ_ok okZ ok) okY
    · exact opX hI a (by decide) (fun _ hc => l2_add hI hc) (x2_add hI hs ok h0 h1) (q2_add hI rfl ok h0 h1)
  · exact opX hI a (by decide) (fun _ hc => l1_add hI hc) (x1_add hI hs ok (b_f h0)) (q1_add hI rfl ok (b_f h0))
theorem oi_echo (hI : am_Inv g) (a : LI hi g) (m b t : Int32) : OpI M_L_echo M_X10_echo [.int m, .int b, .int t] hi g := by
  obtain ⟨Z, p, Y, c, cd, n, hs, hm, ok, okZ, okY⟩ := id a
  by_cases h0 : wi m 1 16 = true
  rotate_left
  · exact opX hI a (by decide) (fun _ hc => l1_echo hI hc) (x1_echo hI hs ok (b_f h0)) (q1_echo hI rfl ok (by rw [b_f h0]; rfl))
  by_cases h1 : wi b 1 12 = true
  rotate_left
  · exact opX hI a (by decide) (fun _ hc => l1_echo hI hc) (x2_echo hI hs ok h0 (b_f h1)) (q1_echo hI rfl ok (by rw [h0, b_f h1]; rfl))
  by_cases h2 : wi t 1 9 = true
  rotate_left
  · exact opX hI a (by decide) (fun _ hc => l1_echo hI hc) (x3_echo hI hs ok h0 h1 (b_f h2)) (q1_echo hI rfl ok (by rw [h0, h1, b_f h2]; rfl))
  obtain ⟨m, k1, rfl⟩ := cAB (a := 1) (b := 16) (by decide) (by decide) h0
  obtain ⟨b, k2, rfl⟩ := cAB (a := 1) (b := 12) (by decide) (by decide) h1
  obtain ⟨t, k3, rfl⟩ := cAB (a := 1) (b := 9) (by decide) (by decide) h2
  by_cases h3 : zc (hi 124) + m ≤ 48
  · exact opW (fun _ hc => l_echo hI hc) (w_echo hI hs ok k1 k2 k3 h3) (fun h g1 hI1 f => qW (q_echo hI1 (hm.fc f) ok k1 k2 k3 h0 h1 h2 h3)) (zecho_ok ok k2.1 k3.2 m h3).1 (svZ_ok okZ ok) okY
  · exact opX hI a (by decide) (fun _ hc => l2_echo hI hc) (x4_echo hI hs ok k1.2 h0 h1 h2 h3) (q2_echo hI rfl ok k1.2 h0 h1 h2 h3)
theorem oi_change (hI : am_Inv g) (a : LI hi g) (x v : Int32) : OpI M_L_change M_X10_change [.int x, .int v] hi g := by
  obtain ⟨Z, p, Y, c, cd, n, hs, hm, ok, okZ, okY⟩ := id a
  by_cases h0 : wi x 0 (hi 124 48 - 1) = true
  · by_cases h1 : wi v (-99) 99 = true
    · obtain ⟨t, ht, rfl⟩ := cS ok h0
      have h48 := ok.1.2.1
      exact opW (fun _ hc => l_change hI hc) (w_change hI hs ok ht h0 h1) (fun h g1 hI1 f => qW (q_change hI1 (hm.fc f) ok ht h0 h1)) (ok.up (fun _ => wi_rng h1) (fun e => by omega) (fun e => by omega) (fun e => by omega) (by omega) (by omega) (by omega) (fun e => by omega)) (svZ_ok okZ ok) okY
    · exact opX hI a (by decide) (fun _ hc => l2_change hI hc) (x2_change hI hs ok h0 (b_f h1)) (q2_change hI rfl ok h0 (b_f h1))
  · exact opX hI a (by decide) (fun _ hc => l1_change hI hc) (x1_change hI hs ok (b_f h0)) (q1_change hI rfl ok (b_f h0))
theorem oi_drop (hI : am_Inv g) (a : LI hi g) : OpI M_L_drop M_X10_drop [] hi g := by
  obtain ⟨Z, p, Y, c, cd, n, hs, hm, ok, okZ, okY⟩ := id a
  have h48 := ok.1.2.1
  by_cases h0 : 0 < zc (hi 124)
  · exact opW (fun _ hc => l_drop hI hc) (w_drop hI hs ok h0) (fun h g1 hI1 f => qW (q_drop hI1 (hm.fc f) ok h0)) (ok.up (fun e => by omega) (fun _ => ⟨_, by omega, rfl⟩) (fun e => by omega) (fun e => by omega) (by omega) (by omega) (by omega) (fun e => by omega)) (svZ_ok okZ ok) okY
  · exact opX hI a (by decide) (fun _ hc => l1_drop hI hc) (x1_drop hI hs ok h0) (q1_drop hI rfl ok h0)
theorem oi_empty (hI : am_Inv g) (a : LI hi g) : ∃ r : Int32, OpV M_X9_empty M_X10_empty (.int r) hi g := by
  obtain ⟨Z, p, Y, c, cd, n, hs, hm, ok, okZ, okY⟩ := id a
  exact ⟨_, opVW (w_empty hI hs ok) (fun h g1 hI1 f => qW (q_empty hI1 (hm.fc f) ok)) (ok.up (fun e => by omega) (fun _ => ⟨_, by omega, rfl⟩) (fun e => by omega) (fun e => by omega) (by omega) (by omega) (by omega) (fun e => by omega)) (svZ_ok okZ ok) okY⟩
theorem oi_setDelay (hI : am_Inv g) (a : LI hi g) (v : Int32) : OpI M_L_setDelay M_X10_setDelay [.int v] hi g := by
  obtain ⟨Z, p, Y, c, cd, n, hs, hm, ok, okZ, okY⟩ := id a
  by_cases h0 : wi v 1 12 = true
  · obtain ⟨d, hd, e⟩ := cAB (a := 1) (b := 12) (by decide) (by decide) h0
    exact opW (fun _ hc => l_setDelay hI hc) (w_setDelay hI hs ok h0) (fun h g1 hI1 f => qW (q_setDelay hI1 (hm.fc f) ok h0)) (ok.up (fun e => by omega) (fun e => by omega) (fun _ => ⟨d, hd.1, hd.2, e⟩) (fun e => by omega) (by omega) (by omega) (by omega) (fun e => by omega)) (svZ_ok okZ ok) okY
  · exact opX hI a (by decide) (fun _ hc => l1_setDelay hI hc) (x1_setDelay hI hs ok (b_f h0)) (q1_setDelay hI rfl ok (b_f h0))
theorem oi_setSpeed (hI : am_Inv g) (a : LI hi g) (v : Int32) : OpI M_L_setSpeed M_X10_setSpeed [.int v] hi g := by
  obtain ⟨Z, p, Y, c, cd, n, hs, hm, ok, okZ, okY⟩ := id a
  by_cases h0 : wi v 0 3 = true
  · exact opW (fun _ hc => l_setSpeed hI hc) (w_setSpeed hI hs ok h0) (fun h g1 hI1 f => qW (q_setSpeed hI1 (hm.fc f) ok h0)) (ok.up (fun e => by omega) (fun e => by omega) (fun e => by omega) (fun e => by omega) (by omega) (by omega) (by omega) (fun e => by omega)) (svZ_ok okZ ok) okY
  · exact opX hI a (by decide) (fun _ hc => l1_setSpeed hI hc) (x1_setSpeed hI hs ok (b_f h0)) (q1_setSpeed hI rfl ok (b_f h0))
theorem oi_setWeight (hI : am_Inv g) (a : LI hi g) (w v : Int32) : OpI M_L_setWeight M_X10_setWeight [.int w, .int v] hi g := by
  obtain ⟨Z, p, Y, c, cd, n, hs, hm, ok, okZ, okY⟩ := id a
  by_cases h0 : wi w 1 4 = true
  · by_cases h1 : wi v (-64) 64 = true
    · obtain ⟨k, hk, rfl⟩ := cW4 h0
      exact opW (fun _ hc => l_setWeight hI hc) (w_setWeight hI hs ok hk h0 h1) (fun h g1 hI1 f => qW (q_setWeight hI1 (hm.fc f) ok hk h0 h1)) (ok.up (fun e => by omega) (fun e => by omega) (fun e => by omega) (fun e => by omega) (by omega) (by omega) (by omega) (fun e => by omega)) (svZ_ok okZ ok) okY
    · exact opX hI a (by decide) (fun _ hc => l1_setWeight hI hc) (x2_setWeight hI hs ok h0 (b_f h1)) (q1_setWeight hI rfl ok (by rw [h0, b_f h1]; rfl))
  · exact opX hI a (by decide) (fun _ hc => l1_setWeight hI hc) (x1_setWeight hI hs ok (b_f h0)) (q1_setWeight hI rfl ok (by rw [b_f h0]; rfl))
theorem oi_turnKind (hI : am_Inv g) (a : LI hi g) (w : Int32) : OpB M_L_turnKind M_X10_turnKind [.int w] hi g := by
  obtain ⟨Z, p, Y, c, cd, n, hs, hm, ok, okZ, okY⟩ := id a
  by_cases h0 : wi w 0 4 = true
  · obtain ⟨k, hk, rfl⟩ := cK5 h0
    by_cases h1 : ¬ hi 124 55 = 1 <<< (nI k &&& 31)
    · exact opWB (fun _ hc => l_turnKind hI hc) (w_turnKind hI hs ok h0 h1) (fun h g1 hI1 f => qW (by have := q_turnKind hI1 (hm.fc f) ok h0 h1; rw [zal_up] at this; exact this)) (turn_ok ok (by omega) h1) (svZ_ok okZ ok) okY
    · exact opXB hI a (by decide) (fun _ hc => l2_turnKind hI hc) (x2_turnKind hI hs ok h0 h1) (q2_turnKind hI rfl ok h0 h1)
  · exact opXB hI a (by decide) (fun _ hc => l1_turnKind hI hc) (x1_turnKind hI hs ok (b_f h0)) (q1_turnKind hI rfl ok (b_f h0))
theorem oi_send (hI : am_Inv g) (a : LI hi g) : OpI M_L_send M_X10_send [] hi g := by
  obtain ⟨Z, p, Y, c, cd, n, hs, hm, ok, okZ, okY⟩ := id a
  by_cases h0 : 0 < zc (hi 124)
  · exact opW (fun _ hc => l_send hI hc) (w_send hI hs ok h0) (fun h g1 hI1 f => qW (q_send hI1 (hm.fc f) ok h0)) (zsend_ok ok) (svZ_ok okZ ok) okY
  · exact opX hI a (by decide) (fun _ hc => l1_send hI hc) (x1_send hI hs ok h0) (q1_send hI rfl ok h0)
theorem oi_tamper (hI : am_Inv g) (a : LI hi g) (x v : Int32) : OpI M_L_tamper M_X10_tamper [.int x, .int v] hi g := by
  obtain ⟨Z, p, Y, c, cd, n, hs, hm, ok, okZ, okY⟩ := id a
  have h48 : zt (hi 124) ≤ 48 := ok.2.2.1
  by_cases h0 : wi x 0 (nI (zt (hi 124)) - 1) = true
  · by_cases h1 : wi v (-198) 198 = true
    · obtain ⟨t, ht, rfl⟩ := cN (by omega) h0
      have hv : -198 ≤ v.toInt ∧ v.toInt ≤ 198 := by
        obtain ⟨e1, e2⟩ := wi_t.mp h1
        rw [am_le] at e1 e2
        exact ⟨e1, e2⟩
      exact opW (fun _ hc => l_tamper hI hc) (w_tamper hI hs ok ht h0 h1) (fun h g1 hI1 f => qW (q_tamper hI1 (hm.fc f) ok ht h0 h1)) (ok.up (fun e => by omega) (fun e => by omega) (fun e => by omega) (fun e => by omega) (by omega) (by omega) (by omega) (fun _ _ => hv)) (svZ_ok okZ ok) okY
    · exact opX hI a (by decide) (fun _ hc => l2_tamper hI hc) (x2_tamper hI hs ok h0 (b_f h1)) (q2_tamper hI rfl ok h0 (b_f h1))
  · exact opX hI a (by decide) (fun _ hc => l1_tamper hI hc) (x1_tamper hI hs ok (b_f h0)) (q1_tamper hI rfl ok (b_f h0))
theorem oi_keep (hI : am_Inv g) (a : LI hi g) (x : Int32) : OpI M_L_keep M_X10_keep [.int x] hi g := by
  obtain ⟨Z, p, Y, c, cd, n, hs, hm, ok, okZ, okY⟩ := id a
  by_cases h0 : wi x 0 1 = true
  · obtain ⟨k, hk, rfl⟩ := cK2 h0
    refine opW (fun _ hc => l_keep hI hc) (crW hI (w_keep hI hs ok hk h0)) (fun h g1 hI1 f => qW (q_keep hI1 (hm.fc f) ok hk h0)) ok okZ (fun i hi' hc => ?_)
    unfold updN at hc ⊢
    by_cases e : i = k
    · rw [if_pos e]; exact ok
    · rw [if_neg e] at hc ⊢; exact okY i hi' hc
  · exact opX hI a (by decide) (fun _ hc => l1_keep hI hc) (x1_keep hI hs ok (b_f h0)) (q1_keep hI rfl ok (b_f h0))
theorem oi_goBack (hI : am_Inv g) (a : LI hi g) (x : Int32) : OpI M_L_goBack M_X10_goBack [.int x] hi g := by
  obtain ⟨Z, p, Y, c, cd, n, hs, hm, ok, okZ, okY⟩ := id a
  by_cases h0 : wi x 0 1 = true
  · obtain ⟨k, hk, rfl⟩ := cK2 h0
    by_cases h1 : c k = true
    · exact opW (fun _ hc => l_goBack hI hc) (w_goBack hI hs ok hk h0 h1) (fun h g1 hI1 f => q_goBack hI1 (hm.fc f) ok hk h0 h1) (okY k hk h1) (svZ_ok okZ ok) okY
    · exact opX hI a (by decide) (fun _ hc => l2_goBack hI hc) (x2_goBack hI hs ok hk h0 (b_f h1)) (q2_goBack hI hm ok hk h0 (b_f h1))
  · exact opX hI a (by decide) (fun _ hc => l1_goBack hI hc) (x1_goBack hI hs ok (b_f h0)) (q1_goBack hI rfl ok (b_f h0))
theorem oi_append (hI : am_Inv g) (a : LI hi g) (v : Int32) : OpI M_L_append M_X10_append [.int v] hi g := by
  obtain ⟨Z, p, Y, c, cd, n, hs, hm, ok, okZ, okY⟩ := id a
  by_cases h0 : wi v 33 126 = true
  · obtain ⟨k, hk, rfl⟩ := cAB (a := 33) (b := 126) (by decide) (by decide) h0
    by_cases h1 : n < 80
    · exact opW (fun _ hc => l_append hI hc) (crW hI (w_append hI hs ok hk h0 h1)) (fun h g1 hI1 f => qW (q_append hI1 (hm.fc f) ok hk h0 h1)) ok okZ okY
    · exact opX hI a (by decide) (fun _ hc => l2_append hI hc) (x2_append hI hs ok hk h0 h1) (q2_append hI hm ok h0 h1)
  · exact opX hI a (by decide) (fun _ hc => l1_append hI hc) (x1_append hI hs ok (b_f h0)) (q1_append hI rfl ok (b_f h0))
theorem oi_clearText (hI : am_Inv g) (a : LI hi g) : ∃ r : Int32, OpV M_X9_clearText M_X10_clearText (.int r) hi g := by
  obtain ⟨Z, p, Y, c, cd, n, hs, hm, ok, okZ, okY⟩ := id a
  exact ⟨_, opVW (crW hI (w_clearText hI hs ok)) (fun h g1 hI1 f => qW (q_clearText hI1 (hm.fc f) ok)) ok okZ okY⟩
theorem oi_firstError (hI : am_Inv g) (a : LI hi g) : ∃ r : Int32, OpV M_X9_firstError M_X10_firstError (.int r) hi g := by
  obtain ⟨Z, p, Y, c, cd, n, hs, hm, ok, okZ, okY⟩ := id a
  refine ⟨_, opVW (crW hI (w_firstError hI hs ok)) (fun h g1 hI1 f => (q_firstError hI1 (hm.fc f)).mono (fun h2 ⟨f2, t⟩ => ?_)) ok okZ okY⟩
  have e : h2 124 = hi 124 := (f2.1 124 (by decide)).trans (f 124 (by decide))
  exact ⟨f2.M, t, fun j _ => by rw [e], by rw [e]; exact (hm.fc f).ms f2⟩
theorem oi_doWorks (hI : am_Inv g) (a : LI hi g) : OpI M_L_doWorks M_X10_doWorks [] hi g := by
  obtain ⟨Z, p, Y, c, cd, n, hs, hm, ok, okZ, okY⟩ := id a
  by_cases h0 : tl cd n 81 0 = -1
  · exact opW (fun _ hc => l_doWorks hI hc) (w_doWorks hI hs ok h0) (fun h g1 hI1 f => qW (q_doWorks hI1 (hm.fc f) ok h0)) (dwk_ok hs.2.2.2.2.1 81 0 (hi 124) 0 h0 (Nat.zero_le _) ok) (svZ_ok okZ ok) okY
  · refine ⟨1, _, l1_doWorks hI (x1_doWorks hI hs ok h0), fun h g1 hI1 ⟨⟨f, a1⟩, e⟩ => ?_⟩
    subst e
    refine ⟨0, _, q1_doWorks hI1 (hm.fc f) h0, fun h2 ⟨f2, t⟩ => ⟨t, fun q => absurd q (by decide), ?_⟩⟩
    have e : h2 124 = hi 124 := (f2.1 124 (by decide)).trans (f 124 (by decide))
    exact LI.of a1 f2.M (by rw [e]; exact (hm.fc f).ms f2) (fun j _ => by rw [e]) ok okZ okY
theorem oi_undo (hI : am_Inv g) (a : LI hi g) : OpI M_L_undo M_X10_undo [] hi g := by
  obtain ⟨Z, p, Y, c, cd, n, hs, hm, ok, okZ, okY⟩ := id a
  cases p with
  | zero => exact opX hI a (by decide) (fun _ hc => l1_undo hI hc) (x1_undo hI hs ok rfl) (q1_undo hI hm ok rfl)
  | succ p => exact opW (fun _ hc => l_undo hI hc) (crW hI (w_undo hI hs ok)) (fun h g1 hI1 f => q_undo hI1 (hm.fc f) ok) (okZ p (by omega)) (fun i hi' => okZ i (by omega)) okY
end OW
