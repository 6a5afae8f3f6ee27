/-! ===== the law's loop ===== -/
theorem and63 : ∀ x : Int32, ∃ k : Nat, k < 64 ∧ x &&& 63 = nI k := by
  intro x
  refine ⟨(x &&& 63).toBitVec.toNat, ?_, ?_⟩
  · rw [Int32.toBitVec_and, BitVec.toNat_and]
    exact Nat.lt_of_le_of_lt Nat.and_le_right (by decide)
  · refine Int32.toBitVec_inj.mp ?_
    show _ = BitVec.ofNat 32 _
    rw [BitVec.ofNat_toNat]
    simp
/-- one turn of the loop, from the switch on -/
theorem law_turn {S : am_S} {n j : Nat} {x5 x6 x7 x8 : Value} {hi : am_HI} {g : am_G} (hI : am_Inv g) (a : LI hi g) (hS : S.2.1 ≤ 2048) (hj : j + 3 < S.2.1) (hn : LN S n j) (k : Nat) (hk : k < 64) : QP S (n + 1, 6 * (n + 1)) 39 (lL j x5 x6 x7 x8) [.int (nI k)] hi g := by
  by_cases h57 : 57 ≤ k
  · refine QP.less (b' := (n, 6 * n)) ?_ ⟨by show n ≤ n + 1; omega, by show 6 * n ≤ 6 * (n + 1); omega⟩
    exact QP.tableOut (tgt := 2751) d_L_law_39 (Or.inr (by rw [am_nI (by omega)]; omega)) (by decide) (hn _ _ _ _ _ _ hI a)
  · match k, hk, h57 with
    | 0, _, _ => exact QP.tableIn (off := 241) (tgt := 280) d_L_law_39 (by decide) (by decide) rfl (by decide) (lb_add hI hS hj (oi_add hI a (S.2.2 (j + 1))) hn)
    | 1, _, _ => exact QP.tableIn (off := 297) (tgt := 336) d_L_law_39 (by decide) (by decide) rfl (by decide) (lb_echo hI hS hj (oi_echo hI a (S.2.2 (j + 1)) (S.2.2 (j + 2)) (S.2.2 (j + 3))) hn)
    | 2, _, _ => exact QP.tableIn (off := 377) (tgt := 416) d_L_law_39 (by decide) (by decide) rfl (by decide) (lb_change hI hS hj (oi_change hI a (S.2.2 (j + 1)) (S.2.2 (j + 2))) hn)
    | 3, _, _ => exact QP.tableIn (off := 445) (tgt := 484) d_L_law_39 (by decide) (by decide) rfl (by decide) (lb_drop hI hS hj (oi_drop hI a) hn)
    | 4, _, _ => exact QP.tableIn (off := 489) (tgt := 528) d_L_law_39 (by decide) (by decide) rfl (by decide) ((by obtain ⟨r, ho⟩ := oi_empty hI a; exact lb_empty hI ho hn))
    | 5, _, _ => exact QP.tableIn (off := 502) (tgt := 541) d_L_law_39 (by decide) (by decide) rfl (by decide) (lb_setDelay hI hS hj (oi_setDelay hI a (S.2.2 (j + 1))) hn)
    | 6, _, _ => exact QP.tableIn (off := 558) (tgt := 597) d_L_law_39 (by decide) (by decide) rfl (by decide) (lb_setSpeed hI hS hj (oi_setSpeed hI a (S.2.2 (j + 1))) hn)
    | 7, _, _ => exact QP.tableIn (off := 614) (tgt := 653) d_L_law_39 (by decide) (by decide) rfl (by decide) (lb_setWeight hI hS hj (oi_setWeight hI a (S.2.2 (j + 1)) (S.2.2 (j + 2))) hn)
    | 8, _, _ => exact QP.tableIn (off := 682) (tgt := 721) d_L_law_39 (by decide) (by decide) rfl (by decide) (lb_turnKind hI hS hj (oi_turnKind hI a (S.2.2 (j + 1))) hn)
    | 9, _, _ => exact QP.tableIn (off := 745) (tgt := 784) d_L_law_39 (by decide) (by decide) rfl (by decide) (lb_send hI hS hj (oi_send hI a) hn)
    | 10, _, _ => exact QP.tableIn (off := 789) (tgt := 828) d_L_law_39 (by decide) (by decide) rfl (by decide) (lb_tamper hI hS hj (oi_tamper hI a (S.2.2 (j + 1)) (S.2.2 (j + 2))) hn)
    | 11, _, _ => exact QP.tableIn (off := 857) (tgt := 896) d_L_law_39 (by decide) (by decide) rfl (by decide) ((by obtain ⟨r, ho⟩ := oi_samples hI a; exact lb_samples hI ho hn))
    | 12, _, _ => exact QP.tableIn (off := 870) (tgt := 909) d_L_law_39 (by decide) (by decide) rfl (by decide) (lb_sampleAt hI hS hj (oi_sampleAt hI a (S.2.2 (j + 1))) hn)
    | 13, _, _ => exact QP.tableIn (off := 926) (tgt := 965) d_L_law_39 (by decide) (by decide) rfl (by decide) ((by obtain ⟨r, ho⟩ := oi_blocks hI a; exact lb_blocks hI ho hn))
    | 14, _, _ => exact QP.tableIn (off := 939) (tgt := 978) d_L_law_39 (by decide) (by decide) rfl (by decide) ((by obtain ⟨r, ho⟩ := oi_delay hI a; exact lb_delay hI ho hn))
    | 15, _, _ => exact QP.tableIn (off := 952) (tgt := 991) d_L_law_39 (by decide) (by decide) rfl (by decide) ((by obtain ⟨r, ho⟩ := oi_speed hI a; exact lb_speed hI ho hn))
    | 16, _, _ => exact QP.tableIn (off := 965) (tgt := 1004) d_L_law_39 (by decide) (by decide) rfl (by decide) ((by obtain ⟨r, ho⟩ := oi_allowed hI a; exact lb_allowed hI ho hn))
    | 17, _, _ => exact QP.tableIn (off := 978) (tgt := 1017) d_L_law_39 (by decide) (by decide) rfl (by decide) (lb_firstWeight hI hS hj (oi_firstWeight hI a (S.2.2 (j + 1))) hn)
    | 18, _, _ => exact QP.tableIn (off := 1034) (tgt := 1073) d_L_law_39 (by decide) (by decide) rfl (by decide) ((by obtain ⟨r, hr, ho⟩ := oi_loudness hI a; exact lb_loudness hI hr ho hn))
    | 19, _, _ => exact QP.tableIn (off := 1075) (tgt := 1114) d_L_law_39 (by decide) (by decide) rfl (by decide) (lb_weightAt hI hS hj (oi_weightAt hI a (S.2.2 (j + 1)) (S.2.2 (j + 2))) hn)
    | 20, _, _ => exact QP.tableIn (off := 1143) (tgt := 1182) d_L_law_39 (by decide) (by decide) rfl (by decide) (lb_weightByCounting hI hS hj (oi_weightByCounting hI a (S.2.2 (j + 1)) (S.2.2 (j + 2))) hn)
    | 21, _, _ => exact QP.tableIn (off := 1211) (tgt := 1250) d_L_law_39 (by decide) (by decide) rfl (by decide) (lb_foretold hI hS hj (oi_foretold hI a (S.2.2 (j + 1)) (S.2.2 (j + 2))) hn)
    | 22, _, _ => exact QP.tableIn (off := 1279) (tgt := 1318) d_L_law_39 (by decide) (by decide) rfl (by decide) (lb_leftOver hI hS hj (oi_leftOver hI a (S.2.2 (j + 1)) (S.2.2 (j + 2))) hn)
    | 23, _, _ => exact QP.tableIn (off := 1347) (tgt := 1386) d_L_law_39 (by decide) (by decide) rfl (by decide) (lb_sumOf hI hS hj (oi_sumOf hI a (S.2.2 (j + 1))) hn)
    | 24, _, _ => exact QP.tableIn (off := 1403) (tgt := 1442) d_L_law_39 (by decide) (by decide) rfl (by decide) (lb_sumWithDelay hI hS hj (oi_sumWithDelay hI a (S.2.2 (j + 1))) hn)
    | 25, _, _ => exact QP.tableIn (off := 1459) (tgt := 1498) d_L_law_39 (by decide) (by decide) rfl (by decide) ((by obtain ⟨r, ho⟩ := oi_bestDelay hI a; exact lb_bestDelay hI ho hn))
    | 26, _, _ => exact QP.tableIn (off := 1472) (tgt := 1511) d_L_law_39 (by decide) (by decide) rfl (by decide) ((by obtain ⟨r, ho⟩ := oi_bestSpeed hI a; exact lb_bestSpeed hI ho hn))
    | 27, _, _ => exact QP.tableIn (off := 1485) (tgt := 1524) d_L_law_39 (by decide) (by decide) rfl (by decide) (lb_bestFirst hI hS hj (oi_bestFirst hI a (S.2.2 (j + 1))) hn)
    | 28, _, _ => exact QP.tableIn (off := 1541) (tgt := 1580) d_L_law_39 (by decide) (by decide) rfl (by decide) (lb_bitsWith hI hS hj (oi_bitsWith hI a (S.2.2 (j + 1)) (S.2.2 (j + 2)) (S.2.2 (j + 3))) hn)
    | 29, _, _ => exact QP.tableIn (off := 1621) (tgt := 1660) d_L_law_39 (by decide) (by decide) rfl (by decide) (lb_bestParameter hI hS hj (oi_bestParameter hI a (S.2.2 (j + 1)) (S.2.2 (j + 2))) hn)
    | 30, _, _ => exact QP.tableIn (off := 1689) (tgt := 1728) d_L_law_39 (by decide) (by decide) rfl (by decide) (lb_bestKind hI hS hj (oi_bestKind hI a (S.2.2 (j + 1))) hn)
    | 31, _, _ => exact QP.tableIn (off := 1745) (tgt := 1784) d_L_law_39 (by decide) (by decide) rfl (by decide) (lb_whyBest hI hS hj (oi_whyBest hI a (S.2.2 (j + 1))) hn)
    | 32, _, _ => exact QP.tableIn (off := 1801) (tgt := 1840) d_L_law_39 (by decide) (by decide) rfl (by decide) ((by obtain ⟨r, ho⟩ := oi_bits hI a; exact lb_bits hI ho hn))
    | 33, _, _ => exact QP.tableIn (off := 1814) (tgt := 1853) d_L_law_39 (by decide) (by decide) rfl (by decide) ((by obtain ⟨r, ho⟩ := oi_bitsByKinds hI a; exact lb_bitsByKinds hI ho hn))
    | 34, _, _ => exact QP.tableIn (off := 1827) (tgt := 1866) d_L_law_39 (by decide) (by decide) rfl (by decide) (lb_blocksWith hI hS hj (oi_blocksWith hI a (S.2.2 (j + 1))) hn)
    | 35, _, _ => exact QP.tableIn (off := 1883) (tgt := 1922) d_L_law_39 (by decide) (by decide) rfl (by decide) (lb_bitsIfOnly hI hS hj (oi_bitsIfOnly hI a (S.2.2 (j + 1))) hn)
    | 36, _, _ => exact QP.tableIn (off := 1939) (tgt := 1978) d_L_law_39 (by decide) (by decide) rfl (by decide) ((by obtain ⟨r, ho⟩ := oi_told hI a; exact lb_told hI ho hn))
    | 37, _, _ => exact QP.tableIn (off := 1952) (tgt := 1991) d_L_law_39 (by decide) (by decide) rfl (by decide) (lb_letterKind hI hS hj (oi_letterKind hI a (S.2.2 (j + 1))) hn)
    | 38, _, _ => exact QP.tableIn (off := 2008) (tgt := 2047) d_L_law_39 (by decide) (by decide) rfl (by decide) (lb_letterParameter hI hS hj (oi_letterParameter hI a (S.2.2 (j + 1))) hn)
    | 39, _, _ => exact QP.tableIn (off := 2064) (tgt := 2103) d_L_law_39 (by decide) (by decide) rfl (by decide) (lb_letterLeft hI hS hj (oi_letterLeft hI a (S.2.2 (j + 1))) hn)
    | 40, _, _ => exact QP.tableIn (off := 2120) (tgt := 2159) d_L_law_39 (by decide) (by decide) rfl (by decide) ((by obtain ⟨r, ho⟩ := oi_letterBits hI a; exact lb_letterBits hI ho hn))
    | 41, _, _ => exact QP.tableIn (off := 2133) (tgt := 2172) d_L_law_39 (by decide) (by decide) rfl (by decide) (lb_letterBit hI hS hj (oi_letterBit hI a (S.2.2 (j + 1))) hn)
    | 42, _, _ => exact QP.tableIn (off := 2196) (tgt := 2235) d_L_law_39 (by decide) (by decide) rfl (by decide) (lb_heard hI hS hj (oi_heard hI a (S.2.2 (j + 1))) hn)
    | 43, _, _ => exact QP.tableIn (off := 2252) (tgt := 2291) d_L_law_39 (by decide) (by decide) rfl (by decide) (lb_heardByBits hI hS hj (oi_heardByBits hI a (S.2.2 (j + 1))) hn)
    | 44, _, _ => exact QP.tableIn (off := 2308) (tgt := 2347) d_L_law_39 (by decide) (by decide) rfl (by decide) ((by obtain ⟨r, ho⟩ := oi_unlike hI a; exact lb_unlike hI ho hn))
    | 45, _, _ => exact QP.tableIn (off := 2321) (tgt := 2360) d_L_law_39 (by decide) (by decide) rfl (by decide) ((by obtain ⟨r, ho⟩ := oi_firstUnlike hI a; exact lb_firstUnlike hI ho hn))
    | 46, _, _ => exact QP.tableIn (off := 2334) (tgt := 2373) d_L_law_39 (by decide) (by decide) rfl (by decide) (lb_harm hI hS hj (oi_harm hI a (S.2.2 (j + 1))) hn)
    | 47, _, _ => exact QP.tableIn (off := 2390) (tgt := 2429) d_L_law_39 (by decide) (by decide) rfl (by decide) ((by obtain ⟨r, ho⟩ := oi_worst hI a; exact lb_worst hI ho hn))
    | 48, _, _ => exact QP.tableIn (off := 2403) (tgt := 2442) d_L_law_39 (by decide) (by decide) rfl (by decide) ((by obtain ⟨r, ho⟩ := oi_sent hI a; exact lb_sent hI ho hn))
    | 49, _, _ => exact QP.tableIn (off := 2416) (tgt := 2455) d_L_law_39 (by decide) (by decide) rfl (by decide) (lb_keep hI hS hj (oi_keep hI a (S.2.2 (j + 1))) hn)
    | 50, _, _ => exact QP.tableIn (off := 2472) (tgt := 2511) d_L_law_39 (by decide) (by decide) rfl (by decide) (lb_goBack hI hS hj (oi_goBack hI a (S.2.2 (j + 1))) hn)
    | 51, _, _ => exact QP.tableIn (off := 2528) (tgt := 2567) d_L_law_39 (by decide) (by decide) rfl (by decide) (lb_append hI hS hj (oi_append hI a (S.2.2 (j + 1))) hn)
    | 52, _, _ => exact QP.tableIn (off := 2584) (tgt := 2623) d_L_law_39 (by decide) (by decide) rfl (by decide) ((by obtain ⟨r, ho⟩ := oi_clearText hI a; exact lb_clearText hI ho hn))
    | 53, _, _ => exact QP.tableIn (off := 2597) (tgt := 2636) d_L_law_39 (by decide) (by decide) rfl (by decide) ((by obtain ⟨r, ho⟩ := oi_firstError hI a; exact lb_firstError hI ho hn))
    | 54, _, _ => exact QP.tableIn (off := 2610) (tgt := 2649) d_L_law_39 (by decide) (by decide) rfl (by decide) (lb_doWorks hI hS hj (oi_doWorks hI a) hn)
    | 55, _, _ => exact QP.tableIn (off := 2654) (tgt := 2693) d_L_law_39 (by decide) (by decide) rfl (by decide) (lb_undo hI hS hj (oi_undo hI a) hn)
    | 56, _, _ => exact QP.tableIn (off := 2698) (tgt := 2737) d_L_law_39 (by decide) (by decide) rfl (by decide) ((by obtain ⟨r, ho⟩ := oi_digest hI a; exact lb_digest hI ho hn))
    | k + 57, _, h => exact absurd (Nat.le_add_left 57 k) h
theorem law_loop {S : am_S} (hS : S.2.1 ≤ 2048) : ∀ (n j : Nat) (x5 x6 x7 x8 : Value) (hi : am_HI) (g : am_G), am_Inv g → LI hi g → S.2.1 ≤ j + 4 * n + 3 → j ≤ 4096 → QP S (n, 6 * n) 23 (lL j x5 x6 x7 x8) [] hi g := by
  intro n
  induction n with
  | zero =>
    intro j x5 x6 x7 x8 hi g hI a h hj
    refine QP.iload (i := 4) d_L_law_23 rfl ?_
    refine QP.slen d_L_law_25 d_L_law_26 ?_
    refine QP.iconst (x := 4) d_L_law_27 (by decide) ?_
    refine QP.isub d_L_law_28 ?_
    refine QP.icmp_gt (tgt := 2757) d_L_law_29 (by decide) (fun _ => ?_) (fun q => absurd ?_ q)
    · exact QP.iconst (x := 1) d_L_law_2757 (by decide) (QP.ret d_L_law_2758)
    · show nI S.2.1 - 4 < nI j
      rw [am_lt, am_nI (by omega), i_sub (by rw [am_nI (by omega)]; show _ ≤ (S.2.1 : Int) - 4; omega) (by rw [am_nI (by omega)]; show (S.2.1 : Int) - 4 < _; omega), am_nI (by omega)]
      show (S.2.1 : Int) - 4 < j
      omega
  | succ n ih =>
    intro j x5 x6 x7 x8 hi g hI a h hj
    refine QP.iload (i := 4) d_L_law_23 rfl ?_
    refine QP.slen d_L_law_25 d_L_law_26 ?_
    refine QP.iconst (x := 4) d_L_law_27 (by decide) ?_
    refine QP.isub d_L_law_28 ?_
    refine QP.icmp_gt (tgt := 2757) d_L_law_29 (by decide) (fun _ => ?_) (fun q => ?_)
    · exact QP.iconst (x := 1) d_L_law_2757 (by decide) (QP.ret d_L_law_2758)
    · have hlt : j + 3 < S.2.1 := by
        rcases Nat.lt_or_ge (j + 3) S.2.1 with q2 | q2
        · exact q2
        · refine absurd ?_ q
          show nI S.2.1 - 4 < nI j
          rw [am_lt, am_nI (by omega), i_sub (by rw [am_nI (by omega)]; show _ ≤ (S.2.1 : Int) - 4; omega) (by rw [am_nI (by omega)]; show (S.2.1 : Int) - 4 < _; omega), am_nI (by omega)]
          show (S.2.1 : Int) - 4 < j
          omega
      refine QP.rd0 (j := j) d_L_law_32 d_L_law_33 d_L_law_35 rfl (by omega) hS ?_
      refine QP.bipush (x := 63) d_L_law_36 (by decide) ?_
      refine QP.iand d_L_law_38 ?_
      obtain ⟨k, hk, e⟩ := and63 (S.2.2 j)
      rw [e]
      refine law_turn hI a hS hlt (fun h2 g2 y5 y6 y7 y8 hI2 a2 => ?_) k hk
      refine QP.iinc (i := 4) (y := nI (j + 4)) d_L_law_2751 rfl (nI_add j 4) (by decide) (by decide) rfl ?_
      exact QP.goto (tgt := 23) d_L_law_2754 (by decide) (ih (j + 4) y5 y6 y7 y8 h2 g2 hI2 a2 (by omega) (by omega))
