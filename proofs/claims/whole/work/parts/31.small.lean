/-! ===== the JDK's own numbers; the small static methods ===== -/
theorem c_fd16 {hi : am_HI} {g : am_G} (x : Int32) : am_Cr M_J9_floorDiv_7cf53 [.int x, .int 16] hi g (some (.int (x >>> 4))) (fun h => h = hi) := by
  refine am_ct (by decide) (by decide) ?_
  show AP M_J9_floorDiv_7cf53 (0, 0) 0 [.int x, .int 16, jk] [] hi g _
  have e := am_fd16 x
  refine s_J9_floorDiv_7cf53_0 ?_
  refine s_J9_floorDiv_7cf53_1 ?_
  refine s_J9_floorDiv_7cf53_2 (by decide) ?_
  refine s_J9_floorDiv_7cf53_3 rfl ?_
  refine s_J9_floorDiv_7cf53_4 ?_
  refine s_J9_floorDiv_7cf53_5 ?_
  refine s_J9_floorDiv_7cf53_6 ?_
  refine s_J9_floorDiv_7cf53_7 (fun h1 => ?_) (fun h1 => ?_)
  · rw [if_neg (fun z => z.1 h1)] at e
    refine s_J9_floorDiv_7cf53_21 ?_
    refine s_J9_floorDiv_7cf53_22 ?_
    rw [e]
    exact ⟨rfl, rfl, rfl⟩
  · refine s_J9_floorDiv_7cf53_10 ?_
    refine s_J9_floorDiv_7cf53_11 ?_
    refine s_J9_floorDiv_7cf53_12 ?_
    refine s_J9_floorDiv_7cf53_13 ?_
    refine s_J9_floorDiv_7cf53_14 (fun h2 => ?_) (fun h2 => ?_)
    · rw [if_neg (fun z => z.2 h2)] at e
      refine s_J9_floorDiv_7cf53_21 ?_
      refine s_J9_floorDiv_7cf53_22 ?_
      rw [e]
      exact ⟨rfl, rfl, rfl⟩
    · rw [if_pos ⟨h1, h2⟩] at e
      refine s_J9_floorDiv_7cf53_17 ?_
      refine s_J9_floorDiv_7cf53_18 ?_
      refine s_J9_floorDiv_7cf53_19 ?_
      refine s_J9_floorDiv_7cf53_20 ?_
      rw [e]
      exact ⟨rfl, rfl, rfl⟩
theorem c_limit {hi : am_HI} {g : am_G} (x : Int32) : am_Cr M_X9_limit [.int x] hi g (some (.int (lim x))) (fun h => h = hi) := by
  refine am_ct (by decide) (by decide) ?_
  show AP M_X9_limit (0, 0) 0 [.int x] [] hi g _
  unfold lim
  refine s_X9_limit_0 ?_
  refine s_X9_limit_1 ?_
