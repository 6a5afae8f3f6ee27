/-! ===== the law's invariant; its calls ===== -/
/-- class and model say the same: z now, Z the p saved, Y the snapshots, cd the text -/
def LI (hi : am_HI) (g : am_G) : Prop := ∃ (Z : Nat → Nat → Int32) (p : Nat) (Y : Nat → Nat → Int32) (c : Nat → Bool) (cd : Nat → Nat) (n : Nat), CS hi g (hi 124) Z p Y c cd n ∧ MM hi (hi 124) Z p Y c cd n ∧ OKz (hi 124) ∧ (∀ i, i < p → OKz (Z i)) ∧ (∀ k, k < 2 → c k = true → OKz (Y k))
abbrev lL (j : Nat) (x5 x6 x7 x8 : Value) : List Value := [jk, .ref 0, .ref 123, .ref 133, .int (nI j), x5, x6, x7, x8]
/-- a call that may be refused: the class's code and answer, the model's alike -/
def OpI (ML MX : am_M) (as : List Value) (hi : am_HI) (g : am_G) : Prop := ∃ (code : Int32) (P : am_HI → am_G → Prop), am_Cl ML (.ref 0 :: (as ++ [.ref 133])) hi g code P ∧ ∀ h g1, am_Inv g1 → P h g1 → ∃ (r : Int32) (Q : am_HI → Prop), am_Cr MX (.ref 123 :: as) h g1 (some (.int r)) Q ∧ ∀ h2, Q h2 → h2 123 10 = code ∧ (code = 0 → g1.2.2 133 0 = r.toInt64) ∧ LI h2 g1
def OpB (ML MX : am_M) (as : List Value) (hi : am_HI) (g : am_G) : Prop := ∃ (code : Int32) (P : am_HI → am_G → Prop), am_Cl ML (.ref 0 :: (as ++ [.ref 133])) hi g code P ∧ ∀ h g1, am_Inv g1 → P h g1 → ∃ (x : Bool) (Q : am_HI → Prop), am_Cr MX (.ref 123 :: as) h g1 (some (.int (bI x))) Q ∧ ∀ h2, Q h2 → h2 123 10 = code ∧ (code = 0 → g1.2.2 133 0 = (if x = true then 1 else 0)) ∧ LI h2 g1
/-- a call that is never refused -/
def OpV (MC MX : am_M) (r : Value) (hi : am_HI) (g : am_G) : Prop := ∃ (P : am_HI → am_G → Prop), am_Cg MC [.ref 0] hi g (some r) P ∧ ∀ h g1, am_Inv g1 → P h g1 → ∃ (Q : am_HI → Prop), am_Cr MX [.ref 123] h g1 (some r) Q ∧ ∀ h2, Q h2 → LI h2 g1
/-- the way on behind a block -/
def LN (S : am_S) (n j : Nat) : Prop := ∀ (h : am_HI) (g : am_G) (x5 x6 x7 x8 : Value), am_Inv g → LI h g → QP S (n, 6 * n) 2751 (lL j x5 x6 x7 x8) [] h g
theorem QP.less {S : am_S} {b b' : Nat × Nat} {pc : Nat} {L st : List Value} {hi : am_HI} {g : am_G} (h : QP S b' pc L st hi g) (e : b'.1 ≤ b.1 ∧ b'.2 ≤ b.2) : QP S b pc L st hi g :=
  fun l v p e' R s m args below meth c H locs cells slots ls Q C X E hl Y => h l v p e' R s m args below meth c H locs cells slots ls Q C X E hl ⟨Y.1, Y.2.1, by have := Y.2.2.1; omega, by have := Y.2.2.2.1; omega, Y.2.2.2.2⟩
theorem lg_cmp_rf (x : Int64) : lg_cmp x x = 0 := by
  unfold lg_cmp
  simp
theorem lw_ini : Cond.initialized "CaveEchoesLaw" ∈ am_GT := am_gt 66 (by decide +kernel) (by decide +kernel)
def wk_add : List Cond := [Cond.methodLink "CaveEchoesLaw" 135 yL_add, Cond.static yL_add, Cond.codeWith yL_add method_3_code 4 (some .int) [(0, 9, 12, 13), (0, 9, 15, 15)]]
theorem wk_add_ok : ∀ w ∈ wk_add, w ∈ am_GT := am_sub wk_add 720 (by decide +kernel)
theorem kx_add : am_csX M_L_law 135 M_L_add 3 := ⟨by decide +kernel, lw_ini, wk_add_ok _ (List.mem_of_getElem? (i := 2) rfl), wk_add_ok _ (List.mem_of_getElem? (i := 0) rfl), wk_add_ok _ (List.mem_of_getElem? (i := 1) rfl)⟩
def wk_echo : List Cond := [Cond.methodLink "CaveEchoesLaw" 144 yL_echo, Cond.static yL_echo, Cond.codeWith yL_echo method_4_code 6 (some .int) [(0, 12, 15, 13), (0, 12, 19, 15)]]
theorem wk_echo_ok : ∀ w ∈ wk_echo, w ∈ am_GT := am_sub wk_echo 831 (by decide +kernel)
theorem kx_echo : am_csX M_L_law 144 M_L_echo 5 := ⟨by decide +kernel, lw_ini, wk_echo_ok _ (List.mem_of_getElem? (i := 2) rfl), wk_echo_ok _ (List.mem_of_getElem? (i := 0) rfl), wk_echo_ok _ (List.mem_of_getElem? (i := 1) rfl)⟩
def wk_change : List Cond := [Cond.methodLink "CaveEchoesLaw" 148 yL_change, Cond.static yL_change, Cond.codeWith yL_change method_5_code 5 (some .int) [(0, 10, 13, 25), (0, 10, 17, 13)]]
theorem wk_change_ok : ∀ w ∈ wk_change, w ∈ am_GT := am_sub wk_change 839 (by decide +kernel)
theorem kx_change : am_csX M_L_law 148 M_L_change 4 := ⟨by decide +kernel, lw_ini, wk_change_ok _ (List.mem_of_getElem? (i := 2) rfl), wk_change_ok _ (List.mem_of_getElem? (i := 0) rfl), wk_change_ok _ (List.mem_of_getElem? (i := 1) rfl)⟩
def wk_drop : List Cond := [Cond.methodLink "CaveEchoesLaw" 152 yL_drop, Cond.static yL_drop, Cond.codeWith yL_drop method_6_code 3 (some .int) [(0, 8, 11, 15)]]
theorem wk_drop_ok : ∀ w ∈ wk_drop, w ∈ am_GT := am_sub wk_drop 866 (by decide +kernel)
theorem kx_drop : am_csX M_L_law 152 M_L_drop 2 := ⟨by decide +kernel, lw_ini, wk_drop_ok _ (List.mem_of_getElem? (i := 2) rfl), wk_drop_ok _ (List.mem_of_getElem? (i := 0) rfl), wk_drop_ok _ (List.mem_of_getElem? (i := 1) rfl)⟩
def wk_setDelay : List Cond := [Cond.methodLink "CaveEchoesLaw" 160 yL_setDelay, Cond.static yL_setDelay, Cond.codeWith yL_setDelay method_7_code 4 (some .int) [(0, 9, 12, 13)]]
theorem wk_setDelay_ok : ∀ w ∈ wk_setDelay, w ∈ am_GT := am_sub wk_setDelay 873 (by decide +kernel)
theorem kx_setDelay : am_csX M_L_law 160 M_L_setDelay 3 := ⟨by decide +kernel, lw_ini, wk_setDelay_ok _ (List.mem_of_getElem? (i := 2) rfl), wk_setDelay_ok _ (List.mem_of_getElem? (i := 0) rfl), wk_setDelay_ok _ (List.mem_of_getElem? (i := 1) rfl)⟩
def wk_setSpeed : List Cond := [Cond.methodLink "CaveEchoesLaw" 163 yL_setSpeed, Cond.static yL_setSpeed, Cond.codeWith yL_setSpeed method_8_code 4 (some .int) [(0, 9, 12, 13)]]
theorem wk_setSpeed_ok : ∀ w ∈ wk_setSpeed, w ∈ am_GT := am_sub wk_setSpeed 880 (by decide +kernel)
theorem kx_setSpeed : am_csX M_L_law 163 M_L_setSpeed 3 := ⟨by decide +kernel, lw_ini, wk_setSpeed_ok _ (List.mem_of_getElem? (i := 2) rfl), wk_setSpeed_ok _ (List.mem_of_getElem? (i := 0) rfl), wk_setSpeed_ok _ (List.mem_of_getElem? (i := 1) rfl)⟩
def wk_setWeight : List Cond := [Cond.methodLink "CaveEchoesLaw" 166 yL_setWeight, Cond.static yL_setWeight, Cond.codeWith yL_setWeight method_9_code 5 (some .int) [(0, 10, 13, 13)]]
theorem wk_setWeight_ok : ∀ w ∈ wk_setWeight, w ∈ am_GT := am_sub wk_setWeight 887 (by decide +kernel)
theorem kx_setWeight : am_csX M_L_law 166 M_L_setWeight 4 := ⟨by decide +kernel, lw_ini, wk_setWeight_ok _ (List.mem_of_getElem? (i := 2) rfl), wk_setWeight_ok _ (List.mem_of_getElem? (i := 0) rfl), wk_setWeight_ok _ (List.mem_of_getElem? (i := 1) rfl)⟩
def wk_turnKind : List Cond := [Cond.methodLink "CaveEchoesLaw" 169 yL_turnKind, Cond.static yL_turnKind, Cond.codeWith yL_turnKind method_10_code 4 (some .int) [(0, 16, 19, 13), (0, 16, 22, 15)]]
theorem wk_turnKind_ok : ∀ w ∈ wk_turnKind, w ∈ am_GT := am_sub wk_turnKind 894 (by decide +kernel)
theorem kx_turnKind : am_csX M_L_law 169 M_L_turnKind 3 := ⟨by decide +kernel, lw_ini, wk_turnKind_ok _ (List.mem_of_getElem? (i := 2) rfl), wk_turnKind_ok _ (List.mem_of_getElem? (i := 0) rfl), wk_turnKind_ok _ (List.mem_of_getElem? (i := 1) rfl)⟩
def wk_send : List Cond := [Cond.methodLink "CaveEchoesLaw" 172 yL_send, Cond.static yL_send, Cond.codeWith yL_send method_11_code 3 (some .int) [(0, 8, 11, 15)]]
theorem wk_send_ok : ∀ w ∈ wk_send, w ∈ am_GT := am_sub wk_send 913 (by decide +kernel)
theorem kx_send : am_csX M_L_law 172 M_L_send 2 := ⟨by decide +kernel, lw_ini, wk_send_ok _ (List.mem_of_getElem? (i := 2) rfl), wk_send_ok _ (List.mem_of_getElem? (i := 0) rfl), wk_send_ok _ (List.mem_of_getElem? (i := 1) rfl)⟩
def wk_tamper : List Cond := [Cond.methodLink "CaveEchoesLaw" 175 yL_tamper, Cond.static yL_tamper, Cond.codeWith yL_tamper method_12_code 5 (some .int) [(0, 10, 13, 25), (0, 10, 17, 13)]]
theorem wk_tamper_ok : ∀ w ∈ wk_tamper, w ∈ am_GT := am_sub wk_tamper 927 (by decide +kernel)
theorem kx_tamper : am_csX M_L_law 175 M_L_tamper 4 := ⟨by decide +kernel, lw_ini, wk_tamper_ok _ (List.mem_of_getElem? (i := 2) rfl), wk_tamper_ok _ (List.mem_of_getElem? (i := 0) rfl), wk_tamper_ok _ (List.mem_of_getElem? (i := 1) rfl)⟩
def wk_sampleAt : List Cond := [Cond.methodLink "CaveEchoesLaw" 182 yL_sampleAt, Cond.static yL_sampleAt, Cond.codeWith yL_sampleAt method_13_code 4 (some .int) [(0, 9, 12, 25)]]
theorem wk_sampleAt_ok : ∀ w ∈ wk_sampleAt, w ∈ am_GT := am_sub wk_sampleAt 938 (by decide +kernel)
theorem kx_sampleAt : am_csX M_L_law 182 M_L_sampleAt 3 := ⟨by decide +kernel, lw_ini, wk_sampleAt_ok _ (List.mem_of_getElem? (i := 2) rfl), wk_sampleAt_ok _ (List.mem_of_getElem? (i := 0) rfl), wk_sampleAt_ok _ (List.mem_of_getElem? (i := 1) rfl)⟩
def wk_firstWeight : List Cond := [Cond.methodLink "CaveEchoesLaw" 201 yL_firstWeight, Cond.static yL_firstWeight, Cond.codeWith yL_firstWeight method_14_code 4 (some .int) [(0, 9, 12, 13)]]
theorem wk_firstWeight_ok : ∀ w ∈ wk_firstWeight, w ∈ am_GT := am_sub wk_firstWeight 945 (by decide +kernel)
theorem kx_firstWeight : am_csX M_L_law 201 M_L_firstWeight 3 := ⟨by decide +kernel, lw_ini, wk_firstWeight_ok _ (List.mem_of_getElem? (i := 2) rfl), wk_firstWeight_ok _ (List.mem_of_getElem? (i := 0) rfl), wk_firstWeight_ok _ (List.mem_of_getElem? (i := 1) rfl)⟩
def wk_weightAt : List Cond := [Cond.methodLink "CaveEchoesLaw" 209 yL_weightAt, Cond.static yL_weightAt, Cond.codeWith yL_weightAt method_15_code 5 (some .int) [(0, 10, 13, 25), (0, 10, 17, 13)]]
theorem wk_weightAt_ok : ∀ w ∈ wk_weightAt, w ∈ am_GT := am_sub wk_weightAt 952 (by decide +kernel)
theorem kx_weightAt : am_csX M_L_law 209 M_L_weightAt 4 := ⟨by decide +kernel, lw_ini, wk_weightAt_ok _ (List.mem_of_getElem? (i := 2) rfl), wk_weightAt_ok _ (List.mem_of_getElem? (i := 0) rfl), wk_weightAt_ok _ (List.mem_of_getElem? (i := 1) rfl)⟩
def wk_weightByCounting : List Cond := [Cond.methodLink "CaveEchoesLaw" 212 yL_weightByCounting, Cond.static yL_weightByCounting, Cond.codeWith yL_weightByCounting method_16_code 5 (some .int) [(0, 10, 13, 25), (0, 10, 17, 13)]]
theorem wk_weightByCounting_ok : ∀ w ∈ wk_weightByCounting, w ∈ am_GT := am_sub wk_weightByCounting 959 (by decide +kernel)
theorem kx_weightByCounting : am_csX M_L_law 212 M_L_weightByCounting 4 := ⟨by decide +kernel, lw_ini, wk_weightByCounting_ok _ (List.mem_of_getElem? (i := 2) rfl), wk_weightByCounting_ok _ (List.mem_of_getElem? (i := 0) rfl), wk_weightByCounting_ok _ (List.mem_of_getElem? (i := 1) rfl)⟩
def wk_foretold : List Cond := [Cond.methodLink "CaveEchoesLaw" 215 yL_foretold, Cond.static yL_foretold, Cond.codeWith yL_foretold method_17_code 5 (some .int) [(0, 10, 13, 25), (0, 10, 17, 13)]]
theorem wk_foretold_ok : ∀ w ∈ wk_foretold, w ∈ am_GT := am_sub wk_foretold 971 (by decide +kernel)
theorem kx_foretold : am_csX M_L_law 215 M_L_foretold 4 := ⟨by decide +kernel, lw_ini, wk_foretold_ok _ (List.mem_of_getElem? (i := 2) rfl), wk_foretold_ok _ (List.mem_of_getElem? (i := 0) rfl), wk_foretold_ok _ (List.mem_of_getElem? (i := 1) rfl)⟩
def wk_leftOver : List Cond := [Cond.methodLink "CaveEchoesLaw" 218 yL_leftOver, Cond.static yL_leftOver, Cond.codeWith yL_leftOver method_18_code 5 (some .int) [(0, 10, 13, 25), (0, 10, 17, 13)]]
theorem wk_leftOver_ok : ∀ w ∈ wk_leftOver, w ∈ am_GT := am_sub wk_leftOver 978 (by decide +kernel)
theorem kx_leftOver : am_csX M_L_law 218 M_L_leftOver 4 := ⟨by decide +kernel, lw_ini, wk_leftOver_ok _ (List.mem_of_getElem? (i := 2) rfl), wk_leftOver_ok _ (List.mem_of_getElem? (i := 0) rfl), wk_leftOver_ok _ (List.mem_of_getElem? (i := 1) rfl)⟩
def wk_sumOf : List Cond := [Cond.methodLink "CaveEchoesLaw" 221 yL_sumOf, Cond.static yL_sumOf, Cond.codeWith yL_sumOf method_19_code 4 (some .int) [(0, 9, 12, 13)]]
theorem wk_sumOf_ok : ∀ w ∈ wk_sumOf, w ∈ am_GT := am_sub wk_sumOf 985 (by decide +kernel)
theorem kx_sumOf : am_csX M_L_law 221 M_L_sumOf 3 := ⟨by decide +kernel, lw_ini, wk_sumOf_ok _ (List.mem_of_getElem? (i := 2) rfl), wk_sumOf_ok _ (List.mem_of_getElem? (i := 0) rfl), wk_sumOf_ok _ (List.mem_of_getElem? (i := 1) rfl)⟩
def wk_sumWithDelay : List Cond := [Cond.methodLink "CaveEchoesLaw" 224 yL_sumWithDelay, Cond.static yL_sumWithDelay, Cond.codeWith yL_sumWithDelay method_20_code 4 (some .int) [(0, 9, 12, 13)]]
theorem wk_sumWithDelay_ok : ∀ w ∈ wk_sumWithDelay, w ∈ am_GT := am_sub wk_sumWithDelay 992 (by decide +kernel)
theorem kx_sumWithDelay : am_csX M_L_law 224 M_L_sumWithDelay 3 := ⟨by decide +kernel, lw_ini, wk_sumWithDelay_ok _ (List.mem_of_getElem? (i := 2) rfl), wk_sumWithDelay_ok _ (List.mem_of_getElem? (i := 0) rfl), wk_sumWithDelay_ok _ (List.mem_of_getElem? (i := 1) rfl)⟩
def wk_bestFirst : List Cond := [Cond.methodLink "CaveEchoesLaw" 235 yL_bestFirst, Cond.static yL_bestFirst, Cond.codeWith yL_bestFirst method_21_code 4 (some .int) [(0, 9, 12, 13)]]
theorem wk_bestFirst_ok : ∀ w ∈ wk_bestFirst, w ∈ am_GT := am_sub wk_bestFirst 1000 (by decide +kernel)
theorem kx_bestFirst : am_csX M_L_law 235 M_L_bestFirst 3 := ⟨by decide +kernel, lw_ini, wk_bestFirst_ok _ (List.mem_of_getElem? (i := 2) rfl), wk_bestFirst_ok _ (List.mem_of_getElem? (i := 0) rfl), wk_bestFirst_ok _ (List.mem_of_getElem? (i := 1) rfl)⟩
def wk_bitsWith : List Cond := [Cond.methodLink "CaveEchoesLaw" 238 yL_bitsWith, Cond.static yL_bitsWith, Cond.codeWith yL_bitsWith method_22_code 6 (some .int) [(0, 12, 15, 25), (0, 12, 19, 13)]]
theorem wk_bitsWith_ok : ∀ w ∈ wk_bitsWith, w ∈ am_GT := am_sub wk_bitsWith 1007 (by decide +kernel)
theorem kx_bitsWith : am_csX M_L_law 238 M_L_bitsWith 5 := ⟨by decide +kernel, lw_ini, wk_bitsWith_ok _ (List.mem_of_getElem? (i := 2) rfl), wk_bitsWith_ok _ (List.mem_of_getElem? (i := 0) rfl), wk_bitsWith_ok _ (List.mem_of_getElem? (i := 1) rfl)⟩
def wk_bestParameter : List Cond := [Cond.methodLink "CaveEchoesLaw" 241 yL_bestParameter, Cond.static yL_bestParameter, Cond.codeWith yL_bestParameter method_23_code 5 (some .int) [(0, 10, 13, 25), (0, 10, 17, 13)]]
theorem wk_bestParameter_ok : ∀ w ∈ wk_bestParameter, w ∈ am_GT := am_sub wk_bestParameter 1019 (by decide +kernel)
theorem kx_bestParameter : am_csX M_L_law 241 M_L_bestParameter 4 := ⟨by decide +kernel, lw_ini, wk_bestParameter_ok _ (List.mem_of_getElem? (i := 2) rfl), wk_bestParameter_ok _ (List.mem_of_getElem? (i := 0) rfl), wk_bestParameter_ok _ (List.mem_of_getElem? (i := 1) rfl)⟩
def wk_bestKind : List Cond := [Cond.methodLink "CaveEchoesLaw" 244 yL_bestKind, Cond.static yL_bestKind, Cond.codeWith yL_bestKind method_24_code 4 (some .int) [(0, 9, 12, 25)]]
theorem wk_bestKind_ok : ∀ w ∈ wk_bestKind, w ∈ am_GT := am_sub wk_bestKind 1026 (by decide +kernel)
theorem kx_bestKind : am_csX M_L_law 244 M_L_bestKind 3 := ⟨by decide +kernel, lw_ini, wk_bestKind_ok _ (List.mem_of_getElem? (i := 2) rfl), wk_bestKind_ok _ (List.mem_of_getElem? (i := 0) rfl), wk_bestKind_ok _ (List.mem_of_getElem? (i := 1) rfl)⟩
def wk_whyBest : List Cond := [Cond.methodLink "CaveEchoesLaw" 247 yL_whyBest, Cond.static yL_whyBest, Cond.codeWith yL_whyBest method_25_code 4 (some .int) [(0, 9, 12, 25)]]
theorem wk_whyBest_ok : ∀ w ∈ wk_whyBest, w ∈ am_GT := am_sub wk_whyBest 1033 (by decide +kernel)
theorem kx_whyBest : am_csX M_L_law 247 M_L_whyBest 3 := ⟨by decide +kernel, lw_ini, wk_whyBest_ok _ (List.mem_of_getElem? (i := 2) rfl), wk_whyBest_ok _ (List.mem_of_getElem? (i := 0) rfl), wk_whyBest_ok _ (List.mem_of_getElem? (i := 1) rfl)⟩
def wk_blocksWith : List Cond := [Cond.methodLink "CaveEchoesLaw" 258 yL_blocksWith, Cond.static yL_blocksWith, Cond.codeWith yL_blocksWith method_26_code 4 (some .int) [(0, 9, 12, 13)]]
theorem wk_blocksWith_ok : ∀ w ∈ wk_blocksWith, w ∈ am_GT := am_sub wk_blocksWith 1040 (by decide +kernel)
theorem kx_blocksWith : am_csX M_L_law 258 M_L_blocksWith 3 := ⟨by decide +kernel, lw_ini, wk_blocksWith_ok _ (List.mem_of_getElem? (i := 2) rfl), wk_blocksWith_ok _ (List.mem_of_getElem? (i := 0) rfl), wk_blocksWith_ok _ (List.mem_of_getElem? (i := 1) rfl)⟩
def wk_bitsIfOnly : List Cond := [Cond.methodLink "CaveEchoesLaw" 261 yL_bitsIfOnly, Cond.static yL_bitsIfOnly, Cond.codeWith yL_bitsIfOnly method_27_code 4 (some .int) [(0, 9, 12, 13)]]
theorem wk_bitsIfOnly_ok : ∀ w ∈ wk_bitsIfOnly, w ∈ am_GT := am_sub wk_bitsIfOnly 1047 (by decide +kernel)
theorem kx_bitsIfOnly : am_csX M_L_law 261 M_L_bitsIfOnly 3 := ⟨by decide +kernel, lw_ini, wk_bitsIfOnly_ok _ (List.mem_of_getElem? (i := 2) rfl), wk_bitsIfOnly_ok _ (List.mem_of_getElem? (i := 0) rfl), wk_bitsIfOnly_ok _ (List.mem_of_getElem? (i := 1) rfl)⟩
def wk_letterKind : List Cond := [Cond.methodLink "CaveEchoesLaw" 268 yL_letterKind, Cond.static yL_letterKind, Cond.codeWith yL_letterKind method_28_code 4 (some .int) [(0, 9, 12, 25)]]
theorem wk_letterKind_ok : ∀ w ∈ wk_letterKind, w ∈ am_GT := am_sub wk_letterKind 1054 (by decide +kernel)
theorem kx_letterKind : am_csX M_L_law 268 M_L_letterKind 3 := ⟨by decide +kernel, lw_ini, wk_letterKind_ok _ (List.mem_of_getElem? (i := 2) rfl), wk_letterKind_ok _ (List.mem_of_getElem? (i := 0) rfl), wk_letterKind_ok _ (List.mem_of_getElem? (i := 1) rfl)⟩
def wk_letterParameter : List Cond := [Cond.methodLink "CaveEchoesLaw" 271 yL_letterParameter, Cond.static yL_letterParameter, Cond.codeWith yL_letterParameter method_29_code 4 (some .int) [(0, 9, 12, 25)]]
theorem wk_letterParameter_ok : ∀ w ∈ wk_letterParameter, w ∈ am_GT := am_sub wk_letterParameter 1061 (by decide +kernel)
theorem kx_letterParameter : am_csX M_L_law 271 M_L_letterParameter 3 := ⟨by decide +kernel, lw_ini, wk_letterParameter_ok _ (List.mem_of_getElem? (i := 2) rfl), wk_letterParameter_ok _ (List.mem_of_getElem? (i := 0) rfl), wk_letterParameter_ok _ (List.mem_of_getElem? (i := 1) rfl)⟩
def wk_letterLeft : List Cond := [Cond.methodLink "CaveEchoesLaw" 274 yL_letterLeft, Cond.static yL_letterLeft, Cond.codeWith yL_letterLeft method_30_code 4 (some .int) [(0, 9, 12, 25)]]
theorem wk_letterLeft_ok : ∀ w ∈ wk_letterLeft, w ∈ am_GT := am_sub wk_letterLeft 1068 (by decide +kernel)
theorem kx_letterLeft : am_csX M_L_law 274 M_L_letterLeft 3 := ⟨by decide +kernel, lw_ini, wk_letterLeft_ok _ (List.mem_of_getElem? (i := 2) rfl), wk_letterLeft_ok _ (List.mem_of_getElem? (i := 0) rfl), wk_letterLeft_ok _ (List.mem_of_getElem? (i := 1) rfl)⟩
def wk_letterBit : List Cond := [Cond.methodLink "CaveEchoesLaw" 281 yL_letterBit, Cond.static yL_letterBit, Cond.codeWith yL_letterBit method_31_code 4 (some .int) [(0, 16, 19, 25)]]
theorem wk_letterBit_ok : ∀ w ∈ wk_letterBit, w ∈ am_GT := am_sub wk_letterBit 1075 (by decide +kernel)
theorem kx_letterBit : am_csX M_L_law 281 M_L_letterBit 3 := ⟨by decide +kernel, lw_ini, wk_letterBit_ok _ (List.mem_of_getElem? (i := 2) rfl), wk_letterBit_ok _ (List.mem_of_getElem? (i := 0) rfl), wk_letterBit_ok _ (List.mem_of_getElem? (i := 1) rfl)⟩
def wk_heard : List Cond := [Cond.methodLink "CaveEchoesLaw" 284 yL_heard, Cond.static yL_heard, Cond.codeWith yL_heard method_32_code 4 (some .int) [(0, 9, 12, 25)]]
theorem wk_heard_ok : ∀ w ∈ wk_heard, w ∈ am_GT := am_sub wk_heard 1082 (by decide +kernel)
theorem kx_heard : am_csX M_L_law 284 M_L_heard 3 := ⟨by decide +kernel, lw_ini, wk_heard_ok _ (List.mem_of_getElem? (i := 2) rfl), wk_heard_ok _ (List.mem_of_getElem? (i := 0) rfl), wk_heard_ok _ (List.mem_of_getElem? (i := 1) rfl)⟩
def wk_heardByBits : List Cond := [Cond.methodLink "CaveEchoesLaw" 287 yL_heardByBits, Cond.static yL_heardByBits, Cond.codeWith yL_heardByBits method_33_code 4 (some .int) [(0, 9, 12, 25)]]
theorem wk_heardByBits_ok : ∀ w ∈ wk_heardByBits, w ∈ am_GT := am_sub wk_heardByBits 1089 (by decide +kernel)
theorem kx_heardByBits : am_csX M_L_law 287 M_L_heardByBits 3 := ⟨by decide +kernel, lw_ini, wk_heardByBits_ok _ (List.mem_of_getElem? (i := 2) rfl), wk_heardByBits_ok _ (List.mem_of_getElem? (i := 0) rfl), wk_heardByBits_ok _ (List.mem_of_getElem? (i := 1) rfl)⟩
def wk_harm : List Cond := [Cond.methodLink "CaveEchoesLaw" 298 yL_harm, Cond.static yL_harm, Cond.codeWith yL_harm method_34_code 4 (some .int) [(0, 9, 12, 25)]]
theorem wk_harm_ok : ∀ w ∈ wk_harm, w ∈ am_GT := am_sub wk_harm 1117 (by decide +kernel)
theorem kx_harm : am_csX M_L_law 298 M_L_harm 3 := ⟨by decide +kernel, lw_ini, wk_harm_ok _ (List.mem_of_getElem? (i := 2) rfl), wk_harm_ok _ (List.mem_of_getElem? (i := 0) rfl), wk_harm_ok _ (List.mem_of_getElem? (i := 1) rfl)⟩
def wk_keep : List Cond := [Cond.methodLink "CaveEchoesLaw" 309 yL_keep, Cond.static yL_keep, Cond.codeWith yL_keep method_35_code 4 (some .int) [(0, 9, 12, 25)]]
theorem wk_keep_ok : ∀ w ∈ wk_keep, w ∈ am_GT := am_sub wk_keep 1124 (by decide +kernel)
theorem kx_keep : am_csX M_L_law 309 M_L_keep 3 := ⟨by decide +kernel, lw_ini, wk_keep_ok _ (List.mem_of_getElem? (i := 2) rfl), wk_keep_ok _ (List.mem_of_getElem? (i := 0) rfl), wk_keep_ok _ (List.mem_of_getElem? (i := 1) rfl)⟩
def wk_goBack : List Cond := [Cond.methodLink "CaveEchoesLaw" 312 yL_goBack, Cond.static yL_goBack, Cond.codeWith yL_goBack method_36_code 4 (some .int) [(0, 9, 12, 25), (0, 9, 15, 15)]]
theorem wk_goBack_ok : ∀ w ∈ wk_goBack, w ∈ am_GT := am_sub wk_goBack 1136 (by decide +kernel)
theorem kx_goBack : am_csX M_L_law 312 M_L_goBack 3 := ⟨by decide +kernel, lw_ini, wk_goBack_ok _ (List.mem_of_getElem? (i := 2) rfl), wk_goBack_ok _ (List.mem_of_getElem? (i := 0) rfl), wk_goBack_ok _ (List.mem_of_getElem? (i := 1) rfl)⟩
def wk_append : List Cond := [Cond.methodLink "CaveEchoesLaw" 315 yL_append, Cond.static yL_append, Cond.codeWith yL_append method_37_code 4 (some .int) [(0, 9, 12, 13), (0, 9, 15, 15)]]
theorem wk_append_ok : ∀ w ∈ wk_append, w ∈ am_GT := am_sub wk_append 1151 (by decide +kernel)
theorem kx_append : am_csX M_L_law 315 M_L_append 3 := ⟨by decide +kernel, lw_ini, wk_append_ok _ (List.mem_of_getElem? (i := 2) rfl), wk_append_ok _ (List.mem_of_getElem? (i := 0) rfl), wk_append_ok _ (List.mem_of_getElem? (i := 1) rfl)⟩
def wk_doWorks : List Cond := [Cond.methodLink "CaveEchoesLaw" 326 yL_doWorks, Cond.static yL_doWorks, Cond.codeWith yL_doWorks method_38_code 3 (some .int) [(0, 8, 11, 15)]]
theorem wk_doWorks_ok : ∀ w ∈ wk_doWorks, w ∈ am_GT := am_sub wk_doWorks 1162 (by decide +kernel)
theorem kx_doWorks : am_csX M_L_law 326 M_L_doWorks 2 := ⟨by decide +kernel, lw_ini, wk_doWorks_ok _ (List.mem_of_getElem? (i := 2) rfl), wk_doWorks_ok _ (List.mem_of_getElem? (i := 0) rfl), wk_doWorks_ok _ (List.mem_of_getElem? (i := 1) rfl)⟩
def wk_undo : List Cond := [Cond.methodLink "CaveEchoesLaw" 329 yL_undo, Cond.static yL_undo, Cond.codeWith yL_undo method_39_code 3 (some .int) [(0, 8, 11, 15)]]
theorem wk_undo_ok : ∀ w ∈ wk_undo, w ∈ am_GT := am_sub wk_undo 1191 (by decide +kernel)
theorem kx_undo : am_csX M_L_law 329 M_L_undo 2 := ⟨by decide +kernel, lw_ini, wk_undo_ok _ (List.mem_of_getElem? (i := 2) rfl), wk_undo_ok _ (List.mem_of_getElem? (i := 0) rfl), wk_undo_ok _ (List.mem_of_getElem? (i := 1) rfl)⟩
