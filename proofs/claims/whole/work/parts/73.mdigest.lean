/-! ===== the model: its digest ===== -/
theorem m_soundOn {hi : am_HI} {g : am_G} (hI : am_Inv g) {z : Nat → Int32} (hz : hi 124 = z) (ok : OKz z) (s : Int64) : am_Cr M_X10_soundOn [.ref 123, .long s] hi g (some (.long (dB z (dS z (dK z (dA5 z s 4) 5) (zc z)) (zn z)))) (fun h => fr [128, 129] hi h) := by
  have h48 := ok.1.2.1
  have h6 := zn_lt ok
  have hd := ok.1.2.2.2
  have L4 : ∀ (h0 : am_HI) (e6 : Value) (Φ : am_P), fr [128, 129] hi h0 → (∀ h', fr [128, 129] hi h' → Φ (.ok (some (.long (dB z (dS z (dK z (dA5 z s 4) 5) (zc z)) (zn z))))) h' g) → AP M_X10_soundOn (0, 0) 215 [.ref 123, .long s, jk, .long (dS z (dK z (dA5 z s 4) 5) (zc z)), jk, .int (nI 0), e6] [] h0 g Φ := by
    intro h0 e6 Φ f0 hΦ
    have key := am_for0 (n := zn z) (hi := h0) (fun _ h => fr [128, 129] hi h) (fun b h => ∀ e : Value, AP M_X10_soundOn (0, 0) 215 [.ref 123, .long s, jk, .long (dB z (dS z (dK z (dA5 z s 4) 5) (zc z)) b), jk, .int (nI b), e] [] h g Φ) f0 ?_ ?_
    · exact key _
    · intro h f e
      refine s_X10_soundOn_215 ?_
      refine s_X10_soundOn_217 ?_
      refine s_X10_soundOn_218 hI rfl (by decide) rfl (by decide) ?_
      refine s_X10_soundOn_221 ?_
      refine s_X10_soundOn_223 hI rfl (by decide) (by decide) (by decide : (_ : Int32) = nI 48) (by decide) ?_
      refine s_X10_soundOn_224 hI (Nat.le_of_ble_eq_true rfl) (m_blocksOf _) ?_
      intro h9 e9; rw [e9]; clear e9 h9
      rw [f 124 (by decide), hz, znI ok]
      refine s_X10_soundOn_227 (fun _ => ?_) (fun h => absurd (nI_le (Nat.le_refl _) (by omega)) h)
      refine s_X10_soundOn_287 ?_
      refine s_X10_soundOn_288 ?_
      exact hΦ _ f
    · intro b h hb f ih e
      have ez : h 124 = z := (f 124 (by decide)).trans hz
      refine s_X10_soundOn_215 ?_
      refine s_X10_soundOn_217 ?_
      refine s_X10_soundOn_218 hI rfl (by decide) rfl (by decide) ?_
      refine s_X10_soundOn_221 ?_
      refine s_X10_soundOn_223 hI rfl (by decide) (by decide) (by decide : (_ : Int32) = nI 48) (by decide) ?_
      refine s_X10_soundOn_224 hI (Nat.le_of_ble_eq_true rfl) (m_blocksOf _) ?_
      intro h9 e9; rw [e9]; clear e9 h9
      rw [ez, znI ok]
      refine s_X10_soundOn_227 (fun h => absurd h (nI_ge hb (by omega))) (fun _ => ?_)
      refine s_X10_soundOn_230 ?_
      refine s_X10_soundOn_231 ?_
      refine s_X10_soundOn_232 ?_
      refine s_X10_soundOn_234 hI rfl (by decide) (Nat.le_of_ble_eq_true rfl) (m_kindFor hI ez ok (b := b) (by omega)) ?_
      intro h1 g1
      refine s_X10_soundOn_237 ?_
      refine s_X10_soundOn_238 hI (Nat.le_of_ble_eq_true rfl) (m_on _ _) ?_
      intro h9 e9; rw [e9]; clear e9 h9
      refine s_X10_soundOn_241 ?_
      refine s_X10_soundOn_242 ?_
      refine s_X10_soundOn_244 hI rfl (by decide) (Nat.le_of_ble_eq_true rfl) (m_whyFor hI ((g1 124 (by decide)).trans ez) ok (b := b) (by omega)) ?_
      intro h2 g2
      refine s_X10_soundOn_247 ?_
      refine s_X10_soundOn_248 hI (Nat.le_of_ble_eq_true rfl) (m_on _ _) ?_
      intro h9 e9; rw [e9]; clear e9 h9
      refine s_X10_soundOn_251 rfl ?_
      refine s_X10_soundOn_252 ?_
      refine s_X10_soundOn_253 rfl ?_
      have key2 := am_for0 (n := 5) (hi := h2) (fun _ h => fr [128, 129] hi h) (fun k h => AP M_X10_soundOn (0, 0) 255 [.ref 123, .long s, jk, .long (dBp z b (mx (mx (dB z (dS z (dK z (dA5 z s 4) 5) (zc z)) b) (nI (zkf z b)).toInt64) (zwhy z b).toInt64) k), jk, .int (nI b), .int (nI k)] [] h g Φ) ((f.tr g1).tr g2) ?_ ?_
      · exact key2
      · intro h3 f3
        refine s_X10_soundOn_255 ?_
        refine s_X10_soundOn_257 ?_
        refine s_X10_soundOn_258 (fun _ => ?_) (fun h => absurd (nI_le (a := 5) (b := 5) (by decide) (by decide)) h)
        refine s_X10_soundOn_281 rfl ?_
        refine s_X10_soundOn_284 ?_
        rw [nI_1]
        exact ih _ f3 _
      · intro k h3 hk f3 ih2
        refine s_X10_soundOn_255 ?_
        refine s_X10_soundOn_257 ?_
        refine s_X10_soundOn_258 (fun h => absurd h (nI_ge (a := k) (b := 5) hk (by decide))) (fun _ => ?_)
        refine s_X10_soundOn_261 ?_
        refine s_X10_soundOn_262 ?_
        refine s_X10_soundOn_263 ?_
        refine s_X10_soundOn_265 ?_
        refine s_X10_soundOn_267 hI rfl (by decide) (Nat.le_of_ble_eq_true rfl) (m_parameterBy hI ((f3 124 (by decide)).trans hz) ok (b := b) (kd := k) (by omega) (by omega)) ?_
        intro h4 g4
        refine s_X10_soundOn_270 ?_
        refine s_X10_soundOn_271 hI (Nat.le_of_ble_eq_true rfl) (m_on _ _) ?_
        intro h9 e9; rw [e9]; clear e9 h9
        refine s_X10_soundOn_274 rfl ?_
        refine s_X10_soundOn_275 rfl ?_
        refine s_X10_soundOn_278 ?_
        rw [nI_1]
        exact ih2 _ (f3.tr g4)
  have L3 : ∀ (h0 : am_HI) (e6 : Value) (Φ : am_P), fr [128, 129] hi h0 → (∀ k, k < 4 → h0 128 k = z0 z k) → (∀ h', fr [128, 129] hi h' → Φ (.ok (some (.long (dB z (dS z (dK z (dA5 z s 4) 5) (zc z)) (zn z))))) h' g) → AP M_X10_soundOn (0, 0) 106 [.ref 123, .long s, jk, .long (dK z (dA5 z s 4) 5), jk, .int (nI 0), e6] [] h0 g Φ := by
    intro h0 e6 Φ f0 w0 hΦ
    have key := am_for0 (n := zc z) (hi := h0) (fun t h => fr [128, 129] hi h ∧ ∀ k, k < 4 → h 128 k = zW z t k) (fun t h => ∀ e : Value, AP M_X10_soundOn (0, 0) 106 [.ref 123, .long s, jk, .long (dS z (dK z (dA5 z s 4) 5) t), jk, .int (nI t), e] [] h g Φ) ⟨f0, w0⟩ ?_ ?_
    · exact key _
    · intro h ⟨f, w⟩ e
      refine s_X10_soundOn_106 ?_
      refine s_X10_soundOn_108 ?_
      refine s_X10_soundOn_109 hI rfl (by decide) rfl (by decide) ?_
      refine s_X10_soundOn_112 ?_
      refine s_X10_soundOn_114 hI rfl (by decide) (by decide) (by decide : (_ : Int32) = nI 48) (by decide) ?_
      rw [f 124 (by decide), hz, ok.1.1]
      refine s_X10_soundOn_115 (fun _ => ?_) (fun h => absurd (nI_le (Nat.le_refl _) (by omega)) h)
      refine s_X10_soundOn_212 ?_
      refine s_X10_soundOn_213 rfl ?_
      exact L4 h e Φ f hΦ
    · intro t h ht ⟨f, w⟩ ih e
      have ez : h 124 = z := (f 124 (by decide)).trans hz
      have ef : fore 4 (zd z) (h 128) z t = zF z 4 t := fore_congr hd.1 w (fun _ _ => rfl)
      refine s_X10_soundOn_106 ?_
      refine s_X10_soundOn_108 ?_
      refine s_X10_soundOn_109 hI rfl (by decide) rfl (by decide) ?_
      refine s_X10_soundOn_112 ?_
      refine s_X10_soundOn_114 hI rfl (by decide) (by decide) (by decide : (_ : Int32) = nI 48) (by decide) ?_
      rw [ez, ok.1.1]
      refine s_X10_soundOn_115 (fun h => absurd h (nI_ge ht (by omega))) (fun _ => ?_)
      refine s_X10_soundOn_118 ?_
      refine s_X10_soundOn_119 ?_
      refine s_X10_soundOn_120 hI rfl (by decide) rfl (by decide) ?_
      refine s_X10_soundOn_123 ?_
      refine s_X10_soundOn_125 hI rfl (by decide) (by decide) (rfl) (by omega) ?_
      refine s_X10_soundOn_126 ?_
      refine s_X10_soundOn_127 hI (Nat.le_of_ble_eq_true rfl) (m_on _ _) ?_
      intro h9 e9; rw [e9]; clear e9 h9
      refine s_X10_soundOn_130 ?_
      refine s_X10_soundOn_131 hI rfl (by decide) rfl (by decide) ?_
      refine s_X10_soundOn_134 ?_
      refine s_X10_soundOn_136 hI rfl (by decide) (by decide) (rfl) (by omega) ?_
      refine s_X10_soundOn_137 ?_
      refine s_X10_soundOn_138 ?_
      refine s_X10_soundOn_139 hI rfl (by decide) rfl (by decide) ?_
      refine s_X10_soundOn_142 ?_
      refine s_X10_soundOn_143 ?_
      refine s_X10_soundOn_145 ?_
      refine s_X10_soundOn_146 hI rfl (by decide) rfl (by decide) ?_
      refine s_X10_soundOn_149 ?_
      refine s_X10_soundOn_151 hI rfl (by decide) (by decide) (by decide : (_ : Int32) = nI 49) (by decide) ?_
      rw [ez, ok.1.2.2.1]
      refine s_X10_soundOn_152 hI rfl (by decide) (Nat.le_of_ble_eq_true rfl) (m_foretell hI (q := 124) (t := t) (d := zd z) 4 (by decide) (Or.inl rfl) (by omega) (fun q => by cases q)) ?_
      intro h9 e9; rw [e9]; clear e9 h9
      refine s_X10_soundOn_155 ?_
      refine s_X10_soundOn_156 ?_
      rw [ez, ef]
      refine s_X10_soundOn_157 hI (Nat.le_of_ble_eq_true rfl) (m_on _ _) ?_
      intro h9 e9; rw [e9]; clear e9 h9
      refine s_X10_soundOn_160 rfl ?_
      refine s_X10_soundOn_161 ?_
      refine s_X10_soundOn_162 rfl ?_
      have key2 := am_for0 (n := 4) (hi := h) (fun _ h' => h' = h) (fun k h' => AP M_X10_soundOn (0, 0) 164 [.ref 123, .long s, jk, .long (dSw z t (mx (mx (dS z (dK z (dA5 z s 4) 5) t) (z t).toInt64) (zL z 4 t).toInt64) k), jk, .int (nI t), .int (nI k)] [] h' g Φ) rfl ?_ ?_
      · exact key2
      · intro h' eh
        obtain rfl := eh.symm
        refine s_X10_soundOn_164 ?_
        refine s_X10_soundOn_166 ?_
        refine s_X10_soundOn_167 (fun _ => ?_) (fun h => absurd (nI_le (a := 4) (b := 4) (by decide) (by decide)) h)
        refine s_X10_soundOn_189 ?_
        refine s_X10_soundOn_190 ?_
        refine s_X10_soundOn_191 hI rfl (by decide) rfl (by decide) ?_
        refine s_X10_soundOn_194 ?_
        refine s_X10_soundOn_196 ?_
        refine s_X10_soundOn_197 hI rfl (by decide) rfl (by decide) ?_
        refine s_X10_soundOn_200 ?_
        refine s_X10_soundOn_202 hI rfl (by decide) (by decide) (by decide : (_ : Int32) = nI 50) (by decide) ?_
        refine s_X10_soundOn_203 hI rfl (by decide) (Nat.le_of_ble_eq_true rfl) (m_adapts hI (q := 124) (t := t) _ (Or.inl rfl) (by omega)) ?_
        intro h2 ⟨g2, w2⟩
        refine s_X10_soundOn_206 rfl ?_
        refine s_X10_soundOn_209 ?_
        rw [nI_1]
        refine ih _ ⟨f.tr (g2.mono (by decide)), fun k hk => ?_⟩ _
        rw [w2 k hk, ez]
        exact adw_congr w (fun _ _ => rfl) k hk
      · intro k h' hk eh ih2
        obtain rfl := eh.symm
        refine s_X10_soundOn_164 ?_
        refine s_X10_soundOn_166 ?_
        refine s_X10_soundOn_167 (fun h => absurd h (nI_ge (a := k) (b := 4) hk (by decide))) (fun _ => ?_)
        refine s_X10_soundOn_170 ?_
        refine s_X10_soundOn_171 ?_
        refine s_X10_soundOn_172 hI rfl (by decide) rfl (by decide) ?_
        refine s_X10_soundOn_175 ?_
        refine s_X10_soundOn_177 hI rfl (by decide) (by decide) (rfl) (hk) ?_
        refine s_X10_soundOn_178 ?_
        rw [w k hk]
        refine s_X10_soundOn_179 hI (Nat.le_of_ble_eq_true rfl) (m_on _ _) ?_
        intro h9 e9; rw [e9]; clear e9 h9
        refine s_X10_soundOn_182 rfl ?_
        refine s_X10_soundOn_183 rfl ?_
        refine s_X10_soundOn_186 ?_
        rw [nI_1]
        exact ih2 _ rfl
  have L2 : ∀ (e6 : Value) (Φ : am_P), (∀ h', fr [128, 129] hi h' → Φ (.ok (some (.long (dB z (dS z (dK z (dA5 z s 4) 5) (zc z)) (zn z))))) h' g) → AP M_X10_soundOn (0, 0) 36 [.ref 123, .long s, jk, .long (dA5 z s 4), jk, .int (nI 0), e6] [] hi g Φ := by
    intro e6 Φ hΦ
    have key := am_for0 (n := 5) (hi := hi) (fun _ h => fr [128, 129] hi h) (fun k h => AP M_X10_soundOn (0, 0) 36 [.ref 123, .long s, jk, .long (dK z (dA5 z s 4) k), jk, .int (nI k), e6] [] h g Φ) fr.rfl ?_ ?_
    · exact key
    · intro h f
      refine s_X10_soundOn_36 ?_
      refine s_X10_soundOn_38 ?_
      refine s_X10_soundOn_39 (fun _ => ?_) (fun h => absurd (nI_le (a := 5) (b := 5) (by decide) (by decide)) h)
      refine s_X10_soundOn_97 ?_
      refine s_X10_soundOn_98 ?_
      refine s_X10_soundOn_100 hI rfl (by decide) (Nat.le_of_ble_eq_true rfl) (m_begins hI (f := 51) (by decide)) ?_
      intro h1 ⟨g1, g2⟩
      refine s_X10_soundOn_103 ?_
      refine s_X10_soundOn_104 rfl ?_
      exact L3 h1 e6 Φ (f.tr (g1.mono (by decide))) (fun k hk => by rw [g2 k hk, f 124 (by decide), hz]; rfl) hΦ
    · intro k h hk f ih
      have ez : h 124 = z := (f 124 (by decide)).trans hz
      refine s_X10_soundOn_36 ?_
      refine s_X10_soundOn_38 ?_
      refine s_X10_soundOn_39 (fun h => absurd h (nI_ge (a := k) (b := 5) hk (by decide))) (fun _ => ?_)
      refine s_X10_soundOn_42 ?_
      refine s_X10_soundOn_43 ?_
      refine s_X10_soundOn_44 ?_
      refine s_X10_soundOn_46 hI rfl (by decide) (Nat.le_of_ble_eq_true rfl) (m_leavesBy hI ez ok (kd := k) (by omega)) ?_
      intro h1 ⟨g1, _⟩
      refine s_X10_soundOn_49 ?_
      have e1 := (g1 124 (by decide)).trans ez
      refine s_X10_soundOn_50 hI (Nat.le_of_ble_eq_true rfl) (m_on _ _) ?_
      intro h9 e9; rw [e9]; clear e9 h9
      refine s_X10_soundOn_53 ?_
      refine s_X10_soundOn_54 ?_
      refine s_X10_soundOn_56 hI rfl (by decide) (Nat.le_of_ble_eq_true rfl) (m_blocksBy hI e1 ok (kd := k) (by omega)) ?_
      intro h2 g2
      refine s_X10_soundOn_59 ?_
      have e2 := (g2 124 (by decide)).trans e1
      refine s_X10_soundOn_60 hI (Nat.le_of_ble_eq_true rfl) (m_on _ _) ?_
      intro h9 e9; rw [e9]; clear e9 h9
      refine s_X10_soundOn_63 ?_
      refine s_X10_soundOn_64 ?_
      refine s_X10_soundOn_66 hI rfl (by decide) (Nat.le_of_ble_eq_true rfl) (m_bitsOnly hI e2 ok (kd := k) (by omega)) ?_
      intro h3 g3
      refine s_X10_soundOn_69 ?_
      have e3 := (g3 124 (by decide)).trans e2
      refine s_X10_soundOn_70 hI (Nat.le_of_ble_eq_true rfl) (m_on _ _) ?_
      intro h9 e9; rw [e9]; clear e9 h9
      refine s_X10_soundOn_73 ?_
      refine s_X10_soundOn_74 ?_
      refine s_X10_soundOn_76 ?_
      refine s_X10_soundOn_77 hI rfl (by decide) rfl (by decide) ?_
      refine s_X10_soundOn_80 ?_
      refine s_X10_soundOn_82 hI rfl (by decide) (by decide) (by decide : (_ : Int32) = nI 48) (by decide) ?_
      rw [e3, ok.1.1]
      refine s_X10_soundOn_83 hI rfl (by decide) (Nat.le_of_ble_eq_true rfl) (m_foretoldOf hI e3 ok (kd := k) (n := zc z) (by omega) h48) ?_
      intro h4 g4
      refine s_X10_soundOn_86 ?_
      refine s_X10_soundOn_87 hI (Nat.le_of_ble_eq_true rfl) (m_on _ _) ?_
      intro h9 e9; rw [e9]; clear e9 h9
      refine s_X10_soundOn_90 rfl ?_
      refine s_X10_soundOn_91 rfl ?_
      refine s_X10_soundOn_94 ?_
      rw [nI_1]
      exact ih _ ((((f.tr g1).tr g2).tr g3).tr (g4.mono (by decide)))
  refine am_crn (by decide) (Nat.le_of_ble_eq_true rfl) (fun Φ hΦ => ?_)
  show AP M_X10_soundOn _ 0 [.ref 123, .long s, jk, jk, jk, jk, jk] [] _ g Φ
  refine s_X10_soundOn_0 ?_
  refine s_X10_soundOn_1 rfl ?_
  refine s_X10_soundOn_2 ?_
  refine s_X10_soundOn_3 rfl ?_
  have key := am_for0 (n := 4) (hi := hi) (fun _ h => h = hi) (fun k h => ∀ e : Value, AP M_X10_soundOn (0, 0) 5 [.ref 123, .long s, jk, .long (dA5 z s k), jk, .int (nI k), e] [] h g Φ) rfl ?_ ?_
  · exact key _
  · intro h eh e
    obtain rfl := eh.symm
    refine s_X10_soundOn_5 ?_
    refine s_X10_soundOn_7 ?_
    refine s_X10_soundOn_8 (fun _ => ?_) (fun h => absurd (nI_le (a := 4) (b := 4) (by decide) (by decide)) h)
    refine s_X10_soundOn_33 ?_
    refine s_X10_soundOn_34 rfl ?_
    exact L2 e Φ hΦ
  · intro k h hk eh ih e
    obtain rfl := eh.symm
    refine s_X10_soundOn_5 ?_
    refine s_X10_soundOn_7 ?_
    refine s_X10_soundOn_8 (fun h => absurd h (nI_ge (a := k) (b := 4) hk (by decide))) (fun _ => ?_)
    refine s_X10_soundOn_11 ?_
    refine s_X10_soundOn_12 ?_
    refine s_X10_soundOn_13 hI rfl (by decide) rfl (by decide) ?_
    refine s_X10_soundOn_16 ?_
    refine s_X10_soundOn_18 ?_
    refine s_X10_soundOn_20 ?_
    rw [show 51 + nI k = nI (51 + k) from nI_add 51 k]
    refine s_X10_soundOn_21 hI rfl (by decide) (by decide) (rfl) (by omega) ?_
    refine s_X10_soundOn_22 ?_
    rw [hz]
    refine s_X10_soundOn_23 hI (Nat.le_of_ble_eq_true rfl) (m_on _ _) ?_
    intro h9 e9; rw [e9]; clear e9 h9
    refine s_X10_soundOn_26 rfl ?_
    refine s_X10_soundOn_27 rfl ?_
    refine s_X10_soundOn_30 ?_
    rw [nI_1]
    exact ih _ rfl _
theorem bI_l (b : Bool) : (bI b).toInt64 = if b = true then 1 else 0 := by cases b <;> decide
theorem bI_lm (n : Nat) : (nI (n % 2)).toInt64 = if decide (n % 2 = 1) = true then 1 else 0 := by rw [bI_m2]; exact bI_l _
theorem m_letterOn {hi : am_HI} {g : am_G} (hI : am_Inv g) {z : Nat → Int32} (hz : hi 124 = z) (ok : OKz z) (s : Int64) : am_Cr M_X10_letterOn [.ref 123, .long s] hi g (some (.long (dbits (dL2 z (dL1 z s (zln z)) (zt z)) (lbB z (zt z))))) (fun h => fr [128, 130] hi h) := by
  have h48 := ok.2.2.1
  have h6 := zln_lt ok
  have L3 : ∀ (h0 : am_HI) (H : Int64) (e6 e7 e8 : Value) (Φ : am_P), h0 124 = z → Φ (.ok (some (.long (dbits H (lbB z (zt z)))))) h0 g → AP M_X10_letterOn (0, 0) 113 [.ref 123, .long s, jk, .long H, jk, .int (nI 0), e6, e7, e8] [] h0 g Φ := by
    intro h0 H e6 e7 e8 Φ ez hΦ
    have key := am_for0 (n := zt z) (hi := h0) (fun _ h => h = h0) (fun t h => ∀ e6 e7 e8 : Value, AP M_X10_letterOn (0, 0) 113 [.ref 123, .long s, jk, .long (dbits H (lbB z t)), jk, .int (nI t), e6, e7, e8] [] h g Φ) rfl ?_ ?_
    · exact key _ _ _
    · intro h eh e6 e7 e8
      obtain rfl := eh.symm
      refine s_X10_letterOn_113 ?_
      refine s_X10_letterOn_115 ?_
      refine s_X10_letterOn_116 hI rfl (by decide) rfl (by decide) ?_
      refine s_X10_letterOn_119 ?_
      refine s_X10_letterOn_121 hI rfl (by decide) (by decide) (by decide : (_ : Int32) = nI 56) (by decide) ?_
      rw [ez, ok.2.1]
      refine s_X10_letterOn_122 (fun _ => ?_) (fun h => absurd (nI_le (Nat.le_refl _) (by omega)) h)
      refine s_X10_letterOn_284 ?_
      refine s_X10_letterOn_285 ?_
      exact hΦ
    · intro t h ht eh ih e6 e7 e8
      obtain rfl := eh.symm
      have lfk := lf_ok ok (t := t) (by omega)
      have lpk := lp_ok ok (b := t / 8) (by omega)
      have lkk := lk_ok ok (b := t / 8) (by omega)
      have hfl := folB_len (lf z t) (lp z (t / 8))
      have hlb : lb1 z t = (folB (lf z t) (lp z (t / 8))).length := by rw [hfl]; rfl
      have hb1 := lb1_le ok (t := t) (by omega)
      have ih' := ih _ rfl
      have fin : ∀ (e7 e8 : Value), AP M_X10_letterOn (0, 0) 206 [.ref 123, .long s, jk, .long (dbits (dbits H (lbB z t)) (hdB z t)), jk, .int (nI t), .int (nI (t / 8)), e7, e8] [] h0 g Φ := by
        intro e7 e8
        refine s_X10_letterOn_206 ?_
        refine s_X10_letterOn_207 hI rfl (by decide) rfl (by decide) ?_
        refine s_X10_letterOn_210 ?_
        refine s_X10_letterOn_212 ?_
        refine s_X10_letterOn_214 ?_
        rw [show 75 + nI t = nI (75 + t) from nI_add 75 t]
        refine s_X10_letterOn_215 hI rfl (by decide) (by decide) (rfl) (by omega) ?_
        refine s_X10_letterOn_216 ?_
        refine s_X10_letterOn_217 hI rfl (by decide) rfl (by decide) ?_
        refine s_X10_letterOn_220 ?_
        refine s_X10_letterOn_222 ?_
        refine s_X10_letterOn_224 ?_
        rw [show 69 + nI (t / 8) = nI (69 + t / 8) from nI_add 69 _]
        refine s_X10_letterOn_225 hI rfl (by decide) (by decide) (rfl) (by omega) ?_
        refine s_X10_letterOn_226 hI (Nat.le_of_ble_eq_true rfl) (m_bitsOf hI _ _) ?_
        intro h9 e9; rw [e9]; clear e9 h9
        refine s_X10_letterOn_229 rfl ?_
        refine s_X10_letterOn_231 ?_
        refine s_X10_letterOn_232 rfl ?_
        rw [ez, lbI ok (by omega)]
        have key2 := am_for0 (n := lb1 z t) (hi := h0) (fun _ h => h = h0) (fun k h => AP M_X10_letterOn (0, 0) 234 [.ref 123, .long s, jk, .long (dbits (dbits (dbits H (lbB z t)) (hdB z t)) ((folB (lf z t) (lp z (t / 8))).take k)), jk, .int (nI t), .int (nI (t / 8)), .int (nI (lb1 z t)), .int (nI k)] [] h g Φ) rfl ?_ ?_
        · exact key2
        · intro h eh
          obtain rfl := eh.symm
          rw [hlb, List.take_length, ← dbits_app, ← dbits_app]
          refine s_X10_letterOn_234 ?_
          refine s_X10_letterOn_236 ?_
          refine s_X10_letterOn_238 (fun _ => ?_) (fun h => absurd (nI_le (Nat.le_refl _) (by omega)) h)
          refine s_X10_letterOn_278 rfl ?_
          refine s_X10_letterOn_281 ?_
          rw [nI_1]
          exact ih' _ _ _
        · intro k h hk eh ih2
          obtain rfl := eh.symm
          have ih2' := ih2 _ rfl
          rw [dbits_take _ _ (by omega)] at ih2'
          refine s_X10_letterOn_234 ?_
          refine s_X10_letterOn_236 ?_
          refine s_X10_letterOn_238 (fun h => absurd h (nI_ge hk (by omega))) (fun _ => ?_)
          refine s_X10_letterOn_241 ?_
          refine s_X10_letterOn_242 ?_
          refine s_X10_letterOn_243 hI rfl (by decide) rfl (by decide) ?_
          refine s_X10_letterOn_246 ?_
          refine s_X10_letterOn_248 ?_
          refine s_X10_letterOn_250 ?_
          rw [show 75 + nI t = nI (75 + t) from nI_add 75 t]
          refine s_X10_letterOn_251 hI rfl (by decide) (by decide) (rfl) (by omega) ?_
          refine s_X10_letterOn_252 ?_
          refine s_X10_letterOn_253 hI rfl (by decide) rfl (by decide) ?_
          refine s_X10_letterOn_256 ?_
          refine s_X10_letterOn_258 ?_
          refine s_X10_letterOn_260 ?_
          rw [show 69 + nI (t / 8) = nI (69 + t / 8) from nI_add 69 _]
          refine s_X10_letterOn_261 hI rfl (by decide) (by decide) (rfl) (by omega) ?_
          refine s_X10_letterOn_262 ?_
          rw [ez, lpk.1]
          refine s_X10_letterOn_264 hI (Nat.le_of_ble_eq_true rfl) (m_bitOf hI (f := lf z t) (p := lp z (t / 8)) (i := k) lfk.1 lfk.2 lpk.2 hk) ?_
          intro h9 e9; rw [e9]; clear e9 h9
          refine s_X10_letterOn_267 ?_
          rw [bI_l]
          refine s_X10_letterOn_268 hI (Nat.le_of_ble_eq_true rfl) (m_on _ _) ?_
          intro h9 e9; rw [e9]; clear e9 h9
          refine s_X10_letterOn_271 rfl ?_
          refine s_X10_letterOn_272 rfl ?_
          refine s_X10_letterOn_275 ?_
          rw [nI_1]
          exact ih2'
      by_cases h8 : t % 8 = 0
      · have hd : hdB z t = numB (lk z (t / 8)) 3 ++ numB (lp z (t / 8)) 3 := if_pos h8
        have hd6 : (hdB z t).length = 6 := by rw [hdB_len, if_pos h8]
        refine s_X10_letterOn_113 ?_
        refine s_X10_letterOn_115 ?_
        refine s_X10_letterOn_116 hI rfl (by decide) rfl (by decide) ?_
        refine s_X10_letterOn_119 ?_
        refine s_X10_letterOn_121 hI rfl (by decide) (by decide) (by decide : (_ : Int32) = nI 56) (by decide) ?_
        rw [ez, ok.2.1]
        refine s_X10_letterOn_122 (fun h => absurd h (nI_ge ht (by omega))) (fun _ => ?_)
        refine s_X10_letterOn_125 ?_
        refine s_X10_letterOn_127 ?_
        refine s_X10_letterOn_129 (by decide) ?_
        refine s_X10_letterOn_130 rfl ?_
        refine s_X10_letterOn_132 ?_
        refine s_X10_letterOn_133 rfl ?_
        rw [div8 (by omega)]
        have key3 := am_for0 (n := 6) (hi := h0) (fun _ h => h = h0) (fun k h => AP M_X10_letterOn (0, 0) 135 [.ref 123, .long s, jk, .long (dbits (dbits H (lbB z t)) ((hdB z t).take k)), jk, .int (nI t), .int (nI (t / 8)), .int (nI k), e8] [] h g Φ) rfl ?_ ?_
        · exact key3
        · intro h eh
          obtain rfl := eh.symm
          rw [← hd6, List.take_length]
          refine s_X10_letterOn_135 ?_
          refine s_X10_letterOn_137 ?_
          refine s_X10_letterOn_139 (fun _ => ?_) (fun h => absurd (nI_le (a := 6) (b := (hdB z t).length) (by omega) (by omega)) h)
          exact fin _ _
        · intro k h hk eh ih3
          obtain rfl := eh.symm
          have ih3' := ih3 _ rfl
          rw [dbits_take _ _ (by omega)] at ih3'
          refine s_X10_letterOn_135 ?_
          refine s_X10_letterOn_137 ?_
          refine s_X10_letterOn_139 (fun h => absurd h (nI_ge (a := k) (b := 6) hk (by decide))) (fun _ => ?_)
          refine s_X10_letterOn_142 ?_
          refine s_X10_letterOn_144 ?_
          refine s_X10_letterOn_146 (by decide) ?_
          rw [rem8 (n := t) (by omega), h8]
          refine s_X10_letterOn_147 (fun h => absurd (Eq.refl (0 : Int32)) h) (fun _ => ?_)
          refine s_X10_letterOn_150 ?_
          refine s_X10_letterOn_151 ?_
          refine s_X10_letterOn_153 ?_
          refine s_X10_letterOn_154 (fun h3 => ?_) (fun h3 => ?_)
          · refine s_X10_letterOn_178 ?_
            refine s_X10_letterOn_179 hI rfl (by decide) rfl (by decide) ?_
            refine s_X10_letterOn_182 ?_
            refine s_X10_letterOn_184 ?_
            refine s_X10_letterOn_186 ?_
            have h3' : 3 ≤ k := Nat.le_of_not_lt (fun e => absurd h3 (nI_ge e (by decide)))
            rw [show 69 + nI (t / 8) = nI (69 + t / 8) from nI_add 69 _]
            refine s_X10_letterOn_187 hI rfl (by decide) (by decide) (rfl) (by omega) ?_
            refine s_X10_letterOn_188 ?_
            refine s_X10_letterOn_189 ?_
            refine s_X10_letterOn_191 ?_
            refine s_X10_letterOn_192 ?_
            refine s_X10_letterOn_193 ?_
            refine s_X10_letterOn_194 ?_
            refine s_X10_letterOn_195 ?_
            rw [ez, lpk.1, show (5 : Int32) - nI k = nI (5 - k) from pk_sub (a := 5) (b := k) (by omega), shrN (by omega) (by omega), and1 (by have := Nat.div_le_self (lp z (t / 8)) (2 ^ (5 - k)); omega), bI_lm]
            have eg : (hdB z t).getD k false = decide (lp z (t / 8) / 2 ^ (5 - k) % 2 = 1) := by
              have := gd_app (A := numB (lk z (t / 8)) 3) (x := numB (lp z (t / 8)) 3) (R := []) (i := k - 3) (a := k) (by rw [numB_len]; omega) (by rw [numB_len]; omega)
              rw [List.append_nil, ← hd] at this
              rw [this, numB_gd (by omega), show 3 - 1 - (k - 3) = 5 - k by omega]
            rw [eg] at ih3'
            refine s_X10_letterOn_196 hI (Nat.le_of_ble_eq_true rfl) (m_on _ _) ?_
            intro h9 e9; rw [e9]; clear e9 h9
            refine s_X10_letterOn_199 rfl ?_
            refine s_X10_letterOn_200 rfl ?_
            refine s_X10_letterOn_203 ?_
            rw [nI_1]
            exact ih3'
          · refine s_X10_letterOn_157 ?_
            refine s_X10_letterOn_158 hI rfl (by decide) rfl (by decide) ?_
            refine s_X10_letterOn_161 ?_
            refine s_X10_letterOn_163 ?_
            refine s_X10_letterOn_165 ?_
            have h3' : k < 3 := Nat.lt_of_not_le (fun e => h3 (nI_le (a := 3) (b := k) e (by omega)))
            rw [show 63 + nI (t / 8) = nI (63 + t / 8) from nI_add 63 _]
            refine s_X10_letterOn_166 hI rfl (by decide) (by decide) (rfl) (by omega) ?_
            refine s_X10_letterOn_167 ?_
            refine s_X10_letterOn_168 ?_
            refine s_X10_letterOn_170 ?_
            refine s_X10_letterOn_171 ?_
            refine s_X10_letterOn_172 ?_
            refine s_X10_letterOn_173 ?_
            refine s_X10_letterOn_174 ?_
            refine s_X10_letterOn_175 ?_
            rw [ez, lkk.1, show (2 : Int32) - nI k = nI (2 - k) from pk_sub (a := 2) (b := k) (by omega), shrN (by omega) (by omega), and1 (by have := Nat.div_le_self (lk z (t / 8)) (2 ^ (2 - k)); omega), bI_lm]
            have eg : (hdB z t).getD k false = decide (lk z (t / 8) / 2 ^ (2 - k) % 2 = 1) := by
              have := gd_app (A := []) (x := numB (lk z (t / 8)) 3) (R := numB (lp z (t / 8)) 3) (i := k) (a := k) (by simp) (by rw [numB_len]; omega)
              rw [List.nil_append, ← hd] at this
              rw [this, numB_gd (by omega)]
            rw [eg] at ih3'
            refine s_X10_letterOn_196 hI (Nat.le_of_ble_eq_true rfl) (m_on _ _) ?_
            intro h9 e9; rw [e9]; clear e9 h9
            refine s_X10_letterOn_199 rfl ?_
            refine s_X10_letterOn_200 rfl ?_
            refine s_X10_letterOn_203 ?_
            rw [nI_1]
            exact ih3'
      · have hd : hdB z t = [] := if_neg h8
        refine s_X10_letterOn_113 ?_
        refine s_X10_letterOn_115 ?_
        refine s_X10_letterOn_116 hI rfl (by decide) rfl (by decide) ?_
        refine s_X10_letterOn_119 ?_
        refine s_X10_letterOn_121 hI rfl (by decide) (by decide) (by decide : (_ : Int32) = nI 56) (by decide) ?_
        rw [ez, ok.2.1]
        refine s_X10_letterOn_122 (fun h => absurd h (nI_ge ht (by omega))) (fun _ => ?_)
        refine s_X10_letterOn_125 ?_
        refine s_X10_letterOn_127 ?_
        refine s_X10_letterOn_129 (by decide) ?_
        refine s_X10_letterOn_130 rfl ?_
        refine s_X10_letterOn_132 ?_
        refine s_X10_letterOn_133 rfl ?_
        refine s_X10_letterOn_135 ?_
        refine s_X10_letterOn_137 ?_
        rw [div8 (by omega)]
        refine s_X10_letterOn_139 (fun h => absurd h (by decide)) (fun _ => ?_)
        refine s_X10_letterOn_142 ?_
        refine s_X10_letterOn_144 ?_
        refine s_X10_letterOn_146 (by decide) ?_
        rw [← div8 (by omega), rem8 (n := t) (by omega), div8 (by omega)]
        refine s_X10_letterOn_147 (fun _ => ?_) (fun h => absurd h (fun e => h8 ((nI_eq (a := t % 8) (b := 0) (by omega) (by decide)).mp e)))
        have := fin (.int 0) e8
        rw [hd] at this
        exact this
  have L2 : ∀ (h0 : am_HI) (H : Int64) (e6 e7 e8 : Value) (Φ : am_P), h0 124 = z → MH h0 z (-1) → Φ (.ok (some (.long (dbits (dL2 z H (zt z)) (lbB z (zt z)))))) h0 g → AP M_X10_letterOn (0, 0) 65 [.ref 123, .long s, jk, .long H, jk, .int (nI 0), e6, e7, e8] [] h0 g Φ := by
    intro h0 H e6 e7 e8 Φ ez mh hΦ
    have key := am_for0 (n := zt z) (hi := h0) (fun _ h => h = h0) (fun t h => AP M_X10_letterOn (0, 0) 65 [.ref 123, .long s, jk, .long (dL2 z H t), jk, .int (nI t), e6, e7, e8] [] h g Φ) rfl ?_ ?_
    · exact key
    · intro h eh
      obtain rfl := eh.symm
      refine s_X10_letterOn_65 ?_
      refine s_X10_letterOn_67 ?_
      refine s_X10_letterOn_68 hI rfl (by decide) rfl (by decide) ?_
      refine s_X10_letterOn_71 ?_
      refine s_X10_letterOn_73 hI rfl (by decide) (by decide) (by decide : (_ : Int32) = nI 56) (by decide) ?_
      rw [ez, ok.2.1]
      refine s_X10_letterOn_74 (fun _ => ?_) (fun h => absurd (nI_le (Nat.le_refl _) (by omega)) h)
      refine s_X10_letterOn_110 ?_
      refine s_X10_letterOn_111 rfl ?_
      exact L3 h0 _ _ _ _ Φ ez hΦ
    · intro t h ht eh ih
      obtain rfl := eh.symm
      refine s_X10_letterOn_65 ?_
      refine s_X10_letterOn_67 ?_
      refine s_X10_letterOn_68 hI rfl (by decide) rfl (by decide) ?_
      refine s_X10_letterOn_71 ?_
      refine s_X10_letterOn_73 hI rfl (by decide) (by decide) (by decide : (_ : Int32) = nI 56) (by decide) ?_
      rw [ez, ok.2.1]
      refine s_X10_letterOn_74 (fun h => absurd h (nI_ge ht (by omega))) (fun _ => ?_)
      refine s_X10_letterOn_77 ?_
      refine s_X10_letterOn_78 ?_
      refine s_X10_letterOn_79 hI rfl (by decide) rfl (by decide) ?_
      refine s_X10_letterOn_82 ?_
      refine s_X10_letterOn_84 ?_
      refine s_X10_letterOn_86 ?_
      rw [show 75 + nI t = nI (75 + t) from nI_add 75 t]
      refine s_X10_letterOn_87 hI rfl (by decide) (by decide) (rfl) (by omega) ?_
      refine s_X10_letterOn_88 ?_
      rw [ez]
      refine s_X10_letterOn_89 hI (Nat.le_of_ble_eq_true rfl) (m_on _ _) ?_
      intro h9 e9; rw [e9]; clear e9 h9
      refine s_X10_letterOn_92 ?_
      refine s_X10_letterOn_93 hI rfl (by decide) rfl (by decide) ?_
      refine s_X10_letterOn_96 ?_
      refine s_X10_letterOn_98 hI rfl (by decide) (by decide) (rfl) (by omega) ?_
      refine s_X10_letterOn_99 ?_
      rw [mh t ht]
      refine s_X10_letterOn_100 hI (Nat.le_of_ble_eq_true rfl) (m_on _ _) ?_
      intro h9 e9; rw [e9]; clear e9 h9
      refine s_X10_letterOn_103 rfl ?_
      refine s_X10_letterOn_104 rfl ?_
      refine s_X10_letterOn_107 ?_
      rw [nI_1]
      exact ih _ rfl
  refine am_crn (by decide) (Nat.le_of_ble_eq_true rfl) (fun Φ hΦ => ?_)
  show AP M_X10_letterOn _ 0 [.ref 123, .long s, jk, jk, jk, jk, jk, jk, jk] [] _ g Φ
  refine s_X10_letterOn_0 ?_
  refine s_X10_letterOn_1 rfl ?_
  refine s_X10_letterOn_2 ?_
  refine s_X10_letterOn_3 rfl ?_
  have key := am_for0 (n := zln z) (hi := hi) (fun _ h => h = hi) (fun b h => ∀ e6 e7 e8 : Value, AP M_X10_letterOn (0, 0) 5 [.ref 123, .long s, jk, .long (dL1 z s b), jk, .int (nI b), e6, e7, e8] [] h g Φ) rfl ?_ ?_
  · exact key _ _ _
  · intro h eh e6 e7 e8
    obtain rfl := eh.symm
    refine s_X10_letterOn_5 ?_
    refine s_X10_letterOn_7 ?_
    refine s_X10_letterOn_8 hI rfl (by decide) rfl (by decide) ?_
    refine s_X10_letterOn_11 ?_
    refine s_X10_letterOn_13 hI rfl (by decide) (by decide) (by decide : (_ : Int32) = nI 56) (by decide) ?_
    refine s_X10_letterOn_14 hI (Nat.le_of_ble_eq_true rfl) (m_blocksOf _) ?_
    intro h9 e9; rw [e9]; clear e9 h9
    rw [hz, zlnI ok]
    refine s_X10_letterOn_17 (fun _ => ?_) (fun h => absurd (nI_le (Nat.le_refl _) (by omega)) h)
    refine s_X10_letterOn_56 ?_
    refine s_X10_letterOn_57 ?_
    refine s_X10_letterOn_58 hI rfl (by decide) (Nat.le_of_ble_eq_true rfl) (m_hears hI hz ok (-1)) ?_
    intro h1 ⟨g1, mh⟩
    refine s_X10_letterOn_61 rfl ?_
    refine s_X10_letterOn_62 ?_
    refine s_X10_letterOn_63 rfl ?_
    exact L2 h1 _ _ _ _ Φ ((g1 124 (by decide)).trans hz) mh (hΦ _ g1)
  · intro b h hb eh ih e6 e7 e8
    obtain rfl := eh.symm
    refine s_X10_letterOn_5 ?_
    refine s_X10_letterOn_7 ?_
    refine s_X10_letterOn_8 hI rfl (by decide) rfl (by decide) ?_
    refine s_X10_letterOn_11 ?_
    refine s_X10_letterOn_13 hI rfl (by decide) (by decide) (by decide : (_ : Int32) = nI 56) (by decide) ?_
    refine s_X10_letterOn_14 hI (Nat.le_of_ble_eq_true rfl) (m_blocksOf _) ?_
    intro h9 e9; rw [e9]; clear e9 h9
    rw [hz, zlnI ok]
    refine s_X10_letterOn_17 (fun h => absurd h (nI_ge hb (by omega))) (fun _ => ?_)
    refine s_X10_letterOn_20 ?_
    refine s_X10_letterOn_21 ?_
    refine s_X10_letterOn_22 hI rfl (by decide) rfl (by decide) ?_
    refine s_X10_letterOn_25 ?_
    refine s_X10_letterOn_27 ?_
    refine s_X10_letterOn_29 ?_
    rw [show 63 + nI b = nI (63 + b) from nI_add 63 b]
    refine s_X10_letterOn_30 hI rfl (by decide) (by decide) (rfl) (by omega) ?_
    refine s_X10_letterOn_31 ?_
    rw [hz]
    refine s_X10_letterOn_32 hI (Nat.le_of_ble_eq_true rfl) (m_on _ _) ?_
    intro h9 e9; rw [e9]; clear e9 h9
    refine s_X10_letterOn_35 ?_
    refine s_X10_letterOn_36 hI rfl (by decide) rfl (by decide) ?_
    refine s_X10_letterOn_39 ?_
    refine s_X10_letterOn_41 ?_
    refine s_X10_letterOn_43 ?_
    rw [show 69 + nI b = nI (69 + b) from nI_add 69 b]
    refine s_X10_letterOn_44 hI rfl (by decide) (by decide) (rfl) (by omega) ?_
    refine s_X10_letterOn_45 ?_
    rw [hz]
    refine s_X10_letterOn_46 hI (Nat.le_of_ble_eq_true rfl) (m_on _ _) ?_
    intro h9 e9; rw [e9]; clear e9 h9
    refine s_X10_letterOn_49 rfl ?_
    refine s_X10_letterOn_50 rfl ?_
    refine s_X10_letterOn_53 ?_
    rw [nI_1]
    exact ih _ rfl _ _ _
theorem q_digest {hi : am_HI} {g : am_G} (hI : am_Inv g) {z : Nat → Int32} (hz : hi 124 = z) (ok : OKz z) : am_Cr M_X10_digest [.ref 123] hi g (some (.long (zdig z))) (fun h => MS hi h ∧ h 123 10 = 0) := by
  have z1 := uz hz 0
  refine am_crn (by decide) (Nat.le_of_ble_eq_true rfl) (fun Φ hΦ => ?_)
  show AP M_X10_digest _ 0 [.ref 123, jk, jk] [] _ g Φ
  refine s_X10_digest_0 ?_
  refine s_X10_digest_1 ?_
  refine s_X10_digest_2 hI rfl (by decide) ?_
  refine s_X10_digest_5 ?_
  refine s_X10_digest_8 ?_
  refine s_X10_digest_9 hI rfl (by decide) rfl (by decide) ?_
  refine s_X10_digest_12 ?_
  refine s_X10_digest_14 hI rfl (by decide) (by decide) (by decide : (_ : Int32) = nI 48) (by decide) ?_
  refine s_X10_digest_15 ?_
  rw [z1]
  refine s_X10_digest_16 hI (Nat.le_of_ble_eq_true rfl) (m_on _ _) ?_
  intro h9 e9; rw [e9]; clear e9 h9
  refine s_X10_digest_19 ?_
  refine s_X10_digest_20 hI rfl (by decide) rfl (by decide) ?_
  refine s_X10_digest_23 ?_
  refine s_X10_digest_25 hI rfl (by decide) (by decide) (by decide : (_ : Int32) = nI 49) (by decide) ?_
  refine s_X10_digest_26 ?_
  rw [z1]
  refine s_X10_digest_27 hI (Nat.le_of_ble_eq_true rfl) (m_on _ _) ?_
  intro h9 e9; rw [e9]; clear e9 h9
  refine s_X10_digest_30 ?_
  refine s_X10_digest_31 hI rfl (by decide) rfl (by decide) ?_
  refine s_X10_digest_34 ?_
  refine s_X10_digest_36 hI rfl (by decide) (by decide) (by decide : (_ : Int32) = nI 50) (by decide) ?_
  refine s_X10_digest_37 ?_
  rw [z1]
  refine s_X10_digest_38 hI (Nat.le_of_ble_eq_true rfl) (m_on _ _) ?_
  intro h9 e9; rw [e9]; clear e9 h9
  refine s_X10_digest_41 ?_
  refine s_X10_digest_42 hI rfl (by decide) rfl (by decide) ?_
  refine s_X10_digest_45 ?_
  refine s_X10_digest_47 hI rfl (by decide) (by decide) (by decide : (_ : Int32) = nI 55) (by decide) ?_
  refine s_X10_digest_48 ?_
  rw [z1]
  refine s_X10_digest_49 hI (Nat.le_of_ble_eq_true rfl) (m_on _ _) ?_
  intro h9 e9; rw [e9]; clear e9 h9
  refine s_X10_digest_52 rfl ?_
  refine s_X10_digest_53 ?_
  refine s_X10_digest_54 ?_
  refine s_X10_digest_55 hI rfl (by decide) (Nat.le_of_ble_eq_true rfl) (m_allBits hI z1 ok) ?_
  intro h1 g1
  refine s_X10_digest_58 ?_
  have e1 := (g1 124 (by decide)).trans z1
  refine s_X10_digest_59 hI (Nat.le_of_ble_eq_true rfl) (m_on _ _) ?_
  intro h9 e9; rw [e9]; clear e9 h9
  refine s_X10_digest_62 ?_
  refine s_X10_digest_63 hI rfl (by decide) (Nat.le_of_ble_eq_true rfl) (m_delayFor hI e1 ok) ?_
  intro h2 g2
  refine s_X10_digest_66 ?_
  have e2 := (g2 124 (by decide)).trans e1
  refine s_X10_digest_67 hI (Nat.le_of_ble_eq_true rfl) (m_on _ _) ?_
  intro h9 e9; rw [e9]; clear e9 h9
  refine s_X10_digest_70 ?_
  refine s_X10_digest_71 hI rfl (by decide) (Nat.le_of_ble_eq_true rfl) (m_speedFor hI e2 ok) ?_
  intro h3 g3
  refine s_X10_digest_74 ?_
  have e3 := (g3 124 (by decide)).trans e2
  refine s_X10_digest_75 hI (Nat.le_of_ble_eq_true rfl) (m_on _ _) ?_
  intro h9 e9; rw [e9]; clear e9 h9
  refine s_X10_digest_78 ?_
  refine s_X10_digest_79 ?_
  refine s_X10_digest_80 hI rfl (by decide) (Nat.le_of_ble_eq_true rfl) (m_firstFor hI e3 ok (k := 0) (by decide)) ?_
  intro h4 g4
  refine s_X10_digest_83 ?_
  have e4 := (g4 124 (by decide)).trans e3
  refine s_X10_digest_84 hI (Nat.le_of_ble_eq_true rfl) (m_on _ _) ?_
  intro h9 e9; rw [e9]; clear e9 h9
  refine s_X10_digest_87 rfl ?_
  refine s_X10_digest_88 ?_
  refine s_X10_digest_89 ?_
  refine s_X10_digest_90 hI rfl (by decide) rfl (by decide) ?_
  refine s_X10_digest_93 ?_
  refine s_X10_digest_95 hI rfl (by decide) (by decide) (by decide : (_ : Int32) = nI 56) (by decide) ?_
  refine s_X10_digest_96 ?_
  rw [e4]
  refine s_X10_digest_97 hI (Nat.le_of_ble_eq_true rfl) (m_on _ _) ?_
  intro h9 e9; rw [e9]; clear e9 h9
  refine s_X10_digest_100 ?_
  refine s_X10_digest_101 hI rfl (by decide) (Nat.le_of_ble_eq_true rfl) (m_letterLength hI e4 ok) ?_
  intro h9 e9; rw [e9]; clear e9 h9
  refine s_X10_digest_104 ?_
  refine s_X10_digest_105 hI (Nat.le_of_ble_eq_true rfl) (m_on _ _) ?_
  intro h9 e9; rw [e9]; clear e9 h9
  refine s_X10_digest_108 ?_
  refine s_X10_digest_109 ?_
  refine s_X10_digest_110 hI rfl (by decide) (Nat.le_of_ble_eq_true rfl) (m_hears hI e4 ok (-1)) ?_
  intro h5 ⟨g5, _⟩
  refine s_X10_digest_113 ?_
  have e5 := (g5 124 (by decide)).trans e4
  refine s_X10_digest_114 hI (Nat.le_of_ble_eq_true rfl) (m_on _ _) ?_
  intro h9 e9; rw [e9]; clear e9 h9
  refine s_X10_digest_117 ?_
  refine s_X10_digest_118 hI rfl (by decide) (Nat.le_of_ble_eq_true rfl) (m_firstOther hI e5 ok) ?_
  intro h6 g6
  refine s_X10_digest_121 ?_
  have e6 := (g6 124 (by decide)).trans e5
  refine s_X10_digest_122 hI (Nat.le_of_ble_eq_true rfl) (m_on _ _) ?_
  intro h9 e9; rw [e9]; clear e9 h9
  refine s_X10_digest_125 rfl ?_
  refine s_X10_digest_126 ?_
  refine s_X10_digest_127 ?_
  refine s_X10_digest_128 hI rfl (by decide) (Nat.le_of_ble_eq_true rfl) (m_mostHarm hI e6 ok) ?_
  intro h7 g7
  refine s_X10_digest_131 ?_
  have e7 := (g7 124 (by decide)).trans e6
  refine s_X10_digest_132 hI (Nat.le_of_ble_eq_true rfl) (m_on _ _) ?_
  intro h9 e9; rw [e9]; clear e9 h9
  refine s_X10_digest_135 ?_
  refine s_X10_digest_136 hI rfl (by decide) rfl (by decide) ?_
  refine s_X10_digest_139 ?_
  refine s_X10_digest_142 hI rfl (by decide) (by decide) (by decide : (171 : Int32) = nI 171) (by decide) ?_
  refine s_X10_digest_143 ?_
  rw [e7]
  refine s_X10_digest_144 hI (Nat.le_of_ble_eq_true rfl) (m_on _ _) ?_
  intro h9 e9; rw [e9]; clear e9 h9
  refine s_X10_digest_147 ?_
  refine s_X10_digest_148 hI rfl (by decide) (Nat.le_of_ble_eq_true rfl) (m_mean hI e7 ok) ?_
  intro h9 e9; rw [e9]; clear e9 h9
  refine s_X10_digest_151 hI (Nat.le_of_ble_eq_true rfl) (c_d2lb hI (lou_ok ok)) ?_
  intro h9 e9; rw [e9]; clear e9 h9
  refine s_X10_digest_154 hI (Nat.le_of_ble_eq_true rfl) (m_on _ _) ?_
  intro h9 e9; rw [e9]; clear e9 h9
  refine s_X10_digest_157 rfl ?_
  refine s_X10_digest_158 ?_
  refine s_X10_digest_159 ?_
  refine s_X10_digest_160 ?_
  refine s_X10_digest_161 hI rfl (by decide) (Nat.le_of_ble_eq_true rfl) (m_soundOn hI e7 ok _) ?_
  intro h8 g8
  have e8 := (g8 124 (by decide)).trans e7
  refine s_X10_digest_164 hI rfl (by decide) (Nat.le_of_ble_eq_true rfl) (m_letterOn hI e8 ok _) ?_
  intro h9 g9
  have f9 : fr [128, 129, 130] (am_up hi 123 10 0) h9 := (((((((((g1.mono (by decide)).tr (g2.mono (by decide))).tr (g3.mono (by decide))).tr (g4.mono (by decide))).tr (g5.mono (by decide))).tr (g6.mono (by decide))).tr (g7.mono (by decide)))).tr (g8.mono (by decide))).tr (g9.mono (by decide))
  exact s_X10_digest_167 (hΦ _ (MSt f9 (by decide)))
