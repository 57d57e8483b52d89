set_option maxRecDepth 20000 in
theorem LC_feed {Γ : Nat × (Nat → Int32)} {d : Nat} {Q : mQ} {n0 bc bs i : Nat} {σ : mS} (h : Rel σ) (hL : Γ.1 ≤ 3072) (hi : i + 6 ≤ Γ.1) (hb : 130 ≤ bc) (hs : 700 ≤ bs) (K : ∀ ρ, Rel ρ → mK Γ M_L_law (d + 38) Q n0 (bc - 130) (bs - 700) 1214 (lLL i) [] 60 mSH ρ) : mK Γ M_L_law (d + 38) Q n0 bc bs 140 (lLL i) [] 60 mSH σ := by
  refine mK_aload_n dL_law_140 rfl rfl (.tail _ (.head _)) ?_
  refine mK_aload_n dL_law_141 rfl rfl (.head _) ?_
  refine mK_iload dL_law_142 rfl (.tail _ (.tail _ (.tail _ (.tail _ (.head _))))) ?_
  refine mK_iconst dL_law_144 rfl qic_1 ?_
  refine mK_iadd dL_law_145 rfl ?_
  refine mK_sld dL_law_146 rfl (scr_in1 hi hL) ?_
  show mK Γ M_L_law (d + 38) Q n0 bc bs 147 [(0, .ref 1300), (1, .ref 0), (2, .ref 26), (3, .ref 59), (4, .int (nI i))] [.int (sA1 Γ i), .ref 0] 60 mSH σ
  refine mK_aload_n dL_law_147 rfl rfl (.head _) ?_
  refine mK_iload dL_law_148 rfl (.tail _ (.tail _ (.tail _ (.tail _ (.head _))))) ?_
  refine mK_iconst dL_law_150 rfl qic_2 ?_
  refine mK_iadd dL_law_151 rfl ?_
  refine mK_sld dL_law_152 rfl (scr_in2 hi hL) ?_
  show mK Γ M_L_law (d + 38) Q n0 bc bs 153 [(0, .ref 1300), (1, .ref 0), (2, .ref 26), (3, .ref 59), (4, .int (nI i))] [.int (sA2 Γ i), .int (sA1 Γ i), .ref 0] 60 mSH σ
  refine mK_aload_n dL_law_153 rfl rfl (.head _) ?_
  refine mK_iload dL_law_154 rfl (.tail _ (.tail _ (.tail _ (.tail _ (.head _))))) ?_
  refine mK_iconst dL_law_156 rfl qic_3 ?_
  refine mK_iadd dL_law_157 rfl ?_
  refine mK_sld dL_law_158 rfl (scr_in3 hi hL) ?_
  show mK Γ M_L_law (d + 38) Q n0 bc bs 159 [(0, .ref 1300), (1, .ref 0), (2, .ref 26), (3, .ref 59), (4, .int (nI i))] [.int (sA3 Γ i), .int (sA2 Γ i), .int (sA1 Γ i), .ref 0] 60 mSH σ
  refine mK_aload_n dL_law_159 rfl rfl (.head _) ?_
  refine mK_iload dL_law_160 rfl (.tail _ (.tail _ (.tail _ (.tail _ (.head _))))) ?_
  refine mK_iconst dL_law_162 rfl qic_4 ?_
  refine mK_iadd dL_law_163 rfl ?_
  refine mK_sld dL_law_164 rfl (scr_in4 hi hL) ?_
  show mK Γ M_L_law (d + 38) Q n0 bc bs 165 [(0, .ref 1300), (1, .ref 0), (2, .ref 26), (3, .ref 59), (4, .int (nI i))] [.int (sA4 Γ i), .int (sA3 Γ i), .int (sA2 Γ i), .int (sA1 Γ i), .ref 0] 60 mSH σ
  refine mK_aload_n dL_law_165 rfl rfl (.head _) ?_
  refine mK_iload dL_law_166 rfl (.tail _ (.tail _ (.tail _ (.tail _ (.head _))))) ?_
  refine mK_iconst dL_law_168 rfl qic_5 ?_
  refine mK_iadd dL_law_169 rfl ?_
  refine mK_sld dL_law_170 rfl (scr_in5 hi hL) ?_
  show mK Γ M_L_law (d + 38) Q n0 bc bs 171 [(0, .ref 1300), (1, .ref 0), (2, .ref 26), (3, .ref 59), (4, .int (nI i))] [.int (sA5 Γ i), .int (sA4 Γ i), .int (sA3 Γ i), .int (sA2 Γ i), .int (sA1 Γ i), .ref 0] 60 mSH σ
  refine mK_aload_n dL_law_171 rfl rfl (.tail _ (.tail _ (.tail _ (.head _)))) ?_
  refine mK_invSH (J := M_L_feed) (k := 7) (as := [.ref 0, .int (sA1 Γ i), .int (sA2 Γ i), .int (sA3 Γ i), .int (sA4 Γ i), .int (sA5 Γ i), .ref 59]) (st := []) (c1 := 1) (s1 := 6) dL_law_172 rfl jv_L_feed jn_L_feed rfl (Nat.le_of_ble_eq_true rfl) (by omega) (by omega) rfl (by decide) kw_914 kw_915 ?_
  refine W_feed (d := d + 36) (sA1 Γ i) (sA2 Γ i) (sA3 Γ i) (sA4 Γ i) (sA5 Γ i) (mCall_mono (P_feed (d := d + 24) h (sA1 Γ i) (sA2 Γ i) (sA3 Γ i) (sA4 Γ i) (sA5 Γ i)) (fun o M th τ hq => wr_end hq (fun k v τ' e m => ?_)))
  show mK Γ M_L_law (d + 38) Q n0 (bc - 1) (bs - 6) 175 [(0, .ref 1300), (1, .ref 0), (2, .ref 26), (3, .ref 59), (4, .int (nI i))] [.int k] 60 mSH τ'
  refine ru_istore (lv1 := [(0, .ref 1300), (1, .ref 0), (2, .ref 26), (3, .ref 59), (4, .int (nI i)), (5, .int k)]) dL_law_175 rfl (Nat.le_of_ble_eq_true rfl) rfl ?_
  refine mK_aload_n dL_law_177 rfl rfl (.tail _ (.tail _ (.head _))) ?_
  refine mK_aload_n dL_law_178 rfl rfl (.head _) ?_
  refine mK_iload dL_law_179 rfl (.tail _ (.tail _ (.tail _ (.tail _ (.head _))))) ?_
  refine mK_iconst dL_law_181 rfl qic_1 ?_
  refine mK_iadd dL_law_182 rfl ?_
  refine mK_sld dL_law_183 rfl (scr_in1 hi hL) ?_
  show mK Γ M_L_law (d + 38) Q n0 (bc - 1) (bs - 6) 184 [(0, .ref 1300), (1, .ref 0), (2, .ref 26), (3, .ref 59), (4, .int (nI i)), (5, .int k)] [.int (sA1 Γ i), .ref 26] 60 mSH τ'
  refine mK_aload_n dL_law_184 rfl rfl (.head _) ?_
  refine mK_iload dL_law_185 rfl (.tail _ (.tail _ (.tail _ (.tail _ (.head _))))) ?_
  refine mK_iconst dL_law_187 rfl qic_2 ?_
  refine mK_iadd dL_law_188 rfl ?_
  refine mK_sld dL_law_189 rfl (scr_in2 hi hL) ?_
  show mK Γ M_L_law (d + 38) Q n0 (bc - 1) (bs - 6) 190 [(0, .ref 1300), (1, .ref 0), (2, .ref 26), (3, .ref 59), (4, .int (nI i)), (5, .int k)] [.int (sA2 Γ i), .int (sA1 Γ i), .ref 26] 60 mSH τ'
  refine mK_aload_n dL_law_190 rfl rfl (.head _) ?_
  refine mK_iload dL_law_191 rfl (.tail _ (.tail _ (.tail _ (.tail _ (.head _))))) ?_
  refine mK_iconst dL_law_193 rfl qic_3 ?_
  refine mK_iadd dL_law_194 rfl ?_
  refine mK_sld dL_law_195 rfl (scr_in3 hi hL) ?_
  show mK Γ M_L_law (d + 38) Q n0 (bc - 1) (bs - 6) 196 [(0, .ref 1300), (1, .ref 0), (2, .ref 26), (3, .ref 59), (4, .int (nI i)), (5, .int k)] [.int (sA3 Γ i), .int (sA2 Γ i), .int (sA1 Γ i), .ref 26] 60 mSH τ'
  refine mK_aload_n dL_law_196 rfl rfl (.head _) ?_
  refine mK_iload dL_law_197 rfl (.tail _ (.tail _ (.tail _ (.tail _ (.head _))))) ?_
  refine mK_iconst dL_law_199 rfl qic_4 ?_
  refine mK_iadd dL_law_200 rfl ?_
  refine mK_sld dL_law_201 rfl (scr_in4 hi hL) ?_
  show mK Γ M_L_law (d + 38) Q n0 (bc - 1) (bs - 6) 202 [(0, .ref 1300), (1, .ref 0), (2, .ref 26), (3, .ref 59), (4, .int (nI i)), (5, .int k)] [.int (sA4 Γ i), .int (sA3 Γ i), .int (sA2 Γ i), .int (sA1 Γ i), .ref 26] 60 mSH τ'
  refine mK_aload_n dL_law_202 rfl rfl (.head _) ?_
  refine mK_iload dL_law_203 rfl (.tail _ (.tail _ (.tail _ (.tail _ (.head _))))) ?_
  refine mK_iconst dL_law_205 rfl qic_5 ?_
  refine mK_iadd dL_law_206 rfl ?_
  refine mK_sld dL_law_207 rfl (scr_in5 hi hL) ?_
  show mK Γ M_L_law (d + 38) Q n0 (bc - 1) (bs - 6) 208 [(0, .ref 1300), (1, .ref 0), (2, .ref 26), (3, .ref 59), (4, .int (nI i)), (5, .int k)] [.int (sA5 Γ i), .int (sA4 Γ i), .int (sA3 Γ i), .int (sA2 Γ i), .int (sA1 Γ i), .ref 26] 60 mSH τ'
  refine mK_invV (J := M_X9_feed) (k := 5) (as := [.int (sA1 Γ i), .int (sA2 Γ i), .int (sA3 Γ i), .int (sA4 Γ i), .int (sA5 Γ i)]) (st := []) (c1 := 1) (s1 := 5) (b := 26) dL_law_208 rfl jw_X9_feed jn_X9_feed rfl (Nat.le_of_ble_eq_true rfl) (by omega) (by omega) rfl kw_1204 kw_1205 kw_1206 (Nat.le_of_ble_eq_true rfl) (Nat.le_of_ble_eq_true rfl) rfl ?_
  refine mCall_up (d := d + 36) (by omega) (m _ (fun ρ hρ => ?_))
  obtain ⟨hR, hk, h59⟩ := hρ
  show mK Γ M_L_law (d + 38) Q n0 (bc - 1 - 1) (bs - 6 - 5) 211 [(0, .ref 1300), (1, .ref 0), (2, .ref 26), (3, .ref 59), (4, .int (nI i)), (5, .int k)] [.int v] 60 mSH ρ
  refine ru_istore (lv1 := [(0, .ref 1300), (1, .ref 0), (2, .ref 26), (3, .ref 59), (4, .int (nI i)), (5, .int k), (6, .int v)]) dL_law_211 rfl (Nat.le_of_ble_eq_true rfl) rfl ?_
  refine mK_aload_n dL_law_213 rfl rfl (.tail _ (.tail _ (.head _))) ?_
  refine mK_invV (J := M_X9_thrown) (k := 0) (as := []) (st := []) (c1 := 0) (s1 := 0) (b := 26) dL_law_214 rfl jw_X9_thrown jn_X9_thrown rfl (Nat.le_of_ble_eq_true rfl) (by omega) (by omega) rfl kw_1200 kw_1201 kw_1202 (Nat.le_of_ble_eq_true rfl) (Nat.le_of_ble_eq_true rfl) rfl ?_
  refine S_X9_thrown_26 (d := d + 36) ?_
  show mK Γ M_L_law (d + 38) Q n0 (bc - 1 - 1 - 0) (bs - 6 - 5 - 0) 217 [(0, .ref 1300), (1, .ref 0), (2, .ref 26), (3, .ref 59), (4, .int (nI i)), (5, .int k), (6, .int v)] [.int (ρ.1 26 0)] 60 mSH ρ
  refine mK_iload dL_law_217 rfl (.tail _ (.tail _ (.tail _ (.tail _ (.tail _ (.head _)))))) ?_
  refine mK_icmp_eq (tgt := 224) dL_law_219 rfl (by decide) (fun _ => ?_) (fun q => absurd hk q)
  refine mK_iload dL_law_224 rfl (.tail _ (.tail _ (.tail _ (.tail _ (.tail _ (.head _)))))) ?_
  have fin : mK Γ M_L_law (d + 38) Q n0 (bc - 1 - 1 - 0) (bs - 6 - 5 - 0) 241 [(0, .ref 1300), (1, .ref 0), (2, .ref 26), (3, .ref 59), (4, .int (nI i)), (5, .int k), (6, .int v)] [] 60 mSH ρ := by
    refine mK_goto (tgt := 1214) dL_law_241 (by decide) ?_
    exact ru_pick [0, 1, 2, 3, 4] rfl (mK_bud (by omega) (by omega) (K ρ hR))
  refine ru_if_ne (tgt := 241) dL_law_226 rfl (by decide) (fun _ => fin) (fun q => ?_)
  have hx : ρ.2.1 59 0 = v.toInt64 := by rw [h59]; exact e q
  refine mK_aload_n dL_law_229 rfl rfl (.tail _ (.tail _ (.tail _ (.head _)))) ?_
  refine mK_iconst dL_law_230 rfl qic_0 ?_
  refine ru_lald (j := 59) (n := 1) dL_law_231 rfl rfl vin01 ?_
  show mK Γ M_L_law (d + 38) Q n0 (bc - 1 - 1 - 0) (bs - 6 - 5 - 0) 232 [(0, .ref 1300), (1, .ref 0), (2, .ref 26), (3, .ref 59), (4, .int (nI i)), (5, .int k), (6, .int v)] [.long (ρ.2.1 59 0)] 60 mSH ρ
  refine mK_iload dL_law_232 rfl (.tail _ (.tail _ (.tail _ (.tail _ (.tail _ (.tail _ (.head _))))))) ?_
  refine mK_i2l dL_law_234 rfl ?_
  exact ru_lif_eq (tgt := 241) dL_law_235 rfl dL_law_236 rfl (by decide) (fun _ => fin) (fun q => absurd hx q)
set_option maxRecDepth 20000 in
theorem LC_trim {Γ : Nat × (Nat → Int32)} {d : Nat} {Q : mQ} {n0 bc bs i : Nat} {σ : mS} (h : Rel σ) (hL : Γ.1 ≤ 3072) (hi : i + 6 ≤ Γ.1) (hb : 130 ≤ bc) (hs : 700 ≤ bs) (K : ∀ ρ, Rel ρ → mK Γ M_L_law (d + 38) Q n0 (bc - 130) (bs - 700) 1214 (lLL i) [] 60 mSH ρ) : mK Γ M_L_law (d + 38) Q n0 bc bs 244 (lLL i) [] 60 mSH σ := by
  refine mK_aload_n dL_law_244 rfl rfl (.tail _ (.head _)) ?_
  refine mK_aload_n dL_law_245 rfl rfl (.head _) ?_
  refine mK_iload dL_law_246 rfl (.tail _ (.tail _ (.tail _ (.tail _ (.head _))))) ?_
  refine mK_iconst dL_law_248 rfl qic_1 ?_
  refine mK_iadd dL_law_249 rfl ?_
  refine mK_sld dL_law_250 rfl (scr_in1 hi hL) ?_
  show mK Γ M_L_law (d + 38) Q n0 bc bs 251 [(0, .ref 1300), (1, .ref 0), (2, .ref 26), (3, .ref 59), (4, .int (nI i))] [.int (sA1 Γ i), .ref 0] 60 mSH σ
  refine mK_aload_n dL_law_251 rfl rfl (.tail _ (.tail _ (.tail _ (.head _)))) ?_
  refine mK_invSH (J := M_L_trim) (k := 3) (as := [.ref 0, .int (sA1 Γ i), .ref 59]) (st := []) (c1 := 1) (s1 := 6) dL_law_252 rfl jv_L_trim jn_L_trim rfl (Nat.le_of_ble_eq_true rfl) (by omega) (by omega) rfl (by decide) kw_942 kw_943 ?_
  refine W_trim (d := d + 36) (sA1 Γ i) (mCall_mono (P_trim (d := d + 24) h (sA1 Γ i)) (fun o M th τ hq => wr_end hq (fun k v τ' e m => ?_)))
  show mK Γ M_L_law (d + 38) Q n0 (bc - 1) (bs - 6) 255 [(0, .ref 1300), (1, .ref 0), (2, .ref 26), (3, .ref 59), (4, .int (nI i))] [.int k] 60 mSH τ'
  refine ru_istore (lv1 := [(0, .ref 1300), (1, .ref 0), (2, .ref 26), (3, .ref 59), (4, .int (nI i)), (5, .int k)]) dL_law_255 rfl (Nat.le_of_ble_eq_true rfl) rfl ?_
  refine mK_aload_n dL_law_257 rfl rfl (.tail _ (.tail _ (.head _))) ?_
  refine mK_aload_n dL_law_258 rfl rfl (.head _) ?_
  refine mK_iload dL_law_259 rfl (.tail _ (.tail _ (.tail _ (.tail _ (.head _))))) ?_
  refine mK_iconst dL_law_261 rfl qic_1 ?_
  refine mK_iadd dL_law_262 rfl ?_
  refine mK_sld dL_law_263 rfl (scr_in1 hi hL) ?_
  show mK Γ M_L_law (d + 38) Q n0 (bc - 1) (bs - 6) 264 [(0, .ref 1300), (1, .ref 0), (2, .ref 26), (3, .ref 59), (4, .int (nI i)), (5, .int k)] [.int (sA1 Γ i), .ref 26] 60 mSH τ'
  refine mK_invV (J := M_X9_trim) (k := 1) (as := [.int (sA1 Γ i)]) (st := []) (c1 := 0) (s1 := 0) (b := 26) dL_law_264 rfl jw_X9_trim jn_X9_trim rfl (Nat.le_of_ble_eq_true rfl) (by omega) (by omega) rfl kw_1212 kw_1213 kw_1214 (Nat.le_of_ble_eq_true rfl) (Nat.le_of_ble_eq_true rfl) rfl ?_
  refine mCall_up (d := d + 36) (by omega) (m _ (fun ρ hρ => ?_))
  obtain ⟨hR, hk, h59⟩ := hρ
  show mK Γ M_L_law (d + 38) Q n0 (bc - 1 - 0) (bs - 6 - 0) 267 [(0, .ref 1300), (1, .ref 0), (2, .ref 26), (3, .ref 59), (4, .int (nI i)), (5, .int k)] [.int v] 60 mSH ρ
  refine ru_istore (lv1 := [(0, .ref 1300), (1, .ref 0), (2, .ref 26), (3, .ref 59), (4, .int (nI i)), (5, .int k), (6, .int v)]) dL_law_267 rfl (Nat.le_of_ble_eq_true rfl) rfl ?_
  refine mK_aload_n dL_law_269 rfl rfl (.tail _ (.tail _ (.head _))) ?_
  refine mK_invV (J := M_X9_thrown) (k := 0) (as := []) (st := []) (c1 := 0) (s1 := 0) (b := 26) dL_law_270 rfl jw_X9_thrown jn_X9_thrown rfl (Nat.le_of_ble_eq_true rfl) (by omega) (by omega) rfl kw_1200 kw_1201 kw_1202 (Nat.le_of_ble_eq_true rfl) (Nat.le_of_ble_eq_true rfl) rfl ?_
  refine S_X9_thrown_26 (d := d + 36) ?_
  show mK Γ M_L_law (d + 38) Q n0 (bc - 1 - 0 - 0) (bs - 6 - 0 - 0) 273 [(0, .ref 1300), (1, .ref 0), (2, .ref 26), (3, .ref 59), (4, .int (nI i)), (5, .int k), (6, .int v)] [.int (ρ.1 26 0)] 60 mSH ρ
  refine mK_iload dL_law_273 rfl (.tail _ (.tail _ (.tail _ (.tail _ (.tail _ (.head _)))))) ?_
  refine mK_icmp_eq (tgt := 280) dL_law_275 rfl (by decide) (fun _ => ?_) (fun q => absurd hk q)
  refine mK_iload dL_law_280 rfl (.tail _ (.tail _ (.tail _ (.tail _ (.tail _ (.head _)))))) ?_
  have fin : mK Γ M_L_law (d + 38) Q n0 (bc - 1 - 0 - 0) (bs - 6 - 0 - 0) 297 [(0, .ref 1300), (1, .ref 0), (2, .ref 26), (3, .ref 59), (4, .int (nI i)), (5, .int k), (6, .int v)] [] 60 mSH ρ := by
    refine mK_goto (tgt := 1214) dL_law_297 (by decide) ?_
    exact ru_pick [0, 1, 2, 3, 4] rfl (mK_bud (by omega) (by omega) (K ρ hR))
  refine ru_if_ne (tgt := 297) dL_law_282 rfl (by decide) (fun _ => fin) (fun q => ?_)
  have hx : ρ.2.1 59 0 = v.toInt64 := by rw [h59]; exact e q
  refine mK_aload_n dL_law_285 rfl rfl (.tail _ (.tail _ (.tail _ (.head _)))) ?_
  refine mK_iconst dL_law_286 rfl qic_0 ?_
  refine ru_lald (j := 59) (n := 1) dL_law_287 rfl rfl vin01 ?_
  show mK Γ M_L_law (d + 38) Q n0 (bc - 1 - 0 - 0) (bs - 6 - 0 - 0) 288 [(0, .ref 1300), (1, .ref 0), (2, .ref 26), (3, .ref 59), (4, .int (nI i)), (5, .int k), (6, .int v)] [.long (ρ.2.1 59 0)] 60 mSH ρ
  refine mK_iload dL_law_288 rfl (.tail _ (.tail _ (.tail _ (.tail _ (.tail _ (.tail _ (.head _))))))) ?_
  refine mK_i2l dL_law_290 rfl ?_
  exact ru_lif_eq (tgt := 297) dL_law_291 rfl dL_law_292 rfl (by decide) (fun _ => fin) (fun q => absurd hx q)
set_option maxRecDepth 20000 in
theorem LC_count {Γ : Nat × (Nat → Int32)} {d : Nat} {Q : mQ} {n0 bc bs i : Nat} {σ : mS} (h : Rel σ) (hL : Γ.1 ≤ 3072) (hi : i + 6 ≤ Γ.1) (hb : 130 ≤ bc) (hs : 700 ≤ bs) (K : ∀ ρ, Rel ρ → mK Γ M_L_law (d + 38) Q n0 (bc - 130) (bs - 700) 1214 (lLL i) [] 60 mSH ρ) : mK Γ M_L_law (d + 38) Q n0 bc bs 326 (lLL i) [] 60 mSH σ := by
  refine mK_aload_n dL_law_326 rfl rfl (.tail _ (.head _)) ?_
  refine mK_aload_n dL_law_327 rfl rfl (.head _) ?_
  refine mK_iload dL_law_328 rfl (.tail _ (.tail _ (.tail _ (.tail _ (.head _))))) ?_
  refine mK_iconst dL_law_330 rfl qic_1 ?_
  refine mK_iadd dL_law_331 rfl ?_
  refine mK_sld dL_law_332 rfl (scr_in1 hi hL) ?_
  show mK Γ M_L_law (d + 38) Q n0 bc bs 333 [(0, .ref 1300), (1, .ref 0), (2, .ref 26), (3, .ref 59), (4, .int (nI i))] [.int (sA1 Γ i), .ref 0] 60 mSH σ
  refine mK_aload_n dL_law_333 rfl rfl (.tail _ (.tail _ (.tail _ (.head _)))) ?_
  refine mK_invSH (J := M_L_count) (k := 3) (as := [.ref 0, .int (sA1 Γ i), .ref 59]) (st := []) (c1 := 1) (s1 := 6) dL_law_334 rfl jv_L_count jn_L_count rfl (Nat.le_of_ble_eq_true rfl) (by omega) (by omega) rfl (by decide) kw_966 kw_967 ?_
  refine W_count (d := d + 36) (sA1 Γ i) (mCall_mono (P_count (d := d + 24) h (sA1 Γ i)) (fun o M th τ hq => wr_end hq (fun k v τ' e m => ?_)))
  show mK Γ M_L_law (d + 38) Q n0 (bc - 1) (bs - 6) 337 [(0, .ref 1300), (1, .ref 0), (2, .ref 26), (3, .ref 59), (4, .int (nI i))] [.int k] 60 mSH τ'
  refine ru_istore (lv1 := [(0, .ref 1300), (1, .ref 0), (2, .ref 26), (3, .ref 59), (4, .int (nI i)), (5, .int k)]) dL_law_337 rfl (Nat.le_of_ble_eq_true rfl) rfl ?_
  refine mK_aload_n dL_law_339 rfl rfl (.tail _ (.tail _ (.head _))) ?_
  refine mK_aload_n dL_law_340 rfl rfl (.head _) ?_
  refine mK_iload dL_law_341 rfl (.tail _ (.tail _ (.tail _ (.tail _ (.head _))))) ?_
  refine mK_iconst dL_law_343 rfl qic_1 ?_
  refine mK_iadd dL_law_344 rfl ?_
  refine mK_sld dL_law_345 rfl (scr_in1 hi hL) ?_
  show mK Γ M_L_law (d + 38) Q n0 (bc - 1) (bs - 6) 346 [(0, .ref 1300), (1, .ref 0), (2, .ref 26), (3, .ref 59), (4, .int (nI i)), (5, .int k)] [.int (sA1 Γ i), .ref 26] 60 mSH τ'
  refine mK_invV (J := M_X9_count) (k := 1) (as := [.int (sA1 Γ i)]) (st := []) (c1 := 3) (s1 := 18) (b := 26) dL_law_346 rfl jw_X9_count jn_X9_count rfl (Nat.le_of_ble_eq_true rfl) (by omega) (by omega) rfl kw_1461 kw_1462 kw_1463 (Nat.le_of_ble_eq_true rfl) (Nat.le_of_ble_eq_true rfl) rfl ?_
  refine mCall_up (d := d + 36) (by omega) (m _ (fun ρ hρ => ?_))
  obtain ⟨hR, hk, h59⟩ := hρ
  show mK Γ M_L_law (d + 38) Q n0 (bc - 1 - 3) (bs - 6 - 18) 349 [(0, .ref 1300), (1, .ref 0), (2, .ref 26), (3, .ref 59), (4, .int (nI i)), (5, .int k)] [.int v] 60 mSH ρ
  refine ru_istore (lv1 := [(0, .ref 1300), (1, .ref 0), (2, .ref 26), (3, .ref 59), (4, .int (nI i)), (5, .int k), (6, .int v)]) dL_law_349 rfl (Nat.le_of_ble_eq_true rfl) rfl ?_
  refine mK_aload_n dL_law_351 rfl rfl (.tail _ (.tail _ (.head _))) ?_
  refine mK_invV (J := M_X9_thrown) (k := 0) (as := []) (st := []) (c1 := 0) (s1 := 0) (b := 26) dL_law_352 rfl jw_X9_thrown jn_X9_thrown rfl (Nat.le_of_ble_eq_true rfl) (by omega) (by omega) rfl kw_1200 kw_1201 kw_1202 (Nat.le_of_ble_eq_true rfl) (Nat.le_of_ble_eq_true rfl) rfl ?_
  refine S_X9_thrown_26 (d := d + 36) ?_
  show mK Γ M_L_law (d + 38) Q n0 (bc - 1 - 3 - 0) (bs - 6 - 18 - 0) 355 [(0, .ref 1300), (1, .ref 0), (2, .ref 26), (3, .ref 59), (4, .int (nI i)), (5, .int k), (6, .int v)] [.int (ρ.1 26 0)] 60 mSH ρ
  refine mK_iload dL_law_355 rfl (.tail _ (.tail _ (.tail _ (.tail _ (.tail _ (.head _)))))) ?_
  refine mK_icmp_eq (tgt := 362) dL_law_357 rfl (by decide) (fun _ => ?_) (fun q => absurd hk q)
  refine mK_iload dL_law_362 rfl (.tail _ (.tail _ (.tail _ (.tail _ (.tail _ (.head _)))))) ?_
  have fin : mK Γ M_L_law (d + 38) Q n0 (bc - 1 - 3 - 0) (bs - 6 - 18 - 0) 379 [(0, .ref 1300), (1, .ref 0), (2, .ref 26), (3, .ref 59), (4, .int (nI i)), (5, .int k), (6, .int v)] [] 60 mSH ρ := by
    refine mK_goto (tgt := 1214) dL_law_379 (by decide) ?_
    exact ru_pick [0, 1, 2, 3, 4] rfl (mK_bud (by omega) (by omega) (K ρ hR))
  refine ru_if_ne (tgt := 379) dL_law_364 rfl (by decide) (fun _ => fin) (fun q => ?_)
  have hx : ρ.2.1 59 0 = v.toInt64 := by rw [h59]; exact e q
  refine mK_aload_n dL_law_367 rfl rfl (.tail _ (.tail _ (.tail _ (.head _)))) ?_
  refine mK_iconst dL_law_368 rfl qic_0 ?_
  refine ru_lald (j := 59) (n := 1) dL_law_369 rfl rfl vin01 ?_
  show mK Γ M_L_law (d + 38) Q n0 (bc - 1 - 3 - 0) (bs - 6 - 18 - 0) 370 [(0, .ref 1300), (1, .ref 0), (2, .ref 26), (3, .ref 59), (4, .int (nI i)), (5, .int k), (6, .int v)] [.long (ρ.2.1 59 0)] 60 mSH ρ
  refine mK_iload dL_law_370 rfl (.tail _ (.tail _ (.tail _ (.tail _ (.tail _ (.tail _ (.head _))))))) ?_
  refine mK_i2l dL_law_372 rfl ?_
  exact ru_lif_eq (tgt := 379) dL_law_373 rfl dL_law_374 rfl (by decide) (fun _ => fin) (fun q => absurd hx q)
set_option maxRecDepth 20000 in
theorem LC_speaker {Γ : Nat × (Nat → Int32)} {d : Nat} {Q : mQ} {n0 bc bs i : Nat} {σ : mS} (h : Rel σ) (hL : Γ.1 ≤ 3072) (hi : i + 6 ≤ Γ.1) (hb : 130 ≤ bc) (hs : 700 ≤ bs) (K : ∀ ρ, Rel ρ → mK Γ M_L_law (d + 38) Q n0 (bc - 130) (bs - 700) 1214 (lLL i) [] 60 mSH ρ) : mK Γ M_L_law (d + 38) Q n0 bc bs 382 (lLL i) [] 60 mSH σ := by
  refine mK_aload_n dL_law_382 rfl rfl (.tail _ (.head _)) ?_
  refine mK_aload_n dL_law_383 rfl rfl (.head _) ?_
  refine mK_iload dL_law_384 rfl (.tail _ (.tail _ (.tail _ (.tail _ (.head _))))) ?_
  refine mK_iconst dL_law_386 rfl qic_1 ?_
  refine mK_iadd dL_law_387 rfl ?_
  refine mK_sld dL_law_388 rfl (scr_in1 hi hL) ?_
  show mK Γ M_L_law (d + 38) Q n0 bc bs 389 [(0, .ref 1300), (1, .ref 0), (2, .ref 26), (3, .ref 59), (4, .int (nI i))] [.int (sA1 Γ i), .ref 0] 60 mSH σ
  refine mK_aload_n dL_law_389 rfl rfl (.head _) ?_
  refine mK_iload dL_law_390 rfl (.tail _ (.tail _ (.tail _ (.tail _ (.head _))))) ?_
  refine mK_iconst dL_law_392 rfl qic_2 ?_
  refine mK_iadd dL_law_393 rfl ?_
  refine mK_sld dL_law_394 rfl (scr_in2 hi hL) ?_
  show mK Γ M_L_law (d + 38) Q n0 bc bs 395 [(0, .ref 1300), (1, .ref 0), (2, .ref 26), (3, .ref 59), (4, .int (nI i))] [.int (sA2 Γ i), .int (sA1 Γ i), .ref 0] 60 mSH σ
  refine mK_aload_n dL_law_395 rfl rfl (.tail _ (.tail _ (.tail _ (.head _)))) ?_
  refine mK_invSH (J := M_L_speaker) (k := 4) (as := [.ref 0, .int (sA1 Γ i), .int (sA2 Γ i), .ref 59]) (st := []) (c1 := 2) (s1 := 12) dL_law_396 rfl jv_L_speaker jn_L_speaker rfl (Nat.le_of_ble_eq_true rfl) (by omega) (by omega) rfl (by decide) kw_971 kw_972 ?_
  refine W_speaker (d := d + 36) (sA1 Γ i) (sA2 Γ i) (mCall_mono (P_speaker (d := d + 24) h (sA1 Γ i) (sA2 Γ i)) (fun o M th τ hq => wr_end hq (fun k v τ' e m => ?_)))
  show mK Γ M_L_law (d + 38) Q n0 (bc - 2) (bs - 12) 399 [(0, .ref 1300), (1, .ref 0), (2, .ref 26), (3, .ref 59), (4, .int (nI i))] [.int k] 60 mSH τ'
  refine ru_istore (lv1 := [(0, .ref 1300), (1, .ref 0), (2, .ref 26), (3, .ref 59), (4, .int (nI i)), (5, .int k)]) dL_law_399 rfl (Nat.le_of_ble_eq_true rfl) rfl ?_
  refine mK_aload_n dL_law_401 rfl rfl (.tail _ (.tail _ (.head _))) ?_
  refine mK_aload_n dL_law_402 rfl rfl (.head _) ?_
  refine mK_iload dL_law_403 rfl (.tail _ (.tail _ (.tail _ (.tail _ (.head _))))) ?_
  refine mK_iconst dL_law_405 rfl qic_1 ?_
  refine mK_iadd dL_law_406 rfl ?_
  refine mK_sld dL_law_407 rfl (scr_in1 hi hL) ?_
  show mK Γ M_L_law (d + 38) Q n0 (bc - 2) (bs - 12) 408 [(0, .ref 1300), (1, .ref 0), (2, .ref 26), (3, .ref 59), (4, .int (nI i)), (5, .int k)] [.int (sA1 Γ i), .ref 26] 60 mSH τ'
  refine mK_aload_n dL_law_408 rfl rfl (.head _) ?_
  refine mK_iload dL_law_409 rfl (.tail _ (.tail _ (.tail _ (.tail _ (.head _))))) ?_
  refine mK_iconst dL_law_411 rfl qic_2 ?_
  refine mK_iadd dL_law_412 rfl ?_
  refine mK_sld dL_law_413 rfl (scr_in2 hi hL) ?_
  show mK Γ M_L_law (d + 38) Q n0 (bc - 2) (bs - 12) 414 [(0, .ref 1300), (1, .ref 0), (2, .ref 26), (3, .ref 59), (4, .int (nI i)), (5, .int k)] [.int (sA2 Γ i), .int (sA1 Γ i), .ref 26] 60 mSH τ'
  refine mK_invV (J := M_X9_speaker) (k := 2) (as := [.int (sA1 Γ i), .int (sA2 Γ i)]) (st := []) (c1 := 2) (s1 := 10) (b := 26) dL_law_414 rfl jw_X9_speaker jn_X9_speaker rfl (Nat.le_of_ble_eq_true rfl) (by omega) (by omega) rfl kw_1469 kw_1470 kw_1471 (Nat.le_of_ble_eq_true rfl) (Nat.le_of_ble_eq_true rfl) rfl ?_
  refine mCall_up (d := d + 36) (by omega) (m _ (fun ρ hρ => ?_))
  obtain ⟨hR, hk, h59⟩ := hρ
  show mK Γ M_L_law (d + 38) Q n0 (bc - 2 - 2) (bs - 12 - 10) 417 [(0, .ref 1300), (1, .ref 0), (2, .ref 26), (3, .ref 59), (4, .int (nI i)), (5, .int k)] [.int v] 60 mSH ρ
  refine ru_istore (lv1 := [(0, .ref 1300), (1, .ref 0), (2, .ref 26), (3, .ref 59), (4, .int (nI i)), (5, .int k), (6, .int v)]) dL_law_417 rfl (Nat.le_of_ble_eq_true rfl) rfl ?_
  refine mK_aload_n dL_law_419 rfl rfl (.tail _ (.tail _ (.head _))) ?_
  refine mK_invV (J := M_X9_thrown) (k := 0) (as := []) (st := []) (c1 := 0) (s1 := 0) (b := 26) dL_law_420 rfl jw_X9_thrown jn_X9_thrown rfl (Nat.le_of_ble_eq_true rfl) (by omega) (by omega) rfl kw_1200 kw_1201 kw_1202 (Nat.le_of_ble_eq_true rfl) (Nat.le_of_ble_eq_true rfl) rfl ?_
  refine S_X9_thrown_26 (d := d + 36) ?_
  show mK Γ M_L_law (d + 38) Q n0 (bc - 2 - 2 - 0) (bs - 12 - 10 - 0) 423 [(0, .ref 1300), (1, .ref 0), (2, .ref 26), (3, .ref 59), (4, .int (nI i)), (5, .int k), (6, .int v)] [.int (ρ.1 26 0)] 60 mSH ρ
  refine mK_iload dL_law_423 rfl (.tail _ (.tail _ (.tail _ (.tail _ (.tail _ (.head _)))))) ?_
  refine mK_icmp_eq (tgt := 430) dL_law_425 rfl (by decide) (fun _ => ?_) (fun q => absurd hk q)
  refine mK_iload dL_law_430 rfl (.tail _ (.tail _ (.tail _ (.tail _ (.tail _ (.head _)))))) ?_
  have fin : mK Γ M_L_law (d + 38) Q n0 (bc - 2 - 2 - 0) (bs - 12 - 10 - 0) 447 [(0, .ref 1300), (1, .ref 0), (2, .ref 26), (3, .ref 59), (4, .int (nI i)), (5, .int k), (6, .int v)] [] 60 mSH ρ := by
    refine mK_goto (tgt := 1214) dL_law_447 (by decide) ?_
    exact ru_pick [0, 1, 2, 3, 4] rfl (mK_bud (by omega) (by omega) (K ρ hR))
  refine ru_if_ne (tgt := 447) dL_law_432 rfl (by decide) (fun _ => fin) (fun q => ?_)
  have hx : ρ.2.1 59 0 = v.toInt64 := by rw [h59]; exact e q
  refine mK_aload_n dL_law_435 rfl rfl (.tail _ (.tail _ (.tail _ (.head _)))) ?_
  refine mK_iconst dL_law_436 rfl qic_0 ?_
  refine ru_lald (j := 59) (n := 1) dL_law_437 rfl rfl vin01 ?_
  show mK Γ M_L_law (d + 38) Q n0 (bc - 2 - 2 - 0) (bs - 12 - 10 - 0) 438 [(0, .ref 1300), (1, .ref 0), (2, .ref 26), (3, .ref 59), (4, .int (nI i)), (5, .int k), (6, .int v)] [.long (ρ.2.1 59 0)] 60 mSH ρ
  refine mK_iload dL_law_438 rfl (.tail _ (.tail _ (.tail _ (.tail _ (.tail _ (.tail _ (.head _))))))) ?_
  refine mK_i2l dL_law_440 rfl ?_
  exact ru_lif_eq (tgt := 447) dL_law_441 rfl dL_law_442 rfl (by decide) (fun _ => fin) (fun q => absurd hx q)
set_option maxRecDepth 20000 in
theorem LC_item {Γ : Nat × (Nat → Int32)} {d : Nat} {Q : mQ} {n0 bc bs i : Nat} {σ : mS} (h : Rel σ) (hL : Γ.1 ≤ 3072) (hi : i + 6 ≤ Γ.1) (hb : 130 ≤ bc) (hs : 700 ≤ bs) (K : ∀ ρ, Rel ρ → mK Γ M_L_law (d + 38) Q n0 (bc - 130) (bs - 700) 1214 (lLL i) [] 60 mSH ρ) : mK Γ M_L_law (d + 38) Q n0 bc bs 450 (lLL i) [] 60 mSH σ := by
  refine mK_aload_n dL_law_450 rfl rfl (.tail _ (.head _)) ?_
  refine mK_aload_n dL_law_451 rfl rfl (.head _) ?_
  refine mK_iload dL_law_452 rfl (.tail _ (.tail _ (.tail _ (.tail _ (.head _))))) ?_
  refine mK_iconst dL_law_454 rfl qic_1 ?_
  refine mK_iadd dL_law_455 rfl ?_
  refine mK_sld dL_law_456 rfl (scr_in1 hi hL) ?_
  show mK Γ M_L_law (d + 38) Q n0 bc bs 457 [(0, .ref 1300), (1, .ref 0), (2, .ref 26), (3, .ref 59), (4, .int (nI i))] [.int (sA1 Γ i), .ref 0] 60 mSH σ
  refine mK_aload_n dL_law_457 rfl rfl (.head _) ?_
  refine mK_iload dL_law_458 rfl (.tail _ (.tail _ (.tail _ (.tail _ (.head _))))) ?_
  refine mK_iconst dL_law_460 rfl qic_2 ?_
  refine mK_iadd dL_law_461 rfl ?_
  refine mK_sld dL_law_462 rfl (scr_in2 hi hL) ?_
  show mK Γ M_L_law (d + 38) Q n0 bc bs 463 [(0, .ref 1300), (1, .ref 0), (2, .ref 26), (3, .ref 59), (4, .int (nI i))] [.int (sA2 Γ i), .int (sA1 Γ i), .ref 0] 60 mSH σ
  refine mK_aload_n dL_law_463 rfl rfl (.tail _ (.tail _ (.tail _ (.head _)))) ?_
  refine mK_invSH (J := M_L_item) (k := 4) (as := [.ref 0, .int (sA1 Γ i), .int (sA2 Γ i), .ref 59]) (st := []) (c1 := 2) (s1 := 12) dL_law_464 rfl jv_L_item jn_L_item rfl (Nat.le_of_ble_eq_true rfl) (by omega) (by omega) rfl (by decide) kw_975 kw_976 ?_
  refine W_item (d := d + 36) (sA1 Γ i) (sA2 Γ i) (mCall_mono (P_item (d := d + 24) h (sA1 Γ i) (sA2 Γ i)) (fun o M th τ hq => wr_end hq (fun k v τ' e m => ?_)))
  show mK Γ M_L_law (d + 38) Q n0 (bc - 2) (bs - 12) 467 [(0, .ref 1300), (1, .ref 0), (2, .ref 26), (3, .ref 59), (4, .int (nI i))] [.int k] 60 mSH τ'
  refine ru_istore (lv1 := [(0, .ref 1300), (1, .ref 0), (2, .ref 26), (3, .ref 59), (4, .int (nI i)), (5, .int k)]) dL_law_467 rfl (Nat.le_of_ble_eq_true rfl) rfl ?_
  refine mK_aload_n dL_law_469 rfl rfl (.tail _ (.tail _ (.head _))) ?_
  refine mK_aload_n dL_law_470 rfl rfl (.head _) ?_
  refine mK_iload dL_law_471 rfl (.tail _ (.tail _ (.tail _ (.tail _ (.head _))))) ?_
  refine mK_iconst dL_law_473 rfl qic_1 ?_
  refine mK_iadd dL_law_474 rfl ?_
  refine mK_sld dL_law_475 rfl (scr_in1 hi hL) ?_
  show mK Γ M_L_law (d + 38) Q n0 (bc - 2) (bs - 12) 476 [(0, .ref 1300), (1, .ref 0), (2, .ref 26), (3, .ref 59), (4, .int (nI i)), (5, .int k)] [.int (sA1 Γ i), .ref 26] 60 mSH τ'
  refine mK_aload_n dL_law_476 rfl rfl (.head _) ?_
  refine mK_iload dL_law_477 rfl (.tail _ (.tail _ (.tail _ (.tail _ (.head _))))) ?_
  refine mK_iconst dL_law_479 rfl qic_2 ?_
  refine mK_iadd dL_law_480 rfl ?_
  refine mK_sld dL_law_481 rfl (scr_in2 hi hL) ?_
  show mK Γ M_L_law (d + 38) Q n0 (bc - 2) (bs - 12) 482 [(0, .ref 1300), (1, .ref 0), (2, .ref 26), (3, .ref 59), (4, .int (nI i)), (5, .int k)] [.int (sA2 Γ i), .int (sA1 Γ i), .ref 26] 60 mSH τ'
  refine mK_invV (J := M_X9_item) (k := 2) (as := [.int (sA1 Γ i), .int (sA2 Γ i)]) (st := []) (c1 := 0) (s1 := 0) (b := 26) dL_law_482 rfl jw_X9_item jn_X9_item rfl (Nat.le_of_ble_eq_true rfl) (by omega) (by omega) rfl kw_1491 kw_1492 kw_1493 (Nat.le_of_ble_eq_true rfl) (Nat.le_of_ble_eq_true rfl) rfl ?_
  refine mCall_up (d := d + 36) (by omega) (m _ (fun ρ hρ => ?_))
  obtain ⟨hR, hk, h59⟩ := hρ
  show mK Γ M_L_law (d + 38) Q n0 (bc - 2 - 0) (bs - 12 - 0) 485 [(0, .ref 1300), (1, .ref 0), (2, .ref 26), (3, .ref 59), (4, .int (nI i)), (5, .int k)] [.int v] 60 mSH ρ
  refine ru_istore (lv1 := [(0, .ref 1300), (1, .ref 0), (2, .ref 26), (3, .ref 59), (4, .int (nI i)), (5, .int k), (6, .int v)]) dL_law_485 rfl (Nat.le_of_ble_eq_true rfl) rfl ?_
  refine mK_aload_n dL_law_487 rfl rfl (.tail _ (.tail _ (.head _))) ?_
  refine mK_invV (J := M_X9_thrown) (k := 0) (as := []) (st := []) (c1 := 0) (s1 := 0) (b := 26) dL_law_488 rfl jw_X9_thrown jn_X9_thrown rfl (Nat.le_of_ble_eq_true rfl) (by omega) (by omega) rfl kw_1200 kw_1201 kw_1202 (Nat.le_of_ble_eq_true rfl) (Nat.le_of_ble_eq_true rfl) rfl ?_
  refine S_X9_thrown_26 (d := d + 36) ?_
  show mK Γ M_L_law (d + 38) Q n0 (bc - 2 - 0 - 0) (bs - 12 - 0 - 0) 491 [(0, .ref 1300), (1, .ref 0), (2, .ref 26), (3, .ref 59), (4, .int (nI i)), (5, .int k), (6, .int v)] [.int (ρ.1 26 0)] 60 mSH ρ
  refine mK_iload dL_law_491 rfl (.tail _ (.tail _ (.tail _ (.tail _ (.tail _ (.head _)))))) ?_
  refine mK_icmp_eq (tgt := 498) dL_law_493 rfl (by decide) (fun _ => ?_) (fun q => absurd hk q)
  refine mK_iload dL_law_498 rfl (.tail _ (.tail _ (.tail _ (.tail _ (.tail _ (.head _)))))) ?_
  have fin : mK Γ M_L_law (d + 38) Q n0 (bc - 2 - 0 - 0) (bs - 12 - 0 - 0) 515 [(0, .ref 1300), (1, .ref 0), (2, .ref 26), (3, .ref 59), (4, .int (nI i)), (5, .int k), (6, .int v)] [] 60 mSH ρ := by
    refine mK_goto (tgt := 1214) dL_law_515 (by decide) ?_
    exact ru_pick [0, 1, 2, 3, 4] rfl (mK_bud (by omega) (by omega) (K ρ hR))
  refine ru_if_ne (tgt := 515) dL_law_500 rfl (by decide) (fun _ => fin) (fun q => ?_)
  have hx : ρ.2.1 59 0 = v.toInt64 := by rw [h59]; exact e q
  refine mK_aload_n dL_law_503 rfl rfl (.tail _ (.tail _ (.tail _ (.head _)))) ?_
  refine mK_iconst dL_law_504 rfl qic_0 ?_
  refine ru_lald (j := 59) (n := 1) dL_law_505 rfl rfl vin01 ?_
  show mK Γ M_L_law (d + 38) Q n0 (bc - 2 - 0 - 0) (bs - 12 - 0 - 0) 506 [(0, .ref 1300), (1, .ref 0), (2, .ref 26), (3, .ref 59), (4, .int (nI i)), (5, .int k), (6, .int v)] [.long (ρ.2.1 59 0)] 60 mSH ρ
  refine mK_iload dL_law_506 rfl (.tail _ (.tail _ (.tail _ (.tail _ (.tail _ (.tail _ (.head _))))))) ?_
  refine mK_i2l dL_law_508 rfl ?_
  exact ru_lif_eq (tgt := 515) dL_law_509 rfl dL_law_510 rfl (by decide) (fun _ => fin) (fun q => absurd hx q)
set_option maxRecDepth 20000 in
theorem LC_tell {Γ : Nat × (Nat → Int32)} {d : Nat} {Q : mQ} {n0 bc bs i : Nat} {σ : mS} (h : Rel σ) (hL : Γ.1 ≤ 3072) (hi : i + 6 ≤ Γ.1) (hb : 130 ≤ bc) (hs : 700 ≤ bs) (K : ∀ ρ, Rel ρ → mK Γ M_L_law (d + 38) Q n0 (bc - 130) (bs - 700) 1214 (lLL i) [] 60 mSH ρ) : mK Γ M_L_law (d + 38) Q n0 bc bs 300 (lLL i) [] 60 mSH σ := by
  refine mK_aload_n dL_law_300 rfl rfl (.tail _ (.head _)) ?_
  refine mK_invV (J := M_X7_tell) (k := 0) (as := []) (st := []) (c1 := 0) (s1 := 0) (b := 0) dL_law_301 rfl jw_X7_tell jn_X7_tell rfl (Nat.le_of_ble_eq_true rfl) (by omega) (by omega) rfl kw_309 kw_310 kw_311 (Nat.le_of_ble_eq_true rfl) (Nat.le_of_ble_eq_true rfl) rfl ?_
  refine mCall_up (d := d + 36) (by omega) (mCall_mono (PN_tell (d := d) h) (fun o M th τ hq => ?_))
  obtain ⟨rfl, rfl, v, rfl, m⟩ := PN_of hq
  show mK Γ M_L_law (d + 38) Q n0 (bc - 0) (bs - 0) 304 [(0, .ref 1300), (1, .ref 0), (2, .ref 26), (3, .ref 59), (4, .int (nI i))] [.int v] 60 mSH τ
  refine mK_aload_n dL_law_304 rfl rfl (.tail _ (.tail _ (.head _))) ?_
  refine mK_invV (J := M_X9_tell) (k := 0) (as := []) (st := [.int v]) (c1 := 0) (s1 := 0) (b := 26) dL_law_305 rfl jw_X9_tell jn_X9_tell rfl (Nat.le_of_ble_eq_true rfl) (by omega) (by omega) rfl kw_1219 kw_1220 kw_1221 (Nat.le_of_ble_eq_true rfl) (Nat.le_of_ble_eq_true rfl) rfl ?_
  refine mCall_up (d := d + 36) (by omega) (m τ (e59_r τ) _ (fun ρ hρ => ?_))
  have hR : Rel ρ := hρ.1
  show mK Γ M_L_law (d + 38) Q n0 (bc - 0 - 0) (bs - 0 - 0) 308 [(0, .ref 1300), (1, .ref 0), (2, .ref 26), (3, .ref 59), (4, .int (nI i))] [.int v, .int v] 60 mSH ρ
  exact mK_icmp_eq (tgt := 1214) dL_law_308 rfl (by decide) (fun _ => ru_pick [0, 1, 2, 3, 4] rfl (mK_bud (by omega) (by omega) (K ρ hR))) (fun q => absurd rfl q)
set_option maxRecDepth 20000 in
theorem LC_errorAt {Γ : Nat × (Nat → Int32)} {d : Nat} {Q : mQ} {n0 bc bs i : Nat} {σ : mS} (h : Rel σ) (hL : Γ.1 ≤ 3072) (hi : i + 6 ≤ Γ.1) (hb : 130 ≤ bc) (hs : 700 ≤ bs) (K : ∀ ρ, Rel ρ → mK Γ M_L_law (d + 38) Q n0 (bc - 130) (bs - 700) 1214 (lLL i) [] 60 mSH ρ) : mK Γ M_L_law (d + 38) Q n0 bc bs 313 (lLL i) [] 60 mSH σ := by
  refine mK_aload_n dL_law_313 rfl rfl (.tail _ (.head _)) ?_
  refine mK_invV (J := M_X7_errorAt) (k := 0) (as := []) (st := []) (c1 := 0) (s1 := 0) (b := 0) dL_law_314 rfl jw_X7_errorAt jn_X7_errorAt rfl (Nat.le_of_ble_eq_true rfl) (by omega) (by omega) rfl kw_693 kw_694 kw_695 (Nat.le_of_ble_eq_true rfl) (Nat.le_of_ble_eq_true rfl) rfl ?_
  refine mCall_up (d := d + 36) (by omega) (mCall_mono (PN_errorAt (d := d + 24) h) (fun o M th τ hq => ?_))
  obtain ⟨rfl, rfl, v, rfl, m⟩ := PN_of hq
  show mK Γ M_L_law (d + 38) Q n0 (bc - 0) (bs - 0) 317 [(0, .ref 1300), (1, .ref 0), (2, .ref 26), (3, .ref 59), (4, .int (nI i))] [.int v] 60 mSH τ
  refine mK_aload_n dL_law_317 rfl rfl (.tail _ (.tail _ (.head _))) ?_
  refine mK_invV (J := M_X9_errorAt) (k := 0) (as := []) (st := [.int v]) (c1 := 0) (s1 := 0) (b := 26) dL_law_318 rfl jw_X9_errorAt jn_X9_errorAt rfl (Nat.le_of_ble_eq_true rfl) (by omega) (by omega) rfl kw_1457 kw_1458 kw_1459 (Nat.le_of_ble_eq_true rfl) (Nat.le_of_ble_eq_true rfl) rfl ?_
  refine mCall_up (d := d + 36) (by omega) (m τ (e59_r τ) _ (fun ρ hρ => ?_))
  have hR : Rel ρ := hρ.1
  show mK Γ M_L_law (d + 38) Q n0 (bc - 0 - 0) (bs - 0 - 0) 321 [(0, .ref 1300), (1, .ref 0), (2, .ref 26), (3, .ref 59), (4, .int (nI i))] [.int v, .int v] 60 mSH ρ
  exact mK_icmp_eq (tgt := 1214) dL_law_321 rfl (by decide) (fun _ => ru_pick [0, 1, 2, 3, 4] rfl (mK_bud (by omega) (by omega) (K ρ hR))) (fun q => absurd rfl q)
