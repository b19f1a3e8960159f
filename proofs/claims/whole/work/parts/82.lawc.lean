/-! LAW: its cases (rows laid by wip/whole/gen/con24.py) -/
set_option maxHeartbeats 4000000 in
set_option maxRecDepth 100000 in
theorem lawc_0 {p : Program} {l : Launch} {e : Env} {s : State} {m : MethodId} {b : Nat} {below : List Frame} {meth : Method} {c : Code} {Q : State → Prop} {A : Nat → Prop} {Γ : fG} {kc ks : Nat} {ret : Option FieldType} {L : Nat} {xs : Nat → Int32} (G : fC p s m #[Value.ref b] meth c cL_law RL wsL_law A Γ 220 4 ret) (hXS : va_X b L xs s s.heap) (hbl : b < s.heap.size) (hbA : ¬ A b) (hL : L ≤ 3072) (hkc : kc ≤ room_1.cells) (hks : ks ≤ room_1.slots) {I : fM} {P : fN} (S : Sim I P) {i : Int} (hi : 0 ≤ i ∧ i + 5 < (L : Int)) (next : ∀ (J : fM) (Q2 : fN), Sim J Q2 → fV p l e room_1 s m #[Value.ref b] below meth c Q A Γ 220 4 kc ks J Q2 826 [(0, .ref b), (1, .ref (Γ.1 0)), (2, .ref (Γ.1 214)), (3, .int (i32 i))] []) : fV p l e room_1 s m #[Value.ref b] below meth c Q A Γ 220 4 kc ks I P 144 [(0, .ref b), (1, .ref (Γ.1 0)), (2, .ref (Γ.1 214)), (3, .int (i32 i))] [] := by
  obtain ⟨y1, hy1⟩ : ∃ v : Int, v = (xs (i + 1).toNat).toInt := ⟨_, rfl⟩
  have by1 : -2147483648 ≤ y1 ∧ y1 ≤ 2147483647 := by rw [hy1]; exact i32_r _
  obtain ⟨y2, hy2⟩ : ∃ v : Int, v = (xs (i + 2).toNat).toInt := ⟨_, rfl⟩
  have by2 : -2147483648 ≤ y2 ∧ y2 ≤ 2147483647 := by rw [hy2]; exact i32_r _
  obtain ⟨y3, hy3⟩ : ∃ v : Int, v = (xs (i + 3).toNat).toInt := ⟨_, rfl⟩
  have by3 : -2147483648 ≤ y3 ∧ y3 ≤ 2147483647 := by rw [hy3]; exact i32_r _
  obtain ⟨y4, hy4⟩ : ∃ v : Int, v = (xs (i + 4).toNat).toInt := ⟨_, rfl⟩
  have by4 : -2147483648 ≤ y4 ∧ y4 ≤ 2147483647 := by rw [hy4]; exact i32_r _
  obtain ⟨y5, hy5⟩ : ∃ v : Int, v = (xs (i + 5).toNat).toInt := ⟨_, rfl⟩
  have by5 : -2147483648 ≤ y5 ∧ y5 ≤ 2147483647 := by rw [hy5]; exact i32_r _
  refine fV_aload_n (pc' := 145) G 1 dL_law_144 rfl rfl rfl ?_
  refine fV_aload_n (pc' := 146) G 0 dL_law_145 rfl rfl rfl ?_
  refine fV_iload_n (pc' := 147) G 3 dL_law_146 rfl rfl rfl ?_
  refine fV_iconst (pc' := 148) G dL_law_147 rfl ?_
  refine fV_iadd (pc' := 149) G dL_law_148 rfl ?_
  refine fV_sld (q := i + 1) (v := y1) (pc' := 150) G hXS hbl hbA (by omega) (by omega) hy1 dL_law_149 rfl ?_
  refine fV_aload_n (pc' := 151) G 0 dL_law_150 rfl rfl rfl ?_
  refine fV_iload_n (pc' := 152) G 3 dL_law_151 rfl rfl rfl ?_
  refine fV_iconst (pc' := 153) G dL_law_152 rfl ?_
  refine fV_iadd (pc' := 154) G dL_law_153 rfl ?_
  refine fV_sld (q := i + 2) (v := y2) (pc' := 155) G hXS hbl hbA (by omega) (by omega) hy2 dL_law_154 rfl ?_
  refine fV_aload_n (pc' := 156) G 0 dL_law_155 rfl rfl rfl ?_
  refine fV_iload_n (pc' := 157) G 3 dL_law_156 rfl rfl rfl ?_
  refine fV_iconst (pc' := 158) G dL_law_157 rfl ?_
  refine fV_iadd (pc' := 159) G dL_law_158 rfl ?_
  refine fV_sld (q := i + 3) (v := y3) (pc' := 160) G hXS hbl hbA (by omega) (by omega) hy3 dL_law_159 rfl ?_
  refine fV_aload_n (pc' := 161) G 0 dL_law_160 rfl rfl rfl ?_
  refine fV_iload_n (pc' := 162) G 3 dL_law_161 rfl rfl rfl ?_
  refine fV_iconst (pc' := 163) G dL_law_162 rfl ?_
  refine fV_iadd (pc' := 164) G dL_law_163 rfl ?_
  refine fV_sld (q := i + 4) (v := y4) (pc' := 165) G hXS hbl hbA (by omega) (by omega) hy4 dL_law_164 rfl ?_
  refine fV_aload_n (pc' := 166) G 0 dL_law_165 rfl rfl rfl ?_
  refine fV_iload_n (pc' := 167) G 3 dL_law_166 rfl rfl rfl ?_
  refine fV_iconst (pc' := 168) G dL_law_167 rfl ?_
  refine fV_iadd (pc' := 169) G dL_law_168 rfl ?_
  refine fV_sld (q := i + 5) (v := y5) (pc' := 170) G hXS hbl hbA (by omega) (by omega) hy5 dL_law_169 rfl ?_
  refine fV_callV (n := 5) (k := 0) (K := 3) (As := [.int (i32 y1), .int (i32 y2), .int (i32 y3), .int (i32 y4), .int (i32 y5)]) (rest := []) (pc' := 173) G (mX3_addWord l Γ (by decide) I P (Sim_all S) y1 y2 y3 y4 y5 by1 by2 by3 by4 by5) kcL_law_13 (by omega) rfl rfl rfl rfl (Nat.le_of_ble_eq_true rfl) hkc hks dL_law_170 rfl (fun v1 I2 P3 h4 => ?_)
  obtain ⟨hv, hA⟩ := h4
  obtain ⟨hm, hq, hs⟩ := st_add S hA
  rw [hq] at hv
  refine fV_st (st' := [.int (i32 (qMAdd I2 y1 y2 y3 y4 y5))]) (by rw [hv]; rfl) ?_
  refine fV_aload_n (pc' := 174) G 2 dL_law_173 rfl rfl rfl ?_
  refine fV_aload_n (pc' := 175) G 0 dL_law_174 rfl rfl rfl ?_
  refine fV_iload_n (pc' := 176) G 3 dL_law_175 rfl rfl rfl ?_
  refine fV_iconst (pc' := 177) G dL_law_176 rfl ?_
  refine fV_iadd (pc' := 178) G dL_law_177 rfl ?_
  refine fV_sld (q := i + 1) (v := y1) (pc' := 179) G hXS hbl hbA (by omega) (by omega) hy1 dL_law_178 rfl ?_
  refine fV_aload_n (pc' := 180) G 0 dL_law_179 rfl rfl rfl ?_
  refine fV_iload_n (pc' := 181) G 3 dL_law_180 rfl rfl rfl ?_
  refine fV_iconst (pc' := 182) G dL_law_181 rfl ?_
  refine fV_iadd (pc' := 183) G dL_law_182 rfl ?_
  refine fV_sld (q := i + 2) (v := y2) (pc' := 184) G hXS hbl hbA (by omega) (by omega) hy2 dL_law_183 rfl ?_
  refine fV_aload_n (pc' := 185) G 0 dL_law_184 rfl rfl rfl ?_
  refine fV_iload_n (pc' := 186) G 3 dL_law_185 rfl rfl rfl ?_
  refine fV_iconst (pc' := 187) G dL_law_186 rfl ?_
  refine fV_iadd (pc' := 188) G dL_law_187 rfl ?_
  refine fV_sld (q := i + 3) (v := y3) (pc' := 189) G hXS hbl hbA (by omega) (by omega) hy3 dL_law_188 rfl ?_
  refine fV_aload_n (pc' := 190) G 0 dL_law_189 rfl rfl rfl ?_
  refine fV_iload_n (pc' := 191) G 3 dL_law_190 rfl rfl rfl ?_
  refine fV_iconst (pc' := 192) G dL_law_191 rfl ?_
  refine fV_iadd (pc' := 193) G dL_law_192 rfl ?_
  refine fV_sld (q := i + 4) (v := y4) (pc' := 194) G hXS hbl hbA (by omega) (by omega) hy4 dL_law_193 rfl ?_
  refine fV_aload_n (pc' := 195) G 0 dL_law_194 rfl rfl rfl ?_
  refine fV_iload_n (pc' := 196) G 3 dL_law_195 rfl rfl rfl ?_
  refine fV_iconst (pc' := 197) G dL_law_196 rfl ?_
  refine fV_iadd (pc' := 198) G dL_law_197 rfl ?_
  refine fV_sld (q := i + 5) (v := y5) (pc' := 199) G hXS hbl hbA (by omega) (by omega) hy5 dL_law_198 rfl ?_
  refine fV_callV (n := 5) (k := 214) (K := 4) (As := [.int (i32 y1), .int (i32 y2), .int (i32 y3), .int (i32 y4), .int (i32 y5)]) (rest := [.int (i32 (qMAdd I2 y1 y2 y3 y4 y5))]) (pc' := 202) G (mX4_addWord l Γ (by decide) I2 P3 hm y1 y2 y3 y4 y5 by1 by2 by3 by4 by5) kcL_law_17 (by omega) rfl rfl rfl rfl (Nat.le_of_ble_eq_true rfl) hkc hks dL_law_199 rfl (fun v5 I6 P7 h8 => ?_)
  obtain ⟨hv2, rfl, rfl⟩ := h8
  refine fV_st (st' := [.int (i32 (qMAdd I2 y1 y2 y3 y4 y5)), .int (i32 (qMAdd I2 y1 y2 y3 y4 y5))]) (by rw [hv2]; rfl) ?_
  refine fV_icmp_same (tgt := 826) G dL_law_202 (by decide) ?_
  exact next _ _ hs
set_option maxHeartbeats 4000000 in
set_option maxRecDepth 100000 in
theorem lawc_1 {p : Program} {l : Launch} {e : Env} {s : State} {m : MethodId} {b : Nat} {below : List Frame} {meth : Method} {c : Code} {Q : State → Prop} {A : Nat → Prop} {Γ : fG} {kc ks : Nat} {ret : Option FieldType} {L : Nat} {xs : Nat → Int32} (G : fC p s m #[Value.ref b] meth c cL_law RL wsL_law A Γ 220 4 ret) (hXS : va_X b L xs s s.heap) (hbl : b < s.heap.size) (hbA : ¬ A b) (hL : L ≤ 3072) (hkc : kc ≤ room_1.cells) (hks : ks ≤ room_1.slots) {I : fM} {P : fN} (S : Sim I P) {i : Int} (hi : 0 ≤ i ∧ i + 5 < (L : Int)) (next : ∀ (J : fM) (Q2 : fN), Sim J Q2 → fV p l e room_1 s m #[Value.ref b] below meth c Q A Γ 220 4 kc ks J Q2 826 [(0, .ref b), (1, .ref (Γ.1 0)), (2, .ref (Γ.1 214)), (3, .int (i32 i))] []) : fV p l e room_1 s m #[Value.ref b] below meth c Q A Γ 220 4 kc ks I P 207 [(0, .ref b), (1, .ref (Γ.1 0)), (2, .ref (Γ.1 214)), (3, .int (i32 i))] [] := by
  obtain ⟨y1, hy1⟩ : ∃ v : Int, v = (xs (i + 1).toNat).toInt := ⟨_, rfl⟩
  have by1 : -2147483648 ≤ y1 ∧ y1 ≤ 2147483647 := by rw [hy1]; exact i32_r _
  refine fV_aload_n (pc' := 208) G 1 dL_law_207 rfl rfl rfl ?_
  refine fV_aload_n (pc' := 209) G 0 dL_law_208 rfl rfl rfl ?_
  refine fV_iload_n (pc' := 210) G 3 dL_law_209 rfl rfl rfl ?_
  refine fV_iconst (pc' := 211) G dL_law_210 rfl ?_
  refine fV_iadd (pc' := 212) G dL_law_211 rfl ?_
  refine fV_sld (q := i + 1) (v := y1) (pc' := 213) G hXS hbl hbA (by omega) (by omega) hy1 dL_law_212 rfl ?_
  refine fV_callV (n := 1) (k := 0) (K := 3) (As := [.int (i32 y1)]) (rest := []) (pc' := 216) G (mX3_removeWord l Γ (by decide) I P (Sim_all S) y1 by1) kcL_law_18 (by omega) rfl rfl rfl rfl (Nat.le_of_ble_eq_true rfl) hkc hks dL_law_213 rfl (fun v1 I2 P3 h4 => ?_)
  obtain ⟨hv, hA⟩ := h4
  obtain ⟨hm, hq, hs⟩ := st_rem S hA
  rw [hq] at hv
  refine fV_st (st' := [.int (i32 (qMRem I2 y1))]) (by rw [hv]; rfl) ?_
  refine fV_aload_n (pc' := 217) G 2 dL_law_216 rfl rfl rfl ?_
  refine fV_aload_n (pc' := 218) G 0 dL_law_217 rfl rfl rfl ?_
  refine fV_iload_n (pc' := 219) G 3 dL_law_218 rfl rfl rfl ?_
  refine fV_iconst (pc' := 220) G dL_law_219 rfl ?_
  refine fV_iadd (pc' := 221) G dL_law_220 rfl ?_
  refine fV_sld (q := i + 1) (v := y1) (pc' := 222) G hXS hbl hbA (by omega) (by omega) hy1 dL_law_221 rfl ?_
  refine fV_callV (n := 1) (k := 214) (K := 4) (As := [.int (i32 y1)]) (rest := [.int (i32 (qMRem I2 y1))]) (pc' := 225) G (mX4_removeWord l Γ (by decide) I2 P3 hm y1 by1) kcL_law_22 (by omega) rfl rfl rfl rfl (Nat.le_of_ble_eq_true rfl) hkc hks dL_law_222 rfl (fun v5 I6 P7 h8 => ?_)
  obtain ⟨hv2, rfl, rfl⟩ := h8
  refine fV_st (st' := [.int (i32 (qMRem I2 y1)), .int (i32 (qMRem I2 y1))]) (by rw [hv2]; rfl) ?_
  refine fV_icmp_same (tgt := 826) G dL_law_225 (by decide) ?_
  exact next _ _ hs
set_option maxHeartbeats 4000000 in
set_option maxRecDepth 100000 in
theorem lawc_2 {p : Program} {l : Launch} {e : Env} {s : State} {m : MethodId} {b : Nat} {below : List Frame} {meth : Method} {c : Code} {Q : State → Prop} {A : Nat → Prop} {Γ : fG} {kc ks : Nat} {ret : Option FieldType} {L : Nat} {xs : Nat → Int32} (G : fC p s m #[Value.ref b] meth c cL_law RL wsL_law A Γ 220 4 ret) (hXS : va_X b L xs s s.heap) (hbl : b < s.heap.size) (hbA : ¬ A b) (hL : L ≤ 3072) (hkc : kc ≤ room_1.cells) (hks : ks ≤ room_1.slots) {I : fM} {P : fN} (S : Sim I P) {i : Int} (hi : 0 ≤ i ∧ i + 5 < (L : Int)) (next : ∀ (J : fM) (Q2 : fN), Sim J Q2 → fV p l e room_1 s m #[Value.ref b] below meth c Q A Γ 220 4 kc ks J Q2 826 [(0, .ref b), (1, .ref (Γ.1 0)), (2, .ref (Γ.1 214)), (3, .int (i32 i))] []) : fV p l e room_1 s m #[Value.ref b] below meth c Q A Γ 220 4 kc ks I P 230 [(0, .ref b), (1, .ref (Γ.1 0)), (2, .ref (Γ.1 214)), (3, .int (i32 i))] [] := by
  obtain ⟨y1, hy1⟩ : ∃ v : Int, v = (xs (i + 1).toNat).toInt := ⟨_, rfl⟩
  have by1 : -2147483648 ≤ y1 ∧ y1 ≤ 2147483647 := by rw [hy1]; exact i32_r _
  obtain ⟨y2, hy2⟩ : ∃ v : Int, v = (xs (i + 2).toNat).toInt := ⟨_, rfl⟩
  have by2 : -2147483648 ≤ y2 ∧ y2 ≤ 2147483647 := by rw [hy2]; exact i32_r _
  obtain ⟨y3, hy3⟩ : ∃ v : Int, v = (xs (i + 3).toNat).toInt := ⟨_, rfl⟩
  have by3 : -2147483648 ≤ y3 ∧ y3 ≤ 2147483647 := by rw [hy3]; exact i32_r _
  refine fV_aload_n (pc' := 231) G 1 dL_law_230 rfl rfl rfl ?_
  refine fV_aload_n (pc' := 232) G 0 dL_law_231 rfl rfl rfl ?_
  refine fV_iload_n (pc' := 233) G 3 dL_law_232 rfl rfl rfl ?_
  refine fV_iconst (pc' := 234) G dL_law_233 rfl ?_
  refine fV_iadd (pc' := 235) G dL_law_234 rfl ?_
  refine fV_sld (q := i + 1) (v := y1) (pc' := 236) G hXS hbl hbA (by omega) (by omega) hy1 dL_law_235 rfl ?_
  refine fV_aload_n (pc' := 237) G 0 dL_law_236 rfl rfl rfl ?_
  refine fV_iload_n (pc' := 238) G 3 dL_law_237 rfl rfl rfl ?_
  refine fV_iconst (pc' := 239) G dL_law_238 rfl ?_
  refine fV_iadd (pc' := 240) G dL_law_239 rfl ?_
  refine fV_sld (q := i + 2) (v := y2) (pc' := 241) G hXS hbl hbA (by omega) (by omega) hy2 dL_law_240 rfl ?_
  refine fV_aload_n (pc' := 242) G 0 dL_law_241 rfl rfl rfl ?_
  refine fV_iload_n (pc' := 243) G 3 dL_law_242 rfl rfl rfl ?_
  refine fV_iconst (pc' := 244) G dL_law_243 rfl ?_
  refine fV_iadd (pc' := 245) G dL_law_244 rfl ?_
  refine fV_sld (q := i + 3) (v := y3) (pc' := 246) G hXS hbl hbA (by omega) (by omega) hy3 dL_law_245 rfl ?_
  refine fV_callV (n := 3) (k := 0) (K := 3) (As := [.int (i32 y1), .int (i32 y2), .int (i32 y3)]) (rest := []) (pc' := 249) G (mX3_setWord l Γ (by decide) I P (Sim_all S) y1 y2 y3 by1 by2 by3) kcL_law_23 (by omega) rfl rfl rfl rfl (Nat.le_of_ble_eq_true rfl) hkc hks dL_law_246 rfl (fun v1 I2 P3 h4 => ?_)
  obtain ⟨hv, hA⟩ := h4
  obtain ⟨hm, hq, hs⟩ := st_set S hA
  rw [hq] at hv
  refine fV_st (st' := [.int (i32 (qMSet I2 y1 y2 y3))]) (by rw [hv]; rfl) ?_
  refine fV_aload_n (pc' := 250) G 2 dL_law_249 rfl rfl rfl ?_
  refine fV_aload_n (pc' := 251) G 0 dL_law_250 rfl rfl rfl ?_
  refine fV_iload_n (pc' := 252) G 3 dL_law_251 rfl rfl rfl ?_
  refine fV_iconst (pc' := 253) G dL_law_252 rfl ?_
  refine fV_iadd (pc' := 254) G dL_law_253 rfl ?_
  refine fV_sld (q := i + 1) (v := y1) (pc' := 255) G hXS hbl hbA (by omega) (by omega) hy1 dL_law_254 rfl ?_
  refine fV_aload_n (pc' := 256) G 0 dL_law_255 rfl rfl rfl ?_
  refine fV_iload_n (pc' := 257) G 3 dL_law_256 rfl rfl rfl ?_
  refine fV_iconst (pc' := 258) G dL_law_257 rfl ?_
  refine fV_iadd (pc' := 259) G dL_law_258 rfl ?_
  refine fV_sld (q := i + 2) (v := y2) (pc' := 260) G hXS hbl hbA (by omega) (by omega) hy2 dL_law_259 rfl ?_
  refine fV_aload_n (pc' := 261) G 0 dL_law_260 rfl rfl rfl ?_
  refine fV_iload_n (pc' := 262) G 3 dL_law_261 rfl rfl rfl ?_
  refine fV_iconst (pc' := 263) G dL_law_262 rfl ?_
  refine fV_iadd (pc' := 264) G dL_law_263 rfl ?_
  refine fV_sld (q := i + 3) (v := y3) (pc' := 265) G hXS hbl hbA (by omega) (by omega) hy3 dL_law_264 rfl ?_
  refine fV_callV (n := 3) (k := 214) (K := 4) (As := [.int (i32 y1), .int (i32 y2), .int (i32 y3)]) (rest := [.int (i32 (qMSet I2 y1 y2 y3))]) (pc' := 268) G (mX4_setWord l Γ (by decide) I2 P3 hm y1 y2 y3 by1 by2 by3) kcL_law_27 (by omega) rfl rfl rfl rfl (Nat.le_of_ble_eq_true rfl) hkc hks dL_law_265 rfl (fun v5 I6 P7 h8 => ?_)
  obtain ⟨hv2, rfl, rfl⟩ := h8
  refine fV_st (st' := [.int (i32 (qMSet I2 y1 y2 y3)), .int (i32 (qMSet I2 y1 y2 y3))]) (by rw [hv2]; rfl) ?_
  refine fV_icmp_same (tgt := 826) G dL_law_268 (by decide) ?_
  exact next _ _ hs
set_option maxHeartbeats 4000000 in
set_option maxRecDepth 100000 in
theorem lawc_3 {p : Program} {l : Launch} {e : Env} {s : State} {m : MethodId} {b : Nat} {below : List Frame} {meth : Method} {c : Code} {Q : State → Prop} {A : Nat → Prop} {Γ : fG} {kc ks : Nat} {ret : Option FieldType} {L : Nat} {xs : Nat → Int32} (G : fC p s m #[Value.ref b] meth c cL_law RL wsL_law A Γ 220 4 ret) (hXS : va_X b L xs s s.heap) (hbl : b < s.heap.size) (hbA : ¬ A b) (hL : L ≤ 3072) (hkc : kc ≤ room_1.cells) (hks : ks ≤ room_1.slots) {I : fM} {P : fN} (S : Sim I P) {i : Int} (hi : 0 ≤ i ∧ i + 5 < (L : Int)) (next : ∀ (J : fM) (Q2 : fN), Sim J Q2 → fV p l e room_1 s m #[Value.ref b] below meth c Q A Γ 220 4 kc ks J Q2 826 [(0, .ref b), (1, .ref (Γ.1 0)), (2, .ref (Γ.1 214)), (3, .int (i32 i))] []) : fV p l e room_1 s m #[Value.ref b] below meth c Q A Γ 220 4 kc ks I P 273 [(0, .ref b), (1, .ref (Γ.1 0)), (2, .ref (Γ.1 214)), (3, .int (i32 i))] [] := by
  obtain ⟨y1, hy1⟩ : ∃ v : Int, v = (xs (i + 1).toNat).toInt := ⟨_, rfl⟩
  have by1 : -2147483648 ≤ y1 ∧ y1 ≤ 2147483647 := by rw [hy1]; exact i32_r _
  refine fV_aload_n (pc' := 274) G 1 dL_law_273 rfl rfl rfl ?_
  refine fV_aload_n (pc' := 275) G 0 dL_law_274 rfl rfl rfl ?_
  refine fV_iload_n (pc' := 276) G 3 dL_law_275 rfl rfl rfl ?_
  refine fV_iconst (pc' := 277) G dL_law_276 rfl ?_
  refine fV_iadd (pc' := 278) G dL_law_277 rfl ?_
  refine fV_sld (q := i + 1) (v := y1) (pc' := 279) G hXS hbl hbA (by omega) (by omega) hy1 dL_law_278 rfl ?_
  refine fV_callV (n := 1) (k := 0) (K := 3) (As := [.int (i32 y1)]) (rest := []) (pc' := 282) G (mX3_addShot l Γ (by decide) I P (Sim_all S) y1 by1) kcL_law_28 (by omega) rfl rfl rfl rfl (Nat.le_of_ble_eq_true rfl) hkc hks dL_law_279 rfl (fun v1 I2 P3 h4 => ?_)
  obtain ⟨hv, hA⟩ := h4
  obtain ⟨hm, hq, hs⟩ := st_ash S hA
  rw [hq] at hv
  refine fV_st (st' := [.int (i32 (qMAddShot I2 y1))]) (by rw [hv]; rfl) ?_
  refine fV_aload_n (pc' := 283) G 2 dL_law_282 rfl rfl rfl ?_
  refine fV_aload_n (pc' := 284) G 0 dL_law_283 rfl rfl rfl ?_
  refine fV_iload_n (pc' := 285) G 3 dL_law_284 rfl rfl rfl ?_
  refine fV_iconst (pc' := 286) G dL_law_285 rfl ?_
  refine fV_iadd (pc' := 287) G dL_law_286 rfl ?_
  refine fV_sld (q := i + 1) (v := y1) (pc' := 288) G hXS hbl hbA (by omega) (by omega) hy1 dL_law_287 rfl ?_
  refine fV_callV (n := 1) (k := 214) (K := 4) (As := [.int (i32 y1)]) (rest := [.int (i32 (qMAddShot I2 y1))]) (pc' := 291) G (mX4_addShot l Γ (by decide) I2 P3 hm y1 by1) kcL_law_31 (by omega) rfl rfl rfl rfl (Nat.le_of_ble_eq_true rfl) hkc hks dL_law_288 rfl (fun v5 I6 P7 h8 => ?_)
  obtain ⟨hv2, rfl, rfl⟩ := h8
  refine fV_st (st' := [.int (i32 (qMAddShot I2 y1)), .int (i32 (qMAddShot I2 y1))]) (by rw [hv2]; rfl) ?_
  refine fV_icmp_same (tgt := 826) G dL_law_291 (by decide) ?_
  exact next _ _ hs
set_option maxHeartbeats 4000000 in
set_option maxRecDepth 100000 in
theorem lawc_4 {p : Program} {l : Launch} {e : Env} {s : State} {m : MethodId} {b : Nat} {below : List Frame} {meth : Method} {c : Code} {Q : State → Prop} {A : Nat → Prop} {Γ : fG} {kc ks : Nat} {ret : Option FieldType} {L : Nat} {xs : Nat → Int32} (G : fC p s m #[Value.ref b] meth c cL_law RL wsL_law A Γ 220 4 ret) (hXS : va_X b L xs s s.heap) (hbl : b < s.heap.size) (hbA : ¬ A b) (hL : L ≤ 3072) (hkc : kc ≤ room_1.cells) (hks : ks ≤ room_1.slots) {I : fM} {P : fN} (S : Sim I P) {i : Int} (hi : 0 ≤ i ∧ i + 5 < (L : Int)) (next : ∀ (J : fM) (Q2 : fN), Sim J Q2 → fV p l e room_1 s m #[Value.ref b] below meth c Q A Γ 220 4 kc ks J Q2 826 [(0, .ref b), (1, .ref (Γ.1 0)), (2, .ref (Γ.1 214)), (3, .int (i32 i))] []) : fV p l e room_1 s m #[Value.ref b] below meth c Q A Γ 220 4 kc ks I P 296 [(0, .ref b), (1, .ref (Γ.1 0)), (2, .ref (Γ.1 214)), (3, .int (i32 i))] [] := by
  obtain ⟨y1, hy1⟩ : ∃ v : Int, v = (xs (i + 1).toNat).toInt := ⟨_, rfl⟩
  have by1 : -2147483648 ≤ y1 ∧ y1 ≤ 2147483647 := by rw [hy1]; exact i32_r _
  refine fV_aload_n (pc' := 297) G 1 dL_law_296 rfl rfl rfl ?_
  refine fV_aload_n (pc' := 298) G 0 dL_law_297 rfl rfl rfl ?_
  refine fV_iload_n (pc' := 299) G 3 dL_law_298 rfl rfl rfl ?_
  refine fV_iconst (pc' := 300) G dL_law_299 rfl ?_
  refine fV_iadd (pc' := 301) G dL_law_300 rfl ?_
  refine fV_sld (q := i + 1) (v := y1) (pc' := 302) G hXS hbl hbA (by omega) (by omega) hy1 dL_law_301 rfl ?_
  refine fV_callV (n := 1) (k := 0) (K := 3) (As := [.int (i32 y1)]) (rest := []) (pc' := 305) G (mX3_removeShot l Γ (by decide) I P (Sim_all S) y1 by1) kcL_law_32 (by omega) rfl rfl rfl rfl (Nat.le_of_ble_eq_true rfl) hkc hks dL_law_302 rfl (fun v1 I2 P3 h4 => ?_)
  obtain ⟨hv, hA⟩ := h4
  obtain ⟨hm, hq, hs⟩ := st_rsh S hA
  rw [hq] at hv
  refine fV_st (st' := [.int (i32 (qMRemShot I2 y1))]) (by rw [hv]; rfl) ?_
  refine fV_aload_n (pc' := 306) G 2 dL_law_305 rfl rfl rfl ?_
  refine fV_aload_n (pc' := 307) G 0 dL_law_306 rfl rfl rfl ?_
  refine fV_iload_n (pc' := 308) G 3 dL_law_307 rfl rfl rfl ?_
  refine fV_iconst (pc' := 309) G dL_law_308 rfl ?_
  refine fV_iadd (pc' := 310) G dL_law_309 rfl ?_
  refine fV_sld (q := i + 1) (v := y1) (pc' := 311) G hXS hbl hbA (by omega) (by omega) hy1 dL_law_310 rfl ?_
  refine fV_callV (n := 1) (k := 214) (K := 4) (As := [.int (i32 y1)]) (rest := [.int (i32 (qMRemShot I2 y1))]) (pc' := 314) G (mX4_removeShot l Γ (by decide) I2 P3 hm y1 by1) kcL_law_35 (by omega) rfl rfl rfl rfl (Nat.le_of_ble_eq_true rfl) hkc hks dL_law_311 rfl (fun v5 I6 P7 h8 => ?_)
  obtain ⟨hv2, rfl, rfl⟩ := h8
  refine fV_st (st' := [.int (i32 (qMRemShot I2 y1)), .int (i32 (qMRemShot I2 y1))]) (by rw [hv2]; rfl) ?_
  refine fV_icmp_same (tgt := 826) G dL_law_314 (by decide) ?_
  exact next _ _ hs
set_option maxHeartbeats 4000000 in
set_option maxRecDepth 100000 in
theorem lawc_5 {p : Program} {l : Launch} {e : Env} {s : State} {m : MethodId} {b : Nat} {below : List Frame} {meth : Method} {c : Code} {Q : State → Prop} {A : Nat → Prop} {Γ : fG} {kc ks : Nat} {ret : Option FieldType} {L : Nat} {xs : Nat → Int32} (G : fC p s m #[Value.ref b] meth c cL_law RL wsL_law A Γ 220 4 ret) (hXS : va_X b L xs s s.heap) (hbl : b < s.heap.size) (hbA : ¬ A b) (hL : L ≤ 3072) (hkc : kc ≤ room_1.cells) (hks : ks ≤ room_1.slots) {I : fM} {P : fN} (S : Sim I P) {i : Int} (hi : 0 ≤ i ∧ i + 5 < (L : Int)) (next : ∀ (J : fM) (Q2 : fN), Sim J Q2 → fV p l e room_1 s m #[Value.ref b] below meth c Q A Γ 220 4 kc ks J Q2 826 [(0, .ref b), (1, .ref (Γ.1 0)), (2, .ref (Γ.1 214)), (3, .int (i32 i))] []) : fV p l e room_1 s m #[Value.ref b] below meth c Q A Γ 220 4 kc ks I P 319 [(0, .ref b), (1, .ref (Γ.1 0)), (2, .ref (Γ.1 214)), (3, .int (i32 i))] [] := by
  obtain ⟨y1, hy1⟩ : ∃ v : Int, v = (xs (i + 1).toNat).toInt := ⟨_, rfl⟩
  have by1 : -2147483648 ≤ y1 ∧ y1 ≤ 2147483647 := by rw [hy1]; exact i32_r _
  refine fV_aload_n (pc' := 320) G 1 dL_law_319 rfl rfl rfl ?_
  refine fV_aload_n (pc' := 321) G 0 dL_law_320 rfl rfl rfl ?_
  refine fV_iload_n (pc' := 322) G 3 dL_law_321 rfl rfl rfl ?_
  refine fV_iconst (pc' := 323) G dL_law_322 rfl ?_
  refine fV_iadd (pc' := 324) G dL_law_323 rfl ?_
  refine fV_sld (q := i + 1) (v := y1) (pc' := 325) G hXS hbl hbA (by omega) (by omega) hy1 dL_law_324 rfl ?_
  refine fV_callV (n := 1) (k := 0) (K := 3) (As := [.int (i32 y1)]) (rest := []) (pc' := 328) G (mX3_setSpeed l Γ (by decide) I P (Sim_all S) y1 by1) kcL_law_36 (by omega) rfl rfl rfl rfl (Nat.le_of_ble_eq_true rfl) hkc hks dL_law_325 rfl (fun v1 I2 P3 h4 => ?_)
  obtain ⟨hv, hA⟩ := h4
  obtain ⟨hm, hq, hs⟩ := st_spd S hA
  rw [hq] at hv
  refine fV_st (st' := [.int (i32 (qMSpeed I2 y1))]) (by rw [hv]; rfl) ?_
  refine fV_aload_n (pc' := 329) G 2 dL_law_328 rfl rfl rfl ?_
  refine fV_aload_n (pc' := 330) G 0 dL_law_329 rfl rfl rfl ?_
  refine fV_iload_n (pc' := 331) G 3 dL_law_330 rfl rfl rfl ?_
  refine fV_iconst (pc' := 332) G dL_law_331 rfl ?_
  refine fV_iadd (pc' := 333) G dL_law_332 rfl ?_
  refine fV_sld (q := i + 1) (v := y1) (pc' := 334) G hXS hbl hbA (by omega) (by omega) hy1 dL_law_333 rfl ?_
  refine fV_callV (n := 1) (k := 214) (K := 4) (As := [.int (i32 y1)]) (rest := [.int (i32 (qMSpeed I2 y1))]) (pc' := 337) G (mX4_setSpeed l Γ (by decide) I2 P3 hm y1 by1) kcL_law_39 (by omega) rfl rfl rfl rfl (Nat.le_of_ble_eq_true rfl) hkc hks dL_law_334 rfl (fun v5 I6 P7 h8 => ?_)
  obtain ⟨hv2, rfl, rfl⟩ := h8
  refine fV_st (st' := [.int (i32 (qMSpeed I2 y1)), .int (i32 (qMSpeed I2 y1))]) (by rw [hv2]; rfl) ?_
  refine fV_icmp_same (tgt := 826) G dL_law_337 (by decide) ?_
  exact next _ _ hs
set_option maxHeartbeats 4000000 in
set_option maxRecDepth 100000 in
theorem lawc_6 {p : Program} {l : Launch} {e : Env} {s : State} {m : MethodId} {b : Nat} {below : List Frame} {meth : Method} {c : Code} {Q : State → Prop} {A : Nat → Prop} {Γ : fG} {kc ks : Nat} {ret : Option FieldType} {L : Nat} {xs : Nat → Int32} (G : fC p s m #[Value.ref b] meth c cL_law RL wsL_law A Γ 220 4 ret) (hXS : va_X b L xs s s.heap) (hbl : b < s.heap.size) (hbA : ¬ A b) (hL : L ≤ 3072) (hkc : kc ≤ room_1.cells) (hks : ks ≤ room_1.slots) {I : fM} {P : fN} (S : Sim I P) {i : Int} (hi : 0 ≤ i ∧ i + 5 < (L : Int)) (next : ∀ (J : fM) (Q2 : fN), Sim J Q2 → fV p l e room_1 s m #[Value.ref b] below meth c Q A Γ 220 4 kc ks J Q2 826 [(0, .ref b), (1, .ref (Γ.1 0)), (2, .ref (Γ.1 214)), (3, .int (i32 i))] []) : fV p l e room_1 s m #[Value.ref b] below meth c Q A Γ 220 4 kc ks I P 342 [(0, .ref b), (1, .ref (Γ.1 0)), (2, .ref (Γ.1 214)), (3, .int (i32 i))] [] := by
  obtain ⟨y1, hy1⟩ : ∃ v : Int, v = (xs (i + 1).toNat).toInt := ⟨_, rfl⟩
  have by1 : -2147483648 ≤ y1 ∧ y1 ≤ 2147483647 := by rw [hy1]; exact i32_r _
  refine fV_aload_n (pc' := 343) G 1 dL_law_342 rfl rfl rfl ?_
  refine fV_aload_n (pc' := 344) G 0 dL_law_343 rfl rfl rfl ?_
  refine fV_iload_n (pc' := 345) G 3 dL_law_344 rfl rfl rfl ?_
  refine fV_iconst (pc' := 346) G dL_law_345 rfl ?_
  refine fV_iadd (pc' := 347) G dL_law_346 rfl ?_
  refine fV_sld (q := i + 1) (v := y1) (pc' := 348) G hXS hbl hbA (by omega) (by omega) hy1 dL_law_347 rfl ?_
  refine fV_callV (n := 1) (k := 0) (K := 3) (As := [.int (i32 y1)]) (rest := []) (pc' := 351) G (mX3_append l Γ (by decide) I P (Sim_all S) y1 by1) kcL_law_40 (by omega) rfl rfl rfl rfl (Nat.le_of_ble_eq_true rfl) hkc hks dL_law_348 rfl (fun v1 I2 P3 h4 => ?_)
  obtain ⟨hv, eJ, eQ⟩ := h4
  obtain ⟨hm, hq, hs⟩ := st_app (x := y1) S
  rw [← eJ] at hm hq hs
  rw [hq] at hv
  rw [← eQ] at hs
  refine fV_st (st' := [.int (i32 (qMApp I2 y1))]) (by rw [hv]; rfl) ?_
  refine fV_aload_n (pc' := 352) G 2 dL_law_351 rfl rfl rfl ?_
  refine fV_aload_n (pc' := 353) G 0 dL_law_352 rfl rfl rfl ?_
  refine fV_iload_n (pc' := 354) G 3 dL_law_353 rfl rfl rfl ?_
  refine fV_iconst (pc' := 355) G dL_law_354 rfl ?_
  refine fV_iadd (pc' := 356) G dL_law_355 rfl ?_
  refine fV_sld (q := i + 1) (v := y1) (pc' := 357) G hXS hbl hbA (by omega) (by omega) hy1 dL_law_356 rfl ?_
  refine fV_callV (n := 1) (k := 214) (K := 4) (As := [.int (i32 y1)]) (rest := [.int (i32 (qMApp I2 y1))]) (pc' := 360) G (mX4_append l Γ (by decide) I2 P3 hm y1 by1) kcL_law_43 (by omega) rfl rfl rfl rfl (Nat.le_of_ble_eq_true rfl) hkc hks dL_law_357 rfl (fun v5 I6 P7 h8 => ?_)
  obtain ⟨hv2, rfl, rfl⟩ := h8
  refine fV_st (st' := [.int (i32 (qMApp I2 y1)), .int (i32 (qMApp I2 y1))]) (by rw [hv2]; rfl) ?_
  refine fV_icmp_same (tgt := 826) G dL_law_360 (by decide) ?_
  exact next _ _ hs
set_option maxHeartbeats 4000000 in
set_option maxRecDepth 100000 in
theorem lawc_7 {p : Program} {l : Launch} {e : Env} {s : State} {m : MethodId} {b : Nat} {below : List Frame} {meth : Method} {c : Code} {Q : State → Prop} {A : Nat → Prop} {Γ : fG} {kc ks : Nat} {ret : Option FieldType} {L : Nat} {xs : Nat → Int32} (G : fC p s m #[Value.ref b] meth c cL_law RL wsL_law A Γ 220 4 ret) (hXS : va_X b L xs s s.heap) (hbl : b < s.heap.size) (hbA : ¬ A b) (hL : L ≤ 3072) (hkc : kc ≤ room_1.cells) (hks : ks ≤ room_1.slots) {I : fM} {P : fN} (S : Sim I P) {i : Int} (hi : 0 ≤ i ∧ i + 5 < (L : Int)) (next : ∀ (J : fM) (Q2 : fN), Sim J Q2 → fV p l e room_1 s m #[Value.ref b] below meth c Q A Γ 220 4 kc ks J Q2 826 [(0, .ref b), (1, .ref (Γ.1 0)), (2, .ref (Γ.1 214)), (3, .int (i32 i))] []) : fV p l e room_1 s m #[Value.ref b] below meth c Q A Γ 220 4 kc ks I P 365 [(0, .ref b), (1, .ref (Γ.1 0)), (2, .ref (Γ.1 214)), (3, .int (i32 i))] [] := by
  refine fV_aload_n (pc' := 366) G 1 dL_law_365 rfl rfl rfl ?_
  refine fV_callV (n := 0) (k := 0) (K := 3) (As := []) (rest := []) (pc' := 369) G (mX3_clearText l Γ (by decide) I P (Sim_all S)  ) kcL_law_44 (by omega) rfl rfl rfl rfl (Nat.le_of_ble_eq_true rfl) hkc hks dL_law_366 rfl (fun v1 I2 P3 h4 => ?_)
  obtain ⟨hv, eJ, eQ⟩ := h4
  obtain ⟨hm, hq, hs⟩ := st_clr S
  rw [← eJ] at hm hq hs
  rw [hq] at hv
  rw [← eQ] at hs
  refine fV_st (st' := [.int (i32 (I2 214 6))]) (by rw [hv]; rfl) ?_
  refine fV_aload_n (pc' := 370) G 2 dL_law_369 rfl rfl rfl ?_
  refine fV_callV (n := 0) (k := 214) (K := 4) (As := []) (rest := [.int (i32 (I2 214 6))]) (pc' := 373) G (mX4_clearText l Γ (by decide) I2 P3 hm  ) kcL_law_48 (by omega) rfl rfl rfl rfl (Nat.le_of_ble_eq_true rfl) hkc hks dL_law_370 rfl (fun v5 I6 P7 h8 => ?_)
  obtain ⟨hv2, rfl, rfl⟩ := h8
  refine fV_st (st' := [.int (i32 (I2 214 6)), .int (i32 (I2 214 6))]) (by rw [hv2]; rfl) ?_
  refine fV_icmp_same (tgt := 826) G dL_law_373 (by decide) ?_
  exact next _ _ hs
set_option maxHeartbeats 4000000 in
set_option maxRecDepth 100000 in
theorem lawc_8 {p : Program} {l : Launch} {e : Env} {s : State} {m : MethodId} {b : Nat} {below : List Frame} {meth : Method} {c : Code} {Q : State → Prop} {A : Nat → Prop} {Γ : fG} {kc ks : Nat} {ret : Option FieldType} {L : Nat} {xs : Nat → Int32} (G : fC p s m #[Value.ref b] meth c cL_law RL wsL_law A Γ 220 4 ret) (hXS : va_X b L xs s s.heap) (hbl : b < s.heap.size) (hbA : ¬ A b) (hL : L ≤ 3072) (hkc : kc ≤ room_1.cells) (hks : ks ≤ room_1.slots) {I : fM} {P : fN} (S : Sim I P) {i : Int} (hi : 0 ≤ i ∧ i + 5 < (L : Int)) (next : ∀ (J : fM) (Q2 : fN), Sim J Q2 → fV p l e room_1 s m #[Value.ref b] below meth c Q A Γ 220 4 kc ks J Q2 826 [(0, .ref b), (1, .ref (Γ.1 0)), (2, .ref (Γ.1 214)), (3, .int (i32 i))] []) : fV p l e room_1 s m #[Value.ref b] below meth c Q A Γ 220 4 kc ks I P 378 [(0, .ref b), (1, .ref (Γ.1 0)), (2, .ref (Γ.1 214)), (3, .int (i32 i))] [] := by
  refine fV_aload_n (pc' := 379) G 1 dL_law_378 rfl rfl rfl ?_
  refine fV_callV (n := 0) (k := 0) (K := 3) (As := []) (rest := []) (pc' := 382) G (mX3_load l Γ (by decide) I P (Sim_all S) S.1.1 S.1.2.1 S.1.2.2 S.2.2.2.1.2.2.2  ) kcL_law_49 (by omega) rfl rfl rfl rfl (Nat.le_of_ble_eq_true rfl) hkc hks dL_law_379 rfl (fun v1 I2 P3 h4 => ?_)
  have hv := h4.1
  obtain ⟨hm, hT, hk⟩ := st_load S h4
  refine fV_st (st' := [.int (i32 (pLoad (I 213) (I 212 1) 23 (I 215) 0 0).1)]) (by rw [hv]; rfl) ?_
  refine fV_aload_n (pc' := 383) G 2 dL_law_382 rfl rfl rfl ?_
  refine fV_callV (n := 0) (k := 214) (K := 4) (As := []) (rest := [.int (i32 (pLoad (I 213) (I 212 1) 23 (I 215) 0 0).1)]) (pc' := 386) G (mX4_load l Γ (by decide) I2 P3 hm hT  ) kcL_law_52 (by omega) rfl rfl rfl rfl (Nat.le_of_ble_eq_true rfl) hkc hks dL_law_383 rfl (fun v5 I6 P7 h8 => ?_)
  obtain ⟨hvv, hs⟩ := hk _ _ _ h8
  rw [hv] at hvv
  refine fV_st (st' := [.int (i32 (pLoad (I 213) (I 212 1) 23 (I 215) 0 0).1), .int (i32 (pLoad (I 213) (I 212 1) 23 (I 215) 0 0).1)]) (by rw [← hvv]; rfl) ?_
  refine fV_icmp_same (tgt := 826) G dL_law_386 (by decide) ?_
  exact next _ _ hs
set_option maxHeartbeats 4000000 in
set_option maxRecDepth 100000 in
theorem lawc_9 {p : Program} {l : Launch} {e : Env} {s : State} {m : MethodId} {b : Nat} {below : List Frame} {meth : Method} {c : Code} {Q : State → Prop} {A : Nat → Prop} {Γ : fG} {kc ks : Nat} {ret : Option FieldType} {L : Nat} {xs : Nat → Int32} (G : fC p s m #[Value.ref b] meth c cL_law RL wsL_law A Γ 220 4 ret) (hXS : va_X b L xs s s.heap) (hbl : b < s.heap.size) (hbA : ¬ A b) (hL : L ≤ 3072) (hkc : kc ≤ room_1.cells) (hks : ks ≤ room_1.slots) {I : fM} {P : fN} (S : Sim I P) {i : Int} (hi : 0 ≤ i ∧ i + 5 < (L : Int)) (next : ∀ (J : fM) (Q2 : fN), Sim J Q2 → fV p l e room_1 s m #[Value.ref b] below meth c Q A Γ 220 4 kc ks J Q2 826 [(0, .ref b), (1, .ref (Γ.1 0)), (2, .ref (Γ.1 214)), (3, .int (i32 i))] []) : fV p l e room_1 s m #[Value.ref b] below meth c Q A Γ 220 4 kc ks I P 391 [(0, .ref b), (1, .ref (Γ.1 0)), (2, .ref (Γ.1 214)), (3, .int (i32 i))] [] := by
  obtain ⟨y1, hy1⟩ : ∃ v : Int, v = (xs (i + 1).toNat).toInt := ⟨_, rfl⟩
  have by1 : -2147483648 ≤ y1 ∧ y1 ≤ 2147483647 := by rw [hy1]; exact i32_r _
  obtain ⟨y2, hy2⟩ : ∃ v : Int, v = (xs (i + 2).toNat).toInt := ⟨_, rfl⟩
  have by2 : -2147483648 ≤ y2 ∧ y2 ≤ 2147483647 := by rw [hy2]; exact i32_r _
  obtain ⟨y3, hy3⟩ : ∃ v : Int, v = (xs (i + 3).toNat).toInt := ⟨_, rfl⟩
  have by3 : -2147483648 ≤ y3 ∧ y3 ≤ 2147483647 := by rw [hy3]; exact i32_r _
  refine fV_aload_n (pc' := 392) G 1 dL_law_391 rfl rfl rfl ?_
  refine fV_aload_n (pc' := 393) G 0 dL_law_392 rfl rfl rfl ?_
  refine fV_iload_n (pc' := 394) G 3 dL_law_393 rfl rfl rfl ?_
  refine fV_iconst (pc' := 395) G dL_law_394 rfl ?_
  refine fV_iadd (pc' := 396) G dL_law_395 rfl ?_
  refine fV_sld (q := i + 1) (v := y1) (pc' := 397) G hXS hbl hbA (by omega) (by omega) hy1 dL_law_396 rfl ?_
  refine fV_aload_n (pc' := 398) G 0 dL_law_397 rfl rfl rfl ?_
  refine fV_iload_n (pc' := 399) G 3 dL_law_398 rfl rfl rfl ?_
  refine fV_iconst (pc' := 400) G dL_law_399 rfl ?_
  refine fV_iadd (pc' := 401) G dL_law_400 rfl ?_
  refine fV_sld (q := i + 2) (v := y2) (pc' := 402) G hXS hbl hbA (by omega) (by omega) hy2 dL_law_401 rfl ?_
  refine fV_aload_n (pc' := 403) G 0 dL_law_402 rfl rfl rfl ?_
  refine fV_iload_n (pc' := 404) G 3 dL_law_403 rfl rfl rfl ?_
  refine fV_iconst (pc' := 405) G dL_law_404 rfl ?_
  refine fV_iadd (pc' := 406) G dL_law_405 rfl ?_
  refine fV_sld (q := i + 3) (v := y3) (pc' := 407) G hXS hbl hbA (by omega) (by omega) hy3 dL_law_406 rfl ?_
  refine fV_callV (n := 3) (k := 0) (K := 3) (As := [.int (i32 y1), .int (i32 y2), .int (i32 y3)]) (rest := []) (pc' := 410) G (mX3_put l Γ (by decide) I P (Sim_all S) y1 y2 y3 by1 by2 by3) kcL_law_53 (by omega) rfl rfl rfl rfl (Nat.le_of_ble_eq_true rfl) hkc hks dL_law_407 rfl (fun v1 I2 P3 h4 => ?_)
  obtain ⟨x9, hv⟩ : ∃ x : Int32, v1 = some (.int x) := by rcases h4 with ⟨-, -, h9, -⟩ | ⟨-, -, h9, -⟩ | ⟨-, h9, -⟩; exact ⟨_, h9⟩; exact ⟨_, h9⟩; exact ⟨_, h9⟩
  obtain ⟨hm, hk⟩ := st_put S h4
  refine fV_st (st' := [.int (x9)]) (by rw [hv]; rfl) ?_
  refine fV_aload_n (pc' := 411) G 2 dL_law_410 rfl rfl rfl ?_
  refine fV_aload_n (pc' := 412) G 0 dL_law_411 rfl rfl rfl ?_
  refine fV_iload_n (pc' := 413) G 3 dL_law_412 rfl rfl rfl ?_
  refine fV_iconst (pc' := 414) G dL_law_413 rfl ?_
  refine fV_iadd (pc' := 415) G dL_law_414 rfl ?_
  refine fV_sld (q := i + 1) (v := y1) (pc' := 416) G hXS hbl hbA (by omega) (by omega) hy1 dL_law_415 rfl ?_
  refine fV_aload_n (pc' := 417) G 0 dL_law_416 rfl rfl rfl ?_
  refine fV_iload_n (pc' := 418) G 3 dL_law_417 rfl rfl rfl ?_
  refine fV_iconst (pc' := 419) G dL_law_418 rfl ?_
  refine fV_iadd (pc' := 420) G dL_law_419 rfl ?_
  refine fV_sld (q := i + 2) (v := y2) (pc' := 421) G hXS hbl hbA (by omega) (by omega) hy2 dL_law_420 rfl ?_
  refine fV_aload_n (pc' := 422) G 0 dL_law_421 rfl rfl rfl ?_
  refine fV_iload_n (pc' := 423) G 3 dL_law_422 rfl rfl rfl ?_
  refine fV_iconst (pc' := 424) G dL_law_423 rfl ?_
  refine fV_iadd (pc' := 425) G dL_law_424 rfl ?_
  refine fV_sld (q := i + 3) (v := y3) (pc' := 426) G hXS hbl hbA (by omega) (by omega) hy3 dL_law_425 rfl ?_
  refine fV_callV (n := 3) (k := 214) (K := 4) (As := [.int (i32 y1), .int (i32 y2), .int (i32 y3)]) (rest := [.int (x9)]) (pc' := 429) G (mX4_put l Γ (by decide) I2 P3 hm y1 y2 y3 by1 by2 by3) kcL_law_56 (by omega) rfl rfl rfl rfl (Nat.le_of_ble_eq_true rfl) hkc hks dL_law_426 rfl (fun v5 I6 P7 h8 => ?_)
  obtain ⟨hvv, hs⟩ := hk _ _ _ h8
  rw [hv] at hvv
  refine fV_st (st' := [.int (x9), .int (x9)]) (by rw [← hvv]; rfl) ?_
  refine fV_icmp_same (tgt := 826) G dL_law_429 (by decide) ?_
  exact next _ _ hs
set_option maxHeartbeats 4000000 in
set_option maxRecDepth 100000 in
theorem lawc_10 {p : Program} {l : Launch} {e : Env} {s : State} {m : MethodId} {b : Nat} {below : List Frame} {meth : Method} {c : Code} {Q : State → Prop} {A : Nat → Prop} {Γ : fG} {kc ks : Nat} {ret : Option FieldType} {L : Nat} {xs : Nat → Int32} (G : fC p s m #[Value.ref b] meth c cL_law RL wsL_law A Γ 220 4 ret) (hXS : va_X b L xs s s.heap) (hbl : b < s.heap.size) (hbA : ¬ A b) (hL : L ≤ 3072) (hkc : kc ≤ room_1.cells) (hks : ks ≤ room_1.slots) {I : fM} {P : fN} (S : Sim I P) {i : Int} (hi : 0 ≤ i ∧ i + 5 < (L : Int)) (next : ∀ (J : fM) (Q2 : fN), Sim J Q2 → fV p l e room_1 s m #[Value.ref b] below meth c Q A Γ 220 4 kc ks J Q2 826 [(0, .ref b), (1, .ref (Γ.1 0)), (2, .ref (Γ.1 214)), (3, .int (i32 i))] []) : fV p l e room_1 s m #[Value.ref b] below meth c Q A Γ 220 4 kc ks I P 434 [(0, .ref b), (1, .ref (Γ.1 0)), (2, .ref (Γ.1 214)), (3, .int (i32 i))] [] := by
  obtain ⟨y1, hy1⟩ : ∃ v : Int, v = (xs (i + 1).toNat).toInt := ⟨_, rfl⟩
  have by1 : -2147483648 ≤ y1 ∧ y1 ≤ 2147483647 := by rw [hy1]; exact i32_r _
  refine fV_aload_n (pc' := 435) G 1 dL_law_434 rfl rfl rfl ?_
  refine fV_aload_n (pc' := 436) G 0 dL_law_435 rfl rfl rfl ?_
  refine fV_iload_n (pc' := 437) G 3 dL_law_436 rfl rfl rfl ?_
  refine fV_iconst (pc' := 438) G dL_law_437 rfl ?_
  refine fV_iadd (pc' := 439) G dL_law_438 rfl ?_
  refine fV_sld (q := i + 1) (v := y1) (pc' := 440) G hXS hbl hbA (by omega) (by omega) hy1 dL_law_439 rfl ?_
  refine fV_callV (n := 1) (k := 0) (K := 3) (As := [.int (i32 y1)]) (rest := []) (pc' := 443) G (mX3_take l Γ (by decide) I P (Sim_all S) y1 by1) kcL_law_57 (by omega) rfl rfl rfl rfl (Nat.le_of_ble_eq_true rfl) hkc hks dL_law_440 rfl (fun v1 I2 P3 h4 => ?_)
  obtain ⟨hv, hA⟩ := h4
  obtain ⟨hm, hq, hs⟩ := st_take S hA
  rw [hq] at hv
  refine fV_st (st' := [.int (i32 (qMTake I2 y1))]) (by rw [hv]; rfl) ?_
  refine fV_aload_n (pc' := 444) G 2 dL_law_443 rfl rfl rfl ?_
  refine fV_aload_n (pc' := 445) G 0 dL_law_444 rfl rfl rfl ?_
  refine fV_iload_n (pc' := 446) G 3 dL_law_445 rfl rfl rfl ?_
  refine fV_iconst (pc' := 447) G dL_law_446 rfl ?_
  refine fV_iadd (pc' := 448) G dL_law_447 rfl ?_
  refine fV_sld (q := i + 1) (v := y1) (pc' := 449) G hXS hbl hbA (by omega) (by omega) hy1 dL_law_448 rfl ?_
  refine fV_callV (n := 1) (k := 214) (K := 4) (As := [.int (i32 y1)]) (rest := [.int (i32 (qMTake I2 y1))]) (pc' := 452) G (mX4_take l Γ (by decide) I2 P3 hm y1 by1) kcL_law_60 (by omega) rfl rfl rfl rfl (Nat.le_of_ble_eq_true rfl) hkc hks dL_law_449 rfl (fun v5 I6 P7 h8 => ?_)
  obtain ⟨hv2, rfl, rfl⟩ := h8
  refine fV_st (st' := [.int (i32 (qMTake I2 y1)), .int (i32 (qMTake I2 y1))]) (by rw [hv2]; rfl) ?_
  refine fV_icmp_same (tgt := 826) G dL_law_452 (by decide) ?_
  exact next _ _ hs
set_option maxHeartbeats 4000000 in
set_option maxRecDepth 100000 in
theorem lawc_11 {p : Program} {l : Launch} {e : Env} {s : State} {m : MethodId} {b : Nat} {below : List Frame} {meth : Method} {c : Code} {Q : State → Prop} {A : Nat → Prop} {Γ : fG} {kc ks : Nat} {ret : Option FieldType} {L : Nat} {xs : Nat → Int32} (G : fC p s m #[Value.ref b] meth c cL_law RL wsL_law A Γ 220 4 ret) (hXS : va_X b L xs s s.heap) (hbl : b < s.heap.size) (hbA : ¬ A b) (hL : L ≤ 3072) (hkc : kc ≤ room_1.cells) (hks : ks ≤ room_1.slots) {I : fM} {P : fN} (S : Sim I P) {i : Int} (hi : 0 ≤ i ∧ i + 5 < (L : Int)) (next : ∀ (J : fM) (Q2 : fN), Sim J Q2 → fV p l e room_1 s m #[Value.ref b] below meth c Q A Γ 220 4 kc ks J Q2 826 [(0, .ref b), (1, .ref (Γ.1 0)), (2, .ref (Γ.1 214)), (3, .int (i32 i))] []) : fV p l e room_1 s m #[Value.ref b] below meth c Q A Γ 220 4 kc ks I P 457 [(0, .ref b), (1, .ref (Γ.1 0)), (2, .ref (Γ.1 214)), (3, .int (i32 i))] [] := by
  refine fV_aload_n (pc' := 458) G 1 dL_law_457 rfl rfl rfl ?_
  refine fV_callV (n := 0) (k := 0) (K := 3) (As := []) (rest := []) (pc' := 461) G (mX3_putAll l Γ (by decide) I P (Sim_all S)  ) kcL_law_61 (by omega) rfl rfl rfl rfl (Nat.le_of_ble_eq_true rfl) hkc hks dL_law_458 rfl (fun v1 I2 P3 h4 => ?_)
  have hv := h4.1
  obtain ⟨hm, o, hO, hk⟩ := st_pall S h4
  refine fV_st (st' := [.int (i32 (xCnt I2 P3))]) (by rw [hv]; rfl) ?_
  refine fV_aload_n (pc' := 462) G 2 dL_law_461 rfl rfl rfl ?_
  refine fV_callV (n := 0) (k := 214) (K := 4) (As := []) (rest := [.int (i32 (xCnt I2 P3))]) (pc' := 465) G (mX4_putAll l Γ (by decide) I2 P3 hm o hO  ) kcL_law_64 (by omega) rfl rfl rfl rfl (Nat.le_of_ble_eq_true rfl) hkc hks dL_law_462 rfl (fun v5 I6 P7 h8 => ?_)
  obtain ⟨hvv, hs⟩ := hk _ _ _ h8
  rw [hv] at hvv
  refine fV_st (st' := [.int (i32 (xCnt I2 P3)), .int (i32 (xCnt I2 P3))]) (by rw [← hvv]; rfl) ?_
  refine fV_icmp_same (tgt := 826) G dL_law_465 (by decide) ?_
  exact next _ _ hs
set_option maxHeartbeats 4000000 in
set_option maxRecDepth 100000 in
theorem lawc_12 {p : Program} {l : Launch} {e : Env} {s : State} {m : MethodId} {b : Nat} {below : List Frame} {meth : Method} {c : Code} {Q : State → Prop} {A : Nat → Prop} {Γ : fG} {kc ks : Nat} {ret : Option FieldType} {L : Nat} {xs : Nat → Int32} (G : fC p s m #[Value.ref b] meth c cL_law RL wsL_law A Γ 220 4 ret) (hXS : va_X b L xs s s.heap) (hbl : b < s.heap.size) (hbA : ¬ A b) (hL : L ≤ 3072) (hkc : kc ≤ room_1.cells) (hks : ks ≤ room_1.slots) {I : fM} {P : fN} (S : Sim I P) {i : Int} (hi : 0 ≤ i ∧ i + 5 < (L : Int)) (next : ∀ (J : fM) (Q2 : fN), Sim J Q2 → fV p l e room_1 s m #[Value.ref b] below meth c Q A Γ 220 4 kc ks J Q2 826 [(0, .ref b), (1, .ref (Γ.1 0)), (2, .ref (Γ.1 214)), (3, .int (i32 i))] []) : fV p l e room_1 s m #[Value.ref b] below meth c Q A Γ 220 4 kc ks I P 470 [(0, .ref b), (1, .ref (Γ.1 0)), (2, .ref (Γ.1 214)), (3, .int (i32 i))] [] := by
  refine fV_aload_n (pc' := 471) G 1 dL_law_470 rfl rfl rfl ?_
  refine fV_callV (n := 0) (k := 0) (K := 3) (As := []) (rest := []) (pc' := 474) G (mX3_undo l Γ (by decide) I P (Sim_all S)  ) kcL_law_65 (by omega) rfl rfl rfl rfl (Nat.le_of_ble_eq_true rfl) hkc hks dL_law_471 rfl (fun v1 I2 P3 h4 => ?_)
  obtain ⟨hm, hv, hs⟩ := st_undo S h4
  refine fV_st (st' := [.int (i32 (qMUndo I2))]) (by rw [hv]; rfl) ?_
  refine fV_aload_n (pc' := 475) G 2 dL_law_474 rfl rfl rfl ?_
  refine fV_callV (n := 0) (k := 214) (K := 4) (As := []) (rest := [.int (i32 (qMUndo I2))]) (pc' := 478) G (mX4_undo l Γ (by decide) I2 P3 hm  ) kcL_law_68 (by omega) rfl rfl rfl rfl (Nat.le_of_ble_eq_true rfl) hkc hks dL_law_475 rfl (fun v5 I6 P7 h8 => ?_)
  obtain ⟨hv2, rfl, rfl⟩ := h8
  refine fV_st (st' := [.int (i32 (qMUndo I2)), .int (i32 (qMUndo I2))]) (by rw [hv2]; rfl) ?_
  refine fV_icmp_same (tgt := 826) G dL_law_478 (by decide) ?_
  exact next _ _ hs
set_option maxHeartbeats 4000000 in
set_option maxRecDepth 100000 in
theorem lawc_13 {p : Program} {l : Launch} {e : Env} {s : State} {m : MethodId} {b : Nat} {below : List Frame} {meth : Method} {c : Code} {Q : State → Prop} {A : Nat → Prop} {Γ : fG} {kc ks : Nat} {ret : Option FieldType} {L : Nat} {xs : Nat → Int32} (G : fC p s m #[Value.ref b] meth c cL_law RL wsL_law A Γ 220 4 ret) (hXS : va_X b L xs s s.heap) (hbl : b < s.heap.size) (hbA : ¬ A b) (hL : L ≤ 3072) (hkc : kc ≤ room_1.cells) (hks : ks ≤ room_1.slots) {I : fM} {P : fN} (S : Sim I P) {i : Int} (hi : 0 ≤ i ∧ i + 5 < (L : Int)) (next : ∀ (J : fM) (Q2 : fN), Sim J Q2 → fV p l e room_1 s m #[Value.ref b] below meth c Q A Γ 220 4 kc ks J Q2 826 [(0, .ref b), (1, .ref (Γ.1 0)), (2, .ref (Γ.1 214)), (3, .int (i32 i))] []) : fV p l e room_1 s m #[Value.ref b] below meth c Q A Γ 220 4 kc ks I P 483 [(0, .ref b), (1, .ref (Γ.1 0)), (2, .ref (Γ.1 214)), (3, .int (i32 i))] [] := by
  obtain ⟨y1, hy1⟩ : ∃ v : Int, v = (xs (i + 1).toNat).toInt := ⟨_, rfl⟩
  have by1 : -2147483648 ≤ y1 ∧ y1 ≤ 2147483647 := by rw [hy1]; exact i32_r _
  refine fV_aload_n (pc' := 484) G 1 dL_law_483 rfl rfl rfl ?_
  refine fV_aload_n (pc' := 485) G 0 dL_law_484 rfl rfl rfl ?_
  refine fV_iload_n (pc' := 486) G 3 dL_law_485 rfl rfl rfl ?_
  refine fV_iconst (pc' := 487) G dL_law_486 rfl ?_
  refine fV_iadd (pc' := 488) G dL_law_487 rfl ?_
  refine fV_sld (q := i + 1) (v := y1) (pc' := 489) G hXS hbl hbA (by omega) (by omega) hy1 dL_law_488 rfl ?_
  refine fV_callV (n := 1) (k := 0) (K := 3) (As := [.int (i32 y1)]) (rest := []) (pc' := 492) G (mX3_count l Γ (by decide) I P (xAll_ok (Sim_all S)) y1 by1) kcL_law_69 (by omega) rfl rfl rfl rfl (Nat.le_of_ble_eq_true rfl) hkc hks dL_law_489 rfl (fun v1 I2 P3 h4 => ?_)
  obtain ⟨hv, eJ, eQ⟩ := h4
  refine fV_st (st' := [.int (i32 (qXCount I P y1))]) (by rw [hv]; rfl) ?_
  refine fV_mem (I' := I) (P' := P) eJ eQ ?_
  refine fV_aload_n (pc' := 493) G 2 dL_law_492 rfl rfl rfl ?_
  refine fV_aload_n (pc' := 494) G 0 dL_law_493 rfl rfl rfl ?_
  refine fV_iload_n (pc' := 495) G 3 dL_law_494 rfl rfl rfl ?_
  refine fV_iconst (pc' := 496) G dL_law_495 rfl ?_
  refine fV_iadd (pc' := 497) G dL_law_496 rfl ?_
  refine fV_sld (q := i + 1) (v := y1) (pc' := 498) G hXS hbl hbA (by omega) (by omega) hy1 dL_law_497 rfl ?_
  refine fV_callV (n := 1) (k := 214) (K := 4) (As := [.int (i32 y1)]) (rest := [.int (i32 (qXCount I P y1))]) (pc' := 501) G (mX4_count l Γ (by decide) I P (mOk_of S rfl rfl) y1 by1) kcL_law_72 (by omega) rfl rfl rfl rfl (Nat.le_of_ble_eq_true rfl) hkc hks dL_law_498 rfl (fun v5 I6 P7 h8 => ?_)
  obtain ⟨hv2, eK, eQ2⟩ := h8
  rw [← e_count S.1.1 S.1.2.1 S.2.1.1 S.2.2.2.1.2.1 y1] at hv2
  refine fV_st (st' := [.int (i32 (qXCount I P y1)), .int (i32 (qXCount I P y1))]) (by rw [hv2]; rfl) ?_
  refine fV_mem (I' := I) (P' := P) eK eQ2 ?_
  have hs := S
  refine fV_icmp_same (tgt := 826) G dL_law_501 (by decide) ?_
  exact next _ _ hs
set_option maxHeartbeats 4000000 in
set_option maxRecDepth 100000 in
theorem lawc_14 {p : Program} {l : Launch} {e : Env} {s : State} {m : MethodId} {b : Nat} {below : List Frame} {meth : Method} {c : Code} {Q : State → Prop} {A : Nat → Prop} {Γ : fG} {kc ks : Nat} {ret : Option FieldType} {L : Nat} {xs : Nat → Int32} (G : fC p s m #[Value.ref b] meth c cL_law RL wsL_law A Γ 220 4 ret) (hXS : va_X b L xs s s.heap) (hbl : b < s.heap.size) (hbA : ¬ A b) (hL : L ≤ 3072) (hkc : kc ≤ room_1.cells) (hks : ks ≤ room_1.slots) {I : fM} {P : fN} (S : Sim I P) {i : Int} (hi : 0 ≤ i ∧ i + 5 < (L : Int)) (next : ∀ (J : fM) (Q2 : fN), Sim J Q2 → fV p l e room_1 s m #[Value.ref b] below meth c Q A Γ 220 4 kc ks J Q2 826 [(0, .ref b), (1, .ref (Γ.1 0)), (2, .ref (Γ.1 214)), (3, .int (i32 i))] []) : fV p l e room_1 s m #[Value.ref b] below meth c Q A Γ 220 4 kc ks I P 506 [(0, .ref b), (1, .ref (Γ.1 0)), (2, .ref (Γ.1 214)), (3, .int (i32 i))] [] := by
  obtain ⟨y1, hy1⟩ : ∃ v : Int, v = (xs (i + 1).toNat).toInt := ⟨_, rfl⟩
  have by1 : -2147483648 ≤ y1 ∧ y1 ≤ 2147483647 := by rw [hy1]; exact i32_r _
  obtain ⟨y2, hy2⟩ : ∃ v : Int, v = (xs (i + 2).toNat).toInt := ⟨_, rfl⟩
  have by2 : -2147483648 ≤ y2 ∧ y2 ≤ 2147483647 := by rw [hy2]; exact i32_r _
  refine fV_aload_n (pc' := 507) G 1 dL_law_506 rfl rfl rfl ?_
  refine fV_aload_n (pc' := 508) G 0 dL_law_507 rfl rfl rfl ?_
  refine fV_iload_n (pc' := 509) G 3 dL_law_508 rfl rfl rfl ?_
  refine fV_iconst (pc' := 510) G dL_law_509 rfl ?_
  refine fV_iadd (pc' := 511) G dL_law_510 rfl ?_
  refine fV_sld (q := i + 1) (v := y1) (pc' := 512) G hXS hbl hbA (by omega) (by omega) hy1 dL_law_511 rfl ?_
  refine fV_aload_n (pc' := 513) G 0 dL_law_512 rfl rfl rfl ?_
  refine fV_iload_n (pc' := 514) G 3 dL_law_513 rfl rfl rfl ?_
  refine fV_iconst (pc' := 515) G dL_law_514 rfl ?_
  refine fV_iadd (pc' := 516) G dL_law_515 rfl ?_
  refine fV_sld (q := i + 2) (v := y2) (pc' := 517) G hXS hbl hbA (by omega) (by omega) hy2 dL_law_516 rfl ?_
  refine fV_callV (n := 2) (k := 0) (K := 3) (As := [.int (i32 y1), .int (i32 y2)]) (rest := []) (pc' := 520) G (mX3_word l Γ (by decide) I P (xAll_ok (Sim_all S)) y1 y2 by1 by2) kcL_law_73 (by omega) rfl rfl rfl rfl (Nat.le_of_ble_eq_true rfl) hkc hks dL_law_517 rfl (fun v1 I2 P3 h4 => ?_)
  obtain ⟨hv, eJ, eQ⟩ := h4
  refine fV_st (st' := [.int (i32 (qXWord I P y1 y2))]) (by rw [hv]; rfl) ?_
  refine fV_mem (I' := I) (P' := P) eJ eQ ?_
  refine fV_aload_n (pc' := 521) G 2 dL_law_520 rfl rfl rfl ?_
  refine fV_aload_n (pc' := 522) G 0 dL_law_521 rfl rfl rfl ?_
  refine fV_iload_n (pc' := 523) G 3 dL_law_522 rfl rfl rfl ?_
  refine fV_iconst (pc' := 524) G dL_law_523 rfl ?_
  refine fV_iadd (pc' := 525) G dL_law_524 rfl ?_
  refine fV_sld (q := i + 1) (v := y1) (pc' := 526) G hXS hbl hbA (by omega) (by omega) hy1 dL_law_525 rfl ?_
  refine fV_aload_n (pc' := 527) G 0 dL_law_526 rfl rfl rfl ?_
  refine fV_iload_n (pc' := 528) G 3 dL_law_527 rfl rfl rfl ?_
  refine fV_iconst (pc' := 529) G dL_law_528 rfl ?_
  refine fV_iadd (pc' := 530) G dL_law_529 rfl ?_
  refine fV_sld (q := i + 2) (v := y2) (pc' := 531) G hXS hbl hbA (by omega) (by omega) hy2 dL_law_530 rfl ?_
  refine fV_callV (n := 2) (k := 214) (K := 4) (As := [.int (i32 y1), .int (i32 y2)]) (rest := [.int (i32 (qXWord I P y1 y2))]) (pc' := 534) G (mX4_word l Γ (by decide) I P (mOk_of S rfl rfl) y1 y2 by1 by2) kcL_law_77 (by omega) rfl rfl rfl rfl (Nat.le_of_ble_eq_true rfl) hkc hks dL_law_531 rfl (fun v5 I6 P7 h8 => ?_)
  obtain ⟨hv2, eK, eQ2⟩ := h8
  rw [← e_word S.1.1 S.1.2.1 y1 y2] at hv2
  refine fV_st (st' := [.int (i32 (qXWord I P y1 y2)), .int (i32 (qXWord I P y1 y2))]) (by rw [hv2]; rfl) ?_
  refine fV_mem (I' := I) (P' := P) eK eQ2 ?_
  have hs := S
  refine fV_icmp_same (tgt := 826) G dL_law_534 (by decide) ?_
  exact next _ _ hs
set_option maxHeartbeats 4000000 in
set_option maxRecDepth 100000 in
theorem lawc_15 {p : Program} {l : Launch} {e : Env} {s : State} {m : MethodId} {b : Nat} {below : List Frame} {meth : Method} {c : Code} {Q : State → Prop} {A : Nat → Prop} {Γ : fG} {kc ks : Nat} {ret : Option FieldType} {L : Nat} {xs : Nat → Int32} (G : fC p s m #[Value.ref b] meth c cL_law RL wsL_law A Γ 220 4 ret) (hXS : va_X b L xs s s.heap) (hbl : b < s.heap.size) (hbA : ¬ A b) (hL : L ≤ 3072) (hkc : kc ≤ room_1.cells) (hks : ks ≤ room_1.slots) {I : fM} {P : fN} (S : Sim I P) {i : Int} (hi : 0 ≤ i ∧ i + 5 < (L : Int)) (next : ∀ (J : fM) (Q2 : fN), Sim J Q2 → fV p l e room_1 s m #[Value.ref b] below meth c Q A Γ 220 4 kc ks J Q2 826 [(0, .ref b), (1, .ref (Γ.1 0)), (2, .ref (Γ.1 214)), (3, .int (i32 i))] []) : fV p l e room_1 s m #[Value.ref b] below meth c Q A Γ 220 4 kc ks I P 539 [(0, .ref b), (1, .ref (Γ.1 0)), (2, .ref (Γ.1 214)), (3, .int (i32 i))] [] := by
  obtain ⟨y1, hy1⟩ : ∃ v : Int, v = (xs (i + 1).toNat).toInt := ⟨_, rfl⟩
  have by1 : -2147483648 ≤ y1 ∧ y1 ≤ 2147483647 := by rw [hy1]; exact i32_r _
  obtain ⟨y2, hy2⟩ : ∃ v : Int, v = (xs (i + 2).toNat).toInt := ⟨_, rfl⟩
  have by2 : -2147483648 ≤ y2 ∧ y2 ≤ 2147483647 := by rw [hy2]; exact i32_r _
  refine fV_aload_n (pc' := 540) G 1 dL_law_539 rfl rfl rfl ?_
  refine fV_aload_n (pc' := 541) G 0 dL_law_540 rfl rfl rfl ?_
  refine fV_iload_n (pc' := 542) G 3 dL_law_541 rfl rfl rfl ?_
  refine fV_iconst (pc' := 543) G dL_law_542 rfl ?_
  refine fV_iadd (pc' := 544) G dL_law_543 rfl ?_
  refine fV_sld (q := i + 1) (v := y1) (pc' := 545) G hXS hbl hbA (by omega) (by omega) hy1 dL_law_544 rfl ?_
  refine fV_aload_n (pc' := 546) G 0 dL_law_545 rfl rfl rfl ?_
  refine fV_iload_n (pc' := 547) G 3 dL_law_546 rfl rfl rfl ?_
  refine fV_iconst (pc' := 548) G dL_law_547 rfl ?_
  refine fV_iadd (pc' := 549) G dL_law_548 rfl ?_
  refine fV_sld (q := i + 2) (v := y2) (pc' := 550) G hXS hbl hbA (by omega) (by omega) hy2 dL_law_549 rfl ?_
  refine fV_callV (n := 2) (k := 0) (K := 3) (As := [.int (i32 y1), .int (i32 y2)]) (rest := []) (pc' := 553) G (mX3_letter l Γ (by decide) I P (xAll_ok (Sim_all S)) y1 y2 by1 by2) kcL_law_78 (by omega) rfl rfl rfl rfl (Nat.le_of_ble_eq_true rfl) hkc hks dL_law_550 rfl (fun v1 I2 P3 h4 => ?_)
  obtain ⟨hv, eJ, eQ⟩ := h4
  refine fV_st (st' := [.int (i32 (qXLetter I P y1 y2))]) (by rw [hv]; rfl) ?_
  refine fV_mem (I' := I) (P' := P) eJ eQ ?_
  refine fV_aload_n (pc' := 554) G 2 dL_law_553 rfl rfl rfl ?_
  refine fV_aload_n (pc' := 555) G 0 dL_law_554 rfl rfl rfl ?_
  refine fV_iload_n (pc' := 556) G 3 dL_law_555 rfl rfl rfl ?_
  refine fV_iconst (pc' := 557) G dL_law_556 rfl ?_
  refine fV_iadd (pc' := 558) G dL_law_557 rfl ?_
  refine fV_sld (q := i + 1) (v := y1) (pc' := 559) G hXS hbl hbA (by omega) (by omega) hy1 dL_law_558 rfl ?_
  refine fV_aload_n (pc' := 560) G 0 dL_law_559 rfl rfl rfl ?_
  refine fV_iload_n (pc' := 561) G 3 dL_law_560 rfl rfl rfl ?_
  refine fV_iconst (pc' := 562) G dL_law_561 rfl ?_
  refine fV_iadd (pc' := 563) G dL_law_562 rfl ?_
  refine fV_sld (q := i + 2) (v := y2) (pc' := 564) G hXS hbl hbA (by omega) (by omega) hy2 dL_law_563 rfl ?_
  refine fV_callV (n := 2) (k := 214) (K := 4) (As := [.int (i32 y1), .int (i32 y2)]) (rest := [.int (i32 (qXLetter I P y1 y2))]) (pc' := 567) G (mX4_letter l Γ (by decide) I P (mOk_of S rfl rfl) y1 y2 by1 by2) kcL_law_81 (by omega) rfl rfl rfl rfl (Nat.le_of_ble_eq_true rfl) hkc hks dL_law_564 rfl (fun v5 I6 P7 h8 => ?_)
  obtain ⟨hv2, eK, eQ2⟩ := h8
  rw [← e_letter S.1.1 S.1.2.1 y1 y2] at hv2
  refine fV_st (st' := [.int (i32 (qXLetter I P y1 y2)), .int (i32 (qXLetter I P y1 y2))]) (by rw [hv2]; rfl) ?_
  refine fV_mem (I' := I) (P' := P) eK eQ2 ?_
  have hs := S
  refine fV_icmp_same (tgt := 826) G dL_law_567 (by decide) ?_
  exact next _ _ hs
set_option maxHeartbeats 4000000 in
set_option maxRecDepth 100000 in
theorem lawc_16 {p : Program} {l : Launch} {e : Env} {s : State} {m : MethodId} {b : Nat} {below : List Frame} {meth : Method} {c : Code} {Q : State → Prop} {A : Nat → Prop} {Γ : fG} {kc ks : Nat} {ret : Option FieldType} {L : Nat} {xs : Nat → Int32} (G : fC p s m #[Value.ref b] meth c cL_law RL wsL_law A Γ 220 4 ret) (hXS : va_X b L xs s s.heap) (hbl : b < s.heap.size) (hbA : ¬ A b) (hL : L ≤ 3072) (hkc : kc ≤ room_1.cells) (hks : ks ≤ room_1.slots) {I : fM} {P : fN} (S : Sim I P) {i : Int} (hi : 0 ≤ i ∧ i + 5 < (L : Int)) (next : ∀ (J : fM) (Q2 : fN), Sim J Q2 → fV p l e room_1 s m #[Value.ref b] below meth c Q A Γ 220 4 kc ks J Q2 826 [(0, .ref b), (1, .ref (Γ.1 0)), (2, .ref (Γ.1 214)), (3, .int (i32 i))] []) : fV p l e room_1 s m #[Value.ref b] below meth c Q A Γ 220 4 kc ks I P 572 [(0, .ref b), (1, .ref (Γ.1 0)), (2, .ref (Γ.1 214)), (3, .int (i32 i))] [] := by
  obtain ⟨y1, hy1⟩ : ∃ v : Int, v = (xs (i + 1).toNat).toInt := ⟨_, rfl⟩
  have by1 : -2147483648 ≤ y1 ∧ y1 ≤ 2147483647 := by rw [hy1]; exact i32_r _
  refine fV_aload_n (pc' := 573) G 1 dL_law_572 rfl rfl rfl ?_
  refine fV_aload_n (pc' := 574) G 0 dL_law_573 rfl rfl rfl ?_
  refine fV_iload_n (pc' := 575) G 3 dL_law_574 rfl rfl rfl ?_
  refine fV_iconst (pc' := 576) G dL_law_575 rfl ?_
  refine fV_iadd (pc' := 577) G dL_law_576 rfl ?_
  refine fV_sld (q := i + 1) (v := y1) (pc' := 578) G hXS hbl hbA (by omega) (by omega) hy1 dL_law_577 rfl ?_
  refine fV_callV (n := 1) (k := 0) (K := 3) (As := [.int (i32 y1)]) (rest := []) (pc' := 581) G (mX3_shot l Γ (by decide) I P (xAll_ok (Sim_all S)) y1 by1) kcL_law_82 (by omega) rfl rfl rfl rfl (Nat.le_of_ble_eq_true rfl) hkc hks dL_law_578 rfl (fun v1 I2 P3 h4 => ?_)
  obtain ⟨hv, eJ, eQ⟩ := h4
  refine fV_st (st' := [.int (i32 (qXShot I y1))]) (by rw [hv]; rfl) ?_
  refine fV_mem (I' := I) (P' := P) eJ eQ ?_
  refine fV_aload_n (pc' := 582) G 2 dL_law_581 rfl rfl rfl ?_
  refine fV_aload_n (pc' := 583) G 0 dL_law_582 rfl rfl rfl ?_
  refine fV_iload_n (pc' := 584) G 3 dL_law_583 rfl rfl rfl ?_
  refine fV_iconst (pc' := 585) G dL_law_584 rfl ?_
  refine fV_iadd (pc' := 586) G dL_law_585 rfl ?_
  refine fV_sld (q := i + 1) (v := y1) (pc' := 587) G hXS hbl hbA (by omega) (by omega) hy1 dL_law_586 rfl ?_
  refine fV_callV (n := 1) (k := 214) (K := 4) (As := [.int (i32 y1)]) (rest := [.int (i32 (qXShot I y1))]) (pc' := 590) G (mX4_shot l Γ (by decide) I P (mOk_of S rfl rfl) y1 by1) kcL_law_85 (by omega) rfl rfl rfl rfl (Nat.le_of_ble_eq_true rfl) hkc hks dL_law_587 rfl (fun v5 I6 P7 h8 => ?_)
  obtain ⟨hv2, eK, eQ2⟩ := h8
  rw [← e_shot S.1.1 S.1.2.1 y1] at hv2
  refine fV_st (st' := [.int (i32 (qXShot I y1)), .int (i32 (qXShot I y1))]) (by rw [hv2]; rfl) ?_
  refine fV_mem (I' := I) (P' := P) eK eQ2 ?_
  have hs := S
  refine fV_icmp_same (tgt := 826) G dL_law_590 (by decide) ?_
  exact next _ _ hs
set_option maxHeartbeats 4000000 in
set_option maxRecDepth 100000 in
theorem lawc_17 {p : Program} {l : Launch} {e : Env} {s : State} {m : MethodId} {b : Nat} {below : List Frame} {meth : Method} {c : Code} {Q : State → Prop} {A : Nat → Prop} {Γ : fG} {kc ks : Nat} {ret : Option FieldType} {L : Nat} {xs : Nat → Int32} (G : fC p s m #[Value.ref b] meth c cL_law RL wsL_law A Γ 220 4 ret) (hXS : va_X b L xs s s.heap) (hbl : b < s.heap.size) (hbA : ¬ A b) (hL : L ≤ 3072) (hkc : kc ≤ room_1.cells) (hks : ks ≤ room_1.slots) {I : fM} {P : fN} (S : Sim I P) {i : Int} (hi : 0 ≤ i ∧ i + 5 < (L : Int)) (next : ∀ (J : fM) (Q2 : fN), Sim J Q2 → fV p l e room_1 s m #[Value.ref b] below meth c Q A Γ 220 4 kc ks J Q2 826 [(0, .ref b), (1, .ref (Γ.1 0)), (2, .ref (Γ.1 214)), (3, .int (i32 i))] []) : fV p l e room_1 s m #[Value.ref b] below meth c Q A Γ 220 4 kc ks I P 595 [(0, .ref b), (1, .ref (Γ.1 0)), (2, .ref (Γ.1 214)), (3, .int (i32 i))] [] := by
  obtain ⟨y1, hy1⟩ : ∃ v : Int, v = (xs (i + 1).toNat).toInt := ⟨_, rfl⟩
  have by1 : -2147483648 ≤ y1 ∧ y1 ≤ 2147483647 := by rw [hy1]; exact i32_r _
  obtain ⟨y2, hy2⟩ : ∃ v : Int, v = (xs (i + 2).toNat).toInt := ⟨_, rfl⟩
  have by2 : -2147483648 ≤ y2 ∧ y2 ≤ 2147483647 := by rw [hy2]; exact i32_r _
  obtain ⟨y3, hy3⟩ : ∃ v : Int, v = (xs (i + 3).toNat).toInt := ⟨_, rfl⟩
  have by3 : -2147483648 ≤ y3 ∧ y3 ≤ 2147483647 := by rw [hy3]; exact i32_r _
  refine fV_aload_n (pc' := 596) G 1 dL_law_595 rfl rfl rfl ?_
  refine fV_aload_n (pc' := 597) G 0 dL_law_596 rfl rfl rfl ?_
  refine fV_iload_n (pc' := 598) G 3 dL_law_597 rfl rfl rfl ?_
  refine fV_iconst (pc' := 599) G dL_law_598 rfl ?_
  refine fV_iadd (pc' := 600) G dL_law_599 rfl ?_
  refine fV_sld (q := i + 1) (v := y1) (pc' := 601) G hXS hbl hbA (by omega) (by omega) hy1 dL_law_600 rfl ?_
  refine fV_aload_n (pc' := 602) G 0 dL_law_601 rfl rfl rfl ?_
  refine fV_iload_n (pc' := 603) G 3 dL_law_602 rfl rfl rfl ?_
  refine fV_iconst (pc' := 604) G dL_law_603 rfl ?_
  refine fV_iadd (pc' := 605) G dL_law_604 rfl ?_
  refine fV_sld (q := i + 2) (v := y2) (pc' := 606) G hXS hbl hbA (by omega) (by omega) hy2 dL_law_605 rfl ?_
  refine fV_aload_n (pc' := 607) G 0 dL_law_606 rfl rfl rfl ?_
  refine fV_iload_n (pc' := 608) G 3 dL_law_607 rfl rfl rfl ?_
  refine fV_iconst (pc' := 609) G dL_law_608 rfl ?_
  refine fV_iadd (pc' := 610) G dL_law_609 rfl ?_
  refine fV_sld (q := i + 3) (v := y3) (pc' := 611) G hXS hbl hbA (by omega) (by omega) hy3 dL_law_610 rfl ?_
  refine fV_callV (n := 3) (k := 0) (K := 3) (As := [.int (i32 y1), .int (i32 y2), .int (i32 y3)]) (rest := []) (pc' := 614) G (mX3_where l Γ (by decide) I P (xAll_ok (Sim_all S)) y1 y2 y3 by1 by2 by3) kcL_law_86 (by omega) rfl rfl rfl rfl (Nat.le_of_ble_eq_true rfl) hkc hks dL_law_611 rfl (fun v1 I2 P3 h4 => ?_)
  obtain ⟨hv, eJ, eQ⟩ := h4
  refine fV_st (st' := [.int (i32 (qXWhere I P y1 y2 y3))]) (by rw [hv]; rfl) ?_
  refine fV_mem (I' := I) (P' := P) eJ eQ ?_
  refine fV_aload_n (pc' := 615) G 2 dL_law_614 rfl rfl rfl ?_
  refine fV_aload_n (pc' := 616) G 0 dL_law_615 rfl rfl rfl ?_
  refine fV_iload_n (pc' := 617) G 3 dL_law_616 rfl rfl rfl ?_
  refine fV_iconst (pc' := 618) G dL_law_617 rfl ?_
  refine fV_iadd (pc' := 619) G dL_law_618 rfl ?_
  refine fV_sld (q := i + 1) (v := y1) (pc' := 620) G hXS hbl hbA (by omega) (by omega) hy1 dL_law_619 rfl ?_
  refine fV_aload_n (pc' := 621) G 0 dL_law_620 rfl rfl rfl ?_
  refine fV_iload_n (pc' := 622) G 3 dL_law_621 rfl rfl rfl ?_
  refine fV_iconst (pc' := 623) G dL_law_622 rfl ?_
  refine fV_iadd (pc' := 624) G dL_law_623 rfl ?_
  refine fV_sld (q := i + 2) (v := y2) (pc' := 625) G hXS hbl hbA (by omega) (by omega) hy2 dL_law_624 rfl ?_
  refine fV_aload_n (pc' := 626) G 0 dL_law_625 rfl rfl rfl ?_
  refine fV_iload_n (pc' := 627) G 3 dL_law_626 rfl rfl rfl ?_
  refine fV_iconst (pc' := 628) G dL_law_627 rfl ?_
  refine fV_iadd (pc' := 629) G dL_law_628 rfl ?_
  refine fV_sld (q := i + 3) (v := y3) (pc' := 630) G hXS hbl hbA (by omega) (by omega) hy3 dL_law_629 rfl ?_
  refine fV_callV (n := 3) (k := 214) (K := 4) (As := [.int (i32 y1), .int (i32 y2), .int (i32 y3)]) (rest := [.int (i32 (qXWhere I P y1 y2 y3))]) (pc' := 633) G (mX4_where l Γ (by decide) I P (mOk_of S rfl rfl) y1 y2 y3 by1 by2 by3) kcL_law_89 (by omega) rfl rfl rfl rfl (Nat.le_of_ble_eq_true rfl) hkc hks dL_law_630 rfl (fun v5 I6 P7 h8 => ?_)
  obtain ⟨hv2, eK, eQ2⟩ := h8
  rw [← e_where S.1.1 S.1.2.1 y1 y2 y3] at hv2
  refine fV_st (st' := [.int (i32 (qXWhere I P y1 y2 y3)), .int (i32 (qXWhere I P y1 y2 y3))]) (by rw [hv2]; rfl) ?_
  refine fV_mem (I' := I) (P' := P) eK eQ2 ?_
  have hs := S
  refine fV_icmp_same (tgt := 826) G dL_law_633 (by decide) ?_
  exact next _ _ hs
set_option maxHeartbeats 4000000 in
set_option maxRecDepth 100000 in
theorem lawc_18 {p : Program} {l : Launch} {e : Env} {s : State} {m : MethodId} {b : Nat} {below : List Frame} {meth : Method} {c : Code} {Q : State → Prop} {A : Nat → Prop} {Γ : fG} {kc ks : Nat} {ret : Option FieldType} {L : Nat} {xs : Nat → Int32} (G : fC p s m #[Value.ref b] meth c cL_law RL wsL_law A Γ 220 4 ret) (hXS : va_X b L xs s s.heap) (hbl : b < s.heap.size) (hbA : ¬ A b) (hL : L ≤ 3072) (hkc : kc ≤ room_1.cells) (hks : ks ≤ room_1.slots) {I : fM} {P : fN} (S : Sim I P) {i : Int} (hi : 0 ≤ i ∧ i + 5 < (L : Int)) (next : ∀ (J : fM) (Q2 : fN), Sim J Q2 → fV p l e room_1 s m #[Value.ref b] below meth c Q A Γ 220 4 kc ks J Q2 826 [(0, .ref b), (1, .ref (Γ.1 0)), (2, .ref (Γ.1 214)), (3, .int (i32 i))] []) : fV p l e room_1 s m #[Value.ref b] below meth c Q A Γ 220 4 kc ks I P 638 [(0, .ref b), (1, .ref (Γ.1 0)), (2, .ref (Γ.1 214)), (3, .int (i32 i))] [] := by
  obtain ⟨y1, hy1⟩ : ∃ v : Int, v = (xs (i + 1).toNat).toInt := ⟨_, rfl⟩
  have by1 : -2147483648 ≤ y1 ∧ y1 ≤ 2147483647 := by rw [hy1]; exact i32_r _
  obtain ⟨y2, hy2⟩ : ∃ v : Int, v = (xs (i + 2).toNat).toInt := ⟨_, rfl⟩
  have by2 : -2147483648 ≤ y2 ∧ y2 ≤ 2147483647 := by rw [hy2]; exact i32_r _
  obtain ⟨y3, hy3⟩ : ∃ v : Int, v = (xs (i + 3).toNat).toInt := ⟨_, rfl⟩
  have by3 : -2147483648 ≤ y3 ∧ y3 ≤ 2147483647 := by rw [hy3]; exact i32_r _
  refine fV_aload_n (pc' := 639) G 1 dL_law_638 rfl rfl rfl ?_
  refine fV_aload_n (pc' := 640) G 0 dL_law_639 rfl rfl rfl ?_
  refine fV_iload_n (pc' := 641) G 3 dL_law_640 rfl rfl rfl ?_
  refine fV_iconst (pc' := 642) G dL_law_641 rfl ?_
  refine fV_iadd (pc' := 643) G dL_law_642 rfl ?_
  refine fV_sld (q := i + 1) (v := y1) (pc' := 644) G hXS hbl hbA (by omega) (by omega) hy1 dL_law_643 rfl ?_
  refine fV_aload_n (pc' := 645) G 0 dL_law_644 rfl rfl rfl ?_
  refine fV_iload_n (pc' := 646) G 3 dL_law_645 rfl rfl rfl ?_
  refine fV_iconst (pc' := 647) G dL_law_646 rfl ?_
  refine fV_iadd (pc' := 648) G dL_law_647 rfl ?_
  refine fV_sld (q := i + 2) (v := y2) (pc' := 649) G hXS hbl hbA (by omega) (by omega) hy2 dL_law_648 rfl ?_
  refine fV_aload_n (pc' := 650) G 0 dL_law_649 rfl rfl rfl ?_
  refine fV_iload_n (pc' := 651) G 3 dL_law_650 rfl rfl rfl ?_
  refine fV_iconst (pc' := 652) G dL_law_651 rfl ?_
  refine fV_iadd (pc' := 653) G dL_law_652 rfl ?_
  refine fV_sld (q := i + 3) (v := y3) (pc' := 654) G hXS hbl hbA (by omega) (by omega) hy3 dL_law_653 rfl ?_
  refine fV_callV (n := 3) (k := 0) (K := 3) (As := [.int (i32 y1), .int (i32 y2), .int (i32 y3)]) (rest := []) (pc' := 657) G (mX3_written l Γ (by decide) I P (xAll_ok (Sim_all S)) y1 y2 y3 by1 by2 by3) kcL_law_90 (by omega) rfl rfl rfl rfl (Nat.le_of_ble_eq_true rfl) hkc hks dL_law_654 rfl (fun v1 I2 P3 h4 => ?_)
  obtain ⟨hv, eJ, eQ⟩ := h4
  refine fV_st (st' := [.int (i32 (qXWritten I P y1 y2 y3))]) (by rw [hv]; rfl) ?_
  refine fV_mem (I' := I) (P' := P) eJ eQ ?_
  refine fV_aload_n (pc' := 658) G 2 dL_law_657 rfl rfl rfl ?_
  refine fV_aload_n (pc' := 659) G 0 dL_law_658 rfl rfl rfl ?_
  refine fV_iload_n (pc' := 660) G 3 dL_law_659 rfl rfl rfl ?_
  refine fV_iconst (pc' := 661) G dL_law_660 rfl ?_
  refine fV_iadd (pc' := 662) G dL_law_661 rfl ?_
  refine fV_sld (q := i + 1) (v := y1) (pc' := 663) G hXS hbl hbA (by omega) (by omega) hy1 dL_law_662 rfl ?_
  refine fV_aload_n (pc' := 664) G 0 dL_law_663 rfl rfl rfl ?_
  refine fV_iload_n (pc' := 665) G 3 dL_law_664 rfl rfl rfl ?_
  refine fV_iconst (pc' := 666) G dL_law_665 rfl ?_
  refine fV_iadd (pc' := 667) G dL_law_666 rfl ?_
  refine fV_sld (q := i + 2) (v := y2) (pc' := 668) G hXS hbl hbA (by omega) (by omega) hy2 dL_law_667 rfl ?_
  refine fV_aload_n (pc' := 669) G 0 dL_law_668 rfl rfl rfl ?_
  refine fV_iload_n (pc' := 670) G 3 dL_law_669 rfl rfl rfl ?_
  refine fV_iconst (pc' := 671) G dL_law_670 rfl ?_
  refine fV_iadd (pc' := 672) G dL_law_671 rfl ?_
  refine fV_sld (q := i + 3) (v := y3) (pc' := 673) G hXS hbl hbA (by omega) (by omega) hy3 dL_law_672 rfl ?_
  refine fV_callV (n := 3) (k := 214) (K := 4) (As := [.int (i32 y1), .int (i32 y2), .int (i32 y3)]) (rest := [.int (i32 (qXWritten I P y1 y2 y3))]) (pc' := 676) G (mX4_written l Γ (by decide) I P (mOk_of S rfl rfl) y1 y2 y3 by1 by2 by3) kcL_law_93 (by omega) rfl rfl rfl rfl (Nat.le_of_ble_eq_true rfl) hkc hks dL_law_673 rfl (fun v5 I6 P7 h8 => ?_)
  obtain ⟨hv2, eK, eQ2⟩ := h8
  rw [← e_written S.1.1 S.1.2.1 y1 y2 y3] at hv2
  refine fV_st (st' := [.int (i32 (qXWritten I P y1 y2 y3)), .int (i32 (qXWritten I P y1 y2 y3))]) (by rw [hv2]; rfl) ?_
  refine fV_mem (I' := I) (P' := P) eK eQ2 ?_
  have hs := S
  refine fV_icmp_same (tgt := 826) G dL_law_676 (by decide) ?_
  exact next _ _ hs
set_option maxHeartbeats 4000000 in
set_option maxRecDepth 100000 in
theorem lawc_19 {p : Program} {l : Launch} {e : Env} {s : State} {m : MethodId} {b : Nat} {below : List Frame} {meth : Method} {c : Code} {Q : State → Prop} {A : Nat → Prop} {Γ : fG} {kc ks : Nat} {ret : Option FieldType} {L : Nat} {xs : Nat → Int32} (G : fC p s m #[Value.ref b] meth c cL_law RL wsL_law A Γ 220 4 ret) (hXS : va_X b L xs s s.heap) (hbl : b < s.heap.size) (hbA : ¬ A b) (hL : L ≤ 3072) (hkc : kc ≤ room_1.cells) (hks : ks ≤ room_1.slots) {I : fM} {P : fN} (S : Sim I P) {i : Int} (hi : 0 ≤ i ∧ i + 5 < (L : Int)) (next : ∀ (J : fM) (Q2 : fN), Sim J Q2 → fV p l e room_1 s m #[Value.ref b] below meth c Q A Γ 220 4 kc ks J Q2 826 [(0, .ref b), (1, .ref (Γ.1 0)), (2, .ref (Γ.1 214)), (3, .int (i32 i))] []) : fV p l e room_1 s m #[Value.ref b] below meth c Q A Γ 220 4 kc ks I P 681 [(0, .ref b), (1, .ref (Γ.1 0)), (2, .ref (Γ.1 214)), (3, .int (i32 i))] [] := by
  obtain ⟨y1, hy1⟩ : ∃ v : Int, v = (xs (i + 1).toNat).toInt := ⟨_, rfl⟩
  have by1 : -2147483648 ≤ y1 ∧ y1 ≤ 2147483647 := by rw [hy1]; exact i32_r _
  refine fV_aload_n (pc' := 682) G 1 dL_law_681 rfl rfl rfl ?_
  refine fV_aload_n (pc' := 683) G 0 dL_law_682 rfl rfl rfl ?_
  refine fV_iload_n (pc' := 684) G 3 dL_law_683 rfl rfl rfl ?_
  refine fV_iconst (pc' := 685) G dL_law_684 rfl ?_
  refine fV_iadd (pc' := 686) G dL_law_685 rfl ?_
  refine fV_sld (q := i + 1) (v := y1) (pc' := 687) G hXS hbl hbA (by omega) (by omega) hy1 dL_law_686 rfl ?_
  refine fV_callV (n := 1) (k := 0) (K := 3) (As := [.int (i32 y1)]) (rest := []) (pc' := 690) G (mX3_onScreen l Γ (by decide) I P (xAll_ok (Sim_all S)) y1 by1) kcL_law_94 (by omega) rfl rfl rfl rfl (Nat.le_of_ble_eq_true rfl) hkc hks dL_law_687 rfl (fun v1 I2 P3 h4 => ?_)
  obtain ⟨hv, eJ, eQ⟩ := h4
  refine fV_st (st' := [.int ((qXOnScreen I P y1))]) (by rw [hv]; rfl) ?_
  refine fV_mem (I' := I) (P' := P) eJ eQ ?_
  refine fV_aload_n (pc' := 691) G 2 dL_law_690 rfl rfl rfl ?_
  refine fV_aload_n (pc' := 692) G 0 dL_law_691 rfl rfl rfl ?_
  refine fV_iload_n (pc' := 693) G 3 dL_law_692 rfl rfl rfl ?_
  refine fV_iconst (pc' := 694) G dL_law_693 rfl ?_
  refine fV_iadd (pc' := 695) G dL_law_694 rfl ?_
  refine fV_sld (q := i + 1) (v := y1) (pc' := 696) G hXS hbl hbA (by omega) (by omega) hy1 dL_law_695 rfl ?_
  refine fV_callV (n := 1) (k := 214) (K := 4) (As := [.int (i32 y1)]) (rest := [.int ((qXOnScreen I P y1))]) (pc' := 699) G (mX4_onScreen l Γ (by decide) I P (mOk_of S rfl rfl) y1 by1) kcL_law_97 (by omega) rfl rfl rfl rfl (Nat.le_of_ble_eq_true rfl) hkc hks dL_law_696 rfl (fun v5 I6 P7 h8 => ?_)
  obtain ⟨hv2, eK, eQ2⟩ := h8
  rw [← e_onScreen S.1.1 S.1.2.1 y1] at hv2
  refine fV_st (st' := [.int ((qXOnScreen I P y1)), .int ((qXOnScreen I P y1))]) (by rw [hv2]; rfl) ?_
  refine fV_mem (I' := I) (P' := P) eK eQ2 ?_
  have hs := S
  refine fV_icmp_same (tgt := 826) G dL_law_699 (by decide) ?_
  exact next _ _ hs
set_option maxHeartbeats 4000000 in
set_option maxRecDepth 100000 in
theorem lawc_20 {p : Program} {l : Launch} {e : Env} {s : State} {m : MethodId} {b : Nat} {below : List Frame} {meth : Method} {c : Code} {Q : State → Prop} {A : Nat → Prop} {Γ : fG} {kc ks : Nat} {ret : Option FieldType} {L : Nat} {xs : Nat → Int32} (G : fC p s m #[Value.ref b] meth c cL_law RL wsL_law A Γ 220 4 ret) (hXS : va_X b L xs s s.heap) (hbl : b < s.heap.size) (hbA : ¬ A b) (hL : L ≤ 3072) (hkc : kc ≤ room_1.cells) (hks : ks ≤ room_1.slots) {I : fM} {P : fN} (S : Sim I P) {i : Int} (hi : 0 ≤ i ∧ i + 5 < (L : Int)) (next : ∀ (J : fM) (Q2 : fN), Sim J Q2 → fV p l e room_1 s m #[Value.ref b] below meth c Q A Γ 220 4 kc ks J Q2 826 [(0, .ref b), (1, .ref (Γ.1 0)), (2, .ref (Γ.1 214)), (3, .int (i32 i))] []) : fV p l e room_1 s m #[Value.ref b] below meth c Q A Γ 220 4 kc ks I P 704 [(0, .ref b), (1, .ref (Γ.1 0)), (2, .ref (Γ.1 214)), (3, .int (i32 i))] [] := by
  obtain ⟨y1, hy1⟩ : ∃ v : Int, v = (xs (i + 1).toNat).toInt := ⟨_, rfl⟩
  have by1 : -2147483648 ≤ y1 ∧ y1 ≤ 2147483647 := by rw [hy1]; exact i32_r _
  obtain ⟨y2, hy2⟩ : ∃ v : Int, v = (xs (i + 2).toNat).toInt := ⟨_, rfl⟩
  have by2 : -2147483648 ≤ y2 ∧ y2 ≤ 2147483647 := by rw [hy2]; exact i32_r _
  refine fV_aload_n (pc' := 705) G 1 dL_law_704 rfl rfl rfl ?_
  refine fV_aload_n (pc' := 706) G 0 dL_law_705 rfl rfl rfl ?_
  refine fV_iload_n (pc' := 707) G 3 dL_law_706 rfl rfl rfl ?_
  refine fV_iconst (pc' := 708) G dL_law_707 rfl ?_
  refine fV_iadd (pc' := 709) G dL_law_708 rfl ?_
  refine fV_sld (q := i + 1) (v := y1) (pc' := 710) G hXS hbl hbA (by omega) (by omega) hy1 dL_law_709 rfl ?_
  refine fV_aload_n (pc' := 711) G 0 dL_law_710 rfl rfl rfl ?_
  refine fV_iload_n (pc' := 712) G 3 dL_law_711 rfl rfl rfl ?_
  refine fV_iconst (pc' := 713) G dL_law_712 rfl ?_
  refine fV_iadd (pc' := 714) G dL_law_713 rfl ?_
  refine fV_sld (q := i + 2) (v := y2) (pc' := 715) G hXS hbl hbA (by omega) (by omega) hy2 dL_law_714 rfl ?_
  refine fV_callV (n := 2) (k := 0) (K := 3) (As := [.int (i32 y1), .int (i32 y2)]) (rest := []) (pc' := 718) G (mX3_meeting l Γ (by decide) I P (xAll_ok (Sim_all S)) y1 y2 by1 by2) kcL_law_98 (by omega) rfl rfl rfl rfl (Nat.le_of_ble_eq_true rfl) hkc hks dL_law_715 rfl (fun v1 I2 P3 h4 => ?_)
  obtain ⟨hv, eJ, eQ⟩ := h4
  refine fV_st (st' := [.int (i32 (qXMeeting I P y1 y2))]) (by rw [hv]; rfl) ?_
  refine fV_mem (I' := I) (P' := P) eJ eQ ?_
  refine fV_aload_n (pc' := 719) G 2 dL_law_718 rfl rfl rfl ?_
  refine fV_aload_n (pc' := 720) G 0 dL_law_719 rfl rfl rfl ?_
  refine fV_iload_n (pc' := 721) G 3 dL_law_720 rfl rfl rfl ?_
  refine fV_iconst (pc' := 722) G dL_law_721 rfl ?_
  refine fV_iadd (pc' := 723) G dL_law_722 rfl ?_
  refine fV_sld (q := i + 1) (v := y1) (pc' := 724) G hXS hbl hbA (by omega) (by omega) hy1 dL_law_723 rfl ?_
  refine fV_aload_n (pc' := 725) G 0 dL_law_724 rfl rfl rfl ?_
  refine fV_iload_n (pc' := 726) G 3 dL_law_725 rfl rfl rfl ?_
  refine fV_iconst (pc' := 727) G dL_law_726 rfl ?_
  refine fV_iadd (pc' := 728) G dL_law_727 rfl ?_
  refine fV_sld (q := i + 2) (v := y2) (pc' := 729) G hXS hbl hbA (by omega) (by omega) hy2 dL_law_728 rfl ?_
  refine fV_callV (n := 2) (k := 214) (K := 4) (As := [.int (i32 y1), .int (i32 y2)]) (rest := [.int (i32 (qXMeeting I P y1 y2))]) (pc' := 732) G (mX4_meeting l Γ (by decide) I P (mOk_of S rfl rfl) y1 y2 by1 by2) kcL_law_101 (by omega) rfl rfl rfl rfl (Nat.le_of_ble_eq_true rfl) hkc hks dL_law_729 rfl (fun v5 I6 P7 h8 => ?_)
  obtain ⟨hv2, eK, eQ2⟩ := h8
  rw [← e_meeting S.1.1 S.1.2.1 y1 y2] at hv2
  refine fV_st (st' := [.int (i32 (qXMeeting I P y1 y2)), .int (i32 (qXMeeting I P y1 y2))]) (by rw [hv2]; rfl) ?_
  refine fV_mem (I' := I) (P' := P) eK eQ2 ?_
  have hs := S
  refine fV_icmp_same (tgt := 826) G dL_law_732 (by decide) ?_
  exact next _ _ hs
set_option maxHeartbeats 4000000 in
set_option maxRecDepth 100000 in
theorem lawc_21 {p : Program} {l : Launch} {e : Env} {s : State} {m : MethodId} {b : Nat} {below : List Frame} {meth : Method} {c : Code} {Q : State → Prop} {A : Nat → Prop} {Γ : fG} {kc ks : Nat} {ret : Option FieldType} {L : Nat} {xs : Nat → Int32} (G : fC p s m #[Value.ref b] meth c cL_law RL wsL_law A Γ 220 4 ret) (hXS : va_X b L xs s s.heap) (hbl : b < s.heap.size) (hbA : ¬ A b) (hL : L ≤ 3072) (hkc : kc ≤ room_1.cells) (hks : ks ≤ room_1.slots) {I : fM} {P : fN} (S : Sim I P) {i : Int} (hi : 0 ≤ i ∧ i + 5 < (L : Int)) (next : ∀ (J : fM) (Q2 : fN), Sim J Q2 → fV p l e room_1 s m #[Value.ref b] below meth c Q A Γ 220 4 kc ks J Q2 826 [(0, .ref b), (1, .ref (Γ.1 0)), (2, .ref (Γ.1 214)), (3, .int (i32 i))] []) : fV p l e room_1 s m #[Value.ref b] below meth c Q A Γ 220 4 kc ks I P 737 [(0, .ref b), (1, .ref (Γ.1 0)), (2, .ref (Γ.1 214)), (3, .int (i32 i))] [] := by
  obtain ⟨y1, hy1⟩ : ∃ v : Int, v = (xs (i + 1).toNat).toInt := ⟨_, rfl⟩
  have by1 : -2147483648 ≤ y1 ∧ y1 ≤ 2147483647 := by rw [hy1]; exact i32_r _
  refine fV_aload_n (pc' := 738) G 1 dL_law_737 rfl rfl rfl ?_
  refine fV_aload_n (pc' := 739) G 0 dL_law_738 rfl rfl rfl ?_
  refine fV_iload_n (pc' := 740) G 3 dL_law_739 rfl rfl rfl ?_
  refine fV_iconst (pc' := 741) G dL_law_740 rfl ?_
  refine fV_iadd (pc' := 742) G dL_law_741 rfl ?_
  refine fV_sld (q := i + 1) (v := y1) (pc' := 743) G hXS hbl hbA (by omega) (by omega) hy1 dL_law_742 rfl ?_
  refine fV_callV (n := 1) (k := 0) (K := 3) (As := [.int (i32 y1)]) (rest := []) (pc' := 746) G (mX3_pace l Γ (by decide) I P (xAll_ok (Sim_all S)) y1 by1) kcL_law_102 (by omega) rfl rfl rfl rfl (Nat.le_of_ble_eq_true rfl) hkc hks dL_law_743 rfl (fun v1 I2 P3 h4 => ?_)
  obtain ⟨hv, eJ, eQ⟩ := h4
  refine fV_st (st' := [.int (i32 (qXPace I P y1))]) (by rw [hv]; rfl) ?_
  refine fV_mem (I' := I) (P' := P) eJ eQ ?_
  refine fV_aload_n (pc' := 747) G 2 dL_law_746 rfl rfl rfl ?_
  refine fV_aload_n (pc' := 748) G 0 dL_law_747 rfl rfl rfl ?_
  refine fV_iload_n (pc' := 749) G 3 dL_law_748 rfl rfl rfl ?_
  refine fV_iconst (pc' := 750) G dL_law_749 rfl ?_
  refine fV_iadd (pc' := 751) G dL_law_750 rfl ?_
  refine fV_sld (q := i + 1) (v := y1) (pc' := 752) G hXS hbl hbA (by omega) (by omega) hy1 dL_law_751 rfl ?_
  refine fV_callV (n := 1) (k := 214) (K := 4) (As := [.int (i32 y1)]) (rest := [.int (i32 (qXPace I P y1))]) (pc' := 755) G (mX4_pace l Γ (by decide) I P (mOk_of S rfl rfl) y1 by1) kcL_law_105 (by omega) rfl rfl rfl rfl (Nat.le_of_ble_eq_true rfl) hkc hks dL_law_752 rfl (fun v5 I6 P7 h8 => ?_)
  obtain ⟨hv2, eK, eQ2⟩ := h8
  rw [← e_pace S.1.1 S.1.2.1 y1] at hv2
  refine fV_st (st' := [.int (i32 (qXPace I P y1)), .int (i32 (qXPace I P y1))]) (by rw [hv2]; rfl) ?_
  refine fV_mem (I' := I) (P' := P) eK eQ2 ?_
  have hs := S
  refine fV_icmp_same (tgt := 826) G dL_law_755 (by decide) ?_
  exact next _ _ hs
set_option maxHeartbeats 4000000 in
set_option maxRecDepth 100000 in
theorem lawc_22 {p : Program} {l : Launch} {e : Env} {s : State} {m : MethodId} {b : Nat} {below : List Frame} {meth : Method} {c : Code} {Q : State → Prop} {A : Nat → Prop} {Γ : fG} {kc ks : Nat} {ret : Option FieldType} {L : Nat} {xs : Nat → Int32} (G : fC p s m #[Value.ref b] meth c cL_law RL wsL_law A Γ 220 4 ret) (hXS : va_X b L xs s s.heap) (hbl : b < s.heap.size) (hbA : ¬ A b) (hL : L ≤ 3072) (hkc : kc ≤ room_1.cells) (hks : ks ≤ room_1.slots) {I : fM} {P : fN} (S : Sim I P) {i : Int} (hi : 0 ≤ i ∧ i + 5 < (L : Int)) (next : ∀ (J : fM) (Q2 : fN), Sim J Q2 → fV p l e room_1 s m #[Value.ref b] below meth c Q A Γ 220 4 kc ks J Q2 826 [(0, .ref b), (1, .ref (Γ.1 0)), (2, .ref (Γ.1 214)), (3, .int (i32 i))] []) : fV p l e room_1 s m #[Value.ref b] below meth c Q A Γ 220 4 kc ks I P 760 [(0, .ref b), (1, .ref (Γ.1 0)), (2, .ref (Γ.1 214)), (3, .int (i32 i))] [] := by
  obtain ⟨y1, hy1⟩ : ∃ v : Int, v = (xs (i + 1).toNat).toInt := ⟨_, rfl⟩
  have by1 : -2147483648 ≤ y1 ∧ y1 ≤ 2147483647 := by rw [hy1]; exact i32_r _
  obtain ⟨y2, hy2⟩ : ∃ v : Int, v = (xs (i + 2).toNat).toInt := ⟨_, rfl⟩
  have by2 : -2147483648 ≤ y2 ∧ y2 ≤ 2147483647 := by rw [hy2]; exact i32_r _
  obtain ⟨y3, hy3⟩ : ∃ v : Int, v = (xs (i + 3).toNat).toInt := ⟨_, rfl⟩
  have by3 : -2147483648 ≤ y3 ∧ y3 ≤ 2147483647 := by rw [hy3]; exact i32_r _
  refine fV_aload_n (pc' := 761) G 1 dL_law_760 rfl rfl rfl ?_
  refine fV_aload_n (pc' := 762) G 0 dL_law_761 rfl rfl rfl ?_
  refine fV_iload_n (pc' := 763) G 3 dL_law_762 rfl rfl rfl ?_
  refine fV_iconst (pc' := 764) G dL_law_763 rfl ?_
  refine fV_iadd (pc' := 765) G dL_law_764 rfl ?_
  refine fV_sld (q := i + 1) (v := y1) (pc' := 766) G hXS hbl hbA (by omega) (by omega) hy1 dL_law_765 rfl ?_
  refine fV_aload_n (pc' := 767) G 0 dL_law_766 rfl rfl rfl ?_
  refine fV_iload_n (pc' := 768) G 3 dL_law_767 rfl rfl rfl ?_
  refine fV_iconst (pc' := 769) G dL_law_768 rfl ?_
  refine fV_iadd (pc' := 770) G dL_law_769 rfl ?_
  refine fV_sld (q := i + 2) (v := y2) (pc' := 771) G hXS hbl hbA (by omega) (by omega) hy2 dL_law_770 rfl ?_
  refine fV_aload_n (pc' := 772) G 0 dL_law_771 rfl rfl rfl ?_
  refine fV_iload_n (pc' := 773) G 3 dL_law_772 rfl rfl rfl ?_
  refine fV_iconst (pc' := 774) G dL_law_773 rfl ?_
  refine fV_iadd (pc' := 775) G dL_law_774 rfl ?_
  refine fV_sld (q := i + 3) (v := y3) (pc' := 776) G hXS hbl hbA (by omega) (by omega) hy3 dL_law_775 rfl ?_
  refine fV_callV (n := 3) (k := 0) (K := 3) (As := [.int (i32 y1), .int (i32 y2), .int (i32 y3)]) (rest := []) (pc' := 779) G (mX3_earliest l Γ (by decide) I P (Sim_all S) y1 y2 y3 by1 by2 by3) kcL_law_106 (by omega) rfl rfl rfl rfl (Nat.le_of_ble_eq_true rfl) hkc hks dL_law_776 rfl (fun v1 I2 P3 h4 => ?_)
  have hv := h4.1
  obtain ⟨hm, hk⟩ := st_ear S h4
  refine fV_st (st' := [.int (i32 (qXEar I P y1 y2 y3))]) (by rw [hv]; rfl) ?_
  refine fV_aload_n (pc' := 780) G 2 dL_law_779 rfl rfl rfl ?_
  refine fV_aload_n (pc' := 781) G 0 dL_law_780 rfl rfl rfl ?_
  refine fV_iload_n (pc' := 782) G 3 dL_law_781 rfl rfl rfl ?_
  refine fV_iconst (pc' := 783) G dL_law_782 rfl ?_
  refine fV_iadd (pc' := 784) G dL_law_783 rfl ?_
  refine fV_sld (q := i + 1) (v := y1) (pc' := 785) G hXS hbl hbA (by omega) (by omega) hy1 dL_law_784 rfl ?_
  refine fV_aload_n (pc' := 786) G 0 dL_law_785 rfl rfl rfl ?_
  refine fV_iload_n (pc' := 787) G 3 dL_law_786 rfl rfl rfl ?_
  refine fV_iconst (pc' := 788) G dL_law_787 rfl ?_
  refine fV_iadd (pc' := 789) G dL_law_788 rfl ?_
  refine fV_sld (q := i + 2) (v := y2) (pc' := 790) G hXS hbl hbA (by omega) (by omega) hy2 dL_law_789 rfl ?_
  refine fV_aload_n (pc' := 791) G 0 dL_law_790 rfl rfl rfl ?_
  refine fV_iload_n (pc' := 792) G 3 dL_law_791 rfl rfl rfl ?_
  refine fV_iconst (pc' := 793) G dL_law_792 rfl ?_
  refine fV_iadd (pc' := 794) G dL_law_793 rfl ?_
  refine fV_sld (q := i + 3) (v := y3) (pc' := 795) G hXS hbl hbA (by omega) (by omega) hy3 dL_law_794 rfl ?_
  refine fV_callV (n := 3) (k := 214) (K := 4) (As := [.int (i32 y1), .int (i32 y2), .int (i32 y3)]) (rest := [.int (i32 (qXEar I P y1 y2 y3))]) (pc' := 798) G (mX4_earliest l Γ (by decide) I2 P3 hm y1 y2 y3 by1 by2 by3) kcL_law_109 (by omega) rfl rfl rfl rfl (Nat.le_of_ble_eq_true rfl) hkc hks dL_law_795 rfl (fun v5 I6 P7 h8 => ?_)
  obtain ⟨hvv, hs⟩ := hk _ _ _ h8
  rw [hv] at hvv
  refine fV_st (st' := [.int (i32 (qXEar I P y1 y2 y3)), .int (i32 (qXEar I P y1 y2 y3))]) (by rw [← hvv]; rfl) ?_
  refine fV_icmp_same (tgt := 826) G dL_law_798 (by decide) ?_
  exact next _ _ hs
set_option maxHeartbeats 4000000 in
set_option maxRecDepth 100000 in
theorem lawc_23 {p : Program} {l : Launch} {e : Env} {s : State} {m : MethodId} {b : Nat} {below : List Frame} {meth : Method} {c : Code} {Q : State → Prop} {A : Nat → Prop} {Γ : fG} {kc ks : Nat} {ret : Option FieldType} {L : Nat} {xs : Nat → Int32} (G : fC p s m #[Value.ref b] meth c cL_law RL wsL_law A Γ 220 4 ret) (hXS : va_X b L xs s s.heap) (hbl : b < s.heap.size) (hbA : ¬ A b) (hL : L ≤ 3072) (hkc : kc ≤ room_1.cells) (hks : ks ≤ room_1.slots) {I : fM} {P : fN} (S : Sim I P) {i : Int} (hi : 0 ≤ i ∧ i + 5 < (L : Int)) (next : ∀ (J : fM) (Q2 : fN), Sim J Q2 → fV p l e room_1 s m #[Value.ref b] below meth c Q A Γ 220 4 kc ks J Q2 826 [(0, .ref b), (1, .ref (Γ.1 0)), (2, .ref (Γ.1 214)), (3, .int (i32 i))] []) : fV p l e room_1 s m #[Value.ref b] below meth c Q A Γ 220 4 kc ks I P 803 [(0, .ref b), (1, .ref (Γ.1 0)), (2, .ref (Γ.1 214)), (3, .int (i32 i))] [] := by
  obtain ⟨y1, hy1⟩ : ∃ v : Int, v = (xs (i + 1).toNat).toInt := ⟨_, rfl⟩
  have by1 : -2147483648 ≤ y1 ∧ y1 ≤ 2147483647 := by rw [hy1]; exact i32_r _
  refine fV_aload_n (pc' := 804) G 1 dL_law_803 rfl rfl rfl ?_
  refine fV_aload_n (pc' := 805) G 0 dL_law_804 rfl rfl rfl ?_
  refine fV_iload_n (pc' := 806) G 3 dL_law_805 rfl rfl rfl ?_
  refine fV_iconst (pc' := 807) G dL_law_806 rfl ?_
  refine fV_iadd (pc' := 808) G dL_law_807 rfl ?_
  refine fV_sld (q := i + 1) (v := y1) (pc' := 809) G hXS hbl hbA (by omega) (by omega) hy1 dL_law_808 rfl ?_
  refine fV_callV (n := 1) (k := 0) (K := 3) (As := [.int (i32 y1)]) (rest := []) (pc' := 812) G (mX3_filled l Γ (by decide) I P (Sim_all S) y1 by1) kcL_law_110 (by omega) rfl rfl rfl rfl (Nat.le_of_ble_eq_true rfl) hkc hks dL_law_809 rfl (fun v1 I2 P3 h4 => ?_)
  obtain ⟨hv, eJ, eQ⟩ := h4
  refine fV_st (st' := [.int (i32 (qXFilled I P y1))]) (by rw [hv]; rfl) ?_
  refine fV_mem (I' := I) (P' := P) eJ eQ ?_
  refine fV_aload_n (pc' := 813) G 2 dL_law_812 rfl rfl rfl ?_
  refine fV_aload_n (pc' := 814) G 0 dL_law_813 rfl rfl rfl ?_
  refine fV_iload_n (pc' := 815) G 3 dL_law_814 rfl rfl rfl ?_
  refine fV_iconst (pc' := 816) G dL_law_815 rfl ?_
  refine fV_iadd (pc' := 817) G dL_law_816 rfl ?_
  refine fV_sld (q := i + 1) (v := y1) (pc' := 818) G hXS hbl hbA (by omega) (by omega) hy1 dL_law_817 rfl ?_
  refine fV_callV (n := 1) (k := 214) (K := 4) (As := [.int (i32 y1)]) (rest := [.int (i32 (qXFilled I P y1))]) (pc' := 821) G (mX4_filled l Γ (by decide) I P (mOk_of S rfl rfl) y1 by1) kcL_law_113 (by omega) rfl rfl rfl rfl (Nat.le_of_ble_eq_true rfl) hkc hks dL_law_818 rfl (fun v5 I6 P7 h8 => ?_)
  obtain ⟨hv2, eK, eQ2⟩ := h8
  rw [← e_filled S.1.1 S.1.2.1 y1] at hv2
  refine fV_st (st' := [.int (i32 (qXFilled I P y1)), .int (i32 (qXFilled I P y1))]) (by rw [hv2]; rfl) ?_
  refine fV_mem (I' := I) (P' := P) eK eQ2 ?_
  have hs := S
  refine fV_icmp_same (tgt := 826) G dL_law_821 (by decide) ?_
  exact next _ _ hs
