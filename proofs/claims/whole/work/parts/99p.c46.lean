/-! the law's cases -/
abbrev lwL (sb : Nat) (R : cR) (rm ro : Nat → Nat) (i : Nat) : List (Nat × Value) := [(0, .ref sb), (1, .ref (R.1 0)), (2, .ref (rm 0)), (3, .ref (ro 0)), (4, .int (nI i))]
theorem tw_L37 : Cond.constantLong "LiveQueriesLaw" 37 4294967295 ∈ lw_tb := tb 1166 (by decide +kernel) (by decide +kernel)
set_option maxRecDepth 100000 in
theorem lc_object {X : zT} {l : Launch} {E : zE} {R : cR} {ro rm : Nat → Nat} {k n sb L i : Nat} {xs : Nat → Int32} {c : cS} {f SM : zS} (hl : l.stackTraces = false) (F : zF X l room_1 E cL_law 8 "LiveQueriesLaw") (hZ : zX X) (hs : scr X sb L xs) (hi : i + 5 ≤ L) (hL : L < 2 ^ 31) (hk : k + 1 ≤ 601024) (hn : n + 6 ≤ 7293034) (h : RELx c SM) (K : ∀ (c' : cS) (f' SM' : zS), RELx c' SM' → Z X (k + 1) (n + 6) (lwW E R ro rm c' f' SM') (lwL sb R rm ro i) 872 []) : Z X k n (lwW E R ro rm c f SM) (lwL sb R rm ro i) 112 [] := by
  have hc0 : k + 0 ≤ room_1.cells ∧ n + 0 ≤ room_1.slots := ⟨Nat.le_trans (Nat.le_succ k) hk, Nat.le_trans (Nat.le_add_right n 6) hn⟩
  have hcx : k + 1 ≤ room_1.cells ∧ n + 6 ≤ room_1.slots := ⟨hk, hn⟩
  have hc1 : k + 1 + 0 ≤ room_1.cells ∧ n + 6 + 0 ≤ room_1.slots := ⟨hk, hn⟩
  refine z_aload_n (pc := 112) F dL_law_112 rfl 1 rfl ?_
  refine z_aload_n (pc := 113) F dL_law_113 rfl 0 rfl ?_
  refine z_iload (pc := 114) F dL_law_114 4 rfl ?_
  refine z_iconst (pc := 116) (v := 1) F dL_law_116 (by decide) ?_
  refine z_iadd (pc := 117) F dL_law_117 ?_
  refine z_sld (pc := 118) F hs (i + 1) (nI_add i 1) (by omega) hL dL_law_118 ?_
  obtain ⟨a, P, Q, h7, h8, hr⟩ := t_object (l := l) (E := E) (R := R) (rm := rm) h ((xs (i + 1)))
  obtain ⟨fc, hfc⟩ := cW_0 E R c
  obtain ⟨fm, hfm⟩ := mw_0 E rm SM
  refine z_callVF (pc := 119) (q0 := 0) (ci := 7) (wr := ow E ro f ++ mw E rm SM) (rest := []) F h7 1 ww_Law_32 (by decide +kernel) rfl ⟨by decide, by decide⟩ hc0 hfc rfl rfl rfl (Nat.le_of_ble_eq_true rfl) dL_law_119 (fun v_ w1_ hp => ?_)
  obtain ⟨rfl, c1, rfl, h1⟩ := hp
  refine z_aload_n (pc := 122) F dL_law_122 rfl 2 rfl ?_
  refine z_aload_n (pc := 123) F dL_law_123 rfl 0 rfl ?_
  refine z_iload (pc := 124) F dL_law_124 4 rfl ?_
  refine z_iconst (pc := 126) (v := 1) F dL_law_126 (by decide) ?_
  refine z_iadd (pc := 127) F dL_law_127 ?_
  refine z_sld (pc := 128) F hs (i + 1) (nI_add i 1) (by omega) hL dL_law_128 ?_
  refine z_callVM (pc := 129) (wa := cW E R c1) (wb := ow E ro f) (q0 := 0) (ci := 8) (rest := [.int a]) F h8 1 ww_Law_36 (by decide +kernel) rfl ⟨by decide, by decide⟩ hc0 hfm rfl rfl rfl (Nat.le_of_ble_eq_true rfl) dL_law_129 (fun v_ w1_ hp => ?_)
  obtain ⟨rfl, S1, rfl, h2⟩ := hp
  refine z_icmp_eq (pc := 132) (tgt := 872) F dL_law_132 (by decide) (fun _ => ?_) (fun e_ => absurd rfl e_)
  refine z_widen (k' := k + 1) (n' := n + 6) (Nat.le_succ k) (Nat.le_add_right n 6) ?_
  exact K _ _ _ (hr _ _ h1 h2)
set_option maxRecDepth 100000 in
theorem lc_put {X : zT} {l : Launch} {E : zE} {R : cR} {ro rm : Nat → Nat} {k n sb L i : Nat} {xs : Nat → Int32} {c : cS} {f SM : zS} (hl : l.stackTraces = false) (F : zF X l room_1 E cL_law 8 "LiveQueriesLaw") (hZ : zX X) (hs : scr X sb L xs) (hi : i + 5 ≤ L) (hL : L < 2 ^ 31) (hk : k + 1 ≤ 601024) (hn : n + 6 ≤ 7293034) (h : RELx c SM) (K : ∀ (c' : cS) (f' SM' : zS), RELx c' SM' → Z X (k + 1) (n + 6) (lwW E R ro rm c' f' SM') (lwL sb R rm ro i) 872 []) : Z X k n (lwW E R ro rm c f SM) (lwL sb R rm ro i) 137 [] := by
  have hc0 : k + 0 ≤ room_1.cells ∧ n + 0 ≤ room_1.slots := ⟨Nat.le_trans (Nat.le_succ k) hk, Nat.le_trans (Nat.le_add_right n 6) hn⟩
  have hcx : k + 1 ≤ room_1.cells ∧ n + 6 ≤ room_1.slots := ⟨hk, hn⟩
  have hc1 : k + 1 + 0 ≤ room_1.cells ∧ n + 6 + 0 ≤ room_1.slots := ⟨hk, hn⟩
  refine z_aload_n (pc := 137) F dL_law_137 rfl 1 rfl ?_
  refine z_aload_n (pc := 138) F dL_law_138 rfl 0 rfl ?_
  refine z_iload (pc := 139) F dL_law_139 4 rfl ?_
  refine z_iconst (pc := 141) (v := 1) F dL_law_141 (by decide) ?_
  refine z_iadd (pc := 142) F dL_law_142 ?_
  refine z_sld (pc := 143) F hs (i + 1) (nI_add i 1) (by omega) hL dL_law_143 ?_
  refine z_aload_n (pc := 144) F dL_law_144 rfl 0 rfl ?_
  refine z_iload (pc := 145) F dL_law_145 4 rfl ?_
  refine z_iconst (pc := 147) (v := 2) F dL_law_147 (by decide) ?_
  refine z_iadd (pc := 148) F dL_law_148 ?_
  refine z_sld (pc := 149) F hs (i + 2) (nI_add i 2) (by omega) hL dL_law_149 ?_
  refine z_aload_n (pc := 150) F dL_law_150 rfl 0 rfl ?_
  refine z_iload (pc := 151) F dL_law_151 4 rfl ?_
  refine z_iconst (pc := 153) (v := 3) F dL_law_153 (by decide) ?_
  refine z_iadd (pc := 154) F dL_law_154 ?_
  refine z_sld (pc := 155) F hs (i + 3) (nI_add i 3) (by omega) hL dL_law_155 ?_
  refine z_i2l (pc := 156) F dL_law_156 ?_
  refine z_bipush (pc := 157) (v := 32) F dL_law_157 (by decide) ?_
  refine z_lshl (pc := 159) F dL_law_159 ?_
  refine z_aload_n (pc := 160) F dL_law_160 rfl 0 rfl ?_
  refine z_iload (pc := 161) F dL_law_161 4 rfl ?_
  refine z_iconst (pc := 163) (v := 4) F dL_law_163 (by decide) ?_
  refine z_iadd (pc := 164) F dL_law_164 ?_
  refine z_sld (pc := 165) F hs (i + 4) (nI_add i 4) (by omega) hL dL_law_165 ?_
  refine z_i2l (pc := 166) F dL_law_166 ?_
  refine z_ldc2 (pc := 167) F dL_law_167 tw_L37 ?_
  refine z_land (pc := 170) F dL_law_170 ?_
  refine z_lor (pc := 171) F dL_law_171 ?_
  obtain ⟨a, P, Q, h7, h8, hr⟩ := t_put (l := l) (E := E) (R := R) (rm := rm) h ((xs (i + 1))) ((xs (i + 2))) ((((xs (i + 3)).toInt64 <<< ((32 : Int32).toInt64 &&& 63)) ||| ((xs (i + 4)).toInt64 &&& 4294967295)))
  obtain ⟨fc, hfc⟩ := cW_0 E R c
  obtain ⟨fm, hfm⟩ := mw_0 E rm SM
  refine z_callVF (pc := 172) (q0 := 0) (ci := 7) (wr := ow E ro f ++ mw E rm SM) (rest := []) F h7 3 ww_Law_39 (by decide +kernel) rfl ⟨by decide, by decide⟩ hc0 hfc rfl rfl rfl (Nat.le_of_ble_eq_true rfl) dL_law_172 (fun v_ w1_ hp => ?_)
  obtain ⟨rfl, c1, rfl, h1⟩ := hp
  refine z_aload_n (pc := 175) F dL_law_175 rfl 2 rfl ?_
  refine z_aload_n (pc := 176) F dL_law_176 rfl 0 rfl ?_
  refine z_iload (pc := 177) F dL_law_177 4 rfl ?_
  refine z_iconst (pc := 179) (v := 1) F dL_law_179 (by decide) ?_
  refine z_iadd (pc := 180) F dL_law_180 ?_
  refine z_sld (pc := 181) F hs (i + 1) (nI_add i 1) (by omega) hL dL_law_181 ?_
  refine z_aload_n (pc := 182) F dL_law_182 rfl 0 rfl ?_
  refine z_iload (pc := 183) F dL_law_183 4 rfl ?_
  refine z_iconst (pc := 185) (v := 2) F dL_law_185 (by decide) ?_
  refine z_iadd (pc := 186) F dL_law_186 ?_
  refine z_sld (pc := 187) F hs (i + 2) (nI_add i 2) (by omega) hL dL_law_187 ?_
  refine z_aload_n (pc := 188) F dL_law_188 rfl 0 rfl ?_
  refine z_iload (pc := 189) F dL_law_189 4 rfl ?_
  refine z_iconst (pc := 191) (v := 3) F dL_law_191 (by decide) ?_
  refine z_iadd (pc := 192) F dL_law_192 ?_
  refine z_sld (pc := 193) F hs (i + 3) (nI_add i 3) (by omega) hL dL_law_193 ?_
  refine z_i2l (pc := 194) F dL_law_194 ?_
  refine z_bipush (pc := 195) (v := 32) F dL_law_195 (by decide) ?_
  refine z_lshl (pc := 197) F dL_law_197 ?_
  refine z_aload_n (pc := 198) F dL_law_198 rfl 0 rfl ?_
  refine z_iload (pc := 199) F dL_law_199 4 rfl ?_
  refine z_iconst (pc := 201) (v := 4) F dL_law_201 (by decide) ?_
  refine z_iadd (pc := 202) F dL_law_202 ?_
  refine z_sld (pc := 203) F hs (i + 4) (nI_add i 4) (by omega) hL dL_law_203 ?_
  refine z_i2l (pc := 204) F dL_law_204 ?_
  refine z_ldc2 (pc := 205) F dL_law_205 tw_L37 ?_
  refine z_land (pc := 208) F dL_law_208 ?_
  refine z_lor (pc := 209) F dL_law_209 ?_
  refine z_callVM (pc := 210) (wa := cW E R c1) (wb := ow E ro f) (q0 := 0) (ci := 8) (rest := [.int a]) F h8 3 ww_Law_43 (by decide +kernel) rfl ⟨by decide, by decide⟩ hc0 hfm rfl rfl rfl (Nat.le_of_ble_eq_true rfl) dL_law_210 (fun v_ w1_ hp => ?_)
  obtain ⟨rfl, S1, rfl, h2⟩ := hp
  refine z_icmp_eq (pc := 213) (tgt := 872) F dL_law_213 (by decide) (fun _ => ?_) (fun e_ => absurd rfl e_)
  refine z_widen (k' := k + 1) (n' := n + 6) (Nat.le_succ k) (Nat.le_add_right n 6) ?_
  exact K _ _ _ (hr _ _ h1 h2)
set_option maxRecDepth 100000 in
theorem lc_refer {X : zT} {l : Launch} {E : zE} {R : cR} {ro rm : Nat → Nat} {k n sb L i : Nat} {xs : Nat → Int32} {c : cS} {f SM : zS} (hl : l.stackTraces = false) (F : zF X l room_1 E cL_law 8 "LiveQueriesLaw") (hZ : zX X) (hs : scr X sb L xs) (hi : i + 5 ≤ L) (hL : L < 2 ^ 31) (hk : k + 1 ≤ 601024) (hn : n + 6 ≤ 7293034) (h : RELx c SM) (K : ∀ (c' : cS) (f' SM' : zS), RELx c' SM' → Z X (k + 1) (n + 6) (lwW E R ro rm c' f' SM') (lwL sb R rm ro i) 872 []) : Z X k n (lwW E R ro rm c f SM) (lwL sb R rm ro i) 218 [] := by
  have hc0 : k + 0 ≤ room_1.cells ∧ n + 0 ≤ room_1.slots := ⟨Nat.le_trans (Nat.le_succ k) hk, Nat.le_trans (Nat.le_add_right n 6) hn⟩
  have hcx : k + 1 ≤ room_1.cells ∧ n + 6 ≤ room_1.slots := ⟨hk, hn⟩
  have hc1 : k + 1 + 0 ≤ room_1.cells ∧ n + 6 + 0 ≤ room_1.slots := ⟨hk, hn⟩
  refine z_aload_n (pc := 218) F dL_law_218 rfl 1 rfl ?_
  refine z_aload_n (pc := 219) F dL_law_219 rfl 0 rfl ?_
  refine z_iload (pc := 220) F dL_law_220 4 rfl ?_
  refine z_iconst (pc := 222) (v := 1) F dL_law_222 (by decide) ?_
  refine z_iadd (pc := 223) F dL_law_223 ?_
  refine z_sld (pc := 224) F hs (i + 1) (nI_add i 1) (by omega) hL dL_law_224 ?_
  refine z_aload_n (pc := 225) F dL_law_225 rfl 0 rfl ?_
  refine z_iload (pc := 226) F dL_law_226 4 rfl ?_
  refine z_iconst (pc := 228) (v := 2) F dL_law_228 (by decide) ?_
  refine z_iadd (pc := 229) F dL_law_229 ?_
  refine z_sld (pc := 230) F hs (i + 2) (nI_add i 2) (by omega) hL dL_law_230 ?_
  obtain ⟨a, P, Q, h7, h8, hr⟩ := t_refer (l := l) (E := E) (R := R) (rm := rm) h ((xs (i + 1))) ((xs (i + 2)))
  obtain ⟨fc, hfc⟩ := cW_0 E R c
  obtain ⟨fm, hfm⟩ := mw_0 E rm SM
  refine z_callVF (pc := 231) (q0 := 0) (ci := 7) (wr := ow E ro f ++ mw E rm SM) (rest := []) F h7 2 ww_Law_44 (by decide +kernel) rfl ⟨by decide, by decide⟩ hc0 hfc rfl rfl rfl (Nat.le_of_ble_eq_true rfl) dL_law_231 (fun v_ w1_ hp => ?_)
  obtain ⟨rfl, c1, rfl, h1⟩ := hp
  refine z_aload_n (pc := 234) F dL_law_234 rfl 2 rfl ?_
  refine z_aload_n (pc := 235) F dL_law_235 rfl 0 rfl ?_
  refine z_iload (pc := 236) F dL_law_236 4 rfl ?_
  refine z_iconst (pc := 238) (v := 1) F dL_law_238 (by decide) ?_
  refine z_iadd (pc := 239) F dL_law_239 ?_
  refine z_sld (pc := 240) F hs (i + 1) (nI_add i 1) (by omega) hL dL_law_240 ?_
  refine z_aload_n (pc := 241) F dL_law_241 rfl 0 rfl ?_
  refine z_iload (pc := 242) F dL_law_242 4 rfl ?_
  refine z_iconst (pc := 244) (v := 2) F dL_law_244 (by decide) ?_
  refine z_iadd (pc := 245) F dL_law_245 ?_
  refine z_sld (pc := 246) F hs (i + 2) (nI_add i 2) (by omega) hL dL_law_246 ?_
  refine z_callVM (pc := 247) (wa := cW E R c1) (wb := ow E ro f) (q0 := 0) (ci := 8) (rest := [.int a]) F h8 2 ww_Law_48 (by decide +kernel) rfl ⟨by decide, by decide⟩ hc0 hfm rfl rfl rfl (Nat.le_of_ble_eq_true rfl) dL_law_247 (fun v_ w1_ hp => ?_)
  obtain ⟨rfl, S1, rfl, h2⟩ := hp
  refine z_icmp_eq (pc := 250) (tgt := 872) F dL_law_250 (by decide) (fun _ => ?_) (fun e_ => absurd rfl e_)
  refine z_widen (k' := k + 1) (n' := n + 6) (Nat.le_succ k) (Nat.le_add_right n 6) ?_
  exact K _ _ _ (hr _ _ h1 h2)
set_option maxRecDepth 100000 in
theorem lc_row {X : zT} {l : Launch} {E : zE} {R : cR} {ro rm : Nat → Nat} {k n sb L i : Nat} {xs : Nat → Int32} {c : cS} {f SM : zS} (hl : l.stackTraces = false) (F : zF X l room_1 E cL_law 8 "LiveQueriesLaw") (hZ : zX X) (hs : scr X sb L xs) (hi : i + 5 ≤ L) (hL : L < 2 ^ 31) (hk : k + 1 ≤ 601024) (hn : n + 6 ≤ 7293034) (h : RELx c SM) (K : ∀ (c' : cS) (f' SM' : zS), RELx c' SM' → Z X (k + 1) (n + 6) (lwW E R ro rm c' f' SM') (lwL sb R rm ro i) 872 []) : Z X k n (lwW E R ro rm c f SM) (lwL sb R rm ro i) 255 [] := by
  have hc0 : k + 0 ≤ room_1.cells ∧ n + 0 ≤ room_1.slots := ⟨Nat.le_trans (Nat.le_succ k) hk, Nat.le_trans (Nat.le_add_right n 6) hn⟩
  have hcx : k + 1 ≤ room_1.cells ∧ n + 6 ≤ room_1.slots := ⟨hk, hn⟩
  have hc1 : k + 1 + 0 ≤ room_1.cells ∧ n + 6 + 0 ≤ room_1.slots := ⟨hk, hn⟩
  refine z_aload_n (pc := 255) F dL_law_255 rfl 1 rfl ?_
  refine z_aload_n (pc := 256) F dL_law_256 rfl 0 rfl ?_
  refine z_iload (pc := 257) F dL_law_257 4 rfl ?_
  refine z_iconst (pc := 259) (v := 1) F dL_law_259 (by decide) ?_
  refine z_iadd (pc := 260) F dL_law_260 ?_
  refine z_sld (pc := 261) F hs (i + 1) (nI_add i 1) (by omega) hL dL_law_261 ?_
  refine z_aload_n (pc := 262) F dL_law_262 rfl 0 rfl ?_
  refine z_iload (pc := 263) F dL_law_263 4 rfl ?_
  refine z_iconst (pc := 265) (v := 2) F dL_law_265 (by decide) ?_
  refine z_iadd (pc := 266) F dL_law_266 ?_
  refine z_sld (pc := 267) F hs (i + 2) (nI_add i 2) (by omega) hL dL_law_267 ?_
  obtain ⟨a, P, Q, h7, h8, hr⟩ := t_row (l := l) (E := E) (R := R) (rm := rm) h ((xs (i + 1))) ((xs (i + 2)))
  obtain ⟨fc, hfc⟩ := cW_0 E R c
  obtain ⟨fm, hfm⟩ := mw_0 E rm SM
  refine z_callVF (pc := 268) (q0 := 0) (ci := 7) (wr := ow E ro f ++ mw E rm SM) (rest := []) F h7 2 ww_Law_49 (by decide +kernel) rfl ⟨by decide, by decide⟩ hc0 hfc rfl rfl rfl (Nat.le_of_ble_eq_true rfl) dL_law_268 (fun v_ w1_ hp => ?_)
  obtain ⟨rfl, c1, rfl, h1⟩ := hp
  refine z_aload_n (pc := 271) F dL_law_271 rfl 2 rfl ?_
  refine z_aload_n (pc := 272) F dL_law_272 rfl 0 rfl ?_
  refine z_iload (pc := 273) F dL_law_273 4 rfl ?_
  refine z_iconst (pc := 275) (v := 1) F dL_law_275 (by decide) ?_
  refine z_iadd (pc := 276) F dL_law_276 ?_
  refine z_sld (pc := 277) F hs (i + 1) (nI_add i 1) (by omega) hL dL_law_277 ?_
  refine z_aload_n (pc := 278) F dL_law_278 rfl 0 rfl ?_
  refine z_iload (pc := 279) F dL_law_279 4 rfl ?_
  refine z_iconst (pc := 281) (v := 2) F dL_law_281 (by decide) ?_
  refine z_iadd (pc := 282) F dL_law_282 ?_
  refine z_sld (pc := 283) F hs (i + 2) (nI_add i 2) (by omega) hL dL_law_283 ?_
  refine z_callVM (pc := 284) (wa := cW E R c1) (wb := ow E ro f) (q0 := 0) (ci := 8) (rest := [.int a]) F h8 2 ww_Law_52 (by decide +kernel) rfl ⟨by decide, by decide⟩ hc0 hfm rfl rfl rfl (Nat.le_of_ble_eq_true rfl) dL_law_284 (fun v_ w1_ hp => ?_)
  obtain ⟨rfl, S1, rfl, h2⟩ := hp
  refine z_icmp_eq (pc := 287) (tgt := 872) F dL_law_287 (by decide) (fun _ => ?_) (fun e_ => absurd rfl e_)
  refine z_widen (k' := k + 1) (n' := n + 6) (Nat.le_succ k) (Nat.le_add_right n 6) ?_
  exact K _ _ _ (hr _ _ h1 h2)
set_option maxRecDepth 100000 in
theorem lc_item {X : zT} {l : Launch} {E : zE} {R : cR} {ro rm : Nat → Nat} {k n sb L i : Nat} {xs : Nat → Int32} {c : cS} {f SM : zS} (hl : l.stackTraces = false) (F : zF X l room_1 E cL_law 8 "LiveQueriesLaw") (hZ : zX X) (hs : scr X sb L xs) (hi : i + 5 ≤ L) (hL : L < 2 ^ 31) (hk : k + 1 ≤ 601024) (hn : n + 6 ≤ 7293034) (h : RELx c SM) (K : ∀ (c' : cS) (f' SM' : zS), RELx c' SM' → Z X (k + 1) (n + 6) (lwW E R ro rm c' f' SM') (lwL sb R rm ro i) 872 []) : Z X k n (lwW E R ro rm c f SM) (lwL sb R rm ro i) 292 [] := by
  have hc0 : k + 0 ≤ room_1.cells ∧ n + 0 ≤ room_1.slots := ⟨Nat.le_trans (Nat.le_succ k) hk, Nat.le_trans (Nat.le_add_right n 6) hn⟩
  have hcx : k + 1 ≤ room_1.cells ∧ n + 6 ≤ room_1.slots := ⟨hk, hn⟩
  have hc1 : k + 1 + 0 ≤ room_1.cells ∧ n + 6 + 0 ≤ room_1.slots := ⟨hk, hn⟩
  refine z_aload_n (pc := 292) F dL_law_292 rfl 1 rfl ?_
  refine z_aload_n (pc := 293) F dL_law_293 rfl 0 rfl ?_
  refine z_iload (pc := 294) F dL_law_294 4 rfl ?_
  refine z_iconst (pc := 296) (v := 1) F dL_law_296 (by decide) ?_
  refine z_iadd (pc := 297) F dL_law_297 ?_
  refine z_sld (pc := 298) F hs (i + 1) (nI_add i 1) (by omega) hL dL_law_298 ?_
  refine z_aload_n (pc := 299) F dL_law_299 rfl 0 rfl ?_
  refine z_iload (pc := 300) F dL_law_300 4 rfl ?_
  refine z_iconst (pc := 302) (v := 2) F dL_law_302 (by decide) ?_
  refine z_iadd (pc := 303) F dL_law_303 ?_
  refine z_sld (pc := 304) F hs (i + 2) (nI_add i 2) (by omega) hL dL_law_304 ?_
  refine z_aload_n (pc := 305) F dL_law_305 rfl 0 rfl ?_
  refine z_iload (pc := 306) F dL_law_306 4 rfl ?_
  refine z_iconst (pc := 308) (v := 3) F dL_law_308 (by decide) ?_
  refine z_iadd (pc := 309) F dL_law_309 ?_
  refine z_sld (pc := 310) F hs (i + 3) (nI_add i 3) (by omega) hL dL_law_310 ?_
  refine z_i2l (pc := 311) F dL_law_311 ?_
  refine z_bipush (pc := 312) (v := 32) F dL_law_312 (by decide) ?_
  refine z_lshl (pc := 314) F dL_law_314 ?_
  refine z_aload_n (pc := 315) F dL_law_315 rfl 0 rfl ?_
  refine z_iload (pc := 316) F dL_law_316 4 rfl ?_
  refine z_iconst (pc := 318) (v := 4) F dL_law_318 (by decide) ?_
  refine z_iadd (pc := 319) F dL_law_319 ?_
  refine z_sld (pc := 320) F hs (i + 4) (nI_add i 4) (by omega) hL dL_law_320 ?_
  refine z_i2l (pc := 321) F dL_law_321 ?_
  refine z_ldc2 (pc := 322) F dL_law_322 tw_L37 ?_
  refine z_land (pc := 325) F dL_law_325 ?_
  refine z_lor (pc := 326) F dL_law_326 ?_
  obtain ⟨a, P, Q, h7, h8, hr⟩ := t_item (l := l) (E := E) (R := R) (rm := rm) h ((xs (i + 1))) ((xs (i + 2))) ((((xs (i + 3)).toInt64 <<< ((32 : Int32).toInt64 &&& 63)) ||| ((xs (i + 4)).toInt64 &&& 4294967295)))
  obtain ⟨fc, hfc⟩ := cW_0 E R c
  obtain ⟨fm, hfm⟩ := mw_0 E rm SM
  refine z_callVF (pc := 327) (q0 := 0) (ci := 7) (wr := ow E ro f ++ mw E rm SM) (rest := []) F h7 3 ww_Law_53 (by decide +kernel) rfl ⟨by decide, by decide⟩ hc0 hfc rfl rfl rfl (Nat.le_of_ble_eq_true rfl) dL_law_327 (fun v_ w1_ hp => ?_)
  obtain ⟨rfl, c1, rfl, h1⟩ := hp
  refine z_aload_n (pc := 330) F dL_law_330 rfl 2 rfl ?_
  refine z_aload_n (pc := 331) F dL_law_331 rfl 0 rfl ?_
  refine z_iload (pc := 332) F dL_law_332 4 rfl ?_
  refine z_iconst (pc := 334) (v := 1) F dL_law_334 (by decide) ?_
  refine z_iadd (pc := 335) F dL_law_335 ?_
  refine z_sld (pc := 336) F hs (i + 1) (nI_add i 1) (by omega) hL dL_law_336 ?_
  refine z_aload_n (pc := 337) F dL_law_337 rfl 0 rfl ?_
  refine z_iload (pc := 338) F dL_law_338 4 rfl ?_
  refine z_iconst (pc := 340) (v := 2) F dL_law_340 (by decide) ?_
  refine z_iadd (pc := 341) F dL_law_341 ?_
  refine z_sld (pc := 342) F hs (i + 2) (nI_add i 2) (by omega) hL dL_law_342 ?_
  refine z_aload_n (pc := 343) F dL_law_343 rfl 0 rfl ?_
  refine z_iload (pc := 344) F dL_law_344 4 rfl ?_
  refine z_iconst (pc := 346) (v := 3) F dL_law_346 (by decide) ?_
  refine z_iadd (pc := 347) F dL_law_347 ?_
  refine z_sld (pc := 348) F hs (i + 3) (nI_add i 3) (by omega) hL dL_law_348 ?_
  refine z_i2l (pc := 349) F dL_law_349 ?_
  refine z_bipush (pc := 350) (v := 32) F dL_law_350 (by decide) ?_
  refine z_lshl (pc := 352) F dL_law_352 ?_
  refine z_aload_n (pc := 353) F dL_law_353 rfl 0 rfl ?_
  refine z_iload (pc := 354) F dL_law_354 4 rfl ?_
  refine z_iconst (pc := 356) (v := 4) F dL_law_356 (by decide) ?_
  refine z_iadd (pc := 357) F dL_law_357 ?_
  refine z_sld (pc := 358) F hs (i + 4) (nI_add i 4) (by omega) hL dL_law_358 ?_
  refine z_i2l (pc := 359) F dL_law_359 ?_
  refine z_ldc2 (pc := 360) F dL_law_360 tw_L37 ?_
  refine z_land (pc := 363) F dL_law_363 ?_
  refine z_lor (pc := 364) F dL_law_364 ?_
  refine z_callVM (pc := 365) (wa := cW E R c1) (wb := ow E ro f) (q0 := 0) (ci := 8) (rest := [.int a]) F h8 3 ww_Law_56 (by decide +kernel) rfl ⟨by decide, by decide⟩ hc0 hfm rfl rfl rfl (Nat.le_of_ble_eq_true rfl) dL_law_365 (fun v_ w1_ hp => ?_)
  obtain ⟨rfl, S1, rfl, h2⟩ := hp
  refine z_icmp_eq (pc := 368) (tgt := 872) F dL_law_368 (by decide) (fun _ => ?_) (fun e_ => absurd rfl e_)
  refine z_widen (k' := k + 1) (n' := n + 6) (Nat.le_succ k) (Nat.le_add_right n 6) ?_
  exact K _ _ _ (hr _ _ h1 h2)
set_option maxRecDepth 100000 in
theorem lc_drop {X : zT} {l : Launch} {E : zE} {R : cR} {ro rm : Nat → Nat} {k n sb L i : Nat} {xs : Nat → Int32} {c : cS} {f SM : zS} (hl : l.stackTraces = false) (F : zF X l room_1 E cL_law 8 "LiveQueriesLaw") (hZ : zX X) (hs : scr X sb L xs) (hi : i + 5 ≤ L) (hL : L < 2 ^ 31) (hk : k + 1 ≤ 601024) (hn : n + 6 ≤ 7293034) (h : RELx c SM) (K : ∀ (c' : cS) (f' SM' : zS), RELx c' SM' → Z X (k + 1) (n + 6) (lwW E R ro rm c' f' SM') (lwL sb R rm ro i) 872 []) : Z X k n (lwW E R ro rm c f SM) (lwL sb R rm ro i) 373 [] := by
  have hc0 : k + 0 ≤ room_1.cells ∧ n + 0 ≤ room_1.slots := ⟨Nat.le_trans (Nat.le_succ k) hk, Nat.le_trans (Nat.le_add_right n 6) hn⟩
  have hcx : k + 1 ≤ room_1.cells ∧ n + 6 ≤ room_1.slots := ⟨hk, hn⟩
  have hc1 : k + 1 + 0 ≤ room_1.cells ∧ n + 6 + 0 ≤ room_1.slots := ⟨hk, hn⟩
  refine z_aload_n (pc := 373) F dL_law_373 rfl 1 rfl ?_
  refine z_aload_n (pc := 374) F dL_law_374 rfl 0 rfl ?_
  refine z_iload (pc := 375) F dL_law_375 4 rfl ?_
  refine z_iconst (pc := 377) (v := 1) F dL_law_377 (by decide) ?_
  refine z_iadd (pc := 378) F dL_law_378 ?_
  refine z_sld (pc := 379) F hs (i + 1) (nI_add i 1) (by omega) hL dL_law_379 ?_
  obtain ⟨a, P, Q, h7, h8, hr⟩ := t_drop (l := l) (E := E) (R := R) (rm := rm) h ((xs (i + 1)))
  obtain ⟨fc, hfc⟩ := cW_0 E R c
  obtain ⟨fm, hfm⟩ := mw_0 E rm SM
  refine z_callVF (pc := 380) (q0 := 0) (ci := 7) (wr := ow E ro f ++ mw E rm SM) (rest := []) F h7 1 ww_Law_57 (by decide +kernel) rfl ⟨by decide, by decide⟩ hc0 hfc rfl rfl rfl (Nat.le_of_ble_eq_true rfl) dL_law_380 (fun v_ w1_ hp => ?_)
  obtain ⟨rfl, c1, rfl, h1⟩ := hp
  refine z_aload_n (pc := 383) F dL_law_383 rfl 2 rfl ?_
  refine z_aload_n (pc := 384) F dL_law_384 rfl 0 rfl ?_
  refine z_iload (pc := 385) F dL_law_385 4 rfl ?_
  refine z_iconst (pc := 387) (v := 1) F dL_law_387 (by decide) ?_
  refine z_iadd (pc := 388) F dL_law_388 ?_
  refine z_sld (pc := 389) F hs (i + 1) (nI_add i 1) (by omega) hL dL_law_389 ?_
  refine z_callVM (pc := 390) (wa := cW E R c1) (wb := ow E ro f) (q0 := 0) (ci := 8) (rest := [.int a]) F h8 1 ww_Law_60 (by decide +kernel) rfl ⟨by decide, by decide⟩ hc0 hfm rfl rfl rfl (Nat.le_of_ble_eq_true rfl) dL_law_390 (fun v_ w1_ hp => ?_)
  obtain ⟨rfl, S1, rfl, h2⟩ := hp
  refine z_icmp_eq (pc := 393) (tgt := 872) F dL_law_393 (by decide) (fun _ => ?_) (fun e_ => absurd rfl e_)
  refine z_widen (k' := k + 1) (n' := n + 6) (Nat.le_succ k) (Nat.le_add_right n 6) ?_
  exact K _ _ _ (hr _ _ h1 h2)
set_option maxRecDepth 100000 in
theorem lc_type {X : zT} {l : Launch} {E : zE} {R : cR} {ro rm : Nat → Nat} {k n sb L i : Nat} {xs : Nat → Int32} {c : cS} {f SM : zS} (hl : l.stackTraces = false) (F : zF X l room_1 E cL_law 8 "LiveQueriesLaw") (hZ : zX X) (hs : scr X sb L xs) (hi : i + 5 ≤ L) (hL : L < 2 ^ 31) (hk : k + 1 ≤ 601024) (hn : n + 6 ≤ 7293034) (h : RELx c SM) (K : ∀ (c' : cS) (f' SM' : zS), RELx c' SM' → Z X (k + 1) (n + 6) (lwW E R ro rm c' f' SM') (lwL sb R rm ro i) 872 []) : Z X k n (lwW E R ro rm c f SM) (lwL sb R rm ro i) 398 [] := by
  have hc0 : k + 0 ≤ room_1.cells ∧ n + 0 ≤ room_1.slots := ⟨Nat.le_trans (Nat.le_succ k) hk, Nat.le_trans (Nat.le_add_right n 6) hn⟩
  have hcx : k + 1 ≤ room_1.cells ∧ n + 6 ≤ room_1.slots := ⟨hk, hn⟩
  have hc1 : k + 1 + 0 ≤ room_1.cells ∧ n + 6 + 0 ≤ room_1.slots := ⟨hk, hn⟩
  refine z_aload_n (pc := 398) F dL_law_398 rfl 1 rfl ?_
  refine z_aload_n (pc := 399) F dL_law_399 rfl 0 rfl ?_
  refine z_iload (pc := 400) F dL_law_400 4 rfl ?_
  refine z_iconst (pc := 402) (v := 1) F dL_law_402 (by decide) ?_
  refine z_iadd (pc := 403) F dL_law_403 ?_
  refine z_sld (pc := 404) F hs (i + 1) (nI_add i 1) (by omega) hL dL_law_404 ?_
  refine z_i2l (pc := 405) F dL_law_405 ?_
  refine z_bipush (pc := 406) (v := 32) F dL_law_406 (by decide) ?_
  refine z_lshl (pc := 408) F dL_law_408 ?_
  refine z_aload_n (pc := 409) F dL_law_409 rfl 0 rfl ?_
  refine z_iload (pc := 410) F dL_law_410 4 rfl ?_
  refine z_iconst (pc := 412) (v := 2) F dL_law_412 (by decide) ?_
  refine z_iadd (pc := 413) F dL_law_413 ?_
  refine z_sld (pc := 414) F hs (i + 2) (nI_add i 2) (by omega) hL dL_law_414 ?_
  refine z_i2l (pc := 415) F dL_law_415 ?_
  refine z_ldc2 (pc := 416) F dL_law_416 tw_L37 ?_
  refine z_land (pc := 419) F dL_law_419 ?_
  refine z_lor (pc := 420) F dL_law_420 ?_
  refine z_aload_n (pc := 421) F dL_law_421 rfl 0 rfl ?_
  refine z_iload (pc := 422) F dL_law_422 4 rfl ?_
  refine z_iconst (pc := 424) (v := 3) F dL_law_424 (by decide) ?_
  refine z_iadd (pc := 425) F dL_law_425 ?_
  refine z_sld (pc := 426) F hs (i + 3) (nI_add i 3) (by omega) hL dL_law_426 ?_
  obtain ⟨a, P, Q, h7, h8, hr⟩ := t_type (l := l) (E := E) (R := R) (rm := rm) h ((((xs (i + 1)).toInt64 <<< ((32 : Int32).toInt64 &&& 63)) ||| ((xs (i + 2)).toInt64 &&& 4294967295))) ((xs (i + 3)))
  obtain ⟨fc, hfc⟩ := cW_0 E R c
  obtain ⟨fm, hfm⟩ := mw_0 E rm SM
  refine z_callVF (pc := 427) (q0 := 0) (ci := 7) (wr := ow E ro f ++ mw E rm SM) (rest := []) F h7 2 ww_Law_61 (by decide +kernel) rfl ⟨by decide, by decide⟩ hc0 hfc rfl rfl rfl (Nat.le_of_ble_eq_true rfl) dL_law_427 (fun v_ w1_ hp => ?_)
  obtain ⟨rfl, c1, rfl, h1⟩ := hp
  refine z_aload_n (pc := 430) F dL_law_430 rfl 2 rfl ?_
  refine z_aload_n (pc := 431) F dL_law_431 rfl 0 rfl ?_
  refine z_iload (pc := 432) F dL_law_432 4 rfl ?_
  refine z_iconst (pc := 434) (v := 1) F dL_law_434 (by decide) ?_
  refine z_iadd (pc := 435) F dL_law_435 ?_
  refine z_sld (pc := 436) F hs (i + 1) (nI_add i 1) (by omega) hL dL_law_436 ?_
  refine z_i2l (pc := 437) F dL_law_437 ?_
  refine z_bipush (pc := 438) (v := 32) F dL_law_438 (by decide) ?_
  refine z_lshl (pc := 440) F dL_law_440 ?_
  refine z_aload_n (pc := 441) F dL_law_441 rfl 0 rfl ?_
  refine z_iload (pc := 442) F dL_law_442 4 rfl ?_
  refine z_iconst (pc := 444) (v := 2) F dL_law_444 (by decide) ?_
  refine z_iadd (pc := 445) F dL_law_445 ?_
  refine z_sld (pc := 446) F hs (i + 2) (nI_add i 2) (by omega) hL dL_law_446 ?_
  refine z_i2l (pc := 447) F dL_law_447 ?_
  refine z_ldc2 (pc := 448) F dL_law_448 tw_L37 ?_
  refine z_land (pc := 451) F dL_law_451 ?_
  refine z_lor (pc := 452) F dL_law_452 ?_
  refine z_aload_n (pc := 453) F dL_law_453 rfl 0 rfl ?_
  refine z_iload (pc := 454) F dL_law_454 4 rfl ?_
  refine z_iconst (pc := 456) (v := 3) F dL_law_456 (by decide) ?_
  refine z_iadd (pc := 457) F dL_law_457 ?_
  refine z_sld (pc := 458) F hs (i + 3) (nI_add i 3) (by omega) hL dL_law_458 ?_
  refine z_callVM (pc := 459) (wa := cW E R c1) (wb := ow E ro f) (q0 := 0) (ci := 8) (rest := [.int a]) F h8 2 ww_Law_65 (by decide +kernel) rfl ⟨by decide, by decide⟩ hc0 hfm rfl rfl rfl (Nat.le_of_ble_eq_true rfl) dL_law_459 (fun v_ w1_ hp => ?_)
  obtain ⟨rfl, S1, rfl, h2⟩ := hp
  refine z_icmp_eq (pc := 462) (tgt := 872) F dL_law_462 (by decide) (fun _ => ?_) (fun e_ => absurd rfl e_)
  refine z_widen (k' := k + 1) (n' := n + 6) (Nat.le_succ k) (Nat.le_add_right n 6) ?_
  exact K _ _ _ (hr _ _ h1 h2)
set_option maxRecDepth 100000 in
theorem lc_query {X : zT} {l : Launch} {E : zE} {R : cR} {ro rm : Nat → Nat} {k n sb L i : Nat} {xs : Nat → Int32} {c : cS} {f SM : zS} (hl : l.stackTraces = false) (F : zF X l room_1 E cL_law 8 "LiveQueriesLaw") (hZ : zX X) (hs : scr X sb L xs) (hi : i + 5 ≤ L) (hL : L < 2 ^ 31) (hk : k + 1 ≤ 601024) (hn : n + 6 ≤ 7293034) (h : RELx c SM) (K : ∀ (c' : cS) (f' SM' : zS), RELx c' SM' → Z X (k + 1) (n + 6) (lwW E R ro rm c' f' SM') (lwL sb R rm ro i) 872 []) : Z X k n (lwW E R ro rm c f SM) (lwL sb R rm ro i) 467 [] := by
  have hc0 : k + 0 ≤ room_1.cells ∧ n + 0 ≤ room_1.slots := ⟨Nat.le_trans (Nat.le_succ k) hk, Nat.le_trans (Nat.le_add_right n 6) hn⟩
  have hcx : k + 1 ≤ room_1.cells ∧ n + 6 ≤ room_1.slots := ⟨hk, hn⟩
  have hc1 : k + 1 + 0 ≤ room_1.cells ∧ n + 6 + 0 ≤ room_1.slots := ⟨hk, hn⟩
  obtain ⟨fc, hfc⟩ := cW_0 E R c
  obtain ⟨fm, hfm⟩ := mw_0 E rm SM
  rcases t_query (E := E) (R := R) (rm := rm) hl h  with ⟨a, P, Q, h7, h8, hr⟩ | ⟨a, c1, Q, h7, h8, hr⟩
  · refine z_aload_n (pc := 467) F dL_law_467 rfl 1 rfl ?_
    refine z_aload_n (pc := 468) F dL_law_468 rfl 3 rfl ?_
    refine z_perm (ws' := (cW E R c ++ ow E ro f) ++ mw E rm SM) (List.Perm.of_eq (List.append_assoc _ _ _).symm) ?_
    refine z_callSH (pc := 469) (wc := cW E R c ++ ow E ro f) (wr := mw E rm SM) (rest := []) F hZ (l_query_y l hl E R ro c f a P h7) 2 wh_query (by decide +kernel) rfl ⟨by decide, by decide⟩ hcx rfl (Nat.le_of_ble_eq_true rfl) dL_law_469 (fun v_ w1_ hp => ?_)
    obtain ⟨rfl, c1, rfl, h1⟩ := hp
    refine z_perm (ws' := cW E R c1 ++ (ow E ro (zB f 0 0 a.toInt64) ++ mw E rm SM)) (List.Perm.of_eq (List.append_assoc _ _ _)) ?_
    refine z_istore (pc := 472) (lv' := [(0, .ref sb), (1, .ref (R.1 0)), (2, .ref (rm 0)), (3, .ref (ro 0)), (4, .int (nI i)), (5, .int 0)]) F dL_law_472 (by decide) [1, 2, 3, 4, 5, 0] rfl ?_
    refine z_aload_n (pc := 474) F dL_law_474 rfl 2 rfl ?_
    refine z_callVM (pc := 475) (wa := cW E R c1) (wb := ow E ro (zB f 0 0 a.toInt64)) (q0 := 0) (ci := 8) (rest := []) F h8 0 ww_Law_71 (by decide +kernel) rfl ⟨by decide, by decide⟩ hc1 hfm rfl rfl rfl (Nat.le_of_ble_eq_true rfl) dL_law_475 (fun v_ w1_ hp => ?_)
    obtain ⟨rfl, S1, rfl, h2⟩ := hp
    obtain ⟨hr1, hz⟩ := hr _ _ h1 h2
    refine z_istore (pc := 478) (lv' := [(0, .ref sb), (1, .ref (R.1 0)), (2, .ref (rm 0)), (3, .ref (ro 0)), (4, .int (nI i)), (5, .int 0), (6, .int a)]) F dL_law_478 (by decide) [1, 2, 3, 4, 5, 6, 0] rfl ?_
    refine z_aload_n (pc := 480) F dL_law_480 rfl 2 rfl ?_
    obtain ⟨fm2, hfm2⟩ := mw_0 E rm S1
    refine z_callVM (pc := 481) (wa := cW E R c1) (wb := ow E ro (zB f 0 0 a.toInt64)) (q0 := 0) (ci := 8) (rest := []) F (c_X8_thrown l E rm S1) 0 ww_Law_72 (by decide +kernel) rfl ⟨by decide, by decide⟩ hc1 hfm2 rfl rfl rfl (Nat.le_of_ble_eq_true rfl) dL_law_481 (fun v_ w1_ hp => ?_)
    obtain ⟨rfl, rfl⟩ := hp
    refine z_iload (pc := 484) F dL_law_484 5 rfl ?_
    refine z_icmp_eq (pc := 486) (tgt := 491) F dL_law_486 (by decide) (fun _ => ?_) (fun e_ => absurd hz e_)
    refine z_iload (pc := 491) F dL_law_491 5 rfl ?_
    refine z_if_ne (pc := 493) (tgt := 508) F dL_law_493 (by decide) (fun e_ => absurd rfl e_) (fun _ => ?_)
    refine z_aload_n (pc := 496) F dL_law_496 rfl 3 rfl ?_
    refine z_iconst (pc := 497) (v := 0) F dL_law_497 (by decide) ?_
    refine z_outld (pc := 498) F dL_law_498 ?_
    refine z_iload (pc := 499) F dL_law_499 6 rfl ?_
    refine z_i2l (pc := 501) F dL_law_501 ?_
    refine z_l_eq (pc := 502) (tgt := 508) F dL_law_502 dL_law_503 (by decide) (fun _ => ?_) (fun e_ => absurd rfl e_)
    refine z_goto (pc := 508) (tgt := 872) F dL_law_508 (by decide) ?_
    refine z_locals [0, 1, 2, 3, 4] rfl ?_
    exact K _ _ _ hr1
  · refine z_aload_n (pc := 467) F dL_law_467 rfl 1 rfl ?_
    refine z_aload_n (pc := 468) F dL_law_468 rfl 3 rfl ?_
    refine z_perm (ws' := (cW E R c ++ ow E ro f) ++ mw E rm SM) (List.Perm.of_eq (List.append_assoc _ _ _).symm) ?_
    refine z_callSH (pc := 469) (wc := cW E R c ++ ow E ro f) (wr := mw E rm SM) (rest := []) F hZ (l_query_x l hl E R ro c f c1 h7) 2 wh_query (by decide +kernel) rfl ⟨by decide, by decide⟩ hcx rfl (Nat.le_of_ble_eq_true rfl) dL_law_469 (fun v_ w1_ hp => ?_)
    obtain ⟨rfl, rfl⟩ := hp
    refine z_perm (ws' := cW E R c1 ++ (ow E ro f ++ mw E rm SM)) (List.Perm.of_eq (List.append_assoc _ _ _)) ?_
    refine z_istore (pc := 472) (lv' := [(0, .ref sb), (1, .ref (R.1 0)), (2, .ref (rm 0)), (3, .ref (ro 0)), (4, .int (nI i)), (5, .int 1)]) F dL_law_472 (by decide) [1, 2, 3, 4, 5, 0] rfl ?_
    refine z_aload_n (pc := 474) F dL_law_474 rfl 2 rfl ?_
    refine z_callVM (pc := 475) (wa := cW E R c1) (wb := ow E ro f) (q0 := 0) (ci := 8) (rest := []) F h8 0 ww_Law_71 (by decide +kernel) rfl ⟨by decide, by decide⟩ hc1 hfm rfl rfl rfl (Nat.le_of_ble_eq_true rfl) dL_law_475 (fun v_ w1_ hp => ?_)
    obtain ⟨rfl, S1, rfl, h2⟩ := hp
    obtain ⟨hr1, hz⟩ := hr _ h2
    refine z_istore (pc := 478) (lv' := [(0, .ref sb), (1, .ref (R.1 0)), (2, .ref (rm 0)), (3, .ref (ro 0)), (4, .int (nI i)), (5, .int 1), (6, .int a)]) F dL_law_478 (by decide) [1, 2, 3, 4, 5, 6, 0] rfl ?_
    refine z_aload_n (pc := 480) F dL_law_480 rfl 2 rfl ?_
    obtain ⟨fm2, hfm2⟩ := mw_0 E rm S1
    refine z_callVM (pc := 481) (wa := cW E R c1) (wb := ow E ro f) (q0 := 0) (ci := 8) (rest := []) F (c_X8_thrown l E rm S1) 0 ww_Law_72 (by decide +kernel) rfl ⟨by decide, by decide⟩ hc1 hfm2 rfl rfl rfl (Nat.le_of_ble_eq_true rfl) dL_law_481 (fun v_ w1_ hp => ?_)
    obtain ⟨rfl, rfl⟩ := hp
    refine z_iload (pc := 484) F dL_law_484 5 rfl ?_
    refine z_icmp_eq (pc := 486) (tgt := 491) F dL_law_486 (by decide) (fun _ => ?_) (fun e_ => absurd hz e_)
    refine z_iload (pc := 491) F dL_law_491 5 rfl ?_
    refine z_if_ne (pc := 493) (tgt := 508) F dL_law_493 (by decide) (fun _ => ?_) (fun e_ => absurd e_ (by decide))
    refine z_goto (pc := 508) (tgt := 872) F dL_law_508 (by decide) ?_
    refine z_locals [0, 1, 2, 3, 4] rfl ?_
    exact K _ _ _ hr1
set_option maxRecDepth 100000 in
theorem lc_size {X : zT} {l : Launch} {E : zE} {R : cR} {ro rm : Nat → Nat} {k n sb L i : Nat} {xs : Nat → Int32} {c : cS} {f SM : zS} (hl : l.stackTraces = false) (F : zF X l room_1 E cL_law 8 "LiveQueriesLaw") (hZ : zX X) (hs : scr X sb L xs) (hi : i + 5 ≤ L) (hL : L < 2 ^ 31) (hk : k + 1 ≤ 601024) (hn : n + 6 ≤ 7293034) (h : RELx c SM) (K : ∀ (c' : cS) (f' SM' : zS), RELx c' SM' → Z X (k + 1) (n + 6) (lwW E R ro rm c' f' SM') (lwL sb R rm ro i) 872 []) : Z X k n (lwW E R ro rm c f SM) (lwL sb R rm ro i) 511 [] := by
  have hc0 : k + 0 ≤ room_1.cells ∧ n + 0 ≤ room_1.slots := ⟨Nat.le_trans (Nat.le_succ k) hk, Nat.le_trans (Nat.le_add_right n 6) hn⟩
  have hcx : k + 1 ≤ room_1.cells ∧ n + 6 ≤ room_1.slots := ⟨hk, hn⟩
  have hc1 : k + 1 + 0 ≤ room_1.cells ∧ n + 6 + 0 ≤ room_1.slots := ⟨hk, hn⟩
  refine z_aload_n (pc := 511) F dL_law_511 rfl 1 rfl ?_
  refine z_aload_n (pc := 512) F dL_law_512 rfl 0 rfl ?_
  refine z_iload (pc := 513) F dL_law_513 4 rfl ?_
  refine z_iconst (pc := 515) (v := 1) F dL_law_515 (by decide) ?_
  refine z_iadd (pc := 516) F dL_law_516 ?_
  refine z_sld (pc := 517) F hs (i + 1) (nI_add i 1) (by omega) hL dL_law_517 ?_
  refine z_aload_n (pc := 518) F dL_law_518 rfl 0 rfl ?_
  refine z_iload (pc := 519) F dL_law_519 4 rfl ?_
  refine z_iconst (pc := 521) (v := 2) F dL_law_521 (by decide) ?_
  refine z_iadd (pc := 522) F dL_law_522 ?_
  refine z_sld (pc := 523) F hs (i + 2) (nI_add i 2) (by omega) hL dL_law_523 ?_
  obtain ⟨a, P, Q, h7, h8, hr⟩ := t_size (l := l) (E := E) (R := R) (rm := rm) h ((xs (i + 1))) ((xs (i + 2)))
  obtain ⟨fc, hfc⟩ := cW_0 E R c
  obtain ⟨fm, hfm⟩ := mw_0 E rm SM
  refine z_callVF (pc := 524) (q0 := 0) (ci := 7) (wr := ow E ro f ++ mw E rm SM) (rest := []) F h7 2 ww_Law_75 (by decide +kernel) rfl ⟨by decide, by decide⟩ hc0 hfc rfl rfl rfl (Nat.le_of_ble_eq_true rfl) dL_law_524 (fun v_ w1_ hp => ?_)
  obtain ⟨rfl, c1, rfl, h1⟩ := hp
  refine z_aload_n (pc := 527) F dL_law_527 rfl 2 rfl ?_
  refine z_aload_n (pc := 528) F dL_law_528 rfl 0 rfl ?_
  refine z_iload (pc := 529) F dL_law_529 4 rfl ?_
  refine z_iconst (pc := 531) (v := 1) F dL_law_531 (by decide) ?_
  refine z_iadd (pc := 532) F dL_law_532 ?_
  refine z_sld (pc := 533) F hs (i + 1) (nI_add i 1) (by omega) hL dL_law_533 ?_
  refine z_aload_n (pc := 534) F dL_law_534 rfl 0 rfl ?_
  refine z_iload (pc := 535) F dL_law_535 4 rfl ?_
  refine z_iconst (pc := 537) (v := 2) F dL_law_537 (by decide) ?_
  refine z_iadd (pc := 538) F dL_law_538 ?_
  refine z_sld (pc := 539) F hs (i + 2) (nI_add i 2) (by omega) hL dL_law_539 ?_
  refine z_callVM (pc := 540) (wa := cW E R c1) (wb := ow E ro f) (q0 := 0) (ci := 8) (rest := [.int a]) F h8 2 ww_Law_78 (by decide +kernel) rfl ⟨by decide, by decide⟩ hc0 hfm rfl rfl rfl (Nat.le_of_ble_eq_true rfl) dL_law_540 (fun v_ w1_ hp => ?_)
  obtain ⟨rfl, S1, rfl, h2⟩ := hp
  refine z_icmp_eq (pc := 543) (tgt := 872) F dL_law_543 (by decide) (fun _ => ?_) (fun e_ => absurd rfl e_)
  refine z_widen (k' := k + 1) (n' := n + 6) (Nat.le_succ k) (Nat.le_add_right n 6) ?_
  exact K _ _ _ (hr _ _ h1 h2)
set_option maxRecDepth 100000 in
theorem lc_got {X : zT} {l : Launch} {E : zE} {R : cR} {ro rm : Nat → Nat} {k n sb L i : Nat} {xs : Nat → Int32} {c : cS} {f SM : zS} (hl : l.stackTraces = false) (F : zF X l room_1 E cL_law 8 "LiveQueriesLaw") (hZ : zX X) (hs : scr X sb L xs) (hi : i + 5 ≤ L) (hL : L < 2 ^ 31) (hk : k + 1 ≤ 601024) (hn : n + 6 ≤ 7293034) (h : RELx c SM) (K : ∀ (c' : cS) (f' SM' : zS), RELx c' SM' → Z X (k + 1) (n + 6) (lwW E R ro rm c' f' SM') (lwL sb R rm ro i) 872 []) : Z X k n (lwW E R ro rm c f SM) (lwL sb R rm ro i) 548 [] := by
  have hc0 : k + 0 ≤ room_1.cells ∧ n + 0 ≤ room_1.slots := ⟨Nat.le_trans (Nat.le_succ k) hk, Nat.le_trans (Nat.le_add_right n 6) hn⟩
  have hcx : k + 1 ≤ room_1.cells ∧ n + 6 ≤ room_1.slots := ⟨hk, hn⟩
  have hc1 : k + 1 + 0 ≤ room_1.cells ∧ n + 6 + 0 ≤ room_1.slots := ⟨hk, hn⟩
  refine z_aload_n (pc := 548) F dL_law_548 rfl 1 rfl ?_
  refine z_aload_n (pc := 549) F dL_law_549 rfl 0 rfl ?_
  refine z_iload (pc := 550) F dL_law_550 4 rfl ?_
  refine z_iconst (pc := 552) (v := 1) F dL_law_552 (by decide) ?_
  refine z_iadd (pc := 553) F dL_law_553 ?_
  refine z_sld (pc := 554) F hs (i + 1) (nI_add i 1) (by omega) hL dL_law_554 ?_
  refine z_aload_n (pc := 555) F dL_law_555 rfl 0 rfl ?_
  refine z_iload (pc := 556) F dL_law_556 4 rfl ?_
  refine z_iconst (pc := 558) (v := 2) F dL_law_558 (by decide) ?_
  refine z_iadd (pc := 559) F dL_law_559 ?_
  refine z_sld (pc := 560) F hs (i + 2) (nI_add i 2) (by omega) hL dL_law_560 ?_
  obtain ⟨a, P, Q, h7, h8, hr⟩ := t_got (l := l) (E := E) (R := R) (rm := rm) h ((xs (i + 1))) ((xs (i + 2)))
  obtain ⟨fc, hfc⟩ := cW_0 E R c
  obtain ⟨fm, hfm⟩ := mw_0 E rm SM
  refine z_callVF (pc := 561) (q0 := 0) (ci := 7) (wr := ow E ro f ++ mw E rm SM) (rest := []) F h7 2 ww_Law_79 (by decide +kernel) rfl ⟨by decide, by decide⟩ hc0 hfc rfl rfl rfl (Nat.le_of_ble_eq_true rfl) dL_law_561 (fun v_ w1_ hp => ?_)
  obtain ⟨rfl, c1, rfl, h1⟩ := hp
  refine z_aload_n (pc := 564) F dL_law_564 rfl 2 rfl ?_
  refine z_aload_n (pc := 565) F dL_law_565 rfl 0 rfl ?_
  refine z_iload (pc := 566) F dL_law_566 4 rfl ?_
  refine z_iconst (pc := 568) (v := 1) F dL_law_568 (by decide) ?_
  refine z_iadd (pc := 569) F dL_law_569 ?_
  refine z_sld (pc := 570) F hs (i + 1) (nI_add i 1) (by omega) hL dL_law_570 ?_
  refine z_aload_n (pc := 571) F dL_law_571 rfl 0 rfl ?_
  refine z_iload (pc := 572) F dL_law_572 4 rfl ?_
  refine z_iconst (pc := 574) (v := 2) F dL_law_574 (by decide) ?_
  refine z_iadd (pc := 575) F dL_law_575 ?_
  refine z_sld (pc := 576) F hs (i + 2) (nI_add i 2) (by omega) hL dL_law_576 ?_
  refine z_callVM (pc := 577) (wa := cW E R c1) (wb := ow E ro f) (q0 := 0) (ci := 8) (rest := [.int a]) F h8 2 ww_Law_82 (by decide +kernel) rfl ⟨by decide, by decide⟩ hc0 hfm rfl rfl rfl (Nat.le_of_ble_eq_true rfl) dL_law_577 (fun v_ w1_ hp => ?_)
  obtain ⟨rfl, S1, rfl, h2⟩ := hp
  refine z_icmp_eq (pc := 580) (tgt := 872) F dL_law_580 (by decide) (fun _ => ?_) (fun e_ => absurd rfl e_)
  refine z_widen (k' := k + 1) (n' := n + 6) (Nat.le_succ k) (Nat.le_add_right n 6) ?_
  exact K _ _ _ (hr _ _ h1 h2)
set_option maxRecDepth 100000 in
theorem lc_key {X : zT} {l : Launch} {E : zE} {R : cR} {ro rm : Nat → Nat} {k n sb L i : Nat} {xs : Nat → Int32} {c : cS} {f SM : zS} (hl : l.stackTraces = false) (F : zF X l room_1 E cL_law 8 "LiveQueriesLaw") (hZ : zX X) (hs : scr X sb L xs) (hi : i + 5 ≤ L) (hL : L < 2 ^ 31) (hk : k + 1 ≤ 601024) (hn : n + 6 ≤ 7293034) (h : RELx c SM) (K : ∀ (c' : cS) (f' SM' : zS), RELx c' SM' → Z X (k + 1) (n + 6) (lwW E R ro rm c' f' SM') (lwL sb R rm ro i) 872 []) : Z X k n (lwW E R ro rm c f SM) (lwL sb R rm ro i) 585 [] := by
  have hc0 : k + 0 ≤ room_1.cells ∧ n + 0 ≤ room_1.slots := ⟨Nat.le_trans (Nat.le_succ k) hk, Nat.le_trans (Nat.le_add_right n 6) hn⟩
  have hcx : k + 1 ≤ room_1.cells ∧ n + 6 ≤ room_1.slots := ⟨hk, hn⟩
  have hc1 : k + 1 + 0 ≤ room_1.cells ∧ n + 6 + 0 ≤ room_1.slots := ⟨hk, hn⟩
  obtain ⟨fc, hfc⟩ := cW_0 E R c
  obtain ⟨fm, hfm⟩ := mw_0 E rm SM
  rcases t_key (E := E) (R := R) (rm := rm) hl h (xs (i + 1)) (xs (i + 2)) with ⟨a, P, Q, h7, h8, hr⟩ | ⟨a, c1, Q, h7, h8, hr⟩
  · refine z_aload_n (pc := 585) F dL_law_585 rfl 1 rfl ?_
    refine z_aload_n (pc := 586) F dL_law_586 rfl 0 rfl ?_
    refine z_iload (pc := 587) F dL_law_587 4 rfl ?_
    refine z_iconst (pc := 589) (v := 1) F dL_law_589 (by decide) ?_
    refine z_iadd (pc := 590) F dL_law_590 ?_
    refine z_sld (pc := 591) F hs (i + 1) (nI_add i 1) (by omega) hL dL_law_591 ?_
    refine z_aload_n (pc := 592) F dL_law_592 rfl 0 rfl ?_
    refine z_iload (pc := 593) F dL_law_593 4 rfl ?_
    refine z_iconst (pc := 595) (v := 2) F dL_law_595 (by decide) ?_
    refine z_iadd (pc := 596) F dL_law_596 ?_
    refine z_sld (pc := 597) F hs (i + 2) (nI_add i 2) (by omega) hL dL_law_597 ?_
    refine z_aload_n (pc := 598) F dL_law_598 rfl 3 rfl ?_
    refine z_perm (ws' := (cW E R c ++ ow E ro f) ++ mw E rm SM) (List.Perm.of_eq (List.append_assoc _ _ _).symm) ?_
    refine z_callSH (pc := 599) (wc := cW E R c ++ ow E ro f) (wr := mw E rm SM) (rest := []) F hZ (l_key_y l hl E R ro c f ((xs (i + 1))) ((xs (i + 2))) a P h7) 4 wh_key (by decide +kernel) rfl ⟨by decide, by decide⟩ hcx rfl (Nat.le_of_ble_eq_true rfl) dL_law_599 (fun v_ w1_ hp => ?_)
    obtain ⟨rfl, c1, rfl, h1⟩ := hp
    refine z_perm (ws' := cW E R c1 ++ (ow E ro (zB f 0 0 a) ++ mw E rm SM)) (List.Perm.of_eq (List.append_assoc _ _ _)) ?_
    refine z_istore (pc := 602) (lv' := [(0, .ref sb), (1, .ref (R.1 0)), (2, .ref (rm 0)), (3, .ref (ro 0)), (4, .int (nI i)), (5, .int 0)]) F dL_law_602 (by decide) [1, 2, 3, 4, 5, 0] rfl ?_
    refine z_aload_n (pc := 604) F dL_law_604 rfl 2 rfl ?_
    refine z_aload_n (pc := 605) F dL_law_605 rfl 0 rfl ?_
    refine z_iload (pc := 606) F dL_law_606 4 rfl ?_
    refine z_iconst (pc := 608) (v := 1) F dL_law_608 (by decide) ?_
    refine z_iadd (pc := 609) F dL_law_609 ?_
    refine z_sld (pc := 610) F hs (i + 1) (nI_add i 1) (by omega) hL dL_law_610 ?_
    refine z_aload_n (pc := 611) F dL_law_611 rfl 0 rfl ?_
    refine z_iload (pc := 612) F dL_law_612 4 rfl ?_
    refine z_iconst (pc := 614) (v := 2) F dL_law_614 (by decide) ?_
    refine z_iadd (pc := 615) F dL_law_615 ?_
    refine z_sld (pc := 616) F hs (i + 2) (nI_add i 2) (by omega) hL dL_law_616 ?_
    refine z_callVM (pc := 617) (wa := cW E R c1) (wb := ow E ro (zB f 0 0 a)) (q0 := 0) (ci := 8) (rest := []) F h8 2 ww_Law_86 (by decide +kernel) rfl ⟨by decide, by decide⟩ hc1 hfm rfl rfl rfl (Nat.le_of_ble_eq_true rfl) dL_law_617 (fun v_ w1_ hp => ?_)
    obtain ⟨rfl, S1, rfl, h2⟩ := hp
    obtain ⟨hr1, hz⟩ := hr _ _ h1 h2
    refine z_lstore (pc := 620) (lv' := [(0, .ref sb), (1, .ref (R.1 0)), (2, .ref (rm 0)), (3, .ref (ro 0)), (4, .int (nI i)), (5, .int 0), (6, .long a)]) F dL_law_620 (by decide) [1, 2, 3, 4, 5, 6, 0] rfl ?_
    refine z_aload_n (pc := 622) F dL_law_622 rfl 2 rfl ?_
    obtain ⟨fm2, hfm2⟩ := mw_0 E rm S1
    refine z_callVM (pc := 623) (wa := cW E R c1) (wb := ow E ro (zB f 0 0 a)) (q0 := 0) (ci := 8) (rest := []) F (c_X8_thrown l E rm S1) 0 ww_Law_72 (by decide +kernel) rfl ⟨by decide, by decide⟩ hc1 hfm2 rfl rfl rfl (Nat.le_of_ble_eq_true rfl) dL_law_623 (fun v_ w1_ hp => ?_)
    obtain ⟨rfl, rfl⟩ := hp
    refine z_iload (pc := 626) F dL_law_626 5 rfl ?_
    refine z_icmp_eq (pc := 628) (tgt := 633) F dL_law_628 (by decide) (fun _ => ?_) (fun e_ => absurd hz e_)
    refine z_iload (pc := 633) F dL_law_633 5 rfl ?_
    refine z_if_ne (pc := 635) (tgt := 649) F dL_law_635 (by decide) (fun e_ => absurd rfl e_) (fun _ => ?_)
    refine z_aload_n (pc := 638) F dL_law_638 rfl 3 rfl ?_
    refine z_iconst (pc := 639) (v := 0) F dL_law_639 (by decide) ?_
    refine z_outld (pc := 640) F dL_law_640 ?_
    refine z_lload (pc := 641) F dL_law_641 6 rfl ?_
    refine z_l_eq (pc := 643) (tgt := 649) F dL_law_643 dL_law_644 (by decide) (fun _ => ?_) (fun e_ => absurd rfl e_)
    refine z_goto (pc := 649) (tgt := 872) F dL_law_649 (by decide) ?_
    refine z_locals [0, 1, 2, 3, 4] rfl ?_
    exact K _ _ _ hr1
  · refine z_aload_n (pc := 585) F dL_law_585 rfl 1 rfl ?_
    refine z_aload_n (pc := 586) F dL_law_586 rfl 0 rfl ?_
    refine z_iload (pc := 587) F dL_law_587 4 rfl ?_
    refine z_iconst (pc := 589) (v := 1) F dL_law_589 (by decide) ?_
    refine z_iadd (pc := 590) F dL_law_590 ?_
    refine z_sld (pc := 591) F hs (i + 1) (nI_add i 1) (by omega) hL dL_law_591 ?_
    refine z_aload_n (pc := 592) F dL_law_592 rfl 0 rfl ?_
    refine z_iload (pc := 593) F dL_law_593 4 rfl ?_
    refine z_iconst (pc := 595) (v := 2) F dL_law_595 (by decide) ?_
    refine z_iadd (pc := 596) F dL_law_596 ?_
    refine z_sld (pc := 597) F hs (i + 2) (nI_add i 2) (by omega) hL dL_law_597 ?_
    refine z_aload_n (pc := 598) F dL_law_598 rfl 3 rfl ?_
    refine z_perm (ws' := (cW E R c ++ ow E ro f) ++ mw E rm SM) (List.Perm.of_eq (List.append_assoc _ _ _).symm) ?_
    refine z_callSH (pc := 599) (wc := cW E R c ++ ow E ro f) (wr := mw E rm SM) (rest := []) F hZ (l_key_x l hl E R ro c f ((xs (i + 1))) ((xs (i + 2))) c1 h7) 4 wh_key (by decide +kernel) rfl ⟨by decide, by decide⟩ hcx rfl (Nat.le_of_ble_eq_true rfl) dL_law_599 (fun v_ w1_ hp => ?_)
    obtain ⟨rfl, rfl⟩ := hp
    refine z_perm (ws' := cW E R c1 ++ (ow E ro f ++ mw E rm SM)) (List.Perm.of_eq (List.append_assoc _ _ _)) ?_
    refine z_istore (pc := 602) (lv' := [(0, .ref sb), (1, .ref (R.1 0)), (2, .ref (rm 0)), (3, .ref (ro 0)), (4, .int (nI i)), (5, .int 1)]) F dL_law_602 (by decide) [1, 2, 3, 4, 5, 0] rfl ?_
    refine z_aload_n (pc := 604) F dL_law_604 rfl 2 rfl ?_
    refine z_aload_n (pc := 605) F dL_law_605 rfl 0 rfl ?_
    refine z_iload (pc := 606) F dL_law_606 4 rfl ?_
    refine z_iconst (pc := 608) (v := 1) F dL_law_608 (by decide) ?_
    refine z_iadd (pc := 609) F dL_law_609 ?_
    refine z_sld (pc := 610) F hs (i + 1) (nI_add i 1) (by omega) hL dL_law_610 ?_
    refine z_aload_n (pc := 611) F dL_law_611 rfl 0 rfl ?_
    refine z_iload (pc := 612) F dL_law_612 4 rfl ?_
    refine z_iconst (pc := 614) (v := 2) F dL_law_614 (by decide) ?_
    refine z_iadd (pc := 615) F dL_law_615 ?_
    refine z_sld (pc := 616) F hs (i + 2) (nI_add i 2) (by omega) hL dL_law_616 ?_
    refine z_callVM (pc := 617) (wa := cW E R c1) (wb := ow E ro f) (q0 := 0) (ci := 8) (rest := []) F h8 2 ww_Law_86 (by decide +kernel) rfl ⟨by decide, by decide⟩ hc1 hfm rfl rfl rfl (Nat.le_of_ble_eq_true rfl) dL_law_617 (fun v_ w1_ hp => ?_)
    obtain ⟨rfl, S1, rfl, h2⟩ := hp
    obtain ⟨hr1, hz⟩ := hr _ h2
    refine z_lstore (pc := 620) (lv' := [(0, .ref sb), (1, .ref (R.1 0)), (2, .ref (rm 0)), (3, .ref (ro 0)), (4, .int (nI i)), (5, .int 1), (6, .long a)]) F dL_law_620 (by decide) [1, 2, 3, 4, 5, 6, 0] rfl ?_
    refine z_aload_n (pc := 622) F dL_law_622 rfl 2 rfl ?_
    obtain ⟨fm2, hfm2⟩ := mw_0 E rm S1
    refine z_callVM (pc := 623) (wa := cW E R c1) (wb := ow E ro f) (q0 := 0) (ci := 8) (rest := []) F (c_X8_thrown l E rm S1) 0 ww_Law_72 (by decide +kernel) rfl ⟨by decide, by decide⟩ hc1 hfm2 rfl rfl rfl (Nat.le_of_ble_eq_true rfl) dL_law_623 (fun v_ w1_ hp => ?_)
    obtain ⟨rfl, rfl⟩ := hp
    refine z_iload (pc := 626) F dL_law_626 5 rfl ?_
    refine z_icmp_eq (pc := 628) (tgt := 633) F dL_law_628 (by decide) (fun _ => ?_) (fun e_ => absurd hz e_)
    refine z_iload (pc := 633) F dL_law_633 5 rfl ?_
    refine z_if_ne (pc := 635) (tgt := 649) F dL_law_635 (by decide) (fun _ => ?_) (fun e_ => absurd e_ (by decide))
    refine z_goto (pc := 649) (tgt := 872) F dL_law_649 (by decide) ?_
    refine z_locals [0, 1, 2, 3, 4] rfl ?_
    exact K _ _ _ hr1
set_option maxRecDepth 100000 in
theorem lc_group {X : zT} {l : Launch} {E : zE} {R : cR} {ro rm : Nat → Nat} {k n sb L i : Nat} {xs : Nat → Int32} {c : cS} {f SM : zS} (hl : l.stackTraces = false) (F : zF X l room_1 E cL_law 8 "LiveQueriesLaw") (hZ : zX X) (hs : scr X sb L xs) (hi : i + 5 ≤ L) (hL : L < 2 ^ 31) (hk : k + 1 ≤ 601024) (hn : n + 6 ≤ 7293034) (h : RELx c SM) (K : ∀ (c' : cS) (f' SM' : zS), RELx c' SM' → Z X (k + 1) (n + 6) (lwW E R ro rm c' f' SM') (lwL sb R rm ro i) 872 []) : Z X k n (lwW E R ro rm c f SM) (lwL sb R rm ro i) 652 [] := by
  have hc0 : k + 0 ≤ room_1.cells ∧ n + 0 ≤ room_1.slots := ⟨Nat.le_trans (Nat.le_succ k) hk, Nat.le_trans (Nat.le_add_right n 6) hn⟩
  have hcx : k + 1 ≤ room_1.cells ∧ n + 6 ≤ room_1.slots := ⟨hk, hn⟩
  have hc1 : k + 1 + 0 ≤ room_1.cells ∧ n + 6 + 0 ≤ room_1.slots := ⟨hk, hn⟩
  obtain ⟨fc, hfc⟩ := cW_0 E R c
  obtain ⟨fm, hfm⟩ := mw_0 E rm SM
  rcases t_group (E := E) (R := R) (rm := rm) hl h (xs (i + 1)) (xs (i + 2)) (xs (i + 3)) with ⟨a, P, Q, h7, h8, hr⟩ | ⟨a, c1, Q, h7, h8, hr⟩
  · refine z_aload_n (pc := 652) F dL_law_652 rfl 1 rfl ?_
    refine z_aload_n (pc := 653) F dL_law_653 rfl 0 rfl ?_
    refine z_iload (pc := 654) F dL_law_654 4 rfl ?_
    refine z_iconst (pc := 656) (v := 1) F dL_law_656 (by decide) ?_
    refine z_iadd (pc := 657) F dL_law_657 ?_
    refine z_sld (pc := 658) F hs (i + 1) (nI_add i 1) (by omega) hL dL_law_658 ?_
    refine z_aload_n (pc := 659) F dL_law_659 rfl 0 rfl ?_
    refine z_iload (pc := 660) F dL_law_660 4 rfl ?_
    refine z_iconst (pc := 662) (v := 2) F dL_law_662 (by decide) ?_
    refine z_iadd (pc := 663) F dL_law_663 ?_
    refine z_sld (pc := 664) F hs (i + 2) (nI_add i 2) (by omega) hL dL_law_664 ?_
    refine z_aload_n (pc := 665) F dL_law_665 rfl 0 rfl ?_
    refine z_iload (pc := 666) F dL_law_666 4 rfl ?_
    refine z_iconst (pc := 668) (v := 3) F dL_law_668 (by decide) ?_
    refine z_iadd (pc := 669) F dL_law_669 ?_
    refine z_sld (pc := 670) F hs (i + 3) (nI_add i 3) (by omega) hL dL_law_670 ?_
    refine z_aload_n (pc := 671) F dL_law_671 rfl 3 rfl ?_
    refine z_perm (ws' := (cW E R c ++ ow E ro f) ++ mw E rm SM) (List.Perm.of_eq (List.append_assoc _ _ _).symm) ?_
    refine z_callSH (pc := 672) (wc := cW E R c ++ ow E ro f) (wr := mw E rm SM) (rest := []) F hZ (l_group_y l hl E R ro c f ((xs (i + 1))) ((xs (i + 2))) ((xs (i + 3))) a P h7) 5 wh_group (by decide +kernel) rfl ⟨by decide, by decide⟩ hcx rfl (Nat.le_of_ble_eq_true rfl) dL_law_672 (fun v_ w1_ hp => ?_)
    obtain ⟨rfl, c1, rfl, h1⟩ := hp
    refine z_perm (ws' := cW E R c1 ++ (ow E ro (zB f 0 0 a) ++ mw E rm SM)) (List.Perm.of_eq (List.append_assoc _ _ _)) ?_
    refine z_istore (pc := 675) (lv' := [(0, .ref sb), (1, .ref (R.1 0)), (2, .ref (rm 0)), (3, .ref (ro 0)), (4, .int (nI i)), (5, .int 0)]) F dL_law_675 (by decide) [1, 2, 3, 4, 5, 0] rfl ?_
    refine z_aload_n (pc := 677) F dL_law_677 rfl 2 rfl ?_
    refine z_aload_n (pc := 678) F dL_law_678 rfl 0 rfl ?_
    refine z_iload (pc := 679) F dL_law_679 4 rfl ?_
    refine z_iconst (pc := 681) (v := 1) F dL_law_681 (by decide) ?_
    refine z_iadd (pc := 682) F dL_law_682 ?_
    refine z_sld (pc := 683) F hs (i + 1) (nI_add i 1) (by omega) hL dL_law_683 ?_
    refine z_aload_n (pc := 684) F dL_law_684 rfl 0 rfl ?_
    refine z_iload (pc := 685) F dL_law_685 4 rfl ?_
    refine z_iconst (pc := 687) (v := 2) F dL_law_687 (by decide) ?_
    refine z_iadd (pc := 688) F dL_law_688 ?_
    refine z_sld (pc := 689) F hs (i + 2) (nI_add i 2) (by omega) hL dL_law_689 ?_
    refine z_aload_n (pc := 690) F dL_law_690 rfl 0 rfl ?_
    refine z_iload (pc := 691) F dL_law_691 4 rfl ?_
    refine z_iconst (pc := 693) (v := 3) F dL_law_693 (by decide) ?_
    refine z_iadd (pc := 694) F dL_law_694 ?_
    refine z_sld (pc := 695) F hs (i + 3) (nI_add i 3) (by omega) hL dL_law_695 ?_
    refine z_callVM (pc := 696) (wa := cW E R c1) (wb := ow E ro (zB f 0 0 a)) (q0 := 0) (ci := 8) (rest := []) F h8 3 ww_Law_90 (by decide +kernel) rfl ⟨by decide, by decide⟩ hc1 hfm rfl rfl rfl (Nat.le_of_ble_eq_true rfl) dL_law_696 (fun v_ w1_ hp => ?_)
    obtain ⟨rfl, S1, rfl, h2⟩ := hp
    obtain ⟨hr1, hz⟩ := hr _ _ h1 h2
    refine z_lstore (pc := 699) (lv' := [(0, .ref sb), (1, .ref (R.1 0)), (2, .ref (rm 0)), (3, .ref (ro 0)), (4, .int (nI i)), (5, .int 0), (6, .long a)]) F dL_law_699 (by decide) [1, 2, 3, 4, 5, 6, 0] rfl ?_
    refine z_aload_n (pc := 701) F dL_law_701 rfl 2 rfl ?_
    obtain ⟨fm2, hfm2⟩ := mw_0 E rm S1
    refine z_callVM (pc := 702) (wa := cW E R c1) (wb := ow E ro (zB f 0 0 a)) (q0 := 0) (ci := 8) (rest := []) F (c_X8_thrown l E rm S1) 0 ww_Law_72 (by decide +kernel) rfl ⟨by decide, by decide⟩ hc1 hfm2 rfl rfl rfl (Nat.le_of_ble_eq_true rfl) dL_law_702 (fun v_ w1_ hp => ?_)
    obtain ⟨rfl, rfl⟩ := hp
    refine z_iload (pc := 705) F dL_law_705 5 rfl ?_
    refine z_icmp_eq (pc := 707) (tgt := 712) F dL_law_707 (by decide) (fun _ => ?_) (fun e_ => absurd hz e_)
    refine z_iload (pc := 712) F dL_law_712 5 rfl ?_
    refine z_if_ne (pc := 714) (tgt := 728) F dL_law_714 (by decide) (fun e_ => absurd rfl e_) (fun _ => ?_)
    refine z_aload_n (pc := 717) F dL_law_717 rfl 3 rfl ?_
    refine z_iconst (pc := 718) (v := 0) F dL_law_718 (by decide) ?_
    refine z_outld (pc := 719) F dL_law_719 ?_
    refine z_lload (pc := 720) F dL_law_720 6 rfl ?_
    refine z_l_eq (pc := 722) (tgt := 728) F dL_law_722 dL_law_723 (by decide) (fun _ => ?_) (fun e_ => absurd rfl e_)
    refine z_goto (pc := 728) (tgt := 872) F dL_law_728 (by decide) ?_
    refine z_locals [0, 1, 2, 3, 4] rfl ?_
    exact K _ _ _ hr1
  · refine z_aload_n (pc := 652) F dL_law_652 rfl 1 rfl ?_
    refine z_aload_n (pc := 653) F dL_law_653 rfl 0 rfl ?_
    refine z_iload (pc := 654) F dL_law_654 4 rfl ?_
    refine z_iconst (pc := 656) (v := 1) F dL_law_656 (by decide) ?_
    refine z_iadd (pc := 657) F dL_law_657 ?_
    refine z_sld (pc := 658) F hs (i + 1) (nI_add i 1) (by omega) hL dL_law_658 ?_
    refine z_aload_n (pc := 659) F dL_law_659 rfl 0 rfl ?_
    refine z_iload (pc := 660) F dL_law_660 4 rfl ?_
    refine z_iconst (pc := 662) (v := 2) F dL_law_662 (by decide) ?_
    refine z_iadd (pc := 663) F dL_law_663 ?_
    refine z_sld (pc := 664) F hs (i + 2) (nI_add i 2) (by omega) hL dL_law_664 ?_
    refine z_aload_n (pc := 665) F dL_law_665 rfl 0 rfl ?_
    refine z_iload (pc := 666) F dL_law_666 4 rfl ?_
    refine z_iconst (pc := 668) (v := 3) F dL_law_668 (by decide) ?_
    refine z_iadd (pc := 669) F dL_law_669 ?_
    refine z_sld (pc := 670) F hs (i + 3) (nI_add i 3) (by omega) hL dL_law_670 ?_
    refine z_aload_n (pc := 671) F dL_law_671 rfl 3 rfl ?_
    refine z_perm (ws' := (cW E R c ++ ow E ro f) ++ mw E rm SM) (List.Perm.of_eq (List.append_assoc _ _ _).symm) ?_
    refine z_callSH (pc := 672) (wc := cW E R c ++ ow E ro f) (wr := mw E rm SM) (rest := []) F hZ (l_group_x l hl E R ro c f ((xs (i + 1))) ((xs (i + 2))) ((xs (i + 3))) c1 h7) 5 wh_group (by decide +kernel) rfl ⟨by decide, by decide⟩ hcx rfl (Nat.le_of_ble_eq_true rfl) dL_law_672 (fun v_ w1_ hp => ?_)
    obtain ⟨rfl, rfl⟩ := hp
    refine z_perm (ws' := cW E R c1 ++ (ow E ro f ++ mw E rm SM)) (List.Perm.of_eq (List.append_assoc _ _ _)) ?_
    refine z_istore (pc := 675) (lv' := [(0, .ref sb), (1, .ref (R.1 0)), (2, .ref (rm 0)), (3, .ref (ro 0)), (4, .int (nI i)), (5, .int 1)]) F dL_law_675 (by decide) [1, 2, 3, 4, 5, 0] rfl ?_
    refine z_aload_n (pc := 677) F dL_law_677 rfl 2 rfl ?_
    refine z_aload_n (pc := 678) F dL_law_678 rfl 0 rfl ?_
    refine z_iload (pc := 679) F dL_law_679 4 rfl ?_
    refine z_iconst (pc := 681) (v := 1) F dL_law_681 (by decide) ?_
    refine z_iadd (pc := 682) F dL_law_682 ?_
    refine z_sld (pc := 683) F hs (i + 1) (nI_add i 1) (by omega) hL dL_law_683 ?_
    refine z_aload_n (pc := 684) F dL_law_684 rfl 0 rfl ?_
    refine z_iload (pc := 685) F dL_law_685 4 rfl ?_
    refine z_iconst (pc := 687) (v := 2) F dL_law_687 (by decide) ?_
    refine z_iadd (pc := 688) F dL_law_688 ?_
    refine z_sld (pc := 689) F hs (i + 2) (nI_add i 2) (by omega) hL dL_law_689 ?_
    refine z_aload_n (pc := 690) F dL_law_690 rfl 0 rfl ?_
    refine z_iload (pc := 691) F dL_law_691 4 rfl ?_
    refine z_iconst (pc := 693) (v := 3) F dL_law_693 (by decide) ?_
    refine z_iadd (pc := 694) F dL_law_694 ?_
    refine z_sld (pc := 695) F hs (i + 3) (nI_add i 3) (by omega) hL dL_law_695 ?_
    refine z_callVM (pc := 696) (wa := cW E R c1) (wb := ow E ro f) (q0 := 0) (ci := 8) (rest := []) F h8 3 ww_Law_90 (by decide +kernel) rfl ⟨by decide, by decide⟩ hc1 hfm rfl rfl rfl (Nat.le_of_ble_eq_true rfl) dL_law_696 (fun v_ w1_ hp => ?_)
    obtain ⟨rfl, S1, rfl, h2⟩ := hp
    obtain ⟨hr1, hz⟩ := hr _ h2
    refine z_lstore (pc := 699) (lv' := [(0, .ref sb), (1, .ref (R.1 0)), (2, .ref (rm 0)), (3, .ref (ro 0)), (4, .int (nI i)), (5, .int 1), (6, .long a)]) F dL_law_699 (by decide) [1, 2, 3, 4, 5, 6, 0] rfl ?_
    refine z_aload_n (pc := 701) F dL_law_701 rfl 2 rfl ?_
    obtain ⟨fm2, hfm2⟩ := mw_0 E rm S1
    refine z_callVM (pc := 702) (wa := cW E R c1) (wb := ow E ro f) (q0 := 0) (ci := 8) (rest := []) F (c_X8_thrown l E rm S1) 0 ww_Law_72 (by decide +kernel) rfl ⟨by decide, by decide⟩ hc1 hfm2 rfl rfl rfl (Nat.le_of_ble_eq_true rfl) dL_law_702 (fun v_ w1_ hp => ?_)
    obtain ⟨rfl, rfl⟩ := hp
    refine z_iload (pc := 705) F dL_law_705 5 rfl ?_
    refine z_icmp_eq (pc := 707) (tgt := 712) F dL_law_707 (by decide) (fun _ => ?_) (fun e_ => absurd hz e_)
    refine z_iload (pc := 712) F dL_law_712 5 rfl ?_
    refine z_if_ne (pc := 714) (tgt := 728) F dL_law_714 (by decide) (fun _ => ?_) (fun e_ => absurd e_ (by decide))
    refine z_goto (pc := 728) (tgt := 872) F dL_law_728 (by decide) ?_
    refine z_locals [0, 1, 2, 3, 4] rfl ?_
    exact K _ _ _ hr1
set_option maxRecDepth 100000 in
theorem lc_differ {X : zT} {l : Launch} {E : zE} {R : cR} {ro rm : Nat → Nat} {k n sb L i : Nat} {xs : Nat → Int32} {c : cS} {f SM : zS} (hl : l.stackTraces = false) (F : zF X l room_1 E cL_law 8 "LiveQueriesLaw") (hZ : zX X) (hs : scr X sb L xs) (hi : i + 5 ≤ L) (hL : L < 2 ^ 31) (hk : k + 1 ≤ 601024) (hn : n + 6 ≤ 7293034) (h : RELx c SM) (K : ∀ (c' : cS) (f' SM' : zS), RELx c' SM' → Z X (k + 1) (n + 6) (lwW E R ro rm c' f' SM') (lwL sb R rm ro i) 872 []) : Z X k n (lwW E R ro rm c f SM) (lwL sb R rm ro i) 731 [] := by
  have hc0 : k + 0 ≤ room_1.cells ∧ n + 0 ≤ room_1.slots := ⟨Nat.le_trans (Nat.le_succ k) hk, Nat.le_trans (Nat.le_add_right n 6) hn⟩
  have hcx : k + 1 ≤ room_1.cells ∧ n + 6 ≤ room_1.slots := ⟨hk, hn⟩
  have hc1 : k + 1 + 0 ≤ room_1.cells ∧ n + 6 + 0 ≤ room_1.slots := ⟨hk, hn⟩
  refine z_aload_n (pc := 731) F dL_law_731 rfl 1 rfl ?_
  refine z_aload_n (pc := 732) F dL_law_732 rfl 0 rfl ?_
  refine z_iload (pc := 733) F dL_law_733 4 rfl ?_
  refine z_iconst (pc := 735) (v := 1) F dL_law_735 (by decide) ?_
  refine z_iadd (pc := 736) F dL_law_736 ?_
  refine z_sld (pc := 737) F hs (i + 1) (nI_add i 1) (by omega) hL dL_law_737 ?_
  refine z_aload_n (pc := 738) F dL_law_738 rfl 0 rfl ?_
  refine z_iload (pc := 739) F dL_law_739 4 rfl ?_
  refine z_iconst (pc := 741) (v := 2) F dL_law_741 (by decide) ?_
  refine z_iadd (pc := 742) F dL_law_742 ?_
  refine z_sld (pc := 743) F hs (i + 2) (nI_add i 2) (by omega) hL dL_law_743 ?_
  obtain ⟨a, P, Q, h7, h8, hr⟩ := t_differ (l := l) (E := E) (R := R) (rm := rm) h ((xs (i + 1))) ((xs (i + 2)))
  obtain ⟨fc, hfc⟩ := cW_0 E R c
  obtain ⟨fm, hfm⟩ := mw_0 E rm SM
  refine z_callVF (pc := 744) (q0 := 0) (ci := 7) (wr := ow E ro f ++ mw E rm SM) (rest := []) F h7 2 ww_Law_91 (by decide +kernel) rfl ⟨by decide, by decide⟩ hc0 hfc rfl rfl rfl (Nat.le_of_ble_eq_true rfl) dL_law_744 (fun v_ w1_ hp => ?_)
  obtain ⟨rfl, c1, rfl, h1⟩ := hp
  refine z_aload_n (pc := 747) F dL_law_747 rfl 2 rfl ?_
  refine z_aload_n (pc := 748) F dL_law_748 rfl 0 rfl ?_
  refine z_iload (pc := 749) F dL_law_749 4 rfl ?_
  refine z_iconst (pc := 751) (v := 1) F dL_law_751 (by decide) ?_
  refine z_iadd (pc := 752) F dL_law_752 ?_
  refine z_sld (pc := 753) F hs (i + 1) (nI_add i 1) (by omega) hL dL_law_753 ?_
  refine z_aload_n (pc := 754) F dL_law_754 rfl 0 rfl ?_
  refine z_iload (pc := 755) F dL_law_755 4 rfl ?_
  refine z_iconst (pc := 757) (v := 2) F dL_law_757 (by decide) ?_
  refine z_iadd (pc := 758) F dL_law_758 ?_
  refine z_sld (pc := 759) F hs (i + 2) (nI_add i 2) (by omega) hL dL_law_759 ?_
  refine z_callVM (pc := 760) (wa := cW E R c1) (wb := ow E ro f) (q0 := 0) (ci := 8) (rest := [.int a]) F h8 2 ww_Law_94 (by decide +kernel) rfl ⟨by decide, by decide⟩ hc0 hfm rfl rfl rfl (Nat.le_of_ble_eq_true rfl) dL_law_760 (fun v_ w1_ hp => ?_)
  obtain ⟨rfl, S1, rfl, h2⟩ := hp
  refine z_icmp_eq (pc := 763) (tgt := 872) F dL_law_763 (by decide) (fun _ => ?_) (fun e_ => absurd rfl e_)
  refine z_widen (k' := k + 1) (n' := n + 6) (Nat.le_succ k) (Nat.le_add_right n 6) ?_
  exact K _ _ _ (hr _ _ h1 h2)
set_option maxRecDepth 100000 in
theorem lc_uses {X : zT} {l : Launch} {E : zE} {R : cR} {ro rm : Nat → Nat} {k n sb L i : Nat} {xs : Nat → Int32} {c : cS} {f SM : zS} (hl : l.stackTraces = false) (F : zF X l room_1 E cL_law 8 "LiveQueriesLaw") (hZ : zX X) (hs : scr X sb L xs) (hi : i + 5 ≤ L) (hL : L < 2 ^ 31) (hk : k + 1 ≤ 601024) (hn : n + 6 ≤ 7293034) (h : RELx c SM) (K : ∀ (c' : cS) (f' SM' : zS), RELx c' SM' → Z X (k + 1) (n + 6) (lwW E R ro rm c' f' SM') (lwL sb R rm ro i) 872 []) : Z X k n (lwW E R ro rm c f SM) (lwL sb R rm ro i) 768 [] := by
  have hc0 : k + 0 ≤ room_1.cells ∧ n + 0 ≤ room_1.slots := ⟨Nat.le_trans (Nat.le_succ k) hk, Nat.le_trans (Nat.le_add_right n 6) hn⟩
  have hcx : k + 1 ≤ room_1.cells ∧ n + 6 ≤ room_1.slots := ⟨hk, hn⟩
  have hc1 : k + 1 + 0 ≤ room_1.cells ∧ n + 6 + 0 ≤ room_1.slots := ⟨hk, hn⟩
  refine z_aload_n (pc := 768) F dL_law_768 rfl 1 rfl ?_
  refine z_aload_n (pc := 769) F dL_law_769 rfl 0 rfl ?_
  refine z_iload (pc := 770) F dL_law_770 4 rfl ?_
  refine z_iconst (pc := 772) (v := 1) F dL_law_772 (by decide) ?_
  refine z_iadd (pc := 773) F dL_law_773 ?_
  refine z_sld (pc := 774) F hs (i + 1) (nI_add i 1) (by omega) hL dL_law_774 ?_
  refine z_aload_n (pc := 775) F dL_law_775 rfl 0 rfl ?_
  refine z_iload (pc := 776) F dL_law_776 4 rfl ?_
  refine z_iconst (pc := 778) (v := 2) F dL_law_778 (by decide) ?_
  refine z_iadd (pc := 779) F dL_law_779 ?_
  refine z_sld (pc := 780) F hs (i + 2) (nI_add i 2) (by omega) hL dL_law_780 ?_
  obtain ⟨a, P, Q, h7, h8, hr⟩ := t_uses (l := l) (E := E) (R := R) (rm := rm) h ((xs (i + 1))) ((xs (i + 2)))
  obtain ⟨fc, hfc⟩ := cW_0 E R c
  obtain ⟨fm, hfm⟩ := mw_0 E rm SM
  refine z_callVF (pc := 781) (q0 := 0) (ci := 7) (wr := ow E ro f ++ mw E rm SM) (rest := []) F h7 2 ww_Law_95 (by decide +kernel) rfl ⟨by decide, by decide⟩ hc0 hfc rfl rfl rfl (Nat.le_of_ble_eq_true rfl) dL_law_781 (fun v_ w1_ hp => ?_)
  obtain ⟨rfl, c1, rfl, h1⟩ := hp
  refine z_aload_n (pc := 784) F dL_law_784 rfl 2 rfl ?_
  refine z_aload_n (pc := 785) F dL_law_785 rfl 0 rfl ?_
  refine z_iload (pc := 786) F dL_law_786 4 rfl ?_
  refine z_iconst (pc := 788) (v := 1) F dL_law_788 (by decide) ?_
  refine z_iadd (pc := 789) F dL_law_789 ?_
  refine z_sld (pc := 790) F hs (i + 1) (nI_add i 1) (by omega) hL dL_law_790 ?_
  refine z_aload_n (pc := 791) F dL_law_791 rfl 0 rfl ?_
  refine z_iload (pc := 792) F dL_law_792 4 rfl ?_
  refine z_iconst (pc := 794) (v := 2) F dL_law_794 (by decide) ?_
  refine z_iadd (pc := 795) F dL_law_795 ?_
  refine z_sld (pc := 796) F hs (i + 2) (nI_add i 2) (by omega) hL dL_law_796 ?_
  refine z_callVM (pc := 797) (wa := cW E R c1) (wb := ow E ro f) (q0 := 0) (ci := 8) (rest := [.int a]) F h8 2 ww_Law_98 (by decide +kernel) rfl ⟨by decide, by decide⟩ hc0 hfm rfl rfl rfl (Nat.le_of_ble_eq_true rfl) dL_law_797 (fun v_ w1_ hp => ?_)
  obtain ⟨rfl, S1, rfl, h2⟩ := hp
  refine z_icmp_eq (pc := 800) (tgt := 872) F dL_law_800 (by decide) (fun _ => ?_) (fun e_ => absurd rfl e_)
  refine z_widen (k' := k + 1) (n' := n + 6) (Nat.le_succ k) (Nat.le_add_right n 6) ?_
  exact K _ _ _ (hr _ _ h1 h2)
set_option maxRecDepth 100000 in
theorem lc_look {X : zT} {l : Launch} {E : zE} {R : cR} {ro rm : Nat → Nat} {k n sb L i : Nat} {xs : Nat → Int32} {c : cS} {f SM : zS} (hl : l.stackTraces = false) (F : zF X l room_1 E cL_law 8 "LiveQueriesLaw") (hZ : zX X) (hs : scr X sb L xs) (hi : i + 5 ≤ L) (hL : L < 2 ^ 31) (hk : k + 1 ≤ 601024) (hn : n + 6 ≤ 7293034) (h : RELx c SM) (K : ∀ (c' : cS) (f' SM' : zS), RELx c' SM' → Z X (k + 1) (n + 6) (lwW E R ro rm c' f' SM') (lwL sb R rm ro i) 872 []) : Z X k n (lwW E R ro rm c f SM) (lwL sb R rm ro i) 805 [] := by
  have hc0 : k + 0 ≤ room_1.cells ∧ n + 0 ≤ room_1.slots := ⟨Nat.le_trans (Nat.le_succ k) hk, Nat.le_trans (Nat.le_add_right n 6) hn⟩
  have hcx : k + 1 ≤ room_1.cells ∧ n + 6 ≤ room_1.slots := ⟨hk, hn⟩
  have hc1 : k + 1 + 0 ≤ room_1.cells ∧ n + 6 + 0 ≤ room_1.slots := ⟨hk, hn⟩
  obtain ⟨fc, hfc⟩ := cW_0 E R c
  obtain ⟨fm, hfm⟩ := mw_0 E rm SM
  rcases t_look (E := E) (R := R) (rm := rm) hl h (xs (i + 1)) (xs (i + 2)) with ⟨a, P, Q, h7, h8, hr⟩ | ⟨a, c1, Q, h7, h8, hr⟩
  · refine z_aload_n (pc := 805) F dL_law_805 rfl 1 rfl ?_
    refine z_aload_n (pc := 806) F dL_law_806 rfl 0 rfl ?_
    refine z_iload (pc := 807) F dL_law_807 4 rfl ?_
    refine z_iconst (pc := 809) (v := 1) F dL_law_809 (by decide) ?_
    refine z_iadd (pc := 810) F dL_law_810 ?_
    refine z_sld (pc := 811) F hs (i + 1) (nI_add i 1) (by omega) hL dL_law_811 ?_
    refine z_aload_n (pc := 812) F dL_law_812 rfl 0 rfl ?_
    refine z_iload (pc := 813) F dL_law_813 4 rfl ?_
    refine z_iconst (pc := 815) (v := 2) F dL_law_815 (by decide) ?_
    refine z_iadd (pc := 816) F dL_law_816 ?_
    refine z_sld (pc := 817) F hs (i + 2) (nI_add i 2) (by omega) hL dL_law_817 ?_
    refine z_aload_n (pc := 818) F dL_law_818 rfl 3 rfl ?_
    refine z_perm (ws' := (cW E R c ++ ow E ro f) ++ mw E rm SM) (List.Perm.of_eq (List.append_assoc _ _ _).symm) ?_
    refine z_callSH (pc := 819) (wc := cW E R c ++ ow E ro f) (wr := mw E rm SM) (rest := []) F hZ (l_look_y l hl E R ro c f ((xs (i + 1))) ((xs (i + 2))) a P h7) 4 wh_look (by decide +kernel) rfl ⟨by decide, by decide⟩ hcx rfl (Nat.le_of_ble_eq_true rfl) dL_law_819 (fun v_ w1_ hp => ?_)
    obtain ⟨rfl, c1, rfl, h1⟩ := hp
    refine z_perm (ws' := cW E R c1 ++ (ow E ro (zB f 0 0 a) ++ mw E rm SM)) (List.Perm.of_eq (List.append_assoc _ _ _)) ?_
    refine z_istore (pc := 822) (lv' := [(0, .ref sb), (1, .ref (R.1 0)), (2, .ref (rm 0)), (3, .ref (ro 0)), (4, .int (nI i)), (5, .int 0)]) F dL_law_822 (by decide) [1, 2, 3, 4, 5, 0] rfl ?_
    refine z_aload_n (pc := 824) F dL_law_824 rfl 2 rfl ?_
    refine z_aload_n (pc := 825) F dL_law_825 rfl 0 rfl ?_
    refine z_iload (pc := 826) F dL_law_826 4 rfl ?_
    refine z_iconst (pc := 828) (v := 1) F dL_law_828 (by decide) ?_
    refine z_iadd (pc := 829) F dL_law_829 ?_
    refine z_sld (pc := 830) F hs (i + 1) (nI_add i 1) (by omega) hL dL_law_830 ?_
    refine z_aload_n (pc := 831) F dL_law_831 rfl 0 rfl ?_
    refine z_iload (pc := 832) F dL_law_832 4 rfl ?_
    refine z_iconst (pc := 834) (v := 2) F dL_law_834 (by decide) ?_
    refine z_iadd (pc := 835) F dL_law_835 ?_
    refine z_sld (pc := 836) F hs (i + 2) (nI_add i 2) (by omega) hL dL_law_836 ?_
    refine z_callVM (pc := 837) (wa := cW E R c1) (wb := ow E ro (zB f 0 0 a)) (q0 := 0) (ci := 8) (rest := []) F h8 2 ww_Law_101 (by decide +kernel) rfl ⟨by decide, by decide⟩ hc1 hfm rfl rfl rfl (Nat.le_of_ble_eq_true rfl) dL_law_837 (fun v_ w1_ hp => ?_)
    obtain ⟨rfl, S1, rfl, h2⟩ := hp
    obtain ⟨hr1, hz⟩ := hr _ _ h1 h2
    refine z_lstore (pc := 840) (lv' := [(0, .ref sb), (1, .ref (R.1 0)), (2, .ref (rm 0)), (3, .ref (ro 0)), (4, .int (nI i)), (5, .int 0), (6, .long a)]) F dL_law_840 (by decide) [1, 2, 3, 4, 5, 6, 0] rfl ?_
    refine z_aload_n (pc := 842) F dL_law_842 rfl 2 rfl ?_
    obtain ⟨fm2, hfm2⟩ := mw_0 E rm S1
    refine z_callVM (pc := 843) (wa := cW E R c1) (wb := ow E ro (zB f 0 0 a)) (q0 := 0) (ci := 8) (rest := []) F (c_X8_thrown l E rm S1) 0 ww_Law_72 (by decide +kernel) rfl ⟨by decide, by decide⟩ hc1 hfm2 rfl rfl rfl (Nat.le_of_ble_eq_true rfl) dL_law_843 (fun v_ w1_ hp => ?_)
    obtain ⟨rfl, rfl⟩ := hp
    refine z_iload (pc := 846) F dL_law_846 5 rfl ?_
    refine z_icmp_eq (pc := 848) (tgt := 853) F dL_law_848 (by decide) (fun _ => ?_) (fun e_ => absurd hz e_)
    refine z_iload (pc := 853) F dL_law_853 5 rfl ?_
    refine z_if_ne (pc := 855) (tgt := 869) F dL_law_855 (by decide) (fun e_ => absurd rfl e_) (fun _ => ?_)
    refine z_aload_n (pc := 858) F dL_law_858 rfl 3 rfl ?_
    refine z_iconst (pc := 859) (v := 0) F dL_law_859 (by decide) ?_
    refine z_outld (pc := 860) F dL_law_860 ?_
    refine z_lload (pc := 861) F dL_law_861 6 rfl ?_
    refine z_l_eq (pc := 863) (tgt := 869) F dL_law_863 dL_law_864 (by decide) (fun _ => ?_) (fun e_ => absurd rfl e_)
    refine z_goto (pc := 869) (tgt := 872) F dL_law_869 (by decide) ?_
    refine z_locals [0, 1, 2, 3, 4] rfl ?_
    exact K _ _ _ hr1
  · refine z_aload_n (pc := 805) F dL_law_805 rfl 1 rfl ?_
    refine z_aload_n (pc := 806) F dL_law_806 rfl 0 rfl ?_
    refine z_iload (pc := 807) F dL_law_807 4 rfl ?_
    refine z_iconst (pc := 809) (v := 1) F dL_law_809 (by decide) ?_
    refine z_iadd (pc := 810) F dL_law_810 ?_
    refine z_sld (pc := 811) F hs (i + 1) (nI_add i 1) (by omega) hL dL_law_811 ?_
    refine z_aload_n (pc := 812) F dL_law_812 rfl 0 rfl ?_
    refine z_iload (pc := 813) F dL_law_813 4 rfl ?_
    refine z_iconst (pc := 815) (v := 2) F dL_law_815 (by decide) ?_
    refine z_iadd (pc := 816) F dL_law_816 ?_
    refine z_sld (pc := 817) F hs (i + 2) (nI_add i 2) (by omega) hL dL_law_817 ?_
    refine z_aload_n (pc := 818) F dL_law_818 rfl 3 rfl ?_
    refine z_perm (ws' := (cW E R c ++ ow E ro f) ++ mw E rm SM) (List.Perm.of_eq (List.append_assoc _ _ _).symm) ?_
    refine z_callSH (pc := 819) (wc := cW E R c ++ ow E ro f) (wr := mw E rm SM) (rest := []) F hZ (l_look_x l hl E R ro c f ((xs (i + 1))) ((xs (i + 2))) c1 h7) 4 wh_look (by decide +kernel) rfl ⟨by decide, by decide⟩ hcx rfl (Nat.le_of_ble_eq_true rfl) dL_law_819 (fun v_ w1_ hp => ?_)
    obtain ⟨rfl, rfl⟩ := hp
    refine z_perm (ws' := cW E R c1 ++ (ow E ro f ++ mw E rm SM)) (List.Perm.of_eq (List.append_assoc _ _ _)) ?_
    refine z_istore (pc := 822) (lv' := [(0, .ref sb), (1, .ref (R.1 0)), (2, .ref (rm 0)), (3, .ref (ro 0)), (4, .int (nI i)), (5, .int 1)]) F dL_law_822 (by decide) [1, 2, 3, 4, 5, 0] rfl ?_
    refine z_aload_n (pc := 824) F dL_law_824 rfl 2 rfl ?_
    refine z_aload_n (pc := 825) F dL_law_825 rfl 0 rfl ?_
    refine z_iload (pc := 826) F dL_law_826 4 rfl ?_
    refine z_iconst (pc := 828) (v := 1) F dL_law_828 (by decide) ?_
    refine z_iadd (pc := 829) F dL_law_829 ?_
    refine z_sld (pc := 830) F hs (i + 1) (nI_add i 1) (by omega) hL dL_law_830 ?_
    refine z_aload_n (pc := 831) F dL_law_831 rfl 0 rfl ?_
    refine z_iload (pc := 832) F dL_law_832 4 rfl ?_
    refine z_iconst (pc := 834) (v := 2) F dL_law_834 (by decide) ?_
    refine z_iadd (pc := 835) F dL_law_835 ?_
    refine z_sld (pc := 836) F hs (i + 2) (nI_add i 2) (by omega) hL dL_law_836 ?_
    refine z_callVM (pc := 837) (wa := cW E R c1) (wb := ow E ro f) (q0 := 0) (ci := 8) (rest := []) F h8 2 ww_Law_101 (by decide +kernel) rfl ⟨by decide, by decide⟩ hc1 hfm rfl rfl rfl (Nat.le_of_ble_eq_true rfl) dL_law_837 (fun v_ w1_ hp => ?_)
    obtain ⟨rfl, S1, rfl, h2⟩ := hp
    obtain ⟨hr1, hz⟩ := hr _ h2
    refine z_lstore (pc := 840) (lv' := [(0, .ref sb), (1, .ref (R.1 0)), (2, .ref (rm 0)), (3, .ref (ro 0)), (4, .int (nI i)), (5, .int 1), (6, .long a)]) F dL_law_840 (by decide) [1, 2, 3, 4, 5, 6, 0] rfl ?_
    refine z_aload_n (pc := 842) F dL_law_842 rfl 2 rfl ?_
    obtain ⟨fm2, hfm2⟩ := mw_0 E rm S1
    refine z_callVM (pc := 843) (wa := cW E R c1) (wb := ow E ro f) (q0 := 0) (ci := 8) (rest := []) F (c_X8_thrown l E rm S1) 0 ww_Law_72 (by decide +kernel) rfl ⟨by decide, by decide⟩ hc1 hfm2 rfl rfl rfl (Nat.le_of_ble_eq_true rfl) dL_law_843 (fun v_ w1_ hp => ?_)
    obtain ⟨rfl, rfl⟩ := hp
    refine z_iload (pc := 846) F dL_law_846 5 rfl ?_
    refine z_icmp_eq (pc := 848) (tgt := 853) F dL_law_848 (by decide) (fun _ => ?_) (fun e_ => absurd hz e_)
    refine z_iload (pc := 853) F dL_law_853 5 rfl ?_
    refine z_if_ne (pc := 855) (tgt := 869) F dL_law_855 (by decide) (fun _ => ?_) (fun e_ => absurd e_ (by decide))
    refine z_goto (pc := 869) (tgt := 872) F dL_law_869 (by decide) ?_
    refine z_locals [0, 1, 2, 3, 4] rfl ?_
    exact K _ _ _ hr1
/-! the law's loop -/
theorem lw_le {L i : Nat} (hL : L ≤ 2560) (hi : i < 2 ^ 31) (h : ¬ nI L - 5 < nI i) : i + 5 ≤ L := by
  by_cases e : 5 ≤ L
  · obtain ⟨j, rfl⟩ : ∃ j, L = j + 5 := ⟨L - 5, by omega⟩
    have e1 : nI (j + 5) - 5 = nI j := by
      have e : nI (j + 5) = nI j + 5 := (nI_add j 5).symm
      rw [e]
      first | exact Int32.add_sub_cancel _ _ | simp
    rw [e1, Int32.lt_iff_toInt_lt, nI_toInt (by omega), nI_toInt hi] at h
    omega
  · exfalso
    have e2 : ∀ L : Nat, L < 5 → (nI L - 5).toInt < 0 := by decide +kernel
    have := e2 L (by omega)
    rw [Int32.lt_iff_toInt_lt, nI_toInt hi] at h
    omega
theorem lw_sw (v : Int32) : (v.toInt < 0 ∨ 14 < v.toInt) ∨ ∃ j : Nat, j < 15 ∧ v = nI j := by
  by_cases e : v.toInt < 0 ∨ 14 < v.toInt
  · exact Or.inl e
  · exact Or.inr ⟨v.toInt.toNat, by omega, Int32.toInt_inj.mp (by rw [nI_toInt (by omega)]; omega)⟩
set_option maxRecDepth 100000 in
theorem lw_loop {X : zT} {l : Launch} {E : zE} {R : cR} {ro rm : Nat → Nat} {sb L : Nat} {xs : Nat → Int32} (hl : l.stackTraces = false) (F : zF X l room_1 E cL_law 8 "LiveQueriesLaw") (hZ : zX X) (hs : scr X sb L xs) (hL : L ≤ 2560) (KE : ∀ (k n : Nat) (ws : va_W) (lv : List (Nat × Value)), k ≤ 601024 → n ≤ 7293034 → Z X k n ws lv 879 [.int 1]) :
    ∀ (t i k n : Nat) (c : cS) (f SM : zS), L < i + 5 * t → k + t ≤ 9000 → n + 6 * t ≤ 90000 → i ≤ 2565 → RELx c SM → Z X k n (lwW E R ro rm c f SM) (lwL sb R rm ro i) 23 []
  | 0, i, k, n, c, f, SM, h1, h2, h3, h4, h => by
    refine z_iload (pc := 23) F dL_law_23 4 rfl ?_
    refine z_aload_n (pc := 25) F dL_law_25 rfl 0 rfl ?_
    refine z_slen (pc := 26) F hs dL_law_26 ?_
    refine z_iconst (pc := 27) (v := 5) F dL_law_27 (by decide) ?_
    refine z_isub (pc := 28) F dL_law_28 ?_
    refine z_icmp_gt (pc := 29) (tgt := 878) F dL_law_29 (by decide) (fun _ => ?_) (fun e_ => ?_)
    · refine z_iconst (pc := 878) (v := 1) F dL_law_878 (by decide) ?_
      exact KE _ _ _ _ (by omega) (by omega)
    exact absurd (lw_le hL (by omega) e_) (by omega)
  | t + 1, i, k, n, c, f, SM, h1, h2, h3, h4, h => by
    refine z_iload (pc := 23) F dL_law_23 4 rfl ?_
    refine z_aload_n (pc := 25) F dL_law_25 rfl 0 rfl ?_
    refine z_slen (pc := 26) F hs dL_law_26 ?_
    refine z_iconst (pc := 27) (v := 5) F dL_law_27 (by decide) ?_
    refine z_isub (pc := 28) F dL_law_28 ?_
    refine z_icmp_gt (pc := 29) (tgt := 878) F dL_law_29 (by decide) (fun _ => ?_) (fun e_ => ?_)
    · refine z_iconst (pc := 878) (v := 1) F dL_law_878 (by decide) ?_
      exact KE _ _ _ _ (by omega) (by omega)
    have hi : i + 5 ≤ L := lw_le hL (by omega) e_
    refine z_aload_n (pc := 32) F dL_law_32 rfl 0 rfl ?_
    refine z_iload (pc := 33) F dL_law_33 4 rfl ?_
    refine z_sld (pc := 35) F hs i rfl (by omega) (by omega) dL_law_35 ?_
    refine z_bipush (pc := 36) (v := 15) F dL_law_36 (by decide) ?_
    refine z_iand (pc := 38) F dL_law_38 ?_
    have KN : ∀ (c' : cS) (f' SM' : zS), RELx c' SM' → Z X (k + 1) (n + 6) (lwW E R ro rm c' f' SM') (lwL sb R rm ro i) 872 [] := fun c' f' SM' h' => by
      refine z_iinc (pc := 872) (j := 4) (v := nI (i + 5)) (lv' := lwL sb R rm ro (i + 5)) F dL_law_872 rfl (nI_add i 5) (by decide) [1, 2, 3, 4, 0] rfl ?_
      refine z_goto (pc := 875) (tgt := 23) F dL_law_875 (by decide) ?_
      exact lw_loop hl F hZ hs hL KE t (i + 5) (k + 1) (n + 6) c' f' SM' (by omega) (by omega) (by omega) (by omega) h'
    generalize xs i &&& 15 = v
    rcases lw_sw v with e | ⟨j, hj, rfl⟩
    · refine z_tableOut (pc := 39) (tgt := 872) F dL_law_39 e (by decide) ?_
      exact z_widen (Nat.le_succ k) (Nat.le_add_right n 6) (KN c f SM h)
    · rcases (show j = 0 ∨ j = 1 ∨ j = 2 ∨ j = 3 ∨ j = 4 ∨ j = 5 ∨ j = 6 ∨ j = 7 ∨ j = 8 ∨ j = 9 ∨ j = 10 ∨ j = 11 ∨ j = 12 ∨ j = 13 ∨ j = 14 by omega) with rfl | rfl | rfl | rfl | rfl | rfl | rfl | rfl | rfl | rfl | rfl | rfl | rfl | rfl | rfl
      · exact z_tableIn (pc := 39) (off := 73) (tgt := 112) F dL_law_39 (by decide) (by decide) (by decide) (by decide) (lc_object hl F hZ hs hi (by omega) (by omega) (by omega) h KN)
      · exact z_tableIn (pc := 39) (off := 98) (tgt := 137) F dL_law_39 (by decide) (by decide) (by decide) (by decide) (lc_put hl F hZ hs hi (by omega) (by omega) (by omega) h KN)
      · exact z_tableIn (pc := 39) (off := 179) (tgt := 218) F dL_law_39 (by decide) (by decide) (by decide) (by decide) (lc_refer hl F hZ hs hi (by omega) (by omega) (by omega) h KN)
      · exact z_tableIn (pc := 39) (off := 216) (tgt := 255) F dL_law_39 (by decide) (by decide) (by decide) (by decide) (lc_row hl F hZ hs hi (by omega) (by omega) (by omega) h KN)
      · exact z_tableIn (pc := 39) (off := 253) (tgt := 292) F dL_law_39 (by decide) (by decide) (by decide) (by decide) (lc_item hl F hZ hs hi (by omega) (by omega) (by omega) h KN)
      · exact z_tableIn (pc := 39) (off := 334) (tgt := 373) F dL_law_39 (by decide) (by decide) (by decide) (by decide) (lc_drop hl F hZ hs hi (by omega) (by omega) (by omega) h KN)
      · exact z_tableIn (pc := 39) (off := 359) (tgt := 398) F dL_law_39 (by decide) (by decide) (by decide) (by decide) (lc_type hl F hZ hs hi (by omega) (by omega) (by omega) h KN)
      · exact z_tableIn (pc := 39) (off := 428) (tgt := 467) F dL_law_39 (by decide) (by decide) (by decide) (by decide) (lc_query hl F hZ hs hi (by omega) (by omega) (by omega) h KN)
      · exact z_tableIn (pc := 39) (off := 472) (tgt := 511) F dL_law_39 (by decide) (by decide) (by decide) (by decide) (lc_size hl F hZ hs hi (by omega) (by omega) (by omega) h KN)
      · exact z_tableIn (pc := 39) (off := 509) (tgt := 548) F dL_law_39 (by decide) (by decide) (by decide) (by decide) (lc_got hl F hZ hs hi (by omega) (by omega) (by omega) h KN)
      · exact z_tableIn (pc := 39) (off := 546) (tgt := 585) F dL_law_39 (by decide) (by decide) (by decide) (by decide) (lc_key hl F hZ hs hi (by omega) (by omega) (by omega) h KN)
      · exact z_tableIn (pc := 39) (off := 613) (tgt := 652) F dL_law_39 (by decide) (by decide) (by decide) (by decide) (lc_group hl F hZ hs hi (by omega) (by omega) (by omega) h KN)
      · exact z_tableIn (pc := 39) (off := 692) (tgt := 731) F dL_law_39 (by decide) (by decide) (by decide) (by decide) (lc_differ hl F hZ hs hi (by omega) (by omega) (by omega) h KN)
      · exact z_tableIn (pc := 39) (off := 729) (tgt := 768) F dL_law_39 (by decide) (by decide) (by decide) (by decide) (lc_uses hl F hZ hs hi (by omega) (by omega) (by omega) h KN)
      · exact z_tableIn (pc := 39) (off := 766) (tgt := 805) F dL_law_39 (by decide) (by decide) (by decide) (by decide) (lc_look hl F hZ hs hi (by omega) (by omega) (by omega) h KN)

