/-! ===== the items of the codes are what the class files say ===== -/
theorem ok_200_0 : zc_X11_bestOf_0.all (fun q => z_okI 200 q.1 q.2) = true := by decide +kernel
theorem ok_200 : (z_cds.getD 200 []).all (fun q => z_okI 200 q.1 q.2) = true := ok_200_0
theorem ok_201_0 : zc_X11_best_0.all (fun q => z_okI 201 q.1 q.2) = true := by decide +kernel
theorem ok_201 : (z_cds.getD 201 []).all (fun q => z_okI 201 q.1 q.2) = true := ok_201_0
theorem ok_202_0 : zc_X11_breakersOf_0.all (fun q => z_okI 202 q.1 q.2) = true := by decide +kernel
theorem ok_202 : (z_cds.getD 202 []).all (fun q => z_okI 202 q.1 q.2) = true := ok_202_0
theorem ok_203_0 : zc_X11_breakers_0.all (fun q => z_okI 203 q.1 q.2) = true := by decide +kernel
theorem ok_203 : (z_cds.getD 203 []).all (fun q => z_okI 203 q.1 q.2) = true := ok_203_0
theorem ok_204_0 : zc_X11_lent_0.all (fun q => z_okI 204 q.1 q.2) = true := by decide +kernel
theorem ok_204_1 : zc_X11_lent_1.all (fun q => z_okI 204 q.1 q.2) = true := by decide +kernel
theorem ok_204 : (z_cds.getD 204 []).all (fun q => z_okI 204 q.1 q.2) = true := by
  show (zc_X11_lent).all _ = true
  unfold zc_X11_lent
  simp only [List.all_append, Bool.and_eq_true]
  exact ⟨ok_204_0, ok_204_1⟩
theorem ok_205_0 : zc_X11_leans_0.all (fun q => z_okI 205 q.1 q.2) = true := by decide +kernel
theorem ok_205_1 : zc_X11_leans_1.all (fun q => z_okI 205 q.1 q.2) = true := by decide +kernel
theorem ok_205 : (z_cds.getD 205 []).all (fun q => z_okI 205 q.1 q.2) = true := by
  show (zc_X11_leans).all _ = true
  unfold zc_X11_leans
  simp only [List.all_append, Bool.and_eq_true]
  exact ⟨ok_205_0, ok_205_1⟩
theorem ok_206_0 : zc_X11_pair_0.all (fun q => z_okI 206 q.1 q.2) = true := by decide +kernel
theorem ok_206 : (z_cds.getD 206 []).all (fun q => z_okI 206 q.1 q.2) = true := ok_206_0
theorem ok_207_0 : zc_X11_unpair_0.all (fun q => z_okI 207 q.1 q.2) = true := by decide +kernel
theorem ok_207 : (z_cds.getD 207 []).all (fun q => z_okI 207 q.1 q.2) = true := ok_207_0
theorem ok_208_0 : zc_X11_fromOf_0.all (fun q => z_okI 208 q.1 q.2) = true := by decide +kernel
theorem ok_208 : (z_cds.getD 208 []).all (fun q => z_okI 208 q.1 q.2) = true := ok_208_0
theorem ok_209_0 : zc_X11_toOf_0.all (fun q => z_okI 209 q.1 q.2) = true := by decide +kernel
theorem ok_209 : (z_cds.getD 209 []).all (fun q => z_okI 209 q.1 q.2) = true := ok_209_0
theorem ok_210_0 : zc_X11_trySimple_0.all (fun q => z_okI 210 q.1 q.2) = true := by decide +kernel
theorem ok_210 : (z_cds.getD 210 []).all (fun q => z_okI 210 q.1 q.2) = true := ok_210_0
theorem ok_211_0 : zc_X11_triedOver_0.all (fun q => z_okI 211 q.1 q.2) = true := by decide +kernel
theorem ok_211 : (z_cds.getD 211 []).all (fun q => z_okI 211 q.1 q.2) = true := ok_211_0
theorem ok_212_0 : zc_X11_makesAll_0.all (fun q => z_okI 212 q.1 q.2) = true := by decide +kernel
theorem ok_212 : (z_cds.getD 212 []).all (fun q => z_okI 212 q.1 q.2) = true := ok_212_0
theorem ok_213_0 : zc_X11_firstThatMakes_0.all (fun q => z_okI 213 q.1 q.2) = true := by decide +kernel
theorem ok_213 : (z_cds.getD 213 []).all (fun q => z_okI 213 q.1 q.2) = true := ok_213_0
theorem ok_214_0 : zc_X11_areMade_0.all (fun q => z_okI 214 q.1 q.2) = true := by decide +kernel
theorem ok_214 : (z_cds.getD 214 []).all (fun q => z_okI 214 q.1 q.2) = true := ok_214_0
theorem ok_215_0 : zc_X11_runFirst_0.all (fun q => z_okI 215 q.1 q.2) = true := by decide +kernel
theorem ok_215 : (z_cds.getD 215 []).all (fun q => z_okI 215 q.1 q.2) = true := ok_215_0
theorem ok_216_0 : zc_X11_seek_0.all (fun q => z_okI 216 q.1 q.2) = true := by decide +kernel
theorem ok_216_1 : zc_X11_seek_1.all (fun q => z_okI 216 q.1 q.2) = true := by decide +kernel
theorem ok_216 : (z_cds.getD 216 []).all (fun q => z_okI 216 q.1 q.2) = true := by
  show (zc_X11_seek).all _ = true
  unfold zc_X11_seek
  simp only [List.all_append, Bool.and_eq_true]
  exact ⟨ok_216_0, ok_216_1⟩
theorem ok_217_0 : zc_X11_fewest_0.all (fun q => z_okI 217 q.1 q.2) = true := by decide +kernel
theorem ok_217 : (z_cds.getD 217 []).all (fun q => z_okI 217 q.1 q.2) = true := ok_217_0
theorem ok_218_0 : zc_X11_simple_0.all (fun q => z_okI 218 q.1 q.2) = true := by decide +kernel
theorem ok_218 : (z_cds.getD 218 []).all (fun q => z_okI 218 q.1 q.2) = true := ok_218_0
theorem ok_219_0 : zc_X11_proof_0.all (fun q => z_okI 219 q.1 q.2) = true := by decide +kernel
theorem ok_219 : (z_cds.getD 219 []).all (fun q => z_okI 219 q.1 q.2) = true := ok_219_0
theorem ok_220_0 : zc_X11_road_0.all (fun q => z_okI 220 q.1 q.2) = true := by decide +kernel
theorem ok_220 : (z_cds.getD 220 []).all (fun q => z_okI 220 q.1 q.2) = true := ok_220_0
theorem ok_221_0 : zc_X11_shut_0.all (fun q => z_okI 221 q.1 q.2) = true := by decide +kernel
theorem ok_221 : (z_cds.getD 221 []).all (fun q => z_okI 221 q.1 q.2) = true := ok_221_0
theorem ok_222_0 : zc_X11_wave_0.all (fun q => z_okI 222 q.1 q.2) = true := by decide +kernel
theorem ok_222 : (z_cds.getD 222 []).all (fun q => z_okI 222 q.1 q.2) = true := ok_222_0
theorem ok_223_0 : zc_X11_isOpen_0.all (fun q => z_okI 223 q.1 q.2) = true := by decide +kernel
theorem ok_223 : (z_cds.getD 223 []).all (fun q => z_okI 223 q.1 q.2) = true := ok_223_0
theorem ok_224_0 : zc_X11_findWave_0.all (fun q => z_okI 224 q.1 q.2) = true := by decide +kernel
theorem ok_224_1 : zc_X11_findWave_1.all (fun q => z_okI 224 q.1 q.2) = true := by decide +kernel
theorem ok_224 : (z_cds.getD 224 []).all (fun q => z_okI 224 q.1 q.2) = true := by
  show (zc_X11_findWave).all _ = true
  unfold zc_X11_findWave
  simp only [List.all_append, Bool.and_eq_true]
  exact ⟨ok_224_0, ok_224_1⟩
theorem ok_225_0 : zc_X11_findWaves_0.all (fun q => z_okI 225 q.1 q.2) = true := by decide +kernel
theorem ok_225 : (z_cds.getD 225 []).all (fun q => z_okI 225 q.1 q.2) = true := ok_225_0
theorem ok_226_0 : zc_X11_comes_0.all (fun q => z_okI 226 q.1 q.2) = true := by decide +kernel
theorem ok_226 : (z_cds.getD 226 []).all (fun q => z_okI 226 q.1 q.2) = true := ok_226_0
theorem ok_227_0 : zc_X11_speechOf_0.all (fun q => z_okI 227 q.1 q.2) = true := by decide +kernel
theorem ok_227_1 : zc_X11_speechOf_1.all (fun q => z_okI 227 q.1 q.2) = true := by decide +kernel
theorem ok_227 : (z_cds.getD 227 []).all (fun q => z_okI 227 q.1 q.2) = true := by
  show (zc_X11_speechOf).all _ = true
  unfold zc_X11_speechOf
  simp only [List.all_append, Bool.and_eq_true]
  exact ⟨ok_227_0, ok_227_1⟩
theorem ok_228_0 : zc_X11_speech_0.all (fun q => z_okI 228 q.1 q.2) = true := by decide +kernel
theorem ok_228 : (z_cds.getD 228 []).all (fun q => z_okI 228 q.1 q.2) = true := ok_228_0
theorem ok_229_0 : zc_X11_list_0.all (fun q => z_okI 229 q.1 q.2) = true := by decide +kernel
theorem ok_229 : (z_cds.getD 229 []).all (fun q => z_okI 229 q.1 q.2) = true := ok_229_0
theorem ok_230_0 : zc_X11_speakAlike_0.all (fun q => z_okI 230 q.1 q.2) = true := by decide +kernel
theorem ok_230 : (z_cds.getD 230 []).all (fun q => z_okI 230 q.1 q.2) = true := ok_230_0
theorem ok_231_0 : zc_X11_speeches_0.all (fun q => z_okI 231 q.1 q.2) = true := by decide +kernel
theorem ok_231 : (z_cds.getD 231 []).all (fun q => z_okI 231 q.1 q.2) = true := ok_231_0
theorem ok_232_0 : zc_X11_parted_0.all (fun q => z_okI 232 q.1 q.2) = true := by decide +kernel
theorem ok_232_1 : zc_X11_parted_1.all (fun q => z_okI 232 q.1 q.2) = true := by decide +kernel
theorem ok_232 : (z_cds.getD 232 []).all (fun q => z_okI 232 q.1 q.2) = true := by
  show (zc_X11_parted).all _ = true
  unfold zc_X11_parted
  simp only [List.all_append, Bool.and_eq_true]
  exact ⟨ok_232_0, ok_232_1⟩
theorem ok_233_0 : zc_X11_isSheet_0.all (fun q => z_okI 233 q.1 q.2) = true := by decide +kernel
theorem ok_233 : (z_cds.getD 233 []).all (fun q => z_okI 233 q.1 q.2) = true := ok_233_0
theorem ok_234_0 : zc_X11_sheet_0.all (fun q => z_okI 234 q.1 q.2) = true := by decide +kernel
theorem ok_234_1 : zc_X11_sheet_1.all (fun q => z_okI 234 q.1 q.2) = true := by decide +kernel
theorem ok_234 : (z_cds.getD 234 []).all (fun q => z_okI 234 q.1 q.2) = true := by
  show (zc_X11_sheet).all _ = true
  unfold zc_X11_sheet
  simp only [List.all_append, Bool.and_eq_true]
  exact ⟨ok_234_0, ok_234_1⟩
theorem ok_235_0 : zc_X11_write_0.all (fun q => z_okI 235 q.1 q.2) = true := by decide +kernel
theorem ok_235_1 : zc_X11_write_1.all (fun q => z_okI 235 q.1 q.2) = true := by decide +kernel
theorem ok_235 : (z_cds.getD 235 []).all (fun q => z_okI 235 q.1 q.2) = true := by
  show (zc_X11_write).all _ = true
  unfold zc_X11_write
  simp only [List.all_append, Bool.and_eq_true]
  exact ⟨ok_235_0, ok_235_1⟩
theorem ok_236_0 : zc_X11_copy_0.all (fun q => z_okI 236 q.1 q.2) = true := by decide +kernel
theorem ok_236_1 : zc_X11_copy_1.all (fun q => z_okI 236 q.1 q.2) = true := by decide +kernel
theorem ok_236 : (z_cds.getD 236 []).all (fun q => z_okI 236 q.1 q.2) = true := by
  show (zc_X11_copy).all _ = true
  unfold zc_X11_copy
  simp only [List.all_append, Bool.and_eq_true]
  exact ⟨ok_236_0, ok_236_1⟩
theorem ok_237_0 : zc_X11_read_0.all (fun q => z_okI 237 q.1 q.2) = true := by decide +kernel
theorem ok_237_1 : zc_X11_read_1.all (fun q => z_okI 237 q.1 q.2) = true := by decide +kernel
theorem ok_237 : (z_cds.getD 237 []).all (fun q => z_okI 237 q.1 q.2) = true := by
  show (zc_X11_read).all _ = true
  unfold zc_X11_read
  simp only [List.all_append, Bool.and_eq_true]
  exact ⟨ok_237_0, ok_237_1⟩
theorem ok_238_0 : zc_X11_told_0.all (fun q => z_okI 238 q.1 q.2) = true := by decide +kernel
theorem ok_238 : (z_cds.getD 238 []).all (fun q => z_okI 238 q.1 q.2) = true := ok_238_0
theorem ok_239_0 : zc_J7_fill_53178_0.all (fun q => z_okI 239 q.1 q.2) = true := by decide +kernel
theorem ok_239 : (z_cds.getD 239 []).all (fun q => z_okI 239 q.1 q.2) = true := ok_239_0
theorem ok_240_0 : zc_J6_bitCount_0f7a4_0.all (fun q => z_okI 240 q.1 q.2) = true := by decide +kernel
theorem ok_240 : (z_cds.getD 240 []).all (fun q => z_okI 240 q.1 q.2) = true := ok_240_0
theorem ok_241_0 : zc_J9_min_7cf53_0.all (fun q => z_okI 241 q.1 q.2) = true := by decide +kernel
theorem ok_241 : (z_cds.getD 241 []).all (fun q => z_okI 241 q.1 q.2) = true := ok_241_0
theorem ok_242_0 : zc_J9_max_7cf53_0.all (fun q => z_okI 242 q.1 q.2) = true := by decide +kernel
theorem ok_242 : (z_cds.getD 242 []).all (fun q => z_okI 242 q.1 q.2) = true := ok_242_0
theorem ok_243_0 : zc_J0_indexOf_0f7a4_0.all (fun q => z_okI 243 q.1 q.2) = true := by decide +kernel
theorem ok_243 : (z_cds.getD 243 []).all (fun q => z_okI 243 q.1 q.2) = true := ok_243_0
theorem ok_244_0 : zc_J0_indexOf_7cf53_0.all (fun q => z_okI 244 q.1 q.2) = true := by decide +kernel
theorem ok_244 : (z_cds.getD 244 []).all (fun q => z_okI 244 q.1 q.2) = true := ok_244_0
theorem ok_245_0 : zc_J0_isLatin1_aae02_0.all (fun q => z_okI 245 q.1 q.2) = true := by decide +kernel
theorem ok_245 : (z_cds.getD 245 []).all (fun q => z_okI 245 q.1 q.2) = true := ok_245_0
theorem ok_246_0 : zc_J0_length_8abf5_0.all (fun q => z_okI 246 q.1 q.2) = true := by decide +kernel
theorem ok_246 : (z_cds.getD 246 []).all (fun q => z_okI 246 q.1 q.2) = true := ok_246_0
theorem ok_247_0 : zc_J0_coder_7d493_0.all (fun q => z_okI 247 q.1 q.2) = true := by decide +kernel
theorem ok_247 : (z_cds.getD 247 []).all (fun q => z_okI 247 q.1 q.2) = true := ok_247_0
theorem ok_248_0 : zc_J1_indexOf_4cfef_0.all (fun q => z_okI 248 q.1 q.2) = true := by decide +kernel
theorem ok_248 : (z_cds.getD 248 []).all (fun q => z_okI 248 q.1 q.2) = true := ok_248_0
theorem ok_249_0 : zc_J1_canEncode_9a6ad_0.all (fun q => z_okI 249 q.1 q.2) = true := by decide +kernel
theorem ok_249 : (z_cds.getD 249 []).all (fun q => z_okI 249 q.1 q.2) = true := ok_249_0
theorem ok_250_0 : zc_L_law_0.all (fun q => z_okI 250 q.1 q.2) = true := by decide +kernel
theorem ok_250_1 : zc_L_law_1.all (fun q => z_okI 250 q.1 q.2) = true := by decide +kernel
theorem ok_250_2 : zc_L_law_2.all (fun q => z_okI 250 q.1 q.2) = true := by decide +kernel
theorem ok_250_3 : zc_L_law_3.all (fun q => z_okI 250 q.1 q.2) = true := by decide +kernel
theorem ok_250_4 : zc_L_law_4.all (fun q => z_okI 250 q.1 q.2) = true := by decide +kernel
theorem ok_250_5 : zc_L_law_5.all (fun q => z_okI 250 q.1 q.2) = true := by decide +kernel
theorem ok_250_6 : zc_L_law_6.all (fun q => z_okI 250 q.1 q.2) = true := by decide +kernel
theorem ok_250_7 : zc_L_law_7.all (fun q => z_okI 250 q.1 q.2) = true := by decide +kernel
theorem ok_250_8 : zc_L_law_8.all (fun q => z_okI 250 q.1 q.2) = true := by decide +kernel
theorem ok_250_9 : zc_L_law_9.all (fun q => z_okI 250 q.1 q.2) = true := by decide +kernel
theorem ok_250_10 : zc_L_law_10.all (fun q => z_okI 250 q.1 q.2) = true := by decide +kernel
theorem ok_250_11 : zc_L_law_11.all (fun q => z_okI 250 q.1 q.2) = true := by decide +kernel
theorem ok_250_12 : zc_L_law_12.all (fun q => z_okI 250 q.1 q.2) = true := by decide +kernel
theorem ok_250_13 : zc_L_law_13.all (fun q => z_okI 250 q.1 q.2) = true := by decide +kernel
theorem ok_250_14 : zc_L_law_14.all (fun q => z_okI 250 q.1 q.2) = true := by decide +kernel
theorem ok_250_15 : zc_L_law_15.all (fun q => z_okI 250 q.1 q.2) = true := by decide +kernel
theorem ok_250_16 : zc_L_law_16.all (fun q => z_okI 250 q.1 q.2) = true := by decide +kernel
theorem ok_250_17 : zc_L_law_17.all (fun q => z_okI 250 q.1 q.2) = true := by decide +kernel
theorem ok_250_18 : zc_L_law_18.all (fun q => z_okI 250 q.1 q.2) = true := by decide +kernel
theorem ok_250_19 : zc_L_law_19.all (fun q => z_okI 250 q.1 q.2) = true := by decide +kernel
theorem ok_250_20 : zc_L_law_20.all (fun q => z_okI 250 q.1 q.2) = true := by decide +kernel
theorem ok_250_21 : zc_L_law_21.all (fun q => z_okI 250 q.1 q.2) = true := by decide +kernel
theorem ok_250 : (z_cds.getD 250 []).all (fun q => z_okI 250 q.1 q.2) = true := by
  show (zc_L_law).all _ = true
  unfold zc_L_law
  simp only [List.all_append, Bool.and_eq_true]
  exact ⟨⟨⟨⟨⟨⟨⟨⟨⟨⟨⟨⟨⟨⟨⟨⟨⟨⟨⟨⟨⟨ok_250_0, ok_250_1⟩, ok_250_2⟩, ok_250_3⟩, ok_250_4⟩, ok_250_5⟩, ok_250_6⟩, ok_250_7⟩, ok_250_8⟩, ok_250_9⟩, ok_250_10⟩, ok_250_11⟩, ok_250_12⟩, ok_250_13⟩, ok_250_14⟩, ok_250_15⟩, ok_250_16⟩, ok_250_17⟩, ok_250_18⟩, ok_250_19⟩, ok_250_20⟩, ok_250_21⟩
