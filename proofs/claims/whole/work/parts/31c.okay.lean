/-! ===== the items of the codes are what the class files say ===== -/
theorem ok_150_0 : zc_X11_fitsSound_0.all (fun q => z_okI 150 q.1 q.2) = true := by decide +kernel
theorem ok_150 : (z_cds.getD 150 []).all (fun q => z_okI 150 q.1 q.2) = true := ok_150_0
theorem ok_151_0 : zc_X11_fitsAt_0.all (fun q => z_okI 151 q.1 q.2) = true := by decide +kernel
theorem ok_151 : (z_cds.getD 151 []).all (fun q => z_okI 151 q.1 q.2) = true := ok_151_0
theorem ok_152_0 : zc_X11_placeFits_0.all (fun q => z_okI 152 q.1 q.2) = true := by decide +kernel
theorem ok_152 : (z_cds.getD 152 []).all (fun q => z_okI 152 q.1 q.2) = true := ok_152_0
theorem ok_153_0 : zc_X11_holdsAt_0.all (fun q => z_okI 153 q.1 q.2) = true := by decide +kernel
theorem ok_153 : (z_cds.getD 153 []).all (fun q => z_okI 153 q.1 q.2) = true := ok_153_0
theorem ok_154_0 : zc_X11_runLaw_0.all (fun q => z_okI 154 q.1 q.2) = true := by decide +kernel
theorem ok_154_1 : zc_X11_runLaw_1.all (fun q => z_okI 154 q.1 q.2) = true := by decide +kernel
theorem ok_154 : (z_cds.getD 154 []).all (fun q => z_okI 154 q.1 q.2) = true := by
  show (zc_X11_runLaw).all _ = true
  unfold zc_X11_runLaw
  simp only [List.all_append, Bool.and_eq_true]
  exact ⟨ok_154_0, ok_154_1⟩
theorem ok_155_0 : zc_X11_vowel_0.all (fun q => z_okI 155 q.1 q.2) = true := by decide +kernel
theorem ok_155 : (z_cds.getD 155 []).all (fun q => z_okI 155 q.1 q.2) = true := ok_155_0
theorem ok_156_0 : zc_X11_feed_0.all (fun q => z_okI 156 q.1 q.2) = true := by decide +kernel
theorem ok_156 : (z_cds.getD 156 []).all (fun q => z_okI 156 q.1 q.2) = true := ok_156_0
theorem ok_157_0 : zc_X11_here_0.all (fun q => z_okI 157 q.1 q.2) = true := by decide +kernel
theorem ok_157 : (z_cds.getD 157 []).all (fun q => z_okI 157 q.1 q.2) = true := ok_157_0
theorem ok_158_0 : zc_X11_soundHere_0.all (fun q => z_okI 158 q.1 q.2) = true := by decide +kernel
theorem ok_158 : (z_cds.getD 158 []).all (fun q => z_okI 158 q.1 q.2) = true := ok_158_0
theorem ok_159_0 : zc_X11_markHere_0.all (fun q => z_okI 159 q.1 q.2) = true := by decide +kernel
theorem ok_159 : (z_cds.getD 159 []).all (fun q => z_okI 159 q.1 q.2) = true := ok_159_0
theorem ok_160_0 : zc_X11_readsPlace_0.all (fun q => z_okI 160 q.1 q.2) = true := by decide +kernel
theorem ok_160_1 : zc_X11_readsPlace_1.all (fun q => z_okI 160 q.1 q.2) = true := by decide +kernel
theorem ok_160 : (z_cds.getD 160 []).all (fun q => z_okI 160 q.1 q.2) = true := by
  show (zc_X11_readsPlace).all _ = true
  unfold zc_X11_readsPlace
  simp only [List.all_append, Bool.and_eq_true]
  exact ⟨ok_160_0, ok_160_1⟩
theorem ok_161_0 : zc_X11_readsTo_0.all (fun q => z_okI 161 q.1 q.2) = true := by decide +kernel
theorem ok_161 : (z_cds.getD 161 []).all (fun q => z_okI 161 q.1 q.2) = true := ok_161_0
theorem ok_162_0 : zc_X11_reads_0.all (fun q => z_okI 162 q.1 q.2) = true := by decide +kernel
theorem ok_162_1 : zc_X11_reads_1.all (fun q => z_okI 162 q.1 q.2) = true := by decide +kernel
theorem ok_162 : (z_cds.getD 162 []).all (fun q => z_okI 162 q.1 q.2) = true := by
  show (zc_X11_reads).all _ = true
  unfold zc_X11_reads
  simp only [List.all_append, Bool.and_eq_true]
  exact ⟨ok_162_0, ok_162_1⟩
theorem ok_163_0 : zc_X11_copyLaw_0.all (fun q => z_okI 163 q.1 q.2) = true := by decide +kernel
theorem ok_163_1 : zc_X11_copyLaw_1.all (fun q => z_okI 163 q.1 q.2) = true := by decide +kernel
theorem ok_163 : (z_cds.getD 163 []).all (fun q => z_okI 163 q.1 q.2) = true := by
  show (zc_X11_copyLaw).all _ = true
  unfold zc_X11_copyLaw
  simp only [List.all_append, Bool.and_eq_true]
  exact ⟨ok_163_0, ok_163_1⟩
theorem ok_164_0 : zc_X11_law_0.all (fun q => z_okI 164 q.1 q.2) = true := by decide +kernel
theorem ok_164 : (z_cds.getD 164 []).all (fun q => z_okI 164 q.1 q.2) = true := ok_164_0
theorem ok_165_0 : zc_X11_kindOf_0.all (fun q => z_okI 165 q.1 q.2) = true := by decide +kernel
theorem ok_165 : (z_cds.getD 165 []).all (fun q => z_okI 165 q.1 q.2) = true := ok_165_0
theorem ok_166_0 : zc_X11_as_0.all (fun q => z_okI 166 q.1 q.2) = true := by decide +kernel
theorem ok_166 : (z_cds.getD 166 []).all (fun q => z_okI 166 q.1 q.2) = true := ok_166_0
theorem ok_167_0 : zc_X11_about_0.all (fun q => z_okI 167 q.1 q.2) = true := by decide +kernel
theorem ok_167_1 : zc_X11_about_1.all (fun q => z_okI 167 q.1 q.2) = true := by decide +kernel
theorem ok_167 : (z_cds.getD 167 []).all (fun q => z_okI 167 q.1 q.2) = true := by
  show (zc_X11_about).all _ = true
  unfold zc_X11_about
  simp only [List.all_append, Bool.and_eq_true]
  exact ⟨ok_167_0, ok_167_1⟩
theorem ok_168_0 : zc_X11_run_0.all (fun q => z_okI 168 q.1 q.2) = true := by decide +kernel
theorem ok_168 : (z_cds.getD 168 []).all (fun q => z_okI 168 q.1 q.2) = true := ok_168_0
theorem ok_169_0 : zc_X11_holds_0.all (fun q => z_okI 169 q.1 q.2) = true := by decide +kernel
theorem ok_169 : (z_cds.getD 169 []).all (fun q => z_okI 169 q.1 q.2) = true := ok_169_0
theorem ok_170_0 : zc_X11_tongue_0.all (fun q => z_okI 170 q.1 q.2) = true := by decide +kernel
theorem ok_170 : (z_cds.getD 170 []).all (fun q => z_okI 170 q.1 q.2) = true := ok_170_0
theorem ok_171_0 : zc_X11_take_0.all (fun q => z_okI 171 q.1 q.2) = true := by decide +kernel
theorem ok_171 : (z_cds.getD 171 []).all (fun q => z_okI 171 q.1 q.2) = true := ok_171_0
theorem ok_172_0 : zc_X11_leave_0.all (fun q => z_okI 172 q.1 q.2) = true := by decide +kernel
theorem ok_172 : (z_cds.getD 172 []).all (fun q => z_okI 172 q.1 q.2) = true := ok_172_0
theorem ok_173_0 : zc_X11_hasBoth_0.all (fun q => z_okI 173 q.1 q.2) = true := by decide +kernel
theorem ok_173 : (z_cds.getD 173 []).all (fun q => z_okI 173 q.1 q.2) = true := ok_173_0
theorem ok_174_0 : zc_X11_swaps_0.all (fun q => z_okI 174 q.1 q.2) = true := by decide +kernel
theorem ok_174 : (z_cds.getD 174 []).all (fun q => z_okI 174 q.1 q.2) = true := ok_174_0
theorem ok_175_0 : zc_X11_swap_0.all (fun q => z_okI 175 q.1 q.2) = true := by decide +kernel
theorem ok_175 : (z_cds.getD 175 []).all (fun q => z_okI 175 q.1 q.2) = true := ok_175_0
theorem ok_176_0 : zc_X11_own_0.all (fun q => z_okI 176 q.1 q.2) = true := by decide +kernel
theorem ok_176 : (z_cds.getD 176 []).all (fun q => z_okI 176 q.1 q.2) = true := ok_176_0
theorem ok_177_0 : zc_X11_runOwn_0.all (fun q => z_okI 177 q.1 q.2) = true := by decide +kernel
theorem ok_177 : (z_cds.getD 177 []).all (fun q => z_okI 177 q.1 q.2) = true := ok_177_0
theorem ok_178_0 : zc_X11_goesTo_0.all (fun q => z_okI 178 q.1 q.2) = true := by decide +kernel
theorem ok_178 : (z_cds.getD 178 []).all (fun q => z_okI 178 q.1 q.2) = true := ok_178_0
theorem ok_179_0 : zc_X11_formOf_0.all (fun q => z_okI 179 q.1 q.2) = true := by decide +kernel
theorem ok_179 : (z_cds.getD 179 []).all (fun q => z_okI 179 q.1 q.2) = true := ok_179_0
theorem ok_180_0 : zc_X11_form_0.all (fun q => z_okI 180 q.1 q.2) = true := by decide +kernel
theorem ok_180 : (z_cds.getD 180 []).all (fun q => z_okI 180 q.1 q.2) = true := ok_180_0
theorem ok_181_0 : zc_X11_nextStem_0.all (fun q => z_okI 181 q.1 q.2) = true := by decide +kernel
theorem ok_181 : (z_cds.getD 181 []).all (fun q => z_okI 181 q.1 q.2) = true := ok_181_0
theorem ok_182_0 : zc_X11_order_0.all (fun q => z_okI 182 q.1 q.2) = true := by decide +kernel
theorem ok_182 : (z_cds.getD 182 []).all (fun q => z_okI 182 q.1 q.2) = true := ok_182_0
theorem ok_183_0 : zc_X11_script_0.all (fun q => z_okI 183 q.1 q.2) = true := by decide +kernel
theorem ok_183 : (z_cds.getD 183 []).all (fun q => z_okI 183 q.1 q.2) = true := ok_183_0
theorem ok_184_0 : zc_X11_writtenIn_0.all (fun q => z_okI 184 q.1 q.2) = true := by decide +kernel
theorem ok_184 : (z_cds.getD 184 []).all (fun q => z_okI 184 q.1 q.2) = true := ok_184_0
theorem ok_185_0 : zc_X11_writtenOf_0.all (fun q => z_okI 185 q.1 q.2) = true := by decide +kernel
theorem ok_185 : (z_cds.getD 185 []).all (fun q => z_okI 185 q.1 q.2) = true := ok_185_0
theorem ok_186_0 : zc_X11_written_0.all (fun q => z_okI 186 q.1 q.2) = true := by decide +kernel
theorem ok_186 : (z_cds.getD 186 []).all (fun q => z_okI 186 q.1 q.2) = true := ok_186_0
theorem ok_187_0 : zc_X11_back_0.all (fun q => z_okI 187 q.1 q.2) = true := by decide +kernel
theorem ok_187 : (z_cds.getD 187 []).all (fun q => z_okI 187 q.1 q.2) = true := ok_187_0
theorem ok_188_0 : zc_X11_stem_0.all (fun q => z_okI 188 q.1 q.2) = true := by decide +kernel
theorem ok_188 : (z_cds.getD 188 []).all (fun q => z_okI 188 q.1 q.2) = true := ok_188_0
theorem ok_189_0 : zc_X11_match_0.all (fun q => z_okI 189 q.1 q.2) = true := by decide +kernel
theorem ok_189 : (z_cds.getD 189 []).all (fun q => z_okI 189 q.1 q.2) = true := ok_189_0
theorem ok_190_0 : zc_X11_find_0.all (fun q => z_okI 190 q.1 q.2) = true := by decide +kernel
theorem ok_190_1 : zc_X11_find_1.all (fun q => z_okI 190 q.1 q.2) = true := by decide +kernel
theorem ok_190 : (z_cds.getD 190 []).all (fun q => z_okI 190 q.1 q.2) = true := by
  show (zc_X11_find).all _ = true
  unfold zc_X11_find
  simp only [List.all_append, Bool.and_eq_true]
  exact ⟨ok_190_0, ok_190_1⟩
theorem ok_191_0 : zc_X11_knownOf_0.all (fun q => z_okI 191 q.1 q.2) = true := by decide +kernel
theorem ok_191 : (z_cds.getD 191 []).all (fun q => z_okI 191 q.1 q.2) = true := ok_191_0
theorem ok_192_0 : zc_X11_known_0.all (fun q => z_okI 192 q.1 q.2) = true := by decide +kernel
theorem ok_192 : (z_cds.getD 192 []).all (fun q => z_okI 192 q.1 q.2) = true := ok_192_0
theorem ok_193_0 : zc_X11_learns_0.all (fun q => z_okI 193 q.1 q.2) = true := by decide +kernel
theorem ok_193 : (z_cds.getD 193 []).all (fun q => z_okI 193 q.1 q.2) = true := ok_193_0
theorem ok_194_0 : zc_X11_spreads_0.all (fun q => z_okI 194 q.1 q.2) = true := by decide +kernel
theorem ok_194 : (z_cds.getD 194 []).all (fun q => z_okI 194 q.1 q.2) = true := ok_194_0
theorem ok_195_0 : zc_X11_isMother_0.all (fun q => z_okI 195 q.1 q.2) = true := by decide +kernel
theorem ok_195 : (z_cds.getD 195 []).all (fun q => z_okI 195 q.1 q.2) = true := ok_195_0
theorem ok_196_0 : zc_X11_agrees_0.all (fun q => z_okI 196 q.1 q.2) = true := by decide +kernel
theorem ok_196 : (z_cds.getD 196 []).all (fun q => z_okI 196 q.1 q.2) = true := ok_196_0
theorem ok_197_0 : zc_X11_mothers_0.all (fun q => z_okI 197 q.1 q.2) = true := by decide +kernel
theorem ok_197 : (z_cds.getD 197 []).all (fun q => z_okI 197 q.1 q.2) = true := ok_197_0
theorem ok_198_0 : zc_X11_mother_0.all (fun q => z_okI 198 q.1 q.2) = true := by decide +kernel
theorem ok_198 : (z_cds.getD 198 []).all (fun q => z_okI 198 q.1 q.2) = true := ok_198_0
theorem ok_199_0 : zc_X11_doubt_0.all (fun q => z_okI 199 q.1 q.2) = true := by decide +kernel
theorem ok_199 : (z_cds.getD 199 []).all (fun q => z_okI 199 q.1 q.2) = true := ok_199_0
