set_option maxRecDepth 100000 in
theorem cck_140 : ∀ a, a < 4 → cckR 140 a = true := by decide +kernel
set_option maxRecDepth 100000 in
theorem cck_141 : ∀ a, a < 3 → cckR 141 a = true := by decide +kernel
set_option maxRecDepth 100000 in
theorem cck_142 : ∀ a, a < 2 → cckR 142 a = true := by decide +kernel
set_option maxRecDepth 100000 in
theorem cck_143 : ∀ a, a < 2 → cckR 143 a = true := by decide +kernel
set_option maxRecDepth 100000 in
theorem cck_144 : ∀ a, a < 2 → cckR 144 a = true := by decide +kernel
set_option maxRecDepth 100000 in
theorem cck_145 : ∀ a, a < 5 → cckR 145 a = true := by decide +kernel
set_option maxRecDepth 100000 in
theorem cck_146 : ∀ a, a < 3 → cckR 146 a = true := by decide +kernel
set_option maxRecDepth 100000 in
theorem cck_147 : ∀ a, a < 10 → cckR 147 a = true := by decide +kernel
set_option maxRecDepth 100000 in
theorem cck_148 : ∀ a, a < 8 → cckR 148 a = true := by decide +kernel
set_option maxRecDepth 100000 in
theorem cck_149 : ∀ a, a < 9 → cckR 149 a = true := by decide +kernel
set_option maxRecDepth 100000 in
theorem cck_150 : ∀ a, a < 2 → cckR 150 a = true := by decide +kernel
set_option maxRecDepth 100000 in
theorem cck_151 : ∀ a, a < 2 → cckR 151 a = true := by decide +kernel
set_option maxRecDepth 100000 in
theorem cck_152 : ∀ a, a < 3 → cckR 152 a = true := by decide +kernel
set_option maxRecDepth 100000 in
theorem cck_153 : ∀ a, a < 12 → cckR 153 a = true := by decide +kernel
set_option maxRecDepth 100000 in
theorem cck_154_0 : ∀ a, a ∈ [0, 1, 2, 3, 4, 5] → cckR 154 a = true := by decide +kernel
set_option maxRecDepth 100000 in
theorem cck_154_6 : ∀ a, a ∈ [6, 7, 8, 9, 10, 11] → cckR 154 a = true := by decide +kernel
set_option maxRecDepth 100000 in
theorem cck_154_12 : ∀ a, a ∈ [12, 13, 14, 15, 16, 17] → cckR 154 a = true := by decide +kernel
set_option maxRecDepth 100000 in
theorem cck_154_18 : ∀ a, a ∈ [18, 19, 20, 21, 22, 23] → cckR 154 a = true := by decide +kernel
set_option maxRecDepth 100000 in
theorem cck_154_24 : ∀ a, a ∈ [24, 25, 26, 27, 28, 29] → cckR 154 a = true := by decide +kernel
set_option maxRecDepth 100000 in
theorem cck_154_30 : ∀ a, a ∈ [30, 31, 32, 33, 34, 35] → cckR 154 a = true := by decide +kernel
set_option maxRecDepth 100000 in
theorem cck_154_36 : ∀ a, a ∈ [36, 37, 38, 39, 40, 41] → cckR 154 a = true := by decide +kernel
set_option maxRecDepth 100000 in
theorem cck_154_42 : ∀ a, a ∈ [42, 43, 44, 45, 46, 47] → cckR 154 a = true := by decide +kernel
set_option maxRecDepth 100000 in
theorem cck_154_48 : ∀ a, a ∈ [48, 49, 50, 51, 52, 53] → cckR 154 a = true := by decide +kernel
set_option maxRecDepth 100000 in
theorem cck_154_54 : ∀ a, a ∈ [54, 55, 56, 57, 58, 59] → cckR 154 a = true := by decide +kernel
theorem cck_154 : ∀ a, a < 60 → cckR 154 a = true := by
  intro a ha
  have h : (0 ≤ a ∧ a < 6) ∨ (6 ≤ a ∧ a < 12) ∨ (12 ≤ a ∧ a < 18) ∨ (18 ≤ a ∧ a < 24) ∨ (24 ≤ a ∧ a < 30) ∨ (30 ≤ a ∧ a < 36) ∨ (36 ≤ a ∧ a < 42) ∨ (42 ≤ a ∧ a < 48) ∨ (48 ≤ a ∧ a < 54) ∨ (54 ≤ a ∧ a < 60) := by omega
  rcases h with ⟨h1, h2⟩ | ⟨h1, h2⟩ | ⟨h1, h2⟩ | ⟨h1, h2⟩ | ⟨h1, h2⟩ | ⟨h1, h2⟩ | ⟨h1, h2⟩ | ⟨h1, h2⟩ | ⟨h1, h2⟩ | ⟨h1, h2⟩
  · exact cck_154_0 a (by simp only [List.mem_cons, List.not_mem_nil, or_false]; omega)
  · exact cck_154_6 a (by simp only [List.mem_cons, List.not_mem_nil, or_false]; omega)
  · exact cck_154_12 a (by simp only [List.mem_cons, List.not_mem_nil, or_false]; omega)
  · exact cck_154_18 a (by simp only [List.mem_cons, List.not_mem_nil, or_false]; omega)
  · exact cck_154_24 a (by simp only [List.mem_cons, List.not_mem_nil, or_false]; omega)
  · exact cck_154_30 a (by simp only [List.mem_cons, List.not_mem_nil, or_false]; omega)
  · exact cck_154_36 a (by simp only [List.mem_cons, List.not_mem_nil, or_false]; omega)
  · exact cck_154_42 a (by simp only [List.mem_cons, List.not_mem_nil, or_false]; omega)
  · exact cck_154_48 a (by simp only [List.mem_cons, List.not_mem_nil, or_false]; omega)
  · exact cck_154_54 a (by simp only [List.mem_cons, List.not_mem_nil, or_false]; omega)
set_option maxRecDepth 100000 in
theorem cck_155 : ∀ a, a < 1 → cckR 155 a = true := by decide +kernel
set_option maxRecDepth 100000 in
theorem cck_156 : ∀ a, a < 9 → cckR 156 a = true := by decide +kernel
set_option maxRecDepth 100000 in
theorem cck_157 : ∀ a, a < 1 → cckR 157 a = true := by decide +kernel
set_option maxRecDepth 100000 in
theorem cck_158 : ∀ a, a < 1 → cckR 158 a = true := by decide +kernel
set_option maxRecDepth 100000 in
theorem cck_159 : ∀ a, a < 1 → cckR 159 a = true := by decide +kernel
set_option maxRecDepth 100000 in
theorem cck_160 : ∀ a, a < 8 → cckR 160 a = true := by decide +kernel
set_option maxRecDepth 100000 in
theorem cck_161 : ∀ a, a < 3 → cckR 161 a = true := by decide +kernel
set_option maxRecDepth 100000 in
theorem cck_162 : ∀ a, a < 3 → cckR 162 a = true := by decide +kernel
set_option maxRecDepth 100000 in
theorem cck_163 : ∀ a, a < 18 → cckR 163 a = true := by decide +kernel
set_option maxRecDepth 100000 in
theorem cck_164 : ∀ a, a < 19 → cckR 164 a = true := by decide +kernel
set_option maxRecDepth 100000 in
theorem cck_165 : ∀ a, a < 3 → cckR 165 a = true := by decide +kernel
set_option maxRecDepth 100000 in
theorem cck_166 : ∀ a, a < 2 → cckR 166 a = true := by decide +kernel
set_option maxRecDepth 100000 in
theorem cck_167 : ∀ a, a < 2 → cckR 167 a = true := by decide +kernel
set_option maxRecDepth 100000 in
theorem cck_168 : ∀ a, a < 3 → cckR 168 a = true := by decide +kernel
set_option maxRecDepth 100000 in
theorem cck_169 : ∀ a, a < 5 → cckR 169 a = true := by decide +kernel
set_option maxRecDepth 100000 in
theorem cck_170 : ∀ a, a < 2 → cckR 170 a = true := by decide +kernel
set_option maxRecDepth 100000 in
theorem cck_171 : ∀ a, a < 14 → cckR 171 a = true := by decide +kernel
set_option maxRecDepth 100000 in
theorem cck_172 : ∀ a, a < 2 → cckR 172 a = true := by decide +kernel
set_option maxRecDepth 100000 in
theorem cck_173 : ∀ a, a < 3 → cckR 173 a = true := by decide +kernel
set_option maxRecDepth 100000 in
theorem cck_174 : ∀ a, a < 7 → cckR 174 a = true := by decide +kernel
set_option maxRecDepth 100000 in
theorem cck_175 : ∀ a, a < 10 → cckR 175 a = true := by decide +kernel
set_option maxRecDepth 100000 in
theorem cck_176 : ∀ a, a < 7 → cckR 176 a = true := by decide +kernel
set_option maxRecDepth 100000 in
theorem cck_177 : ∀ a, a < 4 → cckR 177 a = true := by decide +kernel
set_option maxRecDepth 100000 in
theorem cck_178 : ∀ a, a < 4 → cckR 178 a = true := by decide +kernel
set_option maxRecDepth 100000 in
theorem cck_179 : ∀ a, a < 14 → cckR 179 a = true := by decide +kernel
set_option maxRecDepth 100000 in
theorem cck_180 : ∀ a, a < 6 → cckR 180 a = true := by decide +kernel
set_option maxRecDepth 100000 in
theorem cck_181 : ∀ a, a < 2 → cckR 181 a = true := by decide +kernel
set_option maxRecDepth 100000 in
theorem cck_182 : ∀ a, a < 5 → cckR 182 a = true := by decide +kernel
set_option maxRecDepth 100000 in
theorem cck_183 : ∀ a, a < 4 → cckR 183 a = true := by decide +kernel
set_option maxRecDepth 100000 in
theorem cck_184 : ∀ a, a < 5 → cckR 184 a = true := by decide +kernel
set_option maxRecDepth 100000 in
theorem cck_185 : ∀ a, a < 2 → cckR 185 a = true := by decide +kernel
set_option maxRecDepth 100000 in
theorem cck_186 : ∀ a, a < 5 → cckR 186 a = true := by decide +kernel
set_option maxRecDepth 100000 in
theorem cck_187 : ∀ a, a < 2 → cckR 187 a = true := by decide +kernel
set_option maxRecDepth 100000 in
theorem cck_188 : ∀ a, a < 2 → cckR 188 a = true := by decide +kernel
set_option maxRecDepth 100000 in
theorem cck_189 : ∀ a, a < 2 → cckR 189 a = true := by decide +kernel
set_option maxRecDepth 100000 in
theorem cck_190 : ∀ a, a < 11 → cckR 190 a = true := by decide +kernel
set_option maxRecDepth 100000 in
theorem cck_191 : ∀ a, a < 17 → cckR 191 a = true := by decide +kernel
set_option maxRecDepth 100000 in
theorem cck_192 : ∀ a, a < 6 → cckR 192 a = true := by decide +kernel
set_option maxRecDepth 100000 in
theorem cck_193 : ∀ a, a < 3 → cckR 193 a = true := by decide +kernel
set_option maxRecDepth 100000 in
theorem cck_194 : ∀ a, a < 7 → cckR 194 a = true := by decide +kernel
set_option maxRecDepth 100000 in
theorem cck_195 : ∀ a, a < 6 → cckR 195 a = true := by decide +kernel
set_option maxRecDepth 100000 in
theorem cck_196 : ∀ a, a < 18 → cckR 196 a = true := by decide +kernel
set_option maxRecDepth 100000 in
theorem cck_197 : ∀ a, a < 9 → cckR 197 a = true := by decide +kernel
set_option maxRecDepth 100000 in
theorem cck_198 : ∀ a, a < 3 → cckR 198 a = true := by decide +kernel
set_option maxRecDepth 100000 in
theorem cck_199 : ∀ a, a < 14 → cckR 199 a = true := by decide +kernel
set_option maxRecDepth 100000 in
theorem cck_200 : ∀ a, a < 2 → cckR 200 a = true := by decide +kernel
set_option maxRecDepth 100000 in
theorem cck_201 : ∀ a, a < 2 → cckR 201 a = true := by decide +kernel
set_option maxRecDepth 100000 in
theorem cck_202 : ∀ a, a < 2 → cckR 202 a = true := by decide +kernel
set_option maxRecDepth 100000 in
theorem cck_203 : ∀ a, a < 3 → cckR 203 a = true := by decide +kernel
set_option maxRecDepth 100000 in
theorem cck_204 : ∀ a, a < 2 → cckR 204 a = true := by decide +kernel
set_option maxRecDepth 100000 in
theorem cck_205 : ∀ a, a < 2 → cckR 205 a = true := by decide +kernel
set_option maxRecDepth 100000 in
theorem cck_206 : ∀ a, a < 7 → cckR 206 a = true := by decide +kernel
set_option maxRecDepth 100000 in
theorem cck_207 : ∀ a, a < 4 → cckR 207 a = true := by decide +kernel
set_option maxRecDepth 100000 in
theorem cck_208 : ∀ a, a < 5 → cckR 208 a = true := by decide +kernel
set_option maxRecDepth 100000 in
theorem cck_209 : ∀ a, a < 7 → cckR 209 a = true := by decide +kernel
set_option maxRecDepth 100000 in
theorem cck_210 : ∀ a, a < 10 → cckR 210 a = true := by decide +kernel
set_option maxRecDepth 100000 in
theorem cck_211 : ∀ a, a < 10 → cckR 211 a = true := by decide +kernel
set_option maxRecDepth 100000 in
theorem cck_212 : ∀ a, a < 7 → cckR 212 a = true := by decide +kernel
set_option maxRecDepth 100000 in
theorem cck_213 : ∀ a, a < 12 → cckR 213 a = true := by decide +kernel
set_option maxRecDepth 100000 in
theorem cck_214 : ∀ a, a < 4 → cckR 214 a = true := by decide +kernel
set_option maxRecDepth 100000 in
theorem cck_215 : ∀ a, a < 10 → cckR 215 a = true := by decide +kernel
set_option maxRecDepth 100000 in
theorem cck_216 : ∀ a, a < 2 → cckR 216 a = true := by decide +kernel
set_option maxRecDepth 100000 in
theorem cck_217 : ∀ a, a < 2 → cckR 217 a = true := by decide +kernel
set_option maxRecDepth 100000 in
theorem cck_218 : ∀ a, a < 3 → cckR 218 a = true := by decide +kernel
set_option maxRecDepth 100000 in
theorem cck_219 : ∀ a, a < 3 → cckR 219 a = true := by decide +kernel
set_option maxRecDepth 100000 in
theorem cck_220 : ∀ a, a < 3 → cckR 220 a = true := by decide +kernel
set_option maxRecDepth 100000 in
theorem cck_221 : ∀ a, a < 1 → cckR 221 a = true := by decide +kernel
set_option maxRecDepth 100000 in
theorem cck_222 : ∀ a, a < 7 → cckR 222 a = true := by decide +kernel
set_option maxRecDepth 100000 in
theorem cck_223 : ∀ a, a < 3 → cckR 223 a = true := by decide +kernel
set_option maxRecDepth 100000 in
theorem cck_224 : ∀ a, a < 8 → cckR 224 a = true := by decide +kernel
set_option maxRecDepth 100000 in
theorem cck_225 : ∀ a, a < 4 → cckR 225 a = true := by decide +kernel
set_option maxRecDepth 100000 in
theorem cck_226 : ∀ a, a < 2 → cckR 226 a = true := by decide +kernel
set_option maxRecDepth 100000 in
theorem cck_227 : ∀ a, a < 4 → cckR 227 a = true := by decide +kernel
set_option maxRecDepth 100000 in
theorem cck_228 : ∀ a, a < 2 → cckR 228 a = true := by decide +kernel
set_option maxRecDepth 100000 in
theorem cck_229 : ∀ a, a < 8 → cckR 229 a = true := by decide +kernel
set_option maxRecDepth 100000 in
theorem cck_230 : ∀ a, a < 4 → cckR 230 a = true := by decide +kernel
set_option maxRecDepth 100000 in
theorem cck_231 : ∀ a, a < 3 → cckR 231 a = true := by decide +kernel
set_option maxRecDepth 100000 in
theorem cck_232 : ∀ a, a < 6 → cckR 232 a = true := by decide +kernel
set_option maxRecDepth 100000 in
theorem cck_233 : ∀ a, a < 4 → cckR 233 a = true := by decide +kernel
set_option maxRecDepth 100000 in
theorem cck_234 : ∀ a, a < 5 → cckR 234 a = true := by decide +kernel
set_option maxRecDepth 100000 in
theorem cck_235 : ∀ a, a < 8 → cckR 235 a = true := by decide +kernel
set_option maxRecDepth 100000 in
theorem cck_236 : ∀ a, a < 1 → cckR 236 a = true := by decide +kernel
set_option maxRecDepth 100000 in
theorem cck_237 : ∀ a, a < 2 → cckR 237 a = true := by decide +kernel
set_option maxRecDepth 100000 in
theorem cck_238 : ∀ a, a < 13 → cckR 238 a = true := by decide +kernel
set_option maxRecDepth 100000 in
theorem cck_239 : ∀ a, a < 2 → cckR 239 a = true := by decide +kernel
set_option maxRecDepth 100000 in
theorem cck_240 : ∀ a, a < 19 → cckR 240 a = true := by decide +kernel
set_option maxRecDepth 100000 in
theorem cck_241 : ∀ a, a < 2 → cckR 241 a = true := by decide +kernel
set_option maxRecDepth 100000 in
theorem cck_242 : ∀ a, a < 2 → cckR 242 a = true := by decide +kernel
set_option maxRecDepth 100000 in
theorem cck_243 : ∀ a, a < 6 → cckR 243 a = true := by decide +kernel
set_option maxRecDepth 100000 in
theorem cck_244 : ∀ a, a < 6 → cckR 244 a = true := by decide +kernel
set_option maxRecDepth 100000 in
theorem cck_245 : ∀ a, a < 7 → cckR 245 a = true := by decide +kernel
set_option maxRecDepth 100000 in
theorem cck_246 : ∀ a, a < 2 → cckR 246 a = true := by decide +kernel
set_option maxRecDepth 100000 in
theorem cck_247 : ∀ a, a < 9 → cckR 247 a = true := by decide +kernel
set_option maxRecDepth 100000 in
theorem cck_248 : ∀ a, a < 3 → cckR 248 a = true := by decide +kernel
set_option maxRecDepth 100000 in
theorem cck_249 : ∀ a, a < 3 → cckR 249 a = true := by decide +kernel
set_option maxRecDepth 100000 in
theorem cck_250 : ∀ a, a < 6 → cckR 250 a = true := by decide +kernel
set_option maxRecDepth 100000 in
theorem cck_251 : ∀ a, a < 4 → cckR 251 a = true := by decide +kernel
set_option maxRecDepth 100000 in
theorem cck_252 : ∀ a, a < 5 → cckR 252 a = true := by decide +kernel
set_option maxRecDepth 100000 in
theorem cck_253 : ∀ a, a < 3 → cckR 253 a = true := by decide +kernel
set_option maxRecDepth 100000 in
theorem cck_254 : ∀ a, a < 4 → cckR 254 a = true := by decide +kernel
set_option maxRecDepth 100000 in
theorem cck_255 : ∀ a, a < 4 → cckR 255 a = true := by decide +kernel
set_option maxRecDepth 100000 in
theorem cck_256 : ∀ a, a < 3 → cckR 256 a = true := by decide +kernel
set_option maxRecDepth 100000 in
theorem cck_257 : ∀ a, a < 2 → cckR 257 a = true := by decide +kernel
set_option maxRecDepth 100000 in
theorem cck_258 : ∀ a, a < 2 → cckR 258 a = true := by decide +kernel
set_option maxRecDepth 100000 in
theorem cck_259 : ∀ a, a < 3 → cckR 259 a = true := by decide +kernel
set_option maxRecDepth 100000 in
theorem cck_260 : ∀ a, a < 10 → cckR 260 a = true := by decide +kernel
set_option maxRecDepth 100000 in
theorem cck_261 : ∀ a, a < 5 → cckR 261 a = true := by decide +kernel
set_option maxRecDepth 100000 in
theorem cck_262 : ∀ a, a < 4 → cckR 262 a = true := by decide +kernel
set_option maxRecDepth 100000 in
theorem cck_263 : ∀ a, a < 7 → cckR 263 a = true := by decide +kernel
set_option maxRecDepth 100000 in
theorem cck_264 : ∀ a, a < 10 → cckR 264 a = true := by decide +kernel
set_option maxRecDepth 100000 in
theorem cck_265 : ∀ a, a < 3 → cckR 265 a = true := by decide +kernel
set_option maxRecDepth 100000 in
theorem cck_266 : ∀ a, a < 8 → cckR 266 a = true := by decide +kernel
set_option maxRecDepth 100000 in
theorem cck_267 : ∀ a, a < 6 → cckR 267 a = true := by decide +kernel
set_option maxRecDepth 100000 in
theorem cck_268 : ∀ a, a < 9 → cckR 268 a = true := by decide +kernel
set_option maxRecDepth 100000 in
theorem cck_269 : ∀ a, a < 9 → cckR 269 a = true := by decide +kernel
set_option maxRecDepth 100000 in
theorem cck_270 : ∀ a, a < 5 → cckR 270 a = true := by decide +kernel
set_option maxRecDepth 100000 in
theorem cck_271 : ∀ a, a < 3 → cckR 271 a = true := by decide +kernel
set_option maxRecDepth 100000 in
theorem cck_272 : ∀ a, a < 8 → cckR 272 a = true := by decide +kernel
set_option maxRecDepth 100000 in
theorem cck_273 : ∀ a, a < 9 → cckR 273 a = true := by decide +kernel
set_option maxRecDepth 100000 in
theorem cck_274 : ∀ a, a < 13 → cckR 274 a = true := by decide +kernel
set_option maxRecDepth 100000 in
theorem cck_275 : ∀ a, a < 2 → cckR 275 a = true := by decide +kernel
set_option maxRecDepth 100000 in
theorem cck_276_0 : ∀ a, a ∈ [0, 1, 2, 3, 4, 5] → cckR 276 a = true := by decide +kernel
set_option maxRecDepth 100000 in
theorem cck_276_6 : ∀ a, a ∈ [6, 7, 8, 9, 10, 11] → cckR 276 a = true := by decide +kernel
set_option maxRecDepth 100000 in
theorem cck_276_12 : ∀ a, a ∈ [12, 13, 14, 15, 16, 17] → cckR 276 a = true := by decide +kernel
set_option maxRecDepth 100000 in
theorem cck_276_18 : ∀ a, a ∈ [18, 19, 20, 21, 22, 23] → cckR 276 a = true := by decide +kernel
set_option maxRecDepth 100000 in
theorem cck_276_24 : ∀ a, a ∈ [24, 25, 26, 27, 28, 29] → cckR 276 a = true := by decide +kernel
set_option maxRecDepth 100000 in
theorem cck_276_30 : ∀ a, a ∈ [30, 31, 32, 33, 34, 35] → cckR 276 a = true := by decide +kernel
set_option maxRecDepth 100000 in
theorem cck_276_36 : ∀ a, a ∈ [36, 37, 38, 39, 40, 41] → cckR 276 a = true := by decide +kernel
set_option maxRecDepth 100000 in
theorem cck_276_42 : ∀ a, a ∈ [42, 43, 44, 45, 46, 47] → cckR 276 a = true := by decide +kernel
set_option maxRecDepth 100000 in
theorem cck_276_48 : ∀ a, a ∈ [48, 49, 50, 51, 52, 53] → cckR 276 a = true := by decide +kernel
set_option maxRecDepth 100000 in
theorem cck_276_54 : ∀ a, a ∈ [54, 55, 56, 57, 58, 59] → cckR 276 a = true := by decide +kernel
set_option maxRecDepth 100000 in
theorem cck_276_60 : ∀ a, a ∈ [60, 61, 62, 63, 64, 65] → cckR 276 a = true := by decide +kernel
set_option maxRecDepth 100000 in
theorem cck_276_66 : ∀ a, a ∈ [66, 67, 68, 69, 70, 71] → cckR 276 a = true := by decide +kernel
set_option maxRecDepth 100000 in
theorem cck_276_72 : ∀ a, a ∈ [72, 73, 74, 75, 76, 77] → cckR 276 a = true := by decide +kernel
set_option maxRecDepth 100000 in
theorem cck_276_78 : ∀ a, a ∈ [78, 79, 80, 81, 82, 83] → cckR 276 a = true := by decide +kernel
set_option maxRecDepth 100000 in
theorem cck_276_84 : ∀ a, a ∈ [84, 85, 86, 87, 88, 89] → cckR 276 a = true := by decide +kernel
set_option maxRecDepth 100000 in
theorem cck_276_90 : ∀ a, a ∈ [90, 91, 92, 93, 94, 95] → cckR 276 a = true := by decide +kernel
theorem cck_276 : ∀ a, a < 96 → cckR 276 a = true := by
  intro a ha
  have h : (0 ≤ a ∧ a < 6) ∨ (6 ≤ a ∧ a < 12) ∨ (12 ≤ a ∧ a < 18) ∨ (18 ≤ a ∧ a < 24) ∨ (24 ≤ a ∧ a < 30) ∨ (30 ≤ a ∧ a < 36) ∨ (36 ≤ a ∧ a < 42) ∨ (42 ≤ a ∧ a < 48) ∨ (48 ≤ a ∧ a < 54) ∨ (54 ≤ a ∧ a < 60) ∨ (60 ≤ a ∧ a < 66) ∨ (66 ≤ a ∧ a < 72) ∨ (72 ≤ a ∧ a < 78) ∨ (78 ≤ a ∧ a < 84) ∨ (84 ≤ a ∧ a < 90) ∨ (90 ≤ a ∧ a < 96) := by omega
  rcases h with ⟨h1, h2⟩ | ⟨h1, h2⟩ | ⟨h1, h2⟩ | ⟨h1, h2⟩ | ⟨h1, h2⟩ | ⟨h1, h2⟩ | ⟨h1, h2⟩ | ⟨h1, h2⟩ | ⟨h1, h2⟩ | ⟨h1, h2⟩ | ⟨h1, h2⟩ | ⟨h1, h2⟩ | ⟨h1, h2⟩ | ⟨h1, h2⟩ | ⟨h1, h2⟩ | ⟨h1, h2⟩
  · exact cck_276_0 a (by simp only [List.mem_cons, List.not_mem_nil, or_false]; omega)
  · exact cck_276_6 a (by simp only [List.mem_cons, List.not_mem_nil, or_false]; omega)
  · exact cck_276_12 a (by simp only [List.mem_cons, List.not_mem_nil, or_false]; omega)
  · exact cck_276_18 a (by simp only [List.mem_cons, List.not_mem_nil, or_false]; omega)
  · exact cck_276_24 a (by simp only [List.mem_cons, List.not_mem_nil, or_false]; omega)
  · exact cck_276_30 a (by simp only [List.mem_cons, List.not_mem_nil, or_false]; omega)
  · exact cck_276_36 a (by simp only [List.mem_cons, List.not_mem_nil, or_false]; omega)
  · exact cck_276_42 a (by simp only [List.mem_cons, List.not_mem_nil, or_false]; omega)
  · exact cck_276_48 a (by simp only [List.mem_cons, List.not_mem_nil, or_false]; omega)
  · exact cck_276_54 a (by simp only [List.mem_cons, List.not_mem_nil, or_false]; omega)
  · exact cck_276_60 a (by simp only [List.mem_cons, List.not_mem_nil, or_false]; omega)
  · exact cck_276_66 a (by simp only [List.mem_cons, List.not_mem_nil, or_false]; omega)
  · exact cck_276_72 a (by simp only [List.mem_cons, List.not_mem_nil, or_false]; omega)
  · exact cck_276_78 a (by simp only [List.mem_cons, List.not_mem_nil, or_false]; omega)
  · exact cck_276_84 a (by simp only [List.mem_cons, List.not_mem_nil, or_false]; omega)
  · exact cck_276_90 a (by simp only [List.mem_cons, List.not_mem_nil, or_false]; omega)
set_option maxRecDepth 100000 in
theorem cck_277 : ∀ a, a < 4 → cckR 277 a = true := by decide +kernel
