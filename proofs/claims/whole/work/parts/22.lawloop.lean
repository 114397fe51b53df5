/-! what must be kept from call to call: the law needs no more of the class and the reference than this -/
def hypC (n : Nat) (s : S3) (π : Nat → Nat) : Prop := vp_in (s 4 2 0) 33 ∧ (∀ j, π j < 34) ∧ opOK s ∧ (¬ s 3 2 0 = 0 → vp_in (s 6 1 7) n ∧ (¬ s 6 2 7 = 7 → vp_in (s 6 2 7) n)) ∧
  ∀ x : Int32, ¬ v_Post_has (s 4 2 0) x = 0 → (¬ s 5 3 (π x.toNatClampNeg) = 8 → vp_in (s 5 4 (π x.toNatClampNeg)) n) ∧ (s 5 3 (π x.toNatClampNeg) = 8 → vp_in (s 5 4 (π x.toNatClampNeg)) 3)
def hypR (s : S3) : Prop := vp_in (s 0 0 0) 6 ∧ vp_in (s 0 25 0) 33 ∧ fB s ∧ (∀ j, vp_in (s 20 0 j) 512) ∧ (∀ j, vp_in (s 19 0 j) 180) ∧ (∀ j, ¬ s 18 0 j < 0 → vp_in (s 18 0 j) 512) ∧ (∀ j, ¬ s 21 0 j < 0 → vp_in (s 21 0 j) 512) ∧ (∀ j, vp_in (s 26 0 j) 34) ∧ (∀ j, s 15 0 j = 0 → s 18 0 j < 0) ∧ vp_in (s 0 2 0) 512 ∧ (∃ p, p < 34 ∧ s 27 0 p = 0) ∧ vp_in (s 9 0 5) 5 ∧ (¬ (s 10 0 5) < 0 → vp_in (s 10 0 5) 5) ∧
  ∀ x : Int32, ¬ x < 0 → x < s 0 25 0 → arOK (uA (u3 s 0 25 0 ((s 0 25 0) - 1)) 26 0 (rowR ((s 0 25 0).toNatClampNeg - 1 - x.toNatClampNeg) x.toNatClampNeg (s 26 0))) (s 26 0 x.toNatClampNeg) (s 28 0 (s 26 0 x.toNatClampNeg).toNatClampNeg)
/-- one call: the same answer, and what is kept is kept -/
def stp (J : Nat → S3 → (Nat → Nat) → S3 → Prop) (t : Nat) (s : S3) (π : Nat → Nat) (r : S3) (vc vr : Int32) : Prop := vc = vr ∧ J (t + 1) s π r
def st_advance (n : Nat) (J : Nat → S3 → (Nat → Nat) → S3 → Prop) (t : Nat) (s : S3) (π : Nat → Nat) (r : S3) : Prop := ∀ x : Int32, stp J t (S_Store_advance n π s x) π (S_Model_advance r x) (v_Store_advance n π s x) (v_Model_advance r x)
def st_skew (n : Nat) (J : Nat → S3 → (Nat → Nat) → S3 → Prop) (t : Nat) (s : S3) (π : Nat → Nat) (r : S3) : Prop := ∀ x y : Int32, stp J t (S_Store_skew n π s x y) π (S_Model_skew r x y) (v_Store_skew n π s x y) (v_Model_skew r x y)
def st_ping (n : Nat) (J : Nat → S3 → (Nat → Nat) → S3 → Prop) (t : Nat) (s : S3) (π : Nat → Nat) (r : S3) : Prop := ∀ x : Int32, stp J t (S_Store_ping n π s x) π (S_Model_ping r x) (v_Store_ping n π s x) (v_Model_ping r x)
def st_check (n : Nat) (J : Nat → S3 → (Nat → Nat) → S3 → Prop) (t : Nat) (s : S3) (π : Nat → Nat) (r : S3) : Prop := stp J t (S_Store_check n π s ) π (S_Model_check r ) (v_Store_check n π s ) (v_Model_check r )
def st_push (n : Nat) (J : Nat → S3 → (Nat → Nat) → S3 → Prop) (t : Nat) (s : S3) (π : Nat → Nat) (r : S3) : Prop := ∀ x : Int32, stp J t (S_Store_push n π s x) π (S_Model_push r x) (v_Store_push n π s x) (v_Model_push r x)
def st_begin (n : Nat) (J : Nat → S3 → (Nat → Nat) → S3 → Prop) (t : Nat) (s : S3) (π : Nat → Nat) (r : S3) : Prop := ∀ x w k v : Int32, zb w → stp J t (S_Store_begin n π s x w k v) π (S_Model_begin r x w k v) (v_Store_begin n π s x w k v) (v_Model_begin r x w k v)
def st_send (n : Nat) (J : Nat → S3 → (Nat → Nat) → S3 → Prop) (t : Nat) (s : S3) (π : Nat → Nat) (r : S3) : Prop := ∀ x y : Int32, stp J t (S_Store_send n π s x y) π (S_Model_send r x y) (v_Store_send n π s x y) (v_Model_send r x y)
def st_deliver (n : Nat) (J : Nat → S3 → (Nat → Nat) → S3 → Prop) (t : Nat) (s : S3) (π : Nat → Nat) (r : S3) : Prop := ∀ x : Int32, stp J t (S_Store_deliver n π s x) (P_Store_deliver n π s x) (S_Model_deliver r x) (v_Store_deliver n π s x) (v_Model_deliver r x)
def st_lose (n : Nat) (J : Nat → S3 → (Nat → Nat) → S3 → Prop) (t : Nat) (s : S3) (π : Nat → Nat) (r : S3) : Prop := ∀ x : Int32, stp J t (S_Store_lose n π s x) (P_Store_lose n π s x) (S_Model_lose r x) (v_Store_lose n π s x) (v_Model_lose r x)
def st_crash (n : Nat) (J : Nat → S3 → (Nat → Nat) → S3 → Prop) (t : Nat) (s : S3) (π : Nat → Nat) (r : S3) : Prop := ∀ x : Int32, stp J t (S_Store_crash n π s x) π (S_Model_crash r x) (v_Store_crash n π s x) (v_Model_crash r x)
def st_letters (n : Nat) (J : Nat → S3 → (Nat → Nat) → S3 → Prop) (t : Nat) (s : S3) (π : Nat → Nat) (r : S3) : Prop := stp J t s π r (s 4 2 0) (r 0 25 0)
def st_letter (n : Nat) (J : Nat → S3 → (Nat → Nat) → S3 → Prop) (t : Nat) (s : S3) (π : Nat → Nat) (r : S3) : Prop := ∀ x : Int32, stp J t s π r (v_Store_letter (s 4 2 0) (s 5 3 (π x.toNatClampNeg)) (s 5 4 (π x.toNatClampNeg)) x) (v_Model_letter r x)
def st_view (n : Nat) (J : Nat → S3 → (Nat → Nat) → S3 → Prop) (t : Nat) (s : S3) (π : Nat → Nat) (r : S3) : Prop := ∀ x : Int32, stp J t s π r (v_Store_view n (s 6 0 7) (s 6 1 7) (s 6 2 7) (s 6 0 x.toNatClampNeg) (s 6 1 x.toNatClampNeg) (s 6 2 x.toNatClampNeg) x) (v_Model_view (r 8 0 5) (r 10 0 5) (r 9 0 5) (r 0 0 0) (r 8 0 x.toNatClampNeg) (r 10 0 x.toNatClampNeg) (r 9 0 x.toNatClampNeg) x)
def st_role (n : Nat) (J : Nat → S3 → (Nat → Nat) → S3 → Prop) (t : Nat) (s : S3) (π : Nat → Nat) (r : S3) : Prop := ∀ x : Int32, stp J t s π r (v_Store_role n (s 1 6 x.toNatClampNeg) (s 6 0 x.toNatClampNeg) (s 6 1 x.toNatClampNeg) (s 1 0 x.toNatClampNeg) (s 1 7 x.toNatClampNeg) (s 1 8 x.toNatClampNeg) (s 6 2 x.toNatClampNeg) (s 1 9 x.toNatClampNeg) x) (v_Model_role (r 0 0 0) (r 8 0 x.toNatClampNeg) (r 17 0 x.toNatClampNeg) (r 9 0 x.toNatClampNeg) (r 18 0 x.toNatClampNeg) (r 15 0 x.toNatClampNeg) (r 10 0 x.toNatClampNeg) (r 16 0 x.toNatClampNeg) x)
def st_cell (n : Nat) (J : Nat → S3 → (Nat → Nat) → S3 → Prop) (t : Nat) (s : S3) (π : Nat → Nat) (r : S3) : Prop := ∀ x y : Int32, stp J t s π r (v_Store_cell n (s 9 x.toNatClampNeg y.toNatClampNeg) x y) (v_Model_cell r x y)
def st_count (n : Nat) (J : Nat → S3 → (Nat → Nat) → S3 → Prop) (t : Nat) (s : S3) (π : Nat → Nat) (r : S3) : Prop := ∀ x : Int32, stp J t s π r (v_Store_count n (s 8 3 x.toNatClampNeg) x) (v_Model_count (r 0 0 0) (r 19 0 x.toNatClampNeg) x)
def st_finished (n : Nat) (J : Nat → S3 → (Nat → Nat) → S3 → Prop) (t : Nat) (s : S3) (π : Nat → Nat) (r : S3) : Prop := ∀ x : Int32, stp J t s π r (v_Store_finished (s 2 2 x.toNatClampNeg) x) (v_Model_finished (r 23 0 x.toNatClampNeg) x)
def st_result (n : Nat) (J : Nat → S3 → (Nat → Nat) → S3 → Prop) (t : Nat) (s : S3) (π : Nat → Nat) (r : S3) : Prop := ∀ x : Int32, stp J t s π r (v_Store_result (s 2 3 x.toNatClampNeg) x) (v_Model_result (r 24 0 x.toNatClampNeg) x)
def opsOK (n : Nat) (J : Nat → S3 → (Nat → Nat) → S3 → Prop) : Prop := ∀ (t : Nat) (s : S3) (π : Nat → Nat) (r : S3), t < 512 → J t s π r → hypC n s π ∧ hypR r ∧ J (t + 1) s π r ∧ st_advance n J t s π r ∧ st_skew n J t s π r ∧ st_ping n J t s π r ∧ st_check n J t s π r ∧ st_push n J t s π r ∧ st_begin n J t s π r ∧ st_send n J t s π r ∧ st_deliver n J t s π r ∧ st_lose n J t s π r ∧ st_crash n J t s π r ∧ st_letters n J t s π r ∧ st_letter n J t s π r ∧ st_view n J t s π r ∧ st_role n J t s π r ∧ st_cell n J t s π r ∧ st_count n J t s π r ∧ st_finished n J t s π r ∧ st_result n J t s π r
theorem d_law_0 : decode code 0 = .ok (.new 7, 3) := by decide +kernel
theorem d_law_3 : decode code 3 = .ok (.dup, 1) := by decide +kernel
theorem d_law_4 : decode code 4 = .ok (.aload_n 0, 1) := by decide +kernel
theorem d_law_5 : decode code 5 = .ok (.iconst 0, 1) := by decide +kernel
theorem d_law_6 : decode code 6 = .ok (.invokestatic 9, 3) := by decide +kernel
theorem d_law_9 : decode code 9 = .ok (.invokespecial 15, 3) := by decide +kernel
theorem d_law_12 : decode code 12 = .ok (.astore_n 1, 1) := by decide +kernel
theorem d_law_13 : decode code 13 = .ok (.new 18, 3) := by decide +kernel
theorem d_law_16 : decode code 16 = .ok (.dup, 1) := by decide +kernel
theorem d_law_17 : decode code 17 = .ok (.aload_n 0, 1) := by decide +kernel
theorem d_law_18 : decode code 18 = .ok (.iconst 0, 1) := by decide +kernel
theorem d_law_19 : decode code 19 = .ok (.invokestatic 9, 3) := by decide +kernel
theorem d_law_22 : decode code 22 = .ok (.invokespecial 20, 3) := by decide +kernel
theorem d_law_25 : decode code 25 = .ok (.astore_n 2, 1) := by decide +kernel
theorem d_law_26 : decode code 26 = .ok (.iconst 1, 1) := by decide +kernel
theorem d_law_27 : decode code 27 = .ok (.istore_n 3, 1) := by decide +kernel
theorem d_law_28 : decode code 28 = .ok (.iload_n 3, 1) := by decide +kernel
theorem d_law_29 : decode code 29 = .ok (.aload_n 0, 1) := by decide +kernel
theorem d_law_30 : decode code 30 = .ok (.arraylength, 1) := by decide +kernel
theorem d_law_31 : decode code 31 = .ok (.iconst 5, 1) := by decide +kernel
theorem d_law_32 : decode code 32 = .ok (.isub, 1) := by decide +kernel
theorem d_law_33 : decode code 33 = .ok (.if_icmp .gt 571, 3) := by decide +kernel
theorem d_law_36 : decode code 36 = .ok (.aload_n 0, 1) := by decide +kernel
theorem d_law_37 : decode code 37 = .ok (.iload_n 3, 1) := by decide +kernel
theorem d_law_38 : decode code 38 = .ok (.iaload, 1) := by decide +kernel
theorem d_law_39 : decode code 39 = .ok (.bipush 31, 2) := by decide +kernel
theorem d_law_41 : decode code 41 = .ok (.iand, 1) := by decide +kernel
theorem d_law_42 : decode code 42 = .ok (.tableswitch 556 0 17 #[86, 109, 142, 165, 178, 201, 270, 303, 326, 349, 372, 385, 408, 431, 454, 487, 510, 533], 86) := by decide +kernel
theorem d_law_128 : decode code 128 = .ok (.aload_n 1, 1) := by decide +kernel
theorem d_law_129 : decode code 129 = .ok (.aload_n 0, 1) := by decide +kernel
theorem d_law_130 : decode code 130 = .ok (.iload_n 3, 1) := by decide +kernel
theorem d_law_131 : decode code 131 = .ok (.iconst 1, 1) := by decide +kernel
theorem d_law_132 : decode code 132 = .ok (.iadd, 1) := by decide +kernel
theorem d_law_133 : decode code 133 = .ok (.iaload, 1) := by decide +kernel
theorem d_law_134 : decode code 134 = .ok (.invokevirtual 21, 3) := by decide +kernel
theorem d_law_137 : decode code 137 = .ok (.aload_n 2, 1) := by decide +kernel
theorem d_law_138 : decode code 138 = .ok (.aload_n 0, 1) := by decide +kernel
theorem d_law_139 : decode code 139 = .ok (.iload_n 3, 1) := by decide +kernel
theorem d_law_140 : decode code 140 = .ok (.iconst 1, 1) := by decide +kernel
theorem d_law_141 : decode code 141 = .ok (.iadd, 1) := by decide +kernel
theorem d_law_142 : decode code 142 = .ok (.iaload, 1) := by decide +kernel
theorem d_law_143 : decode code 143 = .ok (.invokevirtual 25, 3) := by decide +kernel
theorem d_law_146 : decode code 146 = .ok (.if_icmp .eq 452, 3) := by decide +kernel
theorem d_law_149 : decode code 149 = .ok (.iconst 0, 1) := by decide +kernel
theorem d_law_150 : decode code 150 = .ok (.ireturn, 1) := by decide +kernel
theorem d_law_151 : decode code 151 = .ok (.aload_n 1, 1) := by decide +kernel
theorem d_law_152 : decode code 152 = .ok (.aload_n 0, 1) := by decide +kernel
theorem d_law_153 : decode code 153 = .ok (.iload_n 3, 1) := by decide +kernel
theorem d_law_154 : decode code 154 = .ok (.iconst 1, 1) := by decide +kernel
theorem d_law_155 : decode code 155 = .ok (.iadd, 1) := by decide +kernel
theorem d_law_156 : decode code 156 = .ok (.iaload, 1) := by decide +kernel
theorem d_law_157 : decode code 157 = .ok (.aload_n 0, 1) := by decide +kernel
theorem d_law_158 : decode code 158 = .ok (.iload_n 3, 1) := by decide +kernel
theorem d_law_159 : decode code 159 = .ok (.iconst 2, 1) := by decide +kernel
theorem d_law_160 : decode code 160 = .ok (.iadd, 1) := by decide +kernel
theorem d_law_161 : decode code 161 = .ok (.iaload, 1) := by decide +kernel
theorem d_law_162 : decode code 162 = .ok (.invokevirtual 26, 3) := by decide +kernel
theorem d_law_165 : decode code 165 = .ok (.aload_n 2, 1) := by decide +kernel
theorem d_law_166 : decode code 166 = .ok (.aload_n 0, 1) := by decide +kernel
theorem d_law_167 : decode code 167 = .ok (.iload_n 3, 1) := by decide +kernel
theorem d_law_168 : decode code 168 = .ok (.iconst 1, 1) := by decide +kernel
theorem d_law_169 : decode code 169 = .ok (.iadd, 1) := by decide +kernel
theorem d_law_170 : decode code 170 = .ok (.iaload, 1) := by decide +kernel
theorem d_law_171 : decode code 171 = .ok (.aload_n 0, 1) := by decide +kernel
theorem d_law_172 : decode code 172 = .ok (.iload_n 3, 1) := by decide +kernel
theorem d_law_173 : decode code 173 = .ok (.iconst 2, 1) := by decide +kernel
theorem d_law_174 : decode code 174 = .ok (.iadd, 1) := by decide +kernel
theorem d_law_175 : decode code 175 = .ok (.iaload, 1) := by decide +kernel
theorem d_law_176 : decode code 176 = .ok (.invokevirtual 30, 3) := by decide +kernel
theorem d_law_179 : decode code 179 = .ok (.if_icmp .eq 419, 3) := by decide +kernel
theorem d_law_182 : decode code 182 = .ok (.iconst 0, 1) := by decide +kernel
theorem d_law_183 : decode code 183 = .ok (.ireturn, 1) := by decide +kernel
theorem d_law_184 : decode code 184 = .ok (.aload_n 1, 1) := by decide +kernel
theorem d_law_185 : decode code 185 = .ok (.aload_n 0, 1) := by decide +kernel
theorem d_law_186 : decode code 186 = .ok (.iload_n 3, 1) := by decide +kernel
theorem d_law_187 : decode code 187 = .ok (.iconst 1, 1) := by decide +kernel
theorem d_law_188 : decode code 188 = .ok (.iadd, 1) := by decide +kernel
theorem d_law_189 : decode code 189 = .ok (.iaload, 1) := by decide +kernel
theorem d_law_190 : decode code 190 = .ok (.invokevirtual 31, 3) := by decide +kernel
theorem d_law_193 : decode code 193 = .ok (.aload_n 2, 1) := by decide +kernel
theorem d_law_194 : decode code 194 = .ok (.aload_n 0, 1) := by decide +kernel
theorem d_law_195 : decode code 195 = .ok (.iload_n 3, 1) := by decide +kernel
theorem d_law_196 : decode code 196 = .ok (.iconst 1, 1) := by decide +kernel
theorem d_law_197 : decode code 197 = .ok (.iadd, 1) := by decide +kernel
theorem d_law_198 : decode code 198 = .ok (.iaload, 1) := by decide +kernel
theorem d_law_199 : decode code 199 = .ok (.invokevirtual 35, 3) := by decide +kernel
theorem d_law_202 : decode code 202 = .ok (.if_icmp .eq 396, 3) := by decide +kernel
theorem d_law_205 : decode code 205 = .ok (.iconst 0, 1) := by decide +kernel
theorem d_law_206 : decode code 206 = .ok (.ireturn, 1) := by decide +kernel
theorem d_law_207 : decode code 207 = .ok (.aload_n 1, 1) := by decide +kernel
theorem d_law_208 : decode code 208 = .ok (.invokevirtual 36, 3) := by decide +kernel
theorem d_law_211 : decode code 211 = .ok (.aload_n 2, 1) := by decide +kernel
theorem d_law_212 : decode code 212 = .ok (.invokevirtual 40, 3) := by decide +kernel
theorem d_law_215 : decode code 215 = .ok (.if_icmp .eq 383, 3) := by decide +kernel
theorem d_law_218 : decode code 218 = .ok (.iconst 0, 1) := by decide +kernel
theorem d_law_219 : decode code 219 = .ok (.ireturn, 1) := by decide +kernel
theorem d_law_220 : decode code 220 = .ok (.aload_n 1, 1) := by decide +kernel
theorem d_law_221 : decode code 221 = .ok (.aload_n 0, 1) := by decide +kernel
theorem d_law_222 : decode code 222 = .ok (.iload_n 3, 1) := by decide +kernel
theorem d_law_223 : decode code 223 = .ok (.iconst 1, 1) := by decide +kernel
theorem d_law_224 : decode code 224 = .ok (.iadd, 1) := by decide +kernel
theorem d_law_225 : decode code 225 = .ok (.iaload, 1) := by decide +kernel
theorem d_law_226 : decode code 226 = .ok (.invokevirtual 41, 3) := by decide +kernel
theorem d_law_229 : decode code 229 = .ok (.aload_n 2, 1) := by decide +kernel
theorem d_law_230 : decode code 230 = .ok (.aload_n 0, 1) := by decide +kernel
theorem d_law_231 : decode code 231 = .ok (.iload_n 3, 1) := by decide +kernel
theorem d_law_232 : decode code 232 = .ok (.iconst 1, 1) := by decide +kernel
theorem d_law_233 : decode code 233 = .ok (.iadd, 1) := by decide +kernel
theorem d_law_234 : decode code 234 = .ok (.iaload, 1) := by decide +kernel
theorem d_law_235 : decode code 235 = .ok (.invokevirtual 44, 3) := by decide +kernel
theorem d_law_238 : decode code 238 = .ok (.if_icmp .eq 360, 3) := by decide +kernel
theorem d_law_241 : decode code 241 = .ok (.iconst 0, 1) := by decide +kernel
theorem d_law_242 : decode code 242 = .ok (.ireturn, 1) := by decide +kernel
theorem d_law_243 : decode code 243 = .ok (.aload_n 1, 1) := by decide +kernel
theorem d_law_244 : decode code 244 = .ok (.aload_n 0, 1) := by decide +kernel
theorem d_law_245 : decode code 245 = .ok (.iload_n 3, 1) := by decide +kernel
theorem d_law_246 : decode code 246 = .ok (.iconst 1, 1) := by decide +kernel
theorem d_law_247 : decode code 247 = .ok (.iadd, 1) := by decide +kernel
theorem d_law_248 : decode code 248 = .ok (.iaload, 1) := by decide +kernel
theorem d_law_249 : decode code 249 = .ok (.aload_n 0, 1) := by decide +kernel
theorem d_law_250 : decode code 250 = .ok (.iload_n 3, 1) := by decide +kernel
theorem d_law_251 : decode code 251 = .ok (.iconst 2, 1) := by decide +kernel
theorem d_law_252 : decode code 252 = .ok (.iadd, 1) := by decide +kernel
theorem d_law_253 : decode code 253 = .ok (.iaload, 1) := by decide +kernel
theorem d_law_254 : decode code 254 = .ok (.ifCond .eq 7, 3) := by decide +kernel
theorem d_law_257 : decode code 257 = .ok (.iconst 1, 1) := by decide +kernel
theorem d_law_258 : decode code 258 = .ok (.goto 4, 3) := by decide +kernel
theorem d_law_261 : decode code 261 = .ok (.iconst 0, 1) := by decide +kernel
theorem d_law_262 : decode code 262 = .ok (.aload_n 0, 1) := by decide +kernel
theorem d_law_263 : decode code 263 = .ok (.iload_n 3, 1) := by decide +kernel
theorem d_law_264 : decode code 264 = .ok (.iconst 3, 1) := by decide +kernel
theorem d_law_265 : decode code 265 = .ok (.iadd, 1) := by decide +kernel
theorem d_law_266 : decode code 266 = .ok (.iaload, 1) := by decide +kernel
theorem d_law_267 : decode code 267 = .ok (.aload_n 0, 1) := by decide +kernel
theorem d_law_268 : decode code 268 = .ok (.iload_n 3, 1) := by decide +kernel
theorem d_law_269 : decode code 269 = .ok (.iconst 4, 1) := by decide +kernel
theorem d_law_270 : decode code 270 = .ok (.iadd, 1) := by decide +kernel
theorem d_law_271 : decode code 271 = .ok (.iaload, 1) := by decide +kernel
theorem d_law_272 : decode code 272 = .ok (.invokevirtual 45, 3) := by decide +kernel
theorem d_law_275 : decode code 275 = .ok (.aload_n 2, 1) := by decide +kernel
theorem d_law_276 : decode code 276 = .ok (.aload_n 0, 1) := by decide +kernel
theorem d_law_277 : decode code 277 = .ok (.iload_n 3, 1) := by decide +kernel
theorem d_law_278 : decode code 278 = .ok (.iconst 1, 1) := by decide +kernel
theorem d_law_279 : decode code 279 = .ok (.iadd, 1) := by decide +kernel
theorem d_law_280 : decode code 280 = .ok (.iaload, 1) := by decide +kernel
theorem d_law_281 : decode code 281 = .ok (.aload_n 0, 1) := by decide +kernel
theorem d_law_282 : decode code 282 = .ok (.iload_n 3, 1) := by decide +kernel
theorem d_law_283 : decode code 283 = .ok (.iconst 2, 1) := by decide +kernel
theorem d_law_284 : decode code 284 = .ok (.iadd, 1) := by decide +kernel
theorem d_law_285 : decode code 285 = .ok (.iaload, 1) := by decide +kernel
theorem d_law_286 : decode code 286 = .ok (.ifCond .eq 7, 3) := by decide +kernel
theorem d_law_289 : decode code 289 = .ok (.iconst 1, 1) := by decide +kernel
theorem d_law_290 : decode code 290 = .ok (.goto 4, 3) := by decide +kernel
theorem d_law_293 : decode code 293 = .ok (.iconst 0, 1) := by decide +kernel
theorem d_law_294 : decode code 294 = .ok (.aload_n 0, 1) := by decide +kernel
theorem d_law_295 : decode code 295 = .ok (.iload_n 3, 1) := by decide +kernel
theorem d_law_296 : decode code 296 = .ok (.iconst 3, 1) := by decide +kernel
theorem d_law_297 : decode code 297 = .ok (.iadd, 1) := by decide +kernel
theorem d_law_298 : decode code 298 = .ok (.iaload, 1) := by decide +kernel
theorem d_law_299 : decode code 299 = .ok (.aload_n 0, 1) := by decide +kernel
theorem d_law_300 : decode code 300 = .ok (.iload_n 3, 1) := by decide +kernel
theorem d_law_301 : decode code 301 = .ok (.iconst 4, 1) := by decide +kernel
theorem d_law_302 : decode code 302 = .ok (.iadd, 1) := by decide +kernel
theorem d_law_303 : decode code 303 = .ok (.iaload, 1) := by decide +kernel
theorem d_law_304 : decode code 304 = .ok (.invokevirtual 49, 3) := by decide +kernel
theorem d_law_307 : decode code 307 = .ok (.if_icmp .eq 291, 3) := by decide +kernel
theorem d_law_310 : decode code 310 = .ok (.iconst 0, 1) := by decide +kernel
theorem d_law_311 : decode code 311 = .ok (.ireturn, 1) := by decide +kernel
theorem d_law_312 : decode code 312 = .ok (.aload_n 1, 1) := by decide +kernel
theorem d_law_313 : decode code 313 = .ok (.aload_n 0, 1) := by decide +kernel
theorem d_law_314 : decode code 314 = .ok (.iload_n 3, 1) := by decide +kernel
theorem d_law_315 : decode code 315 = .ok (.iconst 1, 1) := by decide +kernel
theorem d_law_316 : decode code 316 = .ok (.iadd, 1) := by decide +kernel
theorem d_law_317 : decode code 317 = .ok (.iaload, 1) := by decide +kernel
theorem d_law_318 : decode code 318 = .ok (.aload_n 0, 1) := by decide +kernel
theorem d_law_319 : decode code 319 = .ok (.iload_n 3, 1) := by decide +kernel
theorem d_law_320 : decode code 320 = .ok (.iconst 2, 1) := by decide +kernel
theorem d_law_321 : decode code 321 = .ok (.iadd, 1) := by decide +kernel
theorem d_law_322 : decode code 322 = .ok (.iaload, 1) := by decide +kernel
theorem d_law_323 : decode code 323 = .ok (.invokevirtual 50, 3) := by decide +kernel
theorem d_law_326 : decode code 326 = .ok (.aload_n 2, 1) := by decide +kernel
theorem d_law_327 : decode code 327 = .ok (.aload_n 0, 1) := by decide +kernel
theorem d_law_328 : decode code 328 = .ok (.iload_n 3, 1) := by decide +kernel
theorem d_law_329 : decode code 329 = .ok (.iconst 1, 1) := by decide +kernel
theorem d_law_330 : decode code 330 = .ok (.iadd, 1) := by decide +kernel
theorem d_law_331 : decode code 331 = .ok (.iaload, 1) := by decide +kernel
theorem d_law_332 : decode code 332 = .ok (.aload_n 0, 1) := by decide +kernel
theorem d_law_333 : decode code 333 = .ok (.iload_n 3, 1) := by decide +kernel
theorem d_law_334 : decode code 334 = .ok (.iconst 2, 1) := by decide +kernel
theorem d_law_335 : decode code 335 = .ok (.iadd, 1) := by decide +kernel
theorem d_law_336 : decode code 336 = .ok (.iaload, 1) := by decide +kernel
theorem d_law_337 : decode code 337 = .ok (.invokevirtual 53, 3) := by decide +kernel
theorem d_law_340 : decode code 340 = .ok (.if_icmp .eq 258, 3) := by decide +kernel
theorem d_law_343 : decode code 343 = .ok (.iconst 0, 1) := by decide +kernel
theorem d_law_344 : decode code 344 = .ok (.ireturn, 1) := by decide +kernel
theorem d_law_345 : decode code 345 = .ok (.aload_n 1, 1) := by decide +kernel
theorem d_law_346 : decode code 346 = .ok (.aload_n 0, 1) := by decide +kernel
theorem d_law_347 : decode code 347 = .ok (.iload_n 3, 1) := by decide +kernel
theorem d_law_348 : decode code 348 = .ok (.iconst 1, 1) := by decide +kernel
theorem d_law_349 : decode code 349 = .ok (.iadd, 1) := by decide +kernel
theorem d_law_350 : decode code 350 = .ok (.iaload, 1) := by decide +kernel
theorem d_law_351 : decode code 351 = .ok (.invokevirtual 54, 3) := by decide +kernel
theorem d_law_354 : decode code 354 = .ok (.aload_n 2, 1) := by decide +kernel
theorem d_law_355 : decode code 355 = .ok (.aload_n 0, 1) := by decide +kernel
theorem d_law_356 : decode code 356 = .ok (.iload_n 3, 1) := by decide +kernel
theorem d_law_357 : decode code 357 = .ok (.iconst 1, 1) := by decide +kernel
theorem d_law_358 : decode code 358 = .ok (.iadd, 1) := by decide +kernel
theorem d_law_359 : decode code 359 = .ok (.iaload, 1) := by decide +kernel
theorem d_law_360 : decode code 360 = .ok (.invokevirtual 57, 3) := by decide +kernel
theorem d_law_363 : decode code 363 = .ok (.if_icmp .eq 235, 3) := by decide +kernel
theorem d_law_366 : decode code 366 = .ok (.iconst 0, 1) := by decide +kernel
theorem d_law_367 : decode code 367 = .ok (.ireturn, 1) := by decide +kernel
theorem d_law_368 : decode code 368 = .ok (.aload_n 1, 1) := by decide +kernel
theorem d_law_369 : decode code 369 = .ok (.aload_n 0, 1) := by decide +kernel
theorem d_law_370 : decode code 370 = .ok (.iload_n 3, 1) := by decide +kernel
theorem d_law_371 : decode code 371 = .ok (.iconst 1, 1) := by decide +kernel
theorem d_law_372 : decode code 372 = .ok (.iadd, 1) := by decide +kernel
theorem d_law_373 : decode code 373 = .ok (.iaload, 1) := by decide +kernel
theorem d_law_374 : decode code 374 = .ok (.invokevirtual 58, 3) := by decide +kernel
theorem d_law_377 : decode code 377 = .ok (.aload_n 2, 1) := by decide +kernel
theorem d_law_378 : decode code 378 = .ok (.aload_n 0, 1) := by decide +kernel
theorem d_law_379 : decode code 379 = .ok (.iload_n 3, 1) := by decide +kernel
theorem d_law_380 : decode code 380 = .ok (.iconst 1, 1) := by decide +kernel
theorem d_law_381 : decode code 381 = .ok (.iadd, 1) := by decide +kernel
theorem d_law_382 : decode code 382 = .ok (.iaload, 1) := by decide +kernel
theorem d_law_383 : decode code 383 = .ok (.invokevirtual 61, 3) := by decide +kernel
theorem d_law_386 : decode code 386 = .ok (.if_icmp .eq 212, 3) := by decide +kernel
theorem d_law_389 : decode code 389 = .ok (.iconst 0, 1) := by decide +kernel
theorem d_law_390 : decode code 390 = .ok (.ireturn, 1) := by decide +kernel
theorem d_law_391 : decode code 391 = .ok (.aload_n 1, 1) := by decide +kernel
theorem d_law_392 : decode code 392 = .ok (.aload_n 0, 1) := by decide +kernel
theorem d_law_393 : decode code 393 = .ok (.iload_n 3, 1) := by decide +kernel
theorem d_law_394 : decode code 394 = .ok (.iconst 1, 1) := by decide +kernel
theorem d_law_395 : decode code 395 = .ok (.iadd, 1) := by decide +kernel
theorem d_law_396 : decode code 396 = .ok (.iaload, 1) := by decide +kernel
theorem d_law_397 : decode code 397 = .ok (.invokevirtual 62, 3) := by decide +kernel
theorem d_law_400 : decode code 400 = .ok (.aload_n 2, 1) := by decide +kernel
theorem d_law_401 : decode code 401 = .ok (.aload_n 0, 1) := by decide +kernel
theorem d_law_402 : decode code 402 = .ok (.iload_n 3, 1) := by decide +kernel
theorem d_law_403 : decode code 403 = .ok (.iconst 1, 1) := by decide +kernel
theorem d_law_404 : decode code 404 = .ok (.iadd, 1) := by decide +kernel
theorem d_law_405 : decode code 405 = .ok (.iaload, 1) := by decide +kernel
theorem d_law_406 : decode code 406 = .ok (.invokevirtual 65, 3) := by decide +kernel
theorem d_law_409 : decode code 409 = .ok (.if_icmp .eq 189, 3) := by decide +kernel
theorem d_law_412 : decode code 412 = .ok (.iconst 0, 1) := by decide +kernel
theorem d_law_413 : decode code 413 = .ok (.ireturn, 1) := by decide +kernel
theorem d_law_414 : decode code 414 = .ok (.aload_n 1, 1) := by decide +kernel
theorem d_law_415 : decode code 415 = .ok (.invokevirtual 66, 3) := by decide +kernel
theorem d_law_418 : decode code 418 = .ok (.aload_n 2, 1) := by decide +kernel
theorem d_law_419 : decode code 419 = .ok (.invokevirtual 69, 3) := by decide +kernel
theorem d_law_422 : decode code 422 = .ok (.if_icmp .eq 176, 3) := by decide +kernel
theorem d_law_425 : decode code 425 = .ok (.iconst 0, 1) := by decide +kernel
theorem d_law_426 : decode code 426 = .ok (.ireturn, 1) := by decide +kernel
theorem d_law_427 : decode code 427 = .ok (.aload_n 1, 1) := by decide +kernel
theorem d_law_428 : decode code 428 = .ok (.aload_n 0, 1) := by decide +kernel
theorem d_law_429 : decode code 429 = .ok (.iload_n 3, 1) := by decide +kernel
theorem d_law_430 : decode code 430 = .ok (.iconst 1, 1) := by decide +kernel
theorem d_law_431 : decode code 431 = .ok (.iadd, 1) := by decide +kernel
theorem d_law_432 : decode code 432 = .ok (.iaload, 1) := by decide +kernel
theorem d_law_433 : decode code 433 = .ok (.invokevirtual 70, 3) := by decide +kernel
theorem d_law_436 : decode code 436 = .ok (.aload_n 2, 1) := by decide +kernel
theorem d_law_437 : decode code 437 = .ok (.aload_n 0, 1) := by decide +kernel
theorem d_law_438 : decode code 438 = .ok (.iload_n 3, 1) := by decide +kernel
theorem d_law_439 : decode code 439 = .ok (.iconst 1, 1) := by decide +kernel
theorem d_law_440 : decode code 440 = .ok (.iadd, 1) := by decide +kernel
theorem d_law_441 : decode code 441 = .ok (.iaload, 1) := by decide +kernel
theorem d_law_442 : decode code 442 = .ok (.invokevirtual 73, 3) := by decide +kernel
theorem d_law_445 : decode code 445 = .ok (.if_icmp .eq 153, 3) := by decide +kernel
theorem d_law_448 : decode code 448 = .ok (.iconst 0, 1) := by decide +kernel
theorem d_law_449 : decode code 449 = .ok (.ireturn, 1) := by decide +kernel
theorem d_law_450 : decode code 450 = .ok (.aload_n 1, 1) := by decide +kernel
theorem d_law_451 : decode code 451 = .ok (.aload_n 0, 1) := by decide +kernel
theorem d_law_452 : decode code 452 = .ok (.iload_n 3, 1) := by decide +kernel
theorem d_law_453 : decode code 453 = .ok (.iconst 1, 1) := by decide +kernel
theorem d_law_454 : decode code 454 = .ok (.iadd, 1) := by decide +kernel
theorem d_law_455 : decode code 455 = .ok (.iaload, 1) := by decide +kernel
theorem d_law_456 : decode code 456 = .ok (.invokevirtual 74, 3) := by decide +kernel
theorem d_law_459 : decode code 459 = .ok (.aload_n 2, 1) := by decide +kernel
theorem d_law_460 : decode code 460 = .ok (.aload_n 0, 1) := by decide +kernel
theorem d_law_461 : decode code 461 = .ok (.iload_n 3, 1) := by decide +kernel
theorem d_law_462 : decode code 462 = .ok (.iconst 1, 1) := by decide +kernel
theorem d_law_463 : decode code 463 = .ok (.iadd, 1) := by decide +kernel
theorem d_law_464 : decode code 464 = .ok (.iaload, 1) := by decide +kernel
theorem d_law_465 : decode code 465 = .ok (.invokevirtual 77, 3) := by decide +kernel
theorem d_law_468 : decode code 468 = .ok (.if_icmp .eq 130, 3) := by decide +kernel
theorem d_law_471 : decode code 471 = .ok (.iconst 0, 1) := by decide +kernel
theorem d_law_472 : decode code 472 = .ok (.ireturn, 1) := by decide +kernel
theorem d_law_473 : decode code 473 = .ok (.aload_n 1, 1) := by decide +kernel
theorem d_law_474 : decode code 474 = .ok (.aload_n 0, 1) := by decide +kernel
theorem d_law_475 : decode code 475 = .ok (.iload_n 3, 1) := by decide +kernel
theorem d_law_476 : decode code 476 = .ok (.iconst 1, 1) := by decide +kernel
theorem d_law_477 : decode code 477 = .ok (.iadd, 1) := by decide +kernel
theorem d_law_478 : decode code 478 = .ok (.iaload, 1) := by decide +kernel
theorem d_law_479 : decode code 479 = .ok (.invokevirtual 78, 3) := by decide +kernel
theorem d_law_482 : decode code 482 = .ok (.aload_n 2, 1) := by decide +kernel
theorem d_law_483 : decode code 483 = .ok (.aload_n 0, 1) := by decide +kernel
theorem d_law_484 : decode code 484 = .ok (.iload_n 3, 1) := by decide +kernel
theorem d_law_485 : decode code 485 = .ok (.iconst 1, 1) := by decide +kernel
theorem d_law_486 : decode code 486 = .ok (.iadd, 1) := by decide +kernel
theorem d_law_487 : decode code 487 = .ok (.iaload, 1) := by decide +kernel
theorem d_law_488 : decode code 488 = .ok (.invokevirtual 81, 3) := by decide +kernel
theorem d_law_491 : decode code 491 = .ok (.if_icmp .eq 107, 3) := by decide +kernel
theorem d_law_494 : decode code 494 = .ok (.iconst 0, 1) := by decide +kernel
theorem d_law_495 : decode code 495 = .ok (.ireturn, 1) := by decide +kernel
theorem d_law_496 : decode code 496 = .ok (.aload_n 1, 1) := by decide +kernel
theorem d_law_497 : decode code 497 = .ok (.aload_n 0, 1) := by decide +kernel
theorem d_law_498 : decode code 498 = .ok (.iload_n 3, 1) := by decide +kernel
theorem d_law_499 : decode code 499 = .ok (.iconst 1, 1) := by decide +kernel
theorem d_law_500 : decode code 500 = .ok (.iadd, 1) := by decide +kernel
theorem d_law_501 : decode code 501 = .ok (.iaload, 1) := by decide +kernel
theorem d_law_502 : decode code 502 = .ok (.aload_n 0, 1) := by decide +kernel
theorem d_law_503 : decode code 503 = .ok (.iload_n 3, 1) := by decide +kernel
theorem d_law_504 : decode code 504 = .ok (.iconst 2, 1) := by decide +kernel
theorem d_law_505 : decode code 505 = .ok (.iadd, 1) := by decide +kernel
theorem d_law_506 : decode code 506 = .ok (.iaload, 1) := by decide +kernel
theorem d_law_507 : decode code 507 = .ok (.invokevirtual 82, 3) := by decide +kernel
theorem d_law_510 : decode code 510 = .ok (.aload_n 2, 1) := by decide +kernel
theorem d_law_511 : decode code 511 = .ok (.aload_n 0, 1) := by decide +kernel
theorem d_law_512 : decode code 512 = .ok (.iload_n 3, 1) := by decide +kernel
theorem d_law_513 : decode code 513 = .ok (.iconst 1, 1) := by decide +kernel
theorem d_law_514 : decode code 514 = .ok (.iadd, 1) := by decide +kernel
theorem d_law_515 : decode code 515 = .ok (.iaload, 1) := by decide +kernel
theorem d_law_516 : decode code 516 = .ok (.aload_n 0, 1) := by decide +kernel
theorem d_law_517 : decode code 517 = .ok (.iload_n 3, 1) := by decide +kernel
theorem d_law_518 : decode code 518 = .ok (.iconst 2, 1) := by decide +kernel
theorem d_law_519 : decode code 519 = .ok (.iadd, 1) := by decide +kernel
theorem d_law_520 : decode code 520 = .ok (.iaload, 1) := by decide +kernel
theorem d_law_521 : decode code 521 = .ok (.invokevirtual 85, 3) := by decide +kernel
theorem d_law_524 : decode code 524 = .ok (.if_icmp .eq 74, 3) := by decide +kernel
theorem d_law_527 : decode code 527 = .ok (.iconst 0, 1) := by decide +kernel
theorem d_law_528 : decode code 528 = .ok (.ireturn, 1) := by decide +kernel
theorem d_law_529 : decode code 529 = .ok (.aload_n 1, 1) := by decide +kernel
theorem d_law_530 : decode code 530 = .ok (.aload_n 0, 1) := by decide +kernel
theorem d_law_531 : decode code 531 = .ok (.iload_n 3, 1) := by decide +kernel
theorem d_law_532 : decode code 532 = .ok (.iconst 1, 1) := by decide +kernel
theorem d_law_533 : decode code 533 = .ok (.iadd, 1) := by decide +kernel
theorem d_law_534 : decode code 534 = .ok (.iaload, 1) := by decide +kernel
theorem d_law_535 : decode code 535 = .ok (.invokevirtual 86, 3) := by decide +kernel
theorem d_law_538 : decode code 538 = .ok (.aload_n 2, 1) := by decide +kernel
theorem d_law_539 : decode code 539 = .ok (.aload_n 0, 1) := by decide +kernel
theorem d_law_540 : decode code 540 = .ok (.iload_n 3, 1) := by decide +kernel
theorem d_law_541 : decode code 541 = .ok (.iconst 1, 1) := by decide +kernel
theorem d_law_542 : decode code 542 = .ok (.iadd, 1) := by decide +kernel
theorem d_law_543 : decode code 543 = .ok (.iaload, 1) := by decide +kernel
theorem d_law_544 : decode code 544 = .ok (.invokevirtual 89, 3) := by decide +kernel
theorem d_law_547 : decode code 547 = .ok (.if_icmp .eq 51, 3) := by decide +kernel
theorem d_law_550 : decode code 550 = .ok (.iconst 0, 1) := by decide +kernel
theorem d_law_551 : decode code 551 = .ok (.ireturn, 1) := by decide +kernel
theorem d_law_552 : decode code 552 = .ok (.aload_n 1, 1) := by decide +kernel
theorem d_law_553 : decode code 553 = .ok (.aload_n 0, 1) := by decide +kernel
theorem d_law_554 : decode code 554 = .ok (.iload_n 3, 1) := by decide +kernel
theorem d_law_555 : decode code 555 = .ok (.iconst 1, 1) := by decide +kernel
theorem d_law_556 : decode code 556 = .ok (.iadd, 1) := by decide +kernel
theorem d_law_557 : decode code 557 = .ok (.iaload, 1) := by decide +kernel
theorem d_law_558 : decode code 558 = .ok (.invokevirtual 90, 3) := by decide +kernel
theorem d_law_561 : decode code 561 = .ok (.aload_n 2, 1) := by decide +kernel
theorem d_law_562 : decode code 562 = .ok (.aload_n 0, 1) := by decide +kernel
theorem d_law_563 : decode code 563 = .ok (.iload_n 3, 1) := by decide +kernel
theorem d_law_564 : decode code 564 = .ok (.iconst 1, 1) := by decide +kernel
theorem d_law_565 : decode code 565 = .ok (.iadd, 1) := by decide +kernel
theorem d_law_566 : decode code 566 = .ok (.iaload, 1) := by decide +kernel
theorem d_law_567 : decode code 567 = .ok (.invokevirtual 93, 3) := by decide +kernel
theorem d_law_570 : decode code 570 = .ok (.if_icmp .eq 28, 3) := by decide +kernel
theorem d_law_573 : decode code 573 = .ok (.iconst 0, 1) := by decide +kernel
theorem d_law_574 : decode code 574 = .ok (.ireturn, 1) := by decide +kernel
theorem d_law_575 : decode code 575 = .ok (.aload_n 1, 1) := by decide +kernel
theorem d_law_576 : decode code 576 = .ok (.aload_n 0, 1) := by decide +kernel
theorem d_law_577 : decode code 577 = .ok (.iload_n 3, 1) := by decide +kernel
theorem d_law_578 : decode code 578 = .ok (.iconst 1, 1) := by decide +kernel
theorem d_law_579 : decode code 579 = .ok (.iadd, 1) := by decide +kernel
theorem d_law_580 : decode code 580 = .ok (.iaload, 1) := by decide +kernel
theorem d_law_581 : decode code 581 = .ok (.invokevirtual 94, 3) := by decide +kernel
theorem d_law_584 : decode code 584 = .ok (.aload_n 2, 1) := by decide +kernel
theorem d_law_585 : decode code 585 = .ok (.aload_n 0, 1) := by decide +kernel
theorem d_law_586 : decode code 586 = .ok (.iload_n 3, 1) := by decide +kernel
theorem d_law_587 : decode code 587 = .ok (.iconst 1, 1) := by decide +kernel
theorem d_law_588 : decode code 588 = .ok (.iadd, 1) := by decide +kernel
theorem d_law_589 : decode code 589 = .ok (.iaload, 1) := by decide +kernel
theorem d_law_590 : decode code 590 = .ok (.invokevirtual 97, 3) := by decide +kernel
theorem d_law_593 : decode code 593 = .ok (.if_icmp .eq 5, 3) := by decide +kernel
theorem d_law_596 : decode code 596 = .ok (.iconst 0, 1) := by decide +kernel
theorem d_law_597 : decode code 597 = .ok (.ireturn, 1) := by decide +kernel
theorem d_law_598 : decode code 598 = .ok (.iinc 3 5, 3) := by decide +kernel
theorem d_law_601 : decode code 601 = .ok (.goto (-573), 3) := by decide +kernel
theorem d_law_604 : decode code 604 = .ok (.iconst 1, 1) := by decide +kernel
theorem d_law_605 : decode code 605 = .ok (.ireturn, 1) := by decide +kernel
theorem z_sw0_17 {x : Int32} (h0 : ¬ x = 0) (h1 : ¬ x = 1) (h2 : ¬ x = 2) (h3 : ¬ x = 3) (h4 : ¬ x = 4) (h5 : ¬ x = 5) (h6 : ¬ x = 6) (h7 : ¬ x = 7) (h8 : ¬ x = 8) (h9 : ¬ x = 9) (h10 : ¬ x = 10) (h11 : ¬ x = 11) (h12 : ¬ x = 12) (h13 : ¬ x = 13) (h14 : ¬ x = 14) (h15 : ¬ x = 15) (h16 : ¬ x = 16) (h17 : ¬ x = 17) : x.toInt < 0 ∨ 17 < x.toInt := by
  have f : ∀ k : Int32, ¬ x = k → x.toInt ≠ k.toInt := fun k h e => h (Int32.toInt_inj.mp e)
  have a0 := f 0 h0
  have a1 := f 1 h1
  have a2 := f 2 h2
  have a3 := f 3 h3
  have a4 := f 4 h4
  have a5 := f 5 h5
  have a6 := f 6 h6
  have a7 := f 7 h7
  have a8 := f 8 h8
  have a9 := f 9 h9
  have a10 := f 10 h10
  have a11 := f 11 h11
  have a12 := f 12 h12
  have a13 := f 13 h13
  have a14 := f 14 h14
  have a15 := f 15 h15
  have a16 := f 16 h16
  have a17 := f 17 h17
  simp at a0 a1 a2 a3 a4 a5 a6 a7 a8 a9 a10 a11 a12 a13 a14 a15 a16 a17
  omega
theorem len_lt {L i : Nat} (hL : L ≤ 2561) (hi : i ≤ 2600) (h : L < i + 5) (h1 : 1 ≤ i) : nI L - 5 < nI i := by
  by_cases h5 : 5 ≤ L
  · obtain ⟨k, rfl⟩ : ∃ k, L = k + 5 := ⟨L - 5, by omega⟩
    rw [← nI_add, show nI 5 = (5 : Int32) from rfl, Int32.add_sub_cancel]
    exact nI_lt (by omega) (by omega)
  · have hz : nI L - 5 < 0 := by
      have : L = 0 ∨ L = 1 ∨ L = 2 ∨ L = 3 ∨ L = 4 := by omega
      rcases this with rfl | rfl | rfl | rfl | rfl <;> decide
    exact Int32.lt_of_lt_of_le hz (nI_pos' (by omega))
theorem len_ge {L i : Nat} (hL : L ≤ 2561) (h : i + 5 ≤ L) : ¬ nI L - 5 < nI i := by
  obtain ⟨k, rfl⟩ : ∃ k, L = k + 5 := ⟨L - 5, by omega⟩
  rw [← nI_add, show nI 5 = (5 : Int32) from rfl, Int32.add_sub_cancel]
  exact nI_nlt (by omega) (by omega)
theorem nI_i5 (a : Nat) : nI a + Int32.ofInt 5 = nI (a + 5) := nI_add a 5
theorem sc_in {i L k : Nat} (hL : L ≤ 2561) (h : i + k < L) : vp_in (nI i + nI k) L := by
  rw [nI_add]
  exact nI_in h (by omega)
set_option maxHeartbeats 4000000 in
set_option maxRecDepth 100000 in
theorem law_advance {p : Program} {l : Launch} {e : Env} {s₀ : State} {m : MethodId} {below : List Frame} {meth : Method} {c : Code} {b L : Nat} {xs : Nat → Int32} {D : va_G} {K : Nat → ClassId} {n : Nat} {a1 a2 : Nat → Nat → Nat} {c0 : Cond} {J : Nat → S3 → (Nat → Nat) → S3 → Prop} (S : CallFix p m c code 4 s₀ #[Value.ref b] (c0 :: zWs) "LeasedViewStoreLaw") (hK : va_K D zCl (zTys K) s₀) (hX : va_X b L xs s₀ s₀.heap) (hbl : b < s₀.heap.size) (hL : L ≤ 2561) (hn5 : n ≤ 5) (hJ1 : zw_J (cRL n) a1) (hJ2 : zw_J rRL a2) (hA1 : ∀ q, zw_A (cRL n) a1 q → s₀.heap.size ≤ q) (hA2 : ∀ q, zw_A rRL a2 q → s₀.heap.size ≤ q) (hx12 : ∀ q, zw_A rRL a2 q → ¬ zw_A (cRL n) a1 q) {t : Nat} {s : S3} {π : Nat → Nat} {r : S3} (ht : 1 + 5 * t + 5 ≤ L) (hC : hypC n s π) (hR : hypR r) (hst : st_advance n J t s π r) (kk : ∀ (s' : S3) (π' : Nat → Nat) (r' : S3), J (t + 1) s' π' r' → zG p l e room_1 s₀ m #[Value.ref b] below meth c 4 (lw_Z below #[Value.ref b] s₀) (lI D (cRL n) a1 (kC K a1 n s' π') rRL a2 (rC K a2 r') s₀.heap) 320 11326 598 [(3, .int (nI (1 + 5 * t))), (2, .ref (a2 0 0)), (1, .ref (a1 0 0)), (0, .ref b)] []) : zG p l e room_1 s₀ m #[Value.ref b] below meth c 4 (lw_Z below #[Value.ref b] s₀) (lI D (cRL n) a1 (kC K a1 n s π) rRL a2 (rC K a2 r) s₀.heap) 320 11326 128 [(3, .int (nI (1 + 5 * t))), (2, .ref (a2 0 0)), (1, .ref (a1 0 0)), (0, .ref b)] [] := by
  refine z_aload_n S d_law_128 rfl 2 rfl 129 rfl ?_
  refine z_aload_n S d_law_129 rfl 3 rfl 130 rfl ?_
  refine z_iload_n S d_law_130 rfl 0 rfl 131 rfl ?_
  refine z_iconst S d_law_131 1 (by decide) 132 rfl ?_
  refine z_iadd S d_law_132 133 rfl ?_
  refine l_sld S hX hbl (Nat.not_le.mpr hbl) (fun _ _ h => h.2.2) (sc_in (k := 1) hL (by omega)) d_law_133 134 rfl ?_
  refine l_call1 S hK hA1 hx12 (As := [.int (xs ((nI (1 + 5 * t)) + 1).toNatClampNeg)]) (rest := []) (c_Store_advance hJ1 ) (cw_Store_advance S.2.2.2.2 w_294 rfl rfl ⟨(Nat.le_of_ble_eq_true rfl), (Nat.le_of_ble_eq_true rfl)⟩) rl_0 kC_0 rfl rfl rfl (Nat.le_of_ble_eq_true rfl) (Nat.le_of_ble_eq_true rfl) (Nat.le_of_ble_eq_true rfl) d_law_134 137 rfl [.int (v_Store_advance n π s (xs ((nI (1 + 5 * t)) + 1).toNatClampNeg))] rfl ?_
  refine z_aload_n S d_law_137 rfl 1 rfl 138 rfl ?_
  refine z_aload_n S d_law_138 rfl 3 rfl 139 rfl ?_
  refine z_iload_n S d_law_139 rfl 0 rfl 140 rfl ?_
  refine z_iconst S d_law_140 1 (by decide) 141 rfl ?_
  refine z_iadd S d_law_141 142 rfl ?_
  refine l_sld S hX hbl (Nat.not_le.mpr hbl) (fun _ _ h => h.2.2) (sc_in (k := 1) hL (by omega)) d_law_142 143 rfl ?_
  refine l_call2 S hK hA2 (fun q h1 h2 => hx12 q h2 h1) (As := [.int (xs ((nI (1 + 5 * t)) + 1).toNatClampNeg)]) (rest := [.int (v_Store_advance n π s (xs ((nI (1 + 5 * t)) + 1).toNatClampNeg))]) (c_Model_advance hJ2 ) (cw_Model_advance S.2.2.2.2 w_662 rfl rfl ⟨(Nat.le_of_ble_eq_true rfl), (Nat.le_of_ble_eq_true rfl)⟩) rm_0 rC_0 rfl rfl rfl (Nat.le_of_ble_eq_true rfl) (Nat.le_of_ble_eq_true rfl) (Nat.le_of_ble_eq_true rfl) d_law_143 146 rfl [.int (v_Model_advance r (xs ((nI (1 + 5 * t)) + 1).toNatClampNeg)), .int (v_Store_advance n π s (xs ((nI (1 + 5 * t)) + 1).toNatClampNeg))] rfl ?_
  have hs := hst (xs ((nI (1 + 5 * t)) + 1).toNatClampNeg)
  refine z_icmp_eq S d_law_146 598 (by decide) 149 rfl (fun h9 => ?_) (fun h9 => absurd hs.1 h9)
  exact kk _ _ _ hs.2
set_option maxHeartbeats 4000000 in
set_option maxRecDepth 100000 in
theorem law_skew {p : Program} {l : Launch} {e : Env} {s₀ : State} {m : MethodId} {below : List Frame} {meth : Method} {c : Code} {b L : Nat} {xs : Nat → Int32} {D : va_G} {K : Nat → ClassId} {n : Nat} {a1 a2 : Nat → Nat → Nat} {c0 : Cond} {J : Nat → S3 → (Nat → Nat) → S3 → Prop} (S : CallFix p m c code 4 s₀ #[Value.ref b] (c0 :: zWs) "LeasedViewStoreLaw") (hK : va_K D zCl (zTys K) s₀) (hX : va_X b L xs s₀ s₀.heap) (hbl : b < s₀.heap.size) (hL : L ≤ 2561) (hn5 : n ≤ 5) (hJ1 : zw_J (cRL n) a1) (hJ2 : zw_J rRL a2) (hA1 : ∀ q, zw_A (cRL n) a1 q → s₀.heap.size ≤ q) (hA2 : ∀ q, zw_A rRL a2 q → s₀.heap.size ≤ q) (hx12 : ∀ q, zw_A rRL a2 q → ¬ zw_A (cRL n) a1 q) {t : Nat} {s : S3} {π : Nat → Nat} {r : S3} (ht : 1 + 5 * t + 5 ≤ L) (hC : hypC n s π) (hR : hypR r) (hst : st_skew n J t s π r) (kk : ∀ (s' : S3) (π' : Nat → Nat) (r' : S3), J (t + 1) s' π' r' → zG p l e room_1 s₀ m #[Value.ref b] below meth c 4 (lw_Z below #[Value.ref b] s₀) (lI D (cRL n) a1 (kC K a1 n s' π') rRL a2 (rC K a2 r') s₀.heap) 320 11326 598 [(3, .int (nI (1 + 5 * t))), (2, .ref (a2 0 0)), (1, .ref (a1 0 0)), (0, .ref b)] []) : zG p l e room_1 s₀ m #[Value.ref b] below meth c 4 (lw_Z below #[Value.ref b] s₀) (lI D (cRL n) a1 (kC K a1 n s π) rRL a2 (rC K a2 r) s₀.heap) 320 11326 151 [(3, .int (nI (1 + 5 * t))), (2, .ref (a2 0 0)), (1, .ref (a1 0 0)), (0, .ref b)] [] := by
  refine z_aload_n S d_law_151 rfl 2 rfl 152 rfl ?_
  refine z_aload_n S d_law_152 rfl 3 rfl 153 rfl ?_
  refine z_iload_n S d_law_153 rfl 0 rfl 154 rfl ?_
  refine z_iconst S d_law_154 1 (by decide) 155 rfl ?_
  refine z_iadd S d_law_155 156 rfl ?_
  refine l_sld S hX hbl (Nat.not_le.mpr hbl) (fun _ _ h => h.2.2) (sc_in (k := 1) hL (by omega)) d_law_156 157 rfl ?_
  refine z_aload_n S d_law_157 rfl 3 rfl 158 rfl ?_
  refine z_iload_n S d_law_158 rfl 0 rfl 159 rfl ?_
  refine z_iconst S d_law_159 2 (by decide) 160 rfl ?_
  refine z_iadd S d_law_160 161 rfl ?_
  refine l_sld S hX hbl (Nat.not_le.mpr hbl) (fun _ _ h => h.2.2) (sc_in (k := 2) hL (by omega)) d_law_161 162 rfl ?_
  refine l_call1 S hK hA1 hx12 (As := [.int (xs ((nI (1 + 5 * t)) + 1).toNatClampNeg), .int (xs ((nI (1 + 5 * t)) + 2).toNatClampNeg)]) (rest := []) (c_Store_skew hJ1 hn5) (cw_Store_skew S.2.2.2.2 w_298 rfl rfl ⟨(Nat.le_of_ble_eq_true rfl), (Nat.le_of_ble_eq_true rfl)⟩) rl_0 kC_0 rfl rfl rfl (Nat.le_of_ble_eq_true rfl) (Nat.le_of_ble_eq_true rfl) (Nat.le_of_ble_eq_true rfl) d_law_162 165 rfl [.int (v_Store_skew n π s (xs ((nI (1 + 5 * t)) + 1).toNatClampNeg) (xs ((nI (1 + 5 * t)) + 2).toNatClampNeg))] rfl ?_
  refine z_aload_n S d_law_165 rfl 1 rfl 166 rfl ?_
  refine z_aload_n S d_law_166 rfl 3 rfl 167 rfl ?_
  refine z_iload_n S d_law_167 rfl 0 rfl 168 rfl ?_
  refine z_iconst S d_law_168 1 (by decide) 169 rfl ?_
  refine z_iadd S d_law_169 170 rfl ?_
  refine l_sld S hX hbl (Nat.not_le.mpr hbl) (fun _ _ h => h.2.2) (sc_in (k := 1) hL (by omega)) d_law_170 171 rfl ?_
  refine z_aload_n S d_law_171 rfl 3 rfl 172 rfl ?_
  refine z_iload_n S d_law_172 rfl 0 rfl 173 rfl ?_
  refine z_iconst S d_law_173 2 (by decide) 174 rfl ?_
  refine z_iadd S d_law_174 175 rfl ?_
  refine l_sld S hX hbl (Nat.not_le.mpr hbl) (fun _ _ h => h.2.2) (sc_in (k := 2) hL (by omega)) d_law_175 176 rfl ?_
  refine l_call2 S hK hA2 (fun q h1 h2 => hx12 q h2 h1) (As := [.int (xs ((nI (1 + 5 * t)) + 1).toNatClampNeg), .int (xs ((nI (1 + 5 * t)) + 2).toNatClampNeg)]) (rest := [.int (v_Store_skew n π s (xs ((nI (1 + 5 * t)) + 1).toNatClampNeg) (xs ((nI (1 + 5 * t)) + 2).toNatClampNeg))]) (c_Model_skew hJ2 hR.1) (cw_Model_skew S.2.2.2.2 w_666 rfl rfl ⟨(Nat.le_of_ble_eq_true rfl), (Nat.le_of_ble_eq_true rfl)⟩) rm_0 rC_0 rfl rfl rfl (Nat.le_of_ble_eq_true rfl) (Nat.le_of_ble_eq_true rfl) (Nat.le_of_ble_eq_true rfl) d_law_176 179 rfl [.int (v_Model_skew r (xs ((nI (1 + 5 * t)) + 1).toNatClampNeg) (xs ((nI (1 + 5 * t)) + 2).toNatClampNeg)), .int (v_Store_skew n π s (xs ((nI (1 + 5 * t)) + 1).toNatClampNeg) (xs ((nI (1 + 5 * t)) + 2).toNatClampNeg))] rfl ?_
  have hs := hst (xs ((nI (1 + 5 * t)) + 1).toNatClampNeg) (xs ((nI (1 + 5 * t)) + 2).toNatClampNeg)
  refine z_icmp_eq S d_law_179 598 (by decide) 182 rfl (fun h9 => ?_) (fun h9 => absurd hs.1 h9)
  exact kk _ _ _ hs.2
set_option maxHeartbeats 4000000 in
set_option maxRecDepth 100000 in
theorem law_ping {p : Program} {l : Launch} {e : Env} {s₀ : State} {m : MethodId} {below : List Frame} {meth : Method} {c : Code} {b L : Nat} {xs : Nat → Int32} {D : va_G} {K : Nat → ClassId} {n : Nat} {a1 a2 : Nat → Nat → Nat} {c0 : Cond} {J : Nat → S3 → (Nat → Nat) → S3 → Prop} (S : CallFix p m c code 4 s₀ #[Value.ref b] (c0 :: zWs) "LeasedViewStoreLaw") (hK : va_K D zCl (zTys K) s₀) (hX : va_X b L xs s₀ s₀.heap) (hbl : b < s₀.heap.size) (hL : L ≤ 2561) (hn5 : n ≤ 5) (hJ1 : zw_J (cRL n) a1) (hJ2 : zw_J rRL a2) (hA1 : ∀ q, zw_A (cRL n) a1 q → s₀.heap.size ≤ q) (hA2 : ∀ q, zw_A rRL a2 q → s₀.heap.size ≤ q) (hx12 : ∀ q, zw_A rRL a2 q → ¬ zw_A (cRL n) a1 q) {t : Nat} {s : S3} {π : Nat → Nat} {r : S3} (ht : 1 + 5 * t + 5 ≤ L) (hC : hypC n s π) (hR : hypR r) (hst : st_ping n J t s π r) (kk : ∀ (s' : S3) (π' : Nat → Nat) (r' : S3), J (t + 1) s' π' r' → zG p l e room_1 s₀ m #[Value.ref b] below meth c 4 (lw_Z below #[Value.ref b] s₀) (lI D (cRL n) a1 (kC K a1 n s' π') rRL a2 (rC K a2 r') s₀.heap) 320 11326 598 [(3, .int (nI (1 + 5 * t))), (2, .ref (a2 0 0)), (1, .ref (a1 0 0)), (0, .ref b)] []) : zG p l e room_1 s₀ m #[Value.ref b] below meth c 4 (lw_Z below #[Value.ref b] s₀) (lI D (cRL n) a1 (kC K a1 n s π) rRL a2 (rC K a2 r) s₀.heap) 320 11326 184 [(3, .int (nI (1 + 5 * t))), (2, .ref (a2 0 0)), (1, .ref (a1 0 0)), (0, .ref b)] [] := by
  refine z_aload_n S d_law_184 rfl 2 rfl 185 rfl ?_
  refine z_aload_n S d_law_185 rfl 3 rfl 186 rfl ?_
  refine z_iload_n S d_law_186 rfl 0 rfl 187 rfl ?_
  refine z_iconst S d_law_187 1 (by decide) 188 rfl ?_
  refine z_iadd S d_law_188 189 rfl ?_
  refine l_sld S hX hbl (Nat.not_le.mpr hbl) (fun _ _ h => h.2.2) (sc_in (k := 1) hL (by omega)) d_law_189 190 rfl ?_
  refine l_call1 S hK hA1 hx12 (As := [.int (xs ((nI (1 + 5 * t)) + 1).toNatClampNeg)]) (rest := []) (c_Store_ping hJ1 hn5 hC.1 hC.2.1) (cw_Store_ping S.2.2.2.2 w_306 rfl rfl ⟨(Nat.le_of_ble_eq_true rfl), (Nat.le_of_ble_eq_true rfl)⟩) rl_0 kC_0 rfl rfl rfl (Nat.le_of_ble_eq_true rfl) (Nat.le_of_ble_eq_true rfl) (Nat.le_of_ble_eq_true rfl) d_law_190 193 rfl [.int (v_Store_ping n π s (xs ((nI (1 + 5 * t)) + 1).toNatClampNeg))] rfl ?_
  refine z_aload_n S d_law_193 rfl 1 rfl 194 rfl ?_
  refine z_aload_n S d_law_194 rfl 3 rfl 195 rfl ?_
  refine z_iload_n S d_law_195 rfl 0 rfl 196 rfl ?_
  refine z_iconst S d_law_196 1 (by decide) 197 rfl ?_
  refine z_iadd S d_law_197 198 rfl ?_
  refine l_sld S hX hbl (Nat.not_le.mpr hbl) (fun _ _ h => h.2.2) (sc_in (k := 1) hL (by omega)) d_law_198 199 rfl ?_
  refine l_call2 S hK hA2 (fun q h1 h2 => hx12 q h2 h1) (As := [.int (xs ((nI (1 + 5 * t)) + 1).toNatClampNeg)]) (rest := [.int (v_Store_ping n π s (xs ((nI (1 + 5 * t)) + 1).toNatClampNeg))]) (c_Model_ping hJ2 hR.1 hR.2.1 hR.2.2.1) (cw_Model_ping S.2.2.2.2 w_674 rfl rfl ⟨(Nat.le_of_ble_eq_true rfl), (Nat.le_of_ble_eq_true rfl)⟩) rm_0 rC_0 rfl rfl rfl (Nat.le_of_ble_eq_true rfl) (Nat.le_of_ble_eq_true rfl) (Nat.le_of_ble_eq_true rfl) d_law_199 202 rfl [.int (v_Model_ping r (xs ((nI (1 + 5 * t)) + 1).toNatClampNeg)), .int (v_Store_ping n π s (xs ((nI (1 + 5 * t)) + 1).toNatClampNeg))] rfl ?_
  have hs := hst (xs ((nI (1 + 5 * t)) + 1).toNatClampNeg)
  refine z_icmp_eq S d_law_202 598 (by decide) 205 rfl (fun h9 => ?_) (fun h9 => absurd hs.1 h9)
  exact kk _ _ _ hs.2
set_option maxHeartbeats 4000000 in
set_option maxRecDepth 100000 in
theorem law_check {p : Program} {l : Launch} {e : Env} {s₀ : State} {m : MethodId} {below : List Frame} {meth : Method} {c : Code} {b L : Nat} {xs : Nat → Int32} {D : va_G} {K : Nat → ClassId} {n : Nat} {a1 a2 : Nat → Nat → Nat} {c0 : Cond} {J : Nat → S3 → (Nat → Nat) → S3 → Prop} (S : CallFix p m c code 4 s₀ #[Value.ref b] (c0 :: zWs) "LeasedViewStoreLaw") (hK : va_K D zCl (zTys K) s₀) (hX : va_X b L xs s₀ s₀.heap) (hbl : b < s₀.heap.size) (hL : L ≤ 2561) (hn5 : n ≤ 5) (hJ1 : zw_J (cRL n) a1) (hJ2 : zw_J rRL a2) (hA1 : ∀ q, zw_A (cRL n) a1 q → s₀.heap.size ≤ q) (hA2 : ∀ q, zw_A rRL a2 q → s₀.heap.size ≤ q) (hx12 : ∀ q, zw_A rRL a2 q → ¬ zw_A (cRL n) a1 q) {t : Nat} {s : S3} {π : Nat → Nat} {r : S3} (ht : 1 + 5 * t + 5 ≤ L) (hC : hypC n s π) (hR : hypR r) (hst : st_check n J t s π r) (kk : ∀ (s' : S3) (π' : Nat → Nat) (r' : S3), J (t + 1) s' π' r' → zG p l e room_1 s₀ m #[Value.ref b] below meth c 4 (lw_Z below #[Value.ref b] s₀) (lI D (cRL n) a1 (kC K a1 n s' π') rRL a2 (rC K a2 r') s₀.heap) 320 11326 598 [(3, .int (nI (1 + 5 * t))), (2, .ref (a2 0 0)), (1, .ref (a1 0 0)), (0, .ref b)] []) : zG p l e room_1 s₀ m #[Value.ref b] below meth c 4 (lw_Z below #[Value.ref b] s₀) (lI D (cRL n) a1 (kC K a1 n s π) rRL a2 (rC K a2 r) s₀.heap) 320 11326 207 [(3, .int (nI (1 + 5 * t))), (2, .ref (a2 0 0)), (1, .ref (a1 0 0)), (0, .ref b)] [] := by
  refine z_aload_n S d_law_207 rfl 2 rfl 208 rfl ?_
  refine l_call1 S hK hA1 hx12 (As := []) (rest := []) (c_Store_check hJ1 hn5 hC.2.2.2.1) (cw_Store_check S.2.2.2.2 w_326 rfl rfl ⟨(Nat.le_of_ble_eq_true rfl), (Nat.le_of_ble_eq_true rfl)⟩) rl_0 kC_0 rfl rfl rfl (Nat.le_of_ble_eq_true rfl) (Nat.le_of_ble_eq_true rfl) (Nat.le_of_ble_eq_true rfl) d_law_208 211 rfl [.int (v_Store_check n π s )] rfl ?_
  refine z_aload_n S d_law_211 rfl 1 rfl 212 rfl ?_
  refine l_call2 S hK hA2 (fun q h1 h2 => hx12 q h2 h1) (As := []) (rest := [.int (v_Store_check n π s )]) (c_Model_check hJ2 hR.1 hR.2.2.2.2.2.2.2.2.2.2.2.1 hR.2.2.2.2.2.2.2.2.2.2.2.2.1) (cw_Model_check S.2.2.2.2 w_654 rfl rfl ⟨(Nat.le_of_ble_eq_true rfl), (Nat.le_of_ble_eq_true rfl)⟩) rm_0 rC_0 rfl rfl rfl (Nat.le_of_ble_eq_true rfl) (Nat.le_of_ble_eq_true rfl) (Nat.le_of_ble_eq_true rfl) d_law_212 215 rfl [.int (v_Model_check r ), .int (v_Store_check n π s )] rfl ?_
  have hs := hst
  refine z_icmp_eq S d_law_215 598 (by decide) 218 rfl (fun h9 => ?_) (fun h9 => absurd hs.1 h9)
  exact kk _ _ _ hs.2
set_option maxHeartbeats 4000000 in
set_option maxRecDepth 100000 in
theorem law_push {p : Program} {l : Launch} {e : Env} {s₀ : State} {m : MethodId} {below : List Frame} {meth : Method} {c : Code} {b L : Nat} {xs : Nat → Int32} {D : va_G} {K : Nat → ClassId} {n : Nat} {a1 a2 : Nat → Nat → Nat} {c0 : Cond} {J : Nat → S3 → (Nat → Nat) → S3 → Prop} (S : CallFix p m c code 4 s₀ #[Value.ref b] (c0 :: zWs) "LeasedViewStoreLaw") (hK : va_K D zCl (zTys K) s₀) (hX : va_X b L xs s₀ s₀.heap) (hbl : b < s₀.heap.size) (hL : L ≤ 2561) (hn5 : n ≤ 5) (hJ1 : zw_J (cRL n) a1) (hJ2 : zw_J rRL a2) (hA1 : ∀ q, zw_A (cRL n) a1 q → s₀.heap.size ≤ q) (hA2 : ∀ q, zw_A rRL a2 q → s₀.heap.size ≤ q) (hx12 : ∀ q, zw_A rRL a2 q → ¬ zw_A (cRL n) a1 q) {t : Nat} {s : S3} {π : Nat → Nat} {r : S3} (ht : 1 + 5 * t + 5 ≤ L) (hC : hypC n s π) (hR : hypR r) (hst : st_push n J t s π r) (kk : ∀ (s' : S3) (π' : Nat → Nat) (r' : S3), J (t + 1) s' π' r' → zG p l e room_1 s₀ m #[Value.ref b] below meth c 4 (lw_Z below #[Value.ref b] s₀) (lI D (cRL n) a1 (kC K a1 n s' π') rRL a2 (rC K a2 r') s₀.heap) 320 11326 598 [(3, .int (nI (1 + 5 * t))), (2, .ref (a2 0 0)), (1, .ref (a1 0 0)), (0, .ref b)] []) : zG p l e room_1 s₀ m #[Value.ref b] below meth c 4 (lw_Z below #[Value.ref b] s₀) (lI D (cRL n) a1 (kC K a1 n s π) rRL a2 (rC K a2 r) s₀.heap) 320 11326 220 [(3, .int (nI (1 + 5 * t))), (2, .ref (a2 0 0)), (1, .ref (a1 0 0)), (0, .ref b)] [] := by
  refine z_aload_n S d_law_220 rfl 2 rfl 221 rfl ?_
  refine z_aload_n S d_law_221 rfl 3 rfl 222 rfl ?_
  refine z_iload_n S d_law_222 rfl 0 rfl 223 rfl ?_
  refine z_iconst S d_law_223 1 (by decide) 224 rfl ?_
  refine z_iadd S d_law_224 225 rfl ?_
  refine l_sld S hX hbl (Nat.not_le.mpr hbl) (fun _ _ h => h.2.2) (sc_in (k := 1) hL (by omega)) d_law_225 226 rfl ?_
  refine l_call1 S hK hA1 hx12 (As := [.int (xs ((nI (1 + 5 * t)) + 1).toNatClampNeg)]) (rest := []) (c_Store_push hJ1 hn5 hC.1 hC.2.1 hC.2.2.1) (cw_Store_push S.2.2.2.2 w_350 rfl rfl ⟨(Nat.le_of_ble_eq_true rfl), (Nat.le_of_ble_eq_true rfl)⟩) rl_0 kC_0 rfl rfl rfl (Nat.le_of_ble_eq_true rfl) (Nat.le_of_ble_eq_true rfl) (Nat.le_of_ble_eq_true rfl) d_law_226 229 rfl [.int (v_Store_push n π s (xs ((nI (1 + 5 * t)) + 1).toNatClampNeg))] rfl ?_
  refine z_aload_n S d_law_229 rfl 1 rfl 230 rfl ?_
  refine z_aload_n S d_law_230 rfl 3 rfl 231 rfl ?_
  refine z_iload_n S d_law_231 rfl 0 rfl 232 rfl ?_
  refine z_iconst S d_law_232 1 (by decide) 233 rfl ?_
  refine z_iadd S d_law_233 234 rfl ?_
  refine l_sld S hX hbl (Nat.not_le.mpr hbl) (fun _ _ h => h.2.2) (sc_in (k := 1) hL (by omega)) d_law_234 235 rfl ?_
  refine l_call2 S hK hA2 (fun q h1 h2 => hx12 q h2 h1) (As := [.int (xs ((nI (1 + 5 * t)) + 1).toNatClampNeg)]) (rest := [.int (v_Store_push n π s (xs ((nI (1 + 5 * t)) + 1).toNatClampNeg))]) (c_Model_push hJ2 hR.1 hR.2.1 hR.2.2.1 hR.2.2.2.2.1 hR.2.2.2.2.2.2.2.2.1) (cw_Model_push S.2.2.2.2 w_686 rfl rfl ⟨(Nat.le_of_ble_eq_true rfl), (Nat.le_of_ble_eq_true rfl)⟩) rm_0 rC_0 rfl rfl rfl (Nat.le_of_ble_eq_true rfl) (Nat.le_of_ble_eq_true rfl) (Nat.le_of_ble_eq_true rfl) d_law_235 238 rfl [.int (v_Model_push r (xs ((nI (1 + 5 * t)) + 1).toNatClampNeg)), .int (v_Store_push n π s (xs ((nI (1 + 5 * t)) + 1).toNatClampNeg))] rfl ?_
  have hs := hst (xs ((nI (1 + 5 * t)) + 1).toNatClampNeg)
  refine z_icmp_eq S d_law_238 598 (by decide) 241 rfl (fun h9 => ?_) (fun h9 => absurd hs.1 h9)
  exact kk _ _ _ hs.2
set_option maxHeartbeats 4000000 in
set_option maxRecDepth 100000 in
theorem law_begin {p : Program} {l : Launch} {e : Env} {s₀ : State} {m : MethodId} {below : List Frame} {meth : Method} {c : Code} {b L : Nat} {xs : Nat → Int32} {D : va_G} {K : Nat → ClassId} {n : Nat} {a1 a2 : Nat → Nat → Nat} {c0 : Cond} {J : Nat → S3 → (Nat → Nat) → S3 → Prop} (S : CallFix p m c code 4 s₀ #[Value.ref b] (c0 :: zWs) "LeasedViewStoreLaw") (hK : va_K D zCl (zTys K) s₀) (hX : va_X b L xs s₀ s₀.heap) (hbl : b < s₀.heap.size) (hL : L ≤ 2561) (hn5 : n ≤ 5) (hJ1 : zw_J (cRL n) a1) (hJ2 : zw_J rRL a2) (hA1 : ∀ q, zw_A (cRL n) a1 q → s₀.heap.size ≤ q) (hA2 : ∀ q, zw_A rRL a2 q → s₀.heap.size ≤ q) (hx12 : ∀ q, zw_A rRL a2 q → ¬ zw_A (cRL n) a1 q) {t : Nat} {s : S3} {π : Nat → Nat} {r : S3} (ht : 1 + 5 * t + 5 ≤ L) (hC : hypC n s π) (hR : hypR r) (hst : st_begin n J t s π r) (kk : ∀ (s' : S3) (π' : Nat → Nat) (r' : S3), J (t + 1) s' π' r' → zG p l e room_1 s₀ m #[Value.ref b] below meth c 4 (lw_Z below #[Value.ref b] s₀) (lI D (cRL n) a1 (kC K a1 n s' π') rRL a2 (rC K a2 r') s₀.heap) 320 11326 598 [(3, .int (nI (1 + 5 * t))), (2, .ref (a2 0 0)), (1, .ref (a1 0 0)), (0, .ref b)] []) : zG p l e room_1 s₀ m #[Value.ref b] below meth c 4 (lw_Z below #[Value.ref b] s₀) (lI D (cRL n) a1 (kC K a1 n s π) rRL a2 (rC K a2 r) s₀.heap) 320 11326 243 [(3, .int (nI (1 + 5 * t))), (2, .ref (a2 0 0)), (1, .ref (a1 0 0)), (0, .ref b)] [] := by
  refine z_aload_n S d_law_243 rfl 2 rfl 244 rfl ?_
  refine z_aload_n S d_law_244 rfl 3 rfl 245 rfl ?_
  refine z_iload_n S d_law_245 rfl 0 rfl 246 rfl ?_
  refine z_iconst S d_law_246 1 (by decide) 247 rfl ?_
  refine z_iadd S d_law_247 248 rfl ?_
  refine l_sld S hX hbl (Nat.not_le.mpr hbl) (fun _ _ h => h.2.2) (sc_in (k := 1) hL (by omega)) d_law_248 249 rfl ?_
  refine z_aload_n S d_law_249 rfl 3 rfl 250 rfl ?_
  refine z_iload_n S d_law_250 rfl 0 rfl 251 rfl ?_
  refine z_iconst S d_law_251 2 (by decide) 252 rfl ?_
  refine z_iadd S d_law_252 253 rfl ?_
  refine l_sld S hX hbl (Nat.not_le.mpr hbl) (fun _ _ h => h.2.2) (sc_in (k := 2) hL (by omega)) d_law_253 254 rfl ?_
  refine z_if_eq S d_law_254 261 (by decide) 257 rfl (fun h11 => ?_) (fun h11 => ?_)
  · refine z_iconst S d_law_261 0 (by decide) 262 rfl ?_
    refine z_aload_n S d_law_262 rfl 3 rfl 263 rfl ?_
    refine z_iload_n S d_law_263 rfl 0 rfl 264 rfl ?_
    refine z_iconst S d_law_264 3 (by decide) 265 rfl ?_
    refine z_iadd S d_law_265 266 rfl ?_
    refine l_sld S hX hbl (Nat.not_le.mpr hbl) (fun _ _ h => h.2.2) (sc_in (k := 3) hL (by omega)) d_law_266 267 rfl ?_
    refine z_aload_n S d_law_267 rfl 3 rfl 268 rfl ?_
    refine z_iload_n S d_law_268 rfl 0 rfl 269 rfl ?_
    refine z_iconst S d_law_269 4 (by decide) 270 rfl ?_
    refine z_iadd S d_law_270 271 rfl ?_
    refine l_sld S hX hbl (Nat.not_le.mpr hbl) (fun _ _ h => h.2.2) (sc_in (k := 4) hL (by omega)) d_law_271 272 rfl ?_
    refine l_call1 S hK hA1 hx12 (As := [.int (xs ((nI (1 + 5 * t)) + 1).toNatClampNeg), .int 0, .int (xs ((nI (1 + 5 * t)) + 3).toNatClampNeg), .int (xs ((nI (1 + 5 * t)) + 4).toNatClampNeg)]) (rest := []) (c_Store_begin hJ1 zb_0) (cw_Store_begin S.2.2.2.2 w_379 rfl rfl ⟨(Nat.le_of_ble_eq_true rfl), (Nat.le_of_ble_eq_true rfl)⟩) rl_0 kC_0 rfl rfl rfl (Nat.le_of_ble_eq_true rfl) (Nat.le_of_ble_eq_true rfl) (Nat.le_of_ble_eq_true rfl) d_law_272 275 rfl [.int (v_Store_begin n π s (xs ((nI (1 + 5 * t)) + 1).toNatClampNeg) 0 (xs ((nI (1 + 5 * t)) + 3).toNatClampNeg) (xs ((nI (1 + 5 * t)) + 4).toNatClampNeg))] rfl ?_
    refine z_aload_n S d_law_275 rfl 1 rfl 276 rfl ?_
    refine z_aload_n S d_law_276 rfl 3 rfl 277 rfl ?_
    refine z_iload_n S d_law_277 rfl 0 rfl 278 rfl ?_
    refine z_iconst S d_law_278 1 (by decide) 279 rfl ?_
    refine z_iadd S d_law_279 280 rfl ?_
    refine l_sld S hX hbl (Nat.not_le.mpr hbl) (fun _ _ h => h.2.2) (sc_in (k := 1) hL (by omega)) d_law_280 281 rfl ?_
    refine z_aload_n S d_law_281 rfl 3 rfl 282 rfl ?_
    refine z_iload_n S d_law_282 rfl 0 rfl 283 rfl ?_
    refine z_iconst S d_law_283 2 (by decide) 284 rfl ?_
    refine z_iadd S d_law_284 285 rfl ?_
    refine l_sld S hX hbl (Nat.not_le.mpr hbl) (fun _ _ h => h.2.2) (sc_in (k := 2) hL (by omega)) d_law_285 286 rfl ?_
    refine z_if_eq S d_law_286 293 (by decide) 289 rfl (fun h35 => ?_) (fun h35 => ?_)
    · refine z_iconst S d_law_293 0 (by decide) 294 rfl ?_
      refine z_aload_n S d_law_294 rfl 3 rfl 295 rfl ?_
      refine z_iload_n S d_law_295 rfl 0 rfl 296 rfl ?_
      refine z_iconst S d_law_296 3 (by decide) 297 rfl ?_
      refine z_iadd S d_law_297 298 rfl ?_
      refine l_sld S hX hbl (Nat.not_le.mpr hbl) (fun _ _ h => h.2.2) (sc_in (k := 3) hL (by omega)) d_law_298 299 rfl ?_
      refine z_aload_n S d_law_299 rfl 3 rfl 300 rfl ?_
      refine z_iload_n S d_law_300 rfl 0 rfl 301 rfl ?_
      refine z_iconst S d_law_301 4 (by decide) 302 rfl ?_
      refine z_iadd S d_law_302 303 rfl ?_
      refine l_sld S hX hbl (Nat.not_le.mpr hbl) (fun _ _ h => h.2.2) (sc_in (k := 4) hL (by omega)) d_law_303 304 rfl ?_
      refine l_call2 S hK hA2 (fun q h1 h2 => hx12 q h2 h1) (As := [.int (xs ((nI (1 + 5 * t)) + 1).toNatClampNeg), .int 0, .int (xs ((nI (1 + 5 * t)) + 3).toNatClampNeg), .int (xs ((nI (1 + 5 * t)) + 4).toNatClampNeg)]) (rest := [.int (v_Store_begin n π s (xs ((nI (1 + 5 * t)) + 1).toNatClampNeg) 0 (xs ((nI (1 + 5 * t)) + 3).toNatClampNeg) (xs ((nI (1 + 5 * t)) + 4).toNatClampNeg))]) (c_Model_begin hJ2 hR.2.2.2.2.2.2.2.2.2.1 zb_0) (cw_Model_begin S.2.2.2.2 w_698 rfl rfl ⟨(Nat.le_of_ble_eq_true rfl), (Nat.le_of_ble_eq_true rfl)⟩) rm_0 rC_0 rfl rfl rfl (Nat.le_of_ble_eq_true rfl) (Nat.le_of_ble_eq_true rfl) (Nat.le_of_ble_eq_true rfl) d_law_304 307 rfl [.int (v_Model_begin r (xs ((nI (1 + 5 * t)) + 1).toNatClampNeg) 0 (xs ((nI (1 + 5 * t)) + 3).toNatClampNeg) (xs ((nI (1 + 5 * t)) + 4).toNatClampNeg)), .int (v_Store_begin n π s (xs ((nI (1 + 5 * t)) + 1).toNatClampNeg) 0 (xs ((nI (1 + 5 * t)) + 3).toNatClampNeg) (xs ((nI (1 + 5 * t)) + 4).toNatClampNeg))] rfl ?_
      have hs := hst (xs ((nI (1 + 5 * t)) + 1).toNatClampNeg) 0 (xs ((nI (1 + 5 * t)) + 3).toNatClampNeg) (xs ((nI (1 + 5 * t)) + 4).toNatClampNeg) zb_0
      refine z_icmp_eq S d_law_307 598 (by decide) 310 rfl (fun h9 => ?_) (fun h9 => absurd hs.1 h9)
      exact kk _ _ _ hs.2
    · exact absurd h11 h35
  · refine z_iconst S d_law_257 1 (by decide) 258 rfl ?_
    refine z_goto S d_law_258 262 (by decide) ?_
    refine z_aload_n S d_law_262 rfl 3 rfl 263 rfl ?_
    refine z_iload_n S d_law_263 rfl 0 rfl 264 rfl ?_
    refine z_iconst S d_law_264 3 (by decide) 265 rfl ?_
    refine z_iadd S d_law_265 266 rfl ?_
    refine l_sld S hX hbl (Nat.not_le.mpr hbl) (fun _ _ h => h.2.2) (sc_in (k := 3) hL (by omega)) d_law_266 267 rfl ?_
    refine z_aload_n S d_law_267 rfl 3 rfl 268 rfl ?_
    refine z_iload_n S d_law_268 rfl 0 rfl 269 rfl ?_
    refine z_iconst S d_law_269 4 (by decide) 270 rfl ?_
    refine z_iadd S d_law_270 271 rfl ?_
    refine l_sld S hX hbl (Nat.not_le.mpr hbl) (fun _ _ h => h.2.2) (sc_in (k := 4) hL (by omega)) d_law_271 272 rfl ?_
    refine l_call1 S hK hA1 hx12 (As := [.int (xs ((nI (1 + 5 * t)) + 1).toNatClampNeg), .int 1, .int (xs ((nI (1 + 5 * t)) + 3).toNatClampNeg), .int (xs ((nI (1 + 5 * t)) + 4).toNatClampNeg)]) (rest := []) (c_Store_begin hJ1 zb_1) (cw_Store_begin S.2.2.2.2 w_379 rfl rfl ⟨(Nat.le_of_ble_eq_true rfl), (Nat.le_of_ble_eq_true rfl)⟩) rl_0 kC_0 rfl rfl rfl (Nat.le_of_ble_eq_true rfl) (Nat.le_of_ble_eq_true rfl) (Nat.le_of_ble_eq_true rfl) d_law_272 275 rfl [.int (v_Store_begin n π s (xs ((nI (1 + 5 * t)) + 1).toNatClampNeg) 1 (xs ((nI (1 + 5 * t)) + 3).toNatClampNeg) (xs ((nI (1 + 5 * t)) + 4).toNatClampNeg))] rfl ?_
    refine z_aload_n S d_law_275 rfl 1 rfl 276 rfl ?_
    refine z_aload_n S d_law_276 rfl 3 rfl 277 rfl ?_
    refine z_iload_n S d_law_277 rfl 0 rfl 278 rfl ?_
    refine z_iconst S d_law_278 1 (by decide) 279 rfl ?_
    refine z_iadd S d_law_279 280 rfl ?_
    refine l_sld S hX hbl (Nat.not_le.mpr hbl) (fun _ _ h => h.2.2) (sc_in (k := 1) hL (by omega)) d_law_280 281 rfl ?_
    refine z_aload_n S d_law_281 rfl 3 rfl 282 rfl ?_
    refine z_iload_n S d_law_282 rfl 0 rfl 283 rfl ?_
    refine z_iconst S d_law_283 2 (by decide) 284 rfl ?_
    refine z_iadd S d_law_284 285 rfl ?_
    refine l_sld S hX hbl (Nat.not_le.mpr hbl) (fun _ _ h => h.2.2) (sc_in (k := 2) hL (by omega)) d_law_285 286 rfl ?_
    refine z_if_eq S d_law_286 293 (by decide) 289 rfl (fun h76 => ?_) (fun h76 => ?_)
    · exact absurd h76 h11
    · refine z_iconst S d_law_289 1 (by decide) 290 rfl ?_
      refine z_goto S d_law_290 294 (by decide) ?_
      refine z_aload_n S d_law_294 rfl 3 rfl 295 rfl ?_
      refine z_iload_n S d_law_295 rfl 0 rfl 296 rfl ?_
      refine z_iconst S d_law_296 3 (by decide) 297 rfl ?_
      refine z_iadd S d_law_297 298 rfl ?_
      refine l_sld S hX hbl (Nat.not_le.mpr hbl) (fun _ _ h => h.2.2) (sc_in (k := 3) hL (by omega)) d_law_298 299 rfl ?_
      refine z_aload_n S d_law_299 rfl 3 rfl 300 rfl ?_
      refine z_iload_n S d_law_300 rfl 0 rfl 301 rfl ?_
      refine z_iconst S d_law_301 4 (by decide) 302 rfl ?_
      refine z_iadd S d_law_302 303 rfl ?_
      refine l_sld S hX hbl (Nat.not_le.mpr hbl) (fun _ _ h => h.2.2) (sc_in (k := 4) hL (by omega)) d_law_303 304 rfl ?_
      refine l_call2 S hK hA2 (fun q h1 h2 => hx12 q h2 h1) (As := [.int (xs ((nI (1 + 5 * t)) + 1).toNatClampNeg), .int 1, .int (xs ((nI (1 + 5 * t)) + 3).toNatClampNeg), .int (xs ((nI (1 + 5 * t)) + 4).toNatClampNeg)]) (rest := [.int (v_Store_begin n π s (xs ((nI (1 + 5 * t)) + 1).toNatClampNeg) 1 (xs ((nI (1 + 5 * t)) + 3).toNatClampNeg) (xs ((nI (1 + 5 * t)) + 4).toNatClampNeg))]) (c_Model_begin hJ2 hR.2.2.2.2.2.2.2.2.2.1 zb_1) (cw_Model_begin S.2.2.2.2 w_698 rfl rfl ⟨(Nat.le_of_ble_eq_true rfl), (Nat.le_of_ble_eq_true rfl)⟩) rm_0 rC_0 rfl rfl rfl (Nat.le_of_ble_eq_true rfl) (Nat.le_of_ble_eq_true rfl) (Nat.le_of_ble_eq_true rfl) d_law_304 307 rfl [.int (v_Model_begin r (xs ((nI (1 + 5 * t)) + 1).toNatClampNeg) 1 (xs ((nI (1 + 5 * t)) + 3).toNatClampNeg) (xs ((nI (1 + 5 * t)) + 4).toNatClampNeg)), .int (v_Store_begin n π s (xs ((nI (1 + 5 * t)) + 1).toNatClampNeg) 1 (xs ((nI (1 + 5 * t)) + 3).toNatClampNeg) (xs ((nI (1 + 5 * t)) + 4).toNatClampNeg))] rfl ?_
      have hs := hst (xs ((nI (1 + 5 * t)) + 1).toNatClampNeg) 1 (xs ((nI (1 + 5 * t)) + 3).toNatClampNeg) (xs ((nI (1 + 5 * t)) + 4).toNatClampNeg) zb_1
      refine z_icmp_eq S d_law_307 598 (by decide) 310 rfl (fun h9 => ?_) (fun h9 => absurd hs.1 h9)
      exact kk _ _ _ hs.2
set_option maxHeartbeats 4000000 in
set_option maxRecDepth 100000 in
theorem law_send {p : Program} {l : Launch} {e : Env} {s₀ : State} {m : MethodId} {below : List Frame} {meth : Method} {c : Code} {b L : Nat} {xs : Nat → Int32} {D : va_G} {K : Nat → ClassId} {n : Nat} {a1 a2 : Nat → Nat → Nat} {c0 : Cond} {J : Nat → S3 → (Nat → Nat) → S3 → Prop} (S : CallFix p m c code 4 s₀ #[Value.ref b] (c0 :: zWs) "LeasedViewStoreLaw") (hK : va_K D zCl (zTys K) s₀) (hX : va_X b L xs s₀ s₀.heap) (hbl : b < s₀.heap.size) (hL : L ≤ 2561) (hn5 : n ≤ 5) (hJ1 : zw_J (cRL n) a1) (hJ2 : zw_J rRL a2) (hA1 : ∀ q, zw_A (cRL n) a1 q → s₀.heap.size ≤ q) (hA2 : ∀ q, zw_A rRL a2 q → s₀.heap.size ≤ q) (hx12 : ∀ q, zw_A rRL a2 q → ¬ zw_A (cRL n) a1 q) {t : Nat} {s : S3} {π : Nat → Nat} {r : S3} (ht : 1 + 5 * t + 5 ≤ L) (hC : hypC n s π) (hR : hypR r) (hst : st_send n J t s π r) (kk : ∀ (s' : S3) (π' : Nat → Nat) (r' : S3), J (t + 1) s' π' r' → zG p l e room_1 s₀ m #[Value.ref b] below meth c 4 (lw_Z below #[Value.ref b] s₀) (lI D (cRL n) a1 (kC K a1 n s' π') rRL a2 (rC K a2 r') s₀.heap) 320 11326 598 [(3, .int (nI (1 + 5 * t))), (2, .ref (a2 0 0)), (1, .ref (a1 0 0)), (0, .ref b)] []) : zG p l e room_1 s₀ m #[Value.ref b] below meth c 4 (lw_Z below #[Value.ref b] s₀) (lI D (cRL n) a1 (kC K a1 n s π) rRL a2 (rC K a2 r) s₀.heap) 320 11326 312 [(3, .int (nI (1 + 5 * t))), (2, .ref (a2 0 0)), (1, .ref (a1 0 0)), (0, .ref b)] [] := by
  refine z_aload_n S d_law_312 rfl 2 rfl 313 rfl ?_
  refine z_aload_n S d_law_313 rfl 3 rfl 314 rfl ?_
  refine z_iload_n S d_law_314 rfl 0 rfl 315 rfl ?_
  refine z_iconst S d_law_315 1 (by decide) 316 rfl ?_
  refine z_iadd S d_law_316 317 rfl ?_
  refine l_sld S hX hbl (Nat.not_le.mpr hbl) (fun _ _ h => h.2.2) (sc_in (k := 1) hL (by omega)) d_law_317 318 rfl ?_
  refine z_aload_n S d_law_318 rfl 3 rfl 319 rfl ?_
  refine z_iload_n S d_law_319 rfl 0 rfl 320 rfl ?_
  refine z_iconst S d_law_320 2 (by decide) 321 rfl ?_
  refine z_iadd S d_law_321 322 rfl ?_
  refine l_sld S hX hbl (Nat.not_le.mpr hbl) (fun _ _ h => h.2.2) (sc_in (k := 2) hL (by omega)) d_law_322 323 rfl ?_
  refine l_call1 S hK hA1 hx12 (As := [.int (xs ((nI (1 + 5 * t)) + 1).toNatClampNeg), .int (xs ((nI (1 + 5 * t)) + 2).toNatClampNeg)]) (rest := []) (c_Store_send hJ1 hn5 hC.1 hC.2.1 hC.2.2.1) (cw_Store_send S.2.2.2.2 w_395 rfl rfl ⟨(Nat.le_of_ble_eq_true rfl), (Nat.le_of_ble_eq_true rfl)⟩) rl_0 kC_0 rfl rfl rfl (Nat.le_of_ble_eq_true rfl) (Nat.le_of_ble_eq_true rfl) (Nat.le_of_ble_eq_true rfl) d_law_323 326 rfl [.int (v_Store_send n π s (xs ((nI (1 + 5 * t)) + 1).toNatClampNeg) (xs ((nI (1 + 5 * t)) + 2).toNatClampNeg))] rfl ?_
  refine z_aload_n S d_law_326 rfl 1 rfl 327 rfl ?_
  refine z_aload_n S d_law_327 rfl 3 rfl 328 rfl ?_
  refine z_iload_n S d_law_328 rfl 0 rfl 329 rfl ?_
  refine z_iconst S d_law_329 1 (by decide) 330 rfl ?_
  refine z_iadd S d_law_330 331 rfl ?_
  refine l_sld S hX hbl (Nat.not_le.mpr hbl) (fun _ _ h => h.2.2) (sc_in (k := 1) hL (by omega)) d_law_331 332 rfl ?_
  refine z_aload_n S d_law_332 rfl 3 rfl 333 rfl ?_
  refine z_iload_n S d_law_333 rfl 0 rfl 334 rfl ?_
  refine z_iconst S d_law_334 2 (by decide) 335 rfl ?_
  refine z_iadd S d_law_335 336 rfl ?_
  refine l_sld S hX hbl (Nat.not_le.mpr hbl) (fun _ _ h => h.2.2) (sc_in (k := 2) hL (by omega)) d_law_336 337 rfl ?_
  refine l_call2 S hK hA2 (fun q h1 h2 => hx12 q h2 h1) (As := [.int (xs ((nI (1 + 5 * t)) + 1).toNatClampNeg), .int (xs ((nI (1 + 5 * t)) + 2).toNatClampNeg)]) (rest := [.int (v_Store_send n π s (xs ((nI (1 + 5 * t)) + 1).toNatClampNeg) (xs ((nI (1 + 5 * t)) + 2).toNatClampNeg))]) (c_Model_send hJ2 hR.1 hR.2.1 hR.2.2.1) (cw_Model_send S.2.2.2.2 w_706 rfl rfl ⟨(Nat.le_of_ble_eq_true rfl), (Nat.le_of_ble_eq_true rfl)⟩) rm_0 rC_0 rfl rfl rfl (Nat.le_of_ble_eq_true rfl) (Nat.le_of_ble_eq_true rfl) (Nat.le_of_ble_eq_true rfl) d_law_337 340 rfl [.int (v_Model_send r (xs ((nI (1 + 5 * t)) + 1).toNatClampNeg) (xs ((nI (1 + 5 * t)) + 2).toNatClampNeg)), .int (v_Store_send n π s (xs ((nI (1 + 5 * t)) + 1).toNatClampNeg) (xs ((nI (1 + 5 * t)) + 2).toNatClampNeg))] rfl ?_
  have hs := hst (xs ((nI (1 + 5 * t)) + 1).toNatClampNeg) (xs ((nI (1 + 5 * t)) + 2).toNatClampNeg)
  refine z_icmp_eq S d_law_340 598 (by decide) 343 rfl (fun h9 => ?_) (fun h9 => absurd hs.1 h9)
  exact kk _ _ _ hs.2
set_option maxHeartbeats 4000000 in
set_option maxRecDepth 100000 in
theorem law_deliver {p : Program} {l : Launch} {e : Env} {s₀ : State} {m : MethodId} {below : List Frame} {meth : Method} {c : Code} {b L : Nat} {xs : Nat → Int32} {D : va_G} {K : Nat → ClassId} {n : Nat} {a1 a2 : Nat → Nat → Nat} {c0 : Cond} {J : Nat → S3 → (Nat → Nat) → S3 → Prop} (S : CallFix p m c code 4 s₀ #[Value.ref b] (c0 :: zWs) "LeasedViewStoreLaw") (hK : va_K D zCl (zTys K) s₀) (hX : va_X b L xs s₀ s₀.heap) (hbl : b < s₀.heap.size) (hL : L ≤ 2561) (hn5 : n ≤ 5) (hJ1 : zw_J (cRL n) a1) (hJ2 : zw_J rRL a2) (hA1 : ∀ q, zw_A (cRL n) a1 q → s₀.heap.size ≤ q) (hA2 : ∀ q, zw_A rRL a2 q → s₀.heap.size ≤ q) (hx12 : ∀ q, zw_A rRL a2 q → ¬ zw_A (cRL n) a1 q) {t : Nat} {s : S3} {π : Nat → Nat} {r : S3} (ht : 1 + 5 * t + 5 ≤ L) (hC : hypC n s π) (hR : hypR r) (hst : st_deliver n J t s π r) (kk : ∀ (s' : S3) (π' : Nat → Nat) (r' : S3), J (t + 1) s' π' r' → zG p l e room_1 s₀ m #[Value.ref b] below meth c 4 (lw_Z below #[Value.ref b] s₀) (lI D (cRL n) a1 (kC K a1 n s' π') rRL a2 (rC K a2 r') s₀.heap) 320 11326 598 [(3, .int (nI (1 + 5 * t))), (2, .ref (a2 0 0)), (1, .ref (a1 0 0)), (0, .ref b)] []) : zG p l e room_1 s₀ m #[Value.ref b] below meth c 4 (lw_Z below #[Value.ref b] s₀) (lI D (cRL n) a1 (kC K a1 n s π) rRL a2 (rC K a2 r) s₀.heap) 320 11326 345 [(3, .int (nI (1 + 5 * t))), (2, .ref (a2 0 0)), (1, .ref (a1 0 0)), (0, .ref b)] [] := by
  refine z_aload_n S d_law_345 rfl 2 rfl 346 rfl ?_
  refine z_aload_n S d_law_346 rfl 3 rfl 347 rfl ?_
  refine z_iload_n S d_law_347 rfl 0 rfl 348 rfl ?_
  refine z_iconst S d_law_348 1 (by decide) 349 rfl ?_
  refine z_iadd S d_law_349 350 rfl ?_
  refine l_sld S hX hbl (Nat.not_le.mpr hbl) (fun _ _ h => h.2.2) (sc_in (k := 1) hL (by omega)) d_law_350 351 rfl ?_
  refine l_call1 S hK hA1 hx12 (As := [.int (xs ((nI (1 + 5 * t)) + 1).toNatClampNeg)]) (rest := []) (c_Store_deliver hJ1 hC.1 hC.2.1 hC.2.2.1 (hC.2.2.2.2 _)) (cw_Store_deliver S.2.2.2.2 w_399 rfl rfl ⟨(Nat.le_of_ble_eq_true rfl), (Nat.le_of_ble_eq_true rfl)⟩) rl_0 kC_0 rfl rfl rfl (Nat.le_of_ble_eq_true rfl) (Nat.le_of_ble_eq_true rfl) (Nat.le_of_ble_eq_true rfl) d_law_351 354 rfl [.int (v_Store_deliver n π s (xs ((nI (1 + 5 * t)) + 1).toNatClampNeg))] rfl ?_
  refine z_aload_n S d_law_354 rfl 1 rfl 355 rfl ?_
  refine z_aload_n S d_law_355 rfl 3 rfl 356 rfl ?_
  refine z_iload_n S d_law_356 rfl 0 rfl 357 rfl ?_
  refine z_iconst S d_law_357 1 (by decide) 358 rfl ?_
  refine z_iadd S d_law_358 359 rfl ?_
  refine l_sld S hX hbl (Nat.not_le.mpr hbl) (fun _ _ h => h.2.2) (sc_in (k := 1) hL (by omega)) d_law_359 360 rfl ?_
  refine l_call2 S hK hA2 (fun q h1 h2 => hx12 q h2 h1) (As := [.int (xs ((nI (1 + 5 * t)) + 1).toNatClampNeg)]) (rest := [.int (v_Store_deliver n π s (xs ((nI (1 + 5 * t)) + 1).toNatClampNeg))]) (c_Model_deliver hJ2 hR.2.1 hR.2.2.2.2.2.2.2.1 hR.2.2.2.2.2.2.2.2.2.2.1 hR.2.2.2.2.1 hR.2.2.2.1 hR.2.2.2.2.2.1 hR.2.2.2.2.2.2.1 (hR.2.2.2.2.2.2.2.2.2.2.2.2.2 _)) (cw_Model_deliver S.2.2.2.2 w_722 rfl rfl ⟨(Nat.le_of_ble_eq_true rfl), (Nat.le_of_ble_eq_true rfl)⟩) rm_0 rC_0 rfl rfl rfl (Nat.le_of_ble_eq_true rfl) (Nat.le_of_ble_eq_true rfl) (Nat.le_of_ble_eq_true rfl) d_law_360 363 rfl [.int (v_Model_deliver r (xs ((nI (1 + 5 * t)) + 1).toNatClampNeg)), .int (v_Store_deliver n π s (xs ((nI (1 + 5 * t)) + 1).toNatClampNeg))] rfl ?_
  have hs := hst (xs ((nI (1 + 5 * t)) + 1).toNatClampNeg)
  refine z_icmp_eq S d_law_363 598 (by decide) 366 rfl (fun h9 => ?_) (fun h9 => absurd hs.1 h9)
  exact kk _ _ _ hs.2
set_option maxHeartbeats 4000000 in
set_option maxRecDepth 100000 in
theorem law_lose {p : Program} {l : Launch} {e : Env} {s₀ : State} {m : MethodId} {below : List Frame} {meth : Method} {c : Code} {b L : Nat} {xs : Nat → Int32} {D : va_G} {K : Nat → ClassId} {n : Nat} {a1 a2 : Nat → Nat → Nat} {c0 : Cond} {J : Nat → S3 → (Nat → Nat) → S3 → Prop} (S : CallFix p m c code 4 s₀ #[Value.ref b] (c0 :: zWs) "LeasedViewStoreLaw") (hK : va_K D zCl (zTys K) s₀) (hX : va_X b L xs s₀ s₀.heap) (hbl : b < s₀.heap.size) (hL : L ≤ 2561) (hn5 : n ≤ 5) (hJ1 : zw_J (cRL n) a1) (hJ2 : zw_J rRL a2) (hA1 : ∀ q, zw_A (cRL n) a1 q → s₀.heap.size ≤ q) (hA2 : ∀ q, zw_A rRL a2 q → s₀.heap.size ≤ q) (hx12 : ∀ q, zw_A rRL a2 q → ¬ zw_A (cRL n) a1 q) {t : Nat} {s : S3} {π : Nat → Nat} {r : S3} (ht : 1 + 5 * t + 5 ≤ L) (hC : hypC n s π) (hR : hypR r) (hst : st_lose n J t s π r) (kk : ∀ (s' : S3) (π' : Nat → Nat) (r' : S3), J (t + 1) s' π' r' → zG p l e room_1 s₀ m #[Value.ref b] below meth c 4 (lw_Z below #[Value.ref b] s₀) (lI D (cRL n) a1 (kC K a1 n s' π') rRL a2 (rC K a2 r') s₀.heap) 320 11326 598 [(3, .int (nI (1 + 5 * t))), (2, .ref (a2 0 0)), (1, .ref (a1 0 0)), (0, .ref b)] []) : zG p l e room_1 s₀ m #[Value.ref b] below meth c 4 (lw_Z below #[Value.ref b] s₀) (lI D (cRL n) a1 (kC K a1 n s π) rRL a2 (rC K a2 r) s₀.heap) 320 11326 368 [(3, .int (nI (1 + 5 * t))), (2, .ref (a2 0 0)), (1, .ref (a1 0 0)), (0, .ref b)] [] := by
  refine z_aload_n S d_law_368 rfl 2 rfl 369 rfl ?_
  refine z_aload_n S d_law_369 rfl 3 rfl 370 rfl ?_
  refine z_iload_n S d_law_370 rfl 0 rfl 371 rfl ?_
  refine z_iconst S d_law_371 1 (by decide) 372 rfl ?_
  refine z_iadd S d_law_372 373 rfl ?_
  refine l_sld S hX hbl (Nat.not_le.mpr hbl) (fun _ _ h => h.2.2) (sc_in (k := 1) hL (by omega)) d_law_373 374 rfl ?_
  refine l_call1 S hK hA1 hx12 (As := [.int (xs ((nI (1 + 5 * t)) + 1).toNatClampNeg)]) (rest := []) (c_Store_lose hJ1 hC.1 hC.2.1) (cw_Store_lose S.2.2.2.2 w_483 rfl rfl ⟨(Nat.le_of_ble_eq_true rfl), (Nat.le_of_ble_eq_true rfl)⟩) rl_0 kC_0 rfl rfl rfl (Nat.le_of_ble_eq_true rfl) (Nat.le_of_ble_eq_true rfl) (Nat.le_of_ble_eq_true rfl) d_law_374 377 rfl [.int (v_Store_lose n π s (xs ((nI (1 + 5 * t)) + 1).toNatClampNeg))] rfl ?_
  refine z_aload_n S d_law_377 rfl 1 rfl 378 rfl ?_
  refine z_aload_n S d_law_378 rfl 3 rfl 379 rfl ?_
  refine z_iload_n S d_law_379 rfl 0 rfl 380 rfl ?_
  refine z_iconst S d_law_380 1 (by decide) 381 rfl ?_
  refine z_iadd S d_law_381 382 rfl ?_
  refine l_sld S hX hbl (Nat.not_le.mpr hbl) (fun _ _ h => h.2.2) (sc_in (k := 1) hL (by omega)) d_law_382 383 rfl ?_
  refine l_call2 S hK hA2 (fun q h1 h2 => hx12 q h2 h1) (As := [.int (xs ((nI (1 + 5 * t)) + 1).toNatClampNeg)]) (rest := [.int (v_Store_lose n π s (xs ((nI (1 + 5 * t)) + 1).toNatClampNeg))]) (c_Model_lose hJ2 hR.2.1 hR.2.2.2.2.2.2.2.1) (cw_Model_lose S.2.2.2.2 w_710 rfl rfl ⟨(Nat.le_of_ble_eq_true rfl), (Nat.le_of_ble_eq_true rfl)⟩) rm_0 rC_0 rfl rfl rfl (Nat.le_of_ble_eq_true rfl) (Nat.le_of_ble_eq_true rfl) (Nat.le_of_ble_eq_true rfl) d_law_383 386 rfl [.int (v_Model_lose r (xs ((nI (1 + 5 * t)) + 1).toNatClampNeg)), .int (v_Store_lose n π s (xs ((nI (1 + 5 * t)) + 1).toNatClampNeg))] rfl ?_
  have hs := hst (xs ((nI (1 + 5 * t)) + 1).toNatClampNeg)
  refine z_icmp_eq S d_law_386 598 (by decide) 389 rfl (fun h9 => ?_) (fun h9 => absurd hs.1 h9)
  exact kk _ _ _ hs.2
set_option maxHeartbeats 4000000 in
set_option maxRecDepth 100000 in
theorem law_crash {p : Program} {l : Launch} {e : Env} {s₀ : State} {m : MethodId} {below : List Frame} {meth : Method} {c : Code} {b L : Nat} {xs : Nat → Int32} {D : va_G} {K : Nat → ClassId} {n : Nat} {a1 a2 : Nat → Nat → Nat} {c0 : Cond} {J : Nat → S3 → (Nat → Nat) → S3 → Prop} (S : CallFix p m c code 4 s₀ #[Value.ref b] (c0 :: zWs) "LeasedViewStoreLaw") (hK : va_K D zCl (zTys K) s₀) (hX : va_X b L xs s₀ s₀.heap) (hbl : b < s₀.heap.size) (hL : L ≤ 2561) (hn5 : n ≤ 5) (hJ1 : zw_J (cRL n) a1) (hJ2 : zw_J rRL a2) (hA1 : ∀ q, zw_A (cRL n) a1 q → s₀.heap.size ≤ q) (hA2 : ∀ q, zw_A rRL a2 q → s₀.heap.size ≤ q) (hx12 : ∀ q, zw_A rRL a2 q → ¬ zw_A (cRL n) a1 q) {t : Nat} {s : S3} {π : Nat → Nat} {r : S3} (ht : 1 + 5 * t + 5 ≤ L) (hC : hypC n s π) (hR : hypR r) (hst : st_crash n J t s π r) (kk : ∀ (s' : S3) (π' : Nat → Nat) (r' : S3), J (t + 1) s' π' r' → zG p l e room_1 s₀ m #[Value.ref b] below meth c 4 (lw_Z below #[Value.ref b] s₀) (lI D (cRL n) a1 (kC K a1 n s' π') rRL a2 (rC K a2 r') s₀.heap) 320 11326 598 [(3, .int (nI (1 + 5 * t))), (2, .ref (a2 0 0)), (1, .ref (a1 0 0)), (0, .ref b)] []) : zG p l e room_1 s₀ m #[Value.ref b] below meth c 4 (lw_Z below #[Value.ref b] s₀) (lI D (cRL n) a1 (kC K a1 n s π) rRL a2 (rC K a2 r) s₀.heap) 320 11326 391 [(3, .int (nI (1 + 5 * t))), (2, .ref (a2 0 0)), (1, .ref (a1 0 0)), (0, .ref b)] [] := by
  refine z_aload_n S d_law_391 rfl 2 rfl 392 rfl ?_
  refine z_aload_n S d_law_392 rfl 3 rfl 393 rfl ?_
  refine z_iload_n S d_law_393 rfl 0 rfl 394 rfl ?_
  refine z_iconst S d_law_394 1 (by decide) 395 rfl ?_
  refine z_iadd S d_law_395 396 rfl ?_
  refine l_sld S hX hbl (Nat.not_le.mpr hbl) (fun _ _ h => h.2.2) (sc_in (k := 1) hL (by omega)) d_law_396 397 rfl ?_
  refine l_call1 S hK hA1 hx12 (As := [.int (xs ((nI (1 + 5 * t)) + 1).toNatClampNeg)]) (rest := []) (c_Store_crash hJ1 hn5) (cw_Store_crash S.2.2.2.2 w_487 rfl rfl ⟨(Nat.le_of_ble_eq_true rfl), (Nat.le_of_ble_eq_true rfl)⟩) rl_0 kC_0 rfl rfl rfl (Nat.le_of_ble_eq_true rfl) (Nat.le_of_ble_eq_true rfl) (Nat.le_of_ble_eq_true rfl) d_law_397 400 rfl [.int (v_Store_crash n π s (xs ((nI (1 + 5 * t)) + 1).toNatClampNeg))] rfl ?_
  refine z_aload_n S d_law_400 rfl 1 rfl 401 rfl ?_
  refine z_aload_n S d_law_401 rfl 3 rfl 402 rfl ?_
  refine z_iload_n S d_law_402 rfl 0 rfl 403 rfl ?_
  refine z_iconst S d_law_403 1 (by decide) 404 rfl ?_
  refine z_iadd S d_law_404 405 rfl ?_
  refine l_sld S hX hbl (Nat.not_le.mpr hbl) (fun _ _ h => h.2.2) (sc_in (k := 1) hL (by omega)) d_law_405 406 rfl ?_
  refine l_call2 S hK hA2 (fun q h1 h2 => hx12 q h2 h1) (As := [.int (xs ((nI (1 + 5 * t)) + 1).toNatClampNeg)]) (rest := [.int (v_Store_crash n π s (xs ((nI (1 + 5 * t)) + 1).toNatClampNeg))]) (c_Model_crash hJ2 hR.1) (cw_Model_crash S.2.2.2.2 w_718 rfl rfl ⟨(Nat.le_of_ble_eq_true rfl), (Nat.le_of_ble_eq_true rfl)⟩) rm_0 rC_0 rfl rfl rfl (Nat.le_of_ble_eq_true rfl) (Nat.le_of_ble_eq_true rfl) (Nat.le_of_ble_eq_true rfl) d_law_406 409 rfl [.int (v_Model_crash r (xs ((nI (1 + 5 * t)) + 1).toNatClampNeg)), .int (v_Store_crash n π s (xs ((nI (1 + 5 * t)) + 1).toNatClampNeg))] rfl ?_
  have hs := hst (xs ((nI (1 + 5 * t)) + 1).toNatClampNeg)
  refine z_icmp_eq S d_law_409 598 (by decide) 412 rfl (fun h9 => ?_) (fun h9 => absurd hs.1 h9)
  exact kk _ _ _ hs.2
set_option maxHeartbeats 4000000 in
set_option maxRecDepth 100000 in
theorem law_letters {p : Program} {l : Launch} {e : Env} {s₀ : State} {m : MethodId} {below : List Frame} {meth : Method} {c : Code} {b L : Nat} {xs : Nat → Int32} {D : va_G} {K : Nat → ClassId} {n : Nat} {a1 a2 : Nat → Nat → Nat} {c0 : Cond} {J : Nat → S3 → (Nat → Nat) → S3 → Prop} (S : CallFix p m c code 4 s₀ #[Value.ref b] (c0 :: zWs) "LeasedViewStoreLaw") (hK : va_K D zCl (zTys K) s₀) (hX : va_X b L xs s₀ s₀.heap) (hbl : b < s₀.heap.size) (hL : L ≤ 2561) (hn5 : n ≤ 5) (hJ1 : zw_J (cRL n) a1) (hJ2 : zw_J rRL a2) (hA1 : ∀ q, zw_A (cRL n) a1 q → s₀.heap.size ≤ q) (hA2 : ∀ q, zw_A rRL a2 q → s₀.heap.size ≤ q) (hx12 : ∀ q, zw_A rRL a2 q → ¬ zw_A (cRL n) a1 q) {t : Nat} {s : S3} {π : Nat → Nat} {r : S3} (ht : 1 + 5 * t + 5 ≤ L) (hC : hypC n s π) (hR : hypR r) (hst : st_letters n J t s π r) (kk : ∀ (s' : S3) (π' : Nat → Nat) (r' : S3), J (t + 1) s' π' r' → zG p l e room_1 s₀ m #[Value.ref b] below meth c 4 (lw_Z below #[Value.ref b] s₀) (lI D (cRL n) a1 (kC K a1 n s' π') rRL a2 (rC K a2 r') s₀.heap) 320 11326 598 [(3, .int (nI (1 + 5 * t))), (2, .ref (a2 0 0)), (1, .ref (a1 0 0)), (0, .ref b)] []) : zG p l e room_1 s₀ m #[Value.ref b] below meth c 4 (lw_Z below #[Value.ref b] s₀) (lI D (cRL n) a1 (kC K a1 n s π) rRL a2 (rC K a2 r) s₀.heap) 320 11326 414 [(3, .int (nI (1 + 5 * t))), (2, .ref (a2 0 0)), (1, .ref (a1 0 0)), (0, .ref b)] [] := by
  refine z_aload_n S d_law_414 rfl 2 rfl 415 rfl ?_
  refine l_call1 S hK hA1 hx12 (As := []) (rest := []) (c_Store_letters hJ1 ) (cw_Store_letters S.2.2.2.2 w_491 rfl rfl ⟨(Nat.le_of_ble_eq_true rfl), (Nat.le_of_ble_eq_true rfl)⟩) rl_0 kC_0 rfl rfl rfl (Nat.le_of_ble_eq_true rfl) (Nat.le_of_ble_eq_true rfl) (Nat.le_of_ble_eq_true rfl) d_law_415 418 rfl [.int (s 4 2 0)] rfl ?_
  refine z_aload_n S d_law_418 rfl 1 rfl 419 rfl ?_
  refine l_call2 S hK hA2 (fun q h1 h2 => hx12 q h2 h1) (As := []) (rest := [.int (s 4 2 0)]) (c_Model_letters hJ2 ) (cw_Model_letters S.2.2.2.2 w_778 rfl rfl ⟨(Nat.le_of_ble_eq_true rfl), (Nat.le_of_ble_eq_true rfl)⟩) rm_0 rC_0 rfl rfl rfl (Nat.le_of_ble_eq_true rfl) (Nat.le_of_ble_eq_true rfl) (Nat.le_of_ble_eq_true rfl) d_law_419 422 rfl [.int (r 0 25 0), .int (s 4 2 0)] rfl ?_
  have hs := hst
  refine z_icmp_eq S d_law_422 598 (by decide) 425 rfl (fun h9 => ?_) (fun h9 => absurd hs.1 h9)
  exact kk _ _ _ hs.2
set_option maxHeartbeats 4000000 in
set_option maxRecDepth 100000 in
theorem law_letter {p : Program} {l : Launch} {e : Env} {s₀ : State} {m : MethodId} {below : List Frame} {meth : Method} {c : Code} {b L : Nat} {xs : Nat → Int32} {D : va_G} {K : Nat → ClassId} {n : Nat} {a1 a2 : Nat → Nat → Nat} {c0 : Cond} {J : Nat → S3 → (Nat → Nat) → S3 → Prop} (S : CallFix p m c code 4 s₀ #[Value.ref b] (c0 :: zWs) "LeasedViewStoreLaw") (hK : va_K D zCl (zTys K) s₀) (hX : va_X b L xs s₀ s₀.heap) (hbl : b < s₀.heap.size) (hL : L ≤ 2561) (hn5 : n ≤ 5) (hJ1 : zw_J (cRL n) a1) (hJ2 : zw_J rRL a2) (hA1 : ∀ q, zw_A (cRL n) a1 q → s₀.heap.size ≤ q) (hA2 : ∀ q, zw_A rRL a2 q → s₀.heap.size ≤ q) (hx12 : ∀ q, zw_A rRL a2 q → ¬ zw_A (cRL n) a1 q) {t : Nat} {s : S3} {π : Nat → Nat} {r : S3} (ht : 1 + 5 * t + 5 ≤ L) (hC : hypC n s π) (hR : hypR r) (hst : st_letter n J t s π r) (kk : ∀ (s' : S3) (π' : Nat → Nat) (r' : S3), J (t + 1) s' π' r' → zG p l e room_1 s₀ m #[Value.ref b] below meth c 4 (lw_Z below #[Value.ref b] s₀) (lI D (cRL n) a1 (kC K a1 n s' π') rRL a2 (rC K a2 r') s₀.heap) 320 11326 598 [(3, .int (nI (1 + 5 * t))), (2, .ref (a2 0 0)), (1, .ref (a1 0 0)), (0, .ref b)] []) : zG p l e room_1 s₀ m #[Value.ref b] below meth c 4 (lw_Z below #[Value.ref b] s₀) (lI D (cRL n) a1 (kC K a1 n s π) rRL a2 (rC K a2 r) s₀.heap) 320 11326 427 [(3, .int (nI (1 + 5 * t))), (2, .ref (a2 0 0)), (1, .ref (a1 0 0)), (0, .ref b)] [] := by
  refine z_aload_n S d_law_427 rfl 2 rfl 428 rfl ?_
  refine z_aload_n S d_law_428 rfl 3 rfl 429 rfl ?_
  refine z_iload_n S d_law_429 rfl 0 rfl 430 rfl ?_
  refine z_iconst S d_law_430 1 (by decide) 431 rfl ?_
  refine z_iadd S d_law_431 432 rfl ?_
  refine l_sld S hX hbl (Nat.not_le.mpr hbl) (fun _ _ h => h.2.2) (sc_in (k := 1) hL (by omega)) d_law_432 433 rfl ?_
  refine l_call1 S hK hA1 hx12 (As := [.int (xs ((nI (1 + 5 * t)) + 1).toNatClampNeg)]) (rest := []) (c_Store_letter hJ1 hC.1 hC.2.1) (cw_Store_letter S.2.2.2.2 w_495 rfl rfl ⟨(Nat.le_of_ble_eq_true rfl), (Nat.le_of_ble_eq_true rfl)⟩) rl_0 kC_0 rfl rfl rfl (Nat.le_of_ble_eq_true rfl) (Nat.le_of_ble_eq_true rfl) (Nat.le_of_ble_eq_true rfl) d_law_433 436 rfl [.int (v_Store_letter (s 4 2 0) (s 5 3 (π ((xs ((nI (1 + 5 * t)) + 1).toNatClampNeg)).toNatClampNeg)) (s 5 4 (π ((xs ((nI (1 + 5 * t)) + 1).toNatClampNeg)).toNatClampNeg)) (xs ((nI (1 + 5 * t)) + 1).toNatClampNeg))] rfl ?_
  refine z_aload_n S d_law_436 rfl 1 rfl 437 rfl ?_
  refine z_aload_n S d_law_437 rfl 3 rfl 438 rfl ?_
  refine z_iload_n S d_law_438 rfl 0 rfl 439 rfl ?_
  refine z_iconst S d_law_439 1 (by decide) 440 rfl ?_
  refine z_iadd S d_law_440 441 rfl ?_
  refine l_sld S hX hbl (Nat.not_le.mpr hbl) (fun _ _ h => h.2.2) (sc_in (k := 1) hL (by omega)) d_law_441 442 rfl ?_
  refine l_call2 S hK hA2 (fun q h1 h2 => hx12 q h2 h1) (As := [.int (xs ((nI (1 + 5 * t)) + 1).toNatClampNeg)]) (rest := [.int (v_Store_letter (s 4 2 0) (s 5 3 (π ((xs ((nI (1 + 5 * t)) + 1).toNatClampNeg)).toNatClampNeg)) (s 5 4 (π ((xs ((nI (1 + 5 * t)) + 1).toNatClampNeg)).toNatClampNeg)) (xs ((nI (1 + 5 * t)) + 1).toNatClampNeg))]) (c_Model_letter hJ2 hR.2.1 hR.2.2.2.2.2.2.2.1) (cw_Model_letter S.2.2.2.2 w_782 rfl rfl ⟨(Nat.le_of_ble_eq_true rfl), (Nat.le_of_ble_eq_true rfl)⟩) rm_0 rC_0 rfl rfl rfl (Nat.le_of_ble_eq_true rfl) (Nat.le_of_ble_eq_true rfl) (Nat.le_of_ble_eq_true rfl) d_law_442 445 rfl [.int (v_Model_letter r (xs ((nI (1 + 5 * t)) + 1).toNatClampNeg)), .int (v_Store_letter (s 4 2 0) (s 5 3 (π ((xs ((nI (1 + 5 * t)) + 1).toNatClampNeg)).toNatClampNeg)) (s 5 4 (π ((xs ((nI (1 + 5 * t)) + 1).toNatClampNeg)).toNatClampNeg)) (xs ((nI (1 + 5 * t)) + 1).toNatClampNeg))] rfl ?_
  have hs := hst (xs ((nI (1 + 5 * t)) + 1).toNatClampNeg)
  refine z_icmp_eq S d_law_445 598 (by decide) 448 rfl (fun h9 => ?_) (fun h9 => absurd hs.1 h9)
  exact kk _ _ _ hs.2
set_option maxHeartbeats 4000000 in
set_option maxRecDepth 100000 in
theorem law_view {p : Program} {l : Launch} {e : Env} {s₀ : State} {m : MethodId} {below : List Frame} {meth : Method} {c : Code} {b L : Nat} {xs : Nat → Int32} {D : va_G} {K : Nat → ClassId} {n : Nat} {a1 a2 : Nat → Nat → Nat} {c0 : Cond} {J : Nat → S3 → (Nat → Nat) → S3 → Prop} (S : CallFix p m c code 4 s₀ #[Value.ref b] (c0 :: zWs) "LeasedViewStoreLaw") (hK : va_K D zCl (zTys K) s₀) (hX : va_X b L xs s₀ s₀.heap) (hbl : b < s₀.heap.size) (hL : L ≤ 2561) (hn5 : n ≤ 5) (hJ1 : zw_J (cRL n) a1) (hJ2 : zw_J rRL a2) (hA1 : ∀ q, zw_A (cRL n) a1 q → s₀.heap.size ≤ q) (hA2 : ∀ q, zw_A rRL a2 q → s₀.heap.size ≤ q) (hx12 : ∀ q, zw_A rRL a2 q → ¬ zw_A (cRL n) a1 q) {t : Nat} {s : S3} {π : Nat → Nat} {r : S3} (ht : 1 + 5 * t + 5 ≤ L) (hC : hypC n s π) (hR : hypR r) (hst : st_view n J t s π r) (kk : ∀ (s' : S3) (π' : Nat → Nat) (r' : S3), J (t + 1) s' π' r' → zG p l e room_1 s₀ m #[Value.ref b] below meth c 4 (lw_Z below #[Value.ref b] s₀) (lI D (cRL n) a1 (kC K a1 n s' π') rRL a2 (rC K a2 r') s₀.heap) 320 11326 598 [(3, .int (nI (1 + 5 * t))), (2, .ref (a2 0 0)), (1, .ref (a1 0 0)), (0, .ref b)] []) : zG p l e room_1 s₀ m #[Value.ref b] below meth c 4 (lw_Z below #[Value.ref b] s₀) (lI D (cRL n) a1 (kC K a1 n s π) rRL a2 (rC K a2 r) s₀.heap) 320 11326 450 [(3, .int (nI (1 + 5 * t))), (2, .ref (a2 0 0)), (1, .ref (a1 0 0)), (0, .ref b)] [] := by
  refine z_aload_n S d_law_450 rfl 2 rfl 451 rfl ?_
  refine z_aload_n S d_law_451 rfl 3 rfl 452 rfl ?_
  refine z_iload_n S d_law_452 rfl 0 rfl 453 rfl ?_
  refine z_iconst S d_law_453 1 (by decide) 454 rfl ?_
  refine z_iadd S d_law_454 455 rfl ?_
  refine l_sld S hX hbl (Nat.not_le.mpr hbl) (fun _ _ h => h.2.2) (sc_in (k := 1) hL (by omega)) d_law_455 456 rfl ?_
  refine l_call1 S hK hA1 hx12 (As := [.int (xs ((nI (1 + 5 * t)) + 1).toNatClampNeg)]) (rest := []) (c_Store_view hJ1 hn5) (cw_Store_view S.2.2.2.2 w_499 rfl rfl ⟨(Nat.le_of_ble_eq_true rfl), (Nat.le_of_ble_eq_true rfl)⟩) rl_0 kC_0 rfl rfl rfl (Nat.le_of_ble_eq_true rfl) (Nat.le_of_ble_eq_true rfl) (Nat.le_of_ble_eq_true rfl) d_law_456 459 rfl [.int (v_Store_view n (s 6 0 7) (s 6 1 7) (s 6 2 7) (s 6 0 ((xs ((nI (1 + 5 * t)) + 1).toNatClampNeg)).toNatClampNeg) (s 6 1 ((xs ((nI (1 + 5 * t)) + 1).toNatClampNeg)).toNatClampNeg) (s 6 2 ((xs ((nI (1 + 5 * t)) + 1).toNatClampNeg)).toNatClampNeg) (xs ((nI (1 + 5 * t)) + 1).toNatClampNeg))] rfl ?_
  refine z_aload_n S d_law_459 rfl 1 rfl 460 rfl ?_
  refine z_aload_n S d_law_460 rfl 3 rfl 461 rfl ?_
  refine z_iload_n S d_law_461 rfl 0 rfl 462 rfl ?_
  refine z_iconst S d_law_462 1 (by decide) 463 rfl ?_
  refine z_iadd S d_law_463 464 rfl ?_
  refine l_sld S hX hbl (Nat.not_le.mpr hbl) (fun _ _ h => h.2.2) (sc_in (k := 1) hL (by omega)) d_law_464 465 rfl ?_
  refine l_call2 S hK hA2 (fun q h1 h2 => hx12 q h2 h1) (As := [.int (xs ((nI (1 + 5 * t)) + 1).toNatClampNeg)]) (rest := [.int (v_Store_view n (s 6 0 7) (s 6 1 7) (s 6 2 7) (s 6 0 ((xs ((nI (1 + 5 * t)) + 1).toNatClampNeg)).toNatClampNeg) (s 6 1 ((xs ((nI (1 + 5 * t)) + 1).toNatClampNeg)).toNatClampNeg) (s 6 2 ((xs ((nI (1 + 5 * t)) + 1).toNatClampNeg)).toNatClampNeg) (xs ((nI (1 + 5 * t)) + 1).toNatClampNeg))]) (c_Model_view hJ2 hR.1) (cw_Model_view S.2.2.2.2 w_786 rfl rfl ⟨(Nat.le_of_ble_eq_true rfl), (Nat.le_of_ble_eq_true rfl)⟩) rm_0 rC_0 rfl rfl rfl (Nat.le_of_ble_eq_true rfl) (Nat.le_of_ble_eq_true rfl) (Nat.le_of_ble_eq_true rfl) d_law_465 468 rfl [.int (v_Model_view (r 8 0 5) (r 10 0 5) (r 9 0 5) (r 0 0 0) (r 8 0 ((xs ((nI (1 + 5 * t)) + 1).toNatClampNeg)).toNatClampNeg) (r 10 0 ((xs ((nI (1 + 5 * t)) + 1).toNatClampNeg)).toNatClampNeg) (r 9 0 ((xs ((nI (1 + 5 * t)) + 1).toNatClampNeg)).toNatClampNeg) (xs ((nI (1 + 5 * t)) + 1).toNatClampNeg)), .int (v_Store_view n (s 6 0 7) (s 6 1 7) (s 6 2 7) (s 6 0 ((xs ((nI (1 + 5 * t)) + 1).toNatClampNeg)).toNatClampNeg) (s 6 1 ((xs ((nI (1 + 5 * t)) + 1).toNatClampNeg)).toNatClampNeg) (s 6 2 ((xs ((nI (1 + 5 * t)) + 1).toNatClampNeg)).toNatClampNeg) (xs ((nI (1 + 5 * t)) + 1).toNatClampNeg))] rfl ?_
  have hs := hst (xs ((nI (1 + 5 * t)) + 1).toNatClampNeg)
  refine z_icmp_eq S d_law_468 598 (by decide) 471 rfl (fun h9 => ?_) (fun h9 => absurd hs.1 h9)
  exact kk _ _ _ hs.2
set_option maxHeartbeats 4000000 in
set_option maxRecDepth 100000 in
theorem law_role {p : Program} {l : Launch} {e : Env} {s₀ : State} {m : MethodId} {below : List Frame} {meth : Method} {c : Code} {b L : Nat} {xs : Nat → Int32} {D : va_G} {K : Nat → ClassId} {n : Nat} {a1 a2 : Nat → Nat → Nat} {c0 : Cond} {J : Nat → S3 → (Nat → Nat) → S3 → Prop} (S : CallFix p m c code 4 s₀ #[Value.ref b] (c0 :: zWs) "LeasedViewStoreLaw") (hK : va_K D zCl (zTys K) s₀) (hX : va_X b L xs s₀ s₀.heap) (hbl : b < s₀.heap.size) (hL : L ≤ 2561) (hn5 : n ≤ 5) (hJ1 : zw_J (cRL n) a1) (hJ2 : zw_J rRL a2) (hA1 : ∀ q, zw_A (cRL n) a1 q → s₀.heap.size ≤ q) (hA2 : ∀ q, zw_A rRL a2 q → s₀.heap.size ≤ q) (hx12 : ∀ q, zw_A rRL a2 q → ¬ zw_A (cRL n) a1 q) {t : Nat} {s : S3} {π : Nat → Nat} {r : S3} (ht : 1 + 5 * t + 5 ≤ L) (hC : hypC n s π) (hR : hypR r) (hst : st_role n J t s π r) (kk : ∀ (s' : S3) (π' : Nat → Nat) (r' : S3), J (t + 1) s' π' r' → zG p l e room_1 s₀ m #[Value.ref b] below meth c 4 (lw_Z below #[Value.ref b] s₀) (lI D (cRL n) a1 (kC K a1 n s' π') rRL a2 (rC K a2 r') s₀.heap) 320 11326 598 [(3, .int (nI (1 + 5 * t))), (2, .ref (a2 0 0)), (1, .ref (a1 0 0)), (0, .ref b)] []) : zG p l e room_1 s₀ m #[Value.ref b] below meth c 4 (lw_Z below #[Value.ref b] s₀) (lI D (cRL n) a1 (kC K a1 n s π) rRL a2 (rC K a2 r) s₀.heap) 320 11326 473 [(3, .int (nI (1 + 5 * t))), (2, .ref (a2 0 0)), (1, .ref (a1 0 0)), (0, .ref b)] [] := by
  refine z_aload_n S d_law_473 rfl 2 rfl 474 rfl ?_
  refine z_aload_n S d_law_474 rfl 3 rfl 475 rfl ?_
  refine z_iload_n S d_law_475 rfl 0 rfl 476 rfl ?_
  refine z_iconst S d_law_476 1 (by decide) 477 rfl ?_
  refine z_iadd S d_law_477 478 rfl ?_
  refine l_sld S hX hbl (Nat.not_le.mpr hbl) (fun _ _ h => h.2.2) (sc_in (k := 1) hL (by omega)) d_law_478 479 rfl ?_
  refine l_call1 S hK hA1 hx12 (As := [.int (xs ((nI (1 + 5 * t)) + 1).toNatClampNeg)]) (rest := []) (c_Store_role hJ1 hn5) (cw_Store_role S.2.2.2.2 w_507 rfl rfl ⟨(Nat.le_of_ble_eq_true rfl), (Nat.le_of_ble_eq_true rfl)⟩) rl_0 kC_0 rfl rfl rfl (Nat.le_of_ble_eq_true rfl) (Nat.le_of_ble_eq_true rfl) (Nat.le_of_ble_eq_true rfl) d_law_479 482 rfl [.int (v_Store_role n (s 1 6 ((xs ((nI (1 + 5 * t)) + 1).toNatClampNeg)).toNatClampNeg) (s 6 0 ((xs ((nI (1 + 5 * t)) + 1).toNatClampNeg)).toNatClampNeg) (s 6 1 ((xs ((nI (1 + 5 * t)) + 1).toNatClampNeg)).toNatClampNeg) (s 1 0 ((xs ((nI (1 + 5 * t)) + 1).toNatClampNeg)).toNatClampNeg) (s 1 7 ((xs ((nI (1 + 5 * t)) + 1).toNatClampNeg)).toNatClampNeg) (s 1 8 ((xs ((nI (1 + 5 * t)) + 1).toNatClampNeg)).toNatClampNeg) (s 6 2 ((xs ((nI (1 + 5 * t)) + 1).toNatClampNeg)).toNatClampNeg) (s 1 9 ((xs ((nI (1 + 5 * t)) + 1).toNatClampNeg)).toNatClampNeg) (xs ((nI (1 + 5 * t)) + 1).toNatClampNeg))] rfl ?_
  refine z_aload_n S d_law_482 rfl 1 rfl 483 rfl ?_
  refine z_aload_n S d_law_483 rfl 3 rfl 484 rfl ?_
  refine z_iload_n S d_law_484 rfl 0 rfl 485 rfl ?_
  refine z_iconst S d_law_485 1 (by decide) 486 rfl ?_
  refine z_iadd S d_law_486 487 rfl ?_
  refine l_sld S hX hbl (Nat.not_le.mpr hbl) (fun _ _ h => h.2.2) (sc_in (k := 1) hL (by omega)) d_law_487 488 rfl ?_
  refine l_call2 S hK hA2 (fun q h1 h2 => hx12 q h2 h1) (As := [.int (xs ((nI (1 + 5 * t)) + 1).toNatClampNeg)]) (rest := [.int (v_Store_role n (s 1 6 ((xs ((nI (1 + 5 * t)) + 1).toNatClampNeg)).toNatClampNeg) (s 6 0 ((xs ((nI (1 + 5 * t)) + 1).toNatClampNeg)).toNatClampNeg) (s 6 1 ((xs ((nI (1 + 5 * t)) + 1).toNatClampNeg)).toNatClampNeg) (s 1 0 ((xs ((nI (1 + 5 * t)) + 1).toNatClampNeg)).toNatClampNeg) (s 1 7 ((xs ((nI (1 + 5 * t)) + 1).toNatClampNeg)).toNatClampNeg) (s 1 8 ((xs ((nI (1 + 5 * t)) + 1).toNatClampNeg)).toNatClampNeg) (s 6 2 ((xs ((nI (1 + 5 * t)) + 1).toNatClampNeg)).toNatClampNeg) (s 1 9 ((xs ((nI (1 + 5 * t)) + 1).toNatClampNeg)).toNatClampNeg) (xs ((nI (1 + 5 * t)) + 1).toNatClampNeg))]) (c_Model_role hJ2 hR.1) (cw_Model_role S.2.2.2.2 w_790 rfl rfl ⟨(Nat.le_of_ble_eq_true rfl), (Nat.le_of_ble_eq_true rfl)⟩) rm_0 rC_0 rfl rfl rfl (Nat.le_of_ble_eq_true rfl) (Nat.le_of_ble_eq_true rfl) (Nat.le_of_ble_eq_true rfl) d_law_488 491 rfl [.int (v_Model_role (r 0 0 0) (r 8 0 ((xs ((nI (1 + 5 * t)) + 1).toNatClampNeg)).toNatClampNeg) (r 17 0 ((xs ((nI (1 + 5 * t)) + 1).toNatClampNeg)).toNatClampNeg) (r 9 0 ((xs ((nI (1 + 5 * t)) + 1).toNatClampNeg)).toNatClampNeg) (r 18 0 ((xs ((nI (1 + 5 * t)) + 1).toNatClampNeg)).toNatClampNeg) (r 15 0 ((xs ((nI (1 + 5 * t)) + 1).toNatClampNeg)).toNatClampNeg) (r 10 0 ((xs ((nI (1 + 5 * t)) + 1).toNatClampNeg)).toNatClampNeg) (r 16 0 ((xs ((nI (1 + 5 * t)) + 1).toNatClampNeg)).toNatClampNeg) (xs ((nI (1 + 5 * t)) + 1).toNatClampNeg)), .int (v_Store_role n (s 1 6 ((xs ((nI (1 + 5 * t)) + 1).toNatClampNeg)).toNatClampNeg) (s 6 0 ((xs ((nI (1 + 5 * t)) + 1).toNatClampNeg)).toNatClampNeg) (s 6 1 ((xs ((nI (1 + 5 * t)) + 1).toNatClampNeg)).toNatClampNeg) (s 1 0 ((xs ((nI (1 + 5 * t)) + 1).toNatClampNeg)).toNatClampNeg) (s 1 7 ((xs ((nI (1 + 5 * t)) + 1).toNatClampNeg)).toNatClampNeg) (s 1 8 ((xs ((nI (1 + 5 * t)) + 1).toNatClampNeg)).toNatClampNeg) (s 6 2 ((xs ((nI (1 + 5 * t)) + 1).toNatClampNeg)).toNatClampNeg) (s 1 9 ((xs ((nI (1 + 5 * t)) + 1).toNatClampNeg)).toNatClampNeg) (xs ((nI (1 + 5 * t)) + 1).toNatClampNeg))] rfl ?_
  have hs := hst (xs ((nI (1 + 5 * t)) + 1).toNatClampNeg)
  refine z_icmp_eq S d_law_491 598 (by decide) 494 rfl (fun h9 => ?_) (fun h9 => absurd hs.1 h9)
  exact kk _ _ _ hs.2
set_option maxHeartbeats 4000000 in
set_option maxRecDepth 100000 in
theorem law_cell {p : Program} {l : Launch} {e : Env} {s₀ : State} {m : MethodId} {below : List Frame} {meth : Method} {c : Code} {b L : Nat} {xs : Nat → Int32} {D : va_G} {K : Nat → ClassId} {n : Nat} {a1 a2 : Nat → Nat → Nat} {c0 : Cond} {J : Nat → S3 → (Nat → Nat) → S3 → Prop} (S : CallFix p m c code 4 s₀ #[Value.ref b] (c0 :: zWs) "LeasedViewStoreLaw") (hK : va_K D zCl (zTys K) s₀) (hX : va_X b L xs s₀ s₀.heap) (hbl : b < s₀.heap.size) (hL : L ≤ 2561) (hn5 : n ≤ 5) (hJ1 : zw_J (cRL n) a1) (hJ2 : zw_J rRL a2) (hA1 : ∀ q, zw_A (cRL n) a1 q → s₀.heap.size ≤ q) (hA2 : ∀ q, zw_A rRL a2 q → s₀.heap.size ≤ q) (hx12 : ∀ q, zw_A rRL a2 q → ¬ zw_A (cRL n) a1 q) {t : Nat} {s : S3} {π : Nat → Nat} {r : S3} (ht : 1 + 5 * t + 5 ≤ L) (hC : hypC n s π) (hR : hypR r) (hst : st_cell n J t s π r) (kk : ∀ (s' : S3) (π' : Nat → Nat) (r' : S3), J (t + 1) s' π' r' → zG p l e room_1 s₀ m #[Value.ref b] below meth c 4 (lw_Z below #[Value.ref b] s₀) (lI D (cRL n) a1 (kC K a1 n s' π') rRL a2 (rC K a2 r') s₀.heap) 320 11326 598 [(3, .int (nI (1 + 5 * t))), (2, .ref (a2 0 0)), (1, .ref (a1 0 0)), (0, .ref b)] []) : zG p l e room_1 s₀ m #[Value.ref b] below meth c 4 (lw_Z below #[Value.ref b] s₀) (lI D (cRL n) a1 (kC K a1 n s π) rRL a2 (rC K a2 r) s₀.heap) 320 11326 496 [(3, .int (nI (1 + 5 * t))), (2, .ref (a2 0 0)), (1, .ref (a1 0 0)), (0, .ref b)] [] := by
  refine z_aload_n S d_law_496 rfl 2 rfl 497 rfl ?_
  refine z_aload_n S d_law_497 rfl 3 rfl 498 rfl ?_
  refine z_iload_n S d_law_498 rfl 0 rfl 499 rfl ?_
  refine z_iconst S d_law_499 1 (by decide) 500 rfl ?_
  refine z_iadd S d_law_500 501 rfl ?_
  refine l_sld S hX hbl (Nat.not_le.mpr hbl) (fun _ _ h => h.2.2) (sc_in (k := 1) hL (by omega)) d_law_501 502 rfl ?_
  refine z_aload_n S d_law_502 rfl 3 rfl 503 rfl ?_
  refine z_iload_n S d_law_503 rfl 0 rfl 504 rfl ?_
  refine z_iconst S d_law_504 2 (by decide) 505 rfl ?_
  refine z_iadd S d_law_505 506 rfl ?_
  refine l_sld S hX hbl (Nat.not_le.mpr hbl) (fun _ _ h => h.2.2) (sc_in (k := 2) hL (by omega)) d_law_506 507 rfl ?_
  refine l_call1 S hK hA1 hx12 (As := [.int (xs ((nI (1 + 5 * t)) + 1).toNatClampNeg), .int (xs ((nI (1 + 5 * t)) + 2).toNatClampNeg)]) (rest := []) (c_Store_cell hJ1 hn5) (cw_Store_cell S.2.2.2.2 w_515 rfl rfl ⟨(Nat.le_of_ble_eq_true rfl), (Nat.le_of_ble_eq_true rfl)⟩) rl_0 kC_0 rfl rfl rfl (Nat.le_of_ble_eq_true rfl) (Nat.le_of_ble_eq_true rfl) (Nat.le_of_ble_eq_true rfl) d_law_507 510 rfl [.int (v_Store_cell n (s 9 ((xs ((nI (1 + 5 * t)) + 1).toNatClampNeg)).toNatClampNeg ((xs ((nI (1 + 5 * t)) + 2).toNatClampNeg)).toNatClampNeg) (xs ((nI (1 + 5 * t)) + 1).toNatClampNeg) (xs ((nI (1 + 5 * t)) + 2).toNatClampNeg))] rfl ?_
  refine z_aload_n S d_law_510 rfl 1 rfl 511 rfl ?_
  refine z_aload_n S d_law_511 rfl 3 rfl 512 rfl ?_
  refine z_iload_n S d_law_512 rfl 0 rfl 513 rfl ?_
  refine z_iconst S d_law_513 1 (by decide) 514 rfl ?_
  refine z_iadd S d_law_514 515 rfl ?_
  refine l_sld S hX hbl (Nat.not_le.mpr hbl) (fun _ _ h => h.2.2) (sc_in (k := 1) hL (by omega)) d_law_515 516 rfl ?_
  refine z_aload_n S d_law_516 rfl 3 rfl 517 rfl ?_
  refine z_iload_n S d_law_517 rfl 0 rfl 518 rfl ?_
  refine z_iconst S d_law_518 2 (by decide) 519 rfl ?_
  refine z_iadd S d_law_519 520 rfl ?_
  refine l_sld S hX hbl (Nat.not_le.mpr hbl) (fun _ _ h => h.2.2) (sc_in (k := 2) hL (by omega)) d_law_520 521 rfl ?_
  refine l_call2 S hK hA2 (fun q h1 h2 => hx12 q h2 h1) (As := [.int (xs ((nI (1 + 5 * t)) + 1).toNatClampNeg), .int (xs ((nI (1 + 5 * t)) + 2).toNatClampNeg)]) (rest := [.int (v_Store_cell n (s 9 ((xs ((nI (1 + 5 * t)) + 1).toNatClampNeg)).toNatClampNeg ((xs ((nI (1 + 5 * t)) + 2).toNatClampNeg)).toNatClampNeg) (xs ((nI (1 + 5 * t)) + 1).toNatClampNeg) (xs ((nI (1 + 5 * t)) + 2).toNatClampNeg))]) (c_Model_cell hJ2 hR.1 hR.2.2.2.2.1 hR.2.2.2.1) (cw_Model_cell S.2.2.2.2 w_794 rfl rfl ⟨(Nat.le_of_ble_eq_true rfl), (Nat.le_of_ble_eq_true rfl)⟩) rm_0 rC_0 rfl rfl rfl (Nat.le_of_ble_eq_true rfl) (Nat.le_of_ble_eq_true rfl) (Nat.le_of_ble_eq_true rfl) d_law_521 524 rfl [.int (v_Model_cell r (xs ((nI (1 + 5 * t)) + 1).toNatClampNeg) (xs ((nI (1 + 5 * t)) + 2).toNatClampNeg)), .int (v_Store_cell n (s 9 ((xs ((nI (1 + 5 * t)) + 1).toNatClampNeg)).toNatClampNeg ((xs ((nI (1 + 5 * t)) + 2).toNatClampNeg)).toNatClampNeg) (xs ((nI (1 + 5 * t)) + 1).toNatClampNeg) (xs ((nI (1 + 5 * t)) + 2).toNatClampNeg))] rfl ?_
  have hs := hst (xs ((nI (1 + 5 * t)) + 1).toNatClampNeg) (xs ((nI (1 + 5 * t)) + 2).toNatClampNeg)
  refine z_icmp_eq S d_law_524 598 (by decide) 527 rfl (fun h9 => ?_) (fun h9 => absurd hs.1 h9)
  exact kk _ _ _ hs.2
set_option maxHeartbeats 4000000 in
set_option maxRecDepth 100000 in
theorem law_count {p : Program} {l : Launch} {e : Env} {s₀ : State} {m : MethodId} {below : List Frame} {meth : Method} {c : Code} {b L : Nat} {xs : Nat → Int32} {D : va_G} {K : Nat → ClassId} {n : Nat} {a1 a2 : Nat → Nat → Nat} {c0 : Cond} {J : Nat → S3 → (Nat → Nat) → S3 → Prop} (S : CallFix p m c code 4 s₀ #[Value.ref b] (c0 :: zWs) "LeasedViewStoreLaw") (hK : va_K D zCl (zTys K) s₀) (hX : va_X b L xs s₀ s₀.heap) (hbl : b < s₀.heap.size) (hL : L ≤ 2561) (hn5 : n ≤ 5) (hJ1 : zw_J (cRL n) a1) (hJ2 : zw_J rRL a2) (hA1 : ∀ q, zw_A (cRL n) a1 q → s₀.heap.size ≤ q) (hA2 : ∀ q, zw_A rRL a2 q → s₀.heap.size ≤ q) (hx12 : ∀ q, zw_A rRL a2 q → ¬ zw_A (cRL n) a1 q) {t : Nat} {s : S3} {π : Nat → Nat} {r : S3} (ht : 1 + 5 * t + 5 ≤ L) (hC : hypC n s π) (hR : hypR r) (hst : st_count n J t s π r) (kk : ∀ (s' : S3) (π' : Nat → Nat) (r' : S3), J (t + 1) s' π' r' → zG p l e room_1 s₀ m #[Value.ref b] below meth c 4 (lw_Z below #[Value.ref b] s₀) (lI D (cRL n) a1 (kC K a1 n s' π') rRL a2 (rC K a2 r') s₀.heap) 320 11326 598 [(3, .int (nI (1 + 5 * t))), (2, .ref (a2 0 0)), (1, .ref (a1 0 0)), (0, .ref b)] []) : zG p l e room_1 s₀ m #[Value.ref b] below meth c 4 (lw_Z below #[Value.ref b] s₀) (lI D (cRL n) a1 (kC K a1 n s π) rRL a2 (rC K a2 r) s₀.heap) 320 11326 529 [(3, .int (nI (1 + 5 * t))), (2, .ref (a2 0 0)), (1, .ref (a1 0 0)), (0, .ref b)] [] := by
  refine z_aload_n S d_law_529 rfl 2 rfl 530 rfl ?_
  refine z_aload_n S d_law_530 rfl 3 rfl 531 rfl ?_
  refine z_iload_n S d_law_531 rfl 0 rfl 532 rfl ?_
  refine z_iconst S d_law_532 1 (by decide) 533 rfl ?_
  refine z_iadd S d_law_533 534 rfl ?_
  refine l_sld S hX hbl (Nat.not_le.mpr hbl) (fun _ _ h => h.2.2) (sc_in (k := 1) hL (by omega)) d_law_534 535 rfl ?_
  refine l_call1 S hK hA1 hx12 (As := [.int (xs ((nI (1 + 5 * t)) + 1).toNatClampNeg)]) (rest := []) (c_Store_count hJ1 hn5) (cw_Store_count S.2.2.2.2 w_519 rfl rfl ⟨(Nat.le_of_ble_eq_true rfl), (Nat.le_of_ble_eq_true rfl)⟩) rl_0 kC_0 rfl rfl rfl (Nat.le_of_ble_eq_true rfl) (Nat.le_of_ble_eq_true rfl) (Nat.le_of_ble_eq_true rfl) d_law_535 538 rfl [.int (v_Store_count n (s 8 3 ((xs ((nI (1 + 5 * t)) + 1).toNatClampNeg)).toNatClampNeg) (xs ((nI (1 + 5 * t)) + 1).toNatClampNeg))] rfl ?_
  refine z_aload_n S d_law_538 rfl 1 rfl 539 rfl ?_
  refine z_aload_n S d_law_539 rfl 3 rfl 540 rfl ?_
  refine z_iload_n S d_law_540 rfl 0 rfl 541 rfl ?_
  refine z_iconst S d_law_541 1 (by decide) 542 rfl ?_
  refine z_iadd S d_law_542 543 rfl ?_
  refine l_sld S hX hbl (Nat.not_le.mpr hbl) (fun _ _ h => h.2.2) (sc_in (k := 1) hL (by omega)) d_law_543 544 rfl ?_
  refine l_call2 S hK hA2 (fun q h1 h2 => hx12 q h2 h1) (As := [.int (xs ((nI (1 + 5 * t)) + 1).toNatClampNeg)]) (rest := [.int (v_Store_count n (s 8 3 ((xs ((nI (1 + 5 * t)) + 1).toNatClampNeg)).toNatClampNeg) (xs ((nI (1 + 5 * t)) + 1).toNatClampNeg))]) (c_Model_count hJ2 hR.1) (cw_Model_count S.2.2.2.2 w_798 rfl rfl ⟨(Nat.le_of_ble_eq_true rfl), (Nat.le_of_ble_eq_true rfl)⟩) rm_0 rC_0 rfl rfl rfl (Nat.le_of_ble_eq_true rfl) (Nat.le_of_ble_eq_true rfl) (Nat.le_of_ble_eq_true rfl) d_law_544 547 rfl [.int (v_Model_count (r 0 0 0) (r 19 0 ((xs ((nI (1 + 5 * t)) + 1).toNatClampNeg)).toNatClampNeg) (xs ((nI (1 + 5 * t)) + 1).toNatClampNeg)), .int (v_Store_count n (s 8 3 ((xs ((nI (1 + 5 * t)) + 1).toNatClampNeg)).toNatClampNeg) (xs ((nI (1 + 5 * t)) + 1).toNatClampNeg))] rfl ?_
  have hs := hst (xs ((nI (1 + 5 * t)) + 1).toNatClampNeg)
  refine z_icmp_eq S d_law_547 598 (by decide) 550 rfl (fun h9 => ?_) (fun h9 => absurd hs.1 h9)
  exact kk _ _ _ hs.2
set_option maxHeartbeats 4000000 in
set_option maxRecDepth 100000 in
theorem law_finished {p : Program} {l : Launch} {e : Env} {s₀ : State} {m : MethodId} {below : List Frame} {meth : Method} {c : Code} {b L : Nat} {xs : Nat → Int32} {D : va_G} {K : Nat → ClassId} {n : Nat} {a1 a2 : Nat → Nat → Nat} {c0 : Cond} {J : Nat → S3 → (Nat → Nat) → S3 → Prop} (S : CallFix p m c code 4 s₀ #[Value.ref b] (c0 :: zWs) "LeasedViewStoreLaw") (hK : va_K D zCl (zTys K) s₀) (hX : va_X b L xs s₀ s₀.heap) (hbl : b < s₀.heap.size) (hL : L ≤ 2561) (hn5 : n ≤ 5) (hJ1 : zw_J (cRL n) a1) (hJ2 : zw_J rRL a2) (hA1 : ∀ q, zw_A (cRL n) a1 q → s₀.heap.size ≤ q) (hA2 : ∀ q, zw_A rRL a2 q → s₀.heap.size ≤ q) (hx12 : ∀ q, zw_A rRL a2 q → ¬ zw_A (cRL n) a1 q) {t : Nat} {s : S3} {π : Nat → Nat} {r : S3} (ht : 1 + 5 * t + 5 ≤ L) (hC : hypC n s π) (hR : hypR r) (hst : st_finished n J t s π r) (kk : ∀ (s' : S3) (π' : Nat → Nat) (r' : S3), J (t + 1) s' π' r' → zG p l e room_1 s₀ m #[Value.ref b] below meth c 4 (lw_Z below #[Value.ref b] s₀) (lI D (cRL n) a1 (kC K a1 n s' π') rRL a2 (rC K a2 r') s₀.heap) 320 11326 598 [(3, .int (nI (1 + 5 * t))), (2, .ref (a2 0 0)), (1, .ref (a1 0 0)), (0, .ref b)] []) : zG p l e room_1 s₀ m #[Value.ref b] below meth c 4 (lw_Z below #[Value.ref b] s₀) (lI D (cRL n) a1 (kC K a1 n s π) rRL a2 (rC K a2 r) s₀.heap) 320 11326 552 [(3, .int (nI (1 + 5 * t))), (2, .ref (a2 0 0)), (1, .ref (a1 0 0)), (0, .ref b)] [] := by
  refine z_aload_n S d_law_552 rfl 2 rfl 553 rfl ?_
  refine z_aload_n S d_law_553 rfl 3 rfl 554 rfl ?_
  refine z_iload_n S d_law_554 rfl 0 rfl 555 rfl ?_
  refine z_iconst S d_law_555 1 (by decide) 556 rfl ?_
  refine z_iadd S d_law_556 557 rfl ?_
  refine l_sld S hX hbl (Nat.not_le.mpr hbl) (fun _ _ h => h.2.2) (sc_in (k := 1) hL (by omega)) d_law_557 558 rfl ?_
  refine l_call1 S hK hA1 hx12 (As := [.int (xs ((nI (1 + 5 * t)) + 1).toNatClampNeg)]) (rest := []) (c_Store_finished hJ1 ) (cw_Store_finished S.2.2.2.2 w_523 rfl rfl ⟨(Nat.le_of_ble_eq_true rfl), (Nat.le_of_ble_eq_true rfl)⟩) rl_0 kC_0 rfl rfl rfl (Nat.le_of_ble_eq_true rfl) (Nat.le_of_ble_eq_true rfl) (Nat.le_of_ble_eq_true rfl) d_law_558 561 rfl [.int (v_Store_finished (s 2 2 ((xs ((nI (1 + 5 * t)) + 1).toNatClampNeg)).toNatClampNeg) (xs ((nI (1 + 5 * t)) + 1).toNatClampNeg))] rfl ?_
  refine z_aload_n S d_law_561 rfl 1 rfl 562 rfl ?_
  refine z_aload_n S d_law_562 rfl 3 rfl 563 rfl ?_
  refine z_iload_n S d_law_563 rfl 0 rfl 564 rfl ?_
  refine z_iconst S d_law_564 1 (by decide) 565 rfl ?_
  refine z_iadd S d_law_565 566 rfl ?_
  refine l_sld S hX hbl (Nat.not_le.mpr hbl) (fun _ _ h => h.2.2) (sc_in (k := 1) hL (by omega)) d_law_566 567 rfl ?_
  refine l_call2 S hK hA2 (fun q h1 h2 => hx12 q h2 h1) (As := [.int (xs ((nI (1 + 5 * t)) + 1).toNatClampNeg)]) (rest := [.int (v_Store_finished (s 2 2 ((xs ((nI (1 + 5 * t)) + 1).toNatClampNeg)).toNatClampNeg) (xs ((nI (1 + 5 * t)) + 1).toNatClampNeg))]) (c_Model_finished hJ2 ) (cw_Model_finished S.2.2.2.2 w_802 rfl rfl ⟨(Nat.le_of_ble_eq_true rfl), (Nat.le_of_ble_eq_true rfl)⟩) rm_0 rC_0 rfl rfl rfl (Nat.le_of_ble_eq_true rfl) (Nat.le_of_ble_eq_true rfl) (Nat.le_of_ble_eq_true rfl) d_law_567 570 rfl [.int (v_Model_finished (r 23 0 ((xs ((nI (1 + 5 * t)) + 1).toNatClampNeg)).toNatClampNeg) (xs ((nI (1 + 5 * t)) + 1).toNatClampNeg)), .int (v_Store_finished (s 2 2 ((xs ((nI (1 + 5 * t)) + 1).toNatClampNeg)).toNatClampNeg) (xs ((nI (1 + 5 * t)) + 1).toNatClampNeg))] rfl ?_
  have hs := hst (xs ((nI (1 + 5 * t)) + 1).toNatClampNeg)
  refine z_icmp_eq S d_law_570 598 (by decide) 573 rfl (fun h9 => ?_) (fun h9 => absurd hs.1 h9)
  exact kk _ _ _ hs.2
set_option maxHeartbeats 4000000 in
set_option maxRecDepth 100000 in
theorem law_result {p : Program} {l : Launch} {e : Env} {s₀ : State} {m : MethodId} {below : List Frame} {meth : Method} {c : Code} {b L : Nat} {xs : Nat → Int32} {D : va_G} {K : Nat → ClassId} {n : Nat} {a1 a2 : Nat → Nat → Nat} {c0 : Cond} {J : Nat → S3 → (Nat → Nat) → S3 → Prop} (S : CallFix p m c code 4 s₀ #[Value.ref b] (c0 :: zWs) "LeasedViewStoreLaw") (hK : va_K D zCl (zTys K) s₀) (hX : va_X b L xs s₀ s₀.heap) (hbl : b < s₀.heap.size) (hL : L ≤ 2561) (hn5 : n ≤ 5) (hJ1 : zw_J (cRL n) a1) (hJ2 : zw_J rRL a2) (hA1 : ∀ q, zw_A (cRL n) a1 q → s₀.heap.size ≤ q) (hA2 : ∀ q, zw_A rRL a2 q → s₀.heap.size ≤ q) (hx12 : ∀ q, zw_A rRL a2 q → ¬ zw_A (cRL n) a1 q) {t : Nat} {s : S3} {π : Nat → Nat} {r : S3} (ht : 1 + 5 * t + 5 ≤ L) (hC : hypC n s π) (hR : hypR r) (hst : st_result n J t s π r) (kk : ∀ (s' : S3) (π' : Nat → Nat) (r' : S3), J (t + 1) s' π' r' → zG p l e room_1 s₀ m #[Value.ref b] below meth c 4 (lw_Z below #[Value.ref b] s₀) (lI D (cRL n) a1 (kC K a1 n s' π') rRL a2 (rC K a2 r') s₀.heap) 320 11326 598 [(3, .int (nI (1 + 5 * t))), (2, .ref (a2 0 0)), (1, .ref (a1 0 0)), (0, .ref b)] []) : zG p l e room_1 s₀ m #[Value.ref b] below meth c 4 (lw_Z below #[Value.ref b] s₀) (lI D (cRL n) a1 (kC K a1 n s π) rRL a2 (rC K a2 r) s₀.heap) 320 11326 575 [(3, .int (nI (1 + 5 * t))), (2, .ref (a2 0 0)), (1, .ref (a1 0 0)), (0, .ref b)] [] := by
  refine z_aload_n S d_law_575 rfl 2 rfl 576 rfl ?_
  refine z_aload_n S d_law_576 rfl 3 rfl 577 rfl ?_
  refine z_iload_n S d_law_577 rfl 0 rfl 578 rfl ?_
  refine z_iconst S d_law_578 1 (by decide) 579 rfl ?_
  refine z_iadd S d_law_579 580 rfl ?_
  refine l_sld S hX hbl (Nat.not_le.mpr hbl) (fun _ _ h => h.2.2) (sc_in (k := 1) hL (by omega)) d_law_580 581 rfl ?_
  refine l_call1 S hK hA1 hx12 (As := [.int (xs ((nI (1 + 5 * t)) + 1).toNatClampNeg)]) (rest := []) (c_Store_result hJ1 ) (cw_Store_result S.2.2.2.2 w_527 rfl rfl ⟨(Nat.le_of_ble_eq_true rfl), (Nat.le_of_ble_eq_true rfl)⟩) rl_0 kC_0 rfl rfl rfl (Nat.le_of_ble_eq_true rfl) (Nat.le_of_ble_eq_true rfl) (Nat.le_of_ble_eq_true rfl) d_law_581 584 rfl [.int (v_Store_result (s 2 3 ((xs ((nI (1 + 5 * t)) + 1).toNatClampNeg)).toNatClampNeg) (xs ((nI (1 + 5 * t)) + 1).toNatClampNeg))] rfl ?_
  refine z_aload_n S d_law_584 rfl 1 rfl 585 rfl ?_
  refine z_aload_n S d_law_585 rfl 3 rfl 586 rfl ?_
  refine z_iload_n S d_law_586 rfl 0 rfl 587 rfl ?_
  refine z_iconst S d_law_587 1 (by decide) 588 rfl ?_
  refine z_iadd S d_law_588 589 rfl ?_
  refine l_sld S hX hbl (Nat.not_le.mpr hbl) (fun _ _ h => h.2.2) (sc_in (k := 1) hL (by omega)) d_law_589 590 rfl ?_
  refine l_call2 S hK hA2 (fun q h1 h2 => hx12 q h2 h1) (As := [.int (xs ((nI (1 + 5 * t)) + 1).toNatClampNeg)]) (rest := [.int (v_Store_result (s 2 3 ((xs ((nI (1 + 5 * t)) + 1).toNatClampNeg)).toNatClampNeg) (xs ((nI (1 + 5 * t)) + 1).toNatClampNeg))]) (c_Model_result hJ2 ) (cw_Model_result S.2.2.2.2 w_806 rfl rfl ⟨(Nat.le_of_ble_eq_true rfl), (Nat.le_of_ble_eq_true rfl)⟩) rm_0 rC_0 rfl rfl rfl (Nat.le_of_ble_eq_true rfl) (Nat.le_of_ble_eq_true rfl) (Nat.le_of_ble_eq_true rfl) d_law_590 593 rfl [.int (v_Model_result (r 24 0 ((xs ((nI (1 + 5 * t)) + 1).toNatClampNeg)).toNatClampNeg) (xs ((nI (1 + 5 * t)) + 1).toNatClampNeg)), .int (v_Store_result (s 2 3 ((xs ((nI (1 + 5 * t)) + 1).toNatClampNeg)).toNatClampNeg) (xs ((nI (1 + 5 * t)) + 1).toNatClampNeg))] rfl ?_
  have hs := hst (xs ((nI (1 + 5 * t)) + 1).toNatClampNeg)
  refine z_icmp_eq S d_law_593 598 (by decide) 596 rfl (fun h9 => ?_) (fun h9 => absurd hs.1 h9)
  exact kk _ _ _ hs.2
set_option maxHeartbeats 4000000 in
set_option maxRecDepth 100000 in
theorem law_loop {p : Program} {l : Launch} {e : Env} {s₀ : State} {m : MethodId} {below : List Frame} {meth : Method} {c : Code} {b L : Nat} {xs : Nat → Int32} {D : va_G} {K : Nat → ClassId} {n : Nat} {a1 a2 : Nat → Nat → Nat} {c0 : Cond} {J : Nat → S3 → (Nat → Nat) → S3 → Prop} (S : CallFix p m c code 4 s₀ #[Value.ref b] (c0 :: zWs) "LeasedViewStoreLaw") (hK : va_K D zCl (zTys K) s₀) (hX : va_X b L xs s₀ s₀.heap) (hbl : b < s₀.heap.size) (hL : L ≤ 2561) (hn5 : n ≤ 5) (hJ1 : zw_J (cRL n) a1) (hJ2 : zw_J rRL a2) (hA1 : ∀ q, zw_A (cRL n) a1 q → s₀.heap.size ≤ q) (hA2 : ∀ q, zw_A rRL a2 q → s₀.heap.size ≤ q) (hx12 : ∀ q, zw_A rRL a2 q → ¬ zw_A (cRL n) a1 q) (hret : meth.sig.returnType = ret) (hlk : meth.locks = false) (hops : opsOK n J) : ∀ (k t : Nat) (s : S3) (π : Nat → Nat) (r : S3), L ≤ 5 * (t + k) + 5 → t ≤ 512 → J t s π r → zG p l e room_1 s₀ m #[Value.ref b] below meth c 4 (lw_Z below #[Value.ref b] s₀) (lI D (cRL n) a1 (kC K a1 n s π) rRL a2 (rC K a2 r) s₀.heap) 320 11326 28 [(3, .int (nI (1 + 5 * t))), (2, .ref (a2 0 0)), (1, .ref (a1 0 0)), (0, .ref b)] [] := by
  intro k
  induction k with
  | zero =>
    intro t s π r hk ht hJ
    refine z_iload_n S d_law_28 rfl 0 rfl 29 rfl ?_
    refine z_aload_n S d_law_29 rfl 3 rfl 30 rfl ?_
    refine l_slen S hX hbl (Nat.not_le.mpr hbl) (fun _ _ h => h.2.2) d_law_30 31 rfl ?_
    refine z_iconst S d_law_31 5 (by decide) 32 rfl ?_
    refine z_isub S d_law_32 33 rfl ?_
    refine z_icmp_gt S d_law_33 604 (by decide) 36 rfl (fun h1 => ?_) (fun h1 => ?_)
    · refine z_iconst S d_law_604 1 (by decide) 605 rfl ?_
      intro H locs ls hI hl
      exact va_forget (fun q hq => hI.2.2.2.2 q hq) (W.widen (k := 600000) (n := 7302250) (by omega) (by omega) (lw_ret S.1 S.2.1 hret hlk d_law_605))
    · exact absurd (len_lt hL (by omega) (by omega) (by omega)) h1
  | succ k ih =>
    intro t s π r hk ht hJ
    refine z_iload_n S d_law_28 rfl 0 rfl 29 rfl ?_
    refine z_aload_n S d_law_29 rfl 3 rfl 30 rfl ?_
    refine l_slen S hX hbl (Nat.not_le.mpr hbl) (fun _ _ h => h.2.2) d_law_30 31 rfl ?_
    refine z_iconst S d_law_31 5 (by decide) 32 rfl ?_
    refine z_isub S d_law_32 33 rfl ?_
    refine z_icmp_gt S d_law_33 604 (by decide) 36 rfl (fun h1 => ?_) (fun h1 => ?_)
    · refine z_iconst S d_law_604 1 (by decide) 605 rfl ?_
      intro H locs ls hI hl
      exact va_forget (fun q hq => hI.2.2.2.2 q hq) (W.widen (k := 600000) (n := 7302250) (by omega) (by omega) (lw_ret S.1 S.2.1 hret hlk d_law_605))
    · have htL : 1 + 5 * t + 5 ≤ L := by
        by_cases h : 1 + 5 * t + 5 ≤ L
        · exact h
        · exact absurd (len_lt hL (by omega) (by omega) (by omega)) h1
      have ht5 : t < 512 := by omega
      obtain ⟨hC, hR, hid, hsteps⟩ := hops t s π r ht5 hJ
      have kk : ∀ (s' : S3) (π' : Nat → Nat) (r' : S3), J (t + 1) s' π' r' → zG p l e room_1 s₀ m #[Value.ref b] below meth c 4 (lw_Z below #[Value.ref b] s₀) (lI D (cRL n) a1 (kC K a1 n s' π') rRL a2 (rC K a2 r') s₀.heap) 320 11326 598 [(3, .int (nI (1 + 5 * t))), (2, .ref (a2 0 0)), (1, .ref (a1 0 0)), (0, .ref b)] [] := by
        intro s' π' r' hJ'
        refine z_iinc S d_law_598 0 rfl (nI_i5 _) (Nat.le_of_ble_eq_true rfl) [(3, .int (nI (1 + 5 * t + 5))), (2, .ref (a2 0 0)), (1, .ref (a1 0 0)), (0, .ref b)] rfl 601 rfl ?_
        refine z_goto S d_law_601 28 (by decide) ?_
        rw [show 1 + 5 * t + 5 = 1 + 5 * (t + 1) by omega]
        exact ih (t + 1) s' π' r' (by omega) (by omega) hJ'
      refine z_aload_n S d_law_36 rfl 3 rfl 37 rfl ?_
      refine z_iload_n S d_law_37 rfl 0 rfl 38 rfl ?_
      refine l_sld S hX hbl (Nat.not_le.mpr hbl) (fun _ _ h => h.2.2) (nI_in (by omega) (by omega)) d_law_38 39 rfl ?_
      refine z_bipush S d_law_39 31 (by decide) 41 rfl ?_
      refine z_iand S d_law_41 42 rfl ?_
      generalize xs (nI (1 + 5 * t)).toNatClampNeg &&& 31 = op
      by_cases g0 : op = 0
      · refine z_tableIn S d_law_42 (by rw [g0]; decide) (by rw [g0]; decide) (by rw [g0]; rfl) 128 (by decide) ?_
        exact law_advance S hK hX hbl hL hn5 hJ1 hJ2 hA1 hA2 hx12 htL hC hR (hsteps.1) kk
      by_cases g1 : op = 1
      · refine z_tableIn S d_law_42 (by rw [g1]; decide) (by rw [g1]; decide) (by rw [g1]; rfl) 151 (by decide) ?_
        exact law_skew S hK hX hbl hL hn5 hJ1 hJ2 hA1 hA2 hx12 htL hC hR (hsteps.2.1) kk
      by_cases g2 : op = 2
      · refine z_tableIn S d_law_42 (by rw [g2]; decide) (by rw [g2]; decide) (by rw [g2]; rfl) 184 (by decide) ?_
        exact law_ping S hK hX hbl hL hn5 hJ1 hJ2 hA1 hA2 hx12 htL hC hR (hsteps.2.2.1) kk
      by_cases g3 : op = 3
      · refine z_tableIn S d_law_42 (by rw [g3]; decide) (by rw [g3]; decide) (by rw [g3]; rfl) 207 (by decide) ?_
        exact law_check S hK hX hbl hL hn5 hJ1 hJ2 hA1 hA2 hx12 htL hC hR (hsteps.2.2.2.1) kk
      by_cases g4 : op = 4
      · refine z_tableIn S d_law_42 (by rw [g4]; decide) (by rw [g4]; decide) (by rw [g4]; rfl) 220 (by decide) ?_
        exact law_push S hK hX hbl hL hn5 hJ1 hJ2 hA1 hA2 hx12 htL hC hR (hsteps.2.2.2.2.1) kk
      by_cases g5 : op = 5
      · refine z_tableIn S d_law_42 (by rw [g5]; decide) (by rw [g5]; decide) (by rw [g5]; rfl) 243 (by decide) ?_
        exact law_begin S hK hX hbl hL hn5 hJ1 hJ2 hA1 hA2 hx12 htL hC hR (hsteps.2.2.2.2.2.1) kk
      by_cases g6 : op = 6
      · refine z_tableIn S d_law_42 (by rw [g6]; decide) (by rw [g6]; decide) (by rw [g6]; rfl) 312 (by decide) ?_
        exact law_send S hK hX hbl hL hn5 hJ1 hJ2 hA1 hA2 hx12 htL hC hR (hsteps.2.2.2.2.2.2.1) kk
      by_cases g7 : op = 7
      · refine z_tableIn S d_law_42 (by rw [g7]; decide) (by rw [g7]; decide) (by rw [g7]; rfl) 345 (by decide) ?_
        exact law_deliver S hK hX hbl hL hn5 hJ1 hJ2 hA1 hA2 hx12 htL hC hR (hsteps.2.2.2.2.2.2.2.1) kk
      by_cases g8 : op = 8
      · refine z_tableIn S d_law_42 (by rw [g8]; decide) (by rw [g8]; decide) (by rw [g8]; rfl) 368 (by decide) ?_
        exact law_lose S hK hX hbl hL hn5 hJ1 hJ2 hA1 hA2 hx12 htL hC hR (hsteps.2.2.2.2.2.2.2.2.1) kk
      by_cases g9 : op = 9
      · refine z_tableIn S d_law_42 (by rw [g9]; decide) (by rw [g9]; decide) (by rw [g9]; rfl) 391 (by decide) ?_
        exact law_crash S hK hX hbl hL hn5 hJ1 hJ2 hA1 hA2 hx12 htL hC hR (hsteps.2.2.2.2.2.2.2.2.2.1) kk
      by_cases g10 : op = 10
      · refine z_tableIn S d_law_42 (by rw [g10]; decide) (by rw [g10]; decide) (by rw [g10]; rfl) 414 (by decide) ?_
        exact law_letters S hK hX hbl hL hn5 hJ1 hJ2 hA1 hA2 hx12 htL hC hR (hsteps.2.2.2.2.2.2.2.2.2.2.1) kk
      by_cases g11 : op = 11
      · refine z_tableIn S d_law_42 (by rw [g11]; decide) (by rw [g11]; decide) (by rw [g11]; rfl) 427 (by decide) ?_
        exact law_letter S hK hX hbl hL hn5 hJ1 hJ2 hA1 hA2 hx12 htL hC hR (hsteps.2.2.2.2.2.2.2.2.2.2.2.1) kk
      by_cases g12 : op = 12
      · refine z_tableIn S d_law_42 (by rw [g12]; decide) (by rw [g12]; decide) (by rw [g12]; rfl) 450 (by decide) ?_
        exact law_view S hK hX hbl hL hn5 hJ1 hJ2 hA1 hA2 hx12 htL hC hR (hsteps.2.2.2.2.2.2.2.2.2.2.2.2.1) kk
      by_cases g13 : op = 13
      · refine z_tableIn S d_law_42 (by rw [g13]; decide) (by rw [g13]; decide) (by rw [g13]; rfl) 473 (by decide) ?_
        exact law_role S hK hX hbl hL hn5 hJ1 hJ2 hA1 hA2 hx12 htL hC hR (hsteps.2.2.2.2.2.2.2.2.2.2.2.2.2.1) kk
      by_cases g14 : op = 14
      · refine z_tableIn S d_law_42 (by rw [g14]; decide) (by rw [g14]; decide) (by rw [g14]; rfl) 496 (by decide) ?_
        exact law_cell S hK hX hbl hL hn5 hJ1 hJ2 hA1 hA2 hx12 htL hC hR (hsteps.2.2.2.2.2.2.2.2.2.2.2.2.2.2.1) kk
      by_cases g15 : op = 15
      · refine z_tableIn S d_law_42 (by rw [g15]; decide) (by rw [g15]; decide) (by rw [g15]; rfl) 529 (by decide) ?_
        exact law_count S hK hX hbl hL hn5 hJ1 hJ2 hA1 hA2 hx12 htL hC hR (hsteps.2.2.2.2.2.2.2.2.2.2.2.2.2.2.2.1) kk
      by_cases g16 : op = 16
      · refine z_tableIn S d_law_42 (by rw [g16]; decide) (by rw [g16]; decide) (by rw [g16]; rfl) 552 (by decide) ?_
        exact law_finished S hK hX hbl hL hn5 hJ1 hJ2 hA1 hA2 hx12 htL hC hR (hsteps.2.2.2.2.2.2.2.2.2.2.2.2.2.2.2.2.1) kk
      by_cases g17 : op = 17
      · refine z_tableIn S d_law_42 (by rw [g17]; decide) (by rw [g17]; decide) (by rw [g17]; rfl) 575 (by decide) ?_
        exact law_result S hK hX hbl hL hn5 hJ1 hJ2 hA1 hA2 hx12 htL hC hR (hsteps.2.2.2.2.2.2.2.2.2.2.2.2.2.2.2.2.2) kk
      refine z_tableOut S d_law_42 (z_sw0_17 g0 g1 g2 g3 g4 g5 g6 g7 g8 g9 g10 g11 g12 g13 g14 g15 g16 g17) 598 (by decide) ?_
      exact kk s π r hid
