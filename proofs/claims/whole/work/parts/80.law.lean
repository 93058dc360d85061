/-! THE CLAIM OUT OF ONE WALK OF THE LAW'S BODY. Your part is whole_start (and what it stands on); all else here is the same for every law, but numbers. -/
def R_law : String := "UsageProofsLaw"
def lw_P (b : Addr) (xs : List Int32) (args : Array Value) (s : State) : Prop := args = #[.ref b] ∧ s.IntsAt b xs ∧ xs.length ≤ 3072 ∧ (Jvm.Cond.and given_1 narrow_1).before args s = true
def lw_Q (_ : Array Value) (s : State) (o : Outcome) (t : State) : Prop := o = .returned (some (.int 1)) ∧ Framed s o t [] 600000 7302249
def lw_Z (below : List Frame) (a : Array Value) (s : State) : State → Prop := fun t => ∃ o, t.status = .running ∧ Ended t below o ∧ lw_Q a s o t
/-- the law's own end, with 1 on the stack, nothing written that was there before, its room as the claim has it -/
theorem lw_ret {p : Program} {l : Launch} {e : Env} {s : State} {m : MethodId} {below : List Frame} {meth : Method} {c : Code} {b : Nat} (hx : p.tables.exec = Jvm.exec) (hb : c.code = code) (hr : meth.sig.returnType = ret) (hlocks : meth.locks = false) {pc : Nat} {H : Heap} {ls : Array Slot} (hdg : decode code pc = .ok (.ireturn, 1)) : W p l e room_1 s m #[Value.ref b] below meth c H [] 600000 7302249 (lw_Z below #[Value.ref b] s) (F0 m pc ls [.int 1]) := by
  intro T hT X
  obtain ⟨fs, hret, hrun, hended, hW, hframe⟩ := X.leave (v := some (.int 1)) (hlocks := hlocks) (fun h => by rw [hr] at h; cases h)
  have hmeth' : T.vm.method? m = some meth := X.method'
  refine ⟨T.setFrames fs, ?_, .returned (some (.int 1)), hrun, hended, rfl, ⟨_, rfl⟩, hW, hframe⟩
  jvm_step X.here [X.here.top, hx, hb, hdg, hmeth', hr, ret, narrow_b1]
  (try refine ⟨rfl, ?_⟩); (try refine ⟨rfl, ?_⟩)
  first | (intro acts; rw [hret _ acts rfl rfl rfl]) | rw [hret _ _ rfl rfl rfl]
  exact Steps.refl _
/-- what holds at the law's entry: the machine, the code, the tables' words (any of lw_tbl by 'hts w (by decide +kernel)'), the script of L ints xs at the cell b, what the Statement gives of the start (any of its parts by flat_of_before) -/
def lw_At (p : Program) (s : State) (m : MethodId) (meth : Method) (c : Code) (b L : Nat) (xs : Nat → Int32) : Prop :=
  p.tables.exec = Jvm.exec ∧ c.code = code ∧ meth.sig.returnType = ret ∧ c.maxLocals = 4 ∧ s.vm.findClass R_law = some m.cls ∧ (∀ w ∈ lw_tbl, w.before #[Value.ref b] s = true) ∧ va_X b L xs s s.heap ∧ b < s.heap.size ∧ meth.locks = false ∧ (Jvm.Cond.and given_1 narrow_1).before #[Value.ref b] s = true

set_option maxRecDepth 20000 in
theorem tb_Nb_in : ∀ q ∈ tb_Nb, Jvm.Cond.methodLinkNest q.1 q.2.1 q.2.2.1 q.2.2.2 ∈ lw_tbl := (List.forall_mem_cons.mpr ⟨tb_at_ok (p := 1027) (by decide +kernel), (List.forall_mem_cons.mpr ⟨tb_at_ok (p := 1061) (by decide +kernel), (List.forall_mem_cons.mpr ⟨tb_at_ok (p := 1197) (by decide +kernel), (List.forall_mem_cons.mpr ⟨tb_at_ok (p := 2028) (by decide +kernel), (List.forall_mem_cons.mpr ⟨tb_at_ok (p := 2054) (by decide +kernel), (List.forall_mem_cons.mpr ⟨tb_at_ok (p := 2081) (by decide +kernel), (List.forall_mem_cons.mpr ⟨tb_at_ok (p := 2110) (by decide +kernel), (List.forall_mem_cons.mpr ⟨tb_at_ok (p := 3102) (by decide +kernel), (List.forall_mem_cons.mpr ⟨tb_at_ok (p := 3177) (by decide +kernel), (List.forall_mem_cons.mpr ⟨tb_at_ok (p := 3239) (by decide +kernel), (List.forall_mem_cons.mpr ⟨tb_at_ok (p := 4004) (by decide +kernel), (List.forall_mem_cons.mpr ⟨tb_at_ok (p := 4016) (by decide +kernel), (List.forall_mem_cons.mpr ⟨tb_at_ok (p := 4034) (by decide +kernel), (List.forall_mem_cons.mpr ⟨tb_at_ok (p := 4051) (by decide +kernel), (List.forall_mem_cons.mpr ⟨tb_at_ok (p := 4110) (by decide +kernel), (List.forall_mem_cons.mpr ⟨tb_at_ok (p := 4121) (by decide +kernel), (List.forall_mem_cons.mpr ⟨tb_at_ok (p := 4186) (by decide +kernel), (List.forall_mem_cons.mpr ⟨tb_at_ok (p := 4199) (by decide +kernel), (List.forall_mem_cons.mpr ⟨tb_at_ok (p := 4229) (by decide +kernel), (List.forall_mem_cons.mpr ⟨tb_at_ok (p := 5018) (by decide +kernel), (List.forall_mem_cons.mpr ⟨tb_at_ok (p := 5023) (by decide +kernel), (List.forall_mem_cons.mpr ⟨tb_at_ok (p := 5036) (by decide +kernel), (List.forall_mem_cons.mpr ⟨tb_at_ok (p := 5089) (by decide +kernel), (List.forall_mem_cons.mpr ⟨tb_at_ok (p := 5094) (by decide +kernel), (fun _ h => absurd h List.not_mem_nil)⟩)⟩)⟩)⟩)⟩)⟩)⟩)⟩)⟩)⟩)⟩)⟩)⟩)⟩)⟩)⟩)⟩)⟩)⟩)⟩)⟩)⟩)⟩)⟩)
theorem dl_0 : decode code 0 = .ok (.new 7, 3) := by decide +kernel
theorem dl_3 : decode code 3 = .ok (.dup, 1) := by decide +kernel
theorem dl_4 : decode code 4 = .ok (.invokespecial 9, 3) := by decide +kernel
theorem dl_7 : decode code 7 = .ok (.astore_n 1, 1) := by decide +kernel
theorem dl_8 : decode code 8 = .ok (.new 10, 3) := by decide +kernel
theorem dl_11 : decode code 11 = .ok (.dup, 1) := by decide +kernel
theorem dl_12 : decode code 12 = .ok (.invokespecial 12, 3) := by decide +kernel
theorem dl_15 : decode code 15 = .ok (.astore_n 2, 1) := by decide +kernel
theorem dl_16 : decode code 16 = .ok (.iconst 0, 1) := by decide +kernel
theorem dl_17 : decode code 17 = .ok (.istore_n 3, 1) := by decide +kernel
theorem dl_18 : decode code 18 = .ok (.iload_n 3, 1) := by decide +kernel
theorem dl_19 : decode code 19 = .ok (.aload_n 0, 1) := by decide +kernel
theorem dl_20 : decode code 20 = .ok (.arraylength, 1) := by decide +kernel
theorem dl_21 : decode code 21 = .ok (.bipush 6, 2) := by decide +kernel
theorem dl_23 : decode code 23 = .ok (.isub, 1) := by decide +kernel
theorem dl_24 : decode code 24 = .ok (.if_icmp .gt 518, 3) := by decide +kernel
theorem dl_27 : decode code 27 = .ok (.aload_n 0, 1) := by decide +kernel
theorem dl_28 : decode code 28 = .ok (.iload_n 3, 1) := by decide +kernel
theorem dl_29 : decode code 29 = .ok (.iaload, 1) := by decide +kernel
theorem dl_30 : decode code 30 = .ok (.bipush 15, 2) := by decide +kernel
theorem dl_32 : decode code 32 = .ok (.iand, 1) := by decide +kernel
theorem dl_33 : decode code 33 = .ok (.tableswitch 503 0 13 #[71, 134, 147, 160, 193, 226, 239, 292, 355, 368, 401, 444, 457, 480], 71) := by decide +kernel
theorem dl_104 : decode code 104 = .ok (.aload_n 1, 1) := by decide +kernel
theorem dl_105 : decode code 105 = .ok (.aload_n 0, 1) := by decide +kernel
theorem dl_106 : decode code 106 = .ok (.iload_n 3, 1) := by decide +kernel
theorem dl_107 : decode code 107 = .ok (.iconst 1, 1) := by decide +kernel
theorem dl_108 : decode code 108 = .ok (.iadd, 1) := by decide +kernel
theorem dl_109 : decode code 109 = .ok (.iaload, 1) := by decide +kernel
theorem dl_110 : decode code 110 = .ok (.i2l, 1) := by decide +kernel
theorem dl_111 : decode code 111 = .ok (.bipush 32, 2) := by decide +kernel
theorem dl_113 : decode code 113 = .ok (.lshl, 1) := by decide +kernel
theorem dl_114 : decode code 114 = .ok (.aload_n 0, 1) := by decide +kernel
theorem dl_115 : decode code 115 = .ok (.iload_n 3, 1) := by decide +kernel
theorem dl_116 : decode code 116 = .ok (.iconst 2, 1) := by decide +kernel
theorem dl_117 : decode code 117 = .ok (.iadd, 1) := by decide +kernel
theorem dl_118 : decode code 118 = .ok (.iaload, 1) := by decide +kernel
theorem dl_119 : decode code 119 = .ok (.i2l, 1) := by decide +kernel
theorem dl_120 : decode code 120 = .ok (.ldc2_w 13, 3) := by decide +kernel
theorem dl_123 : decode code 123 = .ok (.land, 1) := by decide +kernel
theorem dl_124 : decode code 124 = .ok (.lor, 1) := by decide +kernel
theorem dl_125 : decode code 125 = .ok (.aload_n 0, 1) := by decide +kernel
theorem dl_126 : decode code 126 = .ok (.iload_n 3, 1) := by decide +kernel
theorem dl_127 : decode code 127 = .ok (.iconst 3, 1) := by decide +kernel
theorem dl_128 : decode code 128 = .ok (.iadd, 1) := by decide +kernel
theorem dl_129 : decode code 129 = .ok (.iaload, 1) := by decide +kernel
theorem dl_130 : decode code 130 = .ok (.invokevirtual 15, 3) := by decide +kernel
theorem dl_133 : decode code 133 = .ok (.aload_n 2, 1) := by decide +kernel
theorem dl_134 : decode code 134 = .ok (.aload_n 0, 1) := by decide +kernel
theorem dl_135 : decode code 135 = .ok (.iload_n 3, 1) := by decide +kernel
theorem dl_136 : decode code 136 = .ok (.iconst 1, 1) := by decide +kernel
theorem dl_137 : decode code 137 = .ok (.iadd, 1) := by decide +kernel
theorem dl_138 : decode code 138 = .ok (.iaload, 1) := by decide +kernel
theorem dl_139 : decode code 139 = .ok (.i2l, 1) := by decide +kernel
theorem dl_140 : decode code 140 = .ok (.bipush 32, 2) := by decide +kernel
theorem dl_142 : decode code 142 = .ok (.lshl, 1) := by decide +kernel
theorem dl_143 : decode code 143 = .ok (.aload_n 0, 1) := by decide +kernel
theorem dl_144 : decode code 144 = .ok (.iload_n 3, 1) := by decide +kernel
theorem dl_145 : decode code 145 = .ok (.iconst 2, 1) := by decide +kernel
theorem dl_146 : decode code 146 = .ok (.iadd, 1) := by decide +kernel
theorem dl_147 : decode code 147 = .ok (.iaload, 1) := by decide +kernel
theorem dl_148 : decode code 148 = .ok (.i2l, 1) := by decide +kernel
theorem dl_149 : decode code 149 = .ok (.ldc2_w 13, 3) := by decide +kernel
theorem dl_152 : decode code 152 = .ok (.land, 1) := by decide +kernel
theorem dl_153 : decode code 153 = .ok (.lor, 1) := by decide +kernel
theorem dl_154 : decode code 154 = .ok (.aload_n 0, 1) := by decide +kernel
theorem dl_155 : decode code 155 = .ok (.iload_n 3, 1) := by decide +kernel
theorem dl_156 : decode code 156 = .ok (.iconst 3, 1) := by decide +kernel
theorem dl_157 : decode code 157 = .ok (.iadd, 1) := by decide +kernel
theorem dl_158 : decode code 158 = .ok (.iaload, 1) := by decide +kernel
theorem dl_159 : decode code 159 = .ok (.invokevirtual 19, 3) := by decide +kernel
theorem dl_162 : decode code 162 = .ok (.if_icmp .eq 374, 3) := by decide +kernel
theorem dl_165 : decode code 165 = .ok (.iconst 0, 1) := by decide +kernel
theorem dl_166 : decode code 166 = .ok (.ireturn, 1) := by decide +kernel
theorem dl_167 : decode code 167 = .ok (.aload_n 1, 1) := by decide +kernel
theorem dl_168 : decode code 168 = .ok (.invokevirtual 20, 3) := by decide +kernel
theorem dl_171 : decode code 171 = .ok (.aload_n 2, 1) := by decide +kernel
theorem dl_172 : decode code 172 = .ok (.invokevirtual 24, 3) := by decide +kernel
theorem dl_175 : decode code 175 = .ok (.if_icmp .eq 361, 3) := by decide +kernel
theorem dl_178 : decode code 178 = .ok (.iconst 0, 1) := by decide +kernel
theorem dl_179 : decode code 179 = .ok (.ireturn, 1) := by decide +kernel
theorem dl_180 : decode code 180 = .ok (.aload_n 1, 1) := by decide +kernel
theorem dl_181 : decode code 181 = .ok (.invokevirtual 25, 3) := by decide +kernel
theorem dl_184 : decode code 184 = .ok (.aload_n 2, 1) := by decide +kernel
theorem dl_185 : decode code 185 = .ok (.invokevirtual 28, 3) := by decide +kernel
theorem dl_188 : decode code 188 = .ok (.if_icmp .eq 348, 3) := by decide +kernel
theorem dl_191 : decode code 191 = .ok (.iconst 0, 1) := by decide +kernel
theorem dl_192 : decode code 192 = .ok (.ireturn, 1) := by decide +kernel
theorem dl_193 : decode code 193 = .ok (.aload_n 1, 1) := by decide +kernel
theorem dl_194 : decode code 194 = .ok (.aload_n 0, 1) := by decide +kernel
theorem dl_195 : decode code 195 = .ok (.iload_n 3, 1) := by decide +kernel
theorem dl_196 : decode code 196 = .ok (.iconst 1, 1) := by decide +kernel
theorem dl_197 : decode code 197 = .ok (.iadd, 1) := by decide +kernel
theorem dl_198 : decode code 198 = .ok (.iaload, 1) := by decide +kernel
theorem dl_199 : decode code 199 = .ok (.aload_n 0, 1) := by decide +kernel
theorem dl_200 : decode code 200 = .ok (.iload_n 3, 1) := by decide +kernel
theorem dl_201 : decode code 201 = .ok (.iconst 2, 1) := by decide +kernel
theorem dl_202 : decode code 202 = .ok (.iadd, 1) := by decide +kernel
theorem dl_203 : decode code 203 = .ok (.iaload, 1) := by decide +kernel
theorem dl_204 : decode code 204 = .ok (.invokevirtual 29, 3) := by decide +kernel
theorem dl_207 : decode code 207 = .ok (.aload_n 2, 1) := by decide +kernel
theorem dl_208 : decode code 208 = .ok (.aload_n 0, 1) := by decide +kernel
theorem dl_209 : decode code 209 = .ok (.iload_n 3, 1) := by decide +kernel
theorem dl_210 : decode code 210 = .ok (.iconst 1, 1) := by decide +kernel
theorem dl_211 : decode code 211 = .ok (.iadd, 1) := by decide +kernel
theorem dl_212 : decode code 212 = .ok (.iaload, 1) := by decide +kernel
theorem dl_213 : decode code 213 = .ok (.aload_n 0, 1) := by decide +kernel
theorem dl_214 : decode code 214 = .ok (.iload_n 3, 1) := by decide +kernel
theorem dl_215 : decode code 215 = .ok (.iconst 2, 1) := by decide +kernel
theorem dl_216 : decode code 216 = .ok (.iadd, 1) := by decide +kernel
theorem dl_217 : decode code 217 = .ok (.iaload, 1) := by decide +kernel
theorem dl_218 : decode code 218 = .ok (.invokevirtual 33, 3) := by decide +kernel
theorem dl_221 : decode code 221 = .ok (.if_icmp .eq 315, 3) := by decide +kernel
theorem dl_224 : decode code 224 = .ok (.iconst 0, 1) := by decide +kernel
theorem dl_225 : decode code 225 = .ok (.ireturn, 1) := by decide +kernel
theorem dl_226 : decode code 226 = .ok (.aload_n 1, 1) := by decide +kernel
theorem dl_227 : decode code 227 = .ok (.aload_n 0, 1) := by decide +kernel
theorem dl_228 : decode code 228 = .ok (.iload_n 3, 1) := by decide +kernel
theorem dl_229 : decode code 229 = .ok (.iconst 1, 1) := by decide +kernel
theorem dl_230 : decode code 230 = .ok (.iadd, 1) := by decide +kernel
theorem dl_231 : decode code 231 = .ok (.iaload, 1) := by decide +kernel
theorem dl_232 : decode code 232 = .ok (.aload_n 0, 1) := by decide +kernel
theorem dl_233 : decode code 233 = .ok (.iload_n 3, 1) := by decide +kernel
theorem dl_234 : decode code 234 = .ok (.iconst 2, 1) := by decide +kernel
theorem dl_235 : decode code 235 = .ok (.iadd, 1) := by decide +kernel
theorem dl_236 : decode code 236 = .ok (.iaload, 1) := by decide +kernel
theorem dl_237 : decode code 237 = .ok (.invokevirtual 34, 3) := by decide +kernel
theorem dl_240 : decode code 240 = .ok (.aload_n 2, 1) := by decide +kernel
theorem dl_241 : decode code 241 = .ok (.aload_n 0, 1) := by decide +kernel
theorem dl_242 : decode code 242 = .ok (.iload_n 3, 1) := by decide +kernel
theorem dl_243 : decode code 243 = .ok (.iconst 1, 1) := by decide +kernel
theorem dl_244 : decode code 244 = .ok (.iadd, 1) := by decide +kernel
theorem dl_245 : decode code 245 = .ok (.iaload, 1) := by decide +kernel
theorem dl_246 : decode code 246 = .ok (.aload_n 0, 1) := by decide +kernel
theorem dl_247 : decode code 247 = .ok (.iload_n 3, 1) := by decide +kernel
theorem dl_248 : decode code 248 = .ok (.iconst 2, 1) := by decide +kernel
theorem dl_249 : decode code 249 = .ok (.iadd, 1) := by decide +kernel
theorem dl_250 : decode code 250 = .ok (.iaload, 1) := by decide +kernel
theorem dl_251 : decode code 251 = .ok (.invokevirtual 37, 3) := by decide +kernel
theorem dl_254 : decode code 254 = .ok (.if_icmp .eq 282, 3) := by decide +kernel
theorem dl_257 : decode code 257 = .ok (.iconst 0, 1) := by decide +kernel
theorem dl_258 : decode code 258 = .ok (.ireturn, 1) := by decide +kernel
theorem dl_259 : decode code 259 = .ok (.aload_n 1, 1) := by decide +kernel
theorem dl_260 : decode code 260 = .ok (.invokevirtual 38, 3) := by decide +kernel
theorem dl_263 : decode code 263 = .ok (.aload_n 2, 1) := by decide +kernel
theorem dl_264 : decode code 264 = .ok (.invokevirtual 41, 3) := by decide +kernel
theorem dl_267 : decode code 267 = .ok (.if_icmp .eq 269, 3) := by decide +kernel
theorem dl_270 : decode code 270 = .ok (.iconst 0, 1) := by decide +kernel
theorem dl_271 : decode code 271 = .ok (.ireturn, 1) := by decide +kernel
theorem dl_272 : decode code 272 = .ok (.aload_n 1, 1) := by decide +kernel
theorem dl_273 : decode code 273 = .ok (.aload_n 0, 1) := by decide +kernel
theorem dl_274 : decode code 274 = .ok (.iload_n 3, 1) := by decide +kernel
theorem dl_275 : decode code 275 = .ok (.iconst 1, 1) := by decide +kernel
theorem dl_276 : decode code 276 = .ok (.iadd, 1) := by decide +kernel
theorem dl_277 : decode code 277 = .ok (.iaload, 1) := by decide +kernel
theorem dl_278 : decode code 278 = .ok (.aload_n 0, 1) := by decide +kernel
theorem dl_279 : decode code 279 = .ok (.iload_n 3, 1) := by decide +kernel
theorem dl_280 : decode code 280 = .ok (.iconst 2, 1) := by decide +kernel
theorem dl_281 : decode code 281 = .ok (.iadd, 1) := by decide +kernel
theorem dl_282 : decode code 282 = .ok (.iaload, 1) := by decide +kernel
theorem dl_283 : decode code 283 = .ok (.aload_n 0, 1) := by decide +kernel
theorem dl_284 : decode code 284 = .ok (.iload_n 3, 1) := by decide +kernel
theorem dl_285 : decode code 285 = .ok (.iconst 3, 1) := by decide +kernel
theorem dl_286 : decode code 286 = .ok (.iadd, 1) := by decide +kernel
theorem dl_287 : decode code 287 = .ok (.iaload, 1) := by decide +kernel
theorem dl_288 : decode code 288 = .ok (.aload_n 0, 1) := by decide +kernel
theorem dl_289 : decode code 289 = .ok (.iload_n 3, 1) := by decide +kernel
theorem dl_290 : decode code 290 = .ok (.iconst 4, 1) := by decide +kernel
theorem dl_291 : decode code 291 = .ok (.iadd, 1) := by decide +kernel
theorem dl_292 : decode code 292 = .ok (.iaload, 1) := by decide +kernel
theorem dl_293 : decode code 293 = .ok (.invokevirtual 42, 3) := by decide +kernel
theorem dl_296 : decode code 296 = .ok (.aload_n 2, 1) := by decide +kernel
theorem dl_297 : decode code 297 = .ok (.aload_n 0, 1) := by decide +kernel
theorem dl_298 : decode code 298 = .ok (.iload_n 3, 1) := by decide +kernel
theorem dl_299 : decode code 299 = .ok (.iconst 1, 1) := by decide +kernel
theorem dl_300 : decode code 300 = .ok (.iadd, 1) := by decide +kernel
theorem dl_301 : decode code 301 = .ok (.iaload, 1) := by decide +kernel
theorem dl_302 : decode code 302 = .ok (.aload_n 0, 1) := by decide +kernel
theorem dl_303 : decode code 303 = .ok (.iload_n 3, 1) := by decide +kernel
theorem dl_304 : decode code 304 = .ok (.iconst 2, 1) := by decide +kernel
theorem dl_305 : decode code 305 = .ok (.iadd, 1) := by decide +kernel
theorem dl_306 : decode code 306 = .ok (.iaload, 1) := by decide +kernel
theorem dl_307 : decode code 307 = .ok (.aload_n 0, 1) := by decide +kernel
theorem dl_308 : decode code 308 = .ok (.iload_n 3, 1) := by decide +kernel
theorem dl_309 : decode code 309 = .ok (.iconst 3, 1) := by decide +kernel
theorem dl_310 : decode code 310 = .ok (.iadd, 1) := by decide +kernel
theorem dl_311 : decode code 311 = .ok (.iaload, 1) := by decide +kernel
theorem dl_312 : decode code 312 = .ok (.aload_n 0, 1) := by decide +kernel
theorem dl_313 : decode code 313 = .ok (.iload_n 3, 1) := by decide +kernel
theorem dl_314 : decode code 314 = .ok (.iconst 4, 1) := by decide +kernel
theorem dl_315 : decode code 315 = .ok (.iadd, 1) := by decide +kernel
theorem dl_316 : decode code 316 = .ok (.iaload, 1) := by decide +kernel
theorem dl_317 : decode code 317 = .ok (.invokevirtual 46, 3) := by decide +kernel
theorem dl_320 : decode code 320 = .ok (.if_icmp .eq 216, 3) := by decide +kernel
theorem dl_323 : decode code 323 = .ok (.iconst 0, 1) := by decide +kernel
theorem dl_324 : decode code 324 = .ok (.ireturn, 1) := by decide +kernel
theorem dl_325 : decode code 325 = .ok (.aload_n 1, 1) := by decide +kernel
theorem dl_326 : decode code 326 = .ok (.aload_n 0, 1) := by decide +kernel
theorem dl_327 : decode code 327 = .ok (.iload_n 3, 1) := by decide +kernel
theorem dl_328 : decode code 328 = .ok (.iconst 1, 1) := by decide +kernel
theorem dl_329 : decode code 329 = .ok (.iadd, 1) := by decide +kernel
theorem dl_330 : decode code 330 = .ok (.iaload, 1) := by decide +kernel
theorem dl_331 : decode code 331 = .ok (.aload_n 0, 1) := by decide +kernel
theorem dl_332 : decode code 332 = .ok (.iload_n 3, 1) := by decide +kernel
theorem dl_333 : decode code 333 = .ok (.iconst 2, 1) := by decide +kernel
theorem dl_334 : decode code 334 = .ok (.iadd, 1) := by decide +kernel
theorem dl_335 : decode code 335 = .ok (.iaload, 1) := by decide +kernel
theorem dl_336 : decode code 336 = .ok (.aload_n 0, 1) := by decide +kernel
theorem dl_337 : decode code 337 = .ok (.iload_n 3, 1) := by decide +kernel
theorem dl_338 : decode code 338 = .ok (.iconst 3, 1) := by decide +kernel
theorem dl_339 : decode code 339 = .ok (.iadd, 1) := by decide +kernel
theorem dl_340 : decode code 340 = .ok (.iaload, 1) := by decide +kernel
theorem dl_341 : decode code 341 = .ok (.aload_n 0, 1) := by decide +kernel
theorem dl_342 : decode code 342 = .ok (.iload_n 3, 1) := by decide +kernel
theorem dl_343 : decode code 343 = .ok (.iconst 4, 1) := by decide +kernel
theorem dl_344 : decode code 344 = .ok (.iadd, 1) := by decide +kernel
theorem dl_345 : decode code 345 = .ok (.iaload, 1) := by decide +kernel
theorem dl_346 : decode code 346 = .ok (.aload_n 0, 1) := by decide +kernel
theorem dl_347 : decode code 347 = .ok (.iload_n 3, 1) := by decide +kernel
theorem dl_348 : decode code 348 = .ok (.iconst 5, 1) := by decide +kernel
theorem dl_349 : decode code 349 = .ok (.iadd, 1) := by decide +kernel
theorem dl_350 : decode code 350 = .ok (.iaload, 1) := by decide +kernel
theorem dl_351 : decode code 351 = .ok (.invokevirtual 47, 3) := by decide +kernel
theorem dl_354 : decode code 354 = .ok (.aload_n 2, 1) := by decide +kernel
theorem dl_355 : decode code 355 = .ok (.aload_n 0, 1) := by decide +kernel
theorem dl_356 : decode code 356 = .ok (.iload_n 3, 1) := by decide +kernel
theorem dl_357 : decode code 357 = .ok (.iconst 1, 1) := by decide +kernel
theorem dl_358 : decode code 358 = .ok (.iadd, 1) := by decide +kernel
theorem dl_359 : decode code 359 = .ok (.iaload, 1) := by decide +kernel
theorem dl_360 : decode code 360 = .ok (.aload_n 0, 1) := by decide +kernel
theorem dl_361 : decode code 361 = .ok (.iload_n 3, 1) := by decide +kernel
theorem dl_362 : decode code 362 = .ok (.iconst 2, 1) := by decide +kernel
theorem dl_363 : decode code 363 = .ok (.iadd, 1) := by decide +kernel
theorem dl_364 : decode code 364 = .ok (.iaload, 1) := by decide +kernel
theorem dl_365 : decode code 365 = .ok (.aload_n 0, 1) := by decide +kernel
theorem dl_366 : decode code 366 = .ok (.iload_n 3, 1) := by decide +kernel
theorem dl_367 : decode code 367 = .ok (.iconst 3, 1) := by decide +kernel
theorem dl_368 : decode code 368 = .ok (.iadd, 1) := by decide +kernel
theorem dl_369 : decode code 369 = .ok (.iaload, 1) := by decide +kernel
theorem dl_370 : decode code 370 = .ok (.aload_n 0, 1) := by decide +kernel
theorem dl_371 : decode code 371 = .ok (.iload_n 3, 1) := by decide +kernel
theorem dl_372 : decode code 372 = .ok (.iconst 4, 1) := by decide +kernel
theorem dl_373 : decode code 373 = .ok (.iadd, 1) := by decide +kernel
theorem dl_374 : decode code 374 = .ok (.iaload, 1) := by decide +kernel
theorem dl_375 : decode code 375 = .ok (.aload_n 0, 1) := by decide +kernel
theorem dl_376 : decode code 376 = .ok (.iload_n 3, 1) := by decide +kernel
theorem dl_377 : decode code 377 = .ok (.iconst 5, 1) := by decide +kernel
theorem dl_378 : decode code 378 = .ok (.iadd, 1) := by decide +kernel
theorem dl_379 : decode code 379 = .ok (.iaload, 1) := by decide +kernel
theorem dl_380 : decode code 380 = .ok (.invokevirtual 51, 3) := by decide +kernel
theorem dl_383 : decode code 383 = .ok (.if_icmp .eq 153, 3) := by decide +kernel
theorem dl_386 : decode code 386 = .ok (.iconst 0, 1) := by decide +kernel
theorem dl_387 : decode code 387 = .ok (.ireturn, 1) := by decide +kernel
theorem dl_388 : decode code 388 = .ok (.aload_n 1, 1) := by decide +kernel
theorem dl_389 : decode code 389 = .ok (.invokevirtual 52, 3) := by decide +kernel
theorem dl_392 : decode code 392 = .ok (.aload_n 2, 1) := by decide +kernel
theorem dl_393 : decode code 393 = .ok (.invokevirtual 55, 3) := by decide +kernel
theorem dl_396 : decode code 396 = .ok (.if_icmp .eq 140, 3) := by decide +kernel
theorem dl_399 : decode code 399 = .ok (.iconst 0, 1) := by decide +kernel
theorem dl_400 : decode code 400 = .ok (.ireturn, 1) := by decide +kernel
theorem dl_401 : decode code 401 = .ok (.aload_n 1, 1) := by decide +kernel
theorem dl_402 : decode code 402 = .ok (.aload_n 0, 1) := by decide +kernel
theorem dl_403 : decode code 403 = .ok (.iload_n 3, 1) := by decide +kernel
theorem dl_404 : decode code 404 = .ok (.iconst 1, 1) := by decide +kernel
theorem dl_405 : decode code 405 = .ok (.iadd, 1) := by decide +kernel
theorem dl_406 : decode code 406 = .ok (.iaload, 1) := by decide +kernel
theorem dl_407 : decode code 407 = .ok (.aload_n 0, 1) := by decide +kernel
theorem dl_408 : decode code 408 = .ok (.iload_n 3, 1) := by decide +kernel
theorem dl_409 : decode code 409 = .ok (.iconst 2, 1) := by decide +kernel
theorem dl_410 : decode code 410 = .ok (.iadd, 1) := by decide +kernel
theorem dl_411 : decode code 411 = .ok (.iaload, 1) := by decide +kernel
theorem dl_412 : decode code 412 = .ok (.invokevirtual 56, 3) := by decide +kernel
theorem dl_415 : decode code 415 = .ok (.aload_n 2, 1) := by decide +kernel
theorem dl_416 : decode code 416 = .ok (.aload_n 0, 1) := by decide +kernel
theorem dl_417 : decode code 417 = .ok (.iload_n 3, 1) := by decide +kernel
theorem dl_418 : decode code 418 = .ok (.iconst 1, 1) := by decide +kernel
theorem dl_419 : decode code 419 = .ok (.iadd, 1) := by decide +kernel
theorem dl_420 : decode code 420 = .ok (.iaload, 1) := by decide +kernel
theorem dl_421 : decode code 421 = .ok (.aload_n 0, 1) := by decide +kernel
theorem dl_422 : decode code 422 = .ok (.iload_n 3, 1) := by decide +kernel
theorem dl_423 : decode code 423 = .ok (.iconst 2, 1) := by decide +kernel
theorem dl_424 : decode code 424 = .ok (.iadd, 1) := by decide +kernel
theorem dl_425 : decode code 425 = .ok (.iaload, 1) := by decide +kernel
theorem dl_426 : decode code 426 = .ok (.invokevirtual 59, 3) := by decide +kernel
theorem dl_429 : decode code 429 = .ok (.if_icmp .eq 107, 3) := by decide +kernel
theorem dl_432 : decode code 432 = .ok (.iconst 0, 1) := by decide +kernel
theorem dl_433 : decode code 433 = .ok (.ireturn, 1) := by decide +kernel
theorem dl_434 : decode code 434 = .ok (.aload_n 1, 1) := by decide +kernel
theorem dl_435 : decode code 435 = .ok (.aload_n 0, 1) := by decide +kernel
theorem dl_436 : decode code 436 = .ok (.iload_n 3, 1) := by decide +kernel
theorem dl_437 : decode code 437 = .ok (.iconst 1, 1) := by decide +kernel
theorem dl_438 : decode code 438 = .ok (.iadd, 1) := by decide +kernel
theorem dl_439 : decode code 439 = .ok (.iaload, 1) := by decide +kernel
theorem dl_440 : decode code 440 = .ok (.aload_n 0, 1) := by decide +kernel
theorem dl_441 : decode code 441 = .ok (.iload_n 3, 1) := by decide +kernel
theorem dl_442 : decode code 442 = .ok (.iconst 2, 1) := by decide +kernel
theorem dl_443 : decode code 443 = .ok (.iadd, 1) := by decide +kernel
theorem dl_444 : decode code 444 = .ok (.iaload, 1) := by decide +kernel
theorem dl_445 : decode code 445 = .ok (.aload_n 0, 1) := by decide +kernel
theorem dl_446 : decode code 446 = .ok (.iload_n 3, 1) := by decide +kernel
theorem dl_447 : decode code 447 = .ok (.iconst 3, 1) := by decide +kernel
theorem dl_448 : decode code 448 = .ok (.iadd, 1) := by decide +kernel
theorem dl_449 : decode code 449 = .ok (.iaload, 1) := by decide +kernel
theorem dl_450 : decode code 450 = .ok (.invokevirtual 60, 3) := by decide +kernel
theorem dl_453 : decode code 453 = .ok (.aload_n 2, 1) := by decide +kernel
theorem dl_454 : decode code 454 = .ok (.aload_n 0, 1) := by decide +kernel
theorem dl_455 : decode code 455 = .ok (.iload_n 3, 1) := by decide +kernel
theorem dl_456 : decode code 456 = .ok (.iconst 1, 1) := by decide +kernel
theorem dl_457 : decode code 457 = .ok (.iadd, 1) := by decide +kernel
theorem dl_458 : decode code 458 = .ok (.iaload, 1) := by decide +kernel
theorem dl_459 : decode code 459 = .ok (.aload_n 0, 1) := by decide +kernel
theorem dl_460 : decode code 460 = .ok (.iload_n 3, 1) := by decide +kernel
theorem dl_461 : decode code 461 = .ok (.iconst 2, 1) := by decide +kernel
theorem dl_462 : decode code 462 = .ok (.iadd, 1) := by decide +kernel
theorem dl_463 : decode code 463 = .ok (.iaload, 1) := by decide +kernel
theorem dl_464 : decode code 464 = .ok (.aload_n 0, 1) := by decide +kernel
theorem dl_465 : decode code 465 = .ok (.iload_n 3, 1) := by decide +kernel
theorem dl_466 : decode code 466 = .ok (.iconst 3, 1) := by decide +kernel
theorem dl_467 : decode code 467 = .ok (.iadd, 1) := by decide +kernel
theorem dl_468 : decode code 468 = .ok (.iaload, 1) := by decide +kernel
theorem dl_469 : decode code 469 = .ok (.invokevirtual 64, 3) := by decide +kernel
theorem dl_472 : decode code 472 = .ok (.if_icmp .eq 64, 3) := by decide +kernel
theorem dl_475 : decode code 475 = .ok (.iconst 0, 1) := by decide +kernel
theorem dl_476 : decode code 476 = .ok (.ireturn, 1) := by decide +kernel
theorem dl_477 : decode code 477 = .ok (.aload_n 1, 1) := by decide +kernel
theorem dl_478 : decode code 478 = .ok (.invokevirtual 65, 3) := by decide +kernel
theorem dl_481 : decode code 481 = .ok (.aload_n 2, 1) := by decide +kernel
theorem dl_482 : decode code 482 = .ok (.invokevirtual 68, 3) := by decide +kernel
theorem dl_485 : decode code 485 = .ok (.if_icmp .eq 51, 3) := by decide +kernel
theorem dl_488 : decode code 488 = .ok (.iconst 0, 1) := by decide +kernel
theorem dl_489 : decode code 489 = .ok (.ireturn, 1) := by decide +kernel
theorem dl_490 : decode code 490 = .ok (.aload_n 1, 1) := by decide +kernel
theorem dl_491 : decode code 491 = .ok (.aload_n 0, 1) := by decide +kernel
theorem dl_492 : decode code 492 = .ok (.iload_n 3, 1) := by decide +kernel
theorem dl_493 : decode code 493 = .ok (.iconst 1, 1) := by decide +kernel
theorem dl_494 : decode code 494 = .ok (.iadd, 1) := by decide +kernel
theorem dl_495 : decode code 495 = .ok (.iaload, 1) := by decide +kernel
theorem dl_496 : decode code 496 = .ok (.invokevirtual 69, 3) := by decide +kernel
theorem dl_499 : decode code 499 = .ok (.aload_n 2, 1) := by decide +kernel
theorem dl_500 : decode code 500 = .ok (.aload_n 0, 1) := by decide +kernel
theorem dl_501 : decode code 501 = .ok (.iload_n 3, 1) := by decide +kernel
theorem dl_502 : decode code 502 = .ok (.iconst 1, 1) := by decide +kernel
theorem dl_503 : decode code 503 = .ok (.iadd, 1) := by decide +kernel
theorem dl_504 : decode code 504 = .ok (.iaload, 1) := by decide +kernel
theorem dl_505 : decode code 505 = .ok (.invokevirtual 73, 3) := by decide +kernel
theorem dl_508 : decode code 508 = .ok (.if_icmp .eq 28, 3) := by decide +kernel
theorem dl_511 : decode code 511 = .ok (.iconst 0, 1) := by decide +kernel
theorem dl_512 : decode code 512 = .ok (.ireturn, 1) := by decide +kernel
theorem dl_513 : decode code 513 = .ok (.aload_n 1, 1) := by decide +kernel
theorem dl_514 : decode code 514 = .ok (.aload_n 0, 1) := by decide +kernel
theorem dl_515 : decode code 515 = .ok (.iload_n 3, 1) := by decide +kernel
theorem dl_516 : decode code 516 = .ok (.iconst 1, 1) := by decide +kernel
theorem dl_517 : decode code 517 = .ok (.iadd, 1) := by decide +kernel
theorem dl_518 : decode code 518 = .ok (.iaload, 1) := by decide +kernel
theorem dl_519 : decode code 519 = .ok (.invokevirtual 74, 3) := by decide +kernel
theorem dl_522 : decode code 522 = .ok (.aload_n 2, 1) := by decide +kernel
theorem dl_523 : decode code 523 = .ok (.aload_n 0, 1) := by decide +kernel
theorem dl_524 : decode code 524 = .ok (.iload_n 3, 1) := by decide +kernel
theorem dl_525 : decode code 525 = .ok (.iconst 1, 1) := by decide +kernel
theorem dl_526 : decode code 526 = .ok (.iadd, 1) := by decide +kernel
theorem dl_527 : decode code 527 = .ok (.iaload, 1) := by decide +kernel
theorem dl_528 : decode code 528 = .ok (.invokevirtual 77, 3) := by decide +kernel
theorem dl_531 : decode code 531 = .ok (.if_icmp .eq 5, 3) := by decide +kernel
theorem dl_534 : decode code 534 = .ok (.iconst 0, 1) := by decide +kernel
theorem dl_535 : decode code 535 = .ok (.ireturn, 1) := by decide +kernel
theorem dl_536 : decode code 536 = .ok (.iinc 3 6, 3) := by decide +kernel
theorem dl_539 : decode code 539 = .ok (.goto (-521), 3) := by decide +kernel
theorem dl_542 : decode code 542 = .ok (.iconst 1, 1) := by decide +kernel
theorem dl_543 : decode code 543 = .ok (.ireturn, 1) := by decide +kernel
theorem lm_l9 : Jvm.Cond.methodLink "UsageProofsLaw" 9 ⟨"UsageProofs", "<init>", "()V"⟩ ∈ tb_Tb := List.mem_filter.mpr ⟨tb_at_ok (p := 1019) (by decide +kernel), by decide +kernel⟩
theorem lm_i0 : Jvm.Cond.instanceMethod ⟨"UsageProofs", "<init>", "()V"⟩ ∈ tb_Tb := List.mem_filter.mpr ⟨tb_at_ok (p := 1020) (by decide +kernel), by decide +kernel⟩
theorem lm_m0 : tb_M[0]? = some (⟨"UsageProofs", "<init>", "()V"⟩, prog_1_method_1_code, 5, none, 0) := rfl
theorem lm_l12 : Jvm.Cond.methodLink "UsageProofsLaw" 12 ⟨"UsageProofsModel", "<init>", "()V"⟩ ∈ tb_Tb := List.mem_filter.mpr ⟨tb_at_ok (p := 5163) (by decide +kernel), by decide +kernel⟩
theorem lm_i19 : Jvm.Cond.instanceMethod ⟨"UsageProofsModel", "<init>", "()V"⟩ ∈ tb_Tb := List.mem_filter.mpr ⟨tb_at_ok (p := 5164) (by decide +kernel), by decide +kernel⟩
theorem lm_m19 : tb_M[19]? = some (⟨"UsageProofsModel", "<init>", "()V"⟩, prog_14_method_1_code, 1, none, 0) := rfl
theorem lm_l15 : Jvm.Cond.methodLink "UsageProofsLaw" 15 ⟨"UsageProofs", "type", "(JI)I"⟩ ∈ tb_Tb := List.mem_filter.mpr ⟨tb_at_ok (p := 2227) (by decide +kernel), by decide +kernel⟩
theorem lm_i1 : Jvm.Cond.instanceMethod ⟨"UsageProofs", "type", "(JI)I"⟩ ∈ tb_Tb := List.mem_filter.mpr ⟨tb_at_ok (p := 2228) (by decide +kernel), by decide +kernel⟩
theorem lm_s1 : Jvm.Cond.selects "UsageProofs" ⟨"UsageProofs", "type", "(JI)I"⟩ ⟨"UsageProofs", "type", "(JI)I"⟩ ∈ tb_Tb := List.mem_filter.mpr ⟨tb_at_ok (p := 2229) (by decide +kernel), by decide +kernel⟩
theorem lm_m1 : tb_M[1]? = some (⟨"UsageProofs", "type", "(JI)I"⟩, prog_1_method_2_code, 4, some .int, 2) := rfl
theorem lm_l19 : Jvm.Cond.methodLink "UsageProofsLaw" 19 ⟨"UsageProofsModel", "type", "(JI)I"⟩ ∈ tb_Tb := List.mem_filter.mpr ⟨tb_at_ok (p := 6188) (by decide +kernel), by decide +kernel⟩
theorem lm_i20 : Jvm.Cond.instanceMethod ⟨"UsageProofsModel", "type", "(JI)I"⟩ ∈ tb_Tb := List.mem_filter.mpr ⟨tb_at_ok (p := 6189) (by decide +kernel), by decide +kernel⟩
theorem lm_s20 : Jvm.Cond.selects "UsageProofsModel" ⟨"UsageProofsModel", "type", "(JI)I"⟩ ⟨"UsageProofsModel", "type", "(JI)I"⟩ ∈ tb_Tb := List.mem_filter.mpr ⟨tb_at_ok (p := 6190) (by decide +kernel), by decide +kernel⟩
theorem lm_m20 : tb_M[20]? = some (⟨"UsageProofsModel", "type", "(JI)I"⟩, prog_14_method_2_code, 5, some .int, 2) := rfl
theorem lm_l20 : Jvm.Cond.methodLink "UsageProofsLaw" 20 ⟨"UsageProofs", "read", "()I"⟩ ∈ tb_Tb := List.mem_filter.mpr ⟨tb_at_ok (p := 2239) (by decide +kernel), by decide +kernel⟩
theorem lm_i2 : Jvm.Cond.instanceMethod ⟨"UsageProofs", "read", "()I"⟩ ∈ tb_Tb := List.mem_filter.mpr ⟨tb_at_ok (p := 3000) (by decide +kernel), by decide +kernel⟩
theorem lm_s2 : Jvm.Cond.selects "UsageProofs" ⟨"UsageProofs", "read", "()I"⟩ ⟨"UsageProofs", "read", "()I"⟩ ∈ tb_Tb := List.mem_filter.mpr ⟨tb_at_ok (p := 3001) (by decide +kernel), by decide +kernel⟩
theorem lm_m2 : tb_M[2]? = some (⟨"UsageProofs", "read", "()I"⟩, prog_1_method_3_code, 2, some .int, 0) := rfl
theorem lm_l24 : Jvm.Cond.methodLink "UsageProofsLaw" 24 ⟨"UsageProofsModel", "read", "()I"⟩ ∈ tb_Tb := List.mem_filter.mpr ⟨tb_at_ok (p := 6192) (by decide +kernel), by decide +kernel⟩
theorem lm_i46 : Jvm.Cond.instanceMethod ⟨"UsageProofsModel", "read", "()I"⟩ ∈ tb_Tb := List.mem_filter.mpr ⟨tb_at_ok (p := 6193) (by decide +kernel), by decide +kernel⟩
theorem lm_s46 : Jvm.Cond.selects "UsageProofsModel" ⟨"UsageProofsModel", "read", "()I"⟩ ⟨"UsageProofsModel", "read", "()I"⟩ ∈ tb_Tb := List.mem_filter.mpr ⟨tb_at_ok (p := 6194) (by decide +kernel), by decide +kernel⟩
theorem lm_m46 : tb_M[46]? = some (⟨"UsageProofsModel", "read", "()I"⟩, prog_14_method_28_code, 4, some .int, 0) := rfl
theorem lm_l25 : Jvm.Cond.methodLink "UsageProofsLaw" 25 ⟨"UsageProofs", "place", "()I"⟩ ∈ tb_Tb := List.mem_filter.mpr ⟨tb_at_ok (p := 3214) (by decide +kernel), by decide +kernel⟩
theorem lm_i3 : Jvm.Cond.instanceMethod ⟨"UsageProofs", "place", "()I"⟩ ∈ tb_Tb := List.mem_filter.mpr ⟨tb_at_ok (p := 3215) (by decide +kernel), by decide +kernel⟩
theorem lm_s3 : Jvm.Cond.selects "UsageProofs" ⟨"UsageProofs", "place", "()I"⟩ ⟨"UsageProofs", "place", "()I"⟩ ∈ tb_Tb := List.mem_filter.mpr ⟨tb_at_ok (p := 3216) (by decide +kernel), by decide +kernel⟩
theorem lm_m3 : tb_M[3]? = some (⟨"UsageProofs", "place", "()I"⟩, prog_1_method_4_code, 1, some .int, 0) := rfl
theorem lm_l28 : Jvm.Cond.methodLink "UsageProofsLaw" 28 ⟨"UsageProofsModel", "place", "()I"⟩ ∈ tb_Tb := List.mem_filter.mpr ⟨tb_at_ok (p := 7066) (by decide +kernel), by decide +kernel⟩
theorem lm_i47 : Jvm.Cond.instanceMethod ⟨"UsageProofsModel", "place", "()I"⟩ ∈ tb_Tb := List.mem_filter.mpr ⟨tb_at_ok (p := 7067) (by decide +kernel), by decide +kernel⟩
theorem lm_s47 : Jvm.Cond.selects "UsageProofsModel" ⟨"UsageProofsModel", "place", "()I"⟩ ⟨"UsageProofsModel", "place", "()I"⟩ ∈ tb_Tb := List.mem_filter.mpr ⟨tb_at_ok (p := 7068) (by decide +kernel), by decide +kernel⟩
theorem lm_m47 : tb_M[47]? = some (⟨"UsageProofsModel", "place", "()I"⟩, prog_14_method_29_code, 1, some .int, 0) := rfl
theorem lm_l29 : Jvm.Cond.methodLink "UsageProofsLaw" 29 ⟨"UsageProofs", "def", "(II)I"⟩ ∈ tb_Tb := List.mem_filter.mpr ⟨tb_at_ok (p := 3218) (by decide +kernel), by decide +kernel⟩
theorem lm_i4 : Jvm.Cond.instanceMethod ⟨"UsageProofs", "def", "(II)I"⟩ ∈ tb_Tb := List.mem_filter.mpr ⟨tb_at_ok (p := 3219) (by decide +kernel), by decide +kernel⟩
theorem lm_s4 : Jvm.Cond.selects "UsageProofs" ⟨"UsageProofs", "def", "(II)I"⟩ ⟨"UsageProofs", "def", "(II)I"⟩ ∈ tb_Tb := List.mem_filter.mpr ⟨tb_at_ok (p := 3220) (by decide +kernel), by decide +kernel⟩
theorem lm_m4 : tb_M[4]? = some (⟨"UsageProofs", "def", "(II)I"⟩, prog_1_method_5_code, 3, some .int, 2) := rfl
theorem lm_l33 : Jvm.Cond.methodLink "UsageProofsLaw" 33 ⟨"UsageProofsModel", "def", "(II)I"⟩ ∈ tb_Tb := List.mem_filter.mpr ⟨tb_at_ok (p := 7070) (by decide +kernel), by decide +kernel⟩
theorem lm_i49 : Jvm.Cond.instanceMethod ⟨"UsageProofsModel", "def", "(II)I"⟩ ∈ tb_Tb := List.mem_filter.mpr ⟨tb_at_ok (p := 7071) (by decide +kernel), by decide +kernel⟩
theorem lm_s49 : Jvm.Cond.selects "UsageProofsModel" ⟨"UsageProofsModel", "def", "(II)I"⟩ ⟨"UsageProofsModel", "def", "(II)I"⟩ ∈ tb_Tb := List.mem_filter.mpr ⟨tb_at_ok (p := 7072) (by decide +kernel), by decide +kernel⟩
theorem lm_m49 : tb_M[49]? = some (⟨"UsageProofsModel", "def", "(II)I"⟩, prog_14_method_31_code, 3, some .int, 2) := rfl
theorem lm_l34 : Jvm.Cond.methodLink "UsageProofsLaw" 34 ⟨"UsageProofs", "thing", "(II)I"⟩ ∈ tb_Tb := List.mem_filter.mpr ⟨tb_at_ok (p := 3227) (by decide +kernel), by decide +kernel⟩
theorem lm_i5 : Jvm.Cond.instanceMethod ⟨"UsageProofs", "thing", "(II)I"⟩ ∈ tb_Tb := List.mem_filter.mpr ⟨tb_at_ok (p := 3228) (by decide +kernel), by decide +kernel⟩
theorem lm_s5 : Jvm.Cond.selects "UsageProofs" ⟨"UsageProofs", "thing", "(II)I"⟩ ⟨"UsageProofs", "thing", "(II)I"⟩ ∈ tb_Tb := List.mem_filter.mpr ⟨tb_at_ok (p := 3229) (by decide +kernel), by decide +kernel⟩
theorem lm_m5 : tb_M[5]? = some (⟨"UsageProofs", "thing", "(II)I"⟩, prog_1_method_6_code, 3, some .int, 2) := rfl
theorem lm_l37 : Jvm.Cond.methodLink "UsageProofsLaw" 37 ⟨"UsageProofsModel", "thing", "(II)I"⟩ ∈ tb_Tb := List.mem_filter.mpr ⟨tb_at_ok (p := 7078) (by decide +kernel), by decide +kernel⟩
theorem lm_i50 : Jvm.Cond.instanceMethod ⟨"UsageProofsModel", "thing", "(II)I"⟩ ∈ tb_Tb := List.mem_filter.mpr ⟨tb_at_ok (p := 7079) (by decide +kernel), by decide +kernel⟩
theorem lm_s50 : Jvm.Cond.selects "UsageProofsModel" ⟨"UsageProofsModel", "thing", "(II)I"⟩ ⟨"UsageProofsModel", "thing", "(II)I"⟩ ∈ tb_Tb := List.mem_filter.mpr ⟨tb_at_ok (p := 7080) (by decide +kernel), by decide +kernel⟩
theorem lm_m50 : tb_M[50]? = some (⟨"UsageProofsModel", "thing", "(II)I"⟩, prog_14_method_32_code, 4, some .int, 2) := rfl
theorem lm_l38 : Jvm.Cond.methodLink "UsageProofsLaw" 38 ⟨"UsageProofs", "analyse", "()I"⟩ ∈ tb_Tb := List.mem_filter.mpr ⟨tb_at_ok (p := 4122) (by decide +kernel), by decide +kernel⟩
theorem lm_i6 : Jvm.Cond.instanceMethod ⟨"UsageProofs", "analyse", "()I"⟩ ∈ tb_Tb := List.mem_filter.mpr ⟨tb_at_ok (p := 4123) (by decide +kernel), by decide +kernel⟩
theorem lm_s6 : Jvm.Cond.selects "UsageProofs" ⟨"UsageProofs", "analyse", "()I"⟩ ⟨"UsageProofs", "analyse", "()I"⟩ ∈ tb_Tb := List.mem_filter.mpr ⟨tb_at_ok (p := 4124) (by decide +kernel), by decide +kernel⟩
theorem lm_m6 : tb_M[6]? = some (⟨"UsageProofs", "analyse", "()I"⟩, prog_1_method_7_code, 3, some .int, 0) := rfl
theorem lm_l41 : Jvm.Cond.methodLink "UsageProofsLaw" 41 ⟨"UsageProofsModel", "analyse", "()I"⟩ ∈ tb_Tb := List.mem_filter.mpr ⟨tb_at_ok (p := 7131) (by decide +kernel), by decide +kernel⟩
theorem lm_i64 : Jvm.Cond.instanceMethod ⟨"UsageProofsModel", "analyse", "()I"⟩ ∈ tb_Tb := List.mem_filter.mpr ⟨tb_at_ok (p := 7132) (by decide +kernel), by decide +kernel⟩
theorem lm_s64 : Jvm.Cond.selects "UsageProofsModel" ⟨"UsageProofsModel", "analyse", "()I"⟩ ⟨"UsageProofsModel", "analyse", "()I"⟩ ∈ tb_Tb := List.mem_filter.mpr ⟨tb_at_ok (p := 7133) (by decide +kernel), by decide +kernel⟩
theorem lm_m64 : tb_M[64]? = some (⟨"UsageProofsModel", "analyse", "()I"⟩, prog_14_method_46_code, 6, some .int, 0) := rfl
theorem lm_l42 : Jvm.Cond.methodLink "UsageProofsLaw" 42 ⟨"UsageProofs", "row", "(IIII)I"⟩ ∈ tb_Tb := List.mem_filter.mpr ⟨tb_at_ok (p := 4151) (by decide +kernel), by decide +kernel⟩
theorem lm_i7 : Jvm.Cond.instanceMethod ⟨"UsageProofs", "row", "(IIII)I"⟩ ∈ tb_Tb := List.mem_filter.mpr ⟨tb_at_ok (p := 4152) (by decide +kernel), by decide +kernel⟩
theorem lm_s7 : Jvm.Cond.selects "UsageProofs" ⟨"UsageProofs", "row", "(IIII)I"⟩ ⟨"UsageProofs", "row", "(IIII)I"⟩ ∈ tb_Tb := List.mem_filter.mpr ⟨tb_at_ok (p := 4153) (by decide +kernel), by decide +kernel⟩
theorem lm_m7 : tb_M[7]? = some (⟨"UsageProofs", "row", "(IIII)I"⟩, prog_1_method_8_code, 6, some .int, 4) := rfl
theorem lm_l46 : Jvm.Cond.methodLink "UsageProofsLaw" 46 ⟨"UsageProofsModel", "row", "(IIII)I"⟩ ∈ tb_Tb := List.mem_filter.mpr ⟨tb_at_ok (p := 7139) (by decide +kernel), by decide +kernel⟩
theorem lm_i66 : Jvm.Cond.instanceMethod ⟨"UsageProofsModel", "row", "(IIII)I"⟩ ∈ tb_Tb := List.mem_filter.mpr ⟨tb_at_ok (p := 7140) (by decide +kernel), by decide +kernel⟩
theorem lm_s66 : Jvm.Cond.selects "UsageProofsModel" ⟨"UsageProofsModel", "row", "(IIII)I"⟩ ⟨"UsageProofsModel", "row", "(IIII)I"⟩ ∈ tb_Tb := List.mem_filter.mpr ⟨tb_at_ok (p := 7141) (by decide +kernel), by decide +kernel⟩
theorem lm_m66 : tb_M[66]? = some (⟨"UsageProofsModel", "row", "(IIII)I"⟩, prog_14_method_48_code, 5, some .int, 4) := rfl
theorem lm_l47 : Jvm.Cond.methodLink "UsageProofsLaw" 47 ⟨"UsageProofs", "plant", "(IIIII)I"⟩ ∈ tb_Tb := List.mem_filter.mpr ⟨tb_at_ok (p := 4160) (by decide +kernel), by decide +kernel⟩
theorem lm_i8 : Jvm.Cond.instanceMethod ⟨"UsageProofs", "plant", "(IIIII)I"⟩ ∈ tb_Tb := List.mem_filter.mpr ⟨tb_at_ok (p := 4161) (by decide +kernel), by decide +kernel⟩
theorem lm_s8 : Jvm.Cond.selects "UsageProofs" ⟨"UsageProofs", "plant", "(IIIII)I"⟩ ⟨"UsageProofs", "plant", "(IIIII)I"⟩ ∈ tb_Tb := List.mem_filter.mpr ⟨tb_at_ok (p := 4162) (by decide +kernel), by decide +kernel⟩
theorem lm_m8 : tb_M[8]? = some (⟨"UsageProofs", "plant", "(IIIII)I"⟩, prog_1_method_9_code, 6, some .int, 5) := rfl
theorem lm_l51 : Jvm.Cond.methodLink "UsageProofsLaw" 51 ⟨"UsageProofsModel", "plant", "(IIIII)I"⟩ ∈ tb_Tb := List.mem_filter.mpr ⟨tb_at_ok (p := 7147) (by decide +kernel), by decide +kernel⟩
theorem lm_i67 : Jvm.Cond.instanceMethod ⟨"UsageProofsModel", "plant", "(IIIII)I"⟩ ∈ tb_Tb := List.mem_filter.mpr ⟨tb_at_ok (p := 7148) (by decide +kernel), by decide +kernel⟩
theorem lm_s67 : Jvm.Cond.selects "UsageProofsModel" ⟨"UsageProofsModel", "plant", "(IIIII)I"⟩ ⟨"UsageProofsModel", "plant", "(IIIII)I"⟩ ∈ tb_Tb := List.mem_filter.mpr ⟨tb_at_ok (p := 7149) (by decide +kernel), by decide +kernel⟩
theorem lm_m67 : tb_M[67]? = some (⟨"UsageProofsModel", "plant", "(IIIII)I"⟩, prog_14_method_49_code, 6, some .int, 5) := rfl
theorem lm_l52 : Jvm.Cond.methodLink "UsageProofsLaw" 52 ⟨"UsageProofs", "check", "()I"⟩ ∈ tb_Tb := List.mem_filter.mpr ⟨tb_at_ok (p := 4168) (by decide +kernel), by decide +kernel⟩
theorem lm_i9 : Jvm.Cond.instanceMethod ⟨"UsageProofs", "check", "()I"⟩ ∈ tb_Tb := List.mem_filter.mpr ⟨tb_at_ok (p := 4169) (by decide +kernel), by decide +kernel⟩
theorem lm_s9 : Jvm.Cond.selects "UsageProofs" ⟨"UsageProofs", "check", "()I"⟩ ⟨"UsageProofs", "check", "()I"⟩ ∈ tb_Tb := List.mem_filter.mpr ⟨tb_at_ok (p := 4170) (by decide +kernel), by decide +kernel⟩
theorem lm_m9 : tb_M[9]? = some (⟨"UsageProofs", "check", "()I"⟩, prog_1_method_10_code, 2, some .int, 0) := rfl
theorem lm_l55 : Jvm.Cond.methodLink "UsageProofsLaw" 55 ⟨"UsageProofsModel", "check", "()I"⟩ ∈ tb_Tb := List.mem_filter.mpr ⟨tb_at_ok (p := 7151) (by decide +kernel), by decide +kernel⟩
theorem lm_i68 : Jvm.Cond.instanceMethod ⟨"UsageProofsModel", "check", "()I"⟩ ∈ tb_Tb := List.mem_filter.mpr ⟨tb_at_ok (p := 7152) (by decide +kernel), by decide +kernel⟩
theorem lm_s68 : Jvm.Cond.selects "UsageProofsModel" ⟨"UsageProofsModel", "check", "()I"⟩ ⟨"UsageProofsModel", "check", "()I"⟩ ∈ tb_Tb := List.mem_filter.mpr ⟨tb_at_ok (p := 7153) (by decide +kernel), by decide +kernel⟩
theorem lm_m68 : tb_M[68]? = some (⟨"UsageProofsModel", "check", "()I"⟩, prog_14_method_50_code, 2, some .int, 0) := rfl
theorem lm_l56 : Jvm.Cond.methodLink "UsageProofsLaw" 56 ⟨"UsageProofs", "argument", "(II)I"⟩ ∈ tb_Tb := List.mem_filter.mpr ⟨tb_at_ok (p := 4172) (by decide +kernel), by decide +kernel⟩
theorem lm_i10 : Jvm.Cond.instanceMethod ⟨"UsageProofs", "argument", "(II)I"⟩ ∈ tb_Tb := List.mem_filter.mpr ⟨tb_at_ok (p := 4173) (by decide +kernel), by decide +kernel⟩
theorem lm_s10 : Jvm.Cond.selects "UsageProofs" ⟨"UsageProofs", "argument", "(II)I"⟩ ⟨"UsageProofs", "argument", "(II)I"⟩ ∈ tb_Tb := List.mem_filter.mpr ⟨tb_at_ok (p := 4174) (by decide +kernel), by decide +kernel⟩
theorem lm_m10 : tb_M[10]? = some (⟨"UsageProofs", "argument", "(II)I"⟩, prog_1_method_11_code, 4, some .int, 2) := rfl
theorem lm_l59 : Jvm.Cond.methodLink "UsageProofsLaw" 59 ⟨"UsageProofsModel", "argument", "(II)I"⟩ ∈ tb_Tb := List.mem_filter.mpr ⟨tb_at_ok (p := 7155) (by decide +kernel), by decide +kernel⟩
theorem lm_i69 : Jvm.Cond.instanceMethod ⟨"UsageProofsModel", "argument", "(II)I"⟩ ∈ tb_Tb := List.mem_filter.mpr ⟨tb_at_ok (p := 7156) (by decide +kernel), by decide +kernel⟩
theorem lm_s69 : Jvm.Cond.selects "UsageProofsModel" ⟨"UsageProofsModel", "argument", "(II)I"⟩ ⟨"UsageProofsModel", "argument", "(II)I"⟩ ∈ tb_Tb := List.mem_filter.mpr ⟨tb_at_ok (p := 7157) (by decide +kernel), by decide +kernel⟩
theorem lm_m69 : tb_M[69]? = some (⟨"UsageProofsModel", "argument", "(II)I"⟩, prog_14_method_51_code, 4, some .int, 2) := rfl
theorem lm_l60 : Jvm.Cond.methodLink "UsageProofsLaw" 60 ⟨"UsageProofs", "run", "(III)I"⟩ ∈ tb_Tb := List.mem_filter.mpr ⟨tb_at_ok (p := 4177) (by decide +kernel), by decide +kernel⟩
theorem lm_i11 : Jvm.Cond.instanceMethod ⟨"UsageProofs", "run", "(III)I"⟩ ∈ tb_Tb := List.mem_filter.mpr ⟨tb_at_ok (p := 4178) (by decide +kernel), by decide +kernel⟩
theorem lm_s11 : Jvm.Cond.selects "UsageProofs" ⟨"UsageProofs", "run", "(III)I"⟩ ⟨"UsageProofs", "run", "(III)I"⟩ ∈ tb_Tb := List.mem_filter.mpr ⟨tb_at_ok (p := 4179) (by decide +kernel), by decide +kernel⟩
theorem lm_m11 : tb_M[11]? = some (⟨"UsageProofs", "run", "(III)I"⟩, prog_1_method_12_code, 4, some .int, 3) := rfl
theorem lm_l64 : Jvm.Cond.methodLink "UsageProofsLaw" 64 ⟨"UsageProofsModel", "run", "(III)I"⟩ ∈ tb_Tb := List.mem_filter.mpr ⟨tb_at_ok (p := 7159) (by decide +kernel), by decide +kernel⟩
theorem lm_i87 : Jvm.Cond.instanceMethod ⟨"UsageProofsModel", "run", "(III)I"⟩ ∈ tb_Tb := List.mem_filter.mpr ⟨tb_at_ok (p := 7160) (by decide +kernel), by decide +kernel⟩
theorem lm_s87 : Jvm.Cond.selects "UsageProofsModel" ⟨"UsageProofsModel", "run", "(III)I"⟩ ⟨"UsageProofsModel", "run", "(III)I"⟩ ∈ tb_Tb := List.mem_filter.mpr ⟨tb_at_ok (p := 7161) (by decide +kernel), by decide +kernel⟩
theorem lm_m87 : tb_M[87]? = some (⟨"UsageProofsModel", "run", "(III)I"⟩, prog_14_method_69_code, 8, some .int, 3) := rfl
theorem lm_l65 : Jvm.Cond.methodLink "UsageProofsLaw" 65 ⟨"UsageProofs", "value", "()I"⟩ ∈ tb_Tb := List.mem_filter.mpr ⟨tb_at_ok (p := 5149) (by decide +kernel), by decide +kernel⟩
theorem lm_i12 : Jvm.Cond.instanceMethod ⟨"UsageProofs", "value", "()I"⟩ ∈ tb_Tb := List.mem_filter.mpr ⟨tb_at_ok (p := 5150) (by decide +kernel), by decide +kernel⟩
theorem lm_s12 : Jvm.Cond.selects "UsageProofs" ⟨"UsageProofs", "value", "()I"⟩ ⟨"UsageProofs", "value", "()I"⟩ ∈ tb_Tb := List.mem_filter.mpr ⟨tb_at_ok (p := 5151) (by decide +kernel), by decide +kernel⟩
theorem lm_m12 : tb_M[12]? = some (⟨"UsageProofs", "value", "()I"⟩, prog_1_method_13_code, 1, some .int, 0) := rfl
theorem lm_l68 : Jvm.Cond.methodLink "UsageProofsLaw" 68 ⟨"UsageProofsModel", "value", "()I"⟩ ∈ tb_Tb := List.mem_filter.mpr ⟨tb_at_ok (p := 7228) (by decide +kernel), by decide +kernel⟩
theorem lm_i88 : Jvm.Cond.instanceMethod ⟨"UsageProofsModel", "value", "()I"⟩ ∈ tb_Tb := List.mem_filter.mpr ⟨tb_at_ok (p := 7229) (by decide +kernel), by decide +kernel⟩
theorem lm_s88 : Jvm.Cond.selects "UsageProofsModel" ⟨"UsageProofsModel", "value", "()I"⟩ ⟨"UsageProofsModel", "value", "()I"⟩ ∈ tb_Tb := List.mem_filter.mpr ⟨tb_at_ok (p := 7230) (by decide +kernel), by decide +kernel⟩
theorem lm_m88 : tb_M[88]? = some (⟨"UsageProofsModel", "value", "()I"⟩, prog_14_method_70_code, 1, some .int, 0) := rfl
theorem lm_l69 : Jvm.Cond.methodLink "UsageProofsLaw" 69 ⟨"UsageProofs", "count", "(I)I"⟩ ∈ tb_Tb := List.mem_filter.mpr ⟨tb_at_ok (p := 5153) (by decide +kernel), by decide +kernel⟩
theorem lm_i13 : Jvm.Cond.instanceMethod ⟨"UsageProofs", "count", "(I)I"⟩ ∈ tb_Tb := List.mem_filter.mpr ⟨tb_at_ok (p := 5154) (by decide +kernel), by decide +kernel⟩
theorem lm_s13 : Jvm.Cond.selects "UsageProofs" ⟨"UsageProofs", "count", "(I)I"⟩ ⟨"UsageProofs", "count", "(I)I"⟩ ∈ tb_Tb := List.mem_filter.mpr ⟨tb_at_ok (p := 5155) (by decide +kernel), by decide +kernel⟩
theorem lm_m13 : tb_M[13]? = some (⟨"UsageProofs", "count", "(I)I"⟩, prog_1_method_14_code, 2, some .int, 1) := rfl
theorem lm_l73 : Jvm.Cond.methodLink "UsageProofsLaw" 73 ⟨"UsageProofsModel", "count", "(I)I"⟩ ∈ tb_Tb := List.mem_filter.mpr ⟨tb_at_ok (p := 7232) (by decide +kernel), by decide +kernel⟩
theorem lm_i89 : Jvm.Cond.instanceMethod ⟨"UsageProofsModel", "count", "(I)I"⟩ ∈ tb_Tb := List.mem_filter.mpr ⟨tb_at_ok (p := 7233) (by decide +kernel), by decide +kernel⟩
theorem lm_s89 : Jvm.Cond.selects "UsageProofsModel" ⟨"UsageProofsModel", "count", "(I)I"⟩ ⟨"UsageProofsModel", "count", "(I)I"⟩ ∈ tb_Tb := List.mem_filter.mpr ⟨tb_at_ok (p := 7234) (by decide +kernel), by decide +kernel⟩
theorem lm_m89 : tb_M[89]? = some (⟨"UsageProofsModel", "count", "(I)I"⟩, prog_14_method_71_code, 2, some .int, 1) := rfl
theorem lm_l74 : Jvm.Cond.methodLink "UsageProofsLaw" 74 ⟨"UsageProofs", "told", "(I)I"⟩ ∈ tb_Tb := List.mem_filter.mpr ⟨tb_at_ok (p := 5157) (by decide +kernel), by decide +kernel⟩
theorem lm_i14 : Jvm.Cond.instanceMethod ⟨"UsageProofs", "told", "(I)I"⟩ ∈ tb_Tb := List.mem_filter.mpr ⟨tb_at_ok (p := 5158) (by decide +kernel), by decide +kernel⟩
theorem lm_s14 : Jvm.Cond.selects "UsageProofs" ⟨"UsageProofs", "told", "(I)I"⟩ ⟨"UsageProofs", "told", "(I)I"⟩ ∈ tb_Tb := List.mem_filter.mpr ⟨tb_at_ok (p := 5159) (by decide +kernel), by decide +kernel⟩
theorem lm_m14 : tb_M[14]? = some (⟨"UsageProofs", "told", "(I)I"⟩, prog_1_method_15_code, 2, some .int, 1) := rfl
theorem lm_l77 : Jvm.Cond.methodLink "UsageProofsLaw" 77 ⟨"UsageProofsModel", "told", "(I)I"⟩ ∈ tb_Tb := List.mem_filter.mpr ⟨tb_at_ok (p := 7236) (by decide +kernel), by decide +kernel⟩
theorem lm_i90 : Jvm.Cond.instanceMethod ⟨"UsageProofsModel", "told", "(I)I"⟩ ∈ tb_Tb := List.mem_filter.mpr ⟨tb_at_ok (p := 7237) (by decide +kernel), by decide +kernel⟩
theorem lm_s90 : Jvm.Cond.selects "UsageProofsModel" ⟨"UsageProofsModel", "told", "(I)I"⟩ ⟨"UsageProofsModel", "told", "(I)I"⟩ ∈ tb_Tb := List.mem_filter.mpr ⟨tb_at_ok (p := 7238) (by decide +kernel), by decide +kernel⟩
theorem lm_m90 : tb_M[90]? = some (⟨"UsageProofsModel", "told", "(I)I"⟩, prog_14_method_72_code, 2, some .int, 1) := rfl
theorem lm_c7 : Jvm.Cond.classLink "UsageProofsLaw" 7 "UsageProofs" ∈ tb_Tb := List.mem_filter.mpr ⟨tb_at_ok (p := 1017) (by decide +kernel), by decide +kernel⟩
theorem lm_c10 : Jvm.Cond.classLink "UsageProofsLaw" 10 "UsageProofsModel" ∈ tb_Tb := List.mem_filter.mpr ⟨tb_at_ok (p := 5161) (by decide +kernel), by decide +kernel⟩
theorem lm_n0 : Jvm.Cond.instantiable "UsageProofs" 10 ∈ tb_Tb := List.mem_filter.mpr ⟨tb_at_ok (p := 1018) (by decide +kernel), by decide +kernel⟩
theorem lm_n1 : Jvm.Cond.instantiable "UsageProofsModel" 86 ∈ tb_Tb := List.mem_filter.mpr ⟨tb_at_ok (p := 5162) (by decide +kernel), by decide +kernel⟩
theorem lm_z0 : Jvm.Cond.initialized "UsageProofs" ∈ tb_Tb := List.mem_filter.mpr ⟨tb_at_ok (p := 1001) (by decide +kernel), by decide +kernel⟩
theorem lm_z1 : Jvm.Cond.initialized "UsageProofsModel" ∈ tb_Tb := List.mem_filter.mpr ⟨tb_at_ok (p := 1013) (by decide +kernel), by decide +kernel⟩
theorem lm_k13 : Jvm.Cond.constantLong "UsageProofsLaw" 13 4294967295 ∈ tb_Tb := List.mem_filter.mpr ⟨tb_at_ok (p := 8000) (by decide +kernel), by decide +kernel⟩
theorem lm_a_int : Jvm.Cond.arrayClass .int ∈ tb_Tb := List.mem_filter.mpr ⟨tb_at_ok (p := 1150) (by decide +kernel), by decide +kernel⟩
theorem lm_a_long : Jvm.Cond.arrayClass .long ∈ tb_Tb := List.mem_filter.mpr ⟨tb_at_ok (p := 1149) (by decide +kernel), by decide +kernel⟩
theorem lm_a_byte : Jvm.Cond.arrayClass .byte ∈ tb_Tb := List.mem_filter.mpr ⟨tb_at_ok (p := 1058) (by decide +kernel), by decide +kernel⟩
theorem lm_a_boolean : Jvm.Cond.arrayClass .boolean ∈ tb_Tb := List.mem_filter.mpr ⟨tb_at_ok (p := 2078) (by decide +kernel), by decide +kernel⟩
theorem lm_x0 : Jvm.Cond.instantiable "UsageProofs$Bindings" 6 ∈ tb_Tb := List.mem_filter.mpr ⟨tb_at_ok (p := 2027) (by decide +kernel), by decide +kernel⟩
theorem lm_x1 : Jvm.Cond.instantiable "UsageProofs$Cells" 6 ∈ tb_Tb := List.mem_filter.mpr ⟨tb_at_ok (p := 2053) (by decide +kernel), by decide +kernel⟩
theorem lm_x2 : Jvm.Cond.instantiable "UsageProofs$Foreteller" 8 ∈ tb_Tb := List.mem_filter.mpr ⟨tb_at_ok (p := 1190) (by decide +kernel), by decide +kernel⟩
theorem lm_x3 : Jvm.Cond.instantiable "UsageProofs$Functions" 7 ∈ tb_Tb := List.mem_filter.mpr ⟨tb_at_ok (p := 2080) (by decide +kernel), by decide +kernel⟩
theorem lm_x4 : Jvm.Cond.instantiable "UsageProofs$Layers" 4 ∈ tb_Tb := List.mem_filter.mpr ⟨tb_at_ok (p := 1196) (by decide +kernel), by decide +kernel⟩
theorem lm_x5 : Jvm.Cond.instantiable "UsageProofs$Machine" 19 ∈ tb_Tb := List.mem_filter.mpr ⟨tb_at_ok (p := 2021) (by decide +kernel), by decide +kernel⟩
theorem lm_x6 : Jvm.Cond.instantiable "UsageProofs$Parser" 8 ∈ tb_Tb := List.mem_filter.mpr ⟨tb_at_ok (p := 1152) (by decide +kernel), by decide +kernel⟩
theorem lm_x7 : Jvm.Cond.instantiable "UsageProofs$Program" 16 ∈ tb_Tb := List.mem_filter.mpr ⟨tb_at_ok (p := 1060) (by decide +kernel), by decide +kernel⟩
theorem lm_x8 : Jvm.Cond.instantiable "UsageProofs$Rows" 6 ∈ tb_Tb := List.mem_filter.mpr ⟨tb_at_ok (p := 1184) (by decide +kernel), by decide +kernel⟩
theorem lm_x9 : Jvm.Cond.instantiable "UsageProofs$Text" 7 ∈ tb_Tb := List.mem_filter.mpr ⟨tb_at_ok (p := 1026) (by decide +kernel), by decide +kernel⟩
theorem lm_x10 : Jvm.Cond.instantiable "UsageProofs$Waits" 5 ∈ tb_Tb := List.mem_filter.mpr ⟨tb_at_ok (p := 2109) (by decide +kernel), by decide +kernel⟩
theorem lm_x11 : Jvm.Cond.instantiable "UsageProofs" 10 ∈ tb_Tb := List.mem_filter.mpr ⟨tb_at_ok (p := 1018) (by decide +kernel), by decide +kernel⟩
theorem lm_x12 : Jvm.Cond.instantiable "UsageProofsModel" 86 ∈ tb_Tb := List.mem_filter.mpr ⟨tb_at_ok (p := 5162) (by decide +kernel), by decide +kernel⟩
def lw_Pair (Inv : (Nat → Nat → Int32) → (Nat → Nat → Int64) → Prop) (a b : Nat) (as : List Value) : Prop := ∀ (hi : Nat → Nat → Int32) (hl : Nat → Nat → Int64), Inv hi hl → ∃ (r : Int32) (hi1 : Nat → Nat → Int32) (hl1 : Nat → Nat → Int64) (hi2 : Nat → Nat → Int32) (hl2 : Nat → Nat → Int64),
  am_call tb_P 2000 a (.ref 0 :: as) (pr_S, hi, hl) = some (some (.int r), (pr_S, hi1, hl1)) ∧ am_call tb_P 2000 b (.ref 73 :: as) (pr_S, hi1, hl1) = some (some (.int r), (pr_S, hi2, hl2)) ∧ Inv hi2 hl2
/-- what the law rests on: both constructors, and every pair of calls answers alike and keeps Inv -/
def lw_Pub (Inv : (Nat → Nat → Int32) → (Nat → Nat → Int64) → Prop) : Prop :=
  (∃ (G1 : am_G) (hi : Nat → Nat → Int32) (hl : Nat → Nat → Int64), am_call tb_P 2000 0 [.ref 0] (am_new ([], (fun _ _ => 0), (fun _ _ => 0)) 11 10) = some (none, G1) ∧ G1.1.length = 73 ∧ am_sz G1.1 + 708617 = 994938 ∧ am_call tb_P 2000 19 [.ref 73] (am_new G1 12 86) = some (none, (pr_S, hi, hl)) ∧ Inv hi hl)
  ∧ (∀ (v0 : Int64) (v1 : Int32), lw_Pair Inv 1 20 [.long v0, .int v1])
  ∧ (lw_Pair Inv 2 46 [])
  ∧ (lw_Pair Inv 3 47 [])
  ∧ (∀ (v0 : Int32) (v1 : Int32), lw_Pair Inv 4 49 [.int v0, .int v1])
  ∧ (∀ (v0 : Int32) (v1 : Int32), lw_Pair Inv 5 50 [.int v0, .int v1])
  ∧ (lw_Pair Inv 6 64 [])
  ∧ (∀ (v0 : Int32) (v1 : Int32) (v2 : Int32) (v3 : Int32), lw_Pair Inv 7 66 [.int v0, .int v1, .int v2, .int v3])
  ∧ (∀ (v0 : Int32) (v1 : Int32) (v2 : Int32) (v3 : Int32) (v4 : Int32), lw_Pair Inv 8 67 [.int v0, .int v1, .int v2, .int v3, .int v4])
  ∧ (lw_Pair Inv 9 68 [])
  ∧ (∀ (v0 : Int32) (v1 : Int32), lw_Pair Inv 10 69 [.int v0, .int v1])
  ∧ (∀ (v0 : Int32) (v1 : Int32) (v2 : Int32), lw_Pair Inv 11 87 [.int v0, .int v1, .int v2])
  ∧ (lw_Pair Inv 12 88 [])
  ∧ (∀ (v0 : Int32), lw_Pair Inv 13 89 [.int v0])
  ∧ (∀ (v0 : Int32), lw_Pair Inv 14 90 [.int v0])
section LWX
variable {p : Program} {l : Launch} {e : Env} {R : Room} {s : State} {m : MethodId} {args : Array Value} {below : List Frame} {meth : Method} {c : Code} {Tb : List Jvm.Cond} {Nb : List (String × Nat × MethodName × String)} {cl : List vw_C} {ty : Nat → Nat → FieldType} {cA : Nat → ClassId} {D : va_G} {M : List am_M} {own : String} {cc : ByteArray} {nL : Nat} {ret : Option FieldType} {ini : Bool} {B c0 z0 : Nat} {pc : Nat} {ls : am_L} {st rest : List Value} {G G' : am_G} {v : Option Value} {Q : State → Prop} {nE zE : Nat}
variable {b L : Nat} {xs : Nat → Int32}
theorem lw_aload (F : am_Fx p R s m args meth c Tb Nb D cl ty cA B c0 own cc nL ret ini) {i : Fin 4} (hg : am_get ls i.val = some (.retAddr b)) (hd : decode cc pc = .ok (.aload_n i, 1)) (k : am_Cl p l e R s m args below meth c nL D cl ty cA B c0 z0 (pc + 1) ls (.retAddr b :: rest) G Q nE zE) : am_Cl p l e R s m args below meth c nL D cl ty cA B c0 z0 pc ls rest G Q nE zE := ⟨k.1, fun H locs lsR a1 a3 a4 a5 a6 a7 a8 => lv_aload_n F.1 F.2.1 hd rfl (am_get_real hg a4) (k.2 H locs lsR a1 a3 a4 a5 a6 a7 a8)⟩
theorem lw_slen (F : am_Fx p R s m args meth c Tb Nb D cl ty cA B c0 own cc nL ret ini) (hX : va_X b L xs s s.heap) (hbl : b < s.heap.size) (hbB : b < B) (hd : decode cc pc = .ok (.arraylength, 1)) (k : am_Cl p l e R s m args below meth c nL D cl ty cA B c0 z0 (pc + 1) ls (.int (Int32.ofNat L) :: rest) G Q nE zE) : am_Cl p l e R s m args below meth c nL D cl ty cA B c0 z0 pc ls (.retAddr b :: rest) G Q nE zE := ⟨k.1, fun H locs lsR a1 a3 a4 a5 a6 a7 a8 => va_slen F.1 F.2.1 hX hbl (Nat.not_le.mpr hbB) a3 hd (k.2 H locs lsR a1 a3 a4 a5 a6 a7 a8)⟩
theorem lw_sld (F : am_Fx p R s m args meth c Tb Nb D cl ty cA B c0 own cc nL ret ini) (hX : va_X b L xs s s.heap) (hbl : b < s.heap.size) (hbB : b < B) {i : Int32} (hin : vp_in i L) (hd : decode cc pc = .ok (.iaload, 1)) (k : am_Cl p l e R s m args below meth c nL D cl ty cA B c0 z0 (pc + 1) ls (.int (xs i.toNatClampNeg) :: rest) G Q nE zE) : am_Cl p l e R s m args below meth c nL D cl ty cA B c0 z0 pc ls (.int i :: .retAddr b :: rest) G Q nE zE := ⟨k.1, fun H locs lsR a1 a3 a4 a5 a6 a7 a8 => va_sld F.1 F.2.1 hX hbl (Nat.not_le.mpr hbB) a3 hin hd (k.2 H locs lsR a1 a3 a4 a5 a6 a7 a8)⟩
theorem lw_tin (F : am_Fx p R s m args meth c Tb Nb D cl ty cA B c0 own cc nL ret ini) {dflt lo hi off : Int} {offs : Array Int} {len t : Nat} {x : Int32} (h1 : ¬ x.toInt < lo) (h2 : ¬ hi < x.toInt) (ho : offs[(x.toInt - lo).toNat]? = some off) (ht : (pc : Int) + off = (t : Int)) (hd : decode cc pc = .ok (.tableswitch dflt lo hi offs, len)) (k : am_Cl p l e R s m args below meth c nL D cl ty cA B c0 z0 t ls rest G Q nE zE) : am_Cl p l e R s m args below meth c nL D cl ty cA B c0 z0 pc ls (.int x :: rest) G Q nE zE := ⟨k.1, fun H locs lsR a1 a3 a4 a5 a6 a7 a8 => lv_tableIn F.1 F.2.1 hd h1 h2 ho ht (k.2 H locs lsR a1 a3 a4 a5 a6 a7 a8)⟩
theorem lw_tout (F : am_Fx p R s m args meth c Tb Nb D cl ty cA B c0 own cc nL ret ini) {dflt lo hi : Int} {offs : Array Int} {len t : Nat} {x : Int32} (h : x.toInt < lo ∨ hi < x.toInt) (ht : (pc : Int) + dflt = (t : Int)) (hd : decode cc pc = .ok (.tableswitch dflt lo hi offs, len)) (k : am_Cl p l e R s m args below meth c nL D cl ty cA B c0 z0 t ls rest G Q nE zE) : am_Cl p l e R s m args below meth c nL D cl ty cA B c0 z0 pc ls (.int x :: rest) G Q nE zE := ⟨k.1, fun H locs lsR a1 a3 a4 a5 a6 a7 a8 => lv_tableOut F.1 F.2.1 hd h ht (k.2 H locs lsR a1 a3 a4 a5 a6 a7 a8)⟩
/-- a read of the script: aload_0, iload_3, iconst, iadd, iaload -/
theorem lw_rd (F : am_Fx p R s m args meth c Tb Nb D cl ty cA B c0 own cc nL ret ini) (hX : va_X b L xs s s.heap) (hbl : b < s.heap.size) (hbB : b < B) (hL : L ≤ 3072) {i j : Nat} {jj : Int} (hj : Int32.ofInt jj = nI j) (hij : 6 * i + j < L) (d0 : decode cc pc = .ok (.aload_n 0, 1)) (d1 : decode cc (pc + 1) = .ok (.iload_n 3, 1)) (d2 : decode cc (pc + 2) = .ok (.iconst jj, 1)) (d3 : decode cc (pc + 3) = .ok (.iadd, 1)) (d4 : decode cc (pc + 4) = .ok (.iaload, 1)) (k : am_Cl p l e R s m args below meth c nL D cl ty cA B c0 z0 (pc + 5) [(3, .int (nI (6 * i))), (2, .ref 73), (1, .ref 0), (0, .retAddr b)] (.int (xs (6 * i + j)) :: rest) G Q nE zE) : am_Cl p l e R s m args below meth c nL D cl ty cA B c0 z0 pc [(3, .int (nI (6 * i))), (2, .ref 73), (1, .ref 0), (0, .retAddr b)] rest G Q nE zE := by
  refine lw_aload F rfl d0 ?_
  refine am_t_iloadn F rfl d1 ?_
  refine am_t_iconst F hj d2 ?_
  refine am_t_iadd F d3 ?_
  rw [nI_add]
  refine lw_sld F hX hbl hbB (vp_in_nI hij (by omega)) d4 ?_
  rw [nI_clamp (by omega)]
  exact k
end LWX
theorem lw_n0 : (nI 0).toInt = 0 := by decide +kernel
theorem lw_n1 : (nI 1).toInt = 1 := by decide +kernel
theorem lw_n2 : (nI 2).toInt = 2 := by decide +kernel
theorem lw_n3 : (nI 3).toInt = 3 := by decide +kernel
theorem lw_n4 : (nI 4).toInt = 4 := by decide +kernel
theorem lw_n5 : (nI 5).toInt = 5 := by decide +kernel
theorem lw_n6 : (nI 6).toInt = 6 := by decide +kernel
theorem lw_n7 : (nI 7).toInt = 7 := by decide +kernel
theorem lw_n8 : (nI 8).toInt = 8 := by decide +kernel
theorem lw_n9 : (nI 9).toInt = 9 := by decide +kernel
theorem lw_n10 : (nI 10).toInt = 10 := by decide +kernel
theorem lw_n11 : (nI 11).toInt = 11 := by decide +kernel
theorem lw_n12 : (nI 12).toInt = 12 := by decide +kernel
theorem lw_n13 : (nI 13).toInt = 13 := by decide +kernel
theorem lw_n14 : (nI 14).toInt = 14 := by decide +kernel
theorem lw_n15 : (nI 15).toInt = 15 := by decide +kernel
theorem lw_o0 : (#[71, 134, 147, 160, 193, 226, 239, 292, 355, 368, 401, 444, 457, 480] : Array Int)[((nI 0).toInt - 0).toNat]? = some 71 := by rw [lw_n0]; rfl
theorem lw_o1 : (#[71, 134, 147, 160, 193, 226, 239, 292, 355, 368, 401, 444, 457, 480] : Array Int)[((nI 1).toInt - 0).toNat]? = some 134 := by rw [lw_n1]; rfl
theorem lw_o2 : (#[71, 134, 147, 160, 193, 226, 239, 292, 355, 368, 401, 444, 457, 480] : Array Int)[((nI 2).toInt - 0).toNat]? = some 147 := by rw [lw_n2]; rfl
theorem lw_o3 : (#[71, 134, 147, 160, 193, 226, 239, 292, 355, 368, 401, 444, 457, 480] : Array Int)[((nI 3).toInt - 0).toNat]? = some 160 := by rw [lw_n3]; rfl
theorem lw_o4 : (#[71, 134, 147, 160, 193, 226, 239, 292, 355, 368, 401, 444, 457, 480] : Array Int)[((nI 4).toInt - 0).toNat]? = some 193 := by rw [lw_n4]; rfl
theorem lw_o5 : (#[71, 134, 147, 160, 193, 226, 239, 292, 355, 368, 401, 444, 457, 480] : Array Int)[((nI 5).toInt - 0).toNat]? = some 226 := by rw [lw_n5]; rfl
theorem lw_o6 : (#[71, 134, 147, 160, 193, 226, 239, 292, 355, 368, 401, 444, 457, 480] : Array Int)[((nI 6).toInt - 0).toNat]? = some 239 := by rw [lw_n6]; rfl
theorem lw_o7 : (#[71, 134, 147, 160, 193, 226, 239, 292, 355, 368, 401, 444, 457, 480] : Array Int)[((nI 7).toInt - 0).toNat]? = some 292 := by rw [lw_n7]; rfl
theorem lw_o8 : (#[71, 134, 147, 160, 193, 226, 239, 292, 355, 368, 401, 444, 457, 480] : Array Int)[((nI 8).toInt - 0).toNat]? = some 355 := by rw [lw_n8]; rfl
theorem lw_o9 : (#[71, 134, 147, 160, 193, 226, 239, 292, 355, 368, 401, 444, 457, 480] : Array Int)[((nI 9).toInt - 0).toNat]? = some 368 := by rw [lw_n9]; rfl
theorem lw_o10 : (#[71, 134, 147, 160, 193, 226, 239, 292, 355, 368, 401, 444, 457, 480] : Array Int)[((nI 10).toInt - 0).toNat]? = some 401 := by rw [lw_n10]; rfl
theorem lw_o11 : (#[71, 134, 147, 160, 193, 226, 239, 292, 355, 368, 401, 444, 457, 480] : Array Int)[((nI 11).toInt - 0).toNat]? = some 444 := by rw [lw_n11]; rfl
theorem lw_o12 : (#[71, 134, 147, 160, 193, 226, 239, 292, 355, 368, 401, 444, 457, 480] : Array Int)[((nI 12).toInt - 0).toNat]? = some 457 := by rw [lw_n12]; rfl
theorem lw_o13 : (#[71, 134, 147, 160, 193, 226, 239, 292, 355, 368, 401, 444, 457, 480] : Array Int)[((nI 13).toInt - 0).toNat]? = some 480 := by rw [lw_n13]; rfl
theorem pr_len : pr_S.length = 130 := by decide +kernel
theorem pr_sz : am_sz pr_S = 994938 := by decide +kernel
theorem lw_cmp {L i : Nat} (hL : L ≤ 3072) (hi : 6 * i ≤ L) (hc : ¬ (Int32.ofNat L - 6 < nI (6 * i))) : 6 * i + 6 ≤ L := by
  rcases Nat.lt_or_ge L (6 * i + 6) with q | q
  · refine absurd ?_ hc
    by_cases h6 : 6 ≤ L
    · rw [show (6 : Int32) = nI 6 from rfl, show Int32.ofNat L = nI L from rfl, pk_sub h6]
      exact nI_lt (by omega) (by omega)
    · have h7 : Int32.ofNat L - 6 < 0 := pk_sneg (a := L) (b := 6) (by omega) (by omega)
      exact Int32.lt_of_lt_of_le h7 (nI_pos' (by omega))
  · exact q
set_option maxHeartbeats 4000000 in
set_option maxRecDepth 20000 in
theorem lw_case0 {p : Program} {e : Env} {s : State} {m : MethodId} {below : List Frame} {meth : Method} {c : Code} {l : Launch} {b L : Nat} {xs : Nat → Int32} {D : va_G} {cA : Nat → ClassId} (hL : L ≤ 3072) (hX : va_X b L xs s s.heap) (hbl : b < s.heap.size) (F : am_Fx p room_1 s m #[Value.ref b] meth c tb_Tb tb_Nb D tb_cl tb_ty cA s.heap.size 0 "UsageProofsLaw" code 4 ret false) {Inv : (Nat → Nat → Int32) → (Nat → Nat → Int64) → Prop} (hP : ∀ (v0 : Int64) (v1 : Int32), lw_Pair Inv 1 20 [.long v0, .int v1]) (i : Nat) (hij : 6 * i + 6 ≤ L) (hi : Nat → Nat → Int32) (hl : Nat → Nat → Int64) (hI : Inv hi hl)
    (k : ∀ (hi2 : Nat → Nat → Int32) (hl2 : Nat → Nat → Int64), Inv hi2 hl2 → am_Cl p l e room_1 s m #[Value.ref b] below meth c 4 D tb_cl tb_ty cA s.heap.size 0 0 536 [(3, .int (nI (6 * i))), (2, .ref 73), (1, .ref 0), (0, .retAddr b)] [] (pr_S, hi2, hl2) (lw_Z below #[Value.ref b] s) 130 994938) : am_Cl p l e room_1 s m #[Value.ref b] below meth c 4 D tb_cl tb_ty cA s.heap.size 0 0 104 [(3, .int (nI (6 * i))), (2, .ref 73), (1, .ref 0), (0, .retAddr b)] [] (pr_S, hi, hl) (lw_Z below #[Value.ref b] s) 130 994938 := by
  have hC : am_Cs l room_1 tb_Tb tb_Nb D tb_cl tb_ty cA s.heap.size tb_M (am_call tb_P 2000) := tb_sim l cA D s.heap.size 2000 room_1 (by decide) (by decide)
  obtain ⟨r, hi1, hl1, hi2, hl2, h1, h2, h3⟩ := hP ((xs (6 * i + 1)).toInt64 <<< ((32 : Int32).toInt64 &&& 63) ||| (xs (6 * i + 2)).toInt64 &&& 4294967295) (xs (6 * i + 3)) hi hl hI
  refine am_t_aloadn F rfl dl_104 ?_
  refine lw_rd F hX hbl hbl hL (i := i) (j := 1) rfl (by omega) dl_105 dl_106 dl_107 dl_108 dl_109 ?_
  refine am_t_i2l F dl_110 ?_
  refine am_t_bipush F (x := 32) rfl dl_111 ?_
  refine am_t_lshl F dl_113 ?_
  refine lw_rd F hX hbl hbl hL (i := i) (j := 2) rfl (by omega) dl_114 dl_115 dl_116 dl_117 dl_118 ?_
  refine am_t_i2l F dl_119 ?_
  refine am_t_ldc2 F lm_k13 dl_120 ?_
  refine am_t_land F dl_123 ?_
  refine am_t_lor F dl_124 ?_
  refine lw_rd F hX hbl hbl hL (i := i) (j := 3) rfl (by omega) dl_125 dl_126 dl_127 dl_128 dl_129 ?_
  refine am_t_callV F tb_good tb_M_ok hC (As := [.long ((xs (6 * i + 1)).toInt64 <<< ((32 : Int32).toInt64 &&& 63) ||| (xs (6 * i + 2)).toInt64 &&& 4294967295), .int (xs (6 * i + 3))]) (rest := []) (z := 0) (ci := 11) lm_m1 rfl (Nat.le_of_ble_eq_true rfl) lm_l15 rfl rfl (by decide) rfl rfl lm_i1 lm_s1 h1 dl_130 ?_
  refine am_t_aloadn F rfl dl_133 ?_
  refine lw_rd F hX hbl hbl hL (i := i) (j := 1) rfl (by omega) dl_134 dl_135 dl_136 dl_137 dl_138 ?_
  refine am_t_i2l F dl_139 ?_
  refine am_t_bipush F (x := 32) rfl dl_140 ?_
  refine am_t_lshl F dl_142 ?_
  refine lw_rd F hX hbl hbl hL (i := i) (j := 2) rfl (by omega) dl_143 dl_144 dl_145 dl_146 dl_147 ?_
  refine am_t_i2l F dl_148 ?_
  refine am_t_ldc2 F lm_k13 dl_149 ?_
  refine am_t_land F dl_152 ?_
  refine am_t_lor F dl_153 ?_
  refine lw_rd F hX hbl hbl hL (i := i) (j := 3) rfl (by omega) dl_154 dl_155 dl_156 dl_157 dl_158 ?_
  refine am_t_callV F tb_good tb_M_ok hC (As := [.long ((xs (6 * i + 1)).toInt64 <<< ((32 : Int32).toInt64 &&& 63) ||| (xs (6 * i + 2)).toInt64 &&& 4294967295), .int (xs (6 * i + 3))]) (rest := [.int r]) (z := 73) (ci := 12) lm_m20 rfl (Nat.le_of_ble_eq_true rfl) lm_l19 rfl rfl (by decide) rfl rfl lm_i20 lm_s20 h2 dl_159 ?_
  refine am_t_icmp_eq F (t := 536) (by decide) dl_162 (fun _ => k hi2 hl2 h3) (fun h => absurd rfl h)
set_option maxHeartbeats 4000000 in
set_option maxRecDepth 20000 in
theorem lw_case1 {p : Program} {e : Env} {s : State} {m : MethodId} {below : List Frame} {meth : Method} {c : Code} {l : Launch} {b L : Nat} {xs : Nat → Int32} {D : va_G} {cA : Nat → ClassId} (hL : L ≤ 3072) (hX : va_X b L xs s s.heap) (hbl : b < s.heap.size) (F : am_Fx p room_1 s m #[Value.ref b] meth c tb_Tb tb_Nb D tb_cl tb_ty cA s.heap.size 0 "UsageProofsLaw" code 4 ret false) {Inv : (Nat → Nat → Int32) → (Nat → Nat → Int64) → Prop} (hP : lw_Pair Inv 2 46 []) (i : Nat) (hij : 6 * i + 6 ≤ L) (hi : Nat → Nat → Int32) (hl : Nat → Nat → Int64) (hI : Inv hi hl)
    (k : ∀ (hi2 : Nat → Nat → Int32) (hl2 : Nat → Nat → Int64), Inv hi2 hl2 → am_Cl p l e room_1 s m #[Value.ref b] below meth c 4 D tb_cl tb_ty cA s.heap.size 0 0 536 [(3, .int (nI (6 * i))), (2, .ref 73), (1, .ref 0), (0, .retAddr b)] [] (pr_S, hi2, hl2) (lw_Z below #[Value.ref b] s) 130 994938) : am_Cl p l e room_1 s m #[Value.ref b] below meth c 4 D tb_cl tb_ty cA s.heap.size 0 0 167 [(3, .int (nI (6 * i))), (2, .ref 73), (1, .ref 0), (0, .retAddr b)] [] (pr_S, hi, hl) (lw_Z below #[Value.ref b] s) 130 994938 := by
  have hC : am_Cs l room_1 tb_Tb tb_Nb D tb_cl tb_ty cA s.heap.size tb_M (am_call tb_P 2000) := tb_sim l cA D s.heap.size 2000 room_1 (by decide) (by decide)
  obtain ⟨r, hi1, hl1, hi2, hl2, h1, h2, h3⟩ := hP  hi hl hI
  refine am_t_aloadn F rfl dl_167 ?_
  refine am_t_callV F tb_good tb_M_ok hC (As := []) (rest := []) (z := 0) (ci := 11) lm_m2 rfl (Nat.le_of_ble_eq_true rfl) lm_l20 rfl rfl (by decide) rfl rfl lm_i2 lm_s2 h1 dl_168 ?_
  refine am_t_aloadn F rfl dl_171 ?_
  refine am_t_callV F tb_good tb_M_ok hC (As := []) (rest := [.int r]) (z := 73) (ci := 12) lm_m46 rfl (Nat.le_of_ble_eq_true rfl) lm_l24 rfl rfl (by decide) rfl rfl lm_i46 lm_s46 h2 dl_172 ?_
  refine am_t_icmp_eq F (t := 536) (by decide) dl_175 (fun _ => k hi2 hl2 h3) (fun h => absurd rfl h)
set_option maxHeartbeats 4000000 in
set_option maxRecDepth 20000 in
theorem lw_case2 {p : Program} {e : Env} {s : State} {m : MethodId} {below : List Frame} {meth : Method} {c : Code} {l : Launch} {b L : Nat} {xs : Nat → Int32} {D : va_G} {cA : Nat → ClassId} (hL : L ≤ 3072) (hX : va_X b L xs s s.heap) (hbl : b < s.heap.size) (F : am_Fx p room_1 s m #[Value.ref b] meth c tb_Tb tb_Nb D tb_cl tb_ty cA s.heap.size 0 "UsageProofsLaw" code 4 ret false) {Inv : (Nat → Nat → Int32) → (Nat → Nat → Int64) → Prop} (hP : lw_Pair Inv 3 47 []) (i : Nat) (hij : 6 * i + 6 ≤ L) (hi : Nat → Nat → Int32) (hl : Nat → Nat → Int64) (hI : Inv hi hl)
    (k : ∀ (hi2 : Nat → Nat → Int32) (hl2 : Nat → Nat → Int64), Inv hi2 hl2 → am_Cl p l e room_1 s m #[Value.ref b] below meth c 4 D tb_cl tb_ty cA s.heap.size 0 0 536 [(3, .int (nI (6 * i))), (2, .ref 73), (1, .ref 0), (0, .retAddr b)] [] (pr_S, hi2, hl2) (lw_Z below #[Value.ref b] s) 130 994938) : am_Cl p l e room_1 s m #[Value.ref b] below meth c 4 D tb_cl tb_ty cA s.heap.size 0 0 180 [(3, .int (nI (6 * i))), (2, .ref 73), (1, .ref 0), (0, .retAddr b)] [] (pr_S, hi, hl) (lw_Z below #[Value.ref b] s) 130 994938 := by
  have hC : am_Cs l room_1 tb_Tb tb_Nb D tb_cl tb_ty cA s.heap.size tb_M (am_call tb_P 2000) := tb_sim l cA D s.heap.size 2000 room_1 (by decide) (by decide)
  obtain ⟨r, hi1, hl1, hi2, hl2, h1, h2, h3⟩ := hP  hi hl hI
  refine am_t_aloadn F rfl dl_180 ?_
  refine am_t_callV F tb_good tb_M_ok hC (As := []) (rest := []) (z := 0) (ci := 11) lm_m3 rfl (Nat.le_of_ble_eq_true rfl) lm_l25 rfl rfl (by decide) rfl rfl lm_i3 lm_s3 h1 dl_181 ?_
  refine am_t_aloadn F rfl dl_184 ?_
  refine am_t_callV F tb_good tb_M_ok hC (As := []) (rest := [.int r]) (z := 73) (ci := 12) lm_m47 rfl (Nat.le_of_ble_eq_true rfl) lm_l28 rfl rfl (by decide) rfl rfl lm_i47 lm_s47 h2 dl_185 ?_
  refine am_t_icmp_eq F (t := 536) (by decide) dl_188 (fun _ => k hi2 hl2 h3) (fun h => absurd rfl h)
set_option maxHeartbeats 4000000 in
set_option maxRecDepth 20000 in
theorem lw_case3 {p : Program} {e : Env} {s : State} {m : MethodId} {below : List Frame} {meth : Method} {c : Code} {l : Launch} {b L : Nat} {xs : Nat → Int32} {D : va_G} {cA : Nat → ClassId} (hL : L ≤ 3072) (hX : va_X b L xs s s.heap) (hbl : b < s.heap.size) (F : am_Fx p room_1 s m #[Value.ref b] meth c tb_Tb tb_Nb D tb_cl tb_ty cA s.heap.size 0 "UsageProofsLaw" code 4 ret false) {Inv : (Nat → Nat → Int32) → (Nat → Nat → Int64) → Prop} (hP : ∀ (v0 : Int32) (v1 : Int32), lw_Pair Inv 4 49 [.int v0, .int v1]) (i : Nat) (hij : 6 * i + 6 ≤ L) (hi : Nat → Nat → Int32) (hl : Nat → Nat → Int64) (hI : Inv hi hl)
    (k : ∀ (hi2 : Nat → Nat → Int32) (hl2 : Nat → Nat → Int64), Inv hi2 hl2 → am_Cl p l e room_1 s m #[Value.ref b] below meth c 4 D tb_cl tb_ty cA s.heap.size 0 0 536 [(3, .int (nI (6 * i))), (2, .ref 73), (1, .ref 0), (0, .retAddr b)] [] (pr_S, hi2, hl2) (lw_Z below #[Value.ref b] s) 130 994938) : am_Cl p l e room_1 s m #[Value.ref b] below meth c 4 D tb_cl tb_ty cA s.heap.size 0 0 193 [(3, .int (nI (6 * i))), (2, .ref 73), (1, .ref 0), (0, .retAddr b)] [] (pr_S, hi, hl) (lw_Z below #[Value.ref b] s) 130 994938 := by
  have hC : am_Cs l room_1 tb_Tb tb_Nb D tb_cl tb_ty cA s.heap.size tb_M (am_call tb_P 2000) := tb_sim l cA D s.heap.size 2000 room_1 (by decide) (by decide)
  obtain ⟨r, hi1, hl1, hi2, hl2, h1, h2, h3⟩ := hP (xs (6 * i + 1)) (xs (6 * i + 2)) hi hl hI
  refine am_t_aloadn F rfl dl_193 ?_
  refine lw_rd F hX hbl hbl hL (i := i) (j := 1) rfl (by omega) dl_194 dl_195 dl_196 dl_197 dl_198 ?_
  refine lw_rd F hX hbl hbl hL (i := i) (j := 2) rfl (by omega) dl_199 dl_200 dl_201 dl_202 dl_203 ?_
  refine am_t_callV F tb_good tb_M_ok hC (As := [.int (xs (6 * i + 1)), .int (xs (6 * i + 2))]) (rest := []) (z := 0) (ci := 11) lm_m4 rfl (Nat.le_of_ble_eq_true rfl) lm_l29 rfl rfl (by decide) rfl rfl lm_i4 lm_s4 h1 dl_204 ?_
  refine am_t_aloadn F rfl dl_207 ?_
  refine lw_rd F hX hbl hbl hL (i := i) (j := 1) rfl (by omega) dl_208 dl_209 dl_210 dl_211 dl_212 ?_
  refine lw_rd F hX hbl hbl hL (i := i) (j := 2) rfl (by omega) dl_213 dl_214 dl_215 dl_216 dl_217 ?_
  refine am_t_callV F tb_good tb_M_ok hC (As := [.int (xs (6 * i + 1)), .int (xs (6 * i + 2))]) (rest := [.int r]) (z := 73) (ci := 12) lm_m49 rfl (Nat.le_of_ble_eq_true rfl) lm_l33 rfl rfl (by decide) rfl rfl lm_i49 lm_s49 h2 dl_218 ?_
  refine am_t_icmp_eq F (t := 536) (by decide) dl_221 (fun _ => k hi2 hl2 h3) (fun h => absurd rfl h)
set_option maxHeartbeats 4000000 in
set_option maxRecDepth 20000 in
theorem lw_case4 {p : Program} {e : Env} {s : State} {m : MethodId} {below : List Frame} {meth : Method} {c : Code} {l : Launch} {b L : Nat} {xs : Nat → Int32} {D : va_G} {cA : Nat → ClassId} (hL : L ≤ 3072) (hX : va_X b L xs s s.heap) (hbl : b < s.heap.size) (F : am_Fx p room_1 s m #[Value.ref b] meth c tb_Tb tb_Nb D tb_cl tb_ty cA s.heap.size 0 "UsageProofsLaw" code 4 ret false) {Inv : (Nat → Nat → Int32) → (Nat → Nat → Int64) → Prop} (hP : ∀ (v0 : Int32) (v1 : Int32), lw_Pair Inv 5 50 [.int v0, .int v1]) (i : Nat) (hij : 6 * i + 6 ≤ L) (hi : Nat → Nat → Int32) (hl : Nat → Nat → Int64) (hI : Inv hi hl)
    (k : ∀ (hi2 : Nat → Nat → Int32) (hl2 : Nat → Nat → Int64), Inv hi2 hl2 → am_Cl p l e room_1 s m #[Value.ref b] below meth c 4 D tb_cl tb_ty cA s.heap.size 0 0 536 [(3, .int (nI (6 * i))), (2, .ref 73), (1, .ref 0), (0, .retAddr b)] [] (pr_S, hi2, hl2) (lw_Z below #[Value.ref b] s) 130 994938) : am_Cl p l e room_1 s m #[Value.ref b] below meth c 4 D tb_cl tb_ty cA s.heap.size 0 0 226 [(3, .int (nI (6 * i))), (2, .ref 73), (1, .ref 0), (0, .retAddr b)] [] (pr_S, hi, hl) (lw_Z below #[Value.ref b] s) 130 994938 := by
  have hC : am_Cs l room_1 tb_Tb tb_Nb D tb_cl tb_ty cA s.heap.size tb_M (am_call tb_P 2000) := tb_sim l cA D s.heap.size 2000 room_1 (by decide) (by decide)
  obtain ⟨r, hi1, hl1, hi2, hl2, h1, h2, h3⟩ := hP (xs (6 * i + 1)) (xs (6 * i + 2)) hi hl hI
  refine am_t_aloadn F rfl dl_226 ?_
  refine lw_rd F hX hbl hbl hL (i := i) (j := 1) rfl (by omega) dl_227 dl_228 dl_229 dl_230 dl_231 ?_
  refine lw_rd F hX hbl hbl hL (i := i) (j := 2) rfl (by omega) dl_232 dl_233 dl_234 dl_235 dl_236 ?_
  refine am_t_callV F tb_good tb_M_ok hC (As := [.int (xs (6 * i + 1)), .int (xs (6 * i + 2))]) (rest := []) (z := 0) (ci := 11) lm_m5 rfl (Nat.le_of_ble_eq_true rfl) lm_l34 rfl rfl (by decide) rfl rfl lm_i5 lm_s5 h1 dl_237 ?_
  refine am_t_aloadn F rfl dl_240 ?_
  refine lw_rd F hX hbl hbl hL (i := i) (j := 1) rfl (by omega) dl_241 dl_242 dl_243 dl_244 dl_245 ?_
  refine lw_rd F hX hbl hbl hL (i := i) (j := 2) rfl (by omega) dl_246 dl_247 dl_248 dl_249 dl_250 ?_
  refine am_t_callV F tb_good tb_M_ok hC (As := [.int (xs (6 * i + 1)), .int (xs (6 * i + 2))]) (rest := [.int r]) (z := 73) (ci := 12) lm_m50 rfl (Nat.le_of_ble_eq_true rfl) lm_l37 rfl rfl (by decide) rfl rfl lm_i50 lm_s50 h2 dl_251 ?_
  refine am_t_icmp_eq F (t := 536) (by decide) dl_254 (fun _ => k hi2 hl2 h3) (fun h => absurd rfl h)
set_option maxHeartbeats 4000000 in
set_option maxRecDepth 20000 in
theorem lw_case5 {p : Program} {e : Env} {s : State} {m : MethodId} {below : List Frame} {meth : Method} {c : Code} {l : Launch} {b L : Nat} {xs : Nat → Int32} {D : va_G} {cA : Nat → ClassId} (hL : L ≤ 3072) (hX : va_X b L xs s s.heap) (hbl : b < s.heap.size) (F : am_Fx p room_1 s m #[Value.ref b] meth c tb_Tb tb_Nb D tb_cl tb_ty cA s.heap.size 0 "UsageProofsLaw" code 4 ret false) {Inv : (Nat → Nat → Int32) → (Nat → Nat → Int64) → Prop} (hP : lw_Pair Inv 6 64 []) (i : Nat) (hij : 6 * i + 6 ≤ L) (hi : Nat → Nat → Int32) (hl : Nat → Nat → Int64) (hI : Inv hi hl)
    (k : ∀ (hi2 : Nat → Nat → Int32) (hl2 : Nat → Nat → Int64), Inv hi2 hl2 → am_Cl p l e room_1 s m #[Value.ref b] below meth c 4 D tb_cl tb_ty cA s.heap.size 0 0 536 [(3, .int (nI (6 * i))), (2, .ref 73), (1, .ref 0), (0, .retAddr b)] [] (pr_S, hi2, hl2) (lw_Z below #[Value.ref b] s) 130 994938) : am_Cl p l e room_1 s m #[Value.ref b] below meth c 4 D tb_cl tb_ty cA s.heap.size 0 0 259 [(3, .int (nI (6 * i))), (2, .ref 73), (1, .ref 0), (0, .retAddr b)] [] (pr_S, hi, hl) (lw_Z below #[Value.ref b] s) 130 994938 := by
  have hC : am_Cs l room_1 tb_Tb tb_Nb D tb_cl tb_ty cA s.heap.size tb_M (am_call tb_P 2000) := tb_sim l cA D s.heap.size 2000 room_1 (by decide) (by decide)
  obtain ⟨r, hi1, hl1, hi2, hl2, h1, h2, h3⟩ := hP  hi hl hI
  refine am_t_aloadn F rfl dl_259 ?_
  refine am_t_callV F tb_good tb_M_ok hC (As := []) (rest := []) (z := 0) (ci := 11) lm_m6 rfl (Nat.le_of_ble_eq_true rfl) lm_l38 rfl rfl (by decide) rfl rfl lm_i6 lm_s6 h1 dl_260 ?_
  refine am_t_aloadn F rfl dl_263 ?_
  refine am_t_callV F tb_good tb_M_ok hC (As := []) (rest := [.int r]) (z := 73) (ci := 12) lm_m64 rfl (Nat.le_of_ble_eq_true rfl) lm_l41 rfl rfl (by decide) rfl rfl lm_i64 lm_s64 h2 dl_264 ?_
  refine am_t_icmp_eq F (t := 536) (by decide) dl_267 (fun _ => k hi2 hl2 h3) (fun h => absurd rfl h)
set_option maxHeartbeats 4000000 in
set_option maxRecDepth 20000 in
theorem lw_case6 {p : Program} {e : Env} {s : State} {m : MethodId} {below : List Frame} {meth : Method} {c : Code} {l : Launch} {b L : Nat} {xs : Nat → Int32} {D : va_G} {cA : Nat → ClassId} (hL : L ≤ 3072) (hX : va_X b L xs s s.heap) (hbl : b < s.heap.size) (F : am_Fx p room_1 s m #[Value.ref b] meth c tb_Tb tb_Nb D tb_cl tb_ty cA s.heap.size 0 "UsageProofsLaw" code 4 ret false) {Inv : (Nat → Nat → Int32) → (Nat → Nat → Int64) → Prop} (hP : ∀ (v0 : Int32) (v1 : Int32) (v2 : Int32) (v3 : Int32), lw_Pair Inv 7 66 [.int v0, .int v1, .int v2, .int v3]) (i : Nat) (hij : 6 * i + 6 ≤ L) (hi : Nat → Nat → Int32) (hl : Nat → Nat → Int64) (hI : Inv hi hl)
    (k : ∀ (hi2 : Nat → Nat → Int32) (hl2 : Nat → Nat → Int64), Inv hi2 hl2 → am_Cl p l e room_1 s m #[Value.ref b] below meth c 4 D tb_cl tb_ty cA s.heap.size 0 0 536 [(3, .int (nI (6 * i))), (2, .ref 73), (1, .ref 0), (0, .retAddr b)] [] (pr_S, hi2, hl2) (lw_Z below #[Value.ref b] s) 130 994938) : am_Cl p l e room_1 s m #[Value.ref b] below meth c 4 D tb_cl tb_ty cA s.heap.size 0 0 272 [(3, .int (nI (6 * i))), (2, .ref 73), (1, .ref 0), (0, .retAddr b)] [] (pr_S, hi, hl) (lw_Z below #[Value.ref b] s) 130 994938 := by
  have hC : am_Cs l room_1 tb_Tb tb_Nb D tb_cl tb_ty cA s.heap.size tb_M (am_call tb_P 2000) := tb_sim l cA D s.heap.size 2000 room_1 (by decide) (by decide)
  obtain ⟨r, hi1, hl1, hi2, hl2, h1, h2, h3⟩ := hP (xs (6 * i + 1)) (xs (6 * i + 2)) (xs (6 * i + 3)) (xs (6 * i + 4)) hi hl hI
  refine am_t_aloadn F rfl dl_272 ?_
  refine lw_rd F hX hbl hbl hL (i := i) (j := 1) rfl (by omega) dl_273 dl_274 dl_275 dl_276 dl_277 ?_
  refine lw_rd F hX hbl hbl hL (i := i) (j := 2) rfl (by omega) dl_278 dl_279 dl_280 dl_281 dl_282 ?_
  refine lw_rd F hX hbl hbl hL (i := i) (j := 3) rfl (by omega) dl_283 dl_284 dl_285 dl_286 dl_287 ?_
  refine lw_rd F hX hbl hbl hL (i := i) (j := 4) rfl (by omega) dl_288 dl_289 dl_290 dl_291 dl_292 ?_
  refine am_t_callV F tb_good tb_M_ok hC (As := [.int (xs (6 * i + 1)), .int (xs (6 * i + 2)), .int (xs (6 * i + 3)), .int (xs (6 * i + 4))]) (rest := []) (z := 0) (ci := 11) lm_m7 rfl (Nat.le_of_ble_eq_true rfl) lm_l42 rfl rfl (by decide) rfl rfl lm_i7 lm_s7 h1 dl_293 ?_
  refine am_t_aloadn F rfl dl_296 ?_
  refine lw_rd F hX hbl hbl hL (i := i) (j := 1) rfl (by omega) dl_297 dl_298 dl_299 dl_300 dl_301 ?_
  refine lw_rd F hX hbl hbl hL (i := i) (j := 2) rfl (by omega) dl_302 dl_303 dl_304 dl_305 dl_306 ?_
  refine lw_rd F hX hbl hbl hL (i := i) (j := 3) rfl (by omega) dl_307 dl_308 dl_309 dl_310 dl_311 ?_
  refine lw_rd F hX hbl hbl hL (i := i) (j := 4) rfl (by omega) dl_312 dl_313 dl_314 dl_315 dl_316 ?_
  refine am_t_callV F tb_good tb_M_ok hC (As := [.int (xs (6 * i + 1)), .int (xs (6 * i + 2)), .int (xs (6 * i + 3)), .int (xs (6 * i + 4))]) (rest := [.int r]) (z := 73) (ci := 12) lm_m66 rfl (Nat.le_of_ble_eq_true rfl) lm_l46 rfl rfl (by decide) rfl rfl lm_i66 lm_s66 h2 dl_317 ?_
  refine am_t_icmp_eq F (t := 536) (by decide) dl_320 (fun _ => k hi2 hl2 h3) (fun h => absurd rfl h)
set_option maxHeartbeats 4000000 in
set_option maxRecDepth 20000 in
theorem lw_case7 {p : Program} {e : Env} {s : State} {m : MethodId} {below : List Frame} {meth : Method} {c : Code} {l : Launch} {b L : Nat} {xs : Nat → Int32} {D : va_G} {cA : Nat → ClassId} (hL : L ≤ 3072) (hX : va_X b L xs s s.heap) (hbl : b < s.heap.size) (F : am_Fx p room_1 s m #[Value.ref b] meth c tb_Tb tb_Nb D tb_cl tb_ty cA s.heap.size 0 "UsageProofsLaw" code 4 ret false) {Inv : (Nat → Nat → Int32) → (Nat → Nat → Int64) → Prop} (hP : ∀ (v0 : Int32) (v1 : Int32) (v2 : Int32) (v3 : Int32) (v4 : Int32), lw_Pair Inv 8 67 [.int v0, .int v1, .int v2, .int v3, .int v4]) (i : Nat) (hij : 6 * i + 6 ≤ L) (hi : Nat → Nat → Int32) (hl : Nat → Nat → Int64) (hI : Inv hi hl)
    (k : ∀ (hi2 : Nat → Nat → Int32) (hl2 : Nat → Nat → Int64), Inv hi2 hl2 → am_Cl p l e room_1 s m #[Value.ref b] below meth c 4 D tb_cl tb_ty cA s.heap.size 0 0 536 [(3, .int (nI (6 * i))), (2, .ref 73), (1, .ref 0), (0, .retAddr b)] [] (pr_S, hi2, hl2) (lw_Z below #[Value.ref b] s) 130 994938) : am_Cl p l e room_1 s m #[Value.ref b] below meth c 4 D tb_cl tb_ty cA s.heap.size 0 0 325 [(3, .int (nI (6 * i))), (2, .ref 73), (1, .ref 0), (0, .retAddr b)] [] (pr_S, hi, hl) (lw_Z below #[Value.ref b] s) 130 994938 := by
  have hC : am_Cs l room_1 tb_Tb tb_Nb D tb_cl tb_ty cA s.heap.size tb_M (am_call tb_P 2000) := tb_sim l cA D s.heap.size 2000 room_1 (by decide) (by decide)
  obtain ⟨r, hi1, hl1, hi2, hl2, h1, h2, h3⟩ := hP (xs (6 * i + 1)) (xs (6 * i + 2)) (xs (6 * i + 3)) (xs (6 * i + 4)) (xs (6 * i + 5)) hi hl hI
  refine am_t_aloadn F rfl dl_325 ?_
  refine lw_rd F hX hbl hbl hL (i := i) (j := 1) rfl (by omega) dl_326 dl_327 dl_328 dl_329 dl_330 ?_
  refine lw_rd F hX hbl hbl hL (i := i) (j := 2) rfl (by omega) dl_331 dl_332 dl_333 dl_334 dl_335 ?_
  refine lw_rd F hX hbl hbl hL (i := i) (j := 3) rfl (by omega) dl_336 dl_337 dl_338 dl_339 dl_340 ?_
  refine lw_rd F hX hbl hbl hL (i := i) (j := 4) rfl (by omega) dl_341 dl_342 dl_343 dl_344 dl_345 ?_
  refine lw_rd F hX hbl hbl hL (i := i) (j := 5) rfl (by omega) dl_346 dl_347 dl_348 dl_349 dl_350 ?_
  refine am_t_callV F tb_good tb_M_ok hC (As := [.int (xs (6 * i + 1)), .int (xs (6 * i + 2)), .int (xs (6 * i + 3)), .int (xs (6 * i + 4)), .int (xs (6 * i + 5))]) (rest := []) (z := 0) (ci := 11) lm_m8 rfl (Nat.le_of_ble_eq_true rfl) lm_l47 rfl rfl (by decide) rfl rfl lm_i8 lm_s8 h1 dl_351 ?_
  refine am_t_aloadn F rfl dl_354 ?_
  refine lw_rd F hX hbl hbl hL (i := i) (j := 1) rfl (by omega) dl_355 dl_356 dl_357 dl_358 dl_359 ?_
  refine lw_rd F hX hbl hbl hL (i := i) (j := 2) rfl (by omega) dl_360 dl_361 dl_362 dl_363 dl_364 ?_
  refine lw_rd F hX hbl hbl hL (i := i) (j := 3) rfl (by omega) dl_365 dl_366 dl_367 dl_368 dl_369 ?_
  refine lw_rd F hX hbl hbl hL (i := i) (j := 4) rfl (by omega) dl_370 dl_371 dl_372 dl_373 dl_374 ?_
  refine lw_rd F hX hbl hbl hL (i := i) (j := 5) rfl (by omega) dl_375 dl_376 dl_377 dl_378 dl_379 ?_
  refine am_t_callV F tb_good tb_M_ok hC (As := [.int (xs (6 * i + 1)), .int (xs (6 * i + 2)), .int (xs (6 * i + 3)), .int (xs (6 * i + 4)), .int (xs (6 * i + 5))]) (rest := [.int r]) (z := 73) (ci := 12) lm_m67 rfl (Nat.le_of_ble_eq_true rfl) lm_l51 rfl rfl (by decide) rfl rfl lm_i67 lm_s67 h2 dl_380 ?_
  refine am_t_icmp_eq F (t := 536) (by decide) dl_383 (fun _ => k hi2 hl2 h3) (fun h => absurd rfl h)
set_option maxHeartbeats 4000000 in
set_option maxRecDepth 20000 in
theorem lw_case8 {p : Program} {e : Env} {s : State} {m : MethodId} {below : List Frame} {meth : Method} {c : Code} {l : Launch} {b L : Nat} {xs : Nat → Int32} {D : va_G} {cA : Nat → ClassId} (hL : L ≤ 3072) (hX : va_X b L xs s s.heap) (hbl : b < s.heap.size) (F : am_Fx p room_1 s m #[Value.ref b] meth c tb_Tb tb_Nb D tb_cl tb_ty cA s.heap.size 0 "UsageProofsLaw" code 4 ret false) {Inv : (Nat → Nat → Int32) → (Nat → Nat → Int64) → Prop} (hP : lw_Pair Inv 9 68 []) (i : Nat) (hij : 6 * i + 6 ≤ L) (hi : Nat → Nat → Int32) (hl : Nat → Nat → Int64) (hI : Inv hi hl)
    (k : ∀ (hi2 : Nat → Nat → Int32) (hl2 : Nat → Nat → Int64), Inv hi2 hl2 → am_Cl p l e room_1 s m #[Value.ref b] below meth c 4 D tb_cl tb_ty cA s.heap.size 0 0 536 [(3, .int (nI (6 * i))), (2, .ref 73), (1, .ref 0), (0, .retAddr b)] [] (pr_S, hi2, hl2) (lw_Z below #[Value.ref b] s) 130 994938) : am_Cl p l e room_1 s m #[Value.ref b] below meth c 4 D tb_cl tb_ty cA s.heap.size 0 0 388 [(3, .int (nI (6 * i))), (2, .ref 73), (1, .ref 0), (0, .retAddr b)] [] (pr_S, hi, hl) (lw_Z below #[Value.ref b] s) 130 994938 := by
  have hC : am_Cs l room_1 tb_Tb tb_Nb D tb_cl tb_ty cA s.heap.size tb_M (am_call tb_P 2000) := tb_sim l cA D s.heap.size 2000 room_1 (by decide) (by decide)
  obtain ⟨r, hi1, hl1, hi2, hl2, h1, h2, h3⟩ := hP  hi hl hI
  refine am_t_aloadn F rfl dl_388 ?_
  refine am_t_callV F tb_good tb_M_ok hC (As := []) (rest := []) (z := 0) (ci := 11) lm_m9 rfl (Nat.le_of_ble_eq_true rfl) lm_l52 rfl rfl (by decide) rfl rfl lm_i9 lm_s9 h1 dl_389 ?_
  refine am_t_aloadn F rfl dl_392 ?_
  refine am_t_callV F tb_good tb_M_ok hC (As := []) (rest := [.int r]) (z := 73) (ci := 12) lm_m68 rfl (Nat.le_of_ble_eq_true rfl) lm_l55 rfl rfl (by decide) rfl rfl lm_i68 lm_s68 h2 dl_393 ?_
  refine am_t_icmp_eq F (t := 536) (by decide) dl_396 (fun _ => k hi2 hl2 h3) (fun h => absurd rfl h)
set_option maxHeartbeats 4000000 in
set_option maxRecDepth 20000 in
theorem lw_case9 {p : Program} {e : Env} {s : State} {m : MethodId} {below : List Frame} {meth : Method} {c : Code} {l : Launch} {b L : Nat} {xs : Nat → Int32} {D : va_G} {cA : Nat → ClassId} (hL : L ≤ 3072) (hX : va_X b L xs s s.heap) (hbl : b < s.heap.size) (F : am_Fx p room_1 s m #[Value.ref b] meth c tb_Tb tb_Nb D tb_cl tb_ty cA s.heap.size 0 "UsageProofsLaw" code 4 ret false) {Inv : (Nat → Nat → Int32) → (Nat → Nat → Int64) → Prop} (hP : ∀ (v0 : Int32) (v1 : Int32), lw_Pair Inv 10 69 [.int v0, .int v1]) (i : Nat) (hij : 6 * i + 6 ≤ L) (hi : Nat → Nat → Int32) (hl : Nat → Nat → Int64) (hI : Inv hi hl)
    (k : ∀ (hi2 : Nat → Nat → Int32) (hl2 : Nat → Nat → Int64), Inv hi2 hl2 → am_Cl p l e room_1 s m #[Value.ref b] below meth c 4 D tb_cl tb_ty cA s.heap.size 0 0 536 [(3, .int (nI (6 * i))), (2, .ref 73), (1, .ref 0), (0, .retAddr b)] [] (pr_S, hi2, hl2) (lw_Z below #[Value.ref b] s) 130 994938) : am_Cl p l e room_1 s m #[Value.ref b] below meth c 4 D tb_cl tb_ty cA s.heap.size 0 0 401 [(3, .int (nI (6 * i))), (2, .ref 73), (1, .ref 0), (0, .retAddr b)] [] (pr_S, hi, hl) (lw_Z below #[Value.ref b] s) 130 994938 := by
  have hC : am_Cs l room_1 tb_Tb tb_Nb D tb_cl tb_ty cA s.heap.size tb_M (am_call tb_P 2000) := tb_sim l cA D s.heap.size 2000 room_1 (by decide) (by decide)
  obtain ⟨r, hi1, hl1, hi2, hl2, h1, h2, h3⟩ := hP (xs (6 * i + 1)) (xs (6 * i + 2)) hi hl hI
  refine am_t_aloadn F rfl dl_401 ?_
  refine lw_rd F hX hbl hbl hL (i := i) (j := 1) rfl (by omega) dl_402 dl_403 dl_404 dl_405 dl_406 ?_
  refine lw_rd F hX hbl hbl hL (i := i) (j := 2) rfl (by omega) dl_407 dl_408 dl_409 dl_410 dl_411 ?_
  refine am_t_callV F tb_good tb_M_ok hC (As := [.int (xs (6 * i + 1)), .int (xs (6 * i + 2))]) (rest := []) (z := 0) (ci := 11) lm_m10 rfl (Nat.le_of_ble_eq_true rfl) lm_l56 rfl rfl (by decide) rfl rfl lm_i10 lm_s10 h1 dl_412 ?_
  refine am_t_aloadn F rfl dl_415 ?_
  refine lw_rd F hX hbl hbl hL (i := i) (j := 1) rfl (by omega) dl_416 dl_417 dl_418 dl_419 dl_420 ?_
  refine lw_rd F hX hbl hbl hL (i := i) (j := 2) rfl (by omega) dl_421 dl_422 dl_423 dl_424 dl_425 ?_
  refine am_t_callV F tb_good tb_M_ok hC (As := [.int (xs (6 * i + 1)), .int (xs (6 * i + 2))]) (rest := [.int r]) (z := 73) (ci := 12) lm_m69 rfl (Nat.le_of_ble_eq_true rfl) lm_l59 rfl rfl (by decide) rfl rfl lm_i69 lm_s69 h2 dl_426 ?_
  refine am_t_icmp_eq F (t := 536) (by decide) dl_429 (fun _ => k hi2 hl2 h3) (fun h => absurd rfl h)
set_option maxHeartbeats 4000000 in
set_option maxRecDepth 20000 in
theorem lw_case10 {p : Program} {e : Env} {s : State} {m : MethodId} {below : List Frame} {meth : Method} {c : Code} {l : Launch} {b L : Nat} {xs : Nat → Int32} {D : va_G} {cA : Nat → ClassId} (hL : L ≤ 3072) (hX : va_X b L xs s s.heap) (hbl : b < s.heap.size) (F : am_Fx p room_1 s m #[Value.ref b] meth c tb_Tb tb_Nb D tb_cl tb_ty cA s.heap.size 0 "UsageProofsLaw" code 4 ret false) {Inv : (Nat → Nat → Int32) → (Nat → Nat → Int64) → Prop} (hP : ∀ (v0 : Int32) (v1 : Int32) (v2 : Int32), lw_Pair Inv 11 87 [.int v0, .int v1, .int v2]) (i : Nat) (hij : 6 * i + 6 ≤ L) (hi : Nat → Nat → Int32) (hl : Nat → Nat → Int64) (hI : Inv hi hl)
    (k : ∀ (hi2 : Nat → Nat → Int32) (hl2 : Nat → Nat → Int64), Inv hi2 hl2 → am_Cl p l e room_1 s m #[Value.ref b] below meth c 4 D tb_cl tb_ty cA s.heap.size 0 0 536 [(3, .int (nI (6 * i))), (2, .ref 73), (1, .ref 0), (0, .retAddr b)] [] (pr_S, hi2, hl2) (lw_Z below #[Value.ref b] s) 130 994938) : am_Cl p l e room_1 s m #[Value.ref b] below meth c 4 D tb_cl tb_ty cA s.heap.size 0 0 434 [(3, .int (nI (6 * i))), (2, .ref 73), (1, .ref 0), (0, .retAddr b)] [] (pr_S, hi, hl) (lw_Z below #[Value.ref b] s) 130 994938 := by
  have hC : am_Cs l room_1 tb_Tb tb_Nb D tb_cl tb_ty cA s.heap.size tb_M (am_call tb_P 2000) := tb_sim l cA D s.heap.size 2000 room_1 (by decide) (by decide)
  obtain ⟨r, hi1, hl1, hi2, hl2, h1, h2, h3⟩ := hP (xs (6 * i + 1)) (xs (6 * i + 2)) (xs (6 * i + 3)) hi hl hI
  refine am_t_aloadn F rfl dl_434 ?_
  refine lw_rd F hX hbl hbl hL (i := i) (j := 1) rfl (by omega) dl_435 dl_436 dl_437 dl_438 dl_439 ?_
  refine lw_rd F hX hbl hbl hL (i := i) (j := 2) rfl (by omega) dl_440 dl_441 dl_442 dl_443 dl_444 ?_
  refine lw_rd F hX hbl hbl hL (i := i) (j := 3) rfl (by omega) dl_445 dl_446 dl_447 dl_448 dl_449 ?_
  refine am_t_callV F tb_good tb_M_ok hC (As := [.int (xs (6 * i + 1)), .int (xs (6 * i + 2)), .int (xs (6 * i + 3))]) (rest := []) (z := 0) (ci := 11) lm_m11 rfl (Nat.le_of_ble_eq_true rfl) lm_l60 rfl rfl (by decide) rfl rfl lm_i11 lm_s11 h1 dl_450 ?_
  refine am_t_aloadn F rfl dl_453 ?_
  refine lw_rd F hX hbl hbl hL (i := i) (j := 1) rfl (by omega) dl_454 dl_455 dl_456 dl_457 dl_458 ?_
  refine lw_rd F hX hbl hbl hL (i := i) (j := 2) rfl (by omega) dl_459 dl_460 dl_461 dl_462 dl_463 ?_
  refine lw_rd F hX hbl hbl hL (i := i) (j := 3) rfl (by omega) dl_464 dl_465 dl_466 dl_467 dl_468 ?_
  refine am_t_callV F tb_good tb_M_ok hC (As := [.int (xs (6 * i + 1)), .int (xs (6 * i + 2)), .int (xs (6 * i + 3))]) (rest := [.int r]) (z := 73) (ci := 12) lm_m87 rfl (Nat.le_of_ble_eq_true rfl) lm_l64 rfl rfl (by decide) rfl rfl lm_i87 lm_s87 h2 dl_469 ?_
  refine am_t_icmp_eq F (t := 536) (by decide) dl_472 (fun _ => k hi2 hl2 h3) (fun h => absurd rfl h)
set_option maxHeartbeats 4000000 in
set_option maxRecDepth 20000 in
theorem lw_case11 {p : Program} {e : Env} {s : State} {m : MethodId} {below : List Frame} {meth : Method} {c : Code} {l : Launch} {b L : Nat} {xs : Nat → Int32} {D : va_G} {cA : Nat → ClassId} (hL : L ≤ 3072) (hX : va_X b L xs s s.heap) (hbl : b < s.heap.size) (F : am_Fx p room_1 s m #[Value.ref b] meth c tb_Tb tb_Nb D tb_cl tb_ty cA s.heap.size 0 "UsageProofsLaw" code 4 ret false) {Inv : (Nat → Nat → Int32) → (Nat → Nat → Int64) → Prop} (hP : lw_Pair Inv 12 88 []) (i : Nat) (hij : 6 * i + 6 ≤ L) (hi : Nat → Nat → Int32) (hl : Nat → Nat → Int64) (hI : Inv hi hl)
    (k : ∀ (hi2 : Nat → Nat → Int32) (hl2 : Nat → Nat → Int64), Inv hi2 hl2 → am_Cl p l e room_1 s m #[Value.ref b] below meth c 4 D tb_cl tb_ty cA s.heap.size 0 0 536 [(3, .int (nI (6 * i))), (2, .ref 73), (1, .ref 0), (0, .retAddr b)] [] (pr_S, hi2, hl2) (lw_Z below #[Value.ref b] s) 130 994938) : am_Cl p l e room_1 s m #[Value.ref b] below meth c 4 D tb_cl tb_ty cA s.heap.size 0 0 477 [(3, .int (nI (6 * i))), (2, .ref 73), (1, .ref 0), (0, .retAddr b)] [] (pr_S, hi, hl) (lw_Z below #[Value.ref b] s) 130 994938 := by
  have hC : am_Cs l room_1 tb_Tb tb_Nb D tb_cl tb_ty cA s.heap.size tb_M (am_call tb_P 2000) := tb_sim l cA D s.heap.size 2000 room_1 (by decide) (by decide)
  obtain ⟨r, hi1, hl1, hi2, hl2, h1, h2, h3⟩ := hP  hi hl hI
  refine am_t_aloadn F rfl dl_477 ?_
  refine am_t_callV F tb_good tb_M_ok hC (As := []) (rest := []) (z := 0) (ci := 11) lm_m12 rfl (Nat.le_of_ble_eq_true rfl) lm_l65 rfl rfl (by decide) rfl rfl lm_i12 lm_s12 h1 dl_478 ?_
  refine am_t_aloadn F rfl dl_481 ?_
  refine am_t_callV F tb_good tb_M_ok hC (As := []) (rest := [.int r]) (z := 73) (ci := 12) lm_m88 rfl (Nat.le_of_ble_eq_true rfl) lm_l68 rfl rfl (by decide) rfl rfl lm_i88 lm_s88 h2 dl_482 ?_
  refine am_t_icmp_eq F (t := 536) (by decide) dl_485 (fun _ => k hi2 hl2 h3) (fun h => absurd rfl h)
set_option maxHeartbeats 4000000 in
set_option maxRecDepth 20000 in
theorem lw_case12 {p : Program} {e : Env} {s : State} {m : MethodId} {below : List Frame} {meth : Method} {c : Code} {l : Launch} {b L : Nat} {xs : Nat → Int32} {D : va_G} {cA : Nat → ClassId} (hL : L ≤ 3072) (hX : va_X b L xs s s.heap) (hbl : b < s.heap.size) (F : am_Fx p room_1 s m #[Value.ref b] meth c tb_Tb tb_Nb D tb_cl tb_ty cA s.heap.size 0 "UsageProofsLaw" code 4 ret false) {Inv : (Nat → Nat → Int32) → (Nat → Nat → Int64) → Prop} (hP : ∀ (v0 : Int32), lw_Pair Inv 13 89 [.int v0]) (i : Nat) (hij : 6 * i + 6 ≤ L) (hi : Nat → Nat → Int32) (hl : Nat → Nat → Int64) (hI : Inv hi hl)
    (k : ∀ (hi2 : Nat → Nat → Int32) (hl2 : Nat → Nat → Int64), Inv hi2 hl2 → am_Cl p l e room_1 s m #[Value.ref b] below meth c 4 D tb_cl tb_ty cA s.heap.size 0 0 536 [(3, .int (nI (6 * i))), (2, .ref 73), (1, .ref 0), (0, .retAddr b)] [] (pr_S, hi2, hl2) (lw_Z below #[Value.ref b] s) 130 994938) : am_Cl p l e room_1 s m #[Value.ref b] below meth c 4 D tb_cl tb_ty cA s.heap.size 0 0 490 [(3, .int (nI (6 * i))), (2, .ref 73), (1, .ref 0), (0, .retAddr b)] [] (pr_S, hi, hl) (lw_Z below #[Value.ref b] s) 130 994938 := by
  have hC : am_Cs l room_1 tb_Tb tb_Nb D tb_cl tb_ty cA s.heap.size tb_M (am_call tb_P 2000) := tb_sim l cA D s.heap.size 2000 room_1 (by decide) (by decide)
  obtain ⟨r, hi1, hl1, hi2, hl2, h1, h2, h3⟩ := hP (xs (6 * i + 1)) hi hl hI
  refine am_t_aloadn F rfl dl_490 ?_
  refine lw_rd F hX hbl hbl hL (i := i) (j := 1) rfl (by omega) dl_491 dl_492 dl_493 dl_494 dl_495 ?_
  refine am_t_callV F tb_good tb_M_ok hC (As := [.int (xs (6 * i + 1))]) (rest := []) (z := 0) (ci := 11) lm_m13 rfl (Nat.le_of_ble_eq_true rfl) lm_l69 rfl rfl (by decide) rfl rfl lm_i13 lm_s13 h1 dl_496 ?_
  refine am_t_aloadn F rfl dl_499 ?_
  refine lw_rd F hX hbl hbl hL (i := i) (j := 1) rfl (by omega) dl_500 dl_501 dl_502 dl_503 dl_504 ?_
  refine am_t_callV F tb_good tb_M_ok hC (As := [.int (xs (6 * i + 1))]) (rest := [.int r]) (z := 73) (ci := 12) lm_m89 rfl (Nat.le_of_ble_eq_true rfl) lm_l73 rfl rfl (by decide) rfl rfl lm_i89 lm_s89 h2 dl_505 ?_
  refine am_t_icmp_eq F (t := 536) (by decide) dl_508 (fun _ => k hi2 hl2 h3) (fun h => absurd rfl h)
set_option maxHeartbeats 4000000 in
set_option maxRecDepth 20000 in
theorem lw_case13 {p : Program} {e : Env} {s : State} {m : MethodId} {below : List Frame} {meth : Method} {c : Code} {l : Launch} {b L : Nat} {xs : Nat → Int32} {D : va_G} {cA : Nat → ClassId} (hL : L ≤ 3072) (hX : va_X b L xs s s.heap) (hbl : b < s.heap.size) (F : am_Fx p room_1 s m #[Value.ref b] meth c tb_Tb tb_Nb D tb_cl tb_ty cA s.heap.size 0 "UsageProofsLaw" code 4 ret false) {Inv : (Nat → Nat → Int32) → (Nat → Nat → Int64) → Prop} (hP : ∀ (v0 : Int32), lw_Pair Inv 14 90 [.int v0]) (i : Nat) (hij : 6 * i + 6 ≤ L) (hi : Nat → Nat → Int32) (hl : Nat → Nat → Int64) (hI : Inv hi hl)
    (k : ∀ (hi2 : Nat → Nat → Int32) (hl2 : Nat → Nat → Int64), Inv hi2 hl2 → am_Cl p l e room_1 s m #[Value.ref b] below meth c 4 D tb_cl tb_ty cA s.heap.size 0 0 536 [(3, .int (nI (6 * i))), (2, .ref 73), (1, .ref 0), (0, .retAddr b)] [] (pr_S, hi2, hl2) (lw_Z below #[Value.ref b] s) 130 994938) : am_Cl p l e room_1 s m #[Value.ref b] below meth c 4 D tb_cl tb_ty cA s.heap.size 0 0 513 [(3, .int (nI (6 * i))), (2, .ref 73), (1, .ref 0), (0, .retAddr b)] [] (pr_S, hi, hl) (lw_Z below #[Value.ref b] s) 130 994938 := by
  have hC : am_Cs l room_1 tb_Tb tb_Nb D tb_cl tb_ty cA s.heap.size tb_M (am_call tb_P 2000) := tb_sim l cA D s.heap.size 2000 room_1 (by decide) (by decide)
  obtain ⟨r, hi1, hl1, hi2, hl2, h1, h2, h3⟩ := hP (xs (6 * i + 1)) hi hl hI
  refine am_t_aloadn F rfl dl_513 ?_
  refine lw_rd F hX hbl hbl hL (i := i) (j := 1) rfl (by omega) dl_514 dl_515 dl_516 dl_517 dl_518 ?_
  refine am_t_callV F tb_good tb_M_ok hC (As := [.int (xs (6 * i + 1))]) (rest := []) (z := 0) (ci := 11) lm_m14 rfl (Nat.le_of_ble_eq_true rfl) lm_l74 rfl rfl (by decide) rfl rfl lm_i14 lm_s14 h1 dl_519 ?_
  refine am_t_aloadn F rfl dl_522 ?_
  refine lw_rd F hX hbl hbl hL (i := i) (j := 1) rfl (by omega) dl_523 dl_524 dl_525 dl_526 dl_527 ?_
  refine am_t_callV F tb_good tb_M_ok hC (As := [.int (xs (6 * i + 1))]) (rest := [.int r]) (z := 73) (ci := 12) lm_m90 rfl (Nat.le_of_ble_eq_true rfl) lm_l77 rfl rfl (by decide) rfl rfl lm_i90 lm_s90 h2 dl_528 ?_
  refine am_t_icmp_eq F (t := 536) (by decide) dl_531 (fun _ => k hi2 hl2 h3) (fun h => absurd rfl h)
theorem lw_end {p : Program} {e : Env} {s : State} {m : MethodId} {below : List Frame} {meth : Method} {c : Code} {l : Launch} {b L : Nat} {xs : Nat → Int32} {D : va_G} {cA : Nat → ClassId} (hbl : b < s.heap.size) (F : am_Fx p room_1 s m #[Value.ref b] meth c tb_Tb tb_Nb D tb_cl tb_ty cA s.heap.size 0 "UsageProofsLaw" code 4 ret false) {pc : Nat} {ls : am_L} (hd : decode code pc = .ok (.ireturn, 1)) (hi : Nat → Nat → Int32) (hl : Nat → Nat → Int64) : am_Cl p l e room_1 s m #[Value.ref b] below meth c 4 D tb_cl tb_ty cA s.heap.size 0 0 pc ls [.int 1] (pr_S, hi, hl) (lw_Z below #[Value.ref b] s) 130 994938 := by
  refine ⟨⟨Nat.le_of_eq pr_len, Nat.le_of_eq pr_sz⟩, fun H locs lsR a1 a3 a4 a5 a6 a7 a8 => ?_⟩
  refine va_forget (fun q hq => a3.2.2 q hq) ?_
  refine W.widen (k := 600000) (n := 7302249) (by dsimp only; rw [pr_len]; omega) (by dsimp only; rw [pr_sz]; omega) ?_
  exact lw_ret F.1 F.2.1 F.2.2.2.2.2.2.2.2.1 F.2.2.2.2.2.2.2.1 hd
set_option maxHeartbeats 4000000 in
set_option maxRecDepth 20000 in
theorem lw_loop {p : Program} {e : Env} {s : State} {m : MethodId} {below : List Frame} {meth : Method} {c : Code} {l : Launch} {b L : Nat} {xs : Nat → Int32} {D : va_G} {cA : Nat → ClassId} (hL : L ≤ 3072) (hX : va_X b L xs s s.heap) (hbl : b < s.heap.size) (F : am_Fx p room_1 s m #[Value.ref b] meth c tb_Tb tb_Nb D tb_cl tb_ty cA s.heap.size 0 "UsageProofsLaw" code 4 ret false) {Inv : (Nat → Nat → Int32) → (Nat → Nat → Int64) → Prop} (hp : lw_Pub Inv) : ∀ (n i : Nat) (hi : Nat → Nat → Int32) (hl : Nat → Nat → Int64), Inv hi hl → 6 * i ≤ L → L < n + 6 * i → am_Cl p l e room_1 s m #[Value.ref b] below meth c 4 D tb_cl tb_ty cA s.heap.size 0 0 18 [(3, .int (nI (6 * i))), (2, .ref 73), (1, .ref 0), (0, .retAddr b)] [] (pr_S, hi, hl) (lw_Z below #[Value.ref b] s) 130 994938 := by
  intro n
  induction n with
  | zero => intro i hi hl _ h1 h2; omega
  | succ n ih =>
    intro i hi hl hI h1 h2
    refine am_t_iloadn F rfl dl_18 ?_
    refine lw_aload F rfl dl_19 ?_
    refine lw_slen F hX hbl hbl dl_20 ?_
    refine am_t_bipush F (x := 6) rfl dl_21 ?_
    refine am_t_isub F dl_23 ?_
    refine am_t_icmp_gt F (t := 542) (by decide) dl_24 (fun hc => ?_) (fun hc => ?_)
    · refine am_t_iconst F (x := 1) rfl dl_542 ?_
      exact lw_end (L := L) (xs := xs) hbl F dl_543 hi hl
    · have hlt : 6 * i + 6 ≤ L := lw_cmp hL h1 hc
      have back : ∀ (hi2 : Nat → Nat → Int32) (hl2 : Nat → Nat → Int64), Inv hi2 hl2 → am_Cl p l e room_1 s m #[Value.ref b] below meth c 4 D tb_cl tb_ty cA s.heap.size 0 0 536 [(3, .int (nI (6 * i))), (2, .ref 73), (1, .ref 0), (0, .retAddr b)] [] (pr_S, hi2, hl2) (lw_Z below #[Value.ref b] s) 130 994938 := by
        intro hi2 hl2 h3
        refine am_t_iinc F (y := 6) (by decide) rfl rfl dl_536 ?_
        refine am_t_goto F (t := 18) (by decide) dl_539 ?_
        have e6 : nI (6 * i) + 6 = nI (6 * (i + 1)) := by rw [show (6 : Int32) = nI 6 from rfl, nI_add]; congr 1
        rw [e6]
        exact ih (i + 1) hi2 hl2 h3 (by omega) (by omega)
      refine lw_aload F rfl dl_27 ?_
      refine am_t_iloadn F rfl dl_28 ?_
      refine lw_sld F hX hbl hbl (vp_in_nI (show 6 * i < L by omega) (by omega)) dl_29 ?_
      refine am_t_bipush F (x := 15) rfl dl_30 ?_
      refine am_t_iand F dl_32 ?_
      obtain ⟨j, hj, ej⟩ := pk_andE (xs (nI (6 * i)).toNatClampNeg) (m := 15) 4 rfl
      rw [ej]
      have hcases : j = 0 ∨ j = 1 ∨ j = 2 ∨ j = 3 ∨ j = 4 ∨ j = 5 ∨ j = 6 ∨ j = 7 ∨ j = 8 ∨ j = 9 ∨ j = 10 ∨ j = 11 ∨ j = 12 ∨ j = 13 ∨ j = 14 ∨ j = 15 := by omega
      rcases hcases with rfl | rfl | rfl | rfl | rfl | rfl | rfl | rfl | rfl | rfl | rfl | rfl | rfl | rfl | rfl | rfl
      · exact lw_tin F (t := 104) (by rw [lw_n0]; decide) (by rw [lw_n0]; decide) lw_o0 (by decide) dl_33 (lw_case0 hL hX hbl F hp.2.1 i hlt hi hl hI back)
      · exact lw_tin F (t := 167) (by rw [lw_n1]; decide) (by rw [lw_n1]; decide) lw_o1 (by decide) dl_33 (lw_case1 hL hX hbl F hp.2.2.1 i hlt hi hl hI back)
      · exact lw_tin F (t := 180) (by rw [lw_n2]; decide) (by rw [lw_n2]; decide) lw_o2 (by decide) dl_33 (lw_case2 hL hX hbl F hp.2.2.2.1 i hlt hi hl hI back)
      · exact lw_tin F (t := 193) (by rw [lw_n3]; decide) (by rw [lw_n3]; decide) lw_o3 (by decide) dl_33 (lw_case3 hL hX hbl F hp.2.2.2.2.1 i hlt hi hl hI back)
      · exact lw_tin F (t := 226) (by rw [lw_n4]; decide) (by rw [lw_n4]; decide) lw_o4 (by decide) dl_33 (lw_case4 hL hX hbl F hp.2.2.2.2.2.1 i hlt hi hl hI back)
      · exact lw_tin F (t := 259) (by rw [lw_n5]; decide) (by rw [lw_n5]; decide) lw_o5 (by decide) dl_33 (lw_case5 hL hX hbl F hp.2.2.2.2.2.2.1 i hlt hi hl hI back)
      · exact lw_tin F (t := 272) (by rw [lw_n6]; decide) (by rw [lw_n6]; decide) lw_o6 (by decide) dl_33 (lw_case6 hL hX hbl F hp.2.2.2.2.2.2.2.1 i hlt hi hl hI back)
      · exact lw_tin F (t := 325) (by rw [lw_n7]; decide) (by rw [lw_n7]; decide) lw_o7 (by decide) dl_33 (lw_case7 hL hX hbl F hp.2.2.2.2.2.2.2.2.1 i hlt hi hl hI back)
      · exact lw_tin F (t := 388) (by rw [lw_n8]; decide) (by rw [lw_n8]; decide) lw_o8 (by decide) dl_33 (lw_case8 hL hX hbl F hp.2.2.2.2.2.2.2.2.2.1 i hlt hi hl hI back)
      · exact lw_tin F (t := 401) (by rw [lw_n9]; decide) (by rw [lw_n9]; decide) lw_o9 (by decide) dl_33 (lw_case9 hL hX hbl F hp.2.2.2.2.2.2.2.2.2.2.1 i hlt hi hl hI back)
      · exact lw_tin F (t := 434) (by rw [lw_n10]; decide) (by rw [lw_n10]; decide) lw_o10 (by decide) dl_33 (lw_case10 hL hX hbl F hp.2.2.2.2.2.2.2.2.2.2.2.1 i hlt hi hl hI back)
      · exact lw_tin F (t := 477) (by rw [lw_n11]; decide) (by rw [lw_n11]; decide) lw_o11 (by decide) dl_33 (lw_case11 hL hX hbl F hp.2.2.2.2.2.2.2.2.2.2.2.2.1 i hlt hi hl hI back)
      · exact lw_tin F (t := 490) (by rw [lw_n12]; decide) (by rw [lw_n12]; decide) lw_o12 (by decide) dl_33 (lw_case12 hL hX hbl F hp.2.2.2.2.2.2.2.2.2.2.2.2.2.1 i hlt hi hl hI back)
      · exact lw_tin F (t := 513) (by rw [lw_n13]; decide) (by rw [lw_n13]; decide) lw_o13 (by decide) dl_33 (lw_case13 hL hX hbl F hp.2.2.2.2.2.2.2.2.2.2.2.2.2.2 i hlt hi hl hI back)
      · exact lw_tout F (t := 536) (by rw [lw_n14]; decide) (by decide) dl_33 (back hi hl hI)
      · exact lw_tout F (t := 536) (by rw [lw_n15]; decide) (by decide) dl_33 (back hi hl hI)
set_option maxHeartbeats 4000000 in
set_option maxRecDepth 20000 in
/-- THE LAW, from its entry, over the pairs of calls -/
theorem whole_start_open {Inv : (Nat → Nat → Int32) → (Nat → Nat → Int64) → Prop} (hp : lw_Pub Inv) {p : Program} {e : Env} {s : State} {m : MethodId} {below : List Frame} {meth : Method} {c : Code} (l : Launch) {b L : Nat} {xs : Nat → Int32} (hL : L ≤ 3072) (C0 : lw_At p s m meth c b L xs) : W p l e room_1 s m #[Value.ref b] below meth c s.heap [] 0 0 (lw_Z below #[Value.ref b] s) (entryFrame m ([Value.ref b] : List Value).toArray 4) := by
  obtain ⟨hx, hb, hr, hml, hown, hts0, hX, hbl, hlocks, hgv⟩ := id C0
  have hts : ∀ w ∈ tb_Tb, w.before #[Value.ref b] s = true := fun w hw => hts0 w (List.mem_filter.mp hw).1
  obtain ⟨c0, iS0, hKn0⟩ := u_known (C := "UsageProofs$Bindings") (T := tb_T0) (N := 6) (n := 6) hts (tb_C_ok 0 _ rfl).1 (hts _ lm_x0)
  obtain ⟨c1, iS1, hKn1⟩ := u_known (C := "UsageProofs$Cells") (T := tb_T1) (N := 6) (n := 6) hts (tb_C_ok 1 _ rfl).1 (hts _ lm_x1)
  obtain ⟨c2, iS2, hKn2⟩ := u_known (C := "UsageProofs$Foreteller") (T := tb_T2) (N := 8) (n := 8) hts (tb_C_ok 2 _ rfl).1 (hts _ lm_x2)
  obtain ⟨c3, iS3, hKn3⟩ := u_known (C := "UsageProofs$Functions") (T := tb_T3) (N := 7) (n := 7) hts (tb_C_ok 3 _ rfl).1 (hts _ lm_x3)
  obtain ⟨c4, iS4, hKn4⟩ := u_known (C := "UsageProofs$Layers") (T := tb_T4) (N := 4) (n := 4) hts (tb_C_ok 4 _ rfl).1 (hts _ lm_x4)
  obtain ⟨c5, iS5, hKn5⟩ := u_known (C := "UsageProofs$Machine") (T := tb_T5) (N := 19) (n := 19) hts (tb_C_ok 5 _ rfl).1 (hts _ lm_x5)
  obtain ⟨c6, iS6, hKn6⟩ := u_known (C := "UsageProofs$Parser") (T := tb_T6) (N := 8) (n := 8) hts (tb_C_ok 6 _ rfl).1 (hts _ lm_x6)
  obtain ⟨c7, iS7, hKn7⟩ := u_known (C := "UsageProofs$Program") (T := tb_T7) (N := 16) (n := 16) hts (tb_C_ok 7 _ rfl).1 (hts _ lm_x7)
  obtain ⟨c8, iS8, hKn8⟩ := u_known (C := "UsageProofs$Rows") (T := tb_T8) (N := 6) (n := 6) hts (tb_C_ok 8 _ rfl).1 (hts _ lm_x8)
  obtain ⟨c9, iS9, hKn9⟩ := u_known (C := "UsageProofs$Text") (T := tb_T9) (N := 7) (n := 7) hts (tb_C_ok 9 _ rfl).1 (hts _ lm_x9)
  obtain ⟨c10, iS10, hKn10⟩ := u_known (C := "UsageProofs$Waits") (T := tb_T10) (N := 5) (n := 5) hts (tb_C_ok 10 _ rfl).1 (hts _ lm_x10)
  obtain ⟨c11, iS11, hKn11⟩ := u_known (C := "UsageProofs") (T := tb_T11) (N := 10) (n := 10) hts (tb_C_ok 11 _ rfl).1 (hts _ lm_x11)
  obtain ⟨c12, iS12, hKn12⟩ := u_known (C := "UsageProofsModel") (T := tb_T12) (N := 86) (n := 86) hts (tb_C_ok 12 _ rfl).1 (hts _ lm_x12)
  obtain ⟨dC, dI, hKc⟩ : ∃ (dC : Nat → ClassId) (dI : Nat → Nat → Nat), ∀ (k : Nat) (q : vw_C), tb_cl[k]? = some q → u_Kn s q.1 q.2.1 q.2.2 (dC k) (dI k) := by
    refine ⟨fun k => match k with | 0 => c0 | 1 => c1 | 2 => c2 | 3 => c3 | 4 => c4 | 5 => c5 | 6 => c6 | 7 => c7 | 8 => c8 | 9 => c9 | 10 => c10 | 11 => c11 | _ => c12, fun k => match k with | 0 => iS0 | 1 => iS1 | 2 => iS2 | 3 => iS3 | 4 => iS4 | 5 => iS5 | 6 => iS6 | 7 => iS7 | 8 => iS8 | 9 => iS9 | 10 => iS10 | 11 => iS11 | _ => iS12, ?_⟩
    intro k q hq
    match k, hq with
    | 0, hq => cases hq; exact hKn0
    | 1, hq => cases hq; exact hKn1
    | 2, hq => cases hq; exact hKn2
    | 3, hq => cases hq; exact hKn3
    | 4, hq => cases hq; exact hKn4
    | 5, hq => cases hq; exact hKn5
    | 6, hq => cases hq; exact hKn6
    | 7, hq => cases hq; exact hKn7
    | 8, hq => cases hq; exact hKn8
    | 9, hq => cases hq; exact hKn9
    | 10, hq => cases hq; exact hKn10
    | 11, hq => cases hq; exact hKn11
    | 12, hq => cases hq; exact hKn12
    | k + 13, hq => simp [tb_cl] at hq
  obtain ⟨cA0, kA0, cm0, hA0, hB0, hD0⟩ := Cond.arrayClass_spec (hts _ lm_a_int)
  obtain ⟨cA1, kA1, cm1, hA1, hB1, hD1⟩ := Cond.arrayClass_spec (hts _ lm_a_long)
  obtain ⟨cA2, kA2, cm2, hA2, hB2, hD2⟩ := Cond.arrayClass_spec (hts _ lm_a_byte)
  obtain ⟨cA3, kA3, cm3, hA3, hB3, hD3⟩ := Cond.arrayClass_spec (hts _ lm_a_boolean)
  obtain ⟨cA, e0, e1, e2, e3⟩ : ∃ cA : Nat → ClassId, cA 100 = cA0 ∧ cA 101 = cA1 ∧ cA 102 = cA2 ∧ cA 103 = cA3 := ⟨fun k => if k = 100 then cA0 else if k = 101 then cA1 else if k = 102 then cA2 else cA3, by simp, by simp, by simp, by simp⟩
  have hK : va_K (dC, dI) tb_cl (am_tys cA) s := by
    refine ⟨hKc, fun k q hq => ?_⟩
    match k, hq with
    | 0, hq => cases hq; dsimp only; rw [e0]; exact ⟨fun n z => ⟨fun k h => (by cases h), kA0, hB0, cm0, hD0⟩, hA0⟩
    | 1, hq => cases hq; dsimp only; rw [e1]; exact ⟨fun n z => ⟨fun k h => (by cases h), kA1, hB1, cm1, hD1⟩, hA1⟩
    | 2, hq => cases hq; dsimp only; rw [e2]; exact ⟨fun n z => ⟨fun k h => (by cases h), kA2, hB2, cm2, hD2⟩, hA2⟩
    | 3, hq => cases hq; dsimp only; rw [e3]; exact ⟨fun n z => ⟨fun k h => (by cases h), kA3, hB3, cm3, hD3⟩, hA3⟩
    | k + 4, hq => simp [am_tys] at hq
  have hN : ∀ q ∈ tb_Nb, va_Nw (.methodLinkNest q.1 q.2.1 q.2.2.1 q.2.2.2) s := fun q hq => va_Nw.of rfl (hts0 _ (tb_Nb_in q hq))
  have F : am_Fx p room_1 s m #[Value.ref b] meth c tb_Tb tb_Nb (dC, dI) tb_cl tb_ty cA s.heap.size 0 "UsageProofsLaw" code 4 ret false := ⟨hx, hb, hml, hown, hts, hN, hK, hlocks, hr, (fun h => by cases h), rfl, (by decide), (by decide)⟩
  have hC : am_Cs l room_1 tb_Tb tb_Nb (dC, dI) tb_cl tb_ty cA s.heap.size tb_M (am_call tb_P 2000) := tb_sim l cA (dC, dI) s.heap.size 2000 room_1 (by decide) (by decide)
  obtain ⟨⟨G1, hi, hl, h1, hl1, hz1, h2, hI⟩, -⟩ := id hp
  have key : am_Cl p l e room_1 s m #[Value.ref b] below meth c 4 (dC, dI) tb_cl tb_ty cA s.heap.size 0 0 0 [(0, .retAddr b)] [] ([], (fun _ _ => 0), (fun _ _ => 0)) (lw_Z below #[Value.ref b] s) 130 994938 := by
    refine am_t_new F tb_C_ok (ci := 11) (rest := []) rfl lm_c7 lm_n0 lm_z0 (by decide) (by decide) dl_0 ?_
    refine am_t_dup F rfl dl_3 ?_
    refine am_t_callI F tb_good tb_M_ok hC (As := []) (rest := [.ref 0]) (z := 0) lm_m0 rfl (Nat.le_of_ble_eq_true rfl) lm_l9 rfl rfl lm_i0 h1 dl_4 ?_
    refine am_t_astoren F (by decide) dl_7 ?_
    refine am_t_new F tb_C_ok (ci := 12) (rest := []) rfl lm_c10 lm_n1 lm_z1 (by decide) (by decide) dl_8 ?_
    rw [hl1]
    refine am_t_dup F rfl dl_11 ?_
    refine am_t_callI F tb_good tb_M_ok hC (As := []) (rest := [.ref 73]) (z := 73) lm_m19 rfl (Nat.le_of_ble_eq_true rfl) lm_l12 rfl rfl lm_i19 h2 dl_12 ?_
    refine am_t_astoren F (by decide) dl_15 ?_
    refine am_t_iconst F (x := 0) rfl dl_16 ?_
    refine am_t_istoren F (by decide) dl_17 ?_
    exact lw_loop hL hX hbl F hp (L + 1) 0 hi hl hI (by omega) (by omega)
  have hP0 : va_P (dC, dI) tb_cl (am_w tb_ty cA s.heap.size ([], (fun _ _ => 0), (fun _ _ => 0))) s.heap := fun k q h => by simp [am_w] at h
  have hl0 := lv_entry ([.ref b]) (n := 4) (Nat.le_of_ble_eq_true rfl)
  rw [lg_entry_eq]
  exact key.2 s.heap [] _ hP0 va_S.rf hl0 (Nat.le_refl _) (Nat.le_refl _) (by decide) (by decide)
