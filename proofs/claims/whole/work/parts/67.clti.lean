/-! ===== the law: its cases ===== -/
theorem RLn.kk {h : zH} {q : Nat} (r : RLn h q) : h.1 = KK := by
  obtain ⟨σ, cnt, t, L, S, n, F, ad, dl, r⟩ := r
  exact r.2.2.2.1.1
theorem RLn.rm {h : zH} {q : Nat} (r : RLn h q) : zRM h := by
  obtain ⟨σ, cnt, t, L, S, n, F, ad, dl, r⟩ := r
  exact r.2.2.2.1
theorem lw_addGroup {h : zH} {q : Nat} (hR : RLn h q) (hq : q ≤ 10800) {i : Int} {a b : Nat} (hi : 0 ≤ i) (hl : i + 3 < (h.2.1 4131 0).toNat) (hl2 : h.2.1 4131 0 ≤ 2048) (ha : a ≤ 600000) (hb : b ≤ 7000000) : ∃ h2 : zH, RLn h2 (q + 21) ∧ (∀ o, 272 ≤ o → h2.2.1 o = h.2.1 o) ∧ ∀ o : zO, Ev M_L_law 1501 [(4, zi i), (3, zr (some 271)), (2, zr (some 260)), (1, zr (some 0)), (0, zr (some 4130))] [] h2 (a + 4, b + 24) o → Ev M_L_law 148 [(4, zi i), (3, zr (some 271)), (2, zr (some 260)), (1, zr (some 0)), (0, zr (some 4130))] [] h (a, b) o := by
  obtain ⟨h1, h2, code, r, e1, e2, e3, e4, e5, e6, e7⟩ := st_addGroup hR hq (a := h.2.1 4130 (i + 1)) (b := h.2.1 4130 (i + 2))
  refine ⟨h2, e4, e5, fun o kk => ?_⟩
  have hK1 : h1.1 = KK := e6
  have hK2 : h2.1 = KK := e4.kk
  have s1 := e7 4130 (by decide)
  have s2 := congrFun (e7 4131 (by decide)) 0
  refine Ev.aload_n (pc := 148) (n := (a, b)) (i := 1) dL_law_148 rfl rfl ?_
  refine Ev.aload_n (pc := 149) (n := (a, b)) (i := 0) dL_law_149 rfl rfl ?_
  refine Ev.iload (pc := 150) (n := (a, b)) dL_law_150 rfl ?_
  refine Ev.iconst (pc := 152) (n := (a, b)) dL_law_152 ?_
  refine Ev.iadd (pc := 153) (n := (a, b)) dL_law_153 ⟨by omega, by omega⟩ ?_
  refine Ev.iaS (pc := 154) (n := (a, b)) (i := i + 1) dL_law_154 (by omega) (by omega) ?_
  skip
  refine Ev.aload_n (pc := 155) (n := (a, b)) (i := 0) dL_law_155 rfl rfl ?_
  refine Ev.iload (pc := 156) (n := (a, b)) dL_law_156 rfl ?_
  refine Ev.iconst (pc := 158) (n := (a, b)) dL_law_158 ?_
  refine Ev.iadd (pc := 159) (n := (a, b)) dL_law_159 ⟨by omega, by omega⟩ ?_
  refine Ev.iaS (pc := 160) (n := (a, b)) (i := i + 2) dL_law_160 (by omega) (by omega) ?_
  skip
  refine Ev.aload_n (pc := 161) (n := (a, b)) (i := 3) dL_law_161 rfl rfl ?_
  refine Ev.callSH (pc := 162) (n := (a, b)) (as := [zr (some 0), zi (h.2.1 4130 (i + 1)), zi (h.2.1 4130 (i + 2)), zr (some 271)]) (st := []) e1 dL_law_162 okH_addGroup (lk_L_83 rfl) ⟨(Nat.le_of_ble_eq_true rfl), (Nat.le_of_ble_eq_true rfl)⟩ rfl (Nat.le_of_ble_eq_true rfl) (Nat.le_of_ble_eq_true rfl) ⟨by show a + 3 ≤ 601024; omega, by show b + 18 ≤ 7293033; omega⟩ ?_
  refine Ev.istore (pc := 165) (n := (a + 3, b + 18)) (i := 5) (L' := [(5, zi code), (4, zi i), (3, zr (some 271)), (2, zr (some 260)), (1, zr (some 0)), (0, zr (some 4130))]) dL_law_165 (Nat.le_of_ble_eq_true rfl) rfl ?_
  refine Ev.aload_n (pc := 167) (n := (a + 3, b + 18)) (i := 2) dL_law_167 rfl rfl ?_
  refine Ev.aload_n (pc := 168) (n := (a + 3, b + 18)) (i := 0) dL_law_168 rfl rfl ?_
  refine Ev.iload (pc := 169) (n := (a + 3, b + 18)) dL_law_169 rfl ?_
  refine Ev.iconst (pc := 171) (n := (a + 3, b + 18)) dL_law_171 ?_
  refine Ev.iadd (pc := 172) (n := (a + 3, b + 18)) dL_law_172 ⟨by omega, by omega⟩ ?_
  refine Ev.iaS (pc := 173) (n := (a + 3, b + 18)) (i := i + 1) dL_law_173 (by omega) (by rw [s2]; omega) ?_
  rw [show (h1).2.1 4130 (i + 1) = h.2.1 4130 (i + 1) from congrFun s1 (i + 1)]
  refine Ev.aload_n (pc := 174) (n := (a + 3, b + 18)) (i := 0) dL_law_174 rfl rfl ?_
  refine Ev.iload (pc := 175) (n := (a + 3, b + 18)) dL_law_175 rfl ?_
  refine Ev.iconst (pc := 177) (n := (a + 3, b + 18)) dL_law_177 ?_
  refine Ev.iadd (pc := 178) (n := (a + 3, b + 18)) dL_law_178 ⟨by omega, by omega⟩ ?_
  refine Ev.iaS (pc := 179) (n := (a + 3, b + 18)) (i := i + 2) dL_law_179 (by omega) (by rw [s2]; omega) ?_
  rw [show (h1).2.1 4130 (i + 2) = h.2.1 4130 (i + 2) from congrFun s1 (i + 2)]
  refine Ev.callV (pc := 180) (n := (a + 3, b + 18)) (ob := 260) (as := [zi (h.2.1 4130 (i + 1)), zi (h.2.1 4130 (i + 2))]) (st := []) e2 dL_law_180 ok_X7_addGroup (lk_L_88 rfl) ⟨(Nat.le_of_ble_eq_true rfl), (Nat.le_of_ble_eq_true rfl)⟩ (zk_at hK1 rfl) ⟨by decide, rfl⟩ rfl (Nat.le_of_ble_eq_true rfl) (Nat.le_of_ble_eq_true rfl) ⟨by show a + 3 ≤ 601024; omega, by show b + 18 ≤ 7293033; omega⟩ ?_
  refine Ev.istore (pc := 183) (n := (a + 3, b + 18)) (i := 6) (L' := [(6, zi r), (5, zi code), (4, zi i), (3, zr (some 271)), (2, zr (some 260)), (1, zr (some 0)), (0, zr (some 4130))]) dL_law_183 (Nat.le_of_ble_eq_true rfl) rfl ?_
  refine Ev.aload_n (pc := 185) (n := (a + 3, b + 18)) (i := 2) dL_law_185 rfl rfl ?_
  refine Ev.callV (pc := 186) (n := (a + 3, b + 18)) (ob := 260) (as := []) (st := []) (s_thrown e4.rm) dL_law_186 ok_X7_thrown (lk_L_89 rfl) ⟨(Nat.le_of_ble_eq_true rfl), (Nat.le_of_ble_eq_true rfl)⟩ (zk_at hK2 rfl) ⟨by decide, rfl⟩ rfl (Nat.le_of_ble_eq_true rfl) (Nat.le_of_ble_eq_true rfl) ⟨by show a + 3 ≤ 601024; omega, by show b + 18 ≤ 7293033; omega⟩ ?_
  refine Ev.iload (pc := 189) (n := (a + 3, b + 18)) dL_law_189 rfl ?_
  refine Ev.icmp_eq (pc := 191) (n := (a + 3, b + 18)) (tgt := 196) dL_law_191 rfl (fun hc => ?_) (fun hc => absurd e3.1 hc)
  refine Ev.iload (pc := 196) (n := (a + 3, b + 18)) dL_law_196 rfl ?_
  refine Ev.if_ne (pc := 198) (n := (a + 3, b + 18)) (tgt := 213) dL_law_198 rfl (fun hc => ?_) (fun hc => ?_)
  · skip
    refine Ev.goto (pc := 213) (n := (a + 3, b + 18)) (tgt := 1501) dL_law_213 rfl ?_
    refine Ev.loc (L' := [(4, zi i), (3, zr (some 271)), (2, zr (some 260)), (1, zr (some 0)), (0, zr (some 4130))]) (fun q hq => List.mem_cons_of_mem _ (List.mem_cons_of_mem _ hq)) ?_
    exact Ev.wide (by show a + 3 ≤ a + 4; omega) (by show b + 18 ≤ b + 24; omega) kk
  · skip
    refine Ev.aload_n (pc := 201) (n := (a + 3, b + 18)) (i := 3) dL_law_201 rfl rfl ?_
    refine Ev.iconst (pc := 202) (n := (a + 3, b + 18)) dL_law_202 ?_
    refine Ev.la (pc := 203) (n := (a + 3, b + 18)) (x := r) dL_law_203 (zk_at hK2 rfl) (by omega) (by omega) (e3.2 hc) ?_
    refine Ev.iload (pc := 204) (n := (a + 3, b + 18)) dL_law_204 rfl ?_
    refine Ev.i2l (pc := 206) (n := (a + 3, b + 18)) dL_law_206 ?_
    refine Ev.lcmp (pc := 207) (n := (a + 3, b + 18)) dL_law_207 ?_
    refine Ev.if_eq (pc := 208) (n := (a + 3, b + 18)) (tgt := 213) dL_law_208 rfl (fun hc => ?_) (fun hc => absurd (by rw [if_neg (Int.lt_irrefl r), if_pos rfl]) hc)
    refine Ev.goto (pc := 213) (n := (a + 3, b + 18)) (tgt := 1501) dL_law_213 rfl ?_
    refine Ev.loc (L' := [(4, zi i), (3, zr (some 271)), (2, zr (some 260)), (1, zr (some 0)), (0, zr (some 4130))]) (fun q hq => List.mem_cons_of_mem _ (List.mem_cons_of_mem _ hq)) ?_
    exact Ev.wide (by show a + 3 ≤ a + 4; omega) (by show b + 18 ≤ b + 24; omega) kk
theorem lw_addTask {h : zH} {q : Nat} (hR : RLn h q) (hq : q ≤ 10800) {i : Int} {a b : Nat} (hi : 0 ≤ i) (hl : i + 3 < (h.2.1 4131 0).toNat) (hl2 : h.2.1 4131 0 ≤ 2048) (ha : a ≤ 600000) (hb : b ≤ 7000000) : ∃ h2 : zH, RLn h2 (q + 21) ∧ (∀ o, 272 ≤ o → h2.2.1 o = h.2.1 o) ∧ ∀ o : zO, Ev M_L_law 1501 [(4, zi i), (3, zr (some 271)), (2, zr (some 260)), (1, zr (some 0)), (0, zr (some 4130))] [] h2 (a + 4, b + 24) o → Ev M_L_law 216 [(4, zi i), (3, zr (some 271)), (2, zr (some 260)), (1, zr (some 0)), (0, zr (some 4130))] [] h (a, b) o := by
  obtain ⟨h1, h2, code, r, e1, e2, e3, e4, e5, e6, e7⟩ := st_addTask hR hq (a := h.2.1 4130 (i + 1)) (b := h.2.1 4130 (i + 2)) (c := h.2.1 4130 (i + 3))
  refine ⟨h2, e4, e5, fun o kk => ?_⟩
  have hK1 : h1.1 = KK := e6
  have hK2 : h2.1 = KK := e4.kk
  have s1 := e7 4130 (by decide)
  have s2 := congrFun (e7 4131 (by decide)) 0
  refine Ev.aload_n (pc := 216) (n := (a, b)) (i := 1) dL_law_216 rfl rfl ?_
  refine Ev.aload_n (pc := 217) (n := (a, b)) (i := 0) dL_law_217 rfl rfl ?_
  refine Ev.iload (pc := 218) (n := (a, b)) dL_law_218 rfl ?_
  refine Ev.iconst (pc := 220) (n := (a, b)) dL_law_220 ?_
  refine Ev.iadd (pc := 221) (n := (a, b)) dL_law_221 ⟨by omega, by omega⟩ ?_
  refine Ev.iaS (pc := 222) (n := (a, b)) (i := i + 1) dL_law_222 (by omega) (by omega) ?_
  skip
  refine Ev.aload_n (pc := 223) (n := (a, b)) (i := 0) dL_law_223 rfl rfl ?_
  refine Ev.iload (pc := 224) (n := (a, b)) dL_law_224 rfl ?_
  refine Ev.iconst (pc := 226) (n := (a, b)) dL_law_226 ?_
  refine Ev.iadd (pc := 227) (n := (a, b)) dL_law_227 ⟨by omega, by omega⟩ ?_
  refine Ev.iaS (pc := 228) (n := (a, b)) (i := i + 2) dL_law_228 (by omega) (by omega) ?_
  skip
  refine Ev.aload_n (pc := 229) (n := (a, b)) (i := 0) dL_law_229 rfl rfl ?_
  refine Ev.iload (pc := 230) (n := (a, b)) dL_law_230 rfl ?_
  refine Ev.iconst (pc := 232) (n := (a, b)) dL_law_232 ?_
  refine Ev.iadd (pc := 233) (n := (a, b)) dL_law_233 ⟨by omega, by omega⟩ ?_
  refine Ev.iaS (pc := 234) (n := (a, b)) (i := i + 3) dL_law_234 (by omega) (by omega) ?_
  skip
  refine Ev.aload_n (pc := 235) (n := (a, b)) (i := 3) dL_law_235 rfl rfl ?_
  refine Ev.callSH (pc := 236) (n := (a, b)) (as := [zr (some 0), zi (h.2.1 4130 (i + 1)), zi (h.2.1 4130 (i + 2)), zi (h.2.1 4130 (i + 3)), zr (some 271)]) (st := []) e1 dL_law_236 okH_addTask (lk_L_92 rfl) ⟨(Nat.le_of_ble_eq_true rfl), (Nat.le_of_ble_eq_true rfl)⟩ rfl (Nat.le_of_ble_eq_true rfl) (Nat.le_of_ble_eq_true rfl) ⟨by show a + 3 ≤ 601024; omega, by show b + 18 ≤ 7293033; omega⟩ ?_
  refine Ev.istore (pc := 239) (n := (a + 3, b + 18)) (i := 5) (L' := [(5, zi code), (4, zi i), (3, zr (some 271)), (2, zr (some 260)), (1, zr (some 0)), (0, zr (some 4130))]) dL_law_239 (Nat.le_of_ble_eq_true rfl) rfl ?_
  refine Ev.aload_n (pc := 241) (n := (a + 3, b + 18)) (i := 2) dL_law_241 rfl rfl ?_
  refine Ev.aload_n (pc := 242) (n := (a + 3, b + 18)) (i := 0) dL_law_242 rfl rfl ?_
  refine Ev.iload (pc := 243) (n := (a + 3, b + 18)) dL_law_243 rfl ?_
  refine Ev.iconst (pc := 245) (n := (a + 3, b + 18)) dL_law_245 ?_
  refine Ev.iadd (pc := 246) (n := (a + 3, b + 18)) dL_law_246 ⟨by omega, by omega⟩ ?_
  refine Ev.iaS (pc := 247) (n := (a + 3, b + 18)) (i := i + 1) dL_law_247 (by omega) (by rw [s2]; omega) ?_
  rw [show (h1).2.1 4130 (i + 1) = h.2.1 4130 (i + 1) from congrFun s1 (i + 1)]
  refine Ev.aload_n (pc := 248) (n := (a + 3, b + 18)) (i := 0) dL_law_248 rfl rfl ?_
  refine Ev.iload (pc := 249) (n := (a + 3, b + 18)) dL_law_249 rfl ?_
  refine Ev.iconst (pc := 251) (n := (a + 3, b + 18)) dL_law_251 ?_
  refine Ev.iadd (pc := 252) (n := (a + 3, b + 18)) dL_law_252 ⟨by omega, by omega⟩ ?_
  refine Ev.iaS (pc := 253) (n := (a + 3, b + 18)) (i := i + 2) dL_law_253 (by omega) (by rw [s2]; omega) ?_
  rw [show (h1).2.1 4130 (i + 2) = h.2.1 4130 (i + 2) from congrFun s1 (i + 2)]
  refine Ev.aload_n (pc := 254) (n := (a + 3, b + 18)) (i := 0) dL_law_254 rfl rfl ?_
  refine Ev.iload (pc := 255) (n := (a + 3, b + 18)) dL_law_255 rfl ?_
  refine Ev.iconst (pc := 257) (n := (a + 3, b + 18)) dL_law_257 ?_
  refine Ev.iadd (pc := 258) (n := (a + 3, b + 18)) dL_law_258 ⟨by omega, by omega⟩ ?_
  refine Ev.iaS (pc := 259) (n := (a + 3, b + 18)) (i := i + 3) dL_law_259 (by omega) (by rw [s2]; omega) ?_
  rw [show (h1).2.1 4130 (i + 3) = h.2.1 4130 (i + 3) from congrFun s1 (i + 3)]
  refine Ev.callV (pc := 260) (n := (a + 3, b + 18)) (ob := 260) (as := [zi (h.2.1 4130 (i + 1)), zi (h.2.1 4130 (i + 2)), zi (h.2.1 4130 (i + 3))]) (st := []) e2 dL_law_260 ok_X7_addTask (lk_L_95 rfl) ⟨(Nat.le_of_ble_eq_true rfl), (Nat.le_of_ble_eq_true rfl)⟩ (zk_at hK1 rfl) ⟨by decide, rfl⟩ rfl (Nat.le_of_ble_eq_true rfl) (Nat.le_of_ble_eq_true rfl) ⟨by show a + 3 ≤ 601024; omega, by show b + 18 ≤ 7293033; omega⟩ ?_
  refine Ev.istore (pc := 263) (n := (a + 3, b + 18)) (i := 6) (L' := [(6, zi r), (5, zi code), (4, zi i), (3, zr (some 271)), (2, zr (some 260)), (1, zr (some 0)), (0, zr (some 4130))]) dL_law_263 (Nat.le_of_ble_eq_true rfl) rfl ?_
  refine Ev.aload_n (pc := 265) (n := (a + 3, b + 18)) (i := 2) dL_law_265 rfl rfl ?_
  refine Ev.callV (pc := 266) (n := (a + 3, b + 18)) (ob := 260) (as := []) (st := []) (s_thrown e4.rm) dL_law_266 ok_X7_thrown (lk_L_89 rfl) ⟨(Nat.le_of_ble_eq_true rfl), (Nat.le_of_ble_eq_true rfl)⟩ (zk_at hK2 rfl) ⟨by decide, rfl⟩ rfl (Nat.le_of_ble_eq_true rfl) (Nat.le_of_ble_eq_true rfl) ⟨by show a + 3 ≤ 601024; omega, by show b + 18 ≤ 7293033; omega⟩ ?_
  refine Ev.iload (pc := 269) (n := (a + 3, b + 18)) dL_law_269 rfl ?_
  refine Ev.icmp_eq (pc := 271) (n := (a + 3, b + 18)) (tgt := 276) dL_law_271 rfl (fun hc => ?_) (fun hc => absurd e3.1 hc)
  refine Ev.iload (pc := 276) (n := (a + 3, b + 18)) dL_law_276 rfl ?_
  refine Ev.if_ne (pc := 278) (n := (a + 3, b + 18)) (tgt := 293) dL_law_278 rfl (fun hc => ?_) (fun hc => ?_)
  · skip
    refine Ev.goto (pc := 293) (n := (a + 3, b + 18)) (tgt := 1501) dL_law_293 rfl ?_
    refine Ev.loc (L' := [(4, zi i), (3, zr (some 271)), (2, zr (some 260)), (1, zr (some 0)), (0, zr (some 4130))]) (fun q hq => List.mem_cons_of_mem _ (List.mem_cons_of_mem _ hq)) ?_
    exact Ev.wide (by show a + 3 ≤ a + 4; omega) (by show b + 18 ≤ b + 24; omega) kk
  · skip
    refine Ev.aload_n (pc := 281) (n := (a + 3, b + 18)) (i := 3) dL_law_281 rfl rfl ?_
    refine Ev.iconst (pc := 282) (n := (a + 3, b + 18)) dL_law_282 ?_
    refine Ev.la (pc := 283) (n := (a + 3, b + 18)) (x := r) dL_law_283 (zk_at hK2 rfl) (by omega) (by omega) (e3.2 hc) ?_
    refine Ev.iload (pc := 284) (n := (a + 3, b + 18)) dL_law_284 rfl ?_
    refine Ev.i2l (pc := 286) (n := (a + 3, b + 18)) dL_law_286 ?_
    refine Ev.lcmp (pc := 287) (n := (a + 3, b + 18)) dL_law_287 ?_
    refine Ev.if_eq (pc := 288) (n := (a + 3, b + 18)) (tgt := 293) dL_law_288 rfl (fun hc => ?_) (fun hc => absurd (by rw [if_neg (Int.lt_irrefl r), if_pos rfl]) hc)
    refine Ev.goto (pc := 293) (n := (a + 3, b + 18)) (tgt := 1501) dL_law_293 rfl ?_
    refine Ev.loc (L' := [(4, zi i), (3, zr (some 271)), (2, zr (some 260)), (1, zr (some 0)), (0, zr (some 4130))]) (fun q hq => List.mem_cons_of_mem _ (List.mem_cons_of_mem _ hq)) ?_
    exact Ev.wide (by show a + 3 ≤ a + 4; omega) (by show b + 18 ≤ b + 24; omega) kk
theorem lw_move {h : zH} {q : Nat} (hR : RLn h q) (hq : q ≤ 10800) {i : Int} {a b : Nat} (hi : 0 ≤ i) (hl : i + 3 < (h.2.1 4131 0).toNat) (hl2 : h.2.1 4131 0 ≤ 2048) (ha : a ≤ 600000) (hb : b ≤ 7000000) : ∃ h2 : zH, RLn h2 (q + 21) ∧ (∀ o, 272 ≤ o → h2.2.1 o = h.2.1 o) ∧ ∀ o : zO, Ev M_L_law 1501 [(4, zi i), (3, zr (some 271)), (2, zr (some 260)), (1, zr (some 0)), (0, zr (some 4130))] [] h2 (a + 4, b + 24) o → Ev M_L_law 296 [(4, zi i), (3, zr (some 271)), (2, zr (some 260)), (1, zr (some 0)), (0, zr (some 4130))] [] h (a, b) o := by
  obtain ⟨h1, h2, code, r, e1, e2, e3, e4, e5, e6, e7⟩ := st_move hR hq (a := h.2.1 4130 (i + 1)) (b := h.2.1 4130 (i + 2)) (c := h.2.1 4130 (i + 3))
  refine ⟨h2, e4, e5, fun o kk => ?_⟩
  have hK1 : h1.1 = KK := e6
  have hK2 : h2.1 = KK := e4.kk
  have s1 := e7 4130 (by decide)
  have s2 := congrFun (e7 4131 (by decide)) 0
  refine Ev.aload_n (pc := 296) (n := (a, b)) (i := 1) dL_law_296 rfl rfl ?_
  refine Ev.aload_n (pc := 297) (n := (a, b)) (i := 0) dL_law_297 rfl rfl ?_
  refine Ev.iload (pc := 298) (n := (a, b)) dL_law_298 rfl ?_
  refine Ev.iconst (pc := 300) (n := (a, b)) dL_law_300 ?_
  refine Ev.iadd (pc := 301) (n := (a, b)) dL_law_301 ⟨by omega, by omega⟩ ?_
  refine Ev.iaS (pc := 302) (n := (a, b)) (i := i + 1) dL_law_302 (by omega) (by omega) ?_
  skip
  refine Ev.aload_n (pc := 303) (n := (a, b)) (i := 0) dL_law_303 rfl rfl ?_
  refine Ev.iload (pc := 304) (n := (a, b)) dL_law_304 rfl ?_
  refine Ev.iconst (pc := 306) (n := (a, b)) dL_law_306 ?_
  refine Ev.iadd (pc := 307) (n := (a, b)) dL_law_307 ⟨by omega, by omega⟩ ?_
  refine Ev.iaS (pc := 308) (n := (a, b)) (i := i + 2) dL_law_308 (by omega) (by omega) ?_
  skip
  refine Ev.aload_n (pc := 309) (n := (a, b)) (i := 0) dL_law_309 rfl rfl ?_
  refine Ev.iload (pc := 310) (n := (a, b)) dL_law_310 rfl ?_
  refine Ev.iconst (pc := 312) (n := (a, b)) dL_law_312 ?_
  refine Ev.iadd (pc := 313) (n := (a, b)) dL_law_313 ⟨by omega, by omega⟩ ?_
  refine Ev.iaS (pc := 314) (n := (a, b)) (i := i + 3) dL_law_314 (by omega) (by omega) ?_
  skip
  refine Ev.aload_n (pc := 315) (n := (a, b)) (i := 3) dL_law_315 rfl rfl ?_
  refine Ev.callSH (pc := 316) (n := (a, b)) (as := [zr (some 0), zi (h.2.1 4130 (i + 1)), zi (h.2.1 4130 (i + 2)), zi (h.2.1 4130 (i + 3)), zr (some 271)]) (st := []) e1 dL_law_316 okH_move (lk_L_96 rfl) ⟨(Nat.le_of_ble_eq_true rfl), (Nat.le_of_ble_eq_true rfl)⟩ rfl (Nat.le_of_ble_eq_true rfl) (Nat.le_of_ble_eq_true rfl) ⟨by show a + 3 ≤ 601024; omega, by show b + 18 ≤ 7293033; omega⟩ ?_
  refine Ev.istore (pc := 319) (n := (a + 3, b + 18)) (i := 5) (L' := [(5, zi code), (4, zi i), (3, zr (some 271)), (2, zr (some 260)), (1, zr (some 0)), (0, zr (some 4130))]) dL_law_319 (Nat.le_of_ble_eq_true rfl) rfl ?_
  refine Ev.aload_n (pc := 321) (n := (a + 3, b + 18)) (i := 2) dL_law_321 rfl rfl ?_
  refine Ev.aload_n (pc := 322) (n := (a + 3, b + 18)) (i := 0) dL_law_322 rfl rfl ?_
  refine Ev.iload (pc := 323) (n := (a + 3, b + 18)) dL_law_323 rfl ?_
  refine Ev.iconst (pc := 325) (n := (a + 3, b + 18)) dL_law_325 ?_
  refine Ev.iadd (pc := 326) (n := (a + 3, b + 18)) dL_law_326 ⟨by omega, by omega⟩ ?_
  refine Ev.iaS (pc := 327) (n := (a + 3, b + 18)) (i := i + 1) dL_law_327 (by omega) (by rw [s2]; omega) ?_
  rw [show (h1).2.1 4130 (i + 1) = h.2.1 4130 (i + 1) from congrFun s1 (i + 1)]
  refine Ev.aload_n (pc := 328) (n := (a + 3, b + 18)) (i := 0) dL_law_328 rfl rfl ?_
  refine Ev.iload (pc := 329) (n := (a + 3, b + 18)) dL_law_329 rfl ?_
  refine Ev.iconst (pc := 331) (n := (a + 3, b + 18)) dL_law_331 ?_
  refine Ev.iadd (pc := 332) (n := (a + 3, b + 18)) dL_law_332 ⟨by omega, by omega⟩ ?_
  refine Ev.iaS (pc := 333) (n := (a + 3, b + 18)) (i := i + 2) dL_law_333 (by omega) (by rw [s2]; omega) ?_
  rw [show (h1).2.1 4130 (i + 2) = h.2.1 4130 (i + 2) from congrFun s1 (i + 2)]
  refine Ev.aload_n (pc := 334) (n := (a + 3, b + 18)) (i := 0) dL_law_334 rfl rfl ?_
  refine Ev.iload (pc := 335) (n := (a + 3, b + 18)) dL_law_335 rfl ?_
  refine Ev.iconst (pc := 337) (n := (a + 3, b + 18)) dL_law_337 ?_
  refine Ev.iadd (pc := 338) (n := (a + 3, b + 18)) dL_law_338 ⟨by omega, by omega⟩ ?_
  refine Ev.iaS (pc := 339) (n := (a + 3, b + 18)) (i := i + 3) dL_law_339 (by omega) (by rw [s2]; omega) ?_
  rw [show (h1).2.1 4130 (i + 3) = h.2.1 4130 (i + 3) from congrFun s1 (i + 3)]
  refine Ev.callV (pc := 340) (n := (a + 3, b + 18)) (ob := 260) (as := [zi (h.2.1 4130 (i + 1)), zi (h.2.1 4130 (i + 2)), zi (h.2.1 4130 (i + 3))]) (st := []) e2 dL_law_340 ok_X7_move (lk_L_98 rfl) ⟨(Nat.le_of_ble_eq_true rfl), (Nat.le_of_ble_eq_true rfl)⟩ (zk_at hK1 rfl) ⟨by decide, rfl⟩ rfl (Nat.le_of_ble_eq_true rfl) (Nat.le_of_ble_eq_true rfl) ⟨by show a + 3 ≤ 601024; omega, by show b + 18 ≤ 7293033; omega⟩ ?_
  refine Ev.istore (pc := 343) (n := (a + 3, b + 18)) (i := 6) (L' := [(6, zi r), (5, zi code), (4, zi i), (3, zr (some 271)), (2, zr (some 260)), (1, zr (some 0)), (0, zr (some 4130))]) dL_law_343 (Nat.le_of_ble_eq_true rfl) rfl ?_
  refine Ev.aload_n (pc := 345) (n := (a + 3, b + 18)) (i := 2) dL_law_345 rfl rfl ?_
  refine Ev.callV (pc := 346) (n := (a + 3, b + 18)) (ob := 260) (as := []) (st := []) (s_thrown e4.rm) dL_law_346 ok_X7_thrown (lk_L_89 rfl) ⟨(Nat.le_of_ble_eq_true rfl), (Nat.le_of_ble_eq_true rfl)⟩ (zk_at hK2 rfl) ⟨by decide, rfl⟩ rfl (Nat.le_of_ble_eq_true rfl) (Nat.le_of_ble_eq_true rfl) ⟨by show a + 3 ≤ 601024; omega, by show b + 18 ≤ 7293033; omega⟩ ?_
  refine Ev.iload (pc := 349) (n := (a + 3, b + 18)) dL_law_349 rfl ?_
  refine Ev.icmp_eq (pc := 351) (n := (a + 3, b + 18)) (tgt := 356) dL_law_351 rfl (fun hc => ?_) (fun hc => absurd e3.1 hc)
  refine Ev.iload (pc := 356) (n := (a + 3, b + 18)) dL_law_356 rfl ?_
  refine Ev.if_ne (pc := 358) (n := (a + 3, b + 18)) (tgt := 373) dL_law_358 rfl (fun hc => ?_) (fun hc => ?_)
  · skip
    refine Ev.goto (pc := 373) (n := (a + 3, b + 18)) (tgt := 1501) dL_law_373 rfl ?_
    refine Ev.loc (L' := [(4, zi i), (3, zr (some 271)), (2, zr (some 260)), (1, zr (some 0)), (0, zr (some 4130))]) (fun q hq => List.mem_cons_of_mem _ (List.mem_cons_of_mem _ hq)) ?_
    exact Ev.wide (by show a + 3 ≤ a + 4; omega) (by show b + 18 ≤ b + 24; omega) kk
  · skip
    refine Ev.aload_n (pc := 361) (n := (a + 3, b + 18)) (i := 3) dL_law_361 rfl rfl ?_
    refine Ev.iconst (pc := 362) (n := (a + 3, b + 18)) dL_law_362 ?_
    refine Ev.la (pc := 363) (n := (a + 3, b + 18)) (x := r) dL_law_363 (zk_at hK2 rfl) (by omega) (by omega) (e3.2 hc) ?_
    refine Ev.iload (pc := 364) (n := (a + 3, b + 18)) dL_law_364 rfl ?_
    refine Ev.i2l (pc := 366) (n := (a + 3, b + 18)) dL_law_366 ?_
    refine Ev.lcmp (pc := 367) (n := (a + 3, b + 18)) dL_law_367 ?_
    refine Ev.if_eq (pc := 368) (n := (a + 3, b + 18)) (tgt := 373) dL_law_368 rfl (fun hc => ?_) (fun hc => absurd (by rw [if_neg (Int.lt_irrefl r), if_pos rfl]) hc)
    refine Ev.goto (pc := 373) (n := (a + 3, b + 18)) (tgt := 1501) dL_law_373 rfl ?_
    refine Ev.loc (L' := [(4, zi i), (3, zr (some 271)), (2, zr (some 260)), (1, zr (some 0)), (0, zr (some 4130))]) (fun q hq => List.mem_cons_of_mem _ (List.mem_cons_of_mem _ hq)) ?_
    exact Ev.wide (by show a + 3 ≤ a + 4; omega) (by show b + 18 ≤ b + 24; omega) kk
theorem lw_remove {h : zH} {q : Nat} (hR : RLn h q) (hq : q ≤ 10800) {i : Int} {a b : Nat} (hi : 0 ≤ i) (hl : i + 3 < (h.2.1 4131 0).toNat) (hl2 : h.2.1 4131 0 ≤ 2048) (ha : a ≤ 600000) (hb : b ≤ 7000000) : ∃ h2 : zH, RLn h2 (q + 21) ∧ (∀ o, 272 ≤ o → h2.2.1 o = h.2.1 o) ∧ ∀ o : zO, Ev M_L_law 1501 [(4, zi i), (3, zr (some 271)), (2, zr (some 260)), (1, zr (some 0)), (0, zr (some 4130))] [] h2 (a + 4, b + 24) o → Ev M_L_law 376 [(4, zi i), (3, zr (some 271)), (2, zr (some 260)), (1, zr (some 0)), (0, zr (some 4130))] [] h (a, b) o := by
  obtain ⟨h1, h2, code, r, e1, e2, e3, e4, e5, e6, e7⟩ := st_remove hR hq (a := h.2.1 4130 (i + 1))
  refine ⟨h2, e4, e5, fun o kk => ?_⟩
  have hK1 : h1.1 = KK := e6
  have hK2 : h2.1 = KK := e4.kk
  have s1 := e7 4130 (by decide)
  have s2 := congrFun (e7 4131 (by decide)) 0
  refine Ev.aload_n (pc := 376) (n := (a, b)) (i := 1) dL_law_376 rfl rfl ?_
  refine Ev.aload_n (pc := 377) (n := (a, b)) (i := 0) dL_law_377 rfl rfl ?_
  refine Ev.iload (pc := 378) (n := (a, b)) dL_law_378 rfl ?_
  refine Ev.iconst (pc := 380) (n := (a, b)) dL_law_380 ?_
  refine Ev.iadd (pc := 381) (n := (a, b)) dL_law_381 ⟨by omega, by omega⟩ ?_
  refine Ev.iaS (pc := 382) (n := (a, b)) (i := i + 1) dL_law_382 (by omega) (by omega) ?_
  skip
  refine Ev.aload_n (pc := 383) (n := (a, b)) (i := 3) dL_law_383 rfl rfl ?_
  refine Ev.callSH (pc := 384) (n := (a, b)) (as := [zr (some 0), zi (h.2.1 4130 (i + 1)), zr (some 271)]) (st := []) e1 dL_law_384 okH_remove (lk_L_99 rfl) ⟨(Nat.le_of_ble_eq_true rfl), (Nat.le_of_ble_eq_true rfl)⟩ rfl (Nat.le_of_ble_eq_true rfl) (Nat.le_of_ble_eq_true rfl) ⟨by show a + 3 ≤ 601024; omega, by show b + 18 ≤ 7293033; omega⟩ ?_
  refine Ev.istore (pc := 387) (n := (a + 3, b + 18)) (i := 5) (L' := [(5, zi code), (4, zi i), (3, zr (some 271)), (2, zr (some 260)), (1, zr (some 0)), (0, zr (some 4130))]) dL_law_387 (Nat.le_of_ble_eq_true rfl) rfl ?_
  refine Ev.aload_n (pc := 389) (n := (a + 3, b + 18)) (i := 2) dL_law_389 rfl rfl ?_
  refine Ev.aload_n (pc := 390) (n := (a + 3, b + 18)) (i := 0) dL_law_390 rfl rfl ?_
  refine Ev.iload (pc := 391) (n := (a + 3, b + 18)) dL_law_391 rfl ?_
  refine Ev.iconst (pc := 393) (n := (a + 3, b + 18)) dL_law_393 ?_
  refine Ev.iadd (pc := 394) (n := (a + 3, b + 18)) dL_law_394 ⟨by omega, by omega⟩ ?_
  refine Ev.iaS (pc := 395) (n := (a + 3, b + 18)) (i := i + 1) dL_law_395 (by omega) (by rw [s2]; omega) ?_
  rw [show (h1).2.1 4130 (i + 1) = h.2.1 4130 (i + 1) from congrFun s1 (i + 1)]
  refine Ev.callV (pc := 396) (n := (a + 3, b + 18)) (ob := 260) (as := [zi (h.2.1 4130 (i + 1))]) (st := []) e2 dL_law_396 ok_X7_remove (lk_L_102 rfl) ⟨(Nat.le_of_ble_eq_true rfl), (Nat.le_of_ble_eq_true rfl)⟩ (zk_at hK1 rfl) ⟨by decide, rfl⟩ rfl (Nat.le_of_ble_eq_true rfl) (Nat.le_of_ble_eq_true rfl) ⟨by show a + 3 ≤ 601024; omega, by show b + 18 ≤ 7293033; omega⟩ ?_
  refine Ev.istore (pc := 399) (n := (a + 3, b + 18)) (i := 6) (L' := [(6, zi r), (5, zi code), (4, zi i), (3, zr (some 271)), (2, zr (some 260)), (1, zr (some 0)), (0, zr (some 4130))]) dL_law_399 (Nat.le_of_ble_eq_true rfl) rfl ?_
  refine Ev.aload_n (pc := 401) (n := (a + 3, b + 18)) (i := 2) dL_law_401 rfl rfl ?_
  refine Ev.callV (pc := 402) (n := (a + 3, b + 18)) (ob := 260) (as := []) (st := []) (s_thrown e4.rm) dL_law_402 ok_X7_thrown (lk_L_89 rfl) ⟨(Nat.le_of_ble_eq_true rfl), (Nat.le_of_ble_eq_true rfl)⟩ (zk_at hK2 rfl) ⟨by decide, rfl⟩ rfl (Nat.le_of_ble_eq_true rfl) (Nat.le_of_ble_eq_true rfl) ⟨by show a + 3 ≤ 601024; omega, by show b + 18 ≤ 7293033; omega⟩ ?_
  refine Ev.iload (pc := 405) (n := (a + 3, b + 18)) dL_law_405 rfl ?_
  refine Ev.icmp_eq (pc := 407) (n := (a + 3, b + 18)) (tgt := 412) dL_law_407 rfl (fun hc => ?_) (fun hc => absurd e3.1 hc)
  refine Ev.iload (pc := 412) (n := (a + 3, b + 18)) dL_law_412 rfl ?_
  refine Ev.if_ne (pc := 414) (n := (a + 3, b + 18)) (tgt := 429) dL_law_414 rfl (fun hc => ?_) (fun hc => ?_)
  · skip
    refine Ev.goto (pc := 429) (n := (a + 3, b + 18)) (tgt := 1501) dL_law_429 rfl ?_
    refine Ev.loc (L' := [(4, zi i), (3, zr (some 271)), (2, zr (some 260)), (1, zr (some 0)), (0, zr (some 4130))]) (fun q hq => List.mem_cons_of_mem _ (List.mem_cons_of_mem _ hq)) ?_
    exact Ev.wide (by show a + 3 ≤ a + 4; omega) (by show b + 18 ≤ b + 24; omega) kk
  · skip
    refine Ev.aload_n (pc := 417) (n := (a + 3, b + 18)) (i := 3) dL_law_417 rfl rfl ?_
    refine Ev.iconst (pc := 418) (n := (a + 3, b + 18)) dL_law_418 ?_
    refine Ev.la (pc := 419) (n := (a + 3, b + 18)) (x := r) dL_law_419 (zk_at hK2 rfl) (by omega) (by omega) (e3.2 hc) ?_
    refine Ev.iload (pc := 420) (n := (a + 3, b + 18)) dL_law_420 rfl ?_
    refine Ev.i2l (pc := 422) (n := (a + 3, b + 18)) dL_law_422 ?_
    refine Ev.lcmp (pc := 423) (n := (a + 3, b + 18)) dL_law_423 ?_
    refine Ev.if_eq (pc := 424) (n := (a + 3, b + 18)) (tgt := 429) dL_law_424 rfl (fun hc => ?_) (fun hc => absurd (by rw [if_neg (Int.lt_irrefl r), if_pos rfl]) hc)
    refine Ev.goto (pc := 429) (n := (a + 3, b + 18)) (tgt := 1501) dL_law_429 rfl ?_
    refine Ev.loc (L' := [(4, zi i), (3, zr (some 271)), (2, zr (some 260)), (1, zr (some 0)), (0, zr (some 4130))]) (fun q hq => List.mem_cons_of_mem _ (List.mem_cons_of_mem _ hq)) ?_
    exact Ev.wide (by show a + 3 ≤ a + 4; omega) (by show b + 18 ≤ b + 24; omega) kk
theorem lw_setDuration {h : zH} {q : Nat} (hR : RLn h q) (hq : q ≤ 10800) {i : Int} {a b : Nat} (hi : 0 ≤ i) (hl : i + 3 < (h.2.1 4131 0).toNat) (hl2 : h.2.1 4131 0 ≤ 2048) (ha : a ≤ 600000) (hb : b ≤ 7000000) : ∃ h2 : zH, RLn h2 (q + 21) ∧ (∀ o, 272 ≤ o → h2.2.1 o = h.2.1 o) ∧ ∀ o : zO, Ev M_L_law 1501 [(4, zi i), (3, zr (some 271)), (2, zr (some 260)), (1, zr (some 0)), (0, zr (some 4130))] [] h2 (a + 4, b + 24) o → Ev M_L_law 432 [(4, zi i), (3, zr (some 271)), (2, zr (some 260)), (1, zr (some 0)), (0, zr (some 4130))] [] h (a, b) o := by
  obtain ⟨h1, h2, code, r, e1, e2, e3, e4, e5, e6, e7⟩ := st_setDuration hR hq (a := h.2.1 4130 (i + 1)) (b := h.2.1 4130 (i + 2))
  refine ⟨h2, e4, e5, fun o kk => ?_⟩
  have hK1 : h1.1 = KK := e6
  have hK2 : h2.1 = KK := e4.kk
  have s1 := e7 4130 (by decide)
  have s2 := congrFun (e7 4131 (by decide)) 0
  refine Ev.aload_n (pc := 432) (n := (a, b)) (i := 1) dL_law_432 rfl rfl ?_
  refine Ev.aload_n (pc := 433) (n := (a, b)) (i := 0) dL_law_433 rfl rfl ?_
  refine Ev.iload (pc := 434) (n := (a, b)) dL_law_434 rfl ?_
  refine Ev.iconst (pc := 436) (n := (a, b)) dL_law_436 ?_
  refine Ev.iadd (pc := 437) (n := (a, b)) dL_law_437 ⟨by omega, by omega⟩ ?_
  refine Ev.iaS (pc := 438) (n := (a, b)) (i := i + 1) dL_law_438 (by omega) (by omega) ?_
  skip
  refine Ev.aload_n (pc := 439) (n := (a, b)) (i := 0) dL_law_439 rfl rfl ?_
  refine Ev.iload (pc := 440) (n := (a, b)) dL_law_440 rfl ?_
  refine Ev.iconst (pc := 442) (n := (a, b)) dL_law_442 ?_
  refine Ev.iadd (pc := 443) (n := (a, b)) dL_law_443 ⟨by omega, by omega⟩ ?_
  refine Ev.iaS (pc := 444) (n := (a, b)) (i := i + 2) dL_law_444 (by omega) (by omega) ?_
  skip
  refine Ev.aload_n (pc := 445) (n := (a, b)) (i := 3) dL_law_445 rfl rfl ?_
  refine Ev.callSH (pc := 446) (n := (a, b)) (as := [zr (some 0), zi (h.2.1 4130 (i + 1)), zi (h.2.1 4130 (i + 2)), zr (some 271)]) (st := []) e1 dL_law_446 okH_setDuration (lk_L_103 rfl) ⟨(Nat.le_of_ble_eq_true rfl), (Nat.le_of_ble_eq_true rfl)⟩ rfl (Nat.le_of_ble_eq_true rfl) (Nat.le_of_ble_eq_true rfl) ⟨by show a + 3 ≤ 601024; omega, by show b + 18 ≤ 7293033; omega⟩ ?_
  refine Ev.istore (pc := 449) (n := (a + 3, b + 18)) (i := 5) (L' := [(5, zi code), (4, zi i), (3, zr (some 271)), (2, zr (some 260)), (1, zr (some 0)), (0, zr (some 4130))]) dL_law_449 (Nat.le_of_ble_eq_true rfl) rfl ?_
  refine Ev.aload_n (pc := 451) (n := (a + 3, b + 18)) (i := 2) dL_law_451 rfl rfl ?_
  refine Ev.aload_n (pc := 452) (n := (a + 3, b + 18)) (i := 0) dL_law_452 rfl rfl ?_
  refine Ev.iload (pc := 453) (n := (a + 3, b + 18)) dL_law_453 rfl ?_
  refine Ev.iconst (pc := 455) (n := (a + 3, b + 18)) dL_law_455 ?_
  refine Ev.iadd (pc := 456) (n := (a + 3, b + 18)) dL_law_456 ⟨by omega, by omega⟩ ?_
  refine Ev.iaS (pc := 457) (n := (a + 3, b + 18)) (i := i + 1) dL_law_457 (by omega) (by rw [s2]; omega) ?_
  rw [show (h1).2.1 4130 (i + 1) = h.2.1 4130 (i + 1) from congrFun s1 (i + 1)]
  refine Ev.aload_n (pc := 458) (n := (a + 3, b + 18)) (i := 0) dL_law_458 rfl rfl ?_
  refine Ev.iload (pc := 459) (n := (a + 3, b + 18)) dL_law_459 rfl ?_
  refine Ev.iconst (pc := 461) (n := (a + 3, b + 18)) dL_law_461 ?_
  refine Ev.iadd (pc := 462) (n := (a + 3, b + 18)) dL_law_462 ⟨by omega, by omega⟩ ?_
  refine Ev.iaS (pc := 463) (n := (a + 3, b + 18)) (i := i + 2) dL_law_463 (by omega) (by rw [s2]; omega) ?_
  rw [show (h1).2.1 4130 (i + 2) = h.2.1 4130 (i + 2) from congrFun s1 (i + 2)]
  refine Ev.callV (pc := 464) (n := (a + 3, b + 18)) (ob := 260) (as := [zi (h.2.1 4130 (i + 1)), zi (h.2.1 4130 (i + 2))]) (st := []) e2 dL_law_464 ok_X7_setDuration (lk_L_105 rfl) ⟨(Nat.le_of_ble_eq_true rfl), (Nat.le_of_ble_eq_true rfl)⟩ (zk_at hK1 rfl) ⟨by decide, rfl⟩ rfl (Nat.le_of_ble_eq_true rfl) (Nat.le_of_ble_eq_true rfl) ⟨by show a + 3 ≤ 601024; omega, by show b + 18 ≤ 7293033; omega⟩ ?_
  refine Ev.istore (pc := 467) (n := (a + 3, b + 18)) (i := 6) (L' := [(6, zi r), (5, zi code), (4, zi i), (3, zr (some 271)), (2, zr (some 260)), (1, zr (some 0)), (0, zr (some 4130))]) dL_law_467 (Nat.le_of_ble_eq_true rfl) rfl ?_
  refine Ev.aload_n (pc := 469) (n := (a + 3, b + 18)) (i := 2) dL_law_469 rfl rfl ?_
  refine Ev.callV (pc := 470) (n := (a + 3, b + 18)) (ob := 260) (as := []) (st := []) (s_thrown e4.rm) dL_law_470 ok_X7_thrown (lk_L_89 rfl) ⟨(Nat.le_of_ble_eq_true rfl), (Nat.le_of_ble_eq_true rfl)⟩ (zk_at hK2 rfl) ⟨by decide, rfl⟩ rfl (Nat.le_of_ble_eq_true rfl) (Nat.le_of_ble_eq_true rfl) ⟨by show a + 3 ≤ 601024; omega, by show b + 18 ≤ 7293033; omega⟩ ?_
  refine Ev.iload (pc := 473) (n := (a + 3, b + 18)) dL_law_473 rfl ?_
  refine Ev.icmp_eq (pc := 475) (n := (a + 3, b + 18)) (tgt := 480) dL_law_475 rfl (fun hc => ?_) (fun hc => absurd e3.1 hc)
  refine Ev.iload (pc := 480) (n := (a + 3, b + 18)) dL_law_480 rfl ?_
  refine Ev.if_ne (pc := 482) (n := (a + 3, b + 18)) (tgt := 497) dL_law_482 rfl (fun hc => ?_) (fun hc => ?_)
  · skip
    refine Ev.goto (pc := 497) (n := (a + 3, b + 18)) (tgt := 1501) dL_law_497 rfl ?_
    refine Ev.loc (L' := [(4, zi i), (3, zr (some 271)), (2, zr (some 260)), (1, zr (some 0)), (0, zr (some 4130))]) (fun q hq => List.mem_cons_of_mem _ (List.mem_cons_of_mem _ hq)) ?_
    exact Ev.wide (by show a + 3 ≤ a + 4; omega) (by show b + 18 ≤ b + 24; omega) kk
  · skip
    refine Ev.aload_n (pc := 485) (n := (a + 3, b + 18)) (i := 3) dL_law_485 rfl rfl ?_
    refine Ev.iconst (pc := 486) (n := (a + 3, b + 18)) dL_law_486 ?_
    refine Ev.la (pc := 487) (n := (a + 3, b + 18)) (x := r) dL_law_487 (zk_at hK2 rfl) (by omega) (by omega) (e3.2 hc) ?_
    refine Ev.iload (pc := 488) (n := (a + 3, b + 18)) dL_law_488 rfl ?_
    refine Ev.i2l (pc := 490) (n := (a + 3, b + 18)) dL_law_490 ?_
    refine Ev.lcmp (pc := 491) (n := (a + 3, b + 18)) dL_law_491 ?_
    refine Ev.if_eq (pc := 492) (n := (a + 3, b + 18)) (tgt := 497) dL_law_492 rfl (fun hc => ?_) (fun hc => absurd (by rw [if_neg (Int.lt_irrefl r), if_pos rfl]) hc)
    refine Ev.goto (pc := 497) (n := (a + 3, b + 18)) (tgt := 1501) dL_law_497 rfl ?_
    refine Ev.loc (L' := [(4, zi i), (3, zr (some 271)), (2, zr (some 260)), (1, zr (some 0)), (0, zr (some 4130))]) (fun q hq => List.mem_cons_of_mem _ (List.mem_cons_of_mem _ hq)) ?_
    exact Ev.wide (by show a + 3 ≤ a + 4; omega) (by show b + 18 ≤ b + 24; omega) kk
theorem lw_borrow {h : zH} {q : Nat} (hR : RLn h q) (hq : q ≤ 10800) {i : Int} {a b : Nat} (hi : 0 ≤ i) (hl : i + 3 < (h.2.1 4131 0).toNat) (hl2 : h.2.1 4131 0 ≤ 2048) (ha : a ≤ 600000) (hb : b ≤ 7000000) : ∃ h2 : zH, RLn h2 (q + 21) ∧ (∀ o, 272 ≤ o → h2.2.1 o = h.2.1 o) ∧ ∀ o : zO, Ev M_L_law 1501 [(4, zi i), (3, zr (some 271)), (2, zr (some 260)), (1, zr (some 0)), (0, zr (some 4130))] [] h2 (a + 4, b + 24) o → Ev M_L_law 500 [(4, zi i), (3, zr (some 271)), (2, zr (some 260)), (1, zr (some 0)), (0, zr (some 4130))] [] h (a, b) o := by
  obtain ⟨h1, h2, code, r, e1, e2, e3, e4, e5, e6, e7⟩ := st_borrow hR hq (a := h.2.1 4130 (i + 1)) (b := h.2.1 4130 (i + 2))
  refine ⟨h2, e4, e5, fun o kk => ?_⟩
  have hK1 : h1.1 = KK := e6
  have hK2 : h2.1 = KK := e4.kk
  have s1 := e7 4130 (by decide)
  have s2 := congrFun (e7 4131 (by decide)) 0
  refine Ev.aload_n (pc := 500) (n := (a, b)) (i := 1) dL_law_500 rfl rfl ?_
  refine Ev.aload_n (pc := 501) (n := (a, b)) (i := 0) dL_law_501 rfl rfl ?_
  refine Ev.iload (pc := 502) (n := (a, b)) dL_law_502 rfl ?_
  refine Ev.iconst (pc := 504) (n := (a, b)) dL_law_504 ?_
  refine Ev.iadd (pc := 505) (n := (a, b)) dL_law_505 ⟨by omega, by omega⟩ ?_
  refine Ev.iaS (pc := 506) (n := (a, b)) (i := i + 1) dL_law_506 (by omega) (by omega) ?_
  skip
  refine Ev.aload_n (pc := 507) (n := (a, b)) (i := 0) dL_law_507 rfl rfl ?_
  refine Ev.iload (pc := 508) (n := (a, b)) dL_law_508 rfl ?_
  refine Ev.iconst (pc := 510) (n := (a, b)) dL_law_510 ?_
  refine Ev.iadd (pc := 511) (n := (a, b)) dL_law_511 ⟨by omega, by omega⟩ ?_
  refine Ev.iaS (pc := 512) (n := (a, b)) (i := i + 2) dL_law_512 (by omega) (by omega) ?_
  skip
  refine Ev.aload_n (pc := 513) (n := (a, b)) (i := 3) dL_law_513 rfl rfl ?_
  refine Ev.callSH (pc := 514) (n := (a, b)) (as := [zr (some 0), zi (h.2.1 4130 (i + 1)), zi (h.2.1 4130 (i + 2)), zr (some 271)]) (st := []) e1 dL_law_514 okH_borrow (lk_L_106 rfl) ⟨(Nat.le_of_ble_eq_true rfl), (Nat.le_of_ble_eq_true rfl)⟩ rfl (Nat.le_of_ble_eq_true rfl) (Nat.le_of_ble_eq_true rfl) ⟨by show a + 3 ≤ 601024; omega, by show b + 18 ≤ 7293033; omega⟩ ?_
  refine Ev.istore (pc := 517) (n := (a + 3, b + 18)) (i := 5) (L' := [(5, zi code), (4, zi i), (3, zr (some 271)), (2, zr (some 260)), (1, zr (some 0)), (0, zr (some 4130))]) dL_law_517 (Nat.le_of_ble_eq_true rfl) rfl ?_
  refine Ev.aload_n (pc := 519) (n := (a + 3, b + 18)) (i := 2) dL_law_519 rfl rfl ?_
  refine Ev.aload_n (pc := 520) (n := (a + 3, b + 18)) (i := 0) dL_law_520 rfl rfl ?_
  refine Ev.iload (pc := 521) (n := (a + 3, b + 18)) dL_law_521 rfl ?_
  refine Ev.iconst (pc := 523) (n := (a + 3, b + 18)) dL_law_523 ?_
  refine Ev.iadd (pc := 524) (n := (a + 3, b + 18)) dL_law_524 ⟨by omega, by omega⟩ ?_
  refine Ev.iaS (pc := 525) (n := (a + 3, b + 18)) (i := i + 1) dL_law_525 (by omega) (by rw [s2]; omega) ?_
  rw [show (h1).2.1 4130 (i + 1) = h.2.1 4130 (i + 1) from congrFun s1 (i + 1)]
  refine Ev.aload_n (pc := 526) (n := (a + 3, b + 18)) (i := 0) dL_law_526 rfl rfl ?_
  refine Ev.iload (pc := 527) (n := (a + 3, b + 18)) dL_law_527 rfl ?_
  refine Ev.iconst (pc := 529) (n := (a + 3, b + 18)) dL_law_529 ?_
  refine Ev.iadd (pc := 530) (n := (a + 3, b + 18)) dL_law_530 ⟨by omega, by omega⟩ ?_
  refine Ev.iaS (pc := 531) (n := (a + 3, b + 18)) (i := i + 2) dL_law_531 (by omega) (by rw [s2]; omega) ?_
  rw [show (h1).2.1 4130 (i + 2) = h.2.1 4130 (i + 2) from congrFun s1 (i + 2)]
  refine Ev.callV (pc := 532) (n := (a + 3, b + 18)) (ob := 260) (as := [zi (h.2.1 4130 (i + 1)), zi (h.2.1 4130 (i + 2))]) (st := []) e2 dL_law_532 ok_X7_borrow (lk_L_108 rfl) ⟨(Nat.le_of_ble_eq_true rfl), (Nat.le_of_ble_eq_true rfl)⟩ (zk_at hK1 rfl) ⟨by decide, rfl⟩ rfl (Nat.le_of_ble_eq_true rfl) (Nat.le_of_ble_eq_true rfl) ⟨by show a + 3 ≤ 601024; omega, by show b + 18 ≤ 7293033; omega⟩ ?_
  refine Ev.istore (pc := 535) (n := (a + 3, b + 18)) (i := 6) (L' := [(6, zi r), (5, zi code), (4, zi i), (3, zr (some 271)), (2, zr (some 260)), (1, zr (some 0)), (0, zr (some 4130))]) dL_law_535 (Nat.le_of_ble_eq_true rfl) rfl ?_
  refine Ev.aload_n (pc := 537) (n := (a + 3, b + 18)) (i := 2) dL_law_537 rfl rfl ?_
  refine Ev.callV (pc := 538) (n := (a + 3, b + 18)) (ob := 260) (as := []) (st := []) (s_thrown e4.rm) dL_law_538 ok_X7_thrown (lk_L_89 rfl) ⟨(Nat.le_of_ble_eq_true rfl), (Nat.le_of_ble_eq_true rfl)⟩ (zk_at hK2 rfl) ⟨by decide, rfl⟩ rfl (Nat.le_of_ble_eq_true rfl) (Nat.le_of_ble_eq_true rfl) ⟨by show a + 3 ≤ 601024; omega, by show b + 18 ≤ 7293033; omega⟩ ?_
  refine Ev.iload (pc := 541) (n := (a + 3, b + 18)) dL_law_541 rfl ?_
  refine Ev.icmp_eq (pc := 543) (n := (a + 3, b + 18)) (tgt := 548) dL_law_543 rfl (fun hc => ?_) (fun hc => absurd e3.1 hc)
  refine Ev.iload (pc := 548) (n := (a + 3, b + 18)) dL_law_548 rfl ?_
  refine Ev.if_ne (pc := 550) (n := (a + 3, b + 18)) (tgt := 565) dL_law_550 rfl (fun hc => ?_) (fun hc => ?_)
  · skip
    refine Ev.goto (pc := 565) (n := (a + 3, b + 18)) (tgt := 1501) dL_law_565 rfl ?_
    refine Ev.loc (L' := [(4, zi i), (3, zr (some 271)), (2, zr (some 260)), (1, zr (some 0)), (0, zr (some 4130))]) (fun q hq => List.mem_cons_of_mem _ (List.mem_cons_of_mem _ hq)) ?_
    exact Ev.wide (by show a + 3 ≤ a + 4; omega) (by show b + 18 ≤ b + 24; omega) kk
  · skip
    refine Ev.aload_n (pc := 553) (n := (a + 3, b + 18)) (i := 3) dL_law_553 rfl rfl ?_
    refine Ev.iconst (pc := 554) (n := (a + 3, b + 18)) dL_law_554 ?_
    refine Ev.la (pc := 555) (n := (a + 3, b + 18)) (x := r) dL_law_555 (zk_at hK2 rfl) (by omega) (by omega) (e3.2 hc) ?_
    refine Ev.iload (pc := 556) (n := (a + 3, b + 18)) dL_law_556 rfl ?_
    refine Ev.i2l (pc := 558) (n := (a + 3, b + 18)) dL_law_558 ?_
    refine Ev.lcmp (pc := 559) (n := (a + 3, b + 18)) dL_law_559 ?_
    refine Ev.if_eq (pc := 560) (n := (a + 3, b + 18)) (tgt := 565) dL_law_560 rfl (fun hc => ?_) (fun hc => absurd (by rw [if_neg (Int.lt_irrefl r), if_pos rfl]) hc)
    refine Ev.goto (pc := 565) (n := (a + 3, b + 18)) (tgt := 1501) dL_law_565 rfl ?_
    refine Ev.loc (L' := [(4, zi i), (3, zr (some 271)), (2, zr (some 260)), (1, zr (some 0)), (0, zr (some 4130))]) (fun q hq => List.mem_cons_of_mem _ (List.mem_cons_of_mem _ hq)) ?_
    exact Ev.wide (by show a + 3 ≤ a + 4; omega) (by show b + 18 ≤ b + 24; omega) kk
theorem lw_giveBack {h : zH} {q : Nat} (hR : RLn h q) (hq : q ≤ 10800) {i : Int} {a b : Nat} (hi : 0 ≤ i) (hl : i + 3 < (h.2.1 4131 0).toNat) (hl2 : h.2.1 4131 0 ≤ 2048) (ha : a ≤ 600000) (hb : b ≤ 7000000) : ∃ h2 : zH, RLn h2 (q + 21) ∧ (∀ o, 272 ≤ o → h2.2.1 o = h.2.1 o) ∧ ∀ o : zO, Ev M_L_law 1501 [(4, zi i), (3, zr (some 271)), (2, zr (some 260)), (1, zr (some 0)), (0, zr (some 4130))] [] h2 (a + 4, b + 24) o → Ev M_L_law 568 [(4, zi i), (3, zr (some 271)), (2, zr (some 260)), (1, zr (some 0)), (0, zr (some 4130))] [] h (a, b) o := by
  obtain ⟨h1, h2, code, r, e1, e2, e3, e4, e5, e6, e7⟩ := st_giveBack hR hq (a := h.2.1 4130 (i + 1)) (b := h.2.1 4130 (i + 2))
  refine ⟨h2, e4, e5, fun o kk => ?_⟩
  have hK1 : h1.1 = KK := e6
  have hK2 : h2.1 = KK := e4.kk
  have s1 := e7 4130 (by decide)
  have s2 := congrFun (e7 4131 (by decide)) 0
  refine Ev.aload_n (pc := 568) (n := (a, b)) (i := 1) dL_law_568 rfl rfl ?_
  refine Ev.aload_n (pc := 569) (n := (a, b)) (i := 0) dL_law_569 rfl rfl ?_
  refine Ev.iload (pc := 570) (n := (a, b)) dL_law_570 rfl ?_
  refine Ev.iconst (pc := 572) (n := (a, b)) dL_law_572 ?_
  refine Ev.iadd (pc := 573) (n := (a, b)) dL_law_573 ⟨by omega, by omega⟩ ?_
  refine Ev.iaS (pc := 574) (n := (a, b)) (i := i + 1) dL_law_574 (by omega) (by omega) ?_
  skip
  refine Ev.aload_n (pc := 575) (n := (a, b)) (i := 0) dL_law_575 rfl rfl ?_
  refine Ev.iload (pc := 576) (n := (a, b)) dL_law_576 rfl ?_
  refine Ev.iconst (pc := 578) (n := (a, b)) dL_law_578 ?_
  refine Ev.iadd (pc := 579) (n := (a, b)) dL_law_579 ⟨by omega, by omega⟩ ?_
  refine Ev.iaS (pc := 580) (n := (a, b)) (i := i + 2) dL_law_580 (by omega) (by omega) ?_
  skip
  refine Ev.aload_n (pc := 581) (n := (a, b)) (i := 3) dL_law_581 rfl rfl ?_
  refine Ev.callSH (pc := 582) (n := (a, b)) (as := [zr (some 0), zi (h.2.1 4130 (i + 1)), zi (h.2.1 4130 (i + 2)), zr (some 271)]) (st := []) e1 dL_law_582 okH_giveBack (lk_L_109 rfl) ⟨(Nat.le_of_ble_eq_true rfl), (Nat.le_of_ble_eq_true rfl)⟩ rfl (Nat.le_of_ble_eq_true rfl) (Nat.le_of_ble_eq_true rfl) ⟨by show a + 3 ≤ 601024; omega, by show b + 18 ≤ 7293033; omega⟩ ?_
  refine Ev.istore (pc := 585) (n := (a + 3, b + 18)) (i := 5) (L' := [(5, zi code), (4, zi i), (3, zr (some 271)), (2, zr (some 260)), (1, zr (some 0)), (0, zr (some 4130))]) dL_law_585 (Nat.le_of_ble_eq_true rfl) rfl ?_
  refine Ev.aload_n (pc := 587) (n := (a + 3, b + 18)) (i := 2) dL_law_587 rfl rfl ?_
  refine Ev.aload_n (pc := 588) (n := (a + 3, b + 18)) (i := 0) dL_law_588 rfl rfl ?_
  refine Ev.iload (pc := 589) (n := (a + 3, b + 18)) dL_law_589 rfl ?_
  refine Ev.iconst (pc := 591) (n := (a + 3, b + 18)) dL_law_591 ?_
  refine Ev.iadd (pc := 592) (n := (a + 3, b + 18)) dL_law_592 ⟨by omega, by omega⟩ ?_
  refine Ev.iaS (pc := 593) (n := (a + 3, b + 18)) (i := i + 1) dL_law_593 (by omega) (by rw [s2]; omega) ?_
  rw [show (h1).2.1 4130 (i + 1) = h.2.1 4130 (i + 1) from congrFun s1 (i + 1)]
  refine Ev.aload_n (pc := 594) (n := (a + 3, b + 18)) (i := 0) dL_law_594 rfl rfl ?_
  refine Ev.iload (pc := 595) (n := (a + 3, b + 18)) dL_law_595 rfl ?_
  refine Ev.iconst (pc := 597) (n := (a + 3, b + 18)) dL_law_597 ?_
  refine Ev.iadd (pc := 598) (n := (a + 3, b + 18)) dL_law_598 ⟨by omega, by omega⟩ ?_
  refine Ev.iaS (pc := 599) (n := (a + 3, b + 18)) (i := i + 2) dL_law_599 (by omega) (by rw [s2]; omega) ?_
  rw [show (h1).2.1 4130 (i + 2) = h.2.1 4130 (i + 2) from congrFun s1 (i + 2)]
  refine Ev.callV (pc := 600) (n := (a + 3, b + 18)) (ob := 260) (as := [zi (h.2.1 4130 (i + 1)), zi (h.2.1 4130 (i + 2))]) (st := []) e2 dL_law_600 ok_X7_giveBack (lk_L_111 rfl) ⟨(Nat.le_of_ble_eq_true rfl), (Nat.le_of_ble_eq_true rfl)⟩ (zk_at hK1 rfl) ⟨by decide, rfl⟩ rfl (Nat.le_of_ble_eq_true rfl) (Nat.le_of_ble_eq_true rfl) ⟨by show a + 3 ≤ 601024; omega, by show b + 18 ≤ 7293033; omega⟩ ?_
  refine Ev.istore (pc := 603) (n := (a + 3, b + 18)) (i := 6) (L' := [(6, zi r), (5, zi code), (4, zi i), (3, zr (some 271)), (2, zr (some 260)), (1, zr (some 0)), (0, zr (some 4130))]) dL_law_603 (Nat.le_of_ble_eq_true rfl) rfl ?_
  refine Ev.aload_n (pc := 605) (n := (a + 3, b + 18)) (i := 2) dL_law_605 rfl rfl ?_
  refine Ev.callV (pc := 606) (n := (a + 3, b + 18)) (ob := 260) (as := []) (st := []) (s_thrown e4.rm) dL_law_606 ok_X7_thrown (lk_L_89 rfl) ⟨(Nat.le_of_ble_eq_true rfl), (Nat.le_of_ble_eq_true rfl)⟩ (zk_at hK2 rfl) ⟨by decide, rfl⟩ rfl (Nat.le_of_ble_eq_true rfl) (Nat.le_of_ble_eq_true rfl) ⟨by show a + 3 ≤ 601024; omega, by show b + 18 ≤ 7293033; omega⟩ ?_
  refine Ev.iload (pc := 609) (n := (a + 3, b + 18)) dL_law_609 rfl ?_
  refine Ev.icmp_eq (pc := 611) (n := (a + 3, b + 18)) (tgt := 616) dL_law_611 rfl (fun hc => ?_) (fun hc => absurd e3.1 hc)
  refine Ev.iload (pc := 616) (n := (a + 3, b + 18)) dL_law_616 rfl ?_
  refine Ev.if_ne (pc := 618) (n := (a + 3, b + 18)) (tgt := 633) dL_law_618 rfl (fun hc => ?_) (fun hc => ?_)
  · skip
    refine Ev.goto (pc := 633) (n := (a + 3, b + 18)) (tgt := 1501) dL_law_633 rfl ?_
    refine Ev.loc (L' := [(4, zi i), (3, zr (some 271)), (2, zr (some 260)), (1, zr (some 0)), (0, zr (some 4130))]) (fun q hq => List.mem_cons_of_mem _ (List.mem_cons_of_mem _ hq)) ?_
    exact Ev.wide (by show a + 3 ≤ a + 4; omega) (by show b + 18 ≤ b + 24; omega) kk
  · skip
    refine Ev.aload_n (pc := 621) (n := (a + 3, b + 18)) (i := 3) dL_law_621 rfl rfl ?_
    refine Ev.iconst (pc := 622) (n := (a + 3, b + 18)) dL_law_622 ?_
    refine Ev.la (pc := 623) (n := (a + 3, b + 18)) (x := r) dL_law_623 (zk_at hK2 rfl) (by omega) (by omega) (e3.2 hc) ?_
    refine Ev.iload (pc := 624) (n := (a + 3, b + 18)) dL_law_624 rfl ?_
    refine Ev.i2l (pc := 626) (n := (a + 3, b + 18)) dL_law_626 ?_
    refine Ev.lcmp (pc := 627) (n := (a + 3, b + 18)) dL_law_627 ?_
    refine Ev.if_eq (pc := 628) (n := (a + 3, b + 18)) (tgt := 633) dL_law_628 rfl (fun hc => ?_) (fun hc => absurd (by rw [if_neg (Int.lt_irrefl r), if_pos rfl]) hc)
    refine Ev.goto (pc := 633) (n := (a + 3, b + 18)) (tgt := 1501) dL_law_633 rfl ?_
    refine Ev.loc (L' := [(4, zi i), (3, zr (some 271)), (2, zr (some 260)), (1, zr (some 0)), (0, zr (some 4130))]) (fun q hq => List.mem_cons_of_mem _ (List.mem_cons_of_mem _ hq)) ?_
    exact Ev.wide (by show a + 3 ≤ a + 4; omega) (by show b + 18 ≤ b + 24; omega) kk
theorem lw_setDeadline {h : zH} {q : Nat} (hR : RLn h q) (hq : q ≤ 10800) {i : Int} {a b : Nat} (hi : 0 ≤ i) (hl : i + 3 < (h.2.1 4131 0).toNat) (hl2 : h.2.1 4131 0 ≤ 2048) (ha : a ≤ 600000) (hb : b ≤ 7000000) : ∃ h2 : zH, RLn h2 (q + 21) ∧ (∀ o, 272 ≤ o → h2.2.1 o = h.2.1 o) ∧ ∀ o : zO, Ev M_L_law 1501 [(4, zi i), (3, zr (some 271)), (2, zr (some 260)), (1, zr (some 0)), (0, zr (some 4130))] [] h2 (a + 4, b + 24) o → Ev M_L_law 636 [(4, zi i), (3, zr (some 271)), (2, zr (some 260)), (1, zr (some 0)), (0, zr (some 4130))] [] h (a, b) o := by
  obtain ⟨h1, h2, code, r, e1, e2, e3, e4, e5, e6, e7⟩ := st_setDeadline hR hq (a := h.2.1 4130 (i + 1))
  refine ⟨h2, e4, e5, fun o kk => ?_⟩
  have hK1 : h1.1 = KK := e6
  have hK2 : h2.1 = KK := e4.kk
  have s1 := e7 4130 (by decide)
  have s2 := congrFun (e7 4131 (by decide)) 0
  refine Ev.aload_n (pc := 636) (n := (a, b)) (i := 1) dL_law_636 rfl rfl ?_
  refine Ev.aload_n (pc := 637) (n := (a, b)) (i := 0) dL_law_637 rfl rfl ?_
  refine Ev.iload (pc := 638) (n := (a, b)) dL_law_638 rfl ?_
  refine Ev.iconst (pc := 640) (n := (a, b)) dL_law_640 ?_
  refine Ev.iadd (pc := 641) (n := (a, b)) dL_law_641 ⟨by omega, by omega⟩ ?_
  refine Ev.iaS (pc := 642) (n := (a, b)) (i := i + 1) dL_law_642 (by omega) (by omega) ?_
  skip
  refine Ev.aload_n (pc := 643) (n := (a, b)) (i := 3) dL_law_643 rfl rfl ?_
  refine Ev.callSH (pc := 644) (n := (a, b)) (as := [zr (some 0), zi (h.2.1 4130 (i + 1)), zr (some 271)]) (st := []) e1 dL_law_644 okH_setDeadline (lk_L_112 rfl) ⟨(Nat.le_of_ble_eq_true rfl), (Nat.le_of_ble_eq_true rfl)⟩ rfl (Nat.le_of_ble_eq_true rfl) (Nat.le_of_ble_eq_true rfl) ⟨by show a + 3 ≤ 601024; omega, by show b + 18 ≤ 7293033; omega⟩ ?_
  refine Ev.istore (pc := 647) (n := (a + 3, b + 18)) (i := 5) (L' := [(5, zi code), (4, zi i), (3, zr (some 271)), (2, zr (some 260)), (1, zr (some 0)), (0, zr (some 4130))]) dL_law_647 (Nat.le_of_ble_eq_true rfl) rfl ?_
  refine Ev.aload_n (pc := 649) (n := (a + 3, b + 18)) (i := 2) dL_law_649 rfl rfl ?_
  refine Ev.aload_n (pc := 650) (n := (a + 3, b + 18)) (i := 0) dL_law_650 rfl rfl ?_
  refine Ev.iload (pc := 651) (n := (a + 3, b + 18)) dL_law_651 rfl ?_
  refine Ev.iconst (pc := 653) (n := (a + 3, b + 18)) dL_law_653 ?_
  refine Ev.iadd (pc := 654) (n := (a + 3, b + 18)) dL_law_654 ⟨by omega, by omega⟩ ?_
  refine Ev.iaS (pc := 655) (n := (a + 3, b + 18)) (i := i + 1) dL_law_655 (by omega) (by rw [s2]; omega) ?_
  rw [show (h1).2.1 4130 (i + 1) = h.2.1 4130 (i + 1) from congrFun s1 (i + 1)]
  refine Ev.callV (pc := 656) (n := (a + 3, b + 18)) (ob := 260) (as := [zi (h.2.1 4130 (i + 1))]) (st := []) e2 dL_law_656 ok_X7_setDeadline (lk_L_114 rfl) ⟨(Nat.le_of_ble_eq_true rfl), (Nat.le_of_ble_eq_true rfl)⟩ (zk_at hK1 rfl) ⟨by decide, rfl⟩ rfl (Nat.le_of_ble_eq_true rfl) (Nat.le_of_ble_eq_true rfl) ⟨by show a + 3 ≤ 601024; omega, by show b + 18 ≤ 7293033; omega⟩ ?_
  refine Ev.istore (pc := 659) (n := (a + 3, b + 18)) (i := 6) (L' := [(6, zi r), (5, zi code), (4, zi i), (3, zr (some 271)), (2, zr (some 260)), (1, zr (some 0)), (0, zr (some 4130))]) dL_law_659 (Nat.le_of_ble_eq_true rfl) rfl ?_
  refine Ev.aload_n (pc := 661) (n := (a + 3, b + 18)) (i := 2) dL_law_661 rfl rfl ?_
  refine Ev.callV (pc := 662) (n := (a + 3, b + 18)) (ob := 260) (as := []) (st := []) (s_thrown e4.rm) dL_law_662 ok_X7_thrown (lk_L_89 rfl) ⟨(Nat.le_of_ble_eq_true rfl), (Nat.le_of_ble_eq_true rfl)⟩ (zk_at hK2 rfl) ⟨by decide, rfl⟩ rfl (Nat.le_of_ble_eq_true rfl) (Nat.le_of_ble_eq_true rfl) ⟨by show a + 3 ≤ 601024; omega, by show b + 18 ≤ 7293033; omega⟩ ?_
  refine Ev.iload (pc := 665) (n := (a + 3, b + 18)) dL_law_665 rfl ?_
  refine Ev.icmp_eq (pc := 667) (n := (a + 3, b + 18)) (tgt := 672) dL_law_667 rfl (fun hc => ?_) (fun hc => absurd e3.1 hc)
  refine Ev.iload (pc := 672) (n := (a + 3, b + 18)) dL_law_672 rfl ?_
  refine Ev.if_ne (pc := 674) (n := (a + 3, b + 18)) (tgt := 689) dL_law_674 rfl (fun hc => ?_) (fun hc => ?_)
  · skip
    refine Ev.goto (pc := 689) (n := (a + 3, b + 18)) (tgt := 1501) dL_law_689 rfl ?_
    refine Ev.loc (L' := [(4, zi i), (3, zr (some 271)), (2, zr (some 260)), (1, zr (some 0)), (0, zr (some 4130))]) (fun q hq => List.mem_cons_of_mem _ (List.mem_cons_of_mem _ hq)) ?_
    exact Ev.wide (by show a + 3 ≤ a + 4; omega) (by show b + 18 ≤ b + 24; omega) kk
  · skip
    refine Ev.aload_n (pc := 677) (n := (a + 3, b + 18)) (i := 3) dL_law_677 rfl rfl ?_
    refine Ev.iconst (pc := 678) (n := (a + 3, b + 18)) dL_law_678 ?_
    refine Ev.la (pc := 679) (n := (a + 3, b + 18)) (x := r) dL_law_679 (zk_at hK2 rfl) (by omega) (by omega) (e3.2 hc) ?_
    refine Ev.iload (pc := 680) (n := (a + 3, b + 18)) dL_law_680 rfl ?_
    refine Ev.i2l (pc := 682) (n := (a + 3, b + 18)) dL_law_682 ?_
    refine Ev.lcmp (pc := 683) (n := (a + 3, b + 18)) dL_law_683 ?_
    refine Ev.if_eq (pc := 684) (n := (a + 3, b + 18)) (tgt := 689) dL_law_684 rfl (fun hc => ?_) (fun hc => absurd (by rw [if_neg (Int.lt_irrefl r), if_pos rfl]) hc)
    refine Ev.goto (pc := 689) (n := (a + 3, b + 18)) (tgt := 1501) dL_law_689 rfl ?_
    refine Ev.loc (L' := [(4, zi i), (3, zr (some 271)), (2, zr (some 260)), (1, zr (some 0)), (0, zr (some 4130))]) (fun q hq => List.mem_cons_of_mem _ (List.mem_cons_of_mem _ hq)) ?_
    exact Ev.wide (by show a + 3 ≤ a + 4; omega) (by show b + 18 ≤ b + 24; omega) kk
theorem lw_node {h : zH} {q : Nat} (hR : RLn h q) (hq : q ≤ 10800) {i : Int} {a b : Nat} (hi : 0 ≤ i) (hl : i + 3 < (h.2.1 4131 0).toNat) (hl2 : h.2.1 4131 0 ≤ 2048) (ha : a ≤ 600000) (hb : b ≤ 7000000) : ∃ h2 : zH, RLn h2 (q + 21) ∧ (∀ o, 272 ≤ o → h2.2.1 o = h.2.1 o) ∧ ∀ o : zO, Ev M_L_law 1501 [(4, zi i), (3, zr (some 271)), (2, zr (some 260)), (1, zr (some 0)), (0, zr (some 4130))] [] h2 (a + 4, b + 24) o → Ev M_L_law 692 [(4, zi i), (3, zr (some 271)), (2, zr (some 260)), (1, zr (some 0)), (0, zr (some 4130))] [] h (a, b) o := by
  obtain ⟨h1, h2, code, r, e1, e2, e3, e4, e5, e6, e7⟩ := st_node hR hq (a := h.2.1 4130 (i + 1)) (b := h.2.1 4130 (i + 2))
  refine ⟨h2, e4, e5, fun o kk => ?_⟩
  have hK1 : h1.1 = KK := e6
  have hK2 : h2.1 = KK := e4.kk
  have s1 := e7 4130 (by decide)
  have s2 := congrFun (e7 4131 (by decide)) 0
  refine Ev.aload_n (pc := 692) (n := (a, b)) (i := 1) dL_law_692 rfl rfl ?_
  refine Ev.aload_n (pc := 693) (n := (a, b)) (i := 0) dL_law_693 rfl rfl ?_
  refine Ev.iload (pc := 694) (n := (a, b)) dL_law_694 rfl ?_
  refine Ev.iconst (pc := 696) (n := (a, b)) dL_law_696 ?_
  refine Ev.iadd (pc := 697) (n := (a, b)) dL_law_697 ⟨by omega, by omega⟩ ?_
  refine Ev.iaS (pc := 698) (n := (a, b)) (i := i + 1) dL_law_698 (by omega) (by omega) ?_
  skip
  refine Ev.aload_n (pc := 699) (n := (a, b)) (i := 0) dL_law_699 rfl rfl ?_
  refine Ev.iload (pc := 700) (n := (a, b)) dL_law_700 rfl ?_
  refine Ev.iconst (pc := 702) (n := (a, b)) dL_law_702 ?_
  refine Ev.iadd (pc := 703) (n := (a, b)) dL_law_703 ⟨by omega, by omega⟩ ?_
  refine Ev.iaS (pc := 704) (n := (a, b)) (i := i + 2) dL_law_704 (by omega) (by omega) ?_
  skip
  refine Ev.aload_n (pc := 705) (n := (a, b)) (i := 3) dL_law_705 rfl rfl ?_
  refine Ev.callSH (pc := 706) (n := (a, b)) (as := [zr (some 0), zi (h.2.1 4130 (i + 1)), zi (h.2.1 4130 (i + 2)), zr (some 271)]) (st := []) e1 dL_law_706 okH_node (lk_L_115 rfl) ⟨(Nat.le_of_ble_eq_true rfl), (Nat.le_of_ble_eq_true rfl)⟩ rfl (Nat.le_of_ble_eq_true rfl) (Nat.le_of_ble_eq_true rfl) ⟨by show a + 2 ≤ 601024; omega, by show b + 12 ≤ 7293033; omega⟩ ?_
  refine Ev.istore (pc := 709) (n := (a + 2, b + 12)) (i := 5) (L' := [(5, zi code), (4, zi i), (3, zr (some 271)), (2, zr (some 260)), (1, zr (some 0)), (0, zr (some 4130))]) dL_law_709 (Nat.le_of_ble_eq_true rfl) rfl ?_
  refine Ev.aload_n (pc := 711) (n := (a + 2, b + 12)) (i := 2) dL_law_711 rfl rfl ?_
  refine Ev.aload_n (pc := 712) (n := (a + 2, b + 12)) (i := 0) dL_law_712 rfl rfl ?_
  refine Ev.iload (pc := 713) (n := (a + 2, b + 12)) dL_law_713 rfl ?_
  refine Ev.iconst (pc := 715) (n := (a + 2, b + 12)) dL_law_715 ?_
  refine Ev.iadd (pc := 716) (n := (a + 2, b + 12)) dL_law_716 ⟨by omega, by omega⟩ ?_
  refine Ev.iaS (pc := 717) (n := (a + 2, b + 12)) (i := i + 1) dL_law_717 (by omega) (by rw [s2]; omega) ?_
  rw [show (h1).2.1 4130 (i + 1) = h.2.1 4130 (i + 1) from congrFun s1 (i + 1)]
  refine Ev.aload_n (pc := 718) (n := (a + 2, b + 12)) (i := 0) dL_law_718 rfl rfl ?_
  refine Ev.iload (pc := 719) (n := (a + 2, b + 12)) dL_law_719 rfl ?_
  refine Ev.iconst (pc := 721) (n := (a + 2, b + 12)) dL_law_721 ?_
  refine Ev.iadd (pc := 722) (n := (a + 2, b + 12)) dL_law_722 ⟨by omega, by omega⟩ ?_
  refine Ev.iaS (pc := 723) (n := (a + 2, b + 12)) (i := i + 2) dL_law_723 (by omega) (by rw [s2]; omega) ?_
  rw [show (h1).2.1 4130 (i + 2) = h.2.1 4130 (i + 2) from congrFun s1 (i + 2)]
  refine Ev.callV (pc := 724) (n := (a + 2, b + 12)) (ob := 260) (as := [zi (h.2.1 4130 (i + 1)), zi (h.2.1 4130 (i + 2))]) (st := []) e2 dL_law_724 ok_X7_node (lk_L_117 rfl) ⟨(Nat.le_of_ble_eq_true rfl), (Nat.le_of_ble_eq_true rfl)⟩ (zk_at hK1 rfl) ⟨by decide, rfl⟩ rfl (Nat.le_of_ble_eq_true rfl) (Nat.le_of_ble_eq_true rfl) ⟨by show a + 2 ≤ 601024; omega, by show b + 12 ≤ 7293033; omega⟩ ?_
  refine Ev.istore (pc := 727) (n := (a + 2, b + 12)) (i := 6) (L' := [(6, zi r), (5, zi code), (4, zi i), (3, zr (some 271)), (2, zr (some 260)), (1, zr (some 0)), (0, zr (some 4130))]) dL_law_727 (Nat.le_of_ble_eq_true rfl) rfl ?_
  refine Ev.aload_n (pc := 729) (n := (a + 2, b + 12)) (i := 2) dL_law_729 rfl rfl ?_
  refine Ev.callV (pc := 730) (n := (a + 2, b + 12)) (ob := 260) (as := []) (st := []) (s_thrown e4.rm) dL_law_730 ok_X7_thrown (lk_L_89 rfl) ⟨(Nat.le_of_ble_eq_true rfl), (Nat.le_of_ble_eq_true rfl)⟩ (zk_at hK2 rfl) ⟨by decide, rfl⟩ rfl (Nat.le_of_ble_eq_true rfl) (Nat.le_of_ble_eq_true rfl) ⟨by show a + 2 ≤ 601024; omega, by show b + 12 ≤ 7293033; omega⟩ ?_
  refine Ev.iload (pc := 733) (n := (a + 2, b + 12)) dL_law_733 rfl ?_
  refine Ev.icmp_eq (pc := 735) (n := (a + 2, b + 12)) (tgt := 740) dL_law_735 rfl (fun hc => ?_) (fun hc => absurd e3.1 hc)
  refine Ev.iload (pc := 740) (n := (a + 2, b + 12)) dL_law_740 rfl ?_
  refine Ev.if_ne (pc := 742) (n := (a + 2, b + 12)) (tgt := 757) dL_law_742 rfl (fun hc => ?_) (fun hc => ?_)
  · skip
    refine Ev.goto (pc := 757) (n := (a + 2, b + 12)) (tgt := 1501) dL_law_757 rfl ?_
    refine Ev.loc (L' := [(4, zi i), (3, zr (some 271)), (2, zr (some 260)), (1, zr (some 0)), (0, zr (some 4130))]) (fun q hq => List.mem_cons_of_mem _ (List.mem_cons_of_mem _ hq)) ?_
    exact Ev.wide (by show a + 2 ≤ a + 4; omega) (by show b + 12 ≤ b + 24; omega) kk
  · skip
    refine Ev.aload_n (pc := 745) (n := (a + 2, b + 12)) (i := 3) dL_law_745 rfl rfl ?_
    refine Ev.iconst (pc := 746) (n := (a + 2, b + 12)) dL_law_746 ?_
    refine Ev.la (pc := 747) (n := (a + 2, b + 12)) (x := r) dL_law_747 (zk_at hK2 rfl) (by omega) (by omega) (e3.2 hc) ?_
    refine Ev.iload (pc := 748) (n := (a + 2, b + 12)) dL_law_748 rfl ?_
    refine Ev.i2l (pc := 750) (n := (a + 2, b + 12)) dL_law_750 ?_
    refine Ev.lcmp (pc := 751) (n := (a + 2, b + 12)) dL_law_751 ?_
    refine Ev.if_eq (pc := 752) (n := (a + 2, b + 12)) (tgt := 757) dL_law_752 rfl (fun hc => ?_) (fun hc => absurd (by rw [if_neg (Int.lt_irrefl r), if_pos rfl]) hc)
    refine Ev.goto (pc := 757) (n := (a + 2, b + 12)) (tgt := 1501) dL_law_757 rfl ?_
    refine Ev.loc (L' := [(4, zi i), (3, zr (some 271)), (2, zr (some 260)), (1, zr (some 0)), (0, zr (some 4130))]) (fun q hq => List.mem_cons_of_mem _ (List.mem_cons_of_mem _ hq)) ?_
    exact Ev.wide (by show a + 2 ≤ a + 4; omega) (by show b + 12 ≤ b + 24; omega) kk
theorem lw_row {h : zH} {q : Nat} (hR : RLn h q) (hq : q ≤ 10800) {i : Int} {a b : Nat} (hi : 0 ≤ i) (hl : i + 3 < (h.2.1 4131 0).toNat) (hl2 : h.2.1 4131 0 ≤ 2048) (ha : a ≤ 600000) (hb : b ≤ 7000000) : ∃ h2 : zH, RLn h2 (q + 21) ∧ (∀ o, 272 ≤ o → h2.2.1 o = h.2.1 o) ∧ ∀ o : zO, Ev M_L_law 1501 [(4, zi i), (3, zr (some 271)), (2, zr (some 260)), (1, zr (some 0)), (0, zr (some 4130))] [] h2 (a + 4, b + 24) o → Ev M_L_law 760 [(4, zi i), (3, zr (some 271)), (2, zr (some 260)), (1, zr (some 0)), (0, zr (some 4130))] [] h (a, b) o := by
  obtain ⟨h1, h2, code, r, e1, e2, e3, e4, e5, e6, e7⟩ := st_row hR hq (a := h.2.1 4130 (i + 1)) (b := h.2.1 4130 (i + 2)) (c := h.2.1 4130 (i + 3))
  refine ⟨h2, e4, e5, fun o kk => ?_⟩
  have hK1 : h1.1 = KK := e6
  have hK2 : h2.1 = KK := e4.kk
  have s1 := e7 4130 (by decide)
  have s2 := congrFun (e7 4131 (by decide)) 0
  refine Ev.aload_n (pc := 760) (n := (a, b)) (i := 1) dL_law_760 rfl rfl ?_
  refine Ev.aload_n (pc := 761) (n := (a, b)) (i := 0) dL_law_761 rfl rfl ?_
  refine Ev.iload (pc := 762) (n := (a, b)) dL_law_762 rfl ?_
  refine Ev.iconst (pc := 764) (n := (a, b)) dL_law_764 ?_
  refine Ev.iadd (pc := 765) (n := (a, b)) dL_law_765 ⟨by omega, by omega⟩ ?_
  refine Ev.iaS (pc := 766) (n := (a, b)) (i := i + 1) dL_law_766 (by omega) (by omega) ?_
  skip
  refine Ev.aload_n (pc := 767) (n := (a, b)) (i := 0) dL_law_767 rfl rfl ?_
  refine Ev.iload (pc := 768) (n := (a, b)) dL_law_768 rfl ?_
  refine Ev.iconst (pc := 770) (n := (a, b)) dL_law_770 ?_
  refine Ev.iadd (pc := 771) (n := (a, b)) dL_law_771 ⟨by omega, by omega⟩ ?_
  refine Ev.iaS (pc := 772) (n := (a, b)) (i := i + 2) dL_law_772 (by omega) (by omega) ?_
  skip
  refine Ev.aload_n (pc := 773) (n := (a, b)) (i := 0) dL_law_773 rfl rfl ?_
  refine Ev.iload (pc := 774) (n := (a, b)) dL_law_774 rfl ?_
  refine Ev.iconst (pc := 776) (n := (a, b)) dL_law_776 ?_
  refine Ev.iadd (pc := 777) (n := (a, b)) dL_law_777 ⟨by omega, by omega⟩ ?_
  refine Ev.iaS (pc := 778) (n := (a, b)) (i := i + 3) dL_law_778 (by omega) (by omega) ?_
  skip
  refine Ev.aload_n (pc := 779) (n := (a, b)) (i := 3) dL_law_779 rfl rfl ?_
  refine Ev.callSH (pc := 780) (n := (a, b)) (as := [zr (some 0), zi (h.2.1 4130 (i + 1)), zi (h.2.1 4130 (i + 2)), zi (h.2.1 4130 (i + 3)), zr (some 271)]) (st := []) e1 dL_law_780 okH_row (lk_L_118 rfl) ⟨(Nat.le_of_ble_eq_true rfl), (Nat.le_of_ble_eq_true rfl)⟩ rfl (Nat.le_of_ble_eq_true rfl) (Nat.le_of_ble_eq_true rfl) ⟨by show a + 4 ≤ 601024; omega, by show b + 24 ≤ 7293033; omega⟩ ?_
  refine Ev.istore (pc := 783) (n := (a + 4, b + 24)) (i := 5) (L' := [(5, zi code), (4, zi i), (3, zr (some 271)), (2, zr (some 260)), (1, zr (some 0)), (0, zr (some 4130))]) dL_law_783 (Nat.le_of_ble_eq_true rfl) rfl ?_
  refine Ev.aload_n (pc := 785) (n := (a + 4, b + 24)) (i := 2) dL_law_785 rfl rfl ?_
  refine Ev.aload_n (pc := 786) (n := (a + 4, b + 24)) (i := 0) dL_law_786 rfl rfl ?_
  refine Ev.iload (pc := 787) (n := (a + 4, b + 24)) dL_law_787 rfl ?_
  refine Ev.iconst (pc := 789) (n := (a + 4, b + 24)) dL_law_789 ?_
  refine Ev.iadd (pc := 790) (n := (a + 4, b + 24)) dL_law_790 ⟨by omega, by omega⟩ ?_
  refine Ev.iaS (pc := 791) (n := (a + 4, b + 24)) (i := i + 1) dL_law_791 (by omega) (by rw [s2]; omega) ?_
  rw [show (h1).2.1 4130 (i + 1) = h.2.1 4130 (i + 1) from congrFun s1 (i + 1)]
  refine Ev.aload_n (pc := 792) (n := (a + 4, b + 24)) (i := 0) dL_law_792 rfl rfl ?_
  refine Ev.iload (pc := 793) (n := (a + 4, b + 24)) dL_law_793 rfl ?_
  refine Ev.iconst (pc := 795) (n := (a + 4, b + 24)) dL_law_795 ?_
  refine Ev.iadd (pc := 796) (n := (a + 4, b + 24)) dL_law_796 ⟨by omega, by omega⟩ ?_
  refine Ev.iaS (pc := 797) (n := (a + 4, b + 24)) (i := i + 2) dL_law_797 (by omega) (by rw [s2]; omega) ?_
  rw [show (h1).2.1 4130 (i + 2) = h.2.1 4130 (i + 2) from congrFun s1 (i + 2)]
  refine Ev.aload_n (pc := 798) (n := (a + 4, b + 24)) (i := 0) dL_law_798 rfl rfl ?_
  refine Ev.iload (pc := 799) (n := (a + 4, b + 24)) dL_law_799 rfl ?_
  refine Ev.iconst (pc := 801) (n := (a + 4, b + 24)) dL_law_801 ?_
  refine Ev.iadd (pc := 802) (n := (a + 4, b + 24)) dL_law_802 ⟨by omega, by omega⟩ ?_
  refine Ev.iaS (pc := 803) (n := (a + 4, b + 24)) (i := i + 3) dL_law_803 (by omega) (by rw [s2]; omega) ?_
  rw [show (h1).2.1 4130 (i + 3) = h.2.1 4130 (i + 3) from congrFun s1 (i + 3)]
  refine Ev.callV (pc := 804) (n := (a + 4, b + 24)) (ob := 260) (as := [zi (h.2.1 4130 (i + 1)), zi (h.2.1 4130 (i + 2)), zi (h.2.1 4130 (i + 3))]) (st := []) e2 dL_law_804 ok_X7_row (lk_L_120 rfl) ⟨(Nat.le_of_ble_eq_true rfl), (Nat.le_of_ble_eq_true rfl)⟩ (zk_at hK1 rfl) ⟨by decide, rfl⟩ rfl (Nat.le_of_ble_eq_true rfl) (Nat.le_of_ble_eq_true rfl) ⟨by show a + 4 ≤ 601024; omega, by show b + 24 ≤ 7293033; omega⟩ ?_
  refine Ev.istore (pc := 807) (n := (a + 4, b + 24)) (i := 6) (L' := [(6, zi r), (5, zi code), (4, zi i), (3, zr (some 271)), (2, zr (some 260)), (1, zr (some 0)), (0, zr (some 4130))]) dL_law_807 (Nat.le_of_ble_eq_true rfl) rfl ?_
  refine Ev.aload_n (pc := 809) (n := (a + 4, b + 24)) (i := 2) dL_law_809 rfl rfl ?_
  refine Ev.callV (pc := 810) (n := (a + 4, b + 24)) (ob := 260) (as := []) (st := []) (s_thrown e4.rm) dL_law_810 ok_X7_thrown (lk_L_89 rfl) ⟨(Nat.le_of_ble_eq_true rfl), (Nat.le_of_ble_eq_true rfl)⟩ (zk_at hK2 rfl) ⟨by decide, rfl⟩ rfl (Nat.le_of_ble_eq_true rfl) (Nat.le_of_ble_eq_true rfl) ⟨by show a + 4 ≤ 601024; omega, by show b + 24 ≤ 7293033; omega⟩ ?_
  refine Ev.iload (pc := 813) (n := (a + 4, b + 24)) dL_law_813 rfl ?_
  refine Ev.icmp_eq (pc := 815) (n := (a + 4, b + 24)) (tgt := 820) dL_law_815 rfl (fun hc => ?_) (fun hc => absurd e3.1 hc)
  refine Ev.iload (pc := 820) (n := (a + 4, b + 24)) dL_law_820 rfl ?_
  refine Ev.if_ne (pc := 822) (n := (a + 4, b + 24)) (tgt := 837) dL_law_822 rfl (fun hc => ?_) (fun hc => ?_)
  · skip
    refine Ev.goto (pc := 837) (n := (a + 4, b + 24)) (tgt := 1501) dL_law_837 rfl ?_
    refine Ev.loc (L' := [(4, zi i), (3, zr (some 271)), (2, zr (some 260)), (1, zr (some 0)), (0, zr (some 4130))]) (fun q hq => List.mem_cons_of_mem _ (List.mem_cons_of_mem _ hq)) ?_
    exact Ev.wide (by show a + 4 ≤ a + 4; omega) (by show b + 24 ≤ b + 24; omega) kk
  · skip
    refine Ev.aload_n (pc := 825) (n := (a + 4, b + 24)) (i := 3) dL_law_825 rfl rfl ?_
    refine Ev.iconst (pc := 826) (n := (a + 4, b + 24)) dL_law_826 ?_
    refine Ev.la (pc := 827) (n := (a + 4, b + 24)) (x := r) dL_law_827 (zk_at hK2 rfl) (by omega) (by omega) (e3.2 hc) ?_
    refine Ev.iload (pc := 828) (n := (a + 4, b + 24)) dL_law_828 rfl ?_
    refine Ev.i2l (pc := 830) (n := (a + 4, b + 24)) dL_law_830 ?_
    refine Ev.lcmp (pc := 831) (n := (a + 4, b + 24)) dL_law_831 ?_
    refine Ev.if_eq (pc := 832) (n := (a + 4, b + 24)) (tgt := 837) dL_law_832 rfl (fun hc => ?_) (fun hc => absurd (by rw [if_neg (Int.lt_irrefl r), if_pos rfl]) hc)
    refine Ev.goto (pc := 837) (n := (a + 4, b + 24)) (tgt := 1501) dL_law_837 rfl ?_
    refine Ev.loc (L' := [(4, zi i), (3, zr (some 271)), (2, zr (some 260)), (1, zr (some 0)), (0, zr (some 4130))]) (fun q hq => List.mem_cons_of_mem _ (List.mem_cons_of_mem _ hq)) ?_
    exact Ev.wide (by show a + 4 ≤ a + 4; omega) (by show b + 24 ≤ b + 24; omega) kk
theorem lw_child {h : zH} {q : Nat} (hR : RLn h q) (hq : q ≤ 10800) {i : Int} {a b : Nat} (hi : 0 ≤ i) (hl : i + 3 < (h.2.1 4131 0).toNat) (hl2 : h.2.1 4131 0 ≤ 2048) (ha : a ≤ 600000) (hb : b ≤ 7000000) : ∃ h2 : zH, RLn h2 (q + 21) ∧ (∀ o, 272 ≤ o → h2.2.1 o = h.2.1 o) ∧ ∀ o : zO, Ev M_L_law 1501 [(4, zi i), (3, zr (some 271)), (2, zr (some 260)), (1, zr (some 0)), (0, zr (some 4130))] [] h2 (a + 4, b + 24) o → Ev M_L_law 840 [(4, zi i), (3, zr (some 271)), (2, zr (some 260)), (1, zr (some 0)), (0, zr (some 4130))] [] h (a, b) o := by
  obtain ⟨h1, h2, code, r, e1, e2, e3, e4, e5, e6, e7⟩ := st_child hR hq (a := h.2.1 4130 (i + 1)) (b := h.2.1 4130 (i + 2)) (c := h.2.1 4130 (i + 3))
  refine ⟨h2, e4, e5, fun o kk => ?_⟩
  have hK1 : h1.1 = KK := e6
  have hK2 : h2.1 = KK := e4.kk
  have s1 := e7 4130 (by decide)
  have s2 := congrFun (e7 4131 (by decide)) 0
  refine Ev.aload_n (pc := 840) (n := (a, b)) (i := 1) dL_law_840 rfl rfl ?_
  refine Ev.aload_n (pc := 841) (n := (a, b)) (i := 0) dL_law_841 rfl rfl ?_
  refine Ev.iload (pc := 842) (n := (a, b)) dL_law_842 rfl ?_
  refine Ev.iconst (pc := 844) (n := (a, b)) dL_law_844 ?_
  refine Ev.iadd (pc := 845) (n := (a, b)) dL_law_845 ⟨by omega, by omega⟩ ?_
  refine Ev.iaS (pc := 846) (n := (a, b)) (i := i + 1) dL_law_846 (by omega) (by omega) ?_
  skip
  refine Ev.aload_n (pc := 847) (n := (a, b)) (i := 0) dL_law_847 rfl rfl ?_
  refine Ev.iload (pc := 848) (n := (a, b)) dL_law_848 rfl ?_
  refine Ev.iconst (pc := 850) (n := (a, b)) dL_law_850 ?_
  refine Ev.iadd (pc := 851) (n := (a, b)) dL_law_851 ⟨by omega, by omega⟩ ?_
  refine Ev.iaS (pc := 852) (n := (a, b)) (i := i + 2) dL_law_852 (by omega) (by omega) ?_
  skip
  refine Ev.aload_n (pc := 853) (n := (a, b)) (i := 0) dL_law_853 rfl rfl ?_
  refine Ev.iload (pc := 854) (n := (a, b)) dL_law_854 rfl ?_
  refine Ev.iconst (pc := 856) (n := (a, b)) dL_law_856 ?_
  refine Ev.iadd (pc := 857) (n := (a, b)) dL_law_857 ⟨by omega, by omega⟩ ?_
  refine Ev.iaS (pc := 858) (n := (a, b)) (i := i + 3) dL_law_858 (by omega) (by omega) ?_
  skip
  refine Ev.aload_n (pc := 859) (n := (a, b)) (i := 3) dL_law_859 rfl rfl ?_
  refine Ev.callSH (pc := 860) (n := (a, b)) (as := [zr (some 0), zi (h.2.1 4130 (i + 1)), zi (h.2.1 4130 (i + 2)), zi (h.2.1 4130 (i + 3)), zr (some 271)]) (st := []) e1 dL_law_860 okH_child (lk_L_121 rfl) ⟨(Nat.le_of_ble_eq_true rfl), (Nat.le_of_ble_eq_true rfl)⟩ rfl (Nat.le_of_ble_eq_true rfl) (Nat.le_of_ble_eq_true rfl) ⟨by show a + 4 ≤ 601024; omega, by show b + 24 ≤ 7293033; omega⟩ ?_
  refine Ev.istore (pc := 863) (n := (a + 4, b + 24)) (i := 5) (L' := [(5, zi code), (4, zi i), (3, zr (some 271)), (2, zr (some 260)), (1, zr (some 0)), (0, zr (some 4130))]) dL_law_863 (Nat.le_of_ble_eq_true rfl) rfl ?_
  refine Ev.aload_n (pc := 865) (n := (a + 4, b + 24)) (i := 2) dL_law_865 rfl rfl ?_
  refine Ev.aload_n (pc := 866) (n := (a + 4, b + 24)) (i := 0) dL_law_866 rfl rfl ?_
  refine Ev.iload (pc := 867) (n := (a + 4, b + 24)) dL_law_867 rfl ?_
  refine Ev.iconst (pc := 869) (n := (a + 4, b + 24)) dL_law_869 ?_
  refine Ev.iadd (pc := 870) (n := (a + 4, b + 24)) dL_law_870 ⟨by omega, by omega⟩ ?_
  refine Ev.iaS (pc := 871) (n := (a + 4, b + 24)) (i := i + 1) dL_law_871 (by omega) (by rw [s2]; omega) ?_
  rw [show (h1).2.1 4130 (i + 1) = h.2.1 4130 (i + 1) from congrFun s1 (i + 1)]
  refine Ev.aload_n (pc := 872) (n := (a + 4, b + 24)) (i := 0) dL_law_872 rfl rfl ?_
  refine Ev.iload (pc := 873) (n := (a + 4, b + 24)) dL_law_873 rfl ?_
  refine Ev.iconst (pc := 875) (n := (a + 4, b + 24)) dL_law_875 ?_
  refine Ev.iadd (pc := 876) (n := (a + 4, b + 24)) dL_law_876 ⟨by omega, by omega⟩ ?_
  refine Ev.iaS (pc := 877) (n := (a + 4, b + 24)) (i := i + 2) dL_law_877 (by omega) (by rw [s2]; omega) ?_
  rw [show (h1).2.1 4130 (i + 2) = h.2.1 4130 (i + 2) from congrFun s1 (i + 2)]
  refine Ev.aload_n (pc := 878) (n := (a + 4, b + 24)) (i := 0) dL_law_878 rfl rfl ?_
  refine Ev.iload (pc := 879) (n := (a + 4, b + 24)) dL_law_879 rfl ?_
  refine Ev.iconst (pc := 881) (n := (a + 4, b + 24)) dL_law_881 ?_
  refine Ev.iadd (pc := 882) (n := (a + 4, b + 24)) dL_law_882 ⟨by omega, by omega⟩ ?_
  refine Ev.iaS (pc := 883) (n := (a + 4, b + 24)) (i := i + 3) dL_law_883 (by omega) (by rw [s2]; omega) ?_
  rw [show (h1).2.1 4130 (i + 3) = h.2.1 4130 (i + 3) from congrFun s1 (i + 3)]
  refine Ev.callV (pc := 884) (n := (a + 4, b + 24)) (ob := 260) (as := [zi (h.2.1 4130 (i + 1)), zi (h.2.1 4130 (i + 2)), zi (h.2.1 4130 (i + 3))]) (st := []) e2 dL_law_884 ok_X7_child (lk_L_123 rfl) ⟨(Nat.le_of_ble_eq_true rfl), (Nat.le_of_ble_eq_true rfl)⟩ (zk_at hK1 rfl) ⟨by decide, rfl⟩ rfl (Nat.le_of_ble_eq_true rfl) (Nat.le_of_ble_eq_true rfl) ⟨by show a + 4 ≤ 601024; omega, by show b + 24 ≤ 7293033; omega⟩ ?_
  refine Ev.istore (pc := 887) (n := (a + 4, b + 24)) (i := 6) (L' := [(6, zi r), (5, zi code), (4, zi i), (3, zr (some 271)), (2, zr (some 260)), (1, zr (some 0)), (0, zr (some 4130))]) dL_law_887 (Nat.le_of_ble_eq_true rfl) rfl ?_
  refine Ev.aload_n (pc := 889) (n := (a + 4, b + 24)) (i := 2) dL_law_889 rfl rfl ?_
  refine Ev.callV (pc := 890) (n := (a + 4, b + 24)) (ob := 260) (as := []) (st := []) (s_thrown e4.rm) dL_law_890 ok_X7_thrown (lk_L_89 rfl) ⟨(Nat.le_of_ble_eq_true rfl), (Nat.le_of_ble_eq_true rfl)⟩ (zk_at hK2 rfl) ⟨by decide, rfl⟩ rfl (Nat.le_of_ble_eq_true rfl) (Nat.le_of_ble_eq_true rfl) ⟨by show a + 4 ≤ 601024; omega, by show b + 24 ≤ 7293033; omega⟩ ?_
  refine Ev.iload (pc := 893) (n := (a + 4, b + 24)) dL_law_893 rfl ?_
  refine Ev.icmp_eq (pc := 895) (n := (a + 4, b + 24)) (tgt := 900) dL_law_895 rfl (fun hc => ?_) (fun hc => absurd e3.1 hc)
  refine Ev.iload (pc := 900) (n := (a + 4, b + 24)) dL_law_900 rfl ?_
  refine Ev.if_ne (pc := 902) (n := (a + 4, b + 24)) (tgt := 917) dL_law_902 rfl (fun hc => ?_) (fun hc => ?_)
  · skip
    refine Ev.goto (pc := 917) (n := (a + 4, b + 24)) (tgt := 1501) dL_law_917 rfl ?_
    refine Ev.loc (L' := [(4, zi i), (3, zr (some 271)), (2, zr (some 260)), (1, zr (some 0)), (0, zr (some 4130))]) (fun q hq => List.mem_cons_of_mem _ (List.mem_cons_of_mem _ hq)) ?_
    exact Ev.wide (by show a + 4 ≤ a + 4; omega) (by show b + 24 ≤ b + 24; omega) kk
  · skip
    refine Ev.aload_n (pc := 905) (n := (a + 4, b + 24)) (i := 3) dL_law_905 rfl rfl ?_
    refine Ev.iconst (pc := 906) (n := (a + 4, b + 24)) dL_law_906 ?_
    refine Ev.la (pc := 907) (n := (a + 4, b + 24)) (x := r) dL_law_907 (zk_at hK2 rfl) (by omega) (by omega) (e3.2 hc) ?_
    refine Ev.iload (pc := 908) (n := (a + 4, b + 24)) dL_law_908 rfl ?_
    refine Ev.i2l (pc := 910) (n := (a + 4, b + 24)) dL_law_910 ?_
    refine Ev.lcmp (pc := 911) (n := (a + 4, b + 24)) dL_law_911 ?_
    refine Ev.if_eq (pc := 912) (n := (a + 4, b + 24)) (tgt := 917) dL_law_912 rfl (fun hc => ?_) (fun hc => absurd (by rw [if_neg (Int.lt_irrefl r), if_pos rfl]) hc)
    refine Ev.goto (pc := 917) (n := (a + 4, b + 24)) (tgt := 1501) dL_law_917 rfl ?_
    refine Ev.loc (L' := [(4, zi i), (3, zr (some 271)), (2, zr (some 260)), (1, zr (some 0)), (0, zr (some 4130))]) (fun q hq => List.mem_cons_of_mem _ (List.mem_cons_of_mem _ hq)) ?_
    exact Ev.wide (by show a + 4 ≤ a + 4; omega) (by show b + 24 ≤ b + 24; omega) kk
theorem lw_critical {h : zH} {q : Nat} (hR : RLn h q) (hq : q ≤ 10800) {i : Int} {a b : Nat} (hi : 0 ≤ i) (hl : i + 3 < (h.2.1 4131 0).toNat) (hl2 : h.2.1 4131 0 ≤ 2048) (ha : a ≤ 600000) (hb : b ≤ 7000000) : ∃ h2 : zH, RLn h2 (q + 21) ∧ (∀ o, 272 ≤ o → h2.2.1 o = h.2.1 o) ∧ ∀ o : zO, Ev M_L_law 1501 [(4, zi i), (3, zr (some 271)), (2, zr (some 260)), (1, zr (some 0)), (0, zr (some 4130))] [] h2 (a + 4, b + 24) o → Ev M_L_law 920 [(4, zi i), (3, zr (some 271)), (2, zr (some 260)), (1, zr (some 0)), (0, zr (some 4130))] [] h (a, b) o := by
  obtain ⟨h1, h2, code, r, e1, e2, e3, e4, e5, e6, e7⟩ := st_critical hR hq (a := h.2.1 4130 (i + 1))
  refine ⟨h2, e4, e5, fun o kk => ?_⟩
  have hK1 : h1.1 = KK := e6
  have hK2 : h2.1 = KK := e4.kk
  have s1 := e7 4130 (by decide)
  have s2 := congrFun (e7 4131 (by decide)) 0
  refine Ev.aload_n (pc := 920) (n := (a, b)) (i := 1) dL_law_920 rfl rfl ?_
  refine Ev.aload_n (pc := 921) (n := (a, b)) (i := 0) dL_law_921 rfl rfl ?_
  refine Ev.iload (pc := 922) (n := (a, b)) dL_law_922 rfl ?_
  refine Ev.iconst (pc := 924) (n := (a, b)) dL_law_924 ?_
  refine Ev.iadd (pc := 925) (n := (a, b)) dL_law_925 ⟨by omega, by omega⟩ ?_
  refine Ev.iaS (pc := 926) (n := (a, b)) (i := i + 1) dL_law_926 (by omega) (by omega) ?_
  skip
  refine Ev.aload_n (pc := 927) (n := (a, b)) (i := 3) dL_law_927 rfl rfl ?_
  refine Ev.callSH (pc := 928) (n := (a, b)) (as := [zr (some 0), zi (h.2.1 4130 (i + 1)), zr (some 271)]) (st := []) e1 dL_law_928 okH_critical (lk_L_124 rfl) ⟨(Nat.le_of_ble_eq_true rfl), (Nat.le_of_ble_eq_true rfl)⟩ rfl (Nat.le_of_ble_eq_true rfl) (Nat.le_of_ble_eq_true rfl) ⟨by show a + 1 ≤ 601024; omega, by show b + 6 ≤ 7293033; omega⟩ ?_
  refine Ev.istore (pc := 931) (n := (a + 1, b + 6)) (i := 5) (L' := [(5, zi code), (4, zi i), (3, zr (some 271)), (2, zr (some 260)), (1, zr (some 0)), (0, zr (some 4130))]) dL_law_931 (Nat.le_of_ble_eq_true rfl) rfl ?_
  refine Ev.aload_n (pc := 933) (n := (a + 1, b + 6)) (i := 2) dL_law_933 rfl rfl ?_
  refine Ev.aload_n (pc := 934) (n := (a + 1, b + 6)) (i := 0) dL_law_934 rfl rfl ?_
  refine Ev.iload (pc := 935) (n := (a + 1, b + 6)) dL_law_935 rfl ?_
  refine Ev.iconst (pc := 937) (n := (a + 1, b + 6)) dL_law_937 ?_
  refine Ev.iadd (pc := 938) (n := (a + 1, b + 6)) dL_law_938 ⟨by omega, by omega⟩ ?_
  refine Ev.iaS (pc := 939) (n := (a + 1, b + 6)) (i := i + 1) dL_law_939 (by omega) (by rw [s2]; omega) ?_
  rw [show (h1).2.1 4130 (i + 1) = h.2.1 4130 (i + 1) from congrFun s1 (i + 1)]
  refine Ev.callV (pc := 940) (n := (a + 1, b + 6)) (ob := 260) (as := [zi (h.2.1 4130 (i + 1))]) (st := []) e2 dL_law_940 ok_X7_critical (lk_L_126 rfl) ⟨(Nat.le_of_ble_eq_true rfl), (Nat.le_of_ble_eq_true rfl)⟩ (zk_at hK1 rfl) ⟨by decide, rfl⟩ rfl (Nat.le_of_ble_eq_true rfl) (Nat.le_of_ble_eq_true rfl) ⟨by show a + 1 ≤ 601024; omega, by show b + 6 ≤ 7293033; omega⟩ ?_
  refine Ev.istore (pc := 943) (n := (a + 1, b + 6)) (i := 6) (L' := [(6, zi r), (5, zi code), (4, zi i), (3, zr (some 271)), (2, zr (some 260)), (1, zr (some 0)), (0, zr (some 4130))]) dL_law_943 (Nat.le_of_ble_eq_true rfl) rfl ?_
  refine Ev.aload_n (pc := 945) (n := (a + 1, b + 6)) (i := 2) dL_law_945 rfl rfl ?_
  refine Ev.callV (pc := 946) (n := (a + 1, b + 6)) (ob := 260) (as := []) (st := []) (s_thrown e4.rm) dL_law_946 ok_X7_thrown (lk_L_89 rfl) ⟨(Nat.le_of_ble_eq_true rfl), (Nat.le_of_ble_eq_true rfl)⟩ (zk_at hK2 rfl) ⟨by decide, rfl⟩ rfl (Nat.le_of_ble_eq_true rfl) (Nat.le_of_ble_eq_true rfl) ⟨by show a + 1 ≤ 601024; omega, by show b + 6 ≤ 7293033; omega⟩ ?_
  refine Ev.iload (pc := 949) (n := (a + 1, b + 6)) dL_law_949 rfl ?_
  refine Ev.icmp_eq (pc := 951) (n := (a + 1, b + 6)) (tgt := 956) dL_law_951 rfl (fun hc => ?_) (fun hc => absurd e3.1 hc)
  refine Ev.iload (pc := 956) (n := (a + 1, b + 6)) dL_law_956 rfl ?_
  refine Ev.if_ne (pc := 958) (n := (a + 1, b + 6)) (tgt := 973) dL_law_958 rfl (fun hc => ?_) (fun hc => ?_)
  · skip
    refine Ev.goto (pc := 973) (n := (a + 1, b + 6)) (tgt := 1501) dL_law_973 rfl ?_
    refine Ev.loc (L' := [(4, zi i), (3, zr (some 271)), (2, zr (some 260)), (1, zr (some 0)), (0, zr (some 4130))]) (fun q hq => List.mem_cons_of_mem _ (List.mem_cons_of_mem _ hq)) ?_
    exact Ev.wide (by show a + 1 ≤ a + 4; omega) (by show b + 6 ≤ b + 24; omega) kk
  · skip
    refine Ev.aload_n (pc := 961) (n := (a + 1, b + 6)) (i := 3) dL_law_961 rfl rfl ?_
    refine Ev.iconst (pc := 962) (n := (a + 1, b + 6)) dL_law_962 ?_
    refine Ev.la (pc := 963) (n := (a + 1, b + 6)) (x := r) dL_law_963 (zk_at hK2 rfl) (by omega) (by omega) (e3.2 hc) ?_
    refine Ev.iload (pc := 964) (n := (a + 1, b + 6)) dL_law_964 rfl ?_
    refine Ev.i2l (pc := 966) (n := (a + 1, b + 6)) dL_law_966 ?_
    refine Ev.lcmp (pc := 967) (n := (a + 1, b + 6)) dL_law_967 ?_
    refine Ev.if_eq (pc := 968) (n := (a + 1, b + 6)) (tgt := 973) dL_law_968 rfl (fun hc => ?_) (fun hc => absurd (by rw [if_neg (Int.lt_irrefl r), if_pos rfl]) hc)
    refine Ev.goto (pc := 973) (n := (a + 1, b + 6)) (tgt := 1501) dL_law_973 rfl ?_
    refine Ev.loc (L' := [(4, zi i), (3, zr (some 271)), (2, zr (some 260)), (1, zr (some 0)), (0, zr (some 4130))]) (fun q hq => List.mem_cons_of_mem _ (List.mem_cons_of_mem _ hq)) ?_
    exact Ev.wide (by show a + 1 ≤ a + 4; omega) (by show b + 6 ≤ b + 24; omega) kk
theorem lw_running {h : zH} {q : Nat} (hR : RLn h q) (hq : q ≤ 10800) {i : Int} {a b : Nat} (hi : 0 ≤ i) (hl : i + 3 < (h.2.1 4131 0).toNat) (hl2 : h.2.1 4131 0 ≤ 2048) (ha : a ≤ 600000) (hb : b ≤ 7000000) : ∃ h2 : zH, RLn h2 (q + 21) ∧ (∀ o, 272 ≤ o → h2.2.1 o = h.2.1 o) ∧ ∀ o : zO, Ev M_L_law 1501 [(4, zi i), (3, zr (some 271)), (2, zr (some 260)), (1, zr (some 0)), (0, zr (some 4130))] [] h2 (a + 4, b + 24) o → Ev M_L_law 976 [(4, zi i), (3, zr (some 271)), (2, zr (some 260)), (1, zr (some 0)), (0, zr (some 4130))] [] h (a, b) o := by
  obtain ⟨h1, h2, code, r, e1, e2, e3, e4, e5, e6, e7⟩ := st_running hR hq (a := h.2.1 4130 (i + 1))
  refine ⟨h2, e4, e5, fun o kk => ?_⟩
  have hK1 : h1.1 = KK := e6
  have hK2 : h2.1 = KK := e4.kk
  have s1 := e7 4130 (by decide)
  have s2 := congrFun (e7 4131 (by decide)) 0
  refine Ev.aload_n (pc := 976) (n := (a, b)) (i := 1) dL_law_976 rfl rfl ?_
  refine Ev.aload_n (pc := 977) (n := (a, b)) (i := 0) dL_law_977 rfl rfl ?_
  refine Ev.iload (pc := 978) (n := (a, b)) dL_law_978 rfl ?_
  refine Ev.iconst (pc := 980) (n := (a, b)) dL_law_980 ?_
  refine Ev.iadd (pc := 981) (n := (a, b)) dL_law_981 ⟨by omega, by omega⟩ ?_
  refine Ev.iaS (pc := 982) (n := (a, b)) (i := i + 1) dL_law_982 (by omega) (by omega) ?_
  skip
  refine Ev.aload_n (pc := 983) (n := (a, b)) (i := 3) dL_law_983 rfl rfl ?_
  refine Ev.callSH (pc := 984) (n := (a, b)) (as := [zr (some 0), zi (h.2.1 4130 (i + 1)), zr (some 271)]) (st := []) e1 dL_law_984 okH_running (lk_L_127 rfl) ⟨(Nat.le_of_ble_eq_true rfl), (Nat.le_of_ble_eq_true rfl)⟩ rfl (Nat.le_of_ble_eq_true rfl) (Nat.le_of_ble_eq_true rfl) ⟨by show a + 1 ≤ 601024; omega, by show b + 6 ≤ 7293033; omega⟩ ?_
  refine Ev.istore (pc := 987) (n := (a + 1, b + 6)) (i := 5) (L' := [(5, zi code), (4, zi i), (3, zr (some 271)), (2, zr (some 260)), (1, zr (some 0)), (0, zr (some 4130))]) dL_law_987 (Nat.le_of_ble_eq_true rfl) rfl ?_
  refine Ev.aload_n (pc := 989) (n := (a + 1, b + 6)) (i := 2) dL_law_989 rfl rfl ?_
  refine Ev.aload_n (pc := 990) (n := (a + 1, b + 6)) (i := 0) dL_law_990 rfl rfl ?_
  refine Ev.iload (pc := 991) (n := (a + 1, b + 6)) dL_law_991 rfl ?_
  refine Ev.iconst (pc := 993) (n := (a + 1, b + 6)) dL_law_993 ?_
  refine Ev.iadd (pc := 994) (n := (a + 1, b + 6)) dL_law_994 ⟨by omega, by omega⟩ ?_
  refine Ev.iaS (pc := 995) (n := (a + 1, b + 6)) (i := i + 1) dL_law_995 (by omega) (by rw [s2]; omega) ?_
  rw [show (h1).2.1 4130 (i + 1) = h.2.1 4130 (i + 1) from congrFun s1 (i + 1)]
  refine Ev.callV (pc := 996) (n := (a + 1, b + 6)) (ob := 260) (as := [zi (h.2.1 4130 (i + 1))]) (st := []) e2 dL_law_996 ok_X7_running (lk_L_129 rfl) ⟨(Nat.le_of_ble_eq_true rfl), (Nat.le_of_ble_eq_true rfl)⟩ (zk_at hK1 rfl) ⟨by decide, rfl⟩ rfl (Nat.le_of_ble_eq_true rfl) (Nat.le_of_ble_eq_true rfl) ⟨by show a + 1 ≤ 601024; omega, by show b + 6 ≤ 7293033; omega⟩ ?_
  refine Ev.istore (pc := 999) (n := (a + 1, b + 6)) (i := 6) (L' := [(6, zi r), (5, zi code), (4, zi i), (3, zr (some 271)), (2, zr (some 260)), (1, zr (some 0)), (0, zr (some 4130))]) dL_law_999 (Nat.le_of_ble_eq_true rfl) rfl ?_
  refine Ev.aload_n (pc := 1001) (n := (a + 1, b + 6)) (i := 2) dL_law_1001 rfl rfl ?_
  refine Ev.callV (pc := 1002) (n := (a + 1, b + 6)) (ob := 260) (as := []) (st := []) (s_thrown e4.rm) dL_law_1002 ok_X7_thrown (lk_L_89 rfl) ⟨(Nat.le_of_ble_eq_true rfl), (Nat.le_of_ble_eq_true rfl)⟩ (zk_at hK2 rfl) ⟨by decide, rfl⟩ rfl (Nat.le_of_ble_eq_true rfl) (Nat.le_of_ble_eq_true rfl) ⟨by show a + 1 ≤ 601024; omega, by show b + 6 ≤ 7293033; omega⟩ ?_
  refine Ev.iload (pc := 1005) (n := (a + 1, b + 6)) dL_law_1005 rfl ?_
  refine Ev.icmp_eq (pc := 1007) (n := (a + 1, b + 6)) (tgt := 1012) dL_law_1007 rfl (fun hc => ?_) (fun hc => absurd e3.1 hc)
  refine Ev.iload (pc := 1012) (n := (a + 1, b + 6)) dL_law_1012 rfl ?_
  refine Ev.if_ne (pc := 1014) (n := (a + 1, b + 6)) (tgt := 1029) dL_law_1014 rfl (fun hc => ?_) (fun hc => ?_)
  · skip
    refine Ev.goto (pc := 1029) (n := (a + 1, b + 6)) (tgt := 1501) dL_law_1029 rfl ?_
    refine Ev.loc (L' := [(4, zi i), (3, zr (some 271)), (2, zr (some 260)), (1, zr (some 0)), (0, zr (some 4130))]) (fun q hq => List.mem_cons_of_mem _ (List.mem_cons_of_mem _ hq)) ?_
    exact Ev.wide (by show a + 1 ≤ a + 4; omega) (by show b + 6 ≤ b + 24; omega) kk
  · skip
    refine Ev.aload_n (pc := 1017) (n := (a + 1, b + 6)) (i := 3) dL_law_1017 rfl rfl ?_
    refine Ev.iconst (pc := 1018) (n := (a + 1, b + 6)) dL_law_1018 ?_
    refine Ev.la (pc := 1019) (n := (a + 1, b + 6)) (x := r) dL_law_1019 (zk_at hK2 rfl) (by omega) (by omega) (e3.2 hc) ?_
    refine Ev.iload (pc := 1020) (n := (a + 1, b + 6)) dL_law_1020 rfl ?_
    refine Ev.i2l (pc := 1022) (n := (a + 1, b + 6)) dL_law_1022 ?_
    refine Ev.lcmp (pc := 1023) (n := (a + 1, b + 6)) dL_law_1023 ?_
    refine Ev.if_eq (pc := 1024) (n := (a + 1, b + 6)) (tgt := 1029) dL_law_1024 rfl (fun hc => ?_) (fun hc => absurd (by rw [if_neg (Int.lt_irrefl r), if_pos rfl]) hc)
    refine Ev.goto (pc := 1029) (n := (a + 1, b + 6)) (tgt := 1501) dL_law_1029 rfl ?_
    refine Ev.loc (L' := [(4, zi i), (3, zr (some 271)), (2, zr (some 260)), (1, zr (some 0)), (0, zr (some 4130))]) (fun q hq => List.mem_cons_of_mem _ (List.mem_cons_of_mem _ hq)) ?_
    exact Ev.wide (by show a + 1 ≤ a + 4; omega) (by show b + 6 ≤ b + 24; omega) kk
theorem lw_whole {h : zH} {q : Nat} (hR : RLn h q) (hq : q ≤ 10800) {i : Int} {a b : Nat} (hi : 0 ≤ i) (hl : i + 3 < (h.2.1 4131 0).toNat) (hl2 : h.2.1 4131 0 ≤ 2048) (ha : a ≤ 600000) (hb : b ≤ 7000000) : ∃ h2 : zH, RLn h2 (q + 21) ∧ (∀ o, 272 ≤ o → h2.2.1 o = h.2.1 o) ∧ ∀ o : zO, Ev M_L_law 1501 [(4, zi i), (3, zr (some 271)), (2, zr (some 260)), (1, zr (some 0)), (0, zr (some 4130))] [] h2 (a + 4, b + 24) o → Ev M_L_law 1032 [(4, zi i), (3, zr (some 271)), (2, zr (some 260)), (1, zr (some 0)), (0, zr (some 4130))] [] h (a, b) o := by
  obtain ⟨h1, h2, code, r, e1, e2, e3, e4, e5, e6, e7⟩ := st_whole hR hq (a := h.2.1 4130 (i + 1))
  refine ⟨h2, e4, e5, fun o kk => ?_⟩
  have hK1 : h1.1 = KK := e6
  have hK2 : h2.1 = KK := e4.kk
  have s1 := e7 4130 (by decide)
  have s2 := congrFun (e7 4131 (by decide)) 0
  refine Ev.aload_n (pc := 1032) (n := (a, b)) (i := 1) dL_law_1032 rfl rfl ?_
  refine Ev.aload_n (pc := 1033) (n := (a, b)) (i := 0) dL_law_1033 rfl rfl ?_
  refine Ev.iload (pc := 1034) (n := (a, b)) dL_law_1034 rfl ?_
  refine Ev.iconst (pc := 1036) (n := (a, b)) dL_law_1036 ?_
  refine Ev.iadd (pc := 1037) (n := (a, b)) dL_law_1037 ⟨by omega, by omega⟩ ?_
  refine Ev.iaS (pc := 1038) (n := (a, b)) (i := i + 1) dL_law_1038 (by omega) (by omega) ?_
  skip
  refine Ev.aload_n (pc := 1039) (n := (a, b)) (i := 3) dL_law_1039 rfl rfl ?_
  refine Ev.callSH (pc := 1040) (n := (a, b)) (as := [zr (some 0), zi (h.2.1 4130 (i + 1)), zr (some 271)]) (st := []) e1 dL_law_1040 okH_whole (lk_L_130 rfl) ⟨(Nat.le_of_ble_eq_true rfl), (Nat.le_of_ble_eq_true rfl)⟩ rfl (Nat.le_of_ble_eq_true rfl) (Nat.le_of_ble_eq_true rfl) ⟨by show a + 1 ≤ 601024; omega, by show b + 6 ≤ 7293033; omega⟩ ?_
  refine Ev.istore (pc := 1043) (n := (a + 1, b + 6)) (i := 5) (L' := [(5, zi code), (4, zi i), (3, zr (some 271)), (2, zr (some 260)), (1, zr (some 0)), (0, zr (some 4130))]) dL_law_1043 (Nat.le_of_ble_eq_true rfl) rfl ?_
  refine Ev.aload_n (pc := 1045) (n := (a + 1, b + 6)) (i := 2) dL_law_1045 rfl rfl ?_
  refine Ev.aload_n (pc := 1046) (n := (a + 1, b + 6)) (i := 0) dL_law_1046 rfl rfl ?_
  refine Ev.iload (pc := 1047) (n := (a + 1, b + 6)) dL_law_1047 rfl ?_
  refine Ev.iconst (pc := 1049) (n := (a + 1, b + 6)) dL_law_1049 ?_
  refine Ev.iadd (pc := 1050) (n := (a + 1, b + 6)) dL_law_1050 ⟨by omega, by omega⟩ ?_
  refine Ev.iaS (pc := 1051) (n := (a + 1, b + 6)) (i := i + 1) dL_law_1051 (by omega) (by rw [s2]; omega) ?_
  rw [show (h1).2.1 4130 (i + 1) = h.2.1 4130 (i + 1) from congrFun s1 (i + 1)]
  refine Ev.callV (pc := 1052) (n := (a + 1, b + 6)) (ob := 260) (as := [zi (h.2.1 4130 (i + 1))]) (st := []) e2 dL_law_1052 ok_X7_whole (lk_L_132 rfl) ⟨(Nat.le_of_ble_eq_true rfl), (Nat.le_of_ble_eq_true rfl)⟩ (zk_at hK1 rfl) ⟨by decide, rfl⟩ rfl (Nat.le_of_ble_eq_true rfl) (Nat.le_of_ble_eq_true rfl) ⟨by show a + 1 ≤ 601024; omega, by show b + 6 ≤ 7293033; omega⟩ ?_
  refine Ev.istore (pc := 1055) (n := (a + 1, b + 6)) (i := 6) (L' := [(6, zi r), (5, zi code), (4, zi i), (3, zr (some 271)), (2, zr (some 260)), (1, zr (some 0)), (0, zr (some 4130))]) dL_law_1055 (Nat.le_of_ble_eq_true rfl) rfl ?_
  refine Ev.aload_n (pc := 1057) (n := (a + 1, b + 6)) (i := 2) dL_law_1057 rfl rfl ?_
  refine Ev.callV (pc := 1058) (n := (a + 1, b + 6)) (ob := 260) (as := []) (st := []) (s_thrown e4.rm) dL_law_1058 ok_X7_thrown (lk_L_89 rfl) ⟨(Nat.le_of_ble_eq_true rfl), (Nat.le_of_ble_eq_true rfl)⟩ (zk_at hK2 rfl) ⟨by decide, rfl⟩ rfl (Nat.le_of_ble_eq_true rfl) (Nat.le_of_ble_eq_true rfl) ⟨by show a + 1 ≤ 601024; omega, by show b + 6 ≤ 7293033; omega⟩ ?_
  refine Ev.iload (pc := 1061) (n := (a + 1, b + 6)) dL_law_1061 rfl ?_
  refine Ev.icmp_eq (pc := 1063) (n := (a + 1, b + 6)) (tgt := 1068) dL_law_1063 rfl (fun hc => ?_) (fun hc => absurd e3.1 hc)
  refine Ev.iload (pc := 1068) (n := (a + 1, b + 6)) dL_law_1068 rfl ?_
  refine Ev.if_ne (pc := 1070) (n := (a + 1, b + 6)) (tgt := 1085) dL_law_1070 rfl (fun hc => ?_) (fun hc => ?_)
  · skip
    refine Ev.goto (pc := 1085) (n := (a + 1, b + 6)) (tgt := 1501) dL_law_1085 rfl ?_
    refine Ev.loc (L' := [(4, zi i), (3, zr (some 271)), (2, zr (some 260)), (1, zr (some 0)), (0, zr (some 4130))]) (fun q hq => List.mem_cons_of_mem _ (List.mem_cons_of_mem _ hq)) ?_
    exact Ev.wide (by show a + 1 ≤ a + 4; omega) (by show b + 6 ≤ b + 24; omega) kk
  · skip
    refine Ev.aload_n (pc := 1073) (n := (a + 1, b + 6)) (i := 3) dL_law_1073 rfl rfl ?_
    refine Ev.iconst (pc := 1074) (n := (a + 1, b + 6)) dL_law_1074 ?_
    refine Ev.la (pc := 1075) (n := (a + 1, b + 6)) (x := r) dL_law_1075 (zk_at hK2 rfl) (by omega) (by omega) (e3.2 hc) ?_
    refine Ev.iload (pc := 1076) (n := (a + 1, b + 6)) dL_law_1076 rfl ?_
    refine Ev.i2l (pc := 1078) (n := (a + 1, b + 6)) dL_law_1078 ?_
    refine Ev.lcmp (pc := 1079) (n := (a + 1, b + 6)) dL_law_1079 ?_
    refine Ev.if_eq (pc := 1080) (n := (a + 1, b + 6)) (tgt := 1085) dL_law_1080 rfl (fun hc => ?_) (fun hc => absurd (by rw [if_neg (Int.lt_irrefl r), if_pos rfl]) hc)
    refine Ev.goto (pc := 1085) (n := (a + 1, b + 6)) (tgt := 1501) dL_law_1085 rfl ?_
    refine Ev.loc (L' := [(4, zi i), (3, zr (some 271)), (2, zr (some 260)), (1, zr (some 0)), (0, zr (some 4130))]) (fun q hq => List.mem_cons_of_mem _ (List.mem_cons_of_mem _ hq)) ?_
    exact Ev.wide (by show a + 1 ≤ a + 4; omega) (by show b + 6 ≤ b + 24; omega) kk
theorem lw_endWith {h : zH} {q : Nat} (hR : RLn h q) (hq : q ≤ 10800) {i : Int} {a b : Nat} (hi : 0 ≤ i) (hl : i + 3 < (h.2.1 4131 0).toNat) (hl2 : h.2.1 4131 0 ≤ 2048) (ha : a ≤ 600000) (hb : b ≤ 7000000) : ∃ h2 : zH, RLn h2 (q + 21) ∧ (∀ o, 272 ≤ o → h2.2.1 o = h.2.1 o) ∧ ∀ o : zO, Ev M_L_law 1501 [(4, zi i), (3, zr (some 271)), (2, zr (some 260)), (1, zr (some 0)), (0, zr (some 4130))] [] h2 (a + 4, b + 24) o → Ev M_L_law 1088 [(4, zi i), (3, zr (some 271)), (2, zr (some 260)), (1, zr (some 0)), (0, zr (some 4130))] [] h (a, b) o := by
  obtain ⟨h1, h2, code, r, e1, e2, e3, e4, e5, e6, e7⟩ := st_endWith hR hq (a := h.2.1 4130 (i + 1)) (b := h.2.1 4130 (i + 2))
  refine ⟨h2, e4, e5, fun o kk => ?_⟩
  have hK1 : h1.1 = KK := e6
  have hK2 : h2.1 = KK := e4.kk
  have s1 := e7 4130 (by decide)
  have s2 := congrFun (e7 4131 (by decide)) 0
  refine Ev.aload_n (pc := 1088) (n := (a, b)) (i := 1) dL_law_1088 rfl rfl ?_
  refine Ev.aload_n (pc := 1089) (n := (a, b)) (i := 0) dL_law_1089 rfl rfl ?_
  refine Ev.iload (pc := 1090) (n := (a, b)) dL_law_1090 rfl ?_
  refine Ev.iconst (pc := 1092) (n := (a, b)) dL_law_1092 ?_
  refine Ev.iadd (pc := 1093) (n := (a, b)) dL_law_1093 ⟨by omega, by omega⟩ ?_
  refine Ev.iaS (pc := 1094) (n := (a, b)) (i := i + 1) dL_law_1094 (by omega) (by omega) ?_
  skip
  refine Ev.aload_n (pc := 1095) (n := (a, b)) (i := 0) dL_law_1095 rfl rfl ?_
  refine Ev.iload (pc := 1096) (n := (a, b)) dL_law_1096 rfl ?_
  refine Ev.iconst (pc := 1098) (n := (a, b)) dL_law_1098 ?_
  refine Ev.iadd (pc := 1099) (n := (a, b)) dL_law_1099 ⟨by omega, by omega⟩ ?_
  refine Ev.iaS (pc := 1100) (n := (a, b)) (i := i + 2) dL_law_1100 (by omega) (by omega) ?_
  skip
  refine Ev.aload_n (pc := 1101) (n := (a, b)) (i := 3) dL_law_1101 rfl rfl ?_
  refine Ev.callSH (pc := 1102) (n := (a, b)) (as := [zr (some 0), zi (h.2.1 4130 (i + 1)), zi (h.2.1 4130 (i + 2)), zr (some 271)]) (st := []) e1 dL_law_1102 okH_endWith (lk_L_133 rfl) ⟨(Nat.le_of_ble_eq_true rfl), (Nat.le_of_ble_eq_true rfl)⟩ rfl (Nat.le_of_ble_eq_true rfl) (Nat.le_of_ble_eq_true rfl) ⟨by show a + 3 ≤ 601024; omega, by show b + 18 ≤ 7293033; omega⟩ ?_
  refine Ev.istore (pc := 1105) (n := (a + 3, b + 18)) (i := 5) (L' := [(5, zi code), (4, zi i), (3, zr (some 271)), (2, zr (some 260)), (1, zr (some 0)), (0, zr (some 4130))]) dL_law_1105 (Nat.le_of_ble_eq_true rfl) rfl ?_
  refine Ev.aload_n (pc := 1107) (n := (a + 3, b + 18)) (i := 2) dL_law_1107 rfl rfl ?_
  refine Ev.aload_n (pc := 1108) (n := (a + 3, b + 18)) (i := 0) dL_law_1108 rfl rfl ?_
  refine Ev.iload (pc := 1109) (n := (a + 3, b + 18)) dL_law_1109 rfl ?_
  refine Ev.iconst (pc := 1111) (n := (a + 3, b + 18)) dL_law_1111 ?_
  refine Ev.iadd (pc := 1112) (n := (a + 3, b + 18)) dL_law_1112 ⟨by omega, by omega⟩ ?_
  refine Ev.iaS (pc := 1113) (n := (a + 3, b + 18)) (i := i + 1) dL_law_1113 (by omega) (by rw [s2]; omega) ?_
  rw [show (h1).2.1 4130 (i + 1) = h.2.1 4130 (i + 1) from congrFun s1 (i + 1)]
  refine Ev.aload_n (pc := 1114) (n := (a + 3, b + 18)) (i := 0) dL_law_1114 rfl rfl ?_
  refine Ev.iload (pc := 1115) (n := (a + 3, b + 18)) dL_law_1115 rfl ?_
  refine Ev.iconst (pc := 1117) (n := (a + 3, b + 18)) dL_law_1117 ?_
  refine Ev.iadd (pc := 1118) (n := (a + 3, b + 18)) dL_law_1118 ⟨by omega, by omega⟩ ?_
  refine Ev.iaS (pc := 1119) (n := (a + 3, b + 18)) (i := i + 2) dL_law_1119 (by omega) (by rw [s2]; omega) ?_
  rw [show (h1).2.1 4130 (i + 2) = h.2.1 4130 (i + 2) from congrFun s1 (i + 2)]
  refine Ev.callV (pc := 1120) (n := (a + 3, b + 18)) (ob := 260) (as := [zi (h.2.1 4130 (i + 1)), zi (h.2.1 4130 (i + 2))]) (st := []) e2 dL_law_1120 ok_X7_endWith (lk_L_135 rfl) ⟨(Nat.le_of_ble_eq_true rfl), (Nat.le_of_ble_eq_true rfl)⟩ (zk_at hK1 rfl) ⟨by decide, rfl⟩ rfl (Nat.le_of_ble_eq_true rfl) (Nat.le_of_ble_eq_true rfl) ⟨by show a + 3 ≤ 601024; omega, by show b + 18 ≤ 7293033; omega⟩ ?_
  refine Ev.istore (pc := 1123) (n := (a + 3, b + 18)) (i := 6) (L' := [(6, zi r), (5, zi code), (4, zi i), (3, zr (some 271)), (2, zr (some 260)), (1, zr (some 0)), (0, zr (some 4130))]) dL_law_1123 (Nat.le_of_ble_eq_true rfl) rfl ?_
  refine Ev.aload_n (pc := 1125) (n := (a + 3, b + 18)) (i := 2) dL_law_1125 rfl rfl ?_
  refine Ev.callV (pc := 1126) (n := (a + 3, b + 18)) (ob := 260) (as := []) (st := []) (s_thrown e4.rm) dL_law_1126 ok_X7_thrown (lk_L_89 rfl) ⟨(Nat.le_of_ble_eq_true rfl), (Nat.le_of_ble_eq_true rfl)⟩ (zk_at hK2 rfl) ⟨by decide, rfl⟩ rfl (Nat.le_of_ble_eq_true rfl) (Nat.le_of_ble_eq_true rfl) ⟨by show a + 3 ≤ 601024; omega, by show b + 18 ≤ 7293033; omega⟩ ?_
  refine Ev.iload (pc := 1129) (n := (a + 3, b + 18)) dL_law_1129 rfl ?_
  refine Ev.icmp_eq (pc := 1131) (n := (a + 3, b + 18)) (tgt := 1136) dL_law_1131 rfl (fun hc => ?_) (fun hc => absurd e3.1 hc)
  refine Ev.iload (pc := 1136) (n := (a + 3, b + 18)) dL_law_1136 rfl ?_
  refine Ev.if_ne (pc := 1138) (n := (a + 3, b + 18)) (tgt := 1153) dL_law_1138 rfl (fun hc => ?_) (fun hc => ?_)
  · skip
    refine Ev.goto (pc := 1153) (n := (a + 3, b + 18)) (tgt := 1501) dL_law_1153 rfl ?_
    refine Ev.loc (L' := [(4, zi i), (3, zr (some 271)), (2, zr (some 260)), (1, zr (some 0)), (0, zr (some 4130))]) (fun q hq => List.mem_cons_of_mem _ (List.mem_cons_of_mem _ hq)) ?_
    exact Ev.wide (by show a + 3 ≤ a + 4; omega) (by show b + 18 ≤ b + 24; omega) kk
  · skip
    refine Ev.aload_n (pc := 1141) (n := (a + 3, b + 18)) (i := 3) dL_law_1141 rfl rfl ?_
    refine Ev.iconst (pc := 1142) (n := (a + 3, b + 18)) dL_law_1142 ?_
    refine Ev.la (pc := 1143) (n := (a + 3, b + 18)) (x := r) dL_law_1143 (zk_at hK2 rfl) (by omega) (by omega) (e3.2 hc) ?_
    refine Ev.iload (pc := 1144) (n := (a + 3, b + 18)) dL_law_1144 rfl ?_
    refine Ev.i2l (pc := 1146) (n := (a + 3, b + 18)) dL_law_1146 ?_
    refine Ev.lcmp (pc := 1147) (n := (a + 3, b + 18)) dL_law_1147 ?_
    refine Ev.if_eq (pc := 1148) (n := (a + 3, b + 18)) (tgt := 1153) dL_law_1148 rfl (fun hc => ?_) (fun hc => absurd (by rw [if_neg (Int.lt_irrefl r), if_pos rfl]) hc)
    refine Ev.goto (pc := 1153) (n := (a + 3, b + 18)) (tgt := 1501) dL_law_1153 rfl ?_
    refine Ev.loc (L' := [(4, zi i), (3, zr (some 271)), (2, zr (some 260)), (1, zr (some 0)), (0, zr (some 4130))]) (fun q hq => List.mem_cons_of_mem _ (List.mem_cons_of_mem _ hq)) ?_
    exact Ev.wide (by show a + 3 ≤ a + 4; omega) (by show b + 18 ≤ b + 24; omega) kk
theorem lw_growsTo {h : zH} {q : Nat} (hR : RLn h q) (hq : q ≤ 10800) {i : Int} {a b : Nat} (hi : 0 ≤ i) (hl : i + 3 < (h.2.1 4131 0).toNat) (hl2 : h.2.1 4131 0 ≤ 2048) (ha : a ≤ 600000) (hb : b ≤ 7000000) : ∃ h2 : zH, RLn h2 (q + 21) ∧ (∀ o, 272 ≤ o → h2.2.1 o = h.2.1 o) ∧ ∀ o : zO, Ev M_L_law 1501 [(4, zi i), (3, zr (some 271)), (2, zr (some 260)), (1, zr (some 0)), (0, zr (some 4130))] [] h2 (a + 4, b + 24) o → Ev M_L_law 1156 [(4, zi i), (3, zr (some 271)), (2, zr (some 260)), (1, zr (some 0)), (0, zr (some 4130))] [] h (a, b) o := by
  obtain ⟨h1, h2, code, r, e1, e2, e3, e4, e5, e6, e7⟩ := st_growsTo hR hq (a := h.2.1 4130 (i + 1))
  refine ⟨h2, e4, e5, fun o kk => ?_⟩
  have hK1 : h1.1 = KK := e6
  have hK2 : h2.1 = KK := e4.kk
  have s1 := e7 4130 (by decide)
  have s2 := congrFun (e7 4131 (by decide)) 0
  refine Ev.aload_n (pc := 1156) (n := (a, b)) (i := 1) dL_law_1156 rfl rfl ?_
  refine Ev.aload_n (pc := 1157) (n := (a, b)) (i := 0) dL_law_1157 rfl rfl ?_
  refine Ev.iload (pc := 1158) (n := (a, b)) dL_law_1158 rfl ?_
  refine Ev.iconst (pc := 1160) (n := (a, b)) dL_law_1160 ?_
  refine Ev.iadd (pc := 1161) (n := (a, b)) dL_law_1161 ⟨by omega, by omega⟩ ?_
  refine Ev.iaS (pc := 1162) (n := (a, b)) (i := i + 1) dL_law_1162 (by omega) (by omega) ?_
  skip
  refine Ev.aload_n (pc := 1163) (n := (a, b)) (i := 3) dL_law_1163 rfl rfl ?_
  refine Ev.callSH (pc := 1164) (n := (a, b)) (as := [zr (some 0), zi (h.2.1 4130 (i + 1)), zr (some 271)]) (st := []) e1 dL_law_1164 okH_growsTo (lk_L_136 rfl) ⟨(Nat.le_of_ble_eq_true rfl), (Nat.le_of_ble_eq_true rfl)⟩ rfl (Nat.le_of_ble_eq_true rfl) (Nat.le_of_ble_eq_true rfl) ⟨by show a + 2 ≤ 601024; omega, by show b + 12 ≤ 7293033; omega⟩ ?_
  refine Ev.istore (pc := 1167) (n := (a + 2, b + 12)) (i := 5) (L' := [(5, zi code), (4, zi i), (3, zr (some 271)), (2, zr (some 260)), (1, zr (some 0)), (0, zr (some 4130))]) dL_law_1167 (Nat.le_of_ble_eq_true rfl) rfl ?_
  refine Ev.aload_n (pc := 1169) (n := (a + 2, b + 12)) (i := 2) dL_law_1169 rfl rfl ?_
  refine Ev.aload_n (pc := 1170) (n := (a + 2, b + 12)) (i := 0) dL_law_1170 rfl rfl ?_
  refine Ev.iload (pc := 1171) (n := (a + 2, b + 12)) dL_law_1171 rfl ?_
  refine Ev.iconst (pc := 1173) (n := (a + 2, b + 12)) dL_law_1173 ?_
  refine Ev.iadd (pc := 1174) (n := (a + 2, b + 12)) dL_law_1174 ⟨by omega, by omega⟩ ?_
  refine Ev.iaS (pc := 1175) (n := (a + 2, b + 12)) (i := i + 1) dL_law_1175 (by omega) (by rw [s2]; omega) ?_
  rw [show (h1).2.1 4130 (i + 1) = h.2.1 4130 (i + 1) from congrFun s1 (i + 1)]
  refine Ev.callV (pc := 1176) (n := (a + 2, b + 12)) (ob := 260) (as := [zi (h.2.1 4130 (i + 1))]) (st := []) e2 dL_law_1176 ok_X7_growsTo (lk_L_138 rfl) ⟨(Nat.le_of_ble_eq_true rfl), (Nat.le_of_ble_eq_true rfl)⟩ (zk_at hK1 rfl) ⟨by decide, rfl⟩ rfl (Nat.le_of_ble_eq_true rfl) (Nat.le_of_ble_eq_true rfl) ⟨by show a + 2 ≤ 601024; omega, by show b + 12 ≤ 7293033; omega⟩ ?_
  refine Ev.istore (pc := 1179) (n := (a + 2, b + 12)) (i := 6) (L' := [(6, zi r), (5, zi code), (4, zi i), (3, zr (some 271)), (2, zr (some 260)), (1, zr (some 0)), (0, zr (some 4130))]) dL_law_1179 (Nat.le_of_ble_eq_true rfl) rfl ?_
  refine Ev.aload_n (pc := 1181) (n := (a + 2, b + 12)) (i := 2) dL_law_1181 rfl rfl ?_
  refine Ev.callV (pc := 1182) (n := (a + 2, b + 12)) (ob := 260) (as := []) (st := []) (s_thrown e4.rm) dL_law_1182 ok_X7_thrown (lk_L_89 rfl) ⟨(Nat.le_of_ble_eq_true rfl), (Nat.le_of_ble_eq_true rfl)⟩ (zk_at hK2 rfl) ⟨by decide, rfl⟩ rfl (Nat.le_of_ble_eq_true rfl) (Nat.le_of_ble_eq_true rfl) ⟨by show a + 2 ≤ 601024; omega, by show b + 12 ≤ 7293033; omega⟩ ?_
  refine Ev.iload (pc := 1185) (n := (a + 2, b + 12)) dL_law_1185 rfl ?_
  refine Ev.icmp_eq (pc := 1187) (n := (a + 2, b + 12)) (tgt := 1192) dL_law_1187 rfl (fun hc => ?_) (fun hc => absurd e3.1 hc)
  refine Ev.iload (pc := 1192) (n := (a + 2, b + 12)) dL_law_1192 rfl ?_
  refine Ev.if_ne (pc := 1194) (n := (a + 2, b + 12)) (tgt := 1209) dL_law_1194 rfl (fun hc => ?_) (fun hc => ?_)
  · skip
    refine Ev.goto (pc := 1209) (n := (a + 2, b + 12)) (tgt := 1501) dL_law_1209 rfl ?_
    refine Ev.loc (L' := [(4, zi i), (3, zr (some 271)), (2, zr (some 260)), (1, zr (some 0)), (0, zr (some 4130))]) (fun q hq => List.mem_cons_of_mem _ (List.mem_cons_of_mem _ hq)) ?_
    exact Ev.wide (by show a + 2 ≤ a + 4; omega) (by show b + 12 ≤ b + 24; omega) kk
  · skip
    refine Ev.aload_n (pc := 1197) (n := (a + 2, b + 12)) (i := 3) dL_law_1197 rfl rfl ?_
    refine Ev.iconst (pc := 1198) (n := (a + 2, b + 12)) dL_law_1198 ?_
    refine Ev.la (pc := 1199) (n := (a + 2, b + 12)) (x := r) dL_law_1199 (zk_at hK2 rfl) (by omega) (by omega) (e3.2 hc) ?_
    refine Ev.iload (pc := 1200) (n := (a + 2, b + 12)) dL_law_1200 rfl ?_
    refine Ev.i2l (pc := 1202) (n := (a + 2, b + 12)) dL_law_1202 ?_
    refine Ev.lcmp (pc := 1203) (n := (a + 2, b + 12)) dL_law_1203 ?_
    refine Ev.if_eq (pc := 1204) (n := (a + 2, b + 12)) (tgt := 1209) dL_law_1204 rfl (fun hc => ?_) (fun hc => absurd (by rw [if_neg (Int.lt_irrefl r), if_pos rfl]) hc)
    refine Ev.goto (pc := 1209) (n := (a + 2, b + 12)) (tgt := 1501) dL_law_1209 rfl ?_
    refine Ev.loc (L' := [(4, zi i), (3, zr (some 271)), (2, zr (some 260)), (1, zr (some 0)), (0, zr (some 4130))]) (fun q hq => List.mem_cons_of_mem _ (List.mem_cons_of_mem _ hq)) ?_
    exact Ev.wide (by show a + 2 ≤ a + 4; omega) (by show b + 12 ≤ b + 24; omega) kk
theorem lw_bestCut {h : zH} {q : Nat} (hR : RLn h q) (hq : q ≤ 10800) {i : Int} {a b : Nat} (hi : 0 ≤ i) (hl : i + 3 < (h.2.1 4131 0).toNat) (hl2 : h.2.1 4131 0 ≤ 2048) (ha : a ≤ 600000) (hb : b ≤ 7000000) : ∃ h2 : zH, RLn h2 (q + 21) ∧ (∀ o, 272 ≤ o → h2.2.1 o = h.2.1 o) ∧ ∀ o : zO, Ev M_L_law 1501 [(4, zi i), (3, zr (some 271)), (2, zr (some 260)), (1, zr (some 0)), (0, zr (some 4130))] [] h2 (a + 4, b + 24) o → Ev M_L_law 1212 [(4, zi i), (3, zr (some 271)), (2, zr (some 260)), (1, zr (some 0)), (0, zr (some 4130))] [] h (a, b) o := by
  obtain ⟨h1, h2, r, e1, e2, e4, e5, e6⟩ := st_bestCut hR hq
  refine ⟨h2, e4, e5, fun o kk => ?_⟩
  have hK0 : h.1 = KK := hR.kk
  have hK1 : h1.1 = KK := e6
  refine Ev.aload_n (pc := 1212) (n := (a, b)) (i := 1) dL_law_1212 rfl rfl ?_
  refine Ev.callV (pc := 1213) (n := (a, b)) (ob := 0) (as := []) (st := []) e1 dL_law_1213 ok_X6_bestCut (lk_L_139 rfl) ⟨(Nat.le_of_ble_eq_true rfl), (Nat.le_of_ble_eq_true rfl)⟩ (zk_at hK0 rfl) ⟨by decide, rfl⟩ rfl (Nat.le_of_ble_eq_true rfl) (Nat.le_of_ble_eq_true rfl) ⟨by show a + 0 ≤ 601024; omega, by show b + 0 ≤ 7293033; omega⟩ ?_
  refine Ev.aload_n (pc := 1216) (n := (a, b)) (i := 2) dL_law_1216 rfl rfl ?_
  refine Ev.callV (pc := 1217) (n := (a, b)) (ob := 260) (as := []) (st := [zi r]) e2 dL_law_1217 ok_X7_bestCut (lk_L_142 rfl) ⟨(Nat.le_of_ble_eq_true rfl), (Nat.le_of_ble_eq_true rfl)⟩ (zk_at hK1 rfl) ⟨by decide, rfl⟩ rfl (Nat.le_of_ble_eq_true rfl) (Nat.le_of_ble_eq_true rfl) ⟨by show a + 0 ≤ 601024; omega, by show b + 0 ≤ 7293033; omega⟩ ?_
  refine Ev.icmp_eq (pc := 1220) (n := (a, b)) (tgt := 1501) dL_law_1220 rfl (fun hc => ?_) (fun hc => absurd rfl hc)
  exact Ev.wide (by show a ≤ a + 4; omega) (by show b ≤ b + 24; omega) kk
theorem lw_slackIf {h : zH} {q : Nat} (hR : RLn h q) (hq : q ≤ 10800) {i : Int} {a b : Nat} (hi : 0 ≤ i) (hl : i + 3 < (h.2.1 4131 0).toNat) (hl2 : h.2.1 4131 0 ≤ 2048) (ha : a ≤ 600000) (hb : b ≤ 7000000) : ∃ h2 : zH, RLn h2 (q + 21) ∧ (∀ o, 272 ≤ o → h2.2.1 o = h.2.1 o) ∧ ∀ o : zO, Ev M_L_law 1501 [(4, zi i), (3, zr (some 271)), (2, zr (some 260)), (1, zr (some 0)), (0, zr (some 4130))] [] h2 (a + 4, b + 24) o → Ev M_L_law 1225 [(4, zi i), (3, zr (some 271)), (2, zr (some 260)), (1, zr (some 0)), (0, zr (some 4130))] [] h (a, b) o := by
  obtain ⟨h1, h2, code, r, e1, e2, e3, e4, e5, e6, e7⟩ := st_slackIf hR hq (a := h.2.1 4130 (i + 1)) (b := h.2.1 4130 (i + 2))
  refine ⟨h2, e4, e5, fun o kk => ?_⟩
  have hK1 : h1.1 = KK := e6
  have hK2 : h2.1 = KK := e4.kk
  have s1 := e7 4130 (by decide)
  have s2 := congrFun (e7 4131 (by decide)) 0
  refine Ev.aload_n (pc := 1225) (n := (a, b)) (i := 1) dL_law_1225 rfl rfl ?_
  refine Ev.aload_n (pc := 1226) (n := (a, b)) (i := 0) dL_law_1226 rfl rfl ?_
  refine Ev.iload (pc := 1227) (n := (a, b)) dL_law_1227 rfl ?_
  refine Ev.iconst (pc := 1229) (n := (a, b)) dL_law_1229 ?_
  refine Ev.iadd (pc := 1230) (n := (a, b)) dL_law_1230 ⟨by omega, by omega⟩ ?_
  refine Ev.iaS (pc := 1231) (n := (a, b)) (i := i + 1) dL_law_1231 (by omega) (by omega) ?_
  skip
  refine Ev.aload_n (pc := 1232) (n := (a, b)) (i := 0) dL_law_1232 rfl rfl ?_
  refine Ev.iload (pc := 1233) (n := (a, b)) dL_law_1233 rfl ?_
  refine Ev.iconst (pc := 1235) (n := (a, b)) dL_law_1235 ?_
  refine Ev.iadd (pc := 1236) (n := (a, b)) dL_law_1236 ⟨by omega, by omega⟩ ?_
  refine Ev.iaS (pc := 1237) (n := (a, b)) (i := i + 2) dL_law_1237 (by omega) (by omega) ?_
  skip
  refine Ev.aload_n (pc := 1238) (n := (a, b)) (i := 3) dL_law_1238 rfl rfl ?_
  refine Ev.callSH (pc := 1239) (n := (a, b)) (as := [zr (some 0), zi (h.2.1 4130 (i + 1)), zi (h.2.1 4130 (i + 2)), zr (some 271)]) (st := []) e1 dL_law_1239 okH_slackIf (lk_L_143 rfl) ⟨(Nat.le_of_ble_eq_true rfl), (Nat.le_of_ble_eq_true rfl)⟩ rfl (Nat.le_of_ble_eq_true rfl) (Nat.le_of_ble_eq_true rfl) ⟨by show a + 3 ≤ 601024; omega, by show b + 18 ≤ 7293033; omega⟩ ?_
  refine Ev.istore (pc := 1242) (n := (a + 3, b + 18)) (i := 5) (L' := [(5, zi code), (4, zi i), (3, zr (some 271)), (2, zr (some 260)), (1, zr (some 0)), (0, zr (some 4130))]) dL_law_1242 (Nat.le_of_ble_eq_true rfl) rfl ?_
  refine Ev.aload_n (pc := 1244) (n := (a + 3, b + 18)) (i := 2) dL_law_1244 rfl rfl ?_
  refine Ev.aload_n (pc := 1245) (n := (a + 3, b + 18)) (i := 0) dL_law_1245 rfl rfl ?_
  refine Ev.iload (pc := 1246) (n := (a + 3, b + 18)) dL_law_1246 rfl ?_
  refine Ev.iconst (pc := 1248) (n := (a + 3, b + 18)) dL_law_1248 ?_
  refine Ev.iadd (pc := 1249) (n := (a + 3, b + 18)) dL_law_1249 ⟨by omega, by omega⟩ ?_
  refine Ev.iaS (pc := 1250) (n := (a + 3, b + 18)) (i := i + 1) dL_law_1250 (by omega) (by rw [s2]; omega) ?_
  rw [show (h1).2.1 4130 (i + 1) = h.2.1 4130 (i + 1) from congrFun s1 (i + 1)]
  refine Ev.aload_n (pc := 1251) (n := (a + 3, b + 18)) (i := 0) dL_law_1251 rfl rfl ?_
  refine Ev.iload (pc := 1252) (n := (a + 3, b + 18)) dL_law_1252 rfl ?_
  refine Ev.iconst (pc := 1254) (n := (a + 3, b + 18)) dL_law_1254 ?_
  refine Ev.iadd (pc := 1255) (n := (a + 3, b + 18)) dL_law_1255 ⟨by omega, by omega⟩ ?_
  refine Ev.iaS (pc := 1256) (n := (a + 3, b + 18)) (i := i + 2) dL_law_1256 (by omega) (by rw [s2]; omega) ?_
  rw [show (h1).2.1 4130 (i + 2) = h.2.1 4130 (i + 2) from congrFun s1 (i + 2)]
  refine Ev.callV (pc := 1257) (n := (a + 3, b + 18)) (ob := 260) (as := [zi (h.2.1 4130 (i + 1)), zi (h.2.1 4130 (i + 2))]) (st := []) e2 dL_law_1257 ok_X7_slackIf (lk_L_145 rfl) ⟨(Nat.le_of_ble_eq_true rfl), (Nat.le_of_ble_eq_true rfl)⟩ (zk_at hK1 rfl) ⟨by decide, rfl⟩ rfl (Nat.le_of_ble_eq_true rfl) (Nat.le_of_ble_eq_true rfl) ⟨by show a + 3 ≤ 601024; omega, by show b + 18 ≤ 7293033; omega⟩ ?_
  refine Ev.istore (pc := 1260) (n := (a + 3, b + 18)) (i := 6) (L' := [(6, zi r), (5, zi code), (4, zi i), (3, zr (some 271)), (2, zr (some 260)), (1, zr (some 0)), (0, zr (some 4130))]) dL_law_1260 (Nat.le_of_ble_eq_true rfl) rfl ?_
  refine Ev.aload_n (pc := 1262) (n := (a + 3, b + 18)) (i := 2) dL_law_1262 rfl rfl ?_
  refine Ev.callV (pc := 1263) (n := (a + 3, b + 18)) (ob := 260) (as := []) (st := []) (s_thrown e4.rm) dL_law_1263 ok_X7_thrown (lk_L_89 rfl) ⟨(Nat.le_of_ble_eq_true rfl), (Nat.le_of_ble_eq_true rfl)⟩ (zk_at hK2 rfl) ⟨by decide, rfl⟩ rfl (Nat.le_of_ble_eq_true rfl) (Nat.le_of_ble_eq_true rfl) ⟨by show a + 3 ≤ 601024; omega, by show b + 18 ≤ 7293033; omega⟩ ?_
  refine Ev.iload (pc := 1266) (n := (a + 3, b + 18)) dL_law_1266 rfl ?_
  refine Ev.icmp_eq (pc := 1268) (n := (a + 3, b + 18)) (tgt := 1273) dL_law_1268 rfl (fun hc => ?_) (fun hc => absurd e3.1 hc)
  refine Ev.iload (pc := 1273) (n := (a + 3, b + 18)) dL_law_1273 rfl ?_
  refine Ev.if_ne (pc := 1275) (n := (a + 3, b + 18)) (tgt := 1290) dL_law_1275 rfl (fun hc => ?_) (fun hc => ?_)
  · skip
    refine Ev.goto (pc := 1290) (n := (a + 3, b + 18)) (tgt := 1501) dL_law_1290 rfl ?_
    refine Ev.loc (L' := [(4, zi i), (3, zr (some 271)), (2, zr (some 260)), (1, zr (some 0)), (0, zr (some 4130))]) (fun q hq => List.mem_cons_of_mem _ (List.mem_cons_of_mem _ hq)) ?_
    exact Ev.wide (by show a + 3 ≤ a + 4; omega) (by show b + 18 ≤ b + 24; omega) kk
  · skip
    refine Ev.aload_n (pc := 1278) (n := (a + 3, b + 18)) (i := 3) dL_law_1278 rfl rfl ?_
    refine Ev.iconst (pc := 1279) (n := (a + 3, b + 18)) dL_law_1279 ?_
    refine Ev.la (pc := 1280) (n := (a + 3, b + 18)) (x := r) dL_law_1280 (zk_at hK2 rfl) (by omega) (by omega) (e3.2 hc) ?_
    refine Ev.iload (pc := 1281) (n := (a + 3, b + 18)) dL_law_1281 rfl ?_
    refine Ev.i2l (pc := 1283) (n := (a + 3, b + 18)) dL_law_1283 ?_
    refine Ev.lcmp (pc := 1284) (n := (a + 3, b + 18)) dL_law_1284 ?_
    refine Ev.if_eq (pc := 1285) (n := (a + 3, b + 18)) (tgt := 1290) dL_law_1285 rfl (fun hc => ?_) (fun hc => absurd (by rw [if_neg (Int.lt_irrefl r), if_pos rfl]) hc)
    refine Ev.goto (pc := 1290) (n := (a + 3, b + 18)) (tgt := 1501) dL_law_1290 rfl ?_
    refine Ev.loc (L' := [(4, zi i), (3, zr (some 271)), (2, zr (some 260)), (1, zr (some 0)), (0, zr (some 4130))]) (fun q hq => List.mem_cons_of_mem _ (List.mem_cons_of_mem _ hq)) ?_
    exact Ev.wide (by show a + 3 ≤ a + 4; omega) (by show b + 18 ≤ b + 24; omega) kk
theorem lw_reason {h : zH} {q : Nat} (hR : RLn h q) (hq : q ≤ 10800) {i : Int} {a b : Nat} (hi : 0 ≤ i) (hl : i + 3 < (h.2.1 4131 0).toNat) (hl2 : h.2.1 4131 0 ≤ 2048) (ha : a ≤ 600000) (hb : b ≤ 7000000) : ∃ h2 : zH, RLn h2 (q + 21) ∧ (∀ o, 272 ≤ o → h2.2.1 o = h.2.1 o) ∧ ∀ o : zO, Ev M_L_law 1501 [(4, zi i), (3, zr (some 271)), (2, zr (some 260)), (1, zr (some 0)), (0, zr (some 4130))] [] h2 (a + 4, b + 24) o → Ev M_L_law 1293 [(4, zi i), (3, zr (some 271)), (2, zr (some 260)), (1, zr (some 0)), (0, zr (some 4130))] [] h (a, b) o := by
  obtain ⟨h1, h2, code, r, e1, e2, e3, e4, e5, e6, e7⟩ := st_reason hR hq (a := h.2.1 4130 (i + 1)) (b := h.2.1 4130 (i + 2))
  refine ⟨h2, e4, e5, fun o kk => ?_⟩
  have hK1 : h1.1 = KK := e6
  have hK2 : h2.1 = KK := e4.kk
  have s1 := e7 4130 (by decide)
  have s2 := congrFun (e7 4131 (by decide)) 0
  refine Ev.aload_n (pc := 1293) (n := (a, b)) (i := 1) dL_law_1293 rfl rfl ?_
  refine Ev.aload_n (pc := 1294) (n := (a, b)) (i := 0) dL_law_1294 rfl rfl ?_
  refine Ev.iload (pc := 1295) (n := (a, b)) dL_law_1295 rfl ?_
  refine Ev.iconst (pc := 1297) (n := (a, b)) dL_law_1297 ?_
  refine Ev.iadd (pc := 1298) (n := (a, b)) dL_law_1298 ⟨by omega, by omega⟩ ?_
  refine Ev.iaS (pc := 1299) (n := (a, b)) (i := i + 1) dL_law_1299 (by omega) (by omega) ?_
  skip
  refine Ev.aload_n (pc := 1300) (n := (a, b)) (i := 0) dL_law_1300 rfl rfl ?_
  refine Ev.iload (pc := 1301) (n := (a, b)) dL_law_1301 rfl ?_
  refine Ev.iconst (pc := 1303) (n := (a, b)) dL_law_1303 ?_
  refine Ev.iadd (pc := 1304) (n := (a, b)) dL_law_1304 ⟨by omega, by omega⟩ ?_
  refine Ev.iaS (pc := 1305) (n := (a, b)) (i := i + 2) dL_law_1305 (by omega) (by omega) ?_
  skip
  refine Ev.aload_n (pc := 1306) (n := (a, b)) (i := 3) dL_law_1306 rfl rfl ?_
  refine Ev.callSH (pc := 1307) (n := (a, b)) (as := [zr (some 0), zi (h.2.1 4130 (i + 1)), zi (h.2.1 4130 (i + 2)), zr (some 271)]) (st := []) e1 dL_law_1307 okH_reason (lk_L_146 rfl) ⟨(Nat.le_of_ble_eq_true rfl), (Nat.le_of_ble_eq_true rfl)⟩ rfl (Nat.le_of_ble_eq_true rfl) (Nat.le_of_ble_eq_true rfl) ⟨by show a + 2 ≤ 601024; omega, by show b + 12 ≤ 7293033; omega⟩ ?_
  refine Ev.istore (pc := 1310) (n := (a + 2, b + 12)) (i := 5) (L' := [(5, zi code), (4, zi i), (3, zr (some 271)), (2, zr (some 260)), (1, zr (some 0)), (0, zr (some 4130))]) dL_law_1310 (Nat.le_of_ble_eq_true rfl) rfl ?_
  refine Ev.aload_n (pc := 1312) (n := (a + 2, b + 12)) (i := 2) dL_law_1312 rfl rfl ?_
  refine Ev.aload_n (pc := 1313) (n := (a + 2, b + 12)) (i := 0) dL_law_1313 rfl rfl ?_
  refine Ev.iload (pc := 1314) (n := (a + 2, b + 12)) dL_law_1314 rfl ?_
  refine Ev.iconst (pc := 1316) (n := (a + 2, b + 12)) dL_law_1316 ?_
  refine Ev.iadd (pc := 1317) (n := (a + 2, b + 12)) dL_law_1317 ⟨by omega, by omega⟩ ?_
  refine Ev.iaS (pc := 1318) (n := (a + 2, b + 12)) (i := i + 1) dL_law_1318 (by omega) (by rw [s2]; omega) ?_
  rw [show (h1).2.1 4130 (i + 1) = h.2.1 4130 (i + 1) from congrFun s1 (i + 1)]
  refine Ev.aload_n (pc := 1319) (n := (a + 2, b + 12)) (i := 0) dL_law_1319 rfl rfl ?_
  refine Ev.iload (pc := 1320) (n := (a + 2, b + 12)) dL_law_1320 rfl ?_
  refine Ev.iconst (pc := 1322) (n := (a + 2, b + 12)) dL_law_1322 ?_
  refine Ev.iadd (pc := 1323) (n := (a + 2, b + 12)) dL_law_1323 ⟨by omega, by omega⟩ ?_
  refine Ev.iaS (pc := 1324) (n := (a + 2, b + 12)) (i := i + 2) dL_law_1324 (by omega) (by rw [s2]; omega) ?_
  rw [show (h1).2.1 4130 (i + 2) = h.2.1 4130 (i + 2) from congrFun s1 (i + 2)]
  refine Ev.callV (pc := 1325) (n := (a + 2, b + 12)) (ob := 260) (as := [zi (h.2.1 4130 (i + 1)), zi (h.2.1 4130 (i + 2))]) (st := []) e2 dL_law_1325 ok_X7_reason (lk_L_148 rfl) ⟨(Nat.le_of_ble_eq_true rfl), (Nat.le_of_ble_eq_true rfl)⟩ (zk_at hK1 rfl) ⟨by decide, rfl⟩ rfl (Nat.le_of_ble_eq_true rfl) (Nat.le_of_ble_eq_true rfl) ⟨by show a + 2 ≤ 601024; omega, by show b + 12 ≤ 7293033; omega⟩ ?_
  refine Ev.istore (pc := 1328) (n := (a + 2, b + 12)) (i := 6) (L' := [(6, zi r), (5, zi code), (4, zi i), (3, zr (some 271)), (2, zr (some 260)), (1, zr (some 0)), (0, zr (some 4130))]) dL_law_1328 (Nat.le_of_ble_eq_true rfl) rfl ?_
  refine Ev.aload_n (pc := 1330) (n := (a + 2, b + 12)) (i := 2) dL_law_1330 rfl rfl ?_
  refine Ev.callV (pc := 1331) (n := (a + 2, b + 12)) (ob := 260) (as := []) (st := []) (s_thrown e4.rm) dL_law_1331 ok_X7_thrown (lk_L_89 rfl) ⟨(Nat.le_of_ble_eq_true rfl), (Nat.le_of_ble_eq_true rfl)⟩ (zk_at hK2 rfl) ⟨by decide, rfl⟩ rfl (Nat.le_of_ble_eq_true rfl) (Nat.le_of_ble_eq_true rfl) ⟨by show a + 2 ≤ 601024; omega, by show b + 12 ≤ 7293033; omega⟩ ?_
  refine Ev.iload (pc := 1334) (n := (a + 2, b + 12)) dL_law_1334 rfl ?_
  refine Ev.icmp_eq (pc := 1336) (n := (a + 2, b + 12)) (tgt := 1341) dL_law_1336 rfl (fun hc => ?_) (fun hc => absurd e3.1 hc)
  refine Ev.iload (pc := 1341) (n := (a + 2, b + 12)) dL_law_1341 rfl ?_
  refine Ev.if_ne (pc := 1343) (n := (a + 2, b + 12)) (tgt := 1358) dL_law_1343 rfl (fun hc => ?_) (fun hc => ?_)
  · skip
    refine Ev.goto (pc := 1358) (n := (a + 2, b + 12)) (tgt := 1501) dL_law_1358 rfl ?_
    refine Ev.loc (L' := [(4, zi i), (3, zr (some 271)), (2, zr (some 260)), (1, zr (some 0)), (0, zr (some 4130))]) (fun q hq => List.mem_cons_of_mem _ (List.mem_cons_of_mem _ hq)) ?_
    exact Ev.wide (by show a + 2 ≤ a + 4; omega) (by show b + 12 ≤ b + 24; omega) kk
  · skip
    refine Ev.aload_n (pc := 1346) (n := (a + 2, b + 12)) (i := 3) dL_law_1346 rfl rfl ?_
    refine Ev.iconst (pc := 1347) (n := (a + 2, b + 12)) dL_law_1347 ?_
    refine Ev.la (pc := 1348) (n := (a + 2, b + 12)) (x := r) dL_law_1348 (zk_at hK2 rfl) (by omega) (by omega) (e3.2 hc) ?_
    refine Ev.iload (pc := 1349) (n := (a + 2, b + 12)) dL_law_1349 rfl ?_
    refine Ev.i2l (pc := 1351) (n := (a + 2, b + 12)) dL_law_1351 ?_
    refine Ev.lcmp (pc := 1352) (n := (a + 2, b + 12)) dL_law_1352 ?_
    refine Ev.if_eq (pc := 1353) (n := (a + 2, b + 12)) (tgt := 1358) dL_law_1353 rfl (fun hc => ?_) (fun hc => absurd (by rw [if_neg (Int.lt_irrefl r), if_pos rfl]) hc)
    refine Ev.goto (pc := 1358) (n := (a + 2, b + 12)) (tgt := 1501) dL_law_1358 rfl ?_
    refine Ev.loc (L' := [(4, zi i), (3, zr (some 271)), (2, zr (some 260)), (1, zr (some 0)), (0, zr (some 4130))]) (fun q hq => List.mem_cons_of_mem _ (List.mem_cons_of_mem _ hq)) ?_
    exact Ev.wide (by show a + 2 ≤ a + 4; omega) (by show b + 12 ≤ b + 24; omega) kk
theorem lw_type {h : zH} {q : Nat} (hR : RLn h q) (hq : q ≤ 10800) {i : Int} {a b : Nat} (hi : 0 ≤ i) (hl : i + 3 < (h.2.1 4131 0).toNat) (hl2 : h.2.1 4131 0 ≤ 2048) (ha : a ≤ 600000) (hb : b ≤ 7000000) : ∃ h2 : zH, RLn h2 (q + 21) ∧ (∀ o, 272 ≤ o → h2.2.1 o = h.2.1 o) ∧ ∀ o : zO, Ev M_L_law 1501 [(4, zi i), (3, zr (some 271)), (2, zr (some 260)), (1, zr (some 0)), (0, zr (some 4130))] [] h2 (a + 4, b + 24) o → Ev M_L_law 1361 [(4, zi i), (3, zr (some 271)), (2, zr (some 260)), (1, zr (some 0)), (0, zr (some 4130))] [] h (a, b) o := by
  obtain ⟨h1, h2, code, r, e1, e2, e3, e4, e5, e6, e7⟩ := st_type hR hq (a := h.2.1 4130 (i + 1))
  refine ⟨h2, e4, e5, fun o kk => ?_⟩
  have hK1 : h1.1 = KK := e6
  have hK2 : h2.1 = KK := e4.kk
  have s1 := e7 4130 (by decide)
  have s2 := congrFun (e7 4131 (by decide)) 0
  refine Ev.aload_n (pc := 1361) (n := (a, b)) (i := 1) dL_law_1361 rfl rfl ?_
  refine Ev.aload_n (pc := 1362) (n := (a, b)) (i := 0) dL_law_1362 rfl rfl ?_
  refine Ev.iload (pc := 1363) (n := (a, b)) dL_law_1363 rfl ?_
  refine Ev.iconst (pc := 1365) (n := (a, b)) dL_law_1365 ?_
  refine Ev.iadd (pc := 1366) (n := (a, b)) dL_law_1366 ⟨by omega, by omega⟩ ?_
  refine Ev.iaS (pc := 1367) (n := (a, b)) (i := i + 1) dL_law_1367 (by omega) (by omega) ?_
  skip
  refine Ev.aload_n (pc := 1368) (n := (a, b)) (i := 3) dL_law_1368 rfl rfl ?_
  refine Ev.callSH (pc := 1369) (n := (a, b)) (as := [zr (some 0), zi (h.2.1 4130 (i + 1)), zr (some 271)]) (st := []) e1 dL_law_1369 okH_type (lk_L_149 rfl) ⟨(Nat.le_of_ble_eq_true rfl), (Nat.le_of_ble_eq_true rfl)⟩ rfl (Nat.le_of_ble_eq_true rfl) (Nat.le_of_ble_eq_true rfl) ⟨by show a + 2 ≤ 601024; omega, by show b + 12 ≤ 7293033; omega⟩ ?_
  refine Ev.istore (pc := 1372) (n := (a + 2, b + 12)) (i := 5) (L' := [(5, zi code), (4, zi i), (3, zr (some 271)), (2, zr (some 260)), (1, zr (some 0)), (0, zr (some 4130))]) dL_law_1372 (Nat.le_of_ble_eq_true rfl) rfl ?_
  refine Ev.aload_n (pc := 1374) (n := (a + 2, b + 12)) (i := 2) dL_law_1374 rfl rfl ?_
  refine Ev.aload_n (pc := 1375) (n := (a + 2, b + 12)) (i := 0) dL_law_1375 rfl rfl ?_
  refine Ev.iload (pc := 1376) (n := (a + 2, b + 12)) dL_law_1376 rfl ?_
  refine Ev.iconst (pc := 1378) (n := (a + 2, b + 12)) dL_law_1378 ?_
  refine Ev.iadd (pc := 1379) (n := (a + 2, b + 12)) dL_law_1379 ⟨by omega, by omega⟩ ?_
  refine Ev.iaS (pc := 1380) (n := (a + 2, b + 12)) (i := i + 1) dL_law_1380 (by omega) (by rw [s2]; omega) ?_
  rw [show (h1).2.1 4130 (i + 1) = h.2.1 4130 (i + 1) from congrFun s1 (i + 1)]
  refine Ev.callV (pc := 1381) (n := (a + 2, b + 12)) (ob := 260) (as := [zi (h.2.1 4130 (i + 1))]) (st := []) e2 dL_law_1381 ok_X7_type (lk_L_151 rfl) ⟨(Nat.le_of_ble_eq_true rfl), (Nat.le_of_ble_eq_true rfl)⟩ (zk_at hK1 rfl) ⟨by decide, rfl⟩ rfl (Nat.le_of_ble_eq_true rfl) (Nat.le_of_ble_eq_true rfl) ⟨by show a + 2 ≤ 601024; omega, by show b + 12 ≤ 7293033; omega⟩ ?_
  refine Ev.istore (pc := 1384) (n := (a + 2, b + 12)) (i := 6) (L' := [(6, zi r), (5, zi code), (4, zi i), (3, zr (some 271)), (2, zr (some 260)), (1, zr (some 0)), (0, zr (some 4130))]) dL_law_1384 (Nat.le_of_ble_eq_true rfl) rfl ?_
  refine Ev.aload_n (pc := 1386) (n := (a + 2, b + 12)) (i := 2) dL_law_1386 rfl rfl ?_
  refine Ev.callV (pc := 1387) (n := (a + 2, b + 12)) (ob := 260) (as := []) (st := []) (s_thrown e4.rm) dL_law_1387 ok_X7_thrown (lk_L_89 rfl) ⟨(Nat.le_of_ble_eq_true rfl), (Nat.le_of_ble_eq_true rfl)⟩ (zk_at hK2 rfl) ⟨by decide, rfl⟩ rfl (Nat.le_of_ble_eq_true rfl) (Nat.le_of_ble_eq_true rfl) ⟨by show a + 2 ≤ 601024; omega, by show b + 12 ≤ 7293033; omega⟩ ?_
  refine Ev.iload (pc := 1390) (n := (a + 2, b + 12)) dL_law_1390 rfl ?_
  refine Ev.icmp_eq (pc := 1392) (n := (a + 2, b + 12)) (tgt := 1397) dL_law_1392 rfl (fun hc => ?_) (fun hc => absurd e3.1 hc)
  refine Ev.iload (pc := 1397) (n := (a + 2, b + 12)) dL_law_1397 rfl ?_
  refine Ev.if_ne (pc := 1399) (n := (a + 2, b + 12)) (tgt := 1414) dL_law_1399 rfl (fun hc => ?_) (fun hc => ?_)
  · skip
    refine Ev.goto (pc := 1414) (n := (a + 2, b + 12)) (tgt := 1501) dL_law_1414 rfl ?_
    refine Ev.loc (L' := [(4, zi i), (3, zr (some 271)), (2, zr (some 260)), (1, zr (some 0)), (0, zr (some 4130))]) (fun q hq => List.mem_cons_of_mem _ (List.mem_cons_of_mem _ hq)) ?_
    exact Ev.wide (by show a + 2 ≤ a + 4; omega) (by show b + 12 ≤ b + 24; omega) kk
  · skip
    refine Ev.aload_n (pc := 1402) (n := (a + 2, b + 12)) (i := 3) dL_law_1402 rfl rfl ?_
    refine Ev.iconst (pc := 1403) (n := (a + 2, b + 12)) dL_law_1403 ?_
    refine Ev.la (pc := 1404) (n := (a + 2, b + 12)) (x := r) dL_law_1404 (zk_at hK2 rfl) (by omega) (by omega) (e3.2 hc) ?_
    refine Ev.iload (pc := 1405) (n := (a + 2, b + 12)) dL_law_1405 rfl ?_
    refine Ev.i2l (pc := 1407) (n := (a + 2, b + 12)) dL_law_1407 ?_
    refine Ev.lcmp (pc := 1408) (n := (a + 2, b + 12)) dL_law_1408 ?_
    refine Ev.if_eq (pc := 1409) (n := (a + 2, b + 12)) (tgt := 1414) dL_law_1409 rfl (fun hc => ?_) (fun hc => absurd (by rw [if_neg (Int.lt_irrefl r), if_pos rfl]) hc)
    refine Ev.goto (pc := 1414) (n := (a + 2, b + 12)) (tgt := 1501) dL_law_1414 rfl ?_
    refine Ev.loc (L' := [(4, zi i), (3, zr (some 271)), (2, zr (some 260)), (1, zr (some 0)), (0, zr (some 4130))]) (fun q hq => List.mem_cons_of_mem _ (List.mem_cons_of_mem _ hq)) ?_
    exact Ev.wide (by show a + 2 ≤ a + 4; omega) (by show b + 12 ≤ b + 24; omega) kk
theorem lw_clearCommands {h : zH} {q : Nat} (hR : RLn h q) (hq : q ≤ 10800) {i : Int} {a b : Nat} (hi : 0 ≤ i) (hl : i + 3 < (h.2.1 4131 0).toNat) (hl2 : h.2.1 4131 0 ≤ 2048) (ha : a ≤ 600000) (hb : b ≤ 7000000) : ∃ h2 : zH, RLn h2 (q + 21) ∧ (∀ o, 272 ≤ o → h2.2.1 o = h.2.1 o) ∧ ∀ o : zO, Ev M_L_law 1501 [(4, zi i), (3, zr (some 271)), (2, zr (some 260)), (1, zr (some 0)), (0, zr (some 4130))] [] h2 (a + 4, b + 24) o → Ev M_L_law 1417 [(4, zi i), (3, zr (some 271)), (2, zr (some 260)), (1, zr (some 0)), (0, zr (some 4130))] [] h (a, b) o := by
  obtain ⟨h1, h2, r, e1, e2, e4, e5, e6⟩ := st_clear hR hq
  refine ⟨h2, e4, e5, fun o kk => ?_⟩
  have hK0 : h.1 = KK := hR.kk
  have hK1 : h1.1 = KK := e6
  refine Ev.aload_n (pc := 1417) (n := (a, b)) (i := 1) dL_law_1417 rfl rfl ?_
  refine Ev.callV (pc := 1418) (n := (a, b)) (ob := 0) (as := []) (st := []) e1 dL_law_1418 ok_X6_clearCommands (lk_L_152 rfl) ⟨(Nat.le_of_ble_eq_true rfl), (Nat.le_of_ble_eq_true rfl)⟩ (zk_at hK0 rfl) ⟨by decide, rfl⟩ rfl (Nat.le_of_ble_eq_true rfl) (Nat.le_of_ble_eq_true rfl) ⟨by show a + 0 ≤ 601024; omega, by show b + 0 ≤ 7293033; omega⟩ ?_
  refine Ev.aload_n (pc := 1421) (n := (a, b)) (i := 2) dL_law_1421 rfl rfl ?_
  refine Ev.callV (pc := 1422) (n := (a, b)) (ob := 260) (as := []) (st := [zi r]) e2 dL_law_1422 ok_X7_clearCommands (lk_L_155 rfl) ⟨(Nat.le_of_ble_eq_true rfl), (Nat.le_of_ble_eq_true rfl)⟩ (zk_at hK1 rfl) ⟨by decide, rfl⟩ rfl (Nat.le_of_ble_eq_true rfl) (Nat.le_of_ble_eq_true rfl) ⟨by show a + 0 ≤ 601024; omega, by show b + 0 ≤ 7293033; omega⟩ ?_
  refine Ev.icmp_eq (pc := 1425) (n := (a, b)) (tgt := 1501) dL_law_1425 rfl (fun hc => ?_) (fun hc => absurd rfl hc)
  exact Ev.wide (by show a ≤ a + 4; omega) (by show b ≤ b + 24; omega) kk
theorem lw_runCommands {h : zH} {q : Nat} (hR : RLn h q) (hq : q ≤ 10800) {i : Int} {a b : Nat} (hi : 0 ≤ i) (hl : i + 3 < (h.2.1 4131 0).toNat) (hl2 : h.2.1 4131 0 ≤ 2048) (ha : a ≤ 600000) (hb : b ≤ 7000000) : ∃ h2 : zH, RLn h2 (q + 21) ∧ (∀ o, 272 ≤ o → h2.2.1 o = h.2.1 o) ∧ ∀ o : zO, Ev M_L_law 1501 [(4, zi i), (3, zr (some 271)), (2, zr (some 260)), (1, zr (some 0)), (0, zr (some 4130))] [] h2 (a + 4, b + 24) o → Ev M_L_law 1430 [(4, zi i), (3, zr (some 271)), (2, zr (some 260)), (1, zr (some 0)), (0, zr (some 4130))] [] h (a, b) o := by
  obtain ⟨h1, h2, r, e1, e2, e4, e5, e6⟩ := st_run hR hq
  refine ⟨h2, e4, e5, fun o kk => ?_⟩
  have hK0 : h.1 = KK := hR.kk
  have hK1 : h1.1 = KK := e6
  refine Ev.aload_n (pc := 1430) (n := (a, b)) (i := 1) dL_law_1430 rfl rfl ?_
  refine Ev.callV (pc := 1431) (n := (a, b)) (ob := 0) (as := []) (st := []) e1 dL_law_1431 ok_X6_runCommands (lk_L_156 rfl) ⟨(Nat.le_of_ble_eq_true rfl), (Nat.le_of_ble_eq_true rfl)⟩ (zk_at hK0 rfl) ⟨by decide, rfl⟩ rfl (Nat.le_of_ble_eq_true rfl) (Nat.le_of_ble_eq_true rfl) ⟨by show a + 0 ≤ 601024; omega, by show b + 0 ≤ 7293033; omega⟩ ?_
  refine Ev.aload_n (pc := 1434) (n := (a, b)) (i := 2) dL_law_1434 rfl rfl ?_
  refine Ev.callV (pc := 1435) (n := (a, b)) (ob := 260) (as := []) (st := [zi r]) e2 dL_law_1435 ok_X7_runCommands (lk_L_159 rfl) ⟨(Nat.le_of_ble_eq_true rfl), (Nat.le_of_ble_eq_true rfl)⟩ (zk_at hK1 rfl) ⟨by decide, rfl⟩ rfl (Nat.le_of_ble_eq_true rfl) (Nat.le_of_ble_eq_true rfl) ⟨by show a + 0 ≤ 601024; omega, by show b + 0 ≤ 7293033; omega⟩ ?_
  refine Ev.icmp_eq (pc := 1438) (n := (a, b)) (tgt := 1501) dL_law_1438 rfl (fun hc => ?_) (fun hc => absurd rfl hc)
  exact Ev.wide (by show a ≤ a + 4; omega) (by show b ≤ b + 24; omega) kk
theorem lw_undo {h : zH} {q : Nat} (hR : RLn h q) (hq : q ≤ 10800) {i : Int} {a b : Nat} (hi : 0 ≤ i) (hl : i + 3 < (h.2.1 4131 0).toNat) (hl2 : h.2.1 4131 0 ≤ 2048) (ha : a ≤ 600000) (hb : b ≤ 7000000) : ∃ h2 : zH, RLn h2 (q + 21) ∧ (∀ o, 272 ≤ o → h2.2.1 o = h.2.1 o) ∧ ∀ o : zO, Ev M_L_law 1501 [(4, zi i), (3, zr (some 271)), (2, zr (some 260)), (1, zr (some 0)), (0, zr (some 4130))] [] h2 (a + 4, b + 24) o → Ev M_L_law 1443 [(4, zi i), (3, zr (some 271)), (2, zr (some 260)), (1, zr (some 0)), (0, zr (some 4130))] [] h (a, b) o := by
  obtain ⟨h1, h2, code, r, e1, e2, e3, e4, e5, e6, e7⟩ := st_undo hR hq
  refine ⟨h2, e4, e5, fun o kk => ?_⟩
  have hK1 : h1.1 = KK := e6
  have hK2 : h2.1 = KK := e4.kk
  have s1 := e7 4130 (by decide)
  have s2 := congrFun (e7 4131 (by decide)) 0
  refine Ev.aload_n (pc := 1443) (n := (a, b)) (i := 1) dL_law_1443 rfl rfl ?_
  refine Ev.aload_n (pc := 1444) (n := (a, b)) (i := 3) dL_law_1444 rfl rfl ?_
  refine Ev.callSH (pc := 1445) (n := (a, b)) (as := [zr (some 0), zr (some 271)]) (st := []) e1 dL_law_1445 okH_undo (lk_L_160 rfl) ⟨(Nat.le_of_ble_eq_true rfl), (Nat.le_of_ble_eq_true rfl)⟩ rfl (Nat.le_of_ble_eq_true rfl) (Nat.le_of_ble_eq_true rfl) ⟨by show a + 1 ≤ 601024; omega, by show b + 6 ≤ 7293033; omega⟩ ?_
  refine Ev.istore (pc := 1448) (n := (a + 1, b + 6)) (i := 5) (L' := [(5, zi code), (4, zi i), (3, zr (some 271)), (2, zr (some 260)), (1, zr (some 0)), (0, zr (some 4130))]) dL_law_1448 (Nat.le_of_ble_eq_true rfl) rfl ?_
  refine Ev.aload_n (pc := 1450) (n := (a + 1, b + 6)) (i := 2) dL_law_1450 rfl rfl ?_
  refine Ev.callV (pc := 1451) (n := (a + 1, b + 6)) (ob := 260) (as := []) (st := []) e2 dL_law_1451 ok_X7_undo (lk_L_163 rfl) ⟨(Nat.le_of_ble_eq_true rfl), (Nat.le_of_ble_eq_true rfl)⟩ (zk_at hK1 rfl) ⟨by decide, rfl⟩ rfl (Nat.le_of_ble_eq_true rfl) (Nat.le_of_ble_eq_true rfl) ⟨by show a + 1 ≤ 601024; omega, by show b + 6 ≤ 7293033; omega⟩ ?_
  refine Ev.istore (pc := 1454) (n := (a + 1, b + 6)) (i := 6) (L' := [(6, zi r), (5, zi code), (4, zi i), (3, zr (some 271)), (2, zr (some 260)), (1, zr (some 0)), (0, zr (some 4130))]) dL_law_1454 (Nat.le_of_ble_eq_true rfl) rfl ?_
  refine Ev.aload_n (pc := 1456) (n := (a + 1, b + 6)) (i := 2) dL_law_1456 rfl rfl ?_
  refine Ev.callV (pc := 1457) (n := (a + 1, b + 6)) (ob := 260) (as := []) (st := []) (s_thrown e4.rm) dL_law_1457 ok_X7_thrown (lk_L_89 rfl) ⟨(Nat.le_of_ble_eq_true rfl), (Nat.le_of_ble_eq_true rfl)⟩ (zk_at hK2 rfl) ⟨by decide, rfl⟩ rfl (Nat.le_of_ble_eq_true rfl) (Nat.le_of_ble_eq_true rfl) ⟨by show a + 1 ≤ 601024; omega, by show b + 6 ≤ 7293033; omega⟩ ?_
  refine Ev.iload (pc := 1460) (n := (a + 1, b + 6)) dL_law_1460 rfl ?_
  refine Ev.icmp_eq (pc := 1462) (n := (a + 1, b + 6)) (tgt := 1467) dL_law_1462 rfl (fun hc => ?_) (fun hc => absurd e3.1 hc)
  refine Ev.iload (pc := 1467) (n := (a + 1, b + 6)) dL_law_1467 rfl ?_
  refine Ev.if_ne (pc := 1469) (n := (a + 1, b + 6)) (tgt := 1484) dL_law_1469 rfl (fun hc => ?_) (fun hc => ?_)
  · skip
    refine Ev.goto (pc := 1484) (n := (a + 1, b + 6)) (tgt := 1501) dL_law_1484 rfl ?_
    refine Ev.loc (L' := [(4, zi i), (3, zr (some 271)), (2, zr (some 260)), (1, zr (some 0)), (0, zr (some 4130))]) (fun q hq => List.mem_cons_of_mem _ (List.mem_cons_of_mem _ hq)) ?_
    exact Ev.wide (by show a + 1 ≤ a + 4; omega) (by show b + 6 ≤ b + 24; omega) kk
  · skip
    refine Ev.aload_n (pc := 1472) (n := (a + 1, b + 6)) (i := 3) dL_law_1472 rfl rfl ?_
    refine Ev.iconst (pc := 1473) (n := (a + 1, b + 6)) dL_law_1473 ?_
    refine Ev.la (pc := 1474) (n := (a + 1, b + 6)) (x := r) dL_law_1474 (zk_at hK2 rfl) (by omega) (by omega) (e3.2 hc) ?_
    refine Ev.iload (pc := 1475) (n := (a + 1, b + 6)) dL_law_1475 rfl ?_
    refine Ev.i2l (pc := 1477) (n := (a + 1, b + 6)) dL_law_1477 ?_
    refine Ev.lcmp (pc := 1478) (n := (a + 1, b + 6)) dL_law_1478 ?_
    refine Ev.if_eq (pc := 1479) (n := (a + 1, b + 6)) (tgt := 1484) dL_law_1479 rfl (fun hc => ?_) (fun hc => absurd (by rw [if_neg (Int.lt_irrefl r), if_pos rfl]) hc)
    refine Ev.goto (pc := 1484) (n := (a + 1, b + 6)) (tgt := 1501) dL_law_1484 rfl ?_
    refine Ev.loc (L' := [(4, zi i), (3, zr (some 271)), (2, zr (some 260)), (1, zr (some 0)), (0, zr (some 4130))]) (fun q hq => List.mem_cons_of_mem _ (List.mem_cons_of_mem _ hq)) ?_
    exact Ev.wide (by show a + 1 ≤ a + 4; omega) (by show b + 6 ≤ b + 24; omega) kk
theorem lw_digest {h : zH} {q : Nat} (hR : RLn h q) (hq : q ≤ 10800) {i : Int} {a b : Nat} (hi : 0 ≤ i) (hl : i + 3 < (h.2.1 4131 0).toNat) (hl2 : h.2.1 4131 0 ≤ 2048) (ha : a ≤ 600000) (hb : b ≤ 7000000) : ∃ h2 : zH, RLn h2 (q + 21) ∧ (∀ o, 272 ≤ o → h2.2.1 o = h.2.1 o) ∧ ∀ o : zO, Ev M_L_law 1501 [(4, zi i), (3, zr (some 271)), (2, zr (some 260)), (1, zr (some 0)), (0, zr (some 4130))] [] h2 (a + 4, b + 24) o → Ev M_L_law 1487 [(4, zi i), (3, zr (some 271)), (2, zr (some 260)), (1, zr (some 0)), (0, zr (some 4130))] [] h (a, b) o := by
  obtain ⟨h1, h2, r, e1, e2, e4, e5, e6⟩ := st_digest hR hq
  refine ⟨h2, e4, e5, fun o kk => ?_⟩
  have hK0 : h.1 = KK := hR.kk
  have hK1 : h1.1 = KK := e6
  refine Ev.aload_n (pc := 1487) (n := (a, b)) (i := 1) dL_law_1487 rfl rfl ?_
  refine Ev.callV (pc := 1488) (n := (a, b)) (ob := 0) (as := []) (st := []) e1 dL_law_1488 ok_X6_digest (lk_L_164 rfl) ⟨(Nat.le_of_ble_eq_true rfl), (Nat.le_of_ble_eq_true rfl)⟩ (zk_at hK0 rfl) ⟨by decide, rfl⟩ rfl (Nat.le_of_ble_eq_true rfl) (Nat.le_of_ble_eq_true rfl) ⟨by show a + 0 ≤ 601024; omega, by show b + 0 ≤ 7293033; omega⟩ ?_
  refine Ev.aload_n (pc := 1491) (n := (a, b)) (i := 2) dL_law_1491 rfl rfl ?_
  refine Ev.callV (pc := 1492) (n := (a, b)) (ob := 260) (as := []) (st := [zl r]) e2 dL_law_1492 ok_X7_digest (lk_L_168 rfl) ⟨(Nat.le_of_ble_eq_true rfl), (Nat.le_of_ble_eq_true rfl)⟩ (zk_at hK1 rfl) ⟨by decide, rfl⟩ rfl (Nat.le_of_ble_eq_true rfl) (Nat.le_of_ble_eq_true rfl) ⟨by show a + 0 ≤ 601024; omega, by show b + 0 ≤ 7293033; omega⟩ ?_
  refine Ev.lcmp (pc := 1495) (n := (a, b)) dL_law_1495 ?_
  refine Ev.if_eq (pc := 1496) (n := (a, b)) (tgt := 1501) dL_law_1496 rfl (fun hc => ?_) (fun hc => absurd (by rw [if_neg (Int.lt_irrefl r), if_pos rfl]) hc)
  exact Ev.wide (by show a ≤ a + 4; omega) (by show b ≤ b + 24; omega) kk
theorem and31 (a : Int32) : 0 ≤ (a &&& Int32.ofInt 31).toInt ∧ (a &&& Int32.ofInt 31).toInt ≤ 31 := by
  have h : (a &&& Int32.ofInt 31).toBitVec.toNat ≤ 31 := by
    rw [Int32.toBitVec_and, BitVec.toNat_and]
    exact Nat.le_trans Nat.and_le_right (by decide)
  have e : (a &&& Int32.ofInt 31).toInt = ((a &&& Int32.ofInt 31).toBitVec.toNat : Int) := BitVec.toInt_eq_toNat_of_lt (by omega)
  rw [e]
  omega
theorem lw_case {h : zH} {q : Nat} (hR : RLn h q) (hq : q ≤ 10800) {i : Int} {a b : Nat} (hi : 0 ≤ i) (hl : i + 3 < (h.2.1 4131 0).toNat) (hl2 : h.2.1 4131 0 ≤ 2048) (ha : a ≤ 600000) (hb : b ≤ 7000000) {v : Int} (hv : 0 ≤ v) : ∃ h2 : zH, RLn h2 (q + 21) ∧ (∀ o, 272 ≤ o → h2.2.1 o = h.2.1 o) ∧ ∀ o : zO, Ev M_L_law 1501 [(4, zi i), (3, zr (some 271)), (2, zr (some 260)), (1, zr (some 0)), (0, zr (some 4130))] [] h2 (a + 4, b + 24) o → Ev M_L_law 39 [(4, zi i), (3, zr (some 271)), (2, zr (some 260)), (1, zr (some 0)), (0, zr (some 4130))] [zi v] h (a, b) o := by
  by_cases c : 23 < v
  · refine ⟨h, ?_, fun _ _ => rfl, fun o kk => Ev.tableOut (pc := 39) (n := (a, b)) (tgt := 1501) dL_law_39 (Or.inr c) rfl (Ev.wide (by show a ≤ a + 4; omega) (by show b ≤ b + 24; omega) kk)⟩
    obtain ⟨σ, cnt, t, L, S, n, F, ad, dl, r⟩ := hR
    exact ⟨σ, cnt, t, L, S, n, F, ad, dl, r.mono (by omega)⟩
  have hv24 : v = 0 ∨ v = 1 ∨ v = 2 ∨ v = 3 ∨ v = 4 ∨ v = 5 ∨ v = 6 ∨ v = 7 ∨ v = 8 ∨ v = 9 ∨ v = 10 ∨ v = 11 ∨ v = 12 ∨ v = 13 ∨ v = 14 ∨ v = 15 ∨ v = 16 ∨ v = 17 ∨ v = 18 ∨ v = 19 ∨ v = 20 ∨ v = 21 ∨ v = 22 ∨ v = 23 := by omega
  rcases hv24 with rfl | rfl | rfl | rfl | rfl | rfl | rfl | rfl | rfl | rfl | rfl | rfl | rfl | rfl | rfl | rfl | rfl | rfl | rfl | rfl | rfl | rfl | rfl | rfl
  · obtain ⟨h2, e4, e5, k⟩ := lw_addGroup hR hq hi hl hl2 ha hb
    exact ⟨h2, e4, e5, fun o kk => Ev.tableIn (pc := 39) (n := (a, b)) (tgt := 148) dL_law_39 (by decide) (by decide) rfl rfl (k o kk)⟩
  · obtain ⟨h2, e4, e5, k⟩ := lw_addTask hR hq hi hl hl2 ha hb
    exact ⟨h2, e4, e5, fun o kk => Ev.tableIn (pc := 39) (n := (a, b)) (tgt := 216) dL_law_39 (by decide) (by decide) rfl rfl (k o kk)⟩
  · obtain ⟨h2, e4, e5, k⟩ := lw_move hR hq hi hl hl2 ha hb
    exact ⟨h2, e4, e5, fun o kk => Ev.tableIn (pc := 39) (n := (a, b)) (tgt := 296) dL_law_39 (by decide) (by decide) rfl rfl (k o kk)⟩
  · obtain ⟨h2, e4, e5, k⟩ := lw_remove hR hq hi hl hl2 ha hb
    exact ⟨h2, e4, e5, fun o kk => Ev.tableIn (pc := 39) (n := (a, b)) (tgt := 376) dL_law_39 (by decide) (by decide) rfl rfl (k o kk)⟩
  · obtain ⟨h2, e4, e5, k⟩ := lw_setDuration hR hq hi hl hl2 ha hb
    exact ⟨h2, e4, e5, fun o kk => Ev.tableIn (pc := 39) (n := (a, b)) (tgt := 432) dL_law_39 (by decide) (by decide) rfl rfl (k o kk)⟩
  · obtain ⟨h2, e4, e5, k⟩ := lw_borrow hR hq hi hl hl2 ha hb
    exact ⟨h2, e4, e5, fun o kk => Ev.tableIn (pc := 39) (n := (a, b)) (tgt := 500) dL_law_39 (by decide) (by decide) rfl rfl (k o kk)⟩
  · obtain ⟨h2, e4, e5, k⟩ := lw_giveBack hR hq hi hl hl2 ha hb
    exact ⟨h2, e4, e5, fun o kk => Ev.tableIn (pc := 39) (n := (a, b)) (tgt := 568) dL_law_39 (by decide) (by decide) rfl rfl (k o kk)⟩
  · obtain ⟨h2, e4, e5, k⟩ := lw_setDeadline hR hq hi hl hl2 ha hb
    exact ⟨h2, e4, e5, fun o kk => Ev.tableIn (pc := 39) (n := (a, b)) (tgt := 636) dL_law_39 (by decide) (by decide) rfl rfl (k o kk)⟩
  · obtain ⟨h2, e4, e5, k⟩ := lw_node hR hq hi hl hl2 ha hb
    exact ⟨h2, e4, e5, fun o kk => Ev.tableIn (pc := 39) (n := (a, b)) (tgt := 692) dL_law_39 (by decide) (by decide) rfl rfl (k o kk)⟩
  · obtain ⟨h2, e4, e5, k⟩ := lw_row hR hq hi hl hl2 ha hb
    exact ⟨h2, e4, e5, fun o kk => Ev.tableIn (pc := 39) (n := (a, b)) (tgt := 760) dL_law_39 (by decide) (by decide) rfl rfl (k o kk)⟩
  · obtain ⟨h2, e4, e5, k⟩ := lw_child hR hq hi hl hl2 ha hb
    exact ⟨h2, e4, e5, fun o kk => Ev.tableIn (pc := 39) (n := (a, b)) (tgt := 840) dL_law_39 (by decide) (by decide) rfl rfl (k o kk)⟩
  · obtain ⟨h2, e4, e5, k⟩ := lw_critical hR hq hi hl hl2 ha hb
    exact ⟨h2, e4, e5, fun o kk => Ev.tableIn (pc := 39) (n := (a, b)) (tgt := 920) dL_law_39 (by decide) (by decide) rfl rfl (k o kk)⟩
  · obtain ⟨h2, e4, e5, k⟩ := lw_running hR hq hi hl hl2 ha hb
    exact ⟨h2, e4, e5, fun o kk => Ev.tableIn (pc := 39) (n := (a, b)) (tgt := 976) dL_law_39 (by decide) (by decide) rfl rfl (k o kk)⟩
  · obtain ⟨h2, e4, e5, k⟩ := lw_whole hR hq hi hl hl2 ha hb
    exact ⟨h2, e4, e5, fun o kk => Ev.tableIn (pc := 39) (n := (a, b)) (tgt := 1032) dL_law_39 (by decide) (by decide) rfl rfl (k o kk)⟩
  · obtain ⟨h2, e4, e5, k⟩ := lw_endWith hR hq hi hl hl2 ha hb
    exact ⟨h2, e4, e5, fun o kk => Ev.tableIn (pc := 39) (n := (a, b)) (tgt := 1088) dL_law_39 (by decide) (by decide) rfl rfl (k o kk)⟩
  · obtain ⟨h2, e4, e5, k⟩ := lw_growsTo hR hq hi hl hl2 ha hb
    exact ⟨h2, e4, e5, fun o kk => Ev.tableIn (pc := 39) (n := (a, b)) (tgt := 1156) dL_law_39 (by decide) (by decide) rfl rfl (k o kk)⟩
  · obtain ⟨h2, e4, e5, k⟩ := lw_bestCut hR hq hi hl hl2 ha hb
    exact ⟨h2, e4, e5, fun o kk => Ev.tableIn (pc := 39) (n := (a, b)) (tgt := 1212) dL_law_39 (by decide) (by decide) rfl rfl (k o kk)⟩
  · obtain ⟨h2, e4, e5, k⟩ := lw_slackIf hR hq hi hl hl2 ha hb
    exact ⟨h2, e4, e5, fun o kk => Ev.tableIn (pc := 39) (n := (a, b)) (tgt := 1225) dL_law_39 (by decide) (by decide) rfl rfl (k o kk)⟩
  · obtain ⟨h2, e4, e5, k⟩ := lw_reason hR hq hi hl hl2 ha hb
    exact ⟨h2, e4, e5, fun o kk => Ev.tableIn (pc := 39) (n := (a, b)) (tgt := 1293) dL_law_39 (by decide) (by decide) rfl rfl (k o kk)⟩
  · obtain ⟨h2, e4, e5, k⟩ := lw_type hR hq hi hl hl2 ha hb
    exact ⟨h2, e4, e5, fun o kk => Ev.tableIn (pc := 39) (n := (a, b)) (tgt := 1361) dL_law_39 (by decide) (by decide) rfl rfl (k o kk)⟩
  · obtain ⟨h2, e4, e5, k⟩ := lw_clearCommands hR hq hi hl hl2 ha hb
    exact ⟨h2, e4, e5, fun o kk => Ev.tableIn (pc := 39) (n := (a, b)) (tgt := 1417) dL_law_39 (by decide) (by decide) rfl rfl (k o kk)⟩
  · obtain ⟨h2, e4, e5, k⟩ := lw_runCommands hR hq hi hl hl2 ha hb
    exact ⟨h2, e4, e5, fun o kk => Ev.tableIn (pc := 39) (n := (a, b)) (tgt := 1430) dL_law_39 (by decide) (by decide) rfl rfl (k o kk)⟩
  · obtain ⟨h2, e4, e5, k⟩ := lw_undo hR hq hi hl hl2 ha hb
    exact ⟨h2, e4, e5, fun o kk => Ev.tableIn (pc := 39) (n := (a, b)) (tgt := 1443) dL_law_39 (by decide) (by decide) rfl rfl (k o kk)⟩
  · obtain ⟨h2, e4, e5, k⟩ := lw_digest hR hq hi hl hl2 ha hb
    exact ⟨h2, e4, e5, fun o kk => Ev.tableIn (pc := 39) (n := (a, b)) (tgt := 1487) dL_law_39 (by decide) (by decide) rfl rfl (k o kk)⟩
theorem lw_loop {N : Int} (hN0 : 0 ≤ N) (hN2 : N ≤ 2048) : ∀ (j k : Nat) (h : zH) (i : Int) (q a b : Nat), 513 - k ≤ j → k ≤ 513 → i = 4 * (k : Int) → RLn h q → q ≤ 21 * k → h.2.1 4131 0 = N → a ≤ 1000 + 4 * k → b ≤ 10000 + 24 * k → ∃ hf : zH, Ev M_L_law 23 [(4, zi i), (3, zr (some 271)), (2, zr (some 260)), (1, zr (some 0)), (0, zr (some 4130))] [] h (a, b) (.inl (some (zi 1)), hf) := by
  intro j
  induction j with
  | zero =>
    intro k h i q a b hj hk hik hR hq hN ha hb
    have hx : N - 4 < i := by omega
    refine ⟨h, ?_⟩
    refine Ev.iload (pc := 23) (n := (a, b)) dL_law_23 rfl ?_
    refine Ev.aload_n (pc := 25) (n := (a, b)) (i := 0) dL_law_25 rfl rfl ?_
    refine Ev.alS (pc := 26) (n := (a, b)) dL_law_26 (by rw [hN]; exact hN0) ?_
    rw [hN]
    refine Ev.iconst (pc := 27) (n := (a, b)) dL_law_27 ?_
    refine Ev.isub (pc := 28) (n := (a, b)) dL_law_28 ⟨by omega, by omega⟩ ?_
    refine Ev.icmp_gt (pc := 29) (n := (a, b)) (tgt := 1507) dL_law_29 rfl (fun hc => ?_) (fun hc => absurd hx hc)
    refine Ev.iconst (pc := 1507) (n := (a, b)) dL_law_1507 ?_
    exact Ev.bret dL_law_1508 rfl (Or.inr rfl) ⟨by show a ≤ 601024; omega, by show b ≤ 7293033; omega⟩
  | succ j ih =>
    intro k h i q a b hj hk hik hR hq hN ha hb
    by_cases hx : N - 4 < i
    · refine ⟨h, ?_⟩
      refine Ev.iload (pc := 23) (n := (a, b)) dL_law_23 rfl ?_
      refine Ev.aload_n (pc := 25) (n := (a, b)) (i := 0) dL_law_25 rfl rfl ?_
      refine Ev.alS (pc := 26) (n := (a, b)) dL_law_26 (by rw [hN]; exact hN0) ?_
      rw [hN]
      refine Ev.iconst (pc := 27) (n := (a, b)) dL_law_27 ?_
      refine Ev.isub (pc := 28) (n := (a, b)) dL_law_28 ⟨by omega, by omega⟩ ?_
      refine Ev.icmp_gt (pc := 29) (n := (a, b)) (tgt := 1507) dL_law_29 rfl (fun hc => ?_) (fun hc => absurd hx hc)
      refine Ev.iconst (pc := 1507) (n := (a, b)) dL_law_1507 ?_
      exact Ev.bret dL_law_1508 rfl (Or.inr rfl) ⟨by show a ≤ 601024; omega, by show b ≤ 7293033; omega⟩
    obtain ⟨h2, r2, f2, k9⟩ := lw_case (h := h) hR (by omega) (i := i) (a := a) (b := b) (by omega) (by rw [hN]; omega) (by omega) (by omega) (by omega) (and31 (Int32.ofInt (h.2.1 4130 i))).1
    obtain ⟨hf, kf⟩ := ih (k + 1) h2 (i + 4) (q + 21) (a + 4) (b + 24) (by omega) (by omega) (by omega) r2 (by omega) ((congrFun (f2 4131 (by decide)) 0).trans hN) (by omega) (by omega)
    refine ⟨hf, ?_⟩
    refine Ev.iload (pc := 23) (n := (a, b)) dL_law_23 rfl ?_
    refine Ev.aload_n (pc := 25) (n := (a, b)) (i := 0) dL_law_25 rfl rfl ?_
    refine Ev.alS (pc := 26) (n := (a, b)) dL_law_26 (by rw [hN]; exact hN0) ?_
    rw [hN]
    refine Ev.iconst (pc := 27) (n := (a, b)) dL_law_27 ?_
    refine Ev.isub (pc := 28) (n := (a, b)) dL_law_28 ⟨by omega, by omega⟩ ?_
    refine Ev.icmp_gt (pc := 29) (n := (a, b)) (tgt := 1507) dL_law_29 rfl (fun hc => absurd hc hx) (fun hc => ?_)
    refine Ev.aload_n (pc := 32) (n := (a, b)) (i := 0) dL_law_32 rfl rfl ?_
    refine Ev.iload (pc := 33) (n := (a, b)) dL_law_33 rfl ?_
    refine Ev.iaS (pc := 35) (n := (a, b)) (i := i) dL_law_35 (by omega) (by rw [hN]; omega) ?_
    refine Ev.bipush (pc := 36) (n := (a, b)) dL_law_36 ?_
    refine Ev.iand (pc := 38) (n := (a, b)) dL_law_38 ?_
    refine k9 _ ?_
    refine Ev.iinc (pc := 1501) (n := (a + 4, b + 24)) (L' := [(4, zi (i + 4)), (3, zr (some 271)), (2, zr (some 260)), (1, zr (some 0)), (0, zr (some 4130))]) dL_law_1501 rfl (Nat.le_of_ble_eq_true rfl) ⟨by omega, by omega⟩ rfl ?_
    refine Ev.goto (pc := 1504) (n := (a + 4, b + 24)) (tgt := 23) dL_law_1504 rfl ?_
    exact kf
