def S2 (Rel : Nat → Me → Me → Prop) (nw : Nat) (p q : Option (Me × Int32)) : Prop := ∃ (x' m' : Me) (r : Int32), p = some (x', r) ∧ q = some (m', r) ∧ Rel nw x' m'
/-- what the law's loop goes on with -/
def LwK (Rel : Nat → Me → Me → Prop) (p : Program) (l : Launch) (e : Env) (s : State) (m : MethodId) (below : List Frame) (meth : Method) (c : Code) (b : Nat) (a3 : Int32) (cells slots pc : Nat) : Prop :=
  ∀ (G : GG) (nw : Nat) (x mm : Me) (H : Heap) (locs : List Loc) (ls : Array Slot), gA G = (fun q : Nat => s.heap.size ≤ q) → EnvP G s → Rel nw x mm → MemP G nw x mm H → va_S (gA G) s.heap H locs → lv_has ls 4 [(0, .ref b), (1, .ref (ga G 0)), (2, .ref (ga G 41)), (3, .int a3)] → W p l e room_1 s m #[Value.ref b] below meth c H locs cells slots (lw_Z below #[Value.ref b] s) (F0 m pc ls [])
set_option maxHeartbeats 4000000 in
set_option maxRecDepth 100000 in
theorem law_c0 {p : Program} {l : Launch} {e : Env} {s : State} {m : MethodId} {below : List Frame} {meth : Method} {c : Code} {b L : Nat} {xs : Nat → Int32} {fu : Nat} {Rel : Nat → Me → Me → Prop} {G : GG} {nw : Nat} {x mm : Me} {H : Heap} {locs : List Loc} {ls : Array Slot} (C0 : lw_At p s m meth c b L xs) (hO : AOs s) {a3 : Int32} (h1 : vp_in (a3 + 1) L) (h2 : vp_in (a3 + 2) L) (h3 : vp_in (a3 + 3) L) (h4 : vp_in (a3 + 4) L) (h5 : vp_in (a3 + 5) L) {cells slots : Nat} (hcs : cells + 1 ≤ 600000 ∧ slots + 6 ≤ 7302250) (hst : S2 Rel nw (f_X10_feed fu nw x (xs (a3 + 1).toNatClampNeg) (xs (a3 + 2).toNatClampNeg) (xs (a3 + 3).toNatClampNeg) (xs (a3 + 4).toNatClampNeg) (xs (a3 + 5).toNatClampNeg)) (f_X11_feed fu mm (xs (a3 + 1).toNatClampNeg) (xs (a3 + 2).toNatClampNeg) (xs (a3 + 3).toNatClampNeg) (xs (a3 + 4).toNatClampNeg) (xs (a3 + 5).toNatClampNeg))) (hGA : gA G = (fun q : Nat => s.heap.size ≤ q)) (hE : EnvP G s) (hM : MemP G nw x mm H) (hS : va_S (gA G) s.heap H locs) (hl : lv_has ls 4 [(0, .ref b), (1, .ref (ga G 0)), (2, .ref (ga G 41)), (3, .int a3)]) (kk : LwK Rel p l e s m below meth c b a3 (cells + 1) (slots + 6) 848) : W p l e room_1 s m #[Value.ref b] below meth c H locs cells slots (lw_Z below #[Value.ref b] s) (F0 m 144 ls []) := by
  obtain ⟨hx, hb, hr, hml, hown, hts, hX, hbl, hlocks, hgv⟩ := C0
  have hbA : ¬ gA G b := by rw [hGA]; exact Nat.not_le.mpr hbl
  obtain ⟨x', m', r, hq1, hq2, hR⟩ := hst
  refine lv_aload_n hx hb dL_law_144 rfl (lv_at hl 1 rfl) ?_
  refine lv_aload_n hx hb dL_law_145 rfl (lv_at hl 0 rfl) ?_
  refine lv_iload_n hx hb dL_law_146 rfl (lv_at hl 3 rfl) ?_
  refine lv_iconst (v := 1) hx hb dL_law_147 (by decide) ?_
  refine lv_iadd hx hb dL_law_148 ?_
  refine va_sld hx hb hX hbl hbA hS h1 dL_law_149 ?_
  refine lv_aload_n hx hb dL_law_150 rfl (lv_at hl 0 rfl) ?_
  refine lv_iload_n hx hb dL_law_151 rfl (lv_at hl 3 rfl) ?_
  refine lv_iconst (v := 2) hx hb dL_law_152 (by decide) ?_
  refine lv_iadd hx hb dL_law_153 ?_
  refine va_sld hx hb hX hbl hbA hS h2 dL_law_154 ?_
  refine lv_aload_n hx hb dL_law_155 rfl (lv_at hl 0 rfl) ?_
  refine lv_iload_n hx hb dL_law_156 rfl (lv_at hl 3 rfl) ?_
  refine lv_iconst (v := 3) hx hb dL_law_157 (by decide) ?_
  refine lv_iadd hx hb dL_law_158 ?_
  refine va_sld hx hb hX hbl hbA hS h3 dL_law_159 ?_
  refine lv_aload_n hx hb dL_law_160 rfl (lv_at hl 0 rfl) ?_
  refine lv_iload_n hx hb dL_law_161 rfl (lv_at hl 3 rfl) ?_
  refine lv_iconst (v := 4) hx hb dL_law_162 (by decide) ?_
  refine lv_iadd hx hb dL_law_163 ?_
  refine va_sld hx hb hX hbl hbA hS h4 dL_law_164 ?_
  refine lv_aload_n hx hb dL_law_165 rfl (lv_at hl 0 rfl) ?_
  refine lv_iload_n hx hb dL_law_166 rfl (lv_at hl 3 rfl) ?_
  refine lv_iconst (v := 5) hx hb dL_law_167 (by decide) ?_
  refine lv_iadd hx hb dL_law_168 ?_
  refine va_sld hx hb hX hbl hbA hS h5 dL_law_169 ?_
  refine k_X10_feed hx hb hml hown hE hM hS w_2_72 hq1 (Nat.le_of_ble_eq_true rfl) (Nat.le_of_ble_eq_true rfl) hl.1 (Nat.le_of_ble_eq_true rfl) ⟨by show cells ≤ 600000; omega, by show slots ≤ 7302250; omega⟩ dL_law_170 (fun H locs hM hS => ?_)
  refine lv_aload_n hx hb dL_law_173 rfl (lv_at hl 2 rfl) ?_
  refine lv_aload_n hx hb dL_law_174 rfl (lv_at hl 0 rfl) ?_
  refine lv_iload_n hx hb dL_law_175 rfl (lv_at hl 3 rfl) ?_
  refine lv_iconst (v := 1) hx hb dL_law_176 (by decide) ?_
  refine lv_iadd hx hb dL_law_177 ?_
  refine va_sld hx hb hX hbl hbA hS h1 dL_law_178 ?_
  refine lv_aload_n hx hb dL_law_179 rfl (lv_at hl 0 rfl) ?_
  refine lv_iload_n hx hb dL_law_180 rfl (lv_at hl 3 rfl) ?_
  refine lv_iconst (v := 2) hx hb dL_law_181 (by decide) ?_
  refine lv_iadd hx hb dL_law_182 ?_
  refine va_sld hx hb hX hbl hbA hS h2 dL_law_183 ?_
  refine lv_aload_n hx hb dL_law_184 rfl (lv_at hl 0 rfl) ?_
  refine lv_iload_n hx hb dL_law_185 rfl (lv_at hl 3 rfl) ?_
  refine lv_iconst (v := 3) hx hb dL_law_186 (by decide) ?_
  refine lv_iadd hx hb dL_law_187 ?_
  refine va_sld hx hb hX hbl hbA hS h3 dL_law_188 ?_
  refine lv_aload_n hx hb dL_law_189 rfl (lv_at hl 0 rfl) ?_
  refine lv_iload_n hx hb dL_law_190 rfl (lv_at hl 3 rfl) ?_
  refine lv_iconst (v := 4) hx hb dL_law_191 (by decide) ?_
  refine lv_iadd hx hb dL_law_192 ?_
  refine va_sld hx hb hX hbl hbA hS h4 dL_law_193 ?_
  refine lv_aload_n hx hb dL_law_194 rfl (lv_at hl 0 rfl) ?_
  refine lv_iload_n hx hb dL_law_195 rfl (lv_at hl 3 rfl) ?_
  refine lv_iconst (v := 5) hx hb dL_law_196 (by decide) ?_
  refine lv_iadd hx hb dL_law_197 ?_
  refine va_sld hx hb hX hbl hbA hS h5 dL_law_198 ?_
  refine k_X11_feed hx hb hml hown hE hM hS w_5_23 hq2 (Nat.le_of_ble_eq_true rfl) (Nat.le_of_ble_eq_true rfl) hl.1 (Nat.le_of_ble_eq_true rfl) ⟨by show cells ≤ 600000; omega, by show slots ≤ 7302250; omega⟩ dL_law_199 (fun H locs hM hS => ?_)
  refine lv_icmp_eq (tgt := 848) hx hb dL_law_202 (by decide) (fun _ => ?_) (fun hc => absurd rfl hc)
  exact W.widen (k := cells + 1) (n := slots + 6) (by omega) (by omega) (kk G nw _ _ _ _ _ hGA hE hR hM hS hl)
set_option maxHeartbeats 4000000 in
set_option maxRecDepth 100000 in
theorem law_c1 {p : Program} {l : Launch} {e : Env} {s : State} {m : MethodId} {below : List Frame} {meth : Method} {c : Code} {b L : Nat} {xs : Nat → Int32} {fu : Nat} {Rel : Nat → Me → Me → Prop} {G : GG} {nw : Nat} {x mm : Me} {H : Heap} {locs : List Loc} {ls : Array Slot} (C0 : lw_At p s m meth c b L xs) (hO : AOs s) {a3 : Int32} (h1 : vp_in (a3 + 1) L) (h2 : vp_in (a3 + 2) L) {cells slots : Nat} (hcs : cells + 1 ≤ 600000 ∧ slots + 6 ≤ 7302250) (hst : S2 Rel nw (f_X10_statute fu nw x (xs (a3 + 1).toNatClampNeg) (xs (a3 + 2).toNatClampNeg)) (f_X11_statute fu mm (xs (a3 + 1).toNatClampNeg) (xs (a3 + 2).toNatClampNeg))) (hGA : gA G = (fun q : Nat => s.heap.size ≤ q)) (hE : EnvP G s) (hM : MemP G nw x mm H) (hS : va_S (gA G) s.heap H locs) (hl : lv_has ls 4 [(0, .ref b), (1, .ref (ga G 0)), (2, .ref (ga G 41)), (3, .int a3)]) (kk : LwK Rel p l e s m below meth c b a3 (cells + 1) (slots + 6) 848) : W p l e room_1 s m #[Value.ref b] below meth c H locs cells slots (lw_Z below #[Value.ref b] s) (F0 m 207 ls []) := by
  obtain ⟨hx, hb, hr, hml, hown, hts, hX, hbl, hlocks, hgv⟩ := C0
  have hbA : ¬ gA G b := by rw [hGA]; exact Nat.not_le.mpr hbl
  obtain ⟨x', m', r, hq1, hq2, hR⟩ := hst
  refine lv_aload_n hx hb dL_law_207 rfl (lv_at hl 1 rfl) ?_
  refine lv_aload_n hx hb dL_law_208 rfl (lv_at hl 0 rfl) ?_
  refine lv_iload_n hx hb dL_law_209 rfl (lv_at hl 3 rfl) ?_
  refine lv_iconst (v := 1) hx hb dL_law_210 (by decide) ?_
  refine lv_iadd hx hb dL_law_211 ?_
  refine va_sld hx hb hX hbl hbA hS h1 dL_law_212 ?_
  refine lv_aload_n hx hb dL_law_213 rfl (lv_at hl 0 rfl) ?_
  refine lv_iload_n hx hb dL_law_214 rfl (lv_at hl 3 rfl) ?_
  refine lv_iconst (v := 2) hx hb dL_law_215 (by decide) ?_
  refine lv_iadd hx hb dL_law_216 ?_
  refine va_sld hx hb hX hbl hbA hS h2 dL_law_217 ?_
  refine k_X10_statute hx hb hml hown hE hM hS w_2_80 hq1 (Nat.le_of_ble_eq_true rfl) (Nat.le_of_ble_eq_true rfl) hl.1 (Nat.le_of_ble_eq_true rfl) ⟨by show cells ≤ 600000; omega, by show slots ≤ 7302250; omega⟩ dL_law_218 (fun H locs hM hS => ?_)
  refine lv_aload_n hx hb dL_law_221 rfl (lv_at hl 2 rfl) ?_
  refine lv_aload_n hx hb dL_law_222 rfl (lv_at hl 0 rfl) ?_
  refine lv_iload_n hx hb dL_law_223 rfl (lv_at hl 3 rfl) ?_
  refine lv_iconst (v := 1) hx hb dL_law_224 (by decide) ?_
  refine lv_iadd hx hb dL_law_225 ?_
  refine va_sld hx hb hX hbl hbA hS h1 dL_law_226 ?_
  refine lv_aload_n hx hb dL_law_227 rfl (lv_at hl 0 rfl) ?_
  refine lv_iload_n hx hb dL_law_228 rfl (lv_at hl 3 rfl) ?_
  refine lv_iconst (v := 2) hx hb dL_law_229 (by decide) ?_
  refine lv_iadd hx hb dL_law_230 ?_
  refine va_sld hx hb hX hbl hbA hS h2 dL_law_231 ?_
  refine k_X11_statute hx hb hml hown hE hM hS w_5_27 hq2 (Nat.le_of_ble_eq_true rfl) (Nat.le_of_ble_eq_true rfl) hl.1 (Nat.le_of_ble_eq_true rfl) ⟨by show cells ≤ 600000; omega, by show slots ≤ 7302250; omega⟩ dL_law_232 (fun H locs hM hS => ?_)
  refine lv_icmp_eq (tgt := 848) hx hb dL_law_235 (by decide) (fun _ => ?_) (fun hc => absurd rfl hc)
  exact W.widen (k := cells + 1) (n := slots + 6) (by omega) (by omega) (kk G nw _ _ _ _ _ hGA hE hR hM hS hl)
set_option maxHeartbeats 4000000 in
set_option maxRecDepth 100000 in
theorem law_c2 {p : Program} {l : Launch} {e : Env} {s : State} {m : MethodId} {below : List Frame} {meth : Method} {c : Code} {b L : Nat} {xs : Nat → Int32} {fu : Nat} {Rel : Nat → Me → Me → Prop} {G : GG} {nw : Nat} {x mm : Me} {H : Heap} {locs : List Loc} {ls : Array Slot} (C0 : lw_At p s m meth c b L xs) (hO : AOs s) {a3 : Int32} (h1 : vp_in (a3 + 1) L) {cells slots : Nat} (hcs : cells + 1 ≤ 600000 ∧ slots + 6 ≤ 7302250) (hst : S2 Rel nw (f_X10_fault fu nw x (xs (a3 + 1).toNatClampNeg)) (f_X11_fault fu mm (xs (a3 + 1).toNatClampNeg))) (hGA : gA G = (fun q : Nat => s.heap.size ≤ q)) (hE : EnvP G s) (hM : MemP G nw x mm H) (hS : va_S (gA G) s.heap H locs) (hl : lv_has ls 4 [(0, .ref b), (1, .ref (ga G 0)), (2, .ref (ga G 41)), (3, .int a3)]) (kk : LwK Rel p l e s m below meth c b a3 (cells + 1) (slots + 6) 848) : W p l e room_1 s m #[Value.ref b] below meth c H locs cells slots (lw_Z below #[Value.ref b] s) (F0 m 240 ls []) := by
  obtain ⟨hx, hb, hr, hml, hown, hts, hX, hbl, hlocks, hgv⟩ := C0
  have hbA : ¬ gA G b := by rw [hGA]; exact Nat.not_le.mpr hbl
  obtain ⟨x', m', r, hq1, hq2, hR⟩ := hst
  refine lv_aload_n hx hb dL_law_240 rfl (lv_at hl 1 rfl) ?_
  refine lv_aload_n hx hb dL_law_241 rfl (lv_at hl 0 rfl) ?_
  refine lv_iload_n hx hb dL_law_242 rfl (lv_at hl 3 rfl) ?_
  refine lv_iconst (v := 1) hx hb dL_law_243 (by decide) ?_
  refine lv_iadd hx hb dL_law_244 ?_
  refine va_sld hx hb hX hbl hbA hS h1 dL_law_245 ?_
  refine k_X10_fault hx hb hml hown hE hM hS w_2_201 hq1 (Nat.le_of_ble_eq_true rfl) (Nat.le_of_ble_eq_true rfl) hl.1 (Nat.le_of_ble_eq_true rfl) ⟨by show cells ≤ 600000; omega, by show slots ≤ 7302250; omega⟩ dL_law_246 (fun H locs hM hS => ?_)
  refine lv_aload_n hx hb dL_law_249 rfl (lv_at hl 2 rfl) ?_
  refine lv_aload_n hx hb dL_law_250 rfl (lv_at hl 0 rfl) ?_
  refine lv_iload_n hx hb dL_law_251 rfl (lv_at hl 3 rfl) ?_
  refine lv_iconst (v := 1) hx hb dL_law_252 (by decide) ?_
  refine lv_iadd hx hb dL_law_253 ?_
  refine va_sld hx hb hX hbl hbA hS h1 dL_law_254 ?_
  refine k_X11_fault hx hb hml hown hE hM hS w_5_63 hq2 (Nat.le_of_ble_eq_true rfl) (Nat.le_of_ble_eq_true rfl) hl.1 (Nat.le_of_ble_eq_true rfl) ⟨by show cells ≤ 600000; omega, by show slots ≤ 7302250; omega⟩ dL_law_255 (fun H locs hM hS => ?_)
  refine lv_icmp_eq (tgt := 848) hx hb dL_law_258 (by decide) (fun _ => ?_) (fun hc => absurd rfl hc)
  exact W.widen (k := cells + 1) (n := slots + 6) (by omega) (by omega) (kk G nw _ _ _ _ _ hGA hE hR hM hS hl)
set_option maxHeartbeats 4000000 in
set_option maxRecDepth 100000 in
theorem law_c3 {p : Program} {l : Launch} {e : Env} {s : State} {m : MethodId} {below : List Frame} {meth : Method} {c : Code} {b L : Nat} {xs : Nat → Int32} {fu : Nat} {Rel : Nat → Me → Me → Prop} {G : GG} {nw : Nat} {x mm : Me} {H : Heap} {locs : List Loc} {ls : Array Slot} (C0 : lw_At p s m meth c b L xs) (hO : AOs s) {a3 : Int32} (h1 : vp_in (a3 + 1) L) (h2 : vp_in (a3 + 2) L) {cells slots : Nat} (hcs : cells + 1 ≤ 600000 ∧ slots + 6 ≤ 7302250) (hst : S2 Rel nw (f_X10_law fu nw x (xs (a3 + 1).toNatClampNeg) (xs (a3 + 2).toNatClampNeg)) (f_X11_law fu mm (xs (a3 + 1).toNatClampNeg) (xs (a3 + 2).toNatClampNeg))) (hGA : gA G = (fun q : Nat => s.heap.size ≤ q)) (hE : EnvP G s) (hM : MemP G nw x mm H) (hS : va_S (gA G) s.heap H locs) (hl : lv_has ls 4 [(0, .ref b), (1, .ref (ga G 0)), (2, .ref (ga G 41)), (3, .int a3)]) (kk : LwK Rel p l e s m below meth c b a3 (cells + 1) (slots + 6) 848) : W p l e room_1 s m #[Value.ref b] below meth c H locs cells slots (lw_Z below #[Value.ref b] s) (F0 m 263 ls []) := by
  obtain ⟨hx, hb, hr, hml, hown, hts, hX, hbl, hlocks, hgv⟩ := C0
  have hbA : ¬ gA G b := by rw [hGA]; exact Nat.not_le.mpr hbl
  obtain ⟨x', m', r, hq1, hq2, hR⟩ := hst
  refine lv_aload_n hx hb dL_law_263 rfl (lv_at hl 1 rfl) ?_
  refine lv_aload_n hx hb dL_law_264 rfl (lv_at hl 0 rfl) ?_
  refine lv_iload_n hx hb dL_law_265 rfl (lv_at hl 3 rfl) ?_
  refine lv_iconst (v := 1) hx hb dL_law_266 (by decide) ?_
  refine lv_iadd hx hb dL_law_267 ?_
  refine va_sld hx hb hX hbl hbA hS h1 dL_law_268 ?_
  refine lv_aload_n hx hb dL_law_269 rfl (lv_at hl 0 rfl) ?_
  refine lv_iload_n hx hb dL_law_270 rfl (lv_at hl 3 rfl) ?_
  refine lv_iconst (v := 2) hx hb dL_law_271 (by decide) ?_
  refine lv_iadd hx hb dL_law_272 ?_
  refine va_sld hx hb hX hbl hbA hS h2 dL_law_273 ?_
  refine k_X10_law hx hb hml hown hE hM hS w_2_205 hq1 (Nat.le_of_ble_eq_true rfl) (Nat.le_of_ble_eq_true rfl) hl.1 (Nat.le_of_ble_eq_true rfl) ⟨by show cells ≤ 600000; omega, by show slots ≤ 7302250; omega⟩ dL_law_274 (fun H locs hM hS => ?_)
  refine lv_aload_n hx hb dL_law_277 rfl (lv_at hl 2 rfl) ?_
  refine lv_aload_n hx hb dL_law_278 rfl (lv_at hl 0 rfl) ?_
  refine lv_iload_n hx hb dL_law_279 rfl (lv_at hl 3 rfl) ?_
  refine lv_iconst (v := 1) hx hb dL_law_280 (by decide) ?_
  refine lv_iadd hx hb dL_law_281 ?_
  refine va_sld hx hb hX hbl hbA hS h1 dL_law_282 ?_
  refine lv_aload_n hx hb dL_law_283 rfl (lv_at hl 0 rfl) ?_
  refine lv_iload_n hx hb dL_law_284 rfl (lv_at hl 3 rfl) ?_
  refine lv_iconst (v := 2) hx hb dL_law_285 (by decide) ?_
  refine lv_iadd hx hb dL_law_286 ?_
  refine va_sld hx hb hX hbl hbA hS h2 dL_law_287 ?_
  refine k_X11_law hx hb hml hown hE hM hS w_5_67 hq2 (Nat.le_of_ble_eq_true rfl) (Nat.le_of_ble_eq_true rfl) hl.1 (Nat.le_of_ble_eq_true rfl) ⟨by show cells ≤ 600000; omega, by show slots ≤ 7302250; omega⟩ dL_law_288 (fun H locs hM hS => ?_)
  refine lv_icmp_eq (tgt := 848) hx hb dL_law_291 (by decide) (fun _ => ?_) (fun hc => absurd rfl hc)
  exact W.widen (k := cells + 1) (n := slots + 6) (by omega) (by omega) (kk G nw _ _ _ _ _ hGA hE hR hM hS hl)
set_option maxHeartbeats 4000000 in
set_option maxRecDepth 100000 in
theorem law_c5 {p : Program} {l : Launch} {e : Env} {s : State} {m : MethodId} {below : List Frame} {meth : Method} {c : Code} {b L : Nat} {xs : Nat → Int32} {fu : Nat} {Rel : Nat → Me → Me → Prop} {G : GG} {nw : Nat} {x mm : Me} {H : Heap} {locs : List Loc} {ls : Array Slot} (C0 : lw_At p s m meth c b L xs) (hO : AOs s) {a3 : Int32} (h1 : vp_in (a3 + 1) L) {cells slots : Nat} (hcs : cells + 1 ≤ 600000 ∧ slots + 6 ≤ 7302250) (hst : S2 Rel nw (f_X10_horse fu nw x (xs (a3 + 1).toNatClampNeg)) (f_X11_horse fu mm (xs (a3 + 1).toNatClampNeg))) (hGA : gA G = (fun q : Nat => s.heap.size ≤ q)) (hE : EnvP G s) (hM : MemP G nw x mm H) (hS : va_S (gA G) s.heap H locs) (hl : lv_has ls 4 [(0, .ref b), (1, .ref (ga G 0)), (2, .ref (ga G 41)), (3, .int a3)]) (kk : LwK Rel p l e s m below meth c b a3 (cells + 1) (slots + 6) 848) : W p l e room_1 s m #[Value.ref b] below meth c H locs cells slots (lw_Z below #[Value.ref b] s) (F0 m 309 ls []) := by
  obtain ⟨hx, hb, hr, hml, hown, hts, hX, hbl, hlocks, hgv⟩ := C0
  have hbA : ¬ gA G b := by rw [hGA]; exact Nat.not_le.mpr hbl
  obtain ⟨x', m', r, hq1, hq2, hR⟩ := hst
  refine lv_aload_n hx hb dL_law_309 rfl (lv_at hl 1 rfl) ?_
  refine lv_aload_n hx hb dL_law_310 rfl (lv_at hl 0 rfl) ?_
  refine lv_iload_n hx hb dL_law_311 rfl (lv_at hl 3 rfl) ?_
  refine lv_iconst (v := 1) hx hb dL_law_312 (by decide) ?_
  refine lv_iadd hx hb dL_law_313 ?_
  refine va_sld hx hb hX hbl hbA hS h1 dL_law_314 ?_
  refine k_X10_horse hx hb hml hown hE hM hS w_3_18 hq1 (Nat.le_of_ble_eq_true rfl) (Nat.le_of_ble_eq_true rfl) hl.1 (Nat.le_of_ble_eq_true rfl) ⟨by show cells ≤ 600000; omega, by show slots ≤ 7302250; omega⟩ dL_law_315 (fun H locs hM hS => ?_)
  refine lv_aload_n hx hb dL_law_318 rfl (lv_at hl 2 rfl) ?_
  refine lv_aload_n hx hb dL_law_319 rfl (lv_at hl 0 rfl) ?_
  refine lv_iload_n hx hb dL_law_320 rfl (lv_at hl 3 rfl) ?_
  refine lv_iconst (v := 1) hx hb dL_law_321 (by decide) ?_
  refine lv_iadd hx hb dL_law_322 ?_
  refine va_sld hx hb hX hbl hbA hS h1 dL_law_323 ?_
  refine k_X11_horse hx hb hml hown hE hM hS w_5_79 hq2 (Nat.le_of_ble_eq_true rfl) (Nat.le_of_ble_eq_true rfl) hl.1 (Nat.le_of_ble_eq_true rfl) ⟨by show cells ≤ 600000; omega, by show slots ≤ 7302250; omega⟩ dL_law_324 (fun H locs hM hS => ?_)
  refine lv_icmp_eq (tgt := 848) hx hb dL_law_327 (by decide) (fun _ => ?_) (fun hc => absurd rfl hc)
  exact W.widen (k := cells + 1) (n := slots + 6) (by omega) (by omega) (kk G nw _ _ _ _ _ hGA hE hR hM hS hl)
set_option maxHeartbeats 4000000 in
set_option maxRecDepth 100000 in
theorem law_c6 {p : Program} {l : Launch} {e : Env} {s : State} {m : MethodId} {below : List Frame} {meth : Method} {c : Code} {b L : Nat} {xs : Nat → Int32} {fu : Nat} {Rel : Nat → Me → Me → Prop} {G : GG} {nw : Nat} {x mm : Me} {H : Heap} {locs : List Loc} {ls : Array Slot} (C0 : lw_At p s m meth c b L xs) (hO : AOs s) {a3 : Int32} (h1 : vp_in (a3 + 1) L) (h2 : vp_in (a3 + 2) L) {cells slots : Nat} (hcs : cells + 1 ≤ 600000 ∧ slots + 6 ≤ 7302250) (hst : ∀ z : Int32, (z = 0 ∨ z = 1) → S2 Rel nw (f_X10_sound fu nw x (xs (a3 + 1).toNatClampNeg) z) (f_X11_sound fu mm (xs (a3 + 1).toNatClampNeg) z)) (hGA : gA G = (fun q : Nat => s.heap.size ≤ q)) (hE : EnvP G s) (hM : MemP G nw x mm H) (hS : va_S (gA G) s.heap H locs) (hl : lv_has ls 4 [(0, .ref b), (1, .ref (ga G 0)), (2, .ref (ga G 41)), (3, .int a3)]) (kk : LwK Rel p l e s m below meth c b a3 (cells + 1) (slots + 6) 848) : W p l e room_1 s m #[Value.ref b] below meth c H locs cells slots (lw_Z below #[Value.ref b] s) (F0 m 332 ls []) := by
  obtain ⟨hx, hb, hr, hml, hown, hts, hX, hbl, hlocks, hgv⟩ := C0
  have hbA : ¬ gA G b := by rw [hGA]; exact Nat.not_le.mpr hbl

  refine lv_aload_n hx hb dL_law_332 rfl (lv_at hl 1 rfl) ?_
  refine lv_aload_n hx hb dL_law_333 rfl (lv_at hl 0 rfl) ?_
  refine lv_iload_n hx hb dL_law_334 rfl (lv_at hl 3 rfl) ?_
  refine lv_iconst (v := 1) hx hb dL_law_335 (by decide) ?_
  refine lv_iadd hx hb dL_law_336 ?_
  refine va_sld hx hb hX hbl hbA hS h1 dL_law_337 ?_
  refine lv_aload_n hx hb dL_law_338 rfl (lv_at hl 0 rfl) ?_
  refine lv_iload_n hx hb dL_law_339 rfl (lv_at hl 3 rfl) ?_
  refine lv_iconst (v := 2) hx hb dL_law_340 (by decide) ?_
  refine lv_iadd hx hb dL_law_341 ?_
  refine va_sld hx hb hX hbl hbA hS h2 dL_law_342 ?_
  refine lv_if_eq (tgt := 350) hx hb dL_law_343 (by decide) (fun hz => ?_) (fun hz => ?_)
  · refine lv_iconst (v := 0) hx hb dL_law_350 (by decide) ?_
    obtain ⟨x', m', r, hq1, hq2, hR⟩ := hst 0 (by decide)
    refine k_X10_sound hx hb hml hown hE hM hS w_3_26 hq1 (Nat.le_of_ble_eq_true rfl) (Nat.le_of_ble_eq_true rfl) hl.1 (Nat.le_of_ble_eq_true rfl) ⟨by show cells ≤ 600000; omega, by show slots ≤ 7302250; omega⟩ dL_law_351 (fun H locs hM hS => ?_)
    refine lv_aload_n hx hb dL_law_354 rfl (lv_at hl 2 rfl) ?_
    refine lv_aload_n hx hb dL_law_355 rfl (lv_at hl 0 rfl) ?_
    refine lv_iload_n hx hb dL_law_356 rfl (lv_at hl 3 rfl) ?_
    refine lv_iconst (v := 1) hx hb dL_law_357 (by decide) ?_
    refine lv_iadd hx hb dL_law_358 ?_
    refine va_sld hx hb hX hbl hbA hS h1 dL_law_359 ?_
    refine lv_aload_n hx hb dL_law_360 rfl (lv_at hl 0 rfl) ?_
    refine lv_iload_n hx hb dL_law_361 rfl (lv_at hl 3 rfl) ?_
    refine lv_iconst (v := 2) hx hb dL_law_362 (by decide) ?_
    refine lv_iadd hx hb dL_law_363 ?_
    refine va_sld hx hb hX hbl hbA hS h2 dL_law_364 ?_
    refine lv_if_eq (tgt := 372) hx hb dL_law_365 (by decide) (fun _ => ?_) (fun hc => absurd hz hc)
    refine lv_iconst (v := 0) hx hb dL_law_372 (by decide) ?_
    refine k_X11_sound hx hb hml hown hE hM hS w_5_83 hq2 (Nat.le_of_ble_eq_true rfl) (Nat.le_of_ble_eq_true rfl) hl.1 (Nat.le_of_ble_eq_true rfl) ⟨by show cells ≤ 600000; omega, by show slots ≤ 7302250; omega⟩ dL_law_373 (fun H locs hM hS => ?_)
    refine lv_icmp_eq (tgt := 848) hx hb dL_law_376 (by decide) (fun _ => ?_) (fun hc => absurd rfl hc)
    exact W.widen (k := cells + 1) (n := slots + 6) (by omega) (by omega) (kk G nw _ _ _ _ _ hGA hE hR hM hS hl)
  · refine lv_iconst (v := 1) hx hb dL_law_346 (by decide) ?_
    refine lv_goto (tgt := 351) hx hb dL_law_347 (by decide) ?_
    obtain ⟨x', m', r, hq1, hq2, hR⟩ := hst 1 (by decide)
    refine k_X10_sound hx hb hml hown hE hM hS w_3_26 hq1 (Nat.le_of_ble_eq_true rfl) (Nat.le_of_ble_eq_true rfl) hl.1 (Nat.le_of_ble_eq_true rfl) ⟨by show cells ≤ 600000; omega, by show slots ≤ 7302250; omega⟩ dL_law_351 (fun H locs hM hS => ?_)
    refine lv_aload_n hx hb dL_law_354 rfl (lv_at hl 2 rfl) ?_
    refine lv_aload_n hx hb dL_law_355 rfl (lv_at hl 0 rfl) ?_
    refine lv_iload_n hx hb dL_law_356 rfl (lv_at hl 3 rfl) ?_
    refine lv_iconst (v := 1) hx hb dL_law_357 (by decide) ?_
    refine lv_iadd hx hb dL_law_358 ?_
    refine va_sld hx hb hX hbl hbA hS h1 dL_law_359 ?_
    refine lv_aload_n hx hb dL_law_360 rfl (lv_at hl 0 rfl) ?_
    refine lv_iload_n hx hb dL_law_361 rfl (lv_at hl 3 rfl) ?_
    refine lv_iconst (v := 2) hx hb dL_law_362 (by decide) ?_
    refine lv_iadd hx hb dL_law_363 ?_
    refine va_sld hx hb hX hbl hbA hS h2 dL_law_364 ?_
    refine lv_if_eq (tgt := 372) hx hb dL_law_365 (by decide) (fun hc => absurd hc hz) (fun _ => ?_)
    refine lv_iconst (v := 1) hx hb dL_law_368 (by decide) ?_
    refine lv_goto (tgt := 373) hx hb dL_law_369 (by decide) ?_
    refine k_X11_sound hx hb hml hown hE hM hS w_5_83 hq2 (Nat.le_of_ble_eq_true rfl) (Nat.le_of_ble_eq_true rfl) hl.1 (Nat.le_of_ble_eq_true rfl) ⟨by show cells ≤ 600000; omega, by show slots ≤ 7302250; omega⟩ dL_law_373 (fun H locs hM hS => ?_)
    refine lv_icmp_eq (tgt := 848) hx hb dL_law_376 (by decide) (fun _ => ?_) (fun hc => absurd rfl hc)
    exact W.widen (k := cells + 1) (n := slots + 6) (by omega) (by omega) (kk G nw _ _ _ _ _ hGA hE hR hM hS hl)
set_option maxHeartbeats 4000000 in
set_option maxRecDepth 100000 in
theorem law_c7 {p : Program} {l : Launch} {e : Env} {s : State} {m : MethodId} {below : List Frame} {meth : Method} {c : Code} {b L : Nat} {xs : Nat → Int32} {fu : Nat} {Rel : Nat → Me → Me → Prop} {G : GG} {nw : Nat} {x mm : Me} {H : Heap} {locs : List Loc} {ls : Array Slot} (C0 : lw_At p s m meth c b L xs) (hO : AOs s) {a3 : Int32} (h1 : vp_in (a3 + 1) L) {cells slots : Nat} (hcs : cells + 1 ≤ 600000 ∧ slots + 6 ≤ 7302250) (hst : S2 Rel nw (f_X10_choose fu nw x (xs (a3 + 1).toNatClampNeg)) (f_X11_choose fu mm (xs (a3 + 1).toNatClampNeg))) (hGA : gA G = (fun q : Nat => s.heap.size ≤ q)) (hE : EnvP G s) (hM : MemP G nw x mm H) (hS : va_S (gA G) s.heap H locs) (hl : lv_has ls 4 [(0, .ref b), (1, .ref (ga G 0)), (2, .ref (ga G 41)), (3, .int a3)]) (kk : LwK Rel p l e s m below meth c b a3 (cells + 1) (slots + 6) 848) : W p l e room_1 s m #[Value.ref b] below meth c H locs cells slots (lw_Z below #[Value.ref b] s) (F0 m 381 ls []) := by
  obtain ⟨hx, hb, hr, hml, hown, hts, hX, hbl, hlocks, hgv⟩ := C0
  have hbA : ¬ gA G b := by rw [hGA]; exact Nat.not_le.mpr hbl
  obtain ⟨x', m', r, hq1, hq2, hR⟩ := hst
  refine lv_aload_n hx hb dL_law_381 rfl (lv_at hl 1 rfl) ?_
  refine lv_aload_n hx hb dL_law_382 rfl (lv_at hl 0 rfl) ?_
  refine lv_iload_n hx hb dL_law_383 rfl (lv_at hl 3 rfl) ?_
  refine lv_iconst (v := 1) hx hb dL_law_384 (by decide) ?_
  refine lv_iadd hx hb dL_law_385 ?_
  refine va_sld hx hb hX hbl hbA hS h1 dL_law_386 ?_
  refine k_X10_choose hx hb hml hown hE hM hS w_3_34 hq1 (Nat.le_of_ble_eq_true rfl) (Nat.le_of_ble_eq_true rfl) hl.1 (Nat.le_of_ble_eq_true rfl) ⟨by show cells ≤ 600000; omega, by show slots ≤ 7302250; omega⟩ dL_law_387 (fun H locs hM hS => ?_)
  refine lv_aload_n hx hb dL_law_390 rfl (lv_at hl 2 rfl) ?_
  refine lv_aload_n hx hb dL_law_391 rfl (lv_at hl 0 rfl) ?_
  refine lv_iload_n hx hb dL_law_392 rfl (lv_at hl 3 rfl) ?_
  refine lv_iconst (v := 1) hx hb dL_law_393 (by decide) ?_
  refine lv_iadd hx hb dL_law_394 ?_
  refine va_sld hx hb hX hbl hbA hS h1 dL_law_395 ?_
  refine k_X11_choose hx hb hml hown hE hM hS w_5_87 hq2 (Nat.le_of_ble_eq_true rfl) (Nat.le_of_ble_eq_true rfl) hl.1 (Nat.le_of_ble_eq_true rfl) ⟨by show cells ≤ 600000; omega, by show slots ≤ 7302250; omega⟩ dL_law_396 (fun H locs hM hS => ?_)
  refine lv_icmp_eq (tgt := 848) hx hb dL_law_399 (by decide) (fun _ => ?_) (fun hc => absurd rfl hc)
  exact W.widen (k := cells + 1) (n := slots + 6) (by omega) (by omega) (kk G nw _ _ _ _ _ hGA hE hR hM hS hl)
set_option maxHeartbeats 4000000 in
set_option maxRecDepth 100000 in
theorem law_c8 {p : Program} {l : Launch} {e : Env} {s : State} {m : MethodId} {below : List Frame} {meth : Method} {c : Code} {b L : Nat} {xs : Nat → Int32} {fu : Nat} {Rel : Nat → Me → Me → Prop} {G : GG} {nw : Nat} {x mm : Me} {H : Heap} {locs : List Loc} {ls : Array Slot} (C0 : lw_At p s m meth c b L xs) (hO : AOs s) {a3 : Int32} {cells slots : Nat} (hcs : cells + 1 ≤ 600000 ∧ slots + 6 ≤ 7302250) (hst : S2 Rel nw (f_X10_pick fu nw x) (f_X11_pick fu mm)) (hGA : gA G = (fun q : Nat => s.heap.size ≤ q)) (hE : EnvP G s) (hM : MemP G nw x mm H) (hS : va_S (gA G) s.heap H locs) (hl : lv_has ls 4 [(0, .ref b), (1, .ref (ga G 0)), (2, .ref (ga G 41)), (3, .int a3)]) (kk : LwK Rel p l e s m below meth c b a3 (cells + 1) (slots + 6) 848) : W p l e room_1 s m #[Value.ref b] below meth c H locs cells slots (lw_Z below #[Value.ref b] s) (F0 m 404 ls []) := by
  obtain ⟨hx, hb, hr, hml, hown, hts, hX, hbl, hlocks, hgv⟩ := C0
  have hbA : ¬ gA G b := by rw [hGA]; exact Nat.not_le.mpr hbl
  obtain ⟨x', m', r, hq1, hq2, hR⟩ := hst
  refine lv_aload_n hx hb dL_law_404 rfl (lv_at hl 1 rfl) ?_
  refine k_X10_pick hx hb hml hown hE hM hS w_3_84 hq1 (Nat.le_of_ble_eq_true rfl) (Nat.le_of_ble_eq_true rfl) hl.1 (Nat.le_of_ble_eq_true rfl) ⟨by show cells ≤ 600000; omega, by show slots ≤ 7302250; omega⟩ dL_law_405 (fun H locs hM hS => ?_)
  refine lv_aload_n hx hb dL_law_408 rfl (lv_at hl 2 rfl) ?_
  refine k_X11_pick hx hb hml hown hE hM hS w_5_109 hq2 (Nat.le_of_ble_eq_true rfl) (Nat.le_of_ble_eq_true rfl) hl.1 (Nat.le_of_ble_eq_true rfl) ⟨by show cells ≤ 600000; omega, by show slots ≤ 7302250; omega⟩ dL_law_409 (fun H locs hM hS => ?_)
  refine lv_icmp_eq (tgt := 848) hx hb dL_law_412 (by decide) (fun _ => ?_) (fun hc => absurd rfl hc)
  exact W.widen (k := cells + 1) (n := slots + 6) (by omega) (by omega) (kk G nw _ _ _ _ _ hGA hE hR hM hS hl)
set_option maxHeartbeats 4000000 in
set_option maxRecDepth 100000 in
theorem law_c9 {p : Program} {l : Launch} {e : Env} {s : State} {m : MethodId} {below : List Frame} {meth : Method} {c : Code} {b L : Nat} {xs : Nat → Int32} {fu : Nat} {Rel : Nat → Me → Me → Prop} {G : GG} {nw : Nat} {x mm : Me} {H : Heap} {locs : List Loc} {ls : Array Slot} (C0 : lw_At p s m meth c b L xs) (hO : AOs s) {a3 : Int32} (h1 : vp_in (a3 + 1) L) {cells slots : Nat} (hcs : cells + 1 ≤ 600000 ∧ slots + 6 ≤ 7302250) (hst : S2 Rel nw (f_X10_lots fu nw x (xs (a3 + 1).toNatClampNeg)) (f_X11_lots fu mm (xs (a3 + 1).toNatClampNeg))) (hGA : gA G = (fun q : Nat => s.heap.size ≤ q)) (hE : EnvP G s) (hM : MemP G nw x mm H) (hS : va_S (gA G) s.heap H locs) (hl : lv_has ls 4 [(0, .ref b), (1, .ref (ga G 0)), (2, .ref (ga G 41)), (3, .int a3)]) (kk : LwK Rel p l e s m below meth c b a3 (cells + 1) (slots + 6) 848) : W p l e room_1 s m #[Value.ref b] below meth c H locs cells slots (lw_Z below #[Value.ref b] s) (F0 m 417 ls []) := by
  obtain ⟨hx, hb, hr, hml, hown, hts, hX, hbl, hlocks, hgv⟩ := C0
  have hbA : ¬ gA G b := by rw [hGA]; exact Nat.not_le.mpr hbl
  obtain ⟨x', m', r, hq1, hq2, hR⟩ := hst
  refine lv_aload_n hx hb dL_law_417 rfl (lv_at hl 1 rfl) ?_
  refine lv_aload_n hx hb dL_law_418 rfl (lv_at hl 0 rfl) ?_
  refine lv_iload_n hx hb dL_law_419 rfl (lv_at hl 3 rfl) ?_
  refine lv_iconst (v := 1) hx hb dL_law_420 (by decide) ?_
  refine lv_iadd hx hb dL_law_421 ?_
  refine va_sld hx hb hX hbl hbA hS h1 dL_law_422 ?_
  refine k_X10_lots hx hb hml hown hE hM hS w_3_101 hq1 (Nat.le_of_ble_eq_true rfl) (Nat.le_of_ble_eq_true rfl) hl.1 (Nat.le_of_ble_eq_true rfl) ⟨by show cells ≤ 600000; omega, by show slots ≤ 7302250; omega⟩ dL_law_423 (fun H locs hM hS => ?_)
  refine lv_aload_n hx hb dL_law_426 rfl (lv_at hl 2 rfl) ?_
  refine lv_aload_n hx hb dL_law_427 rfl (lv_at hl 0 rfl) ?_
  refine lv_iload_n hx hb dL_law_428 rfl (lv_at hl 3 rfl) ?_
  refine lv_iconst (v := 1) hx hb dL_law_429 (by decide) ?_
  refine lv_iadd hx hb dL_law_430 ?_
  refine va_sld hx hb hX hbl hbA hS h1 dL_law_431 ?_
  refine k_X11_lots hx hb hml hown hE hM hS w_5_122 hq2 (Nat.le_of_ble_eq_true rfl) (Nat.le_of_ble_eq_true rfl) hl.1 (Nat.le_of_ble_eq_true rfl) ⟨by show cells ≤ 600000; omega, by show slots ≤ 7302250; omega⟩ dL_law_432 (fun H locs hM hS => ?_)
  refine lv_icmp_eq (tgt := 848) hx hb dL_law_435 (by decide) (fun _ => ?_) (fun hc => absurd rfl hc)
  exact W.widen (k := cells + 1) (n := slots + 6) (by omega) (by omega) (kk G nw _ _ _ _ _ hGA hE hR hM hS hl)
set_option maxHeartbeats 4000000 in
set_option maxRecDepth 100000 in
theorem law_c10 {p : Program} {l : Launch} {e : Env} {s : State} {m : MethodId} {below : List Frame} {meth : Method} {c : Code} {b L : Nat} {xs : Nat → Int32} {fu : Nat} {Rel : Nat → Me → Me → Prop} {G : GG} {nw : Nat} {x mm : Me} {H : Heap} {locs : List Loc} {ls : Array Slot} (C0 : lw_At p s m meth c b L xs) (hO : AOs s) {a3 : Int32} (h1 : vp_in (a3 + 1) L) (h2 : vp_in (a3 + 2) L) {cells slots : Nat} (hcs : cells + 1 ≤ 600000 ∧ slots + 6 ≤ 7302250) (hst : S2 Rel nw (f_X10_drawn fu nw x (xs (a3 + 1).toNatClampNeg) (xs (a3 + 2).toNatClampNeg)) (f_X11_drawn fu mm (xs (a3 + 1).toNatClampNeg) (xs (a3 + 2).toNatClampNeg))) (hGA : gA G = (fun q : Nat => s.heap.size ≤ q)) (hE : EnvP G s) (hM : MemP G nw x mm H) (hS : va_S (gA G) s.heap H locs) (hl : lv_has ls 4 [(0, .ref b), (1, .ref (ga G 0)), (2, .ref (ga G 41)), (3, .int a3)]) (kk : LwK Rel p l e s m below meth c b a3 (cells + 1) (slots + 6) 848) : W p l e room_1 s m #[Value.ref b] below meth c H locs cells slots (lw_Z below #[Value.ref b] s) (F0 m 440 ls []) := by
  obtain ⟨hx, hb, hr, hml, hown, hts, hX, hbl, hlocks, hgv⟩ := C0
  have hbA : ¬ gA G b := by rw [hGA]; exact Nat.not_le.mpr hbl
  obtain ⟨x', m', r, hq1, hq2, hR⟩ := hst
  refine lv_aload_n hx hb dL_law_440 rfl (lv_at hl 1 rfl) ?_
  refine lv_aload_n hx hb dL_law_441 rfl (lv_at hl 0 rfl) ?_
  refine lv_iload_n hx hb dL_law_442 rfl (lv_at hl 3 rfl) ?_
  refine lv_iconst (v := 1) hx hb dL_law_443 (by decide) ?_
  refine lv_iadd hx hb dL_law_444 ?_
  refine va_sld hx hb hX hbl hbA hS h1 dL_law_445 ?_
  refine lv_aload_n hx hb dL_law_446 rfl (lv_at hl 0 rfl) ?_
  refine lv_iload_n hx hb dL_law_447 rfl (lv_at hl 3 rfl) ?_
  refine lv_iconst (v := 2) hx hb dL_law_448 (by decide) ?_
  refine lv_iadd hx hb dL_law_449 ?_
  refine va_sld hx hb hX hbl hbA hS h2 dL_law_450 ?_
  refine k_X10_drawn hx hb hml hown hE hM hS w_3_132 hq1 (Nat.le_of_ble_eq_true rfl) (Nat.le_of_ble_eq_true rfl) hl.1 (Nat.le_of_ble_eq_true rfl) ⟨by show cells ≤ 600000; omega, by show slots ≤ 7302250; omega⟩ dL_law_451 (fun H locs hM hS => ?_)
  refine lv_aload_n hx hb dL_law_454 rfl (lv_at hl 2 rfl) ?_
  refine lv_aload_n hx hb dL_law_455 rfl (lv_at hl 0 rfl) ?_
  refine lv_iload_n hx hb dL_law_456 rfl (lv_at hl 3 rfl) ?_
  refine lv_iconst (v := 1) hx hb dL_law_457 (by decide) ?_
  refine lv_iadd hx hb dL_law_458 ?_
  refine va_sld hx hb hX hbl hbA hS h1 dL_law_459 ?_
  refine lv_aload_n hx hb dL_law_460 rfl (lv_at hl 0 rfl) ?_
  refine lv_iload_n hx hb dL_law_461 rfl (lv_at hl 3 rfl) ?_
  refine lv_iconst (v := 2) hx hb dL_law_462 (by decide) ?_
  refine lv_iadd hx hb dL_law_463 ?_
  refine va_sld hx hb hX hbl hbA hS h2 dL_law_464 ?_
  refine k_X11_drawn hx hb hml hown hE hM hS w_5_126 hq2 (Nat.le_of_ble_eq_true rfl) (Nat.le_of_ble_eq_true rfl) hl.1 (Nat.le_of_ble_eq_true rfl) ⟨by show cells ≤ 600000; omega, by show slots ≤ 7302250; omega⟩ dL_law_465 (fun H locs hM hS => ?_)
  refine lv_icmp_eq (tgt := 848) hx hb dL_law_468 (by decide) (fun _ => ?_) (fun hc => absurd rfl hc)
  exact W.widen (k := cells + 1) (n := slots + 6) (by omega) (by omega) (kk G nw _ _ _ _ _ hGA hE hR hM hS hl)
set_option maxHeartbeats 4000000 in
set_option maxRecDepth 100000 in
theorem law_c11 {p : Program} {l : Launch} {e : Env} {s : State} {m : MethodId} {below : List Frame} {meth : Method} {c : Code} {b L : Nat} {xs : Nat → Int32} {fu : Nat} {Rel : Nat → Me → Me → Prop} {G : GG} {nw : Nat} {x mm : Me} {H : Heap} {locs : List Loc} {ls : Array Slot} (C0 : lw_At p s m meth c b L xs) (hO : AOs s) {a3 : Int32} (h1 : vp_in (a3 + 1) L) (h2 : vp_in (a3 + 2) L) {cells slots : Nat} (hcs : cells + 1 ≤ 600000 ∧ slots + 6 ≤ 7302250) (hst : S2 Rel nw (f_X10_look fu nw x (xs (a3 + 1).toNatClampNeg) (xs (a3 + 2).toNatClampNeg)) (f_X11_look fu mm (xs (a3 + 1).toNatClampNeg) (xs (a3 + 2).toNatClampNeg))) (hGA : gA G = (fun q : Nat => s.heap.size ≤ q)) (hE : EnvP G s) (hM : MemP G nw x mm H) (hS : va_S (gA G) s.heap H locs) (hl : lv_has ls 4 [(0, .ref b), (1, .ref (ga G 0)), (2, .ref (ga G 41)), (3, .int a3)]) (kk : LwK Rel p l e s m below meth c b a3 (cells + 1) (slots + 6) 848) : W p l e room_1 s m #[Value.ref b] below meth c H locs cells slots (lw_Z below #[Value.ref b] s) (F0 m 473 ls []) := by
  obtain ⟨hx, hb, hr, hml, hown, hts, hX, hbl, hlocks, hgv⟩ := C0
  have hbA : ¬ gA G b := by rw [hGA]; exact Nat.not_le.mpr hbl
  obtain ⟨x', m', r, hq1, hq2, hR⟩ := hst
  refine lv_aload_n hx hb dL_law_473 rfl (lv_at hl 1 rfl) ?_
  refine lv_aload_n hx hb dL_law_474 rfl (lv_at hl 0 rfl) ?_
  refine lv_iload_n hx hb dL_law_475 rfl (lv_at hl 3 rfl) ?_
  refine lv_iconst (v := 1) hx hb dL_law_476 (by decide) ?_
  refine lv_iadd hx hb dL_law_477 ?_
  refine va_sld hx hb hX hbl hbA hS h1 dL_law_478 ?_
  refine lv_aload_n hx hb dL_law_479 rfl (lv_at hl 0 rfl) ?_
  refine lv_iload_n hx hb dL_law_480 rfl (lv_at hl 3 rfl) ?_
  refine lv_iconst (v := 2) hx hb dL_law_481 (by decide) ?_
  refine lv_iadd hx hb dL_law_482 ?_
  refine va_sld hx hb hX hbl hbA hS h2 dL_law_483 ?_
  refine k_X10_look hx hb hml hown hE hM hS w_3_136 hq1 (Nat.le_of_ble_eq_true rfl) (Nat.le_of_ble_eq_true rfl) hl.1 (Nat.le_of_ble_eq_true rfl) ⟨by show cells ≤ 600000; omega, by show slots ≤ 7302250; omega⟩ dL_law_484 (fun H locs hM hS => ?_)
  refine lv_aload_n hx hb dL_law_487 rfl (lv_at hl 2 rfl) ?_
  refine lv_aload_n hx hb dL_law_488 rfl (lv_at hl 0 rfl) ?_
  refine lv_iload_n hx hb dL_law_489 rfl (lv_at hl 3 rfl) ?_
  refine lv_iconst (v := 1) hx hb dL_law_490 (by decide) ?_
  refine lv_iadd hx hb dL_law_491 ?_
  refine va_sld hx hb hX hbl hbA hS h1 dL_law_492 ?_
  refine lv_aload_n hx hb dL_law_493 rfl (lv_at hl 0 rfl) ?_
  refine lv_iload_n hx hb dL_law_494 rfl (lv_at hl 3 rfl) ?_
  refine lv_iconst (v := 2) hx hb dL_law_495 (by decide) ?_
  refine lv_iadd hx hb dL_law_496 ?_
  refine va_sld hx hb hX hbl hbA hS h2 dL_law_497 ?_
  refine k_X11_look hx hb hml hown hE hM hS w_5_130 hq2 (Nat.le_of_ble_eq_true rfl) (Nat.le_of_ble_eq_true rfl) hl.1 (Nat.le_of_ble_eq_true rfl) ⟨by show cells ≤ 600000; omega, by show slots ≤ 7302250; omega⟩ dL_law_498 (fun H locs hM hS => ?_)
  refine lv_icmp_eq (tgt := 848) hx hb dL_law_501 (by decide) (fun _ => ?_) (fun hc => absurd rfl hc)
  exact W.widen (k := cells + 1) (n := slots + 6) (by omega) (by omega) (kk G nw _ _ _ _ _ hGA hE hR hM hS hl)
set_option maxHeartbeats 4000000 in
set_option maxRecDepth 100000 in
theorem law_c12 {p : Program} {l : Launch} {e : Env} {s : State} {m : MethodId} {below : List Frame} {meth : Method} {c : Code} {b L : Nat} {xs : Nat → Int32} {fu : Nat} {Rel : Nat → Me → Me → Prop} {G : GG} {nw : Nat} {x mm : Me} {H : Heap} {locs : List Loc} {ls : Array Slot} (C0 : lw_At p s m meth c b L xs) (hO : AOs s) {a3 : Int32} (h1 : vp_in (a3 + 1) L) {cells slots : Nat} (hcs : cells + 1 ≤ 600000 ∧ slots + 6 ≤ 7302250) (hst : S2 Rel nw (f_X10_ring fu nw x (xs (a3 + 1).toNatClampNeg)) (f_X11_ring fu mm (xs (a3 + 1).toNatClampNeg))) (hGA : gA G = (fun q : Nat => s.heap.size ≤ q)) (hE : EnvP G s) (hM : MemP G nw x mm H) (hS : va_S (gA G) s.heap H locs) (hl : lv_has ls 4 [(0, .ref b), (1, .ref (ga G 0)), (2, .ref (ga G 41)), (3, .int a3)]) (kk : LwK Rel p l e s m below meth c b a3 (cells + 1) (slots + 6) 848) : W p l e room_1 s m #[Value.ref b] below meth c H locs cells slots (lw_Z below #[Value.ref b] s) (F0 m 506 ls []) := by
  obtain ⟨hx, hb, hr, hml, hown, hts, hX, hbl, hlocks, hgv⟩ := C0
  have hbA : ¬ gA G b := by rw [hGA]; exact Nat.not_le.mpr hbl
  obtain ⟨x', m', r, hq1, hq2, hR⟩ := hst
  refine lv_aload_n hx hb dL_law_506 rfl (lv_at hl 1 rfl) ?_
  refine lv_aload_n hx hb dL_law_507 rfl (lv_at hl 0 rfl) ?_
  refine lv_iload_n hx hb dL_law_508 rfl (lv_at hl 3 rfl) ?_
  refine lv_iconst (v := 1) hx hb dL_law_509 (by decide) ?_
  refine lv_iadd hx hb dL_law_510 ?_
  refine va_sld hx hb hX hbl hbA hS h1 dL_law_511 ?_
  refine k_X10_ring hx hb hml hown hE hM hS w_3_141 hq1 (Nat.le_of_ble_eq_true rfl) (Nat.le_of_ble_eq_true rfl) hl.1 (Nat.le_of_ble_eq_true rfl) ⟨by show cells ≤ 600000; omega, by show slots ≤ 7302250; omega⟩ dL_law_512 (fun H locs hM hS => ?_)
  refine lv_aload_n hx hb dL_law_515 rfl (lv_at hl 2 rfl) ?_
  refine lv_aload_n hx hb dL_law_516 rfl (lv_at hl 0 rfl) ?_
  refine lv_iload_n hx hb dL_law_517 rfl (lv_at hl 3 rfl) ?_
  refine lv_iconst (v := 1) hx hb dL_law_518 (by decide) ?_
  refine lv_iadd hx hb dL_law_519 ?_
  refine va_sld hx hb hX hbl hbA hS h1 dL_law_520 ?_
  refine k_X11_ring hx hb hml hown hE hM hS w_5_138 hq2 (Nat.le_of_ble_eq_true rfl) (Nat.le_of_ble_eq_true rfl) hl.1 (Nat.le_of_ble_eq_true rfl) ⟨by show cells ≤ 600000; omega, by show slots ≤ 7302250; omega⟩ dL_law_521 (fun H locs hM hS => ?_)
  refine lv_icmp_eq (tgt := 848) hx hb dL_law_524 (by decide) (fun _ => ?_) (fun hc => absurd rfl hc)
  exact W.widen (k := cells + 1) (n := slots + 6) (by omega) (by omega) (kk G nw _ _ _ _ _ hGA hE hR hM hS hl)
set_option maxHeartbeats 4000000 in
set_option maxRecDepth 100000 in
theorem law_c13 {p : Program} {l : Launch} {e : Env} {s : State} {m : MethodId} {below : List Frame} {meth : Method} {c : Code} {b L : Nat} {xs : Nat → Int32} {fu : Nat} {Rel : Nat → Me → Me → Prop} {G : GG} {nw : Nat} {x mm : Me} {H : Heap} {locs : List Loc} {ls : Array Slot} (C0 : lw_At p s m meth c b L xs) (hO : AOs s) {a3 : Int32} (h1 : vp_in (a3 + 1) L) (h2 : vp_in (a3 + 2) L) {cells slots : Nat} (hcs : cells + 1 ≤ 600000 ∧ slots + 6 ≤ 7302250) (hst : ∀ z : Int32, (z = 0 ∨ z = 1) → S2 Rel nw (f_X10_bend fu nw x (xs (a3 + 1).toNatClampNeg) z) (f_X11_bend fu mm (xs (a3 + 1).toNatClampNeg) z)) (hGA : gA G = (fun q : Nat => s.heap.size ≤ q)) (hE : EnvP G s) (hM : MemP G nw x mm H) (hS : va_S (gA G) s.heap H locs) (hl : lv_has ls 4 [(0, .ref b), (1, .ref (ga G 0)), (2, .ref (ga G 41)), (3, .int a3)]) (kk : LwK Rel p l e s m below meth c b a3 (cells + 1) (slots + 6) 848) : W p l e room_1 s m #[Value.ref b] below meth c H locs cells slots (lw_Z below #[Value.ref b] s) (F0 m 529 ls []) := by
  obtain ⟨hx, hb, hr, hml, hown, hts, hX, hbl, hlocks, hgv⟩ := C0
  have hbA : ¬ gA G b := by rw [hGA]; exact Nat.not_le.mpr hbl

  refine lv_aload_n hx hb dL_law_529 rfl (lv_at hl 1 rfl) ?_
  refine lv_aload_n hx hb dL_law_530 rfl (lv_at hl 0 rfl) ?_
  refine lv_iload_n hx hb dL_law_531 rfl (lv_at hl 3 rfl) ?_
  refine lv_iconst (v := 1) hx hb dL_law_532 (by decide) ?_
  refine lv_iadd hx hb dL_law_533 ?_
  refine va_sld hx hb hX hbl hbA hS h1 dL_law_534 ?_
  refine lv_aload_n hx hb dL_law_535 rfl (lv_at hl 0 rfl) ?_
  refine lv_iload_n hx hb dL_law_536 rfl (lv_at hl 3 rfl) ?_
  refine lv_iconst (v := 2) hx hb dL_law_537 (by decide) ?_
  refine lv_iadd hx hb dL_law_538 ?_
  refine va_sld hx hb hX hbl hbA hS h2 dL_law_539 ?_
  refine lv_if_eq (tgt := 547) hx hb dL_law_540 (by decide) (fun hz => ?_) (fun hz => ?_)
  · refine lv_iconst (v := 0) hx hb dL_law_547 (by decide) ?_
    obtain ⟨x', m', r, hq1, hq2, hR⟩ := hst 0 (by decide)
    refine k_X10_bend hx hb hml hown hE hM hS w_3_149 hq1 (Nat.le_of_ble_eq_true rfl) (Nat.le_of_ble_eq_true rfl) hl.1 (Nat.le_of_ble_eq_true rfl) ⟨by show cells ≤ 600000; omega, by show slots ≤ 7302250; omega⟩ dL_law_548 (fun H locs hM hS => ?_)
    refine lv_aload_n hx hb dL_law_551 rfl (lv_at hl 2 rfl) ?_
    refine lv_aload_n hx hb dL_law_552 rfl (lv_at hl 0 rfl) ?_
    refine lv_iload_n hx hb dL_law_553 rfl (lv_at hl 3 rfl) ?_
    refine lv_iconst (v := 1) hx hb dL_law_554 (by decide) ?_
    refine lv_iadd hx hb dL_law_555 ?_
    refine va_sld hx hb hX hbl hbA hS h1 dL_law_556 ?_
    refine lv_aload_n hx hb dL_law_557 rfl (lv_at hl 0 rfl) ?_
    refine lv_iload_n hx hb dL_law_558 rfl (lv_at hl 3 rfl) ?_
    refine lv_iconst (v := 2) hx hb dL_law_559 (by decide) ?_
    refine lv_iadd hx hb dL_law_560 ?_
    refine va_sld hx hb hX hbl hbA hS h2 dL_law_561 ?_
    refine lv_if_eq (tgt := 569) hx hb dL_law_562 (by decide) (fun _ => ?_) (fun hc => absurd hz hc)
    refine lv_iconst (v := 0) hx hb dL_law_569 (by decide) ?_
    refine k_X11_bend hx hb hml hown hE hM hS w_5_142 hq2 (Nat.le_of_ble_eq_true rfl) (Nat.le_of_ble_eq_true rfl) hl.1 (Nat.le_of_ble_eq_true rfl) ⟨by show cells ≤ 600000; omega, by show slots ≤ 7302250; omega⟩ dL_law_570 (fun H locs hM hS => ?_)
    refine lv_icmp_eq (tgt := 848) hx hb dL_law_573 (by decide) (fun _ => ?_) (fun hc => absurd rfl hc)
    exact W.widen (k := cells + 1) (n := slots + 6) (by omega) (by omega) (kk G nw _ _ _ _ _ hGA hE hR hM hS hl)
  · refine lv_iconst (v := 1) hx hb dL_law_543 (by decide) ?_
    refine lv_goto (tgt := 548) hx hb dL_law_544 (by decide) ?_
    obtain ⟨x', m', r, hq1, hq2, hR⟩ := hst 1 (by decide)
    refine k_X10_bend hx hb hml hown hE hM hS w_3_149 hq1 (Nat.le_of_ble_eq_true rfl) (Nat.le_of_ble_eq_true rfl) hl.1 (Nat.le_of_ble_eq_true rfl) ⟨by show cells ≤ 600000; omega, by show slots ≤ 7302250; omega⟩ dL_law_548 (fun H locs hM hS => ?_)
    refine lv_aload_n hx hb dL_law_551 rfl (lv_at hl 2 rfl) ?_
    refine lv_aload_n hx hb dL_law_552 rfl (lv_at hl 0 rfl) ?_
    refine lv_iload_n hx hb dL_law_553 rfl (lv_at hl 3 rfl) ?_
    refine lv_iconst (v := 1) hx hb dL_law_554 (by decide) ?_
    refine lv_iadd hx hb dL_law_555 ?_
    refine va_sld hx hb hX hbl hbA hS h1 dL_law_556 ?_
    refine lv_aload_n hx hb dL_law_557 rfl (lv_at hl 0 rfl) ?_
    refine lv_iload_n hx hb dL_law_558 rfl (lv_at hl 3 rfl) ?_
    refine lv_iconst (v := 2) hx hb dL_law_559 (by decide) ?_
    refine lv_iadd hx hb dL_law_560 ?_
    refine va_sld hx hb hX hbl hbA hS h2 dL_law_561 ?_
    refine lv_if_eq (tgt := 569) hx hb dL_law_562 (by decide) (fun hc => absurd hc hz) (fun _ => ?_)
    refine lv_iconst (v := 1) hx hb dL_law_565 (by decide) ?_
    refine lv_goto (tgt := 570) hx hb dL_law_566 (by decide) ?_
    refine k_X11_bend hx hb hml hown hE hM hS w_5_142 hq2 (Nat.le_of_ble_eq_true rfl) (Nat.le_of_ble_eq_true rfl) hl.1 (Nat.le_of_ble_eq_true rfl) ⟨by show cells ≤ 600000; omega, by show slots ≤ 7302250; omega⟩ dL_law_570 (fun H locs hM hS => ?_)
    refine lv_icmp_eq (tgt := 848) hx hb dL_law_573 (by decide) (fun _ => ?_) (fun hc => absurd rfl hc)
    exact W.widen (k := cells + 1) (n := slots + 6) (by omega) (by omega) (kk G nw _ _ _ _ _ hGA hE hR hM hS hl)
set_option maxHeartbeats 4000000 in
set_option maxRecDepth 100000 in
theorem law_c14 {p : Program} {l : Launch} {e : Env} {s : State} {m : MethodId} {below : List Frame} {meth : Method} {c : Code} {b L : Nat} {xs : Nat → Int32} {fu : Nat} {Rel : Nat → Me → Me → Prop} {G : GG} {nw : Nat} {x mm : Me} {H : Heap} {locs : List Loc} {ls : Array Slot} (C0 : lw_At p s m meth c b L xs) (hO : AOs s) {a3 : Int32} (h1 : vp_in (a3 + 1) L) (h2 : vp_in (a3 + 2) L) (h3 : vp_in (a3 + 3) L) {cells slots : Nat} (hcs : cells + 1 ≤ 600000 ∧ slots + 6 ≤ 7302250) (hst : S2 Rel nw (f_X10_orders fu nw x (xs (a3 + 1).toNatClampNeg) (xs (a3 + 2).toNatClampNeg) (xs (a3 + 3).toNatClampNeg)) (f_X11_orders fu mm (xs (a3 + 1).toNatClampNeg) (xs (a3 + 2).toNatClampNeg) (xs (a3 + 3).toNatClampNeg))) (hGA : gA G = (fun q : Nat => s.heap.size ≤ q)) (hE : EnvP G s) (hM : MemP G nw x mm H) (hS : va_S (gA G) s.heap H locs) (hl : lv_has ls 4 [(0, .ref b), (1, .ref (ga G 0)), (2, .ref (ga G 41)), (3, .int a3)]) (kk : LwK Rel p l e s m below meth c b a3 (cells + 1) (slots + 6) 848) : W p l e room_1 s m #[Value.ref b] below meth c H locs cells slots (lw_Z below #[Value.ref b] s) (F0 m 578 ls []) := by
  obtain ⟨hx, hb, hr, hml, hown, hts, hX, hbl, hlocks, hgv⟩ := C0
  have hbA : ¬ gA G b := by rw [hGA]; exact Nat.not_le.mpr hbl
  obtain ⟨x', m', r, hq1, hq2, hR⟩ := hst
  refine lv_aload_n hx hb dL_law_578 rfl (lv_at hl 1 rfl) ?_
  refine lv_aload_n hx hb dL_law_579 rfl (lv_at hl 0 rfl) ?_
  refine lv_iload_n hx hb dL_law_580 rfl (lv_at hl 3 rfl) ?_
  refine lv_iconst (v := 1) hx hb dL_law_581 (by decide) ?_
  refine lv_iadd hx hb dL_law_582 ?_
  refine va_sld hx hb hX hbl hbA hS h1 dL_law_583 ?_
  refine lv_aload_n hx hb dL_law_584 rfl (lv_at hl 0 rfl) ?_
  refine lv_iload_n hx hb dL_law_585 rfl (lv_at hl 3 rfl) ?_
  refine lv_iconst (v := 2) hx hb dL_law_586 (by decide) ?_
  refine lv_iadd hx hb dL_law_587 ?_
  refine va_sld hx hb hX hbl hbA hS h2 dL_law_588 ?_
  refine lv_aload_n hx hb dL_law_589 rfl (lv_at hl 0 rfl) ?_
  refine lv_iload_n hx hb dL_law_590 rfl (lv_at hl 3 rfl) ?_
  refine lv_iconst (v := 3) hx hb dL_law_591 (by decide) ?_
  refine lv_iadd hx hb dL_law_592 ?_
  refine va_sld hx hb hX hbl hbA hS h3 dL_law_593 ?_
  refine k_X10_orders hx hb hml hown hE hM hS w_3_153 hq1 (Nat.le_of_ble_eq_true rfl) (Nat.le_of_ble_eq_true rfl) hl.1 (Nat.le_of_ble_eq_true rfl) ⟨by show cells ≤ 600000; omega, by show slots ≤ 7302250; omega⟩ dL_law_594 (fun H locs hM hS => ?_)
  refine lv_aload_n hx hb dL_law_597 rfl (lv_at hl 2 rfl) ?_
  refine lv_aload_n hx hb dL_law_598 rfl (lv_at hl 0 rfl) ?_
  refine lv_iload_n hx hb dL_law_599 rfl (lv_at hl 3 rfl) ?_
  refine lv_iconst (v := 1) hx hb dL_law_600 (by decide) ?_
  refine lv_iadd hx hb dL_law_601 ?_
  refine va_sld hx hb hX hbl hbA hS h1 dL_law_602 ?_
  refine lv_aload_n hx hb dL_law_603 rfl (lv_at hl 0 rfl) ?_
  refine lv_iload_n hx hb dL_law_604 rfl (lv_at hl 3 rfl) ?_
  refine lv_iconst (v := 2) hx hb dL_law_605 (by decide) ?_
  refine lv_iadd hx hb dL_law_606 ?_
  refine va_sld hx hb hX hbl hbA hS h2 dL_law_607 ?_
  refine lv_aload_n hx hb dL_law_608 rfl (lv_at hl 0 rfl) ?_
  refine lv_iload_n hx hb dL_law_609 rfl (lv_at hl 3 rfl) ?_
  refine lv_iconst (v := 3) hx hb dL_law_610 (by decide) ?_
  refine lv_iadd hx hb dL_law_611 ?_
  refine va_sld hx hb hX hbl hbA hS h3 dL_law_612 ?_
  refine k_X11_orders hx hb hml hown hE hM hS w_5_146 hq2 (Nat.le_of_ble_eq_true rfl) (Nat.le_of_ble_eq_true rfl) hl.1 (Nat.le_of_ble_eq_true rfl) ⟨by show cells ≤ 600000; omega, by show slots ≤ 7302250; omega⟩ dL_law_613 (fun H locs hM hS => ?_)
  refine lv_icmp_eq (tgt := 848) hx hb dL_law_616 (by decide) (fun _ => ?_) (fun hc => absurd rfl hc)
  exact W.widen (k := cells + 1) (n := slots + 6) (by omega) (by omega) (kk G nw _ _ _ _ _ hGA hE hR hM hS hl)
set_option maxHeartbeats 4000000 in
set_option maxRecDepth 100000 in
theorem law_c15 {p : Program} {l : Launch} {e : Env} {s : State} {m : MethodId} {below : List Frame} {meth : Method} {c : Code} {b L : Nat} {xs : Nat → Int32} {fu : Nat} {Rel : Nat → Me → Me → Prop} {G : GG} {nw : Nat} {x mm : Me} {H : Heap} {locs : List Loc} {ls : Array Slot} (C0 : lw_At p s m meth c b L xs) (hO : AOs s) {a3 : Int32} (h1 : vp_in (a3 + 1) L) (h2 : vp_in (a3 + 2) L) {cells slots : Nat} (hcs : cells + 1 ≤ 600000 ∧ slots + 6 ≤ 7302250) (hst : S2 Rel nw (f_X10_seen fu nw x (xs (a3 + 1).toNatClampNeg) (xs (a3 + 2).toNatClampNeg)) (f_X11_seen fu mm (xs (a3 + 1).toNatClampNeg) (xs (a3 + 2).toNatClampNeg))) (hGA : gA G = (fun q : Nat => s.heap.size ≤ q)) (hE : EnvP G s) (hM : MemP G nw x mm H) (hS : va_S (gA G) s.heap H locs) (hl : lv_has ls 4 [(0, .ref b), (1, .ref (ga G 0)), (2, .ref (ga G 41)), (3, .int a3)]) (kk : LwK Rel p l e s m below meth c b a3 (cells + 1) (slots + 6) 848) : W p l e room_1 s m #[Value.ref b] below meth c H locs cells slots (lw_Z below #[Value.ref b] s) (F0 m 621 ls []) := by
  obtain ⟨hx, hb, hr, hml, hown, hts, hX, hbl, hlocks, hgv⟩ := C0
  have hbA : ¬ gA G b := by rw [hGA]; exact Nat.not_le.mpr hbl
  obtain ⟨x', m', r, hq1, hq2, hR⟩ := hst
  refine lv_aload_n hx hb dL_law_621 rfl (lv_at hl 1 rfl) ?_
  refine lv_aload_n hx hb dL_law_622 rfl (lv_at hl 0 rfl) ?_
  refine lv_iload_n hx hb dL_law_623 rfl (lv_at hl 3 rfl) ?_
  refine lv_iconst (v := 1) hx hb dL_law_624 (by decide) ?_
  refine lv_iadd hx hb dL_law_625 ?_
  refine va_sld hx hb hX hbl hbA hS h1 dL_law_626 ?_
  refine lv_aload_n hx hb dL_law_627 rfl (lv_at hl 0 rfl) ?_
  refine lv_iload_n hx hb dL_law_628 rfl (lv_at hl 3 rfl) ?_
  refine lv_iconst (v := 2) hx hb dL_law_629 (by decide) ?_
  refine lv_iadd hx hb dL_law_630 ?_
  refine va_sld hx hb hX hbl hbA hS h2 dL_law_631 ?_
  refine k_X10_seen hx hb hml hown hE hM hS w_3_158 hq1 (Nat.le_of_ble_eq_true rfl) (Nat.le_of_ble_eq_true rfl) hl.1 (Nat.le_of_ble_eq_true rfl) ⟨by show cells ≤ 600000; omega, by show slots ≤ 7302250; omega⟩ dL_law_632 (fun H locs hM hS => ?_)
  refine lv_aload_n hx hb dL_law_635 rfl (lv_at hl 2 rfl) ?_
  refine lv_aload_n hx hb dL_law_636 rfl (lv_at hl 0 rfl) ?_
  refine lv_iload_n hx hb dL_law_637 rfl (lv_at hl 3 rfl) ?_
  refine lv_iconst (v := 1) hx hb dL_law_638 (by decide) ?_
  refine lv_iadd hx hb dL_law_639 ?_
  refine va_sld hx hb hX hbl hbA hS h1 dL_law_640 ?_
  refine lv_aload_n hx hb dL_law_641 rfl (lv_at hl 0 rfl) ?_
  refine lv_iload_n hx hb dL_law_642 rfl (lv_at hl 3 rfl) ?_
  refine lv_iconst (v := 2) hx hb dL_law_643 (by decide) ?_
  refine lv_iadd hx hb dL_law_644 ?_
  refine va_sld hx hb hX hbl hbA hS h2 dL_law_645 ?_
  refine k_X11_seen hx hb hml hown hE hM hS w_5_150 hq2 (Nat.le_of_ble_eq_true rfl) (Nat.le_of_ble_eq_true rfl) hl.1 (Nat.le_of_ble_eq_true rfl) ⟨by show cells ≤ 600000; omega, by show slots ≤ 7302250; omega⟩ dL_law_646 (fun H locs hM hS => ?_)
  refine lv_icmp_eq (tgt := 848) hx hb dL_law_649 (by decide) (fun _ => ?_) (fun hc => absurd rfl hc)
  exact W.widen (k := cells + 1) (n := slots + 6) (by omega) (by omega) (kk G nw _ _ _ _ _ hGA hE hR hM hS hl)
set_option maxHeartbeats 4000000 in
set_option maxRecDepth 100000 in
theorem law_c16 {p : Program} {l : Launch} {e : Env} {s : State} {m : MethodId} {below : List Frame} {meth : Method} {c : Code} {b L : Nat} {xs : Nat → Int32} {fu : Nat} {Rel : Nat → Me → Me → Prop} {G : GG} {nw : Nat} {x mm : Me} {H : Heap} {locs : List Loc} {ls : Array Slot} (C0 : lw_At p s m meth c b L xs) (hO : AOs s) {a3 : Int32} (h1 : vp_in (a3 + 1) L) {cells slots : Nat} (hcs : cells + 1 ≤ 600000 ∧ slots + 6 ≤ 7302250) (hst : S2 Rel nw (f_X10_drop fu nw x (xs (a3 + 1).toNatClampNeg)) (f_X11_drop fu mm (xs (a3 + 1).toNatClampNeg))) (hGA : gA G = (fun q : Nat => s.heap.size ≤ q)) (hE : EnvP G s) (hM : MemP G nw x mm H) (hS : va_S (gA G) s.heap H locs) (hl : lv_has ls 4 [(0, .ref b), (1, .ref (ga G 0)), (2, .ref (ga G 41)), (3, .int a3)]) (kk : LwK Rel p l e s m below meth c b a3 (cells + 1) (slots + 6) 848) : W p l e room_1 s m #[Value.ref b] below meth c H locs cells slots (lw_Z below #[Value.ref b] s) (F0 m 654 ls []) := by
  obtain ⟨hx, hb, hr, hml, hown, hts, hX, hbl, hlocks, hgv⟩ := C0
  have hbA : ¬ gA G b := by rw [hGA]; exact Nat.not_le.mpr hbl
  obtain ⟨x', m', r, hq1, hq2, hR⟩ := hst
  refine lv_aload_n hx hb dL_law_654 rfl (lv_at hl 1 rfl) ?_
  refine lv_aload_n hx hb dL_law_655 rfl (lv_at hl 0 rfl) ?_
  refine lv_iload_n hx hb dL_law_656 rfl (lv_at hl 3 rfl) ?_
  refine lv_iconst (v := 1) hx hb dL_law_657 (by decide) ?_
  refine lv_iadd hx hb dL_law_658 ?_
  refine va_sld hx hb hX hbl hbA hS h1 dL_law_659 ?_
  refine k_X10_drop hx hb hml hown hE hM hS w_3_163 hq1 (Nat.le_of_ble_eq_true rfl) (Nat.le_of_ble_eq_true rfl) hl.1 (Nat.le_of_ble_eq_true rfl) ⟨by show cells ≤ 600000; omega, by show slots ≤ 7302250; omega⟩ dL_law_660 (fun H locs hM hS => ?_)
  refine lv_aload_n hx hb dL_law_663 rfl (lv_at hl 2 rfl) ?_
  refine lv_aload_n hx hb dL_law_664 rfl (lv_at hl 0 rfl) ?_
  refine lv_iload_n hx hb dL_law_665 rfl (lv_at hl 3 rfl) ?_
  refine lv_iconst (v := 1) hx hb dL_law_666 (by decide) ?_
  refine lv_iadd hx hb dL_law_667 ?_
  refine va_sld hx hb hX hbl hbA hS h1 dL_law_668 ?_
  refine k_X11_drop hx hb hml hown hE hM hS w_5_158 hq2 (Nat.le_of_ble_eq_true rfl) (Nat.le_of_ble_eq_true rfl) hl.1 (Nat.le_of_ble_eq_true rfl) ⟨by show cells ≤ 600000; omega, by show slots ≤ 7302250; omega⟩ dL_law_669 (fun H locs hM hS => ?_)
  refine lv_icmp_eq (tgt := 848) hx hb dL_law_672 (by decide) (fun _ => ?_) (fun hc => absurd rfl hc)
  exact W.widen (k := cells + 1) (n := slots + 6) (by omega) (by omega) (kk G nw _ _ _ _ _ hGA hE hR hM hS hl)
set_option maxHeartbeats 4000000 in
set_option maxRecDepth 100000 in
theorem law_c17 {p : Program} {l : Launch} {e : Env} {s : State} {m : MethodId} {below : List Frame} {meth : Method} {c : Code} {b L : Nat} {xs : Nat → Int32} {fu : Nat} {Rel : Nat → Me → Me → Prop} {G : GG} {nw : Nat} {x mm : Me} {H : Heap} {locs : List Loc} {ls : Array Slot} (C0 : lw_At p s m meth c b L xs) (hO : AOs s) {a3 : Int32} (h1 : vp_in (a3 + 1) L) {cells slots : Nat} (hcs : cells + 1 ≤ 600000 ∧ slots + 6 ≤ 7302250) (hst : S2 Rel nw (f_X10_go fu nw x (xs (a3 + 1).toNatClampNeg)) (f_X11_go fu mm (xs (a3 + 1).toNatClampNeg))) (hGA : gA G = (fun q : Nat => s.heap.size ≤ q)) (hE : EnvP G s) (hM : MemP G nw x mm H) (hS : va_S (gA G) s.heap H locs) (hl : lv_has ls 4 [(0, .ref b), (1, .ref (ga G 0)), (2, .ref (ga G 41)), (3, .int a3)]) (kk : LwK Rel p l e s m below meth c b a3 (cells + 1) (slots + 6) 848) : W p l e room_1 s m #[Value.ref b] below meth c H locs cells slots (lw_Z below #[Value.ref b] s) (F0 m 677 ls []) := by
  obtain ⟨hx, hb, hr, hml, hown, hts, hX, hbl, hlocks, hgv⟩ := C0
  have hbA : ¬ gA G b := by rw [hGA]; exact Nat.not_le.mpr hbl
  obtain ⟨x', m', r, hq1, hq2, hR⟩ := hst
  refine lv_aload_n hx hb dL_law_677 rfl (lv_at hl 1 rfl) ?_
  refine lv_aload_n hx hb dL_law_678 rfl (lv_at hl 0 rfl) ?_
  refine lv_iload_n hx hb dL_law_679 rfl (lv_at hl 3 rfl) ?_
  refine lv_iconst (v := 1) hx hb dL_law_680 (by decide) ?_
  refine lv_iadd hx hb dL_law_681 ?_
  refine va_sld hx hb hX hbl hbA hS h1 dL_law_682 ?_
  refine k_X10_go hx hb hml hown hE hM hS w_3_214 hq1 (Nat.le_of_ble_eq_true rfl) (Nat.le_of_ble_eq_true rfl) hl.1 (Nat.le_of_ble_eq_true rfl) ⟨by show cells ≤ 600000; omega, by show slots ≤ 7302250; omega⟩ dL_law_683 (fun H locs hM hS => ?_)
  refine lv_aload_n hx hb dL_law_686 rfl (lv_at hl 2 rfl) ?_
  refine lv_aload_n hx hb dL_law_687 rfl (lv_at hl 0 rfl) ?_
  refine lv_iload_n hx hb dL_law_688 rfl (lv_at hl 3 rfl) ?_
  refine lv_iconst (v := 1) hx hb dL_law_689 (by decide) ?_
  refine lv_iadd hx hb dL_law_690 ?_
  refine va_sld hx hb hX hbl hbA hS h1 dL_law_691 ?_
  refine k_X11_go hx hb hml hown hE hM hS w_5_166 hq2 (Nat.le_of_ble_eq_true rfl) (Nat.le_of_ble_eq_true rfl) hl.1 (Nat.le_of_ble_eq_true rfl) ⟨by show cells ≤ 600000; omega, by show slots ≤ 7302250; omega⟩ dL_law_692 (fun H locs hM hS => ?_)
  refine lv_icmp_eq (tgt := 848) hx hb dL_law_695 (by decide) (fun _ => ?_) (fun hc => absurd rfl hc)
  exact W.widen (k := cells + 1) (n := slots + 6) (by omega) (by omega) (kk G nw _ _ _ _ _ hGA hE hR hM hS hl)
set_option maxHeartbeats 4000000 in
set_option maxRecDepth 100000 in
theorem law_c18 {p : Program} {l : Launch} {e : Env} {s : State} {m : MethodId} {below : List Frame} {meth : Method} {c : Code} {b L : Nat} {xs : Nat → Int32} {fu : Nat} {Rel : Nat → Me → Me → Prop} {G : GG} {nw : Nat} {x mm : Me} {H : Heap} {locs : List Loc} {ls : Array Slot} (C0 : lw_At p s m meth c b L xs) (hO : AOs s) {a3 : Int32} (h1 : vp_in (a3 + 1) L) (h2 : vp_in (a3 + 2) L) {cells slots : Nat} (hcs : cells + 1 ≤ 600000 ∧ slots + 6 ≤ 7302250) (hst : S2 Rel nw (f_X10_race fu nw x (xs (a3 + 1).toNatClampNeg) (xs (a3 + 2).toNatClampNeg)) (f_X11_race fu mm (xs (a3 + 1).toNatClampNeg) (xs (a3 + 2).toNatClampNeg))) (hGA : gA G = (fun q : Nat => s.heap.size ≤ q)) (hE : EnvP G s) (hM : MemP G nw x mm H) (hS : va_S (gA G) s.heap H locs) (hl : lv_has ls 4 [(0, .ref b), (1, .ref (ga G 0)), (2, .ref (ga G 41)), (3, .int a3)]) (kk : LwK Rel p l e s m below meth c b a3 (cells + 1) (slots + 6) 848) : W p l e room_1 s m #[Value.ref b] below meth c H locs cells slots (lw_Z below #[Value.ref b] s) (F0 m 700 ls []) := by
  obtain ⟨hx, hb, hr, hml, hown, hts, hX, hbl, hlocks, hgv⟩ := C0
  have hbA : ¬ gA G b := by rw [hGA]; exact Nat.not_le.mpr hbl
  obtain ⟨x', m', r, hq1, hq2, hR⟩ := hst
  refine lv_aload_n hx hb dL_law_700 rfl (lv_at hl 1 rfl) ?_
  refine lv_aload_n hx hb dL_law_701 rfl (lv_at hl 0 rfl) ?_
  refine lv_iload_n hx hb dL_law_702 rfl (lv_at hl 3 rfl) ?_
  refine lv_iconst (v := 1) hx hb dL_law_703 (by decide) ?_
  refine lv_iadd hx hb dL_law_704 ?_
  refine va_sld hx hb hX hbl hbA hS h1 dL_law_705 ?_
  refine lv_aload_n hx hb dL_law_706 rfl (lv_at hl 0 rfl) ?_
  refine lv_iload_n hx hb dL_law_707 rfl (lv_at hl 3 rfl) ?_
  refine lv_iconst (v := 2) hx hb dL_law_708 (by decide) ?_
  refine lv_iadd hx hb dL_law_709 ?_
  refine va_sld hx hb hX hbl hbA hS h2 dL_law_710 ?_
  refine k_X10_race hx hb hml hown hE hM hS w_4_60 hq1 (Nat.le_of_ble_eq_true rfl) (Nat.le_of_ble_eq_true rfl) hl.1 (Nat.le_of_ble_eq_true rfl) ⟨by show cells ≤ 600000; omega, by show slots ≤ 7302250; omega⟩ dL_law_711 (fun H locs hM hS => ?_)
  refine lv_aload_n hx hb dL_law_714 rfl (lv_at hl 2 rfl) ?_
  refine lv_aload_n hx hb dL_law_715 rfl (lv_at hl 0 rfl) ?_
  refine lv_iload_n hx hb dL_law_716 rfl (lv_at hl 3 rfl) ?_
  refine lv_iconst (v := 1) hx hb dL_law_717 (by decide) ?_
  refine lv_iadd hx hb dL_law_718 ?_
  refine va_sld hx hb hX hbl hbA hS h1 dL_law_719 ?_
  refine lv_aload_n hx hb dL_law_720 rfl (lv_at hl 0 rfl) ?_
  refine lv_iload_n hx hb dL_law_721 rfl (lv_at hl 3 rfl) ?_
  refine lv_iconst (v := 2) hx hb dL_law_722 (by decide) ?_
  refine lv_iadd hx hb dL_law_723 ?_
  refine va_sld hx hb hX hbl hbA hS h2 dL_law_724 ?_
  refine k_X11_race hx hb hml hown hE hM hS w_5_209 hq2 (Nat.le_of_ble_eq_true rfl) (Nat.le_of_ble_eq_true rfl) hl.1 (Nat.le_of_ble_eq_true rfl) ⟨by show cells ≤ 600000; omega, by show slots ≤ 7302250; omega⟩ dL_law_725 (fun H locs hM hS => ?_)
  refine lv_icmp_eq (tgt := 848) hx hb dL_law_728 (by decide) (fun _ => ?_) (fun hc => absurd rfl hc)
  exact W.widen (k := cells + 1) (n := slots + 6) (by omega) (by omega) (kk G nw _ _ _ _ _ hGA hE hR hM hS hl)
set_option maxHeartbeats 4000000 in
set_option maxRecDepth 100000 in
theorem law_c19 {p : Program} {l : Launch} {e : Env} {s : State} {m : MethodId} {below : List Frame} {meth : Method} {c : Code} {b L : Nat} {xs : Nat → Int32} {fu : Nat} {Rel : Nat → Me → Me → Prop} {G : GG} {nw : Nat} {x mm : Me} {H : Heap} {locs : List Loc} {ls : Array Slot} (C0 : lw_At p s m meth c b L xs) (hO : AOs s) {a3 : Int32} {cells slots : Nat} (hcs : cells + 1 ≤ 600000 ∧ slots + 6 ≤ 7302250) (hst : S2 Rel nw (f_X10_won fu nw x) (f_X11_won fu mm)) (hGA : gA G = (fun q : Nat => s.heap.size ≤ q)) (hE : EnvP G s) (hM : MemP G nw x mm H) (hS : va_S (gA G) s.heap H locs) (hl : lv_has ls 4 [(0, .ref b), (1, .ref (ga G 0)), (2, .ref (ga G 41)), (3, .int a3)]) (kk : LwK Rel p l e s m below meth c b a3 (cells + 1) (slots + 6) 848) : W p l e room_1 s m #[Value.ref b] below meth c H locs cells slots (lw_Z below #[Value.ref b] s) (F0 m 733 ls []) := by
  obtain ⟨hx, hb, hr, hml, hown, hts, hX, hbl, hlocks, hgv⟩ := C0
  have hbA : ¬ gA G b := by rw [hGA]; exact Nat.not_le.mpr hbl
  obtain ⟨x', m', r, hq1, hq2, hR⟩ := hst
  refine lv_aload_n hx hb dL_law_733 rfl (lv_at hl 1 rfl) ?_
  refine k_X10_won hx hb hml hown hE hM hS w_4_65 hq1 (Nat.le_of_ble_eq_true rfl) (Nat.le_of_ble_eq_true rfl) hl.1 (Nat.le_of_ble_eq_true rfl) ⟨by show cells ≤ 600000; omega, by show slots ≤ 7302250; omega⟩ dL_law_734 (fun H locs hM hS => ?_)
  refine lv_aload_n hx hb dL_law_737 rfl (lv_at hl 2 rfl) ?_
  refine k_X11_won hx hb hml hown hE hM hS w_5_213 hq2 (Nat.le_of_ble_eq_true rfl) (Nat.le_of_ble_eq_true rfl) hl.1 (Nat.le_of_ble_eq_true rfl) ⟨by show cells ≤ 600000; omega, by show slots ≤ 7302250; omega⟩ dL_law_738 (fun H locs hM hS => ?_)
  refine lv_icmp_eq (tgt := 848) hx hb dL_law_741 (by decide) (fun _ => ?_) (fun hc => absurd rfl hc)
  exact W.widen (k := cells + 1) (n := slots + 6) (by omega) (by omega) (kk G nw _ _ _ _ _ hGA hE hR hM hS hl)
set_option maxHeartbeats 4000000 in
set_option maxRecDepth 100000 in
theorem law_c20 {p : Program} {l : Launch} {e : Env} {s : State} {m : MethodId} {below : List Frame} {meth : Method} {c : Code} {b L : Nat} {xs : Nat → Int32} {fu : Nat} {Rel : Nat → Me → Me → Prop} {G : GG} {nw : Nat} {x mm : Me} {H : Heap} {locs : List Loc} {ls : Array Slot} (C0 : lw_At p s m meth c b L xs) (hO : AOs s) {a3 : Int32} (h1 : vp_in (a3 + 1) L) (h2 : vp_in (a3 + 2) L) (h3 : vp_in (a3 + 3) L) {cells slots : Nat} (hcs : cells + 1 ≤ 600000 ∧ slots + 6 ≤ 7302250) (hst : S2 Rel nw (f_X10_pact fu nw x (xs (a3 + 1).toNatClampNeg) (xs (a3 + 2).toNatClampNeg) (xs (a3 + 3).toNatClampNeg)) (f_X11_pact fu mm (xs (a3 + 1).toNatClampNeg) (xs (a3 + 2).toNatClampNeg) (xs (a3 + 3).toNatClampNeg))) (hGA : gA G = (fun q : Nat => s.heap.size ≤ q)) (hE : EnvP G s) (hM : MemP G nw x mm H) (hS : va_S (gA G) s.heap H locs) (hl : lv_has ls 4 [(0, .ref b), (1, .ref (ga G 0)), (2, .ref (ga G 41)), (3, .int a3)]) (kk : LwK Rel p l e s m below meth c b a3 (cells + 1) (slots + 6) 848) : W p l e room_1 s m #[Value.ref b] below meth c H locs cells slots (lw_Z below #[Value.ref b] s) (F0 m 746 ls []) := by
  obtain ⟨hx, hb, hr, hml, hown, hts, hX, hbl, hlocks, hgv⟩ := C0
  have hbA : ¬ gA G b := by rw [hGA]; exact Nat.not_le.mpr hbl
  obtain ⟨x', m', r, hq1, hq2, hR⟩ := hst
  refine lv_aload_n hx hb dL_law_746 rfl (lv_at hl 1 rfl) ?_
  refine lv_aload_n hx hb dL_law_747 rfl (lv_at hl 0 rfl) ?_
  refine lv_iload_n hx hb dL_law_748 rfl (lv_at hl 3 rfl) ?_
  refine lv_iconst (v := 1) hx hb dL_law_749 (by decide) ?_
  refine lv_iadd hx hb dL_law_750 ?_
  refine va_sld hx hb hX hbl hbA hS h1 dL_law_751 ?_
  refine lv_aload_n hx hb dL_law_752 rfl (lv_at hl 0 rfl) ?_
  refine lv_iload_n hx hb dL_law_753 rfl (lv_at hl 3 rfl) ?_
  refine lv_iconst (v := 2) hx hb dL_law_754 (by decide) ?_
  refine lv_iadd hx hb dL_law_755 ?_
  refine va_sld hx hb hX hbl hbA hS h2 dL_law_756 ?_
  refine lv_aload_n hx hb dL_law_757 rfl (lv_at hl 0 rfl) ?_
  refine lv_iload_n hx hb dL_law_758 rfl (lv_at hl 3 rfl) ?_
  refine lv_iconst (v := 3) hx hb dL_law_759 (by decide) ?_
  refine lv_iadd hx hb dL_law_760 ?_
  refine va_sld hx hb hX hbl hbA hS h3 dL_law_761 ?_
  refine k_X10_pact hx hb hml hown hE hM hS w_4_69 hq1 (Nat.le_of_ble_eq_true rfl) (Nat.le_of_ble_eq_true rfl) hl.1 (Nat.le_of_ble_eq_true rfl) ⟨by show cells ≤ 600000; omega, by show slots ≤ 7302250; omega⟩ dL_law_762 (fun H locs hM hS => ?_)
  refine lv_aload_n hx hb dL_law_765 rfl (lv_at hl 2 rfl) ?_
  refine lv_aload_n hx hb dL_law_766 rfl (lv_at hl 0 rfl) ?_
  refine lv_iload_n hx hb dL_law_767 rfl (lv_at hl 3 rfl) ?_
  refine lv_iconst (v := 1) hx hb dL_law_768 (by decide) ?_
  refine lv_iadd hx hb dL_law_769 ?_
  refine va_sld hx hb hX hbl hbA hS h1 dL_law_770 ?_
  refine lv_aload_n hx hb dL_law_771 rfl (lv_at hl 0 rfl) ?_
  refine lv_iload_n hx hb dL_law_772 rfl (lv_at hl 3 rfl) ?_
  refine lv_iconst (v := 2) hx hb dL_law_773 (by decide) ?_
  refine lv_iadd hx hb dL_law_774 ?_
  refine va_sld hx hb hX hbl hbA hS h2 dL_law_775 ?_
  refine lv_aload_n hx hb dL_law_776 rfl (lv_at hl 0 rfl) ?_
  refine lv_iload_n hx hb dL_law_777 rfl (lv_at hl 3 rfl) ?_
  refine lv_iconst (v := 3) hx hb dL_law_778 (by decide) ?_
  refine lv_iadd hx hb dL_law_779 ?_
  refine va_sld hx hb hX hbl hbA hS h3 dL_law_780 ?_
  refine k_X11_pact hx hb hml hown hE hM hS w_5_217 hq2 (Nat.le_of_ble_eq_true rfl) (Nat.le_of_ble_eq_true rfl) hl.1 (Nat.le_of_ble_eq_true rfl) ⟨by show cells ≤ 600000; omega, by show slots ≤ 7302250; omega⟩ dL_law_781 (fun H locs hM hS => ?_)
  refine lv_icmp_eq (tgt := 848) hx hb dL_law_784 (by decide) (fun _ => ?_) (fun hc => absurd rfl hc)
  exact W.widen (k := cells + 1) (n := slots + 6) (by omega) (by omega) (kk G nw _ _ _ _ _ hGA hE hR hM hS hl)
set_option maxHeartbeats 4000000 in
set_option maxRecDepth 100000 in
theorem law_c21 {p : Program} {l : Launch} {e : Env} {s : State} {m : MethodId} {below : List Frame} {meth : Method} {c : Code} {b L : Nat} {xs : Nat → Int32} {fu : Nat} {Rel : Nat → Me → Me → Prop} {G : GG} {nw : Nat} {x mm : Me} {H : Heap} {locs : List Loc} {ls : Array Slot} (C0 : lw_At p s m meth c b L xs) (hO : AOs s) {a3 : Int32} (h1 : vp_in (a3 + 1) L) {cells slots : Nat} (hcs : cells + 1 ≤ 600000 ∧ slots + 6 ≤ 7302250) (hst : S2 Rel nw (f_X10_punish fu nw x (xs (a3 + 1).toNatClampNeg)) (f_X11_punish fu mm (xs (a3 + 1).toNatClampNeg))) (hGA : gA G = (fun q : Nat => s.heap.size ≤ q)) (hE : EnvP G s) (hM : MemP G nw x mm H) (hS : va_S (gA G) s.heap H locs) (hl : lv_has ls 4 [(0, .ref b), (1, .ref (ga G 0)), (2, .ref (ga G 41)), (3, .int a3)]) (kk : LwK Rel p l e s m below meth c b a3 (cells + 1) (slots + 6) 848) : W p l e room_1 s m #[Value.ref b] below meth c H locs cells slots (lw_Z below #[Value.ref b] s) (F0 m 789 ls []) := by
  obtain ⟨hx, hb, hr, hml, hown, hts, hX, hbl, hlocks, hgv⟩ := C0
  have hbA : ¬ gA G b := by rw [hGA]; exact Nat.not_le.mpr hbl
  obtain ⟨x', m', r, hq1, hq2, hR⟩ := hst
  refine lv_aload_n hx hb dL_law_789 rfl (lv_at hl 1 rfl) ?_
  refine lv_aload_n hx hb dL_law_790 rfl (lv_at hl 0 rfl) ?_
  refine lv_iload_n hx hb dL_law_791 rfl (lv_at hl 3 rfl) ?_
  refine lv_iconst (v := 1) hx hb dL_law_792 (by decide) ?_
  refine lv_iadd hx hb dL_law_793 ?_
  refine va_sld hx hb hX hbl hbA hS h1 dL_law_794 ?_
  refine k_X10_punish hx hb hml hown hE hM hS w_4_77 hq1 (Nat.le_of_ble_eq_true rfl) (Nat.le_of_ble_eq_true rfl) hl.1 (Nat.le_of_ble_eq_true rfl) ⟨by show cells ≤ 600000; omega, by show slots ≤ 7302250; omega⟩ dL_law_795 (fun H locs hM hS => ?_)
  refine lv_aload_n hx hb dL_law_798 rfl (lv_at hl 2 rfl) ?_
  refine lv_aload_n hx hb dL_law_799 rfl (lv_at hl 0 rfl) ?_
  refine lv_iload_n hx hb dL_law_800 rfl (lv_at hl 3 rfl) ?_
  refine lv_iconst (v := 1) hx hb dL_law_801 (by decide) ?_
  refine lv_iadd hx hb dL_law_802 ?_
  refine va_sld hx hb hX hbl hbA hS h1 dL_law_803 ?_
  refine k_X11_punish hx hb hml hown hE hM hS w_5_221 hq2 (Nat.le_of_ble_eq_true rfl) (Nat.le_of_ble_eq_true rfl) hl.1 (Nat.le_of_ble_eq_true rfl) ⟨by show cells ≤ 600000; omega, by show slots ≤ 7302250; omega⟩ dL_law_804 (fun H locs hM hS => ?_)
  refine lv_icmp_eq (tgt := 848) hx hb dL_law_807 (by decide) (fun _ => ?_) (fun hc => absurd rfl hc)
  exact W.widen (k := cells + 1) (n := slots + 6) (by omega) (by omega) (kk G nw _ _ _ _ _ hGA hE hR hM hS hl)
set_option maxHeartbeats 4000000 in
set_option maxRecDepth 100000 in
theorem law_c22 {p : Program} {l : Launch} {e : Env} {s : State} {m : MethodId} {below : List Frame} {meth : Method} {c : Code} {b L : Nat} {xs : Nat → Int32} {fu : Nat} {Rel : Nat → Me → Me → Prop} {G : GG} {nw : Nat} {x mm : Me} {H : Heap} {locs : List Loc} {ls : Array Slot} (C0 : lw_At p s m meth c b L xs) (hO : AOs s) {a3 : Int32} {cells slots : Nat} (hcs : cells + 1 ≤ 600000 ∧ slots + 6 ≤ 7302250) (hst : S2 Rel nw (f_X10_next fu nw x) (f_X11_next fu mm)) (hGA : gA G = (fun q : Nat => s.heap.size ≤ q)) (hE : EnvP G s) (hM : MemP G nw x mm H) (hS : va_S (gA G) s.heap H locs) (hl : lv_has ls 4 [(0, .ref b), (1, .ref (ga G 0)), (2, .ref (ga G 41)), (3, .int a3)]) (kk : LwK Rel p l e s m below meth c b a3 (cells + 1) (slots + 6) 848) : W p l e room_1 s m #[Value.ref b] below meth c H locs cells slots (lw_Z below #[Value.ref b] s) (F0 m 812 ls []) := by
  obtain ⟨hx, hb, hr, hml, hown, hts, hX, hbl, hlocks, hgv⟩ := C0
  have hbA : ¬ gA G b := by rw [hGA]; exact Nat.not_le.mpr hbl
  obtain ⟨x', m', r, hq1, hq2, hR⟩ := hst
  refine lv_aload_n hx hb dL_law_812 rfl (lv_at hl 1 rfl) ?_
  refine k_X10_next hx hb hml hown hE hM hS w_4_82 hq1 (Nat.le_of_ble_eq_true rfl) (Nat.le_of_ble_eq_true rfl) hl.1 (Nat.le_of_ble_eq_true rfl) ⟨by show cells ≤ 600000; omega, by show slots ≤ 7302250; omega⟩ dL_law_813 (fun H locs hM hS => ?_)
  refine lv_aload_n hx hb dL_law_816 rfl (lv_at hl 2 rfl) ?_
  refine k_X11_next hx hb hml hown hE hM hS w_5_225 hq2 (Nat.le_of_ble_eq_true rfl) (Nat.le_of_ble_eq_true rfl) hl.1 (Nat.le_of_ble_eq_true rfl) ⟨by show cells ≤ 600000; omega, by show slots ≤ 7302250; omega⟩ dL_law_817 (fun H locs hM hS => ?_)
  refine lv_icmp_eq (tgt := 848) hx hb dL_law_820 (by decide) (fun _ => ?_) (fun hc => absurd rfl hc)
  exact W.widen (k := cells + 1) (n := slots + 6) (by omega) (by omega) (kk G nw _ _ _ _ _ hGA hE hR hM hS hl)
set_option maxHeartbeats 4000000 in
set_option maxRecDepth 100000 in
theorem law_c23 {p : Program} {l : Launch} {e : Env} {s : State} {m : MethodId} {below : List Frame} {meth : Method} {c : Code} {b L : Nat} {xs : Nat → Int32} {fu : Nat} {Rel : Nat → Me → Me → Prop} {G : GG} {nw : Nat} {x mm : Me} {H : Heap} {locs : List Loc} {ls : Array Slot} (C0 : lw_At p s m meth c b L xs) (hO : AOs s) {a3 : Int32} (h1 : vp_in (a3 + 1) L) {cells slots : Nat} (hcs : cells + 1 ≤ 600000 ∧ slots + 6 ≤ 7302250) (hst : S2 Rel nw (f_X10_count fu nw x (xs (a3 + 1).toNatClampNeg)) (f_X11_count fu mm (xs (a3 + 1).toNatClampNeg))) (hGA : gA G = (fun q : Nat => s.heap.size ≤ q)) (hE : EnvP G s) (hM : MemP G nw x mm H) (hS : va_S (gA G) s.heap H locs) (hl : lv_has ls 4 [(0, .ref b), (1, .ref (ga G 0)), (2, .ref (ga G 41)), (3, .int a3)]) (kk : LwK Rel p l e s m below meth c b a3 (cells + 1) (slots + 6) 848) : W p l e room_1 s m #[Value.ref b] below meth c H locs cells slots (lw_Z below #[Value.ref b] s) (F0 m 825 ls []) := by
  obtain ⟨hx, hb, hr, hml, hown, hts, hX, hbl, hlocks, hgv⟩ := C0
  have hbA : ¬ gA G b := by rw [hGA]; exact Nat.not_le.mpr hbl
  obtain ⟨x', m', r, hq1, hq2, hR⟩ := hst
  refine lv_aload_n hx hb dL_law_825 rfl (lv_at hl 1 rfl) ?_
  refine lv_aload_n hx hb dL_law_826 rfl (lv_at hl 0 rfl) ?_
  refine lv_iload_n hx hb dL_law_827 rfl (lv_at hl 3 rfl) ?_
  refine lv_iconst (v := 1) hx hb dL_law_828 (by decide) ?_
  refine lv_iadd hx hb dL_law_829 ?_
  refine va_sld hx hb hX hbl hbA hS h1 dL_law_830 ?_
  refine k_X10_count hx hb hml hown hE hM hS w_4_90 hq1 (Nat.le_of_ble_eq_true rfl) (Nat.le_of_ble_eq_true rfl) hl.1 (Nat.le_of_ble_eq_true rfl) ⟨by show cells ≤ 600000; omega, by show slots ≤ 7302250; omega⟩ dL_law_831 (fun H locs hM hS => ?_)
  refine lv_aload_n hx hb dL_law_834 rfl (lv_at hl 2 rfl) ?_
  refine lv_aload_n hx hb dL_law_835 rfl (lv_at hl 0 rfl) ?_
  refine lv_iload_n hx hb dL_law_836 rfl (lv_at hl 3 rfl) ?_
  refine lv_iconst (v := 1) hx hb dL_law_837 (by decide) ?_
  refine lv_iadd hx hb dL_law_838 ?_
  refine va_sld hx hb hX hbl hbA hS h1 dL_law_839 ?_
  refine k_X11_count hx hb hml hown hE hM hS w_5_229 hq2 (Nat.le_of_ble_eq_true rfl) (Nat.le_of_ble_eq_true rfl) hl.1 (Nat.le_of_ble_eq_true rfl) ⟨by show cells ≤ 600000; omega, by show slots ≤ 7302250; omega⟩ dL_law_840 (fun H locs hM hS => ?_)
  refine lv_icmp_eq (tgt := 848) hx hb dL_law_843 (by decide) (fun _ => ?_) (fun hc => absurd rfl hc)
  exact W.widen (k := cells + 1) (n := slots + 6) (by omega) (by omega) (kk G nw _ _ _ _ _ hGA hE hR hM hS hl)
/-- what a ward's call does to both -/
def SW (Rel : Nat → Me → Me → Prop) (fu nw : Nat) (x mm : Me) : Prop := ∃ (m' : Me) (r : Int32), f_X11_ward fu mm = some (m', r) ∧ ((¬ x 13 0 < 17 ∧ r = -1 ∧ Rel nw x m') ∨ (x 13 0 = nI nw ∧ nw < 17 ∧ r = x 13 0 + 1 - 1 ∧ Rel (nw + 1) (wx x nw) m'))
set_option maxHeartbeats 4000000 in
set_option maxRecDepth 100000 in
theorem law_c4 {p : Program} {l : Launch} {e : Env} {s : State} {m : MethodId} {below : List Frame} {meth : Method} {c : Code} {b L : Nat} {xs : Nat → Int32} {fu : Nat} {Rel : Nat → Me → Me → Prop} {G : GG} {nw : Nat} {x mm : Me} {H : Heap} {locs : List Loc} {ls : Array Slot} (C0 : lw_At p s m meth c b L xs) (hO : AOs s) {a3 : Int32} {cells slots : Nat} (hcs : cells + 1 ≤ 600000 ∧ slots + 6 ≤ 7302250) (hst : SW Rel fu nw x mm) (hGA : gA G = (fun q : Nat => s.heap.size ≤ q)) (hE : EnvP G s) (hM : MemP G nw x mm H) (hS : va_S (gA G) s.heap H locs) (hl : lv_has ls 4 [(0, .ref b), (1, .ref (ga G 0)), (2, .ref (ga G 41)), (3, .int a3)]) (kk : LwK Rel p l e s m below meth c b a3 (cells + 1) (slots + 6) 848) : W p l e room_1 s m #[Value.ref b] below meth c H locs cells slots (lw_Z below #[Value.ref b] s) (F0 m 296 ls []) := by
  obtain ⟨hx, hb, hr, hml, hown, hts, hX, hbl, hlocks, hgv⟩ := C0
  have hbA : ¬ gA G b := by rw [hGA]; exact Nat.not_le.mpr hbl
  have hwl : ∀ w ∈ wsV RL 32 RX10 yX10_ward [.code yX10_ward cX10_ward 1 (some .int)], w ∈ lw_tbl ∧ goodWord w = true := List.forall_mem_cons.mpr ⟨⟨w_2_215, rfl⟩, List.forall_mem_cons.mpr ⟨⟨w_2_216, rfl⟩, List.forall_mem_cons.mpr ⟨⟨w_2_217, rfl⟩, List.forall_mem_cons.mpr ⟨⟨w_1_1, rfl⟩, List.forall_mem_cons.mpr ⟨⟨w_2_218, rfl⟩, fun _ h => absurd h List.not_mem_nil⟩⟩⟩⟩⟩
  obtain ⟨m', r, hq, ⟨hs, hr1, hR⟩ | ⟨hs, hn, hr1, hR⟩⟩ := hst
  · refine lv_aload_n hx hb dL_law_296 rfl (lv_at hl 1 rfl) ?_
    refine va_calli (va_runV (Ts := lw_tbl.filter goodWord) (C := RX10) (bytes := cX10_ward) (maxL := 1) (ret := some .int) (As := []) ⟨hx, hb, hml, hown, fun w h => ew hE (List.mem_filter.mp h).1 (List.mem_filter.mp h).2⟩ (c_X10_wardF l nw G x mm hs)
    (cwV 0 (fun w h => ew hE (List.mem_filter.mp h).1 (List.mem_filter.mp h).2) (fun w h => ⟨List.mem_filter.mpr (hwl w h), good_of_word (hwl w h).2⟩) rfl rfl rfl ⟨rfl, by decide, by decide, by decide +kernel⟩ ⟨Nat.le_of_ble_eq_true rfl, Nat.le_of_ble_eq_true rfl⟩)
    ⟨fun a U g mk q => ⟨q.1, q.2.1.calling, ⟨va_AO.moved (U := U.calling g mk a) (Vm.Alike.refl U.vm) q.2.2.1.1, va_AO.moved (U := U.calling g mk a) (Vm.Alike.refl U.vm) q.2.2.1.2⟩, q.2.2.2⟩, va_recv (ci := 10) (q0 := 0) hE.1 hM.1 rfl rfl, fun U hU hW => ⟨rfl, hE.move hW hU hS, ⟨va_AO.moved hW.alike hO.1, va_AO.moved hW.alike hO.2⟩, by rw [hU]; exact hM⟩⟩ rfl rfl hl.1 rfl (lv_room (Nat.le_of_ble_eq_true rfl)) dL_law_297 ⟨by show cells + _ ≤ 600000; omega, by show slots + _ ≤ 7302250; omega⟩) hS (fun _ _ h => h) (fun _ h => h) (fun r2 u t H locs ht _ hw hB _ _ hS => ?_)
    have hM : MemP G nw x mm H := by rw [← ht]; exact hB
    refine lv_aload_n hx hb dL_law_300 rfl (lv_at hl 2 rfl) ?_
    refine k_X11_ward hx hb hml hown hE hM hS w_5_75 hq (Nat.le_of_ble_eq_true rfl) (Nat.le_of_ble_eq_true rfl) hl.1 (Nat.le_of_ble_eq_true rfl) ⟨by show cells + _ ≤ 600000; omega, by show slots + _ ≤ 7302250; omega⟩ dL_law_301 (fun H locs hM hS => ?_)
    refine lv_icmp_eq (tgt := 848) hx hb dL_law_304 (by decide) (fun _ => ?_) (fun hc => absurd (hw.trans hr1.symm) hc)
    exact W.widen (k := cells + 1) (n := slots + 6) (by omega) (by omega) (kk G nw _ _ _ _ _ hGA hE hR hM hS hl)
  · refine lv_aload_n hx hb dL_law_296 rfl (lv_at hl 1 rfl) ?_
    refine va_calli (va_runV (Ts := lw_tbl.filter goodWord) (C := RX10) (bytes := cX10_ward) (maxL := 1) (ret := some .int) (As := []) ⟨hx, hb, hml, hown, fun w h => ew hE (List.mem_filter.mp h).1 (List.mem_filter.mp h).2⟩ (c_X10_ward l nw G x mm hs hn)
    (cwV 0 (fun w h => ew hE (List.mem_filter.mp h).1 (List.mem_filter.mp h).2) (fun w h => ⟨List.mem_filter.mpr (hwl w h), good_of_word (hwl w h).2⟩) rfl rfl rfl ⟨rfl, by decide, by decide, by decide +kernel⟩ ⟨Nat.le_of_ble_eq_true rfl, Nat.le_of_ble_eq_true rfl⟩)
    ⟨fun a U g mk q => ⟨q.1, q.2.1.calling, ⟨va_AO.moved (U := U.calling g mk a) (Vm.Alike.refl U.vm) q.2.2.1.1, va_AO.moved (U := U.calling g mk a) (Vm.Alike.refl U.vm) q.2.2.1.2⟩, q.2.2.2⟩, va_recv (ci := 10) (q0 := 0) hE.1 hM.1 rfl rfl, fun U hU hW => ⟨rfl, hE.move hW hU hS, ⟨va_AO.moved hW.alike hO.1, va_AO.moved hW.alike hO.2⟩, by rw [hU]; exact hM⟩⟩ rfl rfl hl.1 rfl (lv_room (Nat.le_of_ble_eq_true rfl)) dL_law_297 ⟨by show cells + _ ≤ 600000; omega, by show slots + _ ≤ 7302250; omega⟩) hS (fun _ _ h => h) (fun _ h => h) (fun r2 q t H locs ht _ hw hB _ _ hS => ?_)
    have hM : MemP (gw G nw q) (nw + 1) (wx x nw) mm H := by rw [← ht]; exact hB
    have hE : EnvP (gw G nw q) s := gw_E hE
    have hS : va_S (gA (gw G nw q)) s.heap H locs := hS
    rw [← gl_0 (nw := nw) (q := q), ← gl_41 (nw := nw) (q := q)] at hl
    refine lv_aload_n hx hb dL_law_300 rfl (lv_at hl 2 rfl) ?_
    refine k_X11_ward hx hb hml hown hE hM hS w_5_75 hq (Nat.le_of_ble_eq_true rfl) (Nat.le_of_ble_eq_true rfl) hl.1 (Nat.le_of_ble_eq_true rfl) ⟨by show cells + _ ≤ 600000; omega, by show slots + _ ≤ 7302250; omega⟩ dL_law_301 (fun H locs hM hS => ?_)
    refine lv_icmp_eq (tgt := 848) hx hb dL_law_304 (by decide) (fun _ => ?_) (fun hc => absurd (hw.trans hr1.symm) hc)
    exact W.widen (k := cells + 1) (n := slots + 6) (by omega) (by omega) (kk (gw G nw q) (nw + 1) _ _ _ _ _ hGA hE hR hM hS hl)
