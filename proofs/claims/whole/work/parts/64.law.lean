-- THE LAW: its rows
def R_law : String := "FleetStoresLaw"
def lw_P (b : Addr) (xs : List Int32) (args : Array Value) (s : State) : Prop := args = #[.ref b] ∧ s.IntsAt b xs ∧ xs.length ≤ 3584 ∧ (Jvm.Cond.and given_1 narrow_1).before args s = true
def lw_Q (_ : Array Value) (s : State) (o : Outcome) (t : State) : Prop := o = .returned (some (.int 1)) ∧ Framed s o t [] 600000 7302250
def lw_Z (below : List Frame) (a : Array Value) (s : State) : State → Prop := fun t => ∃ o, t.status = .running ∧ Ended t below o ∧ lw_Q a s o t
/-- the law's own end, with 1 on the stack, nothing written that was there before, its room as the claim has it -/
theorem lw_ret {p : Program} {l : Launch} {e : Env} {s : State} {m : MethodId} {below : List Frame} {meth : Method} {c : Code} {b : Nat} (hx : p.tables.exec = Jvm.exec) (hb : c.code = code) (hr : meth.sig.returnType = ret) (hlocks : meth.locks = false) {pc : Nat} {H : Heap} {ls : Array Slot} (hdg : decode code pc = .ok (.ireturn, 1)) : W p l e room_1 s m #[Value.ref b] below meth c H [] 600000 7302250 (lw_Z below #[Value.ref b] s) (F0 m pc ls [.int 1]) := by
  intro T hT X
  obtain ⟨fs, hret, hrun, hended, hW, hframe⟩ := X.leave (v := some (.int 1)) (hlocks := hlocks) (fun h => by rw [hr] at h; cases h)
  have hmeth' : T.vm.method? m = some meth := X.method'
  refine ⟨T.setFrames fs, ?_, .returned (some (.int 1)), hrun, hended, rfl, ⟨_, rfl⟩, hW, hframe⟩
  jvm_step X.here [X.here.top, hx, hb, hdg, hmeth', hr, ret, narrow_b1]
  (try refine ⟨rfl, ?_⟩); (try refine ⟨rfl, ?_⟩)
  first | (intro acts; rw [hret _ acts rfl rfl rfl]) | rw [hret _ _ rfl rfl rfl]
  exact Steps.refl _
/-- what holds at the law's entry: the machine, the code, the tables' words (any of lw_tbl by 'hts w (by decide +kernel)'), the script of L ints xs at the cell b, what the Statement gives of the start (any of its parts by flat_of_before) -/
def lw_At (p : Program) (s : State) (m : MethodId) (meth : Method) (c : Code) (b L : Nat) (xs : Nat → Int32) : Prop :=
  p.tables.exec = Jvm.exec ∧ c.code = code ∧ meth.sig.returnType = ret ∧ c.maxLocals = 4 ∧ s.vm.findClass R_law = some m.cls ∧ (∀ w ∈ lw_tbl, w.before #[Value.ref b] s = true) ∧ va_X b L xs s s.heap ∧ b < s.heap.size ∧ meth.locks = false ∧ (Jvm.Cond.and given_1 narrow_1).before #[Value.ref b] s = true ∧ meth.name = "law"
/-- what the law knows of its start: the script -/
def KL (b L h0 : Nat) (xs : Nat → Int32) : Kx := (fun below args s => lw_Z below args s, fun s args => args = #[Value.ref b] ∧ va_X b L xs s s.heap ∧ b < s.heap.size ∧ s.heap.size = h0)
abbrev Ah (h0 : Nat) : Nat → Prop := fun q => h0 ≤ q
section LROWS
variable {l : Launch} {D : va_G} {k n z : Nat} {t : TT} {I : MI} {R : MR} {J : MI} {B : MR} {pc pc' : Nat} {lv : List (Option Value)} {st : List Value} {b L h0 : Nat} {xs : Nat → Int32}
theorem V_sld {ix : Int32} {i : Nat} (d : D1 code pc .iaload pc') (hx : ix = nI i) (hi : i < L) (hL : L ≤ 3584) (kk : V l D (Ah h0) room_1 mL_law (KL b L h0 xs) k n z t I R J B pc' lv (.int (xs i) :: st)) : V l D (Ah h0) room_1 mL_law (KL b L h0 xs) k n z t I R J B pc lv (.int ix :: va_rf (some b) :: st) := by
  intro p e s m args below meth c C X H locs ls hR hS hl
  obtain ⟨d1, rfl⟩ := d
  obtain ⟨x1, x2, x3, x4⟩ := id X
  have hc : ix.toNatClampNeg = i := by rw [hx]; exact nI_clamp (by omega)
  have hin : vp_in ix L := by rw [hx]; exact nI_in hi (by omega)
  refine va_sld (A := Ah h0) C.1 C.2.1 x2 x3 (fun q => by have q : h0 ≤ b := q; omega) hS hin d1 ?_
  rw [hc]
  exact kk p e s m args below meth c C X H locs ls hR hS hl
theorem V_slen (d : D1 code pc .arraylength pc') (kk : V l D (Ah h0) room_1 mL_law (KL b L h0 xs) k n z t I R J B pc' lv (.int (nI L) :: st)) : V l D (Ah h0) room_1 mL_law (KL b L h0 xs) k n z t I R J B pc lv (va_rf (some b) :: st) := by
  intro p e s m args below meth c C X H locs ls hR hS hl
  obtain ⟨d1, rfl⟩ := d
  obtain ⟨x1, x2, x3, x4⟩ := id X
  exact va_slen (A := Ah h0) C.1 C.2.1 x2 x3 (fun q => by have q : h0 ≤ b := q; omega) hS d1 (kk p e s m args below meth c C X H locs ls hR hS hl)
theorem V_lret (d : D1 code pc .ireturn pc') (h1 : k ≤ 600000) (h2 : n ≤ 7302250) : V l D (Ah h0) room_1 mL_law (KL b L h0 xs) k n z t I R J B pc lv [.int 1] := by
  intro p e s m args below meth c C X H locs ls hR hS hl
  obtain ⟨d1, rfl⟩ := d
  obtain ⟨x1, x2, x3, x4⟩ := X
  subst x1
  refine va_forget (fun q hq => by rw [x4]; exact hS.2.2 q hq) ?_
  refine W.widen h1 h2 ?_
  exact lw_ret C.1 C.2.1 C.2.2.2.1 C.2.2.2.2.2.2.1 d1
end LROWS
theorem Ok.facts {x m z : Nat} {t : TT} {I : MI} {R : MR} {J : MI} {B : MR} (h : Ok x m z t I R J B) : (t x).1 = 12 ∧ x ≤ z := by
  obtain ⟨n, w, la, si, L, ns, sv, tn, co, ct, cc, ⟨hm, hz⟩, hX, -⟩ := h
  exact ⟨hX.hx, by omega⟩
set_option maxHeartbeats 4000000 in
theorem lw_men {l : Launch} {D : va_G} {z : Nat} {t : TT} {I : MI} {R : MR} {J : MI} {B : MR} {b L h0 x m i j : Nat} {xs : Nat → Int32} (hO : Ok x m z t I R J B) (hx : h0 ≤ x) (hi : i + 7 ≤ L) (hL : L ≤ 3584) (hj : j ≤ 512) (kk : ∀ (z : Nat) (t : TT) (I : MI) (R : MR) (J : MI) (B : MR), Ok x m z t I R J B → V l D (Ah h0) room_1 mL_law (KL b L h0 xs) (177 + 5 * (j + 1)) (20400 + 141 * (j + 1)) z t I R J B 1082 [some (va_rf (some b)), some (va_rf (some x)), some (va_rf (some m)), some (.int (nI i))] []) : V l D (Ah h0) room_1 mL_law (KL b L h0 xs) (177 + 5 * j) (20400 + 141 * j) z t I R J B 152 [some (va_rf (some b)), some (va_rf (some x)), some (va_rf (some m)), some (.int (nI i))] [] := by
  have hA : ∀ q, z ≤ q → Ah h0 q := fun q hq => by have := hO.facts.2; show h0 ≤ q; omega
  refine V_aload dL_law_152 rfl ?_
  refine V_aload dL_law_153 rfl ?_
  refine V_iload dL_law_154 rfl ?_
  refine V_const dL_law_155 ?_
  refine V_iadd dL_law_156 ?_
  refine V_sld dL_law_157 (show nI i + 1 = nI (i + 1) from nI_add i 1) (by omega) hL ?_
  refine V_aload dL_law_158 rfl ?_
  refine V_iload dL_law_159 rfl ?_
  refine V_const dL_law_160 ?_
  refine V_iadd dL_law_161 ?_
  refine V_sld dL_law_162 (show nI i + 2 = nI (i + 2) from nI_add i 2) (by omega) hL ?_
  refine V_invV (As := [_, _]) mv_X11_men lk_L_13 dL_law_163 (c := 11) (by decide) rfl rfl hO.facts.1 rfl rfl (Nat.le_of_ble_eq_true rfl) ⟨⟨by decide, by decide⟩, by show _ ≤ 600000; omega, by show _ ≤ 7302250; omega⟩ (Sem.mono (st_men hO) (fun r z t I R J B hq => ?_))
  obtain ⟨v, rfl, htm, hs⟩ := hq
  refine V_aload dL_law_166 rfl ?_
  refine V_aload dL_law_167 rfl ?_
  refine V_iload dL_law_168 rfl ?_
  refine V_const dL_law_169 ?_
  refine V_iadd dL_law_170 ?_
  refine V_sld dL_law_171 (show nI i + 1 = nI (i + 1) from nI_add i 1) (by omega) hL ?_
  refine V_aload dL_law_172 rfl ?_
  refine V_iload dL_law_173 rfl ?_
  refine V_const dL_law_174 ?_
  refine V_iadd dL_law_175 ?_
  refine V_sld dL_law_176 (show nI i + 2 = nI (i + 2) from nI_add i 2) (by omega) hL ?_
  refine V_invV (As := [_, _]) mv_X12_men lk_L_17 dL_law_177 (c := 12) (by decide) rfl rfl htm rfl rfl (Nat.le_of_ble_eq_true rfl) ⟨⟨by decide, by decide⟩, by show _ ≤ 600000; omega, by show _ ≤ 7302250; omega⟩ (Sem.mono hs (fun r z t I R J B hq => ?_))
  obtain ⟨rfl, hO2⟩ := hq
  refine V_icmp_eq dL_law_180 (fun hc180 => ?_) (fun hc180 => ?_)
  · exact V.widen (by omega) (by omega) (kk _ _ _ _ _ _ hO2)
  · exact absurd rfl hc180
set_option maxHeartbeats 4000000 in
theorem lw_rations {l : Launch} {D : va_G} {z : Nat} {t : TT} {I : MI} {R : MR} {J : MI} {B : MR} {b L h0 x m i j : Nat} {xs : Nat → Int32} (hO : Ok x m z t I R J B) (hx : h0 ≤ x) (hi : i + 7 ≤ L) (hL : L ≤ 3584) (hj : j ≤ 512) (kk : ∀ (z : Nat) (t : TT) (I : MI) (R : MR) (J : MI) (B : MR), Ok x m z t I R J B → V l D (Ah h0) room_1 mL_law (KL b L h0 xs) (177 + 5 * (j + 1)) (20400 + 141 * (j + 1)) z t I R J B 1082 [some (va_rf (some b)), some (va_rf (some x)), some (va_rf (some m)), some (.int (nI i))] []) : V l D (Ah h0) room_1 mL_law (KL b L h0 xs) (177 + 5 * j) (20400 + 141 * j) z t I R J B 185 [some (va_rf (some b)), some (va_rf (some x)), some (va_rf (some m)), some (.int (nI i))] [] := by
  have hA : ∀ q, z ≤ q → Ah h0 q := fun q hq => by have := hO.facts.2; show h0 ≤ q; omega
  refine V_aload dL_law_185 rfl ?_
  refine V_aload dL_law_186 rfl ?_
  refine V_iload dL_law_187 rfl ?_
  refine V_const dL_law_188 ?_
  refine V_iadd dL_law_189 ?_
  refine V_sld dL_law_190 (show nI i + 1 = nI (i + 1) from nI_add i 1) (by omega) hL ?_
  refine V_aload dL_law_191 rfl ?_
  refine V_iload dL_law_192 rfl ?_
  refine V_const dL_law_193 ?_
  refine V_iadd dL_law_194 ?_
  refine V_sld dL_law_195 (show nI i + 2 = nI (i + 2) from nI_add i 2) (by omega) hL ?_
  refine V_invV (As := [_, _]) mv_X11_rations lk_L_18 dL_law_196 (c := 11) (by decide) rfl rfl hO.facts.1 rfl rfl (Nat.le_of_ble_eq_true rfl) ⟨⟨by decide, by decide⟩, by show _ ≤ 600000; omega, by show _ ≤ 7302250; omega⟩ (Sem.mono (st_rations hO) (fun r z t I R J B hq => ?_))
  obtain ⟨v, rfl, htm, hs⟩ := hq
  refine V_aload dL_law_199 rfl ?_
  refine V_aload dL_law_200 rfl ?_
  refine V_iload dL_law_201 rfl ?_
  refine V_const dL_law_202 ?_
  refine V_iadd dL_law_203 ?_
  refine V_sld dL_law_204 (show nI i + 1 = nI (i + 1) from nI_add i 1) (by omega) hL ?_
  refine V_aload dL_law_205 rfl ?_
  refine V_iload dL_law_206 rfl ?_
  refine V_const dL_law_207 ?_
  refine V_iadd dL_law_208 ?_
  refine V_sld dL_law_209 (show nI i + 2 = nI (i + 2) from nI_add i 2) (by omega) hL ?_
  refine V_invV (As := [_, _]) mv_X12_rations lk_L_21 dL_law_210 (c := 12) (by decide) rfl rfl htm rfl rfl (Nat.le_of_ble_eq_true rfl) ⟨⟨by decide, by decide⟩, by show _ ≤ 600000; omega, by show _ ≤ 7302250; omega⟩ (Sem.mono hs (fun r z t I R J B hq => ?_))
  obtain ⟨rfl, hO2⟩ := hq
  refine V_icmp_eq dL_law_213 (fun hc213 => ?_) (fun hc213 => ?_)
  · exact V.widen (by omega) (by omega) (kk _ _ _ _ _ _ hO2)
  · exact absurd rfl hc213
set_option maxHeartbeats 4000000 in
theorem lw_spoils {l : Launch} {D : va_G} {z : Nat} {t : TT} {I : MI} {R : MR} {J : MI} {B : MR} {b L h0 x m i j : Nat} {xs : Nat → Int32} (hO : Ok x m z t I R J B) (hx : h0 ≤ x) (hi : i + 7 ≤ L) (hL : L ≤ 3584) (hj : j ≤ 512) (kk : ∀ (z : Nat) (t : TT) (I : MI) (R : MR) (J : MI) (B : MR), Ok x m z t I R J B → V l D (Ah h0) room_1 mL_law (KL b L h0 xs) (177 + 5 * (j + 1)) (20400 + 141 * (j + 1)) z t I R J B 1082 [some (va_rf (some b)), some (va_rf (some x)), some (va_rf (some m)), some (.int (nI i))] []) : V l D (Ah h0) room_1 mL_law (KL b L h0 xs) (177 + 5 * j) (20400 + 141 * j) z t I R J B 218 [some (va_rf (some b)), some (va_rf (some x)), some (va_rf (some m)), some (.int (nI i))] [] := by
  have hA : ∀ q, z ≤ q → Ah h0 q := fun q hq => by have := hO.facts.2; show h0 ≤ q; omega
  refine V_aload dL_law_218 rfl ?_
  refine V_aload dL_law_219 rfl ?_
  refine V_iload dL_law_220 rfl ?_
  refine V_const dL_law_221 ?_
  refine V_iadd dL_law_222 ?_
  refine V_sld dL_law_223 (show nI i + 1 = nI (i + 1) from nI_add i 1) (by omega) hL ?_
  refine V_aload dL_law_224 rfl ?_
  refine V_iload dL_law_225 rfl ?_
  refine V_const dL_law_226 ?_
  refine V_iadd dL_law_227 ?_
  refine V_sld dL_law_228 (show nI i + 2 = nI (i + 2) from nI_add i 2) (by omega) hL ?_
  refine V_aload dL_law_229 rfl ?_
  refine V_iload dL_law_230 rfl ?_
  refine V_const dL_law_231 ?_
  refine V_iadd dL_law_232 ?_
  refine V_sld dL_law_233 (show nI i + 3 = nI (i + 3) from nI_add i 3) (by omega) hL ?_
  refine V_invV (As := [_, _, _]) mv_X11_spoils lk_L_22 dL_law_234 (c := 11) (by decide) rfl rfl hO.facts.1 rfl rfl (Nat.le_of_ble_eq_true rfl) ⟨⟨by decide, by decide⟩, by show _ ≤ 600000; omega, by show _ ≤ 7302250; omega⟩ (Sem.mono (st_spoils hO) (fun r z t I R J B hq => ?_))
  obtain ⟨v, rfl, htm, hs⟩ := hq
  refine V_aload dL_law_237 rfl ?_
  refine V_aload dL_law_238 rfl ?_
  refine V_iload dL_law_239 rfl ?_
  refine V_const dL_law_240 ?_
  refine V_iadd dL_law_241 ?_
  refine V_sld dL_law_242 (show nI i + 1 = nI (i + 1) from nI_add i 1) (by omega) hL ?_
  refine V_aload dL_law_243 rfl ?_
  refine V_iload dL_law_244 rfl ?_
  refine V_const dL_law_245 ?_
  refine V_iadd dL_law_246 ?_
  refine V_sld dL_law_247 (show nI i + 2 = nI (i + 2) from nI_add i 2) (by omega) hL ?_
  refine V_aload dL_law_248 rfl ?_
  refine V_iload dL_law_249 rfl ?_
  refine V_const dL_law_250 ?_
  refine V_iadd dL_law_251 ?_
  refine V_sld dL_law_252 (show nI i + 3 = nI (i + 3) from nI_add i 3) (by omega) hL ?_
  refine V_invV (As := [_, _, _]) mv_X12_spoils lk_L_26 dL_law_253 (c := 12) (by decide) rfl rfl htm rfl rfl (Nat.le_of_ble_eq_true rfl) ⟨⟨by decide, by decide⟩, by show _ ≤ 600000; omega, by show _ ≤ 7302250; omega⟩ (Sem.mono hs (fun r z t I R J B hq => ?_))
  obtain ⟨rfl, hO2⟩ := hq
  refine V_icmp_eq dL_law_256 (fun hc256 => ?_) (fun hc256 => ?_)
  · exact V.widen (by omega) (by omega) (kk _ _ _ _ _ _ hO2)
  · exact absurd rfl hc256
set_option maxHeartbeats 4000000 in
theorem lw_way {l : Launch} {D : va_G} {z : Nat} {t : TT} {I : MI} {R : MR} {J : MI} {B : MR} {b L h0 x m i j : Nat} {xs : Nat → Int32} (hO : Ok x m z t I R J B) (hx : h0 ≤ x) (hi : i + 7 ≤ L) (hL : L ≤ 3584) (hj : j ≤ 512) (kk : ∀ (z : Nat) (t : TT) (I : MI) (R : MR) (J : MI) (B : MR), Ok x m z t I R J B → V l D (Ah h0) room_1 mL_law (KL b L h0 xs) (177 + 5 * (j + 1)) (20400 + 141 * (j + 1)) z t I R J B 1082 [some (va_rf (some b)), some (va_rf (some x)), some (va_rf (some m)), some (.int (nI i))] []) : V l D (Ah h0) room_1 mL_law (KL b L h0 xs) (177 + 5 * j) (20400 + 141 * j) z t I R J B 261 [some (va_rf (some b)), some (va_rf (some x)), some (va_rf (some m)), some (.int (nI i))] [] := by
  have hA : ∀ q, z ≤ q → Ah h0 q := fun q hq => by have := hO.facts.2; show h0 ≤ q; omega
  refine V_aload dL_law_261 rfl ?_
  refine V_aload dL_law_262 rfl ?_
  refine V_iload dL_law_263 rfl ?_
  refine V_const dL_law_264 ?_
  refine V_iadd dL_law_265 ?_
  refine V_sld dL_law_266 (show nI i + 1 = nI (i + 1) from nI_add i 1) (by omega) hL ?_
  refine V_aload dL_law_267 rfl ?_
  refine V_iload dL_law_268 rfl ?_
  refine V_const dL_law_269 ?_
  refine V_iadd dL_law_270 ?_
  refine V_sld dL_law_271 (show nI i + 2 = nI (i + 2) from nI_add i 2) (by omega) hL ?_
  refine V_aload dL_law_272 rfl ?_
  refine V_iload dL_law_273 rfl ?_
  refine V_const dL_law_274 ?_
  refine V_iadd dL_law_275 ?_
  refine V_sld dL_law_276 (show nI i + 3 = nI (i + 3) from nI_add i 3) (by omega) hL ?_
  refine V_invV (As := [_, _, _]) mv_X11_way lk_L_27 dL_law_277 (c := 11) (by decide) rfl rfl hO.facts.1 rfl rfl (Nat.le_of_ble_eq_true rfl) ⟨⟨by decide, by decide⟩, by show _ ≤ 600000; omega, by show _ ≤ 7302250; omega⟩ (Sem.mono (st_way hO) (fun r z t I R J B hq => ?_))
  obtain ⟨v, rfl, htm, hs⟩ := hq
  refine V_aload dL_law_280 rfl ?_
  refine V_aload dL_law_281 rfl ?_
  refine V_iload dL_law_282 rfl ?_
  refine V_const dL_law_283 ?_
  refine V_iadd dL_law_284 ?_
  refine V_sld dL_law_285 (show nI i + 1 = nI (i + 1) from nI_add i 1) (by omega) hL ?_
  refine V_aload dL_law_286 rfl ?_
  refine V_iload dL_law_287 rfl ?_
  refine V_const dL_law_288 ?_
  refine V_iadd dL_law_289 ?_
  refine V_sld dL_law_290 (show nI i + 2 = nI (i + 2) from nI_add i 2) (by omega) hL ?_
  refine V_aload dL_law_291 rfl ?_
  refine V_iload dL_law_292 rfl ?_
  refine V_const dL_law_293 ?_
  refine V_iadd dL_law_294 ?_
  refine V_sld dL_law_295 (show nI i + 3 = nI (i + 3) from nI_add i 3) (by omega) hL ?_
  refine V_invV (As := [_, _, _]) mv_X12_way lk_L_30 dL_law_296 (c := 12) (by decide) rfl rfl htm rfl rfl (Nat.le_of_ble_eq_true rfl) ⟨⟨by decide, by decide⟩, by show _ ≤ 600000; omega, by show _ ≤ 7302250; omega⟩ (Sem.mono hs (fun r z t I R J B hq => ?_))
  obtain ⟨rfl, hO2⟩ := hq
  refine V_icmp_eq dL_law_299 (fun hc299 => ?_) (fun hc299 => ?_)
  · exact V.widen (by omega) (by omega) (kk _ _ _ _ _ _ hO2)
  · exact absurd rfl hc299
set_option maxHeartbeats 4000000 in
theorem lw_lag {l : Launch} {D : va_G} {z : Nat} {t : TT} {I : MI} {R : MR} {J : MI} {B : MR} {b L h0 x m i j : Nat} {xs : Nat → Int32} (hO : Ok x m z t I R J B) (hx : h0 ≤ x) (hi : i + 7 ≤ L) (hL : L ≤ 3584) (hj : j ≤ 512) (kk : ∀ (z : Nat) (t : TT) (I : MI) (R : MR) (J : MI) (B : MR), Ok x m z t I R J B → V l D (Ah h0) room_1 mL_law (KL b L h0 xs) (177 + 5 * (j + 1)) (20400 + 141 * (j + 1)) z t I R J B 1082 [some (va_rf (some b)), some (va_rf (some x)), some (va_rf (some m)), some (.int (nI i))] []) : V l D (Ah h0) room_1 mL_law (KL b L h0 xs) (177 + 5 * j) (20400 + 141 * j) z t I R J B 304 [some (va_rf (some b)), some (va_rf (some x)), some (va_rf (some m)), some (.int (nI i))] [] := by
  have hA : ∀ q, z ≤ q → Ah h0 q := fun q hq => by have := hO.facts.2; show h0 ≤ q; omega
  refine V_aload dL_law_304 rfl ?_
  refine V_aload dL_law_305 rfl ?_
  refine V_iload dL_law_306 rfl ?_
  refine V_const dL_law_307 ?_
  refine V_iadd dL_law_308 ?_
  refine V_sld dL_law_309 (show nI i + 1 = nI (i + 1) from nI_add i 1) (by omega) hL ?_
  refine V_aload dL_law_310 rfl ?_
  refine V_iload dL_law_311 rfl ?_
  refine V_const dL_law_312 ?_
  refine V_iadd dL_law_313 ?_
  refine V_sld dL_law_314 (show nI i + 2 = nI (i + 2) from nI_add i 2) (by omega) hL ?_
  refine V_invV (As := [_, _]) mv_X11_lag lk_L_31 dL_law_315 (c := 11) (by decide) rfl rfl hO.facts.1 rfl rfl (Nat.le_of_ble_eq_true rfl) ⟨⟨by decide, by decide⟩, by show _ ≤ 600000; omega, by show _ ≤ 7302250; omega⟩ (Sem.mono (st_lag hO) (fun r z t I R J B hq => ?_))
  obtain ⟨v, rfl, htm, hs⟩ := hq
  refine V_aload dL_law_318 rfl ?_
  refine V_aload dL_law_319 rfl ?_
  refine V_iload dL_law_320 rfl ?_
  refine V_const dL_law_321 ?_
  refine V_iadd dL_law_322 ?_
  refine V_sld dL_law_323 (show nI i + 1 = nI (i + 1) from nI_add i 1) (by omega) hL ?_
  refine V_aload dL_law_324 rfl ?_
  refine V_iload dL_law_325 rfl ?_
  refine V_const dL_law_326 ?_
  refine V_iadd dL_law_327 ?_
  refine V_sld dL_law_328 (show nI i + 2 = nI (i + 2) from nI_add i 2) (by omega) hL ?_
  refine V_invV (As := [_, _]) mv_X12_lag lk_L_34 dL_law_329 (c := 12) (by decide) rfl rfl htm rfl rfl (Nat.le_of_ble_eq_true rfl) ⟨⟨by decide, by decide⟩, by show _ ≤ 600000; omega, by show _ ≤ 7302250; omega⟩ (Sem.mono hs (fun r z t I R J B hq => ?_))
  obtain ⟨rfl, hO2⟩ := hq
  refine V_icmp_eq dL_law_332 (fun hc332 => ?_) (fun hc332 => ?_)
  · exact V.widen (by omega) (by omega) (kk _ _ _ _ _ _ hO2)
  · exact absurd rfl hc332
set_option maxHeartbeats 4000000 in
theorem lw_buy {l : Launch} {D : va_G} {z : Nat} {t : TT} {I : MI} {R : MR} {J : MI} {B : MR} {b L h0 x m i j : Nat} {xs : Nat → Int32} (hO : Ok x m z t I R J B) (hx : h0 ≤ x) (hi : i + 7 ≤ L) (hL : L ≤ 3584) (hj : j ≤ 512) (kk : ∀ (z : Nat) (t : TT) (I : MI) (R : MR) (J : MI) (B : MR), Ok x m z t I R J B → V l D (Ah h0) room_1 mL_law (KL b L h0 xs) (177 + 5 * (j + 1)) (20400 + 141 * (j + 1)) z t I R J B 1082 [some (va_rf (some b)), some (va_rf (some x)), some (va_rf (some m)), some (.int (nI i))] []) : V l D (Ah h0) room_1 mL_law (KL b L h0 xs) (177 + 5 * j) (20400 + 141 * j) z t I R J B 337 [some (va_rf (some b)), some (va_rf (some x)), some (va_rf (some m)), some (.int (nI i))] [] := by
  have hA : ∀ q, z ≤ q → Ah h0 q := fun q hq => by have := hO.facts.2; show h0 ≤ q; omega
  refine V_aload dL_law_337 rfl ?_
  refine V_aload dL_law_338 rfl ?_
  refine V_iload dL_law_339 rfl ?_
  refine V_const dL_law_340 ?_
  refine V_iadd dL_law_341 ?_
  refine V_sld dL_law_342 (show nI i + 1 = nI (i + 1) from nI_add i 1) (by omega) hL ?_
  refine V_aload dL_law_343 rfl ?_
  refine V_iload dL_law_344 rfl ?_
  refine V_const dL_law_345 ?_
  refine V_iadd dL_law_346 ?_
  refine V_sld dL_law_347 (show nI i + 2 = nI (i + 2) from nI_add i 2) (by omega) hL ?_
  refine V_aload dL_law_348 rfl ?_
  refine V_iload dL_law_349 rfl ?_
  refine V_const dL_law_350 ?_
  refine V_iadd dL_law_351 ?_
  refine V_sld dL_law_352 (show nI i + 3 = nI (i + 3) from nI_add i 3) (by omega) hL ?_
  refine V_aload dL_law_353 rfl ?_
  refine V_iload dL_law_354 rfl ?_
  refine V_const dL_law_355 ?_
  refine V_iadd dL_law_356 ?_
  refine V_sld dL_law_357 (show nI i + 4 = nI (i + 4) from nI_add i 4) (by omega) hL ?_
  refine V_aload dL_law_358 rfl ?_
  refine V_iload dL_law_359 rfl ?_
  refine V_const dL_law_360 ?_
  refine V_iadd dL_law_361 ?_
  refine V_sld dL_law_362 (show nI i + 5 = nI (i + 5) from nI_add i 5) (by omega) hL ?_
  refine V_aload dL_law_363 rfl ?_
  refine V_iload dL_law_364 rfl ?_
  refine V_const dL_law_365 ?_
  refine V_iadd dL_law_367 ?_
  refine V_sld dL_law_368 (show nI i + 6 = nI (i + 6) from nI_add i 6) (by omega) hL ?_
  refine V_invV (As := [_, _, _, _, _, _]) mv_X11_buy lk_L_35 dL_law_369 (c := 11) (by decide) rfl rfl hO.facts.1 rfl rfl (Nat.le_of_ble_eq_true rfl) ⟨⟨by decide, by decide⟩, by show _ ≤ 600000; omega, by show _ ≤ 7302250; omega⟩ (Sem.mono (st_buy hO hA) (fun r z t I R J B hq => ?_))
  obtain ⟨v, rfl, htm, hs⟩ := hq
  refine V_aload dL_law_372 rfl ?_
  refine V_aload dL_law_373 rfl ?_
  refine V_iload dL_law_374 rfl ?_
  refine V_const dL_law_375 ?_
  refine V_iadd dL_law_376 ?_
  refine V_sld dL_law_377 (show nI i + 1 = nI (i + 1) from nI_add i 1) (by omega) hL ?_
  refine V_aload dL_law_378 rfl ?_
  refine V_iload dL_law_379 rfl ?_
  refine V_const dL_law_380 ?_
  refine V_iadd dL_law_381 ?_
  refine V_sld dL_law_382 (show nI i + 2 = nI (i + 2) from nI_add i 2) (by omega) hL ?_
  refine V_aload dL_law_383 rfl ?_
  refine V_iload dL_law_384 rfl ?_
  refine V_const dL_law_385 ?_
  refine V_iadd dL_law_386 ?_
  refine V_sld dL_law_387 (show nI i + 3 = nI (i + 3) from nI_add i 3) (by omega) hL ?_
  refine V_aload dL_law_388 rfl ?_
  refine V_iload dL_law_389 rfl ?_
  refine V_const dL_law_390 ?_
  refine V_iadd dL_law_391 ?_
  refine V_sld dL_law_392 (show nI i + 4 = nI (i + 4) from nI_add i 4) (by omega) hL ?_
  refine V_aload dL_law_393 rfl ?_
  refine V_iload dL_law_394 rfl ?_
  refine V_const dL_law_395 ?_
  refine V_iadd dL_law_396 ?_
  refine V_sld dL_law_397 (show nI i + 5 = nI (i + 5) from nI_add i 5) (by omega) hL ?_
  refine V_aload dL_law_398 rfl ?_
  refine V_iload dL_law_399 rfl ?_
  refine V_const dL_law_400 ?_
  refine V_iadd dL_law_402 ?_
  refine V_sld dL_law_403 (show nI i + 6 = nI (i + 6) from nI_add i 6) (by omega) hL ?_
  refine V_invV (As := [_, _, _, _, _, _]) mv_X12_buy lk_L_39 dL_law_404 (c := 12) (by decide) rfl rfl htm rfl rfl (Nat.le_of_ble_eq_true rfl) ⟨⟨by decide, by decide⟩, by show _ ≤ 600000; omega, by show _ ≤ 7302250; omega⟩ (Sem.mono hs (fun r z t I R J B hq => ?_))
  obtain ⟨rfl, hO2⟩ := hq
  refine V_icmp_eq dL_law_407 (fun hc407 => ?_) (fun hc407 => ?_)
  · exact V.widen (by omega) (by omega) (kk _ _ _ _ _ _ hO2)
  · exact absurd rfl hc407
set_option maxHeartbeats 4000000 in
theorem lw_send {l : Launch} {D : va_G} {z : Nat} {t : TT} {I : MI} {R : MR} {J : MI} {B : MR} {b L h0 x m i j : Nat} {xs : Nat → Int32} (hO : Ok x m z t I R J B) (hx : h0 ≤ x) (hi : i + 7 ≤ L) (hL : L ≤ 3584) (hj : j ≤ 512) (kk : ∀ (z : Nat) (t : TT) (I : MI) (R : MR) (J : MI) (B : MR), Ok x m z t I R J B → V l D (Ah h0) room_1 mL_law (KL b L h0 xs) (177 + 5 * (j + 1)) (20400 + 141 * (j + 1)) z t I R J B 1082 [some (va_rf (some b)), some (va_rf (some x)), some (va_rf (some m)), some (.int (nI i))] []) : V l D (Ah h0) room_1 mL_law (KL b L h0 xs) (177 + 5 * j) (20400 + 141 * j) z t I R J B 412 [some (va_rf (some b)), some (va_rf (some x)), some (va_rf (some m)), some (.int (nI i))] [] := by
  have hA : ∀ q, z ≤ q → Ah h0 q := fun q hq => by have := hO.facts.2; show h0 ≤ q; omega
  refine V_aload dL_law_412 rfl ?_
  refine V_aload dL_law_413 rfl ?_
  refine V_iload dL_law_414 rfl ?_
  refine V_const dL_law_415 ?_
  refine V_iadd dL_law_416 ?_
  refine V_sld dL_law_417 (show nI i + 1 = nI (i + 1) from nI_add i 1) (by omega) hL ?_
  refine V_aload dL_law_418 rfl ?_
  refine V_iload dL_law_419 rfl ?_
  refine V_const dL_law_420 ?_
  refine V_iadd dL_law_421 ?_
  refine V_sld dL_law_422 (show nI i + 2 = nI (i + 2) from nI_add i 2) (by omega) hL ?_
  refine V_aload dL_law_423 rfl ?_
  refine V_iload dL_law_424 rfl ?_
  refine V_const dL_law_425 ?_
  refine V_iadd dL_law_426 ?_
  refine V_sld dL_law_427 (show nI i + 3 = nI (i + 3) from nI_add i 3) (by omega) hL ?_
  refine V_invV (As := [_, _, _]) mv_X11_send lk_L_40 dL_law_428 (c := 11) (by decide) rfl rfl hO.facts.1 rfl rfl (Nat.le_of_ble_eq_true rfl) ⟨⟨by decide, by decide⟩, by show _ ≤ 600000; omega, by show _ ≤ 7302250; omega⟩ (Sem.mono (st_send hO hA) (fun r z t I R J B hq => ?_))
  obtain ⟨v, rfl, htm, hs⟩ := hq
  refine V_aload dL_law_431 rfl ?_
  refine V_aload dL_law_432 rfl ?_
  refine V_iload dL_law_433 rfl ?_
  refine V_const dL_law_434 ?_
  refine V_iadd dL_law_435 ?_
  refine V_sld dL_law_436 (show nI i + 1 = nI (i + 1) from nI_add i 1) (by omega) hL ?_
  refine V_aload dL_law_437 rfl ?_
  refine V_iload dL_law_438 rfl ?_
  refine V_const dL_law_439 ?_
  refine V_iadd dL_law_440 ?_
  refine V_sld dL_law_441 (show nI i + 2 = nI (i + 2) from nI_add i 2) (by omega) hL ?_
  refine V_aload dL_law_442 rfl ?_
  refine V_iload dL_law_443 rfl ?_
  refine V_const dL_law_444 ?_
  refine V_iadd dL_law_445 ?_
  refine V_sld dL_law_446 (show nI i + 3 = nI (i + 3) from nI_add i 3) (by omega) hL ?_
  refine V_invV (As := [_, _, _]) mv_X12_send lk_L_44 dL_law_447 (c := 12) (by decide) rfl rfl htm rfl rfl (Nat.le_of_ble_eq_true rfl) ⟨⟨by decide, by decide⟩, by show _ ≤ 600000; omega, by show _ ≤ 7302250; omega⟩ (Sem.mono hs (fun r z t I R J B hq => ?_))
  obtain ⟨rfl, hO2⟩ := hq
  refine V_icmp_eq dL_law_450 (fun hc450 => ?_) (fun hc450 => ?_)
  · exact V.widen (by omega) (by omega) (kk _ _ _ _ _ _ hO2)
  · exact absurd rfl hc450
set_option maxHeartbeats 4000000 in
theorem lw_week {l : Launch} {D : va_G} {z : Nat} {t : TT} {I : MI} {R : MR} {J : MI} {B : MR} {b L h0 x m i j : Nat} {xs : Nat → Int32} (hO : Ok x m z t I R J B) (hx : h0 ≤ x) (hi : i + 7 ≤ L) (hL : L ≤ 3584) (hj : j ≤ 512) (kk : ∀ (z : Nat) (t : TT) (I : MI) (R : MR) (J : MI) (B : MR), Ok x m z t I R J B → V l D (Ah h0) room_1 mL_law (KL b L h0 xs) (177 + 5 * (j + 1)) (20400 + 141 * (j + 1)) z t I R J B 1082 [some (va_rf (some b)), some (va_rf (some x)), some (va_rf (some m)), some (.int (nI i))] []) : V l D (Ah h0) room_1 mL_law (KL b L h0 xs) (177 + 5 * j) (20400 + 141 * j) z t I R J B 455 [some (va_rf (some b)), some (va_rf (some x)), some (va_rf (some m)), some (.int (nI i))] [] := by
  have hA : ∀ q, z ≤ q → Ah h0 q := fun q hq => by have := hO.facts.2; show h0 ≤ q; omega
  refine V_aload dL_law_455 rfl ?_
  refine V_invV (As := []) mv_X11_week lk_L_45 dL_law_456 (c := 11) (by decide) rfl rfl hO.facts.1 rfl rfl (Nat.le_of_ble_eq_true rfl) ⟨⟨by decide, by decide⟩, by show _ ≤ 600000; omega, by show _ ≤ 7302250; omega⟩ (Sem.mono (st_week hO hA) (fun r z t I R J B hq => ?_))
  obtain ⟨v, rfl, htm, hs⟩ := hq
  refine V_aload dL_law_459 rfl ?_
  refine V_invV (As := []) mv_X12_week lk_L_49 dL_law_460 (c := 12) (by decide) rfl rfl htm rfl rfl (Nat.le_of_ble_eq_true rfl) ⟨⟨by decide, by decide⟩, by show _ ≤ 600000; omega, by show _ ≤ 7302250; omega⟩ (Sem.mono hs (fun r z t I R J B hq => ?_))
  obtain ⟨rfl, hO2⟩ := hq
  refine V_icmp_eq dL_law_463 (fun hc463 => ?_) (fun hc463 => ?_)
  · exact V.widen (by omega) (by omega) (kk _ _ _ _ _ _ hO2)
  · exact absurd rfl hc463
set_option maxHeartbeats 4000000 in
theorem lw_lot {l : Launch} {D : va_G} {z : Nat} {t : TT} {I : MI} {R : MR} {J : MI} {B : MR} {b L h0 x m i j : Nat} {xs : Nat → Int32} (hO : Ok x m z t I R J B) (hx : h0 ≤ x) (hi : i + 7 ≤ L) (hL : L ≤ 3584) (hj : j ≤ 512) (kk : ∀ (z : Nat) (t : TT) (I : MI) (R : MR) (J : MI) (B : MR), Ok x m z t I R J B → V l D (Ah h0) room_1 mL_law (KL b L h0 xs) (177 + 5 * (j + 1)) (20400 + 141 * (j + 1)) z t I R J B 1082 [some (va_rf (some b)), some (va_rf (some x)), some (va_rf (some m)), some (.int (nI i))] []) : V l D (Ah h0) room_1 mL_law (KL b L h0 xs) (177 + 5 * j) (20400 + 141 * j) z t I R J B 468 [some (va_rf (some b)), some (va_rf (some x)), some (va_rf (some m)), some (.int (nI i))] [] := by
  have hA : ∀ q, z ≤ q → Ah h0 q := fun q hq => by have := hO.facts.2; show h0 ≤ q; omega
  refine V_aload dL_law_468 rfl ?_
  refine V_aload dL_law_469 rfl ?_
  refine V_iload dL_law_470 rfl ?_
  refine V_const dL_law_471 ?_
  refine V_iadd dL_law_472 ?_
  refine V_sld dL_law_473 (show nI i + 1 = nI (i + 1) from nI_add i 1) (by omega) hL ?_
  refine V_aload dL_law_474 rfl ?_
  refine V_iload dL_law_475 rfl ?_
  refine V_const dL_law_476 ?_
  refine V_iadd dL_law_477 ?_
  refine V_sld dL_law_478 (show nI i + 2 = nI (i + 2) from nI_add i 2) (by omega) hL ?_
  refine V_invV (As := [_, _]) mv_X11_lot lk_L_50 dL_law_479 (c := 11) (by decide) rfl rfl hO.facts.1 rfl rfl (Nat.le_of_ble_eq_true rfl) ⟨⟨by decide, by decide⟩, by show _ ≤ 600000; omega, by show _ ≤ 7302250; omega⟩ (Sem.mono (st_lot hO) (fun r z t I R J B hq => ?_))
  obtain ⟨v, rfl, htm, hs⟩ := hq
  refine V_aload dL_law_482 rfl ?_
  refine V_aload dL_law_483 rfl ?_
  refine V_iload dL_law_484 rfl ?_
  refine V_const dL_law_485 ?_
  refine V_iadd dL_law_486 ?_
  refine V_sld dL_law_487 (show nI i + 1 = nI (i + 1) from nI_add i 1) (by omega) hL ?_
  refine V_aload dL_law_488 rfl ?_
  refine V_iload dL_law_489 rfl ?_
  refine V_const dL_law_490 ?_
  refine V_iadd dL_law_491 ?_
  refine V_sld dL_law_492 (show nI i + 2 = nI (i + 2) from nI_add i 2) (by omega) hL ?_
  refine V_invV (As := [_, _]) mv_X12_lot lk_L_54 dL_law_493 (c := 12) (by decide) rfl rfl htm rfl rfl (Nat.le_of_ble_eq_true rfl) ⟨⟨by decide, by decide⟩, by show _ ≤ 600000; omega, by show _ ≤ 7302250; omega⟩ (Sem.mono hs (fun r z t I R J B hq => ?_))
  obtain ⟨rfl, hO2⟩ := hq
  refine V_icmp_eq dL_law_496 (fun hc496 => ?_) (fun hc496 => ?_)
  · exact V.widen (by omega) (by omega) (kk _ _ _ _ _ _ hO2)
  · exact absurd rfl hc496
set_option maxHeartbeats 4000000 in
theorem lw_stock {l : Launch} {D : va_G} {z : Nat} {t : TT} {I : MI} {R : MR} {J : MI} {B : MR} {b L h0 x m i j : Nat} {xs : Nat → Int32} (hO : Ok x m z t I R J B) (hx : h0 ≤ x) (hi : i + 7 ≤ L) (hL : L ≤ 3584) (hj : j ≤ 512) (kk : ∀ (z : Nat) (t : TT) (I : MI) (R : MR) (J : MI) (B : MR), Ok x m z t I R J B → V l D (Ah h0) room_1 mL_law (KL b L h0 xs) (177 + 5 * (j + 1)) (20400 + 141 * (j + 1)) z t I R J B 1082 [some (va_rf (some b)), some (va_rf (some x)), some (va_rf (some m)), some (.int (nI i))] []) : V l D (Ah h0) room_1 mL_law (KL b L h0 xs) (177 + 5 * j) (20400 + 141 * j) z t I R J B 501 [some (va_rf (some b)), some (va_rf (some x)), some (va_rf (some m)), some (.int (nI i))] [] := by
  have hA : ∀ q, z ≤ q → Ah h0 q := fun q hq => by have := hO.facts.2; show h0 ≤ q; omega
  refine V_aload dL_law_501 rfl ?_
  refine V_aload dL_law_502 rfl ?_
  refine V_iload dL_law_503 rfl ?_
  refine V_const dL_law_504 ?_
  refine V_iadd dL_law_505 ?_
  refine V_sld dL_law_506 (show nI i + 1 = nI (i + 1) from nI_add i 1) (by omega) hL ?_
  refine V_aload dL_law_507 rfl ?_
  refine V_iload dL_law_508 rfl ?_
  refine V_const dL_law_509 ?_
  refine V_iadd dL_law_510 ?_
  refine V_sld dL_law_511 (show nI i + 2 = nI (i + 2) from nI_add i 2) (by omega) hL ?_
  refine V_invV (As := [_, _]) mv_X11_stock lk_L_55 dL_law_512 (c := 11) (by decide) rfl rfl hO.facts.1 rfl rfl (Nat.le_of_ble_eq_true rfl) ⟨⟨by decide, by decide⟩, by show _ ≤ 600000; omega, by show _ ≤ 7302250; omega⟩ (Sem.mono (st_stock hO) (fun r z t I R J B hq => ?_))
  obtain ⟨v, rfl, htm, hs⟩ := hq
  refine V_aload dL_law_515 rfl ?_
  refine V_aload dL_law_516 rfl ?_
  refine V_iload dL_law_517 rfl ?_
  refine V_const dL_law_518 ?_
  refine V_iadd dL_law_519 ?_
  refine V_sld dL_law_520 (show nI i + 1 = nI (i + 1) from nI_add i 1) (by omega) hL ?_
  refine V_aload dL_law_521 rfl ?_
  refine V_iload dL_law_522 rfl ?_
  refine V_const dL_law_523 ?_
  refine V_iadd dL_law_524 ?_
  refine V_sld dL_law_525 (show nI i + 2 = nI (i + 2) from nI_add i 2) (by omega) hL ?_
  refine V_invV (As := [_, _]) mv_X12_stock lk_L_58 dL_law_526 (c := 12) (by decide) rfl rfl htm rfl rfl (Nat.le_of_ble_eq_true rfl) ⟨⟨by decide, by decide⟩, by show _ ≤ 600000; omega, by show _ ≤ 7302250; omega⟩ (Sem.mono hs (fun r z t I R J B hq => ?_))
  obtain ⟨rfl, hO2⟩ := hq
  refine V_icmp_eq dL_law_529 (fun hc529 => ?_) (fun hc529 => ?_)
  · exact V.widen (by omega) (by omega) (kk _ _ _ _ _ _ hO2)
  · exact absurd rfl hc529
set_option maxHeartbeats 4000000 in
theorem lw_open {l : Launch} {D : va_G} {z : Nat} {t : TT} {I : MI} {R : MR} {J : MI} {B : MR} {b L h0 x m i j : Nat} {xs : Nat → Int32} (hO : Ok x m z t I R J B) (hx : h0 ≤ x) (hi : i + 7 ≤ L) (hL : L ≤ 3584) (hj : j ≤ 512) (kk : ∀ (z : Nat) (t : TT) (I : MI) (R : MR) (J : MI) (B : MR), Ok x m z t I R J B → V l D (Ah h0) room_1 mL_law (KL b L h0 xs) (177 + 5 * (j + 1)) (20400 + 141 * (j + 1)) z t I R J B 1082 [some (va_rf (some b)), some (va_rf (some x)), some (va_rf (some m)), some (.int (nI i))] []) : V l D (Ah h0) room_1 mL_law (KL b L h0 xs) (177 + 5 * j) (20400 + 141 * j) z t I R J B 534 [some (va_rf (some b)), some (va_rf (some x)), some (va_rf (some m)), some (.int (nI i))] [] := by
  have hA : ∀ q, z ≤ q → Ah h0 q := fun q hq => by have := hO.facts.2; show h0 ≤ q; omega
  refine V_aload dL_law_534 rfl ?_
  refine V_aload dL_law_535 rfl ?_
  refine V_iload dL_law_536 rfl ?_
  refine V_const dL_law_537 ?_
  refine V_iadd dL_law_538 ?_
  refine V_sld dL_law_539 (show nI i + 1 = nI (i + 1) from nI_add i 1) (by omega) hL ?_
  refine V_aload dL_law_540 rfl ?_
  refine V_iload dL_law_541 rfl ?_
  refine V_const dL_law_542 ?_
  refine V_iadd dL_law_543 ?_
  refine V_sld dL_law_544 (show nI i + 2 = nI (i + 2) from nI_add i 2) (by omega) hL ?_
  refine V_invV (As := [_, _]) mv_X11_open lk_L_59 dL_law_545 (c := 11) (by decide) rfl rfl hO.facts.1 rfl rfl (Nat.le_of_ble_eq_true rfl) ⟨⟨by decide, by decide⟩, by show _ ≤ 600000; omega, by show _ ≤ 7302250; omega⟩ (Sem.mono (st_open hO) (fun r z t I R J B hq => ?_))
  obtain ⟨v, rfl, htm, hs⟩ := hq
  refine V_aload dL_law_548 rfl ?_
  refine V_aload dL_law_549 rfl ?_
  refine V_iload dL_law_550 rfl ?_
  refine V_const dL_law_551 ?_
  refine V_iadd dL_law_552 ?_
  refine V_sld dL_law_553 (show nI i + 1 = nI (i + 1) from nI_add i 1) (by omega) hL ?_
  refine V_aload dL_law_554 rfl ?_
  refine V_iload dL_law_555 rfl ?_
  refine V_const dL_law_556 ?_
  refine V_iadd dL_law_557 ?_
  refine V_sld dL_law_558 (show nI i + 2 = nI (i + 2) from nI_add i 2) (by omega) hL ?_
  refine V_invV (As := [_, _]) mv_X12_open lk_L_62 dL_law_559 (c := 12) (by decide) rfl rfl htm rfl rfl (Nat.le_of_ble_eq_true rfl) ⟨⟨by decide, by decide⟩, by show _ ≤ 600000; omega, by show _ ≤ 7302250; omega⟩ (Sem.mono hs (fun r z t I R J B hq => ?_))
  obtain ⟨rfl, hO2⟩ := hq
  refine V_icmp_eq dL_law_562 (fun hc562 => ?_) (fun hc562 => ?_)
  · exact V.widen (by omega) (by omega) (kk _ _ _ _ _ _ hO2)
  · exact absurd rfl hc562
set_option maxHeartbeats 4000000 in
theorem lw_lacks {l : Launch} {D : va_G} {z : Nat} {t : TT} {I : MI} {R : MR} {J : MI} {B : MR} {b L h0 x m i j : Nat} {xs : Nat → Int32} (hO : Ok x m z t I R J B) (hx : h0 ≤ x) (hi : i + 7 ≤ L) (hL : L ≤ 3584) (hj : j ≤ 512) (kk : ∀ (z : Nat) (t : TT) (I : MI) (R : MR) (J : MI) (B : MR), Ok x m z t I R J B → V l D (Ah h0) room_1 mL_law (KL b L h0 xs) (177 + 5 * (j + 1)) (20400 + 141 * (j + 1)) z t I R J B 1082 [some (va_rf (some b)), some (va_rf (some x)), some (va_rf (some m)), some (.int (nI i))] []) : V l D (Ah h0) room_1 mL_law (KL b L h0 xs) (177 + 5 * j) (20400 + 141 * j) z t I R J B 567 [some (va_rf (some b)), some (va_rf (some x)), some (va_rf (some m)), some (.int (nI i))] [] := by
  have hA : ∀ q, z ≤ q → Ah h0 q := fun q hq => by have := hO.facts.2; show h0 ≤ q; omega
  refine V_aload dL_law_567 rfl ?_
  refine V_aload dL_law_568 rfl ?_
  refine V_iload dL_law_569 rfl ?_
  refine V_const dL_law_570 ?_
  refine V_iadd dL_law_571 ?_
  refine V_sld dL_law_572 (show nI i + 1 = nI (i + 1) from nI_add i 1) (by omega) hL ?_
  refine V_aload dL_law_573 rfl ?_
  refine V_iload dL_law_574 rfl ?_
  refine V_const dL_law_575 ?_
  refine V_iadd dL_law_576 ?_
  refine V_sld dL_law_577 (show nI i + 2 = nI (i + 2) from nI_add i 2) (by omega) hL ?_
  refine V_invV (As := [_, _]) mv_X11_lacks lk_L_63 dL_law_578 (c := 11) (by decide) rfl rfl hO.facts.1 rfl rfl (Nat.le_of_ble_eq_true rfl) ⟨⟨by decide, by decide⟩, by show _ ≤ 600000; omega, by show _ ≤ 7302250; omega⟩ (Sem.mono (st_lacks hO) (fun r z t I R J B hq => ?_))
  obtain ⟨v, rfl, htm, hs⟩ := hq
  refine V_aload dL_law_581 rfl ?_
  refine V_aload dL_law_582 rfl ?_
  refine V_iload dL_law_583 rfl ?_
  refine V_const dL_law_584 ?_
  refine V_iadd dL_law_585 ?_
  refine V_sld dL_law_586 (show nI i + 1 = nI (i + 1) from nI_add i 1) (by omega) hL ?_
  refine V_aload dL_law_587 rfl ?_
  refine V_iload dL_law_588 rfl ?_
  refine V_const dL_law_589 ?_
  refine V_iadd dL_law_590 ?_
  refine V_sld dL_law_591 (show nI i + 2 = nI (i + 2) from nI_add i 2) (by omega) hL ?_
  refine V_invV (As := [_, _]) mv_X12_lacks lk_L_66 dL_law_592 (c := 12) (by decide) rfl rfl htm rfl rfl (Nat.le_of_ble_eq_true rfl) ⟨⟨by decide, by decide⟩, by show _ ≤ 600000; omega, by show _ ≤ 7302250; omega⟩ (Sem.mono hs (fun r z t I R J B hq => ?_))
  obtain ⟨rfl, hO2⟩ := hq
  refine V_icmp_eq dL_law_595 (fun hc595 => ?_) (fun hc595 => ?_)
  · exact V.widen (by omega) (by omega) (kk _ _ _ _ _ _ hO2)
  · exact absurd rfl hc595
set_option maxHeartbeats 4000000 in
theorem lw_known {l : Launch} {D : va_G} {z : Nat} {t : TT} {I : MI} {R : MR} {J : MI} {B : MR} {b L h0 x m i j : Nat} {xs : Nat → Int32} (hO : Ok x m z t I R J B) (hx : h0 ≤ x) (hi : i + 7 ≤ L) (hL : L ≤ 3584) (hj : j ≤ 512) (kk : ∀ (z : Nat) (t : TT) (I : MI) (R : MR) (J : MI) (B : MR), Ok x m z t I R J B → V l D (Ah h0) room_1 mL_law (KL b L h0 xs) (177 + 5 * (j + 1)) (20400 + 141 * (j + 1)) z t I R J B 1082 [some (va_rf (some b)), some (va_rf (some x)), some (va_rf (some m)), some (.int (nI i))] []) : V l D (Ah h0) room_1 mL_law (KL b L h0 xs) (177 + 5 * j) (20400 + 141 * j) z t I R J B 600 [some (va_rf (some b)), some (va_rf (some x)), some (va_rf (some m)), some (.int (nI i))] [] := by
  have hA : ∀ q, z ≤ q → Ah h0 q := fun q hq => by have := hO.facts.2; show h0 ≤ q; omega
  refine V_aload dL_law_600 rfl ?_
  refine V_aload dL_law_601 rfl ?_
  refine V_iload dL_law_602 rfl ?_
  refine V_const dL_law_603 ?_
  refine V_iadd dL_law_604 ?_
  refine V_sld dL_law_605 (show nI i + 1 = nI (i + 1) from nI_add i 1) (by omega) hL ?_
  refine V_aload dL_law_606 rfl ?_
  refine V_iload dL_law_607 rfl ?_
  refine V_const dL_law_608 ?_
  refine V_iadd dL_law_609 ?_
  refine V_sld dL_law_610 (show nI i + 2 = nI (i + 2) from nI_add i 2) (by omega) hL ?_
  refine V_aload dL_law_611 rfl ?_
  refine V_iload dL_law_612 rfl ?_
  refine V_const dL_law_613 ?_
  refine V_iadd dL_law_614 ?_
  refine V_sld dL_law_615 (show nI i + 3 = nI (i + 3) from nI_add i 3) (by omega) hL ?_
  refine V_invV (As := [_, _, _]) mv_X11_known lk_L_67 dL_law_616 (c := 11) (by decide) rfl rfl hO.facts.1 rfl rfl (Nat.le_of_ble_eq_true rfl) ⟨⟨by decide, by decide⟩, by show _ ≤ 600000; omega, by show _ ≤ 7302250; omega⟩ (Sem.mono (st_known hO) (fun r z t I R J B hq => ?_))
  obtain ⟨v, rfl, htm, hs⟩ := hq
  refine V_aload dL_law_619 rfl ?_
  refine V_aload dL_law_620 rfl ?_
  refine V_iload dL_law_621 rfl ?_
  refine V_const dL_law_622 ?_
  refine V_iadd dL_law_623 ?_
  refine V_sld dL_law_624 (show nI i + 1 = nI (i + 1) from nI_add i 1) (by omega) hL ?_
  refine V_aload dL_law_625 rfl ?_
  refine V_iload dL_law_626 rfl ?_
  refine V_const dL_law_627 ?_
  refine V_iadd dL_law_628 ?_
  refine V_sld dL_law_629 (show nI i + 2 = nI (i + 2) from nI_add i 2) (by omega) hL ?_
  refine V_aload dL_law_630 rfl ?_
  refine V_iload dL_law_631 rfl ?_
  refine V_const dL_law_632 ?_
  refine V_iadd dL_law_633 ?_
  refine V_sld dL_law_634 (show nI i + 3 = nI (i + 3) from nI_add i 3) (by omega) hL ?_
  refine V_invV (As := [_, _, _]) mv_X12_known lk_L_70 dL_law_635 (c := 12) (by decide) rfl rfl htm rfl rfl (Nat.le_of_ble_eq_true rfl) ⟨⟨by decide, by decide⟩, by show _ ≤ 600000; omega, by show _ ≤ 7302250; omega⟩ (Sem.mono hs (fun r z t I R J B hq => ?_))
  obtain ⟨rfl, hO2⟩ := hq
  refine V_icmp_eq dL_law_638 (fun hc638 => ?_) (fun hc638 => ?_)
  · exact V.widen (by omega) (by omega) (kk _ _ _ _ _ _ hO2)
  · exact absurd rfl hc638
set_option maxHeartbeats 4000000 in
theorem lw_lasts {l : Launch} {D : va_G} {z : Nat} {t : TT} {I : MI} {R : MR} {J : MI} {B : MR} {b L h0 x m i j : Nat} {xs : Nat → Int32} (hO : Ok x m z t I R J B) (hx : h0 ≤ x) (hi : i + 7 ≤ L) (hL : L ≤ 3584) (hj : j ≤ 512) (kk : ∀ (z : Nat) (t : TT) (I : MI) (R : MR) (J : MI) (B : MR), Ok x m z t I R J B → V l D (Ah h0) room_1 mL_law (KL b L h0 xs) (177 + 5 * (j + 1)) (20400 + 141 * (j + 1)) z t I R J B 1082 [some (va_rf (some b)), some (va_rf (some x)), some (va_rf (some m)), some (.int (nI i))] []) : V l D (Ah h0) room_1 mL_law (KL b L h0 xs) (177 + 5 * j) (20400 + 141 * j) z t I R J B 643 [some (va_rf (some b)), some (va_rf (some x)), some (va_rf (some m)), some (.int (nI i))] [] := by
  have hA : ∀ q, z ≤ q → Ah h0 q := fun q hq => by have := hO.facts.2; show h0 ≤ q; omega
  refine V_aload dL_law_643 rfl ?_
  refine V_aload dL_law_644 rfl ?_
  refine V_iload dL_law_645 rfl ?_
  refine V_const dL_law_646 ?_
  refine V_iadd dL_law_647 ?_
  refine V_sld dL_law_648 (show nI i + 1 = nI (i + 1) from nI_add i 1) (by omega) hL ?_
  refine V_invV (As := [_]) mv_X11_lasts lk_L_71 dL_law_649 (c := 11) (by decide) rfl rfl hO.facts.1 rfl rfl (Nat.le_of_ble_eq_true rfl) ⟨⟨by decide, by decide⟩, by show _ ≤ 600000; omega, by show _ ≤ 7302250; omega⟩ (Sem.mono (st_lasts hO) (fun r z t I R J B hq => ?_))
  obtain ⟨v, rfl, htm, hs⟩ := hq
  refine V_aload dL_law_652 rfl ?_
  refine V_aload dL_law_653 rfl ?_
  refine V_iload dL_law_654 rfl ?_
  refine V_const dL_law_655 ?_
  refine V_iadd dL_law_656 ?_
  refine V_sld dL_law_657 (show nI i + 1 = nI (i + 1) from nI_add i 1) (by omega) hL ?_
  refine V_invV (As := [_]) mv_X12_lasts lk_L_75 dL_law_658 (c := 12) (by decide) rfl rfl htm rfl rfl (Nat.le_of_ble_eq_true rfl) ⟨⟨by decide, by decide⟩, by show _ ≤ 600000; omega, by show _ ≤ 7302250; omega⟩ (Sem.mono hs (fun r z t I R J B hq => ?_))
  obtain ⟨rfl, hO2⟩ := hq
  refine V_icmp_eq dL_law_661 (fun hc661 => ?_) (fun hc661 => ?_)
  · exact V.widen (by omega) (by omega) (kk _ _ _ _ _ _ hO2)
  · exact absurd rfl hc661
set_option maxHeartbeats 4000000 in
theorem lw_feed {l : Launch} {D : va_G} {z : Nat} {t : TT} {I : MI} {R : MR} {J : MI} {B : MR} {b L h0 x m i j : Nat} {xs : Nat → Int32} (hO : Ok x m z t I R J B) (hx : h0 ≤ x) (hi : i + 7 ≤ L) (hL : L ≤ 3584) (hj : j ≤ 512) (kk : ∀ (z : Nat) (t : TT) (I : MI) (R : MR) (J : MI) (B : MR), Ok x m z t I R J B → V l D (Ah h0) room_1 mL_law (KL b L h0 xs) (177 + 5 * (j + 1)) (20400 + 141 * (j + 1)) z t I R J B 1082 [some (va_rf (some b)), some (va_rf (some x)), some (va_rf (some m)), some (.int (nI i))] []) : V l D (Ah h0) room_1 mL_law (KL b L h0 xs) (177 + 5 * j) (20400 + 141 * j) z t I R J B 666 [some (va_rf (some b)), some (va_rf (some x)), some (va_rf (some m)), some (.int (nI i))] [] := by
  have hA : ∀ q, z ≤ q → Ah h0 q := fun q hq => by have := hO.facts.2; show h0 ≤ q; omega
  refine V_aload dL_law_666 rfl ?_
  refine V_aload dL_law_667 rfl ?_
  refine V_iload dL_law_668 rfl ?_
  refine V_const dL_law_669 ?_
  refine V_iadd dL_law_670 ?_
  refine V_sld dL_law_671 (show nI i + 1 = nI (i + 1) from nI_add i 1) (by omega) hL ?_
  refine V_aload dL_law_672 rfl ?_
  refine V_iload dL_law_673 rfl ?_
  refine V_const dL_law_674 ?_
  refine V_iadd dL_law_675 ?_
  refine V_sld dL_law_676 (show nI i + 2 = nI (i + 2) from nI_add i 2) (by omega) hL ?_
  refine V_aload dL_law_677 rfl ?_
  refine V_iload dL_law_678 rfl ?_
  refine V_const dL_law_679 ?_
  refine V_iadd dL_law_680 ?_
  refine V_sld dL_law_681 (show nI i + 3 = nI (i + 3) from nI_add i 3) (by omega) hL ?_
  refine V_aload dL_law_682 rfl ?_
  refine V_iload dL_law_683 rfl ?_
  refine V_const dL_law_684 ?_
  refine V_iadd dL_law_685 ?_
  refine V_sld dL_law_686 (show nI i + 4 = nI (i + 4) from nI_add i 4) (by omega) hL ?_
  refine V_aload dL_law_687 rfl ?_
  refine V_iload dL_law_688 rfl ?_
  refine V_const dL_law_689 ?_
  refine V_iadd dL_law_690 ?_
  refine V_sld dL_law_691 (show nI i + 5 = nI (i + 5) from nI_add i 5) (by omega) hL ?_
  refine V_invV (As := [_, _, _, _, _]) mv_X11_feed lk_L_76 dL_law_692 (c := 11) (by decide) rfl rfl hO.facts.1 rfl rfl (Nat.le_of_ble_eq_true rfl) ⟨⟨by decide, by decide⟩, by show _ ≤ 600000; omega, by show _ ≤ 7302250; omega⟩ (Sem.mono (st_feed hO) (fun r z t I R J B hq => ?_))
  obtain ⟨v, rfl, htm, hs⟩ := hq
  refine V_aload dL_law_695 rfl ?_
  refine V_aload dL_law_696 rfl ?_
  refine V_iload dL_law_697 rfl ?_
  refine V_const dL_law_698 ?_
  refine V_iadd dL_law_699 ?_
  refine V_sld dL_law_700 (show nI i + 1 = nI (i + 1) from nI_add i 1) (by omega) hL ?_
  refine V_aload dL_law_701 rfl ?_
  refine V_iload dL_law_702 rfl ?_
  refine V_const dL_law_703 ?_
  refine V_iadd dL_law_704 ?_
  refine V_sld dL_law_705 (show nI i + 2 = nI (i + 2) from nI_add i 2) (by omega) hL ?_
  refine V_aload dL_law_706 rfl ?_
  refine V_iload dL_law_707 rfl ?_
  refine V_const dL_law_708 ?_
  refine V_iadd dL_law_709 ?_
  refine V_sld dL_law_710 (show nI i + 3 = nI (i + 3) from nI_add i 3) (by omega) hL ?_
  refine V_aload dL_law_711 rfl ?_
  refine V_iload dL_law_712 rfl ?_
  refine V_const dL_law_713 ?_
  refine V_iadd dL_law_714 ?_
  refine V_sld dL_law_715 (show nI i + 4 = nI (i + 4) from nI_add i 4) (by omega) hL ?_
  refine V_aload dL_law_716 rfl ?_
  refine V_iload dL_law_717 rfl ?_
  refine V_const dL_law_718 ?_
  refine V_iadd dL_law_719 ?_
  refine V_sld dL_law_720 (show nI i + 5 = nI (i + 5) from nI_add i 5) (by omega) hL ?_
  refine V_invV (As := [_, _, _, _, _]) mv_X12_feed lk_L_80 dL_law_721 (c := 12) (by decide) rfl rfl htm rfl rfl (Nat.le_of_ble_eq_true rfl) ⟨⟨by decide, by decide⟩, by show _ ≤ 600000; omega, by show _ ≤ 7302250; omega⟩ (Sem.mono hs (fun r z t I R J B hq => ?_))
  obtain ⟨rfl, hO2⟩ := hq
  refine V_icmp_eq dL_law_724 (fun hc724 => ?_) (fun hc724 => ?_)
  · exact V.widen (by omega) (by omega) (kk _ _ _ _ _ _ hO2)
  · exact absurd rfl hc724
set_option maxHeartbeats 4000000 in
theorem lw_end {l : Launch} {D : va_G} {z : Nat} {t : TT} {I : MI} {R : MR} {J : MI} {B : MR} {b L h0 x m i j : Nat} {xs : Nat → Int32} (hO : Ok x m z t I R J B) (hx : h0 ≤ x) (hi : i + 7 ≤ L) (hL : L ≤ 3584) (hj : j ≤ 512) (kk : ∀ (z : Nat) (t : TT) (I : MI) (R : MR) (J : MI) (B : MR), Ok x m z t I R J B → V l D (Ah h0) room_1 mL_law (KL b L h0 xs) (177 + 5 * (j + 1)) (20400 + 141 * (j + 1)) z t I R J B 1082 [some (va_rf (some b)), some (va_rf (some x)), some (va_rf (some m)), some (.int (nI i))] []) : V l D (Ah h0) room_1 mL_law (KL b L h0 xs) (177 + 5 * j) (20400 + 141 * j) z t I R J B 729 [some (va_rf (some b)), some (va_rf (some x)), some (va_rf (some m)), some (.int (nI i))] [] := by
  have hA : ∀ q, z ≤ q → Ah h0 q := fun q hq => by have := hO.facts.2; show h0 ≤ q; omega
  refine V_aload dL_law_729 rfl ?_
  refine V_aload dL_law_730 rfl ?_
  refine V_iload dL_law_731 rfl ?_
  refine V_const dL_law_732 ?_
  refine V_iadd dL_law_733 ?_
  refine V_sld dL_law_734 (show nI i + 1 = nI (i + 1) from nI_add i 1) (by omega) hL ?_
  refine V_invV (As := [_]) mv_X11_end lk_L_81 dL_law_735 (c := 11) (by decide) rfl rfl hO.facts.1 rfl rfl (Nat.le_of_ble_eq_true rfl) ⟨⟨by decide, by decide⟩, by show _ ≤ 600000; omega, by show _ ≤ 7302250; omega⟩ (Sem.mono (st_end hO) (fun r z t I R J B hq => ?_))
  obtain ⟨v, rfl, htm, hs⟩ := hq
  refine V_aload dL_law_738 rfl ?_
  refine V_aload dL_law_739 rfl ?_
  refine V_iload dL_law_740 rfl ?_
  refine V_const dL_law_741 ?_
  refine V_iadd dL_law_742 ?_
  refine V_sld dL_law_743 (show nI i + 1 = nI (i + 1) from nI_add i 1) (by omega) hL ?_
  refine V_invV (As := [_]) mv_X12_end lk_L_85 dL_law_744 (c := 12) (by decide) rfl rfl htm rfl rfl (Nat.le_of_ble_eq_true rfl) ⟨⟨by decide, by decide⟩, by show _ ≤ 600000; omega, by show _ ≤ 7302250; omega⟩ (Sem.mono hs (fun r z t I R J B hq => ?_))
  obtain ⟨rfl, hO2⟩ := hq
  refine V_icmp_eq dL_law_747 (fun hc747 => ?_) (fun hc747 => ?_)
  · exact V.widen (by omega) (by omega) (kk _ _ _ _ _ _ hO2)
  · exact absurd rfl hc747
set_option maxHeartbeats 4000000 in
theorem lw_fault {l : Launch} {D : va_G} {z : Nat} {t : TT} {I : MI} {R : MR} {J : MI} {B : MR} {b L h0 x m i j : Nat} {xs : Nat → Int32} (hO : Ok x m z t I R J B) (hx : h0 ≤ x) (hi : i + 7 ≤ L) (hL : L ≤ 3584) (hj : j ≤ 512) (kk : ∀ (z : Nat) (t : TT) (I : MI) (R : MR) (J : MI) (B : MR), Ok x m z t I R J B → V l D (Ah h0) room_1 mL_law (KL b L h0 xs) (177 + 5 * (j + 1)) (20400 + 141 * (j + 1)) z t I R J B 1082 [some (va_rf (some b)), some (va_rf (some x)), some (va_rf (some m)), some (.int (nI i))] []) : V l D (Ah h0) room_1 mL_law (KL b L h0 xs) (177 + 5 * j) (20400 + 141 * j) z t I R J B 752 [some (va_rf (some b)), some (va_rf (some x)), some (va_rf (some m)), some (.int (nI i))] [] := by
  have hA : ∀ q, z ≤ q → Ah h0 q := fun q hq => by have := hO.facts.2; show h0 ≤ q; omega
  refine V_aload dL_law_752 rfl ?_
  refine V_invV (As := []) mv_X11_fault lk_L_86 dL_law_753 (c := 11) (by decide) rfl rfl hO.facts.1 rfl rfl (Nat.le_of_ble_eq_true rfl) ⟨⟨by decide, by decide⟩, by show _ ≤ 600000; omega, by show _ ≤ 7302250; omega⟩ (Sem.mono (st_fault hO) (fun r z t I R J B hq => ?_))
  obtain ⟨v, rfl, htm, hs⟩ := hq
  refine V_aload dL_law_756 rfl ?_
  refine V_invV (As := []) mv_X12_fault lk_L_89 dL_law_757 (c := 12) (by decide) rfl rfl htm rfl rfl (Nat.le_of_ble_eq_true rfl) ⟨⟨by decide, by decide⟩, by show _ ≤ 600000; omega, by show _ ≤ 7302250; omega⟩ (Sem.mono hs (fun r z t I R J B hq => ?_))
  obtain ⟨rfl, hO2⟩ := hq
  refine V_icmp_eq dL_law_760 (fun hc760 => ?_) (fun hc760 => ?_)
  · exact V.widen (by omega) (by omega) (kk _ _ _ _ _ _ hO2)
  · exact absurd rfl hc760
set_option maxHeartbeats 4000000 in
theorem lw_contract {l : Launch} {D : va_G} {z : Nat} {t : TT} {I : MI} {R : MR} {J : MI} {B : MR} {b L h0 x m i j : Nat} {xs : Nat → Int32} (hO : Ok x m z t I R J B) (hx : h0 ≤ x) (hi : i + 7 ≤ L) (hL : L ≤ 3584) (hj : j ≤ 512) (kk : ∀ (z : Nat) (t : TT) (I : MI) (R : MR) (J : MI) (B : MR), Ok x m z t I R J B → V l D (Ah h0) room_1 mL_law (KL b L h0 xs) (177 + 5 * (j + 1)) (20400 + 141 * (j + 1)) z t I R J B 1082 [some (va_rf (some b)), some (va_rf (some x)), some (va_rf (some m)), some (.int (nI i))] []) : V l D (Ah h0) room_1 mL_law (KL b L h0 xs) (177 + 5 * j) (20400 + 141 * j) z t I R J B 765 [some (va_rf (some b)), some (va_rf (some x)), some (va_rf (some m)), some (.int (nI i))] [] := by
  have hA : ∀ q, z ≤ q → Ah h0 q := fun q hq => by have := hO.facts.2; show h0 ≤ q; omega
  refine V_aload dL_law_765 rfl ?_
  refine V_aload dL_law_766 rfl ?_
  refine V_iload dL_law_767 rfl ?_
  refine V_const dL_law_768 ?_
  refine V_iadd dL_law_769 ?_
  refine V_sld dL_law_770 (show nI i + 1 = nI (i + 1) from nI_add i 1) (by omega) hL ?_
  refine V_invV (As := [_]) mv_X11_contract lk_L_90 dL_law_771 (c := 11) (by decide) rfl rfl hO.facts.1 rfl rfl (Nat.le_of_ble_eq_true rfl) ⟨⟨by decide, by decide⟩, by show _ ≤ 600000; omega, by show _ ≤ 7302250; omega⟩ (Sem.mono (st_contract hO hA) (fun r z t I R J B hq => ?_))
  obtain ⟨v, rfl, htm, hs⟩ := hq
  refine V_aload dL_law_774 rfl ?_
  refine V_aload dL_law_775 rfl ?_
  refine V_iload dL_law_776 rfl ?_
  refine V_const dL_law_777 ?_
  refine V_iadd dL_law_778 ?_
  refine V_sld dL_law_779 (show nI i + 1 = nI (i + 1) from nI_add i 1) (by omega) hL ?_
  refine V_invV (As := [_]) mv_X12_contract lk_L_93 dL_law_780 (c := 12) (by decide) rfl rfl htm rfl rfl (Nat.le_of_ble_eq_true rfl) ⟨⟨by decide, by decide⟩, by show _ ≤ 600000; omega, by show _ ≤ 7302250; omega⟩ (Sem.mono hs (fun r z t I R J B hq => ?_))
  obtain ⟨rfl, hO2⟩ := hq
  refine V_icmp_eq dL_law_783 (fun hc783 => ?_) (fun hc783 => ?_)
  · exact V.widen (by omega) (by omega) (kk _ _ _ _ _ _ hO2)
  · exact absurd rfl hc783
set_option maxHeartbeats 4000000 in
theorem lw_draw {l : Launch} {D : va_G} {z : Nat} {t : TT} {I : MI} {R : MR} {J : MI} {B : MR} {b L h0 x m i j : Nat} {xs : Nat → Int32} (hO : Ok x m z t I R J B) (hx : h0 ≤ x) (hi : i + 7 ≤ L) (hL : L ≤ 3584) (hj : j ≤ 512) (kk : ∀ (z : Nat) (t : TT) (I : MI) (R : MR) (J : MI) (B : MR), Ok x m z t I R J B → V l D (Ah h0) room_1 mL_law (KL b L h0 xs) (177 + 5 * (j + 1)) (20400 + 141 * (j + 1)) z t I R J B 1082 [some (va_rf (some b)), some (va_rf (some x)), some (va_rf (some m)), some (.int (nI i))] []) : V l D (Ah h0) room_1 mL_law (KL b L h0 xs) (177 + 5 * j) (20400 + 141 * j) z t I R J B 788 [some (va_rf (some b)), some (va_rf (some x)), some (va_rf (some m)), some (.int (nI i))] [] := by
  have hA : ∀ q, z ≤ q → Ah h0 q := fun q hq => by have := hO.facts.2; show h0 ≤ q; omega
  refine V_aload dL_law_788 rfl ?_
  refine V_aload dL_law_789 rfl ?_
  refine V_iload dL_law_790 rfl ?_
  refine V_const dL_law_791 ?_
  refine V_iadd dL_law_792 ?_
  refine V_sld dL_law_793 (show nI i + 1 = nI (i + 1) from nI_add i 1) (by omega) hL ?_
  refine V_aload dL_law_794 rfl ?_
  refine V_iload dL_law_795 rfl ?_
  refine V_const dL_law_796 ?_
  refine V_iadd dL_law_797 ?_
  refine V_sld dL_law_798 (show nI i + 2 = nI (i + 2) from nI_add i 2) (by omega) hL ?_
  refine V_aload dL_law_799 rfl ?_
  refine V_iload dL_law_800 rfl ?_
  refine V_const dL_law_801 ?_
  refine V_iadd dL_law_802 ?_
  refine V_sld dL_law_803 (show nI i + 3 = nI (i + 3) from nI_add i 3) (by omega) hL ?_
  refine V_i2l dL_law_804 ?_
  refine V_const dL_law_805 ?_
  refine V_lshl dL_law_807 ?_
  refine V_aload dL_law_808 rfl ?_
  refine V_iload dL_law_809 rfl ?_
  refine V_const dL_law_810 ?_
  refine V_iadd dL_law_811 ?_
  refine V_sld dL_law_812 (show nI i + 4 = nI (i + 4) from nI_add i 4) (by omega) hL ?_
  refine V_i2l dL_law_813 ?_
  refine V_ldc2 kk_L_94 dL_law_814 ?_
  refine V_land dL_law_817 ?_
  refine V_lor dL_law_818 ?_
  refine V_invV (As := [_, _, _]) mv_X11_draw lk_L_96 dL_law_819 (c := 11) (by decide) rfl rfl hO.facts.1 rfl rfl (Nat.le_of_ble_eq_true rfl) ⟨⟨by decide, by decide⟩, by show _ ≤ 600000; omega, by show _ ≤ 7302250; omega⟩ (Sem.mono (st_draw hO) (fun r z t I R J B hq => ?_))
  obtain ⟨v, rfl, htm, hs⟩ := hq
  refine V_aload dL_law_822 rfl ?_
  refine V_aload dL_law_823 rfl ?_
  refine V_iload dL_law_824 rfl ?_
  refine V_const dL_law_825 ?_
  refine V_iadd dL_law_826 ?_
  refine V_sld dL_law_827 (show nI i + 1 = nI (i + 1) from nI_add i 1) (by omega) hL ?_
  refine V_aload dL_law_828 rfl ?_
  refine V_iload dL_law_829 rfl ?_
  refine V_const dL_law_830 ?_
  refine V_iadd dL_law_831 ?_
  refine V_sld dL_law_832 (show nI i + 2 = nI (i + 2) from nI_add i 2) (by omega) hL ?_
  refine V_aload dL_law_833 rfl ?_
  refine V_iload dL_law_834 rfl ?_
  refine V_const dL_law_835 ?_
  refine V_iadd dL_law_836 ?_
  refine V_sld dL_law_837 (show nI i + 3 = nI (i + 3) from nI_add i 3) (by omega) hL ?_
  refine V_i2l dL_law_838 ?_
  refine V_const dL_law_839 ?_
  refine V_lshl dL_law_841 ?_
  refine V_aload dL_law_842 rfl ?_
  refine V_iload dL_law_843 rfl ?_
  refine V_const dL_law_844 ?_
  refine V_iadd dL_law_845 ?_
  refine V_sld dL_law_846 (show nI i + 4 = nI (i + 4) from nI_add i 4) (by omega) hL ?_
  refine V_i2l dL_law_847 ?_
  refine V_ldc2 kk_L_94 dL_law_848 ?_
  refine V_land dL_law_851 ?_
  refine V_lor dL_law_852 ?_
  refine V_invV (As := [_, _, _]) mv_X12_draw lk_L_100 dL_law_853 (c := 12) (by decide) rfl rfl htm rfl rfl (Nat.le_of_ble_eq_true rfl) ⟨⟨by decide, by decide⟩, by show _ ≤ 600000; omega, by show _ ≤ 7302250; omega⟩ (Sem.mono hs (fun r z t I R J B hq => ?_))
  obtain ⟨rfl, hO2⟩ := hq
  refine V_icmp_eq dL_law_856 (fun hc856 => ?_) (fun hc856 => ?_)
  · exact V.widen (by omega) (by omega) (kk _ _ _ _ _ _ hO2)
  · exact absurd rfl hc856
set_option maxHeartbeats 4000000 in
theorem lw_due {l : Launch} {D : va_G} {z : Nat} {t : TT} {I : MI} {R : MR} {J : MI} {B : MR} {b L h0 x m i j : Nat} {xs : Nat → Int32} (hO : Ok x m z t I R J B) (hx : h0 ≤ x) (hi : i + 7 ≤ L) (hL : L ≤ 3584) (hj : j ≤ 512) (kk : ∀ (z : Nat) (t : TT) (I : MI) (R : MR) (J : MI) (B : MR), Ok x m z t I R J B → V l D (Ah h0) room_1 mL_law (KL b L h0 xs) (177 + 5 * (j + 1)) (20400 + 141 * (j + 1)) z t I R J B 1082 [some (va_rf (some b)), some (va_rf (some x)), some (va_rf (some m)), some (.int (nI i))] []) : V l D (Ah h0) room_1 mL_law (KL b L h0 xs) (177 + 5 * j) (20400 + 141 * j) z t I R J B 861 [some (va_rf (some b)), some (va_rf (some x)), some (va_rf (some m)), some (.int (nI i))] [] := by
  have hA : ∀ q, z ≤ q → Ah h0 q := fun q hq => by have := hO.facts.2; show h0 ≤ q; omega
  refine V_aload dL_law_861 rfl ?_
  refine V_aload dL_law_862 rfl ?_
  refine V_iload dL_law_863 rfl ?_
  refine V_const dL_law_864 ?_
  refine V_iadd dL_law_865 ?_
  refine V_sld dL_law_866 (show nI i + 1 = nI (i + 1) from nI_add i 1) (by omega) hL ?_
  refine V_invV (As := [_]) mv_X11_due lk_L_101 dL_law_867 (c := 11) (by decide) rfl rfl hO.facts.1 rfl rfl (Nat.le_of_ble_eq_true rfl) ⟨⟨by decide, by decide⟩, by show _ ≤ 600000; omega, by show _ ≤ 7302250; omega⟩ (Sem.mono (st_due hO) (fun r z t I R J B hq => ?_))
  obtain ⟨v, rfl, htm, hs⟩ := hq
  refine V_aload dL_law_870 rfl ?_
  refine V_aload dL_law_871 rfl ?_
  refine V_iload dL_law_872 rfl ?_
  refine V_const dL_law_873 ?_
  refine V_iadd dL_law_874 ?_
  refine V_sld dL_law_875 (show nI i + 1 = nI (i + 1) from nI_add i 1) (by omega) hL ?_
  refine V_invV (As := [_]) mv_X12_due lk_L_104 dL_law_876 (c := 12) (by decide) rfl rfl htm rfl rfl (Nat.le_of_ble_eq_true rfl) ⟨⟨by decide, by decide⟩, by show _ ≤ 600000; omega, by show _ ≤ 7302250; omega⟩ (Sem.mono hs (fun r z t I R J B hq => ?_))
  obtain ⟨rfl, hO2⟩ := hq
  refine V_icmp_eq dL_law_879 (fun hc879 => ?_) (fun hc879 => ?_)
  · exact V.widen (by omega) (by omega) (kk _ _ _ _ _ _ hO2)
  · exact absurd rfl hc879
set_option maxHeartbeats 4000000 in
theorem lw_owed {l : Launch} {D : va_G} {z : Nat} {t : TT} {I : MI} {R : MR} {J : MI} {B : MR} {b L h0 x m i j : Nat} {xs : Nat → Int32} (hO : Ok x m z t I R J B) (hx : h0 ≤ x) (hi : i + 7 ≤ L) (hL : L ≤ 3584) (hj : j ≤ 512) (kk : ∀ (z : Nat) (t : TT) (I : MI) (R : MR) (J : MI) (B : MR), Ok x m z t I R J B → V l D (Ah h0) room_1 mL_law (KL b L h0 xs) (177 + 5 * (j + 1)) (20400 + 141 * (j + 1)) z t I R J B 1082 [some (va_rf (some b)), some (va_rf (some x)), some (va_rf (some m)), some (.int (nI i))] []) : V l D (Ah h0) room_1 mL_law (KL b L h0 xs) (177 + 5 * j) (20400 + 141 * j) z t I R J B 884 [some (va_rf (some b)), some (va_rf (some x)), some (va_rf (some m)), some (.int (nI i))] [] := by
  have hA : ∀ q, z ≤ q → Ah h0 q := fun q hq => by have := hO.facts.2; show h0 ≤ q; omega
  refine V_aload dL_law_884 rfl ?_
  refine V_aload dL_law_885 rfl ?_
  refine V_iload dL_law_886 rfl ?_
  refine V_const dL_law_887 ?_
  refine V_iadd dL_law_888 ?_
  refine V_sld dL_law_889 (show nI i + 1 = nI (i + 1) from nI_add i 1) (by omega) hL ?_
  refine V_invV (As := [_]) mv_X11_owed lk_L_105 dL_law_890 (c := 11) (by decide) rfl rfl hO.facts.1 rfl rfl (Nat.le_of_ble_eq_true rfl) ⟨⟨by decide, by decide⟩, by show _ ≤ 600000; omega, by show _ ≤ 7302250; omega⟩ (Sem.mono (st_owed hO) (fun r z t I R J B hq => ?_))
  obtain ⟨v, rfl, htm, hs⟩ := hq
  refine V_aload dL_law_893 rfl ?_
  refine V_aload dL_law_894 rfl ?_
  refine V_iload dL_law_895 rfl ?_
  refine V_const dL_law_896 ?_
  refine V_iadd dL_law_897 ?_
  refine V_sld dL_law_898 (show nI i + 1 = nI (i + 1) from nI_add i 1) (by omega) hL ?_
  refine V_invV (As := [_]) mv_X12_owed lk_L_108 dL_law_899 (c := 12) (by decide) rfl rfl htm rfl rfl (Nat.le_of_ble_eq_true rfl) ⟨⟨by decide, by decide⟩, by show _ ≤ 600000; omega, by show _ ≤ 7302250; omega⟩ (Sem.mono hs (fun r z t I R J B hq => ?_))
  obtain ⟨rfl, hO2⟩ := hq
  refine V_icmp_eq dL_law_902 (fun hc902 => ?_) (fun hc902 => ?_)
  · exact V.widen (by omega) (by omega) (kk _ _ _ _ _ _ hO2)
  · exact absurd rfl hc902
set_option maxHeartbeats 4000000 in
theorem lw_condemned {l : Launch} {D : va_G} {z : Nat} {t : TT} {I : MI} {R : MR} {J : MI} {B : MR} {b L h0 x m i j : Nat} {xs : Nat → Int32} (hO : Ok x m z t I R J B) (hx : h0 ≤ x) (hi : i + 7 ≤ L) (hL : L ≤ 3584) (hj : j ≤ 512) (kk : ∀ (z : Nat) (t : TT) (I : MI) (R : MR) (J : MI) (B : MR), Ok x m z t I R J B → V l D (Ah h0) room_1 mL_law (KL b L h0 xs) (177 + 5 * (j + 1)) (20400 + 141 * (j + 1)) z t I R J B 1082 [some (va_rf (some b)), some (va_rf (some x)), some (va_rf (some m)), some (.int (nI i))] []) : V l D (Ah h0) room_1 mL_law (KL b L h0 xs) (177 + 5 * j) (20400 + 141 * j) z t I R J B 907 [some (va_rf (some b)), some (va_rf (some x)), some (va_rf (some m)), some (.int (nI i))] [] := by
  have hA : ∀ q, z ≤ q → Ah h0 q := fun q hq => by have := hO.facts.2; show h0 ≤ q; omega
  refine V_aload dL_law_907 rfl ?_
  refine V_aload dL_law_908 rfl ?_
  refine V_iload dL_law_909 rfl ?_
  refine V_const dL_law_910 ?_
  refine V_iadd dL_law_911 ?_
  refine V_sld dL_law_912 (show nI i + 1 = nI (i + 1) from nI_add i 1) (by omega) hL ?_
  refine V_invV (As := [_]) mv_X11_condemned lk_L_109 dL_law_913 (c := 11) (by decide) rfl rfl hO.facts.1 rfl rfl (Nat.le_of_ble_eq_true rfl) ⟨⟨by decide, by decide⟩, by show _ ≤ 600000; omega, by show _ ≤ 7302250; omega⟩ (Sem.mono (st_condemned hO) (fun r z t I R J B hq => ?_))
  obtain ⟨v, rfl, htm, hs⟩ := hq
  refine V_aload dL_law_916 rfl ?_
  refine V_aload dL_law_917 rfl ?_
  refine V_iload dL_law_918 rfl ?_
  refine V_const dL_law_919 ?_
  refine V_iadd dL_law_920 ?_
  refine V_sld dL_law_921 (show nI i + 1 = nI (i + 1) from nI_add i 1) (by omega) hL ?_
  refine V_invV (As := [_]) mv_X12_condemned lk_L_112 dL_law_922 (c := 12) (by decide) rfl rfl htm rfl rfl (Nat.le_of_ble_eq_true rfl) ⟨⟨by decide, by decide⟩, by show _ ≤ 600000; omega, by show _ ≤ 7302250; omega⟩ (Sem.mono hs (fun r z t I R J B hq => ?_))
  obtain ⟨rfl, hO2⟩ := hq
  refine V_icmp_eq dL_law_925 (fun hc925 => ?_) (fun hc925 => ?_)
  · exact V.widen (by omega) (by omega) (kk _ _ _ _ _ _ hO2)
  · exact absurd rfl hc925
set_option maxHeartbeats 4000000 in
theorem lw_survey {l : Launch} {D : va_G} {z : Nat} {t : TT} {I : MI} {R : MR} {J : MI} {B : MR} {b L h0 x m i j : Nat} {xs : Nat → Int32} (hO : Ok x m z t I R J B) (hx : h0 ≤ x) (hi : i + 7 ≤ L) (hL : L ≤ 3584) (hj : j ≤ 512) (kk : ∀ (z : Nat) (t : TT) (I : MI) (R : MR) (J : MI) (B : MR), Ok x m z t I R J B → V l D (Ah h0) room_1 mL_law (KL b L h0 xs) (177 + 5 * (j + 1)) (20400 + 141 * (j + 1)) z t I R J B 1082 [some (va_rf (some b)), some (va_rf (some x)), some (va_rf (some m)), some (.int (nI i))] []) : V l D (Ah h0) room_1 mL_law (KL b L h0 xs) (177 + 5 * j) (20400 + 141 * j) z t I R J B 930 [some (va_rf (some b)), some (va_rf (some x)), some (va_rf (some m)), some (.int (nI i))] [] := by
  have hA : ∀ q, z ≤ q → Ah h0 q := fun q hq => by have := hO.facts.2; show h0 ≤ q; omega
  refine V_aload dL_law_930 rfl ?_
  refine V_aload dL_law_931 rfl ?_
  refine V_iload dL_law_932 rfl ?_
  refine V_const dL_law_933 ?_
  refine V_iadd dL_law_934 ?_
  refine V_sld dL_law_935 (show nI i + 1 = nI (i + 1) from nI_add i 1) (by omega) hL ?_
  refine V_aload dL_law_936 rfl ?_
  refine V_iload dL_law_937 rfl ?_
  refine V_const dL_law_938 ?_
  refine V_iadd dL_law_939 ?_
  refine V_sld dL_law_940 (show nI i + 2 = nI (i + 2) from nI_add i 2) (by omega) hL ?_
  refine V_aload dL_law_941 rfl ?_
  refine V_iload dL_law_942 rfl ?_
  refine V_const dL_law_943 ?_
  refine V_iadd dL_law_944 ?_
  refine V_sld dL_law_945 (show nI i + 3 = nI (i + 3) from nI_add i 3) (by omega) hL ?_
  refine V_aload dL_law_946 rfl ?_
  refine V_iload dL_law_947 rfl ?_
  refine V_const dL_law_948 ?_
  refine V_iadd dL_law_949 ?_
  refine V_sld dL_law_950 (show nI i + 4 = nI (i + 4) from nI_add i 4) (by omega) hL ?_
  refine V_invV (As := [_, _, _, _]) mv_X11_survey lk_L_113 dL_law_951 (c := 11) (by decide) rfl rfl hO.facts.1 rfl rfl (Nat.le_of_ble_eq_true rfl) ⟨⟨by decide, by decide⟩, by show _ ≤ 600000; omega, by show _ ≤ 7302250; omega⟩ (Sem.mono (st_survey hO hA) (fun r z t I R J B hq => ?_))
  obtain ⟨v, rfl, htm, hs⟩ := hq
  refine V_aload dL_law_954 rfl ?_
  refine V_aload dL_law_955 rfl ?_
  refine V_iload dL_law_956 rfl ?_
  refine V_const dL_law_957 ?_
  refine V_iadd dL_law_958 ?_
  refine V_sld dL_law_959 (show nI i + 1 = nI (i + 1) from nI_add i 1) (by omega) hL ?_
  refine V_aload dL_law_960 rfl ?_
  refine V_iload dL_law_961 rfl ?_
  refine V_const dL_law_962 ?_
  refine V_iadd dL_law_963 ?_
  refine V_sld dL_law_964 (show nI i + 2 = nI (i + 2) from nI_add i 2) (by omega) hL ?_
  refine V_aload dL_law_965 rfl ?_
  refine V_iload dL_law_966 rfl ?_
  refine V_const dL_law_967 ?_
  refine V_iadd dL_law_968 ?_
  refine V_sld dL_law_969 (show nI i + 3 = nI (i + 3) from nI_add i 3) (by omega) hL ?_
  refine V_aload dL_law_970 rfl ?_
  refine V_iload dL_law_971 rfl ?_
  refine V_const dL_law_972 ?_
  refine V_iadd dL_law_973 ?_
  refine V_sld dL_law_974 (show nI i + 4 = nI (i + 4) from nI_add i 4) (by omega) hL ?_
  refine V_invV (As := [_, _, _, _]) mv_X12_survey lk_L_117 dL_law_975 (c := 12) (by decide) rfl rfl htm rfl rfl (Nat.le_of_ble_eq_true rfl) ⟨⟨by decide, by decide⟩, by show _ ≤ 600000; omega, by show _ ≤ 7302250; omega⟩ (Sem.mono hs (fun r z t I R J B hq => ?_))
  obtain ⟨rfl, hO2⟩ := hq
  refine V_icmp_eq dL_law_978 (fun hc978 => ?_) (fun hc978 => ?_)
  · exact V.widen (by omega) (by omega) (kk _ _ _ _ _ _ hO2)
  · exact absurd rfl hc978
set_option maxHeartbeats 4000000 in
theorem lw_balance {l : Launch} {D : va_G} {z : Nat} {t : TT} {I : MI} {R : MR} {J : MI} {B : MR} {b L h0 x m i j : Nat} {xs : Nat → Int32} (hO : Ok x m z t I R J B) (hx : h0 ≤ x) (hi : i + 7 ≤ L) (hL : L ≤ 3584) (hj : j ≤ 512) (kk : ∀ (z : Nat) (t : TT) (I : MI) (R : MR) (J : MI) (B : MR), Ok x m z t I R J B → V l D (Ah h0) room_1 mL_law (KL b L h0 xs) (177 + 5 * (j + 1)) (20400 + 141 * (j + 1)) z t I R J B 1082 [some (va_rf (some b)), some (va_rf (some x)), some (va_rf (some m)), some (.int (nI i))] []) : V l D (Ah h0) room_1 mL_law (KL b L h0 xs) (177 + 5 * j) (20400 + 141 * j) z t I R J B 983 [some (va_rf (some b)), some (va_rf (some x)), some (va_rf (some m)), some (.int (nI i))] [] := by
  have hA : ∀ q, z ≤ q → Ah h0 q := fun q hq => by have := hO.facts.2; show h0 ≤ q; omega
  refine V_aload dL_law_983 rfl ?_
  refine V_aload dL_law_984 rfl ?_
  refine V_iload dL_law_985 rfl ?_
  refine V_const dL_law_986 ?_
  refine V_iadd dL_law_987 ?_
  refine V_sld dL_law_988 (show nI i + 1 = nI (i + 1) from nI_add i 1) (by omega) hL ?_
  refine V_aload dL_law_989 rfl ?_
  refine V_iload dL_law_990 rfl ?_
  refine V_const dL_law_991 ?_
  refine V_iadd dL_law_992 ?_
  refine V_sld dL_law_993 (show nI i + 2 = nI (i + 2) from nI_add i 2) (by omega) hL ?_
  refine V_invV (As := [_, _]) mv_X11_balance lk_L_118 dL_law_994 (c := 11) (by decide) rfl rfl hO.facts.1 rfl rfl (Nat.le_of_ble_eq_true rfl) ⟨⟨by decide, by decide⟩, by show _ ≤ 600000; omega, by show _ ≤ 7302250; omega⟩ (Sem.mono (st_balance hO) (fun r z t I R J B hq => ?_))
  obtain ⟨v, rfl, htm, hs⟩ := hq
  refine V_aload dL_law_997 rfl ?_
  refine V_aload dL_law_998 rfl ?_
  refine V_iload dL_law_999 rfl ?_
  refine V_const dL_law_1000 ?_
  refine V_iadd dL_law_1001 ?_
  refine V_sld dL_law_1002 (show nI i + 1 = nI (i + 1) from nI_add i 1) (by omega) hL ?_
  refine V_aload dL_law_1003 rfl ?_
  refine V_iload dL_law_1004 rfl ?_
  refine V_const dL_law_1005 ?_
  refine V_iadd dL_law_1006 ?_
  refine V_sld dL_law_1007 (show nI i + 2 = nI (i + 2) from nI_add i 2) (by omega) hL ?_
  refine V_invV (As := [_, _]) mv_X12_balance lk_L_121 dL_law_1008 (c := 12) (by decide) rfl rfl htm rfl rfl (Nat.le_of_ble_eq_true rfl) ⟨⟨by decide, by decide⟩, by show _ ≤ 600000; omega, by show _ ≤ 7302250; omega⟩ (Sem.mono hs (fun r z t I R J B hq => ?_))
  obtain ⟨rfl, hO2⟩ := hq
  refine V_icmp_eq dL_law_1011 (fun hc1011 => ?_) (fun hc1011 => ?_)
  · exact V.widen (by omega) (by omega) (kk _ _ _ _ _ _ hO2)
  · exact absurd rfl hc1011
set_option maxHeartbeats 4000000 in
theorem lw_began {l : Launch} {D : va_G} {z : Nat} {t : TT} {I : MI} {R : MR} {J : MI} {B : MR} {b L h0 x m i j : Nat} {xs : Nat → Int32} (hO : Ok x m z t I R J B) (hx : h0 ≤ x) (hi : i + 7 ≤ L) (hL : L ≤ 3584) (hj : j ≤ 512) (kk : ∀ (z : Nat) (t : TT) (I : MI) (R : MR) (J : MI) (B : MR), Ok x m z t I R J B → V l D (Ah h0) room_1 mL_law (KL b L h0 xs) (177 + 5 * (j + 1)) (20400 + 141 * (j + 1)) z t I R J B 1082 [some (va_rf (some b)), some (va_rf (some x)), some (va_rf (some m)), some (.int (nI i))] []) : V l D (Ah h0) room_1 mL_law (KL b L h0 xs) (177 + 5 * j) (20400 + 141 * j) z t I R J B 1016 [some (va_rf (some b)), some (va_rf (some x)), some (va_rf (some m)), some (.int (nI i))] [] := by
  have hA : ∀ q, z ≤ q → Ah h0 q := fun q hq => by have := hO.facts.2; show h0 ≤ q; omega
  refine V_aload dL_law_1016 rfl ?_
  refine V_aload dL_law_1017 rfl ?_
  refine V_iload dL_law_1018 rfl ?_
  refine V_const dL_law_1019 ?_
  refine V_iadd dL_law_1020 ?_
  refine V_sld dL_law_1021 (show nI i + 1 = nI (i + 1) from nI_add i 1) (by omega) hL ?_
  refine V_aload dL_law_1022 rfl ?_
  refine V_iload dL_law_1023 rfl ?_
  refine V_const dL_law_1024 ?_
  refine V_iadd dL_law_1025 ?_
  refine V_sld dL_law_1026 (show nI i + 2 = nI (i + 2) from nI_add i 2) (by omega) hL ?_
  refine V_aload dL_law_1027 rfl ?_
  refine V_iload dL_law_1028 rfl ?_
  refine V_const dL_law_1029 ?_
  refine V_iadd dL_law_1030 ?_
  refine V_sld dL_law_1031 (show nI i + 3 = nI (i + 3) from nI_add i 3) (by omega) hL ?_
  refine V_invV (As := [_, _, _]) mv_X11_began lk_L_122 dL_law_1032 (c := 11) (by decide) rfl rfl hO.facts.1 rfl rfl (Nat.le_of_ble_eq_true rfl) ⟨⟨by decide, by decide⟩, by show _ ≤ 600000; omega, by show _ ≤ 7302250; omega⟩ (Sem.mono (st_began hO) (fun r z t I R J B hq => ?_))
  obtain ⟨v, rfl, htm, hs⟩ := hq
  refine V_aload dL_law_1035 rfl ?_
  refine V_aload dL_law_1036 rfl ?_
  refine V_iload dL_law_1037 rfl ?_
  refine V_const dL_law_1038 ?_
  refine V_iadd dL_law_1039 ?_
  refine V_sld dL_law_1040 (show nI i + 1 = nI (i + 1) from nI_add i 1) (by omega) hL ?_
  refine V_aload dL_law_1041 rfl ?_
  refine V_iload dL_law_1042 rfl ?_
  refine V_const dL_law_1043 ?_
  refine V_iadd dL_law_1044 ?_
  refine V_sld dL_law_1045 (show nI i + 2 = nI (i + 2) from nI_add i 2) (by omega) hL ?_
  refine V_aload dL_law_1046 rfl ?_
  refine V_iload dL_law_1047 rfl ?_
  refine V_const dL_law_1048 ?_
  refine V_iadd dL_law_1049 ?_
  refine V_sld dL_law_1050 (show nI i + 3 = nI (i + 3) from nI_add i 3) (by omega) hL ?_
  refine V_invV (As := [_, _, _]) mv_X12_began lk_L_125 dL_law_1051 (c := 12) (by decide) rfl rfl htm rfl rfl (Nat.le_of_ble_eq_true rfl) ⟨⟨by decide, by decide⟩, by show _ ≤ 600000; omega, by show _ ≤ 7302250; omega⟩ (Sem.mono hs (fun r z t I R J B hq => ?_))
  obtain ⟨rfl, hO2⟩ := hq
  refine V_icmp_eq dL_law_1054 (fun hc1054 => ?_) (fun hc1054 => ?_)
  · exact V.widen (by omega) (by omega) (kk _ _ _ _ _ _ hO2)
  · exact absurd rfl hc1054
set_option maxHeartbeats 4000000 in
theorem lw_count {l : Launch} {D : va_G} {z : Nat} {t : TT} {I : MI} {R : MR} {J : MI} {B : MR} {b L h0 x m i j : Nat} {xs : Nat → Int32} (hO : Ok x m z t I R J B) (hx : h0 ≤ x) (hi : i + 7 ≤ L) (hL : L ≤ 3584) (hj : j ≤ 512) (kk : ∀ (z : Nat) (t : TT) (I : MI) (R : MR) (J : MI) (B : MR), Ok x m z t I R J B → V l D (Ah h0) room_1 mL_law (KL b L h0 xs) (177 + 5 * (j + 1)) (20400 + 141 * (j + 1)) z t I R J B 1082 [some (va_rf (some b)), some (va_rf (some x)), some (va_rf (some m)), some (.int (nI i))] []) : V l D (Ah h0) room_1 mL_law (KL b L h0 xs) (177 + 5 * j) (20400 + 141 * j) z t I R J B 1059 [some (va_rf (some b)), some (va_rf (some x)), some (va_rf (some m)), some (.int (nI i))] [] := by
  have hA : ∀ q, z ≤ q → Ah h0 q := fun q hq => by have := hO.facts.2; show h0 ≤ q; omega
  refine V_aload dL_law_1059 rfl ?_
  refine V_aload dL_law_1060 rfl ?_
  refine V_iload dL_law_1061 rfl ?_
  refine V_const dL_law_1062 ?_
  refine V_iadd dL_law_1063 ?_
  refine V_sld dL_law_1064 (show nI i + 1 = nI (i + 1) from nI_add i 1) (by omega) hL ?_
  refine V_invV (As := [_]) mv_X11_count lk_L_126 dL_law_1065 (c := 11) (by decide) rfl rfl hO.facts.1 rfl rfl (Nat.le_of_ble_eq_true rfl) ⟨⟨by decide, by decide⟩, by show _ ≤ 600000; omega, by show _ ≤ 7302250; omega⟩ (Sem.mono (st_count hO) (fun r z t I R J B hq => ?_))
  obtain ⟨v, rfl, htm, hs⟩ := hq
  refine V_aload dL_law_1068 rfl ?_
  refine V_aload dL_law_1069 rfl ?_
  refine V_iload dL_law_1070 rfl ?_
  refine V_const dL_law_1071 ?_
  refine V_iadd dL_law_1072 ?_
  refine V_sld dL_law_1073 (show nI i + 1 = nI (i + 1) from nI_add i 1) (by omega) hL ?_
  refine V_invV (As := [_]) mv_X12_count lk_L_129 dL_law_1074 (c := 12) (by decide) rfl rfl htm rfl rfl (Nat.le_of_ble_eq_true rfl) ⟨⟨by decide, by decide⟩, by show _ ≤ 600000; omega, by show _ ≤ 7302250; omega⟩ (Sem.mono hs (fun r z t I R J B hq => ?_))
  obtain ⟨rfl, hO2⟩ := hq
  refine V_icmp_eq dL_law_1077 (fun hc1077 => ?_) (fun hc1077 => ?_)
  · exact V.widen (by omega) (by omega) (kk _ _ _ _ _ _ hO2)
  · exact absurd rfl hc1077
