/-! THE LAW'S BODY: one turn of its loop, case by case -/
def nwW : Nat → Prop := fun n => n ≠ 500 ∧ n ≠ 1013 ∧ n ≠ 1014
/-- the law's frame -/
def LX (k : Kx) (b L : Nat) (xs : Nat → Int32) : Prop := CX k RL cL_law 9 ∧ (kmeth k).sig.returnType = some .boolean ∧ klev k = 20 ∧ kmc k = 603072 ∧ kms k = 7202922 ∧ knw k = nwW ∧ (∀ G, kPo k (some (vI 1)) G) ∧ va_X b L xs (ks k) (ks k).heap ∧ b < (ks k).heap.size ∧ ¬ kA k b ∧ kad k 500 = b ∧ L ≤ 2048
section LXS
variable {k : Kx} {b L : Nat} {xs : Nat → Int32}
theorem LX.C (X : LX k b L xs) : CX k RL cL_law 9 := X.1
theorem LX.rt (X : LX k b L xs) : (kmeth k).sig.returnType = some .boolean := X.2.1
theorem LX.lev (X : LX k b L xs) : klev k = 20 := X.2.2.1
theorem LX.mc (X : LX k b L xs) : kmc k = 603072 := X.2.2.2.1
theorem LX.ms (X : LX k b L xs) : kms k = 7202922 := X.2.2.2.2.1
theorem LX.nw (X : LX k b L xs) : knw k = nwW := X.2.2.2.2.2.1
theorem LX.po (X : LX k b L xs) (G : GH) : kPo k (some (vI 1)) G := X.2.2.2.2.2.2.1 G
theorem LX.sx (X : LX k b L xs) : va_X b L xs (ks k) (ks k).heap := X.2.2.2.2.2.2.2.1
theorem LX.hb (X : LX k b L xs) : b < (ks k).heap.size := X.2.2.2.2.2.2.2.2.1
theorem LX.na (X : LX k b L xs) : ¬ kA k b := X.2.2.2.2.2.2.2.2.2.1
theorem LX.ad (X : LX k b L xs) : kad k 500 = b := X.2.2.2.2.2.2.2.2.2.2.1
theorem LX.hL (X : LX k b L xs) : L ≤ 2048 := X.2.2.2.2.2.2.2.2.2.2.2
end LXS
def sc (xs : Nat → Int32) (i : Int) : Int := (xs i.toNat).toInt
theorem sc_rg (xs : Nat → Int32) (i : Int) : rg (sc xs i) := ⟨Int32.le_toInt _, Int32.toInt_lt _⟩
theorem sc_ch (x : Int) : 0 ≤ x % 65536 ∧ x % 65536 < 65536 := by omega
theorem rg_L {x : Int} (h : rg x) : rgL x := by unfold rg at h; unfold rgL; omega
theorem rg_Z {x : Int} (h : x = 0 ∨ x = 1) : rg x := by unfold rg; omega
theorem cmpI_self (x : Int) : cmpI x x = 0 := by unfold cmpI; rw [if_neg (by omega), if_pos rfl]
abbrev lL (t : Int) : List (Nat × AV) := [(0, vR (some 500)), (1, vR (some 1000)), (2, vR (some 0)), (3, vR (some 100)), (4, vR (some 101)), (5, vI (4 * t))]
theorem nv_lL {nw : Nat → Prop} (h : okn nw) (t : Int) : nvA nw (lL t) := by
  obtain ⟨h0, h1, h2, h3, h4, -, -⟩ := h
  refine ⟨fun n e => ?_, fun n e => ?_, fun n e => ?_, fun n e => ?_, fun n e => ?_, fun n e => ?_, trivial⟩ <;> cases e <;> assumption
section LWR
variable {k : Kx} {b L : Nat} {xs : Nat → Int32} {own : String} {cc : ByteArray} {nL : Nat} {pc q tgt : Nat} {lv lv' : List (Nat × AV)} {st st' : List AV} {G G' : GH} {ct sl : Nat}
theorem ad_500 (X : LX k b L xs) {ad : Nat → Nat} {H : Heap} {locs : List Loc} (hM : MS k ad G H locs) : ad 500 = b := by
  rw [hM.2.2.2.1 500 (by rw [X.nw]; unfold nwW; decide), X.ad]
theorem ev_sld {i : Int} (X : LX k b L xs) (hd : decode cL_law pc = .ok (.iaload, 1)) (hq : pc + 1 = q) (h0 : 0 ≤ i ∧ i < (L : Int)) (kk : EV k q lv (vI (sc xs i) :: st) G ct sl) : EV k pc lv (vI i :: vR (some 500) :: st) G ct sl := by
  subst hq
  have hL := X.hL
  have hr : rg i := by unfold rg; omega
  intro hO ad H locs ls hM hl
  have hO' : OKS G lv (vI (sc xs i) :: st) := oks_push (okv_I _) (oks_pop1 (oks_pop1 hO))
  have hk := kk hO' ad H locs ls hM hl
  have e : ad 500 = b := ad_500 X hM
  show WK k H locs ct sl pc ls (.int (iI i) :: .ref (ad 500) :: st.map (cv ad))
  rw [e]
  have e2 : (iI i).toNatClampNeg = i.toNat := iI_nat hr h0.1
  refine va_sld (L := L) (xs := xs) X.C.1 X.C.2.1 X.sx X.hb X.na hM.2.2.2.2.2 (iI_in hr h0.1 h0.2) hd ?_
  rw [e2]
  have e3 : iI (sc xs i) = xs i.toNat := iI_of _
  rw [← e3]
  exact hk
theorem ev_slen (X : LX k b L xs) (hd : decode cL_law pc = .ok (.arraylength, 1)) (hq : pc + 1 = q) (kk : EV k q lv (vI (L : Int) :: st) G ct sl) : EV k pc lv (vR (some 500) :: st) G ct sl := by
  subst hq
  intro hO ad H locs ls hM hl
  have hO' : OKS G lv (vI (L : Int) :: st) := oks_push (okv_I _) (oks_pop1 hO)
  have hk := kk hO' ad H locs ls hM hl
  have e : ad 500 = b := ad_500 X hM
  show WK k H locs ct sl pc ls (.ref (ad 500) :: st.map (cv ad))
  rw [e]
  refine va_slen (L := L) (xs := xs) X.C.1 X.C.2.1 X.sx X.hb X.na hM.2.2.2.2.2 hd ?_
  exact hk
theorem ev_tab {dflt lo hi x off : Int} {offs : Array Int} {len : Nat} (C : CX k own cc nL) (hd : decode cc pc = .ok (.tableswitch dflt lo hi offs, len)) (hx : rg x) (h1 : lo ≤ x) (h2 : x ≤ hi) (ho : offs[(x - lo).toNat]? = some off) (ht : (pc : Int) + off = (tgt : Int)) (kk : EV k tgt lv st G ct sl) : EV k pc lv (vI x :: st) G ct sl :=
  ev_mk oks_pop1 kk fun ad H locs ls hl go => lv_tableIn C.1 C.2.1 hd (by rw [iI_toInt hx]; omega) (by rw [iI_toInt hx]; omega) (by rw [iI_toInt hx]; exact ho) ht (go ls hl)
theorem ev_cH {y : MethodName} {bytes : ByteArray} {maxL lev mc ms index na : Nat} {ret : Option FieldType} {hh : List (Nat × Nat × Nat × Nat)} {nwc : Nat → Prop} {As : List AV} {r : Option AV} {G1 : GH} {st0 : List AV} {t : Int} (X : LX k b L xs) (hd : decode cL_law pc = .ok (.invokestatic index, 3)) (hq : pc + 3 = q)
    (Mk : MLk RL index y na) (Ms : Cond.static y ∈ lw_good) (hcode : Cond.codeWith y bytes maxL ret hh ∈ lw_good) (M : Cn y (wsh y bytes maxL ret hh) lev mc ms nwc As G (.inl (r, G1))) (hst : st0 = As.reverse ++ []) (hna : As.length = na)
    (hlev : lev < 20) (hml : maxL ≤ 41) (hct : ct + mc ≤ 603072) (hsl : sl + ms ≤ 7202922) (hn : okn nwc) (kk : EV k q (lL t) (stk r []) G1 (ct + mc) (sl + ms)) : EV k pc (lL t) st0 G ct sl :=
  ev_callH X.C hd hq Mk Ms hcode M hst hna (by rw [X.lev]; exact hlev) hml (Nat.zero_le _) (by rw [X.mc]; exact hct) (by rw [X.ms]; exact hsl) (fun m hm => by
    rw [X.nw]
    obtain ⟨-, -, -, h3, -, h5, h6⟩ := hn
    exact ⟨fun e => h3 (e ▸ hm), fun e => h5 (e ▸ hm), fun e => h6 (e ▸ hm)⟩) (nvA_m (nv_lL hn t)) (fun v hv => nomatch hv) (fun E G' h => nomatch h) (fun r' G' h => by cases h; rw [stk_eq]; exact kk)
end LWR

set_option maxHeartbeats 4000000 in
set_option maxRecDepth 20000 in
theorem cs_0 {k : Kx} {b L : Nat} {xs : Nat → Int32} {t : Int} {u v : SS} {p : Nat → Int} {q : Nat → UInt64} {ct sl : Nat} (X : LX k b L xs) (S : SIM t u v) (hi : 4 * t + 4 ≤ (L : Int)) (hct : ct + 40 ≤ 603072) (hsl : sl + 2500 ≤ 7202922) (kk : ∀ (u2 v2 : SS) (p2 : Nat → Int) (q2 : Nat → UInt64), SIM (t + 1) u2 v2 → EV k 1792 (lL t) [] (mk u2 v2 (gO p2 q2)) (ct + 40) (sl + 2500)) : EV k 188 (lL t) [] (mk u v (gO p q)) ct sl := by
  have hT := S.1
  have hL := X.hL
  have C := X.C
  obtain ⟨kx, x, u2, v2, p2, mc, ms, l, nw, ⟨⟨h1, h2, h3, h4⟩, h5, h6, h7, h8, h9⟩, M1, M2⟩ := st_addService (p := p) (q := q) (a := (sc xs (4 * t + 1))) (b := ((sc xs (4 * t + 2)) % 65536)) (c := (sc xs (4 * t + 3))) S (by omega) (sc_rg _ _) (sc_ch _) (sc_rg _ _)
  have hk : rg kx := by unfold rg; omega
  refine ev_s C dL_law_188 (q := 189) rfl rfl ?_
  refine ev_s C dL_law_189 (q := 190) rfl rfl ?_
  refine ev_s C dL_law_190 (q := 192) rfl rfl ?_
  refine ev_s C dL_law_192 (q := 193) rfl rfl ?_
  refine ev_s C dL_law_193 (q := 194) rfl rfl ?_
  refine ev_sld X dL_law_194 (q := 195) rfl (by omega) ?_
  refine ev_s C dL_law_195 (q := 196) rfl rfl ?_
  refine ev_s C dL_law_196 (q := 198) rfl rfl ?_
  refine ev_s C dL_law_198 (q := 199) rfl rfl ?_
  refine ev_s C dL_law_199 (q := 200) rfl rfl ?_
  refine ev_sld X dL_law_200 (q := 201) rfl (by omega) ?_
  refine ev_i2c C dL_law_201 (q := 202) rfl ?_
  refine ev_s C dL_law_202 (q := 203) rfl rfl ?_
  refine ev_s C dL_law_203 (q := 205) rfl rfl ?_
  refine ev_s C dL_law_205 (q := 206) rfl rfl ?_
  refine ev_s C dL_law_206 (q := 207) rfl rfl ?_
  refine ev_sld X dL_law_207 (q := 208) rfl (by omega) ?_
  refine ev_s C dL_law_208 (q := 209) rfl rfl ?_
  refine ev_cH X dL_law_209 (q := 212) rfl km_L_110 ks_L_addService kh_L_addService M1 rfl rfl (by decide) (by decide) (by omega) (by omega) h4 ?_
  refine ev_s C dL_law_212 (q := 214) rfl rfl ?_
  refine ev_s C dL_law_214 (q := 215) rfl rfl ?_
  refine ev_s C dL_law_215 (q := 216) rfl rfl ?_
  refine ev_s C dL_law_216 (q := 218) rfl rfl ?_
  refine ev_s C dL_law_218 (q := 219) rfl rfl ?_
  refine ev_s C dL_law_219 (q := 220) rfl rfl ?_
  refine ev_sld X dL_law_220 (q := 221) rfl (by omega) ?_
  refine ev_s C dL_law_221 (q := 222) rfl rfl ?_
  refine ev_s C dL_law_222 (q := 224) rfl rfl ?_
  refine ev_s C dL_law_224 (q := 225) rfl rfl ?_
  refine ev_s C dL_law_225 (q := 226) rfl rfl ?_
  refine ev_sld X dL_law_226 (q := 227) rfl (by omega) ?_
  refine ev_i2c C dL_law_227 (q := 228) rfl ?_
  refine ev_s C dL_law_228 (q := 229) rfl rfl ?_
  refine ev_s C dL_law_229 (q := 231) rfl rfl ?_
  refine ev_s C dL_law_231 (q := 232) rfl rfl ?_
  refine ev_s C dL_law_232 (q := 233) rfl rfl ?_
  refine ev_sld X dL_law_233 (q := 234) rfl (by omega) ?_
  refine ev_cV C dL_law_234 (q := 237) rfl km_L_115 kv_X7_addService kc_X7_addService M2 (st := []) rfl rfl vcX7 go_0 (by rw [X.lev]; omega) (by decide) (by decide) (by rw [X.mc]; omega) (by rw [X.ms]; omega) ?_
  refine ev_s C dL_law_237 (q := 239) rfl rfl ?_
  refine ev_s C dL_law_239 (q := 240) rfl rfl ?_
  refine ev_cV C dL_law_240 (q := 243) rfl km_L_116 kv_X7_thrown kc_X7_thrown c_X7_thrown (st := []) rfl rfl vcX7 go_0 (by rw [X.lev]; decide) (by decide) (by decide) (by rw [X.mc]; omega) (by rw [X.ms]; omega) ?_
  refine ev_eqS (st := [vI kx]) (by rw [h8]; rfl) ?_
  refine ev_s C dL_law_243 (q := 245) rfl rfl ?_
  refine ev_icmp_eq C dL_law_245 (tgt := 250) (q := 248) (by decide) rfl hk hk (fun _ => ?_) (fun h => absurd rfl h)
  refine ev_s C dL_law_250 (q := 252) rfl rfl ?_
  refine ev_if_ne C dL_law_252 (tgt := 267) (q := 255) (by decide) rfl hk (fun e0 => ?_) (fun e0 => ?_)
  · refine ev_goto C dL_law_267 (tgt := 1792) (by decide) ?_
    exact ev_wide (by omega) (by omega) (ev_keep [0, 1, 2, 3, 4, 5] rfl (kk _ _ _ _ h9))
  · refine ev_s C dL_law_255 (q := 256) rfl rfl ?_
    refine ev_s C dL_law_256 (q := 257) rfl rfl ?_
    refine ev_lald (n := 100) (len := 1) (f := fun j => vL (p2 j)) C dL_law_257 (q := 258) rfl rfl rg_0 (by decide) (by decide) ?_
    refine ev_eqS (st := [vL x]) (by rw [← h7 e0]; rfl) ?_
    refine ev_s C dL_law_258 (q := 260) rfl rfl ?_
    refine ev_i2l C dL_law_260 (q := 261) rfl h6 ?_
    refine ev_lcmp C dL_law_261 (q := 262) rfl (rg_L h6) (rg_L h6) ?_
    refine ev_eqS (st := [vI 0]) (by first | rw [cmpI_self] | rfl) ?_
    refine ev_if_eq C dL_law_262 (tgt := 267) (q := 265) (by decide) rfl rg_0 (fun _ => ?_) (fun h => absurd rfl h)
    refine ev_goto C dL_law_267 (tgt := 1792) (by decide) ?_
    exact ev_wide (by omega) (by omega) (ev_keep [0, 1, 2, 3, 4, 5] rfl (kk _ _ _ _ h9))
set_option maxHeartbeats 4000000 in
set_option maxRecDepth 20000 in
theorem cs_1 {k : Kx} {b L : Nat} {xs : Nat → Int32} {t : Int} {u v : SS} {p : Nat → Int} {q : Nat → UInt64} {ct sl : Nat} (X : LX k b L xs) (S : SIM t u v) (hi : 4 * t + 4 ≤ (L : Int)) (hct : ct + 40 ≤ 603072) (hsl : sl + 2500 ≤ 7202922) (kk : ∀ (u2 v2 : SS) (p2 : Nat → Int) (q2 : Nat → UInt64), SIM (t + 1) u2 v2 → EV k 1792 (lL t) [] (mk u2 v2 (gO p2 q2)) (ct + 40) (sl + 2500)) : EV k 270 (lL t) [] (mk u v (gO p q)) ct sl := by
  have hT := S.1
  have hL := X.hL
  have C := X.C
  obtain ⟨kx, x, u2, v2, p2, mc, ms, l, nw, ⟨⟨h1, h2, h3, h4⟩, h5, h6, h7, h8, h9⟩, M1, M2⟩ := st_addNeed (p := p) (q := q) (a := (sc xs (4 * t + 1))) (b := (sc xs (4 * t + 2))) S (by omega) (sc_rg _ _) (sc_rg _ _)
  have hk : rg kx := by unfold rg; omega
  refine ev_s C dL_law_270 (q := 271) rfl rfl ?_
  refine ev_s C dL_law_271 (q := 272) rfl rfl ?_
  refine ev_s C dL_law_272 (q := 274) rfl rfl ?_
  refine ev_s C dL_law_274 (q := 275) rfl rfl ?_
  refine ev_s C dL_law_275 (q := 276) rfl rfl ?_
  refine ev_sld X dL_law_276 (q := 277) rfl (by omega) ?_
  refine ev_s C dL_law_277 (q := 278) rfl rfl ?_
  refine ev_s C dL_law_278 (q := 280) rfl rfl ?_
  refine ev_s C dL_law_280 (q := 281) rfl rfl ?_
  refine ev_s C dL_law_281 (q := 282) rfl rfl ?_
  refine ev_sld X dL_law_282 (q := 283) rfl (by omega) ?_
  refine ev_s C dL_law_283 (q := 284) rfl rfl ?_
  refine ev_cH X dL_law_284 (q := 287) rfl km_L_119 ks_L_addNeed kh_L_addNeed M1 rfl rfl (by decide) (by decide) (by omega) (by omega) h4 ?_
  refine ev_s C dL_law_287 (q := 289) rfl rfl ?_
  refine ev_s C dL_law_289 (q := 290) rfl rfl ?_
  refine ev_s C dL_law_290 (q := 291) rfl rfl ?_
  refine ev_s C dL_law_291 (q := 293) rfl rfl ?_
  refine ev_s C dL_law_293 (q := 294) rfl rfl ?_
  refine ev_s C dL_law_294 (q := 295) rfl rfl ?_
  refine ev_sld X dL_law_295 (q := 296) rfl (by omega) ?_
  refine ev_s C dL_law_296 (q := 297) rfl rfl ?_
  refine ev_s C dL_law_297 (q := 299) rfl rfl ?_
  refine ev_s C dL_law_299 (q := 300) rfl rfl ?_
  refine ev_s C dL_law_300 (q := 301) rfl rfl ?_
  refine ev_sld X dL_law_301 (q := 302) rfl (by omega) ?_
  refine ev_cV C dL_law_302 (q := 305) rfl km_L_122 kv_X7_addNeed kc_X7_addNeed M2 (st := []) rfl rfl vcX7 go_0 (by rw [X.lev]; omega) (by decide) (by decide) (by rw [X.mc]; omega) (by rw [X.ms]; omega) ?_
  refine ev_s C dL_law_305 (q := 307) rfl rfl ?_
  refine ev_s C dL_law_307 (q := 308) rfl rfl ?_
  refine ev_cV C dL_law_308 (q := 311) rfl km_L_116 kv_X7_thrown kc_X7_thrown c_X7_thrown (st := []) rfl rfl vcX7 go_0 (by rw [X.lev]; decide) (by decide) (by decide) (by rw [X.mc]; omega) (by rw [X.ms]; omega) ?_
  refine ev_eqS (st := [vI kx]) (by rw [h8]; rfl) ?_
  refine ev_s C dL_law_311 (q := 313) rfl rfl ?_
  refine ev_icmp_eq C dL_law_313 (tgt := 318) (q := 316) (by decide) rfl hk hk (fun _ => ?_) (fun h => absurd rfl h)
  refine ev_s C dL_law_318 (q := 320) rfl rfl ?_
  refine ev_if_ne C dL_law_320 (tgt := 335) (q := 323) (by decide) rfl hk (fun e0 => ?_) (fun e0 => ?_)
  · refine ev_goto C dL_law_335 (tgt := 1792) (by decide) ?_
    exact ev_wide (by omega) (by omega) (ev_keep [0, 1, 2, 3, 4, 5] rfl (kk _ _ _ _ h9))
  · refine ev_s C dL_law_323 (q := 324) rfl rfl ?_
    refine ev_s C dL_law_324 (q := 325) rfl rfl ?_
    refine ev_lald (n := 100) (len := 1) (f := fun j => vL (p2 j)) C dL_law_325 (q := 326) rfl rfl rg_0 (by decide) (by decide) ?_
    refine ev_eqS (st := [vL x]) (by rw [← h7 e0]; rfl) ?_
    refine ev_s C dL_law_326 (q := 328) rfl rfl ?_
    refine ev_i2l C dL_law_328 (q := 329) rfl h6 ?_
    refine ev_lcmp C dL_law_329 (q := 330) rfl (rg_L h6) (rg_L h6) ?_
    refine ev_eqS (st := [vI 0]) (by first | rw [cmpI_self] | rfl) ?_
    refine ev_if_eq C dL_law_330 (tgt := 335) (q := 333) (by decide) rfl rg_0 (fun _ => ?_) (fun h => absurd rfl h)
    refine ev_goto C dL_law_335 (tgt := 1792) (by decide) ?_
    exact ev_wide (by omega) (by omega) (ev_keep [0, 1, 2, 3, 4, 5] rfl (kk _ _ _ _ h9))
set_option maxHeartbeats 4000000 in
set_option maxRecDepth 20000 in
theorem cs_2 {k : Kx} {b L : Nat} {xs : Nat → Int32} {t : Int} {u v : SS} {p : Nat → Int} {q : Nat → UInt64} {ct sl : Nat} (X : LX k b L xs) (S : SIM t u v) (hi : 4 * t + 4 ≤ (L : Int)) (hct : ct + 40 ≤ 603072) (hsl : sl + 2500 ≤ 7202922) (kk : ∀ (u2 v2 : SS) (p2 : Nat → Int) (q2 : Nat → UInt64), SIM (t + 1) u2 v2 → EV k 1792 (lL t) [] (mk u2 v2 (gO p2 q2)) (ct + 40) (sl + 2500)) : EV k 338 (lL t) [] (mk u v (gO p q)) ct sl := by
  have hT := S.1
  have hL := X.hL
  have C := X.C
  obtain ⟨kx, x, u2, v2, p2, mc, ms, l, nw, ⟨⟨h1, h2, h3, h4⟩, h5, h6, h7, h8, h9⟩, M1, M2⟩ := st_setSize (p := p) (q := q) (a := (sc xs (4 * t + 1))) (b := (sc xs (4 * t + 2))) (c := (sc xs (4 * t + 3))) S (by omega) (sc_rg _ _) (sc_rg _ _) (sc_rg _ _)
  have hk : rg kx := by unfold rg; omega
  refine ev_s C dL_law_338 (q := 339) rfl rfl ?_
  refine ev_s C dL_law_339 (q := 340) rfl rfl ?_
  refine ev_s C dL_law_340 (q := 342) rfl rfl ?_
  refine ev_s C dL_law_342 (q := 343) rfl rfl ?_
  refine ev_s C dL_law_343 (q := 344) rfl rfl ?_
  refine ev_sld X dL_law_344 (q := 345) rfl (by omega) ?_
  refine ev_s C dL_law_345 (q := 346) rfl rfl ?_
  refine ev_s C dL_law_346 (q := 348) rfl rfl ?_
  refine ev_s C dL_law_348 (q := 349) rfl rfl ?_
  refine ev_s C dL_law_349 (q := 350) rfl rfl ?_
  refine ev_sld X dL_law_350 (q := 351) rfl (by omega) ?_
  refine ev_s C dL_law_351 (q := 352) rfl rfl ?_
  refine ev_s C dL_law_352 (q := 354) rfl rfl ?_
  refine ev_s C dL_law_354 (q := 355) rfl rfl ?_
  refine ev_s C dL_law_355 (q := 356) rfl rfl ?_
  refine ev_sld X dL_law_356 (q := 357) rfl (by omega) ?_
  refine ev_s C dL_law_357 (q := 358) rfl rfl ?_
  refine ev_cH X dL_law_358 (q := 361) rfl km_L_123 ks_L_setSize kh_L_setSize M1 rfl rfl (by decide) (by decide) (by omega) (by omega) h4 ?_
  refine ev_s C dL_law_361 (q := 363) rfl rfl ?_
  refine ev_s C dL_law_363 (q := 364) rfl rfl ?_
  refine ev_s C dL_law_364 (q := 365) rfl rfl ?_
  refine ev_s C dL_law_365 (q := 367) rfl rfl ?_
  refine ev_s C dL_law_367 (q := 368) rfl rfl ?_
  refine ev_s C dL_law_368 (q := 369) rfl rfl ?_
  refine ev_sld X dL_law_369 (q := 370) rfl (by omega) ?_
  refine ev_s C dL_law_370 (q := 371) rfl rfl ?_
  refine ev_s C dL_law_371 (q := 373) rfl rfl ?_
  refine ev_s C dL_law_373 (q := 374) rfl rfl ?_
  refine ev_s C dL_law_374 (q := 375) rfl rfl ?_
  refine ev_sld X dL_law_375 (q := 376) rfl (by omega) ?_
  refine ev_s C dL_law_376 (q := 377) rfl rfl ?_
  refine ev_s C dL_law_377 (q := 379) rfl rfl ?_
  refine ev_s C dL_law_379 (q := 380) rfl rfl ?_
  refine ev_s C dL_law_380 (q := 381) rfl rfl ?_
  refine ev_sld X dL_law_381 (q := 382) rfl (by omega) ?_
  refine ev_cV C dL_law_382 (q := 385) rfl km_L_126 kv_X7_setSize kc_X7_setSize M2 (st := []) rfl rfl vcX7 go_0 (by rw [X.lev]; omega) (by decide) (by decide) (by rw [X.mc]; omega) (by rw [X.ms]; omega) ?_
  refine ev_s C dL_law_385 (q := 387) rfl rfl ?_
  refine ev_s C dL_law_387 (q := 388) rfl rfl ?_
  refine ev_cV C dL_law_388 (q := 391) rfl km_L_116 kv_X7_thrown kc_X7_thrown c_X7_thrown (st := []) rfl rfl vcX7 go_0 (by rw [X.lev]; decide) (by decide) (by decide) (by rw [X.mc]; omega) (by rw [X.ms]; omega) ?_
  refine ev_eqS (st := [vI kx]) (by rw [h8]; rfl) ?_
  refine ev_s C dL_law_391 (q := 393) rfl rfl ?_
  refine ev_icmp_eq C dL_law_393 (tgt := 398) (q := 396) (by decide) rfl hk hk (fun _ => ?_) (fun h => absurd rfl h)
  refine ev_s C dL_law_398 (q := 400) rfl rfl ?_
  refine ev_if_ne C dL_law_400 (tgt := 415) (q := 403) (by decide) rfl hk (fun e0 => ?_) (fun e0 => ?_)
  · refine ev_goto C dL_law_415 (tgt := 1792) (by decide) ?_
    exact ev_wide (by omega) (by omega) (ev_keep [0, 1, 2, 3, 4, 5] rfl (kk _ _ _ _ h9))
  · refine ev_s C dL_law_403 (q := 404) rfl rfl ?_
    refine ev_s C dL_law_404 (q := 405) rfl rfl ?_
    refine ev_lald (n := 100) (len := 1) (f := fun j => vL (p2 j)) C dL_law_405 (q := 406) rfl rfl rg_0 (by decide) (by decide) ?_
    refine ev_eqS (st := [vL x]) (by rw [← h7 e0]; rfl) ?_
    refine ev_s C dL_law_406 (q := 408) rfl rfl ?_
    refine ev_i2l C dL_law_408 (q := 409) rfl h6 ?_
    refine ev_lcmp C dL_law_409 (q := 410) rfl (rg_L h6) (rg_L h6) ?_
    refine ev_eqS (st := [vI 0]) (by first | rw [cmpI_self] | rfl) ?_
    refine ev_if_eq C dL_law_410 (tgt := 415) (q := 413) (by decide) rfl rg_0 (fun _ => ?_) (fun h => absurd rfl h)
    refine ev_goto C dL_law_415 (tgt := 1792) (by decide) ?_
    exact ev_wide (by omega) (by omega) (ev_keep [0, 1, 2, 3, 4, 5] rfl (kk _ _ _ _ h9))
set_option maxHeartbeats 4000000 in
set_option maxRecDepth 20000 in
theorem cs_3 {k : Kx} {b L : Nat} {xs : Nat → Int32} {t : Int} {u v : SS} {p : Nat → Int} {q : Nat → UInt64} {ct sl : Nat} (X : LX k b L xs) (S : SIM t u v) (hi : 4 * t + 4 ≤ (L : Int)) (hct : ct + 40 ≤ 603072) (hsl : sl + 2500 ≤ 7202922) (kk : ∀ (u2 v2 : SS) (p2 : Nat → Int) (q2 : Nat → UInt64), SIM (t + 1) u2 v2 → EV k 1792 (lL t) [] (mk u2 v2 (gO p2 q2)) (ct + 40) (sl + 2500)) : EV k 418 (lL t) [] (mk u v (gO p q)) ct sl := by
  have hT := S.1
  have hL := X.hL
  have C := X.C
  obtain ⟨kx, x, u2, v2, p2, mc, ms, l, nw, ⟨⟨h1, h2, h3, h4⟩, h5, h6, h7, h8, h9⟩, M1, M2⟩ := st_setFrames (p := p) (q := q) (a := (sc xs (4 * t + 1))) S (by omega) (sc_rg _ _)
  have hk : rg kx := by unfold rg; omega
  refine ev_s C dL_law_418 (q := 419) rfl rfl ?_
  refine ev_s C dL_law_419 (q := 420) rfl rfl ?_
  refine ev_s C dL_law_420 (q := 422) rfl rfl ?_
  refine ev_s C dL_law_422 (q := 423) rfl rfl ?_
  refine ev_s C dL_law_423 (q := 424) rfl rfl ?_
  refine ev_sld X dL_law_424 (q := 425) rfl (by omega) ?_
  refine ev_s C dL_law_425 (q := 426) rfl rfl ?_
  refine ev_cH X dL_law_426 (q := 429) rfl km_L_127 ks_L_setFrames kh_L_setFrames M1 rfl rfl (by decide) (by decide) (by omega) (by omega) h4 ?_
  refine ev_s C dL_law_429 (q := 431) rfl rfl ?_
  refine ev_s C dL_law_431 (q := 432) rfl rfl ?_
  refine ev_s C dL_law_432 (q := 433) rfl rfl ?_
  refine ev_s C dL_law_433 (q := 435) rfl rfl ?_
  refine ev_s C dL_law_435 (q := 436) rfl rfl ?_
  refine ev_s C dL_law_436 (q := 437) rfl rfl ?_
  refine ev_sld X dL_law_437 (q := 438) rfl (by omega) ?_
  refine ev_cV C dL_law_438 (q := 441) rfl km_L_130 kv_X7_setFrames kc_X7_setFrames M2 (st := []) rfl rfl vcX7 go_0 (by rw [X.lev]; omega) (by decide) (by decide) (by rw [X.mc]; omega) (by rw [X.ms]; omega) ?_
  refine ev_s C dL_law_441 (q := 443) rfl rfl ?_
  refine ev_s C dL_law_443 (q := 444) rfl rfl ?_
  refine ev_cV C dL_law_444 (q := 447) rfl km_L_116 kv_X7_thrown kc_X7_thrown c_X7_thrown (st := []) rfl rfl vcX7 go_0 (by rw [X.lev]; decide) (by decide) (by decide) (by rw [X.mc]; omega) (by rw [X.ms]; omega) ?_
  refine ev_eqS (st := [vI kx]) (by rw [h8]; rfl) ?_
  refine ev_s C dL_law_447 (q := 449) rfl rfl ?_
  refine ev_icmp_eq C dL_law_449 (tgt := 454) (q := 452) (by decide) rfl hk hk (fun _ => ?_) (fun h => absurd rfl h)
  refine ev_s C dL_law_454 (q := 456) rfl rfl ?_
  refine ev_if_ne C dL_law_456 (tgt := 471) (q := 459) (by decide) rfl hk (fun e0 => ?_) (fun e0 => ?_)
  · refine ev_goto C dL_law_471 (tgt := 1792) (by decide) ?_
    exact ev_wide (by omega) (by omega) (ev_keep [0, 1, 2, 3, 4, 5] rfl (kk _ _ _ _ h9))
  · refine ev_s C dL_law_459 (q := 460) rfl rfl ?_
    refine ev_s C dL_law_460 (q := 461) rfl rfl ?_
    refine ev_lald (n := 100) (len := 1) (f := fun j => vL (p2 j)) C dL_law_461 (q := 462) rfl rfl rg_0 (by decide) (by decide) ?_
    refine ev_eqS (st := [vL x]) (by rw [← h7 e0]; rfl) ?_
    refine ev_s C dL_law_462 (q := 464) rfl rfl ?_
    refine ev_i2l C dL_law_464 (q := 465) rfl h6 ?_
    refine ev_lcmp C dL_law_465 (q := 466) rfl (rg_L h6) (rg_L h6) ?_
    refine ev_eqS (st := [vI 0]) (by first | rw [cmpI_self] | rfl) ?_
    refine ev_if_eq C dL_law_466 (tgt := 471) (q := 469) (by decide) rfl rg_0 (fun _ => ?_) (fun h => absurd rfl h)
    refine ev_goto C dL_law_471 (tgt := 1792) (by decide) ?_
    exact ev_wide (by omega) (by omega) (ev_keep [0, 1, 2, 3, 4, 5] rfl (kk _ _ _ _ h9))
set_option maxHeartbeats 4000000 in
set_option maxRecDepth 20000 in
theorem cs_4 {k : Kx} {b L : Nat} {xs : Nat → Int32} {t : Int} {u v : SS} {p : Nat → Int} {q : Nat → UInt64} {ct sl : Nat} (X : LX k b L xs) (S : SIM t u v) (hi : 4 * t + 4 ≤ (L : Int)) (hct : ct + 40 ≤ 603072) (hsl : sl + 2500 ≤ 7202922) (kk : ∀ (u2 v2 : SS) (p2 : Nat → Int) (q2 : Nat → UInt64), SIM (t + 1) u2 v2 → EV k 1792 (lL t) [] (mk u2 v2 (gO p2 q2)) (ct + 40) (sl + 2500)) : EV k 474 (lL t) [] (mk u v (gO p q)) ct sl := by
  have hT := S.1
  have hL := X.hL
  have C := X.C
  obtain ⟨kx, x, u2, v2, p2, mc, ms, l, nw, ⟨⟨h1, h2, h3, h4⟩, h5, h6, h7, h8, h9⟩, M1, M2⟩ := st_setRoom (p := p) (q := q) (a := (sc xs (4 * t + 1))) S (by omega) (sc_rg _ _)
  have hk : rg kx := by unfold rg; omega
  refine ev_s C dL_law_474 (q := 475) rfl rfl ?_
  refine ev_s C dL_law_475 (q := 476) rfl rfl ?_
  refine ev_s C dL_law_476 (q := 478) rfl rfl ?_
  refine ev_s C dL_law_478 (q := 479) rfl rfl ?_
  refine ev_s C dL_law_479 (q := 480) rfl rfl ?_
  refine ev_sld X dL_law_480 (q := 481) rfl (by omega) ?_
  refine ev_s C dL_law_481 (q := 482) rfl rfl ?_
  refine ev_cH X dL_law_482 (q := 485) rfl km_L_131 ks_L_setRoom kh_L_setRoom M1 rfl rfl (by decide) (by decide) (by omega) (by omega) h4 ?_
  refine ev_s C dL_law_485 (q := 487) rfl rfl ?_
  refine ev_s C dL_law_487 (q := 488) rfl rfl ?_
  refine ev_s C dL_law_488 (q := 489) rfl rfl ?_
  refine ev_s C dL_law_489 (q := 491) rfl rfl ?_
  refine ev_s C dL_law_491 (q := 492) rfl rfl ?_
  refine ev_s C dL_law_492 (q := 493) rfl rfl ?_
  refine ev_sld X dL_law_493 (q := 494) rfl (by omega) ?_
  refine ev_cV C dL_law_494 (q := 497) rfl km_L_133 kv_X7_setRoom kc_X7_setRoom M2 (st := []) rfl rfl vcX7 go_0 (by rw [X.lev]; omega) (by decide) (by decide) (by rw [X.mc]; omega) (by rw [X.ms]; omega) ?_
  refine ev_s C dL_law_497 (q := 499) rfl rfl ?_
  refine ev_s C dL_law_499 (q := 500) rfl rfl ?_
  refine ev_cV C dL_law_500 (q := 503) rfl km_L_116 kv_X7_thrown kc_X7_thrown c_X7_thrown (st := []) rfl rfl vcX7 go_0 (by rw [X.lev]; decide) (by decide) (by decide) (by rw [X.mc]; omega) (by rw [X.ms]; omega) ?_
  refine ev_eqS (st := [vI kx]) (by rw [h8]; rfl) ?_
  refine ev_s C dL_law_503 (q := 505) rfl rfl ?_
  refine ev_icmp_eq C dL_law_505 (tgt := 510) (q := 508) (by decide) rfl hk hk (fun _ => ?_) (fun h => absurd rfl h)
  refine ev_s C dL_law_510 (q := 512) rfl rfl ?_
  refine ev_if_ne C dL_law_512 (tgt := 527) (q := 515) (by decide) rfl hk (fun e0 => ?_) (fun e0 => ?_)
  · refine ev_goto C dL_law_527 (tgt := 1792) (by decide) ?_
    exact ev_wide (by omega) (by omega) (ev_keep [0, 1, 2, 3, 4, 5] rfl (kk _ _ _ _ h9))
  · refine ev_s C dL_law_515 (q := 516) rfl rfl ?_
    refine ev_s C dL_law_516 (q := 517) rfl rfl ?_
    refine ev_lald (n := 100) (len := 1) (f := fun j => vL (p2 j)) C dL_law_517 (q := 518) rfl rfl rg_0 (by decide) (by decide) ?_
    refine ev_eqS (st := [vL x]) (by rw [← h7 e0]; rfl) ?_
    refine ev_s C dL_law_518 (q := 520) rfl rfl ?_
    refine ev_i2l C dL_law_520 (q := 521) rfl h6 ?_
    refine ev_lcmp C dL_law_521 (q := 522) rfl (rg_L h6) (rg_L h6) ?_
    refine ev_eqS (st := [vI 0]) (by first | rw [cmpI_self] | rfl) ?_
    refine ev_if_eq C dL_law_522 (tgt := 527) (q := 525) (by decide) rfl rg_0 (fun _ => ?_) (fun h => absurd rfl h)
    refine ev_goto C dL_law_527 (tgt := 1792) (by decide) ?_
    exact ev_wide (by omega) (by omega) (ev_keep [0, 1, 2, 3, 4, 5] rfl (kk _ _ _ _ h9))
set_option maxHeartbeats 4000000 in
set_option maxRecDepth 20000 in
theorem cs_5 {k : Kx} {b L : Nat} {xs : Nat → Int32} {t : Int} {u v : SS} {p : Nat → Int} {q : Nat → UInt64} {ct sl : Nat} (X : LX k b L xs) (S : SIM t u v) (hi : 4 * t + 4 ≤ (L : Int)) (hct : ct + 40 ≤ 603072) (hsl : sl + 2500 ≤ 7202922) (kk : ∀ (u2 v2 : SS) (p2 : Nat → Int) (q2 : Nat → UInt64), SIM (t + 1) u2 v2 → EV k 1792 (lL t) [] (mk u2 v2 (gO p2 q2)) (ct + 40) (sl + 2500)) : EV k 530 (lL t) [] (mk u v (gO p q)) ct sl := by
  have hT := S.1
  have hL := X.hL
  have C := X.C
  obtain ⟨kx, x, u2, v2, p2, mc, ms, l, nw, ⟨⟨h1, h2, h3, h4⟩, h5, h6, h7, h8, h9⟩, M1, M2⟩ := st_setLimit (p := p) (q := q) (a := (sc xs (4 * t + 1))) S (by omega) (sc_rg _ _)
  have hk : rg kx := by unfold rg; omega
  refine ev_s C dL_law_530 (q := 531) rfl rfl ?_
  refine ev_s C dL_law_531 (q := 532) rfl rfl ?_
  refine ev_s C dL_law_532 (q := 534) rfl rfl ?_
  refine ev_s C dL_law_534 (q := 535) rfl rfl ?_
  refine ev_s C dL_law_535 (q := 536) rfl rfl ?_
  refine ev_sld X dL_law_536 (q := 537) rfl (by omega) ?_
  refine ev_s C dL_law_537 (q := 538) rfl rfl ?_
  refine ev_cH X dL_law_538 (q := 541) rfl km_L_134 ks_L_setLimit kh_L_setLimit M1 rfl rfl (by decide) (by decide) (by omega) (by omega) h4 ?_
  refine ev_s C dL_law_541 (q := 543) rfl rfl ?_
  refine ev_s C dL_law_543 (q := 544) rfl rfl ?_
  refine ev_s C dL_law_544 (q := 545) rfl rfl ?_
  refine ev_s C dL_law_545 (q := 547) rfl rfl ?_
  refine ev_s C dL_law_547 (q := 548) rfl rfl ?_
  refine ev_s C dL_law_548 (q := 549) rfl rfl ?_
  refine ev_sld X dL_law_549 (q := 550) rfl (by omega) ?_
  refine ev_cV C dL_law_550 (q := 553) rfl km_L_136 kv_X7_setLimit kc_X7_setLimit M2 (st := []) rfl rfl vcX7 go_0 (by rw [X.lev]; omega) (by decide) (by decide) (by rw [X.mc]; omega) (by rw [X.ms]; omega) ?_
  refine ev_s C dL_law_553 (q := 555) rfl rfl ?_
  refine ev_s C dL_law_555 (q := 556) rfl rfl ?_
  refine ev_cV C dL_law_556 (q := 559) rfl km_L_116 kv_X7_thrown kc_X7_thrown c_X7_thrown (st := []) rfl rfl vcX7 go_0 (by rw [X.lev]; decide) (by decide) (by decide) (by rw [X.mc]; omega) (by rw [X.ms]; omega) ?_
  refine ev_eqS (st := [vI kx]) (by rw [h8]; rfl) ?_
  refine ev_s C dL_law_559 (q := 561) rfl rfl ?_
  refine ev_icmp_eq C dL_law_561 (tgt := 566) (q := 564) (by decide) rfl hk hk (fun _ => ?_) (fun h => absurd rfl h)
  refine ev_s C dL_law_566 (q := 568) rfl rfl ?_
  refine ev_if_ne C dL_law_568 (tgt := 583) (q := 571) (by decide) rfl hk (fun e0 => ?_) (fun e0 => ?_)
  · refine ev_goto C dL_law_583 (tgt := 1792) (by decide) ?_
    exact ev_wide (by omega) (by omega) (ev_keep [0, 1, 2, 3, 4, 5] rfl (kk _ _ _ _ h9))
  · refine ev_s C dL_law_571 (q := 572) rfl rfl ?_
    refine ev_s C dL_law_572 (q := 573) rfl rfl ?_
    refine ev_lald (n := 100) (len := 1) (f := fun j => vL (p2 j)) C dL_law_573 (q := 574) rfl rfl rg_0 (by decide) (by decide) ?_
    refine ev_eqS (st := [vL x]) (by rw [← h7 e0]; rfl) ?_
    refine ev_s C dL_law_574 (q := 576) rfl rfl ?_
    refine ev_i2l C dL_law_576 (q := 577) rfl h6 ?_
    refine ev_lcmp C dL_law_577 (q := 578) rfl (rg_L h6) (rg_L h6) ?_
    refine ev_eqS (st := [vI 0]) (by first | rw [cmpI_self] | rfl) ?_
    refine ev_if_eq C dL_law_578 (tgt := 583) (q := 581) (by decide) rfl rg_0 (fun _ => ?_) (fun h => absurd rfl h)
    refine ev_goto C dL_law_583 (tgt := 1792) (by decide) ?_
    exact ev_wide (by omega) (by omega) (ev_keep [0, 1, 2, 3, 4, 5] rfl (kk _ _ _ _ h9))
set_option maxHeartbeats 4000000 in
set_option maxRecDepth 20000 in
theorem cs_6 {k : Kx} {b L : Nat} {xs : Nat → Int32} {t : Int} {u v : SS} {p : Nat → Int} {q : Nat → UInt64} {ct sl : Nat} (X : LX k b L xs) (S : SIM t u v) (hi : 4 * t + 4 ≤ (L : Int)) (hct : ct + 40 ≤ 603072) (hsl : sl + 2500 ≤ 7202922) (kk : ∀ (u2 v2 : SS) (p2 : Nat → Int) (q2 : Nat → UInt64), SIM (t + 1) u2 v2 → EV k 1792 (lL t) [] (mk u2 v2 (gO p2 q2)) (ct + 40) (sl + 2500)) : EV k 586 (lL t) [] (mk u v (gO p q)) ct sl := by
  have hT := S.1
  have hL := X.hL
  have C := X.C
  obtain ⟨kx, x, u2, v2, p2, mc, ms, l, nw, ⟨⟨h1, h2, h3, h4⟩, h5, h6, h7, h8, h9⟩, M1, M2⟩ := st_touch (p := p) (q := q) (a := (sc xs (4 * t + 1))) (b := (sc xs (4 * t + 2))) S (by omega) (sc_rg _ _) (sc_rg _ _)
  have hk : rg kx := by unfold rg; omega
  refine ev_s C dL_law_586 (q := 587) rfl rfl ?_
  refine ev_s C dL_law_587 (q := 588) rfl rfl ?_
  refine ev_s C dL_law_588 (q := 590) rfl rfl ?_
  refine ev_s C dL_law_590 (q := 591) rfl rfl ?_
  refine ev_s C dL_law_591 (q := 592) rfl rfl ?_
  refine ev_sld X dL_law_592 (q := 593) rfl (by omega) ?_
  refine ev_s C dL_law_593 (q := 594) rfl rfl ?_
  refine ev_s C dL_law_594 (q := 596) rfl rfl ?_
  refine ev_s C dL_law_596 (q := 597) rfl rfl ?_
  refine ev_s C dL_law_597 (q := 598) rfl rfl ?_
  refine ev_sld X dL_law_598 (q := 599) rfl (by omega) ?_
  refine ev_s C dL_law_599 (q := 600) rfl rfl ?_
  refine ev_cH X dL_law_600 (q := 603) rfl km_L_137 ks_L_touch kh_L_touch M1 rfl rfl (by decide) (by decide) (by omega) (by omega) h4 ?_
  refine ev_s C dL_law_603 (q := 605) rfl rfl ?_
  refine ev_s C dL_law_605 (q := 606) rfl rfl ?_
  refine ev_s C dL_law_606 (q := 607) rfl rfl ?_
  refine ev_s C dL_law_607 (q := 609) rfl rfl ?_
  refine ev_s C dL_law_609 (q := 610) rfl rfl ?_
  refine ev_s C dL_law_610 (q := 611) rfl rfl ?_
  refine ev_sld X dL_law_611 (q := 612) rfl (by omega) ?_
  refine ev_s C dL_law_612 (q := 613) rfl rfl ?_
  refine ev_s C dL_law_613 (q := 615) rfl rfl ?_
  refine ev_s C dL_law_615 (q := 616) rfl rfl ?_
  refine ev_s C dL_law_616 (q := 617) rfl rfl ?_
  refine ev_sld X dL_law_617 (q := 618) rfl (by omega) ?_
  refine ev_cV C dL_law_618 (q := 621) rfl km_L_139 kv_X7_touch kc_X7_touch M2 (st := []) rfl rfl vcX7 go_0 (by rw [X.lev]; omega) (by decide) (by decide) (by rw [X.mc]; omega) (by rw [X.ms]; omega) ?_
  refine ev_s C dL_law_621 (q := 623) rfl rfl ?_
  refine ev_s C dL_law_623 (q := 624) rfl rfl ?_
  refine ev_cV C dL_law_624 (q := 627) rfl km_L_116 kv_X7_thrown kc_X7_thrown c_X7_thrown (st := []) rfl rfl vcX7 go_0 (by rw [X.lev]; decide) (by decide) (by decide) (by rw [X.mc]; omega) (by rw [X.ms]; omega) ?_
  refine ev_eqS (st := [vI kx]) (by rw [h8]; rfl) ?_
  refine ev_s C dL_law_627 (q := 629) rfl rfl ?_
  refine ev_icmp_eq C dL_law_629 (tgt := 634) (q := 632) (by decide) rfl hk hk (fun _ => ?_) (fun h => absurd rfl h)
  refine ev_s C dL_law_634 (q := 636) rfl rfl ?_
  refine ev_if_ne C dL_law_636 (tgt := 651) (q := 639) (by decide) rfl hk (fun e0 => ?_) (fun e0 => ?_)
  · refine ev_goto C dL_law_651 (tgt := 1792) (by decide) ?_
    exact ev_wide (by omega) (by omega) (ev_keep [0, 1, 2, 3, 4, 5] rfl (kk _ _ _ _ h9))
  · refine ev_s C dL_law_639 (q := 640) rfl rfl ?_
    refine ev_s C dL_law_640 (q := 641) rfl rfl ?_
    refine ev_lald (n := 100) (len := 1) (f := fun j => vL (p2 j)) C dL_law_641 (q := 642) rfl rfl rg_0 (by decide) (by decide) ?_
    refine ev_eqS (st := [vL x]) (by rw [← h7 e0]; rfl) ?_
    refine ev_s C dL_law_642 (q := 644) rfl rfl ?_
    refine ev_i2l C dL_law_644 (q := 645) rfl h6 ?_
    refine ev_lcmp C dL_law_645 (q := 646) rfl (rg_L h6) (rg_L h6) ?_
    refine ev_eqS (st := [vI 0]) (by first | rw [cmpI_self] | rfl) ?_
    refine ev_if_eq C dL_law_646 (tgt := 651) (q := 649) (by decide) rfl rg_0 (fun _ => ?_) (fun h => absurd rfl h)
    refine ev_goto C dL_law_651 (tgt := 1792) (by decide) ?_
    exact ev_wide (by omega) (by omega) (ev_keep [0, 1, 2, 3, 4, 5] rfl (kk _ _ _ _ h9))
set_option maxHeartbeats 4000000 in
set_option maxRecDepth 20000 in
theorem cs_7 {k : Kx} {b L : Nat} {xs : Nat → Int32} {t : Int} {u v : SS} {p : Nat → Int} {q : Nat → UInt64} {ct sl : Nat} (X : LX k b L xs) (S : SIM t u v) (hi : 4 * t + 4 ≤ (L : Int)) (hct : ct + 40 ≤ 603072) (hsl : sl + 2500 ≤ 7202922) (kk : ∀ (u2 v2 : SS) (p2 : Nat → Int) (q2 : Nat → UInt64), SIM (t + 1) u2 v2 → EV k 1792 (lL t) [] (mk u2 v2 (gO p2 q2)) (ct + 40) (sl + 2500)) : EV k 654 (lL t) [] (mk u v (gO p q)) ct sl := by
  have hT := S.1
  have hL := X.hL
  have C := X.C
  obtain ⟨kx, x, u2, v2, p2, mc, ms, l, nw, ⟨⟨h1, h2, h3, h4⟩, h5, h6, h7, h8, h9⟩, M1, M2⟩ := st_tick (p := p) (q := q) (a := (sc xs (4 * t + 1))) S (by omega) (sc_rg _ _)
  have hk : rg kx := by unfold rg; omega
  refine ev_s C dL_law_654 (q := 655) rfl rfl ?_
  refine ev_s C dL_law_655 (q := 656) rfl rfl ?_
  refine ev_s C dL_law_656 (q := 658) rfl rfl ?_
  refine ev_s C dL_law_658 (q := 659) rfl rfl ?_
  refine ev_s C dL_law_659 (q := 660) rfl rfl ?_
  refine ev_sld X dL_law_660 (q := 661) rfl (by omega) ?_
  refine ev_s C dL_law_661 (q := 662) rfl rfl ?_
  refine ev_cH X dL_law_662 (q := 665) rfl km_L_140 ks_L_tick kh_L_tick M1 rfl rfl (by decide) (by decide) (by omega) (by omega) h4 ?_
  refine ev_s C dL_law_665 (q := 667) rfl rfl ?_
  refine ev_s C dL_law_667 (q := 668) rfl rfl ?_
  refine ev_s C dL_law_668 (q := 669) rfl rfl ?_
  refine ev_s C dL_law_669 (q := 671) rfl rfl ?_
  refine ev_s C dL_law_671 (q := 672) rfl rfl ?_
  refine ev_s C dL_law_672 (q := 673) rfl rfl ?_
  refine ev_sld X dL_law_673 (q := 674) rfl (by omega) ?_
  refine ev_cV C dL_law_674 (q := 677) rfl km_L_142 kv_X7_tick kc_X7_tick M2 (st := []) rfl rfl vcX7 go_0 (by rw [X.lev]; omega) (by decide) (by decide) (by rw [X.mc]; omega) (by rw [X.ms]; omega) ?_
  refine ev_s C dL_law_677 (q := 679) rfl rfl ?_
  refine ev_s C dL_law_679 (q := 680) rfl rfl ?_
  refine ev_cV C dL_law_680 (q := 683) rfl km_L_116 kv_X7_thrown kc_X7_thrown c_X7_thrown (st := []) rfl rfl vcX7 go_0 (by rw [X.lev]; decide) (by decide) (by decide) (by rw [X.mc]; omega) (by rw [X.ms]; omega) ?_
  refine ev_eqS (st := [vI kx]) (by rw [h8]; rfl) ?_
  refine ev_s C dL_law_683 (q := 685) rfl rfl ?_
  refine ev_icmp_eq C dL_law_685 (tgt := 690) (q := 688) (by decide) rfl hk hk (fun _ => ?_) (fun h => absurd rfl h)
  refine ev_s C dL_law_690 (q := 692) rfl rfl ?_
  refine ev_if_ne C dL_law_692 (tgt := 707) (q := 695) (by decide) rfl hk (fun e0 => ?_) (fun e0 => ?_)
  · refine ev_goto C dL_law_707 (tgt := 1792) (by decide) ?_
    exact ev_wide (by omega) (by omega) (ev_keep [0, 1, 2, 3, 4, 5] rfl (kk _ _ _ _ h9))
  · refine ev_s C dL_law_695 (q := 696) rfl rfl ?_
    refine ev_s C dL_law_696 (q := 697) rfl rfl ?_
    refine ev_lald (n := 100) (len := 1) (f := fun j => vL (p2 j)) C dL_law_697 (q := 698) rfl rfl rg_0 (by decide) (by decide) ?_
    refine ev_eqS (st := [vL x]) (by rw [← h7 e0]; rfl) ?_
    refine ev_s C dL_law_698 (q := 700) rfl rfl ?_
    refine ev_i2l C dL_law_700 (q := 701) rfl h6 ?_
    refine ev_lcmp C dL_law_701 (q := 702) rfl (rg_L h6) (rg_L h6) ?_
    refine ev_eqS (st := [vI 0]) (by first | rw [cmpI_self] | rfl) ?_
    refine ev_if_eq C dL_law_702 (tgt := 707) (q := 705) (by decide) rfl rg_0 (fun _ => ?_) (fun h => absurd rfl h)
    refine ev_goto C dL_law_707 (tgt := 1792) (by decide) ?_
    exact ev_wide (by omega) (by omega) (ev_keep [0, 1, 2, 3, 4, 5] rfl (kk _ _ _ _ h9))
set_option maxHeartbeats 4000000 in
set_option maxRecDepth 20000 in
theorem cs_8 {k : Kx} {b L : Nat} {xs : Nat → Int32} {t : Int} {u v : SS} {p : Nat → Int} {q : Nat → UInt64} {ct sl : Nat} (X : LX k b L xs) (S : SIM t u v) (hi : 4 * t + 4 ≤ (L : Int)) (hct : ct + 40 ≤ 603072) (hsl : sl + 2500 ≤ 7202922) (kk : ∀ (u2 v2 : SS) (p2 : Nat → Int) (q2 : Nat → UInt64), SIM (t + 1) u2 v2 → EV k 1792 (lL t) [] (mk u2 v2 (gO p2 q2)) (ct + 40) (sl + 2500)) : EV k 710 (lL t) [] (mk u v (gO p q)) ct sl := by
  have hT := S.1
  have hL := X.hL
  have C := X.C
  obtain ⟨x, u2, v2, l1, l2, ⟨h1, h2, h3, h4⟩, M1, M2⟩ := qs_time (g := gO p q) S
  refine ev_s C dL_law_710 (q := 711) rfl rfl ?_
  refine ev_cV C dL_law_711 (q := 714) rfl km_L_143 kv_X6_time kc_X6_time M1 (st := []) rfl rfl vcX6 rfl (by rw [X.lev]; omega) (by decide) (by decide) (by rw [X.mc]; omega) (by rw [X.ms]; omega) ?_
  refine ev_s C dL_law_714 (q := 715) rfl rfl ?_
  refine ev_cV C dL_law_715 (q := 718) rfl km_L_146 kv_X7_time kc_X7_time M2 (st := [vI x]) rfl rfl vcX7 go_0 (by rw [X.lev]; omega) (by decide) (Nat.le_of_ble_eq_true rfl) (by rw [X.mc]; omega) (by rw [X.ms]; omega) ?_
  refine ev_icmp_eq C dL_law_718 (tgt := 1792) (q := 721) (by decide) rfl h3 h3 (fun _ => ?_) (fun h => absurd rfl h)
  exact ev_wide (by omega) (by omega) (ev_keep [0, 1, 2, 3, 4, 5] rfl (kk _ _ _ _ h4))
set_option maxHeartbeats 4000000 in
set_option maxRecDepth 20000 in
theorem cs_9 {k : Kx} {b L : Nat} {xs : Nat → Int32} {t : Int} {u v : SS} {p : Nat → Int} {q : Nat → UInt64} {ct sl : Nat} (X : LX k b L xs) (S : SIM t u v) (hi : 4 * t + 4 ≤ (L : Int)) (hct : ct + 40 ≤ 603072) (hsl : sl + 2500 ≤ 7202922) (kk : ∀ (u2 v2 : SS) (p2 : Nat → Int) (q2 : Nat → UInt64), SIM (t + 1) u2 v2 → EV k 1792 (lL t) [] (mk u2 v2 (gO p2 q2)) (ct + 40) (sl + 2500)) : EV k 723 (lL t) [] (mk u v (gO p q)) ct sl := by
  have hT := S.1
  have hL := X.hL
  have C := X.C
  obtain ⟨kx, x, u2, v2, p2, mc, ms, l, nw, ⟨⟨h1, h2, h3, h4⟩, h5, h6, h7, h8, h9⟩, M1, M2⟩ := st_placeOf (p := p) (q := q) (a := (sc xs (4 * t + 1))) (b := (sc xs (4 * t + 2))) S (by omega) (sc_rg _ _) (sc_rg _ _)
  have hk : rg kx := by unfold rg; omega
  refine ev_s C dL_law_723 (q := 724) rfl rfl ?_
  refine ev_s C dL_law_724 (q := 725) rfl rfl ?_
  refine ev_s C dL_law_725 (q := 727) rfl rfl ?_
  refine ev_s C dL_law_727 (q := 728) rfl rfl ?_
  refine ev_s C dL_law_728 (q := 729) rfl rfl ?_
  refine ev_sld X dL_law_729 (q := 730) rfl (by omega) ?_
  refine ev_s C dL_law_730 (q := 731) rfl rfl ?_
  refine ev_s C dL_law_731 (q := 733) rfl rfl ?_
  refine ev_s C dL_law_733 (q := 734) rfl rfl ?_
  refine ev_s C dL_law_734 (q := 735) rfl rfl ?_
  refine ev_sld X dL_law_735 (q := 736) rfl (by omega) ?_
  refine ev_s C dL_law_736 (q := 737) rfl rfl ?_
  refine ev_cH X dL_law_737 (q := 740) rfl km_L_147 ks_L_placeOf kh_L_placeOf M1 rfl rfl (by decide) (by decide) (by omega) (by omega) h4 ?_
  refine ev_s C dL_law_740 (q := 742) rfl rfl ?_
  refine ev_s C dL_law_742 (q := 743) rfl rfl ?_
  refine ev_s C dL_law_743 (q := 744) rfl rfl ?_
  refine ev_s C dL_law_744 (q := 746) rfl rfl ?_
  refine ev_s C dL_law_746 (q := 747) rfl rfl ?_
  refine ev_s C dL_law_747 (q := 748) rfl rfl ?_
  refine ev_sld X dL_law_748 (q := 749) rfl (by omega) ?_
  refine ev_s C dL_law_749 (q := 750) rfl rfl ?_
  refine ev_s C dL_law_750 (q := 752) rfl rfl ?_
  refine ev_s C dL_law_752 (q := 753) rfl rfl ?_
  refine ev_s C dL_law_753 (q := 754) rfl rfl ?_
  refine ev_sld X dL_law_754 (q := 755) rfl (by omega) ?_
  refine ev_cV C dL_law_755 (q := 758) rfl km_L_149 kv_X7_placeOf kc_X7_placeOf M2 (st := []) rfl rfl vcX7 go_0 (by rw [X.lev]; omega) (by decide) (by decide) (by rw [X.mc]; omega) (by rw [X.ms]; omega) ?_
  refine ev_s C dL_law_758 (q := 760) rfl rfl ?_
  refine ev_s C dL_law_760 (q := 761) rfl rfl ?_
  refine ev_cV C dL_law_761 (q := 764) rfl km_L_116 kv_X7_thrown kc_X7_thrown c_X7_thrown (st := []) rfl rfl vcX7 go_0 (by rw [X.lev]; decide) (by decide) (by decide) (by rw [X.mc]; omega) (by rw [X.ms]; omega) ?_
  refine ev_eqS (st := [vI kx]) (by rw [h8]; rfl) ?_
  refine ev_s C dL_law_764 (q := 766) rfl rfl ?_
  refine ev_icmp_eq C dL_law_766 (tgt := 771) (q := 769) (by decide) rfl hk hk (fun _ => ?_) (fun h => absurd rfl h)
  refine ev_s C dL_law_771 (q := 773) rfl rfl ?_
  refine ev_if_ne C dL_law_773 (tgt := 788) (q := 776) (by decide) rfl hk (fun e0 => ?_) (fun e0 => ?_)
  · refine ev_goto C dL_law_788 (tgt := 1792) (by decide) ?_
    exact ev_wide (by omega) (by omega) (ev_keep [0, 1, 2, 3, 4, 5] rfl (kk _ _ _ _ h9))
  · refine ev_s C dL_law_776 (q := 777) rfl rfl ?_
    refine ev_s C dL_law_777 (q := 778) rfl rfl ?_
    refine ev_lald (n := 100) (len := 1) (f := fun j => vL (p2 j)) C dL_law_778 (q := 779) rfl rfl rg_0 (by decide) (by decide) ?_
    refine ev_eqS (st := [vL x]) (by rw [← h7 e0]; rfl) ?_
    refine ev_s C dL_law_779 (q := 781) rfl rfl ?_
    refine ev_i2l C dL_law_781 (q := 782) rfl h6 ?_
    refine ev_lcmp C dL_law_782 (q := 783) rfl (rg_L h6) (rg_L h6) ?_
    refine ev_eqS (st := [vI 0]) (by first | rw [cmpI_self] | rfl) ?_
    refine ev_if_eq C dL_law_783 (tgt := 788) (q := 786) (by decide) rfl rg_0 (fun _ => ?_) (fun h => absurd rfl h)
    refine ev_goto C dL_law_788 (tgt := 1792) (by decide) ?_
    exact ev_wide (by omega) (by omega) (ev_keep [0, 1, 2, 3, 4, 5] rfl (kk _ _ _ _ h9))
set_option maxHeartbeats 4000000 in
set_option maxRecDepth 20000 in
theorem cs_10 {k : Kx} {b L : Nat} {xs : Nat → Int32} {t : Int} {u v : SS} {p : Nat → Int} {q : Nat → UInt64} {ct sl : Nat} (X : LX k b L xs) (S : SIM t u v) (hi : 4 * t + 4 ≤ (L : Int)) (hct : ct + 40 ≤ 603072) (hsl : sl + 2500 ≤ 7202922) (kk : ∀ (u2 v2 : SS) (p2 : Nat → Int) (q2 : Nat → UInt64), SIM (t + 1) u2 v2 → EV k 1792 (lL t) [] (mk u2 v2 (gO p2 q2)) (ct + 40) (sl + 2500)) : EV k 791 (lL t) [] (mk u v (gO p q)) ct sl := by
  have hT := S.1
  have hL := X.hL
  have C := X.C
  obtain ⟨kx, x, u2, v2, p2, mc, ms, l, nw, ⟨⟨h1, h2, h3, h4⟩, h5, h6, h7, h8, h9⟩, M1, M2⟩ := st_placeByEvents (p := p) (q := q) (a := (sc xs (4 * t + 1))) (b := (sc xs (4 * t + 2))) S (by omega) (sc_rg _ _) (sc_rg _ _)
  have hk : rg kx := by unfold rg; omega
  refine ev_s C dL_law_791 (q := 792) rfl rfl ?_
  refine ev_s C dL_law_792 (q := 793) rfl rfl ?_
  refine ev_s C dL_law_793 (q := 795) rfl rfl ?_
  refine ev_s C dL_law_795 (q := 796) rfl rfl ?_
  refine ev_s C dL_law_796 (q := 797) rfl rfl ?_
  refine ev_sld X dL_law_797 (q := 798) rfl (by omega) ?_
  refine ev_s C dL_law_798 (q := 799) rfl rfl ?_
  refine ev_s C dL_law_799 (q := 801) rfl rfl ?_
  refine ev_s C dL_law_801 (q := 802) rfl rfl ?_
  refine ev_s C dL_law_802 (q := 803) rfl rfl ?_
  refine ev_sld X dL_law_803 (q := 804) rfl (by omega) ?_
  refine ev_s C dL_law_804 (q := 805) rfl rfl ?_
  refine ev_cH X dL_law_805 (q := 808) rfl km_L_150 ks_L_placeByEvents kh_L_placeByEvents M1 rfl rfl (by decide) (by decide) (by omega) (by omega) h4 ?_
  refine ev_s C dL_law_808 (q := 810) rfl rfl ?_
  refine ev_s C dL_law_810 (q := 811) rfl rfl ?_
  refine ev_s C dL_law_811 (q := 812) rfl rfl ?_
  refine ev_s C dL_law_812 (q := 814) rfl rfl ?_
  refine ev_s C dL_law_814 (q := 815) rfl rfl ?_
  refine ev_s C dL_law_815 (q := 816) rfl rfl ?_
  refine ev_sld X dL_law_816 (q := 817) rfl (by omega) ?_
  refine ev_s C dL_law_817 (q := 818) rfl rfl ?_
  refine ev_s C dL_law_818 (q := 820) rfl rfl ?_
  refine ev_s C dL_law_820 (q := 821) rfl rfl ?_
  refine ev_s C dL_law_821 (q := 822) rfl rfl ?_
  refine ev_sld X dL_law_822 (q := 823) rfl (by omega) ?_
  refine ev_cV C dL_law_823 (q := 826) rfl km_L_152 kv_X7_placeByEvents kc_X7_placeByEvents M2 (st := []) rfl rfl vcX7 go_0 (by rw [X.lev]; omega) (by decide) (by decide) (by rw [X.mc]; omega) (by rw [X.ms]; omega) ?_
  refine ev_s C dL_law_826 (q := 828) rfl rfl ?_
  refine ev_s C dL_law_828 (q := 829) rfl rfl ?_
  refine ev_cV C dL_law_829 (q := 832) rfl km_L_116 kv_X7_thrown kc_X7_thrown c_X7_thrown (st := []) rfl rfl vcX7 go_0 (by rw [X.lev]; decide) (by decide) (by decide) (by rw [X.mc]; omega) (by rw [X.ms]; omega) ?_
  refine ev_eqS (st := [vI kx]) (by rw [h8]; rfl) ?_
  refine ev_s C dL_law_832 (q := 834) rfl rfl ?_
  refine ev_icmp_eq C dL_law_834 (tgt := 839) (q := 837) (by decide) rfl hk hk (fun _ => ?_) (fun h => absurd rfl h)
  refine ev_s C dL_law_839 (q := 841) rfl rfl ?_
  refine ev_if_ne C dL_law_841 (tgt := 856) (q := 844) (by decide) rfl hk (fun e0 => ?_) (fun e0 => ?_)
  · refine ev_goto C dL_law_856 (tgt := 1792) (by decide) ?_
    exact ev_wide (by omega) (by omega) (ev_keep [0, 1, 2, 3, 4, 5] rfl (kk _ _ _ _ h9))
  · refine ev_s C dL_law_844 (q := 845) rfl rfl ?_
    refine ev_s C dL_law_845 (q := 846) rfl rfl ?_
    refine ev_lald (n := 100) (len := 1) (f := fun j => vL (p2 j)) C dL_law_846 (q := 847) rfl rfl rg_0 (by decide) (by decide) ?_
    refine ev_eqS (st := [vL x]) (by rw [← h7 e0]; rfl) ?_
    refine ev_s C dL_law_847 (q := 849) rfl rfl ?_
    refine ev_i2l C dL_law_849 (q := 850) rfl h6 ?_
    refine ev_lcmp C dL_law_850 (q := 851) rfl (rg_L h6) (rg_L h6) ?_
    refine ev_eqS (st := [vI 0]) (by first | rw [cmpI_self] | rfl) ?_
    refine ev_if_eq C dL_law_851 (tgt := 856) (q := 854) (by decide) rfl rg_0 (fun _ => ?_) (fun h => absurd rfl h)
    refine ev_goto C dL_law_856 (tgt := 1792) (by decide) ?_
    exact ev_wide (by omega) (by omega) (ev_keep [0, 1, 2, 3, 4, 5] rfl (kk _ _ _ _ h9))
set_option maxHeartbeats 4000000 in
set_option maxRecDepth 20000 in
theorem cs_11 {k : Kx} {b L : Nat} {xs : Nat → Int32} {t : Int} {u v : SS} {p : Nat → Int} {q : Nat → UInt64} {ct sl : Nat} (X : LX k b L xs) (S : SIM t u v) (hi : 4 * t + 4 ≤ (L : Int)) (hct : ct + 40 ≤ 603072) (hsl : sl + 2500 ≤ 7202922) (kk : ∀ (u2 v2 : SS) (p2 : Nat → Int) (q2 : Nat → UInt64), SIM (t + 1) u2 v2 → EV k 1792 (lL t) [] (mk u2 v2 (gO p2 q2)) (ct + 40) (sl + 2500)) : EV k 859 (lL t) [] (mk u v (gO p q)) ct sl := by
  have hT := S.1
  have hL := X.hL
  have C := X.C
  obtain ⟨kx, x, u2, v2, p2, mc, ms, l, nw, ⟨⟨h1, h2, h3, h4⟩, h5, h6, h7, h8, h9⟩, M1, M2⟩ := st_frameOf (p := p) (q := q) (a := (sc xs (4 * t + 1))) (b := (sc xs (4 * t + 2))) S (by omega) (sc_rg _ _) (sc_rg _ _)
  have hk : rg kx := by unfold rg; omega
  refine ev_s C dL_law_859 (q := 860) rfl rfl ?_
  refine ev_s C dL_law_860 (q := 861) rfl rfl ?_
  refine ev_s C dL_law_861 (q := 863) rfl rfl ?_
  refine ev_s C dL_law_863 (q := 864) rfl rfl ?_
  refine ev_s C dL_law_864 (q := 865) rfl rfl ?_
  refine ev_sld X dL_law_865 (q := 866) rfl (by omega) ?_
  refine ev_s C dL_law_866 (q := 867) rfl rfl ?_
  refine ev_s C dL_law_867 (q := 869) rfl rfl ?_
  refine ev_s C dL_law_869 (q := 870) rfl rfl ?_
  refine ev_s C dL_law_870 (q := 871) rfl rfl ?_
  refine ev_sld X dL_law_871 (q := 872) rfl (by omega) ?_
  refine ev_s C dL_law_872 (q := 873) rfl rfl ?_
  refine ev_cH X dL_law_873 (q := 876) rfl km_L_153 ks_L_frameOf kh_L_frameOf M1 rfl rfl (by decide) (by decide) (by omega) (by omega) h4 ?_
  refine ev_s C dL_law_876 (q := 878) rfl rfl ?_
  refine ev_s C dL_law_878 (q := 879) rfl rfl ?_
  refine ev_s C dL_law_879 (q := 880) rfl rfl ?_
  refine ev_s C dL_law_880 (q := 882) rfl rfl ?_
  refine ev_s C dL_law_882 (q := 883) rfl rfl ?_
  refine ev_s C dL_law_883 (q := 884) rfl rfl ?_
  refine ev_sld X dL_law_884 (q := 885) rfl (by omega) ?_
  refine ev_s C dL_law_885 (q := 886) rfl rfl ?_
  refine ev_s C dL_law_886 (q := 888) rfl rfl ?_
  refine ev_s C dL_law_888 (q := 889) rfl rfl ?_
  refine ev_s C dL_law_889 (q := 890) rfl rfl ?_
  refine ev_sld X dL_law_890 (q := 891) rfl (by omega) ?_
  refine ev_cV C dL_law_891 (q := 894) rfl km_L_155 kv_X7_frameOf kc_X7_frameOf M2 (st := []) rfl rfl vcX7 go_0 (by rw [X.lev]; omega) (by decide) (by decide) (by rw [X.mc]; omega) (by rw [X.ms]; omega) ?_
  refine ev_s C dL_law_894 (q := 896) rfl rfl ?_
  refine ev_s C dL_law_896 (q := 897) rfl rfl ?_
  refine ev_cV C dL_law_897 (q := 900) rfl km_L_116 kv_X7_thrown kc_X7_thrown c_X7_thrown (st := []) rfl rfl vcX7 go_0 (by rw [X.lev]; decide) (by decide) (by decide) (by rw [X.mc]; omega) (by rw [X.ms]; omega) ?_
  refine ev_eqS (st := [vI kx]) (by rw [h8]; rfl) ?_
  refine ev_s C dL_law_900 (q := 902) rfl rfl ?_
  refine ev_icmp_eq C dL_law_902 (tgt := 907) (q := 905) (by decide) rfl hk hk (fun _ => ?_) (fun h => absurd rfl h)
  refine ev_s C dL_law_907 (q := 909) rfl rfl ?_
  refine ev_if_ne C dL_law_909 (tgt := 924) (q := 912) (by decide) rfl hk (fun e0 => ?_) (fun e0 => ?_)
  · refine ev_goto C dL_law_924 (tgt := 1792) (by decide) ?_
    exact ev_wide (by omega) (by omega) (ev_keep [0, 1, 2, 3, 4, 5] rfl (kk _ _ _ _ h9))
  · refine ev_s C dL_law_912 (q := 913) rfl rfl ?_
    refine ev_s C dL_law_913 (q := 914) rfl rfl ?_
    refine ev_lald (n := 100) (len := 1) (f := fun j => vL (p2 j)) C dL_law_914 (q := 915) rfl rfl rg_0 (by decide) (by decide) ?_
    refine ev_eqS (st := [vL x]) (by rw [← h7 e0]; rfl) ?_
    refine ev_s C dL_law_915 (q := 917) rfl rfl ?_
    refine ev_i2l C dL_law_917 (q := 918) rfl h6 ?_
    refine ev_lcmp C dL_law_918 (q := 919) rfl (rg_L h6) (rg_L h6) ?_
    refine ev_eqS (st := [vI 0]) (by first | rw [cmpI_self] | rfl) ?_
    refine ev_if_eq C dL_law_919 (tgt := 924) (q := 922) (by decide) rfl rg_0 (fun _ => ?_) (fun h => absurd rfl h)
    refine ev_goto C dL_law_924 (tgt := 1792) (by decide) ?_
    exact ev_wide (by omega) (by omega) (ev_keep [0, 1, 2, 3, 4, 5] rfl (kk _ _ _ _ h9))
set_option maxHeartbeats 4000000 in
set_option maxRecDepth 20000 in
theorem cs_12 {k : Kx} {b L : Nat} {xs : Nat → Int32} {t : Int} {u v : SS} {p : Nat → Int} {q : Nat → UInt64} {ct sl : Nat} (X : LX k b L xs) (S : SIM t u v) (hi : 4 * t + 4 ≤ (L : Int)) (hct : ct + 40 ≤ 603072) (hsl : sl + 2500 ≤ 7202922) (kk : ∀ (u2 v2 : SS) (p2 : Nat → Int) (q2 : Nat → UInt64), SIM (t + 1) u2 v2 → EV k 1792 (lL t) [] (mk u2 v2 (gO p2 q2)) (ct + 40) (sl + 2500)) : EV k 927 (lL t) [] (mk u v (gO p q)) ct sl := by
  have hT := S.1
  have hL := X.hL
  have C := X.C
  obtain ⟨kx, x, u2, v2, p2, mc, ms, l, nw, ⟨⟨h1, h2, h3, h4⟩, h5, h6, h7, h8, h9⟩, M1, M2⟩ := st_isReferenced (p := p) (q := q) (a := (sc xs (4 * t + 1))) (b := (sc xs (4 * t + 2))) S (by omega) (sc_rg _ _) (sc_rg _ _)
  have hk : rg kx := by unfold rg; omega
  refine ev_s C dL_law_927 (q := 928) rfl rfl ?_
  refine ev_s C dL_law_928 (q := 929) rfl rfl ?_
  refine ev_s C dL_law_929 (q := 931) rfl rfl ?_
  refine ev_s C dL_law_931 (q := 932) rfl rfl ?_
  refine ev_s C dL_law_932 (q := 933) rfl rfl ?_
  refine ev_sld X dL_law_933 (q := 934) rfl (by omega) ?_
  refine ev_s C dL_law_934 (q := 935) rfl rfl ?_
  refine ev_s C dL_law_935 (q := 937) rfl rfl ?_
  refine ev_s C dL_law_937 (q := 938) rfl rfl ?_
  refine ev_s C dL_law_938 (q := 939) rfl rfl ?_
  refine ev_sld X dL_law_939 (q := 940) rfl (by omega) ?_
  refine ev_s C dL_law_940 (q := 941) rfl rfl ?_
  refine ev_cH X dL_law_941 (q := 944) rfl km_L_156 ks_L_isReferenced kh_L_isReferenced M1 rfl rfl (by decide) (by decide) (by omega) (by omega) h4 ?_
  refine ev_s C dL_law_944 (q := 946) rfl rfl ?_
  refine ev_s C dL_law_946 (q := 947) rfl rfl ?_
  refine ev_s C dL_law_947 (q := 948) rfl rfl ?_
  refine ev_s C dL_law_948 (q := 950) rfl rfl ?_
  refine ev_s C dL_law_950 (q := 951) rfl rfl ?_
  refine ev_s C dL_law_951 (q := 952) rfl rfl ?_
  refine ev_sld X dL_law_952 (q := 953) rfl (by omega) ?_
  refine ev_s C dL_law_953 (q := 954) rfl rfl ?_
  refine ev_s C dL_law_954 (q := 956) rfl rfl ?_
  refine ev_s C dL_law_956 (q := 957) rfl rfl ?_
  refine ev_s C dL_law_957 (q := 958) rfl rfl ?_
  refine ev_sld X dL_law_958 (q := 959) rfl (by omega) ?_
  refine ev_cV C dL_law_959 (q := 962) rfl km_L_158 kv_X7_isReferenced kc_X7_isReferenced M2 (st := []) rfl rfl vcX7 go_0 (by rw [X.lev]; omega) (by decide) (by decide) (by rw [X.mc]; omega) (by rw [X.ms]; omega) ?_
  refine ev_s C dL_law_962 (q := 964) rfl rfl ?_
  refine ev_s C dL_law_964 (q := 965) rfl rfl ?_
  refine ev_cV C dL_law_965 (q := 968) rfl km_L_116 kv_X7_thrown kc_X7_thrown c_X7_thrown (st := []) rfl rfl vcX7 go_0 (by rw [X.lev]; decide) (by decide) (by decide) (by rw [X.mc]; omega) (by rw [X.ms]; omega) ?_
  refine ev_eqS (st := [vI kx]) (by rw [h8]; rfl) ?_
  refine ev_s C dL_law_968 (q := 970) rfl rfl ?_
  refine ev_icmp_eq C dL_law_970 (tgt := 975) (q := 973) (by decide) rfl hk hk (fun _ => ?_) (fun h => absurd rfl h)
  refine ev_s C dL_law_975 (q := 977) rfl rfl ?_
  refine ev_if_ne C dL_law_977 (tgt := 999) (q := 980) (by decide) rfl hk (fun e0 => ?_) (fun e0 => ?_)
  · refine ev_goto C dL_law_999 (tgt := 1792) (by decide) ?_
    exact ev_wide (by omega) (by omega) (ev_keep [0, 1, 2, 3, 4, 5] rfl (kk _ _ _ _ h9))
  · refine ev_s C dL_law_980 (q := 981) rfl rfl ?_
    refine ev_s C dL_law_981 (q := 982) rfl rfl ?_
    refine ev_lald (n := 100) (len := 1) (f := fun j => vL (p2 j)) C dL_law_982 (q := 983) rfl rfl rg_0 (by decide) (by decide) ?_
    refine ev_eqS (st := [vL x]) (by rw [← h7 e0]; rfl) ?_
    refine ev_s C dL_law_983 (q := 985) rfl rfl ?_
    rcases h6 with e6 | e6
    · refine ev_eqS (st := vI 0 :: [vL 0]) (by rw [e6]) ?_
      refine ev_if_eq C dL_law_985 (tgt := 992) (q := 988) (by decide) rfl (by unfold rg; omega) (fun e1 => ?_) (fun e1 => ?_)
      · refine ev_s C dL_law_992 (q := 993) rfl rfl ?_
        refine ev_lcmp C dL_law_993 (q := 994) rfl (by unfold rgL; omega) (by unfold rgL; omega) ?_
        refine ev_eqS (st := [vI 0]) (by first | rw [cmpI_self] | rfl) ?_
        refine ev_if_eq C dL_law_994 (tgt := 999) (q := 997) (by decide) rfl rg_0 (fun _ => ?_) (fun h => absurd rfl h)
        refine ev_goto C dL_law_999 (tgt := 1792) (by decide) ?_
        exact ev_wide (by omega) (by omega) (ev_keep [0, 1, 2, 3, 4, 5] rfl (kk _ _ _ _ h9))
      · exact absurd rfl e1
    · refine ev_eqS (st := vI 1 :: [vL 1]) (by rw [e6]) ?_
      refine ev_if_eq C dL_law_985 (tgt := 992) (q := 988) (by decide) rfl (by unfold rg; omega) (fun e1 => ?_) (fun e1 => ?_)
      · exact absurd e1 (by decide)
      · refine ev_s C dL_law_988 (q := 989) rfl rfl ?_
        refine ev_goto C dL_law_989 (tgt := 993) (by decide) ?_
        refine ev_lcmp C dL_law_993 (q := 994) rfl (by unfold rgL; omega) (by unfold rgL; omega) ?_
        refine ev_eqS (st := [vI 0]) (by first | rw [cmpI_self] | rfl) ?_
        refine ev_if_eq C dL_law_994 (tgt := 999) (q := 997) (by decide) rfl rg_0 (fun _ => ?_) (fun h => absurd rfl h)
        refine ev_goto C dL_law_999 (tgt := 1792) (by decide) ?_
        exact ev_wide (by omega) (by omega) (ev_keep [0, 1, 2, 3, 4, 5] rfl (kk _ _ _ _ h9))
set_option maxHeartbeats 4000000 in
set_option maxRecDepth 20000 in
theorem cs_13 {k : Kx} {b L : Nat} {xs : Nat → Int32} {t : Int} {u v : SS} {p : Nat → Int} {q : Nat → UInt64} {ct sl : Nat} (X : LX k b L xs) (S : SIM t u v) (hi : 4 * t + 4 ≤ (L : Int)) (hct : ct + 40 ≤ 603072) (hsl : sl + 2500 ≤ 7202922) (kk : ∀ (u2 v2 : SS) (p2 : Nat → Int) (q2 : Nat → UInt64), SIM (t + 1) u2 v2 → EV k 1792 (lL t) [] (mk u2 v2 (gO p2 q2)) (ct + 40) (sl + 2500)) : EV k 1002 (lL t) [] (mk u v (gO p q)) ct sl := by
  have hT := S.1
  have hL := X.hL
  have C := X.C
  obtain ⟨x, u2, v2, l1, l2, ⟨h1, h2, h3, h4⟩, M1, M2⟩ := qs_hand (g := gO p q) S
  refine ev_s C dL_law_1002 (q := 1003) rfl rfl ?_
  refine ev_cV C dL_law_1003 (q := 1006) rfl km_L_159 kv_X6_hand kc_X6_hand M1 (st := []) rfl rfl vcX6 rfl (by rw [X.lev]; omega) (by decide) (by decide) (by rw [X.mc]; omega) (by rw [X.ms]; omega) ?_
  refine ev_s C dL_law_1006 (q := 1007) rfl rfl ?_
  refine ev_cV C dL_law_1007 (q := 1010) rfl km_L_162 kv_X7_hand kc_X7_hand M2 (st := [vI x]) rfl rfl vcX7 go_0 (by rw [X.lev]; omega) (by decide) (Nat.le_of_ble_eq_true rfl) (by rw [X.mc]; omega) (by rw [X.ms]; omega) ?_
  refine ev_icmp_eq C dL_law_1010 (tgt := 1792) (q := 1013) (by decide) rfl h3 h3 (fun _ => ?_) (fun h => absurd rfl h)
  exact ev_wide (by omega) (by omega) (ev_keep [0, 1, 2, 3, 4, 5] rfl (kk _ _ _ _ h4))
set_option maxHeartbeats 4000000 in
set_option maxRecDepth 20000 in
theorem cs_14 {k : Kx} {b L : Nat} {xs : Nat → Int32} {t : Int} {u v : SS} {p : Nat → Int} {q : Nat → UInt64} {ct sl : Nat} (X : LX k b L xs) (S : SIM t u v) (hi : 4 * t + 4 ≤ (L : Int)) (hct : ct + 40 ≤ 603072) (hsl : sl + 2500 ≤ 7202922) (kk : ∀ (u2 v2 : SS) (p2 : Nat → Int) (q2 : Nat → UInt64), SIM (t + 1) u2 v2 → EV k 1792 (lL t) [] (mk u2 v2 (gO p2 q2)) (ct + 40) (sl + 2500)) : EV k 1015 (lL t) [] (mk u v (gO p q)) ct sl := by
  have hT := S.1
  have hL := X.hL
  have C := X.C
  obtain ⟨x, u2, v2, l1, l2, ⟨h1, h2, h3, h4⟩, M1, M2⟩ := qs_free (g := gO p q) S
  refine ev_s C dL_law_1015 (q := 1016) rfl rfl ?_
  refine ev_cV C dL_law_1016 (q := 1019) rfl km_L_163 kv_X6_free kc_X6_free M1 (st := []) rfl rfl vcX6 rfl (by rw [X.lev]; omega) (by decide) (by decide) (by rw [X.mc]; omega) (by rw [X.ms]; omega) ?_
  refine ev_s C dL_law_1019 (q := 1020) rfl rfl ?_
  refine ev_cV C dL_law_1020 (q := 1023) rfl km_L_166 kv_X7_free kc_X7_free M2 (st := [vI x]) rfl rfl vcX7 go_0 (by rw [X.lev]; omega) (by decide) (Nat.le_of_ble_eq_true rfl) (by rw [X.mc]; omega) (by rw [X.ms]; omega) ?_
  refine ev_icmp_eq C dL_law_1023 (tgt := 1792) (q := 1026) (by decide) rfl h3 h3 (fun _ => ?_) (fun h => absurd rfl h)
  exact ev_wide (by omega) (by omega) (ev_keep [0, 1, 2, 3, 4, 5] rfl (kk _ _ _ _ h4))
set_option maxHeartbeats 4000000 in
set_option maxRecDepth 20000 in
theorem cs_15 {k : Kx} {b L : Nat} {xs : Nat → Int32} {t : Int} {u v : SS} {p : Nat → Int} {q : Nat → UInt64} {ct sl : Nat} (X : LX k b L xs) (S : SIM t u v) (hi : 4 * t + 4 ≤ (L : Int)) (hct : ct + 40 ≤ 603072) (hsl : sl + 2500 ≤ 7202922) (kk : ∀ (u2 v2 : SS) (p2 : Nat → Int) (q2 : Nat → UInt64), SIM (t + 1) u2 v2 → EV k 1792 (lL t) [] (mk u2 v2 (gO p2 q2)) (ct + 40) (sl + 2500)) : EV k 1028 (lL t) [] (mk u v (gO p q)) ct sl := by
  have hT := S.1
  have hL := X.hL
  have C := X.C
  obtain ⟨x, u2, v2, l1, l2, ⟨h1, h2, h3, h4⟩, M1, M2⟩ := qs_stored (g := gO p q) S
  refine ev_s C dL_law_1028 (q := 1029) rfl rfl ?_
  refine ev_cV C dL_law_1029 (q := 1032) rfl km_L_167 kv_X6_stored kc_X6_stored M1 (st := []) rfl rfl vcX6 rfl (by rw [X.lev]; omega) (by decide) (by decide) (by rw [X.mc]; omega) (by rw [X.ms]; omega) ?_
  refine ev_s C dL_law_1032 (q := 1033) rfl rfl ?_
  refine ev_cV C dL_law_1033 (q := 1036) rfl km_L_170 kv_X7_stored kc_X7_stored M2 (st := [vI x]) rfl rfl vcX7 go_0 (by rw [X.lev]; omega) (by decide) (Nat.le_of_ble_eq_true rfl) (by rw [X.mc]; omega) (by rw [X.ms]; omega) ?_
  refine ev_icmp_eq C dL_law_1036 (tgt := 1792) (q := 1039) (by decide) rfl h3 h3 (fun _ => ?_) (fun h => absurd rfl h)
  exact ev_wide (by omega) (by omega) (ev_keep [0, 1, 2, 3, 4, 5] rfl (kk _ _ _ _ h4))
set_option maxHeartbeats 4000000 in
set_option maxRecDepth 20000 in
theorem cs_16 {k : Kx} {b L : Nat} {xs : Nat → Int32} {t : Int} {u v : SS} {p : Nat → Int} {q : Nat → UInt64} {ct sl : Nat} (X : LX k b L xs) (S : SIM t u v) (hi : 4 * t + 4 ≤ (L : Int)) (hct : ct + 40 ≤ 603072) (hsl : sl + 2500 ≤ 7202922) (kk : ∀ (u2 v2 : SS) (p2 : Nat → Int) (q2 : Nat → UInt64), SIM (t + 1) u2 v2 → EV k 1792 (lL t) [] (mk u2 v2 (gO p2 q2)) (ct + 40) (sl + 2500)) : EV k 1041 (lL t) [] (mk u v (gO p q)) ct sl := by
  have hT := S.1
  have hL := X.hL
  have C := X.C
  obtain ⟨kx, x, u2, v2, p2, mc, ms, l, nw, ⟨⟨h1, h2, h3, h4⟩, h5, h6, h7, h8, h9⟩, M1, M2⟩ := st_storedAt (p := p) (q := q) (a := (sc xs (4 * t + 1))) S (by omega) (sc_rg _ _)
  have hk : rg kx := by unfold rg; omega
  refine ev_s C dL_law_1041 (q := 1042) rfl rfl ?_
  refine ev_s C dL_law_1042 (q := 1043) rfl rfl ?_
  refine ev_s C dL_law_1043 (q := 1045) rfl rfl ?_
  refine ev_s C dL_law_1045 (q := 1046) rfl rfl ?_
  refine ev_s C dL_law_1046 (q := 1047) rfl rfl ?_
  refine ev_sld X dL_law_1047 (q := 1048) rfl (by omega) ?_
  refine ev_s C dL_law_1048 (q := 1049) rfl rfl ?_
  refine ev_cH X dL_law_1049 (q := 1052) rfl km_L_171 ks_L_storedAt kh_L_storedAt M1 rfl rfl (by decide) (by decide) (by omega) (by omega) h4 ?_
  refine ev_s C dL_law_1052 (q := 1054) rfl rfl ?_
  refine ev_s C dL_law_1054 (q := 1055) rfl rfl ?_
  refine ev_s C dL_law_1055 (q := 1056) rfl rfl ?_
  refine ev_s C dL_law_1056 (q := 1058) rfl rfl ?_
  refine ev_s C dL_law_1058 (q := 1059) rfl rfl ?_
  refine ev_s C dL_law_1059 (q := 1060) rfl rfl ?_
  refine ev_sld X dL_law_1060 (q := 1061) rfl (by omega) ?_
  refine ev_cV C dL_law_1061 (q := 1064) rfl km_L_173 kv_X7_storedAt kc_X7_storedAt M2 (st := []) rfl rfl vcX7 go_0 (by rw [X.lev]; omega) (by decide) (by decide) (by rw [X.mc]; omega) (by rw [X.ms]; omega) ?_
  refine ev_s C dL_law_1064 (q := 1066) rfl rfl ?_
  refine ev_s C dL_law_1066 (q := 1067) rfl rfl ?_
  refine ev_cV C dL_law_1067 (q := 1070) rfl km_L_116 kv_X7_thrown kc_X7_thrown c_X7_thrown (st := []) rfl rfl vcX7 go_0 (by rw [X.lev]; decide) (by decide) (by decide) (by rw [X.mc]; omega) (by rw [X.ms]; omega) ?_
  refine ev_eqS (st := [vI kx]) (by rw [h8]; rfl) ?_
  refine ev_s C dL_law_1070 (q := 1072) rfl rfl ?_
  refine ev_icmp_eq C dL_law_1072 (tgt := 1077) (q := 1075) (by decide) rfl hk hk (fun _ => ?_) (fun h => absurd rfl h)
  refine ev_s C dL_law_1077 (q := 1079) rfl rfl ?_
  refine ev_if_ne C dL_law_1079 (tgt := 1094) (q := 1082) (by decide) rfl hk (fun e0 => ?_) (fun e0 => ?_)
  · refine ev_goto C dL_law_1094 (tgt := 1792) (by decide) ?_
    exact ev_wide (by omega) (by omega) (ev_keep [0, 1, 2, 3, 4, 5] rfl (kk _ _ _ _ h9))
  · refine ev_s C dL_law_1082 (q := 1083) rfl rfl ?_
    refine ev_s C dL_law_1083 (q := 1084) rfl rfl ?_
    refine ev_lald (n := 100) (len := 1) (f := fun j => vL (p2 j)) C dL_law_1084 (q := 1085) rfl rfl rg_0 (by decide) (by decide) ?_
    refine ev_eqS (st := [vL x]) (by rw [← h7 e0]; rfl) ?_
    refine ev_s C dL_law_1085 (q := 1087) rfl rfl ?_
    refine ev_i2l C dL_law_1087 (q := 1088) rfl h6 ?_
    refine ev_lcmp C dL_law_1088 (q := 1089) rfl (rg_L h6) (rg_L h6) ?_
    refine ev_eqS (st := [vI 0]) (by first | rw [cmpI_self] | rfl) ?_
    refine ev_if_eq C dL_law_1089 (tgt := 1094) (q := 1092) (by decide) rfl rg_0 (fun _ => ?_) (fun h => absurd rfl h)
    refine ev_goto C dL_law_1094 (tgt := 1792) (by decide) ?_
    exact ev_wide (by omega) (by omega) (ev_keep [0, 1, 2, 3, 4, 5] rfl (kk _ _ _ _ h9))
set_option maxHeartbeats 4000000 in
set_option maxRecDepth 20000 in
theorem cs_17 {k : Kx} {b L : Nat} {xs : Nat → Int32} {t : Int} {u v : SS} {p : Nat → Int} {q : Nat → UInt64} {ct sl : Nat} (X : LX k b L xs) (S : SIM t u v) (hi : 4 * t + 4 ≤ (L : Int)) (hct : ct + 40 ≤ 603072) (hsl : sl + 2500 ≤ 7202922) (kk : ∀ (u2 v2 : SS) (p2 : Nat → Int) (q2 : Nat → UInt64), SIM (t + 1) u2 v2 → EV k 1792 (lL t) [] (mk u2 v2 (gO p2 q2)) (ct + 40) (sl + 2500)) : EV k 1097 (lL t) [] (mk u v (gO p q)) ct sl := by
  have hT := S.1
  have hL := X.hL
  have C := X.C
  obtain ⟨x, u2, v2, l1, l2, ⟨h1, h2, h3, h4⟩, M1, M2⟩ := qs_onDisk (g := gO p q) S
  refine ev_s C dL_law_1097 (q := 1098) rfl rfl ?_
  refine ev_cV C dL_law_1098 (q := 1101) rfl km_L_174 kv_X6_onDisk kc_X6_onDisk M1 (st := []) rfl rfl vcX6 rfl (by rw [X.lev]; omega) (by decide) (by decide) (by rw [X.mc]; omega) (by rw [X.ms]; omega) ?_
  refine ev_s C dL_law_1101 (q := 1102) rfl rfl ?_
  refine ev_cV C dL_law_1102 (q := 1105) rfl km_L_177 kv_X7_onDisk kc_X7_onDisk M2 (st := [vI x]) rfl rfl vcX7 go_0 (by rw [X.lev]; omega) (by decide) (Nat.le_of_ble_eq_true rfl) (by rw [X.mc]; omega) (by rw [X.ms]; omega) ?_
  refine ev_icmp_eq C dL_law_1105 (tgt := 1792) (q := 1108) (by decide) rfl h3 h3 (fun _ => ?_) (fun h => absurd rfl h)
  exact ev_wide (by omega) (by omega) (ev_keep [0, 1, 2, 3, 4, 5] rfl (kk _ _ _ _ h4))
set_option maxHeartbeats 4000000 in
set_option maxRecDepth 20000 in
theorem cs_18 {k : Kx} {b L : Nat} {xs : Nat → Int32} {t : Int} {u v : SS} {p : Nat → Int} {q : Nat → UInt64} {ct sl : Nat} (X : LX k b L xs) (S : SIM t u v) (hi : 4 * t + 4 ≤ (L : Int)) (hct : ct + 40 ≤ 603072) (hsl : sl + 2500 ≤ 7202922) (kk : ∀ (u2 v2 : SS) (p2 : Nat → Int) (q2 : Nat → UInt64), SIM (t + 1) u2 v2 → EV k 1792 (lL t) [] (mk u2 v2 (gO p2 q2)) (ct + 40) (sl + 2500)) : EV k 1110 (lL t) [] (mk u v (gO p q)) ct sl := by
  have hT := S.1
  have hL := X.hL
  have C := X.C
  obtain ⟨kx, x, u2, v2, p2, mc, ms, l, nw, ⟨⟨h1, h2, h3, h4⟩, h5, h6, h7, h8, h9⟩, M1, M2⟩ := st_pagesIn (p := p) (q := q) (a := (sc xs (4 * t + 1))) (b := ((sc xs (4 * t + 2)) % 65536)) S (by omega) (sc_rg _ _) (sc_ch _)
  have hk : rg kx := by unfold rg; omega
  refine ev_s C dL_law_1110 (q := 1111) rfl rfl ?_
  refine ev_s C dL_law_1111 (q := 1112) rfl rfl ?_
  refine ev_s C dL_law_1112 (q := 1114) rfl rfl ?_
  refine ev_s C dL_law_1114 (q := 1115) rfl rfl ?_
  refine ev_s C dL_law_1115 (q := 1116) rfl rfl ?_
  refine ev_sld X dL_law_1116 (q := 1117) rfl (by omega) ?_
  refine ev_s C dL_law_1117 (q := 1118) rfl rfl ?_
  refine ev_s C dL_law_1118 (q := 1120) rfl rfl ?_
  refine ev_s C dL_law_1120 (q := 1121) rfl rfl ?_
  refine ev_s C dL_law_1121 (q := 1122) rfl rfl ?_
  refine ev_sld X dL_law_1122 (q := 1123) rfl (by omega) ?_
  refine ev_i2c C dL_law_1123 (q := 1124) rfl ?_
  refine ev_s C dL_law_1124 (q := 1125) rfl rfl ?_
  refine ev_cH X dL_law_1125 (q := 1128) rfl km_L_178 ks_L_pagesIn kh_L_pagesIn M1 rfl rfl (by decide) (by decide) (by omega) (by omega) h4 ?_
  refine ev_s C dL_law_1128 (q := 1130) rfl rfl ?_
  refine ev_s C dL_law_1130 (q := 1131) rfl rfl ?_
  refine ev_s C dL_law_1131 (q := 1132) rfl rfl ?_
  refine ev_s C dL_law_1132 (q := 1134) rfl rfl ?_
  refine ev_s C dL_law_1134 (q := 1135) rfl rfl ?_
  refine ev_s C dL_law_1135 (q := 1136) rfl rfl ?_
  refine ev_sld X dL_law_1136 (q := 1137) rfl (by omega) ?_
  refine ev_s C dL_law_1137 (q := 1138) rfl rfl ?_
  refine ev_s C dL_law_1138 (q := 1140) rfl rfl ?_
  refine ev_s C dL_law_1140 (q := 1141) rfl rfl ?_
  refine ev_s C dL_law_1141 (q := 1142) rfl rfl ?_
  refine ev_sld X dL_law_1142 (q := 1143) rfl (by omega) ?_
  refine ev_i2c C dL_law_1143 (q := 1144) rfl ?_
  refine ev_cV C dL_law_1144 (q := 1147) rfl km_L_181 kv_X7_pagesIn kc_X7_pagesIn M2 (st := []) rfl rfl vcX7 go_0 (by rw [X.lev]; omega) (by decide) (by decide) (by rw [X.mc]; omega) (by rw [X.ms]; omega) ?_
  refine ev_s C dL_law_1147 (q := 1149) rfl rfl ?_
  refine ev_s C dL_law_1149 (q := 1150) rfl rfl ?_
  refine ev_cV C dL_law_1150 (q := 1153) rfl km_L_116 kv_X7_thrown kc_X7_thrown c_X7_thrown (st := []) rfl rfl vcX7 go_0 (by rw [X.lev]; decide) (by decide) (by decide) (by rw [X.mc]; omega) (by rw [X.ms]; omega) ?_
  refine ev_eqS (st := [vI kx]) (by rw [h8]; rfl) ?_
  refine ev_s C dL_law_1153 (q := 1155) rfl rfl ?_
  refine ev_icmp_eq C dL_law_1155 (tgt := 1160) (q := 1158) (by decide) rfl hk hk (fun _ => ?_) (fun h => absurd rfl h)
  refine ev_s C dL_law_1160 (q := 1162) rfl rfl ?_
  refine ev_if_ne C dL_law_1162 (tgt := 1177) (q := 1165) (by decide) rfl hk (fun e0 => ?_) (fun e0 => ?_)
  · refine ev_goto C dL_law_1177 (tgt := 1792) (by decide) ?_
    exact ev_wide (by omega) (by omega) (ev_keep [0, 1, 2, 3, 4, 5] rfl (kk _ _ _ _ h9))
  · refine ev_s C dL_law_1165 (q := 1166) rfl rfl ?_
    refine ev_s C dL_law_1166 (q := 1167) rfl rfl ?_
    refine ev_lald (n := 100) (len := 1) (f := fun j => vL (p2 j)) C dL_law_1167 (q := 1168) rfl rfl rg_0 (by decide) (by decide) ?_
    refine ev_eqS (st := [vL x]) (by rw [← h7 e0]; rfl) ?_
    refine ev_s C dL_law_1168 (q := 1170) rfl rfl ?_
    refine ev_i2l C dL_law_1170 (q := 1171) rfl h6 ?_
    refine ev_lcmp C dL_law_1171 (q := 1172) rfl (rg_L h6) (rg_L h6) ?_
    refine ev_eqS (st := [vI 0]) (by first | rw [cmpI_self] | rfl) ?_
    refine ev_if_eq C dL_law_1172 (tgt := 1177) (q := 1175) (by decide) rfl rg_0 (fun _ => ?_) (fun h => absurd rfl h)
    refine ev_goto C dL_law_1177 (tgt := 1792) (by decide) ?_
    exact ev_wide (by omega) (by omega) (ev_keep [0, 1, 2, 3, 4, 5] rfl (kk _ _ _ _ h9))
set_option maxHeartbeats 4000000 in
set_option maxRecDepth 20000 in
theorem cs_19 {k : Kx} {b L : Nat} {xs : Nat → Int32} {t : Int} {u v : SS} {p : Nat → Int} {q : Nat → UInt64} {ct sl : Nat} (X : LX k b L xs) (S : SIM t u v) (hi : 4 * t + 4 ≤ (L : Int)) (hct : ct + 40 ≤ 603072) (hsl : sl + 2500 ≤ 7202922) (kk : ∀ (u2 v2 : SS) (p2 : Nat → Int) (q2 : Nat → UInt64), SIM (t + 1) u2 v2 → EV k 1792 (lL t) [] (mk u2 v2 (gO p2 q2)) (ct + 40) (sl + 2500)) : EV k 1180 (lL t) [] (mk u v (gO p q)) ct sl := by
  have hT := S.1
  have hL := X.hL
  have C := X.C
  obtain ⟨x, u2, v2, l1, l2, ⟨h1, h2, h3, h4⟩, M1, M2⟩ := qs_pressure (g := gO p q) S
  refine ev_s C dL_law_1180 (q := 1181) rfl rfl ?_
  refine ev_cV C dL_law_1181 (q := 1184) rfl km_L_182 kv_X6_pressure kc_X6_pressure M1 (st := []) rfl rfl vcX6 rfl (by rw [X.lev]; omega) (by decide) (by decide) (by rw [X.mc]; omega) (by rw [X.ms]; omega) ?_
  refine ev_s C dL_law_1184 (q := 1185) rfl rfl ?_
  refine ev_cV C dL_law_1185 (q := 1188) rfl km_L_185 kv_X7_pressure kc_X7_pressure M2 (st := [vI x]) rfl rfl vcX7 go_0 (by rw [X.lev]; omega) (by decide) (Nat.le_of_ble_eq_true rfl) (by rw [X.mc]; omega) (by rw [X.ms]; omega) ?_
  refine ev_icmp_eq C dL_law_1188 (tgt := 1792) (q := 1191) (by decide) rfl h3 h3 (fun _ => ?_) (fun h => absurd rfl h)
  exact ev_wide (by omega) (by omega) (ev_keep [0, 1, 2, 3, 4, 5] rfl (kk _ _ _ _ h4))
set_option maxHeartbeats 4000000 in
set_option maxRecDepth 20000 in
theorem cs_20 {k : Kx} {b L : Nat} {xs : Nat → Int32} {t : Int} {u v : SS} {p : Nat → Int} {q : Nat → UInt64} {ct sl : Nat} (X : LX k b L xs) (S : SIM t u v) (hi : 4 * t + 4 ≤ (L : Int)) (hct : ct + 40 ≤ 603072) (hsl : sl + 2500 ≤ 7202922) (kk : ∀ (u2 v2 : SS) (p2 : Nat → Int) (q2 : Nat → UInt64), SIM (t + 1) u2 v2 → EV k 1792 (lL t) [] (mk u2 v2 (gO p2 q2)) (ct + 40) (sl + 2500)) : EV k 1193 (lL t) [] (mk u v (gO p q)) ct sl := by
  have hT := S.1
  have hL := X.hL
  have C := X.C
  obtain ⟨kx, x, u2, v2, p2, mc, ms, l, nw, ⟨⟨h1, h2, h3, h4⟩, h5, h6, h7, h8, h9⟩, M1, M2⟩ := st_stallsOf (p := p) (q := q) (a := (sc xs (4 * t + 1))) S (by omega) (sc_rg _ _)
  have hk : rg kx := by unfold rg; omega
  refine ev_s C dL_law_1193 (q := 1194) rfl rfl ?_
  refine ev_s C dL_law_1194 (q := 1195) rfl rfl ?_
  refine ev_s C dL_law_1195 (q := 1197) rfl rfl ?_
  refine ev_s C dL_law_1197 (q := 1198) rfl rfl ?_
  refine ev_s C dL_law_1198 (q := 1199) rfl rfl ?_
  refine ev_sld X dL_law_1199 (q := 1200) rfl (by omega) ?_
  refine ev_s C dL_law_1200 (q := 1201) rfl rfl ?_
  refine ev_cH X dL_law_1201 (q := 1204) rfl km_L_186 ks_L_stallsOf kh_L_stallsOf M1 rfl rfl (by decide) (by decide) (by omega) (by omega) h4 ?_
  refine ev_s C dL_law_1204 (q := 1206) rfl rfl ?_
  refine ev_s C dL_law_1206 (q := 1207) rfl rfl ?_
  refine ev_s C dL_law_1207 (q := 1208) rfl rfl ?_
  refine ev_s C dL_law_1208 (q := 1210) rfl rfl ?_
  refine ev_s C dL_law_1210 (q := 1211) rfl rfl ?_
  refine ev_s C dL_law_1211 (q := 1212) rfl rfl ?_
  refine ev_sld X dL_law_1212 (q := 1213) rfl (by omega) ?_
  refine ev_cV C dL_law_1213 (q := 1216) rfl km_L_188 kv_X7_stallsOf kc_X7_stallsOf M2 (st := []) rfl rfl vcX7 go_0 (by rw [X.lev]; omega) (by decide) (by decide) (by rw [X.mc]; omega) (by rw [X.ms]; omega) ?_
  refine ev_s C dL_law_1216 (q := 1218) rfl rfl ?_
  refine ev_s C dL_law_1218 (q := 1219) rfl rfl ?_
  refine ev_cV C dL_law_1219 (q := 1222) rfl km_L_116 kv_X7_thrown kc_X7_thrown c_X7_thrown (st := []) rfl rfl vcX7 go_0 (by rw [X.lev]; decide) (by decide) (by decide) (by rw [X.mc]; omega) (by rw [X.ms]; omega) ?_
  refine ev_eqS (st := [vI kx]) (by rw [h8]; rfl) ?_
  refine ev_s C dL_law_1222 (q := 1224) rfl rfl ?_
  refine ev_icmp_eq C dL_law_1224 (tgt := 1229) (q := 1227) (by decide) rfl hk hk (fun _ => ?_) (fun h => absurd rfl h)
  refine ev_s C dL_law_1229 (q := 1231) rfl rfl ?_
  refine ev_if_ne C dL_law_1231 (tgt := 1245) (q := 1234) (by decide) rfl hk (fun e0 => ?_) (fun e0 => ?_)
  · refine ev_goto C dL_law_1245 (tgt := 1792) (by decide) ?_
    exact ev_wide (by omega) (by omega) (ev_keep [0, 1, 2, 3, 4, 5] rfl (kk _ _ _ _ h9))
  · refine ev_s C dL_law_1234 (q := 1235) rfl rfl ?_
    refine ev_s C dL_law_1235 (q := 1236) rfl rfl ?_
    refine ev_lald (n := 100) (len := 1) (f := fun j => vL (p2 j)) C dL_law_1236 (q := 1237) rfl rfl rg_0 (by decide) (by decide) ?_
    refine ev_eqS (st := [vL x]) (by rw [← h7 e0]; rfl) ?_
    refine ev_s C dL_law_1237 (q := 1239) rfl rfl ?_
    refine ev_lcmp C dL_law_1239 (q := 1240) rfl h6 h6 ?_
    refine ev_eqS (st := [vI 0]) (by first | rw [cmpI_self] | rfl) ?_
    refine ev_if_eq C dL_law_1240 (tgt := 1245) (q := 1243) (by decide) rfl rg_0 (fun _ => ?_) (fun h => absurd rfl h)
    refine ev_goto C dL_law_1245 (tgt := 1792) (by decide) ?_
    exact ev_wide (by omega) (by omega) (ev_keep [0, 1, 2, 3, 4, 5] rfl (kk _ _ _ _ h9))
set_option maxHeartbeats 4000000 in
set_option maxRecDepth 20000 in
theorem cs_21 {k : Kx} {b L : Nat} {xs : Nat → Int32} {t : Int} {u v : SS} {p : Nat → Int} {q : Nat → UInt64} {ct sl : Nat} (X : LX k b L xs) (S : SIM t u v) (hi : 4 * t + 4 ≤ (L : Int)) (hct : ct + 40 ≤ 603072) (hsl : sl + 2500 ≤ 7202922) (kk : ∀ (u2 v2 : SS) (p2 : Nat → Int) (q2 : Nat → UInt64), SIM (t + 1) u2 v2 → EV k 1792 (lL t) [] (mk u2 v2 (gO p2 q2)) (ct + 40) (sl + 2500)) : EV k 1248 (lL t) [] (mk u v (gO p q)) ct sl := by
  have hT := S.1
  have hL := X.hL
  have C := X.C
  obtain ⟨kx, x, u2, v2, p2, mc, ms, l, nw, ⟨⟨h1, h2, h3, h4⟩, h5, h6, h7, h8, h9⟩, M1, M2⟩ := st_stateOf (p := p) (q := q) (a := (sc xs (4 * t + 1))) S (by omega) (sc_rg _ _)
  have hk : rg kx := by unfold rg; omega
  refine ev_s C dL_law_1248 (q := 1249) rfl rfl ?_
  refine ev_s C dL_law_1249 (q := 1250) rfl rfl ?_
  refine ev_s C dL_law_1250 (q := 1252) rfl rfl ?_
  refine ev_s C dL_law_1252 (q := 1253) rfl rfl ?_
  refine ev_s C dL_law_1253 (q := 1254) rfl rfl ?_
  refine ev_sld X dL_law_1254 (q := 1255) rfl (by omega) ?_
  refine ev_s C dL_law_1255 (q := 1256) rfl rfl ?_
  refine ev_cH X dL_law_1256 (q := 1259) rfl km_L_189 ks_L_stateOf kh_L_stateOf M1 rfl rfl (by decide) (by decide) (by omega) (by omega) h4 ?_
  refine ev_s C dL_law_1259 (q := 1261) rfl rfl ?_
  refine ev_s C dL_law_1261 (q := 1262) rfl rfl ?_
  refine ev_s C dL_law_1262 (q := 1263) rfl rfl ?_
  refine ev_s C dL_law_1263 (q := 1265) rfl rfl ?_
  refine ev_s C dL_law_1265 (q := 1266) rfl rfl ?_
  refine ev_s C dL_law_1266 (q := 1267) rfl rfl ?_
  refine ev_sld X dL_law_1267 (q := 1268) rfl (by omega) ?_
  refine ev_cV C dL_law_1268 (q := 1271) rfl km_L_191 kv_X7_stateOf kc_X7_stateOf M2 (st := []) rfl rfl vcX7 go_0 (by rw [X.lev]; omega) (by decide) (by decide) (by rw [X.mc]; omega) (by rw [X.ms]; omega) ?_
  refine ev_s C dL_law_1271 (q := 1273) rfl rfl ?_
  refine ev_s C dL_law_1273 (q := 1274) rfl rfl ?_
  refine ev_cV C dL_law_1274 (q := 1277) rfl km_L_116 kv_X7_thrown kc_X7_thrown c_X7_thrown (st := []) rfl rfl vcX7 go_0 (by rw [X.lev]; decide) (by decide) (by decide) (by rw [X.mc]; omega) (by rw [X.ms]; omega) ?_
  refine ev_eqS (st := [vI kx]) (by rw [h8]; rfl) ?_
  refine ev_s C dL_law_1277 (q := 1279) rfl rfl ?_
  refine ev_icmp_eq C dL_law_1279 (tgt := 1284) (q := 1282) (by decide) rfl hk hk (fun _ => ?_) (fun h => absurd rfl h)
  refine ev_s C dL_law_1284 (q := 1286) rfl rfl ?_
  refine ev_if_ne C dL_law_1286 (tgt := 1301) (q := 1289) (by decide) rfl hk (fun e0 => ?_) (fun e0 => ?_)
  · refine ev_goto C dL_law_1301 (tgt := 1792) (by decide) ?_
    exact ev_wide (by omega) (by omega) (ev_keep [0, 1, 2, 3, 4, 5] rfl (kk _ _ _ _ h9))
  · refine ev_s C dL_law_1289 (q := 1290) rfl rfl ?_
    refine ev_s C dL_law_1290 (q := 1291) rfl rfl ?_
    refine ev_lald (n := 100) (len := 1) (f := fun j => vL (p2 j)) C dL_law_1291 (q := 1292) rfl rfl rg_0 (by decide) (by decide) ?_
    refine ev_eqS (st := [vL x]) (by rw [← h7 e0]; rfl) ?_
    refine ev_s C dL_law_1292 (q := 1294) rfl rfl ?_
    refine ev_i2l C dL_law_1294 (q := 1295) rfl h6 ?_
    refine ev_lcmp C dL_law_1295 (q := 1296) rfl (rg_L h6) (rg_L h6) ?_
    refine ev_eqS (st := [vI 0]) (by first | rw [cmpI_self] | rfl) ?_
    refine ev_if_eq C dL_law_1296 (tgt := 1301) (q := 1299) (by decide) rfl rg_0 (fun _ => ?_) (fun h => absurd rfl h)
    refine ev_goto C dL_law_1301 (tgt := 1792) (by decide) ?_
    exact ev_wide (by omega) (by omega) (ev_keep [0, 1, 2, 3, 4, 5] rfl (kk _ _ _ _ h9))
set_option maxHeartbeats 4000000 in
set_option maxRecDepth 20000 in
theorem cs_22 {k : Kx} {b L : Nat} {xs : Nat → Int32} {t : Int} {u v : SS} {p : Nat → Int} {q : Nat → UInt64} {ct sl : Nat} (X : LX k b L xs) (S : SIM t u v) (hi : 4 * t + 4 ≤ (L : Int)) (hct : ct + 40 ≤ 603072) (hsl : sl + 2500 ≤ 7202922) (kk : ∀ (u2 v2 : SS) (p2 : Nat → Int) (q2 : Nat → UInt64), SIM (t + 1) u2 v2 → EV k 1792 (lL t) [] (mk u2 v2 (gO p2 q2)) (ct + 40) (sl + 2500)) : EV k 1304 (lL t) [] (mk u v (gO p q)) ct sl := by
  have hT := S.1
  have hL := X.hL
  have C := X.C
  obtain ⟨kx, x, u2, v2, p2, mc, ms, l, nw, ⟨⟨h1, h2, h3, h4⟩, h5, h6, h7, h8, h9⟩, M1, M2⟩ := st_waitsFor (p := p) (q := q) (a := (sc xs (4 * t + 1))) S (by omega) (sc_rg _ _)
  have hk : rg kx := by unfold rg; omega
  refine ev_s C dL_law_1304 (q := 1305) rfl rfl ?_
  refine ev_s C dL_law_1305 (q := 1306) rfl rfl ?_
  refine ev_s C dL_law_1306 (q := 1308) rfl rfl ?_
  refine ev_s C dL_law_1308 (q := 1309) rfl rfl ?_
  refine ev_s C dL_law_1309 (q := 1310) rfl rfl ?_
  refine ev_sld X dL_law_1310 (q := 1311) rfl (by omega) ?_
  refine ev_s C dL_law_1311 (q := 1312) rfl rfl ?_
  refine ev_cH X dL_law_1312 (q := 1315) rfl km_L_192 ks_L_waitsFor kh_L_waitsFor M1 rfl rfl (by decide) (by decide) (by omega) (by omega) h4 ?_
  refine ev_s C dL_law_1315 (q := 1317) rfl rfl ?_
  refine ev_s C dL_law_1317 (q := 1318) rfl rfl ?_
  refine ev_s C dL_law_1318 (q := 1319) rfl rfl ?_
  refine ev_s C dL_law_1319 (q := 1321) rfl rfl ?_
  refine ev_s C dL_law_1321 (q := 1322) rfl rfl ?_
  refine ev_s C dL_law_1322 (q := 1323) rfl rfl ?_
  refine ev_sld X dL_law_1323 (q := 1324) rfl (by omega) ?_
  refine ev_cV C dL_law_1324 (q := 1327) rfl km_L_194 kv_X7_waitsFor kc_X7_waitsFor M2 (st := []) rfl rfl vcX7 go_0 (by rw [X.lev]; omega) (by decide) (by decide) (by rw [X.mc]; omega) (by rw [X.ms]; omega) ?_
  refine ev_s C dL_law_1327 (q := 1329) rfl rfl ?_
  refine ev_s C dL_law_1329 (q := 1330) rfl rfl ?_
  refine ev_cV C dL_law_1330 (q := 1333) rfl km_L_116 kv_X7_thrown kc_X7_thrown c_X7_thrown (st := []) rfl rfl vcX7 go_0 (by rw [X.lev]; decide) (by decide) (by decide) (by rw [X.mc]; omega) (by rw [X.ms]; omega) ?_
  refine ev_eqS (st := [vI kx]) (by rw [h8]; rfl) ?_
  refine ev_s C dL_law_1333 (q := 1335) rfl rfl ?_
  refine ev_icmp_eq C dL_law_1335 (tgt := 1340) (q := 1338) (by decide) rfl hk hk (fun _ => ?_) (fun h => absurd rfl h)
  refine ev_s C dL_law_1340 (q := 1342) rfl rfl ?_
  refine ev_if_ne C dL_law_1342 (tgt := 1357) (q := 1345) (by decide) rfl hk (fun e0 => ?_) (fun e0 => ?_)
  · refine ev_goto C dL_law_1357 (tgt := 1792) (by decide) ?_
    exact ev_wide (by omega) (by omega) (ev_keep [0, 1, 2, 3, 4, 5] rfl (kk _ _ _ _ h9))
  · refine ev_s C dL_law_1345 (q := 1346) rfl rfl ?_
    refine ev_s C dL_law_1346 (q := 1347) rfl rfl ?_
    refine ev_lald (n := 100) (len := 1) (f := fun j => vL (p2 j)) C dL_law_1347 (q := 1348) rfl rfl rg_0 (by decide) (by decide) ?_
    refine ev_eqS (st := [vL x]) (by rw [← h7 e0]; rfl) ?_
    refine ev_s C dL_law_1348 (q := 1350) rfl rfl ?_
    refine ev_i2l C dL_law_1350 (q := 1351) rfl h6 ?_
    refine ev_lcmp C dL_law_1351 (q := 1352) rfl (rg_L h6) (rg_L h6) ?_
    refine ev_eqS (st := [vI 0]) (by first | rw [cmpI_self] | rfl) ?_
    refine ev_if_eq C dL_law_1352 (tgt := 1357) (q := 1355) (by decide) rfl rg_0 (fun _ => ?_) (fun h => absurd rfl h)
    refine ev_goto C dL_law_1357 (tgt := 1792) (by decide) ?_
    exact ev_wide (by omega) (by omega) (ev_keep [0, 1, 2, 3, 4, 5] rfl (kk _ _ _ _ h9))
set_option maxHeartbeats 4000000 in
set_option maxRecDepth 20000 in
theorem cs_23 {k : Kx} {b L : Nat} {xs : Nat → Int32} {t : Int} {u v : SS} {p : Nat → Int} {q : Nat → UInt64} {ct sl : Nat} (X : LX k b L xs) (S : SIM t u v) (hi : 4 * t + 4 ≤ (L : Int)) (hct : ct + 40 ≤ 603072) (hsl : sl + 2500 ≤ 7202922) (kk : ∀ (u2 v2 : SS) (p2 : Nat → Int) (q2 : Nat → UInt64), SIM (t + 1) u2 v2 → EV k 1792 (lL t) [] (mk u2 v2 (gO p2 q2)) (ct + 40) (sl + 2500)) : EV k 1360 (lL t) [] (mk u v (gO p q)) ct sl := by
  have hT := S.1
  have hL := X.hL
  have C := X.C
  obtain ⟨kx, x, u2, v2, p2, mc, ms, l, nw, ⟨⟨h1, h2, h3, h4⟩, h5, h6, h7, h8, h9⟩, M1, M2⟩ := st_isNeeded (p := p) (q := q) (a := (sc xs (4 * t + 1))) S (by omega) (sc_rg _ _)
  have hk : rg kx := by unfold rg; omega
  refine ev_s C dL_law_1360 (q := 1361) rfl rfl ?_
  refine ev_s C dL_law_1361 (q := 1362) rfl rfl ?_
  refine ev_s C dL_law_1362 (q := 1364) rfl rfl ?_
  refine ev_s C dL_law_1364 (q := 1365) rfl rfl ?_
  refine ev_s C dL_law_1365 (q := 1366) rfl rfl ?_
  refine ev_sld X dL_law_1366 (q := 1367) rfl (by omega) ?_
  refine ev_s C dL_law_1367 (q := 1368) rfl rfl ?_
  refine ev_cH X dL_law_1368 (q := 1371) rfl km_L_195 ks_L_isNeeded kh_L_isNeeded M1 rfl rfl (by decide) (by decide) (by omega) (by omega) h4 ?_
  refine ev_s C dL_law_1371 (q := 1373) rfl rfl ?_
  refine ev_s C dL_law_1373 (q := 1374) rfl rfl ?_
  refine ev_s C dL_law_1374 (q := 1375) rfl rfl ?_
  refine ev_s C dL_law_1375 (q := 1377) rfl rfl ?_
  refine ev_s C dL_law_1377 (q := 1378) rfl rfl ?_
  refine ev_s C dL_law_1378 (q := 1379) rfl rfl ?_
  refine ev_sld X dL_law_1379 (q := 1380) rfl (by omega) ?_
  refine ev_cV C dL_law_1380 (q := 1383) rfl km_L_197 kv_X7_isNeeded kc_X7_isNeeded M2 (st := []) rfl rfl vcX7 go_0 (by rw [X.lev]; omega) (by decide) (by decide) (by rw [X.mc]; omega) (by rw [X.ms]; omega) ?_
  refine ev_s C dL_law_1383 (q := 1385) rfl rfl ?_
  refine ev_s C dL_law_1385 (q := 1386) rfl rfl ?_
  refine ev_cV C dL_law_1386 (q := 1389) rfl km_L_116 kv_X7_thrown kc_X7_thrown c_X7_thrown (st := []) rfl rfl vcX7 go_0 (by rw [X.lev]; decide) (by decide) (by decide) (by rw [X.mc]; omega) (by rw [X.ms]; omega) ?_
  refine ev_eqS (st := [vI kx]) (by rw [h8]; rfl) ?_
  refine ev_s C dL_law_1389 (q := 1391) rfl rfl ?_
  refine ev_icmp_eq C dL_law_1391 (tgt := 1396) (q := 1394) (by decide) rfl hk hk (fun _ => ?_) (fun h => absurd rfl h)
  refine ev_s C dL_law_1396 (q := 1398) rfl rfl ?_
  refine ev_if_ne C dL_law_1398 (tgt := 1420) (q := 1401) (by decide) rfl hk (fun e0 => ?_) (fun e0 => ?_)
  · refine ev_goto C dL_law_1420 (tgt := 1792) (by decide) ?_
    exact ev_wide (by omega) (by omega) (ev_keep [0, 1, 2, 3, 4, 5] rfl (kk _ _ _ _ h9))
  · refine ev_s C dL_law_1401 (q := 1402) rfl rfl ?_
    refine ev_s C dL_law_1402 (q := 1403) rfl rfl ?_
    refine ev_lald (n := 100) (len := 1) (f := fun j => vL (p2 j)) C dL_law_1403 (q := 1404) rfl rfl rg_0 (by decide) (by decide) ?_
    refine ev_eqS (st := [vL x]) (by rw [← h7 e0]; rfl) ?_
    refine ev_s C dL_law_1404 (q := 1406) rfl rfl ?_
    rcases h6 with e6 | e6
    · refine ev_eqS (st := vI 0 :: [vL 0]) (by rw [e6]) ?_
      refine ev_if_eq C dL_law_1406 (tgt := 1413) (q := 1409) (by decide) rfl (by unfold rg; omega) (fun e1 => ?_) (fun e1 => ?_)
      · refine ev_s C dL_law_1413 (q := 1414) rfl rfl ?_
        refine ev_lcmp C dL_law_1414 (q := 1415) rfl (by unfold rgL; omega) (by unfold rgL; omega) ?_
        refine ev_eqS (st := [vI 0]) (by first | rw [cmpI_self] | rfl) ?_
        refine ev_if_eq C dL_law_1415 (tgt := 1420) (q := 1418) (by decide) rfl rg_0 (fun _ => ?_) (fun h => absurd rfl h)
        refine ev_goto C dL_law_1420 (tgt := 1792) (by decide) ?_
        exact ev_wide (by omega) (by omega) (ev_keep [0, 1, 2, 3, 4, 5] rfl (kk _ _ _ _ h9))
      · exact absurd rfl e1
    · refine ev_eqS (st := vI 1 :: [vL 1]) (by rw [e6]) ?_
      refine ev_if_eq C dL_law_1406 (tgt := 1413) (q := 1409) (by decide) rfl (by unfold rg; omega) (fun e1 => ?_) (fun e1 => ?_)
      · exact absurd e1 (by decide)
      · refine ev_s C dL_law_1409 (q := 1410) rfl rfl ?_
        refine ev_goto C dL_law_1410 (tgt := 1414) (by decide) ?_
        refine ev_lcmp C dL_law_1414 (q := 1415) rfl (by unfold rgL; omega) (by unfold rgL; omega) ?_
        refine ev_eqS (st := [vI 0]) (by first | rw [cmpI_self] | rfl) ?_
        refine ev_if_eq C dL_law_1415 (tgt := 1420) (q := 1418) (by decide) rfl rg_0 (fun _ => ?_) (fun h => absurd rfl h)
        refine ev_goto C dL_law_1420 (tgt := 1792) (by decide) ?_
        exact ev_wide (by omega) (by omega) (ev_keep [0, 1, 2, 3, 4, 5] rfl (kk _ _ _ _ h9))
set_option maxHeartbeats 4000000 in
set_option maxRecDepth 20000 in
theorem cs_24 {k : Kx} {b L : Nat} {xs : Nat → Int32} {t : Int} {u v : SS} {p : Nat → Int} {q : Nat → UInt64} {ct sl : Nat} (X : LX k b L xs) (S : SIM t u v) (hi : 4 * t + 4 ≤ (L : Int)) (hct : ct + 40 ≤ 603072) (hsl : sl + 2500 ≤ 7202922) (kk : ∀ (u2 v2 : SS) (p2 : Nat → Int) (q2 : Nat → UInt64), SIM (t + 1) u2 v2 → EV k 1792 (lL t) [] (mk u2 v2 (gO p2 q2)) (ct + 40) (sl + 2500)) : EV k 1423 (lL t) [] (mk u v (gO p q)) ct sl := by
  have hT := S.1
  have hL := X.hL
  have C := X.C
  obtain ⟨kx, x, u2, v2, p2, mc, ms, l, nw, ⟨⟨h1, h2, h3, h4⟩, h5, h6, h7, h8, h9⟩, M1, M2⟩ := st_startsIn (p := p) (q := q) (a := (sc xs (4 * t + 1))) S (by omega) (sc_rg _ _)
  have hk : rg kx := by unfold rg; omega
  refine ev_s C dL_law_1423 (q := 1424) rfl rfl ?_
  refine ev_s C dL_law_1424 (q := 1425) rfl rfl ?_
  refine ev_s C dL_law_1425 (q := 1427) rfl rfl ?_
  refine ev_s C dL_law_1427 (q := 1428) rfl rfl ?_
  refine ev_s C dL_law_1428 (q := 1429) rfl rfl ?_
  refine ev_sld X dL_law_1429 (q := 1430) rfl (by omega) ?_
  refine ev_s C dL_law_1430 (q := 1431) rfl rfl ?_
  refine ev_cH X dL_law_1431 (q := 1434) rfl km_L_198 ks_L_startsIn kh_L_startsIn M1 rfl rfl (by decide) (by decide) (by omega) (by omega) h4 ?_
  refine ev_s C dL_law_1434 (q := 1436) rfl rfl ?_
  refine ev_s C dL_law_1436 (q := 1437) rfl rfl ?_
  refine ev_s C dL_law_1437 (q := 1438) rfl rfl ?_
  refine ev_s C dL_law_1438 (q := 1440) rfl rfl ?_
  refine ev_s C dL_law_1440 (q := 1441) rfl rfl ?_
  refine ev_s C dL_law_1441 (q := 1442) rfl rfl ?_
  refine ev_sld X dL_law_1442 (q := 1443) rfl (by omega) ?_
  refine ev_cV C dL_law_1443 (q := 1446) rfl km_L_200 kv_X7_startsIn kc_X7_startsIn M2 (st := []) rfl rfl vcX7 go_0 (by rw [X.lev]; omega) (by decide) (by decide) (by rw [X.mc]; omega) (by rw [X.ms]; omega) ?_
  refine ev_s C dL_law_1446 (q := 1448) rfl rfl ?_
  refine ev_s C dL_law_1448 (q := 1449) rfl rfl ?_
  refine ev_cV C dL_law_1449 (q := 1452) rfl km_L_116 kv_X7_thrown kc_X7_thrown c_X7_thrown (st := []) rfl rfl vcX7 go_0 (by rw [X.lev]; decide) (by decide) (by decide) (by rw [X.mc]; omega) (by rw [X.ms]; omega) ?_
  refine ev_eqS (st := [vI kx]) (by rw [h8]; rfl) ?_
  refine ev_s C dL_law_1452 (q := 1454) rfl rfl ?_
  refine ev_icmp_eq C dL_law_1454 (tgt := 1459) (q := 1457) (by decide) rfl hk hk (fun _ => ?_) (fun h => absurd rfl h)
  refine ev_s C dL_law_1459 (q := 1461) rfl rfl ?_
  refine ev_if_ne C dL_law_1461 (tgt := 1476) (q := 1464) (by decide) rfl hk (fun e0 => ?_) (fun e0 => ?_)
  · refine ev_goto C dL_law_1476 (tgt := 1792) (by decide) ?_
    exact ev_wide (by omega) (by omega) (ev_keep [0, 1, 2, 3, 4, 5] rfl (kk _ _ _ _ h9))
  · refine ev_s C dL_law_1464 (q := 1465) rfl rfl ?_
    refine ev_s C dL_law_1465 (q := 1466) rfl rfl ?_
    refine ev_lald (n := 100) (len := 1) (f := fun j => vL (p2 j)) C dL_law_1466 (q := 1467) rfl rfl rg_0 (by decide) (by decide) ?_
    refine ev_eqS (st := [vL x]) (by rw [← h7 e0]; rfl) ?_
    refine ev_s C dL_law_1467 (q := 1469) rfl rfl ?_
    refine ev_i2l C dL_law_1469 (q := 1470) rfl h6 ?_
    refine ev_lcmp C dL_law_1470 (q := 1471) rfl (rg_L h6) (rg_L h6) ?_
    refine ev_eqS (st := [vI 0]) (by first | rw [cmpI_self] | rfl) ?_
    refine ev_if_eq C dL_law_1471 (tgt := 1476) (q := 1474) (by decide) rfl rg_0 (fun _ => ?_) (fun h => absurd rfl h)
    refine ev_goto C dL_law_1476 (tgt := 1792) (by decide) ?_
    exact ev_wide (by omega) (by omega) (ev_keep [0, 1, 2, 3, 4, 5] rfl (kk _ _ _ _ h9))
set_option maxHeartbeats 4000000 in
set_option maxRecDepth 20000 in
theorem cs_25 {k : Kx} {b L : Nat} {xs : Nat → Int32} {t : Int} {u v : SS} {p : Nat → Int} {q : Nat → UInt64} {ct sl : Nat} (X : LX k b L xs) (S : SIM t u v) (hi : 4 * t + 4 ≤ (L : Int)) (hct : ct + 40 ≤ 603072) (hsl : sl + 2500 ≤ 7202922) (kk : ∀ (u2 v2 : SS) (p2 : Nat → Int) (q2 : Nat → UInt64), SIM (t + 1) u2 v2 → EV k 1792 (lL t) [] (mk u2 v2 (gO p2 q2)) (ct + 40) (sl + 2500)) : EV k 1479 (lL t) [] (mk u v (gO p q)) ct sl := by
  have hT := S.1
  have hL := X.hL
  have C := X.C
  obtain ⟨kx, x, u2, v2, p2, mc, ms, l, nw, ⟨⟨h1, h2, h3, h4⟩, h5, h6, h7, h8, h9⟩, M1, M2⟩ := st_starts (p := p) (q := q) (a := (sc xs (4 * t + 1))) S (by omega) (sc_rg _ _)
  have hk : rg kx := by unfold rg; omega
  refine ev_s C dL_law_1479 (q := 1480) rfl rfl ?_
  refine ev_s C dL_law_1480 (q := 1481) rfl rfl ?_
  refine ev_s C dL_law_1481 (q := 1483) rfl rfl ?_
  refine ev_s C dL_law_1483 (q := 1484) rfl rfl ?_
  refine ev_s C dL_law_1484 (q := 1485) rfl rfl ?_
  refine ev_sld X dL_law_1485 (q := 1486) rfl (by omega) ?_
  refine ev_s C dL_law_1486 (q := 1487) rfl rfl ?_
  refine ev_cH X dL_law_1487 (q := 1490) rfl km_L_201 ks_L_starts kh_L_starts M1 rfl rfl (by decide) (by decide) (by omega) (by omega) h4 ?_
  refine ev_s C dL_law_1490 (q := 1492) rfl rfl ?_
  refine ev_s C dL_law_1492 (q := 1493) rfl rfl ?_
  refine ev_s C dL_law_1493 (q := 1494) rfl rfl ?_
  refine ev_s C dL_law_1494 (q := 1496) rfl rfl ?_
  refine ev_s C dL_law_1496 (q := 1497) rfl rfl ?_
  refine ev_s C dL_law_1497 (q := 1498) rfl rfl ?_
  refine ev_sld X dL_law_1498 (q := 1499) rfl (by omega) ?_
  refine ev_cV C dL_law_1499 (q := 1502) rfl km_L_203 kv_X7_starts kc_X7_starts M2 (st := []) rfl rfl vcX7 go_0 (by rw [X.lev]; omega) (by decide) (by decide) (by rw [X.mc]; omega) (by rw [X.ms]; omega) ?_
  refine ev_s C dL_law_1502 (q := 1504) rfl rfl ?_
  refine ev_s C dL_law_1504 (q := 1505) rfl rfl ?_
  refine ev_cV C dL_law_1505 (q := 1508) rfl km_L_116 kv_X7_thrown kc_X7_thrown c_X7_thrown (st := []) rfl rfl vcX7 go_0 (by rw [X.lev]; decide) (by decide) (by decide) (by rw [X.mc]; omega) (by rw [X.ms]; omega) ?_
  refine ev_eqS (st := [vI kx]) (by rw [h8]; rfl) ?_
  refine ev_s C dL_law_1508 (q := 1510) rfl rfl ?_
  refine ev_icmp_eq C dL_law_1510 (tgt := 1515) (q := 1513) (by decide) rfl hk hk (fun _ => ?_) (fun h => absurd rfl h)
  refine ev_s C dL_law_1515 (q := 1517) rfl rfl ?_
  refine ev_if_ne C dL_law_1517 (tgt := 1532) (q := 1520) (by decide) rfl hk (fun e0 => ?_) (fun e0 => ?_)
  · refine ev_goto C dL_law_1532 (tgt := 1792) (by decide) ?_
    exact ev_wide (by omega) (by omega) (ev_keep [0, 1, 2, 3, 4, 5] rfl (kk _ _ _ _ h9))
  · refine ev_s C dL_law_1520 (q := 1521) rfl rfl ?_
    refine ev_s C dL_law_1521 (q := 1522) rfl rfl ?_
    refine ev_lald (n := 100) (len := 1) (f := fun j => vL (p2 j)) C dL_law_1522 (q := 1523) rfl rfl rg_0 (by decide) (by decide) ?_
    refine ev_eqS (st := [vL x]) (by rw [← h7 e0]; rfl) ?_
    refine ev_s C dL_law_1523 (q := 1525) rfl rfl ?_
    refine ev_i2l C dL_law_1525 (q := 1526) rfl h6 ?_
    refine ev_lcmp C dL_law_1526 (q := 1527) rfl (rg_L h6) (rg_L h6) ?_
    refine ev_eqS (st := [vI 0]) (by first | rw [cmpI_self] | rfl) ?_
    refine ev_if_eq C dL_law_1527 (tgt := 1532) (q := 1530) (by decide) rfl rg_0 (fun _ => ?_) (fun h => absurd rfl h)
    refine ev_goto C dL_law_1532 (tgt := 1792) (by decide) ?_
    exact ev_wide (by omega) (by omega) (ev_keep [0, 1, 2, 3, 4, 5] rfl (kk _ _ _ _ h9))
set_option maxHeartbeats 4000000 in
set_option maxRecDepth 20000 in
theorem cs_26 {k : Kx} {b L : Nat} {xs : Nat → Int32} {t : Int} {u v : SS} {p : Nat → Int} {q : Nat → UInt64} {ct sl : Nat} (X : LX k b L xs) (S : SIM t u v) (hi : 4 * t + 4 ≤ (L : Int)) (hct : ct + 40 ≤ 603072) (hsl : sl + 2500 ≤ 7202922) (kk : ∀ (u2 v2 : SS) (p2 : Nat → Int) (q2 : Nat → UInt64), SIM (t + 1) u2 v2 → EV k 1792 (lL t) [] (mk u2 v2 (gO p2 q2)) (ct + 40) (sl + 2500)) : EV k 1535 (lL t) [] (mk u v (gO p q)) ct sl := by
  have hT := S.1
  have hL := X.hL
  have C := X.C
  obtain ⟨kx, x, u2, v2, p2, mc, ms, l, nw, ⟨⟨h1, h2, h3, h4⟩, h5, h6, h7, h8, h9⟩, M1, M2⟩ := st_score (p := p) (q := q) (a := (sc xs (4 * t + 1))) S (by omega) (sc_rg _ _)
  have hk : rg kx := by unfold rg; omega
  refine ev_s C dL_law_1535 (q := 1536) rfl rfl ?_
  refine ev_s C dL_law_1536 (q := 1537) rfl rfl ?_
  refine ev_s C dL_law_1537 (q := 1539) rfl rfl ?_
  refine ev_s C dL_law_1539 (q := 1540) rfl rfl ?_
  refine ev_s C dL_law_1540 (q := 1541) rfl rfl ?_
  refine ev_sld X dL_law_1541 (q := 1542) rfl (by omega) ?_
  refine ev_s C dL_law_1542 (q := 1543) rfl rfl ?_
  refine ev_cH X dL_law_1543 (q := 1546) rfl km_L_204 ks_L_score kh_L_score M1 rfl rfl (by decide) (by decide) (by omega) (by omega) h4 ?_
  refine ev_s C dL_law_1546 (q := 1548) rfl rfl ?_
  refine ev_s C dL_law_1548 (q := 1549) rfl rfl ?_
  refine ev_s C dL_law_1549 (q := 1550) rfl rfl ?_
  refine ev_s C dL_law_1550 (q := 1552) rfl rfl ?_
  refine ev_s C dL_law_1552 (q := 1553) rfl rfl ?_
  refine ev_s C dL_law_1553 (q := 1554) rfl rfl ?_
  refine ev_sld X dL_law_1554 (q := 1555) rfl (by omega) ?_
  refine ev_cV C dL_law_1555 (q := 1558) rfl km_L_206 kv_X7_score kc_X7_score M2 (st := []) rfl rfl vcX7 go_0 (by rw [X.lev]; omega) (by decide) (by decide) (by rw [X.mc]; omega) (by rw [X.ms]; omega) ?_
  refine ev_s C dL_law_1558 (q := 1560) rfl rfl ?_
  refine ev_s C dL_law_1560 (q := 1561) rfl rfl ?_
  refine ev_cV C dL_law_1561 (q := 1564) rfl km_L_116 kv_X7_thrown kc_X7_thrown c_X7_thrown (st := []) rfl rfl vcX7 go_0 (by rw [X.lev]; decide) (by decide) (by decide) (by rw [X.mc]; omega) (by rw [X.ms]; omega) ?_
  refine ev_eqS (st := [vI kx]) (by rw [h8]; rfl) ?_
  refine ev_s C dL_law_1564 (q := 1566) rfl rfl ?_
  refine ev_icmp_eq C dL_law_1566 (tgt := 1571) (q := 1569) (by decide) rfl hk hk (fun _ => ?_) (fun h => absurd rfl h)
  refine ev_s C dL_law_1571 (q := 1573) rfl rfl ?_
  refine ev_if_ne C dL_law_1573 (tgt := 1588) (q := 1576) (by decide) rfl hk (fun e0 => ?_) (fun e0 => ?_)
  · refine ev_goto C dL_law_1588 (tgt := 1792) (by decide) ?_
    exact ev_wide (by omega) (by omega) (ev_keep [0, 1, 2, 3, 4, 5] rfl (kk _ _ _ _ h9))
  · refine ev_s C dL_law_1576 (q := 1577) rfl rfl ?_
    refine ev_s C dL_law_1577 (q := 1578) rfl rfl ?_
    refine ev_lald (n := 100) (len := 1) (f := fun j => vL (p2 j)) C dL_law_1578 (q := 1579) rfl rfl rg_0 (by decide) (by decide) ?_
    refine ev_eqS (st := [vL x]) (by rw [← h7 e0]; rfl) ?_
    refine ev_s C dL_law_1579 (q := 1581) rfl rfl ?_
    refine ev_i2l C dL_law_1581 (q := 1582) rfl h6 ?_
    refine ev_lcmp C dL_law_1582 (q := 1583) rfl (rg_L h6) (rg_L h6) ?_
    refine ev_eqS (st := [vI 0]) (by first | rw [cmpI_self] | rfl) ?_
    refine ev_if_eq C dL_law_1583 (tgt := 1588) (q := 1586) (by decide) rfl rg_0 (fun _ => ?_) (fun h => absurd rfl h)
    refine ev_goto C dL_law_1588 (tgt := 1792) (by decide) ?_
    exact ev_wide (by omega) (by omega) (ev_keep [0, 1, 2, 3, 4, 5] rfl (kk _ _ _ _ h9))
set_option maxHeartbeats 4000000 in
set_option maxRecDepth 20000 in
theorem cs_27 {k : Kx} {b L : Nat} {xs : Nat → Int32} {t : Int} {u v : SS} {p : Nat → Int} {q : Nat → UInt64} {ct sl : Nat} (X : LX k b L xs) (S : SIM t u v) (hi : 4 * t + 4 ≤ (L : Int)) (hct : ct + 40 ≤ 603072) (hsl : sl + 2500 ≤ 7202922) (kk : ∀ (u2 v2 : SS) (p2 : Nat → Int) (q2 : Nat → UInt64), SIM (t + 1) u2 v2 → EV k 1792 (lL t) [] (mk u2 v2 (gO p2 q2)) (ct + 40) (sl + 2500)) : EV k 1591 (lL t) [] (mk u v (gO p q)) ct sl := by
  have hT := S.1
  have hL := X.hL
  have C := X.C
  obtain ⟨kx, x, u2, v2, p2, mc, ms, l, nw, ⟨⟨h1, h2, h3, h4⟩, h5, h6, h7, h8, h9⟩, M1, M2⟩ := st_victim (p := p) (q := q) S (by omega)
  have hk : rg kx := by unfold rg; omega
  refine ev_s C dL_law_1591 (q := 1592) rfl rfl ?_
  refine ev_s C dL_law_1592 (q := 1593) rfl rfl ?_
  refine ev_cH X dL_law_1593 (q := 1596) rfl km_L_207 ks_L_victim kh_L_victim M1 rfl rfl (by decide) (by decide) (by omega) (by omega) h4 ?_
  refine ev_s C dL_law_1596 (q := 1598) rfl rfl ?_
  refine ev_s C dL_law_1598 (q := 1599) rfl rfl ?_
  refine ev_cV C dL_law_1599 (q := 1602) rfl km_L_210 kv_X7_victim kc_X7_victim M2 (st := []) rfl rfl vcX7 go_0 (by rw [X.lev]; omega) (by decide) (by decide) (by rw [X.mc]; omega) (by rw [X.ms]; omega) ?_
  refine ev_s C dL_law_1602 (q := 1604) rfl rfl ?_
  refine ev_s C dL_law_1604 (q := 1605) rfl rfl ?_
  refine ev_cV C dL_law_1605 (q := 1608) rfl km_L_116 kv_X7_thrown kc_X7_thrown c_X7_thrown (st := []) rfl rfl vcX7 go_0 (by rw [X.lev]; decide) (by decide) (by decide) (by rw [X.mc]; omega) (by rw [X.ms]; omega) ?_
  refine ev_eqS (st := [vI kx]) (by rw [h8]; rfl) ?_
  refine ev_s C dL_law_1608 (q := 1610) rfl rfl ?_
  refine ev_icmp_eq C dL_law_1610 (tgt := 1615) (q := 1613) (by decide) rfl hk hk (fun _ => ?_) (fun h => absurd rfl h)
  refine ev_s C dL_law_1615 (q := 1617) rfl rfl ?_
  refine ev_if_ne C dL_law_1617 (tgt := 1632) (q := 1620) (by decide) rfl hk (fun e0 => ?_) (fun e0 => ?_)
  · refine ev_goto C dL_law_1632 (tgt := 1792) (by decide) ?_
    exact ev_wide (by omega) (by omega) (ev_keep [0, 1, 2, 3, 4, 5] rfl (kk _ _ _ _ h9))
  · refine ev_s C dL_law_1620 (q := 1621) rfl rfl ?_
    refine ev_s C dL_law_1621 (q := 1622) rfl rfl ?_
    refine ev_lald (n := 100) (len := 1) (f := fun j => vL (p2 j)) C dL_law_1622 (q := 1623) rfl rfl rg_0 (by decide) (by decide) ?_
    refine ev_eqS (st := [vL x]) (by rw [← h7 e0]; rfl) ?_
    refine ev_s C dL_law_1623 (q := 1625) rfl rfl ?_
    refine ev_i2l C dL_law_1625 (q := 1626) rfl h6 ?_
    refine ev_lcmp C dL_law_1626 (q := 1627) rfl (rg_L h6) (rg_L h6) ?_
    refine ev_eqS (st := [vI 0]) (by first | rw [cmpI_self] | rfl) ?_
    refine ev_if_eq C dL_law_1627 (tgt := 1632) (q := 1630) (by decide) rfl rg_0 (fun _ => ?_) (fun h => absurd rfl h)
    refine ev_goto C dL_law_1632 (tgt := 1792) (by decide) ?_
    exact ev_wide (by omega) (by omega) (ev_keep [0, 1, 2, 3, 4, 5] rfl (kk _ _ _ _ h9))
set_option maxHeartbeats 4000000 in
set_option maxRecDepth 20000 in
theorem cs_28 {k : Kx} {b L : Nat} {xs : Nat → Int32} {t : Int} {u v : SS} {p : Nat → Int} {q : Nat → UInt64} {ct sl : Nat} (X : LX k b L xs) (S : SIM t u v) (hi : 4 * t + 4 ≤ (L : Int)) (hct : ct + 40 ≤ 603072) (hsl : sl + 2500 ≤ 7202922) (kk : ∀ (u2 v2 : SS) (p2 : Nat → Int) (q2 : Nat → UInt64), SIM (t + 1) u2 v2 → EV k 1792 (lL t) [] (mk u2 v2 (gO p2 q2)) (ct + 40) (sl + 2500)) : EV k 1635 (lL t) [] (mk u v (gO p q)) ct sl := by
  have hT := S.1
  have hL := X.hL
  have C := X.C
  obtain ⟨x, u2, v2, l1, l2, ⟨h1, h2, h3, h4⟩, M1, M2⟩ := qs_deaths (g := gO p q) S
  refine ev_s C dL_law_1635 (q := 1636) rfl rfl ?_
  refine ev_cV C dL_law_1636 (q := 1639) rfl km_L_211 kv_X6_deaths kc_X6_deaths M1 (st := []) rfl rfl vcX6 rfl (by rw [X.lev]; omega) (by decide) (by decide) (by rw [X.mc]; omega) (by rw [X.ms]; omega) ?_
  refine ev_s C dL_law_1639 (q := 1640) rfl rfl ?_
  refine ev_cV C dL_law_1640 (q := 1643) rfl km_L_214 kv_X7_deaths kc_X7_deaths M2 (st := [vI x]) rfl rfl vcX7 go_0 (by rw [X.lev]; omega) (by decide) (Nat.le_of_ble_eq_true rfl) (by rw [X.mc]; omega) (by rw [X.ms]; omega) ?_
  refine ev_icmp_eq C dL_law_1643 (tgt := 1792) (q := 1646) (by decide) rfl h3 h3 (fun _ => ?_) (fun h => absurd rfl h)
  exact ev_wide (by omega) (by omega) (ev_keep [0, 1, 2, 3, 4, 5] rfl (kk _ _ _ _ h4))
set_option maxHeartbeats 4000000 in
set_option maxRecDepth 20000 in
theorem cs_29 {k : Kx} {b L : Nat} {xs : Nat → Int32} {t : Int} {u v : SS} {p : Nat → Int} {q : Nat → UInt64} {ct sl : Nat} (X : LX k b L xs) (S : SIM t u v) (hi : 4 * t + 4 ≤ (L : Int)) (hct : ct + 40 ≤ 603072) (hsl : sl + 2500 ≤ 7202922) (kk : ∀ (u2 v2 : SS) (p2 : Nat → Int) (q2 : Nat → UInt64), SIM (t + 1) u2 v2 → EV k 1792 (lL t) [] (mk u2 v2 (gO p2 q2)) (ct + 40) (sl + 2500)) : EV k 1648 (lL t) [] (mk u v (gO p q)) ct sl := by
  have hT := S.1
  have hL := X.hL
  have C := X.C
  obtain ⟨kx, y, v2, q2, mc, ms, ⟨⟨h1, h2⟩, h5, h7, h8, h9⟩, M1, M2⟩ := st_smoothShare (p := p) (q := q) S
  have hk : rg kx := by unfold rg; omega
  refine ev_s C dL_law_1648 (q := 1649) rfl rfl ?_
  refine ev_s C dL_law_1649 (q := 1651) rfl rfl ?_
  refine ev_cH X dL_law_1651 (q := 1654) rfl km_L_215 ks_L_smoothShare kh_L_smoothShare M1 rfl rfl (by decide) (by decide) (by omega) (by omega) okn_nn ?_
  refine ev_s C dL_law_1654 (q := 1656) rfl rfl ?_
  refine ev_s C dL_law_1656 (q := 1657) rfl rfl ?_
  refine ev_cV C dL_law_1657 (q := 1660) rfl km_L_218 kv_X7_smoothShare kc_X7_smoothShare M2 (st := []) rfl rfl vcX7 go_0 (by rw [X.lev]; omega) (by decide) (by decide) (by rw [X.mc]; omega) (by rw [X.ms]; omega) ?_
  refine ev_fst C dL_law_1660 (q := 1662) rfl (by decide) ?_
  refine ev_s C dL_law_1662 (q := 1663) rfl rfl ?_
  refine ev_cV C dL_law_1663 (q := 1666) rfl km_L_116 kv_X7_thrown kc_X7_thrown c_X7_thrown (st := []) rfl rfl vcX7 go_0 (by rw [X.lev]; decide) (by decide) (by decide) (by rw [X.mc]; omega) (by rw [X.ms]; omega) ?_
  refine ev_eqS (st := [vI kx]) (by rw [h8]; rfl) ?_
  refine ev_s C dL_law_1666 (q := 1668) rfl rfl ?_
  refine ev_icmp_eq C dL_law_1668 (tgt := 1673) (q := 1671) (by decide) rfl hk hk (fun _ => ?_) (fun h => absurd rfl h)
  refine ev_s C dL_law_1673 (q := 1675) rfl rfl ?_
  refine ev_if_ne C dL_law_1675 (tgt := 1711) (q := 1678) (by decide) rfl hk (fun e0 => ?_) (fun e0 => ?_)
  · refine ev_goto C dL_law_1711 (tgt := 1792) (by decide) ?_
    exact ev_wide (by omega) (by omega) (ev_keep [0, 1, 2, 3, 4, 5] rfl (kk _ _ _ _ h9))
  · refine ev_s C dL_law_1678 (q := 1680) rfl rfl ?_
    refine ev_s C dL_law_1680 (q := 1681) rfl rfl ?_
    refine ev_dald (n := 101) (len := 1) (f := fun j => vD (q2 j)) C dL_law_1681 (q := 1682) rfl rfl rg_0 (by decide) (by decide) ?_
    refine ev_eqS (st := [vD (FP.f2d y)]) (by rw [← (h7 e0).1]; rfl) ?_
    refine ev_fld C dL_law_1682 (q := 1684) rfl rfl ?_
    refine ev_f2d C dL_law_1684 (q := 1685) rfl (nn64 (h7 e0).2) ?_
    refine ev_dcmp C dL_law_1685 (q := 1686) rfl (d_self (h7 e0).2) ?_
    refine ev_if_eq C dL_law_1686 (tgt := 1711) (q := 1689) (by decide) rfl rg_0 (fun _ => ?_) (fun h => absurd rfl h)
    refine ev_goto C dL_law_1711 (tgt := 1792) (by decide) ?_
    exact ev_wide (by omega) (by omega) (ev_keep [0, 1, 2, 3, 4, 5] rfl (kk _ _ _ _ h9))
set_option maxHeartbeats 4000000 in
set_option maxRecDepth 20000 in
theorem cs_30 {k : Kx} {b L : Nat} {xs : Nat → Int32} {t : Int} {u v : SS} {p : Nat → Int} {q : Nat → UInt64} {ct sl : Nat} (X : LX k b L xs) (S : SIM t u v) (hi : 4 * t + 4 ≤ (L : Int)) (hct : ct + 40 ≤ 603072) (hsl : sl + 2500 ≤ 7202922) (kk : ∀ (u2 v2 : SS) (p2 : Nat → Int) (q2 : Nat → UInt64), SIM (t + 1) u2 v2 → EV k 1792 (lL t) [] (mk u2 v2 (gO p2 q2)) (ct + 40) (sl + 2500)) : EV k 1714 (lL t) [] (mk u v (gO p q)) ct sl := by
  have hT := S.1
  have hL := X.hL
  have C := X.C
  obtain ⟨kx, y, v2, q2, mc, ms, ⟨⟨h1, h2⟩, h5, h7, h8, h9⟩, M1, M2⟩ := st_meanStalls (p := p) (q := q) S
  have hk : rg kx := by unfold rg; omega
  refine ev_s C dL_law_1714 (q := 1715) rfl rfl ?_
  refine ev_s C dL_law_1715 (q := 1717) rfl rfl ?_
  refine ev_cH X dL_law_1717 (q := 1720) rfl km_L_219 ks_L_meanStalls kh_L_meanStalls M1 rfl rfl (by decide) (by decide) (by omega) (by omega) okn_nn ?_
  refine ev_s C dL_law_1720 (q := 1722) rfl rfl ?_
  refine ev_s C dL_law_1722 (q := 1723) rfl rfl ?_
  refine ev_cV C dL_law_1723 (q := 1726) rfl km_L_221 kv_X7_meanStalls kc_X7_meanStalls M2 (st := []) rfl rfl vcX7 go_0 (by rw [X.lev]; omega) (by decide) (by decide) (by rw [X.mc]; omega) (by rw [X.ms]; omega) ?_
  refine ev_dst C dL_law_1726 (q := 1728) rfl (by decide) ?_
  refine ev_s C dL_law_1728 (q := 1729) rfl rfl ?_
  refine ev_cV C dL_law_1729 (q := 1732) rfl km_L_116 kv_X7_thrown kc_X7_thrown c_X7_thrown (st := []) rfl rfl vcX7 go_0 (by rw [X.lev]; decide) (by decide) (by decide) (by rw [X.mc]; omega) (by rw [X.ms]; omega) ?_
  refine ev_eqS (st := [vI kx]) (by rw [h8]; rfl) ?_
  refine ev_s C dL_law_1732 (q := 1734) rfl rfl ?_
  refine ev_icmp_eq C dL_law_1734 (tgt := 1739) (q := 1737) (by decide) rfl hk hk (fun _ => ?_) (fun h => absurd rfl h)
  refine ev_s C dL_law_1739 (q := 1741) rfl rfl ?_
  refine ev_if_ne C dL_law_1741 (tgt := 1776) (q := 1744) (by decide) rfl hk (fun e0 => ?_) (fun e0 => ?_)
  · refine ev_goto C dL_law_1776 (tgt := 1792) (by decide) ?_
    exact ev_wide (by omega) (by omega) (ev_keep [0, 1, 2, 3, 4, 5] rfl (kk _ _ _ _ h9))
  · refine ev_s C dL_law_1744 (q := 1746) rfl rfl ?_
    refine ev_s C dL_law_1746 (q := 1747) rfl rfl ?_
    refine ev_dald (n := 101) (len := 1) (f := fun j => vD (q2 j)) C dL_law_1747 (q := 1748) rfl rfl rg_0 (by decide) (by decide) ?_
    refine ev_eqS (st := [vD y]) (by rw [← (h7 e0).1]; rfl) ?_
    refine ev_dld C dL_law_1748 (q := 1750) rfl rfl ?_
    refine ev_dcmp C dL_law_1750 (q := 1751) rfl (d_self (h7 e0).2) ?_
    refine ev_if_eq C dL_law_1751 (tgt := 1776) (q := 1754) (by decide) rfl rg_0 (fun _ => ?_) (fun h => absurd rfl h)
    refine ev_goto C dL_law_1776 (tgt := 1792) (by decide) ?_
    exact ev_wide (by omega) (by omega) (ev_keep [0, 1, 2, 3, 4, 5] rfl (kk _ _ _ _ h9))
set_option maxHeartbeats 4000000 in
set_option maxRecDepth 20000 in
theorem cs_31 {k : Kx} {b L : Nat} {xs : Nat → Int32} {t : Int} {u v : SS} {p : Nat → Int} {q : Nat → UInt64} {ct sl : Nat} (X : LX k b L xs) (S : SIM t u v) (hi : 4 * t + 4 ≤ (L : Int)) (hct : ct + 40 ≤ 603072) (hsl : sl + 2500 ≤ 7202922) (kk : ∀ (u2 v2 : SS) (p2 : Nat → Int) (q2 : Nat → UInt64), SIM (t + 1) u2 v2 → EV k 1792 (lL t) [] (mk u2 v2 (gO p2 q2)) (ct + 40) (sl + 2500)) : EV k 1779 (lL t) [] (mk u v (gO p q)) ct sl := by
  have hT := S.1
  have hL := X.hL
  have C := X.C
  obtain ⟨x, u2, v2, l1, l2, ⟨h1, h2, h3, h4⟩, M1, M2⟩ := qs_isSound (g := gO p q) S
  have h3 := rg_Z h3
  refine ev_s C dL_law_1779 (q := 1780) rfl rfl ?_
  refine ev_cV C dL_law_1780 (q := 1783) rfl km_L_222 kv_X6_isSound kc_X6_isSound M1 (st := []) rfl rfl vcX6 rfl (by rw [X.lev]; omega) (by decide) (by decide) (by rw [X.mc]; omega) (by rw [X.ms]; omega) ?_
  refine ev_s C dL_law_1783 (q := 1784) rfl rfl ?_
  refine ev_cV C dL_law_1784 (q := 1787) rfl km_L_226 kv_X7_isSound kc_X7_isSound M2 (st := [vI x]) rfl rfl vcX7 go_0 (by rw [X.lev]; omega) (by decide) (Nat.le_of_ble_eq_true rfl) (by rw [X.mc]; omega) (by rw [X.ms]; omega) ?_
  refine ev_icmp_eq C dL_law_1787 (tgt := 1792) (q := 1790) (by decide) rfl h3 h3 (fun _ => ?_) (fun h => absurd rfl h)
  exact ev_wide (by omega) (by omega) (ev_keep [0, 1, 2, 3, 4, 5] rfl (kk _ _ _ _ h4))
