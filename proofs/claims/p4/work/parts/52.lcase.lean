set_option maxRecDepth 100000 in
set_option maxHeartbeats 4000000 in
theorem lc_pump {p : Program} {l : Launch} {e : Env} {s : State} {m : MethodId} {below : List Frame} {meth : Method} {c : Code} {g : Gt} {b N ho hm : Nat} {ux q : Nat → Nat} {xs : Nat → Int32} (C : Ctx g p s m #[Value.ref b] meth c yL_law wsL_law cL_law 4 (some .boolean)) (hX : va_X b N xs s s.heap) (hbl : b < s.heap.size) (hL : N ≤ 3072) {n k : Nat} (hk : 6 * k + 6 ≤ N) (ih : LAt p l e s m below meth c g b ho hm ux q n (k + 1) 18) : LAt p l e s m below meth c g b ho hm ux q (n + 1) k 168 := by
  intro ls H locs cells slots xi xl xa fc cs i L a aL hcl hsl hinv hl hP hD hS
  obtain ⟨hcs, tb, ln0, ln1, ln2, ln3, h7, mci, ob, fb, pb, ri, h22, h24, h29, h5, h23, h20, hr25, hr27, h50, h51, o47, h52, hr54, h35, z31, z64, o56, l58, sz, b6, nm, kc, kcr, kfl, klk⟩ := hinv
  obtain ⟨hx, hb, hr, hts, hown, hlocks, hml, hin, hKN⟩ := id C
  have hK := hKN.1
  have hN := hKN.2
  have F : CallFix p m c cL_law 4 s _ wsL_law yL_law.cls := ⟨hx, hb, hml, hown, hts⟩
  have hA : ∀ q : Nat, s.heap.size ≤ q → (fun q : Nat => s.heap.size ≤ q) q := fun _ h => h
  have hbA : ¬ (fun q : Nat => s.heap.size ≤ q) b := Nat.not_le.mpr hbl
  refine lv_aload_n hx hb dL_law_168 rfl (lv_at hl 2 rfl) ?_
  refine lv_aload_n hx hb dL_law_169 rfl (lv_at hl 3 rfl) ?_
  refine lv_iload_n hx hb dL_law_170 rfl (lv_at hl 0 rfl) ?_
  refine lv_iconst (v := 1) hx hb dL_law_171 (by decide) ?_
  refine lv_iadd hx hb dL_law_172 ?_
  refine va_sld hx hb hX hbl hbA hS (sc_in (j := 1) (by decide) (by decide) hk hL) dL_law_173 ?_
  refine nx_i (v := xs (6 * k + 1)) (sc_ix (j := 1) (by decide) (by decide) hk hL) ?_
  refine lv_aload_n hx hb dL_law_174 rfl (lv_at hl 3 rfl) ?_
  refine lv_iload_n hx hb dL_law_175 rfl (lv_at hl 0 rfl) ?_
  refine lv_iconst (v := 2) hx hb dL_law_176 (by decide) ?_
  refine lv_iadd hx hb dL_law_177 ?_
  refine va_sld hx hb hX hbl hbA hS (sc_in (j := 2) (by decide) (by decide) hk hL) dL_law_178 ?_
  refine nx_i (v := xs (6 * k + 2)) (sc_ix (j := 2) (by decide) (by decide) hk hL) ?_
  refine kI (rnV (As := [.int (xs (6 * k + 1)), .int (xs (6 * k + 2))]) (rest := []) (Cn := RX11) C (x_pump l g ho (ux 40) (ux 41) (xi 0) (xi 1) (xi 2) (xi 3) (ux 3) (ux 8) (ux 14) (ux 19) (ux 24) (ux 29) (ux 35) (ux 36) (ux 0) (xi 4) (xi 5) (ux 1) (xi 6) (ux 2) (xs (6 * k + 1)) (xs (6 * k + 2))) 2 gL_law_X11_pump rfl (by decide +kernel) ⟨(Nat.le_of_ble_eq_true rfl), (Nat.le_of_ble_eq_true rfl)⟩ hP (k := 0) (ci := 11) rfl rfl rfl rfl hl.1 rfl (Nat.le_of_ble_eq_true rfl) dL_law_179 ⟨(show cells + 0 ≤ 600000 by omega), (show slots + 0 ≤ 7302250 by omega)⟩) (spM (X := (wXM g ho ux xi xl xa fc hm q i L a aL)) (pl := cysW g cs) [true, true, false, false, false, false, false, false, false, false, false, false, false, false, false, false, false, false, false, false, false, false, false, false, false, false, false, false, false, false, false, false, false, false, false, false, false, false, false, false, false, false, false, false, false, false, false, false, false, false, false, false, false, false, false, false, false, false, false, false, false, false, false, false, false, false, false, false, false, false, false, false, false, false, false, false, false, false, false, false, false, false, false, false, false, false, false, false, false, false, false] hP hD rfl) hA hS (fun r1 u2 H locs hw hP hD hS => ?_)
  have hre := hw
  obtain ⟨y3, hy3⟩ : ∃ y9, (o_x_pump_0 (xi 4) (xs (6 * k + 1)) (xs (6 * k + 2))) = y9 := ⟨_, rfl⟩
  rw [hy3] at hP hD
  obtain ⟨y4, hy4⟩ : ∃ y9, (o_x_pump_1 (xi 5) (xs (6 * k + 1)) (xs (6 * k + 2))) = y9 := ⟨_, rfl⟩
  rw [hy4] at hP hD
  replace hP : va_P g.1 vwCl (wXM g ho ux (upd (upd xi 4 y3) 5 y4) xl xa fc hm q i L a aL ++ cysW g cs) H := hP
  replace hD : va_D (fun q : Nat => s.heap.size ≤ q) (wXM g ho ux (upd (upd xi 4 y3) 5 y4) xl xa fc hm q i L a aL ++ cysW g cs) := hD
  refine nx_i (v := (r_x_pump (xi 4) (xi 5) (xs (6 * k + 1)) (xs (6 * k + 2)))) hre ?_
  refine lv_pop hx hb dL_law_182 rfl ?_
  refine lv_aload_n hx hb dL_law_183 rfl (lv_at hl 1 rfl) ?_
  refine lv_aload_n hx hb dL_law_184 rfl (lv_at hl 3 rfl) ?_
  refine lv_iload_n hx hb dL_law_185 rfl (lv_at hl 0 rfl) ?_
  refine lv_iconst (v := 1) hx hb dL_law_186 (by decide) ?_
  refine lv_iadd hx hb dL_law_187 ?_
  refine va_sld hx hb hX hbl hbA hS (sc_in (j := 1) (by decide) (by decide) hk hL) dL_law_188 ?_
  refine nx_i (v := xs (6 * k + 1)) (sc_ix (j := 1) (by decide) (by decide) hk hL) ?_
  refine lv_aload_n hx hb dL_law_189 rfl (lv_at hl 3 rfl) ?_
  refine lv_iload_n hx hb dL_law_190 rfl (lv_at hl 0 rfl) ?_
  refine lv_iconst (v := 2) hx hb dL_law_191 (by decide) ?_
  refine lv_iadd hx hb dL_law_192 ?_
  refine va_sld hx hb hX hbl hbA hS (sc_in (j := 2) (by decide) (by decide) hk hL) dL_law_193 ?_
  refine nx_i (v := xs (6 * k + 2)) (sc_ix (j := 2) (by decide) (by decide) hk hL) ?_
  refine kI (rnV (As := [.int (xs (6 * k + 1)), .int (xs (6 * k + 2))]) (rest := []) (Cn := RX12) C (g_pump l g hm q i L (xs (6 * k + 1)) (xs (6 * k + 2))) 2 gL_law_X12_pump rfl (by decide +kernel) ⟨(Nat.le_of_ble_eq_true rfl), (Nat.le_of_ble_eq_true rfl)⟩ hP (k := 51) (ci := 12) rfl rfl rfl rfl hl.1 rfl (Nat.le_of_ble_eq_true rfl) dL_law_194 ⟨(show cells + 0 ≤ 600000 by omega), (show slots + 0 ≤ 7302250 by omega)⟩) (spM (X := (wXM g ho ux (upd (upd xi 4 y3) 5 y4) xl xa fc hm q i L a aL)) (pl := cysW g cs) [false, false, false, false, false, false, false, false, false, false, false, false, false, false, false, false, false, false, false, false, false, false, false, false, false, false, false, false, false, false, false, false, false, false, false, false, false, false, false, false, false, false, false, false, false, false, false, false, false, false, false, true, false, false, false, false, false, false, false, false, false, false, false, false, false, false, false, false, false, false, false, false, false, false, false, false, false, false, false, false, false, false, false, false, false, false, false, false, false, false, false] hP hD rfl) hA hS (fun r5 u6 H locs hw hP hD hS => ?_)
  have hre := hw
  obtain ⟨y7, hy7⟩ : ∃ y9, (o_g_pump_5 i (xs (6 * k + 1)) (xs (6 * k + 2))) = y9 := ⟨_, rfl⟩
  rw [hy7] at hP hD
  obtain ⟨y8, hy8⟩ : ∃ y9, (o_g_pump_6 i (xs (6 * k + 1)) (xs (6 * k + 2))) = y9 := ⟨_, rfl⟩
  rw [hy8] at hP hD
  replace hP : va_P g.1 vwCl (wXM g ho ux (upd (upd xi 4 y3) 5 y4) xl xa fc hm q (upd (upd i 5 y7) 6 y8) L a aL ++ cysW g cs) H := hP
  replace hD : va_D (fun q : Nat => s.heap.size ≤ q) (wXM g ho ux (upd (upd xi 4 y3) 5 y4) xl xa fc hm q (upd (upd i 5 y7) 6 y8) L a aL ++ cysW g cs) := hD
  refine nx_i (v := (r_g_pump i (xs (6 * k + 1)) (xs (6 * k + 2)))) hre ?_
  refine lv_pop hx hb dL_law_197 rfl ?_
  refine lv_goto (tgt := 1134) hx hb dL_law_198 (by decide) ?_
  have iv15 : 0 ≤ (y7).toInt ∧ (y7).toInt ≤ 1000 := (pump_rng2 hy7 h5)
  refine lv_iinc (v := nI (6 * (k + 1))) (lv' := [(3, .int (nI (6 * (k + 1)))), (2, .ref hm), (1, .ref ho), (0, .ref b)]) hx hb dL_law_1134 hl (k := 0) rfl (sc_next k) (by decide) rfl (fun ls hl => ?_)
  refine lv_goto (tgt := 18) hx hb dL_law_1137 (by decide) ?_
  exact ih ls H locs (cells) (slots) (upd (upd xi 4 y3) 5 y4) xl xa fc cs (upd (upd i 5 y7) 6 y8) L a aL (by omega) (by omega) ⟨hcs, tb, ln0, ln1, ln2, ln3, h7, mci, ob, fb, pb, ri, h22, h24, h29, iv15, h23, h20, hr25, hr27, h50, h51, o47, h52, hr54, h35, z31, z64, o56, l58, sz, b6, nm, kc, kcr, kfl, klk⟩ (lv_sub hl [0, 1, 2, 3] rfl) hP hD hS
set_option maxRecDepth 100000 in
set_option maxHeartbeats 4000000 in
theorem lc_cylinder {p : Program} {l : Launch} {e : Env} {s : State} {m : MethodId} {below : List Frame} {meth : Method} {c : Code} {g : Gt} {b N ho hm : Nat} {ux q : Nat → Nat} {xs : Nat → Int32} (C : Ctx g p s m #[Value.ref b] meth c yL_law wsL_law cL_law 4 (some .boolean)) (hX : va_X b N xs s s.heap) (hbl : b < s.heap.size) (hL : N ≤ 3072) {n k : Nat} (hk : 6 * k + 6 ≤ N) (ih : LAt p l e s m below meth c g b ho hm ux q n (k + 1) 18) : LAt p l e s m below meth c g b ho hm ux q (n + 1) k 201 := by
  intro ls H locs cells slots xi xl xa fc cs i L a aL hcl hsl hinv hl hP hD hS
  obtain ⟨hcs, tb, ln0, ln1, ln2, ln3, h7, mci, ob, fb, pb, ri, h22, h24, h29, h5, h23, h20, hr25, hr27, h50, h51, o47, h52, hr54, h35, z31, z64, o56, l58, sz, b6, nm, kc, kcr, kfl, klk⟩ := hinv
  obtain ⟨hx, hb, hr, hts, hown, hlocks, hml, hin, hKN⟩ := id C
  have hK := hKN.1
  have hN := hKN.2
  have F : CallFix p m c cL_law 4 s _ wsL_law yL_law.cls := ⟨hx, hb, hml, hown, hts⟩
  have hA : ∀ q : Nat, s.heap.size ≤ q → (fun q : Nat => s.heap.size ≤ q) q := fun _ h => h
  have hbA : ¬ (fun q : Nat => s.heap.size ≤ q) b := Nat.not_le.mpr hbl
  refine lv_aload_n hx hb dL_law_201 rfl (lv_at hl 2 rfl) ?_
  refine lv_aload_n hx hb dL_law_202 rfl (lv_at hl 3 rfl) ?_
  refine lv_iload_n hx hb dL_law_203 rfl (lv_at hl 0 rfl) ?_
  refine lv_iconst (v := 1) hx hb dL_law_204 (by decide) ?_
  refine lv_iadd hx hb dL_law_205 ?_
  refine va_sld hx hb hX hbl hbA hS (sc_in (j := 1) (by decide) (by decide) hk hL) dL_law_206 ?_
  refine nx_i (v := xs (6 * k + 1)) (sc_ix (j := 1) (by decide) (by decide) hk hL) ?_
  refine lv_aload_n hx hb dL_law_207 rfl (lv_at hl 3 rfl) ?_
  refine lv_iload_n hx hb dL_law_208 rfl (lv_at hl 0 rfl) ?_
  refine lv_iconst (v := 2) hx hb dL_law_209 (by decide) ?_
  refine lv_iadd hx hb dL_law_210 ?_
  refine va_sld hx hb hX hbl hbA hS (sc_in (j := 2) (by decide) (by decide) hk hL) dL_law_211 ?_
  refine nx_i (v := xs (6 * k + 2)) (sc_ix (j := 2) (by decide) (by decide) hk hL) ?_
  refine lv_aload_n hx hb dL_law_212 rfl (lv_at hl 3 rfl) ?_
  refine lv_iload_n hx hb dL_law_213 rfl (lv_at hl 0 rfl) ?_
  refine lv_iconst (v := 3) hx hb dL_law_214 (by decide) ?_
  refine lv_iadd hx hb dL_law_215 ?_
  refine va_sld hx hb hX hbl hbA hS (sc_in (j := 3) (by decide) (by decide) hk hL) dL_law_216 ?_
  refine nx_i (v := xs (6 * k + 3)) (sc_ix (j := 3) (by decide) (by decide) hk hL) ?_
  refine kI (rnV (As := [.int (xs (6 * k + 1)), .int (xs (6 * k + 2)), .int (xs (6 * k + 3))]) (rest := []) (Cn := RX11) C (x_cylinder l g ho (ux 40) (ux 41) (xi 0) (xi 1) (xi 2) (xi 3) (ux 3) (ux 8) (ux 14) (ux 19) (ux 24) (ux 29) (ux 35) (ux 36) (ux 0) (xi 4) (xi 5) (ux 1) (xi 6) (ux 2) fc (xs (6 * k + 1)) (xs (6 * k + 2)) (xs (6 * k + 3)) cs hcs) 3 gL_law_X11_cylinder rfl (by decide +kernel) ⟨(Nat.le_of_ble_eq_true rfl), (Nat.le_of_ble_eq_true rfl)⟩ hP (k := 0) (ci := 11) rfl rfl rfl rfl hl.1 rfl (Nat.le_of_ble_eq_true rfl) dL_law_217 ⟨(show cells + 2 ≤ 600000 by omega), (show slots + 17 ≤ 7302250 by omega)⟩) (spMC (X := (wXM g ho ux xi xl xa fc hm q i L a aL)) (pl := cysW g cs) [true, true, true, false, false, false, false, false, false, false, false, false, false, false, false, false, false, false, false, false, false, false, false, false, false, false, false, false, false, false, false, false, false, false, false, false, false, false, false, false, false, false, false, false, false, false, false, false, false, false, false, false, false, false, false, false, false, false, false, false, false, false, false, false, false, false, false, false, false, false, false, false, false, false, false, false, false, false, false, false, false, false, false, false, false, false, false, false, false, false, false] hP hD rfl) hA hS (fun r1 u2 H locs hw hP hD hS => ?_)
  obtain ⟨x3, x4, x5⟩ := u2
  obtain ⟨f6, f7⟩ := hw
  replace hP : va_P g.1 vwCl (wXM g ho ux (upd xi 6 x3) xl xa x4 hm q i L a aL ++ cysW g x5) H := hP
  replace hD : va_D (fun q : Nat => s.heap.size ≤ q) (wXM g ho ux (upd xi 6 x3) xl xa x4 hm q i L a aL ++ cysW g x5) := hD
  replace f6 : CS x5 x3 x4 := f6
  replace f7 : SCYL cs (xi 6) (xs (6 * k + 1)) (xs (6 * k + 2)) (xs (6 * k + 3)) r1 x5 x3 := f7
  refine lv_pop hx hb dL_law_220 rfl ?_
  refine lv_aload_n hx hb dL_law_221 rfl (lv_at hl 1 rfl) ?_
  refine lv_aload_n hx hb dL_law_222 rfl (lv_at hl 3 rfl) ?_
  refine lv_iload_n hx hb dL_law_223 rfl (lv_at hl 0 rfl) ?_
  refine lv_iconst (v := 1) hx hb dL_law_224 (by decide) ?_
  refine lv_iadd hx hb dL_law_225 ?_
  refine va_sld hx hb hX hbl hbA hS (sc_in (j := 1) (by decide) (by decide) hk hL) dL_law_226 ?_
  refine nx_i (v := xs (6 * k + 1)) (sc_ix (j := 1) (by decide) (by decide) hk hL) ?_
  refine lv_aload_n hx hb dL_law_227 rfl (lv_at hl 3 rfl) ?_
  refine lv_iload_n hx hb dL_law_228 rfl (lv_at hl 0 rfl) ?_
  refine lv_iconst (v := 2) hx hb dL_law_229 (by decide) ?_
  refine lv_iadd hx hb dL_law_230 ?_
  refine va_sld hx hb hX hbl hbA hS (sc_in (j := 2) (by decide) (by decide) hk hL) dL_law_231 ?_
  refine nx_i (v := xs (6 * k + 2)) (sc_ix (j := 2) (by decide) (by decide) hk hL) ?_
  refine lv_aload_n hx hb dL_law_232 rfl (lv_at hl 3 rfl) ?_
  refine lv_iload_n hx hb dL_law_233 rfl (lv_at hl 0 rfl) ?_
  refine lv_iconst (v := 3) hx hb dL_law_234 (by decide) ?_
  refine lv_iadd hx hb dL_law_235 ?_
  refine va_sld hx hb hX hbl hbA hS (sc_in (j := 3) (by decide) (by decide) hk hL) dL_law_236 ?_
  refine nx_i (v := xs (6 * k + 3)) (sc_ix (j := 3) (by decide) (by decide) hk hL) ?_
  refine kI (rnV (As := [.int (xs (6 * k + 1)), .int (xs (6 * k + 2)), .int (xs (6 * k + 3))]) (rest := []) (Cn := RX12) C (w_cylinder l g hm q i L (a 8) (a 9) (a 10) (a 12) (a 15) (a 16) (xs (6 * k + 1)) (xs (6 * k + 2)) (xs (6 * k + 3)) h7 mci fb) 3 gL_law_X12_cylinder rfl (by decide +kernel) ⟨(Nat.le_of_ble_eq_true rfl), (Nat.le_of_ble_eq_true rfl)⟩ hP (k := 51) (ci := 12) rfl rfl rfl rfl hl.1 rfl (Nat.le_of_ble_eq_true rfl) dL_law_237 ⟨(show cells + 2 + 0 ≤ 600000 by omega), (show slots + 17 + 0 ≤ 7302250 by omega)⟩) (spM (X := (wXM g ho ux (upd xi 6 x3) xl xa x4 hm q i L a aL)) (pl := cysW g x5) [false, false, false, false, false, false, false, false, false, false, false, false, false, false, false, false, false, false, false, false, false, false, false, false, false, false, false, false, false, false, false, false, false, false, false, false, false, false, false, false, false, false, false, false, false, false, false, false, false, false, false, true, false, false, false, false, true, true, true, false, true, false, false, true, true, false, false, false, false, false, false, false, false, false, false, false, false, false, false, false, false, false, false, false, false, false, false, false, false, false, false] hP hD rfl) hA hS (fun r8 u9 H locs hw hP hD hS => ?_)
  obtain ⟨x10, x11, x12, x13, x14, x15⟩ := u9
  obtain ⟨f16, f17, f18, f19, f20, f21, f22, f23, f24, f25⟩ := hw
  replace hP : va_P g.1 vwCl (wXM g ho ux (upd xi 6 x3) xl xa x4 hm q (upd i 7 x10) L (va_up (va_up (va_up (va_up (va_up a 8 x11) 9 x12) 10 x13) 12 x14) 15 x15) aL ++ cysW g x5) H := hP
  replace hD : va_D (fun q : Nat => s.heap.size ≤ q) (wXM g ho ux (upd xi 6 x3) xl xa x4 hm q (upd i 7 x10) L (va_up (va_up (va_up (va_up (va_up a 8 x11) 9 x12) 10 x13) 12 x14) 15 x15) aL ++ cysW g x5) := hD
  replace f16 : 0 ≤ (x10).toInt ∧ (x10).toInt ≤ 6 := f16
  replace f17 : MCI (upd i 7 x10) x12 x13 x14 := f17
  replace f18 : FB x15 (a 16) := f18
  replace f19 : r8 = sc_r (i 7) (xs (6 * k + 1)) (xs (6 * k + 2)) (xs (6 * k + 3)) := f19
  replace f20 : x10 = sc_n (i 7) (xs (6 * k + 1)) (xs (6 * k + 2)) (xs (6 * k + 3)) := f20
  replace f21 : x11 = sc_u (i 7) (a 8) (xs (6 * k + 1)) (xs (6 * k + 2)) (xs (6 * k + 3)) (xs (6 * k + 1)) := f21
  replace f22 : x12 = sc_u (i 7) (a 9) (xs (6 * k + 1)) (xs (6 * k + 2)) (xs (6 * k + 3)) (xs (6 * k + 2)) := f22
  replace f23 : x13 = sc_u (i 7) (a 10) (xs (6 * k + 1)) (xs (6 * k + 2)) (xs (6 * k + 3)) (xs (6 * k + 3)) := f23
  replace f24 : x14 = sc_u (i 7) (a 12) (xs (6 * k + 1)) (xs (6 * k + 2)) (xs (6 * k + 3)) 1 := f24
  replace f25 : x15 = sc_u (i 7) (a 15) (xs (6 * k + 1)) (xs (6 * k + 2)) (xs (6 * k + 3)) 1000 := f25
  refine lv_pop hx hb dL_law_240 rfl ?_
  refine lv_goto (tgt := 1134) hx hb dL_law_241 (by decide) ?_
  have iv32 : NUM x5 := (f7.2.2.2.2.2.2.2.2 nm)
  have iv33 : x3 = x10 := (by simp only [f7.1, f7.2.1, f7.2.2.1, f7.2.2.2.1, f7.2.2.2.2.1, f7.2.2.2.2.2.1, f7.2.2.2.2.2.2.1, f19, f20, f21, f22, f23, f24, f25, kc, kcr, kfl, look_r h7, look_t h7, as_r h7, as_l h7])
  have iv34 : fF yC x5 = (a 14) := (by simp only [f7.1, f7.2.1, f7.2.2.1, f7.2.2.2.1, f7.2.2.2.2.1, f7.2.2.2.2.2.1, f7.2.2.2.2.2.2.1, f19, f20, f21, f22, f23, f24, f25, kc, kcr, kfl, look_r h7, look_t h7, as_r h7, as_l h7])
  have iv35 : fF yF x5 = x15 := (by simp only [f7.1, f7.2.1, f7.2.2.1, f7.2.2.2.1, f7.2.2.2.2.1, f7.2.2.2.2.2.1, f7.2.2.2.2.2.2.1, f19, f20, f21, f22, f23, f24, f25, kc, kcr, kfl, look_r h7, look_t h7, as_r h7, as_l h7])
  refine lv_iinc (v := nI (6 * (k + 1))) (lv' := [(3, .int (nI (6 * (k + 1)))), (2, .ref hm), (1, .ref ho), (0, .ref b)]) hx hb dL_law_1134 hl (k := 0) rfl (sc_next k) (by decide) rfl (fun ls hl => ?_)
  refine lv_goto (tgt := 18) hx hb dL_law_1137 (by decide) ?_
  exact ih ls H locs (cells + 2) (slots + 17) (upd xi 6 x3) xl xa x4 x5 (upd i 7 x10) L (va_up (va_up (va_up (va_up (va_up a 8 x11) 9 x12) 10 x13) 12 x14) 15 x15) aL (by omega) (by omega) ⟨f6, tb, ln0, ln1, ln2, ln3, f16, f17, ob, f18, pb, ri, h22, h24, h29, h5, h23, h20, hr25, hr27, h50, h51, o47, h52, hr54, h35, z31, z64, o56, l58, sz, b6, iv32, iv33, iv34, iv35, klk⟩ (lv_sub hl [0, 1, 2, 3] rfl) hP hD hS
set_option maxRecDepth 100000 in
set_option maxHeartbeats 4000000 in
theorem lc_rule {p : Program} {l : Launch} {e : Env} {s : State} {m : MethodId} {below : List Frame} {meth : Method} {c : Code} {g : Gt} {b N ho hm : Nat} {ux q : Nat → Nat} {xs : Nat → Int32} (C : Ctx g p s m #[Value.ref b] meth c yL_law wsL_law cL_law 4 (some .boolean)) (hX : va_X b N xs s s.heap) (hbl : b < s.heap.size) (hL : N ≤ 3072) {n k : Nat} (hk : 6 * k + 6 ≤ N) (ih : LAt p l e s m below meth c g b ho hm ux q n (k + 1) 18) : LAt p l e s m below meth c g b ho hm ux q (n + 1) k 244 := by
  intro ls H locs cells slots xi xl xa fc cs i L a aL hcl hsl hinv hl hP hD hS
  obtain ⟨hcs, tb, ln0, ln1, ln2, ln3, h7, mci, ob, fb, pb, ri, h22, h24, h29, h5, h23, h20, hr25, hr27, h50, h51, o47, h52, hr54, h35, z31, z64, o56, l58, sz, b6, nm, kc, kcr, kfl, klk⟩ := hinv
  obtain ⟨hx, hb, hr, hts, hown, hlocks, hml, hin, hKN⟩ := id C
  have hK := hKN.1
  have hN := hKN.2
  have F : CallFix p m c cL_law 4 s _ wsL_law yL_law.cls := ⟨hx, hb, hml, hown, hts⟩
  have hA : ∀ q : Nat, s.heap.size ≤ q → (fun q : Nat => s.heap.size ≤ q) q := fun _ h => h
  have hbA : ¬ (fun q : Nat => s.heap.size ≤ q) b := Nat.not_le.mpr hbl
  refine lv_aload_n hx hb dL_law_244 rfl (lv_at hl 2 rfl) ?_
  refine lv_aload_n hx hb dL_law_245 rfl (lv_at hl 3 rfl) ?_
  refine lv_iload_n hx hb dL_law_246 rfl (lv_at hl 0 rfl) ?_
  refine lv_iconst (v := 1) hx hb dL_law_247 (by decide) ?_
  refine lv_iadd hx hb dL_law_248 ?_
  refine va_sld hx hb hX hbl hbA hS (sc_in (j := 1) (by decide) (by decide) hk hL) dL_law_249 ?_
  refine nx_i (v := xs (6 * k + 1)) (sc_ix (j := 1) (by decide) (by decide) hk hL) ?_
  refine lv_aload_n hx hb dL_law_250 rfl (lv_at hl 3 rfl) ?_
  refine lv_iload_n hx hb dL_law_251 rfl (lv_at hl 0 rfl) ?_
  refine lv_iconst (v := 2) hx hb dL_law_252 (by decide) ?_
  refine lv_iadd hx hb dL_law_253 ?_
  refine va_sld hx hb hX hbl hbA hS (sc_in (j := 2) (by decide) (by decide) hk hL) dL_law_254 ?_
  refine nx_i (v := xs (6 * k + 2)) (sc_ix (j := 2) (by decide) (by decide) hk hL) ?_
  refine lv_aload_n hx hb dL_law_255 rfl (lv_at hl 3 rfl) ?_
  refine lv_iload_n hx hb dL_law_256 rfl (lv_at hl 0 rfl) ?_
  refine lv_iconst (v := 3) hx hb dL_law_257 (by decide) ?_
  refine lv_iadd hx hb dL_law_258 ?_
  refine va_sld hx hb hX hbl hbA hS (sc_in (j := 3) (by decide) (by decide) hk hL) dL_law_259 ?_
  refine nx_i (v := xs (6 * k + 3)) (sc_ix (j := 3) (by decide) (by decide) hk hL) ?_
  refine kI (rnV (As := [.int (xs (6 * k + 1)), .int (xs (6 * k + 2)), .int (xs (6 * k + 3))]) (rest := []) (Cn := RX11) C (x_rule l g ho (ux 40) (ux 41) (xi 0) (xi 1) (xi 2) (xi 3) (ux 3) (ux 8) (ux 14) (ux 19) (ux 24) (ux 29) (ux 35) (ux 36) (ux 0) (xi 4) (xi 5) (ux 1) (xi 6) (ux 2) fc (xa 0) (xs (6 * k + 1)) (xs (6 * k + 2)) (xs (6 * k + 3)) cs hcs) 3 gL_law_X11_rule rfl (by decide +kernel) ⟨(Nat.le_of_ble_eq_true rfl), (Nat.le_of_ble_eq_true rfl)⟩ hP (k := 0) (ci := 11) rfl rfl rfl rfl hl.1 rfl (Nat.le_of_ble_eq_true rfl) dL_law_260 ⟨(show cells + 0 ≤ 600000 by omega), (show slots + 0 ≤ 7302250 by omega)⟩) (spMC (X := (wXM g ho ux xi xl xa fc hm q i L a aL)) (pl := cysW g cs) [true, true, true, true, false, false, false, false, false, false, false, false, false, false, false, false, false, false, false, false, false, false, false, false, false, false, false, false, false, false, false, false, false, false, false, false, false, false, false, false, false, false, false, false, false, false, false, false, false, false, false, false, false, false, false, false, false, false, false, false, false, false, false, false, false, false, false, false, false, false, false, false, false, false, false, false, false, false, false, false, false, false, false, false, false, false, false, false, false, false, false] hP hD rfl) hA hS (fun r1 u2 H locs hw hP hD hS => ?_)
  obtain ⟨x3, x4⟩ := u2
  obtain ⟨f5, f6, f7, f8, f9, f10⟩ := hw
  replace hP : va_P g.1 vwCl (wXM g ho ux xi xl (va_up xa 0 x3) fc hm q i L a aL ++ cysW g x4) H := hP
  replace hD : va_D (fun q : Nat => s.heap.size ≤ q) (wXM g ho ux xi xl (va_up xa 0 x3) fc hm q i L a aL ++ cysW g x4) := hD
  replace f5 : CS x4 (xi 6) fc := f5
  replace f6 : SAMES cs x4 := f6
  replace f7 : r1 = ru_r (xi 6) (fF yC cs) (fF yF cs) (xa 0) (xs (6 * k + 1)) (xs (6 * k + 2)) (xs (6 * k + 3)) := f7
  replace f8 : x3 = ru_k (xi 6) (xa 0) (xs (6 * k + 1)) (xs (6 * k + 2)) (xs (6 * k + 3)) := f8
  replace f9 : fF yC x4 = ru_c (xi 6) (fF yC cs) (xs (6 * k + 1)) (xs (6 * k + 2)) (xs (6 * k + 3)) := f9
  replace f10 : fF yF x4 = ru_f (xi 6) (fF yF cs) (xs (6 * k + 1)) (xs (6 * k + 2)) (xs (6 * k + 3)) := f10
  refine lv_aload_n hx hb dL_law_263 rfl (lv_at hl 1 rfl) ?_
  refine lv_aload_n hx hb dL_law_264 rfl (lv_at hl 3 rfl) ?_
  refine lv_iload_n hx hb dL_law_265 rfl (lv_at hl 0 rfl) ?_
  refine lv_iconst (v := 1) hx hb dL_law_266 (by decide) ?_
  refine lv_iadd hx hb dL_law_267 ?_
  refine va_sld hx hb hX hbl hbA hS (sc_in (j := 1) (by decide) (by decide) hk hL) dL_law_268 ?_
  refine nx_i (v := xs (6 * k + 1)) (sc_ix (j := 1) (by decide) (by decide) hk hL) ?_
  refine lv_aload_n hx hb dL_law_269 rfl (lv_at hl 3 rfl) ?_
  refine lv_iload_n hx hb dL_law_270 rfl (lv_at hl 0 rfl) ?_
  refine lv_iconst (v := 2) hx hb dL_law_271 (by decide) ?_
  refine lv_iadd hx hb dL_law_272 ?_
  refine va_sld hx hb hX hbl hbA hS (sc_in (j := 2) (by decide) (by decide) hk hL) dL_law_273 ?_
  refine nx_i (v := xs (6 * k + 2)) (sc_ix (j := 2) (by decide) (by decide) hk hL) ?_
  refine lv_aload_n hx hb dL_law_274 rfl (lv_at hl 3 rfl) ?_
  refine lv_iload_n hx hb dL_law_275 rfl (lv_at hl 0 rfl) ?_
  refine lv_iconst (v := 3) hx hb dL_law_276 (by decide) ?_
  refine lv_iadd hx hb dL_law_277 ?_
  refine va_sld hx hb hX hbl hbA hS (sc_in (j := 3) (by decide) (by decide) hk hL) dL_law_278 ?_
  refine nx_i (v := xs (6 * k + 3)) (sc_ix (j := 3) (by decide) (by decide) hk hL) ?_
  refine kI (rnV (As := [.int (xs (6 * k + 1)), .int (xs (6 * k + 2)), .int (xs (6 * k + 3))]) (rest := [.int r1]) (Cn := RX12) C (w_rule l g hm q i L (a 14) (a 15) (a 16) (xs (6 * k + 1)) (xs (6 * k + 2)) (xs (6 * k + 3)) h7 fb) 3 gL_law_X12_rule rfl (by decide +kernel) ⟨(Nat.le_of_ble_eq_true rfl), (Nat.le_of_ble_eq_true rfl)⟩ hP (k := 51) (ci := 12) rfl rfl rfl rfl hl.1 rfl (Nat.le_of_ble_eq_true rfl) dL_law_279 ⟨(show cells + 0 ≤ 600000 by omega), (show slots + 0 ≤ 7302250 by omega)⟩) (spM (X := (wXM g ho ux xi xl (va_up xa 0 x3) fc hm q i L a aL)) (pl := cysW g x4) [false, false, false, false, false, false, false, false, false, false, false, false, false, false, false, false, false, false, false, false, false, false, false, false, false, false, false, false, false, false, false, false, false, false, false, false, false, false, false, false, false, false, false, false, false, false, false, false, false, false, false, true, false, false, false, false, false, false, false, false, false, false, true, true, true, false, false, false, false, false, false, false, false, false, false, false, false, false, false, false, false, false, false, false, false, false, false, false, false, false, false] hP hD rfl) hA hS (fun r11 u12 H locs hw hP hD hS => ?_)
  obtain ⟨x13, x14, x15⟩ := u12
  obtain ⟨f16, f17, f18, f19, f20⟩ := hw
  replace hP : va_P g.1 vwCl (wXM g ho ux xi xl (va_up xa 0 x3) fc hm q i L (va_up (va_up (va_up a 14 x13) 15 x14) 16 x15) aL ++ cysW g x4) H := hP
  replace hD : va_D (fun q : Nat => s.heap.size ≤ q) (wXM g ho ux xi xl (va_up xa 0 x3) fc hm q i L (va_up (va_up (va_up a 14 x13) 15 x14) 16 x15) aL ++ cysW g x4) := hD
  replace f16 : FB x14 x15 := f16
  replace f17 : r11 = rm_r (i 7) (a 14) (a 15) (a 16) (xs (6 * k + 1)) (xs (6 * k + 2)) (xs (6 * k + 3)) := f17
  replace f18 : x13 = ru_c (i 7) (a 14) (xs (6 * k + 1)) (xs (6 * k + 2)) (xs (6 * k + 3)) := f18
  replace f19 : x14 = ru_f (i 7) (a 15) (xs (6 * k + 1)) (xs (6 * k + 2)) (xs (6 * k + 3)) := f19
  replace f20 : x15 = rm_k (i 7) (a 16) (xs (6 * k + 1)) (xs (6 * k + 2)) (xs (6 * k + 3)) := f20
  refine lv_icmp_eq (tgt := 1134) hx hb dL_law_282 (by decide) (fun _ => ?_) (fun cc0 => absurd (by rw [f7, f17, rule_r h7 kc klk, kc, kcr, kfl]) cc0)
  have iv32 : NUM x4 := (f6.2.2.2 nm)
  have iv34 : fF yC x4 = x13 := (by simp only [f6.1, f6.2.1, f6.2.2.1, f7, f8, f9, f10, f17, f18, f19, f20, kc, kcr, kfl, look_r h7, look_t h7, as_r h7, as_l h7])
  have iv35 : fF yF x4 = x14 := (by simp only [f6.1, f6.2.1, f6.2.2.1, f7, f8, f9, f10, f17, f18, f19, f20, kc, kcr, kfl, look_r h7, look_t h7, as_r h7, as_l h7])
  have iv36 : EQn 6 x3 x15 := (by rw [f8, f20]; exact rule_eqn h7 kc klk)
  refine lv_iinc (v := nI (6 * (k + 1))) (lv' := [(3, .int (nI (6 * (k + 1)))), (2, .ref hm), (1, .ref ho), (0, .ref b)]) hx hb dL_law_1134 hl (k := 0) rfl (sc_next k) (by decide) rfl (fun ls hl => ?_)
  refine lv_goto (tgt := 18) hx hb dL_law_1137 (by decide) ?_
  exact ih ls H locs (cells) (slots) xi xl (va_up xa 0 x3) fc x4 i L (va_up (va_up (va_up a 14 x13) 15 x14) 16 x15) aL (by omega) (by omega) ⟨f5, tb, ln0, ln1, ln2, ln3, h7, mci, ob, f16, pb, ri, h22, h24, h29, h5, h23, h20, hr25, hr27, h50, h51, o47, h52, hr54, h35, z31, z64, o56, l58, sz, b6, iv32, kc, iv34, iv35, iv36⟩ (lv_sub hl [0, 1, 2, 3] rfl) hP hD hS
set_option maxRecDepth 100000 in
set_option maxHeartbeats 4000000 in
theorem lc_loads {p : Program} {l : Launch} {e : Env} {s : State} {m : MethodId} {below : List Frame} {meth : Method} {c : Code} {g : Gt} {b N ho hm : Nat} {ux q : Nat → Nat} {xs : Nat → Int32} (C : Ctx g p s m #[Value.ref b] meth c yL_law wsL_law cL_law 4 (some .boolean)) (hX : va_X b N xs s s.heap) (hbl : b < s.heap.size) (hL : N ≤ 3072) {n k : Nat} (hk : 6 * k + 6 ≤ N) (ih : LAt p l e s m below meth c g b ho hm ux q n (k + 1) 18) : LAt p l e s m below meth c g b ho hm ux q (n + 1) k 287 := by
  intro ls H locs cells slots xi xl xa fc cs i L a aL hcl hsl hinv hl hP hD hS
  obtain ⟨hcs, tb, ln0, ln1, ln2, ln3, h7, mci, ob, fb, pb, ri, h22, h24, h29, h5, h23, h20, hr25, hr27, h50, h51, o47, h52, hr54, h35, z31, z64, o56, l58, sz, b6, nm, kc, kcr, kfl, klk⟩ := hinv
  obtain ⟨hx, hb, hr, hts, hown, hlocks, hml, hin, hKN⟩ := id C
  have hK := hKN.1
  have hN := hKN.2
  have F : CallFix p m c cL_law 4 s _ wsL_law yL_law.cls := ⟨hx, hb, hml, hown, hts⟩
  have hA : ∀ q : Nat, s.heap.size ≤ q → (fun q : Nat => s.heap.size ≤ q) q := fun _ h => h
  have hbA : ¬ (fun q : Nat => s.heap.size ≤ q) b := Nat.not_le.mpr hbl
  refine lv_aload_n hx hb dL_law_287 rfl (lv_at hl 2 rfl) ?_
  refine lv_aload_n hx hb dL_law_288 rfl (lv_at hl 3 rfl) ?_
  refine lv_iload_n hx hb dL_law_289 rfl (lv_at hl 0 rfl) ?_
  refine lv_iconst (v := 1) hx hb dL_law_290 (by decide) ?_
  refine lv_iadd hx hb dL_law_291 ?_
  refine va_sld hx hb hX hbl hbA hS (sc_in (j := 1) (by decide) (by decide) hk hL) dL_law_292 ?_
  refine nx_i (v := xs (6 * k + 1)) (sc_ix (j := 1) (by decide) (by decide) hk hL) ?_
  refine lv_aload_n hx hb dL_law_293 rfl (lv_at hl 3 rfl) ?_
  refine lv_iload_n hx hb dL_law_294 rfl (lv_at hl 0 rfl) ?_
  refine lv_iconst (v := 2) hx hb dL_law_295 (by decide) ?_
  refine lv_iadd hx hb dL_law_296 ?_
  refine va_sld hx hb hX hbl hbA hS (sc_in (j := 2) (by decide) (by decide) hk hL) dL_law_297 ?_
  refine nx_i (v := xs (6 * k + 2)) (sc_ix (j := 2) (by decide) (by decide) hk hL) ?_
  refine lv_aload_n hx hb dL_law_298 rfl (lv_at hl 3 rfl) ?_
  refine lv_iload_n hx hb dL_law_299 rfl (lv_at hl 0 rfl) ?_
  refine lv_iconst (v := 3) hx hb dL_law_300 (by decide) ?_
  refine lv_iadd hx hb dL_law_301 ?_
  refine va_sld hx hb hX hbl hbA hS (sc_in (j := 3) (by decide) (by decide) hk hL) dL_law_302 ?_
  refine nx_i (v := xs (6 * k + 3)) (sc_ix (j := 3) (by decide) (by decide) hk hL) ?_
  refine lv_aload_n hx hb dL_law_303 rfl (lv_at hl 3 rfl) ?_
  refine lv_iload_n hx hb dL_law_304 rfl (lv_at hl 0 rfl) ?_
  refine lv_iconst (v := 4) hx hb dL_law_305 (by decide) ?_
  refine lv_iadd hx hb dL_law_306 ?_
  refine va_sld hx hb hX hbl hbA hS (sc_in (j := 4) (by decide) (by decide) hk hL) dL_law_307 ?_
  refine nx_i (v := xs (6 * k + 4)) (sc_ix (j := 4) (by decide) (by decide) hk hL) ?_
  refine lv_aload_n hx hb dL_law_308 rfl (lv_at hl 3 rfl) ?_
  refine lv_iload_n hx hb dL_law_309 rfl (lv_at hl 0 rfl) ?_
  refine lv_iconst (v := 5) hx hb dL_law_310 (by decide) ?_
  refine lv_iadd hx hb dL_law_311 ?_
  refine va_sld hx hb hX hbl hbA hS (sc_in (j := 5) (by decide) (by decide) hk hL) dL_law_312 ?_
  refine nx_i (v := xs (6 * k + 5)) (sc_ix (j := 5) (by decide) (by decide) hk hL) ?_
  refine kI (rnV (As := [.int (xs (6 * k + 1)), .int (xs (6 * k + 2)), .int (xs (6 * k + 3)), .int (xs (6 * k + 4)), .int (xs (6 * k + 5))]) (rest := []) (Cn := RX11) C (x_loads l g ho (ux 40) (ux 41) (xi 0) (xi 1) (xi 2) (xi 3) (ux 3) (ux 8) (ux 14) (ux 19) (ux 24) (ux 29) (ux 35) (ux 36) (ux 0) (xi 4) (xi 5) (ux 1) (xi 6) (ux 2) fc (shF (ux 42) (ux 44) (ux 46) (ux 48)) (ux 42) (ux 43) (xi 35) (xi 36) (xi 37) (xa 28) (ux 44) (ux 45) (xi 38) (xi 39) (xi 40) (xa 29) (ux 46) (ux 47) (xi 41) (xi 42) (xi 43) (xa 30) (ux 48) (ux 49) (xi 44) (xi 45) (xi 46) (xa 31) (xs (6 * k + 1)) (xs (6 * k + 2)) (xs (6 * k + 3)) (xs (6 * k + 4)) (xs (6 * k + 5)) cs hcs rfl) 5 gL_law_X11_loads rfl (by decide +kernel) ⟨(Nat.le_of_ble_eq_true rfl), (Nat.le_of_ble_eq_true rfl)⟩ hP (k := 0) (ci := 11) rfl rfl rfl rfl hl.1 rfl (Nat.le_of_ble_eq_true rfl) dL_law_313 ⟨(show cells + 0 ≤ 600000 by omega), (show slots + 0 ≤ 7302250 by omega)⟩) (spMC (X := (wXM g ho ux xi xl xa fc hm q i L a aL)) (pl := cysW g cs) [true, true, true, false, false, false, false, false, false, false, false, false, false, false, false, false, false, false, false, false, false, false, false, false, false, false, false, false, false, false, false, false, false, false, false, false, false, false, false, false, false, true, false, true, true, true, true, true, true, true, true, false, false, false, false, false, false, false, false, false, false, false, false, false, false, false, false, false, false, false, false, false, false, false, false, false, false, false, false, false, false, false, false, false, false, false, false, false, false, false, false] hP hD rfl) hA hS (fun r1 u2 H locs hw hP hD hS => ?_)
  obtain ⟨x3, x4⟩ := u2
  obtain ⟨f5, f6, f7, f8⟩ := hw
  replace hP : va_P g.1 vwCl (wXM g ho ux (upd xi 0 x3) xl xa fc hm q i L a aL ++ cysW g x4) H := hP
  replace hD : va_D (fun q : Nat => s.heap.size ≤ q) (wXM g ho ux (upd xi 0 x3) xl xa fc hm q i L a aL ++ cysW g x4) := hD
  replace f5 : CS x4 (xi 6) fc := f5
  replace f6 : SAMES cs x4 := f6
  replace f7 : fF yC x4 = fF yC cs := f7
  replace f8 : fF yF x4 = fF yF cs := f8
  refine lv_pop hx hb dL_law_316 rfl ?_
  refine lv_aload_n hx hb dL_law_317 rfl (lv_at hl 1 rfl) ?_
  refine lv_aload_n hx hb dL_law_318 rfl (lv_at hl 3 rfl) ?_
  refine lv_iload_n hx hb dL_law_319 rfl (lv_at hl 0 rfl) ?_
  refine lv_iconst (v := 1) hx hb dL_law_320 (by decide) ?_
  refine lv_iadd hx hb dL_law_321 ?_
  refine va_sld hx hb hX hbl hbA hS (sc_in (j := 1) (by decide) (by decide) hk hL) dL_law_322 ?_
  refine nx_i (v := xs (6 * k + 1)) (sc_ix (j := 1) (by decide) (by decide) hk hL) ?_
  refine lv_aload_n hx hb dL_law_323 rfl (lv_at hl 3 rfl) ?_
  refine lv_iload_n hx hb dL_law_324 rfl (lv_at hl 0 rfl) ?_
  refine lv_iconst (v := 2) hx hb dL_law_325 (by decide) ?_
  refine lv_iadd hx hb dL_law_326 ?_
  refine va_sld hx hb hX hbl hbA hS (sc_in (j := 2) (by decide) (by decide) hk hL) dL_law_327 ?_
  refine nx_i (v := xs (6 * k + 2)) (sc_ix (j := 2) (by decide) (by decide) hk hL) ?_
  refine lv_aload_n hx hb dL_law_328 rfl (lv_at hl 3 rfl) ?_
  refine lv_iload_n hx hb dL_law_329 rfl (lv_at hl 0 rfl) ?_
  refine lv_iconst (v := 3) hx hb dL_law_330 (by decide) ?_
  refine lv_iadd hx hb dL_law_331 ?_
  refine va_sld hx hb hX hbl hbA hS (sc_in (j := 3) (by decide) (by decide) hk hL) dL_law_332 ?_
  refine nx_i (v := xs (6 * k + 3)) (sc_ix (j := 3) (by decide) (by decide) hk hL) ?_
  refine lv_aload_n hx hb dL_law_333 rfl (lv_at hl 3 rfl) ?_
  refine lv_iload_n hx hb dL_law_334 rfl (lv_at hl 0 rfl) ?_
  refine lv_iconst (v := 4) hx hb dL_law_335 (by decide) ?_
  refine lv_iadd hx hb dL_law_336 ?_
  refine va_sld hx hb hX hbl hbA hS (sc_in (j := 4) (by decide) (by decide) hk hL) dL_law_337 ?_
  refine nx_i (v := xs (6 * k + 4)) (sc_ix (j := 4) (by decide) (by decide) hk hL) ?_
  refine lv_aload_n hx hb dL_law_338 rfl (lv_at hl 3 rfl) ?_
  refine lv_iload_n hx hb dL_law_339 rfl (lv_at hl 0 rfl) ?_
  refine lv_iconst (v := 5) hx hb dL_law_340 (by decide) ?_
  refine lv_iadd hx hb dL_law_341 ?_
  refine va_sld hx hb hX hbl hbA hS (sc_in (j := 5) (by decide) (by decide) hk hL) dL_law_342 ?_
  refine nx_i (v := xs (6 * k + 5)) (sc_ix (j := 5) (by decide) (by decide) hk hL) ?_
  refine kI (rnV (As := [.int (xs (6 * k + 1)), .int (xs (6 * k + 2)), .int (xs (6 * k + 3)), .int (xs (6 * k + 4)), .int (xs (6 * k + 5))]) (rest := []) (Cn := RX12) C (w_loads l g hm q i L (a 1) (a 2) (a 3) (a 12) (a 13) (a 9) (a 10) (xs (6 * k + 1)) (xs (6 * k + 2)) (xs (6 * k + 3)) (xs (6 * k + 4)) (xs (6 * k + 5)) h7 sz mci) 5 gL_law_X12_loads rfl (by decide +kernel) ⟨(Nat.le_of_ble_eq_true rfl), (Nat.le_of_ble_eq_true rfl)⟩ hP (k := 51) (ci := 12) rfl rfl rfl rfl hl.1 rfl (Nat.le_of_ble_eq_true rfl) dL_law_343 ⟨(show cells + 0 ≤ 600000 by omega), (show slots + 0 ≤ 7302250 by omega)⟩) (spB (X := (wXM g ho ux (upd xi 0 x3) xl xa fc hm q i L a aL)) (pl := cysW g x4) (wr := [(ho, .inr (11, [.ref (ux 0), .ref (ux 3), .ref (ux 8), .ref (ux 14), .ref (ux 19), .ref (ux 24), .ref (ux 29), .ref (ux 35), .ref (ux 36), .ref (ux 40), .ref (ux 41), .int x3, .int (xi 1), .int (xi 2), .int (xi 3)])), ((ux 0), .inr (4, [.int (xi 4), .int (xi 5), .ref (ux 1), .int (xi 6), .ref (ux 2)])), ((ux 1), .inl (g.2 3, 6, .inr (.inr (.inr (.inr fc))))), ((ux 2), .inl (g.2 0, 6, .inl (xa 0))), ((ux 3), .inr (7, [.ref (ux 4), .ref (ux 5), .ref (ux 6), .ref (ux 7), .int (xi 7)])), ((ux 4), .inl (g.2 0, 6, .inl (xa 1))), ((ux 5), .inl (g.2 0, 6, .inl (xa 2))), ((ux 6), .inl (g.2 0, 6, .inl (xa 3))), ((ux 7), .inr (8, [.int (xi 8), .int (xi 9), .int (xi 10), .int (xi 11)])), ((ux 8), .inr (1, [.ref (ux 9), .ref (ux 10), .int (xi 12), .ref (ux 11), .ref (ux 12), .ref (ux 13), .int (xi 13), .int (xi 14), .int (xi 15), .int (xi 16), .long (xl 0), .long (xl 1), .long (xl 2)])), ((ux 9), .inl (g.2 0, 6, .inl (xa 4))), ((ux 10), .inl (g.2 0, 6, .inl (xa 5))), ((ux 11), .inl (g.2 0, 6, .inl (xa 6))), ((ux 12), .inl (g.2 0, 6, .inl (xa 7))), ((ux 13), .inl (g.2 0, 6, .inl (xa 8))), ((ux 14), .inr (3, [.ref (ux 15), .ref (ux 16), .ref (ux 17), .ref (ux 18), .int (xi 17)])), ((ux 15), .inl (g.2 0, 30, .inl (xa 9))), ((ux 16), .inl (g.2 0, 30, .inl (xa 10))), ((ux 17), .inl (g.2 0, 30, .inl (xa 11))), ((ux 18), .inl (g.2 0, 30, .inl (xa 12))), ((ux 19), .inr (7, [.ref (ux 20), .ref (ux 21), .ref (ux 22), .ref (ux 23), .int (xi 18)])), ((ux 20), .inl (g.2 0, 6, .inl (xa 13))), ((ux 21), .inl (g.2 0, 6, .inl (xa 14))), ((ux 22), .inl (g.2 0, 6, .inl (xa 15))), ((ux 23), .inr (8, [.int (xi 19), .int (xi 20), .int (xi 21), .int (xi 22)])), ((ux 24), .inr (7, [.ref (ux 25), .ref (ux 26), .ref (ux 27), .ref (ux 28), .int (xi 23)])), ((ux 25), .inl (g.2 0, 6, .inl (xa 16))), ((ux 26), .inl (g.2 0, 6, .inl (xa 17))), ((ux 27), .inl (g.2 0, 6, .inl (xa 18))), ((ux 28), .inr (8, [.int (xi 24), .int (xi 25), .int (xi 26), .int (xi 27)])), ((ux 29), .inr (1, [.ref (ux 30), .ref (ux 31), .int (xi 28), .ref (ux 32), .ref (ux 33), .ref (ux 34), .int (xi 29), .int (xi 30), .int (xi 31), .int (xi 32), .long (xl 3), .long (xl 4), .long (xl 5)])), ((ux 30), .inl (g.2 0, 6, .inl (xa 19))), ((ux 31), .inl (g.2 0, 6, .inl (xa 20))), ((ux 32), .inl (g.2 0, 6, .inl (xa 21))), ((ux 33), .inl (g.2 0, 6, .inl (xa 22))), ((ux 34), .inl (g.2 0, 6, .inl (xa 23))), ((ux 35), .inl (g.2 0, 6, .inl (xa 24))), ((ux 36), .inr (5, [.ref (ux 37), .ref (ux 38), .ref (ux 39), .int (xi 33)])), ((ux 37), .inl (g.2 0, 20, .inl (xa 25))), ((ux 38), .inl (g.2 0, 20, .inl (xa 26))), ((ux 39), .inl (g.2 0, 20, .inl (xa 27))), ((ux 40), .inl (g.2 4, 4, .inr (.inr (.inr (.inr (shF (ux 42) (ux 44) (ux 46) (ux 48))))))), ((ux 41), .inr (9, [.int (xi 34)])), ((ux 42), .inr (6, [.ref (ux 43), .int (xi 35), .int (xi 36), .int (xi 37)])), ((ux 43), .inl (g.2 0, 20, .inl (xa 28))), ((ux 44), .inr (6, [.ref (ux 45), .int (xi 38), .int (xi 39), .int (xi 40)])), ((ux 45), .inl (g.2 0, 20, .inl (xa 29))), ((ux 46), .inr (6, [.ref (ux 47), .int (xi 41), .int (xi 42), .int (xi 43)])), ((ux 47), .inl (g.2 0, 20, .inl (xa 30))), ((ux 48), .inr (6, [.ref (ux 49), .int (xi 44), .int (xi 45), .int (xi 46)])), ((ux 49), .inl (g.2 0, 20, .inl (xa 31))), ((q 4), .inl (g.2 0, 20, .inl (a 4))), ((q 8), .inl (g.2 0, 6, .inl (a 8))), ((q 11), .inl (g.2 0, 6, .inl (a 11))), ((q 14), .inl (g.2 0, 6, .inl (a 14))), ((q 15), .inl (g.2 0, 6, .inl (a 15))), ((q 16), .inl (g.2 0, 6, .inl (a 16))), ((q 17), .inl (g.2 0, 6, .inl (a 17))), ((q 18), .inl (g.2 1, 6, .inl (a 18))), ((q 19), .inl (g.2 0, 6, .inl (a 19))), ((q 25), .inl (g.2 0, 30, .inl (a 25))), ((q 26), .inl (g.2 0, 30, .inl (a 26))), ((q 27), .inl (g.2 0, 30, .inl (a 27))), ((q 28), .inl (g.2 0, 30, .inl (a 28))), ((q 36), .inl (g.2 0, 6, .inl (a 36))), ((q 41), .inl (g.2 0, 6, .inl (a 41))), ((q 42), .inl (g.2 0, 6, .inl (a 42))), ((q 43), .inl (g.2 0, 6, .inl (a 43))), ((q 44), .inl (g.2 0, 6, .inl (a 44))), ((q 47), .inl (g.2 0, 6, .inl (a 47))), ((q 48), .inl (g.2 0, 6, .inl (a 48))), ((q 49), .inl (g.2 1, 6, .inl (a 49))), ((q 53), .inl (g.2 0, 20, .inl (a 53))), ((q 54), .inl (g.2 0, 20, .inl (a 54))), ((q 55), .inl (g.2 0, 20, .inl (a 55))), ((q 56), .inl (g.2 0, 6, .inl (a 56))), ((q 57), .inl (g.2 0, 6, .inl (a 57))), ((q 58), .inl (g.2 0, 6, .inl (a 58))), ((q 59), .inl (g.2 0, 6, .inl (a 59))), ((q 60), .inl (g.2 0, 6, .inl (a 60))), ((q 61), .inl (g.2 1, 6, .inl (a 61))), ((q 62), .inl (g.2 0, 6, .inl (a 62))), ((q 63), .inl (g.2 2, 3, .inr (.inl aL)))]) hP hD [51, 52, 53, 54, 60, 61, 57, 58] [0, 1, 2, 3, 4, 5, 6, 7, 8, 9, 10, 11, 12, 13, 14, 15, 16, 17, 18, 19, 20, 21, 22, 23, 24, 25, 26, 27, 28, 29, 30, 31, 32, 33, 34, 35, 36, 37, 38, 39, 40, 41, 42, 43, 44, 45, 46, 47, 48, 49, 50, 55, 56, 59, 62, 63, 64, 65, 66, 67, 68, 69, 70, 71, 72, 73, 74, 75, 76, 77, 78, 79, 80, 81, 82, 83, 84, 85, 86, 87, 88, 89, 90] rfl rfl (by decide +kernel) (by decide +kernel) (by decide +kernel)) hA hS (fun r9 u10 H locs hw hP hD hS => ?_)
  obtain ⟨x11, x12, x13⟩ := u10
  have f14 := hw
  replace hP : va_P g.1 vwCl (wXM g ho ux (upd xi 0 x3) xl xa fc hm q (upd i 0 x11) L (va_up (va_up a 12 x12) 13 x13) aL ++ cysW g x4) H := hP.part [0, 1, 2, 3, 4, 5, 6, 7, 8, 9, 10, 11, 12, 13, 14, 15, 16, 17, 18, 19, 20, 21, 22, 23, 24, 25, 26, 27, 28, 29, 30, 31, 32, 33, 34, 35, 36, 37, 38, 39, 40, 41, 42, 43, 44, 45, 46, 47, 48, 49, 50, 83, 84, 85, 86, 51, 52, 89, 90, 53, 87, 88, 54, 55, 56, 57, 58, 59, 60, 61, 62, 63, 64, 65, 66, 67, 68, 69, 70, 71, 72, 73, 74, 75, 76, 77, 78, 79, 80, 81, 82] rfl
  replace hD : va_D (fun q : Nat => s.heap.size ≤ q) (wXM g ho ux (upd xi 0 x3) xl xa fc hm q (upd i 0 x11) L (va_up (va_up a 12 x12) 13 x13) aL ++ cysW g x4) := hD.part [0, 1, 2, 3, 4, 5, 6, 7, 8, 9, 10, 11, 12, 13, 14, 15, 16, 17, 18, 19, 20, 21, 22, 23, 24, 25, 26, 27, 28, 29, 30, 31, 32, 33, 34, 35, 36, 37, 38, 39, 40, 41, 42, 43, 44, 45, 46, 47, 48, 49, 50, 83, 84, 85, 86, 51, 52, 89, 90, 53, 87, 88, 54, 55, 56, 57, 58, 59, 60, 61, 62, 63, 64, 65, 66, 67, 68, 69, 70, 71, 72, 73, 74, 75, 76, 77, 78, 79, 80, 81, 82] (by decide +kernel) rfl
  replace f14 : MCI i (a 9) (a 10) x12 := f14
  refine lv_pop hx hb dL_law_346 rfl ?_
  refine lv_goto (tgt := 1134) hx hb dL_law_347 (by decide) ?_
  have iv32 : NUM x4 := (f6.2.2.2 nm)
  have iv34 : fF yC x4 = (a 14) := (by simp only [f6.1, f6.2.1, f6.2.2.1, f7, f8, kc, kcr, kfl, look_r h7, look_t h7, as_r h7, as_l h7])
  have iv35 : fF yF x4 = (a 15) := (by simp only [f6.1, f6.2.1, f6.2.2.1, f7, f8, kc, kcr, kfl, look_r h7, look_t h7, as_r h7, as_l h7])
  refine lv_iinc (v := nI (6 * (k + 1))) (lv' := [(3, .int (nI (6 * (k + 1)))), (2, .ref hm), (1, .ref ho), (0, .ref b)]) hx hb dL_law_1134 hl (k := 0) rfl (sc_next k) (by decide) rfl (fun ls hl => ?_)
  refine lv_goto (tgt := 18) hx hb dL_law_1137 (by decide) ?_
  exact ih ls H locs (cells) (slots) (upd xi 0 x3) xl xa fc x4 (upd i 0 x11) L (va_up (va_up a 12 x12) 13 x13) aL (by omega) (by omega) ⟨f5, tb, ln0, ln1, ln2, ln3, h7, f14, ob, fb, pb, ri, h22, h24, h29, h5, h23, h20, hr25, hr27, h50, h51, o47, h52, hr54, h35, z31, z64, o56, l58, sz, b6, iv32, kc, iv34, iv35, klk⟩ (lv_sub hl [0, 1, 2, 3] rfl) hP hD hS
set_option maxRecDepth 100000 in
set_option maxHeartbeats 4000000 in
theorem lc_valve {p : Program} {l : Launch} {e : Env} {s : State} {m : MethodId} {below : List Frame} {meth : Method} {c : Code} {g : Gt} {b N ho hm : Nat} {ux q : Nat → Nat} {xs : Nat → Int32} (C : Ctx g p s m #[Value.ref b] meth c yL_law wsL_law cL_law 4 (some .boolean)) (hX : va_X b N xs s s.heap) (hbl : b < s.heap.size) (hL : N ≤ 3072) {n k : Nat} (hk : 6 * k + 6 ≤ N) (ih : LAt p l e s m below meth c g b ho hm ux q n (k + 1) 18) : LAt p l e s m below meth c g b ho hm ux q (n + 1) k 350 := by
  intro ls H locs cells slots xi xl xa fc cs i L a aL hcl hsl hinv hl hP hD hS
  obtain ⟨hcs, tb, ln0, ln1, ln2, ln3, h7, mci, ob, fb, pb, ri, h22, h24, h29, h5, h23, h20, hr25, hr27, h50, h51, o47, h52, hr54, h35, z31, z64, o56, l58, sz, b6, nm, kc, kcr, kfl, klk⟩ := hinv
  obtain ⟨hx, hb, hr, hts, hown, hlocks, hml, hin, hKN⟩ := id C
  have hK := hKN.1
  have hN := hKN.2
  have F : CallFix p m c cL_law 4 s _ wsL_law yL_law.cls := ⟨hx, hb, hml, hown, hts⟩
  have hA : ∀ q : Nat, s.heap.size ≤ q → (fun q : Nat => s.heap.size ≤ q) q := fun _ h => h
  have hbA : ¬ (fun q : Nat => s.heap.size ≤ q) b := Nat.not_le.mpr hbl
  refine lv_aload_n hx hb dL_law_350 rfl (lv_at hl 2 rfl) ?_
  refine lv_aload_n hx hb dL_law_351 rfl (lv_at hl 3 rfl) ?_
  refine lv_iload_n hx hb dL_law_352 rfl (lv_at hl 0 rfl) ?_
  refine lv_iconst (v := 1) hx hb dL_law_353 (by decide) ?_
  refine lv_iadd hx hb dL_law_354 ?_
  refine va_sld hx hb hX hbl hbA hS (sc_in (j := 1) (by decide) (by decide) hk hL) dL_law_355 ?_
  refine nx_i (v := xs (6 * k + 1)) (sc_ix (j := 1) (by decide) (by decide) hk hL) ?_
  refine lv_aload_n hx hb dL_law_356 rfl (lv_at hl 3 rfl) ?_
  refine lv_iload_n hx hb dL_law_357 rfl (lv_at hl 0 rfl) ?_
  refine lv_iconst (v := 2) hx hb dL_law_358 (by decide) ?_
  refine lv_iadd hx hb dL_law_359 ?_
  refine va_sld hx hb hX hbl hbA hS (sc_in (j := 2) (by decide) (by decide) hk hL) dL_law_360 ?_
  refine nx_i (v := xs (6 * k + 2)) (sc_ix (j := 2) (by decide) (by decide) hk hL) ?_
  refine kI (rnV (As := [.int (xs (6 * k + 1)), .int (xs (6 * k + 2))]) (rest := []) (Cn := RX11) C (x_valve l g ho (ux 40) (ux 41) (xi 0) (xi 1) (xi 2) (xi 3) (ux 3) (ux 8) (ux 14) (ux 19) (ux 24) (ux 29) (ux 35) (ux 36) (ux 0) (xi 4) (xi 5) (ux 1) (xi 6) (ux 2) fc (ux 4) (ux 5) (ux 6) (ux 7) (xi 7) (xa 2) (xs (6 * k + 1)) (xs (6 * k + 2))) 2 gL_law_X11_valve rfl (by decide +kernel) ⟨(Nat.le_of_ble_eq_true rfl), (Nat.le_of_ble_eq_true rfl)⟩ hP (k := 0) (ci := 11) rfl rfl rfl rfl hl.1 rfl (Nat.le_of_ble_eq_true rfl) dL_law_361 ⟨(show cells + 0 ≤ 600000 by omega), (show slots + 0 ≤ 7302250 by omega)⟩) (spM (X := (wXM g ho ux xi xl xa fc hm q i L a aL)) (pl := cysW g cs) [true, true, true, false, true, false, true, false, false, false, false, false, false, false, false, false, false, false, false, false, false, false, false, false, false, false, false, false, false, false, false, false, false, false, false, false, false, false, false, false, false, false, false, false, false, false, false, false, false, false, false, false, false, false, false, false, false, false, false, false, false, false, false, false, false, false, false, false, false, false, false, false, false, false, false, false, false, false, false, false, false, false, false, false, false, false, false, false, false, false, false] hP hD rfl) hA hS (fun r1 u2 H locs hw hP hD hS => ?_)
  replace hP : va_P g.1 vwCl (wXM g ho ux xi xl (va_up xa 2 u2) fc hm q i L a aL ++ cysW g cs) H := hP
  replace hD : va_D (fun q : Nat => s.heap.size ≤ q) (wXM g ho ux xi xl (va_up xa 2 u2) fc hm q i L a aL ++ cysW g cs) := hD
  refine lv_pop hx hb dL_law_364 rfl ?_
  refine lv_aload_n hx hb dL_law_365 rfl (lv_at hl 1 rfl) ?_
  refine lv_aload_n hx hb dL_law_366 rfl (lv_at hl 3 rfl) ?_
  refine lv_iload_n hx hb dL_law_367 rfl (lv_at hl 0 rfl) ?_
  refine lv_iconst (v := 1) hx hb dL_law_368 (by decide) ?_
  refine lv_iadd hx hb dL_law_369 ?_
  refine va_sld hx hb hX hbl hbA hS (sc_in (j := 1) (by decide) (by decide) hk hL) dL_law_370 ?_
  refine nx_i (v := xs (6 * k + 1)) (sc_ix (j := 1) (by decide) (by decide) hk hL) ?_
  refine lv_aload_n hx hb dL_law_371 rfl (lv_at hl 3 rfl) ?_
  refine lv_iload_n hx hb dL_law_372 rfl (lv_at hl 0 rfl) ?_
  refine lv_iconst (v := 2) hx hb dL_law_373 (by decide) ?_
  refine lv_iadd hx hb dL_law_374 ?_
  refine va_sld hx hb hX hbl hbA hS (sc_in (j := 2) (by decide) (by decide) hk hL) dL_law_375 ?_
  refine nx_i (v := xs (6 * k + 2)) (sc_ix (j := 2) (by decide) (by decide) hk hL) ?_
  refine kI (rnV (As := [.int (xs (6 * k + 1)), .int (xs (6 * k + 2))]) (rest := []) (Cn := RX12) C (g_valve l g hm q i L (a 17) (xs (6 * k + 1)) (xs (6 * k + 2)) h7) 2 gL_law_X12_valve rfl (by decide +kernel) ⟨(Nat.le_of_ble_eq_true rfl), (Nat.le_of_ble_eq_true rfl)⟩ hP (k := 51) (ci := 12) rfl rfl rfl rfl hl.1 rfl (Nat.le_of_ble_eq_true rfl) dL_law_376 ⟨(show cells + 0 ≤ 600000 by omega), (show slots + 0 ≤ 7302250 by omega)⟩) (spM (X := (wXM g ho ux xi xl (va_up xa 2 u2) fc hm q i L a aL)) (pl := cysW g cs) [false, false, false, false, false, false, false, false, false, false, false, false, false, false, false, false, false, false, false, false, false, false, false, false, false, false, false, false, false, false, false, false, false, false, false, false, false, false, false, false, false, false, false, false, false, false, false, false, false, false, false, true, false, false, false, false, false, false, false, false, false, false, false, false, false, true, false, false, false, false, false, false, false, false, false, false, false, false, false, false, false, false, false, false, false, false, false, false, false, false, false] hP hD rfl) hA hS (fun r4 u5 H locs hw hP hD hS => ?_)
  have hre := hw
  obtain ⟨y6, hy6⟩ : ∃ y9, (o_g_valve_q17 i (a 17) (xs (6 * k + 1)) (xs (6 * k + 2))) = y9 := ⟨_, rfl⟩
  rw [hy6] at hP hD
  replace hP : va_P g.1 vwCl (wXM g ho ux xi xl (va_up xa 2 u2) fc hm q i L (va_up a 17 y6) aL ++ cysW g cs) H := hP
  replace hD : va_D (fun q : Nat => s.heap.size ≤ q) (wXM g ho ux xi xl (va_up xa 2 u2) fc hm q i L (va_up a 17 y6) aL ++ cysW g cs) := hD
  refine nx_i (v := (r_g_valve i (a 17) (xs (6 * k + 1)) (xs (6 * k + 2)))) hre ?_
  refine lv_pop hx hb dL_law_379 rfl ?_
  refine lv_goto (tgt := 1134) hx hb dL_law_380 (by decide) ?_
  refine lv_iinc (v := nI (6 * (k + 1))) (lv' := [(3, .int (nI (6 * (k + 1)))), (2, .ref hm), (1, .ref ho), (0, .ref b)]) hx hb dL_law_1134 hl (k := 0) rfl (sc_next k) (by decide) rfl (fun ls hl => ?_)
  refine lv_goto (tgt := 18) hx hb dL_law_1137 (by decide) ?_
  exact ih ls H locs (cells) (slots) xi xl (va_up xa 2 u2) fc cs i L (va_up a 17 y6) aL (by omega) (by omega) ⟨hcs, tb, ln0, ln1, ln2, ln3, h7, mci, ob, fb, pb, ri, h22, h24, h29, h5, h23, h20, hr25, hr27, h50, h51, o47, h52, hr54, h35, z31, z64, o56, l58, sz, b6, nm, kc, kcr, kfl, klk⟩ (lv_sub hl [0, 1, 2, 3] rfl) hP hD hS
set_option maxRecDepth 100000 in
set_option maxHeartbeats 4000000 in
theorem lc_fill {p : Program} {l : Launch} {e : Env} {s : State} {m : MethodId} {below : List Frame} {meth : Method} {c : Code} {g : Gt} {b N ho hm : Nat} {ux q : Nat → Nat} {xs : Nat → Int32} (C : Ctx g p s m #[Value.ref b] meth c yL_law wsL_law cL_law 4 (some .boolean)) (hX : va_X b N xs s s.heap) (hbl : b < s.heap.size) (hL : N ≤ 3072) {n k : Nat} (hk : 6 * k + 6 ≤ N) (ih : LAt p l e s m below meth c g b ho hm ux q n (k + 1) 18) : LAt p l e s m below meth c g b ho hm ux q (n + 1) k 383 := by
  intro ls H locs cells slots xi xl xa fc cs i L a aL hcl hsl hinv hl hP hD hS
  obtain ⟨hcs, tb, ln0, ln1, ln2, ln3, h7, mci, ob, fb, pb, ri, h22, h24, h29, h5, h23, h20, hr25, hr27, h50, h51, o47, h52, hr54, h35, z31, z64, o56, l58, sz, b6, nm, kc, kcr, kfl, klk⟩ := hinv
  obtain ⟨hx, hb, hr, hts, hown, hlocks, hml, hin, hKN⟩ := id C
  have hK := hKN.1
  have hN := hKN.2
  have F : CallFix p m c cL_law 4 s _ wsL_law yL_law.cls := ⟨hx, hb, hml, hown, hts⟩
  have hA : ∀ q : Nat, s.heap.size ≤ q → (fun q : Nat => s.heap.size ≤ q) q := fun _ h => h
  have hbA : ¬ (fun q : Nat => s.heap.size ≤ q) b := Nat.not_le.mpr hbl
  refine lv_aload_n hx hb dL_law_383 rfl (lv_at hl 2 rfl) ?_
  refine lv_aload_n hx hb dL_law_384 rfl (lv_at hl 3 rfl) ?_
  refine lv_iload_n hx hb dL_law_385 rfl (lv_at hl 0 rfl) ?_
  refine lv_iconst (v := 1) hx hb dL_law_386 (by decide) ?_
  refine lv_iadd hx hb dL_law_387 ?_
  refine va_sld hx hb hX hbl hbA hS (sc_in (j := 1) (by decide) (by decide) hk hL) dL_law_388 ?_
  refine nx_i (v := xs (6 * k + 1)) (sc_ix (j := 1) (by decide) (by decide) hk hL) ?_
  refine lv_aload_n hx hb dL_law_389 rfl (lv_at hl 3 rfl) ?_
  refine lv_iload_n hx hb dL_law_390 rfl (lv_at hl 0 rfl) ?_
  refine lv_iconst (v := 2) hx hb dL_law_391 (by decide) ?_
  refine lv_iadd hx hb dL_law_392 ?_
  refine va_sld hx hb hX hbl hbA hS (sc_in (j := 2) (by decide) (by decide) hk hL) dL_law_393 ?_
  refine nx_i (v := xs (6 * k + 2)) (sc_ix (j := 2) (by decide) (by decide) hk hL) ?_
  refine kI (rnV (As := [.int (xs (6 * k + 1)), .int (xs (6 * k + 2))]) (rest := []) (Cn := RX11) C (x_fill l g ho (ux 40) (ux 41) (xi 0) (xi 1) (xi 2) (xi 3) (ux 3) (ux 8) (ux 14) (ux 19) (ux 24) (ux 29) (ux 35) (ux 36) (ux 0) (xi 4) (xi 5) (ux 1) (xi 6) (ux 2) fc (ux 4) (ux 5) (ux 6) (ux 7) (xi 7) (xa 1) (xs (6 * k + 1)) (xs (6 * k + 2)) cs hcs) 2 gL_law_X11_fill rfl (by decide +kernel) ⟨(Nat.le_of_ble_eq_true rfl), (Nat.le_of_ble_eq_true rfl)⟩ hP (k := 0) (ci := 11) rfl rfl rfl rfl hl.1 rfl (Nat.le_of_ble_eq_true rfl) dL_law_394 ⟨(show cells + 0 ≤ 600000 by omega), (show slots + 0 ≤ 7302250 by omega)⟩) (spMC (X := (wXM g ho ux xi xl xa fc hm q i L a aL)) (pl := cysW g cs) [true, true, true, false, true, true, false, false, false, false, false, false, false, false, false, false, false, false, false, false, false, false, false, false, false, false, false, false, false, false, false, false, false, false, false, false, false, false, false, false, false, false, false, false, false, false, false, false, false, false, false, false, false, false, false, false, false, false, false, false, false, false, false, false, false, false, false, false, false, false, false, false, false, false, false, false, false, false, false, false, false, false, false, false, false, false, false, false, false, false, false] hP hD rfl) hA hS (fun r1 u2 H locs hw hP hD hS => ?_)
  replace hP : va_P g.1 vwCl (wXM g ho ux xi xl (va_up xa 1 u2) fc hm q i L a aL ++ cysW g cs) H := hP
  replace hD : va_D (fun q : Nat => s.heap.size ≤ q) (wXM g ho ux xi xl (va_up xa 1 u2) fc hm q i L a aL ++ cysW g cs) := hD
  refine lv_pop hx hb dL_law_397 rfl ?_
  refine lv_aload_n hx hb dL_law_398 rfl (lv_at hl 1 rfl) ?_
  refine lv_aload_n hx hb dL_law_399 rfl (lv_at hl 3 rfl) ?_
  refine lv_iload_n hx hb dL_law_400 rfl (lv_at hl 0 rfl) ?_
  refine lv_iconst (v := 1) hx hb dL_law_401 (by decide) ?_
  refine lv_iadd hx hb dL_law_402 ?_
  refine va_sld hx hb hX hbl hbA hS (sc_in (j := 1) (by decide) (by decide) hk hL) dL_law_403 ?_
  refine nx_i (v := xs (6 * k + 1)) (sc_ix (j := 1) (by decide) (by decide) hk hL) ?_
  refine lv_aload_n hx hb dL_law_404 rfl (lv_at hl 3 rfl) ?_
  refine lv_iload_n hx hb dL_law_405 rfl (lv_at hl 0 rfl) ?_
  refine lv_iconst (v := 2) hx hb dL_law_406 (by decide) ?_
  refine lv_iadd hx hb dL_law_407 ?_
  refine va_sld hx hb hX hbl hbA hS (sc_in (j := 2) (by decide) (by decide) hk hL) dL_law_408 ?_
  refine nx_i (v := xs (6 * k + 2)) (sc_ix (j := 2) (by decide) (by decide) hk hL) ?_
  refine kI (rnV (As := [.int (xs (6 * k + 1)), .int (xs (6 * k + 2))]) (rest := []) (Cn := RX12) C (w_fill l g hm q i L (a 11) (a 9) (a 10) (a 12) (xs (6 * k + 1)) (xs (6 * k + 2)) h7 mci ob) 2 gL_law_X12_fill rfl (by decide +kernel) ⟨(Nat.le_of_ble_eq_true rfl), (Nat.le_of_ble_eq_true rfl)⟩ hP (k := 51) (ci := 12) rfl rfl rfl rfl hl.1 rfl (Nat.le_of_ble_eq_true rfl) dL_law_409 ⟨(show cells + 0 ≤ 600000 by omega), (show slots + 0 ≤ 7302250 by omega)⟩) (spB (X := (wXM g ho ux xi xl (va_up xa 1 u2) fc hm q i L a aL)) (pl := cysW g cs) (wr := [(ho, .inr (11, [.ref (ux 0), .ref (ux 3), .ref (ux 8), .ref (ux 14), .ref (ux 19), .ref (ux 24), .ref (ux 29), .ref (ux 35), .ref (ux 36), .ref (ux 40), .ref (ux 41), .int (xi 0), .int (xi 1), .int (xi 2), .int (xi 3)])), ((ux 0), .inr (4, [.int (xi 4), .int (xi 5), .ref (ux 1), .int (xi 6), .ref (ux 2)])), ((ux 1), .inl (g.2 3, 6, .inr (.inr (.inr (.inr fc))))), ((ux 2), .inl (g.2 0, 6, .inl (xa 0))), ((ux 3), .inr (7, [.ref (ux 4), .ref (ux 5), .ref (ux 6), .ref (ux 7), .int (xi 7)])), ((ux 4), .inl (g.2 0, 6, .inl u2)), ((ux 5), .inl (g.2 0, 6, .inl (xa 2))), ((ux 6), .inl (g.2 0, 6, .inl (xa 3))), ((ux 7), .inr (8, [.int (xi 8), .int (xi 9), .int (xi 10), .int (xi 11)])), ((ux 8), .inr (1, [.ref (ux 9), .ref (ux 10), .int (xi 12), .ref (ux 11), .ref (ux 12), .ref (ux 13), .int (xi 13), .int (xi 14), .int (xi 15), .int (xi 16), .long (xl 0), .long (xl 1), .long (xl 2)])), ((ux 9), .inl (g.2 0, 6, .inl (xa 4))), ((ux 10), .inl (g.2 0, 6, .inl (xa 5))), ((ux 11), .inl (g.2 0, 6, .inl (xa 6))), ((ux 12), .inl (g.2 0, 6, .inl (xa 7))), ((ux 13), .inl (g.2 0, 6, .inl (xa 8))), ((ux 14), .inr (3, [.ref (ux 15), .ref (ux 16), .ref (ux 17), .ref (ux 18), .int (xi 17)])), ((ux 15), .inl (g.2 0, 30, .inl (xa 9))), ((ux 16), .inl (g.2 0, 30, .inl (xa 10))), ((ux 17), .inl (g.2 0, 30, .inl (xa 11))), ((ux 18), .inl (g.2 0, 30, .inl (xa 12))), ((ux 19), .inr (7, [.ref (ux 20), .ref (ux 21), .ref (ux 22), .ref (ux 23), .int (xi 18)])), ((ux 20), .inl (g.2 0, 6, .inl (xa 13))), ((ux 21), .inl (g.2 0, 6, .inl (xa 14))), ((ux 22), .inl (g.2 0, 6, .inl (xa 15))), ((ux 23), .inr (8, [.int (xi 19), .int (xi 20), .int (xi 21), .int (xi 22)])), ((ux 24), .inr (7, [.ref (ux 25), .ref (ux 26), .ref (ux 27), .ref (ux 28), .int (xi 23)])), ((ux 25), .inl (g.2 0, 6, .inl (xa 16))), ((ux 26), .inl (g.2 0, 6, .inl (xa 17))), ((ux 27), .inl (g.2 0, 6, .inl (xa 18))), ((ux 28), .inr (8, [.int (xi 24), .int (xi 25), .int (xi 26), .int (xi 27)])), ((ux 29), .inr (1, [.ref (ux 30), .ref (ux 31), .int (xi 28), .ref (ux 32), .ref (ux 33), .ref (ux 34), .int (xi 29), .int (xi 30), .int (xi 31), .int (xi 32), .long (xl 3), .long (xl 4), .long (xl 5)])), ((ux 30), .inl (g.2 0, 6, .inl (xa 19))), ((ux 31), .inl (g.2 0, 6, .inl (xa 20))), ((ux 32), .inl (g.2 0, 6, .inl (xa 21))), ((ux 33), .inl (g.2 0, 6, .inl (xa 22))), ((ux 34), .inl (g.2 0, 6, .inl (xa 23))), ((ux 35), .inl (g.2 0, 6, .inl (xa 24))), ((ux 36), .inr (5, [.ref (ux 37), .ref (ux 38), .ref (ux 39), .int (xi 33)])), ((ux 37), .inl (g.2 0, 20, .inl (xa 25))), ((ux 38), .inl (g.2 0, 20, .inl (xa 26))), ((ux 39), .inl (g.2 0, 20, .inl (xa 27))), ((ux 40), .inl (g.2 4, 4, .inr (.inr (.inr (.inr (shF (ux 42) (ux 44) (ux 46) (ux 48))))))), ((ux 41), .inr (9, [.int (xi 34)])), ((ux 42), .inr (6, [.ref (ux 43), .int (xi 35), .int (xi 36), .int (xi 37)])), ((ux 43), .inl (g.2 0, 20, .inl (xa 28))), ((ux 44), .inr (6, [.ref (ux 45), .int (xi 38), .int (xi 39), .int (xi 40)])), ((ux 45), .inl (g.2 0, 20, .inl (xa 29))), ((ux 46), .inr (6, [.ref (ux 47), .int (xi 41), .int (xi 42), .int (xi 43)])), ((ux 47), .inl (g.2 0, 20, .inl (xa 30))), ((ux 48), .inr (6, [.ref (ux 49), .int (xi 44), .int (xi 45), .int (xi 46)])), ((ux 49), .inl (g.2 0, 20, .inl (xa 31))), ((q 1), .inl (g.2 0, 4, .inl (a 1))), ((q 2), .inl (g.2 0, 4, .inl (a 2))), ((q 3), .inl (g.2 0, 80, .inl (a 3))), ((q 4), .inl (g.2 0, 20, .inl (a 4))), ((q 8), .inl (g.2 0, 6, .inl (a 8))), ((q 13), .inl (g.2 0, 60, .inl (a 13))), ((q 14), .inl (g.2 0, 6, .inl (a 14))), ((q 15), .inl (g.2 0, 6, .inl (a 15))), ((q 16), .inl (g.2 0, 6, .inl (a 16))), ((q 17), .inl (g.2 0, 6, .inl (a 17))), ((q 18), .inl (g.2 1, 6, .inl (a 18))), ((q 19), .inl (g.2 0, 6, .inl (a 19))), ((q 25), .inl (g.2 0, 30, .inl (a 25))), ((q 26), .inl (g.2 0, 30, .inl (a 26))), ((q 27), .inl (g.2 0, 30, .inl (a 27))), ((q 28), .inl (g.2 0, 30, .inl (a 28))), ((q 36), .inl (g.2 0, 6, .inl (a 36))), ((q 41), .inl (g.2 0, 6, .inl (a 41))), ((q 42), .inl (g.2 0, 6, .inl (a 42))), ((q 43), .inl (g.2 0, 6, .inl (a 43))), ((q 44), .inl (g.2 0, 6, .inl (a 44))), ((q 47), .inl (g.2 0, 6, .inl (a 47))), ((q 48), .inl (g.2 0, 6, .inl (a 48))), ((q 49), .inl (g.2 1, 6, .inl (a 49))), ((q 53), .inl (g.2 0, 20, .inl (a 53))), ((q 54), .inl (g.2 0, 20, .inl (a 54))), ((q 55), .inl (g.2 0, 20, .inl (a 55))), ((q 56), .inl (g.2 0, 6, .inl (a 56))), ((q 57), .inl (g.2 0, 6, .inl (a 57))), ((q 58), .inl (g.2 0, 6, .inl (a 58))), ((q 59), .inl (g.2 0, 6, .inl (a 59))), ((q 60), .inl (g.2 0, 6, .inl (a 60))), ((q 61), .inl (g.2 1, 6, .inl (a 61))), ((q 62), .inl (g.2 0, 6, .inl (a 62))), ((q 63), .inl (g.2 2, 3, .inr (.inl aL)))]) hP hD [51, 59, 57, 58, 60] [0, 1, 2, 3, 4, 5, 6, 7, 8, 9, 10, 11, 12, 13, 14, 15, 16, 17, 18, 19, 20, 21, 22, 23, 24, 25, 26, 27, 28, 29, 30, 31, 32, 33, 34, 35, 36, 37, 38, 39, 40, 41, 42, 43, 44, 45, 46, 47, 48, 49, 50, 52, 53, 54, 55, 56, 61, 62, 63, 64, 65, 66, 67, 68, 69, 70, 71, 72, 73, 74, 75, 76, 77, 78, 79, 80, 81, 82, 83, 84, 85, 86, 87, 88, 89, 90] rfl rfl (by decide +kernel) (by decide +kernel) (by decide +kernel)) hA hS (fun r4 u5 H locs hw hP hD hS => ?_)
  have f7 := hw
  replace hP : va_P g.1 vwCl (wXM g ho ux xi xl (va_up xa 1 u2) fc hm q i L (va_up a 11 u5) aL ++ cysW g cs) H := hP.part [0, 1, 2, 3, 4, 5, 6, 7, 8, 9, 10, 11, 12, 13, 14, 15, 16, 17, 18, 19, 20, 21, 22, 23, 24, 25, 26, 27, 28, 29, 30, 31, 32, 33, 34, 35, 36, 37, 38, 39, 40, 41, 42, 43, 44, 45, 46, 47, 48, 49, 50, 86, 51, 52, 53, 54, 55, 88, 89, 87, 90, 56, 57, 58, 59, 60, 61, 62, 63, 64, 65, 66, 67, 68, 69, 70, 71, 72, 73, 74, 75, 76, 77, 78, 79, 80, 81, 82, 83, 84, 85] rfl
  replace hD : va_D (fun q : Nat => s.heap.size ≤ q) (wXM g ho ux xi xl (va_up xa 1 u2) fc hm q i L (va_up a 11 u5) aL ++ cysW g cs) := hD.part [0, 1, 2, 3, 4, 5, 6, 7, 8, 9, 10, 11, 12, 13, 14, 15, 16, 17, 18, 19, 20, 21, 22, 23, 24, 25, 26, 27, 28, 29, 30, 31, 32, 33, 34, 35, 36, 37, 38, 39, 40, 41, 42, 43, 44, 45, 46, 47, 48, 49, 50, 86, 51, 52, 53, 54, 55, 88, 89, 87, 90, 56, 57, 58, 59, 60, 61, 62, 63, 64, 65, 66, 67, 68, 69, 70, 71, 72, 73, 74, 75, 76, 77, 78, 79, 80, 81, 82, 83, 84, 85] (by decide +kernel) rfl
  refine lv_pop hx hb dL_law_412 rfl ?_
  refine lv_goto (tgt := 1134) hx hb dL_law_413 (by decide) ?_
  refine lv_iinc (v := nI (6 * (k + 1))) (lv' := [(3, .int (nI (6 * (k + 1)))), (2, .ref hm), (1, .ref ho), (0, .ref b)]) hx hb dL_law_1134 hl (k := 0) rfl (sc_next k) (by decide) rfl (fun ls hl => ?_)
  refine lv_goto (tgt := 18) hx hb dL_law_1137 (by decide) ?_
  exact ih ls H locs (cells) (slots) xi xl (va_up xa 1 u2) fc cs i L (va_up a 11 u5) aL (by omega) (by omega) ⟨hcs, tb, ln0, ln1, ln2, ln3, h7, mci, f7, fb, pb, ri, h22, h24, h29, h5, h23, h20, hr25, hr27, h50, h51, o47, h52, hr54, h35, z31, z64, o56, l58, sz, b6, nm, kc, kcr, kfl, klk⟩ (lv_sub hl [0, 1, 2, 3] rfl) hP hD hS
set_option maxRecDepth 100000 in
set_option maxHeartbeats 4000000 in
theorem lc_burst {p : Program} {l : Launch} {e : Env} {s : State} {m : MethodId} {below : List Frame} {meth : Method} {c : Code} {g : Gt} {b N ho hm : Nat} {ux q : Nat → Nat} {xs : Nat → Int32} (C : Ctx g p s m #[Value.ref b] meth c yL_law wsL_law cL_law 4 (some .boolean)) (hX : va_X b N xs s s.heap) (hbl : b < s.heap.size) (hL : N ≤ 3072) {n k : Nat} (hk : 6 * k + 6 ≤ N) (ih : LAt p l e s m below meth c g b ho hm ux q n (k + 1) 18) : LAt p l e s m below meth c g b ho hm ux q (n + 1) k 416 := by
  intro ls H locs cells slots xi xl xa fc cs i L a aL hcl hsl hinv hl hP hD hS
  obtain ⟨hcs, tb, ln0, ln1, ln2, ln3, h7, mci, ob, fb, pb, ri, h22, h24, h29, h5, h23, h20, hr25, hr27, h50, h51, o47, h52, hr54, h35, z31, z64, o56, l58, sz, b6, nm, kc, kcr, kfl, klk⟩ := hinv
  obtain ⟨hx, hb, hr, hts, hown, hlocks, hml, hin, hKN⟩ := id C
  have hK := hKN.1
  have hN := hKN.2
  have F : CallFix p m c cL_law 4 s _ wsL_law yL_law.cls := ⟨hx, hb, hml, hown, hts⟩
  have hA : ∀ q : Nat, s.heap.size ≤ q → (fun q : Nat => s.heap.size ≤ q) q := fun _ h => h
  have hbA : ¬ (fun q : Nat => s.heap.size ≤ q) b := Nat.not_le.mpr hbl
  refine lv_aload_n hx hb dL_law_416 rfl (lv_at hl 2 rfl) ?_
  refine lv_aload_n hx hb dL_law_417 rfl (lv_at hl 3 rfl) ?_
  refine lv_iload_n hx hb dL_law_418 rfl (lv_at hl 0 rfl) ?_
  refine lv_iconst (v := 1) hx hb dL_law_419 (by decide) ?_
  refine lv_iadd hx hb dL_law_420 ?_
  refine va_sld hx hb hX hbl hbA hS (sc_in (j := 1) (by decide) (by decide) hk hL) dL_law_421 ?_
  refine nx_i (v := xs (6 * k + 1)) (sc_ix (j := 1) (by decide) (by decide) hk hL) ?_
  refine lv_aload_n hx hb dL_law_422 rfl (lv_at hl 3 rfl) ?_
  refine lv_iload_n hx hb dL_law_423 rfl (lv_at hl 0 rfl) ?_
  refine lv_iconst (v := 2) hx hb dL_law_424 (by decide) ?_
  refine lv_iadd hx hb dL_law_425 ?_
  refine va_sld hx hb hX hbl hbA hS (sc_in (j := 2) (by decide) (by decide) hk hL) dL_law_426 ?_
  refine nx_i (v := xs (6 * k + 2)) (sc_ix (j := 2) (by decide) (by decide) hk hL) ?_
  refine lv_if_eq (tgt := 434) hx hb dL_law_427 (by decide) (fun c1 => ?_) (fun c1 => ?_)
  · refine lv_iconst (v := 0) hx hb dL_law_434 (by decide) ?_
    refine kI (rnV (As := [.int (xs (6 * k + 1)), .int 0]) (rest := []) (Cn := RX11) C (x_burst l g ho (ux 40) (ux 41) (xi 0) (xi 1) (xi 2) (xi 3) (ux 3) (ux 8) (ux 14) (ux 19) (ux 24) (ux 29) (ux 35) (ux 36) (ux 0) (xi 4) (xi 5) (ux 1) (xi 6) (ux 2) fc (ux 4) (ux 5) (ux 6) (ux 7) (xi 7) (xa 3) (xs (6 * k + 1)) 0 (CS_fcs hcs)) 2 gL_law_X11_burst rfl (by decide +kernel) ⟨(Nat.le_of_ble_eq_true rfl), (Nat.le_of_ble_eq_true rfl)⟩ hP (k := 0) (ci := 11) rfl rfl rfl rfl hl.1 rfl (Nat.le_of_ble_eq_true rfl) dL_law_435 ⟨(show cells + 0 ≤ 600000 by omega), (show slots + 0 ≤ 7302250 by omega)⟩) (spM (X := (wXM g ho ux xi xl xa fc hm q i L a aL)) (pl := cysW g cs) [true, true, true, false, true, false, false, true, false, false, false, false, false, false, false, false, false, false, false, false, false, false, false, false, false, false, false, false, false, false, false, false, false, false, false, false, false, false, false, false, false, false, false, false, false, false, false, false, false, false, false, false, false, false, false, false, false, false, false, false, false, false, false, false, false, false, false, false, false, false, false, false, false, false, false, false, false, false, false, false, false, false, false, false, false, false, false, false, false, false, false] hP hD rfl) hA hS (fun r2 u3 H locs hw hP hD hS => ?_)
    obtain ⟨f5, f6⟩ := hw
    replace hP : va_P g.1 vwCl (wXM g ho ux xi xl (va_up xa 3 u3) fc hm q i L a aL ++ cysW g cs) H := hP
    replace hD : va_D (fun q : Nat => s.heap.size ≤ q) (wXM g ho ux xi xl (va_up xa 3 u3) fc hm q i L a aL ++ cysW g cs) := hD
    refine lv_pop hx hb dL_law_438 rfl ?_
    refine lv_aload_n hx hb dL_law_439 rfl (lv_at hl 1 rfl) ?_
    refine lv_aload_n hx hb dL_law_440 rfl (lv_at hl 3 rfl) ?_
    refine lv_iload_n hx hb dL_law_441 rfl (lv_at hl 0 rfl) ?_
    refine lv_iconst (v := 1) hx hb dL_law_442 (by decide) ?_
    refine lv_iadd hx hb dL_law_443 ?_
    refine va_sld hx hb hX hbl hbA hS (sc_in (j := 1) (by decide) (by decide) hk hL) dL_law_444 ?_
    refine nx_i (v := xs (6 * k + 1)) (sc_ix (j := 1) (by decide) (by decide) hk hL) ?_
    refine lv_aload_n hx hb dL_law_445 rfl (lv_at hl 3 rfl) ?_
    refine lv_iload_n hx hb dL_law_446 rfl (lv_at hl 0 rfl) ?_
    refine lv_iconst (v := 2) hx hb dL_law_447 (by decide) ?_
    refine lv_iadd hx hb dL_law_448 ?_
    refine va_sld hx hb hX hbl hbA hS (sc_in (j := 2) (by decide) (by decide) hk hL) dL_law_449 ?_
    refine nx_i (v := xs (6 * k + 2)) (sc_ix (j := 2) (by decide) (by decide) hk hL) ?_
    refine lv_if_eq (tgt := 457) hx hb dL_law_450 (by decide) (fun _ => ?_) (fun cc0 => absurd c1 cc0)
    refine lv_iconst (v := 0) hx hb dL_law_457 (by decide) ?_
    refine kI (rnV (As := [.int (xs (6 * k + 1)), .int 0]) (rest := []) (Cn := RX12) C (g_burst l g hm q i L (a 18) (xs (6 * k + 1)) 0 h7) 2 gL_law_X12_burst rfl (by decide +kernel) ⟨(Nat.le_of_ble_eq_true rfl), (Nat.le_of_ble_eq_true rfl)⟩ hP (k := 51) (ci := 12) rfl rfl rfl rfl hl.1 rfl (Nat.le_of_ble_eq_true rfl) dL_law_458 ⟨(show cells + 0 ≤ 600000 by omega), (show slots + 0 ≤ 7302250 by omega)⟩) (spM (X := (wXM g ho ux xi xl (va_up xa 3 u3) fc hm q i L a aL)) (pl := cysW g cs) [false, false, false, false, false, false, false, false, false, false, false, false, false, false, false, false, false, false, false, false, false, false, false, false, false, false, false, false, false, false, false, false, false, false, false, false, false, false, false, false, false, false, false, false, false, false, false, false, false, false, false, true, false, false, false, false, false, false, false, false, false, false, false, false, false, false, true, false, false, false, false, false, false, false, false, false, false, false, false, false, false, false, false, false, false, false, false, false, false, false, false] hP hD rfl) hA hS (fun r7 u8 H locs hw hP hD hS => ?_)
    have hre := hw
    obtain ⟨y9, hy9⟩ : ∃ y9, (o_g_burst_q18 i (a 18) (xs (6 * k + 1)) 0) = y9 := ⟨_, rfl⟩
    rw [hy9] at hP hD
    replace hP : va_P g.1 vwCl (wXM g ho ux xi xl (va_up xa 3 u3) fc hm q i L (va_up a 18 y9) aL ++ cysW g cs) H := hP
    replace hD : va_D (fun q : Nat => s.heap.size ≤ q) (wXM g ho ux xi xl (va_up xa 3 u3) fc hm q i L (va_up a 18 y9) aL ++ cysW g cs) := hD
    refine nx_i (v := (r_g_burst i (a 18) (xs (6 * k + 1)) 0)) hre ?_
    refine lv_pop hx hb dL_law_461 rfl ?_
    refine lv_goto (tgt := 1134) hx hb dL_law_462 (by decide) ?_
    have iv31 : B6 y9 := (by rw [← hy9]; exact burst_b6 b6 (by decide))
    refine lv_iinc (v := nI (6 * (k + 1))) (lv' := [(3, .int (nI (6 * (k + 1)))), (2, .ref hm), (1, .ref ho), (0, .ref b)]) hx hb dL_law_1134 hl (k := 0) rfl (sc_next k) (by decide) rfl (fun ls hl => ?_)
    refine lv_goto (tgt := 18) hx hb dL_law_1137 (by decide) ?_
    exact ih ls H locs (cells) (slots) xi xl (va_up xa 3 u3) fc cs i L (va_up a 18 y9) aL (by omega) (by omega) ⟨hcs, tb, ln0, ln1, ln2, ln3, h7, mci, ob, fb, pb, ri, h22, h24, h29, h5, h23, h20, hr25, hr27, h50, h51, o47, h52, hr54, h35, z31, z64, o56, l58, sz, iv31, nm, kc, kcr, kfl, klk⟩ (lv_sub hl [0, 1, 2, 3] rfl) hP hD hS
  refine lv_iconst (v := 1) hx hb dL_law_430 (by decide) ?_
  refine lv_goto (tgt := 435) hx hb dL_law_431 (by decide) ?_
  refine kI (rnV (As := [.int (xs (6 * k + 1)), .int 1]) (rest := []) (Cn := RX11) C (x_burst l g ho (ux 40) (ux 41) (xi 0) (xi 1) (xi 2) (xi 3) (ux 3) (ux 8) (ux 14) (ux 19) (ux 24) (ux 29) (ux 35) (ux 36) (ux 0) (xi 4) (xi 5) (ux 1) (xi 6) (ux 2) fc (ux 4) (ux 5) (ux 6) (ux 7) (xi 7) (xa 3) (xs (6 * k + 1)) 1 (CS_fcs hcs)) 2 gL_law_X11_burst rfl (by decide +kernel) ⟨(Nat.le_of_ble_eq_true rfl), (Nat.le_of_ble_eq_true rfl)⟩ hP (k := 0) (ci := 11) rfl rfl rfl rfl hl.1 rfl (Nat.le_of_ble_eq_true rfl) dL_law_435 ⟨(show cells + 0 ≤ 600000 by omega), (show slots + 0 ≤ 7302250 by omega)⟩) (spM (X := (wXM g ho ux xi xl xa fc hm q i L a aL)) (pl := cysW g cs) [true, true, true, false, true, false, false, true, false, false, false, false, false, false, false, false, false, false, false, false, false, false, false, false, false, false, false, false, false, false, false, false, false, false, false, false, false, false, false, false, false, false, false, false, false, false, false, false, false, false, false, false, false, false, false, false, false, false, false, false, false, false, false, false, false, false, false, false, false, false, false, false, false, false, false, false, false, false, false, false, false, false, false, false, false, false, false, false, false, false, false] hP hD rfl) hA hS (fun r10 u11 H locs hw hP hD hS => ?_)
  obtain ⟨f13, f14⟩ := hw
  replace hP : va_P g.1 vwCl (wXM g ho ux xi xl (va_up xa 3 u11) fc hm q i L a aL ++ cysW g cs) H := hP
  replace hD : va_D (fun q : Nat => s.heap.size ≤ q) (wXM g ho ux xi xl (va_up xa 3 u11) fc hm q i L a aL ++ cysW g cs) := hD
  refine lv_pop hx hb dL_law_438 rfl ?_
  refine lv_aload_n hx hb dL_law_439 rfl (lv_at hl 1 rfl) ?_
  refine lv_aload_n hx hb dL_law_440 rfl (lv_at hl 3 rfl) ?_
  refine lv_iload_n hx hb dL_law_441 rfl (lv_at hl 0 rfl) ?_
  refine lv_iconst (v := 1) hx hb dL_law_442 (by decide) ?_
  refine lv_iadd hx hb dL_law_443 ?_
  refine va_sld hx hb hX hbl hbA hS (sc_in (j := 1) (by decide) (by decide) hk hL) dL_law_444 ?_
  refine nx_i (v := xs (6 * k + 1)) (sc_ix (j := 1) (by decide) (by decide) hk hL) ?_
  refine lv_aload_n hx hb dL_law_445 rfl (lv_at hl 3 rfl) ?_
  refine lv_iload_n hx hb dL_law_446 rfl (lv_at hl 0 rfl) ?_
  refine lv_iconst (v := 2) hx hb dL_law_447 (by decide) ?_
  refine lv_iadd hx hb dL_law_448 ?_
  refine va_sld hx hb hX hbl hbA hS (sc_in (j := 2) (by decide) (by decide) hk hL) dL_law_449 ?_
  refine nx_i (v := xs (6 * k + 2)) (sc_ix (j := 2) (by decide) (by decide) hk hL) ?_
  refine lv_if_eq (tgt := 457) hx hb dL_law_450 (by decide) (fun cc0 => absurd cc0 c1) (fun _ => ?_)
  refine lv_iconst (v := 1) hx hb dL_law_453 (by decide) ?_
  refine lv_goto (tgt := 458) hx hb dL_law_454 (by decide) ?_
  refine kI (rnV (As := [.int (xs (6 * k + 1)), .int 1]) (rest := []) (Cn := RX12) C (g_burst l g hm q i L (a 18) (xs (6 * k + 1)) 1 h7) 2 gL_law_X12_burst rfl (by decide +kernel) ⟨(Nat.le_of_ble_eq_true rfl), (Nat.le_of_ble_eq_true rfl)⟩ hP (k := 51) (ci := 12) rfl rfl rfl rfl hl.1 rfl (Nat.le_of_ble_eq_true rfl) dL_law_458 ⟨(show cells + 0 ≤ 600000 by omega), (show slots + 0 ≤ 7302250 by omega)⟩) (spM (X := (wXM g ho ux xi xl (va_up xa 3 u11) fc hm q i L a aL)) (pl := cysW g cs) [false, false, false, false, false, false, false, false, false, false, false, false, false, false, false, false, false, false, false, false, false, false, false, false, false, false, false, false, false, false, false, false, false, false, false, false, false, false, false, false, false, false, false, false, false, false, false, false, false, false, false, true, false, false, false, false, false, false, false, false, false, false, false, false, false, false, true, false, false, false, false, false, false, false, false, false, false, false, false, false, false, false, false, false, false, false, false, false, false, false, false] hP hD rfl) hA hS (fun r15 u16 H locs hw hP hD hS => ?_)
  have hre := hw
  obtain ⟨y17, hy17⟩ : ∃ y9, (o_g_burst_q18 i (a 18) (xs (6 * k + 1)) 1) = y9 := ⟨_, rfl⟩
  rw [hy17] at hP hD
  replace hP : va_P g.1 vwCl (wXM g ho ux xi xl (va_up xa 3 u11) fc hm q i L (va_up a 18 y17) aL ++ cysW g cs) H := hP
  replace hD : va_D (fun q : Nat => s.heap.size ≤ q) (wXM g ho ux xi xl (va_up xa 3 u11) fc hm q i L (va_up a 18 y17) aL ++ cysW g cs) := hD
  refine nx_i (v := (r_g_burst i (a 18) (xs (6 * k + 1)) 1)) hre ?_
  refine lv_pop hx hb dL_law_461 rfl ?_
  refine lv_goto (tgt := 1134) hx hb dL_law_462 (by decide) ?_
  have iv31 : B6 y17 := (by rw [← hy17]; exact burst_b6 b6 (by decide))
  refine lv_iinc (v := nI (6 * (k + 1))) (lv' := [(3, .int (nI (6 * (k + 1)))), (2, .ref hm), (1, .ref ho), (0, .ref b)]) hx hb dL_law_1134 hl (k := 0) rfl (sc_next k) (by decide) rfl (fun ls hl => ?_)
  refine lv_goto (tgt := 18) hx hb dL_law_1137 (by decide) ?_
  exact ih ls H locs (cells) (slots) xi xl (va_up xa 3 u11) fc cs i L (va_up a 18 y17) aL (by omega) (by omega) ⟨hcs, tb, ln0, ln1, ln2, ln3, h7, mci, ob, fb, pb, ri, h22, h24, h29, h5, h23, h20, hr25, hr27, h50, h51, o47, h52, hr54, h35, z31, z64, o56, l58, sz, iv31, nm, kc, kcr, kfl, klk⟩ (lv_sub hl [0, 1, 2, 3] rfl) hP hD hS
set_option maxRecDepth 100000 in
set_option maxHeartbeats 4000000 in
theorem lc_store {p : Program} {l : Launch} {e : Env} {s : State} {m : MethodId} {below : List Frame} {meth : Method} {c : Code} {g : Gt} {b N ho hm : Nat} {ux q : Nat → Nat} {xs : Nat → Int32} (C : Ctx g p s m #[Value.ref b] meth c yL_law wsL_law cL_law 4 (some .boolean)) (hX : va_X b N xs s s.heap) (hbl : b < s.heap.size) (hL : N ≤ 3072) {n k : Nat} (hk : 6 * k + 6 ≤ N) (ih : LAt p l e s m below meth c g b ho hm ux q n (k + 1) 18) : LAt p l e s m below meth c g b ho hm ux q (n + 1) k 465 := by
  intro ls H locs cells slots xi xl xa fc cs i L a aL hcl hsl hinv hl hP hD hS
  obtain ⟨hcs, tb, ln0, ln1, ln2, ln3, h7, mci, ob, fb, pb, ri, h22, h24, h29, h5, h23, h20, hr25, hr27, h50, h51, o47, h52, hr54, h35, z31, z64, o56, l58, sz, b6, nm, kc, kcr, kfl, klk⟩ := hinv
  obtain ⟨hx, hb, hr, hts, hown, hlocks, hml, hin, hKN⟩ := id C
  have hK := hKN.1
  have hN := hKN.2
  have F : CallFix p m c cL_law 4 s _ wsL_law yL_law.cls := ⟨hx, hb, hml, hown, hts⟩
  have hA : ∀ q : Nat, s.heap.size ≤ q → (fun q : Nat => s.heap.size ≤ q) q := fun _ h => h
  have hbA : ¬ (fun q : Nat => s.heap.size ≤ q) b := Nat.not_le.mpr hbl
  refine lv_aload_n hx hb dL_law_465 rfl (lv_at hl 2 rfl) ?_
  refine lv_aload_n hx hb dL_law_466 rfl (lv_at hl 3 rfl) ?_
  refine lv_iload_n hx hb dL_law_467 rfl (lv_at hl 0 rfl) ?_
  refine lv_iconst (v := 1) hx hb dL_law_468 (by decide) ?_
  refine lv_iadd hx hb dL_law_469 ?_
  refine va_sld hx hb hX hbl hbA hS (sc_in (j := 1) (by decide) (by decide) hk hL) dL_law_470 ?_
  refine nx_i (v := xs (6 * k + 1)) (sc_ix (j := 1) (by decide) (by decide) hk hL) ?_
  refine lv_aload_n hx hb dL_law_471 rfl (lv_at hl 3 rfl) ?_
  refine lv_iload_n hx hb dL_law_472 rfl (lv_at hl 0 rfl) ?_
  refine lv_iconst (v := 2) hx hb dL_law_473 (by decide) ?_
  refine lv_iadd hx hb dL_law_474 ?_
  refine va_sld hx hb hX hbl hbA hS (sc_in (j := 2) (by decide) (by decide) hk hL) dL_law_475 ?_
  refine nx_i (v := xs (6 * k + 2)) (sc_ix (j := 2) (by decide) (by decide) hk hL) ?_
  refine lv_aload_n hx hb dL_law_476 rfl (lv_at hl 3 rfl) ?_
  refine lv_iload_n hx hb dL_law_477 rfl (lv_at hl 0 rfl) ?_
  refine lv_iconst (v := 3) hx hb dL_law_478 (by decide) ?_
  refine lv_iadd hx hb dL_law_479 ?_
  refine va_sld hx hb hX hbl hbA hS (sc_in (j := 3) (by decide) (by decide) hk hL) dL_law_480 ?_
  refine nx_i (v := xs (6 * k + 3)) (sc_ix (j := 3) (by decide) (by decide) hk hL) ?_
  refine kI (rnV (As := [.int (xs (6 * k + 1)), .int (xs (6 * k + 2)), .int (xs (6 * k + 3))]) (rest := []) (Cn := RX11) C (x_store l g ho (ux 40) (ux 41) (xi 0) (xi 1) (xi 2) (xi 3) (ux 3) (ux 8) (ux 14) (ux 19) (ux 24) (ux 29) (ux 35) (ux 36) (ux 0) (ux 4) (ux 5) (ux 6) (ux 7) (xi 7) (xi 8) (xi 9) (xi 10) (xi 11) (xs (6 * k + 1)) (xs (6 * k + 2)) (xs (6 * k + 3))) 3 gL_law_X11_store rfl (by decide +kernel) ⟨(Nat.le_of_ble_eq_true rfl), (Nat.le_of_ble_eq_true rfl)⟩ hP (k := 0) (ci := 11) rfl rfl rfl rfl hl.1 rfl (Nat.le_of_ble_eq_true rfl) dL_law_481 ⟨(show cells + 0 ≤ 600000 by omega), (show slots + 0 ≤ 7302250 by omega)⟩) (spM (X := (wXM g ho ux xi xl xa fc hm q i L a aL)) (pl := cysW g cs) [true, false, false, false, true, false, false, false, true, false, false, false, false, false, false, false, false, false, false, false, false, false, false, false, false, false, false, false, false, false, false, false, false, false, false, false, false, false, false, false, false, false, false, false, false, false, false, false, false, false, false, false, false, false, false, false, false, false, false, false, false, false, false, false, false, false, false, false, false, false, false, false, false, false, false, false, false, false, false, false, false, false, false, false, false, false, false, false, false, false, false] hP hD rfl) hA hS (fun r1 u2 H locs hw hP hD hS => ?_)
  have hre := hw
  obtain ⟨y3, hy3⟩ : ∃ y9, (o_x_store_0 (xi 8) (xi 11) (xs (6 * k + 1)) (xs (6 * k + 2)) (xs (6 * k + 3))) = y9 := ⟨_, rfl⟩
  rw [hy3] at hP hD
  obtain ⟨y4, hy4⟩ : ∃ y9, (o_x_store_1 (xi 9) (xi 11) (xs (6 * k + 1)) (xs (6 * k + 2)) (xs (6 * k + 3))) = y9 := ⟨_, rfl⟩
  rw [hy4] at hP hD
  obtain ⟨y5, hy5⟩ : ∃ y9, (o_x_store_2 (xi 10) (xi 11) (xs (6 * k + 1)) (xs (6 * k + 2)) (xs (6 * k + 3))) = y9 := ⟨_, rfl⟩
  rw [hy5] at hP hD
  replace hP : va_P g.1 vwCl (wXM g ho ux (upd (upd (upd xi 8 y3) 9 y4) 10 y5) xl xa fc hm q i L a aL ++ cysW g cs) H := hP
  replace hD : va_D (fun q : Nat => s.heap.size ≤ q) (wXM g ho ux (upd (upd (upd xi 8 y3) 9 y4) 10 y5) xl xa fc hm q i L a aL ++ cysW g cs) := hD
  refine nx_i (v := (r_x_store (xi 11) (xs (6 * k + 1)) (xs (6 * k + 2)) (xs (6 * k + 3)))) hre ?_
  refine lv_pop hx hb dL_law_484 rfl ?_
  refine lv_aload_n hx hb dL_law_485 rfl (lv_at hl 1 rfl) ?_
  refine lv_aload_n hx hb dL_law_486 rfl (lv_at hl 3 rfl) ?_
  refine lv_iload_n hx hb dL_law_487 rfl (lv_at hl 0 rfl) ?_
  refine lv_iconst (v := 1) hx hb dL_law_488 (by decide) ?_
  refine lv_iadd hx hb dL_law_489 ?_
  refine va_sld hx hb hX hbl hbA hS (sc_in (j := 1) (by decide) (by decide) hk hL) dL_law_490 ?_
  refine nx_i (v := xs (6 * k + 1)) (sc_ix (j := 1) (by decide) (by decide) hk hL) ?_
  refine lv_aload_n hx hb dL_law_491 rfl (lv_at hl 3 rfl) ?_
  refine lv_iload_n hx hb dL_law_492 rfl (lv_at hl 0 rfl) ?_
  refine lv_iconst (v := 2) hx hb dL_law_493 (by decide) ?_
  refine lv_iadd hx hb dL_law_494 ?_
  refine va_sld hx hb hX hbl hbA hS (sc_in (j := 2) (by decide) (by decide) hk hL) dL_law_495 ?_
  refine nx_i (v := xs (6 * k + 2)) (sc_ix (j := 2) (by decide) (by decide) hk hL) ?_
  refine lv_aload_n hx hb dL_law_496 rfl (lv_at hl 3 rfl) ?_
  refine lv_iload_n hx hb dL_law_497 rfl (lv_at hl 0 rfl) ?_
  refine lv_iconst (v := 3) hx hb dL_law_498 (by decide) ?_
  refine lv_iadd hx hb dL_law_499 ?_
  refine va_sld hx hb hX hbl hbA hS (sc_in (j := 3) (by decide) (by decide) hk hL) dL_law_500 ?_
  refine nx_i (v := xs (6 * k + 3)) (sc_ix (j := 3) (by decide) (by decide) hk hL) ?_
  refine kI (rnV (As := [.int (xs (6 * k + 1)), .int (xs (6 * k + 2)), .int (xs (6 * k + 3))]) (rest := []) (Cn := RX12) C (w_store l g hm q i L (xs (6 * k + 1)) (xs (6 * k + 2)) (xs (6 * k + 3)) h20 h22) 3 gL_law_X12_store rfl (by decide +kernel) ⟨(Nat.le_of_ble_eq_true rfl), (Nat.le_of_ble_eq_true rfl)⟩ hP (k := 51) (ci := 12) rfl rfl rfl rfl hl.1 rfl (Nat.le_of_ble_eq_true rfl) dL_law_501 ⟨(show cells + 0 ≤ 600000 by omega), (show slots + 0 ≤ 7302250 by omega)⟩) (spM (X := (wXM g ho ux (upd (upd (upd xi 8 y3) 9 y4) 10 y5) xl xa fc hm q i L a aL)) (pl := cysW g cs) [false, false, false, false, false, false, false, false, false, false, false, false, false, false, false, false, false, false, false, false, false, false, false, false, false, false, false, false, false, false, false, false, false, false, false, false, false, false, false, false, false, false, false, false, false, false, false, false, false, false, false, true, false, false, false, false, false, false, false, false, false, false, false, false, false, false, false, false, false, false, false, false, false, false, false, false, false, false, false, false, false, false, false, false, false, false, false, false, false, false, false] hP hD rfl) hA hS (fun r6 u7 H locs hw hP hD hS => ?_)
  obtain ⟨x8, x9, x10⟩ := u7
  obtain ⟨f11, f12⟩ := hw
  replace hP : va_P g.1 vwCl (wXM g ho ux (upd (upd (upd xi 8 y3) 9 y4) 10 y5) xl xa fc hm q (upd (upd (upd i 20 x8) 21 x9) 22 x10) L a aL ++ cysW g cs) H := hP
  replace hD : va_D (fun q : Nat => s.heap.size ≤ q) (wXM g ho ux (upd (upd (upd xi 8 y3) 9 y4) 10 y5) xl xa fc hm q (upd (upd (upd i 20 x8) 21 x9) 22 x10) L a aL ++ cysW g cs) := hD
  replace f11 : 0 ≤ (x8).toInt ∧ (x8).toInt ≤ 5000 := f11
  replace f12 : ¬ (x10) = 0 := f12
  refine lv_pop hx hb dL_law_504 rfl ?_
  refine lv_goto (tgt := 1134) hx hb dL_law_505 (by decide) ?_
  refine lv_iinc (v := nI (6 * (k + 1))) (lv' := [(3, .int (nI (6 * (k + 1)))), (2, .ref hm), (1, .ref ho), (0, .ref b)]) hx hb dL_law_1134 hl (k := 0) rfl (sc_next k) (by decide) rfl (fun ls hl => ?_)
  refine lv_goto (tgt := 18) hx hb dL_law_1137 (by decide) ?_
  exact ih ls H locs (cells) (slots) (upd (upd (upd xi 8 y3) 9 y4) 10 y5) xl xa fc cs (upd (upd (upd i 20 x8) 21 x9) 22 x10) L a aL (by omega) (by omega) ⟨hcs, tb, ln0, ln1, ln2, ln3, h7, mci, ob, fb, pb, ri, f12, h24, h29, h5, h23, f11, hr25, hr27, h50, h51, o47, h52, hr54, h35, z31, z64, o56, l58, sz, b6, nm, kc, kcr, kfl, klk⟩ (lv_sub hl [0, 1, 2, 3] rfl) hP hD hS
set_option maxRecDepth 100000 in
set_option maxHeartbeats 4000000 in
theorem lc_about {p : Program} {l : Launch} {e : Env} {s : State} {m : MethodId} {below : List Frame} {meth : Method} {c : Code} {g : Gt} {b N ho hm : Nat} {ux q : Nat → Nat} {xs : Nat → Int32} (C : Ctx g p s m #[Value.ref b] meth c yL_law wsL_law cL_law 4 (some .boolean)) (hX : va_X b N xs s s.heap) (hbl : b < s.heap.size) (hL : N ≤ 3072) {n k : Nat} (hk : 6 * k + 6 ≤ N) (ih : LAt p l e s m below meth c g b ho hm ux q n (k + 1) 18) : LAt p l e s m below meth c g b ho hm ux q (n + 1) k 508 := by
  intro ls H locs cells slots xi xl xa fc cs i L a aL hcl hsl hinv hl hP hD hS
  obtain ⟨hcs, tb, ln0, ln1, ln2, ln3, h7, mci, ob, fb, pb, ri, h22, h24, h29, h5, h23, h20, hr25, hr27, h50, h51, o47, h52, hr54, h35, z31, z64, o56, l58, sz, b6, nm, kc, kcr, kfl, klk⟩ := hinv
  obtain ⟨hx, hb, hr, hts, hown, hlocks, hml, hin, hKN⟩ := id C
  have hK := hKN.1
  have hN := hKN.2
  have F : CallFix p m c cL_law 4 s _ wsL_law yL_law.cls := ⟨hx, hb, hml, hown, hts⟩
  have hA : ∀ q : Nat, s.heap.size ≤ q → (fun q : Nat => s.heap.size ≤ q) q := fun _ h => h
  have hbA : ¬ (fun q : Nat => s.heap.size ≤ q) b := Nat.not_le.mpr hbl
  refine lv_aload_n hx hb dL_law_508 rfl (lv_at hl 2 rfl) ?_
  refine lv_aload_n hx hb dL_law_509 rfl (lv_at hl 3 rfl) ?_
  refine lv_iload_n hx hb dL_law_510 rfl (lv_at hl 0 rfl) ?_
  refine lv_iconst (v := 1) hx hb dL_law_511 (by decide) ?_
  refine lv_iadd hx hb dL_law_512 ?_
  refine va_sld hx hb hX hbl hbA hS (sc_in (j := 1) (by decide) (by decide) hk hL) dL_law_513 ?_
  refine nx_i (v := xs (6 * k + 1)) (sc_ix (j := 1) (by decide) (by decide) hk hL) ?_
  refine lv_aload_n hx hb dL_law_514 rfl (lv_at hl 3 rfl) ?_
  refine lv_iload_n hx hb dL_law_515 rfl (lv_at hl 0 rfl) ?_
  refine lv_iconst (v := 2) hx hb dL_law_516 (by decide) ?_
  refine lv_iadd hx hb dL_law_517 ?_
  refine va_sld hx hb hX hbl hbA hS (sc_in (j := 2) (by decide) (by decide) hk hL) dL_law_518 ?_
  refine nx_i (v := xs (6 * k + 2)) (sc_ix (j := 2) (by decide) (by decide) hk hL) ?_
  refine kI (rnV (As := [.int (xs (6 * k + 1)), .int (xs (6 * k + 2))]) (rest := []) (Cn := RX11) C (x_about l g ho (ux 40) (ux 41) (xi 0) (xi 1) (xi 2) (xi 3) (ux 3) (ux 8) (ux 14) (ux 19) (ux 24) (ux 29) (ux 35) (ux 36) (ux 0) (xi 4) (xi 5) (ux 1) (xi 6) (ux 2) fc (ux 4) (ux 5) (ux 6) (ux 7) (xi 7) (xa 1) (xa 2) (xa 3) (ux 9) (ux 10) (ux 11) (ux 12) (ux 13) (xi 12) (xi 13) (xi 14) (xi 15) (xi 16) (xl 0) (xl 1) (xl 2) (xa 4) (xs (6 * k + 1)) (xs (6 * k + 2)) cs hcs) 2 gL_law_X11_about rfl (by decide +kernel) ⟨(Nat.le_of_ble_eq_true rfl), (Nat.le_of_ble_eq_true rfl)⟩ hP (k := 0) (ci := 11) rfl rfl rfl rfl hl.1 rfl (Nat.le_of_ble_eq_true rfl) dL_law_519 ⟨(show cells + 0 ≤ 600000 by omega), (show slots + 0 ≤ 7302250 by omega)⟩) (spMC (X := (wXM g ho ux xi xl xa fc hm q i L a aL)) (pl := cysW g cs) [true, true, true, false, true, true, true, true, false, true, true, false, false, false, false, false, false, false, false, false, false, false, false, false, false, false, false, false, false, false, false, false, false, false, false, false, false, false, false, false, false, false, false, false, false, false, false, false, false, false, false, false, false, false, false, false, false, false, false, false, false, false, false, false, false, false, false, false, false, false, false, false, false, false, false, false, false, false, false, false, false, false, false, false, false, false, false, false, false, false, false] hP hD rfl) hA hS (fun r1 u2 H locs hw hP hD hS => ?_)
  replace hP : va_P g.1 vwCl (wXM g ho ux xi xl xa fc hm q i L a aL ++ cysW g cs) H := hP
  replace hD : va_D (fun q : Nat => s.heap.size ≤ q) (wXM g ho ux xi xl xa fc hm q i L a aL ++ cysW g cs) := hD
  refine lv_pop hx hb dL_law_522 rfl ?_
  refine lv_aload_n hx hb dL_law_523 rfl (lv_at hl 1 rfl) ?_
  refine lv_aload_n hx hb dL_law_524 rfl (lv_at hl 3 rfl) ?_
  refine lv_iload_n hx hb dL_law_525 rfl (lv_at hl 0 rfl) ?_
  refine lv_iconst (v := 1) hx hb dL_law_526 (by decide) ?_
  refine lv_iadd hx hb dL_law_527 ?_
  refine va_sld hx hb hX hbl hbA hS (sc_in (j := 1) (by decide) (by decide) hk hL) dL_law_528 ?_
  refine nx_i (v := xs (6 * k + 1)) (sc_ix (j := 1) (by decide) (by decide) hk hL) ?_
  refine lv_aload_n hx hb dL_law_529 rfl (lv_at hl 3 rfl) ?_
  refine lv_iload_n hx hb dL_law_530 rfl (lv_at hl 0 rfl) ?_
  refine lv_iconst (v := 2) hx hb dL_law_531 (by decide) ?_
  refine lv_iadd hx hb dL_law_532 ?_
  refine va_sld hx hb hX hbl hbA hS (sc_in (j := 2) (by decide) (by decide) hk hL) dL_law_533 ?_
  refine nx_i (v := xs (6 * k + 2)) (sc_ix (j := 2) (by decide) (by decide) hk hL) ?_
  refine kI (rnV (As := [.int (xs (6 * k + 1)), .int (xs (6 * k + 2))]) (rest := []) (Cn := RX12) C (w_about l g hm q i L (a 11) (a 12) (a 9) (a 10) (a 13) (a 8) (a 14) (a 17) (a 18) (a 19) (xs (6 * k + 1)) (xs (6 * k + 2)) h7 mci ob) 2 gL_law_X12_about rfl (by decide +kernel) ⟨(Nat.le_of_ble_eq_true rfl), (Nat.le_of_ble_eq_true rfl)⟩ hP (k := 51) (ci := 12) rfl rfl rfl rfl hl.1 rfl (Nat.le_of_ble_eq_true rfl) dL_law_534 ⟨(show cells + 0 ≤ 600000 by omega), (show slots + 0 ≤ 7302250 by omega)⟩) (spB (X := (wXM g ho ux xi xl xa fc hm q i L a aL)) (pl := cysW g cs) (wr := [(ho, .inr (11, [.ref (ux 0), .ref (ux 3), .ref (ux 8), .ref (ux 14), .ref (ux 19), .ref (ux 24), .ref (ux 29), .ref (ux 35), .ref (ux 36), .ref (ux 40), .ref (ux 41), .int (xi 0), .int (xi 1), .int (xi 2), .int (xi 3)])), ((ux 0), .inr (4, [.int (xi 4), .int (xi 5), .ref (ux 1), .int (xi 6), .ref (ux 2)])), ((ux 1), .inl (g.2 3, 6, .inr (.inr (.inr (.inr fc))))), ((ux 2), .inl (g.2 0, 6, .inl (xa 0))), ((ux 3), .inr (7, [.ref (ux 4), .ref (ux 5), .ref (ux 6), .ref (ux 7), .int (xi 7)])), ((ux 4), .inl (g.2 0, 6, .inl (xa 1))), ((ux 5), .inl (g.2 0, 6, .inl (xa 2))), ((ux 6), .inl (g.2 0, 6, .inl (xa 3))), ((ux 7), .inr (8, [.int (xi 8), .int (xi 9), .int (xi 10), .int (xi 11)])), ((ux 8), .inr (1, [.ref (ux 9), .ref (ux 10), .int (xi 12), .ref (ux 11), .ref (ux 12), .ref (ux 13), .int (xi 13), .int (xi 14), .int (xi 15), .int (xi 16), .long (xl 0), .long (xl 1), .long (xl 2)])), ((ux 9), .inl (g.2 0, 6, .inl (xa 4))), ((ux 10), .inl (g.2 0, 6, .inl (xa 5))), ((ux 11), .inl (g.2 0, 6, .inl (xa 6))), ((ux 12), .inl (g.2 0, 6, .inl (xa 7))), ((ux 13), .inl (g.2 0, 6, .inl (xa 8))), ((ux 14), .inr (3, [.ref (ux 15), .ref (ux 16), .ref (ux 17), .ref (ux 18), .int (xi 17)])), ((ux 15), .inl (g.2 0, 30, .inl (xa 9))), ((ux 16), .inl (g.2 0, 30, .inl (xa 10))), ((ux 17), .inl (g.2 0, 30, .inl (xa 11))), ((ux 18), .inl (g.2 0, 30, .inl (xa 12))), ((ux 19), .inr (7, [.ref (ux 20), .ref (ux 21), .ref (ux 22), .ref (ux 23), .int (xi 18)])), ((ux 20), .inl (g.2 0, 6, .inl (xa 13))), ((ux 21), .inl (g.2 0, 6, .inl (xa 14))), ((ux 22), .inl (g.2 0, 6, .inl (xa 15))), ((ux 23), .inr (8, [.int (xi 19), .int (xi 20), .int (xi 21), .int (xi 22)])), ((ux 24), .inr (7, [.ref (ux 25), .ref (ux 26), .ref (ux 27), .ref (ux 28), .int (xi 23)])), ((ux 25), .inl (g.2 0, 6, .inl (xa 16))), ((ux 26), .inl (g.2 0, 6, .inl (xa 17))), ((ux 27), .inl (g.2 0, 6, .inl (xa 18))), ((ux 28), .inr (8, [.int (xi 24), .int (xi 25), .int (xi 26), .int (xi 27)])), ((ux 29), .inr (1, [.ref (ux 30), .ref (ux 31), .int (xi 28), .ref (ux 32), .ref (ux 33), .ref (ux 34), .int (xi 29), .int (xi 30), .int (xi 31), .int (xi 32), .long (xl 3), .long (xl 4), .long (xl 5)])), ((ux 30), .inl (g.2 0, 6, .inl (xa 19))), ((ux 31), .inl (g.2 0, 6, .inl (xa 20))), ((ux 32), .inl (g.2 0, 6, .inl (xa 21))), ((ux 33), .inl (g.2 0, 6, .inl (xa 22))), ((ux 34), .inl (g.2 0, 6, .inl (xa 23))), ((ux 35), .inl (g.2 0, 6, .inl (xa 24))), ((ux 36), .inr (5, [.ref (ux 37), .ref (ux 38), .ref (ux 39), .int (xi 33)])), ((ux 37), .inl (g.2 0, 20, .inl (xa 25))), ((ux 38), .inl (g.2 0, 20, .inl (xa 26))), ((ux 39), .inl (g.2 0, 20, .inl (xa 27))), ((ux 40), .inl (g.2 4, 4, .inr (.inr (.inr (.inr (shF (ux 42) (ux 44) (ux 46) (ux 48))))))), ((ux 41), .inr (9, [.int (xi 34)])), ((ux 42), .inr (6, [.ref (ux 43), .int (xi 35), .int (xi 36), .int (xi 37)])), ((ux 43), .inl (g.2 0, 20, .inl (xa 28))), ((ux 44), .inr (6, [.ref (ux 45), .int (xi 38), .int (xi 39), .int (xi 40)])), ((ux 45), .inl (g.2 0, 20, .inl (xa 29))), ((ux 46), .inr (6, [.ref (ux 47), .int (xi 41), .int (xi 42), .int (xi 43)])), ((ux 47), .inl (g.2 0, 20, .inl (xa 30))), ((ux 48), .inr (6, [.ref (ux 49), .int (xi 44), .int (xi 45), .int (xi 46)])), ((ux 49), .inl (g.2 0, 20, .inl (xa 31))), ((q 1), .inl (g.2 0, 4, .inl (a 1))), ((q 2), .inl (g.2 0, 4, .inl (a 2))), ((q 3), .inl (g.2 0, 80, .inl (a 3))), ((q 4), .inl (g.2 0, 20, .inl (a 4))), ((q 15), .inl (g.2 0, 6, .inl (a 15))), ((q 16), .inl (g.2 0, 6, .inl (a 16))), ((q 25), .inl (g.2 0, 30, .inl (a 25))), ((q 26), .inl (g.2 0, 30, .inl (a 26))), ((q 27), .inl (g.2 0, 30, .inl (a 27))), ((q 28), .inl (g.2 0, 30, .inl (a 28))), ((q 36), .inl (g.2 0, 6, .inl (a 36))), ((q 41), .inl (g.2 0, 6, .inl (a 41))), ((q 42), .inl (g.2 0, 6, .inl (a 42))), ((q 43), .inl (g.2 0, 6, .inl (a 43))), ((q 44), .inl (g.2 0, 6, .inl (a 44))), ((q 47), .inl (g.2 0, 6, .inl (a 47))), ((q 48), .inl (g.2 0, 6, .inl (a 48))), ((q 49), .inl (g.2 1, 6, .inl (a 49))), ((q 53), .inl (g.2 0, 20, .inl (a 53))), ((q 54), .inl (g.2 0, 20, .inl (a 54))), ((q 55), .inl (g.2 0, 20, .inl (a 55))), ((q 56), .inl (g.2 0, 6, .inl (a 56))), ((q 57), .inl (g.2 0, 6, .inl (a 57))), ((q 58), .inl (g.2 0, 6, .inl (a 58))), ((q 59), .inl (g.2 0, 6, .inl (a 59))), ((q 60), .inl (g.2 0, 6, .inl (a 60))), ((q 61), .inl (g.2 1, 6, .inl (a 61))), ((q 62), .inl (g.2 0, 6, .inl (a 62))), ((q 63), .inl (g.2 2, 3, .inr (.inl aL)))]) hP hD [51, 59, 60, 57, 58, 61, 56, 62, 65, 66, 67] [0, 1, 2, 3, 4, 5, 6, 7, 8, 9, 10, 11, 12, 13, 14, 15, 16, 17, 18, 19, 20, 21, 22, 23, 24, 25, 26, 27, 28, 29, 30, 31, 32, 33, 34, 35, 36, 37, 38, 39, 40, 41, 42, 43, 44, 45, 46, 47, 48, 49, 50, 52, 53, 54, 55, 63, 64, 68, 69, 70, 71, 72, 73, 74, 75, 76, 77, 78, 79, 80, 81, 82, 83, 84, 85, 86, 87, 88, 89, 90] rfl rfl (by decide +kernel) (by decide +kernel) (by decide +kernel)) hA hS (fun r3 u4 H locs hw hP hD hS => ?_)
  replace hP : va_P g.1 vwCl (wXM g ho ux xi xl xa fc hm q i L a aL ++ cysW g cs) H := hP.part [0, 1, 2, 3, 4, 5, 6, 7, 8, 9, 10, 11, 12, 13, 14, 15, 16, 17, 18, 19, 20, 21, 22, 23, 24, 25, 26, 27, 28, 29, 30, 31, 32, 33, 34, 35, 36, 37, 38, 39, 40, 41, 42, 43, 44, 45, 46, 47, 48, 49, 50, 80, 51, 52, 53, 54, 86, 83, 84, 81, 82, 85, 87, 55, 56, 88, 89, 90, 57, 58, 59, 60, 61, 62, 63, 64, 65, 66, 67, 68, 69, 70, 71, 72, 73, 74, 75, 76, 77, 78, 79] rfl
  replace hD : va_D (fun q : Nat => s.heap.size ≤ q) (wXM g ho ux xi xl xa fc hm q i L a aL ++ cysW g cs) := hD.part [0, 1, 2, 3, 4, 5, 6, 7, 8, 9, 10, 11, 12, 13, 14, 15, 16, 17, 18, 19, 20, 21, 22, 23, 24, 25, 26, 27, 28, 29, 30, 31, 32, 33, 34, 35, 36, 37, 38, 39, 40, 41, 42, 43, 44, 45, 46, 47, 48, 49, 50, 80, 51, 52, 53, 54, 86, 83, 84, 81, 82, 85, 87, 55, 56, 88, 89, 90, 57, 58, 59, 60, 61, 62, 63, 64, 65, 66, 67, 68, 69, 70, 71, 72, 73, 74, 75, 76, 77, 78, 79] (by decide +kernel) rfl
  refine lv_pop hx hb dL_law_537 rfl ?_
  refine lv_goto (tgt := 1134) hx hb dL_law_538 (by decide) ?_
  refine lv_iinc (v := nI (6 * (k + 1))) (lv' := [(3, .int (nI (6 * (k + 1)))), (2, .ref hm), (1, .ref ho), (0, .ref b)]) hx hb dL_law_1134 hl (k := 0) rfl (sc_next k) (by decide) rfl (fun ls hl => ?_)
  refine lv_goto (tgt := 18) hx hb dL_law_1137 (by decide) ?_
  exact ih ls H locs (cells) (slots) xi xl xa fc cs i L a aL (by omega) (by omega) ⟨hcs, tb, ln0, ln1, ln2, ln3, h7, mci, ob, fb, pb, ri, h22, h24, h29, h5, h23, h20, hr25, hr27, h50, h51, o47, h52, hr54, h35, z31, z64, o56, l58, sz, b6, nm, kc, kcr, kfl, klk⟩ (lv_sub hl [0, 1, 2, 3] rfl) hP hD hS
set_option maxRecDepth 100000 in
set_option maxHeartbeats 4000000 in
theorem lc_tick {p : Program} {l : Launch} {e : Env} {s : State} {m : MethodId} {below : List Frame} {meth : Method} {c : Code} {g : Gt} {b N ho hm : Nat} {ux q : Nat → Nat} {xs : Nat → Int32} (C : Ctx g p s m #[Value.ref b] meth c yL_law wsL_law cL_law 4 (some .boolean)) (hX : va_X b N xs s s.heap) (hbl : b < s.heap.size) (hL : N ≤ 3072) {n k : Nat} (hk : 6 * k + 6 ≤ N) (ih : LAt p l e s m below meth c g b ho hm ux q n (k + 1) 18) : LAt p l e s m below meth c g b ho hm ux q (n + 1) k 541 := by
  intro ls H locs cells slots xi xl xa fc cs i L a aL hcl hsl hinv hl hP hD hS
  obtain ⟨hcs, tb, ln0, ln1, ln2, ln3, h7, mci, ob, fb, pb, ri, h22, h24, h29, h5, h23, h20, hr25, hr27, h50, h51, o47, h52, hr54, h35, z31, z64, o56, l58, sz, b6, nm, kc, kcr, kfl, klk⟩ := hinv
  obtain ⟨hx, hb, hr, hts, hown, hlocks, hml, hin, hKN⟩ := id C
  have hK := hKN.1
  have hN := hKN.2
  have F : CallFix p m c cL_law 4 s _ wsL_law yL_law.cls := ⟨hx, hb, hml, hown, hts⟩
  have hA : ∀ q : Nat, s.heap.size ≤ q → (fun q : Nat => s.heap.size ≤ q) q := fun _ h => h
  have hbA : ¬ (fun q : Nat => s.heap.size ≤ q) b := Nat.not_le.mpr hbl
  refine lv_aload_n hx hb dL_law_541 rfl (lv_at hl 2 rfl) ?_
  refine lv_aload_n hx hb dL_law_542 rfl (lv_at hl 3 rfl) ?_
  refine lv_iload_n hx hb dL_law_543 rfl (lv_at hl 0 rfl) ?_
  refine lv_iconst (v := 1) hx hb dL_law_544 (by decide) ?_
  refine lv_iadd hx hb dL_law_545 ?_
  refine va_sld hx hb hX hbl hbA hS (sc_in (j := 1) (by decide) (by decide) hk hL) dL_law_546 ?_
  refine nx_i (v := xs (6 * k + 1)) (sc_ix (j := 1) (by decide) (by decide) hk hL) ?_
  refine kI (rnV (As := [.int (xs (6 * k + 1))]) (rest := []) (Cn := RX11) C (x_tick l g ho (ux 40) (ux 41) (xi 0) (xi 1) (xi 2) (xi 3) (ux 0) (xi 4) (xi 5) (ux 1) (xi 6) (ux 2) fc (ux 14) (ux 15) (ux 16) (ux 17) (ux 18) (xi 17) (xa 9) (xa 10) (xa 11) (xa 12) (ux 3) (ux 4) (ux 5) (ux 6) (ux 7) (xi 7) (xa 1) (xa 2) (xa 3) (xi 8) (xi 9) (xi 10) (xi 11) (ux 8) (ux 9) (ux 10) (ux 11) (ux 12) (ux 13) (xi 12) (xi 13) (xi 14) (xi 15) (xi 16) (xl 0) (xl 1) (xl 2) (xa 4) (xa 5) (xa 6) (xa 7) (xa 8) (ux 19) (ux 24) (ux 29) (ux 35) (ux 36) (xa 0) (xs (6 * k + 1)) cs hcs) 1 gL_law_X11_tick rfl (by decide +kernel) ⟨(Nat.le_of_ble_eq_true rfl), (Nat.le_of_ble_eq_true rfl)⟩ hP (k := 0) (ci := 11) rfl rfl rfl rfl hl.1 rfl (Nat.le_of_ble_eq_true rfl) dL_law_547 ⟨(show cells + 0 ≤ 600000 by omega), (show slots + 0 ≤ 7302250 by omega)⟩) (spC (X := (wXM g ho ux xi xl xa fc hm q i L a aL)) (pl := cysW g cs) (wr := [((ux 19), .inr (7, [.ref (ux 20), .ref (ux 21), .ref (ux 22), .ref (ux 23), .int (xi 18)])), ((ux 20), .inl (g.2 0, 6, .inl (xa 13))), ((ux 21), .inl (g.2 0, 6, .inl (xa 14))), ((ux 22), .inl (g.2 0, 6, .inl (xa 15))), ((ux 23), .inr (8, [.int (xi 19), .int (xi 20), .int (xi 21), .int (xi 22)])), ((ux 24), .inr (7, [.ref (ux 25), .ref (ux 26), .ref (ux 27), .ref (ux 28), .int (xi 23)])), ((ux 25), .inl (g.2 0, 6, .inl (xa 16))), ((ux 26), .inl (g.2 0, 6, .inl (xa 17))), ((ux 27), .inl (g.2 0, 6, .inl (xa 18))), ((ux 28), .inr (8, [.int (xi 24), .int (xi 25), .int (xi 26), .int (xi 27)])), ((ux 29), .inr (1, [.ref (ux 30), .ref (ux 31), .int (xi 28), .ref (ux 32), .ref (ux 33), .ref (ux 34), .int (xi 29), .int (xi 30), .int (xi 31), .int (xi 32), .long (xl 3), .long (xl 4), .long (xl 5)])), ((ux 30), .inl (g.2 0, 6, .inl (xa 19))), ((ux 31), .inl (g.2 0, 6, .inl (xa 20))), ((ux 32), .inl (g.2 0, 6, .inl (xa 21))), ((ux 33), .inl (g.2 0, 6, .inl (xa 22))), ((ux 34), .inl (g.2 0, 6, .inl (xa 23))), ((ux 35), .inl (g.2 0, 6, .inl (xa 24))), ((ux 36), .inr (5, [.ref (ux 37), .ref (ux 38), .ref (ux 39), .int (xi 33)])), ((ux 37), .inl (g.2 0, 20, .inl (xa 25))), ((ux 38), .inl (g.2 0, 20, .inl (xa 26))), ((ux 39), .inl (g.2 0, 20, .inl (xa 27))), ((ux 40), .inl (g.2 4, 4, .inr (.inr (.inr (.inr (shF (ux 42) (ux 44) (ux 46) (ux 48))))))), ((ux 41), .inr (9, [.int (xi 34)])), ((ux 42), .inr (6, [.ref (ux 43), .int (xi 35), .int (xi 36), .int (xi 37)])), ((ux 43), .inl (g.2 0, 20, .inl (xa 28))), ((ux 44), .inr (6, [.ref (ux 45), .int (xi 38), .int (xi 39), .int (xi 40)])), ((ux 45), .inl (g.2 0, 20, .inl (xa 29))), ((ux 46), .inr (6, [.ref (ux 47), .int (xi 41), .int (xi 42), .int (xi 43)])), ((ux 47), .inl (g.2 0, 20, .inl (xa 30))), ((ux 48), .inr (6, [.ref (ux 49), .int (xi 44), .int (xi 45), .int (xi 46)])), ((ux 49), .inl (g.2 0, 20, .inl (xa 31))), (hm, .inr (12, mO q i L)), ((q 1), .inl (g.2 0, 4, .inl (a 1))), ((q 2), .inl (g.2 0, 4, .inl (a 2))), ((q 3), .inl (g.2 0, 80, .inl (a 3))), ((q 4), .inl (g.2 0, 20, .inl (a 4))), ((q 8), .inl (g.2 0, 6, .inl (a 8))), ((q 9), .inl (g.2 0, 6, .inl (a 9))), ((q 10), .inl (g.2 0, 6, .inl (a 10))), ((q 11), .inl (g.2 0, 6, .inl (a 11))), ((q 12), .inl (g.2 0, 6, .inl (a 12))), ((q 13), .inl (g.2 0, 60, .inl (a 13))), ((q 14), .inl (g.2 0, 6, .inl (a 14))), ((q 15), .inl (g.2 0, 6, .inl (a 15))), ((q 16), .inl (g.2 0, 6, .inl (a 16))), ((q 17), .inl (g.2 0, 6, .inl (a 17))), ((q 18), .inl (g.2 1, 6, .inl (a 18))), ((q 19), .inl (g.2 0, 6, .inl (a 19))), ((q 25), .inl (g.2 0, 30, .inl (a 25))), ((q 26), .inl (g.2 0, 30, .inl (a 26))), ((q 27), .inl (g.2 0, 30, .inl (a 27))), ((q 28), .inl (g.2 0, 30, .inl (a 28))), ((q 36), .inl (g.2 0, 6, .inl (a 36))), ((q 41), .inl (g.2 0, 6, .inl (a 41))), ((q 42), .inl (g.2 0, 6, .inl (a 42))), ((q 43), .inl (g.2 0, 6, .inl (a 43))), ((q 44), .inl (g.2 0, 6, .inl (a 44))), ((q 47), .inl (g.2 0, 6, .inl (a 47))), ((q 48), .inl (g.2 0, 6, .inl (a 48))), ((q 49), .inl (g.2 1, 6, .inl (a 49))), ((q 53), .inl (g.2 0, 20, .inl (a 53))), ((q 54), .inl (g.2 0, 20, .inl (a 54))), ((q 55), .inl (g.2 0, 20, .inl (a 55))), ((q 56), .inl (g.2 0, 6, .inl (a 56))), ((q 57), .inl (g.2 0, 6, .inl (a 57))), ((q 58), .inl (g.2 0, 6, .inl (a 58))), ((q 59), .inl (g.2 0, 6, .inl (a 59))), ((q 60), .inl (g.2 0, 6, .inl (a 60))), ((q 61), .inl (g.2 1, 6, .inl (a 61))), ((q 62), .inl (g.2 0, 6, .inl (a 62))), ((q 63), .inl (g.2 2, 3, .inr (.inl aL)))]) hP hD [0, 1, 2, 15, 16, 17, 18, 19, 4, 5, 6, 7, 8, 9, 10, 11, 12, 13, 14, 3] [20, 21, 22, 23, 24, 25, 26, 27, 28, 29, 30, 31, 32, 33, 34, 35, 36, 37, 38, 39, 40, 41, 42, 43, 44, 45, 46, 47, 48, 49, 50, 51, 52, 53, 54, 55, 56, 57, 58, 59, 60, 61, 62, 63, 64, 65, 66, 67, 68, 69, 70, 71, 72, 73, 74, 75, 76, 77, 78, 79, 80, 81, 82, 83, 84, 85, 86, 87, 88, 89, 90] rfl rfl (by decide +kernel) (by decide +kernel) (by decide +kernel)) hA hS (fun r1 u2 H locs hw hP hD hS => ?_)
  obtain ⟨x3, x4, x5, x6, x7, x8, x9, x10, x11, x12, x13, x14, x15, x16, x17, x18, x19, x20, x21⟩ := u2
  have f22 := hw
  rw [← List.append_assoc] at hP hD
  replace hP : va_P g.1 vwCl (wXM g ho ux (upd (upd (upd (upd (upd (upd (upd (upd (upd xi 2 x3) 3 x4) 7 x5) 11 x8) 12 x9) 13 x10) 14 x11) 15 x12) 16 x13) (vp_updL (vp_updL (vp_updL xl 0 x14) 1 x15) 2 x16) (va_up (va_up (va_up (va_up (va_up (va_up (va_up xa 1 x6) 2 x7) 4 x17) 5 x18) 6 x19) 7 x20) 8 x21) fc hm q i L a aL ++ cysW g cs) H := hP.part [71, 72, 73, 90, 79, 80, 81, 82, 83, 84, 85, 86, 87, 88, 89, 74, 75, 76, 77, 78, 0, 1, 2, 3, 4, 5, 6, 7, 8, 9, 10, 11, 12, 13, 14, 15, 16, 17, 18, 19, 20, 21, 22, 23, 24, 25, 26, 27, 28, 29, 30, 31, 32, 33, 34, 35, 36, 37, 38, 39, 40, 41, 42, 43, 44, 45, 46, 47, 48, 49, 50, 51, 52, 53, 54, 55, 56, 57, 58, 59, 60, 61, 62, 63, 64, 65, 66, 67, 68, 69, 70] rfl
  replace hD : va_D (fun q : Nat => s.heap.size ≤ q) (wXM g ho ux (upd (upd (upd (upd (upd (upd (upd (upd (upd xi 2 x3) 3 x4) 7 x5) 11 x8) 12 x9) 13 x10) 14 x11) 15 x12) 16 x13) (vp_updL (vp_updL (vp_updL xl 0 x14) 1 x15) 2 x16) (va_up (va_up (va_up (va_up (va_up (va_up (va_up xa 1 x6) 2 x7) 4 x17) 5 x18) 6 x19) 7 x20) 8 x21) fc hm q i L a aL ++ cysW g cs) := hD.part [71, 72, 73, 90, 79, 80, 81, 82, 83, 84, 85, 86, 87, 88, 89, 74, 75, 76, 77, 78, 0, 1, 2, 3, 4, 5, 6, 7, 8, 9, 10, 11, 12, 13, 14, 15, 16, 17, 18, 19, 20, 21, 22, 23, 24, 25, 26, 27, 28, 29, 30, 31, 32, 33, 34, 35, 36, 37, 38, 39, 40, 41, 42, 43, 44, 45, 46, 47, 48, 49, 50, 51, 52, 53, 54, 55, 56, 57, 58, 59, 60, 61, 62, 63, 64, 65, 66, 67, 68, 69, 70] (by decide +kernel) rfl
  replace f22 : CTKR (xi 3) (xs (6 * k + 1)) r1 x4 := f22
  refine lv_pop hx hb dL_law_550 rfl ?_
  refine lv_aload_n hx hb dL_law_551 rfl (lv_at hl 1 rfl) ?_
  refine lv_aload_n hx hb dL_law_552 rfl (lv_at hl 3 rfl) ?_
  refine lv_iload_n hx hb dL_law_553 rfl (lv_at hl 0 rfl) ?_
  refine lv_iconst (v := 1) hx hb dL_law_554 (by decide) ?_
  refine lv_iadd hx hb dL_law_555 ?_
  refine va_sld hx hb hX hbl hbA hS (sc_in (j := 1) (by decide) (by decide) hk hL) dL_law_556 ?_
  refine nx_i (v := xs (6 * k + 1)) (sc_ix (j := 1) (by decide) (by decide) hk hL) ?_
  refine kI (rnV (As := [.int (xs (6 * k + 1))]) (rest := []) (Cn := RX12) C (w_tick l g hm q i L (a 25) (a 26) (a 27) (a 28) (a 17) (a 11) (a 9) (a 10) (a 19) (a 18) (a 8) (a 15) (a 13) (a 12) (a 16) (a 42) (a 43) (a 44) (a 41) (a 14) (a 36) (xs (6 * k + 1)) h7 mci ob fb pb ri h22 h24 h29 h5 h23 h20 hr25 hr27 h35 z31) 1 gL_law_X12_tick rfl (by decide +kernel) ⟨(Nat.le_of_ble_eq_true rfl), (Nat.le_of_ble_eq_true rfl)⟩ hP (k := 51) (ci := 12) rfl rfl rfl rfl hl.1 rfl (Nat.le_of_ble_eq_true rfl) dL_law_557 ⟨(show cells + 0 ≤ 600000 by omega), (show slots + 0 ≤ 7302250 by omega)⟩) (spB (X := (wXM g ho ux (upd (upd (upd (upd (upd (upd (upd (upd (upd xi 2 x3) 3 x4) 7 x5) 11 x8) 12 x9) 13 x10) 14 x11) 15 x12) 16 x13) (vp_updL (vp_updL (vp_updL xl 0 x14) 1 x15) 2 x16) (va_up (va_up (va_up (va_up (va_up (va_up (va_up xa 1 x6) 2 x7) 4 x17) 5 x18) 6 x19) 7 x20) 8 x21) fc hm q i L a aL)) (pl := cysW g cs) (wr := [(ho, .inr (11, [.ref (ux 0), .ref (ux 3), .ref (ux 8), .ref (ux 14), .ref (ux 19), .ref (ux 24), .ref (ux 29), .ref (ux 35), .ref (ux 36), .ref (ux 40), .ref (ux 41), .int (xi 0), .int (xi 1), .int x3, .int x4])), ((ux 0), .inr (4, [.int (xi 4), .int (xi 5), .ref (ux 1), .int (xi 6), .ref (ux 2)])), ((ux 1), .inl (g.2 3, 6, .inr (.inr (.inr (.inr fc))))), ((ux 2), .inl (g.2 0, 6, .inl (xa 0))), ((ux 3), .inr (7, [.ref (ux 4), .ref (ux 5), .ref (ux 6), .ref (ux 7), .int x5])), ((ux 4), .inl (g.2 0, 6, .inl x6)), ((ux 5), .inl (g.2 0, 6, .inl x7)), ((ux 6), .inl (g.2 0, 6, .inl (xa 3))), ((ux 7), .inr (8, [.int (xi 8), .int (xi 9), .int (xi 10), .int x8])), ((ux 8), .inr (1, [.ref (ux 9), .ref (ux 10), .int x9, .ref (ux 11), .ref (ux 12), .ref (ux 13), .int x10, .int x11, .int x12, .int x13, .long x14, .long x15, .long x16])), ((ux 9), .inl (g.2 0, 6, .inl x17)), ((ux 10), .inl (g.2 0, 6, .inl x18)), ((ux 11), .inl (g.2 0, 6, .inl x19)), ((ux 12), .inl (g.2 0, 6, .inl x20)), ((ux 13), .inl (g.2 0, 6, .inl x21)), ((ux 14), .inr (3, [.ref (ux 15), .ref (ux 16), .ref (ux 17), .ref (ux 18), .int (xi 17)])), ((ux 15), .inl (g.2 0, 30, .inl (xa 9))), ((ux 16), .inl (g.2 0, 30, .inl (xa 10))), ((ux 17), .inl (g.2 0, 30, .inl (xa 11))), ((ux 18), .inl (g.2 0, 30, .inl (xa 12))), ((ux 19), .inr (7, [.ref (ux 20), .ref (ux 21), .ref (ux 22), .ref (ux 23), .int (xi 18)])), ((ux 20), .inl (g.2 0, 6, .inl (xa 13))), ((ux 21), .inl (g.2 0, 6, .inl (xa 14))), ((ux 22), .inl (g.2 0, 6, .inl (xa 15))), ((ux 23), .inr (8, [.int (xi 19), .int (xi 20), .int (xi 21), .int (xi 22)])), ((ux 24), .inr (7, [.ref (ux 25), .ref (ux 26), .ref (ux 27), .ref (ux 28), .int (xi 23)])), ((ux 25), .inl (g.2 0, 6, .inl (xa 16))), ((ux 26), .inl (g.2 0, 6, .inl (xa 17))), ((ux 27), .inl (g.2 0, 6, .inl (xa 18))), ((ux 28), .inr (8, [.int (xi 24), .int (xi 25), .int (xi 26), .int (xi 27)])), ((ux 29), .inr (1, [.ref (ux 30), .ref (ux 31), .int (xi 28), .ref (ux 32), .ref (ux 33), .ref (ux 34), .int (xi 29), .int (xi 30), .int (xi 31), .int (xi 32), .long (xl 3), .long (xl 4), .long (xl 5)])), ((ux 30), .inl (g.2 0, 6, .inl (xa 19))), ((ux 31), .inl (g.2 0, 6, .inl (xa 20))), ((ux 32), .inl (g.2 0, 6, .inl (xa 21))), ((ux 33), .inl (g.2 0, 6, .inl (xa 22))), ((ux 34), .inl (g.2 0, 6, .inl (xa 23))), ((ux 35), .inl (g.2 0, 6, .inl (xa 24))), ((ux 36), .inr (5, [.ref (ux 37), .ref (ux 38), .ref (ux 39), .int (xi 33)])), ((ux 37), .inl (g.2 0, 20, .inl (xa 25))), ((ux 38), .inl (g.2 0, 20, .inl (xa 26))), ((ux 39), .inl (g.2 0, 20, .inl (xa 27))), ((ux 40), .inl (g.2 4, 4, .inr (.inr (.inr (.inr (shF (ux 42) (ux 44) (ux 46) (ux 48))))))), ((ux 41), .inr (9, [.int (xi 34)])), ((ux 42), .inr (6, [.ref (ux 43), .int (xi 35), .int (xi 36), .int (xi 37)])), ((ux 43), .inl (g.2 0, 20, .inl (xa 28))), ((ux 44), .inr (6, [.ref (ux 45), .int (xi 38), .int (xi 39), .int (xi 40)])), ((ux 45), .inl (g.2 0, 20, .inl (xa 29))), ((ux 46), .inr (6, [.ref (ux 47), .int (xi 41), .int (xi 42), .int (xi 43)])), ((ux 47), .inl (g.2 0, 20, .inl (xa 30))), ((ux 48), .inr (6, [.ref (ux 49), .int (xi 44), .int (xi 45), .int (xi 46)])), ((ux 49), .inl (g.2 0, 20, .inl (xa 31))), ((q 1), .inl (g.2 0, 4, .inl (a 1))), ((q 2), .inl (g.2 0, 4, .inl (a 2))), ((q 3), .inl (g.2 0, 80, .inl (a 3))), ((q 4), .inl (g.2 0, 20, .inl (a 4))), ((q 47), .inl (g.2 0, 6, .inl (a 47))), ((q 48), .inl (g.2 0, 6, .inl (a 48))), ((q 49), .inl (g.2 1, 6, .inl (a 49))), ((q 53), .inl (g.2 0, 20, .inl (a 53))), ((q 54), .inl (g.2 0, 20, .inl (a 54))), ((q 55), .inl (g.2 0, 20, .inl (a 55))), ((q 56), .inl (g.2 0, 6, .inl (a 56))), ((q 57), .inl (g.2 0, 6, .inl (a 57))), ((q 58), .inl (g.2 0, 6, .inl (a 58))), ((q 59), .inl (g.2 0, 6, .inl (a 59))), ((q 60), .inl (g.2 0, 6, .inl (a 60))), ((q 61), .inl (g.2 1, 6, .inl (a 61))), ((q 62), .inl (g.2 0, 6, .inl (a 62))), ((q 63), .inl (g.2 2, 3, .inr (.inl aL)))]) hP hD [51, 68, 69, 70, 71, 65, 59, 57, 58, 67, 66, 56, 63, 61, 60, 64, 74, 75, 76, 73, 62, 72] [0, 1, 2, 3, 4, 5, 6, 7, 8, 9, 10, 11, 12, 13, 14, 15, 16, 17, 18, 19, 20, 21, 22, 23, 24, 25, 26, 27, 28, 29, 30, 31, 32, 33, 34, 35, 36, 37, 38, 39, 40, 41, 42, 43, 44, 45, 46, 47, 48, 49, 50, 52, 53, 54, 55, 77, 78, 79, 80, 81, 82, 83, 84, 85, 86, 87, 88, 89, 90] rfl rfl (by decide +kernel) (by decide +kernel) (by decide +kernel)) hA hS (fun r23 u24 H locs hw hP hD hS => ?_)
  obtain ⟨x25, x26, x27, x28, x29, x30, x31, x32, x33, x34, x35, x36, x37, x38, x39, x40, x41, x42, x43, x44⟩ := u24
  obtain ⟨f45, f46, f47, f48, f49, f50, f51, f52⟩ := hw
  replace hP : va_P g.1 vwCl (wXM g ho ux (upd (upd (upd (upd (upd (upd (upd (upd (upd xi 2 x3) 3 x4) 7 x5) 11 x8) 12 x9) 13 x10) 14 x11) 15 x12) 16 x13) (vp_updL (vp_updL (vp_updL xl 0 x14) 1 x15) 2 x16) (va_up (va_up (va_up (va_up (va_up (va_up (va_up xa 1 x6) 2 x7) 4 x17) 5 x18) 6 x19) 7 x20) 8 x21) fc hm q (upd (upd (upd (upd (upd (upd (upd (upd (upd i 23 x25) 29 x26) 30 x27) 31 x28) 32 x29) 33 x30) 34 x31) 35 x32) 40 x36) (vp_updL (vp_updL (vp_updL L 37 x33) 38 x34) 39 x35) (va_up (va_up (va_up (va_up (va_up (va_up (va_up (va_up a 11 x38) 17 x37) 19 x39) 36 x44) 41 x43) 42 x40) 43 x41) 44 x42) aL ++ cysW g cs) H := hP.part [0, 1, 2, 3, 4, 5, 6, 7, 8, 9, 10, 11, 12, 13, 14, 15, 16, 17, 18, 19, 20, 21, 22, 23, 24, 25, 26, 27, 28, 29, 30, 31, 32, 33, 34, 35, 36, 37, 38, 39, 40, 41, 42, 43, 44, 45, 46, 47, 48, 49, 50, 69, 51, 52, 53, 54, 80, 76, 77, 75, 83, 82, 89, 81, 84, 74, 79, 78, 70, 71, 72, 73, 90, 88, 85, 86, 87, 55, 56, 57, 58, 59, 60, 61, 62, 63, 64, 65, 66, 67, 68] rfl
  replace hD : va_D (fun q : Nat => s.heap.size ≤ q) (wXM g ho ux (upd (upd (upd (upd (upd (upd (upd (upd (upd xi 2 x3) 3 x4) 7 x5) 11 x8) 12 x9) 13 x10) 14 x11) 15 x12) 16 x13) (vp_updL (vp_updL (vp_updL xl 0 x14) 1 x15) 2 x16) (va_up (va_up (va_up (va_up (va_up (va_up (va_up xa 1 x6) 2 x7) 4 x17) 5 x18) 6 x19) 7 x20) 8 x21) fc hm q (upd (upd (upd (upd (upd (upd (upd (upd (upd i 23 x25) 29 x26) 30 x27) 31 x28) 32 x29) 33 x30) 34 x31) 35 x32) 40 x36) (vp_updL (vp_updL (vp_updL L 37 x33) 38 x34) 39 x35) (va_up (va_up (va_up (va_up (va_up (va_up (va_up (va_up a 11 x38) 17 x37) 19 x39) 36 x44) 41 x43) 42 x40) 43 x41) 44 x42) aL ++ cysW g cs) := hD.part [0, 1, 2, 3, 4, 5, 6, 7, 8, 9, 10, 11, 12, 13, 14, 15, 16, 17, 18, 19, 20, 21, 22, 23, 24, 25, 26, 27, 28, 29, 30, 31, 32, 33, 34, 35, 36, 37, 38, 39, 40, 41, 42, 43, 44, 45, 46, 47, 48, 49, 50, 69, 51, 52, 53, 54, 80, 76, 77, 75, 83, 82, 89, 81, 84, 74, 79, 78, 70, 71, 72, 73, 90, 88, 85, 86, 87, 55, 56, 57, 58, 59, 60, 61, 62, 63, 64, 65, 66, 67, 68] (by decide +kernel) rfl
  replace f45 : OB x38 := f45
  replace f46 : PB x42 := f46
  replace f47 : RI x43 := f47
  replace f48 : 0 ≤ (x26).toInt := f48
  replace f49 : 0 ≤ (x25).toInt ∧ (x25).toInt ≤ 5000 := f49
  replace f50 : 0 ≤ (x32).toInt ∧ (x32).toInt ≤ 6 := f50
  replace f51 : x28 = 0 ∨ x28 = 1 := f51
  replace f52 : TKR (i 30) (xs (6 * k + 1)) r23 x27 := f52
  refine lv_pop hx hb dL_law_560 rfl ?_
  refine lv_goto (tgt := 1134) hx hb dL_law_561 (by decide) ?_
  refine lv_iinc (v := nI (6 * (k + 1))) (lv' := [(3, .int (nI (6 * (k + 1)))), (2, .ref hm), (1, .ref ho), (0, .ref b)]) hx hb dL_law_1134 hl (k := 0) rfl (sc_next k) (by decide) rfl (fun ls hl => ?_)
  refine lv_goto (tgt := 18) hx hb dL_law_1137 (by decide) ?_
  exact ih ls H locs (cells) (slots) (upd (upd (upd (upd (upd (upd (upd (upd (upd xi 2 x3) 3 x4) 7 x5) 11 x8) 12 x9) 13 x10) 14 x11) 15 x12) 16 x13) (vp_updL (vp_updL (vp_updL xl 0 x14) 1 x15) 2 x16) (va_up (va_up (va_up (va_up (va_up (va_up (va_up xa 1 x6) 2 x7) 4 x17) 5 x18) 6 x19) 7 x20) 8 x21) fc cs (upd (upd (upd (upd (upd (upd (upd (upd (upd i 23 x25) 29 x26) 30 x27) 31 x28) 32 x29) 33 x30) 34 x31) 35 x32) 40 x36) (vp_updL (vp_updL (vp_updL L 37 x33) 38 x34) 39 x35) (va_up (va_up (va_up (va_up (va_up (va_up (va_up (va_up a 11 x38) 17 x37) 19 x39) 36 x44) 41 x43) 42 x40) 43 x41) 44 x42) aL (by omega) (by omega) ⟨hcs, tb, ln0, ln1, ln2, ln3, h7, mci, f45, fb, f46, f47, h22, h24, f48, h5, f49, h20, hr25, hr27, h50, h51, o47, h52, hr54, f50, f51, z64, o56, l58, sz, b6, nm, kc, kcr, kfl, klk⟩ (lv_sub hl [0, 1, 2, 3] rfl) hP hD hS
set_option maxRecDepth 100000 in
set_option maxHeartbeats 4000000 in
theorem lc_gauge {p : Program} {l : Launch} {e : Env} {s : State} {m : MethodId} {below : List Frame} {meth : Method} {c : Code} {g : Gt} {b N ho hm : Nat} {ux q : Nat → Nat} {xs : Nat → Int32} (C : Ctx g p s m #[Value.ref b] meth c yL_law wsL_law cL_law 4 (some .boolean)) (hX : va_X b N xs s s.heap) (hbl : b < s.heap.size) (hL : N ≤ 3072) {n k : Nat} (hk : 6 * k + 6 ≤ N) (ih : LAt p l e s m below meth c g b ho hm ux q n (k + 1) 18) : LAt p l e s m below meth c g b ho hm ux q (n + 1) k 564 := by
  intro ls H locs cells slots xi xl xa fc cs i L a aL hcl hsl hinv hl hP hD hS
  obtain ⟨hcs, tb, ln0, ln1, ln2, ln3, h7, mci, ob, fb, pb, ri, h22, h24, h29, h5, h23, h20, hr25, hr27, h50, h51, o47, h52, hr54, h35, z31, z64, o56, l58, sz, b6, nm, kc, kcr, kfl, klk⟩ := hinv
  obtain ⟨hx, hb, hr, hts, hown, hlocks, hml, hin, hKN⟩ := id C
  have hK := hKN.1
  have hN := hKN.2
  have F : CallFix p m c cL_law 4 s _ wsL_law yL_law.cls := ⟨hx, hb, hml, hown, hts⟩
  have hA : ∀ q : Nat, s.heap.size ≤ q → (fun q : Nat => s.heap.size ≤ q) q := fun _ h => h
  have hbA : ¬ (fun q : Nat => s.heap.size ≤ q) b := Nat.not_le.mpr hbl
  refine lv_aload_n hx hb dL_law_564 rfl (lv_at hl 2 rfl) ?_
  refine lv_aload_n hx hb dL_law_565 rfl (lv_at hl 3 rfl) ?_
  refine lv_iload_n hx hb dL_law_566 rfl (lv_at hl 0 rfl) ?_
  refine lv_iconst (v := 1) hx hb dL_law_567 (by decide) ?_
  refine lv_iadd hx hb dL_law_568 ?_
  refine va_sld hx hb hX hbl hbA hS (sc_in (j := 1) (by decide) (by decide) hk hL) dL_law_569 ?_
  refine nx_i (v := xs (6 * k + 1)) (sc_ix (j := 1) (by decide) (by decide) hk hL) ?_
  refine kI (rnV (As := [.int (xs (6 * k + 1))]) (rest := []) (Cn := RX11) C (x_gauge l g ho (ux 40) (ux 41) (xi 0) (xi 1) (xi 2) (xi 3) (ux 3) (ux 8) (ux 14) (ux 19) (ux 24) (ux 29) (ux 35) (ux 36) (ux 0) (ux 9) (ux 10) (ux 11) (ux 12) (ux 13) (xi 12) (xi 13) (xi 14) (xi 15) (xi 16) (xl 0) (xl 1) (xl 2) (xs (6 * k + 1))) 1 gL_law_X11_gauge rfl (by decide +kernel) ⟨(Nat.le_of_ble_eq_true rfl), (Nat.le_of_ble_eq_true rfl)⟩ hP (k := 0) (ci := 11) rfl rfl rfl rfl hl.1 rfl (Nat.le_of_ble_eq_true rfl) dL_law_570 ⟨(show cells + 0 ≤ 600000 by omega), (show slots + 0 ≤ 7302250 by omega)⟩) (spM (X := (wXM g ho ux xi xl xa fc hm q i L a aL)) (pl := cysW g cs) [true, false, false, false, false, false, false, false, false, true, false, false, false, false, false, false, false, false, false, false, false, false, false, false, false, false, false, false, false, false, false, false, false, false, false, false, false, false, false, false, false, false, false, false, false, false, false, false, false, false, false, false, false, false, false, false, false, false, false, false, false, false, false, false, false, false, false, false, false, false, false, false, false, false, false, false, false, false, false, false, false, false, false, false, false, false, false, false, false, false, false] hP hD rfl) hA hS (fun r1 u2 H locs hw hP hD hS => ?_)
  have hre := hw
  replace hP : va_P g.1 vwCl (wXM g ho ux xi xl xa fc hm q i L a aL ++ cysW g cs) H := hP
  replace hD : va_D (fun q : Nat => s.heap.size ≤ q) (wXM g ho ux xi xl xa fc hm q i L a aL ++ cysW g cs) := hD
  refine nx_i (v := (r_x_gauge (xi 2) (xi 13) (xi 14) (xi 15) (xi 16) (xs (6 * k + 1)))) hre ?_
  refine lv_pop hx hb dL_law_573 rfl ?_
  refine lv_aload_n hx hb dL_law_574 rfl (lv_at hl 1 rfl) ?_
  refine lv_aload_n hx hb dL_law_575 rfl (lv_at hl 3 rfl) ?_
  refine lv_iload_n hx hb dL_law_576 rfl (lv_at hl 0 rfl) ?_
  refine lv_iconst (v := 1) hx hb dL_law_577 (by decide) ?_
  refine lv_iadd hx hb dL_law_578 ?_
  refine va_sld hx hb hX hbl hbA hS (sc_in (j := 1) (by decide) (by decide) hk hL) dL_law_579 ?_
  refine nx_i (v := xs (6 * k + 1)) (sc_ix (j := 1) (by decide) (by decide) hk hL) ?_
  refine kI (rnV (As := [.int (xs (6 * k + 1))]) (rest := []) (Cn := RX12) C (g_gauge l g hm q i L (xs (6 * k + 1))) 1 gL_law_X12_gauge rfl (by decide +kernel) ⟨(Nat.le_of_ble_eq_true rfl), (Nat.le_of_ble_eq_true rfl)⟩ hP (k := 51) (ci := 12) rfl rfl rfl rfl hl.1 rfl (Nat.le_of_ble_eq_true rfl) dL_law_580 ⟨(show cells + 0 ≤ 600000 by omega), (show slots + 0 ≤ 7302250 by omega)⟩) (spM (X := (wXM g ho ux xi xl xa fc hm q i L a aL)) (pl := cysW g cs) [false, false, false, false, false, false, false, false, false, false, false, false, false, false, false, false, false, false, false, false, false, false, false, false, false, false, false, false, false, false, false, false, false, false, false, false, false, false, false, false, false, false, false, false, false, false, false, false, false, false, false, true, false, false, false, false, false, false, false, false, false, false, false, false, false, false, false, false, false, false, false, false, false, false, false, false, false, false, false, false, false, false, false, false, false, false, false, false, false, false, false] hP hD rfl) hA hS (fun r3 u4 H locs hw hP hD hS => ?_)
  have hre := hw
  replace hP : va_P g.1 vwCl (wXM g ho ux xi xl xa fc hm q i L a aL ++ cysW g cs) H := hP
  replace hD : va_D (fun q : Nat => s.heap.size ≤ q) (wXM g ho ux xi xl xa fc hm q i L a aL ++ cysW g cs) := hD
  refine nx_i (v := (r_g_gauge i (xs (6 * k + 1)))) hre ?_
  refine lv_pop hx hb dL_law_583 rfl ?_
  refine lv_goto (tgt := 1134) hx hb dL_law_584 (by decide) ?_
  refine lv_iinc (v := nI (6 * (k + 1))) (lv' := [(3, .int (nI (6 * (k + 1)))), (2, .ref hm), (1, .ref ho), (0, .ref b)]) hx hb dL_law_1134 hl (k := 0) rfl (sc_next k) (by decide) rfl (fun ls hl => ?_)
  refine lv_goto (tgt := 18) hx hb dL_law_1137 (by decide) ?_
  exact ih ls H locs (cells) (slots) xi xl xa fc cs i L a aL (by omega) (by omega) ⟨hcs, tb, ln0, ln1, ln2, ln3, h7, mci, ob, fb, pb, ri, h22, h24, h29, h5, h23, h20, hr25, hr27, h50, h51, o47, h52, hr54, h35, z31, z64, o56, l58, sz, b6, nm, kc, kcr, kfl, klk⟩ (lv_sub hl [0, 1, 2, 3] rfl) hP hD hS
set_option maxRecDepth 100000 in
set_option maxHeartbeats 4000000 in
theorem lc_mover {p : Program} {l : Launch} {e : Env} {s : State} {m : MethodId} {below : List Frame} {meth : Method} {c : Code} {g : Gt} {b N ho hm : Nat} {ux q : Nat → Nat} {xs : Nat → Int32} (C : Ctx g p s m #[Value.ref b] meth c yL_law wsL_law cL_law 4 (some .boolean)) (hX : va_X b N xs s s.heap) (hbl : b < s.heap.size) (hL : N ≤ 3072) {n k : Nat} (hk : 6 * k + 6 ≤ N) (ih : LAt p l e s m below meth c g b ho hm ux q n (k + 1) 18) : LAt p l e s m below meth c g b ho hm ux q (n + 1) k 587 := by
  intro ls H locs cells slots xi xl xa fc cs i L a aL hcl hsl hinv hl hP hD hS
  obtain ⟨hcs, tb, ln0, ln1, ln2, ln3, h7, mci, ob, fb, pb, ri, h22, h24, h29, h5, h23, h20, hr25, hr27, h50, h51, o47, h52, hr54, h35, z31, z64, o56, l58, sz, b6, nm, kc, kcr, kfl, klk⟩ := hinv
  obtain ⟨hx, hb, hr, hts, hown, hlocks, hml, hin, hKN⟩ := id C
  have hK := hKN.1
  have hN := hKN.2
  have F : CallFix p m c cL_law 4 s _ wsL_law yL_law.cls := ⟨hx, hb, hml, hown, hts⟩
  have hA : ∀ q : Nat, s.heap.size ≤ q → (fun q : Nat => s.heap.size ≤ q) q := fun _ h => h
  have hbA : ¬ (fun q : Nat => s.heap.size ≤ q) b := Nat.not_le.mpr hbl
  refine lv_aload_n hx hb dL_law_587 rfl (lv_at hl 2 rfl) ?_
  refine lv_aload_n hx hb dL_law_588 rfl (lv_at hl 3 rfl) ?_
  refine lv_iload_n hx hb dL_law_589 rfl (lv_at hl 0 rfl) ?_
  refine lv_iconst (v := 1) hx hb dL_law_590 (by decide) ?_
  refine lv_iadd hx hb dL_law_591 ?_
  refine va_sld hx hb hX hbl hbA hS (sc_in (j := 1) (by decide) (by decide) hk hL) dL_law_592 ?_
  refine nx_i (v := xs (6 * k + 1)) (sc_ix (j := 1) (by decide) (by decide) hk hL) ?_
  refine kI (rnV (As := [.int (xs (6 * k + 1))]) (rest := []) (Cn := RX11) C (x_mover l g ho (ux 40) (ux 41) (xi 0) (xi 1) (xi 2) (xi 3) (ux 3) (ux 8) (ux 14) (ux 19) (ux 24) (ux 29) (ux 35) (ux 36) (ux 0) (ux 9) (ux 10) (ux 11) (ux 12) (ux 13) (xi 12) (xi 13) (xi 14) (xi 15) (xi 16) (xl 0) (xl 1) (xl 2) (xa 8) (xs (6 * k + 1))) 1 gL_law_X11_mover rfl (by decide +kernel) ⟨(Nat.le_of_ble_eq_true rfl), (Nat.le_of_ble_eq_true rfl)⟩ hP (k := 0) (ci := 11) rfl rfl rfl rfl hl.1 rfl (Nat.le_of_ble_eq_true rfl) dL_law_593 ⟨(show cells + 0 ≤ 600000 by omega), (show slots + 0 ≤ 7302250 by omega)⟩) (spM (X := (wXM g ho ux xi xl xa fc hm q i L a aL)) (pl := cysW g cs) [true, false, false, false, false, false, false, false, false, true, false, false, false, false, true, false, false, false, false, false, false, false, false, false, false, false, false, false, false, false, false, false, false, false, false, false, false, false, false, false, false, false, false, false, false, false, false, false, false, false, false, false, false, false, false, false, false, false, false, false, false, false, false, false, false, false, false, false, false, false, false, false, false, false, false, false, false, false, false, false, false, false, false, false, false, false, false, false, false, false, false] hP hD rfl) hA hS (fun r1 u2 H locs hw hP hD hS => ?_)
  replace hP : va_P g.1 vwCl (wXM g ho ux xi xl xa fc hm q i L a aL ++ cysW g cs) H := hP
  replace hD : va_D (fun q : Nat => s.heap.size ≤ q) (wXM g ho ux xi xl xa fc hm q i L a aL ++ cysW g cs) := hD
  refine lv_pop hx hb dL_law_596 rfl ?_
  refine lv_aload_n hx hb dL_law_597 rfl (lv_at hl 1 rfl) ?_
  refine lv_aload_n hx hb dL_law_598 rfl (lv_at hl 3 rfl) ?_
  refine lv_iload_n hx hb dL_law_599 rfl (lv_at hl 0 rfl) ?_
  refine lv_iconst (v := 1) hx hb dL_law_600 (by decide) ?_
  refine lv_iadd hx hb dL_law_601 ?_
  refine va_sld hx hb hX hbl hbA hS (sc_in (j := 1) (by decide) (by decide) hk hL) dL_law_602 ?_
  refine nx_i (v := xs (6 * k + 1)) (sc_ix (j := 1) (by decide) (by decide) hk hL) ?_
  refine kI (rnV (As := [.int (xs (6 * k + 1))]) (rest := []) (Cn := RX12) C (g_mover l g hm q i L (a 36) (xs (6 * k + 1)) h35) 1 gL_law_X12_mover rfl (by decide +kernel) ⟨(Nat.le_of_ble_eq_true rfl), (Nat.le_of_ble_eq_true rfl)⟩ hP (k := 51) (ci := 12) rfl rfl rfl rfl hl.1 rfl (Nat.le_of_ble_eq_true rfl) dL_law_603 ⟨(show cells + 0 ≤ 600000 by omega), (show slots + 0 ≤ 7302250 by omega)⟩) (spM (X := (wXM g ho ux xi xl xa fc hm q i L a aL)) (pl := cysW g cs) [false, false, false, false, false, false, false, false, false, false, false, false, false, false, false, false, false, false, false, false, false, false, false, false, false, false, false, false, false, false, false, false, false, false, false, false, false, false, false, false, false, false, false, false, false, false, false, false, false, false, false, true, false, false, false, false, false, false, false, false, false, false, false, false, false, false, false, false, false, false, false, false, true, false, false, false, false, false, false, false, false, false, false, false, false, false, false, false, false, false, false] hP hD rfl) hA hS (fun r3 u4 H locs hw hP hD hS => ?_)
  have hre := hw
  replace hP : va_P g.1 vwCl (wXM g ho ux xi xl xa fc hm q i L a aL ++ cysW g cs) H := hP
  replace hD : va_D (fun q : Nat => s.heap.size ≤ q) (wXM g ho ux xi xl xa fc hm q i L a aL ++ cysW g cs) := hD
  refine nx_i (v := (r_g_mover i (a 36) (xs (6 * k + 1)))) hre ?_
  refine lv_pop hx hb dL_law_606 rfl ?_
  refine lv_goto (tgt := 1134) hx hb dL_law_607 (by decide) ?_
  refine lv_iinc (v := nI (6 * (k + 1))) (lv' := [(3, .int (nI (6 * (k + 1)))), (2, .ref hm), (1, .ref ho), (0, .ref b)]) hx hb dL_law_1134 hl (k := 0) rfl (sc_next k) (by decide) rfl (fun ls hl => ?_)
  refine lv_goto (tgt := 18) hx hb dL_law_1137 (by decide) ?_
  exact ih ls H locs (cells) (slots) xi xl xa fc cs i L a aL (by omega) (by omega) ⟨hcs, tb, ln0, ln1, ln2, ln3, h7, mci, ob, fb, pb, ri, h22, h24, h29, h5, h23, h20, hr25, hr27, h50, h51, o47, h52, hr54, h35, z31, z64, o56, l58, sz, b6, nm, kc, kcr, kfl, klk⟩ (lv_sub hl [0, 1, 2, 3] rfl) hP hD hS
set_option maxRecDepth 100000 in
set_option maxHeartbeats 4000000 in
theorem lc_sum {p : Program} {l : Launch} {e : Env} {s : State} {m : MethodId} {below : List Frame} {meth : Method} {c : Code} {g : Gt} {b N ho hm : Nat} {ux q : Nat → Nat} {xs : Nat → Int32} (C : Ctx g p s m #[Value.ref b] meth c yL_law wsL_law cL_law 4 (some .boolean)) (hX : va_X b N xs s s.heap) (hbl : b < s.heap.size) (hL : N ≤ 3072) {n k : Nat} (hk : 6 * k + 6 ≤ N) (ih : LAt p l e s m below meth c g b ho hm ux q n (k + 1) 18) : LAt p l e s m below meth c g b ho hm ux q (n + 1) k 610 := by
  intro ls H locs cells slots xi xl xa fc cs i L a aL hcl hsl hinv hl hP hD hS
  obtain ⟨hcs, tb, ln0, ln1, ln2, ln3, h7, mci, ob, fb, pb, ri, h22, h24, h29, h5, h23, h20, hr25, hr27, h50, h51, o47, h52, hr54, h35, z31, z64, o56, l58, sz, b6, nm, kc, kcr, kfl, klk⟩ := hinv
  obtain ⟨hx, hb, hr, hts, hown, hlocks, hml, hin, hKN⟩ := id C
  have hK := hKN.1
  have hN := hKN.2
  have F : CallFix p m c cL_law 4 s _ wsL_law yL_law.cls := ⟨hx, hb, hml, hown, hts⟩
  have hA : ∀ q : Nat, s.heap.size ≤ q → (fun q : Nat => s.heap.size ≤ q) q := fun _ h => h
  have hbA : ¬ (fun q : Nat => s.heap.size ≤ q) b := Nat.not_le.mpr hbl
  refine lv_aload_n hx hb dL_law_610 rfl (lv_at hl 2 rfl) ?_
  refine lv_aload_n hx hb dL_law_611 rfl (lv_at hl 3 rfl) ?_
  refine lv_iload_n hx hb dL_law_612 rfl (lv_at hl 0 rfl) ?_
  refine lv_iconst (v := 1) hx hb dL_law_613 (by decide) ?_
  refine lv_iadd hx hb dL_law_614 ?_
  refine va_sld hx hb hX hbl hbA hS (sc_in (j := 1) (by decide) (by decide) hk hL) dL_law_615 ?_
  refine nx_i (v := xs (6 * k + 1)) (sc_ix (j := 1) (by decide) (by decide) hk hL) ?_
  refine kL (rnV (As := [.int (xs (6 * k + 1))]) (rest := []) (Cn := RX11) C (x_sum l g ho (ux 40) (ux 41) (xi 0) (xi 1) (xi 2) (xi 3) (ux 3) (ux 8) (ux 14) (ux 19) (ux 24) (ux 29) (ux 35) (ux 36) (ux 0) (ux 4) (ux 5) (ux 6) (ux 7) (xi 7) (xi 8) (xi 9) (xi 10) (xi 11) (ux 9) (ux 10) (ux 11) (ux 12) (ux 13) (xi 12) (xi 13) (xi 14) (xi 15) (xi 16) (xl 0) (xl 1) (xl 2) (xs (6 * k + 1))) 1 gL_law_X11_sum rfl (by decide +kernel) ⟨(Nat.le_of_ble_eq_true rfl), (Nat.le_of_ble_eq_true rfl)⟩ hP (k := 0) (ci := 11) rfl rfl rfl rfl hl.1 rfl (Nat.le_of_ble_eq_true rfl) dL_law_616 ⟨(show cells + 0 ≤ 600000 by omega), (show slots + 0 ≤ 7302250 by omega)⟩) (spB (X := (wXM g ho ux xi xl xa fc hm q i L a aL)) (pl := cysW g cs) (wr := [((ux 0), .inr (4, [.int (xi 4), .int (xi 5), .ref (ux 1), .int (xi 6), .ref (ux 2)])), ((ux 1), .inl (g.2 3, 6, .inr (.inr (.inr (.inr fc))))), ((ux 2), .inl (g.2 0, 6, .inl (xa 0))), ((ux 4), .inl (g.2 0, 6, .inl (xa 1))), ((ux 5), .inl (g.2 0, 6, .inl (xa 2))), ((ux 6), .inl (g.2 0, 6, .inl (xa 3))), ((ux 9), .inl (g.2 0, 6, .inl (xa 4))), ((ux 10), .inl (g.2 0, 6, .inl (xa 5))), ((ux 11), .inl (g.2 0, 6, .inl (xa 6))), ((ux 12), .inl (g.2 0, 6, .inl (xa 7))), ((ux 13), .inl (g.2 0, 6, .inl (xa 8))), ((ux 14), .inr (3, [.ref (ux 15), .ref (ux 16), .ref (ux 17), .ref (ux 18), .int (xi 17)])), ((ux 15), .inl (g.2 0, 30, .inl (xa 9))), ((ux 16), .inl (g.2 0, 30, .inl (xa 10))), ((ux 17), .inl (g.2 0, 30, .inl (xa 11))), ((ux 18), .inl (g.2 0, 30, .inl (xa 12))), ((ux 19), .inr (7, [.ref (ux 20), .ref (ux 21), .ref (ux 22), .ref (ux 23), .int (xi 18)])), ((ux 20), .inl (g.2 0, 6, .inl (xa 13))), ((ux 21), .inl (g.2 0, 6, .inl (xa 14))), ((ux 22), .inl (g.2 0, 6, .inl (xa 15))), ((ux 23), .inr (8, [.int (xi 19), .int (xi 20), .int (xi 21), .int (xi 22)])), ((ux 24), .inr (7, [.ref (ux 25), .ref (ux 26), .ref (ux 27), .ref (ux 28), .int (xi 23)])), ((ux 25), .inl (g.2 0, 6, .inl (xa 16))), ((ux 26), .inl (g.2 0, 6, .inl (xa 17))), ((ux 27), .inl (g.2 0, 6, .inl (xa 18))), ((ux 28), .inr (8, [.int (xi 24), .int (xi 25), .int (xi 26), .int (xi 27)])), ((ux 29), .inr (1, [.ref (ux 30), .ref (ux 31), .int (xi 28), .ref (ux 32), .ref (ux 33), .ref (ux 34), .int (xi 29), .int (xi 30), .int (xi 31), .int (xi 32), .long (xl 3), .long (xl 4), .long (xl 5)])), ((ux 30), .inl (g.2 0, 6, .inl (xa 19))), ((ux 31), .inl (g.2 0, 6, .inl (xa 20))), ((ux 32), .inl (g.2 0, 6, .inl (xa 21))), ((ux 33), .inl (g.2 0, 6, .inl (xa 22))), ((ux 34), .inl (g.2 0, 6, .inl (xa 23))), ((ux 35), .inl (g.2 0, 6, .inl (xa 24))), ((ux 36), .inr (5, [.ref (ux 37), .ref (ux 38), .ref (ux 39), .int (xi 33)])), ((ux 37), .inl (g.2 0, 20, .inl (xa 25))), ((ux 38), .inl (g.2 0, 20, .inl (xa 26))), ((ux 39), .inl (g.2 0, 20, .inl (xa 27))), ((ux 40), .inl (g.2 4, 4, .inr (.inr (.inr (.inr (shF (ux 42) (ux 44) (ux 46) (ux 48))))))), ((ux 41), .inr (9, [.int (xi 34)])), ((ux 42), .inr (6, [.ref (ux 43), .int (xi 35), .int (xi 36), .int (xi 37)])), ((ux 43), .inl (g.2 0, 20, .inl (xa 28))), ((ux 44), .inr (6, [.ref (ux 45), .int (xi 38), .int (xi 39), .int (xi 40)])), ((ux 45), .inl (g.2 0, 20, .inl (xa 29))), ((ux 46), .inr (6, [.ref (ux 47), .int (xi 41), .int (xi 42), .int (xi 43)])), ((ux 47), .inl (g.2 0, 20, .inl (xa 30))), ((ux 48), .inr (6, [.ref (ux 49), .int (xi 44), .int (xi 45), .int (xi 46)])), ((ux 49), .inl (g.2 0, 20, .inl (xa 31))), (hm, .inr (12, mO q i L)), ((q 1), .inl (g.2 0, 4, .inl (a 1))), ((q 2), .inl (g.2 0, 4, .inl (a 2))), ((q 3), .inl (g.2 0, 80, .inl (a 3))), ((q 4), .inl (g.2 0, 20, .inl (a 4))), ((q 8), .inl (g.2 0, 6, .inl (a 8))), ((q 9), .inl (g.2 0, 6, .inl (a 9))), ((q 10), .inl (g.2 0, 6, .inl (a 10))), ((q 11), .inl (g.2 0, 6, .inl (a 11))), ((q 12), .inl (g.2 0, 6, .inl (a 12))), ((q 13), .inl (g.2 0, 60, .inl (a 13))), ((q 14), .inl (g.2 0, 6, .inl (a 14))), ((q 15), .inl (g.2 0, 6, .inl (a 15))), ((q 16), .inl (g.2 0, 6, .inl (a 16))), ((q 17), .inl (g.2 0, 6, .inl (a 17))), ((q 18), .inl (g.2 1, 6, .inl (a 18))), ((q 19), .inl (g.2 0, 6, .inl (a 19))), ((q 25), .inl (g.2 0, 30, .inl (a 25))), ((q 26), .inl (g.2 0, 30, .inl (a 26))), ((q 27), .inl (g.2 0, 30, .inl (a 27))), ((q 28), .inl (g.2 0, 30, .inl (a 28))), ((q 36), .inl (g.2 0, 6, .inl (a 36))), ((q 41), .inl (g.2 0, 6, .inl (a 41))), ((q 42), .inl (g.2 0, 6, .inl (a 42))), ((q 43), .inl (g.2 0, 6, .inl (a 43))), ((q 44), .inl (g.2 0, 6, .inl (a 44))), ((q 47), .inl (g.2 0, 6, .inl (a 47))), ((q 48), .inl (g.2 0, 6, .inl (a 48))), ((q 49), .inl (g.2 1, 6, .inl (a 49))), ((q 53), .inl (g.2 0, 20, .inl (a 53))), ((q 54), .inl (g.2 0, 20, .inl (a 54))), ((q 55), .inl (g.2 0, 20, .inl (a 55))), ((q 56), .inl (g.2 0, 6, .inl (a 56))), ((q 57), .inl (g.2 0, 6, .inl (a 57))), ((q 58), .inl (g.2 0, 6, .inl (a 58))), ((q 59), .inl (g.2 0, 6, .inl (a 59))), ((q 60), .inl (g.2 0, 6, .inl (a 60))), ((q 61), .inl (g.2 1, 6, .inl (a 61))), ((q 62), .inl (g.2 0, 6, .inl (a 62))), ((q 63), .inl (g.2 2, 3, .inr (.inl aL)))]) hP hD [0, 9, 4, 8] [1, 2, 3, 5, 6, 7, 10, 11, 12, 13, 14, 15, 16, 17, 18, 19, 20, 21, 22, 23, 24, 25, 26, 27, 28, 29, 30, 31, 32, 33, 34, 35, 36, 37, 38, 39, 40, 41, 42, 43, 44, 45, 46, 47, 48, 49, 50, 51, 52, 53, 54, 55, 56, 57, 58, 59, 60, 61, 62, 63, 64, 65, 66, 67, 68, 69, 70, 71, 72, 73, 74, 75, 76, 77, 78, 79, 80, 81, 82, 83, 84, 85, 86, 87, 88, 89, 90] rfl rfl (by decide +kernel) (by decide +kernel) (by decide +kernel)) hA hS (fun r1 u2 H locs hw hP hD hS => ?_)
  replace hP : va_P g.1 vwCl (wXM g ho ux xi xl xa fc hm q i L a aL ++ cysW g cs) H := hP.part [87, 0, 1, 2, 89, 3, 4, 5, 90, 88, 6, 7, 8, 9, 10, 11, 12, 13, 14, 15, 16, 17, 18, 19, 20, 21, 22, 23, 24, 25, 26, 27, 28, 29, 30, 31, 32, 33, 34, 35, 36, 37, 38, 39, 40, 41, 42, 43, 44, 45, 46, 47, 48, 49, 50, 51, 52, 53, 54, 55, 56, 57, 58, 59, 60, 61, 62, 63, 64, 65, 66, 67, 68, 69, 70, 71, 72, 73, 74, 75, 76, 77, 78, 79, 80, 81, 82, 83, 84, 85, 86] rfl
  replace hD : va_D (fun q : Nat => s.heap.size ≤ q) (wXM g ho ux xi xl xa fc hm q i L a aL ++ cysW g cs) := hD.part [87, 0, 1, 2, 89, 3, 4, 5, 90, 88, 6, 7, 8, 9, 10, 11, 12, 13, 14, 15, 16, 17, 18, 19, 20, 21, 22, 23, 24, 25, 26, 27, 28, 29, 30, 31, 32, 33, 34, 35, 36, 37, 38, 39, 40, 41, 42, 43, 44, 45, 46, 47, 48, 49, 50, 51, 52, 53, 54, 55, 56, 57, 58, 59, 60, 61, 62, 63, 64, 65, 66, 67, 68, 69, 70, 71, 72, 73, 74, 75, 76, 77, 78, 79, 80, 81, 82, 83, 84, 85, 86] (by decide +kernel) rfl
  refine lv_pop2_2 hx hb dL_law_619 rfl ?_
  refine lv_aload_n hx hb dL_law_620 rfl (lv_at hl 1 rfl) ?_
  refine lv_aload_n hx hb dL_law_621 rfl (lv_at hl 3 rfl) ?_
  refine lv_iload_n hx hb dL_law_622 rfl (lv_at hl 0 rfl) ?_
  refine lv_iconst (v := 1) hx hb dL_law_623 (by decide) ?_
  refine lv_iadd hx hb dL_law_624 ?_
  refine va_sld hx hb hX hbl hbA hS (sc_in (j := 1) (by decide) (by decide) hk hL) dL_law_625 ?_
  refine nx_i (v := xs (6 * k + 1)) (sc_ix (j := 1) (by decide) (by decide) hk hL) ?_
  refine kL (rnV (As := [.int (xs (6 * k + 1))]) (rest := []) (Cn := RX12) C (g_sum l g hm q i L (xs (6 * k + 1)) h22) 1 gL_law_X12_sum rfl (by decide +kernel) ⟨(Nat.le_of_ble_eq_true rfl), (Nat.le_of_ble_eq_true rfl)⟩ hP (k := 51) (ci := 12) rfl rfl rfl rfl hl.1 rfl (Nat.le_of_ble_eq_true rfl) dL_law_626 ⟨(show cells + 0 ≤ 600000 by omega), (show slots + 0 ≤ 7302250 by omega)⟩) (spM (X := (wXM g ho ux xi xl xa fc hm q i L a aL)) (pl := cysW g cs) [false, false, false, false, false, false, false, false, false, false, false, false, false, false, false, false, false, false, false, false, false, false, false, false, false, false, false, false, false, false, false, false, false, false, false, false, false, false, false, false, false, false, false, false, false, false, false, false, false, false, false, true, false, false, false, false, false, false, false, false, false, false, false, false, false, false, false, false, false, false, false, false, false, false, false, false, false, false, false, false, false, false, false, false, false, false, false, false, false, false, false] hP hD rfl) hA hS (fun r3 u4 H locs hw hP hD hS => ?_)
  have hre := hw
  replace hP : va_P g.1 vwCl (wXM g ho ux xi xl xa fc hm q i L a aL ++ cysW g cs) H := hP
  replace hD : va_D (fun q : Nat => s.heap.size ≤ q) (wXM g ho ux xi xl xa fc hm q i L a aL ++ cysW g cs) := hD
  refine nx_l (v := (r_g_sum i L (xs (6 * k + 1)))) hre ?_
  refine lv_pop2_2 hx hb dL_law_629 rfl ?_
  refine lv_goto (tgt := 1134) hx hb dL_law_630 (by decide) ?_
  refine lv_iinc (v := nI (6 * (k + 1))) (lv' := [(3, .int (nI (6 * (k + 1)))), (2, .ref hm), (1, .ref ho), (0, .ref b)]) hx hb dL_law_1134 hl (k := 0) rfl (sc_next k) (by decide) rfl (fun ls hl => ?_)
  refine lv_goto (tgt := 18) hx hb dL_law_1137 (by decide) ?_
  exact ih ls H locs (cells) (slots) xi xl xa fc cs i L a aL (by omega) (by omega) ⟨hcs, tb, ln0, ln1, ln2, ln3, h7, mci, ob, fb, pb, ri, h22, h24, h29, h5, h23, h20, hr25, hr27, h50, h51, o47, h52, hr54, h35, z31, z64, o56, l58, sz, b6, nm, kc, kcr, kfl, klk⟩ (lv_sub hl [0, 1, 2, 3] rfl) hP hD hS
set_option maxRecDepth 100000 in
set_option maxHeartbeats 4000000 in
theorem lc_order {p : Program} {l : Launch} {e : Env} {s : State} {m : MethodId} {below : List Frame} {meth : Method} {c : Code} {g : Gt} {b N ho hm : Nat} {ux q : Nat → Nat} {xs : Nat → Int32} (C : Ctx g p s m #[Value.ref b] meth c yL_law wsL_law cL_law 4 (some .boolean)) (hX : va_X b N xs s s.heap) (hbl : b < s.heap.size) (hL : N ≤ 3072) {n k : Nat} (hk : 6 * k + 6 ≤ N) (ih : LAt p l e s m below meth c g b ho hm ux q n (k + 1) 18) : LAt p l e s m below meth c g b ho hm ux q (n + 1) k 633 := by
  intro ls H locs cells slots xi xl xa fc cs i L a aL hcl hsl hinv hl hP hD hS
  obtain ⟨hcs, tb, ln0, ln1, ln2, ln3, h7, mci, ob, fb, pb, ri, h22, h24, h29, h5, h23, h20, hr25, hr27, h50, h51, o47, h52, hr54, h35, z31, z64, o56, l58, sz, b6, nm, kc, kcr, kfl, klk⟩ := hinv
  obtain ⟨hx, hb, hr, hts, hown, hlocks, hml, hin, hKN⟩ := id C
  have hK := hKN.1
  have hN := hKN.2
  have F : CallFix p m c cL_law 4 s _ wsL_law yL_law.cls := ⟨hx, hb, hml, hown, hts⟩
  have hA : ∀ q : Nat, s.heap.size ≤ q → (fun q : Nat => s.heap.size ≤ q) q := fun _ h => h
  have hbA : ¬ (fun q : Nat => s.heap.size ≤ q) b := Nat.not_le.mpr hbl
  refine lv_aload_n hx hb dL_law_633 rfl (lv_at hl 2 rfl) ?_
  refine lv_aload_n hx hb dL_law_634 rfl (lv_at hl 3 rfl) ?_
  refine lv_iload_n hx hb dL_law_635 rfl (lv_at hl 0 rfl) ?_
  refine lv_iconst (v := 1) hx hb dL_law_636 (by decide) ?_
  refine lv_iadd hx hb dL_law_637 ?_
  refine va_sld hx hb hX hbl hbA hS (sc_in (j := 1) (by decide) (by decide) hk hL) dL_law_638 ?_
  refine nx_i (v := xs (6 * k + 1)) (sc_ix (j := 1) (by decide) (by decide) hk hL) ?_
  refine lv_aload_n hx hb dL_law_639 rfl (lv_at hl 3 rfl) ?_
  refine lv_iload_n hx hb dL_law_640 rfl (lv_at hl 0 rfl) ?_
  refine lv_iconst (v := 2) hx hb dL_law_641 (by decide) ?_
  refine lv_iadd hx hb dL_law_642 ?_
  refine va_sld hx hb hX hbl hbA hS (sc_in (j := 2) (by decide) (by decide) hk hL) dL_law_643 ?_
  refine nx_i (v := xs (6 * k + 2)) (sc_ix (j := 2) (by decide) (by decide) hk hL) ?_
  refine lv_aload_n hx hb dL_law_644 rfl (lv_at hl 3 rfl) ?_
  refine lv_iload_n hx hb dL_law_645 rfl (lv_at hl 0 rfl) ?_
  refine lv_iconst (v := 3) hx hb dL_law_646 (by decide) ?_
  refine lv_iadd hx hb dL_law_647 ?_
  refine va_sld hx hb hX hbl hbA hS (sc_in (j := 3) (by decide) (by decide) hk hL) dL_law_648 ?_
  refine nx_i (v := xs (6 * k + 3)) (sc_ix (j := 3) (by decide) (by decide) hk hL) ?_
  refine lv_aload_n hx hb dL_law_649 rfl (lv_at hl 3 rfl) ?_
  refine lv_iload_n hx hb dL_law_650 rfl (lv_at hl 0 rfl) ?_
  refine lv_iconst (v := 4) hx hb dL_law_651 (by decide) ?_
  refine lv_iadd hx hb dL_law_652 ?_
  refine va_sld hx hb hX hbl hbA hS (sc_in (j := 4) (by decide) (by decide) hk hL) dL_law_653 ?_
  refine nx_i (v := xs (6 * k + 4)) (sc_ix (j := 4) (by decide) (by decide) hk hL) ?_
  refine kI (rnV (As := [.int (xs (6 * k + 1)), .int (xs (6 * k + 2)), .int (xs (6 * k + 3)), .int (xs (6 * k + 4))]) (rest := []) (Cn := RX11) C (x_order l g ho (ux 40) (ux 41) (xi 0) (xi 1) (xi 2) (xi 3) (ux 3) (ux 8) (ux 14) (ux 19) (ux 24) (ux 29) (ux 35) (ux 36) (ux 0) (xi 4) (xi 5) (ux 1) (xi 6) (ux 2) fc (ux 15) (ux 16) (ux 17) (ux 18) (xi 17) (xa 9) (xa 10) (xa 11) (xa 12) (xs (6 * k + 1)) (xs (6 * k + 2)) (xs (6 * k + 3)) (xs (6 * k + 4)) (CS_fcs hcs)) 4 gL_law_X11_order rfl (by decide +kernel) ⟨(Nat.le_of_ble_eq_true rfl), (Nat.le_of_ble_eq_true rfl)⟩ hP (k := 0) (ci := 11) rfl rfl rfl rfl hl.1 rfl (Nat.le_of_ble_eq_true rfl) dL_law_654 ⟨(show cells + 0 ≤ 600000 by omega), (show slots + 0 ≤ 7302250 by omega)⟩) (spM (X := (wXM g ho ux xi xl xa fc hm q i L a aL)) (pl := cysW g cs) [true, true, true, false, false, false, false, false, false, false, false, false, false, false, false, true, true, true, true, true, false, false, false, false, false, false, false, false, false, false, false, false, false, false, false, false, false, false, false, false, false, false, false, false, false, false, false, false, false, false, false, false, false, false, false, false, false, false, false, false, false, false, false, false, false, false, false, false, false, false, false, false, false, false, false, false, false, false, false, false, false, false, false, false, false, false, false, false, false, false, false] hP hD rfl) hA hS (fun r1 u2 H locs hw hP hD hS => ?_)
  obtain ⟨x3, x4, x5, x6, x7⟩ := u2
  obtain ⟨f8, f9⟩ := hw
  replace hP : va_P g.1 vwCl (wXM g ho ux (upd xi 17 x3) xl (va_up (va_up (va_up (va_up xa 9 x4) 10 x5) 11 x6) 12 x7) fc hm q i L a aL ++ cysW g cs) H := hP
  replace hD : va_D (fun q : Nat => s.heap.size ≤ q) (wXM g ho ux (upd xi 17 x3) xl (va_up (va_up (va_up (va_up xa 9 x4) 10 x5) 11 x6) 12 x7) fc hm q i L a aL ++ cysW g cs) := hD
  replace f8 : r1 = so_r (xi 6) (xi 17) (xs (6 * k + 1)) (xs (6 * k + 2)) (xs (6 * k + 3)) (xs (6 * k + 4)) := f8
  replace f9 : x3 = so_n (xi 6) (xi 17) (xs (6 * k + 1)) (xs (6 * k + 2)) (xs (6 * k + 3)) (xs (6 * k + 4)) := f9
  refine lv_pop hx hb dL_law_657 rfl ?_
  refine lv_aload_n hx hb dL_law_658 rfl (lv_at hl 1 rfl) ?_
  refine lv_aload_n hx hb dL_law_659 rfl (lv_at hl 3 rfl) ?_
  refine lv_iload_n hx hb dL_law_660 rfl (lv_at hl 0 rfl) ?_
  refine lv_iconst (v := 1) hx hb dL_law_661 (by decide) ?_
  refine lv_iadd hx hb dL_law_662 ?_
  refine va_sld hx hb hX hbl hbA hS (sc_in (j := 1) (by decide) (by decide) hk hL) dL_law_663 ?_
  refine nx_i (v := xs (6 * k + 1)) (sc_ix (j := 1) (by decide) (by decide) hk hL) ?_
  refine lv_aload_n hx hb dL_law_664 rfl (lv_at hl 3 rfl) ?_
  refine lv_iload_n hx hb dL_law_665 rfl (lv_at hl 0 rfl) ?_
  refine lv_iconst (v := 2) hx hb dL_law_666 (by decide) ?_
  refine lv_iadd hx hb dL_law_667 ?_
  refine va_sld hx hb hX hbl hbA hS (sc_in (j := 2) (by decide) (by decide) hk hL) dL_law_668 ?_
  refine nx_i (v := xs (6 * k + 2)) (sc_ix (j := 2) (by decide) (by decide) hk hL) ?_
  refine lv_aload_n hx hb dL_law_669 rfl (lv_at hl 3 rfl) ?_
  refine lv_iload_n hx hb dL_law_670 rfl (lv_at hl 0 rfl) ?_
  refine lv_iconst (v := 3) hx hb dL_law_671 (by decide) ?_
  refine lv_iadd hx hb dL_law_672 ?_
  refine va_sld hx hb hX hbl hbA hS (sc_in (j := 3) (by decide) (by decide) hk hL) dL_law_673 ?_
  refine nx_i (v := xs (6 * k + 3)) (sc_ix (j := 3) (by decide) (by decide) hk hL) ?_
  refine lv_aload_n hx hb dL_law_674 rfl (lv_at hl 3 rfl) ?_
  refine lv_iload_n hx hb dL_law_675 rfl (lv_at hl 0 rfl) ?_
  refine lv_iconst (v := 4) hx hb dL_law_676 (by decide) ?_
  refine lv_iadd hx hb dL_law_677 ?_
  refine va_sld hx hb hX hbl hbA hS (sc_in (j := 4) (by decide) (by decide) hk hL) dL_law_678 ?_
  refine nx_i (v := xs (6 * k + 4)) (sc_ix (j := 4) (by decide) (by decide) hk hL) ?_
  refine kI (rnV (As := [.int (xs (6 * k + 1)), .int (xs (6 * k + 2)), .int (xs (6 * k + 3)), .int (xs (6 * k + 4))]) (rest := []) (Cn := RX12) C (w_order l g hm q i L (a 25) (a 26) (a 27) (a 28) (xs (6 * k + 1)) (xs (6 * k + 2)) (xs (6 * k + 3)) (xs (6 * k + 4)) h7 h24 hr25 hr27) 4 gL_law_X12_order rfl (by decide +kernel) ⟨(Nat.le_of_ble_eq_true rfl), (Nat.le_of_ble_eq_true rfl)⟩ hP (k := 51) (ci := 12) rfl rfl rfl rfl hl.1 rfl (Nat.le_of_ble_eq_true rfl) dL_law_679 ⟨(show cells + 0 ≤ 600000 by omega), (show slots + 0 ≤ 7302250 by omega)⟩) (spM (X := (wXM g ho ux (upd xi 17 x3) xl (va_up (va_up (va_up (va_up xa 9 x4) 10 x5) 11 x6) 12 x7) fc hm q i L a aL)) (pl := cysW g cs) [false, false, false, false, false, false, false, false, false, false, false, false, false, false, false, false, false, false, false, false, false, false, false, false, false, false, false, false, false, false, false, false, false, false, false, false, false, false, false, false, false, false, false, false, false, false, false, false, false, false, false, true, false, false, false, false, false, false, false, false, false, false, false, false, false, false, false, false, true, true, true, true, false, false, false, false, false, false, false, false, false, false, false, false, false, false, false, false, false, false, false] hP hD rfl) hA hS (fun r10 u11 H locs hw hP hD hS => ?_)
  obtain ⟨x12, x13, x14, x15, x16⟩ := u11
  obtain ⟨f17, f18, f19, f20, f21⟩ := hw
  replace hP : va_P g.1 vwCl (wXM g ho ux (upd xi 17 x3) xl (va_up (va_up (va_up (va_up xa 9 x4) 10 x5) 11 x6) 12 x7) fc hm q (upd i 24 x12) L (va_up (va_up (va_up (va_up a 25 x13) 26 x14) 27 x15) 28 x16) aL ++ cysW g cs) H := hP
  replace hD : va_D (fun q : Nat => s.heap.size ≤ q) (wXM g ho ux (upd xi 17 x3) xl (va_up (va_up (va_up (va_up xa 9 x4) 10 x5) 11 x6) 12 x7) fc hm q (upd i 24 x12) L (va_up (va_up (va_up (va_up a 25 x13) 26 x14) 27 x15) 28 x16) aL ++ cysW g cs) := hD
  replace f17 : r10 = so_r (i 7) (i 24) (xs (6 * k + 1)) (xs (6 * k + 2)) (xs (6 * k + 3)) (xs (6 * k + 4)) := f17
  replace f18 : x12 = so_n (i 7) (i 24) (xs (6 * k + 1)) (xs (6 * k + 2)) (xs (6 * k + 3)) (xs (6 * k + 4)) := f18
  replace f19 : 0 ≤ (x12).toInt ∧ (x12).toInt ≤ 30 := f19
  replace f20 : RI x13 := f20
  replace f21 : RI x15 := f21
  refine lv_pop hx hb dL_law_682 rfl ?_
  refine lv_goto (tgt := 1134) hx hb dL_law_683 (by decide) ?_
  refine lv_iinc (v := nI (6 * (k + 1))) (lv' := [(3, .int (nI (6 * (k + 1)))), (2, .ref hm), (1, .ref ho), (0, .ref b)]) hx hb dL_law_1134 hl (k := 0) rfl (sc_next k) (by decide) rfl (fun ls hl => ?_)
  refine lv_goto (tgt := 18) hx hb dL_law_1137 (by decide) ?_
  exact ih ls H locs (cells) (slots) (upd xi 17 x3) xl (va_up (va_up (va_up (va_up xa 9 x4) 10 x5) 11 x6) 12 x7) fc cs (upd i 24 x12) L (va_up (va_up (va_up (va_up a 25 x13) 26 x14) 27 x15) 28 x16) aL (by omega) (by omega) ⟨hcs, tb, ln0, ln1, ln2, ln3, h7, mci, ob, fb, pb, ri, h22, f19, h29, h5, h23, h20, f20, f21, h50, h51, o47, h52, hr54, h35, z31, z64, o56, l58, sz, b6, nm, kc, kcr, kfl, klk⟩ (lv_sub hl [0, 1, 2, 3] rfl) hP hD hS
set_option maxRecDepth 100000 in
set_option maxHeartbeats 4000000 in
theorem lc_waits {p : Program} {l : Launch} {e : Env} {s : State} {m : MethodId} {below : List Frame} {meth : Method} {c : Code} {g : Gt} {b N ho hm : Nat} {ux q : Nat → Nat} {xs : Nat → Int32} (C : Ctx g p s m #[Value.ref b] meth c yL_law wsL_law cL_law 4 (some .boolean)) (hX : va_X b N xs s s.heap) (hbl : b < s.heap.size) (hL : N ≤ 3072) {n k : Nat} (hk : 6 * k + 6 ≤ N) (ih : LAt p l e s m below meth c g b ho hm ux q n (k + 1) 18) : LAt p l e s m below meth c g b ho hm ux q (n + 1) k 686 := by
  intro ls H locs cells slots xi xl xa fc cs i L a aL hcl hsl hinv hl hP hD hS
  obtain ⟨hcs, tb, ln0, ln1, ln2, ln3, h7, mci, ob, fb, pb, ri, h22, h24, h29, h5, h23, h20, hr25, hr27, h50, h51, o47, h52, hr54, h35, z31, z64, o56, l58, sz, b6, nm, kc, kcr, kfl, klk⟩ := hinv
  obtain ⟨hx, hb, hr, hts, hown, hlocks, hml, hin, hKN⟩ := id C
  have hK := hKN.1
  have hN := hKN.2
  have F : CallFix p m c cL_law 4 s _ wsL_law yL_law.cls := ⟨hx, hb, hml, hown, hts⟩
  have hA : ∀ q : Nat, s.heap.size ≤ q → (fun q : Nat => s.heap.size ≤ q) q := fun _ h => h
  have hbA : ¬ (fun q : Nat => s.heap.size ≤ q) b := Nat.not_le.mpr hbl
  refine lv_aload_n hx hb dL_law_686 rfl (lv_at hl 2 rfl) ?_
  refine kI (rnV (As := []) (rest := []) (Cn := RX11) C (x_waits l g ho (ux 40) (ux 41) (xi 0) (xi 1) (xi 2) (xi 3) (ux 3) (ux 8) (ux 14) (ux 19) (ux 24) (ux 29) (ux 35) (ux 36) (ux 0) (ux 4) (ux 5) (ux 6) (ux 7) (xi 7)) 0 gL_law_X11_waits rfl (by decide +kernel) ⟨(Nat.le_of_ble_eq_true rfl), (Nat.le_of_ble_eq_true rfl)⟩ hP (k := 0) (ci := 11) rfl rfl rfl rfl hl.1 rfl (Nat.le_of_ble_eq_true rfl) dL_law_687 ⟨(show cells + 0 ≤ 600000 by omega), (show slots + 0 ≤ 7302250 by omega)⟩) (spM (X := (wXM g ho ux xi xl xa fc hm q i L a aL)) (pl := cysW g cs) [true, false, false, false, true, false, false, false, false, false, false, false, false, false, false, false, false, false, false, false, false, false, false, false, false, false, false, false, false, false, false, false, false, false, false, false, false, false, false, false, false, false, false, false, false, false, false, false, false, false, false, false, false, false, false, false, false, false, false, false, false, false, false, false, false, false, false, false, false, false, false, false, false, false, false, false, false, false, false, false, false, false, false, false, false, false, false, false, false, false, false] hP hD rfl) hA hS (fun r1 u2 H locs hw hP hD hS => ?_)
  have hre := hw
  replace hP : va_P g.1 vwCl (wXM g ho ux xi xl xa fc hm q i L a aL ++ cysW g cs) H := hP
  replace hD : va_D (fun q : Nat => s.heap.size ≤ q) (wXM g ho ux xi xl xa fc hm q i L a aL ++ cysW g cs) := hD
  refine nx_i (v := (xi 7)) hre ?_
  refine lv_pop hx hb dL_law_690 rfl ?_
  refine lv_aload_n hx hb dL_law_691 rfl (lv_at hl 1 rfl) ?_
  refine kI (rnV (As := []) (rest := []) (Cn := RX12) C (g_waits l g hm q i L) 0 gL_law_X12_waits rfl (by decide +kernel) ⟨(Nat.le_of_ble_eq_true rfl), (Nat.le_of_ble_eq_true rfl)⟩ hP (k := 51) (ci := 12) rfl rfl rfl rfl hl.1 rfl (Nat.le_of_ble_eq_true rfl) dL_law_692 ⟨(show cells + 0 ≤ 600000 by omega), (show slots + 0 ≤ 7302250 by omega)⟩) (spM (X := (wXM g ho ux xi xl xa fc hm q i L a aL)) (pl := cysW g cs) [false, false, false, false, false, false, false, false, false, false, false, false, false, false, false, false, false, false, false, false, false, false, false, false, false, false, false, false, false, false, false, false, false, false, false, false, false, false, false, false, false, false, false, false, false, false, false, false, false, false, false, true, false, false, false, false, false, false, false, false, false, false, false, false, false, false, false, false, false, false, false, false, false, false, false, false, false, false, false, false, false, false, false, false, false, false, false, false, false, false, false] hP hD rfl) hA hS (fun r3 u4 H locs hw hP hD hS => ?_)
  have hre := hw
  replace hP : va_P g.1 vwCl (wXM g ho ux xi xl xa fc hm q i L a aL ++ cysW g cs) H := hP
  replace hD : va_D (fun q : Nat => s.heap.size ≤ q) (wXM g ho ux xi xl xa fc hm q i L a aL ++ cysW g cs) := hD
  refine nx_i (v := (i 29)) hre ?_
  refine lv_pop hx hb dL_law_695 rfl ?_
  refine lv_goto (tgt := 1134) hx hb dL_law_696 (by decide) ?_
  refine lv_iinc (v := nI (6 * (k + 1))) (lv' := [(3, .int (nI (6 * (k + 1)))), (2, .ref hm), (1, .ref ho), (0, .ref b)]) hx hb dL_law_1134 hl (k := 0) rfl (sc_next k) (by decide) rfl (fun ls hl => ?_)
  refine lv_goto (tgt := 18) hx hb dL_law_1137 (by decide) ?_
  exact ih ls H locs (cells) (slots) xi xl xa fc cs i L a aL (by omega) (by omega) ⟨hcs, tb, ln0, ln1, ln2, ln3, h7, mci, ob, fb, pb, ri, h22, h24, h29, h5, h23, h20, hr25, hr27, h50, h51, o47, h52, hr54, h35, z31, z64, o56, l58, sz, b6, nm, kc, kcr, kfl, klk⟩ (lv_sub hl [0, 1, 2, 3] rfl) hP hD hS
set_option maxRecDepth 100000 in
set_option maxHeartbeats 4000000 in
theorem lc_start {p : Program} {l : Launch} {e : Env} {s : State} {m : MethodId} {below : List Frame} {meth : Method} {c : Code} {g : Gt} {b N ho hm : Nat} {ux q : Nat → Nat} {xs : Nat → Int32} (C : Ctx g p s m #[Value.ref b] meth c yL_law wsL_law cL_law 4 (some .boolean)) (hX : va_X b N xs s s.heap) (hbl : b < s.heap.size) (hL : N ≤ 3072) {n k : Nat} (hk : 6 * k + 6 ≤ N) (ih : LAt p l e s m below meth c g b ho hm ux q n (k + 1) 18) : LAt p l e s m below meth c g b ho hm ux q (n + 1) k 699 := by
  intro ls H locs cells slots xi xl xa fc cs i L a aL hcl hsl hinv hl hP hD hS
  obtain ⟨hcs, tb, ln0, ln1, ln2, ln3, h7, mci, ob, fb, pb, ri, h22, h24, h29, h5, h23, h20, hr25, hr27, h50, h51, o47, h52, hr54, h35, z31, z64, o56, l58, sz, b6, nm, kc, kcr, kfl, klk⟩ := hinv
  obtain ⟨hx, hb, hr, hts, hown, hlocks, hml, hin, hKN⟩ := id C
  have hK := hKN.1
  have hN := hKN.2
  have F : CallFix p m c cL_law 4 s _ wsL_law yL_law.cls := ⟨hx, hb, hml, hown, hts⟩
  have hA : ∀ q : Nat, s.heap.size ≤ q → (fun q : Nat => s.heap.size ≤ q) q := fun _ h => h
  have hbA : ¬ (fun q : Nat => s.heap.size ≤ q) b := Nat.not_le.mpr hbl
  refine lv_aload_n hx hb dL_law_699 rfl (lv_at hl 2 rfl) ?_
  refine kI (rnV (As := []) (rest := []) (Cn := RX11) C (x_start l g ho (ux 40) (ux 41) (xi 0) (xi 1) (xi 2) (xi 3) (ux 3) (ux 8) (ux 14) (ux 19) (ux 24) (ux 29) (ux 35) (ux 36) (ux 0) (ux 4) (ux 5) (ux 6) (ux 7) (xi 7) (xa 1) (xa 2) (xa 3) (xi 8) (xi 9) (xi 10) (xi 11) (ux 19) (ux 20) (ux 21) (ux 22) (ux 23) (xi 18) (xa 13) (xa 14) (xa 15) (xi 19) (xi 20) (xi 21) (xi 22)) 0 gL_law_X11_start rfl (by decide +kernel) ⟨(Nat.le_of_ble_eq_true rfl), (Nat.le_of_ble_eq_true rfl)⟩ hP (k := 0) (ci := 11) rfl rfl rfl rfl hl.1 rfl (Nat.le_of_ble_eq_true rfl) dL_law_700 ⟨(show cells + 0 ≤ 600000 by omega), (show slots + 0 ≤ 7302250 by omega)⟩) (spM (X := (wXM g ho ux xi xl xa fc hm q i L a aL)) (pl := cysW g cs) [true, false, false, false, true, true, true, true, true, false, false, false, false, false, false, false, false, false, false, false, true, true, true, true, true, false, false, false, false, false, false, false, false, false, false, false, false, false, false, false, false, false, false, false, false, false, false, false, false, false, false, false, false, false, false, false, false, false, false, false, false, false, false, false, false, false, false, false, false, false, false, false, false, false, false, false, false, false, false, false, false, false, false, false, false, false, false, false, false, false, false] hP hD rfl) hA hS (fun r1 u2 H locs hw hP hD hS => ?_)
  obtain ⟨x3, x4, x5, x6, x7, x8, x9, x10, x11, x12⟩ := u2
  obtain ⟨hre, f13⟩ := hw
  replace hP : va_P g.1 vwCl (wXM g ho ux (upd (upd (upd (upd (upd (upd (upd xi 1 x3) 3 x4) 18 x5) 19 x9) 20 x10) 21 x11) 22 x12) xl (va_up (va_up (va_up xa 13 x6) 14 x7) 15 x8) fc hm q i L a aL ++ cysW g cs) H := hP
  replace hD : va_D (fun q : Nat => s.heap.size ≤ q) (wXM g ho ux (upd (upd (upd (upd (upd (upd (upd xi 1 x3) 3 x4) 18 x5) 19 x9) 20 x10) 21 x11) 22 x12) xl (va_up (va_up (va_up xa 13 x6) 14 x7) 15 x8) fc hm q i L a aL ++ cysW g cs) := hD
  replace f13 : x4 = 0 := f13
  refine nx_i (v := 1) hre ?_
  refine lv_pop hx hb dL_law_703 rfl ?_
  refine lv_aload_n hx hb dL_law_704 rfl (lv_at hl 1 rfl) ?_
  refine kI (rnV (As := []) (rest := []) (Cn := RX12) C (w_start l g hm q i L (a 11) (a 17) (a 18) (a 47) (a 48) (a 49) h7 ob o47 h23 h29) 0 gL_law_X12_start rfl (by decide +kernel) ⟨(Nat.le_of_ble_eq_true rfl), (Nat.le_of_ble_eq_true rfl)⟩ hP (k := 51) (ci := 12) rfl rfl rfl rfl hl.1 rfl (Nat.le_of_ble_eq_true rfl) dL_law_705 ⟨(show cells + 0 ≤ 600000 by omega), (show slots + 0 ≤ 7302250 by omega)⟩) (spM (X := (wXM g ho ux (upd (upd (upd (upd (upd (upd (upd xi 1 x3) 3 x4) 18 x5) 19 x9) 20 x10) 21 x11) 22 x12) xl (va_up (va_up (va_up xa 13 x6) 14 x7) 15 x8) fc hm q i L a aL)) (pl := cysW g cs) [false, false, false, false, false, false, false, false, false, false, false, false, false, false, false, false, false, false, false, false, false, false, false, false, false, false, false, false, false, false, false, false, false, false, false, false, false, false, false, false, false, false, false, false, false, false, false, false, false, false, false, true, false, false, false, false, false, false, false, true, false, false, false, false, false, true, true, false, false, false, false, false, false, false, false, false, false, true, true, true, false, false, false, false, false, false, false, false, false, false, false] hP hD rfl) hA hS (fun r14 u15 H locs hw hP hD hS => ?_)
  obtain ⟨x16, x17, x18, x19, x20, x21, x22, x23⟩ := u15
  obtain ⟨hre, f24, f25, f26, f27⟩ := hw
  replace hP : va_P g.1 vwCl (wXM g ho ux (upd (upd (upd (upd (upd (upd (upd xi 1 x3) 3 x4) 18 x5) 19 x9) 20 x10) 21 x11) 22 x12) xl (va_up (va_up (va_up xa 13 x6) 14 x7) 15 x8) fc hm q (upd (upd (upd (upd (upd i 30 x16) 45 x17) 46 x18) 50 x19) 51 x20) L (va_up (va_up (va_up a 47 x21) 48 x22) 49 x23) aL ++ cysW g cs) H := hP
  replace hD : va_D (fun q : Nat => s.heap.size ≤ q) (wXM g ho ux (upd (upd (upd (upd (upd (upd (upd xi 1 x3) 3 x4) 18 x5) 19 x9) 20 x10) 21 x11) 22 x12) xl (va_up (va_up (va_up xa 13 x6) 14 x7) 15 x8) fc hm q (upd (upd (upd (upd (upd i 30 x16) 45 x17) 46 x18) 50 x19) 51 x20) L (va_up (va_up (va_up a 47 x21) 48 x22) 49 x23) aL ++ cysW g cs) := hD
  replace f24 : OB x21 := f24
  replace f25 : 0 ≤ (x19).toInt ∧ (x19).toInt ≤ 5000 := f25
  replace f26 : 0 ≤ (x20).toInt := f26
  replace f27 : x16 = 0 := f27
  refine nx_i (v := 1) hre ?_
  refine lv_pop hx hb dL_law_708 rfl ?_
  refine lv_goto (tgt := 1134) hx hb dL_law_709 (by decide) ?_
  refine lv_iinc (v := nI (6 * (k + 1))) (lv' := [(3, .int (nI (6 * (k + 1)))), (2, .ref hm), (1, .ref ho), (0, .ref b)]) hx hb dL_law_1134 hl (k := 0) rfl (sc_next k) (by decide) rfl (fun ls hl => ?_)
  refine lv_goto (tgt := 18) hx hb dL_law_1137 (by decide) ?_
  exact ih ls H locs (cells) (slots) (upd (upd (upd (upd (upd (upd (upd xi 1 x3) 3 x4) 18 x5) 19 x9) 20 x10) 21 x11) 22 x12) xl (va_up (va_up (va_up xa 13 x6) 14 x7) 15 x8) fc cs (upd (upd (upd (upd (upd i 30 x16) 45 x17) 46 x18) 50 x19) 51 x20) L (va_up (va_up (va_up a 47 x21) 48 x22) 49 x23) aL (by omega) (by omega) ⟨hcs, tb, ln0, ln1, ln2, ln3, h7, mci, ob, fb, pb, ri, h22, h24, h29, h5, h23, h20, hr25, hr27, f25, f26, f24, h52, hr54, h35, z31, z64, o56, l58, sz, b6, nm, kc, kcr, kfl, klk⟩ (lv_sub hl [0, 1, 2, 3] rfl) hP hD hS
set_option maxRecDepth 100000 in
set_option maxHeartbeats 4000000 in
theorem lc_reading {p : Program} {l : Launch} {e : Env} {s : State} {m : MethodId} {below : List Frame} {meth : Method} {c : Code} {g : Gt} {b N ho hm : Nat} {ux q : Nat → Nat} {xs : Nat → Int32} (C : Ctx g p s m #[Value.ref b] meth c yL_law wsL_law cL_law 4 (some .boolean)) (hX : va_X b N xs s s.heap) (hbl : b < s.heap.size) (hL : N ≤ 3072) {n k : Nat} (hk : 6 * k + 6 ≤ N) (ih : LAt p l e s m below meth c g b ho hm ux q n (k + 1) 18) : LAt p l e s m below meth c g b ho hm ux q (n + 1) k 712 := by
  intro ls H locs cells slots xi xl xa fc cs i L a aL hcl hsl hinv hl hP hD hS
  obtain ⟨hcs, tb, ln0, ln1, ln2, ln3, h7, mci, ob, fb, pb, ri, h22, h24, h29, h5, h23, h20, hr25, hr27, h50, h51, o47, h52, hr54, h35, z31, z64, o56, l58, sz, b6, nm, kc, kcr, kfl, klk⟩ := hinv
  obtain ⟨hx, hb, hr, hts, hown, hlocks, hml, hin, hKN⟩ := id C
  have hK := hKN.1
  have hN := hKN.2
  have F : CallFix p m c cL_law 4 s _ wsL_law yL_law.cls := ⟨hx, hb, hml, hown, hts⟩
  have hA : ∀ q : Nat, s.heap.size ≤ q → (fun q : Nat => s.heap.size ≤ q) q := fun _ h => h
  have hbA : ¬ (fun q : Nat => s.heap.size ≤ q) b := Nat.not_le.mpr hbl
  refine lv_aload_n hx hb dL_law_712 rfl (lv_at hl 2 rfl) ?_
  refine lv_aload_n hx hb dL_law_713 rfl (lv_at hl 3 rfl) ?_
  refine lv_iload_n hx hb dL_law_714 rfl (lv_at hl 0 rfl) ?_
  refine lv_iconst (v := 1) hx hb dL_law_715 (by decide) ?_
  refine lv_iadd hx hb dL_law_716 ?_
  refine va_sld hx hb hX hbl hbA hS (sc_in (j := 1) (by decide) (by decide) hk hL) dL_law_717 ?_
  refine nx_i (v := xs (6 * k + 1)) (sc_ix (j := 1) (by decide) (by decide) hk hL) ?_
  refine lv_aload_n hx hb dL_law_718 rfl (lv_at hl 3 rfl) ?_
  refine lv_iload_n hx hb dL_law_719 rfl (lv_at hl 0 rfl) ?_
  refine lv_iconst (v := 2) hx hb dL_law_720 (by decide) ?_
  refine lv_iadd hx hb dL_law_721 ?_
  refine va_sld hx hb hX hbl hbA hS (sc_in (j := 2) (by decide) (by decide) hk hL) dL_law_722 ?_
  refine nx_i (v := xs (6 * k + 2)) (sc_ix (j := 2) (by decide) (by decide) hk hL) ?_
  refine lv_aload_n hx hb dL_law_723 rfl (lv_at hl 3 rfl) ?_
  refine lv_iload_n hx hb dL_law_724 rfl (lv_at hl 0 rfl) ?_
  refine lv_iconst (v := 3) hx hb dL_law_725 (by decide) ?_
  refine lv_iadd hx hb dL_law_726 ?_
  refine va_sld hx hb hX hbl hbA hS (sc_in (j := 3) (by decide) (by decide) hk hL) dL_law_727 ?_
  refine nx_i (v := xs (6 * k + 3)) (sc_ix (j := 3) (by decide) (by decide) hk hL) ?_
  refine kI (rnV (As := [.int (xs (6 * k + 1)), .int (xs (6 * k + 2)), .int (xs (6 * k + 3))]) (rest := []) (Cn := RX11) C (x_reading l g ho (ux 40) (ux 41) (xi 0) (xi 1) (xi 2) (xi 3) (ux 3) (ux 8) (ux 14) (ux 19) (ux 24) (ux 29) (ux 35) (ux 36) (ux 0) (xi 4) (xi 5) (ux 1) (xi 6) (ux 2) fc (ux 37) (ux 38) (ux 39) (xi 33) (xa 25) (xa 26) (xa 27) (xs (6 * k + 1)) (xs (6 * k + 2)) (xs (6 * k + 3)) cs hcs tb) 3 gL_law_X11_reading rfl (by decide +kernel) ⟨(Nat.le_of_ble_eq_true rfl), (Nat.le_of_ble_eq_true rfl)⟩ hP (k := 0) (ci := 11) rfl rfl rfl rfl hl.1 rfl (Nat.le_of_ble_eq_true rfl) dL_law_728 ⟨(show cells + 0 ≤ 600000 by omega), (show slots + 0 ≤ 7302250 by omega)⟩) (spMC (X := (wXM g ho ux xi xl xa fc hm q i L a aL)) (pl := cysW g cs) [true, true, true, false, false, false, false, false, false, false, false, false, false, false, false, false, false, false, false, false, false, false, false, false, false, false, false, false, false, false, false, false, false, false, false, false, false, true, true, true, true, false, false, false, false, false, false, false, false, false, false, false, false, false, false, false, false, false, false, false, false, false, false, false, false, false, false, false, false, false, false, false, false, false, false, false, false, false, false, false, false, false, false, false, false, false, false, false, false, false, false] hP hD rfl) hA hS (fun r1 u2 H locs hw hP hD hS => ?_)
  obtain ⟨x3, x4, x5, x6⟩ := u2
  obtain ⟨f7, f8, f9⟩ := hw
  replace hP : va_P g.1 vwCl (wXM g ho ux (upd xi 33 x3) xl (va_up (va_up (va_up xa 25 x4) 26 x5) 27 x6) fc hm q i L a aL ++ cysW g cs) H := hP
  replace hD : va_D (fun q : Nat => s.heap.size ≤ q) (wXM g ho ux (upd xi 33 x3) xl (va_up (va_up (va_up xa 25 x4) 26 x5) 27 x6) fc hm q i L a aL ++ cysW g cs) := hD
  replace f7 : TB x4 := f7
  replace f8 : r1 = sr_r (xi 6) (xi 33) (fF yA cs (xs (6 * k + 2)).toNatClampNeg * fF yS cs (xs (6 * k + 2)).toNatClampNeg) (xs (6 * k + 1)) (xs (6 * k + 2)) (xs (6 * k + 3)) := f8
  replace f9 : x3 = sr_n (xi 6) (xi 33) (fF yA cs (xs (6 * k + 2)).toNatClampNeg * fF yS cs (xs (6 * k + 2)).toNatClampNeg) (xs (6 * k + 1)) (xs (6 * k + 2)) (xs (6 * k + 3)) := f9
  refine lv_pop hx hb dL_law_731 rfl ?_
  refine lv_aload_n hx hb dL_law_732 rfl (lv_at hl 1 rfl) ?_
  refine lv_aload_n hx hb dL_law_733 rfl (lv_at hl 3 rfl) ?_
  refine lv_iload_n hx hb dL_law_734 rfl (lv_at hl 0 rfl) ?_
  refine lv_iconst (v := 1) hx hb dL_law_735 (by decide) ?_
  refine lv_iadd hx hb dL_law_736 ?_
  refine va_sld hx hb hX hbl hbA hS (sc_in (j := 1) (by decide) (by decide) hk hL) dL_law_737 ?_
  refine nx_i (v := xs (6 * k + 1)) (sc_ix (j := 1) (by decide) (by decide) hk hL) ?_
  refine lv_aload_n hx hb dL_law_738 rfl (lv_at hl 3 rfl) ?_
  refine lv_iload_n hx hb dL_law_739 rfl (lv_at hl 0 rfl) ?_
  refine lv_iconst (v := 2) hx hb dL_law_740 (by decide) ?_
  refine lv_iadd hx hb dL_law_741 ?_
  refine va_sld hx hb hX hbl hbA hS (sc_in (j := 2) (by decide) (by decide) hk hL) dL_law_742 ?_
  refine nx_i (v := xs (6 * k + 2)) (sc_ix (j := 2) (by decide) (by decide) hk hL) ?_
  refine lv_aload_n hx hb dL_law_743 rfl (lv_at hl 3 rfl) ?_
  refine lv_iload_n hx hb dL_law_744 rfl (lv_at hl 0 rfl) ?_
  refine lv_iconst (v := 3) hx hb dL_law_745 (by decide) ?_
  refine lv_iadd hx hb dL_law_746 ?_
  refine va_sld hx hb hX hbl hbA hS (sc_in (j := 3) (by decide) (by decide) hk hL) dL_law_747 ?_
  refine nx_i (v := xs (6 * k + 3)) (sc_ix (j := 3) (by decide) (by decide) hk hL) ?_
  refine kI (rnV (As := [.int (xs (6 * k + 1)), .int (xs (6 * k + 2)), .int (xs (6 * k + 3))]) (rest := []) (Cn := RX12) C (w_reading l g hm q i L (a 53) (a 54) (a 55) (a 9) (a 10) (xs (6 * k + 1)) (xs (6 * k + 2)) (xs (6 * k + 3)) h7 h52 hr54) 3 gL_law_X12_reading rfl (by decide +kernel) ⟨(Nat.le_of_ble_eq_true rfl), (Nat.le_of_ble_eq_true rfl)⟩ hP (k := 51) (ci := 12) rfl rfl rfl rfl hl.1 rfl (Nat.le_of_ble_eq_true rfl) dL_law_748 ⟨(show cells + 0 ≤ 600000 by omega), (show slots + 0 ≤ 7302250 by omega)⟩) (spB (X := (wXM g ho ux (upd xi 33 x3) xl (va_up (va_up (va_up xa 25 x4) 26 x5) 27 x6) fc hm q i L a aL)) (pl := cysW g cs) (wr := [(ho, .inr (11, [.ref (ux 0), .ref (ux 3), .ref (ux 8), .ref (ux 14), .ref (ux 19), .ref (ux 24), .ref (ux 29), .ref (ux 35), .ref (ux 36), .ref (ux 40), .ref (ux 41), .int (xi 0), .int (xi 1), .int (xi 2), .int (xi 3)])), ((ux 0), .inr (4, [.int (xi 4), .int (xi 5), .ref (ux 1), .int (xi 6), .ref (ux 2)])), ((ux 1), .inl (g.2 3, 6, .inr (.inr (.inr (.inr fc))))), ((ux 2), .inl (g.2 0, 6, .inl (xa 0))), ((ux 3), .inr (7, [.ref (ux 4), .ref (ux 5), .ref (ux 6), .ref (ux 7), .int (xi 7)])), ((ux 4), .inl (g.2 0, 6, .inl (xa 1))), ((ux 5), .inl (g.2 0, 6, .inl (xa 2))), ((ux 6), .inl (g.2 0, 6, .inl (xa 3))), ((ux 7), .inr (8, [.int (xi 8), .int (xi 9), .int (xi 10), .int (xi 11)])), ((ux 8), .inr (1, [.ref (ux 9), .ref (ux 10), .int (xi 12), .ref (ux 11), .ref (ux 12), .ref (ux 13), .int (xi 13), .int (xi 14), .int (xi 15), .int (xi 16), .long (xl 0), .long (xl 1), .long (xl 2)])), ((ux 9), .inl (g.2 0, 6, .inl (xa 4))), ((ux 10), .inl (g.2 0, 6, .inl (xa 5))), ((ux 11), .inl (g.2 0, 6, .inl (xa 6))), ((ux 12), .inl (g.2 0, 6, .inl (xa 7))), ((ux 13), .inl (g.2 0, 6, .inl (xa 8))), ((ux 14), .inr (3, [.ref (ux 15), .ref (ux 16), .ref (ux 17), .ref (ux 18), .int (xi 17)])), ((ux 15), .inl (g.2 0, 30, .inl (xa 9))), ((ux 16), .inl (g.2 0, 30, .inl (xa 10))), ((ux 17), .inl (g.2 0, 30, .inl (xa 11))), ((ux 18), .inl (g.2 0, 30, .inl (xa 12))), ((ux 19), .inr (7, [.ref (ux 20), .ref (ux 21), .ref (ux 22), .ref (ux 23), .int (xi 18)])), ((ux 20), .inl (g.2 0, 6, .inl (xa 13))), ((ux 21), .inl (g.2 0, 6, .inl (xa 14))), ((ux 22), .inl (g.2 0, 6, .inl (xa 15))), ((ux 23), .inr (8, [.int (xi 19), .int (xi 20), .int (xi 21), .int (xi 22)])), ((ux 24), .inr (7, [.ref (ux 25), .ref (ux 26), .ref (ux 27), .ref (ux 28), .int (xi 23)])), ((ux 25), .inl (g.2 0, 6, .inl (xa 16))), ((ux 26), .inl (g.2 0, 6, .inl (xa 17))), ((ux 27), .inl (g.2 0, 6, .inl (xa 18))), ((ux 28), .inr (8, [.int (xi 24), .int (xi 25), .int (xi 26), .int (xi 27)])), ((ux 29), .inr (1, [.ref (ux 30), .ref (ux 31), .int (xi 28), .ref (ux 32), .ref (ux 33), .ref (ux 34), .int (xi 29), .int (xi 30), .int (xi 31), .int (xi 32), .long (xl 3), .long (xl 4), .long (xl 5)])), ((ux 30), .inl (g.2 0, 6, .inl (xa 19))), ((ux 31), .inl (g.2 0, 6, .inl (xa 20))), ((ux 32), .inl (g.2 0, 6, .inl (xa 21))), ((ux 33), .inl (g.2 0, 6, .inl (xa 22))), ((ux 34), .inl (g.2 0, 6, .inl (xa 23))), ((ux 35), .inl (g.2 0, 6, .inl (xa 24))), ((ux 36), .inr (5, [.ref (ux 37), .ref (ux 38), .ref (ux 39), .int x3])), ((ux 37), .inl (g.2 0, 20, .inl x4)), ((ux 38), .inl (g.2 0, 20, .inl x5)), ((ux 39), .inl (g.2 0, 20, .inl x6)), ((ux 40), .inl (g.2 4, 4, .inr (.inr (.inr (.inr (shF (ux 42) (ux 44) (ux 46) (ux 48))))))), ((ux 41), .inr (9, [.int (xi 34)])), ((ux 42), .inr (6, [.ref (ux 43), .int (xi 35), .int (xi 36), .int (xi 37)])), ((ux 43), .inl (g.2 0, 20, .inl (xa 28))), ((ux 44), .inr (6, [.ref (ux 45), .int (xi 38), .int (xi 39), .int (xi 40)])), ((ux 45), .inl (g.2 0, 20, .inl (xa 29))), ((ux 46), .inr (6, [.ref (ux 47), .int (xi 41), .int (xi 42), .int (xi 43)])), ((ux 47), .inl (g.2 0, 20, .inl (xa 30))), ((ux 48), .inr (6, [.ref (ux 49), .int (xi 44), .int (xi 45), .int (xi 46)])), ((ux 49), .inl (g.2 0, 20, .inl (xa 31))), ((q 1), .inl (g.2 0, 4, .inl (a 1))), ((q 2), .inl (g.2 0, 4, .inl (a 2))), ((q 3), .inl (g.2 0, 80, .inl (a 3))), ((q 4), .inl (g.2 0, 20, .inl (a 4))), ((q 8), .inl (g.2 0, 6, .inl (a 8))), ((q 11), .inl (g.2 0, 6, .inl (a 11))), ((q 12), .inl (g.2 0, 6, .inl (a 12))), ((q 13), .inl (g.2 0, 60, .inl (a 13))), ((q 14), .inl (g.2 0, 6, .inl (a 14))), ((q 15), .inl (g.2 0, 6, .inl (a 15))), ((q 16), .inl (g.2 0, 6, .inl (a 16))), ((q 17), .inl (g.2 0, 6, .inl (a 17))), ((q 18), .inl (g.2 1, 6, .inl (a 18))), ((q 19), .inl (g.2 0, 6, .inl (a 19))), ((q 25), .inl (g.2 0, 30, .inl (a 25))), ((q 26), .inl (g.2 0, 30, .inl (a 26))), ((q 27), .inl (g.2 0, 30, .inl (a 27))), ((q 28), .inl (g.2 0, 30, .inl (a 28))), ((q 36), .inl (g.2 0, 6, .inl (a 36))), ((q 41), .inl (g.2 0, 6, .inl (a 41))), ((q 42), .inl (g.2 0, 6, .inl (a 42))), ((q 43), .inl (g.2 0, 6, .inl (a 43))), ((q 44), .inl (g.2 0, 6, .inl (a 44))), ((q 47), .inl (g.2 0, 6, .inl (a 47))), ((q 48), .inl (g.2 0, 6, .inl (a 48))), ((q 49), .inl (g.2 1, 6, .inl (a 49))), ((q 56), .inl (g.2 0, 6, .inl (a 56))), ((q 57), .inl (g.2 0, 6, .inl (a 57))), ((q 58), .inl (g.2 0, 6, .inl (a 58))), ((q 59), .inl (g.2 0, 6, .inl (a 59))), ((q 60), .inl (g.2 0, 6, .inl (a 60))), ((q 61), .inl (g.2 1, 6, .inl (a 61))), ((q 62), .inl (g.2 0, 6, .inl (a 62))), ((q 63), .inl (g.2 2, 3, .inr (.inl aL)))]) hP hD [51, 80, 81, 82, 57, 58] [0, 1, 2, 3, 4, 5, 6, 7, 8, 9, 10, 11, 12, 13, 14, 15, 16, 17, 18, 19, 20, 21, 22, 23, 24, 25, 26, 27, 28, 29, 30, 31, 32, 33, 34, 35, 36, 37, 38, 39, 40, 41, 42, 43, 44, 45, 46, 47, 48, 49, 50, 52, 53, 54, 55, 56, 59, 60, 61, 62, 63, 64, 65, 66, 67, 68, 69, 70, 71, 72, 73, 74, 75, 76, 77, 78, 79, 83, 84, 85, 86, 87, 88, 89, 90] rfl rfl (by decide +kernel) (by decide +kernel) (by decide +kernel)) hA hS (fun r10 u11 H locs hw hP hD hS => ?_)
  obtain ⟨x12, x13, x14, x15⟩ := u11
  obtain ⟨f16, f17, f18, f19⟩ := hw
  replace hP : va_P g.1 vwCl (wXM g ho ux (upd xi 33 x3) xl (va_up (va_up (va_up xa 25 x4) 26 x5) 27 x6) fc hm q (upd i 52 x12) L (va_up (va_up (va_up a 53 x13) 54 x14) 55 x15) aL ++ cysW g cs) H := hP.part [0, 1, 2, 3, 4, 5, 6, 7, 8, 9, 10, 11, 12, 13, 14, 15, 16, 17, 18, 19, 20, 21, 22, 23, 24, 25, 26, 27, 28, 29, 30, 31, 32, 33, 34, 35, 36, 37, 38, 39, 40, 41, 42, 43, 44, 45, 46, 47, 48, 49, 50, 85, 51, 52, 53, 54, 55, 89, 90, 56, 57, 58, 59, 60, 61, 62, 63, 64, 65, 66, 67, 68, 69, 70, 71, 72, 73, 74, 75, 76, 86, 87, 88, 77, 78, 79, 80, 81, 82, 83, 84] rfl
  replace hD : va_D (fun q : Nat => s.heap.size ≤ q) (wXM g ho ux (upd xi 33 x3) xl (va_up (va_up (va_up xa 25 x4) 26 x5) 27 x6) fc hm q (upd i 52 x12) L (va_up (va_up (va_up a 53 x13) 54 x14) 55 x15) aL ++ cysW g cs) := hD.part [0, 1, 2, 3, 4, 5, 6, 7, 8, 9, 10, 11, 12, 13, 14, 15, 16, 17, 18, 19, 20, 21, 22, 23, 24, 25, 26, 27, 28, 29, 30, 31, 32, 33, 34, 35, 36, 37, 38, 39, 40, 41, 42, 43, 44, 45, 46, 47, 48, 49, 50, 85, 51, 52, 53, 54, 55, 89, 90, 56, 57, 58, 59, 60, 61, 62, 63, 64, 65, 66, 67, 68, 69, 70, 71, 72, 73, 74, 75, 76, 86, 87, 88, 77, 78, 79, 80, 81, 82, 83, 84] (by decide +kernel) rfl
  replace f16 : r10 = sr_r (i 7) (i 52) (((a 9) ((xs (6 * k + 2)).toNatClampNeg)) * ((a 10) ((xs (6 * k + 2)).toNatClampNeg))) (xs (6 * k + 1)) (xs (6 * k + 2)) (xs (6 * k + 3)) := f16
  replace f17 : x12 = sr_n (i 7) (i 52) (((a 9) ((xs (6 * k + 2)).toNatClampNeg)) * ((a 10) ((xs (6 * k + 2)).toNatClampNeg))) (xs (6 * k + 1)) (xs (6 * k + 2)) (xs (6 * k + 3)) := f17
  replace f18 : 0 ≤ (x12).toInt ∧ (x12).toInt ≤ 20 := f18
  replace f19 : RI x14 := f19
  refine lv_pop hx hb dL_law_751 rfl ?_
  refine lv_goto (tgt := 1134) hx hb dL_law_752 (by decide) ?_
  refine lv_iinc (v := nI (6 * (k + 1))) (lv' := [(3, .int (nI (6 * (k + 1)))), (2, .ref hm), (1, .ref ho), (0, .ref b)]) hx hb dL_law_1134 hl (k := 0) rfl (sc_next k) (by decide) rfl (fun ls hl => ?_)
  refine lv_goto (tgt := 18) hx hb dL_law_1137 (by decide) ?_
  exact ih ls H locs (cells) (slots) (upd xi 33 x3) xl (va_up (va_up (va_up xa 25 x4) 26 x5) 27 x6) fc cs (upd i 52 x12) L (va_up (va_up (va_up a 53 x13) 54 x14) 55 x15) aL (by omega) (by omega) ⟨hcs, f7, ln0, ln1, ln2, ln3, h7, mci, ob, fb, pb, ri, h22, h24, h29, h5, h23, h20, hr25, hr27, h50, h51, o47, f18, f19, h35, z31, z64, o56, l58, sz, b6, nm, kc, kcr, kfl, klk⟩ (lv_sub hl [0, 1, 2, 3] rfl) hP hD hS
set_option maxRecDepth 100000 in
set_option maxHeartbeats 4000000 in
theorem lc_forget {p : Program} {l : Launch} {e : Env} {s : State} {m : MethodId} {below : List Frame} {meth : Method} {c : Code} {g : Gt} {b N ho hm : Nat} {ux q : Nat → Nat} {xs : Nat → Int32} (C : Ctx g p s m #[Value.ref b] meth c yL_law wsL_law cL_law 4 (some .boolean)) (hX : va_X b N xs s s.heap) (hbl : b < s.heap.size) (hL : N ≤ 3072) {n k : Nat} (hk : 6 * k + 6 ≤ N) (ih : LAt p l e s m below meth c g b ho hm ux q n (k + 1) 18) : LAt p l e s m below meth c g b ho hm ux q (n + 1) k 755 := by
  intro ls H locs cells slots xi xl xa fc cs i L a aL hcl hsl hinv hl hP hD hS
  obtain ⟨hcs, tb, ln0, ln1, ln2, ln3, h7, mci, ob, fb, pb, ri, h22, h24, h29, h5, h23, h20, hr25, hr27, h50, h51, o47, h52, hr54, h35, z31, z64, o56, l58, sz, b6, nm, kc, kcr, kfl, klk⟩ := hinv
  obtain ⟨hx, hb, hr, hts, hown, hlocks, hml, hin, hKN⟩ := id C
  have hK := hKN.1
  have hN := hKN.2
  have F : CallFix p m c cL_law 4 s _ wsL_law yL_law.cls := ⟨hx, hb, hml, hown, hts⟩
  have hA : ∀ q : Nat, s.heap.size ≤ q → (fun q : Nat => s.heap.size ≤ q) q := fun _ h => h
  have hbA : ¬ (fun q : Nat => s.heap.size ≤ q) b := Nat.not_le.mpr hbl
  refine lv_aload_n hx hb dL_law_755 rfl (lv_at hl 2 rfl) ?_
  refine kI (rnV (As := []) (rest := []) (Cn := RX11) C (x_forget l g ho (ux 40) (ux 41) (xi 0) (xi 1) (xi 2) (xi 3) (ux 3) (ux 8) (ux 14) (ux 19) (ux 24) (ux 29) (ux 35) (ux 36) (ux 0) (ux 37) (ux 38) (ux 39) (xi 33)) 0 gL_law_X11_forget rfl (by decide +kernel) ⟨(Nat.le_of_ble_eq_true rfl), (Nat.le_of_ble_eq_true rfl)⟩ hP (k := 0) (ci := 11) rfl rfl rfl rfl hl.1 rfl (Nat.le_of_ble_eq_true rfl) dL_law_756 ⟨(show cells + 0 ≤ 600000 by omega), (show slots + 0 ≤ 7302250 by omega)⟩) (spM (X := (wXM g ho ux xi xl xa fc hm q i L a aL)) (pl := cysW g cs) [true, false, false, false, false, false, false, false, false, false, false, false, false, false, false, false, false, false, false, false, false, false, false, false, false, false, false, false, false, false, false, false, false, false, false, false, false, true, false, false, false, false, false, false, false, false, false, false, false, false, false, false, false, false, false, false, false, false, false, false, false, false, false, false, false, false, false, false, false, false, false, false, false, false, false, false, false, false, false, false, false, false, false, false, false, false, false, false, false, false, false] hP hD rfl) hA hS (fun r1 u2 H locs hw hP hD hS => ?_)
  have hre := hw
  replace hP : va_P g.1 vwCl (wXM g ho ux (upd xi 33 0) xl xa fc hm q i L a aL ++ cysW g cs) H := hP
  replace hD : va_D (fun q : Nat => s.heap.size ≤ q) (wXM g ho ux (upd xi 33 0) xl xa fc hm q i L a aL ++ cysW g cs) := hD
  refine nx_i (v := (xi 33)) hre ?_
  refine lv_pop hx hb dL_law_759 rfl ?_
  refine lv_aload_n hx hb dL_law_760 rfl (lv_at hl 1 rfl) ?_
  refine kI (rnV (As := []) (rest := []) (Cn := RX12) C (g_forget l g hm q i L) 0 gL_law_X12_forget rfl (by decide +kernel) ⟨(Nat.le_of_ble_eq_true rfl), (Nat.le_of_ble_eq_true rfl)⟩ hP (k := 51) (ci := 12) rfl rfl rfl rfl hl.1 rfl (Nat.le_of_ble_eq_true rfl) dL_law_761 ⟨(show cells + 0 ≤ 600000 by omega), (show slots + 0 ≤ 7302250 by omega)⟩) (spM (X := (wXM g ho ux (upd xi 33 0) xl xa fc hm q i L a aL)) (pl := cysW g cs) [false, false, false, false, false, false, false, false, false, false, false, false, false, false, false, false, false, false, false, false, false, false, false, false, false, false, false, false, false, false, false, false, false, false, false, false, false, false, false, false, false, false, false, false, false, false, false, false, false, false, false, true, false, false, false, false, false, false, false, false, false, false, false, false, false, false, false, false, false, false, false, false, false, false, false, false, false, false, false, false, false, false, false, false, false, false, false, false, false, false, false] hP hD rfl) hA hS (fun r3 u4 H locs hw hP hD hS => ?_)
  have hre := hw
  replace hP : va_P g.1 vwCl (wXM g ho ux (upd xi 33 0) xl xa fc hm q (upd i 52 0) L a aL ++ cysW g cs) H := hP
  replace hD : va_D (fun q : Nat => s.heap.size ≤ q) (wXM g ho ux (upd xi 33 0) xl xa fc hm q (upd i 52 0) L a aL ++ cysW g cs) := hD
  refine nx_i (v := (i 52)) hre ?_
  refine lv_pop hx hb dL_law_764 rfl ?_
  refine lv_goto (tgt := 1134) hx hb dL_law_765 (by decide) ?_
  refine lv_iinc (v := nI (6 * (k + 1))) (lv' := [(3, .int (nI (6 * (k + 1)))), (2, .ref hm), (1, .ref ho), (0, .ref b)]) hx hb dL_law_1134 hl (k := 0) rfl (sc_next k) (by decide) rfl (fun ls hl => ?_)
  refine lv_goto (tgt := 18) hx hb dL_law_1137 (by decide) ?_
  exact ih ls H locs (cells) (slots) (upd xi 33 0) xl xa fc cs (upd i 52 0) L a aL (by omega) (by omega) ⟨hcs, tb, ln0, ln1, ln2, ln3, h7, mci, ob, fb, pb, ri, h22, h24, h29, h5, h23, h20, hr25, hr27, h50, h51, o47, r0_20, hr54, h35, z31, z64, o56, l58, sz, b6, nm, kc, kcr, kfl, klk⟩ (lv_sub hl [0, 1, 2, 3] rfl) hP hD hS
set_option maxRecDepth 100000 in
set_option maxHeartbeats 4000000 in
theorem lc_leak {p : Program} {l : Launch} {e : Env} {s : State} {m : MethodId} {below : List Frame} {meth : Method} {c : Code} {g : Gt} {b N ho hm : Nat} {ux q : Nat → Nat} {xs : Nat → Int32} (C : Ctx g p s m #[Value.ref b] meth c yL_law wsL_law cL_law 4 (some .boolean)) (hX : va_X b N xs s s.heap) (hbl : b < s.heap.size) (hL : N ≤ 3072) {n k : Nat} (hk : 6 * k + 6 ≤ N) (ih : LAt p l e s m below meth c g b ho hm ux q n (k + 1) 18) : LAt p l e s m below meth c g b ho hm ux q (n + 1) k 768 := by
  intro ls H locs cells slots xi xl xa fc cs i L a aL hcl hsl hinv hl hP hD hS
  obtain ⟨hcs, tb, ln0, ln1, ln2, ln3, h7, mci, ob, fb, pb, ri, h22, h24, h29, h5, h23, h20, hr25, hr27, h50, h51, o47, h52, hr54, h35, z31, z64, o56, l58, sz, b6, nm, kc, kcr, kfl, klk⟩ := hinv
  obtain ⟨hx, hb, hr, hts, hown, hlocks, hml, hin, hKN⟩ := id C
  have hK := hKN.1
  have hN := hKN.2
  have F : CallFix p m c cL_law 4 s _ wsL_law yL_law.cls := ⟨hx, hb, hml, hown, hts⟩
  have hA : ∀ q : Nat, s.heap.size ≤ q → (fun q : Nat => s.heap.size ≤ q) q := fun _ h => h
  have hbA : ¬ (fun q : Nat => s.heap.size ≤ q) b := Nat.not_le.mpr hbl
  refine lv_aload_n hx hb dL_law_768 rfl (lv_at hl 2 rfl) ?_
  refine lv_aload_n hx hb dL_law_769 rfl (lv_at hl 3 rfl) ?_
  refine lv_iload_n hx hb dL_law_770 rfl (lv_at hl 0 rfl) ?_
  refine lv_iconst (v := 1) hx hb dL_law_771 (by decide) ?_
  refine lv_iadd hx hb dL_law_772 ?_
  refine va_sld hx hb hX hbl hbA hS (sc_in (j := 1) (by decide) (by decide) hk hL) dL_law_773 ?_
  refine nx_i (v := xs (6 * k + 1)) (sc_ix (j := 1) (by decide) (by decide) hk hL) ?_
  refine kI (rnV (As := [.int (xs (6 * k + 1))]) (rest := []) (Cn := RX11) C (x_leak l g ho (ux 40) (ux 41) (xi 0) (xi 1) (xi 2) (xi 3) (ux 0) (xi 4) (xi 5) (ux 1) (xi 6) (ux 2) fc (ux 14) (ux 15) (ux 16) (ux 17) (ux 18) (xi 17) (xa 9) (xa 10) (xa 11) (xa 12) (ux 19) (ux 20) (ux 21) (ux 22) (ux 23) (xi 18) (xa 13) (xa 14) (xa 15) (xi 19) (xi 20) (xi 21) (xi 22) (ux 24) (ux 25) (ux 26) (ux 27) (ux 28) (xi 23) (xa 16) (xa 17) (xa 18) (xi 24) (xi 25) (xi 26) (xi 27) (ux 29) (ux 30) (ux 31) (ux 32) (ux 33) (ux 34) (xi 28) (xi 29) (xi 30) (xi 31) (xi 32) (xl 3) (xl 4) (xl 5) (xa 19) (xa 20) (xa 21) (xa 22) (xa 23) (ux 35) (xa 24) (ux 36) (ux 37) (ux 38) (ux 39) (xi 33) (xa 25) (xa 26) (xa 27) (ux 3) (ux 8) (xs (6 * k + 1)) cs hcs tb) 1 gL_law_X11_leak rfl (by decide +kernel) ⟨(Nat.le_of_ble_eq_true rfl), (Nat.le_of_ble_eq_true rfl)⟩ hP (k := 0) (ci := 11) rfl rfl rfl rfl hl.1 rfl (Nat.le_of_ble_eq_true rfl) dL_law_774 ⟨(show cells + 0 ≤ 600000 by omega), (show slots + 0 ≤ 7302250 by omega)⟩) (spMC (X := (wXM g ho ux xi xl xa fc hm q i L a aL)) (pl := cysW g cs) [true, true, true, false, false, false, false, false, false, false, false, false, false, false, false, true, true, true, true, true, true, true, true, true, true, true, true, true, true, true, true, true, true, true, true, true, true, true, true, true, true, false, false, false, false, false, false, false, false, false, false, false, false, false, false, false, false, false, false, false, false, false, false, false, false, false, false, false, false, false, false, false, false, false, false, false, false, false, false, false, false, false, false, false, false, false, false, false, false, false, false] hP hD rfl) hA hS (fun r1 u2 H locs hw hP hD hS => ?_)
  obtain ⟨x3, x4, x5, x6, x7, x8, x9, x10, x11, x12, x13, x14, x15, x16, x17, x18, x19, x20, x21, x22, x23, x24⟩ := u2
  replace hP : va_P g.1 vwCl (wXM g ho ux (upd (upd (upd (upd (upd (upd (upd (upd (upd (upd xi 23 x3) 24 x7) 25 x8) 26 x9) 27 x10) 28 x11) 29 x12) 30 x13) 31 x14) 32 x15) (vp_updL (vp_updL (vp_updL xl 3 x16) 4 x17) 5 x18) (va_up (va_up (va_up (va_up (va_up (va_up (va_up (va_up (va_up xa 16 x4) 17 x5) 18 x6) 19 x19) 20 x20) 21 x21) 22 x22) 23 x23) 24 x24) fc hm q i L a aL ++ cysW g cs) H := hP
  replace hD : va_D (fun q : Nat => s.heap.size ≤ q) (wXM g ho ux (upd (upd (upd (upd (upd (upd (upd (upd (upd (upd xi 23 x3) 24 x7) 25 x8) 26 x9) 27 x10) 28 x11) 29 x12) 30 x13) 31 x14) 32 x15) (vp_updL (vp_updL (vp_updL xl 3 x16) 4 x17) 5 x18) (va_up (va_up (va_up (va_up (va_up (va_up (va_up (va_up (va_up xa 16 x4) 17 x5) 18 x6) 19 x19) 20 x20) 21 x21) 22 x22) 23 x23) 24 x24) fc hm q i L a aL ++ cysW g cs) := hD
  refine lv_pop hx hb dL_law_777 rfl ?_
  refine lv_aload_n hx hb dL_law_778 rfl (lv_at hl 1 rfl) ?_
  refine lv_aload_n hx hb dL_law_779 rfl (lv_at hl 3 rfl) ?_
  refine lv_iload_n hx hb dL_law_780 rfl (lv_at hl 0 rfl) ?_
  refine lv_iconst (v := 1) hx hb dL_law_781 (by decide) ?_
  refine lv_iadd hx hb dL_law_782 ?_
  refine va_sld hx hb hX hbl hbA hS (sc_in (j := 1) (by decide) (by decide) hk hL) dL_law_783 ?_
  refine nx_i (v := xs (6 * k + 1)) (sc_ix (j := 1) (by decide) (by decide) hk hL) ?_
  refine kI (rnV (As := [.int (xs (6 * k + 1))]) (rest := []) (Cn := RX12) C (w_leak l g hm q i L (a 25) (a 26) (a 27) (a 28) (a 17) (a 11) (a 9) (a 10) (a 19) (a 18) (a 8) (a 15) (a 13) (a 12) (a 16) (a 42) (a 43) (a 44) (a 41) (a 14) (a 36) (a 47) (a 48) (a 49) (a 53) (a 54) (a 55) (a 56) (a 57) (a 58) (a 59) (a 60) (a 61) (a 62) aL (xs (6 * k + 1)) b6 h7 mci ob fb pb ri h22 h24 h29 h5 h23 h20 hr25 hr27 h50 h51 o47 h52 hr54 h35 z31 z64 o56 l58) 1 gL_law_X12_leak rfl (by decide +kernel) ⟨(Nat.le_of_ble_eq_true rfl), (Nat.le_of_ble_eq_true rfl)⟩ hP (k := 51) (ci := 12) rfl rfl rfl rfl hl.1 rfl (Nat.le_of_ble_eq_true rfl) dL_law_784 ⟨(show cells + 0 ≤ 600000 by omega), (show slots + 0 ≤ 7302250 by omega)⟩) (spB (X := (wXM g ho ux (upd (upd (upd (upd (upd (upd (upd (upd (upd (upd xi 23 x3) 24 x7) 25 x8) 26 x9) 27 x10) 28 x11) 29 x12) 30 x13) 31 x14) 32 x15) (vp_updL (vp_updL (vp_updL xl 3 x16) 4 x17) 5 x18) (va_up (va_up (va_up (va_up (va_up (va_up (va_up (va_up (va_up xa 16 x4) 17 x5) 18 x6) 19 x19) 20 x20) 21 x21) 22 x22) 23 x23) 24 x24) fc hm q i L a aL)) (pl := cysW g cs) (wr := [(ho, .inr (11, [.ref (ux 0), .ref (ux 3), .ref (ux 8), .ref (ux 14), .ref (ux 19), .ref (ux 24), .ref (ux 29), .ref (ux 35), .ref (ux 36), .ref (ux 40), .ref (ux 41), .int (xi 0), .int (xi 1), .int (xi 2), .int (xi 3)])), ((ux 0), .inr (4, [.int (xi 4), .int (xi 5), .ref (ux 1), .int (xi 6), .ref (ux 2)])), ((ux 1), .inl (g.2 3, 6, .inr (.inr (.inr (.inr fc))))), ((ux 2), .inl (g.2 0, 6, .inl (xa 0))), ((ux 3), .inr (7, [.ref (ux 4), .ref (ux 5), .ref (ux 6), .ref (ux 7), .int (xi 7)])), ((ux 4), .inl (g.2 0, 6, .inl (xa 1))), ((ux 5), .inl (g.2 0, 6, .inl (xa 2))), ((ux 6), .inl (g.2 0, 6, .inl (xa 3))), ((ux 7), .inr (8, [.int (xi 8), .int (xi 9), .int (xi 10), .int (xi 11)])), ((ux 8), .inr (1, [.ref (ux 9), .ref (ux 10), .int (xi 12), .ref (ux 11), .ref (ux 12), .ref (ux 13), .int (xi 13), .int (xi 14), .int (xi 15), .int (xi 16), .long (xl 0), .long (xl 1), .long (xl 2)])), ((ux 9), .inl (g.2 0, 6, .inl (xa 4))), ((ux 10), .inl (g.2 0, 6, .inl (xa 5))), ((ux 11), .inl (g.2 0, 6, .inl (xa 6))), ((ux 12), .inl (g.2 0, 6, .inl (xa 7))), ((ux 13), .inl (g.2 0, 6, .inl (xa 8))), ((ux 14), .inr (3, [.ref (ux 15), .ref (ux 16), .ref (ux 17), .ref (ux 18), .int (xi 17)])), ((ux 15), .inl (g.2 0, 30, .inl (xa 9))), ((ux 16), .inl (g.2 0, 30, .inl (xa 10))), ((ux 17), .inl (g.2 0, 30, .inl (xa 11))), ((ux 18), .inl (g.2 0, 30, .inl (xa 12))), ((ux 19), .inr (7, [.ref (ux 20), .ref (ux 21), .ref (ux 22), .ref (ux 23), .int (xi 18)])), ((ux 20), .inl (g.2 0, 6, .inl (xa 13))), ((ux 21), .inl (g.2 0, 6, .inl (xa 14))), ((ux 22), .inl (g.2 0, 6, .inl (xa 15))), ((ux 23), .inr (8, [.int (xi 19), .int (xi 20), .int (xi 21), .int (xi 22)])), ((ux 24), .inr (7, [.ref (ux 25), .ref (ux 26), .ref (ux 27), .ref (ux 28), .int x3])), ((ux 25), .inl (g.2 0, 6, .inl x4)), ((ux 26), .inl (g.2 0, 6, .inl x5)), ((ux 27), .inl (g.2 0, 6, .inl x6)), ((ux 28), .inr (8, [.int x7, .int x8, .int x9, .int x10])), ((ux 29), .inr (1, [.ref (ux 30), .ref (ux 31), .int x11, .ref (ux 32), .ref (ux 33), .ref (ux 34), .int x12, .int x13, .int x14, .int x15, .long x16, .long x17, .long x18])), ((ux 30), .inl (g.2 0, 6, .inl x19)), ((ux 31), .inl (g.2 0, 6, .inl x20)), ((ux 32), .inl (g.2 0, 6, .inl x21)), ((ux 33), .inl (g.2 0, 6, .inl x22)), ((ux 34), .inl (g.2 0, 6, .inl x23)), ((ux 35), .inl (g.2 0, 6, .inl x24)), ((ux 36), .inr (5, [.ref (ux 37), .ref (ux 38), .ref (ux 39), .int (xi 33)])), ((ux 37), .inl (g.2 0, 20, .inl (xa 25))), ((ux 38), .inl (g.2 0, 20, .inl (xa 26))), ((ux 39), .inl (g.2 0, 20, .inl (xa 27))), ((ux 40), .inl (g.2 4, 4, .inr (.inr (.inr (.inr (shF (ux 42) (ux 44) (ux 46) (ux 48))))))), ((ux 41), .inr (9, [.int (xi 34)])), ((ux 42), .inr (6, [.ref (ux 43), .int (xi 35), .int (xi 36), .int (xi 37)])), ((ux 43), .inl (g.2 0, 20, .inl (xa 28))), ((ux 44), .inr (6, [.ref (ux 45), .int (xi 38), .int (xi 39), .int (xi 40)])), ((ux 45), .inl (g.2 0, 20, .inl (xa 29))), ((ux 46), .inr (6, [.ref (ux 47), .int (xi 41), .int (xi 42), .int (xi 43)])), ((ux 47), .inl (g.2 0, 20, .inl (xa 30))), ((ux 48), .inr (6, [.ref (ux 49), .int (xi 44), .int (xi 45), .int (xi 46)])), ((ux 49), .inl (g.2 0, 20, .inl (xa 31))), ((q 1), .inl (g.2 0, 4, .inl (a 1))), ((q 2), .inl (g.2 0, 4, .inl (a 2))), ((q 3), .inl (g.2 0, 80, .inl (a 3))), ((q 4), .inl (g.2 0, 20, .inl (a 4)))]) hP hD [51, 68, 69, 70, 71, 65, 59, 57, 58, 67, 66, 56, 63, 61, 60, 64, 74, 75, 76, 73, 62, 72, 77, 78, 79, 80, 81, 82, 83, 84, 85, 86, 87, 88, 89, 90] [0, 1, 2, 3, 4, 5, 6, 7, 8, 9, 10, 11, 12, 13, 14, 15, 16, 17, 18, 19, 20, 21, 22, 23, 24, 25, 26, 27, 28, 29, 30, 31, 32, 33, 34, 35, 36, 37, 38, 39, 40, 41, 42, 43, 44, 45, 46, 47, 48, 49, 50, 52, 53, 54, 55] rfl rfl (by decide +kernel) (by decide +kernel) (by decide +kernel)) hA hS (fun r25 u26 H locs hw hP hD hS => ?_)
  obtain ⟨x27, x28, x29, x30, x31, x32, x33, x34, x35, x36, x37, x38, x39, x40, x41, x42, x43, x44, x45, x46, x47, x48, x49, x50, x51, x52, x53, x54, x55, x56⟩ := u26
  obtain ⟨f57, f58, f59, f60, f61, f62, f63, f64, f65, f66, f67, f68, f69⟩ := hw
  replace hP : va_P g.1 vwCl (wXM g ho ux (upd (upd (upd (upd (upd (upd (upd (upd (upd (upd xi 23 x3) 24 x7) 25 x8) 26 x9) 27 x10) 28 x11) 29 x12) 30 x13) 31 x14) 32 x15) (vp_updL (vp_updL (vp_updL xl 3 x16) 4 x17) 5 x18) (va_up (va_up (va_up (va_up (va_up (va_up (va_up (va_up (va_up xa 16 x4) 17 x5) 18 x6) 19 x19) 20 x20) 21 x21) 22 x22) 23 x23) 24 x24) fc hm q (upd (upd (upd (upd (upd (upd (upd (upd (upd i 23 x27) 29 x28) 31 x29) 32 x30) 33 x31) 34 x32) 35 x33) 40 x37) 64 x38) (vp_updL (vp_updL (vp_updL L 37 x34) 38 x35) 39 x36) (va_up (va_up (va_up (va_up (va_up (va_up (va_up (va_up (va_up (va_up (va_up (va_up (va_up (va_up (va_up (va_up (va_up a 11 x40) 16 x43) 17 x39) 18 x42) 19 x41) 36 x48) 41 x47) 42 x44) 43 x45) 44 x46) 56 x49) 57 x50) 58 x51) 59 x52) 60 x53) 61 x54) 62 x55) x56 ++ cysW g cs) H := hP.part [0, 1, 2, 3, 4, 5, 6, 7, 8, 9, 10, 11, 12, 13, 14, 15, 16, 17, 18, 19, 20, 21, 22, 23, 24, 25, 26, 27, 28, 29, 30, 31, 32, 33, 34, 35, 36, 37, 38, 39, 40, 41, 42, 43, 44, 45, 46, 47, 48, 49, 50, 55, 51, 52, 53, 54, 66, 62, 63, 61, 69, 68, 75, 67, 70, 60, 65, 64, 56, 57, 58, 59, 76, 74, 71, 72, 73, 77, 78, 79, 80, 81, 82, 83, 84, 85, 86, 87, 88, 89, 90] rfl
  replace hD : va_D (fun q : Nat => s.heap.size ≤ q) (wXM g ho ux (upd (upd (upd (upd (upd (upd (upd (upd (upd (upd xi 23 x3) 24 x7) 25 x8) 26 x9) 27 x10) 28 x11) 29 x12) 30 x13) 31 x14) 32 x15) (vp_updL (vp_updL (vp_updL xl 3 x16) 4 x17) 5 x18) (va_up (va_up (va_up (va_up (va_up (va_up (va_up (va_up (va_up xa 16 x4) 17 x5) 18 x6) 19 x19) 20 x20) 21 x21) 22 x22) 23 x23) 24 x24) fc hm q (upd (upd (upd (upd (upd (upd (upd (upd (upd i 23 x27) 29 x28) 31 x29) 32 x30) 33 x31) 34 x32) 35 x33) 40 x37) 64 x38) (vp_updL (vp_updL (vp_updL L 37 x34) 38 x35) 39 x36) (va_up (va_up (va_up (va_up (va_up (va_up (va_up (va_up (va_up (va_up (va_up (va_up (va_up (va_up (va_up (va_up (va_up a 11 x40) 16 x43) 17 x39) 18 x42) 19 x41) 36 x48) 41 x47) 42 x44) 43 x45) 44 x46) 56 x49) 57 x50) 58 x51) 59 x52) 60 x53) 61 x54) 62 x55) x56 ++ cysW g cs) := hD.part [0, 1, 2, 3, 4, 5, 6, 7, 8, 9, 10, 11, 12, 13, 14, 15, 16, 17, 18, 19, 20, 21, 22, 23, 24, 25, 26, 27, 28, 29, 30, 31, 32, 33, 34, 35, 36, 37, 38, 39, 40, 41, 42, 43, 44, 45, 46, 47, 48, 49, 50, 55, 51, 52, 53, 54, 66, 62, 63, 61, 69, 68, 75, 67, 70, 60, 65, 64, 56, 57, 58, 59, 76, 74, 71, 72, 73, 77, 78, 79, 80, 81, 82, 83, 84, 85, 86, 87, 88, 89, 90] (by decide +kernel) rfl
  replace f57 : OB x40 := f57
  replace f58 : LB x43 := f58
  replace f59 : PB x46 := f59
  replace f60 : RI x47 := f60
  replace f61 : 0 ≤ (x28).toInt := f61
  replace f62 : 0 ≤ (x27).toInt ∧ (x27).toInt ≤ 5000 := f62
  replace f63 : 0 ≤ (x33).toInt ∧ (x33).toInt ≤ 6 := f63
  replace f64 : x29 = 0 ∨ x29 = 1 := f64
  replace f65 : EQn 6 x43 (a 16) := f65
  replace f66 : EQn 6 x42 (a 18) := f66
  replace f67 : OB x49 := f67
  replace f68 : LB x51 := f68
  replace f69 : x38 = 0 ∨ x38 = 1 := f69
  refine lv_pop hx hb dL_law_787 rfl ?_
  refine lv_goto (tgt := 1134) hx hb dL_law_788 (by decide) ?_
  have iv9 : FB (a 15) x43 := (FB.lk fb f58)
  have iv31 : B6 x42 := (B6_of b6 f66)
  have iv36 : EQn 6 (xa 0) x43 := (EQn.trans klk (EQn_symm f65))
  refine lv_iinc (v := nI (6 * (k + 1))) (lv' := [(3, .int (nI (6 * (k + 1)))), (2, .ref hm), (1, .ref ho), (0, .ref b)]) hx hb dL_law_1134 hl (k := 0) rfl (sc_next k) (by decide) rfl (fun ls hl => ?_)
  refine lv_goto (tgt := 18) hx hb dL_law_1137 (by decide) ?_
  exact ih ls H locs (cells) (slots) (upd (upd (upd (upd (upd (upd (upd (upd (upd (upd xi 23 x3) 24 x7) 25 x8) 26 x9) 27 x10) 28 x11) 29 x12) 30 x13) 31 x14) 32 x15) (vp_updL (vp_updL (vp_updL xl 3 x16) 4 x17) 5 x18) (va_up (va_up (va_up (va_up (va_up (va_up (va_up (va_up (va_up xa 16 x4) 17 x5) 18 x6) 19 x19) 20 x20) 21 x21) 22 x22) 23 x23) 24 x24) fc cs (upd (upd (upd (upd (upd (upd (upd (upd (upd i 23 x27) 29 x28) 31 x29) 32 x30) 33 x31) 34 x32) 35 x33) 40 x37) 64 x38) (vp_updL (vp_updL (vp_updL L 37 x34) 38 x35) 39 x36) (va_up (va_up (va_up (va_up (va_up (va_up (va_up (va_up (va_up (va_up (va_up (va_up (va_up (va_up (va_up (va_up (va_up a 11 x40) 16 x43) 17 x39) 18 x42) 19 x41) 36 x48) 41 x47) 42 x44) 43 x45) 44 x46) 56 x49) 57 x50) 58 x51) 59 x52) 60 x53) 61 x54) 62 x55) x56 (by omega) (by omega) ⟨hcs, tb, ln0, ln1, ln2, ln3, h7, mci, f57, iv9, f59, f60, h22, h24, f61, h5, f62, h20, hr25, hr27, h50, h51, o47, h52, hr54, f63, f64, f69, f67, f68, sz, iv31, nm, kc, kcr, kfl, iv36⟩ (lv_sub hl [0, 1, 2, 3] rfl) hP hD hS
set_option maxRecDepth 100000 in
set_option maxHeartbeats 4000000 in
theorem lc_sheet {p : Program} {l : Launch} {e : Env} {s : State} {m : MethodId} {below : List Frame} {meth : Method} {c : Code} {g : Gt} {b N ho hm : Nat} {ux q : Nat → Nat} {xs : Nat → Int32} (C : Ctx g p s m #[Value.ref b] meth c yL_law wsL_law cL_law 4 (some .boolean)) (hX : va_X b N xs s s.heap) (hbl : b < s.heap.size) (hL : N ≤ 3072) {n k : Nat} (hk : 6 * k + 6 ≤ N) (ih : LAt p l e s m below meth c g b ho hm ux q n (k + 1) 18) : LAt p l e s m below meth c g b ho hm ux q (n + 1) k 791 := by
  intro ls H locs cells slots xi xl xa fc cs i L a aL hcl hsl hinv hl hP hD hS
  obtain ⟨hcs, tb, ln0, ln1, ln2, ln3, h7, mci, ob, fb, pb, ri, h22, h24, h29, h5, h23, h20, hr25, hr27, h50, h51, o47, h52, hr54, h35, z31, z64, o56, l58, sz, b6, nm, kc, kcr, kfl, klk⟩ := hinv
  obtain ⟨hx, hb, hr, hts, hown, hlocks, hml, hin, hKN⟩ := id C
  have hK := hKN.1
  have hN := hKN.2
  have F : CallFix p m c cL_law 4 s _ wsL_law yL_law.cls := ⟨hx, hb, hml, hown, hts⟩
  have hA : ∀ q : Nat, s.heap.size ≤ q → (fun q : Nat => s.heap.size ≤ q) q := fun _ h => h
  have hbA : ¬ (fun q : Nat => s.heap.size ≤ q) b := Nat.not_le.mpr hbl
  refine lv_aload_n hx hb dL_law_791 rfl (lv_at hl 2 rfl) ?_
  refine lv_aload_n hx hb dL_law_792 rfl (lv_at hl 3 rfl) ?_
  refine lv_iload_n hx hb dL_law_793 rfl (lv_at hl 0 rfl) ?_
  refine lv_iconst (v := 1) hx hb dL_law_794 (by decide) ?_
  refine lv_iadd hx hb dL_law_795 ?_
  refine va_sld hx hb hX hbl hbA hS (sc_in (j := 1) (by decide) (by decide) hk hL) dL_law_796 ?_
  refine nx_i (v := xs (6 * k + 1)) (sc_ix (j := 1) (by decide) (by decide) hk hL) ?_
  refine lv_aload_n hx hb dL_law_797 rfl (lv_at hl 3 rfl) ?_
  refine lv_iload_n hx hb dL_law_798 rfl (lv_at hl 0 rfl) ?_
  refine lv_iconst (v := 2) hx hb dL_law_799 (by decide) ?_
  refine lv_iadd hx hb dL_law_800 ?_
  refine va_sld hx hb hX hbl hbA hS (sc_in (j := 2) (by decide) (by decide) hk hL) dL_law_801 ?_
  refine nx_i (v := xs (6 * k + 2)) (sc_ix (j := 2) (by decide) (by decide) hk hL) ?_
  refine lv_aload_n hx hb dL_law_802 rfl (lv_at hl 3 rfl) ?_
  refine lv_iload_n hx hb dL_law_803 rfl (lv_at hl 0 rfl) ?_
  refine lv_iconst (v := 3) hx hb dL_law_804 (by decide) ?_
  refine lv_iadd hx hb dL_law_805 ?_
  refine va_sld hx hb hX hbl hbA hS (sc_in (j := 3) (by decide) (by decide) hk hL) dL_law_806 ?_
  refine nx_i (v := xs (6 * k + 3)) (sc_ix (j := 3) (by decide) (by decide) hk hL) ?_
  refine kI (rnV (As := [.int (xs (6 * k + 1)), .int (xs (6 * k + 2)), .int (xs (6 * k + 3))]) (rest := []) (Cn := RX11) C (x_sheet l g ho (ux 40) (ux 41) (xi 0) (xi 1) (xi 2) (xi 3) (ux 3) (ux 8) (ux 14) (ux 19) (ux 24) (ux 29) (ux 35) (ux 36) (ux 0) (shF (ux 42) (ux 44) (ux 46) (ux 48)) (ux 42) (ux 43) (xi 35) (xi 36) (xi 37) (xa 28) (ux 44) (ux 45) (xi 38) (xi 39) (xi 40) (xa 29) (ux 46) (ux 47) (xi 41) (xi 42) (xi 43) (xa 30) (ux 48) (ux 49) (xi 44) (xi 45) (xi 46) (xa 31) (xs (6 * k + 1)) (xs (6 * k + 2)) (xs (6 * k + 3)) rfl ln0 ln1 ln2 ln3) 3 gL_law_X11_sheet rfl (by decide +kernel) ⟨(Nat.le_of_ble_eq_true rfl), (Nat.le_of_ble_eq_true rfl)⟩ hP (k := 0) (ci := 11) rfl rfl rfl rfl hl.1 rfl (Nat.le_of_ble_eq_true rfl) dL_law_807 ⟨(show cells + 0 ≤ 600000 by omega), (show slots + 0 ≤ 7302250 by omega)⟩) (spM (X := (wXM g ho ux xi xl xa fc hm q i L a aL)) (pl := cysW g cs) [true, false, false, false, false, false, false, false, false, false, false, false, false, false, false, false, false, false, false, false, false, false, false, false, false, false, false, false, false, false, false, false, false, false, false, false, false, false, false, false, false, true, false, true, true, true, true, true, true, true, true, false, false, false, false, false, false, false, false, false, false, false, false, false, false, false, false, false, false, false, false, false, false, false, false, false, false, false, false, false, false, false, false, false, false, false, false, false, false, false, false] hP hD rfl) hA hS (fun r1 u2 H locs hw hP hD hS => ?_)
  obtain ⟨x3, x4, x5, x6, x7, x8, x9, x10, x11, x12, x13, x14, x15, x16, x17, x18, x19⟩ := u2
  obtain ⟨f20, f21, f22, f23⟩ := hw
  replace hP : va_P g.1 vwCl (wXM g ho ux (upd (upd (upd (upd (upd (upd (upd (upd (upd (upd (upd (upd (upd xi 0 x3) 35 x4) 36 x5) 37 x6) 38 x8) 39 x9) 40 x10) 41 x12) 42 x13) 43 x14) 44 x16) 45 x17) 46 x18) xl (va_up (va_up (va_up (va_up xa 28 x7) 29 x11) 30 x15) 31 x19) fc hm q i L a aL ++ cysW g cs) H := hP
  replace hD : va_D (fun q : Nat => s.heap.size ≤ q) (wXM g ho ux (upd (upd (upd (upd (upd (upd (upd (upd (upd (upd (upd (upd (upd xi 0 x3) 35 x4) 36 x5) 37 x6) 38 x8) 39 x9) 40 x10) 41 x12) 42 x13) 43 x14) 44 x16) 45 x17) 46 x18) xl (va_up (va_up (va_up (va_up xa 28 x7) 29 x11) 30 x15) 31 x19) fc hm q i L a aL ++ cysW g cs) := hD
  replace f20 : 0 ≤ (x6).toInt ∧ (x6).toInt ≤ 20 := f20
  replace f21 : 0 ≤ (x10).toInt ∧ (x10).toInt ≤ 20 := f21
  replace f22 : 0 ≤ (x14).toInt ∧ (x14).toInt ≤ 20 := f22
  replace f23 : 0 ≤ (x18).toInt ∧ (x18).toInt ≤ 20 := f23
  refine lv_pop hx hb dL_law_810 rfl ?_
  refine lv_aload_n hx hb dL_law_811 rfl (lv_at hl 1 rfl) ?_
  refine lv_aload_n hx hb dL_law_812 rfl (lv_at hl 3 rfl) ?_
  refine lv_iload_n hx hb dL_law_813 rfl (lv_at hl 0 rfl) ?_
  refine lv_iconst (v := 1) hx hb dL_law_814 (by decide) ?_
  refine lv_iadd hx hb dL_law_815 ?_
  refine va_sld hx hb hX hbl hbA hS (sc_in (j := 1) (by decide) (by decide) hk hL) dL_law_816 ?_
  refine nx_i (v := xs (6 * k + 1)) (sc_ix (j := 1) (by decide) (by decide) hk hL) ?_
  refine lv_aload_n hx hb dL_law_817 rfl (lv_at hl 3 rfl) ?_
  refine lv_iload_n hx hb dL_law_818 rfl (lv_at hl 0 rfl) ?_
  refine lv_iconst (v := 2) hx hb dL_law_819 (by decide) ?_
  refine lv_iadd hx hb dL_law_820 ?_
  refine va_sld hx hb hX hbl hbA hS (sc_in (j := 2) (by decide) (by decide) hk hL) dL_law_821 ?_
  refine nx_i (v := xs (6 * k + 2)) (sc_ix (j := 2) (by decide) (by decide) hk hL) ?_
  refine lv_aload_n hx hb dL_law_822 rfl (lv_at hl 3 rfl) ?_
  refine lv_iload_n hx hb dL_law_823 rfl (lv_at hl 0 rfl) ?_
  refine lv_iconst (v := 3) hx hb dL_law_824 (by decide) ?_
  refine lv_iadd hx hb dL_law_825 ?_
  refine va_sld hx hb hX hbl hbA hS (sc_in (j := 3) (by decide) (by decide) hk hL) dL_law_826 ?_
  refine nx_i (v := xs (6 * k + 3)) (sc_ix (j := 3) (by decide) (by decide) hk hL) ?_
  refine kI (rnV (As := [.int (xs (6 * k + 1)), .int (xs (6 * k + 2)), .int (xs (6 * k + 3))]) (rest := []) (Cn := RX12) C (w_sheet l g hm q i L (a 1) (a 2) (a 3) (xs (6 * k + 1)) (xs (6 * k + 2)) (xs (6 * k + 3)) sz) 3 gL_law_X12_sheet rfl (by decide +kernel) ⟨(Nat.le_of_ble_eq_true rfl), (Nat.le_of_ble_eq_true rfl)⟩ hP (k := 51) (ci := 12) rfl rfl rfl rfl hl.1 rfl (Nat.le_of_ble_eq_true rfl) dL_law_827 ⟨(show cells + 0 ≤ 600000 by omega), (show slots + 0 ≤ 7302250 by omega)⟩) (spM (X := (wXM g ho ux (upd (upd (upd (upd (upd (upd (upd (upd (upd (upd (upd (upd (upd xi 0 x3) 35 x4) 36 x5) 37 x6) 38 x8) 39 x9) 40 x10) 41 x12) 42 x13) 43 x14) 44 x16) 45 x17) 46 x18) xl (va_up (va_up (va_up (va_up xa 28 x7) 29 x11) 30 x15) 31 x19) fc hm q i L a aL)) (pl := cysW g cs) [false, false, false, false, false, false, false, false, false, false, false, false, false, false, false, false, false, false, false, false, false, false, false, false, false, false, false, false, false, false, false, false, false, false, false, false, false, false, false, false, false, false, false, false, false, false, false, false, false, false, false, true, true, true, true, false, false, false, false, false, false, false, false, false, false, false, false, false, false, false, false, false, false, false, false, false, false, false, false, false, false, false, false, false, false, false, false, false, false, false, false] hP hD rfl) hA hS (fun r24 u25 H locs hw hP hD hS => ?_)
  obtain ⟨x26, x27, x28, x29⟩ := u25
  have f30 := hw
  replace hP : va_P g.1 vwCl (wXM g ho ux (upd (upd (upd (upd (upd (upd (upd (upd (upd (upd (upd (upd (upd xi 0 x3) 35 x4) 36 x5) 37 x6) 38 x8) 39 x9) 40 x10) 41 x12) 42 x13) 43 x14) 44 x16) 45 x17) 46 x18) xl (va_up (va_up (va_up (va_up xa 28 x7) 29 x11) 30 x15) 31 x19) fc hm q (upd i 0 x26) L (va_up (va_up (va_up a 1 x27) 2 x28) 3 x29) aL ++ cysW g cs) H := hP
  replace hD : va_D (fun q : Nat => s.heap.size ≤ q) (wXM g ho ux (upd (upd (upd (upd (upd (upd (upd (upd (upd (upd (upd (upd (upd xi 0 x3) 35 x4) 36 x5) 37 x6) 38 x8) 39 x9) 40 x10) 41 x12) 42 x13) 43 x14) 44 x16) 45 x17) 46 x18) xl (va_up (va_up (va_up (va_up xa 28 x7) 29 x11) 30 x15) 31 x19) fc hm q (upd i 0 x26) L (va_up (va_up (va_up a 1 x27) 2 x28) 3 x29) aL ++ cysW g cs) := hD
  replace f30 : SZ x27 := f30
  refine lv_pop hx hb dL_law_830 rfl ?_
  refine lv_goto (tgt := 1134) hx hb dL_law_831 (by decide) ?_
  refine lv_iinc (v := nI (6 * (k + 1))) (lv' := [(3, .int (nI (6 * (k + 1)))), (2, .ref hm), (1, .ref ho), (0, .ref b)]) hx hb dL_law_1134 hl (k := 0) rfl (sc_next k) (by decide) rfl (fun ls hl => ?_)
  refine lv_goto (tgt := 18) hx hb dL_law_1137 (by decide) ?_
  exact ih ls H locs (cells) (slots) (upd (upd (upd (upd (upd (upd (upd (upd (upd (upd (upd (upd (upd xi 0 x3) 35 x4) 36 x5) 37 x6) 38 x8) 39 x9) 40 x10) 41 x12) 42 x13) 43 x14) 44 x16) 45 x17) 46 x18) xl (va_up (va_up (va_up (va_up xa 28 x7) 29 x11) 30 x15) 31 x19) fc cs (upd i 0 x26) L (va_up (va_up (va_up a 1 x27) 2 x28) 3 x29) aL (by omega) (by omega) ⟨hcs, tb, f20, f21, f22, f23, h7, mci, ob, fb, pb, ri, h22, h24, h29, h5, h23, h20, hr25, hr27, h50, h51, o47, h52, hr54, h35, z31, z64, o56, l58, f30, b6, nm, kc, kcr, kfl, klk⟩ (lv_sub hl [0, 1, 2, 3] rfl) hP hD hS
set_option maxRecDepth 100000 in
set_option maxHeartbeats 4000000 in
theorem lc_lose {p : Program} {l : Launch} {e : Env} {s : State} {m : MethodId} {below : List Frame} {meth : Method} {c : Code} {g : Gt} {b N ho hm : Nat} {ux q : Nat → Nat} {xs : Nat → Int32} (C : Ctx g p s m #[Value.ref b] meth c yL_law wsL_law cL_law 4 (some .boolean)) (hX : va_X b N xs s s.heap) (hbl : b < s.heap.size) (hL : N ≤ 3072) {n k : Nat} (hk : 6 * k + 6 ≤ N) (ih : LAt p l e s m below meth c g b ho hm ux q n (k + 1) 18) : LAt p l e s m below meth c g b ho hm ux q (n + 1) k 834 := by
  intro ls H locs cells slots xi xl xa fc cs i L a aL hcl hsl hinv hl hP hD hS
  obtain ⟨hcs, tb, ln0, ln1, ln2, ln3, h7, mci, ob, fb, pb, ri, h22, h24, h29, h5, h23, h20, hr25, hr27, h50, h51, o47, h52, hr54, h35, z31, z64, o56, l58, sz, b6, nm, kc, kcr, kfl, klk⟩ := hinv
  obtain ⟨hx, hb, hr, hts, hown, hlocks, hml, hin, hKN⟩ := id C
  have hK := hKN.1
  have hN := hKN.2
  have F : CallFix p m c cL_law 4 s _ wsL_law yL_law.cls := ⟨hx, hb, hml, hown, hts⟩
  have hA : ∀ q : Nat, s.heap.size ≤ q → (fun q : Nat => s.heap.size ≤ q) q := fun _ h => h
  have hbA : ¬ (fun q : Nat => s.heap.size ≤ q) b := Nat.not_le.mpr hbl
  refine lv_aload_n hx hb dL_law_834 rfl (lv_at hl 2 rfl) ?_
  refine lv_aload_n hx hb dL_law_835 rfl (lv_at hl 3 rfl) ?_
  refine lv_iload_n hx hb dL_law_836 rfl (lv_at hl 0 rfl) ?_
  refine lv_iconst (v := 1) hx hb dL_law_837 (by decide) ?_
  refine lv_iadd hx hb dL_law_838 ?_
  refine va_sld hx hb hX hbl hbA hS (sc_in (j := 1) (by decide) (by decide) hk hL) dL_law_839 ?_
  refine nx_i (v := xs (6 * k + 1)) (sc_ix (j := 1) (by decide) (by decide) hk hL) ?_
  refine kI (rnV (As := [.int (xs (6 * k + 1))]) (rest := []) (Cn := RX11) C (x_lose l g ho (ux 40) (ux 41) (xi 0) (xi 1) (xi 2) (xi 3) (ux 3) (ux 8) (ux 14) (ux 19) (ux 24) (ux 29) (ux 35) (ux 36) (ux 0) (shF (ux 42) (ux 44) (ux 46) (ux 48)) (ux 42) (ux 43) (xi 35) (xi 36) (xi 37) (xa 28) (ux 44) (ux 45) (xi 38) (xi 39) (xi 40) (xa 29) (ux 46) (ux 47) (xi 41) (xi 42) (xi 43) (xa 30) (ux 48) (ux 49) (xi 44) (xi 45) (xi 46) (xa 31) (xs (6 * k + 1)) rfl) 1 gL_law_X11_lose rfl (by decide +kernel) ⟨(Nat.le_of_ble_eq_true rfl), (Nat.le_of_ble_eq_true rfl)⟩ hP (k := 0) (ci := 11) rfl rfl rfl rfl hl.1 rfl (Nat.le_of_ble_eq_true rfl) dL_law_840 ⟨(show cells + 0 ≤ 600000 by omega), (show slots + 0 ≤ 7302250 by omega)⟩) (spM (X := (wXM g ho ux xi xl xa fc hm q i L a aL)) (pl := cysW g cs) [true, false, false, false, false, false, false, false, false, false, false, false, false, false, false, false, false, false, false, false, false, false, false, false, false, false, false, false, false, false, false, false, false, false, false, false, false, false, false, false, false, true, false, true, true, true, true, true, true, true, true, false, false, false, false, false, false, false, false, false, false, false, false, false, false, false, false, false, false, false, false, false, false, false, false, false, false, false, false, false, false, false, false, false, false, false, false, false, false, false, false] hP hD rfl) hA hS (fun r1 u2 H locs hw hP hD hS => ?_)
  obtain ⟨x3, x4, x5, x6⟩ := u2
  replace hP : va_P g.1 vwCl (wXM g ho ux (upd (upd (upd (upd xi 35 x3) 38 x4) 41 x5) 44 x6) xl xa fc hm q i L a aL ++ cysW g cs) H := hP
  replace hD : va_D (fun q : Nat => s.heap.size ≤ q) (wXM g ho ux (upd (upd (upd (upd xi 35 x3) 38 x4) 41 x5) 44 x6) xl xa fc hm q i L a aL ++ cysW g cs) := hD
  refine lv_pop hx hb dL_law_843 rfl ?_
  refine lv_aload_n hx hb dL_law_844 rfl (lv_at hl 1 rfl) ?_
  refine lv_aload_n hx hb dL_law_845 rfl (lv_at hl 3 rfl) ?_
  refine lv_iload_n hx hb dL_law_846 rfl (lv_at hl 0 rfl) ?_
  refine lv_iconst (v := 1) hx hb dL_law_847 (by decide) ?_
  refine lv_iadd hx hb dL_law_848 ?_
  refine va_sld hx hb hX hbl hbA hS (sc_in (j := 1) (by decide) (by decide) hk hL) dL_law_849 ?_
  refine nx_i (v := xs (6 * k + 1)) (sc_ix (j := 1) (by decide) (by decide) hk hL) ?_
  refine kI (rnV (As := [.int (xs (6 * k + 1))]) (rest := []) (Cn := RX12) C (w_lose l g hm q i L (a 1) (xs (6 * k + 1)) sz) 1 gL_law_X12_lose rfl (by decide +kernel) ⟨(Nat.le_of_ble_eq_true rfl), (Nat.le_of_ble_eq_true rfl)⟩ hP (k := 51) (ci := 12) rfl rfl rfl rfl hl.1 rfl (Nat.le_of_ble_eq_true rfl) dL_law_850 ⟨(show cells + 0 ≤ 600000 by omega), (show slots + 0 ≤ 7302250 by omega)⟩) (spM (X := (wXM g ho ux (upd (upd (upd (upd xi 35 x3) 38 x4) 41 x5) 44 x6) xl xa fc hm q i L a aL)) (pl := cysW g cs) [false, false, false, false, false, false, false, false, false, false, false, false, false, false, false, false, false, false, false, false, false, false, false, false, false, false, false, false, false, false, false, false, false, false, false, false, false, false, false, false, false, false, false, false, false, false, false, false, false, false, false, true, true, false, false, false, false, false, false, false, false, false, false, false, false, false, false, false, false, false, false, false, false, false, false, false, false, false, false, false, false, false, false, false, false, false, false, false, false, false, false] hP hD rfl) hA hS (fun r7 u8 H locs hw hP hD hS => ?_)
  have f10 := hw
  replace hP : va_P g.1 vwCl (wXM g ho ux (upd (upd (upd (upd xi 35 x3) 38 x4) 41 x5) 44 x6) xl xa fc hm q i L (va_up a 1 u8) aL ++ cysW g cs) H := hP
  replace hD : va_D (fun q : Nat => s.heap.size ≤ q) (wXM g ho ux (upd (upd (upd (upd xi 35 x3) 38 x4) 41 x5) 44 x6) xl xa fc hm q i L (va_up a 1 u8) aL ++ cysW g cs) := hD
  refine lv_pop hx hb dL_law_853 rfl ?_
  refine lv_goto (tgt := 1134) hx hb dL_law_854 (by decide) ?_
  refine lv_iinc (v := nI (6 * (k + 1))) (lv' := [(3, .int (nI (6 * (k + 1)))), (2, .ref hm), (1, .ref ho), (0, .ref b)]) hx hb dL_law_1134 hl (k := 0) rfl (sc_next k) (by decide) rfl (fun ls hl => ?_)
  refine lv_goto (tgt := 18) hx hb dL_law_1137 (by decide) ?_
  exact ih ls H locs (cells) (slots) (upd (upd (upd (upd xi 35 x3) 38 x4) 41 x5) 44 x6) xl xa fc cs i L (va_up a 1 u8) aL (by omega) (by omega) ⟨hcs, tb, ln0, ln1, ln2, ln3, h7, mci, ob, fb, pb, ri, h22, h24, h29, h5, h23, h20, hr25, hr27, h50, h51, o47, h52, hr54, h35, z31, z64, o56, l58, f10, b6, nm, kc, kcr, kfl, klk⟩ (lv_sub hl [0, 1, 2, 3] rfl) hP hD hS
set_option maxRecDepth 100000 in
set_option maxHeartbeats 4000000 in
theorem lc_put {p : Program} {l : Launch} {e : Env} {s : State} {m : MethodId} {below : List Frame} {meth : Method} {c : Code} {g : Gt} {b N ho hm : Nat} {ux q : Nat → Nat} {xs : Nat → Int32} (C : Ctx g p s m #[Value.ref b] meth c yL_law wsL_law cL_law 4 (some .boolean)) (hX : va_X b N xs s s.heap) (hbl : b < s.heap.size) (hL : N ≤ 3072) {n k : Nat} (hk : 6 * k + 6 ≤ N) (ih : LAt p l e s m below meth c g b ho hm ux q n (k + 1) 18) : LAt p l e s m below meth c g b ho hm ux q (n + 1) k 857 := by
  intro ls H locs cells slots xi xl xa fc cs i L a aL hcl hsl hinv hl hP hD hS
  obtain ⟨hcs, tb, ln0, ln1, ln2, ln3, h7, mci, ob, fb, pb, ri, h22, h24, h29, h5, h23, h20, hr25, hr27, h50, h51, o47, h52, hr54, h35, z31, z64, o56, l58, sz, b6, nm, kc, kcr, kfl, klk⟩ := hinv
  obtain ⟨hx, hb, hr, hts, hown, hlocks, hml, hin, hKN⟩ := id C
  have hK := hKN.1
  have hN := hKN.2
  have F : CallFix p m c cL_law 4 s _ wsL_law yL_law.cls := ⟨hx, hb, hml, hown, hts⟩
  have hA : ∀ q : Nat, s.heap.size ≤ q → (fun q : Nat => s.heap.size ≤ q) q := fun _ h => h
  have hbA : ¬ (fun q : Nat => s.heap.size ≤ q) b := Nat.not_le.mpr hbl
  refine lv_aload_n hx hb dL_law_857 rfl (lv_at hl 2 rfl) ?_
  refine lv_aload_n hx hb dL_law_858 rfl (lv_at hl 3 rfl) ?_
  refine lv_iload_n hx hb dL_law_859 rfl (lv_at hl 0 rfl) ?_
  refine lv_iconst (v := 1) hx hb dL_law_860 (by decide) ?_
  refine lv_iadd hx hb dL_law_861 ?_
  refine va_sld hx hb hX hbl hbA hS (sc_in (j := 1) (by decide) (by decide) hk hL) dL_law_862 ?_
  refine nx_i (v := xs (6 * k + 1)) (sc_ix (j := 1) (by decide) (by decide) hk hL) ?_
  refine lv_aload_n hx hb dL_law_863 rfl (lv_at hl 3 rfl) ?_
  refine lv_iload_n hx hb dL_law_864 rfl (lv_at hl 0 rfl) ?_
  refine lv_iconst (v := 2) hx hb dL_law_865 (by decide) ?_
  refine lv_iadd hx hb dL_law_866 ?_
  refine va_sld hx hb hX hbl hbA hS (sc_in (j := 2) (by decide) (by decide) hk hL) dL_law_867 ?_
  refine nx_i (v := xs (6 * k + 2)) (sc_ix (j := 2) (by decide) (by decide) hk hL) ?_
  refine lv_aload_n hx hb dL_law_868 rfl (lv_at hl 3 rfl) ?_
  refine lv_iload_n hx hb dL_law_869 rfl (lv_at hl 0 rfl) ?_
  refine lv_iconst (v := 3) hx hb dL_law_870 (by decide) ?_
  refine lv_iadd hx hb dL_law_871 ?_
  refine va_sld hx hb hX hbl hbA hS (sc_in (j := 3) (by decide) (by decide) hk hL) dL_law_872 ?_
  refine nx_i (v := xs (6 * k + 3)) (sc_ix (j := 3) (by decide) (by decide) hk hL) ?_
  refine kI (rnV (As := [.int (xs (6 * k + 1)), .int (xs (6 * k + 2)), .int (xs (6 * k + 3))]) (rest := []) (Cn := RX11) C (x_put l g ho (ux 40) (ux 41) (xi 0) (xi 1) (xi 2) (xi 3) (ux 3) (ux 8) (ux 14) (ux 19) (ux 24) (ux 29) (ux 35) (ux 36) (ux 0) (shF (ux 42) (ux 44) (ux 46) (ux 48)) (ux 42) (ux 43) (xi 35) (xi 36) (xi 37) (xa 28) (ux 44) (ux 45) (xi 38) (xi 39) (xi 40) (xa 29) (ux 46) (ux 47) (xi 41) (xi 42) (xi 43) (xa 30) (ux 48) (ux 49) (xi 44) (xi 45) (xi 46) (xa 31) (xs (6 * k + 1)) (xs (6 * k + 2)) (xs (6 * k + 3)) rfl) 3 gL_law_X11_put rfl (by decide +kernel) ⟨(Nat.le_of_ble_eq_true rfl), (Nat.le_of_ble_eq_true rfl)⟩ hP (k := 0) (ci := 11) rfl rfl rfl rfl hl.1 rfl (Nat.le_of_ble_eq_true rfl) dL_law_873 ⟨(show cells + 0 ≤ 600000 by omega), (show slots + 0 ≤ 7302250 by omega)⟩) (spM (X := (wXM g ho ux xi xl xa fc hm q i L a aL)) (pl := cysW g cs) [true, false, false, false, false, false, false, false, false, false, false, false, false, false, false, false, false, false, false, false, false, false, false, false, false, false, false, false, false, false, false, false, false, false, false, false, false, false, false, false, false, true, false, true, true, true, true, true, true, true, true, false, false, false, false, false, false, false, false, false, false, false, false, false, false, false, false, false, false, false, false, false, false, false, false, false, false, false, false, false, false, false, false, false, false, false, false, false, false, false, false] hP hD rfl) hA hS (fun r1 u2 H locs hw hP hD hS => ?_)
  obtain ⟨x3, x4, x5, x6, x7⟩ := u2
  replace hP : va_P g.1 vwCl (wXM g ho ux (upd xi 0 x3) xl (va_up (va_up (va_up (va_up xa 28 x4) 29 x5) 30 x6) 31 x7) fc hm q i L a aL ++ cysW g cs) H := hP
  replace hD : va_D (fun q : Nat => s.heap.size ≤ q) (wXM g ho ux (upd xi 0 x3) xl (va_up (va_up (va_up (va_up xa 28 x4) 29 x5) 30 x6) 31 x7) fc hm q i L a aL ++ cysW g cs) := hD
  refine lv_pop hx hb dL_law_876 rfl ?_
  refine lv_aload_n hx hb dL_law_877 rfl (lv_at hl 1 rfl) ?_
  refine lv_aload_n hx hb dL_law_878 rfl (lv_at hl 3 rfl) ?_
  refine lv_iload_n hx hb dL_law_879 rfl (lv_at hl 0 rfl) ?_
  refine lv_iconst (v := 1) hx hb dL_law_880 (by decide) ?_
  refine lv_iadd hx hb dL_law_881 ?_
  refine va_sld hx hb hX hbl hbA hS (sc_in (j := 1) (by decide) (by decide) hk hL) dL_law_882 ?_
  refine nx_i (v := xs (6 * k + 1)) (sc_ix (j := 1) (by decide) (by decide) hk hL) ?_
  refine lv_aload_n hx hb dL_law_883 rfl (lv_at hl 3 rfl) ?_
  refine lv_iload_n hx hb dL_law_884 rfl (lv_at hl 0 rfl) ?_
  refine lv_iconst (v := 2) hx hb dL_law_885 (by decide) ?_
  refine lv_iadd hx hb dL_law_886 ?_
  refine va_sld hx hb hX hbl hbA hS (sc_in (j := 2) (by decide) (by decide) hk hL) dL_law_887 ?_
  refine nx_i (v := xs (6 * k + 2)) (sc_ix (j := 2) (by decide) (by decide) hk hL) ?_
  refine lv_aload_n hx hb dL_law_888 rfl (lv_at hl 3 rfl) ?_
  refine lv_iload_n hx hb dL_law_889 rfl (lv_at hl 0 rfl) ?_
  refine lv_iconst (v := 3) hx hb dL_law_890 (by decide) ?_
  refine lv_iadd hx hb dL_law_891 ?_
  refine va_sld hx hb hX hbl hbA hS (sc_in (j := 3) (by decide) (by decide) hk hL) dL_law_892 ?_
  refine nx_i (v := xs (6 * k + 3)) (sc_ix (j := 3) (by decide) (by decide) hk hL) ?_
  refine kI (rnV (As := [.int (xs (6 * k + 1)), .int (xs (6 * k + 2)), .int (xs (6 * k + 3))]) (rest := []) (Cn := RX12) C (w_put l g hm q i L (a 1) (a 2) (a 3) (xs (6 * k + 1)) (xs (6 * k + 2)) (xs (6 * k + 3)) sz) 3 gL_law_X12_put rfl (by decide +kernel) ⟨(Nat.le_of_ble_eq_true rfl), (Nat.le_of_ble_eq_true rfl)⟩ hP (k := 51) (ci := 12) rfl rfl rfl rfl hl.1 rfl (Nat.le_of_ble_eq_true rfl) dL_law_893 ⟨(show cells + 0 ≤ 600000 by omega), (show slots + 0 ≤ 7302250 by omega)⟩) (spM (X := (wXM g ho ux (upd xi 0 x3) xl (va_up (va_up (va_up (va_up xa 28 x4) 29 x5) 30 x6) 31 x7) fc hm q i L a aL)) (pl := cysW g cs) [false, false, false, false, false, false, false, false, false, false, false, false, false, false, false, false, false, false, false, false, false, false, false, false, false, false, false, false, false, false, false, false, false, false, false, false, false, false, false, false, false, false, false, false, false, false, false, false, false, false, false, true, true, true, true, false, false, false, false, false, false, false, false, false, false, false, false, false, false, false, false, false, false, false, false, false, false, false, false, false, false, false, false, false, false, false, false, false, false, false, false] hP hD rfl) hA hS (fun r8 u9 H locs hw hP hD hS => ?_)
  obtain ⟨x10, x11⟩ := u9
  replace hP : va_P g.1 vwCl (wXM g ho ux (upd xi 0 x3) xl (va_up (va_up (va_up (va_up xa 28 x4) 29 x5) 30 x6) 31 x7) fc hm q (upd i 0 x10) L (va_up a 3 x11) aL ++ cysW g cs) H := hP
  replace hD : va_D (fun q : Nat => s.heap.size ≤ q) (wXM g ho ux (upd xi 0 x3) xl (va_up (va_up (va_up (va_up xa 28 x4) 29 x5) 30 x6) 31 x7) fc hm q (upd i 0 x10) L (va_up a 3 x11) aL ++ cysW g cs) := hD
  refine lv_pop hx hb dL_law_896 rfl ?_
  refine lv_goto (tgt := 1134) hx hb dL_law_897 (by decide) ?_
  refine lv_iinc (v := nI (6 * (k + 1))) (lv' := [(3, .int (nI (6 * (k + 1)))), (2, .ref hm), (1, .ref ho), (0, .ref b)]) hx hb dL_law_1134 hl (k := 0) rfl (sc_next k) (by decide) rfl (fun ls hl => ?_)
  refine lv_goto (tgt := 18) hx hb dL_law_1137 (by decide) ?_
  exact ih ls H locs (cells) (slots) (upd xi 0 x3) xl (va_up (va_up (va_up (va_up xa 28 x4) 29 x5) 30 x6) 31 x7) fc cs (upd i 0 x10) L (va_up a 3 x11) aL (by omega) (by omega) ⟨hcs, tb, ln0, ln1, ln2, ln3, h7, mci, ob, fb, pb, ri, h22, h24, h29, h5, h23, h20, hr25, hr27, h50, h51, o47, h52, hr54, h35, z31, z64, o56, l58, sz, b6, nm, kc, kcr, kfl, klk⟩ (lv_sub hl [0, 1, 2, 3] rfl) hP hD hS
set_option maxRecDepth 100000 in
set_option maxHeartbeats 4000000 in
theorem lc_cell {p : Program} {l : Launch} {e : Env} {s : State} {m : MethodId} {below : List Frame} {meth : Method} {c : Code} {g : Gt} {b N ho hm : Nat} {ux q : Nat → Nat} {xs : Nat → Int32} (C : Ctx g p s m #[Value.ref b] meth c yL_law wsL_law cL_law 4 (some .boolean)) (hX : va_X b N xs s s.heap) (hbl : b < s.heap.size) (hL : N ≤ 3072) {n k : Nat} (hk : 6 * k + 6 ≤ N) (ih : LAt p l e s m below meth c g b ho hm ux q n (k + 1) 18) : LAt p l e s m below meth c g b ho hm ux q (n + 1) k 900 := by
  intro ls H locs cells slots xi xl xa fc cs i L a aL hcl hsl hinv hl hP hD hS
  obtain ⟨hcs, tb, ln0, ln1, ln2, ln3, h7, mci, ob, fb, pb, ri, h22, h24, h29, h5, h23, h20, hr25, hr27, h50, h51, o47, h52, hr54, h35, z31, z64, o56, l58, sz, b6, nm, kc, kcr, kfl, klk⟩ := hinv
  obtain ⟨hx, hb, hr, hts, hown, hlocks, hml, hin, hKN⟩ := id C
  have hK := hKN.1
  have hN := hKN.2
  have F : CallFix p m c cL_law 4 s _ wsL_law yL_law.cls := ⟨hx, hb, hml, hown, hts⟩
  have hA : ∀ q : Nat, s.heap.size ≤ q → (fun q : Nat => s.heap.size ≤ q) q := fun _ h => h
  have hbA : ¬ (fun q : Nat => s.heap.size ≤ q) b := Nat.not_le.mpr hbl
  refine lv_aload_n hx hb dL_law_900 rfl (lv_at hl 2 rfl) ?_
  refine lv_aload_n hx hb dL_law_901 rfl (lv_at hl 3 rfl) ?_
  refine lv_iload_n hx hb dL_law_902 rfl (lv_at hl 0 rfl) ?_
  refine lv_iconst (v := 1) hx hb dL_law_903 (by decide) ?_
  refine lv_iadd hx hb dL_law_904 ?_
  refine va_sld hx hb hX hbl hbA hS (sc_in (j := 1) (by decide) (by decide) hk hL) dL_law_905 ?_
  refine nx_i (v := xs (6 * k + 1)) (sc_ix (j := 1) (by decide) (by decide) hk hL) ?_
  refine lv_aload_n hx hb dL_law_906 rfl (lv_at hl 3 rfl) ?_
  refine lv_iload_n hx hb dL_law_907 rfl (lv_at hl 0 rfl) ?_
  refine lv_iconst (v := 2) hx hb dL_law_908 (by decide) ?_
  refine lv_iadd hx hb dL_law_909 ?_
  refine va_sld hx hb hX hbl hbA hS (sc_in (j := 2) (by decide) (by decide) hk hL) dL_law_910 ?_
  refine nx_i (v := xs (6 * k + 2)) (sc_ix (j := 2) (by decide) (by decide) hk hL) ?_
  refine lv_aload_n hx hb dL_law_911 rfl (lv_at hl 3 rfl) ?_
  refine lv_iload_n hx hb dL_law_912 rfl (lv_at hl 0 rfl) ?_
  refine lv_iconst (v := 3) hx hb dL_law_913 (by decide) ?_
  refine lv_iadd hx hb dL_law_914 ?_
  refine va_sld hx hb hX hbl hbA hS (sc_in (j := 3) (by decide) (by decide) hk hL) dL_law_915 ?_
  refine nx_i (v := xs (6 * k + 3)) (sc_ix (j := 3) (by decide) (by decide) hk hL) ?_
  refine kL (rnV (As := [.int (xs (6 * k + 1)), .int (xs (6 * k + 2)), .int (xs (6 * k + 3))]) (rest := []) (Cn := RX11) C (x_cell l g ho (ux 40) (ux 41) (xi 0) (xi 1) (xi 2) (xi 3) (ux 3) (ux 8) (ux 14) (ux 19) (ux 24) (ux 29) (ux 35) (ux 36) (ux 0) (shF (ux 42) (ux 44) (ux 46) (ux 48)) (ux 42) (ux 43) (xi 35) (xi 36) (xi 37) (xa 28) (ux 44) (ux 45) (xi 38) (xi 39) (xi 40) (xa 29) (ux 46) (ux 47) (xi 41) (xi 42) (xi 43) (xa 30) (ux 48) (ux 49) (xi 44) (xi 45) (xi 46) (xa 31) (xs (6 * k + 1)) (xs (6 * k + 2)) (xs (6 * k + 3)) rfl) 3 gL_law_X11_cell rfl (by decide +kernel) ⟨(Nat.le_of_ble_eq_true rfl), (Nat.le_of_ble_eq_true rfl)⟩ hP (k := 0) (ci := 11) rfl rfl rfl rfl hl.1 rfl (Nat.le_of_ble_eq_true rfl) dL_law_916 ⟨(show cells + 0 ≤ 600000 by omega), (show slots + 0 ≤ 7302250 by omega)⟩) (spM (X := (wXM g ho ux xi xl xa fc hm q i L a aL)) (pl := cysW g cs) [true, false, false, false, false, false, false, false, false, false, false, false, false, false, false, false, false, false, false, false, false, false, false, false, false, false, false, false, false, false, false, false, false, false, false, false, false, false, false, false, false, true, false, true, true, true, true, true, true, true, true, false, false, false, false, false, false, false, false, false, false, false, false, false, false, false, false, false, false, false, false, false, false, false, false, false, false, false, false, false, false, false, false, false, false, false, false, false, false, false, false] hP hD rfl) hA hS (fun r1 u2 H locs hw hP hD hS => ?_)
  replace hP : va_P g.1 vwCl (wXM g ho ux (upd xi 0 u2) xl xa fc hm q i L a aL ++ cysW g cs) H := hP
  replace hD : va_D (fun q : Nat => s.heap.size ≤ q) (wXM g ho ux (upd xi 0 u2) xl xa fc hm q i L a aL ++ cysW g cs) := hD
  refine lv_pop2_2 hx hb dL_law_919 rfl ?_
  refine lv_aload_n hx hb dL_law_920 rfl (lv_at hl 1 rfl) ?_
  refine lv_aload_n hx hb dL_law_921 rfl (lv_at hl 3 rfl) ?_
  refine lv_iload_n hx hb dL_law_922 rfl (lv_at hl 0 rfl) ?_
  refine lv_iconst (v := 1) hx hb dL_law_923 (by decide) ?_
  refine lv_iadd hx hb dL_law_924 ?_
  refine va_sld hx hb hX hbl hbA hS (sc_in (j := 1) (by decide) (by decide) hk hL) dL_law_925 ?_
  refine nx_i (v := xs (6 * k + 1)) (sc_ix (j := 1) (by decide) (by decide) hk hL) ?_
  refine lv_aload_n hx hb dL_law_926 rfl (lv_at hl 3 rfl) ?_
  refine lv_iload_n hx hb dL_law_927 rfl (lv_at hl 0 rfl) ?_
  refine lv_iconst (v := 2) hx hb dL_law_928 (by decide) ?_
  refine lv_iadd hx hb dL_law_929 ?_
  refine va_sld hx hb hX hbl hbA hS (sc_in (j := 2) (by decide) (by decide) hk hL) dL_law_930 ?_
  refine nx_i (v := xs (6 * k + 2)) (sc_ix (j := 2) (by decide) (by decide) hk hL) ?_
  refine lv_aload_n hx hb dL_law_931 rfl (lv_at hl 3 rfl) ?_
  refine lv_iload_n hx hb dL_law_932 rfl (lv_at hl 0 rfl) ?_
  refine lv_iconst (v := 3) hx hb dL_law_933 (by decide) ?_
  refine lv_iadd hx hb dL_law_934 ?_
  refine va_sld hx hb hX hbl hbA hS (sc_in (j := 3) (by decide) (by decide) hk hL) dL_law_935 ?_
  refine nx_i (v := xs (6 * k + 3)) (sc_ix (j := 3) (by decide) (by decide) hk hL) ?_
  refine kL (rnV (As := [.int (xs (6 * k + 1)), .int (xs (6 * k + 2)), .int (xs (6 * k + 3))]) (rest := []) (Cn := RX12) C (w_cell l g hm q i L (a 1) (a 2) (a 3) (xs (6 * k + 1)) (xs (6 * k + 2)) (xs (6 * k + 3)) sz) 3 gL_law_X12_cell rfl (by decide +kernel) ⟨(Nat.le_of_ble_eq_true rfl), (Nat.le_of_ble_eq_true rfl)⟩ hP (k := 51) (ci := 12) rfl rfl rfl rfl hl.1 rfl (Nat.le_of_ble_eq_true rfl) dL_law_936 ⟨(show cells + 0 ≤ 600000 by omega), (show slots + 0 ≤ 7302250 by omega)⟩) (spM (X := (wXM g ho ux (upd xi 0 u2) xl xa fc hm q i L a aL)) (pl := cysW g cs) [false, false, false, false, false, false, false, false, false, false, false, false, false, false, false, false, false, false, false, false, false, false, false, false, false, false, false, false, false, false, false, false, false, false, false, false, false, false, false, false, false, false, false, false, false, false, false, false, false, false, false, true, true, true, true, false, false, false, false, false, false, false, false, false, false, false, false, false, false, false, false, false, false, false, false, false, false, false, false, false, false, false, false, false, false, false, false, false, false, false, false] hP hD rfl) hA hS (fun r4 u5 H locs hw hP hD hS => ?_)
  replace hP : va_P g.1 vwCl (wXM g ho ux (upd xi 0 u2) xl xa fc hm q (upd i 0 u5) L a aL ++ cysW g cs) H := hP
  replace hD : va_D (fun q : Nat => s.heap.size ≤ q) (wXM g ho ux (upd xi 0 u2) xl xa fc hm q (upd i 0 u5) L a aL ++ cysW g cs) := hD
  refine lv_pop2_2 hx hb dL_law_939 rfl ?_
  refine lv_goto (tgt := 1134) hx hb dL_law_940 (by decide) ?_
  refine lv_iinc (v := nI (6 * (k + 1))) (lv' := [(3, .int (nI (6 * (k + 1)))), (2, .ref hm), (1, .ref ho), (0, .ref b)]) hx hb dL_law_1134 hl (k := 0) rfl (sc_next k) (by decide) rfl (fun ls hl => ?_)
  refine lv_goto (tgt := 18) hx hb dL_law_1137 (by decide) ?_
  exact ih ls H locs (cells) (slots) (upd xi 0 u2) xl xa fc cs (upd i 0 u5) L a aL (by omega) (by omega) ⟨hcs, tb, ln0, ln1, ln2, ln3, h7, mci, ob, fb, pb, ri, h22, h24, h29, h5, h23, h20, hr25, hr27, h50, h51, o47, h52, hr54, h35, z31, z64, o56, l58, sz, b6, nm, kc, kcr, kfl, klk⟩ (lv_sub hl [0, 1, 2, 3] rfl) hP hD hS
set_option maxRecDepth 100000 in
set_option maxHeartbeats 4000000 in
theorem lc_copy {p : Program} {l : Launch} {e : Env} {s : State} {m : MethodId} {below : List Frame} {meth : Method} {c : Code} {g : Gt} {b N ho hm : Nat} {ux q : Nat → Nat} {xs : Nat → Int32} (C : Ctx g p s m #[Value.ref b] meth c yL_law wsL_law cL_law 4 (some .boolean)) (hX : va_X b N xs s s.heap) (hbl : b < s.heap.size) (hL : N ≤ 3072) {n k : Nat} (hk : 6 * k + 6 ≤ N) (ih : LAt p l e s m below meth c g b ho hm ux q n (k + 1) 18) : LAt p l e s m below meth c g b ho hm ux q (n + 1) k 943 := by
  intro ls H locs cells slots xi xl xa fc cs i L a aL hcl hsl hinv hl hP hD hS
  obtain ⟨hcs, tb, ln0, ln1, ln2, ln3, h7, mci, ob, fb, pb, ri, h22, h24, h29, h5, h23, h20, hr25, hr27, h50, h51, o47, h52, hr54, h35, z31, z64, o56, l58, sz, b6, nm, kc, kcr, kfl, klk⟩ := hinv
  obtain ⟨hx, hb, hr, hts, hown, hlocks, hml, hin, hKN⟩ := id C
  have hK := hKN.1
  have hN := hKN.2
  have F : CallFix p m c cL_law 4 s _ wsL_law yL_law.cls := ⟨hx, hb, hml, hown, hts⟩
  have hA : ∀ q : Nat, s.heap.size ≤ q → (fun q : Nat => s.heap.size ≤ q) q := fun _ h => h
  have hbA : ¬ (fun q : Nat => s.heap.size ≤ q) b := Nat.not_le.mpr hbl
  refine lv_aload_n hx hb dL_law_943 rfl (lv_at hl 2 rfl) ?_
  refine lv_aload_n hx hb dL_law_944 rfl (lv_at hl 3 rfl) ?_
  refine lv_iload_n hx hb dL_law_945 rfl (lv_at hl 0 rfl) ?_
  refine lv_iconst (v := 1) hx hb dL_law_946 (by decide) ?_
  refine lv_iadd hx hb dL_law_947 ?_
  refine va_sld hx hb hX hbl hbA hS (sc_in (j := 1) (by decide) (by decide) hk hL) dL_law_948 ?_
  refine nx_i (v := xs (6 * k + 1)) (sc_ix (j := 1) (by decide) (by decide) hk hL) ?_
  refine lv_aload_n hx hb dL_law_949 rfl (lv_at hl 3 rfl) ?_
  refine lv_iload_n hx hb dL_law_950 rfl (lv_at hl 0 rfl) ?_
  refine lv_iconst (v := 2) hx hb dL_law_951 (by decide) ?_
  refine lv_iadd hx hb dL_law_952 ?_
  refine va_sld hx hb hX hbl hbA hS (sc_in (j := 2) (by decide) (by decide) hk hL) dL_law_953 ?_
  refine nx_i (v := xs (6 * k + 2)) (sc_ix (j := 2) (by decide) (by decide) hk hL) ?_
  refine lv_aload_n hx hb dL_law_954 rfl (lv_at hl 3 rfl) ?_
  refine lv_iload_n hx hb dL_law_955 rfl (lv_at hl 0 rfl) ?_
  refine lv_iconst (v := 3) hx hb dL_law_956 (by decide) ?_
  refine lv_iadd hx hb dL_law_957 ?_
  refine va_sld hx hb hX hbl hbA hS (sc_in (j := 3) (by decide) (by decide) hk hL) dL_law_958 ?_
  refine nx_i (v := xs (6 * k + 3)) (sc_ix (j := 3) (by decide) (by decide) hk hL) ?_
  refine lv_aload_n hx hb dL_law_959 rfl (lv_at hl 3 rfl) ?_
  refine lv_iload_n hx hb dL_law_960 rfl (lv_at hl 0 rfl) ?_
  refine lv_iconst (v := 4) hx hb dL_law_961 (by decide) ?_
  refine lv_iadd hx hb dL_law_962 ?_
  refine va_sld hx hb hX hbl hbA hS (sc_in (j := 4) (by decide) (by decide) hk hL) dL_law_963 ?_
  refine nx_i (v := xs (6 * k + 4)) (sc_ix (j := 4) (by decide) (by decide) hk hL) ?_
  refine lv_aload_n hx hb dL_law_964 rfl (lv_at hl 3 rfl) ?_
  refine lv_iload_n hx hb dL_law_965 rfl (lv_at hl 0 rfl) ?_
  refine lv_iconst (v := 5) hx hb dL_law_966 (by decide) ?_
  refine lv_iadd hx hb dL_law_967 ?_
  refine va_sld hx hb hX hbl hbA hS (sc_in (j := 5) (by decide) (by decide) hk hL) dL_law_968 ?_
  refine nx_i (v := xs (6 * k + 5)) (sc_ix (j := 5) (by decide) (by decide) hk hL) ?_
  refine kI (rnV (As := [.int (xs (6 * k + 1)), .int (xs (6 * k + 2)), .int (xs (6 * k + 3)), .int (xs (6 * k + 4)), .int (xs (6 * k + 5))]) (rest := []) (Cn := RX11) C (x_copy l g ho (ux 40) (ux 41) (xi 0) (xi 1) (xi 2) (xi 3) (ux 3) (ux 8) (ux 14) (ux 19) (ux 24) (ux 29) (ux 35) (ux 36) (ux 0) (shF (ux 42) (ux 44) (ux 46) (ux 48)) (ux 42) (ux 43) (xi 35) (xi 36) (xi 37) (xa 28) (ux 44) (ux 45) (xi 38) (xi 39) (xi 40) (xa 29) (ux 46) (ux 47) (xi 41) (xi 42) (xi 43) (xa 30) (ux 48) (ux 49) (xi 44) (xi 45) (xi 46) (xa 31) (xs (6 * k + 1)) (xs (6 * k + 2)) (xs (6 * k + 3)) (xs (6 * k + 4)) (xs (6 * k + 5)) rfl ln0 ln1 ln2 ln3) 5 gL_law_X11_copy rfl (by decide +kernel) ⟨(Nat.le_of_ble_eq_true rfl), (Nat.le_of_ble_eq_true rfl)⟩ hP (k := 0) (ci := 11) rfl rfl rfl rfl hl.1 rfl (Nat.le_of_ble_eq_true rfl) dL_law_969 ⟨(show cells + 0 ≤ 600000 by omega), (show slots + 0 ≤ 7302250 by omega)⟩) (spM (X := (wXM g ho ux xi xl xa fc hm q i L a aL)) (pl := cysW g cs) [true, false, false, false, false, false, false, false, false, false, false, false, false, false, false, false, false, false, false, false, false, false, false, false, false, false, false, false, false, false, false, false, false, false, false, false, false, false, false, false, false, true, false, true, true, true, true, true, true, true, true, false, false, false, false, false, false, false, false, false, false, false, false, false, false, false, false, false, false, false, false, false, false, false, false, false, false, false, false, false, false, false, false, false, false, false, false, false, false, false, false] hP hD rfl) hA hS (fun r1 u2 H locs hw hP hD hS => ?_)
  obtain ⟨x3, x4, x5, x6, x7⟩ := u2
  replace hP : va_P g.1 vwCl (wXM g ho ux (upd xi 0 x3) xl (va_up (va_up (va_up (va_up xa 28 x4) 29 x5) 30 x6) 31 x7) fc hm q i L a aL ++ cysW g cs) H := hP
  replace hD : va_D (fun q : Nat => s.heap.size ≤ q) (wXM g ho ux (upd xi 0 x3) xl (va_up (va_up (va_up (va_up xa 28 x4) 29 x5) 30 x6) 31 x7) fc hm q i L a aL ++ cysW g cs) := hD
  refine lv_pop hx hb dL_law_972 rfl ?_
  refine lv_aload_n hx hb dL_law_973 rfl (lv_at hl 1 rfl) ?_
  refine lv_aload_n hx hb dL_law_974 rfl (lv_at hl 3 rfl) ?_
  refine lv_iload_n hx hb dL_law_975 rfl (lv_at hl 0 rfl) ?_
  refine lv_iconst (v := 1) hx hb dL_law_976 (by decide) ?_
  refine lv_iadd hx hb dL_law_977 ?_
  refine va_sld hx hb hX hbl hbA hS (sc_in (j := 1) (by decide) (by decide) hk hL) dL_law_978 ?_
  refine nx_i (v := xs (6 * k + 1)) (sc_ix (j := 1) (by decide) (by decide) hk hL) ?_
  refine lv_aload_n hx hb dL_law_979 rfl (lv_at hl 3 rfl) ?_
  refine lv_iload_n hx hb dL_law_980 rfl (lv_at hl 0 rfl) ?_
  refine lv_iconst (v := 2) hx hb dL_law_981 (by decide) ?_
  refine lv_iadd hx hb dL_law_982 ?_
  refine va_sld hx hb hX hbl hbA hS (sc_in (j := 2) (by decide) (by decide) hk hL) dL_law_983 ?_
  refine nx_i (v := xs (6 * k + 2)) (sc_ix (j := 2) (by decide) (by decide) hk hL) ?_
  refine lv_aload_n hx hb dL_law_984 rfl (lv_at hl 3 rfl) ?_
  refine lv_iload_n hx hb dL_law_985 rfl (lv_at hl 0 rfl) ?_
  refine lv_iconst (v := 3) hx hb dL_law_986 (by decide) ?_
  refine lv_iadd hx hb dL_law_987 ?_
  refine va_sld hx hb hX hbl hbA hS (sc_in (j := 3) (by decide) (by decide) hk hL) dL_law_988 ?_
  refine nx_i (v := xs (6 * k + 3)) (sc_ix (j := 3) (by decide) (by decide) hk hL) ?_
  refine lv_aload_n hx hb dL_law_989 rfl (lv_at hl 3 rfl) ?_
  refine lv_iload_n hx hb dL_law_990 rfl (lv_at hl 0 rfl) ?_
  refine lv_iconst (v := 4) hx hb dL_law_991 (by decide) ?_
  refine lv_iadd hx hb dL_law_992 ?_
  refine va_sld hx hb hX hbl hbA hS (sc_in (j := 4) (by decide) (by decide) hk hL) dL_law_993 ?_
  refine nx_i (v := xs (6 * k + 4)) (sc_ix (j := 4) (by decide) (by decide) hk hL) ?_
  refine lv_aload_n hx hb dL_law_994 rfl (lv_at hl 3 rfl) ?_
  refine lv_iload_n hx hb dL_law_995 rfl (lv_at hl 0 rfl) ?_
  refine lv_iconst (v := 5) hx hb dL_law_996 (by decide) ?_
  refine lv_iadd hx hb dL_law_997 ?_
  refine va_sld hx hb hX hbl hbA hS (sc_in (j := 5) (by decide) (by decide) hk hL) dL_law_998 ?_
  refine nx_i (v := xs (6 * k + 5)) (sc_ix (j := 5) (by decide) (by decide) hk hL) ?_
  refine kI (rnV (As := [.int (xs (6 * k + 1)), .int (xs (6 * k + 2)), .int (xs (6 * k + 3)), .int (xs (6 * k + 4)), .int (xs (6 * k + 5))]) (rest := []) (Cn := RX12) C (w_copy l g hm q i L (a 1) (a 2) (a 3) (a 4) (xs (6 * k + 1)) (xs (6 * k + 2)) (xs (6 * k + 3)) (xs (6 * k + 4)) (xs (6 * k + 5)) sz) 5 gL_law_X12_copy rfl (by decide +kernel) ⟨(Nat.le_of_ble_eq_true rfl), (Nat.le_of_ble_eq_true rfl)⟩ hP (k := 51) (ci := 12) rfl rfl rfl rfl hl.1 rfl (Nat.le_of_ble_eq_true rfl) dL_law_999 ⟨(show cells + 0 ≤ 600000 by omega), (show slots + 0 ≤ 7302250 by omega)⟩) (spM (X := (wXM g ho ux (upd xi 0 x3) xl (va_up (va_up (va_up (va_up xa 28 x4) 29 x5) 30 x6) 31 x7) fc hm q i L a aL)) (pl := cysW g cs) [false, false, false, false, false, false, false, false, false, false, false, false, false, false, false, false, false, false, false, false, false, false, false, false, false, false, false, false, false, false, false, false, false, false, false, false, false, false, false, false, false, false, false, false, false, false, false, false, false, false, false, true, true, true, true, true, false, false, false, false, false, false, false, false, false, false, false, false, false, false, false, false, false, false, false, false, false, false, false, false, false, false, false, false, false, false, false, false, false, false, false] hP hD rfl) hA hS (fun r8 u9 H locs hw hP hD hS => ?_)
  obtain ⟨x10, x11, x12⟩ := u9
  replace hP : va_P g.1 vwCl (wXM g ho ux (upd xi 0 x3) xl (va_up (va_up (va_up (va_up xa 28 x4) 29 x5) 30 x6) 31 x7) fc hm q (upd i 0 x10) L (va_up (va_up a 3 x11) 4 x12) aL ++ cysW g cs) H := hP
  replace hD : va_D (fun q : Nat => s.heap.size ≤ q) (wXM g ho ux (upd xi 0 x3) xl (va_up (va_up (va_up (va_up xa 28 x4) 29 x5) 30 x6) 31 x7) fc hm q (upd i 0 x10) L (va_up (va_up a 3 x11) 4 x12) aL ++ cysW g cs) := hD
  refine lv_pop hx hb dL_law_1002 rfl ?_
  refine lv_goto (tgt := 1134) hx hb dL_law_1003 (by decide) ?_
  refine lv_iinc (v := nI (6 * (k + 1))) (lv' := [(3, .int (nI (6 * (k + 1)))), (2, .ref hm), (1, .ref ho), (0, .ref b)]) hx hb dL_law_1134 hl (k := 0) rfl (sc_next k) (by decide) rfl (fun ls hl => ?_)
  refine lv_goto (tgt := 18) hx hb dL_law_1137 (by decide) ?_
  exact ih ls H locs (cells) (slots) (upd xi 0 x3) xl (va_up (va_up (va_up (va_up xa 28 x4) 29 x5) 30 x6) 31 x7) fc cs (upd i 0 x10) L (va_up (va_up a 3 x11) 4 x12) aL (by omega) (by omega) ⟨hcs, tb, ln0, ln1, ln2, ln3, h7, mci, ob, fb, pb, ri, h22, h24, h29, h5, h23, h20, hr25, hr27, h50, h51, o47, h52, hr54, h35, z31, z64, o56, l58, sz, b6, nm, kc, kcr, kfl, klk⟩ (lv_sub hl [0, 1, 2, 3] rfl) hP hD hS
set_option maxRecDepth 100000 in
set_option maxHeartbeats 4000000 in
theorem lc_tell {p : Program} {l : Launch} {e : Env} {s : State} {m : MethodId} {below : List Frame} {meth : Method} {c : Code} {g : Gt} {b N ho hm : Nat} {ux q : Nat → Nat} {xs : Nat → Int32} (C : Ctx g p s m #[Value.ref b] meth c yL_law wsL_law cL_law 4 (some .boolean)) (hX : va_X b N xs s s.heap) (hbl : b < s.heap.size) (hL : N ≤ 3072) {n k : Nat} (hk : 6 * k + 6 ≤ N) (ih : LAt p l e s m below meth c g b ho hm ux q n (k + 1) 18) : LAt p l e s m below meth c g b ho hm ux q (n + 1) k 1006 := by
  intro ls H locs cells slots xi xl xa fc cs i L a aL hcl hsl hinv hl hP hD hS
  obtain ⟨hcs, tb, ln0, ln1, ln2, ln3, h7, mci, ob, fb, pb, ri, h22, h24, h29, h5, h23, h20, hr25, hr27, h50, h51, o47, h52, hr54, h35, z31, z64, o56, l58, sz, b6, nm, kc, kcr, kfl, klk⟩ := hinv
  obtain ⟨hx, hb, hr, hts, hown, hlocks, hml, hin, hKN⟩ := id C
  have hK := hKN.1
  have hN := hKN.2
  have F : CallFix p m c cL_law 4 s _ wsL_law yL_law.cls := ⟨hx, hb, hml, hown, hts⟩
  have hA : ∀ q : Nat, s.heap.size ≤ q → (fun q : Nat => s.heap.size ≤ q) q := fun _ h => h
  have hbA : ¬ (fun q : Nat => s.heap.size ≤ q) b := Nat.not_le.mpr hbl
  refine lv_aload_n hx hb dL_law_1006 rfl (lv_at hl 2 rfl) ?_
  refine lv_aload_n hx hb dL_law_1007 rfl (lv_at hl 3 rfl) ?_
  refine lv_iload_n hx hb dL_law_1008 rfl (lv_at hl 0 rfl) ?_
  refine lv_iconst (v := 1) hx hb dL_law_1009 (by decide) ?_
  refine lv_iadd hx hb dL_law_1010 ?_
  refine va_sld hx hb hX hbl hbA hS (sc_in (j := 1) (by decide) (by decide) hk hL) dL_law_1011 ?_
  refine nx_i (v := xs (6 * k + 1)) (sc_ix (j := 1) (by decide) (by decide) hk hL) ?_
  refine kI (rnV (As := [.int (xs (6 * k + 1))]) (rest := []) (Cn := RX11) C (x_tell l g ho (ux 40) (ux 41) (xi 0) (xi 1) (xi 2) (xi 3) (ux 3) (ux 8) (ux 14) (ux 19) (ux 24) (ux 29) (ux 35) (ux 36) (ux 0) (xi 4) (xi 5) (ux 1) (xi 6) (ux 2) fc (ux 4) (ux 5) (ux 6) (ux 7) (xi 7) (xa 1) (xi 34) (xs (6 * k + 1)) cs hcs) 1 gL_law_X11_tell rfl (by decide +kernel) ⟨(Nat.le_of_ble_eq_true rfl), (Nat.le_of_ble_eq_true rfl)⟩ hP (k := 0) (ci := 11) rfl rfl rfl rfl hl.1 rfl (Nat.le_of_ble_eq_true rfl) dL_law_1012 ⟨(show cells + 0 ≤ 600000 by omega), (show slots + 0 ≤ 7302250 by omega)⟩) (spMC (X := (wXM g ho ux xi xl xa fc hm q i L a aL)) (pl := cysW g cs) [true, true, true, false, true, true, false, false, false, false, false, false, false, false, false, false, false, false, false, false, false, false, false, false, false, false, false, false, false, false, false, false, false, false, false, false, false, false, false, false, false, false, true, false, false, false, false, false, false, false, false, false, false, false, false, false, false, false, false, false, false, false, false, false, false, false, false, false, false, false, false, false, false, false, false, false, false, false, false, false, false, false, false, false, false, false, false, false, false, false, false] hP hD rfl) hA hS (fun r1 u2 H locs hw hP hD hS => ?_)
  obtain ⟨f4, f5⟩ := hw
  replace hP : va_P g.1 vwCl (wXM g ho ux (upd xi 34 u2) xl xa fc hm q i L a aL ++ cysW g cs) H := hP
  replace hD : va_D (fun q : Nat => s.heap.size ≤ q) (wXM g ho ux (upd xi 34 u2) xl xa fc hm q i L a aL ++ cysW g cs) := hD
  refine lv_pop hx hb dL_law_1015 rfl ?_
  refine lv_aload_n hx hb dL_law_1016 rfl (lv_at hl 1 rfl) ?_
  refine lv_aload_n hx hb dL_law_1017 rfl (lv_at hl 3 rfl) ?_
  refine lv_iload_n hx hb dL_law_1018 rfl (lv_at hl 0 rfl) ?_
  refine lv_iconst (v := 1) hx hb dL_law_1019 (by decide) ?_
  refine lv_iadd hx hb dL_law_1020 ?_
  refine va_sld hx hb hX hbl hbA hS (sc_in (j := 1) (by decide) (by decide) hk hL) dL_law_1021 ?_
  refine nx_i (v := xs (6 * k + 1)) (sc_ix (j := 1) (by decide) (by decide) hk hL) ?_
  refine kI (rnV (As := [.int (xs (6 * k + 1))]) (rest := []) (Cn := RX12) C (g_tell l g hm q i L (a 8) (a 11) (xs (6 * k + 1)) h7) 1 gL_law_X12_tell rfl (by decide +kernel) ⟨(Nat.le_of_ble_eq_true rfl), (Nat.le_of_ble_eq_true rfl)⟩ hP (k := 51) (ci := 12) rfl rfl rfl rfl hl.1 rfl (Nat.le_of_ble_eq_true rfl) dL_law_1022 ⟨(show cells + 0 ≤ 600000 by omega), (show slots + 0 ≤ 7302250 by omega)⟩) (spM (X := (wXM g ho ux (upd xi 34 u2) xl xa fc hm q i L a aL)) (pl := cysW g cs) [false, false, false, false, false, false, false, false, false, false, false, false, false, false, false, false, false, false, false, false, false, false, false, false, false, false, false, false, false, false, false, false, false, false, false, false, false, false, false, false, false, false, false, false, false, false, false, false, false, false, false, true, false, false, false, false, true, false, false, true, false, false, false, false, false, false, false, false, false, false, false, false, false, false, false, false, false, false, false, false, false, false, false, false, false, false, false, false, false, false, false] hP hD rfl) hA hS (fun r6 u7 H locs hw hP hD hS => ?_)
  have hre := hw
  obtain ⟨y8, hy8⟩ : ∃ y9, (o_g_tell_65 i (a 8) (xs (6 * k + 1))) = y9 := ⟨_, rfl⟩
  rw [hy8] at hP hD
  replace hP : va_P g.1 vwCl (wXM g ho ux (upd xi 34 u2) xl xa fc hm q (upd i 65 y8) L a aL ++ cysW g cs) H := hP
  replace hD : va_D (fun q : Nat => s.heap.size ≤ q) (wXM g ho ux (upd xi 34 u2) xl xa fc hm q (upd i 65 y8) L a aL ++ cysW g cs) := hD
  refine nx_i (v := (r_g_tell i (a 8) (a 11) (xs (6 * k + 1)))) hre ?_
  refine lv_pop hx hb dL_law_1025 rfl ?_
  refine lv_goto (tgt := 1134) hx hb dL_law_1026 (by decide) ?_
  refine lv_iinc (v := nI (6 * (k + 1))) (lv' := [(3, .int (nI (6 * (k + 1)))), (2, .ref hm), (1, .ref ho), (0, .ref b)]) hx hb dL_law_1134 hl (k := 0) rfl (sc_next k) (by decide) rfl (fun ls hl => ?_)
  refine lv_goto (tgt := 18) hx hb dL_law_1137 (by decide) ?_
  exact ih ls H locs (cells) (slots) (upd xi 34 u2) xl xa fc cs (upd i 65 y8) L a aL (by omega) (by omega) ⟨hcs, tb, ln0, ln1, ln2, ln3, h7, mci, ob, fb, pb, ri, h22, h24, h29, h5, h23, h20, hr25, hr27, h50, h51, o47, h52, hr54, h35, z31, z64, o56, l58, sz, b6, nm, kc, kcr, kfl, klk⟩ (lv_sub hl [0, 1, 2, 3] rfl) hP hD hS
set_option maxRecDepth 100000 in
set_option maxHeartbeats 4000000 in
theorem lc_look {p : Program} {l : Launch} {e : Env} {s : State} {m : MethodId} {below : List Frame} {meth : Method} {c : Code} {g : Gt} {b N ho hm : Nat} {ux q : Nat → Nat} {xs : Nat → Int32} (C : Ctx g p s m #[Value.ref b] meth c yL_law wsL_law cL_law 4 (some .boolean)) (hX : va_X b N xs s s.heap) (hbl : b < s.heap.size) (hL : N ≤ 3072) {n k : Nat} (hk : 6 * k + 6 ≤ N) (ih : LAt p l e s m below meth c g b ho hm ux q n (k + 1) 18) : LAt p l e s m below meth c g b ho hm ux q (n + 1) k 1029 := by
  intro ls H locs cells slots xi xl xa fc cs i L a aL hcl hsl hinv hl hP hD hS
  obtain ⟨hcs, tb, ln0, ln1, ln2, ln3, h7, mci, ob, fb, pb, ri, h22, h24, h29, h5, h23, h20, hr25, hr27, h50, h51, o47, h52, hr54, h35, z31, z64, o56, l58, sz, b6, nm, kc, kcr, kfl, klk⟩ := hinv
  obtain ⟨hx, hb, hr, hts, hown, hlocks, hml, hin, hKN⟩ := id C
  have hK := hKN.1
  have hN := hKN.2
  have F : CallFix p m c cL_law 4 s _ wsL_law yL_law.cls := ⟨hx, hb, hml, hown, hts⟩
  have hA : ∀ q : Nat, s.heap.size ≤ q → (fun q : Nat => s.heap.size ≤ q) q := fun _ h => h
  have hbA : ¬ (fun q : Nat => s.heap.size ≤ q) b := Nat.not_le.mpr hbl
  refine lv_aload_n hx hb dL_law_1029 rfl (lv_at hl 2 rfl) ?_
  refine lv_aload_n hx hb dL_law_1030 rfl (lv_at hl 3 rfl) ?_
  refine lv_iload_n hx hb dL_law_1031 rfl (lv_at hl 0 rfl) ?_
  refine lv_iconst (v := 1) hx hb dL_law_1032 (by decide) ?_
  refine lv_iadd hx hb dL_law_1033 ?_
  refine va_sld hx hb hX hbl hbA hS (sc_in (j := 1) (by decide) (by decide) hk hL) dL_law_1034 ?_
  refine nx_i (v := xs (6 * k + 1)) (sc_ix (j := 1) (by decide) (by decide) hk hL) ?_
  refine kI (rnV (As := [.int (xs (6 * k + 1))]) (rest := []) (Cn := RX11) C (x_look l g ho (ux 40) (ux 41) (xi 0) (xi 1) (xi 2) (xi 3) (ux 3) (ux 8) (ux 14) (ux 19) (ux 24) (ux 29) (ux 35) (ux 36) (ux 0) (xi 4) (xi 5) (ux 1) (xi 6) (ux 2) fc (xi 34) (xs (6 * k + 1)) cs hcs nm) 1 gL_law_X11_look rfl (by decide +kernel) ⟨(Nat.le_of_ble_eq_true rfl), (Nat.le_of_ble_eq_true rfl)⟩ hP (k := 0) (ci := 11) rfl rfl rfl rfl hl.1 rfl (Nat.le_of_ble_eq_true rfl) dL_law_1035 ⟨(show cells + 0 ≤ 600000 by omega), (show slots + 0 ≤ 7302250 by omega)⟩) (spMC (X := (wXM g ho ux xi xl xa fc hm q i L a aL)) (pl := cysW g cs) [true, true, true, false, false, false, false, false, false, false, false, false, false, false, false, false, false, false, false, false, false, false, false, false, false, false, false, false, false, false, false, false, false, false, false, false, false, false, false, false, false, false, true, false, false, false, false, false, false, false, false, false, false, false, false, false, false, false, false, false, false, false, false, false, false, false, false, false, false, false, false, false, false, false, false, false, false, false, false, false, false, false, false, false, false, false, false, false, false, false, false] hP hD rfl) hA hS (fun r1 u2 H locs hw hP hD hS => ?_)
  obtain ⟨f4, f5⟩ := hw
  replace hP : va_P g.1 vwCl (wXM g ho ux (upd xi 34 u2) xl xa fc hm q i L a aL ++ cysW g cs) H := hP
  replace hD : va_D (fun q : Nat => s.heap.size ≤ q) (wXM g ho ux (upd xi 34 u2) xl xa fc hm q i L a aL ++ cysW g cs) := hD
  refine lv_pop hx hb dL_law_1038 rfl ?_
  refine lv_aload_n hx hb dL_law_1039 rfl (lv_at hl 1 rfl) ?_
  refine lv_aload_n hx hb dL_law_1040 rfl (lv_at hl 3 rfl) ?_
  refine lv_iload_n hx hb dL_law_1041 rfl (lv_at hl 0 rfl) ?_
  refine lv_iconst (v := 1) hx hb dL_law_1042 (by decide) ?_
  refine lv_iadd hx hb dL_law_1043 ?_
  refine va_sld hx hb hX hbl hbA hS (sc_in (j := 1) (by decide) (by decide) hk hL) dL_law_1044 ?_
  refine nx_i (v := xs (6 * k + 1)) (sc_ix (j := 1) (by decide) (by decide) hk hL) ?_
  refine kI (rnV (As := [.int (xs (6 * k + 1))]) (rest := []) (Cn := RX12) C (g_look l g hm q i L (a 8) (xs (6 * k + 1)) h7) 1 gL_law_X12_look rfl (by decide +kernel) ⟨(Nat.le_of_ble_eq_true rfl), (Nat.le_of_ble_eq_true rfl)⟩ hP (k := 51) (ci := 12) rfl rfl rfl rfl hl.1 rfl (Nat.le_of_ble_eq_true rfl) dL_law_1045 ⟨(show cells + 0 ≤ 600000 by omega), (show slots + 0 ≤ 7302250 by omega)⟩) (spM (X := (wXM g ho ux (upd xi 34 u2) xl xa fc hm q i L a aL)) (pl := cysW g cs) [false, false, false, false, false, false, false, false, false, false, false, false, false, false, false, false, false, false, false, false, false, false, false, false, false, false, false, false, false, false, false, false, false, false, false, false, false, false, false, false, false, false, false, false, false, false, false, false, false, false, false, true, false, false, false, false, true, false, false, false, false, false, false, false, false, false, false, false, false, false, false, false, false, false, false, false, false, false, false, false, false, false, false, false, false, false, false, false, false, false, false] hP hD rfl) hA hS (fun r6 u7 H locs hw hP hD hS => ?_)
  have hre := hw
  obtain ⟨y8, hy8⟩ : ∃ y9, (o_g_look_65 i (a 8) (xs (6 * k + 1))) = y9 := ⟨_, rfl⟩
  rw [hy8] at hP hD
  replace hP : va_P g.1 vwCl (wXM g ho ux (upd xi 34 u2) xl xa fc hm q (upd i 65 y8) L a aL ++ cysW g cs) H := hP
  replace hD : va_D (fun q : Nat => s.heap.size ≤ q) (wXM g ho ux (upd xi 34 u2) xl xa fc hm q (upd i 65 y8) L a aL ++ cysW g cs) := hD
  refine nx_i (v := (r_g_look i (a 8) (xs (6 * k + 1)))) hre ?_
  refine lv_pop hx hb dL_law_1048 rfl ?_
  refine lv_goto (tgt := 1134) hx hb dL_law_1049 (by decide) ?_
  refine lv_iinc (v := nI (6 * (k + 1))) (lv' := [(3, .int (nI (6 * (k + 1)))), (2, .ref hm), (1, .ref ho), (0, .ref b)]) hx hb dL_law_1134 hl (k := 0) rfl (sc_next k) (by decide) rfl (fun ls hl => ?_)
  refine lv_goto (tgt := 18) hx hb dL_law_1137 (by decide) ?_
  exact ih ls H locs (cells) (slots) (upd xi 34 u2) xl xa fc cs (upd i 65 y8) L a aL (by omega) (by omega) ⟨hcs, tb, ln0, ln1, ln2, ln3, h7, mci, ob, fb, pb, ri, h22, h24, h29, h5, h23, h20, hr25, hr27, h50, h51, o47, h52, hr54, h35, z31, z64, o56, l58, sz, b6, nm, kc, kcr, kfl, klk⟩ (lv_sub hl [0, 1, 2, 3] rfl) hP hD hS
set_option maxRecDepth 100000 in
set_option maxHeartbeats 4000000 in
theorem lc_as {p : Program} {l : Launch} {e : Env} {s : State} {m : MethodId} {below : List Frame} {meth : Method} {c : Code} {g : Gt} {b N ho hm : Nat} {ux q : Nat → Nat} {xs : Nat → Int32} (C : Ctx g p s m #[Value.ref b] meth c yL_law wsL_law cL_law 4 (some .boolean)) (hX : va_X b N xs s s.heap) (hbl : b < s.heap.size) (hL : N ≤ 3072) {n k : Nat} (hk : 6 * k + 6 ≤ N) (ih : LAt p l e s m below meth c g b ho hm ux q n (k + 1) 18) : LAt p l e s m below meth c g b ho hm ux q (n + 1) k 1052 := by
  intro ls H locs cells slots xi xl xa fc cs i L a aL hcl hsl hinv hl hP hD hS
  obtain ⟨hcs, tb, ln0, ln1, ln2, ln3, h7, mci, ob, fb, pb, ri, h22, h24, h29, h5, h23, h20, hr25, hr27, h50, h51, o47, h52, hr54, h35, z31, z64, o56, l58, sz, b6, nm, kc, kcr, kfl, klk⟩ := hinv
  obtain ⟨hx, hb, hr, hts, hown, hlocks, hml, hin, hKN⟩ := id C
  have hK := hKN.1
  have hN := hKN.2
  have F : CallFix p m c cL_law 4 s _ wsL_law yL_law.cls := ⟨hx, hb, hml, hown, hts⟩
  have hA : ∀ q : Nat, s.heap.size ≤ q → (fun q : Nat => s.heap.size ≤ q) q := fun _ h => h
  have hbA : ¬ (fun q : Nat => s.heap.size ≤ q) b := Nat.not_le.mpr hbl
  refine lv_aload_n hx hb dL_law_1052 rfl (lv_at hl 2 rfl) ?_
  refine lv_aload_n hx hb dL_law_1053 rfl (lv_at hl 3 rfl) ?_
  refine lv_iload_n hx hb dL_law_1054 rfl (lv_at hl 0 rfl) ?_
  refine lv_iconst (v := 1) hx hb dL_law_1055 (by decide) ?_
  refine lv_iadd hx hb dL_law_1056 ?_
  refine va_sld hx hb hX hbl hbA hS (sc_in (j := 1) (by decide) (by decide) hk hL) dL_law_1057 ?_
  refine nx_i (v := xs (6 * k + 1)) (sc_ix (j := 1) (by decide) (by decide) hk hL) ?_
  refine lv_aload_n hx hb dL_law_1058 rfl (lv_at hl 3 rfl) ?_
  refine lv_iload_n hx hb dL_law_1059 rfl (lv_at hl 0 rfl) ?_
  refine lv_iconst (v := 2) hx hb dL_law_1060 (by decide) ?_
  refine lv_iadd hx hb dL_law_1061 ?_
  refine va_sld hx hb hX hbl hbA hS (sc_in (j := 2) (by decide) (by decide) hk hL) dL_law_1062 ?_
  refine nx_i (v := xs (6 * k + 2)) (sc_ix (j := 2) (by decide) (by decide) hk hL) ?_
  refine kI (rnV (As := [.int (xs (6 * k + 1)), .int (xs (6 * k + 2))]) (rest := []) (Cn := RX11) C (x_as l g ho (ux 40) (ux 41) (xi 0) (xi 1) (xi 2) (xi 3) (ux 3) (ux 8) (ux 14) (ux 19) (ux 24) (ux 29) (ux 35) (ux 36) (ux 0) (xi 4) (xi 5) (ux 1) (xi 6) (ux 2) fc (xs (6 * k + 1)) (xs (6 * k + 2)) cs hcs) 2 gL_law_X11_as rfl (by decide +kernel) ⟨(Nat.le_of_ble_eq_true rfl), (Nat.le_of_ble_eq_true rfl)⟩ hP (k := 0) (ci := 11) rfl rfl rfl rfl hl.1 rfl (Nat.le_of_ble_eq_true rfl) dL_law_1063 ⟨(show cells + 0 ≤ 600000 by omega), (show slots + 0 ≤ 7302250 by omega)⟩) (spMC (X := (wXM g ho ux xi xl xa fc hm q i L a aL)) (pl := cysW g cs) [true, true, true, false, false, false, false, false, false, false, false, false, false, false, false, false, false, false, false, false, false, false, false, false, false, false, false, false, false, false, false, false, false, false, false, false, false, false, false, false, false, false, false, false, false, false, false, false, false, false, false, false, false, false, false, false, false, false, false, false, false, false, false, false, false, false, false, false, false, false, false, false, false, false, false, false, false, false, false, false, false, false, false, false, false, false, false, false, false, false, false] hP hD rfl) hA hS (fun r1 u2 H locs hw hP hD hS => ?_)
  obtain ⟨f4, f5⟩ := hw
  replace hP : va_P g.1 vwCl (wXM g ho ux (upd xi 0 u2) xl xa fc hm q i L a aL ++ cysW g cs) H := hP
  replace hD : va_D (fun q : Nat => s.heap.size ≤ q) (wXM g ho ux (upd xi 0 u2) xl xa fc hm q i L a aL ++ cysW g cs) := hD
  refine lv_pop hx hb dL_law_1066 rfl ?_
  refine lv_aload_n hx hb dL_law_1067 rfl (lv_at hl 1 rfl) ?_
  refine lv_aload_n hx hb dL_law_1068 rfl (lv_at hl 3 rfl) ?_
  refine lv_iload_n hx hb dL_law_1069 rfl (lv_at hl 0 rfl) ?_
  refine lv_iconst (v := 1) hx hb dL_law_1070 (by decide) ?_
  refine lv_iadd hx hb dL_law_1071 ?_
  refine va_sld hx hb hX hbl hbA hS (sc_in (j := 1) (by decide) (by decide) hk hL) dL_law_1072 ?_
  refine nx_i (v := xs (6 * k + 1)) (sc_ix (j := 1) (by decide) (by decide) hk hL) ?_
  refine lv_aload_n hx hb dL_law_1073 rfl (lv_at hl 3 rfl) ?_
  refine lv_iload_n hx hb dL_law_1074 rfl (lv_at hl 0 rfl) ?_
  refine lv_iconst (v := 2) hx hb dL_law_1075 (by decide) ?_
  refine lv_iadd hx hb dL_law_1076 ?_
  refine va_sld hx hb hX hbl hbA hS (sc_in (j := 2) (by decide) (by decide) hk hL) dL_law_1077 ?_
  refine nx_i (v := xs (6 * k + 2)) (sc_ix (j := 2) (by decide) (by decide) hk hL) ?_
  refine kI (rnV (As := [.int (xs (6 * k + 1)), .int (xs (6 * k + 2))]) (rest := []) (Cn := RX12) C (g_as l g hm q i L (a 8) (xs (6 * k + 1)) (xs (6 * k + 2)) h7) 2 gL_law_X12_as rfl (by decide +kernel) ⟨(Nat.le_of_ble_eq_true rfl), (Nat.le_of_ble_eq_true rfl)⟩ hP (k := 51) (ci := 12) rfl rfl rfl rfl hl.1 rfl (Nat.le_of_ble_eq_true rfl) dL_law_1078 ⟨(show cells + 0 ≤ 600000 by omega), (show slots + 0 ≤ 7302250 by omega)⟩) (spM (X := (wXM g ho ux (upd xi 0 u2) xl xa fc hm q i L a aL)) (pl := cysW g cs) [false, false, false, false, false, false, false, false, false, false, false, false, false, false, false, false, false, false, false, false, false, false, false, false, false, false, false, false, false, false, false, false, false, false, false, false, false, false, false, false, false, false, false, false, false, false, false, false, false, false, false, true, false, false, false, false, true, false, false, false, false, false, false, false, false, false, false, false, false, false, false, false, false, false, false, false, false, false, false, false, false, false, false, false, false, false, false, false, false, false, false] hP hD rfl) hA hS (fun r6 u7 H locs hw hP hD hS => ?_)
  have hre := hw
  obtain ⟨y8, hy8⟩ : ∃ y9, (o_g_as_0 i (a 8) (xs (6 * k + 1)) (xs (6 * k + 2))) = y9 := ⟨_, rfl⟩
  rw [hy8] at hP hD
  replace hP : va_P g.1 vwCl (wXM g ho ux (upd xi 0 u2) xl xa fc hm q (upd i 0 y8) L a aL ++ cysW g cs) H := hP
  replace hD : va_D (fun q : Nat => s.heap.size ≤ q) (wXM g ho ux (upd xi 0 u2) xl xa fc hm q (upd i 0 y8) L a aL ++ cysW g cs) := hD
  refine nx_i (v := (r_g_as i (a 8) (xs (6 * k + 1)) (xs (6 * k + 2)))) hre ?_
  refine lv_pop hx hb dL_law_1081 rfl ?_
  refine lv_goto (tgt := 1134) hx hb dL_law_1082 (by decide) ?_
  refine lv_iinc (v := nI (6 * (k + 1))) (lv' := [(3, .int (nI (6 * (k + 1)))), (2, .ref hm), (1, .ref ho), (0, .ref b)]) hx hb dL_law_1134 hl (k := 0) rfl (sc_next k) (by decide) rfl (fun ls hl => ?_)
  refine lv_goto (tgt := 18) hx hb dL_law_1137 (by decide) ?_
  exact ih ls H locs (cells) (slots) (upd xi 0 u2) xl xa fc cs (upd i 0 y8) L a aL (by omega) (by omega) ⟨hcs, tb, ln0, ln1, ln2, ln3, h7, mci, ob, fb, pb, ri, h22, h24, h29, h5, h23, h20, hr25, hr27, h50, h51, o47, h52, hr54, h35, z31, z64, o56, l58, sz, b6, nm, kc, kcr, kfl, klk⟩ (lv_sub hl [0, 1, 2, 3] rfl) hP hD hS
set_option maxRecDepth 100000 in
set_option maxHeartbeats 4000000 in
theorem lc_trace {p : Program} {l : Launch} {e : Env} {s : State} {m : MethodId} {below : List Frame} {meth : Method} {c : Code} {g : Gt} {b N ho hm : Nat} {ux q : Nat → Nat} {xs : Nat → Int32} (C : Ctx g p s m #[Value.ref b] meth c yL_law wsL_law cL_law 4 (some .boolean)) (hX : va_X b N xs s s.heap) (hbl : b < s.heap.size) (hL : N ≤ 3072) {n k : Nat} (hk : 6 * k + 6 ≤ N) (ih : LAt p l e s m below meth c g b ho hm ux q n (k + 1) 18) : LAt p l e s m below meth c g b ho hm ux q (n + 1) k 1085 := by
  intro ls H locs cells slots xi xl xa fc cs i L a aL hcl hsl hinv hl hP hD hS
  obtain ⟨hcs, tb, ln0, ln1, ln2, ln3, h7, mci, ob, fb, pb, ri, h22, h24, h29, h5, h23, h20, hr25, hr27, h50, h51, o47, h52, hr54, h35, z31, z64, o56, l58, sz, b6, nm, kc, kcr, kfl, klk⟩ := hinv
  obtain ⟨hx, hb, hr, hts, hown, hlocks, hml, hin, hKN⟩ := id C
  have hK := hKN.1
  have hN := hKN.2
  have F : CallFix p m c cL_law 4 s _ wsL_law yL_law.cls := ⟨hx, hb, hml, hown, hts⟩
  have hA : ∀ q : Nat, s.heap.size ≤ q → (fun q : Nat => s.heap.size ≤ q) q := fun _ h => h
  have hbA : ¬ (fun q : Nat => s.heap.size ≤ q) b := Nat.not_le.mpr hbl
  refine lv_aload_n hx hb dL_law_1085 rfl (lv_at hl 2 rfl) ?_
  refine kI (rnV (As := []) (rest := []) (Cn := RX11) C (x_trace l g ho (ux 40) (ux 41) (xi 0) (xi 1) (xi 2) (xi 3) (ux 3) (ux 8) (ux 14) (ux 19) (ux 24) (ux 29) (ux 35) (ux 36) (ux 0) (xi 34)) 0 gL_law_X11_trace rfl (by decide +kernel) ⟨(Nat.le_of_ble_eq_true rfl), (Nat.le_of_ble_eq_true rfl)⟩ hP (k := 0) (ci := 11) rfl rfl rfl rfl hl.1 rfl (Nat.le_of_ble_eq_true rfl) dL_law_1086 ⟨(show cells + 0 ≤ 600000 by omega), (show slots + 0 ≤ 7302250 by omega)⟩) (spM (X := (wXM g ho ux xi xl xa fc hm q i L a aL)) (pl := cysW g cs) [true, false, false, false, false, false, false, false, false, false, false, false, false, false, false, false, false, false, false, false, false, false, false, false, false, false, false, false, false, false, false, false, false, false, false, false, false, false, false, false, false, false, true, false, false, false, false, false, false, false, false, false, false, false, false, false, false, false, false, false, false, false, false, false, false, false, false, false, false, false, false, false, false, false, false, false, false, false, false, false, false, false, false, false, false, false, false, false, false, false, false] hP hD rfl) hA hS (fun r1 u2 H locs hw hP hD hS => ?_)
  have hre := hw
  replace hP : va_P g.1 vwCl (wXM g ho ux xi xl xa fc hm q i L a aL ++ cysW g cs) H := hP
  replace hD : va_D (fun q : Nat => s.heap.size ≤ q) (wXM g ho ux xi xl xa fc hm q i L a aL ++ cysW g cs) := hD
  refine nx_i (v := (xi 34)) hre ?_
  refine lv_pop hx hb dL_law_1089 rfl ?_
  refine lv_aload_n hx hb dL_law_1090 rfl (lv_at hl 1 rfl) ?_
  refine kI (rnV (As := []) (rest := []) (Cn := RX12) C (g_trace l g hm q i L) 0 gL_law_X12_trace rfl (by decide +kernel) ⟨(Nat.le_of_ble_eq_true rfl), (Nat.le_of_ble_eq_true rfl)⟩ hP (k := 51) (ci := 12) rfl rfl rfl rfl hl.1 rfl (Nat.le_of_ble_eq_true rfl) dL_law_1091 ⟨(show cells + 0 ≤ 600000 by omega), (show slots + 0 ≤ 7302250 by omega)⟩) (spM (X := (wXM g ho ux xi xl xa fc hm q i L a aL)) (pl := cysW g cs) [false, false, false, false, false, false, false, false, false, false, false, false, false, false, false, false, false, false, false, false, false, false, false, false, false, false, false, false, false, false, false, false, false, false, false, false, false, false, false, false, false, false, false, false, false, false, false, false, false, false, false, true, false, false, false, false, false, false, false, false, false, false, false, false, false, false, false, false, false, false, false, false, false, false, false, false, false, false, false, false, false, false, false, false, false, false, false, false, false, false, false] hP hD rfl) hA hS (fun r3 u4 H locs hw hP hD hS => ?_)
  have hre := hw
  replace hP : va_P g.1 vwCl (wXM g ho ux xi xl xa fc hm q i L a aL ++ cysW g cs) H := hP
  replace hD : va_D (fun q : Nat => s.heap.size ≤ q) (wXM g ho ux xi xl xa fc hm q i L a aL ++ cysW g cs) := hD
  refine nx_i (v := (i 65)) hre ?_
  refine lv_pop hx hb dL_law_1094 rfl ?_
  refine lv_goto (tgt := 1134) hx hb dL_law_1095 (by decide) ?_
  refine lv_iinc (v := nI (6 * (k + 1))) (lv' := [(3, .int (nI (6 * (k + 1)))), (2, .ref hm), (1, .ref ho), (0, .ref b)]) hx hb dL_law_1134 hl (k := 0) rfl (sc_next k) (by decide) rfl (fun ls hl => ?_)
  refine lv_goto (tgt := 18) hx hb dL_law_1137 (by decide) ?_
  exact ih ls H locs (cells) (slots) xi xl xa fc cs i L a aL (by omega) (by omega) ⟨hcs, tb, ln0, ln1, ln2, ln3, h7, mci, ob, fb, pb, ri, h22, h24, h29, h5, h23, h20, hr25, hr27, h50, h51, o47, h52, hr54, h35, z31, z64, o56, l58, sz, b6, nm, kc, kcr, kfl, klk⟩ (lv_sub hl [0, 1, 2, 3] rfl) hP hD hS
set_option maxRecDepth 100000 in
set_option maxHeartbeats 4000000 in
theorem lc_fault {p : Program} {l : Launch} {e : Env} {s : State} {m : MethodId} {below : List Frame} {meth : Method} {c : Code} {g : Gt} {b N ho hm : Nat} {ux q : Nat → Nat} {xs : Nat → Int32} (C : Ctx g p s m #[Value.ref b] meth c yL_law wsL_law cL_law 4 (some .boolean)) (hX : va_X b N xs s s.heap) (hbl : b < s.heap.size) (hL : N ≤ 3072) {n k : Nat} (hk : 6 * k + 6 ≤ N) (ih : LAt p l e s m below meth c g b ho hm ux q n (k + 1) 18) : LAt p l e s m below meth c g b ho hm ux q (n + 1) k 1098 := by
  intro ls H locs cells slots xi xl xa fc cs i L a aL hcl hsl hinv hl hP hD hS
  obtain ⟨hcs, tb, ln0, ln1, ln2, ln3, h7, mci, ob, fb, pb, ri, h22, h24, h29, h5, h23, h20, hr25, hr27, h50, h51, o47, h52, hr54, h35, z31, z64, o56, l58, sz, b6, nm, kc, kcr, kfl, klk⟩ := hinv
  obtain ⟨hx, hb, hr, hts, hown, hlocks, hml, hin, hKN⟩ := id C
  have hK := hKN.1
  have hN := hKN.2
  have F : CallFix p m c cL_law 4 s _ wsL_law yL_law.cls := ⟨hx, hb, hml, hown, hts⟩
  have hA : ∀ q : Nat, s.heap.size ≤ q → (fun q : Nat => s.heap.size ≤ q) q := fun _ h => h
  have hbA : ¬ (fun q : Nat => s.heap.size ≤ q) b := Nat.not_le.mpr hbl
  refine lv_aload_n hx hb dL_law_1098 rfl (lv_at hl 2 rfl) ?_
  refine kI (rnV (As := []) (rest := []) (Cn := RX11) C (x_fault l g ho (ux 40) (ux 41) (xi 0) (xi 1) (xi 2) (xi 3) (ux 3) (ux 8) (ux 14) (ux 19) (ux 24) (ux 29) (ux 35) (ux 36) (ux 0)) 0 gL_law_X11_fault rfl (by decide +kernel) ⟨(Nat.le_of_ble_eq_true rfl), (Nat.le_of_ble_eq_true rfl)⟩ hP (k := 0) (ci := 11) rfl rfl rfl rfl hl.1 rfl (Nat.le_of_ble_eq_true rfl) dL_law_1099 ⟨(show cells + 0 ≤ 600000 by omega), (show slots + 0 ≤ 7302250 by omega)⟩) (spM (X := (wXM g ho ux xi xl xa fc hm q i L a aL)) (pl := cysW g cs) [true, false, false, false, false, false, false, false, false, false, false, false, false, false, false, false, false, false, false, false, false, false, false, false, false, false, false, false, false, false, false, false, false, false, false, false, false, false, false, false, false, false, false, false, false, false, false, false, false, false, false, false, false, false, false, false, false, false, false, false, false, false, false, false, false, false, false, false, false, false, false, false, false, false, false, false, false, false, false, false, false, false, false, false, false, false, false, false, false, false, false] hP hD rfl) hA hS (fun r1 u2 H locs hw hP hD hS => ?_)
  have hre := hw
  replace hP : va_P g.1 vwCl (wXM g ho ux xi xl xa fc hm q i L a aL ++ cysW g cs) H := hP
  replace hD : va_D (fun q : Nat => s.heap.size ≤ q) (wXM g ho ux xi xl xa fc hm q i L a aL ++ cysW g cs) := hD
  refine nx_i (v := (xi 0)) hre ?_
  refine lv_pop hx hb dL_law_1102 rfl ?_
  refine lv_aload_n hx hb dL_law_1103 rfl (lv_at hl 1 rfl) ?_
  refine kI (rnV (As := []) (rest := []) (Cn := RX12) C (g_fault l g hm q i L) 0 gL_law_X12_fault rfl (by decide +kernel) ⟨(Nat.le_of_ble_eq_true rfl), (Nat.le_of_ble_eq_true rfl)⟩ hP (k := 51) (ci := 12) rfl rfl rfl rfl hl.1 rfl (Nat.le_of_ble_eq_true rfl) dL_law_1104 ⟨(show cells + 0 ≤ 600000 by omega), (show slots + 0 ≤ 7302250 by omega)⟩) (spM (X := (wXM g ho ux xi xl xa fc hm q i L a aL)) (pl := cysW g cs) [false, false, false, false, false, false, false, false, false, false, false, false, false, false, false, false, false, false, false, false, false, false, false, false, false, false, false, false, false, false, false, false, false, false, false, false, false, false, false, false, false, false, false, false, false, false, false, false, false, false, false, true, false, false, false, false, false, false, false, false, false, false, false, false, false, false, false, false, false, false, false, false, false, false, false, false, false, false, false, false, false, false, false, false, false, false, false, false, false, false, false] hP hD rfl) hA hS (fun r3 u4 H locs hw hP hD hS => ?_)
  have hre := hw
  replace hP : va_P g.1 vwCl (wXM g ho ux xi xl xa fc hm q i L a aL ++ cysW g cs) H := hP
  replace hD : va_D (fun q : Nat => s.heap.size ≤ q) (wXM g ho ux xi xl xa fc hm q i L a aL ++ cysW g cs) := hD
  refine nx_i (v := (i 0)) hre ?_
  refine lv_pop hx hb dL_law_1107 rfl ?_
  refine lv_goto (tgt := 1134) hx hb dL_law_1108 (by decide) ?_
  refine lv_iinc (v := nI (6 * (k + 1))) (lv' := [(3, .int (nI (6 * (k + 1)))), (2, .ref hm), (1, .ref ho), (0, .ref b)]) hx hb dL_law_1134 hl (k := 0) rfl (sc_next k) (by decide) rfl (fun ls hl => ?_)
  refine lv_goto (tgt := 18) hx hb dL_law_1137 (by decide) ?_
  exact ih ls H locs (cells) (slots) xi xl xa fc cs i L a aL (by omega) (by omega) ⟨hcs, tb, ln0, ln1, ln2, ln3, h7, mci, ob, fb, pb, ri, h22, h24, h29, h5, h23, h20, hr25, hr27, h50, h51, o47, h52, hr54, h35, z31, z64, o56, l58, sz, b6, nm, kc, kcr, kfl, klk⟩ (lv_sub hl [0, 1, 2, 3] rfl) hP hD hS
set_option maxRecDepth 100000 in
set_option maxHeartbeats 4000000 in
theorem lc_told {p : Program} {l : Launch} {e : Env} {s : State} {m : MethodId} {below : List Frame} {meth : Method} {c : Code} {g : Gt} {b N ho hm : Nat} {ux q : Nat → Nat} {xs : Nat → Int32} (C : Ctx g p s m #[Value.ref b] meth c yL_law wsL_law cL_law 4 (some .boolean)) (hX : va_X b N xs s s.heap) (hbl : b < s.heap.size) (hL : N ≤ 3072) {n k : Nat} (hk : 6 * k + 6 ≤ N) (ih : LAt p l e s m below meth c g b ho hm ux q n (k + 1) 18) : LAt p l e s m below meth c g b ho hm ux q (n + 1) k 1111 := by
  intro ls H locs cells slots xi xl xa fc cs i L a aL hcl hsl hinv hl hP hD hS
  obtain ⟨hcs, tb, ln0, ln1, ln2, ln3, h7, mci, ob, fb, pb, ri, h22, h24, h29, h5, h23, h20, hr25, hr27, h50, h51, o47, h52, hr54, h35, z31, z64, o56, l58, sz, b6, nm, kc, kcr, kfl, klk⟩ := hinv
  obtain ⟨hx, hb, hr, hts, hown, hlocks, hml, hin, hKN⟩ := id C
  have hK := hKN.1
  have hN := hKN.2
  have F : CallFix p m c cL_law 4 s _ wsL_law yL_law.cls := ⟨hx, hb, hml, hown, hts⟩
  have hA : ∀ q : Nat, s.heap.size ≤ q → (fun q : Nat => s.heap.size ≤ q) q := fun _ h => h
  have hbA : ¬ (fun q : Nat => s.heap.size ≤ q) b := Nat.not_le.mpr hbl
  refine lv_aload_n hx hb dL_law_1111 rfl (lv_at hl 2 rfl) ?_
  refine lv_aload_n hx hb dL_law_1112 rfl (lv_at hl 3 rfl) ?_
  refine lv_iload_n hx hb dL_law_1113 rfl (lv_at hl 0 rfl) ?_
  refine lv_iconst (v := 1) hx hb dL_law_1114 (by decide) ?_
  refine lv_iadd hx hb dL_law_1115 ?_
  refine va_sld hx hb hX hbl hbA hS (sc_in (j := 1) (by decide) (by decide) hk hL) dL_law_1116 ?_
  refine nx_i (v := xs (6 * k + 1)) (sc_ix (j := 1) (by decide) (by decide) hk hL) ?_
  refine kI (rnV (As := [.int (xs (6 * k + 1))]) (rest := []) (Cn := RX11) C (x_told l g ho (ux 40) (ux 41) (xi 0) (xi 1) (xi 2) (xi 3) (ux 3) (ux 8) (ux 14) (ux 19) (ux 24) (ux 29) (ux 35) (ux 36) (ux 0) (xi 4) (xi 5) (ux 1) (xi 6) (ux 2) fc (ux 4) (ux 5) (ux 6) (ux 7) (xi 7) (xa 1) (ux 15) (ux 16) (ux 17) (ux 18) (xi 17) (ux 37) (ux 38) (ux 39) (xi 33) (xs (6 * k + 1)) cs hcs) 1 gL_law_X11_told rfl (by decide +kernel) ⟨(Nat.le_of_ble_eq_true rfl), (Nat.le_of_ble_eq_true rfl)⟩ hP (k := 0) (ci := 11) rfl rfl rfl rfl hl.1 rfl (Nat.le_of_ble_eq_true rfl) dL_law_1117 ⟨(show cells + 0 ≤ 600000 by omega), (show slots + 0 ≤ 7302250 by omega)⟩) (spC (X := (wXM g ho ux xi xl xa fc hm q i L a aL)) (pl := cysW g cs) (wr := [((ux 2), .inl (g.2 0, 6, .inl (xa 0))), ((ux 5), .inl (g.2 0, 6, .inl (xa 2))), ((ux 6), .inl (g.2 0, 6, .inl (xa 3))), ((ux 7), .inr (8, [.int (xi 8), .int (xi 9), .int (xi 10), .int (xi 11)])), ((ux 8), .inr (1, [.ref (ux 9), .ref (ux 10), .int (xi 12), .ref (ux 11), .ref (ux 12), .ref (ux 13), .int (xi 13), .int (xi 14), .int (xi 15), .int (xi 16), .long (xl 0), .long (xl 1), .long (xl 2)])), ((ux 9), .inl (g.2 0, 6, .inl (xa 4))), ((ux 10), .inl (g.2 0, 6, .inl (xa 5))), ((ux 11), .inl (g.2 0, 6, .inl (xa 6))), ((ux 12), .inl (g.2 0, 6, .inl (xa 7))), ((ux 13), .inl (g.2 0, 6, .inl (xa 8))), ((ux 15), .inl (g.2 0, 30, .inl (xa 9))), ((ux 16), .inl (g.2 0, 30, .inl (xa 10))), ((ux 17), .inl (g.2 0, 30, .inl (xa 11))), ((ux 18), .inl (g.2 0, 30, .inl (xa 12))), ((ux 19), .inr (7, [.ref (ux 20), .ref (ux 21), .ref (ux 22), .ref (ux 23), .int (xi 18)])), ((ux 20), .inl (g.2 0, 6, .inl (xa 13))), ((ux 21), .inl (g.2 0, 6, .inl (xa 14))), ((ux 22), .inl (g.2 0, 6, .inl (xa 15))), ((ux 23), .inr (8, [.int (xi 19), .int (xi 20), .int (xi 21), .int (xi 22)])), ((ux 24), .inr (7, [.ref (ux 25), .ref (ux 26), .ref (ux 27), .ref (ux 28), .int (xi 23)])), ((ux 25), .inl (g.2 0, 6, .inl (xa 16))), ((ux 26), .inl (g.2 0, 6, .inl (xa 17))), ((ux 27), .inl (g.2 0, 6, .inl (xa 18))), ((ux 28), .inr (8, [.int (xi 24), .int (xi 25), .int (xi 26), .int (xi 27)])), ((ux 29), .inr (1, [.ref (ux 30), .ref (ux 31), .int (xi 28), .ref (ux 32), .ref (ux 33), .ref (ux 34), .int (xi 29), .int (xi 30), .int (xi 31), .int (xi 32), .long (xl 3), .long (xl 4), .long (xl 5)])), ((ux 30), .inl (g.2 0, 6, .inl (xa 19))), ((ux 31), .inl (g.2 0, 6, .inl (xa 20))), ((ux 32), .inl (g.2 0, 6, .inl (xa 21))), ((ux 33), .inl (g.2 0, 6, .inl (xa 22))), ((ux 34), .inl (g.2 0, 6, .inl (xa 23))), ((ux 35), .inl (g.2 0, 6, .inl (xa 24))), ((ux 37), .inl (g.2 0, 20, .inl (xa 25))), ((ux 38), .inl (g.2 0, 20, .inl (xa 26))), ((ux 39), .inl (g.2 0, 20, .inl (xa 27))), ((ux 40), .inl (g.2 4, 4, .inr (.inr (.inr (.inr (shF (ux 42) (ux 44) (ux 46) (ux 48))))))), ((ux 41), .inr (9, [.int (xi 34)])), ((ux 42), .inr (6, [.ref (ux 43), .int (xi 35), .int (xi 36), .int (xi 37)])), ((ux 43), .inl (g.2 0, 20, .inl (xa 28))), ((ux 44), .inr (6, [.ref (ux 45), .int (xi 38), .int (xi 39), .int (xi 40)])), ((ux 45), .inl (g.2 0, 20, .inl (xa 29))), ((ux 46), .inr (6, [.ref (ux 47), .int (xi 41), .int (xi 42), .int (xi 43)])), ((ux 47), .inl (g.2 0, 20, .inl (xa 30))), ((ux 48), .inr (6, [.ref (ux 49), .int (xi 44), .int (xi 45), .int (xi 46)])), ((ux 49), .inl (g.2 0, 20, .inl (xa 31))), (hm, .inr (12, mO q i L)), ((q 1), .inl (g.2 0, 4, .inl (a 1))), ((q 2), .inl (g.2 0, 4, .inl (a 2))), ((q 3), .inl (g.2 0, 80, .inl (a 3))), ((q 4), .inl (g.2 0, 20, .inl (a 4))), ((q 8), .inl (g.2 0, 6, .inl (a 8))), ((q 9), .inl (g.2 0, 6, .inl (a 9))), ((q 10), .inl (g.2 0, 6, .inl (a 10))), ((q 11), .inl (g.2 0, 6, .inl (a 11))), ((q 12), .inl (g.2 0, 6, .inl (a 12))), ((q 13), .inl (g.2 0, 60, .inl (a 13))), ((q 14), .inl (g.2 0, 6, .inl (a 14))), ((q 15), .inl (g.2 0, 6, .inl (a 15))), ((q 16), .inl (g.2 0, 6, .inl (a 16))), ((q 17), .inl (g.2 0, 6, .inl (a 17))), ((q 18), .inl (g.2 1, 6, .inl (a 18))), ((q 19), .inl (g.2 0, 6, .inl (a 19))), ((q 25), .inl (g.2 0, 30, .inl (a 25))), ((q 26), .inl (g.2 0, 30, .inl (a 26))), ((q 27), .inl (g.2 0, 30, .inl (a 27))), ((q 28), .inl (g.2 0, 30, .inl (a 28))), ((q 36), .inl (g.2 0, 6, .inl (a 36))), ((q 41), .inl (g.2 0, 6, .inl (a 41))), ((q 42), .inl (g.2 0, 6, .inl (a 42))), ((q 43), .inl (g.2 0, 6, .inl (a 43))), ((q 44), .inl (g.2 0, 6, .inl (a 44))), ((q 47), .inl (g.2 0, 6, .inl (a 47))), ((q 48), .inl (g.2 0, 6, .inl (a 48))), ((q 49), .inl (g.2 1, 6, .inl (a 49))), ((q 53), .inl (g.2 0, 20, .inl (a 53))), ((q 54), .inl (g.2 0, 20, .inl (a 54))), ((q 55), .inl (g.2 0, 20, .inl (a 55))), ((q 56), .inl (g.2 0, 6, .inl (a 56))), ((q 57), .inl (g.2 0, 6, .inl (a 57))), ((q 58), .inl (g.2 0, 6, .inl (a 58))), ((q 59), .inl (g.2 0, 6, .inl (a 59))), ((q 60), .inl (g.2 0, 6, .inl (a 60))), ((q 61), .inl (g.2 1, 6, .inl (a 61))), ((q 62), .inl (g.2 0, 6, .inl (a 62))), ((q 63), .inl (g.2 2, 3, .inr (.inl aL)))]) hP hD [0, 1, 2, 15, 37, 4, 5] [3, 6, 7, 8, 9, 10, 11, 12, 13, 14, 16, 17, 18, 19, 20, 21, 22, 23, 24, 25, 26, 27, 28, 29, 30, 31, 32, 33, 34, 35, 36, 38, 39, 40, 41, 42, 43, 44, 45, 46, 47, 48, 49, 50, 51, 52, 53, 54, 55, 56, 57, 58, 59, 60, 61, 62, 63, 64, 65, 66, 67, 68, 69, 70, 71, 72, 73, 74, 75, 76, 77, 78, 79, 80, 81, 82, 83, 84, 85, 86, 87, 88, 89, 90] rfl rfl (by decide +kernel) (by decide +kernel) (by decide +kernel)) hA hS (fun r1 u2 H locs hw hP hD hS => ?_)
  rw [← List.append_assoc] at hP hD
  replace hP : va_P g.1 vwCl (wXM g ho ux xi xl xa fc hm q i L a aL ++ cysW g cs) H := hP.part [84, 85, 86, 0, 89, 90, 1, 2, 3, 4, 5, 6, 7, 8, 9, 87, 10, 11, 12, 13, 14, 15, 16, 17, 18, 19, 20, 21, 22, 23, 24, 25, 26, 27, 28, 29, 30, 88, 31, 32, 33, 34, 35, 36, 37, 38, 39, 40, 41, 42, 43, 44, 45, 46, 47, 48, 49, 50, 51, 52, 53, 54, 55, 56, 57, 58, 59, 60, 61, 62, 63, 64, 65, 66, 67, 68, 69, 70, 71, 72, 73, 74, 75, 76, 77, 78, 79, 80, 81, 82, 83] rfl
  replace hD : va_D (fun q : Nat => s.heap.size ≤ q) (wXM g ho ux xi xl xa fc hm q i L a aL ++ cysW g cs) := hD.part [84, 85, 86, 0, 89, 90, 1, 2, 3, 4, 5, 6, 7, 8, 9, 87, 10, 11, 12, 13, 14, 15, 16, 17, 18, 19, 20, 21, 22, 23, 24, 25, 26, 27, 28, 29, 30, 88, 31, 32, 33, 34, 35, 36, 37, 38, 39, 40, 41, 42, 43, 44, 45, 46, 47, 48, 49, 50, 51, 52, 53, 54, 55, 56, 57, 58, 59, 60, 61, 62, 63, 64, 65, 66, 67, 68, 69, 70, 71, 72, 73, 74, 75, 76, 77, 78, 79, 80, 81, 82, 83] (by decide +kernel) rfl
  refine lv_pop hx hb dL_law_1120 rfl ?_
  refine lv_aload_n hx hb dL_law_1121 rfl (lv_at hl 1 rfl) ?_
  refine lv_aload_n hx hb dL_law_1122 rfl (lv_at hl 3 rfl) ?_
  refine lv_iload_n hx hb dL_law_1123 rfl (lv_at hl 0 rfl) ?_
  refine lv_iconst (v := 1) hx hb dL_law_1124 (by decide) ?_
  refine lv_iadd hx hb dL_law_1125 ?_
  refine va_sld hx hb hX hbl hbA hS (sc_in (j := 1) (by decide) (by decide) hk hL) dL_law_1126 ?_
  refine nx_i (v := xs (6 * k + 1)) (sc_ix (j := 1) (by decide) (by decide) hk hL) ?_
  refine kI (rnV (As := [.int (xs (6 * k + 1))]) (rest := []) (Cn := RX12) C (g_told l g hm q i L (a 11) (a 9) (a 10) (xs (6 * k + 1)) h7) 1 gL_law_X12_told rfl (by decide +kernel) ⟨(Nat.le_of_ble_eq_true rfl), (Nat.le_of_ble_eq_true rfl)⟩ hP (k := 51) (ci := 12) rfl rfl rfl rfl hl.1 rfl (Nat.le_of_ble_eq_true rfl) dL_law_1127 ⟨(show cells + 0 ≤ 600000 by omega), (show slots + 0 ≤ 7302250 by omega)⟩) (spB (X := (wXM g ho ux xi xl xa fc hm q i L a aL)) (pl := cysW g cs) (wr := [(ho, .inr (11, [.ref (ux 0), .ref (ux 3), .ref (ux 8), .ref (ux 14), .ref (ux 19), .ref (ux 24), .ref (ux 29), .ref (ux 35), .ref (ux 36), .ref (ux 40), .ref (ux 41), .int (xi 0), .int (xi 1), .int (xi 2), .int (xi 3)])), ((ux 0), .inr (4, [.int (xi 4), .int (xi 5), .ref (ux 1), .int (xi 6), .ref (ux 2)])), ((ux 1), .inl (g.2 3, 6, .inr (.inr (.inr (.inr fc))))), ((ux 2), .inl (g.2 0, 6, .inl (xa 0))), ((ux 3), .inr (7, [.ref (ux 4), .ref (ux 5), .ref (ux 6), .ref (ux 7), .int (xi 7)])), ((ux 4), .inl (g.2 0, 6, .inl (xa 1))), ((ux 5), .inl (g.2 0, 6, .inl (xa 2))), ((ux 6), .inl (g.2 0, 6, .inl (xa 3))), ((ux 7), .inr (8, [.int (xi 8), .int (xi 9), .int (xi 10), .int (xi 11)])), ((ux 8), .inr (1, [.ref (ux 9), .ref (ux 10), .int (xi 12), .ref (ux 11), .ref (ux 12), .ref (ux 13), .int (xi 13), .int (xi 14), .int (xi 15), .int (xi 16), .long (xl 0), .long (xl 1), .long (xl 2)])), ((ux 9), .inl (g.2 0, 6, .inl (xa 4))), ((ux 10), .inl (g.2 0, 6, .inl (xa 5))), ((ux 11), .inl (g.2 0, 6, .inl (xa 6))), ((ux 12), .inl (g.2 0, 6, .inl (xa 7))), ((ux 13), .inl (g.2 0, 6, .inl (xa 8))), ((ux 14), .inr (3, [.ref (ux 15), .ref (ux 16), .ref (ux 17), .ref (ux 18), .int (xi 17)])), ((ux 15), .inl (g.2 0, 30, .inl (xa 9))), ((ux 16), .inl (g.2 0, 30, .inl (xa 10))), ((ux 17), .inl (g.2 0, 30, .inl (xa 11))), ((ux 18), .inl (g.2 0, 30, .inl (xa 12))), ((ux 19), .inr (7, [.ref (ux 20), .ref (ux 21), .ref (ux 22), .ref (ux 23), .int (xi 18)])), ((ux 20), .inl (g.2 0, 6, .inl (xa 13))), ((ux 21), .inl (g.2 0, 6, .inl (xa 14))), ((ux 22), .inl (g.2 0, 6, .inl (xa 15))), ((ux 23), .inr (8, [.int (xi 19), .int (xi 20), .int (xi 21), .int (xi 22)])), ((ux 24), .inr (7, [.ref (ux 25), .ref (ux 26), .ref (ux 27), .ref (ux 28), .int (xi 23)])), ((ux 25), .inl (g.2 0, 6, .inl (xa 16))), ((ux 26), .inl (g.2 0, 6, .inl (xa 17))), ((ux 27), .inl (g.2 0, 6, .inl (xa 18))), ((ux 28), .inr (8, [.int (xi 24), .int (xi 25), .int (xi 26), .int (xi 27)])), ((ux 29), .inr (1, [.ref (ux 30), .ref (ux 31), .int (xi 28), .ref (ux 32), .ref (ux 33), .ref (ux 34), .int (xi 29), .int (xi 30), .int (xi 31), .int (xi 32), .long (xl 3), .long (xl 4), .long (xl 5)])), ((ux 30), .inl (g.2 0, 6, .inl (xa 19))), ((ux 31), .inl (g.2 0, 6, .inl (xa 20))), ((ux 32), .inl (g.2 0, 6, .inl (xa 21))), ((ux 33), .inl (g.2 0, 6, .inl (xa 22))), ((ux 34), .inl (g.2 0, 6, .inl (xa 23))), ((ux 35), .inl (g.2 0, 6, .inl (xa 24))), ((ux 36), .inr (5, [.ref (ux 37), .ref (ux 38), .ref (ux 39), .int (xi 33)])), ((ux 37), .inl (g.2 0, 20, .inl (xa 25))), ((ux 38), .inl (g.2 0, 20, .inl (xa 26))), ((ux 39), .inl (g.2 0, 20, .inl (xa 27))), ((ux 40), .inl (g.2 4, 4, .inr (.inr (.inr (.inr (shF (ux 42) (ux 44) (ux 46) (ux 48))))))), ((ux 41), .inr (9, [.int (xi 34)])), ((ux 42), .inr (6, [.ref (ux 43), .int (xi 35), .int (xi 36), .int (xi 37)])), ((ux 43), .inl (g.2 0, 20, .inl (xa 28))), ((ux 44), .inr (6, [.ref (ux 45), .int (xi 38), .int (xi 39), .int (xi 40)])), ((ux 45), .inl (g.2 0, 20, .inl (xa 29))), ((ux 46), .inr (6, [.ref (ux 47), .int (xi 41), .int (xi 42), .int (xi 43)])), ((ux 47), .inl (g.2 0, 20, .inl (xa 30))), ((ux 48), .inr (6, [.ref (ux 49), .int (xi 44), .int (xi 45), .int (xi 46)])), ((ux 49), .inl (g.2 0, 20, .inl (xa 31))), ((q 1), .inl (g.2 0, 4, .inl (a 1))), ((q 2), .inl (g.2 0, 4, .inl (a 2))), ((q 3), .inl (g.2 0, 80, .inl (a 3))), ((q 4), .inl (g.2 0, 20, .inl (a 4))), ((q 8), .inl (g.2 0, 6, .inl (a 8))), ((q 12), .inl (g.2 0, 6, .inl (a 12))), ((q 13), .inl (g.2 0, 60, .inl (a 13))), ((q 14), .inl (g.2 0, 6, .inl (a 14))), ((q 15), .inl (g.2 0, 6, .inl (a 15))), ((q 16), .inl (g.2 0, 6, .inl (a 16))), ((q 17), .inl (g.2 0, 6, .inl (a 17))), ((q 18), .inl (g.2 1, 6, .inl (a 18))), ((q 19), .inl (g.2 0, 6, .inl (a 19))), ((q 25), .inl (g.2 0, 30, .inl (a 25))), ((q 26), .inl (g.2 0, 30, .inl (a 26))), ((q 27), .inl (g.2 0, 30, .inl (a 27))), ((q 28), .inl (g.2 0, 30, .inl (a 28))), ((q 36), .inl (g.2 0, 6, .inl (a 36))), ((q 41), .inl (g.2 0, 6, .inl (a 41))), ((q 42), .inl (g.2 0, 6, .inl (a 42))), ((q 43), .inl (g.2 0, 6, .inl (a 43))), ((q 44), .inl (g.2 0, 6, .inl (a 44))), ((q 47), .inl (g.2 0, 6, .inl (a 47))), ((q 48), .inl (g.2 0, 6, .inl (a 48))), ((q 49), .inl (g.2 1, 6, .inl (a 49))), ((q 53), .inl (g.2 0, 20, .inl (a 53))), ((q 54), .inl (g.2 0, 20, .inl (a 54))), ((q 55), .inl (g.2 0, 20, .inl (a 55))), ((q 56), .inl (g.2 0, 6, .inl (a 56))), ((q 57), .inl (g.2 0, 6, .inl (a 57))), ((q 58), .inl (g.2 0, 6, .inl (a 58))), ((q 59), .inl (g.2 0, 6, .inl (a 59))), ((q 60), .inl (g.2 0, 6, .inl (a 60))), ((q 61), .inl (g.2 1, 6, .inl (a 61))), ((q 62), .inl (g.2 0, 6, .inl (a 62))), ((q 63), .inl (g.2 2, 3, .inr (.inl aL)))]) hP hD [51, 59, 57, 58] [0, 1, 2, 3, 4, 5, 6, 7, 8, 9, 10, 11, 12, 13, 14, 15, 16, 17, 18, 19, 20, 21, 22, 23, 24, 25, 26, 27, 28, 29, 30, 31, 32, 33, 34, 35, 36, 37, 38, 39, 40, 41, 42, 43, 44, 45, 46, 47, 48, 49, 50, 52, 53, 54, 55, 56, 60, 61, 62, 63, 64, 65, 66, 67, 68, 69, 70, 71, 72, 73, 74, 75, 76, 77, 78, 79, 80, 81, 82, 83, 84, 85, 86, 87, 88, 89, 90] rfl rfl (by decide +kernel) (by decide +kernel) (by decide +kernel)) hA hS (fun r3 u4 H locs hw hP hD hS => ?_)
  have hre := hw
  replace hP : va_P g.1 vwCl (wXM g ho ux xi xl xa fc hm q i L a aL ++ cysW g cs) H := hP.part [0, 1, 2, 3, 4, 5, 6, 7, 8, 9, 10, 11, 12, 13, 14, 15, 16, 17, 18, 19, 20, 21, 22, 23, 24, 25, 26, 27, 28, 29, 30, 31, 32, 33, 34, 35, 36, 37, 38, 39, 40, 41, 42, 43, 44, 45, 46, 47, 48, 49, 50, 87, 51, 52, 53, 54, 55, 89, 90, 88, 56, 57, 58, 59, 60, 61, 62, 63, 64, 65, 66, 67, 68, 69, 70, 71, 72, 73, 74, 75, 76, 77, 78, 79, 80, 81, 82, 83, 84, 85, 86] rfl
  replace hD : va_D (fun q : Nat => s.heap.size ≤ q) (wXM g ho ux xi xl xa fc hm q i L a aL ++ cysW g cs) := hD.part [0, 1, 2, 3, 4, 5, 6, 7, 8, 9, 10, 11, 12, 13, 14, 15, 16, 17, 18, 19, 20, 21, 22, 23, 24, 25, 26, 27, 28, 29, 30, 31, 32, 33, 34, 35, 36, 37, 38, 39, 40, 41, 42, 43, 44, 45, 46, 47, 48, 49, 50, 87, 51, 52, 53, 54, 55, 89, 90, 88, 56, 57, 58, 59, 60, 61, 62, 63, 64, 65, 66, 67, 68, 69, 70, 71, 72, 73, 74, 75, 76, 77, 78, 79, 80, 81, 82, 83, 84, 85, 86] (by decide +kernel) rfl
  refine nx_i (v := (r_g_told i (a 11) (a 9) (a 10) (xs (6 * k + 1)))) hre ?_
  refine lv_pop hx hb dL_law_1130 rfl ?_
  refine lv_goto (tgt := 1134) hx hb dL_law_1131 (by decide) ?_
  refine lv_iinc (v := nI (6 * (k + 1))) (lv' := [(3, .int (nI (6 * (k + 1)))), (2, .ref hm), (1, .ref ho), (0, .ref b)]) hx hb dL_law_1134 hl (k := 0) rfl (sc_next k) (by decide) rfl (fun ls hl => ?_)
  refine lv_goto (tgt := 18) hx hb dL_law_1137 (by decide) ?_
  exact ih ls H locs (cells) (slots) xi xl xa fc cs i L a aL (by omega) (by omega) ⟨hcs, tb, ln0, ln1, ln2, ln3, h7, mci, ob, fb, pb, ri, h22, h24, h29, h5, h23, h20, hr25, hr27, h50, h51, o47, h52, hr54, h35, z31, z64, o56, l58, sz, b6, nm, kc, kcr, kfl, klk⟩ (lv_sub hl [0, 1, 2, 3] rfl) hP hD hS
