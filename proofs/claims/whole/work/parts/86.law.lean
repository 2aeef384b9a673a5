set_option maxHeartbeats 40000000 in
set_option maxRecDepth 100000 in
theorem law_loop {p : Program} {l : Launch} {e : Env} {s : State} {m : MethodId} {below : List Frame} {meth : Method} {c : Code} {D : va_G} {cc : Nat → ClassId} {ak av : Nat → Nat} {b L n : Nat} {xs : Nat → Int32} {Rel : St → Nat → (Nat → Nat → Int32) → St → Prop} (hL : L ≤ 3072) (C0 : lw_At p s m meth c b L xs) (B : Bd D cc ak av (fun q : Nat => s.heap.size ≤ q) s) (hO : aO s) (HS : QAll n Rel) :
    ∀ (fu j : Nat) (x3 : Int32) (S : St) (k : Nat) (Fn : Nat → Nat → Int32) (T : St) (ad sa am : Nat → Nat) (H : Heap) (locs : List Loc) (ls : Array Slot), 6 * j ≤ L → 600 - j < fu → x3 = nI (6 * j) → Rel S k Fn T → Wd D (fun q : Nat => s.heap.size ≤ q) s.heap H locs (WX cc ad (gS sa k) S ++ (sP Fn sa k ++ WM cc am T)) → lv_has ls 4 [(0, .ref b), (1, .ref (ad 0)), (2, .ref (am 0)), (3, .int x3)] → W p l e room_1 s m #[Value.ref b] below meth c H locs (100 + j) (6000 + 9 * j) (lw_Z below #[Value.ref b] s) (F0 m 18 ls []) := by
  obtain ⟨hx, hb, hr, hml, hown0, hts0, hX, hbl, hlocks, hgv⟩ := id C0
  have hown : s.vm.findClass RL = some m.cls := hown0
  have hts : ∀ w ∈ wsL_law, w.before #[Value.ref b] s = true := fun w h => hts0 w (wsL_law_in w h)
  have F : CallFix p m c code 4 s #[Value.ref b] wsL_law RL := ⟨hx, hb, hml, hown, hts⟩
  have hbA : ¬ (fun q : Nat => s.heap.size ≤ q) b := Nat.not_le.mpr hbl
  obtain ⟨HS0, HS1, HS2, HS3, HS4, HS5, HS6, HS7, HS8, HS9, HS10, HS11, HS12, HS13, HS14, HS15, HS16, HS17, HS18, HS19, HS20⟩ := HS
  intro fu
  induction fu with
  | zero => intro j _ _ _ _ _ _ _ _ _ _ _ _ h; omega
  | succ fu ih =>
    intro j x3 S k Fn T ad sa am H locs ls hj hfu ex3 hRel w hl
    refine lv_iload_n hx hb dL_law_18 rfl (lv_at hl 3 rfl) ?_
    refine lv_aload_n hx hb dL_law_19 rfl (lv_at hl 0 rfl) ?_
    refine va_slen hx hb hX hbl hbA w.2.2 dL_law_20 ?_
    refine lv_bipush (v := 6) hx hb dL_law_21 (by decide) ?_
    refine lv_isub hx hb dL_law_23 ?_
    refine lv_icmp_gt (tgt := 897) hx hb dL_law_24 (by decide) (fun c1 => ?_) (fun c1 => ?_)
    · refine lv_iconst (v := 1) hx hb dL_law_897 (by decide) ?_
      refine va_forget (fun q hq => w.2.2.2.2 q hq) ?_
      refine W.widen (k := 600000) (n := 7302250) (by omega) (by omega) ?_
      exact lw_ret hx hb hr hlocks dL_law_898
    have hlt : 6 * j + 6 ≤ L := by
      rcases Nat.lt_or_ge L (6 * j + 6) with q | q
      · exact absurd (by rw [ex3]; exact law_lt hL q hj) c1
      · exact q
    have h0 : vp_in x3 L := by
      rw [ex3]; exact vp_in_nI (by omega) (by omega)
    have h1 : vp_in (x3 + 1) L := law_in (k := 1) hL ex3 (by omega)
    have h2 : vp_in (x3 + 2) L := law_in (k := 2) hL ex3 (by omega)
    have h3 : vp_in (x3 + 3) L := law_in (k := 3) hL ex3 (by omega)
    have h4 : vp_in (x3 + 4) L := law_in (k := 4) hL ex3 (by omega)
    have h5 : vp_in (x3 + 5) L := law_in (k := 5) hL ex3 (by omega)
    have hend : ∀ (S : St) (k : Nat) (Fn : Nat → Nat → Int32) (T : St) (ad sa am : Nat → Nat) (H : Heap) (locs : List Loc) (ls : Array Slot), Rel S k Fn T → Wd D (fun q : Nat => s.heap.size ≤ q) s.heap H locs (WX cc ad (gS sa k) S ++ (sP Fn sa k ++ WM cc am T)) → lv_has ls 4 [(0, .ref b), (1, .ref (ad 0)), (2, .ref (am 0)), (3, .int x3)] → W p l e room_1 s m #[Value.ref b] below meth c H locs (100 + j + 1) (6000 + 9 * j + 9) (lw_Z below #[Value.ref b] s) (F0 m 891 ls []) := by
      intro S k Fn T ad sa am H locs ls hRel w hl
      refine lv_iinc (v := x3 + 6) (lv' := [(3, .int (x3 + 6)), (0, .ref b), (1, .ref (ad 0)), (2, .ref (am 0))]) hx hb dL_law_891 hl (k := 3) rfl rfl (by decide) rfl (fun ls hl => ?_)
      refine lv_goto (tgt := 18) hx hb dL_law_894 (by decide) ?_
      exact ih (j + 1) (x3 + 6) S k Fn T ad sa am H locs ls (by omega) (by omega) (by rw [ex3]; exact nI_add (6 * j) 6) hRel w (lv_sub hl [1, 2, 3, 0] rfl)
    have hroom : 100 + j + 1 ≤ 600000 ∧ 6000 + 9 * j + 9 ≤ 7302250 := by omega
    have hroom0 : 100 + j + 0 ≤ 600000 ∧ 6000 + 9 * j + 0 ≤ 7302250 := by omega
    refine lv_aload_n hx hb dL_law_27 rfl (lv_at hl 0 rfl) ?_
    refine lv_iload_n hx hb dL_law_28 rfl (lv_at hl 3 rfl) ?_
    refine va_sld hx hb hX hbl hbA w.2.2 h0 dL_law_29 ?_
    refine lv_bipush (v := 31) hx hb dL_law_30 (by decide) ?_
    refine lv_iand hx hb dL_law_32 ?_
    generalize hop : xs x3.toNatClampNeg &&& 31 = op
    by_cases c10 : op = 0
    · refine lv_tableIn (off := 99) (tgt := 132) hx hb dL_law_33 (by rw [c10]; decide) (by rw [c10]; decide) (by rw [c10]; rfl) (by decide) ?_
      obtain ⟨r, S', T', ex, em, hRel⟩ := HS0 S k Fn T (xs (Int32.toNatClampNeg (x3 + 1))) (xs (Int32.toNatClampNeg (x3 + 2))) hRel
      refine lv_aload_n hx hb dL_law_132 rfl (lv_at hl 1 rfl) ?_
      refine lv_aload_n hx hb dL_law_133 rfl (lv_at hl 0 rfl) ?_
      refine lv_iload_n hx hb dL_law_134 rfl (lv_at hl 3 rfl) ?_
      refine lv_iconst (v := 1) hx hb dL_law_135 (by decide) ?_
      refine lv_iadd hx hb dL_law_136 ?_
      refine va_sld hx hb hX hbl hbA w.2.2 h1 dL_law_137 ?_
      refine lv_aload_n hx hb dL_law_138 rfl (lv_at hl 0 rfl) ?_
      refine lv_iload_n hx hb dL_law_139 rfl (lv_at hl 3 rfl) ?_
      refine lv_iconst (v := 2) hx hb dL_law_140 (by decide) ?_
      refine lv_iadd hx hb dL_law_141 ?_
      refine va_sld hx hb hX hbl hbA w.2.2 h2 dL_law_142 ?_
      refine kVi (As := [.int (xs (Int32.toNatClampNeg (x3 + 1))), .int (xs (Int32.toNatClampNeg (x3 + 2)))]) (rest := []) F B w (tX10_person ex) (cwV 2 hts gL_law_X10_person rfl rfl rfl (by decide +kernel) ⟨Nat.le_of_ble_eq_true rfl, Nat.le_of_ble_eq_true rfl⟩) 0 gX_0 rfl rfl hl.1 rfl (Nat.le_of_ble_eq_true rfl) dL_law_143 hroom0 (fun H locs w => ?_)
      have w := Wd.comm (by rw [← List.append_assoc] at w; exact w)
      refine lv_aload_n hx hb dL_law_146 rfl (lv_at hl 2 rfl) ?_
      refine lv_aload_n hx hb dL_law_147 rfl (lv_at hl 0 rfl) ?_
      refine lv_iload_n hx hb dL_law_148 rfl (lv_at hl 3 rfl) ?_
      refine lv_iconst (v := 1) hx hb dL_law_149 (by decide) ?_
      refine lv_iadd hx hb dL_law_150 ?_
      refine va_sld hx hb hX hbl hbA w.2.2 h1 dL_law_151 ?_
      refine lv_aload_n hx hb dL_law_152 rfl (lv_at hl 0 rfl) ?_
      refine lv_iload_n hx hb dL_law_153 rfl (lv_at hl 3 rfl) ?_
      refine lv_iconst (v := 2) hx hb dL_law_154 (by decide) ?_
      refine lv_iadd hx hb dL_law_155 ?_
      refine va_sld hx hb hX hbl hbA w.2.2 h2 dL_law_156 ?_
      refine kVi (As := [.int (xs (Int32.toNatClampNeg (x3 + 1))), .int (xs (Int32.toNatClampNeg (x3 + 2)))]) (rest := [.int r]) F B w (tX11_person em) (cwV 2 hts gL_law_X11_person rfl rfl rfl (by decide +kernel) ⟨Nat.le_of_ble_eq_true rfl, Nat.le_of_ble_eq_true rfl⟩) 0 gM_0 rfl rfl hl.1 rfl (Nat.le_of_ble_eq_true rfl) dL_law_157 hroom0 (fun H locs w => ?_)
      have w := Wd.comm w
      rw [List.append_assoc] at w
      refine lv_icmp_eq (tgt := 891) hx hb dL_law_160 (by decide) (fun _ => ?_) (fun c => absurd rfl c)
      refine W.widen (k := 100 + j + 1) (n := 6000 + 9 * j + 9) (by omega) (by omega) ?_
      exact hend _ _ _ _ _ _ _ _ _ ls hRel w hl
    by_cases c11 : op = 1
    · refine lv_tableIn (off := 132) (tgt := 165) hx hb dL_law_33 (by rw [c11]; decide) (by rw [c11]; decide) (by rw [c11]; rfl) (by decide) ?_
      obtain ⟨r, S', T', ex, em, hRel⟩ := HS1 S k Fn T (xs (Int32.toNatClampNeg (x3 + 1))) (xs (Int32.toNatClampNeg (x3 + 2))) hRel
      refine lv_aload_n hx hb dL_law_165 rfl (lv_at hl 1 rfl) ?_
      refine lv_aload_n hx hb dL_law_166 rfl (lv_at hl 0 rfl) ?_
      refine lv_iload_n hx hb dL_law_167 rfl (lv_at hl 3 rfl) ?_
      refine lv_iconst (v := 1) hx hb dL_law_168 (by decide) ?_
      refine lv_iadd hx hb dL_law_169 ?_
      refine va_sld hx hb hX hbl hbA w.2.2 h1 dL_law_170 ?_
      refine lv_aload_n hx hb dL_law_171 rfl (lv_at hl 0 rfl) ?_
      refine lv_iload_n hx hb dL_law_172 rfl (lv_at hl 3 rfl) ?_
      refine lv_iconst (v := 2) hx hb dL_law_173 (by decide) ?_
      refine lv_iadd hx hb dL_law_174 ?_
      refine va_sld hx hb hX hbl hbA w.2.2 h2 dL_law_175 ?_
      refine kVi (As := [.int (xs (Int32.toNatClampNeg (x3 + 1))), .int (xs (Int32.toNatClampNeg (x3 + 2)))]) (rest := []) F B w (tX10_akin ex) (cwV 2 hts gL_law_X10_akin rfl rfl rfl (by decide +kernel) ⟨Nat.le_of_ble_eq_true rfl, Nat.le_of_ble_eq_true rfl⟩) 0 gX_0 rfl rfl hl.1 rfl (Nat.le_of_ble_eq_true rfl) dL_law_176 hroom0 (fun H locs w => ?_)
      have w := Wd.comm (by rw [← List.append_assoc] at w; exact w)
      refine lv_aload_n hx hb dL_law_179 rfl (lv_at hl 2 rfl) ?_
      refine lv_aload_n hx hb dL_law_180 rfl (lv_at hl 0 rfl) ?_
      refine lv_iload_n hx hb dL_law_181 rfl (lv_at hl 3 rfl) ?_
      refine lv_iconst (v := 1) hx hb dL_law_182 (by decide) ?_
      refine lv_iadd hx hb dL_law_183 ?_
      refine va_sld hx hb hX hbl hbA w.2.2 h1 dL_law_184 ?_
      refine lv_aload_n hx hb dL_law_185 rfl (lv_at hl 0 rfl) ?_
      refine lv_iload_n hx hb dL_law_186 rfl (lv_at hl 3 rfl) ?_
      refine lv_iconst (v := 2) hx hb dL_law_187 (by decide) ?_
      refine lv_iadd hx hb dL_law_188 ?_
      refine va_sld hx hb hX hbl hbA w.2.2 h2 dL_law_189 ?_
      refine kVi (As := [.int (xs (Int32.toNatClampNeg (x3 + 1))), .int (xs (Int32.toNatClampNeg (x3 + 2)))]) (rest := [.int r]) F B w (tX11_akin em) (cwV 2 hts gL_law_X11_akin rfl rfl rfl (by decide +kernel) ⟨Nat.le_of_ble_eq_true rfl, Nat.le_of_ble_eq_true rfl⟩) 0 gM_0 rfl rfl hl.1 rfl (Nat.le_of_ble_eq_true rfl) dL_law_190 hroom0 (fun H locs w => ?_)
      have w := Wd.comm w
      rw [List.append_assoc] at w
      refine lv_icmp_eq (tgt := 891) hx hb dL_law_193 (by decide) (fun _ => ?_) (fun c => absurd rfl c)
      refine W.widen (k := 100 + j + 1) (n := 6000 + 9 * j + 9) (by omega) (by omega) ?_
      exact hend _ _ _ _ _ _ _ _ _ ls hRel w hl
    by_cases c12 : op = 2
    · refine lv_tableIn (off := 165) (tgt := 198) hx hb dL_law_33 (by rw [c12]; decide) (by rw [c12]; decide) (by rw [c12]; rfl) (by decide) ?_
      obtain ⟨r, S', T', ex, em, hRel⟩ := HS2 S k Fn T (xs (Int32.toNatClampNeg (x3 + 1))) (xs (Int32.toNatClampNeg (x3 + 2))) (xs (Int32.toNatClampNeg (x3 + 3))) (xs (Int32.toNatClampNeg (x3 + 4))) (xs (Int32.toNatClampNeg (x3 + 5))) hRel
      refine lv_aload_n hx hb dL_law_198 rfl (lv_at hl 1 rfl) ?_
      refine lv_aload_n hx hb dL_law_199 rfl (lv_at hl 0 rfl) ?_
      refine lv_iload_n hx hb dL_law_200 rfl (lv_at hl 3 rfl) ?_
      refine lv_iconst (v := 1) hx hb dL_law_201 (by decide) ?_
      refine lv_iadd hx hb dL_law_202 ?_
      refine va_sld hx hb hX hbl hbA w.2.2 h1 dL_law_203 ?_
      refine lv_aload_n hx hb dL_law_204 rfl (lv_at hl 0 rfl) ?_
      refine lv_iload_n hx hb dL_law_205 rfl (lv_at hl 3 rfl) ?_
      refine lv_iconst (v := 2) hx hb dL_law_206 (by decide) ?_
      refine lv_iadd hx hb dL_law_207 ?_
      refine va_sld hx hb hX hbl hbA w.2.2 h2 dL_law_208 ?_
      refine lv_aload_n hx hb dL_law_209 rfl (lv_at hl 0 rfl) ?_
      refine lv_iload_n hx hb dL_law_210 rfl (lv_at hl 3 rfl) ?_
      refine lv_iconst (v := 3) hx hb dL_law_211 (by decide) ?_
      refine lv_iadd hx hb dL_law_212 ?_
      refine va_sld hx hb hX hbl hbA w.2.2 h3 dL_law_213 ?_
      refine lv_aload_n hx hb dL_law_214 rfl (lv_at hl 0 rfl) ?_
      refine lv_iload_n hx hb dL_law_215 rfl (lv_at hl 3 rfl) ?_
      refine lv_iconst (v := 4) hx hb dL_law_216 (by decide) ?_
      refine lv_iadd hx hb dL_law_217 ?_
      refine va_sld hx hb hX hbl hbA w.2.2 h4 dL_law_218 ?_
      refine lv_aload_n hx hb dL_law_219 rfl (lv_at hl 0 rfl) ?_
      refine lv_iload_n hx hb dL_law_220 rfl (lv_at hl 3 rfl) ?_
      refine lv_iconst (v := 5) hx hb dL_law_221 (by decide) ?_
      refine lv_iadd hx hb dL_law_222 ?_
      refine va_sld hx hb hX hbl hbA w.2.2 h5 dL_law_223 ?_
      refine kVi (As := [.int (xs (Int32.toNatClampNeg (x3 + 1))), .int (xs (Int32.toNatClampNeg (x3 + 2))), .int (xs (Int32.toNatClampNeg (x3 + 3))), .int (xs (Int32.toNatClampNeg (x3 + 4))), .int (xs (Int32.toNatClampNeg (x3 + 5)))]) (rest := []) F B w (tX10_field ex) (cwV 5 hts gL_law_X10_field rfl rfl rfl (by decide +kernel) ⟨Nat.le_of_ble_eq_true rfl, Nat.le_of_ble_eq_true rfl⟩) 0 gX_0 rfl rfl hl.1 rfl (Nat.le_of_ble_eq_true rfl) dL_law_224 hroom0 (fun H locs w => ?_)
      have w := Wd.comm (by rw [← List.append_assoc] at w; exact w)
      refine lv_aload_n hx hb dL_law_227 rfl (lv_at hl 2 rfl) ?_
      refine lv_aload_n hx hb dL_law_228 rfl (lv_at hl 0 rfl) ?_
      refine lv_iload_n hx hb dL_law_229 rfl (lv_at hl 3 rfl) ?_
      refine lv_iconst (v := 1) hx hb dL_law_230 (by decide) ?_
      refine lv_iadd hx hb dL_law_231 ?_
      refine va_sld hx hb hX hbl hbA w.2.2 h1 dL_law_232 ?_
      refine lv_aload_n hx hb dL_law_233 rfl (lv_at hl 0 rfl) ?_
      refine lv_iload_n hx hb dL_law_234 rfl (lv_at hl 3 rfl) ?_
      refine lv_iconst (v := 2) hx hb dL_law_235 (by decide) ?_
      refine lv_iadd hx hb dL_law_236 ?_
      refine va_sld hx hb hX hbl hbA w.2.2 h2 dL_law_237 ?_
      refine lv_aload_n hx hb dL_law_238 rfl (lv_at hl 0 rfl) ?_
      refine lv_iload_n hx hb dL_law_239 rfl (lv_at hl 3 rfl) ?_
      refine lv_iconst (v := 3) hx hb dL_law_240 (by decide) ?_
      refine lv_iadd hx hb dL_law_241 ?_
      refine va_sld hx hb hX hbl hbA w.2.2 h3 dL_law_242 ?_
      refine lv_aload_n hx hb dL_law_243 rfl (lv_at hl 0 rfl) ?_
      refine lv_iload_n hx hb dL_law_244 rfl (lv_at hl 3 rfl) ?_
      refine lv_iconst (v := 4) hx hb dL_law_245 (by decide) ?_
      refine lv_iadd hx hb dL_law_246 ?_
      refine va_sld hx hb hX hbl hbA w.2.2 h4 dL_law_247 ?_
      refine lv_aload_n hx hb dL_law_248 rfl (lv_at hl 0 rfl) ?_
      refine lv_iload_n hx hb dL_law_249 rfl (lv_at hl 3 rfl) ?_
      refine lv_iconst (v := 5) hx hb dL_law_250 (by decide) ?_
      refine lv_iadd hx hb dL_law_251 ?_
      refine va_sld hx hb hX hbl hbA w.2.2 h5 dL_law_252 ?_
      refine kVi (As := [.int (xs (Int32.toNatClampNeg (x3 + 1))), .int (xs (Int32.toNatClampNeg (x3 + 2))), .int (xs (Int32.toNatClampNeg (x3 + 3))), .int (xs (Int32.toNatClampNeg (x3 + 4))), .int (xs (Int32.toNatClampNeg (x3 + 5)))]) (rest := [.int r]) F B w (tX11_field em) (cwV 5 hts gL_law_X11_field rfl rfl rfl (by decide +kernel) ⟨Nat.le_of_ble_eq_true rfl, Nat.le_of_ble_eq_true rfl⟩) 0 gM_0 rfl rfl hl.1 rfl (Nat.le_of_ble_eq_true rfl) dL_law_253 hroom0 (fun H locs w => ?_)
      have w := Wd.comm w
      rw [List.append_assoc] at w
      refine lv_icmp_eq (tgt := 891) hx hb dL_law_256 (by decide) (fun _ => ?_) (fun c => absurd rfl c)
      refine W.widen (k := 100 + j + 1) (n := 6000 + 9 * j + 9) (by omega) (by omega) ?_
      exact hend _ _ _ _ _ _ _ _ _ ls hRel w hl
    by_cases c13 : op = 3
    · refine lv_tableIn (off := 228) (tgt := 261) hx hb dL_law_33 (by rw [c13]; decide) (by rw [c13]; decide) (by rw [c13]; rfl) (by decide) ?_
      obtain ⟨r, S', T', ex, em, hRel⟩ := HS3 S k Fn T (xs (Int32.toNatClampNeg (x3 + 1))) hRel
      refine lv_aload_n hx hb dL_law_261 rfl (lv_at hl 1 rfl) ?_
      refine lv_aload_n hx hb dL_law_262 rfl (lv_at hl 0 rfl) ?_
      refine lv_iload_n hx hb dL_law_263 rfl (lv_at hl 3 rfl) ?_
      refine lv_iconst (v := 1) hx hb dL_law_264 (by decide) ?_
      refine lv_iadd hx hb dL_law_265 ?_
      refine va_sld hx hb hX hbl hbA w.2.2 h1 dL_law_266 ?_
      refine kVi (As := [.int (xs (Int32.toNatClampNeg (x3 + 1)))]) (rest := []) F B w (tX10_day ex) (cwV 1 hts gL_law_X10_day rfl rfl rfl (by decide +kernel) ⟨Nat.le_of_ble_eq_true rfl, Nat.le_of_ble_eq_true rfl⟩) 0 gX_0 rfl rfl hl.1 rfl (Nat.le_of_ble_eq_true rfl) dL_law_267 hroom0 (fun H locs w => ?_)
      have w := Wd.comm (by rw [← List.append_assoc] at w; exact w)
      refine lv_aload_n hx hb dL_law_270 rfl (lv_at hl 2 rfl) ?_
      refine lv_aload_n hx hb dL_law_271 rfl (lv_at hl 0 rfl) ?_
      refine lv_iload_n hx hb dL_law_272 rfl (lv_at hl 3 rfl) ?_
      refine lv_iconst (v := 1) hx hb dL_law_273 (by decide) ?_
      refine lv_iadd hx hb dL_law_274 ?_
      refine va_sld hx hb hX hbl hbA w.2.2 h1 dL_law_275 ?_
      refine kVi (As := [.int (xs (Int32.toNatClampNeg (x3 + 1)))]) (rest := [.int r]) F B w (tX11_day em) (cwV 1 hts gL_law_X11_day rfl rfl rfl (by decide +kernel) ⟨Nat.le_of_ble_eq_true rfl, Nat.le_of_ble_eq_true rfl⟩) 0 gM_0 rfl rfl hl.1 rfl (Nat.le_of_ble_eq_true rfl) dL_law_276 hroom0 (fun H locs w => ?_)
      have w := Wd.comm w
      rw [List.append_assoc] at w
      refine lv_icmp_eq (tgt := 891) hx hb dL_law_279 (by decide) (fun _ => ?_) (fun c => absurd rfl c)
      refine W.widen (k := 100 + j + 1) (n := 6000 + 9 * j + 9) (by omega) (by omega) ?_
      exact hend _ _ _ _ _ _ _ _ _ ls hRel w hl
    by_cases c14 : op = 4
    · refine lv_tableIn (off := 251) (tgt := 284) hx hb dL_law_33 (by rw [c14]; decide) (by rw [c14]; decide) (by rw [c14]; rfl) (by decide) ?_
      obtain ⟨r, S', T', ex, em, hRel⟩ := HS4 S k Fn T (xs (Int32.toNatClampNeg (x3 + 1))) (xs (Int32.toNatClampNeg (x3 + 2))) hRel
      refine lv_aload_n hx hb dL_law_284 rfl (lv_at hl 1 rfl) ?_
      refine lv_aload_n hx hb dL_law_285 rfl (lv_at hl 0 rfl) ?_
      refine lv_iload_n hx hb dL_law_286 rfl (lv_at hl 3 rfl) ?_
      refine lv_iconst (v := 1) hx hb dL_law_287 (by decide) ?_
      refine lv_iadd hx hb dL_law_288 ?_
      refine va_sld hx hb hX hbl hbA w.2.2 h1 dL_law_289 ?_
      refine lv_aload_n hx hb dL_law_290 rfl (lv_at hl 0 rfl) ?_
      refine lv_iload_n hx hb dL_law_291 rfl (lv_at hl 3 rfl) ?_
      refine lv_iconst (v := 2) hx hb dL_law_292 (by decide) ?_
      refine lv_iadd hx hb dL_law_293 ?_
      refine va_sld hx hb hX hbl hbA w.2.2 h2 dL_law_294 ?_
      refine kVi (As := [.int (xs (Int32.toNatClampNeg (x3 + 1))), .int (xs (Int32.toNatClampNeg (x3 + 2)))]) (rest := []) F B w (tX10_transfer ex) (cwV 2 hts gL_law_X10_transfer rfl rfl rfl (by decide +kernel) ⟨Nat.le_of_ble_eq_true rfl, Nat.le_of_ble_eq_true rfl⟩) 0 gX_0 rfl rfl hl.1 rfl (Nat.le_of_ble_eq_true rfl) dL_law_295 hroom0 (fun H locs w => ?_)
      have w := Wd.comm (by rw [← List.append_assoc] at w; exact w)
      refine lv_aload_n hx hb dL_law_298 rfl (lv_at hl 2 rfl) ?_
      refine lv_aload_n hx hb dL_law_299 rfl (lv_at hl 0 rfl) ?_
      refine lv_iload_n hx hb dL_law_300 rfl (lv_at hl 3 rfl) ?_
      refine lv_iconst (v := 1) hx hb dL_law_301 (by decide) ?_
      refine lv_iadd hx hb dL_law_302 ?_
      refine va_sld hx hb hX hbl hbA w.2.2 h1 dL_law_303 ?_
      refine lv_aload_n hx hb dL_law_304 rfl (lv_at hl 0 rfl) ?_
      refine lv_iload_n hx hb dL_law_305 rfl (lv_at hl 3 rfl) ?_
      refine lv_iconst (v := 2) hx hb dL_law_306 (by decide) ?_
      refine lv_iadd hx hb dL_law_307 ?_
      refine va_sld hx hb hX hbl hbA w.2.2 h2 dL_law_308 ?_
      refine kVi (As := [.int (xs (Int32.toNatClampNeg (x3 + 1))), .int (xs (Int32.toNatClampNeg (x3 + 2)))]) (rest := [.int r]) F B w (tX11_transfer em) (cwV 2 hts gL_law_X11_transfer rfl rfl rfl (by decide +kernel) ⟨Nat.le_of_ble_eq_true rfl, Nat.le_of_ble_eq_true rfl⟩) 0 gM_0 rfl rfl hl.1 rfl (Nat.le_of_ble_eq_true rfl) dL_law_309 hroom0 (fun H locs w => ?_)
      have w := Wd.comm w
      rw [List.append_assoc] at w
      refine lv_icmp_eq (tgt := 891) hx hb dL_law_312 (by decide) (fun _ => ?_) (fun c => absurd rfl c)
      refine W.widen (k := 100 + j + 1) (n := 6000 + 9 * j + 9) (by omega) (by omega) ?_
      exact hend _ _ _ _ _ _ _ _ _ ls hRel w hl
    by_cases c15 : op = 5
    · refine lv_tableIn (off := 284) (tgt := 317) hx hb dL_law_33 (by rw [c15]; decide) (by rw [c15]; decide) (by rw [c15]; rfl) (by decide) ?_
      obtain ⟨r, S', T', ex, em, hRel⟩ := HS5 S k Fn T (xs (Int32.toNatClampNeg (x3 + 1))) (xs (Int32.toNatClampNeg (x3 + 2))) (xs (Int32.toNatClampNeg (x3 + 3))) (xs (Int32.toNatClampNeg (x3 + 4))) (xs (Int32.toNatClampNeg (x3 + 5))) hRel
      refine lv_aload_n hx hb dL_law_317 rfl (lv_at hl 1 rfl) ?_
      refine lv_aload_n hx hb dL_law_318 rfl (lv_at hl 0 rfl) ?_
      refine lv_iload_n hx hb dL_law_319 rfl (lv_at hl 3 rfl) ?_
      refine lv_iconst (v := 1) hx hb dL_law_320 (by decide) ?_
      refine lv_iadd hx hb dL_law_321 ?_
      refine va_sld hx hb hX hbl hbA w.2.2 h1 dL_law_322 ?_
      refine lv_aload_n hx hb dL_law_323 rfl (lv_at hl 0 rfl) ?_
      refine lv_iload_n hx hb dL_law_324 rfl (lv_at hl 3 rfl) ?_
      refine lv_iconst (v := 2) hx hb dL_law_325 (by decide) ?_
      refine lv_iadd hx hb dL_law_326 ?_
      refine va_sld hx hb hX hbl hbA w.2.2 h2 dL_law_327 ?_
      refine lv_aload_n hx hb dL_law_328 rfl (lv_at hl 0 rfl) ?_
      refine lv_iload_n hx hb dL_law_329 rfl (lv_at hl 3 rfl) ?_
      refine lv_iconst (v := 3) hx hb dL_law_330 (by decide) ?_
      refine lv_iadd hx hb dL_law_331 ?_
      refine va_sld hx hb hX hbl hbA w.2.2 h3 dL_law_332 ?_
      refine lv_aload_n hx hb dL_law_333 rfl (lv_at hl 0 rfl) ?_
      refine lv_iload_n hx hb dL_law_334 rfl (lv_at hl 3 rfl) ?_
      refine lv_iconst (v := 4) hx hb dL_law_335 (by decide) ?_
      refine lv_iadd hx hb dL_law_336 ?_
      refine va_sld hx hb hX hbl hbA w.2.2 h4 dL_law_337 ?_
      refine lv_aload_n hx hb dL_law_338 rfl (lv_at hl 0 rfl) ?_
      refine lv_iload_n hx hb dL_law_339 rfl (lv_at hl 3 rfl) ?_
      refine lv_iconst (v := 5) hx hb dL_law_340 (by decide) ?_
      refine lv_iadd hx hb dL_law_341 ?_
      refine va_sld hx hb hX hbl hbA w.2.2 h5 dL_law_342 ?_
      refine kVi (As := [.int (xs (Int32.toNatClampNeg (x3 + 1))), .int (xs (Int32.toNatClampNeg (x3 + 2))), .int (xs (Int32.toNatClampNeg (x3 + 3))), .int (xs (Int32.toNatClampNeg (x3 + 4))), .int (xs (Int32.toNatClampNeg (x3 + 5)))]) (rest := []) F B w (tX10_feed ex) (cwV 5 hts gL_law_X10_feed rfl rfl rfl (by decide +kernel) ⟨Nat.le_of_ble_eq_true rfl, Nat.le_of_ble_eq_true rfl⟩) 0 gX_0 rfl rfl hl.1 rfl (Nat.le_of_ble_eq_true rfl) dL_law_343 hroom0 (fun H locs w => ?_)
      have w := Wd.comm (by rw [← List.append_assoc] at w; exact w)
      refine lv_aload_n hx hb dL_law_346 rfl (lv_at hl 2 rfl) ?_
      refine lv_aload_n hx hb dL_law_347 rfl (lv_at hl 0 rfl) ?_
      refine lv_iload_n hx hb dL_law_348 rfl (lv_at hl 3 rfl) ?_
      refine lv_iconst (v := 1) hx hb dL_law_349 (by decide) ?_
      refine lv_iadd hx hb dL_law_350 ?_
      refine va_sld hx hb hX hbl hbA w.2.2 h1 dL_law_351 ?_
      refine lv_aload_n hx hb dL_law_352 rfl (lv_at hl 0 rfl) ?_
      refine lv_iload_n hx hb dL_law_353 rfl (lv_at hl 3 rfl) ?_
      refine lv_iconst (v := 2) hx hb dL_law_354 (by decide) ?_
      refine lv_iadd hx hb dL_law_355 ?_
      refine va_sld hx hb hX hbl hbA w.2.2 h2 dL_law_356 ?_
      refine lv_aload_n hx hb dL_law_357 rfl (lv_at hl 0 rfl) ?_
      refine lv_iload_n hx hb dL_law_358 rfl (lv_at hl 3 rfl) ?_
      refine lv_iconst (v := 3) hx hb dL_law_359 (by decide) ?_
      refine lv_iadd hx hb dL_law_360 ?_
      refine va_sld hx hb hX hbl hbA w.2.2 h3 dL_law_361 ?_
      refine lv_aload_n hx hb dL_law_362 rfl (lv_at hl 0 rfl) ?_
      refine lv_iload_n hx hb dL_law_363 rfl (lv_at hl 3 rfl) ?_
      refine lv_iconst (v := 4) hx hb dL_law_364 (by decide) ?_
      refine lv_iadd hx hb dL_law_365 ?_
      refine va_sld hx hb hX hbl hbA w.2.2 h4 dL_law_366 ?_
      refine lv_aload_n hx hb dL_law_367 rfl (lv_at hl 0 rfl) ?_
      refine lv_iload_n hx hb dL_law_368 rfl (lv_at hl 3 rfl) ?_
      refine lv_iconst (v := 5) hx hb dL_law_369 (by decide) ?_
      refine lv_iadd hx hb dL_law_370 ?_
      refine va_sld hx hb hX hbl hbA w.2.2 h5 dL_law_371 ?_
      refine kVi (As := [.int (xs (Int32.toNatClampNeg (x3 + 1))), .int (xs (Int32.toNatClampNeg (x3 + 2))), .int (xs (Int32.toNatClampNeg (x3 + 3))), .int (xs (Int32.toNatClampNeg (x3 + 4))), .int (xs (Int32.toNatClampNeg (x3 + 5)))]) (rest := [.int r]) F B w (tX11_feed em) (cwV 5 hts gL_law_X11_feed rfl rfl rfl (by decide +kernel) ⟨Nat.le_of_ble_eq_true rfl, Nat.le_of_ble_eq_true rfl⟩) 0 gM_0 rfl rfl hl.1 rfl (Nat.le_of_ble_eq_true rfl) dL_law_372 hroom0 (fun H locs w => ?_)
      have w := Wd.comm w
      rw [List.append_assoc] at w
      refine lv_icmp_eq (tgt := 891) hx hb dL_law_375 (by decide) (fun _ => ?_) (fun c => absurd rfl c)
      refine W.widen (k := 100 + j + 1) (n := 6000 + 9 * j + 9) (by omega) (by omega) ?_
      exact hend _ _ _ _ _ _ _ _ _ ls hRel w hl
    by_cases c16 : op = 6
    · refine lv_tableIn (off := 347) (tgt := 380) hx hb dL_law_33 (by rw [c16]; decide) (by rw [c16]; decide) (by rw [c16]; rfl) (by decide) ?_
      obtain ⟨r, S', b', T', ex, em, hRel⟩ := HS6 S k Fn T (xs (Int32.toNatClampNeg (x3 + 1))) hRel
      refine lv_aload_n hx hb dL_law_380 rfl (lv_at hl 1 rfl) ?_
      refine lv_aload_n hx hb dL_law_381 rfl (lv_at hl 0 rfl) ?_
      refine lv_iload_n hx hb dL_law_382 rfl (lv_at hl 3 rfl) ?_
      refine lv_iconst (v := 1) hx hb dL_law_383 (by decide) ?_
      refine lv_iadd hx hb dL_law_384 ?_
      refine va_sld hx hb hX hbl hbA w.2.2 h1 dL_law_385 ?_
      refine kVi (As := [.int (xs (Int32.toNatClampNeg (x3 + 1)))]) (rest := []) F B w (tX10_act ex) (cwV 1 hts gL_law_X10_act rfl rfl rfl (by decide +kernel) ⟨Nat.le_of_ble_eq_true rfl, Nat.le_of_ble_eq_true rfl⟩) 0 gX_0 rfl rfl hl.1 rfl (Nat.le_of_ble_eq_true rfl) dL_law_386 hroom0 (fun H locs w => ?_)
      have w := Wd.comm (by rw [← List.append_assoc] at w; exact w)
      refine lv_aload_n hx hb dL_law_389 rfl (lv_at hl 2 rfl) ?_
      refine lv_aload_n hx hb dL_law_390 rfl (lv_at hl 0 rfl) ?_
      refine lv_iload_n hx hb dL_law_391 rfl (lv_at hl 3 rfl) ?_
      refine lv_iconst (v := 1) hx hb dL_law_392 (by decide) ?_
      refine lv_iadd hx hb dL_law_393 ?_
      refine va_sld hx hb hX hbl hbA w.2.2 h1 dL_law_394 ?_
      refine kVi (As := [.int (xs (Int32.toNatClampNeg (x3 + 1)))]) (rest := [.int r]) F B w (tX11_act em) (cwV 1 hts gL_law_X11_act rfl rfl rfl (by decide +kernel) ⟨Nat.le_of_ble_eq_true rfl, Nat.le_of_ble_eq_true rfl⟩) 0 gM_0 rfl rfl hl.1 rfl (Nat.le_of_ble_eq_true rfl) dL_law_395 hroom0 (fun H locs w => ?_)
      have w := Wd.comm w
      rw [List.append_assoc] at w
      refine lv_icmp_eq (tgt := 891) hx hb dL_law_398 (by decide) (fun _ => ?_) (fun c => absurd rfl c)
      refine W.widen (k := 100 + j + 1) (n := 6000 + 9 * j + 9) (by omega) (by omega) ?_
      exact hend _ _ _ _ _ _ _ _ _ ls hRel w (by rw [swA_0]; exact hl)
    by_cases c17 : op = 7
    · refine lv_tableIn (off := 370) (tgt := 403) hx hb dL_law_33 (by rw [c17]; decide) (by rw [c17]; decide) (by rw [c17]; rfl) (by decide) ?_
      obtain ⟨r, ex, em, hRel⟩ := HS7 S k Fn T  hRel
      refine lv_aload_n hx hb dL_law_403 rfl (lv_at hl 1 rfl) ?_
      refine kVi (As := []) (rest := []) F B w (tX10_fault ex) (cwV 0 hts gL_law_X10_fault rfl rfl rfl (by decide +kernel) ⟨Nat.le_of_ble_eq_true rfl, Nat.le_of_ble_eq_true rfl⟩) 0 gX_0 rfl rfl hl.1 rfl (Nat.le_of_ble_eq_true rfl) dL_law_404 hroom0 (fun H locs w => ?_)
      have w := Wd.comm (by rw [← List.append_assoc] at w; exact w)
      refine lv_aload_n hx hb dL_law_407 rfl (lv_at hl 2 rfl) ?_
      refine kVi (As := []) (rest := [.int r]) F B w (tX11_fault em) (cwV 0 hts gL_law_X11_fault rfl rfl rfl (by decide +kernel) ⟨Nat.le_of_ble_eq_true rfl, Nat.le_of_ble_eq_true rfl⟩) 0 gM_0 rfl rfl hl.1 rfl (Nat.le_of_ble_eq_true rfl) dL_law_408 hroom0 (fun H locs w => ?_)
      have w := Wd.comm w
      rw [List.append_assoc] at w
      refine lv_icmp_eq (tgt := 891) hx hb dL_law_411 (by decide) (fun _ => ?_) (fun c => absurd rfl c)
      refine W.widen (k := 100 + j + 1) (n := 6000 + 9 * j + 9) (by omega) (by omega) ?_
      exact hend _ _ _ _ _ _ _ _ _ ls hRel w hl
    by_cases c18 : op = 8
    · refine lv_tableIn (off := 383) (tgt := 416) hx hb dL_law_33 (by rw [c18]; decide) (by rw [c18]; decide) (by rw [c18]; rfl) (by decide) ?_
      obtain ⟨r, S', ex, em, hRel⟩ := HS8 S k Fn T (xs (Int32.toNatClampNeg (x3 + 1))) (xs (Int32.toNatClampNeg (x3 + 2))) hRel
      refine lv_aload_n hx hb dL_law_416 rfl (lv_at hl 1 rfl) ?_
      refine lv_aload_n hx hb dL_law_417 rfl (lv_at hl 0 rfl) ?_
      refine lv_iload_n hx hb dL_law_418 rfl (lv_at hl 3 rfl) ?_
      refine lv_iconst (v := 1) hx hb dL_law_419 (by decide) ?_
      refine lv_iadd hx hb dL_law_420 ?_
      refine va_sld hx hb hX hbl hbA w.2.2 h1 dL_law_421 ?_
      refine lv_aload_n hx hb dL_law_422 rfl (lv_at hl 0 rfl) ?_
      refine lv_iload_n hx hb dL_law_423 rfl (lv_at hl 3 rfl) ?_
      refine lv_iconst (v := 2) hx hb dL_law_424 (by decide) ?_
      refine lv_iadd hx hb dL_law_425 ?_
      refine va_sld hx hb hX hbl hbA w.2.2 h2 dL_law_426 ?_
      refine kVi (As := [.int (xs (Int32.toNatClampNeg (x3 + 1))), .int (xs (Int32.toNatClampNeg (x3 + 2)))]) (rest := []) F B w (tX10_told ex) (cwV 2 hts gL_law_X10_told rfl rfl rfl (by decide +kernel) ⟨Nat.le_of_ble_eq_true rfl, Nat.le_of_ble_eq_true rfl⟩) 0 gX_0 rfl rfl hl.1 rfl (Nat.le_of_ble_eq_true rfl) dL_law_427 hroom0 (fun H locs w => ?_)
      have w := Wd.comm (by rw [← List.append_assoc] at w; exact w)
      refine lv_aload_n hx hb dL_law_430 rfl (lv_at hl 2 rfl) ?_
      refine lv_aload_n hx hb dL_law_431 rfl (lv_at hl 0 rfl) ?_
      refine lv_iload_n hx hb dL_law_432 rfl (lv_at hl 3 rfl) ?_
      refine lv_iconst (v := 1) hx hb dL_law_433 (by decide) ?_
      refine lv_iadd hx hb dL_law_434 ?_
      refine va_sld hx hb hX hbl hbA w.2.2 h1 dL_law_435 ?_
      refine lv_aload_n hx hb dL_law_436 rfl (lv_at hl 0 rfl) ?_
      refine lv_iload_n hx hb dL_law_437 rfl (lv_at hl 3 rfl) ?_
      refine lv_iconst (v := 2) hx hb dL_law_438 (by decide) ?_
      refine lv_iadd hx hb dL_law_439 ?_
      refine va_sld hx hb hX hbl hbA w.2.2 h2 dL_law_440 ?_
      refine kVi (As := [.int (xs (Int32.toNatClampNeg (x3 + 1))), .int (xs (Int32.toNatClampNeg (x3 + 2)))]) (rest := [.int r]) F B w (tX11_told em) (cwV 2 hts gL_law_X11_told rfl rfl rfl (by decide +kernel) ⟨Nat.le_of_ble_eq_true rfl, Nat.le_of_ble_eq_true rfl⟩) 0 gM_0 rfl rfl hl.1 rfl (Nat.le_of_ble_eq_true rfl) dL_law_441 hroom0 (fun H locs w => ?_)
      have w := Wd.comm w
      rw [List.append_assoc] at w
      refine lv_icmp_eq (tgt := 891) hx hb dL_law_444 (by decide) (fun _ => ?_) (fun c => absurd rfl c)
      refine W.widen (k := 100 + j + 1) (n := 6000 + 9 * j + 9) (by omega) (by omega) ?_
      exact hend _ _ _ _ _ _ _ _ _ ls hRel w hl
    by_cases c19 : op = 9
    · refine lv_tableIn (off := 416) (tgt := 449) hx hb dL_law_33 (by rw [c19]; decide) (by rw [c19]; decide) (by rw [c19]; rfl) (by decide) ?_
      obtain ⟨r, ex, em, hRel⟩ := HS9 S k Fn T (xs (Int32.toNatClampNeg (x3 + 1))) (xs (Int32.toNatClampNeg (x3 + 2))) hRel
      refine lv_aload_n hx hb dL_law_449 rfl (lv_at hl 1 rfl) ?_
      refine lv_aload_n hx hb dL_law_450 rfl (lv_at hl 0 rfl) ?_
      refine lv_iload_n hx hb dL_law_451 rfl (lv_at hl 3 rfl) ?_
      refine lv_iconst (v := 1) hx hb dL_law_452 (by decide) ?_
      refine lv_iadd hx hb dL_law_453 ?_
      refine va_sld hx hb hX hbl hbA w.2.2 h1 dL_law_454 ?_
      refine lv_aload_n hx hb dL_law_455 rfl (lv_at hl 0 rfl) ?_
      refine lv_iload_n hx hb dL_law_456 rfl (lv_at hl 3 rfl) ?_
      refine lv_iconst (v := 2) hx hb dL_law_457 (by decide) ?_
      refine lv_iadd hx hb dL_law_458 ?_
      refine va_sld hx hb hX hbl hbA w.2.2 h2 dL_law_459 ?_
      refine kVi (As := [.int (xs (Int32.toNatClampNeg (x3 + 1))), .int (xs (Int32.toNatClampNeg (x3 + 2)))]) (rest := []) F B w (tX10_owned ex) (cwV 2 hts gL_law_X10_owned rfl rfl rfl (by decide +kernel) ⟨Nat.le_of_ble_eq_true rfl, Nat.le_of_ble_eq_true rfl⟩) 0 gX_0 rfl rfl hl.1 rfl (Nat.le_of_ble_eq_true rfl) dL_law_460 hroom0 (fun H locs w => ?_)
      have w := Wd.comm (by rw [← List.append_assoc] at w; exact w)
      refine lv_aload_n hx hb dL_law_463 rfl (lv_at hl 2 rfl) ?_
      refine lv_aload_n hx hb dL_law_464 rfl (lv_at hl 0 rfl) ?_
      refine lv_iload_n hx hb dL_law_465 rfl (lv_at hl 3 rfl) ?_
      refine lv_iconst (v := 1) hx hb dL_law_466 (by decide) ?_
      refine lv_iadd hx hb dL_law_467 ?_
      refine va_sld hx hb hX hbl hbA w.2.2 h1 dL_law_468 ?_
      refine lv_aload_n hx hb dL_law_469 rfl (lv_at hl 0 rfl) ?_
      refine lv_iload_n hx hb dL_law_470 rfl (lv_at hl 3 rfl) ?_
      refine lv_iconst (v := 2) hx hb dL_law_471 (by decide) ?_
      refine lv_iadd hx hb dL_law_472 ?_
      refine va_sld hx hb hX hbl hbA w.2.2 h2 dL_law_473 ?_
      refine kVi (As := [.int (xs (Int32.toNatClampNeg (x3 + 1))), .int (xs (Int32.toNatClampNeg (x3 + 2)))]) (rest := [.int r]) F B w (tX11_owned em) (cwV 2 hts gL_law_X11_owned rfl rfl rfl (by decide +kernel) ⟨Nat.le_of_ble_eq_true rfl, Nat.le_of_ble_eq_true rfl⟩) 0 gM_0 rfl rfl hl.1 rfl (Nat.le_of_ble_eq_true rfl) dL_law_474 hroom0 (fun H locs w => ?_)
      have w := Wd.comm w
      rw [List.append_assoc] at w
      refine lv_icmp_eq (tgt := 891) hx hb dL_law_477 (by decide) (fun _ => ?_) (fun c => absurd rfl c)
      refine W.widen (k := 100 + j + 1) (n := 6000 + 9 * j + 9) (by omega) (by omega) ?_
      exact hend _ _ _ _ _ _ _ _ _ ls hRel w hl
    by_cases c20 : op = 10
    · refine lv_tableIn (off := 449) (tgt := 482) hx hb dL_law_33 (by rw [c20]; decide) (by rw [c20]; decide) (by rw [c20]; rfl) (by decide) ?_
      obtain ⟨r, S', T', ex, em, hRel⟩ := HS10 S k Fn T (xs (Int32.toNatClampNeg (x3 + 1))) (xs (Int32.toNatClampNeg (x3 + 2))) hRel
      refine lv_aload_n hx hb dL_law_482 rfl (lv_at hl 1 rfl) ?_
      refine lv_aload_n hx hb dL_law_483 rfl (lv_at hl 0 rfl) ?_
      refine lv_iload_n hx hb dL_law_484 rfl (lv_at hl 3 rfl) ?_
      refine lv_iconst (v := 1) hx hb dL_law_485 (by decide) ?_
      refine lv_iadd hx hb dL_law_486 ?_
      refine va_sld hx hb hX hbl hbA w.2.2 h1 dL_law_487 ?_
      refine lv_aload_n hx hb dL_law_488 rfl (lv_at hl 0 rfl) ?_
      refine lv_iload_n hx hb dL_law_489 rfl (lv_at hl 3 rfl) ?_
      refine lv_iconst (v := 2) hx hb dL_law_490 (by decide) ?_
      refine lv_iadd hx hb dL_law_491 ?_
      refine va_sld hx hb hX hbl hbA w.2.2 h2 dL_law_492 ?_
      refine kVi (As := [.int (xs (Int32.toNatClampNeg (x3 + 1))), .int (xs (Int32.toNatClampNeg (x3 + 2)))]) (rest := []) F B w (tX10_house ex) (cwV 2 hts gL_law_X10_house rfl rfl rfl (by decide +kernel) ⟨Nat.le_of_ble_eq_true rfl, Nat.le_of_ble_eq_true rfl⟩) 0 gX_0 rfl rfl hl.1 rfl (Nat.le_of_ble_eq_true rfl) dL_law_493 hroom0 (fun H locs w => ?_)
      have w := Wd.comm (by rw [← List.append_assoc] at w; exact w)
      refine lv_aload_n hx hb dL_law_496 rfl (lv_at hl 2 rfl) ?_
      refine lv_aload_n hx hb dL_law_497 rfl (lv_at hl 0 rfl) ?_
      refine lv_iload_n hx hb dL_law_498 rfl (lv_at hl 3 rfl) ?_
      refine lv_iconst (v := 1) hx hb dL_law_499 (by decide) ?_
      refine lv_iadd hx hb dL_law_500 ?_
      refine va_sld hx hb hX hbl hbA w.2.2 h1 dL_law_501 ?_
      refine lv_aload_n hx hb dL_law_502 rfl (lv_at hl 0 rfl) ?_
      refine lv_iload_n hx hb dL_law_503 rfl (lv_at hl 3 rfl) ?_
      refine lv_iconst (v := 2) hx hb dL_law_504 (by decide) ?_
      refine lv_iadd hx hb dL_law_505 ?_
      refine va_sld hx hb hX hbl hbA w.2.2 h2 dL_law_506 ?_
      refine kVi (As := [.int (xs (Int32.toNatClampNeg (x3 + 1))), .int (xs (Int32.toNatClampNeg (x3 + 2)))]) (rest := [.int r]) F B w (tX11_house em) (cwV 2 hts gL_law_X11_house rfl rfl rfl (by decide +kernel) ⟨Nat.le_of_ble_eq_true rfl, Nat.le_of_ble_eq_true rfl⟩) 0 gM_0 rfl rfl hl.1 rfl (Nat.le_of_ble_eq_true rfl) dL_law_507 hroom0 (fun H locs w => ?_)
      have w := Wd.comm w
      rw [List.append_assoc] at w
      refine lv_icmp_eq (tgt := 891) hx hb dL_law_510 (by decide) (fun _ => ?_) (fun c => absurd rfl c)
      refine W.widen (k := 100 + j + 1) (n := 6000 + 9 * j + 9) (by omega) (by omega) ?_
      exact hend _ _ _ _ _ _ _ _ _ ls hRel w hl
    by_cases c21 : op = 11
    · refine lv_tableIn (off := 482) (tgt := 515) hx hb dL_law_33 (by rw [c21]; decide) (by rw [c21]; decide) (by rw [c21]; rfl) (by decide) ?_
      obtain ⟨r, S', T', ex, em, hRel⟩ := HS11 S k Fn T (xs (Int32.toNatClampNeg (x3 + 1))) (xs (Int32.toNatClampNeg (x3 + 2))) hRel
      refine lv_aload_n hx hb dL_law_515 rfl (lv_at hl 1 rfl) ?_
      refine lv_aload_n hx hb dL_law_516 rfl (lv_at hl 0 rfl) ?_
      refine lv_iload_n hx hb dL_law_517 rfl (lv_at hl 3 rfl) ?_
      refine lv_iconst (v := 1) hx hb dL_law_518 (by decide) ?_
      refine lv_iadd hx hb dL_law_519 ?_
      refine va_sld hx hb hX hbl hbA w.2.2 h1 dL_law_520 ?_
      refine lv_aload_n hx hb dL_law_521 rfl (lv_at hl 0 rfl) ?_
      refine lv_iload_n hx hb dL_law_522 rfl (lv_at hl 3 rfl) ?_
      refine lv_iconst (v := 2) hx hb dL_law_523 (by decide) ?_
      refine lv_iadd hx hb dL_law_524 ?_
      refine va_sld hx hb hX hbl hbA w.2.2 h2 dL_law_525 ?_
      refine kVi (As := [.int (xs (Int32.toNatClampNeg (x3 + 1))), .int (xs (Int32.toNatClampNeg (x3 + 2)))]) (rest := []) F B w (tX10_kept ex) (cwV 2 hts gL_law_X10_kept rfl rfl rfl (by decide +kernel) ⟨Nat.le_of_ble_eq_true rfl, Nat.le_of_ble_eq_true rfl⟩) 0 gX_0 rfl rfl hl.1 rfl (Nat.le_of_ble_eq_true rfl) dL_law_526 hroom0 (fun H locs w => ?_)
      have w := Wd.comm (by rw [← List.append_assoc] at w; exact w)
      refine lv_aload_n hx hb dL_law_529 rfl (lv_at hl 2 rfl) ?_
      refine lv_aload_n hx hb dL_law_530 rfl (lv_at hl 0 rfl) ?_
      refine lv_iload_n hx hb dL_law_531 rfl (lv_at hl 3 rfl) ?_
      refine lv_iconst (v := 1) hx hb dL_law_532 (by decide) ?_
      refine lv_iadd hx hb dL_law_533 ?_
      refine va_sld hx hb hX hbl hbA w.2.2 h1 dL_law_534 ?_
      refine lv_aload_n hx hb dL_law_535 rfl (lv_at hl 0 rfl) ?_
      refine lv_iload_n hx hb dL_law_536 rfl (lv_at hl 3 rfl) ?_
      refine lv_iconst (v := 2) hx hb dL_law_537 (by decide) ?_
      refine lv_iadd hx hb dL_law_538 ?_
      refine va_sld hx hb hX hbl hbA w.2.2 h2 dL_law_539 ?_
      refine kVi (As := [.int (xs (Int32.toNatClampNeg (x3 + 1))), .int (xs (Int32.toNatClampNeg (x3 + 2)))]) (rest := [.int r]) F B w (tX11_kept em) (cwV 2 hts gL_law_X11_kept rfl rfl rfl (by decide +kernel) ⟨Nat.le_of_ble_eq_true rfl, Nat.le_of_ble_eq_true rfl⟩) 0 gM_0 rfl rfl hl.1 rfl (Nat.le_of_ble_eq_true rfl) dL_law_540 hroom0 (fun H locs w => ?_)
      have w := Wd.comm w
      rw [List.append_assoc] at w
      refine lv_icmp_eq (tgt := 891) hx hb dL_law_543 (by decide) (fun _ => ?_) (fun c => absurd rfl c)
      refine W.widen (k := 100 + j + 1) (n := 6000 + 9 * j + 9) (by omega) (by omega) ?_
      exact hend _ _ _ _ _ _ _ _ _ ls hRel w hl
    by_cases c22 : op = 12
    · refine lv_tableIn (off := 515) (tgt := 548) hx hb dL_law_33 (by rw [c22]; decide) (by rw [c22]; decide) (by rw [c22]; rfl) (by decide) ?_
      obtain ⟨r, S', T', ex, em, hRel⟩ := HS12 S k Fn T (xs (Int32.toNatClampNeg (x3 + 1))) (xs (Int32.toNatClampNeg (x3 + 2))) hRel
      refine lv_aload_n hx hb dL_law_548 rfl (lv_at hl 1 rfl) ?_
      refine lv_aload_n hx hb dL_law_549 rfl (lv_at hl 0 rfl) ?_
      refine lv_iload_n hx hb dL_law_550 rfl (lv_at hl 3 rfl) ?_
      refine lv_iconst (v := 1) hx hb dL_law_551 (by decide) ?_
      refine lv_iadd hx hb dL_law_552 ?_
      refine va_sld hx hb hX hbl hbA w.2.2 h1 dL_law_553 ?_
      refine lv_aload_n hx hb dL_law_554 rfl (lv_at hl 0 rfl) ?_
      refine lv_iload_n hx hb dL_law_555 rfl (lv_at hl 3 rfl) ?_
      refine lv_iconst (v := 2) hx hb dL_law_556 (by decide) ?_
      refine lv_iadd hx hb dL_law_557 ?_
      refine va_sld hx hb hX hbl hbA w.2.2 h2 dL_law_558 ?_
      refine kVi (As := [.int (xs (Int32.toNatClampNeg (x3 + 1))), .int (xs (Int32.toNatClampNeg (x3 + 2)))]) (rest := []) F B w (tX10_taken ex) (cwV 2 hts gL_law_X10_taken rfl rfl rfl (by decide +kernel) ⟨Nat.le_of_ble_eq_true rfl, Nat.le_of_ble_eq_true rfl⟩) 0 gX_0 rfl rfl hl.1 rfl (Nat.le_of_ble_eq_true rfl) dL_law_559 hroom0 (fun H locs w => ?_)
      have w := Wd.comm (by rw [← List.append_assoc] at w; exact w)
      refine lv_aload_n hx hb dL_law_562 rfl (lv_at hl 2 rfl) ?_
      refine lv_aload_n hx hb dL_law_563 rfl (lv_at hl 0 rfl) ?_
      refine lv_iload_n hx hb dL_law_564 rfl (lv_at hl 3 rfl) ?_
      refine lv_iconst (v := 1) hx hb dL_law_565 (by decide) ?_
      refine lv_iadd hx hb dL_law_566 ?_
      refine va_sld hx hb hX hbl hbA w.2.2 h1 dL_law_567 ?_
      refine lv_aload_n hx hb dL_law_568 rfl (lv_at hl 0 rfl) ?_
      refine lv_iload_n hx hb dL_law_569 rfl (lv_at hl 3 rfl) ?_
      refine lv_iconst (v := 2) hx hb dL_law_570 (by decide) ?_
      refine lv_iadd hx hb dL_law_571 ?_
      refine va_sld hx hb hX hbl hbA w.2.2 h2 dL_law_572 ?_
      refine kVi (As := [.int (xs (Int32.toNatClampNeg (x3 + 1))), .int (xs (Int32.toNatClampNeg (x3 + 2)))]) (rest := [.int r]) F B w (tX11_taken em) (cwV 2 hts gL_law_X11_taken rfl rfl rfl (by decide +kernel) ⟨Nat.le_of_ble_eq_true rfl, Nat.le_of_ble_eq_true rfl⟩) 0 gM_0 rfl rfl hl.1 rfl (Nat.le_of_ble_eq_true rfl) dL_law_573 hroom0 (fun H locs w => ?_)
      have w := Wd.comm w
      rw [List.append_assoc] at w
      refine lv_icmp_eq (tgt := 891) hx hb dL_law_576 (by decide) (fun _ => ?_) (fun c => absurd rfl c)
      refine W.widen (k := 100 + j + 1) (n := 6000 + 9 * j + 9) (by omega) (by omega) ?_
      exact hend _ _ _ _ _ _ _ _ _ ls hRel w hl
    by_cases c23 : op = 13
    · refine lv_tableIn (off := 548) (tgt := 581) hx hb dL_law_33 (by rw [c23]; decide) (by rw [c23]; decide) (by rw [c23]; rfl) (by decide) ?_
      obtain ⟨r, S', T', ex, em, hRel⟩ := HS13 S k Fn T (xs (Int32.toNatClampNeg (x3 + 1))) (xs (Int32.toNatClampNeg (x3 + 2))) (xs (Int32.toNatClampNeg (x3 + 3))) hRel
      refine lv_aload_n hx hb dL_law_581 rfl (lv_at hl 1 rfl) ?_
      refine lv_aload_n hx hb dL_law_582 rfl (lv_at hl 0 rfl) ?_
      refine lv_iload_n hx hb dL_law_583 rfl (lv_at hl 3 rfl) ?_
      refine lv_iconst (v := 1) hx hb dL_law_584 (by decide) ?_
      refine lv_iadd hx hb dL_law_585 ?_
      refine va_sld hx hb hX hbl hbA w.2.2 h1 dL_law_586 ?_
      refine lv_aload_n hx hb dL_law_587 rfl (lv_at hl 0 rfl) ?_
      refine lv_iload_n hx hb dL_law_588 rfl (lv_at hl 3 rfl) ?_
      refine lv_iconst (v := 2) hx hb dL_law_589 (by decide) ?_
      refine lv_iadd hx hb dL_law_590 ?_
      refine va_sld hx hb hX hbl hbA w.2.2 h2 dL_law_591 ?_
      refine lv_aload_n hx hb dL_law_592 rfl (lv_at hl 0 rfl) ?_
      refine lv_iload_n hx hb dL_law_593 rfl (lv_at hl 3 rfl) ?_
      refine lv_iconst (v := 3) hx hb dL_law_594 (by decide) ?_
      refine lv_iadd hx hb dL_law_595 ?_
      refine va_sld hx hb hX hbl hbA w.2.2 h3 dL_law_596 ?_
      refine kVi (As := [.int (xs (Int32.toNatClampNeg (x3 + 1))), .int (xs (Int32.toNatClampNeg (x3 + 2))), .int (xs (Int32.toNatClampNeg (x3 + 3)))]) (rest := []) F B w (tX10_share ex) (cwV 3 hts gL_law_X10_share rfl rfl rfl (by decide +kernel) ⟨Nat.le_of_ble_eq_true rfl, Nat.le_of_ble_eq_true rfl⟩) 0 gX_0 rfl rfl hl.1 rfl (Nat.le_of_ble_eq_true rfl) dL_law_597 hroom0 (fun H locs w => ?_)
      have w := Wd.comm (by rw [← List.append_assoc] at w; exact w)
      refine lv_aload_n hx hb dL_law_600 rfl (lv_at hl 2 rfl) ?_
      refine lv_aload_n hx hb dL_law_601 rfl (lv_at hl 0 rfl) ?_
      refine lv_iload_n hx hb dL_law_602 rfl (lv_at hl 3 rfl) ?_
      refine lv_iconst (v := 1) hx hb dL_law_603 (by decide) ?_
      refine lv_iadd hx hb dL_law_604 ?_
      refine va_sld hx hb hX hbl hbA w.2.2 h1 dL_law_605 ?_
      refine lv_aload_n hx hb dL_law_606 rfl (lv_at hl 0 rfl) ?_
      refine lv_iload_n hx hb dL_law_607 rfl (lv_at hl 3 rfl) ?_
      refine lv_iconst (v := 2) hx hb dL_law_608 (by decide) ?_
      refine lv_iadd hx hb dL_law_609 ?_
      refine va_sld hx hb hX hbl hbA w.2.2 h2 dL_law_610 ?_
      refine lv_aload_n hx hb dL_law_611 rfl (lv_at hl 0 rfl) ?_
      refine lv_iload_n hx hb dL_law_612 rfl (lv_at hl 3 rfl) ?_
      refine lv_iconst (v := 3) hx hb dL_law_613 (by decide) ?_
      refine lv_iadd hx hb dL_law_614 ?_
      refine va_sld hx hb hX hbl hbA w.2.2 h3 dL_law_615 ?_
      refine kVi (As := [.int (xs (Int32.toNatClampNeg (x3 + 1))), .int (xs (Int32.toNatClampNeg (x3 + 2))), .int (xs (Int32.toNatClampNeg (x3 + 3)))]) (rest := [.int r]) F B w (tX11_share em) (cwV 3 hts gL_law_X11_share rfl rfl rfl (by decide +kernel) ⟨Nat.le_of_ble_eq_true rfl, Nat.le_of_ble_eq_true rfl⟩) 0 gM_0 rfl rfl hl.1 rfl (Nat.le_of_ble_eq_true rfl) dL_law_616 hroom0 (fun H locs w => ?_)
      have w := Wd.comm w
      rw [List.append_assoc] at w
      refine lv_icmp_eq (tgt := 891) hx hb dL_law_619 (by decide) (fun _ => ?_) (fun c => absurd rfl c)
      refine W.widen (k := 100 + j + 1) (n := 6000 + 9 * j + 9) (by omega) (by omega) ?_
      exact hend _ _ _ _ _ _ _ _ _ ls hRel w hl
    by_cases c24 : op = 14
    · refine lv_tableIn (off := 591) (tgt := 624) hx hb dL_law_33 (by rw [c24]; decide) (by rw [c24]; decide) (by rw [c24]; rfl) (by decide) ?_
      obtain ⟨r, S', T', ex, em, hRel⟩ := HS14 S k Fn T (xs (Int32.toNatClampNeg (x3 + 1))) (xs (Int32.toNatClampNeg (x3 + 2))) (xs (Int32.toNatClampNeg (x3 + 3))) (xs (Int32.toNatClampNeg (x3 + 4))) hRel
      refine lv_aload_n hx hb dL_law_624 rfl (lv_at hl 1 rfl) ?_
      refine lv_aload_n hx hb dL_law_625 rfl (lv_at hl 0 rfl) ?_
      refine lv_iload_n hx hb dL_law_626 rfl (lv_at hl 3 rfl) ?_
      refine lv_iconst (v := 1) hx hb dL_law_627 (by decide) ?_
      refine lv_iadd hx hb dL_law_628 ?_
      refine va_sld hx hb hX hbl hbA w.2.2 h1 dL_law_629 ?_
      refine lv_aload_n hx hb dL_law_630 rfl (lv_at hl 0 rfl) ?_
      refine lv_iload_n hx hb dL_law_631 rfl (lv_at hl 3 rfl) ?_
      refine lv_iconst (v := 2) hx hb dL_law_632 (by decide) ?_
      refine lv_iadd hx hb dL_law_633 ?_
      refine va_sld hx hb hX hbl hbA w.2.2 h2 dL_law_634 ?_
      refine lv_aload_n hx hb dL_law_635 rfl (lv_at hl 0 rfl) ?_
      refine lv_iload_n hx hb dL_law_636 rfl (lv_at hl 3 rfl) ?_
      refine lv_iconst (v := 3) hx hb dL_law_637 (by decide) ?_
      refine lv_iadd hx hb dL_law_638 ?_
      refine va_sld hx hb hX hbl hbA w.2.2 h3 dL_law_639 ?_
      refine lv_aload_n hx hb dL_law_640 rfl (lv_at hl 0 rfl) ?_
      refine lv_iload_n hx hb dL_law_641 rfl (lv_at hl 3 rfl) ?_
      refine lv_iconst (v := 4) hx hb dL_law_642 (by decide) ?_
      refine lv_iadd hx hb dL_law_643 ?_
      refine va_sld hx hb hX hbl hbA w.2.2 h4 dL_law_644 ?_
      refine kVi (As := [.int (xs (Int32.toNatClampNeg (x3 + 1))), .int (xs (Int32.toNatClampNeg (x3 + 2))), .int (xs (Int32.toNatClampNeg (x3 + 3))), .int (xs (Int32.toNatClampNeg (x3 + 4)))]) (rest := []) F B w (tX10_given ex) (cwV 4 hts gL_law_X10_given rfl rfl rfl (by decide +kernel) ⟨Nat.le_of_ble_eq_true rfl, Nat.le_of_ble_eq_true rfl⟩) 0 gX_0 rfl rfl hl.1 rfl (Nat.le_of_ble_eq_true rfl) dL_law_645 hroom0 (fun H locs w => ?_)
      have w := Wd.comm (by rw [← List.append_assoc] at w; exact w)
      refine lv_aload_n hx hb dL_law_648 rfl (lv_at hl 2 rfl) ?_
      refine lv_aload_n hx hb dL_law_649 rfl (lv_at hl 0 rfl) ?_
      refine lv_iload_n hx hb dL_law_650 rfl (lv_at hl 3 rfl) ?_
      refine lv_iconst (v := 1) hx hb dL_law_651 (by decide) ?_
      refine lv_iadd hx hb dL_law_652 ?_
      refine va_sld hx hb hX hbl hbA w.2.2 h1 dL_law_653 ?_
      refine lv_aload_n hx hb dL_law_654 rfl (lv_at hl 0 rfl) ?_
      refine lv_iload_n hx hb dL_law_655 rfl (lv_at hl 3 rfl) ?_
      refine lv_iconst (v := 2) hx hb dL_law_656 (by decide) ?_
      refine lv_iadd hx hb dL_law_657 ?_
      refine va_sld hx hb hX hbl hbA w.2.2 h2 dL_law_658 ?_
      refine lv_aload_n hx hb dL_law_659 rfl (lv_at hl 0 rfl) ?_
      refine lv_iload_n hx hb dL_law_660 rfl (lv_at hl 3 rfl) ?_
      refine lv_iconst (v := 3) hx hb dL_law_661 (by decide) ?_
      refine lv_iadd hx hb dL_law_662 ?_
      refine va_sld hx hb hX hbl hbA w.2.2 h3 dL_law_663 ?_
      refine lv_aload_n hx hb dL_law_664 rfl (lv_at hl 0 rfl) ?_
      refine lv_iload_n hx hb dL_law_665 rfl (lv_at hl 3 rfl) ?_
      refine lv_iconst (v := 4) hx hb dL_law_666 (by decide) ?_
      refine lv_iadd hx hb dL_law_667 ?_
      refine va_sld hx hb hX hbl hbA w.2.2 h4 dL_law_668 ?_
      refine kVi (As := [.int (xs (Int32.toNatClampNeg (x3 + 1))), .int (xs (Int32.toNatClampNeg (x3 + 2))), .int (xs (Int32.toNatClampNeg (x3 + 3))), .int (xs (Int32.toNatClampNeg (x3 + 4)))]) (rest := [.int r]) F B w (tX11_given em) (cwV 4 hts gL_law_X11_given rfl rfl rfl (by decide +kernel) ⟨Nat.le_of_ble_eq_true rfl, Nat.le_of_ble_eq_true rfl⟩) 0 gM_0 rfl rfl hl.1 rfl (Nat.le_of_ble_eq_true rfl) dL_law_669 hroom0 (fun H locs w => ?_)
      have w := Wd.comm w
      rw [List.append_assoc] at w
      refine lv_icmp_eq (tgt := 891) hx hb dL_law_672 (by decide) (fun _ => ?_) (fun c => absurd rfl c)
      refine W.widen (k := 100 + j + 1) (n := 6000 + 9 * j + 9) (by omega) (by omega) ?_
      exact hend _ _ _ _ _ _ _ _ _ ls hRel w hl
    by_cases c25 : op = 15
    · refine lv_tableIn (off := 644) (tgt := 677) hx hb dL_law_33 (by rw [c25]; decide) (by rw [c25]; decide) (by rw [c25]; rfl) (by decide) ?_
      obtain ⟨r, S', T', ex, em, hRel⟩ := HS15 S k Fn T (xs (Int32.toNatClampNeg (x3 + 1))) (xs (Int32.toNatClampNeg (x3 + 2))) (xs (Int32.toNatClampNeg (x3 + 3))) hRel
      refine lv_aload_n hx hb dL_law_677 rfl (lv_at hl 1 rfl) ?_
      refine lv_aload_n hx hb dL_law_678 rfl (lv_at hl 0 rfl) ?_
      refine lv_iload_n hx hb dL_law_679 rfl (lv_at hl 3 rfl) ?_
      refine lv_iconst (v := 1) hx hb dL_law_680 (by decide) ?_
      refine lv_iadd hx hb dL_law_681 ?_
      refine va_sld hx hb hX hbl hbA w.2.2 h1 dL_law_682 ?_
      refine lv_aload_n hx hb dL_law_683 rfl (lv_at hl 0 rfl) ?_
      refine lv_iload_n hx hb dL_law_684 rfl (lv_at hl 3 rfl) ?_
      refine lv_iconst (v := 2) hx hb dL_law_685 (by decide) ?_
      refine lv_iadd hx hb dL_law_686 ?_
      refine va_sld hx hb hX hbl hbA w.2.2 h2 dL_law_687 ?_
      refine lv_aload_n hx hb dL_law_688 rfl (lv_at hl 0 rfl) ?_
      refine lv_iload_n hx hb dL_law_689 rfl (lv_at hl 3 rfl) ?_
      refine lv_iconst (v := 3) hx hb dL_law_690 (by decide) ?_
      refine lv_iadd hx hb dL_law_691 ?_
      refine va_sld hx hb hX hbl hbA w.2.2 h3 dL_law_692 ?_
      refine kVi (As := [.int (xs (Int32.toNatClampNeg (x3 + 1))), .int (xs (Int32.toNatClampNeg (x3 + 2))), .int (xs (Int32.toNatClampNeg (x3 + 3)))]) (rest := []) F B w (tX10_rings ex) (cwV 3 hts gL_law_X10_rings rfl rfl rfl (by decide +kernel) ⟨Nat.le_of_ble_eq_true rfl, Nat.le_of_ble_eq_true rfl⟩) 0 gX_0 rfl rfl hl.1 rfl (Nat.le_of_ble_eq_true rfl) dL_law_693 hroom0 (fun H locs w => ?_)
      have w := Wd.comm (by rw [← List.append_assoc] at w; exact w)
      refine lv_aload_n hx hb dL_law_696 rfl (lv_at hl 2 rfl) ?_
      refine lv_aload_n hx hb dL_law_697 rfl (lv_at hl 0 rfl) ?_
      refine lv_iload_n hx hb dL_law_698 rfl (lv_at hl 3 rfl) ?_
      refine lv_iconst (v := 1) hx hb dL_law_699 (by decide) ?_
      refine lv_iadd hx hb dL_law_700 ?_
      refine va_sld hx hb hX hbl hbA w.2.2 h1 dL_law_701 ?_
      refine lv_aload_n hx hb dL_law_702 rfl (lv_at hl 0 rfl) ?_
      refine lv_iload_n hx hb dL_law_703 rfl (lv_at hl 3 rfl) ?_
      refine lv_iconst (v := 2) hx hb dL_law_704 (by decide) ?_
      refine lv_iadd hx hb dL_law_705 ?_
      refine va_sld hx hb hX hbl hbA w.2.2 h2 dL_law_706 ?_
      refine lv_aload_n hx hb dL_law_707 rfl (lv_at hl 0 rfl) ?_
      refine lv_iload_n hx hb dL_law_708 rfl (lv_at hl 3 rfl) ?_
      refine lv_iconst (v := 3) hx hb dL_law_709 (by decide) ?_
      refine lv_iadd hx hb dL_law_710 ?_
      refine va_sld hx hb hX hbl hbA w.2.2 h3 dL_law_711 ?_
      refine kVi (As := [.int (xs (Int32.toNatClampNeg (x3 + 1))), .int (xs (Int32.toNatClampNeg (x3 + 2))), .int (xs (Int32.toNatClampNeg (x3 + 3)))]) (rest := [.int r]) F B w (tX11_rings em) (cwV 3 hts gL_law_X11_rings rfl rfl rfl (by decide +kernel) ⟨Nat.le_of_ble_eq_true rfl, Nat.le_of_ble_eq_true rfl⟩) 0 gM_0 rfl rfl hl.1 rfl (Nat.le_of_ble_eq_true rfl) dL_law_712 hroom0 (fun H locs w => ?_)
      have w := Wd.comm w
      rw [List.append_assoc] at w
      refine lv_icmp_eq (tgt := 891) hx hb dL_law_715 (by decide) (fun _ => ?_) (fun c => absurd rfl c)
      refine W.widen (k := 100 + j + 1) (n := 6000 + 9 * j + 9) (by omega) (by omega) ?_
      exact hend _ _ _ _ _ _ _ _ _ ls hRel w hl
    by_cases c26 : op = 16
    · refine lv_tableIn (off := 687) (tgt := 720) hx hb dL_law_33 (by rw [c26]; decide) (by rw [c26]; decide) (by rw [c26]; rfl) (by decide) ?_
      obtain ⟨r, S', T', ex, em, hRel⟩ := HS16 S k Fn T (xs (Int32.toNatClampNeg (x3 + 1))) (xs (Int32.toNatClampNeg (x3 + 2))) hRel
      refine lv_aload_n hx hb dL_law_720 rfl (lv_at hl 1 rfl) ?_
      refine lv_aload_n hx hb dL_law_721 rfl (lv_at hl 0 rfl) ?_
      refine lv_iload_n hx hb dL_law_722 rfl (lv_at hl 3 rfl) ?_
      refine lv_iconst (v := 1) hx hb dL_law_723 (by decide) ?_
      refine lv_iadd hx hb dL_law_724 ?_
      refine va_sld hx hb hX hbl hbA w.2.2 h1 dL_law_725 ?_
      refine lv_aload_n hx hb dL_law_726 rfl (lv_at hl 0 rfl) ?_
      refine lv_iload_n hx hb dL_law_727 rfl (lv_at hl 3 rfl) ?_
      refine lv_iconst (v := 2) hx hb dL_law_728 (by decide) ?_
      refine lv_iadd hx hb dL_law_729 ?_
      refine va_sld hx hb hX hbl hbA w.2.2 h2 dL_law_730 ?_
      refine kVi (As := [.int (xs (Int32.toNatClampNeg (x3 + 1))), .int (xs (Int32.toNatClampNeg (x3 + 2)))]) (rest := []) F B w (tX10_swap ex) (cwV 2 hts gL_law_X10_swap rfl rfl rfl (by decide +kernel) ⟨Nat.le_of_ble_eq_true rfl, Nat.le_of_ble_eq_true rfl⟩) 0 gX_0 rfl rfl hl.1 rfl (Nat.le_of_ble_eq_true rfl) dL_law_731 hroom0 (fun H locs w => ?_)
      have w := Wd.comm (by rw [← List.append_assoc] at w; exact w)
      refine lv_aload_n hx hb dL_law_734 rfl (lv_at hl 2 rfl) ?_
      refine lv_aload_n hx hb dL_law_735 rfl (lv_at hl 0 rfl) ?_
      refine lv_iload_n hx hb dL_law_736 rfl (lv_at hl 3 rfl) ?_
      refine lv_iconst (v := 1) hx hb dL_law_737 (by decide) ?_
      refine lv_iadd hx hb dL_law_738 ?_
      refine va_sld hx hb hX hbl hbA w.2.2 h1 dL_law_739 ?_
      refine lv_aload_n hx hb dL_law_740 rfl (lv_at hl 0 rfl) ?_
      refine lv_iload_n hx hb dL_law_741 rfl (lv_at hl 3 rfl) ?_
      refine lv_iconst (v := 2) hx hb dL_law_742 (by decide) ?_
      refine lv_iadd hx hb dL_law_743 ?_
      refine va_sld hx hb hX hbl hbA w.2.2 h2 dL_law_744 ?_
      refine kVi (As := [.int (xs (Int32.toNatClampNeg (x3 + 1))), .int (xs (Int32.toNatClampNeg (x3 + 2)))]) (rest := [.int r]) F B w (tX11_swap em) (cwV 2 hts gL_law_X11_swap rfl rfl rfl (by decide +kernel) ⟨Nat.le_of_ble_eq_true rfl, Nat.le_of_ble_eq_true rfl⟩) 0 gM_0 rfl rfl hl.1 rfl (Nat.le_of_ble_eq_true rfl) dL_law_745 hroom0 (fun H locs w => ?_)
      have w := Wd.comm w
      rw [List.append_assoc] at w
      refine lv_icmp_eq (tgt := 891) hx hb dL_law_748 (by decide) (fun _ => ?_) (fun c => absurd rfl c)
      refine W.widen (k := 100 + j + 1) (n := 6000 + 9 * j + 9) (by omega) (by omega) ?_
      exact hend _ _ _ _ _ _ _ _ _ ls hRel w hl
    by_cases c27 : op = 17
    · refine lv_tableIn (off := 720) (tgt := 753) hx hb dL_law_33 (by rw [c27]; decide) (by rw [c27]; decide) (by rw [c27]; rfl) (by decide) ?_
      obtain ⟨r, S', k', F', T', ex, em, hRel⟩ := HS17 S k Fn T (xs (Int32.toNatClampNeg (x3 + 1))) (xs (Int32.toNatClampNeg (x3 + 2))) hRel
      refine lv_aload_n hx hb dL_law_753 rfl (lv_at hl 1 rfl) ?_
      refine lv_aload_n hx hb dL_law_754 rfl (lv_at hl 0 rfl) ?_
      refine lv_iload_n hx hb dL_law_755 rfl (lv_at hl 3 rfl) ?_
      refine lv_iconst (v := 1) hx hb dL_law_756 (by decide) ?_
      refine lv_iadd hx hb dL_law_757 ?_
      refine va_sld hx hb hX hbl hbA w.2.2 h1 dL_law_758 ?_
      refine lv_aload_n hx hb dL_law_759 rfl (lv_at hl 0 rfl) ?_
      refine lv_iload_n hx hb dL_law_760 rfl (lv_at hl 3 rfl) ?_
      refine lv_iconst (v := 2) hx hb dL_law_761 (by decide) ?_
      refine lv_iadd hx hb dL_law_762 ?_
      refine va_sld hx hb hX hbl hbA w.2.2 h2 dL_law_763 ?_
      refine kVmK (As := [.int (xs (Int32.toNatClampNeg (x3 + 1))), .int (xs (Int32.toNatClampNeg (x3 + 2)))]) (rest := []) F B hO w (tX10_sell ex) (cwV 2 hts gL_law_X10_sell rfl rfl rfl (by decide +kernel) ⟨Nat.le_of_ble_eq_true rfl, Nat.le_of_ble_eq_true rfl⟩) 0 gX_0 rfl rfl hl.1 rfl (Nat.le_of_ble_eq_true rfl) dL_law_764 hroom (fun r2 H locs w1 hw1 w => ?_)
      obtain ⟨rfl, sa', rfl⟩ := hw1
      have w := Wd.comm (by rw [← List.append_assoc] at w; exact w)
      refine lv_aload_n hx hb dL_law_767 rfl (lv_at hl 2 rfl) ?_
      refine lv_aload_n hx hb dL_law_768 rfl (lv_at hl 0 rfl) ?_
      refine lv_iload_n hx hb dL_law_769 rfl (lv_at hl 3 rfl) ?_
      refine lv_iconst (v := 1) hx hb dL_law_770 (by decide) ?_
      refine lv_iadd hx hb dL_law_771 ?_
      refine va_sld hx hb hX hbl hbA w.2.2 h1 dL_law_772 ?_
      refine lv_aload_n hx hb dL_law_773 rfl (lv_at hl 0 rfl) ?_
      refine lv_iload_n hx hb dL_law_774 rfl (lv_at hl 3 rfl) ?_
      refine lv_iconst (v := 2) hx hb dL_law_775 (by decide) ?_
      refine lv_iadd hx hb dL_law_776 ?_
      refine va_sld hx hb hX hbl hbA w.2.2 h2 dL_law_777 ?_
      refine kVi (As := [.int (xs (Int32.toNatClampNeg (x3 + 1))), .int (xs (Int32.toNatClampNeg (x3 + 2)))]) (rest := [.int r2]) F B w (tX11_sell em) (cwV 2 hts gL_law_X11_sell rfl rfl rfl (by decide +kernel) ⟨Nat.le_of_ble_eq_true rfl, Nat.le_of_ble_eq_true rfl⟩) 0 gM_0 rfl rfl hl.1 rfl (Nat.le_of_ble_eq_true rfl) dL_law_778 hroom (fun H locs w => ?_)
      have w := Wd.comm w
      rw [List.append_assoc] at w
      refine lv_icmp_eq (tgt := 891) hx hb dL_law_781 (by decide) (fun _ => ?_) (fun c => absurd rfl c)
      exact hend _ _ _ _ _ _ _ _ _ ls hRel w hl
    by_cases c28 : op = 18
    · refine lv_tableIn (off := 753) (tgt := 786) hx hb dL_law_33 (by rw [c28]; decide) (by rw [c28]; decide) (by rw [c28]; rfl) (by decide) ?_
      by_cases hz : xs (Int32.toNatClampNeg (x3 + 2)) = 0
      · obtain ⟨r, F', T', ex, em, hRel⟩ := HS18 S k Fn T (xs (Int32.toNatClampNeg (x3 + 1))) 0 (by decide) hRel
        refine lv_aload_n hx hb dL_law_786 rfl (lv_at hl 1 rfl) ?_
        refine lv_aload_n hx hb dL_law_787 rfl (lv_at hl 0 rfl) ?_
        refine lv_iload_n hx hb dL_law_788 rfl (lv_at hl 3 rfl) ?_
        refine lv_iconst (v := 1) hx hb dL_law_789 (by decide) ?_
        refine lv_iadd hx hb dL_law_790 ?_
        refine va_sld hx hb hX hbl hbA w.2.2 h1 dL_law_791 ?_
        refine lv_aload_n hx hb dL_law_792 rfl (lv_at hl 0 rfl) ?_
        refine lv_iload_n hx hb dL_law_793 rfl (lv_at hl 3 rfl) ?_
        refine lv_iconst (v := 2) hx hb dL_law_794 (by decide) ?_
        refine lv_iadd hx hb dL_law_795 ?_
        refine va_sld hx hb hX hbl hbA w.2.2 h2 dL_law_796 ?_
        refine lv_if_eq (tgt := 804) hx hb dL_law_797 (by decide) (fun _ => ?_) (fun c => absurd hz c)
        refine lv_iconst (v := 0) hx hb dL_law_804 (by decide) ?_
        refine kVi (As := [.int (xs (Int32.toNatClampNeg (x3 + 1))), .int 0]) (rest := []) F B w (tX10_year ex) (cwV 2 hts gL_law_X10_year rfl rfl rfl (by decide +kernel) ⟨Nat.le_of_ble_eq_true rfl, Nat.le_of_ble_eq_true rfl⟩) 0 gX_0 rfl rfl hl.1 rfl (Nat.le_of_ble_eq_true rfl) dL_law_805 hroom0 (fun H locs w => ?_)
        have w := Wd.comm (by rw [← List.append_assoc] at w; exact w)
        refine lv_aload_n hx hb dL_law_808 rfl (lv_at hl 2 rfl) ?_
        refine lv_aload_n hx hb dL_law_809 rfl (lv_at hl 0 rfl) ?_
        refine lv_iload_n hx hb dL_law_810 rfl (lv_at hl 3 rfl) ?_
        refine lv_iconst (v := 1) hx hb dL_law_811 (by decide) ?_
        refine lv_iadd hx hb dL_law_812 ?_
        refine va_sld hx hb hX hbl hbA w.2.2 h1 dL_law_813 ?_
        refine lv_aload_n hx hb dL_law_814 rfl (lv_at hl 0 rfl) ?_
        refine lv_iload_n hx hb dL_law_815 rfl (lv_at hl 3 rfl) ?_
        refine lv_iconst (v := 2) hx hb dL_law_816 (by decide) ?_
        refine lv_iadd hx hb dL_law_817 ?_
        refine va_sld hx hb hX hbl hbA w.2.2 h2 dL_law_818 ?_
        refine lv_if_eq (tgt := 826) hx hb dL_law_819 (by decide) (fun _ => ?_) (fun c => absurd hz c)
        refine lv_iconst (v := 0) hx hb dL_law_826 (by decide) ?_
        refine kVi (As := [.int (xs (Int32.toNatClampNeg (x3 + 1))), .int 0]) (rest := [.int r]) F B w (tX11_year em) (cwV 2 hts gL_law_X11_year rfl rfl rfl (by decide +kernel) ⟨Nat.le_of_ble_eq_true rfl, Nat.le_of_ble_eq_true rfl⟩) 0 gM_0 rfl rfl hl.1 rfl (Nat.le_of_ble_eq_true rfl) dL_law_827 hroom0 (fun H locs w => ?_)
        have w := Wd.comm w
        rw [List.append_assoc] at w
        refine lv_icmp_eq (tgt := 891) hx hb dL_law_830 (by decide) (fun _ => ?_) (fun c => absurd rfl c)
        refine W.widen (k := 100 + j + 1) (n := 6000 + 9 * j + 9) (by omega) (by omega) ?_
        exact hend _ _ _ _ _ _ _ _ _ ls hRel w hl
      · obtain ⟨r, F', T', ex, em, hRel⟩ := HS18 S k Fn T (xs (Int32.toNatClampNeg (x3 + 1))) 1 (by decide) hRel
        refine lv_aload_n hx hb dL_law_786 rfl (lv_at hl 1 rfl) ?_
        refine lv_aload_n hx hb dL_law_787 rfl (lv_at hl 0 rfl) ?_
        refine lv_iload_n hx hb dL_law_788 rfl (lv_at hl 3 rfl) ?_
        refine lv_iconst (v := 1) hx hb dL_law_789 (by decide) ?_
        refine lv_iadd hx hb dL_law_790 ?_
        refine va_sld hx hb hX hbl hbA w.2.2 h1 dL_law_791 ?_
        refine lv_aload_n hx hb dL_law_792 rfl (lv_at hl 0 rfl) ?_
        refine lv_iload_n hx hb dL_law_793 rfl (lv_at hl 3 rfl) ?_
        refine lv_iconst (v := 2) hx hb dL_law_794 (by decide) ?_
        refine lv_iadd hx hb dL_law_795 ?_
        refine va_sld hx hb hX hbl hbA w.2.2 h2 dL_law_796 ?_
        refine lv_if_eq (tgt := 804) hx hb dL_law_797 (by decide) (fun c => absurd c hz) (fun _ => ?_)
        refine lv_iconst (v := 1) hx hb dL_law_800 (by decide) ?_
        refine lv_goto (tgt := 805) hx hb dL_law_801 (by decide) ?_
        refine kVi (As := [.int (xs (Int32.toNatClampNeg (x3 + 1))), .int 1]) (rest := []) F B w (tX10_year ex) (cwV 2 hts gL_law_X10_year rfl rfl rfl (by decide +kernel) ⟨Nat.le_of_ble_eq_true rfl, Nat.le_of_ble_eq_true rfl⟩) 0 gX_0 rfl rfl hl.1 rfl (Nat.le_of_ble_eq_true rfl) dL_law_805 hroom0 (fun H locs w => ?_)
        have w := Wd.comm (by rw [← List.append_assoc] at w; exact w)
        refine lv_aload_n hx hb dL_law_808 rfl (lv_at hl 2 rfl) ?_
        refine lv_aload_n hx hb dL_law_809 rfl (lv_at hl 0 rfl) ?_
        refine lv_iload_n hx hb dL_law_810 rfl (lv_at hl 3 rfl) ?_
        refine lv_iconst (v := 1) hx hb dL_law_811 (by decide) ?_
        refine lv_iadd hx hb dL_law_812 ?_
        refine va_sld hx hb hX hbl hbA w.2.2 h1 dL_law_813 ?_
        refine lv_aload_n hx hb dL_law_814 rfl (lv_at hl 0 rfl) ?_
        refine lv_iload_n hx hb dL_law_815 rfl (lv_at hl 3 rfl) ?_
        refine lv_iconst (v := 2) hx hb dL_law_816 (by decide) ?_
        refine lv_iadd hx hb dL_law_817 ?_
        refine va_sld hx hb hX hbl hbA w.2.2 h2 dL_law_818 ?_
        refine lv_if_eq (tgt := 826) hx hb dL_law_819 (by decide) (fun c => absurd c hz) (fun _ => ?_)
        refine lv_iconst (v := 1) hx hb dL_law_822 (by decide) ?_
        refine lv_goto (tgt := 827) hx hb dL_law_823 (by decide) ?_
        refine kVi (As := [.int (xs (Int32.toNatClampNeg (x3 + 1))), .int 1]) (rest := [.int r]) F B w (tX11_year em) (cwV 2 hts gL_law_X11_year rfl rfl rfl (by decide +kernel) ⟨Nat.le_of_ble_eq_true rfl, Nat.le_of_ble_eq_true rfl⟩) 0 gM_0 rfl rfl hl.1 rfl (Nat.le_of_ble_eq_true rfl) dL_law_827 hroom0 (fun H locs w => ?_)
        have w := Wd.comm w
        rw [List.append_assoc] at w
        refine lv_icmp_eq (tgt := 891) hx hb dL_law_830 (by decide) (fun _ => ?_) (fun c => absurd rfl c)
        refine W.widen (k := 100 + j + 1) (n := 6000 + 9 * j + 9) (by omega) (by omega) ?_
        exact hend _ _ _ _ _ _ _ _ _ ls hRel w hl
    by_cases c29 : op = 19
    · refine lv_tableIn (off := 802) (tgt := 835) hx hb dL_law_33 (by rw [c29]; decide) (by rw [c29]; decide) (by rw [c29]; rfl) (by decide) ?_
      obtain ⟨r, ex, em, hRel⟩ := HS19 S k Fn T (xs (Int32.toNatClampNeg (x3 + 1))) (xs (Int32.toNatClampNeg (x3 + 2))) hRel
      refine lv_aload_n hx hb dL_law_835 rfl (lv_at hl 1 rfl) ?_
      refine lv_aload_n hx hb dL_law_836 rfl (lv_at hl 0 rfl) ?_
      refine lv_iload_n hx hb dL_law_837 rfl (lv_at hl 3 rfl) ?_
      refine lv_iconst (v := 1) hx hb dL_law_838 (by decide) ?_
      refine lv_iadd hx hb dL_law_839 ?_
      refine va_sld hx hb hX hbl hbA w.2.2 h1 dL_law_840 ?_
      refine lv_aload_n hx hb dL_law_841 rfl (lv_at hl 0 rfl) ?_
      refine lv_iload_n hx hb dL_law_842 rfl (lv_at hl 3 rfl) ?_
      refine lv_iconst (v := 2) hx hb dL_law_843 (by decide) ?_
      refine lv_iadd hx hb dL_law_844 ?_
      refine va_sld hx hb hX hbl hbA w.2.2 h2 dL_law_845 ?_
      refine kVi (As := [.int (xs (Int32.toNatClampNeg (x3 + 1))), .int (xs (Int32.toNatClampNeg (x3 + 2)))]) (rest := []) F B w (tX10_sale ex) (cwV 2 hts gL_law_X10_sale rfl rfl rfl (by decide +kernel) ⟨Nat.le_of_ble_eq_true rfl, Nat.le_of_ble_eq_true rfl⟩) 0 gX_0 rfl rfl hl.1 rfl (Nat.le_of_ble_eq_true rfl) dL_law_846 hroom0 (fun H locs w => ?_)
      have w := Wd.comm (by rw [← List.append_assoc] at w; exact w)
      refine lv_aload_n hx hb dL_law_849 rfl (lv_at hl 2 rfl) ?_
      refine lv_aload_n hx hb dL_law_850 rfl (lv_at hl 0 rfl) ?_
      refine lv_iload_n hx hb dL_law_851 rfl (lv_at hl 3 rfl) ?_
      refine lv_iconst (v := 1) hx hb dL_law_852 (by decide) ?_
      refine lv_iadd hx hb dL_law_853 ?_
      refine va_sld hx hb hX hbl hbA w.2.2 h1 dL_law_854 ?_
      refine lv_aload_n hx hb dL_law_855 rfl (lv_at hl 0 rfl) ?_
      refine lv_iload_n hx hb dL_law_856 rfl (lv_at hl 3 rfl) ?_
      refine lv_iconst (v := 2) hx hb dL_law_857 (by decide) ?_
      refine lv_iadd hx hb dL_law_858 ?_
      refine va_sld hx hb hX hbl hbA w.2.2 h2 dL_law_859 ?_
      refine kVi (As := [.int (xs (Int32.toNatClampNeg (x3 + 1))), .int (xs (Int32.toNatClampNeg (x3 + 2)))]) (rest := [.int r]) F B w (tX11_sale em) (cwV 2 hts gL_law_X11_sale rfl rfl rfl (by decide +kernel) ⟨Nat.le_of_ble_eq_true rfl, Nat.le_of_ble_eq_true rfl⟩) 0 gM_0 rfl rfl hl.1 rfl (Nat.le_of_ble_eq_true rfl) dL_law_860 hroom0 (fun H locs w => ?_)
      have w := Wd.comm w
      rw [List.append_assoc] at w
      refine lv_icmp_eq (tgt := 891) hx hb dL_law_863 (by decide) (fun _ => ?_) (fun c => absurd rfl c)
      refine W.widen (k := 100 + j + 1) (n := 6000 + 9 * j + 9) (by omega) (by omega) ?_
      exact hend _ _ _ _ _ _ _ _ _ ls hRel w hl
    by_cases c30 : op = 20
    · refine lv_tableIn (off := 835) (tgt := 868) hx hb dL_law_33 (by rw [c30]; decide) (by rw [c30]; decide) (by rw [c30]; rfl) (by decide) ?_
      obtain ⟨r, ex, em, hRel⟩ := HS20 S k Fn T (xs (Int32.toNatClampNeg (x3 + 1))) hRel
      refine lv_aload_n hx hb dL_law_868 rfl (lv_at hl 1 rfl) ?_
      refine lv_aload_n hx hb dL_law_869 rfl (lv_at hl 0 rfl) ?_
      refine lv_iload_n hx hb dL_law_870 rfl (lv_at hl 3 rfl) ?_
      refine lv_iconst (v := 1) hx hb dL_law_871 (by decide) ?_
      refine lv_iadd hx hb dL_law_872 ?_
      refine va_sld hx hb hX hbl hbA w.2.2 h1 dL_law_873 ?_
      refine kVi (As := [.int (xs (Int32.toNatClampNeg (x3 + 1)))]) (rest := []) F B w (tX10_count ex) (cwV 1 hts gL_law_X10_count rfl rfl rfl (by decide +kernel) ⟨Nat.le_of_ble_eq_true rfl, Nat.le_of_ble_eq_true rfl⟩) 0 gX_0 rfl rfl hl.1 rfl (Nat.le_of_ble_eq_true rfl) dL_law_874 hroom0 (fun H locs w => ?_)
      have w := Wd.comm (by rw [← List.append_assoc] at w; exact w)
      refine lv_aload_n hx hb dL_law_877 rfl (lv_at hl 2 rfl) ?_
      refine lv_aload_n hx hb dL_law_878 rfl (lv_at hl 0 rfl) ?_
      refine lv_iload_n hx hb dL_law_879 rfl (lv_at hl 3 rfl) ?_
      refine lv_iconst (v := 1) hx hb dL_law_880 (by decide) ?_
      refine lv_iadd hx hb dL_law_881 ?_
      refine va_sld hx hb hX hbl hbA w.2.2 h1 dL_law_882 ?_
      refine kVi (As := [.int (xs (Int32.toNatClampNeg (x3 + 1)))]) (rest := [.int r]) F B w (tX11_count em) (cwV 1 hts gL_law_X11_count rfl rfl rfl (by decide +kernel) ⟨Nat.le_of_ble_eq_true rfl, Nat.le_of_ble_eq_true rfl⟩) 0 gM_0 rfl rfl hl.1 rfl (Nat.le_of_ble_eq_true rfl) dL_law_883 hroom0 (fun H locs w => ?_)
      have w := Wd.comm w
      rw [List.append_assoc] at w
      refine lv_icmp_eq (tgt := 891) hx hb dL_law_886 (by decide) (fun _ => ?_) (fun c => absurd rfl c)
      refine W.widen (k := 100 + j + 1) (n := 6000 + 9 * j + 9) (by omega) (by omega) ?_
      exact hend _ _ _ _ _ _ _ _ _ ls hRel w hl
    have hsw : Int32.toInt op < 0 ∨ 20 < Int32.toInt op := by
      have h30 := lv_neT c10 (a := 0) (by decide)
      have h31 := lv_neT c11 (a := 1) (by decide)
      have h32 := lv_neT c12 (a := 2) (by decide)
      have h33 := lv_neT c13 (a := 3) (by decide)
      have h34 := lv_neT c14 (a := 4) (by decide)
      have h35 := lv_neT c15 (a := 5) (by decide)
      have h36 := lv_neT c16 (a := 6) (by decide)
      have h37 := lv_neT c17 (a := 7) (by decide)
      have h38 := lv_neT c18 (a := 8) (by decide)
      have h39 := lv_neT c19 (a := 9) (by decide)
      have h40 := lv_neT c20 (a := 10) (by decide)
      have h41 := lv_neT c21 (a := 11) (by decide)
      have h42 := lv_neT c22 (a := 12) (by decide)
      have h43 := lv_neT c23 (a := 13) (by decide)
      have h44 := lv_neT c24 (a := 14) (by decide)
      have h45 := lv_neT c25 (a := 15) (by decide)
      have h46 := lv_neT c26 (a := 16) (by decide)
      have h47 := lv_neT c27 (a := 17) (by decide)
      have h48 := lv_neT c28 (a := 18) (by decide)
      have h49 := lv_neT c29 (a := 19) (by decide)
      have h50 := lv_neT c30 (a := 20) (by decide)
      omega
    refine lv_tableOut (tgt := 891) hx hb dL_law_33 hsw (by decide) ?_
    refine W.widen (k := 100 + j + 1) (n := 6000 + 9 * j + 9) (by omega) (by omega) ?_
    exact hend _ _ _ _ _ _ _ _ _ ls hRel w hl
