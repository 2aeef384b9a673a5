theorem gS_0 {sa : Nat → Nat} : gS sa 0 = fun _ => none := by funext i; simp [gS]
set_option maxHeartbeats 8000000 in
set_option maxRecDepth 100000 in
theorem whole_base {p : Program} {s : State} {m : MethodId} {meth : Method} {c : Code} {b L : Nat} {xs : Nat → Int32} (C0 : lw_At p s m meth c b L xs) : ∃ (D : va_G) (cc : Nat → ClassId) (ak av : Nat → Nat), Bd D cc ak av (fun q : Nat => s.heap.size ≤ q) s ∧ aO s := by
  obtain ⟨hx, hb, hr, hml, hown0, hts0, hX, hbl, hlocks, hgv⟩ := id C0
  have hA0 : ∀ a : Nat, a < s.heap.size → ¬ (fun q : Nat => s.heap.size ≤ q) a := fun a h => Nat.not_le.mpr h
  obtain ⟨c0, i0, k0⟩ := u_known (C := RX0) (T := TX0) (N := 3) (n := 3) hts0 inX0 (hts0 (.instantiable RX0 3) (by decide +kernel))
  obtain ⟨c1, i1, k1⟩ := u_known (C := RX1) (T := TX1) (N := 10) (n := 10) hts0 inX1 (hts0 (.instantiable RX1 10) (by decide +kernel))
  obtain ⟨c2, i2, k2⟩ := u_known (C := RX2) (T := TX2) (N := 12) (n := 12) hts0 inX2 (hts0 (.instantiable RX2 12) (by decide +kernel))
  obtain ⟨c3, i3, k3⟩ := u_known (C := RX3) (T := TX3) (N := 9) (n := 9) hts0 inX3 (hts0 (.instantiable RX3 9) (by decide +kernel))
  obtain ⟨c4, i4, k4⟩ := u_known (C := RX4) (T := TX4) (N := 5) (n := 5) hts0 inX4 (hts0 (.instantiable RX4 5) (by decide +kernel))
  obtain ⟨c5, i5, k5⟩ := u_known (C := RX5) (T := TX5) (N := 5) (n := 5) hts0 inX5 (hts0 (.instantiable RX5 5) (by decide +kernel))
  obtain ⟨c6, i6, k6⟩ := u_known (C := RX6) (T := TX6) (N := 7) (n := 7) hts0 inX6 (hts0 (.instantiable RX6 7) (by decide +kernel))
  obtain ⟨c7, i7, k7⟩ := u_known (C := RX7) (T := TX7) (N := 9) (n := 9) hts0 inX7 (hts0 (.instantiable RX7 9) (by decide +kernel))
  obtain ⟨c8, i8, k8⟩ := u_known (C := RX8) (T := TX8) (N := 2) (n := 2) hts0 inX8 (hts0 (.instantiable RX8 2) (by decide +kernel))
  obtain ⟨c9, i9, k9⟩ := u_known (C := RX9) (T := TX9) (N := 4) (n := 4) hts0 inX9 (hts0 (.instantiable RX9 4) (by decide +kernel))
  obtain ⟨c10, i10, k10⟩ := u_known (C := RX10) (T := TX10) (N := 12) (n := 12) hts0 inX10 (hts0 (.instantiable RX10 12) (by decide +kernel))
  obtain ⟨c11, i11, k11⟩ := u_known (C := RX11) (T := TX11) (N := 47) (n := 47) hts0 inX11 (hts0 (.instantiable RX11 47) (by decide +kernel))
  obtain ⟨a0, A0, r0⟩ := arr_known (hts0 (.arrayClass .int) (by decide +kernel))
  obtain ⟨a1, A1, r1⟩ := arr_known (hts0 (.arrayClass .byte) (by decide +kernel))
  obtain ⟨a2, A2, r2⟩ := arr_known (hts0 (.arrayClass .boolean) (by decide +kernel))
  obtain ⟨a3, A3, r3⟩ := arr_known (hts0 (.arrayClass .long) (by decide +kernel))
  have hoA := hts0 (.arrayOver (.array .int)) (by decide +kernel)
  have hoS := hts0 (.arrayOver (.object "LandReform$Sale")) (by decide +kernel)
  obtain ⟨a4, A4, r4⟩ := arrA_known hoA
  obtain ⟨a5, A5, r5⟩ := arrO_known hoS
  have hs := flat_of_before _ hgv
  obtain ⟨ak, av, hS, hev⟩ := vk_Sof (args := #[Value.ref b]) (s := s) (N := 10) (tm := tmT) (len := lenT) (byt := bytT) (A := fun q : Nat => s.heap.size ≤ q) (fun i hi => by have := lenT_le i hi; omega) (fun i hi => hs _ (str_ex i hi)) (fun i hi => hs _ (str_co i hi)) (fun i hi => hs _ (str_ar i hi)) (fun i hi => hs _ (str_le i hi)) (fun i hi j hj => hs _ (str_el i hi j hj)) (fun i j hi hj hne => (str_ne i hi j hj hne).elim (fun h => Or.inl (hs _ h)) (fun h => Or.inr (hs _ h))) hA0
  refine ⟨(fun k => [c0, c1, c2, c3, c4, c5, c6, c7, c8, c9, c10, c11].getD k c0, fun k => [i0, i1, i2, i3, i4, i5, i6, i7, i8, i9, i10, i11].getD k i0), fun k => [a0, a1, a2, a3, a4, a5].getD k a0, ak, av, ⟨⟨?_, ?_⟩, ?_, fun _ h => h, hS, ?_, ?_, ?_⟩, ?_⟩
  · intro k q hq
    match k, hq with
    | 0, hq => cases hq; exact k0
    | 1, hq => cases hq; exact k1
    | 2, hq => cases hq; exact k2
    | 3, hq => cases hq; exact k3
    | 4, hq => cases hq; exact k4
    | 5, hq => cases hq; exact k5
    | 6, hq => cases hq; exact k6
    | 7, hq => cases hq; exact k7
    | 8, hq => cases hq; exact k8
    | 9, hq => cases hq; exact k9
    | 10, hq => cases hq; exact k10
    | 11, hq => cases hq; exact k11
    | k + 12, hq => simp [vwCl] at hq
  · intro k q hq
    match k, hq with
    | 0, hq => cases hq; exact ⟨A0, r0⟩
    | 1, hq => cases hq; exact ⟨A1, r1⟩
    | 2, hq => cases hq; exact ⟨A2, r2⟩
    | 3, hq => cases hq; exact ⟨A3, r3⟩
    | 4, hq => cases hq; exact ⟨A4, r4⟩
    | 5, hq => cases hq; exact ⟨A5, r5⟩
    | k + 6, hq => simp [tyl] at hq
  · exact ⟨fun q hq => va_Nw.of rfl (hts0 _ (nF_in q hq)), fun q hq => va_Nw.of rfl (hts0 _ (nM_in q hq))⟩
  · intro i k t ht
    have hi : i < 10 := (List.getElem?_eq_some_iff.mp ht).1
    have e : idxT.getD i (0, "") = (k, t) := by rw [List.getD_eq_getElem?_getD, ht]; rfl
    have h1 := hts0 _ (str_ref i hi)
    have h2 := hev i hi
    unfold tmT at h2
    rw [e] at h1 h2
    exact vk_R.of h1 h2
  · exact va_Zof (hts0 (.laysStatic "java/lang/String" "COMPACT_STRINGS" "Z") (by decide +kernel)) (hts0 (.initialized "java/lang/String") (by decide +kernel)) (va_eqi (hs (.eq (.static "java/lang/String" "COMPACT_STRINGS" "Z") (.int 1)) (by decide +kernel))) hA0
  · exact va_Zqof (hts0 (.laysStatic "jdk/internal/util/Preconditions" "SIOOBE_FORMATTER" "Ljava/util/function/BiFunction;") (by decide +kernel)) (hts0 (.initialized "jdk/internal/util/Preconditions") (by decide +kernel)) (hs (.isRef (.static "jdk/internal/util/Preconditions" "SIOOBE_FORMATTER" "Ljava/util/function/BiFunction;")) (by decide +kernel)) hA0
  · exact ⟨va_AO.of hoS, va_AOA.of hoA⟩
set_option maxHeartbeats 8000000 in
set_option maxRecDepth 100000 in
theorem whole_of {p : Program} {e : Env} {s : State} {m : MethodId} {below : List Frame} {meth : Method} {c : Code} (l : Launch) {b L n : Nat} {xs : Nat → Int32} {Rel : St → Nat → (Nat → Nat → Int32) → St → Prop} {SL SM : St} (HS : QAll n Rel) (hfL : fX3_clearL n zSt = some SL) (hfM : fX11_begins n S0m 0 = some SM) (hR0 : Rel (S0x SL) 0 (fun _ _ => 0) SM) (hL : L ≤ 3072) (C0 : lw_At p s m meth c b L xs) : W p l e room_1 s m #[Value.ref b] below meth c s.heap [] 0 0 (lw_Z below #[Value.ref b] s) (entryFrame m ([Value.ref b] : List Value).toArray 4) := by
  obtain ⟨D, cc, ak, av, B, hO⟩ := whole_base C0
  obtain ⟨hx, hb, hr, hml, hown0, hts0, hX, hbl, hlocks, hgv⟩ := id C0
  have hown : s.vm.findClass RL = some m.cls := hown0
  have hts : ∀ w ∈ wsL_law, w.before #[Value.ref b] s = true := fun w h => hts0 w (wsL_law_in w h)
  have F : CallFix p m c code 4 s #[Value.ref b] wsL_law RL := ⟨hx, hb, hml, hown, hts⟩
  have w : Wd D (fun q : Nat => s.heap.size ≤ q) s.heap s.heap [] (([] : va_W) ++ []) := ⟨fun k q h => by simp at h, ⟨fun i j p q h => by simp at h, fun k q h => by simp at h⟩, va_S.rf⟩
  have hl := lv_entry ([.ref b]) (n := 4) (Nat.le_of_ble_eq_true rfl)
  rw [lg_entry_eq]
  generalize (lg_sl ([.ref b]) ++ List.replicate (4 - (lg_sl ([.ref b])).length) Slot.unset).toArray = ls at hl ⊢
  have hl : lv_has ls 4 [(0, .ref b)] := hl
  refine knew (a := []) (E := []) (ci := 10) (C := RX10) (T := TX10) (N := 12) (fs := [.null, .null, .null, .null, .null, .null, .null, .null, .null, .int 0, .null, .null]) F B w inlX10 tyX10 tyX10_ok (hts (.classLink RL 7 RX10) (by decide +kernel)) (hts (.instantiable RX10 12) (by decide +kernel)) (hts (.initialized RX10) (by decide +kernel)) rfl (fun j hj => by rcases (show j = 0 ∨ j = 1 ∨ j = 2 ∨ j = 3 ∨ j = 4 ∨ j = 5 ∨ j = 6 ∨ j = 7 ∨ j = 8 ∨ j = 9 ∨ j = 10 ∨ j = 11 by omega) with rfl | rfl | rfl | rfl | rfl | rfl | rfl | rfl | rfl | rfl | rfl | rfl <;> rfl) (Nat.le_of_ble_eq_true rfl) (Nat.le_of_ble_eq_true rfl) dL_law_0 (fun q1 H w => ?_)
  refine lv_dup hx hb dL_law_3 rfl ?_
  refine kIC (As := []) (rest := [.ref q1]) F B hO w (tX10_init (E := []) hfL) (cwI 0 hts gL_law_X10_init rfl rfl rfl (hts (.initialized RX10) (by decide +kernel)) (hts (.methodLink RL 9 yX10_init) (by decide +kernel)) (hts (.instanceMethod yX10_init) (by decide +kernel)) rfl (by decide +kernel) ⟨Nat.le_of_ble_eq_true rfl, Nat.le_of_ble_eq_true rfl⟩) rfl hl.1 rfl (Nat.le_of_ble_eq_true rfl) dL_law_4 ⟨Nat.le_of_ble_eq_true rfl, Nat.le_of_ble_eq_true rfl⟩ (fun H locs w1 hw1 w => ?_)
  obtain ⟨ad, rfl, had⟩ := hw1
  refine lv_astore_n (lv' := [(1, .ref q1), (0, .ref b)]) hx hb dL_law_7 rfl hl (by decide) rfl (fun ls hl => ?_)
  refine knew (a := []) (E := WX cc ad (fun _ => none) (S0x SL) ++ []) (ci := 11) (C := RX11) (T := TX11) (N := 47) (fs := [.int 0, .int 0, .int 0, .int 0, .int 0, .null, .null, .null, .null, .null, .null, .null, .null, .null, .null, .null, .null, .int 0, .null, .null, .int 0, .int 0, .int 0, .int 0, .int 0, .int 0, .null, .int 0, .int 0, .int 0, .null, .null, .null, .null, .null, .null, .null, .null, .int 0, .null, .null, .null, .null, .null, .null, .null, .null]) F B w inlX11 tyX11 tyX11_ok (hts (.classLink RL 10 RX11) (by decide +kernel)) (hts (.instantiable RX11 47) (by decide +kernel)) (hts (.initialized RX11) (by decide +kernel)) rfl (fun j hj => by rcases (show j = 0 ∨ j = 1 ∨ j = 2 ∨ j = 3 ∨ j = 4 ∨ j = 5 ∨ j = 6 ∨ j = 7 ∨ j = 8 ∨ j = 9 ∨ j = 10 ∨ j = 11 ∨ j = 12 ∨ j = 13 ∨ j = 14 ∨ j = 15 ∨ j = 16 ∨ j = 17 ∨ j = 18 ∨ j = 19 ∨ j = 20 ∨ j = 21 ∨ j = 22 ∨ j = 23 ∨ j = 24 ∨ j = 25 ∨ j = 26 ∨ j = 27 ∨ j = 28 ∨ j = 29 ∨ j = 30 ∨ j = 31 ∨ j = 32 ∨ j = 33 ∨ j = 34 ∨ j = 35 ∨ j = 36 ∨ j = 37 ∨ j = 38 ∨ j = 39 ∨ j = 40 ∨ j = 41 ∨ j = 42 ∨ j = 43 ∨ j = 44 ∨ j = 45 ∨ j = 46 by omega) with rfl | rfl | rfl | rfl | rfl | rfl | rfl | rfl | rfl | rfl | rfl | rfl | rfl | rfl | rfl | rfl | rfl | rfl | rfl | rfl | rfl | rfl | rfl | rfl | rfl | rfl | rfl | rfl | rfl | rfl | rfl | rfl | rfl | rfl | rfl | rfl | rfl | rfl | rfl | rfl | rfl | rfl | rfl | rfl | rfl | rfl | rfl <;> rfl) (Nat.le_of_ble_eq_true rfl) (Nat.le_of_ble_eq_true rfl) dL_law_8 (fun q2 H w => ?_)
  refine lv_dup hx hb dL_law_11 rfl ?_
  refine kIC (As := []) (rest := [.ref q2]) F B hO w (tX11_init (E := WX cc ad (fun _ => none) (S0x SL) ++ []) hfM) (cwI 0 hts gL_law_X11_init rfl rfl rfl (hts (.initialized RX11) (by decide +kernel)) (hts (.methodLink RL 12 yX11_init) (by decide +kernel)) (hts (.instanceMethod yX11_init) (by decide +kernel)) rfl (by decide +kernel) ⟨Nat.le_of_ble_eq_true rfl, Nat.le_of_ble_eq_true rfl⟩) rfl hl.1 rfl (Nat.le_of_ble_eq_true rfl) dL_law_12 ⟨Nat.le_of_ble_eq_true rfl, Nat.le_of_ble_eq_true rfl⟩ (fun H locs w1 hw1 w => ?_)
  obtain ⟨am, rfl, ham⟩ := hw1
  refine lv_astore_n (lv' := [(2, .ref q2), (1, .ref q1), (0, .ref b)]) hx hb dL_law_15 rfl hl (by decide) rfl (fun ls hl => ?_)
  refine lv_iconst (v := 0) hx hb dL_law_16 (by decide) ?_
  refine lv_istore_n (lv' := [(3, .int 0), (2, .ref q2), (1, .ref q1), (0, .ref b)]) hx hb dL_law_17 rfl hl (by decide) rfl (fun ls hl => ?_)
  refine W.widen (k := 100 + 0) (n := 6000 + 9 * 0) (by omega) (by omega) ?_
  have w := Wd.comm w
  rw [List.append_nil] at w
  refine law_loop hL C0 B hO HS 601 0 0 (S0x SL) 0 (fun _ _ => 0) SM ad (fun _ => 0) am H locs ls (by omega) (by omega) nI_0.symm hR0 ?_ ?_
  · rw [gS_0]
    exact w
  · rw [had, ham]
    exact lv_sub hl [3, 2, 1, 0] rfl
