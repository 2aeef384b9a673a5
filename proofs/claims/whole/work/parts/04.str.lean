/-! String constants: length and charAt of the ten literals -/
section STR
variable {p : Program} {l : Launch} {e : Env} {R : Room} {s : State} {m : MethodId} {args : Array Value} {below : List Frame} {meth : Method} {c : Code} {H : Heap} {locs : List Loc} {cells slots : Nat} {Q : State → Prop}
variable {D : va_G} {cc : Nat → ClassId} {ak av : Nat → Nat} {A : Nat → Prop}
variable {pc : Nat} {ls : Array Slot} {rest st : List Value} {c0 bytes : ByteArray} {nL maxL index n : Nat} {Ts ws : List Cond} {own : String} {y : MethodName} {ret : Option FieldType} {rm : Room} {As : List Value} {w0 w1 : va_W}
theorem kTi {r : Int32} {t : Nat} (F : CallFix p m c c0 nL s args Ts own) (B : Bd D cc ak av A s) (w : Wd D A s.heap H locs w0) (ht : t < 10) (hM : CI l y ws rm D cc ak av (.ref (ak t) :: As) w0 w1 r) (cw : CallW R s args own RJ0 index y bytes maxL ret ws rm 0 0 n) (hn : As.length = n) (hsize : ls.size = nL) (hst : st = As.reverse ++ .ref (ak t) :: rest) (hroom : (rest.map fun v => v.category).sum ≤ 8) (hdg : decode c0 pc = .ok (.invokevirtual index, 3)) (hf : cells + 0 ≤ R.cells ∧ slots + 0 ≤ R.slots)
    (kk : ∀ (H1 : Heap) (locs1 : List Loc), Wd D A s.heap H1 locs1 w1 → W p l e R s m args below meth c H1 locs1 cells slots Q (F0 m (pc + 3) ls (.int r :: rest))) : W p l e R s m args below meth c H locs cells slots Q (F0 m pc ls st) := by
  refine va_calli (va_runV (As := As) (rest := rest) F (hM H.size) cw ⟨CPre.blind, vk_recv B.2.2.2.1 ht w.2.2, fun U hU hW => ⟨rfl, Wd.pre B w hU hW⟩⟩ rfl hn hsize hst (lv_room hroom) hdg hf) w.2.2 (fun q _ h => Wd.free B w q h) (Wd.free B w) (fun r u t H1 locs1 ht hvm hw hB hz1 hk1 hS => ?_)
  subst hw
  exact kk H1 locs1 (Wd.post B w ht hB hS)
end STR
section STR2
variable {l : Launch} {D : va_G} {cc : Nat → ClassId} {ak av : Nat → Nat} {w0 : va_W}
set_option maxHeartbeats 4000000 in
set_option maxRecDepth 100000 in
theorem tJ0_coder {t : Nat} (ht : t < 10) : CI l yJ0_coder_7d493 wsJ0_coder_7d493 ({ frames := 0, cells := 0, slots := 0, locals := 0 } : Room) D cc ak av [.ref (ak t)] w0 w0 0 := by
  refine mkN (c0 := cJ0_coder_7d493) (nL := 1) (own := RJ0) rfl rfl (by decide) (ty := .byte) rfl rfl (Nat.le_of_ble_eq_true rfl) ?_
  intro p e s m args below meth c A Q ls F B hQ hl w
  have hx := F.1
  have hb := F.2.1
  have hown := F.2.2.2.1
  have hts := F.2.2.2.2
  have hl : lv_has ls 1 [(0, .ref (ak t))] := hl
  refine va_gets hx hb B.2.2.2.2.2.1 w.2.2 hown (hts (.fieldLink RJ0 38 "java/lang/String" "COMPACT_STRINGS" "Z") (by decide +kernel)) (fun _ h => h) dJ0_coder_7d493_0 ?_
  refine lv_if_eq (tgt := 13) hx hb dJ0_coder_7d493_3 (by decide) (fun c1 => absurd c1 (by decide)) (fun _ => ?_)
  refine lv_aload_n hx hb dJ0_coder_7d493_6 rfl (lv_at hl 0 rfl) ?_
  refine vk_getf hx hb (B.2.2.2.1.1 t ht).2.1 w.2.2 hown (hts (.fieldLink RJ0 15 "java/lang/String" "coder" "B") (by decide +kernel)) (fun _ h => h) dJ0_coder_7d493_7 ?_
  refine lv_goto (tgt := 14) hx hb dJ0_coder_7d493_10 (by decide) ?_
  exact hQ _ _ _ _ dJ0_coder_7d493_14 rfl w
set_option maxHeartbeats 4000000 in
set_option maxRecDepth 100000 in
theorem tJ0_isLatin1 {t : Nat} (ht : t < 10) : CI l yJ0_isLatin1_aae02 wsJ0_isLatin1_aae02 ({ frames := 0, cells := 0, slots := 0, locals := 0 } : Room) D cc ak av [.ref (ak t)] w0 w0 1 := by
  refine mkN (c0 := cJ0_isLatin1_aae02) (nL := 1) (own := RJ0) rfl rfl (by decide) (ty := .boolean) rfl rfl (Nat.le_of_ble_eq_true rfl) ?_
  intro p e s m args below meth c A Q ls F B hQ hl w
  have hx := F.1
  have hb := F.2.1
  have hown := F.2.2.2.1
  have hts := F.2.2.2.2
  have hl : lv_has ls 1 [(0, .ref (ak t))] := hl
  refine va_gets hx hb B.2.2.2.2.2.1 w.2.2 hown (hts (.fieldLink RJ0 38 "java/lang/String" "COMPACT_STRINGS" "Z") (by decide +kernel)) (fun _ h => h) dJ0_isLatin1_aae02_0 ?_
  refine lv_if_eq (tgt := 17) hx hb dJ0_isLatin1_aae02_3 (by decide) (fun c1 => absurd c1 (by decide)) (fun _ => ?_)
  refine lv_aload_n hx hb dJ0_isLatin1_aae02_6 rfl (lv_at hl 0 rfl) ?_
  refine vk_getf hx hb (B.2.2.2.1.1 t ht).2.1 w.2.2 hown (hts (.fieldLink RJ0 15 "java/lang/String" "coder" "B") (by decide +kernel)) (fun _ h => h) dJ0_isLatin1_aae02_7 ?_
  refine lv_if_ne (tgt := 17) hx hb dJ0_isLatin1_aae02_10 (by decide) (fun c1 => absurd rfl c1) (fun _ => ?_)
  refine lv_iconst (v := 1) hx hb dJ0_isLatin1_aae02_13 (by decide) ?_
  refine lv_goto (tgt := 18) hx hb dJ0_isLatin1_aae02_14 (by decide) ?_
  exact hQ _ _ _ _ dJ0_isLatin1_aae02_18 rfl w
set_option maxHeartbeats 4000000 in
set_option maxRecDepth 100000 in
theorem tJ0_length {t : Nat} (ht : t < 10) : CI l yJ0_length_8abf5 wsJ0_length_8abf5 ({ frames := 1, cells := 0, slots := 0, locals := 20 } : Room) D cc ak av [.ref (ak t)] w0 w0 (Int32.ofNat (lenT.getD t 0)) := by
  refine mkI (c0 := cJ0_length_8abf5) (nL := 1) (own := RJ0) rfl rfl (by decide) rfl rfl (Nat.le_of_ble_eq_true rfl) ?_
  intro p e s m args below meth c A Q ls F B hQ hl w
  have hx := F.1
  have hb := F.2.1
  have hown := F.2.2.2.1
  have hts := F.2.2.2.2
  have hl : lv_has ls 1 [(0, .ref (ak t))] := hl
  refine lv_aload_n hx hb dJ0_length_8abf5_0 rfl (lv_at hl 0 rfl) ?_
  refine vk_getf hx hb (B.2.2.2.1.1 t ht).2.2.1 w.2.2 hown (hts (.fieldLink RJ0 9 "java/lang/String" "value" "[B") (by decide +kernel)) (fun _ h => h) dJ0_length_8abf5_1 ?_
  refine va_tlen hx hb (B.2.2.2.1.1 t ht).2.2.2 w.2.2 (v := Int32.ofNat (lenT.getD t 0)) rfl dJ0_length_8abf5_4 ?_
  refine lv_aload_n hx hb dJ0_length_8abf5_5 rfl (lv_at hl 0 rfl) ?_
  refine kTi (As := []) (rest := [.int (Int32.ofNat (lenT.getD t 0))]) F B w ht (tJ0_coder ht) (cwV 0 hts gJ0_length_8abf5_J0_coder_7d493 rfl rfl rfl (by decide +kernel) ⟨Nat.le_of_ble_eq_true rfl, Nat.le_of_ble_eq_true rfl⟩) rfl hl.1 rfl (Nat.le_of_ble_eq_true rfl) dJ0_length_8abf5_6 ⟨Nat.le_of_ble_eq_true rfl, Nat.le_of_ble_eq_true rfl⟩ (fun H locs w => ?_)
  refine lv_ishr hx hb dJ0_length_8abf5_9 ?_
  rw [sb_shr0]
  exact hQ _ _ _ _ dJ0_length_8abf5_10 w
set_option maxHeartbeats 4000000 in
set_option maxRecDepth 100000 in
theorem tJ3_check {i k : Int32} {v : Value} (hv : v = .null ∨ ∃ a, v = .ref a) (h0 : ¬ i < 0) (h1 : i < k) : CI l yJ3_checkIndex_8e157 wsJ3_checkIndex_8e157 ({ frames := 0, cells := 0, slots := 0, locals := 0 } : Room) D cc ak av [.int i, .int k, v] w0 w0 i := by
  refine mkI (c0 := cJ3_checkIndex_8e157) (nL := 3) (own := RJ3) rfl rfl (by decide) rfl rfl (by rcases hv with rfl | ⟨a, rfl⟩ <;> exact Nat.le_of_ble_eq_true rfl) ?_
  intro p e s m args below meth c A Q ls F B hQ hl w
  have hx := F.1
  have hb := F.2.1
  have hl : lv_has ls 3 [(0, .int i), (1, .int k)] := by
    rcases hv with rfl | ⟨a, rfl⟩ <;> exact lv_sub hl [0, 1] rfl
  refine lv_iload_n hx hb dJ3_checkIndex_8e157_0 rfl (lv_at hl 0 rfl) ?_
  refine lv_if_lt (tgt := 9) hx hb dJ3_checkIndex_8e157_1 (by decide) (fun c1 => absurd c1 h0) (fun _ => ?_)
  refine lv_iload_n hx hb dJ3_checkIndex_8e157_4 rfl (lv_at hl 0 rfl) ?_
  refine lv_iload_n hx hb dJ3_checkIndex_8e157_5 rfl (lv_at hl 1 rfl) ?_
  refine lv_icmp_lt (tgt := 16) hx hb dJ3_checkIndex_8e157_6 (by decide) (fun _ => ?_) (fun c1 => absurd h1 c1)
  refine lv_iload_n hx hb dJ3_checkIndex_8e157_16 rfl (lv_at hl 0 rfl) ?_
  exact hQ _ _ _ _ dJ3_checkIndex_8e157_17 w
set_option maxHeartbeats 4000000 in
set_option maxRecDepth 100000 in
theorem tJ0_check {i k : Int32} (h0 : ¬ i < 0) (h1 : i < k) : CV l yJ0_checkIndex_df160 wsJ0_checkIndex_df160 ({ frames := 1, cells := 0, slots := 0, locals := 22 } : Room) D cc ak av [.int i, .int k] w0 w0 := by
  refine mkV (c0 := cJ0_checkIndex_df160) (nL := 2) (own := RJ0) rfl rfl (by decide) rfl rfl (Nat.le_of_ble_eq_true rfl) ?_
  intro p e s m args below meth c A Q ls F B hQ hl w
  have hx := F.1
  have hb := F.2.1
  have hown := F.2.2.2.1
  have hts := F.2.2.2.2
  have hl : lv_has ls 2 [(0, .int i), (1, .int k)] := hl
  refine lv_iload_n hx hb dJ0_checkIndex_df160_0 rfl (lv_at hl 0 rfl) ?_
  refine lv_iload_n hx hb dJ0_checkIndex_df160_1 rfl (lv_at hl 1 rfl) ?_
  have key : ∀ v : Value, (v = .null ∨ ∃ a, v = .ref a) → W p l e ({ frames := 1, cells := 0, slots := 0, locals := 22 } : Room) s m args below meth c s.heap [] 0 0 Q (F0 m 5 ls [v, .int k, .int i]) := by
    intro v hv
    refine kSi (As := [.int i, .int k, v]) (rest := []) F B w (tJ3_check hv h0 h1) (va_cwS 3 hts gJ0_checkIndex_df160_J3_checkIndex_8e157 rfl rfl rfl (by decide +kernel) ⟨Nat.le_of_ble_eq_true rfl, Nat.le_of_ble_eq_true rfl⟩) rfl hl.1 rfl (Nat.le_of_ble_eq_true rfl) dJ0_checkIndex_df160_5 ⟨Nat.le_of_ble_eq_true rfl, Nat.le_of_ble_eq_true rfl⟩ (fun H locs w => ?_)
    refine lv_pop hx hb dJ0_checkIndex_df160_8 rfl ?_
    exact hQ _ _ _ _ dJ0_checkIndex_df160_9 w
  rcases B.2.2.2.2.2.2 with hz | ⟨a, hz⟩
  · exact va_gets hx hb hz w.2.2 hown (hts (.fieldLink RJ0 1053 "jdk/internal/util/Preconditions" "SIOOBE_FORMATTER" "Ljava/util/function/BiFunction;") (by decide +kernel)) (fun _ h => h) dJ0_checkIndex_df160_2 (key _ (Or.inl rfl))
  · exact va_gets hx hb hz w.2.2 hown (hts (.fieldLink RJ0 1053 "jdk/internal/util/Preconditions" "SIOOBE_FORMATTER" "Ljava/util/function/BiFunction;") (by decide +kernel)) (fun _ h => h) dJ0_checkIndex_df160_2 (key _ (Or.inr ⟨a, rfl⟩))
theorem lenT_le : ∀ t, t < 10 → lenT.getD t 0 < 8 := by decide +kernel
theorem bytT_ok : ∀ t, t < 10 → ∀ j, j < 8 → ((((bytT.getD t []).getD j 0) &&& 255).toUInt32 % 65536).toInt32 = (bytT.getD t []).getD j 0 ∧ narrow .char (.int ((bytT.getD t []).getD j 0)) = .int ((bytT.getD t []).getD j 0) := by decide +kernel
theorem ix_lt {i : Int32} {N : Nat} (hN : N < 2 ^ 31) (h : ¬ (i < 0 ∨ N ≤ i.toNatClampNeg)) : ¬ i < 0 ∧ i < Int32.ofNat N := by
  have h0 : ¬ i < 0 := fun q => h (Or.inl q)
  obtain ⟨j, hj, rfl⟩ := vp_in_of (x := i) (n := N) h hN
  exact ⟨h0, nI_lt hj hN⟩
set_option maxHeartbeats 4000000 in
set_option maxRecDepth 100000 in
theorem tJ1_charAt {t : Nat} (ht : t < 10) {i : Int32} (hi : ¬ (i < 0 ∨ lenT.getD t 0 ≤ i.toNatClampNeg)) : CI l yJ1_charAt_3b067 wsJ1_charAt_3b067 ({ frames := 2, cells := 0, slots := 0, locals := 43 } : Room) D cc ak av [.ref (av t), .int i] w0 w0 ((bytT.getD t []).getD i.toNatClampNeg 0) := by
  refine mkN (c0 := cJ1_charAt_3b067) (nL := 2) (own := RJ1) rfl rfl (by decide) (ty := .char) rfl rfl (Nat.le_of_ble_eq_true rfl) ?_
  intro p e s m args below meth c A Q ls F B hQ hl w
  have hx := F.1
  have hb := F.2.1
  have hown := F.2.2.2.1
  have hts := F.2.2.2.2
  have hl : lv_has ls 2 [(0, .ref (av t)), (1, .int i)] := hl
  have hN := lenT_le t ht
  have hj : i.toNatClampNeg < 8 := by
    have : ¬ lenT.getD t 0 ≤ i.toNatClampNeg := fun q => hi (Or.inr q)
    omega
  obtain ⟨b1, b2⟩ := bytT_ok t ht _ hj
  obtain ⟨i0, i1⟩ := ix_lt (N := lenT.getD t 0) (by omega) hi
  refine lv_iload_n hx hb dJ1_charAt_3b067_0 rfl (lv_at hl 1 rfl) ?_
  refine lv_aload_n hx hb dJ1_charAt_3b067_1 rfl (lv_at hl 0 rfl) ?_
  refine va_tlen hx hb (B.2.2.2.1.1 t ht).2.2.2 w.2.2 (v := Int32.ofNat (lenT.getD t 0)) rfl dJ1_charAt_3b067_2 ?_
  refine kSv (As := [.int i, .int (Int32.ofNat (lenT.getD t 0))]) (rest := []) F B w (tJ0_check i0 i1) (va_cwS 2 hts gJ1_charAt_3b067_J0_checkIndex_df160 rfl rfl rfl (by decide +kernel) ⟨Nat.le_of_ble_eq_true rfl, Nat.le_of_ble_eq_true rfl⟩) rfl hl.1 rfl (Nat.le_of_ble_eq_true rfl) dJ1_charAt_3b067_3 ⟨Nat.le_of_ble_eq_true rfl, Nat.le_of_ble_eq_true rfl⟩ (fun H locs w => ?_)
  refine lv_aload_n hx hb dJ1_charAt_3b067_6 rfl (lv_at hl 0 rfl) ?_
  refine lv_iload_n hx hb dJ1_charAt_3b067_7 rfl (lv_at hl 1 rfl) ?_
  refine va_tb hx hb (B.2.2.2.1.1 t ht).2.2.2 w.2.2 hi rfl dJ1_charAt_3b067_8 ?_
  refine lv_sipush (v := 255) hx hb dJ1_charAt_3b067_9 (by decide) ?_
  refine lv_iand hx hb dJ1_charAt_3b067_12 ?_
  refine lv_i2c hx hb dJ1_charAt_3b067_13 b1 ?_
  exact hQ _ _ _ _ dJ1_charAt_3b067_14 b2 w
set_option maxHeartbeats 4000000 in
set_option maxRecDepth 100000 in
theorem tJ0_charAt {t : Nat} (ht : t < 10) {i : Int32} (hi : ¬ (i < 0 ∨ lenT.getD t 0 ≤ i.toNatClampNeg)) : CI l yJ0_charAt_5068e wsJ0_charAt_5068e ({ frames := 3, cells := 0, slots := 0, locals := 64 } : Room) D cc ak av [.ref (ak t), .int i] w0 w0 ((bytT.getD t []).getD i.toNatClampNeg 0) := by
  refine mkN (c0 := cJ0_charAt_5068e) (nL := 2) (own := RJ0) rfl rfl (by decide) (ty := .char) rfl rfl (Nat.le_of_ble_eq_true rfl) ?_
  intro p e s m args below meth c A Q ls F B hQ hl w
  have hx := F.1
  have hb := F.2.1
  have hown := F.2.2.2.1
  have hts := F.2.2.2.2
  have hl : lv_has ls 2 [(0, .ref (ak t)), (1, .int i)] := hl
  have hN := lenT_le t ht
  have hj : i.toNatClampNeg < 8 := by
    have : ¬ lenT.getD t 0 ≤ i.toNatClampNeg := fun q => hi (Or.inr q)
    omega
  obtain ⟨b1, b2⟩ := bytT_ok t ht _ hj
  refine lv_aload_n hx hb dJ0_charAt_5068e_0 rfl (lv_at hl 0 rfl) ?_
  refine kTi (As := []) (rest := []) F B w ht (tJ0_isLatin1 ht) (cwV 0 hts gJ0_charAt_5068e_J0_isLatin1_aae02 rfl rfl rfl (by decide +kernel) ⟨Nat.le_of_ble_eq_true rfl, Nat.le_of_ble_eq_true rfl⟩) rfl hl.1 rfl (Nat.le_of_ble_eq_true rfl) dJ0_charAt_5068e_1 ⟨Nat.le_of_ble_eq_true rfl, Nat.le_of_ble_eq_true rfl⟩ (fun H locs w => ?_)
  refine lv_if_eq (tgt := 16) hx hb dJ0_charAt_5068e_4 (by decide) (fun c1 => absurd c1 (by decide)) (fun _ => ?_)
  refine lv_aload_n hx hb dJ0_charAt_5068e_7 rfl (lv_at hl 0 rfl) ?_
  refine vk_getf hx hb (B.2.2.2.1.1 t ht).2.2.1 w.2.2 hown (hts (.fieldLink RJ0 9 "java/lang/String" "value" "[B") (by decide +kernel)) (fun _ h => h) dJ0_charAt_5068e_8 ?_
  refine lv_iload_n hx hb dJ0_charAt_5068e_11 rfl (lv_at hl 1 rfl) ?_
  refine kSi (As := [.ref (av t), .int i]) (rest := []) F B w (tJ1_charAt ht hi) (va_cwS 2 hts gJ0_charAt_5068e_J1_charAt_3b067 rfl rfl rfl (by decide +kernel) ⟨Nat.le_of_ble_eq_true rfl, Nat.le_of_ble_eq_true rfl⟩) rfl hl.1 rfl (Nat.le_of_ble_eq_true rfl) dJ0_charAt_5068e_12 ⟨Nat.le_of_ble_eq_true rfl, Nat.le_of_ble_eq_true rfl⟩ (fun H locs w => ?_)
  exact hQ _ _ _ _ dJ0_charAt_5068e_15 b2 w
end STR2
