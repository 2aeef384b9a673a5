def fX4_houseOf (S : St) (x1 : Int32) : Option Int32 := ob (fX4_has S x1) fun r1 => if r1 = 0 then (some (-1)) else (if x1 < 0 ∨ 40 ≤ Int32.toNatClampNeg x1 then none else some (S.2.1 0 (Int32.toNatClampNeg x1)))
set_option maxRecDepth 20000 in
theorem inX4_houseOf_4 : ∀ w ∈ u_ws RX4 TX4 5, w ∈ wsX4_houseOf := by decide +kernel
set_option maxHeartbeats 4000000 in
set_option maxRecDepth 100000 in
theorem tX4_houseOf {l : Launch} {D : va_G} {cc : Nat → ClassId} {ak av : Nat → Nat} {ad : Nat → Nat} {g : Nat → Option Nat} {E : va_W} {S : St} {x1 : Int32} {r : Int32} (hf : fX4_houseOf S x1 = some r) : CI l yX4_houseOf wsX4_houseOf ({ frames := 2, cells := 0, slots := 0, locals := 42 } : Room) D cc ak av [.ref (ad 1), .int x1] (WX cc ad g S ++ E) (WX cc ad g S ++ E) r := by
  refine mkI (c0 := cX4_houseOf) (nL := 2) (own := RX4) rfl rfl (by decide) rfl rfl (Nat.le_of_ble_eq_true rfl) ?_
  intro p e s m args below meth c A Q ls F B hQ hl w
  have hx := F.1
  have hb := F.2.1
  have hown := F.2.2.2.1
  have hts := F.2.2.2.2
  have hl : lv_has ls 2 [(0, .ref (ad 1)), (1, .int x1)] := hl
  unfold fX4_houseOf at hf
  refine lv_aload_n hx hb dX4_houseOf_0 rfl (lv_at hl 0 rfl) ?_
  refine lv_iload_n hx hb dX4_houseOf_1 rfl (lv_at hl 1 rfl) ?_
  obtain ⟨r1, er1, hf⟩ := ob_e hf
  refine kVi (As := [.int x1]) (rest := []) F B w (tX4_has er1) (cwV 1 hts gX4_houseOf_X4_has rfl rfl rfl (by decide +kernel) ⟨Nat.le_of_ble_eq_true rfl, Nat.le_of_ble_eq_true rfl⟩) 1 gX_1 rfl rfl hl.1 rfl (Nat.le_of_ble_eq_true rfl) dX4_houseOf_2 ⟨Nat.le_of_ble_eq_true rfl, Nat.le_of_ble_eq_true rfl⟩ (fun H locs w => ?_)
  refine lv_if_eq (tgt := 17) hx hb dX4_houseOf_5 (by decide) (fun c2 => ?_) (fun c2 => ?_)
  · have hf := if_t hf c2
    refine lv_iconst (v := (-1)) hx hb dX4_houseOf_17 (by decide) ?_
    cases hf
    exact hQ _ _ _ _ dX4_houseOf_18 w
  · have hf := if_f hf c2
    refine lv_aload_n hx hb dX4_houseOf_8 rfl (lv_at hl 0 rfl) ?_
    refine kget (v := .ref (ad 12)) F B w inX4_houseOf_4 1 gX_1 rfl 0 (by decide) (hts (.fieldLink RX4 9 "LandReform$People" "houses" "[I") (by decide +kernel)) rfl rfl dX4_houseOf_9 ?_
    refine lv_iload_n hx hb dX4_houseOf_12 rfl (lv_at hl 1 rfl) ?_
    obtain ⟨g3, hf⟩ := if_g hf
    refine kiald F B w 12 gX_12 g3 dX4_houseOf_13 ?_
    refine lv_goto (tgt := 18) hx hb dX4_houseOf_14 (by decide) ?_
    cases hf
    exact hQ _ _ _ _ dX4_houseOf_18 w

def fX4_homeOf (S : St) (x1 : Int32) : Option Int32 := ob (fX4_has S x1) fun r1 => if r1 = 0 then (some 0) else (if x1 < 0 ∨ 40 ≤ Int32.toNatClampNeg x1 then none else some (S.2.1 1 (Int32.toNatClampNeg x1)))
set_option maxRecDepth 20000 in
theorem inX4_homeOf_4 : ∀ w ∈ u_ws RX4 TX4 5, w ∈ wsX4_homeOf := by decide +kernel
set_option maxHeartbeats 4000000 in
set_option maxRecDepth 100000 in
theorem tX4_homeOf {l : Launch} {D : va_G} {cc : Nat → ClassId} {ak av : Nat → Nat} {ad : Nat → Nat} {g : Nat → Option Nat} {E : va_W} {S : St} {x1 : Int32} {r : Int32} (hf : fX4_homeOf S x1 = some r) : CI l yX4_homeOf wsX4_homeOf ({ frames := 2, cells := 0, slots := 0, locals := 42 } : Room) D cc ak av [.ref (ad 1), .int x1] (WX cc ad g S ++ E) (WX cc ad g S ++ E) r := by
  refine mkI (c0 := cX4_homeOf) (nL := 2) (own := RX4) rfl rfl (by decide) rfl rfl (Nat.le_of_ble_eq_true rfl) ?_
  intro p e s m args below meth c A Q ls F B hQ hl w
  have hx := F.1
  have hb := F.2.1
  have hown := F.2.2.2.1
  have hts := F.2.2.2.2
  have hl : lv_has ls 2 [(0, .ref (ad 1)), (1, .int x1)] := hl
  unfold fX4_homeOf at hf
  refine lv_aload_n hx hb dX4_homeOf_0 rfl (lv_at hl 0 rfl) ?_
  refine lv_iload_n hx hb dX4_homeOf_1 rfl (lv_at hl 1 rfl) ?_
  obtain ⟨r1, er1, hf⟩ := ob_e hf
  refine kVi (As := [.int x1]) (rest := []) F B w (tX4_has er1) (cwV 1 hts gX4_homeOf_X4_has rfl rfl rfl (by decide +kernel) ⟨Nat.le_of_ble_eq_true rfl, Nat.le_of_ble_eq_true rfl⟩) 1 gX_1 rfl rfl hl.1 rfl (Nat.le_of_ble_eq_true rfl) dX4_homeOf_2 ⟨Nat.le_of_ble_eq_true rfl, Nat.le_of_ble_eq_true rfl⟩ (fun H locs w => ?_)
  refine lv_if_eq (tgt := 17) hx hb dX4_homeOf_5 (by decide) (fun c2 => ?_) (fun c2 => ?_)
  · have hf := if_t hf c2
    refine lv_iconst (v := 0) hx hb dX4_homeOf_17 (by decide) ?_
    cases hf
    exact hQ _ _ _ _ dX4_homeOf_18 w
  · have hf := if_f hf c2
    refine lv_aload_n hx hb dX4_homeOf_8 rfl (lv_at hl 0 rfl) ?_
    refine kget (v := .ref (ad 13)) F B w inX4_homeOf_4 1 gX_1 rfl 1 (by decide) (hts (.fieldLink RX4 15 "LandReform$People" "homes" "[I") (by decide +kernel)) rfl rfl dX4_homeOf_9 ?_
    refine lv_iload_n hx hb dX4_homeOf_12 rfl (lv_at hl 1 rfl) ?_
    obtain ⟨g3, hf⟩ := if_g hf
    refine kiald F B w 13 gX_13 g3 dX4_homeOf_13 ?_
    refine lv_goto (tgt := 18) hx hb dX4_homeOf_14 (by decide) ?_
    cases hf
    exact hQ _ _ _ _ dX4_homeOf_18 w

def fX4_add (S : St) (x1 : Int32) (x2 : Int32) : Option (Int32 × St) := if (S.1 1) < 40 then (if (S.1 1) < 0 ∨ 40 ≤ Int32.toNatClampNeg (S.1 1) then none else lt_ (sA S 0 (Int32.toNatClampNeg (S.1 1)) x1) fun S3 => if (S3.1 1) < 0 ∨ 40 ≤ Int32.toNatClampNeg (S3.1 1) then none else lt_ (sA S3 1 (Int32.toNatClampNeg (S3.1 1)) x2) fun S5 => lt_ (sS S5 1 ((S5.1 1) + 1)) fun S6 => some (((S6.1 1) - 1), S6)) else (some ((-1), S))
set_option maxRecDepth 20000 in
theorem inX4_add_4 : ∀ w ∈ u_ws RX4 TX4 5, w ∈ wsX4_add := by decide +kernel
set_option maxHeartbeats 4000000 in
set_option maxRecDepth 100000 in
theorem tX4_add {l : Launch} {D : va_G} {cc : Nat → ClassId} {ak av : Nat → Nat} {ad : Nat → Nat} {g : Nat → Option Nat} {E : va_W} {S : St} {x1 : Int32} {x2 : Int32} {r : Int32} {S' : St} (hf : fX4_add S x1 x2 = some (r, S')) : CI l yX4_add wsX4_add ({ frames := 0, cells := 0, slots := 0, locals := 0 } : Room) D cc ak av [.ref (ad 1), .int x1, .int x2] (WX cc ad g S ++ E) (WX cc ad g S' ++ E) r := by
  refine mkI (c0 := cX4_add) (nL := 3) (own := RX4) rfl rfl (by decide) rfl rfl (Nat.le_of_ble_eq_true rfl) ?_
  intro p e s m args below meth c A Q ls F B hQ hl w
  have hx := F.1
  have hb := F.2.1
  have hown := F.2.2.2.1
  have hts := F.2.2.2.2
  have hl : lv_has ls 3 [(0, .ref (ad 1)), (1, .int x1), (2, .int x2)] := hl
  unfold fX4_add at hf
  refine lv_aload_n hx hb dX4_add_0 rfl (lv_at hl 0 rfl) ?_
  refine kget (v := .int (S.1 1)) F B w inX4_add_4 1 gX_1 rfl 3 (by decide) (hts (.fieldLink RX4 22 "LandReform$People" "size" "I") (by decide +kernel)) rfl rfl dX4_add_1 ?_
  refine lv_bipush (v := 40) hx hb dX4_add_4 (by decide) ?_
  refine lv_icmp_lt (tgt := 11) hx hb dX4_add_6 (by decide) (fun c1 => ?_) (fun c1 => ?_)
  · have hf := if_t hf c1
    refine lv_aload_n hx hb dX4_add_11 rfl (lv_at hl 0 rfl) ?_
    refine kget (v := .ref (ad 12)) F B w inX4_add_4 1 gX_1 rfl 0 (by decide) (hts (.fieldLink RX4 9 "LandReform$People" "houses" "[I") (by decide +kernel)) rfl rfl dX4_add_12 ?_
    refine lv_aload_n hx hb dX4_add_15 rfl (lv_at hl 0 rfl) ?_
    refine kget (v := .int (S.1 1)) F B w inX4_add_4 1 gX_1 rfl 3 (by decide) (hts (.fieldLink RX4 22 "LandReform$People" "size" "I") (by decide +kernel)) rfl rfl dX4_add_16 ?_
    refine lv_iload_n hx hb dX4_add_19 rfl (lv_at hl 1 rfl) ?_
    obtain ⟨g2, hf⟩ := if_g hf
    refine kiast F B w 12 gX_12 g2 bX_12 dX4_add_20 (fun H locs w => ?_)
    obtain ⟨S3, eS3⟩ : ∃ z, z = sA S 0 (Int32.toNatClampNeg (S.1 1)) x1 := ⟨_, rfl⟩
    rw [← eS3] at w
    have hf := lt_e hf eS3
    refine lv_aload_n hx hb dX4_add_21 rfl (lv_at hl 0 rfl) ?_
    refine kget (v := .ref (ad 13)) F B w inX4_add_4 1 gX_1 rfl 1 (by decide) (hts (.fieldLink RX4 15 "LandReform$People" "homes" "[I") (by decide +kernel)) rfl rfl dX4_add_22 ?_
    refine lv_aload_n hx hb dX4_add_25 rfl (lv_at hl 0 rfl) ?_
    refine kget (v := .int (S3.1 1)) F B w inX4_add_4 1 gX_1 rfl 3 (by decide) (hts (.fieldLink RX4 22 "LandReform$People" "size" "I") (by decide +kernel)) rfl rfl dX4_add_26 ?_
    refine lv_iload_n hx hb dX4_add_29 rfl (lv_at hl 2 rfl) ?_
    obtain ⟨g4, hf⟩ := if_g hf
    refine kiast F B w 13 gX_13 g4 bX_13 dX4_add_30 (fun H locs w => ?_)
    obtain ⟨S5, eS5⟩ : ∃ z, z = sA S3 1 (Int32.toNatClampNeg (S3.1 1)) x2 := ⟨_, rfl⟩
    rw [← eS5] at w
    have hf := lt_e hf eS5
    refine lv_aload_n hx hb dX4_add_31 rfl (lv_at hl 0 rfl) ?_
    refine lv_dup hx hb dX4_add_32 rfl ?_
    refine kget (v := .int (S5.1 1)) F B w inX4_add_4 1 gX_1 rfl 3 (by decide) (hts (.fieldLink RX4 22 "LandReform$People" "size" "I") (by decide +kernel)) rfl rfl dX4_add_33 ?_
    refine lv_iconst (v := 1) hx hb dX4_add_36 (by decide) ?_
    refine lv_iadd hx hb dX4_add_37 ?_
    refine kput (ty := .int) F B w inX4_add_4 tyX4 tyX4_ok nmX4 1 gX_1 rfl 3 (by decide) (hts (.fieldLink RX4 22 "LandReform$People" "size" "I") (by decide +kernel)) rfl rfl (by decide +kernel) rfl rfl (Nat.le_of_ble_eq_true rfl) pX_1 dX4_add_38 (fun H locs w => ?_)
    obtain ⟨S6, eS6⟩ : ∃ z, z = sS S5 1 ((S5.1 1) + 1) := ⟨_, rfl⟩
    rw [← eS6] at w
    have hf := lt_e hf eS6
    refine lv_aload_n hx hb dX4_add_41 rfl (lv_at hl 0 rfl) ?_
    refine kget (v := .int (S6.1 1)) F B w inX4_add_4 1 gX_1 rfl 3 (by decide) (hts (.fieldLink RX4 22 "LandReform$People" "size" "I") (by decide +kernel)) rfl rfl dX4_add_42 ?_
    refine lv_iconst (v := 1) hx hb dX4_add_45 (by decide) ?_
    refine lv_isub hx hb dX4_add_46 ?_
    cases hf
    exact hQ _ _ _ _ dX4_add_47 w
  · have hf := if_f hf c1
    refine lv_iconst (v := (-1)) hx hb dX4_add_9 (by decide) ?_
    cases hf
    exact hQ _ _ _ _ dX4_add_10 w

def fX4_areKin (S : St) (x1 : Int32) (x2 : Int32) : Option Int32 := ob (fX4_has S x1) fun r1 => if r1 = 0 then (some 0) else (ob (fX4_has S x2) fun r3 => if r3 = 0 then (some 0) else (if x1 < 0 ∨ 40 ≤ Int32.toNatClampNeg x1 then none else if (lg_cmp (((S.2.2 (Int32.toNatClampNeg x1)) >>> (Int32.toInt64 x2 &&& 63)) &&& 1) 1) = 0 then (some 1) else (some 0)))
set_option maxRecDepth 20000 in
theorem inX4_areKin_4 : ∀ w ∈ u_ws RX4 TX4 5, w ∈ wsX4_areKin := by decide +kernel
set_option maxHeartbeats 4000000 in
set_option maxRecDepth 100000 in
theorem tX4_areKin {l : Launch} {D : va_G} {cc : Nat → ClassId} {ak av : Nat → Nat} {ad : Nat → Nat} {g : Nat → Option Nat} {E : va_W} {S : St} {x1 : Int32} {x2 : Int32} {r : Int32} (hf : fX4_areKin S x1 x2 = some r) : CI l yX4_areKin wsX4_areKin ({ frames := 2, cells := 0, slots := 0, locals := 42 } : Room) D cc ak av [.ref (ad 1), .int x1, .int x2] (WX cc ad g S ++ E) (WX cc ad g S ++ E) r := by
  refine mkZ (c0 := cX4_areKin) (nL := 3) (own := RX4) rfl rfl (by decide) rfl rfl (Nat.le_of_ble_eq_true rfl) ?_
  intro p e s m args below meth c A Q ls F B hQ hl w
  have hx := F.1
  have hb := F.2.1
  have hown := F.2.2.2.1
  have hts := F.2.2.2.2
  have hl : lv_has ls 3 [(0, .ref (ad 1)), (1, .int x1), (2, .int x2)] := hl
  unfold fX4_areKin at hf
  refine lv_aload_n hx hb dX4_areKin_0 rfl (lv_at hl 0 rfl) ?_
  refine lv_iload_n hx hb dX4_areKin_1 rfl (lv_at hl 1 rfl) ?_
  obtain ⟨r1, er1, hf⟩ := ob_e hf
  refine kVi (As := [.int x1]) (rest := []) F B w (tX4_has er1) (cwV 1 hts gX4_areKin_X4_has rfl rfl rfl (by decide +kernel) ⟨Nat.le_of_ble_eq_true rfl, Nat.le_of_ble_eq_true rfl⟩) 1 gX_1 rfl rfl hl.1 rfl (Nat.le_of_ble_eq_true rfl) dX4_areKin_2 ⟨Nat.le_of_ble_eq_true rfl, Nat.le_of_ble_eq_true rfl⟩ (fun H locs w => ?_)
  refine lv_if_eq (tgt := 35) hx hb dX4_areKin_5 (by decide) (fun c2 => ?_) (fun c2 => ?_)
  · have hf := if_t hf c2
    refine lv_iconst (v := 0) hx hb dX4_areKin_35 (by decide) ?_
    cases hf
    exact hQ _ _ _ _ dX4_areKin_36 (by decide) w
  · have hf := if_f hf c2
    refine lv_aload_n hx hb dX4_areKin_8 rfl (lv_at hl 0 rfl) ?_
    refine lv_iload_n hx hb dX4_areKin_9 rfl (lv_at hl 2 rfl) ?_
    obtain ⟨r3, er3, hf⟩ := ob_e hf
    refine kVi (As := [.int x2]) (rest := []) F B w (tX4_has er3) (cwV 1 hts gX4_areKin_X4_has rfl rfl rfl (by decide +kernel) ⟨Nat.le_of_ble_eq_true rfl, Nat.le_of_ble_eq_true rfl⟩) 1 gX_1 rfl rfl hl.1 rfl (Nat.le_of_ble_eq_true rfl) dX4_areKin_10 ⟨Nat.le_of_ble_eq_true rfl, Nat.le_of_ble_eq_true rfl⟩ (fun H locs w => ?_)
    refine lv_if_eq (tgt := 35) hx hb dX4_areKin_13 (by decide) (fun c4 => ?_) (fun c4 => ?_)
    · have hf := if_t hf c4
      refine lv_iconst (v := 0) hx hb dX4_areKin_35 (by decide) ?_
      cases hf
      exact hQ _ _ _ _ dX4_areKin_36 (by decide) w
    · have hf := if_f hf c4
      refine lv_aload_n hx hb dX4_areKin_16 rfl (lv_at hl 0 rfl) ?_
      refine kget (v := .ref (ad 14)) F B w inX4_areKin_4 1 gX_1 rfl 2 (by decide) (hts (.fieldLink RX4 18 "LandReform$People" "kin" "[J") (by decide +kernel)) rfl rfl dX4_areKin_17 ?_
      refine lv_iload_n hx hb dX4_areKin_20 rfl (lv_at hl 1 rfl) ?_
      obtain ⟨g5, hf⟩ := if_g hf
      refine klald F B w 14 gX_14 g5 dX4_areKin_21 ?_
      refine lv_iload_n hx hb dX4_areKin_22 rfl (lv_at hl 2 rfl) ?_
      refine lv_lshr (v := ((S.2.2 (Int32.toNatClampNeg x1)) >>> (Int32.toInt64 x2 &&& 63))) hx hb dX4_areKin_23 rfl ?_
      refine lv_lconst (v := 1) hx hb dX4_areKin_24 (by decide) ?_
      refine lv_land hx hb dX4_areKin_25 ?_
      refine lv_lconst (v := 1) hx hb dX4_areKin_26 (by decide) ?_
      refine W.lcmp hx hb dX4_areKin_27 ?_
      refine lv_if_ne (tgt := 35) hx hb dX4_areKin_28 (by decide) (fun c6 => ?_) (fun c6 => ?_)
      · have hf := if_f hf c6
        refine lv_iconst (v := 0) hx hb dX4_areKin_35 (by decide) ?_
        cases hf
        exact hQ _ _ _ _ dX4_areKin_36 (by decide) w
      · have hf := if_t hf c6
        refine lv_iconst (v := 1) hx hb dX4_areKin_31 (by decide) ?_
        refine lv_goto (tgt := 36) hx hb dX4_areKin_32 (by decide) ?_
        cases hf
        exact hQ _ _ _ _ dX4_areKin_36 (by decide) w

def fX4_bind (S : St) (x1 : Int32) (x2 : Int32) : Option (Int32 × St) := ob (fX4_has S x1) fun r1 => if r1 = 0 then (some (0, S)) else (ob (fX4_has S x2) fun r3 => if r3 = 0 then (some (0, S)) else (if x1 = x2 then (some (0, S)) else (ob (fX4_areKin S x1 x2) fun r6 => if r6 = 0 then (if x1 < 0 ∨ 40 ≤ Int32.toNatClampNeg x1 then none else if x1 < 0 ∨ 40 ≤ Int32.toNatClampNeg x1 then none else lt_ (sJ S (Int32.toNatClampNeg x1) ((S.2.2 (Int32.toNatClampNeg x1)) ||| ((1 : Int64) <<< (Int32.toInt64 x2 &&& 63)))) fun S10 => if x2 < 0 ∨ 40 ≤ Int32.toNatClampNeg x2 then none else if x2 < 0 ∨ 40 ≤ Int32.toNatClampNeg x2 then none else lt_ (sJ S10 (Int32.toNatClampNeg x2) ((S10.2.2 (Int32.toNatClampNeg x2)) ||| ((1 : Int64) <<< (Int32.toInt64 x1 &&& 63)))) fun S13 => lt_ (sS S13 2 ((S13.1 2) + 1)) fun S14 => some (1, S14)) else (some (0, S)))))
set_option maxRecDepth 20000 in
theorem inX4_bind_4 : ∀ w ∈ u_ws RX4 TX4 5, w ∈ wsX4_bind := by decide +kernel
set_option maxHeartbeats 4000000 in
set_option maxRecDepth 100000 in
theorem tX4_bind {l : Launch} {D : va_G} {cc : Nat → ClassId} {ak av : Nat → Nat} {ad : Nat → Nat} {g : Nat → Option Nat} {E : va_W} {S : St} {x1 : Int32} {x2 : Int32} {r : Int32} {S' : St} (hf : fX4_bind S x1 x2 = some (r, S')) : CI l yX4_bind wsX4_bind ({ frames := 3, cells := 0, slots := 0, locals := 64 } : Room) D cc ak av [.ref (ad 1), .int x1, .int x2] (WX cc ad g S ++ E) (WX cc ad g S' ++ E) r := by
  refine mkZ (c0 := cX4_bind) (nL := 3) (own := RX4) rfl rfl (by decide) rfl rfl (Nat.le_of_ble_eq_true rfl) ?_
  intro p e s m args below meth c A Q ls F B hQ hl w
  have hx := F.1
  have hb := F.2.1
  have hown := F.2.2.2.1
  have hts := F.2.2.2.2
  have hl : lv_has ls 3 [(0, .ref (ad 1)), (1, .int x1), (2, .int x2)] := hl
  unfold fX4_bind at hf
  refine lv_aload_n hx hb dX4_bind_0 rfl (lv_at hl 0 rfl) ?_
  refine lv_iload_n hx hb dX4_bind_1 rfl (lv_at hl 1 rfl) ?_
  obtain ⟨r1, er1, hf⟩ := ob_e hf
  refine kVi (As := [.int x1]) (rest := []) F B w (tX4_has er1) (cwV 1 hts gX4_bind_X4_has rfl rfl rfl (by decide +kernel) ⟨Nat.le_of_ble_eq_true rfl, Nat.le_of_ble_eq_true rfl⟩) 1 gX_1 rfl rfl hl.1 rfl (Nat.le_of_ble_eq_true rfl) dX4_bind_2 ⟨Nat.le_of_ble_eq_true rfl, Nat.le_of_ble_eq_true rfl⟩ (fun H locs w => ?_)
  refine lv_if_eq (tgt := 30) hx hb dX4_bind_5 (by decide) (fun c2 => ?_) (fun c2 => ?_)
  · have hf := if_t hf c2
    refine lv_iconst (v := 0) hx hb dX4_bind_30 (by decide) ?_
    cases hf
    exact hQ _ _ _ _ dX4_bind_31 (by decide) w
  · have hf := if_f hf c2
    refine lv_aload_n hx hb dX4_bind_8 rfl (lv_at hl 0 rfl) ?_
    refine lv_iload_n hx hb dX4_bind_9 rfl (lv_at hl 2 rfl) ?_
    obtain ⟨r3, er3, hf⟩ := ob_e hf
    refine kVi (As := [.int x2]) (rest := []) F B w (tX4_has er3) (cwV 1 hts gX4_bind_X4_has rfl rfl rfl (by decide +kernel) ⟨Nat.le_of_ble_eq_true rfl, Nat.le_of_ble_eq_true rfl⟩) 1 gX_1 rfl rfl hl.1 rfl (Nat.le_of_ble_eq_true rfl) dX4_bind_10 ⟨Nat.le_of_ble_eq_true rfl, Nat.le_of_ble_eq_true rfl⟩ (fun H locs w => ?_)
    refine lv_if_eq (tgt := 30) hx hb dX4_bind_13 (by decide) (fun c4 => ?_) (fun c4 => ?_)
    · have hf := if_t hf c4
      refine lv_iconst (v := 0) hx hb dX4_bind_30 (by decide) ?_
      cases hf
      exact hQ _ _ _ _ dX4_bind_31 (by decide) w
    · have hf := if_f hf c4
      refine lv_iload_n hx hb dX4_bind_16 rfl (lv_at hl 1 rfl) ?_
      refine lv_iload_n hx hb dX4_bind_17 rfl (lv_at hl 2 rfl) ?_
      refine lv_icmp_eq (tgt := 30) hx hb dX4_bind_18 (by decide) (fun c5 => ?_) (fun c5 => ?_)
      · have hf := if_t hf c5
        refine lv_iconst (v := 0) hx hb dX4_bind_30 (by decide) ?_
        cases hf
        exact hQ _ _ _ _ dX4_bind_31 (by decide) w
      · have hf := if_f hf c5
        refine lv_aload_n hx hb dX4_bind_21 rfl (lv_at hl 0 rfl) ?_
        refine lv_iload_n hx hb dX4_bind_22 rfl (lv_at hl 1 rfl) ?_
        refine lv_iload_n hx hb dX4_bind_23 rfl (lv_at hl 2 rfl) ?_
        obtain ⟨r6, er6, hf⟩ := ob_e hf
        refine kVi (As := [.int x1, .int x2]) (rest := []) F B w (tX4_areKin er6) (cwV 2 hts gX4_bind_X4_areKin rfl rfl rfl (by decide +kernel) ⟨Nat.le_of_ble_eq_true rfl, Nat.le_of_ble_eq_true rfl⟩) 1 gX_1 rfl rfl hl.1 rfl (Nat.le_of_ble_eq_true rfl) dX4_bind_24 ⟨Nat.le_of_ble_eq_true rfl, Nat.le_of_ble_eq_true rfl⟩ (fun H locs w => ?_)
        refine lv_if_eq (tgt := 32) hx hb dX4_bind_27 (by decide) (fun c7 => ?_) (fun c7 => ?_)
        · have hf := if_t hf c7
          refine lv_aload_n hx hb dX4_bind_32 rfl (lv_at hl 0 rfl) ?_
          refine kget (v := .ref (ad 14)) F B w inX4_bind_4 1 gX_1 rfl 2 (by decide) (hts (.fieldLink RX4 18 "LandReform$People" "kin" "[J") (by decide +kernel)) rfl rfl dX4_bind_33 ?_
          refine lv_iload_n hx hb dX4_bind_36 rfl (lv_at hl 1 rfl) ?_
          refine lv_dup2_11 hx hb dX4_bind_37 rfl rfl ?_
          obtain ⟨g8, hf⟩ := if_g hf
          refine klald F B w 14 gX_14 g8 dX4_bind_38 ?_
          refine lv_lconst (v := 1) hx hb dX4_bind_39 (by decide) ?_
          refine lv_iload_n hx hb dX4_bind_40 rfl (lv_at hl 2 rfl) ?_
          refine lv_lshl (v := ((1 : Int64) <<< (Int32.toInt64 x2 &&& 63))) hx hb dX4_bind_41 rfl ?_
          refine lv_lor hx hb dX4_bind_42 ?_
          obtain ⟨g9, hf⟩ := if_g hf
          refine klast F B w 14 gX_14 g9 bX_14 dX4_bind_43 (fun H locs w => ?_)
          obtain ⟨S10, eS10⟩ : ∃ z, z = sJ S (Int32.toNatClampNeg x1) ((S.2.2 (Int32.toNatClampNeg x1)) ||| ((1 : Int64) <<< (Int32.toInt64 x2 &&& 63))) := ⟨_, rfl⟩
          rw [← eS10] at w
          have hf := lt_e hf eS10
          refine lv_aload_n hx hb dX4_bind_44 rfl (lv_at hl 0 rfl) ?_
          refine kget (v := .ref (ad 14)) F B w inX4_bind_4 1 gX_1 rfl 2 (by decide) (hts (.fieldLink RX4 18 "LandReform$People" "kin" "[J") (by decide +kernel)) rfl rfl dX4_bind_45 ?_
          refine lv_iload_n hx hb dX4_bind_48 rfl (lv_at hl 2 rfl) ?_
          refine lv_dup2_11 hx hb dX4_bind_49 rfl rfl ?_
          obtain ⟨g11, hf⟩ := if_g hf
          refine klald F B w 14 gX_14 g11 dX4_bind_50 ?_
          refine lv_lconst (v := 1) hx hb dX4_bind_51 (by decide) ?_
          refine lv_iload_n hx hb dX4_bind_52 rfl (lv_at hl 1 rfl) ?_
          refine lv_lshl (v := ((1 : Int64) <<< (Int32.toInt64 x1 &&& 63))) hx hb dX4_bind_53 rfl ?_
          refine lv_lor hx hb dX4_bind_54 ?_
          obtain ⟨g12, hf⟩ := if_g hf
          refine klast F B w 14 gX_14 g12 bX_14 dX4_bind_55 (fun H locs w => ?_)
          obtain ⟨S13, eS13⟩ : ∃ z, z = sJ S10 (Int32.toNatClampNeg x2) ((S10.2.2 (Int32.toNatClampNeg x2)) ||| ((1 : Int64) <<< (Int32.toInt64 x1 &&& 63))) := ⟨_, rfl⟩
          rw [← eS13] at w
          have hf := lt_e hf eS13
          refine lv_aload_n hx hb dX4_bind_56 rfl (lv_at hl 0 rfl) ?_
          refine lv_dup hx hb dX4_bind_57 rfl ?_
          refine kget (v := .int (S13.1 2)) F B w inX4_bind_4 1 gX_1 rfl 4 (by decide) (hts (.fieldLink RX4 37 "LandReform$People" "pairs" "I") (by decide +kernel)) rfl rfl dX4_bind_58 ?_
          refine lv_iconst (v := 1) hx hb dX4_bind_61 (by decide) ?_
          refine lv_iadd hx hb dX4_bind_62 ?_
          refine kput (ty := .int) F B w inX4_bind_4 tyX4 tyX4_ok nmX4 1 gX_1 rfl 4 (by decide) (hts (.fieldLink RX4 37 "LandReform$People" "pairs" "I") (by decide +kernel)) rfl rfl (by decide +kernel) rfl rfl (Nat.le_of_ble_eq_true rfl) pX_2 dX4_bind_63 (fun H locs w => ?_)
          obtain ⟨S14, eS14⟩ : ∃ z, z = sS S13 2 ((S13.1 2) + 1) := ⟨_, rfl⟩
          rw [← eS14] at w
          have hf := lt_e hf eS14
          refine lv_iconst (v := 1) hx hb dX4_bind_66 (by decide) ?_
          cases hf
          exact hQ _ _ _ _ dX4_bind_67 (by decide) w
        · have hf := if_f hf c7
          refine lv_iconst (v := 0) hx hb dX4_bind_30 (by decide) ?_
          cases hf
          exact hQ _ _ _ _ dX4_bind_31 (by decide) w

def fX4_areOfOneFamily (S : St) (x1 : Int32) (x2 : Int32) : Option Int32 := ob (fX4_houseOf S x1) fun r1 => ob (fX4_houseOf S x2) fun r2 => if r1 = r2 then (some 1) else (ob (fX4_areKin S x1 x2) fun r4 => if r4 = 0 then (some 0) else (some 1))
set_option maxHeartbeats 4000000 in
set_option maxRecDepth 100000 in
theorem tX4_areOfOneFamily {l : Launch} {D : va_G} {cc : Nat → ClassId} {ak av : Nat → Nat} {ad : Nat → Nat} {g : Nat → Option Nat} {E : va_W} {S : St} {x1 : Int32} {x2 : Int32} {r : Int32} (hf : fX4_areOfOneFamily S x1 x2 = some r) : CI l yX4_areOfOneFamily wsX4_areOfOneFamily ({ frames := 3, cells := 0, slots := 0, locals := 64 } : Room) D cc ak av [.ref (ad 1), .int x1, .int x2] (WX cc ad g S ++ E) (WX cc ad g S ++ E) r := by
  refine mkZ (c0 := cX4_areOfOneFamily) (nL := 3) (own := RX4) rfl rfl (by decide) rfl rfl (Nat.le_of_ble_eq_true rfl) ?_
  intro p e s m args below meth c A Q ls F B hQ hl w
  have hx := F.1
  have hb := F.2.1
  have hown := F.2.2.2.1
  have hts := F.2.2.2.2
  have hl : lv_has ls 3 [(0, .ref (ad 1)), (1, .int x1), (2, .int x2)] := hl
  unfold fX4_areOfOneFamily at hf
  refine lv_aload_n hx hb dX4_areOfOneFamily_0 rfl (lv_at hl 0 rfl) ?_
  refine lv_iload_n hx hb dX4_areOfOneFamily_1 rfl (lv_at hl 1 rfl) ?_
  obtain ⟨r1, er1, hf⟩ := ob_e hf
  refine kVi (As := [.int x1]) (rest := []) F B w (tX4_houseOf er1) (cwV 1 hts gX4_areOfOneFamily_X4_houseOf rfl rfl rfl (by decide +kernel) ⟨Nat.le_of_ble_eq_true rfl, Nat.le_of_ble_eq_true rfl⟩) 1 gX_1 rfl rfl hl.1 rfl (Nat.le_of_ble_eq_true rfl) dX4_areOfOneFamily_2 ⟨Nat.le_of_ble_eq_true rfl, Nat.le_of_ble_eq_true rfl⟩ (fun H locs w => ?_)
  refine lv_aload_n hx hb dX4_areOfOneFamily_5 rfl (lv_at hl 0 rfl) ?_
  refine lv_iload_n hx hb dX4_areOfOneFamily_6 rfl (lv_at hl 2 rfl) ?_
  obtain ⟨r2, er2, hf⟩ := ob_e hf
  refine kVi (As := [.int x2]) (rest := [.int r1]) F B w (tX4_houseOf er2) (cwV 1 hts gX4_areOfOneFamily_X4_houseOf rfl rfl rfl (by decide +kernel) ⟨Nat.le_of_ble_eq_true rfl, Nat.le_of_ble_eq_true rfl⟩) 1 gX_1 rfl rfl hl.1 rfl (Nat.le_of_ble_eq_true rfl) dX4_areOfOneFamily_7 ⟨Nat.le_of_ble_eq_true rfl, Nat.le_of_ble_eq_true rfl⟩ (fun H locs w => ?_)
  refine lv_icmp_eq (tgt := 22) hx hb dX4_areOfOneFamily_10 (by decide) (fun c3 => ?_) (fun c3 => ?_)
  · have hf := if_t hf c3
    refine lv_iconst (v := 1) hx hb dX4_areOfOneFamily_22 (by decide) ?_
    refine lv_goto (tgt := 27) hx hb dX4_areOfOneFamily_23 (by decide) ?_
    cases hf
    exact hQ _ _ _ _ dX4_areOfOneFamily_27 (by decide) w
  · have hf := if_f hf c3
    refine lv_aload_n hx hb dX4_areOfOneFamily_13 rfl (lv_at hl 0 rfl) ?_
    refine lv_iload_n hx hb dX4_areOfOneFamily_14 rfl (lv_at hl 1 rfl) ?_
    refine lv_iload_n hx hb dX4_areOfOneFamily_15 rfl (lv_at hl 2 rfl) ?_
    obtain ⟨r4, er4, hf⟩ := ob_e hf
    refine kVi (As := [.int x1, .int x2]) (rest := []) F B w (tX4_areKin er4) (cwV 2 hts gX4_areOfOneFamily_X4_areKin rfl rfl rfl (by decide +kernel) ⟨Nat.le_of_ble_eq_true rfl, Nat.le_of_ble_eq_true rfl⟩) 1 gX_1 rfl rfl hl.1 rfl (Nat.le_of_ble_eq_true rfl) dX4_areOfOneFamily_16 ⟨Nat.le_of_ble_eq_true rfl, Nat.le_of_ble_eq_true rfl⟩ (fun H locs w => ?_)
    refine lv_if_eq (tgt := 26) hx hb dX4_areOfOneFamily_19 (by decide) (fun c5 => ?_) (fun c5 => ?_)
    · have hf := if_t hf c5
      refine lv_iconst (v := 0) hx hb dX4_areOfOneFamily_26 (by decide) ?_
      cases hf
      exact hQ _ _ _ _ dX4_areOfOneFamily_27 (by decide) w
    · have hf := if_f hf c5
      refine lv_iconst (v := 1) hx hb dX4_areOfOneFamily_22 (by decide) ?_
      refine lv_goto (tgt := 27) hx hb dX4_areOfOneFamily_23 (by decide) ?_
      cases hf
      exact hQ _ _ _ _ dX4_areOfOneFamily_27 (by decide) w

def fX4_membersOf_L4 (n : Nat) (x1 : Int32) (S : St) (k : Int32 → Int32 → Option Int32) : Nat → Int32 → Int32 → Option Int32
  | 0, _, _ => none
  | fu + 1, x2, x3 => if (S.1 1) ≤ x3 then (k x2 x3) else (if x3 < 0 ∨ 40 ≤ Int32.toNatClampNeg x3 then none else if (S.2.1 0 (Int32.toNatClampNeg x3)) = x1 then (fX4_membersOf_L4 n x1 S k fu (x2 + 1) (x3 + 1)) else (fX4_membersOf_L4 n x1 S k fu x2 (x3 + 1)))
def fX4_membersOf (n : Nat) (S : St) (x1 : Int32) : Option Int32 := fX4_membersOf_L4 n x1 S (fun x4 x5 => some x4) n 0 0
set_option maxRecDepth 20000 in
theorem inX4_membersOf_4 : ∀ w ∈ u_ws RX4 TX4 5, w ∈ wsX4_membersOf := by decide +kernel
set_option maxHeartbeats 4000000 in
set_option maxRecDepth 100000 in
theorem wX4_membersOf_L4 {p : Program} {l : Launch} {e : Env} {s : State} {m : MethodId} {args : Array Value} {below : List Frame} {meth : Method} {c : Code} {Q : State → Prop} {D : va_G} {cc : Nat → ClassId} {ak av : Nat → Nat} {A : Nat → Prop} {ad : Nat → Nat} {g : Nat → Option Nat} {E : va_W} {n : Nat} {x1 : Int32} {S : St} {r : Int32} {k : Int32 → Int32 → Option Int32} (F : CallFix p m c cX4_membersOf 4 s args wsX4_membersOf RX4) (B : Bd D cc ak av A s) (hQ : RetI p l e ({ frames := 0, cells := 0, slots := 0, locals := 0 } : Room) s m args below meth c D A Q cX4_membersOf (WX cc ad g S ++ E) r)
    (hk : ∀ (x2 : Int32) (x3 : Int32) (H : Heap) (locs : List Loc) (ls : Array Slot), Wd D A s.heap H locs (WX cc ad g S ++ E) → lv_has ls 4 [(0, .ref (ad 1)), (1, .int x1), (2, .int x2), (3, .int x3)] → k x2 x3 = some r → W p l e ({ frames := 0, cells := 0, slots := 0, locals := 0 } : Room) s m args below meth c H locs 0 0 Q (F0 m 31 ls [])) :
    ∀ (fu : Nat) (x2 : Int32) (x3 : Int32) (H : Heap) (locs : List Loc) (ls : Array Slot), Wd D A s.heap H locs (WX cc ad g S ++ E) → lv_has ls 4 [(0, .ref (ad 1)), (1, .int x1), (2, .int x2), (3, .int x3)] → fX4_membersOf_L4 n x1 S k fu x2 x3 = some r → W p l e ({ frames := 0, cells := 0, slots := 0, locals := 0 } : Room) s m args below meth c H locs 0 0 Q (F0 m 4 ls []) := by
  have hx := F.1
  have hb := F.2.1
  have hown := F.2.2.2.1
  have hts := F.2.2.2.2
  intro fu
  induction fu with
  | zero => intro x2 x3 H locs ls w hl hf; rw [fX4_membersOf_L4] at hf; cases hf
  | succ fu ih =>
    intro x2 x3 H locs ls w hl hf
    rw [fX4_membersOf_L4] at hf
    refine lv_iload_n hx hb dX4_membersOf_4 rfl (lv_at hl 3 rfl) ?_
    refine lv_aload_n hx hb dX4_membersOf_5 rfl (lv_at hl 0 rfl) ?_
    refine kget (v := .int (S.1 1)) F B w inX4_membersOf_4 1 gX_1 rfl 3 (by decide) (hts (.fieldLink RX4 22 "LandReform$People" "size" "I") (by decide +kernel)) rfl rfl dX4_membersOf_6 ?_
    refine lv_icmp_ge (tgt := 31) hx hb dX4_membersOf_9 (by decide) (fun c1 => ?_) (fun c1 => ?_)
    · have hf := if_t hf c1
      exact hk _ _ _ _ _ w (lv_sub hl [0, 1, 2, 3] rfl) hf
    · have hf := if_f hf c1
      refine lv_aload_n hx hb dX4_membersOf_12 rfl (lv_at hl 0 rfl) ?_
      refine kget (v := .ref (ad 12)) F B w inX4_membersOf_4 1 gX_1 rfl 0 (by decide) (hts (.fieldLink RX4 9 "LandReform$People" "houses" "[I") (by decide +kernel)) rfl rfl dX4_membersOf_13 ?_
      refine lv_iload_n hx hb dX4_membersOf_16 rfl (lv_at hl 3 rfl) ?_
      obtain ⟨g2, hf⟩ := if_g hf
      refine kiald F B w 12 gX_12 g2 dX4_membersOf_17 ?_
      refine lv_iload_n hx hb dX4_membersOf_18 rfl (lv_at hl 1 rfl) ?_
      refine lv_icmp_ne (tgt := 25) hx hb dX4_membersOf_19 (by decide) (fun c3 => ?_) (fun c3 => ?_)
      · have hf := if_f hf c3
        refine lv_iinc (v := (x3 + 1)) (lv' := [(3, .int (x3 + 1)), (0, .ref (ad 1)), (1, .int x1), (2, .int x2)]) hx hb dX4_membersOf_25 hl (k := 3) rfl rfl (by decide) rfl (fun ls hl => ?_)
        refine lv_goto (tgt := 4) hx hb dX4_membersOf_28 (by decide) ?_
        exact ih _ _ _ _ _ w (lv_sub hl [1, 2, 3, 0] rfl) hf
      · have hf := if_t hf c3
        refine lv_iinc (v := (x2 + 1)) (lv' := [(2, .int (x2 + 1)), (0, .ref (ad 1)), (1, .int x1), (3, .int x3)]) hx hb dX4_membersOf_22 hl (k := 2) rfl rfl (by decide) rfl (fun ls hl => ?_)
        refine lv_iinc (v := (x3 + 1)) (lv' := [(3, .int (x3 + 1)), (2, .int (x2 + 1)), (0, .ref (ad 1)), (1, .int x1)]) hx hb dX4_membersOf_25 hl (k := 3) rfl rfl (by decide) rfl (fun ls hl => ?_)
        refine lv_goto (tgt := 4) hx hb dX4_membersOf_28 (by decide) ?_
        exact ih _ _ _ _ _ w (lv_sub hl [2, 3, 1, 0] rfl) hf
set_option maxHeartbeats 4000000 in
set_option maxRecDepth 100000 in
theorem tX4_membersOf {l : Launch} {D : va_G} {cc : Nat → ClassId} {ak av : Nat → Nat} {ad : Nat → Nat} {g : Nat → Option Nat} {E : va_W} {n : Nat} {S : St} {x1 : Int32} {r : Int32} (hf : fX4_membersOf n S x1 = some r) : CI l yX4_membersOf wsX4_membersOf ({ frames := 0, cells := 0, slots := 0, locals := 0 } : Room) D cc ak av [.ref (ad 1), .int x1] (WX cc ad g S ++ E) (WX cc ad g S ++ E) r := by
  refine mkI (c0 := cX4_membersOf) (nL := 4) (own := RX4) rfl rfl (by decide) rfl rfl (Nat.le_of_ble_eq_true rfl) ?_
  intro p e s m args below meth c A Q ls F B hQ hl w
  have hx := F.1
  have hb := F.2.1
  have hown := F.2.2.2.1
  have hts := F.2.2.2.2
  have hl : lv_has ls 4 [(0, .ref (ad 1)), (1, .int x1)] := hl
  unfold fX4_membersOf at hf
  refine lv_iconst (v := 0) hx hb dX4_membersOf_0 (by decide) ?_
  refine lv_istore_n (lv' := [(2, .int 0), (0, .ref (ad 1)), (1, .int x1)]) hx hb dX4_membersOf_1 rfl hl (by decide) rfl (fun ls hl => ?_)
  refine lv_iconst (v := 0) hx hb dX4_membersOf_2 (by decide) ?_
  refine lv_istore_n (lv' := [(3, .int 0), (2, .int 0), (0, .ref (ad 1)), (1, .int x1)]) hx hb dX4_membersOf_3 rfl hl (by decide) rfl (fun ls hl => ?_)
  refine wX4_membersOf_L4 F B hQ (fun x4 x5 H locs ls w hl hf => ?_) n _ _ _ _ _ w (lv_sub hl [2, 3, 1, 0] rfl) hf
  refine lv_iload_n hx hb dX4_membersOf_31 rfl (lv_at hl 2 rfl) ?_
  cases hf
  exact hQ _ _ _ _ dX4_membersOf_32 w

def fX3_soilIs (S : St) (x1 : Int32) : Option Int32 := ob (fX10_isBelow x1 4) fun r1 => if r1 = 0 then (some 0) else (if x1 < 0 ∨ 4 ≤ Int32.toNatClampNeg x1 then none else some (S.2.1 30 (Int32.toNatClampNeg x1)))
set_option maxRecDepth 20000 in
theorem inX3_soilIs_3 : ∀ w ∈ u_ws RX3 TX3 9, w ∈ wsX3_soilIs := by decide +kernel
set_option maxHeartbeats 4000000 in
set_option maxRecDepth 100000 in
theorem tX3_soilIs {l : Launch} {D : va_G} {cc : Nat → ClassId} {ak av : Nat → Nat} {ad : Nat → Nat} {g : Nat → Option Nat} {E : va_W} {S : St} {x1 : Int32} {r : Int32} (hf : fX3_soilIs S x1 = some r) : CI l yX3_soilIs wsX3_soilIs ({ frames := 1, cells := 0, slots := 0, locals := 21 } : Room) D cc ak av [.ref (ad 10), .int x1] (WX cc ad g S ++ E) (WX cc ad g S ++ E) r := by
  refine mkI (c0 := cX3_soilIs) (nL := 2) (own := RX3) rfl rfl (by decide) rfl rfl (Nat.le_of_ble_eq_true rfl) ?_
  intro p e s m args below meth c A Q ls F B hQ hl w
  have hx := F.1
  have hb := F.2.1
  have hown := F.2.2.2.1
  have hts := F.2.2.2.2
  have hl : lv_has ls 2 [(0, .ref (ad 10)), (1, .int x1)] := hl
  unfold fX3_soilIs at hf
  refine lv_iload_n hx hb dX3_soilIs_0 rfl (lv_at hl 1 rfl) ?_
  refine lv_iconst (v := 4) hx hb dX3_soilIs_1 (by decide) ?_
  obtain ⟨r1, er1, hf⟩ := ob_e hf
  refine kSNi (As := [.int x1, .int 4]) (rest := []) F B w (tX10_isBelow er1) ⟨va_cnB 2 hts gX3_soilIs_X10_isBelow_n57 rfl rfl rfl (B.2.1.m 10 rfl) (hts (.initialized RX10) (by decide +kernel)) (by decide +kernel) ⟨Nat.le_of_ble_eq_true rfl, Nat.le_of_ble_eq_true rfl⟩, hts (.static yX10_isBelow) (by decide +kernel), trivial⟩ rfl hl.1 rfl (Nat.le_of_ble_eq_true rfl) dX3_soilIs_2 ⟨Nat.le_of_ble_eq_true rfl, Nat.le_of_ble_eq_true rfl⟩ (fun H locs w => ?_)
  refine lv_if_eq (tgt := 17) hx hb dX3_soilIs_5 (by decide) (fun c2 => ?_) (fun c2 => ?_)
  · have hf := if_t hf c2
    refine lv_iconst (v := 0) hx hb dX3_soilIs_17 (by decide) ?_
    cases hf
    exact hQ _ _ _ _ dX3_soilIs_18 w
  · have hf := if_f hf c2
    refine lv_aload_n hx hb dX3_soilIs_8 rfl (lv_at hl 0 rfl) ?_
    refine kget (v := .ref (ad 44)) F B w inX3_soilIs_3 10 gX_10 rfl 0 (by decide) (hts (.fieldLink RX3 9 "LandReform$Law" "soilValues" "[I") (by decide +kernel)) rfl rfl dX3_soilIs_9 ?_
    refine lv_iload_n hx hb dX3_soilIs_12 rfl (lv_at hl 1 rfl) ?_
    obtain ⟨g3, hf⟩ := if_g hf
    refine kiald F B w 44 gX_44 g3 dX3_soilIs_13 ?_
    refine lv_goto (tgt := 18) hx hb dX3_soilIs_14 (by decide) ?_
    cases hf
    exact hQ _ _ _ _ dX3_soilIs_18 w

def fX3_exempts (S : St) (x1 : Int32) : Option Int32 := ob (fX10_isBelow x1 10) fun r1 => if r1 = 0 then (some 0) else (if (((S.1 24) >>> (x1 &&& 31)) &&& 1) = 1 then (some 1) else (some 0))
set_option maxRecDepth 20000 in
theorem inX3_exempts_3 : ∀ w ∈ u_ws RX3 TX3 9, w ∈ wsX3_exempts := by decide +kernel
set_option maxHeartbeats 4000000 in
set_option maxRecDepth 100000 in
theorem tX3_exempts {l : Launch} {D : va_G} {cc : Nat → ClassId} {ak av : Nat → Nat} {ad : Nat → Nat} {g : Nat → Option Nat} {E : va_W} {S : St} {x1 : Int32} {r : Int32} (hf : fX3_exempts S x1 = some r) : CI l yX3_exempts wsX3_exempts ({ frames := 1, cells := 0, slots := 0, locals := 21 } : Room) D cc ak av [.ref (ad 10), .int x1] (WX cc ad g S ++ E) (WX cc ad g S ++ E) r := by
  refine mkZ (c0 := cX3_exempts) (nL := 2) (own := RX3) rfl rfl (by decide) rfl rfl (Nat.le_of_ble_eq_true rfl) ?_
  intro p e s m args below meth c A Q ls F B hQ hl w
  have hx := F.1
  have hb := F.2.1
  have hown := F.2.2.2.1
  have hts := F.2.2.2.2
  have hl : lv_has ls 2 [(0, .ref (ad 10)), (1, .int x1)] := hl
  unfold fX3_exempts at hf
  refine lv_iload_n hx hb dX3_exempts_0 rfl (lv_at hl 1 rfl) ?_
  refine lv_bipush (v := 10) hx hb dX3_exempts_1 (by decide) ?_
  obtain ⟨r1, er1, hf⟩ := ob_e hf
  refine kSNi (As := [.int x1, .int 10]) (rest := []) F B w (tX10_isBelow er1) ⟨va_cnB 2 hts gX3_exempts_X10_isBelow_n57 rfl rfl rfl (B.2.1.m 10 rfl) (hts (.initialized RX10) (by decide +kernel)) (by decide +kernel) ⟨Nat.le_of_ble_eq_true rfl, Nat.le_of_ble_eq_true rfl⟩, hts (.static yX10_isBelow) (by decide +kernel), trivial⟩ rfl hl.1 rfl (Nat.le_of_ble_eq_true rfl) dX3_exempts_3 ⟨Nat.le_of_ble_eq_true rfl, Nat.le_of_ble_eq_true rfl⟩ (fun H locs w => ?_)
  refine lv_if_eq (tgt := 25) hx hb dX3_exempts_6 (by decide) (fun c2 => ?_) (fun c2 => ?_)
  · have hf := if_t hf c2
    refine lv_iconst (v := 0) hx hb dX3_exempts_25 (by decide) ?_
    cases hf
    exact hQ _ _ _ _ dX3_exempts_26 (by decide) w
  · have hf := if_f hf c2
    refine lv_aload_n hx hb dX3_exempts_9 rfl (lv_at hl 0 rfl) ?_
    refine kget (v := .int (S.1 24)) F B w inX3_exempts_3 10 gX_10 rfl 4 (by decide) (hts (.fieldLink RX3 34 "LandReform$Law" "exemptCrops" "I") (by decide +kernel)) rfl rfl dX3_exempts_10 ?_
    refine lv_iload_n hx hb dX3_exempts_13 rfl (lv_at hl 1 rfl) ?_
    refine lv_ishr hx hb dX3_exempts_14 ?_
    refine lv_iconst (v := 1) hx hb dX3_exempts_15 (by decide) ?_
    refine lv_iand hx hb dX3_exempts_16 ?_
    refine lv_iconst (v := 1) hx hb dX3_exempts_17 (by decide) ?_
    refine lv_icmp_ne (tgt := 25) hx hb dX3_exempts_18 (by decide) (fun c3 => ?_) (fun c3 => ?_)
    · have hf := if_f hf c3
      refine lv_iconst (v := 0) hx hb dX3_exempts_25 (by decide) ?_
      cases hf
      exact hQ _ _ _ _ dX3_exempts_26 (by decide) w
    · have hf := if_t hf c3
      refine lv_iconst (v := 1) hx hb dX3_exempts_21 (by decide) ?_
      refine lv_goto (tgt := 26) hx hb dX3_exempts_22 (by decide) ?_
      cases hf
      exact hQ _ _ _ _ dX3_exempts_26 (by decide) w

def fX3_allows (S : St) (x1 : Int32) : Option Int32 := some ((S.1 21) + ((S.1 22) * (if (0 : Int32) < (x1 - 5) then (x1 - 5) else 0)))
set_option maxRecDepth 20000 in
theorem inX3_allows_3 : ∀ w ∈ u_ws RX3 TX3 9, w ∈ wsX3_allows := by decide +kernel
set_option maxHeartbeats 4000000 in
set_option maxRecDepth 100000 in
theorem tX3_allows {l : Launch} {D : va_G} {cc : Nat → ClassId} {ak av : Nat → Nat} {ad : Nat → Nat} {g : Nat → Option Nat} {E : va_W} {S : St} {x1 : Int32} {r : Int32} (hf : fX3_allows S x1 = some r) : CI l yX3_allows wsX3_allows ({ frames := 1, cells := 0, slots := 0, locals := 21 } : Room) D cc ak av [.ref (ad 10), .int x1] (WX cc ad g S ++ E) (WX cc ad g S ++ E) r := by
  refine mkI (c0 := cX3_allows) (nL := 2) (own := RX3) rfl rfl (by decide) rfl rfl (Nat.le_of_ble_eq_true rfl) ?_
  intro p e s m args below meth c A Q ls F B hQ hl w
  have hx := F.1
  have hb := F.2.1
  have hown := F.2.2.2.1
  have hts := F.2.2.2.2
  have hl : lv_has ls 2 [(0, .ref (ad 10)), (1, .int x1)] := hl
  unfold fX3_allows at hf
  refine lv_aload_n hx hb dX3_allows_0 rfl (lv_at hl 0 rfl) ?_
  refine kget (v := .int (S.1 21)) F B w inX3_allows_3 10 gX_10 rfl 1 (by decide) (hts (.fieldLink RX3 24 "LandReform$Law" "ceiling" "I") (by decide +kernel)) rfl rfl dX3_allows_1 ?_
  refine lv_aload_n hx hb dX3_allows_4 rfl (lv_at hl 0 rfl) ?_
  refine kget (v := .int (S.1 22)) F B w inX3_allows_3 10 gX_10 rfl 2 (by decide) (hts (.fieldLink RX3 28 "LandReform$Law" "family" "I") (by decide +kernel)) rfl rfl dX3_allows_5 ?_
  refine lv_iconst (v := 0) hx hb dX3_allows_8 (by decide) ?_
  refine lv_iload_n hx hb dX3_allows_9 rfl (lv_at hl 1 rfl) ?_
  refine lv_iconst (v := 5) hx hb dX3_allows_10 (by decide) ?_
  refine lv_isub hx hb dX3_allows_11 ?_
  refine va_mmax hx hb (by rw [hl.1]; exact F.2.2.1) hown (hts (.methodLink RX3 61 Lib.Math.max.name) (by decide +kernel)) (hts (.static Lib.Math.max.name) (by decide +kernel)) (hts (.initialized "java/lang/Math") (by decide +kernel)) (hts (.code Lib.Math.max.name Lib.Math.max.code 2 (some .int)) (by decide +kernel)) (Nat.le_of_ble_eq_true rfl) (Nat.le_of_ble_eq_true rfl) (Nat.le_of_ble_eq_true rfl) (Nat.le_of_ble_eq_true rfl) dX3_allows_12 ?_
  refine lv_imul hx hb dX3_allows_15 ?_
  refine lv_iadd hx hb dX3_allows_16 ?_
  cases hf
  exact hQ _ _ _ _ dX3_allows_17 w

def fX3_exemptCrop (S : St) (x1 : Int32) : Option St := ob (fX10_isBelow x1 10) fun r1 => if r1 = 0 then (some S) else (lt_ (sS S 32 ((S.1 32) ||| ((1 : Int32) <<< (x1 &&& 31)))) fun S3 => some S3)
set_option maxRecDepth 20000 in
theorem inX3_exemptCrop_3 : ∀ w ∈ u_ws RX3 TX3 9, w ∈ wsX3_exemptCrop := by decide +kernel
set_option maxHeartbeats 4000000 in
set_option maxRecDepth 100000 in
theorem tX3_exemptCrop {l : Launch} {D : va_G} {cc : Nat → ClassId} {ak av : Nat → Nat} {ad : Nat → Nat} {g : Nat → Option Nat} {E : va_W} {S : St} {x1 : Int32} {S' : St} (hf : fX3_exemptCrop S x1 = some S') : CV l yX3_exemptCrop wsX3_exemptCrop ({ frames := 1, cells := 0, slots := 0, locals := 21 } : Room) D cc ak av [.ref (ad 11), .int x1] (WX cc ad g S ++ E) (WX cc ad g S' ++ E) := by
  refine mkV (c0 := cX3_exemptCrop) (nL := 2) (own := RX3) rfl rfl (by decide) rfl rfl (Nat.le_of_ble_eq_true rfl) ?_
  intro p e s m args below meth c A Q ls F B hQ hl w
  have hx := F.1
  have hb := F.2.1
  have hown := F.2.2.2.1
  have hts := F.2.2.2.2
  have hl : lv_has ls 2 [(0, .ref (ad 11)), (1, .int x1)] := hl
  unfold fX3_exemptCrop at hf
  refine lv_iload_n hx hb dX3_exemptCrop_0 rfl (lv_at hl 1 rfl) ?_
  refine lv_bipush (v := 10) hx hb dX3_exemptCrop_1 (by decide) ?_
  obtain ⟨r1, er1, hf⟩ := ob_e hf
  refine kSNi (As := [.int x1, .int 10]) (rest := []) F B w (tX10_isBelow er1) ⟨va_cnB 2 hts gX3_exemptCrop_X10_isBelow_n57 rfl rfl rfl (B.2.1.m 10 rfl) (hts (.initialized RX10) (by decide +kernel)) (by decide +kernel) ⟨Nat.le_of_ble_eq_true rfl, Nat.le_of_ble_eq_true rfl⟩, hts (.static yX10_isBelow) (by decide +kernel), trivial⟩ rfl hl.1 rfl (Nat.le_of_ble_eq_true rfl) dX3_exemptCrop_3 ⟨Nat.le_of_ble_eq_true rfl, Nat.le_of_ble_eq_true rfl⟩ (fun H locs w => ?_)
  refine lv_if_eq (tgt := 21) hx hb dX3_exemptCrop_6 (by decide) (fun c2 => ?_) (fun c2 => ?_)
  · have hf := if_t hf c2
    cases hf
    exact hQ _ _ _ _ dX3_exemptCrop_21 w
  · have hf := if_f hf c2
    refine lv_aload_n hx hb dX3_exemptCrop_9 rfl (lv_at hl 0 rfl) ?_
    refine lv_dup hx hb dX3_exemptCrop_10 rfl ?_
    refine kget (v := .int (S.1 32)) F B w inX3_exemptCrop_3 11 gX_11 rfl 4 (by decide) (hts (.fieldLink RX3 34 "LandReform$Law" "exemptCrops" "I") (by decide +kernel)) rfl rfl dX3_exemptCrop_11 ?_
    refine lv_iconst (v := 1) hx hb dX3_exemptCrop_14 (by decide) ?_
    refine lv_iload_n hx hb dX3_exemptCrop_15 rfl (lv_at hl 1 rfl) ?_
    refine lv_ishl hx hb dX3_exemptCrop_16 ?_
    refine lv_ior hx hb dX3_exemptCrop_17 ?_
    refine kput (ty := .int) F B w inX3_exemptCrop_3 tyX3 tyX3_ok nmX3 11 gX_11 rfl 4 (by decide) (hts (.fieldLink RX3 34 "LandReform$Law" "exemptCrops" "I") (by decide +kernel)) rfl rfl (by decide +kernel) rfl rfl (Nat.le_of_ble_eq_true rfl) pX_32 dX3_exemptCrop_18 (fun H locs w => ?_)
    obtain ⟨S3, eS3⟩ : ∃ z, z = sS S 32 ((S.1 32) ||| ((1 : Int32) <<< (x1 &&& 31))) := ⟨_, rfl⟩
    rw [← eS3] at w
    have hf := lt_e hf eS3
    cases hf
    exact hQ _ _ _ _ dX3_exemptCrop_21 w
