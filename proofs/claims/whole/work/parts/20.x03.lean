def fX2_ownerOf (S : St) (x1 : Int32) : Option Int32 := ob (fX2_has S x1) fun r1 => if r1 = 0 then (some (-1)) else (if x1 < 0 ∨ 60 ≤ Int32.toNatClampNeg x1 then none else some (S.2.1 7 (Int32.toNatClampNeg x1)))
set_option maxRecDepth 20000 in
theorem inX2_ownerOf_2 : ∀ w ∈ u_ws RX2 TX2 12, w ∈ wsX2_ownerOf := by decide +kernel
set_option maxHeartbeats 4000000 in
set_option maxRecDepth 100000 in
theorem tX2_ownerOf {l : Launch} {D : va_G} {cc : Nat → ClassId} {ak av : Nat → Nat} {ad : Nat → Nat} {g : Nat → Option Nat} {E : va_W} {S : St} {x1 : Int32} {r : Int32} (hf : fX2_ownerOf S x1 = some r) : CI l yX2_ownerOf wsX2_ownerOf ({ frames := 2, cells := 0, slots := 0, locals := 42 } : Room) D cc ak av [.ref (ad 2), .int x1] (WX cc ad g S ++ E) (WX cc ad g S ++ E) r := by
  refine mkI (c0 := cX2_ownerOf) (nL := 2) (own := RX2) rfl rfl (by decide) rfl rfl (Nat.le_of_ble_eq_true rfl) ?_
  intro p e s m args below meth c A Q ls F B hQ hl w
  have hx := F.1
  have hb := F.2.1
  have hown := F.2.2.2.1
  have hts := F.2.2.2.2
  have hl : lv_has ls 2 [(0, .ref (ad 2)), (1, .int x1)] := hl
  unfold fX2_ownerOf at hf
  refine lv_aload_n hx hb dX2_ownerOf_0 rfl (lv_at hl 0 rfl) ?_
  refine lv_iload_n hx hb dX2_ownerOf_1 rfl (lv_at hl 1 rfl) ?_
  obtain ⟨r1, er1, hf⟩ := ob_e hf
  refine kVi (As := [.int x1]) (rest := []) F B w (tX2_has er1) (cwV 1 hts gX2_ownerOf_X2_has rfl rfl rfl (by decide +kernel) ⟨Nat.le_of_ble_eq_true rfl, Nat.le_of_ble_eq_true rfl⟩) 2 gX_2 rfl rfl hl.1 rfl (Nat.le_of_ble_eq_true rfl) dX2_ownerOf_2 ⟨Nat.le_of_ble_eq_true rfl, Nat.le_of_ble_eq_true rfl⟩ (fun H locs w => ?_)
  refine lv_if_eq (tgt := 17) hx hb dX2_ownerOf_5 (by decide) (fun c2 => ?_) (fun c2 => ?_)
  · have hf := if_t hf c2
    refine lv_iconst (v := (-1)) hx hb dX2_ownerOf_17 (by decide) ?_
    cases hf
    exact hQ _ _ _ _ dX2_ownerOf_18 w
  · have hf := if_f hf c2
    refine lv_aload_n hx hb dX2_ownerOf_8 rfl (lv_at hl 0 rfl) ?_
    refine kget (v := .ref (ad 20)) F B w inX2_ownerOf_2 2 gX_2 rfl 5 (by decide) (hts (.fieldLink RX2 27 "LandReform$Land" "owners" "[I") (by decide +kernel)) rfl rfl dX2_ownerOf_9 ?_
    refine lv_iload_n hx hb dX2_ownerOf_12 rfl (lv_at hl 1 rfl) ?_
    obtain ⟨g3, hf⟩ := if_g hf
    refine kiald F B w 20 gX_20 g3 dX2_ownerOf_13 ?_
    refine lv_goto (tgt := 18) hx hb dX2_ownerOf_14 (by decide) ?_
    cases hf
    exact hQ _ _ _ _ dX2_ownerOf_18 w

def fX2_standardOf (S : St) (x1 : Int32) : Option Int32 := ob (fX2_areaOf S x1) fun r1 => ob (fX2_soilOf S x1) fun r2 => ob (fX3_soilIs S r2) fun r3 => some ((r1 * r3) / 10)
set_option maxHeartbeats 4000000 in
set_option maxRecDepth 100000 in
theorem tX2_standardOf {l : Launch} {D : va_G} {cc : Nat → ClassId} {ak av : Nat → Nat} {ad : Nat → Nat} {g : Nat → Option Nat} {E : va_W} {S : St} {x1 : Int32} {r : Int32} (hf : fX2_standardOf S x1 = some r) : CI l yX2_standardOf wsX2_standardOf ({ frames := 3, cells := 0, slots := 0, locals := 63 } : Room) D cc ak av [.ref (ad 2), .int x1, .ref (ad 10)] (WX cc ad g S ++ E) (WX cc ad g S ++ E) r := by
  refine mkI (c0 := cX2_standardOf) (nL := 3) (own := RX2) rfl rfl (by decide) rfl rfl (Nat.le_of_ble_eq_true rfl) ?_
  intro p e s m args below meth c A Q ls F B hQ hl w
  have hx := F.1
  have hb := F.2.1
  have hown := F.2.2.2.1
  have hts := F.2.2.2.2
  have hl : lv_has ls 3 [(0, .ref (ad 2)), (1, .int x1), (2, .ref (ad 10))] := hl
  unfold fX2_standardOf at hf
  refine lv_aload_n hx hb dX2_standardOf_0 rfl (lv_at hl 0 rfl) ?_
  refine lv_iload_n hx hb dX2_standardOf_1 rfl (lv_at hl 1 rfl) ?_
  obtain ⟨r1, er1, hf⟩ := ob_e hf
  refine kVi (As := [.int x1]) (rest := []) F B w (tX2_areaOf er1) (cwV 1 hts gX2_standardOf_X2_areaOf rfl rfl rfl (by decide +kernel) ⟨Nat.le_of_ble_eq_true rfl, Nat.le_of_ble_eq_true rfl⟩) 2 gX_2 rfl rfl hl.1 rfl (Nat.le_of_ble_eq_true rfl) dX2_standardOf_2 ⟨Nat.le_of_ble_eq_true rfl, Nat.le_of_ble_eq_true rfl⟩ (fun H locs w => ?_)
  refine lv_aload_n hx hb dX2_standardOf_5 rfl (lv_at hl 2 rfl) ?_
  refine lv_aload_n hx hb dX2_standardOf_6 rfl (lv_at hl 0 rfl) ?_
  refine lv_iload_n hx hb dX2_standardOf_7 rfl (lv_at hl 1 rfl) ?_
  obtain ⟨r2, er2, hf⟩ := ob_e hf
  refine kVi (As := [.int x1]) (rest := [.ref (ad 10), .int r1]) F B w (tX2_soilOf er2) (cwV 1 hts gX2_standardOf_X2_soilOf rfl rfl rfl (by decide +kernel) ⟨Nat.le_of_ble_eq_true rfl, Nat.le_of_ble_eq_true rfl⟩) 2 gX_2 rfl rfl hl.1 rfl (Nat.le_of_ble_eq_true rfl) dX2_standardOf_8 ⟨Nat.le_of_ble_eq_true rfl, Nat.le_of_ble_eq_true rfl⟩ (fun H locs w => ?_)
  obtain ⟨r3, er3, hf⟩ := ob_e hf
  refine kVi (As := [.int r2]) (rest := [.int r1]) F B w (tX3_soilIs er3) (cwV 1 hts gX2_standardOf_X3_soilIs rfl rfl rfl (by decide +kernel) ⟨Nat.le_of_ble_eq_true rfl, Nat.le_of_ble_eq_true rfl⟩) 10 gX_10 rfl rfl hl.1 rfl (Nat.le_of_ble_eq_true rfl) dX2_standardOf_11 ⟨Nat.le_of_ble_eq_true rfl, Nat.le_of_ble_eq_true rfl⟩ (fun H locs w => ?_)
  refine lv_imul hx hb dX2_standardOf_14 ?_
  refine lv_bipush (v := 10) hx hb dX2_standardOf_15 (by decide) ?_
  refine lv_idiv hx hb dX2_standardOf_17 (by decide) ?_
  cases hf
  exact hQ _ _ _ _ dX2_standardOf_18 w

def fX2_distance (S : St) (x1 : Int32) (x2 : Int32) : Option Int32 := ob (fX2_placeOf S x1) fun r1 => some (if (0 : Int32) ≤ (r1 - x2) then (r1 - x2) else 0 - (r1 - x2))
set_option maxHeartbeats 4000000 in
set_option maxRecDepth 100000 in
theorem tX2_distance {l : Launch} {D : va_G} {cc : Nat → ClassId} {ak av : Nat → Nat} {ad : Nat → Nat} {g : Nat → Option Nat} {E : va_W} {S : St} {x1 : Int32} {x2 : Int32} {r : Int32} (hf : fX2_distance S x1 x2 = some r) : CI l yX2_distance wsX2_distance ({ frames := 3, cells := 0, slots := 0, locals := 63 } : Room) D cc ak av [.ref (ad 2), .int x1, .int x2] (WX cc ad g S ++ E) (WX cc ad g S ++ E) r := by
  refine mkI (c0 := cX2_distance) (nL := 3) (own := RX2) rfl rfl (by decide) rfl rfl (Nat.le_of_ble_eq_true rfl) ?_
  intro p e s m args below meth c A Q ls F B hQ hl w
  have hx := F.1
  have hb := F.2.1
  have hown := F.2.2.2.1
  have hts := F.2.2.2.2
  have hl : lv_has ls 3 [(0, .ref (ad 2)), (1, .int x1), (2, .int x2)] := hl
  unfold fX2_distance at hf
  refine lv_aload_n hx hb dX2_distance_0 rfl (lv_at hl 0 rfl) ?_
  refine lv_iload_n hx hb dX2_distance_1 rfl (lv_at hl 1 rfl) ?_
  obtain ⟨r1, er1, hf⟩ := ob_e hf
  refine kVi (As := [.int x1]) (rest := []) F B w (tX2_placeOf er1) (cwV 1 hts gX2_distance_X2_placeOf rfl rfl rfl (by decide +kernel) ⟨Nat.le_of_ble_eq_true rfl, Nat.le_of_ble_eq_true rfl⟩) 2 gX_2 rfl rfl hl.1 rfl (Nat.le_of_ble_eq_true rfl) dX2_distance_2 ⟨Nat.le_of_ble_eq_true rfl, Nat.le_of_ble_eq_true rfl⟩ (fun H locs w => ?_)
  refine lv_iload_n hx hb dX2_distance_5 rfl (lv_at hl 2 rfl) ?_
  refine lv_isub hx hb dX2_distance_6 ?_
  refine va_mabs hx hb (by rw [hl.1]; exact F.2.2.1) hown (hts (.methodLink RX2 66 Lib.Math.abs.name) (by decide +kernel)) (hts (.static Lib.Math.abs.name) (by decide +kernel)) (hts (.initialized "java/lang/Math") (by decide +kernel)) (hts (.code Lib.Math.abs.name Lib.Math.abs.code 1 (some .int)) (by decide +kernel)) (Nat.le_of_ble_eq_true rfl) (Nat.le_of_ble_eq_true rfl) (Nat.le_of_ble_eq_true rfl) (Nat.le_of_ble_eq_true rfl) dX2_distance_7 ?_
  cases hf
  exact hQ _ _ _ _ dX2_distance_10 w

def fX2_transfersLeft (S : St) : Option Int32 := some ((200 : Int32) - (S.1 4))
set_option maxRecDepth 20000 in
theorem inX2_transfersLeft_2 : ∀ w ∈ u_ws RX2 TX2 12, w ∈ wsX2_transfersLeft := by decide +kernel
set_option maxHeartbeats 4000000 in
set_option maxRecDepth 100000 in
theorem tX2_transfersLeft {l : Launch} {D : va_G} {cc : Nat → ClassId} {ak av : Nat → Nat} {ad : Nat → Nat} {g : Nat → Option Nat} {E : va_W} {S : St} {r : Int32} (hf : fX2_transfersLeft S = some r) : CI l yX2_transfersLeft wsX2_transfersLeft ({ frames := 0, cells := 0, slots := 0, locals := 0 } : Room) D cc ak av [.ref (ad 2)] (WX cc ad g S ++ E) (WX cc ad g S ++ E) r := by
  refine mkI (c0 := cX2_transfersLeft) (nL := 1) (own := RX2) rfl rfl (by decide) rfl rfl (Nat.le_of_ble_eq_true rfl) ?_
  intro p e s m args below meth c A Q ls F B hQ hl w
  have hx := F.1
  have hb := F.2.1
  have hown := F.2.2.2.1
  have hts := F.2.2.2.2
  have hl : lv_has ls 1 [(0, .ref (ad 2))] := hl
  unfold fX2_transfersLeft at hf
  refine lv_sipush (v := 200) hx hb dX2_transfersLeft_0 (by decide) ?_
  refine lv_aload_n hx hb dX2_transfersLeft_3 rfl (lv_at hl 0 rfl) ?_
  refine kget (v := .int (S.1 4)) F B w inX2_transfersLeft_2 2 gX_2 rfl 10 (by decide) (hts (.fieldLink RX2 71 "LandReform$Land" "transfers" "I") (by decide +kernel)) rfl rfl dX2_transfersLeft_4 ?_
  refine lv_isub hx hb dX2_transfersLeft_7 ?_
  cases hf
  exact hQ _ _ _ _ dX2_transfersLeft_8 w

def fX2_add (S : St) (x1 : Int32) (x2 : Int32) (x3 : Int32) (x4 : Int32) (x5 : Int32) : Option (Int32 × St) := if (S.1 3) < 60 then (if (S.1 3) < 0 ∨ 60 ≤ Int32.toNatClampNeg (S.1 3) then none else lt_ (sA S 2 (Int32.toNatClampNeg (S.1 3)) x1) fun S3 => if (S3.1 3) < 0 ∨ 60 ≤ Int32.toNatClampNeg (S3.1 3) then none else lt_ (sA S3 3 (Int32.toNatClampNeg (S3.1 3)) x2) fun S5 => if (S5.1 3) < 0 ∨ 60 ≤ Int32.toNatClampNeg (S5.1 3) then none else lt_ (sA S5 4 (Int32.toNatClampNeg (S5.1 3)) x3) fun S7 => if (S7.1 3) < 0 ∨ 60 ≤ Int32.toNatClampNeg (S7.1 3) then none else lt_ (sA S7 5 (Int32.toNatClampNeg (S7.1 3)) x4) fun S9 => if (S9.1 3) < 0 ∨ 60 ≤ Int32.toNatClampNeg (S9.1 3) then none else lt_ (sA S9 6 (Int32.toNatClampNeg (S9.1 3)) x5) fun S11 => if (S11.1 3) < 0 ∨ 60 ≤ Int32.toNatClampNeg (S11.1 3) then none else lt_ (sA S11 7 (Int32.toNatClampNeg (S11.1 3)) x5) fun S13 => lt_ (sS S13 3 ((S13.1 3) + 1)) fun S14 => some (((S14.1 3) - 1), S14)) else (some ((-1), S))
set_option maxRecDepth 20000 in
theorem inX2_add_2 : ∀ w ∈ u_ws RX2 TX2 12, w ∈ wsX2_add := by decide +kernel
set_option maxHeartbeats 4000000 in
set_option maxRecDepth 100000 in
theorem tX2_add {l : Launch} {D : va_G} {cc : Nat → ClassId} {ak av : Nat → Nat} {ad : Nat → Nat} {g : Nat → Option Nat} {E : va_W} {S : St} {x1 : Int32} {x2 : Int32} {x3 : Int32} {x4 : Int32} {x5 : Int32} {r : Int32} {S' : St} (hf : fX2_add S x1 x2 x3 x4 x5 = some (r, S')) : CI l yX2_add wsX2_add ({ frames := 0, cells := 0, slots := 0, locals := 0 } : Room) D cc ak av [.ref (ad 2), .int x1, .int x2, .int x3, .int x4, .int x5] (WX cc ad g S ++ E) (WX cc ad g S' ++ E) r := by
  refine mkI (c0 := cX2_add) (nL := 6) (own := RX2) rfl rfl (by decide) rfl rfl (Nat.le_of_ble_eq_true rfl) ?_
  intro p e s m args below meth c A Q ls F B hQ hl w
  have hx := F.1
  have hb := F.2.1
  have hown := F.2.2.2.1
  have hts := F.2.2.2.2
  have hl : lv_has ls 6 [(0, .ref (ad 2)), (1, .int x1), (2, .int x2), (3, .int x3), (4, .int x4), (5, .int x5)] := hl
  unfold fX2_add at hf
  refine lv_aload_n hx hb dX2_add_0 rfl (lv_at hl 0 rfl) ?_
  refine kget (v := .int (S.1 3)) F B w inX2_add_2 2 gX_2 rfl 6 (by decide) (hts (.fieldLink RX2 39 "LandReform$Land" "size" "I") (by decide +kernel)) rfl rfl dX2_add_1 ?_
  refine lv_bipush (v := 60) hx hb dX2_add_4 (by decide) ?_
  refine lv_icmp_lt (tgt := 11) hx hb dX2_add_6 (by decide) (fun c1 => ?_) (fun c1 => ?_)
  · have hf := if_t hf c1
    refine lv_aload_n hx hb dX2_add_11 rfl (lv_at hl 0 rfl) ?_
    refine kget (v := .ref (ad 15)) F B w inX2_add_2 2 gX_2 rfl 0 (by decide) (hts (.fieldLink RX2 9 "LandReform$Land" "places" "[I") (by decide +kernel)) rfl rfl dX2_add_12 ?_
    refine lv_aload_n hx hb dX2_add_15 rfl (lv_at hl 0 rfl) ?_
    refine kget (v := .int (S.1 3)) F B w inX2_add_2 2 gX_2 rfl 6 (by decide) (hts (.fieldLink RX2 39 "LandReform$Land" "size" "I") (by decide +kernel)) rfl rfl dX2_add_16 ?_
    refine lv_iload_n hx hb dX2_add_19 rfl (lv_at hl 1 rfl) ?_
    obtain ⟨g2, hf⟩ := if_g hf
    refine kiast F B w 15 gX_15 g2 bX_15 dX2_add_20 (fun H locs w => ?_)
    obtain ⟨S3, eS3⟩ : ∃ z, z = sA S 2 (Int32.toNatClampNeg (S.1 3)) x1 := ⟨_, rfl⟩
    rw [← eS3] at w
    have hf := lt_e hf eS3
    refine lv_aload_n hx hb dX2_add_21 rfl (lv_at hl 0 rfl) ?_
    refine kget (v := .ref (ad 16)) F B w inX2_add_2 2 gX_2 rfl 1 (by decide) (hts (.fieldLink RX2 15 "LandReform$Land" "areas" "[I") (by decide +kernel)) rfl rfl dX2_add_22 ?_
    refine lv_aload_n hx hb dX2_add_25 rfl (lv_at hl 0 rfl) ?_
    refine kget (v := .int (S3.1 3)) F B w inX2_add_2 2 gX_2 rfl 6 (by decide) (hts (.fieldLink RX2 39 "LandReform$Land" "size" "I") (by decide +kernel)) rfl rfl dX2_add_26 ?_
    refine lv_iload_n hx hb dX2_add_29 rfl (lv_at hl 2 rfl) ?_
    obtain ⟨g4, hf⟩ := if_g hf
    refine kiast F B w 16 gX_16 g4 bX_16 dX2_add_30 (fun H locs w => ?_)
    obtain ⟨S5, eS5⟩ : ∃ z, z = sA S3 3 (Int32.toNatClampNeg (S3.1 3)) x2 := ⟨_, rfl⟩
    rw [← eS5] at w
    have hf := lt_e hf eS5
    refine lv_aload_n hx hb dX2_add_31 rfl (lv_at hl 0 rfl) ?_
    refine kget (v := .ref (ad 17)) F B w inX2_add_2 2 gX_2 rfl 2 (by decide) (hts (.fieldLink RX2 18 "LandReform$Land" "soils" "[I") (by decide +kernel)) rfl rfl dX2_add_32 ?_
    refine lv_aload_n hx hb dX2_add_35 rfl (lv_at hl 0 rfl) ?_
    refine kget (v := .int (S5.1 3)) F B w inX2_add_2 2 gX_2 rfl 6 (by decide) (hts (.fieldLink RX2 39 "LandReform$Land" "size" "I") (by decide +kernel)) rfl rfl dX2_add_36 ?_
    refine lv_iload_n hx hb dX2_add_39 rfl (lv_at hl 3 rfl) ?_
    obtain ⟨g6, hf⟩ := if_g hf
    refine kiast F B w 17 gX_17 g6 bX_17 dX2_add_40 (fun H locs w => ?_)
    obtain ⟨S7, eS7⟩ : ∃ z, z = sA S5 4 (Int32.toNatClampNeg (S5.1 3)) x3 := ⟨_, rfl⟩
    rw [← eS7] at w
    have hf := lt_e hf eS7
    refine lv_aload_n hx hb dX2_add_41 rfl (lv_at hl 0 rfl) ?_
    refine kget (v := .ref (ad 18)) F B w inX2_add_2 2 gX_2 rfl 3 (by decide) (hts (.fieldLink RX2 21 "LandReform$Land" "crops" "[I") (by decide +kernel)) rfl rfl dX2_add_42 ?_
    refine lv_aload_n hx hb dX2_add_45 rfl (lv_at hl 0 rfl) ?_
    refine kget (v := .int (S7.1 3)) F B w inX2_add_2 2 gX_2 rfl 6 (by decide) (hts (.fieldLink RX2 39 "LandReform$Land" "size" "I") (by decide +kernel)) rfl rfl dX2_add_46 ?_
    refine lv_iload hx hb dX2_add_49 (lv_at hl 4 rfl) ?_
    obtain ⟨g8, hf⟩ := if_g hf
    refine kiast F B w 18 gX_18 g8 bX_18 dX2_add_51 (fun H locs w => ?_)
    obtain ⟨S9, eS9⟩ : ∃ z, z = sA S7 5 (Int32.toNatClampNeg (S7.1 3)) x4 := ⟨_, rfl⟩
    rw [← eS9] at w
    have hf := lt_e hf eS9
    refine lv_aload_n hx hb dX2_add_52 rfl (lv_at hl 0 rfl) ?_
    refine kget (v := .ref (ad 19)) F B w inX2_add_2 2 gX_2 rfl 4 (by decide) (hts (.fieldLink RX2 24 "LandReform$Land" "firstOwners" "[I") (by decide +kernel)) rfl rfl dX2_add_53 ?_
    refine lv_aload_n hx hb dX2_add_56 rfl (lv_at hl 0 rfl) ?_
    refine kget (v := .int (S9.1 3)) F B w inX2_add_2 2 gX_2 rfl 6 (by decide) (hts (.fieldLink RX2 39 "LandReform$Land" "size" "I") (by decide +kernel)) rfl rfl dX2_add_57 ?_
    refine lv_iload hx hb dX2_add_60 (lv_at hl 5 rfl) ?_
    obtain ⟨g10, hf⟩ := if_g hf
    refine kiast F B w 19 gX_19 g10 bX_19 dX2_add_62 (fun H locs w => ?_)
    obtain ⟨S11, eS11⟩ : ∃ z, z = sA S9 6 (Int32.toNatClampNeg (S9.1 3)) x5 := ⟨_, rfl⟩
    rw [← eS11] at w
    have hf := lt_e hf eS11
    refine lv_aload_n hx hb dX2_add_63 rfl (lv_at hl 0 rfl) ?_
    refine kget (v := .ref (ad 20)) F B w inX2_add_2 2 gX_2 rfl 5 (by decide) (hts (.fieldLink RX2 27 "LandReform$Land" "owners" "[I") (by decide +kernel)) rfl rfl dX2_add_64 ?_
    refine lv_aload_n hx hb dX2_add_67 rfl (lv_at hl 0 rfl) ?_
    refine kget (v := .int (S11.1 3)) F B w inX2_add_2 2 gX_2 rfl 6 (by decide) (hts (.fieldLink RX2 39 "LandReform$Land" "size" "I") (by decide +kernel)) rfl rfl dX2_add_68 ?_
    refine lv_iload hx hb dX2_add_71 (lv_at hl 5 rfl) ?_
    obtain ⟨g12, hf⟩ := if_g hf
    refine kiast F B w 20 gX_20 g12 bX_20 dX2_add_73 (fun H locs w => ?_)
    obtain ⟨S13, eS13⟩ : ∃ z, z = sA S11 7 (Int32.toNatClampNeg (S11.1 3)) x5 := ⟨_, rfl⟩
    rw [← eS13] at w
    have hf := lt_e hf eS13
    refine lv_aload_n hx hb dX2_add_74 rfl (lv_at hl 0 rfl) ?_
    refine lv_dup hx hb dX2_add_75 rfl ?_
    refine kget (v := .int (S13.1 3)) F B w inX2_add_2 2 gX_2 rfl 6 (by decide) (hts (.fieldLink RX2 39 "LandReform$Land" "size" "I") (by decide +kernel)) rfl rfl dX2_add_76 ?_
    refine lv_iconst (v := 1) hx hb dX2_add_79 (by decide) ?_
    refine lv_iadd hx hb dX2_add_80 ?_
    refine kput (ty := .int) F B w inX2_add_2 tyX2 tyX2_ok nmX2 2 gX_2 rfl 6 (by decide) (hts (.fieldLink RX2 39 "LandReform$Land" "size" "I") (by decide +kernel)) rfl rfl (by decide +kernel) rfl rfl (Nat.le_of_ble_eq_true rfl) pX_3 dX2_add_81 (fun H locs w => ?_)
    obtain ⟨S14, eS14⟩ : ∃ z, z = sS S13 3 ((S13.1 3) + 1) := ⟨_, rfl⟩
    rw [← eS14] at w
    have hf := lt_e hf eS14
    refine lv_aload_n hx hb dX2_add_84 rfl (lv_at hl 0 rfl) ?_
    refine kget (v := .int (S14.1 3)) F B w inX2_add_2 2 gX_2 rfl 6 (by decide) (hts (.fieldLink RX2 39 "LandReform$Land" "size" "I") (by decide +kernel)) rfl rfl dX2_add_85 ?_
    refine lv_iconst (v := 1) hx hb dX2_add_88 (by decide) ?_
    refine lv_isub hx hb dX2_add_89 ?_
    cases hf
    exact hQ _ _ _ _ dX2_add_90 w
  · have hf := if_f hf c1
    refine lv_iconst (v := (-1)) hx hb dX2_add_9 (by decide) ?_
    cases hf
    exact hQ _ _ _ _ dX2_add_10 w

def fX2_move (S : St) (x1 : Int32) (x2 : Int32) : Option St := ob (fX2_has S x1) fun r1 => if r1 = 0 then (some S) else (if (S.1 4) < 200 then (if (S.1 4) < 0 ∨ 200 ≤ Int32.toNatClampNeg (S.1 4) then none else lt_ (sA S 8 (Int32.toNatClampNeg (S.1 4)) x1) fun S5 => if (S5.1 4) < 0 ∨ 200 ≤ Int32.toNatClampNeg (S5.1 4) then none else lt_ (sA S5 9 (Int32.toNatClampNeg (S5.1 4)) x2) fun S7 => if (S7.1 4) < 0 ∨ 200 ≤ Int32.toNatClampNeg (S7.1 4) then none else lt_ (sA S7 10 (Int32.toNatClampNeg (S7.1 4)) (S7.1 5)) fun S9 => lt_ (sS S9 4 ((S9.1 4) + 1)) fun S10 => if x1 < 0 ∨ 60 ≤ Int32.toNatClampNeg x1 then none else lt_ (sA S10 7 (Int32.toNatClampNeg x1) x2) fun S12 => some S12) else (some S))
set_option maxRecDepth 20000 in
theorem inX2_move_2 : ∀ w ∈ u_ws RX2 TX2 12, w ∈ wsX2_move := by decide +kernel
set_option maxHeartbeats 4000000 in
set_option maxRecDepth 100000 in
theorem tX2_move {l : Launch} {D : va_G} {cc : Nat → ClassId} {ak av : Nat → Nat} {ad : Nat → Nat} {g : Nat → Option Nat} {E : va_W} {S : St} {x1 : Int32} {x2 : Int32} {S' : St} (hf : fX2_move S x1 x2 = some S') : CV l yX2_move wsX2_move ({ frames := 2, cells := 0, slots := 0, locals := 42 } : Room) D cc ak av [.ref (ad 2), .int x1, .int x2] (WX cc ad g S ++ E) (WX cc ad g S' ++ E) := by
  refine mkV (c0 := cX2_move) (nL := 3) (own := RX2) rfl rfl (by decide) rfl rfl (Nat.le_of_ble_eq_true rfl) ?_
  intro p e s m args below meth c A Q ls F B hQ hl w
  have hx := F.1
  have hb := F.2.1
  have hown := F.2.2.2.1
  have hts := F.2.2.2.2
  have hl : lv_has ls 3 [(0, .ref (ad 2)), (1, .int x1), (2, .int x2)] := hl
  unfold fX2_move at hf
  refine lv_aload_n hx hb dX2_move_0 rfl (lv_at hl 0 rfl) ?_
  refine lv_iload_n hx hb dX2_move_1 rfl (lv_at hl 1 rfl) ?_
  obtain ⟨r1, er1, hf⟩ := ob_e hf
  refine kVi (As := [.int x1]) (rest := []) F B w (tX2_has er1) (cwV 1 hts gX2_move_X2_has rfl rfl rfl (by decide +kernel) ⟨Nat.le_of_ble_eq_true rfl, Nat.le_of_ble_eq_true rfl⟩) 2 gX_2 rfl rfl hl.1 rfl (Nat.le_of_ble_eq_true rfl) dX2_move_2 ⟨Nat.le_of_ble_eq_true rfl, Nat.le_of_ble_eq_true rfl⟩ (fun H locs w => ?_)
  refine lv_if_eq (tgt := 18) hx hb dX2_move_5 (by decide) (fun c2 => ?_) (fun c2 => ?_)
  · have hf := if_t hf c2
    cases hf
    exact hQ _ _ _ _ dX2_move_18 w
  · have hf := if_f hf c2
    refine lv_aload_n hx hb dX2_move_8 rfl (lv_at hl 0 rfl) ?_
    refine kget (v := .int (S.1 4)) F B w inX2_move_2 2 gX_2 rfl 10 (by decide) (hts (.fieldLink RX2 71 "LandReform$Land" "transfers" "I") (by decide +kernel)) rfl rfl dX2_move_9 ?_
    refine lv_sipush (v := 200) hx hb dX2_move_12 (by decide) ?_
    refine lv_icmp_lt (tgt := 19) hx hb dX2_move_15 (by decide) (fun c3 => ?_) (fun c3 => ?_)
    · have hf := if_t hf c3
      refine lv_aload_n hx hb dX2_move_19 rfl (lv_at hl 0 rfl) ?_
      refine kget (v := .ref (ad 21)) F B w inX2_move_2 2 gX_2 rfl 7 (by decide) (hts (.fieldLink RX2 30 "LandReform$Land" "movedFields" "[I") (by decide +kernel)) rfl rfl dX2_move_20 ?_
      refine lv_aload_n hx hb dX2_move_23 rfl (lv_at hl 0 rfl) ?_
      refine kget (v := .int (S.1 4)) F B w inX2_move_2 2 gX_2 rfl 10 (by decide) (hts (.fieldLink RX2 71 "LandReform$Land" "transfers" "I") (by decide +kernel)) rfl rfl dX2_move_24 ?_
      refine lv_iload_n hx hb dX2_move_27 rfl (lv_at hl 1 rfl) ?_
      obtain ⟨g4, hf⟩ := if_g hf
      refine kiast F B w 21 gX_21 g4 bX_21 dX2_move_28 (fun H locs w => ?_)
      obtain ⟨S5, eS5⟩ : ∃ z, z = sA S 8 (Int32.toNatClampNeg (S.1 4)) x1 := ⟨_, rfl⟩
      rw [← eS5] at w
      have hf := lt_e hf eS5
      refine lv_aload_n hx hb dX2_move_29 rfl (lv_at hl 0 rfl) ?_
      refine kget (v := .ref (ad 22)) F B w inX2_move_2 2 gX_2 rfl 8 (by decide) (hts (.fieldLink RX2 33 "LandReform$Land" "receivers" "[I") (by decide +kernel)) rfl rfl dX2_move_30 ?_
      refine lv_aload_n hx hb dX2_move_33 rfl (lv_at hl 0 rfl) ?_
      refine kget (v := .int (S5.1 4)) F B w inX2_move_2 2 gX_2 rfl 10 (by decide) (hts (.fieldLink RX2 71 "LandReform$Land" "transfers" "I") (by decide +kernel)) rfl rfl dX2_move_34 ?_
      refine lv_iload_n hx hb dX2_move_37 rfl (lv_at hl 2 rfl) ?_
      obtain ⟨g6, hf⟩ := if_g hf
      refine kiast F B w 22 gX_22 g6 bX_22 dX2_move_38 (fun H locs w => ?_)
      obtain ⟨S7, eS7⟩ : ∃ z, z = sA S5 9 (Int32.toNatClampNeg (S5.1 4)) x2 := ⟨_, rfl⟩
      rw [← eS7] at w
      have hf := lt_e hf eS7
      refine lv_aload_n hx hb dX2_move_39 rfl (lv_at hl 0 rfl) ?_
      refine kget (v := .ref (ad 23)) F B w inX2_move_2 2 gX_2 rfl 9 (by decide) (hts (.fieldLink RX2 36 "LandReform$Land" "days" "[I") (by decide +kernel)) rfl rfl dX2_move_40 ?_
      refine lv_aload_n hx hb dX2_move_43 rfl (lv_at hl 0 rfl) ?_
      refine kget (v := .int (S7.1 4)) F B w inX2_move_2 2 gX_2 rfl 10 (by decide) (hts (.fieldLink RX2 71 "LandReform$Land" "transfers" "I") (by decide +kernel)) rfl rfl dX2_move_44 ?_
      refine lv_aload_n hx hb dX2_move_47 rfl (lv_at hl 0 rfl) ?_
      refine kget (v := .int (S7.1 5)) F B w inX2_move_2 2 gX_2 rfl 11 (by decide) (hts (.fieldLink RX2 74 "LandReform$Land" "today" "I") (by decide +kernel)) rfl rfl dX2_move_48 ?_
      obtain ⟨g8, hf⟩ := if_g hf
      refine kiast F B w 23 gX_23 g8 bX_23 dX2_move_51 (fun H locs w => ?_)
      obtain ⟨S9, eS9⟩ : ∃ z, z = sA S7 10 (Int32.toNatClampNeg (S7.1 4)) (S7.1 5) := ⟨_, rfl⟩
      rw [← eS9] at w
      have hf := lt_e hf eS9
      refine lv_aload_n hx hb dX2_move_52 rfl (lv_at hl 0 rfl) ?_
      refine lv_dup hx hb dX2_move_53 rfl ?_
      refine kget (v := .int (S9.1 4)) F B w inX2_move_2 2 gX_2 rfl 10 (by decide) (hts (.fieldLink RX2 71 "LandReform$Land" "transfers" "I") (by decide +kernel)) rfl rfl dX2_move_54 ?_
      refine lv_iconst (v := 1) hx hb dX2_move_57 (by decide) ?_
      refine lv_iadd hx hb dX2_move_58 ?_
      refine kput (ty := .int) F B w inX2_move_2 tyX2 tyX2_ok nmX2 2 gX_2 rfl 10 (by decide) (hts (.fieldLink RX2 71 "LandReform$Land" "transfers" "I") (by decide +kernel)) rfl rfl (by decide +kernel) rfl rfl (Nat.le_of_ble_eq_true rfl) pX_4 dX2_move_59 (fun H locs w => ?_)
      obtain ⟨S10, eS10⟩ : ∃ z, z = sS S9 4 ((S9.1 4) + 1) := ⟨_, rfl⟩
      rw [← eS10] at w
      have hf := lt_e hf eS10
      refine lv_aload_n hx hb dX2_move_62 rfl (lv_at hl 0 rfl) ?_
      refine kget (v := .ref (ad 20)) F B w inX2_move_2 2 gX_2 rfl 5 (by decide) (hts (.fieldLink RX2 27 "LandReform$Land" "owners" "[I") (by decide +kernel)) rfl rfl dX2_move_63 ?_
      refine lv_iload_n hx hb dX2_move_66 rfl (lv_at hl 1 rfl) ?_
      refine lv_iload_n hx hb dX2_move_67 rfl (lv_at hl 2 rfl) ?_
      obtain ⟨g11, hf⟩ := if_g hf
      refine kiast F B w 20 gX_20 g11 bX_20 dX2_move_68 (fun H locs w => ?_)
      obtain ⟨S12, eS12⟩ : ∃ z, z = sA S10 7 (Int32.toNatClampNeg x1) x2 := ⟨_, rfl⟩
      rw [← eS12] at w
      have hf := lt_e hf eS12
      cases hf
      exact hQ _ _ _ _ dX2_move_69 w
    · have hf := if_f hf c3
      cases hf
      exact hQ _ _ _ _ dX2_move_18 w

def fX2_transfersOf_L4 (n : Nat) (x1 : Int32) (S : St) (k : Int32 → Int32 → Option Int32) : Nat → Int32 → Int32 → Option Int32
  | 0, _, _ => none
  | fu + 1, x2, x3 => if (S.1 4) ≤ x3 then (k x2 x3) else (if x3 < 0 ∨ 200 ≤ Int32.toNatClampNeg x3 then none else if (S.2.1 8 (Int32.toNatClampNeg x3)) = x1 then (fX2_transfersOf_L4 n x1 S k fu (x2 + 1) (x3 + 1)) else (fX2_transfersOf_L4 n x1 S k fu x2 (x3 + 1)))
def fX2_transfersOf (n : Nat) (S : St) (x1 : Int32) : Option Int32 := fX2_transfersOf_L4 n x1 S (fun x4 x5 => some x4) n 0 0
set_option maxRecDepth 20000 in
theorem inX2_transfersOf_2 : ∀ w ∈ u_ws RX2 TX2 12, w ∈ wsX2_transfersOf := by decide +kernel
set_option maxHeartbeats 4000000 in
set_option maxRecDepth 100000 in
theorem wX2_transfersOf_L4 {p : Program} {l : Launch} {e : Env} {s : State} {m : MethodId} {args : Array Value} {below : List Frame} {meth : Method} {c : Code} {Q : State → Prop} {D : va_G} {cc : Nat → ClassId} {ak av : Nat → Nat} {A : Nat → Prop} {ad : Nat → Nat} {g : Nat → Option Nat} {E : va_W} {n : Nat} {x1 : Int32} {S : St} {r : Int32} {k : Int32 → Int32 → Option Int32} (F : CallFix p m c cX2_transfersOf 4 s args wsX2_transfersOf RX2) (B : Bd D cc ak av A s) (hQ : RetI p l e ({ frames := 0, cells := 0, slots := 0, locals := 0 } : Room) s m args below meth c D A Q cX2_transfersOf (WX cc ad g S ++ E) r)
    (hk : ∀ (x2 : Int32) (x3 : Int32) (H : Heap) (locs : List Loc) (ls : Array Slot), Wd D A s.heap H locs (WX cc ad g S ++ E) → lv_has ls 4 [(0, .ref (ad 2)), (1, .int x1), (2, .int x2), (3, .int x3)] → k x2 x3 = some r → W p l e ({ frames := 0, cells := 0, slots := 0, locals := 0 } : Room) s m args below meth c H locs 0 0 Q (F0 m 31 ls [])) :
    ∀ (fu : Nat) (x2 : Int32) (x3 : Int32) (H : Heap) (locs : List Loc) (ls : Array Slot), Wd D A s.heap H locs (WX cc ad g S ++ E) → lv_has ls 4 [(0, .ref (ad 2)), (1, .int x1), (2, .int x2), (3, .int x3)] → fX2_transfersOf_L4 n x1 S k fu x2 x3 = some r → W p l e ({ frames := 0, cells := 0, slots := 0, locals := 0 } : Room) s m args below meth c H locs 0 0 Q (F0 m 4 ls []) := by
  have hx := F.1
  have hb := F.2.1
  have hown := F.2.2.2.1
  have hts := F.2.2.2.2
  intro fu
  induction fu with
  | zero => intro x2 x3 H locs ls w hl hf; rw [fX2_transfersOf_L4] at hf; cases hf
  | succ fu ih =>
    intro x2 x3 H locs ls w hl hf
    rw [fX2_transfersOf_L4] at hf
    refine lv_iload_n hx hb dX2_transfersOf_4 rfl (lv_at hl 3 rfl) ?_
    refine lv_aload_n hx hb dX2_transfersOf_5 rfl (lv_at hl 0 rfl) ?_
    refine kget (v := .int (S.1 4)) F B w inX2_transfersOf_2 2 gX_2 rfl 10 (by decide) (hts (.fieldLink RX2 71 "LandReform$Land" "transfers" "I") (by decide +kernel)) rfl rfl dX2_transfersOf_6 ?_
    refine lv_icmp_ge (tgt := 31) hx hb dX2_transfersOf_9 (by decide) (fun c1 => ?_) (fun c1 => ?_)
    · have hf := if_t hf c1
      exact hk _ _ _ _ _ w (lv_sub hl [0, 1, 2, 3] rfl) hf
    · have hf := if_f hf c1
      refine lv_aload_n hx hb dX2_transfersOf_12 rfl (lv_at hl 0 rfl) ?_
      refine kget (v := .ref (ad 21)) F B w inX2_transfersOf_2 2 gX_2 rfl 7 (by decide) (hts (.fieldLink RX2 30 "LandReform$Land" "movedFields" "[I") (by decide +kernel)) rfl rfl dX2_transfersOf_13 ?_
      refine lv_iload_n hx hb dX2_transfersOf_16 rfl (lv_at hl 3 rfl) ?_
      obtain ⟨g2, hf⟩ := if_g hf
      refine kiald F B w 21 gX_21 g2 dX2_transfersOf_17 ?_
      refine lv_iload_n hx hb dX2_transfersOf_18 rfl (lv_at hl 1 rfl) ?_
      refine lv_icmp_ne (tgt := 25) hx hb dX2_transfersOf_19 (by decide) (fun c3 => ?_) (fun c3 => ?_)
      · have hf := if_f hf c3
        refine lv_iinc (v := (x3 + 1)) (lv' := [(3, .int (x3 + 1)), (0, .ref (ad 2)), (1, .int x1), (2, .int x2)]) hx hb dX2_transfersOf_25 hl (k := 3) rfl rfl (by decide) rfl (fun ls hl => ?_)
        refine lv_goto (tgt := 4) hx hb dX2_transfersOf_28 (by decide) ?_
        exact ih _ _ _ _ _ w (lv_sub hl [1, 2, 3, 0] rfl) hf
      · have hf := if_t hf c3
        refine lv_iinc (v := (x2 + 1)) (lv' := [(2, .int (x2 + 1)), (0, .ref (ad 2)), (1, .int x1), (3, .int x3)]) hx hb dX2_transfersOf_22 hl (k := 2) rfl rfl (by decide) rfl (fun ls hl => ?_)
        refine lv_iinc (v := (x3 + 1)) (lv' := [(3, .int (x3 + 1)), (2, .int (x2 + 1)), (0, .ref (ad 2)), (1, .int x1)]) hx hb dX2_transfersOf_25 hl (k := 3) rfl rfl (by decide) rfl (fun ls hl => ?_)
        refine lv_goto (tgt := 4) hx hb dX2_transfersOf_28 (by decide) ?_
        exact ih _ _ _ _ _ w (lv_sub hl [2, 3, 1, 0] rfl) hf
set_option maxHeartbeats 4000000 in
set_option maxRecDepth 100000 in
theorem tX2_transfersOf {l : Launch} {D : va_G} {cc : Nat → ClassId} {ak av : Nat → Nat} {ad : Nat → Nat} {g : Nat → Option Nat} {E : va_W} {n : Nat} {S : St} {x1 : Int32} {r : Int32} (hf : fX2_transfersOf n S x1 = some r) : CI l yX2_transfersOf wsX2_transfersOf ({ frames := 0, cells := 0, slots := 0, locals := 0 } : Room) D cc ak av [.ref (ad 2), .int x1] (WX cc ad g S ++ E) (WX cc ad g S ++ E) r := by
  refine mkI (c0 := cX2_transfersOf) (nL := 4) (own := RX2) rfl rfl (by decide) rfl rfl (Nat.le_of_ble_eq_true rfl) ?_
  intro p e s m args below meth c A Q ls F B hQ hl w
  have hx := F.1
  have hb := F.2.1
  have hown := F.2.2.2.1
  have hts := F.2.2.2.2
  have hl : lv_has ls 4 [(0, .ref (ad 2)), (1, .int x1)] := hl
  unfold fX2_transfersOf at hf
  refine lv_iconst (v := 0) hx hb dX2_transfersOf_0 (by decide) ?_
  refine lv_istore_n (lv' := [(2, .int 0), (0, .ref (ad 2)), (1, .int x1)]) hx hb dX2_transfersOf_1 rfl hl (by decide) rfl (fun ls hl => ?_)
  refine lv_iconst (v := 0) hx hb dX2_transfersOf_2 (by decide) ?_
  refine lv_istore_n (lv' := [(3, .int 0), (2, .int 0), (0, .ref (ad 2)), (1, .int x1)]) hx hb dX2_transfersOf_3 rfl hl (by decide) rfl (fun ls hl => ?_)
  refine wX2_transfersOf_L4 F B hQ (fun x4 x5 H locs ls w hl hf => ?_) n _ _ _ _ _ w (lv_sub hl [2, 3, 1, 0] rfl) hf
  refine lv_iload_n hx hb dX2_transfersOf_31 rfl (lv_at hl 2 rfl) ?_
  cases hf
  exact hQ _ _ _ _ dX2_transfersOf_32 w

def fX2_ownerAsDayEnded_L22 (n : Nat) (x1 : Int32) (x2 : Int32) (S : St) (k : Int32 → Int32 → Option Int32) : Nat → Int32 → Int32 → Option Int32
  | 0, _, _ => none
  | fu + 1, x3, x4 => if (S.1 4) ≤ x4 then (k x3 x4) else (if x4 < 0 ∨ 200 ≤ Int32.toNatClampNeg x4 then none else if x2 < (S.2.1 10 (Int32.toNatClampNeg x4)) then (k x3 x4) else (if x4 < 0 ∨ 200 ≤ Int32.toNatClampNeg x4 then none else if (S.2.1 8 (Int32.toNatClampNeg x4)) = x1 then (if x4 < 0 ∨ 200 ≤ Int32.toNatClampNeg x4 then none else lt_ (S.2.1 9 (Int32.toNatClampNeg x4)) fun v9 => fX2_ownerAsDayEnded_L22 n x1 x2 S k fu v9 (x4 + 1)) else (fX2_ownerAsDayEnded_L22 n x1 x2 S k fu x3 (x4 + 1))))
def fX2_ownerAsDayEnded (n : Nat) (S : St) (x1 : Int32) (x2 : Int32) : Option Int32 := ob (fX2_has S x1) fun r1 => if r1 = 0 then (fX2_ownerAsDayEnded_L22 n x1 x2 S (fun x10 x11 => some x10) n (-1) 0) else (if x1 < 0 ∨ 60 ≤ Int32.toNatClampNeg x1 then none else lt_ (S.2.1 6 (Int32.toNatClampNeg x1)) fun v13 => fX2_ownerAsDayEnded_L22 n x1 x2 S (fun x14 x15 => some x14) n v13 0)
set_option maxRecDepth 20000 in
theorem inX2_ownerAsDayEnded_2 : ∀ w ∈ u_ws RX2 TX2 12, w ∈ wsX2_ownerAsDayEnded := by decide +kernel
set_option maxHeartbeats 4000000 in
set_option maxRecDepth 100000 in
theorem wX2_ownerAsDayEnded_L22 {p : Program} {l : Launch} {e : Env} {s : State} {m : MethodId} {args : Array Value} {below : List Frame} {meth : Method} {c : Code} {Q : State → Prop} {D : va_G} {cc : Nat → ClassId} {ak av : Nat → Nat} {A : Nat → Prop} {ad : Nat → Nat} {g : Nat → Option Nat} {E : va_W} {n : Nat} {x1 : Int32} {x2 : Int32} {S : St} {r : Int32} {k : Int32 → Int32 → Option Int32} (F : CallFix p m c cX2_ownerAsDayEnded 5 s args wsX2_ownerAsDayEnded RX2) (B : Bd D cc ak av A s) (hQ : RetI p l e ({ frames := 2, cells := 0, slots := 0, locals := 42 } : Room) s m args below meth c D A Q cX2_ownerAsDayEnded (WX cc ad g S ++ E) r)
    (hk : ∀ (x3 : Int32) (x4 : Int32) (H : Heap) (locs : List Loc) (ls : Array Slot), Wd D A s.heap H locs (WX cc ad g S ++ E) → lv_has ls 5 [(0, .ref (ad 2)), (1, .int x1), (2, .int x2), (3, .int x3), (4, .int x4)] → k x3 x4 = some r → W p l e ({ frames := 2, cells := 0, slots := 0, locals := 42 } : Room) s m args below meth c H locs 0 0 Q (F0 m 67 ls [])) :
    ∀ (fu : Nat) (x3 : Int32) (x4 : Int32) (H : Heap) (locs : List Loc) (ls : Array Slot), Wd D A s.heap H locs (WX cc ad g S ++ E) → lv_has ls 5 [(0, .ref (ad 2)), (1, .int x1), (2, .int x2), (3, .int x3), (4, .int x4)] → fX2_ownerAsDayEnded_L22 n x1 x2 S k fu x3 x4 = some r → W p l e ({ frames := 2, cells := 0, slots := 0, locals := 42 } : Room) s m args below meth c H locs 0 0 Q (F0 m 22 ls []) := by
  have hx := F.1
  have hb := F.2.1
  have hown := F.2.2.2.1
  have hts := F.2.2.2.2
  intro fu
  induction fu with
  | zero => intro x3 x4 H locs ls w hl hf; rw [fX2_ownerAsDayEnded_L22] at hf; cases hf
  | succ fu ih =>
    intro x3 x4 H locs ls w hl hf
    rw [fX2_ownerAsDayEnded_L22] at hf
    refine lv_iload hx hb dX2_ownerAsDayEnded_22 (lv_at hl 4 rfl) ?_
    refine lv_aload_n hx hb dX2_ownerAsDayEnded_24 rfl (lv_at hl 0 rfl) ?_
    refine kget (v := .int (S.1 4)) F B w inX2_ownerAsDayEnded_2 2 gX_2 rfl 10 (by decide) (hts (.fieldLink RX2 71 "LandReform$Land" "transfers" "I") (by decide +kernel)) rfl rfl dX2_ownerAsDayEnded_25 ?_
    refine lv_icmp_ge (tgt := 67) hx hb dX2_ownerAsDayEnded_28 (by decide) (fun c3 => ?_) (fun c3 => ?_)
    · have hf := if_t hf c3
      exact hk _ _ _ _ _ w (lv_sub hl [0, 1, 2, 3, 4] rfl) hf
    · have hf := if_f hf c3
      refine lv_aload_n hx hb dX2_ownerAsDayEnded_31 rfl (lv_at hl 0 rfl) ?_
      refine kget (v := .ref (ad 23)) F B w inX2_ownerAsDayEnded_2 2 gX_2 rfl 9 (by decide) (hts (.fieldLink RX2 36 "LandReform$Land" "days" "[I") (by decide +kernel)) rfl rfl dX2_ownerAsDayEnded_32 ?_
      refine lv_iload hx hb dX2_ownerAsDayEnded_35 (lv_at hl 4 rfl) ?_
      obtain ⟨g4, hf⟩ := if_g hf
      refine kiald F B w 23 gX_23 g4 dX2_ownerAsDayEnded_37 ?_
      refine lv_iload_n hx hb dX2_ownerAsDayEnded_38 rfl (lv_at hl 2 rfl) ?_
      refine lv_icmp_gt (tgt := 67) hx hb dX2_ownerAsDayEnded_39 (by decide) (fun c5 => ?_) (fun c5 => ?_)
      · have hf := if_t hf c5
        exact hk _ _ _ _ _ w (lv_sub hl [0, 1, 2, 3, 4] rfl) hf
      · have hf := if_f hf c5
        refine lv_aload_n hx hb dX2_ownerAsDayEnded_42 rfl (lv_at hl 0 rfl) ?_
        refine kget (v := .ref (ad 21)) F B w inX2_ownerAsDayEnded_2 2 gX_2 rfl 7 (by decide) (hts (.fieldLink RX2 30 "LandReform$Land" "movedFields" "[I") (by decide +kernel)) rfl rfl dX2_ownerAsDayEnded_43 ?_
        refine lv_iload hx hb dX2_ownerAsDayEnded_46 (lv_at hl 4 rfl) ?_
        obtain ⟨g6, hf⟩ := if_g hf
        refine kiald F B w 21 gX_21 g6 dX2_ownerAsDayEnded_48 ?_
        refine lv_iload_n hx hb dX2_ownerAsDayEnded_49 rfl (lv_at hl 1 rfl) ?_
        refine lv_icmp_ne (tgt := 61) hx hb dX2_ownerAsDayEnded_50 (by decide) (fun c7 => ?_) (fun c7 => ?_)
        · have hf := if_f hf c7
          refine lv_iinc (v := (x4 + 1)) (lv' := [(4, .int (x4 + 1)), (0, .ref (ad 2)), (1, .int x1), (2, .int x2), (3, .int x3)]) hx hb dX2_ownerAsDayEnded_61 hl (k := 4) rfl rfl (by decide) rfl (fun ls hl => ?_)
          refine lv_goto (tgt := 22) hx hb dX2_ownerAsDayEnded_64 (by decide) ?_
          exact ih _ _ _ _ _ w (lv_sub hl [1, 2, 3, 4, 0] rfl) hf
        · have hf := if_t hf c7
          refine lv_aload_n hx hb dX2_ownerAsDayEnded_53 rfl (lv_at hl 0 rfl) ?_
          refine kget (v := .ref (ad 22)) F B w inX2_ownerAsDayEnded_2 2 gX_2 rfl 8 (by decide) (hts (.fieldLink RX2 33 "LandReform$Land" "receivers" "[I") (by decide +kernel)) rfl rfl dX2_ownerAsDayEnded_54 ?_
          refine lv_iload hx hb dX2_ownerAsDayEnded_57 (lv_at hl 4 rfl) ?_
          obtain ⟨g8, hf⟩ := if_g hf
          refine kiald F B w 22 gX_22 g8 dX2_ownerAsDayEnded_59 ?_
          refine lv_topi (fun v9 ev9 => ?_)
          have hf := lt_e hf ev9
          refine lv_istore_n (lv' := [(3, .int v9), (0, .ref (ad 2)), (1, .int x1), (2, .int x2), (4, .int x4)]) hx hb dX2_ownerAsDayEnded_60 rfl hl (by decide) rfl (fun ls hl => ?_)
          refine lv_iinc (v := (x4 + 1)) (lv' := [(4, .int (x4 + 1)), (3, .int v9), (0, .ref (ad 2)), (1, .int x1), (2, .int x2)]) hx hb dX2_ownerAsDayEnded_61 hl (k := 4) rfl rfl (by decide) rfl (fun ls hl => ?_)
          refine lv_goto (tgt := 22) hx hb dX2_ownerAsDayEnded_64 (by decide) ?_
          exact ih _ _ _ _ _ w (lv_sub hl [2, 3, 4, 1, 0] rfl) hf
set_option maxHeartbeats 4000000 in
set_option maxRecDepth 100000 in
theorem tX2_ownerAsDayEnded {l : Launch} {D : va_G} {cc : Nat → ClassId} {ak av : Nat → Nat} {ad : Nat → Nat} {g : Nat → Option Nat} {E : va_W} {n : Nat} {S : St} {x1 : Int32} {x2 : Int32} {r : Int32} (hf : fX2_ownerAsDayEnded n S x1 x2 = some r) : CI l yX2_ownerAsDayEnded wsX2_ownerAsDayEnded ({ frames := 2, cells := 0, slots := 0, locals := 42 } : Room) D cc ak av [.ref (ad 2), .int x1, .int x2] (WX cc ad g S ++ E) (WX cc ad g S ++ E) r := by
  refine mkI (c0 := cX2_ownerAsDayEnded) (nL := 5) (own := RX2) rfl rfl (by decide) rfl rfl (Nat.le_of_ble_eq_true rfl) ?_
  intro p e s m args below meth c A Q ls F B hQ hl w
  have hx := F.1
  have hb := F.2.1
  have hown := F.2.2.2.1
  have hts := F.2.2.2.2
  have hl : lv_has ls 5 [(0, .ref (ad 2)), (1, .int x1), (2, .int x2)] := hl
  unfold fX2_ownerAsDayEnded at hf
  refine lv_aload_n hx hb dX2_ownerAsDayEnded_0 rfl (lv_at hl 0 rfl) ?_
  refine lv_iload_n hx hb dX2_ownerAsDayEnded_1 rfl (lv_at hl 1 rfl) ?_
  obtain ⟨r1, er1, hf⟩ := ob_e hf
  refine kVi (As := [.int x1]) (rest := []) F B w (tX2_has er1) (cwV 1 hts gX2_ownerAsDayEnded_X2_has rfl rfl rfl (by decide +kernel) ⟨Nat.le_of_ble_eq_true rfl, Nat.le_of_ble_eq_true rfl⟩) 2 gX_2 rfl rfl hl.1 rfl (Nat.le_of_ble_eq_true rfl) dX2_ownerAsDayEnded_2 ⟨Nat.le_of_ble_eq_true rfl, Nat.le_of_ble_eq_true rfl⟩ (fun H locs w => ?_)
  refine lv_if_eq (tgt := 17) hx hb dX2_ownerAsDayEnded_5 (by decide) (fun c2 => ?_) (fun c2 => ?_)
  · have hf := if_t hf c2
    refine lv_iconst (v := (-1)) hx hb dX2_ownerAsDayEnded_17 (by decide) ?_
    refine lv_istore_n (lv' := [(3, .int (-1)), (0, .ref (ad 2)), (1, .int x1), (2, .int x2)]) hx hb dX2_ownerAsDayEnded_18 rfl hl (by decide) rfl (fun ls hl => ?_)
    refine lv_iconst (v := 0) hx hb dX2_ownerAsDayEnded_19 (by decide) ?_
    refine lv_istore (lv' := [(4, .int 0), (3, .int (-1)), (0, .ref (ad 2)), (1, .int x1), (2, .int x2)]) hx hb dX2_ownerAsDayEnded_20 hl (by decide) rfl (fun ls hl => ?_)
    refine wX2_ownerAsDayEnded_L22 F B hQ (fun x10 x11 H locs ls w hl hf => ?_) n _ _ _ _ _ w (lv_sub hl [2, 3, 4, 1, 0] rfl) hf
    refine lv_iload_n hx hb dX2_ownerAsDayEnded_67 rfl (lv_at hl 3 rfl) ?_
    cases hf
    exact hQ _ _ _ _ dX2_ownerAsDayEnded_68 w
  · have hf := if_f hf c2
    refine lv_aload_n hx hb dX2_ownerAsDayEnded_8 rfl (lv_at hl 0 rfl) ?_
    refine kget (v := .ref (ad 19)) F B w inX2_ownerAsDayEnded_2 2 gX_2 rfl 4 (by decide) (hts (.fieldLink RX2 24 "LandReform$Land" "firstOwners" "[I") (by decide +kernel)) rfl rfl dX2_ownerAsDayEnded_9 ?_
    refine lv_iload_n hx hb dX2_ownerAsDayEnded_12 rfl (lv_at hl 1 rfl) ?_
    obtain ⟨g12, hf⟩ := if_g hf
    refine kiald F B w 19 gX_19 g12 dX2_ownerAsDayEnded_13 ?_
    refine lv_goto (tgt := 18) hx hb dX2_ownerAsDayEnded_14 (by decide) ?_
    refine lv_topi (fun v13 ev13 => ?_)
    have hf := lt_e hf ev13
    refine lv_istore_n (lv' := [(3, .int v13), (0, .ref (ad 2)), (1, .int x1), (2, .int x2)]) hx hb dX2_ownerAsDayEnded_18 rfl hl (by decide) rfl (fun ls hl => ?_)
    refine lv_iconst (v := 0) hx hb dX2_ownerAsDayEnded_19 (by decide) ?_
    refine lv_istore (lv' := [(4, .int 0), (3, .int v13), (0, .ref (ad 2)), (1, .int x1), (2, .int x2)]) hx hb dX2_ownerAsDayEnded_20 hl (by decide) rfl (fun ls hl => ?_)
    refine wX2_ownerAsDayEnded_L22 F B hQ (fun x14 x15 H locs ls w hl hf => ?_) n _ _ _ _ _ w (lv_sub hl [2, 3, 4, 1, 0] rfl) hf
    refine lv_iload_n hx hb dX2_ownerAsDayEnded_67 rfl (lv_at hl 3 rfl) ?_
    cases hf
    exact hQ _ _ _ _ dX2_ownerAsDayEnded_68 w

def fX2_firstFieldOf_L2 (n : Nat) (x1 : Int32) (S : St) (k : Int32 → Option Int32) : Nat → Int32 → Option Int32
  | 0, _ => none
  | fu + 1, x2 => if (S.1 3) ≤ x2 then (k x2) else (if x2 < 0 ∨ 60 ≤ Int32.toNatClampNeg x2 then none else if (S.2.1 7 (Int32.toNatClampNeg x2)) = x1 then (some x2) else (fX2_firstFieldOf_L2 n x1 S k fu (x2 + 1)))
def fX2_firstFieldOf (n : Nat) (S : St) (x1 : Int32) : Option Int32 := fX2_firstFieldOf_L2 n x1 S (fun x4 => some (-1)) n 0
set_option maxRecDepth 20000 in
theorem inX2_firstFieldOf_2 : ∀ w ∈ u_ws RX2 TX2 12, w ∈ wsX2_firstFieldOf := by decide +kernel
set_option maxHeartbeats 4000000 in
set_option maxRecDepth 100000 in
theorem wX2_firstFieldOf_L2 {p : Program} {l : Launch} {e : Env} {s : State} {m : MethodId} {args : Array Value} {below : List Frame} {meth : Method} {c : Code} {Q : State → Prop} {D : va_G} {cc : Nat → ClassId} {ak av : Nat → Nat} {A : Nat → Prop} {ad : Nat → Nat} {g : Nat → Option Nat} {E : va_W} {n : Nat} {x1 : Int32} {S : St} {r : Int32} {k : Int32 → Option Int32} (F : CallFix p m c cX2_firstFieldOf 3 s args wsX2_firstFieldOf RX2) (B : Bd D cc ak av A s) (hQ : RetI p l e ({ frames := 0, cells := 0, slots := 0, locals := 0 } : Room) s m args below meth c D A Q cX2_firstFieldOf (WX cc ad g S ++ E) r)
    (hk : ∀ (x2 : Int32) (H : Heap) (locs : List Loc) (ls : Array Slot), Wd D A s.heap H locs (WX cc ad g S ++ E) → lv_has ls 3 [(0, .ref (ad 2)), (1, .int x1), (2, .int x2)] → k x2 = some r → W p l e ({ frames := 0, cells := 0, slots := 0, locals := 0 } : Room) s m args below meth c H locs 0 0 Q (F0 m 28 ls [])) :
    ∀ (fu : Nat) (x2 : Int32) (H : Heap) (locs : List Loc) (ls : Array Slot), Wd D A s.heap H locs (WX cc ad g S ++ E) → lv_has ls 3 [(0, .ref (ad 2)), (1, .int x1), (2, .int x2)] → fX2_firstFieldOf_L2 n x1 S k fu x2 = some r → W p l e ({ frames := 0, cells := 0, slots := 0, locals := 0 } : Room) s m args below meth c H locs 0 0 Q (F0 m 2 ls []) := by
  have hx := F.1
  have hb := F.2.1
  have hown := F.2.2.2.1
  have hts := F.2.2.2.2
  intro fu
  induction fu with
  | zero => intro x2 H locs ls w hl hf; rw [fX2_firstFieldOf_L2] at hf; cases hf
  | succ fu ih =>
    intro x2 H locs ls w hl hf
    rw [fX2_firstFieldOf_L2] at hf
    refine lv_iload_n hx hb dX2_firstFieldOf_2 rfl (lv_at hl 2 rfl) ?_
    refine lv_aload_n hx hb dX2_firstFieldOf_3 rfl (lv_at hl 0 rfl) ?_
    refine kget (v := .int (S.1 3)) F B w inX2_firstFieldOf_2 2 gX_2 rfl 6 (by decide) (hts (.fieldLink RX2 39 "LandReform$Land" "size" "I") (by decide +kernel)) rfl rfl dX2_firstFieldOf_4 ?_
    refine lv_icmp_ge (tgt := 28) hx hb dX2_firstFieldOf_7 (by decide) (fun c1 => ?_) (fun c1 => ?_)
    · have hf := if_t hf c1
      exact hk _ _ _ _ w (lv_sub hl [0, 1, 2] rfl) hf
    · have hf := if_f hf c1
      refine lv_aload_n hx hb dX2_firstFieldOf_10 rfl (lv_at hl 0 rfl) ?_
      refine kget (v := .ref (ad 20)) F B w inX2_firstFieldOf_2 2 gX_2 rfl 5 (by decide) (hts (.fieldLink RX2 27 "LandReform$Land" "owners" "[I") (by decide +kernel)) rfl rfl dX2_firstFieldOf_11 ?_
      refine lv_iload_n hx hb dX2_firstFieldOf_14 rfl (lv_at hl 2 rfl) ?_
      obtain ⟨g2, hf⟩ := if_g hf
      refine kiald F B w 20 gX_20 g2 dX2_firstFieldOf_15 ?_
      refine lv_iload_n hx hb dX2_firstFieldOf_16 rfl (lv_at hl 1 rfl) ?_
      refine lv_icmp_ne (tgt := 22) hx hb dX2_firstFieldOf_17 (by decide) (fun c3 => ?_) (fun c3 => ?_)
      · have hf := if_f hf c3
        refine lv_iinc (v := (x2 + 1)) (lv' := [(2, .int (x2 + 1)), (0, .ref (ad 2)), (1, .int x1)]) hx hb dX2_firstFieldOf_22 hl (k := 2) rfl rfl (by decide) rfl (fun ls hl => ?_)
        refine lv_goto (tgt := 2) hx hb dX2_firstFieldOf_25 (by decide) ?_
        exact ih _ _ _ _ w (lv_sub hl [1, 2, 0] rfl) hf
      · have hf := if_t hf c3
        refine lv_iload_n hx hb dX2_firstFieldOf_20 rfl (lv_at hl 2 rfl) ?_
        cases hf
        exact hQ _ _ _ _ dX2_firstFieldOf_21 w
set_option maxHeartbeats 4000000 in
set_option maxRecDepth 100000 in
theorem tX2_firstFieldOf {l : Launch} {D : va_G} {cc : Nat → ClassId} {ak av : Nat → Nat} {ad : Nat → Nat} {g : Nat → Option Nat} {E : va_W} {n : Nat} {S : St} {x1 : Int32} {r : Int32} (hf : fX2_firstFieldOf n S x1 = some r) : CI l yX2_firstFieldOf wsX2_firstFieldOf ({ frames := 0, cells := 0, slots := 0, locals := 0 } : Room) D cc ak av [.ref (ad 2), .int x1] (WX cc ad g S ++ E) (WX cc ad g S ++ E) r := by
  refine mkI (c0 := cX2_firstFieldOf) (nL := 3) (own := RX2) rfl rfl (by decide) rfl rfl (Nat.le_of_ble_eq_true rfl) ?_
  intro p e s m args below meth c A Q ls F B hQ hl w
  have hx := F.1
  have hb := F.2.1
  have hown := F.2.2.2.1
  have hts := F.2.2.2.2
  have hl : lv_has ls 3 [(0, .ref (ad 2)), (1, .int x1)] := hl
  unfold fX2_firstFieldOf at hf
  refine lv_iconst (v := 0) hx hb dX2_firstFieldOf_0 (by decide) ?_
  refine lv_istore_n (lv' := [(2, .int 0), (0, .ref (ad 2)), (1, .int x1)]) hx hb dX2_firstFieldOf_1 rfl hl (by decide) rfl (fun ls hl => ?_)
  refine wX2_firstFieldOf_L2 F B hQ (fun x4 H locs ls w hl hf => ?_) n _ _ _ _ w (lv_sub hl [1, 2, 0] rfl) hf
  refine lv_iconst (v := (-1)) hx hb dX2_firstFieldOf_28 (by decide) ?_
  cases hf
  exact hQ _ _ _ _ dX2_firstFieldOf_29 w
