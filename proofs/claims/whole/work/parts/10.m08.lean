def fX11_sell (S : St) (x1 : Int32) (x2 : Int32) : Option (Int32 × St) := ob (fX11_isField S x1) fun r1 => if r1 = 0 then (some ((-1), S)) else (ob (fX11_isPerson S x2) fun r3 => if r3 = 0 then (some ((-1), S)) else (if (S.1 38) = 20 then (some ((-1), S)) else (if (S.1 38) < 0 ∨ 20 ≤ Int32.toNatClampNeg (S.1 38) then none else lt_ (sA S 39 (Int32.toNatClampNeg (S.1 38)) x1) fun S7 => if (S7.1 38) < 0 ∨ 20 ≤ Int32.toNatClampNeg (S7.1 38) then none else lt_ (sA S7 40 (Int32.toNatClampNeg (S7.1 38)) x2) fun S9 => ob (fX11_standard S9 x1) fun r10 => if (S9.1 38) < 0 ∨ 20 ≤ Int32.toNatClampNeg (S9.1 38) then none else lt_ (sA S9 41 (Int32.toNatClampNeg (S9.1 38)) ((S9.2.1 16 (Int32.toNatClampNeg 3)) * r10)) fun S12 => if (S12.1 38) < 0 ∨ 20 ≤ Int32.toNatClampNeg (S12.1 38) then none else lt_ (sA S12 42 (Int32.toNatClampNeg (S12.1 38)) (S12.2.1 16 (Int32.toNatClampNeg 4))) fun S14 => if (S14.1 38) < 0 ∨ 20 ≤ Int32.toNatClampNeg (S14.1 38) then none else lt_ (sA S14 44 (Int32.toNatClampNeg (S14.1 38)) (S14.2.1 16 (Int32.toNatClampNeg 4))) fun S16 => if (S16.1 38) < 0 ∨ 20 ≤ Int32.toNatClampNeg (S16.1 38) then none else lt_ (sA S16 46 (Int32.toNatClampNeg (S16.1 38)) ((S16.2.1 16 (Int32.toNatClampNeg 4)) - 1)) fun S18 => lt_ (sS S18 38 ((S18.1 38) + 1)) fun S19 => some (((S19.1 38) - 1), S19))))
set_option maxRecDepth 20000 in
theorem inX11_sell_11 : ∀ w ∈ u_ws RX11 TX11 47, w ∈ wsX11_sell := by decide +kernel
set_option maxHeartbeats 4000000 in
set_option maxRecDepth 100000 in
theorem tX11_sell {l : Launch} {D : va_G} {cc : Nat → ClassId} {ak av : Nat → Nat} {ad : Nat → Nat} {E : va_W} {S : St} {x1 : Int32} {x2 : Int32} {r : Int32} {S' : St} (hf : fX11_sell S x1 x2 = some (r, S')) : CI l yX11_sell wsX11_sell ({ frames := 2, cells := 0, slots := 0, locals := 43 } : Room) D cc ak av [.ref (ad 0), .int x1, .int x2] (WM cc ad S ++ E) (WM cc ad S' ++ E) r := by
  refine mkI (c0 := cX11_sell) (nL := 3) (own := RX11) rfl rfl (by decide) rfl rfl (Nat.le_of_ble_eq_true rfl) ?_
  intro p e s m args below meth c A Q ls F B hQ hl w
  have hx := F.1
  have hb := F.2.1
  have hown := F.2.2.2.1
  have hts := F.2.2.2.2
  have hl : lv_has ls 3 [(0, .ref (ad 0)), (1, .int x1), (2, .int x2)] := hl
  unfold fX11_sell at hf
  refine lv_aload_n hx hb dX11_sell_0 rfl (lv_at hl 0 rfl) ?_
  refine lv_iload_n hx hb dX11_sell_1 rfl (lv_at hl 1 rfl) ?_
  obtain ⟨r1, er1, hf⟩ := ob_e hf
  refine kVi (As := [.int x1]) (rest := []) F B w (tX11_isField er1) (cwV 1 hts gX11_sell_X11_isField rfl rfl rfl (by decide +kernel) ⟨Nat.le_of_ble_eq_true rfl, Nat.le_of_ble_eq_true rfl⟩) 0 gM_0 rfl rfl hl.1 rfl (Nat.le_of_ble_eq_true rfl) dX11_sell_2 ⟨Nat.le_of_ble_eq_true rfl, Nat.le_of_ble_eq_true rfl⟩ (fun H locs w => ?_)
  refine lv_if_eq (tgt := 25) hx hb dX11_sell_5 (by decide) (fun c2 => ?_) (fun c2 => ?_)
  · have hf := if_t hf c2
    refine lv_iconst (v := (-1)) hx hb dX11_sell_25 (by decide) ?_
    cases hf
    exact hQ _ _ _ _ dX11_sell_26 w
  · have hf := if_f hf c2
    refine lv_aload_n hx hb dX11_sell_8 rfl (lv_at hl 0 rfl) ?_
    refine lv_iload_n hx hb dX11_sell_9 rfl (lv_at hl 2 rfl) ?_
    obtain ⟨r3, er3, hf⟩ := ob_e hf
    refine kVi (As := [.int x2]) (rest := []) F B w (tX11_isPerson er3) (cwV 1 hts gX11_sell_X11_isPerson rfl rfl rfl (by decide +kernel) ⟨Nat.le_of_ble_eq_true rfl, Nat.le_of_ble_eq_true rfl⟩) 0 gM_0 rfl rfl hl.1 rfl (Nat.le_of_ble_eq_true rfl) dX11_sell_10 ⟨Nat.le_of_ble_eq_true rfl, Nat.le_of_ble_eq_true rfl⟩ (fun H locs w => ?_)
    refine lv_if_eq (tgt := 25) hx hb dX11_sell_13 (by decide) (fun c4 => ?_) (fun c4 => ?_)
    · have hf := if_t hf c4
      refine lv_iconst (v := (-1)) hx hb dX11_sell_25 (by decide) ?_
      cases hf
      exact hQ _ _ _ _ dX11_sell_26 w
    · have hf := if_f hf c4
      refine lv_aload_n hx hb dX11_sell_16 rfl (lv_at hl 0 rfl) ?_
      refine kget (v := .int (S.1 38)) F B w inX11_sell_11 0 gM_0 rfl 38 (by decide) (hts (.fieldLink RX11 278 "LandReformModel" "sales" "I") (by decide +kernel)) rfl rfl dX11_sell_17 ?_
      refine lv_bipush (v := 20) hx hb dX11_sell_20 (by decide) ?_
      refine lv_icmp_ne (tgt := 27) hx hb dX11_sell_22 (by decide) (fun c5 => ?_) (fun c5 => ?_)
      · have hf := if_f hf c5
        refine lv_aload_n hx hb dX11_sell_27 rfl (lv_at hl 0 rfl) ?_
        refine kget (v := .ref (ad 24)) F B w inX11_sell_11 0 gM_0 rfl 39 (by decide) (hts (.fieldLink RX11 85 "LandReformModel" "saleField" "[I") (by decide +kernel)) rfl rfl dX11_sell_28 ?_
        refine lv_aload_n hx hb dX11_sell_31 rfl (lv_at hl 0 rfl) ?_
        refine kget (v := .int (S.1 38)) F B w inX11_sell_11 0 gM_0 rfl 38 (by decide) (hts (.fieldLink RX11 278 "LandReformModel" "sales" "I") (by decide +kernel)) rfl rfl dX11_sell_32 ?_
        refine lv_iload_n hx hb dX11_sell_35 rfl (lv_at hl 1 rfl) ?_
        obtain ⟨g6, hf⟩ := if_g hf
        refine kiast F B w 24 gM_24 g6 bM_24 dX11_sell_36 (fun H locs w => ?_)
        obtain ⟨S7, eS7⟩ : ∃ z, z = sA S 39 (Int32.toNatClampNeg (S.1 38)) x1 := ⟨_, rfl⟩
        rw [← eS7] at w
        have hf := lt_e hf eS7
        refine lv_aload_n hx hb dX11_sell_37 rfl (lv_at hl 0 rfl) ?_
        refine kget (v := .ref (ad 25)) F B w inX11_sell_11 0 gM_0 rfl 40 (by decide) (hts (.fieldLink RX11 88 "LandReformModel" "buyer" "[I") (by decide +kernel)) rfl rfl dX11_sell_38 ?_
        refine lv_aload_n hx hb dX11_sell_41 rfl (lv_at hl 0 rfl) ?_
        refine kget (v := .int (S7.1 38)) F B w inX11_sell_11 0 gM_0 rfl 38 (by decide) (hts (.fieldLink RX11 278 "LandReformModel" "sales" "I") (by decide +kernel)) rfl rfl dX11_sell_42 ?_
        refine lv_iload_n hx hb dX11_sell_45 rfl (lv_at hl 2 rfl) ?_
        obtain ⟨g8, hf⟩ := if_g hf
        refine kiast F B w 25 gM_25 g8 bM_25 dX11_sell_46 (fun H locs w => ?_)
        obtain ⟨S9, eS9⟩ : ∃ z, z = sA S7 40 (Int32.toNatClampNeg (S7.1 38)) x2 := ⟨_, rfl⟩
        rw [← eS9] at w
        have hf := lt_e hf eS9
        refine lv_aload_n hx hb dX11_sell_47 rfl (lv_at hl 0 rfl) ?_
        refine kget (v := .ref (ad 26)) F B w inX11_sell_11 0 gM_0 rfl 41 (by decide) (hts (.fieldLink RX11 91 "LandReformModel" "owed" "[I") (by decide +kernel)) rfl rfl dX11_sell_48 ?_
        refine lv_aload_n hx hb dX11_sell_51 rfl (lv_at hl 0 rfl) ?_
        refine kget (v := .int (S9.1 38)) F B w inX11_sell_11 0 gM_0 rfl 38 (by decide) (hts (.fieldLink RX11 278 "LandReformModel" "sales" "I") (by decide +kernel)) rfl rfl dX11_sell_52 ?_
        refine lv_aload_n hx hb dX11_sell_55 rfl (lv_at hl 0 rfl) ?_
        refine kget (v := .ref (ad 12)) F B w inX11_sell_11 0 gM_0 rfl 16 (by decide) (hts (.fieldLink RX11 44 "LandReformModel" "told" "[I") (by decide +kernel)) rfl rfl dX11_sell_56 ?_
        refine lv_iconst (v := 3) hx hb dX11_sell_59 (by decide) ?_
        refine kiald F B w 12 gM_12 (by decide) dX11_sell_60 ?_
        refine lv_aload_n hx hb dX11_sell_61 rfl (lv_at hl 0 rfl) ?_
        refine lv_iload_n hx hb dX11_sell_62 rfl (lv_at hl 1 rfl) ?_
        obtain ⟨r10, er10, hf⟩ := ob_e hf
        refine kVi (As := [.int x1]) (rest := [.int (S9.2.1 16 (Int32.toNatClampNeg 3)), .int (S9.1 38), .ref (ad 26)]) F B w (tX11_standard er10) (cwV 1 hts gX11_sell_X11_standard rfl rfl rfl (by decide +kernel) ⟨Nat.le_of_ble_eq_true rfl, Nat.le_of_ble_eq_true rfl⟩) 0 gM_0 rfl rfl hl.1 rfl (Nat.le_of_ble_eq_true rfl) dX11_sell_63 ⟨Nat.le_of_ble_eq_true rfl, Nat.le_of_ble_eq_true rfl⟩ (fun H locs w => ?_)
        refine lv_imul hx hb dX11_sell_66 ?_
        obtain ⟨g11, hf⟩ := if_g hf
        refine kiast F B w 26 gM_26 g11 bM_26 dX11_sell_67 (fun H locs w => ?_)
        obtain ⟨S12, eS12⟩ : ∃ z, z = sA S9 41 (Int32.toNatClampNeg (S9.1 38)) ((S9.2.1 16 (Int32.toNatClampNeg 3)) * r10) := ⟨_, rfl⟩
        rw [← eS12] at w
        have hf := lt_e hf eS12
        refine lv_aload_n hx hb dX11_sell_68 rfl (lv_at hl 0 rfl) ?_
        refine kget (v := .ref (ad 27)) F B w inX11_sell_11 0 gM_0 rfl 42 (by decide) (hts (.fieldLink RX11 94 "LandReformModel" "parts" "[I") (by decide +kernel)) rfl rfl dX11_sell_69 ?_
        refine lv_aload_n hx hb dX11_sell_72 rfl (lv_at hl 0 rfl) ?_
        refine kget (v := .int (S12.1 38)) F B w inX11_sell_11 0 gM_0 rfl 38 (by decide) (hts (.fieldLink RX11 278 "LandReformModel" "sales" "I") (by decide +kernel)) rfl rfl dX11_sell_73 ?_
        refine lv_aload_n hx hb dX11_sell_76 rfl (lv_at hl 0 rfl) ?_
        refine kget (v := .ref (ad 12)) F B w inX11_sell_11 0 gM_0 rfl 16 (by decide) (hts (.fieldLink RX11 44 "LandReformModel" "told" "[I") (by decide +kernel)) rfl rfl dX11_sell_77 ?_
        refine lv_iconst (v := 4) hx hb dX11_sell_80 (by decide) ?_
        refine kiald F B w 12 gM_12 (by decide) dX11_sell_81 ?_
        obtain ⟨g13, hf⟩ := if_g hf
        refine kiast F B w 27 gM_27 g13 bM_27 dX11_sell_82 (fun H locs w => ?_)
        obtain ⟨S14, eS14⟩ : ∃ z, z = sA S12 42 (Int32.toNatClampNeg (S12.1 38)) (S12.2.1 16 (Int32.toNatClampNeg 4)) := ⟨_, rfl⟩
        rw [← eS14] at w
        have hf := lt_e hf eS14
        refine lv_aload_n hx hb dX11_sell_83 rfl (lv_at hl 0 rfl) ?_
        refine kget (v := .ref (ad 29)) F B w inX11_sell_11 0 gM_0 rfl 44 (by decide) (hts (.fieldLink RX11 100 "LandReformModel" "left" "[I") (by decide +kernel)) rfl rfl dX11_sell_84 ?_
        refine lv_aload_n hx hb dX11_sell_87 rfl (lv_at hl 0 rfl) ?_
        refine kget (v := .int (S14.1 38)) F B w inX11_sell_11 0 gM_0 rfl 38 (by decide) (hts (.fieldLink RX11 278 "LandReformModel" "sales" "I") (by decide +kernel)) rfl rfl dX11_sell_88 ?_
        refine lv_aload_n hx hb dX11_sell_91 rfl (lv_at hl 0 rfl) ?_
        refine kget (v := .ref (ad 12)) F B w inX11_sell_11 0 gM_0 rfl 16 (by decide) (hts (.fieldLink RX11 44 "LandReformModel" "told" "[I") (by decide +kernel)) rfl rfl dX11_sell_92 ?_
        refine lv_iconst (v := 4) hx hb dX11_sell_95 (by decide) ?_
        refine kiald F B w 12 gM_12 (by decide) dX11_sell_96 ?_
        obtain ⟨g15, hf⟩ := if_g hf
        refine kiast F B w 29 gM_29 g15 bM_29 dX11_sell_97 (fun H locs w => ?_)
        obtain ⟨S16, eS16⟩ : ∃ z, z = sA S14 44 (Int32.toNatClampNeg (S14.1 38)) (S14.2.1 16 (Int32.toNatClampNeg 4)) := ⟨_, rfl⟩
        rw [← eS16] at w
        have hf := lt_e hf eS16
        refine lv_aload_n hx hb dX11_sell_98 rfl (lv_at hl 0 rfl) ?_
        refine kget (v := .ref (ad 31)) F B w inX11_sell_11 0 gM_0 rfl 46 (by decide) (hts (.fieldLink RX11 106 "LandReformModel" "restAt" "[I") (by decide +kernel)) rfl rfl dX11_sell_99 ?_
        refine lv_aload_n hx hb dX11_sell_102 rfl (lv_at hl 0 rfl) ?_
        refine kget (v := .int (S16.1 38)) F B w inX11_sell_11 0 gM_0 rfl 38 (by decide) (hts (.fieldLink RX11 278 "LandReformModel" "sales" "I") (by decide +kernel)) rfl rfl dX11_sell_103 ?_
        refine lv_aload_n hx hb dX11_sell_106 rfl (lv_at hl 0 rfl) ?_
        refine kget (v := .ref (ad 12)) F B w inX11_sell_11 0 gM_0 rfl 16 (by decide) (hts (.fieldLink RX11 44 "LandReformModel" "told" "[I") (by decide +kernel)) rfl rfl dX11_sell_107 ?_
        refine lv_iconst (v := 4) hx hb dX11_sell_110 (by decide) ?_
        refine kiald F B w 12 gM_12 (by decide) dX11_sell_111 ?_
        refine lv_iconst (v := 1) hx hb dX11_sell_112 (by decide) ?_
        refine lv_isub hx hb dX11_sell_113 ?_
        obtain ⟨g17, hf⟩ := if_g hf
        refine kiast F B w 31 gM_31 g17 bM_31 dX11_sell_114 (fun H locs w => ?_)
        obtain ⟨S18, eS18⟩ : ∃ z, z = sA S16 46 (Int32.toNatClampNeg (S16.1 38)) ((S16.2.1 16 (Int32.toNatClampNeg 4)) - 1) := ⟨_, rfl⟩
        rw [← eS18] at w
        have hf := lt_e hf eS18
        refine lv_aload_n hx hb dX11_sell_115 rfl (lv_at hl 0 rfl) ?_
        refine lv_dup hx hb dX11_sell_116 rfl ?_
        refine kget (v := .int (S18.1 38)) F B w inX11_sell_11 0 gM_0 rfl 38 (by decide) (hts (.fieldLink RX11 278 "LandReformModel" "sales" "I") (by decide +kernel)) rfl rfl dX11_sell_117 ?_
        refine lv_iconst (v := 1) hx hb dX11_sell_120 (by decide) ?_
        refine lv_iadd hx hb dX11_sell_121 ?_
        refine kput (ty := .int) F B w inX11_sell_11 tyX11 tyX11_ok nmX11 0 gM_0 rfl 38 (by decide) (hts (.fieldLink RX11 278 "LandReformModel" "sales" "I") (by decide +kernel)) rfl rfl (by decide +kernel) rfl rfl (Nat.le_of_ble_eq_true rfl) pM_38 dX11_sell_122 (fun H locs w => ?_)
        obtain ⟨S19, eS19⟩ : ∃ z, z = sS S18 38 ((S18.1 38) + 1) := ⟨_, rfl⟩
        rw [← eS19] at w
        have hf := lt_e hf eS19
        refine lv_aload_n hx hb dX11_sell_125 rfl (lv_at hl 0 rfl) ?_
        refine kget (v := .int (S19.1 38)) F B w inX11_sell_11 0 gM_0 rfl 38 (by decide) (hts (.fieldLink RX11 278 "LandReformModel" "sales" "I") (by decide +kernel)) rfl rfl dX11_sell_126 ?_
        refine lv_iconst (v := 1) hx hb dX11_sell_129 (by decide) ?_
        refine lv_isub hx hb dX11_sell_130 ?_
        cases hf
        exact hQ _ _ _ _ dX11_sell_131 w
      · have hf := if_t hf c5
        refine lv_iconst (v := (-1)) hx hb dX11_sell_25 (by decide) ?_
        cases hf
        exact hQ _ _ _ _ dX11_sell_26 w

def fX11_year (S : St) (x1 : Int32) (x2 : Int32) : Option (Int32 × St) := ob (fX11_isIn x1 0 ((S.1 38) - 1)) fun r1 => if r1 = 0 then (some ((-1), S)) else (if x1 < 0 ∨ 20 ≤ Int32.toNatClampNeg x1 then none else if (S.2.1 44 (Int32.toNatClampNeg x1)) = 0 then (some ((-1), S)) else (if x1 < 0 ∨ 20 ≤ Int32.toNatClampNeg x1 then none else if (S.2.1 46 (Int32.toNatClampNeg x1)) = 0 then (if x1 < 0 ∨ 20 ≤ Int32.toNatClampNeg x1 then none else if x1 < 0 ∨ 20 ≤ Int32.toNatClampNeg x1 then none else lt_ (sA S 46 (Int32.toNatClampNeg x1) ((S.2.1 46 (Int32.toNatClampNeg x1)) - 1)) fun S28 => if x2 = 0 then (if x1 < 0 ∨ 20 ≤ Int32.toNatClampNeg x1 then none else if x1 < 0 ∨ 20 ≤ Int32.toNatClampNeg x1 then none else lt_ (sA S28 45 (Int32.toNatClampNeg x1) ((S28.2.1 45 (Int32.toNatClampNeg x1)) + 1)) fun S46 => if x1 < 0 ∨ 20 ≤ Int32.toNatClampNeg x1 then none else if x1 < 0 ∨ 20 ≤ Int32.toNatClampNeg x1 then none else lt_ (sA S46 46 (Int32.toNatClampNeg x1) ((S46.2.1 44 (Int32.toNatClampNeg x1)) - 1)) fun S50 => some (0, S50)) else (if x1 < 0 ∨ 20 ≤ Int32.toNatClampNeg x1 then none else if x1 < 0 ∨ 20 ≤ Int32.toNatClampNeg x1 then none else if (S28.2.1 42 (Int32.toNatClampNeg x1)) = 0 then none else lt_ ((S28.2.1 41 (Int32.toNatClampNeg x1)) / (S28.2.1 42 (Int32.toNatClampNeg x1))) fun v33 => if x1 < 0 ∨ 20 ≤ Int32.toNatClampNeg x1 then none else if x1 < 0 ∨ 20 ≤ Int32.toNatClampNeg x1 then none else lt_ ((S28.2.1 41 (Int32.toNatClampNeg x1)) - (v33 * ((S28.2.1 42 (Int32.toNatClampNeg x1)) - 1))) fun v37 => if x1 < 0 ∨ 20 ≤ Int32.toNatClampNeg x1 then none else if x1 < 0 ∨ 20 ≤ Int32.toNatClampNeg x1 then none else lt_ (sA S28 43 (Int32.toNatClampNeg x1) ((S28.2.1 43 (Int32.toNatClampNeg x1)) + v37)) fun S40 => if x1 < 0 ∨ 20 ≤ Int32.toNatClampNeg x1 then none else if x1 < 0 ∨ 20 ≤ Int32.toNatClampNeg x1 then none else lt_ (sA S40 44 (Int32.toNatClampNeg x1) ((S40.2.1 44 (Int32.toNatClampNeg x1)) - 1)) fun S43 => some (v37, S43))) else (if x1 < 0 ∨ 20 ≤ Int32.toNatClampNeg x1 then none else if x1 < 0 ∨ 20 ≤ Int32.toNatClampNeg x1 then none else lt_ (sA S 46 (Int32.toNatClampNeg x1) ((S.2.1 46 (Int32.toNatClampNeg x1)) - 1)) fun S9 => if x2 = 0 then (if x1 < 0 ∨ 20 ≤ Int32.toNatClampNeg x1 then none else if x1 < 0 ∨ 20 ≤ Int32.toNatClampNeg x1 then none else lt_ (sA S9 45 (Int32.toNatClampNeg x1) ((S9.2.1 45 (Int32.toNatClampNeg x1)) + 1)) fun S24 => some (0, S24)) else (if x1 < 0 ∨ 20 ≤ Int32.toNatClampNeg x1 then none else if x1 < 0 ∨ 20 ≤ Int32.toNatClampNeg x1 then none else if (S9.2.1 42 (Int32.toNatClampNeg x1)) = 0 then none else lt_ ((S9.2.1 41 (Int32.toNatClampNeg x1)) / (S9.2.1 42 (Int32.toNatClampNeg x1))) fun v14 => if x1 < 0 ∨ 20 ≤ Int32.toNatClampNeg x1 then none else if x1 < 0 ∨ 20 ≤ Int32.toNatClampNeg x1 then none else lt_ (sA S9 43 (Int32.toNatClampNeg x1) ((S9.2.1 43 (Int32.toNatClampNeg x1)) + v14)) fun S18 => if x1 < 0 ∨ 20 ≤ Int32.toNatClampNeg x1 then none else if x1 < 0 ∨ 20 ≤ Int32.toNatClampNeg x1 then none else lt_ (sA S18 44 (Int32.toNatClampNeg x1) ((S18.2.1 44 (Int32.toNatClampNeg x1)) - 1)) fun S21 => some (v14, S21)))))
set_option maxRecDepth 20000 in
theorem inX11_year_11 : ∀ w ∈ u_ws RX11 TX11 47, w ∈ wsX11_year := by decide +kernel
set_option maxHeartbeats 4000000 in
set_option maxRecDepth 100000 in
theorem tX11_year {l : Launch} {D : va_G} {cc : Nat → ClassId} {ak av : Nat → Nat} {ad : Nat → Nat} {E : va_W} {S : St} {x1 : Int32} {x2 : Int32} {r : Int32} {S' : St} (hf : fX11_year S x1 x2 = some (r, S')) : CI l yX11_year wsX11_year ({ frames := 1, cells := 0, slots := 0, locals := 22 } : Room) D cc ak av [.ref (ad 0), .int x1, .int x2] (WM cc ad S ++ E) (WM cc ad S' ++ E) r := by
  refine mkI (c0 := cX11_year) (nL := 6) (own := RX11) rfl rfl (by decide) rfl rfl (Nat.le_of_ble_eq_true rfl) ?_
  intro p e s m args below meth c A Q ls F B hQ hl w
  have hx := F.1
  have hb := F.2.1
  have hown := F.2.2.2.1
  have hts := F.2.2.2.2
  have hl : lv_has ls 6 [(0, .ref (ad 0)), (1, .int x1), (2, .int x2)] := hl
  unfold fX11_year at hf
  refine lv_iload_n hx hb dX11_year_0 rfl (lv_at hl 1 rfl) ?_
  refine lv_iconst (v := 0) hx hb dX11_year_1 (by decide) ?_
  refine lv_aload_n hx hb dX11_year_2 rfl (lv_at hl 0 rfl) ?_
  refine kget (v := .int (S.1 38)) F B w inX11_year_11 0 gM_0 rfl 38 (by decide) (hts (.fieldLink RX11 278 "LandReformModel" "sales" "I") (by decide +kernel)) rfl rfl dX11_year_3 ?_
  refine lv_iconst (v := 1) hx hb dX11_year_6 (by decide) ?_
  refine lv_isub hx hb dX11_year_7 ?_
  obtain ⟨r1, er1, hf⟩ := ob_e hf
  refine kSi (As := [.int x1, .int 0, .int ((S.1 38) - 1)]) (rest := []) F B w (tX11_isIn er1) (va_cwS 3 hts gX11_year_X11_isIn rfl rfl rfl (by decide +kernel) ⟨Nat.le_of_ble_eq_true rfl, Nat.le_of_ble_eq_true rfl⟩) rfl hl.1 rfl (Nat.le_of_ble_eq_true rfl) dX11_year_8 ⟨Nat.le_of_ble_eq_true rfl, Nat.le_of_ble_eq_true rfl⟩ (fun H locs w => ?_)
  refine lv_if_eq (tgt := 23) hx hb dX11_year_11 (by decide) (fun c2 => ?_) (fun c2 => ?_)
  · have hf := if_t hf c2
    refine lv_iconst (v := (-1)) hx hb dX11_year_23 (by decide) ?_
    cases hf
    exact hQ _ _ _ _ dX11_year_24 w
  · have hf := if_f hf c2
    refine lv_aload_n hx hb dX11_year_14 rfl (lv_at hl 0 rfl) ?_
    refine kget (v := .ref (ad 29)) F B w inX11_year_11 0 gM_0 rfl 44 (by decide) (hts (.fieldLink RX11 100 "LandReformModel" "left" "[I") (by decide +kernel)) rfl rfl dX11_year_15 ?_
    refine lv_iload_n hx hb dX11_year_18 rfl (lv_at hl 1 rfl) ?_
    obtain ⟨g3, hf⟩ := if_g hf
    refine kiald F B w 29 gM_29 g3 dX11_year_19 ?_
    refine lv_if_ne (tgt := 25) hx hb dX11_year_20 (by decide) (fun c4 => ?_) (fun c4 => ?_)
    · have hf := if_f hf c4
      refine lv_aload_n hx hb dX11_year_25 rfl (lv_at hl 0 rfl) ?_
      refine kget (v := .ref (ad 31)) F B w inX11_year_11 0 gM_0 rfl 46 (by decide) (hts (.fieldLink RX11 106 "LandReformModel" "restAt" "[I") (by decide +kernel)) rfl rfl dX11_year_26 ?_
      refine lv_iload_n hx hb dX11_year_29 rfl (lv_at hl 1 rfl) ?_
      obtain ⟨g5, hf⟩ := if_g hf
      refine kiald F B w 31 gM_31 g5 dX11_year_30 ?_
      refine lv_if_ne (tgt := 38) hx hb dX11_year_31 (by decide) (fun c6 => ?_) (fun c6 => ?_)
      · have hf := if_f hf c6
        refine lv_iconst (v := 0) hx hb dX11_year_38 (by decide) ?_
        refine lv_istore_n (lv' := [(3, .int 0), (0, .ref (ad 0)), (1, .int x1), (2, .int x2)]) hx hb dX11_year_39 rfl hl (by decide) rfl (fun ls hl => ?_)
        refine lv_aload_n hx hb dX11_year_40 rfl (lv_at hl 1 rfl) ?_
        refine kget (v := .ref (ad 31)) F B w inX11_year_11 0 gM_0 rfl 46 (by decide) (hts (.fieldLink RX11 106 "LandReformModel" "restAt" "[I") (by decide +kernel)) rfl rfl dX11_year_41 ?_
        refine lv_iload_n hx hb dX11_year_44 rfl (lv_at hl 2 rfl) ?_
        refine lv_dup2_11 hx hb dX11_year_45 rfl rfl ?_
        obtain ⟨g7, hf⟩ := if_g hf
        refine kiald F B w 31 gM_31 g7 dX11_year_46 ?_
        refine lv_iconst (v := 1) hx hb dX11_year_47 (by decide) ?_
        refine lv_isub hx hb dX11_year_48 ?_
        obtain ⟨g8, hf⟩ := if_g hf
        refine kiast F B w 31 gM_31 g8 bM_31 dX11_year_49 (fun H locs w => ?_)
        obtain ⟨S9, eS9⟩ : ∃ z, z = sA S 46 (Int32.toNatClampNeg x1) ((S.2.1 46 (Int32.toNatClampNeg x1)) - 1) := ⟨_, rfl⟩
        rw [← eS9] at w
        have hf := lt_e hf eS9
        refine lv_iload_n hx hb dX11_year_50 rfl (lv_at hl 3 rfl) ?_
        refine lv_if_ne (tgt := 84) hx hb dX11_year_51 (by decide) (fun c10 => ?_) (fun c10 => ?_)
        · have hf := if_f hf c10
          refine lv_aload_n hx hb dX11_year_84 rfl (lv_at hl 1 rfl) ?_
          refine kget (v := .ref (ad 26)) F B w inX11_year_11 0 gM_0 rfl 41 (by decide) (hts (.fieldLink RX11 91 "LandReformModel" "owed" "[I") (by decide +kernel)) rfl rfl dX11_year_85 ?_
          refine lv_iload_n hx hb dX11_year_88 rfl (lv_at hl 2 rfl) ?_
          obtain ⟨g11, hf⟩ := if_g hf
          refine kiald F B w 26 gM_26 g11 dX11_year_89 ?_
          refine lv_aload_n hx hb dX11_year_90 rfl (lv_at hl 1 rfl) ?_
          refine kget (v := .ref (ad 27)) F B w inX11_year_11 0 gM_0 rfl 42 (by decide) (hts (.fieldLink RX11 94 "LandReformModel" "parts" "[I") (by decide +kernel)) rfl rfl dX11_year_91 ?_
          refine lv_iload_n hx hb dX11_year_94 rfl (lv_at hl 2 rfl) ?_
          obtain ⟨g12, hf⟩ := if_g hf
          refine kiald F B w 27 gM_27 g12 dX11_year_95 ?_
          obtain ⟨g13, hf⟩ := if_g hf
          refine lv_idiv hx hb dX11_year_96 g13 ?_
          refine lv_topi (fun v14 ev14 => ?_)
          have hf := lt_e hf ev14
          refine lv_istore (lv' := [(4, .int v14), (3, .int 0), (0, .ref (ad 0)), (1, .int x1), (2, .int x2)]) hx hb dX11_year_97 hl (by decide) rfl (fun ls hl => ?_)
          refine lv_iload_n hx hb dX11_year_99 rfl (lv_at hl 1 rfl) ?_
          refine lv_if_eq (tgt := 124) hx hb dX11_year_100 (by decide) (fun _ => ?_) (fun c => absurd (by decide) c)
          refine lv_iload hx hb dX11_year_124 (lv_at hl 0 rfl) ?_
          refine lv_istore (lv' := [(5, .int v14), (4, .int v14), (3, .int 0), (0, .ref (ad 0)), (1, .int x1), (2, .int x2)]) hx hb dX11_year_126 hl (by decide) rfl (fun ls hl => ?_)
          refine lv_aload_n hx hb dX11_year_128 rfl (lv_at hl 3 rfl) ?_
          refine kget (v := .ref (ad 28)) F B w inX11_year_11 0 gM_0 rfl 43 (by decide) (hts (.fieldLink RX11 97 "LandReformModel" "paid" "[I") (by decide +kernel)) rfl rfl dX11_year_129 ?_
          refine lv_iload_n hx hb dX11_year_132 rfl (lv_at hl 4 rfl) ?_
          refine lv_dup2_11 hx hb dX11_year_133 rfl rfl ?_
          obtain ⟨g16, hf⟩ := if_g hf
          refine kiald F B w 28 gM_28 g16 dX11_year_134 ?_
          refine lv_iload hx hb dX11_year_135 (lv_at hl 0 rfl) ?_
          refine lv_iadd hx hb dX11_year_137 ?_
          obtain ⟨g17, hf⟩ := if_g hf
          refine kiast F B w 28 gM_28 g17 bM_28 dX11_year_138 (fun H locs w => ?_)
          obtain ⟨S18, eS18⟩ : ∃ z, z = sA S9 43 (Int32.toNatClampNeg x1) ((S9.2.1 43 (Int32.toNatClampNeg x1)) + v14) := ⟨_, rfl⟩
          rw [← eS18] at w
          have hf := lt_e hf eS18
          refine lv_aload_n hx hb dX11_year_139 rfl (lv_at hl 3 rfl) ?_
          refine kget (v := .ref (ad 29)) F B w inX11_year_11 0 gM_0 rfl 44 (by decide) (hts (.fieldLink RX11 100 "LandReformModel" "left" "[I") (by decide +kernel)) rfl rfl dX11_year_140 ?_
          refine lv_iload_n hx hb dX11_year_143 rfl (lv_at hl 4 rfl) ?_
          refine lv_dup2_11 hx hb dX11_year_144 rfl rfl ?_
          obtain ⟨g19, hf⟩ := if_g hf
          refine kiald F B w 29 gM_29 g19 dX11_year_145 ?_
          refine lv_iconst (v := 1) hx hb dX11_year_146 (by decide) ?_
          refine lv_isub hx hb dX11_year_147 ?_
          obtain ⟨g20, hf⟩ := if_g hf
          refine kiast F B w 29 gM_29 g20 bM_29 dX11_year_148 (fun H locs w => ?_)
          obtain ⟨S21, eS21⟩ : ∃ z, z = sA S18 44 (Int32.toNatClampNeg x1) ((S18.2.1 44 (Int32.toNatClampNeg x1)) - 1) := ⟨_, rfl⟩
          rw [← eS21] at w
          have hf := lt_e hf eS21
          refine lv_iload hx hb dX11_year_149 (lv_at hl 0 rfl) ?_
          cases hf
          exact hQ _ _ _ _ dX11_year_151 w
        · have hf := if_t hf c10
          refine lv_aload_n hx hb dX11_year_54 rfl (lv_at hl 1 rfl) ?_
          refine kget (v := .ref (ad 30)) F B w inX11_year_11 0 gM_0 rfl 45 (by decide) (hts (.fieldLink RX11 103 "LandReformModel" "putOff" "[I") (by decide +kernel)) rfl rfl dX11_year_55 ?_
          refine lv_iload_n hx hb dX11_year_58 rfl (lv_at hl 2 rfl) ?_
          refine lv_dup2_11 hx hb dX11_year_59 rfl rfl ?_
          obtain ⟨g22, hf⟩ := if_g hf
          refine kiald F B w 30 gM_30 g22 dX11_year_60 ?_
          refine lv_iconst (v := 1) hx hb dX11_year_61 (by decide) ?_
          refine lv_iadd hx hb dX11_year_62 ?_
          obtain ⟨g23, hf⟩ := if_g hf
          refine kiast F B w 30 gM_30 g23 bM_30 dX11_year_63 (fun H locs w => ?_)
          obtain ⟨S24, eS24⟩ : ∃ z, z = sA S9 45 (Int32.toNatClampNeg x1) ((S9.2.1 45 (Int32.toNatClampNeg x1)) + 1) := ⟨_, rfl⟩
          rw [← eS24] at w
          have hf := lt_e hf eS24
          refine lv_iload_n hx hb dX11_year_64 rfl (lv_at hl 0 rfl) ?_
          refine lv_if_eq (tgt := 82) hx hb dX11_year_65 (by decide) (fun _ => ?_) (fun c => absurd (by decide) c)
          refine lv_iconst (v := 0) hx hb dX11_year_82 (by decide) ?_
          cases hf
          exact hQ _ _ _ _ dX11_year_83 w
      · have hf := if_t hf c6
        refine lv_iconst (v := 1) hx hb dX11_year_34 (by decide) ?_
        refine lv_goto (tgt := 39) hx hb dX11_year_35 (by decide) ?_
        refine lv_istore_n (lv' := [(3, .int 1), (0, .ref (ad 0)), (1, .int x1), (2, .int x2)]) hx hb dX11_year_39 rfl hl (by decide) rfl (fun ls hl => ?_)
        refine lv_aload_n hx hb dX11_year_40 rfl (lv_at hl 1 rfl) ?_
        refine kget (v := .ref (ad 31)) F B w inX11_year_11 0 gM_0 rfl 46 (by decide) (hts (.fieldLink RX11 106 "LandReformModel" "restAt" "[I") (by decide +kernel)) rfl rfl dX11_year_41 ?_
        refine lv_iload_n hx hb dX11_year_44 rfl (lv_at hl 2 rfl) ?_
        refine lv_dup2_11 hx hb dX11_year_45 rfl rfl ?_
        obtain ⟨g26, hf⟩ := if_g hf
        refine kiald F B w 31 gM_31 g26 dX11_year_46 ?_
        refine lv_iconst (v := 1) hx hb dX11_year_47 (by decide) ?_
        refine lv_isub hx hb dX11_year_48 ?_
        obtain ⟨g27, hf⟩ := if_g hf
        refine kiast F B w 31 gM_31 g27 bM_31 dX11_year_49 (fun H locs w => ?_)
        obtain ⟨S28, eS28⟩ : ∃ z, z = sA S 46 (Int32.toNatClampNeg x1) ((S.2.1 46 (Int32.toNatClampNeg x1)) - 1) := ⟨_, rfl⟩
        rw [← eS28] at w
        have hf := lt_e hf eS28
        refine lv_iload_n hx hb dX11_year_50 rfl (lv_at hl 3 rfl) ?_
        refine lv_if_ne (tgt := 84) hx hb dX11_year_51 (by decide) (fun c29 => ?_) (fun c29 => ?_)
        · have hf := if_f hf c29
          refine lv_aload_n hx hb dX11_year_84 rfl (lv_at hl 1 rfl) ?_
          refine kget (v := .ref (ad 26)) F B w inX11_year_11 0 gM_0 rfl 41 (by decide) (hts (.fieldLink RX11 91 "LandReformModel" "owed" "[I") (by decide +kernel)) rfl rfl dX11_year_85 ?_
          refine lv_iload_n hx hb dX11_year_88 rfl (lv_at hl 2 rfl) ?_
          obtain ⟨g30, hf⟩ := if_g hf
          refine kiald F B w 26 gM_26 g30 dX11_year_89 ?_
          refine lv_aload_n hx hb dX11_year_90 rfl (lv_at hl 1 rfl) ?_
          refine kget (v := .ref (ad 27)) F B w inX11_year_11 0 gM_0 rfl 42 (by decide) (hts (.fieldLink RX11 94 "LandReformModel" "parts" "[I") (by decide +kernel)) rfl rfl dX11_year_91 ?_
          refine lv_iload_n hx hb dX11_year_94 rfl (lv_at hl 2 rfl) ?_
          obtain ⟨g31, hf⟩ := if_g hf
          refine kiald F B w 27 gM_27 g31 dX11_year_95 ?_
          obtain ⟨g32, hf⟩ := if_g hf
          refine lv_idiv hx hb dX11_year_96 g32 ?_
          refine lv_topi (fun v33 ev33 => ?_)
          have hf := lt_e hf ev33
          refine lv_istore (lv' := [(4, .int v33), (3, .int 1), (0, .ref (ad 0)), (1, .int x1), (2, .int x2)]) hx hb dX11_year_97 hl (by decide) rfl (fun ls hl => ?_)
          refine lv_iload_n hx hb dX11_year_99 rfl (lv_at hl 1 rfl) ?_
          refine lv_if_eq (tgt := 124) hx hb dX11_year_100 (by decide) (fun c => absurd c (by decide)) (fun _ => ?_)
          refine lv_aload_n hx hb dX11_year_103 rfl (lv_at hl 2 rfl) ?_
          refine kget (v := .ref (ad 26)) F B w inX11_year_11 0 gM_0 rfl 41 (by decide) (hts (.fieldLink RX11 91 "LandReformModel" "owed" "[I") (by decide +kernel)) rfl rfl dX11_year_104 ?_
          refine lv_iload_n hx hb dX11_year_107 rfl (lv_at hl 3 rfl) ?_
          obtain ⟨g35, hf⟩ := if_g hf
          refine kiald F B w 26 gM_26 g35 dX11_year_108 ?_
          refine lv_iload hx hb dX11_year_109 (lv_at hl 0 rfl) ?_
          refine lv_aload_n hx hb dX11_year_111 rfl (lv_at hl 2 rfl) ?_
          refine kget (v := .ref (ad 27)) F B w inX11_year_11 0 gM_0 rfl 42 (by decide) (hts (.fieldLink RX11 94 "LandReformModel" "parts" "[I") (by decide +kernel)) rfl rfl dX11_year_112 ?_
          refine lv_iload_n hx hb dX11_year_115 rfl (lv_at hl 3 rfl) ?_
          obtain ⟨g36, hf⟩ := if_g hf
          refine kiald F B w 27 gM_27 g36 dX11_year_116 ?_
          refine lv_iconst (v := 1) hx hb dX11_year_117 (by decide) ?_
          refine lv_isub hx hb dX11_year_118 ?_
          refine lv_imul hx hb dX11_year_119 ?_
          refine lv_isub hx hb dX11_year_120 ?_
          refine lv_goto (tgt := 126) hx hb dX11_year_121 (by decide) ?_
          refine lv_topi (fun v37 ev37 => ?_)
          have hf := lt_e hf ev37
          refine lv_istore (lv' := [(5, .int v37), (4, .int v33), (3, .int 1), (0, .ref (ad 0)), (1, .int x1), (2, .int x2)]) hx hb dX11_year_126 hl (by decide) rfl (fun ls hl => ?_)
          refine lv_aload_n hx hb dX11_year_128 rfl (lv_at hl 3 rfl) ?_
          refine kget (v := .ref (ad 28)) F B w inX11_year_11 0 gM_0 rfl 43 (by decide) (hts (.fieldLink RX11 97 "LandReformModel" "paid" "[I") (by decide +kernel)) rfl rfl dX11_year_129 ?_
          refine lv_iload_n hx hb dX11_year_132 rfl (lv_at hl 4 rfl) ?_
          refine lv_dup2_11 hx hb dX11_year_133 rfl rfl ?_
          obtain ⟨g38, hf⟩ := if_g hf
          refine kiald F B w 28 gM_28 g38 dX11_year_134 ?_
          refine lv_iload hx hb dX11_year_135 (lv_at hl 0 rfl) ?_
          refine lv_iadd hx hb dX11_year_137 ?_
          obtain ⟨g39, hf⟩ := if_g hf
          refine kiast F B w 28 gM_28 g39 bM_28 dX11_year_138 (fun H locs w => ?_)
          obtain ⟨S40, eS40⟩ : ∃ z, z = sA S28 43 (Int32.toNatClampNeg x1) ((S28.2.1 43 (Int32.toNatClampNeg x1)) + v37) := ⟨_, rfl⟩
          rw [← eS40] at w
          have hf := lt_e hf eS40
          refine lv_aload_n hx hb dX11_year_139 rfl (lv_at hl 3 rfl) ?_
          refine kget (v := .ref (ad 29)) F B w inX11_year_11 0 gM_0 rfl 44 (by decide) (hts (.fieldLink RX11 100 "LandReformModel" "left" "[I") (by decide +kernel)) rfl rfl dX11_year_140 ?_
          refine lv_iload_n hx hb dX11_year_143 rfl (lv_at hl 4 rfl) ?_
          refine lv_dup2_11 hx hb dX11_year_144 rfl rfl ?_
          obtain ⟨g41, hf⟩ := if_g hf
          refine kiald F B w 29 gM_29 g41 dX11_year_145 ?_
          refine lv_iconst (v := 1) hx hb dX11_year_146 (by decide) ?_
          refine lv_isub hx hb dX11_year_147 ?_
          obtain ⟨g42, hf⟩ := if_g hf
          refine kiast F B w 29 gM_29 g42 bM_29 dX11_year_148 (fun H locs w => ?_)
          obtain ⟨S43, eS43⟩ : ∃ z, z = sA S40 44 (Int32.toNatClampNeg x1) ((S40.2.1 44 (Int32.toNatClampNeg x1)) - 1) := ⟨_, rfl⟩
          rw [← eS43] at w
          have hf := lt_e hf eS43
          refine lv_iload hx hb dX11_year_149 (lv_at hl 0 rfl) ?_
          cases hf
          exact hQ _ _ _ _ dX11_year_151 w
        · have hf := if_t hf c29
          refine lv_aload_n hx hb dX11_year_54 rfl (lv_at hl 1 rfl) ?_
          refine kget (v := .ref (ad 30)) F B w inX11_year_11 0 gM_0 rfl 45 (by decide) (hts (.fieldLink RX11 103 "LandReformModel" "putOff" "[I") (by decide +kernel)) rfl rfl dX11_year_55 ?_
          refine lv_iload_n hx hb dX11_year_58 rfl (lv_at hl 2 rfl) ?_
          refine lv_dup2_11 hx hb dX11_year_59 rfl rfl ?_
          obtain ⟨g44, hf⟩ := if_g hf
          refine kiald F B w 30 gM_30 g44 dX11_year_60 ?_
          refine lv_iconst (v := 1) hx hb dX11_year_61 (by decide) ?_
          refine lv_iadd hx hb dX11_year_62 ?_
          obtain ⟨g45, hf⟩ := if_g hf
          refine kiast F B w 30 gM_30 g45 bM_30 dX11_year_63 (fun H locs w => ?_)
          obtain ⟨S46, eS46⟩ : ∃ z, z = sA S28 45 (Int32.toNatClampNeg x1) ((S28.2.1 45 (Int32.toNatClampNeg x1)) + 1) := ⟨_, rfl⟩
          rw [← eS46] at w
          have hf := lt_e hf eS46
          refine lv_iload_n hx hb dX11_year_64 rfl (lv_at hl 0 rfl) ?_
          refine lv_if_eq (tgt := 82) hx hb dX11_year_65 (by decide) (fun c => absurd c (by decide)) (fun _ => ?_)
          refine lv_aload_n hx hb dX11_year_68 rfl (lv_at hl 1 rfl) ?_
          refine kget (v := .ref (ad 31)) F B w inX11_year_11 0 gM_0 rfl 46 (by decide) (hts (.fieldLink RX11 106 "LandReformModel" "restAt" "[I") (by decide +kernel)) rfl rfl dX11_year_69 ?_
          refine lv_iload_n hx hb dX11_year_72 rfl (lv_at hl 2 rfl) ?_
          refine lv_aload_n hx hb dX11_year_73 rfl (lv_at hl 1 rfl) ?_
          refine kget (v := .ref (ad 29)) F B w inX11_year_11 0 gM_0 rfl 44 (by decide) (hts (.fieldLink RX11 100 "LandReformModel" "left" "[I") (by decide +kernel)) rfl rfl dX11_year_74 ?_
          refine lv_iload_n hx hb dX11_year_77 rfl (lv_at hl 2 rfl) ?_
          obtain ⟨g48, hf⟩ := if_g hf
          refine kiald F B w 29 gM_29 g48 dX11_year_78 ?_
          refine lv_iconst (v := 1) hx hb dX11_year_79 (by decide) ?_
          refine lv_isub hx hb dX11_year_80 ?_
          obtain ⟨g49, hf⟩ := if_g hf
          refine kiast F B w 31 gM_31 g49 bM_31 dX11_year_81 (fun H locs w => ?_)
          obtain ⟨S50, eS50⟩ : ∃ z, z = sA S46 46 (Int32.toNatClampNeg x1) ((S46.2.1 44 (Int32.toNatClampNeg x1)) - 1) := ⟨_, rfl⟩
          rw [← eS50] at w
          have hf := lt_e hf eS50
          refine lv_iconst (v := 0) hx hb dX11_year_82 (by decide) ?_
          cases hf
          exact hQ _ _ _ _ dX11_year_83 w
    · have hf := if_t hf c4
      refine lv_iconst (v := (-1)) hx hb dX11_year_23 (by decide) ?_
      cases hf
      exact hQ _ _ _ _ dX11_year_24 w

def fX11_sale (S : St) (x1 : Int32) (x2 : Int32) : Option Int32 := ob (fX11_isIn x1 0 ((S.1 38) - 1)) fun r1 => if r1 = 0 then (some (-1)) else (if x2 = 0 then (if x1 < 0 ∨ 20 ≤ Int32.toNatClampNeg x1 then none else some (S.2.1 39 (Int32.toNatClampNeg x1))) else if x2 = 1 then (if x1 < 0 ∨ 20 ≤ Int32.toNatClampNeg x1 then none else some (S.2.1 40 (Int32.toNatClampNeg x1))) else if x2 = 2 then (if x1 < 0 ∨ 20 ≤ Int32.toNatClampNeg x1 then none else some (S.2.1 41 (Int32.toNatClampNeg x1))) else if x2 = 3 then (if x1 < 0 ∨ 20 ≤ Int32.toNatClampNeg x1 then none else some (S.2.1 43 (Int32.toNatClampNeg x1))) else if x2 = 4 then (if x1 < 0 ∨ 20 ≤ Int32.toNatClampNeg x1 then none else some (S.2.1 44 (Int32.toNatClampNeg x1))) else if x2 = 5 then (if x1 < 0 ∨ 20 ≤ Int32.toNatClampNeg x1 then none else some (S.2.1 45 (Int32.toNatClampNeg x1))) else (some (-1)))
set_option maxRecDepth 20000 in
theorem inX11_sale_11 : ∀ w ∈ u_ws RX11 TX11 47, w ∈ wsX11_sale := by decide +kernel
set_option maxHeartbeats 4000000 in
set_option maxRecDepth 100000 in
theorem tX11_sale {l : Launch} {D : va_G} {cc : Nat → ClassId} {ak av : Nat → Nat} {ad : Nat → Nat} {E : va_W} {S : St} {x1 : Int32} {x2 : Int32} {r : Int32} (hf : fX11_sale S x1 x2 = some r) : CI l yX11_sale wsX11_sale ({ frames := 1, cells := 0, slots := 0, locals := 22 } : Room) D cc ak av [.ref (ad 0), .int x1, .int x2] (WM cc ad S ++ E) (WM cc ad S ++ E) r := by
  refine mkI (c0 := cX11_sale) (nL := 3) (own := RX11) rfl rfl (by decide) rfl rfl (Nat.le_of_ble_eq_true rfl) ?_
  intro p e s m args below meth c A Q ls F B hQ hl w
  have hx := F.1
  have hb := F.2.1
  have hown := F.2.2.2.1
  have hts := F.2.2.2.2
  have hl : lv_has ls 3 [(0, .ref (ad 0)), (1, .int x1), (2, .int x2)] := hl
  unfold fX11_sale at hf
  refine lv_iload_n hx hb dX11_sale_0 rfl (lv_at hl 1 rfl) ?_
  refine lv_iconst (v := 0) hx hb dX11_sale_1 (by decide) ?_
  refine lv_aload_n hx hb dX11_sale_2 rfl (lv_at hl 0 rfl) ?_
  refine kget (v := .int (S.1 38)) F B w inX11_sale_11 0 gM_0 rfl 38 (by decide) (hts (.fieldLink RX11 278 "LandReformModel" "sales" "I") (by decide +kernel)) rfl rfl dX11_sale_3 ?_
  refine lv_iconst (v := 1) hx hb dX11_sale_6 (by decide) ?_
  refine lv_isub hx hb dX11_sale_7 ?_
  obtain ⟨r1, er1, hf⟩ := ob_e hf
  refine kSi (As := [.int x1, .int 0, .int ((S.1 38) - 1)]) (rest := []) F B w (tX11_isIn er1) (va_cwS 3 hts gX11_sale_X11_isIn rfl rfl rfl (by decide +kernel) ⟨Nat.le_of_ble_eq_true rfl, Nat.le_of_ble_eq_true rfl⟩) rfl hl.1 rfl (Nat.le_of_ble_eq_true rfl) dX11_sale_8 ⟨Nat.le_of_ble_eq_true rfl, Nat.le_of_ble_eq_true rfl⟩ (fun H locs w => ?_)
  refine lv_if_ne (tgt := 16) hx hb dX11_sale_11 (by decide) (fun c2 => ?_) (fun c2 => ?_)
  · have hf := if_f hf c2
    refine lv_iload_n hx hb dX11_sale_16 rfl (lv_at hl 2 rfl) ?_
    by_cases c4 : x2 = 0
    · have hf := if_t hf c4
      refine lv_tableIn (off := 39) (tgt := 56) hx hb dX11_sale_17 (by rw [c4]; decide) (by rw [c4]; decide) (by rw [c4]; rfl) (by decide) ?_
      refine lv_aload_n hx hb dX11_sale_56 rfl (lv_at hl 0 rfl) ?_
      refine kget (v := .ref (ad 24)) F B w inX11_sale_11 0 gM_0 rfl 39 (by decide) (hts (.fieldLink RX11 85 "LandReformModel" "saleField" "[I") (by decide +kernel)) rfl rfl dX11_sale_57 ?_
      refine lv_iload_n hx hb dX11_sale_60 rfl (lv_at hl 1 rfl) ?_
      obtain ⟨g3, hf⟩ := if_g hf
      refine kiald F B w 24 gM_24 g3 dX11_sale_61 ?_
      cases hf
      exact hQ _ _ _ _ dX11_sale_62 w
    · have hf := if_f hf c4
      by_cases c6 : x2 = 1
      · have hf := if_t hf c6
        refine lv_tableIn (off := 46) (tgt := 63) hx hb dX11_sale_17 (by rw [c6]; decide) (by rw [c6]; decide) (by rw [c6]; rfl) (by decide) ?_
        refine lv_aload_n hx hb dX11_sale_63 rfl (lv_at hl 0 rfl) ?_
        refine kget (v := .ref (ad 25)) F B w inX11_sale_11 0 gM_0 rfl 40 (by decide) (hts (.fieldLink RX11 88 "LandReformModel" "buyer" "[I") (by decide +kernel)) rfl rfl dX11_sale_64 ?_
        refine lv_iload_n hx hb dX11_sale_67 rfl (lv_at hl 1 rfl) ?_
        obtain ⟨g5, hf⟩ := if_g hf
        refine kiald F B w 25 gM_25 g5 dX11_sale_68 ?_
        cases hf
        exact hQ _ _ _ _ dX11_sale_69 w
      · have hf := if_f hf c6
        by_cases c8 : x2 = 2
        · have hf := if_t hf c8
          refine lv_tableIn (off := 53) (tgt := 70) hx hb dX11_sale_17 (by rw [c8]; decide) (by rw [c8]; decide) (by rw [c8]; rfl) (by decide) ?_
          refine lv_aload_n hx hb dX11_sale_70 rfl (lv_at hl 0 rfl) ?_
          refine kget (v := .ref (ad 26)) F B w inX11_sale_11 0 gM_0 rfl 41 (by decide) (hts (.fieldLink RX11 91 "LandReformModel" "owed" "[I") (by decide +kernel)) rfl rfl dX11_sale_71 ?_
          refine lv_iload_n hx hb dX11_sale_74 rfl (lv_at hl 1 rfl) ?_
          obtain ⟨g7, hf⟩ := if_g hf
          refine kiald F B w 26 gM_26 g7 dX11_sale_75 ?_
          cases hf
          exact hQ _ _ _ _ dX11_sale_76 w
        · have hf := if_f hf c8
          by_cases c10 : x2 = 3
          · have hf := if_t hf c10
            refine lv_tableIn (off := 60) (tgt := 77) hx hb dX11_sale_17 (by rw [c10]; decide) (by rw [c10]; decide) (by rw [c10]; rfl) (by decide) ?_
            refine lv_aload_n hx hb dX11_sale_77 rfl (lv_at hl 0 rfl) ?_
            refine kget (v := .ref (ad 28)) F B w inX11_sale_11 0 gM_0 rfl 43 (by decide) (hts (.fieldLink RX11 97 "LandReformModel" "paid" "[I") (by decide +kernel)) rfl rfl dX11_sale_78 ?_
            refine lv_iload_n hx hb dX11_sale_81 rfl (lv_at hl 1 rfl) ?_
            obtain ⟨g9, hf⟩ := if_g hf
            refine kiald F B w 28 gM_28 g9 dX11_sale_82 ?_
            cases hf
            exact hQ _ _ _ _ dX11_sale_83 w
          · have hf := if_f hf c10
            by_cases c12 : x2 = 4
            · have hf := if_t hf c12
              refine lv_tableIn (off := 67) (tgt := 84) hx hb dX11_sale_17 (by rw [c12]; decide) (by rw [c12]; decide) (by rw [c12]; rfl) (by decide) ?_
              refine lv_aload_n hx hb dX11_sale_84 rfl (lv_at hl 0 rfl) ?_
              refine kget (v := .ref (ad 29)) F B w inX11_sale_11 0 gM_0 rfl 44 (by decide) (hts (.fieldLink RX11 100 "LandReformModel" "left" "[I") (by decide +kernel)) rfl rfl dX11_sale_85 ?_
              refine lv_iload_n hx hb dX11_sale_88 rfl (lv_at hl 1 rfl) ?_
              obtain ⟨g11, hf⟩ := if_g hf
              refine kiald F B w 29 gM_29 g11 dX11_sale_89 ?_
              cases hf
              exact hQ _ _ _ _ dX11_sale_90 w
            · have hf := if_f hf c12
              by_cases c14 : x2 = 5
              · have hf := if_t hf c14
                refine lv_tableIn (off := 74) (tgt := 91) hx hb dX11_sale_17 (by rw [c14]; decide) (by rw [c14]; decide) (by rw [c14]; rfl) (by decide) ?_
                refine lv_aload_n hx hb dX11_sale_91 rfl (lv_at hl 0 rfl) ?_
                refine kget (v := .ref (ad 30)) F B w inX11_sale_11 0 gM_0 rfl 45 (by decide) (hts (.fieldLink RX11 103 "LandReformModel" "putOff" "[I") (by decide +kernel)) rfl rfl dX11_sale_92 ?_
                refine lv_iload_n hx hb dX11_sale_95 rfl (lv_at hl 1 rfl) ?_
                obtain ⟨g13, hf⟩ := if_g hf
                refine kiald F B w 30 gM_30 g13 dX11_sale_96 ?_
                cases hf
                exact hQ _ _ _ _ dX11_sale_97 w
              · have hf := if_f hf c14
                have hsw : Int32.toInt x2 < 0 ∨ 5 < Int32.toInt x2 := by
                  have hc4 := lv_neT c4 (a := 0) (by decide)
                  have hc6 := lv_neT c6 (a := 1) (by decide)
                  have hc8 := lv_neT c8 (a := 2) (by decide)
                  have hc10 := lv_neT c10 (a := 3) (by decide)
                  have hc12 := lv_neT c12 (a := 4) (by decide)
                  have hc14 := lv_neT c14 (a := 5) (by decide)
                  omega
                refine lv_tableOut (tgt := 98) hx hb dX11_sale_17 hsw (by decide) ?_
                refine lv_iconst (v := (-1)) hx hb dX11_sale_98 (by decide) ?_
                cases hf
                exact hQ _ _ _ _ dX11_sale_99 w
  · have hf := if_t hf c2
    refine lv_iconst (v := (-1)) hx hb dX11_sale_14 (by decide) ?_
    cases hf
    exact hQ _ _ _ _ dX11_sale_15 w

def fX11_count (S : St) (x1 : Int32) : Option Int32 := if x1 = 0 then (some (S.1 0)) else if x1 = 1 then (some (S.1 1)) else if x1 = 2 then (some (S.1 2)) else if x1 = 3 then (some (S.1 3)) else if x1 = 4 then (some (S.1 17)) else if x1 = 5 then (some (S.1 38)) else if x1 = 6 then (some (S.1 20)) else if x1 = 7 then (some (S.1 4)) else (some (-1))
set_option maxRecDepth 20000 in
theorem inX11_count_11 : ∀ w ∈ u_ws RX11 TX11 47, w ∈ wsX11_count := by decide +kernel
set_option maxHeartbeats 4000000 in
set_option maxRecDepth 100000 in
theorem tX11_count {l : Launch} {D : va_G} {cc : Nat → ClassId} {ak av : Nat → Nat} {ad : Nat → Nat} {E : va_W} {S : St} {x1 : Int32} {r : Int32} (hf : fX11_count S x1 = some r) : CI l yX11_count wsX11_count ({ frames := 0, cells := 0, slots := 0, locals := 0 } : Room) D cc ak av [.ref (ad 0), .int x1] (WM cc ad S ++ E) (WM cc ad S ++ E) r := by
  refine mkI (c0 := cX11_count) (nL := 2) (own := RX11) rfl rfl (by decide) rfl rfl (Nat.le_of_ble_eq_true rfl) ?_
  intro p e s m args below meth c A Q ls F B hQ hl w
  have hx := F.1
  have hb := F.2.1
  have hown := F.2.2.2.1
  have hts := F.2.2.2.2
  have hl : lv_has ls 2 [(0, .ref (ad 0)), (1, .int x1)] := hl
  unfold fX11_count at hf
  refine lv_iload_n hx hb dX11_count_0 rfl (lv_at hl 1 rfl) ?_
  by_cases c1 : x1 = 0
  · have hf := if_t hf c1
    refine lv_tableIn (off := 47) (tgt := 48) hx hb dX11_count_1 (by rw [c1]; decide) (by rw [c1]; decide) (by rw [c1]; rfl) (by decide) ?_
    refine lv_aload_n hx hb dX11_count_48 rfl (lv_at hl 0 rfl) ?_
    refine kget (v := .int (S.1 0)) F B w inX11_count_11 0 gM_0 rfl 0 (by decide) (hts (.fieldLink RX11 130 "LandReformModel" "today" "I") (by decide +kernel)) rfl rfl dX11_count_49 ?_
    cases hf
    exact hQ _ _ _ _ dX11_count_52 w
  · have hf := if_f hf c1
    by_cases c2 : x1 = 1
    · have hf := if_t hf c2
      refine lv_tableIn (off := 52) (tgt := 53) hx hb dX11_count_1 (by rw [c2]; decide) (by rw [c2]; decide) (by rw [c2]; rfl) (by decide) ?_
      refine lv_aload_n hx hb dX11_count_53 rfl (lv_at hl 0 rfl) ?_
      refine kget (v := .int (S.1 1)) F B w inX11_count_11 0 gM_0 rfl 1 (by decide) (hts (.fieldLink RX11 113 "LandReformModel" "persons" "I") (by decide +kernel)) rfl rfl dX11_count_54 ?_
      cases hf
      exact hQ _ _ _ _ dX11_count_57 w
    · have hf := if_f hf c2
      by_cases c3 : x1 = 2
      · have hf := if_t hf c3
        refine lv_tableIn (off := 57) (tgt := 58) hx hb dX11_count_1 (by rw [c3]; decide) (by rw [c3]; decide) (by rw [c3]; rfl) (by decide) ?_
        refine lv_aload_n hx hb dX11_count_58 rfl (lv_at hl 0 rfl) ?_
        refine kget (v := .int (S.1 2)) F B w inX11_count_11 0 gM_0 rfl 2 (by decide) (hts (.fieldLink RX11 120 "LandReformModel" "fields" "I") (by decide +kernel)) rfl rfl dX11_count_59 ?_
        cases hf
        exact hQ _ _ _ _ dX11_count_62 w
      · have hf := if_f hf c3
        by_cases c4 : x1 = 3
        · have hf := if_t hf c4
          refine lv_tableIn (off := 62) (tgt := 63) hx hb dX11_count_1 (by rw [c4]; decide) (by rw [c4]; decide) (by rw [c4]; rfl) (by decide) ?_
          refine lv_aload_n hx hb dX11_count_63 rfl (lv_at hl 0 rfl) ?_
          refine kget (v := .int (S.1 3)) F B w inX11_count_11 0 gM_0 rfl 3 (by decide) (hts (.fieldLink RX11 133 "LandReformModel" "transfers" "I") (by decide +kernel)) rfl rfl dX11_count_64 ?_
          cases hf
          exact hQ _ _ _ _ dX11_count_67 w
        · have hf := if_f hf c4
          by_cases c5 : x1 = 4
          · have hf := if_t hf c5
            refine lv_tableIn (off := 67) (tgt := 68) hx hb dX11_count_1 (by rw [c5]; decide) (by rw [c5]; decide) (by rw [c5]; rfl) (by decide) ?_
            refine lv_aload_n hx hb dX11_count_68 rfl (lv_at hl 0 rfl) ?_
            refine kget (v := .int (S.1 17)) F B w inX11_count_11 0 gM_0 rfl 17 (by decide) (hts (.fieldLink RX11 206 "LandReformModel" "many" "I") (by decide +kernel)) rfl rfl dX11_count_69 ?_
            cases hf
            exact hQ _ _ _ _ dX11_count_72 w
          · have hf := if_f hf c5
            by_cases c6 : x1 = 5
            · have hf := if_t hf c6
              refine lv_tableIn (off := 72) (tgt := 73) hx hb dX11_count_1 (by rw [c6]; decide) (by rw [c6]; decide) (by rw [c6]; rfl) (by decide) ?_
              refine lv_aload_n hx hb dX11_count_73 rfl (lv_at hl 0 rfl) ?_
              refine kget (v := .int (S.1 38)) F B w inX11_count_11 0 gM_0 rfl 38 (by decide) (hts (.fieldLink RX11 278 "LandReformModel" "sales" "I") (by decide +kernel)) rfl rfl dX11_count_74 ?_
              cases hf
              exact hQ _ _ _ _ dX11_count_77 w
            · have hf := if_f hf c6
              by_cases c7 : x1 = 6
              · have hf := if_t hf c7
                refine lv_tableIn (off := 77) (tgt := 78) hx hb dX11_count_1 (by rw [c7]; decide) (by rw [c7]; decide) (by rw [c7]; rfl) (by decide) ?_
                refine lv_aload_n hx hb dX11_count_78 rfl (lv_at hl 0 rfl) ?_
                refine kget (v := .int (S.1 20)) F B w inX11_count_11 0 gM_0 rfl 20 (by decide) (hts (.fieldLink RX11 151 "LandReformModel" "taped" "I") (by decide +kernel)) rfl rfl dX11_count_79 ?_
                cases hf
                exact hQ _ _ _ _ dX11_count_82 w
              · have hf := if_f hf c7
                by_cases c8 : x1 = 7
                · have hf := if_t hf c8
                  refine lv_tableIn (off := 82) (tgt := 83) hx hb dX11_count_1 (by rw [c8]; decide) (by rw [c8]; decide) (by rw [c8]; rfl) (by decide) ?_
                  refine lv_aload_n hx hb dX11_count_83 rfl (lv_at hl 0 rfl) ?_
                  refine kget (v := .int (S.1 4)) F B w inX11_count_11 0 gM_0 rfl 4 (by decide) (hts (.fieldLink RX11 127 "LandReformModel" "kin" "I") (by decide +kernel)) rfl rfl dX11_count_84 ?_
                  cases hf
                  exact hQ _ _ _ _ dX11_count_87 w
                · have hf := if_f hf c8
                  have hsw : Int32.toInt x1 < 0 ∨ 7 < Int32.toInt x1 := by
                    have hc1 := lv_neT c1 (a := 0) (by decide)
                    have hc2 := lv_neT c2 (a := 1) (by decide)
                    have hc3 := lv_neT c3 (a := 2) (by decide)
                    have hc4 := lv_neT c4 (a := 3) (by decide)
                    have hc5 := lv_neT c5 (a := 4) (by decide)
                    have hc6 := lv_neT c6 (a := 5) (by decide)
                    have hc7 := lv_neT c7 (a := 6) (by decide)
                    have hc8 := lv_neT c8 (a := 7) (by decide)
                    omega
                  refine lv_tableOut (tgt := 88) hx hb dX11_count_1 hsw (by decide) ?_
                  refine lv_iconst (v := (-1)) hx hb dX11_count_88 (by decide) ?_
                  cases hf
                  exact hQ _ _ _ _ dX11_count_89 w
