def fX3_setSoil (S : St) (x1 : Int32) (x2 : Int32) : Option St := ob (fX10_isBelow x1 4) fun r1 => if r1 = 0 then (some S) else (if x1 < 0 ∨ 4 ≤ Int32.toNatClampNeg x1 then none else lt_ (sA S 31 (Int32.toNatClampNeg x1) x2) fun S4 => some S4)
set_option maxRecDepth 20000 in
theorem inX3_setSoil_3 : ∀ w ∈ u_ws RX3 TX3 9, w ∈ wsX3_setSoil := by decide +kernel
set_option maxHeartbeats 4000000 in
set_option maxRecDepth 100000 in
theorem tX3_setSoil {l : Launch} {D : va_G} {cc : Nat → ClassId} {ak av : Nat → Nat} {ad : Nat → Nat} {g : Nat → Option Nat} {E : va_W} {S : St} {x1 : Int32} {x2 : Int32} {S' : St} (hf : fX3_setSoil S x1 x2 = some S') : CV l yX3_setSoil wsX3_setSoil ({ frames := 1, cells := 0, slots := 0, locals := 21 } : Room) D cc ak av [.ref (ad 11), .int x1, .int x2] (WX cc ad g S ++ E) (WX cc ad g S' ++ E) := by
  refine mkV (c0 := cX3_setSoil) (nL := 3) (own := RX3) rfl rfl (by decide) rfl rfl (Nat.le_of_ble_eq_true rfl) ?_
  intro p e s m args below meth c A Q ls F B hQ hl w
  have hx := F.1
  have hb := F.2.1
  have hown := F.2.2.2.1
  have hts := F.2.2.2.2
  have hl : lv_has ls 3 [(0, .ref (ad 11)), (1, .int x1), (2, .int x2)] := hl
  unfold fX3_setSoil at hf
  refine lv_iload_n hx hb dX3_setSoil_0 rfl (lv_at hl 1 rfl) ?_
  refine lv_iconst (v := 4) hx hb dX3_setSoil_1 (by decide) ?_
  obtain ⟨r1, er1, hf⟩ := ob_e hf
  refine kSNi (As := [.int x1, .int 4]) (rest := []) F B w (tX10_isBelow er1) ⟨va_cnB 2 hts gX3_setSoil_X10_isBelow_n57 rfl rfl rfl (B.2.1.m 10 rfl) (hts (.initialized RX10) (by decide +kernel)) (by decide +kernel) ⟨Nat.le_of_ble_eq_true rfl, Nat.le_of_ble_eq_true rfl⟩, hts (.static yX10_isBelow) (by decide +kernel), trivial⟩ rfl hl.1 rfl (Nat.le_of_ble_eq_true rfl) dX3_setSoil_2 ⟨Nat.le_of_ble_eq_true rfl, Nat.le_of_ble_eq_true rfl⟩ (fun H locs w => ?_)
  refine lv_if_eq (tgt := 15) hx hb dX3_setSoil_5 (by decide) (fun c2 => ?_) (fun c2 => ?_)
  · have hf := if_t hf c2
    cases hf
    exact hQ _ _ _ _ dX3_setSoil_15 w
  · have hf := if_f hf c2
    refine lv_aload_n hx hb dX3_setSoil_8 rfl (lv_at hl 0 rfl) ?_
    refine kget (v := .ref (ad 45)) F B w inX3_setSoil_3 11 gX_11 rfl 0 (by decide) (hts (.fieldLink RX3 9 "LandReform$Law" "soilValues" "[I") (by decide +kernel)) rfl rfl dX3_setSoil_9 ?_
    refine lv_iload_n hx hb dX3_setSoil_12 rfl (lv_at hl 1 rfl) ?_
    refine lv_iload_n hx hb dX3_setSoil_13 rfl (lv_at hl 2 rfl) ?_
    obtain ⟨g3, hf⟩ := if_g hf
    refine kiast F B w 45 gX_45 g3 bX_45 dX3_setSoil_14 (fun H locs w => ?_)
    obtain ⟨S4, eS4⟩ : ∃ z, z = sA S 31 (Int32.toNatClampNeg x1) x2 := ⟨_, rfl⟩
    rw [← eS4] at w
    have hf := lt_e hf eS4
    cases hf
    exact hQ _ _ _ _ dX3_setSoil_15 w

def fX3_rule (S : St) (x1 : Int32) (x2 : Int32) (x3 : Int32) : Option St := if x1 = 0 then (lt_ (sS S 29 x3) fun S1 => lt_ (sS S1 36 ((S1.1 36) + 1)) fun S2 => some S2) else if x1 = 1 then (lt_ (sS S 30 x3) fun S4 => lt_ (sS S4 36 ((S4.1 36) + 1)) fun S5 => some S5) else if x1 = 2 then (lt_ (sS S 31 x3) fun S7 => lt_ (sS S7 36 ((S7.1 36) + 1)) fun S8 => some S8) else if x1 = 3 then (ob (fX3_exemptCrop S x3) fun S11 => lt_ (sS S11 36 ((S11.1 36) + 1)) fun S12 => some S12) else if x1 = 4 then (ob (fX3_setSoil S x2 x3) fun S15 => lt_ (sS S15 36 ((S15.1 36) + 1)) fun S16 => some S16) else if x1 = 5 then (lt_ (sS S 33 x3) fun S18 => lt_ (sS S18 36 ((S18.1 36) + 1)) fun S19 => some S19) else if x1 = 6 then (lt_ (sS S 34 x3) fun S21 => lt_ (sS S21 36 ((S21.1 36) + 1)) fun S22 => some S22) else if x1 = 7 then (lt_ (sS S 35 x3) fun S24 => lt_ (sS S24 36 ((S24.1 36) + 1)) fun S25 => some S25) else (lt_ (sS S 36 ((S.1 36) + 1)) fun S27 => some S27)
set_option maxRecDepth 20000 in
theorem inX3_rule_3 : ∀ w ∈ u_ws RX3 TX3 9, w ∈ wsX3_rule := by decide +kernel
set_option maxHeartbeats 4000000 in
set_option maxRecDepth 100000 in
theorem tX3_rule {l : Launch} {D : va_G} {cc : Nat → ClassId} {ak av : Nat → Nat} {ad : Nat → Nat} {g : Nat → Option Nat} {E : va_W} {S : St} {x1 : Int32} {x2 : Int32} {x3 : Int32} {S' : St} (hf : fX3_rule S x1 x2 x3 = some S') : CV l yX3_rule wsX3_rule ({ frames := 2, cells := 0, slots := 0, locals := 43 } : Room) D cc ak av [.ref (ad 11), .int x1, .int x2, .int x3] (WX cc ad g S ++ E) (WX cc ad g S' ++ E) := by
  refine mkV (c0 := cX3_rule) (nL := 4) (own := RX3) rfl rfl (by decide) rfl rfl (Nat.le_of_ble_eq_true rfl) ?_
  intro p e s m args below meth c A Q ls F B hQ hl w
  have hx := F.1
  have hb := F.2.1
  have hown := F.2.2.2.1
  have hts := F.2.2.2.2
  have hl : lv_has ls 4 [(0, .ref (ad 11)), (1, .int x1), (2, .int x2), (3, .int x3)] := hl
  unfold fX3_rule at hf
  refine lv_iload_n hx hb dX3_rule_0 rfl (lv_at hl 1 rfl) ?_
  by_cases c3 : x1 = 0
  · have hf := if_t hf c3
    refine lv_tableIn (off := 47) (tgt := 48) hx hb dX3_rule_1 (by rw [c3]; decide) (by rw [c3]; decide) (by rw [c3]; rfl) (by decide) ?_
    refine lv_aload_n hx hb dX3_rule_48 rfl (lv_at hl 0 rfl) ?_
    refine lv_iload_n hx hb dX3_rule_49 rfl (lv_at hl 3 rfl) ?_
    refine kput (ty := .int) F B w inX3_rule_3 tyX3 tyX3_ok nmX3 11 gX_11 rfl 1 (by decide) (hts (.fieldLink RX3 24 "LandReform$Law" "ceiling" "I") (by decide +kernel)) rfl rfl (by decide +kernel) rfl rfl (Nat.le_of_ble_eq_true rfl) pX_29 dX3_rule_50 (fun H locs w => ?_)
    obtain ⟨S1, eS1⟩ : ∃ z, z = sS S 29 x3 := ⟨_, rfl⟩
    rw [← eS1] at w
    have hf := lt_e hf eS1
    refine lv_goto (tgt := 113) hx hb dX3_rule_53 (by decide) ?_
    refine lv_aload_n hx hb dX3_rule_113 rfl (lv_at hl 0 rfl) ?_
    refine lv_dup hx hb dX3_rule_114 rfl ?_
    refine kget (v := .int (S1.1 36)) F B w inX3_rule_3 11 gX_11 rfl 8 (by decide) (hts (.fieldLink RX3 46 "LandReform$Law" "statements" "I") (by decide +kernel)) rfl rfl dX3_rule_115 ?_
    refine lv_iconst (v := 1) hx hb dX3_rule_118 (by decide) ?_
    refine lv_iadd hx hb dX3_rule_119 ?_
    refine kput (ty := .int) F B w inX3_rule_3 tyX3 tyX3_ok nmX3 11 gX_11 rfl 8 (by decide) (hts (.fieldLink RX3 46 "LandReform$Law" "statements" "I") (by decide +kernel)) rfl rfl (by decide +kernel) rfl rfl (Nat.le_of_ble_eq_true rfl) pX_36 dX3_rule_120 (fun H locs w => ?_)
    obtain ⟨S2, eS2⟩ : ∃ z, z = sS S1 36 ((S1.1 36) + 1) := ⟨_, rfl⟩
    rw [← eS2] at w
    have hf := lt_e hf eS2
    cases hf
    exact hQ _ _ _ _ dX3_rule_123 w
  · have hf := if_f hf c3
    by_cases c6 : x1 = 1
    · have hf := if_t hf c6
      refine lv_tableIn (off := 55) (tgt := 56) hx hb dX3_rule_1 (by rw [c6]; decide) (by rw [c6]; decide) (by rw [c6]; rfl) (by decide) ?_
      refine lv_aload_n hx hb dX3_rule_56 rfl (lv_at hl 0 rfl) ?_
      refine lv_iload_n hx hb dX3_rule_57 rfl (lv_at hl 3 rfl) ?_
      refine kput (ty := .int) F B w inX3_rule_3 tyX3 tyX3_ok nmX3 11 gX_11 rfl 2 (by decide) (hts (.fieldLink RX3 28 "LandReform$Law" "family" "I") (by decide +kernel)) rfl rfl (by decide +kernel) rfl rfl (Nat.le_of_ble_eq_true rfl) pX_30 dX3_rule_58 (fun H locs w => ?_)
      obtain ⟨S4, eS4⟩ : ∃ z, z = sS S 30 x3 := ⟨_, rfl⟩
      rw [← eS4] at w
      have hf := lt_e hf eS4
      refine lv_goto (tgt := 113) hx hb dX3_rule_61 (by decide) ?_
      refine lv_aload_n hx hb dX3_rule_113 rfl (lv_at hl 0 rfl) ?_
      refine lv_dup hx hb dX3_rule_114 rfl ?_
      refine kget (v := .int (S4.1 36)) F B w inX3_rule_3 11 gX_11 rfl 8 (by decide) (hts (.fieldLink RX3 46 "LandReform$Law" "statements" "I") (by decide +kernel)) rfl rfl dX3_rule_115 ?_
      refine lv_iconst (v := 1) hx hb dX3_rule_118 (by decide) ?_
      refine lv_iadd hx hb dX3_rule_119 ?_
      refine kput (ty := .int) F B w inX3_rule_3 tyX3 tyX3_ok nmX3 11 gX_11 rfl 8 (by decide) (hts (.fieldLink RX3 46 "LandReform$Law" "statements" "I") (by decide +kernel)) rfl rfl (by decide +kernel) rfl rfl (Nat.le_of_ble_eq_true rfl) pX_36 dX3_rule_120 (fun H locs w => ?_)
      obtain ⟨S5, eS5⟩ : ∃ z, z = sS S4 36 ((S4.1 36) + 1) := ⟨_, rfl⟩
      rw [← eS5] at w
      have hf := lt_e hf eS5
      cases hf
      exact hQ _ _ _ _ dX3_rule_123 w
    · have hf := if_f hf c6
      by_cases c9 : x1 = 2
      · have hf := if_t hf c9
        refine lv_tableIn (off := 63) (tgt := 64) hx hb dX3_rule_1 (by rw [c9]; decide) (by rw [c9]; decide) (by rw [c9]; rfl) (by decide) ?_
        refine lv_aload_n hx hb dX3_rule_64 rfl (lv_at hl 0 rfl) ?_
        refine lv_iload_n hx hb dX3_rule_65 rfl (lv_at hl 3 rfl) ?_
        refine kput (ty := .int) F B w inX3_rule_3 tyX3 tyX3_ok nmX3 11 gX_11 rfl 3 (by decide) (hts (.fieldLink RX3 31 "LandReform$Law" "lastFreeDay" "I") (by decide +kernel)) rfl rfl (by decide +kernel) rfl rfl (Nat.le_of_ble_eq_true rfl) pX_31 dX3_rule_66 (fun H locs w => ?_)
        obtain ⟨S7, eS7⟩ : ∃ z, z = sS S 31 x3 := ⟨_, rfl⟩
        rw [← eS7] at w
        have hf := lt_e hf eS7
        refine lv_goto (tgt := 113) hx hb dX3_rule_69 (by decide) ?_
        refine lv_aload_n hx hb dX3_rule_113 rfl (lv_at hl 0 rfl) ?_
        refine lv_dup hx hb dX3_rule_114 rfl ?_
        refine kget (v := .int (S7.1 36)) F B w inX3_rule_3 11 gX_11 rfl 8 (by decide) (hts (.fieldLink RX3 46 "LandReform$Law" "statements" "I") (by decide +kernel)) rfl rfl dX3_rule_115 ?_
        refine lv_iconst (v := 1) hx hb dX3_rule_118 (by decide) ?_
        refine lv_iadd hx hb dX3_rule_119 ?_
        refine kput (ty := .int) F B w inX3_rule_3 tyX3 tyX3_ok nmX3 11 gX_11 rfl 8 (by decide) (hts (.fieldLink RX3 46 "LandReform$Law" "statements" "I") (by decide +kernel)) rfl rfl (by decide +kernel) rfl rfl (Nat.le_of_ble_eq_true rfl) pX_36 dX3_rule_120 (fun H locs w => ?_)
        obtain ⟨S8, eS8⟩ : ∃ z, z = sS S7 36 ((S7.1 36) + 1) := ⟨_, rfl⟩
        rw [← eS8] at w
        have hf := lt_e hf eS8
        cases hf
        exact hQ _ _ _ _ dX3_rule_123 w
      · have hf := if_f hf c9
        by_cases c13 : x1 = 3
        · have hf := if_t hf c13
          refine lv_tableIn (off := 71) (tgt := 72) hx hb dX3_rule_1 (by rw [c13]; decide) (by rw [c13]; decide) (by rw [c13]; rfl) (by decide) ?_
          refine lv_aload_n hx hb dX3_rule_72 rfl (lv_at hl 0 rfl) ?_
          refine lv_iload_n hx hb dX3_rule_73 rfl (lv_at hl 3 rfl) ?_
          obtain ⟨S11, er10, hf⟩ := ob_e hf
          refine kVv (As := [.int x3]) (rest := []) F B w (tX3_exemptCrop er10) (cwV 1 hts gX3_rule_X3_exemptCrop rfl rfl rfl (by decide +kernel) ⟨Nat.le_of_ble_eq_true rfl, Nat.le_of_ble_eq_true rfl⟩) 11 gX_11 rfl rfl hl.1 rfl (Nat.le_of_ble_eq_true rfl) dX3_rule_74 ⟨Nat.le_of_ble_eq_true rfl, Nat.le_of_ble_eq_true rfl⟩ (fun H locs w => ?_)
          refine lv_goto (tgt := 113) hx hb dX3_rule_77 (by decide) ?_
          refine lv_aload_n hx hb dX3_rule_113 rfl (lv_at hl 0 rfl) ?_
          refine lv_dup hx hb dX3_rule_114 rfl ?_
          refine kget (v := .int (S11.1 36)) F B w inX3_rule_3 11 gX_11 rfl 8 (by decide) (hts (.fieldLink RX3 46 "LandReform$Law" "statements" "I") (by decide +kernel)) rfl rfl dX3_rule_115 ?_
          refine lv_iconst (v := 1) hx hb dX3_rule_118 (by decide) ?_
          refine lv_iadd hx hb dX3_rule_119 ?_
          refine kput (ty := .int) F B w inX3_rule_3 tyX3 tyX3_ok nmX3 11 gX_11 rfl 8 (by decide) (hts (.fieldLink RX3 46 "LandReform$Law" "statements" "I") (by decide +kernel)) rfl rfl (by decide +kernel) rfl rfl (Nat.le_of_ble_eq_true rfl) pX_36 dX3_rule_120 (fun H locs w => ?_)
          obtain ⟨S12, eS12⟩ : ∃ z, z = sS S11 36 ((S11.1 36) + 1) := ⟨_, rfl⟩
          rw [← eS12] at w
          have hf := lt_e hf eS12
          cases hf
          exact hQ _ _ _ _ dX3_rule_123 w
        · have hf := if_f hf c13
          by_cases c17 : x1 = 4
          · have hf := if_t hf c17
            refine lv_tableIn (off := 79) (tgt := 80) hx hb dX3_rule_1 (by rw [c17]; decide) (by rw [c17]; decide) (by rw [c17]; rfl) (by decide) ?_
            refine lv_aload_n hx hb dX3_rule_80 rfl (lv_at hl 0 rfl) ?_
            refine lv_iload_n hx hb dX3_rule_81 rfl (lv_at hl 2 rfl) ?_
            refine lv_iload_n hx hb dX3_rule_82 rfl (lv_at hl 3 rfl) ?_
            obtain ⟨S15, er14, hf⟩ := ob_e hf
            refine kVv (As := [.int x2, .int x3]) (rest := []) F B w (tX3_setSoil er14) (cwV 2 hts gX3_rule_X3_setSoil rfl rfl rfl (by decide +kernel) ⟨Nat.le_of_ble_eq_true rfl, Nat.le_of_ble_eq_true rfl⟩) 11 gX_11 rfl rfl hl.1 rfl (Nat.le_of_ble_eq_true rfl) dX3_rule_83 ⟨Nat.le_of_ble_eq_true rfl, Nat.le_of_ble_eq_true rfl⟩ (fun H locs w => ?_)
            refine lv_goto (tgt := 113) hx hb dX3_rule_86 (by decide) ?_
            refine lv_aload_n hx hb dX3_rule_113 rfl (lv_at hl 0 rfl) ?_
            refine lv_dup hx hb dX3_rule_114 rfl ?_
            refine kget (v := .int (S15.1 36)) F B w inX3_rule_3 11 gX_11 rfl 8 (by decide) (hts (.fieldLink RX3 46 "LandReform$Law" "statements" "I") (by decide +kernel)) rfl rfl dX3_rule_115 ?_
            refine lv_iconst (v := 1) hx hb dX3_rule_118 (by decide) ?_
            refine lv_iadd hx hb dX3_rule_119 ?_
            refine kput (ty := .int) F B w inX3_rule_3 tyX3 tyX3_ok nmX3 11 gX_11 rfl 8 (by decide) (hts (.fieldLink RX3 46 "LandReform$Law" "statements" "I") (by decide +kernel)) rfl rfl (by decide +kernel) rfl rfl (Nat.le_of_ble_eq_true rfl) pX_36 dX3_rule_120 (fun H locs w => ?_)
            obtain ⟨S16, eS16⟩ : ∃ z, z = sS S15 36 ((S15.1 36) + 1) := ⟨_, rfl⟩
            rw [← eS16] at w
            have hf := lt_e hf eS16
            cases hf
            exact hQ _ _ _ _ dX3_rule_123 w
          · have hf := if_f hf c17
            by_cases c20 : x1 = 5
            · have hf := if_t hf c20
              refine lv_tableIn (off := 88) (tgt := 89) hx hb dX3_rule_1 (by rw [c20]; decide) (by rw [c20]; decide) (by rw [c20]; rfl) (by decide) ?_
              refine lv_aload_n hx hb dX3_rule_89 rfl (lv_at hl 0 rfl) ?_
              refine lv_iload_n hx hb dX3_rule_90 rfl (lv_at hl 3 rfl) ?_
              refine kput (ty := .int) F B w inX3_rule_3 tyX3 tyX3_ok nmX3 11 gX_11 rfl 5 (by decide) (hts (.fieldLink RX3 37 "LandReform$Law" "price" "I") (by decide +kernel)) rfl rfl (by decide +kernel) rfl rfl (Nat.le_of_ble_eq_true rfl) pX_33 dX3_rule_91 (fun H locs w => ?_)
              obtain ⟨S18, eS18⟩ : ∃ z, z = sS S 33 x3 := ⟨_, rfl⟩
              rw [← eS18] at w
              have hf := lt_e hf eS18
              refine lv_goto (tgt := 113) hx hb dX3_rule_94 (by decide) ?_
              refine lv_aload_n hx hb dX3_rule_113 rfl (lv_at hl 0 rfl) ?_
              refine lv_dup hx hb dX3_rule_114 rfl ?_
              refine kget (v := .int (S18.1 36)) F B w inX3_rule_3 11 gX_11 rfl 8 (by decide) (hts (.fieldLink RX3 46 "LandReform$Law" "statements" "I") (by decide +kernel)) rfl rfl dX3_rule_115 ?_
              refine lv_iconst (v := 1) hx hb dX3_rule_118 (by decide) ?_
              refine lv_iadd hx hb dX3_rule_119 ?_
              refine kput (ty := .int) F B w inX3_rule_3 tyX3 tyX3_ok nmX3 11 gX_11 rfl 8 (by decide) (hts (.fieldLink RX3 46 "LandReform$Law" "statements" "I") (by decide +kernel)) rfl rfl (by decide +kernel) rfl rfl (Nat.le_of_ble_eq_true rfl) pX_36 dX3_rule_120 (fun H locs w => ?_)
              obtain ⟨S19, eS19⟩ : ∃ z, z = sS S18 36 ((S18.1 36) + 1) := ⟨_, rfl⟩
              rw [← eS19] at w
              have hf := lt_e hf eS19
              cases hf
              exact hQ _ _ _ _ dX3_rule_123 w
            · have hf := if_f hf c20
              by_cases c23 : x1 = 6
              · have hf := if_t hf c23
                refine lv_tableIn (off := 96) (tgt := 97) hx hb dX3_rule_1 (by rw [c23]; decide) (by rw [c23]; decide) (by rw [c23]; rfl) (by decide) ?_
                refine lv_aload_n hx hb dX3_rule_97 rfl (lv_at hl 0 rfl) ?_
                refine lv_iload_n hx hb dX3_rule_98 rfl (lv_at hl 3 rfl) ?_
                refine kput (ty := .int) F B w inX3_rule_3 tyX3 tyX3_ok nmX3 11 gX_11 rfl 6 (by decide) (hts (.fieldLink RX3 40 "LandReform$Law" "years" "I") (by decide +kernel)) rfl rfl (by decide +kernel) rfl rfl (Nat.le_of_ble_eq_true rfl) pX_34 dX3_rule_99 (fun H locs w => ?_)
                obtain ⟨S21, eS21⟩ : ∃ z, z = sS S 34 x3 := ⟨_, rfl⟩
                rw [← eS21] at w
                have hf := lt_e hf eS21
                refine lv_goto (tgt := 113) hx hb dX3_rule_102 (by decide) ?_
                refine lv_aload_n hx hb dX3_rule_113 rfl (lv_at hl 0 rfl) ?_
                refine lv_dup hx hb dX3_rule_114 rfl ?_
                refine kget (v := .int (S21.1 36)) F B w inX3_rule_3 11 gX_11 rfl 8 (by decide) (hts (.fieldLink RX3 46 "LandReform$Law" "statements" "I") (by decide +kernel)) rfl rfl dX3_rule_115 ?_
                refine lv_iconst (v := 1) hx hb dX3_rule_118 (by decide) ?_
                refine lv_iadd hx hb dX3_rule_119 ?_
                refine kput (ty := .int) F B w inX3_rule_3 tyX3 tyX3_ok nmX3 11 gX_11 rfl 8 (by decide) (hts (.fieldLink RX3 46 "LandReform$Law" "statements" "I") (by decide +kernel)) rfl rfl (by decide +kernel) rfl rfl (Nat.le_of_ble_eq_true rfl) pX_36 dX3_rule_120 (fun H locs w => ?_)
                obtain ⟨S22, eS22⟩ : ∃ z, z = sS S21 36 ((S21.1 36) + 1) := ⟨_, rfl⟩
                rw [← eS22] at w
                have hf := lt_e hf eS22
                cases hf
                exact hQ _ _ _ _ dX3_rule_123 w
              · have hf := if_f hf c23
                by_cases c26 : x1 = 7
                · have hf := if_t hf c26
                  refine lv_tableIn (off := 104) (tgt := 105) hx hb dX3_rule_1 (by rw [c26]; decide) (by rw [c26]; decide) (by rw [c26]; rfl) (by decide) ?_
                  refine lv_aload_n hx hb dX3_rule_105 rfl (lv_at hl 0 rfl) ?_
                  refine lv_iload_n hx hb dX3_rule_106 rfl (lv_at hl 3 rfl) ?_
                  refine kput (ty := .int) F B w inX3_rule_3 tyX3 tyX3_ok nmX3 11 gX_11 rfl 7 (by decide) (hts (.fieldLink RX3 43 "LandReform$Law" "shares" "I") (by decide +kernel)) rfl rfl (by decide +kernel) rfl rfl (Nat.le_of_ble_eq_true rfl) pX_35 dX3_rule_107 (fun H locs w => ?_)
                  obtain ⟨S24, eS24⟩ : ∃ z, z = sS S 35 x3 := ⟨_, rfl⟩
                  rw [← eS24] at w
                  have hf := lt_e hf eS24
                  refine lv_goto (tgt := 113) hx hb dX3_rule_110 (by decide) ?_
                  refine lv_aload_n hx hb dX3_rule_113 rfl (lv_at hl 0 rfl) ?_
                  refine lv_dup hx hb dX3_rule_114 rfl ?_
                  refine kget (v := .int (S24.1 36)) F B w inX3_rule_3 11 gX_11 rfl 8 (by decide) (hts (.fieldLink RX3 46 "LandReform$Law" "statements" "I") (by decide +kernel)) rfl rfl dX3_rule_115 ?_
                  refine lv_iconst (v := 1) hx hb dX3_rule_118 (by decide) ?_
                  refine lv_iadd hx hb dX3_rule_119 ?_
                  refine kput (ty := .int) F B w inX3_rule_3 tyX3 tyX3_ok nmX3 11 gX_11 rfl 8 (by decide) (hts (.fieldLink RX3 46 "LandReform$Law" "statements" "I") (by decide +kernel)) rfl rfl (by decide +kernel) rfl rfl (Nat.le_of_ble_eq_true rfl) pX_36 dX3_rule_120 (fun H locs w => ?_)
                  obtain ⟨S25, eS25⟩ : ∃ z, z = sS S24 36 ((S24.1 36) + 1) := ⟨_, rfl⟩
                  rw [← eS25] at w
                  have hf := lt_e hf eS25
                  cases hf
                  exact hQ _ _ _ _ dX3_rule_123 w
                · have hf := if_f hf c26
                  have hsw : Int32.toInt x1 < 0 ∨ 7 < Int32.toInt x1 := by
                    have hc3 := lv_neT c3 (a := 0) (by decide)
                    have hc6 := lv_neT c6 (a := 1) (by decide)
                    have hc9 := lv_neT c9 (a := 2) (by decide)
                    have hc13 := lv_neT c13 (a := 3) (by decide)
                    have hc17 := lv_neT c17 (a := 4) (by decide)
                    have hc20 := lv_neT c20 (a := 5) (by decide)
                    have hc23 := lv_neT c23 (a := 6) (by decide)
                    have hc26 := lv_neT c26 (a := 7) (by decide)
                    omega
                  refine lv_tableOut (tgt := 113) hx hb dX3_rule_1 hsw (by decide) ?_
                  refine lv_aload_n hx hb dX3_rule_113 rfl (lv_at hl 0 rfl) ?_
                  refine lv_dup hx hb dX3_rule_114 rfl ?_
                  refine kget (v := .int (S.1 36)) F B w inX3_rule_3 11 gX_11 rfl 8 (by decide) (hts (.fieldLink RX3 46 "LandReform$Law" "statements" "I") (by decide +kernel)) rfl rfl dX3_rule_115 ?_
                  refine lv_iconst (v := 1) hx hb dX3_rule_118 (by decide) ?_
                  refine lv_iadd hx hb dX3_rule_119 ?_
                  refine kput (ty := .int) F B w inX3_rule_3 tyX3 tyX3_ok nmX3 11 gX_11 rfl 8 (by decide) (hts (.fieldLink RX3 46 "LandReform$Law" "statements" "I") (by decide +kernel)) rfl rfl (by decide +kernel) rfl rfl (Nat.le_of_ble_eq_true rfl) pX_36 dX3_rule_120 (fun H locs w => ?_)
                  obtain ⟨S27, eS27⟩ : ∃ z, z = sS S 36 ((S.1 36) + 1) := ⟨_, rfl⟩
                  rw [← eS27] at w
                  have hf := lt_e hf eS27
                  cases hf
                  exact hQ _ _ _ _ dX3_rule_123 w

def fX3_clear (n : Nat) (S : St) : Option St := ob (fJ7_fill_53178 n S 10) fun S2 => lt_ (sS S2 29 100) fun S3 => lt_ (sS S3 30 0) fun S4 => lt_ (sS S4 31 1000) fun S5 => lt_ (sS S5 32 0) fun S6 => lt_ (sS S6 33 1) fun S7 => lt_ (sS S7 34 10) fun S8 => lt_ (sS S8 35 2) fun S9 => lt_ (sS S9 36 0) fun S10 => some S10
set_option maxRecDepth 20000 in
theorem inX3_clear_3 : ∀ w ∈ u_ws RX3 TX3 9, w ∈ wsX3_clear := by decide +kernel
set_option maxHeartbeats 4000000 in
set_option maxRecDepth 100000 in
theorem tX3_clear {l : Launch} {D : va_G} {cc : Nat → ClassId} {ak av : Nat → Nat} {ad : Nat → Nat} {g : Nat → Option Nat} {E : va_W} {n : Nat} {S : St} {S' : St} (hf : fX3_clear n S = some S') : CV l yX3_clear wsX3_clear ({ frames := 1, cells := 0, slots := 0, locals := 23 } : Room) D cc ak av [.ref (ad 11)] (WX cc ad g S ++ E) (WX cc ad g S' ++ E) := by
  refine mkV (c0 := cX3_clear) (nL := 1) (own := RX3) rfl rfl (by decide) rfl rfl (Nat.le_of_ble_eq_true rfl) ?_
  intro p e s m args below meth c A Q ls F B hQ hl w
  have hx := F.1
  have hb := F.2.1
  have hown := F.2.2.2.1
  have hts := F.2.2.2.2
  have hl : lv_has ls 1 [(0, .ref (ad 11))] := hl
  unfold fX3_clear at hf
  refine lv_aload_n hx hb dX3_clear_0 rfl (lv_at hl 0 rfl) ?_
  refine kget (v := .ref (ad 45)) F B w inX3_clear_3 11 gX_11 rfl 0 (by decide) (hts (.fieldLink RX3 9 "LandReform$Law" "soilValues" "[I") (by decide +kernel)) rfl rfl dX3_clear_1 ?_
  refine lv_bipush (v := 10) hx hb dX3_clear_4 (by decide) ?_
  obtain ⟨S2, er1, hf⟩ := ob_e hf
  refine kSv (As := [.ref (ad 45), .int 10]) (rest := []) F B w (tJ7_fill_53178 er1) (va_cwS 2 hts gX3_clear_J7_fill_53178 rfl rfl rfl (by decide +kernel) ⟨Nat.le_of_ble_eq_true rfl, Nat.le_of_ble_eq_true rfl⟩) rfl hl.1 rfl (Nat.le_of_ble_eq_true rfl) dX3_clear_6 ⟨Nat.le_of_ble_eq_true rfl, Nat.le_of_ble_eq_true rfl⟩ (fun H locs w => ?_)
  refine lv_aload_n hx hb dX3_clear_9 rfl (lv_at hl 0 rfl) ?_
  refine lv_bipush (v := 100) hx hb dX3_clear_10 (by decide) ?_
  refine kput (ty := .int) F B w inX3_clear_3 tyX3 tyX3_ok nmX3 11 gX_11 rfl 1 (by decide) (hts (.fieldLink RX3 24 "LandReform$Law" "ceiling" "I") (by decide +kernel)) rfl rfl (by decide +kernel) rfl rfl (Nat.le_of_ble_eq_true rfl) pX_29 dX3_clear_12 (fun H locs w => ?_)
  obtain ⟨S3, eS3⟩ : ∃ z, z = sS S2 29 100 := ⟨_, rfl⟩
  rw [← eS3] at w
  have hf := lt_e hf eS3
  refine lv_aload_n hx hb dX3_clear_15 rfl (lv_at hl 0 rfl) ?_
  refine lv_iconst (v := 0) hx hb dX3_clear_16 (by decide) ?_
  refine kput (ty := .int) F B w inX3_clear_3 tyX3 tyX3_ok nmX3 11 gX_11 rfl 2 (by decide) (hts (.fieldLink RX3 28 "LandReform$Law" "family" "I") (by decide +kernel)) rfl rfl (by decide +kernel) rfl rfl (Nat.le_of_ble_eq_true rfl) pX_30 dX3_clear_17 (fun H locs w => ?_)
  obtain ⟨S4, eS4⟩ : ∃ z, z = sS S3 30 0 := ⟨_, rfl⟩
  rw [← eS4] at w
  have hf := lt_e hf eS4
  refine lv_aload_n hx hb dX3_clear_20 rfl (lv_at hl 0 rfl) ?_
  refine lv_sipush (v := 1000) hx hb dX3_clear_21 (by decide) ?_
  refine kput (ty := .int) F B w inX3_clear_3 tyX3 tyX3_ok nmX3 11 gX_11 rfl 3 (by decide) (hts (.fieldLink RX3 31 "LandReform$Law" "lastFreeDay" "I") (by decide +kernel)) rfl rfl (by decide +kernel) rfl rfl (Nat.le_of_ble_eq_true rfl) pX_31 dX3_clear_24 (fun H locs w => ?_)
  obtain ⟨S5, eS5⟩ : ∃ z, z = sS S4 31 1000 := ⟨_, rfl⟩
  rw [← eS5] at w
  have hf := lt_e hf eS5
  refine lv_aload_n hx hb dX3_clear_27 rfl (lv_at hl 0 rfl) ?_
  refine lv_iconst (v := 0) hx hb dX3_clear_28 (by decide) ?_
  refine kput (ty := .int) F B w inX3_clear_3 tyX3 tyX3_ok nmX3 11 gX_11 rfl 4 (by decide) (hts (.fieldLink RX3 34 "LandReform$Law" "exemptCrops" "I") (by decide +kernel)) rfl rfl (by decide +kernel) rfl rfl (Nat.le_of_ble_eq_true rfl) pX_32 dX3_clear_29 (fun H locs w => ?_)
  obtain ⟨S6, eS6⟩ : ∃ z, z = sS S5 32 0 := ⟨_, rfl⟩
  rw [← eS6] at w
  have hf := lt_e hf eS6
  refine lv_aload_n hx hb dX3_clear_32 rfl (lv_at hl 0 rfl) ?_
  refine lv_iconst (v := 1) hx hb dX3_clear_33 (by decide) ?_
  refine kput (ty := .int) F B w inX3_clear_3 tyX3 tyX3_ok nmX3 11 gX_11 rfl 5 (by decide) (hts (.fieldLink RX3 37 "LandReform$Law" "price" "I") (by decide +kernel)) rfl rfl (by decide +kernel) rfl rfl (Nat.le_of_ble_eq_true rfl) pX_33 dX3_clear_34 (fun H locs w => ?_)
  obtain ⟨S7, eS7⟩ : ∃ z, z = sS S6 33 1 := ⟨_, rfl⟩
  rw [← eS7] at w
  have hf := lt_e hf eS7
  refine lv_aload_n hx hb dX3_clear_37 rfl (lv_at hl 0 rfl) ?_
  refine lv_bipush (v := 10) hx hb dX3_clear_38 (by decide) ?_
  refine kput (ty := .int) F B w inX3_clear_3 tyX3 tyX3_ok nmX3 11 gX_11 rfl 6 (by decide) (hts (.fieldLink RX3 40 "LandReform$Law" "years" "I") (by decide +kernel)) rfl rfl (by decide +kernel) rfl rfl (Nat.le_of_ble_eq_true rfl) pX_34 dX3_clear_40 (fun H locs w => ?_)
  obtain ⟨S8, eS8⟩ : ∃ z, z = sS S7 34 10 := ⟨_, rfl⟩
  rw [← eS8] at w
  have hf := lt_e hf eS8
  refine lv_aload_n hx hb dX3_clear_43 rfl (lv_at hl 0 rfl) ?_
  refine lv_iconst (v := 2) hx hb dX3_clear_44 (by decide) ?_
  refine kput (ty := .int) F B w inX3_clear_3 tyX3 tyX3_ok nmX3 11 gX_11 rfl 7 (by decide) (hts (.fieldLink RX3 43 "LandReform$Law" "shares" "I") (by decide +kernel)) rfl rfl (by decide +kernel) rfl rfl (Nat.le_of_ble_eq_true rfl) pX_35 dX3_clear_45 (fun H locs w => ?_)
  obtain ⟨S9, eS9⟩ : ∃ z, z = sS S8 35 2 := ⟨_, rfl⟩
  rw [← eS9] at w
  have hf := lt_e hf eS9
  refine lv_aload_n hx hb dX3_clear_48 rfl (lv_at hl 0 rfl) ?_
  refine lv_iconst (v := 0) hx hb dX3_clear_49 (by decide) ?_
  refine kput (ty := .int) F B w inX3_clear_3 tyX3 tyX3_ok nmX3 11 gX_11 rfl 8 (by decide) (hts (.fieldLink RX3 46 "LandReform$Law" "statements" "I") (by decide +kernel)) rfl rfl (by decide +kernel) rfl rfl (Nat.le_of_ble_eq_true rfl) pX_36 dX3_clear_50 (fun H locs w => ?_)
  obtain ⟨S10, eS10⟩ : ∃ z, z = sS S9 36 0 := ⟨_, rfl⟩
  rw [← eS10] at w
  have hf := lt_e hf eS10
  cases hf
  exact hQ _ _ _ _ dX3_clear_53 w

def fX2_has (S : St) (x1 : Int32) : Option Int32 := ob (fX10_isBelow x1 (S.1 3)) fun r1 => if ¬ (r1 = 0 ∨ r1 = 1) then none else some r1
set_option maxRecDepth 20000 in
theorem inX2_has_2 : ∀ w ∈ u_ws RX2 TX2 12, w ∈ wsX2_has := by decide +kernel
set_option maxHeartbeats 4000000 in
set_option maxRecDepth 100000 in
theorem tX2_has {l : Launch} {D : va_G} {cc : Nat → ClassId} {ak av : Nat → Nat} {ad : Nat → Nat} {g : Nat → Option Nat} {E : va_W} {S : St} {x1 : Int32} {r : Int32} (hf : fX2_has S x1 = some r) : CI l yX2_has wsX2_has ({ frames := 1, cells := 0, slots := 0, locals := 21 } : Room) D cc ak av [.ref (ad 2), .int x1] (WX cc ad g S ++ E) (WX cc ad g S ++ E) r := by
  refine mkZ (c0 := cX2_has) (nL := 2) (own := RX2) rfl rfl (by decide) rfl rfl (Nat.le_of_ble_eq_true rfl) ?_
  intro p e s m args below meth c A Q ls F B hQ hl w
  have hx := F.1
  have hb := F.2.1
  have hown := F.2.2.2.1
  have hts := F.2.2.2.2
  have hl : lv_has ls 2 [(0, .ref (ad 2)), (1, .int x1)] := hl
  unfold fX2_has at hf
  refine lv_iload_n hx hb dX2_has_0 rfl (lv_at hl 1 rfl) ?_
  refine lv_aload_n hx hb dX2_has_1 rfl (lv_at hl 0 rfl) ?_
  refine kget (v := .int (S.1 3)) F B w inX2_has_2 2 gX_2 rfl 6 (by decide) (hts (.fieldLink RX2 39 "LandReform$Land" "size" "I") (by decide +kernel)) rfl rfl dX2_has_2 ?_
  obtain ⟨r1, er1, hf⟩ := ob_e hf
  refine kSNi (As := [.int x1, .int (S.1 3)]) (rest := []) F B w (tX10_isBelow er1) ⟨va_cnB 2 hts gX2_has_X10_isBelow_n43 rfl rfl rfl (B.2.1.m 9 rfl) (hts (.initialized RX10) (by decide +kernel)) (by decide +kernel) ⟨Nat.le_of_ble_eq_true rfl, Nat.le_of_ble_eq_true rfl⟩, hts (.static yX10_isBelow) (by decide +kernel), trivial⟩ rfl hl.1 rfl (Nat.le_of_ble_eq_true rfl) dX2_has_5 ⟨Nat.le_of_ble_eq_true rfl, Nat.le_of_ble_eq_true rfl⟩ (fun H locs w => ?_)
  obtain ⟨g2, hf⟩ := if_g hf
  cases hf
  exact hQ _ _ _ _ dX2_has_8 (nz g2) w

def fX2_hasRow (S : St) (x1 : Int32) (x2 : Int32) : Option Int32 := ob (fX2_has S x1) fun r1 => if r1 = 0 then (some 0) else (if ((S.1 3) - x1) < x2 then (some 0) else (some 1))
set_option maxRecDepth 20000 in
theorem inX2_hasRow_2 : ∀ w ∈ u_ws RX2 TX2 12, w ∈ wsX2_hasRow := by decide +kernel
set_option maxHeartbeats 4000000 in
set_option maxRecDepth 100000 in
theorem tX2_hasRow {l : Launch} {D : va_G} {cc : Nat → ClassId} {ak av : Nat → Nat} {ad : Nat → Nat} {g : Nat → Option Nat} {E : va_W} {S : St} {x1 : Int32} {x2 : Int32} {r : Int32} (hf : fX2_hasRow S x1 x2 = some r) : CI l yX2_hasRow wsX2_hasRow ({ frames := 2, cells := 0, slots := 0, locals := 42 } : Room) D cc ak av [.ref (ad 2), .int x1, .int x2] (WX cc ad g S ++ E) (WX cc ad g S ++ E) r := by
  refine mkZ (c0 := cX2_hasRow) (nL := 3) (own := RX2) rfl rfl (by decide) rfl rfl (Nat.le_of_ble_eq_true rfl) ?_
  intro p e s m args below meth c A Q ls F B hQ hl w
  have hx := F.1
  have hb := F.2.1
  have hown := F.2.2.2.1
  have hts := F.2.2.2.2
  have hl : lv_has ls 3 [(0, .ref (ad 2)), (1, .int x1), (2, .int x2)] := hl
  unfold fX2_hasRow at hf
  refine lv_aload_n hx hb dX2_hasRow_0 rfl (lv_at hl 0 rfl) ?_
  refine lv_iload_n hx hb dX2_hasRow_1 rfl (lv_at hl 1 rfl) ?_
  obtain ⟨r1, er1, hf⟩ := ob_e hf
  refine kVi (As := [.int x1]) (rest := []) F B w (tX2_has er1) (cwV 1 hts gX2_hasRow_X2_has rfl rfl rfl (by decide +kernel) ⟨Nat.le_of_ble_eq_true rfl, Nat.le_of_ble_eq_true rfl⟩) 2 gX_2 rfl rfl hl.1 rfl (Nat.le_of_ble_eq_true rfl) dX2_hasRow_2 ⟨Nat.le_of_ble_eq_true rfl, Nat.le_of_ble_eq_true rfl⟩ (fun H locs w => ?_)
  refine lv_if_eq (tgt := 22) hx hb dX2_hasRow_5 (by decide) (fun c2 => ?_) (fun c2 => ?_)
  · have hf := if_t hf c2
    refine lv_iconst (v := 0) hx hb dX2_hasRow_22 (by decide) ?_
    cases hf
    exact hQ _ _ _ _ dX2_hasRow_23 (by decide) w
  · have hf := if_f hf c2
    refine lv_iload_n hx hb dX2_hasRow_8 rfl (lv_at hl 2 rfl) ?_
    refine lv_aload_n hx hb dX2_hasRow_9 rfl (lv_at hl 0 rfl) ?_
    refine kget (v := .int (S.1 3)) F B w inX2_hasRow_2 2 gX_2 rfl 6 (by decide) (hts (.fieldLink RX2 39 "LandReform$Land" "size" "I") (by decide +kernel)) rfl rfl dX2_hasRow_10 ?_
    refine lv_iload_n hx hb dX2_hasRow_13 rfl (lv_at hl 1 rfl) ?_
    refine lv_isub hx hb dX2_hasRow_14 ?_
    refine lv_icmp_gt (tgt := 22) hx hb dX2_hasRow_15 (by decide) (fun c3 => ?_) (fun c3 => ?_)
    · have hf := if_t hf c3
      refine lv_iconst (v := 0) hx hb dX2_hasRow_22 (by decide) ?_
      cases hf
      exact hQ _ _ _ _ dX2_hasRow_23 (by decide) w
    · have hf := if_f hf c3
      refine lv_iconst (v := 1) hx hb dX2_hasRow_18 (by decide) ?_
      refine lv_goto (tgt := 23) hx hb dX2_hasRow_19 (by decide) ?_
      cases hf
      exact hQ _ _ _ _ dX2_hasRow_23 (by decide) w

def fX2_placeOf (S : St) (x1 : Int32) : Option Int32 := ob (fX2_has S x1) fun r1 => if r1 = 0 then (some 0) else (if x1 < 0 ∨ 60 ≤ Int32.toNatClampNeg x1 then none else some (S.2.1 2 (Int32.toNatClampNeg x1)))
set_option maxRecDepth 20000 in
theorem inX2_placeOf_2 : ∀ w ∈ u_ws RX2 TX2 12, w ∈ wsX2_placeOf := by decide +kernel
set_option maxHeartbeats 4000000 in
set_option maxRecDepth 100000 in
theorem tX2_placeOf {l : Launch} {D : va_G} {cc : Nat → ClassId} {ak av : Nat → Nat} {ad : Nat → Nat} {g : Nat → Option Nat} {E : va_W} {S : St} {x1 : Int32} {r : Int32} (hf : fX2_placeOf S x1 = some r) : CI l yX2_placeOf wsX2_placeOf ({ frames := 2, cells := 0, slots := 0, locals := 42 } : Room) D cc ak av [.ref (ad 2), .int x1] (WX cc ad g S ++ E) (WX cc ad g S ++ E) r := by
  refine mkI (c0 := cX2_placeOf) (nL := 2) (own := RX2) rfl rfl (by decide) rfl rfl (Nat.le_of_ble_eq_true rfl) ?_
  intro p e s m args below meth c A Q ls F B hQ hl w
  have hx := F.1
  have hb := F.2.1
  have hown := F.2.2.2.1
  have hts := F.2.2.2.2
  have hl : lv_has ls 2 [(0, .ref (ad 2)), (1, .int x1)] := hl
  unfold fX2_placeOf at hf
  refine lv_aload_n hx hb dX2_placeOf_0 rfl (lv_at hl 0 rfl) ?_
  refine lv_iload_n hx hb dX2_placeOf_1 rfl (lv_at hl 1 rfl) ?_
  obtain ⟨r1, er1, hf⟩ := ob_e hf
  refine kVi (As := [.int x1]) (rest := []) F B w (tX2_has er1) (cwV 1 hts gX2_placeOf_X2_has rfl rfl rfl (by decide +kernel) ⟨Nat.le_of_ble_eq_true rfl, Nat.le_of_ble_eq_true rfl⟩) 2 gX_2 rfl rfl hl.1 rfl (Nat.le_of_ble_eq_true rfl) dX2_placeOf_2 ⟨Nat.le_of_ble_eq_true rfl, Nat.le_of_ble_eq_true rfl⟩ (fun H locs w => ?_)
  refine lv_if_eq (tgt := 17) hx hb dX2_placeOf_5 (by decide) (fun c2 => ?_) (fun c2 => ?_)
  · have hf := if_t hf c2
    refine lv_iconst (v := 0) hx hb dX2_placeOf_17 (by decide) ?_
    cases hf
    exact hQ _ _ _ _ dX2_placeOf_18 w
  · have hf := if_f hf c2
    refine lv_aload_n hx hb dX2_placeOf_8 rfl (lv_at hl 0 rfl) ?_
    refine kget (v := .ref (ad 15)) F B w inX2_placeOf_2 2 gX_2 rfl 0 (by decide) (hts (.fieldLink RX2 9 "LandReform$Land" "places" "[I") (by decide +kernel)) rfl rfl dX2_placeOf_9 ?_
    refine lv_iload_n hx hb dX2_placeOf_12 rfl (lv_at hl 1 rfl) ?_
    obtain ⟨g3, hf⟩ := if_g hf
    refine kiald F B w 15 gX_15 g3 dX2_placeOf_13 ?_
    refine lv_goto (tgt := 18) hx hb dX2_placeOf_14 (by decide) ?_
    cases hf
    exact hQ _ _ _ _ dX2_placeOf_18 w

def fX2_areaOf (S : St) (x1 : Int32) : Option Int32 := ob (fX2_has S x1) fun r1 => if r1 = 0 then (some 0) else (if x1 < 0 ∨ 60 ≤ Int32.toNatClampNeg x1 then none else some (S.2.1 3 (Int32.toNatClampNeg x1)))
set_option maxRecDepth 20000 in
theorem inX2_areaOf_2 : ∀ w ∈ u_ws RX2 TX2 12, w ∈ wsX2_areaOf := by decide +kernel
set_option maxHeartbeats 4000000 in
set_option maxRecDepth 100000 in
theorem tX2_areaOf {l : Launch} {D : va_G} {cc : Nat → ClassId} {ak av : Nat → Nat} {ad : Nat → Nat} {g : Nat → Option Nat} {E : va_W} {S : St} {x1 : Int32} {r : Int32} (hf : fX2_areaOf S x1 = some r) : CI l yX2_areaOf wsX2_areaOf ({ frames := 2, cells := 0, slots := 0, locals := 42 } : Room) D cc ak av [.ref (ad 2), .int x1] (WX cc ad g S ++ E) (WX cc ad g S ++ E) r := by
  refine mkI (c0 := cX2_areaOf) (nL := 2) (own := RX2) rfl rfl (by decide) rfl rfl (Nat.le_of_ble_eq_true rfl) ?_
  intro p e s m args below meth c A Q ls F B hQ hl w
  have hx := F.1
  have hb := F.2.1
  have hown := F.2.2.2.1
  have hts := F.2.2.2.2
  have hl : lv_has ls 2 [(0, .ref (ad 2)), (1, .int x1)] := hl
  unfold fX2_areaOf at hf
  refine lv_aload_n hx hb dX2_areaOf_0 rfl (lv_at hl 0 rfl) ?_
  refine lv_iload_n hx hb dX2_areaOf_1 rfl (lv_at hl 1 rfl) ?_
  obtain ⟨r1, er1, hf⟩ := ob_e hf
  refine kVi (As := [.int x1]) (rest := []) F B w (tX2_has er1) (cwV 1 hts gX2_areaOf_X2_has rfl rfl rfl (by decide +kernel) ⟨Nat.le_of_ble_eq_true rfl, Nat.le_of_ble_eq_true rfl⟩) 2 gX_2 rfl rfl hl.1 rfl (Nat.le_of_ble_eq_true rfl) dX2_areaOf_2 ⟨Nat.le_of_ble_eq_true rfl, Nat.le_of_ble_eq_true rfl⟩ (fun H locs w => ?_)
  refine lv_if_eq (tgt := 17) hx hb dX2_areaOf_5 (by decide) (fun c2 => ?_) (fun c2 => ?_)
  · have hf := if_t hf c2
    refine lv_iconst (v := 0) hx hb dX2_areaOf_17 (by decide) ?_
    cases hf
    exact hQ _ _ _ _ dX2_areaOf_18 w
  · have hf := if_f hf c2
    refine lv_aload_n hx hb dX2_areaOf_8 rfl (lv_at hl 0 rfl) ?_
    refine kget (v := .ref (ad 16)) F B w inX2_areaOf_2 2 gX_2 rfl 1 (by decide) (hts (.fieldLink RX2 15 "LandReform$Land" "areas" "[I") (by decide +kernel)) rfl rfl dX2_areaOf_9 ?_
    refine lv_iload_n hx hb dX2_areaOf_12 rfl (lv_at hl 1 rfl) ?_
    obtain ⟨g3, hf⟩ := if_g hf
    refine kiald F B w 16 gX_16 g3 dX2_areaOf_13 ?_
    refine lv_goto (tgt := 18) hx hb dX2_areaOf_14 (by decide) ?_
    cases hf
    exact hQ _ _ _ _ dX2_areaOf_18 w

def fX2_soilOf (S : St) (x1 : Int32) : Option Int32 := ob (fX2_has S x1) fun r1 => if r1 = 0 then (some 0) else (if x1 < 0 ∨ 60 ≤ Int32.toNatClampNeg x1 then none else some (S.2.1 4 (Int32.toNatClampNeg x1)))
set_option maxRecDepth 20000 in
theorem inX2_soilOf_2 : ∀ w ∈ u_ws RX2 TX2 12, w ∈ wsX2_soilOf := by decide +kernel
set_option maxHeartbeats 4000000 in
set_option maxRecDepth 100000 in
theorem tX2_soilOf {l : Launch} {D : va_G} {cc : Nat → ClassId} {ak av : Nat → Nat} {ad : Nat → Nat} {g : Nat → Option Nat} {E : va_W} {S : St} {x1 : Int32} {r : Int32} (hf : fX2_soilOf S x1 = some r) : CI l yX2_soilOf wsX2_soilOf ({ frames := 2, cells := 0, slots := 0, locals := 42 } : Room) D cc ak av [.ref (ad 2), .int x1] (WX cc ad g S ++ E) (WX cc ad g S ++ E) r := by
  refine mkI (c0 := cX2_soilOf) (nL := 2) (own := RX2) rfl rfl (by decide) rfl rfl (Nat.le_of_ble_eq_true rfl) ?_
  intro p e s m args below meth c A Q ls F B hQ hl w
  have hx := F.1
  have hb := F.2.1
  have hown := F.2.2.2.1
  have hts := F.2.2.2.2
  have hl : lv_has ls 2 [(0, .ref (ad 2)), (1, .int x1)] := hl
  unfold fX2_soilOf at hf
  refine lv_aload_n hx hb dX2_soilOf_0 rfl (lv_at hl 0 rfl) ?_
  refine lv_iload_n hx hb dX2_soilOf_1 rfl (lv_at hl 1 rfl) ?_
  obtain ⟨r1, er1, hf⟩ := ob_e hf
  refine kVi (As := [.int x1]) (rest := []) F B w (tX2_has er1) (cwV 1 hts gX2_soilOf_X2_has rfl rfl rfl (by decide +kernel) ⟨Nat.le_of_ble_eq_true rfl, Nat.le_of_ble_eq_true rfl⟩) 2 gX_2 rfl rfl hl.1 rfl (Nat.le_of_ble_eq_true rfl) dX2_soilOf_2 ⟨Nat.le_of_ble_eq_true rfl, Nat.le_of_ble_eq_true rfl⟩ (fun H locs w => ?_)
  refine lv_if_eq (tgt := 17) hx hb dX2_soilOf_5 (by decide) (fun c2 => ?_) (fun c2 => ?_)
  · have hf := if_t hf c2
    refine lv_iconst (v := 0) hx hb dX2_soilOf_17 (by decide) ?_
    cases hf
    exact hQ _ _ _ _ dX2_soilOf_18 w
  · have hf := if_f hf c2
    refine lv_aload_n hx hb dX2_soilOf_8 rfl (lv_at hl 0 rfl) ?_
    refine kget (v := .ref (ad 17)) F B w inX2_soilOf_2 2 gX_2 rfl 2 (by decide) (hts (.fieldLink RX2 18 "LandReform$Land" "soils" "[I") (by decide +kernel)) rfl rfl dX2_soilOf_9 ?_
    refine lv_iload_n hx hb dX2_soilOf_12 rfl (lv_at hl 1 rfl) ?_
    obtain ⟨g3, hf⟩ := if_g hf
    refine kiald F B w 17 gX_17 g3 dX2_soilOf_13 ?_
    refine lv_goto (tgt := 18) hx hb dX2_soilOf_14 (by decide) ?_
    cases hf
    exact hQ _ _ _ _ dX2_soilOf_18 w

def fX2_cropOf (S : St) (x1 : Int32) : Option Int32 := ob (fX2_has S x1) fun r1 => if r1 = 0 then (some 0) else (if x1 < 0 ∨ 60 ≤ Int32.toNatClampNeg x1 then none else some (S.2.1 5 (Int32.toNatClampNeg x1)))
set_option maxRecDepth 20000 in
theorem inX2_cropOf_2 : ∀ w ∈ u_ws RX2 TX2 12, w ∈ wsX2_cropOf := by decide +kernel
set_option maxHeartbeats 4000000 in
set_option maxRecDepth 100000 in
theorem tX2_cropOf {l : Launch} {D : va_G} {cc : Nat → ClassId} {ak av : Nat → Nat} {ad : Nat → Nat} {g : Nat → Option Nat} {E : va_W} {S : St} {x1 : Int32} {r : Int32} (hf : fX2_cropOf S x1 = some r) : CI l yX2_cropOf wsX2_cropOf ({ frames := 2, cells := 0, slots := 0, locals := 42 } : Room) D cc ak av [.ref (ad 2), .int x1] (WX cc ad g S ++ E) (WX cc ad g S ++ E) r := by
  refine mkI (c0 := cX2_cropOf) (nL := 2) (own := RX2) rfl rfl (by decide) rfl rfl (Nat.le_of_ble_eq_true rfl) ?_
  intro p e s m args below meth c A Q ls F B hQ hl w
  have hx := F.1
  have hb := F.2.1
  have hown := F.2.2.2.1
  have hts := F.2.2.2.2
  have hl : lv_has ls 2 [(0, .ref (ad 2)), (1, .int x1)] := hl
  unfold fX2_cropOf at hf
  refine lv_aload_n hx hb dX2_cropOf_0 rfl (lv_at hl 0 rfl) ?_
  refine lv_iload_n hx hb dX2_cropOf_1 rfl (lv_at hl 1 rfl) ?_
  obtain ⟨r1, er1, hf⟩ := ob_e hf
  refine kVi (As := [.int x1]) (rest := []) F B w (tX2_has er1) (cwV 1 hts gX2_cropOf_X2_has rfl rfl rfl (by decide +kernel) ⟨Nat.le_of_ble_eq_true rfl, Nat.le_of_ble_eq_true rfl⟩) 2 gX_2 rfl rfl hl.1 rfl (Nat.le_of_ble_eq_true rfl) dX2_cropOf_2 ⟨Nat.le_of_ble_eq_true rfl, Nat.le_of_ble_eq_true rfl⟩ (fun H locs w => ?_)
  refine lv_if_eq (tgt := 17) hx hb dX2_cropOf_5 (by decide) (fun c2 => ?_) (fun c2 => ?_)
  · have hf := if_t hf c2
    refine lv_iconst (v := 0) hx hb dX2_cropOf_17 (by decide) ?_
    cases hf
    exact hQ _ _ _ _ dX2_cropOf_18 w
  · have hf := if_f hf c2
    refine lv_aload_n hx hb dX2_cropOf_8 rfl (lv_at hl 0 rfl) ?_
    refine kget (v := .ref (ad 18)) F B w inX2_cropOf_2 2 gX_2 rfl 3 (by decide) (hts (.fieldLink RX2 21 "LandReform$Land" "crops" "[I") (by decide +kernel)) rfl rfl dX2_cropOf_9 ?_
    refine lv_iload_n hx hb dX2_cropOf_12 rfl (lv_at hl 1 rfl) ?_
    obtain ⟨g3, hf⟩ := if_g hf
    refine kiald F B w 18 gX_18 g3 dX2_cropOf_13 ?_
    refine lv_goto (tgt := 18) hx hb dX2_cropOf_14 (by decide) ?_
    cases hf
    exact hQ _ _ _ _ dX2_cropOf_18 w
