def fX10_owned (n : Nat) (S : St) (x1 : Int32) (x2 : Int32) : Option Int32 := ob (fX2_has S x1) fun r1 => if r1 = 0 then (some (-1)) else (if x2 < 0 then (some (-1)) else (if x2 ≤ 1000 then (ob (fX2_ownerAsDayEnded n S x1 x2) fun r5 => some r5) else (some (-1))))
set_option maxRecDepth 20000 in
theorem inX10_owned_10 : ∀ w ∈ u_ws RX10 TX10 12, w ∈ wsX10_owned := by decide +kernel
set_option maxHeartbeats 4000000 in
set_option maxRecDepth 100000 in
theorem tX10_owned {l : Launch} {D : va_G} {cc : Nat → ClassId} {ak av : Nat → Nat} {ad : Nat → Nat} {g : Nat → Option Nat} {E : va_W} {n : Nat} {S : St} {x1 : Int32} {x2 : Int32} {r : Int32} (hf : fX10_owned n S x1 x2 = some r) : CI l yX10_owned wsX10_owned ({ frames := 3, cells := 0, slots := 0, locals := 66 } : Room) D cc ak av [.ref (ad 0), .int x1, .int x2] (WX cc ad g S ++ E) (WX cc ad g S ++ E) r := by
  refine mkI (c0 := cX10_owned) (nL := 3) (own := RX10) rfl rfl (by decide) rfl rfl (Nat.le_of_ble_eq_true rfl) ?_
  intro p e s m args below meth c A Q ls F B hQ hl w
  have hx := F.1
  have hb := F.2.1
  have hown := F.2.2.2.1
  have hts := F.2.2.2.2
  have hl : lv_has ls 3 [(0, .ref (ad 0)), (1, .int x1), (2, .int x2)] := hl
  unfold fX10_owned at hf
  refine lv_aload_n hx hb dX10_owned_0 rfl (lv_at hl 0 rfl) ?_
  refine kget (v := .ref (ad 2)) F B w inX10_owned_10 0 gX_0 rfl 1 (by decide) (hts (.fieldLink RX10 19 "LandReform" "land" "LLandReform$Land;") (by decide +kernel)) rfl rfl dX10_owned_1 ?_
  refine lv_iload_n hx hb dX10_owned_4 rfl (lv_at hl 1 rfl) ?_
  obtain ⟨r1, er1, hf⟩ := ob_e hf
  refine kVi (As := [.int x1]) (rest := []) F B w (tX2_has er1) (cwV 1 hts gX10_owned_X2_has rfl rfl rfl (by decide +kernel) ⟨Nat.le_of_ble_eq_true rfl, Nat.le_of_ble_eq_true rfl⟩) 2 gX_2 rfl rfl hl.1 rfl (Nat.le_of_ble_eq_true rfl) dX10_owned_5 ⟨Nat.le_of_ble_eq_true rfl, Nat.le_of_ble_eq_true rfl⟩ (fun H locs w => ?_)
  refine lv_if_eq (tgt := 22) hx hb dX10_owned_8 (by decide) (fun c2 => ?_) (fun c2 => ?_)
  · have hf := if_t hf c2
    refine lv_iconst (v := (-1)) hx hb dX10_owned_22 (by decide) ?_
    cases hf
    exact hQ _ _ _ _ dX10_owned_23 w
  · have hf := if_f hf c2
    refine lv_iload_n hx hb dX10_owned_11 rfl (lv_at hl 2 rfl) ?_
    refine lv_if_lt (tgt := 22) hx hb dX10_owned_12 (by decide) (fun c3 => ?_) (fun c3 => ?_)
    · have hf := if_t hf c3
      refine lv_iconst (v := (-1)) hx hb dX10_owned_22 (by decide) ?_
      cases hf
      exact hQ _ _ _ _ dX10_owned_23 w
    · have hf := if_f hf c3
      refine lv_iload_n hx hb dX10_owned_15 rfl (lv_at hl 2 rfl) ?_
      refine lv_sipush (v := 1000) hx hb dX10_owned_16 (by decide) ?_
      refine lv_icmp_le (tgt := 24) hx hb dX10_owned_19 (by decide) (fun c4 => ?_) (fun c4 => ?_)
      · have hf := if_t hf c4
        refine lv_aload_n hx hb dX10_owned_24 rfl (lv_at hl 0 rfl) ?_
        refine kget (v := .ref (ad 2)) F B w inX10_owned_10 0 gX_0 rfl 1 (by decide) (hts (.fieldLink RX10 19 "LandReform" "land" "LLandReform$Land;") (by decide +kernel)) rfl rfl dX10_owned_25 ?_
        refine lv_iload_n hx hb dX10_owned_28 rfl (lv_at hl 1 rfl) ?_
        refine lv_iload_n hx hb dX10_owned_29 rfl (lv_at hl 2 rfl) ?_
        obtain ⟨r5, er5, hf⟩ := ob_e hf
        refine kVi (As := [.int x1, .int x2]) (rest := []) F B w (tX2_ownerAsDayEnded er5) (cwV 2 hts gX10_owned_X2_ownerAsDayEnded rfl rfl rfl (by decide +kernel) ⟨Nat.le_of_ble_eq_true rfl, Nat.le_of_ble_eq_true rfl⟩) 2 gX_2 rfl rfl hl.1 rfl (Nat.le_of_ble_eq_true rfl) dX10_owned_30 ⟨Nat.le_of_ble_eq_true rfl, Nat.le_of_ble_eq_true rfl⟩ (fun H locs w => ?_)
        cases hf
        exact hQ _ _ _ _ dX10_owned_33 w
      · have hf := if_f hf c4
        refine lv_iconst (v := (-1)) hx hb dX10_owned_22 (by decide) ?_
        cases hf
        exact hQ _ _ _ _ dX10_owned_23 w

def fX10_house (n : Nat) (S : St) (x1 : Int32) (x2 : Int32) : Option (Int32 × St) := ob (fX10_isBelow x1 20) fun r1 => if r1 = 0 then (some ((-1), S)) else (ob (fX1_gather n S x1) fun S4 => if x2 = 0 then (some ((S4.1 12), S4)) else if x2 = 1 then (some ((S4.1 13), S4)) else if x2 = 2 then (some ((S4.1 14), S4)) else if x2 = 3 then (ob (fX1_above S4) fun r8 => some (r8, S4)) else if x2 = 4 then (some ((S4.1 11), S4)) else (some ((-1), S4)))
set_option maxRecDepth 20000 in
theorem inX10_house_1 : ∀ w ∈ u_ws RX1 TX1 10, w ∈ wsX10_house := by decide +kernel
set_option maxRecDepth 20000 in
theorem inX10_house_10 : ∀ w ∈ u_ws RX10 TX10 12, w ∈ wsX10_house := by decide +kernel
set_option maxHeartbeats 4000000 in
set_option maxRecDepth 100000 in
theorem tX10_house {l : Launch} {D : va_G} {cc : Nat → ClassId} {ak av : Nat → Nat} {ad : Nat → Nat} {g : Nat → Option Nat} {E : va_W} {n : Nat} {S : St} {x1 : Int32} {x2 : Int32} {r : Int32} {S' : St} (hf : fX10_house n S x1 x2 = some (r, S')) : CI l yX10_house wsX10_house ({ frames := 6, cells := 0, slots := 0, locals := 138 } : Room) D cc ak av [.ref (ad 0), .int x1, .int x2] (WX cc ad g S ++ E) (WX cc ad g S' ++ E) r := by
  refine mkI (c0 := cX10_house) (nL := 3) (own := RX10) rfl rfl (by decide) rfl rfl (Nat.le_of_ble_eq_true rfl) ?_
  intro p e s m args below meth c A Q ls F B hQ hl w
  have hx := F.1
  have hb := F.2.1
  have hown := F.2.2.2.1
  have hts := F.2.2.2.2
  have hl : lv_has ls 3 [(0, .ref (ad 0)), (1, .int x1), (2, .int x2)] := hl
  unfold fX10_house at hf
  refine lv_iload_n hx hb dX10_house_0 rfl (lv_at hl 1 rfl) ?_
  refine lv_bipush (v := 20) hx hb dX10_house_1 (by decide) ?_
  obtain ⟨r1, er1, hf⟩ := ob_e hf
  refine kSi (As := [.int x1, .int 20]) (rest := []) F B w (tX10_isBelow er1) (va_cwS 2 hts gX10_house_X10_isBelow rfl rfl rfl (by decide +kernel) ⟨Nat.le_of_ble_eq_true rfl, Nat.le_of_ble_eq_true rfl⟩) rfl hl.1 rfl (Nat.le_of_ble_eq_true rfl) dX10_house_3 ⟨Nat.le_of_ble_eq_true rfl, Nat.le_of_ble_eq_true rfl⟩ (fun H locs w => ?_)
  refine lv_if_ne (tgt := 11) hx hb dX10_house_6 (by decide) (fun c2 => ?_) (fun c2 => ?_)
  · have hf := if_f hf c2
    refine lv_aload_n hx hb dX10_house_11 rfl (lv_at hl 0 rfl) ?_
    refine kget (v := .ref (ad 5)) F B w inX10_house_10 0 gX_0 rfl 4 (by decide) (hts (.fieldLink RX10 46 "LandReform" "holding" "LLandReform$Holding;") (by decide +kernel)) rfl rfl dX10_house_12 ?_
    refine lv_iload_n hx hb dX10_house_15 rfl (lv_at hl 1 rfl) ?_
    refine lv_aload_n hx hb dX10_house_16 rfl (lv_at hl 0 rfl) ?_
    refine kget (v := .ref (ad 2)) F B w inX10_house_10 0 gX_0 rfl 1 (by decide) (hts (.fieldLink RX10 19 "LandReform" "land" "LLandReform$Land;") (by decide +kernel)) rfl rfl dX10_house_17 ?_
    refine lv_aload_n hx hb dX10_house_20 rfl (lv_at hl 0 rfl) ?_
    refine kget (v := .ref (ad 1)) F B w inX10_house_10 0 gX_0 rfl 0 (by decide) (hts (.fieldLink RX10 10 "LandReform" "people" "LLandReform$People;") (by decide +kernel)) rfl rfl dX10_house_21 ?_
    refine lv_aload_n hx hb dX10_house_24 rfl (lv_at hl 0 rfl) ?_
    refine kget (v := .ref (ad 10)) F B w inX10_house_10 0 gX_0 rfl 10 (by decide) (hts (.fieldLink RX10 80 "LandReform" "law" "LLandReform$Law;") (by decide +kernel)) rfl rfl dX10_house_25 ?_
    obtain ⟨S4, er3, hf⟩ := ob_e hf
    refine kVv (As := [.int x1, .ref (ad 2), .ref (ad 1), .ref (ad 10)]) (rest := []) F B w (tX1_gather er3) (cwV 4 hts gX10_house_X1_gather rfl rfl rfl (by decide +kernel) ⟨Nat.le_of_ble_eq_true rfl, Nat.le_of_ble_eq_true rfl⟩) 5 gX_5 rfl rfl hl.1 rfl (Nat.le_of_ble_eq_true rfl) dX10_house_28 ⟨Nat.le_of_ble_eq_true rfl, Nat.le_of_ble_eq_true rfl⟩ (fun H locs w => ?_)
    refine lv_iload_n hx hb dX10_house_31 rfl (lv_at hl 2 rfl) ?_
    by_cases c5 : x2 = 0
    · have hf := if_t hf c5
      refine lv_tableIn (off := 36) (tgt := 68) hx hb dX10_house_32 (by rw [c5]; decide) (by rw [c5]; decide) (by rw [c5]; rfl) (by decide) ?_
      refine lv_aload_n hx hb dX10_house_68 rfl (lv_at hl 0 rfl) ?_
      refine kget (v := .ref (ad 5)) F B w inX10_house_10 0 gX_0 rfl 4 (by decide) (hts (.fieldLink RX10 46 "LandReform" "holding" "LLandReform$Holding;") (by decide +kernel)) rfl rfl dX10_house_69 ?_
      refine kgetN (v := .int (S4.1 12)) F B w inX10_house_1 5 gX_5 rfl 5 (by decide) (B.2.1.f 5 rfl) rfl rfl dX10_house_72 ?_
      cases hf
      exact hQ _ _ _ _ dX10_house_75 w
    · have hf := if_f hf c5
      by_cases c6 : x2 = 1
      · have hf := if_t hf c6
        refine lv_tableIn (off := 44) (tgt := 76) hx hb dX10_house_32 (by rw [c6]; decide) (by rw [c6]; decide) (by rw [c6]; rfl) (by decide) ?_
        refine lv_aload_n hx hb dX10_house_76 rfl (lv_at hl 0 rfl) ?_
        refine kget (v := .ref (ad 5)) F B w inX10_house_10 0 gX_0 rfl 4 (by decide) (hts (.fieldLink RX10 46 "LandReform" "holding" "LLandReform$Holding;") (by decide +kernel)) rfl rfl dX10_house_77 ?_
        refine kgetN (v := .int (S4.1 13)) F B w inX10_house_1 5 gX_5 rfl 6 (by decide) (B.2.1.f 6 rfl) rfl rfl dX10_house_80 ?_
        cases hf
        exact hQ _ _ _ _ dX10_house_83 w
      · have hf := if_f hf c6
        by_cases c7 : x2 = 2
        · have hf := if_t hf c7
          refine lv_tableIn (off := 52) (tgt := 84) hx hb dX10_house_32 (by rw [c7]; decide) (by rw [c7]; decide) (by rw [c7]; rfl) (by decide) ?_
          refine lv_aload_n hx hb dX10_house_84 rfl (lv_at hl 0 rfl) ?_
          refine kget (v := .ref (ad 5)) F B w inX10_house_10 0 gX_0 rfl 4 (by decide) (hts (.fieldLink RX10 46 "LandReform" "holding" "LLandReform$Holding;") (by decide +kernel)) rfl rfl dX10_house_85 ?_
          refine kgetN (v := .int (S4.1 14)) F B w inX10_house_1 5 gX_5 rfl 7 (by decide) (B.2.1.f 7 rfl) rfl rfl dX10_house_88 ?_
          cases hf
          exact hQ _ _ _ _ dX10_house_91 w
        · have hf := if_f hf c7
          by_cases c9 : x2 = 3
          · have hf := if_t hf c9
            refine lv_tableIn (off := 60) (tgt := 92) hx hb dX10_house_32 (by rw [c9]; decide) (by rw [c9]; decide) (by rw [c9]; rfl) (by decide) ?_
            refine lv_aload_n hx hb dX10_house_92 rfl (lv_at hl 0 rfl) ?_
            refine kget (v := .ref (ad 5)) F B w inX10_house_10 0 gX_0 rfl 4 (by decide) (hts (.fieldLink RX10 46 "LandReform" "holding" "LLandReform$Holding;") (by decide +kernel)) rfl rfl dX10_house_93 ?_
            obtain ⟨r8, er8, hf⟩ := ob_e hf
            refine kVi (As := []) (rest := []) F B w (tX1_above er8) (cwV 0 hts gX10_house_X1_above rfl rfl rfl (by decide +kernel) ⟨Nat.le_of_ble_eq_true rfl, Nat.le_of_ble_eq_true rfl⟩) 5 gX_5 rfl rfl hl.1 rfl (Nat.le_of_ble_eq_true rfl) dX10_house_96 ⟨Nat.le_of_ble_eq_true rfl, Nat.le_of_ble_eq_true rfl⟩ (fun H locs w => ?_)
            cases hf
            exact hQ _ _ _ _ dX10_house_99 w
          · have hf := if_f hf c9
            by_cases c10 : x2 = 4
            · have hf := if_t hf c10
              refine lv_tableIn (off := 68) (tgt := 100) hx hb dX10_house_32 (by rw [c10]; decide) (by rw [c10]; decide) (by rw [c10]; rfl) (by decide) ?_
              refine lv_aload_n hx hb dX10_house_100 rfl (lv_at hl 0 rfl) ?_
              refine kget (v := .ref (ad 5)) F B w inX10_house_10 0 gX_0 rfl 4 (by decide) (hts (.fieldLink RX10 46 "LandReform" "holding" "LLandReform$Holding;") (by decide +kernel)) rfl rfl dX10_house_101 ?_
              refine kgetN (v := .int (S4.1 11)) F B w inX10_house_1 5 gX_5 rfl 4 (by decide) (B.2.1.f 8 rfl) rfl rfl dX10_house_104 ?_
              cases hf
              exact hQ _ _ _ _ dX10_house_107 w
            · have hf := if_f hf c10
              have hsw : Int32.toInt x2 < 0 ∨ 4 < Int32.toInt x2 := by
                have hc5 := lv_neT c5 (a := 0) (by decide)
                have hc6 := lv_neT c6 (a := 1) (by decide)
                have hc7 := lv_neT c7 (a := 2) (by decide)
                have hc9 := lv_neT c9 (a := 3) (by decide)
                have hc10 := lv_neT c10 (a := 4) (by decide)
                omega
              refine lv_tableOut (tgt := 108) hx hb dX10_house_32 hsw (by decide) ?_
              refine lv_iconst (v := (-1)) hx hb dX10_house_108 (by decide) ?_
              cases hf
              exact hQ _ _ _ _ dX10_house_109 w
  · have hf := if_t hf c2
    refine lv_iconst (v := (-1)) hx hb dX10_house_9 (by decide) ?_
    cases hf
    exact hQ _ _ _ _ dX10_house_10 w

def fX10_kept (n : Nat) (S : St) (x1 : Int32) (x2 : Int32) : Option (Int32 × St) := ob (fX10_isBelow x1 20) fun r1 => if r1 = 0 then (some ((-1), S)) else (if (-1) ≤ x2 then (ob (fX1_gather n S x1) fun S5 => if (S5.1 11) ≤ x2 then (some ((-1), S5)) else (ob (fX1_choose n S5) fun q9 => lt_ q9.1 fun r7 => lt_ q9.2 fun S8 => if r7 = 0 then (some ((-1), S8)) else (if x2 = (-1) then (some ((S8.1 16), S8)) else (ob (fX1_keeps S8 x2) fun r12 => if r12 = 0 then (some (0, S8)) else (some (1, S8)))))) else (some ((-1), S)))
set_option maxRecDepth 20000 in
theorem inX10_kept_1 : ∀ w ∈ u_ws RX1 TX1 10, w ∈ wsX10_kept := by decide +kernel
set_option maxRecDepth 20000 in
theorem inX10_kept_10 : ∀ w ∈ u_ws RX10 TX10 12, w ∈ wsX10_kept := by decide +kernel
set_option maxHeartbeats 4000000 in
set_option maxRecDepth 100000 in
theorem tX10_kept {l : Launch} {D : va_G} {cc : Nat → ClassId} {ak av : Nat → Nat} {ad : Nat → Nat} {g : Nat → Option Nat} {E : va_W} {n : Nat} {S : St} {x1 : Int32} {x2 : Int32} {r : Int32} {S' : St} (hf : fX10_kept n S x1 x2 = some (r, S')) : CI l yX10_kept wsX10_kept ({ frames := 6, cells := 0, slots := 0, locals := 139 } : Room) D cc ak av [.ref (ad 0), .int x1, .int x2] (WX cc ad g S ++ E) (WX cc ad g S' ++ E) r := by
  refine mkI (c0 := cX10_kept) (nL := 3) (own := RX10) rfl rfl (by decide) rfl rfl (Nat.le_of_ble_eq_true rfl) ?_
  intro p e s m args below meth c A Q ls F B hQ hl w
  have hx := F.1
  have hb := F.2.1
  have hown := F.2.2.2.1
  have hts := F.2.2.2.2
  have hl : lv_has ls 3 [(0, .ref (ad 0)), (1, .int x1), (2, .int x2)] := hl
  unfold fX10_kept at hf
  refine lv_iload_n hx hb dX10_kept_0 rfl (lv_at hl 1 rfl) ?_
  refine lv_bipush (v := 20) hx hb dX10_kept_1 (by decide) ?_
  obtain ⟨r1, er1, hf⟩ := ob_e hf
  refine kSi (As := [.int x1, .int 20]) (rest := []) F B w (tX10_isBelow er1) (va_cwS 2 hts gX10_kept_X10_isBelow rfl rfl rfl (by decide +kernel) ⟨Nat.le_of_ble_eq_true rfl, Nat.le_of_ble_eq_true rfl⟩) rfl hl.1 rfl (Nat.le_of_ble_eq_true rfl) dX10_kept_3 ⟨Nat.le_of_ble_eq_true rfl, Nat.le_of_ble_eq_true rfl⟩ (fun H locs w => ?_)
  refine lv_if_eq (tgt := 14) hx hb dX10_kept_6 (by decide) (fun c2 => ?_) (fun c2 => ?_)
  · have hf := if_t hf c2
    refine lv_iconst (v := (-1)) hx hb dX10_kept_14 (by decide) ?_
    cases hf
    exact hQ _ _ _ _ dX10_kept_15 w
  · have hf := if_f hf c2
    refine lv_iload_n hx hb dX10_kept_9 rfl (lv_at hl 2 rfl) ?_
    refine lv_iconst (v := (-1)) hx hb dX10_kept_10 (by decide) ?_
    refine lv_icmp_ge (tgt := 16) hx hb dX10_kept_11 (by decide) (fun c3 => ?_) (fun c3 => ?_)
    · have hf := if_t hf c3
      refine lv_aload_n hx hb dX10_kept_16 rfl (lv_at hl 0 rfl) ?_
      refine kget (v := .ref (ad 5)) F B w inX10_kept_10 0 gX_0 rfl 4 (by decide) (hts (.fieldLink RX10 46 "LandReform" "holding" "LLandReform$Holding;") (by decide +kernel)) rfl rfl dX10_kept_17 ?_
      refine lv_iload_n hx hb dX10_kept_20 rfl (lv_at hl 1 rfl) ?_
      refine lv_aload_n hx hb dX10_kept_21 rfl (lv_at hl 0 rfl) ?_
      refine kget (v := .ref (ad 2)) F B w inX10_kept_10 0 gX_0 rfl 1 (by decide) (hts (.fieldLink RX10 19 "LandReform" "land" "LLandReform$Land;") (by decide +kernel)) rfl rfl dX10_kept_22 ?_
      refine lv_aload_n hx hb dX10_kept_25 rfl (lv_at hl 0 rfl) ?_
      refine kget (v := .ref (ad 1)) F B w inX10_kept_10 0 gX_0 rfl 0 (by decide) (hts (.fieldLink RX10 10 "LandReform" "people" "LLandReform$People;") (by decide +kernel)) rfl rfl dX10_kept_26 ?_
      refine lv_aload_n hx hb dX10_kept_29 rfl (lv_at hl 0 rfl) ?_
      refine kget (v := .ref (ad 10)) F B w inX10_kept_10 0 gX_0 rfl 10 (by decide) (hts (.fieldLink RX10 80 "LandReform" "law" "LLandReform$Law;") (by decide +kernel)) rfl rfl dX10_kept_30 ?_
      obtain ⟨S5, er4, hf⟩ := ob_e hf
      refine kVv (As := [.int x1, .ref (ad 2), .ref (ad 1), .ref (ad 10)]) (rest := []) F B w (tX1_gather er4) (cwV 4 hts gX10_kept_X1_gather rfl rfl rfl (by decide +kernel) ⟨Nat.le_of_ble_eq_true rfl, Nat.le_of_ble_eq_true rfl⟩) 5 gX_5 rfl rfl hl.1 rfl (Nat.le_of_ble_eq_true rfl) dX10_kept_33 ⟨Nat.le_of_ble_eq_true rfl, Nat.le_of_ble_eq_true rfl⟩ (fun H locs w => ?_)
      refine lv_iload_n hx hb dX10_kept_36 rfl (lv_at hl 2 rfl) ?_
      refine lv_aload_n hx hb dX10_kept_37 rfl (lv_at hl 0 rfl) ?_
      refine kget (v := .ref (ad 5)) F B w inX10_kept_10 0 gX_0 rfl 4 (by decide) (hts (.fieldLink RX10 46 "LandReform" "holding" "LLandReform$Holding;") (by decide +kernel)) rfl rfl dX10_kept_38 ?_
      refine kgetN (v := .int (S5.1 11)) F B w inX10_kept_1 5 gX_5 rfl 4 (by decide) (B.2.1.f 8 rfl) rfl rfl dX10_kept_41 ?_
      refine lv_icmp_ge (tgt := 65) hx hb dX10_kept_44 (by decide) (fun c6 => ?_) (fun c6 => ?_)
      · have hf := if_t hf c6
        refine lv_iconst (v := (-1)) hx hb dX10_kept_65 (by decide) ?_
        cases hf
        exact hQ _ _ _ _ dX10_kept_66 w
      · have hf := if_f hf c6
        refine lv_aload_n hx hb dX10_kept_47 rfl (lv_at hl 0 rfl) ?_
        refine kget (v := .ref (ad 5)) F B w inX10_kept_10 0 gX_0 rfl 4 (by decide) (hts (.fieldLink RX10 46 "LandReform" "holding" "LLandReform$Holding;") (by decide +kernel)) rfl rfl dX10_kept_48 ?_
        refine lv_aload_n hx hb dX10_kept_51 rfl (lv_at hl 0 rfl) ?_
        refine kget (v := .ref (ad 2)) F B w inX10_kept_10 0 gX_0 rfl 1 (by decide) (hts (.fieldLink RX10 19 "LandReform" "land" "LLandReform$Land;") (by decide +kernel)) rfl rfl dX10_kept_52 ?_
        refine lv_aload_n hx hb dX10_kept_55 rfl (lv_at hl 0 rfl) ?_
        refine kget (v := .ref (ad 10)) F B w inX10_kept_10 0 gX_0 rfl 10 (by decide) (hts (.fieldLink RX10 80 "LandReform" "law" "LLandReform$Law;") (by decide +kernel)) rfl rfl dX10_kept_56 ?_
        obtain ⟨⟨r7, S8⟩, er7, hf⟩ := ob_e hf
        have hf := lt_e hf (v := r7) rfl
        have hf := lt_e hf (v := S8) rfl
        refine kVi (As := [.ref (ad 2), .ref (ad 10)]) (rest := []) F B w (tX1_choose er7) (cwV 2 hts gX10_kept_X1_choose rfl rfl rfl (by decide +kernel) ⟨Nat.le_of_ble_eq_true rfl, Nat.le_of_ble_eq_true rfl⟩) 5 gX_5 rfl rfl hl.1 rfl (Nat.le_of_ble_eq_true rfl) dX10_kept_59 ⟨Nat.le_of_ble_eq_true rfl, Nat.le_of_ble_eq_true rfl⟩ (fun H locs w => ?_)
        refine lv_if_ne (tgt := 67) hx hb dX10_kept_62 (by decide) (fun c10 => ?_) (fun c10 => ?_)
        · have hf := if_f hf c10
          refine lv_iload_n hx hb dX10_kept_67 rfl (lv_at hl 2 rfl) ?_
          refine lv_iconst (v := (-1)) hx hb dX10_kept_68 (by decide) ?_
          refine lv_icmp_ne (tgt := 80) hx hb dX10_kept_69 (by decide) (fun c11 => ?_) (fun c11 => ?_)
          · have hf := if_f hf c11
            refine lv_aload_n hx hb dX10_kept_80 rfl (lv_at hl 0 rfl) ?_
            refine kget (v := .ref (ad 5)) F B w inX10_kept_10 0 gX_0 rfl 4 (by decide) (hts (.fieldLink RX10 46 "LandReform" "holding" "LLandReform$Holding;") (by decide +kernel)) rfl rfl dX10_kept_81 ?_
            refine lv_iload_n hx hb dX10_kept_84 rfl (lv_at hl 2 rfl) ?_
            obtain ⟨r12, er12, hf⟩ := ob_e hf
            refine kVi (As := [.int x2]) (rest := []) F B w (tX1_keeps er12) (cwV 1 hts gX10_kept_X1_keeps rfl rfl rfl (by decide +kernel) ⟨Nat.le_of_ble_eq_true rfl, Nat.le_of_ble_eq_true rfl⟩) 5 gX_5 rfl rfl hl.1 rfl (Nat.le_of_ble_eq_true rfl) dX10_kept_85 ⟨Nat.le_of_ble_eq_true rfl, Nat.le_of_ble_eq_true rfl⟩ (fun H locs w => ?_)
            refine lv_if_eq (tgt := 95) hx hb dX10_kept_88 (by decide) (fun c13 => ?_) (fun c13 => ?_)
            · have hf := if_t hf c13
              refine lv_iconst (v := 0) hx hb dX10_kept_95 (by decide) ?_
              cases hf
              exact hQ _ _ _ _ dX10_kept_96 w
            · have hf := if_f hf c13
              refine lv_iconst (v := 1) hx hb dX10_kept_91 (by decide) ?_
              refine lv_goto (tgt := 96) hx hb dX10_kept_92 (by decide) ?_
              cases hf
              exact hQ _ _ _ _ dX10_kept_96 w
          · have hf := if_t hf c11
            refine lv_aload_n hx hb dX10_kept_72 rfl (lv_at hl 0 rfl) ?_
            refine kget (v := .ref (ad 5)) F B w inX10_kept_10 0 gX_0 rfl 4 (by decide) (hts (.fieldLink RX10 46 "LandReform" "holding" "LLandReform$Holding;") (by decide +kernel)) rfl rfl dX10_kept_73 ?_
            refine kgetN (v := .int (S8.1 16)) F B w inX10_kept_1 5 gX_5 rfl 9 (by decide) (B.2.1.f 9 rfl) rfl rfl dX10_kept_76 ?_
            cases hf
            exact hQ _ _ _ _ dX10_kept_79 w
        · have hf := if_t hf c10
          refine lv_iconst (v := (-1)) hx hb dX10_kept_65 (by decide) ?_
          cases hf
          exact hQ _ _ _ _ dX10_kept_66 w
    · have hf := if_f hf c3
      refine lv_iconst (v := (-1)) hx hb dX10_kept_14 (by decide) ?_
      cases hf
      exact hQ _ _ _ _ dX10_kept_15 w

def fX10_taken (n : Nat) (S : St) (x1 : Int32) (x2 : Int32) : Option (Int32 × St) := ob (fX10_isBelow x1 20) fun r1 => if r1 = 0 then (some ((-1), S)) else (if 0 ≤ x2 then (ob (fX1_gather n S x1) fun S5 => ob (fX1_choose n S5) fun q8 => lt_ q8.1 fun r6 => lt_ q8.2 fun S7 => if r6 = 0 then (some ((-1), S7)) else (ob (fX1_takenField n S7 x2) fun r10 => some (r10, S7))) else (some ((-1), S)))
set_option maxRecDepth 20000 in
theorem inX10_taken_10 : ∀ w ∈ u_ws RX10 TX10 12, w ∈ wsX10_taken := by decide +kernel
set_option maxHeartbeats 4000000 in
set_option maxRecDepth 100000 in
theorem tX10_taken {l : Launch} {D : va_G} {cc : Nat → ClassId} {ak av : Nat → Nat} {ad : Nat → Nat} {g : Nat → Option Nat} {E : va_W} {n : Nat} {S : St} {x1 : Int32} {x2 : Int32} {r : Int32} {S' : St} (hf : fX10_taken n S x1 x2 = some (r, S')) : CI l yX10_taken wsX10_taken ({ frames := 6, cells := 0, slots := 0, locals := 139 } : Room) D cc ak av [.ref (ad 0), .int x1, .int x2] (WX cc ad g S ++ E) (WX cc ad g S' ++ E) r := by
  refine mkI (c0 := cX10_taken) (nL := 3) (own := RX10) rfl rfl (by decide) rfl rfl (Nat.le_of_ble_eq_true rfl) ?_
  intro p e s m args below meth c A Q ls F B hQ hl w
  have hx := F.1
  have hb := F.2.1
  have hown := F.2.2.2.1
  have hts := F.2.2.2.2
  have hl : lv_has ls 3 [(0, .ref (ad 0)), (1, .int x1), (2, .int x2)] := hl
  unfold fX10_taken at hf
  refine lv_iload_n hx hb dX10_taken_0 rfl (lv_at hl 1 rfl) ?_
  refine lv_bipush (v := 20) hx hb dX10_taken_1 (by decide) ?_
  obtain ⟨r1, er1, hf⟩ := ob_e hf
  refine kSi (As := [.int x1, .int 20]) (rest := []) F B w (tX10_isBelow er1) (va_cwS 2 hts gX10_taken_X10_isBelow rfl rfl rfl (by decide +kernel) ⟨Nat.le_of_ble_eq_true rfl, Nat.le_of_ble_eq_true rfl⟩) rfl hl.1 rfl (Nat.le_of_ble_eq_true rfl) dX10_taken_3 ⟨Nat.le_of_ble_eq_true rfl, Nat.le_of_ble_eq_true rfl⟩ (fun H locs w => ?_)
  refine lv_if_eq (tgt := 13) hx hb dX10_taken_6 (by decide) (fun c2 => ?_) (fun c2 => ?_)
  · have hf := if_t hf c2
    refine lv_iconst (v := (-1)) hx hb dX10_taken_13 (by decide) ?_
    cases hf
    exact hQ _ _ _ _ dX10_taken_14 w
  · have hf := if_f hf c2
    refine lv_iload_n hx hb dX10_taken_9 rfl (lv_at hl 2 rfl) ?_
    refine lv_if_ge (tgt := 15) hx hb dX10_taken_10 (by decide) (fun c3 => ?_) (fun c3 => ?_)
    · have hf := if_t hf c3
      refine lv_aload_n hx hb dX10_taken_15 rfl (lv_at hl 0 rfl) ?_
      refine kget (v := .ref (ad 5)) F B w inX10_taken_10 0 gX_0 rfl 4 (by decide) (hts (.fieldLink RX10 46 "LandReform" "holding" "LLandReform$Holding;") (by decide +kernel)) rfl rfl dX10_taken_16 ?_
      refine lv_iload_n hx hb dX10_taken_19 rfl (lv_at hl 1 rfl) ?_
      refine lv_aload_n hx hb dX10_taken_20 rfl (lv_at hl 0 rfl) ?_
      refine kget (v := .ref (ad 2)) F B w inX10_taken_10 0 gX_0 rfl 1 (by decide) (hts (.fieldLink RX10 19 "LandReform" "land" "LLandReform$Land;") (by decide +kernel)) rfl rfl dX10_taken_21 ?_
      refine lv_aload_n hx hb dX10_taken_24 rfl (lv_at hl 0 rfl) ?_
      refine kget (v := .ref (ad 1)) F B w inX10_taken_10 0 gX_0 rfl 0 (by decide) (hts (.fieldLink RX10 10 "LandReform" "people" "LLandReform$People;") (by decide +kernel)) rfl rfl dX10_taken_25 ?_
      refine lv_aload_n hx hb dX10_taken_28 rfl (lv_at hl 0 rfl) ?_
      refine kget (v := .ref (ad 10)) F B w inX10_taken_10 0 gX_0 rfl 10 (by decide) (hts (.fieldLink RX10 80 "LandReform" "law" "LLandReform$Law;") (by decide +kernel)) rfl rfl dX10_taken_29 ?_
      obtain ⟨S5, er4, hf⟩ := ob_e hf
      refine kVv (As := [.int x1, .ref (ad 2), .ref (ad 1), .ref (ad 10)]) (rest := []) F B w (tX1_gather er4) (cwV 4 hts gX10_taken_X1_gather rfl rfl rfl (by decide +kernel) ⟨Nat.le_of_ble_eq_true rfl, Nat.le_of_ble_eq_true rfl⟩) 5 gX_5 rfl rfl hl.1 rfl (Nat.le_of_ble_eq_true rfl) dX10_taken_32 ⟨Nat.le_of_ble_eq_true rfl, Nat.le_of_ble_eq_true rfl⟩ (fun H locs w => ?_)
      refine lv_aload_n hx hb dX10_taken_35 rfl (lv_at hl 0 rfl) ?_
      refine kget (v := .ref (ad 5)) F B w inX10_taken_10 0 gX_0 rfl 4 (by decide) (hts (.fieldLink RX10 46 "LandReform" "holding" "LLandReform$Holding;") (by decide +kernel)) rfl rfl dX10_taken_36 ?_
      refine lv_aload_n hx hb dX10_taken_39 rfl (lv_at hl 0 rfl) ?_
      refine kget (v := .ref (ad 2)) F B w inX10_taken_10 0 gX_0 rfl 1 (by decide) (hts (.fieldLink RX10 19 "LandReform" "land" "LLandReform$Land;") (by decide +kernel)) rfl rfl dX10_taken_40 ?_
      refine lv_aload_n hx hb dX10_taken_43 rfl (lv_at hl 0 rfl) ?_
      refine kget (v := .ref (ad 10)) F B w inX10_taken_10 0 gX_0 rfl 10 (by decide) (hts (.fieldLink RX10 80 "LandReform" "law" "LLandReform$Law;") (by decide +kernel)) rfl rfl dX10_taken_44 ?_
      obtain ⟨⟨r6, S7⟩, er6, hf⟩ := ob_e hf
      have hf := lt_e hf (v := r6) rfl
      have hf := lt_e hf (v := S7) rfl
      refine kVi (As := [.ref (ad 2), .ref (ad 10)]) (rest := []) F B w (tX1_choose er6) (cwV 2 hts gX10_taken_X1_choose rfl rfl rfl (by decide +kernel) ⟨Nat.le_of_ble_eq_true rfl, Nat.le_of_ble_eq_true rfl⟩) 5 gX_5 rfl rfl hl.1 rfl (Nat.le_of_ble_eq_true rfl) dX10_taken_47 ⟨Nat.le_of_ble_eq_true rfl, Nat.le_of_ble_eq_true rfl⟩ (fun H locs w => ?_)
      refine lv_if_eq (tgt := 64) hx hb dX10_taken_50 (by decide) (fun c9 => ?_) (fun c9 => ?_)
      · have hf := if_t hf c9
        refine lv_iconst (v := (-1)) hx hb dX10_taken_64 (by decide) ?_
        cases hf
        exact hQ _ _ _ _ dX10_taken_65 w
      · have hf := if_f hf c9
        refine lv_aload_n hx hb dX10_taken_53 rfl (lv_at hl 0 rfl) ?_
        refine kget (v := .ref (ad 5)) F B w inX10_taken_10 0 gX_0 rfl 4 (by decide) (hts (.fieldLink RX10 46 "LandReform" "holding" "LLandReform$Holding;") (by decide +kernel)) rfl rfl dX10_taken_54 ?_
        refine lv_iload_n hx hb dX10_taken_57 rfl (lv_at hl 2 rfl) ?_
        obtain ⟨r10, er10, hf⟩ := ob_e hf
        refine kVi (As := [.int x2]) (rest := []) F B w (tX1_takenField er10) (cwV 1 hts gX10_taken_X1_takenField rfl rfl rfl (by decide +kernel) ⟨Nat.le_of_ble_eq_true rfl, Nat.le_of_ble_eq_true rfl⟩) 5 gX_5 rfl rfl hl.1 rfl (Nat.le_of_ble_eq_true rfl) dX10_taken_58 ⟨Nat.le_of_ble_eq_true rfl, Nat.le_of_ble_eq_true rfl⟩ (fun H locs w => ?_)
        refine lv_goto (tgt := 65) hx hb dX10_taken_61 (by decide) ?_
        cases hf
        exact hQ _ _ _ _ dX10_taken_65 w
    · have hf := if_f hf c3
      refine lv_iconst (v := (-1)) hx hb dX10_taken_13 (by decide) ?_
      cases hf
      exact hQ _ _ _ _ dX10_taken_14 w

def fX10_share (n : Nat) (S : St) (x1 : Int32) (x2 : Int32) (x3 : Int32) : Option (Int32 × St) := ob (fX2_has S x1) fun r1 => if r1 = 0 then (some ((-1), S)) else (ob (fX4_has S x2) fun r3 => if r3 = 0 then (some ((-1), S)) else (ob (fX10_isBelow x3 30) fun r5 => if r5 = 0 then (some ((-1), S)) else (ob (fX9_tell n S x1 x2 x3) fun q9 => lt_ q9.1 fun r7 => lt_ q9.2 fun S8 => some (r7, S8))))
set_option maxRecDepth 20000 in
theorem inX10_share_10 : ∀ w ∈ u_ws RX10 TX10 12, w ∈ wsX10_share := by decide +kernel
set_option maxHeartbeats 4000000 in
set_option maxRecDepth 100000 in
theorem tX10_share {l : Launch} {D : va_G} {cc : Nat → ClassId} {ak av : Nat → Nat} {ad : Nat → Nat} {g : Nat → Option Nat} {E : va_W} {n : Nat} {S : St} {x1 : Int32} {x2 : Int32} {x3 : Int32} {r : Int32} {S' : St} (hf : fX10_share n S x1 x2 x3 = some (r, S')) : CI l yX10_share wsX10_share ({ frames := 2, cells := 0, slots := 0, locals := 47 } : Room) D cc ak av [.ref (ad 0), .int x1, .int x2, .int x3] (WX cc ad g S ++ E) (WX cc ad g S' ++ E) r := by
  refine mkI (c0 := cX10_share) (nL := 4) (own := RX10) rfl rfl (by decide) rfl rfl (Nat.le_of_ble_eq_true rfl) ?_
  intro p e s m args below meth c A Q ls F B hQ hl w
  have hx := F.1
  have hb := F.2.1
  have hown := F.2.2.2.1
  have hts := F.2.2.2.2
  have hl : lv_has ls 4 [(0, .ref (ad 0)), (1, .int x1), (2, .int x2), (3, .int x3)] := hl
  unfold fX10_share at hf
  refine lv_aload_n hx hb dX10_share_0 rfl (lv_at hl 0 rfl) ?_
  refine kget (v := .ref (ad 2)) F B w inX10_share_10 0 gX_0 rfl 1 (by decide) (hts (.fieldLink RX10 19 "LandReform" "land" "LLandReform$Land;") (by decide +kernel)) rfl rfl dX10_share_1 ?_
  refine lv_iload_n hx hb dX10_share_4 rfl (lv_at hl 1 rfl) ?_
  obtain ⟨r1, er1, hf⟩ := ob_e hf
  refine kVi (As := [.int x1]) (rest := []) F B w (tX2_has er1) (cwV 1 hts gX10_share_X2_has rfl rfl rfl (by decide +kernel) ⟨Nat.le_of_ble_eq_true rfl, Nat.le_of_ble_eq_true rfl⟩) 2 gX_2 rfl rfl hl.1 rfl (Nat.le_of_ble_eq_true rfl) dX10_share_5 ⟨Nat.le_of_ble_eq_true rfl, Nat.le_of_ble_eq_true rfl⟩ (fun H locs w => ?_)
  refine lv_if_eq (tgt := 31) hx hb dX10_share_8 (by decide) (fun c2 => ?_) (fun c2 => ?_)
  · have hf := if_t hf c2
    refine lv_iconst (v := (-1)) hx hb dX10_share_31 (by decide) ?_
    cases hf
    exact hQ _ _ _ _ dX10_share_32 w
  · have hf := if_f hf c2
    refine lv_aload_n hx hb dX10_share_11 rfl (lv_at hl 0 rfl) ?_
    refine kget (v := .ref (ad 1)) F B w inX10_share_10 0 gX_0 rfl 0 (by decide) (hts (.fieldLink RX10 10 "LandReform" "people" "LLandReform$People;") (by decide +kernel)) rfl rfl dX10_share_12 ?_
    refine lv_iload_n hx hb dX10_share_15 rfl (lv_at hl 2 rfl) ?_
    obtain ⟨r3, er3, hf⟩ := ob_e hf
    refine kVi (As := [.int x2]) (rest := []) F B w (tX4_has er3) (cwV 1 hts gX10_share_X4_has rfl rfl rfl (by decide +kernel) ⟨Nat.le_of_ble_eq_true rfl, Nat.le_of_ble_eq_true rfl⟩) 1 gX_1 rfl rfl hl.1 rfl (Nat.le_of_ble_eq_true rfl) dX10_share_16 ⟨Nat.le_of_ble_eq_true rfl, Nat.le_of_ble_eq_true rfl⟩ (fun H locs w => ?_)
    refine lv_if_eq (tgt := 31) hx hb dX10_share_19 (by decide) (fun c4 => ?_) (fun c4 => ?_)
    · have hf := if_t hf c4
      refine lv_iconst (v := (-1)) hx hb dX10_share_31 (by decide) ?_
      cases hf
      exact hQ _ _ _ _ dX10_share_32 w
    · have hf := if_f hf c4
      refine lv_iload_n hx hb dX10_share_22 rfl (lv_at hl 3 rfl) ?_
      refine lv_bipush (v := 30) hx hb dX10_share_23 (by decide) ?_
      obtain ⟨r5, er5, hf⟩ := ob_e hf
      refine kSi (As := [.int x3, .int 30]) (rest := []) F B w (tX10_isBelow er5) (va_cwS 2 hts gX10_share_X10_isBelow rfl rfl rfl (by decide +kernel) ⟨Nat.le_of_ble_eq_true rfl, Nat.le_of_ble_eq_true rfl⟩) rfl hl.1 rfl (Nat.le_of_ble_eq_true rfl) dX10_share_25 ⟨Nat.le_of_ble_eq_true rfl, Nat.le_of_ble_eq_true rfl⟩ (fun H locs w => ?_)
      refine lv_if_ne (tgt := 33) hx hb dX10_share_28 (by decide) (fun c6 => ?_) (fun c6 => ?_)
      · have hf := if_f hf c6
        refine lv_aload_n hx hb dX10_share_33 rfl (lv_at hl 0 rfl) ?_
        refine kget (v := .ref (ad 6)) F B w inX10_share_10 0 gX_0 rfl 5 (by decide) (hts (.fieldLink RX10 53 "LandReform" "tenancies" "LLandReform$Tenancies;") (by decide +kernel)) rfl rfl dX10_share_34 ?_
        refine lv_iload_n hx hb dX10_share_37 rfl (lv_at hl 1 rfl) ?_
        refine lv_iload_n hx hb dX10_share_38 rfl (lv_at hl 2 rfl) ?_
        refine lv_iload_n hx hb dX10_share_39 rfl (lv_at hl 3 rfl) ?_
        obtain ⟨⟨r7, S8⟩, er7, hf⟩ := ob_e hf
        have hf := lt_e hf (v := r7) rfl
        have hf := lt_e hf (v := S8) rfl
        refine kVi (As := [.int x1, .int x2, .int x3]) (rest := []) F B w (tX9_tell er7) (cwV 3 hts gX10_share_X9_tell rfl rfl rfl (by decide +kernel) ⟨Nat.le_of_ble_eq_true rfl, Nat.le_of_ble_eq_true rfl⟩) 6 gX_6 rfl rfl hl.1 rfl (Nat.le_of_ble_eq_true rfl) dX10_share_40 ⟨Nat.le_of_ble_eq_true rfl, Nat.le_of_ble_eq_true rfl⟩ (fun H locs w => ?_)
        cases hf
        exact hQ _ _ _ _ dX10_share_43 w
      · have hf := if_t hf c6
        refine lv_iconst (v := (-1)) hx hb dX10_share_31 (by decide) ?_
        cases hf
        exact hQ _ _ _ _ dX10_share_32 w

def fX10_given (n : Nat) (S : St) (x1 : Int32) (x2 : Int32) (x3 : Int32) (x4 : Int32) : Option (Int32 × St) := if x3 < 1 then (some ((-1), S)) else (if 5 < x3 then (some ((-1), S)) else (if x4 < (-1) then (some ((-1), S)) else (if x3 ≤ x4 then (some ((-1), S)) else (ob (fX2_hasRow S x1 x3) fun r9 => if r9 = 0 then (some ((-1), S)) else (ob (fX4_hasRow S x2 x3) fun r12 => if r12 = 0 then (some ((-1), S)) else (ob (fX0_weigh n S x1 x2 x3) fun S17 => if x4 = (-1) then (ob (fX0_leastSum S17) fun r20 => some (r20, S17)) else (ob (fX0_choice n S17 x4) fun r19 => some ((x2 + r19), S17))))))))
set_option maxRecDepth 20000 in
theorem inX10_given_10 : ∀ w ∈ u_ws RX10 TX10 12, w ∈ wsX10_given := by decide +kernel
set_option maxHeartbeats 4000000 in
set_option maxRecDepth 100000 in
theorem tX10_given {l : Launch} {D : va_G} {cc : Nat → ClassId} {ak av : Nat → Nat} {ad : Nat → Nat} {g : Nat → Option Nat} {E : va_W} {n : Nat} {S : St} {x1 : Int32} {x2 : Int32} {x3 : Int32} {x4 : Int32} {r : Int32} {S' : St} (hf : fX10_given n S x1 x2 x3 x4 = some (r, S')) : CI l yX10_given wsX10_given ({ frames := 5, cells := 0, slots := 0, locals := 112 } : Room) D cc ak av [.ref (ad 0), .int x1, .int x2, .int x3, .int x4] (WX cc ad g S ++ E) (WX cc ad g S' ++ E) r := by
  refine mkI (c0 := cX10_given) (nL := 6) (own := RX10) rfl rfl (by decide) rfl rfl (Nat.le_of_ble_eq_true rfl) ?_
  intro p e s m args below meth c A Q ls F B hQ hl w
  have hx := F.1
  have hb := F.2.1
  have hown := F.2.2.2.1
  have hts := F.2.2.2.2
  have hl : lv_has ls 6 [(0, .ref (ad 0)), (1, .int x1), (2, .int x2), (3, .int x3), (4, .int x4)] := hl
  unfold fX10_given at hf
  refine lv_iload_n hx hb dX10_given_0 rfl (lv_at hl 3 rfl) ?_
  refine lv_iconst (v := 1) hx hb dX10_given_1 (by decide) ?_
  refine lv_icmp_lt (tgt := 50) hx hb dX10_given_2 (by decide) (fun c1 => ?_) (fun c1 => ?_)
  · have hf := if_t hf c1
    refine lv_iconst (v := 0) hx hb dX10_given_50 (by decide) ?_
    refine lv_istore (lv' := [(5, .int 0), (0, .ref (ad 0)), (1, .int x1), (2, .int x2), (3, .int x3), (4, .int x4)]) hx hb dX10_given_51 hl (by decide) rfl (fun ls hl => ?_)
    refine lv_iload hx hb dX10_given_53 (lv_at hl 0 rfl) ?_
    refine lv_if_ne (tgt := 60) hx hb dX10_given_55 (by decide) (fun c => absurd (by decide) c) (fun _ => ?_)
    refine lv_iconst (v := (-1)) hx hb dX10_given_58 (by decide) ?_
    cases hf
    exact hQ _ _ _ _ dX10_given_59 w
  · have hf := if_f hf c1
    refine lv_iload_n hx hb dX10_given_5 rfl (lv_at hl 3 rfl) ?_
    refine lv_iconst (v := 5) hx hb dX10_given_6 (by decide) ?_
    refine lv_icmp_gt (tgt := 50) hx hb dX10_given_7 (by decide) (fun c3 => ?_) (fun c3 => ?_)
    · have hf := if_t hf c3
      refine lv_iconst (v := 0) hx hb dX10_given_50 (by decide) ?_
      refine lv_istore (lv' := [(5, .int 0), (0, .ref (ad 0)), (1, .int x1), (2, .int x2), (3, .int x3), (4, .int x4)]) hx hb dX10_given_51 hl (by decide) rfl (fun ls hl => ?_)
      refine lv_iload hx hb dX10_given_53 (lv_at hl 0 rfl) ?_
      refine lv_if_ne (tgt := 60) hx hb dX10_given_55 (by decide) (fun c => absurd (by decide) c) (fun _ => ?_)
      refine lv_iconst (v := (-1)) hx hb dX10_given_58 (by decide) ?_
      cases hf
      exact hQ _ _ _ _ dX10_given_59 w
    · have hf := if_f hf c3
      refine lv_iload hx hb dX10_given_10 (lv_at hl 4 rfl) ?_
      refine lv_iconst (v := (-1)) hx hb dX10_given_12 (by decide) ?_
      refine lv_icmp_lt (tgt := 50) hx hb dX10_given_13 (by decide) (fun c5 => ?_) (fun c5 => ?_)
      · have hf := if_t hf c5
        refine lv_iconst (v := 0) hx hb dX10_given_50 (by decide) ?_
        refine lv_istore (lv' := [(5, .int 0), (0, .ref (ad 0)), (1, .int x1), (2, .int x2), (3, .int x3), (4, .int x4)]) hx hb dX10_given_51 hl (by decide) rfl (fun ls hl => ?_)
        refine lv_iload hx hb dX10_given_53 (lv_at hl 0 rfl) ?_
        refine lv_if_ne (tgt := 60) hx hb dX10_given_55 (by decide) (fun c => absurd (by decide) c) (fun _ => ?_)
        refine lv_iconst (v := (-1)) hx hb dX10_given_58 (by decide) ?_
        cases hf
        exact hQ _ _ _ _ dX10_given_59 w
      · have hf := if_f hf c5
        refine lv_iload hx hb dX10_given_16 (lv_at hl 4 rfl) ?_
        refine lv_iload_n hx hb dX10_given_18 rfl (lv_at hl 3 rfl) ?_
        refine lv_icmp_ge (tgt := 50) hx hb dX10_given_19 (by decide) (fun c7 => ?_) (fun c7 => ?_)
        · have hf := if_t hf c7
          refine lv_iconst (v := 0) hx hb dX10_given_50 (by decide) ?_
          refine lv_istore (lv' := [(5, .int 0), (0, .ref (ad 0)), (1, .int x1), (2, .int x2), (3, .int x3), (4, .int x4)]) hx hb dX10_given_51 hl (by decide) rfl (fun ls hl => ?_)
          refine lv_iload hx hb dX10_given_53 (lv_at hl 0 rfl) ?_
          refine lv_if_ne (tgt := 60) hx hb dX10_given_55 (by decide) (fun c => absurd (by decide) c) (fun _ => ?_)
          refine lv_iconst (v := (-1)) hx hb dX10_given_58 (by decide) ?_
          cases hf
          exact hQ _ _ _ _ dX10_given_59 w
        · have hf := if_f hf c7
          refine lv_aload_n hx hb dX10_given_22 rfl (lv_at hl 0 rfl) ?_
          refine kget (v := .ref (ad 2)) F B w inX10_given_10 0 gX_0 rfl 1 (by decide) (hts (.fieldLink RX10 19 "LandReform" "land" "LLandReform$Land;") (by decide +kernel)) rfl rfl dX10_given_23 ?_
          refine lv_iload_n hx hb dX10_given_26 rfl (lv_at hl 1 rfl) ?_
          refine lv_iload_n hx hb dX10_given_27 rfl (lv_at hl 3 rfl) ?_
          obtain ⟨r9, er9, hf⟩ := ob_e hf
          refine kVi (As := [.int x1, .int x3]) (rest := []) F B w (tX2_hasRow er9) (cwV 2 hts gX10_given_X2_hasRow rfl rfl rfl (by decide +kernel) ⟨Nat.le_of_ble_eq_true rfl, Nat.le_of_ble_eq_true rfl⟩) 2 gX_2 rfl rfl hl.1 rfl (Nat.le_of_ble_eq_true rfl) dX10_given_28 ⟨Nat.le_of_ble_eq_true rfl, Nat.le_of_ble_eq_true rfl⟩ (fun H locs w => ?_)
          refine lv_if_eq (tgt := 50) hx hb dX10_given_31 (by decide) (fun c10 => ?_) (fun c10 => ?_)
          · have hf := if_t hf c10
            refine lv_iconst (v := 0) hx hb dX10_given_50 (by decide) ?_
            refine lv_istore (lv' := [(5, .int 0), (0, .ref (ad 0)), (1, .int x1), (2, .int x2), (3, .int x3), (4, .int x4)]) hx hb dX10_given_51 hl (by decide) rfl (fun ls hl => ?_)
            refine lv_iload hx hb dX10_given_53 (lv_at hl 0 rfl) ?_
            refine lv_if_ne (tgt := 60) hx hb dX10_given_55 (by decide) (fun c => absurd (by decide) c) (fun _ => ?_)
            refine lv_iconst (v := (-1)) hx hb dX10_given_58 (by decide) ?_
            cases hf
            exact hQ _ _ _ _ dX10_given_59 w
          · have hf := if_f hf c10
            refine lv_aload_n hx hb dX10_given_34 rfl (lv_at hl 0 rfl) ?_
            refine kget (v := .ref (ad 1)) F B w inX10_given_10 0 gX_0 rfl 0 (by decide) (hts (.fieldLink RX10 10 "LandReform" "people" "LLandReform$People;") (by decide +kernel)) rfl rfl dX10_given_35 ?_
            refine lv_iload_n hx hb dX10_given_38 rfl (lv_at hl 2 rfl) ?_
            refine lv_iload_n hx hb dX10_given_39 rfl (lv_at hl 3 rfl) ?_
            obtain ⟨r12, er12, hf⟩ := ob_e hf
            refine kVi (As := [.int x2, .int x3]) (rest := []) F B w (tX4_hasRow er12) (cwV 2 hts gX10_given_X4_hasRow rfl rfl rfl (by decide +kernel) ⟨Nat.le_of_ble_eq_true rfl, Nat.le_of_ble_eq_true rfl⟩) 1 gX_1 rfl rfl hl.1 rfl (Nat.le_of_ble_eq_true rfl) dX10_given_40 ⟨Nat.le_of_ble_eq_true rfl, Nat.le_of_ble_eq_true rfl⟩ (fun H locs w => ?_)
            refine lv_if_eq (tgt := 50) hx hb dX10_given_43 (by decide) (fun c13 => ?_) (fun c13 => ?_)
            · have hf := if_t hf c13
              refine lv_iconst (v := 0) hx hb dX10_given_50 (by decide) ?_
              refine lv_istore (lv' := [(5, .int 0), (0, .ref (ad 0)), (1, .int x1), (2, .int x2), (3, .int x3), (4, .int x4)]) hx hb dX10_given_51 hl (by decide) rfl (fun ls hl => ?_)
              refine lv_iload hx hb dX10_given_53 (lv_at hl 0 rfl) ?_
              refine lv_if_ne (tgt := 60) hx hb dX10_given_55 (by decide) (fun c => absurd (by decide) c) (fun _ => ?_)
              refine lv_iconst (v := (-1)) hx hb dX10_given_58 (by decide) ?_
              cases hf
              exact hQ _ _ _ _ dX10_given_59 w
            · have hf := if_f hf c13
              refine lv_iconst (v := 1) hx hb dX10_given_46 (by decide) ?_
              refine lv_goto (tgt := 51) hx hb dX10_given_47 (by decide) ?_
              refine lv_istore (lv' := [(5, .int 1), (0, .ref (ad 0)), (1, .int x1), (2, .int x2), (3, .int x3), (4, .int x4)]) hx hb dX10_given_51 hl (by decide) rfl (fun ls hl => ?_)
              refine lv_iload hx hb dX10_given_53 (lv_at hl 0 rfl) ?_
              refine lv_if_ne (tgt := 60) hx hb dX10_given_55 (by decide) (fun _ => ?_) (fun c => absurd c (by decide))
              refine lv_aload_n hx hb dX10_given_60 rfl (lv_at hl 1 rfl) ?_
              refine kget (v := .ref (ad 7)) F B w inX10_given_10 0 gX_0 rfl 6 (by decide) (hts (.fieldLink RX10 60 "LandReform" "giving" "LLandReform$Giving;") (by decide +kernel)) rfl rfl dX10_given_61 ?_
              refine lv_iload_n hx hb dX10_given_64 rfl (lv_at hl 2 rfl) ?_
              refine lv_iload_n hx hb dX10_given_65 rfl (lv_at hl 3 rfl) ?_
              refine lv_iload_n hx hb dX10_given_66 rfl (lv_at hl 4 rfl) ?_
              refine lv_aload_n hx hb dX10_given_67 rfl (lv_at hl 1 rfl) ?_
              refine kget (v := .ref (ad 2)) F B w inX10_given_10 0 gX_0 rfl 1 (by decide) (hts (.fieldLink RX10 19 "LandReform" "land" "LLandReform$Land;") (by decide +kernel)) rfl rfl dX10_given_68 ?_
              refine lv_aload_n hx hb dX10_given_71 rfl (lv_at hl 1 rfl) ?_
              refine kget (v := .ref (ad 1)) F B w inX10_given_10 0 gX_0 rfl 0 (by decide) (hts (.fieldLink RX10 10 "LandReform" "people" "LLandReform$People;") (by decide +kernel)) rfl rfl dX10_given_72 ?_
              obtain ⟨S17, er16, hf⟩ := ob_e hf
              refine kVv (As := [.int x1, .int x2, .int x3, .ref (ad 2), .ref (ad 1)]) (rest := []) F B w (tX0_weigh er16) (cwV 5 hts gX10_given_X0_weigh rfl rfl rfl (by decide +kernel) ⟨Nat.le_of_ble_eq_true rfl, Nat.le_of_ble_eq_true rfl⟩) 7 gX_7 rfl rfl hl.1 rfl (Nat.le_of_ble_eq_true rfl) dX10_given_75 ⟨Nat.le_of_ble_eq_true rfl, Nat.le_of_ble_eq_true rfl⟩ (fun H locs w => ?_)
              refine lv_iload hx hb dX10_given_78 (lv_at hl 5 rfl) ?_
              refine lv_iconst (v := (-1)) hx hb dX10_given_80 (by decide) ?_
              refine lv_icmp_ne (tgt := 94) hx hb dX10_given_81 (by decide) (fun c18 => ?_) (fun c18 => ?_)
              · have hf := if_f hf c18
                refine lv_iload_n hx hb dX10_given_94 rfl (lv_at hl 3 rfl) ?_
                refine lv_aload_n hx hb dX10_given_95 rfl (lv_at hl 1 rfl) ?_
                refine kget (v := .ref (ad 7)) F B w inX10_given_10 0 gX_0 rfl 6 (by decide) (hts (.fieldLink RX10 60 "LandReform" "giving" "LLandReform$Giving;") (by decide +kernel)) rfl rfl dX10_given_96 ?_
                refine lv_iload hx hb dX10_given_99 (lv_at hl 5 rfl) ?_
                obtain ⟨r19, er19, hf⟩ := ob_e hf
                refine kVi (As := [.int x4]) (rest := [.int x2]) F B w (tX0_choice er19) (cwV 1 hts gX10_given_X0_choice rfl rfl rfl (by decide +kernel) ⟨Nat.le_of_ble_eq_true rfl, Nat.le_of_ble_eq_true rfl⟩) 7 gX_7 rfl rfl hl.1 rfl (Nat.le_of_ble_eq_true rfl) dX10_given_101 ⟨Nat.le_of_ble_eq_true rfl, Nat.le_of_ble_eq_true rfl⟩ (fun H locs w => ?_)
                refine lv_iadd hx hb dX10_given_104 ?_
                cases hf
                exact hQ _ _ _ _ dX10_given_105 w
              · have hf := if_t hf c18
                refine lv_aload_n hx hb dX10_given_84 rfl (lv_at hl 1 rfl) ?_
                refine kget (v := .ref (ad 7)) F B w inX10_given_10 0 gX_0 rfl 6 (by decide) (hts (.fieldLink RX10 60 "LandReform" "giving" "LLandReform$Giving;") (by decide +kernel)) rfl rfl dX10_given_85 ?_
                obtain ⟨r20, er20, hf⟩ := ob_e hf
                refine kVi (As := []) (rest := []) F B w (tX0_leastSum er20) (cwV 0 hts gX10_given_X0_leastSum rfl rfl rfl (by decide +kernel) ⟨Nat.le_of_ble_eq_true rfl, Nat.le_of_ble_eq_true rfl⟩) 7 gX_7 rfl rfl hl.1 rfl (Nat.le_of_ble_eq_true rfl) dX10_given_88 ⟨Nat.le_of_ble_eq_true rfl, Nat.le_of_ble_eq_true rfl⟩ (fun H locs w => ?_)
                refine lv_goto (tgt := 105) hx hb dX10_given_91 (by decide) ?_
                cases hf
                exact hQ _ _ _ _ dX10_given_105 w

def fX10_ringsClose (n : Nat) (S : St) (x1 : Int32) (x2 : Int32) : Option (Int32 × St) := if x2 < 2 then (some (0, S)) else (if 8 < x2 then (some (0, S)) else (ob (fX4_hasRow S x1 x2) fun r3 => if r3 = 0 then (some (0, S)) else (ob (fX6_close n S x1 x2) fun q7 => lt_ q7.1 fun r5 => lt_ q7.2 fun S6 => if ¬ (r5 = 0 ∨ r5 = 1) then none else some (r5, S6))))
set_option maxRecDepth 20000 in
theorem inX10_ringsClose_10 : ∀ w ∈ u_ws RX10 TX10 12, w ∈ wsX10_ringsClose := by decide +kernel
set_option maxHeartbeats 4000000 in
set_option maxRecDepth 100000 in
theorem tX10_ringsClose {l : Launch} {D : va_G} {cc : Nat → ClassId} {ak av : Nat → Nat} {ad : Nat → Nat} {g : Nat → Option Nat} {E : va_W} {n : Nat} {S : St} {x1 : Int32} {x2 : Int32} {r : Int32} {S' : St} (hf : fX10_ringsClose n S x1 x2 = some (r, S')) : CI l yX10_ringsClose wsX10_ringsClose ({ frames := 4, cells := 0, slots := 0, locals := 92 } : Room) D cc ak av [.ref (ad 0), .int x1, .int x2] (WX cc ad g S ++ E) (WX cc ad g S' ++ E) r := by
  refine mkZ (c0 := cX10_ringsClose) (nL := 3) (own := RX10) rfl rfl (by decide) rfl rfl (Nat.le_of_ble_eq_true rfl) ?_
  intro p e s m args below meth c A Q ls F B hQ hl w
  have hx := F.1
  have hb := F.2.1
  have hown := F.2.2.2.1
  have hts := F.2.2.2.2
  have hl : lv_has ls 3 [(0, .ref (ad 0)), (1, .int x1), (2, .int x2)] := hl
  unfold fX10_ringsClose at hf
  refine lv_iload_n hx hb dX10_ringsClose_0 rfl (lv_at hl 2 rfl) ?_
  refine lv_iconst (v := 2) hx hb dX10_ringsClose_1 (by decide) ?_
  refine lv_icmp_lt (tgt := 23) hx hb dX10_ringsClose_2 (by decide) (fun c1 => ?_) (fun c1 => ?_)
  · have hf := if_t hf c1
    refine lv_iconst (v := 0) hx hb dX10_ringsClose_23 (by decide) ?_
    cases hf
    exact hQ _ _ _ _ dX10_ringsClose_24 (by decide) w
  · have hf := if_f hf c1
    refine lv_iload_n hx hb dX10_ringsClose_5 rfl (lv_at hl 2 rfl) ?_
    refine lv_bipush (v := 8) hx hb dX10_ringsClose_6 (by decide) ?_
    refine lv_icmp_gt (tgt := 23) hx hb dX10_ringsClose_8 (by decide) (fun c2 => ?_) (fun c2 => ?_)
    · have hf := if_t hf c2
      refine lv_iconst (v := 0) hx hb dX10_ringsClose_23 (by decide) ?_
      cases hf
      exact hQ _ _ _ _ dX10_ringsClose_24 (by decide) w
    · have hf := if_f hf c2
      refine lv_aload_n hx hb dX10_ringsClose_11 rfl (lv_at hl 0 rfl) ?_
      refine kget (v := .ref (ad 1)) F B w inX10_ringsClose_10 0 gX_0 rfl 0 (by decide) (hts (.fieldLink RX10 10 "LandReform" "people" "LLandReform$People;") (by decide +kernel)) rfl rfl dX10_ringsClose_12 ?_
      refine lv_iload_n hx hb dX10_ringsClose_15 rfl (lv_at hl 1 rfl) ?_
      refine lv_iload_n hx hb dX10_ringsClose_16 rfl (lv_at hl 2 rfl) ?_
      obtain ⟨r3, er3, hf⟩ := ob_e hf
      refine kVi (As := [.int x1, .int x2]) (rest := []) F B w (tX4_hasRow er3) (cwV 2 hts gX10_ringsClose_X4_hasRow rfl rfl rfl (by decide +kernel) ⟨Nat.le_of_ble_eq_true rfl, Nat.le_of_ble_eq_true rfl⟩) 1 gX_1 rfl rfl hl.1 rfl (Nat.le_of_ble_eq_true rfl) dX10_ringsClose_17 ⟨Nat.le_of_ble_eq_true rfl, Nat.le_of_ble_eq_true rfl⟩ (fun H locs w => ?_)
      refine lv_if_ne (tgt := 25) hx hb dX10_ringsClose_20 (by decide) (fun c4 => ?_) (fun c4 => ?_)
      · have hf := if_f hf c4
        refine lv_aload_n hx hb dX10_ringsClose_25 rfl (lv_at hl 0 rfl) ?_
        refine kget (v := .ref (ad 8)) F B w inX10_ringsClose_10 0 gX_0 rfl 7 (by decide) (hts (.fieldLink RX10 67 "LandReform" "rings" "LLandReform$Rings;") (by decide +kernel)) rfl rfl dX10_ringsClose_26 ?_
        refine lv_iload_n hx hb dX10_ringsClose_29 rfl (lv_at hl 1 rfl) ?_
        refine lv_iload_n hx hb dX10_ringsClose_30 rfl (lv_at hl 2 rfl) ?_
        refine lv_aload_n hx hb dX10_ringsClose_31 rfl (lv_at hl 0 rfl) ?_
        refine kget (v := .ref (ad 2)) F B w inX10_ringsClose_10 0 gX_0 rfl 1 (by decide) (hts (.fieldLink RX10 19 "LandReform" "land" "LLandReform$Land;") (by decide +kernel)) rfl rfl dX10_ringsClose_32 ?_
        refine lv_aload_n hx hb dX10_ringsClose_35 rfl (lv_at hl 0 rfl) ?_
        refine kget (v := .ref (ad 1)) F B w inX10_ringsClose_10 0 gX_0 rfl 0 (by decide) (hts (.fieldLink RX10 10 "LandReform" "people" "LLandReform$People;") (by decide +kernel)) rfl rfl dX10_ringsClose_36 ?_
        obtain ⟨⟨r5, S6⟩, er5, hf⟩ := ob_e hf
        have hf := lt_e hf (v := r5) rfl
        have hf := lt_e hf (v := S6) rfl
        refine kVi (As := [.int x1, .int x2, .ref (ad 2), .ref (ad 1)]) (rest := []) F B w (tX6_close er5) (cwV 4 hts gX10_ringsClose_X6_close rfl rfl rfl (by decide +kernel) ⟨Nat.le_of_ble_eq_true rfl, Nat.le_of_ble_eq_true rfl⟩) 8 gX_8 rfl rfl hl.1 rfl (Nat.le_of_ble_eq_true rfl) dX10_ringsClose_39 ⟨Nat.le_of_ble_eq_true rfl, Nat.le_of_ble_eq_true rfl⟩ (fun H locs w => ?_)
        obtain ⟨g8, hf⟩ := if_g hf
        cases hf
        exact hQ _ _ _ _ dX10_ringsClose_42 (nz g8) w
      · have hf := if_t hf c4
        refine lv_iconst (v := 0) hx hb dX10_ringsClose_23 (by decide) ?_
        cases hf
        exact hQ _ _ _ _ dX10_ringsClose_24 (by decide) w
