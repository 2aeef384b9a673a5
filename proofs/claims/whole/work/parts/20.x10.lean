def fX10_person (S : St) (x1 : Int32) (x2 : Int32) : Option (Int32 × St) := ob (fX10_isBelow x1 20) fun r1 => if r1 = 0 then (some ((-1), S)) else (ob (fX10_isBelow x2 100) fun r3 => if r3 = 0 then (some ((-1), S)) else (ob (fX4_add S x1 x2) fun q7 => lt_ q7.1 fun r5 => lt_ q7.2 fun S6 => some (r5, S6)))
set_option maxRecDepth 20000 in
theorem inX10_person_10 : ∀ w ∈ u_ws RX10 TX10 12, w ∈ wsX10_person := by decide +kernel
set_option maxHeartbeats 4000000 in
set_option maxRecDepth 100000 in
theorem tX10_person {l : Launch} {D : va_G} {cc : Nat → ClassId} {ak av : Nat → Nat} {ad : Nat → Nat} {g : Nat → Option Nat} {E : va_W} {S : St} {x1 : Int32} {x2 : Int32} {r : Int32} {S' : St} (hf : fX10_person S x1 x2 = some (r, S')) : CI l yX10_person wsX10_person ({ frames := 1, cells := 0, slots := 0, locals := 22 } : Room) D cc ak av [.ref (ad 0), .int x1, .int x2] (WX cc ad g S ++ E) (WX cc ad g S' ++ E) r := by
  refine mkI (c0 := cX10_person) (nL := 3) (own := RX10) rfl rfl (by decide) rfl rfl (Nat.le_of_ble_eq_true rfl) ?_
  intro p e s m args below meth c A Q ls F B hQ hl w
  have hx := F.1
  have hb := F.2.1
  have hown := F.2.2.2.1
  have hts := F.2.2.2.2
  have hl : lv_has ls 3 [(0, .ref (ad 0)), (1, .int x1), (2, .int x2)] := hl
  unfold fX10_person at hf
  refine lv_iload_n hx hb dX10_person_0 rfl (lv_at hl 1 rfl) ?_
  refine lv_bipush (v := 20) hx hb dX10_person_1 (by decide) ?_
  obtain ⟨r1, er1, hf⟩ := ob_e hf
  refine kSi (As := [.int x1, .int 20]) (rest := []) F B w (tX10_isBelow er1) (va_cwS 2 hts gX10_person_X10_isBelow rfl rfl rfl (by decide +kernel) ⟨Nat.le_of_ble_eq_true rfl, Nat.le_of_ble_eq_true rfl⟩) rfl hl.1 rfl (Nat.le_of_ble_eq_true rfl) dX10_person_3 ⟨Nat.le_of_ble_eq_true rfl, Nat.le_of_ble_eq_true rfl⟩ (fun H locs w => ?_)
  refine lv_if_eq (tgt := 18) hx hb dX10_person_6 (by decide) (fun c2 => ?_) (fun c2 => ?_)
  · have hf := if_t hf c2
    refine lv_iconst (v := (-1)) hx hb dX10_person_18 (by decide) ?_
    cases hf
    exact hQ _ _ _ _ dX10_person_19 w
  · have hf := if_f hf c2
    refine lv_iload_n hx hb dX10_person_9 rfl (lv_at hl 2 rfl) ?_
    refine lv_bipush (v := 100) hx hb dX10_person_10 (by decide) ?_
    obtain ⟨r3, er3, hf⟩ := ob_e hf
    refine kSi (As := [.int x2, .int 100]) (rest := []) F B w (tX10_isBelow er3) (va_cwS 2 hts gX10_person_X10_isBelow rfl rfl rfl (by decide +kernel) ⟨Nat.le_of_ble_eq_true rfl, Nat.le_of_ble_eq_true rfl⟩) rfl hl.1 rfl (Nat.le_of_ble_eq_true rfl) dX10_person_12 ⟨Nat.le_of_ble_eq_true rfl, Nat.le_of_ble_eq_true rfl⟩ (fun H locs w => ?_)
    refine lv_if_ne (tgt := 20) hx hb dX10_person_15 (by decide) (fun c4 => ?_) (fun c4 => ?_)
    · have hf := if_f hf c4
      refine lv_aload_n hx hb dX10_person_20 rfl (lv_at hl 0 rfl) ?_
      refine kget (v := .ref (ad 1)) F B w inX10_person_10 0 gX_0 rfl 0 (by decide) (hts (.fieldLink RX10 10 "LandReform" "people" "LLandReform$People;") (by decide +kernel)) rfl rfl dX10_person_21 ?_
      refine lv_iload_n hx hb dX10_person_24 rfl (lv_at hl 1 rfl) ?_
      refine lv_iload_n hx hb dX10_person_25 rfl (lv_at hl 2 rfl) ?_
      obtain ⟨⟨r5, S6⟩, er5, hf⟩ := ob_e hf
      have hf := lt_e hf (v := r5) rfl
      have hf := lt_e hf (v := S6) rfl
      refine kVi (As := [.int x1, .int x2]) (rest := []) F B w (tX4_add er5) (cwV 2 hts gX10_person_X4_add rfl rfl rfl (by decide +kernel) ⟨Nat.le_of_ble_eq_true rfl, Nat.le_of_ble_eq_true rfl⟩) 1 gX_1 rfl rfl hl.1 rfl (Nat.le_of_ble_eq_true rfl) dX10_person_26 ⟨Nat.le_of_ble_eq_true rfl, Nat.le_of_ble_eq_true rfl⟩ (fun H locs w => ?_)
      cases hf
      exact hQ _ _ _ _ dX10_person_29 w
    · have hf := if_t hf c4
      refine lv_iconst (v := (-1)) hx hb dX10_person_18 (by decide) ?_
      cases hf
      exact hQ _ _ _ _ dX10_person_19 w

def fX10_akin (S : St) (x1 : Int32) (x2 : Int32) : Option (Int32 × St) := ob (fX4_bind S x1 x2) fun q3 => lt_ q3.1 fun r1 => lt_ q3.2 fun S2 => if ¬ (r1 = 0 ∨ r1 = 1) then none else some (r1, S2)
set_option maxRecDepth 20000 in
theorem inX10_akin_10 : ∀ w ∈ u_ws RX10 TX10 12, w ∈ wsX10_akin := by decide +kernel
set_option maxHeartbeats 4000000 in
set_option maxRecDepth 100000 in
theorem tX10_akin {l : Launch} {D : va_G} {cc : Nat → ClassId} {ak av : Nat → Nat} {ad : Nat → Nat} {g : Nat → Option Nat} {E : va_W} {S : St} {x1 : Int32} {x2 : Int32} {r : Int32} {S' : St} (hf : fX10_akin S x1 x2 = some (r, S')) : CI l yX10_akin wsX10_akin ({ frames := 4, cells := 0, slots := 0, locals := 86 } : Room) D cc ak av [.ref (ad 0), .int x1, .int x2] (WX cc ad g S ++ E) (WX cc ad g S' ++ E) r := by
  refine mkZ (c0 := cX10_akin) (nL := 3) (own := RX10) rfl rfl (by decide) rfl rfl (Nat.le_of_ble_eq_true rfl) ?_
  intro p e s m args below meth c A Q ls F B hQ hl w
  have hx := F.1
  have hb := F.2.1
  have hown := F.2.2.2.1
  have hts := F.2.2.2.2
  have hl : lv_has ls 3 [(0, .ref (ad 0)), (1, .int x1), (2, .int x2)] := hl
  unfold fX10_akin at hf
  refine lv_aload_n hx hb dX10_akin_0 rfl (lv_at hl 0 rfl) ?_
  refine kget (v := .ref (ad 1)) F B w inX10_akin_10 0 gX_0 rfl 0 (by decide) (hts (.fieldLink RX10 10 "LandReform" "people" "LLandReform$People;") (by decide +kernel)) rfl rfl dX10_akin_1 ?_
  refine lv_iload_n hx hb dX10_akin_4 rfl (lv_at hl 1 rfl) ?_
  refine lv_iload_n hx hb dX10_akin_5 rfl (lv_at hl 2 rfl) ?_
  obtain ⟨⟨r1, S2⟩, er1, hf⟩ := ob_e hf
  have hf := lt_e hf (v := r1) rfl
  have hf := lt_e hf (v := S2) rfl
  refine kVi (As := [.int x1, .int x2]) (rest := []) F B w (tX4_bind er1) (cwV 2 hts gX10_akin_X4_bind rfl rfl rfl (by decide +kernel) ⟨Nat.le_of_ble_eq_true rfl, Nat.le_of_ble_eq_true rfl⟩) 1 gX_1 rfl rfl hl.1 rfl (Nat.le_of_ble_eq_true rfl) dX10_akin_6 ⟨Nat.le_of_ble_eq_true rfl, Nat.le_of_ble_eq_true rfl⟩ (fun H locs w => ?_)
  obtain ⟨g4, hf⟩ := if_g hf
  cases hf
  exact hQ _ _ _ _ dX10_akin_9 (nz g4) w

def fX10_field (S : St) (x1 : Int32) (x2 : Int32) (x3 : Int32) (x4 : Int32) (x5 : Int32) : Option (Int32 × St) := ob (fX10_isBelow x1 100) fun r1 => if r1 = 0 then (some ((-1), S)) else (if x2 < 1 then (some ((-1), S)) else (if 100 < x2 then (some ((-1), S)) else (ob (fX10_isBelow x3 4) fun r8 => if r8 = 0 then (some ((-1), S)) else (ob (fX10_isBelow x4 10) fun r11 => if r11 = 0 then (some ((-1), S)) else (ob (fX4_has S x5) fun r14 => if r14 = 0 then (some ((-1), S)) else (ob (fX2_add S x1 x2 x3 x4 x5) fun q20 => lt_ q20.1 fun r18 => lt_ q20.2 fun S19 => some (r18, S19)))))))
set_option maxRecDepth 20000 in
theorem inX10_field_10 : ∀ w ∈ u_ws RX10 TX10 12, w ∈ wsX10_field := by decide +kernel
set_option maxHeartbeats 4000000 in
set_option maxRecDepth 100000 in
theorem tX10_field {l : Launch} {D : va_G} {cc : Nat → ClassId} {ak av : Nat → Nat} {ad : Nat → Nat} {g : Nat → Option Nat} {E : va_W} {S : St} {x1 : Int32} {x2 : Int32} {x3 : Int32} {x4 : Int32} {x5 : Int32} {r : Int32} {S' : St} (hf : fX10_field S x1 x2 x3 x4 x5 = some (r, S')) : CI l yX10_field wsX10_field ({ frames := 2, cells := 0, slots := 0, locals := 42 } : Room) D cc ak av [.ref (ad 0), .int x1, .int x2, .int x3, .int x4, .int x5] (WX cc ad g S ++ E) (WX cc ad g S' ++ E) r := by
  refine mkI (c0 := cX10_field) (nL := 7) (own := RX10) rfl rfl (by decide) rfl rfl (Nat.le_of_ble_eq_true rfl) ?_
  intro p e s m args below meth c A Q ls F B hQ hl w
  have hx := F.1
  have hb := F.2.1
  have hown := F.2.2.2.1
  have hts := F.2.2.2.2
  have hl : lv_has ls 7 [(0, .ref (ad 0)), (1, .int x1), (2, .int x2), (3, .int x3), (4, .int x4), (5, .int x5)] := hl
  unfold fX10_field at hf
  refine lv_iload_n hx hb dX10_field_0 rfl (lv_at hl 1 rfl) ?_
  refine lv_bipush (v := 100) hx hb dX10_field_1 (by decide) ?_
  obtain ⟨r1, er1, hf⟩ := ob_e hf
  refine kSi (As := [.int x1, .int 100]) (rest := []) F B w (tX10_isBelow er1) (va_cwS 2 hts gX10_field_X10_isBelow rfl rfl rfl (by decide +kernel) ⟨Nat.le_of_ble_eq_true rfl, Nat.le_of_ble_eq_true rfl⟩) rfl hl.1 rfl (Nat.le_of_ble_eq_true rfl) dX10_field_3 ⟨Nat.le_of_ble_eq_true rfl, Nat.le_of_ble_eq_true rfl⟩ (fun H locs w => ?_)
  refine lv_if_eq (tgt := 54) hx hb dX10_field_6 (by decide) (fun c2 => ?_) (fun c2 => ?_)
  · have hf := if_t hf c2
    refine lv_iconst (v := 0) hx hb dX10_field_54 (by decide) ?_
    refine lv_istore (lv' := [(6, .int 0), (0, .ref (ad 0)), (1, .int x1), (2, .int x2), (3, .int x3), (4, .int x4), (5, .int x5)]) hx hb dX10_field_55 hl (by decide) rfl (fun ls hl => ?_)
    refine lv_iload hx hb dX10_field_57 (lv_at hl 0 rfl) ?_
    refine lv_if_eq (tgt := 79) hx hb dX10_field_59 (by decide) (fun _ => ?_) (fun c => absurd (by decide) c)
    refine lv_iconst (v := (-1)) hx hb dX10_field_79 (by decide) ?_
    cases hf
    exact hQ _ _ _ _ dX10_field_80 w
  · have hf := if_f hf c2
    refine lv_iload_n hx hb dX10_field_9 rfl (lv_at hl 2 rfl) ?_
    refine lv_iconst (v := 1) hx hb dX10_field_10 (by decide) ?_
    refine lv_icmp_lt (tgt := 54) hx hb dX10_field_11 (by decide) (fun c4 => ?_) (fun c4 => ?_)
    · have hf := if_t hf c4
      refine lv_iconst (v := 0) hx hb dX10_field_54 (by decide) ?_
      refine lv_istore (lv' := [(6, .int 0), (0, .ref (ad 0)), (1, .int x1), (2, .int x2), (3, .int x3), (4, .int x4), (5, .int x5)]) hx hb dX10_field_55 hl (by decide) rfl (fun ls hl => ?_)
      refine lv_iload hx hb dX10_field_57 (lv_at hl 0 rfl) ?_
      refine lv_if_eq (tgt := 79) hx hb dX10_field_59 (by decide) (fun _ => ?_) (fun c => absurd (by decide) c)
      refine lv_iconst (v := (-1)) hx hb dX10_field_79 (by decide) ?_
      cases hf
      exact hQ _ _ _ _ dX10_field_80 w
    · have hf := if_f hf c4
      refine lv_iload_n hx hb dX10_field_14 rfl (lv_at hl 2 rfl) ?_
      refine lv_bipush (v := 100) hx hb dX10_field_15 (by decide) ?_
      refine lv_icmp_gt (tgt := 54) hx hb dX10_field_17 (by decide) (fun c6 => ?_) (fun c6 => ?_)
      · have hf := if_t hf c6
        refine lv_iconst (v := 0) hx hb dX10_field_54 (by decide) ?_
        refine lv_istore (lv' := [(6, .int 0), (0, .ref (ad 0)), (1, .int x1), (2, .int x2), (3, .int x3), (4, .int x4), (5, .int x5)]) hx hb dX10_field_55 hl (by decide) rfl (fun ls hl => ?_)
        refine lv_iload hx hb dX10_field_57 (lv_at hl 0 rfl) ?_
        refine lv_if_eq (tgt := 79) hx hb dX10_field_59 (by decide) (fun _ => ?_) (fun c => absurd (by decide) c)
        refine lv_iconst (v := (-1)) hx hb dX10_field_79 (by decide) ?_
        cases hf
        exact hQ _ _ _ _ dX10_field_80 w
      · have hf := if_f hf c6
        refine lv_iload_n hx hb dX10_field_20 rfl (lv_at hl 3 rfl) ?_
        refine lv_iconst (v := 4) hx hb dX10_field_21 (by decide) ?_
        obtain ⟨r8, er8, hf⟩ := ob_e hf
        refine kSi (As := [.int x3, .int 4]) (rest := []) F B w (tX10_isBelow er8) (va_cwS 2 hts gX10_field_X10_isBelow rfl rfl rfl (by decide +kernel) ⟨Nat.le_of_ble_eq_true rfl, Nat.le_of_ble_eq_true rfl⟩) rfl hl.1 rfl (Nat.le_of_ble_eq_true rfl) dX10_field_22 ⟨Nat.le_of_ble_eq_true rfl, Nat.le_of_ble_eq_true rfl⟩ (fun H locs w => ?_)
        refine lv_if_eq (tgt := 54) hx hb dX10_field_25 (by decide) (fun c9 => ?_) (fun c9 => ?_)
        · have hf := if_t hf c9
          refine lv_iconst (v := 0) hx hb dX10_field_54 (by decide) ?_
          refine lv_istore (lv' := [(6, .int 0), (0, .ref (ad 0)), (1, .int x1), (2, .int x2), (3, .int x3), (4, .int x4), (5, .int x5)]) hx hb dX10_field_55 hl (by decide) rfl (fun ls hl => ?_)
          refine lv_iload hx hb dX10_field_57 (lv_at hl 0 rfl) ?_
          refine lv_if_eq (tgt := 79) hx hb dX10_field_59 (by decide) (fun _ => ?_) (fun c => absurd (by decide) c)
          refine lv_iconst (v := (-1)) hx hb dX10_field_79 (by decide) ?_
          cases hf
          exact hQ _ _ _ _ dX10_field_80 w
        · have hf := if_f hf c9
          refine lv_iload hx hb dX10_field_28 (lv_at hl 4 rfl) ?_
          refine lv_bipush (v := 10) hx hb dX10_field_30 (by decide) ?_
          obtain ⟨r11, er11, hf⟩ := ob_e hf
          refine kSi (As := [.int x4, .int 10]) (rest := []) F B w (tX10_isBelow er11) (va_cwS 2 hts gX10_field_X10_isBelow rfl rfl rfl (by decide +kernel) ⟨Nat.le_of_ble_eq_true rfl, Nat.le_of_ble_eq_true rfl⟩) rfl hl.1 rfl (Nat.le_of_ble_eq_true rfl) dX10_field_32 ⟨Nat.le_of_ble_eq_true rfl, Nat.le_of_ble_eq_true rfl⟩ (fun H locs w => ?_)
          refine lv_if_eq (tgt := 54) hx hb dX10_field_35 (by decide) (fun c12 => ?_) (fun c12 => ?_)
          · have hf := if_t hf c12
            refine lv_iconst (v := 0) hx hb dX10_field_54 (by decide) ?_
            refine lv_istore (lv' := [(6, .int 0), (0, .ref (ad 0)), (1, .int x1), (2, .int x2), (3, .int x3), (4, .int x4), (5, .int x5)]) hx hb dX10_field_55 hl (by decide) rfl (fun ls hl => ?_)
            refine lv_iload hx hb dX10_field_57 (lv_at hl 0 rfl) ?_
            refine lv_if_eq (tgt := 79) hx hb dX10_field_59 (by decide) (fun _ => ?_) (fun c => absurd (by decide) c)
            refine lv_iconst (v := (-1)) hx hb dX10_field_79 (by decide) ?_
            cases hf
            exact hQ _ _ _ _ dX10_field_80 w
          · have hf := if_f hf c12
            refine lv_aload_n hx hb dX10_field_38 rfl (lv_at hl 0 rfl) ?_
            refine kget (v := .ref (ad 1)) F B w inX10_field_10 0 gX_0 rfl 0 (by decide) (hts (.fieldLink RX10 10 "LandReform" "people" "LLandReform$People;") (by decide +kernel)) rfl rfl dX10_field_39 ?_
            refine lv_iload hx hb dX10_field_42 (lv_at hl 5 rfl) ?_
            obtain ⟨r14, er14, hf⟩ := ob_e hf
            refine kVi (As := [.int x5]) (rest := []) F B w (tX4_has er14) (cwV 1 hts gX10_field_X4_has rfl rfl rfl (by decide +kernel) ⟨Nat.le_of_ble_eq_true rfl, Nat.le_of_ble_eq_true rfl⟩) 1 gX_1 rfl rfl hl.1 rfl (Nat.le_of_ble_eq_true rfl) dX10_field_44 ⟨Nat.le_of_ble_eq_true rfl, Nat.le_of_ble_eq_true rfl⟩ (fun H locs w => ?_)
            refine lv_if_eq (tgt := 54) hx hb dX10_field_47 (by decide) (fun c15 => ?_) (fun c15 => ?_)
            · have hf := if_t hf c15
              refine lv_iconst (v := 0) hx hb dX10_field_54 (by decide) ?_
              refine lv_istore (lv' := [(6, .int 0), (0, .ref (ad 0)), (1, .int x1), (2, .int x2), (3, .int x3), (4, .int x4), (5, .int x5)]) hx hb dX10_field_55 hl (by decide) rfl (fun ls hl => ?_)
              refine lv_iload hx hb dX10_field_57 (lv_at hl 0 rfl) ?_
              refine lv_if_eq (tgt := 79) hx hb dX10_field_59 (by decide) (fun _ => ?_) (fun c => absurd (by decide) c)
              refine lv_iconst (v := (-1)) hx hb dX10_field_79 (by decide) ?_
              cases hf
              exact hQ _ _ _ _ dX10_field_80 w
            · have hf := if_f hf c15
              refine lv_iconst (v := 1) hx hb dX10_field_50 (by decide) ?_
              refine lv_goto (tgt := 55) hx hb dX10_field_51 (by decide) ?_
              refine lv_istore (lv' := [(6, .int 1), (0, .ref (ad 0)), (1, .int x1), (2, .int x2), (3, .int x3), (4, .int x4), (5, .int x5)]) hx hb dX10_field_55 hl (by decide) rfl (fun ls hl => ?_)
              refine lv_iload hx hb dX10_field_57 (lv_at hl 0 rfl) ?_
              refine lv_if_eq (tgt := 79) hx hb dX10_field_59 (by decide) (fun c => absurd c (by decide)) (fun _ => ?_)
              refine lv_aload_n hx hb dX10_field_62 rfl (lv_at hl 1 rfl) ?_
              refine kget (v := .ref (ad 2)) F B w inX10_field_10 0 gX_0 rfl 1 (by decide) (hts (.fieldLink RX10 19 "LandReform" "land" "LLandReform$Land;") (by decide +kernel)) rfl rfl dX10_field_63 ?_
              refine lv_iload_n hx hb dX10_field_66 rfl (lv_at hl 2 rfl) ?_
              refine lv_iload_n hx hb dX10_field_67 rfl (lv_at hl 3 rfl) ?_
              refine lv_iload_n hx hb dX10_field_68 rfl (lv_at hl 4 rfl) ?_
              refine lv_iload hx hb dX10_field_69 (lv_at hl 5 rfl) ?_
              refine lv_iload hx hb dX10_field_71 (lv_at hl 6 rfl) ?_
              obtain ⟨⟨r18, S19⟩, er18, hf⟩ := ob_e hf
              have hf := lt_e hf (v := r18) rfl
              have hf := lt_e hf (v := S19) rfl
              refine kVi (As := [.int x1, .int x2, .int x3, .int x4, .int x5]) (rest := []) F B w (tX2_add er18) (cwV 5 hts gX10_field_X2_add rfl rfl rfl (by decide +kernel) ⟨Nat.le_of_ble_eq_true rfl, Nat.le_of_ble_eq_true rfl⟩) 2 gX_2 rfl rfl hl.1 rfl (Nat.le_of_ble_eq_true rfl) dX10_field_73 ⟨Nat.le_of_ble_eq_true rfl, Nat.le_of_ble_eq_true rfl⟩ (fun H locs w => ?_)
              refine lv_goto (tgt := 80) hx hb dX10_field_76 (by decide) ?_
              cases hf
              exact hQ _ _ _ _ dX10_field_80 w

def fX10_day (S : St) (x1 : Int32) : Option (Int32 × St) := if x1 ≤ (S.1 5) then (some (0, S)) else (if x1 ≤ 1000 then (lt_ (sS S 5 x1) fun S3 => some (1, S3)) else (some (0, S)))
set_option maxRecDepth 20000 in
theorem inX10_day_2 : ∀ w ∈ u_ws RX2 TX2 12, w ∈ wsX10_day := by decide +kernel
set_option maxRecDepth 20000 in
theorem inX10_day_10 : ∀ w ∈ u_ws RX10 TX10 12, w ∈ wsX10_day := by decide +kernel
set_option maxHeartbeats 4000000 in
set_option maxRecDepth 100000 in
theorem tX10_day {l : Launch} {D : va_G} {cc : Nat → ClassId} {ak av : Nat → Nat} {ad : Nat → Nat} {g : Nat → Option Nat} {E : va_W} {S : St} {x1 : Int32} {r : Int32} {S' : St} (hf : fX10_day S x1 = some (r, S')) : CI l yX10_day wsX10_day ({ frames := 0, cells := 0, slots := 0, locals := 0 } : Room) D cc ak av [.ref (ad 0), .int x1] (WX cc ad g S ++ E) (WX cc ad g S' ++ E) r := by
  refine mkZ (c0 := cX10_day) (nL := 2) (own := RX10) rfl rfl (by decide) rfl rfl (Nat.le_of_ble_eq_true rfl) ?_
  intro p e s m args below meth c A Q ls F B hQ hl w
  have hx := F.1
  have hb := F.2.1
  have hown := F.2.2.2.1
  have hts := F.2.2.2.2
  have hl : lv_has ls 2 [(0, .ref (ad 0)), (1, .int x1)] := hl
  unfold fX10_day at hf
  refine lv_iload_n hx hb dX10_day_0 rfl (lv_at hl 1 rfl) ?_
  refine lv_aload_n hx hb dX10_day_1 rfl (lv_at hl 0 rfl) ?_
  refine kget (v := .ref (ad 2)) F B w inX10_day_10 0 gX_0 rfl 1 (by decide) (hts (.fieldLink RX10 19 "LandReform" "land" "LLandReform$Land;") (by decide +kernel)) rfl rfl dX10_day_2 ?_
  refine kgetN (v := .int (S.1 5)) F B w inX10_day_2 2 gX_2 rfl 11 (by decide) (B.2.1.f 0 rfl) rfl rfl dX10_day_5 ?_
  refine lv_icmp_le (tgt := 18) hx hb dX10_day_8 (by decide) (fun c1 => ?_) (fun c1 => ?_)
  · have hf := if_t hf c1
    refine lv_iconst (v := 0) hx hb dX10_day_18 (by decide) ?_
    cases hf
    exact hQ _ _ _ _ dX10_day_19 (by decide) w
  · have hf := if_f hf c1
    refine lv_iload_n hx hb dX10_day_11 rfl (lv_at hl 1 rfl) ?_
    refine lv_sipush (v := 1000) hx hb dX10_day_12 (by decide) ?_
    refine lv_icmp_le (tgt := 20) hx hb dX10_day_15 (by decide) (fun c2 => ?_) (fun c2 => ?_)
    · have hf := if_t hf c2
      refine lv_aload_n hx hb dX10_day_20 rfl (lv_at hl 0 rfl) ?_
      refine kget (v := .ref (ad 2)) F B w inX10_day_10 0 gX_0 rfl 1 (by decide) (hts (.fieldLink RX10 19 "LandReform" "land" "LLandReform$Land;") (by decide +kernel)) rfl rfl dX10_day_21 ?_
      refine lv_iload_n hx hb dX10_day_24 rfl (lv_at hl 1 rfl) ?_
      refine kputN (ty := .int) F B w inX10_day_2 tyX2 tyX2_ok nmX2 2 gX_2 rfl 11 (by decide) (B.2.1.f 0 rfl) rfl rfl (by decide +kernel) rfl rfl (Nat.le_of_ble_eq_true rfl) pX_5 dX10_day_25 (fun H locs w => ?_)
      obtain ⟨S3, eS3⟩ : ∃ z, z = sS S 5 x1 := ⟨_, rfl⟩
      rw [← eS3] at w
      have hf := lt_e hf eS3
      refine lv_iconst (v := 1) hx hb dX10_day_28 (by decide) ?_
      cases hf
      exact hQ _ _ _ _ dX10_day_29 (by decide) w
    · have hf := if_f hf c2
      refine lv_iconst (v := 0) hx hb dX10_day_18 (by decide) ?_
      cases hf
      exact hQ _ _ _ _ dX10_day_19 (by decide) w

def fX10_transfer (S : St) (x1 : Int32) (x2 : Int32) : Option (Int32 × St) := ob (fX2_has S x1) fun r1 => if r1 = 0 then (some (0, S)) else (ob (fX4_has S x2) fun r3 => if r3 = 0 then (some (0, S)) else (ob (fX2_ownerOf S x1) fun r5 => if r5 = x2 then (some (0, S)) else (ob (fX2_transfersLeft S) fun r7 => if 1 ≤ r7 then (ob (fX2_move S x1 x2) fun S10 => some (1, S10)) else (some (0, S)))))
set_option maxRecDepth 20000 in
theorem inX10_transfer_10 : ∀ w ∈ u_ws RX10 TX10 12, w ∈ wsX10_transfer := by decide +kernel
set_option maxHeartbeats 4000000 in
set_option maxRecDepth 100000 in
theorem tX10_transfer {l : Launch} {D : va_G} {cc : Nat → ClassId} {ak av : Nat → Nat} {ad : Nat → Nat} {g : Nat → Option Nat} {E : va_W} {S : St} {x1 : Int32} {x2 : Int32} {r : Int32} {S' : St} (hf : fX10_transfer S x1 x2 = some (r, S')) : CI l yX10_transfer wsX10_transfer ({ frames := 3, cells := 0, slots := 0, locals := 64 } : Room) D cc ak av [.ref (ad 0), .int x1, .int x2] (WX cc ad g S ++ E) (WX cc ad g S' ++ E) r := by
  refine mkZ (c0 := cX10_transfer) (nL := 3) (own := RX10) rfl rfl (by decide) rfl rfl (Nat.le_of_ble_eq_true rfl) ?_
  intro p e s m args below meth c A Q ls F B hQ hl w
  have hx := F.1
  have hb := F.2.1
  have hown := F.2.2.2.1
  have hts := F.2.2.2.2
  have hl : lv_has ls 3 [(0, .ref (ad 0)), (1, .int x1), (2, .int x2)] := hl
  unfold fX10_transfer at hf
  refine lv_aload_n hx hb dX10_transfer_0 rfl (lv_at hl 0 rfl) ?_
  refine kget (v := .ref (ad 2)) F B w inX10_transfer_10 0 gX_0 rfl 1 (by decide) (hts (.fieldLink RX10 19 "LandReform" "land" "LLandReform$Land;") (by decide +kernel)) rfl rfl dX10_transfer_1 ?_
  refine lv_iload_n hx hb dX10_transfer_4 rfl (lv_at hl 1 rfl) ?_
  obtain ⟨r1, er1, hf⟩ := ob_e hf
  refine kVi (As := [.int x1]) (rest := []) F B w (tX2_has er1) (cwV 1 hts gX10_transfer_X2_has rfl rfl rfl (by decide +kernel) ⟨Nat.le_of_ble_eq_true rfl, Nat.le_of_ble_eq_true rfl⟩) 2 gX_2 rfl rfl hl.1 rfl (Nat.le_of_ble_eq_true rfl) dX10_transfer_5 ⟨Nat.le_of_ble_eq_true rfl, Nat.le_of_ble_eq_true rfl⟩ (fun H locs w => ?_)
  refine lv_if_eq (tgt := 45) hx hb dX10_transfer_8 (by decide) (fun c2 => ?_) (fun c2 => ?_)
  · have hf := if_t hf c2
    refine lv_iconst (v := 0) hx hb dX10_transfer_45 (by decide) ?_
    cases hf
    exact hQ _ _ _ _ dX10_transfer_46 (by decide) w
  · have hf := if_f hf c2
    refine lv_aload_n hx hb dX10_transfer_11 rfl (lv_at hl 0 rfl) ?_
    refine kget (v := .ref (ad 1)) F B w inX10_transfer_10 0 gX_0 rfl 0 (by decide) (hts (.fieldLink RX10 10 "LandReform" "people" "LLandReform$People;") (by decide +kernel)) rfl rfl dX10_transfer_12 ?_
    refine lv_iload_n hx hb dX10_transfer_15 rfl (lv_at hl 2 rfl) ?_
    obtain ⟨r3, er3, hf⟩ := ob_e hf
    refine kVi (As := [.int x2]) (rest := []) F B w (tX4_has er3) (cwV 1 hts gX10_transfer_X4_has rfl rfl rfl (by decide +kernel) ⟨Nat.le_of_ble_eq_true rfl, Nat.le_of_ble_eq_true rfl⟩) 1 gX_1 rfl rfl hl.1 rfl (Nat.le_of_ble_eq_true rfl) dX10_transfer_16 ⟨Nat.le_of_ble_eq_true rfl, Nat.le_of_ble_eq_true rfl⟩ (fun H locs w => ?_)
    refine lv_if_eq (tgt := 45) hx hb dX10_transfer_19 (by decide) (fun c4 => ?_) (fun c4 => ?_)
    · have hf := if_t hf c4
      refine lv_iconst (v := 0) hx hb dX10_transfer_45 (by decide) ?_
      cases hf
      exact hQ _ _ _ _ dX10_transfer_46 (by decide) w
    · have hf := if_f hf c4
      refine lv_aload_n hx hb dX10_transfer_22 rfl (lv_at hl 0 rfl) ?_
      refine kget (v := .ref (ad 2)) F B w inX10_transfer_10 0 gX_0 rfl 1 (by decide) (hts (.fieldLink RX10 19 "LandReform" "land" "LLandReform$Land;") (by decide +kernel)) rfl rfl dX10_transfer_23 ?_
      refine lv_iload_n hx hb dX10_transfer_26 rfl (lv_at hl 1 rfl) ?_
      obtain ⟨r5, er5, hf⟩ := ob_e hf
      refine kVi (As := [.int x1]) (rest := []) F B w (tX2_ownerOf er5) (cwV 1 hts gX10_transfer_X2_ownerOf rfl rfl rfl (by decide +kernel) ⟨Nat.le_of_ble_eq_true rfl, Nat.le_of_ble_eq_true rfl⟩) 2 gX_2 rfl rfl hl.1 rfl (Nat.le_of_ble_eq_true rfl) dX10_transfer_27 ⟨Nat.le_of_ble_eq_true rfl, Nat.le_of_ble_eq_true rfl⟩ (fun H locs w => ?_)
      refine lv_iload_n hx hb dX10_transfer_30 rfl (lv_at hl 2 rfl) ?_
      refine lv_icmp_eq (tgt := 45) hx hb dX10_transfer_31 (by decide) (fun c6 => ?_) (fun c6 => ?_)
      · have hf := if_t hf c6
        refine lv_iconst (v := 0) hx hb dX10_transfer_45 (by decide) ?_
        cases hf
        exact hQ _ _ _ _ dX10_transfer_46 (by decide) w
      · have hf := if_f hf c6
        refine lv_aload_n hx hb dX10_transfer_34 rfl (lv_at hl 0 rfl) ?_
        refine kget (v := .ref (ad 2)) F B w inX10_transfer_10 0 gX_0 rfl 1 (by decide) (hts (.fieldLink RX10 19 "LandReform" "land" "LLandReform$Land;") (by decide +kernel)) rfl rfl dX10_transfer_35 ?_
        obtain ⟨r7, er7, hf⟩ := ob_e hf
        refine kVi (As := []) (rest := []) F B w (tX2_transfersLeft er7) (cwV 0 hts gX10_transfer_X2_transfersLeft rfl rfl rfl (by decide +kernel) ⟨Nat.le_of_ble_eq_true rfl, Nat.le_of_ble_eq_true rfl⟩) 2 gX_2 rfl rfl hl.1 rfl (Nat.le_of_ble_eq_true rfl) dX10_transfer_38 ⟨Nat.le_of_ble_eq_true rfl, Nat.le_of_ble_eq_true rfl⟩ (fun H locs w => ?_)
        refine lv_iconst (v := 1) hx hb dX10_transfer_41 (by decide) ?_
        refine lv_icmp_ge (tgt := 47) hx hb dX10_transfer_42 (by decide) (fun c8 => ?_) (fun c8 => ?_)
        · have hf := if_t hf c8
          refine lv_aload_n hx hb dX10_transfer_47 rfl (lv_at hl 0 rfl) ?_
          refine kget (v := .ref (ad 2)) F B w inX10_transfer_10 0 gX_0 rfl 1 (by decide) (hts (.fieldLink RX10 19 "LandReform" "land" "LLandReform$Land;") (by decide +kernel)) rfl rfl dX10_transfer_48 ?_
          refine lv_iload_n hx hb dX10_transfer_51 rfl (lv_at hl 1 rfl) ?_
          refine lv_iload_n hx hb dX10_transfer_52 rfl (lv_at hl 2 rfl) ?_
          obtain ⟨S10, er9, hf⟩ := ob_e hf
          refine kVv (As := [.int x1, .int x2]) (rest := []) F B w (tX2_move er9) (cwV 2 hts gX10_transfer_X2_move rfl rfl rfl (by decide +kernel) ⟨Nat.le_of_ble_eq_true rfl, Nat.le_of_ble_eq_true rfl⟩) 2 gX_2 rfl rfl hl.1 rfl (Nat.le_of_ble_eq_true rfl) dX10_transfer_53 ⟨Nat.le_of_ble_eq_true rfl, Nat.le_of_ble_eq_true rfl⟩ (fun H locs w => ?_)
          refine lv_iconst (v := 1) hx hb dX10_transfer_56 (by decide) ?_
          cases hf
          exact hQ _ _ _ _ dX10_transfer_57 (by decide) w
        · have hf := if_f hf c8
          refine lv_iconst (v := 0) hx hb dX10_transfer_45 (by decide) ?_
          cases hf
          exact hQ _ _ _ _ dX10_transfer_46 (by decide) w

def fX10_feed (n : Nat) (S : St) (x1 : Int32) (x2 : Int32) (x3 : Int32) (x4 : Int32) (x5 : Int32) : Option (Int32 × St) := ob (fX8_room S) fun r1 => if 20 ≤ r1 then (ob (fX8_append n S x1) fun S4 => ob (fX8_append n S4 x2) fun S6 => ob (fX8_append n S6 x3) fun S8 => ob (fX8_append n S8 x4) fun S10 => ob (fX8_append n S10 x5) fun S12 => some ((S12.1 6), S12)) else (some ((-1), S))
set_option maxRecDepth 20000 in
theorem inX10_feed_8 : ∀ w ∈ u_ws RX8 TX8 2, w ∈ wsX10_feed := by decide +kernel
set_option maxRecDepth 20000 in
theorem inX10_feed_10 : ∀ w ∈ u_ws RX10 TX10 12, w ∈ wsX10_feed := by decide +kernel
set_option maxHeartbeats 4000000 in
set_option maxRecDepth 100000 in
theorem tX10_feed {l : Launch} {D : va_G} {cc : Nat → ClassId} {ak av : Nat → Nat} {ad : Nat → Nat} {g : Nat → Option Nat} {E : va_W} {n : Nat} {S : St} {x1 : Int32} {x2 : Int32} {x3 : Int32} {x4 : Int32} {x5 : Int32} {r : Int32} {S' : St} (hf : fX10_feed n S x1 x2 x3 x4 x5 = some (r, S')) : CI l yX10_feed wsX10_feed ({ frames := 1, cells := 0, slots := 0, locals := 22 } : Room) D cc ak av [.ref (ad 0), .int x1, .int x2, .int x3, .int x4, .int x5] (WX cc ad g S ++ E) (WX cc ad g S' ++ E) r := by
  refine mkI (c0 := cX10_feed) (nL := 6) (own := RX10) rfl rfl (by decide) rfl rfl (Nat.le_of_ble_eq_true rfl) ?_
  intro p e s m args below meth c A Q ls F B hQ hl w
  have hx := F.1
  have hb := F.2.1
  have hown := F.2.2.2.1
  have hts := F.2.2.2.2
  have hl : lv_has ls 6 [(0, .ref (ad 0)), (1, .int x1), (2, .int x2), (3, .int x3), (4, .int x4), (5, .int x5)] := hl
  unfold fX10_feed at hf
  refine lv_aload_n hx hb dX10_feed_0 rfl (lv_at hl 0 rfl) ?_
  refine kget (v := .ref (ad 3)) F B w inX10_feed_10 0 gX_0 rfl 2 (by decide) (hts (.fieldLink RX10 26 "LandReform" "tape" "LLandReform$Tape;") (by decide +kernel)) rfl rfl dX10_feed_1 ?_
  obtain ⟨r1, er1, hf⟩ := ob_e hf
  refine kVi (As := []) (rest := []) F B w (tX8_room er1) (cwV 0 hts gX10_feed_X8_room rfl rfl rfl (by decide +kernel) ⟨Nat.le_of_ble_eq_true rfl, Nat.le_of_ble_eq_true rfl⟩) 3 gX_3 rfl rfl hl.1 rfl (Nat.le_of_ble_eq_true rfl) dX10_feed_4 ⟨Nat.le_of_ble_eq_true rfl, Nat.le_of_ble_eq_true rfl⟩ (fun H locs w => ?_)
  refine lv_bipush (v := 20) hx hb dX10_feed_7 (by decide) ?_
  refine lv_icmp_ge (tgt := 14) hx hb dX10_feed_9 (by decide) (fun c2 => ?_) (fun c2 => ?_)
  · have hf := if_t hf c2
    refine lv_aload_n hx hb dX10_feed_14 rfl (lv_at hl 0 rfl) ?_
    refine kget (v := .ref (ad 3)) F B w inX10_feed_10 0 gX_0 rfl 2 (by decide) (hts (.fieldLink RX10 26 "LandReform" "tape" "LLandReform$Tape;") (by decide +kernel)) rfl rfl dX10_feed_15 ?_
    refine lv_iload_n hx hb dX10_feed_18 rfl (lv_at hl 1 rfl) ?_
    obtain ⟨S4, er3, hf⟩ := ob_e hf
    refine kVv (As := [.int x1]) (rest := []) F B w (tX8_append er3) (cwV 1 hts gX10_feed_X8_append rfl rfl rfl (by decide +kernel) ⟨Nat.le_of_ble_eq_true rfl, Nat.le_of_ble_eq_true rfl⟩) 3 gX_3 rfl rfl hl.1 rfl (Nat.le_of_ble_eq_true rfl) dX10_feed_19 ⟨Nat.le_of_ble_eq_true rfl, Nat.le_of_ble_eq_true rfl⟩ (fun H locs w => ?_)
    refine lv_aload_n hx hb dX10_feed_22 rfl (lv_at hl 0 rfl) ?_
    refine kget (v := .ref (ad 3)) F B w inX10_feed_10 0 gX_0 rfl 2 (by decide) (hts (.fieldLink RX10 26 "LandReform" "tape" "LLandReform$Tape;") (by decide +kernel)) rfl rfl dX10_feed_23 ?_
    refine lv_iload_n hx hb dX10_feed_26 rfl (lv_at hl 2 rfl) ?_
    obtain ⟨S6, er5, hf⟩ := ob_e hf
    refine kVv (As := [.int x2]) (rest := []) F B w (tX8_append er5) (cwV 1 hts gX10_feed_X8_append rfl rfl rfl (by decide +kernel) ⟨Nat.le_of_ble_eq_true rfl, Nat.le_of_ble_eq_true rfl⟩) 3 gX_3 rfl rfl hl.1 rfl (Nat.le_of_ble_eq_true rfl) dX10_feed_27 ⟨Nat.le_of_ble_eq_true rfl, Nat.le_of_ble_eq_true rfl⟩ (fun H locs w => ?_)
    refine lv_aload_n hx hb dX10_feed_30 rfl (lv_at hl 0 rfl) ?_
    refine kget (v := .ref (ad 3)) F B w inX10_feed_10 0 gX_0 rfl 2 (by decide) (hts (.fieldLink RX10 26 "LandReform" "tape" "LLandReform$Tape;") (by decide +kernel)) rfl rfl dX10_feed_31 ?_
    refine lv_iload_n hx hb dX10_feed_34 rfl (lv_at hl 3 rfl) ?_
    obtain ⟨S8, er7, hf⟩ := ob_e hf
    refine kVv (As := [.int x3]) (rest := []) F B w (tX8_append er7) (cwV 1 hts gX10_feed_X8_append rfl rfl rfl (by decide +kernel) ⟨Nat.le_of_ble_eq_true rfl, Nat.le_of_ble_eq_true rfl⟩) 3 gX_3 rfl rfl hl.1 rfl (Nat.le_of_ble_eq_true rfl) dX10_feed_35 ⟨Nat.le_of_ble_eq_true rfl, Nat.le_of_ble_eq_true rfl⟩ (fun H locs w => ?_)
    refine lv_aload_n hx hb dX10_feed_38 rfl (lv_at hl 0 rfl) ?_
    refine kget (v := .ref (ad 3)) F B w inX10_feed_10 0 gX_0 rfl 2 (by decide) (hts (.fieldLink RX10 26 "LandReform" "tape" "LLandReform$Tape;") (by decide +kernel)) rfl rfl dX10_feed_39 ?_
    refine lv_iload hx hb dX10_feed_42 (lv_at hl 4 rfl) ?_
    obtain ⟨S10, er9, hf⟩ := ob_e hf
    refine kVv (As := [.int x4]) (rest := []) F B w (tX8_append er9) (cwV 1 hts gX10_feed_X8_append rfl rfl rfl (by decide +kernel) ⟨Nat.le_of_ble_eq_true rfl, Nat.le_of_ble_eq_true rfl⟩) 3 gX_3 rfl rfl hl.1 rfl (Nat.le_of_ble_eq_true rfl) dX10_feed_44 ⟨Nat.le_of_ble_eq_true rfl, Nat.le_of_ble_eq_true rfl⟩ (fun H locs w => ?_)
    refine lv_aload_n hx hb dX10_feed_47 rfl (lv_at hl 0 rfl) ?_
    refine kget (v := .ref (ad 3)) F B w inX10_feed_10 0 gX_0 rfl 2 (by decide) (hts (.fieldLink RX10 26 "LandReform" "tape" "LLandReform$Tape;") (by decide +kernel)) rfl rfl dX10_feed_48 ?_
    refine lv_iload hx hb dX10_feed_51 (lv_at hl 5 rfl) ?_
    obtain ⟨S12, er11, hf⟩ := ob_e hf
    refine kVv (As := [.int x5]) (rest := []) F B w (tX8_append er11) (cwV 1 hts gX10_feed_X8_append rfl rfl rfl (by decide +kernel) ⟨Nat.le_of_ble_eq_true rfl, Nat.le_of_ble_eq_true rfl⟩) 3 gX_3 rfl rfl hl.1 rfl (Nat.le_of_ble_eq_true rfl) dX10_feed_53 ⟨Nat.le_of_ble_eq_true rfl, Nat.le_of_ble_eq_true rfl⟩ (fun H locs w => ?_)
    refine lv_aload_n hx hb dX10_feed_56 rfl (lv_at hl 0 rfl) ?_
    refine kget (v := .ref (ad 3)) F B w inX10_feed_10 0 gX_0 rfl 2 (by decide) (hts (.fieldLink RX10 26 "LandReform" "tape" "LLandReform$Tape;") (by decide +kernel)) rfl rfl dX10_feed_57 ?_
    refine kgetN (v := .int (S12.1 6)) F B w inX10_feed_8 3 gX_3 rfl 1 (by decide) (B.2.1.f 1 rfl) rfl rfl dX10_feed_60 ?_
    cases hf
    exact hQ _ _ _ _ dX10_feed_63 w
  · have hf := if_f hf c2
    refine lv_iconst (v := (-1)) hx hb dX10_feed_12 (by decide) ?_
    cases hf
    exact hQ _ _ _ _ dX10_feed_13 w

def fX10_fault (S : St) : Option Int32 := some (S.1 10)
set_option maxRecDepth 20000 in
theorem inX10_fault_5 : ∀ w ∈ u_ws RX5 TX5 5, w ∈ wsX10_fault := by decide +kernel
set_option maxRecDepth 20000 in
theorem inX10_fault_10 : ∀ w ∈ u_ws RX10 TX10 12, w ∈ wsX10_fault := by decide +kernel
set_option maxHeartbeats 4000000 in
set_option maxRecDepth 100000 in
theorem tX10_fault {l : Launch} {D : va_G} {cc : Nat → ClassId} {ak av : Nat → Nat} {ad : Nat → Nat} {g : Nat → Option Nat} {E : va_W} {S : St} {r : Int32} (hf : fX10_fault S = some r) : CI l yX10_fault wsX10_fault ({ frames := 0, cells := 0, slots := 0, locals := 0 } : Room) D cc ak av [.ref (ad 0)] (WX cc ad g S ++ E) (WX cc ad g S ++ E) r := by
  refine mkI (c0 := cX10_fault) (nL := 1) (own := RX10) rfl rfl (by decide) rfl rfl (Nat.le_of_ble_eq_true rfl) ?_
  intro p e s m args below meth c A Q ls F B hQ hl w
  have hx := F.1
  have hb := F.2.1
  have hown := F.2.2.2.1
  have hts := F.2.2.2.2
  have hl : lv_has ls 1 [(0, .ref (ad 0))] := hl
  unfold fX10_fault at hf
  refine lv_aload_n hx hb dX10_fault_0 rfl (lv_at hl 0 rfl) ?_
  refine kget (v := .ref (ad 4)) F B w inX10_fault_10 0 gX_0 rfl 3 (by decide) (hts (.fieldLink RX10 39 "LandReform" "reader" "LLandReform$Reader;") (by decide +kernel)) rfl rfl dX10_fault_1 ?_
  refine kgetN (v := .int (S.1 10)) F B w inX10_fault_5 4 gX_4 rfl 4 (by decide) (B.2.1.f 3 rfl) rfl rfl dX10_fault_4 ?_
  cases hf
  exact hQ _ _ _ _ dX10_fault_7 w

def fX10_told (n : Nat) (S : St) (x1 : Int32) (x2 : Int32) : Option (Int32 × St) := ob (fX2_has S x1) fun r1 => if r1 = 0 then (some ((-1), S)) else (if x2 = 0 then (ob (fX2_placeOf S x1) fun r3 => some (r3, S)) else if x2 = 1 then (ob (fX2_areaOf S x1) fun r5 => some (r5, S)) else if x2 = 2 then (ob (fX2_soilOf S x1) fun r7 => some (r7, S)) else if x2 = 3 then (ob (fX2_cropOf S x1) fun r9 => some (r9, S)) else if x2 = 4 then (ob (fX2_ownerOf S x1) fun r11 => some (r11, S)) else if x2 = 5 then (ob (fX2_standardOf S x1) fun r13 => some (r13, S)) else if x2 = 6 then (ob (fX1_countedOwner n S x1) fun q17 => lt_ q17.1 fun r15 => lt_ q17.2 fun S16 => some (r15, S16)) else if x2 = 7 then (ob (fX2_ownerOf S x1) fun r19 => ob (fX9_tenantOf n S x1 r19 (S.1 27)) fun r20 => some (r20, S)) else if x2 = 8 then (ob (fX2_cropOf S x1) fun r22 => ob (fX3_exempts S r22) fun r23 => if r23 = 0 then (some (0, S)) else (some (1, S))) else if x2 = 9 then (ob (fX2_transfersOf n S x1) fun r26 => some (r26, S)) else (some ((-1), S)))
set_option maxRecDepth 20000 in
theorem inX10_told_3 : ∀ w ∈ u_ws RX3 TX3 9, w ∈ wsX10_told := by decide +kernel
set_option maxRecDepth 20000 in
theorem inX10_told_10 : ∀ w ∈ u_ws RX10 TX10 12, w ∈ wsX10_told := by decide +kernel
set_option maxHeartbeats 4000000 in
set_option maxRecDepth 100000 in
theorem tX10_told {l : Launch} {D : va_G} {cc : Nat → ClassId} {ak av : Nat → Nat} {ad : Nat → Nat} {g : Nat → Option Nat} {E : va_W} {n : Nat} {S : St} {x1 : Int32} {x2 : Int32} {r : Int32} {S' : St} (hf : fX10_told n S x1 x2 = some (r, S')) : CI l yX10_told wsX10_told ({ frames := 6, cells := 0, slots := 0, locals := 137 } : Room) D cc ak av [.ref (ad 0), .int x1, .int x2] (WX cc ad g S ++ E) (WX cc ad g S' ++ E) r := by
  refine mkI (c0 := cX10_told) (nL := 3) (own := RX10) rfl rfl (by decide) rfl rfl (Nat.le_of_ble_eq_true rfl) ?_
  intro p e s m args below meth c A Q ls F B hQ hl w
  have hx := F.1
  have hb := F.2.1
  have hown := F.2.2.2.1
  have hts := F.2.2.2.2
  have hl : lv_has ls 3 [(0, .ref (ad 0)), (1, .int x1), (2, .int x2)] := hl
  unfold fX10_told at hf
  refine lv_aload_n hx hb dX10_told_0 rfl (lv_at hl 0 rfl) ?_
  refine kget (v := .ref (ad 2)) F B w inX10_told_10 0 gX_0 rfl 1 (by decide) (hts (.fieldLink RX10 19 "LandReform" "land" "LLandReform$Land;") (by decide +kernel)) rfl rfl dX10_told_1 ?_
  refine lv_iload_n hx hb dX10_told_4 rfl (lv_at hl 1 rfl) ?_
  obtain ⟨r1, er1, hf⟩ := ob_e hf
  refine kVi (As := [.int x1]) (rest := []) F B w (tX2_has er1) (cwV 1 hts gX10_told_X2_has rfl rfl rfl (by decide +kernel) ⟨Nat.le_of_ble_eq_true rfl, Nat.le_of_ble_eq_true rfl⟩) 2 gX_2 rfl rfl hl.1 rfl (Nat.le_of_ble_eq_true rfl) dX10_told_5 ⟨Nat.le_of_ble_eq_true rfl, Nat.le_of_ble_eq_true rfl⟩ (fun H locs w => ?_)
  refine lv_if_ne (tgt := 13) hx hb dX10_told_8 (by decide) (fun c2 => ?_) (fun c2 => ?_)
  · have hf := if_f hf c2
    refine lv_iload_n hx hb dX10_told_13 rfl (lv_at hl 2 rfl) ?_
    by_cases c4 : x2 = 0
    · have hf := if_t hf c4
      refine lv_tableIn (off := 54) (tgt := 68) hx hb dX10_told_14 (by rw [c4]; decide) (by rw [c4]; decide) (by rw [c4]; rfl) (by decide) ?_
      refine lv_aload_n hx hb dX10_told_68 rfl (lv_at hl 0 rfl) ?_
      refine kget (v := .ref (ad 2)) F B w inX10_told_10 0 gX_0 rfl 1 (by decide) (hts (.fieldLink RX10 19 "LandReform" "land" "LLandReform$Land;") (by decide +kernel)) rfl rfl dX10_told_69 ?_
      refine lv_iload_n hx hb dX10_told_72 rfl (lv_at hl 1 rfl) ?_
      obtain ⟨r3, er3, hf⟩ := ob_e hf
      refine kVi (As := [.int x1]) (rest := []) F B w (tX2_placeOf er3) (cwV 1 hts gX10_told_X2_placeOf rfl rfl rfl (by decide +kernel) ⟨Nat.le_of_ble_eq_true rfl, Nat.le_of_ble_eq_true rfl⟩) 2 gX_2 rfl rfl hl.1 rfl (Nat.le_of_ble_eq_true rfl) dX10_told_73 ⟨Nat.le_of_ble_eq_true rfl, Nat.le_of_ble_eq_true rfl⟩ (fun H locs w => ?_)
      cases hf
      exact hQ _ _ _ _ dX10_told_76 w
    · have hf := if_f hf c4
      by_cases c6 : x2 = 1
      · have hf := if_t hf c6
        refine lv_tableIn (off := 63) (tgt := 77) hx hb dX10_told_14 (by rw [c6]; decide) (by rw [c6]; decide) (by rw [c6]; rfl) (by decide) ?_
        refine lv_aload_n hx hb dX10_told_77 rfl (lv_at hl 0 rfl) ?_
        refine kget (v := .ref (ad 2)) F B w inX10_told_10 0 gX_0 rfl 1 (by decide) (hts (.fieldLink RX10 19 "LandReform" "land" "LLandReform$Land;") (by decide +kernel)) rfl rfl dX10_told_78 ?_
        refine lv_iload_n hx hb dX10_told_81 rfl (lv_at hl 1 rfl) ?_
        obtain ⟨r5, er5, hf⟩ := ob_e hf
        refine kVi (As := [.int x1]) (rest := []) F B w (tX2_areaOf er5) (cwV 1 hts gX10_told_X2_areaOf rfl rfl rfl (by decide +kernel) ⟨Nat.le_of_ble_eq_true rfl, Nat.le_of_ble_eq_true rfl⟩) 2 gX_2 rfl rfl hl.1 rfl (Nat.le_of_ble_eq_true rfl) dX10_told_82 ⟨Nat.le_of_ble_eq_true rfl, Nat.le_of_ble_eq_true rfl⟩ (fun H locs w => ?_)
        cases hf
        exact hQ _ _ _ _ dX10_told_85 w
      · have hf := if_f hf c6
        by_cases c8 : x2 = 2
        · have hf := if_t hf c8
          refine lv_tableIn (off := 72) (tgt := 86) hx hb dX10_told_14 (by rw [c8]; decide) (by rw [c8]; decide) (by rw [c8]; rfl) (by decide) ?_
          refine lv_aload_n hx hb dX10_told_86 rfl (lv_at hl 0 rfl) ?_
          refine kget (v := .ref (ad 2)) F B w inX10_told_10 0 gX_0 rfl 1 (by decide) (hts (.fieldLink RX10 19 "LandReform" "land" "LLandReform$Land;") (by decide +kernel)) rfl rfl dX10_told_87 ?_
          refine lv_iload_n hx hb dX10_told_90 rfl (lv_at hl 1 rfl) ?_
          obtain ⟨r7, er7, hf⟩ := ob_e hf
          refine kVi (As := [.int x1]) (rest := []) F B w (tX2_soilOf er7) (cwV 1 hts gX10_told_X2_soilOf rfl rfl rfl (by decide +kernel) ⟨Nat.le_of_ble_eq_true rfl, Nat.le_of_ble_eq_true rfl⟩) 2 gX_2 rfl rfl hl.1 rfl (Nat.le_of_ble_eq_true rfl) dX10_told_91 ⟨Nat.le_of_ble_eq_true rfl, Nat.le_of_ble_eq_true rfl⟩ (fun H locs w => ?_)
          cases hf
          exact hQ _ _ _ _ dX10_told_94 w
        · have hf := if_f hf c8
          by_cases c10 : x2 = 3
          · have hf := if_t hf c10
            refine lv_tableIn (off := 81) (tgt := 95) hx hb dX10_told_14 (by rw [c10]; decide) (by rw [c10]; decide) (by rw [c10]; rfl) (by decide) ?_
            refine lv_aload_n hx hb dX10_told_95 rfl (lv_at hl 0 rfl) ?_
            refine kget (v := .ref (ad 2)) F B w inX10_told_10 0 gX_0 rfl 1 (by decide) (hts (.fieldLink RX10 19 "LandReform" "land" "LLandReform$Land;") (by decide +kernel)) rfl rfl dX10_told_96 ?_
            refine lv_iload_n hx hb dX10_told_99 rfl (lv_at hl 1 rfl) ?_
            obtain ⟨r9, er9, hf⟩ := ob_e hf
            refine kVi (As := [.int x1]) (rest := []) F B w (tX2_cropOf er9) (cwV 1 hts gX10_told_X2_cropOf rfl rfl rfl (by decide +kernel) ⟨Nat.le_of_ble_eq_true rfl, Nat.le_of_ble_eq_true rfl⟩) 2 gX_2 rfl rfl hl.1 rfl (Nat.le_of_ble_eq_true rfl) dX10_told_100 ⟨Nat.le_of_ble_eq_true rfl, Nat.le_of_ble_eq_true rfl⟩ (fun H locs w => ?_)
            cases hf
            exact hQ _ _ _ _ dX10_told_103 w
          · have hf := if_f hf c10
            by_cases c12 : x2 = 4
            · have hf := if_t hf c12
              refine lv_tableIn (off := 90) (tgt := 104) hx hb dX10_told_14 (by rw [c12]; decide) (by rw [c12]; decide) (by rw [c12]; rfl) (by decide) ?_
              refine lv_aload_n hx hb dX10_told_104 rfl (lv_at hl 0 rfl) ?_
              refine kget (v := .ref (ad 2)) F B w inX10_told_10 0 gX_0 rfl 1 (by decide) (hts (.fieldLink RX10 19 "LandReform" "land" "LLandReform$Land;") (by decide +kernel)) rfl rfl dX10_told_105 ?_
              refine lv_iload_n hx hb dX10_told_108 rfl (lv_at hl 1 rfl) ?_
              obtain ⟨r11, er11, hf⟩ := ob_e hf
              refine kVi (As := [.int x1]) (rest := []) F B w (tX2_ownerOf er11) (cwV 1 hts gX10_told_X2_ownerOf rfl rfl rfl (by decide +kernel) ⟨Nat.le_of_ble_eq_true rfl, Nat.le_of_ble_eq_true rfl⟩) 2 gX_2 rfl rfl hl.1 rfl (Nat.le_of_ble_eq_true rfl) dX10_told_109 ⟨Nat.le_of_ble_eq_true rfl, Nat.le_of_ble_eq_true rfl⟩ (fun H locs w => ?_)
              cases hf
              exact hQ _ _ _ _ dX10_told_112 w
            · have hf := if_f hf c12
              by_cases c14 : x2 = 5
              · have hf := if_t hf c14
                refine lv_tableIn (off := 99) (tgt := 113) hx hb dX10_told_14 (by rw [c14]; decide) (by rw [c14]; decide) (by rw [c14]; rfl) (by decide) ?_
                refine lv_aload_n hx hb dX10_told_113 rfl (lv_at hl 0 rfl) ?_
                refine kget (v := .ref (ad 2)) F B w inX10_told_10 0 gX_0 rfl 1 (by decide) (hts (.fieldLink RX10 19 "LandReform" "land" "LLandReform$Land;") (by decide +kernel)) rfl rfl dX10_told_114 ?_
                refine lv_iload_n hx hb dX10_told_117 rfl (lv_at hl 1 rfl) ?_
                refine lv_aload_n hx hb dX10_told_118 rfl (lv_at hl 0 rfl) ?_
                refine kget (v := .ref (ad 10)) F B w inX10_told_10 0 gX_0 rfl 10 (by decide) (hts (.fieldLink RX10 80 "LandReform" "law" "LLandReform$Law;") (by decide +kernel)) rfl rfl dX10_told_119 ?_
                obtain ⟨r13, er13, hf⟩ := ob_e hf
                refine kVi (As := [.int x1, .ref (ad 10)]) (rest := []) F B w (tX2_standardOf er13) (cwV 2 hts gX10_told_X2_standardOf rfl rfl rfl (by decide +kernel) ⟨Nat.le_of_ble_eq_true rfl, Nat.le_of_ble_eq_true rfl⟩) 2 gX_2 rfl rfl hl.1 rfl (Nat.le_of_ble_eq_true rfl) dX10_told_122 ⟨Nat.le_of_ble_eq_true rfl, Nat.le_of_ble_eq_true rfl⟩ (fun H locs w => ?_)
                cases hf
                exact hQ _ _ _ _ dX10_told_125 w
              · have hf := if_f hf c14
                by_cases c18 : x2 = 6
                · have hf := if_t hf c18
                  refine lv_tableIn (off := 112) (tgt := 126) hx hb dX10_told_14 (by rw [c18]; decide) (by rw [c18]; decide) (by rw [c18]; rfl) (by decide) ?_
                  refine lv_aload_n hx hb dX10_told_126 rfl (lv_at hl 0 rfl) ?_
                  refine kget (v := .ref (ad 5)) F B w inX10_told_10 0 gX_0 rfl 4 (by decide) (hts (.fieldLink RX10 46 "LandReform" "holding" "LLandReform$Holding;") (by decide +kernel)) rfl rfl dX10_told_127 ?_
                  refine lv_iload_n hx hb dX10_told_130 rfl (lv_at hl 1 rfl) ?_
                  refine lv_aload_n hx hb dX10_told_131 rfl (lv_at hl 0 rfl) ?_
                  refine kget (v := .ref (ad 2)) F B w inX10_told_10 0 gX_0 rfl 1 (by decide) (hts (.fieldLink RX10 19 "LandReform" "land" "LLandReform$Land;") (by decide +kernel)) rfl rfl dX10_told_132 ?_
                  refine lv_aload_n hx hb dX10_told_135 rfl (lv_at hl 0 rfl) ?_
                  refine kget (v := .ref (ad 1)) F B w inX10_told_10 0 gX_0 rfl 0 (by decide) (hts (.fieldLink RX10 10 "LandReform" "people" "LLandReform$People;") (by decide +kernel)) rfl rfl dX10_told_136 ?_
                  refine lv_aload_n hx hb dX10_told_139 rfl (lv_at hl 0 rfl) ?_
                  refine kget (v := .ref (ad 10)) F B w inX10_told_10 0 gX_0 rfl 10 (by decide) (hts (.fieldLink RX10 80 "LandReform" "law" "LLandReform$Law;") (by decide +kernel)) rfl rfl dX10_told_140 ?_
                  obtain ⟨⟨r15, S16⟩, er15, hf⟩ := ob_e hf
                  have hf := lt_e hf (v := r15) rfl
                  have hf := lt_e hf (v := S16) rfl
                  refine kVi (As := [.int x1, .ref (ad 2), .ref (ad 1), .ref (ad 10)]) (rest := []) F B w (tX1_countedOwner er15) (cwV 4 hts gX10_told_X1_countedOwner rfl rfl rfl (by decide +kernel) ⟨Nat.le_of_ble_eq_true rfl, Nat.le_of_ble_eq_true rfl⟩) 5 gX_5 rfl rfl hl.1 rfl (Nat.le_of_ble_eq_true rfl) dX10_told_143 ⟨Nat.le_of_ble_eq_true rfl, Nat.le_of_ble_eq_true rfl⟩ (fun H locs w => ?_)
                  cases hf
                  exact hQ _ _ _ _ dX10_told_146 w
                · have hf := if_f hf c18
                  by_cases c21 : x2 = 7
                  · have hf := if_t hf c21
                    refine lv_tableIn (off := 133) (tgt := 147) hx hb dX10_told_14 (by rw [c21]; decide) (by rw [c21]; decide) (by rw [c21]; rfl) (by decide) ?_
                    refine lv_aload_n hx hb dX10_told_147 rfl (lv_at hl 0 rfl) ?_
                    refine kget (v := .ref (ad 6)) F B w inX10_told_10 0 gX_0 rfl 5 (by decide) (hts (.fieldLink RX10 53 "LandReform" "tenancies" "LLandReform$Tenancies;") (by decide +kernel)) rfl rfl dX10_told_148 ?_
                    refine lv_iload_n hx hb dX10_told_151 rfl (lv_at hl 1 rfl) ?_
                    refine lv_aload_n hx hb dX10_told_152 rfl (lv_at hl 0 rfl) ?_
                    refine kget (v := .ref (ad 2)) F B w inX10_told_10 0 gX_0 rfl 1 (by decide) (hts (.fieldLink RX10 19 "LandReform" "land" "LLandReform$Land;") (by decide +kernel)) rfl rfl dX10_told_153 ?_
                    refine lv_iload_n hx hb dX10_told_156 rfl (lv_at hl 1 rfl) ?_
                    obtain ⟨r19, er19, hf⟩ := ob_e hf
                    refine kVi (As := [.int x1]) (rest := [.int x1, .ref (ad 6)]) F B w (tX2_ownerOf er19) (cwV 1 hts gX10_told_X2_ownerOf rfl rfl rfl (by decide +kernel) ⟨Nat.le_of_ble_eq_true rfl, Nat.le_of_ble_eq_true rfl⟩) 2 gX_2 rfl rfl hl.1 rfl (Nat.le_of_ble_eq_true rfl) dX10_told_157 ⟨Nat.le_of_ble_eq_true rfl, Nat.le_of_ble_eq_true rfl⟩ (fun H locs w => ?_)
                    refine lv_aload_n hx hb dX10_told_160 rfl (lv_at hl 0 rfl) ?_
                    refine kget (v := .ref (ad 10)) F B w inX10_told_10 0 gX_0 rfl 10 (by decide) (hts (.fieldLink RX10 80 "LandReform" "law" "LLandReform$Law;") (by decide +kernel)) rfl rfl dX10_told_161 ?_
                    refine kgetN (v := .int (S.1 27)) F B w inX10_told_3 10 gX_10 rfl 7 (by decide) (B.2.1.f 4 rfl) rfl rfl dX10_told_164 ?_
                    obtain ⟨r20, er20, hf⟩ := ob_e hf
                    refine kVi (As := [.int x1, .int r19, .int (S.1 27)]) (rest := []) F B w (tX9_tenantOf er20) (cwV 3 hts gX10_told_X9_tenantOf rfl rfl rfl (by decide +kernel) ⟨Nat.le_of_ble_eq_true rfl, Nat.le_of_ble_eq_true rfl⟩) 6 gX_6 rfl rfl hl.1 rfl (Nat.le_of_ble_eq_true rfl) dX10_told_167 ⟨Nat.le_of_ble_eq_true rfl, Nat.le_of_ble_eq_true rfl⟩ (fun H locs w => ?_)
                    cases hf
                    exact hQ _ _ _ _ dX10_told_170 w
                  · have hf := if_f hf c21
                    by_cases c25 : x2 = 8
                    · have hf := if_t hf c25
                      refine lv_tableIn (off := 157) (tgt := 171) hx hb dX10_told_14 (by rw [c25]; decide) (by rw [c25]; decide) (by rw [c25]; rfl) (by decide) ?_
                      refine lv_aload_n hx hb dX10_told_171 rfl (lv_at hl 0 rfl) ?_
                      refine kget (v := .ref (ad 10)) F B w inX10_told_10 0 gX_0 rfl 10 (by decide) (hts (.fieldLink RX10 80 "LandReform" "law" "LLandReform$Law;") (by decide +kernel)) rfl rfl dX10_told_172 ?_
                      refine lv_aload_n hx hb dX10_told_175 rfl (lv_at hl 0 rfl) ?_
                      refine kget (v := .ref (ad 2)) F B w inX10_told_10 0 gX_0 rfl 1 (by decide) (hts (.fieldLink RX10 19 "LandReform" "land" "LLandReform$Land;") (by decide +kernel)) rfl rfl dX10_told_176 ?_
                      refine lv_iload_n hx hb dX10_told_179 rfl (lv_at hl 1 rfl) ?_
                      obtain ⟨r22, er22, hf⟩ := ob_e hf
                      refine kVi (As := [.int x1]) (rest := [.ref (ad 10)]) F B w (tX2_cropOf er22) (cwV 1 hts gX10_told_X2_cropOf rfl rfl rfl (by decide +kernel) ⟨Nat.le_of_ble_eq_true rfl, Nat.le_of_ble_eq_true rfl⟩) 2 gX_2 rfl rfl hl.1 rfl (Nat.le_of_ble_eq_true rfl) dX10_told_180 ⟨Nat.le_of_ble_eq_true rfl, Nat.le_of_ble_eq_true rfl⟩ (fun H locs w => ?_)
                      obtain ⟨r23, er23, hf⟩ := ob_e hf
                      refine kVi (As := [.int r22]) (rest := []) F B w (tX3_exempts er23) (cwV 1 hts gX10_told_X3_exempts rfl rfl rfl (by decide +kernel) ⟨Nat.le_of_ble_eq_true rfl, Nat.le_of_ble_eq_true rfl⟩) 10 gX_10 rfl rfl hl.1 rfl (Nat.le_of_ble_eq_true rfl) dX10_told_183 ⟨Nat.le_of_ble_eq_true rfl, Nat.le_of_ble_eq_true rfl⟩ (fun H locs w => ?_)
                      refine lv_if_eq (tgt := 193) hx hb dX10_told_186 (by decide) (fun c24 => ?_) (fun c24 => ?_)
                      · have hf := if_t hf c24
                        refine lv_iconst (v := 0) hx hb dX10_told_193 (by decide) ?_
                        cases hf
                        exact hQ _ _ _ _ dX10_told_194 w
                      · have hf := if_f hf c24
                        refine lv_iconst (v := 1) hx hb dX10_told_189 (by decide) ?_
                        refine lv_goto (tgt := 194) hx hb dX10_told_190 (by decide) ?_
                        cases hf
                        exact hQ _ _ _ _ dX10_told_194 w
                    · have hf := if_f hf c25
                      by_cases c27 : x2 = 9
                      · have hf := if_t hf c27
                        refine lv_tableIn (off := 181) (tgt := 195) hx hb dX10_told_14 (by rw [c27]; decide) (by rw [c27]; decide) (by rw [c27]; rfl) (by decide) ?_
                        refine lv_aload_n hx hb dX10_told_195 rfl (lv_at hl 0 rfl) ?_
                        refine kget (v := .ref (ad 2)) F B w inX10_told_10 0 gX_0 rfl 1 (by decide) (hts (.fieldLink RX10 19 "LandReform" "land" "LLandReform$Land;") (by decide +kernel)) rfl rfl dX10_told_196 ?_
                        refine lv_iload_n hx hb dX10_told_199 rfl (lv_at hl 1 rfl) ?_
                        obtain ⟨r26, er26, hf⟩ := ob_e hf
                        refine kVi (As := [.int x1]) (rest := []) F B w (tX2_transfersOf er26) (cwV 1 hts gX10_told_X2_transfersOf rfl rfl rfl (by decide +kernel) ⟨Nat.le_of_ble_eq_true rfl, Nat.le_of_ble_eq_true rfl⟩) 2 gX_2 rfl rfl hl.1 rfl (Nat.le_of_ble_eq_true rfl) dX10_told_200 ⟨Nat.le_of_ble_eq_true rfl, Nat.le_of_ble_eq_true rfl⟩ (fun H locs w => ?_)
                        cases hf
                        exact hQ _ _ _ _ dX10_told_203 w
                      · have hf := if_f hf c27
                        have hsw : Int32.toInt x2 < 0 ∨ 9 < Int32.toInt x2 := by
                          have hc4 := lv_neT c4 (a := 0) (by decide)
                          have hc6 := lv_neT c6 (a := 1) (by decide)
                          have hc8 := lv_neT c8 (a := 2) (by decide)
                          have hc10 := lv_neT c10 (a := 3) (by decide)
                          have hc12 := lv_neT c12 (a := 4) (by decide)
                          have hc14 := lv_neT c14 (a := 5) (by decide)
                          have hc18 := lv_neT c18 (a := 6) (by decide)
                          have hc21 := lv_neT c21 (a := 7) (by decide)
                          have hc25 := lv_neT c25 (a := 8) (by decide)
                          have hc27 := lv_neT c27 (a := 9) (by decide)
                          omega
                        refine lv_tableOut (tgt := 204) hx hb dX10_told_14 hsw (by decide) ?_
                        refine lv_iconst (v := (-1)) hx hb dX10_told_204 (by decide) ?_
                        cases hf
                        exact hQ _ _ _ _ dX10_told_205 w
  · have hf := if_t hf c2
    refine lv_iconst (v := (-1)) hx hb dX10_told_11 (by decide) ?_
    cases hf
    exact hQ _ _ _ _ dX10_told_12 w
