def fX11_mayHave (n : Nat) (S : St) (x1 : Int32) : Option Int32 := ob (fX11_peopleOf n S x1) fun r1 => some ((S.2.1 16 (Int32.toNatClampNeg 0)) + ((S.2.1 16 (Int32.toNatClampNeg 1)) * (if (0 : Int32) < (r1 - 5) then (r1 - 5) else 0)))
set_option maxRecDepth 20000 in
theorem inX11_mayHave_11 : ∀ w ∈ u_ws RX11 TX11 47, w ∈ wsX11_mayHave := by decide +kernel
set_option maxHeartbeats 4000000 in
set_option maxRecDepth 100000 in
theorem tX11_mayHave {l : Launch} {D : va_G} {cc : Nat → ClassId} {ak av : Nat → Nat} {ad : Nat → Nat} {E : va_W} {n : Nat} {S : St} {x1 : Int32} {r : Int32} (hf : fX11_mayHave n S x1 = some r) : CI l yX11_mayHave wsX11_mayHave ({ frames := 2, cells := 0, slots := 0, locals := 43 } : Room) D cc ak av [.ref (ad 0), .int x1] (WM cc ad S ++ E) (WM cc ad S ++ E) r := by
  refine mkI (c0 := cX11_mayHave) (nL := 2) (own := RX11) rfl rfl (by decide) rfl rfl (Nat.le_of_ble_eq_true rfl) ?_
  intro p e s m args below meth c A Q ls F B hQ hl w
  have hx := F.1
  have hb := F.2.1
  have hown := F.2.2.2.1
  have hts := F.2.2.2.2
  have hl : lv_has ls 2 [(0, .ref (ad 0)), (1, .int x1)] := hl
  unfold fX11_mayHave at hf
  refine lv_aload_n hx hb dX11_mayHave_0 rfl (lv_at hl 0 rfl) ?_
  refine kget (v := .ref (ad 12)) F B w inX11_mayHave_11 0 gM_0 rfl 16 (by decide) (hts (.fieldLink RX11 44 "LandReformModel" "told" "[I") (by decide +kernel)) rfl rfl dX11_mayHave_1 ?_
  refine lv_iconst (v := 0) hx hb dX11_mayHave_4 (by decide) ?_
  refine kiald F B w 12 gM_12 (by decide) dX11_mayHave_5 ?_
  refine lv_aload_n hx hb dX11_mayHave_6 rfl (lv_at hl 0 rfl) ?_
  refine kget (v := .ref (ad 12)) F B w inX11_mayHave_11 0 gM_0 rfl 16 (by decide) (hts (.fieldLink RX11 44 "LandReformModel" "told" "[I") (by decide +kernel)) rfl rfl dX11_mayHave_7 ?_
  refine lv_iconst (v := 1) hx hb dX11_mayHave_10 (by decide) ?_
  refine kiald F B w 12 gM_12 (by decide) dX11_mayHave_11 ?_
  refine lv_iconst (v := 0) hx hb dX11_mayHave_12 (by decide) ?_
  refine lv_aload_n hx hb dX11_mayHave_13 rfl (lv_at hl 0 rfl) ?_
  refine lv_iload_n hx hb dX11_mayHave_14 rfl (lv_at hl 1 rfl) ?_
  obtain ⟨r1, er1, hf⟩ := ob_e hf
  refine kVi (As := [.int x1]) (rest := [.int 0, .int (S.2.1 16 (Int32.toNatClampNeg 1)), .int (S.2.1 16 (Int32.toNatClampNeg 0))]) F B w (tX11_peopleOf er1) (cwV 1 hts gX11_mayHave_X11_peopleOf rfl rfl rfl (by decide +kernel) ⟨Nat.le_of_ble_eq_true rfl, Nat.le_of_ble_eq_true rfl⟩) 0 gM_0 rfl rfl hl.1 rfl (Nat.le_of_ble_eq_true rfl) dX11_mayHave_15 ⟨Nat.le_of_ble_eq_true rfl, Nat.le_of_ble_eq_true rfl⟩ (fun H locs w => ?_)
  refine lv_iconst (v := 5) hx hb dX11_mayHave_18 (by decide) ?_
  refine lv_isub hx hb dX11_mayHave_19 ?_
  refine va_mmax hx hb (by rw [hl.1]; exact F.2.2.1) hown (hts (.methodLink RX11 234 Lib.Math.max.name) (by decide +kernel)) (hts (.static Lib.Math.max.name) (by decide +kernel)) (hts (.initialized "java/lang/Math") (by decide +kernel)) (hts (.code Lib.Math.max.name Lib.Math.max.code 2 (some .int)) (by decide +kernel)) (Nat.le_of_ble_eq_true rfl) (Nat.le_of_ble_eq_true rfl) (Nat.le_of_ble_eq_true rfl) (Nat.le_of_ble_eq_true rfl) dX11_mayHave_20 ?_
  refine lv_imul hx hb dX11_mayHave_23 ?_
  refine lv_iadd hx hb dX11_mayHave_24 ?_
  cases hf
  exact hQ _ _ _ _ dX11_mayHave_25 w

def fX11_house (n : Nat) (S : St) (x1 : Int32) (x2 : Int32) : Option (Int32 × St) := ob (fX11_isHouse x1) fun r1 => if r1 = 0 then (some ((-1), S)) else (if x2 = 0 then (ob (fX11_peopleOf n S x1) fun r3 => some (r3, S)) else if x2 = 1 then (ob (fX11_holding n S x1) fun q7 => lt_ q7.1 fun r5 => lt_ q7.2 fun S6 => some (r5, S6)) else if x2 = 2 then (ob (fX11_mayHave n S x1) fun r9 => some (r9, S)) else if x2 = 3 then (ob (fX11_holding n S x1) fun q13 => lt_ q13.1 fun r11 => lt_ q13.2 fun S12 => ob (fX11_mayHave n S12 x1) fun r14 => some ((if (0 : Int32) < (r11 - r14) then (r11 - r14) else 0), S12)) else if x2 = 4 then (ob (fX11_counts n S x1) fun q18 => lt_ q18.1 fun r16 => lt_ q18.2 fun S17 => some (r16, S17)) else (some ((-1), S)))
set_option maxHeartbeats 4000000 in
set_option maxRecDepth 100000 in
theorem tX11_house {l : Launch} {D : va_G} {cc : Nat → ClassId} {ak av : Nat → Nat} {ad : Nat → Nat} {E : va_W} {n : Nat} {S : St} {x1 : Int32} {x2 : Int32} {r : Int32} {S' : St} (hf : fX11_house n S x1 x2 = some (r, S')) : CI l yX11_house wsX11_house ({ frames := 4, cells := 0, slots := 0, locals := 95 } : Room) D cc ak av [.ref (ad 0), .int x1, .int x2] (WM cc ad S ++ E) (WM cc ad S' ++ E) r := by
  refine mkI (c0 := cX11_house) (nL := 3) (own := RX11) rfl rfl (by decide) rfl rfl (Nat.le_of_ble_eq_true rfl) ?_
  intro p e s m args below meth c A Q ls F B hQ hl w
  have hx := F.1
  have hb := F.2.1
  have hown := F.2.2.2.1
  have hts := F.2.2.2.2
  have hl : lv_has ls 3 [(0, .ref (ad 0)), (1, .int x1), (2, .int x2)] := hl
  unfold fX11_house at hf
  refine lv_iload_n hx hb dX11_house_0 rfl (lv_at hl 1 rfl) ?_
  obtain ⟨r1, er1, hf⟩ := ob_e hf
  refine kSi (As := [.int x1]) (rest := []) F B w (tX11_isHouse er1) (va_cwS 1 hts gX11_house_X11_isHouse rfl rfl rfl (by decide +kernel) ⟨Nat.le_of_ble_eq_true rfl, Nat.le_of_ble_eq_true rfl⟩) rfl hl.1 rfl (Nat.le_of_ble_eq_true rfl) dX11_house_1 ⟨Nat.le_of_ble_eq_true rfl, Nat.le_of_ble_eq_true rfl⟩ (fun H locs w => ?_)
  refine lv_if_ne (tgt := 9) hx hb dX11_house_4 (by decide) (fun c2 => ?_) (fun c2 => ?_)
  · have hf := if_f hf c2
    refine lv_iload_n hx hb dX11_house_9 rfl (lv_at hl 2 rfl) ?_
    by_cases c4 : x2 = 0
    · have hf := if_t hf c4
      refine lv_tableIn (off := 34) (tgt := 44) hx hb dX11_house_10 (by rw [c4]; decide) (by rw [c4]; decide) (by rw [c4]; rfl) (by decide) ?_
      refine lv_aload_n hx hb dX11_house_44 rfl (lv_at hl 0 rfl) ?_
      refine lv_iload_n hx hb dX11_house_45 rfl (lv_at hl 1 rfl) ?_
      obtain ⟨r3, er3, hf⟩ := ob_e hf
      refine kVi (As := [.int x1]) (rest := []) F B w (tX11_peopleOf er3) (cwV 1 hts gX11_house_X11_peopleOf rfl rfl rfl (by decide +kernel) ⟨Nat.le_of_ble_eq_true rfl, Nat.le_of_ble_eq_true rfl⟩) 0 gM_0 rfl rfl hl.1 rfl (Nat.le_of_ble_eq_true rfl) dX11_house_46 ⟨Nat.le_of_ble_eq_true rfl, Nat.le_of_ble_eq_true rfl⟩ (fun H locs w => ?_)
      cases hf
      exact hQ _ _ _ _ dX11_house_49 w
    · have hf := if_f hf c4
      by_cases c8 : x2 = 1
      · have hf := if_t hf c8
        refine lv_tableIn (off := 40) (tgt := 50) hx hb dX11_house_10 (by rw [c8]; decide) (by rw [c8]; decide) (by rw [c8]; rfl) (by decide) ?_
        refine lv_aload_n hx hb dX11_house_50 rfl (lv_at hl 0 rfl) ?_
        refine lv_iload_n hx hb dX11_house_51 rfl (lv_at hl 1 rfl) ?_
        obtain ⟨⟨r5, S6⟩, er5, hf⟩ := ob_e hf
        have hf := lt_e hf (v := r5) rfl
        have hf := lt_e hf (v := S6) rfl
        refine kVi (As := [.int x1]) (rest := []) F B w (tX11_holding er5) (cwV 1 hts gX11_house_X11_holding rfl rfl rfl (by decide +kernel) ⟨Nat.le_of_ble_eq_true rfl, Nat.le_of_ble_eq_true rfl⟩) 0 gM_0 rfl rfl hl.1 rfl (Nat.le_of_ble_eq_true rfl) dX11_house_52 ⟨Nat.le_of_ble_eq_true rfl, Nat.le_of_ble_eq_true rfl⟩ (fun H locs w => ?_)
        cases hf
        exact hQ _ _ _ _ dX11_house_55 w
      · have hf := if_f hf c8
        by_cases c10 : x2 = 2
        · have hf := if_t hf c10
          refine lv_tableIn (off := 46) (tgt := 56) hx hb dX11_house_10 (by rw [c10]; decide) (by rw [c10]; decide) (by rw [c10]; rfl) (by decide) ?_
          refine lv_aload_n hx hb dX11_house_56 rfl (lv_at hl 0 rfl) ?_
          refine lv_iload_n hx hb dX11_house_57 rfl (lv_at hl 1 rfl) ?_
          obtain ⟨r9, er9, hf⟩ := ob_e hf
          refine kVi (As := [.int x1]) (rest := []) F B w (tX11_mayHave er9) (cwV 1 hts gX11_house_X11_mayHave rfl rfl rfl (by decide +kernel) ⟨Nat.le_of_ble_eq_true rfl, Nat.le_of_ble_eq_true rfl⟩) 0 gM_0 rfl rfl hl.1 rfl (Nat.le_of_ble_eq_true rfl) dX11_house_58 ⟨Nat.le_of_ble_eq_true rfl, Nat.le_of_ble_eq_true rfl⟩ (fun H locs w => ?_)
          cases hf
          exact hQ _ _ _ _ dX11_house_61 w
        · have hf := if_f hf c10
          by_cases c15 : x2 = 3
          · have hf := if_t hf c15
            refine lv_tableIn (off := 52) (tgt := 62) hx hb dX11_house_10 (by rw [c15]; decide) (by rw [c15]; decide) (by rw [c15]; rfl) (by decide) ?_
            refine lv_iconst (v := 0) hx hb dX11_house_62 (by decide) ?_
            refine lv_aload_n hx hb dX11_house_63 rfl (lv_at hl 0 rfl) ?_
            refine lv_iload_n hx hb dX11_house_64 rfl (lv_at hl 1 rfl) ?_
            obtain ⟨⟨r11, S12⟩, er11, hf⟩ := ob_e hf
            have hf := lt_e hf (v := r11) rfl
            have hf := lt_e hf (v := S12) rfl
            refine kVi (As := [.int x1]) (rest := [.int 0]) F B w (tX11_holding er11) (cwV 1 hts gX11_house_X11_holding rfl rfl rfl (by decide +kernel) ⟨Nat.le_of_ble_eq_true rfl, Nat.le_of_ble_eq_true rfl⟩) 0 gM_0 rfl rfl hl.1 rfl (Nat.le_of_ble_eq_true rfl) dX11_house_65 ⟨Nat.le_of_ble_eq_true rfl, Nat.le_of_ble_eq_true rfl⟩ (fun H locs w => ?_)
            refine lv_aload_n hx hb dX11_house_68 rfl (lv_at hl 0 rfl) ?_
            refine lv_iload_n hx hb dX11_house_69 rfl (lv_at hl 1 rfl) ?_
            obtain ⟨r14, er14, hf⟩ := ob_e hf
            refine kVi (As := [.int x1]) (rest := [.int r11, .int 0]) F B w (tX11_mayHave er14) (cwV 1 hts gX11_house_X11_mayHave rfl rfl rfl (by decide +kernel) ⟨Nat.le_of_ble_eq_true rfl, Nat.le_of_ble_eq_true rfl⟩) 0 gM_0 rfl rfl hl.1 rfl (Nat.le_of_ble_eq_true rfl) dX11_house_70 ⟨Nat.le_of_ble_eq_true rfl, Nat.le_of_ble_eq_true rfl⟩ (fun H locs w => ?_)
            refine lv_isub hx hb dX11_house_73 ?_
            refine va_mmax hx hb (by rw [hl.1]; exact F.2.2.1) hown (hts (.methodLink RX11 234 Lib.Math.max.name) (by decide +kernel)) (hts (.static Lib.Math.max.name) (by decide +kernel)) (hts (.initialized "java/lang/Math") (by decide +kernel)) (hts (.code Lib.Math.max.name Lib.Math.max.code 2 (some .int)) (by decide +kernel)) (Nat.le_of_ble_eq_true rfl) (Nat.le_of_ble_eq_true rfl) (Nat.le_of_ble_eq_true rfl) (Nat.le_of_ble_eq_true rfl) dX11_house_74 ?_
            cases hf
            exact hQ _ _ _ _ dX11_house_77 w
          · have hf := if_f hf c15
            by_cases c19 : x2 = 4
            · have hf := if_t hf c19
              refine lv_tableIn (off := 68) (tgt := 78) hx hb dX11_house_10 (by rw [c19]; decide) (by rw [c19]; decide) (by rw [c19]; rfl) (by decide) ?_
              refine lv_aload_n hx hb dX11_house_78 rfl (lv_at hl 0 rfl) ?_
              refine lv_iload_n hx hb dX11_house_79 rfl (lv_at hl 1 rfl) ?_
              obtain ⟨⟨r16, S17⟩, er16, hf⟩ := ob_e hf
              have hf := lt_e hf (v := r16) rfl
              have hf := lt_e hf (v := S17) rfl
              refine kVi (As := [.int x1]) (rest := []) F B w (tX11_counts er16) (cwV 1 hts gX11_house_X11_counts rfl rfl rfl (by decide +kernel) ⟨Nat.le_of_ble_eq_true rfl, Nat.le_of_ble_eq_true rfl⟩) 0 gM_0 rfl rfl hl.1 rfl (Nat.le_of_ble_eq_true rfl) dX11_house_80 ⟨Nat.le_of_ble_eq_true rfl, Nat.le_of_ble_eq_true rfl⟩ (fun H locs w => ?_)
              cases hf
              exact hQ _ _ _ _ dX11_house_83 w
            · have hf := if_f hf c19
              have hsw : Int32.toInt x2 < 0 ∨ 4 < Int32.toInt x2 := by
                have hc4 := lv_neT c4 (a := 0) (by decide)
                have hc8 := lv_neT c8 (a := 1) (by decide)
                have hc10 := lv_neT c10 (a := 2) (by decide)
                have hc15 := lv_neT c15 (a := 3) (by decide)
                have hc19 := lv_neT c19 (a := 4) (by decide)
                omega
              refine lv_tableOut (tgt := 84) hx hb dX11_house_10 hsw (by decide) ?_
              refine lv_iconst (v := (-1)) hx hb dX11_house_84 (by decide) ?_
              cases hf
              exact hQ _ _ _ _ dX11_house_85 w
  · have hf := if_t hf c2
    refine lv_iconst (v := (-1)) hx hb dX11_house_7 (by decide) ?_
    cases hf
    exact hQ _ _ _ _ dX11_house_8 w

def fX11_keeps_L28 (n : Nat) (x1 : Int32) (x2 : Int32) (x3 : Int32) (S : St) (k : Int32 → Int32 → Int32 → Option St) : Nat → Int32 → Int32 → Int32 → Option St
  | 0, _, _, _ => none
  | fu + 1, x4, x5, x6 => if x1 ≤ x6 then (k x4 x5 x6) else (if ((x3 >>> (x6 &&& 31)) &&& 1) = 0 then (fX11_keeps_L28 n x1 x2 x3 S k fu x4 x5 (x6 + 1)) else (if x6 < 0 ∨ 60 ≤ Int32.toNatClampNeg x6 then none else ob (fX11_standard S (S.2.1 26 (Int32.toNatClampNeg x6))) fun r7 => lt_ (x4 + r7) fun v8 => if x6 < 0 ∨ 60 ≤ Int32.toNatClampNeg x6 then none else if (S.2.1 26 (Int32.toNatClampNeg x6)) < 0 ∨ 60 ≤ Int32.toNatClampNeg (S.2.1 26 (Int32.toNatClampNeg x6)) then none else lt_ (x5 + (S.2.1 9 (Int32.toNatClampNeg (S.2.1 26 (Int32.toNatClampNeg x6))))) fun v11 => fX11_keeps_L28 n x1 x2 x3 S k fu v8 v11 (x6 + 1)))
def fX11_keeps_L12 (n : Nat) (x1 : Int32) (x2 : Int32) (k : Int32 → St → Option St) : Nat → Int32 → St → Option St
  | 0, _, _ => none
  | fu + 1, x3, S => if ((1 : Int32) <<< (x1 &&& 31)) ≤ x3 then (k x3 S) else (fX11_keeps_L28 n x1 x2 x3 S (fun x12 x13 x14 => if x2 < x12 then (fX11_keeps_L12 n x1 x2 k fu (x3 + 1) S) else (if (S.1 28) < x13 then (lt_ (sS S 27 x3) fun S17 => lt_ (sS S17 28 x13) fun S18 => fX11_keeps_L12 n x1 x2 k fu (x3 + 1) S18) else (fX11_keeps_L12 n x1 x2 k fu (x3 + 1) S))) n 0 0 0)
def fX11_keeps (n : Nat) (S : St) (x1 : Int32) (x2 : Int32) : Option St := lt_ (sS S 27 0) fun S1 => lt_ (sS S1 28 0) fun S2 => fX11_keeps_L12 n x1 x2 (fun x19 S20 => some S20) n 1 S2
set_option maxRecDepth 20000 in
theorem inX11_keeps_11 : ∀ w ∈ u_ws RX11 TX11 47, w ∈ wsX11_keeps := by decide +kernel
set_option maxHeartbeats 4000000 in
set_option maxRecDepth 100000 in
theorem wX11_keeps_L28 {p : Program} {l : Launch} {e : Env} {s : State} {m : MethodId} {args : Array Value} {below : List Frame} {meth : Method} {c : Code} {Q : State → Prop} {D : va_G} {cc : Nat → ClassId} {ak av : Nat → Nat} {A : Nat → Prop} {ad : Nat → Nat} {E : va_W} {n : Nat} {x1 : Int32} {x2 : Int32} {x3 : Int32} {S : St} {S' : St} {k : Int32 → Int32 → Int32 → Option St} (F : CallFix p m c cX11_keeps 7 s args wsX11_keeps RX11) (B : Bd D cc ak av A s) (hQ : RetV p l e ({ frames := 1, cells := 0, slots := 0, locals := 21 } : Room) s m args below meth c D A Q cX11_keeps (WM cc ad S' ++ E))
    (hk : ∀ (x4 : Int32) (x5 : Int32) (x6 : Int32) (H : Heap) (locs : List Loc) (ls : Array Slot), Wd D A s.heap H locs (WM cc ad S ++ E) → lv_has ls 7 [(0, .ref (ad 0)), (1, .int x1), (2, .int x2), (3, .int x3), (4, .int x4), (5, .int x5), (6, .int x6)] → k x4 x5 x6 = some S' → W p l e ({ frames := 1, cells := 0, slots := 0, locals := 21 } : Room) s m args below meth c H locs 0 0 Q (F0 m 85 ls [])) :
    ∀ (fu : Nat) (x4 : Int32) (x5 : Int32) (x6 : Int32) (H : Heap) (locs : List Loc) (ls : Array Slot), Wd D A s.heap H locs (WM cc ad S ++ E) → lv_has ls 7 [(0, .ref (ad 0)), (1, .int x1), (2, .int x2), (3, .int x3), (4, .int x4), (5, .int x5), (6, .int x6)] → fX11_keeps_L28 n x1 x2 x3 S k fu x4 x5 x6 = some S' → W p l e ({ frames := 1, cells := 0, slots := 0, locals := 21 } : Room) s m args below meth c H locs 0 0 Q (F0 m 28 ls []) := by
  have hx := F.1
  have hb := F.2.1
  have hown := F.2.2.2.1
  have hts := F.2.2.2.2
  intro fu
  induction fu with
  | zero => intro x4 x5 x6 H locs ls w hl hf; rw [fX11_keeps_L28] at hf; cases hf
  | succ fu ih =>
    intro x4 x5 x6 H locs ls w hl hf
    rw [fX11_keeps_L28] at hf
    refine lv_iload hx hb dX11_keeps_28 (lv_at hl 6 rfl) ?_
    refine lv_iload_n hx hb dX11_keeps_30 rfl (lv_at hl 1 rfl) ?_
    refine lv_icmp_ge (tgt := 85) hx hb dX11_keeps_31 (by decide) (fun c4 => ?_) (fun c4 => ?_)
    · have hf := if_t hf c4
      exact hk _ _ _ _ _ _ w (lv_sub hl [0, 1, 2, 3, 4, 5, 6] rfl) hf
    · have hf := if_f hf c4
      refine lv_iload_n hx hb dX11_keeps_34 rfl (lv_at hl 3 rfl) ?_
      refine lv_iload hx hb dX11_keeps_35 (lv_at hl 6 rfl) ?_
      refine lv_ishr hx hb dX11_keeps_37 ?_
      refine lv_iconst (v := 1) hx hb dX11_keeps_38 (by decide) ?_
      refine lv_iand hx hb dX11_keeps_39 ?_
      refine lv_if_ne (tgt := 46) hx hb dX11_keeps_40 (by decide) (fun c5 => ?_) (fun c5 => ?_)
      · have hf := if_f hf c5
        refine lv_iload hx hb dX11_keeps_46 (lv_at hl 4 rfl) ?_
        refine lv_aload_n hx hb dX11_keeps_48 rfl (lv_at hl 0 rfl) ?_
        refine lv_aload_n hx hb dX11_keeps_49 rfl (lv_at hl 0 rfl) ?_
        refine kget (v := .ref (ad 15)) F B w inX11_keeps_11 0 gM_0 rfl 26 (by decide) (hts (.fieldLink RX11 58 "LandReformModel" "row" "[I") (by decide +kernel)) rfl rfl dX11_keeps_50 ?_
        refine lv_iload hx hb dX11_keeps_53 (lv_at hl 6 rfl) ?_
        obtain ⟨g6, hf⟩ := if_g hf
        refine kiald F B w 15 gM_15 g6 dX11_keeps_55 ?_
        obtain ⟨r7, er7, hf⟩ := ob_e hf
        refine kVi (As := [.int (S.2.1 26 (Int32.toNatClampNeg x6))]) (rest := [.int x4]) F B w (tX11_standard er7) (cwV 1 hts gX11_keeps_X11_standard rfl rfl rfl (by decide +kernel) ⟨Nat.le_of_ble_eq_true rfl, Nat.le_of_ble_eq_true rfl⟩) 0 gM_0 rfl rfl hl.1 rfl (Nat.le_of_ble_eq_true rfl) dX11_keeps_56 ⟨Nat.le_of_ble_eq_true rfl, Nat.le_of_ble_eq_true rfl⟩ (fun H locs w => ?_)
        refine lv_iadd hx hb dX11_keeps_59 ?_
        refine lv_topi (fun v8 ev8 => ?_)
        have hf := lt_e hf ev8
        refine lv_istore (lv' := [(4, .int v8), (0, .ref (ad 0)), (1, .int x1), (2, .int x2), (3, .int x3), (5, .int x5), (6, .int x6)]) hx hb dX11_keeps_60 hl (by decide) rfl (fun ls hl => ?_)
        refine lv_iload hx hb dX11_keeps_62 (lv_at hl 5 rfl) ?_
        refine lv_aload_n hx hb dX11_keeps_64 rfl (lv_at hl 1 rfl) ?_
        refine kget (v := .ref (ad 5)) F B w inX11_keeps_11 0 gM_0 rfl 9 (by decide) (hts (.fieldLink RX11 23 "LandReformModel" "area" "[I") (by decide +kernel)) rfl rfl dX11_keeps_65 ?_
        refine lv_aload_n hx hb dX11_keeps_68 rfl (lv_at hl 1 rfl) ?_
        refine kget (v := .ref (ad 15)) F B w inX11_keeps_11 0 gM_0 rfl 26 (by decide) (hts (.fieldLink RX11 58 "LandReformModel" "row" "[I") (by decide +kernel)) rfl rfl dX11_keeps_69 ?_
        refine lv_iload hx hb dX11_keeps_72 (lv_at hl 6 rfl) ?_
        obtain ⟨g9, hf⟩ := if_g hf
        refine kiald F B w 15 gM_15 g9 dX11_keeps_74 ?_
        obtain ⟨g10, hf⟩ := if_g hf
        refine kiald F B w 5 gM_5 g10 dX11_keeps_75 ?_
        refine lv_iadd hx hb dX11_keeps_76 ?_
        refine lv_topi (fun v11 ev11 => ?_)
        have hf := lt_e hf ev11
        refine lv_istore (lv' := [(5, .int v11), (4, .int v8), (0, .ref (ad 0)), (1, .int x1), (2, .int x2), (3, .int x3), (6, .int x6)]) hx hb dX11_keeps_77 hl (by decide) rfl (fun ls hl => ?_)
        refine lv_iinc (v := (x6 + 1)) (lv' := [(6, .int (x6 + 1)), (5, .int v11), (4, .int v8), (0, .ref (ad 0)), (1, .int x1), (2, .int x2), (3, .int x3)]) hx hb dX11_keeps_79 hl (k := 6) rfl rfl (by decide) rfl (fun ls hl => ?_)
        refine lv_goto (tgt := 28) hx hb dX11_keeps_82 (by decide) ?_
        exact ih _ _ _ _ _ _ w (lv_sub hl [3, 4, 5, 6, 2, 1, 0] rfl) hf
      · have hf := if_t hf c5
        refine lv_goto (tgt := 79) hx hb dX11_keeps_43 (by decide) ?_
        refine lv_iinc (v := (x6 + 1)) (lv' := [(6, .int (x6 + 1)), (0, .ref (ad 0)), (1, .int x1), (2, .int x2), (3, .int x3), (4, .int x4), (5, .int x5)]) hx hb dX11_keeps_79 hl (k := 6) rfl rfl (by decide) rfl (fun ls hl => ?_)
        refine lv_goto (tgt := 28) hx hb dX11_keeps_82 (by decide) ?_
        exact ih _ _ _ _ _ _ w (lv_sub hl [1, 2, 3, 4, 5, 6, 0] rfl) hf
set_option maxHeartbeats 4000000 in
set_option maxRecDepth 100000 in
theorem wX11_keeps_L12 {p : Program} {l : Launch} {e : Env} {s : State} {m : MethodId} {args : Array Value} {below : List Frame} {meth : Method} {c : Code} {Q : State → Prop} {D : va_G} {cc : Nat → ClassId} {ak av : Nat → Nat} {A : Nat → Prop} {ad : Nat → Nat} {E : va_W} {n : Nat} {x1 : Int32} {x2 : Int32} {S' : St} {k : Int32 → St → Option St} (F : CallFix p m c cX11_keeps 7 s args wsX11_keeps RX11) (B : Bd D cc ak av A s) (hQ : RetV p l e ({ frames := 1, cells := 0, slots := 0, locals := 21 } : Room) s m args below meth c D A Q cX11_keeps (WM cc ad S' ++ E))
    (hk : ∀ (x3 : Int32) (S : St) (H : Heap) (locs : List Loc) (ls : Array Slot), Wd D A s.heap H locs (WM cc ad S ++ E) → lv_has ls 7 [(0, .ref (ad 0)), (1, .int x1), (2, .int x2), (3, .int x3)] → k x3 S = some S' → W p l e ({ frames := 1, cells := 0, slots := 0, locals := 21 } : Room) s m args below meth c H locs 0 0 Q (F0 m 120 ls [])) :
    ∀ (fu : Nat) (x3 : Int32) (S : St) (H : Heap) (locs : List Loc) (ls : Array Slot), Wd D A s.heap H locs (WM cc ad S ++ E) → lv_has ls 7 [(0, .ref (ad 0)), (1, .int x1), (2, .int x2), (3, .int x3)] → fX11_keeps_L12 n x1 x2 k fu x3 S = some S' → W p l e ({ frames := 1, cells := 0, slots := 0, locals := 21 } : Room) s m args below meth c H locs 0 0 Q (F0 m 12 ls []) := by
  have hx := F.1
  have hb := F.2.1
  have hown := F.2.2.2.1
  have hts := F.2.2.2.2
  intro fu
  induction fu with
  | zero => intro x3 S H locs ls w hl hf; rw [fX11_keeps_L12] at hf; cases hf
  | succ fu ih =>
    intro x3 S H locs ls w hl hf
    rw [fX11_keeps_L12] at hf
    refine lv_iload_n hx hb dX11_keeps_12 rfl (lv_at hl 3 rfl) ?_
    refine lv_iconst (v := 1) hx hb dX11_keeps_13 (by decide) ?_
    refine lv_iload_n hx hb dX11_keeps_14 rfl (lv_at hl 1 rfl) ?_
    refine lv_ishl hx hb dX11_keeps_15 ?_
    refine lv_icmp_ge (tgt := 120) hx hb dX11_keeps_16 (by decide) (fun c3 => ?_) (fun c3 => ?_)
    · have hf := if_t hf c3
      exact hk _ _ _ _ _ w (lv_sub hl [0, 1, 2, 3] rfl) hf
    · have hf := if_f hf c3
      refine lv_iconst (v := 0) hx hb dX11_keeps_19 (by decide) ?_
      refine lv_istore (lv' := [(4, .int 0), (0, .ref (ad 0)), (1, .int x1), (2, .int x2), (3, .int x3)]) hx hb dX11_keeps_20 hl (by decide) rfl (fun ls hl => ?_)
      refine lv_iconst (v := 0) hx hb dX11_keeps_22 (by decide) ?_
      refine lv_istore (lv' := [(5, .int 0), (4, .int 0), (0, .ref (ad 0)), (1, .int x1), (2, .int x2), (3, .int x3)]) hx hb dX11_keeps_23 hl (by decide) rfl (fun ls hl => ?_)
      refine lv_iconst (v := 0) hx hb dX11_keeps_25 (by decide) ?_
      refine lv_istore (lv' := [(6, .int 0), (5, .int 0), (4, .int 0), (0, .ref (ad 0)), (1, .int x1), (2, .int x2), (3, .int x3)]) hx hb dX11_keeps_26 hl (by decide) rfl (fun ls hl => ?_)
      refine wX11_keeps_L28 F B hQ (fun x12 x13 x14 H locs ls w hl hf => ?_) n _ _ _ _ _ _ w (lv_sub hl [3, 4, 5, 6, 2, 1, 0] rfl) hf
      refine lv_iload hx hb dX11_keeps_85 (lv_at hl 4 rfl) ?_
      refine lv_iload_n hx hb dX11_keeps_87 rfl (lv_at hl 2 rfl) ?_
      refine lv_icmp_gt (tgt := 114) hx hb dX11_keeps_88 (by decide) (fun c15 => ?_) (fun c15 => ?_)
      · have hf := if_t hf c15
        refine lv_iinc (v := (x3 + 1)) (lv' := [(3, .int (x3 + 1)), (0, .ref (ad 0)), (1, .int x1), (2, .int x2), (4, .int x12), (5, .int x13), (6, .int x14)]) hx hb dX11_keeps_114 hl (k := 3) rfl rfl (by decide) rfl (fun ls hl => ?_)
        refine lv_goto (tgt := 12) hx hb dX11_keeps_117 (by decide) ?_
        exact ih _ _ _ _ _ w (lv_sub hl [1, 2, 3, 0] rfl) hf
      · have hf := if_f hf c15
        refine lv_iload hx hb dX11_keeps_91 (lv_at hl 5 rfl) ?_
        refine lv_aload_n hx hb dX11_keeps_93 rfl (lv_at hl 0 rfl) ?_
        refine kget (v := .int (S.1 28)) F B w inX11_keeps_11 0 gM_0 rfl 28 (by decide) (hts (.fieldLink RX11 251 "LandReformModel" "bestArea" "I") (by decide +kernel)) rfl rfl dX11_keeps_94 ?_
        refine lv_icmp_gt (tgt := 103) hx hb dX11_keeps_97 (by decide) (fun c16 => ?_) (fun c16 => ?_)
        · have hf := if_t hf c16
          refine lv_aload_n hx hb dX11_keeps_103 rfl (lv_at hl 0 rfl) ?_
          refine lv_iload_n hx hb dX11_keeps_104 rfl (lv_at hl 3 rfl) ?_
          refine kput (ty := .int) F B w inX11_keeps_11 tyX11 tyX11_ok nmX11 0 gM_0 rfl 27 (by decide) (hts (.fieldLink RX11 248 "LandReformModel" "bestSet" "I") (by decide +kernel)) rfl rfl (by decide +kernel) rfl rfl (Nat.le_of_ble_eq_true rfl) pM_27 dX11_keeps_105 (fun H locs w => ?_)
          obtain ⟨S17, eS17⟩ : ∃ z, z = sS S 27 x3 := ⟨_, rfl⟩
          rw [← eS17] at w
          have hf := lt_e hf eS17
          refine lv_aload_n hx hb dX11_keeps_108 rfl (lv_at hl 0 rfl) ?_
          refine lv_iload hx hb dX11_keeps_109 (lv_at hl 5 rfl) ?_
          refine kput (ty := .int) F B w inX11_keeps_11 tyX11 tyX11_ok nmX11 0 gM_0 rfl 28 (by decide) (hts (.fieldLink RX11 251 "LandReformModel" "bestArea" "I") (by decide +kernel)) rfl rfl (by decide +kernel) rfl rfl (Nat.le_of_ble_eq_true rfl) pM_28 dX11_keeps_111 (fun H locs w => ?_)
          obtain ⟨S18, eS18⟩ : ∃ z, z = sS S17 28 x13 := ⟨_, rfl⟩
          rw [← eS18] at w
          have hf := lt_e hf eS18
          refine lv_iinc (v := (x3 + 1)) (lv' := [(3, .int (x3 + 1)), (0, .ref (ad 0)), (1, .int x1), (2, .int x2), (4, .int x12), (5, .int x13), (6, .int x14)]) hx hb dX11_keeps_114 hl (k := 3) rfl rfl (by decide) rfl (fun ls hl => ?_)
          refine lv_goto (tgt := 12) hx hb dX11_keeps_117 (by decide) ?_
          exact ih _ _ _ _ _ w (lv_sub hl [1, 2, 3, 0] rfl) hf
        · have hf := if_f hf c16
          refine lv_goto (tgt := 114) hx hb dX11_keeps_100 (by decide) ?_
          refine lv_iinc (v := (x3 + 1)) (lv' := [(3, .int (x3 + 1)), (0, .ref (ad 0)), (1, .int x1), (2, .int x2), (4, .int x12), (5, .int x13), (6, .int x14)]) hx hb dX11_keeps_114 hl (k := 3) rfl rfl (by decide) rfl (fun ls hl => ?_)
          refine lv_goto (tgt := 12) hx hb dX11_keeps_117 (by decide) ?_
          exact ih _ _ _ _ _ w (lv_sub hl [1, 2, 3, 0] rfl) hf
set_option maxHeartbeats 4000000 in
set_option maxRecDepth 100000 in
theorem tX11_keeps {l : Launch} {D : va_G} {cc : Nat → ClassId} {ak av : Nat → Nat} {ad : Nat → Nat} {E : va_W} {n : Nat} {S : St} {x1 : Int32} {x2 : Int32} {S' : St} (hf : fX11_keeps n S x1 x2 = some S') : CV l yX11_keeps wsX11_keeps ({ frames := 1, cells := 0, slots := 0, locals := 21 } : Room) D cc ak av [.ref (ad 0), .int x1, .int x2] (WM cc ad S ++ E) (WM cc ad S' ++ E) := by
  refine mkV (c0 := cX11_keeps) (nL := 7) (own := RX11) rfl rfl (by decide) rfl rfl (Nat.le_of_ble_eq_true rfl) ?_
  intro p e s m args below meth c A Q ls F B hQ hl w
  have hx := F.1
  have hb := F.2.1
  have hown := F.2.2.2.1
  have hts := F.2.2.2.2
  have hl : lv_has ls 7 [(0, .ref (ad 0)), (1, .int x1), (2, .int x2)] := hl
  unfold fX11_keeps at hf
  refine lv_aload_n hx hb dX11_keeps_0 rfl (lv_at hl 0 rfl) ?_
  refine lv_iconst (v := 0) hx hb dX11_keeps_1 (by decide) ?_
  refine kput (ty := .int) F B w inX11_keeps_11 tyX11 tyX11_ok nmX11 0 gM_0 rfl 27 (by decide) (hts (.fieldLink RX11 248 "LandReformModel" "bestSet" "I") (by decide +kernel)) rfl rfl (by decide +kernel) rfl rfl (Nat.le_of_ble_eq_true rfl) pM_27 dX11_keeps_2 (fun H locs w => ?_)
  obtain ⟨S1, eS1⟩ : ∃ z, z = sS S 27 0 := ⟨_, rfl⟩
  rw [← eS1] at w
  have hf := lt_e hf eS1
  refine lv_aload_n hx hb dX11_keeps_5 rfl (lv_at hl 0 rfl) ?_
  refine lv_iconst (v := 0) hx hb dX11_keeps_6 (by decide) ?_
  refine kput (ty := .int) F B w inX11_keeps_11 tyX11 tyX11_ok nmX11 0 gM_0 rfl 28 (by decide) (hts (.fieldLink RX11 251 "LandReformModel" "bestArea" "I") (by decide +kernel)) rfl rfl (by decide +kernel) rfl rfl (Nat.le_of_ble_eq_true rfl) pM_28 dX11_keeps_7 (fun H locs w => ?_)
  obtain ⟨S2, eS2⟩ : ∃ z, z = sS S1 28 0 := ⟨_, rfl⟩
  rw [← eS2] at w
  have hf := lt_e hf eS2
  refine lv_iconst (v := 1) hx hb dX11_keeps_10 (by decide) ?_
  refine lv_istore_n (lv' := [(3, .int 1), (0, .ref (ad 0)), (1, .int x1), (2, .int x2)]) hx hb dX11_keeps_11 rfl hl (by decide) rfl (fun ls hl => ?_)
  refine wX11_keeps_L12 F B hQ (fun x19 S20 H locs ls w hl hf => ?_) n _ _ _ _ _ w (lv_sub hl [1, 2, 3, 0] rfl) hf
  cases hf
  exact hQ _ _ _ _ dX11_keeps_120 w

def fX11_kept (n : Nat) (S : St) (x1 : Int32) (x2 : Int32) : Option (Int32 × St) := ob (fX11_isHouse x1) fun r1 => if r1 = 0 then (some ((-1), S)) else (ob (fX11_counts n S x1) fun q5 => lt_ q5.1 fun r3 => lt_ q5.2 fun S4 => if 12 < r3 then (some ((-1), S4)) else (ob (fX11_isIn x2 (-1) (r3 - 1)) fun r7 => if r7 = 0 then (some ((-1), S4)) else (ob (fX11_mayHave n S4 x1) fun r9 => ob (fX11_keeps n S4 r3 r9) fun S11 => if x2 = (-1) then (some ((S11.1 28), S11)) else (some ((((S11.1 27) >>> (x2 &&& 31)) &&& 1), S11)))))
set_option maxRecDepth 20000 in
theorem inX11_kept_11 : ∀ w ∈ u_ws RX11 TX11 47, w ∈ wsX11_kept := by decide +kernel
set_option maxHeartbeats 4000000 in
set_option maxRecDepth 100000 in
theorem tX11_kept {l : Launch} {D : va_G} {cc : Nat → ClassId} {ak av : Nat → Nat} {ad : Nat → Nat} {E : va_W} {n : Nat} {S : St} {x1 : Int32} {x2 : Int32} {r : Int32} {S' : St} (hf : fX11_kept n S x1 x2 = some (r, S')) : CI l yX11_kept wsX11_kept ({ frames := 3, cells := 0, slots := 0, locals := 71 } : Room) D cc ak av [.ref (ad 0), .int x1, .int x2] (WM cc ad S ++ E) (WM cc ad S' ++ E) r := by
  refine mkI (c0 := cX11_kept) (nL := 4) (own := RX11) rfl rfl (by decide) rfl rfl (Nat.le_of_ble_eq_true rfl) ?_
  intro p e s m args below meth c A Q ls F B hQ hl w
  have hx := F.1
  have hb := F.2.1
  have hown := F.2.2.2.1
  have hts := F.2.2.2.2
  have hl : lv_has ls 4 [(0, .ref (ad 0)), (1, .int x1), (2, .int x2)] := hl
  unfold fX11_kept at hf
  refine lv_iload_n hx hb dX11_kept_0 rfl (lv_at hl 1 rfl) ?_
  obtain ⟨r1, er1, hf⟩ := ob_e hf
  refine kSi (As := [.int x1]) (rest := []) F B w (tX11_isHouse er1) (va_cwS 1 hts gX11_kept_X11_isHouse rfl rfl rfl (by decide +kernel) ⟨Nat.le_of_ble_eq_true rfl, Nat.le_of_ble_eq_true rfl⟩) rfl hl.1 rfl (Nat.le_of_ble_eq_true rfl) dX11_kept_1 ⟨Nat.le_of_ble_eq_true rfl, Nat.le_of_ble_eq_true rfl⟩ (fun H locs w => ?_)
  refine lv_if_ne (tgt := 9) hx hb dX11_kept_4 (by decide) (fun c2 => ?_) (fun c2 => ?_)
  · have hf := if_f hf c2
    refine lv_aload_n hx hb dX11_kept_9 rfl (lv_at hl 0 rfl) ?_
    refine lv_iload_n hx hb dX11_kept_10 rfl (lv_at hl 1 rfl) ?_
    obtain ⟨⟨r3, S4⟩, er3, hf⟩ := ob_e hf
    have hf := lt_e hf (v := r3) rfl
    have hf := lt_e hf (v := S4) rfl
    refine kVi (As := [.int x1]) (rest := []) F B w (tX11_counts er3) (cwV 1 hts gX11_kept_X11_counts rfl rfl rfl (by decide +kernel) ⟨Nat.le_of_ble_eq_true rfl, Nat.le_of_ble_eq_true rfl⟩) 0 gM_0 rfl rfl hl.1 rfl (Nat.le_of_ble_eq_true rfl) dX11_kept_11 ⟨Nat.le_of_ble_eq_true rfl, Nat.le_of_ble_eq_true rfl⟩ (fun H locs w => ?_)
    refine lv_istore_n (lv' := [(3, .int r3), (0, .ref (ad 0)), (1, .int x1), (2, .int x2)]) hx hb dX11_kept_14 rfl hl (by decide) rfl (fun ls hl => ?_)
    refine lv_iload_n hx hb dX11_kept_15 rfl (lv_at hl 0 rfl) ?_
    refine lv_bipush (v := 12) hx hb dX11_kept_16 (by decide) ?_
    refine lv_icmp_gt (tgt := 32) hx hb dX11_kept_18 (by decide) (fun c6 => ?_) (fun c6 => ?_)
    · have hf := if_t hf c6
      refine lv_iconst (v := (-1)) hx hb dX11_kept_32 (by decide) ?_
      cases hf
      exact hQ _ _ _ _ dX11_kept_33 w
    · have hf := if_f hf c6
      refine lv_iload_n hx hb dX11_kept_21 rfl (lv_at hl 3 rfl) ?_
      refine lv_iconst (v := (-1)) hx hb dX11_kept_22 (by decide) ?_
      refine lv_iload_n hx hb dX11_kept_23 rfl (lv_at hl 0 rfl) ?_
      refine lv_iconst (v := 1) hx hb dX11_kept_24 (by decide) ?_
      refine lv_isub hx hb dX11_kept_25 ?_
      obtain ⟨r7, er7, hf⟩ := ob_e hf
      refine kSi (As := [.int x2, .int (-1), .int (r3 - 1)]) (rest := []) F B w (tX11_isIn er7) (va_cwS 3 hts gX11_kept_X11_isIn rfl rfl rfl (by decide +kernel) ⟨Nat.le_of_ble_eq_true rfl, Nat.le_of_ble_eq_true rfl⟩) rfl hl.1 rfl (Nat.le_of_ble_eq_true rfl) dX11_kept_26 ⟨Nat.le_of_ble_eq_true rfl, Nat.le_of_ble_eq_true rfl⟩ (fun H locs w => ?_)
      refine lv_if_ne (tgt := 34) hx hb dX11_kept_29 (by decide) (fun c8 => ?_) (fun c8 => ?_)
      · have hf := if_f hf c8
        refine lv_aload_n hx hb dX11_kept_34 rfl (lv_at hl 1 rfl) ?_
        refine lv_iload_n hx hb dX11_kept_35 rfl (lv_at hl 0 rfl) ?_
        refine lv_aload_n hx hb dX11_kept_36 rfl (lv_at hl 1 rfl) ?_
        refine lv_iload_n hx hb dX11_kept_37 rfl (lv_at hl 2 rfl) ?_
        obtain ⟨r9, er9, hf⟩ := ob_e hf
        refine kVi (As := [.int x1]) (rest := [.int r3, .ref (ad 0)]) F B w (tX11_mayHave er9) (cwV 1 hts gX11_kept_X11_mayHave rfl rfl rfl (by decide +kernel) ⟨Nat.le_of_ble_eq_true rfl, Nat.le_of_ble_eq_true rfl⟩) 0 gM_0 rfl rfl hl.1 rfl (Nat.le_of_ble_eq_true rfl) dX11_kept_38 ⟨Nat.le_of_ble_eq_true rfl, Nat.le_of_ble_eq_true rfl⟩ (fun H locs w => ?_)
        obtain ⟨S11, er10, hf⟩ := ob_e hf
        refine kVv (As := [.int r3, .int r9]) (rest := []) F B w (tX11_keeps er10) (cwV 2 hts gX11_kept_X11_keeps rfl rfl rfl (by decide +kernel) ⟨Nat.le_of_ble_eq_true rfl, Nat.le_of_ble_eq_true rfl⟩) 0 gM_0 rfl rfl hl.1 rfl (Nat.le_of_ble_eq_true rfl) dX11_kept_41 ⟨Nat.le_of_ble_eq_true rfl, Nat.le_of_ble_eq_true rfl⟩ (fun H locs w => ?_)
        refine lv_iload_n hx hb dX11_kept_44 rfl (lv_at hl 3 rfl) ?_
        refine lv_iconst (v := (-1)) hx hb dX11_kept_45 (by decide) ?_
        refine lv_icmp_ne (tgt := 56) hx hb dX11_kept_46 (by decide) (fun c12 => ?_) (fun c12 => ?_)
        · have hf := if_f hf c12
          refine lv_aload_n hx hb dX11_kept_56 rfl (lv_at hl 1 rfl) ?_
          refine kget (v := .int (S11.1 27)) F B w inX11_kept_11 0 gM_0 rfl 27 (by decide) (hts (.fieldLink RX11 248 "LandReformModel" "bestSet" "I") (by decide +kernel)) rfl rfl dX11_kept_57 ?_
          refine lv_iload_n hx hb dX11_kept_60 rfl (lv_at hl 3 rfl) ?_
          refine lv_ishr hx hb dX11_kept_61 ?_
          refine lv_iconst (v := 1) hx hb dX11_kept_62 (by decide) ?_
          refine lv_iand hx hb dX11_kept_63 ?_
          cases hf
          exact hQ _ _ _ _ dX11_kept_64 w
        · have hf := if_t hf c12
          refine lv_aload_n hx hb dX11_kept_49 rfl (lv_at hl 1 rfl) ?_
          refine kget (v := .int (S11.1 28)) F B w inX11_kept_11 0 gM_0 rfl 28 (by decide) (hts (.fieldLink RX11 251 "LandReformModel" "bestArea" "I") (by decide +kernel)) rfl rfl dX11_kept_50 ?_
          refine lv_goto (tgt := 64) hx hb dX11_kept_53 (by decide) ?_
          cases hf
          exact hQ _ _ _ _ dX11_kept_64 w
      · have hf := if_t hf c8
        refine lv_iconst (v := (-1)) hx hb dX11_kept_32 (by decide) ?_
        cases hf
        exact hQ _ _ _ _ dX11_kept_33 w
  · have hf := if_t hf c2
    refine lv_iconst (v := (-1)) hx hb dX11_kept_7 (by decide) ?_
    cases hf
    exact hQ _ _ _ _ dX11_kept_8 w

def fX11_taken_L56 (n : Nat) (x3 : Int32) (S : St) (k : Int32 → Int32 → Option (Int32 × St)) : Nat → Int32 → Int32 → Option (Int32 × St)
  | 0, _, _ => none
  | fu + 1, x4, x5 => if x3 ≤ x5 then (k x4 x5) else (if (((S.1 27) >>> (x5 &&& 31)) &&& 1) = 1 then (fX11_taken_L56 n x3 S k fu x4 (x5 + 1)) else (if x4 = 0 then (if x5 < 0 ∨ 60 ≤ Int32.toNatClampNeg x5 then none else some ((S.2.1 26 (Int32.toNatClampNeg x5)), S)) else (fX11_taken_L56 n x3 S k fu (x4 + (-1)) (x5 + 1))))
def fX11_taken (n : Nat) (S : St) (x1 : Int32) (x2 : Int32) : Option (Int32 × St) := ob (fX11_isHouse x1) fun r1 => if r1 = 0 then (some ((-1), S)) else (if x2 < 0 then (some ((-1), S)) else (ob (fX11_holding n S x1) fun q6 => lt_ q6.1 fun r4 => lt_ q6.2 fun S5 => ob (fX11_mayHave n S5 x1) fun r7 => if r7 < r4 then (ob (fX11_counts n S5 x1) fun q11 => lt_ q11.1 fun r9 => lt_ q11.2 fun S10 => if r9 ≤ 12 then (ob (fX11_mayHave n S10 x1) fun r13 => ob (fX11_keeps n S10 r9 r13) fun S15 => fX11_taken_L56 n r9 S15 (fun x20 x21 => some ((-1), S15)) n x2 0) else (some ((-1), S10))) else (some ((-1), S5))))
set_option maxRecDepth 20000 in
theorem inX11_taken_11 : ∀ w ∈ u_ws RX11 TX11 47, w ∈ wsX11_taken := by decide +kernel
set_option maxHeartbeats 4000000 in
set_option maxRecDepth 100000 in
theorem wX11_taken_L56 {p : Program} {l : Launch} {e : Env} {s : State} {m : MethodId} {args : Array Value} {below : List Frame} {meth : Method} {c : Code} {Q : State → Prop} {D : va_G} {cc : Nat → ClassId} {ak av : Nat → Nat} {A : Nat → Prop} {ad : Nat → Nat} {E : va_W} {n : Nat} {x3 : Int32} {S : St} {r : Int32} {S' : St} {k : Int32 → Int32 → Option (Int32 × St)} (F : CallFix p m c cX11_taken 6 s args wsX11_taken RX11) (B : Bd D cc ak av A s) (hQ : RetI p l e ({ frames := 4, cells := 0, slots := 0, locals := 95 } : Room) s m args below meth c D A Q cX11_taken (WM cc ad S' ++ E) r)
    (hk : ∀ (x4 : Int32) (x5 : Int32) (H : Heap) (locs : List Loc) (ls : Array Slot), Wd D A s.heap H locs (WM cc ad S ++ E) → lv_has ls 6 [(0, .ref (ad 0)), (3, .int x3), (4, .int x4), (5, .int x5)] → k x4 x5 = some (r, S') → W p l e ({ frames := 4, cells := 0, slots := 0, locals := 95 } : Room) s m args below meth c H locs 0 0 Q (F0 m 100 ls [])) :
    ∀ (fu : Nat) (x4 : Int32) (x5 : Int32) (H : Heap) (locs : List Loc) (ls : Array Slot), Wd D A s.heap H locs (WM cc ad S ++ E) → lv_has ls 6 [(0, .ref (ad 0)), (3, .int x3), (4, .int x4), (5, .int x5)] → fX11_taken_L56 n x3 S k fu x4 x5 = some (r, S') → W p l e ({ frames := 4, cells := 0, slots := 0, locals := 95 } : Room) s m args below meth c H locs 0 0 Q (F0 m 56 ls []) := by
  have hx := F.1
  have hb := F.2.1
  have hown := F.2.2.2.1
  have hts := F.2.2.2.2
  intro fu
  induction fu with
  | zero => intro x4 x5 H locs ls w hl hf; rw [fX11_taken_L56] at hf; cases hf
  | succ fu ih =>
    intro x4 x5 H locs ls w hl hf
    rw [fX11_taken_L56] at hf
    refine lv_iload hx hb dX11_taken_56 (lv_at hl 3 rfl) ?_
    refine lv_iload_n hx hb dX11_taken_58 rfl (lv_at hl 1 rfl) ?_
    refine lv_icmp_ge (tgt := 100) hx hb dX11_taken_59 (by decide) (fun c16 => ?_) (fun c16 => ?_)
    · have hf := if_t hf c16
      exact hk _ _ _ _ _ w (lv_sub hl [0, 1, 2, 3] rfl) hf
    · have hf := if_f hf c16
      refine lv_aload_n hx hb dX11_taken_62 rfl (lv_at hl 0 rfl) ?_
      refine kget (v := .int (S.1 27)) F B w inX11_taken_11 0 gM_0 rfl 27 (by decide) (hts (.fieldLink RX11 248 "LandReformModel" "bestSet" "I") (by decide +kernel)) rfl rfl dX11_taken_63 ?_
      refine lv_iload hx hb dX11_taken_66 (lv_at hl 3 rfl) ?_
      refine lv_ishr hx hb dX11_taken_68 ?_
      refine lv_iconst (v := 1) hx hb dX11_taken_69 (by decide) ?_
      refine lv_iand hx hb dX11_taken_70 ?_
      refine lv_iconst (v := 1) hx hb dX11_taken_71 (by decide) ?_
      refine lv_icmp_ne (tgt := 78) hx hb dX11_taken_72 (by decide) (fun c17 => ?_) (fun c17 => ?_)
      · have hf := if_f hf c17
        refine lv_iload hx hb dX11_taken_78 (lv_at hl 2 rfl) ?_
        refine lv_if_ne (tgt := 91) hx hb dX11_taken_80 (by decide) (fun c18 => ?_) (fun c18 => ?_)
        · have hf := if_f hf c18
          refine lv_iinc (v := (x4 + (-1))) (lv' := [(4, .int (x4 + (-1))), (0, .ref (ad 0)), (3, .int x3), (5, .int x5)]) hx hb dX11_taken_91 hl (k := 2) rfl rfl (by decide) rfl (fun ls hl => ?_)
          refine lv_iinc (v := (x5 + 1)) (lv' := [(5, .int (x5 + 1)), (4, .int (x4 + (-1))), (0, .ref (ad 0)), (3, .int x3)]) hx hb dX11_taken_94 hl (k := 3) rfl rfl (by decide) rfl (fun ls hl => ?_)
          refine lv_goto (tgt := 56) hx hb dX11_taken_97 (by decide) ?_
          exact ih _ _ _ _ _ w (lv_sub hl [2, 3, 1, 0] rfl) hf
        · have hf := if_t hf c18
          refine lv_aload_n hx hb dX11_taken_83 rfl (lv_at hl 0 rfl) ?_
          refine kget (v := .ref (ad 15)) F B w inX11_taken_11 0 gM_0 rfl 26 (by decide) (hts (.fieldLink RX11 58 "LandReformModel" "row" "[I") (by decide +kernel)) rfl rfl dX11_taken_84 ?_
          refine lv_iload hx hb dX11_taken_87 (lv_at hl 3 rfl) ?_
          obtain ⟨g19, hf⟩ := if_g hf
          refine kiald F B w 15 gM_15 g19 dX11_taken_89 ?_
          cases hf
          exact hQ _ _ _ _ dX11_taken_90 w
      · have hf := if_t hf c17
        refine lv_goto (tgt := 94) hx hb dX11_taken_75 (by decide) ?_
        refine lv_iinc (v := (x5 + 1)) (lv' := [(5, .int (x5 + 1)), (0, .ref (ad 0)), (3, .int x3), (4, .int x4)]) hx hb dX11_taken_94 hl (k := 3) rfl rfl (by decide) rfl (fun ls hl => ?_)
        refine lv_goto (tgt := 56) hx hb dX11_taken_97 (by decide) ?_
        exact ih _ _ _ _ _ w (lv_sub hl [1, 2, 3, 0] rfl) hf
set_option maxHeartbeats 4000000 in
set_option maxRecDepth 100000 in
theorem tX11_taken {l : Launch} {D : va_G} {cc : Nat → ClassId} {ak av : Nat → Nat} {ad : Nat → Nat} {E : va_W} {n : Nat} {S : St} {x1 : Int32} {x2 : Int32} {r : Int32} {S' : St} (hf : fX11_taken n S x1 x2 = some (r, S')) : CI l yX11_taken wsX11_taken ({ frames := 4, cells := 0, slots := 0, locals := 95 } : Room) D cc ak av [.ref (ad 0), .int x1, .int x2] (WM cc ad S ++ E) (WM cc ad S' ++ E) r := by
  refine mkI (c0 := cX11_taken) (nL := 6) (own := RX11) rfl rfl (by decide) rfl rfl (Nat.le_of_ble_eq_true rfl) ?_
  intro p e s m args below meth c A Q ls F B hQ hl w
  have hx := F.1
  have hb := F.2.1
  have hown := F.2.2.2.1
  have hts := F.2.2.2.2
  have hl : lv_has ls 6 [(0, .ref (ad 0)), (1, .int x1), (2, .int x2)] := hl
  unfold fX11_taken at hf
  refine lv_iload_n hx hb dX11_taken_0 rfl (lv_at hl 1 rfl) ?_
  obtain ⟨r1, er1, hf⟩ := ob_e hf
  refine kSi (As := [.int x1]) (rest := []) F B w (tX11_isHouse er1) (va_cwS 1 hts gX11_taken_X11_isHouse rfl rfl rfl (by decide +kernel) ⟨Nat.le_of_ble_eq_true rfl, Nat.le_of_ble_eq_true rfl⟩) rfl hl.1 rfl (Nat.le_of_ble_eq_true rfl) dX11_taken_1 ⟨Nat.le_of_ble_eq_true rfl, Nat.le_of_ble_eq_true rfl⟩ (fun H locs w => ?_)
  refine lv_if_eq (tgt := 24) hx hb dX11_taken_4 (by decide) (fun c2 => ?_) (fun c2 => ?_)
  · have hf := if_t hf c2
    refine lv_iconst (v := (-1)) hx hb dX11_taken_24 (by decide) ?_
    cases hf
    exact hQ _ _ _ _ dX11_taken_25 w
  · have hf := if_f hf c2
    refine lv_iload_n hx hb dX11_taken_7 rfl (lv_at hl 2 rfl) ?_
    refine lv_if_lt (tgt := 24) hx hb dX11_taken_8 (by decide) (fun c3 => ?_) (fun c3 => ?_)
    · have hf := if_t hf c3
      refine lv_iconst (v := (-1)) hx hb dX11_taken_24 (by decide) ?_
      cases hf
      exact hQ _ _ _ _ dX11_taken_25 w
    · have hf := if_f hf c3
      refine lv_aload_n hx hb dX11_taken_11 rfl (lv_at hl 0 rfl) ?_
      refine lv_iload_n hx hb dX11_taken_12 rfl (lv_at hl 1 rfl) ?_
      obtain ⟨⟨r4, S5⟩, er4, hf⟩ := ob_e hf
      have hf := lt_e hf (v := r4) rfl
      have hf := lt_e hf (v := S5) rfl
      refine kVi (As := [.int x1]) (rest := []) F B w (tX11_holding er4) (cwV 1 hts gX11_taken_X11_holding rfl rfl rfl (by decide +kernel) ⟨Nat.le_of_ble_eq_true rfl, Nat.le_of_ble_eq_true rfl⟩) 0 gM_0 rfl rfl hl.1 rfl (Nat.le_of_ble_eq_true rfl) dX11_taken_13 ⟨Nat.le_of_ble_eq_true rfl, Nat.le_of_ble_eq_true rfl⟩ (fun H locs w => ?_)
      refine lv_aload_n hx hb dX11_taken_16 rfl (lv_at hl 0 rfl) ?_
      refine lv_iload_n hx hb dX11_taken_17 rfl (lv_at hl 1 rfl) ?_
      obtain ⟨r7, er7, hf⟩ := ob_e hf
      refine kVi (As := [.int x1]) (rest := [.int r4]) F B w (tX11_mayHave er7) (cwV 1 hts gX11_taken_X11_mayHave rfl rfl rfl (by decide +kernel) ⟨Nat.le_of_ble_eq_true rfl, Nat.le_of_ble_eq_true rfl⟩) 0 gM_0 rfl rfl hl.1 rfl (Nat.le_of_ble_eq_true rfl) dX11_taken_18 ⟨Nat.le_of_ble_eq_true rfl, Nat.le_of_ble_eq_true rfl⟩ (fun H locs w => ?_)
      refine lv_icmp_gt (tgt := 26) hx hb dX11_taken_21 (by decide) (fun c8 => ?_) (fun c8 => ?_)
      · have hf := if_t hf c8
        refine lv_aload_n hx hb dX11_taken_26 rfl (lv_at hl 0 rfl) ?_
        refine lv_iload_n hx hb dX11_taken_27 rfl (lv_at hl 1 rfl) ?_
        obtain ⟨⟨r9, S10⟩, er9, hf⟩ := ob_e hf
        have hf := lt_e hf (v := r9) rfl
        have hf := lt_e hf (v := S10) rfl
        refine kVi (As := [.int x1]) (rest := []) F B w (tX11_counts er9) (cwV 1 hts gX11_taken_X11_counts rfl rfl rfl (by decide +kernel) ⟨Nat.le_of_ble_eq_true rfl, Nat.le_of_ble_eq_true rfl⟩) 0 gM_0 rfl rfl hl.1 rfl (Nat.le_of_ble_eq_true rfl) dX11_taken_28 ⟨Nat.le_of_ble_eq_true rfl, Nat.le_of_ble_eq_true rfl⟩ (fun H locs w => ?_)
        refine lv_istore_n (lv' := [(3, .int r9), (0, .ref (ad 0)), (1, .int x1), (2, .int x2)]) hx hb dX11_taken_31 rfl hl (by decide) rfl (fun ls hl => ?_)
        refine lv_iload_n hx hb dX11_taken_32 rfl (lv_at hl 0 rfl) ?_
        refine lv_bipush (v := 12) hx hb dX11_taken_33 (by decide) ?_
        refine lv_icmp_le (tgt := 40) hx hb dX11_taken_35 (by decide) (fun c12 => ?_) (fun c12 => ?_)
        · have hf := if_t hf c12
          refine lv_aload_n hx hb dX11_taken_40 rfl (lv_at hl 1 rfl) ?_
          refine lv_iload_n hx hb dX11_taken_41 rfl (lv_at hl 0 rfl) ?_
          refine lv_aload_n hx hb dX11_taken_42 rfl (lv_at hl 1 rfl) ?_
          refine lv_iload_n hx hb dX11_taken_43 rfl (lv_at hl 2 rfl) ?_
          obtain ⟨r13, er13, hf⟩ := ob_e hf
          refine kVi (As := [.int x1]) (rest := [.int r9, .ref (ad 0)]) F B w (tX11_mayHave er13) (cwV 1 hts gX11_taken_X11_mayHave rfl rfl rfl (by decide +kernel) ⟨Nat.le_of_ble_eq_true rfl, Nat.le_of_ble_eq_true rfl⟩) 0 gM_0 rfl rfl hl.1 rfl (Nat.le_of_ble_eq_true rfl) dX11_taken_44 ⟨Nat.le_of_ble_eq_true rfl, Nat.le_of_ble_eq_true rfl⟩ (fun H locs w => ?_)
          obtain ⟨S15, er14, hf⟩ := ob_e hf
          refine kVv (As := [.int r9, .int r13]) (rest := []) F B w (tX11_keeps er14) (cwV 2 hts gX11_taken_X11_keeps rfl rfl rfl (by decide +kernel) ⟨Nat.le_of_ble_eq_true rfl, Nat.le_of_ble_eq_true rfl⟩) 0 gM_0 rfl rfl hl.1 rfl (Nat.le_of_ble_eq_true rfl) dX11_taken_47 ⟨Nat.le_of_ble_eq_true rfl, Nat.le_of_ble_eq_true rfl⟩ (fun H locs w => ?_)
          refine lv_iload_n hx hb dX11_taken_50 rfl (lv_at hl 3 rfl) ?_
          refine lv_istore (lv' := [(4, .int x2), (3, .int r9), (0, .ref (ad 0)), (1, .int x1), (2, .int x2)]) hx hb dX11_taken_51 hl (by decide) rfl (fun ls hl => ?_)
          refine lv_iconst (v := 0) hx hb dX11_taken_53 (by decide) ?_
          refine lv_istore (lv' := [(5, .int 0), (4, .int x2), (3, .int r9), (0, .ref (ad 0)), (1, .int x1), (2, .int x2)]) hx hb dX11_taken_54 hl (by decide) rfl (fun ls hl => ?_)
          refine wX11_taken_L56 F B hQ (fun x20 x21 H locs ls w hl hf => ?_) n _ _ _ _ _ w (lv_sub hl [3, 2, 1, 0] rfl) hf
          refine lv_iconst (v := (-1)) hx hb dX11_taken_100 (by decide) ?_
          cases hf
          exact hQ _ _ _ _ dX11_taken_101 w
        · have hf := if_f hf c12
          refine lv_iconst (v := (-1)) hx hb dX11_taken_38 (by decide) ?_
          cases hf
          exact hQ _ _ _ _ dX11_taken_39 w
      · have hf := if_f hf c8
        refine lv_iconst (v := (-1)) hx hb dX11_taken_24 (by decide) ?_
        cases hf
        exact hQ _ _ _ _ dX11_taken_25 w

def fX11_share_L31 (n : Nat) (x1 : Int32) (x2 : Int32) (x3 : Int32) (S : St) (k : Int32 → Option (Int32 × St)) : Nat → Int32 → Option (Int32 × St)
  | 0, _ => none
  | fu + 1, x4 => if (S.1 29) ≤ x4 then (k x4) else (if x4 < 0 ∨ 60 ≤ Int32.toNatClampNeg x4 then none else if (S.2.1 30 (Int32.toNatClampNeg x4)) = x1 then (if x4 < 0 ∨ 60 ≤ Int32.toNatClampNeg x4 then none else if (S.2.1 31 (Int32.toNatClampNeg x4)) = x2 then (k x4) else (fX11_share_L31 n x1 x2 x3 S k fu (x4 + 1))) else (fX11_share_L31 n x1 x2 x3 S k fu (x4 + 1)))
def fX11_share (n : Nat) (S : St) (x1 : Int32) (x2 : Int32) (x3 : Int32) : Option (Int32 × St) := ob (fX11_isField S x1) fun r1 => if r1 = 0 then (some ((-1), S)) else (ob (fX11_isPerson S x2) fun r3 => if r3 = 0 then (some ((-1), S)) else (ob (fX11_isIn x3 0 29) fun r5 => if r5 = 0 then (some ((-1), S)) else (fX11_share_L31 n x1 x2 x3 S (fun x12 => if x12 = 60 then (some ((-1), S)) else (if x12 = (S.1 29) then (if x12 < 0 ∨ 60 ≤ Int32.toNatClampNeg x12 then none else lt_ (sA S 30 (Int32.toNatClampNeg x12) x1) fun S21 => if x12 < 0 ∨ 60 ≤ Int32.toNatClampNeg x12 then none else lt_ (sA S21 31 (Int32.toNatClampNeg x12) x2) fun S23 => lt_ (sS S23 29 ((S23.1 29) + 1)) fun S24 => if x12 < 0 ∨ 60 ≤ Int32.toNatClampNeg x12 then none else if x12 < 0 ∨ 60 ≤ Int32.toNatClampNeg x12 then none else lt_ (sA S24 32 (Int32.toNatClampNeg x12) ((S24.2.1 32 (Int32.toNatClampNeg x12)) ||| ((1 : Int32) <<< (x3 &&& 31)))) fun S27 => if x12 < 0 ∨ 60 ≤ Int32.toNatClampNeg x12 then none else ob (fX11_bits n (S27.2.1 32 (Int32.toNatClampNeg x12))) fun r29 => some (r29, S27)) else (if x12 < 0 ∨ 60 ≤ Int32.toNatClampNeg x12 then none else if x12 < 0 ∨ 60 ≤ Int32.toNatClampNeg x12 then none else lt_ (sA S 32 (Int32.toNatClampNeg x12) ((S.2.1 32 (Int32.toNatClampNeg x12)) ||| ((1 : Int32) <<< (x3 &&& 31)))) fun S17 => if x12 < 0 ∨ 60 ≤ Int32.toNatClampNeg x12 then none else ob (fX11_bits n (S17.2.1 32 (Int32.toNatClampNeg x12))) fun r19 => some (r19, S17)))) n 0)))
set_option maxRecDepth 20000 in
theorem inX11_share_11 : ∀ w ∈ u_ws RX11 TX11 47, w ∈ wsX11_share := by decide +kernel
set_option maxHeartbeats 4000000 in
set_option maxRecDepth 100000 in
theorem wX11_share_L31 {p : Program} {l : Launch} {e : Env} {s : State} {m : MethodId} {args : Array Value} {below : List Frame} {meth : Method} {c : Code} {Q : State → Prop} {D : va_G} {cc : Nat → ClassId} {ak av : Nat → Nat} {A : Nat → Prop} {ad : Nat → Nat} {E : va_W} {n : Nat} {x1 : Int32} {x2 : Int32} {x3 : Int32} {S : St} {r : Int32} {S' : St} {k : Int32 → Option (Int32 × St)} (F : CallFix p m c cX11_share 5 s args wsX11_share RX11) (B : Bd D cc ak av A s) (hQ : RetI p l e ({ frames := 2, cells := 0, slots := 0, locals := 43 } : Room) s m args below meth c D A Q cX11_share (WM cc ad S' ++ E) r)
    (hk : ∀ (x4 : Int32) (H : Heap) (locs : List Loc) (ls : Array Slot), Wd D A s.heap H locs (WM cc ad S ++ E) → lv_has ls 5 [(0, .ref (ad 0)), (1, .int x1), (2, .int x2), (3, .int x3), (4, .int x4)] → k x4 = some (r, S') → W p l e ({ frames := 2, cells := 0, slots := 0, locals := 43 } : Room) s m args below meth c H locs 0 0 Q (F0 m 68 ls [])) :
    ∀ (fu : Nat) (x4 : Int32) (H : Heap) (locs : List Loc) (ls : Array Slot), Wd D A s.heap H locs (WM cc ad S ++ E) → lv_has ls 5 [(0, .ref (ad 0)), (1, .int x1), (2, .int x2), (3, .int x3), (4, .int x4)] → fX11_share_L31 n x1 x2 x3 S k fu x4 = some (r, S') → W p l e ({ frames := 2, cells := 0, slots := 0, locals := 43 } : Room) s m args below meth c H locs 0 0 Q (F0 m 31 ls []) := by
  have hx := F.1
  have hb := F.2.1
  have hown := F.2.2.2.1
  have hts := F.2.2.2.2
  intro fu
  induction fu with
  | zero => intro x4 H locs ls w hl hf; rw [fX11_share_L31] at hf; cases hf
  | succ fu ih =>
    intro x4 H locs ls w hl hf
    rw [fX11_share_L31] at hf
    refine lv_iload hx hb dX11_share_31 (lv_at hl 4 rfl) ?_
    refine lv_aload_n hx hb dX11_share_33 rfl (lv_at hl 0 rfl) ?_
    refine kget (v := .int (S.1 29)) F B w inX11_share_11 0 gM_0 rfl 29 (by decide) (hts (.fieldLink RX11 257 "LandReformModel" "pairs" "I") (by decide +kernel)) rfl rfl dX11_share_34 ?_
    refine lv_icmp_ge (tgt := 68) hx hb dX11_share_37 (by decide) (fun c7 => ?_) (fun c7 => ?_)
    · have hf := if_t hf c7
      exact hk _ _ _ _ w (lv_sub hl [0, 1, 2, 3, 4] rfl) hf
    · have hf := if_f hf c7
      refine lv_aload_n hx hb dX11_share_40 rfl (lv_at hl 0 rfl) ?_
      refine kget (v := .ref (ad 16)) F B w inX11_share_11 0 gM_0 rfl 30 (by decide) (hts (.fieldLink RX11 61 "LandReformModel" "pairField" "[I") (by decide +kernel)) rfl rfl dX11_share_41 ?_
      refine lv_iload hx hb dX11_share_44 (lv_at hl 4 rfl) ?_
      obtain ⟨g8, hf⟩ := if_g hf
      refine kiald F B w 16 gM_16 g8 dX11_share_46 ?_
      refine lv_iload_n hx hb dX11_share_47 rfl (lv_at hl 1 rfl) ?_
      refine lv_icmp_ne (tgt := 62) hx hb dX11_share_48 (by decide) (fun c9 => ?_) (fun c9 => ?_)
      · have hf := if_f hf c9
        refine lv_iinc (v := (x4 + 1)) (lv' := [(4, .int (x4 + 1)), (0, .ref (ad 0)), (1, .int x1), (2, .int x2), (3, .int x3)]) hx hb dX11_share_62 hl (k := 4) rfl rfl (by decide) rfl (fun ls hl => ?_)
        refine lv_goto (tgt := 31) hx hb dX11_share_65 (by decide) ?_
        exact ih _ _ _ _ w (lv_sub hl [1, 2, 3, 4, 0] rfl) hf
      · have hf := if_t hf c9
        refine lv_aload_n hx hb dX11_share_51 rfl (lv_at hl 0 rfl) ?_
        refine kget (v := .ref (ad 17)) F B w inX11_share_11 0 gM_0 rfl 31 (by decide) (hts (.fieldLink RX11 64 "LandReformModel" "pairPerson" "[I") (by decide +kernel)) rfl rfl dX11_share_52 ?_
        refine lv_iload hx hb dX11_share_55 (lv_at hl 4 rfl) ?_
        obtain ⟨g10, hf⟩ := if_g hf
        refine kiald F B w 17 gM_17 g10 dX11_share_57 ?_
        refine lv_iload_n hx hb dX11_share_58 rfl (lv_at hl 2 rfl) ?_
        refine lv_icmp_eq (tgt := 68) hx hb dX11_share_59 (by decide) (fun c11 => ?_) (fun c11 => ?_)
        · have hf := if_t hf c11
          exact hk _ _ _ _ w (lv_sub hl [0, 1, 2, 3, 4] rfl) hf
        · have hf := if_f hf c11
          refine lv_iinc (v := (x4 + 1)) (lv' := [(4, .int (x4 + 1)), (0, .ref (ad 0)), (1, .int x1), (2, .int x2), (3, .int x3)]) hx hb dX11_share_62 hl (k := 4) rfl rfl (by decide) rfl (fun ls hl => ?_)
          refine lv_goto (tgt := 31) hx hb dX11_share_65 (by decide) ?_
          exact ih _ _ _ _ w (lv_sub hl [1, 2, 3, 4, 0] rfl) hf
set_option maxHeartbeats 4000000 in
set_option maxRecDepth 100000 in
theorem tX11_share {l : Launch} {D : va_G} {cc : Nat → ClassId} {ak av : Nat → Nat} {ad : Nat → Nat} {E : va_W} {n : Nat} {S : St} {x1 : Int32} {x2 : Int32} {x3 : Int32} {r : Int32} {S' : St} (hf : fX11_share n S x1 x2 x3 = some (r, S')) : CI l yX11_share wsX11_share ({ frames := 2, cells := 0, slots := 0, locals := 43 } : Room) D cc ak av [.ref (ad 0), .int x1, .int x2, .int x3] (WM cc ad S ++ E) (WM cc ad S' ++ E) r := by
  refine mkI (c0 := cX11_share) (nL := 5) (own := RX11) rfl rfl (by decide) rfl rfl (Nat.le_of_ble_eq_true rfl) ?_
  intro p e s m args below meth c A Q ls F B hQ hl w
  have hx := F.1
  have hb := F.2.1
  have hown := F.2.2.2.1
  have hts := F.2.2.2.2
  have hl : lv_has ls 5 [(0, .ref (ad 0)), (1, .int x1), (2, .int x2), (3, .int x3)] := hl
  unfold fX11_share at hf
  refine lv_aload_n hx hb dX11_share_0 rfl (lv_at hl 0 rfl) ?_
  refine lv_iload_n hx hb dX11_share_1 rfl (lv_at hl 1 rfl) ?_
  obtain ⟨r1, er1, hf⟩ := ob_e hf
  refine kVi (As := [.int x1]) (rest := []) F B w (tX11_isField er1) (cwV 1 hts gX11_share_X11_isField rfl rfl rfl (by decide +kernel) ⟨Nat.le_of_ble_eq_true rfl, Nat.le_of_ble_eq_true rfl⟩) 0 gM_0 rfl rfl hl.1 rfl (Nat.le_of_ble_eq_true rfl) dX11_share_2 ⟨Nat.le_of_ble_eq_true rfl, Nat.le_of_ble_eq_true rfl⟩ (fun H locs w => ?_)
  refine lv_if_eq (tgt := 26) hx hb dX11_share_5 (by decide) (fun c2 => ?_) (fun c2 => ?_)
  · have hf := if_t hf c2
    refine lv_iconst (v := (-1)) hx hb dX11_share_26 (by decide) ?_
    cases hf
    exact hQ _ _ _ _ dX11_share_27 w
  · have hf := if_f hf c2
    refine lv_aload_n hx hb dX11_share_8 rfl (lv_at hl 0 rfl) ?_
    refine lv_iload_n hx hb dX11_share_9 rfl (lv_at hl 2 rfl) ?_
    obtain ⟨r3, er3, hf⟩ := ob_e hf
    refine kVi (As := [.int x2]) (rest := []) F B w (tX11_isPerson er3) (cwV 1 hts gX11_share_X11_isPerson rfl rfl rfl (by decide +kernel) ⟨Nat.le_of_ble_eq_true rfl, Nat.le_of_ble_eq_true rfl⟩) 0 gM_0 rfl rfl hl.1 rfl (Nat.le_of_ble_eq_true rfl) dX11_share_10 ⟨Nat.le_of_ble_eq_true rfl, Nat.le_of_ble_eq_true rfl⟩ (fun H locs w => ?_)
    refine lv_if_eq (tgt := 26) hx hb dX11_share_13 (by decide) (fun c4 => ?_) (fun c4 => ?_)
    · have hf := if_t hf c4
      refine lv_iconst (v := (-1)) hx hb dX11_share_26 (by decide) ?_
      cases hf
      exact hQ _ _ _ _ dX11_share_27 w
    · have hf := if_f hf c4
      refine lv_iload_n hx hb dX11_share_16 rfl (lv_at hl 3 rfl) ?_
      refine lv_iconst (v := 0) hx hb dX11_share_17 (by decide) ?_
      refine lv_bipush (v := 29) hx hb dX11_share_18 (by decide) ?_
      obtain ⟨r5, er5, hf⟩ := ob_e hf
      refine kSi (As := [.int x3, .int 0, .int 29]) (rest := []) F B w (tX11_isIn er5) (va_cwS 3 hts gX11_share_X11_isIn rfl rfl rfl (by decide +kernel) ⟨Nat.le_of_ble_eq_true rfl, Nat.le_of_ble_eq_true rfl⟩) rfl hl.1 rfl (Nat.le_of_ble_eq_true rfl) dX11_share_20 ⟨Nat.le_of_ble_eq_true rfl, Nat.le_of_ble_eq_true rfl⟩ (fun H locs w => ?_)
      refine lv_if_ne (tgt := 28) hx hb dX11_share_23 (by decide) (fun c6 => ?_) (fun c6 => ?_)
      · have hf := if_f hf c6
        refine lv_iconst (v := 0) hx hb dX11_share_28 (by decide) ?_
        refine lv_istore (lv' := [(4, .int 0), (0, .ref (ad 0)), (1, .int x1), (2, .int x2), (3, .int x3)]) hx hb dX11_share_29 hl (by decide) rfl (fun ls hl => ?_)
        refine wX11_share_L31 F B hQ (fun x12 H locs ls w hl hf => ?_) n _ _ _ _ w (lv_sub hl [1, 2, 3, 4, 0] rfl) hf
        refine lv_iload hx hb dX11_share_68 (lv_at hl 4 rfl) ?_
        refine lv_bipush (v := 60) hx hb dX11_share_70 (by decide) ?_
        refine lv_icmp_ne (tgt := 77) hx hb dX11_share_72 (by decide) (fun c13 => ?_) (fun c13 => ?_)
        · have hf := if_f hf c13
          refine lv_iload hx hb dX11_share_77 (lv_at hl 4 rfl) ?_
          refine lv_aload_n hx hb dX11_share_79 rfl (lv_at hl 0 rfl) ?_
          refine kget (v := .int (S.1 29)) F B w inX11_share_11 0 gM_0 rfl 29 (by decide) (hts (.fieldLink RX11 257 "LandReformModel" "pairs" "I") (by decide +kernel)) rfl rfl dX11_share_80 ?_
          refine lv_icmp_ne (tgt := 112) hx hb dX11_share_83 (by decide) (fun c14 => ?_) (fun c14 => ?_)
          · have hf := if_f hf c14
            refine lv_aload_n hx hb dX11_share_112 rfl (lv_at hl 0 rfl) ?_
            refine kget (v := .ref (ad 18)) F B w inX11_share_11 0 gM_0 rfl 32 (by decide) (hts (.fieldLink RX11 67 "LandReformModel" "pairYears" "[I") (by decide +kernel)) rfl rfl dX11_share_113 ?_
            refine lv_iload hx hb dX11_share_116 (lv_at hl 4 rfl) ?_
            refine lv_dup2_11 hx hb dX11_share_118 rfl rfl ?_
            obtain ⟨g15, hf⟩ := if_g hf
            refine kiald F B w 18 gM_18 g15 dX11_share_119 ?_
            refine lv_iconst (v := 1) hx hb dX11_share_120 (by decide) ?_
            refine lv_iload_n hx hb dX11_share_121 rfl (lv_at hl 3 rfl) ?_
            refine lv_ishl hx hb dX11_share_122 ?_
            refine lv_ior hx hb dX11_share_123 ?_
            obtain ⟨g16, hf⟩ := if_g hf
            refine kiast F B w 18 gM_18 g16 bM_18 dX11_share_124 (fun H locs w => ?_)
            obtain ⟨S17, eS17⟩ : ∃ z, z = sA S 32 (Int32.toNatClampNeg x12) ((S.2.1 32 (Int32.toNatClampNeg x12)) ||| ((1 : Int32) <<< (x3 &&& 31))) := ⟨_, rfl⟩
            rw [← eS17] at w
            have hf := lt_e hf eS17
            refine lv_aload_n hx hb dX11_share_125 rfl (lv_at hl 0 rfl) ?_
            refine kget (v := .ref (ad 18)) F B w inX11_share_11 0 gM_0 rfl 32 (by decide) (hts (.fieldLink RX11 67 "LandReformModel" "pairYears" "[I") (by decide +kernel)) rfl rfl dX11_share_126 ?_
            refine lv_iload hx hb dX11_share_129 (lv_at hl 4 rfl) ?_
            obtain ⟨g18, hf⟩ := if_g hf
            refine kiald F B w 18 gM_18 g18 dX11_share_131 ?_
            obtain ⟨r19, er19, hf⟩ := ob_e hf
            refine kSi (As := [.int (S17.2.1 32 (Int32.toNatClampNeg x12))]) (rest := []) F B w (tX11_bits er19) (va_cwS 1 hts gX11_share_X11_bits rfl rfl rfl (by decide +kernel) ⟨Nat.le_of_ble_eq_true rfl, Nat.le_of_ble_eq_true rfl⟩) rfl hl.1 rfl (Nat.le_of_ble_eq_true rfl) dX11_share_132 ⟨Nat.le_of_ble_eq_true rfl, Nat.le_of_ble_eq_true rfl⟩ (fun H locs w => ?_)
            cases hf
            exact hQ _ _ _ _ dX11_share_135 w
          · have hf := if_t hf c14
            refine lv_aload_n hx hb dX11_share_86 rfl (lv_at hl 0 rfl) ?_
            refine kget (v := .ref (ad 16)) F B w inX11_share_11 0 gM_0 rfl 30 (by decide) (hts (.fieldLink RX11 61 "LandReformModel" "pairField" "[I") (by decide +kernel)) rfl rfl dX11_share_87 ?_
            refine lv_iload hx hb dX11_share_90 (lv_at hl 4 rfl) ?_
            refine lv_iload_n hx hb dX11_share_92 rfl (lv_at hl 1 rfl) ?_
            obtain ⟨g20, hf⟩ := if_g hf
            refine kiast F B w 16 gM_16 g20 bM_16 dX11_share_93 (fun H locs w => ?_)
            obtain ⟨S21, eS21⟩ : ∃ z, z = sA S 30 (Int32.toNatClampNeg x12) x1 := ⟨_, rfl⟩
            rw [← eS21] at w
            have hf := lt_e hf eS21
            refine lv_aload_n hx hb dX11_share_94 rfl (lv_at hl 0 rfl) ?_
            refine kget (v := .ref (ad 17)) F B w inX11_share_11 0 gM_0 rfl 31 (by decide) (hts (.fieldLink RX11 64 "LandReformModel" "pairPerson" "[I") (by decide +kernel)) rfl rfl dX11_share_95 ?_
            refine lv_iload hx hb dX11_share_98 (lv_at hl 4 rfl) ?_
            refine lv_iload_n hx hb dX11_share_100 rfl (lv_at hl 2 rfl) ?_
            obtain ⟨g22, hf⟩ := if_g hf
            refine kiast F B w 17 gM_17 g22 bM_17 dX11_share_101 (fun H locs w => ?_)
            obtain ⟨S23, eS23⟩ : ∃ z, z = sA S21 31 (Int32.toNatClampNeg x12) x2 := ⟨_, rfl⟩
            rw [← eS23] at w
            have hf := lt_e hf eS23
            refine lv_aload_n hx hb dX11_share_102 rfl (lv_at hl 0 rfl) ?_
            refine lv_dup hx hb dX11_share_103 rfl ?_
            refine kget (v := .int (S23.1 29)) F B w inX11_share_11 0 gM_0 rfl 29 (by decide) (hts (.fieldLink RX11 257 "LandReformModel" "pairs" "I") (by decide +kernel)) rfl rfl dX11_share_104 ?_
            refine lv_iconst (v := 1) hx hb dX11_share_107 (by decide) ?_
            refine lv_iadd hx hb dX11_share_108 ?_
            refine kput (ty := .int) F B w inX11_share_11 tyX11 tyX11_ok nmX11 0 gM_0 rfl 29 (by decide) (hts (.fieldLink RX11 257 "LandReformModel" "pairs" "I") (by decide +kernel)) rfl rfl (by decide +kernel) rfl rfl (Nat.le_of_ble_eq_true rfl) pM_29 dX11_share_109 (fun H locs w => ?_)
            obtain ⟨S24, eS24⟩ : ∃ z, z = sS S23 29 ((S23.1 29) + 1) := ⟨_, rfl⟩
            rw [← eS24] at w
            have hf := lt_e hf eS24
            refine lv_aload_n hx hb dX11_share_112 rfl (lv_at hl 0 rfl) ?_
            refine kget (v := .ref (ad 18)) F B w inX11_share_11 0 gM_0 rfl 32 (by decide) (hts (.fieldLink RX11 67 "LandReformModel" "pairYears" "[I") (by decide +kernel)) rfl rfl dX11_share_113 ?_
            refine lv_iload hx hb dX11_share_116 (lv_at hl 4 rfl) ?_
            refine lv_dup2_11 hx hb dX11_share_118 rfl rfl ?_
            obtain ⟨g25, hf⟩ := if_g hf
            refine kiald F B w 18 gM_18 g25 dX11_share_119 ?_
            refine lv_iconst (v := 1) hx hb dX11_share_120 (by decide) ?_
            refine lv_iload_n hx hb dX11_share_121 rfl (lv_at hl 3 rfl) ?_
            refine lv_ishl hx hb dX11_share_122 ?_
            refine lv_ior hx hb dX11_share_123 ?_
            obtain ⟨g26, hf⟩ := if_g hf
            refine kiast F B w 18 gM_18 g26 bM_18 dX11_share_124 (fun H locs w => ?_)
            obtain ⟨S27, eS27⟩ : ∃ z, z = sA S24 32 (Int32.toNatClampNeg x12) ((S24.2.1 32 (Int32.toNatClampNeg x12)) ||| ((1 : Int32) <<< (x3 &&& 31))) := ⟨_, rfl⟩
            rw [← eS27] at w
            have hf := lt_e hf eS27
            refine lv_aload_n hx hb dX11_share_125 rfl (lv_at hl 0 rfl) ?_
            refine kget (v := .ref (ad 18)) F B w inX11_share_11 0 gM_0 rfl 32 (by decide) (hts (.fieldLink RX11 67 "LandReformModel" "pairYears" "[I") (by decide +kernel)) rfl rfl dX11_share_126 ?_
            refine lv_iload hx hb dX11_share_129 (lv_at hl 4 rfl) ?_
            obtain ⟨g28, hf⟩ := if_g hf
            refine kiald F B w 18 gM_18 g28 dX11_share_131 ?_
            obtain ⟨r29, er29, hf⟩ := ob_e hf
            refine kSi (As := [.int (S27.2.1 32 (Int32.toNatClampNeg x12))]) (rest := []) F B w (tX11_bits er29) (va_cwS 1 hts gX11_share_X11_bits rfl rfl rfl (by decide +kernel) ⟨Nat.le_of_ble_eq_true rfl, Nat.le_of_ble_eq_true rfl⟩) rfl hl.1 rfl (Nat.le_of_ble_eq_true rfl) dX11_share_132 ⟨Nat.le_of_ble_eq_true rfl, Nat.le_of_ble_eq_true rfl⟩ (fun H locs w => ?_)
            cases hf
            exact hQ _ _ _ _ dX11_share_135 w
        · have hf := if_t hf c13
          refine lv_iconst (v := (-1)) hx hb dX11_share_75 (by decide) ?_
          cases hf
          exact hQ _ _ _ _ dX11_share_76 w
      · have hf := if_t hf c6
        refine lv_iconst (v := (-1)) hx hb dX11_share_26 (by decide) ?_
        cases hf
        exact hQ _ _ _ _ dX11_share_27 w
