def fX5_keyword (n : Nat) (S : St) : Option Int32 := ob (fX5_spells n S 2) fun r1 => if r1 = 0 then (ob (fX5_spells n S 3) fun r3 => if r3 = 0 then (ob (fX5_spells n S 4) fun r5 => if r5 = 0 then (ob (fX5_spells n S 5) fun r7 => if r7 = 0 then (ob (fX5_spells n S 6) fun r9 => if r9 = 0 then (ob (fX5_spells n S 7) fun r11 => if r11 = 0 then (ob (fX5_spells n S 8) fun r13 => if r13 = 0 then (ob (fX5_spells n S 9) fun r15 => if r15 = 0 then (some (-1)) else (some 7)) else (some 6)) else (some 5)) else (some 4)) else (some 3)) else (some 2)) else (some 1)) else (some 0)
set_option maxHeartbeats 4000000 in
set_option maxRecDepth 100000 in
theorem tX5_keyword {l : Launch} {D : va_G} {cc : Nat → ClassId} {ak av : Nat → Nat} {ad : Nat → Nat} {g : Nat → Option Nat} {E : va_W} {n : Nat} {S : St} {r : Int32} (hf : fX5_keyword n S = some r) : CI l yX5_keyword wsX5_keyword ({ frames := 5, cells := 0, slots := 0, locals := 107 } : Room) D cc ak av [.ref (ad 4)] (WX cc ad g S ++ E) (WX cc ad g S ++ E) r := by
  refine mkI (c0 := cX5_keyword) (nL := 1) (own := RX5) rfl rfl (by decide) rfl rfl (Nat.le_of_ble_eq_true rfl) ?_
  intro p e s m args below meth c A Q ls F B hQ hl w
  have hx := F.1
  have hb := F.2.1
  have hown := F.2.2.2.1
  have hts := F.2.2.2.2
  have hl : lv_has ls 1 [(0, .ref (ad 4))] := hl
  unfold fX5_keyword at hf
  refine lv_aload_n hx hb dX5_keyword_0 rfl (lv_at hl 0 rfl) ?_
  refine va_ldcS hx hb hown (B.2.2.2.2.1 2 _ _ rfl) dX5_keyword_1 ?_
  obtain ⟨r1, er1, hf⟩ := ob_e hf
  refine kVi (As := [.ref (ak 2)]) (rest := []) F B w (tX5_spells er1 (by decide)) (cwV 1 hts gX5_keyword_X5_spells rfl rfl rfl (by decide +kernel) ⟨Nat.le_of_ble_eq_true rfl, Nat.le_of_ble_eq_true rfl⟩) 4 gX_4 rfl rfl hl.1 rfl (Nat.le_of_ble_eq_true rfl) dX5_keyword_3 ⟨Nat.le_of_ble_eq_true rfl, Nat.le_of_ble_eq_true rfl⟩ (fun H locs w => ?_)
  refine lv_if_eq (tgt := 11) hx hb dX5_keyword_6 (by decide) (fun c2 => ?_) (fun c2 => ?_)
  · have hf := if_t hf c2
    refine lv_aload_n hx hb dX5_keyword_11 rfl (lv_at hl 0 rfl) ?_
    refine va_ldcS hx hb hown (B.2.2.2.2.1 3 _ _ rfl) dX5_keyword_12 ?_
    obtain ⟨r3, er3, hf⟩ := ob_e hf
    refine kVi (As := [.ref (ak 3)]) (rest := []) F B w (tX5_spells er3 (by decide)) (cwV 1 hts gX5_keyword_X5_spells rfl rfl rfl (by decide +kernel) ⟨Nat.le_of_ble_eq_true rfl, Nat.le_of_ble_eq_true rfl⟩) 4 gX_4 rfl rfl hl.1 rfl (Nat.le_of_ble_eq_true rfl) dX5_keyword_14 ⟨Nat.le_of_ble_eq_true rfl, Nat.le_of_ble_eq_true rfl⟩ (fun H locs w => ?_)
    refine lv_if_eq (tgt := 22) hx hb dX5_keyword_17 (by decide) (fun c4 => ?_) (fun c4 => ?_)
    · have hf := if_t hf c4
      refine lv_aload_n hx hb dX5_keyword_22 rfl (lv_at hl 0 rfl) ?_
      refine va_ldcS hx hb hown (B.2.2.2.2.1 4 _ _ rfl) dX5_keyword_23 ?_
      obtain ⟨r5, er5, hf⟩ := ob_e hf
      refine kVi (As := [.ref (ak 4)]) (rest := []) F B w (tX5_spells er5 (by decide)) (cwV 1 hts gX5_keyword_X5_spells rfl rfl rfl (by decide +kernel) ⟨Nat.le_of_ble_eq_true rfl, Nat.le_of_ble_eq_true rfl⟩) 4 gX_4 rfl rfl hl.1 rfl (Nat.le_of_ble_eq_true rfl) dX5_keyword_25 ⟨Nat.le_of_ble_eq_true rfl, Nat.le_of_ble_eq_true rfl⟩ (fun H locs w => ?_)
      refine lv_if_eq (tgt := 33) hx hb dX5_keyword_28 (by decide) (fun c6 => ?_) (fun c6 => ?_)
      · have hf := if_t hf c6
        refine lv_aload_n hx hb dX5_keyword_33 rfl (lv_at hl 0 rfl) ?_
        refine va_ldcS hx hb hown (B.2.2.2.2.1 5 _ _ rfl) dX5_keyword_34 ?_
        obtain ⟨r7, er7, hf⟩ := ob_e hf
        refine kVi (As := [.ref (ak 5)]) (rest := []) F B w (tX5_spells er7 (by decide)) (cwV 1 hts gX5_keyword_X5_spells rfl rfl rfl (by decide +kernel) ⟨Nat.le_of_ble_eq_true rfl, Nat.le_of_ble_eq_true rfl⟩) 4 gX_4 rfl rfl hl.1 rfl (Nat.le_of_ble_eq_true rfl) dX5_keyword_36 ⟨Nat.le_of_ble_eq_true rfl, Nat.le_of_ble_eq_true rfl⟩ (fun H locs w => ?_)
        refine lv_if_eq (tgt := 44) hx hb dX5_keyword_39 (by decide) (fun c8 => ?_) (fun c8 => ?_)
        · have hf := if_t hf c8
          refine lv_aload_n hx hb dX5_keyword_44 rfl (lv_at hl 0 rfl) ?_
          refine va_ldcS hx hb hown (B.2.2.2.2.1 6 _ _ rfl) dX5_keyword_45 ?_
          obtain ⟨r9, er9, hf⟩ := ob_e hf
          refine kVi (As := [.ref (ak 6)]) (rest := []) F B w (tX5_spells er9 (by decide)) (cwV 1 hts gX5_keyword_X5_spells rfl rfl rfl (by decide +kernel) ⟨Nat.le_of_ble_eq_true rfl, Nat.le_of_ble_eq_true rfl⟩) 4 gX_4 rfl rfl hl.1 rfl (Nat.le_of_ble_eq_true rfl) dX5_keyword_47 ⟨Nat.le_of_ble_eq_true rfl, Nat.le_of_ble_eq_true rfl⟩ (fun H locs w => ?_)
          refine lv_if_eq (tgt := 55) hx hb dX5_keyword_50 (by decide) (fun c10 => ?_) (fun c10 => ?_)
          · have hf := if_t hf c10
            refine lv_aload_n hx hb dX5_keyword_55 rfl (lv_at hl 0 rfl) ?_
            refine va_ldcS hx hb hown (B.2.2.2.2.1 7 _ _ rfl) dX5_keyword_56 ?_
            obtain ⟨r11, er11, hf⟩ := ob_e hf
            refine kVi (As := [.ref (ak 7)]) (rest := []) F B w (tX5_spells er11 (by decide)) (cwV 1 hts gX5_keyword_X5_spells rfl rfl rfl (by decide +kernel) ⟨Nat.le_of_ble_eq_true rfl, Nat.le_of_ble_eq_true rfl⟩) 4 gX_4 rfl rfl hl.1 rfl (Nat.le_of_ble_eq_true rfl) dX5_keyword_58 ⟨Nat.le_of_ble_eq_true rfl, Nat.le_of_ble_eq_true rfl⟩ (fun H locs w => ?_)
            refine lv_if_eq (tgt := 66) hx hb dX5_keyword_61 (by decide) (fun c12 => ?_) (fun c12 => ?_)
            · have hf := if_t hf c12
              refine lv_aload_n hx hb dX5_keyword_66 rfl (lv_at hl 0 rfl) ?_
              refine va_ldcS hx hb hown (B.2.2.2.2.1 8 _ _ rfl) dX5_keyword_67 ?_
              obtain ⟨r13, er13, hf⟩ := ob_e hf
              refine kVi (As := [.ref (ak 8)]) (rest := []) F B w (tX5_spells er13 (by decide)) (cwV 1 hts gX5_keyword_X5_spells rfl rfl rfl (by decide +kernel) ⟨Nat.le_of_ble_eq_true rfl, Nat.le_of_ble_eq_true rfl⟩) 4 gX_4 rfl rfl hl.1 rfl (Nat.le_of_ble_eq_true rfl) dX5_keyword_69 ⟨Nat.le_of_ble_eq_true rfl, Nat.le_of_ble_eq_true rfl⟩ (fun H locs w => ?_)
              refine lv_if_eq (tgt := 78) hx hb dX5_keyword_72 (by decide) (fun c14 => ?_) (fun c14 => ?_)
              · have hf := if_t hf c14
                refine lv_aload_n hx hb dX5_keyword_78 rfl (lv_at hl 0 rfl) ?_
                refine va_ldcS hx hb hown (B.2.2.2.2.1 9 _ _ rfl) dX5_keyword_79 ?_
                obtain ⟨r15, er15, hf⟩ := ob_e hf
                refine kVi (As := [.ref (ak 9)]) (rest := []) F B w (tX5_spells er15 (by decide)) (cwV 1 hts gX5_keyword_X5_spells rfl rfl rfl (by decide +kernel) ⟨Nat.le_of_ble_eq_true rfl, Nat.le_of_ble_eq_true rfl⟩) 4 gX_4 rfl rfl hl.1 rfl (Nat.le_of_ble_eq_true rfl) dX5_keyword_81 ⟨Nat.le_of_ble_eq_true rfl, Nat.le_of_ble_eq_true rfl⟩ (fun H locs w => ?_)
                refine lv_if_eq (tgt := 92) hx hb dX5_keyword_84 (by decide) (fun c16 => ?_) (fun c16 => ?_)
                · have hf := if_t hf c16
                  refine lv_iconst (v := (-1)) hx hb dX5_keyword_92 (by decide) ?_
                  cases hf
                  exact hQ _ _ _ _ dX5_keyword_93 w
                · have hf := if_f hf c16
                  refine lv_bipush (v := 7) hx hb dX5_keyword_87 (by decide) ?_
                  refine lv_goto (tgt := 93) hx hb dX5_keyword_89 (by decide) ?_
                  cases hf
                  exact hQ _ _ _ _ dX5_keyword_93 w
              · have hf := if_f hf c14
                refine lv_bipush (v := 6) hx hb dX5_keyword_75 (by decide) ?_
                cases hf
                exact hQ _ _ _ _ dX5_keyword_77 w
            · have hf := if_f hf c12
              refine lv_iconst (v := 5) hx hb dX5_keyword_64 (by decide) ?_
              cases hf
              exact hQ _ _ _ _ dX5_keyword_65 w
          · have hf := if_f hf c10
            refine lv_iconst (v := 4) hx hb dX5_keyword_53 (by decide) ?_
            cases hf
            exact hQ _ _ _ _ dX5_keyword_54 w
        · have hf := if_f hf c8
          refine lv_iconst (v := 3) hx hb dX5_keyword_42 (by decide) ?_
          cases hf
          exact hQ _ _ _ _ dX5_keyword_43 w
      · have hf := if_f hf c6
        refine lv_iconst (v := 2) hx hb dX5_keyword_31 (by decide) ?_
        cases hf
        exact hQ _ _ _ _ dX5_keyword_32 w
    · have hf := if_f hf c4
      refine lv_iconst (v := 1) hx hb dX5_keyword_20 (by decide) ?_
      cases hf
      exact hQ _ _ _ _ dX5_keyword_21 w
  · have hf := if_f hf c2
    refine lv_iconst (v := 0) hx hb dX5_keyword_9 (by decide) ?_
    cases hf
    exact hQ _ _ _ _ dX5_keyword_10 w

def fX5_number_L42 (n : Nat) (x1 : Int32) (x2 : Int32) (S : St) (k : Int32 → Int32 → Option Int32) : Nat → Int32 → Int32 → Option Int32
  | 0, _, _ => none
  | fu + 1, x4, x5 => if (S.1 9) ≤ x5 then (k x4 x5) else (if x5 < 0 ∨ 400 ≤ Int32.toNatClampNeg x5 then none else ob (fX5_isDigit (S.2.1 11 (Int32.toNatClampNeg x5))) fun r8 => if r8 = 0 then (some (-1)) else (if x5 < 0 ∨ 400 ≤ Int32.toNatClampNeg x5 then none else lt_ ((x4 * 10) + ((S.2.1 11 (Int32.toNatClampNeg x5)) - 48)) fun v11 => fX5_number_L42 n x1 x2 S k fu v11 (x5 + 1)))
def fX5_number (n : Nat) (S : St) (x1 : Int32) (x2 : Int32) : Option Int32 := lt_ ((S.1 9) - (S.1 8)) fun v1 => if v1 < 1 then (some (-1)) else (if 4 < v1 then (some (-1)) else (if (S.1 9) ≤ (S.1 7) then (lt_ (S.1 8) fun v5 => fX5_number_L42 n x1 x2 S (fun x12 x13 => if x12 < x1 then (some (-1)) else (if x2 < x12 then (some (-1)) else (some x12))) n 0 v5) else (some (-1))))
set_option maxRecDepth 20000 in
theorem inX5_number_5 : ∀ w ∈ u_ws RX5 TX5 5, w ∈ wsX5_number := by decide +kernel
set_option maxHeartbeats 4000000 in
set_option maxRecDepth 100000 in
theorem wX5_number_L42 {p : Program} {l : Launch} {e : Env} {s : State} {m : MethodId} {args : Array Value} {below : List Frame} {meth : Method} {c : Code} {Q : State → Prop} {D : va_G} {cc : Nat → ClassId} {ak av : Nat → Nat} {A : Nat → Prop} {ad : Nat → Nat} {g : Nat → Option Nat} {E : va_W} {n : Nat} {x1 : Int32} {x2 : Int32} {S : St} {r : Int32} {k : Int32 → Int32 → Option Int32} (F : CallFix p m c cX5_number 6 s args wsX5_number RX5) (B : Bd D cc ak av A s) (hQ : RetI p l e ({ frames := 1, cells := 0, slots := 0, locals := 20 } : Room) s m args below meth c D A Q cX5_number (WX cc ad g S ++ E) r)
    (hk : ∀ (x4 : Int32) (x5 : Int32) (H : Heap) (locs : List Loc) (ls : Array Slot), Wd D A s.heap H locs (WX cc ad g S ++ E) → lv_has ls 6 [(0, .ref (ad 4)), (1, .int x1), (2, .int x2), (4, .int x4), (5, .int x5)] → k x4 x5 = some r → W p l e ({ frames := 1, cells := 0, slots := 0, locals := 20 } : Room) s m args below meth c H locs 0 0 Q (F0 m 90 ls [])) :
    ∀ (fu : Nat) (x4 : Int32) (x5 : Int32) (H : Heap) (locs : List Loc) (ls : Array Slot), Wd D A s.heap H locs (WX cc ad g S ++ E) → lv_has ls 6 [(0, .ref (ad 4)), (1, .int x1), (2, .int x2), (4, .int x4), (5, .int x5)] → fX5_number_L42 n x1 x2 S k fu x4 x5 = some r → W p l e ({ frames := 1, cells := 0, slots := 0, locals := 20 } : Room) s m args below meth c H locs 0 0 Q (F0 m 42 ls []) := by
  have hx := F.1
  have hb := F.2.1
  have hown := F.2.2.2.1
  have hts := F.2.2.2.2
  intro fu
  induction fu with
  | zero => intro x4 x5 H locs ls w hl hf; rw [fX5_number_L42] at hf; cases hf
  | succ fu ih =>
    intro x4 x5 H locs ls w hl hf
    rw [fX5_number_L42] at hf
    refine lv_iload hx hb dX5_number_42 (lv_at hl 4 rfl) ?_
    refine lv_aload_n hx hb dX5_number_44 rfl (lv_at hl 0 rfl) ?_
    refine kget (v := .int (S.1 9)) F B w inX5_number_5 4 gX_4 rfl 3 (by decide) (hts (.fieldLink RX5 28 "LandReform$Reader" "tokenEnd" "I") (by decide +kernel)) rfl rfl dX5_number_45 ?_
    refine lv_icmp_ge (tgt := 90) hx hb dX5_number_48 (by decide) (fun c6 => ?_) (fun c6 => ?_)
    · have hf := if_t hf c6
      exact hk _ _ _ _ _ w (lv_sub hl [0, 1, 2, 3, 4] rfl) hf
    · have hf := if_f hf c6
      refine lv_aload_n hx hb dX5_number_51 rfl (lv_at hl 0 rfl) ?_
      refine kget (v := .ref (ad 24)) F B w inX5_number_5 4 gX_4 rfl 0 (by decide) (hts (.fieldLink RX5 15 "LandReform$Reader" "text" "[B") (by decide +kernel)) rfl rfl dX5_number_52 ?_
      refine lv_iload hx hb dX5_number_55 (lv_at hl 4 rfl) ?_
      obtain ⟨g7, hf⟩ := if_g hf
      refine kbald F B w 24 gX_24 g7 dX5_number_57 ?_
      obtain ⟨r8, er8, hf⟩ := ob_e hf
      refine kSi (As := [.int (S.2.1 11 (Int32.toNatClampNeg x5))]) (rest := []) F B w (tX5_isDigit er8) (va_cwS 1 hts gX5_number_X5_isDigit rfl rfl rfl (by decide +kernel) ⟨Nat.le_of_ble_eq_true rfl, Nat.le_of_ble_eq_true rfl⟩) rfl hl.1 rfl (Nat.le_of_ble_eq_true rfl) dX5_number_58 ⟨Nat.le_of_ble_eq_true rfl, Nat.le_of_ble_eq_true rfl⟩ (fun H locs w => ?_)
      refine lv_if_ne (tgt := 66) hx hb dX5_number_61 (by decide) (fun c9 => ?_) (fun c9 => ?_)
      · have hf := if_f hf c9
        refine lv_iload hx hb dX5_number_66 (lv_at hl 3 rfl) ?_
        refine lv_bipush (v := 10) hx hb dX5_number_68 (by decide) ?_
        refine lv_imul hx hb dX5_number_70 ?_
        refine lv_aload_n hx hb dX5_number_71 rfl (lv_at hl 0 rfl) ?_
        refine kget (v := .ref (ad 24)) F B w inX5_number_5 4 gX_4 rfl 0 (by decide) (hts (.fieldLink RX5 15 "LandReform$Reader" "text" "[B") (by decide +kernel)) rfl rfl dX5_number_72 ?_
        refine lv_iload hx hb dX5_number_75 (lv_at hl 4 rfl) ?_
        obtain ⟨g10, hf⟩ := if_g hf
        refine kbald F B w 24 gX_24 g10 dX5_number_77 ?_
        refine lv_bipush (v := 48) hx hb dX5_number_78 (by decide) ?_
        refine lv_isub hx hb dX5_number_80 ?_
        refine lv_iadd hx hb dX5_number_81 ?_
        refine lv_topi (fun v11 ev11 => ?_)
        have hf := lt_e hf ev11
        refine lv_istore (lv' := [(4, .int v11), (0, .ref (ad 4)), (1, .int x1), (2, .int x2), (5, .int x5)]) hx hb dX5_number_82 hl (by decide) rfl (fun ls hl => ?_)
        refine lv_iinc (v := (x5 + 1)) (lv' := [(5, .int (x5 + 1)), (4, .int v11), (0, .ref (ad 4)), (1, .int x1), (2, .int x2)]) hx hb dX5_number_84 hl (k := 4) rfl rfl (by decide) rfl (fun ls hl => ?_)
        refine lv_goto (tgt := 42) hx hb dX5_number_87 (by decide) ?_
        exact ih _ _ _ _ _ w (lv_sub hl [2, 3, 4, 1, 0] rfl) hf
      · have hf := if_t hf c9
        refine lv_iconst (v := (-1)) hx hb dX5_number_64 (by decide) ?_
        cases hf
        exact hQ _ _ _ _ dX5_number_65 w
set_option maxHeartbeats 4000000 in
set_option maxRecDepth 100000 in
theorem tX5_number {l : Launch} {D : va_G} {cc : Nat → ClassId} {ak av : Nat → Nat} {ad : Nat → Nat} {g : Nat → Option Nat} {E : va_W} {n : Nat} {S : St} {x1 : Int32} {x2 : Int32} {r : Int32} (hf : fX5_number n S x1 x2 = some r) : CI l yX5_number wsX5_number ({ frames := 1, cells := 0, slots := 0, locals := 20 } : Room) D cc ak av [.ref (ad 4), .int x1, .int x2] (WX cc ad g S ++ E) (WX cc ad g S ++ E) r := by
  refine mkI (c0 := cX5_number) (nL := 6) (own := RX5) rfl rfl (by decide) rfl rfl (Nat.le_of_ble_eq_true rfl) ?_
  intro p e s m args below meth c A Q ls F B hQ hl w
  have hx := F.1
  have hb := F.2.1
  have hown := F.2.2.2.1
  have hts := F.2.2.2.2
  have hl : lv_has ls 6 [(0, .ref (ad 4)), (1, .int x1), (2, .int x2)] := hl
  unfold fX5_number at hf
  refine lv_aload_n hx hb dX5_number_0 rfl (lv_at hl 0 rfl) ?_
  refine kget (v := .int (S.1 9)) F B w inX5_number_5 4 gX_4 rfl 3 (by decide) (hts (.fieldLink RX5 28 "LandReform$Reader" "tokenEnd" "I") (by decide +kernel)) rfl rfl dX5_number_1 ?_
  refine lv_aload_n hx hb dX5_number_4 rfl (lv_at hl 0 rfl) ?_
  refine kget (v := .int (S.1 8)) F B w inX5_number_5 4 gX_4 rfl 2 (by decide) (hts (.fieldLink RX5 39 "LandReform$Reader" "tokenStart" "I") (by decide +kernel)) rfl rfl dX5_number_5 ?_
  refine lv_isub hx hb dX5_number_8 ?_
  refine lv_topi (fun v1 ev1 => ?_)
  have hf := lt_e hf ev1
  refine lv_istore_n (lv' := [(3, .int v1), (0, .ref (ad 4)), (1, .int x1), (2, .int x2)]) hx hb dX5_number_9 rfl hl (by decide) rfl (fun ls hl => ?_)
  refine lv_iload_n hx hb dX5_number_10 rfl (lv_at hl 0 rfl) ?_
  refine lv_iconst (v := 1) hx hb dX5_number_11 (by decide) ?_
  refine lv_icmp_lt (tgt := 31) hx hb dX5_number_12 (by decide) (fun c2 => ?_) (fun c2 => ?_)
  · have hf := if_t hf c2
    refine lv_iconst (v := (-1)) hx hb dX5_number_31 (by decide) ?_
    cases hf
    exact hQ _ _ _ _ dX5_number_32 w
  · have hf := if_f hf c2
    refine lv_iload_n hx hb dX5_number_15 rfl (lv_at hl 0 rfl) ?_
    refine lv_iconst (v := 4) hx hb dX5_number_16 (by decide) ?_
    refine lv_icmp_gt (tgt := 31) hx hb dX5_number_17 (by decide) (fun c3 => ?_) (fun c3 => ?_)
    · have hf := if_t hf c3
      refine lv_iconst (v := (-1)) hx hb dX5_number_31 (by decide) ?_
      cases hf
      exact hQ _ _ _ _ dX5_number_32 w
    · have hf := if_f hf c3
      refine lv_aload_n hx hb dX5_number_20 rfl (lv_at hl 1 rfl) ?_
      refine kget (v := .int (S.1 9)) F B w inX5_number_5 4 gX_4 rfl 3 (by decide) (hts (.fieldLink RX5 28 "LandReform$Reader" "tokenEnd" "I") (by decide +kernel)) rfl rfl dX5_number_21 ?_
      refine lv_aload_n hx hb dX5_number_24 rfl (lv_at hl 1 rfl) ?_
      refine kget (v := .int (S.1 7)) F B w inX5_number_5 4 gX_4 rfl 1 (by decide) (hts (.fieldLink RX5 25 "LandReform$Reader" "length" "I") (by decide +kernel)) rfl rfl dX5_number_25 ?_
      refine lv_icmp_le (tgt := 33) hx hb dX5_number_28 (by decide) (fun c4 => ?_) (fun c4 => ?_)
      · have hf := if_t hf c4
        refine lv_iconst (v := 0) hx hb dX5_number_33 (by decide) ?_
        refine lv_istore (lv' := [(4, .int 0), (3, .int v1), (0, .ref (ad 4)), (1, .int x1), (2, .int x2)]) hx hb dX5_number_34 hl (by decide) rfl (fun ls hl => ?_)
        refine lv_aload_n hx hb dX5_number_36 rfl (lv_at hl 2 rfl) ?_
        refine kget (v := .int (S.1 8)) F B w inX5_number_5 4 gX_4 rfl 2 (by decide) (hts (.fieldLink RX5 39 "LandReform$Reader" "tokenStart" "I") (by decide +kernel)) rfl rfl dX5_number_37 ?_
        refine lv_topi (fun v5 ev5 => ?_)
        have hf := lt_e hf ev5
        refine lv_istore (lv' := [(5, .int v5), (4, .int 0), (3, .int v1), (0, .ref (ad 4)), (1, .int x1), (2, .int x2)]) hx hb dX5_number_40 hl (by decide) rfl (fun ls hl => ?_)
        refine wX5_number_L42 F B hQ (fun x12 x13 H locs ls w hl hf => ?_) n _ _ _ _ _ w (lv_sub hl [3, 4, 5, 1, 0] rfl) hf
        refine lv_iload hx hb dX5_number_90 (lv_at hl 3 rfl) ?_
        refine lv_iload_n hx hb dX5_number_92 rfl (lv_at hl 1 rfl) ?_
        refine lv_icmp_lt (tgt := 107) hx hb dX5_number_93 (by decide) (fun c14 => ?_) (fun c14 => ?_)
        · have hf := if_t hf c14
          refine lv_iconst (v := (-1)) hx hb dX5_number_107 (by decide) ?_
          cases hf
          exact hQ _ _ _ _ dX5_number_108 w
        · have hf := if_f hf c14
          refine lv_iload hx hb dX5_number_96 (lv_at hl 3 rfl) ?_
          refine lv_iload_n hx hb dX5_number_98 rfl (lv_at hl 2 rfl) ?_
          refine lv_icmp_gt (tgt := 107) hx hb dX5_number_99 (by decide) (fun c15 => ?_) (fun c15 => ?_)
          · have hf := if_t hf c15
            refine lv_iconst (v := (-1)) hx hb dX5_number_107 (by decide) ?_
            cases hf
            exact hQ _ _ _ _ dX5_number_108 w
          · have hf := if_f hf c15
            refine lv_iload hx hb dX5_number_102 (lv_at hl 3 rfl) ?_
            refine lv_goto (tgt := 108) hx hb dX5_number_104 (by decide) ?_
            cases hf
            exact hQ _ _ _ _ dX5_number_108 w
      · have hf := if_f hf c4
        refine lv_iconst (v := (-1)) hx hb dX5_number_31 (by decide) ?_
        cases hf
        exact hQ _ _ _ _ dX5_number_32 w

def fX5_readStatement (n : Nat) (S : St) : Option (Int32 × St) := ob (fX5_keyword n S) fun r1 => if r1 = (-1) then (some (0, S)) else (if r1 = 4 then (ob (fX5_nextToken n S) fun S24 => ob (fX5_number n S24 0 3) fun r25 => if r25 = (-1) then (some (0, S24)) else (ob (fX5_nextToken n S24) fun S28 => ob (fX5_spells n S28 0) fun r29 => if r29 = 0 then (some (0, S28)) else (ob (fX5_nextToken n S28) fun S32 => if r1 = 6 then (ob (fX5_number n S32 1 40) fun r42 => if r42 = (-1) then (some (0, S32)) else (ob (fX5_nextToken n S32) fun S45 => ob (fX5_spells n S45 1) fun r46 => if r46 = 0 then (some (0, S45)) else (ob (fX3_rule S45 r1 r25 r42) fun S49 => some (1, S49)))) else (ob (fX5_number n S32 0 9999) fun r34 => if r34 = (-1) then (some (0, S32)) else (ob (fX5_nextToken n S32) fun S37 => ob (fX5_spells n S37 1) fun r38 => if r38 = 0 then (some (0, S37)) else (ob (fX3_rule S37 r1 r25 r34) fun S41 => some (1, S41))))))) else (ob (fX5_nextToken n S) fun S5 => if r1 = 6 then (ob (fX5_number n S5 1 40) fun r15 => if r15 = (-1) then (some (0, S5)) else (ob (fX5_nextToken n S5) fun S18 => ob (fX5_spells n S18 1) fun r19 => if r19 = 0 then (some (0, S18)) else (ob (fX3_rule S18 r1 0 r15) fun S22 => some (1, S22)))) else (ob (fX5_number n S5 0 9999) fun r7 => if r7 = (-1) then (some (0, S5)) else (ob (fX5_nextToken n S5) fun S10 => ob (fX5_spells n S10 1) fun r11 => if r11 = 0 then (some (0, S10)) else (ob (fX3_rule S10 r1 0 r7) fun S14 => some (1, S14))))))
set_option maxHeartbeats 4000000 in
set_option maxRecDepth 100000 in
theorem tX5_readStatement {l : Launch} {D : va_G} {cc : Nat → ClassId} {ak av : Nat → Nat} {ad : Nat → Nat} {g : Nat → Option Nat} {E : va_W} {n : Nat} {S : St} {r : Int32} {S' : St} (hf : fX5_readStatement n S = some (r, S')) : CI l yX5_readStatement wsX5_readStatement ({ frames := 6, cells := 0, slots := 0, locals := 127 } : Room) D cc ak av [.ref (ad 4), .ref (ad 11)] (WX cc ad g S ++ E) (WX cc ad g S' ++ E) r := by
  refine mkZ (c0 := cX5_readStatement) (nL := 5) (own := RX5) rfl rfl (by decide) rfl rfl (Nat.le_of_ble_eq_true rfl) ?_
  intro p e s m args below meth c A Q ls F B hQ hl w
  have hx := F.1
  have hb := F.2.1
  have hown := F.2.2.2.1
  have hts := F.2.2.2.2
  have hl : lv_has ls 5 [(0, .ref (ad 4)), (1, .ref (ad 11))] := hl
  unfold fX5_readStatement at hf
  refine lv_aload_n hx hb dX5_readStatement_0 rfl (lv_at hl 0 rfl) ?_
  obtain ⟨r1, er1, hf⟩ := ob_e hf
  refine kVi (As := []) (rest := []) F B w (tX5_keyword er1) (cwV 0 hts gX5_readStatement_X5_keyword rfl rfl rfl (by decide +kernel) ⟨Nat.le_of_ble_eq_true rfl, Nat.le_of_ble_eq_true rfl⟩) 4 gX_4 rfl rfl hl.1 rfl (Nat.le_of_ble_eq_true rfl) dX5_readStatement_1 ⟨Nat.le_of_ble_eq_true rfl, Nat.le_of_ble_eq_true rfl⟩ (fun H locs w => ?_)
  refine lv_istore_n (lv' := [(2, .int r1), (0, .ref (ad 4)), (1, .ref (ad 11))]) hx hb dX5_readStatement_4 rfl hl (by decide) rfl (fun ls hl => ?_)
  refine lv_iload_n hx hb dX5_readStatement_5 rfl (lv_at hl 0 rfl) ?_
  refine lv_iconst (v := (-1)) hx hb dX5_readStatement_6 (by decide) ?_
  refine lv_icmp_ne (tgt := 12) hx hb dX5_readStatement_7 (by decide) (fun c2 => ?_) (fun c2 => ?_)
  · have hf := if_f hf c2
    refine lv_iconst (v := 0) hx hb dX5_readStatement_12 (by decide) ?_
    refine lv_istore_n (lv' := [(3, .int 0), (2, .int r1), (0, .ref (ad 4)), (1, .ref (ad 11))]) hx hb dX5_readStatement_13 rfl hl (by decide) rfl (fun ls hl => ?_)
    refine lv_iload_n hx hb dX5_readStatement_14 rfl (lv_at hl 1 rfl) ?_
    refine lv_iconst (v := 4) hx hb dX5_readStatement_15 (by decide) ?_
    refine lv_icmp_ne (tgt := 52) hx hb dX5_readStatement_16 (by decide) (fun c3 => ?_) (fun c3 => ?_)
    · have hf := if_f hf c3
      refine lv_aload_n hx hb dX5_readStatement_52 rfl (lv_at hl 2 rfl) ?_
      obtain ⟨S5, er4, hf⟩ := ob_e hf
      refine kVv (As := []) (rest := []) F B w (tX5_nextToken er4) (cwV 0 hts gX5_readStatement_X5_nextToken rfl rfl rfl (by decide +kernel) ⟨Nat.le_of_ble_eq_true rfl, Nat.le_of_ble_eq_true rfl⟩) 4 gX_4 rfl rfl hl.1 rfl (Nat.le_of_ble_eq_true rfl) dX5_readStatement_53 ⟨Nat.le_of_ble_eq_true rfl, Nat.le_of_ble_eq_true rfl⟩ (fun H locs w => ?_)
      refine lv_iload_n hx hb dX5_readStatement_56 rfl (lv_at hl 1 rfl) ?_
      refine lv_bipush (v := 6) hx hb dX5_readStatement_57 (by decide) ?_
      refine lv_icmp_ne (tgt := 72) hx hb dX5_readStatement_59 (by decide) (fun c6 => ?_) (fun c6 => ?_)
      · have hf := if_f hf c6
        refine lv_aload_n hx hb dX5_readStatement_72 rfl (lv_at hl 2 rfl) ?_
        refine lv_iconst (v := 0) hx hb dX5_readStatement_73 (by decide) ?_
        refine lv_sipush (v := 9999) hx hb dX5_readStatement_74 (by decide) ?_
        obtain ⟨r7, er7, hf⟩ := ob_e hf
        refine kVi (As := [.int 0, .int 9999]) (rest := []) F B w (tX5_number er7) (cwV 2 hts gX5_readStatement_X5_number rfl rfl rfl (by decide +kernel) ⟨Nat.le_of_ble_eq_true rfl, Nat.le_of_ble_eq_true rfl⟩) 4 gX_4 rfl rfl hl.1 rfl (Nat.le_of_ble_eq_true rfl) dX5_readStatement_77 ⟨Nat.le_of_ble_eq_true rfl, Nat.le_of_ble_eq_true rfl⟩ (fun H locs w => ?_)
        refine lv_istore (lv' := [(4, .int r7), (3, .int 0), (2, .int r1), (0, .ref (ad 4)), (1, .ref (ad 11))]) hx hb dX5_readStatement_80 hl (by decide) rfl (fun ls hl => ?_)
        refine lv_iload hx hb dX5_readStatement_82 (lv_at hl 0 rfl) ?_
        refine lv_iconst (v := (-1)) hx hb dX5_readStatement_84 (by decide) ?_
        refine lv_icmp_ne (tgt := 90) hx hb dX5_readStatement_85 (by decide) (fun c8 => ?_) (fun c8 => ?_)
        · have hf := if_f hf c8
          refine lv_aload_n hx hb dX5_readStatement_90 rfl (lv_at hl 3 rfl) ?_
          obtain ⟨S10, er9, hf⟩ := ob_e hf
          refine kVv (As := []) (rest := []) F B w (tX5_nextToken er9) (cwV 0 hts gX5_readStatement_X5_nextToken rfl rfl rfl (by decide +kernel) ⟨Nat.le_of_ble_eq_true rfl, Nat.le_of_ble_eq_true rfl⟩) 4 gX_4 rfl rfl hl.1 rfl (Nat.le_of_ble_eq_true rfl) dX5_readStatement_91 ⟨Nat.le_of_ble_eq_true rfl, Nat.le_of_ble_eq_true rfl⟩ (fun H locs w => ?_)
          refine lv_aload_n hx hb dX5_readStatement_94 rfl (lv_at hl 3 rfl) ?_
          refine va_ldcS hx hb hown (B.2.2.2.2.1 1 _ _ rfl) dX5_readStatement_95 ?_
          obtain ⟨r11, er11, hf⟩ := ob_e hf
          refine kVi (As := [.ref (ak 1)]) (rest := []) F B w (tX5_spells er11 (by decide)) (cwV 1 hts gX5_readStatement_X5_spells rfl rfl rfl (by decide +kernel) ⟨Nat.le_of_ble_eq_true rfl, Nat.le_of_ble_eq_true rfl⟩) 4 gX_4 rfl rfl hl.1 rfl (Nat.le_of_ble_eq_true rfl) dX5_readStatement_97 ⟨Nat.le_of_ble_eq_true rfl, Nat.le_of_ble_eq_true rfl⟩ (fun H locs w => ?_)
          refine lv_if_ne (tgt := 105) hx hb dX5_readStatement_100 (by decide) (fun c12 => ?_) (fun c12 => ?_)
          · have hf := if_f hf c12
            refine lv_aload_n hx hb dX5_readStatement_105 rfl (lv_at hl 4 rfl) ?_
            refine lv_iload_n hx hb dX5_readStatement_106 rfl (lv_at hl 2 rfl) ?_
            refine lv_iload_n hx hb dX5_readStatement_107 rfl (lv_at hl 1 rfl) ?_
            refine lv_iload hx hb dX5_readStatement_108 (lv_at hl 0 rfl) ?_
            obtain ⟨S14, er13, hf⟩ := ob_e hf
            refine kVNv (As := [.int r1, .int 0, .int r7]) (rest := []) F B w (tX3_rule er13) ⟨va_cnB 3 hts gX5_readStatement_X3_rule_n61 rfl rfl rfl (B.2.1.m 13 rfl) (hts (.initialized RX3) (by decide +kernel)) (by decide +kernel) ⟨Nat.le_of_ble_eq_true rfl, Nat.le_of_ble_eq_true rfl⟩, hts (.instanceMethod yX3_rule) (by decide +kernel), hts (.selects RX3 yX3_rule yX3_rule) (by decide +kernel)⟩ 11 gX_11 rfl rfl hl.1 rfl (Nat.le_of_ble_eq_true rfl) dX5_readStatement_110 ⟨Nat.le_of_ble_eq_true rfl, Nat.le_of_ble_eq_true rfl⟩ (fun H locs w => ?_)
            refine lv_iconst (v := 1) hx hb dX5_readStatement_113 (by decide) ?_
            cases hf
            exact hQ _ _ _ _ dX5_readStatement_114 (by decide) w
          · have hf := if_t hf c12
            refine lv_iconst (v := 0) hx hb dX5_readStatement_103 (by decide) ?_
            cases hf
            exact hQ _ _ _ _ dX5_readStatement_104 (by decide) w
        · have hf := if_t hf c8
          refine lv_iconst (v := 0) hx hb dX5_readStatement_88 (by decide) ?_
          cases hf
          exact hQ _ _ _ _ dX5_readStatement_89 (by decide) w
      · have hf := if_t hf c6
        refine lv_aload_n hx hb dX5_readStatement_62 rfl (lv_at hl 2 rfl) ?_
        refine lv_iconst (v := 1) hx hb dX5_readStatement_63 (by decide) ?_
        refine lv_bipush (v := 40) hx hb dX5_readStatement_64 (by decide) ?_
        obtain ⟨r15, er15, hf⟩ := ob_e hf
        refine kVi (As := [.int 1, .int 40]) (rest := []) F B w (tX5_number er15) (cwV 2 hts gX5_readStatement_X5_number rfl rfl rfl (by decide +kernel) ⟨Nat.le_of_ble_eq_true rfl, Nat.le_of_ble_eq_true rfl⟩) 4 gX_4 rfl rfl hl.1 rfl (Nat.le_of_ble_eq_true rfl) dX5_readStatement_66 ⟨Nat.le_of_ble_eq_true rfl, Nat.le_of_ble_eq_true rfl⟩ (fun H locs w => ?_)
        refine lv_goto (tgt := 80) hx hb dX5_readStatement_69 (by decide) ?_
        refine lv_istore (lv' := [(4, .int r15), (3, .int 0), (2, .int r1), (0, .ref (ad 4)), (1, .ref (ad 11))]) hx hb dX5_readStatement_80 hl (by decide) rfl (fun ls hl => ?_)
        refine lv_iload hx hb dX5_readStatement_82 (lv_at hl 0 rfl) ?_
        refine lv_iconst (v := (-1)) hx hb dX5_readStatement_84 (by decide) ?_
        refine lv_icmp_ne (tgt := 90) hx hb dX5_readStatement_85 (by decide) (fun c16 => ?_) (fun c16 => ?_)
        · have hf := if_f hf c16
          refine lv_aload_n hx hb dX5_readStatement_90 rfl (lv_at hl 3 rfl) ?_
          obtain ⟨S18, er17, hf⟩ := ob_e hf
          refine kVv (As := []) (rest := []) F B w (tX5_nextToken er17) (cwV 0 hts gX5_readStatement_X5_nextToken rfl rfl rfl (by decide +kernel) ⟨Nat.le_of_ble_eq_true rfl, Nat.le_of_ble_eq_true rfl⟩) 4 gX_4 rfl rfl hl.1 rfl (Nat.le_of_ble_eq_true rfl) dX5_readStatement_91 ⟨Nat.le_of_ble_eq_true rfl, Nat.le_of_ble_eq_true rfl⟩ (fun H locs w => ?_)
          refine lv_aload_n hx hb dX5_readStatement_94 rfl (lv_at hl 3 rfl) ?_
          refine va_ldcS hx hb hown (B.2.2.2.2.1 1 _ _ rfl) dX5_readStatement_95 ?_
          obtain ⟨r19, er19, hf⟩ := ob_e hf
          refine kVi (As := [.ref (ak 1)]) (rest := []) F B w (tX5_spells er19 (by decide)) (cwV 1 hts gX5_readStatement_X5_spells rfl rfl rfl (by decide +kernel) ⟨Nat.le_of_ble_eq_true rfl, Nat.le_of_ble_eq_true rfl⟩) 4 gX_4 rfl rfl hl.1 rfl (Nat.le_of_ble_eq_true rfl) dX5_readStatement_97 ⟨Nat.le_of_ble_eq_true rfl, Nat.le_of_ble_eq_true rfl⟩ (fun H locs w => ?_)
          refine lv_if_ne (tgt := 105) hx hb dX5_readStatement_100 (by decide) (fun c20 => ?_) (fun c20 => ?_)
          · have hf := if_f hf c20
            refine lv_aload_n hx hb dX5_readStatement_105 rfl (lv_at hl 4 rfl) ?_
            refine lv_iload_n hx hb dX5_readStatement_106 rfl (lv_at hl 2 rfl) ?_
            refine lv_iload_n hx hb dX5_readStatement_107 rfl (lv_at hl 1 rfl) ?_
            refine lv_iload hx hb dX5_readStatement_108 (lv_at hl 0 rfl) ?_
            obtain ⟨S22, er21, hf⟩ := ob_e hf
            refine kVNv (As := [.int r1, .int 0, .int r15]) (rest := []) F B w (tX3_rule er21) ⟨va_cnB 3 hts gX5_readStatement_X3_rule_n61 rfl rfl rfl (B.2.1.m 13 rfl) (hts (.initialized RX3) (by decide +kernel)) (by decide +kernel) ⟨Nat.le_of_ble_eq_true rfl, Nat.le_of_ble_eq_true rfl⟩, hts (.instanceMethod yX3_rule) (by decide +kernel), hts (.selects RX3 yX3_rule yX3_rule) (by decide +kernel)⟩ 11 gX_11 rfl rfl hl.1 rfl (Nat.le_of_ble_eq_true rfl) dX5_readStatement_110 ⟨Nat.le_of_ble_eq_true rfl, Nat.le_of_ble_eq_true rfl⟩ (fun H locs w => ?_)
            refine lv_iconst (v := 1) hx hb dX5_readStatement_113 (by decide) ?_
            cases hf
            exact hQ _ _ _ _ dX5_readStatement_114 (by decide) w
          · have hf := if_t hf c20
            refine lv_iconst (v := 0) hx hb dX5_readStatement_103 (by decide) ?_
            cases hf
            exact hQ _ _ _ _ dX5_readStatement_104 (by decide) w
        · have hf := if_t hf c16
          refine lv_iconst (v := 0) hx hb dX5_readStatement_88 (by decide) ?_
          cases hf
          exact hQ _ _ _ _ dX5_readStatement_89 (by decide) w
    · have hf := if_t hf c3
      refine lv_aload_n hx hb dX5_readStatement_19 rfl (lv_at hl 2 rfl) ?_
      obtain ⟨S24, er23, hf⟩ := ob_e hf
      refine kVv (As := []) (rest := []) F B w (tX5_nextToken er23) (cwV 0 hts gX5_readStatement_X5_nextToken rfl rfl rfl (by decide +kernel) ⟨Nat.le_of_ble_eq_true rfl, Nat.le_of_ble_eq_true rfl⟩) 4 gX_4 rfl rfl hl.1 rfl (Nat.le_of_ble_eq_true rfl) dX5_readStatement_20 ⟨Nat.le_of_ble_eq_true rfl, Nat.le_of_ble_eq_true rfl⟩ (fun H locs w => ?_)
      refine lv_aload_n hx hb dX5_readStatement_23 rfl (lv_at hl 2 rfl) ?_
      refine lv_iconst (v := 0) hx hb dX5_readStatement_24 (by decide) ?_
      refine lv_iconst (v := 3) hx hb dX5_readStatement_25 (by decide) ?_
      obtain ⟨r25, er25, hf⟩ := ob_e hf
      refine kVi (As := [.int 0, .int 3]) (rest := []) F B w (tX5_number er25) (cwV 2 hts gX5_readStatement_X5_number rfl rfl rfl (by decide +kernel) ⟨Nat.le_of_ble_eq_true rfl, Nat.le_of_ble_eq_true rfl⟩) 4 gX_4 rfl rfl hl.1 rfl (Nat.le_of_ble_eq_true rfl) dX5_readStatement_26 ⟨Nat.le_of_ble_eq_true rfl, Nat.le_of_ble_eq_true rfl⟩ (fun H locs w => ?_)
      refine lv_istore_n (lv' := [(3, .int r25), (2, .int r1), (0, .ref (ad 4)), (1, .ref (ad 11))]) hx hb dX5_readStatement_29 rfl hl (by decide) rfl (fun ls hl => ?_)
      refine lv_iload_n hx hb dX5_readStatement_30 rfl (lv_at hl 0 rfl) ?_
      refine lv_iconst (v := (-1)) hx hb dX5_readStatement_31 (by decide) ?_
      refine lv_icmp_ne (tgt := 37) hx hb dX5_readStatement_32 (by decide) (fun c26 => ?_) (fun c26 => ?_)
      · have hf := if_f hf c26
        refine lv_aload_n hx hb dX5_readStatement_37 rfl (lv_at hl 2 rfl) ?_
        obtain ⟨S28, er27, hf⟩ := ob_e hf
        refine kVv (As := []) (rest := []) F B w (tX5_nextToken er27) (cwV 0 hts gX5_readStatement_X5_nextToken rfl rfl rfl (by decide +kernel) ⟨Nat.le_of_ble_eq_true rfl, Nat.le_of_ble_eq_true rfl⟩) 4 gX_4 rfl rfl hl.1 rfl (Nat.le_of_ble_eq_true rfl) dX5_readStatement_38 ⟨Nat.le_of_ble_eq_true rfl, Nat.le_of_ble_eq_true rfl⟩ (fun H locs w => ?_)
        refine lv_aload_n hx hb dX5_readStatement_41 rfl (lv_at hl 2 rfl) ?_
        refine va_ldcS hx hb hown (B.2.2.2.2.1 0 _ _ rfl) dX5_readStatement_42 ?_
        obtain ⟨r29, er29, hf⟩ := ob_e hf
        refine kVi (As := [.ref (ak 0)]) (rest := []) F B w (tX5_spells er29 (by decide)) (cwV 1 hts gX5_readStatement_X5_spells rfl rfl rfl (by decide +kernel) ⟨Nat.le_of_ble_eq_true rfl, Nat.le_of_ble_eq_true rfl⟩) 4 gX_4 rfl rfl hl.1 rfl (Nat.le_of_ble_eq_true rfl) dX5_readStatement_44 ⟨Nat.le_of_ble_eq_true rfl, Nat.le_of_ble_eq_true rfl⟩ (fun H locs w => ?_)
        refine lv_if_ne (tgt := 52) hx hb dX5_readStatement_47 (by decide) (fun c30 => ?_) (fun c30 => ?_)
        · have hf := if_f hf c30
          refine lv_aload_n hx hb dX5_readStatement_52 rfl (lv_at hl 2 rfl) ?_
          obtain ⟨S32, er31, hf⟩ := ob_e hf
          refine kVv (As := []) (rest := []) F B w (tX5_nextToken er31) (cwV 0 hts gX5_readStatement_X5_nextToken rfl rfl rfl (by decide +kernel) ⟨Nat.le_of_ble_eq_true rfl, Nat.le_of_ble_eq_true rfl⟩) 4 gX_4 rfl rfl hl.1 rfl (Nat.le_of_ble_eq_true rfl) dX5_readStatement_53 ⟨Nat.le_of_ble_eq_true rfl, Nat.le_of_ble_eq_true rfl⟩ (fun H locs w => ?_)
          refine lv_iload_n hx hb dX5_readStatement_56 rfl (lv_at hl 1 rfl) ?_
          refine lv_bipush (v := 6) hx hb dX5_readStatement_57 (by decide) ?_
          refine lv_icmp_ne (tgt := 72) hx hb dX5_readStatement_59 (by decide) (fun c33 => ?_) (fun c33 => ?_)
          · have hf := if_f hf c33
            refine lv_aload_n hx hb dX5_readStatement_72 rfl (lv_at hl 2 rfl) ?_
            refine lv_iconst (v := 0) hx hb dX5_readStatement_73 (by decide) ?_
            refine lv_sipush (v := 9999) hx hb dX5_readStatement_74 (by decide) ?_
            obtain ⟨r34, er34, hf⟩ := ob_e hf
            refine kVi (As := [.int 0, .int 9999]) (rest := []) F B w (tX5_number er34) (cwV 2 hts gX5_readStatement_X5_number rfl rfl rfl (by decide +kernel) ⟨Nat.le_of_ble_eq_true rfl, Nat.le_of_ble_eq_true rfl⟩) 4 gX_4 rfl rfl hl.1 rfl (Nat.le_of_ble_eq_true rfl) dX5_readStatement_77 ⟨Nat.le_of_ble_eq_true rfl, Nat.le_of_ble_eq_true rfl⟩ (fun H locs w => ?_)
            refine lv_istore (lv' := [(4, .int r34), (3, .int r25), (2, .int r1), (0, .ref (ad 4)), (1, .ref (ad 11))]) hx hb dX5_readStatement_80 hl (by decide) rfl (fun ls hl => ?_)
            refine lv_iload hx hb dX5_readStatement_82 (lv_at hl 0 rfl) ?_
            refine lv_iconst (v := (-1)) hx hb dX5_readStatement_84 (by decide) ?_
            refine lv_icmp_ne (tgt := 90) hx hb dX5_readStatement_85 (by decide) (fun c35 => ?_) (fun c35 => ?_)
            · have hf := if_f hf c35
              refine lv_aload_n hx hb dX5_readStatement_90 rfl (lv_at hl 3 rfl) ?_
              obtain ⟨S37, er36, hf⟩ := ob_e hf
              refine kVv (As := []) (rest := []) F B w (tX5_nextToken er36) (cwV 0 hts gX5_readStatement_X5_nextToken rfl rfl rfl (by decide +kernel) ⟨Nat.le_of_ble_eq_true rfl, Nat.le_of_ble_eq_true rfl⟩) 4 gX_4 rfl rfl hl.1 rfl (Nat.le_of_ble_eq_true rfl) dX5_readStatement_91 ⟨Nat.le_of_ble_eq_true rfl, Nat.le_of_ble_eq_true rfl⟩ (fun H locs w => ?_)
              refine lv_aload_n hx hb dX5_readStatement_94 rfl (lv_at hl 3 rfl) ?_
              refine va_ldcS hx hb hown (B.2.2.2.2.1 1 _ _ rfl) dX5_readStatement_95 ?_
              obtain ⟨r38, er38, hf⟩ := ob_e hf
              refine kVi (As := [.ref (ak 1)]) (rest := []) F B w (tX5_spells er38 (by decide)) (cwV 1 hts gX5_readStatement_X5_spells rfl rfl rfl (by decide +kernel) ⟨Nat.le_of_ble_eq_true rfl, Nat.le_of_ble_eq_true rfl⟩) 4 gX_4 rfl rfl hl.1 rfl (Nat.le_of_ble_eq_true rfl) dX5_readStatement_97 ⟨Nat.le_of_ble_eq_true rfl, Nat.le_of_ble_eq_true rfl⟩ (fun H locs w => ?_)
              refine lv_if_ne (tgt := 105) hx hb dX5_readStatement_100 (by decide) (fun c39 => ?_) (fun c39 => ?_)
              · have hf := if_f hf c39
                refine lv_aload_n hx hb dX5_readStatement_105 rfl (lv_at hl 4 rfl) ?_
                refine lv_iload_n hx hb dX5_readStatement_106 rfl (lv_at hl 2 rfl) ?_
                refine lv_iload_n hx hb dX5_readStatement_107 rfl (lv_at hl 1 rfl) ?_
                refine lv_iload hx hb dX5_readStatement_108 (lv_at hl 0 rfl) ?_
                obtain ⟨S41, er40, hf⟩ := ob_e hf
                refine kVNv (As := [.int r1, .int r25, .int r34]) (rest := []) F B w (tX3_rule er40) ⟨va_cnB 3 hts gX5_readStatement_X3_rule_n61 rfl rfl rfl (B.2.1.m 13 rfl) (hts (.initialized RX3) (by decide +kernel)) (by decide +kernel) ⟨Nat.le_of_ble_eq_true rfl, Nat.le_of_ble_eq_true rfl⟩, hts (.instanceMethod yX3_rule) (by decide +kernel), hts (.selects RX3 yX3_rule yX3_rule) (by decide +kernel)⟩ 11 gX_11 rfl rfl hl.1 rfl (Nat.le_of_ble_eq_true rfl) dX5_readStatement_110 ⟨Nat.le_of_ble_eq_true rfl, Nat.le_of_ble_eq_true rfl⟩ (fun H locs w => ?_)
                refine lv_iconst (v := 1) hx hb dX5_readStatement_113 (by decide) ?_
                cases hf
                exact hQ _ _ _ _ dX5_readStatement_114 (by decide) w
              · have hf := if_t hf c39
                refine lv_iconst (v := 0) hx hb dX5_readStatement_103 (by decide) ?_
                cases hf
                exact hQ _ _ _ _ dX5_readStatement_104 (by decide) w
            · have hf := if_t hf c35
              refine lv_iconst (v := 0) hx hb dX5_readStatement_88 (by decide) ?_
              cases hf
              exact hQ _ _ _ _ dX5_readStatement_89 (by decide) w
          · have hf := if_t hf c33
            refine lv_aload_n hx hb dX5_readStatement_62 rfl (lv_at hl 2 rfl) ?_
            refine lv_iconst (v := 1) hx hb dX5_readStatement_63 (by decide) ?_
            refine lv_bipush (v := 40) hx hb dX5_readStatement_64 (by decide) ?_
            obtain ⟨r42, er42, hf⟩ := ob_e hf
            refine kVi (As := [.int 1, .int 40]) (rest := []) F B w (tX5_number er42) (cwV 2 hts gX5_readStatement_X5_number rfl rfl rfl (by decide +kernel) ⟨Nat.le_of_ble_eq_true rfl, Nat.le_of_ble_eq_true rfl⟩) 4 gX_4 rfl rfl hl.1 rfl (Nat.le_of_ble_eq_true rfl) dX5_readStatement_66 ⟨Nat.le_of_ble_eq_true rfl, Nat.le_of_ble_eq_true rfl⟩ (fun H locs w => ?_)
            refine lv_goto (tgt := 80) hx hb dX5_readStatement_69 (by decide) ?_
            refine lv_istore (lv' := [(4, .int r42), (3, .int r25), (2, .int r1), (0, .ref (ad 4)), (1, .ref (ad 11))]) hx hb dX5_readStatement_80 hl (by decide) rfl (fun ls hl => ?_)
            refine lv_iload hx hb dX5_readStatement_82 (lv_at hl 0 rfl) ?_
            refine lv_iconst (v := (-1)) hx hb dX5_readStatement_84 (by decide) ?_
            refine lv_icmp_ne (tgt := 90) hx hb dX5_readStatement_85 (by decide) (fun c43 => ?_) (fun c43 => ?_)
            · have hf := if_f hf c43
              refine lv_aload_n hx hb dX5_readStatement_90 rfl (lv_at hl 3 rfl) ?_
              obtain ⟨S45, er44, hf⟩ := ob_e hf
              refine kVv (As := []) (rest := []) F B w (tX5_nextToken er44) (cwV 0 hts gX5_readStatement_X5_nextToken rfl rfl rfl (by decide +kernel) ⟨Nat.le_of_ble_eq_true rfl, Nat.le_of_ble_eq_true rfl⟩) 4 gX_4 rfl rfl hl.1 rfl (Nat.le_of_ble_eq_true rfl) dX5_readStatement_91 ⟨Nat.le_of_ble_eq_true rfl, Nat.le_of_ble_eq_true rfl⟩ (fun H locs w => ?_)
              refine lv_aload_n hx hb dX5_readStatement_94 rfl (lv_at hl 3 rfl) ?_
              refine va_ldcS hx hb hown (B.2.2.2.2.1 1 _ _ rfl) dX5_readStatement_95 ?_
              obtain ⟨r46, er46, hf⟩ := ob_e hf
              refine kVi (As := [.ref (ak 1)]) (rest := []) F B w (tX5_spells er46 (by decide)) (cwV 1 hts gX5_readStatement_X5_spells rfl rfl rfl (by decide +kernel) ⟨Nat.le_of_ble_eq_true rfl, Nat.le_of_ble_eq_true rfl⟩) 4 gX_4 rfl rfl hl.1 rfl (Nat.le_of_ble_eq_true rfl) dX5_readStatement_97 ⟨Nat.le_of_ble_eq_true rfl, Nat.le_of_ble_eq_true rfl⟩ (fun H locs w => ?_)
              refine lv_if_ne (tgt := 105) hx hb dX5_readStatement_100 (by decide) (fun c47 => ?_) (fun c47 => ?_)
              · have hf := if_f hf c47
                refine lv_aload_n hx hb dX5_readStatement_105 rfl (lv_at hl 4 rfl) ?_
                refine lv_iload_n hx hb dX5_readStatement_106 rfl (lv_at hl 2 rfl) ?_
                refine lv_iload_n hx hb dX5_readStatement_107 rfl (lv_at hl 1 rfl) ?_
                refine lv_iload hx hb dX5_readStatement_108 (lv_at hl 0 rfl) ?_
                obtain ⟨S49, er48, hf⟩ := ob_e hf
                refine kVNv (As := [.int r1, .int r25, .int r42]) (rest := []) F B w (tX3_rule er48) ⟨va_cnB 3 hts gX5_readStatement_X3_rule_n61 rfl rfl rfl (B.2.1.m 13 rfl) (hts (.initialized RX3) (by decide +kernel)) (by decide +kernel) ⟨Nat.le_of_ble_eq_true rfl, Nat.le_of_ble_eq_true rfl⟩, hts (.instanceMethod yX3_rule) (by decide +kernel), hts (.selects RX3 yX3_rule yX3_rule) (by decide +kernel)⟩ 11 gX_11 rfl rfl hl.1 rfl (Nat.le_of_ble_eq_true rfl) dX5_readStatement_110 ⟨Nat.le_of_ble_eq_true rfl, Nat.le_of_ble_eq_true rfl⟩ (fun H locs w => ?_)
                refine lv_iconst (v := 1) hx hb dX5_readStatement_113 (by decide) ?_
                cases hf
                exact hQ _ _ _ _ dX5_readStatement_114 (by decide) w
              · have hf := if_t hf c47
                refine lv_iconst (v := 0) hx hb dX5_readStatement_103 (by decide) ?_
                cases hf
                exact hQ _ _ _ _ dX5_readStatement_104 (by decide) w
            · have hf := if_t hf c43
              refine lv_iconst (v := 0) hx hb dX5_readStatement_88 (by decide) ?_
              cases hf
              exact hQ _ _ _ _ dX5_readStatement_89 (by decide) w
        · have hf := if_t hf c30
          refine lv_iconst (v := 0) hx hb dX5_readStatement_50 (by decide) ?_
          cases hf
          exact hQ _ _ _ _ dX5_readStatement_51 (by decide) w
      · have hf := if_t hf c26
        refine lv_iconst (v := 0) hx hb dX5_readStatement_35 (by decide) ?_
        cases hf
        exact hQ _ _ _ _ dX5_readStatement_36 (by decide) w
  · have hf := if_t hf c2
    refine lv_iconst (v := 0) hx hb dX5_readStatement_10 (by decide) ?_
    cases hf
    exact hQ _ _ _ _ dX5_readStatement_11 (by decide) w

def fX5_readAct_L29 (n : Nat) (k : Int32 → St → Option (Int32 × St)) : Nat → Int32 → St → Option (Int32 × St)
  | 0, _, _ => none
  | fu + 1, x3, S => if 16 < x3 then (k x3 S) else (ob (fX5_nextToken n S) fun S8 => if (S8.1 8) < (S8.1 7) then (if x3 = 16 then (lt_ (sS S8 10 (S8.1 8)) fun S11 => some (0, S11)) else (ob (fX5_readStatement n S8) fun q14 => lt_ q14.1 fun r12 => lt_ q14.2 fun S13 => if r12 = 0 then (lt_ (sS S13 10 (S13.1 8)) fun S16 => some (0, S16)) else (fX5_readAct_L29 n k fu (x3 + 1) S13))) else (some (1, S8)))
def fX5_readAct (n : Nat) (S : St) (x1 : Int32) : Option (Int32 × St) := lt_ (sS S 7 (if (400 : Int32) < x1 then 400 else x1)) fun S1 => lt_ (sS S1 9 0) fun S2 => lt_ (sS S2 10 (-1)) fun S3 => ob (fX3_clear n S3) fun S5 => fX5_readAct_L29 n (fun x17 S18 => some (0, S18)) n 0 S5
set_option maxRecDepth 20000 in
theorem inX5_readAct_5 : ∀ w ∈ u_ws RX5 TX5 5, w ∈ wsX5_readAct := by decide +kernel
set_option maxHeartbeats 4000000 in
set_option maxRecDepth 100000 in
theorem wX5_readAct_L29 {p : Program} {l : Launch} {e : Env} {s : State} {m : MethodId} {args : Array Value} {below : List Frame} {meth : Method} {c : Code} {Q : State → Prop} {D : va_G} {cc : Nat → ClassId} {ak av : Nat → Nat} {A : Nat → Prop} {ad : Nat → Nat} {g : Nat → Option Nat} {E : va_W} {n : Nat} {r : Int32} {S' : St} {k : Int32 → St → Option (Int32 × St)} (F : CallFix p m c cX5_readAct 4 s args wsX5_readAct RX5) (B : Bd D cc ak av A s) (hQ : RetZ p l e ({ frames := 7, cells := 0, slots := 0, locals := 151 } : Room) s m args below meth c D A Q cX5_readAct (WX cc ad g S' ++ E) r)
    (hk : ∀ (x3 : Int32) (S : St) (H : Heap) (locs : List Loc) (ls : Array Slot), Wd D A s.heap H locs (WX cc ad g S ++ E) → lv_has ls 4 [(0, .ref (ad 4)), (2, .ref (ad 11)), (3, .int x3)] → k x3 S = some (r, S') → W p l e ({ frames := 7, cells := 0, slots := 0, locals := 151 } : Room) s m args below meth c H locs 0 0 Q (F0 m 82 ls [])) :
    ∀ (fu : Nat) (x3 : Int32) (S : St) (H : Heap) (locs : List Loc) (ls : Array Slot), Wd D A s.heap H locs (WX cc ad g S ++ E) → lv_has ls 4 [(0, .ref (ad 4)), (2, .ref (ad 11)), (3, .int x3)] → fX5_readAct_L29 n k fu x3 S = some (r, S') → W p l e ({ frames := 7, cells := 0, slots := 0, locals := 151 } : Room) s m args below meth c H locs 0 0 Q (F0 m 29 ls []) := by
  have hx := F.1
  have hb := F.2.1
  have hown := F.2.2.2.1
  have hts := F.2.2.2.2
  intro fu
  induction fu with
  | zero => intro x3 S H locs ls w hl hf; rw [fX5_readAct_L29] at hf; cases hf
  | succ fu ih =>
    intro x3 S H locs ls w hl hf
    rw [fX5_readAct_L29] at hf
    refine lv_iload_n hx hb dX5_readAct_29 rfl (lv_at hl 2 rfl) ?_
    refine lv_bipush (v := 16) hx hb dX5_readAct_30 (by decide) ?_
    refine lv_icmp_gt (tgt := 82) hx hb dX5_readAct_32 (by decide) (fun c6 => ?_) (fun c6 => ?_)
    · have hf := if_t hf c6
      exact hk _ _ _ _ _ w (lv_sub hl [0, 1, 2] rfl) hf
    · have hf := if_f hf c6
      refine lv_aload_n hx hb dX5_readAct_35 rfl (lv_at hl 0 rfl) ?_
      obtain ⟨S8, er7, hf⟩ := ob_e hf
      refine kVv (As := []) (rest := []) F B w (tX5_nextToken er7) (cwV 0 hts gX5_readAct_X5_nextToken rfl rfl rfl (by decide +kernel) ⟨Nat.le_of_ble_eq_true rfl, Nat.le_of_ble_eq_true rfl⟩) 4 gX_4 rfl rfl hl.1 rfl (Nat.le_of_ble_eq_true rfl) dX5_readAct_36 ⟨Nat.le_of_ble_eq_true rfl, Nat.le_of_ble_eq_true rfl⟩ (fun H locs w => ?_)
      refine lv_aload_n hx hb dX5_readAct_39 rfl (lv_at hl 0 rfl) ?_
      refine kget (v := .int (S8.1 8)) F B w inX5_readAct_5 4 gX_4 rfl 2 (by decide) (hts (.fieldLink RX5 39 "LandReform$Reader" "tokenStart" "I") (by decide +kernel)) rfl rfl dX5_readAct_40 ?_
      refine lv_aload_n hx hb dX5_readAct_43 rfl (lv_at hl 0 rfl) ?_
      refine kget (v := .int (S8.1 7)) F B w inX5_readAct_5 4 gX_4 rfl 1 (by decide) (hts (.fieldLink RX5 25 "LandReform$Reader" "length" "I") (by decide +kernel)) rfl rfl dX5_readAct_44 ?_
      refine lv_icmp_lt (tgt := 52) hx hb dX5_readAct_47 (by decide) (fun c9 => ?_) (fun c9 => ?_)
      · have hf := if_t hf c9
        refine lv_iload_n hx hb dX5_readAct_52 rfl (lv_at hl 2 rfl) ?_
        refine lv_bipush (v := 16) hx hb dX5_readAct_53 (by decide) ?_
        refine lv_icmp_eq (tgt := 66) hx hb dX5_readAct_55 (by decide) (fun c10 => ?_) (fun c10 => ?_)
        · have hf := if_t hf c10
          refine lv_aload_n hx hb dX5_readAct_66 rfl (lv_at hl 0 rfl) ?_
          refine lv_aload_n hx hb dX5_readAct_67 rfl (lv_at hl 0 rfl) ?_
          refine kget (v := .int (S8.1 8)) F B w inX5_readAct_5 4 gX_4 rfl 2 (by decide) (hts (.fieldLink RX5 39 "LandReform$Reader" "tokenStart" "I") (by decide +kernel)) rfl rfl dX5_readAct_68 ?_
          refine kput (ty := .int) F B w inX5_readAct_5 tyX5 tyX5_ok nmX5 4 gX_4 rfl 4 (by decide) (hts (.fieldLink RX5 9 "LandReform$Reader" "fault" "I") (by decide +kernel)) rfl rfl (by decide +kernel) rfl rfl (Nat.le_of_ble_eq_true rfl) pX_10 dX5_readAct_71 (fun H locs w => ?_)
          obtain ⟨S11, eS11⟩ : ∃ z, z = sS S8 10 (S8.1 8) := ⟨_, rfl⟩
          rw [← eS11] at w
          have hf := lt_e hf eS11
          refine lv_iconst (v := 0) hx hb dX5_readAct_74 (by decide) ?_
          cases hf
          exact hQ _ _ _ _ dX5_readAct_75 (by decide) w
        · have hf := if_f hf c10
          refine lv_aload_n hx hb dX5_readAct_58 rfl (lv_at hl 0 rfl) ?_
          refine lv_aload_n hx hb dX5_readAct_59 rfl (lv_at hl 1 rfl) ?_
          obtain ⟨⟨r12, S13⟩, er12, hf⟩ := ob_e hf
          have hf := lt_e hf (v := r12) rfl
          have hf := lt_e hf (v := S13) rfl
          refine kVi (As := [.ref (ad 11)]) (rest := []) F B w (tX5_readStatement er12) (cwV 1 hts gX5_readAct_X5_readStatement rfl rfl rfl (by decide +kernel) ⟨Nat.le_of_ble_eq_true rfl, Nat.le_of_ble_eq_true rfl⟩) 4 gX_4 rfl rfl hl.1 rfl (Nat.le_of_ble_eq_true rfl) dX5_readAct_60 ⟨Nat.le_of_ble_eq_true rfl, Nat.le_of_ble_eq_true rfl⟩ (fun H locs w => ?_)
          refine lv_if_ne (tgt := 76) hx hb dX5_readAct_63 (by decide) (fun c15 => ?_) (fun c15 => ?_)
          · have hf := if_f hf c15
            refine lv_iinc (v := (x3 + 1)) (lv' := [(3, .int (x3 + 1)), (0, .ref (ad 4)), (2, .ref (ad 11))]) hx hb dX5_readAct_76 hl (k := 2) rfl rfl (by decide) rfl (fun ls hl => ?_)
            refine lv_goto (tgt := 29) hx hb dX5_readAct_79 (by decide) ?_
            exact ih _ _ _ _ _ w (lv_sub hl [1, 2, 0] rfl) hf
          · have hf := if_t hf c15
            refine lv_aload_n hx hb dX5_readAct_66 rfl (lv_at hl 0 rfl) ?_
            refine lv_aload_n hx hb dX5_readAct_67 rfl (lv_at hl 0 rfl) ?_
            refine kget (v := .int (S13.1 8)) F B w inX5_readAct_5 4 gX_4 rfl 2 (by decide) (hts (.fieldLink RX5 39 "LandReform$Reader" "tokenStart" "I") (by decide +kernel)) rfl rfl dX5_readAct_68 ?_
            refine kput (ty := .int) F B w inX5_readAct_5 tyX5 tyX5_ok nmX5 4 gX_4 rfl 4 (by decide) (hts (.fieldLink RX5 9 "LandReform$Reader" "fault" "I") (by decide +kernel)) rfl rfl (by decide +kernel) rfl rfl (Nat.le_of_ble_eq_true rfl) pX_10 dX5_readAct_71 (fun H locs w => ?_)
            obtain ⟨S16, eS16⟩ : ∃ z, z = sS S13 10 (S13.1 8) := ⟨_, rfl⟩
            rw [← eS16] at w
            have hf := lt_e hf eS16
            refine lv_iconst (v := 0) hx hb dX5_readAct_74 (by decide) ?_
            cases hf
            exact hQ _ _ _ _ dX5_readAct_75 (by decide) w
      · have hf := if_f hf c9
        refine lv_iconst (v := 1) hx hb dX5_readAct_50 (by decide) ?_
        cases hf
        exact hQ _ _ _ _ dX5_readAct_51 (by decide) w
set_option maxHeartbeats 4000000 in
set_option maxRecDepth 100000 in
theorem tX5_readAct {l : Launch} {D : va_G} {cc : Nat → ClassId} {ak av : Nat → Nat} {ad : Nat → Nat} {g : Nat → Option Nat} {E : va_W} {n : Nat} {S : St} {x1 : Int32} {r : Int32} {S' : St} (hf : fX5_readAct n S x1 = some (r, S')) : CI l yX5_readAct wsX5_readAct ({ frames := 7, cells := 0, slots := 0, locals := 151 } : Room) D cc ak av [.ref (ad 4), .int x1, .ref (ad 11)] (WX cc ad g S ++ E) (WX cc ad g S' ++ E) r := by
  refine mkZ (c0 := cX5_readAct) (nL := 4) (own := RX5) rfl rfl (by decide) rfl rfl (Nat.le_of_ble_eq_true rfl) ?_
  intro p e s m args below meth c A Q ls F B hQ hl w
  have hx := F.1
  have hb := F.2.1
  have hown := F.2.2.2.1
  have hts := F.2.2.2.2
  have hl : lv_has ls 4 [(0, .ref (ad 4)), (1, .int x1), (2, .ref (ad 11))] := hl
  unfold fX5_readAct at hf
  refine lv_aload_n hx hb dX5_readAct_0 rfl (lv_at hl 0 rfl) ?_
  refine lv_iload_n hx hb dX5_readAct_1 rfl (lv_at hl 1 rfl) ?_
  refine lv_aload_n hx hb dX5_readAct_2 rfl (lv_at hl 0 rfl) ?_
  refine kget (v := .ref (ad 24)) F B w inX5_readAct_5 4 gX_4 rfl 0 (by decide) (hts (.fieldLink RX5 15 "LandReform$Reader" "text" "[B") (by decide +kernel)) rfl rfl dX5_readAct_3 ?_
  refine kalen (v := 400) F B w 24 1 gX_24 rfl rfl dX5_readAct_6 ?_
  refine va_mmin hx hb (by rw [hl.1]; exact F.2.2.1) hown (hts (.methodLink RX5 19 Lib.Math.min.name) (by decide +kernel)) (hts (.static Lib.Math.min.name) (by decide +kernel)) (hts (.initialized "java/lang/Math") (by decide +kernel)) (hts (.code Lib.Math.min.name Lib.Math.min.code 2 (some .int)) (by decide +kernel)) (Nat.le_of_ble_eq_true rfl) (Nat.le_of_ble_eq_true rfl) (Nat.le_of_ble_eq_true rfl) (Nat.le_of_ble_eq_true rfl) dX5_readAct_7 ?_
  refine kput (ty := .int) F B w inX5_readAct_5 tyX5 tyX5_ok nmX5 4 gX_4 rfl 1 (by decide) (hts (.fieldLink RX5 25 "LandReform$Reader" "length" "I") (by decide +kernel)) rfl rfl (by decide +kernel) rfl rfl (Nat.le_of_ble_eq_true rfl) pX_7 dX5_readAct_10 (fun H locs w => ?_)
  obtain ⟨S1, eS1⟩ : ∃ z, z = sS S 7 (if (400 : Int32) < x1 then 400 else x1) := ⟨_, rfl⟩
  rw [← eS1] at w
  have hf := lt_e hf eS1
  refine lv_aload_n hx hb dX5_readAct_13 rfl (lv_at hl 0 rfl) ?_
  refine lv_iconst (v := 0) hx hb dX5_readAct_14 (by decide) ?_
  refine kput (ty := .int) F B w inX5_readAct_5 tyX5 tyX5_ok nmX5 4 gX_4 rfl 3 (by decide) (hts (.fieldLink RX5 28 "LandReform$Reader" "tokenEnd" "I") (by decide +kernel)) rfl rfl (by decide +kernel) rfl rfl (Nat.le_of_ble_eq_true rfl) pX_9 dX5_readAct_15 (fun H locs w => ?_)
  obtain ⟨S2, eS2⟩ : ∃ z, z = sS S1 9 0 := ⟨_, rfl⟩
  rw [← eS2] at w
  have hf := lt_e hf eS2
  refine lv_aload_n hx hb dX5_readAct_18 rfl (lv_at hl 0 rfl) ?_
  refine lv_iconst (v := (-1)) hx hb dX5_readAct_19 (by decide) ?_
  refine kput (ty := .int) F B w inX5_readAct_5 tyX5 tyX5_ok nmX5 4 gX_4 rfl 4 (by decide) (hts (.fieldLink RX5 9 "LandReform$Reader" "fault" "I") (by decide +kernel)) rfl rfl (by decide +kernel) rfl rfl (Nat.le_of_ble_eq_true rfl) pX_10 dX5_readAct_20 (fun H locs w => ?_)
  obtain ⟨S3, eS3⟩ : ∃ z, z = sS S2 10 (-1) := ⟨_, rfl⟩
  rw [← eS3] at w
  have hf := lt_e hf eS3
  refine lv_aload_n hx hb dX5_readAct_23 rfl (lv_at hl 2 rfl) ?_
  obtain ⟨S5, er4, hf⟩ := ob_e hf
  refine kVNv (As := []) (rest := []) F B w (tX3_clear er4) ⟨va_cnB 0 hts gX5_readAct_X3_clear_n31 rfl rfl rfl (B.2.1.m 12 rfl) (hts (.initialized RX3) (by decide +kernel)) (by decide +kernel) ⟨Nat.le_of_ble_eq_true rfl, Nat.le_of_ble_eq_true rfl⟩, hts (.instanceMethod yX3_clear) (by decide +kernel), hts (.selects RX3 yX3_clear yX3_clear) (by decide +kernel)⟩ 11 gX_11 rfl rfl hl.1 rfl (Nat.le_of_ble_eq_true rfl) dX5_readAct_24 ⟨Nat.le_of_ble_eq_true rfl, Nat.le_of_ble_eq_true rfl⟩ (fun H locs w => ?_)
  refine lv_iconst (v := 0) hx hb dX5_readAct_27 (by decide) ?_
  refine lv_istore_n (lv' := [(3, .int 0), (0, .ref (ad 4)), (1, .int x1), (2, .ref (ad 11))]) hx hb dX5_readAct_28 rfl hl (by decide) rfl (fun ls hl => ?_)
  refine wX5_readAct_L29 F B hQ (fun x17 S18 H locs ls w hl hf => ?_) n _ _ _ _ _ w (lv_sub hl [1, 3, 0] rfl) hf
  refine lv_iconst (v := 0) hx hb dX5_readAct_82 (by decide) ?_
  cases hf
  exact hQ _ _ _ _ dX5_readAct_83 (by decide) w
