def fX11_feed (n : Nat) (S : St) (x1 : Int32) (x2 : Int32) (x3 : Int32) (x4 : Int32) (x5 : Int32) : Option (Int32 × St) := if ((S.1 20) + 20) ≤ 400 then (ob (fX11_four n S x1) fun S3 => ob (fX11_four n S3 x2) fun S5 => ob (fX11_four n S5 x3) fun S7 => ob (fX11_four n S7 x4) fun S9 => ob (fX11_four n S9 x5) fun S11 => some ((S11.1 20), S11)) else (some ((-1), S))
set_option maxRecDepth 20000 in
theorem inX11_feed_11 : ∀ w ∈ u_ws RX11 TX11 47, w ∈ wsX11_feed := by decide +kernel
set_option maxHeartbeats 4000000 in
set_option maxRecDepth 100000 in
theorem tX11_feed {l : Launch} {D : va_G} {cc : Nat → ClassId} {ak av : Nat → Nat} {ad : Nat → Nat} {E : va_W} {n : Nat} {S : St} {x1 : Int32} {x2 : Int32} {x3 : Int32} {x4 : Int32} {x5 : Int32} {r : Int32} {S' : St} (hf : fX11_feed n S x1 x2 x3 x4 x5 = some (r, S')) : CI l yX11_feed wsX11_feed ({ frames := 1, cells := 0, slots := 0, locals := 22 } : Room) D cc ak av [.ref (ad 0), .int x1, .int x2, .int x3, .int x4, .int x5] (WM cc ad S ++ E) (WM cc ad S' ++ E) r := by
  refine mkI (c0 := cX11_feed) (nL := 6) (own := RX11) rfl rfl (by decide) rfl rfl (Nat.le_of_ble_eq_true rfl) ?_
  intro p e s m args below meth c A Q ls F B hQ hl w
  have hx := F.1
  have hb := F.2.1
  have hown := F.2.2.2.1
  have hts := F.2.2.2.2
  have hl : lv_has ls 6 [(0, .ref (ad 0)), (1, .int x1), (2, .int x2), (3, .int x3), (4, .int x4), (5, .int x5)] := hl
  unfold fX11_feed at hf
  refine lv_aload_n hx hb dX11_feed_0 rfl (lv_at hl 0 rfl) ?_
  refine kget (v := .int (S.1 20)) F B w inX11_feed_11 0 gM_0 rfl 20 (by decide) (hts (.fieldLink RX11 151 "LandReformModel" "taped" "I") (by decide +kernel)) rfl rfl dX11_feed_1 ?_
  refine lv_bipush (v := 20) hx hb dX11_feed_4 (by decide) ?_
  refine lv_iadd hx hb dX11_feed_6 ?_
  refine lv_sipush (v := 400) hx hb dX11_feed_7 (by decide) ?_
  refine lv_icmp_le (tgt := 15) hx hb dX11_feed_10 (by decide) (fun c1 => ?_) (fun c1 => ?_)
  · have hf := if_t hf c1
    refine lv_aload_n hx hb dX11_feed_15 rfl (lv_at hl 0 rfl) ?_
    refine lv_iload_n hx hb dX11_feed_16 rfl (lv_at hl 1 rfl) ?_
    obtain ⟨S3, er2, hf⟩ := ob_e hf
    refine kVv (As := [.int x1]) (rest := []) F B w (tX11_four er2) (cwV 1 hts gX11_feed_X11_four rfl rfl rfl (by decide +kernel) ⟨Nat.le_of_ble_eq_true rfl, Nat.le_of_ble_eq_true rfl⟩) 0 gM_0 rfl rfl hl.1 rfl (Nat.le_of_ble_eq_true rfl) dX11_feed_17 ⟨Nat.le_of_ble_eq_true rfl, Nat.le_of_ble_eq_true rfl⟩ (fun H locs w => ?_)
    refine lv_aload_n hx hb dX11_feed_20 rfl (lv_at hl 0 rfl) ?_
    refine lv_iload_n hx hb dX11_feed_21 rfl (lv_at hl 2 rfl) ?_
    obtain ⟨S5, er4, hf⟩ := ob_e hf
    refine kVv (As := [.int x2]) (rest := []) F B w (tX11_four er4) (cwV 1 hts gX11_feed_X11_four rfl rfl rfl (by decide +kernel) ⟨Nat.le_of_ble_eq_true rfl, Nat.le_of_ble_eq_true rfl⟩) 0 gM_0 rfl rfl hl.1 rfl (Nat.le_of_ble_eq_true rfl) dX11_feed_22 ⟨Nat.le_of_ble_eq_true rfl, Nat.le_of_ble_eq_true rfl⟩ (fun H locs w => ?_)
    refine lv_aload_n hx hb dX11_feed_25 rfl (lv_at hl 0 rfl) ?_
    refine lv_iload_n hx hb dX11_feed_26 rfl (lv_at hl 3 rfl) ?_
    obtain ⟨S7, er6, hf⟩ := ob_e hf
    refine kVv (As := [.int x3]) (rest := []) F B w (tX11_four er6) (cwV 1 hts gX11_feed_X11_four rfl rfl rfl (by decide +kernel) ⟨Nat.le_of_ble_eq_true rfl, Nat.le_of_ble_eq_true rfl⟩) 0 gM_0 rfl rfl hl.1 rfl (Nat.le_of_ble_eq_true rfl) dX11_feed_27 ⟨Nat.le_of_ble_eq_true rfl, Nat.le_of_ble_eq_true rfl⟩ (fun H locs w => ?_)
    refine lv_aload_n hx hb dX11_feed_30 rfl (lv_at hl 0 rfl) ?_
    refine lv_iload hx hb dX11_feed_31 (lv_at hl 4 rfl) ?_
    obtain ⟨S9, er8, hf⟩ := ob_e hf
    refine kVv (As := [.int x4]) (rest := []) F B w (tX11_four er8) (cwV 1 hts gX11_feed_X11_four rfl rfl rfl (by decide +kernel) ⟨Nat.le_of_ble_eq_true rfl, Nat.le_of_ble_eq_true rfl⟩) 0 gM_0 rfl rfl hl.1 rfl (Nat.le_of_ble_eq_true rfl) dX11_feed_33 ⟨Nat.le_of_ble_eq_true rfl, Nat.le_of_ble_eq_true rfl⟩ (fun H locs w => ?_)
    refine lv_aload_n hx hb dX11_feed_36 rfl (lv_at hl 0 rfl) ?_
    refine lv_iload hx hb dX11_feed_37 (lv_at hl 5 rfl) ?_
    obtain ⟨S11, er10, hf⟩ := ob_e hf
    refine kVv (As := [.int x5]) (rest := []) F B w (tX11_four er10) (cwV 1 hts gX11_feed_X11_four rfl rfl rfl (by decide +kernel) ⟨Nat.le_of_ble_eq_true rfl, Nat.le_of_ble_eq_true rfl⟩) 0 gM_0 rfl rfl hl.1 rfl (Nat.le_of_ble_eq_true rfl) dX11_feed_39 ⟨Nat.le_of_ble_eq_true rfl, Nat.le_of_ble_eq_true rfl⟩ (fun H locs w => ?_)
    refine lv_aload_n hx hb dX11_feed_42 rfl (lv_at hl 0 rfl) ?_
    refine kget (v := .int (S11.1 20)) F B w inX11_feed_11 0 gM_0 rfl 20 (by decide) (hts (.fieldLink RX11 151 "LandReformModel" "taped" "I") (by decide +kernel)) rfl rfl dX11_feed_43 ?_
    cases hf
    exact hQ _ _ _ _ dX11_feed_46 w
  · have hf := if_f hf c1
    refine lv_iconst (v := (-1)) hx hb dX11_feed_13 (by decide) ?_
    cases hf
    exact hQ _ _ _ _ dX11_feed_14 w

def fX11_blanks_L0 (n : Nat) (k : St → Option St) : Nat → St → Option St
  | 0, _ => none
  | fu + 1, S => if (S.1 21) ≤ (S.1 22) then (k S) else (if (S.1 22) < 0 ∨ 400 ≤ Int32.toNatClampNeg (S.1 22) then none else if (S.2.1 19 (Int32.toNatClampNeg (S.1 22))) = 32 then (lt_ (sS S 22 ((S.1 22) + 1)) fun S4 => fX11_blanks_L0 n k fu S4) else (if (S.1 22) < 0 ∨ 400 ≤ Int32.toNatClampNeg (S.1 22) then none else if (S.2.1 19 (Int32.toNatClampNeg (S.1 22))) = 10 then (lt_ (sS S 22 ((S.1 22) + 1)) fun S7 => fX11_blanks_L0 n k fu S7) else (k S)))
def fX11_blanks (n : Nat) (S : St) : Option St := fX11_blanks_L0 n (fun S8 => some S8) n S
set_option maxRecDepth 20000 in
theorem inX11_blanks_11 : ∀ w ∈ u_ws RX11 TX11 47, w ∈ wsX11_blanks := by decide +kernel
set_option maxHeartbeats 4000000 in
set_option maxRecDepth 100000 in
theorem wX11_blanks_L0 {p : Program} {l : Launch} {e : Env} {s : State} {m : MethodId} {args : Array Value} {below : List Frame} {meth : Method} {c : Code} {Q : State → Prop} {D : va_G} {cc : Nat → ClassId} {ak av : Nat → Nat} {A : Nat → Prop} {ad : Nat → Nat} {E : va_W} {n : Nat} {S' : St} {k : St → Option St} (F : CallFix p m c cX11_blanks 1 s args wsX11_blanks RX11) (B : Bd D cc ak av A s) (hQ : RetV p l e ({ frames := 0, cells := 0, slots := 0, locals := 0 } : Room) s m args below meth c D A Q cX11_blanks (WM cc ad S' ++ E))
    (hk : ∀ (S : St) (H : Heap) (locs : List Loc) (ls : Array Slot), Wd D A s.heap H locs (WM cc ad S ++ E) → lv_has ls 1 [(0, .ref (ad 0))] → k S = some S' → W p l e ({ frames := 0, cells := 0, slots := 0, locals := 0 } : Room) s m args below meth c H locs 0 0 Q (F0 m 52 ls [])) :
    ∀ (fu : Nat) (S : St) (H : Heap) (locs : List Loc) (ls : Array Slot), Wd D A s.heap H locs (WM cc ad S ++ E) → lv_has ls 1 [(0, .ref (ad 0))] → fX11_blanks_L0 n k fu S = some S' → W p l e ({ frames := 0, cells := 0, slots := 0, locals := 0 } : Room) s m args below meth c H locs 0 0 Q (F0 m 0 ls []) := by
  have hx := F.1
  have hb := F.2.1
  have hown := F.2.2.2.1
  have hts := F.2.2.2.2
  intro fu
  induction fu with
  | zero => intro S H locs ls w hl hf; rw [fX11_blanks_L0] at hf; cases hf
  | succ fu ih =>
    intro S H locs ls w hl hf
    rw [fX11_blanks_L0] at hf
    refine lv_aload_n hx hb dX11_blanks_0 rfl (lv_at hl 0 rfl) ?_
    refine kget (v := .int (S.1 22)) F B w inX11_blanks_11 0 gM_0 rfl 22 (by decide) (hts (.fieldLink RX11 157 "LandReformModel" "at" "I") (by decide +kernel)) rfl rfl dX11_blanks_1 ?_
    refine lv_aload_n hx hb dX11_blanks_4 rfl (lv_at hl 0 rfl) ?_
    refine kget (v := .int (S.1 21)) F B w inX11_blanks_11 0 gM_0 rfl 21 (by decide) (hts (.fieldLink RX11 160 "LandReformModel" "size" "I") (by decide +kernel)) rfl rfl dX11_blanks_5 ?_
    refine lv_icmp_ge (tgt := 52) hx hb dX11_blanks_8 (by decide) (fun c1 => ?_) (fun c1 => ?_)
    · have hf := if_t hf c1
      exact hk _ _ _ _ w (lv_sub hl [0] rfl) hf
    · have hf := if_f hf c1
      refine lv_aload_n hx hb dX11_blanks_11 rfl (lv_at hl 0 rfl) ?_
      refine kget (v := .ref (ad 14)) F B w inX11_blanks_11 0 gM_0 rfl 19 (by decide) (hts (.fieldLink RX11 51 "LandReformModel" "text" "[B") (by decide +kernel)) rfl rfl dX11_blanks_12 ?_
      refine lv_aload_n hx hb dX11_blanks_15 rfl (lv_at hl 0 rfl) ?_
      refine kget (v := .int (S.1 22)) F B w inX11_blanks_11 0 gM_0 rfl 22 (by decide) (hts (.fieldLink RX11 157 "LandReformModel" "at" "I") (by decide +kernel)) rfl rfl dX11_blanks_16 ?_
      obtain ⟨g2, hf⟩ := if_g hf
      refine kbald F B w 14 gM_14 g2 dX11_blanks_19 ?_
      refine lv_bipush (v := 32) hx hb dX11_blanks_20 (by decide) ?_
      refine lv_icmp_eq (tgt := 39) hx hb dX11_blanks_22 (by decide) (fun c3 => ?_) (fun c3 => ?_)
      · have hf := if_t hf c3
        refine lv_aload_n hx hb dX11_blanks_39 rfl (lv_at hl 0 rfl) ?_
        refine lv_dup hx hb dX11_blanks_40 rfl ?_
        refine kget (v := .int (S.1 22)) F B w inX11_blanks_11 0 gM_0 rfl 22 (by decide) (hts (.fieldLink RX11 157 "LandReformModel" "at" "I") (by decide +kernel)) rfl rfl dX11_blanks_41 ?_
        refine lv_iconst (v := 1) hx hb dX11_blanks_44 (by decide) ?_
        refine lv_iadd hx hb dX11_blanks_45 ?_
        refine kput (ty := .int) F B w inX11_blanks_11 tyX11 tyX11_ok nmX11 0 gM_0 rfl 22 (by decide) (hts (.fieldLink RX11 157 "LandReformModel" "at" "I") (by decide +kernel)) rfl rfl (by decide +kernel) rfl rfl (Nat.le_of_ble_eq_true rfl) pM_22 dX11_blanks_46 (fun H locs w => ?_)
        obtain ⟨S4, eS4⟩ : ∃ z, z = sS S 22 ((S.1 22) + 1) := ⟨_, rfl⟩
        rw [← eS4] at w
        have hf := lt_e hf eS4
        refine lv_goto (tgt := 0) hx hb dX11_blanks_49 (by decide) ?_
        exact ih _ _ _ _ w (lv_sub hl [0] rfl) hf
      · have hf := if_f hf c3
        refine lv_aload_n hx hb dX11_blanks_25 rfl (lv_at hl 0 rfl) ?_
        refine kget (v := .ref (ad 14)) F B w inX11_blanks_11 0 gM_0 rfl 19 (by decide) (hts (.fieldLink RX11 51 "LandReformModel" "text" "[B") (by decide +kernel)) rfl rfl dX11_blanks_26 ?_
        refine lv_aload_n hx hb dX11_blanks_29 rfl (lv_at hl 0 rfl) ?_
        refine kget (v := .int (S.1 22)) F B w inX11_blanks_11 0 gM_0 rfl 22 (by decide) (hts (.fieldLink RX11 157 "LandReformModel" "at" "I") (by decide +kernel)) rfl rfl dX11_blanks_30 ?_
        obtain ⟨g5, hf⟩ := if_g hf
        refine kbald F B w 14 gM_14 g5 dX11_blanks_33 ?_
        refine lv_bipush (v := 10) hx hb dX11_blanks_34 (by decide) ?_
        refine lv_icmp_ne (tgt := 52) hx hb dX11_blanks_36 (by decide) (fun c6 => ?_) (fun c6 => ?_)
        · have hf := if_f hf c6
          exact hk _ _ _ _ w (lv_sub hl [0] rfl) hf
        · have hf := if_t hf c6
          refine lv_aload_n hx hb dX11_blanks_39 rfl (lv_at hl 0 rfl) ?_
          refine lv_dup hx hb dX11_blanks_40 rfl ?_
          refine kget (v := .int (S.1 22)) F B w inX11_blanks_11 0 gM_0 rfl 22 (by decide) (hts (.fieldLink RX11 157 "LandReformModel" "at" "I") (by decide +kernel)) rfl rfl dX11_blanks_41 ?_
          refine lv_iconst (v := 1) hx hb dX11_blanks_44 (by decide) ?_
          refine lv_iadd hx hb dX11_blanks_45 ?_
          refine kput (ty := .int) F B w inX11_blanks_11 tyX11 tyX11_ok nmX11 0 gM_0 rfl 22 (by decide) (hts (.fieldLink RX11 157 "LandReformModel" "at" "I") (by decide +kernel)) rfl rfl (by decide +kernel) rfl rfl (Nat.le_of_ble_eq_true rfl) pM_22 dX11_blanks_46 (fun H locs w => ?_)
          obtain ⟨S7, eS7⟩ : ∃ z, z = sS S 22 ((S.1 22) + 1) := ⟨_, rfl⟩
          rw [← eS7] at w
          have hf := lt_e hf eS7
          refine lv_goto (tgt := 0) hx hb dX11_blanks_49 (by decide) ?_
          exact ih _ _ _ _ w (lv_sub hl [0] rfl) hf
set_option maxHeartbeats 4000000 in
set_option maxRecDepth 100000 in
theorem tX11_blanks {l : Launch} {D : va_G} {cc : Nat → ClassId} {ak av : Nat → Nat} {ad : Nat → Nat} {E : va_W} {n : Nat} {S : St} {S' : St} (hf : fX11_blanks n S = some S') : CV l yX11_blanks wsX11_blanks ({ frames := 0, cells := 0, slots := 0, locals := 0 } : Room) D cc ak av [.ref (ad 0)] (WM cc ad S ++ E) (WM cc ad S' ++ E) := by
  refine mkV (c0 := cX11_blanks) (nL := 1) (own := RX11) rfl rfl (by decide) rfl rfl (Nat.le_of_ble_eq_true rfl) ?_
  intro p e s m args below meth c A Q ls F B hQ hl w
  have hx := F.1
  have hb := F.2.1
  have hown := F.2.2.2.1
  have hts := F.2.2.2.2
  have hl : lv_has ls 1 [(0, .ref (ad 0))] := hl
  unfold fX11_blanks at hf
  refine wX11_blanks_L0 F B hQ (fun S8 H locs ls w hl hf => ?_) n _ _ _ _ w (lv_sub hl [0] rfl) hf
  cases hf
  exact hQ _ _ _ _ dX11_blanks_52 w

def fX11_word_L14 (n : Nat) (k : Int64 → St → Option (Int64 × St)) : Nat → Int64 → St → Option (Int64 × St)
  | 0, _, _ => none
  | fu + 1, x1, S => if (S.1 21) ≤ (S.1 24) then (k x1 S) else (if (S.1 24) < 0 ∨ 400 ≤ Int32.toNatClampNeg (S.1 24) then none else if (S.2.1 19 (Int32.toNatClampNeg (S.1 24))) < 97 then (k x1 S) else (if (S.1 24) < 0 ∨ 400 ≤ Int32.toNatClampNeg (S.1 24) then none else if 122 < (S.2.1 19 (Int32.toNatClampNeg (S.1 24))) then (k x1 S) else (if 7 ≤ ((S.1 24) - (S.1 22)) then (lt_ (sS S 24 ((S.1 24) + 1)) fun S10 => fX11_word_L14 n k fu 0 S10) else (if (S.1 24) < 0 ∨ 400 ≤ Int32.toNatClampNeg (S.1 24) then none else lt_ ((x1 <<< (Int32.toInt64 8 &&& 63)) ||| (Int32.toInt64 (S.2.1 19 (Int32.toNatClampNeg (S.1 24))))) fun v12 => lt_ (sS S 24 ((S.1 24) + 1)) fun S13 => fX11_word_L14 n k fu v12 S13))))
def fX11_word (n : Nat) (S : St) : Option (Int64 × St) := ob (fX11_blanks n S) fun S2 => lt_ (sS S2 24 (S2.1 22)) fun S3 => fX11_word_L14 n (fun x14 S15 => if ((S15.1 24) - (S15.1 22)) ≤ 7 then (some (x14, S15)) else (some (0, S15))) n 0 S3
set_option maxRecDepth 20000 in
theorem inX11_word_11 : ∀ w ∈ u_ws RX11 TX11 47, w ∈ wsX11_word := by decide +kernel
set_option maxHeartbeats 4000000 in
set_option maxRecDepth 100000 in
theorem wX11_word_L14 {p : Program} {l : Launch} {e : Env} {s : State} {m : MethodId} {args : Array Value} {below : List Frame} {meth : Method} {c : Code} {Q : State → Prop} {D : va_G} {cc : Nat → ClassId} {ak av : Nat → Nat} {A : Nat → Prop} {ad : Nat → Nat} {E : va_W} {n : Nat} {r : Int64} {S' : St} {k : Int64 → St → Option (Int64 × St)} (F : CallFix p m c cX11_word 3 s args wsX11_word RX11) (B : Bd D cc ak av A s) (hQ : RetJ p l e ({ frames := 1, cells := 0, slots := 0, locals := 20 } : Room) s m args below meth c D A Q cX11_word (WM cc ad S' ++ E) r)
    (hk : ∀ (x1 : Int64) (S : St) (H : Heap) (locs : List Loc) (ls : Array Slot), Wd D A s.heap H locs (WM cc ad S ++ E) → lv_has ls 3 [(0, .ref (ad 0)), (1, .long x1)] → k x1 S = some (r, S') → W p l e ({ frames := 1, cells := 0, slots := 0, locals := 20 } : Room) s m args below meth c H locs 0 0 Q (F0 m 100 ls [])) :
    ∀ (fu : Nat) (x1 : Int64) (S : St) (H : Heap) (locs : List Loc) (ls : Array Slot), Wd D A s.heap H locs (WM cc ad S ++ E) → lv_has ls 3 [(0, .ref (ad 0)), (1, .long x1)] → fX11_word_L14 n k fu x1 S = some (r, S') → W p l e ({ frames := 1, cells := 0, slots := 0, locals := 20 } : Room) s m args below meth c H locs 0 0 Q (F0 m 14 ls []) := by
  have hx := F.1
  have hb := F.2.1
  have hown := F.2.2.2.1
  have hts := F.2.2.2.2
  intro fu
  induction fu with
  | zero => intro x1 S H locs ls w hl hf; rw [fX11_word_L14] at hf; cases hf
  | succ fu ih =>
    intro x1 S H locs ls w hl hf
    rw [fX11_word_L14] at hf
    refine lv_aload_n hx hb dX11_word_14 rfl (lv_at hl 0 rfl) ?_
    refine kget (v := .int (S.1 24)) F B w inX11_word_11 0 gM_0 rfl 24 (by decide) (hts (.fieldLink RX11 166 "LandReformModel" "wordEnd" "I") (by decide +kernel)) rfl rfl dX11_word_15 ?_
    refine lv_aload_n hx hb dX11_word_18 rfl (lv_at hl 0 rfl) ?_
    refine kget (v := .int (S.1 21)) F B w inX11_word_11 0 gM_0 rfl 21 (by decide) (hts (.fieldLink RX11 160 "LandReformModel" "size" "I") (by decide +kernel)) rfl rfl dX11_word_19 ?_
    refine lv_icmp_ge (tgt := 100) hx hb dX11_word_22 (by decide) (fun c4 => ?_) (fun c4 => ?_)
    · have hf := if_t hf c4
      exact hk _ _ _ _ _ w (lv_sub hl [0, 1] rfl) hf
    · have hf := if_f hf c4
      refine lv_aload_n hx hb dX11_word_25 rfl (lv_at hl 0 rfl) ?_
      refine kget (v := .ref (ad 14)) F B w inX11_word_11 0 gM_0 rfl 19 (by decide) (hts (.fieldLink RX11 51 "LandReformModel" "text" "[B") (by decide +kernel)) rfl rfl dX11_word_26 ?_
      refine lv_aload_n hx hb dX11_word_29 rfl (lv_at hl 0 rfl) ?_
      refine kget (v := .int (S.1 24)) F B w inX11_word_11 0 gM_0 rfl 24 (by decide) (hts (.fieldLink RX11 166 "LandReformModel" "wordEnd" "I") (by decide +kernel)) rfl rfl dX11_word_30 ?_
      obtain ⟨g5, hf⟩ := if_g hf
      refine kbald F B w 14 gM_14 g5 dX11_word_33 ?_
      refine lv_bipush (v := 97) hx hb dX11_word_34 (by decide) ?_
      refine lv_icmp_lt (tgt := 100) hx hb dX11_word_36 (by decide) (fun c6 => ?_) (fun c6 => ?_)
      · have hf := if_t hf c6
        exact hk _ _ _ _ _ w (lv_sub hl [0, 1] rfl) hf
      · have hf := if_f hf c6
        refine lv_aload_n hx hb dX11_word_39 rfl (lv_at hl 0 rfl) ?_
        refine kget (v := .ref (ad 14)) F B w inX11_word_11 0 gM_0 rfl 19 (by decide) (hts (.fieldLink RX11 51 "LandReformModel" "text" "[B") (by decide +kernel)) rfl rfl dX11_word_40 ?_
        refine lv_aload_n hx hb dX11_word_43 rfl (lv_at hl 0 rfl) ?_
        refine kget (v := .int (S.1 24)) F B w inX11_word_11 0 gM_0 rfl 24 (by decide) (hts (.fieldLink RX11 166 "LandReformModel" "wordEnd" "I") (by decide +kernel)) rfl rfl dX11_word_44 ?_
        obtain ⟨g7, hf⟩ := if_g hf
        refine kbald F B w 14 gM_14 g7 dX11_word_47 ?_
        refine lv_bipush (v := 122) hx hb dX11_word_48 (by decide) ?_
        refine lv_icmp_gt (tgt := 100) hx hb dX11_word_50 (by decide) (fun c8 => ?_) (fun c8 => ?_)
        · have hf := if_t hf c8
          exact hk _ _ _ _ _ w (lv_sub hl [0, 1] rfl) hf
        · have hf := if_f hf c8
          refine lv_aload_n hx hb dX11_word_53 rfl (lv_at hl 0 rfl) ?_
          refine kget (v := .int (S.1 24)) F B w inX11_word_11 0 gM_0 rfl 24 (by decide) (hts (.fieldLink RX11 166 "LandReformModel" "wordEnd" "I") (by decide +kernel)) rfl rfl dX11_word_54 ?_
          refine lv_aload_n hx hb dX11_word_57 rfl (lv_at hl 0 rfl) ?_
          refine kget (v := .int (S.1 22)) F B w inX11_word_11 0 gM_0 rfl 22 (by decide) (hts (.fieldLink RX11 157 "LandReformModel" "at" "I") (by decide +kernel)) rfl rfl dX11_word_58 ?_
          refine lv_isub hx hb dX11_word_61 ?_
          refine lv_bipush (v := 7) hx hb dX11_word_62 (by decide) ?_
          refine lv_icmp_ge (tgt := 85) hx hb dX11_word_64 (by decide) (fun c9 => ?_) (fun c9 => ?_)
          · have hf := if_t hf c9
            refine lv_lconst (v := 0) hx hb dX11_word_85 (by decide) ?_
            refine lv_lstore_n (lv' := [(1, .long 0), (0, .ref (ad 0))]) hx hb dX11_word_86 rfl hl (by decide) rfl (fun ls hl => ?_)
            refine lv_aload_n hx hb dX11_word_87 rfl (lv_at hl 1 rfl) ?_
            refine lv_dup hx hb dX11_word_88 rfl ?_
            refine kget (v := .int (S.1 24)) F B w inX11_word_11 0 gM_0 rfl 24 (by decide) (hts (.fieldLink RX11 166 "LandReformModel" "wordEnd" "I") (by decide +kernel)) rfl rfl dX11_word_89 ?_
            refine lv_iconst (v := 1) hx hb dX11_word_92 (by decide) ?_
            refine lv_iadd hx hb dX11_word_93 ?_
            refine kput (ty := .int) F B w inX11_word_11 tyX11 tyX11_ok nmX11 0 gM_0 rfl 24 (by decide) (hts (.fieldLink RX11 166 "LandReformModel" "wordEnd" "I") (by decide +kernel)) rfl rfl (by decide +kernel) rfl rfl (Nat.le_of_ble_eq_true rfl) pM_24 dX11_word_94 (fun H locs w => ?_)
            obtain ⟨S10, eS10⟩ : ∃ z, z = sS S 24 ((S.1 24) + 1) := ⟨_, rfl⟩
            rw [← eS10] at w
            have hf := lt_e hf eS10
            refine lv_goto (tgt := 14) hx hb dX11_word_97 (by decide) ?_
            exact ih _ _ _ _ _ w (lv_sub hl [1, 0] rfl) hf
          · have hf := if_f hf c9
            refine lv_lload_n hx hb dX11_word_67 rfl (lv_at hl 1 rfl) ?_
            refine lv_bipush (v := 8) hx hb dX11_word_68 (by decide) ?_
            refine lv_lshl (v := (x1 <<< (Int32.toInt64 8 &&& 63))) hx hb dX11_word_70 rfl ?_
            refine lv_aload_n hx hb dX11_word_71 rfl (lv_at hl 0 rfl) ?_
            refine kget (v := .ref (ad 14)) F B w inX11_word_11 0 gM_0 rfl 19 (by decide) (hts (.fieldLink RX11 51 "LandReformModel" "text" "[B") (by decide +kernel)) rfl rfl dX11_word_72 ?_
            refine lv_aload_n hx hb dX11_word_75 rfl (lv_at hl 0 rfl) ?_
            refine kget (v := .int (S.1 24)) F B w inX11_word_11 0 gM_0 rfl 24 (by decide) (hts (.fieldLink RX11 166 "LandReformModel" "wordEnd" "I") (by decide +kernel)) rfl rfl dX11_word_76 ?_
            obtain ⟨g11, hf⟩ := if_g hf
            refine kbald F B w 14 gM_14 g11 dX11_word_79 ?_
            refine lv_i2l (v := (Int32.toInt64 (S.2.1 19 (Int32.toNatClampNeg (S.1 24))))) hx hb dX11_word_80 rfl ?_
            refine lv_lor hx hb dX11_word_81 ?_
            refine lv_goto (tgt := 86) hx hb dX11_word_82 (by decide) ?_
            refine lv_topl (fun v12 ev12 => ?_)
            have hf := lt_e hf ev12
            refine lv_lstore_n (lv' := [(1, .long v12), (0, .ref (ad 0))]) hx hb dX11_word_86 rfl hl (by decide) rfl (fun ls hl => ?_)
            refine lv_aload_n hx hb dX11_word_87 rfl (lv_at hl 1 rfl) ?_
            refine lv_dup hx hb dX11_word_88 rfl ?_
            refine kget (v := .int (S.1 24)) F B w inX11_word_11 0 gM_0 rfl 24 (by decide) (hts (.fieldLink RX11 166 "LandReformModel" "wordEnd" "I") (by decide +kernel)) rfl rfl dX11_word_89 ?_
            refine lv_iconst (v := 1) hx hb dX11_word_92 (by decide) ?_
            refine lv_iadd hx hb dX11_word_93 ?_
            refine kput (ty := .int) F B w inX11_word_11 tyX11 tyX11_ok nmX11 0 gM_0 rfl 24 (by decide) (hts (.fieldLink RX11 166 "LandReformModel" "wordEnd" "I") (by decide +kernel)) rfl rfl (by decide +kernel) rfl rfl (Nat.le_of_ble_eq_true rfl) pM_24 dX11_word_94 (fun H locs w => ?_)
            obtain ⟨S13, eS13⟩ : ∃ z, z = sS S 24 ((S.1 24) + 1) := ⟨_, rfl⟩
            rw [← eS13] at w
            have hf := lt_e hf eS13
            refine lv_goto (tgt := 14) hx hb dX11_word_97 (by decide) ?_
            exact ih _ _ _ _ _ w (lv_sub hl [1, 0] rfl) hf
set_option maxHeartbeats 4000000 in
set_option maxRecDepth 100000 in
theorem tX11_word {l : Launch} {D : va_G} {cc : Nat → ClassId} {ak av : Nat → Nat} {ad : Nat → Nat} {E : va_W} {n : Nat} {S : St} {r : Int64} {S' : St} (hf : fX11_word n S = some (r, S')) : CJ l yX11_word wsX11_word ({ frames := 1, cells := 0, slots := 0, locals := 20 } : Room) D cc ak av [.ref (ad 0)] (WM cc ad S ++ E) (WM cc ad S' ++ E) r := by
  refine mkJ (c0 := cX11_word) (nL := 3) (own := RX11) rfl rfl (by decide) rfl rfl (Nat.le_of_ble_eq_true rfl) ?_
  intro p e s m args below meth c A Q ls F B hQ hl w
  have hx := F.1
  have hb := F.2.1
  have hown := F.2.2.2.1
  have hts := F.2.2.2.2
  have hl : lv_has ls 3 [(0, .ref (ad 0))] := hl
  unfold fX11_word at hf
  refine lv_aload_n hx hb dX11_word_0 rfl (lv_at hl 0 rfl) ?_
  obtain ⟨S2, er1, hf⟩ := ob_e hf
  refine kVv (As := []) (rest := []) F B w (tX11_blanks er1) (cwV 0 hts gX11_word_X11_blanks rfl rfl rfl (by decide +kernel) ⟨Nat.le_of_ble_eq_true rfl, Nat.le_of_ble_eq_true rfl⟩) 0 gM_0 rfl rfl hl.1 rfl (Nat.le_of_ble_eq_true rfl) dX11_word_1 ⟨Nat.le_of_ble_eq_true rfl, Nat.le_of_ble_eq_true rfl⟩ (fun H locs w => ?_)
  refine lv_aload_n hx hb dX11_word_4 rfl (lv_at hl 0 rfl) ?_
  refine lv_aload_n hx hb dX11_word_5 rfl (lv_at hl 0 rfl) ?_
  refine kget (v := .int (S2.1 22)) F B w inX11_word_11 0 gM_0 rfl 22 (by decide) (hts (.fieldLink RX11 157 "LandReformModel" "at" "I") (by decide +kernel)) rfl rfl dX11_word_6 ?_
  refine kput (ty := .int) F B w inX11_word_11 tyX11 tyX11_ok nmX11 0 gM_0 rfl 24 (by decide) (hts (.fieldLink RX11 166 "LandReformModel" "wordEnd" "I") (by decide +kernel)) rfl rfl (by decide +kernel) rfl rfl (Nat.le_of_ble_eq_true rfl) pM_24 dX11_word_9 (fun H locs w => ?_)
  obtain ⟨S3, eS3⟩ : ∃ z, z = sS S2 24 (S2.1 22) := ⟨_, rfl⟩
  rw [← eS3] at w
  have hf := lt_e hf eS3
  refine lv_lconst (v := 0) hx hb dX11_word_12 (by decide) ?_
  refine lv_lstore_n (lv' := [(1, .long 0), (0, .ref (ad 0))]) hx hb dX11_word_13 rfl hl (by decide) rfl (fun ls hl => ?_)
  refine wX11_word_L14 F B hQ (fun x14 S15 H locs ls w hl hf => ?_) n _ _ _ _ _ w (lv_sub hl [1, 0] rfl) hf
  refine lv_aload_n hx hb dX11_word_100 rfl (lv_at hl 0 rfl) ?_
  refine kget (v := .int (S15.1 24)) F B w inX11_word_11 0 gM_0 rfl 24 (by decide) (hts (.fieldLink RX11 166 "LandReformModel" "wordEnd" "I") (by decide +kernel)) rfl rfl dX11_word_101 ?_
  refine lv_aload_n hx hb dX11_word_104 rfl (lv_at hl 0 rfl) ?_
  refine kget (v := .int (S15.1 22)) F B w inX11_word_11 0 gM_0 rfl 22 (by decide) (hts (.fieldLink RX11 157 "LandReformModel" "at" "I") (by decide +kernel)) rfl rfl dX11_word_105 ?_
  refine lv_isub hx hb dX11_word_108 ?_
  refine lv_bipush (v := 7) hx hb dX11_word_109 (by decide) ?_
  refine lv_icmp_le (tgt := 118) hx hb dX11_word_111 (by decide) (fun c16 => ?_) (fun c16 => ?_)
  · have hf := if_t hf c16
    refine lv_lload_n hx hb dX11_word_118 rfl (lv_at hl 1 rfl) ?_
    cases hf
    exact hQ _ _ _ _ dX11_word_119 w
  · have hf := if_f hf c16
    refine lv_lconst (v := 0) hx hb dX11_word_114 (by decide) ?_
    refine lv_goto (tgt := 119) hx hb dX11_word_115 (by decide) ?_
    cases hf
    exact hQ _ _ _ _ dX11_word_119 w

def fX11_takes (n : Nat) (S : St) (x1 : Int64) : Option (Int32 × St) := ob (fX11_word n S) fun q3 => lt_ q3.1 fun r1 => lt_ q3.2 fun S2 => if (lg_cmp r1 x1) = 0 then (lt_ (sS S2 22 (S2.1 24)) fun S5 => some (1, S5)) else (some (0, S2))
set_option maxRecDepth 20000 in
theorem inX11_takes_11 : ∀ w ∈ u_ws RX11 TX11 47, w ∈ wsX11_takes := by decide +kernel
set_option maxHeartbeats 4000000 in
set_option maxRecDepth 100000 in
theorem tX11_takes {l : Launch} {D : va_G} {cc : Nat → ClassId} {ak av : Nat → Nat} {ad : Nat → Nat} {E : va_W} {n : Nat} {S : St} {x1 : Int64} {r : Int32} {S' : St} (hf : fX11_takes n S x1 = some (r, S')) : CI l yX11_takes wsX11_takes ({ frames := 2, cells := 0, slots := 0, locals := 42 } : Room) D cc ak av [.ref (ad 0), .long x1] (WM cc ad S ++ E) (WM cc ad S' ++ E) r := by
  refine mkZ (c0 := cX11_takes) (nL := 3) (own := RX11) rfl rfl (by decide) rfl rfl (Nat.le_of_ble_eq_true rfl) ?_
  intro p e s m args below meth c A Q ls F B hQ hl w
  have hx := F.1
  have hb := F.2.1
  have hown := F.2.2.2.1
  have hts := F.2.2.2.2
  have hl : lv_has ls 3 [(0, .ref (ad 0)), (1, .long x1)] := hl
  unfold fX11_takes at hf
  refine lv_aload_n hx hb dX11_takes_0 rfl (lv_at hl 0 rfl) ?_
  obtain ⟨⟨r1, S2⟩, er1, hf⟩ := ob_e hf
  have hf := lt_e hf (v := r1) rfl
  have hf := lt_e hf (v := S2) rfl
  refine kVl (As := []) (rest := []) F B w (tX11_word er1) (cwV 0 hts gX11_takes_X11_word rfl rfl rfl (by decide +kernel) ⟨Nat.le_of_ble_eq_true rfl, Nat.le_of_ble_eq_true rfl⟩) 0 gM_0 rfl rfl hl.1 rfl (Nat.le_of_ble_eq_true rfl) dX11_takes_1 ⟨Nat.le_of_ble_eq_true rfl, Nat.le_of_ble_eq_true rfl⟩ (fun H locs w => ?_)
  refine lv_lload_n hx hb dX11_takes_4 rfl (lv_at hl 1 rfl) ?_
  refine W.lcmp hx hb dX11_takes_5 ?_
  refine lv_if_eq (tgt := 11) hx hb dX11_takes_6 (by decide) (fun c4 => ?_) (fun c4 => ?_)
  · have hf := if_t hf c4
    refine lv_aload_n hx hb dX11_takes_11 rfl (lv_at hl 0 rfl) ?_
    refine lv_aload_n hx hb dX11_takes_12 rfl (lv_at hl 0 rfl) ?_
    refine kget (v := .int (S2.1 24)) F B w inX11_takes_11 0 gM_0 rfl 24 (by decide) (hts (.fieldLink RX11 166 "LandReformModel" "wordEnd" "I") (by decide +kernel)) rfl rfl dX11_takes_13 ?_
    refine kput (ty := .int) F B w inX11_takes_11 tyX11 tyX11_ok nmX11 0 gM_0 rfl 22 (by decide) (hts (.fieldLink RX11 157 "LandReformModel" "at" "I") (by decide +kernel)) rfl rfl (by decide +kernel) rfl rfl (Nat.le_of_ble_eq_true rfl) pM_22 dX11_takes_16 (fun H locs w => ?_)
    obtain ⟨S5, eS5⟩ : ∃ z, z = sS S2 22 (S2.1 24) := ⟨_, rfl⟩
    rw [← eS5] at w
    have hf := lt_e hf eS5
    refine lv_iconst (v := 1) hx hb dX11_takes_19 (by decide) ?_
    cases hf
    exact hQ _ _ _ _ dX11_takes_20 (by decide) w
  · have hf := if_f hf c4
    refine lv_iconst (v := 0) hx hb dX11_takes_9 (by decide) ?_
    cases hf
    exact hQ _ _ _ _ dX11_takes_10 (by decide) w

def fX11_takesNumber_L14 (n : Nat) (x1 : Int32) (x2 : Int32) (k : Int32 → St → Option (Int32 × St)) : Nat → Int32 → St → Option (Int32 × St)
  | 0, _, _ => none
  | fu + 1, x3, S => if (S.1 21) ≤ x3 then (k x3 S) else (if x3 < 0 ∨ 400 ≤ Int32.toNatClampNeg x3 then none else if (S.2.1 19 (Int32.toNatClampNeg x3)) < 48 then (k x3 S) else (if x3 < 0 ∨ 400 ≤ Int32.toNatClampNeg x3 then none else if 57 < (S.2.1 19 (Int32.toNatClampNeg x3)) then (k x3 S) else (if 4 ≤ (x3 - (S.1 22)) then (fX11_takesNumber_L14 n x1 x2 k fu (x3 + 1) S) else (if x3 < 0 ∨ 400 ≤ Int32.toNatClampNeg x3 then none else lt_ (sS S 25 ((((10 : Int32) * (S.1 25)) + (S.2.1 19 (Int32.toNatClampNeg x3))) - 48)) fun S12 => fX11_takesNumber_L14 n x1 x2 k fu (x3 + 1) S12))))
def fX11_takesNumber (n : Nat) (S : St) (x1 : Int32) (x2 : Int32) : Option (Int32 × St) := ob (fX11_blanks n S) fun S2 => lt_ (S2.1 22) fun v3 => lt_ (sS S2 25 0) fun S4 => fX11_takesNumber_L14 n x1 x2 (fun x13 S14 => if x13 = (S14.1 22) then (some (0, S14)) else (if 4 < (x13 - (S14.1 22)) then (some (0, S14)) else (ob (fX11_isIn (S14.1 25) x1 x2) fun r17 => if r17 = 0 then (some (0, S14)) else (lt_ (sS S14 22 x13) fun S19 => some (1, S19))))) n v3 S4
set_option maxRecDepth 20000 in
theorem inX11_takesNumber_11 : ∀ w ∈ u_ws RX11 TX11 47, w ∈ wsX11_takesNumber := by decide +kernel
set_option maxHeartbeats 4000000 in
set_option maxRecDepth 100000 in
theorem wX11_takesNumber_L14 {p : Program} {l : Launch} {e : Env} {s : State} {m : MethodId} {args : Array Value} {below : List Frame} {meth : Method} {c : Code} {Q : State → Prop} {D : va_G} {cc : Nat → ClassId} {ak av : Nat → Nat} {A : Nat → Prop} {ad : Nat → Nat} {E : va_W} {n : Nat} {x1 : Int32} {x2 : Int32} {r : Int32} {S' : St} {k : Int32 → St → Option (Int32 × St)} (F : CallFix p m c cX11_takesNumber 4 s args wsX11_takesNumber RX11) (B : Bd D cc ak av A s) (hQ : RetZ p l e ({ frames := 1, cells := 0, slots := 0, locals := 22 } : Room) s m args below meth c D A Q cX11_takesNumber (WM cc ad S' ++ E) r)
    (hk : ∀ (x3 : Int32) (S : St) (H : Heap) (locs : List Loc) (ls : Array Slot), Wd D A s.heap H locs (WM cc ad S ++ E) → lv_has ls 4 [(0, .ref (ad 0)), (1, .int x1), (2, .int x2), (3, .int x3)] → k x3 S = some (r, S') → W p l e ({ frames := 1, cells := 0, slots := 0, locals := 22 } : Room) s m args below meth c H locs 0 0 Q (F0 m 81 ls [])) :
    ∀ (fu : Nat) (x3 : Int32) (S : St) (H : Heap) (locs : List Loc) (ls : Array Slot), Wd D A s.heap H locs (WM cc ad S ++ E) → lv_has ls 4 [(0, .ref (ad 0)), (1, .int x1), (2, .int x2), (3, .int x3)] → fX11_takesNumber_L14 n x1 x2 k fu x3 S = some (r, S') → W p l e ({ frames := 1, cells := 0, slots := 0, locals := 22 } : Room) s m args below meth c H locs 0 0 Q (F0 m 14 ls []) := by
  have hx := F.1
  have hb := F.2.1
  have hown := F.2.2.2.1
  have hts := F.2.2.2.2
  intro fu
  induction fu with
  | zero => intro x3 S H locs ls w hl hf; rw [fX11_takesNumber_L14] at hf; cases hf
  | succ fu ih =>
    intro x3 S H locs ls w hl hf
    rw [fX11_takesNumber_L14] at hf
    refine lv_iload_n hx hb dX11_takesNumber_14 rfl (lv_at hl 3 rfl) ?_
    refine lv_aload_n hx hb dX11_takesNumber_15 rfl (lv_at hl 0 rfl) ?_
    refine kget (v := .int (S.1 21)) F B w inX11_takesNumber_11 0 gM_0 rfl 21 (by decide) (hts (.fieldLink RX11 160 "LandReformModel" "size" "I") (by decide +kernel)) rfl rfl dX11_takesNumber_16 ?_
    refine lv_icmp_ge (tgt := 81) hx hb dX11_takesNumber_19 (by decide) (fun c5 => ?_) (fun c5 => ?_)
    · have hf := if_t hf c5
      exact hk _ _ _ _ _ w (lv_sub hl [0, 1, 2, 3] rfl) hf
    · have hf := if_f hf c5
      refine lv_aload_n hx hb dX11_takesNumber_22 rfl (lv_at hl 0 rfl) ?_
      refine kget (v := .ref (ad 14)) F B w inX11_takesNumber_11 0 gM_0 rfl 19 (by decide) (hts (.fieldLink RX11 51 "LandReformModel" "text" "[B") (by decide +kernel)) rfl rfl dX11_takesNumber_23 ?_
      refine lv_iload_n hx hb dX11_takesNumber_26 rfl (lv_at hl 3 rfl) ?_
      obtain ⟨g6, hf⟩ := if_g hf
      refine kbald F B w 14 gM_14 g6 dX11_takesNumber_27 ?_
      refine lv_bipush (v := 48) hx hb dX11_takesNumber_28 (by decide) ?_
      refine lv_icmp_lt (tgt := 81) hx hb dX11_takesNumber_30 (by decide) (fun c7 => ?_) (fun c7 => ?_)
      · have hf := if_t hf c7
        exact hk _ _ _ _ _ w (lv_sub hl [0, 1, 2, 3] rfl) hf
      · have hf := if_f hf c7
        refine lv_aload_n hx hb dX11_takesNumber_33 rfl (lv_at hl 0 rfl) ?_
        refine kget (v := .ref (ad 14)) F B w inX11_takesNumber_11 0 gM_0 rfl 19 (by decide) (hts (.fieldLink RX11 51 "LandReformModel" "text" "[B") (by decide +kernel)) rfl rfl dX11_takesNumber_34 ?_
        refine lv_iload_n hx hb dX11_takesNumber_37 rfl (lv_at hl 3 rfl) ?_
        obtain ⟨g8, hf⟩ := if_g hf
        refine kbald F B w 14 gM_14 g8 dX11_takesNumber_38 ?_
        refine lv_bipush (v := 57) hx hb dX11_takesNumber_39 (by decide) ?_
        refine lv_icmp_gt (tgt := 81) hx hb dX11_takesNumber_41 (by decide) (fun c9 => ?_) (fun c9 => ?_)
        · have hf := if_t hf c9
          exact hk _ _ _ _ _ w (lv_sub hl [0, 1, 2, 3] rfl) hf
        · have hf := if_f hf c9
          refine lv_iload_n hx hb dX11_takesNumber_44 rfl (lv_at hl 3 rfl) ?_
          refine lv_aload_n hx hb dX11_takesNumber_45 rfl (lv_at hl 0 rfl) ?_
          refine kget (v := .int (S.1 22)) F B w inX11_takesNumber_11 0 gM_0 rfl 22 (by decide) (hts (.fieldLink RX11 157 "LandReformModel" "at" "I") (by decide +kernel)) rfl rfl dX11_takesNumber_46 ?_
          refine lv_isub hx hb dX11_takesNumber_49 ?_
          refine lv_iconst (v := 4) hx hb dX11_takesNumber_50 (by decide) ?_
          refine lv_icmp_ge (tgt := 75) hx hb dX11_takesNumber_51 (by decide) (fun c10 => ?_) (fun c10 => ?_)
          · have hf := if_t hf c10
            refine lv_iinc (v := (x3 + 1)) (lv' := [(3, .int (x3 + 1)), (0, .ref (ad 0)), (1, .int x1), (2, .int x2)]) hx hb dX11_takesNumber_75 hl (k := 3) rfl rfl (by decide) rfl (fun ls hl => ?_)
            refine lv_goto (tgt := 14) hx hb dX11_takesNumber_78 (by decide) ?_
            exact ih _ _ _ _ _ w (lv_sub hl [1, 2, 3, 0] rfl) hf
          · have hf := if_f hf c10
            refine lv_aload_n hx hb dX11_takesNumber_54 rfl (lv_at hl 0 rfl) ?_
            refine lv_bipush (v := 10) hx hb dX11_takesNumber_55 (by decide) ?_
            refine lv_aload_n hx hb dX11_takesNumber_57 rfl (lv_at hl 0 rfl) ?_
            refine kget (v := .int (S.1 25)) F B w inX11_takesNumber_11 0 gM_0 rfl 25 (by decide) (hts (.fieldLink RX11 173 "LandReformModel" "number" "I") (by decide +kernel)) rfl rfl dX11_takesNumber_58 ?_
            refine lv_imul hx hb dX11_takesNumber_61 ?_
            refine lv_aload_n hx hb dX11_takesNumber_62 rfl (lv_at hl 0 rfl) ?_
            refine kget (v := .ref (ad 14)) F B w inX11_takesNumber_11 0 gM_0 rfl 19 (by decide) (hts (.fieldLink RX11 51 "LandReformModel" "text" "[B") (by decide +kernel)) rfl rfl dX11_takesNumber_63 ?_
            refine lv_iload_n hx hb dX11_takesNumber_66 rfl (lv_at hl 3 rfl) ?_
            obtain ⟨g11, hf⟩ := if_g hf
            refine kbald F B w 14 gM_14 g11 dX11_takesNumber_67 ?_
            refine lv_iadd hx hb dX11_takesNumber_68 ?_
            refine lv_bipush (v := 48) hx hb dX11_takesNumber_69 (by decide) ?_
            refine lv_isub hx hb dX11_takesNumber_71 ?_
            refine kput (ty := .int) F B w inX11_takesNumber_11 tyX11 tyX11_ok nmX11 0 gM_0 rfl 25 (by decide) (hts (.fieldLink RX11 173 "LandReformModel" "number" "I") (by decide +kernel)) rfl rfl (by decide +kernel) rfl rfl (Nat.le_of_ble_eq_true rfl) pM_25 dX11_takesNumber_72 (fun H locs w => ?_)
            obtain ⟨S12, eS12⟩ : ∃ z, z = sS S 25 ((((10 : Int32) * (S.1 25)) + (S.2.1 19 (Int32.toNatClampNeg x3))) - 48) := ⟨_, rfl⟩
            rw [← eS12] at w
            have hf := lt_e hf eS12
            refine lv_iinc (v := (x3 + 1)) (lv' := [(3, .int (x3 + 1)), (0, .ref (ad 0)), (1, .int x1), (2, .int x2)]) hx hb dX11_takesNumber_75 hl (k := 3) rfl rfl (by decide) rfl (fun ls hl => ?_)
            refine lv_goto (tgt := 14) hx hb dX11_takesNumber_78 (by decide) ?_
            exact ih _ _ _ _ _ w (lv_sub hl [1, 2, 3, 0] rfl) hf
set_option maxHeartbeats 4000000 in
set_option maxRecDepth 100000 in
theorem tX11_takesNumber {l : Launch} {D : va_G} {cc : Nat → ClassId} {ak av : Nat → Nat} {ad : Nat → Nat} {E : va_W} {n : Nat} {S : St} {x1 : Int32} {x2 : Int32} {r : Int32} {S' : St} (hf : fX11_takesNumber n S x1 x2 = some (r, S')) : CI l yX11_takesNumber wsX11_takesNumber ({ frames := 1, cells := 0, slots := 0, locals := 22 } : Room) D cc ak av [.ref (ad 0), .int x1, .int x2] (WM cc ad S ++ E) (WM cc ad S' ++ E) r := by
  refine mkZ (c0 := cX11_takesNumber) (nL := 4) (own := RX11) rfl rfl (by decide) rfl rfl (Nat.le_of_ble_eq_true rfl) ?_
  intro p e s m args below meth c A Q ls F B hQ hl w
  have hx := F.1
  have hb := F.2.1
  have hown := F.2.2.2.1
  have hts := F.2.2.2.2
  have hl : lv_has ls 4 [(0, .ref (ad 0)), (1, .int x1), (2, .int x2)] := hl
  unfold fX11_takesNumber at hf
  refine lv_aload_n hx hb dX11_takesNumber_0 rfl (lv_at hl 0 rfl) ?_
  obtain ⟨S2, er1, hf⟩ := ob_e hf
  refine kVv (As := []) (rest := []) F B w (tX11_blanks er1) (cwV 0 hts gX11_takesNumber_X11_blanks rfl rfl rfl (by decide +kernel) ⟨Nat.le_of_ble_eq_true rfl, Nat.le_of_ble_eq_true rfl⟩) 0 gM_0 rfl rfl hl.1 rfl (Nat.le_of_ble_eq_true rfl) dX11_takesNumber_1 ⟨Nat.le_of_ble_eq_true rfl, Nat.le_of_ble_eq_true rfl⟩ (fun H locs w => ?_)
  refine lv_aload_n hx hb dX11_takesNumber_4 rfl (lv_at hl 0 rfl) ?_
  refine kget (v := .int (S2.1 22)) F B w inX11_takesNumber_11 0 gM_0 rfl 22 (by decide) (hts (.fieldLink RX11 157 "LandReformModel" "at" "I") (by decide +kernel)) rfl rfl dX11_takesNumber_5 ?_
  refine lv_topi (fun v3 ev3 => ?_)
  have hf := lt_e hf ev3
  refine lv_istore_n (lv' := [(3, .int v3), (0, .ref (ad 0)), (1, .int x1), (2, .int x2)]) hx hb dX11_takesNumber_8 rfl hl (by decide) rfl (fun ls hl => ?_)
  refine lv_aload_n hx hb dX11_takesNumber_9 rfl (lv_at hl 1 rfl) ?_
  refine lv_iconst (v := 0) hx hb dX11_takesNumber_10 (by decide) ?_
  refine kput (ty := .int) F B w inX11_takesNumber_11 tyX11 tyX11_ok nmX11 0 gM_0 rfl 25 (by decide) (hts (.fieldLink RX11 173 "LandReformModel" "number" "I") (by decide +kernel)) rfl rfl (by decide +kernel) rfl rfl (Nat.le_of_ble_eq_true rfl) pM_25 dX11_takesNumber_11 (fun H locs w => ?_)
  obtain ⟨S4, eS4⟩ : ∃ z, z = sS S2 25 0 := ⟨_, rfl⟩
  rw [← eS4] at w
  have hf := lt_e hf eS4
  refine wX11_takesNumber_L14 F B hQ (fun x13 S14 H locs ls w hl hf => ?_) n _ _ _ _ _ w (lv_sub hl [1, 2, 3, 0] rfl) hf
  refine lv_iload_n hx hb dX11_takesNumber_81 rfl (lv_at hl 3 rfl) ?_
  refine lv_aload_n hx hb dX11_takesNumber_82 rfl (lv_at hl 0 rfl) ?_
  refine kget (v := .int (S14.1 22)) F B w inX11_takesNumber_11 0 gM_0 rfl 22 (by decide) (hts (.fieldLink RX11 157 "LandReformModel" "at" "I") (by decide +kernel)) rfl rfl dX11_takesNumber_83 ?_
  refine lv_icmp_eq (tgt := 111) hx hb dX11_takesNumber_86 (by decide) (fun c15 => ?_) (fun c15 => ?_)
  · have hf := if_t hf c15
    refine lv_iconst (v := 0) hx hb dX11_takesNumber_111 (by decide) ?_
    cases hf
    exact hQ _ _ _ _ dX11_takesNumber_112 (by decide) w
  · have hf := if_f hf c15
    refine lv_iload_n hx hb dX11_takesNumber_89 rfl (lv_at hl 3 rfl) ?_
    refine lv_aload_n hx hb dX11_takesNumber_90 rfl (lv_at hl 0 rfl) ?_
    refine kget (v := .int (S14.1 22)) F B w inX11_takesNumber_11 0 gM_0 rfl 22 (by decide) (hts (.fieldLink RX11 157 "LandReformModel" "at" "I") (by decide +kernel)) rfl rfl dX11_takesNumber_91 ?_
    refine lv_isub hx hb dX11_takesNumber_94 ?_
    refine lv_iconst (v := 4) hx hb dX11_takesNumber_95 (by decide) ?_
    refine lv_icmp_gt (tgt := 111) hx hb dX11_takesNumber_96 (by decide) (fun c16 => ?_) (fun c16 => ?_)
    · have hf := if_t hf c16
      refine lv_iconst (v := 0) hx hb dX11_takesNumber_111 (by decide) ?_
      cases hf
      exact hQ _ _ _ _ dX11_takesNumber_112 (by decide) w
    · have hf := if_f hf c16
      refine lv_aload_n hx hb dX11_takesNumber_99 rfl (lv_at hl 0 rfl) ?_
      refine kget (v := .int (S14.1 25)) F B w inX11_takesNumber_11 0 gM_0 rfl 25 (by decide) (hts (.fieldLink RX11 173 "LandReformModel" "number" "I") (by decide +kernel)) rfl rfl dX11_takesNumber_100 ?_
      refine lv_iload_n hx hb dX11_takesNumber_103 rfl (lv_at hl 1 rfl) ?_
      refine lv_iload_n hx hb dX11_takesNumber_104 rfl (lv_at hl 2 rfl) ?_
      obtain ⟨r17, er17, hf⟩ := ob_e hf
      refine kSi (As := [.int (S14.1 25), .int x1, .int x2]) (rest := []) F B w (tX11_isIn er17) (va_cwS 3 hts gX11_takesNumber_X11_isIn rfl rfl rfl (by decide +kernel) ⟨Nat.le_of_ble_eq_true rfl, Nat.le_of_ble_eq_true rfl⟩) rfl hl.1 rfl (Nat.le_of_ble_eq_true rfl) dX11_takesNumber_105 ⟨Nat.le_of_ble_eq_true rfl, Nat.le_of_ble_eq_true rfl⟩ (fun H locs w => ?_)
      refine lv_if_ne (tgt := 113) hx hb dX11_takesNumber_108 (by decide) (fun c18 => ?_) (fun c18 => ?_)
      · have hf := if_f hf c18
        refine lv_aload_n hx hb dX11_takesNumber_113 rfl (lv_at hl 0 rfl) ?_
        refine lv_iload_n hx hb dX11_takesNumber_114 rfl (lv_at hl 3 rfl) ?_
        refine kput (ty := .int) F B w inX11_takesNumber_11 tyX11 tyX11_ok nmX11 0 gM_0 rfl 22 (by decide) (hts (.fieldLink RX11 157 "LandReformModel" "at" "I") (by decide +kernel)) rfl rfl (by decide +kernel) rfl rfl (Nat.le_of_ble_eq_true rfl) pM_22 dX11_takesNumber_115 (fun H locs w => ?_)
        obtain ⟨S19, eS19⟩ : ∃ z, z = sS S14 22 x13 := ⟨_, rfl⟩
        rw [← eS19] at w
        have hf := lt_e hf eS19
        refine lv_iconst (v := 1) hx hb dX11_takesNumber_118 (by decide) ?_
        cases hf
        exact hQ _ _ _ _ dX11_takesNumber_119 (by decide) w
      · have hf := if_t hf c18
        refine lv_iconst (v := 0) hx hb dX11_takesNumber_111 (by decide) ?_
        cases hf
        exact hQ _ _ _ _ dX11_takesNumber_112 (by decide) w

def fX11_statement (n : Nat) (S : St) : Option (Int32 × St) := ob (fX11_takes n S 1936681324) fun q3 => lt_ q3.1 fun r1 => lt_ q3.2 fun S2 => if r1 = 0 then (ob (fX11_takes n S2 111567772151924) fun q7 => lt_ q7.1 fun r5 => lt_ q7.2 fun S6 => if r5 = 0 then (ob (fX11_takes n S6 27977526159175271) fun q11 => lt_ q11.1 fun r9 => lt_ q11.2 fun S10 => if r9 = 0 then (ob (fX11_takes n S10 112568633486457) fun q15 => lt_ q15.1 fun r13 => lt_ q15.2 fun S14 => if r13 = 0 then (ob (fX11_takes n S14 6578553) fun q19 => lt_ q19.1 fun r17 => lt_ q19.2 fun S18 => if r17 = 0 then (ob (fX11_takes n S18 482955846501) fun q23 => lt_ q23.1 fun r21 => lt_ q23.2 fun S22 => if r21 = 0 then (ob (fX11_takes n S22 521391927923) fun q27 => lt_ q27.1 fun r25 => lt_ q27.2 fun S26 => if r25 = 0 then (ob (fX11_takes n S26 126892148680051) fun q31 => lt_ q31.1 fun r29 => lt_ q31.2 fun S30 => if r29 = 0 then (some (0, S30)) else (ob (fX11_takesNumber n S30 0 9999) fun q39 => lt_ q39.1 fun r37 => lt_ q39.2 fun S38 => if r37 = 0 then (some (0, S38)) else (if ((20 : Int32) + 5) < 0 ∨ 40 ≤ Int32.toNatClampNeg ((20 : Int32) + 5) then none else lt_ (sA S38 16 (Int32.toNatClampNeg ((20 : Int32) + 5)) (S38.1 25)) fun S42 => ob (fX11_blanks n S42) fun S44 => if (S44.1 22) = (S44.1 21) then (some (0, S44)) else (if (S44.1 22) < 0 ∨ 400 ≤ Int32.toNatClampNeg (S44.1 22) then none else if (S44.2.1 19 (Int32.toNatClampNeg (S44.1 22))) = 59 then (lt_ (sS S44 22 ((S44.1 22) + 1)) fun S48 => some (1, S48)) else (some (0, S44)))))) else (ob (fX11_takesNumber n S26 1 40) fun q54 => lt_ q54.1 fun r52 => lt_ q54.2 fun S53 => if r52 = 0 then (some (0, S53)) else (if ((20 : Int32) + 4) < 0 ∨ 40 ≤ Int32.toNatClampNeg ((20 : Int32) + 4) then none else lt_ (sA S53 16 (Int32.toNatClampNeg ((20 : Int32) + 4)) (S53.1 25)) fun S57 => ob (fX11_blanks n S57) fun S59 => if (S59.1 22) = (S59.1 21) then (some (0, S59)) else (if (S59.1 22) < 0 ∨ 400 ≤ Int32.toNatClampNeg (S59.1 22) then none else if (S59.2.1 19 (Int32.toNatClampNeg (S59.1 22))) = 59 then (lt_ (sS S59 22 ((S59.1 22) + 1)) fun S63 => some (1, S63)) else (some (0, S59)))))) else (ob (fX11_takesNumber n S22 0 9999) fun q69 => lt_ q69.1 fun r67 => lt_ q69.2 fun S68 => if r67 = 0 then (some (0, S68)) else (if ((20 : Int32) + 3) < 0 ∨ 40 ≤ Int32.toNatClampNeg ((20 : Int32) + 3) then none else lt_ (sA S68 16 (Int32.toNatClampNeg ((20 : Int32) + 3)) (S68.1 25)) fun S72 => ob (fX11_blanks n S72) fun S74 => if (S74.1 22) = (S74.1 21) then (some (0, S74)) else (if (S74.1 22) < 0 ∨ 400 ≤ Int32.toNatClampNeg (S74.1 22) then none else if (S74.2.1 19 (Int32.toNatClampNeg (S74.1 22))) = 59 then (lt_ (sS S74 22 ((S74.1 22) + 1)) fun S78 => some (1, S78)) else (some (0, S74)))))) else (ob (fX11_takesNumber n S18 0 9999) fun q84 => lt_ q84.1 fun r82 => lt_ q84.2 fun S83 => if r82 = 0 then (some (0, S83)) else (if ((20 : Int32) + 2) < 0 ∨ 40 ≤ Int32.toNatClampNeg ((20 : Int32) + 2) then none else lt_ (sA S83 16 (Int32.toNatClampNeg ((20 : Int32) + 2)) (S83.1 25)) fun S87 => ob (fX11_blanks n S87) fun S89 => if (S89.1 22) = (S89.1 21) then (some (0, S89)) else (if (S89.1 22) < 0 ∨ 400 ≤ Int32.toNatClampNeg (S89.1 22) then none else if (S89.2.1 19 (Int32.toNatClampNeg (S89.1 22))) = 59 then (lt_ (sS S89 22 ((S89.1 22) + 1)) fun S93 => some (1, S93)) else (some (0, S89)))))) else (ob (fX11_takesNumber n S14 0 9999) fun q99 => lt_ q99.1 fun r97 => lt_ q99.2 fun S98 => if r97 = 0 then (some (0, S98)) else (if ((20 : Int32) + 1) < 0 ∨ 40 ≤ Int32.toNatClampNeg ((20 : Int32) + 1) then none else lt_ (sA S98 16 (Int32.toNatClampNeg ((20 : Int32) + 1)) (S98.1 25)) fun S102 => ob (fX11_blanks n S102) fun S104 => if (S104.1 22) = (S104.1 21) then (some (0, S104)) else (if (S104.1 22) < 0 ∨ 400 ≤ Int32.toNatClampNeg (S104.1 22) then none else if (S104.2.1 19 (Int32.toNatClampNeg (S104.1 22))) = 59 then (lt_ (sS S104 22 ((S104.1 22) + 1)) fun S108 => some (1, S108)) else (some (0, S104)))))) else (ob (fX11_takesNumber n S10 0 9999) fun q114 => lt_ q114.1 fun r112 => lt_ q114.2 fun S113 => if r112 = 0 then (some (0, S113)) else (if ((20 : Int32) + 0) < 0 ∨ 40 ≤ Int32.toNatClampNeg ((20 : Int32) + 0) then none else lt_ (sA S113 16 (Int32.toNatClampNeg ((20 : Int32) + 0)) (S113.1 25)) fun S117 => ob (fX11_blanks n S117) fun S119 => if (S119.1 22) = (S119.1 21) then (some (0, S119)) else (if (S119.1 22) < 0 ∨ 400 ≤ Int32.toNatClampNeg (S119.1 22) then none else if (S119.2.1 19 (Int32.toNatClampNeg (S119.1 22))) = 59 then (lt_ (sS S119 22 ((S119.1 22) + 1)) fun S123 => some (1, S123)) else (some (0, S119)))))) else (ob (fX11_takesNumber n S6 0 9999) fun q126 => lt_ q126.1 fun r124 => lt_ q126.2 fun S125 => if r124 = 0 then (some (0, S125)) else (if 10 ≤ (S125.1 25) then (ob (fX11_blanks n S125) fun S130 => if (S130.1 22) = (S130.1 21) then (some (0, S130)) else (if (S130.1 22) < 0 ∨ 400 ≤ Int32.toNatClampNeg (S130.1 22) then none else if (S130.2.1 19 (Int32.toNatClampNeg (S130.1 22))) = 59 then (lt_ (sS S130 22 ((S130.1 22) + 1)) fun S134 => some (1, S134)) else (some (0, S130)))) else (if ((30 : Int32) + (S125.1 25)) < 0 ∨ 40 ≤ Int32.toNatClampNeg ((30 : Int32) + (S125.1 25)) then none else lt_ (sA S125 16 (Int32.toNatClampNeg ((30 : Int32) + (S125.1 25))) 1) fun S136 => ob (fX11_blanks n S136) fun S138 => if (S138.1 22) = (S138.1 21) then (some (0, S138)) else (if (S138.1 22) < 0 ∨ 400 ≤ Int32.toNatClampNeg (S138.1 22) then none else if (S138.2.1 19 (Int32.toNatClampNeg (S138.1 22))) = 59 then (lt_ (sS S138 22 ((S138.1 22) + 1)) fun S142 => some (1, S142)) else (some (0, S138))))))) else (ob (fX11_takesNumber n S2 0 3) fun q145 => lt_ q145.1 fun r143 => lt_ q145.2 fun S144 => if r143 = 0 then (some (0, S144)) else (lt_ (S144.1 25) fun v147 => ob (fX11_takes n S144 26995) fun q150 => lt_ q150.1 fun r148 => lt_ q150.2 fun S149 => if r148 = 0 then (some (0, S149)) else (ob (fX11_takesNumber n S149 0 9999) fun q154 => lt_ q154.1 fun r152 => lt_ q154.2 fun S153 => if r152 = 0 then (some (0, S153)) else (if ((26 : Int32) + v147) < 0 ∨ 40 ≤ Int32.toNatClampNeg ((26 : Int32) + v147) then none else lt_ (sA S153 16 (Int32.toNatClampNeg ((26 : Int32) + v147)) (S153.1 25)) fun S157 => ob (fX11_blanks n S157) fun S159 => if (S159.1 22) = (S159.1 21) then (some (0, S159)) else (if (S159.1 22) < 0 ∨ 400 ≤ Int32.toNatClampNeg (S159.1 22) then none else if (S159.2.1 19 (Int32.toNatClampNeg (S159.1 22))) = 59 then (lt_ (sS S159 22 ((S159.1 22) + 1)) fun S163 => some (1, S163)) else (some (0, S159)))))))
set_option maxRecDepth 20000 in
theorem inX11_statement_11 : ∀ w ∈ u_ws RX11 TX11 47, w ∈ wsX11_statement := by decide +kernel
set_option maxHeartbeats 4000000 in
set_option maxRecDepth 100000 in
theorem tX11_statement {l : Launch} {D : va_G} {cc : Nat → ClassId} {ak av : Nat → Nat} {ad : Nat → Nat} {E : va_W} {n : Nat} {S : St} {r : Int32} {S' : St} (hf : fX11_statement n S = some (r, S')) : CI l yX11_statement wsX11_statement ({ frames := 3, cells := 0, slots := 0, locals := 64 } : Room) D cc ak av [.ref (ad 0)] (WM cc ad S ++ E) (WM cc ad S' ++ E) r := by
  refine mkZ (c0 := cX11_statement) (nL := 2) (own := RX11) rfl rfl (by decide) rfl rfl (Nat.le_of_ble_eq_true rfl) ?_
  intro p e s m args below meth c A Q ls F B hQ hl w
  have hx := F.1
  have hb := F.2.1
  have hown := F.2.2.2.1
  have hts := F.2.2.2.2
  have hl : lv_has ls 2 [(0, .ref (ad 0))] := hl
  unfold fX11_statement at hf
  refine lv_aload_n hx hb dX11_statement_0 rfl (lv_at hl 0 rfl) ?_
  refine lv_ldc2 (v := 1936681324) hx hb hown (hts (.constantLong RX11 176 1936681324) (by decide +kernel)) dX11_statement_1 ?_
  obtain ⟨⟨r1, S2⟩, er1, hf⟩ := ob_e hf
  have hf := lt_e hf (v := r1) rfl
  have hf := lt_e hf (v := S2) rfl
  refine kVi (As := [.long 1936681324]) (rest := []) F B w (tX11_takes er1) (cwV 1 hts gX11_statement_X11_takes rfl rfl rfl (by decide +kernel) ⟨Nat.le_of_ble_eq_true rfl, Nat.le_of_ble_eq_true rfl⟩) 0 gM_0 rfl rfl hl.1 rfl (Nat.le_of_ble_eq_true rfl) dX11_statement_4 ⟨Nat.le_of_ble_eq_true rfl, Nat.le_of_ble_eq_true rfl⟩ (fun H locs w => ?_)
  refine lv_if_eq (tgt := 65) hx hb dX11_statement_7 (by decide) (fun c4 => ?_) (fun c4 => ?_)
  · have hf := if_t hf c4
    refine lv_aload_n hx hb dX11_statement_65 rfl (lv_at hl 0 rfl) ?_
    refine lv_ldc2 (v := 111567772151924) hx hb hown (hts (.constantLong RX11 188 111567772151924) (by decide +kernel)) dX11_statement_66 ?_
    obtain ⟨⟨r5, S6⟩, er5, hf⟩ := ob_e hf
    have hf := lt_e hf (v := r5) rfl
    have hf := lt_e hf (v := S6) rfl
    refine kVi (As := [.long 111567772151924]) (rest := []) F B w (tX11_takes er5) (cwV 1 hts gX11_statement_X11_takes rfl rfl rfl (by decide +kernel) ⟨Nat.le_of_ble_eq_true rfl, Nat.le_of_ble_eq_true rfl⟩) 0 gM_0 rfl rfl hl.1 rfl (Nat.le_of_ble_eq_true rfl) dX11_statement_69 ⟨Nat.le_of_ble_eq_true rfl, Nat.le_of_ble_eq_true rfl⟩ (fun H locs w => ?_)
    refine lv_if_eq (tgt := 113) hx hb dX11_statement_72 (by decide) (fun c8 => ?_) (fun c8 => ?_)
    · have hf := if_t hf c8
      refine lv_aload_n hx hb dX11_statement_113 rfl (lv_at hl 0 rfl) ?_
      refine lv_ldc2 (v := 27977526159175271) hx hb hown (hts (.constantLong RX11 190 27977526159175271) (by decide +kernel)) dX11_statement_114 ?_
      obtain ⟨⟨r9, S10⟩, er9, hf⟩ := ob_e hf
      have hf := lt_e hf (v := r9) rfl
      have hf := lt_e hf (v := S10) rfl
      refine kVi (As := [.long 27977526159175271]) (rest := []) F B w (tX11_takes er9) (cwV 1 hts gX11_statement_X11_takes rfl rfl rfl (by decide +kernel) ⟨Nat.le_of_ble_eq_true rfl, Nat.le_of_ble_eq_true rfl⟩) 0 gM_0 rfl rfl hl.1 rfl (Nat.le_of_ble_eq_true rfl) dX11_statement_117 ⟨Nat.le_of_ble_eq_true rfl, Nat.le_of_ble_eq_true rfl⟩ (fun H locs w => ?_)
      refine lv_if_eq (tgt := 127) hx hb dX11_statement_120 (by decide) (fun c12 => ?_) (fun c12 => ?_)
      · have hf := if_t hf c12
        refine lv_aload_n hx hb dX11_statement_127 rfl (lv_at hl 0 rfl) ?_
        refine lv_ldc2 (v := 112568633486457) hx hb hown (hts (.constantLong RX11 192 112568633486457) (by decide +kernel)) dX11_statement_128 ?_
        obtain ⟨⟨r13, S14⟩, er13, hf⟩ := ob_e hf
        have hf := lt_e hf (v := r13) rfl
        have hf := lt_e hf (v := S14) rfl
        refine kVi (As := [.long 112568633486457]) (rest := []) F B w (tX11_takes er13) (cwV 1 hts gX11_statement_X11_takes rfl rfl rfl (by decide +kernel) ⟨Nat.le_of_ble_eq_true rfl, Nat.le_of_ble_eq_true rfl⟩) 0 gM_0 rfl rfl hl.1 rfl (Nat.le_of_ble_eq_true rfl) dX11_statement_131 ⟨Nat.le_of_ble_eq_true rfl, Nat.le_of_ble_eq_true rfl⟩ (fun H locs w => ?_)
        refine lv_if_eq (tgt := 141) hx hb dX11_statement_134 (by decide) (fun c16 => ?_) (fun c16 => ?_)
        · have hf := if_t hf c16
          refine lv_aload_n hx hb dX11_statement_141 rfl (lv_at hl 0 rfl) ?_
          refine lv_ldc2 (v := 6578553) hx hb hown (hts (.constantLong RX11 194 6578553) (by decide +kernel)) dX11_statement_142 ?_
          obtain ⟨⟨r17, S18⟩, er17, hf⟩ := ob_e hf
          have hf := lt_e hf (v := r17) rfl
          have hf := lt_e hf (v := S18) rfl
          refine kVi (As := [.long 6578553]) (rest := []) F B w (tX11_takes er17) (cwV 1 hts gX11_statement_X11_takes rfl rfl rfl (by decide +kernel) ⟨Nat.le_of_ble_eq_true rfl, Nat.le_of_ble_eq_true rfl⟩) 0 gM_0 rfl rfl hl.1 rfl (Nat.le_of_ble_eq_true rfl) dX11_statement_145 ⟨Nat.le_of_ble_eq_true rfl, Nat.le_of_ble_eq_true rfl⟩ (fun H locs w => ?_)
          refine lv_if_eq (tgt := 155) hx hb dX11_statement_148 (by decide) (fun c20 => ?_) (fun c20 => ?_)
          · have hf := if_t hf c20
            refine lv_aload_n hx hb dX11_statement_155 rfl (lv_at hl 0 rfl) ?_
            refine lv_ldc2 (v := 482955846501) hx hb hown (hts (.constantLong RX11 196 482955846501) (by decide +kernel)) dX11_statement_156 ?_
            obtain ⟨⟨r21, S22⟩, er21, hf⟩ := ob_e hf
            have hf := lt_e hf (v := r21) rfl
            have hf := lt_e hf (v := S22) rfl
            refine kVi (As := [.long 482955846501]) (rest := []) F B w (tX11_takes er21) (cwV 1 hts gX11_statement_X11_takes rfl rfl rfl (by decide +kernel) ⟨Nat.le_of_ble_eq_true rfl, Nat.le_of_ble_eq_true rfl⟩) 0 gM_0 rfl rfl hl.1 rfl (Nat.le_of_ble_eq_true rfl) dX11_statement_159 ⟨Nat.le_of_ble_eq_true rfl, Nat.le_of_ble_eq_true rfl⟩ (fun H locs w => ?_)
            refine lv_if_eq (tgt := 169) hx hb dX11_statement_162 (by decide) (fun c24 => ?_) (fun c24 => ?_)
            · have hf := if_t hf c24
              refine lv_aload_n hx hb dX11_statement_169 rfl (lv_at hl 0 rfl) ?_
              refine lv_ldc2 (v := 521391927923) hx hb hown (hts (.constantLong RX11 198 521391927923) (by decide +kernel)) dX11_statement_170 ?_
              obtain ⟨⟨r25, S26⟩, er25, hf⟩ := ob_e hf
              have hf := lt_e hf (v := r25) rfl
              have hf := lt_e hf (v := S26) rfl
              refine kVi (As := [.long 521391927923]) (rest := []) F B w (tX11_takes er25) (cwV 1 hts gX11_statement_X11_takes rfl rfl rfl (by decide +kernel) ⟨Nat.le_of_ble_eq_true rfl, Nat.le_of_ble_eq_true rfl⟩) 0 gM_0 rfl rfl hl.1 rfl (Nat.le_of_ble_eq_true rfl) dX11_statement_173 ⟨Nat.le_of_ble_eq_true rfl, Nat.le_of_ble_eq_true rfl⟩ (fun H locs w => ?_)
              refine lv_if_eq (tgt := 183) hx hb dX11_statement_176 (by decide) (fun c28 => ?_) (fun c28 => ?_)
              · have hf := if_t hf c28
                refine lv_aload_n hx hb dX11_statement_183 rfl (lv_at hl 0 rfl) ?_
                refine lv_ldc2 (v := 126892148680051) hx hb hown (hts (.constantLong RX11 200 126892148680051) (by decide +kernel)) dX11_statement_184 ?_
                obtain ⟨⟨r29, S30⟩, er29, hf⟩ := ob_e hf
                have hf := lt_e hf (v := r29) rfl
                have hf := lt_e hf (v := S30) rfl
                refine kVi (As := [.long 126892148680051]) (rest := []) F B w (tX11_takes er29) (cwV 1 hts gX11_statement_X11_takes rfl rfl rfl (by decide +kernel) ⟨Nat.le_of_ble_eq_true rfl, Nat.le_of_ble_eq_true rfl⟩) 0 gM_0 rfl rfl hl.1 rfl (Nat.le_of_ble_eq_true rfl) dX11_statement_187 ⟨Nat.le_of_ble_eq_true rfl, Nat.le_of_ble_eq_true rfl⟩ (fun H locs w => ?_)
                refine lv_if_eq (tgt := 197) hx hb dX11_statement_190 (by decide) (fun c32 => ?_) (fun c32 => ?_)
                · have hf := if_t hf c32
                  refine lv_iconst (v := (-1)) hx hb dX11_statement_197 (by decide) ?_
                  refine lv_istore_n (lv' := [(1, .int (-1)), (0, .ref (ad 0))]) hx hb dX11_statement_198 rfl hl (by decide) rfl (fun ls hl => ?_)
                  refine lv_iload_n hx hb dX11_statement_199 rfl (lv_at hl 0 rfl) ?_
                  refine lv_iconst (v := (-1)) hx hb dX11_statement_200 (by decide) ?_
                  refine lv_icmp_eq (tgt := 234) hx hb dX11_statement_201 (by decide) (fun _ => ?_) (fun c => absurd (by decide) c)
                  refine lv_iconst (v := 0) hx hb dX11_statement_234 (by decide) ?_
                  cases hf
                  exact hQ _ _ _ _ dX11_statement_235 (by decide) w
                · have hf := if_f hf c32
                  refine lv_iconst (v := 5) hx hb dX11_statement_193 (by decide) ?_
                  refine lv_goto (tgt := 198) hx hb dX11_statement_194 (by decide) ?_
                  refine lv_istore_n (lv' := [(1, .int 5), (0, .ref (ad 0))]) hx hb dX11_statement_198 rfl hl (by decide) rfl (fun ls hl => ?_)
                  refine lv_iload_n hx hb dX11_statement_199 rfl (lv_at hl 0 rfl) ?_
                  refine lv_iconst (v := (-1)) hx hb dX11_statement_200 (by decide) ?_
                  refine lv_icmp_eq (tgt := 234) hx hb dX11_statement_201 (by decide) (fun c => absurd c (by decide)) (fun _ => ?_)
                  refine lv_aload_n hx hb dX11_statement_204 rfl (lv_at hl 1 rfl) ?_
                  refine lv_iload_n hx hb dX11_statement_205 rfl (lv_at hl 0 rfl) ?_
                  refine lv_iconst (v := 4) hx hb dX11_statement_206 (by decide) ?_
                  refine lv_icmp_ne (tgt := 214) hx hb dX11_statement_207 (by decide) (fun _ => ?_) (fun c => absurd c (by decide))
                  refine lv_iconst (v := 0) hx hb dX11_statement_214 (by decide) ?_
                  refine lv_iload_n hx hb dX11_statement_215 rfl (lv_at hl 0 rfl) ?_
                  refine lv_iconst (v := 4) hx hb dX11_statement_216 (by decide) ?_
                  refine lv_icmp_ne (tgt := 225) hx hb dX11_statement_217 (by decide) (fun _ => ?_) (fun c => absurd c (by decide))
                  refine lv_sipush (v := 9999) hx hb dX11_statement_225 (by decide) ?_
                  obtain ⟨⟨r37, S38⟩, er37, hf⟩ := ob_e hf
                  have hf := lt_e hf (v := r37) rfl
                  have hf := lt_e hf (v := S38) rfl
                  refine kVi (As := [.int 0, .int 9999]) (rest := []) F B w (tX11_takesNumber er37) (cwV 2 hts gX11_statement_X11_takesNumber rfl rfl rfl (by decide +kernel) ⟨Nat.le_of_ble_eq_true rfl, Nat.le_of_ble_eq_true rfl⟩) 0 gM_0 rfl rfl hl.1 rfl (Nat.le_of_ble_eq_true rfl) dX11_statement_228 ⟨Nat.le_of_ble_eq_true rfl, Nat.le_of_ble_eq_true rfl⟩ (fun H locs w => ?_)
                  refine lv_if_ne (tgt := 236) hx hb dX11_statement_231 (by decide) (fun c40 => ?_) (fun c40 => ?_)
                  · have hf := if_f hf c40
                    refine lv_aload_n hx hb dX11_statement_236 rfl (lv_at hl 1 rfl) ?_
                    refine kget (v := .ref (ad 12)) F B w inX11_statement_11 0 gM_0 rfl 16 (by decide) (hts (.fieldLink RX11 44 "LandReformModel" "told" "[I") (by decide +kernel)) rfl rfl dX11_statement_237 ?_
                    refine lv_bipush (v := 20) hx hb dX11_statement_240 (by decide) ?_
                    refine lv_iload_n hx hb dX11_statement_242 rfl (lv_at hl 0 rfl) ?_
                    refine lv_iadd hx hb dX11_statement_243 ?_
                    refine lv_aload_n hx hb dX11_statement_244 rfl (lv_at hl 1 rfl) ?_
                    refine kget (v := .int (S38.1 25)) F B w inX11_statement_11 0 gM_0 rfl 25 (by decide) (hts (.fieldLink RX11 173 "LandReformModel" "number" "I") (by decide +kernel)) rfl rfl dX11_statement_245 ?_
                    obtain ⟨g41, hf⟩ := if_g hf
                    refine kiast F B w 12 gM_12 g41 bM_12 dX11_statement_248 (fun H locs w => ?_)
                    obtain ⟨S42, eS42⟩ : ∃ z, z = sA S38 16 (Int32.toNatClampNeg ((20 : Int32) + 5)) (S38.1 25) := ⟨_, rfl⟩
                    rw [← eS42] at w
                    have hf := lt_e hf eS42
                    refine lv_aload_n hx hb dX11_statement_249 rfl (lv_at hl 1 rfl) ?_
                    obtain ⟨S44, er43, hf⟩ := ob_e hf
                    refine kVv (As := []) (rest := []) F B w (tX11_blanks er43) (cwV 0 hts gX11_statement_X11_blanks rfl rfl rfl (by decide +kernel) ⟨Nat.le_of_ble_eq_true rfl, Nat.le_of_ble_eq_true rfl⟩) 0 gM_0 rfl rfl hl.1 rfl (Nat.le_of_ble_eq_true rfl) dX11_statement_250 ⟨Nat.le_of_ble_eq_true rfl, Nat.le_of_ble_eq_true rfl⟩ (fun H locs w => ?_)
                    refine lv_aload_n hx hb dX11_statement_253 rfl (lv_at hl 1 rfl) ?_
                    refine kget (v := .int (S44.1 22)) F B w inX11_statement_11 0 gM_0 rfl 22 (by decide) (hts (.fieldLink RX11 157 "LandReformModel" "at" "I") (by decide +kernel)) rfl rfl dX11_statement_254 ?_
                    refine lv_aload_n hx hb dX11_statement_257 rfl (lv_at hl 1 rfl) ?_
                    refine kget (v := .int (S44.1 21)) F B w inX11_statement_11 0 gM_0 rfl 21 (by decide) (hts (.fieldLink RX11 160 "LandReformModel" "size" "I") (by decide +kernel)) rfl rfl dX11_statement_258 ?_
                    refine lv_icmp_eq (tgt := 278) hx hb dX11_statement_261 (by decide) (fun c45 => ?_) (fun c45 => ?_)
                    · have hf := if_t hf c45
                      refine lv_iconst (v := 0) hx hb dX11_statement_278 (by decide) ?_
                      cases hf
                      exact hQ _ _ _ _ dX11_statement_279 (by decide) w
                    · have hf := if_f hf c45
                      refine lv_aload_n hx hb dX11_statement_264 rfl (lv_at hl 1 rfl) ?_
                      refine kget (v := .ref (ad 14)) F B w inX11_statement_11 0 gM_0 rfl 19 (by decide) (hts (.fieldLink RX11 51 "LandReformModel" "text" "[B") (by decide +kernel)) rfl rfl dX11_statement_265 ?_
                      refine lv_aload_n hx hb dX11_statement_268 rfl (lv_at hl 1 rfl) ?_
                      refine kget (v := .int (S44.1 22)) F B w inX11_statement_11 0 gM_0 rfl 22 (by decide) (hts (.fieldLink RX11 157 "LandReformModel" "at" "I") (by decide +kernel)) rfl rfl dX11_statement_269 ?_
                      obtain ⟨g46, hf⟩ := if_g hf
                      refine kbald F B w 14 gM_14 g46 dX11_statement_272 ?_
                      refine lv_bipush (v := 59) hx hb dX11_statement_273 (by decide) ?_
                      refine lv_icmp_eq (tgt := 280) hx hb dX11_statement_275 (by decide) (fun c47 => ?_) (fun c47 => ?_)
                      · have hf := if_t hf c47
                        refine lv_aload_n hx hb dX11_statement_280 rfl (lv_at hl 1 rfl) ?_
                        refine lv_dup hx hb dX11_statement_281 rfl ?_
                        refine kget (v := .int (S44.1 22)) F B w inX11_statement_11 0 gM_0 rfl 22 (by decide) (hts (.fieldLink RX11 157 "LandReformModel" "at" "I") (by decide +kernel)) rfl rfl dX11_statement_282 ?_
                        refine lv_iconst (v := 1) hx hb dX11_statement_285 (by decide) ?_
                        refine lv_iadd hx hb dX11_statement_286 ?_
                        refine kput (ty := .int) F B w inX11_statement_11 tyX11 tyX11_ok nmX11 0 gM_0 rfl 22 (by decide) (hts (.fieldLink RX11 157 "LandReformModel" "at" "I") (by decide +kernel)) rfl rfl (by decide +kernel) rfl rfl (Nat.le_of_ble_eq_true rfl) pM_22 dX11_statement_287 (fun H locs w => ?_)
                        obtain ⟨S48, eS48⟩ : ∃ z, z = sS S44 22 ((S44.1 22) + 1) := ⟨_, rfl⟩
                        rw [← eS48] at w
                        have hf := lt_e hf eS48
                        refine lv_iconst (v := 1) hx hb dX11_statement_290 (by decide) ?_
                        cases hf
                        exact hQ _ _ _ _ dX11_statement_291 (by decide) w
                      · have hf := if_f hf c47
                        refine lv_iconst (v := 0) hx hb dX11_statement_278 (by decide) ?_
                        cases hf
                        exact hQ _ _ _ _ dX11_statement_279 (by decide) w
                  · have hf := if_t hf c40
                    refine lv_iconst (v := 0) hx hb dX11_statement_234 (by decide) ?_
                    cases hf
                    exact hQ _ _ _ _ dX11_statement_235 (by decide) w
              · have hf := if_f hf c28
                refine lv_iconst (v := 4) hx hb dX11_statement_179 (by decide) ?_
                refine lv_goto (tgt := 198) hx hb dX11_statement_180 (by decide) ?_
                refine lv_istore_n (lv' := [(1, .int 4), (0, .ref (ad 0))]) hx hb dX11_statement_198 rfl hl (by decide) rfl (fun ls hl => ?_)
                refine lv_iload_n hx hb dX11_statement_199 rfl (lv_at hl 0 rfl) ?_
                refine lv_iconst (v := (-1)) hx hb dX11_statement_200 (by decide) ?_
                refine lv_icmp_eq (tgt := 234) hx hb dX11_statement_201 (by decide) (fun c => absurd c (by decide)) (fun _ => ?_)
                refine lv_aload_n hx hb dX11_statement_204 rfl (lv_at hl 1 rfl) ?_
                refine lv_iload_n hx hb dX11_statement_205 rfl (lv_at hl 0 rfl) ?_
                refine lv_iconst (v := 4) hx hb dX11_statement_206 (by decide) ?_
                refine lv_icmp_ne (tgt := 214) hx hb dX11_statement_207 (by decide) (fun c => absurd (by decide) c) (fun _ => ?_)
                refine lv_iconst (v := 1) hx hb dX11_statement_210 (by decide) ?_
                refine lv_goto (tgt := 215) hx hb dX11_statement_211 (by decide) ?_
                refine lv_iload_n hx hb dX11_statement_215 rfl (lv_at hl 0 rfl) ?_
                refine lv_iconst (v := 4) hx hb dX11_statement_216 (by decide) ?_
                refine lv_icmp_ne (tgt := 225) hx hb dX11_statement_217 (by decide) (fun c => absurd (by decide) c) (fun _ => ?_)
                refine lv_bipush (v := 40) hx hb dX11_statement_220 (by decide) ?_
                refine lv_goto (tgt := 228) hx hb dX11_statement_222 (by decide) ?_
                obtain ⟨⟨r52, S53⟩, er52, hf⟩ := ob_e hf
                have hf := lt_e hf (v := r52) rfl
                have hf := lt_e hf (v := S53) rfl
                refine kVi (As := [.int 1, .int 40]) (rest := []) F B w (tX11_takesNumber er52) (cwV 2 hts gX11_statement_X11_takesNumber rfl rfl rfl (by decide +kernel) ⟨Nat.le_of_ble_eq_true rfl, Nat.le_of_ble_eq_true rfl⟩) 0 gM_0 rfl rfl hl.1 rfl (Nat.le_of_ble_eq_true rfl) dX11_statement_228 ⟨Nat.le_of_ble_eq_true rfl, Nat.le_of_ble_eq_true rfl⟩ (fun H locs w => ?_)
                refine lv_if_ne (tgt := 236) hx hb dX11_statement_231 (by decide) (fun c55 => ?_) (fun c55 => ?_)
                · have hf := if_f hf c55
                  refine lv_aload_n hx hb dX11_statement_236 rfl (lv_at hl 1 rfl) ?_
                  refine kget (v := .ref (ad 12)) F B w inX11_statement_11 0 gM_0 rfl 16 (by decide) (hts (.fieldLink RX11 44 "LandReformModel" "told" "[I") (by decide +kernel)) rfl rfl dX11_statement_237 ?_
                  refine lv_bipush (v := 20) hx hb dX11_statement_240 (by decide) ?_
                  refine lv_iload_n hx hb dX11_statement_242 rfl (lv_at hl 0 rfl) ?_
                  refine lv_iadd hx hb dX11_statement_243 ?_
                  refine lv_aload_n hx hb dX11_statement_244 rfl (lv_at hl 1 rfl) ?_
                  refine kget (v := .int (S53.1 25)) F B w inX11_statement_11 0 gM_0 rfl 25 (by decide) (hts (.fieldLink RX11 173 "LandReformModel" "number" "I") (by decide +kernel)) rfl rfl dX11_statement_245 ?_
                  obtain ⟨g56, hf⟩ := if_g hf
                  refine kiast F B w 12 gM_12 g56 bM_12 dX11_statement_248 (fun H locs w => ?_)
                  obtain ⟨S57, eS57⟩ : ∃ z, z = sA S53 16 (Int32.toNatClampNeg ((20 : Int32) + 4)) (S53.1 25) := ⟨_, rfl⟩
                  rw [← eS57] at w
                  have hf := lt_e hf eS57
                  refine lv_aload_n hx hb dX11_statement_249 rfl (lv_at hl 1 rfl) ?_
                  obtain ⟨S59, er58, hf⟩ := ob_e hf
                  refine kVv (As := []) (rest := []) F B w (tX11_blanks er58) (cwV 0 hts gX11_statement_X11_blanks rfl rfl rfl (by decide +kernel) ⟨Nat.le_of_ble_eq_true rfl, Nat.le_of_ble_eq_true rfl⟩) 0 gM_0 rfl rfl hl.1 rfl (Nat.le_of_ble_eq_true rfl) dX11_statement_250 ⟨Nat.le_of_ble_eq_true rfl, Nat.le_of_ble_eq_true rfl⟩ (fun H locs w => ?_)
                  refine lv_aload_n hx hb dX11_statement_253 rfl (lv_at hl 1 rfl) ?_
                  refine kget (v := .int (S59.1 22)) F B w inX11_statement_11 0 gM_0 rfl 22 (by decide) (hts (.fieldLink RX11 157 "LandReformModel" "at" "I") (by decide +kernel)) rfl rfl dX11_statement_254 ?_
                  refine lv_aload_n hx hb dX11_statement_257 rfl (lv_at hl 1 rfl) ?_
                  refine kget (v := .int (S59.1 21)) F B w inX11_statement_11 0 gM_0 rfl 21 (by decide) (hts (.fieldLink RX11 160 "LandReformModel" "size" "I") (by decide +kernel)) rfl rfl dX11_statement_258 ?_
                  refine lv_icmp_eq (tgt := 278) hx hb dX11_statement_261 (by decide) (fun c60 => ?_) (fun c60 => ?_)
                  · have hf := if_t hf c60
                    refine lv_iconst (v := 0) hx hb dX11_statement_278 (by decide) ?_
                    cases hf
                    exact hQ _ _ _ _ dX11_statement_279 (by decide) w
                  · have hf := if_f hf c60
                    refine lv_aload_n hx hb dX11_statement_264 rfl (lv_at hl 1 rfl) ?_
                    refine kget (v := .ref (ad 14)) F B w inX11_statement_11 0 gM_0 rfl 19 (by decide) (hts (.fieldLink RX11 51 "LandReformModel" "text" "[B") (by decide +kernel)) rfl rfl dX11_statement_265 ?_
                    refine lv_aload_n hx hb dX11_statement_268 rfl (lv_at hl 1 rfl) ?_
                    refine kget (v := .int (S59.1 22)) F B w inX11_statement_11 0 gM_0 rfl 22 (by decide) (hts (.fieldLink RX11 157 "LandReformModel" "at" "I") (by decide +kernel)) rfl rfl dX11_statement_269 ?_
                    obtain ⟨g61, hf⟩ := if_g hf
                    refine kbald F B w 14 gM_14 g61 dX11_statement_272 ?_
                    refine lv_bipush (v := 59) hx hb dX11_statement_273 (by decide) ?_
                    refine lv_icmp_eq (tgt := 280) hx hb dX11_statement_275 (by decide) (fun c62 => ?_) (fun c62 => ?_)
                    · have hf := if_t hf c62
                      refine lv_aload_n hx hb dX11_statement_280 rfl (lv_at hl 1 rfl) ?_
                      refine lv_dup hx hb dX11_statement_281 rfl ?_
                      refine kget (v := .int (S59.1 22)) F B w inX11_statement_11 0 gM_0 rfl 22 (by decide) (hts (.fieldLink RX11 157 "LandReformModel" "at" "I") (by decide +kernel)) rfl rfl dX11_statement_282 ?_
                      refine lv_iconst (v := 1) hx hb dX11_statement_285 (by decide) ?_
                      refine lv_iadd hx hb dX11_statement_286 ?_
                      refine kput (ty := .int) F B w inX11_statement_11 tyX11 tyX11_ok nmX11 0 gM_0 rfl 22 (by decide) (hts (.fieldLink RX11 157 "LandReformModel" "at" "I") (by decide +kernel)) rfl rfl (by decide +kernel) rfl rfl (Nat.le_of_ble_eq_true rfl) pM_22 dX11_statement_287 (fun H locs w => ?_)
                      obtain ⟨S63, eS63⟩ : ∃ z, z = sS S59 22 ((S59.1 22) + 1) := ⟨_, rfl⟩
                      rw [← eS63] at w
                      have hf := lt_e hf eS63
                      refine lv_iconst (v := 1) hx hb dX11_statement_290 (by decide) ?_
                      cases hf
                      exact hQ _ _ _ _ dX11_statement_291 (by decide) w
                    · have hf := if_f hf c62
                      refine lv_iconst (v := 0) hx hb dX11_statement_278 (by decide) ?_
                      cases hf
                      exact hQ _ _ _ _ dX11_statement_279 (by decide) w
                · have hf := if_t hf c55
                  refine lv_iconst (v := 0) hx hb dX11_statement_234 (by decide) ?_
                  cases hf
                  exact hQ _ _ _ _ dX11_statement_235 (by decide) w
            · have hf := if_f hf c24
              refine lv_iconst (v := 3) hx hb dX11_statement_165 (by decide) ?_
              refine lv_goto (tgt := 198) hx hb dX11_statement_166 (by decide) ?_
              refine lv_istore_n (lv' := [(1, .int 3), (0, .ref (ad 0))]) hx hb dX11_statement_198 rfl hl (by decide) rfl (fun ls hl => ?_)
              refine lv_iload_n hx hb dX11_statement_199 rfl (lv_at hl 0 rfl) ?_
              refine lv_iconst (v := (-1)) hx hb dX11_statement_200 (by decide) ?_
              refine lv_icmp_eq (tgt := 234) hx hb dX11_statement_201 (by decide) (fun c => absurd c (by decide)) (fun _ => ?_)
              refine lv_aload_n hx hb dX11_statement_204 rfl (lv_at hl 1 rfl) ?_
              refine lv_iload_n hx hb dX11_statement_205 rfl (lv_at hl 0 rfl) ?_
              refine lv_iconst (v := 4) hx hb dX11_statement_206 (by decide) ?_
              refine lv_icmp_ne (tgt := 214) hx hb dX11_statement_207 (by decide) (fun _ => ?_) (fun c => absurd c (by decide))
              refine lv_iconst (v := 0) hx hb dX11_statement_214 (by decide) ?_
              refine lv_iload_n hx hb dX11_statement_215 rfl (lv_at hl 0 rfl) ?_
              refine lv_iconst (v := 4) hx hb dX11_statement_216 (by decide) ?_
              refine lv_icmp_ne (tgt := 225) hx hb dX11_statement_217 (by decide) (fun _ => ?_) (fun c => absurd c (by decide))
              refine lv_sipush (v := 9999) hx hb dX11_statement_225 (by decide) ?_
              obtain ⟨⟨r67, S68⟩, er67, hf⟩ := ob_e hf
              have hf := lt_e hf (v := r67) rfl
              have hf := lt_e hf (v := S68) rfl
              refine kVi (As := [.int 0, .int 9999]) (rest := []) F B w (tX11_takesNumber er67) (cwV 2 hts gX11_statement_X11_takesNumber rfl rfl rfl (by decide +kernel) ⟨Nat.le_of_ble_eq_true rfl, Nat.le_of_ble_eq_true rfl⟩) 0 gM_0 rfl rfl hl.1 rfl (Nat.le_of_ble_eq_true rfl) dX11_statement_228 ⟨Nat.le_of_ble_eq_true rfl, Nat.le_of_ble_eq_true rfl⟩ (fun H locs w => ?_)
              refine lv_if_ne (tgt := 236) hx hb dX11_statement_231 (by decide) (fun c70 => ?_) (fun c70 => ?_)
              · have hf := if_f hf c70
                refine lv_aload_n hx hb dX11_statement_236 rfl (lv_at hl 1 rfl) ?_
                refine kget (v := .ref (ad 12)) F B w inX11_statement_11 0 gM_0 rfl 16 (by decide) (hts (.fieldLink RX11 44 "LandReformModel" "told" "[I") (by decide +kernel)) rfl rfl dX11_statement_237 ?_
                refine lv_bipush (v := 20) hx hb dX11_statement_240 (by decide) ?_
                refine lv_iload_n hx hb dX11_statement_242 rfl (lv_at hl 0 rfl) ?_
                refine lv_iadd hx hb dX11_statement_243 ?_
                refine lv_aload_n hx hb dX11_statement_244 rfl (lv_at hl 1 rfl) ?_
                refine kget (v := .int (S68.1 25)) F B w inX11_statement_11 0 gM_0 rfl 25 (by decide) (hts (.fieldLink RX11 173 "LandReformModel" "number" "I") (by decide +kernel)) rfl rfl dX11_statement_245 ?_
                obtain ⟨g71, hf⟩ := if_g hf
                refine kiast F B w 12 gM_12 g71 bM_12 dX11_statement_248 (fun H locs w => ?_)
                obtain ⟨S72, eS72⟩ : ∃ z, z = sA S68 16 (Int32.toNatClampNeg ((20 : Int32) + 3)) (S68.1 25) := ⟨_, rfl⟩
                rw [← eS72] at w
                have hf := lt_e hf eS72
                refine lv_aload_n hx hb dX11_statement_249 rfl (lv_at hl 1 rfl) ?_
                obtain ⟨S74, er73, hf⟩ := ob_e hf
                refine kVv (As := []) (rest := []) F B w (tX11_blanks er73) (cwV 0 hts gX11_statement_X11_blanks rfl rfl rfl (by decide +kernel) ⟨Nat.le_of_ble_eq_true rfl, Nat.le_of_ble_eq_true rfl⟩) 0 gM_0 rfl rfl hl.1 rfl (Nat.le_of_ble_eq_true rfl) dX11_statement_250 ⟨Nat.le_of_ble_eq_true rfl, Nat.le_of_ble_eq_true rfl⟩ (fun H locs w => ?_)
                refine lv_aload_n hx hb dX11_statement_253 rfl (lv_at hl 1 rfl) ?_
                refine kget (v := .int (S74.1 22)) F B w inX11_statement_11 0 gM_0 rfl 22 (by decide) (hts (.fieldLink RX11 157 "LandReformModel" "at" "I") (by decide +kernel)) rfl rfl dX11_statement_254 ?_
                refine lv_aload_n hx hb dX11_statement_257 rfl (lv_at hl 1 rfl) ?_
                refine kget (v := .int (S74.1 21)) F B w inX11_statement_11 0 gM_0 rfl 21 (by decide) (hts (.fieldLink RX11 160 "LandReformModel" "size" "I") (by decide +kernel)) rfl rfl dX11_statement_258 ?_
                refine lv_icmp_eq (tgt := 278) hx hb dX11_statement_261 (by decide) (fun c75 => ?_) (fun c75 => ?_)
                · have hf := if_t hf c75
                  refine lv_iconst (v := 0) hx hb dX11_statement_278 (by decide) ?_
                  cases hf
                  exact hQ _ _ _ _ dX11_statement_279 (by decide) w
                · have hf := if_f hf c75
                  refine lv_aload_n hx hb dX11_statement_264 rfl (lv_at hl 1 rfl) ?_
                  refine kget (v := .ref (ad 14)) F B w inX11_statement_11 0 gM_0 rfl 19 (by decide) (hts (.fieldLink RX11 51 "LandReformModel" "text" "[B") (by decide +kernel)) rfl rfl dX11_statement_265 ?_
                  refine lv_aload_n hx hb dX11_statement_268 rfl (lv_at hl 1 rfl) ?_
                  refine kget (v := .int (S74.1 22)) F B w inX11_statement_11 0 gM_0 rfl 22 (by decide) (hts (.fieldLink RX11 157 "LandReformModel" "at" "I") (by decide +kernel)) rfl rfl dX11_statement_269 ?_
                  obtain ⟨g76, hf⟩ := if_g hf
                  refine kbald F B w 14 gM_14 g76 dX11_statement_272 ?_
                  refine lv_bipush (v := 59) hx hb dX11_statement_273 (by decide) ?_
                  refine lv_icmp_eq (tgt := 280) hx hb dX11_statement_275 (by decide) (fun c77 => ?_) (fun c77 => ?_)
                  · have hf := if_t hf c77
                    refine lv_aload_n hx hb dX11_statement_280 rfl (lv_at hl 1 rfl) ?_
                    refine lv_dup hx hb dX11_statement_281 rfl ?_
                    refine kget (v := .int (S74.1 22)) F B w inX11_statement_11 0 gM_0 rfl 22 (by decide) (hts (.fieldLink RX11 157 "LandReformModel" "at" "I") (by decide +kernel)) rfl rfl dX11_statement_282 ?_
                    refine lv_iconst (v := 1) hx hb dX11_statement_285 (by decide) ?_
                    refine lv_iadd hx hb dX11_statement_286 ?_
                    refine kput (ty := .int) F B w inX11_statement_11 tyX11 tyX11_ok nmX11 0 gM_0 rfl 22 (by decide) (hts (.fieldLink RX11 157 "LandReformModel" "at" "I") (by decide +kernel)) rfl rfl (by decide +kernel) rfl rfl (Nat.le_of_ble_eq_true rfl) pM_22 dX11_statement_287 (fun H locs w => ?_)
                    obtain ⟨S78, eS78⟩ : ∃ z, z = sS S74 22 ((S74.1 22) + 1) := ⟨_, rfl⟩
                    rw [← eS78] at w
                    have hf := lt_e hf eS78
                    refine lv_iconst (v := 1) hx hb dX11_statement_290 (by decide) ?_
                    cases hf
                    exact hQ _ _ _ _ dX11_statement_291 (by decide) w
                  · have hf := if_f hf c77
                    refine lv_iconst (v := 0) hx hb dX11_statement_278 (by decide) ?_
                    cases hf
                    exact hQ _ _ _ _ dX11_statement_279 (by decide) w
              · have hf := if_t hf c70
                refine lv_iconst (v := 0) hx hb dX11_statement_234 (by decide) ?_
                cases hf
                exact hQ _ _ _ _ dX11_statement_235 (by decide) w
          · have hf := if_f hf c20
            refine lv_iconst (v := 2) hx hb dX11_statement_151 (by decide) ?_
            refine lv_goto (tgt := 198) hx hb dX11_statement_152 (by decide) ?_
            refine lv_istore_n (lv' := [(1, .int 2), (0, .ref (ad 0))]) hx hb dX11_statement_198 rfl hl (by decide) rfl (fun ls hl => ?_)
            refine lv_iload_n hx hb dX11_statement_199 rfl (lv_at hl 0 rfl) ?_
            refine lv_iconst (v := (-1)) hx hb dX11_statement_200 (by decide) ?_
            refine lv_icmp_eq (tgt := 234) hx hb dX11_statement_201 (by decide) (fun c => absurd c (by decide)) (fun _ => ?_)
            refine lv_aload_n hx hb dX11_statement_204 rfl (lv_at hl 1 rfl) ?_
            refine lv_iload_n hx hb dX11_statement_205 rfl (lv_at hl 0 rfl) ?_
            refine lv_iconst (v := 4) hx hb dX11_statement_206 (by decide) ?_
            refine lv_icmp_ne (tgt := 214) hx hb dX11_statement_207 (by decide) (fun _ => ?_) (fun c => absurd c (by decide))
            refine lv_iconst (v := 0) hx hb dX11_statement_214 (by decide) ?_
            refine lv_iload_n hx hb dX11_statement_215 rfl (lv_at hl 0 rfl) ?_
            refine lv_iconst (v := 4) hx hb dX11_statement_216 (by decide) ?_
            refine lv_icmp_ne (tgt := 225) hx hb dX11_statement_217 (by decide) (fun _ => ?_) (fun c => absurd c (by decide))
            refine lv_sipush (v := 9999) hx hb dX11_statement_225 (by decide) ?_
            obtain ⟨⟨r82, S83⟩, er82, hf⟩ := ob_e hf
            have hf := lt_e hf (v := r82) rfl
            have hf := lt_e hf (v := S83) rfl
            refine kVi (As := [.int 0, .int 9999]) (rest := []) F B w (tX11_takesNumber er82) (cwV 2 hts gX11_statement_X11_takesNumber rfl rfl rfl (by decide +kernel) ⟨Nat.le_of_ble_eq_true rfl, Nat.le_of_ble_eq_true rfl⟩) 0 gM_0 rfl rfl hl.1 rfl (Nat.le_of_ble_eq_true rfl) dX11_statement_228 ⟨Nat.le_of_ble_eq_true rfl, Nat.le_of_ble_eq_true rfl⟩ (fun H locs w => ?_)
            refine lv_if_ne (tgt := 236) hx hb dX11_statement_231 (by decide) (fun c85 => ?_) (fun c85 => ?_)
            · have hf := if_f hf c85
              refine lv_aload_n hx hb dX11_statement_236 rfl (lv_at hl 1 rfl) ?_
              refine kget (v := .ref (ad 12)) F B w inX11_statement_11 0 gM_0 rfl 16 (by decide) (hts (.fieldLink RX11 44 "LandReformModel" "told" "[I") (by decide +kernel)) rfl rfl dX11_statement_237 ?_
              refine lv_bipush (v := 20) hx hb dX11_statement_240 (by decide) ?_
              refine lv_iload_n hx hb dX11_statement_242 rfl (lv_at hl 0 rfl) ?_
              refine lv_iadd hx hb dX11_statement_243 ?_
              refine lv_aload_n hx hb dX11_statement_244 rfl (lv_at hl 1 rfl) ?_
              refine kget (v := .int (S83.1 25)) F B w inX11_statement_11 0 gM_0 rfl 25 (by decide) (hts (.fieldLink RX11 173 "LandReformModel" "number" "I") (by decide +kernel)) rfl rfl dX11_statement_245 ?_
              obtain ⟨g86, hf⟩ := if_g hf
              refine kiast F B w 12 gM_12 g86 bM_12 dX11_statement_248 (fun H locs w => ?_)
              obtain ⟨S87, eS87⟩ : ∃ z, z = sA S83 16 (Int32.toNatClampNeg ((20 : Int32) + 2)) (S83.1 25) := ⟨_, rfl⟩
              rw [← eS87] at w
              have hf := lt_e hf eS87
              refine lv_aload_n hx hb dX11_statement_249 rfl (lv_at hl 1 rfl) ?_
              obtain ⟨S89, er88, hf⟩ := ob_e hf
              refine kVv (As := []) (rest := []) F B w (tX11_blanks er88) (cwV 0 hts gX11_statement_X11_blanks rfl rfl rfl (by decide +kernel) ⟨Nat.le_of_ble_eq_true rfl, Nat.le_of_ble_eq_true rfl⟩) 0 gM_0 rfl rfl hl.1 rfl (Nat.le_of_ble_eq_true rfl) dX11_statement_250 ⟨Nat.le_of_ble_eq_true rfl, Nat.le_of_ble_eq_true rfl⟩ (fun H locs w => ?_)
              refine lv_aload_n hx hb dX11_statement_253 rfl (lv_at hl 1 rfl) ?_
              refine kget (v := .int (S89.1 22)) F B w inX11_statement_11 0 gM_0 rfl 22 (by decide) (hts (.fieldLink RX11 157 "LandReformModel" "at" "I") (by decide +kernel)) rfl rfl dX11_statement_254 ?_
              refine lv_aload_n hx hb dX11_statement_257 rfl (lv_at hl 1 rfl) ?_
              refine kget (v := .int (S89.1 21)) F B w inX11_statement_11 0 gM_0 rfl 21 (by decide) (hts (.fieldLink RX11 160 "LandReformModel" "size" "I") (by decide +kernel)) rfl rfl dX11_statement_258 ?_
              refine lv_icmp_eq (tgt := 278) hx hb dX11_statement_261 (by decide) (fun c90 => ?_) (fun c90 => ?_)
              · have hf := if_t hf c90
                refine lv_iconst (v := 0) hx hb dX11_statement_278 (by decide) ?_
                cases hf
                exact hQ _ _ _ _ dX11_statement_279 (by decide) w
              · have hf := if_f hf c90
                refine lv_aload_n hx hb dX11_statement_264 rfl (lv_at hl 1 rfl) ?_
                refine kget (v := .ref (ad 14)) F B w inX11_statement_11 0 gM_0 rfl 19 (by decide) (hts (.fieldLink RX11 51 "LandReformModel" "text" "[B") (by decide +kernel)) rfl rfl dX11_statement_265 ?_
                refine lv_aload_n hx hb dX11_statement_268 rfl (lv_at hl 1 rfl) ?_
                refine kget (v := .int (S89.1 22)) F B w inX11_statement_11 0 gM_0 rfl 22 (by decide) (hts (.fieldLink RX11 157 "LandReformModel" "at" "I") (by decide +kernel)) rfl rfl dX11_statement_269 ?_
                obtain ⟨g91, hf⟩ := if_g hf
                refine kbald F B w 14 gM_14 g91 dX11_statement_272 ?_
                refine lv_bipush (v := 59) hx hb dX11_statement_273 (by decide) ?_
                refine lv_icmp_eq (tgt := 280) hx hb dX11_statement_275 (by decide) (fun c92 => ?_) (fun c92 => ?_)
                · have hf := if_t hf c92
                  refine lv_aload_n hx hb dX11_statement_280 rfl (lv_at hl 1 rfl) ?_
                  refine lv_dup hx hb dX11_statement_281 rfl ?_
                  refine kget (v := .int (S89.1 22)) F B w inX11_statement_11 0 gM_0 rfl 22 (by decide) (hts (.fieldLink RX11 157 "LandReformModel" "at" "I") (by decide +kernel)) rfl rfl dX11_statement_282 ?_
                  refine lv_iconst (v := 1) hx hb dX11_statement_285 (by decide) ?_
                  refine lv_iadd hx hb dX11_statement_286 ?_
                  refine kput (ty := .int) F B w inX11_statement_11 tyX11 tyX11_ok nmX11 0 gM_0 rfl 22 (by decide) (hts (.fieldLink RX11 157 "LandReformModel" "at" "I") (by decide +kernel)) rfl rfl (by decide +kernel) rfl rfl (Nat.le_of_ble_eq_true rfl) pM_22 dX11_statement_287 (fun H locs w => ?_)
                  obtain ⟨S93, eS93⟩ : ∃ z, z = sS S89 22 ((S89.1 22) + 1) := ⟨_, rfl⟩
                  rw [← eS93] at w
                  have hf := lt_e hf eS93
                  refine lv_iconst (v := 1) hx hb dX11_statement_290 (by decide) ?_
                  cases hf
                  exact hQ _ _ _ _ dX11_statement_291 (by decide) w
                · have hf := if_f hf c92
                  refine lv_iconst (v := 0) hx hb dX11_statement_278 (by decide) ?_
                  cases hf
                  exact hQ _ _ _ _ dX11_statement_279 (by decide) w
            · have hf := if_t hf c85
              refine lv_iconst (v := 0) hx hb dX11_statement_234 (by decide) ?_
              cases hf
              exact hQ _ _ _ _ dX11_statement_235 (by decide) w
        · have hf := if_f hf c16
          refine lv_iconst (v := 1) hx hb dX11_statement_137 (by decide) ?_
          refine lv_goto (tgt := 198) hx hb dX11_statement_138 (by decide) ?_
          refine lv_istore_n (lv' := [(1, .int 1), (0, .ref (ad 0))]) hx hb dX11_statement_198 rfl hl (by decide) rfl (fun ls hl => ?_)
          refine lv_iload_n hx hb dX11_statement_199 rfl (lv_at hl 0 rfl) ?_
          refine lv_iconst (v := (-1)) hx hb dX11_statement_200 (by decide) ?_
          refine lv_icmp_eq (tgt := 234) hx hb dX11_statement_201 (by decide) (fun c => absurd c (by decide)) (fun _ => ?_)
          refine lv_aload_n hx hb dX11_statement_204 rfl (lv_at hl 1 rfl) ?_
          refine lv_iload_n hx hb dX11_statement_205 rfl (lv_at hl 0 rfl) ?_
          refine lv_iconst (v := 4) hx hb dX11_statement_206 (by decide) ?_
          refine lv_icmp_ne (tgt := 214) hx hb dX11_statement_207 (by decide) (fun _ => ?_) (fun c => absurd c (by decide))
          refine lv_iconst (v := 0) hx hb dX11_statement_214 (by decide) ?_
          refine lv_iload_n hx hb dX11_statement_215 rfl (lv_at hl 0 rfl) ?_
          refine lv_iconst (v := 4) hx hb dX11_statement_216 (by decide) ?_
          refine lv_icmp_ne (tgt := 225) hx hb dX11_statement_217 (by decide) (fun _ => ?_) (fun c => absurd c (by decide))
          refine lv_sipush (v := 9999) hx hb dX11_statement_225 (by decide) ?_
          obtain ⟨⟨r97, S98⟩, er97, hf⟩ := ob_e hf
          have hf := lt_e hf (v := r97) rfl
          have hf := lt_e hf (v := S98) rfl
          refine kVi (As := [.int 0, .int 9999]) (rest := []) F B w (tX11_takesNumber er97) (cwV 2 hts gX11_statement_X11_takesNumber rfl rfl rfl (by decide +kernel) ⟨Nat.le_of_ble_eq_true rfl, Nat.le_of_ble_eq_true rfl⟩) 0 gM_0 rfl rfl hl.1 rfl (Nat.le_of_ble_eq_true rfl) dX11_statement_228 ⟨Nat.le_of_ble_eq_true rfl, Nat.le_of_ble_eq_true rfl⟩ (fun H locs w => ?_)
          refine lv_if_ne (tgt := 236) hx hb dX11_statement_231 (by decide) (fun c100 => ?_) (fun c100 => ?_)
          · have hf := if_f hf c100
            refine lv_aload_n hx hb dX11_statement_236 rfl (lv_at hl 1 rfl) ?_
            refine kget (v := .ref (ad 12)) F B w inX11_statement_11 0 gM_0 rfl 16 (by decide) (hts (.fieldLink RX11 44 "LandReformModel" "told" "[I") (by decide +kernel)) rfl rfl dX11_statement_237 ?_
            refine lv_bipush (v := 20) hx hb dX11_statement_240 (by decide) ?_
            refine lv_iload_n hx hb dX11_statement_242 rfl (lv_at hl 0 rfl) ?_
            refine lv_iadd hx hb dX11_statement_243 ?_
            refine lv_aload_n hx hb dX11_statement_244 rfl (lv_at hl 1 rfl) ?_
            refine kget (v := .int (S98.1 25)) F B w inX11_statement_11 0 gM_0 rfl 25 (by decide) (hts (.fieldLink RX11 173 "LandReformModel" "number" "I") (by decide +kernel)) rfl rfl dX11_statement_245 ?_
            obtain ⟨g101, hf⟩ := if_g hf
            refine kiast F B w 12 gM_12 g101 bM_12 dX11_statement_248 (fun H locs w => ?_)
            obtain ⟨S102, eS102⟩ : ∃ z, z = sA S98 16 (Int32.toNatClampNeg ((20 : Int32) + 1)) (S98.1 25) := ⟨_, rfl⟩
            rw [← eS102] at w
            have hf := lt_e hf eS102
            refine lv_aload_n hx hb dX11_statement_249 rfl (lv_at hl 1 rfl) ?_
            obtain ⟨S104, er103, hf⟩ := ob_e hf
            refine kVv (As := []) (rest := []) F B w (tX11_blanks er103) (cwV 0 hts gX11_statement_X11_blanks rfl rfl rfl (by decide +kernel) ⟨Nat.le_of_ble_eq_true rfl, Nat.le_of_ble_eq_true rfl⟩) 0 gM_0 rfl rfl hl.1 rfl (Nat.le_of_ble_eq_true rfl) dX11_statement_250 ⟨Nat.le_of_ble_eq_true rfl, Nat.le_of_ble_eq_true rfl⟩ (fun H locs w => ?_)
            refine lv_aload_n hx hb dX11_statement_253 rfl (lv_at hl 1 rfl) ?_
            refine kget (v := .int (S104.1 22)) F B w inX11_statement_11 0 gM_0 rfl 22 (by decide) (hts (.fieldLink RX11 157 "LandReformModel" "at" "I") (by decide +kernel)) rfl rfl dX11_statement_254 ?_
            refine lv_aload_n hx hb dX11_statement_257 rfl (lv_at hl 1 rfl) ?_
            refine kget (v := .int (S104.1 21)) F B w inX11_statement_11 0 gM_0 rfl 21 (by decide) (hts (.fieldLink RX11 160 "LandReformModel" "size" "I") (by decide +kernel)) rfl rfl dX11_statement_258 ?_
            refine lv_icmp_eq (tgt := 278) hx hb dX11_statement_261 (by decide) (fun c105 => ?_) (fun c105 => ?_)
            · have hf := if_t hf c105
              refine lv_iconst (v := 0) hx hb dX11_statement_278 (by decide) ?_
              cases hf
              exact hQ _ _ _ _ dX11_statement_279 (by decide) w
            · have hf := if_f hf c105
              refine lv_aload_n hx hb dX11_statement_264 rfl (lv_at hl 1 rfl) ?_
              refine kget (v := .ref (ad 14)) F B w inX11_statement_11 0 gM_0 rfl 19 (by decide) (hts (.fieldLink RX11 51 "LandReformModel" "text" "[B") (by decide +kernel)) rfl rfl dX11_statement_265 ?_
              refine lv_aload_n hx hb dX11_statement_268 rfl (lv_at hl 1 rfl) ?_
              refine kget (v := .int (S104.1 22)) F B w inX11_statement_11 0 gM_0 rfl 22 (by decide) (hts (.fieldLink RX11 157 "LandReformModel" "at" "I") (by decide +kernel)) rfl rfl dX11_statement_269 ?_
              obtain ⟨g106, hf⟩ := if_g hf
              refine kbald F B w 14 gM_14 g106 dX11_statement_272 ?_
              refine lv_bipush (v := 59) hx hb dX11_statement_273 (by decide) ?_
              refine lv_icmp_eq (tgt := 280) hx hb dX11_statement_275 (by decide) (fun c107 => ?_) (fun c107 => ?_)
              · have hf := if_t hf c107
                refine lv_aload_n hx hb dX11_statement_280 rfl (lv_at hl 1 rfl) ?_
                refine lv_dup hx hb dX11_statement_281 rfl ?_
                refine kget (v := .int (S104.1 22)) F B w inX11_statement_11 0 gM_0 rfl 22 (by decide) (hts (.fieldLink RX11 157 "LandReformModel" "at" "I") (by decide +kernel)) rfl rfl dX11_statement_282 ?_
                refine lv_iconst (v := 1) hx hb dX11_statement_285 (by decide) ?_
                refine lv_iadd hx hb dX11_statement_286 ?_
                refine kput (ty := .int) F B w inX11_statement_11 tyX11 tyX11_ok nmX11 0 gM_0 rfl 22 (by decide) (hts (.fieldLink RX11 157 "LandReformModel" "at" "I") (by decide +kernel)) rfl rfl (by decide +kernel) rfl rfl (Nat.le_of_ble_eq_true rfl) pM_22 dX11_statement_287 (fun H locs w => ?_)
                obtain ⟨S108, eS108⟩ : ∃ z, z = sS S104 22 ((S104.1 22) + 1) := ⟨_, rfl⟩
                rw [← eS108] at w
                have hf := lt_e hf eS108
                refine lv_iconst (v := 1) hx hb dX11_statement_290 (by decide) ?_
                cases hf
                exact hQ _ _ _ _ dX11_statement_291 (by decide) w
              · have hf := if_f hf c107
                refine lv_iconst (v := 0) hx hb dX11_statement_278 (by decide) ?_
                cases hf
                exact hQ _ _ _ _ dX11_statement_279 (by decide) w
          · have hf := if_t hf c100
            refine lv_iconst (v := 0) hx hb dX11_statement_234 (by decide) ?_
            cases hf
            exact hQ _ _ _ _ dX11_statement_235 (by decide) w
      · have hf := if_f hf c12
        refine lv_iconst (v := 0) hx hb dX11_statement_123 (by decide) ?_
        refine lv_goto (tgt := 198) hx hb dX11_statement_124 (by decide) ?_
        refine lv_istore_n (lv' := [(1, .int 0), (0, .ref (ad 0))]) hx hb dX11_statement_198 rfl hl (by decide) rfl (fun ls hl => ?_)
        refine lv_iload_n hx hb dX11_statement_199 rfl (lv_at hl 0 rfl) ?_
        refine lv_iconst (v := (-1)) hx hb dX11_statement_200 (by decide) ?_
        refine lv_icmp_eq (tgt := 234) hx hb dX11_statement_201 (by decide) (fun c => absurd c (by decide)) (fun _ => ?_)
        refine lv_aload_n hx hb dX11_statement_204 rfl (lv_at hl 1 rfl) ?_
        refine lv_iload_n hx hb dX11_statement_205 rfl (lv_at hl 0 rfl) ?_
        refine lv_iconst (v := 4) hx hb dX11_statement_206 (by decide) ?_
        refine lv_icmp_ne (tgt := 214) hx hb dX11_statement_207 (by decide) (fun _ => ?_) (fun c => absurd c (by decide))
        refine lv_iconst (v := 0) hx hb dX11_statement_214 (by decide) ?_
        refine lv_iload_n hx hb dX11_statement_215 rfl (lv_at hl 0 rfl) ?_
        refine lv_iconst (v := 4) hx hb dX11_statement_216 (by decide) ?_
        refine lv_icmp_ne (tgt := 225) hx hb dX11_statement_217 (by decide) (fun _ => ?_) (fun c => absurd c (by decide))
        refine lv_sipush (v := 9999) hx hb dX11_statement_225 (by decide) ?_
        obtain ⟨⟨r112, S113⟩, er112, hf⟩ := ob_e hf
        have hf := lt_e hf (v := r112) rfl
        have hf := lt_e hf (v := S113) rfl
        refine kVi (As := [.int 0, .int 9999]) (rest := []) F B w (tX11_takesNumber er112) (cwV 2 hts gX11_statement_X11_takesNumber rfl rfl rfl (by decide +kernel) ⟨Nat.le_of_ble_eq_true rfl, Nat.le_of_ble_eq_true rfl⟩) 0 gM_0 rfl rfl hl.1 rfl (Nat.le_of_ble_eq_true rfl) dX11_statement_228 ⟨Nat.le_of_ble_eq_true rfl, Nat.le_of_ble_eq_true rfl⟩ (fun H locs w => ?_)
        refine lv_if_ne (tgt := 236) hx hb dX11_statement_231 (by decide) (fun c115 => ?_) (fun c115 => ?_)
        · have hf := if_f hf c115
          refine lv_aload_n hx hb dX11_statement_236 rfl (lv_at hl 1 rfl) ?_
          refine kget (v := .ref (ad 12)) F B w inX11_statement_11 0 gM_0 rfl 16 (by decide) (hts (.fieldLink RX11 44 "LandReformModel" "told" "[I") (by decide +kernel)) rfl rfl dX11_statement_237 ?_
          refine lv_bipush (v := 20) hx hb dX11_statement_240 (by decide) ?_
          refine lv_iload_n hx hb dX11_statement_242 rfl (lv_at hl 0 rfl) ?_
          refine lv_iadd hx hb dX11_statement_243 ?_
          refine lv_aload_n hx hb dX11_statement_244 rfl (lv_at hl 1 rfl) ?_
          refine kget (v := .int (S113.1 25)) F B w inX11_statement_11 0 gM_0 rfl 25 (by decide) (hts (.fieldLink RX11 173 "LandReformModel" "number" "I") (by decide +kernel)) rfl rfl dX11_statement_245 ?_
          obtain ⟨g116, hf⟩ := if_g hf
          refine kiast F B w 12 gM_12 g116 bM_12 dX11_statement_248 (fun H locs w => ?_)
          obtain ⟨S117, eS117⟩ : ∃ z, z = sA S113 16 (Int32.toNatClampNeg ((20 : Int32) + 0)) (S113.1 25) := ⟨_, rfl⟩
          rw [← eS117] at w
          have hf := lt_e hf eS117
          refine lv_aload_n hx hb dX11_statement_249 rfl (lv_at hl 1 rfl) ?_
          obtain ⟨S119, er118, hf⟩ := ob_e hf
          refine kVv (As := []) (rest := []) F B w (tX11_blanks er118) (cwV 0 hts gX11_statement_X11_blanks rfl rfl rfl (by decide +kernel) ⟨Nat.le_of_ble_eq_true rfl, Nat.le_of_ble_eq_true rfl⟩) 0 gM_0 rfl rfl hl.1 rfl (Nat.le_of_ble_eq_true rfl) dX11_statement_250 ⟨Nat.le_of_ble_eq_true rfl, Nat.le_of_ble_eq_true rfl⟩ (fun H locs w => ?_)
          refine lv_aload_n hx hb dX11_statement_253 rfl (lv_at hl 1 rfl) ?_
          refine kget (v := .int (S119.1 22)) F B w inX11_statement_11 0 gM_0 rfl 22 (by decide) (hts (.fieldLink RX11 157 "LandReformModel" "at" "I") (by decide +kernel)) rfl rfl dX11_statement_254 ?_
          refine lv_aload_n hx hb dX11_statement_257 rfl (lv_at hl 1 rfl) ?_
          refine kget (v := .int (S119.1 21)) F B w inX11_statement_11 0 gM_0 rfl 21 (by decide) (hts (.fieldLink RX11 160 "LandReformModel" "size" "I") (by decide +kernel)) rfl rfl dX11_statement_258 ?_
          refine lv_icmp_eq (tgt := 278) hx hb dX11_statement_261 (by decide) (fun c120 => ?_) (fun c120 => ?_)
          · have hf := if_t hf c120
            refine lv_iconst (v := 0) hx hb dX11_statement_278 (by decide) ?_
            cases hf
            exact hQ _ _ _ _ dX11_statement_279 (by decide) w
          · have hf := if_f hf c120
            refine lv_aload_n hx hb dX11_statement_264 rfl (lv_at hl 1 rfl) ?_
            refine kget (v := .ref (ad 14)) F B w inX11_statement_11 0 gM_0 rfl 19 (by decide) (hts (.fieldLink RX11 51 "LandReformModel" "text" "[B") (by decide +kernel)) rfl rfl dX11_statement_265 ?_
            refine lv_aload_n hx hb dX11_statement_268 rfl (lv_at hl 1 rfl) ?_
            refine kget (v := .int (S119.1 22)) F B w inX11_statement_11 0 gM_0 rfl 22 (by decide) (hts (.fieldLink RX11 157 "LandReformModel" "at" "I") (by decide +kernel)) rfl rfl dX11_statement_269 ?_
            obtain ⟨g121, hf⟩ := if_g hf
            refine kbald F B w 14 gM_14 g121 dX11_statement_272 ?_
            refine lv_bipush (v := 59) hx hb dX11_statement_273 (by decide) ?_
            refine lv_icmp_eq (tgt := 280) hx hb dX11_statement_275 (by decide) (fun c122 => ?_) (fun c122 => ?_)
            · have hf := if_t hf c122
              refine lv_aload_n hx hb dX11_statement_280 rfl (lv_at hl 1 rfl) ?_
              refine lv_dup hx hb dX11_statement_281 rfl ?_
              refine kget (v := .int (S119.1 22)) F B w inX11_statement_11 0 gM_0 rfl 22 (by decide) (hts (.fieldLink RX11 157 "LandReformModel" "at" "I") (by decide +kernel)) rfl rfl dX11_statement_282 ?_
              refine lv_iconst (v := 1) hx hb dX11_statement_285 (by decide) ?_
              refine lv_iadd hx hb dX11_statement_286 ?_
              refine kput (ty := .int) F B w inX11_statement_11 tyX11 tyX11_ok nmX11 0 gM_0 rfl 22 (by decide) (hts (.fieldLink RX11 157 "LandReformModel" "at" "I") (by decide +kernel)) rfl rfl (by decide +kernel) rfl rfl (Nat.le_of_ble_eq_true rfl) pM_22 dX11_statement_287 (fun H locs w => ?_)
              obtain ⟨S123, eS123⟩ : ∃ z, z = sS S119 22 ((S119.1 22) + 1) := ⟨_, rfl⟩
              rw [← eS123] at w
              have hf := lt_e hf eS123
              refine lv_iconst (v := 1) hx hb dX11_statement_290 (by decide) ?_
              cases hf
              exact hQ _ _ _ _ dX11_statement_291 (by decide) w
            · have hf := if_f hf c122
              refine lv_iconst (v := 0) hx hb dX11_statement_278 (by decide) ?_
              cases hf
              exact hQ _ _ _ _ dX11_statement_279 (by decide) w
        · have hf := if_t hf c115
          refine lv_iconst (v := 0) hx hb dX11_statement_234 (by decide) ?_
          cases hf
          exact hQ _ _ _ _ dX11_statement_235 (by decide) w
    · have hf := if_f hf c8
      refine lv_aload_n hx hb dX11_statement_75 rfl (lv_at hl 0 rfl) ?_
      refine lv_iconst (v := 0) hx hb dX11_statement_76 (by decide) ?_
      refine lv_sipush (v := 9999) hx hb dX11_statement_77 (by decide) ?_
      obtain ⟨⟨r124, S125⟩, er124, hf⟩ := ob_e hf
      have hf := lt_e hf (v := r124) rfl
      have hf := lt_e hf (v := S125) rfl
      refine kVi (As := [.int 0, .int 9999]) (rest := []) F B w (tX11_takesNumber er124) (cwV 2 hts gX11_statement_X11_takesNumber rfl rfl rfl (by decide +kernel) ⟨Nat.le_of_ble_eq_true rfl, Nat.le_of_ble_eq_true rfl⟩) 0 gM_0 rfl rfl hl.1 rfl (Nat.le_of_ble_eq_true rfl) dX11_statement_80 ⟨Nat.le_of_ble_eq_true rfl, Nat.le_of_ble_eq_true rfl⟩ (fun H locs w => ?_)
      refine lv_if_ne (tgt := 88) hx hb dX11_statement_83 (by decide) (fun c127 => ?_) (fun c127 => ?_)
      · have hf := if_f hf c127
        refine lv_aload_n hx hb dX11_statement_88 rfl (lv_at hl 0 rfl) ?_
        refine kget (v := .int (S125.1 25)) F B w inX11_statement_11 0 gM_0 rfl 25 (by decide) (hts (.fieldLink RX11 173 "LandReformModel" "number" "I") (by decide +kernel)) rfl rfl dX11_statement_89 ?_
        refine lv_bipush (v := 10) hx hb dX11_statement_92 (by decide) ?_
        refine lv_icmp_ge (tgt := 249) hx hb dX11_statement_94 (by decide) (fun c128 => ?_) (fun c128 => ?_)
        · have hf := if_t hf c128
          refine lv_aload_n hx hb dX11_statement_249 rfl (lv_at hl 0 rfl) ?_
          obtain ⟨S130, er129, hf⟩ := ob_e hf
          refine kVv (As := []) (rest := []) F B w (tX11_blanks er129) (cwV 0 hts gX11_statement_X11_blanks rfl rfl rfl (by decide +kernel) ⟨Nat.le_of_ble_eq_true rfl, Nat.le_of_ble_eq_true rfl⟩) 0 gM_0 rfl rfl hl.1 rfl (Nat.le_of_ble_eq_true rfl) dX11_statement_250 ⟨Nat.le_of_ble_eq_true rfl, Nat.le_of_ble_eq_true rfl⟩ (fun H locs w => ?_)
          refine lv_aload_n hx hb dX11_statement_253 rfl (lv_at hl 0 rfl) ?_
          refine kget (v := .int (S130.1 22)) F B w inX11_statement_11 0 gM_0 rfl 22 (by decide) (hts (.fieldLink RX11 157 "LandReformModel" "at" "I") (by decide +kernel)) rfl rfl dX11_statement_254 ?_
          refine lv_aload_n hx hb dX11_statement_257 rfl (lv_at hl 0 rfl) ?_
          refine kget (v := .int (S130.1 21)) F B w inX11_statement_11 0 gM_0 rfl 21 (by decide) (hts (.fieldLink RX11 160 "LandReformModel" "size" "I") (by decide +kernel)) rfl rfl dX11_statement_258 ?_
          refine lv_icmp_eq (tgt := 278) hx hb dX11_statement_261 (by decide) (fun c131 => ?_) (fun c131 => ?_)
          · have hf := if_t hf c131
            refine lv_iconst (v := 0) hx hb dX11_statement_278 (by decide) ?_
            cases hf
            exact hQ _ _ _ _ dX11_statement_279 (by decide) w
          · have hf := if_f hf c131
            refine lv_aload_n hx hb dX11_statement_264 rfl (lv_at hl 0 rfl) ?_
            refine kget (v := .ref (ad 14)) F B w inX11_statement_11 0 gM_0 rfl 19 (by decide) (hts (.fieldLink RX11 51 "LandReformModel" "text" "[B") (by decide +kernel)) rfl rfl dX11_statement_265 ?_
            refine lv_aload_n hx hb dX11_statement_268 rfl (lv_at hl 0 rfl) ?_
            refine kget (v := .int (S130.1 22)) F B w inX11_statement_11 0 gM_0 rfl 22 (by decide) (hts (.fieldLink RX11 157 "LandReformModel" "at" "I") (by decide +kernel)) rfl rfl dX11_statement_269 ?_
            obtain ⟨g132, hf⟩ := if_g hf
            refine kbald F B w 14 gM_14 g132 dX11_statement_272 ?_
            refine lv_bipush (v := 59) hx hb dX11_statement_273 (by decide) ?_
            refine lv_icmp_eq (tgt := 280) hx hb dX11_statement_275 (by decide) (fun c133 => ?_) (fun c133 => ?_)
            · have hf := if_t hf c133
              refine lv_aload_n hx hb dX11_statement_280 rfl (lv_at hl 0 rfl) ?_
              refine lv_dup hx hb dX11_statement_281 rfl ?_
              refine kget (v := .int (S130.1 22)) F B w inX11_statement_11 0 gM_0 rfl 22 (by decide) (hts (.fieldLink RX11 157 "LandReformModel" "at" "I") (by decide +kernel)) rfl rfl dX11_statement_282 ?_
              refine lv_iconst (v := 1) hx hb dX11_statement_285 (by decide) ?_
              refine lv_iadd hx hb dX11_statement_286 ?_
              refine kput (ty := .int) F B w inX11_statement_11 tyX11 tyX11_ok nmX11 0 gM_0 rfl 22 (by decide) (hts (.fieldLink RX11 157 "LandReformModel" "at" "I") (by decide +kernel)) rfl rfl (by decide +kernel) rfl rfl (Nat.le_of_ble_eq_true rfl) pM_22 dX11_statement_287 (fun H locs w => ?_)
              obtain ⟨S134, eS134⟩ : ∃ z, z = sS S130 22 ((S130.1 22) + 1) := ⟨_, rfl⟩
              rw [← eS134] at w
              have hf := lt_e hf eS134
              refine lv_iconst (v := 1) hx hb dX11_statement_290 (by decide) ?_
              cases hf
              exact hQ _ _ _ _ dX11_statement_291 (by decide) w
            · have hf := if_f hf c133
              refine lv_iconst (v := 0) hx hb dX11_statement_278 (by decide) ?_
              cases hf
              exact hQ _ _ _ _ dX11_statement_279 (by decide) w
        · have hf := if_f hf c128
          refine lv_aload_n hx hb dX11_statement_97 rfl (lv_at hl 0 rfl) ?_
          refine kget (v := .ref (ad 12)) F B w inX11_statement_11 0 gM_0 rfl 16 (by decide) (hts (.fieldLink RX11 44 "LandReformModel" "told" "[I") (by decide +kernel)) rfl rfl dX11_statement_98 ?_
          refine lv_bipush (v := 30) hx hb dX11_statement_101 (by decide) ?_
          refine lv_aload_n hx hb dX11_statement_103 rfl (lv_at hl 0 rfl) ?_
          refine kget (v := .int (S125.1 25)) F B w inX11_statement_11 0 gM_0 rfl 25 (by decide) (hts (.fieldLink RX11 173 "LandReformModel" "number" "I") (by decide +kernel)) rfl rfl dX11_statement_104 ?_
          refine lv_iadd hx hb dX11_statement_107 ?_
          refine lv_iconst (v := 1) hx hb dX11_statement_108 (by decide) ?_
          obtain ⟨g135, hf⟩ := if_g hf
          refine kiast F B w 12 gM_12 g135 bM_12 dX11_statement_109 (fun H locs w => ?_)
          obtain ⟨S136, eS136⟩ : ∃ z, z = sA S125 16 (Int32.toNatClampNeg ((30 : Int32) + (S125.1 25))) 1 := ⟨_, rfl⟩
          rw [← eS136] at w
          have hf := lt_e hf eS136
          refine lv_goto (tgt := 249) hx hb dX11_statement_110 (by decide) ?_
          refine lv_aload_n hx hb dX11_statement_249 rfl (lv_at hl 0 rfl) ?_
          obtain ⟨S138, er137, hf⟩ := ob_e hf
          refine kVv (As := []) (rest := []) F B w (tX11_blanks er137) (cwV 0 hts gX11_statement_X11_blanks rfl rfl rfl (by decide +kernel) ⟨Nat.le_of_ble_eq_true rfl, Nat.le_of_ble_eq_true rfl⟩) 0 gM_0 rfl rfl hl.1 rfl (Nat.le_of_ble_eq_true rfl) dX11_statement_250 ⟨Nat.le_of_ble_eq_true rfl, Nat.le_of_ble_eq_true rfl⟩ (fun H locs w => ?_)
          refine lv_aload_n hx hb dX11_statement_253 rfl (lv_at hl 0 rfl) ?_
          refine kget (v := .int (S138.1 22)) F B w inX11_statement_11 0 gM_0 rfl 22 (by decide) (hts (.fieldLink RX11 157 "LandReformModel" "at" "I") (by decide +kernel)) rfl rfl dX11_statement_254 ?_
          refine lv_aload_n hx hb dX11_statement_257 rfl (lv_at hl 0 rfl) ?_
          refine kget (v := .int (S138.1 21)) F B w inX11_statement_11 0 gM_0 rfl 21 (by decide) (hts (.fieldLink RX11 160 "LandReformModel" "size" "I") (by decide +kernel)) rfl rfl dX11_statement_258 ?_
          refine lv_icmp_eq (tgt := 278) hx hb dX11_statement_261 (by decide) (fun c139 => ?_) (fun c139 => ?_)
          · have hf := if_t hf c139
            refine lv_iconst (v := 0) hx hb dX11_statement_278 (by decide) ?_
            cases hf
            exact hQ _ _ _ _ dX11_statement_279 (by decide) w
          · have hf := if_f hf c139
            refine lv_aload_n hx hb dX11_statement_264 rfl (lv_at hl 0 rfl) ?_
            refine kget (v := .ref (ad 14)) F B w inX11_statement_11 0 gM_0 rfl 19 (by decide) (hts (.fieldLink RX11 51 "LandReformModel" "text" "[B") (by decide +kernel)) rfl rfl dX11_statement_265 ?_
            refine lv_aload_n hx hb dX11_statement_268 rfl (lv_at hl 0 rfl) ?_
            refine kget (v := .int (S138.1 22)) F B w inX11_statement_11 0 gM_0 rfl 22 (by decide) (hts (.fieldLink RX11 157 "LandReformModel" "at" "I") (by decide +kernel)) rfl rfl dX11_statement_269 ?_
            obtain ⟨g140, hf⟩ := if_g hf
            refine kbald F B w 14 gM_14 g140 dX11_statement_272 ?_
            refine lv_bipush (v := 59) hx hb dX11_statement_273 (by decide) ?_
            refine lv_icmp_eq (tgt := 280) hx hb dX11_statement_275 (by decide) (fun c141 => ?_) (fun c141 => ?_)
            · have hf := if_t hf c141
              refine lv_aload_n hx hb dX11_statement_280 rfl (lv_at hl 0 rfl) ?_
              refine lv_dup hx hb dX11_statement_281 rfl ?_
              refine kget (v := .int (S138.1 22)) F B w inX11_statement_11 0 gM_0 rfl 22 (by decide) (hts (.fieldLink RX11 157 "LandReformModel" "at" "I") (by decide +kernel)) rfl rfl dX11_statement_282 ?_
              refine lv_iconst (v := 1) hx hb dX11_statement_285 (by decide) ?_
              refine lv_iadd hx hb dX11_statement_286 ?_
              refine kput (ty := .int) F B w inX11_statement_11 tyX11 tyX11_ok nmX11 0 gM_0 rfl 22 (by decide) (hts (.fieldLink RX11 157 "LandReformModel" "at" "I") (by decide +kernel)) rfl rfl (by decide +kernel) rfl rfl (Nat.le_of_ble_eq_true rfl) pM_22 dX11_statement_287 (fun H locs w => ?_)
              obtain ⟨S142, eS142⟩ : ∃ z, z = sS S138 22 ((S138.1 22) + 1) := ⟨_, rfl⟩
              rw [← eS142] at w
              have hf := lt_e hf eS142
              refine lv_iconst (v := 1) hx hb dX11_statement_290 (by decide) ?_
              cases hf
              exact hQ _ _ _ _ dX11_statement_291 (by decide) w
            · have hf := if_f hf c141
              refine lv_iconst (v := 0) hx hb dX11_statement_278 (by decide) ?_
              cases hf
              exact hQ _ _ _ _ dX11_statement_279 (by decide) w
      · have hf := if_t hf c127
        refine lv_iconst (v := 0) hx hb dX11_statement_86 (by decide) ?_
        cases hf
        exact hQ _ _ _ _ dX11_statement_87 (by decide) w
  · have hf := if_f hf c4
    refine lv_aload_n hx hb dX11_statement_10 rfl (lv_at hl 0 rfl) ?_
    refine lv_iconst (v := 0) hx hb dX11_statement_11 (by decide) ?_
    refine lv_iconst (v := 3) hx hb dX11_statement_12 (by decide) ?_
    obtain ⟨⟨r143, S144⟩, er143, hf⟩ := ob_e hf
    have hf := lt_e hf (v := r143) rfl
    have hf := lt_e hf (v := S144) rfl
    refine kVi (As := [.int 0, .int 3]) (rest := []) F B w (tX11_takesNumber er143) (cwV 2 hts gX11_statement_X11_takesNumber rfl rfl rfl (by decide +kernel) ⟨Nat.le_of_ble_eq_true rfl, Nat.le_of_ble_eq_true rfl⟩) 0 gM_0 rfl rfl hl.1 rfl (Nat.le_of_ble_eq_true rfl) dX11_statement_13 ⟨Nat.le_of_ble_eq_true rfl, Nat.le_of_ble_eq_true rfl⟩ (fun H locs w => ?_)
    refine lv_if_ne (tgt := 21) hx hb dX11_statement_16 (by decide) (fun c146 => ?_) (fun c146 => ?_)
    · have hf := if_f hf c146
      refine lv_aload_n hx hb dX11_statement_21 rfl (lv_at hl 0 rfl) ?_
      refine kget (v := .int (S144.1 25)) F B w inX11_statement_11 0 gM_0 rfl 25 (by decide) (hts (.fieldLink RX11 173 "LandReformModel" "number" "I") (by decide +kernel)) rfl rfl dX11_statement_22 ?_
      refine lv_topi (fun v147 ev147 => ?_)
      have hf := lt_e hf ev147
      refine lv_istore_n (lv' := [(1, .int v147), (0, .ref (ad 0))]) hx hb dX11_statement_25 rfl hl (by decide) rfl (fun ls hl => ?_)
      refine lv_aload_n hx hb dX11_statement_26 rfl (lv_at hl 1 rfl) ?_
      refine lv_ldc2 (v := 26995) hx hb hown (hts (.constantLong RX11 186 26995) (by decide +kernel)) dX11_statement_27 ?_
      obtain ⟨⟨r148, S149⟩, er148, hf⟩ := ob_e hf
      have hf := lt_e hf (v := r148) rfl
      have hf := lt_e hf (v := S149) rfl
      refine kVi (As := [.long 26995]) (rest := []) F B w (tX11_takes er148) (cwV 1 hts gX11_statement_X11_takes rfl rfl rfl (by decide +kernel) ⟨Nat.le_of_ble_eq_true rfl, Nat.le_of_ble_eq_true rfl⟩) 0 gM_0 rfl rfl hl.1 rfl (Nat.le_of_ble_eq_true rfl) dX11_statement_30 ⟨Nat.le_of_ble_eq_true rfl, Nat.le_of_ble_eq_true rfl⟩ (fun H locs w => ?_)
      refine lv_if_eq (tgt := 47) hx hb dX11_statement_33 (by decide) (fun c151 => ?_) (fun c151 => ?_)
      · have hf := if_t hf c151
        refine lv_iconst (v := 0) hx hb dX11_statement_47 (by decide) ?_
        cases hf
        exact hQ _ _ _ _ dX11_statement_48 (by decide) w
      · have hf := if_f hf c151
        refine lv_aload_n hx hb dX11_statement_36 rfl (lv_at hl 1 rfl) ?_
        refine lv_iconst (v := 0) hx hb dX11_statement_37 (by decide) ?_
        refine lv_sipush (v := 9999) hx hb dX11_statement_38 (by decide) ?_
        obtain ⟨⟨r152, S153⟩, er152, hf⟩ := ob_e hf
        have hf := lt_e hf (v := r152) rfl
        have hf := lt_e hf (v := S153) rfl
        refine kVi (As := [.int 0, .int 9999]) (rest := []) F B w (tX11_takesNumber er152) (cwV 2 hts gX11_statement_X11_takesNumber rfl rfl rfl (by decide +kernel) ⟨Nat.le_of_ble_eq_true rfl, Nat.le_of_ble_eq_true rfl⟩) 0 gM_0 rfl rfl hl.1 rfl (Nat.le_of_ble_eq_true rfl) dX11_statement_41 ⟨Nat.le_of_ble_eq_true rfl, Nat.le_of_ble_eq_true rfl⟩ (fun H locs w => ?_)
        refine lv_if_ne (tgt := 49) hx hb dX11_statement_44 (by decide) (fun c155 => ?_) (fun c155 => ?_)
        · have hf := if_f hf c155
          refine lv_aload_n hx hb dX11_statement_49 rfl (lv_at hl 1 rfl) ?_
          refine kget (v := .ref (ad 12)) F B w inX11_statement_11 0 gM_0 rfl 16 (by decide) (hts (.fieldLink RX11 44 "LandReformModel" "told" "[I") (by decide +kernel)) rfl rfl dX11_statement_50 ?_
          refine lv_bipush (v := 26) hx hb dX11_statement_53 (by decide) ?_
          refine lv_iload_n hx hb dX11_statement_55 rfl (lv_at hl 0 rfl) ?_
          refine lv_iadd hx hb dX11_statement_56 ?_
          refine lv_aload_n hx hb dX11_statement_57 rfl (lv_at hl 1 rfl) ?_
          refine kget (v := .int (S153.1 25)) F B w inX11_statement_11 0 gM_0 rfl 25 (by decide) (hts (.fieldLink RX11 173 "LandReformModel" "number" "I") (by decide +kernel)) rfl rfl dX11_statement_58 ?_
          obtain ⟨g156, hf⟩ := if_g hf
          refine kiast F B w 12 gM_12 g156 bM_12 dX11_statement_61 (fun H locs w => ?_)
          obtain ⟨S157, eS157⟩ : ∃ z, z = sA S153 16 (Int32.toNatClampNeg ((26 : Int32) + v147)) (S153.1 25) := ⟨_, rfl⟩
          rw [← eS157] at w
          have hf := lt_e hf eS157
          refine lv_goto (tgt := 249) hx hb dX11_statement_62 (by decide) ?_
          refine lv_aload_n hx hb dX11_statement_249 rfl (lv_at hl 1 rfl) ?_
          obtain ⟨S159, er158, hf⟩ := ob_e hf
          refine kVv (As := []) (rest := []) F B w (tX11_blanks er158) (cwV 0 hts gX11_statement_X11_blanks rfl rfl rfl (by decide +kernel) ⟨Nat.le_of_ble_eq_true rfl, Nat.le_of_ble_eq_true rfl⟩) 0 gM_0 rfl rfl hl.1 rfl (Nat.le_of_ble_eq_true rfl) dX11_statement_250 ⟨Nat.le_of_ble_eq_true rfl, Nat.le_of_ble_eq_true rfl⟩ (fun H locs w => ?_)
          refine lv_aload_n hx hb dX11_statement_253 rfl (lv_at hl 1 rfl) ?_
          refine kget (v := .int (S159.1 22)) F B w inX11_statement_11 0 gM_0 rfl 22 (by decide) (hts (.fieldLink RX11 157 "LandReformModel" "at" "I") (by decide +kernel)) rfl rfl dX11_statement_254 ?_
          refine lv_aload_n hx hb dX11_statement_257 rfl (lv_at hl 1 rfl) ?_
          refine kget (v := .int (S159.1 21)) F B w inX11_statement_11 0 gM_0 rfl 21 (by decide) (hts (.fieldLink RX11 160 "LandReformModel" "size" "I") (by decide +kernel)) rfl rfl dX11_statement_258 ?_
          refine lv_icmp_eq (tgt := 278) hx hb dX11_statement_261 (by decide) (fun c160 => ?_) (fun c160 => ?_)
          · have hf := if_t hf c160
            refine lv_iconst (v := 0) hx hb dX11_statement_278 (by decide) ?_
            cases hf
            exact hQ _ _ _ _ dX11_statement_279 (by decide) w
          · have hf := if_f hf c160
            refine lv_aload_n hx hb dX11_statement_264 rfl (lv_at hl 1 rfl) ?_
            refine kget (v := .ref (ad 14)) F B w inX11_statement_11 0 gM_0 rfl 19 (by decide) (hts (.fieldLink RX11 51 "LandReformModel" "text" "[B") (by decide +kernel)) rfl rfl dX11_statement_265 ?_
            refine lv_aload_n hx hb dX11_statement_268 rfl (lv_at hl 1 rfl) ?_
            refine kget (v := .int (S159.1 22)) F B w inX11_statement_11 0 gM_0 rfl 22 (by decide) (hts (.fieldLink RX11 157 "LandReformModel" "at" "I") (by decide +kernel)) rfl rfl dX11_statement_269 ?_
            obtain ⟨g161, hf⟩ := if_g hf
            refine kbald F B w 14 gM_14 g161 dX11_statement_272 ?_
            refine lv_bipush (v := 59) hx hb dX11_statement_273 (by decide) ?_
            refine lv_icmp_eq (tgt := 280) hx hb dX11_statement_275 (by decide) (fun c162 => ?_) (fun c162 => ?_)
            · have hf := if_t hf c162
              refine lv_aload_n hx hb dX11_statement_280 rfl (lv_at hl 1 rfl) ?_
              refine lv_dup hx hb dX11_statement_281 rfl ?_
              refine kget (v := .int (S159.1 22)) F B w inX11_statement_11 0 gM_0 rfl 22 (by decide) (hts (.fieldLink RX11 157 "LandReformModel" "at" "I") (by decide +kernel)) rfl rfl dX11_statement_282 ?_
              refine lv_iconst (v := 1) hx hb dX11_statement_285 (by decide) ?_
              refine lv_iadd hx hb dX11_statement_286 ?_
              refine kput (ty := .int) F B w inX11_statement_11 tyX11 tyX11_ok nmX11 0 gM_0 rfl 22 (by decide) (hts (.fieldLink RX11 157 "LandReformModel" "at" "I") (by decide +kernel)) rfl rfl (by decide +kernel) rfl rfl (Nat.le_of_ble_eq_true rfl) pM_22 dX11_statement_287 (fun H locs w => ?_)
              obtain ⟨S163, eS163⟩ : ∃ z, z = sS S159 22 ((S159.1 22) + 1) := ⟨_, rfl⟩
              rw [← eS163] at w
              have hf := lt_e hf eS163
              refine lv_iconst (v := 1) hx hb dX11_statement_290 (by decide) ?_
              cases hf
              exact hQ _ _ _ _ dX11_statement_291 (by decide) w
            · have hf := if_f hf c162
              refine lv_iconst (v := 0) hx hb dX11_statement_278 (by decide) ?_
              cases hf
              exact hQ _ _ _ _ dX11_statement_279 (by decide) w
        · have hf := if_t hf c155
          refine lv_iconst (v := 0) hx hb dX11_statement_47 (by decide) ?_
          cases hf
          exact hQ _ _ _ _ dX11_statement_48 (by decide) w
    · have hf := if_t hf c146
      refine lv_iconst (v := 0) hx hb dX11_statement_19 (by decide) ?_
      cases hf
      exact hQ _ _ _ _ dX11_statement_20 (by decide) w
