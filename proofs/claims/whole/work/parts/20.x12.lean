def fX10_rings (n : Nat) (S : St) (x1 : Int32) (x2 : Int32) (x3 : Int32) : Option (Int32 × St) := if x3 < (-1) then (some ((-1), S)) else (if x2 ≤ x3 then (some ((-1), S)) else (ob (fX10_ringsClose n S x1 x2) fun q5 => lt_ q5.1 fun r3 => lt_ q5.2 fun S4 => if r3 = 0 then (some ((-1), S4)) else (if x3 = (-1) then (some ((S4.1 20), S4)) else (ob (fX6_fieldFor S4 x3) fun r8 => some (r8, S4)))))
set_option maxRecDepth 20000 in
theorem inX10_rings_6 : ∀ w ∈ u_ws RX6 TX6 7, w ∈ wsX10_rings := by decide +kernel
set_option maxRecDepth 20000 in
theorem inX10_rings_10 : ∀ w ∈ u_ws RX10 TX10 12, w ∈ wsX10_rings := by decide +kernel
set_option maxHeartbeats 4000000 in
set_option maxRecDepth 100000 in
theorem tX10_rings {l : Launch} {D : va_G} {cc : Nat → ClassId} {ak av : Nat → Nat} {ad : Nat → Nat} {g : Nat → Option Nat} {E : va_W} {n : Nat} {S : St} {x1 : Int32} {x2 : Int32} {x3 : Int32} {r : Int32} {S' : St} (hf : fX10_rings n S x1 x2 x3 = some (r, S')) : CI l yX10_rings wsX10_rings ({ frames := 5, cells := 0, slots := 0, locals := 114 } : Room) D cc ak av [.ref (ad 0), .int x1, .int x2, .int x3] (WX cc ad g S ++ E) (WX cc ad g S' ++ E) r := by
  refine mkI (c0 := cX10_rings) (nL := 4) (own := RX10) rfl rfl (by decide) rfl rfl (Nat.le_of_ble_eq_true rfl) ?_
  intro p e s m args below meth c A Q ls F B hQ hl w
  have hx := F.1
  have hb := F.2.1
  have hown := F.2.2.2.1
  have hts := F.2.2.2.2
  have hl : lv_has ls 4 [(0, .ref (ad 0)), (1, .int x1), (2, .int x2), (3, .int x3)] := hl
  unfold fX10_rings at hf
  refine lv_iload_n hx hb dX10_rings_0 rfl (lv_at hl 3 rfl) ?_
  refine lv_iconst (v := (-1)) hx hb dX10_rings_1 (by decide) ?_
  refine lv_icmp_lt (tgt := 19) hx hb dX10_rings_2 (by decide) (fun c1 => ?_) (fun c1 => ?_)
  · have hf := if_t hf c1
    refine lv_iconst (v := (-1)) hx hb dX10_rings_19 (by decide) ?_
    cases hf
    exact hQ _ _ _ _ dX10_rings_20 w
  · have hf := if_f hf c1
    refine lv_iload_n hx hb dX10_rings_5 rfl (lv_at hl 3 rfl) ?_
    refine lv_iload_n hx hb dX10_rings_6 rfl (lv_at hl 2 rfl) ?_
    refine lv_icmp_ge (tgt := 19) hx hb dX10_rings_7 (by decide) (fun c2 => ?_) (fun c2 => ?_)
    · have hf := if_t hf c2
      refine lv_iconst (v := (-1)) hx hb dX10_rings_19 (by decide) ?_
      cases hf
      exact hQ _ _ _ _ dX10_rings_20 w
    · have hf := if_f hf c2
      refine lv_aload_n hx hb dX10_rings_10 rfl (lv_at hl 0 rfl) ?_
      refine lv_iload_n hx hb dX10_rings_11 rfl (lv_at hl 1 rfl) ?_
      refine lv_iload_n hx hb dX10_rings_12 rfl (lv_at hl 2 rfl) ?_
      obtain ⟨⟨r3, S4⟩, er3, hf⟩ := ob_e hf
      have hf := lt_e hf (v := r3) rfl
      have hf := lt_e hf (v := S4) rfl
      refine kVi (As := [.int x1, .int x2]) (rest := []) F B w (tX10_ringsClose er3) (cwV 2 hts gX10_rings_X10_ringsClose rfl rfl rfl (by decide +kernel) ⟨Nat.le_of_ble_eq_true rfl, Nat.le_of_ble_eq_true rfl⟩) 0 gX_0 rfl rfl hl.1 rfl (Nat.le_of_ble_eq_true rfl) dX10_rings_13 ⟨Nat.le_of_ble_eq_true rfl, Nat.le_of_ble_eq_true rfl⟩ (fun H locs w => ?_)
      refine lv_if_ne (tgt := 21) hx hb dX10_rings_16 (by decide) (fun c6 => ?_) (fun c6 => ?_)
      · have hf := if_f hf c6
        refine lv_iload_n hx hb dX10_rings_21 rfl (lv_at hl 3 rfl) ?_
        refine lv_iconst (v := (-1)) hx hb dX10_rings_22 (by decide) ?_
        refine lv_icmp_ne (tgt := 36) hx hb dX10_rings_23 (by decide) (fun c7 => ?_) (fun c7 => ?_)
        · have hf := if_f hf c7
          refine lv_aload_n hx hb dX10_rings_36 rfl (lv_at hl 0 rfl) ?_
          refine kget (v := .ref (ad 8)) F B w inX10_rings_10 0 gX_0 rfl 7 (by decide) (hts (.fieldLink RX10 67 "LandReform" "rings" "LLandReform$Rings;") (by decide +kernel)) rfl rfl dX10_rings_37 ?_
          refine lv_iload_n hx hb dX10_rings_40 rfl (lv_at hl 3 rfl) ?_
          obtain ⟨r8, er8, hf⟩ := ob_e hf
          refine kVi (As := [.int x3]) (rest := []) F B w (tX6_fieldFor er8) (cwV 1 hts gX10_rings_X6_fieldFor rfl rfl rfl (by decide +kernel) ⟨Nat.le_of_ble_eq_true rfl, Nat.le_of_ble_eq_true rfl⟩) 8 gX_8 rfl rfl hl.1 rfl (Nat.le_of_ble_eq_true rfl) dX10_rings_41 ⟨Nat.le_of_ble_eq_true rfl, Nat.le_of_ble_eq_true rfl⟩ (fun H locs w => ?_)
          cases hf
          exact hQ _ _ _ _ dX10_rings_44 w
        · have hf := if_t hf c7
          refine lv_aload_n hx hb dX10_rings_26 rfl (lv_at hl 0 rfl) ?_
          refine kget (v := .ref (ad 8)) F B w inX10_rings_10 0 gX_0 rfl 7 (by decide) (hts (.fieldLink RX10 67 "LandReform" "rings" "LLandReform$Rings;") (by decide +kernel)) rfl rfl dX10_rings_27 ?_
          refine kgetN (v := .int (S4.1 20)) F B w inX10_rings_6 8 gX_8 rfl 6 (by decide) (B.2.1.f 10 rfl) rfl rfl dX10_rings_30 ?_
          refine lv_goto (tgt := 44) hx hb dX10_rings_33 (by decide) ?_
          cases hf
          exact hQ _ _ _ _ dX10_rings_44 w
      · have hf := if_t hf c6
        refine lv_iconst (v := (-1)) hx hb dX10_rings_19 (by decide) ?_
        cases hf
        exact hQ _ _ _ _ dX10_rings_20 w

def fX10_swap_L35 (n : Nat) (x1 : Int32) (x3 : Int32) (k : Int32 → St → Option (Int32 × St)) : Nat → Int32 → St → Option (Int32 × St)
  | 0, _, _ => none
  | fu + 1, x4, S => if (S.1 3) ≤ x4 then (k x4 S) else (ob (fX6_winnerOf n S x4) fun r9 => if r9 = (-1) then (fX10_swap_L35 n x1 x3 k fu (x4 + 1) S) else (ob (fX2_move S x4 (x1 + r9)) fun S12 => fX10_swap_L35 n x1 x3 k fu (x4 + 1) S12))
def fX10_swap (n : Nat) (S : St) (x1 : Int32) (x2 : Int32) : Option (Int32 × St) := ob (fX10_ringsClose n S x1 x2) fun q3 => lt_ q3.1 fun r1 => lt_ q3.2 fun S2 => if r1 = 0 then (some ((-1), S2)) else (ob (fX6_changes n S2) fun r5 => ob (fX2_transfersLeft S2) fun r6 => if r5 ≤ r6 then (fX10_swap_L35 n x1 r5 (fun x13 S14 => some (r5, S14)) n 0 S2) else (some ((-1), S2)))
set_option maxRecDepth 20000 in
theorem inX10_swap_2 : ∀ w ∈ u_ws RX2 TX2 12, w ∈ wsX10_swap := by decide +kernel
set_option maxRecDepth 20000 in
theorem inX10_swap_10 : ∀ w ∈ u_ws RX10 TX10 12, w ∈ wsX10_swap := by decide +kernel
set_option maxHeartbeats 4000000 in
set_option maxRecDepth 100000 in
theorem wX10_swap_L35 {p : Program} {l : Launch} {e : Env} {s : State} {m : MethodId} {args : Array Value} {below : List Frame} {meth : Method} {c : Code} {Q : State → Prop} {D : va_G} {cc : Nat → ClassId} {ak av : Nat → Nat} {A : Nat → Prop} {ad : Nat → Nat} {g : Nat → Option Nat} {E : va_W} {n : Nat} {x1 : Int32} {x3 : Int32} {r : Int32} {S' : St} {k : Int32 → St → Option (Int32 × St)} (F : CallFix p m c cX10_swap 6 s args wsX10_swap RX10) (B : Bd D cc ak av A s) (hQ : RetI p l e ({ frames := 5, cells := 0, slots := 0, locals := 114 } : Room) s m args below meth c D A Q cX10_swap (WX cc ad g S' ++ E) r)
    (hk : ∀ (x4 : Int32) (S : St) (H : Heap) (locs : List Loc) (ls : Array Slot), Wd D A s.heap H locs (WX cc ad g S ++ E) → lv_has ls 6 [(0, .ref (ad 0)), (1, .int x1), (3, .int x3), (4, .int x4)] → k x4 S = some (r, S') → W p l e ({ frames := 5, cells := 0, slots := 0, locals := 114 } : Room) s m args below meth c H locs 0 0 Q (F0 m 83 ls [])) :
    ∀ (fu : Nat) (x4 : Int32) (S : St) (H : Heap) (locs : List Loc) (ls : Array Slot), Wd D A s.heap H locs (WX cc ad g S ++ E) → lv_has ls 6 [(0, .ref (ad 0)), (1, .int x1), (3, .int x3), (4, .int x4)] → fX10_swap_L35 n x1 x3 k fu x4 S = some (r, S') → W p l e ({ frames := 5, cells := 0, slots := 0, locals := 114 } : Room) s m args below meth c H locs 0 0 Q (F0 m 35 ls []) := by
  have hx := F.1
  have hb := F.2.1
  have hown := F.2.2.2.1
  have hts := F.2.2.2.2
  intro fu
  induction fu with
  | zero => intro x4 S H locs ls w hl hf; rw [fX10_swap_L35] at hf; cases hf
  | succ fu ih =>
    intro x4 S H locs ls w hl hf
    rw [fX10_swap_L35] at hf
    refine lv_iload hx hb dX10_swap_35 (lv_at hl 3 rfl) ?_
    refine lv_aload_n hx hb dX10_swap_37 rfl (lv_at hl 0 rfl) ?_
    refine kget (v := .ref (ad 2)) F B w inX10_swap_10 0 gX_0 rfl 1 (by decide) (hts (.fieldLink RX10 19 "LandReform" "land" "LLandReform$Land;") (by decide +kernel)) rfl rfl dX10_swap_38 ?_
    refine kgetN (v := .int (S.1 3)) F B w inX10_swap_2 2 gX_2 rfl 6 (by decide) (B.2.1.f 11 rfl) rfl rfl dX10_swap_41 ?_
    refine lv_icmp_ge (tgt := 83) hx hb dX10_swap_44 (by decide) (fun c8 => ?_) (fun c8 => ?_)
    · have hf := if_t hf c8
      exact hk _ _ _ _ _ w (lv_sub hl [0, 1, 2, 3] rfl) hf
    · have hf := if_f hf c8
      refine lv_aload_n hx hb dX10_swap_47 rfl (lv_at hl 0 rfl) ?_
      refine kget (v := .ref (ad 8)) F B w inX10_swap_10 0 gX_0 rfl 7 (by decide) (hts (.fieldLink RX10 67 "LandReform" "rings" "LLandReform$Rings;") (by decide +kernel)) rfl rfl dX10_swap_48 ?_
      refine lv_iload hx hb dX10_swap_51 (lv_at hl 3 rfl) ?_
      obtain ⟨r9, er9, hf⟩ := ob_e hf
      refine kVi (As := [.int x4]) (rest := []) F B w (tX6_winnerOf er9) (cwV 1 hts gX10_swap_X6_winnerOf rfl rfl rfl (by decide +kernel) ⟨Nat.le_of_ble_eq_true rfl, Nat.le_of_ble_eq_true rfl⟩) 8 gX_8 rfl rfl hl.1 rfl (Nat.le_of_ble_eq_true rfl) dX10_swap_53 ⟨Nat.le_of_ble_eq_true rfl, Nat.le_of_ble_eq_true rfl⟩ (fun H locs w => ?_)
      refine lv_istore (lv' := [(5, .int r9), (0, .ref (ad 0)), (1, .int x1), (3, .int x3), (4, .int x4)]) hx hb dX10_swap_56 hl (by decide) rfl (fun ls hl => ?_)
      refine lv_iload hx hb dX10_swap_58 (lv_at hl 0 rfl) ?_
      refine lv_iconst (v := (-1)) hx hb dX10_swap_60 (by decide) ?_
      refine lv_icmp_eq (tgt := 77) hx hb dX10_swap_61 (by decide) (fun c10 => ?_) (fun c10 => ?_)
      · have hf := if_t hf c10
        refine lv_iinc (v := (x4 + 1)) (lv' := [(4, .int (x4 + 1)), (5, .int r9), (0, .ref (ad 0)), (1, .int x1), (3, .int x3)]) hx hb dX10_swap_77 hl (k := 4) rfl rfl (by decide) rfl (fun ls hl => ?_)
        refine lv_goto (tgt := 35) hx hb dX10_swap_80 (by decide) ?_
        exact ih _ _ _ _ _ w (lv_sub hl [2, 3, 4, 0] rfl) hf
      · have hf := if_f hf c10
        refine lv_aload_n hx hb dX10_swap_64 rfl (lv_at hl 1 rfl) ?_
        refine kget (v := .ref (ad 2)) F B w inX10_swap_10 0 gX_0 rfl 1 (by decide) (hts (.fieldLink RX10 19 "LandReform" "land" "LLandReform$Land;") (by decide +kernel)) rfl rfl dX10_swap_65 ?_
        refine lv_iload hx hb dX10_swap_68 (lv_at hl 4 rfl) ?_
        refine lv_iload_n hx hb dX10_swap_70 rfl (lv_at hl 2 rfl) ?_
        refine lv_iload hx hb dX10_swap_71 (lv_at hl 0 rfl) ?_
        refine lv_iadd hx hb dX10_swap_73 ?_
        obtain ⟨S12, er11, hf⟩ := ob_e hf
        refine kVv (As := [.int x4, .int (x1 + r9)]) (rest := []) F B w (tX2_move er11) (cwV 2 hts gX10_swap_X2_move rfl rfl rfl (by decide +kernel) ⟨Nat.le_of_ble_eq_true rfl, Nat.le_of_ble_eq_true rfl⟩) 2 gX_2 rfl rfl hl.1 rfl (Nat.le_of_ble_eq_true rfl) dX10_swap_74 ⟨Nat.le_of_ble_eq_true rfl, Nat.le_of_ble_eq_true rfl⟩ (fun H locs w => ?_)
        refine lv_iinc (v := (x4 + 1)) (lv' := [(4, .int (x4 + 1)), (5, .int r9), (0, .ref (ad 0)), (1, .int x1), (3, .int x3)]) hx hb dX10_swap_77 hl (k := 4) rfl rfl (by decide) rfl (fun ls hl => ?_)
        refine lv_goto (tgt := 35) hx hb dX10_swap_80 (by decide) ?_
        exact ih _ _ _ _ _ w (lv_sub hl [2, 3, 4, 0] rfl) hf
set_option maxHeartbeats 4000000 in
set_option maxRecDepth 100000 in
theorem tX10_swap {l : Launch} {D : va_G} {cc : Nat → ClassId} {ak av : Nat → Nat} {ad : Nat → Nat} {g : Nat → Option Nat} {E : va_W} {n : Nat} {S : St} {x1 : Int32} {x2 : Int32} {r : Int32} {S' : St} (hf : fX10_swap n S x1 x2 = some (r, S')) : CI l yX10_swap wsX10_swap ({ frames := 5, cells := 0, slots := 0, locals := 114 } : Room) D cc ak av [.ref (ad 0), .int x1, .int x2] (WX cc ad g S ++ E) (WX cc ad g S' ++ E) r := by
  refine mkI (c0 := cX10_swap) (nL := 6) (own := RX10) rfl rfl (by decide) rfl rfl (Nat.le_of_ble_eq_true rfl) ?_
  intro p e s m args below meth c A Q ls F B hQ hl w
  have hx := F.1
  have hb := F.2.1
  have hown := F.2.2.2.1
  have hts := F.2.2.2.2
  have hl : lv_has ls 6 [(0, .ref (ad 0)), (1, .int x1), (2, .int x2)] := hl
  unfold fX10_swap at hf
  refine lv_aload_n hx hb dX10_swap_0 rfl (lv_at hl 0 rfl) ?_
  refine lv_iload_n hx hb dX10_swap_1 rfl (lv_at hl 1 rfl) ?_
  refine lv_iload_n hx hb dX10_swap_2 rfl (lv_at hl 2 rfl) ?_
  obtain ⟨⟨r1, S2⟩, er1, hf⟩ := ob_e hf
  have hf := lt_e hf (v := r1) rfl
  have hf := lt_e hf (v := S2) rfl
  refine kVi (As := [.int x1, .int x2]) (rest := []) F B w (tX10_ringsClose er1) (cwV 2 hts gX10_swap_X10_ringsClose rfl rfl rfl (by decide +kernel) ⟨Nat.le_of_ble_eq_true rfl, Nat.le_of_ble_eq_true rfl⟩) 0 gX_0 rfl rfl hl.1 rfl (Nat.le_of_ble_eq_true rfl) dX10_swap_3 ⟨Nat.le_of_ble_eq_true rfl, Nat.le_of_ble_eq_true rfl⟩ (fun H locs w => ?_)
  refine lv_if_ne (tgt := 11) hx hb dX10_swap_6 (by decide) (fun c4 => ?_) (fun c4 => ?_)
  · have hf := if_f hf c4
    refine lv_aload_n hx hb dX10_swap_11 rfl (lv_at hl 0 rfl) ?_
    refine kget (v := .ref (ad 8)) F B w inX10_swap_10 0 gX_0 rfl 7 (by decide) (hts (.fieldLink RX10 67 "LandReform" "rings" "LLandReform$Rings;") (by decide +kernel)) rfl rfl dX10_swap_12 ?_
    obtain ⟨r5, er5, hf⟩ := ob_e hf
    refine kVi (As := []) (rest := []) F B w (tX6_changes er5) (cwV 0 hts gX10_swap_X6_changes rfl rfl rfl (by decide +kernel) ⟨Nat.le_of_ble_eq_true rfl, Nat.le_of_ble_eq_true rfl⟩) 8 gX_8 rfl rfl hl.1 rfl (Nat.le_of_ble_eq_true rfl) dX10_swap_15 ⟨Nat.le_of_ble_eq_true rfl, Nat.le_of_ble_eq_true rfl⟩ (fun H locs w => ?_)
    refine lv_istore_n (lv' := [(3, .int r5), (0, .ref (ad 0)), (1, .int x1), (2, .int x2)]) hx hb dX10_swap_18 rfl hl (by decide) rfl (fun ls hl => ?_)
    refine lv_iload_n hx hb dX10_swap_19 rfl (lv_at hl 0 rfl) ?_
    refine lv_aload_n hx hb dX10_swap_20 rfl (lv_at hl 1 rfl) ?_
    refine kget (v := .ref (ad 2)) F B w inX10_swap_10 0 gX_0 rfl 1 (by decide) (hts (.fieldLink RX10 19 "LandReform" "land" "LLandReform$Land;") (by decide +kernel)) rfl rfl dX10_swap_21 ?_
    obtain ⟨r6, er6, hf⟩ := ob_e hf
    refine kVi (As := []) (rest := [.int r5]) F B w (tX2_transfersLeft er6) (cwV 0 hts gX10_swap_X2_transfersLeft rfl rfl rfl (by decide +kernel) ⟨Nat.le_of_ble_eq_true rfl, Nat.le_of_ble_eq_true rfl⟩) 2 gX_2 rfl rfl hl.1 rfl (Nat.le_of_ble_eq_true rfl) dX10_swap_24 ⟨Nat.le_of_ble_eq_true rfl, Nat.le_of_ble_eq_true rfl⟩ (fun H locs w => ?_)
    refine lv_icmp_le (tgt := 32) hx hb dX10_swap_27 (by decide) (fun c7 => ?_) (fun c7 => ?_)
    · have hf := if_t hf c7
      refine lv_iconst (v := 0) hx hb dX10_swap_32 (by decide) ?_
      refine lv_istore (lv' := [(4, .int 0), (3, .int r5), (0, .ref (ad 0)), (1, .int x1), (2, .int x2)]) hx hb dX10_swap_33 hl (by decide) rfl (fun ls hl => ?_)
      refine wX10_swap_L35 F B hQ (fun x13 S14 H locs ls w hl hf => ?_) n _ _ _ _ _ w (lv_sub hl [2, 3, 1, 0] rfl) hf
      refine lv_iload_n hx hb dX10_swap_83 rfl (lv_at hl 2 rfl) ?_
      cases hf
      exact hQ _ _ _ _ dX10_swap_84 w
    · have hf := if_f hf c7
      refine lv_iconst (v := (-1)) hx hb dX10_swap_30 (by decide) ?_
      cases hf
      exact hQ _ _ _ _ dX10_swap_31 w
  · have hf := if_t hf c4
    refine lv_iconst (v := (-1)) hx hb dX10_swap_9 (by decide) ?_
    cases hf
    exact hQ _ _ _ _ dX10_swap_10 w

def fX10_count (S : St) (x1 : Int32) : Option Int32 := if x1 = 0 then (some (S.1 5)) else if x1 = 1 then (some (S.1 1)) else if x1 = 2 then (some (S.1 3)) else if x1 = 3 then (some (S.1 4)) else if x1 = 4 then (some (S.1 28)) else if x1 = 5 then (some (S.1 0)) else if x1 = 6 then (some (S.1 6)) else if x1 = 7 then (some (S.1 2)) else (some (-1))
set_option maxRecDepth 20000 in
theorem inX10_count_2 : ∀ w ∈ u_ws RX2 TX2 12, w ∈ wsX10_count := by decide +kernel
set_option maxRecDepth 20000 in
theorem inX10_count_3 : ∀ w ∈ u_ws RX3 TX3 9, w ∈ wsX10_count := by decide +kernel
set_option maxRecDepth 20000 in
theorem inX10_count_4 : ∀ w ∈ u_ws RX4 TX4 5, w ∈ wsX10_count := by decide +kernel
set_option maxRecDepth 20000 in
theorem inX10_count_8 : ∀ w ∈ u_ws RX8 TX8 2, w ∈ wsX10_count := by decide +kernel
set_option maxRecDepth 20000 in
theorem inX10_count_10 : ∀ w ∈ u_ws RX10 TX10 12, w ∈ wsX10_count := by decide +kernel
set_option maxHeartbeats 4000000 in
set_option maxRecDepth 100000 in
theorem tX10_count {l : Launch} {D : va_G} {cc : Nat → ClassId} {ak av : Nat → Nat} {ad : Nat → Nat} {g : Nat → Option Nat} {E : va_W} {S : St} {x1 : Int32} {r : Int32} (hf : fX10_count S x1 = some r) : CI l yX10_count wsX10_count ({ frames := 0, cells := 0, slots := 0, locals := 0 } : Room) D cc ak av [.ref (ad 0), .int x1] (WX cc ad g S ++ E) (WX cc ad g S ++ E) r := by
  refine mkI (c0 := cX10_count) (nL := 2) (own := RX10) rfl rfl (by decide) rfl rfl (Nat.le_of_ble_eq_true rfl) ?_
  intro p e s m args below meth c A Q ls F B hQ hl w
  have hx := F.1
  have hb := F.2.1
  have hown := F.2.2.2.1
  have hts := F.2.2.2.2
  have hl : lv_has ls 2 [(0, .ref (ad 0)), (1, .int x1)] := hl
  unfold fX10_count at hf
  refine lv_iload_n hx hb dX10_count_0 rfl (lv_at hl 1 rfl) ?_
  by_cases c1 : x1 = 0
  · have hf := if_t hf c1
    refine lv_tableIn (off := 47) (tgt := 48) hx hb dX10_count_1 (by rw [c1]; decide) (by rw [c1]; decide) (by rw [c1]; rfl) (by decide) ?_
    refine lv_aload_n hx hb dX10_count_48 rfl (lv_at hl 0 rfl) ?_
    refine kget (v := .ref (ad 2)) F B w inX10_count_10 0 gX_0 rfl 1 (by decide) (hts (.fieldLink RX10 19 "LandReform" "land" "LLandReform$Land;") (by decide +kernel)) rfl rfl dX10_count_49 ?_
    refine kgetN (v := .int (S.1 5)) F B w inX10_count_2 2 gX_2 rfl 11 (by decide) (B.2.1.f 0 rfl) rfl rfl dX10_count_52 ?_
    cases hf
    exact hQ _ _ _ _ dX10_count_55 w
  · have hf := if_f hf c1
    by_cases c2 : x1 = 1
    · have hf := if_t hf c2
      refine lv_tableIn (off := 55) (tgt := 56) hx hb dX10_count_1 (by rw [c2]; decide) (by rw [c2]; decide) (by rw [c2]; rfl) (by decide) ?_
      refine lv_aload_n hx hb dX10_count_56 rfl (lv_at hl 0 rfl) ?_
      refine kget (v := .ref (ad 1)) F B w inX10_count_10 0 gX_0 rfl 0 (by decide) (hts (.fieldLink RX10 10 "LandReform" "people" "LLandReform$People;") (by decide +kernel)) rfl rfl dX10_count_57 ?_
      refine kgetN (v := .int (S.1 1)) F B w inX10_count_4 1 gX_1 rfl 3 (by decide) (B.2.1.f 20 rfl) rfl rfl dX10_count_60 ?_
      cases hf
      exact hQ _ _ _ _ dX10_count_63 w
    · have hf := if_f hf c2
      by_cases c3 : x1 = 2
      · have hf := if_t hf c3
        refine lv_tableIn (off := 63) (tgt := 64) hx hb dX10_count_1 (by rw [c3]; decide) (by rw [c3]; decide) (by rw [c3]; rfl) (by decide) ?_
        refine lv_aload_n hx hb dX10_count_64 rfl (lv_at hl 0 rfl) ?_
        refine kget (v := .ref (ad 2)) F B w inX10_count_10 0 gX_0 rfl 1 (by decide) (hts (.fieldLink RX10 19 "LandReform" "land" "LLandReform$Land;") (by decide +kernel)) rfl rfl dX10_count_65 ?_
        refine kgetN (v := .int (S.1 3)) F B w inX10_count_2 2 gX_2 rfl 6 (by decide) (B.2.1.f 11 rfl) rfl rfl dX10_count_68 ?_
        cases hf
        exact hQ _ _ _ _ dX10_count_71 w
      · have hf := if_f hf c3
        by_cases c4 : x1 = 3
        · have hf := if_t hf c4
          refine lv_tableIn (off := 71) (tgt := 72) hx hb dX10_count_1 (by rw [c4]; decide) (by rw [c4]; decide) (by rw [c4]; rfl) (by decide) ?_
          refine lv_aload_n hx hb dX10_count_72 rfl (lv_at hl 0 rfl) ?_
          refine kget (v := .ref (ad 2)) F B w inX10_count_10 0 gX_0 rfl 1 (by decide) (hts (.fieldLink RX10 19 "LandReform" "land" "LLandReform$Land;") (by decide +kernel)) rfl rfl dX10_count_73 ?_
          refine kgetN (v := .int (S.1 4)) F B w inX10_count_2 2 gX_2 rfl 10 (by decide) (B.2.1.f 21 rfl) rfl rfl dX10_count_76 ?_
          cases hf
          exact hQ _ _ _ _ dX10_count_79 w
        · have hf := if_f hf c4
          by_cases c5 : x1 = 4
          · have hf := if_t hf c5
            refine lv_tableIn (off := 79) (tgt := 80) hx hb dX10_count_1 (by rw [c5]; decide) (by rw [c5]; decide) (by rw [c5]; rfl) (by decide) ?_
            refine lv_aload_n hx hb dX10_count_80 rfl (lv_at hl 0 rfl) ?_
            refine kget (v := .ref (ad 10)) F B w inX10_count_10 0 gX_0 rfl 10 (by decide) (hts (.fieldLink RX10 80 "LandReform" "law" "LLandReform$Law;") (by decide +kernel)) rfl rfl dX10_count_81 ?_
            refine kgetN (v := .int (S.1 28)) F B w inX10_count_3 10 gX_10 rfl 8 (by decide) (B.2.1.f 2 rfl) rfl rfl dX10_count_84 ?_
            cases hf
            exact hQ _ _ _ _ dX10_count_87 w
          · have hf := if_f hf c5
            by_cases c6 : x1 = 5
            · have hf := if_t hf c6
              refine lv_tableIn (off := 87) (tgt := 88) hx hb dX10_count_1 (by rw [c6]; decide) (by rw [c6]; decide) (by rw [c6]; rfl) (by decide) ?_
              refine lv_aload_n hx hb dX10_count_88 rfl (lv_at hl 0 rfl) ?_
              refine kget (v := .int (S.1 0)) F B w inX10_count_10 0 gX_0 rfl 9 (by decide) (hts (.fieldLink RX10 243 "LandReform" "saleCount" "I") (by decide +kernel)) rfl rfl dX10_count_89 ?_
              cases hf
              exact hQ _ _ _ _ dX10_count_92 w
            · have hf := if_f hf c6
              by_cases c7 : x1 = 6
              · have hf := if_t hf c7
                refine lv_tableIn (off := 92) (tgt := 93) hx hb dX10_count_1 (by rw [c7]; decide) (by rw [c7]; decide) (by rw [c7]; rfl) (by decide) ?_
                refine lv_aload_n hx hb dX10_count_93 rfl (lv_at hl 0 rfl) ?_
                refine kget (v := .ref (ad 3)) F B w inX10_count_10 0 gX_0 rfl 2 (by decide) (hts (.fieldLink RX10 26 "LandReform" "tape" "LLandReform$Tape;") (by decide +kernel)) rfl rfl dX10_count_94 ?_
                refine kgetN (v := .int (S.1 6)) F B w inX10_count_8 3 gX_3 rfl 1 (by decide) (B.2.1.f 1 rfl) rfl rfl dX10_count_97 ?_
                cases hf
                exact hQ _ _ _ _ dX10_count_100 w
              · have hf := if_f hf c7
                by_cases c8 : x1 = 7
                · have hf := if_t hf c8
                  refine lv_tableIn (off := 100) (tgt := 101) hx hb dX10_count_1 (by rw [c8]; decide) (by rw [c8]; decide) (by rw [c8]; rfl) (by decide) ?_
                  refine lv_aload_n hx hb dX10_count_101 rfl (lv_at hl 0 rfl) ?_
                  refine kget (v := .ref (ad 1)) F B w inX10_count_10 0 gX_0 rfl 0 (by decide) (hts (.fieldLink RX10 10 "LandReform" "people" "LLandReform$People;") (by decide +kernel)) rfl rfl dX10_count_102 ?_
                  refine kgetN (v := .int (S.1 2)) F B w inX10_count_4 1 gX_1 rfl 4 (by decide) (B.2.1.f 22 rfl) rfl rfl dX10_count_105 ?_
                  cases hf
                  exact hQ _ _ _ _ dX10_count_108 w
                · have hf := if_f hf c8
                  have hsw : Int32.toInt x1 < 0 ∨ 7 < Int32.toInt x1 := by
                    have hc1 := lv_neT c1 (a := 0) (by decide)
                    have hc2 := lv_neT c2 (a := 1) (by decide)
                    have hc3 := lv_neT c3 (a := 2) (by decide)
                    have hc4 := lv_neT c4 (a := 3) (by decide)
                    have hc5 := lv_neT c5 (a := 4) (by decide)
                    have hc6 := lv_neT c6 (a := 5) (by decide)
                    have hc7 := lv_neT c7 (a := 6) (by decide)
                    have hc8 := lv_neT c8 (a := 7) (by decide)
                    omega
                  refine lv_tableOut (tgt := 109) hx hb dX10_count_1 hsw (by decide) ?_
                  refine lv_iconst (v := (-1)) hx hb dX10_count_109 (by decide) ?_
                  cases hf
                  exact hQ _ _ _ _ dX10_count_110 w
