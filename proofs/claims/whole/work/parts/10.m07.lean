def fX11_turns_L2 (n : Nat) (x1 : Int32) (x2 : Int32) (k : Int32 → St → Option (Int32 × St)) : Nat → Int32 → St → Option (Int32 × St)
  | 0, _, _ => none
  | fu + 1, x3, S => if x2 ≤ x3 then (k x3 S) else (ob (fX11_firstOf n S (x1 + x3)) fun r2 => if x3 < 0 ∨ 8 ≤ Int32.toNatClampNeg x3 then none else lt_ (sA S 35 (Int32.toNatClampNeg x3) r2) fun S4 => if x3 < 0 ∨ 8 ≤ Int32.toNatClampNeg x3 then none else lt_ (sA S4 36 (Int32.toNatClampNeg x3) (-1)) fun S6 => if x3 < 0 ∨ 8 ≤ Int32.toNatClampNeg x3 then none else if (S6.2.1 35 (Int32.toNatClampNeg x3)) = (-1) then (some ((-1), S6)) else (fX11_turns_L2 n x1 x2 k fu (x3 + 1) S6))
def fX11_turns_L58 (n : Nat) (x1 : Int32) (x2 : Int32) (x3 : Int32) (x4 : Int32) (k : Int32 → St → Option (Int32 × St)) : Nat → Int32 → St → Option (Int32 × St)
  | 0, _, _ => none
  | fu + 1, x5, S => if x2 ≤ x5 then (k x5 S) else (if x5 < 0 ∨ 8 ≤ Int32.toNatClampNeg x5 then none else if (S.2.1 36 (Int32.toNatClampNeg x5)) = (-1) then (if (x1 + x5) < 0 ∨ 40 ≤ Int32.toNatClampNeg (x1 + x5) then none else ob (fX11_wanted n S (S.2.1 6 (Int32.toNatClampNeg (x1 + x5))) x2) fun r18 => if x5 < 0 ∨ 8 ≤ Int32.toNatClampNeg x5 then none else lt_ (sA S 37 (Int32.toNatClampNeg x5) r18) fun S20 => fX11_turns_L58 n x1 x2 x3 x4 k fu (x5 + 1) S20) else (if x5 < 0 ∨ 8 ≤ Int32.toNatClampNeg x5 then none else lt_ (sA S 37 (Int32.toNatClampNeg x5) (-1)) fun S16 => fX11_turns_L58 n x1 x2 x3 x4 k fu (x5 + 1) S16))
def fX11_turns_L109 (n : Nat) (x1 : Int32) (x2 : Int32) (x3 : Int32) (x4 : Int32) (S : St) (k : Int32 → Option (Int32 × St)) : Nat → Int32 → Option (Int32 × St)
  | 0, _ => none
  | fu + 1, x5 => if x5 < 0 ∨ 8 ≤ Int32.toNatClampNeg x5 then none else if (S.2.1 36 (Int32.toNatClampNeg x5)) = (-1) then (k x5) else (fX11_turns_L109 n x1 x2 x3 x4 S k fu (x5 + 1))
def fX11_turns_L129 (n : Nat) (x1 : Int32) (x2 : Int32) (x3 : Int32) (x4 : Int32) (S : St) (k : Int32 → Int32 → Option (Int32 × St)) : Nat → Int32 → Int32 → Option (Int32 × St)
  | 0, _, _ => none
  | fu + 1, x5, x6 => if x2 ≤ x6 then (k x5 x6) else (if x5 < 0 ∨ 8 ≤ Int32.toNatClampNeg x5 then none else lt_ (S.2.1 37 (Int32.toNatClampNeg x5)) fun v28 => fX11_turns_L129 n x1 x2 x3 x4 S k fu v28 (x6 + 1))
def fX11_turns_L154 (n : Nat) (x1 : Int32) (x2 : Int32) (x3 : Int32) (x5 : Int32) (k : Int32 → Int32 → St → Option (Int32 × St)) : Nat → Int32 → Int32 → St → Option (Int32 × St)
  | 0, _, _, _ => none
  | fu + 1, x4, x6, S => if x6 < 0 ∨ 8 ≤ Int32.toNatClampNeg x6 then none else if (S.2.1 37 (Int32.toNatClampNeg x6)) < 0 ∨ 8 ≤ Int32.toNatClampNeg (S.2.1 37 (Int32.toNatClampNeg x6)) then none else if x6 < 0 ∨ 8 ≤ Int32.toNatClampNeg x6 then none else lt_ (sA S 36 (Int32.toNatClampNeg x6) (S.2.1 35 (Int32.toNatClampNeg (S.2.1 37 (Int32.toNatClampNeg x6))))) fun S34 => if x6 < 0 ∨ 8 ≤ Int32.toNatClampNeg x6 then none else lt_ (S34.2.1 37 (Int32.toNatClampNeg x6)) fun v36 => if v36 = x5 then (k (x4 + (-1)) v36 S34) else (fX11_turns_L154 n x1 x2 x3 x5 k fu (x4 + (-1)) v36 S34)
def fX11_turns_L50 (n : Nat) (x1 : Int32) (x2 : Int32) (k : Int32 → Int32 → St → Option (Int32 × St)) : Nat → Int32 → Int32 → St → Option (Int32 × St)
  | 0, _, _, _ => none
  | fu + 1, x3, x4, S => if x4 ≤ 0 then (k x3 x4 S) else (fX11_turns_L58 n x1 x2 x3 x4 (fun x21 S22 => fX11_turns_L109 n x1 x2 x3 x4 S22 (fun x25 => fX11_turns_L129 n x1 x2 x3 x4 S22 (fun x29 x30 => fX11_turns_L154 n x1 x2 x3 x29 (fun x38 x39 S40 => fX11_turns_L50 n x1 x2 k fu (x3 + 1) x38 S40) n x4 x29 S22) n x25 0) n 0) n 0 S)
def fX11_turns (n : Nat) (S : St) (x1 : Int32) (x2 : Int32) : Option (Int32 × St) := fX11_turns_L2 n x1 x2 (fun x9 S10 => fX11_turns_L50 n x1 x2 (fun x41 x42 S43 => some (x41, S43)) n 0 x2 S10) n 0 S
set_option maxRecDepth 20000 in
theorem inX11_turns_11 : ∀ w ∈ u_ws RX11 TX11 47, w ∈ wsX11_turns := by decide +kernel
set_option maxHeartbeats 4000000 in
set_option maxRecDepth 100000 in
theorem wX11_turns_L2 {p : Program} {l : Launch} {e : Env} {s : State} {m : MethodId} {args : Array Value} {below : List Frame} {meth : Method} {c : Code} {Q : State → Prop} {D : va_G} {cc : Nat → ClassId} {ak av : Nat → Nat} {A : Nat → Prop} {ad : Nat → Nat} {E : va_W} {n : Nat} {x1 : Int32} {x2 : Int32} {r : Int32} {S' : St} {k : Int32 → St → Option (Int32 × St)} (F : CallFix p m c cX11_turns 7 s args wsX11_turns RX11) (B : Bd D cc ak av A s) (hQ : RetI p l e ({ frames := 3, cells := 0, slots := 0, locals := 67 } : Room) s m args below meth c D A Q cX11_turns (WM cc ad S' ++ E) r)
    (hk : ∀ (x3 : Int32) (S : St) (H : Heap) (locs : List Loc) (ls : Array Slot), Wd D A s.heap H locs (WM cc ad S ++ E) → lv_has ls 7 [(0, .ref (ad 0)), (1, .int x1), (2, .int x2), (3, .int x3)] → k x3 S = some (r, S') → W p l e ({ frames := 3, cells := 0, slots := 0, locals := 67 } : Room) s m args below meth c H locs 0 0 Q (F0 m 45 ls [])) :
    ∀ (fu : Nat) (x3 : Int32) (S : St) (H : Heap) (locs : List Loc) (ls : Array Slot), Wd D A s.heap H locs (WM cc ad S ++ E) → lv_has ls 7 [(0, .ref (ad 0)), (1, .int x1), (2, .int x2), (3, .int x3)] → fX11_turns_L2 n x1 x2 k fu x3 S = some (r, S') → W p l e ({ frames := 3, cells := 0, slots := 0, locals := 67 } : Room) s m args below meth c H locs 0 0 Q (F0 m 2 ls []) := by
  have hx := F.1
  have hb := F.2.1
  have hown := F.2.2.2.1
  have hts := F.2.2.2.2
  intro fu
  induction fu with
  | zero => intro x3 S H locs ls w hl hf; rw [fX11_turns_L2] at hf; cases hf
  | succ fu ih =>
    intro x3 S H locs ls w hl hf
    rw [fX11_turns_L2] at hf
    refine lv_iload_n hx hb dX11_turns_2 rfl (lv_at hl 3 rfl) ?_
    refine lv_iload_n hx hb dX11_turns_3 rfl (lv_at hl 2 rfl) ?_
    refine lv_icmp_ge (tgt := 45) hx hb dX11_turns_4 (by decide) (fun c1 => ?_) (fun c1 => ?_)
    · have hf := if_t hf c1
      exact hk _ _ _ _ _ w (lv_sub hl [0, 1, 2, 3] rfl) hf
    · have hf := if_f hf c1
      refine lv_aload_n hx hb dX11_turns_7 rfl (lv_at hl 0 rfl) ?_
      refine kget (v := .ref (ad 21)) F B w inX11_turns_11 0 gM_0 rfl 35 (by decide) (hts (.fieldLink RX11 76 "LandReformModel" "has" "[I") (by decide +kernel)) rfl rfl dX11_turns_8 ?_
      refine lv_iload_n hx hb dX11_turns_11 rfl (lv_at hl 3 rfl) ?_
      refine lv_aload_n hx hb dX11_turns_12 rfl (lv_at hl 0 rfl) ?_
      refine lv_iload_n hx hb dX11_turns_13 rfl (lv_at hl 1 rfl) ?_
      refine lv_iload_n hx hb dX11_turns_14 rfl (lv_at hl 3 rfl) ?_
      refine lv_iadd hx hb dX11_turns_15 ?_
      obtain ⟨r2, er2, hf⟩ := ob_e hf
      refine kVi (As := [.int (x1 + x3)]) (rest := [.int x3, .ref (ad 21)]) F B w (tX11_firstOf er2) (cwV 1 hts gX11_turns_X11_firstOf rfl rfl rfl (by decide +kernel) ⟨Nat.le_of_ble_eq_true rfl, Nat.le_of_ble_eq_true rfl⟩) 0 gM_0 rfl rfl hl.1 rfl (Nat.le_of_ble_eq_true rfl) dX11_turns_16 ⟨Nat.le_of_ble_eq_true rfl, Nat.le_of_ble_eq_true rfl⟩ (fun H locs w => ?_)
      obtain ⟨g3, hf⟩ := if_g hf
      refine kiast F B w 21 gM_21 g3 bM_21 dX11_turns_19 (fun H locs w => ?_)
      obtain ⟨S4, eS4⟩ : ∃ z, z = sA S 35 (Int32.toNatClampNeg x3) r2 := ⟨_, rfl⟩
      rw [← eS4] at w
      have hf := lt_e hf eS4
      refine lv_aload_n hx hb dX11_turns_20 rfl (lv_at hl 0 rfl) ?_
      refine kget (v := .ref (ad 22)) F B w inX11_turns_11 0 gM_0 rfl 36 (by decide) (hts (.fieldLink RX11 79 "LandReformModel" "gets" "[I") (by decide +kernel)) rfl rfl dX11_turns_21 ?_
      refine lv_iload_n hx hb dX11_turns_24 rfl (lv_at hl 3 rfl) ?_
      refine lv_iconst (v := (-1)) hx hb dX11_turns_25 (by decide) ?_
      obtain ⟨g5, hf⟩ := if_g hf
      refine kiast F B w 22 gM_22 g5 bM_22 dX11_turns_26 (fun H locs w => ?_)
      obtain ⟨S6, eS6⟩ : ∃ z, z = sA S4 36 (Int32.toNatClampNeg x3) (-1) := ⟨_, rfl⟩
      rw [← eS6] at w
      have hf := lt_e hf eS6
      refine lv_aload_n hx hb dX11_turns_27 rfl (lv_at hl 0 rfl) ?_
      refine kget (v := .ref (ad 21)) F B w inX11_turns_11 0 gM_0 rfl 35 (by decide) (hts (.fieldLink RX11 76 "LandReformModel" "has" "[I") (by decide +kernel)) rfl rfl dX11_turns_28 ?_
      refine lv_iload_n hx hb dX11_turns_31 rfl (lv_at hl 3 rfl) ?_
      obtain ⟨g7, hf⟩ := if_g hf
      refine kiald F B w 21 gM_21 g7 dX11_turns_32 ?_
      refine lv_iconst (v := (-1)) hx hb dX11_turns_33 (by decide) ?_
      refine lv_icmp_ne (tgt := 39) hx hb dX11_turns_34 (by decide) (fun c8 => ?_) (fun c8 => ?_)
      · have hf := if_f hf c8
        refine lv_iinc (v := (x3 + 1)) (lv' := [(3, .int (x3 + 1)), (0, .ref (ad 0)), (1, .int x1), (2, .int x2)]) hx hb dX11_turns_39 hl (k := 3) rfl rfl (by decide) rfl (fun ls hl => ?_)
        refine lv_goto (tgt := 2) hx hb dX11_turns_42 (by decide) ?_
        exact ih _ _ _ _ _ w (lv_sub hl [1, 2, 3, 0] rfl) hf
      · have hf := if_t hf c8
        refine lv_iconst (v := (-1)) hx hb dX11_turns_37 (by decide) ?_
        cases hf
        exact hQ _ _ _ _ dX11_turns_38 w
set_option maxHeartbeats 4000000 in
set_option maxRecDepth 100000 in
theorem wX11_turns_L58 {p : Program} {l : Launch} {e : Env} {s : State} {m : MethodId} {args : Array Value} {below : List Frame} {meth : Method} {c : Code} {Q : State → Prop} {D : va_G} {cc : Nat → ClassId} {ak av : Nat → Nat} {A : Nat → Prop} {ad : Nat → Nat} {E : va_W} {n : Nat} {x1 : Int32} {x2 : Int32} {x3 : Int32} {x4 : Int32} {r : Int32} {S' : St} {k : Int32 → St → Option (Int32 × St)} (F : CallFix p m c cX11_turns 7 s args wsX11_turns RX11) (B : Bd D cc ak av A s) (hQ : RetI p l e ({ frames := 3, cells := 0, slots := 0, locals := 67 } : Room) s m args below meth c D A Q cX11_turns (WM cc ad S' ++ E) r)
    (hk : ∀ (x5 : Int32) (S : St) (H : Heap) (locs : List Loc) (ls : Array Slot), Wd D A s.heap H locs (WM cc ad S ++ E) → lv_has ls 7 [(0, .ref (ad 0)), (1, .int x1), (2, .int x2), (3, .int x3), (4, .int x4), (5, .int x5)] → k x5 S = some (r, S') → W p l e ({ frames := 3, cells := 0, slots := 0, locals := 67 } : Room) s m args below meth c H locs 0 0 Q (F0 m 106 ls [])) :
    ∀ (fu : Nat) (x5 : Int32) (S : St) (H : Heap) (locs : List Loc) (ls : Array Slot), Wd D A s.heap H locs (WM cc ad S ++ E) → lv_has ls 7 [(0, .ref (ad 0)), (1, .int x1), (2, .int x2), (3, .int x3), (4, .int x4), (5, .int x5)] → fX11_turns_L58 n x1 x2 x3 x4 k fu x5 S = some (r, S') → W p l e ({ frames := 3, cells := 0, slots := 0, locals := 67 } : Room) s m args below meth c H locs 0 0 Q (F0 m 58 ls []) := by
  have hx := F.1
  have hb := F.2.1
  have hown := F.2.2.2.1
  have hts := F.2.2.2.2
  intro fu
  induction fu with
  | zero => intro x5 S H locs ls w hl hf; rw [fX11_turns_L58] at hf; cases hf
  | succ fu ih =>
    intro x5 S H locs ls w hl hf
    rw [fX11_turns_L58] at hf
    refine lv_iload hx hb dX11_turns_58 (lv_at hl 5 rfl) ?_
    refine lv_iload_n hx hb dX11_turns_60 rfl (lv_at hl 2 rfl) ?_
    refine lv_icmp_ge (tgt := 106) hx hb dX11_turns_61 (by decide) (fun c12 => ?_) (fun c12 => ?_)
    · have hf := if_t hf c12
      exact hk _ _ _ _ _ w (lv_sub hl [0, 1, 2, 3, 4, 5] rfl) hf
    · have hf := if_f hf c12
      refine lv_aload_n hx hb dX11_turns_64 rfl (lv_at hl 0 rfl) ?_
      refine kget (v := .ref (ad 23)) F B w inX11_turns_11 0 gM_0 rfl 37 (by decide) (hts (.fieldLink RX11 82 "LandReformModel" "points" "[I") (by decide +kernel)) rfl rfl dX11_turns_65 ?_
      refine lv_iload hx hb dX11_turns_68 (lv_at hl 5 rfl) ?_
      refine lv_aload_n hx hb dX11_turns_70 rfl (lv_at hl 0 rfl) ?_
      refine kget (v := .ref (ad 22)) F B w inX11_turns_11 0 gM_0 rfl 36 (by decide) (hts (.fieldLink RX11 79 "LandReformModel" "gets" "[I") (by decide +kernel)) rfl rfl dX11_turns_71 ?_
      refine lv_iload hx hb dX11_turns_74 (lv_at hl 5 rfl) ?_
      obtain ⟨g13, hf⟩ := if_g hf
      refine kiald F B w 22 gM_22 g13 dX11_turns_76 ?_
      refine lv_iconst (v := (-1)) hx hb dX11_turns_77 (by decide) ?_
      refine lv_icmp_ne (tgt := 98) hx hb dX11_turns_78 (by decide) (fun c14 => ?_) (fun c14 => ?_)
      · have hf := if_f hf c14
        refine lv_iconst (v := (-1)) hx hb dX11_turns_98 (by decide) ?_
        obtain ⟨g15, hf⟩ := if_g hf
        refine kiast F B w 23 gM_23 g15 bM_23 dX11_turns_99 (fun H locs w => ?_)
        obtain ⟨S16, eS16⟩ : ∃ z, z = sA S 37 (Int32.toNatClampNeg x5) (-1) := ⟨_, rfl⟩
        rw [← eS16] at w
        have hf := lt_e hf eS16
        refine lv_iinc (v := (x5 + 1)) (lv' := [(5, .int (x5 + 1)), (0, .ref (ad 0)), (1, .int x1), (2, .int x2), (3, .int x3), (4, .int x4)]) hx hb dX11_turns_100 hl (k := 5) rfl rfl (by decide) rfl (fun ls hl => ?_)
        refine lv_goto (tgt := 58) hx hb dX11_turns_103 (by decide) ?_
        exact ih _ _ _ _ _ w (lv_sub hl [1, 2, 3, 4, 5, 0] rfl) hf
      · have hf := if_t hf c14
        refine lv_aload_n hx hb dX11_turns_81 rfl (lv_at hl 0 rfl) ?_
        refine lv_aload_n hx hb dX11_turns_82 rfl (lv_at hl 0 rfl) ?_
        refine kget (v := .ref (ad 2)) F B w inX11_turns_11 0 gM_0 rfl 6 (by decide) (hts (.fieldLink RX11 13 "LandReformModel" "home" "[I") (by decide +kernel)) rfl rfl dX11_turns_83 ?_
        refine lv_iload_n hx hb dX11_turns_86 rfl (lv_at hl 1 rfl) ?_
        refine lv_iload hx hb dX11_turns_87 (lv_at hl 5 rfl) ?_
        refine lv_iadd hx hb dX11_turns_89 ?_
        obtain ⟨g17, hf⟩ := if_g hf
        refine kiald F B w 2 gM_2 g17 dX11_turns_90 ?_
        refine lv_iload_n hx hb dX11_turns_91 rfl (lv_at hl 2 rfl) ?_
        obtain ⟨r18, er18, hf⟩ := ob_e hf
        refine kVi (As := [.int (S.2.1 6 (Int32.toNatClampNeg (x1 + x5))), .int x2]) (rest := [.int x5, .ref (ad 23)]) F B w (tX11_wanted er18) (cwV 2 hts gX11_turns_X11_wanted rfl rfl rfl (by decide +kernel) ⟨Nat.le_of_ble_eq_true rfl, Nat.le_of_ble_eq_true rfl⟩) 0 gM_0 rfl rfl hl.1 rfl (Nat.le_of_ble_eq_true rfl) dX11_turns_92 ⟨Nat.le_of_ble_eq_true rfl, Nat.le_of_ble_eq_true rfl⟩ (fun H locs w => ?_)
        refine lv_goto (tgt := 99) hx hb dX11_turns_95 (by decide) ?_
        obtain ⟨g19, hf⟩ := if_g hf
        refine kiast F B w 23 gM_23 g19 bM_23 dX11_turns_99 (fun H locs w => ?_)
        obtain ⟨S20, eS20⟩ : ∃ z, z = sA S 37 (Int32.toNatClampNeg x5) r18 := ⟨_, rfl⟩
        rw [← eS20] at w
        have hf := lt_e hf eS20
        refine lv_iinc (v := (x5 + 1)) (lv' := [(5, .int (x5 + 1)), (0, .ref (ad 0)), (1, .int x1), (2, .int x2), (3, .int x3), (4, .int x4)]) hx hb dX11_turns_100 hl (k := 5) rfl rfl (by decide) rfl (fun ls hl => ?_)
        refine lv_goto (tgt := 58) hx hb dX11_turns_103 (by decide) ?_
        exact ih _ _ _ _ _ w (lv_sub hl [1, 2, 3, 4, 5, 0] rfl) hf
set_option maxHeartbeats 4000000 in
set_option maxRecDepth 100000 in
theorem wX11_turns_L109 {p : Program} {l : Launch} {e : Env} {s : State} {m : MethodId} {args : Array Value} {below : List Frame} {meth : Method} {c : Code} {Q : State → Prop} {D : va_G} {cc : Nat → ClassId} {ak av : Nat → Nat} {A : Nat → Prop} {ad : Nat → Nat} {E : va_W} {n : Nat} {x1 : Int32} {x2 : Int32} {x3 : Int32} {x4 : Int32} {S : St} {r : Int32} {S' : St} {k : Int32 → Option (Int32 × St)} (F : CallFix p m c cX11_turns 7 s args wsX11_turns RX11) (B : Bd D cc ak av A s) (hQ : RetI p l e ({ frames := 3, cells := 0, slots := 0, locals := 67 } : Room) s m args below meth c D A Q cX11_turns (WM cc ad S' ++ E) r)
    (hk : ∀ (x5 : Int32) (H : Heap) (locs : List Loc) (ls : Array Slot), Wd D A s.heap H locs (WM cc ad S ++ E) → lv_has ls 7 [(0, .ref (ad 0)), (1, .int x1), (2, .int x2), (3, .int x3), (4, .int x4), (5, .int x5)] → k x5 = some (r, S') → W p l e ({ frames := 3, cells := 0, slots := 0, locals := 67 } : Room) s m args below meth c H locs 0 0 Q (F0 m 126 ls [])) :
    ∀ (fu : Nat) (x5 : Int32) (H : Heap) (locs : List Loc) (ls : Array Slot), Wd D A s.heap H locs (WM cc ad S ++ E) → lv_has ls 7 [(0, .ref (ad 0)), (1, .int x1), (2, .int x2), (3, .int x3), (4, .int x4), (5, .int x5)] → fX11_turns_L109 n x1 x2 x3 x4 S k fu x5 = some (r, S') → W p l e ({ frames := 3, cells := 0, slots := 0, locals := 67 } : Room) s m args below meth c H locs 0 0 Q (F0 m 109 ls []) := by
  have hx := F.1
  have hb := F.2.1
  have hown := F.2.2.2.1
  have hts := F.2.2.2.2
  intro fu
  induction fu with
  | zero => intro x5 H locs ls w hl hf; rw [fX11_turns_L109] at hf; cases hf
  | succ fu ih =>
    intro x5 H locs ls w hl hf
    rw [fX11_turns_L109] at hf
    refine lv_aload_n hx hb dX11_turns_109 rfl (lv_at hl 0 rfl) ?_
    refine kget (v := .ref (ad 22)) F B w inX11_turns_11 0 gM_0 rfl 36 (by decide) (hts (.fieldLink RX11 79 "LandReformModel" "gets" "[I") (by decide +kernel)) rfl rfl dX11_turns_110 ?_
    refine lv_iload hx hb dX11_turns_113 (lv_at hl 5 rfl) ?_
    obtain ⟨g23, hf⟩ := if_g hf
    refine kiald F B w 22 gM_22 g23 dX11_turns_115 ?_
    refine lv_iconst (v := (-1)) hx hb dX11_turns_116 (by decide) ?_
    refine lv_icmp_eq (tgt := 126) hx hb dX11_turns_117 (by decide) (fun c24 => ?_) (fun c24 => ?_)
    · have hf := if_t hf c24
      exact hk _ _ _ _ w (lv_sub hl [0, 1, 2, 3, 4, 5] rfl) hf
    · have hf := if_f hf c24
      refine lv_iinc (v := (x5 + 1)) (lv' := [(5, .int (x5 + 1)), (0, .ref (ad 0)), (1, .int x1), (2, .int x2), (3, .int x3), (4, .int x4)]) hx hb dX11_turns_120 hl (k := 5) rfl rfl (by decide) rfl (fun ls hl => ?_)
      refine lv_goto (tgt := 109) hx hb dX11_turns_123 (by decide) ?_
      exact ih _ _ _ _ w (lv_sub hl [1, 2, 3, 4, 5, 0] rfl) hf
set_option maxHeartbeats 4000000 in
set_option maxRecDepth 100000 in
theorem wX11_turns_L129 {p : Program} {l : Launch} {e : Env} {s : State} {m : MethodId} {args : Array Value} {below : List Frame} {meth : Method} {c : Code} {Q : State → Prop} {D : va_G} {cc : Nat → ClassId} {ak av : Nat → Nat} {A : Nat → Prop} {ad : Nat → Nat} {E : va_W} {n : Nat} {x1 : Int32} {x2 : Int32} {x3 : Int32} {x4 : Int32} {S : St} {r : Int32} {S' : St} {k : Int32 → Int32 → Option (Int32 × St)} (F : CallFix p m c cX11_turns 7 s args wsX11_turns RX11) (B : Bd D cc ak av A s) (hQ : RetI p l e ({ frames := 3, cells := 0, slots := 0, locals := 67 } : Room) s m args below meth c D A Q cX11_turns (WM cc ad S' ++ E) r)
    (hk : ∀ (x5 : Int32) (x6 : Int32) (H : Heap) (locs : List Loc) (ls : Array Slot), Wd D A s.heap H locs (WM cc ad S ++ E) → lv_has ls 7 [(0, .ref (ad 0)), (1, .int x1), (2, .int x2), (3, .int x3), (4, .int x4), (5, .int x5), (6, .int x6)] → k x5 x6 = some (r, S') → W p l e ({ frames := 3, cells := 0, slots := 0, locals := 67 } : Room) s m args below meth c H locs 0 0 Q (F0 m 150 ls [])) :
    ∀ (fu : Nat) (x5 : Int32) (x6 : Int32) (H : Heap) (locs : List Loc) (ls : Array Slot), Wd D A s.heap H locs (WM cc ad S ++ E) → lv_has ls 7 [(0, .ref (ad 0)), (1, .int x1), (2, .int x2), (3, .int x3), (4, .int x4), (5, .int x5), (6, .int x6)] → fX11_turns_L129 n x1 x2 x3 x4 S k fu x5 x6 = some (r, S') → W p l e ({ frames := 3, cells := 0, slots := 0, locals := 67 } : Room) s m args below meth c H locs 0 0 Q (F0 m 129 ls []) := by
  have hx := F.1
  have hb := F.2.1
  have hown := F.2.2.2.1
  have hts := F.2.2.2.2
  intro fu
  induction fu with
  | zero => intro x5 x6 H locs ls w hl hf; rw [fX11_turns_L129] at hf; cases hf
  | succ fu ih =>
    intro x5 x6 H locs ls w hl hf
    rw [fX11_turns_L129] at hf
    refine lv_iload hx hb dX11_turns_129 (lv_at hl 6 rfl) ?_
    refine lv_iload_n hx hb dX11_turns_131 rfl (lv_at hl 2 rfl) ?_
    refine lv_icmp_ge (tgt := 150) hx hb dX11_turns_132 (by decide) (fun c26 => ?_) (fun c26 => ?_)
    · have hf := if_t hf c26
      exact hk _ _ _ _ _ w (lv_sub hl [0, 1, 2, 3, 4, 5, 6] rfl) hf
    · have hf := if_f hf c26
      refine lv_aload_n hx hb dX11_turns_135 rfl (lv_at hl 0 rfl) ?_
      refine kget (v := .ref (ad 23)) F B w inX11_turns_11 0 gM_0 rfl 37 (by decide) (hts (.fieldLink RX11 82 "LandReformModel" "points" "[I") (by decide +kernel)) rfl rfl dX11_turns_136 ?_
      refine lv_iload hx hb dX11_turns_139 (lv_at hl 5 rfl) ?_
      obtain ⟨g27, hf⟩ := if_g hf
      refine kiald F B w 23 gM_23 g27 dX11_turns_141 ?_
      refine lv_topi (fun v28 ev28 => ?_)
      have hf := lt_e hf ev28
      refine lv_istore (lv' := [(5, .int v28), (0, .ref (ad 0)), (1, .int x1), (2, .int x2), (3, .int x3), (4, .int x4), (6, .int x6)]) hx hb dX11_turns_142 hl (by decide) rfl (fun ls hl => ?_)
      refine lv_iinc (v := (x6 + 1)) (lv' := [(6, .int (x6 + 1)), (5, .int v28), (0, .ref (ad 0)), (1, .int x1), (2, .int x2), (3, .int x3), (4, .int x4)]) hx hb dX11_turns_144 hl (k := 6) rfl rfl (by decide) rfl (fun ls hl => ?_)
      refine lv_goto (tgt := 129) hx hb dX11_turns_147 (by decide) ?_
      exact ih _ _ _ _ _ w (lv_sub hl [2, 3, 4, 5, 6, 1, 0] rfl) hf
set_option maxHeartbeats 4000000 in
set_option maxRecDepth 100000 in
theorem wX11_turns_L154 {p : Program} {l : Launch} {e : Env} {s : State} {m : MethodId} {args : Array Value} {below : List Frame} {meth : Method} {c : Code} {Q : State → Prop} {D : va_G} {cc : Nat → ClassId} {ak av : Nat → Nat} {A : Nat → Prop} {ad : Nat → Nat} {E : va_W} {n : Nat} {x1 : Int32} {x2 : Int32} {x3 : Int32} {x5 : Int32} {r : Int32} {S' : St} {k : Int32 → Int32 → St → Option (Int32 × St)} (F : CallFix p m c cX11_turns 7 s args wsX11_turns RX11) (B : Bd D cc ak av A s) (hQ : RetI p l e ({ frames := 3, cells := 0, slots := 0, locals := 67 } : Room) s m args below meth c D A Q cX11_turns (WM cc ad S' ++ E) r)
    (hk : ∀ (x4 : Int32) (x6 : Int32) (S : St) (H : Heap) (locs : List Loc) (ls : Array Slot), Wd D A s.heap H locs (WM cc ad S ++ E) → lv_has ls 7 [(0, .ref (ad 0)), (1, .int x1), (2, .int x2), (3, .int x3), (4, .int x4), (5, .int x5), (6, .int x6)] → k x4 x6 S = some (r, S') → W p l e ({ frames := 3, cells := 0, slots := 0, locals := 67 } : Room) s m args below meth c H locs 0 0 Q (F0 m 192 ls [])) :
    ∀ (fu : Nat) (x4 : Int32) (x6 : Int32) (S : St) (H : Heap) (locs : List Loc) (ls : Array Slot), Wd D A s.heap H locs (WM cc ad S ++ E) → lv_has ls 7 [(0, .ref (ad 0)), (1, .int x1), (2, .int x2), (3, .int x3), (4, .int x4), (5, .int x5), (6, .int x6)] → fX11_turns_L154 n x1 x2 x3 x5 k fu x4 x6 S = some (r, S') → W p l e ({ frames := 3, cells := 0, slots := 0, locals := 67 } : Room) s m args below meth c H locs 0 0 Q (F0 m 154 ls []) := by
  have hx := F.1
  have hb := F.2.1
  have hown := F.2.2.2.1
  have hts := F.2.2.2.2
  intro fu
  induction fu with
  | zero => intro x4 x6 S H locs ls w hl hf; rw [fX11_turns_L154] at hf; cases hf
  | succ fu ih =>
    intro x4 x6 S H locs ls w hl hf
    rw [fX11_turns_L154] at hf
    refine lv_aload_n hx hb dX11_turns_154 rfl (lv_at hl 0 rfl) ?_
    refine kget (v := .ref (ad 22)) F B w inX11_turns_11 0 gM_0 rfl 36 (by decide) (hts (.fieldLink RX11 79 "LandReformModel" "gets" "[I") (by decide +kernel)) rfl rfl dX11_turns_155 ?_
    refine lv_iload hx hb dX11_turns_158 (lv_at hl 6 rfl) ?_
    refine lv_aload_n hx hb dX11_turns_160 rfl (lv_at hl 0 rfl) ?_
    refine kget (v := .ref (ad 21)) F B w inX11_turns_11 0 gM_0 rfl 35 (by decide) (hts (.fieldLink RX11 76 "LandReformModel" "has" "[I") (by decide +kernel)) rfl rfl dX11_turns_161 ?_
    refine lv_aload_n hx hb dX11_turns_164 rfl (lv_at hl 0 rfl) ?_
    refine kget (v := .ref (ad 23)) F B w inX11_turns_11 0 gM_0 rfl 37 (by decide) (hts (.fieldLink RX11 82 "LandReformModel" "points" "[I") (by decide +kernel)) rfl rfl dX11_turns_165 ?_
    refine lv_iload hx hb dX11_turns_168 (lv_at hl 6 rfl) ?_
    obtain ⟨g31, hf⟩ := if_g hf
    refine kiald F B w 23 gM_23 g31 dX11_turns_170 ?_
    obtain ⟨g32, hf⟩ := if_g hf
    refine kiald F B w 21 gM_21 g32 dX11_turns_171 ?_
    obtain ⟨g33, hf⟩ := if_g hf
    refine kiast F B w 22 gM_22 g33 bM_22 dX11_turns_172 (fun H locs w => ?_)
    obtain ⟨S34, eS34⟩ : ∃ z, z = sA S 36 (Int32.toNatClampNeg x6) (S.2.1 35 (Int32.toNatClampNeg (S.2.1 37 (Int32.toNatClampNeg x6)))) := ⟨_, rfl⟩
    rw [← eS34] at w
    have hf := lt_e hf eS34
    refine lv_iinc (v := (x4 + (-1))) (lv' := [(4, .int (x4 + (-1))), (0, .ref (ad 0)), (1, .int x1), (2, .int x2), (3, .int x3), (5, .int x5), (6, .int x6)]) hx hb dX11_turns_173 hl (k := 4) rfl rfl (by decide) rfl (fun ls hl => ?_)
    refine lv_aload_n hx hb dX11_turns_176 rfl (lv_at hl 1 rfl) ?_
    refine kget (v := .ref (ad 23)) F B w inX11_turns_11 0 gM_0 rfl 37 (by decide) (hts (.fieldLink RX11 82 "LandReformModel" "points" "[I") (by decide +kernel)) rfl rfl dX11_turns_177 ?_
    refine lv_iload hx hb dX11_turns_180 (lv_at hl 6 rfl) ?_
    obtain ⟨g35, hf⟩ := if_g hf
    refine kiald F B w 23 gM_23 g35 dX11_turns_182 ?_
    refine lv_topi (fun v36 ev36 => ?_)
    have hf := lt_e hf ev36
    refine lv_istore (lv' := [(6, .int v36), (4, .int (x4 + (-1))), (0, .ref (ad 0)), (1, .int x1), (2, .int x2), (3, .int x3), (5, .int x5)]) hx hb dX11_turns_183 hl (by decide) rfl (fun ls hl => ?_)
    refine lv_iload hx hb dX11_turns_185 (lv_at hl 0 rfl) ?_
    refine lv_iload hx hb dX11_turns_187 (lv_at hl 6 rfl) ?_
    refine lv_icmp_ne (tgt := 154) hx hb dX11_turns_189 (by decide) (fun c37 => ?_) (fun c37 => ?_)
    · have hf := if_f hf c37
      exact ih _ _ _ _ _ _ w (lv_sub hl [2, 3, 4, 5, 1, 6, 0] rfl) hf
    · have hf := if_t hf c37
      exact hk _ _ _ _ _ _ w (lv_sub hl [2, 3, 4, 5, 1, 6, 0] rfl) hf
set_option maxHeartbeats 4000000 in
set_option maxRecDepth 100000 in
theorem wX11_turns_L50 {p : Program} {l : Launch} {e : Env} {s : State} {m : MethodId} {args : Array Value} {below : List Frame} {meth : Method} {c : Code} {Q : State → Prop} {D : va_G} {cc : Nat → ClassId} {ak av : Nat → Nat} {A : Nat → Prop} {ad : Nat → Nat} {E : va_W} {n : Nat} {x1 : Int32} {x2 : Int32} {r : Int32} {S' : St} {k : Int32 → Int32 → St → Option (Int32 × St)} (F : CallFix p m c cX11_turns 7 s args wsX11_turns RX11) (B : Bd D cc ak av A s) (hQ : RetI p l e ({ frames := 3, cells := 0, slots := 0, locals := 67 } : Room) s m args below meth c D A Q cX11_turns (WM cc ad S' ++ E) r)
    (hk : ∀ (x3 : Int32) (x4 : Int32) (S : St) (H : Heap) (locs : List Loc) (ls : Array Slot), Wd D A s.heap H locs (WM cc ad S ++ E) → lv_has ls 7 [(0, .ref (ad 0)), (1, .int x1), (2, .int x2), (3, .int x3), (4, .int x4)] → k x3 x4 S = some (r, S') → W p l e ({ frames := 3, cells := 0, slots := 0, locals := 67 } : Room) s m args below meth c H locs 0 0 Q (F0 m 198 ls [])) :
    ∀ (fu : Nat) (x3 : Int32) (x4 : Int32) (S : St) (H : Heap) (locs : List Loc) (ls : Array Slot), Wd D A s.heap H locs (WM cc ad S ++ E) → lv_has ls 7 [(0, .ref (ad 0)), (1, .int x1), (2, .int x2), (3, .int x3), (4, .int x4)] → fX11_turns_L50 n x1 x2 k fu x3 x4 S = some (r, S') → W p l e ({ frames := 3, cells := 0, slots := 0, locals := 67 } : Room) s m args below meth c H locs 0 0 Q (F0 m 50 ls []) := by
  have hx := F.1
  have hb := F.2.1
  have hown := F.2.2.2.1
  have hts := F.2.2.2.2
  intro fu
  induction fu with
  | zero => intro x3 x4 S H locs ls w hl hf; rw [fX11_turns_L50] at hf; cases hf
  | succ fu ih =>
    intro x3 x4 S H locs ls w hl hf
    rw [fX11_turns_L50] at hf
    refine lv_iload hx hb dX11_turns_50 (lv_at hl 4 rfl) ?_
    refine lv_if_le (tgt := 198) hx hb dX11_turns_52 (by decide) (fun c11 => ?_) (fun c11 => ?_)
    · have hf := if_t hf c11
      exact hk _ _ _ _ _ _ w (lv_sub hl [0, 1, 2, 3, 4] rfl) hf
    · have hf := if_f hf c11
      refine lv_iconst (v := 0) hx hb dX11_turns_55 (by decide) ?_
      refine lv_istore (lv' := [(5, .int 0), (0, .ref (ad 0)), (1, .int x1), (2, .int x2), (3, .int x3), (4, .int x4)]) hx hb dX11_turns_56 hl (by decide) rfl (fun ls hl => ?_)
      refine wX11_turns_L58 F B hQ (fun x21 S22 H locs ls w hl hf => ?_) n _ _ _ _ _ w (lv_sub hl [1, 2, 3, 4, 5, 0] rfl) hf
      refine lv_iconst (v := 0) hx hb dX11_turns_106 (by decide) ?_
      refine lv_istore (lv' := [(5, .int 0), (0, .ref (ad 0)), (1, .int x1), (2, .int x2), (3, .int x3), (4, .int x4)]) hx hb dX11_turns_107 hl (by decide) rfl (fun ls hl => ?_)
      refine wX11_turns_L109 F B hQ (fun x25 H locs ls w hl hf => ?_) n _ _ _ _ w (lv_sub hl [1, 2, 3, 4, 5, 0] rfl) hf
      refine lv_iconst (v := 0) hx hb dX11_turns_126 (by decide) ?_
      refine lv_istore (lv' := [(6, .int 0), (0, .ref (ad 0)), (1, .int x1), (2, .int x2), (3, .int x3), (4, .int x4), (5, .int x25)]) hx hb dX11_turns_127 hl (by decide) rfl (fun ls hl => ?_)
      refine wX11_turns_L129 F B hQ (fun x29 x30 H locs ls w hl hf => ?_) n _ _ _ _ _ w (lv_sub hl [1, 2, 3, 4, 5, 6, 0] rfl) hf
      refine lv_iload hx hb dX11_turns_150 (lv_at hl 5 rfl) ?_
      refine lv_istore (lv' := [(6, .int x29), (0, .ref (ad 0)), (1, .int x1), (2, .int x2), (3, .int x3), (4, .int x4), (5, .int x29)]) hx hb dX11_turns_152 hl (by decide) rfl (fun ls hl => ?_)
      refine wX11_turns_L154 F B hQ (fun x38 x39 S40 H locs ls w hl hf => ?_) n _ _ _ _ _ _ w (lv_sub hl [1, 2, 3, 4, 5, 6, 0] rfl) hf
      refine lv_iinc (v := (x3 + 1)) (lv' := [(3, .int (x3 + 1)), (0, .ref (ad 0)), (1, .int x1), (2, .int x2), (4, .int x38), (5, .int x29), (6, .int x39)]) hx hb dX11_turns_192 hl (k := 3) rfl rfl (by decide) rfl (fun ls hl => ?_)
      refine lv_goto (tgt := 50) hx hb dX11_turns_195 (by decide) ?_
      exact ih _ _ _ _ _ _ w (lv_sub hl [1, 2, 3, 0, 4] rfl) hf
set_option maxHeartbeats 4000000 in
set_option maxRecDepth 100000 in
theorem tX11_turns {l : Launch} {D : va_G} {cc : Nat → ClassId} {ak av : Nat → Nat} {ad : Nat → Nat} {E : va_W} {n : Nat} {S : St} {x1 : Int32} {x2 : Int32} {r : Int32} {S' : St} (hf : fX11_turns n S x1 x2 = some (r, S')) : CI l yX11_turns wsX11_turns ({ frames := 3, cells := 0, slots := 0, locals := 67 } : Room) D cc ak av [.ref (ad 0), .int x1, .int x2] (WM cc ad S ++ E) (WM cc ad S' ++ E) r := by
  refine mkI (c0 := cX11_turns) (nL := 7) (own := RX11) rfl rfl (by decide) rfl rfl (Nat.le_of_ble_eq_true rfl) ?_
  intro p e s m args below meth c A Q ls F B hQ hl w
  have hx := F.1
  have hb := F.2.1
  have hown := F.2.2.2.1
  have hts := F.2.2.2.2
  have hl : lv_has ls 7 [(0, .ref (ad 0)), (1, .int x1), (2, .int x2)] := hl
  unfold fX11_turns at hf
  refine lv_iconst (v := 0) hx hb dX11_turns_0 (by decide) ?_
  refine lv_istore_n (lv' := [(3, .int 0), (0, .ref (ad 0)), (1, .int x1), (2, .int x2)]) hx hb dX11_turns_1 rfl hl (by decide) rfl (fun ls hl => ?_)
  refine wX11_turns_L2 F B hQ (fun x9 S10 H locs ls w hl hf => ?_) n _ _ _ _ _ w (lv_sub hl [1, 2, 3, 0] rfl) hf
  refine lv_iconst (v := 0) hx hb dX11_turns_45 (by decide) ?_
  refine lv_istore_n (lv' := [(3, .int 0), (0, .ref (ad 0)), (1, .int x1), (2, .int x2)]) hx hb dX11_turns_46 rfl hl (by decide) rfl (fun ls hl => ?_)
  refine lv_iload_n hx hb dX11_turns_47 rfl (lv_at hl 3 rfl) ?_
  refine lv_istore (lv' := [(4, .int x2), (3, .int 0), (0, .ref (ad 0)), (1, .int x1), (2, .int x2)]) hx hb dX11_turns_48 hl (by decide) rfl (fun ls hl => ?_)
  refine wX11_turns_L50 F B hQ (fun x41 x42 S43 H locs ls w hl hf => ?_) n _ _ _ _ _ _ w (lv_sub hl [2, 3, 4, 1, 0] rfl) hf
  refine lv_iload_n hx hb dX11_turns_198 rfl (lv_at hl 3 rfl) ?_
  cases hf
  exact hQ _ _ _ _ dX11_turns_199 w

def fX11_isRow (S : St) (x1 : Int32) (x2 : Int32) : Option Int32 := ob (fX11_isIn x2 2 8) fun r1 => if r1 = 0 then (some 0) else (ob (fX11_isIn x1 0 ((S.1 1) - x2)) fun r3 => if r3 = 0 then (some 0) else (some 1))
set_option maxRecDepth 20000 in
theorem inX11_isRow_11 : ∀ w ∈ u_ws RX11 TX11 47, w ∈ wsX11_isRow := by decide +kernel
set_option maxHeartbeats 4000000 in
set_option maxRecDepth 100000 in
theorem tX11_isRow {l : Launch} {D : va_G} {cc : Nat → ClassId} {ak av : Nat → Nat} {ad : Nat → Nat} {E : va_W} {S : St} {x1 : Int32} {x2 : Int32} {r : Int32} (hf : fX11_isRow S x1 x2 = some r) : CI l yX11_isRow wsX11_isRow ({ frames := 1, cells := 0, slots := 0, locals := 22 } : Room) D cc ak av [.ref (ad 0), .int x1, .int x2] (WM cc ad S ++ E) (WM cc ad S ++ E) r := by
  refine mkZ (c0 := cX11_isRow) (nL := 3) (own := RX11) rfl rfl (by decide) rfl rfl (Nat.le_of_ble_eq_true rfl) ?_
  intro p e s m args below meth c A Q ls F B hQ hl w
  have hx := F.1
  have hb := F.2.1
  have hown := F.2.2.2.1
  have hts := F.2.2.2.2
  have hl : lv_has ls 3 [(0, .ref (ad 0)), (1, .int x1), (2, .int x2)] := hl
  unfold fX11_isRow at hf
  refine lv_iload_n hx hb dX11_isRow_0 rfl (lv_at hl 2 rfl) ?_
  refine lv_iconst (v := 2) hx hb dX11_isRow_1 (by decide) ?_
  refine lv_bipush (v := 8) hx hb dX11_isRow_2 (by decide) ?_
  obtain ⟨r1, er1, hf⟩ := ob_e hf
  refine kSi (As := [.int x2, .int 2, .int 8]) (rest := []) F B w (tX11_isIn er1) (va_cwS 3 hts gX11_isRow_X11_isIn rfl rfl rfl (by decide +kernel) ⟨Nat.le_of_ble_eq_true rfl, Nat.le_of_ble_eq_true rfl⟩) rfl hl.1 rfl (Nat.le_of_ble_eq_true rfl) dX11_isRow_4 ⟨Nat.le_of_ble_eq_true rfl, Nat.le_of_ble_eq_true rfl⟩ (fun H locs w => ?_)
  refine lv_if_eq (tgt := 28) hx hb dX11_isRow_7 (by decide) (fun c2 => ?_) (fun c2 => ?_)
  · have hf := if_t hf c2
    refine lv_iconst (v := 0) hx hb dX11_isRow_28 (by decide) ?_
    cases hf
    exact hQ _ _ _ _ dX11_isRow_29 (by decide) w
  · have hf := if_f hf c2
    refine lv_iload_n hx hb dX11_isRow_10 rfl (lv_at hl 1 rfl) ?_
    refine lv_iconst (v := 0) hx hb dX11_isRow_11 (by decide) ?_
    refine lv_aload_n hx hb dX11_isRow_12 rfl (lv_at hl 0 rfl) ?_
    refine kget (v := .int (S.1 1)) F B w inX11_isRow_11 0 gM_0 rfl 1 (by decide) (hts (.fieldLink RX11 113 "LandReformModel" "persons" "I") (by decide +kernel)) rfl rfl dX11_isRow_13 ?_
    refine lv_iload_n hx hb dX11_isRow_16 rfl (lv_at hl 2 rfl) ?_
    refine lv_isub hx hb dX11_isRow_17 ?_
    obtain ⟨r3, er3, hf⟩ := ob_e hf
    refine kSi (As := [.int x1, .int 0, .int ((S.1 1) - x2)]) (rest := []) F B w (tX11_isIn er3) (va_cwS 3 hts gX11_isRow_X11_isIn rfl rfl rfl (by decide +kernel) ⟨Nat.le_of_ble_eq_true rfl, Nat.le_of_ble_eq_true rfl⟩) rfl hl.1 rfl (Nat.le_of_ble_eq_true rfl) dX11_isRow_18 ⟨Nat.le_of_ble_eq_true rfl, Nat.le_of_ble_eq_true rfl⟩ (fun H locs w => ?_)
    refine lv_if_eq (tgt := 28) hx hb dX11_isRow_21 (by decide) (fun c4 => ?_) (fun c4 => ?_)
    · have hf := if_t hf c4
      refine lv_iconst (v := 0) hx hb dX11_isRow_28 (by decide) ?_
      cases hf
      exact hQ _ _ _ _ dX11_isRow_29 (by decide) w
    · have hf := if_f hf c4
      refine lv_iconst (v := 1) hx hb dX11_isRow_24 (by decide) ?_
      refine lv_goto (tgt := 29) hx hb dX11_isRow_25 (by decide) ?_
      cases hf
      exact hQ _ _ _ _ dX11_isRow_29 (by decide) w

def fX11_rings (n : Nat) (S : St) (x1 : Int32) (x2 : Int32) (x3 : Int32) : Option (Int32 × St) := ob (fX11_isRow S x1 x2) fun r1 => if r1 = 0 then (some ((-1), S)) else (ob (fX11_isIn x3 (-1) (x2 - 1)) fun r3 => if r3 = 0 then (some ((-1), S)) else (ob (fX11_turns n S x1 x2) fun q7 => lt_ q7.1 fun r5 => lt_ q7.2 fun S6 => if r5 = (-1) then (some (r5, S6)) else (if x3 = (-1) then (some (r5, S6)) else (if x3 < 0 ∨ 8 ≤ Int32.toNatClampNeg x3 then none else some ((S6.2.1 36 (Int32.toNatClampNeg x3)), S6)))))
set_option maxRecDepth 20000 in
theorem inX11_rings_11 : ∀ w ∈ u_ws RX11 TX11 47, w ∈ wsX11_rings := by decide +kernel
set_option maxHeartbeats 4000000 in
set_option maxRecDepth 100000 in
theorem tX11_rings {l : Launch} {D : va_G} {cc : Nat → ClassId} {ak av : Nat → Nat} {ad : Nat → Nat} {E : va_W} {n : Nat} {S : St} {x1 : Int32} {x2 : Int32} {x3 : Int32} {r : Int32} {S' : St} (hf : fX11_rings n S x1 x2 x3 = some (r, S')) : CI l yX11_rings wsX11_rings ({ frames := 4, cells := 0, slots := 0, locals := 93 } : Room) D cc ak av [.ref (ad 0), .int x1, .int x2, .int x3] (WM cc ad S ++ E) (WM cc ad S' ++ E) r := by
  refine mkI (c0 := cX11_rings) (nL := 5) (own := RX11) rfl rfl (by decide) rfl rfl (Nat.le_of_ble_eq_true rfl) ?_
  intro p e s m args below meth c A Q ls F B hQ hl w
  have hx := F.1
  have hb := F.2.1
  have hown := F.2.2.2.1
  have hts := F.2.2.2.2
  have hl : lv_has ls 5 [(0, .ref (ad 0)), (1, .int x1), (2, .int x2), (3, .int x3)] := hl
  unfold fX11_rings at hf
  refine lv_aload_n hx hb dX11_rings_0 rfl (lv_at hl 0 rfl) ?_
  refine lv_iload_n hx hb dX11_rings_1 rfl (lv_at hl 1 rfl) ?_
  refine lv_iload_n hx hb dX11_rings_2 rfl (lv_at hl 2 rfl) ?_
  obtain ⟨r1, er1, hf⟩ := ob_e hf
  refine kVi (As := [.int x1, .int x2]) (rest := []) F B w (tX11_isRow er1) (cwV 2 hts gX11_rings_X11_isRow rfl rfl rfl (by decide +kernel) ⟨Nat.le_of_ble_eq_true rfl, Nat.le_of_ble_eq_true rfl⟩) 0 gM_0 rfl rfl hl.1 rfl (Nat.le_of_ble_eq_true rfl) dX11_rings_3 ⟨Nat.le_of_ble_eq_true rfl, Nat.le_of_ble_eq_true rfl⟩ (fun H locs w => ?_)
  refine lv_if_eq (tgt := 20) hx hb dX11_rings_6 (by decide) (fun c2 => ?_) (fun c2 => ?_)
  · have hf := if_t hf c2
    refine lv_iconst (v := (-1)) hx hb dX11_rings_20 (by decide) ?_
    cases hf
    exact hQ _ _ _ _ dX11_rings_21 w
  · have hf := if_f hf c2
    refine lv_iload_n hx hb dX11_rings_9 rfl (lv_at hl 3 rfl) ?_
    refine lv_iconst (v := (-1)) hx hb dX11_rings_10 (by decide) ?_
    refine lv_iload_n hx hb dX11_rings_11 rfl (lv_at hl 2 rfl) ?_
    refine lv_iconst (v := 1) hx hb dX11_rings_12 (by decide) ?_
    refine lv_isub hx hb dX11_rings_13 ?_
    obtain ⟨r3, er3, hf⟩ := ob_e hf
    refine kSi (As := [.int x3, .int (-1), .int (x2 - 1)]) (rest := []) F B w (tX11_isIn er3) (va_cwS 3 hts gX11_rings_X11_isIn rfl rfl rfl (by decide +kernel) ⟨Nat.le_of_ble_eq_true rfl, Nat.le_of_ble_eq_true rfl⟩) rfl hl.1 rfl (Nat.le_of_ble_eq_true rfl) dX11_rings_14 ⟨Nat.le_of_ble_eq_true rfl, Nat.le_of_ble_eq_true rfl⟩ (fun H locs w => ?_)
    refine lv_if_ne (tgt := 22) hx hb dX11_rings_17 (by decide) (fun c4 => ?_) (fun c4 => ?_)
    · have hf := if_f hf c4
      refine lv_aload_n hx hb dX11_rings_22 rfl (lv_at hl 0 rfl) ?_
      refine lv_iload_n hx hb dX11_rings_23 rfl (lv_at hl 1 rfl) ?_
      refine lv_iload_n hx hb dX11_rings_24 rfl (lv_at hl 2 rfl) ?_
      obtain ⟨⟨r5, S6⟩, er5, hf⟩ := ob_e hf
      have hf := lt_e hf (v := r5) rfl
      have hf := lt_e hf (v := S6) rfl
      refine kVi (As := [.int x1, .int x2]) (rest := []) F B w (tX11_turns er5) (cwV 2 hts gX11_rings_X11_turns rfl rfl rfl (by decide +kernel) ⟨Nat.le_of_ble_eq_true rfl, Nat.le_of_ble_eq_true rfl⟩) 0 gM_0 rfl rfl hl.1 rfl (Nat.le_of_ble_eq_true rfl) dX11_rings_25 ⟨Nat.le_of_ble_eq_true rfl, Nat.le_of_ble_eq_true rfl⟩ (fun H locs w => ?_)
      refine lv_istore (lv' := [(4, .int r5), (0, .ref (ad 0)), (1, .int x1), (2, .int x2), (3, .int x3)]) hx hb dX11_rings_28 hl (by decide) rfl (fun ls hl => ?_)
      refine lv_iload hx hb dX11_rings_30 (lv_at hl 0 rfl) ?_
      refine lv_iconst (v := (-1)) hx hb dX11_rings_32 (by decide) ?_
      refine lv_icmp_eq (tgt := 41) hx hb dX11_rings_33 (by decide) (fun c8 => ?_) (fun c8 => ?_)
      · have hf := if_t hf c8
        refine lv_iload hx hb dX11_rings_41 (lv_at hl 0 rfl) ?_
        refine lv_goto (tgt := 52) hx hb dX11_rings_43 (by decide) ?_
        cases hf
        exact hQ _ _ _ _ dX11_rings_52 w
      · have hf := if_f hf c8
        refine lv_iload_n hx hb dX11_rings_36 rfl (lv_at hl 4 rfl) ?_
        refine lv_iconst (v := (-1)) hx hb dX11_rings_37 (by decide) ?_
        refine lv_icmp_ne (tgt := 46) hx hb dX11_rings_38 (by decide) (fun c9 => ?_) (fun c9 => ?_)
        · have hf := if_f hf c9
          refine lv_aload_n hx hb dX11_rings_46 rfl (lv_at hl 1 rfl) ?_
          refine kget (v := .ref (ad 22)) F B w inX11_rings_11 0 gM_0 rfl 36 (by decide) (hts (.fieldLink RX11 79 "LandReformModel" "gets" "[I") (by decide +kernel)) rfl rfl dX11_rings_47 ?_
          refine lv_iload_n hx hb dX11_rings_50 rfl (lv_at hl 4 rfl) ?_
          obtain ⟨g10, hf⟩ := if_g hf
          refine kiald F B w 22 gM_22 g10 dX11_rings_51 ?_
          cases hf
          exact hQ _ _ _ _ dX11_rings_52 w
        · have hf := if_t hf c9
          refine lv_iload hx hb dX11_rings_41 (lv_at hl 0 rfl) ?_
          refine lv_goto (tgt := 52) hx hb dX11_rings_43 (by decide) ?_
          cases hf
          exact hQ _ _ _ _ dX11_rings_52 w
    · have hf := if_t hf c4
      refine lv_iconst (v := (-1)) hx hb dX11_rings_20 (by decide) ?_
      cases hf
      exact hQ _ _ _ _ dX11_rings_21 w

def fX11_swap_L26 (n : Nat) (x1 : Int32) (x2 : Int32) (S : St) (k : Int32 → Int32 → Option (Int32 × St)) : Nat → Int32 → Int32 → Option (Int32 × St)
  | 0, _, _ => none
  | fu + 1, x3, x4 => if x2 ≤ x4 then (k x3 x4) else (if x4 < 0 ∨ 8 ≤ Int32.toNatClampNeg x4 then none else if x4 < 0 ∨ 8 ≤ Int32.toNatClampNeg x4 then none else if (S.2.1 36 (Int32.toNatClampNeg x4)) = (S.2.1 35 (Int32.toNatClampNeg x4)) then (ob (fX11_one 0) fun r11 => lt_ (x3 + r11) fun v12 => fX11_swap_L26 n x1 x2 S k fu v12 (x4 + 1)) else (ob (fX11_one 1) fun r13 => lt_ (x3 + r13) fun v14 => fX11_swap_L26 n x1 x2 S k fu v14 (x4 + 1)))
def fX11_swap_L95 (n : Nat) (x1 : Int32) (x2 : Int32) (x3 : Int32) (x4 : Int32) (k : Int32 → St → Option (Int32 × St)) : Nat → Int32 → St → Option (Int32 × St)
  | 0, _, _ => none
  | fu + 1, x5, S => if x2 ≤ x5 then (k x5 S) else (if x5 < 0 ∨ 8 ≤ Int32.toNatClampNeg x5 then none else if (S.2.1 36 (Int32.toNatClampNeg x5)) = x4 then (if x5 < 0 ∨ 8 ≤ Int32.toNatClampNeg x5 then none else if (S.2.1 35 (Int32.toNatClampNeg x5)) = x4 then (fX11_swap_L95 n x1 x2 x3 x4 k fu (x5 + 1) S) else (ob (fX11_goes S x4 (x1 + x5)) fun S25 => fX11_swap_L95 n x1 x2 x3 x4 k fu (x5 + 1) S25)) else (fX11_swap_L95 n x1 x2 x3 x4 k fu (x5 + 1) S))
def fX11_swap_L83 (n : Nat) (x1 : Int32) (x2 : Int32) (x3 : Int32) (k : Int32 → St → Option (Int32 × St)) : Nat → Int32 → St → Option (Int32 × St)
  | 0, _, _ => none
  | fu + 1, x4, S => if (S.1 2) ≤ x4 then (k x4 S) else (fX11_swap_L95 n x1 x2 x3 x4 (fun x26 S27 => fX11_swap_L83 n x1 x2 x3 k fu (x4 + 1) S27) n 0 S)
def fX11_swap (n : Nat) (S : St) (x1 : Int32) (x2 : Int32) : Option (Int32 × St) := ob (fX11_isRow S x1 x2) fun r1 => if r1 = 0 then (some ((-1), S)) else (ob (fX11_turns n S x1 x2) fun q5 => lt_ q5.1 fun r3 => lt_ q5.2 fun S4 => if r3 = (-1) then (some ((-1), S4)) else (fX11_swap_L26 n x1 x2 S4 (fun x15 x16 => if ((S4.1 3) + x15) ≤ 200 then (fX11_swap_L83 n x1 x2 x15 (fun x28 S29 => some (x15, S29)) n 0 S4) else (some ((-1), S4))) n 0 0))
set_option maxRecDepth 20000 in
theorem inX11_swap_11 : ∀ w ∈ u_ws RX11 TX11 47, w ∈ wsX11_swap := by decide +kernel
set_option maxHeartbeats 4000000 in
set_option maxRecDepth 100000 in
theorem wX11_swap_L26 {p : Program} {l : Launch} {e : Env} {s : State} {m : MethodId} {args : Array Value} {below : List Frame} {meth : Method} {c : Code} {Q : State → Prop} {D : va_G} {cc : Nat → ClassId} {ak av : Nat → Nat} {A : Nat → Prop} {ad : Nat → Nat} {E : va_W} {n : Nat} {x1 : Int32} {x2 : Int32} {S : St} {r : Int32} {S' : St} {k : Int32 → Int32 → Option (Int32 × St)} (F : CallFix p m c cX11_swap 6 s args wsX11_swap RX11) (B : Bd D cc ak av A s) (hQ : RetI p l e ({ frames := 4, cells := 0, slots := 0, locals := 93 } : Room) s m args below meth c D A Q cX11_swap (WM cc ad S' ++ E) r)
    (hk : ∀ (x3 : Int32) (x4 : Int32) (H : Heap) (locs : List Loc) (ls : Array Slot), Wd D A s.heap H locs (WM cc ad S ++ E) → lv_has ls 6 [(0, .ref (ad 0)), (1, .int x1), (2, .int x2), (3, .int x3), (4, .int x4)] → k x3 x4 = some (r, S') → W p l e ({ frames := 4, cells := 0, slots := 0, locals := 93 } : Room) s m args below meth c H locs 0 0 Q (F0 m 66 ls [])) :
    ∀ (fu : Nat) (x3 : Int32) (x4 : Int32) (H : Heap) (locs : List Loc) (ls : Array Slot), Wd D A s.heap H locs (WM cc ad S ++ E) → lv_has ls 6 [(0, .ref (ad 0)), (1, .int x1), (2, .int x2), (3, .int x3), (4, .int x4)] → fX11_swap_L26 n x1 x2 S k fu x3 x4 = some (r, S') → W p l e ({ frames := 4, cells := 0, slots := 0, locals := 93 } : Room) s m args below meth c H locs 0 0 Q (F0 m 26 ls []) := by
  have hx := F.1
  have hb := F.2.1
  have hown := F.2.2.2.1
  have hts := F.2.2.2.2
  intro fu
  induction fu with
  | zero => intro x3 x4 H locs ls w hl hf; rw [fX11_swap_L26] at hf; cases hf
  | succ fu ih =>
    intro x3 x4 H locs ls w hl hf
    rw [fX11_swap_L26] at hf
    refine lv_iload hx hb dX11_swap_26 (lv_at hl 4 rfl) ?_
    refine lv_iload_n hx hb dX11_swap_28 rfl (lv_at hl 2 rfl) ?_
    refine lv_icmp_ge (tgt := 66) hx hb dX11_swap_29 (by decide) (fun c7 => ?_) (fun c7 => ?_)
    · have hf := if_t hf c7
      exact hk _ _ _ _ _ w (lv_sub hl [0, 1, 2, 3, 4] rfl) hf
    · have hf := if_f hf c7
      refine lv_iload_n hx hb dX11_swap_32 rfl (lv_at hl 3 rfl) ?_
      refine lv_aload_n hx hb dX11_swap_33 rfl (lv_at hl 0 rfl) ?_
      refine kget (v := .ref (ad 22)) F B w inX11_swap_11 0 gM_0 rfl 36 (by decide) (hts (.fieldLink RX11 79 "LandReformModel" "gets" "[I") (by decide +kernel)) rfl rfl dX11_swap_34 ?_
      refine lv_iload hx hb dX11_swap_37 (lv_at hl 4 rfl) ?_
      obtain ⟨g8, hf⟩ := if_g hf
      refine kiald F B w 22 gM_22 g8 dX11_swap_39 ?_
      refine lv_aload_n hx hb dX11_swap_40 rfl (lv_at hl 0 rfl) ?_
      refine kget (v := .ref (ad 21)) F B w inX11_swap_11 0 gM_0 rfl 35 (by decide) (hts (.fieldLink RX11 76 "LandReformModel" "has" "[I") (by decide +kernel)) rfl rfl dX11_swap_41 ?_
      refine lv_iload hx hb dX11_swap_44 (lv_at hl 4 rfl) ?_
      obtain ⟨g9, hf⟩ := if_g hf
      refine kiald F B w 21 gM_21 g9 dX11_swap_46 ?_
      refine lv_icmp_eq (tgt := 54) hx hb dX11_swap_47 (by decide) (fun c10 => ?_) (fun c10 => ?_)
      · have hf := if_t hf c10
        refine lv_iconst (v := 0) hx hb dX11_swap_54 (by decide) ?_
        obtain ⟨r11, er11, hf⟩ := ob_e hf
        refine kSi (As := [.int 0]) (rest := [.int x3]) F B w (tX11_one er11) (va_cwS 1 hts gX11_swap_X11_one rfl rfl rfl (by decide +kernel) ⟨Nat.le_of_ble_eq_true rfl, Nat.le_of_ble_eq_true rfl⟩) rfl hl.1 rfl (Nat.le_of_ble_eq_true rfl) dX11_swap_55 ⟨Nat.le_of_ble_eq_true rfl, Nat.le_of_ble_eq_true rfl⟩ (fun H locs w => ?_)
        refine lv_iadd hx hb dX11_swap_58 ?_
        refine lv_topi (fun v12 ev12 => ?_)
        have hf := lt_e hf ev12
        refine lv_istore_n (lv' := [(3, .int v12), (0, .ref (ad 0)), (1, .int x1), (2, .int x2), (4, .int x4)]) hx hb dX11_swap_59 rfl hl (by decide) rfl (fun ls hl => ?_)
        refine lv_iinc (v := (x4 + 1)) (lv' := [(4, .int (x4 + 1)), (3, .int v12), (0, .ref (ad 0)), (1, .int x1), (2, .int x2)]) hx hb dX11_swap_60 hl (k := 4) rfl rfl (by decide) rfl (fun ls hl => ?_)
        refine lv_goto (tgt := 26) hx hb dX11_swap_63 (by decide) ?_
        exact ih _ _ _ _ _ w (lv_sub hl [2, 3, 4, 1, 0] rfl) hf
      · have hf := if_f hf c10
        refine lv_iconst (v := 1) hx hb dX11_swap_50 (by decide) ?_
        refine lv_goto (tgt := 55) hx hb dX11_swap_51 (by decide) ?_
        obtain ⟨r13, er13, hf⟩ := ob_e hf
        refine kSi (As := [.int 1]) (rest := [.int x3]) F B w (tX11_one er13) (va_cwS 1 hts gX11_swap_X11_one rfl rfl rfl (by decide +kernel) ⟨Nat.le_of_ble_eq_true rfl, Nat.le_of_ble_eq_true rfl⟩) rfl hl.1 rfl (Nat.le_of_ble_eq_true rfl) dX11_swap_55 ⟨Nat.le_of_ble_eq_true rfl, Nat.le_of_ble_eq_true rfl⟩ (fun H locs w => ?_)
        refine lv_iadd hx hb dX11_swap_58 ?_
        refine lv_topi (fun v14 ev14 => ?_)
        have hf := lt_e hf ev14
        refine lv_istore_n (lv' := [(3, .int v14), (0, .ref (ad 0)), (1, .int x1), (2, .int x2), (4, .int x4)]) hx hb dX11_swap_59 rfl hl (by decide) rfl (fun ls hl => ?_)
        refine lv_iinc (v := (x4 + 1)) (lv' := [(4, .int (x4 + 1)), (3, .int v14), (0, .ref (ad 0)), (1, .int x1), (2, .int x2)]) hx hb dX11_swap_60 hl (k := 4) rfl rfl (by decide) rfl (fun ls hl => ?_)
        refine lv_goto (tgt := 26) hx hb dX11_swap_63 (by decide) ?_
        exact ih _ _ _ _ _ w (lv_sub hl [2, 3, 4, 1, 0] rfl) hf
set_option maxHeartbeats 4000000 in
set_option maxRecDepth 100000 in
theorem wX11_swap_L95 {p : Program} {l : Launch} {e : Env} {s : State} {m : MethodId} {args : Array Value} {below : List Frame} {meth : Method} {c : Code} {Q : State → Prop} {D : va_G} {cc : Nat → ClassId} {ak av : Nat → Nat} {A : Nat → Prop} {ad : Nat → Nat} {E : va_W} {n : Nat} {x1 : Int32} {x2 : Int32} {x3 : Int32} {x4 : Int32} {r : Int32} {S' : St} {k : Int32 → St → Option (Int32 × St)} (F : CallFix p m c cX11_swap 6 s args wsX11_swap RX11) (B : Bd D cc ak av A s) (hQ : RetI p l e ({ frames := 4, cells := 0, slots := 0, locals := 93 } : Room) s m args below meth c D A Q cX11_swap (WM cc ad S' ++ E) r)
    (hk : ∀ (x5 : Int32) (S : St) (H : Heap) (locs : List Loc) (ls : Array Slot), Wd D A s.heap H locs (WM cc ad S ++ E) → lv_has ls 6 [(0, .ref (ad 0)), (1, .int x1), (2, .int x2), (3, .int x3), (4, .int x4), (5, .int x5)] → k x5 S = some (r, S') → W p l e ({ frames := 4, cells := 0, slots := 0, locals := 93 } : Room) s m args below meth c H locs 0 0 Q (F0 m 141 ls [])) :
    ∀ (fu : Nat) (x5 : Int32) (S : St) (H : Heap) (locs : List Loc) (ls : Array Slot), Wd D A s.heap H locs (WM cc ad S ++ E) → lv_has ls 6 [(0, .ref (ad 0)), (1, .int x1), (2, .int x2), (3, .int x3), (4, .int x4), (5, .int x5)] → fX11_swap_L95 n x1 x2 x3 x4 k fu x5 S = some (r, S') → W p l e ({ frames := 4, cells := 0, slots := 0, locals := 93 } : Room) s m args below meth c H locs 0 0 Q (F0 m 95 ls []) := by
  have hx := F.1
  have hb := F.2.1
  have hown := F.2.2.2.1
  have hts := F.2.2.2.2
  intro fu
  induction fu with
  | zero => intro x5 S H locs ls w hl hf; rw [fX11_swap_L95] at hf; cases hf
  | succ fu ih =>
    intro x5 S H locs ls w hl hf
    rw [fX11_swap_L95] at hf
    refine lv_iload hx hb dX11_swap_95 (lv_at hl 5 rfl) ?_
    refine lv_iload_n hx hb dX11_swap_97 rfl (lv_at hl 2 rfl) ?_
    refine lv_icmp_ge (tgt := 141) hx hb dX11_swap_98 (by decide) (fun c19 => ?_) (fun c19 => ?_)
    · have hf := if_t hf c19
      exact hk _ _ _ _ _ w (lv_sub hl [0, 1, 2, 3, 4, 5] rfl) hf
    · have hf := if_f hf c19
      refine lv_aload_n hx hb dX11_swap_101 rfl (lv_at hl 0 rfl) ?_
      refine kget (v := .ref (ad 22)) F B w inX11_swap_11 0 gM_0 rfl 36 (by decide) (hts (.fieldLink RX11 79 "LandReformModel" "gets" "[I") (by decide +kernel)) rfl rfl dX11_swap_102 ?_
      refine lv_iload hx hb dX11_swap_105 (lv_at hl 5 rfl) ?_
      obtain ⟨g20, hf⟩ := if_g hf
      refine kiald F B w 22 gM_22 g20 dX11_swap_107 ?_
      refine lv_iload hx hb dX11_swap_108 (lv_at hl 4 rfl) ?_
      refine lv_icmp_ne (tgt := 135) hx hb dX11_swap_110 (by decide) (fun c21 => ?_) (fun c21 => ?_)
      · have hf := if_f hf c21
        refine lv_iinc (v := (x5 + 1)) (lv' := [(5, .int (x5 + 1)), (0, .ref (ad 0)), (1, .int x1), (2, .int x2), (3, .int x3), (4, .int x4)]) hx hb dX11_swap_135 hl (k := 5) rfl rfl (by decide) rfl (fun ls hl => ?_)
        refine lv_goto (tgt := 95) hx hb dX11_swap_138 (by decide) ?_
        exact ih _ _ _ _ _ w (lv_sub hl [1, 2, 3, 4, 5, 0] rfl) hf
      · have hf := if_t hf c21
        refine lv_aload_n hx hb dX11_swap_113 rfl (lv_at hl 0 rfl) ?_
        refine kget (v := .ref (ad 21)) F B w inX11_swap_11 0 gM_0 rfl 35 (by decide) (hts (.fieldLink RX11 76 "LandReformModel" "has" "[I") (by decide +kernel)) rfl rfl dX11_swap_114 ?_
        refine lv_iload hx hb dX11_swap_117 (lv_at hl 5 rfl) ?_
        obtain ⟨g22, hf⟩ := if_g hf
        refine kiald F B w 21 gM_21 g22 dX11_swap_119 ?_
        refine lv_iload hx hb dX11_swap_120 (lv_at hl 4 rfl) ?_
        refine lv_icmp_eq (tgt := 135) hx hb dX11_swap_122 (by decide) (fun c23 => ?_) (fun c23 => ?_)
        · have hf := if_t hf c23
          refine lv_iinc (v := (x5 + 1)) (lv' := [(5, .int (x5 + 1)), (0, .ref (ad 0)), (1, .int x1), (2, .int x2), (3, .int x3), (4, .int x4)]) hx hb dX11_swap_135 hl (k := 5) rfl rfl (by decide) rfl (fun ls hl => ?_)
          refine lv_goto (tgt := 95) hx hb dX11_swap_138 (by decide) ?_
          exact ih _ _ _ _ _ w (lv_sub hl [1, 2, 3, 4, 5, 0] rfl) hf
        · have hf := if_f hf c23
          refine lv_aload_n hx hb dX11_swap_125 rfl (lv_at hl 0 rfl) ?_
          refine lv_iload hx hb dX11_swap_126 (lv_at hl 4 rfl) ?_
          refine lv_iload_n hx hb dX11_swap_128 rfl (lv_at hl 1 rfl) ?_
          refine lv_iload hx hb dX11_swap_129 (lv_at hl 5 rfl) ?_
          refine lv_iadd hx hb dX11_swap_131 ?_
          obtain ⟨S25, er24, hf⟩ := ob_e hf
          refine kVv (As := [.int x4, .int (x1 + x5)]) (rest := []) F B w (tX11_goes er24) (cwV 2 hts gX11_swap_X11_goes rfl rfl rfl (by decide +kernel) ⟨Nat.le_of_ble_eq_true rfl, Nat.le_of_ble_eq_true rfl⟩) 0 gM_0 rfl rfl hl.1 rfl (Nat.le_of_ble_eq_true rfl) dX11_swap_132 ⟨Nat.le_of_ble_eq_true rfl, Nat.le_of_ble_eq_true rfl⟩ (fun H locs w => ?_)
          refine lv_iinc (v := (x5 + 1)) (lv' := [(5, .int (x5 + 1)), (0, .ref (ad 0)), (1, .int x1), (2, .int x2), (3, .int x3), (4, .int x4)]) hx hb dX11_swap_135 hl (k := 5) rfl rfl (by decide) rfl (fun ls hl => ?_)
          refine lv_goto (tgt := 95) hx hb dX11_swap_138 (by decide) ?_
          exact ih _ _ _ _ _ w (lv_sub hl [1, 2, 3, 4, 5, 0] rfl) hf
set_option maxHeartbeats 4000000 in
set_option maxRecDepth 100000 in
theorem wX11_swap_L83 {p : Program} {l : Launch} {e : Env} {s : State} {m : MethodId} {args : Array Value} {below : List Frame} {meth : Method} {c : Code} {Q : State → Prop} {D : va_G} {cc : Nat → ClassId} {ak av : Nat → Nat} {A : Nat → Prop} {ad : Nat → Nat} {E : va_W} {n : Nat} {x1 : Int32} {x2 : Int32} {x3 : Int32} {r : Int32} {S' : St} {k : Int32 → St → Option (Int32 × St)} (F : CallFix p m c cX11_swap 6 s args wsX11_swap RX11) (B : Bd D cc ak av A s) (hQ : RetI p l e ({ frames := 4, cells := 0, slots := 0, locals := 93 } : Room) s m args below meth c D A Q cX11_swap (WM cc ad S' ++ E) r)
    (hk : ∀ (x4 : Int32) (S : St) (H : Heap) (locs : List Loc) (ls : Array Slot), Wd D A s.heap H locs (WM cc ad S ++ E) → lv_has ls 6 [(0, .ref (ad 0)), (1, .int x1), (2, .int x2), (3, .int x3), (4, .int x4)] → k x4 S = some (r, S') → W p l e ({ frames := 4, cells := 0, slots := 0, locals := 93 } : Room) s m args below meth c H locs 0 0 Q (F0 m 147 ls [])) :
    ∀ (fu : Nat) (x4 : Int32) (S : St) (H : Heap) (locs : List Loc) (ls : Array Slot), Wd D A s.heap H locs (WM cc ad S ++ E) → lv_has ls 6 [(0, .ref (ad 0)), (1, .int x1), (2, .int x2), (3, .int x3), (4, .int x4)] → fX11_swap_L83 n x1 x2 x3 k fu x4 S = some (r, S') → W p l e ({ frames := 4, cells := 0, slots := 0, locals := 93 } : Room) s m args below meth c H locs 0 0 Q (F0 m 83 ls []) := by
  have hx := F.1
  have hb := F.2.1
  have hown := F.2.2.2.1
  have hts := F.2.2.2.2
  intro fu
  induction fu with
  | zero => intro x4 S H locs ls w hl hf; rw [fX11_swap_L83] at hf; cases hf
  | succ fu ih =>
    intro x4 S H locs ls w hl hf
    rw [fX11_swap_L83] at hf
    refine lv_iload hx hb dX11_swap_83 (lv_at hl 4 rfl) ?_
    refine lv_aload_n hx hb dX11_swap_85 rfl (lv_at hl 0 rfl) ?_
    refine kget (v := .int (S.1 2)) F B w inX11_swap_11 0 gM_0 rfl 2 (by decide) (hts (.fieldLink RX11 120 "LandReformModel" "fields" "I") (by decide +kernel)) rfl rfl dX11_swap_86 ?_
    refine lv_icmp_ge (tgt := 147) hx hb dX11_swap_89 (by decide) (fun c18 => ?_) (fun c18 => ?_)
    · have hf := if_t hf c18
      exact hk _ _ _ _ _ w (lv_sub hl [0, 1, 2, 3, 4] rfl) hf
    · have hf := if_f hf c18
      refine lv_iconst (v := 0) hx hb dX11_swap_92 (by decide) ?_
      refine lv_istore (lv' := [(5, .int 0), (0, .ref (ad 0)), (1, .int x1), (2, .int x2), (3, .int x3), (4, .int x4)]) hx hb dX11_swap_93 hl (by decide) rfl (fun ls hl => ?_)
      refine wX11_swap_L95 F B hQ (fun x26 S27 H locs ls w hl hf => ?_) n _ _ _ _ _ w (lv_sub hl [1, 2, 3, 4, 5, 0] rfl) hf
      refine lv_iinc (v := (x4 + 1)) (lv' := [(4, .int (x4 + 1)), (0, .ref (ad 0)), (1, .int x1), (2, .int x2), (3, .int x3), (5, .int x26)]) hx hb dX11_swap_141 hl (k := 4) rfl rfl (by decide) rfl (fun ls hl => ?_)
      refine lv_goto (tgt := 83) hx hb dX11_swap_144 (by decide) ?_
      exact ih _ _ _ _ _ w (lv_sub hl [1, 2, 3, 4, 0] rfl) hf
set_option maxHeartbeats 4000000 in
set_option maxRecDepth 100000 in
theorem tX11_swap {l : Launch} {D : va_G} {cc : Nat → ClassId} {ak av : Nat → Nat} {ad : Nat → Nat} {E : va_W} {n : Nat} {S : St} {x1 : Int32} {x2 : Int32} {r : Int32} {S' : St} (hf : fX11_swap n S x1 x2 = some (r, S')) : CI l yX11_swap wsX11_swap ({ frames := 4, cells := 0, slots := 0, locals := 93 } : Room) D cc ak av [.ref (ad 0), .int x1, .int x2] (WM cc ad S ++ E) (WM cc ad S' ++ E) r := by
  refine mkI (c0 := cX11_swap) (nL := 6) (own := RX11) rfl rfl (by decide) rfl rfl (Nat.le_of_ble_eq_true rfl) ?_
  intro p e s m args below meth c A Q ls F B hQ hl w
  have hx := F.1
  have hb := F.2.1
  have hown := F.2.2.2.1
  have hts := F.2.2.2.2
  have hl : lv_has ls 6 [(0, .ref (ad 0)), (1, .int x1), (2, .int x2)] := hl
  unfold fX11_swap at hf
  refine lv_aload_n hx hb dX11_swap_0 rfl (lv_at hl 0 rfl) ?_
  refine lv_iload_n hx hb dX11_swap_1 rfl (lv_at hl 1 rfl) ?_
  refine lv_iload_n hx hb dX11_swap_2 rfl (lv_at hl 2 rfl) ?_
  obtain ⟨r1, er1, hf⟩ := ob_e hf
  refine kVi (As := [.int x1, .int x2]) (rest := []) F B w (tX11_isRow er1) (cwV 2 hts gX11_swap_X11_isRow rfl rfl rfl (by decide +kernel) ⟨Nat.le_of_ble_eq_true rfl, Nat.le_of_ble_eq_true rfl⟩) 0 gM_0 rfl rfl hl.1 rfl (Nat.le_of_ble_eq_true rfl) dX11_swap_3 ⟨Nat.le_of_ble_eq_true rfl, Nat.le_of_ble_eq_true rfl⟩ (fun H locs w => ?_)
  refine lv_if_eq (tgt := 19) hx hb dX11_swap_6 (by decide) (fun c2 => ?_) (fun c2 => ?_)
  · have hf := if_t hf c2
    refine lv_iconst (v := (-1)) hx hb dX11_swap_19 (by decide) ?_
    cases hf
    exact hQ _ _ _ _ dX11_swap_20 w
  · have hf := if_f hf c2
    refine lv_aload_n hx hb dX11_swap_9 rfl (lv_at hl 0 rfl) ?_
    refine lv_iload_n hx hb dX11_swap_10 rfl (lv_at hl 1 rfl) ?_
    refine lv_iload_n hx hb dX11_swap_11 rfl (lv_at hl 2 rfl) ?_
    obtain ⟨⟨r3, S4⟩, er3, hf⟩ := ob_e hf
    have hf := lt_e hf (v := r3) rfl
    have hf := lt_e hf (v := S4) rfl
    refine kVi (As := [.int x1, .int x2]) (rest := []) F B w (tX11_turns er3) (cwV 2 hts gX11_swap_X11_turns rfl rfl rfl (by decide +kernel) ⟨Nat.le_of_ble_eq_true rfl, Nat.le_of_ble_eq_true rfl⟩) 0 gM_0 rfl rfl hl.1 rfl (Nat.le_of_ble_eq_true rfl) dX11_swap_12 ⟨Nat.le_of_ble_eq_true rfl, Nat.le_of_ble_eq_true rfl⟩ (fun H locs w => ?_)
    refine lv_iconst (v := (-1)) hx hb dX11_swap_15 (by decide) ?_
    refine lv_icmp_ne (tgt := 21) hx hb dX11_swap_16 (by decide) (fun c6 => ?_) (fun c6 => ?_)
    · have hf := if_f hf c6
      refine lv_iconst (v := 0) hx hb dX11_swap_21 (by decide) ?_
      refine lv_istore_n (lv' := [(3, .int 0), (0, .ref (ad 0)), (1, .int x1), (2, .int x2)]) hx hb dX11_swap_22 rfl hl (by decide) rfl (fun ls hl => ?_)
      refine lv_iconst (v := 0) hx hb dX11_swap_23 (by decide) ?_
      refine lv_istore (lv' := [(4, .int 0), (3, .int 0), (0, .ref (ad 0)), (1, .int x1), (2, .int x2)]) hx hb dX11_swap_24 hl (by decide) rfl (fun ls hl => ?_)
      refine wX11_swap_L26 F B hQ (fun x15 x16 H locs ls w hl hf => ?_) n _ _ _ _ _ w (lv_sub hl [2, 3, 4, 1, 0] rfl) hf
      refine lv_aload_n hx hb dX11_swap_66 rfl (lv_at hl 0 rfl) ?_
      refine kget (v := .int (S4.1 3)) F B w inX11_swap_11 0 gM_0 rfl 3 (by decide) (hts (.fieldLink RX11 133 "LandReformModel" "transfers" "I") (by decide +kernel)) rfl rfl dX11_swap_67 ?_
      refine lv_iload_n hx hb dX11_swap_70 rfl (lv_at hl 3 rfl) ?_
      refine lv_iadd hx hb dX11_swap_71 ?_
      refine lv_sipush (v := 200) hx hb dX11_swap_72 (by decide) ?_
      refine lv_icmp_le (tgt := 80) hx hb dX11_swap_75 (by decide) (fun c17 => ?_) (fun c17 => ?_)
      · have hf := if_t hf c17
        refine lv_iconst (v := 0) hx hb dX11_swap_80 (by decide) ?_
        refine lv_istore (lv' := [(4, .int 0), (0, .ref (ad 0)), (1, .int x1), (2, .int x2), (3, .int x15)]) hx hb dX11_swap_81 hl (by decide) rfl (fun ls hl => ?_)
        refine wX11_swap_L83 F B hQ (fun x28 S29 H locs ls w hl hf => ?_) n _ _ _ _ _ w (lv_sub hl [1, 2, 3, 4, 0] rfl) hf
        refine lv_iload_n hx hb dX11_swap_147 rfl (lv_at hl 3 rfl) ?_
        cases hf
        exact hQ _ _ _ _ dX11_swap_148 w
      · have hf := if_f hf c17
        refine lv_iconst (v := (-1)) hx hb dX11_swap_78 (by decide) ?_
        cases hf
        exact hQ _ _ _ _ dX11_swap_79 w
    · have hf := if_t hf c6
      refine lv_iconst (v := (-1)) hx hb dX11_swap_19 (by decide) ?_
      cases hf
      exact hQ _ _ _ _ dX11_swap_20 w
