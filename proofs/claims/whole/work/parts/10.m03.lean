def fX11_act_L17 (n : Nat) (x1 : Int32) (k : Int32 → St → Option (Int32 × St)) : Nat → Int32 → St → Option (Int32 × St)
  | 0, _, _ => none
  | fu + 1, x2, S => if x1 ≤ x2 then (k x2 S) else (if x2 < 0 ∨ 400 ≤ Int32.toNatClampNeg x2 then none else if x2 < 0 ∨ 400 ≤ Int32.toNatClampNeg x2 then none else lt_ (sA S 19 (Int32.toNatClampNeg x2) (vp_nar .byte (S.2.1 18 (Int32.toNatClampNeg x2)))) fun S6 => fX11_act_L17 n x1 k fu (x2 + 1) S6)
def fX11_act_L69 (n : Nat) (k : Int32 → Int32 → St → Option (Int32 × St)) : Nat → Int32 → Int32 → St → Option (Int32 × St)
  | 0, _, _, _ => none
  | fu + 1, x2, x3, S => if x3 = 0 then (k x2 x3 S) else (if (S.1 21) ≤ (S.1 22) then (k x2 x3 S) else (if 16 ≤ x2 then (fX11_act_L69 n k fu (x2 + 1) 0 S) else (ob (fX11_statement n S) fun q22 => lt_ q22.1 fun r20 => lt_ q22.2 fun S21 => if r20 = 0 then (fX11_act_L69 n k fu (x2 + 1) 0 S21) else (ob (fX11_blanks n S21) fun S27 => fX11_act_L69 n k fu (x2 + 1) 1 S27))))
def fX11_act_L142 (n : Nat) (x2 : Int32) (k : Int32 → St → Option (Int32 × St)) : Nat → Int32 → St → Option (Int32 × St)
  | 0, _, _ => none
  | fu + 1, x4, S => if 20 ≤ x4 then (k x4 S) else (if ((20 : Int32) + x4) < 0 ∨ 40 ≤ Int32.toNatClampNeg ((20 : Int32) + x4) then none else if x4 < 0 ∨ 40 ≤ Int32.toNatClampNeg x4 then none else lt_ (sA S 16 (Int32.toNatClampNeg x4) (S.2.1 16 (Int32.toNatClampNeg ((20 : Int32) + x4)))) fun S37 => fX11_act_L142 n x2 k fu (x4 + 1) S37)
def fX11_act (n : Nat) (S : St) (x1 : Int32) : Option (Int32 × St) := ob (fX11_isIn x1 0 (S.1 20)) fun r1 => if r1 = 0 then (some ((-2), S)) else (fX11_act_L17 n x1 (fun x7 S8 => lt_ (sS S8 21 x1) fun S9 => lt_ (sS S9 20 0) fun S10 => lt_ (sS S10 22 0) fun S11 => ob (fX11_begins n S11 20) fun S13 => ob (fX11_blanks n S13) fun S15 => fX11_act_L69 n (fun x28 x29 S30 => if x29 = 0 then (lt_ (sS S30 23 (S30.1 22)) fun S32 => if x29 = 0 then (some ((-1), S32)) else (fX11_act_L142 n x28 (fun x38 S39 => lt_ (sS S39 17 x28) fun S40 => some ((S40.1 17), S40)) n 0 S32)) else (lt_ (sS S30 23 (-1)) fun S41 => if x29 = 0 then (some ((-1), S41)) else (fX11_act_L142 n x28 (fun x43 S44 => lt_ (sS S44 17 x28) fun S45 => some ((S45.1 17), S45)) n 0 S41))) n 0 1 S15) n 0 S)
set_option maxRecDepth 20000 in
theorem inX11_act_11 : ∀ w ∈ u_ws RX11 TX11 47, w ∈ wsX11_act := by decide +kernel
set_option maxHeartbeats 4000000 in
set_option maxRecDepth 100000 in
theorem wX11_act_L17 {p : Program} {l : Launch} {e : Env} {s : State} {m : MethodId} {args : Array Value} {below : List Frame} {meth : Method} {c : Code} {Q : State → Prop} {D : va_G} {cc : Nat → ClassId} {ak av : Nat → Nat} {A : Nat → Prop} {ad : Nat → Nat} {E : va_W} {n : Nat} {x1 : Int32} {r : Int32} {S' : St} {k : Int32 → St → Option (Int32 × St)} (F : CallFix p m c cX11_act 5 s args wsX11_act RX11) (B : Bd D cc ak av A s) (hQ : RetI p l e ({ frames := 4, cells := 0, slots := 0, locals := 85 } : Room) s m args below meth c D A Q cX11_act (WM cc ad S' ++ E) r)
    (hk : ∀ (x2 : Int32) (S : St) (H : Heap) (locs : List Loc) (ls : Array Slot), Wd D A s.heap H locs (WM cc ad S ++ E) → lv_has ls 5 [(0, .ref (ad 0)), (1, .int x1), (2, .int x2)] → k x2 S = some (r, S') → W p l e ({ frames := 4, cells := 0, slots := 0, locals := 85 } : Room) s m args below meth c H locs 0 0 Q (F0 m 40 ls [])) :
    ∀ (fu : Nat) (x2 : Int32) (S : St) (H : Heap) (locs : List Loc) (ls : Array Slot), Wd D A s.heap H locs (WM cc ad S ++ E) → lv_has ls 5 [(0, .ref (ad 0)), (1, .int x1), (2, .int x2)] → fX11_act_L17 n x1 k fu x2 S = some (r, S') → W p l e ({ frames := 4, cells := 0, slots := 0, locals := 85 } : Room) s m args below meth c H locs 0 0 Q (F0 m 17 ls []) := by
  have hx := F.1
  have hb := F.2.1
  have hown := F.2.2.2.1
  have hts := F.2.2.2.2
  intro fu
  induction fu with
  | zero => intro x2 S H locs ls w hl hf; rw [fX11_act_L17] at hf; cases hf
  | succ fu ih =>
    intro x2 S H locs ls w hl hf
    rw [fX11_act_L17] at hf
    refine lv_iload_n hx hb dX11_act_17 rfl (lv_at hl 2 rfl) ?_
    refine lv_iload_n hx hb dX11_act_18 rfl (lv_at hl 1 rfl) ?_
    refine lv_icmp_ge (tgt := 40) hx hb dX11_act_19 (by decide) (fun c3 => ?_) (fun c3 => ?_)
    · have hf := if_t hf c3
      exact hk _ _ _ _ _ w (lv_sub hl [0, 1, 2] rfl) hf
    · have hf := if_f hf c3
      refine lv_aload_n hx hb dX11_act_22 rfl (lv_at hl 0 rfl) ?_
      refine kget (v := .ref (ad 14)) F B w inX11_act_11 0 gM_0 rfl 19 (by decide) (hts (.fieldLink RX11 51 "LandReformModel" "text" "[B") (by decide +kernel)) rfl rfl dX11_act_23 ?_
      refine lv_iload_n hx hb dX11_act_26 rfl (lv_at hl 2 rfl) ?_
      refine lv_aload_n hx hb dX11_act_27 rfl (lv_at hl 0 rfl) ?_
      refine kget (v := .ref (ad 13)) F B w inX11_act_11 0 gM_0 rfl 18 (by decide) (hts (.fieldLink RX11 47 "LandReformModel" "tape" "[B") (by decide +kernel)) rfl rfl dX11_act_28 ?_
      refine lv_iload_n hx hb dX11_act_31 rfl (lv_at hl 2 rfl) ?_
      obtain ⟨g4, hf⟩ := if_g hf
      refine kbald F B w 13 gM_13 g4 dX11_act_32 ?_
      obtain ⟨g5, hf⟩ := if_g hf
      refine kbast F B w 14 gM_14 g5 bM_14 dX11_act_33 (fun H locs w => ?_)
      obtain ⟨S6, eS6⟩ : ∃ z, z = sA S 19 (Int32.toNatClampNeg x2) (vp_nar .byte (S.2.1 18 (Int32.toNatClampNeg x2))) := ⟨_, rfl⟩
      rw [← eS6] at w
      have hf := lt_e hf eS6
      refine lv_iinc (v := (x2 + 1)) (lv' := [(2, .int (x2 + 1)), (0, .ref (ad 0)), (1, .int x1)]) hx hb dX11_act_34 hl (k := 2) rfl rfl (by decide) rfl (fun ls hl => ?_)
      refine lv_goto (tgt := 17) hx hb dX11_act_37 (by decide) ?_
      exact ih _ _ _ _ _ w (lv_sub hl [1, 2, 0] rfl) hf
set_option maxHeartbeats 4000000 in
set_option maxRecDepth 100000 in
theorem wX11_act_L69 {p : Program} {l : Launch} {e : Env} {s : State} {m : MethodId} {args : Array Value} {below : List Frame} {meth : Method} {c : Code} {Q : State → Prop} {D : va_G} {cc : Nat → ClassId} {ak av : Nat → Nat} {A : Nat → Prop} {ad : Nat → Nat} {E : va_W} {n : Nat} {r : Int32} {S' : St} {k : Int32 → Int32 → St → Option (Int32 × St)} (F : CallFix p m c cX11_act 5 s args wsX11_act RX11) (B : Bd D cc ak av A s) (hQ : RetI p l e ({ frames := 4, cells := 0, slots := 0, locals := 85 } : Room) s m args below meth c D A Q cX11_act (WM cc ad S' ++ E) r)
    (hk : ∀ (x2 : Int32) (x3 : Int32) (S : St) (H : Heap) (locs : List Loc) (ls : Array Slot), Wd D A s.heap H locs (WM cc ad S ++ E) → lv_has ls 5 [(0, .ref (ad 0)), (2, .int x2), (3, .int x3)] → k x2 x3 S = some (r, S') → W p l e ({ frames := 4, cells := 0, slots := 0, locals := 85 } : Room) s m args below meth c H locs 0 0 Q (F0 m 117 ls [])) :
    ∀ (fu : Nat) (x2 : Int32) (x3 : Int32) (S : St) (H : Heap) (locs : List Loc) (ls : Array Slot), Wd D A s.heap H locs (WM cc ad S ++ E) → lv_has ls 5 [(0, .ref (ad 0)), (2, .int x2), (3, .int x3)] → fX11_act_L69 n k fu x2 x3 S = some (r, S') → W p l e ({ frames := 4, cells := 0, slots := 0, locals := 85 } : Room) s m args below meth c H locs 0 0 Q (F0 m 69 ls []) := by
  have hx := F.1
  have hb := F.2.1
  have hown := F.2.2.2.1
  have hts := F.2.2.2.2
  intro fu
  induction fu with
  | zero => intro x2 x3 S H locs ls w hl hf; rw [fX11_act_L69] at hf; cases hf
  | succ fu ih =>
    intro x2 x3 S H locs ls w hl hf
    rw [fX11_act_L69] at hf
    refine lv_iload_n hx hb dX11_act_69 rfl (lv_at hl 2 rfl) ?_
    refine lv_if_eq (tgt := 117) hx hb dX11_act_70 (by decide) (fun c16 => ?_) (fun c16 => ?_)
    · have hf := if_t hf c16
      exact hk _ _ _ _ _ _ w (lv_sub hl [0, 1, 2] rfl) hf
    · have hf := if_f hf c16
      refine lv_aload_n hx hb dX11_act_73 rfl (lv_at hl 0 rfl) ?_
      refine kget (v := .int (S.1 22)) F B w inX11_act_11 0 gM_0 rfl 22 (by decide) (hts (.fieldLink RX11 157 "LandReformModel" "at" "I") (by decide +kernel)) rfl rfl dX11_act_74 ?_
      refine lv_aload_n hx hb dX11_act_77 rfl (lv_at hl 0 rfl) ?_
      refine kget (v := .int (S.1 21)) F B w inX11_act_11 0 gM_0 rfl 21 (by decide) (hts (.fieldLink RX11 160 "LandReformModel" "size" "I") (by decide +kernel)) rfl rfl dX11_act_78 ?_
      refine lv_icmp_ge (tgt := 117) hx hb dX11_act_81 (by decide) (fun c17 => ?_) (fun c17 => ?_)
      · have hf := if_t hf c17
        exact hk _ _ _ _ _ _ w (lv_sub hl [0, 1, 2] rfl) hf
      · have hf := if_f hf c17
        refine lv_iload_n hx hb dX11_act_84 rfl (lv_at hl 1 rfl) ?_
        refine lv_bipush (v := 16) hx hb dX11_act_85 (by decide) ?_
        refine lv_icmp_ge (tgt := 101) hx hb dX11_act_87 (by decide) (fun c18 => ?_) (fun c18 => ?_)
        · have hf := if_t hf c18
          refine lv_iconst (v := 0) hx hb dX11_act_101 (by decide) ?_
          refine lv_istore_n (lv' := [(3, .int 0), (0, .ref (ad 0)), (2, .int x2)]) hx hb dX11_act_102 rfl hl (by decide) rfl (fun ls hl => ?_)
          refine lv_iinc (v := (x2 + 1)) (lv' := [(2, .int (x2 + 1)), (3, .int 0), (0, .ref (ad 0))]) hx hb dX11_act_103 hl (k := 2) rfl rfl (by decide) rfl (fun ls hl => ?_)
          refine lv_iload_n hx hb dX11_act_106 rfl (lv_at hl 1 rfl) ?_
          refine lv_if_eq (tgt := 69) hx hb dX11_act_107 (by decide) (fun _ => ?_) (fun c => absurd (by decide) c)
          exact ih _ _ _ _ _ _ w (lv_sub hl [2, 0, 1] rfl) hf
        · have hf := if_f hf c18
          refine lv_aload_n hx hb dX11_act_90 rfl (lv_at hl 0 rfl) ?_
          obtain ⟨⟨r20, S21⟩, er20, hf⟩ := ob_e hf
          have hf := lt_e hf (v := r20) rfl
          have hf := lt_e hf (v := S21) rfl
          refine kVi (As := []) (rest := []) F B w (tX11_statement er20) (cwV 0 hts gX11_act_X11_statement rfl rfl rfl (by decide +kernel) ⟨Nat.le_of_ble_eq_true rfl, Nat.le_of_ble_eq_true rfl⟩) 0 gM_0 rfl rfl hl.1 rfl (Nat.le_of_ble_eq_true rfl) dX11_act_91 ⟨Nat.le_of_ble_eq_true rfl, Nat.le_of_ble_eq_true rfl⟩ (fun H locs w => ?_)
          refine lv_if_eq (tgt := 101) hx hb dX11_act_94 (by decide) (fun c23 => ?_) (fun c23 => ?_)
          · have hf := if_t hf c23
            refine lv_iconst (v := 0) hx hb dX11_act_101 (by decide) ?_
            refine lv_istore_n (lv' := [(3, .int 0), (0, .ref (ad 0)), (2, .int x2)]) hx hb dX11_act_102 rfl hl (by decide) rfl (fun ls hl => ?_)
            refine lv_iinc (v := (x2 + 1)) (lv' := [(2, .int (x2 + 1)), (3, .int 0), (0, .ref (ad 0))]) hx hb dX11_act_103 hl (k := 2) rfl rfl (by decide) rfl (fun ls hl => ?_)
            refine lv_iload_n hx hb dX11_act_106 rfl (lv_at hl 1 rfl) ?_
            refine lv_if_eq (tgt := 69) hx hb dX11_act_107 (by decide) (fun _ => ?_) (fun c => absurd (by decide) c)
            exact ih _ _ _ _ _ _ w (lv_sub hl [2, 0, 1] rfl) hf
          · have hf := if_f hf c23
            refine lv_iconst (v := 1) hx hb dX11_act_97 (by decide) ?_
            refine lv_goto (tgt := 102) hx hb dX11_act_98 (by decide) ?_
            refine lv_istore_n (lv' := [(3, .int 1), (0, .ref (ad 0)), (2, .int x2)]) hx hb dX11_act_102 rfl hl (by decide) rfl (fun ls hl => ?_)
            refine lv_iinc (v := (x2 + 1)) (lv' := [(2, .int (x2 + 1)), (3, .int 1), (0, .ref (ad 0))]) hx hb dX11_act_103 hl (k := 2) rfl rfl (by decide) rfl (fun ls hl => ?_)
            refine lv_iload_n hx hb dX11_act_106 rfl (lv_at hl 1 rfl) ?_
            refine lv_if_eq (tgt := 69) hx hb dX11_act_107 (by decide) (fun c => absurd c (by decide)) (fun _ => ?_)
            refine lv_aload_n hx hb dX11_act_110 rfl (lv_at hl 2 rfl) ?_
            obtain ⟨S27, er26, hf⟩ := ob_e hf
            refine kVv (As := []) (rest := []) F B w (tX11_blanks er26) (cwV 0 hts gX11_act_X11_blanks rfl rfl rfl (by decide +kernel) ⟨Nat.le_of_ble_eq_true rfl, Nat.le_of_ble_eq_true rfl⟩) 0 gM_0 rfl rfl hl.1 rfl (Nat.le_of_ble_eq_true rfl) dX11_act_111 ⟨Nat.le_of_ble_eq_true rfl, Nat.le_of_ble_eq_true rfl⟩ (fun H locs w => ?_)
            refine lv_goto (tgt := 69) hx hb dX11_act_114 (by decide) ?_
            exact ih _ _ _ _ _ _ w (lv_sub hl [2, 0, 1] rfl) hf
set_option maxHeartbeats 4000000 in
set_option maxRecDepth 100000 in
theorem wX11_act_L142 {p : Program} {l : Launch} {e : Env} {s : State} {m : MethodId} {args : Array Value} {below : List Frame} {meth : Method} {c : Code} {Q : State → Prop} {D : va_G} {cc : Nat → ClassId} {ak av : Nat → Nat} {A : Nat → Prop} {ad : Nat → Nat} {E : va_W} {n : Nat} {x2 : Int32} {r : Int32} {S' : St} {k : Int32 → St → Option (Int32 × St)} (F : CallFix p m c cX11_act 5 s args wsX11_act RX11) (B : Bd D cc ak av A s) (hQ : RetI p l e ({ frames := 4, cells := 0, slots := 0, locals := 85 } : Room) s m args below meth c D A Q cX11_act (WM cc ad S' ++ E) r)
    (hk : ∀ (x4 : Int32) (S : St) (H : Heap) (locs : List Loc) (ls : Array Slot), Wd D A s.heap H locs (WM cc ad S ++ E) → lv_has ls 5 [(0, .ref (ad 0)), (2, .int x2), (4, .int x4)] → k x4 S = some (r, S') → W p l e ({ frames := 4, cells := 0, slots := 0, locals := 85 } : Room) s m args below meth c H locs 0 0 Q (F0 m 172 ls [])) :
    ∀ (fu : Nat) (x4 : Int32) (S : St) (H : Heap) (locs : List Loc) (ls : Array Slot), Wd D A s.heap H locs (WM cc ad S ++ E) → lv_has ls 5 [(0, .ref (ad 0)), (2, .int x2), (4, .int x4)] → fX11_act_L142 n x2 k fu x4 S = some (r, S') → W p l e ({ frames := 4, cells := 0, slots := 0, locals := 85 } : Room) s m args below meth c H locs 0 0 Q (F0 m 142 ls []) := by
  have hx := F.1
  have hb := F.2.1
  have hown := F.2.2.2.1
  have hts := F.2.2.2.2
  intro fu
  induction fu with
  | zero => intro x4 S H locs ls w hl hf; rw [fX11_act_L142] at hf; cases hf
  | succ fu ih =>
    intro x4 S H locs ls w hl hf
    rw [fX11_act_L142] at hf
    refine lv_iload hx hb dX11_act_142 (lv_at hl 2 rfl) ?_
    refine lv_bipush (v := 20) hx hb dX11_act_144 (by decide) ?_
    refine lv_icmp_ge (tgt := 172) hx hb dX11_act_146 (by decide) (fun c34 => ?_) (fun c34 => ?_)
    · have hf := if_t hf c34
      exact hk _ _ _ _ _ w (lv_sub hl [0, 1, 2] rfl) hf
    · have hf := if_f hf c34
      refine lv_aload_n hx hb dX11_act_149 rfl (lv_at hl 0 rfl) ?_
      refine kget (v := .ref (ad 12)) F B w inX11_act_11 0 gM_0 rfl 16 (by decide) (hts (.fieldLink RX11 44 "LandReformModel" "told" "[I") (by decide +kernel)) rfl rfl dX11_act_150 ?_
      refine lv_iload hx hb dX11_act_153 (lv_at hl 2 rfl) ?_
      refine lv_aload_n hx hb dX11_act_155 rfl (lv_at hl 0 rfl) ?_
      refine kget (v := .ref (ad 12)) F B w inX11_act_11 0 gM_0 rfl 16 (by decide) (hts (.fieldLink RX11 44 "LandReformModel" "told" "[I") (by decide +kernel)) rfl rfl dX11_act_156 ?_
      refine lv_bipush (v := 20) hx hb dX11_act_159 (by decide) ?_
      refine lv_iload hx hb dX11_act_161 (lv_at hl 2 rfl) ?_
      refine lv_iadd hx hb dX11_act_163 ?_
      obtain ⟨g35, hf⟩ := if_g hf
      refine kiald F B w 12 gM_12 g35 dX11_act_164 ?_
      obtain ⟨g36, hf⟩ := if_g hf
      refine kiast F B w 12 gM_12 g36 bM_12 dX11_act_165 (fun H locs w => ?_)
      obtain ⟨S37, eS37⟩ : ∃ z, z = sA S 16 (Int32.toNatClampNeg x4) (S.2.1 16 (Int32.toNatClampNeg ((20 : Int32) + x4))) := ⟨_, rfl⟩
      rw [← eS37] at w
      have hf := lt_e hf eS37
      refine lv_iinc (v := (x4 + 1)) (lv' := [(4, .int (x4 + 1)), (0, .ref (ad 0)), (2, .int x2)]) hx hb dX11_act_166 hl (k := 2) rfl rfl (by decide) rfl (fun ls hl => ?_)
      refine lv_goto (tgt := 142) hx hb dX11_act_169 (by decide) ?_
      exact ih _ _ _ _ _ w (lv_sub hl [1, 2, 0] rfl) hf
set_option maxHeartbeats 4000000 in
set_option maxRecDepth 100000 in
theorem tX11_act {l : Launch} {D : va_G} {cc : Nat → ClassId} {ak av : Nat → Nat} {ad : Nat → Nat} {E : va_W} {n : Nat} {S : St} {x1 : Int32} {r : Int32} {S' : St} (hf : fX11_act n S x1 = some (r, S')) : CI l yX11_act wsX11_act ({ frames := 4, cells := 0, slots := 0, locals := 85 } : Room) D cc ak av [.ref (ad 0), .int x1] (WM cc ad S ++ E) (WM cc ad S' ++ E) r := by
  refine mkI (c0 := cX11_act) (nL := 5) (own := RX11) rfl rfl (by decide) rfl rfl (Nat.le_of_ble_eq_true rfl) ?_
  intro p e s m args below meth c A Q ls F B hQ hl w
  have hx := F.1
  have hb := F.2.1
  have hown := F.2.2.2.1
  have hts := F.2.2.2.2
  have hl : lv_has ls 5 [(0, .ref (ad 0)), (1, .int x1)] := hl
  unfold fX11_act at hf
  refine lv_iload_n hx hb dX11_act_0 rfl (lv_at hl 1 rfl) ?_
  refine lv_iconst (v := 0) hx hb dX11_act_1 (by decide) ?_
  refine lv_aload_n hx hb dX11_act_2 rfl (lv_at hl 0 rfl) ?_
  refine kget (v := .int (S.1 20)) F B w inX11_act_11 0 gM_0 rfl 20 (by decide) (hts (.fieldLink RX11 151 "LandReformModel" "taped" "I") (by decide +kernel)) rfl rfl dX11_act_3 ?_
  obtain ⟨r1, er1, hf⟩ := ob_e hf
  refine kSi (As := [.int x1, .int 0, .int (S.1 20)]) (rest := []) F B w (tX11_isIn er1) (va_cwS 3 hts gX11_act_X11_isIn rfl rfl rfl (by decide +kernel) ⟨Nat.le_of_ble_eq_true rfl, Nat.le_of_ble_eq_true rfl⟩) rfl hl.1 rfl (Nat.le_of_ble_eq_true rfl) dX11_act_6 ⟨Nat.le_of_ble_eq_true rfl, Nat.le_of_ble_eq_true rfl⟩ (fun H locs w => ?_)
  refine lv_if_ne (tgt := 15) hx hb dX11_act_9 (by decide) (fun c2 => ?_) (fun c2 => ?_)
  · have hf := if_f hf c2
    refine lv_iconst (v := 0) hx hb dX11_act_15 (by decide) ?_
    refine lv_istore_n (lv' := [(2, .int 0), (0, .ref (ad 0)), (1, .int x1)]) hx hb dX11_act_16 rfl hl (by decide) rfl (fun ls hl => ?_)
    refine wX11_act_L17 F B hQ (fun x7 S8 H locs ls w hl hf => ?_) n _ _ _ _ _ w (lv_sub hl [1, 2, 0] rfl) hf
    refine lv_aload_n hx hb dX11_act_40 rfl (lv_at hl 0 rfl) ?_
    refine lv_iload_n hx hb dX11_act_41 rfl (lv_at hl 1 rfl) ?_
    refine kput (ty := .int) F B w inX11_act_11 tyX11 tyX11_ok nmX11 0 gM_0 rfl 21 (by decide) (hts (.fieldLink RX11 160 "LandReformModel" "size" "I") (by decide +kernel)) rfl rfl (by decide +kernel) rfl rfl (Nat.le_of_ble_eq_true rfl) pM_21 dX11_act_42 (fun H locs w => ?_)
    obtain ⟨S9, eS9⟩ : ∃ z, z = sS S8 21 x1 := ⟨_, rfl⟩
    rw [← eS9] at w
    have hf := lt_e hf eS9
    refine lv_aload_n hx hb dX11_act_45 rfl (lv_at hl 0 rfl) ?_
    refine lv_iconst (v := 0) hx hb dX11_act_46 (by decide) ?_
    refine kput (ty := .int) F B w inX11_act_11 tyX11 tyX11_ok nmX11 0 gM_0 rfl 20 (by decide) (hts (.fieldLink RX11 151 "LandReformModel" "taped" "I") (by decide +kernel)) rfl rfl (by decide +kernel) rfl rfl (Nat.le_of_ble_eq_true rfl) pM_20 dX11_act_47 (fun H locs w => ?_)
    obtain ⟨S10, eS10⟩ : ∃ z, z = sS S9 20 0 := ⟨_, rfl⟩
    rw [← eS10] at w
    have hf := lt_e hf eS10
    refine lv_aload_n hx hb dX11_act_50 rfl (lv_at hl 0 rfl) ?_
    refine lv_iconst (v := 0) hx hb dX11_act_51 (by decide) ?_
    refine kput (ty := .int) F B w inX11_act_11 tyX11 tyX11_ok nmX11 0 gM_0 rfl 22 (by decide) (hts (.fieldLink RX11 157 "LandReformModel" "at" "I") (by decide +kernel)) rfl rfl (by decide +kernel) rfl rfl (Nat.le_of_ble_eq_true rfl) pM_22 dX11_act_52 (fun H locs w => ?_)
    obtain ⟨S11, eS11⟩ : ∃ z, z = sS S10 22 0 := ⟨_, rfl⟩
    rw [← eS11] at w
    have hf := lt_e hf eS11
    refine lv_aload_n hx hb dX11_act_55 rfl (lv_at hl 0 rfl) ?_
    refine lv_bipush (v := 20) hx hb dX11_act_56 (by decide) ?_
    obtain ⟨S13, er12, hf⟩ := ob_e hf
    refine kVv (As := [.int 20]) (rest := []) F B w (tX11_begins er12) (cwV 1 hts gX11_act_X11_begins rfl rfl rfl (by decide +kernel) ⟨Nat.le_of_ble_eq_true rfl, Nat.le_of_ble_eq_true rfl⟩) 0 gM_0 rfl rfl hl.1 rfl (Nat.le_of_ble_eq_true rfl) dX11_act_58 ⟨Nat.le_of_ble_eq_true rfl, Nat.le_of_ble_eq_true rfl⟩ (fun H locs w => ?_)
    refine lv_iconst (v := 0) hx hb dX11_act_61 (by decide) ?_
    refine lv_istore_n (lv' := [(2, .int 0), (0, .ref (ad 0)), (1, .int x1)]) hx hb dX11_act_62 rfl hl (by decide) rfl (fun ls hl => ?_)
    refine lv_iconst (v := 1) hx hb dX11_act_63 (by decide) ?_
    refine lv_istore_n (lv' := [(3, .int 1), (2, .int 0), (0, .ref (ad 0)), (1, .int x1)]) hx hb dX11_act_64 rfl hl (by decide) rfl (fun ls hl => ?_)
    refine lv_aload_n hx hb dX11_act_65 rfl (lv_at hl 2 rfl) ?_
    obtain ⟨S15, er14, hf⟩ := ob_e hf
    refine kVv (As := []) (rest := []) F B w (tX11_blanks er14) (cwV 0 hts gX11_act_X11_blanks rfl rfl rfl (by decide +kernel) ⟨Nat.le_of_ble_eq_true rfl, Nat.le_of_ble_eq_true rfl⟩) 0 gM_0 rfl rfl hl.1 rfl (Nat.le_of_ble_eq_true rfl) dX11_act_66 ⟨Nat.le_of_ble_eq_true rfl, Nat.le_of_ble_eq_true rfl⟩ (fun H locs w => ?_)
    refine wX11_act_L69 F B hQ (fun x28 x29 S30 H locs ls w hl hf => ?_) n _ _ _ _ _ _ w (lv_sub hl [2, 1, 0] rfl) hf
    refine lv_aload_n hx hb dX11_act_117 rfl (lv_at hl 0 rfl) ?_
    refine lv_iload_n hx hb dX11_act_118 rfl (lv_at hl 2 rfl) ?_
    refine lv_if_eq (tgt := 126) hx hb dX11_act_119 (by decide) (fun c31 => ?_) (fun c31 => ?_)
    · have hf := if_t hf c31
      refine lv_aload_n hx hb dX11_act_126 rfl (lv_at hl 0 rfl) ?_
      refine kget (v := .int (S30.1 22)) F B w inX11_act_11 0 gM_0 rfl 22 (by decide) (hts (.fieldLink RX11 157 "LandReformModel" "at" "I") (by decide +kernel)) rfl rfl dX11_act_127 ?_
      refine kput (ty := .int) F B w inX11_act_11 tyX11 tyX11_ok nmX11 0 gM_0 rfl 23 (by decide) (hts (.fieldLink RX11 54 "LandReformModel" "fault" "I") (by decide +kernel)) rfl rfl (by decide +kernel) rfl rfl (Nat.le_of_ble_eq_true rfl) pM_23 dX11_act_130 (fun H locs w => ?_)
      obtain ⟨S32, eS32⟩ : ∃ z, z = sS S30 23 (S30.1 22) := ⟨_, rfl⟩
      rw [← eS32] at w
      have hf := lt_e hf eS32
      refine lv_iload_n hx hb dX11_act_133 rfl (lv_at hl 2 rfl) ?_
      refine lv_if_ne (tgt := 139) hx hb dX11_act_134 (by decide) (fun c33 => ?_) (fun c33 => ?_)
      · have hf := if_f hf c33
        refine lv_iconst (v := 0) hx hb dX11_act_139 (by decide) ?_
        refine lv_istore (lv' := [(4, .int 0), (0, .ref (ad 0)), (2, .int x28), (3, .int x29)]) hx hb dX11_act_140 hl (by decide) rfl (fun ls hl => ?_)
        refine wX11_act_L142 F B hQ (fun x38 S39 H locs ls w hl hf => ?_) n _ _ _ _ _ w (lv_sub hl [1, 2, 0] rfl) hf
        refine lv_aload_n hx hb dX11_act_172 rfl (lv_at hl 0 rfl) ?_
        refine lv_iload_n hx hb dX11_act_173 rfl (lv_at hl 1 rfl) ?_
        refine kput (ty := .int) F B w inX11_act_11 tyX11 tyX11_ok nmX11 0 gM_0 rfl 17 (by decide) (hts (.fieldLink RX11 206 "LandReformModel" "many" "I") (by decide +kernel)) rfl rfl (by decide +kernel) rfl rfl (Nat.le_of_ble_eq_true rfl) pM_17 dX11_act_174 (fun H locs w => ?_)
        obtain ⟨S40, eS40⟩ : ∃ z, z = sS S39 17 x28 := ⟨_, rfl⟩
        rw [← eS40] at w
        have hf := lt_e hf eS40
        refine lv_aload_n hx hb dX11_act_177 rfl (lv_at hl 0 rfl) ?_
        refine kget (v := .int (S40.1 17)) F B w inX11_act_11 0 gM_0 rfl 17 (by decide) (hts (.fieldLink RX11 206 "LandReformModel" "many" "I") (by decide +kernel)) rfl rfl dX11_act_178 ?_
        cases hf
        exact hQ _ _ _ _ dX11_act_181 w
      · have hf := if_t hf c33
        refine lv_iconst (v := (-1)) hx hb dX11_act_137 (by decide) ?_
        cases hf
        exact hQ _ _ _ _ dX11_act_138 w
    · have hf := if_f hf c31
      refine lv_iconst (v := (-1)) hx hb dX11_act_122 (by decide) ?_
      refine lv_goto (tgt := 130) hx hb dX11_act_123 (by decide) ?_
      refine kput (ty := .int) F B w inX11_act_11 tyX11 tyX11_ok nmX11 0 gM_0 rfl 23 (by decide) (hts (.fieldLink RX11 54 "LandReformModel" "fault" "I") (by decide +kernel)) rfl rfl (by decide +kernel) rfl rfl (Nat.le_of_ble_eq_true rfl) pM_23 dX11_act_130 (fun H locs w => ?_)
      obtain ⟨S41, eS41⟩ : ∃ z, z = sS S30 23 (-1) := ⟨_, rfl⟩
      rw [← eS41] at w
      have hf := lt_e hf eS41
      refine lv_iload_n hx hb dX11_act_133 rfl (lv_at hl 2 rfl) ?_
      refine lv_if_ne (tgt := 139) hx hb dX11_act_134 (by decide) (fun c42 => ?_) (fun c42 => ?_)
      · have hf := if_f hf c42
        refine lv_iconst (v := 0) hx hb dX11_act_139 (by decide) ?_
        refine lv_istore (lv' := [(4, .int 0), (0, .ref (ad 0)), (2, .int x28), (3, .int x29)]) hx hb dX11_act_140 hl (by decide) rfl (fun ls hl => ?_)
        refine wX11_act_L142 F B hQ (fun x43 S44 H locs ls w hl hf => ?_) n _ _ _ _ _ w (lv_sub hl [1, 2, 0] rfl) hf
        refine lv_aload_n hx hb dX11_act_172 rfl (lv_at hl 0 rfl) ?_
        refine lv_iload_n hx hb dX11_act_173 rfl (lv_at hl 1 rfl) ?_
        refine kput (ty := .int) F B w inX11_act_11 tyX11 tyX11_ok nmX11 0 gM_0 rfl 17 (by decide) (hts (.fieldLink RX11 206 "LandReformModel" "many" "I") (by decide +kernel)) rfl rfl (by decide +kernel) rfl rfl (Nat.le_of_ble_eq_true rfl) pM_17 dX11_act_174 (fun H locs w => ?_)
        obtain ⟨S45, eS45⟩ : ∃ z, z = sS S44 17 x28 := ⟨_, rfl⟩
        rw [← eS45] at w
        have hf := lt_e hf eS45
        refine lv_aload_n hx hb dX11_act_177 rfl (lv_at hl 0 rfl) ?_
        refine kget (v := .int (S45.1 17)) F B w inX11_act_11 0 gM_0 rfl 17 (by decide) (hts (.fieldLink RX11 206 "LandReformModel" "many" "I") (by decide +kernel)) rfl rfl dX11_act_178 ?_
        cases hf
        exact hQ _ _ _ _ dX11_act_181 w
      · have hf := if_t hf c42
        refine lv_iconst (v := (-1)) hx hb dX11_act_137 (by decide) ?_
        cases hf
        exact hQ _ _ _ _ dX11_act_138 w
  · have hf := if_t hf c2
    refine lv_bipush (v := (-2)) hx hb dX11_act_12 (by decide) ?_
    cases hf
    exact hQ _ _ _ _ dX11_act_14 w

def fX11_fault (S : St) : Option Int32 := some (S.1 23)
set_option maxRecDepth 20000 in
theorem inX11_fault_11 : ∀ w ∈ u_ws RX11 TX11 47, w ∈ wsX11_fault := by decide +kernel
set_option maxHeartbeats 4000000 in
set_option maxRecDepth 100000 in
theorem tX11_fault {l : Launch} {D : va_G} {cc : Nat → ClassId} {ak av : Nat → Nat} {ad : Nat → Nat} {E : va_W} {S : St} {r : Int32} (hf : fX11_fault S = some r) : CI l yX11_fault wsX11_fault ({ frames := 0, cells := 0, slots := 0, locals := 0 } : Room) D cc ak av [.ref (ad 0)] (WM cc ad S ++ E) (WM cc ad S ++ E) r := by
  refine mkI (c0 := cX11_fault) (nL := 1) (own := RX11) rfl rfl (by decide) rfl rfl (Nat.le_of_ble_eq_true rfl) ?_
  intro p e s m args below meth c A Q ls F B hQ hl w
  have hx := F.1
  have hb := F.2.1
  have hown := F.2.2.2.1
  have hts := F.2.2.2.2
  have hl : lv_has ls 1 [(0, .ref (ad 0))] := hl
  unfold fX11_fault at hf
  refine lv_aload_n hx hb dX11_fault_0 rfl (lv_at hl 0 rfl) ?_
  refine kget (v := .int (S.1 23)) F B w inX11_fault_11 0 gM_0 rfl 23 (by decide) (hts (.fieldLink RX11 54 "LandReformModel" "fault" "I") (by decide +kernel)) rfl rfl dX11_fault_1 ?_
  cases hf
  exact hQ _ _ _ _ dX11_fault_4 w

def fX11_standard (S : St) (x1 : Int32) : Option Int32 := if x1 < 0 ∨ 60 ≤ Int32.toNatClampNeg x1 then none else if x1 < 0 ∨ 60 ≤ Int32.toNatClampNeg x1 then none else if ((6 : Int32) + (S.2.1 10 (Int32.toNatClampNeg x1))) < 0 ∨ 40 ≤ Int32.toNatClampNeg ((6 : Int32) + (S.2.1 10 (Int32.toNatClampNeg x1))) then none else some (((S.2.1 9 (Int32.toNatClampNeg x1)) * (S.2.1 16 (Int32.toNatClampNeg ((6 : Int32) + (S.2.1 10 (Int32.toNatClampNeg x1)))))) / 10)
set_option maxRecDepth 20000 in
theorem inX11_standard_11 : ∀ w ∈ u_ws RX11 TX11 47, w ∈ wsX11_standard := by decide +kernel
set_option maxHeartbeats 4000000 in
set_option maxRecDepth 100000 in
theorem tX11_standard {l : Launch} {D : va_G} {cc : Nat → ClassId} {ak av : Nat → Nat} {ad : Nat → Nat} {E : va_W} {S : St} {x1 : Int32} {r : Int32} (hf : fX11_standard S x1 = some r) : CI l yX11_standard wsX11_standard ({ frames := 0, cells := 0, slots := 0, locals := 0 } : Room) D cc ak av [.ref (ad 0), .int x1] (WM cc ad S ++ E) (WM cc ad S ++ E) r := by
  refine mkI (c0 := cX11_standard) (nL := 2) (own := RX11) rfl rfl (by decide) rfl rfl (Nat.le_of_ble_eq_true rfl) ?_
  intro p e s m args below meth c A Q ls F B hQ hl w
  have hx := F.1
  have hb := F.2.1
  have hown := F.2.2.2.1
  have hts := F.2.2.2.2
  have hl : lv_has ls 2 [(0, .ref (ad 0)), (1, .int x1)] := hl
  unfold fX11_standard at hf
  refine lv_aload_n hx hb dX11_standard_0 rfl (lv_at hl 0 rfl) ?_
  refine kget (v := .ref (ad 5)) F B w inX11_standard_11 0 gM_0 rfl 9 (by decide) (hts (.fieldLink RX11 23 "LandReformModel" "area" "[I") (by decide +kernel)) rfl rfl dX11_standard_1 ?_
  refine lv_iload_n hx hb dX11_standard_4 rfl (lv_at hl 1 rfl) ?_
  obtain ⟨g1, hf⟩ := if_g hf
  refine kiald F B w 5 gM_5 g1 dX11_standard_5 ?_
  refine lv_aload_n hx hb dX11_standard_6 rfl (lv_at hl 0 rfl) ?_
  refine kget (v := .ref (ad 12)) F B w inX11_standard_11 0 gM_0 rfl 16 (by decide) (hts (.fieldLink RX11 44 "LandReformModel" "told" "[I") (by decide +kernel)) rfl rfl dX11_standard_7 ?_
  refine lv_bipush (v := 6) hx hb dX11_standard_10 (by decide) ?_
  refine lv_aload_n hx hb dX11_standard_12 rfl (lv_at hl 0 rfl) ?_
  refine kget (v := .ref (ad 6)) F B w inX11_standard_11 0 gM_0 rfl 10 (by decide) (hts (.fieldLink RX11 26 "LandReformModel" "soil" "[I") (by decide +kernel)) rfl rfl dX11_standard_13 ?_
  refine lv_iload_n hx hb dX11_standard_16 rfl (lv_at hl 1 rfl) ?_
  obtain ⟨g2, hf⟩ := if_g hf
  refine kiald F B w 6 gM_6 g2 dX11_standard_17 ?_
  refine lv_iadd hx hb dX11_standard_18 ?_
  obtain ⟨g3, hf⟩ := if_g hf
  refine kiald F B w 12 gM_12 g3 dX11_standard_19 ?_
  refine lv_imul hx hb dX11_standard_20 ?_
  refine lv_bipush (v := 10) hx hb dX11_standard_21 (by decide) ?_
  refine lv_idiv hx hb dX11_standard_23 (by decide) ?_
  cases hf
  exact hQ _ _ _ _ dX11_standard_24 w

def fX11_isExempt (S : St) (x1 : Int32) : Option Int32 := if x1 < 0 ∨ 60 ≤ Int32.toNatClampNeg x1 then none else if ((10 : Int32) + (S.2.1 11 (Int32.toNatClampNeg x1))) < 0 ∨ 40 ≤ Int32.toNatClampNeg ((10 : Int32) + (S.2.1 11 (Int32.toNatClampNeg x1))) then none else if (S.2.1 16 (Int32.toNatClampNeg ((10 : Int32) + (S.2.1 11 (Int32.toNatClampNeg x1))))) = 1 then (some 1) else (some 0)
set_option maxRecDepth 20000 in
theorem inX11_isExempt_11 : ∀ w ∈ u_ws RX11 TX11 47, w ∈ wsX11_isExempt := by decide +kernel
set_option maxHeartbeats 4000000 in
set_option maxRecDepth 100000 in
theorem tX11_isExempt {l : Launch} {D : va_G} {cc : Nat → ClassId} {ak av : Nat → Nat} {ad : Nat → Nat} {E : va_W} {S : St} {x1 : Int32} {r : Int32} (hf : fX11_isExempt S x1 = some r) : CI l yX11_isExempt wsX11_isExempt ({ frames := 0, cells := 0, slots := 0, locals := 0 } : Room) D cc ak av [.ref (ad 0), .int x1] (WM cc ad S ++ E) (WM cc ad S ++ E) r := by
  refine mkZ (c0 := cX11_isExempt) (nL := 2) (own := RX11) rfl rfl (by decide) rfl rfl (Nat.le_of_ble_eq_true rfl) ?_
  intro p e s m args below meth c A Q ls F B hQ hl w
  have hx := F.1
  have hb := F.2.1
  have hown := F.2.2.2.1
  have hts := F.2.2.2.2
  have hl : lv_has ls 2 [(0, .ref (ad 0)), (1, .int x1)] := hl
  unfold fX11_isExempt at hf
  refine lv_aload_n hx hb dX11_isExempt_0 rfl (lv_at hl 0 rfl) ?_
  refine kget (v := .ref (ad 12)) F B w inX11_isExempt_11 0 gM_0 rfl 16 (by decide) (hts (.fieldLink RX11 44 "LandReformModel" "told" "[I") (by decide +kernel)) rfl rfl dX11_isExempt_1 ?_
  refine lv_bipush (v := 10) hx hb dX11_isExempt_4 (by decide) ?_
  refine lv_aload_n hx hb dX11_isExempt_6 rfl (lv_at hl 0 rfl) ?_
  refine kget (v := .ref (ad 7)) F B w inX11_isExempt_11 0 gM_0 rfl 11 (by decide) (hts (.fieldLink RX11 29 "LandReformModel" "crop" "[I") (by decide +kernel)) rfl rfl dX11_isExempt_7 ?_
  refine lv_iload_n hx hb dX11_isExempt_10 rfl (lv_at hl 1 rfl) ?_
  obtain ⟨g1, hf⟩ := if_g hf
  refine kiald F B w 7 gM_7 g1 dX11_isExempt_11 ?_
  refine lv_iadd hx hb dX11_isExempt_12 ?_
  obtain ⟨g2, hf⟩ := if_g hf
  refine kiald F B w 12 gM_12 g2 dX11_isExempt_13 ?_
  refine lv_iconst (v := 1) hx hb dX11_isExempt_14 (by decide) ?_
  refine lv_icmp_ne (tgt := 22) hx hb dX11_isExempt_15 (by decide) (fun c3 => ?_) (fun c3 => ?_)
  · have hf := if_f hf c3
    refine lv_iconst (v := 0) hx hb dX11_isExempt_22 (by decide) ?_
    cases hf
    exact hQ _ _ _ _ dX11_isExempt_23 (by decide) w
  · have hf := if_t hf c3
    refine lv_iconst (v := 1) hx hb dX11_isExempt_18 (by decide) ?_
    refine lv_goto (tgt := 23) hx hb dX11_isExempt_19 (by decide) ?_
    cases hf
    exact hQ _ _ _ _ dX11_isExempt_23 (by decide) w

def fX11_counted_L14 (n : Nat) (x1 : Int32) (S : St) (k : Int32 → Int32 → Option Int32) : Nat → Int32 → Int32 → Option Int32
  | 0, _, _ => none
  | fu + 1, x2, x3 => if (S.1 3) ≤ x3 then (k x2 x3) else (if x3 < 0 ∨ 200 ≤ Int32.toNatClampNeg x3 then none else if (S.2.1 13 (Int32.toNatClampNeg x3)) = x1 then (if x3 < 0 ∨ 200 ≤ Int32.toNatClampNeg x3 then none else if (S.2.1 16 (Int32.toNatClampNeg 2)) < (S.2.1 15 (Int32.toNatClampNeg x3)) then (if x3 < 0 ∨ 200 ≤ Int32.toNatClampNeg x3 then none else lt_ (S.2.1 14 (Int32.toNatClampNeg x3)) fun v8 => if v8 < 0 ∨ 40 ≤ Int32.toNatClampNeg v8 then none else if x2 < 0 ∨ 40 ≤ Int32.toNatClampNeg x2 then none else if (S.2.1 5 (Int32.toNatClampNeg v8)) = (S.2.1 5 (Int32.toNatClampNeg x2)) then (fX11_counted_L14 n x1 S k fu x2 (x3 + 1)) else (if (((40 : Int32) * v8) + x2) < 0 ∨ 1600 ≤ Int32.toNatClampNeg (((40 : Int32) * v8) + x2) then none else if (S.2.1 7 (Int32.toNatClampNeg (((40 : Int32) * v8) + x2))) = 0 then (fX11_counted_L14 n x1 S k fu v8 (x3 + 1)) else (fX11_counted_L14 n x1 S k fu x2 (x3 + 1)))) else (fX11_counted_L14 n x1 S k fu x2 (x3 + 1))) else (fX11_counted_L14 n x1 S k fu x2 (x3 + 1)))
def fX11_counted (n : Nat) (S : St) (x1 : Int32) : Option Int32 := ob (fX11_ownerOn n S x1 (S.2.1 16 (Int32.toNatClampNeg 2))) fun r1 => fX11_counted_L14 n x1 S (fun x14 x15 => some x14) n r1 0
set_option maxRecDepth 20000 in
theorem inX11_counted_11 : ∀ w ∈ u_ws RX11 TX11 47, w ∈ wsX11_counted := by decide +kernel
set_option maxHeartbeats 4000000 in
set_option maxRecDepth 100000 in
theorem wX11_counted_L14 {p : Program} {l : Launch} {e : Env} {s : State} {m : MethodId} {args : Array Value} {below : List Frame} {meth : Method} {c : Code} {Q : State → Prop} {D : va_G} {cc : Nat → ClassId} {ak av : Nat → Nat} {A : Nat → Prop} {ad : Nat → Nat} {E : va_W} {n : Nat} {x1 : Int32} {S : St} {r : Int32} {k : Int32 → Int32 → Option Int32} (F : CallFix p m c cX11_counted 5 s args wsX11_counted RX11) (B : Bd D cc ak av A s) (hQ : RetI p l e ({ frames := 1, cells := 0, slots := 0, locals := 24 } : Room) s m args below meth c D A Q cX11_counted (WM cc ad S ++ E) r)
    (hk : ∀ (x2 : Int32) (x3 : Int32) (H : Heap) (locs : List Loc) (ls : Array Slot), Wd D A s.heap H locs (WM cc ad S ++ E) → lv_has ls 5 [(0, .ref (ad 0)), (1, .int x1), (2, .int x2), (3, .int x3)] → k x2 x3 = some r → W p l e ({ frames := 1, cells := 0, slots := 0, locals := 24 } : Room) s m args below meth c H locs 0 0 Q (F0 m 98 ls [])) :
    ∀ (fu : Nat) (x2 : Int32) (x3 : Int32) (H : Heap) (locs : List Loc) (ls : Array Slot), Wd D A s.heap H locs (WM cc ad S ++ E) → lv_has ls 5 [(0, .ref (ad 0)), (1, .int x1), (2, .int x2), (3, .int x3)] → fX11_counted_L14 n x1 S k fu x2 x3 = some r → W p l e ({ frames := 1, cells := 0, slots := 0, locals := 24 } : Room) s m args below meth c H locs 0 0 Q (F0 m 14 ls []) := by
  have hx := F.1
  have hb := F.2.1
  have hown := F.2.2.2.1
  have hts := F.2.2.2.2
  intro fu
  induction fu with
  | zero => intro x2 x3 H locs ls w hl hf; rw [fX11_counted_L14] at hf; cases hf
  | succ fu ih =>
    intro x2 x3 H locs ls w hl hf
    rw [fX11_counted_L14] at hf
    refine lv_iload_n hx hb dX11_counted_14 rfl (lv_at hl 3 rfl) ?_
    refine lv_aload_n hx hb dX11_counted_15 rfl (lv_at hl 0 rfl) ?_
    refine kget (v := .int (S.1 3)) F B w inX11_counted_11 0 gM_0 rfl 3 (by decide) (hts (.fieldLink RX11 133 "LandReformModel" "transfers" "I") (by decide +kernel)) rfl rfl dX11_counted_16 ?_
    refine lv_icmp_ge (tgt := 98) hx hb dX11_counted_19 (by decide) (fun c2 => ?_) (fun c2 => ?_)
    · have hf := if_t hf c2
      exact hk _ _ _ _ _ w (lv_sub hl [0, 1, 2, 3] rfl) hf
    · have hf := if_f hf c2
      refine lv_aload_n hx hb dX11_counted_22 rfl (lv_at hl 0 rfl) ?_
      refine kget (v := .ref (ad 9)) F B w inX11_counted_11 0 gM_0 rfl 13 (by decide) (hts (.fieldLink RX11 35 "LandReformModel" "transferred" "[I") (by decide +kernel)) rfl rfl dX11_counted_23 ?_
      refine lv_iload_n hx hb dX11_counted_26 rfl (lv_at hl 3 rfl) ?_
      obtain ⟨g3, hf⟩ := if_g hf
      refine kiald F B w 9 gM_9 g3 dX11_counted_27 ?_
      refine lv_iload_n hx hb dX11_counted_28 rfl (lv_at hl 1 rfl) ?_
      refine lv_icmp_ne (tgt := 92) hx hb dX11_counted_29 (by decide) (fun c4 => ?_) (fun c4 => ?_)
      · have hf := if_f hf c4
        refine lv_iinc (v := (x3 + 1)) (lv' := [(3, .int (x3 + 1)), (0, .ref (ad 0)), (1, .int x1), (2, .int x2)]) hx hb dX11_counted_92 hl (k := 3) rfl rfl (by decide) rfl (fun ls hl => ?_)
        refine lv_goto (tgt := 14) hx hb dX11_counted_95 (by decide) ?_
        exact ih _ _ _ _ _ w (lv_sub hl [1, 2, 3, 0] rfl) hf
      · have hf := if_t hf c4
        refine lv_aload_n hx hb dX11_counted_32 rfl (lv_at hl 0 rfl) ?_
        refine kget (v := .ref (ad 11)) F B w inX11_counted_11 0 gM_0 rfl 15 (by decide) (hts (.fieldLink RX11 41 "LandReformModel" "goesOn" "[I") (by decide +kernel)) rfl rfl dX11_counted_33 ?_
        refine lv_iload_n hx hb dX11_counted_36 rfl (lv_at hl 3 rfl) ?_
        obtain ⟨g5, hf⟩ := if_g hf
        refine kiald F B w 11 gM_11 g5 dX11_counted_37 ?_
        refine lv_aload_n hx hb dX11_counted_38 rfl (lv_at hl 0 rfl) ?_
        refine kget (v := .ref (ad 12)) F B w inX11_counted_11 0 gM_0 rfl 16 (by decide) (hts (.fieldLink RX11 44 "LandReformModel" "told" "[I") (by decide +kernel)) rfl rfl dX11_counted_39 ?_
        refine lv_iconst (v := 2) hx hb dX11_counted_42 (by decide) ?_
        refine kiald F B w 12 gM_12 (by decide) dX11_counted_43 ?_
        refine lv_icmp_gt (tgt := 50) hx hb dX11_counted_44 (by decide) (fun c6 => ?_) (fun c6 => ?_)
        · have hf := if_t hf c6
          refine lv_aload_n hx hb dX11_counted_50 rfl (lv_at hl 0 rfl) ?_
          refine kget (v := .ref (ad 10)) F B w inX11_counted_11 0 gM_0 rfl 14 (by decide) (hts (.fieldLink RX11 38 "LandReformModel" "goesTo" "[I") (by decide +kernel)) rfl rfl dX11_counted_51 ?_
          refine lv_iload_n hx hb dX11_counted_54 rfl (lv_at hl 3 rfl) ?_
          obtain ⟨g7, hf⟩ := if_g hf
          refine kiald F B w 10 gM_10 g7 dX11_counted_55 ?_
          refine lv_topi (fun v8 ev8 => ?_)
          have hf := lt_e hf ev8
          refine lv_istore (lv' := [(4, .int v8), (0, .ref (ad 0)), (1, .int x1), (2, .int x2), (3, .int x3)]) hx hb dX11_counted_56 hl (by decide) rfl (fun ls hl => ?_)
          refine lv_aload_n hx hb dX11_counted_58 rfl (lv_at hl 1 rfl) ?_
          refine kget (v := .ref (ad 1)) F B w inX11_counted_11 0 gM_0 rfl 5 (by decide) (hts (.fieldLink RX11 7 "LandReformModel" "house" "[I") (by decide +kernel)) rfl rfl dX11_counted_59 ?_
          refine lv_iload hx hb dX11_counted_62 (lv_at hl 0 rfl) ?_
          obtain ⟨g9, hf⟩ := if_g hf
          refine kiald F B w 1 gM_1 g9 dX11_counted_64 ?_
          refine lv_aload_n hx hb dX11_counted_65 rfl (lv_at hl 1 rfl) ?_
          refine kget (v := .ref (ad 1)) F B w inX11_counted_11 0 gM_0 rfl 5 (by decide) (hts (.fieldLink RX11 7 "LandReformModel" "house" "[I") (by decide +kernel)) rfl rfl dX11_counted_66 ?_
          refine lv_iload_n hx hb dX11_counted_69 rfl (lv_at hl 3 rfl) ?_
          obtain ⟨g10, hf⟩ := if_g hf
          refine kiald F B w 1 gM_1 g10 dX11_counted_70 ?_
          refine lv_icmp_eq (tgt := 92) hx hb dX11_counted_71 (by decide) (fun c11 => ?_) (fun c11 => ?_)
          · have hf := if_t hf c11
            refine lv_iinc (v := (x3 + 1)) (lv' := [(3, .int (x3 + 1)), (4, .int v8), (0, .ref (ad 0)), (1, .int x1), (2, .int x2)]) hx hb dX11_counted_92 hl (k := 4) rfl rfl (by decide) rfl (fun ls hl => ?_)
            refine lv_goto (tgt := 14) hx hb dX11_counted_95 (by decide) ?_
            exact ih _ _ _ _ _ w (lv_sub hl [2, 3, 4, 0] rfl) hf
          · have hf := if_f hf c11
            refine lv_aload_n hx hb dX11_counted_74 rfl (lv_at hl 1 rfl) ?_
            refine kget (v := .ref (ad 3)) F B w inX11_counted_11 0 gM_0 rfl 7 (by decide) (hts (.fieldLink RX11 16 "LandReformModel" "isAkin" "[Z") (by decide +kernel)) rfl rfl dX11_counted_75 ?_
            refine lv_bipush (v := 40) hx hb dX11_counted_78 (by decide) ?_
            refine lv_iload hx hb dX11_counted_80 (lv_at hl 0 rfl) ?_
            refine lv_imul hx hb dX11_counted_82 ?_
            refine lv_iload_n hx hb dX11_counted_83 rfl (lv_at hl 3 rfl) ?_
            refine lv_iadd hx hb dX11_counted_84 ?_
            obtain ⟨g12, hf⟩ := if_g hf
            refine kzald F B w 3 gM_3 g12 dX11_counted_85 ?_
            refine lv_if_ne (tgt := 92) hx hb dX11_counted_86 (by decide) (fun c13 => ?_) (fun c13 => ?_)
            · have hf := if_f hf c13
              refine lv_iinc (v := (x3 + 1)) (lv' := [(3, .int (x3 + 1)), (4, .int v8), (0, .ref (ad 0)), (1, .int x1), (2, .int x2)]) hx hb dX11_counted_92 hl (k := 4) rfl rfl (by decide) rfl (fun ls hl => ?_)
              refine lv_goto (tgt := 14) hx hb dX11_counted_95 (by decide) ?_
              exact ih _ _ _ _ _ w (lv_sub hl [2, 3, 4, 0] rfl) hf
            · have hf := if_t hf c13
              refine lv_iload hx hb dX11_counted_89 (lv_at hl 0 rfl) ?_
              refine lv_istore_n (lv' := [(2, .int v8), (4, .int v8), (0, .ref (ad 0)), (1, .int x1), (3, .int x3)]) hx hb dX11_counted_91 rfl hl (by decide) rfl (fun ls hl => ?_)
              refine lv_iinc (v := (x3 + 1)) (lv' := [(3, .int (x3 + 1)), (2, .int v8), (4, .int v8), (0, .ref (ad 0)), (1, .int x1)]) hx hb dX11_counted_92 hl (k := 4) rfl rfl (by decide) rfl (fun ls hl => ?_)
              refine lv_goto (tgt := 14) hx hb dX11_counted_95 (by decide) ?_
              exact ih _ _ _ _ _ w (lv_sub hl [3, 4, 1, 0] rfl) hf
        · have hf := if_f hf c6
          refine lv_goto (tgt := 92) hx hb dX11_counted_47 (by decide) ?_
          refine lv_iinc (v := (x3 + 1)) (lv' := [(3, .int (x3 + 1)), (0, .ref (ad 0)), (1, .int x1), (2, .int x2)]) hx hb dX11_counted_92 hl (k := 3) rfl rfl (by decide) rfl (fun ls hl => ?_)
          refine lv_goto (tgt := 14) hx hb dX11_counted_95 (by decide) ?_
          exact ih _ _ _ _ _ w (lv_sub hl [1, 2, 3, 0] rfl) hf
set_option maxHeartbeats 4000000 in
set_option maxRecDepth 100000 in
theorem tX11_counted {l : Launch} {D : va_G} {cc : Nat → ClassId} {ak av : Nat → Nat} {ad : Nat → Nat} {E : va_W} {n : Nat} {S : St} {x1 : Int32} {r : Int32} (hf : fX11_counted n S x1 = some r) : CI l yX11_counted wsX11_counted ({ frames := 1, cells := 0, slots := 0, locals := 24 } : Room) D cc ak av [.ref (ad 0), .int x1] (WM cc ad S ++ E) (WM cc ad S ++ E) r := by
  refine mkI (c0 := cX11_counted) (nL := 5) (own := RX11) rfl rfl (by decide) rfl rfl (Nat.le_of_ble_eq_true rfl) ?_
  intro p e s m args below meth c A Q ls F B hQ hl w
  have hx := F.1
  have hb := F.2.1
  have hown := F.2.2.2.1
  have hts := F.2.2.2.2
  have hl : lv_has ls 5 [(0, .ref (ad 0)), (1, .int x1)] := hl
  unfold fX11_counted at hf
  refine lv_aload_n hx hb dX11_counted_0 rfl (lv_at hl 0 rfl) ?_
  refine lv_iload_n hx hb dX11_counted_1 rfl (lv_at hl 1 rfl) ?_
  refine lv_aload_n hx hb dX11_counted_2 rfl (lv_at hl 0 rfl) ?_
  refine kget (v := .ref (ad 12)) F B w inX11_counted_11 0 gM_0 rfl 16 (by decide) (hts (.fieldLink RX11 44 "LandReformModel" "told" "[I") (by decide +kernel)) rfl rfl dX11_counted_3 ?_
  refine lv_iconst (v := 2) hx hb dX11_counted_6 (by decide) ?_
  refine kiald F B w 12 gM_12 (by decide) dX11_counted_7 ?_
  obtain ⟨r1, er1, hf⟩ := ob_e hf
  refine kVi (As := [.int x1, .int (S.2.1 16 (Int32.toNatClampNeg 2))]) (rest := []) F B w (tX11_ownerOn er1) (cwV 2 hts gX11_counted_X11_ownerOn rfl rfl rfl (by decide +kernel) ⟨Nat.le_of_ble_eq_true rfl, Nat.le_of_ble_eq_true rfl⟩) 0 gM_0 rfl rfl hl.1 rfl (Nat.le_of_ble_eq_true rfl) dX11_counted_8 ⟨Nat.le_of_ble_eq_true rfl, Nat.le_of_ble_eq_true rfl⟩ (fun H locs w => ?_)
  refine lv_istore_n (lv' := [(2, .int r1), (0, .ref (ad 0)), (1, .int x1)]) hx hb dX11_counted_11 rfl hl (by decide) rfl (fun ls hl => ?_)
  refine lv_iconst (v := 0) hx hb dX11_counted_12 (by decide) ?_
  refine lv_istore_n (lv' := [(3, .int 0), (2, .int r1), (0, .ref (ad 0)), (1, .int x1)]) hx hb dX11_counted_13 rfl hl (by decide) rfl (fun ls hl => ?_)
  refine wX11_counted_L14 F B hQ (fun x14 x15 H locs ls w hl hf => ?_) n _ _ _ _ _ w (lv_sub hl [2, 3, 1, 0] rfl) hf
  refine lv_iload_n hx hb dX11_counted_98 rfl (lv_at hl 2 rfl) ?_
  cases hf
  exact hQ _ _ _ _ dX11_counted_99 w

def fX11_transfersOf_L4 (n : Nat) (x1 : Int32) (S : St) (k : Int32 → Int32 → Option Int32) : Nat → Int32 → Int32 → Option Int32
  | 0, _, _ => none
  | fu + 1, x2, x3 => if (S.1 3) ≤ x3 then (k x2 x3) else (if x3 < 0 ∨ 200 ≤ Int32.toNatClampNeg x3 then none else if (S.2.1 13 (Int32.toNatClampNeg x3)) = x1 then (ob (fX11_one 1) fun r6 => lt_ (x2 + r6) fun v7 => fX11_transfersOf_L4 n x1 S k fu v7 (x3 + 1)) else (ob (fX11_one 0) fun r4 => lt_ (x2 + r4) fun v5 => fX11_transfersOf_L4 n x1 S k fu v5 (x3 + 1)))
def fX11_transfersOf (n : Nat) (S : St) (x1 : Int32) : Option Int32 := fX11_transfersOf_L4 n x1 S (fun x8 x9 => some x8) n 0 0
set_option maxRecDepth 20000 in
theorem inX11_transfersOf_11 : ∀ w ∈ u_ws RX11 TX11 47, w ∈ wsX11_transfersOf := by decide +kernel
set_option maxHeartbeats 4000000 in
set_option maxRecDepth 100000 in
theorem wX11_transfersOf_L4 {p : Program} {l : Launch} {e : Env} {s : State} {m : MethodId} {args : Array Value} {below : List Frame} {meth : Method} {c : Code} {Q : State → Prop} {D : va_G} {cc : Nat → ClassId} {ak av : Nat → Nat} {A : Nat → Prop} {ad : Nat → Nat} {E : va_W} {n : Nat} {x1 : Int32} {S : St} {r : Int32} {k : Int32 → Int32 → Option Int32} (F : CallFix p m c cX11_transfersOf 4 s args wsX11_transfersOf RX11) (B : Bd D cc ak av A s) (hQ : RetI p l e ({ frames := 1, cells := 0, slots := 0, locals := 20 } : Room) s m args below meth c D A Q cX11_transfersOf (WM cc ad S ++ E) r)
    (hk : ∀ (x2 : Int32) (x3 : Int32) (H : Heap) (locs : List Loc) (ls : Array Slot), Wd D A s.heap H locs (WM cc ad S ++ E) → lv_has ls 4 [(0, .ref (ad 0)), (1, .int x1), (2, .int x2), (3, .int x3)] → k x2 x3 = some r → W p l e ({ frames := 1, cells := 0, slots := 0, locals := 20 } : Room) s m args below meth c H locs 0 0 Q (F0 m 39 ls [])) :
    ∀ (fu : Nat) (x2 : Int32) (x3 : Int32) (H : Heap) (locs : List Loc) (ls : Array Slot), Wd D A s.heap H locs (WM cc ad S ++ E) → lv_has ls 4 [(0, .ref (ad 0)), (1, .int x1), (2, .int x2), (3, .int x3)] → fX11_transfersOf_L4 n x1 S k fu x2 x3 = some r → W p l e ({ frames := 1, cells := 0, slots := 0, locals := 20 } : Room) s m args below meth c H locs 0 0 Q (F0 m 4 ls []) := by
  have hx := F.1
  have hb := F.2.1
  have hown := F.2.2.2.1
  have hts := F.2.2.2.2
  intro fu
  induction fu with
  | zero => intro x2 x3 H locs ls w hl hf; rw [fX11_transfersOf_L4] at hf; cases hf
  | succ fu ih =>
    intro x2 x3 H locs ls w hl hf
    rw [fX11_transfersOf_L4] at hf
    refine lv_iload_n hx hb dX11_transfersOf_4 rfl (lv_at hl 3 rfl) ?_
    refine lv_aload_n hx hb dX11_transfersOf_5 rfl (lv_at hl 0 rfl) ?_
    refine kget (v := .int (S.1 3)) F B w inX11_transfersOf_11 0 gM_0 rfl 3 (by decide) (hts (.fieldLink RX11 133 "LandReformModel" "transfers" "I") (by decide +kernel)) rfl rfl dX11_transfersOf_6 ?_
    refine lv_icmp_ge (tgt := 39) hx hb dX11_transfersOf_9 (by decide) (fun c1 => ?_) (fun c1 => ?_)
    · have hf := if_t hf c1
      exact hk _ _ _ _ _ w (lv_sub hl [0, 1, 2, 3] rfl) hf
    · have hf := if_f hf c1
      refine lv_iload_n hx hb dX11_transfersOf_12 rfl (lv_at hl 2 rfl) ?_
      refine lv_aload_n hx hb dX11_transfersOf_13 rfl (lv_at hl 0 rfl) ?_
      refine kget (v := .ref (ad 9)) F B w inX11_transfersOf_11 0 gM_0 rfl 13 (by decide) (hts (.fieldLink RX11 35 "LandReformModel" "transferred" "[I") (by decide +kernel)) rfl rfl dX11_transfersOf_14 ?_
      refine lv_iload_n hx hb dX11_transfersOf_17 rfl (lv_at hl 3 rfl) ?_
      obtain ⟨g2, hf⟩ := if_g hf
      refine kiald F B w 9 gM_9 g2 dX11_transfersOf_18 ?_
      refine lv_iload_n hx hb dX11_transfersOf_19 rfl (lv_at hl 1 rfl) ?_
      refine lv_icmp_ne (tgt := 27) hx hb dX11_transfersOf_20 (by decide) (fun c3 => ?_) (fun c3 => ?_)
      · have hf := if_f hf c3
        refine lv_iconst (v := 0) hx hb dX11_transfersOf_27 (by decide) ?_
        obtain ⟨r4, er4, hf⟩ := ob_e hf
        refine kSi (As := [.int 0]) (rest := [.int x2]) F B w (tX11_one er4) (va_cwS 1 hts gX11_transfersOf_X11_one rfl rfl rfl (by decide +kernel) ⟨Nat.le_of_ble_eq_true rfl, Nat.le_of_ble_eq_true rfl⟩) rfl hl.1 rfl (Nat.le_of_ble_eq_true rfl) dX11_transfersOf_28 ⟨Nat.le_of_ble_eq_true rfl, Nat.le_of_ble_eq_true rfl⟩ (fun H locs w => ?_)
        refine lv_iadd hx hb dX11_transfersOf_31 ?_
        refine lv_topi (fun v5 ev5 => ?_)
        have hf := lt_e hf ev5
        refine lv_istore_n (lv' := [(2, .int v5), (0, .ref (ad 0)), (1, .int x1), (3, .int x3)]) hx hb dX11_transfersOf_32 rfl hl (by decide) rfl (fun ls hl => ?_)
        refine lv_iinc (v := (x3 + 1)) (lv' := [(3, .int (x3 + 1)), (2, .int v5), (0, .ref (ad 0)), (1, .int x1)]) hx hb dX11_transfersOf_33 hl (k := 3) rfl rfl (by decide) rfl (fun ls hl => ?_)
        refine lv_goto (tgt := 4) hx hb dX11_transfersOf_36 (by decide) ?_
        exact ih _ _ _ _ _ w (lv_sub hl [2, 3, 1, 0] rfl) hf
      · have hf := if_t hf c3
        refine lv_iconst (v := 1) hx hb dX11_transfersOf_23 (by decide) ?_
        refine lv_goto (tgt := 28) hx hb dX11_transfersOf_24 (by decide) ?_
        obtain ⟨r6, er6, hf⟩ := ob_e hf
        refine kSi (As := [.int 1]) (rest := [.int x2]) F B w (tX11_one er6) (va_cwS 1 hts gX11_transfersOf_X11_one rfl rfl rfl (by decide +kernel) ⟨Nat.le_of_ble_eq_true rfl, Nat.le_of_ble_eq_true rfl⟩) rfl hl.1 rfl (Nat.le_of_ble_eq_true rfl) dX11_transfersOf_28 ⟨Nat.le_of_ble_eq_true rfl, Nat.le_of_ble_eq_true rfl⟩ (fun H locs w => ?_)
        refine lv_iadd hx hb dX11_transfersOf_31 ?_
        refine lv_topi (fun v7 ev7 => ?_)
        have hf := lt_e hf ev7
        refine lv_istore_n (lv' := [(2, .int v7), (0, .ref (ad 0)), (1, .int x1), (3, .int x3)]) hx hb dX11_transfersOf_32 rfl hl (by decide) rfl (fun ls hl => ?_)
        refine lv_iinc (v := (x3 + 1)) (lv' := [(3, .int (x3 + 1)), (2, .int v7), (0, .ref (ad 0)), (1, .int x1)]) hx hb dX11_transfersOf_33 hl (k := 3) rfl rfl (by decide) rfl (fun ls hl => ?_)
        refine lv_goto (tgt := 4) hx hb dX11_transfersOf_36 (by decide) ?_
        exact ih _ _ _ _ _ w (lv_sub hl [2, 3, 1, 0] rfl) hf
set_option maxHeartbeats 4000000 in
set_option maxRecDepth 100000 in
theorem tX11_transfersOf {l : Launch} {D : va_G} {cc : Nat → ClassId} {ak av : Nat → Nat} {ad : Nat → Nat} {E : va_W} {n : Nat} {S : St} {x1 : Int32} {r : Int32} (hf : fX11_transfersOf n S x1 = some r) : CI l yX11_transfersOf wsX11_transfersOf ({ frames := 1, cells := 0, slots := 0, locals := 20 } : Room) D cc ak av [.ref (ad 0), .int x1] (WM cc ad S ++ E) (WM cc ad S ++ E) r := by
  refine mkI (c0 := cX11_transfersOf) (nL := 4) (own := RX11) rfl rfl (by decide) rfl rfl (Nat.le_of_ble_eq_true rfl) ?_
  intro p e s m args below meth c A Q ls F B hQ hl w
  have hx := F.1
  have hb := F.2.1
  have hown := F.2.2.2.1
  have hts := F.2.2.2.2
  have hl : lv_has ls 4 [(0, .ref (ad 0)), (1, .int x1)] := hl
  unfold fX11_transfersOf at hf
  refine lv_iconst (v := 0) hx hb dX11_transfersOf_0 (by decide) ?_
  refine lv_istore_n (lv' := [(2, .int 0), (0, .ref (ad 0)), (1, .int x1)]) hx hb dX11_transfersOf_1 rfl hl (by decide) rfl (fun ls hl => ?_)
  refine lv_iconst (v := 0) hx hb dX11_transfersOf_2 (by decide) ?_
  refine lv_istore_n (lv' := [(3, .int 0), (2, .int 0), (0, .ref (ad 0)), (1, .int x1)]) hx hb dX11_transfersOf_3 rfl hl (by decide) rfl (fun ls hl => ?_)
  refine wX11_transfersOf_L4 F B hQ (fun x8 x9 H locs ls w hl hf => ?_) n _ _ _ _ _ w (lv_sub hl [2, 3, 1, 0] rfl) hf
  refine lv_iload_n hx hb dX11_transfersOf_39 rfl (lv_at hl 2 rfl) ?_
  cases hf
  exact hQ _ _ _ _ dX11_transfersOf_40 w
