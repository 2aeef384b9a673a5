def fX11_given_L57 (n : Nat) (x1 : Int32) (x2 : Int32) (x3 : Int32) (x4 : Int32) (S : St) (k : Int32 → Int32 → Option (Int32 × St)) : Nat → Int32 → Int32 → Option (Int32 × St)
  | 0, _, _ => none
  | fu + 1, x5, x6 => if x3 ≤ x6 then (k x5 x6) else (lt_ (x5 * x3) fun v10 => fX11_given_L57 n x1 x2 x3 x4 S k fu v10 (x6 + 1))
def fX11_given_L103 (n : Nat) (x1 : Int32) (x2 : Int32) (x3 : Int32) (x4 : Int32) (x5 : Int32) (x6 : Int32) (x7 : Int32) (k : Int32 → Int32 → Int32 → Int32 → St → Option (Int32 × St)) : Nat → Int32 → Int32 → Int32 → Int32 → St → Option (Int32 × St)
  | 0, _, _, _, _, _ => none
  | fu + 1, x8, x9, x10, x11, S => if x11 < 0 then (k x8 x9 x10 x11 S) else (if x3 = 0 then none else if x11 < 0 ∨ 5 ≤ Int32.toNatClampNeg x11 then none else lt_ (sA S 33 (Int32.toNatClampNeg x11) (x2 + (x8 - x8 / x3 * x3))) fun S18 => if x3 = 0 then none else lt_ (x8 / x3) fun v20 => if x11 < 0 ∨ 5 ≤ Int32.toNatClampNeg x11 then none else lt_ (x9 ||| ((1 : Int32) <<< (((S18.2.1 33 (Int32.toNatClampNeg x11)) - x2) &&& 31))) fun v22 => if x11 < 0 ∨ 5 ≤ Int32.toNatClampNeg x11 then none else if (S18.2.1 33 (Int32.toNatClampNeg x11)) < 0 ∨ 40 ≤ Int32.toNatClampNeg (S18.2.1 33 (Int32.toNatClampNeg x11)) then none else if (x1 + x11) < 0 ∨ 60 ≤ Int32.toNatClampNeg (x1 + x11) then none else lt_ (x10 + (if (0 : Int32) ≤ ((S18.2.1 6 (Int32.toNatClampNeg (S18.2.1 33 (Int32.toNatClampNeg x11)))) - (S18.2.1 8 (Int32.toNatClampNeg (x1 + x11)))) then ((S18.2.1 6 (Int32.toNatClampNeg (S18.2.1 33 (Int32.toNatClampNeg x11)))) - (S18.2.1 8 (Int32.toNatClampNeg (x1 + x11)))) else 0 - ((S18.2.1 6 (Int32.toNatClampNeg (S18.2.1 33 (Int32.toNatClampNeg x11)))) - (S18.2.1 8 (Int32.toNatClampNeg (x1 + x11)))))) fun v26 => fX11_given_L103 n x1 x2 x3 x4 x5 x6 x7 k fu v20 v22 v26 (x11 + (-1)) S18)
def fX11_given_L212 (n : Nat) (x1 : Int32) (x2 : Int32) (x3 : Int32) (x4 : Int32) (x5 : Int32) (x6 : Int32) (x7 : Int32) (k : Int32 → St → Option (Int32 × St)) : Nat → Int32 → St → Option (Int32 × St)
  | 0, _, _ => none
  | fu + 1, x11, S => if x3 ≤ x11 then (k x11 S) else (if x11 < 0 ∨ 5 ≤ Int32.toNatClampNeg x11 then none else if x11 < 0 ∨ 5 ≤ Int32.toNatClampNeg x11 then none else lt_ (sA S 34 (Int32.toNatClampNeg x11) (S.2.1 33 (Int32.toNatClampNeg x11))) fun S37 => fX11_given_L212 n x1 x2 x3 x4 x5 x6 x7 k fu (x11 + 1) S37)
def fX11_given_L81 (n : Nat) (x1 : Int32) (x2 : Int32) (x3 : Int32) (x4 : Int32) (x5 : Int32) (k : Int32 → Int32 → St → Option (Int32 × St)) : Nat → Int32 → Int32 → St → Option (Int32 × St)
  | 0, _, _, _ => none
  | fu + 1, x6, x7, S => if x5 ≤ x7 then (k x6 x7 S) else (lt_ (x3 - 1) fun v14 => fX11_given_L103 n x1 x2 x3 x4 x5 x6 x7 (fun x27 x28 x29 x30 S31 => if x28 = (((1 : Int32) <<< (x3 &&& 31)) - 1) then (if x6 = (-1) then (fX11_given_L212 n x1 x2 x3 x4 x5 x29 x7 (fun x38 S39 => fX11_given_L81 n x1 x2 x3 x4 x5 k fu x29 (x7 + 1) S39) n 0 S31) else (if x29 < x6 then (fX11_given_L212 n x1 x2 x3 x4 x5 x29 x7 (fun x41 S42 => fX11_given_L81 n x1 x2 x3 x4 x5 k fu x29 (x7 + 1) S42) n 0 S31) else (fX11_given_L81 n x1 x2 x3 x4 x5 k fu x6 (x7 + 1) S31))) else (fX11_given_L81 n x1 x2 x3 x4 x5 k fu x6 (x7 + 1) S31)) n x7 0 0 v14 S)
def fX11_given (n : Nat) (S : St) (x1 : Int32) (x2 : Int32) (x3 : Int32) (x4 : Int32) : Option (Int32 × St) := ob (fX11_isIn x3 1 5) fun r1 => if r1 = 0 then (some ((-1), S)) else (ob (fX11_isIn x1 0 ((S.1 2) - x3)) fun r3 => if r3 = 0 then (some ((-1), S)) else (ob (fX11_isIn x2 0 ((S.1 1) - x3)) fun r5 => if r5 = 0 then (some ((-1), S)) else (ob (fX11_isIn x4 (-1) (x3 - 1)) fun r7 => if r7 = 0 then (some ((-1), S)) else (fX11_given_L57 n x1 x2 x3 x4 S (fun x11 x12 => fX11_given_L81 n x1 x2 x3 x4 x11 (fun x43 x44 S45 => if x4 = (-1) then (some (x43, S45)) else (if x4 < 0 ∨ 5 ≤ Int32.toNatClampNeg x4 then none else some ((S45.2.1 34 (Int32.toNatClampNeg x4)), S45))) n (-1) 0 S) n 1 0))))
set_option maxRecDepth 20000 in
theorem inX11_given_11 : ∀ w ∈ u_ws RX11 TX11 47, w ∈ wsX11_given := by decide +kernel
set_option maxHeartbeats 4000000 in
set_option maxRecDepth 100000 in
theorem wX11_given_L57 {p : Program} {l : Launch} {e : Env} {s : State} {m : MethodId} {args : Array Value} {below : List Frame} {meth : Method} {c : Code} {Q : State → Prop} {D : va_G} {cc : Nat → ClassId} {ak av : Nat → Nat} {A : Nat → Prop} {ad : Nat → Nat} {E : va_W} {n : Nat} {x1 : Int32} {x2 : Int32} {x3 : Int32} {x4 : Int32} {S : St} {r : Int32} {S' : St} {k : Int32 → Int32 → Option (Int32 × St)} (F : CallFix p m c cX11_given 12 s args wsX11_given RX11) (B : Bd D cc ak av A s) (hQ : RetI p l e ({ frames := 1, cells := 0, slots := 0, locals := 22 } : Room) s m args below meth c D A Q cX11_given (WM cc ad S' ++ E) r)
    (hk : ∀ (x5 : Int32) (x6 : Int32) (H : Heap) (locs : List Loc) (ls : Array Slot), Wd D A s.heap H locs (WM cc ad S ++ E) → lv_has ls 12 [(0, .ref (ad 0)), (1, .int x1), (2, .int x2), (3, .int x3), (4, .int x4), (5, .int x5), (6, .int x6)] → k x5 x6 = some (r, S') → W p l e ({ frames := 1, cells := 0, slots := 0, locals := 22 } : Room) s m args below meth c H locs 0 0 Q (F0 m 75 ls [])) :
    ∀ (fu : Nat) (x5 : Int32) (x6 : Int32) (H : Heap) (locs : List Loc) (ls : Array Slot), Wd D A s.heap H locs (WM cc ad S ++ E) → lv_has ls 12 [(0, .ref (ad 0)), (1, .int x1), (2, .int x2), (3, .int x3), (4, .int x4), (5, .int x5), (6, .int x6)] → fX11_given_L57 n x1 x2 x3 x4 S k fu x5 x6 = some (r, S') → W p l e ({ frames := 1, cells := 0, slots := 0, locals := 22 } : Room) s m args below meth c H locs 0 0 Q (F0 m 57 ls []) := by
  have hx := F.1
  have hb := F.2.1
  have hown := F.2.2.2.1
  have hts := F.2.2.2.2
  intro fu
  induction fu with
  | zero => intro x5 x6 H locs ls w hl hf; rw [fX11_given_L57] at hf; cases hf
  | succ fu ih =>
    intro x5 x6 H locs ls w hl hf
    rw [fX11_given_L57] at hf
    refine lv_iload hx hb dX11_given_57 (lv_at hl 6 rfl) ?_
    refine lv_iload_n hx hb dX11_given_59 rfl (lv_at hl 3 rfl) ?_
    refine lv_icmp_ge (tgt := 75) hx hb dX11_given_60 (by decide) (fun c9 => ?_) (fun c9 => ?_)
    · have hf := if_t hf c9
      exact hk _ _ _ _ _ w (lv_sub hl [0, 1, 2, 3, 4, 5, 6] rfl) hf
    · have hf := if_f hf c9
      refine lv_iload hx hb dX11_given_63 (lv_at hl 5 rfl) ?_
      refine lv_iload_n hx hb dX11_given_65 rfl (lv_at hl 3 rfl) ?_
      refine lv_imul hx hb dX11_given_66 ?_
      refine lv_topi (fun v10 ev10 => ?_)
      have hf := lt_e hf ev10
      refine lv_istore (lv' := [(5, .int v10), (0, .ref (ad 0)), (1, .int x1), (2, .int x2), (3, .int x3), (4, .int x4), (6, .int x6)]) hx hb dX11_given_67 hl (by decide) rfl (fun ls hl => ?_)
      refine lv_iinc (v := (x6 + 1)) (lv' := [(6, .int (x6 + 1)), (5, .int v10), (0, .ref (ad 0)), (1, .int x1), (2, .int x2), (3, .int x3), (4, .int x4)]) hx hb dX11_given_69 hl (k := 6) rfl rfl (by decide) rfl (fun ls hl => ?_)
      refine lv_goto (tgt := 57) hx hb dX11_given_72 (by decide) ?_
      exact ih _ _ _ _ _ w (lv_sub hl [2, 3, 4, 5, 6, 1, 0] rfl) hf
set_option maxHeartbeats 4000000 in
set_option maxRecDepth 100000 in
theorem wX11_given_L103 {p : Program} {l : Launch} {e : Env} {s : State} {m : MethodId} {args : Array Value} {below : List Frame} {meth : Method} {c : Code} {Q : State → Prop} {D : va_G} {cc : Nat → ClassId} {ak av : Nat → Nat} {A : Nat → Prop} {ad : Nat → Nat} {E : va_W} {n : Nat} {x1 : Int32} {x2 : Int32} {x3 : Int32} {x4 : Int32} {x5 : Int32} {x6 : Int32} {x7 : Int32} {r : Int32} {S' : St} {k : Int32 → Int32 → Int32 → Int32 → St → Option (Int32 × St)} (F : CallFix p m c cX11_given 12 s args wsX11_given RX11) (B : Bd D cc ak av A s) (hQ : RetI p l e ({ frames := 1, cells := 0, slots := 0, locals := 22 } : Room) s m args below meth c D A Q cX11_given (WM cc ad S' ++ E) r)
    (hk : ∀ (x8 : Int32) (x9 : Int32) (x10 : Int32) (x11 : Int32) (S : St) (H : Heap) (locs : List Loc) (ls : Array Slot), Wd D A s.heap H locs (WM cc ad S ++ E) → lv_has ls 12 [(0, .ref (ad 0)), (1, .int x1), (2, .int x2), (3, .int x3), (4, .int x4), (5, .int x5), (6, .int x6), (7, .int x7), (8, .int x8), (9, .int x9), (10, .int x10), (11, .int x11)] → k x8 x9 x10 x11 S = some (r, S') → W p l e ({ frames := 1, cells := 0, slots := 0, locals := 22 } : Room) s m args below meth c H locs 0 0 Q (F0 m 179 ls [])) :
    ∀ (fu : Nat) (x8 : Int32) (x9 : Int32) (x10 : Int32) (x11 : Int32) (S : St) (H : Heap) (locs : List Loc) (ls : Array Slot), Wd D A s.heap H locs (WM cc ad S ++ E) → lv_has ls 12 [(0, .ref (ad 0)), (1, .int x1), (2, .int x2), (3, .int x3), (4, .int x4), (5, .int x5), (6, .int x6), (7, .int x7), (8, .int x8), (9, .int x9), (10, .int x10), (11, .int x11)] → fX11_given_L103 n x1 x2 x3 x4 x5 x6 x7 k fu x8 x9 x10 x11 S = some (r, S') → W p l e ({ frames := 1, cells := 0, slots := 0, locals := 22 } : Room) s m args below meth c H locs 0 0 Q (F0 m 103 ls []) := by
  have hx := F.1
  have hb := F.2.1
  have hown := F.2.2.2.1
  have hts := F.2.2.2.2
  intro fu
  induction fu with
  | zero => intro x8 x9 x10 x11 S H locs ls w hl hf; rw [fX11_given_L103] at hf; cases hf
  | succ fu ih =>
    intro x8 x9 x10 x11 S H locs ls w hl hf
    rw [fX11_given_L103] at hf
    refine lv_iload hx hb dX11_given_103 (lv_at hl 11 rfl) ?_
    refine lv_if_lt (tgt := 179) hx hb dX11_given_105 (by decide) (fun c15 => ?_) (fun c15 => ?_)
    · have hf := if_t hf c15
      exact hk _ _ _ _ _ _ _ _ w (lv_sub hl [0, 1, 2, 3, 4, 5, 6, 7, 8, 9, 10, 11] rfl) hf
    · have hf := if_f hf c15
      refine lv_aload_n hx hb dX11_given_108 rfl (lv_at hl 0 rfl) ?_
      refine kget (v := .ref (ad 19)) F B w inX11_given_11 0 gM_0 rfl 33 (by decide) (hts (.fieldLink RX11 70 "LandReformModel" "way" "[I") (by decide +kernel)) rfl rfl dX11_given_109 ?_
      refine lv_iload hx hb dX11_given_112 (lv_at hl 11 rfl) ?_
      refine lv_iload_n hx hb dX11_given_114 rfl (lv_at hl 2 rfl) ?_
      refine lv_iload hx hb dX11_given_115 (lv_at hl 8 rfl) ?_
      refine lv_iload_n hx hb dX11_given_117 rfl (lv_at hl 3 rfl) ?_
      obtain ⟨g16, hf⟩ := if_g hf
      refine lv_irem hx hb dX11_given_118 g16 ?_
      refine lv_iadd hx hb dX11_given_119 ?_
      obtain ⟨g17, hf⟩ := if_g hf
      refine kiast F B w 19 gM_19 g17 bM_19 dX11_given_120 (fun H locs w => ?_)
      obtain ⟨S18, eS18⟩ : ∃ z, z = sA S 33 (Int32.toNatClampNeg x11) (x2 + (x8 - x8 / x3 * x3)) := ⟨_, rfl⟩
      rw [← eS18] at w
      have hf := lt_e hf eS18
      refine lv_iload hx hb dX11_given_121 (lv_at hl 8 rfl) ?_
      refine lv_iload_n hx hb dX11_given_123 rfl (lv_at hl 3 rfl) ?_
      obtain ⟨g19, hf⟩ := if_g hf
      refine lv_idiv hx hb dX11_given_124 g19 ?_
      refine lv_topi (fun v20 ev20 => ?_)
      have hf := lt_e hf ev20
      refine lv_istore (lv' := [(8, .int v20), (0, .ref (ad 0)), (1, .int x1), (2, .int x2), (3, .int x3), (4, .int x4), (5, .int x5), (6, .int x6), (7, .int x7), (9, .int x9), (10, .int x10), (11, .int x11)]) hx hb dX11_given_125 hl (by decide) rfl (fun ls hl => ?_)
      refine lv_iload hx hb dX11_given_127 (lv_at hl 9 rfl) ?_
      refine lv_iconst (v := 1) hx hb dX11_given_129 (by decide) ?_
      refine lv_aload_n hx hb dX11_given_130 rfl (lv_at hl 1 rfl) ?_
      refine kget (v := .ref (ad 19)) F B w inX11_given_11 0 gM_0 rfl 33 (by decide) (hts (.fieldLink RX11 70 "LandReformModel" "way" "[I") (by decide +kernel)) rfl rfl dX11_given_131 ?_
      refine lv_iload hx hb dX11_given_134 (lv_at hl 11 rfl) ?_
      obtain ⟨g21, hf⟩ := if_g hf
      refine kiald F B w 19 gM_19 g21 dX11_given_136 ?_
      refine lv_iload_n hx hb dX11_given_137 rfl (lv_at hl 3 rfl) ?_
      refine lv_isub hx hb dX11_given_138 ?_
      refine lv_ishl hx hb dX11_given_139 ?_
      refine lv_ior hx hb dX11_given_140 ?_
      refine lv_topi (fun v22 ev22 => ?_)
      have hf := lt_e hf ev22
      refine lv_istore (lv' := [(9, .int v22), (8, .int v20), (0, .ref (ad 0)), (1, .int x1), (2, .int x2), (3, .int x3), (4, .int x4), (5, .int x5), (6, .int x6), (7, .int x7), (10, .int x10), (11, .int x11)]) hx hb dX11_given_141 hl (by decide) rfl (fun ls hl => ?_)
      refine lv_iload hx hb dX11_given_143 (lv_at hl 10 rfl) ?_
      refine lv_aload_n hx hb dX11_given_145 rfl (lv_at hl 2 rfl) ?_
      refine kget (v := .ref (ad 2)) F B w inX11_given_11 0 gM_0 rfl 6 (by decide) (hts (.fieldLink RX11 13 "LandReformModel" "home" "[I") (by decide +kernel)) rfl rfl dX11_given_146 ?_
      refine lv_aload_n hx hb dX11_given_149 rfl (lv_at hl 2 rfl) ?_
      refine kget (v := .ref (ad 19)) F B w inX11_given_11 0 gM_0 rfl 33 (by decide) (hts (.fieldLink RX11 70 "LandReformModel" "way" "[I") (by decide +kernel)) rfl rfl dX11_given_150 ?_
      refine lv_iload hx hb dX11_given_153 (lv_at hl 11 rfl) ?_
      obtain ⟨g23, hf⟩ := if_g hf
      refine kiald F B w 19 gM_19 g23 dX11_given_155 ?_
      obtain ⟨g24, hf⟩ := if_g hf
      refine kiald F B w 2 gM_2 g24 dX11_given_156 ?_
      refine lv_aload_n hx hb dX11_given_157 rfl (lv_at hl 2 rfl) ?_
      refine kget (v := .ref (ad 4)) F B w inX11_given_11 0 gM_0 rfl 8 (by decide) (hts (.fieldLink RX11 20 "LandReformModel" "place" "[I") (by decide +kernel)) rfl rfl dX11_given_158 ?_
      refine lv_iload_n hx hb dX11_given_161 rfl (lv_at hl 3 rfl) ?_
      refine lv_iload hx hb dX11_given_162 (lv_at hl 11 rfl) ?_
      refine lv_iadd hx hb dX11_given_164 ?_
      obtain ⟨g25, hf⟩ := if_g hf
      refine kiald F B w 4 gM_4 g25 dX11_given_165 ?_
      refine lv_isub hx hb dX11_given_166 ?_
      refine va_mabs hx hb (by rw [hl.1]; exact F.2.2.1) hown (hts (.methodLink RX11 263 Lib.Math.abs.name) (by decide +kernel)) (hts (.static Lib.Math.abs.name) (by decide +kernel)) (hts (.initialized "java/lang/Math") (by decide +kernel)) (hts (.code Lib.Math.abs.name Lib.Math.abs.code 1 (some .int)) (by decide +kernel)) (Nat.le_of_ble_eq_true rfl) (Nat.le_of_ble_eq_true rfl) (Nat.le_of_ble_eq_true rfl) (Nat.le_of_ble_eq_true rfl) dX11_given_167 ?_
      refine lv_iadd hx hb dX11_given_170 ?_
      refine lv_topi (fun v26 ev26 => ?_)
      have hf := lt_e hf ev26
      refine lv_istore (lv' := [(10, .int v26), (9, .int v22), (8, .int v20), (0, .ref (ad 0)), (1, .int x1), (2, .int x2), (3, .int x3), (4, .int x4), (5, .int x5), (6, .int x6), (7, .int x7), (11, .int x11)]) hx hb dX11_given_171 hl (by decide) rfl (fun ls hl => ?_)
      refine lv_iinc (v := (x11 + (-1))) (lv' := [(11, .int (x11 + (-1))), (10, .int v26), (9, .int v22), (8, .int v20), (0, .ref (ad 0)), (1, .int x1), (2, .int x2), (3, .int x3), (4, .int x4), (5, .int x5), (6, .int x6), (7, .int x7)]) hx hb dX11_given_173 hl (k := 11) rfl rfl (by decide) rfl (fun ls hl => ?_)
      refine lv_goto (tgt := 103) hx hb dX11_given_176 (by decide) ?_
      exact ih _ _ _ _ _ _ _ _ w (lv_sub hl [4, 5, 6, 7, 8, 9, 10, 11, 3, 2, 1, 0] rfl) hf
set_option maxHeartbeats 4000000 in
set_option maxRecDepth 100000 in
theorem wX11_given_L212 {p : Program} {l : Launch} {e : Env} {s : State} {m : MethodId} {args : Array Value} {below : List Frame} {meth : Method} {c : Code} {Q : State → Prop} {D : va_G} {cc : Nat → ClassId} {ak av : Nat → Nat} {A : Nat → Prop} {ad : Nat → Nat} {E : va_W} {n : Nat} {x1 : Int32} {x2 : Int32} {x3 : Int32} {x4 : Int32} {x5 : Int32} {x6 : Int32} {x7 : Int32} {r : Int32} {S' : St} {k : Int32 → St → Option (Int32 × St)} (F : CallFix p m c cX11_given 12 s args wsX11_given RX11) (B : Bd D cc ak av A s) (hQ : RetI p l e ({ frames := 1, cells := 0, slots := 0, locals := 22 } : Room) s m args below meth c D A Q cX11_given (WM cc ad S' ++ E) r)
    (hk : ∀ (x11 : Int32) (S : St) (H : Heap) (locs : List Loc) (ls : Array Slot), Wd D A s.heap H locs (WM cc ad S ++ E) → lv_has ls 12 [(0, .ref (ad 0)), (1, .int x1), (2, .int x2), (3, .int x3), (4, .int x4), (5, .int x5), (6, .int x6), (7, .int x7), (11, .int x11)] → k x11 S = some (r, S') → W p l e ({ frames := 1, cells := 0, slots := 0, locals := 22 } : Room) s m args below meth c H locs 0 0 Q (F0 m 238 ls [])) :
    ∀ (fu : Nat) (x11 : Int32) (S : St) (H : Heap) (locs : List Loc) (ls : Array Slot), Wd D A s.heap H locs (WM cc ad S ++ E) → lv_has ls 12 [(0, .ref (ad 0)), (1, .int x1), (2, .int x2), (3, .int x3), (4, .int x4), (5, .int x5), (6, .int x6), (7, .int x7), (11, .int x11)] → fX11_given_L212 n x1 x2 x3 x4 x5 x6 x7 k fu x11 S = some (r, S') → W p l e ({ frames := 1, cells := 0, slots := 0, locals := 22 } : Room) s m args below meth c H locs 0 0 Q (F0 m 212 ls []) := by
  have hx := F.1
  have hb := F.2.1
  have hown := F.2.2.2.1
  have hts := F.2.2.2.2
  intro fu
  induction fu with
  | zero => intro x11 S H locs ls w hl hf; rw [fX11_given_L212] at hf; cases hf
  | succ fu ih =>
    intro x11 S H locs ls w hl hf
    rw [fX11_given_L212] at hf
    refine lv_iload hx hb dX11_given_212 (lv_at hl 8 rfl) ?_
    refine lv_iload_n hx hb dX11_given_214 rfl (lv_at hl 3 rfl) ?_
    refine lv_icmp_ge (tgt := 238) hx hb dX11_given_215 (by decide) (fun c34 => ?_) (fun c34 => ?_)
    · have hf := if_t hf c34
      exact hk _ _ _ _ _ w (lv_sub hl [0, 1, 2, 3, 4, 5, 6, 7, 8] rfl) hf
    · have hf := if_f hf c34
      refine lv_aload_n hx hb dX11_given_218 rfl (lv_at hl 0 rfl) ?_
      refine kget (v := .ref (ad 20)) F B w inX11_given_11 0 gM_0 rfl 34 (by decide) (hts (.fieldLink RX11 73 "LandReformModel" "bestWay" "[I") (by decide +kernel)) rfl rfl dX11_given_219 ?_
      refine lv_iload hx hb dX11_given_222 (lv_at hl 8 rfl) ?_
      refine lv_aload_n hx hb dX11_given_224 rfl (lv_at hl 0 rfl) ?_
      refine kget (v := .ref (ad 19)) F B w inX11_given_11 0 gM_0 rfl 33 (by decide) (hts (.fieldLink RX11 70 "LandReformModel" "way" "[I") (by decide +kernel)) rfl rfl dX11_given_225 ?_
      refine lv_iload hx hb dX11_given_228 (lv_at hl 8 rfl) ?_
      obtain ⟨g35, hf⟩ := if_g hf
      refine kiald F B w 19 gM_19 g35 dX11_given_230 ?_
      obtain ⟨g36, hf⟩ := if_g hf
      refine kiast F B w 20 gM_20 g36 bM_20 dX11_given_231 (fun H locs w => ?_)
      obtain ⟨S37, eS37⟩ : ∃ z, z = sA S 34 (Int32.toNatClampNeg x11) (S.2.1 33 (Int32.toNatClampNeg x11)) := ⟨_, rfl⟩
      rw [← eS37] at w
      have hf := lt_e hf eS37
      refine lv_iinc (v := (x11 + 1)) (lv' := [(11, .int (x11 + 1)), (0, .ref (ad 0)), (1, .int x1), (2, .int x2), (3, .int x3), (4, .int x4), (5, .int x5), (6, .int x6), (7, .int x7)]) hx hb dX11_given_232 hl (k := 8) rfl rfl (by decide) rfl (fun ls hl => ?_)
      refine lv_goto (tgt := 212) hx hb dX11_given_235 (by decide) ?_
      exact ih _ _ _ _ _ w (lv_sub hl [1, 2, 3, 4, 5, 6, 7, 8, 0] rfl) hf
set_option maxHeartbeats 4000000 in
set_option maxRecDepth 100000 in
theorem wX11_given_L81 {p : Program} {l : Launch} {e : Env} {s : State} {m : MethodId} {args : Array Value} {below : List Frame} {meth : Method} {c : Code} {Q : State → Prop} {D : va_G} {cc : Nat → ClassId} {ak av : Nat → Nat} {A : Nat → Prop} {ad : Nat → Nat} {E : va_W} {n : Nat} {x1 : Int32} {x2 : Int32} {x3 : Int32} {x4 : Int32} {x5 : Int32} {r : Int32} {S' : St} {k : Int32 → Int32 → St → Option (Int32 × St)} (F : CallFix p m c cX11_given 12 s args wsX11_given RX11) (B : Bd D cc ak av A s) (hQ : RetI p l e ({ frames := 1, cells := 0, slots := 0, locals := 22 } : Room) s m args below meth c D A Q cX11_given (WM cc ad S' ++ E) r)
    (hk : ∀ (x6 : Int32) (x7 : Int32) (S : St) (H : Heap) (locs : List Loc) (ls : Array Slot), Wd D A s.heap H locs (WM cc ad S ++ E) → lv_has ls 12 [(0, .ref (ad 0)), (1, .int x1), (2, .int x2), (3, .int x3), (4, .int x4), (5, .int x5), (6, .int x6), (7, .int x7)] → k x6 x7 S = some (r, S') → W p l e ({ frames := 1, cells := 0, slots := 0, locals := 22 } : Room) s m args below meth c H locs 0 0 Q (F0 m 244 ls [])) :
    ∀ (fu : Nat) (x6 : Int32) (x7 : Int32) (S : St) (H : Heap) (locs : List Loc) (ls : Array Slot), Wd D A s.heap H locs (WM cc ad S ++ E) → lv_has ls 12 [(0, .ref (ad 0)), (1, .int x1), (2, .int x2), (3, .int x3), (4, .int x4), (5, .int x5), (6, .int x6), (7, .int x7)] → fX11_given_L81 n x1 x2 x3 x4 x5 k fu x6 x7 S = some (r, S') → W p l e ({ frames := 1, cells := 0, slots := 0, locals := 22 } : Room) s m args below meth c H locs 0 0 Q (F0 m 81 ls []) := by
  have hx := F.1
  have hb := F.2.1
  have hown := F.2.2.2.1
  have hts := F.2.2.2.2
  intro fu
  induction fu with
  | zero => intro x6 x7 S H locs ls w hl hf; rw [fX11_given_L81] at hf; cases hf
  | succ fu ih =>
    intro x6 x7 S H locs ls w hl hf
    rw [fX11_given_L81] at hf
    refine lv_iload hx hb dX11_given_81 (lv_at hl 7 rfl) ?_
    refine lv_iload hx hb dX11_given_83 (lv_at hl 5 rfl) ?_
    refine lv_icmp_ge (tgt := 244) hx hb dX11_given_85 (by decide) (fun c13 => ?_) (fun c13 => ?_)
    · have hf := if_t hf c13
      exact hk _ _ _ _ _ _ w (lv_sub hl [0, 1, 2, 3, 4, 5, 6, 7] rfl) hf
    · have hf := if_f hf c13
      refine lv_iload hx hb dX11_given_88 (lv_at hl 7 rfl) ?_
      refine lv_istore (lv' := [(8, .int x7), (0, .ref (ad 0)), (1, .int x1), (2, .int x2), (3, .int x3), (4, .int x4), (5, .int x5), (6, .int x6), (7, .int x7)]) hx hb dX11_given_90 hl (by decide) rfl (fun ls hl => ?_)
      refine lv_iconst (v := 0) hx hb dX11_given_92 (by decide) ?_
      refine lv_istore (lv' := [(9, .int 0), (8, .int x7), (0, .ref (ad 0)), (1, .int x1), (2, .int x2), (3, .int x3), (4, .int x4), (5, .int x5), (6, .int x6), (7, .int x7)]) hx hb dX11_given_93 hl (by decide) rfl (fun ls hl => ?_)
      refine lv_iconst (v := 0) hx hb dX11_given_95 (by decide) ?_
      refine lv_istore (lv' := [(10, .int 0), (9, .int 0), (8, .int x7), (0, .ref (ad 0)), (1, .int x1), (2, .int x2), (3, .int x3), (4, .int x4), (5, .int x5), (6, .int x6), (7, .int x7)]) hx hb dX11_given_96 hl (by decide) rfl (fun ls hl => ?_)
      refine lv_iload_n hx hb dX11_given_98 rfl (lv_at hl 6 rfl) ?_
      refine lv_iconst (v := 1) hx hb dX11_given_99 (by decide) ?_
      refine lv_isub hx hb dX11_given_100 ?_
      refine lv_topi (fun v14 ev14 => ?_)
      have hf := lt_e hf ev14
      refine lv_istore (lv' := [(11, .int v14), (10, .int 0), (9, .int 0), (8, .int x7), (0, .ref (ad 0)), (1, .int x1), (2, .int x2), (3, .int x3), (4, .int x4), (5, .int x5), (6, .int x6), (7, .int x7)]) hx hb dX11_given_101 hl (by decide) rfl (fun ls hl => ?_)
      refine wX11_given_L103 F B hQ (fun x27 x28 x29 x30 S31 H locs ls w hl hf => ?_) n _ _ _ _ _ _ _ _ w (lv_sub hl [4, 5, 6, 7, 8, 9, 10, 11, 3, 2, 1, 0] rfl) hf
      refine lv_iload hx hb dX11_given_179 (lv_at hl 9 rfl) ?_
      refine lv_iconst (v := 1) hx hb dX11_given_181 (by decide) ?_
      refine lv_iload_n hx hb dX11_given_182 rfl (lv_at hl 3 rfl) ?_
      refine lv_ishl hx hb dX11_given_183 ?_
      refine lv_iconst (v := 1) hx hb dX11_given_184 (by decide) ?_
      refine lv_isub hx hb dX11_given_185 ?_
      refine lv_icmp_ne (tgt := 238) hx hb dX11_given_186 (by decide) (fun c32 => ?_) (fun c32 => ?_)
      · have hf := if_f hf c32
        refine lv_iinc (v := (x7 + 1)) (lv' := [(7, .int (x7 + 1)), (0, .ref (ad 0)), (1, .int x1), (2, .int x2), (3, .int x3), (4, .int x4), (5, .int x5), (6, .int x6), (8, .int x27), (9, .int x28), (10, .int x29), (11, .int x30)]) hx hb dX11_given_238 hl (k := 7) rfl rfl (by decide) rfl (fun ls hl => ?_)
        refine lv_goto (tgt := 81) hx hb dX11_given_241 (by decide) ?_
        exact ih _ _ _ _ _ _ w (lv_sub hl [1, 2, 3, 4, 5, 6, 7, 0] rfl) hf
      · have hf := if_t hf c32
        refine lv_iload hx hb dX11_given_189 (lv_at hl 6 rfl) ?_
        refine lv_iconst (v := (-1)) hx hb dX11_given_191 (by decide) ?_
        refine lv_icmp_eq (tgt := 205) hx hb dX11_given_192 (by decide) (fun c33 => ?_) (fun c33 => ?_)
        · have hf := if_t hf c33
          refine lv_iload hx hb dX11_given_205 (lv_at hl 10 rfl) ?_
          refine lv_istore (lv' := [(6, .int x29), (0, .ref (ad 0)), (1, .int x1), (2, .int x2), (3, .int x3), (4, .int x4), (5, .int x5), (7, .int x7), (8, .int x27), (9, .int x28), (10, .int x29), (11, .int x30)]) hx hb dX11_given_207 hl (by decide) rfl (fun ls hl => ?_)
          refine lv_iconst (v := 0) hx hb dX11_given_209 (by decide) ?_
          refine lv_istore (lv' := [(11, .int 0), (6, .int x29), (0, .ref (ad 0)), (1, .int x1), (2, .int x2), (3, .int x3), (4, .int x4), (5, .int x5), (7, .int x7), (8, .int x27), (9, .int x28), (10, .int x29)]) hx hb dX11_given_210 hl (by decide) rfl (fun ls hl => ?_)
          refine wX11_given_L212 F B hQ (fun x38 S39 H locs ls w hl hf => ?_) n _ _ _ _ _ w (lv_sub hl [2, 3, 4, 5, 6, 7, 1, 8, 0] rfl) hf
          refine lv_iinc (v := (x7 + 1)) (lv' := [(7, .int (x7 + 1)), (0, .ref (ad 0)), (1, .int x1), (2, .int x2), (3, .int x3), (4, .int x4), (5, .int x5), (6, .int x29), (11, .int x38)]) hx hb dX11_given_238 hl (k := 7) rfl rfl (by decide) rfl (fun ls hl => ?_)
          refine lv_goto (tgt := 81) hx hb dX11_given_241 (by decide) ?_
          exact ih _ _ _ _ _ _ w (lv_sub hl [1, 2, 3, 4, 5, 6, 7, 0] rfl) hf
        · have hf := if_f hf c33
          refine lv_iload hx hb dX11_given_195 (lv_at hl 10 rfl) ?_
          refine lv_iload hx hb dX11_given_197 (lv_at hl 6 rfl) ?_
          refine lv_icmp_lt (tgt := 205) hx hb dX11_given_199 (by decide) (fun c40 => ?_) (fun c40 => ?_)
          · have hf := if_t hf c40
            refine lv_iload hx hb dX11_given_205 (lv_at hl 10 rfl) ?_
            refine lv_istore (lv' := [(6, .int x29), (0, .ref (ad 0)), (1, .int x1), (2, .int x2), (3, .int x3), (4, .int x4), (5, .int x5), (7, .int x7), (8, .int x27), (9, .int x28), (10, .int x29), (11, .int x30)]) hx hb dX11_given_207 hl (by decide) rfl (fun ls hl => ?_)
            refine lv_iconst (v := 0) hx hb dX11_given_209 (by decide) ?_
            refine lv_istore (lv' := [(11, .int 0), (6, .int x29), (0, .ref (ad 0)), (1, .int x1), (2, .int x2), (3, .int x3), (4, .int x4), (5, .int x5), (7, .int x7), (8, .int x27), (9, .int x28), (10, .int x29)]) hx hb dX11_given_210 hl (by decide) rfl (fun ls hl => ?_)
            refine wX11_given_L212 F B hQ (fun x41 S42 H locs ls w hl hf => ?_) n _ _ _ _ _ w (lv_sub hl [2, 3, 4, 5, 6, 7, 1, 8, 0] rfl) hf
            refine lv_iinc (v := (x7 + 1)) (lv' := [(7, .int (x7 + 1)), (0, .ref (ad 0)), (1, .int x1), (2, .int x2), (3, .int x3), (4, .int x4), (5, .int x5), (6, .int x29), (11, .int x41)]) hx hb dX11_given_238 hl (k := 7) rfl rfl (by decide) rfl (fun ls hl => ?_)
            refine lv_goto (tgt := 81) hx hb dX11_given_241 (by decide) ?_
            exact ih _ _ _ _ _ _ w (lv_sub hl [1, 2, 3, 4, 5, 6, 7, 0] rfl) hf
          · have hf := if_f hf c40
            refine lv_goto (tgt := 238) hx hb dX11_given_202 (by decide) ?_
            refine lv_iinc (v := (x7 + 1)) (lv' := [(7, .int (x7 + 1)), (0, .ref (ad 0)), (1, .int x1), (2, .int x2), (3, .int x3), (4, .int x4), (5, .int x5), (6, .int x6), (8, .int x27), (9, .int x28), (10, .int x29), (11, .int x30)]) hx hb dX11_given_238 hl (k := 7) rfl rfl (by decide) rfl (fun ls hl => ?_)
            refine lv_goto (tgt := 81) hx hb dX11_given_241 (by decide) ?_
            exact ih _ _ _ _ _ _ w (lv_sub hl [1, 2, 3, 4, 5, 6, 7, 0] rfl) hf
set_option maxHeartbeats 4000000 in
set_option maxRecDepth 100000 in
theorem tX11_given {l : Launch} {D : va_G} {cc : Nat → ClassId} {ak av : Nat → Nat} {ad : Nat → Nat} {E : va_W} {n : Nat} {S : St} {x1 : Int32} {x2 : Int32} {x3 : Int32} {x4 : Int32} {r : Int32} {S' : St} (hf : fX11_given n S x1 x2 x3 x4 = some (r, S')) : CI l yX11_given wsX11_given ({ frames := 1, cells := 0, slots := 0, locals := 22 } : Room) D cc ak av [.ref (ad 0), .int x1, .int x2, .int x3, .int x4] (WM cc ad S ++ E) (WM cc ad S' ++ E) r := by
  refine mkI (c0 := cX11_given) (nL := 12) (own := RX11) rfl rfl (by decide) rfl rfl (Nat.le_of_ble_eq_true rfl) ?_
  intro p e s m args below meth c A Q ls F B hQ hl w
  have hx := F.1
  have hb := F.2.1
  have hown := F.2.2.2.1
  have hts := F.2.2.2.2
  have hl : lv_has ls 12 [(0, .ref (ad 0)), (1, .int x1), (2, .int x2), (3, .int x3), (4, .int x4)] := hl
  unfold fX11_given at hf
  refine lv_iload_n hx hb dX11_given_0 rfl (lv_at hl 3 rfl) ?_
  refine lv_iconst (v := 1) hx hb dX11_given_1 (by decide) ?_
  refine lv_iconst (v := 5) hx hb dX11_given_2 (by decide) ?_
  obtain ⟨r1, er1, hf⟩ := ob_e hf
  refine kSi (As := [.int x3, .int 1, .int 5]) (rest := []) F B w (tX11_isIn er1) (va_cwS 3 hts gX11_given_X11_isIn rfl rfl rfl (by decide +kernel) ⟨Nat.le_of_ble_eq_true rfl, Nat.le_of_ble_eq_true rfl⟩) rfl hl.1 rfl (Nat.le_of_ble_eq_true rfl) dX11_given_3 ⟨Nat.le_of_ble_eq_true rfl, Nat.le_of_ble_eq_true rfl⟩ (fun H locs w => ?_)
  refine lv_if_eq (tgt := 49) hx hb dX11_given_6 (by decide) (fun c2 => ?_) (fun c2 => ?_)
  · have hf := if_t hf c2
    refine lv_iconst (v := (-1)) hx hb dX11_given_49 (by decide) ?_
    cases hf
    exact hQ _ _ _ _ dX11_given_50 w
  · have hf := if_f hf c2
    refine lv_iload_n hx hb dX11_given_9 rfl (lv_at hl 1 rfl) ?_
    refine lv_iconst (v := 0) hx hb dX11_given_10 (by decide) ?_
    refine lv_aload_n hx hb dX11_given_11 rfl (lv_at hl 0 rfl) ?_
    refine kget (v := .int (S.1 2)) F B w inX11_given_11 0 gM_0 rfl 2 (by decide) (hts (.fieldLink RX11 120 "LandReformModel" "fields" "I") (by decide +kernel)) rfl rfl dX11_given_12 ?_
    refine lv_iload_n hx hb dX11_given_15 rfl (lv_at hl 3 rfl) ?_
    refine lv_isub hx hb dX11_given_16 ?_
    obtain ⟨r3, er3, hf⟩ := ob_e hf
    refine kSi (As := [.int x1, .int 0, .int ((S.1 2) - x3)]) (rest := []) F B w (tX11_isIn er3) (va_cwS 3 hts gX11_given_X11_isIn rfl rfl rfl (by decide +kernel) ⟨Nat.le_of_ble_eq_true rfl, Nat.le_of_ble_eq_true rfl⟩) rfl hl.1 rfl (Nat.le_of_ble_eq_true rfl) dX11_given_17 ⟨Nat.le_of_ble_eq_true rfl, Nat.le_of_ble_eq_true rfl⟩ (fun H locs w => ?_)
    refine lv_if_eq (tgt := 49) hx hb dX11_given_20 (by decide) (fun c4 => ?_) (fun c4 => ?_)
    · have hf := if_t hf c4
      refine lv_iconst (v := (-1)) hx hb dX11_given_49 (by decide) ?_
      cases hf
      exact hQ _ _ _ _ dX11_given_50 w
    · have hf := if_f hf c4
      refine lv_iload_n hx hb dX11_given_23 rfl (lv_at hl 2 rfl) ?_
      refine lv_iconst (v := 0) hx hb dX11_given_24 (by decide) ?_
      refine lv_aload_n hx hb dX11_given_25 rfl (lv_at hl 0 rfl) ?_
      refine kget (v := .int (S.1 1)) F B w inX11_given_11 0 gM_0 rfl 1 (by decide) (hts (.fieldLink RX11 113 "LandReformModel" "persons" "I") (by decide +kernel)) rfl rfl dX11_given_26 ?_
      refine lv_iload_n hx hb dX11_given_29 rfl (lv_at hl 3 rfl) ?_
      refine lv_isub hx hb dX11_given_30 ?_
      obtain ⟨r5, er5, hf⟩ := ob_e hf
      refine kSi (As := [.int x2, .int 0, .int ((S.1 1) - x3)]) (rest := []) F B w (tX11_isIn er5) (va_cwS 3 hts gX11_given_X11_isIn rfl rfl rfl (by decide +kernel) ⟨Nat.le_of_ble_eq_true rfl, Nat.le_of_ble_eq_true rfl⟩) rfl hl.1 rfl (Nat.le_of_ble_eq_true rfl) dX11_given_31 ⟨Nat.le_of_ble_eq_true rfl, Nat.le_of_ble_eq_true rfl⟩ (fun H locs w => ?_)
      refine lv_if_eq (tgt := 49) hx hb dX11_given_34 (by decide) (fun c6 => ?_) (fun c6 => ?_)
      · have hf := if_t hf c6
        refine lv_iconst (v := (-1)) hx hb dX11_given_49 (by decide) ?_
        cases hf
        exact hQ _ _ _ _ dX11_given_50 w
      · have hf := if_f hf c6
        refine lv_iload hx hb dX11_given_37 (lv_at hl 4 rfl) ?_
        refine lv_iconst (v := (-1)) hx hb dX11_given_39 (by decide) ?_
        refine lv_iload_n hx hb dX11_given_40 rfl (lv_at hl 3 rfl) ?_
        refine lv_iconst (v := 1) hx hb dX11_given_41 (by decide) ?_
        refine lv_isub hx hb dX11_given_42 ?_
        obtain ⟨r7, er7, hf⟩ := ob_e hf
        refine kSi (As := [.int x4, .int (-1), .int (x3 - 1)]) (rest := []) F B w (tX11_isIn er7) (va_cwS 3 hts gX11_given_X11_isIn rfl rfl rfl (by decide +kernel) ⟨Nat.le_of_ble_eq_true rfl, Nat.le_of_ble_eq_true rfl⟩) rfl hl.1 rfl (Nat.le_of_ble_eq_true rfl) dX11_given_43 ⟨Nat.le_of_ble_eq_true rfl, Nat.le_of_ble_eq_true rfl⟩ (fun H locs w => ?_)
        refine lv_if_ne (tgt := 51) hx hb dX11_given_46 (by decide) (fun c8 => ?_) (fun c8 => ?_)
        · have hf := if_f hf c8
          refine lv_iconst (v := 1) hx hb dX11_given_51 (by decide) ?_
          refine lv_istore (lv' := [(5, .int 1), (0, .ref (ad 0)), (1, .int x1), (2, .int x2), (3, .int x3), (4, .int x4)]) hx hb dX11_given_52 hl (by decide) rfl (fun ls hl => ?_)
          refine lv_iconst (v := 0) hx hb dX11_given_54 (by decide) ?_
          refine lv_istore (lv' := [(6, .int 0), (5, .int 1), (0, .ref (ad 0)), (1, .int x1), (2, .int x2), (3, .int x3), (4, .int x4)]) hx hb dX11_given_55 hl (by decide) rfl (fun ls hl => ?_)
          refine wX11_given_L57 F B hQ (fun x11 x12 H locs ls w hl hf => ?_) n _ _ _ _ _ w (lv_sub hl [2, 3, 4, 5, 6, 1, 0] rfl) hf
          refine lv_iconst (v := (-1)) hx hb dX11_given_75 (by decide) ?_
          refine lv_istore (lv' := [(6, .int (-1)), (0, .ref (ad 0)), (1, .int x1), (2, .int x2), (3, .int x3), (4, .int x4), (5, .int x11)]) hx hb dX11_given_76 hl (by decide) rfl (fun ls hl => ?_)
          refine lv_iconst (v := 0) hx hb dX11_given_78 (by decide) ?_
          refine lv_istore (lv' := [(7, .int 0), (6, .int (-1)), (0, .ref (ad 0)), (1, .int x1), (2, .int x2), (3, .int x3), (4, .int x4), (5, .int x11)]) hx hb dX11_given_79 hl (by decide) rfl (fun ls hl => ?_)
          refine wX11_given_L81 F B hQ (fun x43 x44 S45 H locs ls w hl hf => ?_) n _ _ _ _ _ _ w (lv_sub hl [2, 3, 4, 5, 6, 7, 1, 0] rfl) hf
          refine lv_iload hx hb dX11_given_244 (lv_at hl 4 rfl) ?_
          refine lv_iconst (v := (-1)) hx hb dX11_given_246 (by decide) ?_
          refine lv_icmp_ne (tgt := 255) hx hb dX11_given_247 (by decide) (fun c46 => ?_) (fun c46 => ?_)
          · have hf := if_f hf c46
            refine lv_aload_n hx hb dX11_given_255 rfl (lv_at hl 0 rfl) ?_
            refine kget (v := .ref (ad 20)) F B w inX11_given_11 0 gM_0 rfl 34 (by decide) (hts (.fieldLink RX11 73 "LandReformModel" "bestWay" "[I") (by decide +kernel)) rfl rfl dX11_given_256 ?_
            refine lv_iload hx hb dX11_given_259 (lv_at hl 4 rfl) ?_
            obtain ⟨g47, hf⟩ := if_g hf
            refine kiald F B w 20 gM_20 g47 dX11_given_261 ?_
            cases hf
            exact hQ _ _ _ _ dX11_given_262 w
          · have hf := if_t hf c46
            refine lv_iload hx hb dX11_given_250 (lv_at hl 6 rfl) ?_
            refine lv_goto (tgt := 262) hx hb dX11_given_252 (by decide) ?_
            cases hf
            exact hQ _ _ _ _ dX11_given_262 w
        · have hf := if_t hf c8
          refine lv_iconst (v := (-1)) hx hb dX11_given_49 (by decide) ?_
          cases hf
          exact hQ _ _ _ _ dX11_given_50 w

def fX11_firstOf_L2 (n : Nat) (x1 : Int32) (S : St) (k : Int32 → Option Int32) : Nat → Int32 → Option Int32
  | 0, _ => none
  | fu + 1, x2 => if (S.1 2) ≤ x2 then (k x2) else (ob (fX11_owner n S x2) fun r2 => if r2 = x1 then (some x2) else (fX11_firstOf_L2 n x1 S k fu (x2 + 1)))
def fX11_firstOf (n : Nat) (S : St) (x1 : Int32) : Option Int32 := fX11_firstOf_L2 n x1 S (fun x4 => some (-1)) n 0
set_option maxRecDepth 20000 in
theorem inX11_firstOf_11 : ∀ w ∈ u_ws RX11 TX11 47, w ∈ wsX11_firstOf := by decide +kernel
set_option maxHeartbeats 4000000 in
set_option maxRecDepth 100000 in
theorem wX11_firstOf_L2 {p : Program} {l : Launch} {e : Env} {s : State} {m : MethodId} {args : Array Value} {below : List Frame} {meth : Method} {c : Code} {Q : State → Prop} {D : va_G} {cc : Nat → ClassId} {ak av : Nat → Nat} {A : Nat → Prop} {ad : Nat → Nat} {E : va_W} {n : Nat} {x1 : Int32} {S : St} {r : Int32} {k : Int32 → Option Int32} (F : CallFix p m c cX11_firstOf 3 s args wsX11_firstOf RX11) (B : Bd D cc ak av A s) (hQ : RetI p l e ({ frames := 2, cells := 0, slots := 0, locals := 45 } : Room) s m args below meth c D A Q cX11_firstOf (WM cc ad S ++ E) r)
    (hk : ∀ (x2 : Int32) (H : Heap) (locs : List Loc) (ls : Array Slot), Wd D A s.heap H locs (WM cc ad S ++ E) → lv_has ls 3 [(0, .ref (ad 0)), (1, .int x1), (2, .int x2)] → k x2 = some r → W p l e ({ frames := 2, cells := 0, slots := 0, locals := 45 } : Room) s m args below meth c H locs 0 0 Q (F0 m 27 ls [])) :
    ∀ (fu : Nat) (x2 : Int32) (H : Heap) (locs : List Loc) (ls : Array Slot), Wd D A s.heap H locs (WM cc ad S ++ E) → lv_has ls 3 [(0, .ref (ad 0)), (1, .int x1), (2, .int x2)] → fX11_firstOf_L2 n x1 S k fu x2 = some r → W p l e ({ frames := 2, cells := 0, slots := 0, locals := 45 } : Room) s m args below meth c H locs 0 0 Q (F0 m 2 ls []) := by
  have hx := F.1
  have hb := F.2.1
  have hown := F.2.2.2.1
  have hts := F.2.2.2.2
  intro fu
  induction fu with
  | zero => intro x2 H locs ls w hl hf; rw [fX11_firstOf_L2] at hf; cases hf
  | succ fu ih =>
    intro x2 H locs ls w hl hf
    rw [fX11_firstOf_L2] at hf
    refine lv_iload_n hx hb dX11_firstOf_2 rfl (lv_at hl 2 rfl) ?_
    refine lv_aload_n hx hb dX11_firstOf_3 rfl (lv_at hl 0 rfl) ?_
    refine kget (v := .int (S.1 2)) F B w inX11_firstOf_11 0 gM_0 rfl 2 (by decide) (hts (.fieldLink RX11 120 "LandReformModel" "fields" "I") (by decide +kernel)) rfl rfl dX11_firstOf_4 ?_
    refine lv_icmp_ge (tgt := 27) hx hb dX11_firstOf_7 (by decide) (fun c1 => ?_) (fun c1 => ?_)
    · have hf := if_t hf c1
      exact hk _ _ _ _ w (lv_sub hl [0, 1, 2] rfl) hf
    · have hf := if_f hf c1
      refine lv_aload_n hx hb dX11_firstOf_10 rfl (lv_at hl 0 rfl) ?_
      refine lv_iload_n hx hb dX11_firstOf_11 rfl (lv_at hl 2 rfl) ?_
      obtain ⟨r2, er2, hf⟩ := ob_e hf
      refine kVi (As := [.int x2]) (rest := []) F B w (tX11_owner er2) (cwV 1 hts gX11_firstOf_X11_owner rfl rfl rfl (by decide +kernel) ⟨Nat.le_of_ble_eq_true rfl, Nat.le_of_ble_eq_true rfl⟩) 0 gM_0 rfl rfl hl.1 rfl (Nat.le_of_ble_eq_true rfl) dX11_firstOf_12 ⟨Nat.le_of_ble_eq_true rfl, Nat.le_of_ble_eq_true rfl⟩ (fun H locs w => ?_)
      refine lv_iload_n hx hb dX11_firstOf_15 rfl (lv_at hl 1 rfl) ?_
      refine lv_icmp_ne (tgt := 21) hx hb dX11_firstOf_16 (by decide) (fun c3 => ?_) (fun c3 => ?_)
      · have hf := if_f hf c3
        refine lv_iinc (v := (x2 + 1)) (lv' := [(2, .int (x2 + 1)), (0, .ref (ad 0)), (1, .int x1)]) hx hb dX11_firstOf_21 hl (k := 2) rfl rfl (by decide) rfl (fun ls hl => ?_)
        refine lv_goto (tgt := 2) hx hb dX11_firstOf_24 (by decide) ?_
        exact ih _ _ _ _ w (lv_sub hl [1, 2, 0] rfl) hf
      · have hf := if_t hf c3
        refine lv_iload_n hx hb dX11_firstOf_19 rfl (lv_at hl 2 rfl) ?_
        cases hf
        exact hQ _ _ _ _ dX11_firstOf_20 w
set_option maxHeartbeats 4000000 in
set_option maxRecDepth 100000 in
theorem tX11_firstOf {l : Launch} {D : va_G} {cc : Nat → ClassId} {ak av : Nat → Nat} {ad : Nat → Nat} {E : va_W} {n : Nat} {S : St} {x1 : Int32} {r : Int32} (hf : fX11_firstOf n S x1 = some r) : CI l yX11_firstOf wsX11_firstOf ({ frames := 2, cells := 0, slots := 0, locals := 45 } : Room) D cc ak av [.ref (ad 0), .int x1] (WM cc ad S ++ E) (WM cc ad S ++ E) r := by
  refine mkI (c0 := cX11_firstOf) (nL := 3) (own := RX11) rfl rfl (by decide) rfl rfl (Nat.le_of_ble_eq_true rfl) ?_
  intro p e s m args below meth c A Q ls F B hQ hl w
  have hx := F.1
  have hb := F.2.1
  have hown := F.2.2.2.1
  have hts := F.2.2.2.2
  have hl : lv_has ls 3 [(0, .ref (ad 0)), (1, .int x1)] := hl
  unfold fX11_firstOf at hf
  refine lv_iconst (v := 0) hx hb dX11_firstOf_0 (by decide) ?_
  refine lv_istore_n (lv' := [(2, .int 0), (0, .ref (ad 0)), (1, .int x1)]) hx hb dX11_firstOf_1 rfl hl (by decide) rfl (fun ls hl => ?_)
  refine wX11_firstOf_L2 F B hQ (fun x4 H locs ls w hl hf => ?_) n _ _ _ _ w (lv_sub hl [1, 2, 0] rfl) hf
  refine lv_iconst (v := (-1)) hx hb dX11_firstOf_27 (by decide) ?_
  cases hf
  exact hQ _ _ _ _ dX11_firstOf_28 w

def fX11_wanted_L5 (n : Nat) (x1 : Int32) (x2 : Int32) (S : St) (k : Int32 → Int32 → Option Int32) : Nat → Int32 → Int32 → Option Int32
  | 0, _, _ => none
  | fu + 1, x3, x4 => if x2 ≤ x4 then (k x3 x4) else (if x4 < 0 ∨ 8 ≤ Int32.toNatClampNeg x4 then none else if (S.2.1 36 (Int32.toNatClampNeg x4)) = (-1) then (if x3 = (-1) then (fX11_wanted_L5 n x1 x2 S k fu x4 (x4 + 1)) else (if x4 < 0 ∨ 8 ≤ Int32.toNatClampNeg x4 then none else if (S.2.1 35 (Int32.toNatClampNeg x4)) < 0 ∨ 60 ≤ Int32.toNatClampNeg (S.2.1 35 (Int32.toNatClampNeg x4)) then none else if x3 < 0 ∨ 8 ≤ Int32.toNatClampNeg x3 then none else if (S.2.1 35 (Int32.toNatClampNeg x3)) < 0 ∨ 60 ≤ Int32.toNatClampNeg (S.2.1 35 (Int32.toNatClampNeg x3)) then none else lt_ ((if (0 : Int32) ≤ ((S.2.1 8 (Int32.toNatClampNeg (S.2.1 35 (Int32.toNatClampNeg x4)))) - x1) then ((S.2.1 8 (Int32.toNatClampNeg (S.2.1 35 (Int32.toNatClampNeg x4)))) - x1) else 0 - ((S.2.1 8 (Int32.toNatClampNeg (S.2.1 35 (Int32.toNatClampNeg x4)))) - x1)) - (if (0 : Int32) ≤ ((S.2.1 8 (Int32.toNatClampNeg (S.2.1 35 (Int32.toNatClampNeg x3)))) - x1) then ((S.2.1 8 (Int32.toNatClampNeg (S.2.1 35 (Int32.toNatClampNeg x3)))) - x1) else 0 - ((S.2.1 8 (Int32.toNatClampNeg (S.2.1 35 (Int32.toNatClampNeg x3)))) - x1))) fun v9 => if v9 < 0 then (fX11_wanted_L5 n x1 x2 S k fu x4 (x4 + 1)) else (if v9 = 0 then (if x4 < 0 ∨ 8 ≤ Int32.toNatClampNeg x4 then none else if x3 < 0 ∨ 8 ≤ Int32.toNatClampNeg x3 then none else if (S.2.1 35 (Int32.toNatClampNeg x3)) ≤ (S.2.1 35 (Int32.toNatClampNeg x4)) then (fX11_wanted_L5 n x1 x2 S k fu x3 (x4 + 1)) else (fX11_wanted_L5 n x1 x2 S k fu x4 (x4 + 1))) else (fX11_wanted_L5 n x1 x2 S k fu x3 (x4 + 1))))) else (fX11_wanted_L5 n x1 x2 S k fu x3 (x4 + 1)))
def fX11_wanted (n : Nat) (S : St) (x1 : Int32) (x2 : Int32) : Option Int32 := fX11_wanted_L5 n x1 x2 S (fun x16 x17 => some x16) n (-1) 0
set_option maxRecDepth 20000 in
theorem inX11_wanted_11 : ∀ w ∈ u_ws RX11 TX11 47, w ∈ wsX11_wanted := by decide +kernel
set_option maxHeartbeats 4000000 in
set_option maxRecDepth 100000 in
theorem wX11_wanted_L5 {p : Program} {l : Launch} {e : Env} {s : State} {m : MethodId} {args : Array Value} {below : List Frame} {meth : Method} {c : Code} {Q : State → Prop} {D : va_G} {cc : Nat → ClassId} {ak av : Nat → Nat} {A : Nat → Prop} {ad : Nat → Nat} {E : va_W} {n : Nat} {x1 : Int32} {x2 : Int32} {S : St} {r : Int32} {k : Int32 → Int32 → Option Int32} (F : CallFix p m c cX11_wanted 6 s args wsX11_wanted RX11) (B : Bd D cc ak av A s) (hQ : RetI p l e ({ frames := 1, cells := 0, slots := 0, locals := 21 } : Room) s m args below meth c D A Q cX11_wanted (WM cc ad S ++ E) r)
    (hk : ∀ (x3 : Int32) (x4 : Int32) (H : Heap) (locs : List Loc) (ls : Array Slot), Wd D A s.heap H locs (WM cc ad S ++ E) → lv_has ls 6 [(0, .ref (ad 0)), (1, .int x1), (2, .int x2), (3, .int x3), (4, .int x4)] → k x3 x4 = some r → W p l e ({ frames := 1, cells := 0, slots := 0, locals := 21 } : Room) s m args below meth c H locs 0 0 Q (F0 m 105 ls [])) :
    ∀ (fu : Nat) (x3 : Int32) (x4 : Int32) (H : Heap) (locs : List Loc) (ls : Array Slot), Wd D A s.heap H locs (WM cc ad S ++ E) → lv_has ls 6 [(0, .ref (ad 0)), (1, .int x1), (2, .int x2), (3, .int x3), (4, .int x4)] → fX11_wanted_L5 n x1 x2 S k fu x3 x4 = some r → W p l e ({ frames := 1, cells := 0, slots := 0, locals := 21 } : Room) s m args below meth c H locs 0 0 Q (F0 m 5 ls []) := by
  have hx := F.1
  have hb := F.2.1
  have hown := F.2.2.2.1
  have hts := F.2.2.2.2
  intro fu
  induction fu with
  | zero => intro x3 x4 H locs ls w hl hf; rw [fX11_wanted_L5] at hf; cases hf
  | succ fu ih =>
    intro x3 x4 H locs ls w hl hf
    rw [fX11_wanted_L5] at hf
    refine lv_iload hx hb dX11_wanted_5 (lv_at hl 4 rfl) ?_
    refine lv_iload_n hx hb dX11_wanted_7 rfl (lv_at hl 2 rfl) ?_
    refine lv_icmp_ge (tgt := 105) hx hb dX11_wanted_8 (by decide) (fun c1 => ?_) (fun c1 => ?_)
    · have hf := if_t hf c1
      exact hk _ _ _ _ _ w (lv_sub hl [0, 1, 2, 3, 4] rfl) hf
    · have hf := if_f hf c1
      refine lv_aload_n hx hb dX11_wanted_11 rfl (lv_at hl 0 rfl) ?_
      refine kget (v := .ref (ad 22)) F B w inX11_wanted_11 0 gM_0 rfl 36 (by decide) (hts (.fieldLink RX11 79 "LandReformModel" "gets" "[I") (by decide +kernel)) rfl rfl dX11_wanted_12 ?_
      refine lv_iload hx hb dX11_wanted_15 (lv_at hl 4 rfl) ?_
      obtain ⟨g2, hf⟩ := if_g hf
      refine kiald F B w 22 gM_22 g2 dX11_wanted_17 ?_
      refine lv_iconst (v := (-1)) hx hb dX11_wanted_18 (by decide) ?_
      refine lv_icmp_eq (tgt := 25) hx hb dX11_wanted_19 (by decide) (fun c3 => ?_) (fun c3 => ?_)
      · have hf := if_t hf c3
        refine lv_iload_n hx hb dX11_wanted_25 rfl (lv_at hl 3 rfl) ?_
        refine lv_iconst (v := (-1)) hx hb dX11_wanted_26 (by decide) ?_
        refine lv_icmp_ne (tgt := 34) hx hb dX11_wanted_27 (by decide) (fun c4 => ?_) (fun c4 => ?_)
        · have hf := if_f hf c4
          refine lv_aload_n hx hb dX11_wanted_34 rfl (lv_at hl 0 rfl) ?_
          refine kget (v := .ref (ad 4)) F B w inX11_wanted_11 0 gM_0 rfl 8 (by decide) (hts (.fieldLink RX11 20 "LandReformModel" "place" "[I") (by decide +kernel)) rfl rfl dX11_wanted_35 ?_
          refine lv_aload_n hx hb dX11_wanted_38 rfl (lv_at hl 0 rfl) ?_
          refine kget (v := .ref (ad 21)) F B w inX11_wanted_11 0 gM_0 rfl 35 (by decide) (hts (.fieldLink RX11 76 "LandReformModel" "has" "[I") (by decide +kernel)) rfl rfl dX11_wanted_39 ?_
          refine lv_iload hx hb dX11_wanted_42 (lv_at hl 4 rfl) ?_
          obtain ⟨g5, hf⟩ := if_g hf
          refine kiald F B w 21 gM_21 g5 dX11_wanted_44 ?_
          obtain ⟨g6, hf⟩ := if_g hf
          refine kiald F B w 4 gM_4 g6 dX11_wanted_45 ?_
          refine lv_iload_n hx hb dX11_wanted_46 rfl (lv_at hl 1 rfl) ?_
          refine lv_isub hx hb dX11_wanted_47 ?_
          refine va_mabs hx hb (by rw [hl.1]; exact F.2.2.1) hown (hts (.methodLink RX11 263 Lib.Math.abs.name) (by decide +kernel)) (hts (.static Lib.Math.abs.name) (by decide +kernel)) (hts (.initialized "java/lang/Math") (by decide +kernel)) (hts (.code Lib.Math.abs.name Lib.Math.abs.code 1 (some .int)) (by decide +kernel)) (Nat.le_of_ble_eq_true rfl) (Nat.le_of_ble_eq_true rfl) (Nat.le_of_ble_eq_true rfl) (Nat.le_of_ble_eq_true rfl) dX11_wanted_48 ?_
          refine lv_aload_n hx hb dX11_wanted_51 rfl (lv_at hl 0 rfl) ?_
          refine kget (v := .ref (ad 4)) F B w inX11_wanted_11 0 gM_0 rfl 8 (by decide) (hts (.fieldLink RX11 20 "LandReformModel" "place" "[I") (by decide +kernel)) rfl rfl dX11_wanted_52 ?_
          refine lv_aload_n hx hb dX11_wanted_55 rfl (lv_at hl 0 rfl) ?_
          refine kget (v := .ref (ad 21)) F B w inX11_wanted_11 0 gM_0 rfl 35 (by decide) (hts (.fieldLink RX11 76 "LandReformModel" "has" "[I") (by decide +kernel)) rfl rfl dX11_wanted_56 ?_
          refine lv_iload_n hx hb dX11_wanted_59 rfl (lv_at hl 3 rfl) ?_
          obtain ⟨g7, hf⟩ := if_g hf
          refine kiald F B w 21 gM_21 g7 dX11_wanted_60 ?_
          obtain ⟨g8, hf⟩ := if_g hf
          refine kiald F B w 4 gM_4 g8 dX11_wanted_61 ?_
          refine lv_iload_n hx hb dX11_wanted_62 rfl (lv_at hl 1 rfl) ?_
          refine lv_isub hx hb dX11_wanted_63 ?_
          refine va_mabs hx hb (by rw [hl.1]; exact F.2.2.1) hown (hts (.methodLink RX11 263 Lib.Math.abs.name) (by decide +kernel)) (hts (.static Lib.Math.abs.name) (by decide +kernel)) (hts (.initialized "java/lang/Math") (by decide +kernel)) (hts (.code Lib.Math.abs.name Lib.Math.abs.code 1 (some .int)) (by decide +kernel)) (Nat.le_of_ble_eq_true rfl) (Nat.le_of_ble_eq_true rfl) (Nat.le_of_ble_eq_true rfl) (Nat.le_of_ble_eq_true rfl) dX11_wanted_64 ?_
          refine lv_isub hx hb dX11_wanted_67 ?_
          refine lv_topi (fun v9 ev9 => ?_)
          have hf := lt_e hf ev9
          refine lv_istore (lv' := [(5, .int v9), (0, .ref (ad 0)), (1, .int x1), (2, .int x2), (3, .int x3), (4, .int x4)]) hx hb dX11_wanted_68 hl (by decide) rfl (fun ls hl => ?_)
          refine lv_iload hx hb dX11_wanted_70 (lv_at hl 0 rfl) ?_
          refine lv_if_lt (tgt := 96) hx hb dX11_wanted_72 (by decide) (fun c10 => ?_) (fun c10 => ?_)
          · have hf := if_t hf c10
            refine lv_iload hx hb dX11_wanted_96 (lv_at hl 5 rfl) ?_
            refine lv_istore_n (lv' := [(3, .int x4), (5, .int v9), (0, .ref (ad 0)), (1, .int x1), (2, .int x2), (4, .int x4)]) hx hb dX11_wanted_98 rfl hl (by decide) rfl (fun ls hl => ?_)
            refine lv_iinc (v := (x4 + 1)) (lv' := [(4, .int (x4 + 1)), (3, .int x4), (5, .int v9), (0, .ref (ad 0)), (1, .int x1), (2, .int x2)]) hx hb dX11_wanted_99 hl (k := 5) rfl rfl (by decide) rfl (fun ls hl => ?_)
            refine lv_goto (tgt := 5) hx hb dX11_wanted_102 (by decide) ?_
            exact ih _ _ _ _ _ w (lv_sub hl [3, 4, 5, 1, 0] rfl) hf
          · have hf := if_f hf c10
            refine lv_iload hx hb dX11_wanted_75 (lv_at hl 0 rfl) ?_
            refine lv_if_ne (tgt := 99) hx hb dX11_wanted_77 (by decide) (fun c11 => ?_) (fun c11 => ?_)
            · have hf := if_f hf c11
              refine lv_iinc (v := (x4 + 1)) (lv' := [(4, .int (x4 + 1)), (5, .int v9), (0, .ref (ad 0)), (1, .int x1), (2, .int x2), (3, .int x3)]) hx hb dX11_wanted_99 hl (k := 5) rfl rfl (by decide) rfl (fun ls hl => ?_)
              refine lv_goto (tgt := 5) hx hb dX11_wanted_102 (by decide) ?_
              exact ih _ _ _ _ _ w (lv_sub hl [2, 3, 4, 5, 0] rfl) hf
            · have hf := if_t hf c11
              refine lv_aload_n hx hb dX11_wanted_80 rfl (lv_at hl 1 rfl) ?_
              refine kget (v := .ref (ad 21)) F B w inX11_wanted_11 0 gM_0 rfl 35 (by decide) (hts (.fieldLink RX11 76 "LandReformModel" "has" "[I") (by decide +kernel)) rfl rfl dX11_wanted_81 ?_
              refine lv_iload hx hb dX11_wanted_84 (lv_at hl 5 rfl) ?_
              obtain ⟨g12, hf⟩ := if_g hf
              refine kiald F B w 21 gM_21 g12 dX11_wanted_86 ?_
              refine lv_aload_n hx hb dX11_wanted_87 rfl (lv_at hl 1 rfl) ?_
              refine kget (v := .ref (ad 21)) F B w inX11_wanted_11 0 gM_0 rfl 35 (by decide) (hts (.fieldLink RX11 76 "LandReformModel" "has" "[I") (by decide +kernel)) rfl rfl dX11_wanted_88 ?_
              refine lv_iload_n hx hb dX11_wanted_91 rfl (lv_at hl 4 rfl) ?_
              obtain ⟨g13, hf⟩ := if_g hf
              refine kiald F B w 21 gM_21 g13 dX11_wanted_92 ?_
              refine lv_icmp_ge (tgt := 99) hx hb dX11_wanted_93 (by decide) (fun c14 => ?_) (fun c14 => ?_)
              · have hf := if_t hf c14
                refine lv_iinc (v := (x4 + 1)) (lv' := [(4, .int (x4 + 1)), (5, .int v9), (0, .ref (ad 0)), (1, .int x1), (2, .int x2), (3, .int x3)]) hx hb dX11_wanted_99 hl (k := 5) rfl rfl (by decide) rfl (fun ls hl => ?_)
                refine lv_goto (tgt := 5) hx hb dX11_wanted_102 (by decide) ?_
                exact ih _ _ _ _ _ w (lv_sub hl [2, 3, 4, 5, 0] rfl) hf
              · have hf := if_f hf c14
                refine lv_iload hx hb dX11_wanted_96 (lv_at hl 5 rfl) ?_
                refine lv_istore_n (lv' := [(3, .int x4), (5, .int v9), (0, .ref (ad 0)), (1, .int x1), (2, .int x2), (4, .int x4)]) hx hb dX11_wanted_98 rfl hl (by decide) rfl (fun ls hl => ?_)
                refine lv_iinc (v := (x4 + 1)) (lv' := [(4, .int (x4 + 1)), (3, .int x4), (5, .int v9), (0, .ref (ad 0)), (1, .int x1), (2, .int x2)]) hx hb dX11_wanted_99 hl (k := 5) rfl rfl (by decide) rfl (fun ls hl => ?_)
                refine lv_goto (tgt := 5) hx hb dX11_wanted_102 (by decide) ?_
                exact ih _ _ _ _ _ w (lv_sub hl [3, 4, 5, 1, 0] rfl) hf
        · have hf := if_t hf c4
          refine lv_iconst (v := (-1)) hx hb dX11_wanted_30 (by decide) ?_
          refine lv_goto (tgt := 68) hx hb dX11_wanted_31 (by decide) ?_
          refine lv_istore (lv' := [(5, .int (-1)), (0, .ref (ad 0)), (1, .int x1), (2, .int x2), (3, .int x3), (4, .int x4)]) hx hb dX11_wanted_68 hl (by decide) rfl (fun ls hl => ?_)
          refine lv_iload hx hb dX11_wanted_70 (lv_at hl 0 rfl) ?_
          refine lv_if_lt (tgt := 96) hx hb dX11_wanted_72 (by decide) (fun _ => ?_) (fun c => absurd (by decide) c)
          refine lv_iload hx hb dX11_wanted_96 (lv_at hl 5 rfl) ?_
          refine lv_istore_n (lv' := [(3, .int x4), (5, .int (-1)), (0, .ref (ad 0)), (1, .int x1), (2, .int x2), (4, .int x4)]) hx hb dX11_wanted_98 rfl hl (by decide) rfl (fun ls hl => ?_)
          refine lv_iinc (v := (x4 + 1)) (lv' := [(4, .int (x4 + 1)), (3, .int x4), (5, .int (-1)), (0, .ref (ad 0)), (1, .int x1), (2, .int x2)]) hx hb dX11_wanted_99 hl (k := 5) rfl rfl (by decide) rfl (fun ls hl => ?_)
          refine lv_goto (tgt := 5) hx hb dX11_wanted_102 (by decide) ?_
          exact ih _ _ _ _ _ w (lv_sub hl [3, 4, 5, 1, 0] rfl) hf
      · have hf := if_f hf c3
        refine lv_goto (tgt := 99) hx hb dX11_wanted_22 (by decide) ?_
        refine lv_iinc (v := (x4 + 1)) (lv' := [(4, .int (x4 + 1)), (0, .ref (ad 0)), (1, .int x1), (2, .int x2), (3, .int x3)]) hx hb dX11_wanted_99 hl (k := 4) rfl rfl (by decide) rfl (fun ls hl => ?_)
        refine lv_goto (tgt := 5) hx hb dX11_wanted_102 (by decide) ?_
        exact ih _ _ _ _ _ w (lv_sub hl [1, 2, 3, 4, 0] rfl) hf
set_option maxHeartbeats 4000000 in
set_option maxRecDepth 100000 in
theorem tX11_wanted {l : Launch} {D : va_G} {cc : Nat → ClassId} {ak av : Nat → Nat} {ad : Nat → Nat} {E : va_W} {n : Nat} {S : St} {x1 : Int32} {x2 : Int32} {r : Int32} (hf : fX11_wanted n S x1 x2 = some r) : CI l yX11_wanted wsX11_wanted ({ frames := 1, cells := 0, slots := 0, locals := 21 } : Room) D cc ak av [.ref (ad 0), .int x1, .int x2] (WM cc ad S ++ E) (WM cc ad S ++ E) r := by
  refine mkI (c0 := cX11_wanted) (nL := 6) (own := RX11) rfl rfl (by decide) rfl rfl (Nat.le_of_ble_eq_true rfl) ?_
  intro p e s m args below meth c A Q ls F B hQ hl w
  have hx := F.1
  have hb := F.2.1
  have hown := F.2.2.2.1
  have hts := F.2.2.2.2
  have hl : lv_has ls 6 [(0, .ref (ad 0)), (1, .int x1), (2, .int x2)] := hl
  unfold fX11_wanted at hf
  refine lv_iconst (v := (-1)) hx hb dX11_wanted_0 (by decide) ?_
  refine lv_istore_n (lv' := [(3, .int (-1)), (0, .ref (ad 0)), (1, .int x1), (2, .int x2)]) hx hb dX11_wanted_1 rfl hl (by decide) rfl (fun ls hl => ?_)
  refine lv_iconst (v := 0) hx hb dX11_wanted_2 (by decide) ?_
  refine lv_istore (lv' := [(4, .int 0), (3, .int (-1)), (0, .ref (ad 0)), (1, .int x1), (2, .int x2)]) hx hb dX11_wanted_3 hl (by decide) rfl (fun ls hl => ?_)
  refine wX11_wanted_L5 F B hQ (fun x16 x17 H locs ls w hl hf => ?_) n _ _ _ _ _ w (lv_sub hl [2, 3, 4, 1, 0] rfl) hf
  refine lv_iload_n hx hb dX11_wanted_105 rfl (lv_at hl 3 rfl) ?_
  cases hf
  exact hQ _ _ _ _ dX11_wanted_106 w
