def WQ (w0 : va_W) (q : Nat) (ad : Nat → Nat) (S : St) : va_W := w0.set q (ad 0, .inr (7, [.int (S.1 0), .int (S.1 1), .int (S.1 2), .int (S.1 3), .int (S.1 4), .int (S.1 5), .int (S.1 6), .int (S.1 7), .int (S.1 8)]))
theorem gQ_0 {w0 : va_W} {q : Nat} {ad : Nat → Nat} {S : St} (hq : q < w0.length) : (WQ w0 q ad S)[q]? = some (ad 0, .inr (7, [.int (S.1 0), .int (S.1 1), .int (S.1 2), .int (S.1 3), .int (S.1 4), .int (S.1 5), .int (S.1 6), .int (S.1 7), .int (S.1 8)])) := List.getElem?_set_self hq
theorem pQ_0 {w0 : va_W} {q : Nat} {ad : Nat → Nat} {S : St} {v : Int32} : (WQ w0 q ad S).set q (ad 0, .inr (7, ([.int (S.1 0), .int (S.1 1), .int (S.1 2), .int (S.1 3), .int (S.1 4), .int (S.1 5), .int (S.1 6), .int (S.1 7), .int (S.1 8)] : List Value).set 0 (.int v))) = WQ w0 q ad (sS S 0 v) := List.set_set _
theorem pQ_1 {w0 : va_W} {q : Nat} {ad : Nat → Nat} {S : St} {v : Int32} : (WQ w0 q ad S).set q (ad 0, .inr (7, ([.int (S.1 0), .int (S.1 1), .int (S.1 2), .int (S.1 3), .int (S.1 4), .int (S.1 5), .int (S.1 6), .int (S.1 7), .int (S.1 8)] : List Value).set 1 (.int v))) = WQ w0 q ad (sS S 1 v) := List.set_set _
theorem pQ_2 {w0 : va_W} {q : Nat} {ad : Nat → Nat} {S : St} {v : Int32} : (WQ w0 q ad S).set q (ad 0, .inr (7, ([.int (S.1 0), .int (S.1 1), .int (S.1 2), .int (S.1 3), .int (S.1 4), .int (S.1 5), .int (S.1 6), .int (S.1 7), .int (S.1 8)] : List Value).set 2 (.int v))) = WQ w0 q ad (sS S 2 v) := List.set_set _
theorem pQ_3 {w0 : va_W} {q : Nat} {ad : Nat → Nat} {S : St} {v : Int32} : (WQ w0 q ad S).set q (ad 0, .inr (7, ([.int (S.1 0), .int (S.1 1), .int (S.1 2), .int (S.1 3), .int (S.1 4), .int (S.1 5), .int (S.1 6), .int (S.1 7), .int (S.1 8)] : List Value).set 3 (.int v))) = WQ w0 q ad (sS S 3 v) := List.set_set _
theorem pQ_4 {w0 : va_W} {q : Nat} {ad : Nat → Nat} {S : St} {v : Int32} : (WQ w0 q ad S).set q (ad 0, .inr (7, ([.int (S.1 0), .int (S.1 1), .int (S.1 2), .int (S.1 3), .int (S.1 4), .int (S.1 5), .int (S.1 6), .int (S.1 7), .int (S.1 8)] : List Value).set 4 (.int v))) = WQ w0 q ad (sS S 4 v) := List.set_set _
theorem pQ_5 {w0 : va_W} {q : Nat} {ad : Nat → Nat} {S : St} {v : Int32} : (WQ w0 q ad S).set q (ad 0, .inr (7, ([.int (S.1 0), .int (S.1 1), .int (S.1 2), .int (S.1 3), .int (S.1 4), .int (S.1 5), .int (S.1 6), .int (S.1 7), .int (S.1 8)] : List Value).set 5 (.int v))) = WQ w0 q ad (sS S 5 v) := List.set_set _
theorem pQ_6 {w0 : va_W} {q : Nat} {ad : Nat → Nat} {S : St} {v : Int32} : (WQ w0 q ad S).set q (ad 0, .inr (7, ([.int (S.1 0), .int (S.1 1), .int (S.1 2), .int (S.1 3), .int (S.1 4), .int (S.1 5), .int (S.1 6), .int (S.1 7), .int (S.1 8)] : List Value).set 6 (.int v))) = WQ w0 q ad (sS S 6 v) := List.set_set _
theorem pQ_7 {w0 : va_W} {q : Nat} {ad : Nat → Nat} {S : St} {v : Int32} : (WQ w0 q ad S).set q (ad 0, .inr (7, ([.int (S.1 0), .int (S.1 1), .int (S.1 2), .int (S.1 3), .int (S.1 4), .int (S.1 5), .int (S.1 6), .int (S.1 7), .int (S.1 8)] : List Value).set 7 (.int v))) = WQ w0 q ad (sS S 7 v) := List.set_set _
theorem pQ_8 {w0 : va_W} {q : Nat} {ad : Nat → Nat} {S : St} {v : Int32} : (WQ w0 q ad S).set q (ad 0, .inr (7, ([.int (S.1 0), .int (S.1 1), .int (S.1 2), .int (S.1 3), .int (S.1 4), .int (S.1 5), .int (S.1 6), .int (S.1 7), .int (S.1 8)] : List Value).set 8 (.int v))) = WQ w0 q ad (sS S 8 v) := List.set_set _
def fX7_pass (S : St) (x1 : Int32) : Option (Int32 × St) := if (S.1 6) = 0 then (some ((-1), S)) else (if (S.1 7) = 0 then (lt_ (sS S 7 ((S.1 7) - 1)) fun S11 => if x1 = 0 then (lt_ (sS S11 8 ((S11.1 8) + 1)) fun S17 => lt_ (sS S17 7 ((S17.1 6) - 1)) fun S19 => some (0, S19)) else (lt_ (S11.1 4) fun v14 => lt_ (sS S11 6 ((S11.1 6) - 1)) fun S15 => lt_ (sS S15 5 ((S15.1 5) + v14)) fun S16 => some (v14, S16))) else (lt_ (sS S 7 ((S.1 7) - 1)) fun S3 => if x1 = 0 then (lt_ (sS S3 8 ((S3.1 8) + 1)) fun S9 => some (0, S9)) else (lt_ (S3.1 3) fun v6 => lt_ (sS S3 6 ((S3.1 6) - 1)) fun S7 => lt_ (sS S7 5 ((S7.1 5) + v6)) fun S8 => some (v6, S8))))
set_option maxRecDepth 20000 in
theorem inX7_pass_7 : ∀ w ∈ u_ws RX7 TX7 9, w ∈ wsX7_pass := by decide +kernel
set_option maxHeartbeats 4000000 in
set_option maxRecDepth 100000 in
theorem tX7_pass {l : Launch} {D : va_G} {cc : Nat → ClassId} {ak av : Nat → Nat} {ad : Nat → Nat} {w0 : va_W} {q : Nat} (hq : q < w0.length) {S : St} {x1 : Int32} {r : Int32} {S' : St} (hf : fX7_pass S x1 = some (r, S')) : CI l yX7_pass wsX7_pass ({ frames := 0, cells := 0, slots := 0, locals := 0 } : Room) D cc ak av [.ref (ad 0), .int x1] (WQ w0 q ad S) (WQ w0 q ad S') r := by
  refine mkI (c0 := cX7_pass) (nL := 4) (own := RX7) rfl rfl (by decide) rfl rfl (Nat.le_of_ble_eq_true rfl) ?_
  intro p e s m args below meth c A Q ls F B hQ hl w
  have hx := F.1
  have hb := F.2.1
  have hown := F.2.2.2.1
  have hts := F.2.2.2.2
  have hl : lv_has ls 4 [(0, .ref (ad 0)), (1, .int x1)] := hl
  unfold fX7_pass at hf
  refine lv_aload_n hx hb dX7_pass_0 rfl (lv_at hl 0 rfl) ?_
  refine kget (v := .int (S.1 6)) F B w inX7_pass_7 q (gQ_0 hq) rfl 6 (by decide) (hts (.fieldLink RX7 27 "LandReform$Sale" "partsLeft" "I") (by decide +kernel)) rfl rfl dX7_pass_1 ?_
  refine lv_if_ne (tgt := 9) hx hb dX7_pass_4 (by decide) (fun c1 => ?_) (fun c1 => ?_)
  · have hf := if_f hf c1
    refine lv_aload_n hx hb dX7_pass_9 rfl (lv_at hl 0 rfl) ?_
    refine kget (v := .int (S.1 7)) F B w inX7_pass_7 q (gQ_0 hq) rfl 7 (by decide) (hts (.fieldLink RX7 30 "LandReform$Sale" "partsBeforeRest" "I") (by decide +kernel)) rfl rfl dX7_pass_10 ?_
    refine lv_if_ne (tgt := 20) hx hb dX7_pass_13 (by decide) (fun c2 => ?_) (fun c2 => ?_)
    · have hf := if_f hf c2
      refine lv_iconst (v := 0) hx hb dX7_pass_20 (by decide) ?_
      refine lv_istore_n (lv' := [(2, .int 0), (0, .ref (ad 0)), (1, .int x1)]) hx hb dX7_pass_21 rfl hl (by decide) rfl (fun ls hl => ?_)
      refine lv_aload_n hx hb dX7_pass_22 rfl (lv_at hl 1 rfl) ?_
      refine lv_dup hx hb dX7_pass_23 rfl ?_
      refine kget (v := .int (S.1 7)) F B w inX7_pass_7 q (gQ_0 hq) rfl 7 (by decide) (hts (.fieldLink RX7 30 "LandReform$Sale" "partsBeforeRest" "I") (by decide +kernel)) rfl rfl dX7_pass_24 ?_
      refine lv_iconst (v := 1) hx hb dX7_pass_27 (by decide) ?_
      refine lv_isub hx hb dX7_pass_28 ?_
      refine kput (ty := .int) F B w inX7_pass_7 tyX7 tyX7_ok nmX7 q (gQ_0 hq) rfl 7 (by decide) (hts (.fieldLink RX7 30 "LandReform$Sale" "partsBeforeRest" "I") (by decide +kernel)) rfl rfl (by decide +kernel) rfl rfl (Nat.le_of_ble_eq_true rfl) pQ_7 dX7_pass_29 (fun H locs w => ?_)
      obtain ⟨S3, eS3⟩ : ∃ z, z = sS S 7 ((S.1 7) - 1) := ⟨_, rfl⟩
      rw [← eS3] at w
      have hf := lt_e hf eS3
      refine lv_iload_n hx hb dX7_pass_32 rfl (lv_at hl 2 rfl) ?_
      refine lv_if_ne (tgt := 62) hx hb dX7_pass_33 (by decide) (fun c4 => ?_) (fun c4 => ?_)
      · have hf := if_f hf c4
        refine lv_iload_n hx hb dX7_pass_62 rfl (lv_at hl 0 rfl) ?_
        refine lv_if_eq (tgt := 73) hx hb dX7_pass_63 (by decide) (fun _ => ?_) (fun c => absurd (by decide) c)
        refine lv_aload_n hx hb dX7_pass_73 rfl (lv_at hl 1 rfl) ?_
        refine kget (v := .int (S3.1 3)) F B w inX7_pass_7 q (gQ_0 hq) rfl 3 (by decide) (hts (.fieldLink RX7 33 "LandReform$Sale" "part" "I") (by decide +kernel)) rfl rfl dX7_pass_74 ?_
        refine lv_topi (fun v6 ev6 => ?_)
        have hf := lt_e hf ev6
        refine lv_istore_n (lv' := [(3, .int v6), (2, .int 0), (0, .ref (ad 0)), (1, .int x1)]) hx hb dX7_pass_77 rfl hl (by decide) rfl (fun ls hl => ?_)
        refine lv_aload_n hx hb dX7_pass_78 rfl (lv_at hl 2 rfl) ?_
        refine lv_dup hx hb dX7_pass_79 rfl ?_
        refine kget (v := .int (S3.1 6)) F B w inX7_pass_7 q (gQ_0 hq) rfl 6 (by decide) (hts (.fieldLink RX7 27 "LandReform$Sale" "partsLeft" "I") (by decide +kernel)) rfl rfl dX7_pass_80 ?_
        refine lv_iconst (v := 1) hx hb dX7_pass_83 (by decide) ?_
        refine lv_isub hx hb dX7_pass_84 ?_
        refine kput (ty := .int) F B w inX7_pass_7 tyX7 tyX7_ok nmX7 q (gQ_0 hq) rfl 6 (by decide) (hts (.fieldLink RX7 27 "LandReform$Sale" "partsLeft" "I") (by decide +kernel)) rfl rfl (by decide +kernel) rfl rfl (Nat.le_of_ble_eq_true rfl) pQ_6 dX7_pass_85 (fun H locs w => ?_)
        obtain ⟨S7, eS7⟩ : ∃ z, z = sS S3 6 ((S3.1 6) - 1) := ⟨_, rfl⟩
        rw [← eS7] at w
        have hf := lt_e hf eS7
        refine lv_aload_n hx hb dX7_pass_88 rfl (lv_at hl 2 rfl) ?_
        refine lv_dup hx hb dX7_pass_89 rfl ?_
        refine kget (v := .int (S7.1 5)) F B w inX7_pass_7 q (gQ_0 hq) rfl 5 (by decide) (hts (.fieldLink RX7 42 "LandReform$Sale" "paid" "I") (by decide +kernel)) rfl rfl dX7_pass_90 ?_
        refine lv_iload_n hx hb dX7_pass_93 rfl (lv_at hl 0 rfl) ?_
        refine lv_iadd hx hb dX7_pass_94 ?_
        refine kput (ty := .int) F B w inX7_pass_7 tyX7 tyX7_ok nmX7 q (gQ_0 hq) rfl 5 (by decide) (hts (.fieldLink RX7 42 "LandReform$Sale" "paid" "I") (by decide +kernel)) rfl rfl (by decide +kernel) rfl rfl (Nat.le_of_ble_eq_true rfl) pQ_5 dX7_pass_95 (fun H locs w => ?_)
        obtain ⟨S8, eS8⟩ : ∃ z, z = sS S7 5 ((S7.1 5) + v6) := ⟨_, rfl⟩
        rw [← eS8] at w
        have hf := lt_e hf eS8
        refine lv_iload_n hx hb dX7_pass_98 rfl (lv_at hl 0 rfl) ?_
        cases hf
        exact hQ _ _ _ _ dX7_pass_99 w
      · have hf := if_t hf c4
        refine lv_aload_n hx hb dX7_pass_36 rfl (lv_at hl 1 rfl) ?_
        refine lv_dup hx hb dX7_pass_37 rfl ?_
        refine kget (v := .int (S3.1 8)) F B w inX7_pass_7 q (gQ_0 hq) rfl 8 (by decide) (hts (.fieldLink RX7 39 "LandReform$Sale" "yearsPutOff" "I") (by decide +kernel)) rfl rfl dX7_pass_38 ?_
        refine lv_iconst (v := 1) hx hb dX7_pass_41 (by decide) ?_
        refine lv_iadd hx hb dX7_pass_42 ?_
        refine kput (ty := .int) F B w inX7_pass_7 tyX7 tyX7_ok nmX7 q (gQ_0 hq) rfl 8 (by decide) (hts (.fieldLink RX7 39 "LandReform$Sale" "yearsPutOff" "I") (by decide +kernel)) rfl rfl (by decide +kernel) rfl rfl (Nat.le_of_ble_eq_true rfl) pQ_8 dX7_pass_43 (fun H locs w => ?_)
        obtain ⟨S9, eS9⟩ : ∃ z, z = sS S3 8 ((S3.1 8) + 1) := ⟨_, rfl⟩
        rw [← eS9] at w
        have hf := lt_e hf eS9
        refine lv_iload_n hx hb dX7_pass_46 rfl (lv_at hl 0 rfl) ?_
        refine lv_if_eq (tgt := 60) hx hb dX7_pass_47 (by decide) (fun _ => ?_) (fun c => absurd (by decide) c)
        refine lv_iconst (v := 0) hx hb dX7_pass_60 (by decide) ?_
        cases hf
        exact hQ _ _ _ _ dX7_pass_61 w
    · have hf := if_t hf c2
      refine lv_iconst (v := 1) hx hb dX7_pass_16 (by decide) ?_
      refine lv_goto (tgt := 21) hx hb dX7_pass_17 (by decide) ?_
      refine lv_istore_n (lv' := [(2, .int 1), (0, .ref (ad 0)), (1, .int x1)]) hx hb dX7_pass_21 rfl hl (by decide) rfl (fun ls hl => ?_)
      refine lv_aload_n hx hb dX7_pass_22 rfl (lv_at hl 1 rfl) ?_
      refine lv_dup hx hb dX7_pass_23 rfl ?_
      refine kget (v := .int (S.1 7)) F B w inX7_pass_7 q (gQ_0 hq) rfl 7 (by decide) (hts (.fieldLink RX7 30 "LandReform$Sale" "partsBeforeRest" "I") (by decide +kernel)) rfl rfl dX7_pass_24 ?_
      refine lv_iconst (v := 1) hx hb dX7_pass_27 (by decide) ?_
      refine lv_isub hx hb dX7_pass_28 ?_
      refine kput (ty := .int) F B w inX7_pass_7 tyX7 tyX7_ok nmX7 q (gQ_0 hq) rfl 7 (by decide) (hts (.fieldLink RX7 30 "LandReform$Sale" "partsBeforeRest" "I") (by decide +kernel)) rfl rfl (by decide +kernel) rfl rfl (Nat.le_of_ble_eq_true rfl) pQ_7 dX7_pass_29 (fun H locs w => ?_)
      obtain ⟨S11, eS11⟩ : ∃ z, z = sS S 7 ((S.1 7) - 1) := ⟨_, rfl⟩
      rw [← eS11] at w
      have hf := lt_e hf eS11
      refine lv_iload_n hx hb dX7_pass_32 rfl (lv_at hl 2 rfl) ?_
      refine lv_if_ne (tgt := 62) hx hb dX7_pass_33 (by decide) (fun c12 => ?_) (fun c12 => ?_)
      · have hf := if_f hf c12
        refine lv_iload_n hx hb dX7_pass_62 rfl (lv_at hl 0 rfl) ?_
        refine lv_if_eq (tgt := 73) hx hb dX7_pass_63 (by decide) (fun c => absurd c (by decide)) (fun _ => ?_)
        refine lv_aload_n hx hb dX7_pass_66 rfl (lv_at hl 1 rfl) ?_
        refine kget (v := .int (S11.1 4)) F B w inX7_pass_7 q (gQ_0 hq) rfl 4 (by decide) (hts (.fieldLink RX7 36 "LandReform$Sale" "rest" "I") (by decide +kernel)) rfl rfl dX7_pass_67 ?_
        refine lv_goto (tgt := 77) hx hb dX7_pass_70 (by decide) ?_
        refine lv_topi (fun v14 ev14 => ?_)
        have hf := lt_e hf ev14
        refine lv_istore_n (lv' := [(3, .int v14), (2, .int 1), (0, .ref (ad 0)), (1, .int x1)]) hx hb dX7_pass_77 rfl hl (by decide) rfl (fun ls hl => ?_)
        refine lv_aload_n hx hb dX7_pass_78 rfl (lv_at hl 2 rfl) ?_
        refine lv_dup hx hb dX7_pass_79 rfl ?_
        refine kget (v := .int (S11.1 6)) F B w inX7_pass_7 q (gQ_0 hq) rfl 6 (by decide) (hts (.fieldLink RX7 27 "LandReform$Sale" "partsLeft" "I") (by decide +kernel)) rfl rfl dX7_pass_80 ?_
        refine lv_iconst (v := 1) hx hb dX7_pass_83 (by decide) ?_
        refine lv_isub hx hb dX7_pass_84 ?_
        refine kput (ty := .int) F B w inX7_pass_7 tyX7 tyX7_ok nmX7 q (gQ_0 hq) rfl 6 (by decide) (hts (.fieldLink RX7 27 "LandReform$Sale" "partsLeft" "I") (by decide +kernel)) rfl rfl (by decide +kernel) rfl rfl (Nat.le_of_ble_eq_true rfl) pQ_6 dX7_pass_85 (fun H locs w => ?_)
        obtain ⟨S15, eS15⟩ : ∃ z, z = sS S11 6 ((S11.1 6) - 1) := ⟨_, rfl⟩
        rw [← eS15] at w
        have hf := lt_e hf eS15
        refine lv_aload_n hx hb dX7_pass_88 rfl (lv_at hl 2 rfl) ?_
        refine lv_dup hx hb dX7_pass_89 rfl ?_
        refine kget (v := .int (S15.1 5)) F B w inX7_pass_7 q (gQ_0 hq) rfl 5 (by decide) (hts (.fieldLink RX7 42 "LandReform$Sale" "paid" "I") (by decide +kernel)) rfl rfl dX7_pass_90 ?_
        refine lv_iload_n hx hb dX7_pass_93 rfl (lv_at hl 0 rfl) ?_
        refine lv_iadd hx hb dX7_pass_94 ?_
        refine kput (ty := .int) F B w inX7_pass_7 tyX7 tyX7_ok nmX7 q (gQ_0 hq) rfl 5 (by decide) (hts (.fieldLink RX7 42 "LandReform$Sale" "paid" "I") (by decide +kernel)) rfl rfl (by decide +kernel) rfl rfl (Nat.le_of_ble_eq_true rfl) pQ_5 dX7_pass_95 (fun H locs w => ?_)
        obtain ⟨S16, eS16⟩ : ∃ z, z = sS S15 5 ((S15.1 5) + v14) := ⟨_, rfl⟩
        rw [← eS16] at w
        have hf := lt_e hf eS16
        refine lv_iload_n hx hb dX7_pass_98 rfl (lv_at hl 0 rfl) ?_
        cases hf
        exact hQ _ _ _ _ dX7_pass_99 w
      · have hf := if_t hf c12
        refine lv_aload_n hx hb dX7_pass_36 rfl (lv_at hl 1 rfl) ?_
        refine lv_dup hx hb dX7_pass_37 rfl ?_
        refine kget (v := .int (S11.1 8)) F B w inX7_pass_7 q (gQ_0 hq) rfl 8 (by decide) (hts (.fieldLink RX7 39 "LandReform$Sale" "yearsPutOff" "I") (by decide +kernel)) rfl rfl dX7_pass_38 ?_
        refine lv_iconst (v := 1) hx hb dX7_pass_41 (by decide) ?_
        refine lv_iadd hx hb dX7_pass_42 ?_
        refine kput (ty := .int) F B w inX7_pass_7 tyX7 tyX7_ok nmX7 q (gQ_0 hq) rfl 8 (by decide) (hts (.fieldLink RX7 39 "LandReform$Sale" "yearsPutOff" "I") (by decide +kernel)) rfl rfl (by decide +kernel) rfl rfl (Nat.le_of_ble_eq_true rfl) pQ_8 dX7_pass_43 (fun H locs w => ?_)
        obtain ⟨S17, eS17⟩ : ∃ z, z = sS S11 8 ((S11.1 8) + 1) := ⟨_, rfl⟩
        rw [← eS17] at w
        have hf := lt_e hf eS17
        refine lv_iload_n hx hb dX7_pass_46 rfl (lv_at hl 0 rfl) ?_
        refine lv_if_eq (tgt := 60) hx hb dX7_pass_47 (by decide) (fun c => absurd c (by decide)) (fun _ => ?_)
        refine lv_aload_n hx hb dX7_pass_50 rfl (lv_at hl 1 rfl) ?_
        refine lv_aload_n hx hb dX7_pass_51 rfl (lv_at hl 1 rfl) ?_
        refine kget (v := .int (S17.1 6)) F B w inX7_pass_7 q (gQ_0 hq) rfl 6 (by decide) (hts (.fieldLink RX7 27 "LandReform$Sale" "partsLeft" "I") (by decide +kernel)) rfl rfl dX7_pass_52 ?_
        refine lv_iconst (v := 1) hx hb dX7_pass_55 (by decide) ?_
        refine lv_isub hx hb dX7_pass_56 ?_
        refine kput (ty := .int) F B w inX7_pass_7 tyX7 tyX7_ok nmX7 q (gQ_0 hq) rfl 7 (by decide) (hts (.fieldLink RX7 30 "LandReform$Sale" "partsBeforeRest" "I") (by decide +kernel)) rfl rfl (by decide +kernel) rfl rfl (Nat.le_of_ble_eq_true rfl) pQ_7 dX7_pass_57 (fun H locs w => ?_)
        obtain ⟨S19, eS19⟩ : ∃ z, z = sS S17 7 ((S17.1 6) - 1) := ⟨_, rfl⟩
        rw [← eS19] at w
        have hf := lt_e hf eS19
        refine lv_iconst (v := 0) hx hb dX7_pass_60 (by decide) ?_
        cases hf
        exact hQ _ _ _ _ dX7_pass_61 w
  · have hf := if_t hf c1
    refine lv_iconst (v := (-1)) hx hb dX7_pass_7 (by decide) ?_
    cases hf
    exact hQ _ _ _ _ dX7_pass_8 w

def fX7_init (S : St) (x1 : Int32) (x2 : Int32) (x3 : Int32) (x4 : Int32) : Option St := lt_ (sS S 0 x1) fun S1 => lt_ (sS S1 1 x2) fun S2 => lt_ (sS S2 2 x3) fun S3 => lt_ (sS S3 6 (if (1 : Int32) < x4 then x4 else 1)) fun S4 => lt_ (sS S4 7 ((S4.1 6) - 1)) fun S5 => if (S5.1 6) = 0 then none else lt_ (sS S5 3 (x3 / (S5.1 6))) fun S7 => lt_ (sS S7 4 (x3 - ((S7.1 3) * (S7.1 7)))) fun S8 => some S8
set_option maxRecDepth 20000 in
theorem inX7_init_7 : ∀ w ∈ u_ws RX7 TX7 9, w ∈ wsX7_init := by decide +kernel
set_option maxHeartbeats 4000000 in
set_option maxRecDepth 100000 in
theorem tX7_init {l : Launch} {D : va_G} {cc : Nat → ClassId} {ak av : Nat → Nat} {ad : Nat → Nat} {w0 : va_W} {q : Nat} (hq : q < w0.length) {S : St} {x1 : Int32} {x2 : Int32} {x3 : Int32} {x4 : Int32} {S' : St} (hf : fX7_init S x1 x2 x3 x4 = some S')     : CK l yX7_init wsX7_init ({ frames := 1, cells := 0, slots := 0, locals := 21 } : Room) D cc ak av [.ref (ad 0), .int x1, .int x2, .int x3, .int x4] (WQ w0 q ad S) (fun w1 => w1 = WQ w0 q ad S') 0 0 := by
  refine mkC (c0 := cX7_init) (nL := 5) (own := RX7) (by decide) rfl rfl (Nat.le_of_ble_eq_true rfl) ?_
  intro p e s m args below meth c A Q ls F B hO hin hQ hl w
  have hin : meth.name = "<init>" := hin
  have hx := F.1
  have hb := F.2.1
  have hown := F.2.2.2.1
  have hts := F.2.2.2.2
  have hl : lv_has ls 5 [(0, .ref (ad 0)), (1, .int x1), (2, .int x2), (3, .int x3), (4, .int x4)] := hl
  unfold fX7_init at hf
  refine lv_aload_n hx hb dX7_init_0 rfl (lv_at hl 0 rfl) ?_
  refine W.objInit hx hb hown (hts (.methodLink RX7 3 objectInit) (by decide +kernel)) (hts (.instanceMethod objectInit) (by decide +kernel)) (hts _ (List.mem_of_getElem? (i := 3) rfl)) rfl (by rw [F.2.2.1]; exact hl.1) rfl dX7_init_1 (Nat.le_of_ble_eq_true rfl) (Nat.le_of_ble_eq_true rfl) ?_
  refine W.eq (g2 := F0 m 4 ls []) rfl ?_
  refine lv_aload_n hx hb dX7_init_4 rfl (lv_at hl 0 rfl) ?_
  refine lv_iload_n hx hb dX7_init_5 rfl (lv_at hl 1 rfl) ?_
  refine kputF (ty := .int) F B w hin inX7_init_7 tyX7 tyX7_ok nmX7 q (gQ_0 hq) rfl 0 (by decide) (hts (.fieldLink RX7 9 "LandReform$Sale" "soldField" "I") (by decide +kernel)) rfl rfl (by decide +kernel) rfl rfl (Nat.le_of_ble_eq_true rfl) pQ_0 dX7_init_6 (fun H locs w => ?_)
  obtain ⟨S1, eS1⟩ : ∃ z, z = sS S 0 x1 := ⟨_, rfl⟩
  rw [← eS1] at w
  have hf := lt_e hf eS1
  refine lv_aload_n hx hb dX7_init_9 rfl (lv_at hl 0 rfl) ?_
  refine lv_iload_n hx hb dX7_init_10 rfl (lv_at hl 2 rfl) ?_
  refine kputF (ty := .int) F B w hin inX7_init_7 tyX7 tyX7_ok nmX7 q (gQ_0 hq) rfl 1 (by decide) (hts (.fieldLink RX7 15 "LandReform$Sale" "buyer" "I") (by decide +kernel)) rfl rfl (by decide +kernel) rfl rfl (Nat.le_of_ble_eq_true rfl) pQ_1 dX7_init_11 (fun H locs w => ?_)
  obtain ⟨S2, eS2⟩ : ∃ z, z = sS S1 1 x2 := ⟨_, rfl⟩
  rw [← eS2] at w
  have hf := lt_e hf eS2
  refine lv_aload_n hx hb dX7_init_14 rfl (lv_at hl 0 rfl) ?_
  refine lv_iload_n hx hb dX7_init_15 rfl (lv_at hl 3 rfl) ?_
  refine kputF (ty := .int) F B w hin inX7_init_7 tyX7 tyX7_ok nmX7 q (gQ_0 hq) rfl 2 (by decide) (hts (.fieldLink RX7 18 "LandReform$Sale" "owed" "I") (by decide +kernel)) rfl rfl (by decide +kernel) rfl rfl (Nat.le_of_ble_eq_true rfl) pQ_2 dX7_init_16 (fun H locs w => ?_)
  obtain ⟨S3, eS3⟩ : ∃ z, z = sS S2 2 x3 := ⟨_, rfl⟩
  rw [← eS3] at w
  have hf := lt_e hf eS3
  refine lv_aload_n hx hb dX7_init_19 rfl (lv_at hl 0 rfl) ?_
  refine lv_iconst (v := 1) hx hb dX7_init_20 (by decide) ?_
  refine lv_iload hx hb dX7_init_21 (lv_at hl 4 rfl) ?_
  refine va_mmax hx hb (by rw [hl.1]; exact F.2.2.1) hown (hts (.methodLink RX7 21 Lib.Math.max.name) (by decide +kernel)) (hts (.static Lib.Math.max.name) (by decide +kernel)) (hts (.initialized "java/lang/Math") (by decide +kernel)) (hts (.code Lib.Math.max.name Lib.Math.max.code 2 (some .int)) (by decide +kernel)) (Nat.le_of_ble_eq_true rfl) (Nat.le_of_ble_eq_true rfl) (Nat.le_of_ble_eq_true rfl) (Nat.le_of_ble_eq_true rfl) dX7_init_23 ?_
  refine kput (ty := .int) F B w inX7_init_7 tyX7 tyX7_ok nmX7 q (gQ_0 hq) rfl 6 (by decide) (hts (.fieldLink RX7 27 "LandReform$Sale" "partsLeft" "I") (by decide +kernel)) rfl rfl (by decide +kernel) rfl rfl (Nat.le_of_ble_eq_true rfl) pQ_6 dX7_init_26 (fun H locs w => ?_)
  obtain ⟨S4, eS4⟩ : ∃ z, z = sS S3 6 (if (1 : Int32) < x4 then x4 else 1) := ⟨_, rfl⟩
  rw [← eS4] at w
  have hf := lt_e hf eS4
  refine lv_aload_n hx hb dX7_init_29 rfl (lv_at hl 0 rfl) ?_
  refine lv_aload_n hx hb dX7_init_30 rfl (lv_at hl 0 rfl) ?_
  refine kget (v := .int (S4.1 6)) F B w inX7_init_7 q (gQ_0 hq) rfl 6 (by decide) (hts (.fieldLink RX7 27 "LandReform$Sale" "partsLeft" "I") (by decide +kernel)) rfl rfl dX7_init_31 ?_
  refine lv_iconst (v := 1) hx hb dX7_init_34 (by decide) ?_
  refine lv_isub hx hb dX7_init_35 ?_
  refine kput (ty := .int) F B w inX7_init_7 tyX7 tyX7_ok nmX7 q (gQ_0 hq) rfl 7 (by decide) (hts (.fieldLink RX7 30 "LandReform$Sale" "partsBeforeRest" "I") (by decide +kernel)) rfl rfl (by decide +kernel) rfl rfl (Nat.le_of_ble_eq_true rfl) pQ_7 dX7_init_36 (fun H locs w => ?_)
  obtain ⟨S5, eS5⟩ : ∃ z, z = sS S4 7 ((S4.1 6) - 1) := ⟨_, rfl⟩
  rw [← eS5] at w
  have hf := lt_e hf eS5
  refine lv_aload_n hx hb dX7_init_39 rfl (lv_at hl 0 rfl) ?_
  refine lv_iload_n hx hb dX7_init_40 rfl (lv_at hl 3 rfl) ?_
  refine lv_aload_n hx hb dX7_init_41 rfl (lv_at hl 0 rfl) ?_
  refine kget (v := .int (S5.1 6)) F B w inX7_init_7 q (gQ_0 hq) rfl 6 (by decide) (hts (.fieldLink RX7 27 "LandReform$Sale" "partsLeft" "I") (by decide +kernel)) rfl rfl dX7_init_42 ?_
  obtain ⟨g6, hf⟩ := if_g hf
  refine lv_idiv hx hb dX7_init_45 g6 ?_
  refine kputF (ty := .int) F B w hin inX7_init_7 tyX7 tyX7_ok nmX7 q (gQ_0 hq) rfl 3 (by decide) (hts (.fieldLink RX7 33 "LandReform$Sale" "part" "I") (by decide +kernel)) rfl rfl (by decide +kernel) rfl rfl (Nat.le_of_ble_eq_true rfl) pQ_3 dX7_init_46 (fun H locs w => ?_)
  obtain ⟨S7, eS7⟩ : ∃ z, z = sS S5 3 (x3 / (S5.1 6)) := ⟨_, rfl⟩
  rw [← eS7] at w
  have hf := lt_e hf eS7
  refine lv_aload_n hx hb dX7_init_49 rfl (lv_at hl 0 rfl) ?_
  refine lv_iload_n hx hb dX7_init_50 rfl (lv_at hl 3 rfl) ?_
  refine lv_aload_n hx hb dX7_init_51 rfl (lv_at hl 0 rfl) ?_
  refine kget (v := .int (S7.1 3)) F B w inX7_init_7 q (gQ_0 hq) rfl 3 (by decide) (hts (.fieldLink RX7 33 "LandReform$Sale" "part" "I") (by decide +kernel)) rfl rfl dX7_init_52 ?_
  refine lv_aload_n hx hb dX7_init_55 rfl (lv_at hl 0 rfl) ?_
  refine kget (v := .int (S7.1 7)) F B w inX7_init_7 q (gQ_0 hq) rfl 7 (by decide) (hts (.fieldLink RX7 30 "LandReform$Sale" "partsBeforeRest" "I") (by decide +kernel)) rfl rfl dX7_init_56 ?_
  refine lv_imul hx hb dX7_init_59 ?_
  refine lv_isub hx hb dX7_init_60 ?_
  refine kputF (ty := .int) F B w hin inX7_init_7 tyX7 tyX7_ok nmX7 q (gQ_0 hq) rfl 4 (by decide) (hts (.fieldLink RX7 36 "LandReform$Sale" "rest" "I") (by decide +kernel)) rfl rfl (by decide +kernel) rfl rfl (Nat.le_of_ble_eq_true rfl) pQ_4 dX7_init_61 (fun H locs w => ?_)
  obtain ⟨S8, eS8⟩ : ∃ z, z = sS S7 4 (x3 - ((S7.1 3) * (S7.1 7))) := ⟨_, rfl⟩
  rw [← eS8] at w
  have hf := lt_e hf eS8
  cases hf
  exact hQ _ _ _ _ _ dX7_init_64 rfl w

