def sW (S : St) : St := (fun k => if 21 ≤ k ∧ k < 29 then S.1 (k + 8) else if 29 ≤ k ∧ k < 37 then S.1 (k - 8) else S.1 k, fun a => if a = 30 then S.2.1 31 else if a = 31 then S.2.1 30 else S.2.1 a, S.2.2)
def swA (b : Nat) (ad : Nat → Nat) : Nat → Nat := if b = 1 then (fun k => if k = 10 then ad 11 else if k = 11 then ad 10 else if k = 44 then ad 45 else if k = 45 then ad 44 else ad k) else ad
theorem swA_0 (b : Nat) (ad : Nat → Nat) : swA b ad 0 = ad 0 := by
  unfold swA
  by_cases h : b = 1
  · rw [if_pos h]; rfl
  · rw [if_neg h]
theorem swA_grid (ad : Nat → Nat) : (fun i => if i < 5 then some (swA 1 ad (34 + i)) else none) = (fun i => if i < 5 then some (ad (34 + i)) else none) := by
  funext i
  by_cases h : i < 5
  · rw [if_pos h, if_pos h]
    unfold swA
    rw [if_pos rfl, if_neg (by omega), if_neg (by omega), if_neg (by omega), if_neg (by omega)]
  · rw [if_neg h, if_neg h]
set_option maxRecDepth 100000 in
theorem act_e {cc : Nat → ClassId} {ad : Nat → Nat} {g : Nat → Option Nat} {S : St} : WX cc (swA 1 ad) g (sW S) = [(ad 0, .inr (10, [.ref (ad 1), .ref (ad 2), .ref (ad 3), .ref (ad 4), .ref (ad 5), .ref (ad 6), .ref (ad 7), .ref (ad 8), .ref (ad 9), .int (S.1 0), .ref (ad 11), .ref (ad 10)])), (ad 1, .inr (4, [.ref (ad 12), .ref (ad 13), .ref (ad 14), .int (S.1 1), .int (S.1 2)])), (ad 2, .inr (2, [.ref (ad 15), .ref (ad 16), .ref (ad 17), .ref (ad 18), .ref (ad 19), .ref (ad 20), .int (S.1 3), .ref (ad 21), .ref (ad 22), .ref (ad 23), .int (S.1 4), .int (S.1 5)])), (ad 3, .inr (8, [.ref (ad 24), .int (S.1 6)])), (ad 4, .inr (5, [.ref (ad 24), .int (S.1 7), .int (S.1 8), .int (S.1 9), .int (S.1 10)])), (ad 5, .inr (1, [.ref (ad 25), .ref (ad 26), .ref (ad 27), .ref (ad 28), .int (S.1 11), .int (S.1 12), .int (S.1 13), .int (S.1 14), .int (S.1 15), .int (S.1 16)])), (ad 6, .inr (9, [.ref (ad 29), .ref (ad 30), .ref (ad 31), .int (S.1 17)])), (ad 7, .inr (0, [.ref (ad 32), .ref (ad 33), .int (S.1 18)])), (ad 8, .inr (6, [.ref (ad 39), .ref (ad 40), .ref (ad 41), .ref (ad 42), .ref (ad 43), .int (S.1 19), .int (S.1 20)])), (ad 9, .inl (cc 5, 20, .inr (.inr (.inr (.inr g))))), (ad 11, .inr (3, [.ref (ad 45), .int (S.1 29), .int (S.1 30), .int (S.1 31), .int (S.1 32), .int (S.1 33), .int (S.1 34), .int (S.1 35), .int (S.1 36)])), (ad 10, .inr (3, [.ref (ad 44), .int (S.1 21), .int (S.1 22), .int (S.1 23), .int (S.1 24), .int (S.1 25), .int (S.1 26), .int (S.1 27), .int (S.1 28)])), (ad 12, .inl (cc 0, 40, .inl (S.2.1 0))), (ad 13, .inl (cc 0, 40, .inl (S.2.1 1))), (ad 14, .inl (cc 3, 40, .inr (.inl S.2.2))), (ad 15, .inl (cc 0, 60, .inl (S.2.1 2))), (ad 16, .inl (cc 0, 60, .inl (S.2.1 3))), (ad 17, .inl (cc 0, 60, .inl (S.2.1 4))), (ad 18, .inl (cc 0, 60, .inl (S.2.1 5))), (ad 19, .inl (cc 0, 60, .inl (S.2.1 6))), (ad 20, .inl (cc 0, 60, .inl (S.2.1 7))), (ad 21, .inl (cc 0, 200, .inl (S.2.1 8))), (ad 22, .inl (cc 0, 200, .inl (S.2.1 9))), (ad 23, .inl (cc 0, 200, .inl (S.2.1 10))), (ad 24, .inl (cc 1, 400, .inl (S.2.1 11))), (ad 25, .inl (cc 0, 60, .inl (S.2.1 12))), (ad 26, .inl (cc 0, 60, .inl (S.2.1 13))), (ad 27, .inl (cc 0, 12, .inl (S.2.1 14))), (ad 28, .inl (cc 0, 12, .inl (S.2.1 15))), (ad 29, .inl (cc 0, 60, .inl (S.2.1 16))), (ad 30, .inl (cc 0, 60, .inl (S.2.1 17))), (ad 31, .inl (cc 0, 60, .inl (S.2.1 18))), (ad 32, .inl (cc 0, 32, .inl (S.2.1 19))), (ad 33, .inl (cc 4, 5, .inr (.inr (.inr (.inr (fun i => if i < 5 then some (ad (34 + i)) else none)))))), (ad 34, .inl (cc 0, 5, .inl (S.2.1 20))), (ad 35, .inl (cc 0, 5, .inl (S.2.1 21))), (ad 36, .inl (cc 0, 5, .inl (S.2.1 22))), (ad 37, .inl (cc 0, 5, .inl (S.2.1 23))), (ad 38, .inl (cc 0, 5, .inl (S.2.1 24))), (ad 39, .inl (cc 0, 8, .inl (S.2.1 25))), (ad 40, .inl (cc 0, 8, .inl (S.2.1 26))), (ad 41, .inl (cc 0, 8, .inl (S.2.1 27))), (ad 42, .inl (cc 0, 8, .inl (S.2.1 28))), (ad 43, .inl (cc 0, 8, .inl (S.2.1 29))), (ad 45, .inl (cc 0, 4, .inl (S.2.1 31))), (ad 44, .inl (cc 0, 4, .inl (S.2.1 30)))] := by
  unfold WX
  rw [swA_grid]
  rfl
set_option maxRecDepth 100000 in
theorem act_w {D : va_G} {A : Nat → Prop} {H0 H : Heap} {locs : List Loc} {cc : Nat → ClassId} {ad : Nat → Nat} {g : Nat → Option Nat} {S : St} {E : va_W} (w : Wd D A H0 H locs ([(ad 0, .inr (10, [.ref (ad 1), .ref (ad 2), .ref (ad 3), .ref (ad 4), .ref (ad 5), .ref (ad 6), .ref (ad 7), .ref (ad 8), .ref (ad 9), .int (S.1 0), .ref (ad 11), .ref (ad 10)])), (ad 1, .inr (4, [.ref (ad 12), .ref (ad 13), .ref (ad 14), .int (S.1 1), .int (S.1 2)])), (ad 2, .inr (2, [.ref (ad 15), .ref (ad 16), .ref (ad 17), .ref (ad 18), .ref (ad 19), .ref (ad 20), .int (S.1 3), .ref (ad 21), .ref (ad 22), .ref (ad 23), .int (S.1 4), .int (S.1 5)])), (ad 3, .inr (8, [.ref (ad 24), .int (S.1 6)])), (ad 4, .inr (5, [.ref (ad 24), .int (S.1 7), .int (S.1 8), .int (S.1 9), .int (S.1 10)])), (ad 5, .inr (1, [.ref (ad 25), .ref (ad 26), .ref (ad 27), .ref (ad 28), .int (S.1 11), .int (S.1 12), .int (S.1 13), .int (S.1 14), .int (S.1 15), .int (S.1 16)])), (ad 6, .inr (9, [.ref (ad 29), .ref (ad 30), .ref (ad 31), .int (S.1 17)])), (ad 7, .inr (0, [.ref (ad 32), .ref (ad 33), .int (S.1 18)])), (ad 8, .inr (6, [.ref (ad 39), .ref (ad 40), .ref (ad 41), .ref (ad 42), .ref (ad 43), .int (S.1 19), .int (S.1 20)])), (ad 9, .inl (cc 5, 20, .inr (.inr (.inr (.inr g))))), (ad 10, .inr (3, [.ref (ad 44), .int (S.1 21), .int (S.1 22), .int (S.1 23), .int (S.1 24), .int (S.1 25), .int (S.1 26), .int (S.1 27), .int (S.1 28)])), (ad 11, .inr (3, [.ref (ad 45), .int (S.1 29), .int (S.1 30), .int (S.1 31), .int (S.1 32), .int (S.1 33), .int (S.1 34), .int (S.1 35), .int (S.1 36)])), (ad 12, .inl (cc 0, 40, .inl (S.2.1 0))), (ad 13, .inl (cc 0, 40, .inl (S.2.1 1))), (ad 14, .inl (cc 3, 40, .inr (.inl S.2.2))), (ad 15, .inl (cc 0, 60, .inl (S.2.1 2))), (ad 16, .inl (cc 0, 60, .inl (S.2.1 3))), (ad 17, .inl (cc 0, 60, .inl (S.2.1 4))), (ad 18, .inl (cc 0, 60, .inl (S.2.1 5))), (ad 19, .inl (cc 0, 60, .inl (S.2.1 6))), (ad 20, .inl (cc 0, 60, .inl (S.2.1 7))), (ad 21, .inl (cc 0, 200, .inl (S.2.1 8))), (ad 22, .inl (cc 0, 200, .inl (S.2.1 9))), (ad 23, .inl (cc 0, 200, .inl (S.2.1 10))), (ad 24, .inl (cc 1, 400, .inl (S.2.1 11))), (ad 25, .inl (cc 0, 60, .inl (S.2.1 12))), (ad 26, .inl (cc 0, 60, .inl (S.2.1 13))), (ad 27, .inl (cc 0, 12, .inl (S.2.1 14))), (ad 28, .inl (cc 0, 12, .inl (S.2.1 15))), (ad 29, .inl (cc 0, 60, .inl (S.2.1 16))), (ad 30, .inl (cc 0, 60, .inl (S.2.1 17))), (ad 31, .inl (cc 0, 60, .inl (S.2.1 18))), (ad 32, .inl (cc 0, 32, .inl (S.2.1 19))), (ad 33, .inl (cc 4, 5, .inr (.inr (.inr (.inr (fun i => if i < 5 then some (ad (34 + i)) else none)))))), (ad 34, .inl (cc 0, 5, .inl (S.2.1 20))), (ad 35, .inl (cc 0, 5, .inl (S.2.1 21))), (ad 36, .inl (cc 0, 5, .inl (S.2.1 22))), (ad 37, .inl (cc 0, 5, .inl (S.2.1 23))), (ad 38, .inl (cc 0, 5, .inl (S.2.1 24))), (ad 39, .inl (cc 0, 8, .inl (S.2.1 25))), (ad 40, .inl (cc 0, 8, .inl (S.2.1 26))), (ad 41, .inl (cc 0, 8, .inl (S.2.1 27))), (ad 42, .inl (cc 0, 8, .inl (S.2.1 28))), (ad 43, .inl (cc 0, 8, .inl (S.2.1 29))), (ad 44, .inl (cc 0, 4, .inl (S.2.1 30))), (ad 45, .inl (cc 0, 4, .inl (S.2.1 31)))] ++ E)) : Wd D A H0 H locs (WX cc (swA 1 ad) g (sW S) ++ E) := by
  rw [act_e]
  exact Wd.perm [0, 1, 2, 3, 4, 5, 6, 7, 8, 9, 11, 10, 12, 13, 14, 15, 16, 17, 18, 19, 20, 21, 22, 23, 24, 25, 26, 27, 28, 29, 30, 31, 32, 33, 34, 35, 36, 37, 38, 39, 40, 41, 42, 43, 45, 44] rfl (by decide) w
def fX10_act (n : Nat) (S : St) (x1 : Int32) : Option (Int32 × St × Nat) := if x1 < 0 then (some ((-2), S, 0)) else (if x1 ≤ (S.1 6) then (ob (fX5_readAct n S x1) fun q5 => lt_ q5.1 fun r3 => lt_ q5.2 fun S4 => lt_ (sS S4 6 0) fun S6 => if r3 = 0 then (some ((-1), S6, 0)) else (lt_ (sW S6) fun Sz => some ((Sz.1 28), Sz, 1))) else (some ((-2), S, 0)))
set_option maxRecDepth 20000 in
theorem inX10_act_3 : ∀ w ∈ u_ws RX3 TX3 9, w ∈ wsX10_act := by decide +kernel
set_option maxRecDepth 20000 in
theorem inX10_act_8 : ∀ w ∈ u_ws RX8 TX8 2, w ∈ wsX10_act := by decide +kernel
set_option maxRecDepth 20000 in
theorem inX10_act_10 : ∀ w ∈ u_ws RX10 TX10 12, w ∈ wsX10_act := by decide +kernel
set_option maxHeartbeats 4000000 in
set_option maxRecDepth 100000 in
theorem tX10_act {l : Launch} {D : va_G} {cc : Nat → ClassId} {ak av : Nat → Nat} {ad : Nat → Nat} {g : Nat → Option Nat} {E : va_W} {n : Nat} {S : St} {x1 : Int32} {r : Int32} {S' : St} {b : Nat} (hf : fX10_act n S x1 = some (r, S', b)) : CI l yX10_act wsX10_act ({ frames := 8, cells := 0, slots := 0, locals := 174 } : Room) D cc ak av [.ref (ad 0), .int x1] (WX cc ad g S ++ E) (WX cc (swA b ad) g S' ++ E) r := by
  refine mkI (c0 := cX10_act) (nL := 4) (own := RX10) rfl rfl (by decide) rfl rfl (Nat.le_of_ble_eq_true rfl) ?_
  intro p e s m args below meth c A Q ls F B hQ hl w
  have hx := F.1
  have hb := F.2.1
  have hown := F.2.2.2.1
  have hts := F.2.2.2.2
  have hl : lv_has ls 4 [(0, .ref (ad 0)), (1, .int x1)] := hl
  unfold fX10_act at hf
  refine lv_iload_n hx hb dX10_act_0 rfl (lv_at hl 1 rfl) ?_
  refine lv_if_lt (tgt := 15) hx hb dX10_act_1 (by decide) (fun c1 => ?_) (fun c1 => ?_)
  · have hf := if_t hf c1
    refine lv_bipush (v := (-2)) hx hb dX10_act_15 (by decide) ?_
    cases hf
    exact hQ _ _ _ _ dX10_act_17 w
  · have hf := if_f hf c1
    refine lv_iload_n hx hb dX10_act_4 rfl (lv_at hl 1 rfl) ?_
    refine lv_aload_n hx hb dX10_act_5 rfl (lv_at hl 0 rfl) ?_
    refine kget (v := .ref (ad 3)) F B w inX10_act_10 0 gX_0 rfl 2 (by decide) (hts (.fieldLink RX10 26 "LandReform" "tape" "LLandReform$Tape;") (by decide +kernel)) rfl rfl dX10_act_6 ?_
    refine kgetN (v := .int (S.1 6)) F B w inX10_act_8 3 gX_3 rfl 1 (by decide) (B.2.1.f 1 rfl) rfl rfl dX10_act_9 ?_
    refine lv_icmp_le (tgt := 18) hx hb dX10_act_12 (by decide) (fun c2 => ?_) (fun c2 => ?_)
    · have hf := if_t hf c2
      refine lv_aload_n hx hb dX10_act_18 rfl (lv_at hl 0 rfl) ?_
      refine kget (v := .ref (ad 4)) F B w inX10_act_10 0 gX_0 rfl 3 (by decide) (hts (.fieldLink RX10 39 "LandReform" "reader" "LLandReform$Reader;") (by decide +kernel)) rfl rfl dX10_act_19 ?_
      refine lv_iload_n hx hb dX10_act_22 rfl (lv_at hl 1 rfl) ?_
      refine lv_aload_n hx hb dX10_act_23 rfl (lv_at hl 0 rfl) ?_
      refine kget (v := .ref (ad 11)) F B w inX10_act_10 0 gX_0 rfl 11 (by decide) (hts (.fieldLink RX10 84 "LandReform" "draft" "LLandReform$Law;") (by decide +kernel)) rfl rfl dX10_act_24 ?_
      obtain ⟨⟨r3, S4⟩, er3, hf⟩ := ob_e hf
      have hf := lt_e hf (v := r3) rfl
      have hf := lt_e hf (v := S4) rfl
      refine kVi (As := [.int x1, .ref (ad 11)]) (rest := []) F B w (tX5_readAct er3) (cwV 2 hts gX10_act_X5_readAct rfl rfl rfl (by decide +kernel) ⟨Nat.le_of_ble_eq_true rfl, Nat.le_of_ble_eq_true rfl⟩) 4 gX_4 rfl rfl hl.1 rfl (Nat.le_of_ble_eq_true rfl) dX10_act_27 ⟨Nat.le_of_ble_eq_true rfl, Nat.le_of_ble_eq_true rfl⟩ (fun H locs w => ?_)
      refine lv_istore_n (lv' := [(2, .int r3), (0, .ref (ad 0)), (1, .int x1)]) hx hb dX10_act_30 rfl hl (by decide) rfl (fun ls hl => ?_)
      refine lv_aload_n hx hb dX10_act_31 rfl (lv_at hl 1 rfl) ?_
      refine kget (v := .ref (ad 3)) F B w inX10_act_10 0 gX_0 rfl 2 (by decide) (hts (.fieldLink RX10 26 "LandReform" "tape" "LLandReform$Tape;") (by decide +kernel)) rfl rfl dX10_act_32 ?_
      refine lv_iconst (v := 0) hx hb dX10_act_35 (by decide) ?_
      refine kputN (ty := .int) F B w inX10_act_8 tyX8 tyX8_ok nmX8 3 gX_3 rfl 1 (by decide) (B.2.1.f 1 rfl) rfl rfl (by decide +kernel) rfl rfl (Nat.le_of_ble_eq_true rfl) pX_6 dX10_act_36 (fun H locs w => ?_)
      obtain ⟨S6, eS6⟩ : ∃ z, z = sS S4 6 0 := ⟨_, rfl⟩
      rw [← eS6] at w
      have hf := lt_e hf eS6
      refine lv_iload_n hx hb dX10_act_39 rfl (lv_at hl 0 rfl) ?_
      refine lv_if_ne (tgt := 45) hx hb dX10_act_40 (by decide) (fun c7 => ?_) (fun c7 => ?_)
      · have hf := if_f hf c7
        refine lv_aload_n hx hb dX10_act_45 rfl (lv_at hl 1 rfl) ?_
        refine kget (v := .ref (ad 10)) F B w inX10_act_10 0 gX_0 rfl 10 (by decide) (hts (.fieldLink RX10 80 "LandReform" "law" "LLandReform$Law;") (by decide +kernel)) rfl rfl dX10_act_46 ?_
        refine lv_astore_n (lv' := [(3, .ref (ad 10)), (2, .int r3), (0, .ref (ad 0)), (1, .int x1)]) hx hb dX10_act_49 rfl hl (by decide) rfl (fun ls hl => ?_)
        refine lv_aload_n hx hb dX10_act_50 rfl (lv_at hl 2 rfl) ?_
        refine lv_aload_n hx hb dX10_act_51 rfl (lv_at hl 2 rfl) ?_
        refine kget (v := .ref (ad 11)) F B w inX10_act_10 0 gX_0 rfl 11 (by decide) (hts (.fieldLink RX10 84 "LandReform" "draft" "LLandReform$Law;") (by decide +kernel)) rfl rfl dX10_act_52 ?_
        refine kput (ty := .object "LandReform$Law") (v := .ref (ad 11)) F B w inX10_act_10 tyX10 tyX10_ok nmX10 0 rfl rfl 10 (by decide) (hts (.fieldLink RX10 80 "LandReform" "law" "LLandReform$Law;") (by decide +kernel)) rfl rfl (by decide +kernel) rfl rfl (Nat.le_of_ble_eq_true rfl) rfl dX10_act_55 (fun H locs w => ?_)
        refine lv_aload_n hx hb dX10_act_58 rfl (lv_at hl 2 rfl) ?_
        refine lv_aload_n hx hb dX10_act_59 rfl (lv_at hl 0 rfl) ?_
        refine kput (ty := .object "LandReform$Law") (v := .ref (ad 10)) F B w inX10_act_10 tyX10 tyX10_ok nmX10 0 rfl rfl 11 (by decide) (hts (.fieldLink RX10 84 "LandReform" "draft" "LLandReform$Law;") (by decide +kernel)) rfl rfl (by decide +kernel) rfl rfl (Nat.le_of_ble_eq_true rfl) rfl dX10_act_60 (fun H locs w => ?_)
        refine lv_aload_n hx hb dX10_act_63 rfl (lv_at hl 2 rfl) ?_
        refine kget (v := .ref (ad 11)) F B w inX10_act_10 0 rfl rfl 10 (by decide) (hts (.fieldLink RX10 80 "LandReform" "law" "LLandReform$Law;") (by decide +kernel)) rfl rfl dX10_act_64 ?_
        refine kgetN (v := .int (S6.1 36)) F B w inX10_act_3 11 rfl rfl 8 (by decide) (B.2.1.f 2 rfl) rfl rfl dX10_act_67 ?_
        cases hf
        exact hQ _ _ _ _ dX10_act_70 (act_w w)
      · have hf := if_t hf c7
        refine lv_iconst (v := (-1)) hx hb dX10_act_43 (by decide) ?_
        cases hf
        exact hQ _ _ _ _ dX10_act_44 w
    · have hf := if_f hf c2
      refine lv_bipush (v := (-2)) hx hb dX10_act_15 (by decide) ?_
      cases hf
      exact hQ _ _ _ _ dX10_act_17 w
