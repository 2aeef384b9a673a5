set_option maxRecDepth 20000 in
theorem nF_in : ∀ q ∈ nF, Cond.fieldLinkNest q.1 q.2.1 q.2.2.1 q.2.2.2.1 q.2.2.2.2.1 q.2.2.2.2.2 ∈ lw_tbl := fun q hq => mem_r (nF.map fun q => Cond.fieldLinkNest q.1 q.2.1 q.2.2.1 q.2.2.2.1 q.2.2.2.2.1 q.2.2.2.2.2) [127, 163, 329, 181, 327, 206, 208, 210, 204, 213, 285, 117, 323, 325, 836, 838, 840, 844, 846, 849, 85, 126, 87, 161, 116, 113, 124, 119, 121, 123, 320, 111] (by decide +kernel) _ (List.mem_map.mpr ⟨q, hq, rfl⟩)
set_option maxRecDepth 20000 in
theorem nM_in : ∀ q ∈ nM, Cond.methodLinkNest q.1 q.2.1 q.2.2.1 q.2.2.2 ∈ lw_tbl := fun q hq => mem_r (nM.map fun q => Cond.methodLinkNest q.1 q.2.1 q.2.2.1 q.2.2.2) [103, 156, 195, 237, 256, 274, 77, 762, 618, 435, 568, 409, 472, 560, 812] (by decide +kernel) _ (List.mem_map.mpr ⟨q, hq, rfl⟩)
theorem arr_known {args : Array Value} {s : State} {ty : FieldType} (h : (Cond.arrayClass ty).before args s = true) : ∃ cA : ClassId, ArrOfT s cA ty ∧ s.vm.findClass ("[" ++ ty.toString) = some cA := by
  obtain ⟨cA, kA, comp, hfind, hk, hkind⟩ := Cond.arrayClass_spec h
  exact ⟨cA, fun N z => ⟨(fun k h => by cases h), kA, hk, comp, hkind⟩, hfind⟩
theorem arrO_known {args : Array Value} {s : State} {C : String} (h : (Cond.arrayOver (.object C)).before args s = true) : ∃ cA : ClassId, ArrOfT s cA (.object C) ∧ va_RA s cA (.object C) := by
  obtain ⟨comp, c, k, h1, h2, h3, h4, h5⟩ := Cond.arrayOver_spec h
  exact ⟨c, fun N z => ⟨(fun k h => by cases h), k, h3, comp, h4⟩, k, comp, h3, h4, h1, h5⟩
theorem arrA_known {args : Array Value} {s : State} {ty : FieldType} (h : (Cond.arrayOver (.array ty)).before args s = true) : ∃ cA : ClassId, ArrOfT s cA (.array ty) ∧ va_RA s cA (.array ty) := by
  obtain ⟨comp, c, k, h1, h2, h3, h4, h5⟩ := aoa_spec h
  exact ⟨c, fun N z => ⟨(fun k h => by cases h), k, h3, comp, h4⟩, h5⟩
def tmT (i : Nat) : Term := .string "LandReform$Reader" ((idxT.getD i (0, "")).1)
theorem ten {P : Nat → Prop} (h0 : P 0) (h1 : P 1) (h2 : P 2) (h3 : P 3) (h4 : P 4) (h5 : P 5) (h6 : P 6) (h7 : P 7) (h8 : P 8) (h9 : P 9) : ∀ j, j < 10 → P j := by
  intro j hj
  match j, hj with
  | 0, _ => exact h0
  | 1, _ => exact h1
  | 2, _ => exact h2
  | 3, _ => exact h3
  | 4, _ => exact h4
  | 5, _ => exact h5
  | 6, _ => exact h6
  | 7, _ => exact h7
  | 8, _ => exact h8
  | 9, _ => exact h9
set_option maxRecDepth 100000 in
theorem str_ex : ∀ i, i < 10 → Cond.exactly (tmT i) "java/lang/String" ∈ flatC (Jvm.Cond.and given_1 narrow_1) := by decide +kernel
set_option maxRecDepth 100000 in
theorem str_co : ∀ i, i < 10 → Cond.eq (.field (tmT i) "java/lang/String" "coder" "B") (.int 0) ∈ flatC (Jvm.Cond.and given_1 narrow_1) := by decide +kernel
set_option maxRecDepth 100000 in
theorem str_ar : ∀ i, i < 10 → Cond.arrayOf (.field (tmT i) "java/lang/String" "value" "[B") .byte ∈ flatC (Jvm.Cond.and given_1 narrow_1) := by decide +kernel
set_option maxRecDepth 100000 in
theorem str_le : ∀ i, i < 10 → Cond.eq (.length (.field (tmT i) "java/lang/String" "value" "[B")) (.int (Int32.ofNat (lenT.getD i 0))) ∈ flatC (Jvm.Cond.and given_1 narrow_1) := by decide +kernel
set_option maxRecDepth 100000 in
theorem str_el : ∀ i, i < 10 → ∀ j, j < lenT.getD i 0 → Cond.eq (.elem (.field (tmT i) "java/lang/String" "value" "[B") (.int (Int32.ofNat j))) (.int ((bytT.getD i []).getD j 0)) ∈ flatC (Jvm.Cond.and given_1 narrow_1) := by decide +kernel
set_option maxRecDepth 100000 in
theorem str_ne : ∀ i, i < 10 → ∀ j, j < 10 → i ≠ j → Cond.not (Cond.eq (tmT i) (tmT j)) ∈ flatC (Jvm.Cond.and given_1 narrow_1) ∨ Cond.not (Cond.eq (tmT j) (tmT i)) ∈ flatC (Jvm.Cond.and given_1 narrow_1) := by decide +kernel
set_option maxRecDepth 100000 in
theorem str_ref : ∀ i, i < 10 → Cond.stringRef "LandReform$Reader" ((idxT.getD i (0, "")).1) ((idxT.getD i (0, "")).2) ∈ lw_tbl := by decide +kernel
