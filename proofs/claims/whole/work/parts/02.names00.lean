/-! ===== BEGIN words of one list among another's, by their places ===== -/
theorem goodIn_r {big : List Cond} (ws : List Cond) (ps : List Nat) (hp : ws = ps.filterMap (fun i => big[i]?)) (h : ws.all goodWord = true) : GoodIn big ws := by
  intro w hw
  have h1 := List.all_eq_true.mp h w hw
  rw [hp] at hw
  obtain ⟨i, -, hi⟩ := List.mem_filterMap.mp hw
  have hm : w ∈ big := by first | exact List.mem_of_getElem? hi | exact List.getElem?_mem hi
  exact ⟨hm, good_of_word h1⟩
theorem goodIn_app {big a b : List Cond} (ha : GoodIn big a) (hb : GoodIn big b) : GoodIn big (a ++ b) := fun w h => (List.mem_append.mp h).elim (ha w) (hb w)
theorem goodIn_ca {big a b : List Cond} {c : Cond} (ha : GoodIn big (c :: a)) (hb : GoodIn big b) : GoodIn big (c :: (a ++ b)) := fun w h => (List.mem_cons.mp h).elim (fun e => ha w (List.mem_cons.mpr (Or.inl e))) (fun h => (List.mem_append.mp h).elim (fun h => ha w (List.mem_cons.mpr (Or.inr h))) (hb w))
theorem goodIn_sub {big ws : List Cond} (hm : ∀ w ∈ ws, w ∈ big) (h : ws.all goodWord = true) : GoodIn big ws := fun w hw => ⟨hm w hw, good_of_word (List.all_eq_true.mp h w hw)⟩
/-! ===== END ===== -/

/-! ===== BEGIN new T[n][m]: the outer array a place, the inner ones among the pooled ===== -/
/-- f, but v at every address of l -/
def vr_up {α : Type} (f : Nat → α) (l : List Nat) (v : α) : Nat → α := fun a => if a ∈ l then v else f a
theorem vr_up_in {α : Type} {f : Nat → α} {l : List Nat} {v : α} {a : Nat} (h : a ∈ l) : vr_up f l v a = v := if_pos h
theorem vr_up_ne {α : Type} {f : Nat → α} {l : List Nat} {v : α} {a : Nat} (h : a ∉ l) : vr_up f l v a = f a := if_neg h
theorem vr_rows {L l : List Nat} {f : Nat → va_E} {e : va_E} (h : ∀ a, a ∈ l → a ∉ L) : va_pl L f ++ l.map (fun a => (a, e)) = va_pl (L ++ l) (vr_up f l e) := by
  unfold va_pl
  rw [List.map_append]
  congr 1
  · apply List.map_congr_left
    intro a ha
    rw [vr_up_ne (fun q => h a q ha)]
  · apply List.map_congr_left
    intro a ha
    rw [vr_up_in ha]
theorem vr_lay {X rows : va_W} {x : Nat × va_E} {pl : va_W} {D : va_G} {cl : List vw_C} {H : Heap} (hP : va_P D cl (((X ++ pl) ++ [x]) ++ rows) H) : va_P D cl ((X ++ [x]) ++ (pl ++ rows)) H := by
  rw [List.append_assoc (X ++ pl)] at hP
  have h := va_P.swap hP
  rw [← List.append_assoc X] at h
  have h2 := va_P.swap h
  rw [List.append_assoc (X ++ [x])] at h2
  exact h2
theorem vr_layD {X rows : va_W} {x : Nat × va_E} {pl : va_W} {A : Nat → Prop} (hD : va_D A (((X ++ pl) ++ [x]) ++ rows)) : va_D A ((X ++ [x]) ++ (pl ++ rows)) := by
  rw [List.append_assoc (X ++ pl)] at hD
  have h := va_D.swap hD
  rw [← List.append_assoc X] at h
  have h2 := va_D.swap h
  rw [List.append_assoc (X ++ [x])] at h2
  exact h2
theorem vr_outer (c : ClassId) (N h0 : Nat) : ∀ i : Nat, Jvm.Free.Multi.outerC c N h0 i = arrV c N (fun j => va_rf (if j < i then some (h0 + 1 + j) else none))
  | 0 => by
    show ({ cls := c, slots := Array.replicate N .null, vm := .none } : Cell) = _
    rw [arrV_new]
    refine congrArg (arrV c N) (funext fun j => ?_)
    simp [va_rf]
  | i + 1 => by
    show (Jvm.Free.Multi.outerC c N h0 i).setSlot i (.ref (h0 + 1 + i)) = _
    rw [vr_outer c N h0 i, arrV_store]
    refine congrArg (arrV c N) (funext fun j => ?_)
    by_cases e : j = i
    · subst e
      simp [updV, va_rf]
    · by_cases h : j < i
      · simp [updV, e, h, Nat.lt_succ_of_lt h]
      · simp [updV, e, h, show ¬ j < i + 1 by omega]
section VGM
variable {p : Program} {l : Launch} {e : Env} {R : Room} {s : State} {m : MethodId} {args : Array Value} {below : List Frame} {meth : Method} {c : Code} {H : Heap} {locs : List Loc} {cells slots : Nat} {Q : State → Prop}
variable {cc : ByteArray} {pc : Nat} {ls : Array Slot} {rest : List Value} {D : va_G} {cl : List vw_C} {A : Nat → Prop} {a : Nat} {tys : List (ClassId × FieldType)} {ws : va_W} {H0 : Heap}
theorem va_mna {X : va_W} {L : List Nat} {f : Nat → va_E} {cc : ByteArray} (hexec : p.tables.exec = Jvm.exec) (hb : c.code = cc) {own : String} {index : Nat} {ty : FieldType} {cy : ClassId} (hown : s.vm.findClass own = some m.cls) (hclink : (Cond.classLink own index ("[" ++ (FieldType.array ty).toString)).before args s = true) (hover : va_AOA ty s) (harr : (Cond.arrayClass ty).before args s = true) (hcy : s.vm.findClass (FieldType.array ty).toString = some cy)
    (hK : va_K D cl tys s) (hP : va_P D cl (X ++ va_pl L f) H) (hD : va_D A (X ++ va_pl L f)) (hS : va_S A H0 H locs) (hA : ∀ q, H0.size ≤ q → A q) {n k : Int32} {N' K' : Nat} {z : vp_A} (hn : ¬ n < 0) (hk : ¬ k < 0) (hN : n.toNatClampNeg = N') (hM : k.toNatClampNeg = K')
    (hb1 : N' * 4 ≤ 536870912) (hb2 : K' * componentBytes ty ≤ 536870912) (hb3 : K' ≤ 536870912) (hdf : fits ty (defaultValue ty) = true) (hdd : (defaultValue ty).isDefault = true) (hcells : cells + (1 + N') ≤ R.cells) (hslots : slots + (N' + N' * K') ≤ R.slots) (hz : ∀ c : ClassId, Jvm.Free.Multi.innerC c K' (defaultValue ty) = vp_cell c z) (hdg : decode cc pc = .ok (.multianewarray index 2, 4))
    (kk : ∀ (q : Nat) (r : Nat → Nat) (cA : ClassId) (H1 : Heap), (∀ i j : Nat, i < N' → j < N' → r i = r j → i = j) → (∀ i : Nat, i < N' → r i ∉ L) → va_K D cl (tys ++ [(cA, .array ty)]) s →
      va_P D cl ((X ++ [(q, .inl (cA, N', .inr (.inr (.inr (.inr (fun i => if i < N' then some (r i) else none))))))]) ++ va_pl (L ++ (List.range N').map r) (vr_up f ((List.range N').map r) (.inl (cy, z)))) H1 → va_D A ((X ++ [(q, .inl (cA, N', .inr (.inr (.inr (.inr (fun i => if i < N' then some (r i) else none))))))]) ++ va_pl (L ++ (List.range N').map r) (vr_up f ((List.range N').map r) (.inl (cy, z)))) → va_S A H0 H1 locs →
      W p l e R s m args below meth c H1 locs (cells + 1 + N') (slots + N' + N' * K') Q (F0 m (pc + 4) ls (.ref q :: rest))) : W p l e R s m args below meth c H locs cells slots Q (F0 m pc ls (.int k :: .int n :: rest)) := by
  subst hN
  subst hM
  intro T hT Xs
  obtain ⟨vm₁, cA, comp, -, fA, fC, hO, -, X', step⟩ := Xs.multianewarray2F hexec hown hclink (va_AOA.use hover) harr (g := F0 m pc ls (.int k :: .int n :: rest)) rfl (by rw [hb]; exact hdg) rfl hn hk hb1 hb2 hb3 hdf hdd hcells hslots
  have ec : some cy = some comp := hcy.symm.trans fC
  cases ec
  generalize hF : Jvm.Free.Multi.fill (T.setVm vm₁) cA cy n.toNatClampNeg k.toNatClampNeg (defaultValue ty) n.toNatClampNeg = F at X' step
  have hTh : (T.setVm vm₁).heap = H := hT
  obtain ⟨f1, f2, -, -⟩ := Jvm.Free.Multi.fill_facts (T.setVm vm₁) cA cy n.toNatClampNeg k.toNatClampNeg (defaultValue ty) n.toNatClampNeg
  rw [hF, hTh] at f1 f2
  have hold : ∀ x : Nat, x < H.size → F.heap[x]? = H[x]? := fun x hx => by
    have := Jvm.Free.Multi.fill_old (T.setVm vm₁) cA cy n.toNatClampNeg k.toNatClampNeg (defaultValue ty) (a := x) (by rw [hTh]; exact hx) n.toNatClampNeg
    rw [hF, hTh] at this
    exact this
  have hrow : ∀ j : Nat, j < n.toNatClampNeg → F.heap[H.size + 1 + j]? = some (vp_cell cy z) := fun j hj => by
    have := Jvm.Free.Multi.fill_inner (T.setVm vm₁) cA cy n.toNatClampNeg k.toNatClampNeg (defaultValue ty) n.toNatClampNeg j hj
    rw [hF, hTh, hz] at this
    exact this
  have hout : Jvm.Free.Multi.outerC cA n.toNatClampNeg H.size n.toNatClampNeg = vp_cell cA (n.toNatClampNeg, .inr (.inr (.inr (.inr (fun i => if i < n.toNatClampNeg then some (H.size + 1 + i) else none))))) := by
    rw [vp_cell_q]
    exact vr_outer cA n.toNatClampNeg H.size n.toNatClampNeg
  rw [hout] at f2
  have hlt : ∀ a, a ∈ L → a < H.size := fun a ha => by
    obtain ⟨k9, hk9⟩ := va_pl_get (X := X) (f := f) ha
    exact (hP k9 _ hk9).lt
  have hnl : ∀ i : Nat, i < n.toNatClampNeg → H.size + 1 + i ∉ L := fun i _ h => by
    have := hlt _ h
    omega
  have hnm : ∀ a, a ∈ (List.range n.toNatClampNeg).map (fun i => H.size + 1 + i) → a ∉ L := fun a ha h => by
    obtain ⟨i, -, rfl⟩ := List.mem_map.mp ha
    have := hlt _ h
    omega
  have hP0 : va_P D cl (X ++ va_pl L f) F.heap := hP.kept (fun k9 x hx => hold x.1 ((hP k9 x hx).lt))
  have hP1 : va_P D cl ((X ++ va_pl L f) ++ [(H.size, .inl (cA, n.toNatClampNeg, .inr (.inr (.inr (.inr (fun i => if i < n.toNatClampNeg then some (H.size + 1 + i) else none))))))]) F.heap := hP0.app (fun k9 x hx => by
    have h0 : k9 < 1 := (List.getElem?_eq_some_iff.mp hx).1
    rw [show k9 = 0 by omega] at hx
    cases hx
    exact f2)
  have hP2 : va_P D cl (((X ++ va_pl L f) ++ [(H.size, .inl (cA, n.toNatClampNeg, .inr (.inr (.inr (.inr (fun i => if i < n.toNatClampNeg then some (H.size + 1 + i) else none))))))]) ++ ((List.range n.toNatClampNeg).map (fun i => H.size + 1 + i)).map (fun a => (a, .inl (cy, z)))) F.heap := hP1.app (fun k9 x hx => by
    obtain ⟨a, ha, rfl⟩ := List.mem_map.mp (List.mem_of_getElem? hx)
    obtain ⟨i, hi, rfl⟩ := List.mem_map.mp ha
    exact hrow i (List.mem_range.mp hi))
  have hD2 : va_D A (((X ++ va_pl L f) ++ [(H.size, .inl (cA, n.toNatClampNeg, .inr (.inr (.inr (.inr (fun i => if i < n.toNatClampNeg then some (H.size + 1 + i) else none))))))]) ++ ((List.range n.toNatClampNeg).map (fun i => H.size + 1 + i)).map (fun a => (a, .inl (cy, z)))) := by
    have hD1 := hD.push (e := .inl (cA, n.toNatClampNeg, .inr (.inr (.inr (.inr (fun i => if i < n.toNatClampNeg then some (H.size + 1 + i) else none)))))) hP rfl (hA _ hS.1)
    generalize hW1 : (X ++ va_pl L f) ++ [(H.size, .inl (cA, n.toNatClampNeg, .inr (.inr (.inr (.inr (fun i => if i < n.toNatClampNeg then some (H.size + 1 + i) else none))))))] = W1 at hD1 hP1 ⊢
    have hle : ∀ (k9 : Nat) (x : Nat × va_E), W1[k9]? = some x → x.1 ≤ H.size := fun k9 x hx => by
      rw [← hW1] at hx
      by_cases hl : k9 < (X ++ va_pl L f).length
      · rw [List.getElem?_append_left hl] at hx
        exact Nat.le_of_lt ((hP k9 x hx).lt)
      · rw [List.getElem?_append_right (by omega)] at hx
        have h0 : k9 - (X ++ va_pl L f).length < 1 := (List.getElem?_eq_some_iff.mp hx).1
        rw [show k9 - (X ++ va_pl L f).length = 0 by omega] at hx
        cases hx
        exact Nat.le_refl _
    have hr : ∀ (k9 : Nat) (x : Nat × va_E), (((List.range n.toNatClampNeg).map (fun i => H.size + 1 + i)).map (fun a => ((a, .inl (cy, z)) : Nat × va_E)))[k9]? = some x → x.1 = H.size + 1 + k9 := fun k9 x hx => by
      rw [List.getElem?_map, List.getElem?_map] at hx
      by_cases h9 : k9 < n.toNatClampNeg
      · rw [List.getElem?_range h9] at hx
        cases hx
        rfl
      · have hn0 : (List.range n.toNatClampNeg)[k9]? = none := List.getElem?_eq_none (by rw [List.length_range]; omega)
        rw [hn0] at hx
        cases hx
    refine ⟨fun i j x y hi hj hxy => ?_, fun k9 x hx => ?_⟩
    · by_cases h1 : i < W1.length <;> by_cases h2 : j < W1.length
      · rw [List.getElem?_append_left h1] at hi
        rw [List.getElem?_append_left h2] at hj
        exact hD1.1 i j x y hi hj hxy
      · rw [List.getElem?_append_left h1] at hi
        rw [List.getElem?_append_right (by omega)] at hj
        have := hle _ _ hi
        have := hr _ _ hj
        omega
      · rw [List.getElem?_append_right (by omega)] at hi
        rw [List.getElem?_append_left h2] at hj
        have := hle _ _ hj
        have := hr _ _ hi
        omega
      · rw [List.getElem?_append_right (by omega)] at hi hj
        have := hr _ _ hi
        have := hr _ _ hj
        omega
    · by_cases h1 : k9 < W1.length
      · rw [List.getElem?_append_left h1] at hx
        exact hD1.2 k9 x hx
      · rw [List.getElem?_append_right (by omega)] at hx
        have := hr _ _ hx
        exact hA _ (by have := hS.1; omega)
  have hAr : ArrOfT s cA (.array ty) := fun N9 z9 => by
    obtain ⟨-, k9, hk9, cm9, hkk9⟩ := (hO 0 0 0).1
    exact ⟨(fun q hq => by cases hq), k9, hk9, cm9, hkk9⟩
  have hK2 : va_K D cl (tys ++ [(cA, .array ty)]) s := ⟨hK.1, fun k9 x hx => by
    by_cases hl : k9 < tys.length
    · rw [List.getElem?_append_left hl] at hx
      exact hK.2 k9 x hx
    · rw [List.getElem?_append_right (by omega)] at hx
      have h0 : k9 - tys.length < 1 := (List.getElem?_eq_some_iff.mp hx).1
      rw [show k9 - tys.length = 0 by omega] at hx
      cases hx
      exact ⟨hAr, fA⟩⟩
  obtain ⟨t, a1, b1⟩ := kk H.size (fun i => H.size + 1 + i) cA F.heap (fun i j _ _ h => by have h9 : H.size + 1 + i = H.size + 1 + j := h; omega) hnl hK2 (by rw [← vr_rows hnm]; exact vr_lay hP2) (by rw [← vr_rows hnm]; exact vr_layD hD2) ⟨by rw [f1]; have := hS.1; omega, fun x h1 h2 => (hold x (Nat.lt_of_lt_of_le h1 hS.1)).trans (hS.2.1 x h1 h2), hS.2.2⟩ F rfl X'
  refine ⟨t, step t ?_, b1⟩
  have e : T.heap.size = H.size := by rw [hT]
  rw [e]
  exact a1
end VGM
/-! ===== END ===== -/

/-! ===== BEGIN printed: names, fields, word lists, decode rows ===== -/
def RX0 : String := "LandReform$Giving"
def TX0 : u_T := fun k => match k with
  | 0 => ("LandReform$Giving", "leastSums", "[I", true)
  | 1 => ("LandReform$Giving", "distances", "[[I", true)
  | _ => ("LandReform$Giving", "size", "I", false)
def tyX0 : Nat → FieldType := fun k => match k with
  | 0 => .array .int
  | 1 => .array (.array .int)
  | _ => .int
abbrev wsX00 : List Cond := u_ws RX0 TX0 3
theorem nmX0 : ∀ a, a < 3 → ∀ b, b < 3 → a ≠ b → (TX0 a).2.1 ≠ (TX0 b).2.1 := by decide +kernel
theorem tyX0_ok : ∀ k, k < 3 → parseFieldDescriptor (TX0 k).2.2.1 = some (tyX0 k) := by decide +kernel
abbrev cX0_init : ByteArray := prog_2_method_1_code
def yX0_init : MethodName := ⟨RX0, "<init>", "()V"⟩
abbrev cX0_weigh : ByteArray := prog_2_method_2_code
def yX0_weigh : MethodName := ⟨RX0, "weigh", "(IIILLandReform$Land;LLandReform$People;)V"⟩
abbrev cX0_leastSum : ByteArray := prog_2_method_3_code
def yX0_leastSum : MethodName := ⟨RX0, "leastSum", "()I"⟩
abbrev cX0_choice : ByteArray := prog_2_method_4_code
def yX0_choice : MethodName := ⟨RX0, "choice", "(I)I"⟩
abbrev cX0_nearest : ByteArray := prog_2_method_5_code
def yX0_nearest : MethodName := ⟨RX0, "nearest", "(I)I"⟩
abbrev cX0_sumWith : ByteArray := prog_2_method_6_code
def yX0_sumWith : MethodName := ⟨RX0, "sumWith", "(II)I"⟩
def RX1 : String := "LandReform$Holding"
def TX1 : u_T := fun k => match k with
  | 0 => ("LandReform$Holding", "countedOwners", "[I", true)
  | 1 => ("LandReform$Holding", "counting", "[I", true)
  | 2 => ("LandReform$Holding", "standardSteps", "[I", true)
  | 3 => ("LandReform$Holding", "areaSteps", "[I", true)
  | 4 => ("LandReform$Holding", "size", "I", false)
  | 5 => ("LandReform$Holding", "members", "I", false)
  | 6 => ("LandReform$Holding", "standards", "I", false)
  | 7 => ("LandReform$Holding", "allowed", "I", false)
  | 8 => ("LandReform$Holding", "keptSet", "I", false)
  | _ => ("LandReform$Holding", "keptArea", "I", false)
def tyX1 : Nat → FieldType := fun k => match k with
  | 0 => .array .int
  | 1 => .array .int
  | 2 => .array .int
  | 3 => .array .int
  | 4 => .int
  | 5 => .int
  | 6 => .int
  | 7 => .int
  | 8 => .int
  | _ => .int
abbrev wsX10 : List Cond := u_ws RX1 TX1 10
theorem nmX1 : ∀ a, a < 10 → ∀ b, b < 10 → a ≠ b → (TX1 a).2.1 ≠ (TX1 b).2.1 := by decide +kernel
theorem tyX1_ok : ∀ k, k < 10 → parseFieldDescriptor (TX1 k).2.2.1 = some (tyX1 k) := by decide +kernel
abbrev cX1_init : ByteArray := prog_3_method_1_code
def yX1_init : MethodName := ⟨RX1, "<init>", "()V"⟩
abbrev cX1_countedOwner : ByteArray := prog_3_method_2_code
def yX1_countedOwner : MethodName := ⟨RX1, "countedOwner", "(ILLandReform$Land;LLandReform$People;LLandReform$Law;)I"⟩
abbrev cX1_countOwners : ByteArray := prog_3_method_3_code
def yX1_countOwners : MethodName := ⟨RX1, "countOwners", "(LLandReform$Land;LLandReform$People;LLandReform$Law;)V"⟩
abbrev cX1_gather : ByteArray := prog_3_method_4_code
def yX1_gather : MethodName := ⟨RX1, "gather", "(ILLandReform$Land;LLandReform$People;LLandReform$Law;)V"⟩
abbrev cX1_above : ByteArray := prog_3_method_5_code
def yX1_above : MethodName := ⟨RX1, "above", "()I"⟩
abbrev cX1_choose : ByteArray := prog_3_method_6_code
def yX1_choose : MethodName := ⟨RX1, "choose", "(LLandReform$Land;LLandReform$Law;)Z"⟩
abbrev cX1_prepareSteps : ByteArray := prog_3_method_7_code
def yX1_prepareSteps : MethodName := ⟨RX1, "prepareSteps", "(LLandReform$Land;LLandReform$Law;)V"⟩
abbrev cX1_keeps : ByteArray := prog_3_method_8_code
def yX1_keeps : MethodName := ⟨RX1, "keeps", "(I)Z"⟩
abbrev cX1_takenField : ByteArray := prog_3_method_9_code
def yX1_takenField : MethodName := ⟨RX1, "takenField", "(I)I"⟩
def RX2 : String := "LandReform$Land"
def TX2 : u_T := fun k => match k with
  | 0 => ("LandReform$Land", "places", "[I", true)
  | 1 => ("LandReform$Land", "areas", "[I", true)
  | 2 => ("LandReform$Land", "soils", "[I", true)
  | 3 => ("LandReform$Land", "crops", "[I", true)
  | 4 => ("LandReform$Land", "firstOwners", "[I", true)
  | 5 => ("LandReform$Land", "owners", "[I", true)
  | 6 => ("LandReform$Land", "size", "I", false)
  | 7 => ("LandReform$Land", "movedFields", "[I", true)
  | 8 => ("LandReform$Land", "receivers", "[I", true)
  | 9 => ("LandReform$Land", "days", "[I", true)
  | 10 => ("LandReform$Land", "transfers", "I", false)
  | _ => ("LandReform$Land", "today", "I", false)
def tyX2 : Nat → FieldType := fun k => match k with
  | 0 => .array .int
  | 1 => .array .int
  | 2 => .array .int
  | 3 => .array .int
  | 4 => .array .int
  | 5 => .array .int
  | 6 => .int
  | 7 => .array .int
  | 8 => .array .int
  | 9 => .array .int
  | 10 => .int
  | _ => .int
abbrev wsX20 : List Cond := u_ws RX2 TX2 12
theorem nmX2 : ∀ a, a < 12 → ∀ b, b < 12 → a ≠ b → (TX2 a).2.1 ≠ (TX2 b).2.1 := by decide +kernel
theorem tyX2_ok : ∀ k, k < 12 → parseFieldDescriptor (TX2 k).2.2.1 = some (tyX2 k) := by decide +kernel
abbrev cX2_init : ByteArray := prog_4_method_1_code
def yX2_init : MethodName := ⟨RX2, "<init>", "()V"⟩
abbrev cX2_has : ByteArray := prog_4_method_2_code
def yX2_has : MethodName := ⟨RX2, "has", "(I)Z"⟩
abbrev cX2_hasRow : ByteArray := prog_4_method_3_code
def yX2_hasRow : MethodName := ⟨RX2, "hasRow", "(II)Z"⟩
abbrev cX2_placeOf : ByteArray := prog_4_method_4_code
def yX2_placeOf : MethodName := ⟨RX2, "placeOf", "(I)I"⟩
abbrev cX2_areaOf : ByteArray := prog_4_method_5_code
def yX2_areaOf : MethodName := ⟨RX2, "areaOf", "(I)I"⟩
abbrev cX2_soilOf : ByteArray := prog_4_method_6_code
def yX2_soilOf : MethodName := ⟨RX2, "soilOf", "(I)I"⟩
abbrev cX2_cropOf : ByteArray := prog_4_method_7_code
def yX2_cropOf : MethodName := ⟨RX2, "cropOf", "(I)I"⟩
abbrev cX2_ownerOf : ByteArray := prog_4_method_8_code
def yX2_ownerOf : MethodName := ⟨RX2, "ownerOf", "(I)I"⟩
abbrev cX2_standardOf : ByteArray := prog_4_method_9_code
def yX2_standardOf : MethodName := ⟨RX2, "standardOf", "(ILLandReform$Law;)I"⟩
abbrev cX2_distance : ByteArray := prog_4_method_10_code
def yX2_distance : MethodName := ⟨RX2, "distance", "(II)I"⟩
abbrev cX2_transfersLeft : ByteArray := prog_4_method_11_code
def yX2_transfersLeft : MethodName := ⟨RX2, "transfersLeft", "()I"⟩
abbrev cX2_add : ByteArray := prog_4_method_12_code
def yX2_add : MethodName := ⟨RX2, "add", "(IIIII)I"⟩
abbrev cX2_move : ByteArray := prog_4_method_13_code
def yX2_move : MethodName := ⟨RX2, "move", "(II)V"⟩
abbrev cX2_transfersOf : ByteArray := prog_4_method_14_code
def yX2_transfersOf : MethodName := ⟨RX2, "transfersOf", "(I)I"⟩
abbrev cX2_ownerAsDayEnded : ByteArray := prog_4_method_15_code
def yX2_ownerAsDayEnded : MethodName := ⟨RX2, "ownerAsDayEnded", "(II)I"⟩
abbrev cX2_firstFieldOf : ByteArray := prog_4_method_16_code
def yX2_firstFieldOf : MethodName := ⟨RX2, "firstFieldOf", "(I)I"⟩
def RX3 : String := "LandReform$Law"
def TX3 : u_T := fun k => match k with
  | 0 => ("LandReform$Law", "soilValues", "[I", true)
  | 1 => ("LandReform$Law", "ceiling", "I", false)
  | 2 => ("LandReform$Law", "family", "I", false)
  | 3 => ("LandReform$Law", "lastFreeDay", "I", false)
  | 4 => ("LandReform$Law", "exemptCrops", "I", false)
  | 5 => ("LandReform$Law", "price", "I", false)
  | 6 => ("LandReform$Law", "years", "I", false)
  | 7 => ("LandReform$Law", "shares", "I", false)
  | _ => ("LandReform$Law", "statements", "I", false)
def tyX3 : Nat → FieldType := fun k => match k with
  | 0 => .array .int
  | 1 => .int
  | 2 => .int
  | 3 => .int
  | 4 => .int
  | 5 => .int
  | 6 => .int
  | 7 => .int
  | _ => .int
abbrev wsX30 : List Cond := u_ws RX3 TX3 9
theorem nmX3 : ∀ a, a < 9 → ∀ b, b < 9 → a ≠ b → (TX3 a).2.1 ≠ (TX3 b).2.1 := by decide +kernel
theorem tyX3_ok : ∀ k, k < 9 → parseFieldDescriptor (TX3 k).2.2.1 = some (tyX3 k) := by decide +kernel
abbrev cX3_init : ByteArray := prog_5_method_1_code
def yX3_init : MethodName := ⟨RX3, "<init>", "()V"⟩
abbrev cX3_clear : ByteArray := prog_5_method_2_code
def yX3_clear : MethodName := ⟨RX3, "clear", "()V"⟩
abbrev cX3_rule : ByteArray := prog_5_method_3_code
def yX3_rule : MethodName := ⟨RX3, "rule", "(III)V"⟩
abbrev cX3_exemptCrop : ByteArray := prog_5_method_4_code
def yX3_exemptCrop : MethodName := ⟨RX3, "exemptCrop", "(I)V"⟩
abbrev cX3_setSoil : ByteArray := prog_5_method_5_code
def yX3_setSoil : MethodName := ⟨RX3, "setSoil", "(II)V"⟩
abbrev cX3_soilIs : ByteArray := prog_5_method_6_code
def yX3_soilIs : MethodName := ⟨RX3, "soilIs", "(I)I"⟩
abbrev cX3_exempts : ByteArray := prog_5_method_7_code
def yX3_exempts : MethodName := ⟨RX3, "exempts", "(I)Z"⟩
abbrev cX3_allows : ByteArray := prog_5_method_8_code
def yX3_allows : MethodName := ⟨RX3, "allows", "(I)I"⟩
def RX4 : String := "LandReform$People"
def TX4 : u_T := fun k => match k with
  | 0 => ("LandReform$People", "houses", "[I", true)
  | 1 => ("LandReform$People", "homes", "[I", true)
  | 2 => ("LandReform$People", "kin", "[J", true)
  | 3 => ("LandReform$People", "size", "I", false)
  | _ => ("LandReform$People", "pairs", "I", false)
def tyX4 : Nat → FieldType := fun k => match k with
  | 0 => .array .int
  | 1 => .array .int
  | 2 => .array .long
  | 3 => .int
  | _ => .int
abbrev wsX40 : List Cond := u_ws RX4 TX4 5
theorem nmX4 : ∀ a, a < 5 → ∀ b, b < 5 → a ≠ b → (TX4 a).2.1 ≠ (TX4 b).2.1 := by decide +kernel
theorem tyX4_ok : ∀ k, k < 5 → parseFieldDescriptor (TX4 k).2.2.1 = some (tyX4 k) := by decide +kernel
abbrev cX4_init : ByteArray := prog_6_method_1_code
def yX4_init : MethodName := ⟨RX4, "<init>", "()V"⟩
abbrev cX4_has : ByteArray := prog_6_method_2_code
def yX4_has : MethodName := ⟨RX4, "has", "(I)Z"⟩
abbrev cX4_hasRow : ByteArray := prog_6_method_3_code
def yX4_hasRow : MethodName := ⟨RX4, "hasRow", "(II)Z"⟩
abbrev cX4_houseOf : ByteArray := prog_6_method_4_code
def yX4_houseOf : MethodName := ⟨RX4, "houseOf", "(I)I"⟩
abbrev cX4_homeOf : ByteArray := prog_6_method_5_code
def yX4_homeOf : MethodName := ⟨RX4, "homeOf", "(I)I"⟩
abbrev cX4_add : ByteArray := prog_6_method_6_code
def yX4_add : MethodName := ⟨RX4, "add", "(II)I"⟩
abbrev cX4_bind : ByteArray := prog_6_method_7_code
def yX4_bind : MethodName := ⟨RX4, "bind", "(II)Z"⟩
abbrev cX4_areKin : ByteArray := prog_6_method_8_code
def yX4_areKin : MethodName := ⟨RX4, "areKin", "(II)Z"⟩
abbrev cX4_areOfOneFamily : ByteArray := prog_6_method_9_code
def yX4_areOfOneFamily : MethodName := ⟨RX4, "areOfOneFamily", "(II)Z"⟩
abbrev cX4_membersOf : ByteArray := prog_6_method_10_code
def yX4_membersOf : MethodName := ⟨RX4, "membersOf", "(I)I"⟩
def RX5 : String := "LandReform$Reader"
def TX5 : u_T := fun k => match k with
  | 0 => ("LandReform$Reader", "text", "[B", true)
  | 1 => ("LandReform$Reader", "length", "I", false)
  | 2 => ("LandReform$Reader", "tokenStart", "I", false)
  | 3 => ("LandReform$Reader", "tokenEnd", "I", false)
  | _ => ("LandReform$Reader", "fault", "I", false)
def tyX5 : Nat → FieldType := fun k => match k with
  | 0 => .array .byte
  | 1 => .int
  | 2 => .int
  | 3 => .int
  | _ => .int
abbrev wsX50 : List Cond := u_ws RX5 TX5 5
theorem nmX5 : ∀ a, a < 5 → ∀ b, b < 5 → a ≠ b → (TX5 a).2.1 ≠ (TX5 b).2.1 := by decide +kernel
theorem tyX5_ok : ∀ k, k < 5 → parseFieldDescriptor (TX5 k).2.2.1 = some (tyX5 k) := by decide +kernel
abbrev cX5_init : ByteArray := prog_7_method_1_code
def yX5_init : MethodName := ⟨RX5, "<init>", "([B)V"⟩
abbrev cX5_readAct : ByteArray := prog_7_method_2_code
def yX5_readAct : MethodName := ⟨RX5, "readAct", "(ILLandReform$Law;)Z"⟩
abbrev cX5_readStatement : ByteArray := prog_7_method_3_code
def yX5_readStatement : MethodName := ⟨RX5, "readStatement", "(LLandReform$Law;)Z"⟩
abbrev cX5_nextToken : ByteArray := prog_7_method_4_code
def yX5_nextToken : MethodName := ⟨RX5, "nextToken", "()V"⟩
abbrev cX5_keyword : ByteArray := prog_7_method_5_code
def yX5_keyword : MethodName := ⟨RX5, "keyword", "()I"⟩
abbrev cX5_spells : ByteArray := prog_7_method_6_code
def yX5_spells : MethodName := ⟨RX5, "spells", "(Ljava/lang/String;)Z"⟩
abbrev cX5_number : ByteArray := prog_7_method_7_code
def yX5_number : MethodName := ⟨RX5, "number", "(II)I"⟩
abbrev cX5_isBlank : ByteArray := prog_7_method_8_code
def yX5_isBlank : MethodName := ⟨RX5, "isBlank", "(B)Z"⟩
abbrev cX5_isLetter : ByteArray := prog_7_method_9_code
def yX5_isLetter : MethodName := ⟨RX5, "isLetter", "(B)Z"⟩
abbrev cX5_isDigit : ByteArray := prog_7_method_10_code
def yX5_isDigit : MethodName := ⟨RX5, "isDigit", "(B)Z"⟩
def RX6 : String := "LandReform$Rings"
def TX6 : u_T := fun k => match k with
  | 0 => ("LandReform$Rings", "homes", "[I", true)
  | 1 => ("LandReform$Rings", "fieldsHad", "[I", true)
  | 2 => ("LandReform$Rings", "placesHad", "[I", true)
  | 3 => ("LandReform$Rings", "fieldsGot", "[I", true)
  | 4 => ("LandReform$Rings", "pointedAt", "[I", true)
  | 5 => ("LandReform$Rings", "size", "I", false)
  | _ => ("LandReform$Rings", "closed", "I", false)
def tyX6 : Nat → FieldType := fun k => match k with
  | 0 => .array .int
  | 1 => .array .int
  | 2 => .array .int
  | 3 => .array .int
  | 4 => .array .int
  | 5 => .int
  | _ => .int
abbrev wsX60 : List Cond := u_ws RX6 TX6 7
theorem nmX6 : ∀ a, a < 7 → ∀ b, b < 7 → a ≠ b → (TX6 a).2.1 ≠ (TX6 b).2.1 := by decide +kernel
theorem tyX6_ok : ∀ k, k < 7 → parseFieldDescriptor (TX6 k).2.2.1 = some (tyX6 k) := by decide +kernel
abbrev cX6_init : ByteArray := prog_8_method_1_code
def yX6_init : MethodName := ⟨RX6, "<init>", "()V"⟩
abbrev cX6_close : ByteArray := prog_8_method_2_code
def yX6_close : MethodName := ⟨RX6, "close", "(IILLandReform$Land;LLandReform$People;)Z"⟩
abbrev cX6_point : ByteArray := prog_8_method_3_code
def yX6_point : MethodName := ⟨RX6, "point", "()V"⟩
abbrev cX6_holderOfNearest : ByteArray := prog_8_method_4_code
def yX6_holderOfNearest : MethodName := ⟨RX6, "holderOfNearest", "(I)I"⟩
abbrev cX6_leaveInRings : ByteArray := prog_8_method_5_code
def yX6_leaveInRings : MethodName := ⟨RX6, "leaveInRings", "()V"⟩
abbrev cX6_leastInRing : ByteArray := prog_8_method_6_code
def yX6_leastInRing : MethodName := ⟨RX6, "leastInRing", "(I)I"⟩
abbrev cX6_fieldFor : ByteArray := prog_8_method_7_code
def yX6_fieldFor : MethodName := ⟨RX6, "fieldFor", "(I)I"⟩
abbrev cX6_changes : ByteArray := prog_8_method_8_code
def yX6_changes : MethodName := ⟨RX6, "changes", "()I"⟩
abbrev cX6_winnerOf : ByteArray := prog_8_method_9_code
def yX6_winnerOf : MethodName := ⟨RX6, "winnerOf", "(I)I"⟩
def RX7 : String := "LandReform$Sale"
def TX7 : u_T := fun k => match k with
  | 0 => ("LandReform$Sale", "soldField", "I", true)
  | 1 => ("LandReform$Sale", "buyer", "I", true)
  | 2 => ("LandReform$Sale", "owed", "I", true)
  | 3 => ("LandReform$Sale", "part", "I", true)
  | 4 => ("LandReform$Sale", "rest", "I", true)
  | 5 => ("LandReform$Sale", "paid", "I", false)
  | 6 => ("LandReform$Sale", "partsLeft", "I", false)
  | 7 => ("LandReform$Sale", "partsBeforeRest", "I", false)
  | _ => ("LandReform$Sale", "yearsPutOff", "I", false)
def tyX7 : Nat → FieldType := fun k => match k with
  | 0 => .int
  | 1 => .int
  | 2 => .int
  | 3 => .int
  | 4 => .int
  | 5 => .int
  | 6 => .int
  | 7 => .int
  | _ => .int
abbrev wsX70 : List Cond := u_ws RX7 TX7 9
theorem nmX7 : ∀ a, a < 9 → ∀ b, b < 9 → a ≠ b → (TX7 a).2.1 ≠ (TX7 b).2.1 := by decide +kernel
theorem tyX7_ok : ∀ k, k < 9 → parseFieldDescriptor (TX7 k).2.2.1 = some (tyX7 k) := by decide +kernel
abbrev cX7_init : ByteArray := prog_9_method_1_code
def yX7_init : MethodName := ⟨RX7, "<init>", "(IIII)V"⟩
abbrev cX7_pass : ByteArray := prog_9_method_2_code
def yX7_pass : MethodName := ⟨RX7, "pass", "(Z)I"⟩
def RX8 : String := "LandReform$Tape"
def TX8 : u_T := fun k => match k with
  | 0 => ("LandReform$Tape", "bytes", "[B", true)
  | _ => ("LandReform$Tape", "length", "I", false)
def tyX8 : Nat → FieldType := fun k => match k with
  | 0 => .array .byte
  | _ => .int
abbrev wsX80 : List Cond := u_ws RX8 TX8 2
theorem nmX8 : ∀ a, a < 2 → ∀ b, b < 2 → a ≠ b → (TX8 a).2.1 ≠ (TX8 b).2.1 := by decide +kernel
theorem tyX8_ok : ∀ k, k < 2 → parseFieldDescriptor (TX8 k).2.2.1 = some (tyX8 k) := by decide +kernel
abbrev cX8_init : ByteArray := prog_10_method_1_code
def yX8_init : MethodName := ⟨RX8, "<init>", "()V"⟩
abbrev cX8_room : ByteArray := prog_10_method_2_code
def yX8_room : MethodName := ⟨RX8, "room", "()I"⟩
abbrev cX8_append : ByteArray := prog_10_method_3_code
def yX8_append : MethodName := ⟨RX8, "append", "(I)V"⟩
def RX9 : String := "LandReform$Tenancies"
def TX9 : u_T := fun k => match k with
  | 0 => ("LandReform$Tenancies", "fields", "[I", true)
  | 1 => ("LandReform$Tenancies", "persons", "[I", true)
  | 2 => ("LandReform$Tenancies", "yearSets", "[I", true)
  | _ => ("LandReform$Tenancies", "size", "I", false)
def tyX9 : Nat → FieldType := fun k => match k with
  | 0 => .array .int
  | 1 => .array .int
  | 2 => .array .int
  | _ => .int
abbrev wsX90 : List Cond := u_ws RX9 TX9 4
theorem nmX9 : ∀ a, a < 4 → ∀ b, b < 4 → a ≠ b → (TX9 a).2.1 ≠ (TX9 b).2.1 := by decide +kernel
theorem tyX9_ok : ∀ k, k < 4 → parseFieldDescriptor (TX9 k).2.2.1 = some (tyX9 k) := by decide +kernel
abbrev cX9_init : ByteArray := prog_11_method_1_code
def yX9_init : MethodName := ⟨RX9, "<init>", "()V"⟩
abbrev cX9_tell : ByteArray := prog_11_method_2_code
def yX9_tell : MethodName := ⟨RX9, "tell", "(III)I"⟩
abbrev cX9_pairOf : ByteArray := prog_11_method_3_code
def yX9_pairOf : MethodName := ⟨RX9, "pairOf", "(II)I"⟩
abbrev cX9_tenantOf : ByteArray := prog_11_method_4_code
def yX9_tenantOf : MethodName := ⟨RX9, "tenantOf", "(III)I"⟩
def RX10 : String := "LandReform"
def TX10 : u_T := fun k => match k with
  | 0 => ("LandReform", "people", "LLandReform$People;", true)
  | 1 => ("LandReform", "land", "LLandReform$Land;", true)
  | 2 => ("LandReform", "tape", "LLandReform$Tape;", true)
  | 3 => ("LandReform", "reader", "LLandReform$Reader;", true)
  | 4 => ("LandReform", "holding", "LLandReform$Holding;", true)
  | 5 => ("LandReform", "tenancies", "LLandReform$Tenancies;", true)
  | 6 => ("LandReform", "giving", "LLandReform$Giving;", true)
  | 7 => ("LandReform", "rings", "LLandReform$Rings;", true)
  | 8 => ("LandReform", "sales", "[LLandReform$Sale;", true)
  | 9 => ("LandReform", "saleCount", "I", false)
  | 10 => ("LandReform", "law", "LLandReform$Law;", false)
  | _ => ("LandReform", "draft", "LLandReform$Law;", false)
def tyX10 : Nat → FieldType := fun k => match k with
  | 0 => .object "LandReform$People"
  | 1 => .object "LandReform$Land"
  | 2 => .object "LandReform$Tape"
  | 3 => .object "LandReform$Reader"
  | 4 => .object "LandReform$Holding"
  | 5 => .object "LandReform$Tenancies"
  | 6 => .object "LandReform$Giving"
  | 7 => .object "LandReform$Rings"
  | 8 => .array (.object "LandReform$Sale")
  | 9 => .int
  | 10 => .object "LandReform$Law"
  | _ => .object "LandReform$Law"
abbrev wsX100 : List Cond := u_ws RX10 TX10 12
theorem nmX10 : ∀ a, a < 12 → ∀ b, b < 12 → a ≠ b → (TX10 a).2.1 ≠ (TX10 b).2.1 := by decide +kernel
theorem tyX10_ok : ∀ k, k < 12 → parseFieldDescriptor (TX10 k).2.2.1 = some (tyX10 k) := by decide +kernel
abbrev cX10_init : ByteArray := prog_1_method_1_code
def yX10_init : MethodName := ⟨RX10, "<init>", "()V"⟩
abbrev cX10_person : ByteArray := prog_1_method_2_code
def yX10_person : MethodName := ⟨RX10, "person", "(II)I"⟩
abbrev cX10_akin : ByteArray := prog_1_method_3_code
def yX10_akin : MethodName := ⟨RX10, "akin", "(II)Z"⟩
abbrev cX10_field : ByteArray := prog_1_method_4_code
def yX10_field : MethodName := ⟨RX10, "field", "(IIIII)I"⟩
abbrev cX10_day : ByteArray := prog_1_method_5_code
def yX10_day : MethodName := ⟨RX10, "day", "(I)Z"⟩
abbrev cX10_transfer : ByteArray := prog_1_method_6_code
def yX10_transfer : MethodName := ⟨RX10, "transfer", "(II)Z"⟩
abbrev cX10_feed : ByteArray := prog_1_method_7_code
def yX10_feed : MethodName := ⟨RX10, "feed", "(IIIII)I"⟩
abbrev cX10_act : ByteArray := prog_1_method_8_code
def yX10_act : MethodName := ⟨RX10, "act", "(I)I"⟩
abbrev cX10_fault : ByteArray := prog_1_method_9_code
def yX10_fault : MethodName := ⟨RX10, "fault", "()I"⟩
abbrev cX10_told : ByteArray := prog_1_method_10_code
def yX10_told : MethodName := ⟨RX10, "told", "(II)I"⟩
abbrev cX10_owned : ByteArray := prog_1_method_11_code
def yX10_owned : MethodName := ⟨RX10, "owned", "(II)I"⟩
abbrev cX10_house : ByteArray := prog_1_method_12_code
def yX10_house : MethodName := ⟨RX10, "house", "(II)I"⟩
abbrev cX10_kept : ByteArray := prog_1_method_13_code
def yX10_kept : MethodName := ⟨RX10, "kept", "(II)I"⟩
abbrev cX10_taken : ByteArray := prog_1_method_14_code
def yX10_taken : MethodName := ⟨RX10, "taken", "(II)I"⟩
abbrev cX10_share : ByteArray := prog_1_method_15_code
def yX10_share : MethodName := ⟨RX10, "share", "(III)I"⟩
abbrev cX10_given : ByteArray := prog_1_method_16_code
def yX10_given : MethodName := ⟨RX10, "given", "(IIII)I"⟩
abbrev cX10_rings : ByteArray := prog_1_method_17_code
def yX10_rings : MethodName := ⟨RX10, "rings", "(III)I"⟩
abbrev cX10_swap : ByteArray := prog_1_method_18_code
def yX10_swap : MethodName := ⟨RX10, "swap", "(II)I"⟩
abbrev cX10_sell : ByteArray := prog_1_method_19_code
def yX10_sell : MethodName := ⟨RX10, "sell", "(II)I"⟩
abbrev cX10_year : ByteArray := prog_1_method_20_code
def yX10_year : MethodName := ⟨RX10, "year", "(IZ)I"⟩
abbrev cX10_sale : ByteArray := prog_1_method_21_code
def yX10_sale : MethodName := ⟨RX10, "sale", "(II)I"⟩
abbrev cX10_count : ByteArray := prog_1_method_22_code
def yX10_count : MethodName := ⟨RX10, "count", "(I)I"⟩
abbrev cX10_ringsClose : ByteArray := prog_1_method_23_code
def yX10_ringsClose : MethodName := ⟨RX10, "ringsClose", "(II)Z"⟩
abbrev cX10_saleNumbered : ByteArray := prog_1_method_24_code
def yX10_saleNumbered : MethodName := ⟨RX10, "saleNumbered", "(I)LLandReform$Sale;"⟩
abbrev cX10_isBelow : ByteArray := prog_1_method_25_code
def yX10_isBelow : MethodName := ⟨RX10, "isBelow", "(II)Z"⟩
def RX11 : String := "LandReformModel"
def TX11 : u_T := fun k => match k with
  | 0 => ("LandReformModel", "today", "I", false)
  | 1 => ("LandReformModel", "persons", "I", false)
  | 2 => ("LandReformModel", "fields", "I", false)
  | 3 => ("LandReformModel", "transfers", "I", false)
  | 4 => ("LandReformModel", "kin", "I", false)
  | 5 => ("LandReformModel", "house", "[I", true)
  | 6 => ("LandReformModel", "home", "[I", true)
  | 7 => ("LandReformModel", "isAkin", "[Z", true)
  | 8 => ("LandReformModel", "place", "[I", true)
  | 9 => ("LandReformModel", "area", "[I", true)
  | 10 => ("LandReformModel", "soil", "[I", true)
  | 11 => ("LandReformModel", "crop", "[I", true)
  | 12 => ("LandReformModel", "firstOwner", "[I", true)
  | 13 => ("LandReformModel", "transferred", "[I", true)
  | 14 => ("LandReformModel", "goesTo", "[I", true)
  | 15 => ("LandReformModel", "goesOn", "[I", true)
  | 16 => ("LandReformModel", "told", "[I", true)
  | 17 => ("LandReformModel", "many", "I", false)
  | 18 => ("LandReformModel", "tape", "[B", true)
  | 19 => ("LandReformModel", "text", "[B", true)
  | 20 => ("LandReformModel", "taped", "I", false)
  | 21 => ("LandReformModel", "size", "I", false)
  | 22 => ("LandReformModel", "at", "I", false)
  | 23 => ("LandReformModel", "fault", "I", false)
  | 24 => ("LandReformModel", "wordEnd", "I", false)
  | 25 => ("LandReformModel", "number", "I", false)
  | 26 => ("LandReformModel", "row", "[I", true)
  | 27 => ("LandReformModel", "bestSet", "I", false)
  | 28 => ("LandReformModel", "bestArea", "I", false)
  | 29 => ("LandReformModel", "pairs", "I", false)
  | 30 => ("LandReformModel", "pairField", "[I", true)
  | 31 => ("LandReformModel", "pairPerson", "[I", true)
  | 32 => ("LandReformModel", "pairYears", "[I", true)
  | 33 => ("LandReformModel", "way", "[I", true)
  | 34 => ("LandReformModel", "bestWay", "[I", true)
  | 35 => ("LandReformModel", "has", "[I", true)
  | 36 => ("LandReformModel", "gets", "[I", true)
  | 37 => ("LandReformModel", "points", "[I", true)
  | 38 => ("LandReformModel", "sales", "I", false)
  | 39 => ("LandReformModel", "saleField", "[I", true)
  | 40 => ("LandReformModel", "buyer", "[I", true)
  | 41 => ("LandReformModel", "owed", "[I", true)
  | 42 => ("LandReformModel", "parts", "[I", true)
  | 43 => ("LandReformModel", "paid", "[I", true)
  | 44 => ("LandReformModel", "left", "[I", true)
  | 45 => ("LandReformModel", "putOff", "[I", true)
  | _ => ("LandReformModel", "restAt", "[I", true)
def tyX11 : Nat → FieldType := fun k => match k with
  | 0 => .int
  | 1 => .int
  | 2 => .int
  | 3 => .int
  | 4 => .int
  | 5 => .array .int
  | 6 => .array .int
  | 7 => .array .boolean
  | 8 => .array .int
  | 9 => .array .int
  | 10 => .array .int
  | 11 => .array .int
  | 12 => .array .int
  | 13 => .array .int
  | 14 => .array .int
  | 15 => .array .int
  | 16 => .array .int
  | 17 => .int
  | 18 => .array .byte
  | 19 => .array .byte
  | 20 => .int
  | 21 => .int
  | 22 => .int
  | 23 => .int
  | 24 => .int
  | 25 => .int
  | 26 => .array .int
  | 27 => .int
  | 28 => .int
  | 29 => .int
  | 30 => .array .int
  | 31 => .array .int
  | 32 => .array .int
  | 33 => .array .int
  | 34 => .array .int
  | 35 => .array .int
  | 36 => .array .int
  | 37 => .array .int
  | 38 => .int
  | 39 => .array .int
  | 40 => .array .int
  | 41 => .array .int
  | 42 => .array .int
  | 43 => .array .int
  | 44 => .array .int
  | 45 => .array .int
  | _ => .array .int
abbrev wsX110 : List Cond := u_ws RX11 TX11 47
theorem nmX11 : ∀ a, a < 47 → ∀ b, b < 47 → a ≠ b → (TX11 a).2.1 ≠ (TX11 b).2.1 := by decide +kernel
theorem tyX11_ok : ∀ k, k < 47 → parseFieldDescriptor (TX11 k).2.2.1 = some (tyX11 k) := by decide +kernel
abbrev cX11_init : ByteArray := prog_13_method_1_code
def yX11_init : MethodName := ⟨RX11, "<init>", "()V"⟩
abbrev cX11_isIn : ByteArray := prog_13_method_2_code
def yX11_isIn : MethodName := ⟨RX11, "isIn", "(III)Z"⟩
abbrev cX11_one : ByteArray := prog_13_method_3_code
def yX11_one : MethodName := ⟨RX11, "one", "(Z)I"⟩
abbrev cX11_isPerson : ByteArray := prog_13_method_4_code
def yX11_isPerson : MethodName := ⟨RX11, "isPerson", "(I)Z"⟩
abbrev cX11_isField : ByteArray := prog_13_method_5_code
def yX11_isField : MethodName := ⟨RX11, "isField", "(I)Z"⟩
abbrev cX11_person : ByteArray := prog_13_method_6_code
def yX11_person : MethodName := ⟨RX11, "person", "(II)I"⟩
abbrev cX11_akin : ByteArray := prog_13_method_7_code
def yX11_akin : MethodName := ⟨RX11, "akin", "(II)Z"⟩
abbrev cX11_field : ByteArray := prog_13_method_8_code
def yX11_field : MethodName := ⟨RX11, "field", "(IIIII)I"⟩
abbrev cX11_day : ByteArray := prog_13_method_9_code
def yX11_day : MethodName := ⟨RX11, "day", "(I)Z"⟩
abbrev cX11_ownerOn : ByteArray := prog_13_method_10_code
def yX11_ownerOn : MethodName := ⟨RX11, "ownerOn", "(II)I"⟩
abbrev cX11_owner : ByteArray := prog_13_method_11_code
def yX11_owner : MethodName := ⟨RX11, "owner", "(I)I"⟩
abbrev cX11_goes : ByteArray := prog_13_method_12_code
def yX11_goes : MethodName := ⟨RX11, "goes", "(II)V"⟩
abbrev cX11_transfer : ByteArray := prog_13_method_13_code
def yX11_transfer : MethodName := ⟨RX11, "transfer", "(II)Z"⟩
abbrev cX11_owned : ByteArray := prog_13_method_14_code
def yX11_owned : MethodName := ⟨RX11, "owned", "(II)I"⟩
abbrev cX11_begins : ByteArray := prog_13_method_15_code
def yX11_begins : MethodName := ⟨RX11, "begins", "(I)V"⟩
abbrev cX11_feed : ByteArray := prog_13_method_16_code
def yX11_feed : MethodName := ⟨RX11, "feed", "(IIIII)I"⟩
abbrev cX11_four : ByteArray := prog_13_method_17_code
def yX11_four : MethodName := ⟨RX11, "four", "(I)V"⟩
abbrev cX11_blanks : ByteArray := prog_13_method_18_code
def yX11_blanks : MethodName := ⟨RX11, "blanks", "()V"⟩
abbrev cX11_word : ByteArray := prog_13_method_19_code
def yX11_word : MethodName := ⟨RX11, "word", "()J"⟩
abbrev cX11_takes : ByteArray := prog_13_method_20_code
def yX11_takes : MethodName := ⟨RX11, "takes", "(J)Z"⟩
abbrev cX11_takesNumber : ByteArray := prog_13_method_21_code
def yX11_takesNumber : MethodName := ⟨RX11, "takesNumber", "(II)Z"⟩
abbrev cX11_statement : ByteArray := prog_13_method_22_code
def yX11_statement : MethodName := ⟨RX11, "statement", "()Z"⟩
abbrev cX11_act : ByteArray := prog_13_method_23_code
def yX11_act : MethodName := ⟨RX11, "act", "(I)I"⟩
abbrev cX11_fault : ByteArray := prog_13_method_24_code
def yX11_fault : MethodName := ⟨RX11, "fault", "()I"⟩
abbrev cX11_standard : ByteArray := prog_13_method_25_code
def yX11_standard : MethodName := ⟨RX11, "standard", "(I)I"⟩
abbrev cX11_isExempt : ByteArray := prog_13_method_26_code
def yX11_isExempt : MethodName := ⟨RX11, "isExempt", "(I)Z"⟩
abbrev cX11_counted : ByteArray := prog_13_method_27_code
def yX11_counted : MethodName := ⟨RX11, "counted", "(I)I"⟩
abbrev cX11_transfersOf : ByteArray := prog_13_method_28_code
def yX11_transfersOf : MethodName := ⟨RX11, "transfersOf", "(I)I"⟩
abbrev cX11_told : ByteArray := prog_13_method_29_code
def yX11_told : MethodName := ⟨RX11, "told", "(II)I"⟩
abbrev cX11_counts : ByteArray := prog_13_method_30_code
def yX11_counts : MethodName := ⟨RX11, "counts", "(I)I"⟩
abbrev cX11_peopleOf : ByteArray := prog_13_method_31_code
def yX11_peopleOf : MethodName := ⟨RX11, "peopleOf", "(I)I"⟩
abbrev cX11_holding : ByteArray := prog_13_method_32_code
def yX11_holding : MethodName := ⟨RX11, "holding", "(I)I"⟩
abbrev cX11_mayHave : ByteArray := prog_13_method_33_code
def yX11_mayHave : MethodName := ⟨RX11, "mayHave", "(I)I"⟩
abbrev cX11_isHouse : ByteArray := prog_13_method_34_code
def yX11_isHouse : MethodName := ⟨RX11, "isHouse", "(I)Z"⟩
abbrev cX11_house : ByteArray := prog_13_method_35_code
def yX11_house : MethodName := ⟨RX11, "house", "(II)I"⟩
abbrev cX11_keeps : ByteArray := prog_13_method_36_code
def yX11_keeps : MethodName := ⟨RX11, "keeps", "(II)V"⟩
abbrev cX11_kept : ByteArray := prog_13_method_37_code
def yX11_kept : MethodName := ⟨RX11, "kept", "(II)I"⟩
abbrev cX11_taken : ByteArray := prog_13_method_38_code
def yX11_taken : MethodName := ⟨RX11, "taken", "(II)I"⟩
abbrev cX11_bits : ByteArray := prog_13_method_39_code
def yX11_bits : MethodName := ⟨RX11, "bits", "(I)I"⟩
abbrev cX11_share : ByteArray := prog_13_method_40_code
def yX11_share : MethodName := ⟨RX11, "share", "(III)I"⟩
abbrev cX11_tenant : ByteArray := prog_13_method_41_code
def yX11_tenant : MethodName := ⟨RX11, "tenant", "(I)I"⟩
abbrev cX11_given : ByteArray := prog_13_method_42_code
def yX11_given : MethodName := ⟨RX11, "given", "(IIII)I"⟩
abbrev cX11_firstOf : ByteArray := prog_13_method_43_code
def yX11_firstOf : MethodName := ⟨RX11, "firstOf", "(I)I"⟩
abbrev cX11_turns : ByteArray := prog_13_method_44_code
def yX11_turns : MethodName := ⟨RX11, "turns", "(II)I"⟩
abbrev cX11_wanted : ByteArray := prog_13_method_45_code
def yX11_wanted : MethodName := ⟨RX11, "wanted", "(II)I"⟩
abbrev cX11_isRow : ByteArray := prog_13_method_46_code
def yX11_isRow : MethodName := ⟨RX11, "isRow", "(II)Z"⟩
abbrev cX11_rings : ByteArray := prog_13_method_47_code
def yX11_rings : MethodName := ⟨RX11, "rings", "(III)I"⟩
abbrev cX11_swap : ByteArray := prog_13_method_48_code
def yX11_swap : MethodName := ⟨RX11, "swap", "(II)I"⟩
abbrev cX11_sell : ByteArray := prog_13_method_49_code
def yX11_sell : MethodName := ⟨RX11, "sell", "(II)I"⟩
abbrev cX11_year : ByteArray := prog_13_method_50_code
def yX11_year : MethodName := ⟨RX11, "year", "(IZ)I"⟩
abbrev cX11_sale : ByteArray := prog_13_method_51_code
def yX11_sale : MethodName := ⟨RX11, "sale", "(II)I"⟩
abbrev cX11_count : ByteArray := prog_13_method_52_code
def yX11_count : MethodName := ⟨RX11, "count", "(I)I"⟩
def RJ6 : String := "java/lang/Integer"
def TJ6 : u_T := fun k => match k with
  | _ => ("", "", "", false)
def tyJ6 : Nat → FieldType := fun k => match k with
  | _ => .int
abbrev wsJ60 : List Cond := u_ws RJ6 TJ6 0
theorem nmJ6 : ∀ a, a < 0 → ∀ b, b < 0 → a ≠ b → (TJ6 a).2.1 ≠ (TJ6 b).2.1 := by decide +kernel
theorem tyJ6_ok : ∀ k, k < 0 → parseFieldDescriptor (TJ6 k).2.2.1 = some (tyJ6 k) := by decide +kernel
abbrev cJ6_numberOfTrailingZeros_0f7a4 : ByteArray := prog_14_method_48_code
def yJ6_numberOfTrailingZeros_0f7a4 : MethodName := ⟨RJ6, "numberOfTrailingZeros", "(I)I"⟩
abbrev cJ6_bitCount_0f7a4 : ByteArray := prog_14_method_49_code
def yJ6_bitCount_0f7a4 : MethodName := ⟨RJ6, "bitCount", "(I)I"⟩
def RJ9 : String := "java/lang/Math"
def TJ9 : u_T := fun k => match k with
  | _ => ("", "", "", false)
def tyJ9 : Nat → FieldType := fun k => match k with
  | _ => .int
abbrev wsJ90 : List Cond := u_ws RJ9 TJ9 0
theorem nmJ9 : ∀ a, a < 0 → ∀ b, b < 0 → a ≠ b → (TJ9 a).2.1 ≠ (TJ9 b).2.1 := by decide +kernel
theorem tyJ9_ok : ∀ k, k < 0 → parseFieldDescriptor (TJ9 k).2.2.1 = some (tyJ9 k) := by decide +kernel
abbrev cJ9_abs_0f7a4 : ByteArray := prog_15_method_59_code
def yJ9_abs_0f7a4 : MethodName := ⟨RJ9, "abs", "(I)I"⟩
abbrev cJ9_max_7cf53 : ByteArray := prog_15_method_65_code
def yJ9_max_7cf53 : MethodName := ⟨RJ9, "max", "(II)I"⟩
abbrev cJ9_min_7cf53 : ByteArray := prog_15_method_69_code
def yJ9_min_7cf53 : MethodName := ⟨RJ9, "min", "(II)I"⟩
def RJ0 : String := "java/lang/String"
def TJ0 : u_T := fun k => match k with
  | _ => ("", "", "", false)
def tyJ0 : Nat → FieldType := fun k => match k with
  | _ => .int
abbrev wsJ00 : List Cond := u_ws RJ0 TJ0 0
theorem nmJ0 : ∀ a, a < 0 → ∀ b, b < 0 → a ≠ b → (TJ0 a).2.1 ≠ (TJ0 b).2.1 := by decide +kernel
theorem tyJ0_ok : ∀ k, k < 0 → parseFieldDescriptor (TJ0 k).2.2.1 = some (tyJ0 k) := by decide +kernel
abbrev cJ0_length_8abf5 : ByteArray := prog_16_method_54_code
def yJ0_length_8abf5 : MethodName := ⟨RJ0, "length", "()I"⟩
abbrev cJ0_charAt_5068e : ByteArray := prog_16_method_56_code
def yJ0_charAt_5068e : MethodName := ⟨RJ0, "charAt", "(I)C"⟩
abbrev cJ0_coder_7d493 : ByteArray := prog_16_method_152_code
def yJ0_coder_7d493 : MethodName := ⟨RJ0, "coder", "()B"⟩
abbrev cJ0_isLatin1_aae02 : ByteArray := prog_16_method_154_code
def yJ0_isLatin1_aae02 : MethodName := ⟨RJ0, "isLatin1", "()Z"⟩
abbrev cJ0_checkIndex_df160 : ByteArray := prog_16_method_155_code
def yJ0_checkIndex_df160 : MethodName := ⟨RJ0, "checkIndex", "(II)V"⟩
def RJ1 : String := "java/lang/StringLatin1"
def TJ1 : u_T := fun k => match k with
  | _ => ("", "", "", false)
def tyJ1 : Nat → FieldType := fun k => match k with
  | _ => .int
abbrev wsJ10 : List Cond := u_ws RJ1 TJ1 0
theorem nmJ1 : ∀ a, a < 0 → ∀ b, b < 0 → a ≠ b → (TJ1 a).2.1 ≠ (TJ1 b).2.1 := by decide +kernel
theorem tyJ1_ok : ∀ k, k < 0 → parseFieldDescriptor (TJ1 k).2.2.1 = some (tyJ1 k) := by decide +kernel
abbrev cJ1_charAt_3b067 : ByteArray := prog_17_method_2_code
def yJ1_charAt_3b067 : MethodName := ⟨RJ1, "charAt", "([BI)C"⟩
def RJ2 : String := "java/lang/StringUTF16"
def TJ2 : u_T := fun k => match k with
  | _ => ("", "", "", false)
def tyJ2 : Nat → FieldType := fun k => match k with
  | _ => .int
abbrev wsJ20 : List Cond := u_ws RJ2 TJ2 0
theorem nmJ2 : ∀ a, a < 0 → ∀ b, b < 0 → a ≠ b → (TJ2 a).2.1 ≠ (TJ2 b).2.1 := by decide +kernel
theorem tyJ2_ok : ∀ k, k < 0 → parseFieldDescriptor (TJ2 k).2.2.1 = some (tyJ2 k) := by decide +kernel
abbrev cJ2_getChar_3b067 : ByteArray := prog_18_method_5_code
def yJ2_getChar_3b067 : MethodName := ⟨RJ2, "getChar", "([BI)C"⟩
abbrev cJ2_length_9d52b : ByteArray := prog_18_method_6_code
def yJ2_length_9d52b : MethodName := ⟨RJ2, "length", "([B)I"⟩
abbrev cJ2_charAt_3b067 : ByteArray := prog_18_method_83_code
def yJ2_charAt_3b067 : MethodName := ⟨RJ2, "charAt", "([BI)C"⟩
abbrev cJ2_checkIndex_2214a : ByteArray := prog_18_method_91_code
def yJ2_checkIndex_2214a : MethodName := ⟨RJ2, "checkIndex", "(I[B)V"⟩
def RJ10 : String := "java/lang/System"
def TJ10 : u_T := fun k => match k with
  | _ => ("", "", "", false)
def tyJ10 : Nat → FieldType := fun k => match k with
  | _ => .int
abbrev wsJ100 : List Cond := u_ws RJ10 TJ10 0
theorem nmJ10 : ∀ a, a < 0 → ∀ b, b < 0 → a ≠ b → (TJ10 a).2.1 ≠ (TJ10 b).2.1 := by decide +kernel
theorem tyJ10_ok : ∀ k, k < 0 → parseFieldDescriptor (TJ10 k).2.2.1 = some (tyJ10 k) := by decide +kernel
def RJ7 : String := "java/util/Arrays"
def TJ7 : u_T := fun k => match k with
  | _ => ("", "", "", false)
def tyJ7 : Nat → FieldType := fun k => match k with
  | _ => .int
abbrev wsJ70 : List Cond := u_ws RJ7 TJ7 0
theorem nmJ7 : ∀ a, a < 0 → ∀ b, b < 0 → a ≠ b → (TJ7 a).2.1 ≠ (TJ7 b).2.1 := by decide +kernel
theorem tyJ7_ok : ∀ k, k < 0 → parseFieldDescriptor (TJ7 k).2.2.1 = some (tyJ7 k) := by decide +kernel
abbrev cJ7_fill_53178 : ByteArray := prog_20_method_103_code
def yJ7_fill_53178 : MethodName := ⟨RJ7, "fill", "([II)V"⟩
def RJ3 : String := "jdk/internal/util/Preconditions"
def TJ3 : u_T := fun k => match k with
  | _ => ("", "", "", false)
def tyJ3 : Nat → FieldType := fun k => match k with
  | _ => .int
abbrev wsJ30 : List Cond := u_ws RJ3 TJ3 0
theorem nmJ3 : ∀ a, a < 0 → ∀ b, b < 0 → a ≠ b → (TJ3 a).2.1 ≠ (TJ3 b).2.1 := by decide +kernel
theorem tyJ3_ok : ∀ k, k < 0 → parseFieldDescriptor (TJ3 k).2.2.1 = some (tyJ3 k) := by decide +kernel
abbrev cJ3_checkIndex_8e157 : ByteArray := prog_21_method_11_code
def yJ3_checkIndex_8e157 : MethodName := ⟨RJ3, "checkIndex", "(IILjava/util/function/BiFunction;)I"⟩
def RL : String := "LandReformLaw"
abbrev cL_law : ByteArray := code
def yL_law : MethodName := ⟨RL, "law", "([I)Z"⟩
def wsX0_init : List Cond := .code yX0_init cX0_init 1 none :: ([.methodLink RX0 3 objectInit, .instanceMethod objectInit, .code objectInit ⟨#[0xb1]⟩ 1 none, .arrayClass .int, .fieldLink RX0 9 "LandReform$Giving" "leastSums" "[I", .classLink RX0 15 "[[I", .fieldLink RX0 17 "LandReform$Giving" "distances" "[[I"] ++ wsX00)
def wsX10_isBelow : List Cond := .code yX10_isBelow cX10_isBelow 2 (some .boolean) :: ([])
def wsX4_has : List Cond := .code yX4_has cX4_has 2 (some .boolean) :: ([.fieldLink RX4 22 "LandReform$People" "size" "I", .static yX10_isBelow, .initialized RX10, .code yX10_isBelow cX10_isBelow 2 (some .boolean)] ++ wsX40)
def wsX4_homeOf : List Cond := .code yX4_homeOf cX4_homeOf 2 (some .int) :: ([.fieldLink RX4 15 "LandReform$People" "homes" "[I", .methodLink RX4 30 yX4_has, .instanceMethod yX4_has, .selects RX4 yX4_has yX4_has, .initialized RX4, .code yX4_has cX4_has 2 (some .boolean), .fieldLink RX4 22 "LandReform$People" "size" "I", .static yX10_isBelow, .initialized RX10, .code yX10_isBelow cX10_isBelow 2 (some .boolean)] ++ wsX40)
def wsX2_has : List Cond := .code yX2_has cX2_has 2 (some .boolean) :: ([.fieldLink RX2 39 "LandReform$Land" "size" "I", .static yX10_isBelow, .initialized RX10, .code yX10_isBelow cX10_isBelow 2 (some .boolean)] ++ wsX20)
def wsX2_placeOf : List Cond := .code yX2_placeOf cX2_placeOf 2 (some .int) :: ([.fieldLink RX2 9 "LandReform$Land" "places" "[I", .methodLink RX2 47 yX2_has, .instanceMethod yX2_has, .selects RX2 yX2_has yX2_has, .initialized RX2, .code yX2_has cX2_has 2 (some .boolean), .fieldLink RX2 39 "LandReform$Land" "size" "I", .static yX10_isBelow, .initialized RX10, .code yX10_isBelow cX10_isBelow 2 (some .boolean)] ++ wsX20)
def wsX2_distance : List Cond := .code yX2_distance cX2_distance 3 (some .int) :: ([.methodLink RX2 66 Lib.Math.abs.name, .static Lib.Math.abs.name, .initialized "java/lang/Math", .code Lib.Math.abs.name Lib.Math.abs.code 1 (some .int), .methodLink RX2 63 yX2_placeOf, .instanceMethod yX2_placeOf, .selects RX2 yX2_placeOf yX2_placeOf, .initialized RX2, .code yX2_placeOf cX2_placeOf 2 (some .int), .fieldLink RX2 9 "LandReform$Land" "places" "[I", .methodLink RX2 47 yX2_has, .instanceMethod yX2_has, .selects RX2 yX2_has yX2_has, .code yX2_has cX2_has 2 (some .boolean), .fieldLink RX2 39 "LandReform$Land" "size" "I", .static yX10_isBelow, .initialized RX10, .code yX10_isBelow cX10_isBelow 2 (some .boolean)] ++ wsX20)
def wsJ6_bitCount_0f7a4 : List Cond := .code yJ6_bitCount_0f7a4 cJ6_bitCount_0f7a4 1 (some .int) :: ([.constant RJ6 265 (1431655765), .constant RJ6 266 (858993459), .constant RJ6 267 (252645135)])
def wsX0_sumWith : List Cond := .code yX0_sumWith cX0_sumWith 4 (some .int) :: ([.fieldLink RX0 29 "LandReform$Giving" "size" "I", .fieldLink RX0 17 "LandReform$Giving" "distances" "[[I", .fieldLink RX0 9 "LandReform$Giving" "leastSums" "[I", .methodLink RX0 53 yJ6_bitCount_0f7a4, .static yJ6_bitCount_0f7a4, .initialized RJ6, .code yJ6_bitCount_0f7a4 cJ6_bitCount_0f7a4 1 (some .int), .constant RJ6 265 (1431655765), .constant RJ6 266 (858993459), .constant RJ6 267 (252645135), .static yX10_isBelow, .initialized RX10, .code yX10_isBelow cX10_isBelow 2 (some .boolean)] ++ wsX00)
def wsX0_nearest : List Cond := .code yX0_nearest cX0_nearest 5 (some .int) :: ([.constant RX0 52 (2147483647), .fieldLink RX0 29 "LandReform$Giving" "size" "I", .methodLink RX0 47 yX0_sumWith, .instanceMethod yX0_sumWith, .selects RX0 yX0_sumWith yX0_sumWith, .initialized RX0, .code yX0_sumWith cX0_sumWith 4 (some .int), .fieldLink RX0 17 "LandReform$Giving" "distances" "[[I", .fieldLink RX0 9 "LandReform$Giving" "leastSums" "[I", .methodLink RX0 53 yJ6_bitCount_0f7a4, .static yJ6_bitCount_0f7a4, .initialized RJ6, .code yJ6_bitCount_0f7a4 cJ6_bitCount_0f7a4 1 (some .int), .constant RJ6 265 (1431655765), .constant RJ6 266 (858993459), .constant RJ6 267 (252645135), .static yX10_isBelow, .initialized RX10, .code yX10_isBelow cX10_isBelow 2 (some .boolean)] ++ wsX00)
def wsX0_weigh_r1 : List Cond := [Cond.methodLink RX0 20 Lib.Math.min.name, Cond.static Lib.Math.min.name, Cond.initialized "java/lang/Math", Cond.code Lib.Math.min.name Lib.Math.min.code 2 (some .int), Cond.methodLink RX0 26 Lib.Math.max.name, Cond.static Lib.Math.max.name, Cond.code Lib.Math.max.name Lib.Math.max.code 2 (some .int), Cond.fieldLink RX0 29 "LandReform$Giving" "size" "I", Cond.fieldLink RX0 17 "LandReform$Giving" "distances" "[[I", Cond.fieldLink RX0 9 "LandReform$Giving" "leastSums" "[I", Cond.methodLink RX0 33 yX4_homeOf, Cond.instanceMethod yX4_homeOf, Cond.selects RX4 yX4_homeOf yX4_homeOf, Cond.initialized RX4, Cond.code yX4_homeOf cX4_homeOf 2 (some .int), Cond.fieldLink RX4 15 "LandReform$People" "homes" "[I", Cond.methodLink RX4 30 yX4_has, Cond.instanceMethod yX4_has, Cond.selects RX4 yX4_has yX4_has, Cond.code yX4_has cX4_has 2 (some .boolean), Cond.fieldLink RX4 22 "LandReform$People" "size" "I", Cond.static yX10_isBelow, Cond.initialized RX10, Cond.code yX10_isBelow cX10_isBelow 2 (some .boolean)]
def wsX0_weigh_r2 : List Cond := [Cond.methodLink RX0 39 yX2_distance, Cond.instanceMethod yX2_distance, Cond.selects RX2 yX2_distance yX2_distance, Cond.initialized RX2, Cond.code yX2_distance cX2_distance 3 (some .int), Cond.methodLink RX2 66 Lib.Math.abs.name, Cond.static Lib.Math.abs.name, Cond.code Lib.Math.abs.name Lib.Math.abs.code 1 (some .int), Cond.methodLink RX2 63 yX2_placeOf, Cond.instanceMethod yX2_placeOf, Cond.selects RX2 yX2_placeOf yX2_placeOf, Cond.code yX2_placeOf cX2_placeOf 2 (some .int), Cond.fieldLink RX2 9 "LandReform$Land" "places" "[I", Cond.methodLink RX2 47 yX2_has, Cond.instanceMethod yX2_has, Cond.selects RX2 yX2_has yX2_has, Cond.code yX2_has cX2_has 2 (some .boolean), Cond.fieldLink RX2 39 "LandReform$Land" "size" "I", Cond.methodLink RX0 44 yX0_nearest, Cond.instanceMethod yX0_nearest, Cond.selects RX0 yX0_nearest yX0_nearest, Cond.initialized RX0, Cond.code yX0_nearest cX0_nearest 5 (some .int), Cond.constant RX0 52 (2147483647)]
def wsX0_weigh_r3 : List Cond := [Cond.methodLink RX0 47 yX0_sumWith, Cond.instanceMethod yX0_sumWith, Cond.selects RX0 yX0_sumWith yX0_sumWith, Cond.code yX0_sumWith cX0_sumWith 4 (some .int), Cond.methodLink RX0 53 yJ6_bitCount_0f7a4, Cond.static yJ6_bitCount_0f7a4, Cond.initialized RJ6, Cond.code yJ6_bitCount_0f7a4 cJ6_bitCount_0f7a4 1 (some .int), Cond.constant RJ6 265 (1431655765), Cond.constant RJ6 266 (858993459), Cond.constant RJ6 267 (252645135)]
def wsX0_weigh : List Cond := .code yX0_weigh cX0_weigh 8 none :: ((wsX0_weigh_r1 ++ (wsX0_weigh_r2 ++ wsX0_weigh_r3)) ++ wsX00 ++ wsX40 ++ wsX20)
def wsX0_leastSum : List Cond := .code yX0_leastSum cX0_leastSum 1 (some .int) :: ([.fieldLink RX0 9 "LandReform$Giving" "leastSums" "[I", .fieldLink RX0 29 "LandReform$Giving" "size" "I"] ++ wsX00)
def wsX0_choice : List Cond := .code yX0_choice cX0_choice 4 (some .int) :: ([.fieldLink RX0 29 "LandReform$Giving" "size" "I", .methodLink RX0 44 yX0_nearest, .instanceMethod yX0_nearest, .selects RX0 yX0_nearest yX0_nearest, .initialized RX0, .code yX0_nearest cX0_nearest 5 (some .int), .constant RX0 52 (2147483647), .methodLink RX0 47 yX0_sumWith, .instanceMethod yX0_sumWith, .selects RX0 yX0_sumWith yX0_sumWith, .code yX0_sumWith cX0_sumWith 4 (some .int), .fieldLink RX0 17 "LandReform$Giving" "distances" "[[I", .fieldLink RX0 9 "LandReform$Giving" "leastSums" "[I", .methodLink RX0 53 yJ6_bitCount_0f7a4, .static yJ6_bitCount_0f7a4, .initialized RJ6, .code yJ6_bitCount_0f7a4 cJ6_bitCount_0f7a4 1 (some .int), .constant RJ6 265 (1431655765), .constant RJ6 266 (858993459), .constant RJ6 267 (252645135), .static yX10_isBelow, .initialized RX10, .code yX10_isBelow cX10_isBelow 2 (some .boolean)] ++ wsX00)
def wsX1_init : List Cond := .code yX1_init cX1_init 1 none :: ([.methodLink RX1 3 objectInit, .instanceMethod objectInit, .code objectInit ⟨#[0xb1]⟩ 1 none, .arrayClass .int, .fieldLink RX1 9 "LandReform$Holding" "countedOwners" "[I", .fieldLink RX1 15 "LandReform$Holding" "counting" "[I", .fieldLink RX1 18 "LandReform$Holding" "standardSteps" "[I", .fieldLink RX1 21 "LandReform$Holding" "areaSteps" "[I"] ++ wsX10)
def wsX4_houseOf : List Cond := .code yX4_houseOf cX4_houseOf 2 (some .int) :: ([.fieldLink RX4 9 "LandReform$People" "houses" "[I", .methodLink RX4 30 yX4_has, .instanceMethod yX4_has, .selects RX4 yX4_has yX4_has, .initialized RX4, .code yX4_has cX4_has 2 (some .boolean), .fieldLink RX4 22 "LandReform$People" "size" "I", .static yX10_isBelow, .initialized RX10, .code yX10_isBelow cX10_isBelow 2 (some .boolean)] ++ wsX40)
def wsX4_areKin : List Cond := .code yX4_areKin cX4_areKin 3 (some .boolean) :: ([.fieldLink RX4 18 "LandReform$People" "kin" "[J", .methodLink RX4 30 yX4_has, .instanceMethod yX4_has, .selects RX4 yX4_has yX4_has, .initialized RX4, .code yX4_has cX4_has 2 (some .boolean), .fieldLink RX4 22 "LandReform$People" "size" "I", .static yX10_isBelow, .initialized RX10, .code yX10_isBelow cX10_isBelow 2 (some .boolean)] ++ wsX40)
def wsX4_areOfOneFamily : List Cond := .code yX4_areOfOneFamily cX4_areOfOneFamily 3 (some .boolean) :: ([.methodLink RX4 40 yX4_houseOf, .instanceMethod yX4_houseOf, .selects RX4 yX4_houseOf yX4_houseOf, .initialized RX4, .code yX4_houseOf cX4_houseOf 2 (some .int), .fieldLink RX4 9 "LandReform$People" "houses" "[I", .methodLink RX4 30 yX4_has, .instanceMethod yX4_has, .selects RX4 yX4_has yX4_has, .code yX4_has cX4_has 2 (some .boolean), .fieldLink RX4 22 "LandReform$People" "size" "I", .static yX10_isBelow, .initialized RX10, .code yX10_isBelow cX10_isBelow 2 (some .boolean), .methodLink RX4 34 yX4_areKin, .instanceMethod yX4_areKin, .selects RX4 yX4_areKin yX4_areKin, .code yX4_areKin cX4_areKin 3 (some .boolean), .fieldLink RX4 18 "LandReform$People" "kin" "[J"] ++ wsX40)
def wsX1_countOwners_r1 : List Cond := [Cond.fieldLink RX1 9 "LandReform$Holding" "countedOwners" "[I", Cond.methodLink RX1 41 arraycopyName, Cond.native arraycopyName, Cond.static arraycopyName, Cond.initialized "java/lang/System", Cond.static yX10_isBelow, Cond.initialized RX10, Cond.code yX10_isBelow cX10_isBelow 2 (some .boolean), Cond.methodLink RX1 64 yX4_areOfOneFamily, Cond.instanceMethod yX4_areOfOneFamily, Cond.selects RX4 yX4_areOfOneFamily yX4_areOfOneFamily, Cond.initialized RX4, Cond.code yX4_areOfOneFamily cX4_areOfOneFamily 3 (some .boolean), Cond.methodLink RX4 40 yX4_houseOf, Cond.instanceMethod yX4_houseOf, Cond.selects RX4 yX4_houseOf yX4_houseOf, Cond.code yX4_houseOf cX4_houseOf 2 (some .int), Cond.fieldLink RX4 9 "LandReform$People" "houses" "[I", Cond.methodLink RX4 30 yX4_has, Cond.instanceMethod yX4_has, Cond.selects RX4 yX4_has yX4_has, Cond.code yX4_has cX4_has 2 (some .boolean), Cond.fieldLink RX4 22 "LandReform$People" "size" "I", Cond.methodLink RX4 34 yX4_areKin]
def wsX1_countOwners_r2 : List Cond := [Cond.instanceMethod yX4_areKin, Cond.selects RX4 yX4_areKin yX4_areKin, Cond.code yX4_areKin cX4_areKin 3 (some .boolean), Cond.fieldLink RX4 18 "LandReform$People" "kin" "[J"]
def wsX1_countOwners : List Cond := .code yX1_countOwners cX1_countOwners 8 none :: ((wsX1_countOwners_r1 ++ wsX1_countOwners_r2) ++ wsX20 ++ wsX10 ++ wsX30 ++ wsX40)
def wsX1_countedOwner_r1 : List Cond := [Cond.fieldLink RX1 9 "LandReform$Holding" "countedOwners" "[I", Cond.methodLink RX1 24 yX1_countOwners, Cond.instanceMethod yX1_countOwners, Cond.selects RX1 yX1_countOwners yX1_countOwners, Cond.initialized RX1, Cond.code yX1_countOwners cX1_countOwners 8 none, Cond.methodLink RX1 41 arraycopyName, Cond.native arraycopyName, Cond.static arraycopyName, Cond.initialized "java/lang/System", Cond.static yX10_isBelow, Cond.initialized RX10, Cond.code yX10_isBelow cX10_isBelow 2 (some .boolean), Cond.methodLink RX1 64 yX4_areOfOneFamily, Cond.instanceMethod yX4_areOfOneFamily, Cond.selects RX4 yX4_areOfOneFamily yX4_areOfOneFamily, Cond.initialized RX4, Cond.code yX4_areOfOneFamily cX4_areOfOneFamily 3 (some .boolean), Cond.methodLink RX4 40 yX4_houseOf, Cond.instanceMethod yX4_houseOf, Cond.selects RX4 yX4_houseOf yX4_houseOf, Cond.code yX4_houseOf cX4_houseOf 2 (some .int), Cond.fieldLink RX4 9 "LandReform$People" "houses" "[I", Cond.methodLink RX4 30 yX4_has]
def wsX1_countedOwner_r2 : List Cond := [Cond.instanceMethod yX4_has, Cond.selects RX4 yX4_has yX4_has, Cond.code yX4_has cX4_has 2 (some .boolean), Cond.fieldLink RX4 22 "LandReform$People" "size" "I", Cond.methodLink RX4 34 yX4_areKin, Cond.instanceMethod yX4_areKin, Cond.selects RX4 yX4_areKin yX4_areKin, Cond.code yX4_areKin cX4_areKin 3 (some .boolean), Cond.fieldLink RX4 18 "LandReform$People" "kin" "[J"]
def wsX1_countedOwner : List Cond := .code yX1_countedOwner cX1_countedOwner 5 (some .int) :: ((wsX1_countedOwner_r1 ++ wsX1_countedOwner_r2) ++ wsX20 ++ wsX10 ++ wsX30 ++ wsX40)
def wsX3_exempts : List Cond := .code yX3_exempts cX3_exempts 2 (some .boolean) :: ([.fieldLink RX3 34 "LandReform$Law" "exemptCrops" "I", .static yX10_isBelow, .initialized RX10, .code yX10_isBelow cX10_isBelow 2 (some .boolean)] ++ wsX30)
def wsX2_areaOf : List Cond := .code yX2_areaOf cX2_areaOf 2 (some .int) :: ([.fieldLink RX2 15 "LandReform$Land" "areas" "[I", .methodLink RX2 47 yX2_has, .instanceMethod yX2_has, .selects RX2 yX2_has yX2_has, .initialized RX2, .code yX2_has cX2_has 2 (some .boolean), .fieldLink RX2 39 "LandReform$Land" "size" "I", .static yX10_isBelow, .initialized RX10, .code yX10_isBelow cX10_isBelow 2 (some .boolean)] ++ wsX20)
def wsX2_soilOf : List Cond := .code yX2_soilOf cX2_soilOf 2 (some .int) :: ([.fieldLink RX2 18 "LandReform$Land" "soils" "[I", .methodLink RX2 47 yX2_has, .instanceMethod yX2_has, .selects RX2 yX2_has yX2_has, .initialized RX2, .code yX2_has cX2_has 2 (some .boolean), .fieldLink RX2 39 "LandReform$Land" "size" "I", .static yX10_isBelow, .initialized RX10, .code yX10_isBelow cX10_isBelow 2 (some .boolean)] ++ wsX20)
def wsX3_soilIs : List Cond := .code yX3_soilIs cX3_soilIs 2 (some .int) :: ([.fieldLink RX3 9 "LandReform$Law" "soilValues" "[I", .static yX10_isBelow, .initialized RX10, .code yX10_isBelow cX10_isBelow 2 (some .boolean)] ++ wsX30)
def wsX2_standardOf_r1 : List Cond := [Cond.methodLink RX2 51 yX2_areaOf, Cond.instanceMethod yX2_areaOf, Cond.selects RX2 yX2_areaOf yX2_areaOf, Cond.initialized RX2, Cond.code yX2_areaOf cX2_areaOf 2 (some .int), Cond.fieldLink RX2 15 "LandReform$Land" "areas" "[I", Cond.methodLink RX2 47 yX2_has, Cond.instanceMethod yX2_has, Cond.selects RX2 yX2_has yX2_has, Cond.code yX2_has cX2_has 2 (some .boolean), Cond.fieldLink RX2 39 "LandReform$Land" "size" "I", Cond.static yX10_isBelow, Cond.initialized RX10, Cond.code yX10_isBelow cX10_isBelow 2 (some .boolean), Cond.methodLink RX2 55 yX2_soilOf, Cond.instanceMethod yX2_soilOf, Cond.selects RX2 yX2_soilOf yX2_soilOf, Cond.code yX2_soilOf cX2_soilOf 2 (some .int), Cond.fieldLink RX2 18 "LandReform$Land" "soils" "[I", Cond.methodLink RX2 58 yX3_soilIs, Cond.instanceMethod yX3_soilIs, Cond.selects RX3 yX3_soilIs yX3_soilIs, Cond.initialized RX3, Cond.code yX3_soilIs cX3_soilIs 2 (some .int)]
def wsX2_standardOf_r2 : List Cond := [Cond.fieldLink RX3 9 "LandReform$Law" "soilValues" "[I"]
def wsX2_standardOf : List Cond := .code yX2_standardOf cX2_standardOf 3 (some .int) :: ((wsX2_standardOf_r1 ++ wsX2_standardOf_r2) ++ wsX20 ++ wsX30)
def wsX4_membersOf : List Cond := .code yX4_membersOf cX4_membersOf 4 (some .int) :: ([.fieldLink RX4 22 "LandReform$People" "size" "I", .fieldLink RX4 9 "LandReform$People" "houses" "[I"] ++ wsX40)
def wsX3_allows : List Cond := .code yX3_allows cX3_allows 2 (some .int) :: ([.fieldLink RX3 24 "LandReform$Law" "ceiling" "I", .fieldLink RX3 28 "LandReform$Law" "family" "I", .methodLink RX3 61 Lib.Math.max.name, .static Lib.Math.max.name, .initialized "java/lang/Math", .code Lib.Math.max.name Lib.Math.max.code 2 (some .int)] ++ wsX30)
def wsX1_gather_r1 : List Cond := [Cond.fieldLink RX1 69 "LandReform$Holding" "size" "I", Cond.fieldLink RX1 70 "LandReform$Holding" "standards" "I", Cond.fieldLink RX1 9 "LandReform$Holding" "countedOwners" "[I", Cond.fieldLink RX1 15 "LandReform$Holding" "counting" "[I", Cond.fieldLink RX1 91 "LandReform$Holding" "members" "I", Cond.fieldLink RX1 97 "LandReform$Holding" "allowed" "I", Cond.methodLink RX1 24 yX1_countOwners, Cond.instanceMethod yX1_countOwners, Cond.selects RX1 yX1_countOwners yX1_countOwners, Cond.initialized RX1, Cond.code yX1_countOwners cX1_countOwners 8 none, Cond.methodLink RX1 41 arraycopyName, Cond.native arraycopyName, Cond.static arraycopyName, Cond.initialized "java/lang/System", Cond.static yX10_isBelow, Cond.initialized RX10, Cond.code yX10_isBelow cX10_isBelow 2 (some .boolean), Cond.methodLink RX1 64 yX4_areOfOneFamily, Cond.instanceMethod yX4_areOfOneFamily, Cond.selects RX4 yX4_areOfOneFamily yX4_areOfOneFamily, Cond.initialized RX4, Cond.code yX4_areOfOneFamily cX4_areOfOneFamily 3 (some .boolean), Cond.methodLink RX4 40 yX4_houseOf]
def wsX1_gather_r2 : List Cond := [Cond.instanceMethod yX4_houseOf, Cond.selects RX4 yX4_houseOf yX4_houseOf, Cond.code yX4_houseOf cX4_houseOf 2 (some .int), Cond.fieldLink RX4 9 "LandReform$People" "houses" "[I", Cond.methodLink RX4 30 yX4_has, Cond.instanceMethod yX4_has, Cond.selects RX4 yX4_has yX4_has, Cond.code yX4_has cX4_has 2 (some .boolean), Cond.fieldLink RX4 22 "LandReform$People" "size" "I", Cond.methodLink RX4 34 yX4_areKin, Cond.instanceMethod yX4_areKin, Cond.selects RX4 yX4_areKin yX4_areKin, Cond.code yX4_areKin cX4_areKin 3 (some .boolean), Cond.fieldLink RX4 18 "LandReform$People" "kin" "[J", Cond.methodLink RX1 73 yX4_houseOf, Cond.methodLink RX1 80 yX3_exempts, Cond.instanceMethod yX3_exempts, Cond.selects RX3 yX3_exempts yX3_exempts, Cond.initialized RX3, Cond.code yX3_exempts cX3_exempts 2 (some .boolean), Cond.fieldLink RX3 34 "LandReform$Law" "exemptCrops" "I", Cond.methodLink RX1 84 yX2_standardOf, Cond.instanceMethod yX2_standardOf, Cond.selects RX2 yX2_standardOf yX2_standardOf]
def wsX1_gather_r3 : List Cond := [Cond.initialized RX2, Cond.code yX2_standardOf cX2_standardOf 3 (some .int), Cond.methodLink RX2 51 yX2_areaOf, Cond.instanceMethod yX2_areaOf, Cond.selects RX2 yX2_areaOf yX2_areaOf, Cond.code yX2_areaOf cX2_areaOf 2 (some .int), Cond.fieldLink RX2 15 "LandReform$Land" "areas" "[I", Cond.methodLink RX2 47 yX2_has, Cond.instanceMethod yX2_has, Cond.selects RX2 yX2_has yX2_has, Cond.code yX2_has cX2_has 2 (some .boolean), Cond.fieldLink RX2 39 "LandReform$Land" "size" "I", Cond.methodLink RX2 55 yX2_soilOf, Cond.instanceMethod yX2_soilOf, Cond.selects RX2 yX2_soilOf yX2_soilOf, Cond.code yX2_soilOf cX2_soilOf 2 (some .int), Cond.fieldLink RX2 18 "LandReform$Land" "soils" "[I", Cond.methodLink RX2 58 yX3_soilIs, Cond.instanceMethod yX3_soilIs, Cond.selects RX3 yX3_soilIs yX3_soilIs, Cond.code yX3_soilIs cX3_soilIs 2 (some .int), Cond.fieldLink RX3 9 "LandReform$Law" "soilValues" "[I", Cond.methodLink RX1 88 yX4_membersOf, Cond.instanceMethod yX4_membersOf]
def wsX1_gather_r4 : List Cond := [Cond.selects RX4 yX4_membersOf yX4_membersOf, Cond.code yX4_membersOf cX4_membersOf 4 (some .int), Cond.methodLink RX1 94 yX3_allows, Cond.instanceMethod yX3_allows, Cond.selects RX3 yX3_allows yX3_allows, Cond.code yX3_allows cX3_allows 2 (some .int), Cond.fieldLink RX3 24 "LandReform$Law" "ceiling" "I", Cond.fieldLink RX3 28 "LandReform$Law" "family" "I", Cond.methodLink RX3 61 Lib.Math.max.name, Cond.static Lib.Math.max.name, Cond.initialized "java/lang/Math", Cond.code Lib.Math.max.name Lib.Math.max.code 2 (some .int)]
def wsX1_gather : List Cond := .code yX1_gather cX1_gather 6 none :: ((wsX1_gather_r1 ++ (wsX1_gather_r2 ++ (wsX1_gather_r3 ++ wsX1_gather_r4))) ++ wsX10 ++ wsX20 ++ wsX30 ++ wsX40)
def wsX1_above : List Cond := .code yX1_above cX1_above 1 (some .int) :: ([.fieldLink RX1 70 "LandReform$Holding" "standards" "I", .fieldLink RX1 97 "LandReform$Holding" "allowed" "I", .methodLink RX1 100 Lib.Math.max.name, .static Lib.Math.max.name, .initialized "java/lang/Math", .code Lib.Math.max.name Lib.Math.max.code 2 (some .int)] ++ wsX10)
def wsX1_prepareSteps_r1 : List Cond := [Cond.fieldLink RX1 69 "LandReform$Holding" "size" "I", Cond.fieldLink RX1 15 "LandReform$Holding" "counting" "[I", Cond.fieldLink RX1 18 "LandReform$Holding" "standardSteps" "[I", Cond.fieldLink RX1 21 "LandReform$Holding" "areaSteps" "[I", Cond.methodLink RX1 84 yX2_standardOf, Cond.instanceMethod yX2_standardOf, Cond.selects RX2 yX2_standardOf yX2_standardOf, Cond.initialized RX2, Cond.code yX2_standardOf cX2_standardOf 3 (some .int), Cond.methodLink RX2 51 yX2_areaOf, Cond.instanceMethod yX2_areaOf, Cond.selects RX2 yX2_areaOf yX2_areaOf, Cond.code yX2_areaOf cX2_areaOf 2 (some .int), Cond.fieldLink RX2 15 "LandReform$Land" "areas" "[I", Cond.methodLink RX2 47 yX2_has, Cond.instanceMethod yX2_has, Cond.selects RX2 yX2_has yX2_has, Cond.code yX2_has cX2_has 2 (some .boolean), Cond.fieldLink RX2 39 "LandReform$Land" "size" "I", Cond.static yX10_isBelow, Cond.initialized RX10, Cond.code yX10_isBelow cX10_isBelow 2 (some .boolean), Cond.methodLink RX2 55 yX2_soilOf, Cond.instanceMethod yX2_soilOf]
def wsX1_prepareSteps_r2 : List Cond := [Cond.selects RX2 yX2_soilOf yX2_soilOf, Cond.code yX2_soilOf cX2_soilOf 2 (some .int), Cond.fieldLink RX2 18 "LandReform$Land" "soils" "[I", Cond.methodLink RX2 58 yX3_soilIs, Cond.instanceMethod yX3_soilIs, Cond.selects RX3 yX3_soilIs yX3_soilIs, Cond.initialized RX3, Cond.code yX3_soilIs cX3_soilIs 2 (some .int), Cond.fieldLink RX3 9 "LandReform$Law" "soilValues" "[I", Cond.methodLink RX1 121 yX2_areaOf]
def wsX1_prepareSteps : List Cond := .code yX1_prepareSteps cX1_prepareSteps 8 none :: ((wsX1_prepareSteps_r1 ++ wsX1_prepareSteps_r2) ++ wsX10 ++ wsX20 ++ wsX30)
def wsJ6_numberOfTrailingZeros_0f7a4 : List Cond := .code yJ6_numberOfTrailingZeros_0f7a4 cJ6_numberOfTrailingZeros_0f7a4 2 (some .int) :: ([.constant RJ6 264 (65536)])
def wsX1_choose_r1 : List Cond := [Cond.fieldLink RX1 69 "LandReform$Holding" "size" "I", Cond.fieldLink RX1 110 "LandReform$Holding" "keptSet" "I", Cond.fieldLink RX1 113 "LandReform$Holding" "keptArea" "I", Cond.fieldLink RX1 18 "LandReform$Holding" "standardSteps" "[I", Cond.fieldLink RX1 21 "LandReform$Holding" "areaSteps" "[I", Cond.fieldLink RX1 97 "LandReform$Holding" "allowed" "I", Cond.methodLink RX1 106 yX1_prepareSteps, Cond.instanceMethod yX1_prepareSteps, Cond.selects RX1 yX1_prepareSteps yX1_prepareSteps, Cond.initialized RX1, Cond.code yX1_prepareSteps cX1_prepareSteps 8 none, Cond.fieldLink RX1 15 "LandReform$Holding" "counting" "[I", Cond.methodLink RX1 84 yX2_standardOf, Cond.instanceMethod yX2_standardOf, Cond.selects RX2 yX2_standardOf yX2_standardOf, Cond.initialized RX2, Cond.code yX2_standardOf cX2_standardOf 3 (some .int), Cond.methodLink RX2 51 yX2_areaOf, Cond.instanceMethod yX2_areaOf, Cond.selects RX2 yX2_areaOf yX2_areaOf, Cond.code yX2_areaOf cX2_areaOf 2 (some .int), Cond.fieldLink RX2 15 "LandReform$Land" "areas" "[I", Cond.methodLink RX2 47 yX2_has, Cond.instanceMethod yX2_has]
def wsX1_choose_r2 : List Cond := [Cond.selects RX2 yX2_has yX2_has, Cond.code yX2_has cX2_has 2 (some .boolean), Cond.fieldLink RX2 39 "LandReform$Land" "size" "I", Cond.static yX10_isBelow, Cond.initialized RX10, Cond.code yX10_isBelow cX10_isBelow 2 (some .boolean), Cond.methodLink RX2 55 yX2_soilOf, Cond.instanceMethod yX2_soilOf, Cond.selects RX2 yX2_soilOf yX2_soilOf, Cond.code yX2_soilOf cX2_soilOf 2 (some .int), Cond.fieldLink RX2 18 "LandReform$Land" "soils" "[I", Cond.methodLink RX2 58 yX3_soilIs, Cond.instanceMethod yX3_soilIs, Cond.selects RX3 yX3_soilIs yX3_soilIs, Cond.initialized RX3, Cond.code yX3_soilIs cX3_soilIs 2 (some .int), Cond.fieldLink RX3 9 "LandReform$Law" "soilValues" "[I", Cond.methodLink RX1 121 yX2_areaOf, Cond.methodLink RX1 116 yJ6_numberOfTrailingZeros_0f7a4, Cond.static yJ6_numberOfTrailingZeros_0f7a4, Cond.initialized RJ6, Cond.code yJ6_numberOfTrailingZeros_0f7a4 cJ6_numberOfTrailingZeros_0f7a4 2 (some .int), Cond.constant RJ6 264 (65536)]
def wsX1_choose : List Cond := .code yX1_choose cX1_choose 8 (some .boolean) :: ((wsX1_choose_r1 ++ wsX1_choose_r2) ++ wsX10 ++ wsX20 ++ wsX30)
def wsX1_keeps : List Cond := .code yX1_keeps cX1_keeps 2 (some .boolean) :: ([.fieldLink RX1 69 "LandReform$Holding" "size" "I", .fieldLink RX1 110 "LandReform$Holding" "keptSet" "I", .static yX10_isBelow, .initialized RX10, .code yX10_isBelow cX10_isBelow 2 (some .boolean)] ++ wsX10)
def wsX1_takenField : List Cond := .code yX1_takenField cX1_takenField 4 (some .int) :: ([.fieldLink RX1 69 "LandReform$Holding" "size" "I", .fieldLink RX1 15 "LandReform$Holding" "counting" "[I", .methodLink RX1 124 yX1_keeps, .instanceMethod yX1_keeps, .selects RX1 yX1_keeps yX1_keeps, .initialized RX1, .code yX1_keeps cX1_keeps 2 (some .boolean), .fieldLink RX1 110 "LandReform$Holding" "keptSet" "I", .static yX10_isBelow, .initialized RX10, .code yX10_isBelow cX10_isBelow 2 (some .boolean)] ++ wsX10)
def wsX2_init : List Cond := .code yX2_init cX2_init 1 none :: ([.methodLink RX2 3 objectInit, .instanceMethod objectInit, .code objectInit ⟨#[0xb1]⟩ 1 none, .arrayClass .int, .fieldLink RX2 9 "LandReform$Land" "places" "[I", .fieldLink RX2 15 "LandReform$Land" "areas" "[I", .fieldLink RX2 18 "LandReform$Land" "soils" "[I", .fieldLink RX2 21 "LandReform$Land" "crops" "[I", .fieldLink RX2 24 "LandReform$Land" "firstOwners" "[I", .fieldLink RX2 27 "LandReform$Land" "owners" "[I", .fieldLink RX2 30 "LandReform$Land" "movedFields" "[I", .fieldLink RX2 33 "LandReform$Land" "receivers" "[I", .fieldLink RX2 36 "LandReform$Land" "days" "[I"] ++ wsX20)
def wsX2_hasRow : List Cond := .code yX2_hasRow cX2_hasRow 3 (some .boolean) :: ([.fieldLink RX2 39 "LandReform$Land" "size" "I", .methodLink RX2 47 yX2_has, .instanceMethod yX2_has, .selects RX2 yX2_has yX2_has, .initialized RX2, .code yX2_has cX2_has 2 (some .boolean), .static yX10_isBelow, .initialized RX10, .code yX10_isBelow cX10_isBelow 2 (some .boolean)] ++ wsX20)
def wsX2_cropOf : List Cond := .code yX2_cropOf cX2_cropOf 2 (some .int) :: ([.fieldLink RX2 21 "LandReform$Land" "crops" "[I", .methodLink RX2 47 yX2_has, .instanceMethod yX2_has, .selects RX2 yX2_has yX2_has, .initialized RX2, .code yX2_has cX2_has 2 (some .boolean), .fieldLink RX2 39 "LandReform$Land" "size" "I", .static yX10_isBelow, .initialized RX10, .code yX10_isBelow cX10_isBelow 2 (some .boolean)] ++ wsX20)
def wsX2_ownerOf : List Cond := .code yX2_ownerOf cX2_ownerOf 2 (some .int) :: ([.fieldLink RX2 27 "LandReform$Land" "owners" "[I", .methodLink RX2 47 yX2_has, .instanceMethod yX2_has, .selects RX2 yX2_has yX2_has, .initialized RX2, .code yX2_has cX2_has 2 (some .boolean), .fieldLink RX2 39 "LandReform$Land" "size" "I", .static yX10_isBelow, .initialized RX10, .code yX10_isBelow cX10_isBelow 2 (some .boolean)] ++ wsX20)
def wsX2_transfersLeft : List Cond := .code yX2_transfersLeft cX2_transfersLeft 1 (some .int) :: ([.fieldLink RX2 71 "LandReform$Land" "transfers" "I"] ++ wsX20)
def wsX2_add : List Cond := .code yX2_add cX2_add 6 (some .int) :: ([.fieldLink RX2 39 "LandReform$Land" "size" "I", .fieldLink RX2 9 "LandReform$Land" "places" "[I", .fieldLink RX2 15 "LandReform$Land" "areas" "[I", .fieldLink RX2 18 "LandReform$Land" "soils" "[I", .fieldLink RX2 21 "LandReform$Land" "crops" "[I", .fieldLink RX2 24 "LandReform$Land" "firstOwners" "[I", .fieldLink RX2 27 "LandReform$Land" "owners" "[I"] ++ wsX20)
def wsX2_move : List Cond := .code yX2_move cX2_move 3 none :: ([.fieldLink RX2 71 "LandReform$Land" "transfers" "I", .fieldLink RX2 30 "LandReform$Land" "movedFields" "[I", .fieldLink RX2 33 "LandReform$Land" "receivers" "[I", .fieldLink RX2 36 "LandReform$Land" "days" "[I", .fieldLink RX2 74 "LandReform$Land" "today" "I", .fieldLink RX2 27 "LandReform$Land" "owners" "[I", .methodLink RX2 47 yX2_has, .instanceMethod yX2_has, .selects RX2 yX2_has yX2_has, .initialized RX2, .code yX2_has cX2_has 2 (some .boolean), .fieldLink RX2 39 "LandReform$Land" "size" "I", .static yX10_isBelow, .initialized RX10, .code yX10_isBelow cX10_isBelow 2 (some .boolean)] ++ wsX20)
def wsX2_transfersOf : List Cond := .code yX2_transfersOf cX2_transfersOf 4 (some .int) :: ([.fieldLink RX2 71 "LandReform$Land" "transfers" "I", .fieldLink RX2 30 "LandReform$Land" "movedFields" "[I"] ++ wsX20)
def wsX2_ownerAsDayEnded : List Cond := .code yX2_ownerAsDayEnded cX2_ownerAsDayEnded 5 (some .int) :: ([.fieldLink RX2 24 "LandReform$Land" "firstOwners" "[I", .fieldLink RX2 71 "LandReform$Land" "transfers" "I", .fieldLink RX2 36 "LandReform$Land" "days" "[I", .fieldLink RX2 30 "LandReform$Land" "movedFields" "[I", .fieldLink RX2 33 "LandReform$Land" "receivers" "[I", .methodLink RX2 47 yX2_has, .instanceMethod yX2_has, .selects RX2 yX2_has yX2_has, .initialized RX2, .code yX2_has cX2_has 2 (some .boolean), .fieldLink RX2 39 "LandReform$Land" "size" "I", .static yX10_isBelow, .initialized RX10, .code yX10_isBelow cX10_isBelow 2 (some .boolean)] ++ wsX20)
def wsX2_firstFieldOf : List Cond := .code yX2_firstFieldOf cX2_firstFieldOf 3 (some .int) :: ([.fieldLink RX2 39 "LandReform$Land" "size" "I", .fieldLink RX2 27 "LandReform$Land" "owners" "[I"] ++ wsX20)
def wsJ7_fill_53178 : List Cond := .code yJ7_fill_53178 cJ7_fill_53178 4 none :: ([])
def wsX3_clear : List Cond := .code yX3_clear cX3_clear 1 none :: ([.fieldLink RX3 9 "LandReform$Law" "soilValues" "[I", .fieldLink RX3 24 "LandReform$Law" "ceiling" "I", .fieldLink RX3 28 "LandReform$Law" "family" "I", .fieldLink RX3 31 "LandReform$Law" "lastFreeDay" "I", .fieldLink RX3 34 "LandReform$Law" "exemptCrops" "I", .fieldLink RX3 37 "LandReform$Law" "price" "I", .fieldLink RX3 40 "LandReform$Law" "years" "I", .fieldLink RX3 43 "LandReform$Law" "shares" "I", .fieldLink RX3 46 "LandReform$Law" "statements" "I", .methodLink RX3 18 yJ7_fill_53178, .static yJ7_fill_53178, .initialized RJ7, .code yJ7_fill_53178 cJ7_fill_53178 4 none] ++ wsX30)
def wsX3_init : List Cond := .code yX3_init cX3_init 1 none :: ([.methodLink RX3 3 objectInit, .instanceMethod objectInit, .code objectInit ⟨#[0xb1]⟩ 1 none, .arrayClass .int, .fieldLink RX3 9 "LandReform$Law" "soilValues" "[I", .methodLink RX3 15 yX3_clear, .instanceMethod yX3_clear, .selects RX3 yX3_clear yX3_clear, .initialized RX3, .code yX3_clear cX3_clear 1 none, .fieldLink RX3 24 "LandReform$Law" "ceiling" "I", .fieldLink RX3 28 "LandReform$Law" "family" "I", .fieldLink RX3 31 "LandReform$Law" "lastFreeDay" "I", .fieldLink RX3 34 "LandReform$Law" "exemptCrops" "I", .fieldLink RX3 37 "LandReform$Law" "price" "I", .fieldLink RX3 40 "LandReform$Law" "years" "I", .fieldLink RX3 43 "LandReform$Law" "shares" "I", .fieldLink RX3 46 "LandReform$Law" "statements" "I", .methodLink RX3 18 yJ7_fill_53178, .static yJ7_fill_53178, .initialized RJ7, .code yJ7_fill_53178 cJ7_fill_53178 4 none] ++ wsX30)
def wsX3_exemptCrop : List Cond := .code yX3_exemptCrop cX3_exemptCrop 2 none :: ([.fieldLink RX3 34 "LandReform$Law" "exemptCrops" "I", .static yX10_isBelow, .initialized RX10, .code yX10_isBelow cX10_isBelow 2 (some .boolean)] ++ wsX30)
def wsX3_setSoil : List Cond := .code yX3_setSoil cX3_setSoil 3 none :: ([.fieldLink RX3 9 "LandReform$Law" "soilValues" "[I", .static yX10_isBelow, .initialized RX10, .code yX10_isBelow cX10_isBelow 2 (some .boolean)] ++ wsX30)
def wsX3_rule : List Cond := .code yX3_rule cX3_rule 4 none :: ([.fieldLink RX3 24 "LandReform$Law" "ceiling" "I", .fieldLink RX3 28 "LandReform$Law" "family" "I", .fieldLink RX3 31 "LandReform$Law" "lastFreeDay" "I", .fieldLink RX3 37 "LandReform$Law" "price" "I", .fieldLink RX3 40 "LandReform$Law" "years" "I", .fieldLink RX3 43 "LandReform$Law" "shares" "I", .fieldLink RX3 46 "LandReform$Law" "statements" "I", .methodLink RX3 49 yX3_exemptCrop, .instanceMethod yX3_exemptCrop, .selects RX3 yX3_exemptCrop yX3_exemptCrop, .initialized RX3, .code yX3_exemptCrop cX3_exemptCrop 2 none, .fieldLink RX3 34 "LandReform$Law" "exemptCrops" "I", .static yX10_isBelow, .initialized RX10, .code yX10_isBelow cX10_isBelow 2 (some .boolean), .methodLink RX3 53 yX3_setSoil, .instanceMethod yX3_setSoil, .selects RX3 yX3_setSoil yX3_setSoil, .code yX3_setSoil cX3_setSoil 3 none, .fieldLink RX3 9 "LandReform$Law" "soilValues" "[I"] ++ wsX30)
def wsX4_init : List Cond := .code yX4_init cX4_init 1 none :: ([.methodLink RX4 3 objectInit, .instanceMethod objectInit, .code objectInit ⟨#[0xb1]⟩ 1 none, .arrayClass .int, .fieldLink RX4 9 "LandReform$People" "houses" "[I", .fieldLink RX4 15 "LandReform$People" "homes" "[I", .arrayClass .long, .fieldLink RX4 18 "LandReform$People" "kin" "[J"] ++ wsX40)
def wsX4_hasRow : List Cond := .code yX4_hasRow cX4_hasRow 3 (some .boolean) :: ([.fieldLink RX4 22 "LandReform$People" "size" "I", .methodLink RX4 30 yX4_has, .instanceMethod yX4_has, .selects RX4 yX4_has yX4_has, .initialized RX4, .code yX4_has cX4_has 2 (some .boolean), .static yX10_isBelow, .initialized RX10, .code yX10_isBelow cX10_isBelow 2 (some .boolean)] ++ wsX40)
def wsX4_add : List Cond := .code yX4_add cX4_add 3 (some .int) :: ([.fieldLink RX4 22 "LandReform$People" "size" "I", .fieldLink RX4 9 "LandReform$People" "houses" "[I", .fieldLink RX4 15 "LandReform$People" "homes" "[I"] ++ wsX40)
def wsX4_bind : List Cond := .code yX4_bind cX4_bind 3 (some .boolean) :: ([.fieldLink RX4 18 "LandReform$People" "kin" "[J", .fieldLink RX4 37 "LandReform$People" "pairs" "I", .methodLink RX4 30 yX4_has, .instanceMethod yX4_has, .selects RX4 yX4_has yX4_has, .initialized RX4, .code yX4_has cX4_has 2 (some .boolean), .fieldLink RX4 22 "LandReform$People" "size" "I", .static yX10_isBelow, .initialized RX10, .code yX10_isBelow cX10_isBelow 2 (some .boolean), .methodLink RX4 34 yX4_areKin, .instanceMethod yX4_areKin, .selects RX4 yX4_areKin yX4_areKin, .code yX4_areKin cX4_areKin 3 (some .boolean)] ++ wsX40)
def wsX5_init : List Cond := .code yX5_init cX5_init 2 none :: ([.methodLink RX5 3 objectInit, .instanceMethod objectInit, .code objectInit ⟨#[0xb1]⟩ 1 none, .fieldLink RX5 9 "LandReform$Reader" "fault" "I", .fieldLink RX5 15 "LandReform$Reader" "text" "[B"] ++ wsX50)
def wsX5_isBlank : List Cond := .code yX5_isBlank cX5_isBlank 1 (some .boolean) :: ([])
def wsX5_isLetter : List Cond := .code yX5_isLetter cX5_isLetter 1 (some .boolean) :: ([])
def wsX5_isDigit : List Cond := .code yX5_isDigit cX5_isDigit 1 (some .boolean) :: ([])
def wsX5_nextToken : List Cond := .code yX5_nextToken cX5_nextToken 2 none :: ([.fieldLink RX5 28 "LandReform$Reader" "tokenEnd" "I", .fieldLink RX5 25 "LandReform$Reader" "length" "I", .fieldLink RX5 15 "LandReform$Reader" "text" "[B", .fieldLink RX5 39 "LandReform$Reader" "tokenStart" "I", .methodLink RX5 65 yX5_isBlank, .static yX5_isBlank, .initialized RX5, .code yX5_isBlank cX5_isBlank 1 (some .boolean), .methodLink RX5 69 yX5_isLetter, .static yX5_isLetter, .code yX5_isLetter cX5_isLetter 1 (some .boolean), .methodLink RX5 72 yX5_isDigit, .static yX5_isDigit, .code yX5_isDigit cX5_isDigit 1 (some .boolean)] ++ wsX50)
def wsJ0_coder_7d493 : List Cond := .code yJ0_coder_7d493 cJ0_coder_7d493 1 (some .byte) :: ([.fieldLink RJ0 38 "java/lang/String" "COMPACT_STRINGS" "Z", .fieldLink RJ0 15 "java/lang/String" "coder" "B"])
def wsJ0_length_8abf5 : List Cond := .code yJ0_length_8abf5 cJ0_length_8abf5 1 (some .int) :: ([.fieldLink RJ0 9 "java/lang/String" "value" "[B", .methodLink RJ0 335 yJ0_coder_7d493, .instanceMethod yJ0_coder_7d493, .selects RJ0 yJ0_coder_7d493 yJ0_coder_7d493, .initialized RJ0, .code yJ0_coder_7d493 cJ0_coder_7d493 1 (some .byte), .fieldLink RJ0 38 "java/lang/String" "COMPACT_STRINGS" "Z", .fieldLink RJ0 15 "java/lang/String" "coder" "B"])
def wsJ0_isLatin1_aae02 : List Cond := .code yJ0_isLatin1_aae02 cJ0_isLatin1_aae02 1 (some .boolean) :: ([.fieldLink RJ0 38 "java/lang/String" "COMPACT_STRINGS" "Z", .fieldLink RJ0 15 "java/lang/String" "coder" "B"])
def wsJ3_checkIndex_8e157 : List Cond := .code yJ3_checkIndex_8e157 cJ3_checkIndex_8e157 3 (some .int) :: ([])
def wsJ0_checkIndex_df160 : List Cond := .code yJ0_checkIndex_df160 cJ0_checkIndex_df160 2 none :: ([.fieldLink RJ0 1053 "jdk/internal/util/Preconditions" "SIOOBE_FORMATTER" "Ljava/util/function/BiFunction;", .methodLink RJ0 1059 yJ3_checkIndex_8e157, .static yJ3_checkIndex_8e157, .initialized RJ3, .code yJ3_checkIndex_8e157 cJ3_checkIndex_8e157 3 (some .int)])
def wsJ1_charAt_3b067 : List Cond := .code yJ1_charAt_3b067 cJ1_charAt_3b067 2 (some .char) :: ([.methodLink RJ1 9 yJ0_checkIndex_df160, .static yJ0_checkIndex_df160, .initialized RJ0, .code yJ0_checkIndex_df160 cJ0_checkIndex_df160 2 none, .fieldLink RJ0 1053 "jdk/internal/util/Preconditions" "SIOOBE_FORMATTER" "Ljava/util/function/BiFunction;", .methodLink RJ0 1059 yJ3_checkIndex_8e157, .static yJ3_checkIndex_8e157, .initialized RJ3, .code yJ3_checkIndex_8e157 cJ3_checkIndex_8e157 3 (some .int)])
def wsJ2_length_9d52b : List Cond := .code yJ2_length_9d52b cJ2_length_9d52b 1 (some .int) :: ([])
def wsJ2_checkIndex_2214a : List Cond := .code yJ2_checkIndex_2214a cJ2_checkIndex_2214a 2 none :: ([.methodLink RJ2 48 yJ2_length_9d52b, .static yJ2_length_9d52b, .initialized RJ2, .code yJ2_length_9d52b cJ2_length_9d52b 1 (some .int), .methodLink RJ2 414 yJ0_checkIndex_df160, .static yJ0_checkIndex_df160, .initialized RJ0, .code yJ0_checkIndex_df160 cJ0_checkIndex_df160 2 none, .fieldLink RJ0 1053 "jdk/internal/util/Preconditions" "SIOOBE_FORMATTER" "Ljava/util/function/BiFunction;", .methodLink RJ0 1059 yJ3_checkIndex_8e157, .static yJ3_checkIndex_8e157, .initialized RJ3, .code yJ3_checkIndex_8e157 cJ3_checkIndex_8e157 3 (some .int)])
def wsJ2_getChar_3b067 : List Cond := .code yJ2_getChar_3b067 cJ2_getChar_3b067 2 (some .char) :: ([.fieldLink RJ2 44 "java/lang/StringUTF16" "$assertionsDisabled" "Z", .fieldLink RJ2 59 "java/lang/StringUTF16" "HI_BYTE_SHIFT" "I", .fieldLink RJ2 63 "java/lang/StringUTF16" "LO_BYTE_SHIFT" "I", .methodLink RJ2 48 yJ2_length_9d52b, .static yJ2_length_9d52b, .initialized RJ2, .code yJ2_length_9d52b cJ2_length_9d52b 1 (some .int)])
def wsJ2_charAt_3b067 : List Cond := .code yJ2_charAt_3b067 cJ2_charAt_3b067 2 (some .char) :: ([.methodLink RJ2 67 yJ2_checkIndex_2214a, .static yJ2_checkIndex_2214a, .initialized RJ2, .code yJ2_checkIndex_2214a cJ2_checkIndex_2214a 2 none, .methodLink RJ2 48 yJ2_length_9d52b, .static yJ2_length_9d52b, .code yJ2_length_9d52b cJ2_length_9d52b 1 (some .int), .methodLink RJ2 414 yJ0_checkIndex_df160, .static yJ0_checkIndex_df160, .initialized RJ0, .code yJ0_checkIndex_df160 cJ0_checkIndex_df160 2 none, .fieldLink RJ0 1053 "jdk/internal/util/Preconditions" "SIOOBE_FORMATTER" "Ljava/util/function/BiFunction;", .methodLink RJ0 1059 yJ3_checkIndex_8e157, .static yJ3_checkIndex_8e157, .initialized RJ3, .code yJ3_checkIndex_8e157 cJ3_checkIndex_8e157 3 (some .int), .methodLink RJ2 71 yJ2_getChar_3b067, .static yJ2_getChar_3b067, .code yJ2_getChar_3b067 cJ2_getChar_3b067 2 (some .char), .fieldLink RJ2 44 "java/lang/StringUTF16" "$assertionsDisabled" "Z", .fieldLink RJ2 59 "java/lang/StringUTF16" "HI_BYTE_SHIFT" "I", .fieldLink RJ2 63 "java/lang/StringUTF16" "LO_BYTE_SHIFT" "I"])
def wsJ0_charAt_5068e_r1 : List Cond := [Cond.fieldLink RJ0 9 "java/lang/String" "value" "[B", Cond.methodLink RJ0 492 yJ0_isLatin1_aae02, Cond.instanceMethod yJ0_isLatin1_aae02, Cond.selects RJ0 yJ0_isLatin1_aae02 yJ0_isLatin1_aae02, Cond.initialized RJ0, Cond.code yJ0_isLatin1_aae02 cJ0_isLatin1_aae02 1 (some .boolean), Cond.fieldLink RJ0 38 "java/lang/String" "COMPACT_STRINGS" "Z", Cond.fieldLink RJ0 15 "java/lang/String" "coder" "B", Cond.methodLink RJ0 495 yJ1_charAt_3b067, Cond.static yJ1_charAt_3b067, Cond.initialized RJ1, Cond.code yJ1_charAt_3b067 cJ1_charAt_3b067 2 (some .char), Cond.methodLink RJ1 9 yJ0_checkIndex_df160, Cond.static yJ0_checkIndex_df160, Cond.code yJ0_checkIndex_df160 cJ0_checkIndex_df160 2 none, Cond.fieldLink RJ0 1053 "jdk/internal/util/Preconditions" "SIOOBE_FORMATTER" "Ljava/util/function/BiFunction;", Cond.methodLink RJ0 1059 yJ3_checkIndex_8e157, Cond.static yJ3_checkIndex_8e157, Cond.initialized RJ3, Cond.code yJ3_checkIndex_8e157 cJ3_checkIndex_8e157 3 (some .int), Cond.methodLink RJ0 498 yJ2_charAt_3b067, Cond.static yJ2_charAt_3b067, Cond.initialized RJ2, Cond.code yJ2_charAt_3b067 cJ2_charAt_3b067 2 (some .char)]
def wsJ0_charAt_5068e_r2 : List Cond := [Cond.methodLink RJ2 67 yJ2_checkIndex_2214a, Cond.static yJ2_checkIndex_2214a, Cond.code yJ2_checkIndex_2214a cJ2_checkIndex_2214a 2 none, Cond.methodLink RJ2 48 yJ2_length_9d52b, Cond.static yJ2_length_9d52b, Cond.code yJ2_length_9d52b cJ2_length_9d52b 1 (some .int), Cond.methodLink RJ2 414 yJ0_checkIndex_df160, Cond.methodLink RJ2 71 yJ2_getChar_3b067, Cond.static yJ2_getChar_3b067, Cond.code yJ2_getChar_3b067 cJ2_getChar_3b067 2 (some .char), Cond.fieldLink RJ2 44 "java/lang/StringUTF16" "$assertionsDisabled" "Z", Cond.fieldLink RJ2 59 "java/lang/StringUTF16" "HI_BYTE_SHIFT" "I", Cond.fieldLink RJ2 63 "java/lang/StringUTF16" "LO_BYTE_SHIFT" "I"]
def wsJ0_charAt_5068e : List Cond := .code yJ0_charAt_5068e cJ0_charAt_5068e 2 (some .char) :: ((wsJ0_charAt_5068e_r1 ++ wsJ0_charAt_5068e_r2))
def wsX5_spells_r1 : List Cond := [Cond.fieldLink RX5 28 "LandReform$Reader" "tokenEnd" "I", Cond.fieldLink RX5 39 "LandReform$Reader" "tokenStart" "I", Cond.fieldLink RX5 25 "LandReform$Reader" "length" "I", Cond.fieldLink RX5 15 "LandReform$Reader" "text" "[B", Cond.methodLink RX5 91 yJ0_length_8abf5, Cond.instanceMethod yJ0_length_8abf5, Cond.selects RJ0 yJ0_length_8abf5 yJ0_length_8abf5, Cond.initialized RJ0, Cond.code yJ0_length_8abf5 cJ0_length_8abf5 1 (some .int), Cond.fieldLink RJ0 9 "java/lang/String" "value" "[B", Cond.methodLink RJ0 335 yJ0_coder_7d493, Cond.instanceMethod yJ0_coder_7d493, Cond.selects RJ0 yJ0_coder_7d493 yJ0_coder_7d493, Cond.code yJ0_coder_7d493 cJ0_coder_7d493 1 (some .byte), Cond.fieldLink RJ0 38 "java/lang/String" "COMPACT_STRINGS" "Z", Cond.fieldLink RJ0 15 "java/lang/String" "coder" "B", Cond.methodLink RX5 95 yJ0_charAt_5068e, Cond.instanceMethod yJ0_charAt_5068e, Cond.selects RJ0 yJ0_charAt_5068e yJ0_charAt_5068e, Cond.code yJ0_charAt_5068e cJ0_charAt_5068e 2 (some .char), Cond.methodLink RJ0 492 yJ0_isLatin1_aae02, Cond.instanceMethod yJ0_isLatin1_aae02, Cond.selects RJ0 yJ0_isLatin1_aae02 yJ0_isLatin1_aae02, Cond.code yJ0_isLatin1_aae02 cJ0_isLatin1_aae02 1 (some .boolean)]
def wsX5_spells_r2 : List Cond := [Cond.methodLink RJ0 495 yJ1_charAt_3b067, Cond.static yJ1_charAt_3b067, Cond.initialized RJ1, Cond.code yJ1_charAt_3b067 cJ1_charAt_3b067 2 (some .char), Cond.methodLink RJ1 9 yJ0_checkIndex_df160, Cond.static yJ0_checkIndex_df160, Cond.code yJ0_checkIndex_df160 cJ0_checkIndex_df160 2 none, Cond.fieldLink RJ0 1053 "jdk/internal/util/Preconditions" "SIOOBE_FORMATTER" "Ljava/util/function/BiFunction;", Cond.methodLink RJ0 1059 yJ3_checkIndex_8e157, Cond.static yJ3_checkIndex_8e157, Cond.initialized RJ3, Cond.code yJ3_checkIndex_8e157 cJ3_checkIndex_8e157 3 (some .int), Cond.methodLink RJ0 498 yJ2_charAt_3b067, Cond.static yJ2_charAt_3b067, Cond.initialized RJ2, Cond.code yJ2_charAt_3b067 cJ2_charAt_3b067 2 (some .char), Cond.methodLink RJ2 67 yJ2_checkIndex_2214a, Cond.static yJ2_checkIndex_2214a, Cond.code yJ2_checkIndex_2214a cJ2_checkIndex_2214a 2 none, Cond.methodLink RJ2 48 yJ2_length_9d52b, Cond.static yJ2_length_9d52b, Cond.code yJ2_length_9d52b cJ2_length_9d52b 1 (some .int), Cond.methodLink RJ2 414 yJ0_checkIndex_df160, Cond.methodLink RJ2 71 yJ2_getChar_3b067]
def wsX5_spells_r3 : List Cond := [Cond.static yJ2_getChar_3b067, Cond.code yJ2_getChar_3b067 cJ2_getChar_3b067 2 (some .char), Cond.fieldLink RJ2 44 "java/lang/StringUTF16" "$assertionsDisabled" "Z", Cond.fieldLink RJ2 59 "java/lang/StringUTF16" "HI_BYTE_SHIFT" "I", Cond.fieldLink RJ2 63 "java/lang/StringUTF16" "LO_BYTE_SHIFT" "I"]
def wsX5_spells : List Cond := .code yX5_spells cX5_spells 3 (some .boolean) :: ((wsX5_spells_r1 ++ (wsX5_spells_r2 ++ wsX5_spells_r3)) ++ wsX50)
