/-! base 2: making cells, constructors, moving a world's cells about -/
theorem aoa_spec {args : Array Value} {s : State} {ty : FieldType} (h : (Cond.arrayOver (.array ty)).before args s = true) :
    ∃ comp c k, s.vm.findClass (FieldType.array ty).toString = some comp ∧ (s.vm.classes.findIdx? fun x => match x.kind with | .array component _ => component == comp | _ => false) = some c ∧ s.vm.classes[c]? = some k ∧ k.kind = .array comp (.array ty) ∧ s.vm.findClass ("[" ++ (FieldType.array ty).toString) = some c := by
  simp only [Cond.before, Cond.holds, Cond.value, beq_iff_eq] at h
  cases hc : s.vm.findClass (FieldType.array ty).toString with
  | none => simp [hc] at h
  | some comp =>
    simp only [hc, Option.bind_some, Option.bind_eq_some_iff, Option.map_eq_some_iff] at h
    obtain ⟨c, hi, k, hk, hb⟩ := h
    obtain ⟨hlt, hp, -⟩ := Array.findIdx?_eq_some_iff_getElem.mp hi
    have hkk : s.vm.classes[c] = k := (Array.getElem?_eq_some_iff.mp hk).2
    rw [hkk] at hp
    cases hkind : k.kind with
    | array component ty2 =>
      rw [hkind] at hb hp
      simp at hb hp
      exact ⟨comp, c, k, rfl, hi, hk, by rw [hkind, hp, hb.1], hb.2⟩
    | _ => rw [hkind] at hb; simp at hb
theorem va_AOA.moved {ty : FieldType} {u U : State} (hvm : u.vm.Alike U.vm) (h : va_AOA ty u) : va_AOA ty U := by
  obtain ⟨comp, c, k, h1, h2, h3, h4, h5⟩ := aoa_spec h
  obtain ⟨k', hk', he⟩ := hvm.2.2 _ _ h3
  have hi : (U.vm.classes.findIdx? fun (x : Class) => match x.kind with | .array component _ => component == comp | _ => false) = some c := by
    have e : U.vm.bare = u.vm.bare := by first | exact hvm.bare_eq | exact hvm.bare_eq.symm
    exact (va_idx_bare U.vm comp).symm.trans ((congrArg (fun v : Vm => v.classes.findIdx? fun (x : Class) => match x.kind with | .array component _ => component == comp | _ => false) e).trans ((va_idx_bare u.vm comp).trans h2))
  have hkind : k'.kind = .array comp (.array ty) := by rw [he]; exact h4
  have f1 : U.vm.findClass (FieldType.array ty).toString = some comp := by rw [hvm.findClass]; exact h1
  have f2 : U.vm.findClass ("[" ++ (FieldType.array ty).toString) = some c := by rw [hvm.findClass]; exact h5
  unfold va_AOA Cond.before Cond.holds
  simp only [Cond.value]
  rw [f1, Option.bind_some]
  refine (congrArg (fun o : Option Nat => (o.bind (fun c => (U.vm.classes[c]?).map fun (k : Class) => match k.kind with | .array _ t => decide (t = FieldType.array ty) && decide (U.vm.findClass ("[" ++ (FieldType.array ty).toString) = some c) | _ => false) == some true)) hi).trans ?_
  simp [hk', hkind, f2]
def aO (U : State) : Prop := va_AO "LandReform$Sale" U ∧ va_AOA .int U
theorem aO.moved {u U : State} (hvm : u.vm.Alike U.vm) (h : aO u) : aO U := ⟨h.1.moved hvm, h.2.moved hvm⟩
/-- cells in another order -/
theorem at_app {a b : va_W} {k : Nat} {q : Nat × va_E} (h : (a ++ b)[k]? = some q) : (k < a.length ∧ a[k]? = some q) ∨ (a.length ≤ k ∧ b[k - a.length]? = some q) := by
  by_cases hl : k < a.length
  · rw [List.getElem?_append_left hl] at h
    exact Or.inl ⟨hl, h⟩
  · rw [List.getElem?_append_right (by omega)] at h
    exact Or.inr ⟨by omega, h⟩
theorem pick_at {is : List Nat} {ws w : va_W} (hs : is.map (fun i => ws[i]?) = w.map some) {k : Nat} {q : Nat × va_E} (hq : w[k]? = some q) : ∃ i, is[k]? = some i ∧ ws[i]? = some q := by
  have h1 : (is.map (fun i => ws[i]?))[k]? = some (some q) := by rw [hs, List.getElem?_map, hq]; rfl
  rw [List.getElem?_map] at h1
  cases hi : is[k]? with
  | none => rw [hi] at h1; cases h1
  | some i => rw [hi] at h1; exact ⟨i, rfl, Option.some.inj h1⟩
theorem Wd.perm {D : va_G} {A : Nat → Prop} {H0 H : Heap} {locs : List Loc} {a b E : va_W} (is : List Nat) (hs : is.map (fun i => a[i]?) = b.map some) (hn : va_nd is = true) (w : Wd D A H0 H locs (a ++ E)) : Wd D A H0 H locs (b ++ E) := by
  have la : ∀ {k : Nat} {q : Nat × va_E}, a[k]? = some q → (a ++ E)[k]? = some q := fun h => by
    rw [List.getElem?_append_left (List.getElem?_eq_some_iff.mp h).1]; exact h
  have le : ∀ {k : Nat} {q : Nat × va_E}, E[k]? = some q → (a ++ E)[a.length + k]? = some q := fun h => by
    rw [List.getElem?_append_right (by omega), Nat.add_sub_cancel_left]; exact h
  refine ⟨fun k q hk => ?_, ⟨fun i j x y hi hj hxy => ?_, fun k q hk => ?_⟩, w.2.2⟩
  · rcases at_app hk with ⟨-, h⟩ | ⟨-, h⟩
    · obtain ⟨i, -, h2⟩ := pick_at hs h
      exact w.1 i q (la h2)
    · exact w.1 _ q (le h)
  · rcases at_app hi with ⟨l1, h1⟩ | ⟨l1, h1⟩ <;> rcases at_app hj with ⟨l2, h2⟩ | ⟨l2, h2⟩
    · obtain ⟨c, c1, c2⟩ := pick_at hs h1
      obtain ⟨d, d1, d2⟩ := pick_at hs h2
      have e := w.2.1.1 c d x y (la c2) (la d2) hxy
      subst e
      exact va_nd_inj is hn i j c c1 d1
    · obtain ⟨c, c1, c2⟩ := pick_at hs h1
      have e := w.2.1.1 c _ x y (la c2) (le h2) hxy
      have := (List.getElem?_eq_some_iff.mp c2).1
      omega
    · obtain ⟨c, c1, c2⟩ := pick_at hs h2
      have e := w.2.1.1 _ c x y (le h1) (la c2) hxy
      have := (List.getElem?_eq_some_iff.mp c2).1
      omega
    · have e := w.2.1.1 _ _ x y (le h1) (le h2) hxy
      omega
  · rcases at_app hk with ⟨-, h⟩ | ⟨-, h⟩
    · obtain ⟨i, -, h2⟩ := pick_at hs h
      exact w.2.1.2 i q (la h2)
    · exact w.2.1.2 _ q (le h)
theorem Wd.swap {D : va_G} {A : Nat → Prop} {H0 H : Heap} {locs : List Loc} {a b c : va_W} (w : Wd D A H0 H locs ((a ++ b) ++ c)) : Wd D A H0 H locs ((a ++ c) ++ b) := ⟨w.1.swap, w.2.1.swap, w.2.2⟩
theorem Wd.comm {D : va_G} {A : Nat → Prop} {H0 H : Heap} {locs : List Loc} {b c : va_W} (w : Wd D A H0 H locs (b ++ c)) : Wd D A H0 H locs (c ++ b) := Wd.swap (a := []) w
/-- a constructor's contract: the world behind it is one of P's -/
def CPreK (D : va_G) (cc : Nat → ClassId) (ak av : Nat → Nat) (ws : va_W) (sz : Nat) (U : State) : Prop := CPre D cc ak av ws sz U ∧ aO U
theorem CPreK.blind {D : va_G} {cc : Nat → ClassId} {ak av : Nat → Nat} {As : List Value} {ws : va_W} {sz : Nat} : FrameBlind (va_Pc As (CPreK D cc ak av ws sz)) := fun a U g mk q => by
  obtain ⟨q0, q1, q2⟩ := q
  exact ⟨q0, (CPre.blind (As := As) a U g mk ⟨q0, q1⟩).2, aO.moved (u := U) (U := U.calling g mk a) (Vm.Alike.refl U.vm) q2⟩
def CK (l : Launch) (y : MethodName) (ws : List Cond) (rm : Room) (D : va_G) (cc : Nat → ClassId) (ak av : Nat → Nat) (As : List Value) (w0 : va_W) (P : va_W → Prop) (mc ms : Nat) : Prop := ∀ sz : Nat, Met l y ws rm (va_Pc As (CPreK D cc ak av w0 sz)) (va_Qv P (fun w1 t => CPost D w0 w1 sz () t) (va_A w0 sz)) mc ms (va_A w0 sz)
/-- a method that may make cells and answers a number -/
def CM (l : Launch) (y : MethodName) (ws : List Cond) (rm : Room) (D : va_G) (cc : Nat → ClassId) (ak av : Nat → Nat) (As : List Value) (w0 : va_W) (P : Int32 → va_W → Prop) (mc ms : Nat) : Prop := ∀ sz : Nat, Met l y ws rm (va_Pc As (CPre D cc ak av w0 sz)) (va_Qi P (fun w1 t => CPost D w0 w1 sz () t) (va_A w0 sz)) mc ms (va_A w0 sz)
section BASE2
variable {p : Program} {l : Launch} {e : Env} {R : Room} {s : State} {m : MethodId} {args : Array Value} {below : List Frame} {meth : Method} {c : Code} {H : Heap} {locs : List Loc} {cells slots : Nat} {Q : State → Prop}
variable {D : va_G} {cc : Nat → ClassId} {ak av : Nat → Nat} {A : Nat → Prop}
variable {pc : Nat} {ls : Array Slot} {rest st : List Value} {c0 bytes : ByteArray} {nL maxL index n mc ms : Nat} {Ts ws : List Cond} {own C host : String} {y : MethodName} {ret : Option FieldType} {rm : Room} {As : List Value} {b : Nat} {w0 w1 : va_W}
abbrev RetC (p : Program) (l : Launch) (e : Env) (R : Room) (s : State) (m : MethodId) (args : Array Value) (below : List Frame) (meth : Method) (c : Code) (D : va_G) (A : Nat → Prop) (Q : State → Prop) (c0 : ByteArray) (P : va_W → Prop) (mc ms : Nat) : Prop := ∀ (pc : Nat) (H : Heap) (locs : List Loc) (ls : Array Slot) (w1 : va_W), decode c0 pc = .ok (.return_, 1) → P w1 → Wd D A s.heap H locs w1 → W p l e R s m args below meth c H locs mc ms Q (F0 m pc ls [])
abbrev RetM (p : Program) (l : Launch) (e : Env) (R : Room) (s : State) (m : MethodId) (args : Array Value) (below : List Frame) (meth : Method) (c : Code) (D : va_G) (A : Nat → Prop) (Q : State → Prop) (c0 : ByteArray) (P : Int32 → va_W → Prop) (mc ms : Nat) : Prop := ∀ (pc : Nat) (H : Heap) (locs : List Loc) (ls : Array Slot) (r : Int32) (w1 : va_W), decode c0 pc = .ok (.ireturn, 1) → P r w1 → Wd D A s.heap H locs w1 → W p l e R s m args below meth c H locs mc ms Q (F0 m pc ls [.int r])
theorem mkC {ws ws' : List Cond} {rm : Room} {P : va_W → Prop} (hy : plainName y.cls = true) (hw : ws = Cond.code y c0 nL none :: ws') (hown : y.cls = own) (hal : (lg_sl As).length ≤ nL)
    (walk : ∀ (p : Program) (e : Env) (s : State) (m : MethodId) (args : Array Value) (below : List Frame) (meth : Method) (c : Code) (A : Nat → Prop) (Q : State → Prop) (ls : Array Slot), CallFix p m c c0 nL s args ws own → Bd D cc ak av A s → aO s → meth.name = y.name → RetC p l e rm s m args below meth c D A Q c0 P mc ms → lv_has ls nL (lv_args 0 As) → Wd D A s.heap s.heap [] w0 → W p l e rm s m args below meth c s.heap [] 0 0 Q (F0 m 0 ls [])) : CK l y ws rm D cc ak av As w0 P mc ms := by
  intro sz
  refine Met.ofW (cc := c0) (maxL := nL) (ret := none) hy hw ?_
  intro p e s m args below meth c s₁ B hml hv
  obtain ⟨rfl, ⟨hsz, hP, hK, hD0, hN, hY⟩, hO⟩ := hv
  have hx := B.exec
  have hb := B.bytes
  have hr := B.returns
  have hts := atoms_spec (ws := ws) B.pre
  have hown2 : s.vm.findClass own = some m.cls := by rw [← hown]; exact findClass_of_methodNamed B.named
  have hlocks := B.notSynchronized
  have hin : meth.name = y.name := (name_of_methodNamed B.named B.method).1
  subst hsz
  have hl := lv_entry As (n := nL) hal
  rw [lg_entry_eq]
  generalize (lg_sl As ++ List.replicate (nL - (lg_sl As).length) Slot.unset).toArray = ls at hl ⊢
  refine walk p e s m _ below meth c (va_A w0 s.heap.size) _ ls ⟨hx, hb, hml, hown2, hts⟩ ⟨hK, hN, fun q h => Or.inr h, hY⟩ hO hin ?_ hl ⟨hP, hD0.self, va_S.rf⟩
  intro pc H locs ls w1 hdg hp w
  exact W.vret hx hb hr (fun t ht hW => ⟨⟨w1, rfl, hp, by rw [ht]; exact w.1, w.2.1⟩, w.2.2.F ht⟩) w.2.2.2.2 hdg
theorem mkM {ws ws' : List Cond} {rm : Room} {P : Int32 → va_W → Prop} (hy : plainName y.cls = true) (hw : ws = Cond.code y c0 nL (some .int) :: ws') (hown : y.cls = own) (hal : (lg_sl As).length ≤ nL)
    (walk : ∀ (p : Program) (e : Env) (s : State) (m : MethodId) (args : Array Value) (below : List Frame) (meth : Method) (c : Code) (A : Nat → Prop) (Q : State → Prop) (ls : Array Slot), CallFix p m c c0 nL s args ws own → Bd D cc ak av A s → RetM p l e rm s m args below meth c D A Q c0 P mc ms → lv_has ls nL (lv_args 0 As) → Wd D A s.heap s.heap [] w0 → W p l e rm s m args below meth c s.heap [] 0 0 Q (F0 m 0 ls [])) : CM l y ws rm D cc ak av As w0 P mc ms := by
  intro sz
  refine Met.ofW (cc := c0) (maxL := nL) (ret := some .int) hy hw ?_
  intro p e s m args below meth c s₁ B hml hv
  obtain ⟨rfl, hsz, hP, hK, hD0, hN, hY⟩ := hv
  have hx := B.exec
  have hb := B.bytes
  have hr := B.returns
  have hts := atoms_spec (ws := ws) B.pre
  have hown2 : s.vm.findClass own = some m.cls := by rw [← hown]; exact findClass_of_methodNamed B.named
  have hlocks := B.notSynchronized
  subst hsz
  have hl := lv_entry As (n := nL) hal
  rw [lg_entry_eq]
  generalize (lg_sl As ++ List.replicate (nL - (lg_sl As).length) Slot.unset).toArray = ls at hl ⊢
  refine walk p e s m _ below meth c (va_A w0 s.heap.size) _ ls ⟨hx, hb, hml, hown2, hts⟩ ⟨hK, hN, fun q h => Or.inr h, hY⟩ ?_ hl ⟨hP, hD0.self, va_S.rf⟩
  intro pc H locs ls r w1 hdg hp w
  exact W.iret (v := r) hx hb hr (fun t ht hW => ⟨⟨r, w1, rfl, hp, by rw [ht]; exact w.1, w.2.1⟩, w.2.2.F ht⟩) w.2.2.2.2 hdg
/-- the call of a constructor: own link, nest mate's link -/
theorem kIC {P : va_W → Prop} (F : CallFix p m c c0 nL s args Ts own) (B : Bd D cc ak av A s) (hO : aO s) (w : Wd D A s.heap H locs w0) (hM : CK l y ws rm D cc ak av (.ref b :: As) w0 P mc ms) (cw : CallB R s args own index y bytes maxL none ws rm mc ms n ∧ y.name = "<init>" ∧ (Cond.instanceMethod y).before args s = true) (hn : As.length = n) (hsize : ls.size = nL) (hst : st = As.reverse ++ .ref b :: rest) (hroom : (rest.map fun v => v.category).sum ≤ 8) (hdg : decode c0 pc = .ok (.invokespecial index, 3)) (hf : cells + mc ≤ R.cells ∧ slots + ms ≤ R.slots)
    (kk : ∀ (H1 : Heap) (locs1 : List Loc) (w1 : va_W), P w1 → Wd D A s.heap H1 locs1 w1 → W p l e R s m args below meth c H1 locs1 (cells + mc) (slots + ms) Q (F0 m (pc + 3) ls rest)) : W p l e R s m args below meth c H locs cells slots Q (F0 m pc ls st) := by
  refine va_callv (va_runI (As := As) (rest := rest) F (hM H.size) cw ⟨CPreK.blind, fun U hU hW => ⟨rfl, Wd.pre B w hU hW, aO.moved hW.alike hO⟩⟩ rfl hn hsize hst (lv_room hroom) hdg hf) w.2.2 (fun q _ h => Wd.free B w q h) (Wd.free B w) (fun u t H1 locs1 ht hvm hw hB hz1 hk1 hS => ?_)
  exact kk H1 locs1 u hw (Wd.post B w ht hB hS)
theorem kINC {P : va_W → Prop} (F : CallFix p m c c0 nL s args Ts own) (B : Bd D cc ak av A s) (hO : aO s) (w : Wd D A s.heap H locs w0) (hM : CK l y ws rm D cc ak av (.ref b :: As) w0 P mc ms) (cw : va_CN R s args own index y host bytes maxL none ws rm mc ms n ∧ y.name = "<init>" ∧ (Cond.instanceMethod y).before args s = true) (hn : As.length = n) (hsize : ls.size = nL) (hst : st = As.reverse ++ .ref b :: rest) (hroom : (rest.map fun v => v.category).sum ≤ 8) (hdg : decode c0 pc = .ok (.invokespecial index, 3)) (hf : cells + mc ≤ R.cells ∧ slots + ms ≤ R.slots)
    (kk : ∀ (H1 : Heap) (locs1 : List Loc) (w1 : va_W), P w1 → Wd D A s.heap H1 locs1 w1 → W p l e R s m args below meth c H1 locs1 (cells + mc) (slots + ms) Q (F0 m (pc + 3) ls rest)) : W p l e R s m args below meth c H locs cells slots Q (F0 m pc ls st) := by
  refine va_callv (va_runIN (As := As) (rest := rest) F (hM H.size) cw ⟨CPreK.blind, fun U hU hW => ⟨rfl, Wd.pre B w hU hW, aO.moved hW.alike hO⟩⟩ rfl hn hsize hst (lv_room hroom) hdg hf) w.2.2 (fun q _ h => Wd.free B w q h) (Wd.free B w) (fun u t H1 locs1 ht hvm hw hB hz1 hk1 hS => ?_)
  exact kk H1 locs1 u hw (Wd.post B w ht hB hS)
/-- the call of a method that may make cells -/
theorem kVm {P : Int32 → va_W → Prop} (F : CallFix p m c c0 nL s args Ts own) (B : Bd D cc ak av A s) (w : Wd D A s.heap H locs w0) (hM : CM l y ws rm D cc ak av (.ref b :: As) w0 P mc ms) (cw : CallW R s args own C index y bytes maxL ret ws rm mc ms n) (q0 : Nat) {ci : Nat} {fs : List Value} {T : u_T} {N : Nat} (he : w0[q0]? = some (b, .inr (ci, fs))) (hc : vwCl[ci]? = some (C, T, N)) (hn : As.length = n) (hsize : ls.size = nL) (hst : st = As.reverse ++ .ref b :: rest) (hroom : (rest.map fun v => v.category).sum ≤ 8) (hdg : decode c0 pc = .ok (.invokevirtual index, 3)) (hf : cells + mc ≤ R.cells ∧ slots + ms ≤ R.slots)
    (kk : ∀ (r : Int32) (H1 : Heap) (locs1 : List Loc) (w1 : va_W), P r w1 → Wd D A s.heap H1 locs1 w1 → W p l e R s m args below meth c H1 locs1 (cells + mc) (slots + ms) Q (F0 m (pc + 3) ls (.int r :: rest))) : W p l e R s m args below meth c H locs cells slots Q (F0 m pc ls st) := by
  refine va_calli (va_runV (As := As) (rest := rest) F (hM H.size) cw ⟨CPre.blind, va_recv B.1 w.1 hc he, fun U hU hW => ⟨rfl, Wd.pre B w hU hW⟩⟩ rfl hn hsize hst (lv_room hroom) hdg hf) w.2.2 (fun q _ h => Wd.free B w q h) (Wd.free B w) (fun r u t H1 locs1 ht hvm hw hB hz1 hk1 hS => ?_)
  exact kk r H1 locs1 u hw (Wd.post B w ht hB hS)
/-- making an object, an array: the new cell comes behind the explicit part -/
theorem knew {a E : va_W} (F : CallFix p m c c0 nL s args Ts own) (B : Bd D cc ak av A s) (w : Wd D A s.heap H locs (a ++ E)) {T : u_T} {N ci : Nat} (hin : ∀ w ∈ u_ws C T N, w ∈ Ts) (ty : Nat → FieldType) (hty : ∀ k, k < N → parseFieldDescriptor (T k).2.2.1 = some (ty k)) (hcl : (Cond.classLink own index C).before args s = true) (hinst : (Cond.instantiable C N).before args s = true) (hini : (Cond.initialized C).before args s = true) (hc : vwCl[ci]? = some (C, T, N)) {fs : List Value} (hfs : ∀ j, j < N → defaultValue (ty j) = vp_V fs j) (hcells : cells + 1 ≤ R.cells) (hslots : slots + N ≤ R.slots) (hdg : decode c0 pc = .ok (.new index, 3))
    (kk : ∀ (q : Nat) (H1 : Heap), Wd D A s.heap H1 locs ((a ++ [(q, .inr (ci, fs))]) ++ E) → W p l e R s m args below meth c H1 locs (cells + 1) (slots + N) Q (F0 m (pc + 3) ls (.ref q :: rest))) : W p l e R s m args below meth c H locs cells slots Q (F0 m pc ls rest) :=
  va_new F.1 F.2.1 F.2.2.2.2 hin ty hty F.2.2.2.1 hcl hinst hini B.1 w.1 w.2.1 w.2.2 B.2.2.1 hc hfs hcells hslots hdg (fun q H1 hP hD hS => kk q H1 (Wd.swap (a := a) (b := E) ⟨hP, hD, hS⟩))
theorem knewa {a E : va_W} (F : CallFix p m c c0 nL s args Ts own) (B : Bd D cc ak av A s) (w : Wd D A s.heap H locs (a ++ E)) {atype : ArrayType} (harr : (Cond.arrayClass (newarray.typeOf atype)).before args s = true) {ty : FieldType} (hty : newarray.typeOf atype = ty) (t0 : Nat) (ht0 : (tyl cc)[t0]? = some (cc t0, ty)) (hnr : va_RA s (cc t0) ty → s.vm.findClass ("[" ++ ty.toString) = some (cc t0)) (hnr2 : ∀ cA, va_RA s cA ty → s.vm.findClass ("[" ++ ty.toString) = some cA) {x : Int32} {N' : Nat} {a0 : vp_A} (ha : ∀ cA : ClassId, vp_cell cA a0 = arrV cA N' (fun _ => defaultValue ty)) (hn : ¬ x < 0) (hN : x.toNatClampNeg = N') (hbytes : N' * componentBytes ty ≤ 536870912) (hcells : cells + 1 ≤ R.cells) (hslots : slots + N' ≤ R.slots) (hdg : decode c0 pc = .ok (.newarray atype, 2))
    (kk : ∀ (q : Nat) (H1 : Heap), Wd D A s.heap H1 locs ((a ++ [(q, .inl (cc t0, a0))]) ++ E) → W p l e R s m args below meth c H1 locs (cells + 1) (slots + N') Q (F0 m (pc + 2) ls (.ref q :: rest))) : W p l e R s m args below meth c H locs cells slots Q (F0 m pc ls (.int x :: rest)) := by
  refine va_newa F.1 F.2.1 harr hty B.1 w.1 w.2.1 w.2.2 B.2.2.1 ha hn hN hbytes hcells hslots hdg (fun q cA H1 hK hP hD hS => ?_)
  have e1 := hnr2 cA (hK.2 (tyl cc).length (cA, ty) (by simp)).2
  have e2 := hnr (B.1.2 t0 _ ht0).2
  have e : cA = cc t0 := Option.some.inj (e1.symm.trans e2)
  subst e
  exact kk q H1 (Wd.swap (a := a) (b := E) ⟨hP, hD, hS⟩)
theorem knewq {a E : va_W} (F : CallFix p m c c0 nL s args Ts own) (B : Bd D cc ak av A s) (hO : aO s) (w : Wd D A s.heap H locs (a ++ E)) (hclink : (Cond.classLink own index "LandReform$Sale").before args s = true) {x : Int32} {N' : Nat} (hn : ¬ x < 0) (hN : x.toNatClampNeg = N') (hbytes : N' * 4 ≤ 536870912) (hcells : cells + 1 ≤ R.cells) (hslots : slots + N' ≤ R.slots) (hdg : decode c0 pc = .ok (.anewarray index, 3))
    (kk : ∀ (q : Nat) (H1 : Heap), Wd D A s.heap H1 locs ((a ++ [(q, .inl (cc 5, N', .inr (.inr (.inr (.inr (fun _ => none))))))]) ++ E) → W p l e R s m args below meth c H1 locs (cells + 1) (slots + N') Q (F0 m (pc + 3) ls (.ref q :: rest))) : W p l e R s m args below meth c H locs cells slots Q (F0 m pc ls (.int x :: rest)) := by
  refine va_newq F.1 F.2.1 F.2.2.2.1 hclink hO.1 B.1 w.1 w.2.1 w.2.2 B.2.2.1 hn hN hbytes hcells hslots hdg (fun q cA H1 hK hP hD hS => ?_)
  obtain ⟨-, -, -, -, -, e1⟩ := (hK.2 (tyl cc).length (cA, .object "LandReform$Sale") (by simp)).2
  obtain ⟨-, -, -, -, -, e2⟩ := (B.1.2 5 _ rfl).2
  have e : cA = cc 5 := Option.some.inj (e1.symm.trans e2)
  subst e
  exact kk q H1 (Wd.swap (a := a) (b := E) ⟨hP, hD, hS⟩)
theorem kputF (F : CallFix p m c c0 nL s args Ts own) (B : Bd D cc ak av A s) (w : Wd D A s.heap H locs w0) (hinit : meth.name = "<init>") {C : String} {T : u_T} {N ci : Nat} (hin : ∀ w ∈ u_ws C T N, w ∈ Ts) (ty0 : Nat → FieldType) (hty : ∀ k, k < N → parseFieldDescriptor (T k).2.2.1 = some (ty0 k)) (hnm : ∀ a, a < N → ∀ b, b < N → a ≠ b → (T a).2.1 ≠ (T b).2.1) (q0 : Nat) {fs : List Value} (he : w0[q0]? = some (b, .inr (ci, fs))) (hc : vwCl[ci]? = some (C, T, N)) (k : Nat) (hk : k < N) (hlink : (Cond.fieldLink own index (T k).1 (T k).2.1 (T k).2.2.1).before args s = true) (hfin : (T k).2.2.2 = true) (hdecl : (T k).1 = own) {ty : FieldType} {v : Value} (hd : parseFieldDescriptor (T k).2.2.1 = some ty) (hn : narrow ty v = v) (hfit : fits ty v = true) (hl : k < fs.length) (hw : w0.set q0 (b, .inr (ci, fs.set k v)) = w1)
    (hdg : decode c0 pc = .ok (.putfield index, 3)) (kk : ∀ (H1 : Heap) (locs1 : List Loc), Wd D A s.heap H1 locs1 w1 → W p l e R s m args below meth c H1 locs1 cells slots Q (F0 m (pc + 3) ls rest)) : W p l e R s m args below meth c H locs cells slots Q (F0 m pc ls (v :: .ref b :: rest)) := by
  subst hw
  exact va_putF F.1 F.2.1 F.2.2.2.2 hin ty0 hty hnm F.2.2.2.1 B.1 w.1 w.2.1 w.2.2 q0 he hc k hk hlink (fun x h => h) hfin hinit hdecl hd hn hfit hl hdg (fun H1 locs1 hP hD hS => kk H1 locs1 ⟨hP, hD, hS⟩)
end BASE2
theorem nrI {s : State} {cA : ClassId} (h : va_RA s cA .int) : s.vm.findClass ("[" ++ FieldType.int.toString) = some cA := h
theorem nrB {s : State} {cA : ClassId} (h : va_RA s cA .byte) : s.vm.findClass ("[" ++ FieldType.byte.toString) = some cA := h
theorem nrZ {s : State} {cA : ClassId} (h : va_RA s cA .boolean) : s.vm.findClass ("[" ++ FieldType.boolean.toString) = some cA := h
theorem nrL {s : State} {cA : ClassId} (h : va_RA s cA .long) : s.vm.findClass ("[" ++ FieldType.long.toString) = some cA := h
theorem zI (N : Nat) (cA : ClassId) : vp_cell cA (N, .inl (fun _ => 0)) = arrV cA N (fun _ => defaultValue .int) := rfl
theorem zB (N : Nat) (cA : ClassId) : vp_cell cA (N, .inl (fun _ => 0)) = arrV cA N (fun _ => defaultValue .byte) := rfl
theorem zZ (N : Nat) (cA : ClassId) : vp_cell cA (N, .inl (fun _ => 0)) = arrV cA N (fun _ => defaultValue .boolean) := rfl
theorem zL (N : Nat) (cA : ClassId) : vp_cell cA (N, .inr (.inl (fun _ => 0))) = arrV cA N (fun _ => defaultValue .long) := rfl
