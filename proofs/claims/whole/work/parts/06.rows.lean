/-! Rows of my own over the kit's: a world given by a state (wd : S → va_W), contracts of three kinds (M: changes the state, R: reads it, P: static and pure). -/
def nmv {α β : Type} (a : α) (f : α → β) : β := f a
theorem nm_at {α β : Type} {a v : α} {f : α → β} {r : β} (h : nmv a f = r) (e : v = a) : f v = r := by subst e; exact h
theorem ck_if {α : Type} {c : Prop} [Decidable c] {a : Option α} {r : α} (h : (if c then none else a) = some r) : ¬ c ∧ a = some r := by
  by_cases hc : c
  · rw [if_pos hc] at h; cases h
  · rw [if_neg hc] at h; exact ⟨hc, h⟩
theorem bd_ob {α β : Type} {o : Option α} {f : α → Option β} {r : β} (h : o.bind f = some r) : ∃ z, o = some z ∧ f z = some r := by
  cases o with
  | none => cases h
  | some z => exact ⟨z, rfl, h⟩
section GG
variable {S : Type}
def gB (D : va_G) (tys : List (ClassId × FieldType)) (wd : S → va_W) (u : S) (U : State) : Prop := va_P D vwCl (wd u) U.heap ∧ va_K D vwCl tys U
def gI (D : va_G) (wd : S → va_W) (A : Nat → Prop) (H0 H : Heap) (locs : List Loc) (u : S) : Prop := va_P D vwCl (wd u) H ∧ va_S A H0 H locs
abbrev gMi (l : Launch) (y : MethodName) (ws : List Cond) (rm : Room) (D : va_G) (tys : List (ClassId × FieldType)) (wd : S → va_W) (A : Nat → Prop) (av : List Value) (u : S) (z : Int32 × S) : Prop := Met l y ws rm (va_Pc av (gB D tys wd u)) (va_Qi (fun r x => (r, x) = z) (gB D tys wd) A) 0 0 A
abbrev gMl (l : Launch) (y : MethodName) (ws : List Cond) (rm : Room) (D : va_G) (tys : List (ClassId × FieldType)) (wd : S → va_W) (A : Nat → Prop) (av : List Value) (u : S) (z : Int64 × S) : Prop := Met l y ws rm (va_Pc av (gB D tys wd u)) (va_Ql (fun r x => (r, x) = z) (gB D tys wd) A) 0 0 A
abbrev gMv (l : Launch) (y : MethodName) (ws : List Cond) (rm : Room) (D : va_G) (tys : List (ClassId × FieldType)) (wd : S → va_W) (A : Nat → Prop) (av : List Value) (u : S) (z : S) : Prop := Met l y ws rm (va_Pc av (gB D tys wd u)) (va_Qv (fun x => x = z) (gB D tys wd) A) 0 0 A
abbrev gRi (l : Launch) (y : MethodName) (ws : List Cond) (rm : Room) (D : va_G) (tys : List (ClassId × FieldType)) (wd : S → va_W) (av : List Value) (u : S) (z : Int32) : Prop := Met l y ws rm (va_Pc av (gB D tys wd u)) (vp_Si (fun r => r = z)) 0 0 (fun _ => False)
abbrev gRl (l : Launch) (y : MethodName) (ws : List Cond) (rm : Room) (D : va_G) (tys : List (ClassId × FieldType)) (wd : S → va_W) (av : List Value) (u : S) (z : Int64) : Prop := Met l y ws rm (va_Pc av (gB D tys wd u)) (vp_Sl (fun r => r = z)) 0 0 (fun _ => False)
end GG
abbrev gPi (l : Launch) (y : MethodName) (ws : List Cond) (rm : Room) (av : List Value) (z : Int32) : Prop := Met l y ws rm (va_Pc av (fun _ => True)) (vp_Si (fun r => r = z)) 0 0 (fun _ => False)
abbrev gPl (l : Launch) (y : MethodName) (ws : List Cond) (rm : Room) (av : List Value) (z : Int64) : Prop := Met l y ws rm (va_Pc av (fun _ => True)) (vp_Sl (fun r => r = z)) 0 0 (fun _ => False)
/-- the room of a method: how deep its calls go, how many words of locals they take -/
def rmF (f n : Nat) : Room := { frames := f, cells := 0, slots := 0, locals := n }
theorem i32_ne {x : Int32} (v : Int32) (k : Int) (hk : v.toInt = k) (h : ¬ x = v) : x.toInt ≠ k := fun e => h (Int32.toInt_inj.mp (by rw [e, hk]))
theorem nar_z {v : Int32} (h : v = 0 ∨ v = 1) : narrow .boolean (.int v) = .int v := by rcases h with rfl | rfl <;> rfl
theorem fit_z {v : Int32} (h : v = 0 ∨ v = 1) : fits .boolean (.int v) = true := by rcases h with rfl | rfl <;> rfl
theorem va_D_nd {A : Nat → Prop} {ws : va_W} (h : va_nd (ws.map fun x => x.1) = true) (hA : ∀ a ∈ ws.map (fun x => x.1), A a) : va_D A ws := by
  refine ⟨fun i j p q hi hj e => va_nd_inj _ h i j p.1 ?_ ?_, fun k q hk => hA _ (List.mem_map.mpr ⟨q, List.mem_of_getElem? hk, rfl⟩)⟩
  · rw [List.getElem?_map, hi]; rfl
  · rw [List.getElem?_map, hj, e]; rfl
theorem good_cons {big : List Cond} {w : Cond} (hg : GoodIn big big) (h : w ∈ big) : GoodIn big (w :: big) := fun v hv => by
  rcases List.mem_cons.mp hv with rfl | hv
  · exact hg _ h
  · exact hg _ hv
theorem good_one {big : List Cond} {w : Cond} (hg : GoodIn big big) (h : w ∈ big) : GoodIn big [w] := fun v hv => by
  rcases List.mem_cons.mp hv with rfl | hv
  · exact hg _ h
  · exact absurd hv List.not_mem_nil
theorem g_blindP (av : List Value) : FrameBlind (va_Pc av (fun _ => True)) := fun a U g mk h => h
theorem g_blind {S : Type} (D : va_G) (tys : List (ClassId × FieldType)) (wd : S → va_W) (av : List Value) (u : S) : FrameBlind (va_Pc av (gB D tys wd u)) := fun a U g mk h => ⟨h.1, h.2.1, va_K.moved (u := U) (U := U.calling g mk a) (Vm.Alike.refl U.vm) h.2.2⟩
/-- a contract's proof begins (of a JDK method too, where no native row stands for it) -/
theorem g_start {l : Launch} {y : MethodName} {cc : ByteArray} {maxL : Nat} {ret : Option FieldType} {Ts : List Cond} {rm : Room} {av : List Value} {B : State → Prop} {Qc : Array Value → State → Outcome → State → Prop} {free : Addr → Prop} (hy : plainFor y = true) (hlen : (lg_sl av).length ≤ maxL)
    (body : ∀ (p : Program) (e : Env) (s0 : State) (m : MethodId) (args : Array Value) (below : List Frame) (meth : Method) (c : Code) (ls : Array Slot), CallFix p m c cc maxL s0 args Ts y.cls → meth.sig.returnType = ret → meth.locks = false → B s0 → lv_has ls maxL (lv_args 0 av) → W p l e rm s0 m args below meth c s0.heap [] 0 0 (MQ below Qc args s0 0 0 free) (F0 m 0 ls [])) :
    Met l y (Cond.code y cc maxL ret :: Ts) rm (va_Pc av B) Qc 0 0 free := by
  refine MetFree.of_bodySF (code := cc) (maxLocals := maxL) (ret := ret) hy ?_ ?_
  · intro args s m h hn
    obtain ⟨meth, c, h1, h2, h3, h4, h5, h6, -, -⟩ := Cond.code_spec hn (atoms_spec (ws := Cond.code y cc maxL ret :: Ts) h _ List.mem_cons_self)
    exact ⟨meth, c, h1, h2, h3, h4, h5, h6⟩
  · intro p e s0 m args below meth c s₁ X hml hv _
    obtain ⟨rfl, hB⟩ := hv
    have hts := atoms_spec (ws := Cond.code y cc maxL ret :: Ts) X.pre
    have hl := lv_entry av (n := maxL) hlen
    have hh0 : s₁.heap = s0.heap := by rw [X.state]; rfl
    have k := body p e s0 m _ below meth c _ ⟨X.exec, X.bytes, hml, findClass_of_methodNamed X.named, fun w h => hts w (List.mem_cons_of_mem _ h)⟩ X.returns X.notSynchronized hB hl
    rw [← lg_entry_eq] at k
    obtain ⟨t, a1, o, b1, b2, b3⟩ := k s₁ hh0 (Stand.of_body X)
    exact ⟨t, o, a1, b1, b2, ⟨b3.1, b3.2⟩⟩
section GR
variable {p : Program} {l : Launch} {e : Env} {R : Room} {s0 : State} {m : MethodId} {args : Array Value} {below : List Frame} {meth : Method} {c : Code} {H : Heap} {locs : List Loc} {Q : State → Prop} {pc : Nat} {ls : Array Slot} {rest st0 : List Value} {cc : ByteArray} {nL : Nat} {Ts : List Cond} {own : String}
variable {S : Type} {D : va_G} {tys : List (ClassId × FieldType)} {wd : S → va_W} {A : Nat → Prop} {u : S}
theorem g_iret {v : Int32} {z : Int32 × S} (X : CallFix p m c cc nL s0 args Ts own) (hr : meth.sig.returnType = some .int) (hlk : meth.locks = false) (hK : va_K D vwCl tys s0) (hI : gI D wd A s0.heap H locs u) (hfin : some (v, u) = some z) (d : decode cc pc = .ok (.ireturn, 1)) : W p l e R s0 m args below meth c H locs 0 0 (MQ below (va_Qi (fun r x => (r, x) = z) (gB D tys wd) A) args s0 0 0 A) (F0 m pc ls [.int v]) :=
  W.iret X.1 X.2.1 hr (fun t ht hW => ⟨⟨v, u, rfl, Option.some.inj hfin, by rw [ht]; exact hI.1, va_K.moved hW.alike hK⟩, hI.2.F ht⟩) hI.2.2.2 d hlk
theorem g_zret {v : Int32} {z : Int32 × S} (X : CallFix p m c cc nL s0 args Ts own) (hr : meth.sig.returnType = some .boolean) (hlk : meth.locks = false) (hz : narrow .boolean (.int v) = .int v) (hK : va_K D vwCl tys s0) (hI : gI D wd A s0.heap H locs u) (hfin : some (v, u) = some z) (d : decode cc pc = .ok (.ireturn, 1)) : W p l e R s0 m args below meth c H locs 0 0 (MQ below (va_Qi (fun r x => (r, x) = z) (gB D tys wd) A) args s0 0 0 A) (F0 m pc ls [.int v]) :=
  W.zret X.1 X.2.1 hr hz (fun t ht hW => ⟨⟨v, u, rfl, Option.some.inj hfin, by rw [ht]; exact hI.1, va_K.moved hW.alike hK⟩, hI.2.F ht⟩) hI.2.2.2 d hlk
theorem g_lret {v : Int64} {z : Int64 × S} (X : CallFix p m c cc nL s0 args Ts own) (hr : meth.sig.returnType = some .long) (hlk : meth.locks = false) (hK : va_K D vwCl tys s0) (hI : gI D wd A s0.heap H locs u) (hfin : some (v, u) = some z) (d : decode cc pc = .ok (.lreturn, 1)) : W p l e R s0 m args below meth c H locs 0 0 (MQ below (va_Ql (fun r x => (r, x) = z) (gB D tys wd) A) args s0 0 0 A) (F0 m pc ls [.long v]) :=
  W.lret X.1 X.2.1 hr (fun t ht hW => ⟨⟨v, u, rfl, Option.some.inj hfin, by rw [ht]; exact hI.1, va_K.moved hW.alike hK⟩, hI.2.F ht⟩) hI.2.2.2 d hlk
theorem g_vret {z : S} (X : CallFix p m c cc nL s0 args Ts own) (hr : meth.sig.returnType = none) (hlk : meth.locks = false) (hK : va_K D vwCl tys s0) (hI : gI D wd A s0.heap H locs u) (hfin : some u = some z) (d : decode cc pc = .ok (.return_, 1)) : W p l e R s0 m args below meth c H locs 0 0 (MQ below (va_Qv (fun x => x = z) (gB D tys wd) A) args s0 0 0 A) (F0 m pc ls []) :=
  W.vret X.1 X.2.1 hr (fun t ht hW => ⟨⟨u, rfl, Option.some.inj hfin, by rw [ht]; exact hI.1, va_K.moved hW.alike hK⟩, hI.2.F ht⟩) hI.2.2.2 d hlk
theorem g_iretP {v z : Int32} (X : CallFix p m c cc nL s0 args Ts own) (hr : meth.sig.returnType = some .int) (hlk : meth.locks = false) (hfin : v = z) (d : decode cc pc = .ok (.ireturn, 1)) : W p l e R s0 m args below meth c s0.heap [] 0 0 (MQ below (vp_Si (fun r => r = z)) args s0 0 0 (fun _ => False)) (F0 m pc ls [.int v]) :=
  W.iret X.1 X.2.1 hr (fun t ht hW => ⟨v, rfl, hfin, ht⟩) (fun q h => absurd h List.not_mem_nil) d hlk
theorem g_zretP {v z : Int32} (X : CallFix p m c cc nL s0 args Ts own) (hr : meth.sig.returnType = some .boolean) (hlk : meth.locks = false) (hz : narrow .boolean (.int v) = .int v) (hfin : v = z) (d : decode cc pc = .ok (.ireturn, 1)) : W p l e R s0 m args below meth c s0.heap [] 0 0 (MQ below (vp_Si (fun r => r = z)) args s0 0 0 (fun _ => False)) (F0 m pc ls [.int v]) :=
  W.zret X.1 X.2.1 hr hz (fun t ht hW => ⟨v, rfl, hfin, ht⟩) (fun q h => absurd h List.not_mem_nil) d hlk
theorem g_lretP {v z : Int64} (X : CallFix p m c cc nL s0 args Ts own) (hr : meth.sig.returnType = some .long) (hlk : meth.locks = false) (hfin : v = z) (d : decode cc pc = .ok (.lreturn, 1)) : W p l e R s0 m args below meth c s0.heap [] 0 0 (MQ below (vp_Sl (fun r => r = z)) args s0 0 0 (fun _ => False)) (F0 m pc ls [.long v]) :=
  W.lret X.1 X.2.1 hr (fun t ht hW => ⟨v, rfl, hfin, ht⟩) (fun q h => absurd h List.not_mem_nil) d hlk
variable {y : MethodName} {bytes : ByteArray} {maxL index n : Nat} {ret : Option FieldType} {ws : List Cond} {rm : Room} {C : String} {b : Nat}
/-- a call of a static pure method -/
theorem g_callPi (As rest : List Value) {z : Int32} (X : CallFix p m c cc nL s0 args Ts own) (hM : gPi l y ws rm As z) (cw : CallB R s0 args own index y bytes maxL ret ws rm 0 0 n ∧ (Cond.static y).before args s0 = true) (hn : As.length = n) (hsz : ls.size = nL) (hst : st0 = As.reverse ++ rest) (hW : (rest.map fun v => v.category).sum ≤ 8) (d : decode cc pc = .ok (.invokestatic index, 3))
    (kk : W p l e R s0 m args below meth c H locs 0 0 Q (F0 m (pc + 3) ls (.int z :: rest))) : W p l e R s0 m args below meth c H locs 0 0 Q (F0 m pc ls st0) :=
  vp_callSi (W.runS (As := As) (rest := rest) (g := F0 m pc ls st0) X hM cw ⟨g_blindP As, fun U hU hW => ⟨rfl, trivial⟩⟩ rfl hn hsz hst (lv_room (pc := pc) (ls := ls) (rest := st0) hW) d ⟨Nat.zero_le _, Nat.zero_le _⟩) (fun r hr => by rw [hr]; exact kk)
theorem g_callPl (As rest : List Value) {z : Int64} (X : CallFix p m c cc nL s0 args Ts own) (hM : gPl l y ws rm As z) (cw : CallB R s0 args own index y bytes maxL ret ws rm 0 0 n ∧ (Cond.static y).before args s0 = true) (hn : As.length = n) (hsz : ls.size = nL) (hst : st0 = As.reverse ++ rest) (hW : (rest.map fun v => v.category).sum ≤ 8) (d : decode cc pc = .ok (.invokestatic index, 3))
    (kk : W p l e R s0 m args below meth c H locs 0 0 Q (F0 m (pc + 3) ls (.long z :: rest))) : W p l e R s0 m args below meth c H locs 0 0 Q (F0 m pc ls st0) :=
  vp_callSl (W.runS (As := As) (rest := rest) (g := F0 m pc ls st0) X hM cw ⟨g_blindP As, fun U hU hW => ⟨rfl, trivial⟩⟩ rfl hn hsz hst (lv_room (pc := pc) (ls := ls) (rest := st0) hW) d ⟨Nat.zero_le _, Nat.zero_le _⟩) (fun r hr => by rw [hr]; exact kk)
/-- the receiver is there -/
def g_rcv (D : va_G) (tys : List (ClassId × FieldType)) (wd : S → va_W) (s0 : State) (C : String) (b : Nat) : Prop := ∀ (u : S) (H : Heap), va_K D vwCl tys s0 → va_P D vwCl (wd u) H → ∃ cellB : Cell, H[b]? = some cellB ∧ cellB.vm.isStatics = false ∧ s0.vm.findClass C = some cellB.cls
/-- a call of a method that reads -/
theorem g_callRi (As rest : List Value) {z : Int32} (X : CallFix p m c cc nL s0 args Ts own) (hK : va_K D vwCl tys s0) (hv : g_rcv D tys wd s0 C b) (hP : va_P D vwCl (wd u) H) (hM : gRi l y ws rm D tys wd (.ref b :: As) u z) (cw : CallW R s0 args own C index y bytes maxL ret ws rm 0 0 n) (hn : As.length = n) (hsz : ls.size = nL) (hst : st0 = As.reverse ++ .ref b :: rest) (hW : (rest.map fun v => v.category).sum ≤ 8) (d : decode cc pc = .ok (.invokevirtual index, 3))
    (kk : W p l e R s0 m args below meth c H locs 0 0 Q (F0 m (pc + 3) ls (.int z :: rest))) : W p l e R s0 m args below meth c H locs 0 0 Q (F0 m pc ls st0) :=
  vp_callSi (W.runV (As := As) (rest := rest) (g := F0 m pc ls st0) X hM cw ⟨g_blind D tys wd _ u, hv u H hK hP, fun U hU hW => ⟨rfl, by rw [hU]; exact hP, va_K.moved hW.alike hK⟩⟩ rfl hn hsz hst (lv_room (pc := pc) (ls := ls) (rest := st0) hW) d ⟨Nat.zero_le _, Nat.zero_le _⟩) (fun r hr => by rw [hr]; exact kk)
theorem g_callRl (As rest : List Value) {z : Int64} (X : CallFix p m c cc nL s0 args Ts own) (hK : va_K D vwCl tys s0) (hv : g_rcv D tys wd s0 C b) (hP : va_P D vwCl (wd u) H) (hM : gRl l y ws rm D tys wd (.ref b :: As) u z) (cw : CallW R s0 args own C index y bytes maxL ret ws rm 0 0 n) (hn : As.length = n) (hsz : ls.size = nL) (hst : st0 = As.reverse ++ .ref b :: rest) (hW : (rest.map fun v => v.category).sum ≤ 8) (d : decode cc pc = .ok (.invokevirtual index, 3))
    (kk : W p l e R s0 m args below meth c H locs 0 0 Q (F0 m (pc + 3) ls (.long z :: rest))) : W p l e R s0 m args below meth c H locs 0 0 Q (F0 m pc ls st0) :=
  vp_callSl (W.runV (As := As) (rest := rest) (g := F0 m pc ls st0) X hM cw ⟨g_blind D tys wd _ u, hv u H hK hP, fun U hU hW => ⟨rfl, by rw [hU]; exact hP, va_K.moved hW.alike hK⟩⟩ rfl hn hsz hst (lv_room (pc := pc) (ls := ls) (rest := st0) hW) d ⟨Nat.zero_le _, Nat.zero_le _⟩) (fun r hr => by rw [hr]; exact kk)
/-- a call of a method that changes the state -/
theorem g_callMi (As rest : List Value) {z : Int32 × S} (X : CallFix p m c cc nL s0 args Ts own) (hK : va_K D vwCl tys s0) (hv : g_rcv D tys wd s0 C b) (hI : gI D wd A s0.heap H locs u) (hM : gMi l y ws rm D tys wd A (.ref b :: As) u z) (cw : CallW R s0 args own C index y bytes maxL ret ws rm 0 0 n) (hn : As.length = n) (hsz : ls.size = nL) (hst : st0 = As.reverse ++ .ref b :: rest) (hW : (rest.map fun v => v.category).sum ≤ 8) (d : decode cc pc = .ok (.invokevirtual index, 3))
    (kk : ∀ (H : Heap) (locs : List Loc), gI D wd A s0.heap H locs z.2 → W p l e R s0 m args below meth c H locs 0 0 Q (F0 m (pc + 3) ls (.int z.1 :: rest))) : W p l e R s0 m args below meth c H locs 0 0 Q (F0 m pc ls st0) := by
  refine va_calli (va_runV (As := As) (rest := rest) (g := F0 m pc ls st0) X hM cw ⟨g_blind D tys wd _ u, hv u H hK hI.1, fun U hU hW => ⟨rfl, by rw [hU]; exact hI.1, va_K.moved hW.alike hK⟩⟩ rfl hn hsz hst (lv_room (pc := pc) (ls := ls) (rest := st0) hW) d ⟨Nat.zero_le _, Nat.zero_le _⟩) hI.2 (fun q _ h => h) (fun q h => h) (fun r x t H1 locs1 ht hvm hp hB hz1 hk1 hS => ?_)
  subst hp
  exact kk H1 locs1 ⟨by rw [← ht]; exact hB.1, hS⟩
theorem g_callMl (As rest : List Value) {z : Int64 × S} (X : CallFix p m c cc nL s0 args Ts own) (hK : va_K D vwCl tys s0) (hv : g_rcv D tys wd s0 C b) (hI : gI D wd A s0.heap H locs u) (hM : gMl l y ws rm D tys wd A (.ref b :: As) u z) (cw : CallW R s0 args own C index y bytes maxL ret ws rm 0 0 n) (hn : As.length = n) (hsz : ls.size = nL) (hst : st0 = As.reverse ++ .ref b :: rest) (hW : (rest.map fun v => v.category).sum ≤ 8) (d : decode cc pc = .ok (.invokevirtual index, 3))
    (kk : ∀ (H : Heap) (locs : List Loc), gI D wd A s0.heap H locs z.2 → W p l e R s0 m args below meth c H locs 0 0 Q (F0 m (pc + 3) ls (.long z.1 :: rest))) : W p l e R s0 m args below meth c H locs 0 0 Q (F0 m pc ls st0) := by
  refine va_calll (va_runV (As := As) (rest := rest) (g := F0 m pc ls st0) X hM cw ⟨g_blind D tys wd _ u, hv u H hK hI.1, fun U hU hW => ⟨rfl, by rw [hU]; exact hI.1, va_K.moved hW.alike hK⟩⟩ rfl hn hsz hst (lv_room (pc := pc) (ls := ls) (rest := st0) hW) d ⟨Nat.zero_le _, Nat.zero_le _⟩) hI.2 (fun q _ h => h) (fun q h => h) (fun r x t H1 locs1 ht hvm hp hB hz1 hk1 hS => ?_)
  subst hp
  exact kk H1 locs1 ⟨by rw [← ht]; exact hB.1, hS⟩
theorem g_callMv (As rest : List Value) {z : S} (X : CallFix p m c cc nL s0 args Ts own) (hK : va_K D vwCl tys s0) (hv : g_rcv D tys wd s0 C b) (hI : gI D wd A s0.heap H locs u) (hM : gMv l y ws rm D tys wd A (.ref b :: As) u z) (cw : CallW R s0 args own C index y bytes maxL ret ws rm 0 0 n) (hn : As.length = n) (hsz : ls.size = nL) (hst : st0 = As.reverse ++ .ref b :: rest) (hW : (rest.map fun v => v.category).sum ≤ 8) (d : decode cc pc = .ok (.invokevirtual index, 3))
    (kk : ∀ (H : Heap) (locs : List Loc), gI D wd A s0.heap H locs z → W p l e R s0 m args below meth c H locs 0 0 Q (F0 m (pc + 3) ls rest)) : W p l e R s0 m args below meth c H locs 0 0 Q (F0 m pc ls st0) := by
  refine va_callv (va_runV (As := As) (rest := rest) (g := F0 m pc ls st0) X hM cw ⟨g_blind D tys wd _ u, hv u H hK hI.1, fun U hU hW => ⟨rfl, by rw [hU]; exact hI.1, va_K.moved hW.alike hK⟩⟩ rfl hn hsz hst (lv_room (pc := pc) (ls := ls) (rest := st0) hW) d ⟨Nat.zero_le _, Nat.zero_le _⟩) hI.2 (fun q _ h => h) (fun q h => h) (fun x t H1 locs1 ht hvm hp hB hz1 hk1 hS => ?_)
  subst hp
  exact kk H1 locs1 ⟨by rw [← ht]; exact hB.1, hS⟩
end GR
