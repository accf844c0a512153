/-! what every contract here shares: one list of words, one list of classes, one list of array classes -/
abbrev TY (cI cL cS : ClassId) : List (ClassId × FieldType) := [(cI, .int), (cL, .long), (cS, .object "FoxHoles$Shelf")]
abbrev wz (y : MethodName) (cc : ByteArray) (n : Nat) (r : Option FieldType) : List Cond := Cond.code y cc n r :: lw_g
/-- the classes' numbers and slots, the array classes -/
abbrev va_J9 : Type := va_G × ClassId × ClassId × ClassId
def KK (J : va_J9) (U : State) : Prop := va_K J.1 cls (TY J.2.1 J.2.2.1 J.2.2.2) U ∧ va_AO "FoxHoles$Shelf" U ∧ va_AOA .long U
theorem va_AOA.moved {ty : FieldType} {u U : State} (hvm : u.vm.Alike U.vm) (h : va_AOA ty u) : va_AOA ty U := Jvm.Stand.arrayOver_alikeB hvm h
theorem KK.moved {J : va_J9} {u U : State} (hvm : u.vm.Alike U.vm) (h : KK J u) : KK J U := ⟨va_K.moved hvm h.1, va_AO.moved hvm h.2.1, va_AOA.moved hvm h.2.2⟩
/-- a frame of method y: the machine, its code, the words -/
def EV (p : Program) (s : State) (m : MethodId) (meth : Method) (c : Code) (args : Array Value) (y : MethodName) (cc : ByteArray) (n : Nat) (r : Option FieldType) : Prop :=
  p.tables.exec = Jvm.exec ∧ c.code = cc ∧ meth.sig.returnType = r ∧ c.maxLocals = n ∧ s.vm.findClass y.cls = some m.cls ∧ (∀ w ∈ lw_g, w.before args s = true) ∧ meth.locks = false ∧ meth.name = y.name
/-- a contract that leaves the heap as it is -/
def RC (l : Launch) (J : va_J9) (y : MethodName) (cc : ByteArray) (n : Nat) (r : Option FieldType) (rm : Room) (av : List Value) (ws : va_W) (Qc : Array Value → State → Outcome → State → Prop) : Prop :=
  Met l y (wz y cc n r) rm (va_Pc av (fun U => va_P J.1 cls ws U.heap ∧ KK J U)) Qc 0 0 (fun _ => False)
/-- one that writes its cells, and may make new ones -/
def WC (l : Launch) (J : va_J9) (y : MethodName) (cc : ByteArray) (n : Nat) (r : Option FieldType) (rm : Room) (av : List Value) (ws : va_W) (sz : Nat) (Qc : (Nat → Prop) → Array Value → State → Outcome → State → Prop) (mc ms : Nat) : Prop :=
  Met l y (wz y cc n r) rm (va_Pc av (fun U => U.heap.size = sz ∧ va_P J.1 cls ws U.heap ∧ KK J U ∧ va_D (fun _ => True) ws)) (Qc (va_A ws sz)) mc ms (va_A ws sz)
/-- its end: an int, a long, nothing; the cells behind it -/
def Qi {S : Type} (J : va_J9) (post : Int32 → S → Prop) (w' : S → va_W) (A : Nat → Prop) : Array Value → State → Outcome → State → Prop := va_Qi post (fun u t => va_P J.1 cls (w' u) t.heap ∧ va_D A (w' u)) A
def Ql {S : Type} (J : va_J9) (post : Int64 → S → Prop) (w' : S → va_W) (A : Nat → Prop) : Array Value → State → Outcome → State → Prop := va_Ql post (fun u t => va_P J.1 cls (w' u) t.heap ∧ va_D A (w' u)) A
def Qv {S : Type} (J : va_J9) (post : S → Prop) (w' : S → va_W) (A : Nat → Prop) : Array Value → State → Outcome → State → Prop := va_Qv post (fun u t => va_P J.1 cls (w' u) t.heap ∧ va_D A (w' u)) A
theorem rc_of {l : Launch} {J : va_J9} {y : MethodName} {cc : ByteArray} {n : Nat} {r : Option FieldType} {rm : Room} {av : List Value} {ws : va_W} {Qc : Array Value → State → Outcome → State → Prop} (hy : plainName y.cls = true) (hlen : (lg_sl av).length ≤ n)
    (body : ∀ (p : Program) (e : Env) (s : State) (m : MethodId) (below : List Frame) (meth : Method) (c : Code) (ls : Array Slot), EV p s m meth c av.toArray y cc n r → lv_has ls n (lv_args 0 av) → va_P J.1 cls ws s.heap → KK J s →
      W p l e rm s m av.toArray below meth c s.heap [] 0 0 (MQ below Qc av.toArray s 0 0 (fun _ => False)) (F0 m 0 ls [])) : RC l J y cc n r rm av ws Qc := by
  refine Met.ofW (cc := cc) (maxL := n) (ret := r) hy rfl ?_
  intro p e s m args below meth c s₁ B hml hv
  obtain ⟨rfl, hP, hK⟩ := hv
  have hts := atoms_spec (ws := wz y cc n r) B.pre
  have hl := lv_entry av (n := n) hlen
  rw [lg_entry_eq]
  exact body p e s m below meth c _ ⟨B.exec, B.bytes, B.returns, hml, findClass_of_methodNamed B.named, fun w h => hts w (List.mem_cons_of_mem _ h), B.notSynchronized, (name_of_methodNamed B.named B.method).1⟩ hl hP hK
theorem wc_of {l : Launch} {J : va_J9} {y : MethodName} {cc : ByteArray} {n : Nat} {r : Option FieldType} {rm : Room} {av : List Value} {ws : va_W} {sz mc ms : Nat} {Qc : (Nat → Prop) → Array Value → State → Outcome → State → Prop} (hy : plainName y.cls = true) (hlen : (lg_sl av).length ≤ n)
    (body : ∀ (p : Program) (e : Env) (s : State) (m : MethodId) (below : List Frame) (meth : Method) (c : Code) (ls : Array Slot) (A : Nat → Prop), EV p s m meth c av.toArray y cc n r → lv_has ls n (lv_args 0 av) → va_P J.1 cls ws s.heap → KK J s → va_D A ws → va_S A s.heap s.heap [] → (∀ q, s.heap.size ≤ q → A q) →
      W p l e rm s m av.toArray below meth c s.heap [] 0 0 (MQ below (Qc A) av.toArray s mc ms A) (F0 m 0 ls [])) : WC l J y cc n r rm av ws sz Qc mc ms := by
  refine Met.ofW (cc := cc) (maxL := n) (ret := r) hy rfl ?_
  intro p e s m args below meth c s₁ B hml hv
  obtain ⟨rfl, hsz, hP, hK, hD⟩ := hv
  subst hsz
  have hts := atoms_spec (ws := wz y cc n r) B.pre
  have hl := lv_entry av (n := n) hlen
  rw [lg_entry_eq]
  exact body p e s m below meth c _ (va_A ws s.heap.size) ⟨B.exec, B.bytes, B.returns, hml, findClass_of_methodNamed B.named, fun w h => hts w (List.mem_cons_of_mem _ h), B.notSynchronized, (name_of_methodNamed B.named B.method).1⟩ hl hP hK hD.self va_S.rf (fun q h => Or.inr h)
section RT
variable {p : Program} {l : Launch} {e : Env} {R : Room} {s : State} {m : MethodId} {args : Array Value} {below : List Frame} {meth : Method} {c : Code} {H : Heap} {locs : List Loc} {cells slots : Nat} {Q : State → Prop} {cc : ByteArray} {pc : Nat} {ls : Array Slot}
/-- the ends of a contract that reads -/
theorem rz_i {v E : Int32} (hx : p.tables.exec = Jvm.exec) (hb : c.code = cc) (hr : meth.sig.returnType = some .int) (hlk : meth.locks = false) (h : v = E) (hdg : decode cc pc = .ok (.ireturn, 1)) :
    W p l e R s m args below meth c s.heap [] 0 0 (MQ below (vp_Si (fun r => r = E)) args s 0 0 (fun _ => False)) (F0 m pc ls [.int v]) :=
  W.iret hx hb hr (fun t ht _ => ⟨v, rfl, h, ht⟩) (fun _ h => by cases h) hdg hlk
theorem rz_z {v E : Int32} (hx : p.tables.exec = Jvm.exec) (hb : c.code = cc) (hr : meth.sig.returnType = some .boolean) (hlk : meth.locks = false) (hn : narrow .boolean (.int v) = .int v) (h : v = E) (hdg : decode cc pc = .ok (.ireturn, 1)) :
    W p l e R s m args below meth c s.heap [] 0 0 (MQ below (vp_Si (fun r => r = E)) args s 0 0 (fun _ => False)) (F0 m pc ls [.int v]) :=
  W.zret hx hb hr hn (fun t ht _ => ⟨v, rfl, h, ht⟩) (fun _ h => by cases h) hdg hlk
theorem rz_l {v E : Int64} (hx : p.tables.exec = Jvm.exec) (hb : c.code = cc) (hr : meth.sig.returnType = some .long) (hlk : meth.locks = false) (h : v = E) (hdg : decode cc pc = .ok (.lreturn, 1)) :
    W p l e R s m args below meth c s.heap [] 0 0 (MQ below (vp_Sl (fun r => r = E)) args s 0 0 (fun _ => False)) (F0 m pc ls [.long v]) :=
  W.lret hx hb hr (fun t ht _ => ⟨v, rfl, h, ht⟩) (fun _ h => by cases h) hdg hlk
theorem rz_a {o : Option Nat} {v : Value} {n : String} (hx : p.tables.exec = Jvm.exec) (hb : c.code = cc) (hr : meth.sig.returnType = some (.object n)) (hlk : meth.locks = false) (hv : v = .null ∨ ∃ a, v = .ref a) (h : v = va_rf o) (hdg : decode cc pc = .ok (.areturn, 1)) :
    W p l e R s m args below meth c s.heap [] 0 0 (MQ below (va_Sq (fun r => r = o)) args s 0 0 (fun _ => False)) (F0 m pc ls [v]) :=
  W.aret hx hb hr (Or.inl ⟨n, rfl⟩) hv (fun t ht _ => ⟨o, by rw [h], rfl, ht⟩) (fun _ h => by cases h) hdg hlk
theorem rz_v (hx : p.tables.exec = Jvm.exec) (hb : c.code = cc) (hr : meth.sig.returnType = none) (hlk : meth.locks = false) (hdg : decode cc pc = .ok (.return_, 1)) :
    W p l e R s m args below meth c s.heap [] 0 0 (MQ below (va_Sv (fun _ => True)) args s 0 0 (fun _ => False)) (F0 m pc ls []) :=
  W.vret hx hb hr (fun t ht _ => ⟨rfl, trivial, ht⟩) (fun _ h => by cases h) hdg hlk
/-- and of one that writes -/
theorem wz_i {S : Type} {J : va_J9} {post : Int32 → S → Prop} {w' : S → va_W} {A : Nat → Prop} {v : Int32} (u : S) (hx : p.tables.exec = Jvm.exec) (hb : c.code = cc) (hr : meth.sig.returnType = some .int) (hlk : meth.locks = false) (h : post v u) (hP : va_P J.1 cls (w' u) H) (hD : va_D A (w' u)) (hS : va_S A s.heap H locs) (hdg : decode cc pc = .ok (.ireturn, 1)) :
    W p l e R s m args below meth c H locs cells slots (MQ below (Qi J post w' A) args s cells slots A) (F0 m pc ls [.int v]) :=
  W.iret hx hb hr (fun t ht _ => ⟨⟨v, u, rfl, h, by rw [ht]; exact hP, hD⟩, hS.F ht⟩) hS.2.2 hdg hlk
theorem wz_z {S : Type} {J : va_J9} {post : Int32 → S → Prop} {w' : S → va_W} {A : Nat → Prop} {v : Int32} (u : S) (hx : p.tables.exec = Jvm.exec) (hb : c.code = cc) (hr : meth.sig.returnType = some .boolean) (hlk : meth.locks = false) (hn : narrow .boolean (.int v) = .int v) (h : post v u) (hP : va_P J.1 cls (w' u) H) (hD : va_D A (w' u)) (hS : va_S A s.heap H locs) (hdg : decode cc pc = .ok (.ireturn, 1)) :
    W p l e R s m args below meth c H locs cells slots (MQ below (Qi J post w' A) args s cells slots A) (F0 m pc ls [.int v]) :=
  W.zret hx hb hr hn (fun t ht _ => ⟨⟨v, u, rfl, h, by rw [ht]; exact hP, hD⟩, hS.F ht⟩) hS.2.2 hdg hlk
theorem wz_l {S : Type} {J : va_J9} {post : Int64 → S → Prop} {w' : S → va_W} {A : Nat → Prop} {v : Int64} (u : S) (hx : p.tables.exec = Jvm.exec) (hb : c.code = cc) (hr : meth.sig.returnType = some .long) (hlk : meth.locks = false) (h : post v u) (hP : va_P J.1 cls (w' u) H) (hD : va_D A (w' u)) (hS : va_S A s.heap H locs) (hdg : decode cc pc = .ok (.lreturn, 1)) :
    W p l e R s m args below meth c H locs cells slots (MQ below (Ql J post w' A) args s cells slots A) (F0 m pc ls [.long v]) :=
  W.lret hx hb hr (fun t ht _ => ⟨⟨v, u, rfl, h, by rw [ht]; exact hP, hD⟩, hS.F ht⟩) hS.2.2 hdg hlk
theorem wz_v {S : Type} {J : va_J9} {post : S → Prop} {w' : S → va_W} {A : Nat → Prop} (u : S) (hx : p.tables.exec = Jvm.exec) (hb : c.code = cc) (hr : meth.sig.returnType = none) (hlk : meth.locks = false) (h : post u) (hP : va_P J.1 cls (w' u) H) (hD : va_D A (w' u)) (hS : va_S A s.heap H locs) (hdg : decode cc pc = .ok (.return_, 1)) :
    W p l e R s m args below meth c H locs cells slots (MQ below (Qv J post w' A) args s cells slots A) (F0 m pc ls []) :=
  W.vret hx hb hr (fun t ht _ => ⟨⟨u, rfl, h, by rw [ht]; exact hP, hD⟩, hS.F ht⟩) hS.2.2 hdg hlk
end RT
