/-! ===== worlds as maps: a judgement jj, and a row an instruction ===== -/
abbrev mp_T : Type := Nat → Option va_E
def mp_P (D : va_G) (cl : List vw_C) (M : mp_T) (H : Heap) : Prop := ∀ (a : Nat) (e : va_E), M a = some e → va_at D cl (a, e) H
def mp_U (M : mp_T) (a : Nat) (e : va_E) : mp_T := fun b => if b = a then some e else M b
theorem mp_Us (M : mp_T) (a : Nat) (e : va_E) : mp_U M a e a = some e := if_pos rfl
theorem mp_Un {M : mp_T} {a b : Nat} {e : va_E} (h : b ≠ a) : mp_U M a e b = M b := if_neg h
theorem mp_lt {D : va_G} {cl : List vw_C} {M : mp_T} {H : Heap} (h : mp_P D cl M H) {a : Nat} {e : va_E} (ha : M a = some e) : a < H.size := (h a e ha).lt
theorem mp_set {D : va_G} {cl : List vw_C} {M : mp_T} {H H1 : Heap} {a : Nat} {e : va_E} (h : mp_P D cl M H) (oq : ∀ q : Nat, q ≠ a → H1[q]? = H[q]?) (he : va_at D cl (a, e) H1) : mp_P D cl (mp_U M a e) H1 := by
  intro b e' hb
  by_cases hba : b = a
  · subst hba
    rw [mp_Us] at hb
    cases hb
    exact he
  · rw [mp_Un hba] at hb
    exact (h b e' hb).kept (oq b hba)
theorem mp_new {D : va_G} {cl : List vw_C} {M : mp_T} {H H1 : Heap} {e : va_E} (h : mp_P D cl M H) (oq : ∀ q : Nat, q < H.size → H1[q]? = H[q]?) (he : va_at D cl (H.size, e) H1) : mp_P D cl (mp_U M H.size e) H1 := by
  intro b e' hb
  by_cases hba : b = H.size
  · subst hba
    rw [mp_Us] at hb
    cases hb
    exact he
  · rw [mp_Un hba] at hb
    exact (h b e' hb).kept (oq b (mp_lt h hb))
theorem mp_kept {D : va_G} {cl : List vw_C} {M : mp_T} {H H1 : Heap} (h : mp_P D cl M H) (oq : ∀ q : Nat, q < H.size → H1[q]? = H[q]?) : mp_P D cl M H1 := fun a e ha => (h a e ha).kept (oq a (mp_lt h ha))
theorem mp_one {D : va_G} {cl : List vw_C} {M : mp_T} {H : Heap} (h : mp_P D cl M H) {a : Nat} {e : va_E} (ha : M a = some e) : va_P D cl [(a, e)] H := by
  intro k q hk
  cases k with
  | zero =>
    cases hk
    exact h a e ha
  | succ k => simp at hk
/-- what is fixed for a whole run: the classes' numbers and slots; the array classes of byte, int, long; the first address that is ours, the empty key's address -/
abbrev gv_T : Type := va_G × (ClassId × ClassId × ClassId) × (Nat × Nat)
def ge_A (G : gv_T) : Nat → Prop := fun q => G.2.2.1 ≤ q
def gk_K (G : gv_T) (U : State) : Prop := va_K G.1 cls_L [(G.2.1.1, .byte), (G.2.1.2.1, .int), (G.2.1.2.2, .long)] U
theorem gk_moved {G : gv_T} {u U : State} (hvm : u.vm.Alike U.vm) (h : gk_K G u) : gk_K G U := va_K.moved hvm h
abbrev xn_IA : String := "java/lang/IllegalArgumentException"
abbrev xn_IS : String := "java/lang/IllegalStateException"
abbrev xn_IO : String := "java/lang/IndexOutOfBoundsException"
abbrev xn_NS : String := "java/util/NoSuchElementException"
def dc_M : List MethodName := [⟨"java/lang/RuntimeException", "<init>", "()V"⟩, ⟨"java/lang/RuntimeException", "<init>", "(Ljava/lang/String;)V"⟩, ⟨"java/lang/Exception", "<init>", "()V"⟩, ⟨"java/lang/Exception", "<init>", "(Ljava/lang/String;)V"⟩, ⟨"java/lang/Throwable", "<init>", "()V"⟩, ⟨"java/lang/Throwable", "<init>", "(Ljava/lang/String;)V"⟩]
/-- the statics that are read, and which exceptions pass which handlers -/
def sx_S (G : gv_T) (U : State) (H : Heap) : Prop :=
  vx_Zq Bundle.tN "UNASSIGNED_STACK" Bundle.steD (ge_A G) U H ∧ vx_Zq Bundle.tN "SUPPRESSED_SENTINEL" Bundle.listD (ge_A G) U H ∧ va_Z "MomentTree" "BEFORE_ALL_KEYS" "[B" (.ref G.2.2.2) (ge_A G) U H ∧ va_T .byte G.2.2.2 0 (fun _ => .null) (ge_A G) U H ∧
  va_Nc xn_IS xn_IA U ∧ va_Nc xn_NS xn_IA U ∧ va_Nc xn_IO xn_NS U ∧ va_Nw (.castable xn_IA xn_IA) U ∧ va_Nw (.castable xn_IS xn_IS) U ∧ va_Nw (.castable xn_IO xn_IO) U ∧ va_Nw (.castable xn_NS xn_NS) U ∧ ∀ x ∈ dc_M, va_Nw (.declares x) U
theorem nw_de {x : MethodName} {s U : State} (h : s.vm.Alike U.vm) (hZ : va_Nw (.declares x) s) : va_Nw (.declares x) U := va_tabs rfl (rfl : (s.setVm U.vm).vm = U.vm) (by rw [Cond.declares_setVm h]; exact hZ)
theorem nw_ca {C T : String} {s U : State} (h : s.vm.Alike U.vm) (hZ : va_Nw (.castable C T) s) : va_Nw (.castable C T) U := va_tabs rfl (rfl : (s.setVm U.vm).vm = U.vm) (by rw [Cond.castable_setVm h]; exact hZ)
theorem sx_moved {G : gv_T} {u U : State} {H : Heap} (hvm : u.vm.Alike U.vm) (h : sx_S G u H) : sx_S G U H := by
  obtain ⟨h1, h2, h3, h4, h5, h6, h7, h8, h9, h10, h11, h12⟩ := h
  exact ⟨vx_Zq.moved hvm h1, vx_Zq.moved hvm h2, va_Z.moved hvm h3, va_T.moved hvm h4, va_Nc.moved hvm h5, va_Nc.moved hvm h6, va_Nc.moved hvm h7, nw_ca hvm h8, nw_ca hvm h9, nw_ca hvm h10, nw_ca hvm h11, fun x hx => nw_de hvm (h12 x hx)⟩
theorem sx_kept {G : gv_T} {U : State} {H H1 : Heap} (h : sx_S G U H) (hq : ∀ a : Nat, a < H.size → ¬ ge_A G a → H1[a]? = H[a]?) : sx_S G U H1 := by
  obtain ⟨h1, h2, h3, h4, h5⟩ := h
  exact ⟨vx_Zq.kept h1 hq, vx_Zq.kept h2 hq, va_Z.kept h3 hq, va_T.kept h4 hq, h5⟩
/-- a state that holds the world M -/
def wd_W (G : gv_T) (M : mp_T) (U : State) : Prop := G.2.2.1 ≤ U.heap.size ∧ mp_P G.1 cls_L M U.heap ∧ gk_K G U ∧ sx_S G U U.heap
def cq_Q (G : gv_T) (po : Option Value → mp_T → Prop) : Array Value → State → Outcome → State → Prop := fun _ st oc t => (∃ (v : Option Value) (M' : mp_T), oc = .returned v ∧ po v M' ∧ wd_W G M' t) ∧ va_F (ge_A G) st t
def cx_X (G : gv_T) (px : String → mp_T → Prop) : String → State → State → Prop := fun E st t => ∃ M' : mp_T, px E M' ∧ wd_W G M' t ∧ va_F (ge_A G) st t
/-- a method's contract: with these arguments, in the world M, it answers v and leaves M' with 'po v M'', or throws E and leaves M' with 'px E M'' -/
def ct_C (l : Launch) (G : gv_T) (y : MethodName) (cc : ByteArray) (maxL : Nat) (ret : Option FieldType) (rm : Room) (av : List Value) (M : mp_T) (po : Option Value → mp_T → Prop) (px : String → mp_T → Prop) : Prop :=
  vx_Met l y (Cond.code y cc maxL ret :: tb_ws) rm (va_Pc av (wd_W G M)) (cq_Q G po) (cx_X G px) rm.cells rm.slots (ge_A G)
def ct_H (l : Launch) (G : gv_T) (y : MethodName) (cc : ByteArray) (maxL : Nat) (ret : Option FieldType) (hh : List (Nat × Nat × Nat × Nat)) (rm : Room) (av : List Value) (M : mp_T) (po : Option Value → mp_T → Prop) (px : String → mp_T → Prop) : Prop :=
  vx_Met l y (Cond.codeWith y cc maxL ret hh :: tb_ws) rm (va_Pc av (wd_W G M)) (cq_Q G po) (cx_X G px) rm.cells rm.slots (ge_A G)
abbrev jq_Q (below : List Frame) (G : gv_T) (po : Option Value → mp_T → Prop) (px : String → mp_T → Prop) (args : Array Value) (s : State) (rm : Room) : State → Prop := vx_MQ below (cq_Q G po) (cx_X G px) args s rm.cells rm.slots (ge_A G)
/-- what is fixed in a method's body -/
def jf (p : Program) (l : Launch) (s : State) (m : MethodId) (args : Array Value) (meth : Method) (c : Code) (G : gv_T) (own : String) (cc : ByteArray) (nL : Nat) (tab : List ExceptionTableEntry) : Prop :=
  p.tables.exec = Jvm.exec ∧ c.code = cc ∧ c.maxLocals = nL ∧ s.vm.findClass own = some m.cls ∧ (∀ w ∈ tb_ws, w.before args s = true) ∧ gk_K G s ∧ G.2.2.1 ≤ s.heap.size ∧ sx_S G s s.heap ∧ meth.locks = false ∧ l.stackTraces = false ∧ c.exceptionTable.toList = tab
/-- the machine at pc with these locals and this stack, in any heap that holds the world M, comes to Q -/
def jj (p : Program) (l : Launch) (e : Env) (R : Room) (s : State) (m : MethodId) (args : Array Value) (below : List Frame) (meth : Method) (c : Code) (G : gv_T) (nL : Nat) (Q : State → Prop) (M : mp_T) (k n : Nat) (lv : List (Nat × Value)) (pc : Nat) (st : List Value) : Prop :=
  ∀ (H : Heap) (locs : List Loc) (ls : Array Slot), mp_P G.1 cls_L M H → va_S (ge_A G) s.heap H locs → lv_has ls nL lv → W p l e R s m args below meth c H locs k n Q (F0 m pc ls st)
/-- .. with an exception of the subject E thrown -/
def jx (p : Program) (l : Launch) (e : Env) (R : Room) (s : State) (m : MethodId) (args : Array Value) (below : List Frame) (meth : Method) (c : Code) (G : gv_T) (nL : Nat) (Q : State → Prop) (M : mp_T) (k n : Nat) (lv : List (Nat × Value)) (pc : Nat) (st : List Value) (E : String) : Prop :=
  ∀ (H : Heap) (locs : List Loc) (ls : Array Slot) (q : Addr) (ce : Cell), mp_P G.1 cls_L M H → va_S (ge_A G) s.heap H locs → lv_has ls nL lv → H[q]? = some ce → ce.vm = .none → s.vm.findClass E = some ce.cls → vx_W p l e R s m args below meth c H locs k n Q (F0 m pc ls st) q
section JJ
variable {p : Program} {l : Launch} {e : Env} {R : Room} {s : State} {m : MethodId} {args : Array Value} {below : List Frame} {meth : Method} {c : Code} {Q : State → Prop} {G : gv_T} {own : String} {cc : ByteArray} {nL : Nat} {tab : List ExceptionTableEntry} {M : mp_T} {k n : Nat} {lv : List (Nat × Value)} {pc : Nat} {st : List Value}
theorem lk_pl {lv : List (Nat × Value)} {i : Nat} {v : Value} (hq : lv.lookup i = some v) : ∃ q : Nat, lv[q]? = some (i, v) := by
  induction lv with
  | nil => cases hq
  | cons z t ih =>
    obtain ⟨j, w⟩ := z
    rw [List.lookup_cons] at hq
    by_cases hj : i = j
    · subst hj
      simp at hq
      subst hq
      exact ⟨0, rfl⟩
    · have hb : (i == j) = false := by simpa using hj
      rw [hb] at hq
      obtain ⟨q, h⟩ := ih hq
      exact ⟨q + 1, h⟩
theorem lk_at {ls : Array Slot} {nL : Nat} {lv : List (Nat × Value)} {i : Nat} {v : Value} (h : lv_has ls nL lv) (hq : lv.lookup i = some v) : ls[i]? = some (.val v) := by
  refine h.2.2 (i, v) ?_
  clear h
  induction lv with
  | nil => cases hq
  | cons q t ih =>
    obtain ⟨j, w⟩ := q
    rw [List.lookup_cons] at hq
    by_cases hj : i = j
    · subst hj
      simp at hq
      subst hq
      exact List.mem_cons_self
    · have hb : (i == j) = false := by simpa using hj
      rw [hb] at hq
      exact List.mem_cons_of_mem _ (ih hq)
theorem jf_x (F : jf p l s m args meth c G own cc nL tab) : p.tables.exec = Jvm.exec := F.1
theorem jf_b (F : jf p l s m args meth c G own cc nL tab) : c.code = cc := F.2.1
theorem jf_ml (F : jf p l s m args meth c G own cc nL tab) : c.maxLocals = nL := F.2.2.1
theorem jf_own (F : jf p l s m args meth c G own cc nL tab) : s.vm.findClass own = some m.cls := F.2.2.2.1
theorem jf_ts (F : jf p l s m args meth c G own cc nL tab) : ∀ w ∈ tb_ws, w.before args s = true := F.2.2.2.2.1
theorem jf_k (F : jf p l s m args meth c G own cc nL tab) : gk_K G s := F.2.2.2.2.2.1
theorem jf_z (F : jf p l s m args meth c G own cc nL tab) : G.2.2.1 ≤ s.heap.size := F.2.2.2.2.2.2.1
theorem jf_sx (F : jf p l s m args meth c G own cc nL tab) : sx_S G s s.heap := F.2.2.2.2.2.2.2.1
theorem jf_lk (F : jf p l s m args meth c G own cc nL tab) : meth.locks = false := F.2.2.2.2.2.2.2.2.1
theorem jf_tr (F : jf p l s m args meth c G own cc nL tab) : l.stackTraces = false := F.2.2.2.2.2.2.2.2.2.1
theorem jf_tab (F : jf p l s m args meth c G own cc nL tab) : c.exceptionTable.toList = tab := F.2.2.2.2.2.2.2.2.2.2
theorem j_iconst (F : jf p l s m args meth c G own cc nL tab) {i : Int} {v : Int32} (hd : decode cc pc = .ok (.iconst i, 1)) (hv : Int32.ofInt i = v) (kk : jj p l e R s m args below meth c G nL Q M k n lv (pc + 1) (.int v :: st)) : jj p l e R s m args below meth c G nL Q M k n lv (pc) (st) := fun H L ls h1 h2 h3 => lv_iconst (jf_x F) (jf_b F) hd hv (kk H L ls h1 h2 h3)
theorem j_bipush (F : jf p l s m args meth c G own cc nL tab) {i : Int} {v : Int32} (hd : decode cc pc = .ok (.bipush i, 2)) (hv : (Int8.ofInt i).toInt32 = v) (kk : jj p l e R s m args below meth c G nL Q M k n lv (pc + 2) (.int v :: st)) : jj p l e R s m args below meth c G nL Q M k n lv (pc) (st) := fun H L ls h1 h2 h3 => lv_bipush (jf_x F) (jf_b F) hd hv (kk H L ls h1 h2 h3)
theorem j_sipush (F : jf p l s m args meth c G own cc nL tab) {i : Int} {v : Int32} (hd : decode cc pc = .ok (.sipush i, 3)) (hv : (Int16.ofInt i).toInt32 = v) (kk : jj p l e R s m args below meth c G nL Q M k n lv (pc + 3) (.int v :: st)) : jj p l e R s m args below meth c G nL Q M k n lv (pc) (st) := fun H L ls h1 h2 h3 => lv_sipush (jf_x F) (jf_b F) hd hv (kk H L ls h1 h2 h3)
theorem j_lconst (F : jf p l s m args meth c G own cc nL tab) {i : Fin 2} {v : Int64} (hd : decode cc pc = .ok (.lconst i, 1)) (hv : Int64.ofNat (i : Nat) = v) (kk : jj p l e R s m args below meth c G nL Q M k n lv (pc + 1) (.long v :: st)) : jj p l e R s m args below meth c G nL Q M k n lv (pc) (st) := fun H L ls h1 h2 h3 => lv_lconst (jf_x F) (jf_b F) hd hv (kk H L ls h1 h2 h3)
theorem j_null (F : jf p l s m args meth c G own cc nL tab)  (hd : decode cc pc = .ok (.aconst_null, 1)) (kk : jj p l e R s m args below meth c G nL Q M k n lv (pc + 1) (.null :: st)) : jj p l e R s m args below meth c G nL Q M k n lv (pc) (st) := fun H L ls h1 h2 h3 => lv_null (jf_x F) (jf_b F) hd (kk H L ls h1 h2 h3)
theorem j_iload_n (F : jf p l s m args meth c G own cc nL tab) {a : Fin 4} {i : Nat} {x : Int32} (hd : decode cc pc = .ok (.iload_n a, 1)) (hi : (a : Nat) = i) (hq : lv.lookup i = some (.int x)) (kk : jj p l e R s m args below meth c G nL Q M k n lv (pc + 1) (.int x :: st)) : jj p l e R s m args below meth c G nL Q M k n lv (pc) (st) := fun H L ls h1 h2 h3 => lv_iload_n (jf_x F) (jf_b F) hd hi (lk_at h3 hq) (kk H L ls h1 h2 h3)
theorem j_iload (F : jf p l s m args meth c G own cc nL tab) {i : Nat} {x : Int32} (hd : decode cc pc = .ok (.iload i, 2)) (hq : lv.lookup i = some (.int x)) (kk : jj p l e R s m args below meth c G nL Q M k n lv (pc + 2) (.int x :: st)) : jj p l e R s m args below meth c G nL Q M k n lv (pc) (st) := fun H L ls h1 h2 h3 => lv_iload (jf_x F) (jf_b F) hd (lk_at h3 hq) (kk H L ls h1 h2 h3)
theorem j_lload_n (F : jf p l s m args meth c G own cc nL tab) {a : Fin 4} {i : Nat} {x : Int64} (hd : decode cc pc = .ok (.lload_n a, 1)) (hi : (a : Nat) = i) (hq : lv.lookup i = some (.long x)) (kk : jj p l e R s m args below meth c G nL Q M k n lv (pc + 1) (.long x :: st)) : jj p l e R s m args below meth c G nL Q M k n lv (pc) (st) := fun H L ls h1 h2 h3 => lv_lload_n (jf_x F) (jf_b F) hd hi (lk_at h3 hq) (kk H L ls h1 h2 h3)
theorem j_lload (F : jf p l s m args meth c G own cc nL tab) {i : Nat} {x : Int64} (hd : decode cc pc = .ok (.lload i, 2)) (hq : lv.lookup i = some (.long x)) (kk : jj p l e R s m args below meth c G nL Q M k n lv (pc + 2) (.long x :: st)) : jj p l e R s m args below meth c G nL Q M k n lv (pc) (st) := fun H L ls h1 h2 h3 => lv_lload (jf_x F) (jf_b F) hd (lk_at h3 hq) (kk H L ls h1 h2 h3)
theorem j_aload_n (F : jf p l s m args meth c G own cc nL tab) {a : Fin 4} {i : Nat} {x : Nat} (hd : decode cc pc = .ok (.aload_n a, 1)) (hi : (a : Nat) = i) (hq : lv.lookup i = some (.ref x)) (kk : jj p l e R s m args below meth c G nL Q M k n lv (pc + 1) (.ref x :: st)) : jj p l e R s m args below meth c G nL Q M k n lv (pc) (st) := fun H L ls h1 h2 h3 => lv_aload_n (jf_x F) (jf_b F) hd hi (lk_at h3 hq) (kk H L ls h1 h2 h3)
theorem j_aload (F : jf p l s m args meth c G own cc nL tab) {i : Nat} {x : Nat} (hd : decode cc pc = .ok (.aload i, 2)) (hq : lv.lookup i = some (.ref x)) (kk : jj p l e R s m args below meth c G nL Q M k n lv (pc + 2) (.ref x :: st)) : jj p l e R s m args below meth c G nL Q M k n lv (pc) (st) := fun H L ls h1 h2 h3 => lv_aload (jf_x F) (jf_b F) hd (lk_at h3 hq) (kk H L ls h1 h2 h3)
theorem j_aload_nq (F : jf p l s m args meth c G own cc nL tab) {a : Fin 4} {i : Nat} {r : Option Nat} (hd : decode cc pc = .ok (.aload_n a, 1)) (hi : (a : Nat) = i) (hq : lv.lookup i = some (va_rf r)) (kk : jj p l e R s m args below meth c G nL Q M k n lv (pc + 1) (va_rf r :: st)) : jj p l e R s m args below meth c G nL Q M k n lv (pc) (st) := by
  intro H L ls h1 h2 h3
  cases r with
  | none => exact lv_aload_nN (jf_x F) (jf_b F) hd hi (lk_at h3 hq) (kk H L ls h1 h2 h3)
  | some x => exact lv_aload_n (jf_x F) (jf_b F) hd hi (lk_at h3 hq) (kk H L ls h1 h2 h3)
theorem j_aloadq (F : jf p l s m args meth c G own cc nL tab) {i : Nat} {r : Option Nat} (hd : decode cc pc = .ok (.aload i, 2)) (hq : lv.lookup i = some (va_rf r)) (kk : jj p l e R s m args below meth c G nL Q M k n lv (pc + 2) (va_rf r :: st)) : jj p l e R s m args below meth c G nL Q M k n lv (pc) (st) := by
  intro H L ls h1 h2 h3
  cases r with
  | none => exact lv_aloadN (jf_x F) (jf_b F) hd (lk_at h3 hq) (kk H L ls h1 h2 h3)
  | some x => exact lv_aload (jf_x F) (jf_b F) hd (lk_at h3 hq) (kk H L ls h1 h2 h3)
theorem j_istore_n (F : jf p l s m args meth c G own cc nL tab) {a : Fin 4} {i : Nat} {x : Int32} {lv1 : List (Nat × Value)} (hd : decode cc pc = .ok (.istore_n a, 1)) (hi : (a : Nat) = i) (hn : i < nL) (hl : (i, Value.int x) :: lv.filter (fun q => !(q.1 == i) && !(q.1 + 1 == i && q.2.category == 2)) = lv1) (kk : jj p l e R s m args below meth c G nL Q M k n lv1 (pc + 1) (st)) : jj p l e R s m args below meth c G nL Q M k n lv (pc) (Value.int x :: st) := fun H L ls h1 h2 h3 => lv_istore_n (jf_x F) (jf_b F) hd hi h3 hn hl (fun ls1 h3 => kk H L ls1 h1 h2 h3)
theorem j_istore (F : jf p l s m args meth c G own cc nL tab) {i : Nat} {x : Int32} {lv1 : List (Nat × Value)} (hd : decode cc pc = .ok (.istore i, 2)) (hn : i < nL) (hl : (i, Value.int x) :: lv.filter (fun q => !(q.1 == i) && !(q.1 + 1 == i && q.2.category == 2)) = lv1) (kk : jj p l e R s m args below meth c G nL Q M k n lv1 (pc + 2) (st)) : jj p l e R s m args below meth c G nL Q M k n lv (pc) (Value.int x :: st) := fun H L ls h1 h2 h3 => lv_istore (jf_x F) (jf_b F) hd h3 hn hl (fun ls1 h3 => kk H L ls1 h1 h2 h3)
theorem j_lstore_n (F : jf p l s m args meth c G own cc nL tab) {a : Fin 4} {i : Nat} {x : Int64} {lv1 : List (Nat × Value)} (hd : decode cc pc = .ok (.lstore_n a, 1)) (hi : (a : Nat) = i) (hn : i + 1 < nL) (hl : (i, Value.long x) :: lv.filter (fun q => !(q.1 == i) && (!(q.1 == i + 1) && !(q.1 + 1 == i && q.2.category == 2))) = lv1) (kk : jj p l e R s m args below meth c G nL Q M k n lv1 (pc + 1) (st)) : jj p l e R s m args below meth c G nL Q M k n lv (pc) (Value.long x :: st) := fun H L ls h1 h2 h3 => lv_lstore_n (jf_x F) (jf_b F) hd hi h3 hn hl (fun ls1 h3 => kk H L ls1 h1 h2 h3)
theorem j_lstore (F : jf p l s m args meth c G own cc nL tab) {i : Nat} {x : Int64} {lv1 : List (Nat × Value)} (hd : decode cc pc = .ok (.lstore i, 2)) (hn : i + 1 < nL) (hl : (i, Value.long x) :: lv.filter (fun q => !(q.1 == i) && (!(q.1 == i + 1) && !(q.1 + 1 == i && q.2.category == 2))) = lv1) (kk : jj p l e R s m args below meth c G nL Q M k n lv1 (pc + 2) (st)) : jj p l e R s m args below meth c G nL Q M k n lv (pc) (Value.long x :: st) := fun H L ls h1 h2 h3 => lv_lstore (jf_x F) (jf_b F) hd h3 hn hl (fun ls1 h3 => kk H L ls1 h1 h2 h3)
theorem j_astore_n (F : jf p l s m args meth c G own cc nL tab) {a : Fin 4} {i : Nat} {x : Nat} {lv1 : List (Nat × Value)} (hd : decode cc pc = .ok (.astore_n a, 1)) (hi : (a : Nat) = i) (hn : i < nL) (hl : (i, Value.ref x) :: lv.filter (fun q => !(q.1 == i) && !(q.1 + 1 == i && q.2.category == 2)) = lv1) (kk : jj p l e R s m args below meth c G nL Q M k n lv1 (pc + 1) (st)) : jj p l e R s m args below meth c G nL Q M k n lv (pc) (Value.ref x :: st) := fun H L ls h1 h2 h3 => lv_astore_n (jf_x F) (jf_b F) hd hi h3 hn hl (fun ls1 h3 => kk H L ls1 h1 h2 h3)
theorem j_astore (F : jf p l s m args meth c G own cc nL tab) {i : Nat} {x : Nat} {lv1 : List (Nat × Value)} (hd : decode cc pc = .ok (.astore i, 2)) (hn : i < nL) (hl : (i, Value.ref x) :: lv.filter (fun q => !(q.1 == i) && !(q.1 + 1 == i && q.2.category == 2)) = lv1) (kk : jj p l e R s m args below meth c G nL Q M k n lv1 (pc + 2) (st)) : jj p l e R s m args below meth c G nL Q M k n lv (pc) (Value.ref x :: st) := fun H L ls h1 h2 h3 => lv_astore (jf_x F) (jf_b F) hd h3 hn hl (fun ls1 h3 => kk H L ls1 h1 h2 h3)
theorem j_astore_nq (F : jf p l s m args meth c G own cc nL tab) {a : Fin 4} {i : Nat} {r : Option Nat} {lv1 : List (Nat × Value)} (hd : decode cc pc = .ok (.astore_n a, 1)) (hi : (a : Nat) = i) (hn : i < nL) (hl : (i, va_rf r) :: lv.filter (fun q => !(q.1 == i) && !(q.1 + 1 == i && q.2.category == 2)) = lv1) (kk : jj p l e R s m args below meth c G nL Q M k n lv1 (pc + 1) (st)) : jj p l e R s m args below meth c G nL Q M k n lv (pc) (va_rf r :: st) := by
  intro H L ls h1 h2 h3
  cases r with
  | none => exact lv_astore_nN (jf_x F) (jf_b F) hd hi h3 hn hl (fun ls1 h3 => kk H L ls1 h1 h2 h3)
  | some x => exact lv_astore_n (jf_x F) (jf_b F) hd hi h3 hn hl (fun ls1 h3 => kk H L ls1 h1 h2 h3)
theorem j_astoreq (F : jf p l s m args meth c G own cc nL tab) {i : Nat} {r : Option Nat} {lv1 : List (Nat × Value)} (hd : decode cc pc = .ok (.astore i, 2)) (hn : i < nL) (hl : (i, va_rf r) :: lv.filter (fun q => !(q.1 == i) && !(q.1 + 1 == i && q.2.category == 2)) = lv1) (kk : jj p l e R s m args below meth c G nL Q M k n lv1 (pc + 2) (st)) : jj p l e R s m args below meth c G nL Q M k n lv (pc) (va_rf r :: st) := by
  intro H L ls h1 h2 h3
  cases r with
  | none => exact lv_astoreN (jf_x F) (jf_b F) hd h3 hn hl (fun ls1 h3 => kk H L ls1 h1 h2 h3)
  | some x => exact lv_astore (jf_x F) (jf_b F) hd h3 hn hl (fun ls1 h3 => kk H L ls1 h1 h2 h3)
theorem j_iinc (F : jf p l s m args meth c G own cc nL tab) {i : Nat} {d : Int} {x v : Int32} {lv1 : List (Nat × Value)} (hd : decode cc pc = .ok (.iinc i d, 3)) (hq : lv.lookup i = some (.int x)) (hv : x + Int32.ofInt d = v) (hn : i < nL) (hl : (i, Value.int v) :: lv.filter (fun q => !(q.1 == i) && !(q.1 + 1 == i && q.2.category == 2)) = lv1) (kk : jj p l e R s m args below meth c G nL Q M k n lv1 (pc + 3) (st)) : jj p l e R s m args below meth c G nL Q M k n lv (pc) (st) := fun H L ls h1 h2 h3 => (by obtain ⟨q, hq1⟩ := lk_pl hq; exact lv_iinc (jf_x F) (jf_b F) hd h3 hq1 hv hn hl (fun ls1 h3 => kk H L ls1 h1 h2 h3))
theorem rf_cat (r : Option Nat) : (va_rf r).category = 1 := by cases r <;> rfl
theorem ca_r (a : Nat) : (Value.ref a).category = 1 := rfl
theorem ca_i (x : Int32) : (Value.int x).category = 1 := rfl
theorem ca_n : Value.null.category = 1 := rfl
theorem lv_mono {ls : Array Slot} {nL : Nat} {a b : List (Nat × Value)} (h : lv_has ls nL a) (hs : ∀ q ∈ b, q ∈ a) : lv_has ls nL b := ⟨h.1, h.2.1, fun q hq => h.2.2 q (hs q hq)⟩
theorem lv_keep {lv : List (Nat × Value)} {i : Nat} {x : Value} (hc : ∀ q ∈ lv, q.1 + 1 = i → q.2.category = 1) : ∀ q ∈ (i, x) :: lv.filter (fun q => !(q.1 == i)), q ∈ (i, x) :: lv.filter (fun q => !(q.1 == i) && !(q.1 + 1 == i && q.2.category == 2)) := by
  intro q hq
  rcases List.mem_cons.mp hq with h | h
  · rw [h]; exact List.mem_cons_self
  · obtain ⟨h1, h2⟩ := List.mem_filter.mp h
    refine List.mem_cons_of_mem _ (List.mem_filter.mpr ⟨h1, ?_⟩)
    rw [h2]
    by_cases hi : q.1 + 1 = i
    · have := hc q h1 hi
      simp [this]
    · simp [hi]
theorem j_istore_nC (F : jf p l s m args meth c G own cc nL tab) {a : Fin 4} {i : Nat} {x : Int32} {lv1 : List (Nat × Value)} (hd : decode cc pc = .ok (.istore_n a, 1)) (hi : (a : Nat) = i) (hn : i < nL) (hc : ∀ q ∈ lv, q.1 + 1 = i → q.2.category = 1) (hl : (i, Value.int x) :: lv.filter (fun q => !(q.1 == i)) = lv1) (kk : jj p l e R s m args below meth c G nL Q M k n lv1 (pc + 1) (st)) : jj p l e R s m args below meth c G nL Q M k n lv (pc) (Value.int x :: st) := fun H L ls h1 h2 h3 => lv_istore_n (jf_x F) (jf_b F) hd hi h3 hn rfl (fun ls1 h3 => kk H L ls1 h1 h2 (by rw [← hl]; exact lv_mono h3 (lv_keep hc)))
theorem j_istoreC (F : jf p l s m args meth c G own cc nL tab) {i : Nat} {x : Int32} {lv1 : List (Nat × Value)} (hd : decode cc pc = .ok (.istore i, 2)) (hn : i < nL) (hc : ∀ q ∈ lv, q.1 + 1 = i → q.2.category = 1) (hl : (i, Value.int x) :: lv.filter (fun q => !(q.1 == i)) = lv1) (kk : jj p l e R s m args below meth c G nL Q M k n lv1 (pc + 2) (st)) : jj p l e R s m args below meth c G nL Q M k n lv (pc) (Value.int x :: st) := fun H L ls h1 h2 h3 => lv_istore (jf_x F) (jf_b F) hd h3 hn rfl (fun ls1 h3 => kk H L ls1 h1 h2 (by rw [← hl]; exact lv_mono h3 (lv_keep hc)))
theorem j_astore_nC (F : jf p l s m args meth c G own cc nL tab) {a : Fin 4} {i : Nat} {x : Nat} {lv1 : List (Nat × Value)} (hd : decode cc pc = .ok (.astore_n a, 1)) (hi : (a : Nat) = i) (hn : i < nL) (hc : ∀ q ∈ lv, q.1 + 1 = i → q.2.category = 1) (hl : (i, Value.ref x) :: lv.filter (fun q => !(q.1 == i)) = lv1) (kk : jj p l e R s m args below meth c G nL Q M k n lv1 (pc + 1) (st)) : jj p l e R s m args below meth c G nL Q M k n lv (pc) (Value.ref x :: st) := fun H L ls h1 h2 h3 => lv_astore_n (jf_x F) (jf_b F) hd hi h3 hn rfl (fun ls1 h3 => kk H L ls1 h1 h2 (by rw [← hl]; exact lv_mono h3 (lv_keep hc)))
theorem j_astoreC (F : jf p l s m args meth c G own cc nL tab) {i : Nat} {x : Nat} {lv1 : List (Nat × Value)} (hd : decode cc pc = .ok (.astore i, 2)) (hn : i < nL) (hc : ∀ q ∈ lv, q.1 + 1 = i → q.2.category = 1) (hl : (i, Value.ref x) :: lv.filter (fun q => !(q.1 == i)) = lv1) (kk : jj p l e R s m args below meth c G nL Q M k n lv1 (pc + 2) (st)) : jj p l e R s m args below meth c G nL Q M k n lv (pc) (Value.ref x :: st) := fun H L ls h1 h2 h3 => lv_astore (jf_x F) (jf_b F) hd h3 hn rfl (fun ls1 h3 => kk H L ls1 h1 h2 (by rw [← hl]; exact lv_mono h3 (lv_keep hc)))
theorem j_astore_nqC (F : jf p l s m args meth c G own cc nL tab) {a : Fin 4} {i : Nat} {r : Option Nat} {lv1 : List (Nat × Value)} (hd : decode cc pc = .ok (.astore_n a, 1)) (hi : (a : Nat) = i) (hn : i < nL) (hc : ∀ q ∈ lv, q.1 + 1 = i → q.2.category = 1) (hl : (i, va_rf r) :: lv.filter (fun q => !(q.1 == i)) = lv1) (kk : jj p l e R s m args below meth c G nL Q M k n lv1 (pc + 1) (st)) : jj p l e R s m args below meth c G nL Q M k n lv (pc) (va_rf r :: st) := by
  intro H L ls h1 h2 h3
  cases r with
  | none => exact lv_astore_nN (jf_x F) (jf_b F) hd hi h3 hn rfl (fun ls1 h3 => kk H L ls1 h1 h2 (by rw [← hl]; exact lv_mono h3 (lv_keep hc)))
  | some x => exact lv_astore_n (jf_x F) (jf_b F) hd hi h3 hn rfl (fun ls1 h3 => kk H L ls1 h1 h2 (by rw [← hl]; exact lv_mono h3 (lv_keep hc)))
theorem j_astoreqC (F : jf p l s m args meth c G own cc nL tab) {i : Nat} {r : Option Nat} {lv1 : List (Nat × Value)} (hd : decode cc pc = .ok (.astore i, 2)) (hn : i < nL) (hc : ∀ q ∈ lv, q.1 + 1 = i → q.2.category = 1) (hl : (i, va_rf r) :: lv.filter (fun q => !(q.1 == i)) = lv1) (kk : jj p l e R s m args below meth c G nL Q M k n lv1 (pc + 2) (st)) : jj p l e R s m args below meth c G nL Q M k n lv (pc) (va_rf r :: st) := by
  intro H L ls h1 h2 h3
  cases r with
  | none => exact lv_astoreN (jf_x F) (jf_b F) hd h3 hn rfl (fun ls1 h3 => kk H L ls1 h1 h2 (by rw [← hl]; exact lv_mono h3 (lv_keep hc)))
  | some x => exact lv_astore (jf_x F) (jf_b F) hd h3 hn rfl (fun ls1 h3 => kk H L ls1 h1 h2 (by rw [← hl]; exact lv_mono h3 (lv_keep hc)))
theorem j_iincC (F : jf p l s m args meth c G own cc nL tab) {i : Nat} {d : Int} {x v : Int32} {lv1 : List (Nat × Value)} (hd : decode cc pc = .ok (.iinc i d, 3)) (hq : lv.lookup i = some (.int x)) (hv : x + Int32.ofInt d = v) (hn : i < nL) (hc : ∀ q ∈ lv, q.1 + 1 = i → q.2.category = 1) (hl : (i, Value.int v) :: lv.filter (fun q => !(q.1 == i)) = lv1) (kk : jj p l e R s m args below meth c G nL Q M k n lv1 (pc + 3) (st)) : jj p l e R s m args below meth c G nL Q M k n lv (pc) (st) := fun H L ls h1 h2 h3 => (by obtain ⟨q, hq1⟩ := lk_pl hq; exact lv_iinc (jf_x F) (jf_b F) hd h3 hq1 hv hn rfl (fun ls1 h3 => kk H L ls1 h1 h2 (by rw [← hl]; exact lv_mono h3 (lv_keep hc))))
theorem j_sub {lv1 : List (Nat × Value)} (ks : List Nat) (hl : lv_pick lv ks = lv1) (kk : jj p l e R s m args below meth c G nL Q M k n lv1 (pc) (st)) : jj p l e R s m args below meth c G nL Q M k n lv (pc) (st) := fun H L ls h1 h2 h3 => kk H L ls h1 h2 (lv_sub h3 ks hl)
theorem j_iadd (F : jf p l s m args meth c G own cc nL tab) {x y : Int32} (hd : decode cc pc = .ok (.iadd, 1)) (kk : jj p l e R s m args below meth c G nL Q M k n lv (pc + 1) (.int (x + y) :: st)) : jj p l e R s m args below meth c G nL Q M k n lv (pc) (.int y :: .int x :: st) := fun H L ls h1 h2 h3 => lv_iadd (jf_x F) (jf_b F) hd (kk H L ls h1 h2 h3)
theorem j_isub (F : jf p l s m args meth c G own cc nL tab) {x y : Int32} (hd : decode cc pc = .ok (.isub, 1)) (kk : jj p l e R s m args below meth c G nL Q M k n lv (pc + 1) (.int (x - y) :: st)) : jj p l e R s m args below meth c G nL Q M k n lv (pc) (.int y :: .int x :: st) := fun H L ls h1 h2 h3 => lv_isub (jf_x F) (jf_b F) hd (kk H L ls h1 h2 h3)
theorem j_imul (F : jf p l s m args meth c G own cc nL tab) {x y : Int32} (hd : decode cc pc = .ok (.imul, 1)) (kk : jj p l e R s m args below meth c G nL Q M k n lv (pc + 1) (.int (x * y) :: st)) : jj p l e R s m args below meth c G nL Q M k n lv (pc) (.int y :: .int x :: st) := fun H L ls h1 h2 h3 => lv_imul (jf_x F) (jf_b F) hd (kk H L ls h1 h2 h3)
theorem j_iand (F : jf p l s m args meth c G own cc nL tab) {x y : Int32} (hd : decode cc pc = .ok (.iand, 1)) (kk : jj p l e R s m args below meth c G nL Q M k n lv (pc + 1) (.int (x &&& y) :: st)) : jj p l e R s m args below meth c G nL Q M k n lv (pc) (.int y :: .int x :: st) := fun H L ls h1 h2 h3 => lv_iand (jf_x F) (jf_b F) hd (kk H L ls h1 h2 h3)
theorem j_irem (F : jf p l s m args meth c G own cc nL tab) {x y : Int32} (hd : decode cc pc = .ok (.irem, 1)) (hne : ¬ y = 0) (kk : jj p l e R s m args below meth c G nL Q M k n lv (pc + 1) (.int (x - x / y * y) :: st)) : jj p l e R s m args below meth c G nL Q M k n lv (pc) (.int y :: .int x :: st) := fun H L ls h1 h2 h3 => lv_irem (jf_x F) (jf_b F) hd hne (kk H L ls h1 h2 h3)
theorem j_ishr (F : jf p l s m args meth c G own cc nL tab) {x y : Int32} (hd : decode cc pc = .ok (.ishr, 1)) (kk : jj p l e R s m args below meth c G nL Q M k n lv (pc + 1) (.int (x >>> (y &&& 31)) :: st)) : jj p l e R s m args below meth c G nL Q M k n lv (pc) (.int y :: .int x :: st) := fun H L ls h1 h2 h3 => lv_ishr (jf_x F) (jf_b F) hd (kk H L ls h1 h2 h3)
theorem j_ladd (F : jf p l s m args meth c G own cc nL tab) {x y : Int64} (hd : decode cc pc = .ok (.ladd, 1)) (kk : jj p l e R s m args below meth c G nL Q M k n lv (pc + 1) (.long (x + y) :: st)) : jj p l e R s m args below meth c G nL Q M k n lv (pc) (.long y :: .long x :: st) := fun H L ls h1 h2 h3 => lv_ladd (jf_x F) (jf_b F) hd (kk H L ls h1 h2 h3)
theorem j_lmul (F : jf p l s m args meth c G own cc nL tab) {x y : Int64} (hd : decode cc pc = .ok (.lmul, 1)) (kk : jj p l e R s m args below meth c G nL Q M k n lv (pc + 1) (.long (x * y) :: st)) : jj p l e R s m args below meth c G nL Q M k n lv (pc) (.long y :: .long x :: st) := fun H L ls h1 h2 h3 => lv_lmul (jf_x F) (jf_b F) hd (kk H L ls h1 h2 h3)
theorem j_lor (F : jf p l s m args meth c G own cc nL tab) {x y : Int64} (hd : decode cc pc = .ok (.lor, 1)) (kk : jj p l e R s m args below meth c G nL Q M k n lv (pc + 1) (.long (x ||| y) :: st)) : jj p l e R s m args below meth c G nL Q M k n lv (pc) (.long y :: .long x :: st) := fun H L ls h1 h2 h3 => lv_lor (jf_x F) (jf_b F) hd (kk H L ls h1 h2 h3)
theorem j_lshl (F : jf p l s m args meth c G own cc nL tab) {x v : Int64} {y : Int32} (hd : decode cc pc = .ok (.lshl, 1)) (hv : x <<< (y.toInt64 &&& 63) = v) (kk : jj p l e R s m args below meth c G nL Q M k n lv (pc + 1) (.long v :: st)) : jj p l e R s m args below meth c G nL Q M k n lv (pc) (.int y :: .long x :: st) := fun H L ls h1 h2 h3 => lv_lshl (jf_x F) (jf_b F) hd hv (kk H L ls h1 h2 h3)
theorem j_i2l (F : jf p l s m args meth c G own cc nL tab) {x : Int32} {v : Int64} (hd : decode cc pc = .ok (.i2l, 1)) (hv : x.toInt64 = v) (kk : jj p l e R s m args below meth c G nL Q M k n lv (pc + 1) (.long v :: st)) : jj p l e R s m args below meth c G nL Q M k n lv (pc) (.int x :: st) := fun H L ls h1 h2 h3 => lv_i2l (jf_x F) (jf_b F) hd hv (kk H L ls h1 h2 h3)
theorem j_i2b (F : jf p l s m args meth c G own cc nL tab) {x v : Int32} (hd : decode cc pc = .ok (.i2b, 1)) (hv : x.toInt8.toInt32 = v) (kk : jj p l e R s m args below meth c G nL Q M k n lv (pc + 1) (.int v :: st)) : jj p l e R s m args below meth c G nL Q M k n lv (pc) (.int x :: st) := fun H L ls h1 h2 h3 => lv_i2b (jf_x F) (jf_b F) hd hv (kk H L ls h1 h2 h3)
theorem j_lcmp (F : jf p l s m args meth c G own cc nL tab) {x y : Int64} (hd : decode cc pc = .ok (.lcmp, 1)) (kk : jj p l e R s m args below meth c G nL Q M k n lv (pc + 1) (.int (lg_cmp x y) :: st)) : jj p l e R s m args below meth c G nL Q M k n lv (pc) (.long y :: .long x :: st) := fun H L ls h1 h2 h3 => W.lcmp (jf_x F) (jf_b F) hd (kk H L ls h1 h2 h3)
theorem j_dup (F : jf p l s m args meth c G own cc nL tab) {v : Value} (hd : decode cc pc = .ok (.dup, 1)) (hc : v.category = 1) (kk : jj p l e R s m args below meth c G nL Q M k n lv (pc + 1) (v :: v :: st)) : jj p l e R s m args below meth c G nL Q M k n lv (pc) (v :: st) := fun H L ls h1 h2 h3 => lv_dup (jf_x F) (jf_b F) hd hc (kk H L ls h1 h2 h3)
theorem j_pop (F : jf p l s m args meth c G own cc nL tab) {v : Value} (hd : decode cc pc = .ok (.pop, 1)) (hc : v.category = 1) (kk : jj p l e R s m args below meth c G nL Q M k n lv (pc + 1) (st)) : jj p l e R s m args below meth c G nL Q M k n lv (pc) (v :: st) := fun H L ls h1 h2 h3 => lv_pop (jf_x F) (jf_b F) hd hc (kk H L ls h1 h2 h3)
theorem j_if_eq (F : jf p l s m args meth c G own cc nL tab) {x : Int32} {off : Int} {tgt : Nat} (hd : decode cc pc = .ok (.ifCond .eq off, 3)) (ht : (pc : Int) + off = (tgt : Int)) (kt : x = 0 → jj p l e R s m args below meth c G nL Q M k n lv (tgt) (st)) (kf : ¬ (x = 0) → jj p l e R s m args below meth c G nL Q M k n lv (pc + 3) (st)) : jj p l e R s m args below meth c G nL Q M k n lv (pc) (.int x :: st) := fun H L ls h1 h2 h3 => lv_if_eq (jf_x F) (jf_b F) hd ht (fun h => kt h H L ls h1 h2 h3) (fun h => kf h H L ls h1 h2 h3)
theorem j_icmp_eq (F : jf p l s m args meth c G own cc nL tab) {x y : Int32} {off : Int} {tgt : Nat} (hd : decode cc pc = .ok (.if_icmp .eq off, 3)) (ht : (pc : Int) + off = (tgt : Int)) (kt : x = y → jj p l e R s m args below meth c G nL Q M k n lv (tgt) (st)) (kf : ¬ (x = y) → jj p l e R s m args below meth c G nL Q M k n lv (pc + 3) (st)) : jj p l e R s m args below meth c G nL Q M k n lv (pc) (.int y :: .int x :: st) := fun H L ls h1 h2 h3 => lv_icmp_eq (jf_x F) (jf_b F) hd ht (fun h => kt h H L ls h1 h2 h3) (fun h => kf h H L ls h1 h2 h3)
theorem j_if_ne (F : jf p l s m args meth c G own cc nL tab) {x : Int32} {off : Int} {tgt : Nat} (hd : decode cc pc = .ok (.ifCond .ne off, 3)) (ht : (pc : Int) + off = (tgt : Int)) (kt : ¬ x = 0 → jj p l e R s m args below meth c G nL Q M k n lv (tgt) (st)) (kf : x = 0 → jj p l e R s m args below meth c G nL Q M k n lv (pc + 3) (st)) : jj p l e R s m args below meth c G nL Q M k n lv (pc) (.int x :: st) := fun H L ls h1 h2 h3 => lv_if_ne (jf_x F) (jf_b F) hd ht (fun h => kt h H L ls h1 h2 h3) (fun h => kf h H L ls h1 h2 h3)
theorem j_icmp_ne (F : jf p l s m args meth c G own cc nL tab) {x y : Int32} {off : Int} {tgt : Nat} (hd : decode cc pc = .ok (.if_icmp .ne off, 3)) (ht : (pc : Int) + off = (tgt : Int)) (kt : ¬ x = y → jj p l e R s m args below meth c G nL Q M k n lv (tgt) (st)) (kf : x = y → jj p l e R s m args below meth c G nL Q M k n lv (pc + 3) (st)) : jj p l e R s m args below meth c G nL Q M k n lv (pc) (.int y :: .int x :: st) := fun H L ls h1 h2 h3 => lv_icmp_ne (jf_x F) (jf_b F) hd ht (fun h => kt h H L ls h1 h2 h3) (fun h => kf h H L ls h1 h2 h3)
theorem j_if_lt (F : jf p l s m args meth c G own cc nL tab) {x : Int32} {off : Int} {tgt : Nat} (hd : decode cc pc = .ok (.ifCond .lt off, 3)) (ht : (pc : Int) + off = (tgt : Int)) (kt : x < 0 → jj p l e R s m args below meth c G nL Q M k n lv (tgt) (st)) (kf : ¬ (x < 0) → jj p l e R s m args below meth c G nL Q M k n lv (pc + 3) (st)) : jj p l e R s m args below meth c G nL Q M k n lv (pc) (.int x :: st) := fun H L ls h1 h2 h3 => lv_if_lt (jf_x F) (jf_b F) hd ht (fun h => kt h H L ls h1 h2 h3) (fun h => kf h H L ls h1 h2 h3)
theorem j_icmp_lt (F : jf p l s m args meth c G own cc nL tab) {x y : Int32} {off : Int} {tgt : Nat} (hd : decode cc pc = .ok (.if_icmp .lt off, 3)) (ht : (pc : Int) + off = (tgt : Int)) (kt : x < y → jj p l e R s m args below meth c G nL Q M k n lv (tgt) (st)) (kf : ¬ (x < y) → jj p l e R s m args below meth c G nL Q M k n lv (pc + 3) (st)) : jj p l e R s m args below meth c G nL Q M k n lv (pc) (.int y :: .int x :: st) := fun H L ls h1 h2 h3 => lv_icmp_lt (jf_x F) (jf_b F) hd ht (fun h => kt h H L ls h1 h2 h3) (fun h => kf h H L ls h1 h2 h3)
theorem j_if_ge (F : jf p l s m args meth c G own cc nL tab) {x : Int32} {off : Int} {tgt : Nat} (hd : decode cc pc = .ok (.ifCond .ge off, 3)) (ht : (pc : Int) + off = (tgt : Int)) (kt : 0 ≤ x → jj p l e R s m args below meth c G nL Q M k n lv (tgt) (st)) (kf : ¬ (0 ≤ x) → jj p l e R s m args below meth c G nL Q M k n lv (pc + 3) (st)) : jj p l e R s m args below meth c G nL Q M k n lv (pc) (.int x :: st) := fun H L ls h1 h2 h3 => lv_if_ge (jf_x F) (jf_b F) hd ht (fun h => kt h H L ls h1 h2 h3) (fun h => kf h H L ls h1 h2 h3)
theorem j_icmp_ge (F : jf p l s m args meth c G own cc nL tab) {x y : Int32} {off : Int} {tgt : Nat} (hd : decode cc pc = .ok (.if_icmp .ge off, 3)) (ht : (pc : Int) + off = (tgt : Int)) (kt : y ≤ x → jj p l e R s m args below meth c G nL Q M k n lv (tgt) (st)) (kf : ¬ (y ≤ x) → jj p l e R s m args below meth c G nL Q M k n lv (pc + 3) (st)) : jj p l e R s m args below meth c G nL Q M k n lv (pc) (.int y :: .int x :: st) := fun H L ls h1 h2 h3 => lv_icmp_ge (jf_x F) (jf_b F) hd ht (fun h => kt h H L ls h1 h2 h3) (fun h => kf h H L ls h1 h2 h3)
theorem j_if_gt (F : jf p l s m args meth c G own cc nL tab) {x : Int32} {off : Int} {tgt : Nat} (hd : decode cc pc = .ok (.ifCond .gt off, 3)) (ht : (pc : Int) + off = (tgt : Int)) (kt : 0 < x → jj p l e R s m args below meth c G nL Q M k n lv (tgt) (st)) (kf : ¬ (0 < x) → jj p l e R s m args below meth c G nL Q M k n lv (pc + 3) (st)) : jj p l e R s m args below meth c G nL Q M k n lv (pc) (.int x :: st) := fun H L ls h1 h2 h3 => lv_if_gt (jf_x F) (jf_b F) hd ht (fun h => kt h H L ls h1 h2 h3) (fun h => kf h H L ls h1 h2 h3)
theorem j_icmp_gt (F : jf p l s m args meth c G own cc nL tab) {x y : Int32} {off : Int} {tgt : Nat} (hd : decode cc pc = .ok (.if_icmp .gt off, 3)) (ht : (pc : Int) + off = (tgt : Int)) (kt : y < x → jj p l e R s m args below meth c G nL Q M k n lv (tgt) (st)) (kf : ¬ (y < x) → jj p l e R s m args below meth c G nL Q M k n lv (pc + 3) (st)) : jj p l e R s m args below meth c G nL Q M k n lv (pc) (.int y :: .int x :: st) := fun H L ls h1 h2 h3 => lv_icmp_gt (jf_x F) (jf_b F) hd ht (fun h => kt h H L ls h1 h2 h3) (fun h => kf h H L ls h1 h2 h3)
theorem j_if_le (F : jf p l s m args meth c G own cc nL tab) {x : Int32} {off : Int} {tgt : Nat} (hd : decode cc pc = .ok (.ifCond .le off, 3)) (ht : (pc : Int) + off = (tgt : Int)) (kt : x ≤ 0 → jj p l e R s m args below meth c G nL Q M k n lv (tgt) (st)) (kf : ¬ (x ≤ 0) → jj p l e R s m args below meth c G nL Q M k n lv (pc + 3) (st)) : jj p l e R s m args below meth c G nL Q M k n lv (pc) (.int x :: st) := fun H L ls h1 h2 h3 => lv_if_le (jf_x F) (jf_b F) hd ht (fun h => kt h H L ls h1 h2 h3) (fun h => kf h H L ls h1 h2 h3)
theorem j_icmp_le (F : jf p l s m args meth c G own cc nL tab) {x y : Int32} {off : Int} {tgt : Nat} (hd : decode cc pc = .ok (.if_icmp .le off, 3)) (ht : (pc : Int) + off = (tgt : Int)) (kt : x ≤ y → jj p l e R s m args below meth c G nL Q M k n lv (tgt) (st)) (kf : ¬ (x ≤ y) → jj p l e R s m args below meth c G nL Q M k n lv (pc + 3) (st)) : jj p l e R s m args below meth c G nL Q M k n lv (pc) (.int y :: .int x :: st) := fun H L ls h1 h2 h3 => lv_icmp_le (jf_x F) (jf_b F) hd ht (fun h => kt h H L ls h1 h2 h3) (fun h => kf h H L ls h1 h2 h3)
theorem j_goto (F : jf p l s m args meth c G own cc nL tab) {off : Int} {tgt : Nat} (hd : decode cc pc = .ok (.goto off, 3)) (ht : (pc : Int) + off = (tgt : Int)) (kk : jj p l e R s m args below meth c G nL Q M k n lv (tgt) (st)) : jj p l e R s m args below meth c G nL Q M k n lv (pc) (st) := fun H L ls h1 h2 h3 => lv_goto (jf_x F) (jf_b F) hd ht (kk H L ls h1 h2 h3)
theorem j_ifnull (F : jf p l s m args meth c G own cc nL tab) {r : Option Nat} {off : Int} {tgt : Nat} (hd : decode cc pc = .ok (.ifnull off, 3)) (ht : (pc : Int) + off = (tgt : Int)) (kt : r = none → jj p l e R s m args below meth c G nL Q M k n lv (tgt) (st)) (kf : ∀ x : Nat, r = some x → jj p l e R s m args below meth c G nL Q M k n lv (pc + 3) (st)) : jj p l e R s m args below meth c G nL Q M k n lv (pc) (va_rf r :: st) := by
  intro H L ls h1 h2 h3
  cases r with
  | none => exact lv_ifnullN (jf_x F) (jf_b F) hd ht (kt rfl H L ls h1 h2 h3)
  | some x => exact lv_ifnull (jf_x F) (jf_b F) hd (kf x rfl H L ls h1 h2 h3)
theorem j_ifnonnull (F : jf p l s m args meth c G own cc nL tab) {r : Option Nat} {off : Int} {tgt : Nat} (hd : decode cc pc = .ok (.ifnonnull off, 3)) (ht : (pc : Int) + off = (tgt : Int)) (kt : ∀ x : Nat, r = some x → jj p l e R s m args below meth c G nL Q M k n lv (tgt) (st)) (kf : r = none → jj p l e R s m args below meth c G nL Q M k n lv (pc + 3) (st)) : jj p l e R s m args below meth c G nL Q M k n lv (pc) (va_rf r :: st) := by
  intro H L ls h1 h2 h3
  cases r with
  | none => exact lv_ifnonnullN (jf_x F) (jf_b F) hd (kf rfl H L ls h1 h2 h3)
  | some x => exact lv_ifnonnull (jf_x F) (jf_b F) hd ht (kt x rfl H L ls h1 h2 h3)
theorem j_tableIn (F : jf p l s m args meth c G own cc nL tab) {dflt lo hi : Int} {offs : Array Int} {len : Nat} {x : Int32} {off : Int} {tgt : Nat} (hd : decode cc pc = .ok (.tableswitch dflt lo hi offs, len)) (h1' : ¬ x.toInt < lo) (h2' : ¬ hi < x.toInt) (ho : offs[(x.toInt - lo).toNat]? = some off) (ht : (pc : Int) + off = (tgt : Int)) (kk : jj p l e R s m args below meth c G nL Q M k n lv (tgt) (st)) : jj p l e R s m args below meth c G nL Q M k n lv (pc) (.int x :: st) := fun H L ls h1 h2 h3 => lv_tableIn (jf_x F) (jf_b F) hd h1' h2' ho ht (kk H L ls h1 h2 h3)
theorem j_tableOut (F : jf p l s m args meth c G own cc nL tab) {dflt lo hi : Int} {offs : Array Int} {len : Nat} {x : Int32} {tgt : Nat} (hd : decode cc pc = .ok (.tableswitch dflt lo hi offs, len)) (h : x.toInt < lo ∨ hi < x.toInt) (ht : (pc : Int) + dflt = (tgt : Int)) (kk : jj p l e R s m args below meth c G nL Q M k n lv (tgt) (st)) : jj p l e R s m args below meth c G nL Q M k n lv (pc) (.int x :: st) := fun H L ls h1 h2 h3 => lv_tableOut (jf_x F) (jf_b F) hd h ht (kk H L ls h1 h2 h3)
theorem j_topi {x : Int32} (kk : ∀ y : Int32, y = x → jj p l e R s m args below meth c G nL Q M k n lv (pc) (.int y :: st)) : jj p l e R s m args below meth c G nL Q M k n lv (pc) (.int x :: st) := kk x rfl
theorem j_topl {x : Int64} (kk : ∀ y : Int64, y = x → jj p l e R s m args below meth c G nL Q M k n lv (pc) (.long y :: st)) : jj p l e R s m args below meth c G nL Q M k n lv (pc) (.long x :: st) := kk x rfl
theorem j_ldc2 (F : jf p l s m args meth c G own cc nL tab) {ix : Nat} {v : Int64} (hw : Cond.constantLong own ix v ∈ tb_ws) (hd : decode cc pc = .ok (.ldc2_w ix, 3)) (kk : jj p l e R s m args below meth c G nL Q M k n lv (pc + 3) (.long v :: st)) : jj p l e R s m args below meth c G nL Q M k n lv (pc) (st) := fun H L ls h1 h2 h3 => lv_ldc2 (jf_x F) (jf_b F) (jf_own F) (jf_ts F _ hw) hd (kk H L ls h1 h2 h3)
theorem j_widen {k1 n1 : Nat} (h1' : k ≤ k1) (h2' : n ≤ n1) (kk : jj p l e R s m args below meth c G nL Q M k1 n1 lv (pc) (st)) : jj p l e R s m args below meth c G nL Q M k n lv (pc) (st) := fun H L ls h1 h2 h3 => W.widen h1' h2' (kk H L ls h1 h2 h3)
theorem j_nmW {P : mp_T → Prop} (hP : P M) (kk : ∀ M1 : mp_T, P M1 → jj p l e R s m args below meth c G nL Q M1 k n lv (pc) (st)) : jj p l e R s m args below meth c G nL Q M k n lv (pc) (st) := kk M hP
theorem j_val {x y : Int32} (h : x = y) (kk : jj p l e R s m args below meth c G nL Q M k n lv (pc) (.int y :: st)) : jj p l e R s m args below meth c G nL Q M k n lv (pc) (.int x :: st) := h ▸ kk
theorem j_valL {x y : Int64} (h : x = y) (kk : jj p l e R s m args below meth c G nL Q M k n lv (pc) (.long y :: st)) : jj p l e R s m args below meth c G nL Q M k n lv (pc) (.long x :: st) := h ▸ kk
theorem j_lv {lv1 : List (Nat × Value)} (h : lv = lv1) (kk : jj p l e R s m args below meth c G nL Q M k n lv1 (pc) (st)) : jj p l e R s m args below meth c G nL Q M k n lv (pc) (st) := h ▸ kk
theorem j_at {pc1 : Nat} (h : pc = pc1) (kk : jj p l e R s m args below meth c G nL Q M k n lv (pc1) (st)) : jj p l e R s m args below meth c G nL Q M k n lv (pc) (st) := h ▸ kk
/-- a loop, or any induction: a measure falls -/
theorem j_ind {α : Type} (μ : α → Nat) (Mf : α → mp_T) (kf nf : α → Nat) (lf : α → List (Nat × Value)) (sf : α → List Value) (I : α → Prop) (hs : ∀ x : α, I x → (∀ y : α, I y → μ y < μ x → jj p l e R s m args below meth c G nL Q (Mf y) (kf y) (nf y) (lf y) (pc) (sf y)) → jj p l e R s m args below meth c G nL Q (Mf x) (kf x) (nf x) (lf x) (pc) (sf x)) (x : α) (hx : I x) : jj p l e R s m args below meth c G nL Q (Mf x) (kf x) (nf x) (lf x) (pc) (sf x) := by
  have key : ∀ d : Nat, ∀ x : α, I x → μ x < d → jj p l e R s m args below meth c G nL Q (Mf x) (kf x) (nf x) (lf x) (pc) (sf x) := by
    intro d
    induction d with
    | zero => intro x _ h; exact absurd h (Nat.not_lt_zero _)
    | succ d ih => intro x hx h; exact hs x hx (fun y hy hm => ih y hy (Nat.lt_of_lt_of_le hm (Nat.le_of_lt_succ h)))
  exact key (μ x + 1) x hx (Nat.lt_succ_self _)
/-- a place that several roads come to -/
theorem j_cut {α : Type} (P : α → Prop) (Mf : α → mp_T) (kf nf : α → Nat) (lf : α → List (Nat × Value)) (pc2 : Nat) (sf : α → List Value) (h : ∀ x : α, P x → jj p l e R s m args below meth c G nL Q (Mf x) (kf x) (nf x) (lf x) (pc2) (sf x)) (kk : (∀ x : α, P x → jj p l e R s m args below meth c G nL Q (Mf x) (kf x) (nf x) (lf x) (pc2) (sf x)) → jj p l e R s m args below meth c G nL Q M k n lv (pc) (st)) : jj p l e R s m args below meth c G nL Q M k n lv (pc) (st) := kk h
/-- the world may be said otherwise -/
theorem j_by {M1 : mp_T} (h : ∀ (a : Nat) (e : va_E), M1 a = some e → M a = some e) (kk : jj p l e R s m args below meth c G nL Q M1 k n lv (pc) (st)) : jj p l e R s m args below meth c G nL Q M k n lv (pc) (st) := fun H L ls h1 h2 h3 => kk H L ls (fun a e ha => h1 a e (h a e ha)) h2 h3
/-- a field is read -/
theorem j_get (F : jf p l s m args meth c G own cc nL tab) {C : String} {T : u_T} {N ci : Nat} {ix a : Nat} {fs : List Value} {v : Value} (ha : M a = some (.inr (ci, fs))) (hc : cls_L[ci]? = some (C, T, N)) (hin : ∀ w ∈ u_ws C T N, w ∈ tb_ws) (f : Nat) (hf : f < N) (hw : Cond.fieldLink own ix (T f).1 (T f).2.1 (T f).2.2.1 ∈ tb_ws) (hv : fs[f]? = some v) (hd : decode cc pc = .ok (.getfield ix, 3)) (kk : jj p l e R s m args below meth c G nL Q M k n lv (pc + 3) (v :: st)) : jj p l e R s m args below meth c G nL Q M k n lv (pc) (.ref a :: st) :=
  fun H L ls h1 h2 h3 => va_get (jf_x F) (jf_b F) (jf_ts F) hin (jf_own F) (jf_k F) (mp_one h1 ha) 0 rfl hc f hf (jf_ts F _ hw) (fun _ h => h) hv hd (kk H L ls h1 h2 h3)
/-- .. is written -/
theorem j_put (F : jf p l s m args meth c G own cc nL tab) {C : String} {T : u_T} {N ci : Nat} {ix a : Nat} {fs : List Value} {v : Value} {ty : FieldType} (ha : M a = some (.inr (ci, fs))) (hz : G.2.2.1 ≤ a) (hc : cls_L[ci]? = some (C, T, N)) (hin : ∀ w ∈ u_ws C T N, w ∈ tb_ws) (ty0 : Nat → FieldType) (hty : ∀ k, k < N → parseFieldDescriptor (T k).2.2.1 = some (ty0 k)) (hnm : ∀ a, a < N → ∀ b, b < N → a ≠ b → (T a).2.1 ≠ (T b).2.1) (f : Nat) (hf : f < N) (hw : Cond.fieldLink own ix (T f).1 (T f).2.1 (T f).2.2.1 ∈ tb_ws) (hfin : (T f).2.2.2 = false) (hpd : parseFieldDescriptor (T f).2.2.1 = some ty) (hn : narrow ty v = v) (hfit : fits ty v = true) (hl : f < fs.length) (hd : decode cc pc = .ok (.putfield ix, 3)) (kk : jj p l e R s m args below meth c G nL Q (mp_U M a (.inr (ci, fs.set f v))) k n lv (pc + 3) (st)) : jj p l e R s m args below meth c G nL Q M k n lv (pc) (v :: .ref a :: st) := by
  intro H L ls h1 h2 h3
  have hts := jf_ts F
  have hap := va_apart (own := own) hts hin ty0 hty hnm (jf_k F) hc
  obtain ⟨r, hr1, cell, q1, q2, q3, q4⟩ := h1 a _ ha
  have hr : r = (C, T, N) := Option.some.inj (hr1.symm.trans hc)
  subst hr
  obtain ⟨hS, hfc, kC, hkC, hkind⟩ := (jf_k F).1 ci _ hc
  obtain ⟨cf, kf, fi, fd, hi, hsl⟩ := hS f hf
  have hlay := hts _ (hin _ (u_in_lay hf))
  unfold u_lay at hlay
  rw [if_neg (by rw [hfin]; decide)] at hlay
  have hst := (u_facts hfc hkC (u_lays hts hin hf) hi).1
  have h6 := u_store hfc hkC hkind hlay hi hpd hn hfit
  refine W.putK (jf_x F) (jf_b F) (f := fd) ⟨jf_own F, hts _ hw, ⟨_, _, _, hi⟩, hst⟩ (by rw [q2]; exact h6) q1 q3 (by rw [hsl]; exact k2_hasslot (q4 f hf)) rfl rfl hd fun H1 e1 e2 e3 => ?_
  rw [hsl] at e1 ⊢
  exact kk H1 _ ls (mp_set h1 e3 ⟨_, hc, t_OB.to (V := updV (vp_V fs) f v) ⟨_, e1, q2, q3, t_set q4 hap hf v⟩ (fun j _ => vp_updV_set hl v j)⟩) (h2.put e2 e3 hz) h3
/-- a final field is written in its constructor -/
theorem j_putF (F : jf p l s m args meth c G own cc nL tab) {C : String} {T : u_T} {N ci : Nat} {ix a : Nat} {fs : List Value} {v : Value} {ty : FieldType} (ha : M a = some (.inr (ci, fs))) (hz : G.2.2.1 ≤ a) (hc : cls_L[ci]? = some (C, T, N)) (hin : ∀ w ∈ u_ws C T N, w ∈ tb_ws) (ty0 : Nat → FieldType) (hty : ∀ k, k < N → parseFieldDescriptor (T k).2.2.1 = some (ty0 k)) (hnm : ∀ a, a < N → ∀ b, b < N → a ≠ b → (T a).2.1 ≠ (T b).2.1) (f : Nat) (hf : f < N) (hw : Cond.fieldLink own ix (T f).1 (T f).2.1 (T f).2.2.1 ∈ tb_ws) (hfin : (T f).2.2.2 = true) (hin2 : meth.name = "<init>") (hdecl : (T f).1 = own) (hpd : parseFieldDescriptor (T f).2.2.1 = some ty) (hn : narrow ty v = v) (hfit : fits ty v = true) (hl : f < fs.length) (hd : decode cc pc = .ok (.putfield ix, 3)) (kk : jj p l e R s m args below meth c G nL Q (mp_U M a (.inr (ci, fs.set f v))) k n lv (pc + 3) (st)) : jj p l e R s m args below meth c G nL Q M k n lv (pc) (v :: .ref a :: st) := by
  intro H L ls h1 h2 h3
  have hts := jf_ts F
  have hown := jf_own F
  have hap := va_apart (own := own) hts hin ty0 hty hnm (jf_k F) hc
  obtain ⟨r, hr1, cell, q1, q2, q3, q4⟩ := h1 a _ ha
  have hr : r = (C, T, N) := Option.some.inj (hr1.symm.trans hc)
  subst hr
  obtain ⟨hS, hfc, kC, hkC, hkind⟩ := (jf_k F).1 ci _ hc
  obtain ⟨cf, kf, fi, fd, hi, hsl⟩ := hS f hf
  have hlay := hts _ (hin _ (u_in_lay hf))
  unfold u_lay at hlay
  rw [if_pos hfin] at hlay
  have hst := (u_facts hfc hkC (u_lays hts hin hf) hi).1
  have hcf : m.cls = cf := by
    obtain ⟨_, _, c', _, _, _, -, -, hf', -, -, -, hown2, -⟩ := Cond.laysFinal_spec hlay
    have e1 : c' = cf := by have := hi.symm.trans hf'; simp at this; exact this.1.symm
    rw [hdecl] at hown2
    rw [← e1]; exact Option.some.inj (hown.symm.trans hown2)
  have h6 := u_fits hfc hkC hkind (Or.inr hlay) hi hpd hn hfit
  refine W.putFinK (jf_x F) (jf_b F) hown (hts _ hw) hi hst hcf hin2 (by rw [q2]; exact h6) q1 q3 (by rw [hsl]; exact k2_hasslot (q4 f hf)) rfl rfl hd fun H1 e1 e2 e3 => ?_
  rw [hsl] at e1 ⊢
  exact kk H1 _ ls (mp_set h1 e3 ⟨_, hc, t_OB.to (V := updV (vp_V fs) f v) ⟨_, e1, q2, q3, t_set q4 hap hf v⟩ (fun j _ => vp_updV_set hl v j)⟩) (h2.put e2 e3 hz) h3
theorem j_bald (F : jf p l s m args meth c G own cc nL tab) {a len : Nat} {f : Nat → Int32} {i : Int32} (ha : M a = some (.inl (G.2.1.1, len, .inl f))) (hi : vp_in i len) (hd : decode cc pc = .ok (.baload, 1)) (kk : jj p l e R s m args below meth c G nL Q M k n lv (pc + 1) (.int (f i.toNatClampNeg) :: st)) : jj p l e R s m args below meth c G nL Q M k n lv (pc) (.int i :: .ref a :: st) := fun H L ls h1 h2 h3 => va_bald (jf_x F) (jf_b F) (jf_k F) (mp_one h1 ha) 0 0 rfl rfl hi hd (kk H L ls h1 h2 h3)
theorem j_blen (F : jf p l s m args meth c G own cc nL tab) {a len : Nat} {f : Nat → Int32} {v : Int32} (ha : M a = some (.inl (G.2.1.1, len, .inl f))) (hv : Int32.ofNat len = v) (hd : decode cc pc = .ok (.arraylength, 1)) (kk : jj p l e R s m args below meth c G nL Q M k n lv (pc + 1) (.int v :: st)) : jj p l e R s m args below meth c G nL Q M k n lv (pc) (.ref a :: st) := fun H L ls h1 h2 h3 => va_alen (jf_x F) (jf_b F) (jf_k F) (mp_one h1 ha) 0 0 rfl rfl hv hd (kk H L ls h1 h2 h3)
theorem j_bast (F : jf p l s m args meth c G own cc nL tab) {a len : Nat} {f : Nat → Int32} {i : Int32} {x : Int32} (ha : M a = some (.inl (G.2.1.1, len, .inl f))) (hz : G.2.2.1 ≤ a) (hi : vp_in i len) (hd : decode cc pc = .ok (.bastore, 1)) (kk : jj p l e R s m args below meth c G nL Q (mp_U M a (.inl (G.2.1.1, len, .inl (upd f i.toNatClampNeg (vp_nar .byte x))))) k n lv (pc + 1) (st)) : jj p l e R s m args below meth c G nL Q M k n lv (pc) (.int x :: .int i :: .ref a :: st) := by
  intro H L ls h1 h2 h3
  refine W.bast (jf_x F) (jf_b F) (h1 a _ ha) (((jf_k F).2 0 _ rfl).1 len (fun j => .int (f j))) (fun q => by cases q) (by show ¬ (i < 0 ∨ (arrV _ _ _).slots.size ≤ _); rw [arrV_size]; exact hi) rfl rfl hd fun H1 e1 z oq => ?_
  refine kk H1 _ ls (mp_set h1 oq ?_) (h2.put z oq hz) h3
  show H1[a]? = some (vp_cell _ _)
  rw [e1]
  rw [vp_cell_i, vp_cell_i, arrV_store]
  congr 2
  funext q
  by_cases hq : q = i.toNatClampNeg
  · subst hq
    simp [updV, upd, vp_nar, narrow]
  · simp [updV, upd, hq]
theorem j_iald (F : jf p l s m args meth c G own cc nL tab) {a len : Nat} {f : Nat → Int32} {i : Int32} (ha : M a = some (.inl (G.2.1.2.1, len, .inl f))) (hi : vp_in i len) (hd : decode cc pc = .ok (.iaload, 1)) (kk : jj p l e R s m args below meth c G nL Q M k n lv (pc + 1) (.int (f i.toNatClampNeg) :: st)) : jj p l e R s m args below meth c G nL Q M k n lv (pc) (.int i :: .ref a :: st) := fun H L ls h1 h2 h3 => va_iald (jf_x F) (jf_b F) (jf_k F) (mp_one h1 ha) 0 1 rfl rfl hi hd (kk H L ls h1 h2 h3)
theorem j_ilen (F : jf p l s m args meth c G own cc nL tab) {a len : Nat} {f : Nat → Int32} {v : Int32} (ha : M a = some (.inl (G.2.1.2.1, len, .inl f))) (hv : Int32.ofNat len = v) (hd : decode cc pc = .ok (.arraylength, 1)) (kk : jj p l e R s m args below meth c G nL Q M k n lv (pc + 1) (.int v :: st)) : jj p l e R s m args below meth c G nL Q M k n lv (pc) (.ref a :: st) := fun H L ls h1 h2 h3 => va_alen (jf_x F) (jf_b F) (jf_k F) (mp_one h1 ha) 0 1 rfl rfl hv hd (kk H L ls h1 h2 h3)
theorem j_iast (F : jf p l s m args meth c G own cc nL tab) {a len : Nat} {f : Nat → Int32} {i : Int32} {x : Int32} (ha : M a = some (.inl (G.2.1.2.1, len, .inl f))) (hz : G.2.2.1 ≤ a) (hi : vp_in i len) (hd : decode cc pc = .ok (.iastore, 1)) (kk : jj p l e R s m args below meth c G nL Q (mp_U M a (.inl (G.2.1.2.1, len, .inl (upd f i.toNatClampNeg x)))) k n lv (pc + 1) (st)) : jj p l e R s m args below meth c G nL Q M k n lv (pc) (.int x :: .int i :: .ref a :: st) := by
  intro H L ls h1 h2 h3
  refine W.iast (jf_x F) (jf_b F) (h1 a _ ha) (((jf_k F).2 1 _ rfl).1 len (fun j => .int (f j))) (fun q => by cases q) (by show ¬ (i < 0 ∨ (arrV _ _ _).slots.size ≤ _); rw [arrV_size]; exact hi) rfl rfl hd fun H1 e1 z oq => ?_
  refine kk H1 _ ls (mp_set h1 oq ?_) (h2.put z oq hz) h3
  show H1[a]? = some (vp_cell _ _)
  rw [e1]
  rw [vp_cell_i, vp_cell_i, arrV_store]
  congr 2
  funext q
  by_cases hq : q = i.toNatClampNeg
  · subst hq
    simp [updV, upd]
  · simp [updV, upd, hq]
theorem j_lald (F : jf p l s m args meth c G own cc nL tab) {a len : Nat} {f : Nat → Int64} {i : Int32} (ha : M a = some (.inl (G.2.1.2.2, len, .inr (.inl f)))) (hi : vp_in i len) (hd : decode cc pc = .ok (.laload, 1)) (kk : jj p l e R s m args below meth c G nL Q M k n lv (pc + 1) (.long (f i.toNatClampNeg) :: st)) : jj p l e R s m args below meth c G nL Q M k n lv (pc) (.int i :: .ref a :: st) := fun H L ls h1 h2 h3 => va_lald (jf_x F) (jf_b F) (jf_k F) (mp_one h1 ha) 0 2 rfl rfl hi hd (kk H L ls h1 h2 h3)
theorem j_llen (F : jf p l s m args meth c G own cc nL tab) {a len : Nat} {f : Nat → Int64} {v : Int32} (ha : M a = some (.inl (G.2.1.2.2, len, .inr (.inl f)))) (hv : Int32.ofNat len = v) (hd : decode cc pc = .ok (.arraylength, 1)) (kk : jj p l e R s m args below meth c G nL Q M k n lv (pc + 1) (.int v :: st)) : jj p l e R s m args below meth c G nL Q M k n lv (pc) (.ref a :: st) := fun H L ls h1 h2 h3 => va_alen (jf_x F) (jf_b F) (jf_k F) (mp_one h1 ha) 0 2 rfl rfl hv hd (kk H L ls h1 h2 h3)
theorem j_last (F : jf p l s m args meth c G own cc nL tab) {a len : Nat} {f : Nat → Int64} {i : Int32} {x : Int64} (ha : M a = some (.inl (G.2.1.2.2, len, .inr (.inl f)))) (hz : G.2.2.1 ≤ a) (hi : vp_in i len) (hd : decode cc pc = .ok (.lastore, 1)) (kk : jj p l e R s m args below meth c G nL Q (mp_U M a (.inl (G.2.1.2.2, len, .inr (.inl (vp_updL f i.toNatClampNeg x))))) k n lv (pc + 1) (st)) : jj p l e R s m args below meth c G nL Q M k n lv (pc) (.long x :: .int i :: .ref a :: st) := by
  intro H L ls h1 h2 h3
  refine W.last (jf_x F) (jf_b F) (h1 a _ ha) (((jf_k F).2 2 _ rfl).1 len (fun j => .long (f j))) (fun q => by cases q) (by show ¬ (i < 0 ∨ (arrV _ _ _).slots.size ≤ _); rw [arrV_size]; exact hi) rfl rfl hd fun H1 e1 z oq => ?_
  refine kk H1 _ ls (mp_set h1 oq ?_) (h2.put z oq hz) h3
  show H1[a]? = some (vp_cell _ _)
  rw [e1]
  rw [vp_cell_l, vp_cell_l, arrV_store]
  congr 2
  funext q
  by_cases hq : q = i.toNatClampNeg
  · subst hq
    simp [updV, vp_updL]
  · simp [updV, vp_updL, hq]
theorem j_baldN (F : jf p l s m args meth c G own cc nL tab) {a len w : Nat} {f : Nat → Int32} (ha : M a = some (.inl (G.2.1.1, len, .inl f))) (hw : w < len) (hl : len < 2 ^ 31) (hd : decode cc pc = .ok (.baload, 1)) (kk : jj p l e R s m args below meth c G nL Q M k n lv (pc + 1) (.int (f w) :: st)) : jj p l e R s m args below meth c G nL Q M k n lv (pc) (.int (nI w) :: .ref a :: st) := j_bald F ha (vp_in_nI hw hl) hd (by rw [nI_clamp (by omega)]; exact kk)
theorem j_bastN (F : jf p l s m args meth c G own cc nL tab) {a len w : Nat} {f : Nat → Int32} {x : Int32} (ha : M a = some (.inl (G.2.1.1, len, .inl f))) (hz : G.2.2.1 ≤ a) (hw : w < len) (hl : len < 2 ^ 31) (hx : vp_nar .byte x = x) (hd : decode cc pc = .ok (.bastore, 1)) (kk : jj p l e R s m args below meth c G nL Q (mp_U M a (.inl (G.2.1.1, len, .inl (upd f w x)))) k n lv (pc + 1) (st)) : jj p l e R s m args below meth c G nL Q M k n lv (pc) (.int x :: .int (nI w) :: .ref a :: st) := j_bast F ha hz (vp_in_nI hw hl) hd (by rw [nI_clamp (by omega), hx]; exact kk)
theorem j_ialdN (F : jf p l s m args meth c G own cc nL tab) {a len w : Nat} {f : Nat → Int32} (ha : M a = some (.inl (G.2.1.2.1, len, .inl f))) (hw : w < len) (hl : len < 2 ^ 31) (hd : decode cc pc = .ok (.iaload, 1)) (kk : jj p l e R s m args below meth c G nL Q M k n lv (pc + 1) (.int (f w) :: st)) : jj p l e R s m args below meth c G nL Q M k n lv (pc) (.int (nI w) :: .ref a :: st) := j_iald F ha (vp_in_nI hw hl) hd (by rw [nI_clamp (by omega)]; exact kk)
theorem j_iastN (F : jf p l s m args meth c G own cc nL tab) {a len w : Nat} {f : Nat → Int32} {x : Int32} (ha : M a = some (.inl (G.2.1.2.1, len, .inl f))) (hz : G.2.2.1 ≤ a) (hw : w < len) (hl : len < 2 ^ 31) (hd : decode cc pc = .ok (.iastore, 1)) (kk : jj p l e R s m args below meth c G nL Q (mp_U M a (.inl (G.2.1.2.1, len, .inl (upd f w x)))) k n lv (pc + 1) (st)) : jj p l e R s m args below meth c G nL Q M k n lv (pc) (.int x :: .int (nI w) :: .ref a :: st) := j_iast F ha hz (vp_in_nI hw hl) hd (by rw [nI_clamp (by omega)]; exact kk)
theorem j_laldN (F : jf p l s m args meth c G own cc nL tab) {a len w : Nat} {f : Nat → Int64} (ha : M a = some (.inl (G.2.1.2.2, len, .inr (.inl f)))) (hw : w < len) (hl : len < 2 ^ 31) (hd : decode cc pc = .ok (.laload, 1)) (kk : jj p l e R s m args below meth c G nL Q M k n lv (pc + 1) (.long (f w) :: st)) : jj p l e R s m args below meth c G nL Q M k n lv (pc) (.int (nI w) :: .ref a :: st) := j_lald F ha (vp_in_nI hw hl) hd (by rw [nI_clamp (by omega)]; exact kk)
theorem j_lastN (F : jf p l s m args meth c G own cc nL tab) {a len w : Nat} {f : Nat → Int64} {x : Int64} (ha : M a = some (.inl (G.2.1.2.2, len, .inr (.inl f)))) (hz : G.2.2.1 ≤ a) (hw : w < len) (hl : len < 2 ^ 31) (hd : decode cc pc = .ok (.lastore, 1)) (kk : jj p l e R s m args below meth c G nL Q (mp_U M a (.inl (G.2.1.2.2, len, .inr (.inl (vp_updL f w x))))) k n lv (pc + 1) (st)) : jj p l e R s m args below meth c G nL Q M k n lv (pc) (.long x :: .int (nI w) :: .ref a :: st) := j_last F ha hz (vp_in_nI hw hl) hd (by rw [nI_clamp (by omega)]; exact kk)
theorem j_newb (F : jf p l s m args meth c G own cc nL tab) {z : Int32} {len : Nat} (hw : Cond.arrayClass .byte ∈ tb_ws) (hz : ¬ z < 0) (hl : z.toNatClampNeg = len) (hby : len * componentBytes .byte ≤ 536870912) (hk : k + 1 ≤ R.cells) (hn : n + len ≤ R.slots) (hd : decode cc pc = .ok (.newarray .byte, 2)) (kk : ∀ a : Nat, G.2.2.1 ≤ a → M a = none → jj p l e R s m args below meth c G nL Q (mp_U M a (.inl (G.2.1.1, len, .inl (fun _ => 0)))) (k + 1) (n + len) lv (pc + 2) (.ref a :: st)) : jj p l e R s m args below meth c G nL Q M k n lv (pc) (.int z :: st) := by
  intro H L ls h1 h2 h3
  refine va_newaK (atype := .byte) (jf_x F) (jf_b F) (jf_ts F _ hw) rfl hd rfl hz hl hby hk hn rfl fun H1 cA e1 z1 o1 hAr hNm => ?_
  have hcA : cA = G.2.1.1 := Option.some.inj (hNm.symm.trans ((jf_k F).2 0 _ rfl).2)
  subst hcA
  refine kk H.size (Nat.le_trans (jf_z F) h2.1) ?_ H1 L ls (mp_new h1 o1 ?_) ⟨Nat.le_trans h2.1 (by omega), fun x g1 g2 => (o1 x (Nat.lt_of_lt_of_le g1 h2.1)).trans (h2.2.1 x g1 g2), h2.2.2⟩ h3
  · cases hM : M H.size with
    | none => rfl
    | some e9 => exact absurd (mp_lt h1 hM) (Nat.lt_irrefl _)
  · show H1[H.size]? = some (vp_cell _ _)
    exact e1
theorem j_newi (F : jf p l s m args meth c G own cc nL tab) {z : Int32} {len : Nat} (hw : Cond.arrayClass .int ∈ tb_ws) (hz : ¬ z < 0) (hl : z.toNatClampNeg = len) (hby : len * componentBytes .int ≤ 536870912) (hk : k + 1 ≤ R.cells) (hn : n + len ≤ R.slots) (hd : decode cc pc = .ok (.newarray .int, 2)) (kk : ∀ a : Nat, G.2.2.1 ≤ a → M a = none → jj p l e R s m args below meth c G nL Q (mp_U M a (.inl (G.2.1.2.1, len, .inl (fun _ => 0)))) (k + 1) (n + len) lv (pc + 2) (.ref a :: st)) : jj p l e R s m args below meth c G nL Q M k n lv (pc) (.int z :: st) := by
  intro H L ls h1 h2 h3
  refine va_newaK (atype := .int) (jf_x F) (jf_b F) (jf_ts F _ hw) rfl hd rfl hz hl hby hk hn rfl fun H1 cA e1 z1 o1 hAr hNm => ?_
  have hcA : cA = G.2.1.2.1 := Option.some.inj (hNm.symm.trans ((jf_k F).2 1 _ rfl).2)
  subst hcA
  refine kk H.size (Nat.le_trans (jf_z F) h2.1) ?_ H1 L ls (mp_new h1 o1 ?_) ⟨Nat.le_trans h2.1 (by omega), fun x g1 g2 => (o1 x (Nat.lt_of_lt_of_le g1 h2.1)).trans (h2.2.1 x g1 g2), h2.2.2⟩ h3
  · cases hM : M H.size with
    | none => rfl
    | some e9 => exact absurd (mp_lt h1 hM) (Nat.lt_irrefl _)
  · show H1[H.size]? = some (vp_cell _ _)
    exact e1
theorem j_newl (F : jf p l s m args meth c G own cc nL tab) {z : Int32} {len : Nat} (hw : Cond.arrayClass .long ∈ tb_ws) (hz : ¬ z < 0) (hl : z.toNatClampNeg = len) (hby : len * componentBytes .long ≤ 536870912) (hk : k + 1 ≤ R.cells) (hn : n + len ≤ R.slots) (hd : decode cc pc = .ok (.newarray .long, 2)) (kk : ∀ a : Nat, G.2.2.1 ≤ a → M a = none → jj p l e R s m args below meth c G nL Q (mp_U M a (.inl (G.2.1.2.2, len, .inr (.inl (fun _ => 0))))) (k + 1) (n + len) lv (pc + 2) (.ref a :: st)) : jj p l e R s m args below meth c G nL Q M k n lv (pc) (.int z :: st) := by
  intro H L ls h1 h2 h3
  refine va_newaK (atype := .long) (jf_x F) (jf_b F) (jf_ts F _ hw) rfl hd rfl hz hl hby hk hn rfl fun H1 cA e1 z1 o1 hAr hNm => ?_
  have hcA : cA = G.2.1.2.2 := Option.some.inj (hNm.symm.trans ((jf_k F).2 2 _ rfl).2)
  subst hcA
  refine kk H.size (Nat.le_trans (jf_z F) h2.1) ?_ H1 L ls (mp_new h1 o1 ?_) ⟨Nat.le_trans h2.1 (by omega), fun x g1 g2 => (o1 x (Nat.lt_of_lt_of_le g1 h2.1)).trans (h2.2.1 x g1 g2), h2.2.2⟩ h3
  · cases hM : M H.size with
    | none => rfl
    | some e9 => exact absurd (mp_lt h1 hM) (Nat.lt_irrefl _)
  · show H1[H.size]? = some (vp_cell _ _)
    exact e1
theorem j_new (F : jf p l s m args meth c G own cc nL tab) {C : String} {T : u_T} {N ci : Nat} {ix : Nat} {fs : List Value} (hc : cls_L[ci]? = some (C, T, N)) (hin : ∀ w ∈ u_ws C T N, w ∈ tb_ws) (ty : Nat → FieldType) (hty : ∀ k, k < N → parseFieldDescriptor (T k).2.2.1 = some (ty k)) (w1 : Cond.classLink own ix C ∈ tb_ws) (w2 : Cond.instantiable C N ∈ tb_ws) (w3 : Cond.initialized C ∈ tb_ws) (hfs : ∀ j, j < N → defaultValue (ty j) = vp_V fs j) (hk : k + 1 ≤ R.cells) (hn : n + N ≤ R.slots) (hd : decode cc pc = .ok (.new ix, 3)) (kk : ∀ a : Nat, G.2.2.1 ≤ a → M a = none → jj p l e R s m args below meth c G nL Q (mp_U M a (.inr (ci, fs))) (k + 1) (n + N) lv (pc + 3) (.ref a :: st)) : jj p l e R s m args below meth c G nL Q M k n lv (pc) (st) := by
  intro H L ls h1 h2 h3
  have hKn := (jf_k F).1 ci _ hc
  refine W.newcK (jf_x F) (jf_b F) (jf_own F) (jf_ts F _ w1) (jf_ts F _ w2) (jf_ts F _ w3) rfl hd hk hn hKn.2.1 rfl fun H1 kC hkC e1 z1 o1 => ?_
  refine kk H.size (Nat.le_trans (jf_z F) h2.1) ?_ H1 L ls (mp_new h1 o1 ?_) ⟨Nat.le_trans h2.1 (by omega), fun x g1 g2 => (o1 x (Nat.lt_of_lt_of_le g1 h2.1)).trans (h2.2.1 x g1 g2), h2.2.2⟩ h3
  · cases hM : M H.size with
    | none => rfl
    | some e9 => exact absurd (mp_lt h1 hM) (Nat.lt_irrefl _)
  · exact ⟨_, hc, (u_born ty (jf_ts F) hin hKn hkC e1 hty).to hfs⟩
/-- Object.<init> -/
theorem j_obj (F : jf p l s m args meth c G own cc nL tab) {ix a : Nat} (w1 : Cond.methodLink own ix Lib.objectInit ∈ tb_ws) (w2 : Cond.instanceMethod Lib.objectInit ∈ tb_ws) (w3 : Cond.code Lib.objectInit ⟨#[0xb1]⟩ 1 none ∈ tb_ws) (hR : 1 ≤ R.frames) (hW : (st.map fun v => v.category).sum + 12 ≤ R.locals) (hd : decode cc pc = .ok (.invokespecial ix, 3)) (kk : jj p l e R s m args below meth c G nL Q M k n lv (pc + 3) (st)) : jj p l e R s m args below meth c G nL Q M k n lv (pc) (.ref a :: st) := fun H L ls h1 h2 h3 =>
  W.objInit (jf_x F) (jf_b F) (jf_own F) (jf_ts F _ w1) (jf_ts F _ w2) (jf_ts F _ w3) (g := F0 m pc ls (.ref a :: st)) rfl (h3.1.trans (jf_ml F).symm) rfl hd hR (by show 2 * 0 + _ + 12 ≤ _; omega) (kk H L ls h1 h2 h3)
theorem j_min (F : jf p l s m args meth c G own cc nL tab) {ix : Nat} {x y : Int32} (w1 : Cond.methodLink own ix Lib.Math.min.name ∈ tb_ws) (w2 : Cond.static Lib.Math.min.name ∈ tb_ws) (w3 : Cond.initialized "java/lang/Math" ∈ tb_ws) (w4 : Cond.code Lib.Math.min.name Lib.Math.min.code 2 (some .int) ∈ tb_ws) (hR : 1 ≤ R.frames) (hW : (st.map fun v => v.category).sum + 13 ≤ R.locals) (hk : k ≤ R.cells) (hn : n ≤ R.slots) (hd : decode cc pc = .ok (.invokestatic ix, 3)) (kk : jj p l e R s m args below meth c G nL Q M k n lv (pc + 3) (.int (if y < x then y else x) :: st)) : jj p l e R s m args below meth c G nL Q M k n lv (pc) (.int y :: .int x :: st) := fun H L ls h1 h2 h3 =>
  va_mmin (jf_x F) (jf_b F) ((jf_ml F).trans h3.1.symm) (jf_own F) (jf_ts F _ w1) (jf_ts F _ w2) (jf_ts F _ w3) (jf_ts F _ w4) hR hW hk hn hd (kk H L ls h1 h2 h3)
theorem j_max (F : jf p l s m args meth c G own cc nL tab) {ix : Nat} {x y : Int32} (w1 : Cond.methodLink own ix Lib.Math.max.name ∈ tb_ws) (w2 : Cond.static Lib.Math.max.name ∈ tb_ws) (w3 : Cond.initialized "java/lang/Math" ∈ tb_ws) (w4 : Cond.code Lib.Math.max.name Lib.Math.max.code 2 (some .int) ∈ tb_ws) (hR : 1 ≤ R.frames) (hW : (st.map fun v => v.category).sum + 13 ≤ R.locals) (hk : k ≤ R.cells) (hn : n ≤ R.slots) (hd : decode cc pc = .ok (.invokestatic ix, 3)) (kk : jj p l e R s m args below meth c G nL Q M k n lv (pc + 3) (.int (if x < y then y else x) :: st)) : jj p l e R s m args below meth c G nL Q M k n lv (pc) (.int y :: .int x :: st) := fun H L ls h1 h2 h3 =>
  va_mmax (jf_x F) (jf_b F) ((jf_ml F).trans h3.1.symm) (jf_own F) (jf_ts F _ w1) (jf_ts F _ w2) (jf_ts F _ w3) (jf_ts F _ w4) hR hW hk hn hd (kk H L ls h1 h2 h3)
/-- the static that holds the empty key; that key's length -/
theorem j_gets (F : jf p l s m args meth c G own cc nL tab) {ix : Nat} (hw : Cond.fieldLink own ix "MomentTree" "BEFORE_ALL_KEYS" "[B" ∈ tb_ws) (hd : decode cc pc = .ok (.getstatic ix, 3)) (kk : jj p l e R s m args below meth c G nL Q M k n lv (pc + 3) (.ref G.2.2.2 :: st)) : jj p l e R s m args below meth c G nL Q M k n lv (pc) (st) := fun H L ls h1 h2 h3 =>
  va_gets (jf_x F) (jf_b F) (jf_sx F).2.2.1 h2 (jf_own F) (jf_ts F _ hw) (fun _ h => h) hd (kk H L ls h1 h2 h3)
theorem j_tlen (F : jf p l s m args meth c G own cc nL tab) (hd : decode cc pc = .ok (.arraylength, 1)) (kk : jj p l e R s m args below meth c G nL Q M k n lv (pc + 1) (.int 0 :: st)) : jj p l e R s m args below meth c G nL Q M k n lv (pc) (.ref G.2.2.2 :: st) := fun H L ls h1 h2 h3 =>
  va_tlen (jf_x F) (jf_b F) (jf_sx F).2.2.2.1 h2 (v := 0) rfl hd (kk H L ls h1 h2 h3)
/-- the script -/
theorem j_sld (F : jf p l s m args meth c G own cc nL tab) {b0 len w : Nat} {xs : Nat → Int32} (hX : va_X b0 len xs s s.heap) (hbl : b0 < s.heap.size) (hbA : ¬ ge_A G b0) (hw : w < len) (hlen : len < 2 ^ 31) (hd : decode cc pc = .ok (.iaload, 1)) (kk : jj p l e R s m args below meth c G nL Q M k n lv (pc + 1) (.int (xs w) :: st)) : jj p l e R s m args below meth c G nL Q M k n lv (pc) (.int (nI w) :: .ref b0 :: st) := fun H L ls h1 h2 h3 =>
  va_sld (jf_x F) (jf_b F) hX hbl hbA h2 (vp_in_nI hw hlen) hd (by rw [nI_clamp (by omega)]; exact (kk H L ls h1 h2 h3))
theorem j_slen (F : jf p l s m args meth c G own cc nL tab) {b0 len : Nat} {xs : Nat → Int32} (hX : va_X b0 len xs s s.heap) (hbl : b0 < s.heap.size) (hbA : ¬ ge_A G b0) (hd : decode cc pc = .ok (.arraylength, 1)) (kk : jj p l e R s m args below meth c G nL Q M k n lv (pc + 1) (.int (nI len) :: st)) : jj p l e R s m args below meth c G nL Q M k n lv (pc) (.ref b0 :: st) := fun H L ls h1 h2 h3 =>
  va_slen (jf_x F) (jf_b F) hX hbl hbA h2 hd (kk H L ls h1 h2 h3)
/-- System.arraycopy between two arrays of bytes (the row va_copyi of the kit, turned to maps) -/
theorem j_copy (F : jf p l s m args meth c G own cc nL tab) {ix a a0 n0 n1 : Nat} {f g : Nat → Int32} {sp dp z : Int32} (w1 : Cond.methodLink own ix arraycopyName ∈ tb_ws) (w2 : Cond.native arraycopyName ∈ tb_ws) (w3 : Cond.static arraycopyName ∈ tb_ws) (w4 : Cond.initialized "java/lang/System" ∈ tb_ws) (ha0 : M a0 = some (.inl (G.2.1.1, n0, .inl f))) (ha1 : M a = some (.inl (G.2.1.1, n1, .inl g))) (hz : G.2.2.1 ≤ a) (h1' : ¬ sp < 0) (h2' : ¬ dp < 0) (h3' : ¬ z < 0) (h4' : sp.toNatClampNeg + z.toNatClampNeg ≤ n0) (h5' : dp.toNatClampNeg + z.toNatClampNeg ≤ n1) (hfit : ∀ i, i < z.toNatClampNeg → fits .byte (.int (f (sp.toNatClampNeg + i))) = true) (hR : 1 ≤ R.frames) (hW : (st.map fun v => v.category).sum + (nativeFrameWords "java/lang/System" "arraycopy" 5 + 11) ≤ R.locals) (hd : decode cc pc = .ok (.invokestatic ix, 3)) (kk : jj p l e R s m args below meth c G nL Q (mp_U M a (.inl (G.2.1.1, n1, .inl (va_cpy f g sp.toNatClampNeg dp.toNatClampNeg z.toNatClampNeg)))) k n lv (pc + 3) (st)) : jj p l e R s m args below meth c G nL Q M k n lv (pc) (.int z :: .int dp :: .ref a :: .int sp :: .ref a0 :: st) := by
  intro H L ls h1 h2 h3 T hT X'
  have nn : ∀ z : Int32, ¬ z < 0 → z.toInt = (z.toNatClampNeg : Int) := by
    intro z hz
    have hz0 : (0 : Int) ≤ z.toInt := by
      have := Int32.not_lt.mp hz
      simpa using Int32.le_iff_toInt_le.mp this
    show z.toInt = ((z.toInt.toNat : Nat) : Int)
    omega
  have hml : c.maxLocals = ls.size := (jf_ml F).trans h3.1.symm
  have hc0 : H[a0]? = some (vp_cell G.2.1.1 (n0, .inl f)) := h1 a0 _ ha0
  have hc1 : H[a]? = some (vp_cell G.2.1.1 (n1, .inl g)) := h1 a _ ha1
  obtain ⟨-, k0, hk0, cm0, hkk0⟩ := ((jf_k F).2 0 _ rfl).1 n0 (fun j => .int (f j))
  obtain ⟨-, k1, hk1, cm1, hkk1⟩ := ((jf_k F).2 0 _ rfl).1 n1 (fun j => .int (g j))
  obtain ⟨vm', X2, step⟩ := X'.arraycopy (jf_x F) (jf_own F) (jf_ts F _ w1) (jf_ts F _ w2) (jf_ts F _ w3) (jf_ts F _ w4) (src := a0) (dst := a) (cs := vp_cell G.2.1.1 (n0, .inl f)) (cd := vp_cell G.2.1.1 (n1, .inl g)) (srcPos := sp) (destPos := dp) (n := z) (by rw [hT]; exact hc0) (by rw [hT]; exact hc1)
    (fun _ h => by cases h) (fun _ h => by cases h) (fun h => by cases h) (fun h => by cases h) hk0 hk1 hkk0 hkk1 (by simp) h1' h2' h3'
    (by rw [nn sp h1', nn z h3']; show ¬ _ > ((arrV G.2.1.1 n0 (fun j => .int (f j))).slots.size : Int); rw [arrV_size]; omega)
    (by rw [nn dp h2', nn z h3']; show ¬ _ > ((arrV G.2.1.1 n1 (fun j => .int (g j))).slots.size : Int); rw [arrV_size]; omega)
    (fun vm₁ _ i hi => by
      have e : (vp_cell G.2.1.1 (n0, .inl f)).slots.getD (sp.toNatClampNeg + i) .null = .int (f (sp.toNatClampNeg + i)) := by
        show (arrV G.2.1.1 n0 (fun j => .int (f j))).slots.getD _ _ = _
        rw [Array.getD_eq_getD_getElem?, arrV_read _ _ (by omega)]
        rfl
      refine ⟨?_, ?_⟩
      · rw [e]
        exact hfit i hi
      · rw [e]
        exact trivial)
    (g := F0 m pc ls (.int z :: .int dp :: .ref a :: .int sp :: .ref a0 :: st)) rfl (by rw [hml]) (rest := st) rfl (by rw [jf_b F]; exact hd) hR (by show 2 * 0 + _ + _ ≤ _; omega)
  have e1 : copied (vp_cell G.2.1.1 (n0, .inl f)) (vp_cell G.2.1.1 (n1, .inl g)) sp dp z = vp_cell G.2.1.1 (n1, .inl (va_cpy f g sp.toNatClampNeg dp.toNatClampNeg z.toNatClampNeg)) := va_copied (fun z => .int z) G.2.1.1 G.2.1.1 f g h4'
  rw [e1] at X2 step
  have hl : a < H.size := (Array.getElem?_eq_some_iff.mp hc1).1
  have hheap : ((T.setVm vm').setCell a (vp_cell G.2.1.1 (n1, .inl (va_cpy f g sp.toNatClampNeg dp.toNatClampNeg z.toNatClampNeg)))).heap = H.setIfInBounds a (vp_cell G.2.1.1 (n1, .inl (va_cpy f g sp.toNatClampNeg dp.toNatClampNeg z.toNatClampNeg))) := by rw [← hT]; rfl
  have oq : ∀ q : Nat, q ≠ a → (H.setIfInBounds a (vp_cell G.2.1.1 (n1, .inl (va_cpy f g sp.toNatClampNeg dp.toNatClampNeg z.toNatClampNeg))))[q]? = H[q]? := fun q hq => by simp [Array.getElem?_setIfInBounds, Ne.symm hq]
  obtain ⟨t, a1, b1⟩ := kk _ _ ls (mp_set h1 oq (show (H.setIfInBounds a _)[a]? = some _ by simp [Array.getElem?_setIfInBounds, hl])) ⟨by simp; exact h2.1, fun q g1 g2 => by
      rw [oq q (fun e => g2 (by rw [e]; exact hz))]
      exact h2.2.1 q g1 g2, fun q hq => by
      rcases List.mem_append.mp hq with h | h
      · exact h2.2.2 q h
      · obtain ⟨z, -, hz9⟩ := List.mem_map.mp h
        rw [← hz9]
        exact hz⟩ h3 _ hheap X2
  exact ⟨t, step t a1, b1⟩
theorem wd_end (F : jf p l s m args meth c G own cc nL tab) {H : Heap} {L : List Loc} {t : State} (h1 : mp_P G.1 cls_L M H) (h2 : va_S (ge_A G) s.heap H L) (ht : t.heap = H) (hvm : s.vm.Alike t.vm) : wd_W G M t := by
  refine ⟨?_, by rw [ht]; exact h1, gk_moved hvm (jf_k F), ?_⟩
  · rw [ht]; exact Nat.le_trans (jf_z F) h2.1
  · rw [ht]; exact sx_moved hvm (sx_kept (jf_sx F) h2.2.1)
theorem j_iret (F : jf p l s m args meth c G own cc nL tab) {rm : Room} {po : Option Value → mp_T → Prop} {px : String → mp_T → Prop} {v : Int32} (hr : meth.sig.returnType = some .int) (hk : k ≤ rm.cells) (hn : n ≤ rm.slots) (hp : po (some (.int v)) M) (hd : decode cc pc = .ok (.ireturn, 1)) : jj p l e rm s m args below meth c G nL (jq_Q below G po px args s rm) M k n lv pc ([.int v]) := fun H L ls h1 h2 h3 => W.widen hk hn (vx_ret (W.iret (jf_x F) (jf_b F) hr (fun t ht hW => ⟨⟨_, M, rfl, hp, wd_end F h1 h2 ht hW.alike⟩, h2.F ht⟩) h2.2.2 hd (jf_lk F)))
theorem j_zret (F : jf p l s m args meth c G own cc nL tab) {rm : Room} {po : Option Value → mp_T → Prop} {px : String → mp_T → Prop} {v : Int32} (hr : meth.sig.returnType = some .boolean) (hv : narrow .boolean (.int v) = .int v) (hk : k ≤ rm.cells) (hn : n ≤ rm.slots) (hp : po (some (.int v)) M) (hd : decode cc pc = .ok (.ireturn, 1)) : jj p l e rm s m args below meth c G nL (jq_Q below G po px args s rm) M k n lv pc ([.int v]) := fun H L ls h1 h2 h3 => W.widen hk hn (vx_ret (W.zret (jf_x F) (jf_b F) hr hv (fun t ht hW => ⟨⟨_, M, rfl, hp, wd_end F h1 h2 ht hW.alike⟩, h2.F ht⟩) h2.2.2 hd (jf_lk F)))
theorem j_lret (F : jf p l s m args meth c G own cc nL tab) {rm : Room} {po : Option Value → mp_T → Prop} {px : String → mp_T → Prop} {v : Int64} (hr : meth.sig.returnType = some .long) (hk : k ≤ rm.cells) (hn : n ≤ rm.slots) (hp : po (some (.long v)) M) (hd : decode cc pc = .ok (.lreturn, 1)) : jj p l e rm s m args below meth c G nL (jq_Q below G po px args s rm) M k n lv pc ([.long v]) := fun H L ls h1 h2 h3 => W.widen hk hn (vx_ret (W.lret (jf_x F) (jf_b F) hr (fun t ht hW => ⟨⟨_, M, rfl, hp, wd_end F h1 h2 ht hW.alike⟩, h2.F ht⟩) h2.2.2 hd (jf_lk F)))
theorem j_vret (F : jf p l s m args meth c G own cc nL tab) {rm : Room} {po : Option Value → mp_T → Prop} {px : String → mp_T → Prop} (hr : meth.sig.returnType = none) (hk : k ≤ rm.cells) (hn : n ≤ rm.slots) (hp : po none M) (hd : decode cc pc = .ok (.return_, 1)) : jj p l e rm s m args below meth c G nL (jq_Q below G po px args s rm) M k n lv pc ([]) := fun H L ls h1 h2 h3 => W.widen hk hn (vx_ret (W.vret (jf_x F) (jf_b F) hr (fun t ht hW => ⟨⟨_, M, rfl, hp, wd_end F h1 h2 ht hW.alike⟩, h2.F ht⟩) h2.2.2 hd (jf_lk F)))
theorem j_aret (F : jf p l s m args meth c G own cc nL tab) {rm : Room} {po : Option Value → mp_T → Prop} {px : String → mp_T → Prop} {v : Value} {rt : FieldType} (hr : meth.sig.returnType = some rt) (hrt : (∃ n, rt = .object n) ∨ ∃ t, rt = .array t) (hv : v = .null ∨ ∃ a, v = .ref a) (hk : k ≤ rm.cells) (hn : n ≤ rm.slots) (hp : po (some v) M) (hd : decode cc pc = .ok (.areturn, 1)) : jj p l e rm s m args below meth c G nL (jq_Q below G po px args s rm) M k n lv pc ([v]) := fun H L ls h1 h2 h3 => W.widen hk hn (vx_ret (W.aret (jf_x F) (jf_b F) hr hrt hv (fun t ht hW => ⟨⟨_, M, rfl, hp, wd_end F h1 h2 ht hW.alike⟩, h2.F ht⟩) h2.2.2 hd (jf_lk F)))
theorem j_cret (F : jf p l s m args meth c G own cc nL tab) {rm : Room} {po : Option Value → mp_T → Prop} (hr : meth.sig.returnType = none) (hk : k ≤ rm.cells) (hn : n ≤ rm.slots) (hp : po none M) (hd : decode cc pc = .ok (.return_, 1)) : jj p l e rm s m args below meth c G nL (MQ below (cq_Q G po) args s rm.cells rm.slots (ge_A G)) M k n lv pc [] := fun H L ls h1 h2 h3 => W.widen hk hn (W.vret (jf_x F) (jf_b F) hr (fun t ht hW => ⟨⟨_, M, rfl, hp, wd_end F h1 h2 ht hW.alike⟩, h2.F ht⟩) h2.2.2 hd (jf_lk F))
theorem rf_or (r : Option Nat) : va_rf r = .null ∨ ∃ a, va_rf r = .ref a := by
  cases r with
  | none => exact Or.inl rfl
  | some a => exact Or.inr ⟨a, rfl⟩
/-- throw new E(): new; dup; invokespecial; athrow -/
theorem j_throw (F : jf p l s m args meth c G own cc nL tab) {rm : Room} {po : Option Value → mp_T → Prop} {px : String → mp_T → Prop} {ik ic : Nat} {E : String} {names : List String} (hE : Bundle.fit E = true) (hnames : ∀ x ∈ names, Bundle.fit x = true) (w1 : Cond.classLink own ik E ∈ tb_ws) (w2 : Cond.initialized E ∈ tb_ws) (w3 : ∀ w ∈ (vx_at0 own ic E names).filter goodWord, w ∈ tb_ws) (w4 : ∀ w ∈ (vx_at0 own ic E names).filter (fun w => !goodWord w), w ∈ Cond.castable E E :: dc_M.map Cond.declares) (hca : va_Nw (.castable E E) s) (hgood : ∀ w ∈ Cond.classLink own ik E :: Cond.initialized E :: vx_at0 own ic E names, vx_ot w = true) (ht : tab = []) (hRf : names.length + 3 < rm.frames) (hRl : (st.map fun v => v.category).sum + (13 * (names.length + 1) + 42) ≤ rm.locals) (hk : k + 1 ≤ rm.cells) (hn : n + 6 ≤ rm.slots) (hp : px E M) (d0 : decode cc pc = .ok (.new ik, 3)) (d3 : decode cc (pc + 3) = .ok (.dup, 1)) (d4 : decode cc (pc + 4) = .ok (.invokespecial ic, 3)) (d7 : decode cc (pc + 7) = .ok (.athrow, 1)) : jj p l e rm s m args below meth c G nL (jq_Q below G po px args s rm) M k n lv pc (st) := fun H L ls h1 h2 h3 =>
  vx_throw0 (jf_x F) (jf_b F) (jf_tr F) (jf_own F) hE hnames (jf_ts F _ w1) (jf_ts F _ w2) (vx_hat (L := vx_at0 own ic E names) (B := Cond.castable E E :: dc_M.map Cond.declares) (fun w hw => jf_ts F w (w3 w hw)) w4 (vx_c (va_Nw.use rfl hca) (fun w hw => by obtain ⟨x9, hx9, rfl⟩ := List.mem_map.mp hw; exact va_Nw.use rfl ((jf_sx F).2.2.2.2.2.2.2.2.2.2.2 x9 hx9)))) hgood (jf_sx F).1 (jf_sx F).2.1 h2 (h3.1.trans (jf_ml F).symm) d0 d3 d4 d7 (fun x hx => by rw [jf_tab F, ht] at hx; cases hx) hRf hRl hk hn (jf_lk F)
    (fun t hvm hz hq => ⟨M, hp, ⟨Nat.le_trans (jf_z F) (Nat.le_trans h2.1 hz), mp_kept h1 hq, gk_moved hvm (jf_k F), sx_moved hvm (sx_kept (jf_sx F) (fun a g1 g2 => (hq a (Nat.lt_of_lt_of_le g1 h2.1)).trans (h2.2.1 a g1 g2)))⟩, Nat.le_trans h2.1 hz, fun a g1 g2 => (hq a (Nat.lt_of_lt_of_le g1 h2.1)).trans (h2.2.1 a g1 g2)⟩) h2.2.2 hk hn
/-- an exception leaves the method -/
theorem j_out (F : jf p l s m args meth c G own cc nL tab) {rm : Room} {po : Option Value → mp_T → Prop} {px : String → mp_T → Prop} {E : String} (ht : tab = []) (hk : k ≤ rm.cells) (hn : n ≤ rm.slots) (hp : px E M) : jx p l e rm s m args below meth c G nL (jq_Q below G po px args s rm) M k n lv pc st E := fun H L ls q ce h1 h2 h3 hce hcv hcl =>
  vx_out (fun x hx => by rw [jf_tab F, ht] at hx; cases hx) (jf_lk F) hce hcv hcl (fun t ht hvm => ⟨M, hp, wd_end F h1 h2 ht hvm, h2.F ht⟩) h2.2.2 hk hn
theorem wd_blind (G : gv_T) (M : mp_T) (av : List Value) : FrameBlind (va_Pc av (wd_W G M)) := by
  intro a U g mk h
  obtain ⟨h0, h1, h2, h3, h4⟩ := h
  exact ⟨h0, h1, h2, gk_moved (u := U) (U := U.calling g mk a) (Vm.Alike.refl U.vm) h3, sx_moved (u := U) (U := U.calling g mk a) (Vm.Alike.refl U.vm) h4⟩
theorem j_pre (F : jf p l s m args meth c G own cc nL tab) {H : Heap} {L : List Loc} (av : List Value) (h1 : mp_P G.1 cls_L M H) (h2 : va_S (ge_A G) s.heap H L) : PreS s H (va_Pc av (wd_W G M)) av := ⟨wd_blind G M av, fun U hU hW => ⟨rfl, wd_end F h1 h2 hU hW.alike⟩⟩
theorem j_run {mc ms : Nat} {a : Array Value} {po : Option Value → mp_T → Prop} {px : String → mp_T → Prop} {rest st0 : List Value} (hr : ∀ (H : Heap) (locs : List Loc) (ls : Array Slot), mp_P G.1 cls_L M H → va_S (ge_A G) s.heap H locs → lv_has ls nL lv → vx_Run p l e R s m args below meth c H locs k n mc ms (F0 m pc ls st0) rest (cq_Q G po a) (cx_X G px) (ge_A G)) (kx : ∀ (E : String) (M1 : mp_T), px E M1 → jx p l e R s m args below meth c G nL Q M1 (k + mc) (n + ms) lv pc rest E) (kk : ∀ (v : Option Value) (M1 : mp_T), po v M1 → jj p l e R s m args below meth c G nL Q M1 (k + mc) (n + ms) lv (pc + 3) (v.toList ++ rest)) : jj p l e R s m args below meth c G nL Q M k n lv (pc) (st0) := by
  intro H L ls h1 h2 h3 T hT X
  rcases hr H L ls h1 h2 h3 T hT X with ⟨v, st₀, t, T', L', h0, X', hL, e1, e2, ⟨⟨v', M', hv, hp, hw⟩, hF⟩, stp⟩ | ⟨q, st₀, t, T', L', E, ce, h0, X', hL, e1, e2, ⟨M', hp, hw, hF⟩, hce, hcv, hcl, stp⟩
  · cases hv
    obtain ⟨k1, k2, k3⟩ := vx_keep h0 e1 h2 (fun _ _ h => h) (fun _ h => h) hL hF
    obtain ⟨t2, a1, b1⟩ := kk v M' hp T'.heap (L ++ L') ls (by rw [e1]; exact hw.2.1) k3 h3 T' rfl X'
    exact ⟨t2, stp t2 a1, b1⟩
  · obtain ⟨k1, k2, k3⟩ := vx_keep h0 e1 h2 (fun _ _ h => h) (fun _ h => h) hL hF
    obtain ⟨t2, a1, b1⟩ := kx E M' hp T'.heap (L ++ L') ls q ce (by rw [e1]; exact hw.2.1) k3 h3 (by rw [e1]; exact hce) hcv hcl T' rfl X'
    exact ⟨t2, stp.trans a1, b1⟩
theorem tb_good {ws : List Cond} (h : ∀ w ∈ ws, w ∈ tb_ws) : GoodIn tb_ws ws := fun w hw => ⟨h w hw, good_of_word (List.mem_filter.mp (h w hw)).2⟩
theorem tb_s {own : String} {ix : Nat} {y : MethodName} {w : Cond} (w1 : Cond.methodLink own ix y ∈ tb_ws) (w2 : Cond.static y ∈ tb_ws) (w3 : Cond.initialized y.cls ∈ tb_ws) (w4 : w ∈ tb_ws) : ∀ x ∈ va_wsS own ix y (w :: tb_ws), x ∈ tb_ws := by
  intro x hx
  simp only [va_wsS, List.mem_append, List.mem_cons, List.not_mem_nil, or_false] at hx
  rcases hx with (h | h | h) | h | h
  · rw [h]; exact w1
  · rw [h]; exact w2
  · rw [h]; exact w3
  · rw [h]; exact w4
  · exact h
theorem tb_v {own : String} {ix : Nat} {y : MethodName} {w : Cond} (w1 : Cond.methodLink own ix y ∈ tb_ws) (w2 : Cond.instanceMethod y ∈ tb_ws) (w3 : Cond.selects y.cls y y ∈ tb_ws) (w0 : Cond.initialized y.cls ∈ tb_ws) (w4 : w ∈ tb_ws) : ∀ x ∈ wsV own ix y.cls y (w :: tb_ws), x ∈ tb_ws := by
  intro x hx
  simp only [wsV, List.mem_append, List.mem_cons, List.not_mem_nil, or_false] at hx
  rcases hx with (h | h | h | h) | h | h
  · rw [h]; exact w1
  · rw [h]; exact w2
  · rw [h]; exact w3
  · rw [h]; exact w0
  · rw [h]; exact w4
  · exact h
/-- a static method is called -/
theorem j_callS (F : jf p l s m args meth c G own cc nL tab) {y : MethodName} {code1 : ByteArray} {maxL : Nat} {ret : Option FieldType} {rm1 : Room} {av : List Value} {po : Option Value → mp_T → Prop} {px : String → mp_T → Prop} {ix : Nat} {rest st0 : List Value} (nA : Nat) (hM : ct_C l G y code1 maxL ret rm1 av M po px) (w1 : Cond.methodLink own ix y ∈ tb_ws) (w2 : Cond.static y ∈ tb_ws) (w3 : Cond.initialized y.cls ∈ tb_ws) (w4 : Cond.code y code1 maxL ret ∈ tb_ws) (hdn : y.cls ≠ "java/lang/invoke/MethodHandle" ∧ y.cls ≠ "java/lang/invoke/VarHandle" ∧ (parseMethodDescriptor y.desc).map (fun d => d.parameters.length) = some nA) (hR : rm1.frames + 1 ≤ R.frames ∧ 8 + (maxL + 11) + rm1.locals ≤ R.locals) (hna : av.length = nA) (hst : st0 = av.reverse ++ rest) (hW : (rest.map fun v => v.category).sum ≤ 8) (hk : k + rm1.cells ≤ R.cells) (hn : n + rm1.slots ≤ R.slots) (hd : decode cc pc = .ok (.invokestatic ix, 3)) (kx : ∀ (E : String) (M1 : mp_T), px E M1 → jx p l e R s m args below meth c G nL Q M1 (k + rm1.cells) (n + rm1.slots) lv pc rest E) (kk : ∀ (v : Option Value) (M1 : mp_T), po v M1 → jj p l e R s m args below meth c G nL Q M1 (k + rm1.cells) (n + rm1.slots) lv (pc + 3) (v.toList ++ rest)) : jj p l e R s m args below meth c G nL Q M k n lv (pc) (st0) :=
  j_run (a := av.toArray) (fun H L ls h1 h2 h3 => vx_runS (Ts := tb_ws) (g := F0 m pc ls st0) ⟨jf_x F, jf_b F, jf_ml F, jf_own F, jf_ts F⟩ hM (va_cwS nA (jf_ts F) (tb_good (tb_s w1 w2 w3 w4)) rfl rfl rfl hdn hR) (j_pre F av h1 h2) rfl hna h3.1 hst (lv_room hW) hd ⟨hk, hn⟩) kx kk
/-- .. with an exception table of its own -/
theorem j_callH (F : jf p l s m args meth c G own cc nL tab) {y : MethodName} {code1 : ByteArray} {maxL : Nat} {ret : Option FieldType} {rm1 : Room} {av : List Value} {po : Option Value → mp_T → Prop} {px : String → mp_T → Prop} {ix : Nat} {rest st0 : List Value} {hh : List (Nat × Nat × Nat × Nat)} (nA : Nat) (hM : ct_H l G y code1 maxL ret hh rm1 av M po px) (w1 : Cond.methodLink own ix y ∈ tb_ws) (w2 : Cond.static y ∈ tb_ws) (w3 : Cond.initialized y.cls ∈ tb_ws) (w4 : Cond.codeWith y code1 maxL ret hh ∈ tb_ws) (hdn : y.cls ≠ "java/lang/invoke/MethodHandle" ∧ y.cls ≠ "java/lang/invoke/VarHandle" ∧ (parseMethodDescriptor y.desc).map (fun d => d.parameters.length) = some nA) (hR : rm1.frames + 1 ≤ R.frames ∧ 8 + (maxL + 11) + rm1.locals ≤ R.locals) (hna : av.length = nA) (hst : st0 = av.reverse ++ rest) (hW : (rest.map fun v => v.category).sum ≤ 8) (hk : k + rm1.cells ≤ R.cells) (hn : n + rm1.slots ≤ R.slots) (hd : decode cc pc = .ok (.invokestatic ix, 3)) (kx : ∀ (E : String) (M1 : mp_T), px E M1 → jx p l e R s m args below meth c G nL Q M1 (k + rm1.cells) (n + rm1.slots) lv pc rest E) (kk : ∀ (v : Option Value) (M1 : mp_T), po v M1 → jj p l e R s m args below meth c G nL Q M1 (k + rm1.cells) (n + rm1.slots) lv (pc + 3) (v.toList ++ rest)) : jj p l e R s m args below meth c G nL Q M k n lv (pc) (st0) :=
  j_run (a := av.toArray) (fun H L ls h1 h2 h3 => vx_runSX (Ts := tb_ws) (g := F0 m pc ls st0) ⟨jf_x F, jf_b F, jf_ml F, jf_own F, jf_ts F⟩ hM (vx_cwSW nA (jf_ts F) (tb_good (tb_s w1 w2 w3 w4)) rfl rfl rfl hdn hR) (j_pre F av h1 h2) rfl hna h3.1 hst (lv_room hW) hd ⟨hk, hn⟩) kx kk
/-- a method of an object -/
theorem j_callV (F : jf p l s m args meth c G own cc nL tab) {y : MethodName} {code1 : ByteArray} {maxL : Nat} {ret : Option FieldType} {rm1 : Room} {av : List Value} {po : Option Value → mp_T → Prop} {px : String → mp_T → Prop} {ix : Nat} {rest st0 : List Value} {b ci N : Nat} {T : u_T} {fs : List Value} (nA : Nat) (hM : ct_C l G y code1 maxL ret rm1 (.ref b :: av) M po px) (hb : M b = some (.inr (ci, fs))) (hc : cls_L[ci]? = some (y.cls, T, N)) (w1 : Cond.methodLink own ix y ∈ tb_ws) (w2 : Cond.instanceMethod y ∈ tb_ws) (w3 : Cond.selects y.cls y y ∈ tb_ws) (w0 : Cond.initialized y.cls ∈ tb_ws) (w4 : Cond.code y code1 maxL ret ∈ tb_ws) (hdn : y.cls ≠ "java/lang/invoke/MethodHandle" ∧ y.cls ≠ "java/lang/invoke/VarHandle" ∧ (parseMethodDescriptor y.desc).map (fun d => d.parameters.length) = some nA) (hR : rm1.frames + 1 ≤ R.frames ∧ 8 + (maxL + 11) + rm1.locals ≤ R.locals) (hna : av.length = nA) (hst : st0 = av.reverse ++ .ref b :: rest) (hW : (rest.map fun v => v.category).sum ≤ 8) (hk : k + rm1.cells ≤ R.cells) (hn : n + rm1.slots ≤ R.slots) (hd : decode cc pc = .ok (.invokevirtual ix, 3)) (kx : ∀ (E : String) (M1 : mp_T), px E M1 → jx p l e R s m args below meth c G nL Q M1 (k + rm1.cells) (n + rm1.slots) lv pc rest E) (kk : ∀ (v : Option Value) (M1 : mp_T), po v M1 → jj p l e R s m args below meth c G nL Q M1 (k + rm1.cells) (n + rm1.slots) lv (pc + 3) (v.toList ++ rest)) : jj p l e R s m args below meth c G nL Q M k n lv (pc) (st0) :=
  j_run (a := (Value.ref b :: av).toArray) (fun H L ls h1 h2 h3 => vx_runV (Ts := tb_ws) (g := F0 m pc ls st0) ⟨jf_x F, jf_b F, jf_ml F, jf_own F, jf_ts F⟩ hM (cwV nA (jf_ts F) (tb_good (tb_v w1 w2 w3 w0 w4)) rfl rfl rfl ⟨rfl, hdn⟩ hR) ⟨wd_blind G M _, va_recv (jf_k F) (mp_one h1 hb) hc (q0 := 0) rfl, (j_pre F _ h1 h2).2⟩ rfl hna h3.1 hst (lv_room hW) hd ⟨hk, hn⟩) kx kk
/-- a constructor -/
def cn_C (l : Launch) (G : gv_T) (y : MethodName) (cc : ByteArray) (maxL : Nat) (rm : Room) (av : List Value) (M : mp_T) (po : Option Value → mp_T → Prop) : Prop :=
  Met l y (Cond.code y cc maxL none :: tb_ws) rm (va_Pc av (wd_W G M)) (cq_Q G po) rm.cells rm.slots (ge_A G)
theorem j_callI (F : jf p l s m args meth c G own cc nL tab) {y : MethodName} {code1 : ByteArray} {maxL : Nat} {rm1 : Room} {av : List Value} {po : Option Value → mp_T → Prop} {ix b : Nat} {rest st0 : List Value} (nA : Nat) (hM : cn_C l G y code1 maxL rm1 (.ref b :: av) M po) (w1 : Cond.methodLink own ix y ∈ tb_ws) (w2 : Cond.instanceMethod y ∈ tb_ws) (w0 : Cond.initialized y.cls ∈ tb_ws) (w4 : Cond.code y code1 maxL none ∈ tb_ws) (hy1 : y.name = "<init>") (hpn : ∀ (v : Value) (M1 : mp_T), ¬ po (some v) M1) (hdn : y.cls ≠ "java/lang/invoke/MethodHandle" ∧ y.cls ≠ "java/lang/invoke/VarHandle" ∧ (parseMethodDescriptor y.desc).map (fun d => d.parameters.length) = some nA) (hR : rm1.frames + 1 ≤ R.frames ∧ 8 + (maxL + 11) + rm1.locals ≤ R.locals) (hna : av.length = nA) (hst : st0 = av.reverse ++ .ref b :: rest) (hW : (rest.map fun v => v.category).sum ≤ 8) (hk : k + rm1.cells ≤ R.cells) (hn : n + rm1.slots ≤ R.slots) (hd : decode cc pc = .ok (.invokespecial ix, 3)) (kk : ∀ M1 : mp_T, po none M1 → jj p l e R s m args below meth c G nL Q M1 (k + rm1.cells) (n + rm1.slots) lv (pc + 3) (rest)) : jj p l e R s m args below meth c G nL Q M k n lv (pc) (st0) := by
  intro H L ls h1 h2 h3 T hT X
  have hg : GoodIn tb_ws (Cond.code y code1 maxL none :: tb_ws) := tb_good (fun w hw => by
    rcases List.mem_cons.mp hw with h | h
    · rw [h]; exact w4
    · exact h)
  obtain ⟨v, st₀, t, T', L', h0, X', hL, e1, e2, ⟨⟨v', M', hv, hp, hw⟩, hF⟩, stp⟩ := va_runI (Ts := tb_ws) (g := F0 m pc ls st0) ⟨jf_x F, jf_b F, jf_ml F, jf_own F, jf_ts F⟩ hM (cwI nA (jf_ts F) hg rfl rfl rfl (jf_ts F _ w0) (jf_ts F _ w1) (jf_ts F _ w2) hy1 hdn hR) (j_pre F _ h1 h2) rfl hna h3.1 hst (lv_room hW) hd ⟨hk, hn⟩ T hT X
  cases hv
  obtain ⟨k1, k2, k3⟩ := vx_keep h0 e1 h2 (fun _ _ h => h) (fun _ h => h) hL hF
  cases v with
  | none =>
    obtain ⟨t2, a1, b1⟩ := kk M' hp T'.heap (L ++ L') ls (by rw [e1]; exact hw.2.1) k3 h3 T' rfl X'
    exact ⟨t2, stp t2 a1, b1⟩
  | some v => exact absurd hp (hpn v M')
/-- an exception is caught by the row x of the method's table -/
theorem j_catch (F : jf p l s m args meth c G own cc nL tab) {E name : String} (pre : List ExceptionTableEntry) (x : ExceptionTableEntry) (suf : List ExceptionTableEntry) (hsplit : tab = pre ++ x :: suf) (hpass : ∀ z ∈ pre, covers z pc = false ∨ (z.catchType ≠ 0 ∧ ∃ nm : String, Cond.classLink own z.catchType nm ∈ tb_ws ∧ va_Nc E nm s)) (hx : covers x pc = true) (h0 : x.catchType ≠ 0) (hw : Cond.classLink own x.catchType name ∈ tb_ws) (hca : va_Nw (.castable E name) s) (kk : ∀ q : Nat, jj p l e R s m args below meth c G nL Q M k n lv (x.handlerPc) ([.ref q])) : jx p l e R s m args below meth c G nL Q M k n lv pc st E := fun H L ls q ce h1 h2 h3 hce hcv hcl =>
  vx_catch (jf_own F) pre x suf ((jf_tab F).trans hsplit) (fun z hz => (hpass z hz).elim Or.inl (fun h => Or.inr ⟨h.1, h.2.choose, jf_ts F _ h.2.choose_spec.1, h.2.choose_spec.2⟩)) hx h0 (jf_ts F _ hw) (va_Nw.use rfl hca) hce hcv hcl (kk q H L ls h1 h2 h3)
end JJ
theorem ct_of {l : Launch} {G : gv_T} {y : MethodName} {cc : ByteArray} {maxL : Nat} {ret : Option FieldType} {rm : Room} {av : List Value} {M : mp_T} {po : Option Value → mp_T → Prop} {px : String → mp_T → Prop} (hl : l.stackTraces = false) (hy : plainName y.cls = true) (hal : (lg_sl av).length ≤ maxL)
    (body : ∀ (p : Program) (e : Env) (s : State) (m : MethodId) (args : Array Value) (below : List Frame) (meth : Method) (c : Code), jf p l s m args meth c G y.cls cc maxL [] → meth.sig.returnType = ret → meth.name = y.name → jj p l e rm s m args below meth c G maxL (jq_Q below G po px args s rm) M 0 0 (lv_args 0 av) 0 []) : ct_C l G y cc maxL ret rm av M po px := by
  refine vx_ofW (cc := cc) (maxL := maxL) (ret := ret) hy rfl ?_
  intro p e s m args below meth c s₁ B hml htab hv
  obtain ⟨rfl, hz, hP, hK, hsx⟩ := hv
  have hts := atoms_spec (ws := Cond.code y cc maxL ret :: tb_ws) B.pre
  have hown : s.vm.findClass y.cls = some m.cls := findClass_of_methodNamed B.named
  have htab' : c.exceptionTable.toList = [] := List.eq_nil_iff_forall_not_mem.mpr htab
  rw [lg_entry_eq]
  exact body p e s m _ below meth c ⟨B.exec, B.bytes, hml, hown, fun w hw => hts w (List.mem_cons_of_mem _ hw), hK, hz, hsx, B.notSynchronized, hl, htab'⟩ B.returns (name_of_methodNamed B.named B.method).1 s.heap [] _ hP va_S.rf (lv_entry av hal)
theorem cn_of {l : Launch} {G : gv_T} {y : MethodName} {cc : ByteArray} {maxL : Nat} {rm : Room} {av : List Value} {M : mp_T} {po : Option Value → mp_T → Prop} (hl : l.stackTraces = false) (hy : plainName y.cls = true) (hal : (lg_sl av).length ≤ maxL)
    (body : ∀ (p : Program) (e : Env) (s : State) (m : MethodId) (args : Array Value) (below : List Frame) (meth : Method) (c : Code), jf p l s m args meth c G y.cls cc maxL c.exceptionTable.toList → meth.sig.returnType = none → meth.name = y.name → jj p l e rm s m args below meth c G maxL (MQ below (cq_Q G po) args s rm.cells rm.slots (ge_A G)) M 0 0 (lv_args 0 av) 0 []) : cn_C l G y cc maxL rm av M po := by
  refine Met.ofW (cc := cc) (maxL := maxL) (ret := none) hy rfl ?_
  intro p e s m args below meth c s₁ B hml hv
  obtain ⟨rfl, hz, hP, hK, hsx⟩ := hv
  have hts := atoms_spec (ws := Cond.code y cc maxL none :: tb_ws) B.pre
  have hown : s.vm.findClass y.cls = some m.cls := findClass_of_methodNamed B.named
  rw [lg_entry_eq]
  exact body p e s m _ below meth c ⟨B.exec, B.bytes, hml, hown, fun w hw => hts w (List.mem_cons_of_mem _ hw), hK, hz, hsx, B.notSynchronized, hl, rfl⟩ B.returns (name_of_methodNamed B.named B.method).1 s.heap [] _ hP va_S.rf (lv_entry av hal)
theorem ctH_of {l : Launch} {G : gv_T} {y : MethodName} {cc : ByteArray} {maxL : Nat} {ret : Option FieldType} {hh : List (Nat × Nat × Nat × Nat)} {rm : Room} {av : List Value} {M : mp_T} {po : Option Value → mp_T → Prop} {px : String → mp_T → Prop} (hl : l.stackTraces = false) (hy : plainName y.cls = true) (hal : (lg_sl av).length ≤ maxL)
    (body : ∀ (p : Program) (e : Env) (s : State) (m : MethodId) (args : Array Value) (below : List Frame) (meth : Method) (c : Code), jf p l s m args meth c G y.cls cc maxL (tableOf hh) → meth.sig.returnType = ret → meth.name = y.name → jj p l e rm s m args below meth c G maxL (jq_Q below G po px args s rm) M 0 0 (lv_args 0 av) 0 []) : ct_H l G y cc maxL ret hh rm av M po px := by
  refine vx_ofWH (cc := cc) (maxL := maxL) (ret := ret) (hh := hh) hy rfl ?_
  intro p e s m args below meth c s₁ B hml hv
  obtain ⟨rfl, hz, hP, hK, hsx⟩ := hv
  have hts := atoms_spec (ws := Cond.codeWith y cc maxL ret hh :: tb_ws) B.pre
  have hown : s.vm.findClass y.cls = some m.cls := findClass_of_methodNamed B.named
  rw [lg_entry_eq]
  exact body p e s m _ below meth c ⟨B.exec, B.bytes, hml, hown, fun w hw => hts w (List.mem_cons_of_mem _ hw), hK, hz, hsx, B.notSynchronized, hl, vx_table (x := y) B (hts _ List.mem_cons_self)⟩ B.returns (name_of_methodNamed B.named B.method).1 s.heap [] _ hP va_S.rf (lv_entry av hal)
