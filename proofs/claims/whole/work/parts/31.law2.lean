def R_law : String := "MomentTreeLaw"
def lw_P (b : Addr) (xs : List Int32) (args : Array Value) (s : State) : Prop := args = #[.ref b] ∧ s.IntsAt b xs ∧ xs.length ≤ 3072 ∧ (Jvm.Cond.and given_1 narrow_1).before args s = true
def lw_Q (_ : Array Value) (s : State) (o : Outcome) (t : State) : Prop := o = .returned (some (.int 1)) ∧ Framed s o t [] 601024 7293034
def lw_Z (below : List Frame) (a : Array Value) (s : State) : State → Prop := fun t => ∃ o, t.status = .running ∧ Ended t below o ∧ lw_Q a s o t
theorem lw_ret {p : Program} {l : Launch} {e : Env} {s : State} {m : MethodId} {below : List Frame} {meth : Method} {c : Code} {b : Nat} (hx : p.tables.exec = Jvm.exec) (hb : c.code = code) (hr : meth.sig.returnType = ret) (hlocks : meth.locks = false) {pc : Nat} {H : Heap} {ls : Array Slot} (hdg : decode code pc = .ok (.ireturn, 1)) : W p l e room_1 s m #[Value.ref b] below meth c H [] 601024 7293034 (lw_Z below #[Value.ref b] s) (F0 m pc ls [.int 1]) := by
  intro T hT X
  obtain ⟨fs, hret, hrun, hended, hW, hframe⟩ := X.leave (v := some (.int 1)) (hlocks := hlocks) (fun h => by rw [hr] at h; cases h)
  have hmeth' : T.vm.method? m = some meth := X.method'
  refine ⟨T.setFrames fs, ?_, .returned (some (.int 1)), hrun, hended, rfl, ⟨_, rfl⟩, hW, hframe⟩
  jvm_step X.here [X.here.top, hx, hb, hdg, hmeth', hr, ret, narrow_b1]
  (try refine ⟨rfl, ?_⟩); (try refine ⟨rfl, ?_⟩)
  first | (intro acts; rw [hret _ acts rfl rfl rfl]) | rw [hret _ _ rfl rfl rfl]
  exact Steps.refl _
def lw_At (p : Program) (s : State) (m : MethodId) (meth : Method) (c : Code) (b L : Nat) (xs : Nat → Int32) : Prop :=
  p.tables.exec = Jvm.exec ∧ c.code = code ∧ meth.sig.returnType = ret ∧ c.maxLocals = 8 ∧ s.vm.findClass R_law = some m.cls ∧ (∀ w ∈ lw_tbl, w.before #[Value.ref b] s = true) ∧ va_X b L xs s s.heap ∧ b < s.heap.size ∧ meth.locks = false ∧ (Jvm.Cond.and given_1 narrow_1).before #[Value.ref b] s = true

def K_all (l : Launch) (G : gv_T) : Prop := K_init l G ∧ K_feed l G ∧ K_end l G ∧ K_put l G ∧ K_find l G ∧ K_seek l G ∧ K_next l G ∧ K_first l G ∧ K_current l G ∧ K_word l G ∧ K_clear l G ∧ K_count l G
theorem mo_keep {G : gv_T} {M0 M M1 : mp_T} {h ta ke le mo pl si : Nat} {fa : Int32} {σ : sg_T} (A : mo_A G M0 M h ta ke le mo pl si fa σ) (hk : ∀ q ∈ [h, ta, ke, le, mo, pl, si], M1 q = M q) : mo_A G M1 M1 h ta ke le mo pl si fa σ := by
  obtain ⟨ok, tf, kf, lf, mf, pf, sf, ⟨⟨s0, s1, s2, s3, s4, s5, s6, hz, nd⟩, -⟩, h1⟩ := A
  exact ⟨ok, tf, kf, lf, mf, pf, sf, ⟨⟨(hk h (by simp)).trans s0, (hk ta (by simp)).trans s1, (hk ke (by simp)).trans s2, (hk le (by simp)).trans s3, (hk mo (by simp)).trans s4, (hk pl (by simp)).trans s5, (hk si (by simp)).trans s6, hz, nd⟩, fun _ _ => rfl⟩, h1⟩
theorem mo_fr {G : gv_T} {M0 M : mp_T} {h ta ke le mo pl si : Nat} {fa : Int32} {σ : sg_T} (A : mo_A G M0 M h ta ke le mo pl si fa σ) : ∀ q, q ∉ [h, ta, ke, le, mo, pl, si] → M q = M0 q := by
  obtain ⟨ok, tf, kf, lf, mf, pf, sf, ⟨-, h2⟩, -⟩ := A
  exact h2
theorem mo_ex {G : gv_T} {M0 M : mp_T} {h ta ke le mo pl si : Nat} {fa : Int32} {σ : sg_T} (A : mo_A G M0 M h ta ke le mo pl si fa σ) : ∀ q ∈ [h, ta, ke, le, mo, pl, si], ∃ w, M q = some w := by
  obtain ⟨ok, tf, kf, lf, mf, pf, sf, ⟨⟨s0, s1, s2, s3, s4, s5, s6, -⟩, -⟩, -⟩ := A
  intro q hq
  simp only [List.mem_cons, List.not_mem_nil, or_false] at hq
  rcases hq with rfl | rfl | rfl | rfl | rfl | rfl | rfl
  · exact ⟨_, s0⟩
  · exact ⟨_, s1⟩
  · exact ⟨_, s2⟩
  · exact ⟨_, s3⟩
  · exact ⟨_, s4⟩
  · exact ⟨_, s5⟩
  · exact ⟨_, s6⟩
theorem mo_S_of {G : gv_T} {M0 M : mp_T} {h ta ke le mo pl si : Nat} {fa : Int32} {σ : sg_T} (A : mo_A G M0 M h ta ke le mo pl si fa σ) : ∃ (tf kf lf mf pf sf : Nat → Int32), mo_S G M h ta ke le mo pl si fa (nI σ.1.length) (nI σ.2.1.length) (cu_I σ.2.2) tf kf lf mf pf sf := by
  obtain ⟨ok, tf, kf, lf, mf, pf, sf, ⟨S, -⟩, -⟩ := A
  exact ⟨tf, kf, lf, mf, pf, sf, S⟩
/-- the cells that are none of the subject's -/
def bb_B (h ta ke le mo pl si oo : Nat) : Nat → Prop := fun q => q ∈ [h, ta, ke, le, mo, pl, si] ∨ q = oo
/-- what holds at the loop's head -/
def lo_I (G : gv_T) (x h ta ke le mo pl si oo : Nat) (M : mp_T) : Prop := oo ∉ [h, ta, ke, le, mo, pl, si] ∧ G.2.2.1 ≤ oo ∧ ∃ (σ : sg_T) (fa : Int32) (g : Nat → Int64), cl_A G M (bb_B h ta ke le mo pl si oo) x σ ∧ mo_A G M M h ta ke le mo pl si fa σ ∧ M oo = some (.inl (G.2.1.2.2, 1, .inr (.inl g)))
theorem lo_B {G : gv_T} {M : mp_T} {h ta ke le mo pl si oo : Nat} {fa : Int32} {σ : sg_T} {w0 : va_E} (A : mo_A G M M h ta ke le mo pl si fa σ) (ho : M oo = some w0) : ∀ q, bb_B h ta ke le mo pl si oo q → ∃ w, M q = some w := fun q hq => hq.elim (mo_ex A q) (fun z => ⟨w0, by rw [z]; exact ho⟩)
/-- behind a call of the subject and the same call of the reference -/
theorem lo_2 {G : gv_T} {M1 M2 : mp_T} {x h ta ke le mo pl si oo : Nat} {fa1 : Int32} {σ1 : sg_T} {g : Nat → Int64} (hoo : oo ∉ [h, ta, ke, le, mo, pl, si]) (hzo : G.2.2.1 ≤ oo) (A1 : cl_A G M1 (bb_B h ta ke le mo pl si oo) x σ1) (ho1 : M1 oo = some (.inl (G.2.1.2.2, 1, .inr (.inl g)))) (A2 : mo_A G M1 M2 h ta ke le mo pl si fa1 σ1) : lo_I G x h ta ke le mo pl si oo M2 ∧ M2 oo = some (.inl (G.2.1.2.2, 1, .inr (.inl g))) := by
  have hf := mo_fr A2
  have ho2 := (hf oo hoo).trans ho1
  exact ⟨⟨hoo, hzo, σ1, fa1, g, cl_mono A1 (fun q e hq he => (hf q (fun z => hq (Or.inl z))).trans he) (fun q hq => Or.inl hq), mo_keep A2 (fun _ _ => rfl), ho2⟩, ho2⟩
theorem lg_cmp_self (x : Int64) : lg_cmp x x = 0 := by unfold lg_cmp; rw [if_neg (by simp), if_pos rfl]
/-- the classes' numbers, the statics -/
theorem lw_G {p : Program} {s : State} {m : MethodId} {meth : Method} {c : Code} {b L : Nat} {xs : Nat → Int32} (C0 : lw_At p s m meth c b L xs) : ∃ G : gv_T, G.2.2.1 = s.heap.size ∧ gk_K G s ∧ sx_S G s s.heap := by
  obtain ⟨-, -, -, -, -, hts0, -, -, -, hgv⟩ := C0
  have hts : ∀ w ∈ tb_ws, w.before #[Value.ref b] s = true := fun w hw => hts0 w (List.mem_filter.mp hw).1
  have hs := flat_of_before _ hgv
  obtain ⟨c0, i0, k0⟩ := u_known hts in_MT (hts _ win_MT)
  obtain ⟨c1, i1, k1⟩ := u_known hts in_TR (hts _ win_TR)
  obtain ⟨c2, i2, k2⟩ := u_known hts in_VE (hts _ win_VE)
  obtain ⟨c3, i3, k3⟩ := u_known hts in_MO (hts _ win_MO)
  obtain ⟨cB, kB, mB, b1, b2, b3⟩ := Cond.arrayClass_spec (hts _ wa_byte)
  obtain ⟨cI, kI, mI, j1, j2, j3⟩ := Cond.arrayClass_spec (hts _ wa_int)
  obtain ⟨cL, kL, mL, l1, l2, l3⟩ := Cond.arrayClass_spec (hts _ wa_long)
  have hA : ∀ a : Nat, a < s.heap.size → ¬ s.heap.size ≤ a := fun a h => Nat.not_le.mpr h
  have hlen : (Term.length (.static "MomentTree" "BEFORE_ALL_KEYS" "[B")).eval #[Value.ref b] s none [] s = some (.int (Int32.ofNat 0)) := va_eqt (z := 0) (hs _ (by decide +kernel))
  obtain ⟨bk, hbk, hT⟩ := va_Tof (tm := .static "MomentTree" "BEFORE_ALL_KEYS" "[B") (ty := .byte) (N := 0) (f := fun _ => .null) (A := fun q => s.heap.size ≤ q) (by decide) (hs _ (by decide +kernel)) hlen (fun j hj => absurd hj (Nat.not_lt_zero _)) hA
  refine ⟨((fun q => match q with | 0 => c0 | 1 => c1 | 2 => c2 | _ => c3, fun q => match q with | 0 => i0 | 1 => i1 | 2 => i2 | _ => i3), (cB, cI, cL), (s.heap.size, bk)), rfl, ⟨?_, ?_⟩, ?_⟩
  · intro q r hq
    match q with
    | 0 => cases hq; exact k0
    | 1 => cases hq; exact k1
    | 2 => cases hq; exact k2
    | 3 => cases hq; exact k3
    | q + 4 => simp at hq
  · intro q r hq
    match q with
    | 0 => cases hq; exact ⟨fun n z => ⟨fun k h => (by cases h), kB, b2, mB, b3⟩, b1⟩
    | 1 => cases hq; exact ⟨fun n z => ⟨fun k h => (by cases h), kI, j2, mI, j3⟩, j1⟩
    | 2 => cases hq; exact ⟨fun n z => ⟨fun k h => (by cases h), kL, l2, mL, l3⟩, l1⟩
    | q + 3 => simp at hq
  · exact ⟨vx_Zqof (hts0 _ (by decide +kernel)) (hts _ wi_JT) (hs _ (by decide +kernel)) hA, vx_Zqof (hts0 _ (by decide +kernel)) (hts _ wi_JT) (hs _ (by decide +kernel)) hA, va_Zof (hts0 _ (by decide +kernel)) (hts _ wi_MT) hbk hA, hT, va_Nc.of (hs _ (by decide +kernel)), va_Nc.of (hs _ (by decide +kernel)), va_Nc.of (hs _ (by decide +kernel)), va_Nw.of rfl (hts0 _ (by decide +kernel)), va_Nw.of rfl (hts0 _ (by decide +kernel)), va_Nw.of rfl (hts0 _ (by decide +kernel)), va_Nw.of rfl (hts0 _ (by decide +kernel)), fun x hx => va_Nw.of rfl (hts0 _ ((by decide +kernel : ∀ x ∈ dc_M, Cond.declares x ∈ lw_tbl) x hx))⟩
theorem go_3 {es : List en_T} {t : ke_T} {c v : Nat} {ok : Bool} (hc : c < 3) : (go_to es t c v ok).1 < 3 := by
  unfold go_to
  split
  · split
    · exact Nat.le_of_ble_eq_true rfl
    · exact hc
  · exact hc
theorem cs_feed {a0 : Int32} {a1 : Int32} {a2 : Int32} {a3 : Int32} {a4 : Int32} {σ : sg_T} : (sp_feed a0 a1 a2 a3 a4 σ).1 < 3 := by
  unfold sp_feed
  split <;> exact Nat.le_of_ble_eq_true rfl
theorem co_feed {a0 : Int32} {a1 : Int32} {a2 : Int32} {a3 : Int32} {a4 : Int32} {σ : sg_T} (h : nI (sp_feed a0 a1 a2 a3 a4 σ).1 = 0) : (sp_feed a0 a1 a2 a3 a4 σ).1 = 0 := by
  have h3 := cs_feed (a0 := a0) (a1 := a1) (a2 := a2) (a3 := a3) (a4 := a4) (σ := σ)
  exact (nI_eq (b := 0) (by omega) (by decide)).mp h
theorem cs_end {a0 : Int32} {σ : sg_T} : (sp_end a0 σ).1 < 3 := by
  unfold sp_end
  split <;> exact Nat.le_of_ble_eq_true rfl
theorem co_end {a0 : Int32} {σ : sg_T} (h : nI (sp_end a0 σ).1 = 0) : (sp_end a0 σ).1 = 0 := by
  have h3 := cs_end (a0 := a0) (σ := σ)
  exact (nI_eq (b := 0) (by omega) (by decide)).mp h
theorem cs_put {a0 : Int32} {a1 : Int32} {a2 : Int32} {σ : sg_T} : (sp_put a0 a1 a2 σ).1 < 3 := by
  unfold sp_put
  split
  · exact Nat.le_of_ble_eq_true rfl
  · split
    · exact Nat.le_of_ble_eq_true rfl
    · split <;> exact Nat.le_of_ble_eq_true rfl
theorem co_put {a0 : Int32} {a1 : Int32} {a2 : Int32} {σ : sg_T} (h : nI (sp_put a0 a1 a2 σ).1 = 0) : (sp_put a0 a1 a2 σ).1 = 0 := by
  have h3 := cs_put (a0 := a0) (a1 := a1) (a2 := a2) (σ := σ)
  exact (nI_eq (b := 0) (by omega) (by decide)).mp h
theorem cs_find {a0 : Int32} {σ : sg_T} : (sp_find a0 σ).1 < 3 := by
  unfold sp_find
  split
  · exact Nat.le_of_ble_eq_true rfl
  · exact go_3 (by decide)
theorem co_find {a0 : Int32} {σ : sg_T} (h : nI (sp_find a0 σ).1 = 0) : (sp_find a0 σ).1 = 0 := by
  have h3 := cs_find (a0 := a0) (σ := σ)
  exact (nI_eq (b := 0) (by omega) (by decide)).mp h
theorem cs_seek {a0 : Int32} {bb : Bool} {σ : sg_T} : (sp_seek a0 bb σ).1 < 3 := by
  unfold sp_seek
  split
  · exact Nat.le_of_ble_eq_true rfl
  · exact go_3 (by decide)
theorem co_seek {a0 : Int32} {bb : Bool} {σ : sg_T} (h : nI (sp_seek a0 bb σ).1 = 0) : (sp_seek a0 bb σ).1 = 0 := by
  have h3 := cs_seek (a0 := a0) (bb := bb) (σ := σ)
  exact (nI_eq (b := 0) (by omega) (by decide)).mp h
theorem cs_next {σ : sg_T} : (sp_next  σ).1 < 3 := by
  unfold sp_next
  split
  · exact go_3 (by decide)
  · exact Nat.le_of_ble_eq_true rfl
theorem co_next {σ : sg_T} (h : nI (sp_next  σ).1 = 0) : (sp_next  σ).1 = 0 := by
  have h3 := cs_next (σ := σ)
  exact (nI_eq (b := 0) (by omega) (by decide)).mp h
theorem cs_first {σ : sg_T} : (sp_first  σ).1 < 3 := by
  unfold sp_first
  exact go_3 (by decide)
theorem co_first {σ : sg_T} (h : nI (sp_first  σ).1 = 0) : (sp_first  σ).1 = 0 := by
  have h3 := cs_first (σ := σ)
  exact (nI_eq (b := 0) (by omega) (by decide)).mp h
theorem cs_current {a0 : Int32} {σ : sg_T} : (sp_current a0 σ).1 < 3 := by
  unfold sp_current
  split
  · exact Nat.le_of_ble_eq_true rfl
  · split <;> exact Nat.le_of_ble_eq_true rfl
theorem co_current {a0 : Int32} {σ : sg_T} (h : nI (sp_current a0 σ).1 = 0) : (sp_current a0 σ).1 = 0 := by
  have h3 := cs_current (a0 := a0) (σ := σ)
  exact (nI_eq (b := 0) (by omega) (by decide)).mp h
theorem cs_word {a0 : Int32} {σ : sg_T} : (sp_word a0 σ).1 < 3 := by
  unfold sp_word
  split
  · exact Nat.le_of_ble_eq_true rfl
  · split <;> exact Nat.le_of_ble_eq_true rfl
theorem co_word {a0 : Int32} {σ : sg_T} (h : nI (sp_word a0 σ).1 = 0) : (sp_word a0 σ).1 = 0 := by
  have h3 := cs_word (a0 := a0) (σ := σ)
  exact (nI_eq (b := 0) (by omega) (by decide)).mp h
set_option maxHeartbeats 16000000 in
set_option maxRecDepth 100000 in
/-- the law's body, over what is asked of the subject -/
theorem whole_open {p : Program} {e : Env} {s : State} {m : MethodId} {below : List Frame} {meth : Method} {c : Code} (l : Launch) (hl : l.stackTraces = false) (HK : ∀ G : gv_T, K_all l G) {b L : Nat} {xs : Nat → Int32} (hL : L ≤ 3072) (C0 : lw_At p s m meth c b L xs) : W p l e room_1 s m #[Value.ref b] below meth c s.heap [] 0 0 (lw_Z below #[Value.ref b] s) (entryFrame m ([Value.ref b] : List Value).toArray 8) := by
  obtain ⟨G, hz, hK, hsx⟩ := lw_G C0
  obtain ⟨hx0, hb0, hr0, hml, hown, hts0, hX, hbl, hlk, hgv⟩ := C0
  obtain ⟨Ki, Kfeed, Kend, Kput, Kfind, Kseek, Knext, Kfirst, Kcurrent, Kword, Kclear, Kcount⟩ := HK G
  have hts : ∀ w ∈ tb_ws, w.before #[Value.ref b] s = true := fun w hw => hts0 w (List.mem_filter.mp hw).1
  have F : jf p l s m #[Value.ref b] meth c G "MomentTreeLaw" b_LA_law 8 c.exceptionTable.toList := ⟨hx0, hb0, hml, hown, hts, hK, by rw [hz]; exact Nat.le_refl _, hsx, hlk, hl, rfl⟩
  have hbA : ¬ ge_A G b := by
    show ¬ G.2.2.1 ≤ b
    rw [hz]
    omega
  suffices start : jj p l e room_1 s m #[Value.ref b] below meth c G 8 (lw_Z below #[Value.ref b] s) (fun _ => none) 0 0 (lv_args 0 [.ref b]) 0 [] by
    rw [lg_entry_eq]
    exact start s.heap [] _ (fun a e h => by cases h) va_S.rf (lv_entry _ (Nat.le_of_ble_eq_true rfl))
  refine j_new F (ci := 0) (fs := [.null, .int 0, .null, .null]) rfl in_MT ty_MT ok_MT wc_LA_8 win_MT wi_MT (fun j hj => by rcases (show j = 0 ∨ j = 1 ∨ j = 2 ∨ j = 3 by omega) with rfl | rfl | rfl | rfl <;> rfl) (by decide) (by decide) d_LA_law_0 (fun x zx nx => ?_)
  refine j_dup F d_LA_law_3 rfl ?_
  refine j_callI F 0 (Ki _ x (mp_Us _ _ _) zx) wl_LA_50 wim_MT_init wi_MT wco_MT_init rfl (fun v M1 h => by cases h.1) (by decide +kernel) (by decide) rfl rfl (Nat.le_of_ble_eq_true rfl) (by decide) (by decide) d_LA_law_4 (fun M1 hp => ?_)
  obtain ⟨-, A0, hf0⟩ := hp
  refine j_astore_n F (lv1 := [(1, _), (0, _)]) d_LA_law_7 rfl (by decide) rfl ?_
  refine j_new F (ci := 3) (fs := [.int 0, .null, .int 0, .null, .null, .null, .null, .null, .int 0, .int 0]) rfl in_MO ty_MO ok_MO wc_LA_51 win_MO wi_MO (fun j hj => by rcases (show j = 0 ∨ j = 1 ∨ j = 2 ∨ j = 3 ∨ j = 4 ∨ j = 5 ∨ j = 6 ∨ j = 7 ∨ j = 8 ∨ j = 9 by omega) with rfl | rfl | rfl | rfl | rfl | rfl | rfl | rfl | rfl | rfl <;> rfl) (by decide) (by decide) d_LA_law_8 (fun h zh nh => ?_)
  refine j_dup F d_LA_law_11 rfl ?_
  refine j_callI F 0 (c_MO_init hl (M := mp_U M1 h mo_I) (mp_Us _ _ _) zh) wl_LA_53 wim_MO_init wi_MO wco_MO_init rfl (fun v M1 h => by cases h.1) (by decide +kernel) (by decide) rfl rfl (Nat.le_of_ble_eq_true rfl) (by decide) (by decide) d_LA_law_12 (fun M3 hp => ?_)
  obtain ⟨-, ta, ke, le, mo, pl, si, B0, hn0, hf1⟩ := hp
  refine j_astore_n F (lv1 := [(2, _), (1, _), (0, _)]) d_LA_law_15 rfl (by decide) rfl ?_
  refine j_iconst F (v := 1) d_LA_law_16 (by decide) ?_
  refine j_newl F wa_long (len := 1) (by decide) (by decide) (by decide) (by decide) (by decide) d_LA_law_17 (fun oo zo no => ?_)
  refine j_astore_n F (lv1 := [(3, _), (2, _), (1, _), (0, _)]) d_LA_law_19 rfl (by decide) rfl ?_
  refine j_iconst F (v := 0) d_LA_law_20 (by decide) ?_
  refine j_istore F (lv1 := [(4, _), (3, _), (2, _), (1, _), (0, _)]) d_LA_law_21 (by decide) rfl ?_
  have hoo : oo ∉ [h, ta, ke, le, mo, pl, si] := fun z => by
    obtain ⟨w, hw⟩ := mo_ex B0 oo z
    rw [no] at hw; cases hw
  have hne : ∀ q e9, M1 q = some e9 → M3 q = some e9 := fun q e9 he => by
    have hqh : q ≠ h := fun z => by rw [z, nh] at he; cases he
    exact hf1 q e9 hqh ((mp_Un hqh).trans he)
  have hI : lo_I G x h ta ke le mo pl si oo (mp_U M3 oo (.inl (G.2.1.2.2, 1, .inr (.inl (fun _ => 0))))) := by
    refine ⟨hoo, zo, _, _, _, cl_mono A0 (fun q e9 _ he => ?_) (fun q hq => Or.inr ?_), mo_keep B0 (fun q hq => mp_Un (fun z => hoo (by rw [← z]; exact hq))), mp_Us _ _ _⟩
    · have h3 := hne q e9 he
      exact (mp_Un (fun z => by rw [z, no] at h3; cases h3)).trans h3
    · cases hq1 : M1 q with
      | none => rfl
      | some e9 =>
        have h3 := hne q e9 hq1
        rcases hq with z | z
        · rcases List.mem_cons.mp z with z | z
          · rw [z, nh] at hq1; cases hq1
          · have h4 := hn0 q z
            have hqh : q ≠ h := fun z => by rw [z, nh] at hq1; cases hq1
            rw [mp_Un hqh, hq1] at h4
            cases h4
        · rw [z, no] at h3; cases h3
  generalize mp_U M3 oo (.inl (G.2.1.2.2, 1, .inr (.inl (fun _ => 0)))) = M4 at hI ⊢
  refine j_lv (lv1 := [(4, .int (nI (6 * 0))), (3, .ref oo), (2, .ref h), (1, .ref x), (0, .ref b)]) rfl ?_
  refine j_widen (k1 := 20 + 3 * 0) (n1 := 8000 + 60 * 0) (by decide) (by decide) ?_
  refine j_ind (α := Nat × mp_T) (fun y => 600 - y.1) (fun y => y.2) (fun y => 20 + 3 * y.1) (fun y => 8000 + 60 * y.1) (fun y => [(4, .int (nI (6 * y.1))), (3, .ref oo), (2, .ref h), (1, .ref x), (0, .ref b)]) (fun _ => []) (fun y => 6 * y.1 ≤ L + 5 ∧ lo_I G x h ta ke le mo pl si oo y.2) ?_ (0, M4) ⟨by omega, hI⟩
  intro y hy ih
  obtain ⟨t, M5⟩ := y
  obtain ⟨ht, hI5⟩ := hy
  dsimp only at ht hI5 ⊢
  refine j_iload F d_LA_law_23 rfl ?_
  refine j_aload_n F d_LA_law_25 rfl rfl ?_
  refine j_slen F hX hbl hbA d_LA_law_26 ?_
  refine j_bipush F (v := 6) d_LA_law_27 (by decide) ?_
  refine j_isub F d_LA_law_29 ?_
  have hcmp : nI L - 6 < nI (6 * t) ↔ L < 6 * t + 6 := by
    rw [Int32.lt_iff_toInt_lt, show (6 : Int32) = nI 6 from rfl, pk_sub_toInt (by omega) (by decide), nI_toInt (by omega)]
    omega
  refine j_icmp_gt F (tgt := 711) d_LA_law_30 (by decide) (fun hc => ?_) (fun hc => ?_)
  · skip
    refine j_iconst F (v := 1) d_LA_law_711 (by decide) ?_
    intro H locs ls h1 h2 h3
    refine W.widen (by show 20 + 3 * t ≤ 601024; omega) (by show 8000 + 60 * t ≤ 7293034; omega) (va_forget (fun q hq => ?_) (lw_ret hx0 hb0 hr0 hlk d_LA_law_712))
    have := h2.2.2 q hq
    unfold ge_A at this
    rw [hz] at this
    exact this
  · skip
    have hin : 6 * t + 6 ≤ L := Nat.not_lt.mp (fun z => hc (hcmp.mpr z))
    refine j_cut (α := mp_T) (fun M6 => lo_I G x h ta ke le mo pl si oo M6) (fun M6 => M6) (fun _ => 20 + 3 * t + 3) (fun _ => 8000 + 60 * t + 60) (fun _ => [(4, .int (nI (6 * t))), (3, .ref oo), (2, .ref h), (1, .ref x), (0, .ref b)]) 705 (fun _ => []) ?_ (fun at705 => ?_)
    · skip
      intro M6 hI6
      refine j_iinc F (lv1 := [(4, _), (3, _), (2, _), (1, _), (0, _)]) d_LA_law_705 rfl (show nI (6 * t) + Int32.ofInt 6 = nI (6 * (t + 1)) from nI_add (6 * t) 6) (by decide) rfl ?_
      refine j_goto F (tgt := 23) d_LA_law_708 (by decide) ?_
      refine j_widen (k1 := 20 + 3 * (t + 1)) (n1 := 8000 + 60 * (t + 1)) (by omega) (by omega) ?_
      exact ih (t + 1, M6) ⟨by dsimp only; omega, hI6⟩ (by dsimp only; omega)
    obtain ⟨hoo5, hzo5, σ, fa, g, A5, B5, ho5⟩ := hI5
    have hB5 := lo_B B5 ho5
    have hBo : bb_B h ta ke le mo pl si oo oo := Or.inr rfl
    refine j_aload_n F d_LA_law_33 rfl rfl ?_
    refine j_iload F d_LA_law_34 rfl ?_
    refine j_sld F hX hbl hbA (by omega) (by omega) d_LA_law_36 ?_
    refine j_bipush F (v := 15) d_LA_law_37 (by decide) ?_
    refine j_iand F d_LA_law_39 ?_
    obtain ⟨j, hj, hjx⟩ := pk_andE (xs (6 * t)) (m := 15) 4 (by decide)
    refine j_val hjx ?_
    have hjt : (nI j).toInt = (j : Int) := nI_toInt (by omega)
    by_cases hj0 : j = 0
    · skip
      subst hj0
      refine j_tableIn F (off := 60) (tgt := 100) d_LA_law_40 (by rw [hjt]; decide) (by rw [hjt]; decide) (by rw [hjt]; rfl) (by decide) ?_
      refine j_aload_n F d_LA_law_100 rfl rfl ?_
      refine j_aload_n F d_LA_law_101 rfl rfl ?_
      refine j_iload F d_LA_law_102 rfl ?_
      refine j_iconst F (v := 1) d_LA_law_104 (by decide) ?_
      refine j_iadd F d_LA_law_105 ?_
      refine j_val (y := nI (6 * t + 1)) (nI_add (6 * t) 1) ?_
      refine j_sld F hX hbl hbA (by omega) (by omega) d_LA_law_106 ?_
      refine j_aload_n F d_LA_law_107 rfl rfl ?_
      refine j_iload F d_LA_law_108 rfl ?_
      refine j_iconst F (v := 2) d_LA_law_110 (by decide) ?_
      refine j_iadd F d_LA_law_111 ?_
      refine j_val (y := nI (6 * t + 2)) (nI_add (6 * t) 2) ?_
      refine j_sld F hX hbl hbA (by omega) (by omega) d_LA_law_112 ?_
      refine j_aload_n F d_LA_law_113 rfl rfl ?_
      refine j_iload F d_LA_law_114 rfl ?_
      refine j_iconst F (v := 3) d_LA_law_116 (by decide) ?_
      refine j_iadd F d_LA_law_117 ?_
      refine j_val (y := nI (6 * t + 3)) (nI_add (6 * t) 3) ?_
      refine j_sld F hX hbl hbA (by omega) (by omega) d_LA_law_118 ?_
      refine j_aload_n F d_LA_law_119 rfl rfl ?_
      refine j_iload F d_LA_law_120 rfl ?_
      refine j_iconst F (v := 4) d_LA_law_122 (by decide) ?_
      refine j_iadd F d_LA_law_123 ?_
      refine j_val (y := nI (6 * t + 4)) (nI_add (6 * t) 4) ?_
      refine j_sld F hX hbl hbA (by omega) (by omega) d_LA_law_124 ?_
      refine j_aload_n F d_LA_law_125 rfl rfl ?_
      refine j_iload F d_LA_law_126 rfl ?_
      refine j_iconst F (v := 5) d_LA_law_128 (by decide) ?_
      refine j_iadd F d_LA_law_129 ?_
      refine j_val (y := nI (6 * t + 5)) (nI_add (6 * t) 5) ?_
      refine j_sld F hX hbl hbA (by omega) (by omega) d_LA_law_130 ?_
      refine j_aload_n F d_LA_law_131 rfl rfl ?_
      refine j_callH F 7 (c_LA_feed hl Kfeed A5 hB5 hBo ho5 hzo5 (xs (6 * t + 1)) (xs (6 * t + 2)) (xs (6 * t + 3)) (xs (6 * t + 4)) (xs (6 * t + 5))) wl_LA_54 wst_LA_feed wi_LA wcw_LA_feed (by decide +kernel) (by decide) rfl rfl (Nat.le_of_ble_eq_true rfl) (by show 20 + 3 * t + 3 ≤ 601024; omega) (by show 8000 + 60 * t + 60 ≤ 7293034; omega) d_LA_law_132 (fun E M1 hx => hx.elim) (fun r M6 hp => ?_)
      obtain ⟨rfl, A6, ⟨g6, ho6, hg6⟩, hf6⟩ := hp
      have B6 := mo_keep B5 (fun q hq => hf6 q (Or.inl hq) (fun z => hoo5 (by rw [← z]; exact hq)))
      obtain ⟨_, _, _, _, _, _, S6⟩ := mo_S_of B6
      refine j_istore F (lv1 := [(5, _), (4, _), (3, _), (2, _), (1, _), (0, _)]) d_LA_law_135 (by decide) rfl ?_
      refine j_aload_n F d_LA_law_137 rfl rfl ?_
      refine j_aload_n F d_LA_law_138 rfl rfl ?_
      refine j_iload F d_LA_law_139 rfl ?_
      refine j_iconst F (v := 1) d_LA_law_141 (by decide) ?_
      refine j_iadd F d_LA_law_142 ?_
      refine j_val (y := nI (6 * t + 1)) (nI_add (6 * t) 1) ?_
      refine j_sld F hX hbl hbA (by omega) (by omega) d_LA_law_143 ?_
      refine j_aload_n F d_LA_law_144 rfl rfl ?_
      refine j_iload F d_LA_law_145 rfl ?_
      refine j_iconst F (v := 2) d_LA_law_147 (by decide) ?_
      refine j_iadd F d_LA_law_148 ?_
      refine j_val (y := nI (6 * t + 2)) (nI_add (6 * t) 2) ?_
      refine j_sld F hX hbl hbA (by omega) (by omega) d_LA_law_149 ?_
      refine j_aload_n F d_LA_law_150 rfl rfl ?_
      refine j_iload F d_LA_law_151 rfl ?_
      refine j_iconst F (v := 3) d_LA_law_153 (by decide) ?_
      refine j_iadd F d_LA_law_154 ?_
      refine j_val (y := nI (6 * t + 3)) (nI_add (6 * t) 3) ?_
      refine j_sld F hX hbl hbA (by omega) (by omega) d_LA_law_155 ?_
      refine j_aload_n F d_LA_law_156 rfl rfl ?_
      refine j_iload F d_LA_law_157 rfl ?_
      refine j_iconst F (v := 4) d_LA_law_159 (by decide) ?_
      refine j_iadd F d_LA_law_160 ?_
      refine j_val (y := nI (6 * t + 4)) (nI_add (6 * t) 4) ?_
      refine j_sld F hX hbl hbA (by omega) (by omega) d_LA_law_161 ?_
      refine j_aload_n F d_LA_law_162 rfl rfl ?_
      refine j_iload F d_LA_law_163 rfl ?_
      refine j_iconst F (v := 5) d_LA_law_165 (by decide) ?_
      refine j_iadd F d_LA_law_166 ?_
      refine j_val (y := nI (6 * t + 5)) (nI_add (6 * t) 5) ?_
      refine j_sld F hX hbl hbA (by omega) (by omega) d_LA_law_167 ?_
      refine j_callV F 5 (c_MO_feed hl B6 (xs (6 * t + 1)) (xs (6 * t + 2)) (xs (6 * t + 3)) (xs (6 * t + 4)) (xs (6 * t + 5))) (so_h S6) rfl wl_LA_59 wim_MO_feed wse_MO_feed wi_MO wco_MO_feed (by decide +kernel) (by decide) rfl rfl (Nat.le_of_ble_eq_true rfl) (by show 20 + 3 * t + 3 + 0 ≤ 601024; omega) (by show 8000 + 60 * t + 60 + 0 ≤ 7293034; omega) d_LA_law_168 (fun E M1 hx => hx.elim) (fun r M7 hp => ?_)
      obtain ⟨rfl, B7⟩ := hp
      obtain ⟨hI7, ho7⟩ := lo_2 hoo5 hzo5 A6 ho6 B7
      obtain ⟨_, _, _, _, _, _, S7⟩ := mo_S_of B7
      refine j_istore F (lv1 := [(6, _), (5, _), (4, _), (3, _), (2, _), (1, _), (0, _)]) d_LA_law_171 (by decide) rfl ?_
      refine j_aload_n F d_LA_law_173 rfl rfl ?_
      refine j_callV F 0 (c_MO_thrown hl S7) (so_h S7) rfl wl_LA_60 wim_MO_thrown wse_MO_thrown wi_MO wco_MO_thrown (by decide +kernel) (by decide) rfl rfl (Nat.le_of_ble_eq_true rfl) (by show 20 + 3 * t + 3 + 0 + 0 ≤ 601024; omega) (by show 8000 + 60 * t + 60 + 0 + 0 ≤ 7293034; omega) d_LA_law_174 (fun E M1 hx => hx.elim) (fun r M8 hp => ?_)
      obtain ⟨rfl, rfl⟩ := hp
      refine j_iload F d_LA_law_177 rfl ?_
      refine j_icmp_eq F (tgt := 184) d_LA_law_179 (by decide) (fun hq => ?_) (fun hq => absurd rfl hq)
      refine j_iload F d_LA_law_184 rfl ?_
      refine j_if_ne F (tgt := 201) d_LA_law_186 (by decide) (fun hq2 => ?_) (fun hq2 => ?_)
      · skip
        refine j_goto F (tgt := 705) d_LA_law_201 (by decide) ?_
        refine j_sub [2, 3, 4, 5, 6] rfl ?_
        exact at705 M7 hI7
      · skip
        have hc0 : (sp_feed (xs (6 * t + 1)) (xs (6 * t + 2)) (xs (6 * t + 3)) (xs (6 * t + 4)) (xs (6 * t + 5)) σ).1 = 0 := co_feed hq2
        refine j_aload_n F d_LA_law_189 rfl rfl ?_
        refine j_iconst F (v := 0) d_LA_law_190 (by decide) ?_
        refine j_lald F ho7 in0_1 d_LA_law_191 ?_
        refine j_valL (y := (sp_feed (xs (6 * t + 1)) (xs (6 * t + 2)) (xs (6 * t + 3)) (xs (6 * t + 4)) (xs (6 * t + 5)) σ).2.1.toInt64) (hg6 hc0) ?_
        refine j_iload F d_LA_law_192 rfl ?_
        refine j_i2l F d_LA_law_194 rfl ?_
        refine j_lcmp F d_LA_law_195 ?_
        refine j_val (lg_cmp_self _) ?_
        refine j_if_eq F (tgt := 201) d_LA_law_196 (by decide) (fun hq3 => ?_) (fun hq3 => absurd rfl hq3)
        refine j_goto F (tgt := 705) d_LA_law_201 (by decide) ?_
        refine j_sub [2, 3, 4, 5, 6] rfl ?_
        exact at705 M7 hI7
    by_cases hj1 : j = 1
    · skip
      subst hj1
      refine j_tableIn F (off := 164) (tgt := 204) d_LA_law_40 (by rw [hjt]; decide) (by rw [hjt]; decide) (by rw [hjt]; rfl) (by decide) ?_
      refine j_aload_n F d_LA_law_204 rfl rfl ?_
      refine j_aload_n F d_LA_law_205 rfl rfl ?_
      refine j_iload F d_LA_law_206 rfl ?_
      refine j_iconst F (v := 1) d_LA_law_208 (by decide) ?_
      refine j_iadd F d_LA_law_209 ?_
      refine j_val (y := nI (6 * t + 1)) (nI_add (6 * t) 1) ?_
      refine j_sld F hX hbl hbA (by omega) (by omega) d_LA_law_210 ?_
      refine j_aload_n F d_LA_law_211 rfl rfl ?_
      refine j_callH F 3 (c_LA_end hl Kend A5 hB5 hBo ho5 hzo5 (xs (6 * t + 1))) wl_LA_63 wst_LA_end wi_LA wcw_LA_end (by decide +kernel) (by decide) rfl rfl (Nat.le_of_ble_eq_true rfl) (by show 20 + 3 * t + 3 ≤ 601024; omega) (by show 8000 + 60 * t + 60 ≤ 7293034; omega) d_LA_law_212 (fun E M1 hx => hx.elim) (fun r M6 hp => ?_)
      obtain ⟨rfl, A6, ⟨g6, ho6, hg6⟩, hf6⟩ := hp
      have B6 := mo_keep B5 (fun q hq => hf6 q (Or.inl hq) (fun z => hoo5 (by rw [← z]; exact hq)))
      obtain ⟨_, _, _, _, _, _, S6⟩ := mo_S_of B6
      refine j_istore F (lv1 := [(5, _), (4, _), (3, _), (2, _), (1, _), (0, _)]) d_LA_law_215 (by decide) rfl ?_
      refine j_aload_n F d_LA_law_217 rfl rfl ?_
      refine j_aload_n F d_LA_law_218 rfl rfl ?_
      refine j_iload F d_LA_law_219 rfl ?_
      refine j_iconst F (v := 1) d_LA_law_221 (by decide) ?_
      refine j_iadd F d_LA_law_222 ?_
      refine j_val (y := nI (6 * t + 1)) (nI_add (6 * t) 1) ?_
      refine j_sld F hX hbl hbA (by omega) (by omega) d_LA_law_223 ?_
      refine j_callV F 1 (c_MO_end hl B6 (xs (6 * t + 1))) (so_h S6) rfl wl_LA_66 wim_MO_end wse_MO_end wi_MO wco_MO_end (by decide +kernel) (by decide) rfl rfl (Nat.le_of_ble_eq_true rfl) (by show 20 + 3 * t + 3 + 0 ≤ 601024; omega) (by show 8000 + 60 * t + 60 + 0 ≤ 7293034; omega) d_LA_law_224 (fun E M1 hx => hx.elim) (fun r M7 hp => ?_)
      obtain ⟨rfl, B7⟩ := hp
      obtain ⟨hI7, ho7⟩ := lo_2 hoo5 hzo5 A6 ho6 B7
      obtain ⟨_, _, _, _, _, _, S7⟩ := mo_S_of B7
      refine j_istore F (lv1 := [(6, _), (5, _), (4, _), (3, _), (2, _), (1, _), (0, _)]) d_LA_law_227 (by decide) rfl ?_
      refine j_aload_n F d_LA_law_229 rfl rfl ?_
      refine j_callV F 0 (c_MO_thrown hl S7) (so_h S7) rfl wl_LA_60 wim_MO_thrown wse_MO_thrown wi_MO wco_MO_thrown (by decide +kernel) (by decide) rfl rfl (Nat.le_of_ble_eq_true rfl) (by show 20 + 3 * t + 3 + 0 + 0 ≤ 601024; omega) (by show 8000 + 60 * t + 60 + 0 + 0 ≤ 7293034; omega) d_LA_law_230 (fun E M1 hx => hx.elim) (fun r M8 hp => ?_)
      obtain ⟨rfl, rfl⟩ := hp
      refine j_iload F d_LA_law_233 rfl ?_
      refine j_icmp_eq F (tgt := 240) d_LA_law_235 (by decide) (fun hq => ?_) (fun hq => absurd rfl hq)
      refine j_iload F d_LA_law_240 rfl ?_
      refine j_if_ne F (tgt := 257) d_LA_law_242 (by decide) (fun hq2 => ?_) (fun hq2 => ?_)
      · skip
        refine j_goto F (tgt := 705) d_LA_law_257 (by decide) ?_
        refine j_sub [2, 3, 4, 5, 6] rfl ?_
        exact at705 M7 hI7
      · skip
        have hc0 : (sp_end (xs (6 * t + 1)) σ).1 = 0 := co_end hq2
        refine j_aload_n F d_LA_law_245 rfl rfl ?_
        refine j_iconst F (v := 0) d_LA_law_246 (by decide) ?_
        refine j_lald F ho7 in0_1 d_LA_law_247 ?_
        refine j_valL (y := (sp_end (xs (6 * t + 1)) σ).2.1.toInt64) (hg6 hc0) ?_
        refine j_iload F d_LA_law_248 rfl ?_
        refine j_i2l F d_LA_law_250 rfl ?_
        refine j_lcmp F d_LA_law_251 ?_
        refine j_val (lg_cmp_self _) ?_
        refine j_if_eq F (tgt := 257) d_LA_law_252 (by decide) (fun hq3 => ?_) (fun hq3 => absurd rfl hq3)
        refine j_goto F (tgt := 705) d_LA_law_257 (by decide) ?_
        refine j_sub [2, 3, 4, 5, 6] rfl ?_
        exact at705 M7 hI7
    by_cases hj2 : j = 2
    · skip
      subst hj2
      refine j_tableIn F (off := 220) (tgt := 260) d_LA_law_40 (by rw [hjt]; decide) (by rw [hjt]; decide) (by rw [hjt]; rfl) (by decide) ?_
      refine j_aload_n F d_LA_law_260 rfl rfl ?_
      refine j_aload_n F d_LA_law_261 rfl rfl ?_
      refine j_iload F d_LA_law_262 rfl ?_
      refine j_iconst F (v := 1) d_LA_law_264 (by decide) ?_
      refine j_iadd F d_LA_law_265 ?_
      refine j_val (y := nI (6 * t + 1)) (nI_add (6 * t) 1) ?_
      refine j_sld F hX hbl hbA (by omega) (by omega) d_LA_law_266 ?_
      refine j_aload_n F d_LA_law_267 rfl rfl ?_
      refine j_iload F d_LA_law_268 rfl ?_
      refine j_iconst F (v := 2) d_LA_law_270 (by decide) ?_
      refine j_iadd F d_LA_law_271 ?_
      refine j_val (y := nI (6 * t + 2)) (nI_add (6 * t) 2) ?_
      refine j_sld F hX hbl hbA (by omega) (by omega) d_LA_law_272 ?_
      refine j_aload_n F d_LA_law_273 rfl rfl ?_
      refine j_iload F d_LA_law_274 rfl ?_
      refine j_iconst F (v := 3) d_LA_law_276 (by decide) ?_
      refine j_iadd F d_LA_law_277 ?_
      refine j_val (y := nI (6 * t + 3)) (nI_add (6 * t) 3) ?_
      refine j_sld F hX hbl hbA (by omega) (by omega) d_LA_law_278 ?_
      refine j_aload_n F d_LA_law_279 rfl rfl ?_
      refine j_callH F 5 (c_LA_put hl Kput A5 hB5 hBo ho5 hzo5 (xs (6 * t + 1)) (xs (6 * t + 2)) (xs (6 * t + 3))) wl_LA_67 wst_LA_put wi_LA wcw_LA_put (by decide +kernel) (by decide) rfl rfl (Nat.le_of_ble_eq_true rfl) (by show 20 + 3 * t + 3 ≤ 601024; omega) (by show 8000 + 60 * t + 60 ≤ 7293034; omega) d_LA_law_280 (fun E M1 hx => hx.elim) (fun r M6 hp => ?_)
      obtain ⟨rfl, A6, ⟨g6, ho6, hg6⟩, hf6⟩ := hp
      have B6 := mo_keep B5 (fun q hq => hf6 q (Or.inl hq) (fun z => hoo5 (by rw [← z]; exact hq)))
      obtain ⟨_, _, _, _, _, _, S6⟩ := mo_S_of B6
      refine j_istore F (lv1 := [(5, _), (4, _), (3, _), (2, _), (1, _), (0, _)]) d_LA_law_283 (by decide) rfl ?_
      refine j_aload_n F d_LA_law_285 rfl rfl ?_
      refine j_aload_n F d_LA_law_286 rfl rfl ?_
      refine j_iload F d_LA_law_287 rfl ?_
      refine j_iconst F (v := 1) d_LA_law_289 (by decide) ?_
      refine j_iadd F d_LA_law_290 ?_
      refine j_val (y := nI (6 * t + 1)) (nI_add (6 * t) 1) ?_
      refine j_sld F hX hbl hbA (by omega) (by omega) d_LA_law_291 ?_
      refine j_aload_n F d_LA_law_292 rfl rfl ?_
      refine j_iload F d_LA_law_293 rfl ?_
      refine j_iconst F (v := 2) d_LA_law_295 (by decide) ?_
      refine j_iadd F d_LA_law_296 ?_
      refine j_val (y := nI (6 * t + 2)) (nI_add (6 * t) 2) ?_
      refine j_sld F hX hbl hbA (by omega) (by omega) d_LA_law_297 ?_
      refine j_aload_n F d_LA_law_298 rfl rfl ?_
      refine j_iload F d_LA_law_299 rfl ?_
      refine j_iconst F (v := 3) d_LA_law_301 (by decide) ?_
      refine j_iadd F d_LA_law_302 ?_
      refine j_val (y := nI (6 * t + 3)) (nI_add (6 * t) 3) ?_
      refine j_sld F hX hbl hbA (by omega) (by omega) d_LA_law_303 ?_
      refine j_callV F 3 (c_MO_put hl B6 (xs (6 * t + 1)) (xs (6 * t + 2)) (xs (6 * t + 3))) (so_h S6) rfl wl_LA_70 wim_MO_put wse_MO_put wi_MO wco_MO_put (by decide +kernel) (by decide) rfl rfl (Nat.le_of_ble_eq_true rfl) (by show 20 + 3 * t + 3 + 0 ≤ 601024; omega) (by show 8000 + 60 * t + 60 + 0 ≤ 7293034; omega) d_LA_law_304 (fun E M1 hx => hx.elim) (fun r M7 hp => ?_)
      obtain ⟨rfl, B7⟩ := hp
      obtain ⟨hI7, ho7⟩ := lo_2 hoo5 hzo5 A6 ho6 B7
      obtain ⟨_, _, _, _, _, _, S7⟩ := mo_S_of B7
      refine j_istore F (lv1 := [(6, _), (5, _), (4, _), (3, _), (2, _), (1, _), (0, _)]) d_LA_law_307 (by decide) rfl ?_
      refine j_aload_n F d_LA_law_309 rfl rfl ?_
      refine j_callV F 0 (c_MO_thrown hl S7) (so_h S7) rfl wl_LA_60 wim_MO_thrown wse_MO_thrown wi_MO wco_MO_thrown (by decide +kernel) (by decide) rfl rfl (Nat.le_of_ble_eq_true rfl) (by show 20 + 3 * t + 3 + 0 + 0 ≤ 601024; omega) (by show 8000 + 60 * t + 60 + 0 + 0 ≤ 7293034; omega) d_LA_law_310 (fun E M1 hx => hx.elim) (fun r M8 hp => ?_)
      obtain ⟨rfl, rfl⟩ := hp
      refine j_iload F d_LA_law_313 rfl ?_
      refine j_icmp_eq F (tgt := 320) d_LA_law_315 (by decide) (fun hq => ?_) (fun hq => absurd rfl hq)
      refine j_iload F d_LA_law_320 rfl ?_
      refine j_if_ne F (tgt := 337) d_LA_law_322 (by decide) (fun hq2 => ?_) (fun hq2 => ?_)
      · skip
        refine j_goto F (tgt := 705) d_LA_law_337 (by decide) ?_
        refine j_sub [2, 3, 4, 5, 6] rfl ?_
        exact at705 M7 hI7
      · skip
        have hc0 : (sp_put (xs (6 * t + 1)) (xs (6 * t + 2)) (xs (6 * t + 3)) σ).1 = 0 := co_put hq2
        refine j_aload_n F d_LA_law_325 rfl rfl ?_
        refine j_iconst F (v := 0) d_LA_law_326 (by decide) ?_
        refine j_lald F ho7 in0_1 d_LA_law_327 ?_
        refine j_valL (y := (sp_put (xs (6 * t + 1)) (xs (6 * t + 2)) (xs (6 * t + 3)) σ).2.1.toInt64) (hg6 hc0) ?_
        refine j_iload F d_LA_law_328 rfl ?_
        refine j_i2l F d_LA_law_330 rfl ?_
        refine j_lcmp F d_LA_law_331 ?_
        refine j_val (lg_cmp_self _) ?_
        refine j_if_eq F (tgt := 337) d_LA_law_332 (by decide) (fun hq3 => ?_) (fun hq3 => absurd rfl hq3)
        refine j_goto F (tgt := 705) d_LA_law_337 (by decide) ?_
        refine j_sub [2, 3, 4, 5, 6] rfl ?_
        exact at705 M7 hI7
    by_cases hj3 : j = 3
    · skip
      subst hj3
      refine j_tableIn F (off := 300) (tgt := 340) d_LA_law_40 (by rw [hjt]; decide) (by rw [hjt]; decide) (by rw [hjt]; rfl) (by decide) ?_
      refine j_aload_n F d_LA_law_340 rfl rfl ?_
      refine j_aload_n F d_LA_law_341 rfl rfl ?_
      refine j_iload F d_LA_law_342 rfl ?_
      refine j_iconst F (v := 1) d_LA_law_344 (by decide) ?_
      refine j_iadd F d_LA_law_345 ?_
      refine j_val (y := nI (6 * t + 1)) (nI_add (6 * t) 1) ?_
      refine j_sld F hX hbl hbA (by omega) (by omega) d_LA_law_346 ?_
      refine j_aload_n F d_LA_law_347 rfl rfl ?_
      refine j_callH F 3 (c_LA_find hl Kfind A5 hB5 hBo ho5 hzo5 (xs (6 * t + 1))) wl_LA_71 wst_LA_find wi_LA wcw_LA_find (by decide +kernel) (by decide) rfl rfl (Nat.le_of_ble_eq_true rfl) (by show 20 + 3 * t + 3 ≤ 601024; omega) (by show 8000 + 60 * t + 60 ≤ 7293034; omega) d_LA_law_348 (fun E M1 hx => hx.elim) (fun r M6 hp => ?_)
      obtain ⟨rfl, A6, ⟨g6, ho6, hg6⟩, hf6⟩ := hp
      have B6 := mo_keep B5 (fun q hq => hf6 q (Or.inl hq) (fun z => hoo5 (by rw [← z]; exact hq)))
      obtain ⟨_, _, _, _, _, _, S6⟩ := mo_S_of B6
      refine j_istore F (lv1 := [(5, _), (4, _), (3, _), (2, _), (1, _), (0, _)]) d_LA_law_351 (by decide) rfl ?_
      refine j_aload_n F d_LA_law_353 rfl rfl ?_
      refine j_aload_n F d_LA_law_354 rfl rfl ?_
      refine j_iload F d_LA_law_355 rfl ?_
      refine j_iconst F (v := 1) d_LA_law_357 (by decide) ?_
      refine j_iadd F d_LA_law_358 ?_
      refine j_val (y := nI (6 * t + 1)) (nI_add (6 * t) 1) ?_
      refine j_sld F hX hbl hbA (by omega) (by omega) d_LA_law_359 ?_
      refine j_callV F 1 (c_MO_find hl B6 (xs (6 * t + 1))) (so_h S6) rfl wl_LA_73 wim_MO_find wse_MO_find wi_MO wco_MO_find (by decide +kernel) (by decide) rfl rfl (Nat.le_of_ble_eq_true rfl) (by show 20 + 3 * t + 3 + 0 ≤ 601024; omega) (by show 8000 + 60 * t + 60 + 0 ≤ 7293034; omega) d_LA_law_360 (fun E M1 hx => hx.elim) (fun r M7 hp => ?_)
      obtain ⟨rfl, B7⟩ := hp
      obtain ⟨hI7, ho7⟩ := lo_2 hoo5 hzo5 A6 ho6 B7
      obtain ⟨_, _, _, _, _, _, S7⟩ := mo_S_of B7
      refine j_istore F (lv1 := [(6, _), (5, _), (4, _), (3, _), (2, _), (1, _), (0, _)]) d_LA_law_363 (by decide) rfl ?_
      refine j_aload_n F d_LA_law_365 rfl rfl ?_
      refine j_callV F 0 (c_MO_thrown hl S7) (so_h S7) rfl wl_LA_60 wim_MO_thrown wse_MO_thrown wi_MO wco_MO_thrown (by decide +kernel) (by decide) rfl rfl (Nat.le_of_ble_eq_true rfl) (by show 20 + 3 * t + 3 + 0 + 0 ≤ 601024; omega) (by show 8000 + 60 * t + 60 + 0 + 0 ≤ 7293034; omega) d_LA_law_366 (fun E M1 hx => hx.elim) (fun r M8 hp => ?_)
      obtain ⟨rfl, rfl⟩ := hp
      refine j_iload F d_LA_law_369 rfl ?_
      refine j_icmp_eq F (tgt := 376) d_LA_law_371 (by decide) (fun hq => ?_) (fun hq => absurd rfl hq)
      refine j_iload F d_LA_law_376 rfl ?_
      refine j_if_ne F (tgt := 393) d_LA_law_378 (by decide) (fun hq2 => ?_) (fun hq2 => ?_)
      · skip
        refine j_goto F (tgt := 705) d_LA_law_393 (by decide) ?_
        refine j_sub [2, 3, 4, 5, 6] rfl ?_
        exact at705 M7 hI7
      · skip
        have hc0 : (sp_find (xs (6 * t + 1)) σ).1 = 0 := co_find hq2
        refine j_aload_n F d_LA_law_381 rfl rfl ?_
        refine j_iconst F (v := 0) d_LA_law_382 (by decide) ?_
        refine j_lald F ho7 in0_1 d_LA_law_383 ?_
        refine j_valL (y := (sp_find (xs (6 * t + 1)) σ).2.1.toInt64) (hg6 hc0) ?_
        refine j_iload F d_LA_law_384 rfl ?_
        refine j_i2l F d_LA_law_386 rfl ?_
        refine j_lcmp F d_LA_law_387 ?_
        refine j_val (lg_cmp_self _) ?_
        refine j_if_eq F (tgt := 393) d_LA_law_388 (by decide) (fun hq3 => ?_) (fun hq3 => absurd rfl hq3)
        refine j_goto F (tgt := 705) d_LA_law_393 (by decide) ?_
        refine j_sub [2, 3, 4, 5, 6] rfl ?_
        exact at705 M7 hI7
    by_cases hj4 : j = 4
    · skip
      subst hj4
      refine j_tableIn F (off := 356) (tgt := 396) d_LA_law_40 (by rw [hjt]; decide) (by rw [hjt]; decide) (by rw [hjt]; rfl) (by decide) ?_
      refine j_aload_n F d_LA_law_396 rfl rfl ?_
      refine j_aload_n F d_LA_law_397 rfl rfl ?_
      refine j_iload F d_LA_law_398 rfl ?_
      refine j_iconst F (v := 1) d_LA_law_400 (by decide) ?_
      refine j_iadd F d_LA_law_401 ?_
      refine j_val (y := nI (6 * t + 1)) (nI_add (6 * t) 1) ?_
      refine j_sld F hX hbl hbA (by omega) (by omega) d_LA_law_402 ?_
      refine j_aload_n F d_LA_law_403 rfl rfl ?_
      refine j_iload F d_LA_law_404 rfl ?_
      refine j_iconst F (v := 2) d_LA_law_406 (by decide) ?_
      refine j_iadd F d_LA_law_407 ?_
      refine j_val (y := nI (6 * t + 2)) (nI_add (6 * t) 2) ?_
      refine j_sld F hX hbl hbA (by omega) (by omega) d_LA_law_408 ?_
      refine j_cut (α := Unit) (fun _ => True) (fun _ => M5) (fun _ => 20 + 3 * t) (fun _ => 8000 + 60 * t) (fun _ => [(4, .int (nI (6 * t))), (3, .ref oo), (2, .ref h), (1, .ref x), (0, .ref b)]) 417 (fun _ => [.int (if decide (¬ xs (6 * t + 2) = 0) then 1 else 0), .int (xs (6 * t + 1)), .ref x]) ?_ (fun at417 => ?_)
      · skip
        intro _ _
        refine j_aload_n F d_LA_law_417 rfl rfl ?_
        refine j_callH F 4 (c_LA_seek hl Kseek A5 hB5 hBo ho5 hzo5 (xs (6 * t + 1)) (decide (¬ xs (6 * t + 2) = 0))) wl_LA_74 wst_LA_seek wi_LA wcw_LA_seek (by decide +kernel) (by decide) rfl rfl (Nat.le_of_ble_eq_true rfl) (by show 20 + 3 * t + 3 ≤ 601024; omega) (by show 8000 + 60 * t + 60 ≤ 7293034; omega) d_LA_law_418 (fun E M1 hx => hx.elim) (fun r M6 hp => ?_)
        obtain ⟨rfl, A6, ⟨g6, ho6, hg6⟩, hf6⟩ := hp
        have B6 := mo_keep B5 (fun q hq => hf6 q (Or.inl hq) (fun z => hoo5 (by rw [← z]; exact hq)))
        obtain ⟨_, _, _, _, _, _, S6⟩ := mo_S_of B6
        refine j_istore F (lv1 := [(5, _), (4, _), (3, _), (2, _), (1, _), (0, _)]) d_LA_law_421 (by decide) rfl ?_
        refine j_aload_n F d_LA_law_423 rfl rfl ?_
        refine j_aload_n F d_LA_law_424 rfl rfl ?_
        refine j_iload F d_LA_law_425 rfl ?_
        refine j_iconst F (v := 1) d_LA_law_427 (by decide) ?_
        refine j_iadd F d_LA_law_428 ?_
        refine j_val (y := nI (6 * t + 1)) (nI_add (6 * t) 1) ?_
        refine j_sld F hX hbl hbA (by omega) (by omega) d_LA_law_429 ?_
        refine j_aload_n F d_LA_law_430 rfl rfl ?_
        refine j_iload F d_LA_law_431 rfl ?_
        refine j_iconst F (v := 2) d_LA_law_433 (by decide) ?_
        refine j_iadd F d_LA_law_434 ?_
        refine j_val (y := nI (6 * t + 2)) (nI_add (6 * t) 2) ?_
        refine j_sld F hX hbl hbA (by omega) (by omega) d_LA_law_435 ?_
        refine j_cut (α := Unit) (fun _ => True) (fun _ => M6) (fun _ => 20 + 3 * t + 3) (fun _ => 8000 + 60 * t + 60) (fun _ => [(5, .int (nI (sp_seek (xs (6 * t + 1)) (decide (¬ xs (6 * t + 2) = 0)) σ).1)), (4, .int (nI (6 * t))), (3, .ref oo), (2, .ref h), (1, .ref x), (0, .ref b)]) 444 (fun _ => [.int (if decide (¬ xs (6 * t + 2) = 0) then 1 else 0), .int (xs (6 * t + 1)), .ref h]) ?_ (fun at444 => ?_)
        · skip
          intro _ _
          refine j_callV F 2 (c_MO_seek hl B6 (xs (6 * t + 1)) (decide (¬ xs (6 * t + 2) = 0))) (so_h S6) rfl wl_LA_77 wim_MO_seek wse_MO_seek wi_MO wco_MO_seek (by decide +kernel) (by decide) rfl rfl (Nat.le_of_ble_eq_true rfl) (by show 20 + 3 * t + 3 + 0 ≤ 601024; omega) (by show 8000 + 60 * t + 60 + 0 ≤ 7293034; omega) d_LA_law_444 (fun E M1 hx => hx.elim) (fun r M7 hp => ?_)
          obtain ⟨rfl, B7⟩ := hp
          obtain ⟨hI7, ho7⟩ := lo_2 hoo5 hzo5 A6 ho6 B7
          obtain ⟨_, _, _, _, _, _, S7⟩ := mo_S_of B7
          refine j_istore F (lv1 := [(6, _), (5, _), (4, _), (3, _), (2, _), (1, _), (0, _)]) d_LA_law_447 (by decide) rfl ?_
          refine j_aload_n F d_LA_law_449 rfl rfl ?_
          refine j_callV F 0 (c_MO_thrown hl S7) (so_h S7) rfl wl_LA_60 wim_MO_thrown wse_MO_thrown wi_MO wco_MO_thrown (by decide +kernel) (by decide) rfl rfl (Nat.le_of_ble_eq_true rfl) (by show 20 + 3 * t + 3 + 0 + 0 ≤ 601024; omega) (by show 8000 + 60 * t + 60 + 0 + 0 ≤ 7293034; omega) d_LA_law_450 (fun E M1 hx => hx.elim) (fun r M8 hp => ?_)
          obtain ⟨rfl, rfl⟩ := hp
          refine j_iload F d_LA_law_453 rfl ?_
          refine j_icmp_eq F (tgt := 460) d_LA_law_455 (by decide) (fun hq => ?_) (fun hq => absurd rfl hq)
          refine j_iload F d_LA_law_460 rfl ?_
          refine j_if_ne F (tgt := 477) d_LA_law_462 (by decide) (fun hq2 => ?_) (fun hq2 => ?_)
          · skip
            refine j_goto F (tgt := 705) d_LA_law_477 (by decide) ?_
            refine j_sub [2, 3, 4, 5, 6] rfl ?_
            exact at705 M7 hI7
          · skip
            have hc0 : (sp_seek (xs (6 * t + 1)) (decide (¬ xs (6 * t + 2) = 0)) σ).1 = 0 := co_seek hq2
            refine j_aload_n F d_LA_law_465 rfl rfl ?_
            refine j_iconst F (v := 0) d_LA_law_466 (by decide) ?_
            refine j_lald F ho7 in0_1 d_LA_law_467 ?_
            refine j_valL (y := (sp_seek (xs (6 * t + 1)) (decide (¬ xs (6 * t + 2) = 0)) σ).2.1.toInt64) (hg6 hc0) ?_
            refine j_iload F d_LA_law_468 rfl ?_
            refine j_i2l F d_LA_law_470 rfl ?_
            refine j_lcmp F d_LA_law_471 ?_
            refine j_val (lg_cmp_self _) ?_
            refine j_if_eq F (tgt := 477) d_LA_law_472 (by decide) (fun hq3 => ?_) (fun hq3 => absurd rfl hq3)
            refine j_goto F (tgt := 705) d_LA_law_477 (by decide) ?_
            refine j_sub [2, 3, 4, 5, 6] rfl ?_
            exact at705 M7 hI7
        refine j_if_eq F (tgt := 443) d_LA_law_436 (by decide) (fun hs0 => ?_) (fun hs0 => ?_)
        · skip
          have hd0 : decide (¬ xs (6 * t + 2) = 0) = false := by simp [hs0]
          refine j_iconst F (v := 0) d_LA_law_443 (by decide) ?_
          refine j_val (y := if decide (¬ xs (6 * t + 2) = 0) then 1 else 0) (by rw [hd0]; rfl) ?_
          exact at444 () trivial
        · skip
          have hd0 : decide (¬ xs (6 * t + 2) = 0) = true := by simp [hs0]
          refine j_iconst F (v := 1) d_LA_law_439 (by decide) ?_
          refine j_goto F (tgt := 444) d_LA_law_440 (by decide) ?_
          refine j_val (y := if decide (¬ xs (6 * t + 2) = 0) then 1 else 0) (by rw [hd0]; rfl) ?_
          exact at444 () trivial
      refine j_if_eq F (tgt := 416) d_LA_law_409 (by decide) (fun hs0 => ?_) (fun hs0 => ?_)
      · skip
        have hd0 : decide (¬ xs (6 * t + 2) = 0) = false := by simp [hs0]
        rw [hd0] at at417
        refine j_iconst F (v := 0) d_LA_law_416 (by decide) ?_
        exact at417 () trivial
      · skip
        have hd0 : decide (¬ xs (6 * t + 2) = 0) = true := by simp [hs0]
        rw [hd0] at at417
        refine j_iconst F (v := 1) d_LA_law_412 (by decide) ?_
        refine j_goto F (tgt := 417) d_LA_law_413 (by decide) ?_
        exact at417 () trivial
    by_cases hj5 : j = 5
    · skip
      subst hj5
      refine j_tableIn F (off := 440) (tgt := 480) d_LA_law_40 (by rw [hjt]; decide) (by rw [hjt]; decide) (by rw [hjt]; rfl) (by decide) ?_
      refine j_aload_n F d_LA_law_480 rfl rfl ?_
      refine j_aload_n F d_LA_law_481 rfl rfl ?_
      refine j_callH F 2 (c_LA_next hl Knext A5 hB5 hBo ho5 hzo5 ) wl_LA_78 wst_LA_next wi_LA wcw_LA_next (by decide +kernel) (by decide) rfl rfl (Nat.le_of_ble_eq_true rfl) (by show 20 + 3 * t + 3 ≤ 601024; omega) (by show 8000 + 60 * t + 60 ≤ 7293034; omega) d_LA_law_482 (fun E M1 hx => hx.elim) (fun r M6 hp => ?_)
      obtain ⟨rfl, A6, ⟨g6, ho6, hg6⟩, hf6⟩ := hp
      have B6 := mo_keep B5 (fun q hq => hf6 q (Or.inl hq) (fun z => hoo5 (by rw [← z]; exact hq)))
      obtain ⟨_, _, _, _, _, _, S6⟩ := mo_S_of B6
      refine j_istore F (lv1 := [(5, _), (4, _), (3, _), (2, _), (1, _), (0, _)]) d_LA_law_485 (by decide) rfl ?_
      refine j_aload_n F d_LA_law_487 rfl rfl ?_
      refine j_callV F 0 (c_MO_next hl B6 ) (so_h S6) rfl wl_LA_81 wim_MO_next wse_MO_next wi_MO wco_MO_next (by decide +kernel) (by decide) rfl rfl (Nat.le_of_ble_eq_true rfl) (by show 20 + 3 * t + 3 + 0 ≤ 601024; omega) (by show 8000 + 60 * t + 60 + 0 ≤ 7293034; omega) d_LA_law_488 (fun E M1 hx => hx.elim) (fun r M7 hp => ?_)
      obtain ⟨rfl, B7⟩ := hp
      obtain ⟨hI7, ho7⟩ := lo_2 hoo5 hzo5 A6 ho6 B7
      obtain ⟨_, _, _, _, _, _, S7⟩ := mo_S_of B7
      refine j_istore F (lv1 := [(6, _), (5, _), (4, _), (3, _), (2, _), (1, _), (0, _)]) d_LA_law_491 (by decide) rfl ?_
      refine j_aload_n F d_LA_law_493 rfl rfl ?_
      refine j_callV F 0 (c_MO_thrown hl S7) (so_h S7) rfl wl_LA_60 wim_MO_thrown wse_MO_thrown wi_MO wco_MO_thrown (by decide +kernel) (by decide) rfl rfl (Nat.le_of_ble_eq_true rfl) (by show 20 + 3 * t + 3 + 0 + 0 ≤ 601024; omega) (by show 8000 + 60 * t + 60 + 0 + 0 ≤ 7293034; omega) d_LA_law_494 (fun E M1 hx => hx.elim) (fun r M8 hp => ?_)
      obtain ⟨rfl, rfl⟩ := hp
      refine j_iload F d_LA_law_497 rfl ?_
      refine j_icmp_eq F (tgt := 504) d_LA_law_499 (by decide) (fun hq => ?_) (fun hq => absurd rfl hq)
      refine j_iload F d_LA_law_504 rfl ?_
      refine j_if_ne F (tgt := 521) d_LA_law_506 (by decide) (fun hq2 => ?_) (fun hq2 => ?_)
      · skip
        refine j_goto F (tgt := 705) d_LA_law_521 (by decide) ?_
        refine j_sub [2, 3, 4, 5, 6] rfl ?_
        exact at705 M7 hI7
      · skip
        have hc0 : (sp_next  σ).1 = 0 := co_next hq2
        refine j_aload_n F d_LA_law_509 rfl rfl ?_
        refine j_iconst F (v := 0) d_LA_law_510 (by decide) ?_
        refine j_lald F ho7 in0_1 d_LA_law_511 ?_
        refine j_valL (y := (sp_next  σ).2.1.toInt64) (hg6 hc0) ?_
        refine j_iload F d_LA_law_512 rfl ?_
        refine j_i2l F d_LA_law_514 rfl ?_
        refine j_lcmp F d_LA_law_515 ?_
        refine j_val (lg_cmp_self _) ?_
        refine j_if_eq F (tgt := 521) d_LA_law_516 (by decide) (fun hq3 => ?_) (fun hq3 => absurd rfl hq3)
        refine j_goto F (tgt := 705) d_LA_law_521 (by decide) ?_
        refine j_sub [2, 3, 4, 5, 6] rfl ?_
        exact at705 M7 hI7
    by_cases hj6 : j = 6
    · skip
      subst hj6
      refine j_tableIn F (off := 484) (tgt := 524) d_LA_law_40 (by rw [hjt]; decide) (by rw [hjt]; decide) (by rw [hjt]; rfl) (by decide) ?_
      refine j_aload_n F d_LA_law_524 rfl rfl ?_
      refine j_aload_n F d_LA_law_525 rfl rfl ?_
      refine j_callH F 2 (c_LA_first hl Kfirst A5 hB5 hBo ho5 hzo5 ) wl_LA_82 wst_LA_first wi_LA wcw_LA_first (by decide +kernel) (by decide) rfl rfl (Nat.le_of_ble_eq_true rfl) (by show 20 + 3 * t + 3 ≤ 601024; omega) (by show 8000 + 60 * t + 60 ≤ 7293034; omega) d_LA_law_526 (fun E M1 hx => hx.elim) (fun r M6 hp => ?_)
      obtain ⟨rfl, A6, ⟨g6, ho6, hg6⟩, hf6⟩ := hp
      have B6 := mo_keep B5 (fun q hq => hf6 q (Or.inl hq) (fun z => hoo5 (by rw [← z]; exact hq)))
      obtain ⟨_, _, _, _, _, _, S6⟩ := mo_S_of B6
      refine j_istore F (lv1 := [(5, _), (4, _), (3, _), (2, _), (1, _), (0, _)]) d_LA_law_529 (by decide) rfl ?_
      refine j_aload_n F d_LA_law_531 rfl rfl ?_
      refine j_callV F 0 (c_MO_first hl B6 ) (so_h S6) rfl wl_LA_84 wim_MO_first wse_MO_first wi_MO wco_MO_first (by decide +kernel) (by decide) rfl rfl (Nat.le_of_ble_eq_true rfl) (by show 20 + 3 * t + 3 + 0 ≤ 601024; omega) (by show 8000 + 60 * t + 60 + 0 ≤ 7293034; omega) d_LA_law_532 (fun E M1 hx => hx.elim) (fun r M7 hp => ?_)
      obtain ⟨rfl, B7⟩ := hp
      obtain ⟨hI7, ho7⟩ := lo_2 hoo5 hzo5 A6 ho6 B7
      obtain ⟨_, _, _, _, _, _, S7⟩ := mo_S_of B7
      refine j_istore F (lv1 := [(6, _), (5, _), (4, _), (3, _), (2, _), (1, _), (0, _)]) d_LA_law_535 (by decide) rfl ?_
      refine j_aload_n F d_LA_law_537 rfl rfl ?_
      refine j_callV F 0 (c_MO_thrown hl S7) (so_h S7) rfl wl_LA_60 wim_MO_thrown wse_MO_thrown wi_MO wco_MO_thrown (by decide +kernel) (by decide) rfl rfl (Nat.le_of_ble_eq_true rfl) (by show 20 + 3 * t + 3 + 0 + 0 ≤ 601024; omega) (by show 8000 + 60 * t + 60 + 0 + 0 ≤ 7293034; omega) d_LA_law_538 (fun E M1 hx => hx.elim) (fun r M8 hp => ?_)
      obtain ⟨rfl, rfl⟩ := hp
      refine j_iload F d_LA_law_541 rfl ?_
      refine j_icmp_eq F (tgt := 548) d_LA_law_543 (by decide) (fun hq => ?_) (fun hq => absurd rfl hq)
      refine j_iload F d_LA_law_548 rfl ?_
      refine j_if_ne F (tgt := 565) d_LA_law_550 (by decide) (fun hq2 => ?_) (fun hq2 => ?_)
      · skip
        refine j_goto F (tgt := 705) d_LA_law_565 (by decide) ?_
        refine j_sub [2, 3, 4, 5, 6] rfl ?_
        exact at705 M7 hI7
      · skip
        have hc0 : (sp_first  σ).1 = 0 := co_first hq2
        refine j_aload_n F d_LA_law_553 rfl rfl ?_
        refine j_iconst F (v := 0) d_LA_law_554 (by decide) ?_
        refine j_lald F ho7 in0_1 d_LA_law_555 ?_
        refine j_valL (y := (sp_first  σ).2.1.toInt64) (hg6 hc0) ?_
        refine j_iload F d_LA_law_556 rfl ?_
        refine j_i2l F d_LA_law_558 rfl ?_
        refine j_lcmp F d_LA_law_559 ?_
        refine j_val (lg_cmp_self _) ?_
        refine j_if_eq F (tgt := 565) d_LA_law_560 (by decide) (fun hq3 => ?_) (fun hq3 => absurd rfl hq3)
        refine j_goto F (tgt := 705) d_LA_law_565 (by decide) ?_
        refine j_sub [2, 3, 4, 5, 6] rfl ?_
        exact at705 M7 hI7
    by_cases hj7 : j = 7
    · skip
      subst hj7
      refine j_tableIn F (off := 528) (tgt := 568) d_LA_law_40 (by rw [hjt]; decide) (by rw [hjt]; decide) (by rw [hjt]; rfl) (by decide) ?_
      refine j_aload_n F d_LA_law_568 rfl rfl ?_
      refine j_aload_n F d_LA_law_569 rfl rfl ?_
      refine j_iload F d_LA_law_570 rfl ?_
      refine j_iconst F (v := 1) d_LA_law_572 (by decide) ?_
      refine j_iadd F d_LA_law_573 ?_
      refine j_val (y := nI (6 * t + 1)) (nI_add (6 * t) 1) ?_
      refine j_sld F hX hbl hbA (by omega) (by omega) d_LA_law_574 ?_
      refine j_aload_n F d_LA_law_575 rfl rfl ?_
      refine j_callH F 3 (c_LA_current hl Kcurrent A5 hB5 hBo ho5 hzo5 (xs (6 * t + 1))) wl_LA_85 wst_LA_current wi_LA wcw_LA_current (by decide +kernel) (by decide) rfl rfl (Nat.le_of_ble_eq_true rfl) (by show 20 + 3 * t + 3 ≤ 601024; omega) (by show 8000 + 60 * t + 60 ≤ 7293034; omega) d_LA_law_576 (fun E M1 hx => hx.elim) (fun r M6 hp => ?_)
      obtain ⟨rfl, A6, ⟨g6, ho6, hg6⟩, hf6⟩ := hp
      have B6 := mo_keep B5 (fun q hq => hf6 q (Or.inl hq) (fun z => hoo5 (by rw [← z]; exact hq)))
      obtain ⟨_, _, _, _, _, _, S6⟩ := mo_S_of B6
      refine j_istore F (lv1 := [(5, _), (4, _), (3, _), (2, _), (1, _), (0, _)]) d_LA_law_579 (by decide) rfl ?_
      refine j_aload_n F d_LA_law_581 rfl rfl ?_
      refine j_aload_n F d_LA_law_582 rfl rfl ?_
      refine j_iload F d_LA_law_583 rfl ?_
      refine j_iconst F (v := 1) d_LA_law_585 (by decide) ?_
      refine j_iadd F d_LA_law_586 ?_
      refine j_val (y := nI (6 * t + 1)) (nI_add (6 * t) 1) ?_
      refine j_sld F hX hbl hbA (by omega) (by omega) d_LA_law_587 ?_
      refine j_callV F 1 (c_MO_current hl B6 (xs (6 * t + 1))) (so_h S6) rfl wl_LA_87 wim_MO_current wse_MO_current wi_MO wco_MO_current (by decide +kernel) (by decide) rfl rfl (Nat.le_of_ble_eq_true rfl) (by show 20 + 3 * t + 3 + 0 ≤ 601024; omega) (by show 8000 + 60 * t + 60 + 0 ≤ 7293034; omega) d_LA_law_588 (fun E M1 hx => hx.elim) (fun r M7 hp => ?_)
      obtain ⟨rfl, B7⟩ := hp
      obtain ⟨hI7, ho7⟩ := lo_2 hoo5 hzo5 A6 ho6 B7
      obtain ⟨_, _, _, _, _, _, S7⟩ := mo_S_of B7
      refine j_istore F (lv1 := [(6, _), (5, _), (4, _), (3, _), (2, _), (1, _), (0, _)]) d_LA_law_591 (by decide) rfl ?_
      refine j_aload_n F d_LA_law_593 rfl rfl ?_
      refine j_callV F 0 (c_MO_thrown hl S7) (so_h S7) rfl wl_LA_60 wim_MO_thrown wse_MO_thrown wi_MO wco_MO_thrown (by decide +kernel) (by decide) rfl rfl (Nat.le_of_ble_eq_true rfl) (by show 20 + 3 * t + 3 + 0 + 0 ≤ 601024; omega) (by show 8000 + 60 * t + 60 + 0 + 0 ≤ 7293034; omega) d_LA_law_594 (fun E M1 hx => hx.elim) (fun r M8 hp => ?_)
      obtain ⟨rfl, rfl⟩ := hp
      refine j_iload F d_LA_law_597 rfl ?_
      refine j_icmp_eq F (tgt := 604) d_LA_law_599 (by decide) (fun hq => ?_) (fun hq => absurd rfl hq)
      refine j_iload F d_LA_law_604 rfl ?_
      refine j_if_ne F (tgt := 621) d_LA_law_606 (by decide) (fun hq2 => ?_) (fun hq2 => ?_)
      · skip
        refine j_goto F (tgt := 705) d_LA_law_621 (by decide) ?_
        refine j_sub [2, 3, 4, 5, 6] rfl ?_
        exact at705 M7 hI7
      · skip
        have hc0 : (sp_current (xs (6 * t + 1)) σ).1 = 0 := co_current hq2
        refine j_aload_n F d_LA_law_609 rfl rfl ?_
        refine j_iconst F (v := 0) d_LA_law_610 (by decide) ?_
        refine j_lald F ho7 in0_1 d_LA_law_611 ?_
        refine j_valL (y := (sp_current (xs (6 * t + 1)) σ).2.1.toInt64) (hg6 hc0) ?_
        refine j_iload F d_LA_law_612 rfl ?_
        refine j_i2l F d_LA_law_614 rfl ?_
        refine j_lcmp F d_LA_law_615 ?_
        refine j_val (lg_cmp_self _) ?_
        refine j_if_eq F (tgt := 621) d_LA_law_616 (by decide) (fun hq3 => ?_) (fun hq3 => absurd rfl hq3)
        refine j_goto F (tgt := 705) d_LA_law_621 (by decide) ?_
        refine j_sub [2, 3, 4, 5, 6] rfl ?_
        exact at705 M7 hI7
    by_cases hj8 : j = 8
    · skip
      subst hj8
      refine j_tableIn F (off := 584) (tgt := 624) d_LA_law_40 (by rw [hjt]; decide) (by rw [hjt]; decide) (by rw [hjt]; rfl) (by decide) ?_
      refine j_aload_n F d_LA_law_624 rfl rfl ?_
      refine j_aload_n F d_LA_law_625 rfl rfl ?_
      refine j_iload F d_LA_law_626 rfl ?_
      refine j_iconst F (v := 1) d_LA_law_628 (by decide) ?_
      refine j_iadd F d_LA_law_629 ?_
      refine j_val (y := nI (6 * t + 1)) (nI_add (6 * t) 1) ?_
      refine j_sld F hX hbl hbA (by omega) (by omega) d_LA_law_630 ?_
      refine j_aload_n F d_LA_law_631 rfl rfl ?_
      refine j_callH F 3 (c_LA_word hl Kword A5 hB5 hBo ho5 hzo5 (xs (6 * t + 1))) wl_LA_88 wst_LA_word wi_LA wcw_LA_word (by decide +kernel) (by decide) rfl rfl (Nat.le_of_ble_eq_true rfl) (by show 20 + 3 * t + 3 ≤ 601024; omega) (by show 8000 + 60 * t + 60 ≤ 7293034; omega) d_LA_law_632 (fun E M1 hx => hx.elim) (fun r M6 hp => ?_)
      obtain ⟨rfl, A6, ⟨g6, ho6, hg6⟩, hf6⟩ := hp
      have B6 := mo_keep B5 (fun q hq => hf6 q (Or.inl hq) (fun z => hoo5 (by rw [← z]; exact hq)))
      obtain ⟨_, _, _, _, _, _, S6⟩ := mo_S_of B6
      refine j_istore F (lv1 := [(5, _), (4, _), (3, _), (2, _), (1, _), (0, _)]) d_LA_law_635 (by decide) rfl ?_
      refine j_aload_n F d_LA_law_637 rfl rfl ?_
      refine j_aload_n F d_LA_law_638 rfl rfl ?_
      refine j_iload F d_LA_law_639 rfl ?_
      refine j_iconst F (v := 1) d_LA_law_641 (by decide) ?_
      refine j_iadd F d_LA_law_642 ?_
      refine j_val (y := nI (6 * t + 1)) (nI_add (6 * t) 1) ?_
      refine j_sld F hX hbl hbA (by omega) (by omega) d_LA_law_643 ?_
      refine j_callV F 1 (c_MO_word hl B6 (xs (6 * t + 1))) (so_h S6) rfl wl_LA_90 wim_MO_word wse_MO_word wi_MO wco_MO_word (by decide +kernel) (by decide) rfl rfl (Nat.le_of_ble_eq_true rfl) (by show 20 + 3 * t + 3 + 0 ≤ 601024; omega) (by show 8000 + 60 * t + 60 + 0 ≤ 7293034; omega) d_LA_law_644 (fun E M1 hx => hx.elim) (fun r M7 hp => ?_)
      obtain ⟨rfl, B7⟩ := hp
      obtain ⟨hI7, ho7⟩ := lo_2 hoo5 hzo5 A6 ho6 B7
      obtain ⟨_, _, _, _, _, _, S7⟩ := mo_S_of B7
      refine j_lstore F (lv1 := [(6, _), (5, _), (4, _), (3, _), (2, _), (1, _), (0, _)]) d_LA_law_647 (by decide) rfl ?_
      refine j_aload_n F d_LA_law_649 rfl rfl ?_
      refine j_callV F 0 (c_MO_thrown hl S7) (so_h S7) rfl wl_LA_60 wim_MO_thrown wse_MO_thrown wi_MO wco_MO_thrown (by decide +kernel) (by decide) rfl rfl (Nat.le_of_ble_eq_true rfl) (by show 20 + 3 * t + 3 + 0 + 0 ≤ 601024; omega) (by show 8000 + 60 * t + 60 + 0 + 0 ≤ 7293034; omega) d_LA_law_650 (fun E M1 hx => hx.elim) (fun r M8 hp => ?_)
      obtain ⟨rfl, rfl⟩ := hp
      refine j_iload F d_LA_law_653 rfl ?_
      refine j_icmp_eq F (tgt := 660) d_LA_law_655 (by decide) (fun hq => ?_) (fun hq => absurd rfl hq)
      refine j_iload F d_LA_law_660 rfl ?_
      refine j_if_ne F (tgt := 676) d_LA_law_662 (by decide) (fun hq2 => ?_) (fun hq2 => ?_)
      · skip
        refine j_goto F (tgt := 705) d_LA_law_676 (by decide) ?_
        refine j_sub [2, 3, 4, 5, 6] rfl ?_
        exact at705 M7 hI7
      · skip
        have hc0 : (sp_word (xs (6 * t + 1)) σ).1 = 0 := co_word hq2
        refine j_aload_n F d_LA_law_665 rfl rfl ?_
        refine j_iconst F (v := 0) d_LA_law_666 (by decide) ?_
        refine j_lald F ho7 in0_1 d_LA_law_667 ?_
        refine j_valL (y := (sp_word (xs (6 * t + 1)) σ).2.1) (hg6 hc0) ?_
        refine j_lload F d_LA_law_668 rfl ?_
        refine j_lcmp F d_LA_law_670 ?_
        refine j_val (lg_cmp_self _) ?_
        refine j_if_eq F (tgt := 676) d_LA_law_671 (by decide) (fun hq3 => ?_) (fun hq3 => absurd rfl hq3)
        refine j_goto F (tgt := 705) d_LA_law_676 (by decide) ?_
        refine j_sub [2, 3, 4, 5, 6] rfl ?_
        exact at705 M7 hI7
    by_cases hj9 : j = 9
    · skip
      subst hj9
      refine j_tableIn F (off := 639) (tgt := 679) d_LA_law_40 (by rw [hjt]; decide) (by rw [hjt]; decide) (by rw [hjt]; rfl) (by decide) ?_
      refine j_aload_n F d_LA_law_679 rfl rfl ?_
      have A50 := A5
      obtain ⟨_, _, _, _, _, _, hx5, -⟩ := A50
      refine j_callV F 0 (Kclear M5 _ x σ A5 hB5) hx5 rfl wl_LA_91 wim_MT_clear wse_MT_clear wi_MT wco_MT_clear (by decide +kernel) (by decide) rfl rfl (Nat.le_of_ble_eq_true rfl) (by show 20 + 3 * t + 3 ≤ 601024; omega) (by show 8000 + 60 * t + 60 ≤ 7293034; omega) d_LA_law_680 (fun E M1 hx => hx.elim) (fun r M6 hp => ?_)
      obtain ⟨-, rfl, A6, hf6⟩ := hp
      have B6 := mo_keep B5 (fun q hq => hf6 q (Or.inl hq))
      have ho6 := (hf6 oo hBo).trans ho5
      obtain ⟨_, _, _, _, _, _, S6⟩ := mo_S_of B6
      refine j_aload_n F d_LA_law_683 rfl rfl ?_
      refine j_callV F 0 (c_MO_clear hl B6) (so_h S6) rfl wl_LA_94 wim_MO_clear wse_MO_clear wi_MO wco_MO_clear (by decide +kernel) (by decide) rfl rfl (Nat.le_of_ble_eq_true rfl) (by show 20 + 3 * t + 3 + 0 ≤ 601024; omega) (by show 8000 + 60 * t + 60 + 0 ≤ 7293034; omega) d_LA_law_684 (fun E M1 hx => hx.elim) (fun r M7 hp => ?_)
      obtain ⟨rfl, B7⟩ := hp
      obtain ⟨hI7, -⟩ := lo_2 hoo5 hzo5 A6 ho6 B7
      refine j_icmp_eq F (tgt := 705) d_LA_law_687 (by decide) (fun hq => ?_) (fun hq => absurd rfl hq)
      exact at705 M7 hI7
    by_cases hj10 : j = 10
    · skip
      subst hj10
      refine j_tableIn F (off := 652) (tgt := 692) d_LA_law_40 (by rw [hjt]; decide) (by rw [hjt]; decide) (by rw [hjt]; rfl) (by decide) ?_
      refine j_aload_n F d_LA_law_692 rfl rfl ?_
      have A50 := A5
      obtain ⟨_, _, _, _, _, _, hx5, -⟩ := A50
      refine j_callV F 0 (Kcount M5 _ x σ A5 hB5) hx5 rfl wl_LA_95 wim_MT_count wse_MT_count wi_MT wco_MT_count (by decide +kernel) (by decide) rfl rfl (Nat.le_of_ble_eq_true rfl) (by show 20 + 3 * t + 3 ≤ 601024; omega) (by show 8000 + 60 * t + 60 ≤ 7293034; omega) d_LA_law_693 (fun E M1 hx => hx.elim) (fun r M6 hp => ?_)
      obtain ⟨-, rfl, A6, hf6⟩ := hp
      have B6 := mo_keep B5 (fun q hq => hf6 q (Or.inl hq))
      have ho6 := (hf6 oo hBo).trans ho5
      obtain ⟨ok6, tf, kf, lf, mf, pf, sf, ⟨S6, -⟩, R6⟩ := B6
      refine j_aload_n F d_LA_law_696 rfl rfl ?_
      refine j_callV F 0 (c_MO_count hl S6) (so_h S6) rfl wl_LA_98 wim_MO_count wse_MO_count wi_MO wco_MO_count (by decide +kernel) (by decide) rfl rfl (Nat.le_of_ble_eq_true rfl) (by show 20 + 3 * t + 3 + 0 ≤ 601024; omega) (by show 8000 + 60 * t + 60 + 0 ≤ 7293034; omega) d_LA_law_697 (fun E M1 hx => hx.elim) (fun r M7 hp => ?_)
      obtain ⟨rfl, W7⟩ := hp
      obtain ⟨hI7, -⟩ := lo_2 (σ1 := σ) (fa1 := 0) hoo5 hzo5 A6 ho6 ⟨ok6, tf, kf, lf, mf, pf, sf, W7, R6⟩
      refine j_icmp_eq F (tgt := 705) d_LA_law_700 (by decide) (fun hq => ?_) (fun hq => absurd rfl hq)
      exact at705 M7 hI7
    refine j_tableOut F (tgt := 705) d_LA_law_40 (Or.inr (by rw [hjt]; omega)) (by decide) ?_
    refine j_widen (k1 := 20 + 3 * t + 3) (n1 := 8000 + 60 * t + 60) (by omega) (by omega) ?_
    exact at705 M5 ⟨hoo5, hzo5, σ, fa, g, A5, B5, ho5⟩
