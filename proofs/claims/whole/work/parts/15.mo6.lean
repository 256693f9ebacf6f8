theorem ins_lt {es : List en_T} {v i : Nat} {x : en_T} (hv : v ≤ es.length) (hi : i < v) : (pu_ins es v x)[i]? = es[i]? := by
  unfold pu_ins
  rw [List.getElem?_append_left (by rw [List.length_take]; omega), List.getElem?_take, if_pos hi]
theorem ins_eq {es : List en_T} {v : Nat} {x : en_T} (hv : v ≤ es.length) : (pu_ins es v x)[v]? = some x := by
  unfold pu_ins
  rw [List.getElem?_append_right (by rw [List.length_take]; omega), List.length_take, Nat.min_eq_left hv, Nat.sub_self]
  rfl
theorem ins_gt {es : List en_T} {v i : Nat} {x : en_T} (hv : v ≤ es.length) (hi : v < i) : (pu_ins es v x)[i]? = es[i - 1]? := by
  unfold pu_ins
  rw [List.getElem?_append_right (by rw [List.length_take]; omega), List.length_take, Nat.min_eq_left hv]
  obtain ⟨d, rfl⟩ : ∃ d, i = v + 1 + d := ⟨i - v - 1, by omega⟩
  rw [show v + 1 + d - v = d + 1 by omega, List.getElem?_cons_succ, List.getElem?_drop]
  congr 1
  omega
theorem ins_len {es : List en_T} {v : Nat} {x : en_T} (hv : v ≤ es.length) : (pu_ins es v x).length = es.length + 1 := by
  unfold pu_ins
  rw [List.length_append, List.length_cons, List.length_take, List.length_drop]
  omega
theorem ins_mem {es : List en_T} {v : Nat} {x e : en_T} (h : e ∈ pu_ins es v x) : e = x ∨ e ∈ es := by
  unfold pu_ins at h
  rcases List.mem_append.mp h with z | z
  · exact Or.inr (List.mem_of_mem_take z)
  · rcases List.mem_cons.mp z with z | z
    · exact Or.inl z
    · exact Or.inr (List.mem_of_mem_drop z)
theorem set_len (es : List en_T) (v : Nat) (p z : Int32) : (pu_set es v p z).length = es.length := List.length_modify _ _ _
theorem set_at {es : List en_T} {v i : Nat} {p z : Int32} : (pu_set es v p z)[i]? = if v = i then (es[i]?).map (fun e => (e.1, e.2.1, p, z)) else es[i]? := by
  unfold pu_set
  rw [List.getElem?_modify]
  by_cases h : v = i
  · simp [h]
  · simp [h]
theorem set_mem {es : List en_T} {v : Nat} {p z : Int32} {e : en_T} (h : e ∈ pu_set es v p z) : ∃ e0 ∈ es, e.1 = e0.1 ∧ e.2.1 = e0.2.1 := by
  obtain ⟨i, hi⟩ := List.getElem?_of_mem h
  rw [set_at] at hi
  split at hi
  · cases he : es[i]? with
    | none => rw [he] at hi; cases hi
    | some e0 =>
      rw [he] at hi
      cases hi
      exact ⟨e0, List.mem_of_getElem? he, rfl, rfl⟩
  · exact ⟨e, List.mem_of_getElem? hi, rfl, rfl⟩
/-- places and sizes of one row are written -/
theorem mo_R_set {es : List en_T} {lf kf mf pf sf : Nat → Int32} (v : Nat) (p z : Int32) (h : mo_R es lf kf mf pf sf) : mo_R (pu_set es v p z) lf kf mf (upd pf v p) (upd sf v z) := by
  refine ⟨by rw [set_len]; exact h.1, fun i e he => ?_⟩
  rw [set_at] at he
  split at he
  · rename_i hvi
    subst hvi
    cases h0 : es[v]? with
    | none => rw [h0] at he; cases he
    | some e0 =>
      rw [h0] at he
      cases he
      obtain ⟨⟨q1, q2, q3, q4, q5⟩, q6⟩ := h.2 v e0 h0
      exact ⟨⟨q1, q2, q3, pk_us, pk_us⟩, q6⟩
  · rename_i hvi
    obtain ⟨⟨q1, q2, q3, q4, q5⟩, q6⟩ := h.2 i e he
    exact ⟨⟨q1, q2, q3, by rw [pk_un (Ne.symm hvi)]; exact q4, by rw [pk_un (Ne.symm hvi)]; exact q5⟩, q6⟩
/-- a row is put in between -/
theorem mo_R_ins {es : List en_T} {lf kf mf pf sf lf1 kf1 mf1 pf1 sf1 kf2 : Nat → Int32} {v : Nat} {x : en_T} (h : mo_R es lf kf mf pf sf) (hv : v ≤ es.length) (hl : es.length < 160) (hx1 : 1 ≤ x.1.length) (hx2 : x.1.length ≤ 40)
    (hup : ∀ i, v < i → i ≤ es.length → rw_Q i (i - 1) lf kf mf pf sf lf1 kf1 mf1 pf1 sf1) (hlo : ∀ i, i ≤ v → rw_Q i i lf kf mf pf sf lf1 kf1 mf1 pf1 sf1) (hk1 : ∀ c, c < x.1.length → kf2 (40 * v + c) = x.1.getD c 0) (hk2 : ∀ q, (q < 40 * v ∨ 40 * v + x.1.length ≤ q) → kf2 q = kf1 q) :
    mo_R (pu_ins es v x) (upd lf1 v (nI x.1.length)) kf2 (upd mf1 v x.2.1) (upd pf1 v x.2.2.1) (upd sf1 v x.2.2.2) := by
  refine ⟨by rw [ins_len hv]; omega, fun i e he => ?_⟩
  rcases Nat.lt_trichotomy i v with hi | hi | hi
  · rw [ins_lt hv hi] at he
    obtain ⟨⟨q1, q2, q3, q4, q5⟩, q6⟩ := h.2 i e he
    obtain ⟨r1, r2, r3, r4, r5⟩ := hlo i (by omega)
    have hne : i ≠ v := by omega
    exact ⟨⟨by rw [pk_un hne, r1]; exact q1, fun j hj => by rw [hk2 _ (by omega), r5 j (by omega)]; exact q2 j hj, by rw [pk_un hne, r2]; exact q3, by rw [pk_un hne, r3]; exact q4, by rw [pk_un hne, r4]; exact q5⟩, q6⟩
  · subst hi
    rw [ins_eq hv] at he
    cases he
    exact ⟨⟨pk_us, hk1, pk_us, pk_us, pk_us⟩, hx1, hx2⟩
  · rw [ins_gt hv hi] at he
    obtain ⟨⟨q1, q2, q3, q4, q5⟩, q6⟩ := h.2 (i - 1) e he
    have hil : i - 1 < es.length := (List.getElem?_eq_some_iff.mp he).1
    obtain ⟨r1, r2, r3, r4, r5⟩ := hup i hi (by omega)
    have hne : i ≠ v := by omega
    exact ⟨⟨by rw [pk_un hne, r1]; exact q1, fun j hj => by rw [hk2 _ (by omega), r5 j (by omega)]; exact q2 j hj, by rw [pk_un hne, r2]; exact q3, by rw [pk_un hne, r3]; exact q4, by rw [pk_un hne, r4]; exact q5⟩, q6⟩
theorem pu_badE (m p z : Int32) (σ : sg_T) : pu_bad m p z σ = true ↔ (m < 0 ∨ p < -1 ∨ z < 0 ∨ 1000 < z ∨ σ.1.length < 1 ∨ 40 < σ.1.length) := by
  unfold pu_bad
  simp only [Bool.or_eq_true, decide_eq_true_eq]
  constructor
  · rintro (((((h | h) | h) | h) | h) | h)
    · exact Or.inl h
    · exact Or.inr (Or.inl h)
    · exact Or.inr (Or.inr (Or.inl h))
    · exact Or.inr (Or.inr (Or.inr (Or.inl h)))
    · exact Or.inr (Or.inr (Or.inr (Or.inr (Or.inl h))))
    · exact Or.inr (Or.inr (Or.inr (Or.inr (Or.inr h))))
  · rintro (h | h | h | h | h | h)
    · exact Or.inl (Or.inl (Or.inl (Or.inl (Or.inl h))))
    · exact Or.inl (Or.inl (Or.inl (Or.inl (Or.inr h))))
    · exact Or.inl (Or.inl (Or.inl (Or.inr h)))
    · exact Or.inl (Or.inl (Or.inr h))
    · exact Or.inl (Or.inr h)
    · exact Or.inr h
/-- what is current behind a put -/
theorem pu_cl {v n : Nat} {c : Option Nat} (h : ∀ i, c = some i → i < n) : ∀ i, pu_cur v c = some i → i < n + 1 := by
  intro i hi
  cases c with
  | none => cases hi
  | some j =>
    have hj := h j rfl
    simp only [pu_cur, Option.map_some, Option.some.injEq] at hi
    split at hi <;> omega
section MO6
variable {es : List en_T} {σ : sg_T} {l : Launch} {G : gv_T} {M M0 : mp_T} {h ta ke le mo pl si : Nat} {fa tl sz ap : Int32} {tf kf lf mf pf sf : Nat → Int32}
set_option maxHeartbeats 4000000 in
set_option maxRecDepth 100000 in
theorem c_MO_put (hl : l.stackTraces = false) (A : mo_A G M M h ta ke le mo pl si fa σ) (mm pp zz : Int32) : ct_C l G y_MO_put b_MO_put 8 (some .int) { frames := 2, cells := 0, slots := 0, locals := 48 } [.ref h, .int mm, .int pp, .int zz] M (fun r M1 => r = some (.int (sp_put mm pp zz σ).2.1) ∧ mo_A G M M1 h ta ke le mo pl si (nI (sp_put mm pp zz σ).1) (sp_put mm pp zz σ).2.2) (fun _ _ => False) := by
  refine ct_of hl (by decide +kernel) (Nat.le_of_ble_eq_true rfl) ?_
  intro p e s m args below meth c F hr hnm
  obtain ⟨hok, tf, kf, lf, mf, pf, sf, ⟨S, -⟩, hT, hbt, hbk, hR⟩ := A
  obtain ⟨ok1, ok2, ok3, ok4, ok5⟩ := hok
  refine j_aload_n F d_MO_put_0 rfl rfl ?_
  refine j_iconst F (v := 0) d_MO_put_1 (by decide) ?_
  refine j_put F (so_h S) (sz_h S) rfl in_MO ty_MO ok_MO nm_MO 0 (by decide) wf_MO_33 rfl (ty := .int) (by decide +kernel) rfl rfl (Nat.le_of_ble_eq_true rfl) d_MO_put_2 ?_
  refine j_nmW (P := fun M1 => mo_W G M M1 h ta ke le mo pl si 0 (nI σ.1.length) (nI σ.2.1.length) (cu_I σ.2.2) tf kf lf mf pf sf) (mw_fa (mo_rf S) 0) (fun M1 S1 => ?_)
  refine j_aload_n F d_MO_put_5 rfl rfl ?_
  refine j_get F (so_h S1.1) rfl in_MO 2 (by decide) wf_MO_36 rfl d_MO_put_6 ?_
  refine j_iconst F (v := 1) d_MO_put_9 (by decide) ?_
  refine j_icmp_lt F (tgt := 42) d_MO_put_10 (by decide) (fun h1 => ?_) (fun h1 => ?_)
  · skip
    have e0 : sp_put mm pp zz σ = (1, 0, σ) := if_pos ((pu_badE _ _ _ _).mpr (Or.inr (Or.inr (Or.inr (Or.inr (Or.inl ((nI_ltI (b := 1) (by omega) (by decide)).mp h1)))))))
    rw [e0]
    refine j_aload_n F d_MO_put_42 rfl rfl ?_
    refine j_iconst F (v := 1) d_MO_put_43 (by decide) ?_
    refine j_callV F 1 (c_MO_fail hl S1.1 1) (so_h S1.1) rfl wl_MO_39 wim_MO_fail wse_MO_fail wi_MO wco_MO_fail (by decide +kernel) (by decide) rfl rfl (Nat.le_of_ble_eq_true rfl) (by decide) (by decide) d_MO_put_44 (fun E M1 hx => hx.elim) (fun r M1 hp => ?_)
    obtain ⟨rfl, W1⟩ := hp
    exact j_iret F hr (Nat.le_refl _) (Nat.le_refl _) ⟨rfl, ⟨ok1, ok2, ok3, ok4, ok5⟩, tf, kf, lf, mf, pf, sf, mw_tr S1 W1, hT, hbt, hbk, hR⟩ d_MO_put_47
  · skip
    refine j_aload_n F d_MO_put_13 rfl rfl ?_
    refine j_get F (so_h S1.1) rfl in_MO 2 (by decide) wf_MO_36 rfl d_MO_put_14 ?_
    refine j_bipush F (v := 40) d_MO_put_17 (by decide) ?_
    refine j_icmp_gt F (tgt := 42) d_MO_put_19 (by decide) (fun h2 => ?_) (fun h2 => ?_)
    · skip
      have e0 : sp_put mm pp zz σ = (1, 0, σ) := if_pos ((pu_badE _ _ _ _).mpr (Or.inr (Or.inr (Or.inr (Or.inr (Or.inr ((nI_ltI (a := 40) (by decide) (by omega)).mp h2)))))))
      rw [e0]
      refine j_aload_n F d_MO_put_42 rfl rfl ?_
      refine j_iconst F (v := 1) d_MO_put_43 (by decide) ?_
      refine j_callV F 1 (c_MO_fail hl S1.1 1) (so_h S1.1) rfl wl_MO_39 wim_MO_fail wse_MO_fail wi_MO wco_MO_fail (by decide +kernel) (by decide) rfl rfl (Nat.le_of_ble_eq_true rfl) (by decide) (by decide) d_MO_put_44 (fun E M1 hx => hx.elim) (fun r M1 hp => ?_)
      obtain ⟨rfl, W1⟩ := hp
      exact j_iret F hr (Nat.le_refl _) (Nat.le_refl _) ⟨rfl, ⟨ok1, ok2, ok3, ok4, ok5⟩, tf, kf, lf, mf, pf, sf, mw_tr S1 W1, hT, hbt, hbk, hR⟩ d_MO_put_47
    · skip
      refine j_iload_n F d_MO_put_22 rfl rfl ?_
      refine j_if_lt F (tgt := 42) d_MO_put_23 (by decide) (fun h3 => ?_) (fun h3 => ?_)
      · skip
        have e0 : sp_put mm pp zz σ = (1, 0, σ) := if_pos ((pu_badE _ _ _ _).mpr (Or.inl (h3)))
        rw [e0]
        refine j_aload_n F d_MO_put_42 rfl rfl ?_
        refine j_iconst F (v := 1) d_MO_put_43 (by decide) ?_
        refine j_callV F 1 (c_MO_fail hl S1.1 1) (so_h S1.1) rfl wl_MO_39 wim_MO_fail wse_MO_fail wi_MO wco_MO_fail (by decide +kernel) (by decide) rfl rfl (Nat.le_of_ble_eq_true rfl) (by decide) (by decide) d_MO_put_44 (fun E M1 hx => hx.elim) (fun r M1 hp => ?_)
        obtain ⟨rfl, W1⟩ := hp
        exact j_iret F hr (Nat.le_refl _) (Nat.le_refl _) ⟨rfl, ⟨ok1, ok2, ok3, ok4, ok5⟩, tf, kf, lf, mf, pf, sf, mw_tr S1 W1, hT, hbt, hbk, hR⟩ d_MO_put_47
      · skip
        refine j_iload_n F d_MO_put_26 rfl rfl ?_
        refine j_iconst F (v := -1) d_MO_put_27 (by decide) ?_
        refine j_icmp_lt F (tgt := 42) d_MO_put_28 (by decide) (fun h4 => ?_) (fun h4 => ?_)
        · skip
          have e0 : sp_put mm pp zz σ = (1, 0, σ) := if_pos ((pu_badE _ _ _ _).mpr (Or.inr (Or.inl (h4))))
          rw [e0]
          refine j_aload_n F d_MO_put_42 rfl rfl ?_
          refine j_iconst F (v := 1) d_MO_put_43 (by decide) ?_
          refine j_callV F 1 (c_MO_fail hl S1.1 1) (so_h S1.1) rfl wl_MO_39 wim_MO_fail wse_MO_fail wi_MO wco_MO_fail (by decide +kernel) (by decide) rfl rfl (Nat.le_of_ble_eq_true rfl) (by decide) (by decide) d_MO_put_44 (fun E M1 hx => hx.elim) (fun r M1 hp => ?_)
          obtain ⟨rfl, W1⟩ := hp
          exact j_iret F hr (Nat.le_refl _) (Nat.le_refl _) ⟨rfl, ⟨ok1, ok2, ok3, ok4, ok5⟩, tf, kf, lf, mf, pf, sf, mw_tr S1 W1, hT, hbt, hbk, hR⟩ d_MO_put_47
        · skip
          refine j_iload_n F d_MO_put_31 rfl rfl ?_
          refine j_if_lt F (tgt := 42) d_MO_put_32 (by decide) (fun h5 => ?_) (fun h5 => ?_)
          · skip
            have e0 : sp_put mm pp zz σ = (1, 0, σ) := if_pos ((pu_badE _ _ _ _).mpr (Or.inr (Or.inr (Or.inl (h5)))))
            rw [e0]
            refine j_aload_n F d_MO_put_42 rfl rfl ?_
            refine j_iconst F (v := 1) d_MO_put_43 (by decide) ?_
            refine j_callV F 1 (c_MO_fail hl S1.1 1) (so_h S1.1) rfl wl_MO_39 wim_MO_fail wse_MO_fail wi_MO wco_MO_fail (by decide +kernel) (by decide) rfl rfl (Nat.le_of_ble_eq_true rfl) (by decide) (by decide) d_MO_put_44 (fun E M1 hx => hx.elim) (fun r M1 hp => ?_)
            obtain ⟨rfl, W1⟩ := hp
            exact j_iret F hr (Nat.le_refl _) (Nat.le_refl _) ⟨rfl, ⟨ok1, ok2, ok3, ok4, ok5⟩, tf, kf, lf, mf, pf, sf, mw_tr S1 W1, hT, hbt, hbk, hR⟩ d_MO_put_47
          · skip
            refine j_iload_n F d_MO_put_35 rfl rfl ?_
            refine j_sipush F (v := 1000) d_MO_put_36 (by decide) ?_
            refine j_icmp_le F (tgt := 48) d_MO_put_39 (by decide) (fun h6 => ?_) (fun h6 => ?_)
            · skip
              have hk1 : 1 ≤ σ.1.length := Nat.not_lt.mp (fun z => h1 ((nI_ltI (b := 1) (by omega) (by decide)).mpr z))
              have hk2 : σ.1.length ≤ 40 := Nat.not_lt.mp (fun z => h2 ((nI_ltI (a := 40) (by decide) (by omega)).mpr z))
              have hnb : ¬ pu_bad mm pp zz σ = true := fun z => by
                rcases (pu_badE _ _ _ _).mp z with z | z | z | z | z | z
                · exact h3 z
                · exact h4 z
                · exact h5 z
                · exact absurd h6 (Int32.not_le.mpr z)
                · omega
                · omega
              have hfl := fi_le σ.2.1 σ.1 mm
              obtain ⟨v, hv⟩ : ∃ v, v = fi σ.2.1 σ.1 mm := ⟨_, rfl⟩
              rw [← hv] at hfl
              refine j_aload_n F d_MO_put_48 rfl rfl ?_
              refine j_get F (so_h S1.1) rfl in_MO 2 (by decide) wf_MO_36 rfl d_MO_put_49 ?_
              refine j_istore F (lv1 := [(4, _), (0, _), (1, _), (2, _), (3, _)]) d_MO_put_52 (by decide) rfl ?_
              refine j_aload_n F d_MO_put_54 rfl rfl ?_
              refine j_iconst F (v := 0) d_MO_put_55 (by decide) ?_
              refine j_put F (so_h S1.1) (sz_h S1.1) rfl in_MO ty_MO ok_MO nm_MO 2 (by decide) wf_MO_36 rfl (ty := .int) (by decide +kernel) rfl rfl (Nat.le_of_ble_eq_true rfl) d_MO_put_56 ?_
              refine j_nmW (P := fun M1 => mo_W G M M1 h ta ke le mo pl si 0 0 (nI σ.2.1.length) (cu_I σ.2.2) tf kf lf mf pf sf) (mw_tl S1 0) (fun M2 S2 => ?_)
              refine j_aload_n F d_MO_put_59 rfl rfl ?_
              refine j_iload F d_MO_put_60 rfl ?_
              refine j_iload_n F d_MO_put_62 rfl rfl ?_
              refine j_callV F 2 (c_MO_before hl S2.1 hR hT (by omega) (mm := mm)) (so_h S2.1) rfl wl_MO_50 wim_MO_before wse_MO_before wi_MO wco_MO_before (by decide +kernel) (by decide) rfl rfl (Nat.le_of_ble_eq_true rfl) (by decide) (by decide) d_MO_put_63 (fun E M1 hx => hx.elim) (fun r M1 hp => ?_)
              obtain ⟨rfl, rfl⟩ := hp
              rw [← hv]
              refine j_istore F (lv1 := [(5, _), (4, _), (0, _), (1, _), (2, _), (3, _)]) d_MO_put_66 (by decide) rfl ?_
              refine j_cut (α := Unit) (fun _ => True) (fun _ => M2) (fun _ => 0) (fun _ => 0) (fun _ => [(5, .int (nI v)), (4, .int (nI σ.1.length)), (0, .ref h), (1, .int mm), (2, .int pp), (3, .int zz)]) 94 (fun _ => [.int (if hit σ.2.1 σ.1 mm then 1 else 0)]) ?_ (fun at94 => ?_)
              · skip
                intro _ _
                refine j_cut (α := mp_T × Int32 × Int32 × List en_T × Option Nat × (Nat → Int32) × (Nat → Int32) × (Nat → Int32) × (Nat → Int32) × (Nat → Int32)) (fun x => v < 161 ∧ mo_W G M x.1 h ta ke le mo pl si 0 0 (nI x.2.2.2.1.length) (cu_I x.2.2.2.2.1) tf x.2.2.2.2.2.1 x.2.2.2.2.2.2.1 x.2.2.2.2.2.2.2.1 x.2.2.2.2.2.2.2.2.1 x.2.2.2.2.2.2.2.2.2 ∧ by_Q x.2.2.2.2.2.1 ∧ (∀ e ∈ x.2.2.2.1, 1 ≤ e.1.length ∧ e.1.length ≤ 40) ∧ (∀ i, x.2.2.2.2.1 = some i → i < x.2.2.2.1.length) ∧ mo_R x.2.2.2.1 x.2.2.2.2.2.2.1 x.2.2.2.2.2.1 x.2.2.2.2.2.2.2.1 (upd x.2.2.2.2.2.2.2.2.1 v pp) (upd x.2.2.2.2.2.2.2.2.2 v zz) ∧ sp_put mm pp zz σ = (0, nI x.2.2.2.1.length, ([], x.2.2.2.1, x.2.2.2.2.1))) (fun x => x.1) (fun _ => 0) (fun _ => 0) (fun x => [(6, .int x.2.1), (5, .int (nI v)), (4, .int (nI σ.1.length)), (0, .ref h), (1, .int mm), (2, .int pp), (3, .int zz)]) 210 (fun _ => []) ?_ (fun at210 => ?_)
                · skip
                  intro x hx
                  obtain ⟨Mx, hi, dum, es1, c1, kf3, lf3, mf3, pf3, sf3⟩ := x
                  obtain ⟨hv1, S3, hb3, hk3, hc3, hR3, e0⟩ := hx
                  dsimp only at S3 hb3 hk3 hc3 hR3 e0 ⊢
                  rw [e0]
                  refine j_aload_n F d_MO_put_210 rfl rfl ?_
                  refine j_get F (so_h S3.1) rfl in_MO 6 (by decide) wf_MO_23 rfl d_MO_put_211 ?_
                  refine j_iload F d_MO_put_214 rfl ?_
                  refine j_iload_n F d_MO_put_216 rfl rfl ?_
                  refine j_iastN F (so_pl S3.1) (sz_pl S3.1) (by omega) (by decide) d_MO_put_217 ?_
                  refine j_nmW (P := fun M1 => mo_W G M M1 h ta ke le mo pl si 0 0 (nI es1.length) (cu_I c1) tf kf3 lf3 mf3 (upd pf3 v pp) sf3) (mw_pf S3 _) (fun M4 S4 => ?_)
                  refine j_aload_n F d_MO_put_218 rfl rfl ?_
                  refine j_get F (so_h S4.1) rfl in_MO 7 (by decide) wf_MO_26 rfl d_MO_put_219 ?_
                  refine j_iload F d_MO_put_222 rfl ?_
                  refine j_iload_n F d_MO_put_224 rfl rfl ?_
                  refine j_iastN F (so_si S4.1) (sz_si S4.1) (by omega) (by decide) d_MO_put_225 ?_
                  refine j_nmW (P := fun M1 => mo_W G M M1 h ta ke le mo pl si 0 0 (nI es1.length) (cu_I c1) tf kf3 lf3 mf3 (upd pf3 v pp) (upd sf3 v zz)) (mw_sf S4 _) (fun M5 S5 => ?_)
                  refine j_aload_n F d_MO_put_226 rfl rfl ?_
                  refine j_get F (so_h S5.1) rfl in_MO 8 (by decide) wf_MO_43 rfl d_MO_put_227 ?_
                  exact j_iret F hr (Nat.le_refl _) (Nat.le_refl _) ⟨rfl, ⟨Nat.zero_le _, fun _ h => (by cases h), hR3.1, hk3, hc3⟩, tf, kf3, lf3, mf3, _, _, S5, tp_nil _, hbt, hb3, hR3⟩ d_MO_put_230
                refine j_istore F (lv1 := [(6, _), (5, _), (4, _), (0, _), (1, _), (2, _), (3, _)]) d_MO_put_94 (by decide) rfl ?_
                refine j_iload F d_MO_put_96 rfl ?_
                refine j_if_ne F (tgt := 117) d_MO_put_98 (by decide) (fun hi1 => ?_) (fun hi1 => ?_)
                · skip
                  have hh : hit σ.2.1 σ.1 mm = true := by
                    cases hq : hit σ.2.1 σ.1 mm with
                    | true => rfl
                    | false => rw [hq] at hi1; exact absurd rfl hi1
                  have hvl : v < σ.2.1.length := by rw [hv]; exact hit_le hh
                  refine j_iload F d_MO_put_117 rfl ?_
                  refine j_if_ne F (tgt := 210) d_MO_put_119 (by decide) (fun hi2 => ?_) (fun hi2 => absurd hi2 hi1)
                  exact at210 (M2, _, 0, pu_set σ.2.1 v pp zz, σ.2.2, kf, lf, mf, pf, sf) ⟨by omega, by dsimp only; rw [set_len]; exact S2, hbk, fun e he => by
                      obtain ⟨e0, h0, h1, -⟩ := set_mem he
                      rw [h1]
                      exact ok4 e0 h0, fun i hi => by rw [set_len]; exact ok5 i hi, mo_R_set v pp zz hR, by
                      dsimp only
                      unfold sp_put
                      rw [if_neg hnb, if_pos hh, set_len, hv]⟩
                · skip
                  have hh : ¬ hit σ.2.1 σ.1 mm = true := fun z => by
                    rw [z] at hi1
                    exact absurd hi1 (by decide)
                  refine j_aload_n F d_MO_put_101 rfl rfl ?_
                  refine j_get F (so_h S2.1) rfl in_MO 8 (by decide) wf_MO_43 rfl d_MO_put_102 ?_
                  refine j_sipush F (v := 160) d_MO_put_105 (by decide) ?_
                  refine j_icmp_ne F (tgt := 117) d_MO_put_108 (by decide) (fun h160 => ?_) (fun h160 => ?_)
                  · skip
                    have hlen : σ.2.1.length < 160 := by
                      have : σ.2.1.length ≠ 160 := fun z => h160 (by rw [z]; rfl)
                      omega
                    have e0 : sp_put mm pp zz σ = (0, nI (σ.2.1.length + 1), ([], pu_ins σ.2.1 v (σ.1, mm, pp, zz), pu_cur v σ.2.2)) := by
                      unfold sp_put
                      rw [if_neg hnb, if_neg hh, if_neg (by omega), hv]
                    refine j_iload F d_MO_put_117 rfl ?_
                    refine j_if_ne F (tgt := 210) d_MO_put_119 (by decide) (fun hi2 => absurd hi1 hi2) (fun hi2 => ?_)
                    refine j_aload_n F d_MO_put_122 rfl rfl ?_
                    refine j_iload F d_MO_put_123 rfl ?_
                    refine j_callV F 1 (c_MO_moveUp hl S2.1 hbk (by omega) hfl) (so_h S2.1) rfl wl_MO_54 wim_MO_moveUp wse_MO_moveUp wi_MO wco_MO_moveUp (by decide +kernel) (by decide) rfl rfl (Nat.le_of_ble_eq_true rfl) (by decide) (by decide) d_MO_put_125 (fun E M1 hx => hx.elim) (fun r M1 hp => ?_)
                    obtain ⟨rfl, kf1, lf1, mf1, pf1, sf1, W3, hb3, hup, hlo⟩ := hp
                    have S3 := mw_tr S2 W3
                    refine j_aload_n F d_MO_put_128 rfl rfl ?_
                    refine j_dup F d_MO_put_129 rfl ?_
                    refine j_get F (so_h S3.1) rfl in_MO 8 (by decide) wf_MO_43 rfl d_MO_put_130 ?_
                    refine j_iconst F (v := 1) d_MO_put_133 (by decide) ?_
                    refine j_iadd F d_MO_put_134 ?_
                    refine j_val (y := nI (σ.2.1.length + 1)) (nI_1 _) ?_
                    refine j_put F (so_h S3.1) (sz_h S3.1) rfl in_MO ty_MO ok_MO nm_MO 8 (by decide) wf_MO_43 rfl (ty := .int) (by decide +kernel) rfl rfl (Nat.le_of_ble_eq_true rfl) d_MO_put_135 ?_
                    refine j_nmW (P := fun M1 => mo_W G M M1 h ta ke le mo pl si 0 0 (nI (σ.2.1.length + 1)) (cu_I σ.2.2) tf kf1 lf1 mf1 pf1 sf1) (mw_sz S3 _) (fun M4 S4 => ?_)
                    refine j_cut (α := mp_T) (fun x => mo_W G M x h ta ke le mo pl si 0 0 (nI (σ.2.1.length + 1)) (cu_I (pu_cur v σ.2.2)) tf kf1 lf1 mf1 pf1 sf1) (fun x => x) (fun _ => 0) (fun _ => 0) (fun _ => [(6, .int (if hit σ.2.1 σ.1 mm then 1 else 0)), (5, .int (nI v)), (4, .int (nI σ.1.length)), (0, .ref h), (1, .int mm), (2, .int pp), (3, .int zz)]) 157 (fun _ => []) ?_ (fun at157 => ?_)
                    · skip
                      intro M5 S5
                      refine j_iconst F (v := 0) d_MO_put_157 (by decide) ?_
                      refine j_istore F (lv1 := [(7, _), (6, _), (5, _), (4, _), (0, _), (1, _), (2, _), (3, _)]) d_MO_put_158 (by decide) rfl ?_
                      refine j_lv (lv1 := [(7, .int (nI 0)), (6, .int (if hit σ.2.1 σ.1 mm then 1 else 0)), (5, .int (nI v)), (4, .int (nI σ.1.length)), (0, .ref h), (1, .int mm), (2, .int pp), (3, .int zz)]) rfl ?_
                      refine j_ind (α := Nat × mp_T) (fun y => σ.1.length - y.1) (fun y => y.2) (fun _ => 0) (fun _ => 0) (fun y => [(7, .int (nI y.1)), (6, .int (if hit σ.2.1 σ.1 mm then 1 else 0)), (5, .int (nI v)), (4, .int (nI σ.1.length)), (0, .ref h), (1, .int mm), (2, .int pp), (3, .int zz)]) (fun _ => []) (fun y => y.1 ≤ σ.1.length ∧ ∃ kf2 : Nat → Int32, mo_W G M y.2 h ta ke le mo pl si 0 0 (nI (σ.2.1.length + 1)) (cu_I (pu_cur v σ.2.2)) tf kf2 lf1 mf1 pf1 sf1 ∧ by_Q kf2 ∧ (∀ c, c < y.1 → kf2 (40 * v + c) = σ.1.getD c 0) ∧ ∀ q, (q < 40 * v ∨ 40 * v + y.1 ≤ q) → kf2 q = kf1 q) ?_ (0, M5) ⟨Nat.zero_le _, kf1, S5, hb3, fun c h1 => absurd h1 (Nat.not_lt_zero _), fun q _ => rfl⟩
                      intro y hy ih
                      obtain ⟨j, My⟩ := y
                      obtain ⟨hj, kf2, S6, hb6, hq1, hq2⟩ := hy
                      dsimp only at hj S6 hq1 hq2 ⊢
                      refine j_iload F d_MO_put_160 rfl ?_
                      refine j_iload F d_MO_put_162 rfl ?_
                      refine j_icmp_ge F (tgt := 193) d_MO_put_164 (by decide) (fun hc7 => ?_) (fun hc7 => ?_)
                      · skip
                        have hje : j = σ.1.length := Nat.le_antisymm hj ((nI_leI (by omega) (by omega)).mp hc7)
                        subst hje
                        refine j_aload_n F d_MO_put_193 rfl rfl ?_
                        refine j_get F (so_h S6.1) rfl in_MO 4 (by decide) wf_MO_16 rfl d_MO_put_194 ?_
                        refine j_iload F d_MO_put_197 rfl ?_
                        refine j_iload F d_MO_put_199 rfl ?_
                        refine j_iastN F (so_le S6.1) (sz_le S6.1) (by omega) (by decide) d_MO_put_201 ?_
                        refine j_nmW (P := fun M1 => mo_W G M M1 h ta ke le mo pl si 0 0 (nI (σ.2.1.length + 1)) (cu_I (pu_cur v σ.2.2)) tf kf2 (upd lf1 v (nI σ.1.length)) mf1 pf1 sf1) (mw_lf S6 _) (fun M7 S7 => ?_)
                        refine j_aload_n F d_MO_put_202 rfl rfl ?_
                        refine j_get F (so_h S7.1) rfl in_MO 5 (by decide) wf_MO_20 rfl d_MO_put_203 ?_
                        refine j_iload F d_MO_put_206 rfl ?_
                        refine j_iload_n F d_MO_put_208 rfl rfl ?_
                        refine j_iastN F (so_mo S7.1) (sz_mo S7.1) (by omega) (by decide) d_MO_put_209 ?_
                        refine j_nmW (P := fun M1 => mo_W G M M1 h ta ke le mo pl si 0 0 (nI (σ.2.1.length + 1)) (cu_I (pu_cur v σ.2.2)) tf kf2 (upd lf1 v (nI σ.1.length)) (upd mf1 v mm) pf1 sf1) (mw_mf S7 _) (fun M8 S8 => ?_)
                        refine j_sub [1, 2, 3, 4, 5, 6, 7] rfl ?_
                        exact at210 (M8, _, 0, pu_ins σ.2.1 v (σ.1, mm, pp, zz), pu_cur v σ.2.2, kf2, upd lf1 v (nI σ.1.length), upd mf1 v mm, pf1, sf1) ⟨by omega, by dsimp only; rw [ins_len hfl]; exact S8, hb6, fun e he => by
                            rcases ins_mem he with z | z
                            · rw [z]; exact ⟨hk1, hk2⟩
                            · exact ok4 e z, fun i hi => by dsimp only; rw [ins_len hfl]; exact pu_cl ok5 i hi, mo_R_ins (x := (σ.1, mm, pp, zz)) hR hfl hlen hk1 hk2 hup hlo hq1 hq2, by dsimp only; rw [e0, ins_len hfl]⟩
                      · skip
                        have hjl : j < σ.1.length := Nat.not_le.mp (fun z => hc7 ((nI_leI (by omega) (by omega)).mpr z))
                        refine j_aload_n F d_MO_put_167 rfl rfl ?_
                        refine j_get F (so_h S6.1) rfl in_MO 3 (by decide) wf_MO_13 rfl d_MO_put_168 ?_
                        refine j_bipush F (v := 40) d_MO_put_171 (by decide) ?_
                        refine j_iload F d_MO_put_173 rfl ?_
                        refine j_imul F d_MO_put_175 ?_
                        refine j_iload F d_MO_put_176 rfl ?_
                        refine j_iadd F d_MO_put_178 ?_
                        refine j_val (y := nI (40 * v + j)) (ix_40 v j) ?_
                        refine j_aload_n F d_MO_put_179 rfl rfl ?_
                        refine j_get F (so_h S6.1) rfl in_MO 1 (by decide) wf_MO_7 rfl d_MO_put_180 ?_
                        refine j_iload F d_MO_put_183 rfl ?_
                        refine j_baldN F (so_ta S6.1) (by omega) (by decide) d_MO_put_185 ?_
                        refine j_bastN F (so_ke S6.1) (sz_ke S6.1) (by omega) (by decide) (hbt _) d_MO_put_186 ?_
                        refine j_nmW (P := fun M1 => mo_W G M M1 h ta ke le mo pl si 0 0 (nI (σ.2.1.length + 1)) (cu_I (pu_cur v σ.2.2)) tf (upd kf2 (40 * v + j) (tf j)) lf1 mf1 pf1 sf1) (mw_kf S6 _) (fun M7 S7 => ?_)
                        refine j_iinc F (lv1 := [(7, _), (6, _), (5, _), (4, _), (0, _), (1, _), (2, _), (3, _)]) d_MO_put_187 rfl (nI_1 _) (by decide) rfl ?_
                        refine j_goto F (tgt := 160) d_MO_put_190 (by decide) ?_
                        refine ih (j + 1, M7) ⟨hjl, _, S7, by_upd hb6 (hbt _), ?_, ?_⟩ (by dsimp only; omega)
                        · intro c hc9
                          dsimp only at hc9
                          by_cases hcj : c = j
                          · subst hcj
                            rw [pk_us, hT c hjl]
                          · rw [pk_un (by omega), hq1 c (by omega)]
                        · intro q hq
                          dsimp only at hq
                          rw [pk_un (by omega), hq2 q (by omega)]
                    cases hcur : σ.2.2 with
                    | none =>
                      rw [hcur] at S4 at157
                      refine j_aload_n F d_MO_put_138 rfl rfl ?_
                      refine j_get F (so_h S4.1) rfl in_MO 9 (by decide) wf_MO_29 rfl d_MO_put_139 ?_
                      refine j_iload F d_MO_put_142 rfl ?_
                      refine j_icmp_lt F (tgt := 157) d_MO_put_144 (by decide) (fun ha => ?_) (fun ha => absurd (Int32.lt_of_lt_of_le (show (-1 : Int32) < 0 by decide) (nI_pos' (by omega))) ha)
                      exact at157 M4 S4
                    | some cc0 =>
                      have hcl := ok5 cc0 hcur
                      rw [hcur] at S4 at157
                      refine j_aload_n F d_MO_put_138 rfl rfl ?_
                      refine j_get F (so_h S4.1) rfl in_MO 9 (by decide) wf_MO_29 rfl d_MO_put_139 ?_
                      refine j_iload F d_MO_put_142 rfl ?_
                      refine j_icmp_lt F (tgt := 157) d_MO_put_144 (by decide) (fun ha => ?_) (fun ha => ?_)
                      · skip
                        have hlt : cc0 < v := (nI_ltI (by omega) (by omega)).mp ha
                        have hpc : pu_cur v (some cc0) = some cc0 := by simp only [pu_cur, Option.map_some]; rw [if_neg (by omega)]
                        rw [hpc] at at157
                        exact at157 M4 S4
                      · skip
                        have hge : v ≤ cc0 := Nat.not_lt.mp (fun z => ha ((nI_ltI (by omega) (by omega)).mpr z))
                        have hpc : pu_cur v (some cc0) = some (cc0 + 1) := by simp only [pu_cur, Option.map_some]; rw [if_pos hge]
                        rw [hpc] at at157
                        refine j_aload_n F d_MO_put_147 rfl rfl ?_
                        refine j_dup F d_MO_put_148 rfl ?_
                        refine j_get F (so_h S4.1) rfl in_MO 9 (by decide) wf_MO_29 rfl d_MO_put_149 ?_
                        refine j_iconst F (v := 1) d_MO_put_152 (by decide) ?_
                        refine j_iadd F d_MO_put_153 ?_
                        refine j_val (y := nI (cc0 + 1)) (nI_1 _) ?_
                        refine j_put F (so_h S4.1) (sz_h S4.1) rfl in_MO ty_MO ok_MO nm_MO 9 (by decide) wf_MO_29 rfl (ty := .int) (by decide +kernel) rfl rfl (Nat.le_of_ble_eq_true rfl) d_MO_put_154 ?_
                        refine j_nmW (P := fun M1 => mo_W G M M1 h ta ke le mo pl si 0 0 (nI (σ.2.1.length + 1)) (nI (cc0 + 1)) tf kf1 lf1 mf1 pf1 sf1) (mw_ap S4 _) (fun M5 S5 => ?_)
                        exact at157 M5 S5
                  · skip
                    have hlen : σ.2.1.length = 160 := (nI_eq (b := 160) (by omega) (by decide)).mp h160
                    have e0 : sp_put mm pp zz σ = (2, 0, ([], σ.2)) := by
                      unfold sp_put
                      rw [if_neg hnb, if_neg hh, if_pos hlen]
                    rw [e0]
                    refine j_aload_n F d_MO_put_111 rfl rfl ?_
                    refine j_iconst F (v := 2) d_MO_put_112 (by decide) ?_
                    refine j_callV F 1 (c_MO_fail hl S2.1 2) (so_h S2.1) rfl wl_MO_39 wim_MO_fail wse_MO_fail wi_MO wco_MO_fail (by decide +kernel) (by decide) rfl rfl (Nat.le_of_ble_eq_true rfl) (by decide) (by decide) d_MO_put_113 (fun E M1 hx => hx.elim) (fun r M1 hp => ?_)
                    obtain ⟨rfl, W1⟩ := hp
                    exact j_iret F hr (Nat.le_refl _) (Nat.le_refl _) ⟨rfl, ⟨Nat.zero_le _, fun _ h => (by cases h), ok3, ok4, ok5⟩, tf, kf, lf, mf, pf, sf, mw_tr S2 W1, tp_nil _, hbt, hbk, hR⟩ d_MO_put_116
              refine j_iload F d_MO_put_68 rfl ?_
              refine j_aload_n F d_MO_put_70 rfl rfl ?_
              refine j_get F (so_h S2.1) rfl in_MO 8 (by decide) wf_MO_43 rfl d_MO_put_71 ?_
              refine j_icmp_ge F (tgt := 93) d_MO_put_74 (by decide) (fun hc7 => ?_) (fun hc7 => ?_)
              · skip
                have h0 : σ.2.1.length ≤ v := (nI_leI (by omega) (by omega)).mp hc7
                have hno : hit σ.2.1 σ.1 mm = false := hit_no (by rw [← hv]; exact h0)
                rw [hno] at at94
                refine j_iconst F (v := 0) d_MO_put_93 (by decide) ?_
                exact at94 () trivial
              · skip
                have h0 : v < σ.2.1.length := Nat.not_le.mp (fun z => hc7 ((nI_leI (by omega) (by omega)).mpr z))
                obtain ⟨e1, he1⟩ : ∃ e1, σ.2.1[v]? = some e1 := ⟨_, List.getElem?_eq_getElem h0⟩
                obtain ⟨hE, -, h40⟩ := hR.2 _ e1 he1
                have hho := hit_of (es := σ.2.1) (k := σ.1) (m := mm) (e := e1) (by rw [← hv]; exact he1)
                refine j_aload_n F d_MO_put_77 rfl rfl ?_
                refine j_iload F d_MO_put_78 rfl ?_
                refine j_iload F d_MO_put_80 rfl ?_
                refine j_iload_n F d_MO_put_82 rfl rfl ?_
                refine j_callV F 3 (c_MO_compare hl S2.1 (by omega) hE hT h40 (by omega) (mm := mm)) (so_h S2.1) rfl wl_MO_46 wim_MO_compare wse_MO_compare wi_MO wco_MO_compare (by decide +kernel) (by decide) rfl rfl (Nat.le_of_ble_eq_true rfl) (by decide) (by decide) d_MO_put_83 (fun E M1 hx => hx.elim) (fun r M1 hp => ?_)
                obtain ⟨rfl, d, rfl, -, hd2⟩ := hp
                refine j_if_ne F (tgt := 93) d_MO_put_86 (by decide) (fun hc8 => ?_) (fun hc8 => ?_)
                · skip
                  have hno : hit σ.2.1 σ.1 mm = false := by
                    cases hq : hit σ.2.1 σ.1 mm with
                    | false => rfl
                    | true => exact absurd (hd2.mpr (hho.mp hq)) hc8
                  rw [hno] at at94
                  refine j_iconst F (v := 0) d_MO_put_93 (by decide) ?_
                  exact at94 () trivial
                · skip
                  have hyes : hit σ.2.1 σ.1 mm = true := hho.mpr (hd2.mp hc8)
                  rw [hyes] at at94
                  refine j_iconst F (v := 1) d_MO_put_89 (by decide) ?_
                  refine j_goto F (tgt := 94) d_MO_put_90 (by decide) ?_
                  exact at94 () trivial
            · skip
              have e0 : sp_put mm pp zz σ = (1, 0, σ) := if_pos ((pu_badE _ _ _ _).mpr (Or.inr (Or.inr (Or.inr (Or.inl (Int32.not_le.mp h6))))))
              rw [e0]
              refine j_aload_n F d_MO_put_42 rfl rfl ?_
              refine j_iconst F (v := 1) d_MO_put_43 (by decide) ?_
              refine j_callV F 1 (c_MO_fail hl S1.1 1) (so_h S1.1) rfl wl_MO_39 wim_MO_fail wse_MO_fail wi_MO wco_MO_fail (by decide +kernel) (by decide) rfl rfl (Nat.le_of_ble_eq_true rfl) (by decide) (by decide) d_MO_put_44 (fun E M1 hx => hx.elim) (fun r M1 hp => ?_)
              obtain ⟨rfl, W1⟩ := hp
              exact j_iret F hr (Nat.le_refl _) (Nat.le_refl _) ⟨rfl, ⟨ok1, ok2, ok3, ok4, ok5⟩, tf, kf, lf, mf, pf, sf, mw_tr S1 W1, hT, hbt, hbk, hR⟩ d_MO_put_47
end MO6
