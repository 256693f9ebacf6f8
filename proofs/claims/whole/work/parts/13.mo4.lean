/-- the reference holds the state σ -/
def mo_A (G : gv_T) (M0 M : mp_T) (h ta ke le mo pl si : Nat) (fa : Int32) (σ : sg_T) : Prop := sg_ok σ ∧ ∃ (tf kf lf mf pf sf : Nat → Int32), mo_W G M0 M h ta ke le mo pl si fa (nI σ.1.length) (nI σ.2.1.length) (cu_I σ.2.2) tf kf lf mf pf sf ∧ tp_R σ.1 tf ∧ by_Q tf ∧ by_Q kf ∧ mo_R σ.2.1 lf kf mf pf sf
theorem tp_take {k : ke_T} {tf : Nat → Int32} (n : Nat) (h : tp_R k tf) : tp_R (k.take n) tf := by
  intro j hj
  rw [List.length_take] at hj
  rw [h j (by omega)]
  simp only [List.getD_eq_getElem?_getD]
  rw [List.getElem?_take, if_pos (by omega)]
theorem tp_nil (tf : Nat → Int32) : tp_R [] tf := fun j hj => absurd hj (Nat.not_lt_zero _)
theorem mo_R0 (lf kf mf pf sf : Nat → Int32) : mo_R [] lf kf mf pf sf := ⟨Nat.zero_le _, fun i e he => by simp at he⟩
theorem sg_k {σ : sg_T} {c : Option Nat} (h : sg_ok σ) (hc : ∀ i, c = some i → i < σ.2.1.length) : sg_ok ([], σ.2.1, c) := ⟨Nat.zero_le _, fun _ h => (by cases h), h.2.2.1, h.2.2.2.1, hc⟩
theorem sg_c {σ : sg_T} {c : Option Nat} (h : sg_ok σ) (hc : ∀ i, c = some i → i < σ.2.1.length) : sg_ok (σ.1, σ.2.1, c) := ⟨h.1, h.2.1, h.2.2.1, h.2.2.2.1, hc⟩
section MO4
variable {es : List en_T} {σ : sg_T} {l : Launch} {G : gv_T} {M M0 : mp_T} {h ta ke le mo pl si : Nat} {fa tl sz ap : Int32} {tf kf lf mf pf sf : Nat → Int32}
set_option maxHeartbeats 4000000 in
set_option maxRecDepth 100000 in
theorem c_MO_go1 (hl : l.stackTraces = false) (S : mo_S G M h ta ke le mo pl si fa tl sz ap tf kf lf mf pf sf) {v : Nat} (hv : v < 161) (cd : Int32) : ct_C l G y_MO_go b_MO_go 4 (some .int) { frames := 1, cells := 0, slots := 0, locals := 21 } [.ref h, .int (nI v), .int 1, .int cd] M (fun r M1 => r = some (.int (pf v)) ∧ mo_W G M M1 h ta ke le mo pl si fa tl sz (nI v) tf kf lf mf pf sf) (fun _ _ => False) := by
  refine ct_of hl (by decide +kernel) (Nat.le_of_ble_eq_true rfl) ?_
  intro p e s m args below meth c F hr hnm
  refine j_aload_n F d_MO_go_0 rfl rfl ?_
  refine j_iload_n F d_MO_go_1 rfl rfl ?_
  refine j_if_eq F (tgt := 9) d_MO_go_2 (by decide) (fun hc => absurd hc (by decide)) (fun hc => ?_)
  refine j_iload_n F d_MO_go_5 rfl rfl ?_
  refine j_goto F (tgt := 10) d_MO_go_6 (by decide) ?_
  refine j_put F (so_h S) (sz_h S) rfl in_MO ty_MO ok_MO nm_MO 9 (by decide) wf_MO_29 rfl (ty := .int) (by decide +kernel) rfl rfl (Nat.le_of_ble_eq_true rfl) d_MO_go_10 ?_
  refine j_nmW (P := fun M1 => mo_W G M M1 h ta ke le mo pl si fa tl sz (nI v) tf kf lf mf pf sf) (mw_ap (mo_rf S) _) (fun M1 S1 => ?_)
  refine j_iload_n F d_MO_go_13 rfl rfl ?_
  refine j_if_eq F (tgt := 26) d_MO_go_14 (by decide) (fun hc => absurd hc (by decide)) (fun hc => ?_)
  refine j_aload_n F d_MO_go_17 rfl rfl ?_
  refine j_get F (so_h S1.1) rfl in_MO 6 (by decide) wf_MO_23 rfl d_MO_go_18 ?_
  refine j_iload_n F d_MO_go_21 rfl rfl ?_
  refine j_ialdN F (so_pl S1.1) hv (by decide) d_MO_go_22 ?_
  refine j_goto F (tgt := 31) d_MO_go_23 (by decide) ?_
  exact j_iret F hr (Nat.le_refl _) (Nat.le_refl _) ⟨rfl, S1⟩ d_MO_go_31
set_option maxHeartbeats 4000000 in
set_option maxRecDepth 100000 in
theorem c_MO_go0 (hl : l.stackTraces = false) (S : mo_S G M h ta ke le mo pl si fa tl sz ap tf kf lf mf pf sf) (z cd : Int32) : ct_C l G y_MO_go b_MO_go 4 (some .int) { frames := 1, cells := 0, slots := 0, locals := 21 } [.ref h, .int z, .int 0, .int cd] M (fun r M1 => r = some (.int 0) ∧ mo_W G M M1 h ta ke le mo pl si cd tl sz (-1) tf kf lf mf pf sf) (fun _ _ => False) := by
  refine ct_of hl (by decide +kernel) (Nat.le_of_ble_eq_true rfl) ?_
  intro p e s m args below meth c F hr hnm
  refine j_aload_n F d_MO_go_0 rfl rfl ?_
  refine j_iload_n F d_MO_go_1 rfl rfl ?_
  refine j_if_eq F (tgt := 9) d_MO_go_2 (by decide) (fun hc => ?_) (fun hc => absurd rfl hc)
  refine j_iconst F (v := -1) d_MO_go_9 (by decide) ?_
  refine j_put F (so_h S) (sz_h S) rfl in_MO ty_MO ok_MO nm_MO 9 (by decide) wf_MO_29 rfl (ty := .int) (by decide +kernel) rfl rfl (Nat.le_of_ble_eq_true rfl) d_MO_go_10 ?_
  refine j_nmW (P := fun M1 => mo_W G M M1 h ta ke le mo pl si fa tl sz (-1) tf kf lf mf pf sf) (mw_ap (mo_rf S) _) (fun M1 S1 => ?_)
  refine j_iload_n F d_MO_go_13 rfl rfl ?_
  refine j_if_eq F (tgt := 26) d_MO_go_14 (by decide) (fun hc => ?_) (fun hc => absurd rfl hc)
  refine j_aload_n F d_MO_go_26 rfl rfl ?_
  refine j_iload_n F d_MO_go_27 rfl rfl ?_
  refine j_callV F 1 (c_MO_fail hl S1.1 cd) (so_h S1.1) rfl wl_MO_39 wim_MO_fail wse_MO_fail wi_MO wco_MO_fail (by decide +kernel) (by decide) rfl rfl (Nat.le_of_ble_eq_true rfl) (by decide) (by decide) d_MO_go_28 (fun E M1 hx => hx.elim) (fun r M1 hp => ?_)
  obtain ⟨rfl, W1⟩ := hp
  exact j_iret F hr (Nat.le_refl _) (Nat.le_refl _) ⟨rfl, W1.1, fun q hq => (W1.2 q hq).trans (S1.2 q hq)⟩ d_MO_go_31
theorem mw_tr {M1 M2 : mp_T} {fa1 tl1 sz1 ap1 : Int32} {tf1 kf1 lf1 mf1 pf1 sf1 : Nat → Int32} (h1 : mo_W G M M1 h ta ke le mo pl si fa tl sz ap tf kf lf mf pf sf) (h2 : mo_W G M1 M2 h ta ke le mo pl si fa1 tl1 sz1 ap1 tf1 kf1 lf1 mf1 pf1 sf1) : mo_W G M M2 h ta ke le mo pl si fa1 tl1 sz1 ap1 tf1 kf1 lf1 mf1 pf1 sf1 := ⟨h2.1, fun q hq => (h2.2 q hq).trans (h1.2 q hq)⟩
set_option maxHeartbeats 4000000 in
set_option maxRecDepth 100000 in
theorem c_MO_clear (hl : l.stackTraces = false) (A : mo_A G M M h ta ke le mo pl si fa σ) : ct_C l G y_MO_clear b_MO_clear 2 (some .int) { frames := 0, cells := 0, slots := 0, locals := 0 } [.ref h] M (fun r M1 => r = some (.int (sp_clear σ).2.1) ∧ mo_A G M M1 h ta ke le mo pl si (nI (sp_clear σ).1) (sp_clear σ).2.2) (fun _ _ => False) := by
  refine ct_of hl (by decide +kernel) (Nat.le_of_ble_eq_true rfl) ?_
  intro p e s m args below meth c F hr hnm
  obtain ⟨hok, tf, kf, lf, mf, pf, sf, ⟨S, -⟩, hT, hbt, hbk, hR⟩ := A
  obtain ⟨ok1, ok2, ok3, ok4, ok5⟩ := hok
  refine j_aload_n F d_MO_clear_0 rfl rfl ?_
  refine j_iconst F (v := 0) d_MO_clear_1 (by decide) ?_
  refine j_put F (so_h S) (sz_h S) rfl in_MO ty_MO ok_MO nm_MO 0 (by decide) wf_MO_33 rfl (ty := .int) (by decide +kernel) rfl rfl (Nat.le_of_ble_eq_true rfl) d_MO_clear_2 ?_
  refine j_nmW (P := fun M1 => mo_W G M M1 h ta ke le mo pl si 0 (nI σ.1.length) (nI σ.2.1.length) (cu_I σ.2.2) tf kf lf mf pf sf) (mw_fa (mo_rf S) 0) (fun M1 S1 => ?_)
  refine j_aload_n F d_MO_clear_5 rfl rfl ?_
  refine j_get F (so_h S1.1) rfl in_MO 8 (by decide) wf_MO_43 rfl d_MO_clear_6 ?_
  refine j_istore_n F (lv1 := [(1, _), (0, _)]) d_MO_clear_9 rfl (by decide) rfl ?_
  refine j_aload_n F d_MO_clear_10 rfl rfl ?_
  refine j_iconst F (v := 0) d_MO_clear_11 (by decide) ?_
  refine j_put F (so_h S1.1) (sz_h S1.1) rfl in_MO ty_MO ok_MO nm_MO 8 (by decide) wf_MO_43 rfl (ty := .int) (by decide +kernel) rfl rfl (Nat.le_of_ble_eq_true rfl) d_MO_clear_12 ?_
  refine j_nmW (P := fun M1 => mo_W G M M1 h ta ke le mo pl si 0 (nI σ.1.length) 0 (cu_I σ.2.2) tf kf lf mf pf sf) (mw_sz S1 0) (fun M2 S2 => ?_)
  refine j_aload_n F d_MO_clear_15 rfl rfl ?_
  refine j_iconst F (v := -1) d_MO_clear_16 (by decide) ?_
  refine j_put F (so_h S2.1) (sz_h S2.1) rfl in_MO ty_MO ok_MO nm_MO 9 (by decide) wf_MO_29 rfl (ty := .int) (by decide +kernel) rfl rfl (Nat.le_of_ble_eq_true rfl) d_MO_clear_17 ?_
  refine j_nmW (P := fun M1 => mo_W G M M1 h ta ke le mo pl si 0 (nI σ.1.length) 0 (-1) tf kf lf mf pf sf) (mw_ap S2 (-1)) (fun M3 S3 => ?_)
  refine j_iload_n F d_MO_clear_20 rfl rfl ?_
  exact j_iret F hr (Nat.le_refl _) (Nat.le_refl _) ⟨rfl, ⟨ok1, ok2, Nat.zero_le _, fun e he => (by cases he), fun c hc => (by cases hc)⟩, tf, kf, lf, mf, pf, sf, S3, hT, hbt, hbk, mo_R0 _ _ _ _ _⟩ d_MO_clear_21
set_option maxHeartbeats 4000000 in
set_option maxRecDepth 100000 in
theorem c_MO_end (hl : l.stackTraces = false) (A : mo_A G M M h ta ke le mo pl si fa σ) (n : Int32) : ct_C l G y_MO_end b_MO_end 2 (some .int) { frames := 1, cells := 0, slots := 0, locals := 21 } [.ref h, .int n] M (fun r M1 => r = some (.int (sp_end n σ).2.1) ∧ mo_A G M M1 h ta ke le mo pl si (nI (sp_end n σ).1) (sp_end n σ).2.2) (fun _ _ => False) := by
  refine ct_of hl (by decide +kernel) (Nat.le_of_ble_eq_true rfl) ?_
  intro p e s m args below meth c F hr hnm
  obtain ⟨hok, tf, kf, lf, mf, pf, sf, ⟨S, -⟩, hT, hbt, hbk, hR⟩ := A
  obtain ⟨ok1, ok2, ok3, ok4, ok5⟩ := hok
  refine j_aload_n F d_MO_end_0 rfl rfl ?_
  refine j_iconst F (v := 0) d_MO_end_1 (by decide) ?_
  refine j_put F (so_h S) (sz_h S) rfl in_MO ty_MO ok_MO nm_MO 0 (by decide) wf_MO_33 rfl (ty := .int) (by decide +kernel) rfl rfl (Nat.le_of_ble_eq_true rfl) d_MO_end_2 ?_
  refine j_nmW (P := fun M1 => mo_W G M M1 h ta ke le mo pl si 0 (nI σ.1.length) (nI σ.2.1.length) (cu_I σ.2.2) tf kf lf mf pf sf) (mw_fa (mo_rf S) 0) (fun M1 S1 => ?_)
  refine j_iload_n F d_MO_end_5 rfl rfl ?_
  refine j_if_lt F (tgt := 17) d_MO_end_6 (by decide) (fun hc => ?_) (fun hc => ?_)
  · skip
    have e0 : sp_end n σ = (1, 0, σ) := if_pos (Or.inl hc)
    rw [e0]
    refine j_aload_n F d_MO_end_17 rfl rfl ?_
    refine j_iconst F (v := 1) d_MO_end_18 (by decide) ?_
    refine j_callV F 1 (c_MO_fail hl S1.1 1) (so_h S1.1) rfl wl_MO_39 wim_MO_fail wse_MO_fail wi_MO wco_MO_fail (by decide +kernel) (by decide) rfl rfl (Nat.le_of_ble_eq_true rfl) (by decide) (by decide) d_MO_end_19 (fun E M1 hx => hx.elim) (fun r M1 hp => ?_)
    obtain ⟨rfl, W1⟩ := hp
    exact j_iret F hr (Nat.le_refl _) (Nat.le_refl _) ⟨rfl, ⟨ok1, ok2, ok3, ok4, ok5⟩, tf, kf, lf, mf, pf, sf, mw_tr S1 W1, hT, hbt, hbk, hR⟩ d_MO_end_22
  · skip
    refine j_iload_n F d_MO_end_9 rfl rfl ?_
    refine j_aload_n F d_MO_end_10 rfl rfl ?_
    refine j_get F (so_h S1.1) rfl in_MO 2 (by decide) wf_MO_36 rfl d_MO_end_11 ?_
    refine j_icmp_le F (tgt := 23) d_MO_end_14 (by decide) (fun hc2 => ?_) (fun hc2 => ?_)
    · skip
      have e0 : sp_end n σ = (0, n, (σ.1.take n.toNatClampNeg, σ.2)) := if_neg (fun z => z.elim hc (fun z => absurd hc2 (Int32.not_le.mpr z)))
      rw [e0]
      refine j_aload_n F d_MO_end_23 rfl rfl ?_
      refine j_iload_n F d_MO_end_24 rfl rfl ?_
      refine j_put F (so_h S1.1) (sz_h S1.1) rfl in_MO ty_MO ok_MO nm_MO 2 (by decide) wf_MO_36 rfl (ty := .int) (by decide +kernel) rfl rfl (Nat.le_of_ble_eq_true rfl) d_MO_end_25 ?_
      refine j_nmW (P := fun M1 => mo_W G M M1 h ta ke le mo pl si 0 n (nI σ.2.1.length) (cu_I σ.2.2) tf kf lf mf pf sf) (mw_tl S1 n) (fun M2 S2 => ?_)
      refine j_iload_n F d_MO_end_28 rfl rfl ?_
      obtain ⟨j, hj1, rfl⟩ := nI_of hc
      have hj2 : j ≤ σ.1.length := (nI_leI hj1 (by omega)).mp hc2
      have hlen : (σ.1.take (nI j).toNatClampNeg).length = j := by rw [nI_clamp hj1, List.length_take]; omega
      refine j_iret F hr (Nat.le_refl _) (Nat.le_refl _) ⟨rfl, ⟨by dsimp only; omega, fun x hx => ok2 x (List.mem_of_mem_take hx), ok3, ok4, ok5⟩, tf, kf, lf, mf, pf, sf, ?_, tp_take _ hT, hbt, hbk, hR⟩ d_MO_end_29
      dsimp only
      rw [hlen]
      exact S2
    · skip
      have e0 : sp_end n σ = (1, 0, σ) := if_pos (Or.inr (Int32.not_le.mp hc2))
      rw [e0]
      refine j_aload_n F d_MO_end_17 rfl rfl ?_
      refine j_iconst F (v := 1) d_MO_end_18 (by decide) ?_
      refine j_callV F 1 (c_MO_fail hl S1.1 1) (so_h S1.1) rfl wl_MO_39 wim_MO_fail wse_MO_fail wi_MO wco_MO_fail (by decide +kernel) (by decide) rfl rfl (Nat.le_of_ble_eq_true rfl) (by decide) (by decide) d_MO_end_19 (fun E M1 hx => hx.elim) (fun r M1 hp => ?_)
      obtain ⟨rfl, W1⟩ := hp
      exact j_iret F hr (Nat.le_refl _) (Nat.le_refl _) ⟨rfl, ⟨ok1, ok2, ok3, ok4, ok5⟩, tf, kf, lf, mf, pf, sf, mw_tr S1 W1, hT, hbt, hbk, hR⟩ d_MO_end_22
set_option maxHeartbeats 4000000 in
set_option maxRecDepth 100000 in
theorem c_MO_first (hl : l.stackTraces = false) (A : mo_A G M M h ta ke le mo pl si fa σ) : ct_C l G y_MO_first b_MO_first 1 (some .int) { frames := 2, cells := 0, slots := 0, locals := 44 } [.ref h] M (fun r M1 => r = some (.int (sp_first σ).2.1) ∧ mo_A G M M1 h ta ke le mo pl si (nI (sp_first σ).1) (sp_first σ).2.2) (fun _ _ => False) := by
  refine ct_of hl (by decide +kernel) (Nat.le_of_ble_eq_true rfl) ?_
  intro p e s m args below meth c F hr hnm
  obtain ⟨hok, tf, kf, lf, mf, pf, sf, ⟨S, -⟩, hT, hbt, hbk, hR⟩ := A
  obtain ⟨ok1, ok2, ok3, ok4, ok5⟩ := hok
  refine j_aload_n F d_MO_first_0 rfl rfl ?_
  refine j_iconst F (v := 0) d_MO_first_1 (by decide) ?_
  refine j_put F (so_h S) (sz_h S) rfl in_MO ty_MO ok_MO nm_MO 0 (by decide) wf_MO_33 rfl (ty := .int) (by decide +kernel) rfl rfl (Nat.le_of_ble_eq_true rfl) d_MO_first_2 ?_
  refine j_nmW (P := fun M1 => mo_W G M M1 h ta ke le mo pl si 0 (nI σ.1.length) (nI σ.2.1.length) (cu_I σ.2.2) tf kf lf mf pf sf) (mw_fa (mo_rf S) 0) (fun M1 S1 => ?_)
  refine j_aload_n F d_MO_first_5 rfl rfl ?_
  refine j_iconst F (v := 0) d_MO_first_6 (by decide) ?_
  refine j_aload_n F d_MO_first_7 rfl rfl ?_
  refine j_get F (so_h S1.1) rfl in_MO 8 (by decide) wf_MO_43 rfl d_MO_first_8 ?_
  refine j_if_le F (tgt := 18) d_MO_first_11 (by decide) (fun hc => ?_) (fun hc => ?_)
  · skip
    have h0 : σ.2.1.length ≤ 0 := (nI_leI (b := 0) (by omega) (by decide)).mp hc
    refine j_iconst F (v := 0) d_MO_first_18 (by decide) ?_
    refine j_iconst F (v := 1) d_MO_first_19 (by decide) ?_
    have e0 : sp_first σ = (1, 0, (σ.1, σ.2.1, none)) := go_no (Or.inl h0)
    rw [e0]
    refine j_callV F 3 (c_MO_go0 hl S1.1 0 1) (so_h S1.1) rfl wl_MO_58 wim_MO_go wse_MO_go wi_MO wco_MO_go (by decide +kernel) (by decide) rfl rfl (Nat.le_of_ble_eq_true rfl) (by decide) (by decide) d_MO_first_20 (fun E M1 hx => hx.elim) (fun r M1 hp => ?_)
    obtain ⟨rfl, W1⟩ := hp
    exact j_iret F hr (Nat.le_refl _) (Nat.le_refl _) ⟨rfl, sg_c ⟨ok1, ok2, ok3, ok4, ok5⟩ (fun i hi => by cases hi), tf, kf, lf, mf, pf, sf, mw_tr S1 W1, hT, hbt, hbk, hR⟩ d_MO_first_23
  · skip
    have h0 : 0 < σ.2.1.length := Nat.not_le.mp (fun z => hc ((nI_leI (b := 0) (by omega) (by decide)).mpr z))
    obtain ⟨e1, he1⟩ : ∃ e1, σ.2.1[0]? = some e1 := ⟨_, List.getElem?_eq_getElem h0⟩
    refine j_iconst F (v := 1) d_MO_first_14 (by decide) ?_
    refine j_goto F (tgt := 19) d_MO_first_15 (by decide) ?_
    refine j_iconst F (v := 1) d_MO_first_19 (by decide) ?_
    have e0 : sp_first σ = (0, e1.2.2.1, (σ.1, σ.2.1, some 0)) := go_ok he1
    rw [e0]
    refine j_callV F 3 (c_MO_go1 hl S1.1 (v := 0) (by omega) 1) (so_h S1.1) rfl wl_MO_58 wim_MO_go wse_MO_go wi_MO wco_MO_go (by decide +kernel) (by decide) rfl rfl (Nat.le_of_ble_eq_true rfl) (by decide) (by decide) d_MO_first_20 (fun E M1 hx => hx.elim) (fun r M1 hp => ?_)
    obtain ⟨rfl, W1⟩ := hp
    exact j_iret F hr (Nat.le_refl _) (Nat.le_refl _) ⟨by rw [((hR.2 0 e1 he1).1).2.2.2.1], sg_c ⟨ok1, ok2, ok3, ok4, ok5⟩ (fun i hi => by cases hi; omega), tf, kf, lf, mf, pf, sf, mw_tr S1 W1, hT, hbt, hbk, hR⟩ d_MO_first_23
set_option maxHeartbeats 4000000 in
set_option maxRecDepth 100000 in
theorem c_MO_next (hl : l.stackTraces = false) (A : mo_A G M M h ta ke le mo pl si fa σ) : ct_C l G y_MO_next b_MO_next 1 (some .int) { frames := 2, cells := 0, slots := 0, locals := 44 } [.ref h] M (fun r M1 => r = some (.int (sp_next σ).2.1) ∧ mo_A G M M1 h ta ke le mo pl si (nI (sp_next σ).1) (sp_next σ).2.2) (fun _ _ => False) := by
  refine ct_of hl (by decide +kernel) (Nat.le_of_ble_eq_true rfl) ?_
  intro p e s m args below meth c F hr hnm
  obtain ⟨hok, tf, kf, lf, mf, pf, sf, ⟨S, -⟩, hT, hbt, hbk, hR⟩ := A
  obtain ⟨ok1, ok2, ok3, ok4, ok5⟩ := hok
  refine j_aload_n F d_MO_next_0 rfl rfl ?_
  refine j_iconst F (v := 0) d_MO_next_1 (by decide) ?_
  refine j_put F (so_h S) (sz_h S) rfl in_MO ty_MO ok_MO nm_MO 0 (by decide) wf_MO_33 rfl (ty := .int) (by decide +kernel) rfl rfl (Nat.le_of_ble_eq_true rfl) d_MO_next_2 ?_
  refine j_nmW (P := fun M1 => mo_W G M M1 h ta ke le mo pl si 0 (nI σ.1.length) (nI σ.2.1.length) (cu_I σ.2.2) tf kf lf mf pf sf) (mw_fa (mo_rf S) 0) (fun M1 S1 => ?_)
  cases hcur : σ.2.2 with
  | none =>
    rw [hcur] at S1
    refine j_aload_n F d_MO_next_5 rfl rfl ?_
    refine j_aload_n F d_MO_next_6 rfl rfl ?_
    refine j_get F (so_h S1.1) rfl in_MO 9 (by decide) wf_MO_29 rfl d_MO_next_7 ?_
    refine j_iconst F (v := 1) d_MO_next_10 (by decide) ?_
    refine j_iadd F d_MO_next_11 ?_
    refine j_aload_n F d_MO_next_12 rfl rfl ?_
    refine j_get F (so_h S1.1) rfl in_MO 9 (by decide) wf_MO_29 rfl d_MO_next_13 ?_
    refine j_if_lt F (tgt := 36) d_MO_next_16 (by decide) (fun hc => ?_) (fun hc => absurd (show (-1 : Int32) < 0 by decide) hc)
    refine j_iconst F (v := 0) d_MO_next_36 (by decide) ?_
    refine j_iconst F (v := 1) d_MO_next_37 (by decide) ?_
    have e0 : sp_next σ = (1, 0, (σ.1, σ.2.1, none)) := by unfold sp_next; rw [hcur]
    rw [e0]
    refine j_callV F 3 (c_MO_go0 hl S1.1 _ 1) (so_h S1.1) rfl wl_MO_58 wim_MO_go wse_MO_go wi_MO wco_MO_go (by decide +kernel) (by decide) rfl rfl (Nat.le_of_ble_eq_true rfl) (by decide) (by decide) d_MO_next_38 (fun E M1 hx => hx.elim) (fun r M1 hp => ?_)
    obtain ⟨rfl, W1⟩ := hp
    exact j_iret F hr (Nat.le_refl _) (Nat.le_refl _) ⟨rfl, sg_c ⟨ok1, ok2, ok3, ok4, ok5⟩ (fun i hi => by cases hi), tf, kf, lf, mf, pf, sf, mw_tr S1 W1, hT, hbt, hbk, hR⟩ d_MO_next_41
  | some cc0 =>
    rw [hcur] at S1
    have hcl := ok5 cc0 hcur
    refine j_aload_n F d_MO_next_5 rfl rfl ?_
    refine j_aload_n F d_MO_next_6 rfl rfl ?_
    refine j_get F (so_h S1.1) rfl in_MO 9 (by decide) wf_MO_29 rfl d_MO_next_7 ?_
    refine j_iconst F (v := 1) d_MO_next_10 (by decide) ?_
    refine j_iadd F d_MO_next_11 ?_
    refine j_val (y := nI (cc0 + 1)) (nI_1 cc0) ?_
    refine j_aload_n F d_MO_next_12 rfl rfl ?_
    refine j_get F (so_h S1.1) rfl in_MO 9 (by decide) wf_MO_29 rfl d_MO_next_13 ?_
    refine j_if_lt F (tgt := 36) d_MO_next_16 (by decide) (fun hc => absurd hc (nI_pos (by omega))) (fun hc => ?_)
    refine j_aload_n F d_MO_next_19 rfl rfl ?_
    refine j_get F (so_h S1.1) rfl in_MO 9 (by decide) wf_MO_29 rfl d_MO_next_20 ?_
    refine j_iconst F (v := 1) d_MO_next_23 (by decide) ?_
    refine j_iadd F d_MO_next_24 ?_
    refine j_val (y := nI (cc0 + 1)) (nI_1 cc0) ?_
    refine j_aload_n F d_MO_next_25 rfl rfl ?_
    refine j_get F (so_h S1.1) rfl in_MO 8 (by decide) wf_MO_43 rfl d_MO_next_26 ?_
    refine j_icmp_ge F (tgt := 36) d_MO_next_29 (by decide) (fun hc2 => ?_) (fun hc2 => ?_)
    · skip
      have h0 : σ.2.1.length ≤ cc0 + 1 := (nI_leI (by omega) (by omega)).mp hc2
      refine j_iconst F (v := 0) d_MO_next_36 (by decide) ?_
      refine j_iconst F (v := 1) d_MO_next_37 (by decide) ?_
      have e0 : sp_next σ = (1, 0, (σ.1, σ.2.1, none)) := by unfold sp_next; rw [hcur]; exact go_no (Or.inl h0)
      rw [e0]
      refine j_callV F 3 (c_MO_go0 hl S1.1 _ 1) (so_h S1.1) rfl wl_MO_58 wim_MO_go wse_MO_go wi_MO wco_MO_go (by decide +kernel) (by decide) rfl rfl (Nat.le_of_ble_eq_true rfl) (by decide) (by decide) d_MO_next_38 (fun E M1 hx => hx.elim) (fun r M1 hp => ?_)
      obtain ⟨rfl, W1⟩ := hp
      exact j_iret F hr (Nat.le_refl _) (Nat.le_refl _) ⟨rfl, sg_c ⟨ok1, ok2, ok3, ok4, ok5⟩ (fun i hi => by cases hi), tf, kf, lf, mf, pf, sf, mw_tr S1 W1, hT, hbt, hbk, hR⟩ d_MO_next_41
    · skip
      have h0 : cc0 + 1 < σ.2.1.length := Nat.not_le.mp (fun z => hc2 ((nI_leI (by omega) (by omega)).mpr z))
      obtain ⟨e1, he1⟩ : ∃ e1, σ.2.1[cc0 + 1]? = some e1 := ⟨_, List.getElem?_eq_getElem h0⟩
      refine j_iconst F (v := 1) d_MO_next_32 (by decide) ?_
      refine j_goto F (tgt := 37) d_MO_next_33 (by decide) ?_
      refine j_iconst F (v := 1) d_MO_next_37 (by decide) ?_
      have e0 : sp_next σ = (0, e1.2.2.1, (σ.1, σ.2.1, some (cc0 + 1))) := by unfold sp_next; rw [hcur]; exact go_ok he1
      rw [e0]
      refine j_callV F 3 (c_MO_go1 hl S1.1 (v := cc0 + 1) (by omega) 1) (so_h S1.1) rfl wl_MO_58 wim_MO_go wse_MO_go wi_MO wco_MO_go (by decide +kernel) (by decide) rfl rfl (Nat.le_of_ble_eq_true rfl) (by decide) (by decide) d_MO_next_38 (fun E M1 hx => hx.elim) (fun r M1 hp => ?_)
      obtain ⟨rfl, W1⟩ := hp
      exact j_iret F hr (Nat.le_refl _) (Nat.le_refl _) ⟨by rw [((hR.2 (cc0 + 1) e1 he1).1).2.2.2.1], sg_c ⟨ok1, ok2, ok3, ok4, ok5⟩ (fun i hi => by cases hi; omega), tf, kf, lf, mf, pf, sf, mw_tr S1 W1, hT, hbt, hbk, hR⟩ d_MO_next_41
set_option maxHeartbeats 4000000 in
set_option maxRecDepth 100000 in
theorem c_MO_find (hl : l.stackTraces = false) (A : mo_A G M M h ta ke le mo pl si fa σ) (mm : Int32) : ct_C l G y_MO_find b_MO_find 4 (some .int) { frames := 2, cells := 0, slots := 0, locals := 48 } [.ref h, .int mm] M (fun r M1 => r = some (.int (sp_find mm σ).2.1) ∧ mo_A G M M1 h ta ke le mo pl si (nI (sp_find mm σ).1) (sp_find mm σ).2.2) (fun _ _ => False) := by
  refine ct_of hl (by decide +kernel) (Nat.le_of_ble_eq_true rfl) ?_
  intro p e s m args below meth c F hr hnm
  obtain ⟨hok, tf, kf, lf, mf, pf, sf, ⟨S, -⟩, hT, hbt, hbk, hR⟩ := A
  obtain ⟨ok1, ok2, ok3, ok4, ok5⟩ := hok
  refine j_aload_n F d_MO_find_0 rfl rfl ?_
  refine j_iconst F (v := 0) d_MO_find_1 (by decide) ?_
  refine j_put F (so_h S) (sz_h S) rfl in_MO ty_MO ok_MO nm_MO 0 (by decide) wf_MO_33 rfl (ty := .int) (by decide +kernel) rfl rfl (Nat.le_of_ble_eq_true rfl) d_MO_find_2 ?_
  refine j_nmW (P := fun M1 => mo_W G M M1 h ta ke le mo pl si 0 (nI σ.1.length) (nI σ.2.1.length) (cu_I σ.2.2) tf kf lf mf pf sf) (mw_fa (mo_rf S) 0) (fun M1 S1 => ?_)
  refine j_aload_n F d_MO_find_5 rfl rfl ?_
  refine j_get F (so_h S1.1) rfl in_MO 2 (by decide) wf_MO_36 rfl d_MO_find_6 ?_
  refine j_iconst F (v := 1) d_MO_find_9 (by decide) ?_
  refine j_icmp_lt F (tgt := 22) d_MO_find_10 (by decide) (fun hc => ?_) (fun hc => ?_)
  · skip
    have e0 : sp_find mm σ = (1, 0, σ) := if_pos (Or.inl ((nI_ltI (b := 1) (by omega) (by decide)).mp hc))
    rw [e0]
    refine j_aload_n F d_MO_find_22 rfl rfl ?_
    refine j_iconst F (v := 1) d_MO_find_23 (by decide) ?_
    refine j_callV F 1 (c_MO_fail hl S1.1 1) (so_h S1.1) rfl wl_MO_39 wim_MO_fail wse_MO_fail wi_MO wco_MO_fail (by decide +kernel) (by decide) rfl rfl (Nat.le_of_ble_eq_true rfl) (by decide) (by decide) d_MO_find_24 (fun E M1 hx => hx.elim) (fun r M1 hp => ?_)
    obtain ⟨rfl, W1⟩ := hp
    exact j_iret F hr (Nat.le_refl _) (Nat.le_refl _) ⟨rfl, ⟨ok1, ok2, ok3, ok4, ok5⟩, tf, kf, lf, mf, pf, sf, mw_tr S1 W1, hT, hbt, hbk, hR⟩ d_MO_find_27
  · skip
    refine j_aload_n F d_MO_find_13 rfl rfl ?_
    refine j_get F (so_h S1.1) rfl in_MO 2 (by decide) wf_MO_36 rfl d_MO_find_14 ?_
    refine j_bipush F (v := 40) d_MO_find_17 (by decide) ?_
    refine j_icmp_le F (tgt := 28) d_MO_find_19 (by decide) (fun hc2 => ?_) (fun hc2 => ?_)
    · skip
      have hk1 : 1 ≤ σ.1.length := Nat.not_lt.mp (fun z => hc ((nI_ltI (b := 1) (by omega) (by decide)).mpr z))
      have hk2 : σ.1.length ≤ 40 := (nI_leI (b := 40) (by omega) (by decide)).mp hc2
      have hs : sp_find mm σ = go_to σ.2.1 [] 2 (fi σ.2.1 σ.1 mm) (of_key σ.2.1 σ.1 (fi σ.2.1 σ.1 mm)) := if_neg (by omega)
      have hfl := fi_le σ.2.1 σ.1 mm
      refine j_aload_n F d_MO_find_28 rfl rfl ?_
      refine j_get F (so_h S1.1) rfl in_MO 2 (by decide) wf_MO_36 rfl d_MO_find_29 ?_
      refine j_istore_n F (lv1 := [(2, _), (0, _), (1, _)]) d_MO_find_32 rfl (by decide) rfl ?_
      refine j_aload_n F d_MO_find_33 rfl rfl ?_
      refine j_iconst F (v := 0) d_MO_find_34 (by decide) ?_
      refine j_put F (so_h S1.1) (sz_h S1.1) rfl in_MO ty_MO ok_MO nm_MO 2 (by decide) wf_MO_36 rfl (ty := .int) (by decide +kernel) rfl rfl (Nat.le_of_ble_eq_true rfl) d_MO_find_35 ?_
      refine j_nmW (P := fun M1 => mo_W G M M1 h ta ke le mo pl si 0 0 (nI σ.2.1.length) (cu_I σ.2.2) tf kf lf mf pf sf) (mw_tl S1 0) (fun M2 S2 => ?_)
      refine j_aload_n F d_MO_find_38 rfl rfl ?_
      refine j_iload_n F d_MO_find_39 rfl rfl ?_
      refine j_iload_n F d_MO_find_40 rfl rfl ?_
      refine j_callV F 2 (c_MO_before hl S2.1 hR hT (by omega) (mm := mm)) (so_h S2.1) rfl wl_MO_50 wim_MO_before wse_MO_before wi_MO wco_MO_before (by decide +kernel) (by decide) rfl rfl (Nat.le_of_ble_eq_true rfl) (by decide) (by decide) d_MO_find_41 (fun E M1 hx => hx.elim) (fun r M1 hp => ?_)
      obtain ⟨rfl, rfl⟩ := hp
      refine j_istore_n F (lv1 := [(3, _), (2, _), (0, _), (1, _)]) d_MO_find_44 rfl (by decide) rfl ?_
      refine j_aload_n F d_MO_find_45 rfl rfl ?_
      refine j_iload_n F d_MO_find_46 rfl rfl ?_
      refine j_iload_n F d_MO_find_47 rfl rfl ?_
      refine j_aload_n F d_MO_find_48 rfl rfl ?_
      refine j_get F (so_h S2.1) rfl in_MO 8 (by decide) wf_MO_43 rfl d_MO_find_49 ?_
      refine j_icmp_ge F (tgt := 74) d_MO_find_52 (by decide) (fun hc3 => ?_) (fun hc3 => ?_)
      · skip
        have h0 : σ.2.1.length ≤ fi σ.2.1 σ.1 mm := (nI_leI (by omega) (by omega)).mp hc3
        refine j_iconst F (v := 0) d_MO_find_74 (by decide) ?_
        refine j_iconst F (v := 2) d_MO_find_75 (by decide) ?_
        have e0 : sp_find mm σ = (2, 0, ([], σ.2.1, none)) := hs.trans (go_no (Or.inl h0))
        rw [e0]
        refine j_callV F 3 (c_MO_go0 hl S2.1 _ 2) (so_h S2.1) rfl wl_MO_58 wim_MO_go wse_MO_go wi_MO wco_MO_go (by decide +kernel) (by decide) rfl rfl (Nat.le_of_ble_eq_true rfl) (by decide) (by decide) d_MO_find_76 (fun E M1 hx => hx.elim) (fun r M1 hp => ?_)
        obtain ⟨rfl, W1⟩ := hp
        exact j_iret F hr (Nat.le_refl _) (Nat.le_refl _) ⟨rfl, sg_k ⟨ok1, ok2, ok3, ok4, ok5⟩ (fun i hi => by cases hi), tf, kf, lf, mf, pf, sf, mw_tr S2 W1, (tp_nil _), hbt, hbk, hR⟩ d_MO_find_79
      · skip
        have h0 : fi σ.2.1 σ.1 mm < σ.2.1.length := Nat.not_le.mp (fun z => hc3 ((nI_leI (by omega) (by omega)).mpr z))
        obtain ⟨e1, he1⟩ : ∃ e1, σ.2.1[fi σ.2.1 σ.1 mm]? = some e1 := ⟨_, List.getElem?_eq_getElem h0⟩
        obtain ⟨hE, -, h40⟩ := hR.2 _ e1 he1
        refine j_aload_n F d_MO_find_55 rfl rfl ?_
        refine j_iload_n F d_MO_find_56 rfl rfl ?_
        refine j_iload_n F d_MO_find_57 rfl rfl ?_
        refine j_aload_n F d_MO_find_58 rfl rfl ?_
        refine j_get F (so_h S2.1) rfl in_MO 5 (by decide) wf_MO_20 rfl d_MO_find_59 ?_
        refine j_iload_n F d_MO_find_62 rfl rfl ?_
        refine j_ialdN F (so_mo S2.1) (by omega) (by decide) d_MO_find_63 ?_
        refine j_val (y := e1.2.1) (hE.2.2.1) ?_
        refine j_callV F 3 (c_MO_compare hl S2.1 (by omega) hE hT h40 (by omega) (mm := e1.2.1)) (so_h S2.1) rfl wl_MO_46 wim_MO_compare wse_MO_compare wi_MO wco_MO_compare (by decide +kernel) (by decide) rfl rfl (Nat.le_of_ble_eq_true rfl) (by decide) (by decide) d_MO_find_64 (fun E M1 hx => hx.elim) (fun r M1 hp => ?_)
        obtain ⟨rfl, d, rfl, -, hd2⟩ := hp
        have hoc : oc e1 σ.1 e1.2.1 = 0 ↔ kc e1.1 σ.1 = 0 := by
          constructor
          · intro z
            by_cases hk : kc e1.1 σ.1 = 0
            · exact hk
            · rw [oc_k hk] at z; exact z
          · intro z
            rw [oc_m z, if_neg Int32.lt_irrefl, if_neg Int32.lt_irrefl]
        refine j_if_ne F (tgt := 74) d_MO_find_67 (by decide) (fun hc4 => ?_) (fun hc4 => ?_)
        · skip
          have hof : of_key σ.2.1 σ.1 (fi σ.2.1 σ.1 mm) = false := by unfold of_key; rw [he1]; simp; exact fun z => hc4 (hd2.mpr (hoc.mpr z))
          refine j_iconst F (v := 0) d_MO_find_74 (by decide) ?_
          refine j_iconst F (v := 2) d_MO_find_75 (by decide) ?_
          have e0 : sp_find mm σ = (2, 0, ([], σ.2.1, none)) := hs.trans (go_no (Or.inr hof))
          rw [e0]
          refine j_callV F 3 (c_MO_go0 hl S2.1 _ 2) (so_h S2.1) rfl wl_MO_58 wim_MO_go wse_MO_go wi_MO wco_MO_go (by decide +kernel) (by decide) rfl rfl (Nat.le_of_ble_eq_true rfl) (by decide) (by decide) d_MO_find_76 (fun E M1 hx => hx.elim) (fun r M1 hp => ?_)
          obtain ⟨rfl, W1⟩ := hp
          exact j_iret F hr (Nat.le_refl _) (Nat.le_refl _) ⟨rfl, sg_k ⟨ok1, ok2, ok3, ok4, ok5⟩ (fun i hi => by cases hi), tf, kf, lf, mf, pf, sf, mw_tr S2 W1, (tp_nil _), hbt, hbk, hR⟩ d_MO_find_79
        · skip
          have hof : of_key σ.2.1 σ.1 (fi σ.2.1 σ.1 mm) = true := by unfold of_key; rw [he1]; simp; exact hoc.mp (hd2.mp hc4)
          refine j_iconst F (v := 1) d_MO_find_70 (by decide) ?_
          refine j_goto F (tgt := 75) d_MO_find_71 (by decide) ?_
          refine j_iconst F (v := 2) d_MO_find_75 (by decide) ?_
          have e0 : sp_find mm σ = (0, e1.2.2.1, ([], σ.2.1, some (fi σ.2.1 σ.1 mm))) := by rw [hs, hof]; exact go_ok he1
          rw [e0]
          refine j_callV F 3 (c_MO_go1 hl S2.1 (v := fi σ.2.1 σ.1 mm) (by omega) 2) (so_h S2.1) rfl wl_MO_58 wim_MO_go wse_MO_go wi_MO wco_MO_go (by decide +kernel) (by decide) rfl rfl (Nat.le_of_ble_eq_true rfl) (by decide) (by decide) d_MO_find_76 (fun E M1 hx => hx.elim) (fun r M1 hp => ?_)
          obtain ⟨rfl, W1⟩ := hp
          exact j_iret F hr (Nat.le_refl _) (Nat.le_refl _) ⟨by rw [(hE).2.2.2.1], sg_k ⟨ok1, ok2, ok3, ok4, ok5⟩ (fun i hi => by cases hi; omega), tf, kf, lf, mf, pf, sf, mw_tr S2 W1, (tp_nil _), hbt, hbk, hR⟩ d_MO_find_79
    · skip
      have e0 : sp_find mm σ = (1, 0, σ) := if_pos (Or.inr (Nat.not_le.mp (fun z => hc2 ((nI_leI (b := 40) (by omega) (by decide)).mpr z))))
      rw [e0]
      refine j_aload_n F d_MO_find_22 rfl rfl ?_
      refine j_iconst F (v := 1) d_MO_find_23 (by decide) ?_
      refine j_callV F 1 (c_MO_fail hl S1.1 1) (so_h S1.1) rfl wl_MO_39 wim_MO_fail wse_MO_fail wi_MO wco_MO_fail (by decide +kernel) (by decide) rfl rfl (Nat.le_of_ble_eq_true rfl) (by decide) (by decide) d_MO_find_24 (fun E M1 hx => hx.elim) (fun r M1 hp => ?_)
      obtain ⟨rfl, W1⟩ := hp
      exact j_iret F hr (Nat.le_refl _) (Nat.le_refl _) ⟨rfl, ⟨ok1, ok2, ok3, ok4, ok5⟩, tf, kf, lf, mf, pf, sf, mw_tr S1 W1, hT, hbt, hbk, hR⟩ d_MO_find_27
set_option maxHeartbeats 4000000 in
set_option maxRecDepth 100000 in
theorem c_MO_seek (hl : l.stackTraces = false) (A : mo_A G M M h ta ke le mo pl si fa σ) (mm : Int32) (bb : Bool) : ct_C l G y_MO_seek b_MO_seek 5 (some .int) { frames := 2, cells := 0, slots := 0, locals := 48 } [.ref h, .int mm, .int (if bb then 1 else 0)] M (fun r M1 => r = some (.int (sp_seek mm bb σ).2.1) ∧ mo_A G M M1 h ta ke le mo pl si (nI (sp_seek mm bb σ).1) (sp_seek mm bb σ).2.2) (fun _ _ => False) := by
  refine ct_of hl (by decide +kernel) (Nat.le_of_ble_eq_true rfl) ?_
  intro p e s m args below meth c F hr hnm
  obtain ⟨hok, tf, kf, lf, mf, pf, sf, ⟨S, -⟩, hT, hbt, hbk, hR⟩ := A
  obtain ⟨ok1, ok2, ok3, ok4, ok5⟩ := hok
  refine j_aload_n F d_MO_seek_0 rfl rfl ?_
  refine j_iconst F (v := 0) d_MO_seek_1 (by decide) ?_
  refine j_put F (so_h S) (sz_h S) rfl in_MO ty_MO ok_MO nm_MO 0 (by decide) wf_MO_33 rfl (ty := .int) (by decide +kernel) rfl rfl (Nat.le_of_ble_eq_true rfl) d_MO_seek_2 ?_
  refine j_nmW (P := fun M1 => mo_W G M M1 h ta ke le mo pl si 0 (nI σ.1.length) (nI σ.2.1.length) (cu_I σ.2.2) tf kf lf mf pf sf) (mw_fa (mo_rf S) 0) (fun M1 S1 => ?_)
  refine j_aload_n F d_MO_seek_5 rfl rfl ?_
  refine j_get F (so_h S1.1) rfl in_MO 2 (by decide) wf_MO_36 rfl d_MO_seek_6 ?_
  refine j_bipush F (v := 40) d_MO_seek_9 (by decide) ?_
  refine j_icmp_le F (tgt := 20) d_MO_seek_11 (by decide) (fun hc => ?_) (fun hc => ?_)
  · skip
    have hk2 : σ.1.length ≤ 40 := (nI_leI (b := 40) (by omega) (by decide)).mp hc
    have hs : sp_seek mm bb σ = go_to σ.2.1 [] 2 (sk_v σ.2.1 σ.1 mm bb) true := if_neg (by omega)
    have hfl := fi_le σ.2.1 σ.1 mm
    refine j_aload_n F d_MO_seek_20 rfl rfl ?_
    refine j_get F (so_h S1.1) rfl in_MO 2 (by decide) wf_MO_36 rfl d_MO_seek_21 ?_
    refine j_istore_n F (lv1 := [(3, _), (0, _), (1, _), (2, _)]) d_MO_seek_24 rfl (by decide) rfl ?_
    refine j_aload_n F d_MO_seek_25 rfl rfl ?_
    refine j_iconst F (v := 0) d_MO_seek_26 (by decide) ?_
    refine j_put F (so_h S1.1) (sz_h S1.1) rfl in_MO ty_MO ok_MO nm_MO 2 (by decide) wf_MO_36 rfl (ty := .int) (by decide +kernel) rfl rfl (Nat.le_of_ble_eq_true rfl) d_MO_seek_27 ?_
    refine j_nmW (P := fun M1 => mo_W G M M1 h ta ke le mo pl si 0 0 (nI σ.2.1.length) (cu_I σ.2.2) tf kf lf mf pf sf) (mw_tl S1 0) (fun M2 S2 => ?_)
    refine j_aload_n F d_MO_seek_30 rfl rfl ?_
    refine j_iload_n F d_MO_seek_31 rfl rfl ?_
    refine j_iload_n F d_MO_seek_32 rfl rfl ?_
    refine j_callV F 2 (c_MO_before hl S2.1 hR hT (by omega) (mm := mm)) (so_h S2.1) rfl wl_MO_50 wim_MO_before wse_MO_before wi_MO wco_MO_before (by decide +kernel) (by decide) rfl rfl (Nat.le_of_ble_eq_true rfl) (by decide) (by decide) d_MO_seek_33 (fun E M1 hx => hx.elim) (fun r M1 hp => ?_)
    obtain ⟨rfl, rfl⟩ := hp
    refine j_istore F (lv1 := [(4, _), (3, _), (0, _), (1, _), (2, _)]) d_MO_seek_36 (by decide) rfl ?_
    refine j_cut (α := Unit) (fun _ => True) (fun _ => M2) (fun _ => 0) (fun _ => 0) (fun _ => [(4, .int (nI (sk_v σ.2.1 σ.1 mm bb))), (3, .int (nI σ.1.length)), (0, .ref h), (1, .int mm), (2, .int (if bb then 1 else 0))]) 65 (fun _ => []) ?_ (fun at65 => ?_)
    · skip
      intro _ _
      have hvl : sk_v σ.2.1 σ.1 mm bb ≤ σ.2.1.length := by
        unfold sk_v
        split
        · rename_i z
          simp only [Bool.and_eq_true] at z
          exact hit_le z.2
        · exact hfl
      refine j_aload_n F d_MO_seek_65 rfl rfl ?_
      refine j_iload F d_MO_seek_66 rfl ?_
      refine j_iload F d_MO_seek_68 rfl ?_
      refine j_aload_n F d_MO_seek_70 rfl rfl ?_
      refine j_get F (so_h S2.1) rfl in_MO 8 (by decide) wf_MO_43 rfl d_MO_seek_71 ?_
      refine j_icmp_ge F (tgt := 81) d_MO_seek_74 (by decide) (fun hc3 => ?_) (fun hc3 => ?_)
      · skip
        have h0 : σ.2.1.length ≤ sk_v σ.2.1 σ.1 mm bb := (nI_leI (by omega) (by omega)).mp hc3
        refine j_iconst F (v := 0) d_MO_seek_81 (by decide) ?_
        refine j_iconst F (v := 2) d_MO_seek_82 (by decide) ?_
        have e0 : sp_seek mm bb σ = (2, 0, ([], σ.2.1, none)) := hs.trans (go_no (Or.inl h0))
        rw [e0]
        refine j_callV F 3 (c_MO_go0 hl S2.1 _ 2) (so_h S2.1) rfl wl_MO_58 wim_MO_go wse_MO_go wi_MO wco_MO_go (by decide +kernel) (by decide) rfl rfl (Nat.le_of_ble_eq_true rfl) (by decide) (by decide) d_MO_seek_83 (fun E M1 hx => hx.elim) (fun r M1 hp => ?_)
        obtain ⟨rfl, W1⟩ := hp
        exact j_iret F hr (Nat.le_refl _) (Nat.le_refl _) ⟨rfl, sg_k ⟨ok1, ok2, ok3, ok4, ok5⟩ (fun i hi => by cases hi), tf, kf, lf, mf, pf, sf, mw_tr S2 W1, (tp_nil _), hbt, hbk, hR⟩ d_MO_seek_86
      · skip
        have h0 : sk_v σ.2.1 σ.1 mm bb < σ.2.1.length := Nat.not_le.mp (fun z => hc3 ((nI_leI (by omega) (by omega)).mpr z))
        obtain ⟨e1, he1⟩ : ∃ e1, σ.2.1[sk_v σ.2.1 σ.1 mm bb]? = some e1 := ⟨_, List.getElem?_eq_getElem h0⟩
        refine j_iconst F (v := 1) d_MO_seek_77 (by decide) ?_
        refine j_goto F (tgt := 82) d_MO_seek_78 (by decide) ?_
        refine j_iconst F (v := 2) d_MO_seek_82 (by decide) ?_
        have e0 : sp_seek mm bb σ = (0, e1.2.2.1, ([], σ.2.1, some (sk_v σ.2.1 σ.1 mm bb))) := hs.trans (go_ok he1)
        rw [e0]
        refine j_callV F 3 (c_MO_go1 hl S2.1 (v := sk_v σ.2.1 σ.1 mm bb) (by omega) 2) (so_h S2.1) rfl wl_MO_58 wim_MO_go wse_MO_go wi_MO wco_MO_go (by decide +kernel) (by decide) rfl rfl (Nat.le_of_ble_eq_true rfl) (by decide) (by decide) d_MO_seek_83 (fun E M1 hx => hx.elim) (fun r M1 hp => ?_)
        obtain ⟨rfl, W1⟩ := hp
        exact j_iret F hr (Nat.le_refl _) (Nat.le_refl _) ⟨by rw [((hR.2 _ e1 he1).1).2.2.2.1], sg_k ⟨ok1, ok2, ok3, ok4, ok5⟩ (fun i hi => by cases hi; omega), tf, kf, lf, mf, pf, sf, mw_tr S2 W1, (tp_nil _), hbt, hbk, hR⟩ d_MO_seek_86
    refine j_iload_n F d_MO_seek_38 rfl rfl ?_
    refine j_if_eq F (tgt := 65) d_MO_seek_39 (by decide) (fun hc4 => ?_) (fun hc4 => ?_)
    · skip
      have hbb : bb = false := by cases bb with
        | false => rfl
        | true => exact absurd hc4 (by decide)
      have hv : sk_v σ.2.1 σ.1 mm bb = fi σ.2.1 σ.1 mm := by unfold sk_v; rw [hbb]; rfl
      have := at65 () trivial
      rw [hv] at this
      exact this
    · skip
      have hbb : bb = true := by cases bb with
        | true => rfl
        | false => exact absurd rfl hc4
      refine j_iload F d_MO_seek_42 rfl ?_
      refine j_aload_n F d_MO_seek_44 rfl rfl ?_
      refine j_get F (so_h S2.1) rfl in_MO 8 (by decide) wf_MO_43 rfl d_MO_seek_45 ?_
      refine j_icmp_ge F (tgt := 65) d_MO_seek_48 (by decide) (fun hc5 => ?_) (fun hc5 => ?_)
      · skip
        have h0 : σ.2.1.length ≤ fi σ.2.1 σ.1 mm := (nI_leI (by omega) (by omega)).mp hc5
        have hv : sk_v σ.2.1 σ.1 mm bb = fi σ.2.1 σ.1 mm := by unfold sk_v; rw [hit_no h0, Bool.and_false]; rfl
        have := at65 () trivial
        rw [hv] at this
        exact this
      · skip
        have h0 : fi σ.2.1 σ.1 mm < σ.2.1.length := Nat.not_le.mp (fun z => hc5 ((nI_leI (by omega) (by omega)).mpr z))
        obtain ⟨e1, he1⟩ : ∃ e1, σ.2.1[fi σ.2.1 σ.1 mm]? = some e1 := ⟨_, List.getElem?_eq_getElem h0⟩
        obtain ⟨hE, -, h40⟩ := hR.2 _ e1 he1
        refine j_aload_n F d_MO_seek_51 rfl rfl ?_
        refine j_iload F d_MO_seek_52 rfl ?_
        refine j_iload_n F d_MO_seek_54 rfl rfl ?_
        refine j_iload_n F d_MO_seek_55 rfl rfl ?_
        refine j_callV F 3 (c_MO_compare hl S2.1 (by omega) hE hT h40 (by omega) (mm := mm)) (so_h S2.1) rfl wl_MO_46 wim_MO_compare wse_MO_compare wi_MO wco_MO_compare (by decide +kernel) (by decide) rfl rfl (Nat.le_of_ble_eq_true rfl) (by decide) (by decide) d_MO_seek_56 (fun E M1 hx => hx.elim) (fun r M1 hp => ?_)
        obtain ⟨rfl, d, rfl, -, hd2⟩ := hp
        refine j_if_ne F (tgt := 65) d_MO_seek_59 (by decide) (fun hc6 => ?_) (fun hc6 => ?_)
        · skip
          have hno : ¬ hit σ.2.1 σ.1 mm = true := fun z => hc6 (hd2.mpr ((hit_of he1).mp z))
          have hv : sk_v σ.2.1 σ.1 mm bb = fi σ.2.1 σ.1 mm := by unfold sk_v; rw [hbb, Bool.true_and, if_neg hno]
          have := at65 () trivial
          rw [hv] at this
          exact this
        · skip
          have hyes : hit σ.2.1 σ.1 mm = true := (hit_of he1).mpr (hd2.mp hc6)
          have hv : sk_v σ.2.1 σ.1 mm bb = fi σ.2.1 σ.1 mm + 1 := by unfold sk_v; rw [hbb, Bool.true_and, if_pos hyes]
          refine j_iinc F (lv1 := [(4, _), (3, _), (0, _), (1, _), (2, _)]) d_MO_seek_62 rfl (nI_1 _) (by decide) rfl ?_
          have := at65 () trivial
          rw [hv] at this
          exact this
  · skip
    have e0 : sp_seek mm bb σ = (1, 0, σ) := if_pos (Nat.not_le.mp (fun z => hc ((nI_leI (b := 40) (by omega) (by decide)).mpr z)))
    rw [e0]
    refine j_aload_n F d_MO_seek_14 rfl rfl ?_
    refine j_iconst F (v := 1) d_MO_seek_15 (by decide) ?_
    refine j_callV F 1 (c_MO_fail hl S1.1 1) (so_h S1.1) rfl wl_MO_39 wim_MO_fail wse_MO_fail wi_MO wco_MO_fail (by decide +kernel) (by decide) rfl rfl (Nat.le_of_ble_eq_true rfl) (by decide) (by decide) d_MO_seek_16 (fun E M1 hx => hx.elim) (fun r M1 hp => ?_)
    obtain ⟨rfl, W1⟩ := hp
    exact j_iret F hr (Nat.le_refl _) (Nat.le_refl _) ⟨rfl, ⟨ok1, ok2, ok3, ok4, ok5⟩, tf, kf, lf, mf, pf, sf, mw_tr S1 W1, hT, hbt, hbk, hR⟩ d_MO_seek_19
end MO4
