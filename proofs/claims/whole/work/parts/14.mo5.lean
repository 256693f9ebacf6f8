theorem cu_some {σ : sg_T} {c : Nat} (h : σ.2.2 = some c) : cu_E σ = σ.2.1[c]? := by unfold cu_E; rw [h]
theorem cu_none {σ : sg_T} (h : σ.2.2 = none) : cu_E σ = none := by unfold cu_E; rw [h]
theorem tp_app {k : ke_T} {tf : Nat → Int32} (x : Int32) (h : tp_R k tf) : tp_R (k ++ [x]) (upd tf k.length x) := by
  intro j hj
  rw [List.length_append] at hj
  simp only [List.length_cons, List.length_nil] at hj
  by_cases hjk : j = k.length
  · subst hjk
    rw [pk_us]
    simp [List.getD_eq_getElem?_getD]
  · rw [pk_un hjk, h j (by omega)]
    simp only [List.getD_eq_getElem?_getD]
    rw [List.getElem?_append_left (by omega)]
theorem ta_succ (k l : ke_T) {j : Nat} (hj : j < l.length) : k ++ l.take (j + 1) = (k ++ l.take j) ++ [l.getD j 0] := by
  rw [List.take_add_one, List.append_assoc, List.getD_eq_getElem?_getD, List.getElem?_eq_getElem hj]
  rfl
theorem ta_len (k l : ke_T) {j : Nat} (hj : j ≤ l.length) : (k ++ l.take j).length = k.length + j := by
  rw [List.length_append, List.length_take]
  omega
theorem sh_8 {j : Nat} : (24 : Int32) - 8 * nI (j % 4) = nI (24 - 8 * (j % 4)) := by
  have h : j % 4 < 4 := Nat.mod_lt _ (by decide)
  rw [show (24 : Int32) = nI 24 from rfl, show (8 : Int32) = nI 8 from rfl, pk_mul, pk_sub (by omega)]
theorem re_4 {j : Nat} (hj : j < 20) : nI j - nI j / 4 * 4 = nI (j % 4) := pk_rem (d := 4) (by omega) (by decide) (by decide)
section MO5
variable {es : List en_T} {σ : sg_T} {l : Launch} {G : gv_T} {M M0 : mp_T} {h ta ke le mo pl si : Nat} {fa tl sz ap : Int32} {tf kf lf mf pf sf : Nat → Int32}
set_option maxHeartbeats 4000000 in
set_option maxRecDepth 100000 in
theorem c_MO_current (hl : l.stackTraces = false) (A : mo_A G M M h ta ke le mo pl si fa σ) (w : Int32) : ct_C l G y_MO_current b_MO_current 2 (some .int) { frames := 1, cells := 0, slots := 0, locals := 21 } [.ref h, .int w] M (fun r M1 => r = some (.int (sp_current w σ).2.1) ∧ mo_A G M M1 h ta ke le mo pl si (nI (sp_current w σ).1) (sp_current w σ).2.2) (fun _ _ => False) := by
  refine ct_of hl (by decide +kernel) (Nat.le_of_ble_eq_true rfl) ?_
  intro p e s m args below meth c F hr hnm
  obtain ⟨hok, tf, kf, lf, mf, pf, sf, ⟨S, -⟩, hT, hbt, hbk, hR⟩ := A
  obtain ⟨ok1, ok2, ok3, ok4, ok5⟩ := hok
  refine j_aload_n F d_MO_current_0 rfl rfl ?_
  refine j_iconst F (v := 0) d_MO_current_1 (by decide) ?_
  refine j_put F (so_h S) (sz_h S) rfl in_MO ty_MO ok_MO nm_MO 0 (by decide) wf_MO_33 rfl (ty := .int) (by decide +kernel) rfl rfl (Nat.le_of_ble_eq_true rfl) d_MO_current_2 ?_
  refine j_nmW (P := fun M1 => mo_W G M M1 h ta ke le mo pl si 0 (nI σ.1.length) (nI σ.2.1.length) (cu_I σ.2.2) tf kf lf mf pf sf) (mw_fa (mo_rf S) 0) (fun M1 S1 => ?_)
  refine j_iload_n F d_MO_current_5 rfl rfl ?_
  refine j_if_lt F (tgt := 14) d_MO_current_6 (by decide) (fun hc => ?_) (fun hc => ?_)
  · skip
    have e0 : sp_current w σ = (1, 0, σ) := if_pos (Or.inl hc)
    rw [e0]
    refine j_aload_n F d_MO_current_14 rfl rfl ?_
    refine j_iconst F (v := 1) d_MO_current_15 (by decide) ?_
    refine j_callV F 1 (c_MO_fail hl S1.1 1) (so_h S1.1) rfl wl_MO_39 wim_MO_fail wse_MO_fail wi_MO wco_MO_fail (by decide +kernel) (by decide) rfl rfl (Nat.le_of_ble_eq_true rfl) (by decide) (by decide) d_MO_current_16 (fun E M1 hx => hx.elim) (fun r M1 hp => ?_)
    obtain ⟨rfl, W1⟩ := hp
    exact j_iret F hr (Nat.le_refl _) (Nat.le_refl _) ⟨rfl, ⟨ok1, ok2, ok3, ok4, ok5⟩, tf, kf, lf, mf, pf, sf, mw_tr S1 W1, hT, hbt, hbk, hR⟩ d_MO_current_19
  · skip
    refine j_iload_n F d_MO_current_9 rfl rfl ?_
    refine j_iconst F (v := 3) d_MO_current_10 (by decide) ?_
    refine j_icmp_le F (tgt := 20) d_MO_current_11 (by decide) (fun hc2 => ?_) (fun hc2 => ?_)
    · skip
      have hs : sp_current w σ = match cu_E σ with
        | none => (2, 0, σ)
        | some e => (0, if w = 0 then e.2.1 else if w = 1 then e.2.2.1 else if w = 2 then e.2.2.2 else nI e.1.length, σ) := if_neg (fun z => z.elim hc (fun z => absurd hc2 (Int32.not_le.mpr z)))
      cases hcur : σ.2.2 with
      | none =>
        rw [hcur] at S1
        refine j_aload_n F d_MO_current_20 rfl rfl ?_
        refine j_get F (so_h S1.1) rfl in_MO 9 (by decide) wf_MO_29 rfl d_MO_current_21 ?_
        refine j_if_ge F (tgt := 33) d_MO_current_24 (by decide) (fun hc => absurd hc (by decide)) (fun hc => ?_)
        have e0 : sp_current w σ = (2, 0, σ) := by rw [hs, cu_none hcur]
        rw [e0]
        refine j_aload_n F d_MO_current_27 rfl rfl ?_
        refine j_iconst F (v := 2) d_MO_current_28 (by decide) ?_
        refine j_callV F 1 (c_MO_fail hl S1.1 2) (so_h S1.1) rfl wl_MO_39 wim_MO_fail wse_MO_fail wi_MO wco_MO_fail (by decide +kernel) (by decide) rfl rfl (Nat.le_of_ble_eq_true rfl) (by decide) (by decide) d_MO_current_29 (fun E M1 hx => hx.elim) (fun r M1 hp => ?_)
        obtain ⟨rfl, W1⟩ := hp
        exact j_iret F hr (Nat.le_refl _) (Nat.le_refl _) ⟨rfl, ⟨ok1, ok2, ok3, ok4, ok5⟩, tf, kf, lf, mf, pf, sf, by dsimp only; rw [hcur]; exact mw_tr S1 W1, hT, hbt, hbk, hR⟩ d_MO_current_32
      | some cc0 =>
        rw [hcur] at S1
        have hcl := ok5 cc0 hcur
        obtain ⟨e1, he1⟩ : ∃ e1, σ.2.1[cc0]? = some e1 := ⟨_, List.getElem?_eq_getElem hcl⟩
        obtain ⟨hE, -, h40⟩ := hR.2 _ e1 he1
        have hs2 : sp_current w σ = (0, if w = 0 then e1.2.1 else if w = 1 then e1.2.2.1 else if w = 2 then e1.2.2.2 else nI e1.1.length, σ) := by rw [hs, cu_some hcur, he1]
        rw [hs2]
        refine j_aload_n F d_MO_current_20 rfl rfl ?_
        refine j_get F (so_h S1.1) rfl in_MO 9 (by decide) wf_MO_29 rfl d_MO_current_21 ?_
        refine j_if_ge F (tgt := 33) d_MO_current_24 (by decide) (fun hc => ?_) (fun hc => absurd (nI_pos' (by omega)) hc)
        refine j_iload_n F d_MO_current_33 rfl rfl ?_
        refine j_if_ne F (tgt := 49) d_MO_current_34 (by decide) (fun hw0 => ?_) (fun hw0 => ?_)
        · skip
          refine j_iload_n F d_MO_current_49 rfl rfl ?_
          refine j_iconst F (v := 1) d_MO_current_50 (by decide) ?_
          refine j_icmp_ne F (tgt := 66) d_MO_current_51 (by decide) (fun hw1 => ?_) (fun hw1 => ?_)
          · skip
            refine j_iload_n F d_MO_current_66 rfl rfl ?_
            refine j_iconst F (v := 2) d_MO_current_67 (by decide) ?_
            refine j_icmp_ne F (tgt := 83) d_MO_current_68 (by decide) (fun hw2 => ?_) (fun hw2 => ?_)
            · skip
              refine j_aload_n F d_MO_current_83 rfl rfl ?_
              refine j_get F (so_h S1.1) rfl in_MO 4 (by decide) wf_MO_16 rfl d_MO_current_84 ?_
              refine j_aload_n F d_MO_current_87 rfl rfl ?_
              refine j_get F (so_h S1.1) rfl in_MO 9 (by decide) wf_MO_29 rfl d_MO_current_88 ?_
              refine j_ialdN F (so_le S1.1) (by omega) (by decide) d_MO_current_91 ?_
              exact j_iret F hr (Nat.le_refl _) (Nat.le_refl _) ⟨by dsimp only; rw [if_neg hw0, if_neg hw1, if_neg hw2, hE.1], ⟨ok1, ok2, ok3, ok4, ok5⟩, tf, kf, lf, mf, pf, sf, by dsimp only; rw [hcur]; exact S1, hT, hbt, hbk, hR⟩ d_MO_current_92
            · skip
              refine j_aload_n F d_MO_current_71 rfl rfl ?_
              refine j_get F (so_h S1.1) rfl in_MO 7 (by decide) wf_MO_26 rfl d_MO_current_72 ?_
              refine j_aload_n F d_MO_current_75 rfl rfl ?_
              refine j_get F (so_h S1.1) rfl in_MO 9 (by decide) wf_MO_29 rfl d_MO_current_76 ?_
              refine j_ialdN F (so_si S1.1) (by omega) (by decide) d_MO_current_79 ?_
              refine j_goto F (tgt := 92) d_MO_current_80 (by decide) ?_
              exact j_iret F hr (Nat.le_refl _) (Nat.le_refl _) ⟨by dsimp only; rw [if_neg hw0, if_neg hw1, if_pos hw2, hE.2.2.2.2], ⟨ok1, ok2, ok3, ok4, ok5⟩, tf, kf, lf, mf, pf, sf, by dsimp only; rw [hcur]; exact S1, hT, hbt, hbk, hR⟩ d_MO_current_92
          · skip
            refine j_aload_n F d_MO_current_54 rfl rfl ?_
            refine j_get F (so_h S1.1) rfl in_MO 6 (by decide) wf_MO_23 rfl d_MO_current_55 ?_
            refine j_aload_n F d_MO_current_58 rfl rfl ?_
            refine j_get F (so_h S1.1) rfl in_MO 9 (by decide) wf_MO_29 rfl d_MO_current_59 ?_
            refine j_ialdN F (so_pl S1.1) (by omega) (by decide) d_MO_current_62 ?_
            refine j_goto F (tgt := 92) d_MO_current_63 (by decide) ?_
            exact j_iret F hr (Nat.le_refl _) (Nat.le_refl _) ⟨by dsimp only; rw [if_neg hw0, if_pos hw1, hE.2.2.2.1], ⟨ok1, ok2, ok3, ok4, ok5⟩, tf, kf, lf, mf, pf, sf, by dsimp only; rw [hcur]; exact S1, hT, hbt, hbk, hR⟩ d_MO_current_92
        · skip
          refine j_aload_n F d_MO_current_37 rfl rfl ?_
          refine j_get F (so_h S1.1) rfl in_MO 5 (by decide) wf_MO_20 rfl d_MO_current_38 ?_
          refine j_aload_n F d_MO_current_41 rfl rfl ?_
          refine j_get F (so_h S1.1) rfl in_MO 9 (by decide) wf_MO_29 rfl d_MO_current_42 ?_
          refine j_ialdN F (so_mo S1.1) (by omega) (by decide) d_MO_current_45 ?_
          refine j_goto F (tgt := 92) d_MO_current_46 (by decide) ?_
          exact j_iret F hr (Nat.le_refl _) (Nat.le_refl _) ⟨by dsimp only; rw [if_pos hw0, hE.2.2.1], ⟨ok1, ok2, ok3, ok4, ok5⟩, tf, kf, lf, mf, pf, sf, by dsimp only; rw [hcur]; exact S1, hT, hbt, hbk, hR⟩ d_MO_current_92
    · skip
      have e0 : sp_current w σ = (1, 0, σ) := if_pos (Or.inr (Int32.not_le.mp hc2))
      rw [e0]
      refine j_aload_n F d_MO_current_14 rfl rfl ?_
      refine j_iconst F (v := 1) d_MO_current_15 (by decide) ?_
      refine j_callV F 1 (c_MO_fail hl S1.1 1) (so_h S1.1) rfl wl_MO_39 wim_MO_fail wse_MO_fail wi_MO wco_MO_fail (by decide +kernel) (by decide) rfl rfl (Nat.le_of_ble_eq_true rfl) (by decide) (by decide) d_MO_current_16 (fun E M1 hx => hx.elim) (fun r M1 hp => ?_)
      obtain ⟨rfl, W1⟩ := hp
      exact j_iret F hr (Nat.le_refl _) (Nat.le_refl _) ⟨rfl, ⟨ok1, ok2, ok3, ok4, ok5⟩, tf, kf, lf, mf, pf, sf, mw_tr S1 W1, hT, hbt, hbk, hR⟩ d_MO_current_19
set_option maxHeartbeats 4000000 in
set_option maxRecDepth 100000 in
theorem c_MO_word (hl : l.stackTraces = false) (A : mo_A G M M h ta ke le mo pl si fa σ) (i : Int32) : ct_C l G y_MO_word b_MO_word 5 (some .long) { frames := 1, cells := 0, slots := 0, locals := 21 } [.ref h, .int i] M (fun r M1 => r = some (.long (sp_word i σ).2.1) ∧ mo_A G M M1 h ta ke le mo pl si (nI (sp_word i σ).1) (sp_word i σ).2.2) (fun _ _ => False) := by
  refine ct_of hl (by decide +kernel) (Nat.le_of_ble_eq_true rfl) ?_
  intro p e s m args below meth c F hr hnm
  obtain ⟨hok, tf, kf, lf, mf, pf, sf, ⟨S, -⟩, hT, hbt, hbk, hR⟩ := A
  obtain ⟨ok1, ok2, ok3, ok4, ok5⟩ := hok
  refine j_aload_n F d_MO_word_0 rfl rfl ?_
  refine j_iconst F (v := 0) d_MO_word_1 (by decide) ?_
  refine j_put F (so_h S) (sz_h S) rfl in_MO ty_MO ok_MO nm_MO 0 (by decide) wf_MO_33 rfl (ty := .int) (by decide +kernel) rfl rfl (Nat.le_of_ble_eq_true rfl) d_MO_word_2 ?_
  refine j_nmW (P := fun M1 => mo_W G M M1 h ta ke le mo pl si 0 (nI σ.1.length) (nI σ.2.1.length) (cu_I σ.2.2) tf kf lf mf pf sf) (mw_fa (mo_rf S) 0) (fun M1 S1 => ?_)
  cases hcur : σ.2.2 with
  | none =>
    rw [hcur] at S1
    have e0 : sp_word i σ = (1, 0, σ) := by unfold sp_word; rw [cu_none hcur]
    rw [e0]
    refine j_aload_n F d_MO_word_5 rfl rfl ?_
    refine j_get F (so_h S1.1) rfl in_MO 9 (by decide) wf_MO_29 rfl d_MO_word_6 ?_
    refine j_if_ge F (tgt := 19) d_MO_word_9 (by decide) (fun hc => absurd hc (by decide)) (fun hc => ?_)
    refine j_aload_n F d_MO_word_12 rfl rfl ?_
    refine j_iconst F (v := 1) d_MO_word_13 (by decide) ?_
    refine j_callV F 1 (c_MO_fail hl S1.1 1) (so_h S1.1) rfl wl_MO_39 wim_MO_fail wse_MO_fail wi_MO wco_MO_fail (by decide +kernel) (by decide) rfl rfl (Nat.le_of_ble_eq_true rfl) (by decide) (by decide) d_MO_word_14 (fun E M1 hx => hx.elim) (fun r M1 hp => ?_)
    obtain ⟨rfl, W1⟩ := hp
    refine j_i2l F d_MO_word_17 rfl ?_
    exact j_lret F hr (Nat.le_refl _) (Nat.le_refl _) ⟨rfl, ⟨ok1, ok2, ok3, ok4, ok5⟩, tf, kf, lf, mf, pf, sf, by dsimp only; rw [hcur]; exact mw_tr S1 W1, hT, hbt, hbk, hR⟩ d_MO_word_18
  | some cc0 =>
    rw [hcur] at S1
    have hcl := ok5 cc0 hcur
    obtain ⟨e1, he1⟩ : ∃ e1, σ.2.1[cc0]? = some e1 := ⟨_, List.getElem?_eq_getElem hcl⟩
    obtain ⟨hE, -, h40⟩ := hR.2 _ e1 he1
    have hs : sp_word i σ = if i < 0 ∨ nI e1.1.length ≤ i then (2, 0, σ) else (0, wo_8 e1.1 i.toNatClampNeg 8, σ) := by unfold sp_word; rw [cu_some hcur, he1]
    refine j_aload_n F d_MO_word_5 rfl rfl ?_
    refine j_get F (so_h S1.1) rfl in_MO 9 (by decide) wf_MO_29 rfl d_MO_word_6 ?_
    refine j_if_ge F (tgt := 19) d_MO_word_9 (by decide) (fun hc => ?_) (fun hc => absurd (nI_pos' (by omega)) hc)
    refine j_iload_n F d_MO_word_19 rfl rfl ?_
    refine j_if_lt F (tgt := 36) d_MO_word_20 (by decide) (fun hc1 => ?_) (fun hc1 => ?_)
    · skip
      have e0 : sp_word i σ = (2, 0, σ) := hs.trans (if_pos (Or.inl hc1))
      rw [e0]
      refine j_aload_n F d_MO_word_36 rfl rfl ?_
      refine j_iconst F (v := 2) d_MO_word_37 (by decide) ?_
      refine j_callV F 1 (c_MO_fail hl S1.1 2) (so_h S1.1) rfl wl_MO_39 wim_MO_fail wse_MO_fail wi_MO wco_MO_fail (by decide +kernel) (by decide) rfl rfl (Nat.le_of_ble_eq_true rfl) (by decide) (by decide) d_MO_word_38 (fun E M1 hx => hx.elim) (fun r M1 hp => ?_)
      obtain ⟨rfl, W1⟩ := hp
      refine j_i2l F d_MO_word_41 rfl ?_
      exact j_lret F hr (Nat.le_refl _) (Nat.le_refl _) ⟨rfl, ⟨ok1, ok2, ok3, ok4, ok5⟩, tf, kf, lf, mf, pf, sf, by dsimp only; rw [hcur]; exact mw_tr S1 W1, hT, hbt, hbk, hR⟩ d_MO_word_42
    · skip
      refine j_iload_n F d_MO_word_23 rfl rfl ?_
      refine j_aload_n F d_MO_word_24 rfl rfl ?_
      refine j_get F (so_h S1.1) rfl in_MO 4 (by decide) wf_MO_16 rfl d_MO_word_25 ?_
      refine j_aload_n F d_MO_word_28 rfl rfl ?_
      refine j_get F (so_h S1.1) rfl in_MO 9 (by decide) wf_MO_29 rfl d_MO_word_29 ?_
      refine j_ialdN F (so_le S1.1) (by omega) (by decide) d_MO_word_32 ?_
      refine j_val (y := nI e1.1.length) (hE.1) ?_
      refine j_icmp_lt F (tgt := 43) d_MO_word_33 (by decide) (fun hc2 => ?_) (fun hc2 => ?_)
      · skip
        obtain ⟨i0, hi1, rfl⟩ := nI_of hc1
        have hi2 : i0 < e1.1.length := (nI_ltI (by omega) (by omega)).mp hc2
        have e0 : sp_word (nI i0) σ = (0, wo_8 e1.1 i0 8, σ) := by rw [hs, if_neg (fun z => z.elim hc1 (fun z => absurd hc2 (Int32.not_lt.mpr z))), nI_clamp hi1]
        rw [e0]
        refine j_lconst F (v := 0) d_MO_word_43 (by decide) ?_
        refine j_lstore_n F (lv1 := [(2, _), (0, _), (1, _)]) d_MO_word_44 rfl (by decide) rfl ?_
        refine j_iload_n F d_MO_word_45 rfl rfl ?_
        refine j_istore F (lv1 := [(4, _), (2, _), (0, _), (1, _)]) d_MO_word_46 (by decide) rfl ?_
        refine j_lv (lv1 := [(4, .int (nI (i0 + 0))), (2, .long (wo_8 e1.1 i0 0)), (0, .ref h), (1, .int (nI i0))]) rfl ?_
        refine j_ind (α := Nat) (fun n => 8 - n) (fun _ => M1) (fun _ => 0) (fun _ => 0) (fun n => [(4, .int (nI (i0 + n))), (2, .long (wo_8 e1.1 i0 n)), (0, .ref h), (1, .int (nI i0))]) (fun _ => []) (fun n => n ≤ 8) ?_ 0 (Nat.zero_le _)
        intro n hn ih
        refine j_iload F d_MO_word_48 rfl ?_
        refine j_iload_n F d_MO_word_50 rfl rfl ?_
        refine j_bipush F (v := 8) d_MO_word_51 (by decide) ?_
        refine j_iadd F d_MO_word_53 ?_
        refine j_val (y := nI (i0 + 8)) (nI_add i0 8) ?_
        refine j_icmp_ge F (tgt := 108) d_MO_word_54 (by decide) (fun hc3 => ?_) (fun hc3 => ?_)
        · skip
          have hn8 : n = 8 := by
            have := (nI_leI (a := i0 + 8) (b := i0 + n) (by omega) (by omega)).mp hc3
            omega
          subst hn8
          refine j_lload_n F d_MO_word_108 rfl rfl ?_
          exact j_lret F hr (Nat.le_refl _) (Nat.le_refl _) ⟨rfl, ⟨ok1, ok2, ok3, ok4, ok5⟩, tf, kf, lf, mf, pf, sf, by dsimp only; rw [hcur]; exact S1, hT, hbt, hbk, hR⟩ d_MO_word_109
        · skip
          have hn8 : n < 8 := by
            apply Nat.not_le.mp
            intro z
            exact hc3 ((nI_leI (by omega) (by omega)).mpr (by omega))
          refine j_lload_n F d_MO_word_57 rfl rfl ?_
          refine j_ldc2 F wk_MO_62 d_MO_word_58 ?_
          refine j_lmul F d_MO_word_61 ?_
          refine j_iload F d_MO_word_62 rfl ?_
          refine j_aload_n F d_MO_word_64 rfl rfl ?_
          refine j_get F (so_h S1.1) rfl in_MO 4 (by decide) wf_MO_16 rfl d_MO_word_65 ?_
          refine j_aload_n F d_MO_word_68 rfl rfl ?_
          refine j_get F (so_h S1.1) rfl in_MO 9 (by decide) wf_MO_29 rfl d_MO_word_69 ?_
          refine j_ialdN F (so_le S1.1) (by omega) (by decide) d_MO_word_72 ?_
          refine j_val (y := nI e1.1.length) (hE.1) ?_
          refine j_cut (α := Unit) (fun _ => True) (fun _ => M1) (fun _ => 0) (fun _ => 0) (fun _ => [(4, .int (nI (i0 + n))), (2, .long (wo_8 e1.1 i0 n)), (0, .ref h), (1, .int (nI i0))]) 99 (fun _ => [.int (wo_b e1.1 (i0 + n)), .long (wo_8 e1.1 i0 n * 256)]) ?_ (fun at99 => ?_)
          · skip
            intro _ _
            refine j_i2l F d_MO_word_99 rfl ?_
            refine j_ladd F d_MO_word_100 ?_
            refine j_lstore_n F (lv1 := [(2, _), (4, _), (0, _), (1, _)]) d_MO_word_101 rfl (by decide) rfl ?_
            refine j_iinc F (lv1 := [(4, _), (2, _), (0, _), (1, _)]) d_MO_word_102 rfl (nI_1 _) (by decide) rfl ?_
            refine j_goto F (tgt := 48) d_MO_word_105 (by decide) ?_
            exact ih (n + 1) hn8 (by omega)
          refine j_icmp_ge F (tgt := 98) d_MO_word_73 (by decide) (fun hc4 => ?_) (fun hc4 => ?_)
          · skip
            have hge : e1.1.length ≤ i0 + n := (nI_leI (by omega) (by omega)).mp hc4
            have hwb : wo_b e1.1 (i0 + n) = 0 := if_neg (by omega)
            rw [hwb] at at99
            refine j_iconst F (v := 0) d_MO_word_98 (by decide) ?_
            exact at99 () trivial
          · skip
            have hlt : i0 + n < e1.1.length := Nat.not_le.mp (fun z => hc4 ((nI_leI (by omega) (by omega)).mpr z))
            have hwb : wo_b e1.1 (i0 + n) = nI (un (e1.1.getD (i0 + n) 0)) := if_pos hlt
            rw [hwb] at at99
            refine j_aload_n F d_MO_word_76 rfl rfl ?_
            refine j_get F (so_h S1.1) rfl in_MO 3 (by decide) wf_MO_13 rfl d_MO_word_77 ?_
            refine j_bipush F (v := 40) d_MO_word_80 (by decide) ?_
            refine j_aload_n F d_MO_word_82 rfl rfl ?_
            refine j_get F (so_h S1.1) rfl in_MO 9 (by decide) wf_MO_29 rfl d_MO_word_83 ?_
            refine j_imul F d_MO_word_86 ?_
            refine j_iload F d_MO_word_87 rfl ?_
            refine j_iadd F d_MO_word_89 ?_
            refine j_val (y := nI (40 * cc0 + (i0 + n))) (ix_40 cc0 (i0 + n)) ?_
            refine j_baldN F (so_ke S1.1) (by omega) (by decide) d_MO_word_90 ?_
            refine j_val (y := e1.1.getD (i0 + n) 0) (hE.2.1 _ hlt) ?_
            refine j_sipush F (v := 255) d_MO_word_91 (by decide) ?_
            refine j_iand F d_MO_word_94 ?_
            refine j_val (y := nI (un (e1.1.getD (i0 + n) 0))) (un_and _) ?_
            refine j_goto F (tgt := 99) d_MO_word_95 (by decide) ?_
            exact at99 () trivial
      · skip
        have e0 : sp_word i σ = (2, 0, σ) := hs.trans (if_pos (Or.inr (Int32.not_lt.mp hc2)))
        rw [e0]
        refine j_aload_n F d_MO_word_36 rfl rfl ?_
        refine j_iconst F (v := 2) d_MO_word_37 (by decide) ?_
        refine j_callV F 1 (c_MO_fail hl S1.1 2) (so_h S1.1) rfl wl_MO_39 wim_MO_fail wse_MO_fail wi_MO wco_MO_fail (by decide +kernel) (by decide) rfl rfl (Nat.le_of_ble_eq_true rfl) (by decide) (by decide) d_MO_word_38 (fun E M1 hx => hx.elim) (fun r M1 hp => ?_)
        obtain ⟨rfl, W1⟩ := hp
        refine j_i2l F d_MO_word_41 rfl ?_
        exact j_lret F hr (Nat.le_refl _) (Nat.le_refl _) ⟨rfl, ⟨ok1, ok2, ok3, ok4, ok5⟩, tf, kf, lf, mf, pf, sf, by dsimp only; rw [hcur]; exact mw_tr S1 W1, hT, hbt, hbk, hR⟩ d_MO_word_42
set_option maxHeartbeats 4000000 in
set_option maxRecDepth 100000 in
theorem c_MO_feed (hl : l.stackTraces = false) (A : mo_A G M M h ta ke le mo pl si fa σ) (a0 a1 a2 a3 a4 : Int32) : ct_C l G y_MO_feed b_MO_feed 8 (some .int) { frames := 1, cells := 0, slots := 0, locals := 21 } [.ref h, .int a0, .int a1, .int a2, .int a3, .int a4] M (fun r M1 => r = some (.int (sp_feed a0 a1 a2 a3 a4 σ).2.1) ∧ mo_A G M M1 h ta ke le mo pl si (nI (sp_feed a0 a1 a2 a3 a4 σ).1) (sp_feed a0 a1 a2 a3 a4 σ).2.2) (fun _ _ => False) := by
  refine ct_of hl (by decide +kernel) (Nat.le_of_ble_eq_true rfl) ?_
  intro p e s m args below meth c F hr hnm
  obtain ⟨hok, tf, kf, lf, mf, pf, sf, ⟨S, -⟩, hT, hbt, hbk, hR⟩ := A
  obtain ⟨ok1, ok2, ok3, ok4, ok5⟩ := hok
  refine j_aload_n F d_MO_feed_0 rfl rfl ?_
  refine j_iconst F (v := 0) d_MO_feed_1 (by decide) ?_
  refine j_put F (so_h S) (sz_h S) rfl in_MO ty_MO ok_MO nm_MO 0 (by decide) wf_MO_33 rfl (ty := .int) (by decide +kernel) rfl rfl (Nat.le_of_ble_eq_true rfl) d_MO_feed_2 ?_
  refine j_nmW (P := fun M1 => mo_W G M M1 h ta ke le mo pl si 0 (nI σ.1.length) (nI σ.2.1.length) (cu_I σ.2.2) tf kf lf mf pf sf) (mw_fa (mo_rf S) 0) (fun M1 S1 => ?_)
  refine j_aload_n F d_MO_feed_5 rfl rfl ?_
  refine j_get F (so_h S1.1) rfl in_MO 2 (by decide) wf_MO_36 rfl d_MO_feed_6 ?_
  refine j_bipush F (v := 20) d_MO_feed_9 (by decide) ?_
  refine j_iadd F d_MO_feed_11 ?_
  refine j_val (y := nI (σ.1.length + 20)) (nI_add _ 20) ?_
  refine j_bipush F (v := 60) d_MO_feed_12 (by decide) ?_
  refine j_icmp_le F (tgt := 23) d_MO_feed_14 (by decide) (fun hc => ?_) (fun hc => ?_)
  · skip
    have hlen : σ.1.length ≤ 40 := by
      have := (nI_leI (a := σ.1.length + 20) (b := 60) (by omega) (by decide)).mp hc
      omega
    have e0 : sp_feed a0 a1 a2 a3 a4 σ = (0, nI (σ.1.length + 20), (σ.1 ++ by20 a0 a1 a2 a3 a4, σ.2)) := if_neg (by omega)
    rw [e0]
    have hb20 := by20_len a0 a1 a2 a3 a4
    refine j_iconst F (v := 0) d_MO_feed_23 (by decide) ?_
    refine j_istore F (lv1 := [(6, _), (0, _), (1, _), (2, _), (3, _), (4, _), (5, _)]) d_MO_feed_24 (by decide) rfl ?_
    refine j_lv (lv1 := [(6, .int (nI 0)), (0, .ref h), (1, .int a0), (2, .int a1), (3, .int a2), (4, .int a3), (5, .int a4)]) rfl ?_
    refine j_ind (α := Nat × mp_T) (fun x => 20 - x.1) (fun x => x.2) (fun _ => 0) (fun _ => 0) (fun x => [(6, .int (nI x.1)), (0, .ref h), (1, .int a0), (2, .int a1), (3, .int a2), (4, .int a3), (5, .int a4)]) (fun _ => []) (fun x => x.1 ≤ 20 ∧ ∃ tf1 : Nat → Int32, mo_W G M x.2 h ta ke le mo pl si 0 (nI (σ.1.length + x.1)) (nI σ.2.1.length) (cu_I σ.2.2) tf1 kf lf mf pf sf ∧ tp_R (σ.1 ++ (by20 a0 a1 a2 a3 a4).take x.1) tf1 ∧ by_Q tf1) ?_ (0, M1) ⟨Nat.zero_le _, tf, S1, by rw [List.take_zero, List.append_nil]; exact hT, hbt⟩
    intro x hx ih
    obtain ⟨j, Mx⟩ := x
    obtain ⟨hj, tf1, S2, hT1, hbt1⟩ := hx
    dsimp only at hj S2 hT1 ⊢
    refine j_iload F d_MO_feed_26 rfl ?_
    refine j_bipush F (v := 20) d_MO_feed_28 (by decide) ?_
    refine j_icmp_ge F (tgt := 120) d_MO_feed_30 (by decide) (fun hc2 => ?_) (fun hc2 => ?_)
    · skip
      have hj20 : j = 20 := Nat.le_antisymm hj ((nI_leI (a := 20) (by decide) (by omega)).mp hc2)
      subst hj20
      rw [List.take_of_length_le (by omega)] at hT1
      refine j_aload_n F d_MO_feed_120 rfl rfl ?_
      refine j_get F (so_h S2.1) rfl in_MO 2 (by decide) wf_MO_36 rfl d_MO_feed_121 ?_
      refine j_iret F hr (Nat.le_refl _) (Nat.le_refl _) ⟨rfl, ⟨?_, ?_, ok3, ok4, ok5⟩, tf1, kf, lf, mf, pf, sf, ?_, hT1, hbt1, hbk, hR⟩ d_MO_feed_124
      · dsimp only
        rw [List.length_append, hb20]
        omega
      · intro x hx
        rcases List.mem_append.mp hx with z | z
        · exact ok2 x z
        · obtain ⟨q, -, rfl⟩ := List.mem_map.mp z
          exact b1_byte _ _
      · dsimp only
        rw [List.length_append, hb20]
        exact S2
    · skip
      have hj20 : j < 20 := Nat.not_le.mp (fun z => hc2 ((nI_leI (a := 20) (by decide) (by omega)).mpr z))
      refine j_cut (α := Unit) (fun _ => True) (fun _ => Mx) (fun _ => 0) (fun _ => 0) (fun _ => [(6, .int (nI j)), (0, .ref h), (1, .int a0), (2, .int a1), (3, .int a2), (4, .int a3), (5, .int a4)]) 79 (fun _ => [.int (se_5 a0 a1 a2 a3 a4 (j / 4))]) ?_ (fun at79 => ?_)
      · skip
        intro _ _
        refine j_istore F (lv1 := [(7, _), (6, _), (0, _), (1, _), (2, _), (3, _), (4, _), (5, _)]) d_MO_feed_79 (by decide) rfl ?_
        refine j_aload_n F d_MO_feed_81 rfl rfl ?_
        refine j_get F (so_h S2.1) rfl in_MO 1 (by decide) wf_MO_7 rfl d_MO_feed_82 ?_
        refine j_aload_n F d_MO_feed_85 rfl rfl ?_
        refine j_get F (so_h S2.1) rfl in_MO 2 (by decide) wf_MO_36 rfl d_MO_feed_86 ?_
        refine j_iload F d_MO_feed_89 rfl ?_
        refine j_bipush F (v := 24) d_MO_feed_91 (by decide) ?_
        refine j_bipush F (v := 8) d_MO_feed_93 (by decide) ?_
        refine j_iload F d_MO_feed_95 rfl ?_
        refine j_iconst F (v := 4) d_MO_feed_97 (by decide) ?_
        refine j_irem F d_MO_feed_98 (by decide) ?_
        refine j_val (y := nI (j % 4)) (re_4 hj20) ?_
        refine j_imul F d_MO_feed_99 ?_
        refine j_isub F d_MO_feed_100 ?_
        refine j_val (y := nI (24 - 8 * (j % 4))) (sh_8) ?_
        refine j_ishr F d_MO_feed_101 ?_
        refine j_i2b F d_MO_feed_102 rfl ?_
        refine j_bastN F (so_ta S2.1) (sz_ta S2.1) (by omega) (by decide) (b1_byte _ _) d_MO_feed_103 ?_
        refine j_nmW (P := fun M1 => mo_W G M M1 h ta ke le mo pl si 0 (nI (σ.1.length + j)) (nI σ.2.1.length) (cu_I σ.2.2) (upd tf1 (σ.1.length + j) (b1 (se_5 a0 a1 a2 a3 a4 (j / 4)) (j % 4))) kf lf mf pf sf) (mw_tf S2 _) (fun M3 S3 => ?_)
        refine j_aload_n F d_MO_feed_104 rfl rfl ?_
        refine j_dup F d_MO_feed_105 rfl ?_
        refine j_get F (so_h S3.1) rfl in_MO 2 (by decide) wf_MO_36 rfl d_MO_feed_106 ?_
        refine j_iconst F (v := 1) d_MO_feed_109 (by decide) ?_
        refine j_iadd F d_MO_feed_110 ?_
        refine j_val (y := nI (σ.1.length + (j + 1))) (nI_1 _) ?_
        refine j_put F (so_h S3.1) (sz_h S3.1) rfl in_MO ty_MO ok_MO nm_MO 2 (by decide) wf_MO_36 rfl (ty := .int) (by decide +kernel) rfl rfl (Nat.le_of_ble_eq_true rfl) d_MO_feed_111 ?_
        refine j_nmW (P := fun M1 => mo_W G M M1 h ta ke le mo pl si 0 (nI (σ.1.length + (j + 1))) (nI σ.2.1.length) (cu_I σ.2.2) (upd tf1 (σ.1.length + j) (b1 (se_5 a0 a1 a2 a3 a4 (j / 4)) (j % 4))) kf lf mf pf sf) (mw_tl S3 _) (fun M4 S4 => ?_)
        refine j_iinc F (lv1 := [(6, _), (7, _), (0, _), (1, _), (2, _), (3, _), (4, _), (5, _)]) d_MO_feed_114 rfl (nI_1 _) (by decide) rfl ?_
        refine j_sub [0, 2, 3, 4, 5, 6, 7] rfl ?_
        refine j_goto F (tgt := 26) d_MO_feed_117 (by decide) ?_
        refine ih (j + 1, M4) ⟨hj20, _, S4, ?_, by_upd hbt1 (b1_byte _ _)⟩ (by dsimp only; omega)
        dsimp only
        rw [ta_succ _ _ (by omega), by20_at _ _ _ _ _ hj20]
        have := tp_app (b1 (se_5 a0 a1 a2 a3 a4 (j / 4)) (j % 4)) hT1
        rw [ta_len _ _ (by omega)] at this
        exact this
      refine j_iload F d_MO_feed_33 rfl ?_
      refine j_iconst F (v := 4) d_MO_feed_35 (by decide) ?_
      refine j_icmp_ge F (tgt := 43) d_MO_feed_36 (by decide) (fun hq4 => ?_) (fun hq4 => ?_)
      · skip
        have h4 : 4 ≤ j := (nI_leI (a := 4) (by decide) (by omega)).mp hq4
        refine j_iload F d_MO_feed_43 rfl ?_
        refine j_bipush F (v := 8) d_MO_feed_45 (by decide) ?_
        refine j_icmp_ge F (tgt := 54) d_MO_feed_47 (by decide) (fun hq8 => ?_) (fun hq8 => ?_)
        · skip
          have h8 : 8 ≤ j := (nI_leI (a := 8) (by decide) (by omega)).mp hq8
          refine j_iload F d_MO_feed_54 rfl ?_
          refine j_bipush F (v := 12) d_MO_feed_56 (by decide) ?_
          refine j_icmp_ge F (tgt := 65) d_MO_feed_58 (by decide) (fun hq12 => ?_) (fun hq12 => ?_)
          · skip
            have h12 : 12 ≤ j := (nI_leI (a := 12) (by decide) (by omega)).mp hq12
            refine j_iload F d_MO_feed_65 rfl ?_
            refine j_bipush F (v := 16) d_MO_feed_67 (by decide) ?_
            refine j_icmp_ge F (tgt := 77) d_MO_feed_69 (by decide) (fun hq16 => ?_) (fun hq16 => ?_)
            · skip
              have h16 : 16 ≤ j := (nI_leI (a := 16) (by decide) (by omega)).mp hq16
              have hse : se_5 a0 a1 a2 a3 a4 (j / 4) = a4 := by unfold se_5; rw [if_neg (by omega), if_neg (by omega), if_neg (by omega), if_neg (by omega)]
              rw [hse] at at79
              refine j_iload F d_MO_feed_77 rfl ?_
              exact at79 () trivial
            · skip
              have h16 : j < 16 := Nat.not_le.mp (fun z => hq16 ((nI_leI (a := 16) (by decide) (by omega)).mpr z))
              have hse : se_5 a0 a1 a2 a3 a4 (j / 4) = a3 := by unfold se_5; rw [if_neg (by omega), if_neg (by omega), if_neg (by omega), if_pos (by omega)]
              rw [hse] at at79
              refine j_iload F d_MO_feed_72 rfl ?_
              refine j_goto F (tgt := 79) d_MO_feed_74 (by decide) ?_
              exact at79 () trivial
          · skip
            have h12 : j < 12 := Nat.not_le.mp (fun z => hq12 ((nI_leI (a := 12) (by decide) (by omega)).mpr z))
            have hse : se_5 a0 a1 a2 a3 a4 (j / 4) = a2 := by unfold se_5; rw [if_neg (by omega), if_neg (by omega), if_pos (by omega)]
            rw [hse] at at79
            refine j_iload_n F d_MO_feed_61 rfl rfl ?_
            refine j_goto F (tgt := 79) d_MO_feed_62 (by decide) ?_
            exact at79 () trivial
        · skip
          have h8 : j < 8 := Nat.not_le.mp (fun z => hq8 ((nI_leI (a := 8) (by decide) (by omega)).mpr z))
          have hse : se_5 a0 a1 a2 a3 a4 (j / 4) = a1 := by unfold se_5; rw [if_neg (by omega), if_pos (by omega)]
          rw [hse] at at79
          refine j_iload_n F d_MO_feed_50 rfl rfl ?_
          refine j_goto F (tgt := 79) d_MO_feed_51 (by decide) ?_
          exact at79 () trivial
      · skip
        have h4 : j < 4 := Nat.not_le.mp (fun z => hq4 ((nI_leI (a := 4) (by decide) (by omega)).mpr z))
        have hse : se_5 a0 a1 a2 a3 a4 (j / 4) = a0 := by unfold se_5; rw [if_pos (by omega)]
        rw [hse] at at79
        refine j_iload_n F d_MO_feed_39 rfl rfl ?_
        refine j_goto F (tgt := 79) d_MO_feed_40 (by decide) ?_
        exact at79 () trivial
  · skip
    have hlen : 40 < σ.1.length := by
      apply Nat.not_le.mp
      intro z
      exact hc ((nI_leI (a := σ.1.length + 20) (b := 60) (by omega) (by decide)).mpr (by omega))
    have e0 : sp_feed a0 a1 a2 a3 a4 σ = (1, 0, σ) := if_pos hlen
    rw [e0]
    refine j_aload_n F d_MO_feed_17 rfl rfl ?_
    refine j_iconst F (v := 1) d_MO_feed_18 (by decide) ?_
    refine j_callV F 1 (c_MO_fail hl S1.1 1) (so_h S1.1) rfl wl_MO_39 wim_MO_fail wse_MO_fail wi_MO wco_MO_fail (by decide +kernel) (by decide) rfl rfl (Nat.le_of_ble_eq_true rfl) (by decide) (by decide) d_MO_feed_19 (fun E M1 hx => hx.elim) (fun r M1 hp => ?_)
    obtain ⟨rfl, W1⟩ := hp
    exact j_iret F hr (Nat.le_refl _) (Nat.le_refl _) ⟨rfl, ⟨ok1, ok2, ok3, ok4, ok5⟩, tf, kf, lf, mf, pf, sf, mw_tr S1 W1, hT, hbt, hbk, hR⟩ d_MO_feed_22
end MO5
