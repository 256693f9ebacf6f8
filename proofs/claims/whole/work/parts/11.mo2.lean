/-- one row of the reference's arrays is the version e -/
def mo_E (i : Nat) (e : en_T) (lf kf mf pf sf : Nat → Int32) : Prop := lf i = nI e.1.length ∧ (∀ j, j < e.1.length → kf (40 * i + j) = e.1.getD j 0) ∧ mf i = e.2.1 ∧ pf i = e.2.2.1 ∧ sf i = e.2.2.2
/-- a tape's first bytes -/
def tp_R (k : ke_T) (tf : Nat → Int32) : Prop := ∀ j, j < k.length → tf j = k.getD j 0
theorem ix_40 (v j : Nat) : (40 : Int32) * nI v + nI j = nI (40 * v + j) := by rw [show (40 : Int32) = nI 40 from rfl, pk_mul, nI_add]
theorem oc_k {e : en_T} {k : ke_T} {m : Int32} (h : kc e.1 k ≠ 0) : oc e k m = kc e.1 k := if_neg h
theorem oc_m {e : en_T} {k : ke_T} {m : Int32} (h : kc e.1 k = 0) : oc e k m = if m < e.2.1 then -1 else if e.2.1 < m then 1 else 0 := if_pos h
section MO2
variable {es : List en_T} {l : Launch} {G : gv_T} {M M0 : mp_T} {h ta ke le mo pl si : Nat} {fa tl sz ap : Int32} {tf kf lf mf pf sf : Nat → Int32}
set_option maxHeartbeats 4000000 in
set_option maxRecDepth 100000 in
theorem c_MO_compare (hl : l.stackTraces = false) (S : mo_S G M h ta ke le mo pl si fa tl sz ap tf kf lf mf pf sf) {v : Nat} {e0 : en_T} {k : ke_T} {mm : Int32} (hv : v < 161) (hE : mo_E v e0 lf kf mf pf sf) (hT : tp_R k tf) (h40 : e0.1.length ≤ 40) (h60 : k.length ≤ 60) : ct_C l G y_MO_compare b_MO_compare 6 (some .int) { frames := 0, cells := 0, slots := 0, locals := 0 } [.ref h, .int (nI v), .int (nI k.length), .int mm] M (fun r M1 => M = M1 ∧ ∃ d : Int32, r = some (.int d) ∧ (d < 0 ↔ oc e0 k mm < 0) ∧ (d = 0 ↔ oc e0 k mm = 0)) (fun _ _ => False) := by
  refine ct_of hl (by decide +kernel) (Nat.le_of_ble_eq_true rfl) ?_
  intro p e s m args below meth c F hr hnm
  obtain ⟨hE1, hE2, hE3, -, -⟩ := hE
  have hin : vp_in (nI v) 161 := vp_in_nI hv (by decide)
  have hcl : (nI v).toNatClampNeg = v := nI_clamp (by omega)
  refine j_iconst F (v := 0) d_MO_compare_0 (by decide) ?_
  refine j_istore F (lv1 := [(4, _), (0, _), (1, _), (2, _), (3, _)]) d_MO_compare_1 (by decide) rfl ?_
  refine j_cut (α := Nat) (fun j => j ≤ e0.1.length ∧ j ≤ k.length ∧ (∀ i, i < j → un (e0.1.getD i 0) = un (k.getD i 0)) ∧ (j = e0.1.length ∨ j = k.length)) (fun _ => M) (fun _ => 0) (fun _ => 0) (fun j => [(4, .int (nI j)), (0, .ref h), (1, .int (nI v)), (2, .int (nI k.length)), (3, .int mm)]) 64 (fun _ => []) ?_ (fun at64 => ?_)
  · skip
    intro j hj
    obtain ⟨hj1, hj2, hj3, hj4⟩ := hj
    obtain ⟨hk1, hk2⟩ := kc_end j hj1 hj2 hj3 hj4
    refine j_aload_n F d_MO_compare_64 rfl rfl ?_
    refine j_get F (so_h S) rfl in_MO 4 (by decide) wf_MO_16 rfl d_MO_compare_65 ?_
    refine j_iload_n F d_MO_compare_68 rfl rfl ?_
    refine j_iald F (so_le S) hin d_MO_compare_69 ?_
    refine j_val (y := nI e0.1.length) (by rw [hcl, hE1]) ?_
    refine j_iload_n F d_MO_compare_70 rfl rfl ?_
    refine j_icmp_eq F (tgt := 83) d_MO_compare_71 (by decide) (fun hc => ?_) (fun hc => ?_)
    · skip
      have hlen : e0.1.length = k.length := (nI_eq (by omega) (by omega)).mp hc
      have hk0 : kc e0.1 k = 0 := hk2.mpr hlen
      refine j_aload_n F d_MO_compare_83 rfl rfl ?_
      refine j_get F (so_h S) rfl in_MO 5 (by decide) wf_MO_20 rfl d_MO_compare_84 ?_
      refine j_iload_n F d_MO_compare_87 rfl rfl ?_
      refine j_iald F (so_mo S) hin d_MO_compare_88 ?_
      refine j_val (y := e0.2.1) (by rw [hcl, hE3]) ?_
      refine j_iload_n F d_MO_compare_89 rfl rfl ?_
      refine j_icmp_le F (tgt := 97) d_MO_compare_90 (by decide) (fun hc => ?_) (fun hc => ?_)
      · skip
        refine j_aload_n F d_MO_compare_97 rfl rfl ?_
        refine j_get F (so_h S) rfl in_MO 5 (by decide) wf_MO_20 rfl d_MO_compare_98 ?_
        refine j_iload_n F d_MO_compare_101 rfl rfl ?_
        refine j_iald F (so_mo S) hin d_MO_compare_102 ?_
        refine j_val (y := e0.2.1) (by rw [hcl, hE3]) ?_
        refine j_iload_n F d_MO_compare_103 rfl rfl ?_
        refine j_icmp_ge F (tgt := 111) d_MO_compare_104 (by decide) (fun hc2 => ?_) (fun hc2 => ?_)
        · skip
          refine j_iconst F (v := 0) d_MO_compare_111 (by decide) ?_
          have hmm : e0.2.1 = mm := Int32.le_antisymm hc hc2
          exact j_iret F hr (Nat.le_refl _) (Nat.le_refl _) ⟨rfl, 0, rfl, by rw [oc_m hk0, hmm]; simp [Int32.lt_irrefl]⟩ d_MO_compare_112
        · skip
          refine j_iconst F (v := 1) d_MO_compare_107 (by decide) ?_
          refine j_goto F (tgt := 112) d_MO_compare_108 (by decide) ?_
          have h1 : ¬ mm < e0.2.1 := Int32.not_lt.mpr hc
          have h2 : e0.2.1 < mm := Int32.not_le.mp hc2
          exact j_iret F hr (Nat.le_refl _) (Nat.le_refl _) ⟨rfl, 1, rfl, by rw [oc_m hk0, if_neg h1, if_pos h2]; decide⟩ d_MO_compare_112
      · skip
        refine j_iconst F (v := -1) d_MO_compare_93 (by decide) ?_
        refine j_goto F (tgt := 112) d_MO_compare_94 (by decide) ?_
        have h1 : mm < e0.2.1 := Int32.not_le.mp hc
        exact j_iret F hr (Nat.le_refl _) (Nat.le_refl _) ⟨rfl, -1, rfl, by rw [oc_m hk0, if_pos h1]; decide⟩ d_MO_compare_112
    · skip
      have hlen : e0.1.length ≠ k.length := fun z => hc (by rw [z])
      have hk0 : kc e0.1 k ≠ 0 := fun z => hlen (hk2.mp z)
      refine j_aload_n F d_MO_compare_74 rfl rfl ?_
      refine j_get F (so_h S) rfl in_MO 4 (by decide) wf_MO_16 rfl d_MO_compare_75 ?_
      refine j_iload_n F d_MO_compare_78 rfl rfl ?_
      refine j_iald F (so_le S) hin d_MO_compare_79 ?_
      refine j_val (y := nI e0.1.length) (by rw [hcl, hE1]) ?_
      refine j_iload_n F d_MO_compare_80 rfl rfl ?_
      refine j_isub F d_MO_compare_81 ?_
      exact j_iret F hr (Nat.le_refl _) (Nat.le_refl _) ⟨rfl, _, rfl, by rw [oc_k hk0, sg_lt (by omega) (by omega), sg_eq (by omega) (by omega)]; exact ⟨hk1.symm, hk2.symm⟩⟩ d_MO_compare_82
  refine j_lv (lv1 := [(4, .int (nI 0)), (0, .ref h), (1, .int (nI v)), (2, .int (nI k.length)), (3, .int mm)]) rfl ?_
  refine j_ind (α := Nat) (fun j => e0.1.length - j) (fun _ => M) (fun _ => 0) (fun _ => 0) (fun j => [(4, .int (nI j)), (0, .ref h), (1, .int (nI v)), (2, .int (nI k.length)), (3, .int mm)]) (fun _ => []) (fun j => j ≤ e0.1.length ∧ j ≤ k.length ∧ ∀ i, i < j → un (e0.1.getD i 0) = un (k.getD i 0)) ?_ 0 ⟨Nat.zero_le _, Nat.zero_le _, fun i hi => absurd hi (Nat.not_lt_zero _)⟩
  intro j hj ih
  obtain ⟨hj1, hj2, hj3⟩ := hj
  refine j_iload F d_MO_compare_3 rfl ?_
  refine j_aload_n F d_MO_compare_5 rfl rfl ?_
  refine j_get F (so_h S) rfl in_MO 4 (by decide) wf_MO_16 rfl d_MO_compare_6 ?_
  refine j_iload_n F d_MO_compare_9 rfl rfl ?_
  refine j_iald F (so_le S) hin d_MO_compare_10 ?_
  refine j_val (y := nI e0.1.length) (by rw [hcl, hE1]) ?_
  refine j_icmp_ge F (tgt := 64) d_MO_compare_11 (by decide) (fun hc => ?_) (fun hc => ?_)
  · skip
    exact at64 j ⟨hj1, hj2, hj3, Or.inl (Nat.le_antisymm hj1 ((nI_leI (by omega) (by omega)).mp hc))⟩
  · skip
    have hj4 : j < e0.1.length := Nat.not_le.mp (fun z => hc ((nI_leI (by omega) (by omega)).mpr z))
    refine j_iload F d_MO_compare_14 rfl ?_
    refine j_iload_n F d_MO_compare_16 rfl rfl ?_
    refine j_icmp_ge F (tgt := 64) d_MO_compare_17 (by decide) (fun hc2 => ?_) (fun hc2 => ?_)
    · skip
      exact at64 j ⟨hj1, hj2, hj3, Or.inr (Nat.le_antisymm hj2 ((nI_leI (by omega) (by omega)).mp hc2))⟩
    · skip
      have hj5 : j < k.length := Nat.not_le.mp (fun z => hc2 ((nI_leI (by omega) (by omega)).mpr z))
      refine j_aload_n F d_MO_compare_20 rfl rfl ?_
      refine j_get F (so_h S) rfl in_MO 3 (by decide) wf_MO_13 rfl d_MO_compare_21 ?_
      refine j_bipush F (v := 40) d_MO_compare_24 (by decide) ?_
      refine j_iload_n F d_MO_compare_26 rfl rfl ?_
      refine j_imul F d_MO_compare_27 ?_
      refine j_iload F d_MO_compare_28 rfl ?_
      refine j_iadd F d_MO_compare_30 ?_
      refine j_val (y := nI (40 * v + j)) (ix_40 v j) ?_
      refine j_bald F (so_ke S) (vp_in_nI (by omega) (by decide)) d_MO_compare_31 ?_
      refine j_val (y := e0.1.getD j 0) (by rw [nI_clamp (by omega), hE2 j hj4]) ?_
      refine j_sipush F (v := 255) d_MO_compare_32 (by decide) ?_
      refine j_iand F d_MO_compare_35 ?_
      refine j_val (y := nI (un (e0.1.getD j 0))) (un_and _) ?_
      refine j_aload_n F d_MO_compare_36 rfl rfl ?_
      refine j_get F (so_h S) rfl in_MO 1 (by decide) wf_MO_7 rfl d_MO_compare_37 ?_
      refine j_iload F d_MO_compare_40 rfl ?_
      refine j_bald F (so_ta S) (vp_in_nI (by omega) (by decide)) d_MO_compare_42 ?_
      refine j_val (y := k.getD j 0) (by rw [nI_clamp (by omega), hT j hj5]) ?_
      refine j_sipush F (v := 255) d_MO_compare_43 (by decide) ?_
      refine j_iand F d_MO_compare_46 ?_
      refine j_val (y := nI (un (k.getD j 0))) (un_and _) ?_
      refine j_isub F d_MO_compare_47 ?_
      have u1 := un_lt (e0.1.getD j 0)
      have u2 := un_lt (k.getD j 0)
      refine j_istore F (lv1 := [(5, _), (4, _), (0, _), (1, _), (2, _), (3, _)]) d_MO_compare_48 (by decide) rfl ?_
      refine j_iload F d_MO_compare_50 rfl ?_
      refine j_if_eq F (tgt := 58) d_MO_compare_52 (by decide) (fun hc3 => ?_) (fun hc3 => ?_)
      · skip
        have hu : un (e0.1.getD j 0) = un (k.getD j 0) := (sg_eq (by omega) (by omega)).mp hc3
        refine j_iinc F (lv1 := [(4, _), (5, _), (0, _), (1, _), (2, _), (3, _)]) d_MO_compare_58 rfl (nI_1 j) (by decide) rfl ?_
        refine j_sub [0, 2, 3, 4, 5] rfl ?_
        refine j_goto F (tgt := 3) d_MO_compare_61 (by decide) ?_
        exact ih (j + 1) ⟨hj4, hj5, fun i hi => by
          rcases Nat.lt_succ_iff_lt_or_eq.mp hi with z | z
          · exact hj3 i z
          · rw [z]; exact hu⟩ (by omega)
      · skip
        have hu : un (e0.1.getD j 0) ≠ un (k.getD j 0) := fun z => hc3 ((sg_eq (by omega) (by omega)).mpr z)
        have hkd := kc_diff j hj4 hj5 hj3 hu
        refine j_iload F d_MO_compare_55 rfl ?_
        exact j_iret F hr (Nat.le_refl _) (Nat.le_refl _) ⟨rfl, _, rfl, by rw [oc_k (by omega), sg_lt (by omega) (by omega), sg_eq (by omega) (by omega)]; omega⟩ d_MO_compare_57
/-- the reference's arrays hold the versions es -/
def mo_R (es : List en_T) (lf kf mf pf sf : Nat → Int32) : Prop := es.length ≤ 160 ∧ ∀ i e, es[i]? = some e → mo_E i e lf kf mf pf sf ∧ 1 ≤ e.1.length ∧ e.1.length ≤ 40
theorem no_x {A : Prop} {px : String → mp_T → Prop} {E : String} {M1 : mp_T} (h : False) : A := h.elim
set_option maxHeartbeats 4000000 in
set_option maxRecDepth 100000 in
theorem c_MO_before (hl : l.stackTraces = false) (S : mo_S G M h ta ke le mo pl si fa tl (nI es.length) ap tf kf lf mf pf sf) {k : ke_T} {mm : Int32} (hR : mo_R es lf kf mf pf sf) (hT : tp_R k tf) (h60 : k.length ≤ 60) : ct_C l G y_MO_before b_MO_before 4 (some .int) { frames := 1, cells := 0, slots := 0, locals := 25 } [.ref h, .int (nI k.length), .int mm] M (fun r M1 => M = M1 ∧ r = some (.int (nI (fi es k mm)))) (fun _ _ => False) := by
  refine ct_of hl (by decide +kernel) (Nat.le_of_ble_eq_true rfl) ?_
  intro p e s m args below meth c F hr hnm
  obtain ⟨hR0, hR1⟩ := hR
  refine j_iconst F (v := 0) d_MO_before_0 (by decide) ?_
  refine j_istore_n F (lv1 := [(3, _), (0, _), (1, _), (2, _)]) d_MO_before_1 rfl (by decide) rfl ?_
  refine j_lv (lv1 := [(3, .int (nI 0)), (0, .ref h), (1, .int (nI k.length)), (2, .int mm)]) rfl ?_
  refine j_ind (α := Nat) (fun v => es.length - v) (fun _ => M) (fun _ => 0) (fun _ => 0) (fun v => [(3, .int (nI v)), (0, .ref h), (1, .int (nI k.length)), (2, .int mm)]) (fun _ => []) (fun v => v ≤ es.length ∧ ∀ i e, i < v → es[i]? = some e → oc e k mm < 0) ?_ 0 ⟨Nat.zero_le _, fun i e hi => absurd hi (Nat.not_lt_zero _)⟩
  intro v hv ih
  obtain ⟨hv1, hv2⟩ := hv
  refine j_iload_n F d_MO_before_2 rfl rfl ?_
  refine j_aload_n F d_MO_before_3 rfl rfl ?_
  refine j_get F (so_h S) rfl in_MO 8 (by decide) wf_MO_43 rfl d_MO_before_4 ?_
  refine j_icmp_ge F (tgt := 26) d_MO_before_7 (by decide) (fun hc => ?_) (fun hc => ?_)
  · skip
    have hve : v = es.length := Nat.le_antisymm hv1 ((nI_leI (by omega) (by omega)).mp hc)
    refine j_iload_n F d_MO_before_26 rfl rfl ?_
    exact j_iret F hr (Nat.le_refl _) (Nat.le_refl _) ⟨rfl, by rw [← fi_of hv2 hv1 (fun e he => by rw [hve] at he; simp at he)]⟩ d_MO_before_27
  · skip
    have hv3 : v < es.length := Nat.not_le.mp (fun z => hc ((nI_leI (by omega) (by omega)).mpr z))
    obtain ⟨e0, he0⟩ : ∃ e0, es[v]? = some e0 := ⟨_, List.getElem?_eq_getElem hv3⟩
    obtain ⟨hE, -, h40⟩ := hR1 v e0 he0
    refine j_aload_n F d_MO_before_10 rfl rfl ?_
    refine j_iload_n F d_MO_before_11 rfl rfl ?_
    refine j_iload_n F d_MO_before_12 rfl rfl ?_
    refine j_iload_n F d_MO_before_13 rfl rfl ?_
    refine j_callV F 3 (c_MO_compare hl S (by omega) hE hT h40 h60 (mm := mm)) (so_h S) rfl wl_MO_46 wim_MO_compare wse_MO_compare wi_MO wco_MO_compare (by decide +kernel) (by decide) rfl rfl (Nat.le_of_ble_eq_true rfl) (by decide) (by decide) d_MO_before_14 (fun E M1 hx => hx.elim) (fun r M1 hp => ?_)
    obtain ⟨rfl, d, rfl, hd1, hd2⟩ := hp
    refine j_if_ge F (tgt := 26) d_MO_before_17 (by decide) (fun hc2 => ?_) (fun hc2 => ?_)
    · skip
      have hno : ¬ oc e0 k mm < 0 := fun z => absurd (hd1.mpr z) (Int32.not_lt.mpr hc2)
      refine j_iload_n F d_MO_before_26 rfl rfl ?_
      exact j_iret F hr (Nat.le_refl _) (Nat.le_refl _) ⟨rfl, by rw [← fi_of hv2 hv1 (fun e he => by rw [he0] at he; cases he; exact hno)]⟩ d_MO_before_27
    · skip
      have hyes : oc e0 k mm < 0 := hd1.mp (Int32.not_le.mp hc2)
      refine j_iinc F (lv1 := [(3, _), (0, _), (1, _), (2, _)]) d_MO_before_20 rfl (nI_1 v) (by decide) rfl ?_
      refine j_goto F (tgt := 2) d_MO_before_23 (by decide) ?_
      exact ih (v + 1) ⟨hv3, fun i e hi he => by
        rcases Nat.lt_succ_iff_lt_or_eq.mp hi with z | z
        · exact hv2 i e z he
        · rw [z, he0] at he; cases he; exact hyes⟩ (by omega)
end MO2
