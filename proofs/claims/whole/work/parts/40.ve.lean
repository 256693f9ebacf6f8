theorem kc_neg (a b : ke_T) : kc b a = - kc a b := by
  induction a generalizing b with
  | nil =>
    cases b with
    | nil => rfl
    | cons y t => rfl
  | cons x s ih =>
    cases b with
    | nil => rfl
    | cons y t =>
      simp only [kc]
      by_cases h : un x = un y
      · rw [if_pos h.symm, if_pos h]; exact ih t
      · rw [if_neg (Ne.symm h), if_neg h]; omega
/-- an array that holds the key k, or the empty key that is given -/
def ka_R (G : gv_T) (M : mp_T) (a : Nat) (k : ke_T) : Prop := ky G M a k ∨ (a = G.2.2.2 ∧ k = [])
theorem mn_nI {a b : Nat} (ha : a < 2 ^ 31) (hb : b < 2 ^ 31) : (if nI b < nI a then nI b else nI a) = nI (min a b) := by
  by_cases h : b < a
  · rw [if_pos ((nI_ltI hb ha).mpr h), Nat.min_eq_right (Nat.le_of_lt h)]
  · rw [if_neg (fun z => h ((nI_ltI hb ha).mp z)), Nat.min_eq_left (Nat.not_lt.mp h)]
theorem mx_nI {a b : Nat} (ha : a < 2 ^ 31) (hb : b < 2 ^ 31) : (if nI a < nI b then nI b else nI a) = nI (max a b) := by
  by_cases h : a < b
  · rw [if_pos ((nI_ltI ha hb).mpr h), Nat.max_eq_right (Nat.le_of_lt h)]
  · rw [if_neg (fun z => h ((nI_ltI ha hb).mp z)), Nat.max_eq_left (Nat.not_lt.mp h)]
theorem j_klen {p : Program} {l : Launch} {e : Env} {R : Room} {s : State} {m : MethodId} {args : Array Value} {below : List Frame} {meth : Method} {c : Code} {Q : State → Prop} {G : gv_T} {own : String} {cc : ByteArray} {nL : Nat} {tab : List ExceptionTableEntry} {M : mp_T} {k n : Nat} {lv : List (Nat × Value)} {pc : Nat} {st : List Value} (F : jf p l s m args meth c G own cc nL tab) {a : Nat} {ke : ke_T} (h : ka_R G M a ke) (hd : decode cc pc = .ok (.arraylength, 1)) (kk : jj p l e R s m args below meth c G nL Q M k n lv (pc + 1) (.int (nI ke.length) :: st)) : jj p l e R s m args below meth c G nL Q M k n lv pc (.ref a :: st) := by
  rcases h with ⟨kf, h1, h2⟩ | ⟨rfl, rfl⟩
  · exact j_blen F h1 rfl hd kk
  · exact j_tlen F hd kk
theorem j_kald {p : Program} {l : Launch} {e : Env} {R : Room} {s : State} {m : MethodId} {args : Array Value} {below : List Frame} {meth : Method} {c : Code} {Q : State → Prop} {G : gv_T} {own : String} {cc : ByteArray} {nL : Nat} {tab : List ExceptionTableEntry} {M : mp_T} {k n : Nat} {lv : List (Nat × Value)} {pc : Nat} {st : List Value} (F : jf p l s m args meth c G own cc nL tab) {a j : Nat} {ke : ke_T} (h : ka_R G M a ke) (hj : j < ke.length) (hk : ke.length < 2 ^ 31) (hd : decode cc pc = .ok (.baload, 1)) (kk : jj p l e R s m args below meth c G nL Q M k n lv (pc + 1) (.int (ke.getD j 0) :: st)) : jj p l e R s m args below meth c G nL Q M k n lv pc (.int (nI j) :: .ref a :: st) := by
  rcases h with ⟨kf, h1, h2⟩ | ⟨rfl, rfl⟩
  · exact j_baldN F h1 hj hk hd (by rw [h2 j hj]; exact kk)
  · exact absurd hj (Nat.not_lt_zero _)
section VE1
variable {l : Launch} {G : gv_T} {M : mp_T}
set_option maxHeartbeats 4000000 in
set_option maxRecDepth 100000 in
theorem c_JI_compare (hl : l.stackTraces = false) (x y : Int32) : ct_C l G y_JI_compare b_JI_compare 2 (some .int) { frames := 0, cells := 0, slots := 0, locals := 0 } [.int x, .int y] M (fun r M1 => M = M1 ∧ r = some (.int (if x < y then -1 else if y < x then 1 else 0))) (fun _ _ => False) := by
  refine ct_of hl (by decide +kernel) (Nat.le_of_ble_eq_true rfl) ?_
  intro p e s m args below meth c F hr hnm
  refine j_iload_n F d_JI_compare_0 rfl rfl ?_
  refine j_iload_n F d_JI_compare_1 rfl rfl ?_
  refine j_icmp_ge F (tgt := 9) d_JI_compare_2 (by decide) (fun hc => ?_) (fun hc => ?_)
  · skip
    refine j_iload_n F d_JI_compare_9 rfl rfl ?_
    refine j_iload_n F d_JI_compare_10 rfl rfl ?_
    refine j_icmp_ne F (tgt := 18) d_JI_compare_11 (by decide) (fun hc2 => ?_) (fun hc2 => ?_)
    · skip
      refine j_iconst F (v := 1) d_JI_compare_18 (by decide) ?_
      have h1 : ¬ x < y := Int32.not_lt.mpr hc
      have h2 : y < x := Int32.lt_of_le_of_ne hc (Ne.symm hc2)
      exact j_iret F hr (Nat.le_refl _) (Nat.le_refl _) ⟨rfl, by rw [if_neg h1, if_pos h2]⟩ d_JI_compare_19
    · skip
      refine j_iconst F (v := 0) d_JI_compare_14 (by decide) ?_
      refine j_goto F (tgt := 19) d_JI_compare_15 (by decide) ?_
      subst hc2
      exact j_iret F hr (Nat.le_refl _) (Nat.le_refl _) ⟨rfl, by rw [if_neg Int32.lt_irrefl, if_neg Int32.lt_irrefl]⟩ d_JI_compare_19
  · skip
    refine j_iconst F (v := -1) d_JI_compare_5 (by decide) ?_
    refine j_goto F (tgt := 19) d_JI_compare_6 (by decide) ?_
    exact j_iret F hr (Nat.le_refl _) (Nat.le_refl _) ⟨rfl, by rw [if_pos (Int32.not_le.mp hc)]⟩ d_JI_compare_19
set_option maxHeartbeats 4000000 in
set_option maxRecDepth 100000 in
theorem c_VE_okeys (hl : l.stackTraces = false) {a b0 : Nat} {k1 k2 : ke_T} (h1 : ka_R G M a k1) (h2 : ka_R G M b0 k2) (l1 : k1.length ≤ 60) (l2 : k2.length ≤ 60) : ct_C l G y_VE_orderOfKeys b_VE_orderOfKeys 5 (some .int) { frames := 1, cells := 0, slots := 0, locals := 20 } [.ref a, .ref b0] M (fun r M1 => M = M1 ∧ ∃ d : Int32, r = some (.int d) ∧ (d < 0 ↔ kc k1 k2 < 0) ∧ (d = 0 ↔ kc k1 k2 = 0)) (fun _ _ => False) := by
  refine ct_of hl (by decide +kernel) (Nat.le_of_ble_eq_true rfl) ?_
  intro p e s m args below meth c F hr hnm
  refine j_aload_n F d_VE_orderOfKeys_0 rfl rfl ?_
  refine j_klen F h1 d_VE_orderOfKeys_1 ?_
  refine j_aload_n F d_VE_orderOfKeys_2 rfl rfl ?_
  refine j_klen F h2 d_VE_orderOfKeys_3 ?_
  refine j_min F wl_VE_43 wst_JM_min wi_JM wco_JM_min (by decide) (Nat.le_of_ble_eq_true rfl) (by decide) (by decide) d_VE_orderOfKeys_4 ?_
  refine j_val (y := nI (min k1.length k2.length)) (mn_nI (by omega) (by omega)) ?_
  refine j_istore_n F (lv1 := [(2, _), (0, _), (1, _)]) d_VE_orderOfKeys_7 rfl (by decide) rfl ?_
  refine j_iconst F (v := 0) d_VE_orderOfKeys_8 (by decide) ?_
  refine j_istore_n F (lv1 := [(3, _), (2, _), (0, _), (1, _)]) d_VE_orderOfKeys_9 rfl (by decide) rfl ?_
  refine j_lv (lv1 := [(3, .int (nI 0)), (2, .int (nI (min k1.length k2.length))), (0, .ref a), (1, .ref b0)]) rfl ?_
  refine j_ind (α := Nat) (fun j => 60 - j) (fun _ => M) (fun _ => 0) (fun _ => 0) (fun j => [(3, .int (nI j)), (2, .int (nI (min k1.length k2.length))), (0, .ref a), (1, .ref b0)]) (fun _ => []) (fun j => j ≤ k1.length ∧ j ≤ k2.length ∧ ∀ i, i < j → un (k1.getD i 0) = un (k2.getD i 0)) ?_ 0 ⟨Nat.zero_le _, Nat.zero_le _, fun i hi => absurd hi (Nat.not_lt_zero _)⟩
  intro j hj ih
  obtain ⟨hj1, hj2, hj3⟩ := hj
  refine j_iload_n F d_VE_orderOfKeys_10 rfl rfl ?_
  refine j_iload_n F d_VE_orderOfKeys_11 rfl rfl ?_
  refine j_icmp_ge F (tgt := 46) d_VE_orderOfKeys_12 (by decide) (fun hc => ?_) (fun hc => ?_)
  · skip
    have hje : j = k1.length ∨ j = k2.length := by
      have := (nI_leI (a := min k1.length k2.length) (by omega) (by omega)).mp hc
      omega
    obtain ⟨hk1, hk2⟩ := kc_end j hj1 hj2 hj3 hje
    refine j_aload_n F d_VE_orderOfKeys_46 rfl rfl ?_
    refine j_klen F h1 d_VE_orderOfKeys_47 ?_
    refine j_aload_n F d_VE_orderOfKeys_48 rfl rfl ?_
    refine j_klen F h2 d_VE_orderOfKeys_49 ?_
    refine j_isub F d_VE_orderOfKeys_50 ?_
    exact j_iret F hr (Nat.le_refl _) (Nat.le_refl _) ⟨rfl, _, rfl, by rw [sg_lt (by omega) (by omega), sg_eq (by omega) (by omega)]; exact ⟨hk1.symm, hk2.symm⟩⟩ d_VE_orderOfKeys_51
  · skip
    have hjm : j < min k1.length k2.length := Nat.not_le.mp (fun z => hc ((nI_leI (by omega) (by omega)).mpr z))
    have hj4 : j < k1.length := by omega
    have hj5 : j < k2.length := by omega
    refine j_aload_n F d_VE_orderOfKeys_15 rfl rfl ?_
    refine j_iload_n F d_VE_orderOfKeys_16 rfl rfl ?_
    refine j_kald F h1 hj4 (by omega) d_VE_orderOfKeys_17 ?_
    refine j_sipush F (v := 255) d_VE_orderOfKeys_18 (by decide) ?_
    refine j_iand F d_VE_orderOfKeys_21 ?_
    refine j_val (y := nI (un (k1.getD j 0))) (un_and _) ?_
    refine j_aload_n F d_VE_orderOfKeys_22 rfl rfl ?_
    refine j_iload_n F d_VE_orderOfKeys_23 rfl rfl ?_
    refine j_kald F h2 hj5 (by omega) d_VE_orderOfKeys_24 ?_
    refine j_sipush F (v := 255) d_VE_orderOfKeys_25 (by decide) ?_
    refine j_iand F d_VE_orderOfKeys_28 ?_
    refine j_val (y := nI (un (k2.getD j 0))) (un_and _) ?_
    refine j_isub F d_VE_orderOfKeys_29 ?_
    have u1 := un_lt (k1.getD j 0)
    have u2 := un_lt (k2.getD j 0)
    refine j_istore F (lv1 := [(4, _), (3, _), (2, _), (0, _), (1, _)]) d_VE_orderOfKeys_30 (by decide) rfl ?_
    refine j_iload F d_VE_orderOfKeys_32 rfl ?_
    refine j_if_eq F (tgt := 40) d_VE_orderOfKeys_34 (by decide) (fun hc3 => ?_) (fun hc3 => ?_)
    · skip
      have hu : un (k1.getD j 0) = un (k2.getD j 0) := (sg_eq (by omega) (by omega)).mp hc3
      refine j_iinc F (lv1 := [(3, _), (4, _), (2, _), (0, _), (1, _)]) d_VE_orderOfKeys_40 rfl (nI_1 j) (by decide) rfl ?_
      refine j_sub [0, 2, 3, 4] rfl ?_
      refine j_goto F (tgt := 10) d_VE_orderOfKeys_43 (by decide) ?_
      exact ih (j + 1) ⟨hj4, hj5, fun i hi => by
        rcases Nat.lt_succ_iff_lt_or_eq.mp hi with z | z
        · exact hj3 i z
        · rw [z]; exact hu⟩ (by omega)
    · skip
      have hu : un (k1.getD j 0) ≠ un (k2.getD j 0) := fun z => hc3 ((sg_eq (by omega) (by omega)).mpr z)
      have hkd := kc_diff j hj4 hj5 hj3 hu
      refine j_iload F d_VE_orderOfKeys_37 rfl ?_
      exact j_iret F hr (Nat.le_refl _) (Nat.le_refl _) ⟨rfl, _, rfl, by rw [sg_lt (by omega) (by omega), sg_eq (by omega) (by omega)]; omega⟩ d_VE_orderOfKeys_39
set_option maxHeartbeats 4000000 in
set_option maxRecDepth 100000 in
theorem c_VE_orderOf (hl : l.stackTraces = false) {a ok ka : Nat} {e0 : en_T} {ht : Int32} {lc rc : Option Nat} {k : ke_T} {mm : Int32} (hv : M a = some (vE ka e0 ht lc rc)) (hk : ky G M ka e0.1) (h2 : ka_R G M ok k) (l1 : e0.1.length ≤ 60) (l2 : k.length ≤ 60) : ct_C l G y_VE_orderOf b_VE_orderOf 4 (some .int) { frames := 2, cells := 0, slots := 0, locals := 44 } [.ref a, .ref ok, .int mm] M (fun r M1 => M = M1 ∧ ∃ d : Int32, r = some (.int d) ∧ (d < 0 ↔ 0 < oc e0 k mm) ∧ (d = 0 ↔ oc e0 k mm = 0)) (fun _ _ => False) := by
  refine ct_of hl (by decide +kernel) (Nat.le_of_ble_eq_true rfl) ?_
  intro p e s m args below meth c F hr hnm
  refine j_aload_n F d_VE_orderOf_0 rfl rfl ?_
  refine j_aload_n F d_VE_orderOf_1 rfl rfl ?_
  refine j_get F hv rfl in_VE 0 (by decide) wf_VE_7 rfl d_VE_orderOf_2 ?_
  refine j_callS F 2 (c_VE_okeys hl h2 (Or.inl hk) l2 l1) wl_VE_33 wst_VE_orderOfKeys wi_VE wco_VE_orderOfKeys (by decide +kernel) (by decide) rfl rfl (Nat.le_of_ble_eq_true rfl) (by decide) (by decide) d_VE_orderOf_5 (fun E M1 hx => hx.elim) (fun r M1 hp => ?_)
  obtain ⟨rfl, d, rfl, hd1, hd2⟩ := hp
  have hn := kc_neg k e0.1
  refine j_istore_n F (lv1 := [(3, _), (0, _), (1, _), (2, _)]) d_VE_orderOf_8 rfl (by decide) rfl ?_
  refine j_iload_n F d_VE_orderOf_9 rfl rfl ?_
  refine j_if_eq F (tgt := 17) d_VE_orderOf_10 (by decide) (fun hc => ?_) (fun hc => ?_)
  · skip
    have h0 : kc k e0.1 = 0 := hd2.mp hc
    have hk0 : kc e0.1 k = 0 := by omega
    refine j_aload_n F d_VE_orderOf_17 rfl rfl ?_
    refine j_get F hv rfl in_VE 1 (by decide) wf_VE_13 rfl d_VE_orderOf_18 ?_
    refine j_iload_n F d_VE_orderOf_21 rfl rfl ?_
    refine j_callS F 2 (c_JI_compare hl e0.2.1 mm) wl_VE_37 wst_JI_compare wi_JI wco_JI_compare (by decide +kernel) (by decide) rfl rfl (Nat.le_of_ble_eq_true rfl) (by decide) (by decide) d_VE_orderOf_22 (fun E M1 hx => hx.elim) (fun r M1 hp => ?_)
    obtain ⟨rfl, rfl⟩ := hp
    refine j_iret F hr (Nat.le_refl _) (Nat.le_refl _) ⟨rfl, _, rfl, ?_⟩ d_VE_orderOf_25
    rw [oc_m hk0]
    by_cases z1 : e0.2.1 < mm
    · have z2 : ¬ mm < e0.2.1 := fun z => Int32.lt_irrefl (Int32.lt_trans z z1)
      rw [if_pos z1, if_neg z2, if_pos z1]; decide
    · by_cases z2 : mm < e0.2.1
      · rw [if_neg z1, if_pos z2, if_pos z2]; decide
      · rw [if_neg z1, if_neg z2, if_neg z2, if_neg z1]; decide
  · skip
    have h0 : kc k e0.1 ≠ 0 := fun z => hc (hd2.mpr z)
    have hk0 : kc e0.1 k ≠ 0 := by omega
    refine j_iload_n F d_VE_orderOf_13 rfl rfl ?_
    refine j_goto F (tgt := 25) d_VE_orderOf_14 (by decide) ?_
    exact j_iret F hr (Nat.le_refl _) (Nat.le_refl _) ⟨rfl, _, rfl, by rw [oc_k hk0, hd1, hd2]; omega⟩ d_VE_orderOf_25
end VE1
