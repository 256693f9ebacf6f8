theorem kc_tr (a b c : ke_T) (h1 : kc a b ≤ 0) (h2 : kc b c ≤ 0) : kc a c ≤ 0 ∧ (kc a c = 0 → kc a b = 0 ∧ kc b c = 0) := by
  induction a generalizing b c with
  | nil =>
    cases b with
    | nil => exact ⟨h2, fun h => ⟨rfl, h⟩⟩
    | cons y t =>
      cases c with
      | nil => exact absurd h2 (by simp [kc])
      | cons z u => exact ⟨by simp [kc], fun h => absurd h (by simp [kc])⟩
  | cons x s ih =>
    cases b with
    | nil => exact absurd h1 (by simp [kc])
    | cons y t =>
      cases c with
      | nil => exact absurd h2 (by simp [kc])
      | cons z u =>
        simp only [kc] at h1 h2 ⊢
        by_cases e1 : un x = un y
        · by_cases e2 : un y = un z
          · rw [if_pos e1] at h1 ⊢
            rw [if_pos e2] at h2 ⊢
            rw [if_pos (e1.trans e2)]
            exact ih t u h1 h2
          · rw [if_neg e2] at h2 ⊢
            rw [if_pos e1] at h1 ⊢
            rw [if_neg (by omega)]
            omega
        · rw [if_neg e1] at h1 ⊢
          by_cases e2 : un y = un z
          · rw [if_pos e2] at h2 ⊢
            rw [if_neg (by omega)]
            omega
          · rw [if_neg e2] at h2 ⊢
            rw [if_neg (by omega)]
            omega
theorem oc_lt {x y : en_T} {k : ke_T} {m : Int32} (h1 : oc x y.1 y.2.1 < 0) (h2 : oc y k m ≤ 0) : oc x k m < 0 := by
  have hy : kc y.1 k ≤ 0 ∧ (kc y.1 k = 0 → ¬ y.2.1 < m) := by
    by_cases z : kc y.1 k = 0
    · rw [oc_m z] at h2
      refine ⟨by omega, fun _ w => ?_⟩
      rw [if_neg (fun q => Int32.lt_irrefl (Int32.lt_trans q w)), if_pos w] at h2
      omega
    · rw [oc_k z] at h2
      exact ⟨h2, fun w => absurd w z⟩
  by_cases z : kc x.1 y.1 = 0
  · rw [oc_m z] at h1
    have hm : y.2.1 < x.2.1 := by
      by_cases w : y.2.1 < x.2.1
      · exact w
      · rw [if_neg w] at h1
        split at h1 <;> omega
    obtain ⟨t1, t2⟩ := kc_tr x.1 y.1 k (by omega) hy.1
    by_cases z2 : kc x.1 k = 0
    · rw [oc_m z2]
      have hy0 := (t2 z2).2
      have : m < x.2.1 := Int32.lt_of_le_of_lt (Int32.not_lt.mp (hy.2 hy0)) hm
      rw [if_pos this]
      omega
    · rw [oc_k z2]; omega
  · rw [oc_k z] at h1
    obtain ⟨t1, t2⟩ := kc_tr x.1 y.1 k (by omega) hy.1
    have z2 : kc x.1 k ≠ 0 := fun w => z (t2 w).1
    rw [oc_k z2]; omega
theorem oc_anti (x y : en_T) : (oc x y.1 y.2.1 < 0 ↔ 0 < oc y x.1 x.2.1) ∧ (oc x y.1 y.2.1 = 0 ↔ oc y x.1 x.2.1 = 0) := by
  have hn := kc_neg x.1 y.1
  by_cases z : kc x.1 y.1 = 0
  · have z2 : kc y.1 x.1 = 0 := by omega
    rw [oc_m z, oc_m z2]
    by_cases w1 : y.2.1 < x.2.1
    · have w2 : ¬ x.2.1 < y.2.1 := fun q => Int32.lt_irrefl (Int32.lt_trans q w1)
      rw [if_pos w1, if_neg w2, if_pos w1]; decide
    · by_cases w2 : x.2.1 < y.2.1
      · rw [if_neg w1, if_pos w2, if_pos w2]; decide
      · rw [if_neg w1, if_neg w2, if_neg w2, if_neg w1]; decide
  · have z2 : kc y.1 x.1 ≠ 0 := by omega
    rw [oc_k z, oc_k z2]; omega
/-- the height that a side tells -/
def hv_R (M : mp_T) (r : Option Nat) (h : Nat) : Prop := (r = none ∧ h = 0) ∨ ∃ (a ka : Nat) (e : en_T) (l r1 : Option Nat), r = some a ∧ M a = some (vE ka e (nI h) l r1)
theorem tr_hv {G : gv_T} {M : mp_T} {d : Nat} {r : Option Nat} {L : List no_T} {h : Nat} (ht : tr G M d r L h) : hv_R M r h := by
  cases r with
  | none => cases d <;> exact Or.inl ⟨rfl, ht.2⟩
  | some a =>
    cases d with
    | zero => exact ht.elim
    | succ d =>
      obtain ⟨ka, e, l, r1, -, -, -, -, h1, -⟩ := ht
      exact Or.inr ⟨a, ka, e, l, r1, rfl, h1⟩
theorem tr_le {G : gv_T} {M : mp_T} (d : Nat) : ∀ {r : Option Nat} {L : List no_T} {h : Nat}, tr G M d r L h → h ≤ d := by
  induction d with
  | zero =>
    intro r L h ht
    cases r with
    | none => rw [ht.2]; exact Nat.le_refl _
    | some a => exact ht.elim
  | succ d ih =>
    intro r L h ht
    cases r with
    | none => rw [ht.2]; exact Nat.zero_le _
    | some a =>
      obtain ⟨ka, e, l, r1, Ll, Lr, hl, hr, -, -, h3, h4, -, h6, -⟩ := ht
      have := ih h3
      have := ih h4
      omega
/-- as deep as it is high -/
theorem tr_fuel {G : gv_T} {M : mp_T} (d : Nat) : ∀ {d1 : Nat} {r : Option Nat} {L : List no_T} {h : Nat}, tr G M d r L h → h ≤ d1 → tr G M d1 r L h := by
  induction d with
  | zero =>
    intro d1 r L h ht _
    cases r with
    | none => cases d1 <;> exact ht
    | some a => exact ht.elim
  | succ d ih =>
    intro d1 r L h ht hd
    cases r with
    | none => cases d1 <;> exact ht
    | some a =>
      obtain ⟨ka, e, l, r1, Ll, Lr, hl, hr, h1, h2, h3, h4, h5, h6, h7⟩ := ht
      cases d1 with
      | zero => omega
      | succ d1 => exact ⟨ka, e, l, r1, Ll, Lr, hl, hr, h1, h2, ih h3 (by omega), ih h4 (by omega), h5, h6, h7⟩
/-- a version by its address, its key's address, what it is -/
def no_R (G : gv_T) (M : mp_T) (y : no_T) : Prop := (∃ (ht : Int32) (l r : Option Nat), M y.1 = some (vE y.2.1 y.2.2 ht l r)) ∧ ky G M y.2.1 y.2.2.1
theorem tr_no {G : gv_T} {M : mp_T} (d : Nat) : ∀ {r : Option Nat} {L : List no_T} {h : Nat}, tr G M d r L h → ∀ y ∈ L, no_R G M y := by
  induction d with
  | zero =>
    intro r L h ht y hy
    cases r with
    | none => rw [ht.1] at hy; cases hy
    | some a => exact ht.elim
  | succ d ih =>
    intro r L h ht y hy
    cases r with
    | none => rw [ht.1] at hy; cases hy
    | some a =>
      obtain ⟨ka, e, l, r1, Ll, Lr, hl, hr, h1, h2, h3, h4, rfl, -⟩ := ht
      rcases List.mem_append.mp hy with z | z
      · exact ih h3 y z
      · rcases List.mem_cons.mp z with z | z
        · subst z; exact ⟨⟨_, _, _, h1⟩, h2⟩
        · exact ih h4 y z
section HT1
variable {l : Launch} {G : gv_T} {M : mp_T}
set_option maxHeartbeats 4000000 in
set_option maxRecDepth 100000 in
theorem c_TR_heightOf (hl : l.stackTraces = false) {r : Option Nat} {h : Nat} (H : hv_R M r h) : ct_C l G y_TR_heightOf b_TR_heightOf 1 (some .int) { frames := 0, cells := 0, slots := 0, locals := 0 } [va_rf r] M (fun v M1 => M = M1 ∧ v = some (.int (nI h))) (fun _ _ => False) := by
  refine ct_of hl (by decide +kernel) (by simp [lg_sl, rf_cat, ca_r, ca_i, ca_n]) ?_
  intro p e s m args below meth c F hr hnm
  refine j_lv (lv1 := [(0, va_rf r)]) (by simp [lv_args, rf_cat, ca_r, ca_i, ca_n]) ?_
  refine j_aload_nq F d_TR_heightOf_0 rfl rfl ?_
  rcases H with ⟨rfl, rfl⟩ | ⟨a, ka, e0, lc, rc, rfl, hv⟩
  · skip
    refine j_ifnonnull F (tgt := 8) d_TR_heightOf_1 (by decide) (fun x hx => by cases hx) (fun _ => ?_)
    refine j_iconst F (v := 0) d_TR_heightOf_4 (by decide) ?_
    refine j_goto F (tgt := 12) d_TR_heightOf_5 (by decide) ?_
    exact j_iret F hr (Nat.le_refl _) (Nat.le_refl _) ⟨rfl, rfl⟩ d_TR_heightOf_12
  · skip
    refine j_ifnonnull F (tgt := 8) d_TR_heightOf_1 (by decide) (fun x hx => ?_) (fun hx => by cases hx)
    refine j_aload_n F d_TR_heightOf_8 rfl rfl ?_
    refine j_get F hv rfl in_VE 4 (by decide) wf_TR_52 rfl d_TR_heightOf_9 ?_
    exact j_iret F hr (Nat.le_refl _) (Nat.le_refl _) ⟨rfl, rfl⟩ d_TR_heightOf_12
set_option maxHeartbeats 4000000 in
set_option maxRecDepth 100000 in
theorem c_TR_hfs (hl : l.stackTraces = false) {a ka : Nat} {e0 : en_T} {ht : Int32} {lc rc : Option Nat} {h1 h2 : Nat} (hv : M a = some (vE ka e0 ht lc rc)) (H1 : hv_R M lc h1) (H2 : hv_R M rc h2) (b1 : h1 ≤ 1000) (b2 : h2 ≤ 1000) : ct_C l G y_TR_heightFromSides b_TR_heightFromSides 1 (some .int) { frames := 1, cells := 0, slots := 0, locals := 20 } [.ref a] M (fun v M1 => M = M1 ∧ v = some (.int (nI (max h1 h2 + 1)))) (fun _ _ => False) := by
  refine ct_of hl (by decide +kernel) (Nat.le_of_ble_eq_true rfl) ?_
  intro p e s m args below meth c F hr hnm
  refine j_iconst F (v := 1) d_TR_heightFromSides_0 (by decide) ?_
  refine j_aload_n F d_TR_heightFromSides_1 rfl rfl ?_
  refine j_get F hv rfl in_VE 5 (by decide) wf_TR_23 rfl d_TR_heightFromSides_2 ?_
  refine j_callS F 1 (c_TR_heightOf hl H1) wl_TR_64 wst_TR_heightOf wi_TR wco_TR_heightOf (by decide +kernel) (by decide) rfl rfl (Nat.le_of_ble_eq_true rfl) (by decide) (by decide) d_TR_heightFromSides_5 (fun E M1 hx => hx.elim) (fun r M1 hp => ?_)
  obtain ⟨rfl, rfl⟩ := hp
  refine j_aload_n F d_TR_heightFromSides_8 rfl rfl ?_
  refine j_get F hv rfl in_VE 6 (by decide) wf_TR_26 rfl d_TR_heightFromSides_9 ?_
  refine j_callS F 1 (c_TR_heightOf hl H2) wl_TR_64 wst_TR_heightOf wi_TR wco_TR_heightOf (by decide +kernel) (by decide) rfl rfl (Nat.le_of_ble_eq_true rfl) (by decide) (by decide) d_TR_heightFromSides_12 (fun E M1 hx => hx.elim) (fun r M1 hp => ?_)
  obtain ⟨rfl, rfl⟩ := hp
  refine j_max F wl_TR_67 wst_JM_max wi_JM wco_JM_max (by decide) (Nat.le_of_ble_eq_true rfl) (by decide) (by decide) d_TR_heightFromSides_15 ?_
  refine j_val (y := nI (max h1 h2)) (mx_nI (by omega) (by omega)) ?_
  refine j_iadd F d_TR_heightFromSides_18 ?_
  refine j_val (y := nI (max h1 h2 + 1)) (by rw [show (1 : Int32) = nI 1 from rfl, nI_add, Nat.add_comm]) ?_
  exact j_iret F hr (Nat.le_refl _) (Nat.le_refl _) ⟨rfl, rfl⟩ d_TR_heightFromSides_19
set_option maxHeartbeats 4000000 in
set_option maxRecDepth 100000 in
theorem c_TR_leaning (hl : l.stackTraces = false) {a ka : Nat} {e0 : en_T} {ht : Int32} {lc rc : Option Nat} {h1 h2 : Nat} (hv : M a = some (vE ka e0 ht lc rc)) (H1 : hv_R M lc h1) (H2 : hv_R M rc h2) (b1 : h1 ≤ 1000) (b2 : h2 ≤ 1000) : ct_C l G y_TR_leaning b_TR_leaning 1 (some .int) { frames := 1, cells := 0, slots := 0, locals := 20 } [.ref a] M (fun v M1 => M = M1 ∧ v = some (.int (nI h1 - nI h2))) (fun _ _ => False) := by
  refine ct_of hl (by decide +kernel) (Nat.le_of_ble_eq_true rfl) ?_
  intro p e s m args below meth c F hr hnm
  refine j_aload_n F d_TR_leaning_0 rfl rfl ?_
  refine j_ifnonnull F (r := some a) (tgt := 8) d_TR_leaning_1 (by decide) (fun x hx => ?_) (fun hx => by cases hx)
  refine j_aload_n F d_TR_leaning_8 rfl rfl ?_
  refine j_get F hv rfl in_VE 5 (by decide) wf_TR_23 rfl d_TR_leaning_9 ?_
  refine j_callS F 1 (c_TR_heightOf hl H1) wl_TR_64 wst_TR_heightOf wi_TR wco_TR_heightOf (by decide +kernel) (by decide) rfl rfl (Nat.le_of_ble_eq_true rfl) (by decide) (by decide) d_TR_leaning_12 (fun E M1 hx => hx.elim) (fun r M1 hp => ?_)
  obtain ⟨rfl, rfl⟩ := hp
  refine j_aload_n F d_TR_leaning_15 rfl rfl ?_
  refine j_get F hv rfl in_VE 6 (by decide) wf_TR_26 rfl d_TR_leaning_16 ?_
  refine j_callS F 1 (c_TR_heightOf hl H2) wl_TR_64 wst_TR_heightOf wi_TR wco_TR_heightOf (by decide +kernel) (by decide) rfl rfl (Nat.le_of_ble_eq_true rfl) (by decide) (by decide) d_TR_leaning_19 (fun E M1 hx => hx.elim) (fun r M1 hp => ?_)
  obtain ⟨rfl, rfl⟩ := hp
  refine j_isub F d_TR_leaning_22 ?_
  exact j_iret F hr (Nat.le_refl _) (Nat.le_refl _) ⟨rfl, rfl⟩ d_TR_leaning_23
set_option maxHeartbeats 4000000 in
set_option maxRecDepth 100000 in
theorem c_TR_isBalanced (hl : l.stackTraces = false) {a ka : Nat} {e0 : en_T} {lc rc : Option Nat} {h1 h2 : Nat} (hv : M a = some (vE ka e0 (nI (max h1 h2 + 1)) lc rc)) (H1 : hv_R M lc h1) (H2 : hv_R M rc h2) (b1 : h1 ≤ 1000) (b2 : h2 ≤ 1000) (g1 : h1 ≤ h2 + 1) (g2 : h2 ≤ h1 + 1) : ct_C l G y_TR_isBalanced b_TR_isBalanced 2 (some .boolean) { frames := 2, cells := 0, slots := 0, locals := 40 } [.ref a] M (fun v M1 => M = M1 ∧ v = some (.int 1)) (fun _ _ => False) := by
  refine ct_of hl (by decide +kernel) (Nat.le_of_ble_eq_true rfl) ?_
  intro p e s m args below meth c F hr hnm
  refine j_aload_n F d_TR_isBalanced_0 rfl rfl ?_
  refine j_callS F 1 (c_TR_leaning hl hv H1 H2 b1 b2) wl_TR_55 wst_TR_leaning wi_TR wco_TR_leaning (by decide +kernel) (by decide) rfl rfl (Nat.le_of_ble_eq_true rfl) (by decide) (by decide) d_TR_isBalanced_1 (fun E M1 hx => hx.elim) (fun r M1 hp => ?_)
  obtain ⟨rfl, rfl⟩ := hp
  refine j_istore_n F (lv1 := [(1, _), (0, _)]) d_TR_isBalanced_4 rfl (by decide) rfl ?_
  refine j_aload_n F d_TR_isBalanced_5 rfl rfl ?_
  refine j_get F hv rfl in_VE 4 (by decide) wf_TR_52 rfl d_TR_isBalanced_6 ?_
  refine j_aload_n F d_TR_isBalanced_9 rfl rfl ?_
  refine j_callS F 1 (c_TR_hfs hl hv H1 H2 b1 b2) wl_TR_48 wst_TR_heightFromSides wi_TR wco_TR_heightFromSides (by decide +kernel) (by decide) rfl rfl (Nat.le_of_ble_eq_true rfl) (by decide) (by decide) d_TR_isBalanced_10 (fun E M1 hx => hx.elim) (fun r M1 hp => ?_)
  obtain ⟨rfl, rfl⟩ := hp
  have hti : (nI h1 - nI h2).toInt = (h1 : Int) - h2 := pk_sub_toInt (by omega) (by omega)
  refine j_icmp_ne F (tgt := 30) d_TR_isBalanced_13 (by decide) (fun hc => absurd rfl hc) (fun hc => ?_)
  refine j_iload_n F d_TR_isBalanced_16 rfl rfl ?_
  refine j_iconst F (v := -1) d_TR_isBalanced_17 (by decide) ?_
  refine j_icmp_lt F (tgt := 30) d_TR_isBalanced_18 (by decide) (fun hc => ?_) (fun hc => ?_)
  · rw [Int32.lt_iff_toInt_lt, hti] at hc
    have : (-1 : Int32).toInt = -1 := by decide
    omega
  refine j_iload_n F d_TR_isBalanced_21 rfl rfl ?_
  refine j_iconst F (v := 1) d_TR_isBalanced_22 (by decide) ?_
  refine j_icmp_gt F (tgt := 30) d_TR_isBalanced_23 (by decide) (fun hc => ?_) (fun hc => ?_)
  · rw [Int32.lt_iff_toInt_lt, hti] at hc
    have : (1 : Int32).toInt = 1 := by decide
    omega
  refine j_iconst F (v := 1) d_TR_isBalanced_26 (by decide) ?_
  refine j_goto F (tgt := 31) d_TR_isBalanced_27 (by decide) ?_
  exact j_zret F hr rfl (Nat.le_refl _) (Nat.le_refl _) ⟨rfl, rfl⟩ d_TR_isBalanced_31
set_option maxHeartbeats 4000000 in
set_option maxRecDepth 100000 in
theorem c_TR_isBetween (hl : l.stackTraces = false) {y : no_T} {lo hi : Option no_T} (hy : no_R G M y) (hy6 : y.2.2.1.length ≤ 60) (hlo : ∀ z, lo = some z → no_R G M z ∧ z.2.2.1.length ≤ 60 ∧ oc z.2.2 y.2.2.1 y.2.2.2.1 < 0) (hhi : ∀ z, hi = some z → no_R G M z ∧ z.2.2.1.length ≤ 60 ∧ 0 < oc z.2.2 y.2.2.1 y.2.2.2.1) : ct_C l G y_TR_isBetween b_TR_isBetween 3 (some .boolean) { frames := 3, cells := 0, slots := 0, locals := 67 } [.ref y.1, va_rf (lo.map (fun z => z.1)), va_rf (hi.map (fun z => z.1))] M (fun v M1 => M = M1 ∧ v = some (.int 1)) (fun _ _ => False) := by
  refine ct_of hl (by decide +kernel) (by simp [lg_sl, rf_cat, ca_r, ca_i, ca_n]) ?_
  intro p e s m args below meth c F hr hnm
  refine j_lv (lv1 := [(0, .ref y.1), (1, va_rf (lo.map (fun z => z.1))), (2, va_rf (hi.map (fun z => z.1)))]) (by simp [lv_args, rf_cat, ca_r, ca_i, ca_n]) ?_
  obtain ⟨⟨hty, ly, ry, hv⟩, hky⟩ := hy
  refine j_cut (α := Unit) (fun _ => True) (fun _ => M) (fun _ => 0) (fun _ => 0) (fun _ => [(0, .ref y.1), (1, va_rf (lo.map (fun z => z.1))), (2, va_rf (hi.map (fun z => z.1)))]) 19 (fun _ => []) ?_ (fun at19 => ?_)
  · skip
    intro _ _
    refine j_aload_nq F d_TR_isBetween_19 rfl rfl ?_
    cases hi with
    | none =>
      refine j_ifnull F (tgt := 38) d_TR_isBetween_20 (by decide) (fun _ => ?_) (fun x hx => by cases hx)
      refine j_iconst F (v := 1) d_TR_isBetween_38 (by decide) ?_
      refine j_goto F (tgt := 43) d_TR_isBetween_39 (by decide) ?_
      exact j_zret F hr rfl (Nat.le_refl _) (Nat.le_refl _) ⟨rfl, rfl⟩ d_TR_isBetween_43
    | some q =>
      obtain ⟨⟨⟨htq, lq, rq, hvq⟩, hkq⟩, hq6, hqo⟩ := hhi q rfl
      refine j_ifnull F (tgt := 38) d_TR_isBetween_20 (by decide) (fun hx => by cases hx) (fun x hx => ?_)
      refine j_aload_n F d_TR_isBetween_23 rfl rfl ?_
      refine j_aload_n F d_TR_isBetween_24 rfl rfl ?_
      refine j_get F hv rfl in_VE 0 (by decide) wf_TR_37 rfl d_TR_isBetween_25 ?_
      refine j_aload_n F d_TR_isBetween_28 rfl rfl ?_
      refine j_get F hv rfl in_VE 1 (by decide) wf_TR_41 rfl d_TR_isBetween_29 ?_
      refine j_callV F 2 (c_VE_orderOf hl hvq hkq (Or.inl hky) hq6 hy6 (mm := y.2.2.2.1)) hvq rfl wl_TR_17 wim_VE_orderOf wse_VE_orderOf wi_VE wco_VE_orderOf (by decide +kernel) (by decide) rfl rfl (Nat.le_of_ble_eq_true rfl) (by decide) (by decide) d_TR_isBetween_32 (fun E M1 hx => hx.elim) (fun r M1 hp => ?_)
      obtain ⟨rfl, d, rfl, hd1, hd2⟩ := hp
      refine j_if_ge F (tgt := 42) d_TR_isBetween_35 (by decide) (fun hc => absurd (hd1.mpr hqo) (Int32.not_lt.mpr hc)) (fun hc => ?_)
      refine j_iconst F (v := 1) d_TR_isBetween_38 (by decide) ?_
      refine j_goto F (tgt := 43) d_TR_isBetween_39 (by decide) ?_
      exact j_zret F hr rfl (Nat.le_refl _) (Nat.le_refl _) ⟨rfl, rfl⟩ d_TR_isBetween_43
  refine j_aload_nq F d_TR_isBetween_0 rfl rfl ?_
  cases lo with
  | none =>
    exact j_ifnull F (tgt := 19) d_TR_isBetween_1 (by decide) (fun _ => at19 () trivial) (fun x hx => by cases hx)
  | some q =>
    obtain ⟨⟨⟨htq, lq, rq, hvq⟩, hkq⟩, hq6, hqo⟩ := hlo q rfl
    refine j_ifnull F (tgt := 19) d_TR_isBetween_1 (by decide) (fun hx => by cases hx) (fun x hx => ?_)
    refine j_aload_n F d_TR_isBetween_4 rfl rfl ?_
    refine j_aload_n F d_TR_isBetween_5 rfl rfl ?_
    refine j_get F hv rfl in_VE 0 (by decide) wf_TR_37 rfl d_TR_isBetween_6 ?_
    refine j_aload_n F d_TR_isBetween_9 rfl rfl ?_
    refine j_get F hv rfl in_VE 1 (by decide) wf_TR_41 rfl d_TR_isBetween_10 ?_
    refine j_callV F 2 (c_VE_orderOf hl hvq hkq (Or.inl hky) hq6 hy6 (mm := y.2.2.2.1)) hvq rfl wl_TR_17 wim_VE_orderOf wse_VE_orderOf wi_VE wco_VE_orderOf (by decide +kernel) (by decide) rfl rfl (Nat.le_of_ble_eq_true rfl) (by decide) (by decide) d_TR_isBetween_13 (fun E M1 hx => hx.elim) (fun r M1 hp => ?_)
    obtain ⟨rfl, d, rfl, hd1, hd2⟩ := hp
    refine j_if_le F (tgt := 42) d_TR_isBetween_16 (by decide) (fun hc => ?_) (fun hc => at19 () trivial)
    exfalso
    by_cases z : d = 0
    · have := hd2.mp z; omega
    · have := hd1.mp (Int32.lt_of_le_of_ne hc z); omega
end HT1
