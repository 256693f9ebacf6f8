/-- x's cell -/
abbrev xE (ta : Nat) (n : Int32) (tt : Nat) (cur : Option Nat) : va_E := .inr (0, [.ref ta, .int n, .ref tt, va_rf cur])
def by4 (w : Int32) : ke_T := [b1 w 0, b1 w 1, b1 w 2, b1 w 3]
theorem by20_4 (a b c d e : Int32) : by20 a b c d e = by4 a ++ by4 b ++ by4 c ++ by4 d ++ by4 e := rfl
theorem by_fit {x : Int32} (h : vp_nar .byte x = x) : fits .byte (.int x) = true := by
  rw [← h]
  exact pk_fb x
/-- a tree that is high has many versions -/
theorem tr_big {G : gv_T} {M : mp_T} (d : Nat) : ∀ {r : Option Nat} {L : List no_T} {h : Nat}, tr G M d r L h → ∀ j, 2 * j ≤ h → 2 ^ j ≤ L.length + 1 := by
  induction d with
  | zero =>
    intro r L h ht j hj
    cases r with
    | none => rw [ht.2] at hj; obtain rfl : j = 0 := by omega
              rw [ht.1]; decide
    | some a => exact ht.elim
  | succ d ih =>
    intro r L h ht j hj
    cases r with
    | none => rw [ht.2] at hj; obtain rfl : j = 0 := by omega
              rw [ht.1]; decide
    | some a =>
      obtain ⟨ka, e, l, r, Ll, Lr, hl, hr, -, -, h3, h4, rfl, h6, g1, g2⟩ := ht
      cases j with
      | zero => simp
      | succ j =>
        have q1 := ih h3 j (by omega)
        have q2 := ih h4 j (by omega)
        rw [List.length_append, List.length_cons, Nat.pow_succ]
        omega
theorem tr_h {G : gv_T} {M : mp_T} {d : Nat} {r : Option Nat} {L : List no_T} {h : Nat} (ht : tr G M d r L h) (hL : L.length ≤ 200) : h ≤ 15 := by
  apply Nat.not_lt.mp
  intro z
  have := tr_big d ht 8 (by omega)
  have h8 : 2 ^ 8 = 256 := by decide
  omega
section MT1
variable {l : Launch} {G : gv_T} {M : mp_T}
set_option maxHeartbeats 4000000 in
set_option maxRecDepth 100000 in
theorem c_TR_init (hl : l.stackTraces = false) {tt : Nat} (htt : M tt = some (.inr (1, [.null, .int 0]))) (ztt : G.2.2.1 ≤ tt) : cn_C l G y_TR_init b_TR_init 1 { frames := 1, cells := 0, slots := 0, locals := 20 } [.ref tt] M (fun r M1 => r = none ∧ M1 tt = some (.inr (1, [va_rf none, .int (nI 0)])) ∧ ∀ q, q ≠ tt → M1 q = M q) := by
  refine cn_of hl (by decide +kernel) (Nat.le_of_ble_eq_true rfl) ?_
  intro p e s m args below meth c F hr hnm
  refine j_aload_n F d_TR_init_0 rfl rfl ?_
  refine j_obj F wl_TR_1 wim_JO_init wco_JO_init (by decide) (Nat.le_of_ble_eq_true rfl) d_TR_init_1 ?_
  refine j_aload_n F d_TR_init_4 rfl rfl ?_
  refine j_null F d_TR_init_5 ?_
  refine j_put F htt ztt rfl in_TR ty_TR ok_TR nm_TR 0 (by decide) wf_TR_7 rfl (ty := .object "MomentTree$Version") (by decide +kernel) rfl rfl (Nat.le_of_ble_eq_true rfl) d_TR_init_6 ?_
  refine j_nmW (P := fun M1 => M1 tt = some (.inr (1, [.null, .int 0])) ∧ ∀ q, q ≠ tt → M1 q = M q) ⟨mp_Us _ _ _, fun q hq => mp_Un hq⟩ (fun M1 S1 => ?_)
  refine j_aload_n F d_TR_init_9 rfl rfl ?_
  refine j_iconst F (v := 0) d_TR_init_10 (by decide) ?_
  refine j_put F S1.1 ztt rfl in_TR ty_TR ok_TR nm_TR 1 (by decide) wf_TR_13 rfl (ty := .int) (by decide +kernel) rfl rfl (Nat.le_of_ble_eq_true rfl) d_TR_init_11 ?_
  exact j_cret F hr (Nat.le_refl _) (Nat.le_refl _) ⟨rfl, mp_Us _ _ _, fun q hq => (mp_Un hq).trans (S1.2 q hq)⟩ d_TR_init_14
set_option maxHeartbeats 4000000 in
set_option maxRecDepth 100000 in
theorem c_TR_empty (hl : l.stackTraces = false) {tt : Nat} {root : Option Nat} {nv : Int32} (htt : M tt = some (.inr (1, [va_rf root, .int nv]))) (ztt : G.2.2.1 ≤ tt) : ct_C l G y_TR_empty b_TR_empty 1 none { frames := 0, cells := 0, slots := 0, locals := 0 } [.ref tt] M (fun r M1 => r = none ∧ M1 tt = some (.inr (1, [va_rf none, .int (nI 0)])) ∧ ∀ q, q ≠ tt → M1 q = M q) (fun _ _ => False) := by
  refine ct_of hl (by decide +kernel) (Nat.le_of_ble_eq_true rfl) ?_
  intro p e s m args below meth c F hr hnm
  refine j_aload_n F d_TR_empty_0 rfl rfl ?_
  refine j_null F d_TR_empty_1 ?_
  refine j_put F htt ztt rfl in_TR ty_TR ok_TR nm_TR 0 (by decide) wf_TR_7 rfl (ty := .object "MomentTree$Version") (by decide +kernel) rfl rfl (Nat.le_of_ble_eq_true rfl) d_TR_empty_2 ?_
  refine j_nmW (P := fun M1 => M1 tt = some (.inr (1, [.null, .int nv])) ∧ ∀ q, q ≠ tt → M1 q = M q) ⟨mp_Us _ _ _, fun q hq => mp_Un hq⟩ (fun M1 S1 => ?_)
  refine j_aload_n F d_TR_empty_5 rfl rfl ?_
  refine j_iconst F (v := 0) d_TR_empty_6 (by decide) ?_
  refine j_put F S1.1 ztt rfl in_TR ty_TR ok_TR nm_TR 1 (by decide) wf_TR_13 rfl (ty := .int) (by decide +kernel) rfl rfl (Nat.le_of_ble_eq_true rfl) d_TR_empty_7 ?_
  exact j_vret F hr (Nat.le_refl _) (Nat.le_refl _) ⟨rfl, mp_Us _ _ _, fun q hq => (mp_Un hq).trans (S1.2 q hq)⟩ d_TR_empty_10
set_option maxHeartbeats 4000000 in
set_option maxRecDepth 100000 in
theorem c_VE_init (hl : l.stackTraces = false) {b0 kb : Nat} {k : ke_T} {mm pp zz : Int32} (hb : M b0 = some (.inr (2, [.null, .int 0, .int 0, .int 0, .int 0, .null, .null]))) (zb : G.2.2.1 ≤ b0) : cn_C l G y_VE_init b_VE_init 5 { frames := 1, cells := 0, slots := 0, locals := 20 } [.ref b0, .ref kb, .int mm, .int pp, .int zz] M (fun r M1 => r = none ∧ M1 b0 = some (vE kb (k, mm, pp, zz) (nI 1) none none) ∧ ∀ q, q ≠ b0 → M1 q = M q) := by
  refine cn_of hl (by decide +kernel) (Nat.le_of_ble_eq_true rfl) ?_
  intro p e s m args below meth c F hr hnm
  refine j_aload_n F d_VE_init_0 rfl rfl ?_
  refine j_obj F wl_VE_1 wim_JO_init wco_JO_init (by decide) (Nat.le_of_ble_eq_true rfl) d_VE_init_1 ?_
  refine j_aload_n F d_VE_init_4 rfl rfl ?_
  refine j_aload_n F d_VE_init_5 rfl rfl ?_
  refine j_putF F hb zb rfl in_VE ty_VE ok_VE nm_VE 0 (by decide) wf_VE_7 rfl hnm rfl (ty := .array .byte) (by decide +kernel) rfl rfl (Nat.le_of_ble_eq_true rfl) d_VE_init_6 ?_
  refine j_nmW (P := fun M1 => M1 b0 = some (.inr (2, [.ref kb, .int 0, .int 0, .int 0, .int 0, .null, .null])) ∧ ∀ q, q ≠ b0 → M1 q = M q) ⟨mp_Us _ _ _, fun q hq => mp_Un hq⟩ (fun M1 S1 => ?_)
  refine j_aload_n F d_VE_init_9 rfl rfl ?_
  refine j_iload_n F d_VE_init_10 rfl rfl ?_
  refine j_putF F S1.1 zb rfl in_VE ty_VE ok_VE nm_VE 1 (by decide) wf_VE_13 rfl hnm rfl (ty := .int) (by decide +kernel) rfl rfl (Nat.le_of_ble_eq_true rfl) d_VE_init_11 ?_
  refine j_nmW (P := fun M1 => M1 b0 = some (.inr (2, [.ref kb, .int mm, .int 0, .int 0, .int 0, .null, .null])) ∧ ∀ q, q ≠ b0 → M1 q = M q) ⟨mp_Us _ _ _, fun q hq => (mp_Un hq).trans (S1.2 q hq)⟩ (fun M2 S2 => ?_)
  refine j_aload_n F d_VE_init_14 rfl rfl ?_
  refine j_iload_n F d_VE_init_15 rfl rfl ?_
  refine j_put F S2.1 zb rfl in_VE ty_VE ok_VE nm_VE 2 (by decide) wf_VE_17 rfl (ty := .int) (by decide +kernel) rfl rfl (Nat.le_of_ble_eq_true rfl) d_VE_init_16 ?_
  refine j_nmW (P := fun M1 => M1 b0 = some (.inr (2, [.ref kb, .int mm, .int pp, .int 0, .int 0, .null, .null])) ∧ ∀ q, q ≠ b0 → M1 q = M q) ⟨mp_Us _ _ _, fun q hq => (mp_Un hq).trans (S2.2 q hq)⟩ (fun M3 S3 => ?_)
  refine j_aload_n F d_VE_init_19 rfl rfl ?_
  refine j_iload F d_VE_init_20 rfl ?_
  refine j_put F S3.1 zb rfl in_VE ty_VE ok_VE nm_VE 3 (by decide) wf_VE_20 rfl (ty := .int) (by decide +kernel) rfl rfl (Nat.le_of_ble_eq_true rfl) d_VE_init_22 ?_
  refine j_nmW (P := fun M1 => M1 b0 = some (.inr (2, [.ref kb, .int mm, .int pp, .int zz, .int 0, .null, .null])) ∧ ∀ q, q ≠ b0 → M1 q = M q) ⟨mp_Us _ _ _, fun q hq => (mp_Un hq).trans (S3.2 q hq)⟩ (fun M4 S4 => ?_)
  refine j_aload_n F d_VE_init_25 rfl rfl ?_
  refine j_iconst F (v := 1) d_VE_init_26 (by decide) ?_
  refine j_put F S4.1 zb rfl in_VE ty_VE ok_VE nm_VE 4 (by decide) wf_VE_23 rfl (ty := .int) (by decide +kernel) rfl rfl (Nat.le_of_ble_eq_true rfl) d_VE_init_27 ?_
  refine j_nmW (P := fun M1 => M1 b0 = some (.inr (2, [.ref kb, .int mm, .int pp, .int zz, .int 1, .null, .null])) ∧ ∀ q, q ≠ b0 → M1 q = M q) ⟨mp_Us _ _ _, fun q hq => (mp_Un hq).trans (S4.2 q hq)⟩ (fun M5 S5 => ?_)
  refine j_aload_n F d_VE_init_30 rfl rfl ?_
  refine j_null F d_VE_init_31 ?_
  refine j_put F S5.1 zb rfl in_VE ty_VE ok_VE nm_VE 5 (by decide) wf_VE_26 rfl (ty := .object "MomentTree$Version") (by decide +kernel) rfl rfl (Nat.le_of_ble_eq_true rfl) d_VE_init_32 ?_
  refine j_nmW (P := fun M1 => M1 b0 = some (.inr (2, [.ref kb, .int mm, .int pp, .int zz, .int 1, .null, .null])) ∧ ∀ q, q ≠ b0 → M1 q = M q) ⟨mp_Us _ _ _, fun q hq => (mp_Un hq).trans (S5.2 q hq)⟩ (fun M6 S6 => ?_)
  refine j_aload_n F d_VE_init_35 rfl rfl ?_
  refine j_null F d_VE_init_36 ?_
  refine j_put F S6.1 zb rfl in_VE ty_VE ok_VE nm_VE 6 (by decide) wf_VE_30 rfl (ty := .object "MomentTree$Version") (by decide +kernel) rfl rfl (Nat.le_of_ble_eq_true rfl) d_VE_init_37 ?_
  refine j_nmW (P := fun M1 => M1 b0 = some (.inr (2, [.ref kb, .int mm, .int pp, .int zz, .int 1, .null, .null])) ∧ ∀ q, q ≠ b0 → M1 q = M q) ⟨mp_Us _ _ _, fun q hq => (mp_Un hq).trans (S6.2 q hq)⟩ (fun M7 S7 => ?_)
  exact j_cret F hr (Nat.le_refl _) (Nat.le_refl _) ⟨rfl, S7.1, S7.2⟩ d_VE_init_40
set_option maxHeartbeats 4000000 in
set_option maxRecDepth 100000 in
theorem c_JA_copyOf (hl : l.stackTraces = false) {ta n : Nat} {tf : Nat → Int32} (hta : M ta = some (.inl (G.2.1.1, 60, .inl tf))) (hbt : by_Q tf) (hn : n ≤ 40) : ct_C l G y_JA_copyOf b_JA_copyOf 3 (some (.array .byte)) { frames := 1, cells := 1, slots := 40, locals := 60 } [.ref ta, .int (nI n)] M (fun v M1 => ∃ (kb : Nat) (kf : Nat → Int32), v = some (.ref kb) ∧ G.2.2.1 ≤ kb ∧ M kb = none ∧ M1 kb = some (.inl (G.2.1.1, n, .inl kf)) ∧ (∀ j, j < n → kf j = tf j) ∧ ∀ q, q ≠ kb → M1 q = M q) (fun _ _ => False) := by
  refine ct_of hl (by decide +kernel) (Nat.le_of_ble_eq_true rfl) ?_
  intro p e s m args below meth c F hr hnm
  have hcl : (nI n).toNatClampNeg = n := nI_clamp (by omega)
  refine j_iload_n F d_JA_copyOf_0 rfl rfl ?_
  refine j_aload_n F d_JA_copyOf_1 rfl rfl ?_
  refine j_blen F hta rfl d_JA_copyOf_2 ?_
  refine j_icmp_ne F (tgt := 14) d_JA_copyOf_3 (by decide) (fun hc => ?_) (fun hc => ?_)
  rotate_left
  · have := (nI_eq (b := 60) (by omega) (by decide)).mp hc
    omega
  refine j_iload_n F d_JA_copyOf_14 rfl rfl ?_
  refine j_newb F wa_byte (len := n) (nI_pos (by omega)) hcl (by show n * 1 ≤ _; omega) (by decide) (by dsimp only; omega) d_JA_copyOf_15 (fun kb zk nk => ?_)
  have htk : ta ≠ kb := fun z => by rw [z, nk] at hta; cases hta
  have hta1 := (mp_Un (e := .inl (G.2.1.1, n, .inl (fun _ => 0))) htk).trans hta
  refine j_astore_n F (lv1 := [(2, _), (0, _), (1, _)]) d_JA_copyOf_17 rfl (by decide) rfl ?_
  refine j_aload_n F d_JA_copyOf_18 rfl rfl ?_
  refine j_iconst F (v := 0) d_JA_copyOf_19 (by decide) ?_
  refine j_aload_n F d_JA_copyOf_20 rfl rfl ?_
  refine j_iconst F (v := 0) d_JA_copyOf_21 (by decide) ?_
  refine j_aload_n F d_JA_copyOf_22 rfl rfl ?_
  refine j_blen F hta1 rfl d_JA_copyOf_23 ?_
  refine j_iload_n F d_JA_copyOf_24 rfl rfl ?_
  refine j_min F wl_JA_304 wst_JM_min wi_JM wco_JM_min (by decide) (Nat.le_of_ble_eq_true rfl) (by decide) (by dsimp only; omega) d_JA_copyOf_25 ?_
  refine j_val (y := nI n) (by rw [show Int32.ofNat 60 = nI 60 from rfl, mn_nI (by decide) (by omega), Nat.min_eq_right (by omega)]) ?_
  refine j_copy F wl_JA_150 wna_JS_arraycopy wst_JS_arraycopy wi_JS hta1 (mp_Us _ _ _) zk (by decide) (by decide) (nI_pos (by omega)) (by rw [hcl, sb_cl0]; omega) (by rw [hcl, sb_cl0]; omega) (fun i hi => by_fit (hbt _)) (by decide) (Nat.le_of_ble_eq_true rfl) d_JA_copyOf_28 ?_
  refine j_aload_n F d_JA_copyOf_31 rfl rfl ?_
  exact j_aret F hr (Or.inr ⟨_, rfl⟩) (Or.inr ⟨_, rfl⟩) (by decide) (by dsimp only; omega) ⟨kb, _, rfl, zk, nk, mp_Us _ _ _, fun j hj => by rw [hcl, sb_cl0]; exact sb_cpy0 hj, fun q hq => (mp_Un hq).trans (mp_Un hq)⟩ d_JA_copyOf_32
set_option maxHeartbeats 4000000 in
set_option maxRecDepth 100000 in
theorem c_MT_takeTape (hl : l.stackTraces = false) {x ta tt : Nat} {cur : Option Nat} {tf : Nat → Int32} {k : ke_T} (hx : M x = some (xE ta (nI k.length) tt cur)) (zx : G.2.2.1 ≤ x) (hta : M ta = some (.inl (G.2.1.1, 60, .inl tf))) (hbt : by_Q tf) (hT : tp_R k tf) (hn : k.length ≤ 40) : ct_C l G y_MT_takeTape b_MT_takeTape 2 (some (.array .byte)) { frames := 2, cells := 1, slots := 40, locals := 90 } [.ref x] M (fun v M1 => ∃ (kb : Nat), v = some (.ref kb) ∧ G.2.2.1 ≤ kb ∧ M kb = none ∧ ky G M1 kb k ∧ M1 x = some (xE ta (nI 0) tt cur) ∧ ∀ q, q ≠ kb → q ≠ x → M1 q = M q) (fun _ _ => False) := by
  refine ct_of hl (by decide +kernel) (Nat.le_of_ble_eq_true rfl) ?_
  intro p e s m args below meth c F hr hnm
  refine j_aload_n F d_MT_takeTape_0 rfl rfl ?_
  refine j_get F hx rfl in_MT 0 (by decide) wf_MT_9 rfl d_MT_takeTape_1 ?_
  refine j_aload_n F d_MT_takeTape_4 rfl rfl ?_
  refine j_get F hx rfl in_MT 1 (by decide) wf_MT_13 rfl d_MT_takeTape_5 ?_
  refine j_callS F 2 (c_JA_copyOf hl hta hbt hn) wl_MT_102 wst_JA_copyOf wi_JA wco_JA_copyOf (by decide +kernel) (by decide) rfl rfl (Nat.le_of_ble_eq_true rfl) (by decide) (by decide) d_MT_takeTape_8 (fun E M1 hx => hx.elim) (fun r M1 hp => ?_)
  obtain ⟨kb, kf, rfl, zk, nk, hk1, hk2, hf⟩ := hp
  have hxk : x ≠ kb := fun z => by rw [z, nk] at hx; cases hx
  have hx1 := (hf x hxk).trans hx
  refine j_astore_n F (lv1 := [(1, _), (0, _)]) d_MT_takeTape_11 rfl (by decide) rfl ?_
  refine j_aload_n F d_MT_takeTape_12 rfl rfl ?_
  refine j_iconst F (v := 0) d_MT_takeTape_13 (by decide) ?_
  refine j_put F hx1 zx rfl in_MT ty_MT ok_MT nm_MT 1 (by decide) wf_MT_13 rfl (ty := .int) (by decide +kernel) rfl rfl (Nat.le_of_ble_eq_true rfl) d_MT_takeTape_14 ?_
  refine j_aload_n F d_MT_takeTape_17 rfl rfl ?_
  exact j_aret F hr (Or.inr ⟨_, rfl⟩) (Or.inr ⟨_, rfl⟩) (by decide) (by decide) ⟨kb, rfl, zk, nk, ⟨kf, (mp_Un (Ne.symm hxk)).trans hk1, fun j hj => (hk2 j hj).trans (hT j hj)⟩, mp_Us _ _ _, fun q h1 h2 => (mp_Un h2).trans (hf q h1)⟩ d_MT_takeTape_18
set_option maxHeartbeats 4000000 in
set_option maxRecDepth 100000 in
theorem c_MT_tapeIsKey (hl : l.stackTraces = false) {x ta tt n : Nat} {cur : Option Nat} (hx : M x = some (xE ta (nI n) tt cur)) (hn : n ≤ 60) : ct_C l G y_MT_tapeIsKey b_MT_tapeIsKey 1 (some .boolean) { frames := 0, cells := 0, slots := 0, locals := 0 } [.ref x] M (fun v M1 => M = M1 ∧ v = some (.int (if 1 ≤ n ∧ n ≤ 40 then 1 else 0))) (fun _ _ => False) := by
  refine ct_of hl (by decide +kernel) (Nat.le_of_ble_eq_true rfl) ?_
  intro p e s m args below meth c F hr hnm
  refine j_aload_n F d_MT_tapeIsKey_0 rfl rfl ?_
  refine j_get F hx rfl in_MT 1 (by decide) wf_MT_13 rfl d_MT_tapeIsKey_1 ?_
  refine j_iconst F (v := 1) d_MT_tapeIsKey_4 (by decide) ?_
  refine j_icmp_lt F (tgt := 21) d_MT_tapeIsKey_5 (by decide) (fun hc => ?_) (fun hc => ?_)
  · skip
    have h1 : n < 1 := (nI_ltI (b := 1) (by omega) (by decide)).mp hc
    refine j_iconst F (v := 0) d_MT_tapeIsKey_21 (by decide) ?_
    exact j_zret F hr rfl (Nat.le_refl _) (Nat.le_refl _) ⟨rfl, by rw [if_neg (by omega)]⟩ d_MT_tapeIsKey_22
  · skip
    have h1 : 1 ≤ n := Nat.not_lt.mp (fun z => hc ((nI_ltI (b := 1) (by omega) (by decide)).mpr z))
    refine j_aload_n F d_MT_tapeIsKey_8 rfl rfl ?_
    refine j_get F hx rfl in_MT 1 (by decide) wf_MT_13 rfl d_MT_tapeIsKey_9 ?_
    refine j_bipush F (v := 40) d_MT_tapeIsKey_12 (by decide) ?_
    refine j_icmp_gt F (tgt := 21) d_MT_tapeIsKey_14 (by decide) (fun hc2 => ?_) (fun hc2 => ?_)
    · skip
      have h2 : 40 < n := (nI_ltI (a := 40) (by decide) (by omega)).mp hc2
      refine j_iconst F (v := 0) d_MT_tapeIsKey_21 (by decide) ?_
      exact j_zret F hr rfl (Nat.le_refl _) (Nat.le_refl _) ⟨rfl, by rw [if_neg (by omega)]⟩ d_MT_tapeIsKey_22
    · skip
      have h2 : n ≤ 40 := Nat.not_lt.mp (fun z => hc2 ((nI_ltI (a := 40) (by decide) (by omega)).mpr z))
      refine j_iconst F (v := 1) d_MT_tapeIsKey_17 (by decide) ?_
      refine j_goto F (tgt := 22) d_MT_tapeIsKey_18 (by decide) ?_
      exact j_zret F hr rfl (Nat.le_refl _) (Nat.le_refl _) ⟨rfl, by rw [if_pos ⟨h1, h2⟩]⟩ d_MT_tapeIsKey_22
set_option maxHeartbeats 4000000 in
set_option maxRecDepth 100000 in
theorem c_MT_append (hl : l.stackTraces = false) {x ta tt : Nat} {cur : Option Nat} {tf : Nat → Int32} {k : ke_T} (hx : M x = some (xE ta (nI k.length) tt cur)) (zx : G.2.2.1 ≤ x) (zta : G.2.2.1 ≤ ta) (hta : M ta = some (.inl (G.2.1.1, 60, .inl tf))) (hbt : by_Q tf) (hT : tp_R k tf) (hn : k.length ≤ 56) (w : Int32) : ct_C l G y_MT_append b_MT_append 3 none { frames := 0, cells := 0, slots := 0, locals := 0 } [.ref x, .int w] M (fun v M1 => v = none ∧ ∃ tf1 : Nat → Int32, tw_P M M1 x ta (xE ta (nI (k.length + 4)) tt cur) (.inl (G.2.1.1, 60, .inl tf1)) ∧ tp_R (k ++ by4 w) tf1 ∧ by_Q tf1) (fun _ _ => False) := by
  refine ct_of hl (by decide +kernel) (Nat.le_of_ble_eq_true rfl) ?_
  intro p e s m args below meth c F hr hnm
  have hxt : x ≠ ta := fun z => by rw [z, hta] at hx; cases hx
  have S0 : tw_P M M x ta (xE ta (nI (k.length + 0)) tt cur) (.inl (G.2.1.1, 60, .inl tf)) := ⟨hx, hta, fun _ _ _ => rfl⟩
  have T0 : tp_R (k ++ []) tf := by rw [List.append_nil]; exact hT
  have Q0 := hbt
  have L0 : (k ++ ([] : ke_T)).length = k.length + 0 := by simp
  refine j_bipush F (v := 24) d_MT_append_0 (by decide) ?_
  refine j_istore_n F (lv1 := [(2, _), (0, _), (1, _)]) d_MT_append_2 rfl (by decide) rfl ?_
  refine j_iload_n F d_MT_append_3 rfl rfl ?_
  refine j_if_lt F (tgt := 45) d_MT_append_4 (by decide) (fun hc => absurd hc (by decide)) (fun hc => ?_)
  refine j_aload_n F d_MT_append_7 rfl rfl ?_
  refine j_get F S0.1 rfl in_MT 1 (by decide) wf_MT_13 rfl d_MT_append_8 ?_
  refine j_bipush F (v := 60) d_MT_append_11 (by decide) ?_
  refine j_icmp_ge F (tgt := 45) d_MT_append_13 (by decide) (fun hc => ?_) (fun hc => ?_)
  · have := (nI_leI (a := 60) (by decide) (by omega)).mp hc
    omega
  refine j_aload_n F d_MT_append_16 rfl rfl ?_
  refine j_get F S0.1 rfl in_MT 0 (by decide) wf_MT_9 rfl d_MT_append_17 ?_
  refine j_aload_n F d_MT_append_20 rfl rfl ?_
  refine j_get F S0.1 rfl in_MT 1 (by decide) wf_MT_13 rfl d_MT_append_21 ?_
  refine j_iload_n F d_MT_append_24 rfl rfl ?_
  refine j_iload_n F d_MT_append_25 rfl rfl ?_
  refine j_ishr F d_MT_append_26 ?_
  refine j_i2b F d_MT_append_27 rfl ?_
  refine j_bastN F S0.2.1 zta (by omega) (by decide) (b1_byte w 0) d_MT_append_28 ?_
  refine j_nmW (P := fun M1 => tw_P M M1 x ta (xE ta (nI (k.length + 0)) tt cur) (.inl (G.2.1.1, 60, .inl (upd tf (k.length + 0) (b1 w 0))))) (tw_b hxt S0) (fun M1 S1 => ?_)
  refine j_aload_n F d_MT_append_29 rfl rfl ?_
  refine j_dup F d_MT_append_30 rfl ?_
  refine j_get F S1.1 rfl in_MT 1 (by decide) wf_MT_13 rfl d_MT_append_31 ?_
  refine j_iconst F (v := 1) d_MT_append_34 (by decide) ?_
  refine j_iadd F d_MT_append_35 ?_
  refine j_val (y := nI (k.length + 1)) (nI_1 _) ?_
  refine j_put F S1.1 zx rfl in_MT ty_MT ok_MT nm_MT 1 (by decide) wf_MT_13 rfl (ty := .int) (by decide +kernel) rfl rfl (Nat.le_of_ble_eq_true rfl) d_MT_append_36 ?_
  refine j_nmW (P := fun M1 => tw_P M M1 x ta (xE ta (nI (k.length + 1)) tt cur) (.inl (G.2.1.1, 60, .inl (upd tf (k.length + 0) (b1 w 0))))) (tw_a hxt S1) (fun M2 S2 => ?_)
  have T1 : tp_R (k ++ [b1 w 0]) (upd tf (k.length + 0) (b1 w 0)) := by
    have h9 := tp_app (b1 w 0) T0
    rw [L0, List.append_assoc] at h9
    exact h9
  have Q1 : by_Q (upd tf (k.length + 0) (b1 w 0)) := by_upd Q0 (b1_byte w 0)
  have L1 : (k ++ [b1 w 0]).length = k.length + 1 := by simp
  refine j_iinc F (v := 16) (lv1 := [(2, _), (0, _), (1, _)]) d_MT_append_39 rfl (by decide) (by decide) rfl ?_
  refine j_goto F (tgt := 3) d_MT_append_42 (by decide) ?_
  refine j_iload_n F d_MT_append_3 rfl rfl ?_
  refine j_if_lt F (tgt := 45) d_MT_append_4 (by decide) (fun hc => absurd hc (by decide)) (fun hc => ?_)
  refine j_aload_n F d_MT_append_7 rfl rfl ?_
  refine j_get F S2.1 rfl in_MT 1 (by decide) wf_MT_13 rfl d_MT_append_8 ?_
  refine j_bipush F (v := 60) d_MT_append_11 (by decide) ?_
  refine j_icmp_ge F (tgt := 45) d_MT_append_13 (by decide) (fun hc => ?_) (fun hc => ?_)
  · have := (nI_leI (a := 60) (by decide) (by omega)).mp hc
    omega
  refine j_aload_n F d_MT_append_16 rfl rfl ?_
  refine j_get F S2.1 rfl in_MT 0 (by decide) wf_MT_9 rfl d_MT_append_17 ?_
  refine j_aload_n F d_MT_append_20 rfl rfl ?_
  refine j_get F S2.1 rfl in_MT 1 (by decide) wf_MT_13 rfl d_MT_append_21 ?_
  refine j_iload_n F d_MT_append_24 rfl rfl ?_
  refine j_iload_n F d_MT_append_25 rfl rfl ?_
  refine j_ishr F d_MT_append_26 ?_
  refine j_i2b F d_MT_append_27 rfl ?_
  refine j_bastN F S2.2.1 zta (by omega) (by decide) (b1_byte w 1) d_MT_append_28 ?_
  refine j_nmW (P := fun M1 => tw_P M M1 x ta (xE ta (nI (k.length + 1)) tt cur) (.inl (G.2.1.1, 60, .inl (upd (upd tf (k.length + 0) (b1 w 0)) (k.length + 1) (b1 w 1))))) (tw_b hxt S2) (fun M3 S3 => ?_)
  refine j_aload_n F d_MT_append_29 rfl rfl ?_
  refine j_dup F d_MT_append_30 rfl ?_
  refine j_get F S3.1 rfl in_MT 1 (by decide) wf_MT_13 rfl d_MT_append_31 ?_
  refine j_iconst F (v := 1) d_MT_append_34 (by decide) ?_
  refine j_iadd F d_MT_append_35 ?_
  refine j_val (y := nI (k.length + 2)) (nI_1 _) ?_
  refine j_put F S3.1 zx rfl in_MT ty_MT ok_MT nm_MT 1 (by decide) wf_MT_13 rfl (ty := .int) (by decide +kernel) rfl rfl (Nat.le_of_ble_eq_true rfl) d_MT_append_36 ?_
  refine j_nmW (P := fun M1 => tw_P M M1 x ta (xE ta (nI (k.length + 2)) tt cur) (.inl (G.2.1.1, 60, .inl (upd (upd tf (k.length + 0) (b1 w 0)) (k.length + 1) (b1 w 1))))) (tw_a hxt S3) (fun M4 S4 => ?_)
  have T2 : tp_R (k ++ [b1 w 0, b1 w 1]) (upd (upd tf (k.length + 0) (b1 w 0)) (k.length + 1) (b1 w 1)) := by
    have h9 := tp_app (b1 w 1) T1
    rw [L1, List.append_assoc] at h9
    exact h9
  have Q2 : by_Q (upd (upd tf (k.length + 0) (b1 w 0)) (k.length + 1) (b1 w 1)) := by_upd Q1 (b1_byte w 1)
  have L2 : (k ++ [b1 w 0, b1 w 1]).length = k.length + 2 := by simp
  refine j_iinc F (v := 8) (lv1 := [(2, _), (0, _), (1, _)]) d_MT_append_39 rfl (by decide) (by decide) rfl ?_
  refine j_goto F (tgt := 3) d_MT_append_42 (by decide) ?_
  refine j_iload_n F d_MT_append_3 rfl rfl ?_
  refine j_if_lt F (tgt := 45) d_MT_append_4 (by decide) (fun hc => absurd hc (by decide)) (fun hc => ?_)
  refine j_aload_n F d_MT_append_7 rfl rfl ?_
  refine j_get F S4.1 rfl in_MT 1 (by decide) wf_MT_13 rfl d_MT_append_8 ?_
  refine j_bipush F (v := 60) d_MT_append_11 (by decide) ?_
  refine j_icmp_ge F (tgt := 45) d_MT_append_13 (by decide) (fun hc => ?_) (fun hc => ?_)
  · have := (nI_leI (a := 60) (by decide) (by omega)).mp hc
    omega
  refine j_aload_n F d_MT_append_16 rfl rfl ?_
  refine j_get F S4.1 rfl in_MT 0 (by decide) wf_MT_9 rfl d_MT_append_17 ?_
  refine j_aload_n F d_MT_append_20 rfl rfl ?_
  refine j_get F S4.1 rfl in_MT 1 (by decide) wf_MT_13 rfl d_MT_append_21 ?_
  refine j_iload_n F d_MT_append_24 rfl rfl ?_
  refine j_iload_n F d_MT_append_25 rfl rfl ?_
  refine j_ishr F d_MT_append_26 ?_
  refine j_i2b F d_MT_append_27 rfl ?_
  refine j_bastN F S4.2.1 zta (by omega) (by decide) (b1_byte w 2) d_MT_append_28 ?_
  refine j_nmW (P := fun M1 => tw_P M M1 x ta (xE ta (nI (k.length + 2)) tt cur) (.inl (G.2.1.1, 60, .inl (upd (upd (upd tf (k.length + 0) (b1 w 0)) (k.length + 1) (b1 w 1)) (k.length + 2) (b1 w 2))))) (tw_b hxt S4) (fun M5 S5 => ?_)
  refine j_aload_n F d_MT_append_29 rfl rfl ?_
  refine j_dup F d_MT_append_30 rfl ?_
  refine j_get F S5.1 rfl in_MT 1 (by decide) wf_MT_13 rfl d_MT_append_31 ?_
  refine j_iconst F (v := 1) d_MT_append_34 (by decide) ?_
  refine j_iadd F d_MT_append_35 ?_
  refine j_val (y := nI (k.length + 3)) (nI_1 _) ?_
  refine j_put F S5.1 zx rfl in_MT ty_MT ok_MT nm_MT 1 (by decide) wf_MT_13 rfl (ty := .int) (by decide +kernel) rfl rfl (Nat.le_of_ble_eq_true rfl) d_MT_append_36 ?_
  refine j_nmW (P := fun M1 => tw_P M M1 x ta (xE ta (nI (k.length + 3)) tt cur) (.inl (G.2.1.1, 60, .inl (upd (upd (upd tf (k.length + 0) (b1 w 0)) (k.length + 1) (b1 w 1)) (k.length + 2) (b1 w 2))))) (tw_a hxt S5) (fun M6 S6 => ?_)
  have T3 : tp_R (k ++ [b1 w 0, b1 w 1, b1 w 2]) (upd (upd (upd tf (k.length + 0) (b1 w 0)) (k.length + 1) (b1 w 1)) (k.length + 2) (b1 w 2)) := by
    have h9 := tp_app (b1 w 2) T2
    rw [L2, List.append_assoc] at h9
    exact h9
  have Q3 : by_Q (upd (upd (upd tf (k.length + 0) (b1 w 0)) (k.length + 1) (b1 w 1)) (k.length + 2) (b1 w 2)) := by_upd Q2 (b1_byte w 2)
  have L3 : (k ++ [b1 w 0, b1 w 1, b1 w 2]).length = k.length + 3 := by simp
  refine j_iinc F (v := 0) (lv1 := [(2, _), (0, _), (1, _)]) d_MT_append_39 rfl (by decide) (by decide) rfl ?_
  refine j_goto F (tgt := 3) d_MT_append_42 (by decide) ?_
  refine j_iload_n F d_MT_append_3 rfl rfl ?_
  refine j_if_lt F (tgt := 45) d_MT_append_4 (by decide) (fun hc => absurd hc (by decide)) (fun hc => ?_)
  refine j_aload_n F d_MT_append_7 rfl rfl ?_
  refine j_get F S6.1 rfl in_MT 1 (by decide) wf_MT_13 rfl d_MT_append_8 ?_
  refine j_bipush F (v := 60) d_MT_append_11 (by decide) ?_
  refine j_icmp_ge F (tgt := 45) d_MT_append_13 (by decide) (fun hc => ?_) (fun hc => ?_)
  · have := (nI_leI (a := 60) (by decide) (by omega)).mp hc
    omega
  refine j_aload_n F d_MT_append_16 rfl rfl ?_
  refine j_get F S6.1 rfl in_MT 0 (by decide) wf_MT_9 rfl d_MT_append_17 ?_
  refine j_aload_n F d_MT_append_20 rfl rfl ?_
  refine j_get F S6.1 rfl in_MT 1 (by decide) wf_MT_13 rfl d_MT_append_21 ?_
  refine j_iload_n F d_MT_append_24 rfl rfl ?_
  refine j_iload_n F d_MT_append_25 rfl rfl ?_
  refine j_ishr F d_MT_append_26 ?_
  refine j_i2b F d_MT_append_27 rfl ?_
  refine j_bastN F S6.2.1 zta (by omega) (by decide) (b1_byte w 3) d_MT_append_28 ?_
  refine j_nmW (P := fun M1 => tw_P M M1 x ta (xE ta (nI (k.length + 3)) tt cur) (.inl (G.2.1.1, 60, .inl (upd (upd (upd (upd tf (k.length + 0) (b1 w 0)) (k.length + 1) (b1 w 1)) (k.length + 2) (b1 w 2)) (k.length + 3) (b1 w 3))))) (tw_b hxt S6) (fun M7 S7 => ?_)
  refine j_aload_n F d_MT_append_29 rfl rfl ?_
  refine j_dup F d_MT_append_30 rfl ?_
  refine j_get F S7.1 rfl in_MT 1 (by decide) wf_MT_13 rfl d_MT_append_31 ?_
  refine j_iconst F (v := 1) d_MT_append_34 (by decide) ?_
  refine j_iadd F d_MT_append_35 ?_
  refine j_val (y := nI (k.length + 4)) (nI_1 _) ?_
  refine j_put F S7.1 zx rfl in_MT ty_MT ok_MT nm_MT 1 (by decide) wf_MT_13 rfl (ty := .int) (by decide +kernel) rfl rfl (Nat.le_of_ble_eq_true rfl) d_MT_append_36 ?_
  refine j_nmW (P := fun M1 => tw_P M M1 x ta (xE ta (nI (k.length + 4)) tt cur) (.inl (G.2.1.1, 60, .inl (upd (upd (upd (upd tf (k.length + 0) (b1 w 0)) (k.length + 1) (b1 w 1)) (k.length + 2) (b1 w 2)) (k.length + 3) (b1 w 3))))) (tw_a hxt S7) (fun M8 S8 => ?_)
  have T4 : tp_R (k ++ [b1 w 0, b1 w 1, b1 w 2, b1 w 3]) (upd (upd (upd (upd tf (k.length + 0) (b1 w 0)) (k.length + 1) (b1 w 1)) (k.length + 2) (b1 w 2)) (k.length + 3) (b1 w 3)) := by
    have h9 := tp_app (b1 w 3) T3
    rw [L3, List.append_assoc] at h9
    exact h9
  have Q4 : by_Q (upd (upd (upd (upd tf (k.length + 0) (b1 w 0)) (k.length + 1) (b1 w 1)) (k.length + 2) (b1 w 2)) (k.length + 3) (b1 w 3)) := by_upd Q3 (b1_byte w 3)
  have L4 : (k ++ [b1 w 0, b1 w 1, b1 w 2, b1 w 3]).length = k.length + 4 := by simp
  refine j_iinc F (v := -8) (lv1 := [(2, _), (0, _), (1, _)]) d_MT_append_39 rfl (by decide) (by decide) rfl ?_
  refine j_goto F (tgt := 3) d_MT_append_42 (by decide) ?_
  refine j_iload_n F d_MT_append_3 rfl rfl ?_
  refine j_if_lt F (tgt := 45) d_MT_append_4 (by decide) (fun hc => ?_) (fun hc => absurd (by decide) hc)
  exact j_vret F hr (Nat.le_refl _) (Nat.le_refl _) ⟨rfl, _, S8, T4, Q4⟩ d_MT_append_45
theorem w3_IA : ∀ w ∈ (vx_at0 "MomentTree" 37 "java/lang/IllegalArgumentException" ["java/lang/RuntimeException", "java/lang/Exception"]).filter goodWord, w ∈ tb_ws := by decide +kernel
theorem w4_IA : ∀ w ∈ (vx_at0 "MomentTree" 37 "java/lang/IllegalArgumentException" ["java/lang/RuntimeException", "java/lang/Exception"]).filter (fun w => !goodWord w), w ∈ Cond.castable "java/lang/IllegalArgumentException" "java/lang/IllegalArgumentException" :: dc_M.map Cond.declares := by decide +kernel
theorem wg_IA_35 : ∀ w ∈ Cond.classLink "MomentTree" 35 "java/lang/IllegalArgumentException" :: Cond.initialized "java/lang/IllegalArgumentException" :: vx_at0 "MomentTree" 37 "java/lang/IllegalArgumentException" ["java/lang/RuntimeException", "java/lang/Exception"], vx_ot w = true := by decide +kernel
theorem w3_IS : ∀ w ∈ (vx_at0 "MomentTree" 67 "java/lang/IllegalStateException" ["java/lang/RuntimeException", "java/lang/Exception"]).filter goodWord, w ∈ tb_ws := by decide +kernel
theorem w4_IS : ∀ w ∈ (vx_at0 "MomentTree" 67 "java/lang/IllegalStateException" ["java/lang/RuntimeException", "java/lang/Exception"]).filter (fun w => !goodWord w), w ∈ Cond.castable "java/lang/IllegalStateException" "java/lang/IllegalStateException" :: dc_M.map Cond.declares := by decide +kernel
theorem wg_IS_65 : ∀ w ∈ Cond.classLink "MomentTree" 65 "java/lang/IllegalStateException" :: Cond.initialized "java/lang/IllegalStateException" :: vx_at0 "MomentTree" 67 "java/lang/IllegalStateException" ["java/lang/RuntimeException", "java/lang/Exception"], vx_ot w = true := by decide +kernel
theorem w3_IO : ∀ w ∈ (vx_at0 "MomentTree" 30 "java/lang/IndexOutOfBoundsException" ["java/lang/RuntimeException", "java/lang/Exception"]).filter goodWord, w ∈ tb_ws := by decide +kernel
theorem w4_IO : ∀ w ∈ (vx_at0 "MomentTree" 30 "java/lang/IndexOutOfBoundsException" ["java/lang/RuntimeException", "java/lang/Exception"]).filter (fun w => !goodWord w), w ∈ Cond.castable "java/lang/IndexOutOfBoundsException" "java/lang/IndexOutOfBoundsException" :: dc_M.map Cond.declares := by decide +kernel
theorem wg_IO_28 : ∀ w ∈ Cond.classLink "MomentTree" 28 "java/lang/IndexOutOfBoundsException" :: Cond.initialized "java/lang/IndexOutOfBoundsException" :: vx_at0 "MomentTree" 30 "java/lang/IndexOutOfBoundsException" ["java/lang/RuntimeException", "java/lang/Exception"], vx_ot w = true := by decide +kernel
theorem w3_NS : ∀ w ∈ (vx_at0 "MomentTree" 94 "java/util/NoSuchElementException" ["java/lang/RuntimeException", "java/lang/Exception"]).filter goodWord, w ∈ tb_ws := by decide +kernel
theorem w4_NS : ∀ w ∈ (vx_at0 "MomentTree" 94 "java/util/NoSuchElementException" ["java/lang/RuntimeException", "java/lang/Exception"]).filter (fun w => !goodWord w), w ∈ Cond.castable "java/util/NoSuchElementException" "java/util/NoSuchElementException" :: dc_M.map Cond.declares := by decide +kernel
theorem wg_NS_92 : ∀ w ∈ Cond.classLink "MomentTree" 92 "java/util/NoSuchElementException" :: Cond.initialized "java/util/NoSuchElementException" :: vx_at0 "MomentTree" 94 "java/util/NoSuchElementException" ["java/lang/RuntimeException", "java/lang/Exception"], vx_ot w = true := by decide +kernel
set_option maxHeartbeats 4000000 in
set_option maxRecDepth 100000 in
theorem c_MT_goTo1 (hl : l.stackTraces = false) {x ta tt a ka : Nat} {n : Int32} {cur : Option Nat} {e0 : en_T} {ht : Int32} {lc rc : Option Nat} (hx : M x = some (xE ta n tt cur)) (zx : G.2.2.1 ≤ x) (hv : M a = some (vE ka e0 ht lc rc)) : ct_C l G y_MT_goTo b_MT_goTo 2 (some .int) { frames := 6, cells := 1, slots := 6, locals := 100 } [.ref x, .ref a] M (fun v M1 => v = some (.int e0.2.2.1) ∧ M1 x = some (xE ta n tt (some a)) ∧ ∀ q, q ≠ x → M1 q = M q) (fun _ _ => False) := by
  refine ct_of hl (by decide +kernel) (Nat.le_of_ble_eq_true rfl) ?_
  intro p e s m args below meth c F hr hnm
  have hax : a ≠ x := fun z => by rw [z, hx] at hv; cases hv
  refine j_aload_n F d_MT_goTo_0 rfl rfl ?_
  refine j_aload_n F d_MT_goTo_1 rfl rfl ?_
  refine j_put F hx zx rfl in_MT ty_MT ok_MT nm_MT 3 (by decide) wf_MT_24 rfl (ty := .object "MomentTree$Version") (by decide +kernel) rfl rfl (Nat.le_of_ble_eq_true rfl) d_MT_goTo_2 ?_
  refine j_nmW (P := fun M1 => M1 x = some (xE ta n tt (some a)) ∧ ∀ q, q ≠ x → M1 q = M q) ⟨mp_Us _ _ _, fun q hq => mp_Un hq⟩ (fun M1 S1 => ?_)
  have hv1 := (S1.2 a hax).trans hv
  refine j_aload_n F d_MT_goTo_5 rfl rfl ?_
  refine j_ifnonnull F (r := some a) (tgt := 17) d_MT_goTo_6 (by decide) (fun z hz => ?_) (fun hz => by cases hz)
  refine j_aload_n F d_MT_goTo_17 rfl rfl ?_
  refine j_get F hv1 rfl in_VE 2 (by decide) wf_MT_56 rfl d_MT_goTo_18 ?_
  exact j_iret F hr (by decide) (by decide) ⟨rfl, S1.1, S1.2⟩ d_MT_goTo_21
set_option maxHeartbeats 4000000 in
set_option maxRecDepth 100000 in
theorem c_MT_goTo0 (hl : l.stackTraces = false) {x ta tt : Nat} {n : Int32} {cur : Option Nat} (hx : M x = some (xE ta n tt cur)) (zx : G.2.2.1 ≤ x) : ct_C l G y_MT_goTo b_MT_goTo 2 (some .int) { frames := 6, cells := 1, slots := 6, locals := 100 } [.ref x, .null] M (fun _ _ => False) (fun E M1 => E = xn_NS ∧ M1 x = some (xE ta n tt none) ∧ ∀ q, q ≠ x → M1 q = M q) := by
  refine ct_of hl (by decide +kernel) (Nat.le_of_ble_eq_true rfl) ?_
  intro p e s m args below meth c F hr hnm
  refine j_aload_n F d_MT_goTo_0 rfl rfl ?_
  refine j_aload_nq F (r := none) d_MT_goTo_1 rfl rfl ?_
  refine j_put F hx zx rfl in_MT ty_MT ok_MT nm_MT 3 (by decide) wf_MT_24 rfl (ty := .object "MomentTree$Version") (by decide +kernel) rfl rfl (Nat.le_of_ble_eq_true rfl) d_MT_goTo_2 ?_
  refine j_nmW (P := fun M1 => M1 x = some (xE ta n tt none) ∧ ∀ q, q ≠ x → M1 q = M q) ⟨mp_Us _ _ _, fun q hq => mp_Un hq⟩ (fun M1 S1 => ?_)
  refine j_aload_nq F (r := none) d_MT_goTo_5 rfl rfl ?_
  refine j_ifnonnull F (r := none) (tgt := 17) d_MT_goTo_6 (by decide) (fun z hz => by cases hz) (fun hz => ?_)
  exact j_throw F (names := ["java/lang/RuntimeException", "java/lang/Exception"]) (by decide +kernel) (by decide +kernel) wc_MT_92 wi_NS w3_NS w4_NS (jf_sx F).2.2.2.2.2.2.2.2.2.2.1 wg_NS_92 rfl (by decide) (Nat.le_of_ble_eq_true rfl) (by decide) (by decide) (⟨rfl, S1.1, S1.2⟩) d_MT_goTo_9 d_MT_goTo_12 d_MT_goTo_13 d_MT_goTo_16
end MT1
