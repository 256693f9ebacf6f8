/-- every place holds a byte -/
def by_Q (f : Nat → Int32) : Prop := ∀ q, vp_nar .byte (f q) = f q
theorem by_nar (x : Int32) : vp_nar .byte (vp_nar .byte x) = vp_nar .byte x := pk_vb x
theorem by_upd {f : Nat → Int32} {w : Nat} {x : Int32} (h : by_Q f) (hx : vp_nar .byte x = x) : by_Q (upd f w x) := by
  intro q
  by_cases hq : q = w
  · subst hq; rw [pk_us]; exact hx
  · rw [pk_un hq]; exact h q
/-- row i is what row j was -/
def rw_Q (i j : Nat) (lf kf mf pf sf lf1 kf1 mf1 pf1 sf1 : Nat → Int32) : Prop := lf1 i = lf j ∧ mf1 i = mf j ∧ pf1 i = pf j ∧ sf1 i = sf j ∧ ∀ b, b < 40 → kf1 (40 * i + b) = kf (40 * j + b)
theorem ix_40m {w : Nat} (hw : 1 ≤ w) (j : Nat) : (40 : Int32) * nI w - 40 + nI j = nI (40 * (w - 1) + j) := by
  rw [show (40 : Int32) = nI 40 from rfl, pk_mul, pk_sub (by omega), nI_add]
  congr 1
  omega
theorem ix_m1 {w : Nat} (hw : 1 ≤ w) : nI w - 1 = nI (w - 1) := by
  rw [show (1 : Int32) = nI 1 from rfl, pk_sub hw]
theorem ix_p1 {w : Nat} (hw : 1 ≤ w) : nI w + Int32.ofInt (-1) = nI (w - 1) := sb_m1 hw
section MO3
variable {es : List en_T} {l : Launch} {G : gv_T} {M M0 : mp_T} {h ta ke le mo pl si : Nat} {fa tl sz ap : Int32} {tf kf lf mf pf sf : Nat → Int32}
set_option maxHeartbeats 4000000 in
set_option maxRecDepth 100000 in
theorem c_MO_moveUp (hl : l.stackTraces = false) {n v : Nat} (S : mo_S G M h ta ke le mo pl si fa tl (nI n) ap tf kf lf mf pf sf) (hb : by_Q kf) (hn : n ≤ 160) (hv : v ≤ n) : ct_C l G y_MO_moveUp b_MO_moveUp 4 none { frames := 0, cells := 0, slots := 0, locals := 0 } [.ref h, .int (nI v)] M (fun r M1 => r = none ∧ ∃ (kf1 lf1 mf1 pf1 sf1 : Nat → Int32), mo_W G M M1 h ta ke le mo pl si fa tl (nI n) ap tf kf1 lf1 mf1 pf1 sf1 ∧ by_Q kf1 ∧ (∀ i, v < i → i ≤ n → rw_Q i (i - 1) lf kf mf pf sf lf1 kf1 mf1 pf1 sf1) ∧ ∀ i, i ≤ v → rw_Q i i lf kf mf pf sf lf1 kf1 mf1 pf1 sf1) (fun _ _ => False) := by
  refine ct_of hl (by decide +kernel) (Nat.le_of_ble_eq_true rfl) ?_
  intro p e s m args below meth c F hr hnm
  refine j_aload_n F d_MO_moveUp_0 rfl rfl ?_
  refine j_get F (so_h S) rfl in_MO 8 (by decide) wf_MO_43 rfl d_MO_moveUp_1 ?_
  refine j_istore_n F (lv1 := [(2, _), (0, _), (1, _)]) d_MO_moveUp_4 rfl (by decide) rfl ?_
  refine j_ind (α := Nat × mp_T) (fun x => x.1) (fun x => x.2) (fun _ => 0) (fun _ => 0) (fun x => [(2, .int (nI x.1)), (0, .ref h), (1, .int (nI v))]) (fun _ => []) (fun x => v ≤ x.1 ∧ x.1 ≤ n ∧ ∃ (kf1 lf1 mf1 pf1 sf1 : Nat → Int32), mo_W G M x.2 h ta ke le mo pl si fa tl (nI n) ap tf kf1 lf1 mf1 pf1 sf1 ∧ by_Q kf1 ∧ (∀ i, x.1 < i → i ≤ n → rw_Q i (i - 1) lf kf mf pf sf lf1 kf1 mf1 pf1 sf1) ∧ ∀ i, i ≤ x.1 → rw_Q i i lf kf mf pf sf lf1 kf1 mf1 pf1 sf1) ?_ (n, M) ⟨hv, Nat.le_refl _, kf, lf, mf, pf, sf, mo_rf S, hb, fun i h1 h2 => absurd h1 (by omega), fun i _ => ⟨rfl, rfl, rfl, rfl, fun _ _ => rfl⟩⟩
  intro x hx ih
  obtain ⟨w, Mx⟩ := x
  obtain ⟨hw1, hw2, kf1, lf1, mf1, pf1, sf1, S1, hb1, hup, hlo⟩ := hx
  dsimp only at hw1 hw2 S1 hup hlo ⊢
  refine j_iload_n F d_MO_moveUp_5 rfl rfl ?_
  refine j_iload_n F d_MO_moveUp_6 rfl rfl ?_
  refine j_icmp_le F (tgt := 111) d_MO_moveUp_7 (by decide) (fun hc => ?_) (fun hc => ?_)
  · skip
    have hwv : w = v := Nat.le_antisymm ((nI_leI (by omega) (by omega)).mp hc) hw1
    subst hwv
    exact j_vret F hr (Nat.le_refl _) (Nat.le_refl _) ⟨rfl, kf1, lf1, mf1, pf1, sf1, S1, hb1, hup, hlo⟩ d_MO_moveUp_111
  · skip
    have hwv : v < w := Nat.not_le.mp (fun z => hc ((nI_leI (by omega) (by omega)).mpr z))
    refine j_iconst F (v := 0) d_MO_moveUp_10 (by decide) ?_
    refine j_istore_n F (lv1 := [(3, _), (2, _), (0, _), (1, _)]) d_MO_moveUp_11 rfl (by decide) rfl ?_
    refine j_lv (lv1 := [(3, .int (nI 0)), (2, .int (nI w)), (0, .ref h), (1, .int (nI v))]) rfl ?_
    refine j_ind (α := Nat × mp_T) (fun y => 40 - y.1) (fun y => y.2) (fun _ => 0) (fun _ => 0) (fun y => [(3, .int (nI y.1)), (2, .int (nI w)), (0, .ref h), (1, .int (nI v))]) (fun _ => []) (fun y => y.1 ≤ 40 ∧ ∃ kf2 : Nat → Int32, mo_W G M y.2 h ta ke le mo pl si fa tl (nI n) ap tf kf2 lf1 mf1 pf1 sf1 ∧ by_Q kf2 ∧ (∀ c, c < y.1 → kf2 (40 * w + c) = kf1 (40 * (w - 1) + c)) ∧ ∀ q, (q < 40 * w ∨ 40 * w + y.1 ≤ q) → kf2 q = kf1 q) ?_ (0, Mx) ⟨by omega, kf1, S1, hb1, fun c h1 => absurd h1 (Nat.not_lt_zero _), fun q _ => rfl⟩
    intro y hy ih2
    obtain ⟨j, My⟩ := y
    obtain ⟨hj, kf2, S2, hb2, hk1, hk2⟩ := hy
    dsimp only at hj S2 hk1 hk2 ⊢
    refine j_iload_n F d_MO_moveUp_12 rfl rfl ?_
    refine j_bipush F (v := 40) d_MO_moveUp_13 (by decide) ?_
    refine j_icmp_ge F (tgt := 49) d_MO_moveUp_15 (by decide) (fun hc2 => ?_) (fun hc2 => ?_)
    · skip
      have hj40 : j = 40 := Nat.le_antisymm hj ((nI_leI (a := 40) (by decide) (by omega)).mp hc2)
      subst hj40
      refine j_aload_n F d_MO_moveUp_49 rfl rfl ?_
      refine j_get F (so_h S2.1) rfl in_MO 4 (by decide) wf_MO_16 rfl d_MO_moveUp_50 ?_
      refine j_iload_n F d_MO_moveUp_53 rfl rfl ?_
      refine j_aload_n F d_MO_moveUp_54 rfl rfl ?_
      refine j_get F (so_h S2.1) rfl in_MO 4 (by decide) wf_MO_16 rfl d_MO_moveUp_55 ?_
      refine j_iload_n F d_MO_moveUp_58 rfl rfl ?_
      refine j_iconst F (v := 1) d_MO_moveUp_59 (by decide) ?_
      refine j_isub F d_MO_moveUp_60 ?_
      refine j_val (y := nI (w - 1)) (ix_m1 (by omega)) ?_
      refine j_ialdN F (so_le S2.1) (by omega) (by decide) d_MO_moveUp_61 ?_
      refine j_iastN F (so_le S2.1) (sz_le S2.1) (by omega) (by decide) d_MO_moveUp_62 ?_
      refine j_nmW (P := fun M1 => mo_W G M M1 h ta ke le mo pl si fa tl (nI n) ap tf kf2 (upd lf1 w (lf1 (w - 1))) mf1 pf1 sf1) (mw_lf S2 _) (fun M3 S3 => ?_)
      refine j_aload_n F d_MO_moveUp_63 rfl rfl ?_
      refine j_get F (so_h S3.1) rfl in_MO 5 (by decide) wf_MO_20 rfl d_MO_moveUp_64 ?_
      refine j_iload_n F d_MO_moveUp_67 rfl rfl ?_
      refine j_aload_n F d_MO_moveUp_68 rfl rfl ?_
      refine j_get F (so_h S3.1) rfl in_MO 5 (by decide) wf_MO_20 rfl d_MO_moveUp_69 ?_
      refine j_iload_n F d_MO_moveUp_72 rfl rfl ?_
      refine j_iconst F (v := 1) d_MO_moveUp_73 (by decide) ?_
      refine j_isub F d_MO_moveUp_74 ?_
      refine j_val (y := nI (w - 1)) (ix_m1 (by omega)) ?_
      refine j_ialdN F (so_mo S3.1) (by omega) (by decide) d_MO_moveUp_75 ?_
      refine j_iastN F (so_mo S3.1) (sz_mo S3.1) (by omega) (by decide) d_MO_moveUp_76 ?_
      refine j_nmW (P := fun M1 => mo_W G M M1 h ta ke le mo pl si fa tl (nI n) ap tf kf2 (upd lf1 w (lf1 (w - 1))) (upd mf1 w (mf1 (w - 1))) pf1 sf1) (mw_mf S3 _) (fun M4 S4 => ?_)
      refine j_aload_n F d_MO_moveUp_77 rfl rfl ?_
      refine j_get F (so_h S4.1) rfl in_MO 6 (by decide) wf_MO_23 rfl d_MO_moveUp_78 ?_
      refine j_iload_n F d_MO_moveUp_81 rfl rfl ?_
      refine j_aload_n F d_MO_moveUp_82 rfl rfl ?_
      refine j_get F (so_h S4.1) rfl in_MO 6 (by decide) wf_MO_23 rfl d_MO_moveUp_83 ?_
      refine j_iload_n F d_MO_moveUp_86 rfl rfl ?_
      refine j_iconst F (v := 1) d_MO_moveUp_87 (by decide) ?_
      refine j_isub F d_MO_moveUp_88 ?_
      refine j_val (y := nI (w - 1)) (ix_m1 (by omega)) ?_
      refine j_ialdN F (so_pl S4.1) (by omega) (by decide) d_MO_moveUp_89 ?_
      refine j_iastN F (so_pl S4.1) (sz_pl S4.1) (by omega) (by decide) d_MO_moveUp_90 ?_
      refine j_nmW (P := fun M1 => mo_W G M M1 h ta ke le mo pl si fa tl (nI n) ap tf kf2 (upd lf1 w (lf1 (w - 1))) (upd mf1 w (mf1 (w - 1))) (upd pf1 w (pf1 (w - 1))) sf1) (mw_pf S4 _) (fun M5 S5 => ?_)
      refine j_aload_n F d_MO_moveUp_91 rfl rfl ?_
      refine j_get F (so_h S5.1) rfl in_MO 7 (by decide) wf_MO_26 rfl d_MO_moveUp_92 ?_
      refine j_iload_n F d_MO_moveUp_95 rfl rfl ?_
      refine j_aload_n F d_MO_moveUp_96 rfl rfl ?_
      refine j_get F (so_h S5.1) rfl in_MO 7 (by decide) wf_MO_26 rfl d_MO_moveUp_97 ?_
      refine j_iload_n F d_MO_moveUp_100 rfl rfl ?_
      refine j_iconst F (v := 1) d_MO_moveUp_101 (by decide) ?_
      refine j_isub F d_MO_moveUp_102 ?_
      refine j_val (y := nI (w - 1)) (ix_m1 (by omega)) ?_
      refine j_ialdN F (so_si S5.1) (by omega) (by decide) d_MO_moveUp_103 ?_
      refine j_iastN F (so_si S5.1) (sz_si S5.1) (by omega) (by decide) d_MO_moveUp_104 ?_
      refine j_nmW (P := fun M1 => mo_W G M M1 h ta ke le mo pl si fa tl (nI n) ap tf kf2 (upd lf1 w (lf1 (w - 1))) (upd mf1 w (mf1 (w - 1))) (upd pf1 w (pf1 (w - 1))) (upd sf1 w (sf1 (w - 1)))) (mw_sf S5 _) (fun M6 S6 => ?_)
      refine j_iinc F (lv1 := [(2, _), (3, _), (0, _), (1, _)]) d_MO_moveUp_105 rfl (ix_p1 (by omega)) (by decide) rfl ?_
      refine j_sub [0, 2, 3] rfl ?_
      refine j_goto F (tgt := 5) d_MO_moveUp_108 (by decide) ?_
      refine ih (w - 1, M6) ⟨by dsimp only; omega, by dsimp only; omega, kf2, _, _, _, _, S6, hb2, ?_, ?_⟩ (by dsimp only; omega)
      · intro i h1 h2
        dsimp only at h1
        by_cases hi : i = w
        · subst hi
          obtain ⟨q1, q2, q3, q4, q5⟩ := hlo (i - 1) (by omega)
          exact ⟨by rw [pk_us, q1], by rw [pk_us, q2], by rw [pk_us, q3], by rw [pk_us, q4], fun c hc9 => by rw [hk1 c hc9, q5 c hc9]⟩
        · obtain ⟨q1, q2, q3, q4, q5⟩ := hup i (by omega) h2
          exact ⟨by rw [pk_un hi, q1], by rw [pk_un hi, q2], by rw [pk_un hi, q3], by rw [pk_un hi, q4], fun c hc9 => by rw [hk2 _ (by omega), q5 c hc9]⟩
      · intro i h1
        dsimp only at h1
        have hi : i ≠ w := by omega
        obtain ⟨q1, q2, q3, q4, q5⟩ := hlo i (by omega)
        exact ⟨by rw [pk_un hi, q1], by rw [pk_un hi, q2], by rw [pk_un hi, q3], by rw [pk_un hi, q4], fun c hc9 => by rw [hk2 _ (by omega), q5 c hc9]⟩
    · skip
      have hj40 : j < 40 := Nat.not_le.mp (fun z => hc2 ((nI_leI (a := 40) (by decide) (by omega)).mpr z))
      refine j_aload_n F d_MO_moveUp_18 rfl rfl ?_
      refine j_get F (so_h S2.1) rfl in_MO 3 (by decide) wf_MO_13 rfl d_MO_moveUp_19 ?_
      refine j_bipush F (v := 40) d_MO_moveUp_22 (by decide) ?_
      refine j_iload_n F d_MO_moveUp_24 rfl rfl ?_
      refine j_imul F d_MO_moveUp_25 ?_
      refine j_iload_n F d_MO_moveUp_26 rfl rfl ?_
      refine j_iadd F d_MO_moveUp_27 ?_
      refine j_val (y := nI (40 * w + j)) (ix_40 w j) ?_
      refine j_aload_n F d_MO_moveUp_28 rfl rfl ?_
      refine j_get F (so_h S2.1) rfl in_MO 3 (by decide) wf_MO_13 rfl d_MO_moveUp_29 ?_
      refine j_bipush F (v := 40) d_MO_moveUp_32 (by decide) ?_
      refine j_iload_n F d_MO_moveUp_34 rfl rfl ?_
      refine j_imul F d_MO_moveUp_35 ?_
      refine j_bipush F (v := 40) d_MO_moveUp_36 (by decide) ?_
      refine j_isub F d_MO_moveUp_38 ?_
      refine j_iload_n F d_MO_moveUp_39 rfl rfl ?_
      refine j_iadd F d_MO_moveUp_40 ?_
      refine j_val (y := nI (40 * (w - 1) + j)) (ix_40m (by omega) j) ?_
      refine j_baldN F (so_ke S2.1) (by omega) (by decide) d_MO_moveUp_41 ?_
      refine j_bastN F (so_ke S2.1) (sz_ke S2.1) (by omega) (by decide) (hb2 _) d_MO_moveUp_42 ?_
      refine j_nmW (P := fun M1 => mo_W G M M1 h ta ke le mo pl si fa tl (nI n) ap tf (upd kf2 (40 * w + j) (kf2 (40 * (w - 1) + j))) lf1 mf1 pf1 sf1) (mw_kf S2 _) (fun M3 S3 => ?_)
      refine j_iinc F (lv1 := [(3, _), (2, _), (0, _), (1, _)]) d_MO_moveUp_43 rfl (nI_1 j) (by decide) rfl ?_
      refine j_goto F (tgt := 12) d_MO_moveUp_46 (by decide) ?_
      refine ih2 (j + 1, M3) ⟨hj40, _, S3, by_upd hb2 (hb2 _), ?_, ?_⟩ (by dsimp only; omega)
      · intro c hc9
        dsimp only at hc9
        by_cases hcj : c = j
        · subst hcj
          rw [pk_us, hk2 _ (by omega)]
        · rw [pk_un (by omega), hk1 c (by omega)]
      · intro q hq
        dsimp only at hq
        rw [pk_un (by omega), hk2 q (by omega)]
end MO3
