section CN1
variable {l : Launch} {G : gv_T} {M : mp_T}
set_option maxHeartbeats 8000000 in
set_option maxRecDepth 100000 in
theorem c_TR_countSound (hl : l.stackTraces = false) (d : Nat) : ∀ (r : Option Nat) (L : List no_T) (h dep : Nat) (lo hi : Option no_T), tr G M d r L h → dep + d ≤ 40 → L.length ≤ 1000 → (∀ y ∈ L, y.2.2.1.length ≤ 60) → srt (L.map (fun y => y.2.2)) → (∀ z, lo = some z → no_R G M z ∧ z.2.2.1.length ≤ 60 ∧ ∀ y ∈ L, oc z.2.2 y.2.2.1 y.2.2.2.1 < 0) → (∀ z, hi = some z → no_R G M z ∧ z.2.2.1.length ≤ 60 ∧ ∀ y ∈ L, 0 < oc z.2.2 y.2.2.1 y.2.2.2.1) → ct_C l G y_TR_countSound b_TR_countSound 6 (some .int) { frames := 4 + d, cells := 0, slots := 0, locals := 89 + 25 * d } [va_rf r, va_rf (lo.map (fun z => z.1)), va_rf (hi.map (fun z => z.1)), .int (nI dep)] M (fun v M1 => M = M1 ∧ v = some (.int (nI L.length))) (fun _ _ => False) := by
  induction d with
  | zero =>
    intro r L h dep lo hi ht hd hL h60 hs hlo hhi
    refine ct_of hl (by decide +kernel) (by simp [lg_sl, rf_cat, ca_i]) ?_
    intro p e s m args below meth c F hr hnm
    refine j_lv (lv1 := [(0, va_rf r), (1, va_rf (lo.map (fun z => z.1))), (2, va_rf (hi.map (fun z => z.1))), (3, .int (nI dep))]) (by simp [lv_args, rf_cat]) ?_
    cases r with
    | none =>
      rw [ht.1]
      refine j_aload_nq F d_TR_countSound_0 rfl rfl ?_
      refine j_ifnonnull F (tgt := 6) d_TR_countSound_1 (by decide) (fun x hx => by cases hx) (fun _ => ?_)
      refine j_iconst F (v := 0) d_TR_countSound_4 (by decide) ?_
      exact j_iret F hr (Nat.le_refl _) (Nat.le_refl _) ⟨rfl, rfl⟩ d_TR_countSound_5
    | some a => exact ht.elim
  | succ d ih =>
    intro r L h dep lo hi ht hd hL h60 hs hlo hhi
    refine ct_of hl (by decide +kernel) (by simp [lg_sl, rf_cat, ca_i]) ?_
    intro p e s m args below meth c F hr hnm
    refine j_lv (lv1 := [(0, va_rf r), (1, va_rf (lo.map (fun z => z.1))), (2, va_rf (hi.map (fun z => z.1))), (3, .int (nI dep))]) (by simp [lv_args, rf_cat]) ?_
    cases r with
    | none =>
      rw [ht.1]
      refine j_aload_nq F d_TR_countSound_0 rfl rfl ?_
      refine j_ifnonnull F (tgt := 6) d_TR_countSound_1 (by decide) (fun x hx => by cases hx) (fun _ => ?_)
      refine j_iconst F (v := 0) d_TR_countSound_4 (by decide) ?_
      exact j_iret F hr (Nat.le_refl _) (Nat.le_refl _) ⟨rfl, rfl⟩ d_TR_countSound_5
    | some a =>
      obtain ⟨ka, e0, lc, rc, Ll, Lr, h1, h2, hv, hk, htl, htr, rfl, rfl, g1, g2⟩ := ht
      have hmx : (a, ka, e0) ∈ Ll ++ (a, ka, e0) :: Lr := List.mem_append_right _ List.mem_cons_self
      have hml : ∀ y ∈ Ll, y ∈ Ll ++ (a, ka, e0) :: Lr := fun y hy => List.mem_append_left _ hy
      have hmr : ∀ y ∈ Lr, y ∈ Ll ++ (a, ka, e0) :: Lr := fun y hy => List.mem_append_right _ (List.mem_cons_of_mem _ hy)
      have hlen : (Ll ++ (a, ka, e0) :: Lr).length = Ll.length + 1 + Lr.length := by simp; omega
      rw [hlen] at hL
      rw [hlen]
      have b1 := tr_le d htl
      have b2 := tr_le d htr
      have hnx : no_R G M (a, ka, e0) := ⟨⟨_, _, _, hv⟩, hk⟩
      have hx60 : e0.1.length ≤ 60 := h60 _ hmx
      unfold srt at hs
      rw [List.map_append, List.map_cons, List.pairwise_append, List.pairwise_cons] at hs
      obtain ⟨sl, ⟨sx, sr⟩, sx2⟩ := hs
      have ol : ∀ y ∈ Ll, 0 < oc e0 y.2.2.1 y.2.2.2.1 := fun y hy => (oc_anti y.2.2 e0).1.mp (sx2 y.2.2 (List.mem_map.mpr ⟨y, hy, rfl⟩) e0 List.mem_cons_self)
      have orr : ∀ y ∈ Lr, oc e0 y.2.2.1 y.2.2.2.1 < 0 := fun y hy => sx y.2.2 (List.mem_map.mpr ⟨y, hy, rfl⟩)
      refine j_aload_n F d_TR_countSound_0 rfl rfl ?_
      refine j_ifnonnull F (r := some a) (tgt := 6) d_TR_countSound_1 (by decide) (fun x hx => ?_) (fun hx => by cases hx)
      refine j_iload_n F d_TR_countSound_6 rfl rfl ?_
      refine j_bipush F (v := 40) d_TR_countSound_7 (by decide) ?_
      refine j_icmp_ge F (tgt := 28) d_TR_countSound_9 (by decide) (fun hc => ?_) (fun hc => ?_)
      · have := (nI_leI (a := 40) (by decide) (by omega)).mp hc
        omega
      refine j_aload_n F d_TR_countSound_12 rfl rfl ?_
      refine j_callS F 1 (c_TR_isBalanced hl hv (tr_hv htl) (tr_hv htr) (by omega) (by omega) g1 g2) wl_TR_73 wst_TR_isBalanced wi_TR wco_TR_isBalanced (by decide +kernel) ⟨by dsimp only; omega, by dsimp only; omega⟩ rfl rfl (Nat.le_of_ble_eq_true rfl) (Nat.le_refl _) (Nat.le_refl _) d_TR_countSound_13 (fun E M1 hx => hx.elim) (fun r M1 hp => ?_)
      obtain ⟨rfl, rfl⟩ := hp
      refine j_if_eq F (tgt := 28) d_TR_countSound_16 (by decide) (fun hc => absurd hc (by decide)) (fun hc => ?_)
      refine j_aload_n F d_TR_countSound_19 rfl rfl ?_
      refine j_aload_nq F d_TR_countSound_20 rfl rfl ?_
      refine j_aload_nq F d_TR_countSound_21 rfl rfl ?_
      refine j_callS F 3 (c_TR_isBetween hl (y := (a, ka, e0)) hnx hx60 (fun z hz => ⟨(hlo z hz).1, (hlo z hz).2.1, (hlo z hz).2.2 _ hmx⟩) (fun z hz => ⟨(hhi z hz).1, (hhi z hz).2.1, (hhi z hz).2.2 _ hmx⟩)) wl_TR_77 wst_TR_isBetween wi_TR wco_TR_isBetween (by decide +kernel) ⟨by dsimp only; omega, by dsimp only; omega⟩ rfl rfl (Nat.le_of_ble_eq_true rfl) (Nat.le_refl _) (Nat.le_refl _) d_TR_countSound_22 (fun E M1 hx => hx.elim) (fun r M1 hp => ?_)
      obtain ⟨rfl, rfl⟩ := hp
      refine j_if_ne F (tgt := 30) d_TR_countSound_25 (by decide) (fun hc => ?_) (fun hc => absurd hc (by decide))
      refine j_aload_n F d_TR_countSound_30 rfl rfl ?_
      refine j_get F hv rfl in_VE 5 (by decide) wf_TR_23 rfl d_TR_countSound_31 ?_
      refine j_aload_nq F d_TR_countSound_34 rfl rfl ?_
      refine j_aload_n F d_TR_countSound_35 rfl rfl ?_
      refine j_iload_n F d_TR_countSound_36 rfl rfl ?_
      refine j_iconst F (v := 1) d_TR_countSound_37 (by decide) ?_
      refine j_iadd F d_TR_countSound_38 ?_
      refine j_val (y := nI (dep + 1)) (nI_1 _) ?_
      refine j_callS F 4 (ih lc Ll h1 (dep + 1) lo (some (a, ka, e0)) htl (by omega) (by omega) (fun y hy => h60 y (hml y hy)) sl (fun z hz => ⟨(hlo z hz).1, (hlo z hz).2.1, fun y hy => (hlo z hz).2.2 y (hml y hy)⟩) (fun z hz => by cases hz; exact ⟨hnx, hx60, ol⟩)) wl_TR_33 wst_TR_countSound wi_TR wco_TR_countSound (by decide +kernel) ⟨by dsimp only; omega, by dsimp only; omega⟩ rfl rfl (Nat.le_of_ble_eq_true rfl) (Nat.le_refl _) (Nat.le_refl _) d_TR_countSound_39 (fun E M1 hx => hx.elim) (fun r M1 hp => ?_)
      obtain ⟨rfl, rfl⟩ := hp
      refine j_istore F (lv1 := [(4, _), (0, _), (1, _), (2, _), (3, _)]) d_TR_countSound_42 (by decide) rfl ?_
      refine j_aload_n F d_TR_countSound_44 rfl rfl ?_
      refine j_get F hv rfl in_VE 6 (by decide) wf_TR_26 rfl d_TR_countSound_45 ?_
      refine j_aload_n F d_TR_countSound_48 rfl rfl ?_
      refine j_aload_nq F d_TR_countSound_49 rfl rfl ?_
      refine j_iload_n F d_TR_countSound_50 rfl rfl ?_
      refine j_iconst F (v := 1) d_TR_countSound_51 (by decide) ?_
      refine j_iadd F d_TR_countSound_52 ?_
      refine j_val (y := nI (dep + 1)) (nI_1 _) ?_
      refine j_callS F 4 (ih rc Lr h2 (dep + 1) (some (a, ka, e0)) hi htr (by omega) (by omega) (fun y hy => h60 y (hmr y hy)) sr (fun z hz => by cases hz; exact ⟨hnx, hx60, orr⟩) (fun z hz => ⟨(hhi z hz).1, (hhi z hz).2.1, fun y hy => (hhi z hz).2.2 y (hmr y hy)⟩)) wl_TR_33 wst_TR_countSound wi_TR wco_TR_countSound (by decide +kernel) ⟨by dsimp only; omega, by dsimp only; omega⟩ rfl rfl (Nat.le_of_ble_eq_true rfl) (Nat.le_refl _) (Nat.le_refl _) d_TR_countSound_53 (fun E M1 hx => hx.elim) (fun r M1 hp => ?_)
      obtain ⟨rfl, rfl⟩ := hp
      refine j_istore F (lv1 := [(5, _), (4, _), (0, _), (1, _), (2, _), (3, _)]) d_TR_countSound_56 (by decide) rfl ?_
      refine j_iload F d_TR_countSound_58 rfl ?_
      refine j_if_lt F (tgt := 68) d_TR_countSound_60 (by decide) (fun hc => absurd hc (nI_pos (by omega))) (fun hc => ?_)
      refine j_iload F d_TR_countSound_63 rfl ?_
      refine j_if_ge F (tgt := 72) d_TR_countSound_65 (by decide) (fun hc => ?_) (fun hc => absurd (nI_pos' (by omega)) hc)
      refine j_iload F d_TR_countSound_72 rfl ?_
      refine j_iconst F (v := 1) d_TR_countSound_74 (by decide) ?_
      refine j_iadd F d_TR_countSound_75 ?_
      refine j_val (y := nI (Ll.length + 1)) (nI_1 _) ?_
      refine j_iload F d_TR_countSound_76 rfl ?_
      refine j_iadd F d_TR_countSound_78 ?_
      refine j_val (y := nI (Ll.length + 1 + Lr.length)) (nI_add _ _) ?_
      exact j_iret F hr (Nat.le_refl _) (Nat.le_refl _) ⟨rfl, rfl⟩ d_TR_countSound_79
set_option maxHeartbeats 4000000 in
set_option maxRecDepth 100000 in
theorem c_TR_countIfSound (hl : l.stackTraces = false) {tt : Nat} {root : Option Nat} {nv : Int32} {L : List no_T} {h : Nat} (htt : M tt = some (.inr (1, [va_rf root, .int nv]))) (ht : tr G M h root L h) (hh : h ≤ 40) (hL : L.length ≤ 1000) (h60 : ∀ y ∈ L, y.2.2.1.length ≤ 60) (hs : srt (L.map (fun y => y.2.2))) : ct_C l G y_TR_countIfSound b_TR_countIfSound 1 (some .int) { frames := 50, cells := 0, slots := 0, locals := 1200 } [.ref tt] M (fun v M1 => M = M1 ∧ v = some (.int (nI L.length))) (fun _ _ => False) := by
  refine ct_of hl (by decide +kernel) (Nat.le_of_ble_eq_true rfl) ?_
  intro p e s m args below meth c F hr hnm
  refine j_aload_n F d_TR_countIfSound_0 rfl rfl ?_
  refine j_get F htt rfl in_TR 0 (by decide) wf_TR_7 rfl d_TR_countIfSound_1 ?_
  refine j_null F d_TR_countIfSound_4 ?_
  refine j_null F d_TR_countIfSound_5 ?_
  refine j_iconst F (v := 0) d_TR_countIfSound_6 (by decide) ?_
  refine j_callS F 4 (c_TR_countSound hl h root L h 0 none none ht (by omega) hL h60 hs (fun z hz => by cases hz) (fun z hz => by cases hz)) wl_TR_33 wst_TR_countSound wi_TR wco_TR_countSound (by decide +kernel) ⟨by dsimp only; omega, by dsimp only; omega⟩ rfl rfl (Nat.le_of_ble_eq_true rfl) (Nat.le_refl _) (Nat.le_refl _) d_TR_countIfSound_7 (fun E M1 hx => hx.elim) (fun r M1 hp => ?_)
  obtain ⟨rfl, rfl⟩ := hp
  exact j_iret F hr (Nat.le_refl _) (Nat.le_refl _) ⟨rfl, rfl⟩ d_TR_countIfSound_10
end CN1
