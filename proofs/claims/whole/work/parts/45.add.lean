def in_L (L : List no_T) (v : Nat) (y : no_T) : List no_T := L.take v ++ y :: L.drop v
theorem in_perm (L : List no_T) (v : Nat) (y : no_T) : (in_L L v y).Perm (y :: L) := by
  have h := List.perm_middle (a := y) (l₁ := L.take v) (l₂ := L.drop v)
  rw [List.take_append_drop] at h
  exact h
theorem in_left {A B : List no_T} {v : Nat} (y : no_T) (hv : v ≤ A.length) : in_L (A ++ B) v y = in_L A v y ++ B := by
  unfold in_L
  rw [List.take_append_of_le_length hv, List.drop_append_of_le_length hv]
  simp
theorem in_right {A B : List no_T} (x y : no_T) (v : Nat) : in_L (A ++ x :: B) (A.length + 1 + v) y = A ++ x :: in_L B v y := by
  unfold in_L
  rw [List.take_append, List.drop_append, List.take_of_length_le (by omega), List.drop_of_length_le (by omega), show A.length + 1 + v - A.length = v + 1 by omega]
  simp
theorem fi_left {A B : List en_T} {x : en_T} {k : ke_T} {m : Int32} (hx : ¬ oc x k m < 0) : fi (A ++ x :: B) k m = fi A k m := by
  induction A with
  | nil => simp [fi, hx]
  | cons a t ih =>
    simp only [List.cons_append, fi]
    rw [ih]
theorem fi_right {A B : List en_T} {x : en_T} {k : ke_T} {m : Int32} (hA : ∀ e ∈ A, oc e k m < 0) (hx : oc x k m < 0) : fi (A ++ x :: B) k m = A.length + 1 + fi B k m := by
  induction A with
  | nil => simp [fi, hx]; omega
  | cons a t ih =>
    simp only [List.cons_append, fi]
    rw [if_pos (hA a List.mem_cons_self), ih (fun e he => hA e (List.mem_cons_of_mem _ he))]
    simp
    omega
theorem in_map (L : List no_T) (v : Nat) (y : no_T) : (in_L L v y).map (fun y => y.2.2) = pu_ins (L.map (fun y => y.2.2)) v y.2.2 := by
  unfold in_L pu_ins
  rw [List.map_append, List.map_cons, List.map_take, List.map_drop]
section AD1
variable {l : Launch} {G : gv_T}
set_option maxHeartbeats 16000000 in
set_option maxRecDepth 100000 in
theorem c_TR_withAdded (hl : l.stackTraces = false) (d : Nat) : ∀ (M : mp_T) (r : Option Nat) (L : List no_T) (h dep b0 kb : Nat) (xb : en_T), tr G M h r L h → h ≤ d → dep + d ≤ 40 → M b0 = some (vE kb xb (nI 1) none none) → ky G M kb xb.1 → b0 ∉ ad_L L → (ad_L L).Nodup → (∀ q ∈ ad_L L, G.2.2.1 ≤ q) → G.2.2.1 ≤ b0 → srt (L.map (fun y => y.2.2)) → (∀ y ∈ L, oc y.2.2 xb.1 xb.2.1 ≠ 0) → (∀ y ∈ L, y.2.2.1.length ≤ 60) → xb.1.length ≤ 60 → ct_C l G y_TR_withAdded b_TR_withAdded 3 (some (.object "MomentTree$Version")) { frames := 5 + d, cells := 0, slots := 0, locals := 120 + 25 * d } [va_rf r, .ref b0, .int (nI dep)] M (fun v M1 => ∃ (root : Option Nat) (h1 : Nat), v = some (va_rf root) ∧ tr G M1 h1 root (in_L L (fi (L.map (fun y => y.2.2)) xb.1 xb.2.1) (b0, kb, xb)) h1 ∧ h ≤ h1 ∧ h1 ≤ h + 1 ∧ ar_K M M1 ∧ ∀ q, q ≠ b0 → q ∉ ad_L L → M1 q = M q) (fun _ _ => False) := by
  induction d with
  | zero =>
    intro M r L h dep b0 kb xb ht hd hdp hvb hkb hnb nd hz zb hs hne h60 hb60
    refine ct_of hl (by decide +kernel) (by simp [lg_sl, rf_cat, ca_i, ca_r]) ?_
    intro p e s m args below meth c F hr hnm
    refine j_lv (lv1 := [(0, va_rf r), (1, .ref b0), (2, .int (nI dep))]) (by simp [lv_args, rf_cat, ca_r]) ?_
    cases r with
    | none =>
      obtain ⟨rfl, rfl⟩ : L = [] ∧ h = 0 := by cases h <;> exact ht
      refine j_aload_nq F d_TR_withAdded_0 rfl rfl ?_
      refine j_ifnonnull F (tgt := 6) d_TR_withAdded_1 (by decide) (fun x hx => by cases hx) (fun _ => ?_)
      refine j_aload_n F d_TR_withAdded_4 rfl rfl ?_
      have h0 : tr G M 0 none [] 0 := ⟨rfl, rfl⟩
      exact j_aret F hr (Or.inl ⟨_, rfl⟩) (Or.inr ⟨_, rfl⟩) (Nat.le_refl _) (Nat.le_refl _) ⟨some b0, 1, rfl, tr_node (hl := 0) (hr := 0) hvb hkb h0 h0 (by decide) (by decide), by decide, by decide, fun _ _ h => h, fun _ _ _ => rfl⟩ d_TR_withAdded_5
    | some a =>
      obtain rfl : h = 0 := by omega
      exact ht.elim
  | succ d ih =>
    intro M r L h dep b0 kb xb ht hd hdp hvb hkb hnb nd hz zb hs hne h60 hb60
    refine ct_of hl (by decide +kernel) (by simp [lg_sl, rf_cat, ca_i, ca_r]) ?_
    intro p e s m args below meth c F hr hnm
    refine j_lv (lv1 := [(0, va_rf r), (1, .ref b0), (2, .int (nI dep))]) (by simp [lv_args, rf_cat, ca_r]) ?_
    cases r with
    | none =>
      obtain ⟨rfl, rfl⟩ : L = [] ∧ h = 0 := by cases h <;> exact ht
      refine j_aload_nq F d_TR_withAdded_0 rfl rfl ?_
      refine j_ifnonnull F (tgt := 6) d_TR_withAdded_1 (by decide) (fun x hx => by cases hx) (fun _ => ?_)
      refine j_aload_n F d_TR_withAdded_4 rfl rfl ?_
      have h0 : tr G M 0 none [] 0 := ⟨rfl, rfl⟩
      exact j_aret F hr (Or.inl ⟨_, rfl⟩) (Or.inr ⟨_, rfl⟩) (Nat.le_refl _) (Nat.le_refl _) ⟨some b0, 1, rfl, tr_node (hl := 0) (hr := 0) hvb hkb h0 h0 (by decide) (by decide), by decide, by decide, fun _ _ h => h, fun _ _ _ => rfl⟩ d_TR_withAdded_5
    | some a =>
      cases h with
      | zero => exact ht.elim
      | succ h =>
        obtain ⟨ka, e0, lc, rc, Ll, Lr, g1, g2, hv, hk, tl, tt, rfl, hmx, gg1, gg2⟩ := ht
        have q1 := tr_le _ tl
        have q2 := tr_le _ tt
        have tl := tr_fuel _ tl (Nat.le_refl _)
        have tt := tr_fuel _ tt (Nat.le_refl _)
        have hmx2 : (a, ka, e0) ∈ Ll ++ (a, ka, e0) :: Lr := List.mem_append_right _ List.mem_cons_self
        have hml : ∀ y ∈ Ll, y ∈ Ll ++ (a, ka, e0) :: Lr := fun y hy => List.mem_append_left _ hy
        have hmr : ∀ y ∈ Lr, y ∈ Ll ++ (a, ka, e0) :: Lr := fun y hy => List.mem_append_right _ (List.mem_cons_of_mem _ hy)
        have hx60 : e0.1.length ≤ 60 := h60 _ hmx2
        have nd0 := nd
        have hz0 := hz
        have hnb0 := hnb
        rw [ad_app] at nd hz hnb
        rw [List.nodup_append] at nd
        obtain ⟨nl, nr, nlr⟩ := nd
        rw [List.nodup_cons] at nr
        obtain ⟨nar, nr⟩ := nr
        have nal : a ∉ ad_L Ll := fun z => nlr a z a List.mem_cons_self rfl
        have za : G.2.2.1 ≤ a := hz a (List.mem_append_right _ List.mem_cons_self)
        have hbl : b0 ∉ ad_L Ll := fun z => hnb (List.mem_append_left _ z)
        have hbr : b0 ∉ ad_L Lr := fun z => hnb (List.mem_append_right _ (List.mem_cons_of_mem _ z))
        have hba : b0 ≠ a := fun z => hnb (by rw [z]; exact List.mem_append_right _ List.mem_cons_self)
        have hs0 := hs
        unfold srt at hs
        rw [List.map_append, List.map_cons, List.pairwise_append, List.pairwise_cons] at hs
        obtain ⟨sl, ⟨sx, sr⟩, sx2⟩ := hs
        have hmapE : (Ll ++ (a, ka, e0) :: Lr).map (fun y => y.2.2) = Ll.map (fun y => y.2.2) ++ e0 :: Lr.map (fun y => y.2.2) := by simp
        refine j_aload_n F d_TR_withAdded_0 rfl rfl ?_
        refine j_ifnonnull F (r := some a) (tgt := 6) d_TR_withAdded_1 (by decide) (fun x hx => ?_) (fun hx => by cases hx)
        refine j_iload_n F d_TR_withAdded_6 rfl rfl ?_
        refine j_bipush F (v := 40) d_TR_withAdded_7 (by decide) ?_
        refine j_icmp_lt F (tgt := 14) d_TR_withAdded_9 (by decide) (fun hc => ?_) (fun hc => absurd ((nI_ltI (b := 40) (by omega) (by decide)).mpr (by omega)) hc)
        refine j_aload_n F d_TR_withAdded_14 rfl rfl ?_
        refine j_aload_n F d_TR_withAdded_15 rfl rfl ?_
        refine j_get F hvb rfl in_VE 0 (by decide) wf_TR_37 rfl d_TR_withAdded_16 ?_
        refine j_aload_n F d_TR_withAdded_19 rfl rfl ?_
        refine j_get F hvb rfl in_VE 1 (by decide) wf_TR_41 rfl d_TR_withAdded_20 ?_
        refine j_callV F 2 (c_VE_orderOf hl hv hk (Or.inl hkb) hx60 hb60 (mm := xb.2.1)) hv rfl wl_TR_17 wim_VE_orderOf wse_VE_orderOf wi_VE wco_VE_orderOf (by decide +kernel) ⟨by dsimp only; omega, by dsimp only; omega⟩ rfl rfl (Nat.le_of_ble_eq_true rfl) (Nat.le_refl _) (Nat.le_refl _) d_TR_withAdded_23 (fun E M1 hx => hx.elim) (fun r M1 hp => ?_)
        obtain ⟨rfl, d0, rfl, hd1, hd2⟩ := hp
        refine j_if_ge F (tgt := 47) d_TR_withAdded_26 (by decide) (fun hq1 => ?_) (fun hq1 => ?_)
        · skip
          have hoc : oc e0 xb.1 xb.2.1 < 0 := by
            have h1 : ¬ 0 < oc e0 xb.1 xb.2.1 := fun z => absurd (hd1.mpr z) (Int32.not_lt.mpr hq1)
            have h2 := hne _ hmx2
            dsimp only at h2
            omega
          have hal : ∀ e ∈ Ll.map (fun y => y.2.2), oc e xb.1 xb.2.1 < 0 := fun e he => oc_lt (sx2 e he e0 List.mem_cons_self) (by omega)
          have hfi : fi ((Ll ++ (a, ka, e0) :: Lr).map (fun y => y.2.2)) xb.1 xb.2.1 = Ll.length + 1 + fi (Lr.map (fun y => y.2.2)) xb.1 xb.2.1 := by rw [hmapE, fi_right hal hoc, List.length_map]
          rw [hfi, in_right (a, ka, e0) (b0, kb, xb)]
          refine j_aload_n F d_TR_withAdded_47 rfl rfl ?_
          refine j_aload_n F d_TR_withAdded_48 rfl rfl ?_
          refine j_get F hv rfl in_VE 6 (by decide) wf_TR_26 rfl d_TR_withAdded_49 ?_
          refine j_aload_n F d_TR_withAdded_52 rfl rfl ?_
          refine j_iload_n F d_TR_withAdded_53 rfl rfl ?_
          refine j_iconst F (v := 1) d_TR_withAdded_54 (by decide) ?_
          refine j_iadd F d_TR_withAdded_55 ?_
          refine j_val (y := nI (dep + 1)) (nI_1 _) ?_
          refine j_callS F 3 (ih M rc Lr g2 (dep + 1) b0 kb xb tt (by omega) (by omega) hvb hkb hbr nr (fun q hq => hz q (List.mem_append_right _ (List.mem_cons_of_mem _ hq))) zb sr (fun y hy => hne y (hmr y hy)) (fun y hy => h60 y (hmr y hy)) hb60) wl_TR_29 wst_TR_withAdded wi_TR wco_TR_withAdded (by decide +kernel) ⟨by dsimp only; omega, by dsimp only; omega⟩ rfl rfl (Nat.le_of_ble_eq_true rfl) (Nat.le_refl _) (Nat.le_refl _) d_TR_withAdded_56 (fun E M1 hx => hx.elim) (fun r M1 hp => ?_)
          obtain ⟨rt, h3, rfl, t3, w1, w2, ha1, hf1⟩ := hp
          generalize hX : in_L Lr (fi (Lr.map (fun y => y.2.2)) xb.1 xb.2.1) (b0, kb, xb) = LX at t3 ⊢
          have hpm : LX.Perm ((b0, kb, xb) :: Lr) := by rw [← hX]; exact in_perm _ _ _
          have hpa : (ad_L LX).Perm (b0 :: ad_L Lr) := hpm.map _
          have haX : a ∉ ad_L LX := fun z => (List.mem_cons.mp (hpa.mem_iff.mp z)).elim (fun w => hba w.symm) nar
          have hv1 := (hf1 a (Ne.symm hba) nar).trans hv
          refine j_put F hv1 za rfl in_VE ty_VE ok_VE nm_VE 6 (by decide) wf_TR_26 rfl (ty := .object "MomentTree$Version") (by decide +kernel) (rf_nar _ _) (rf_fit _ _) (Nat.le_of_ble_eq_true rfl) d_TR_withAdded_59 ?_
          refine j_nmW (P := fun M2 => M2 a = some (vE ka e0 (nI (h + 1)) lc rt) ∧ ∀ q, q ≠ a → M2 q = M1 q) ⟨mp_Us _ _ _, fun q hq => mp_Un hq⟩ (fun M2 S2 => ?_)
          obtain ⟨hv2, hf2⟩ := S2
          have ha2 : ar_K M1 M2 := fun q w hq => (hf2 q (fun z => by rw [z, hv1] at hq; cases hq)).trans hq
          have tX2 := tr_nd t3 ha2 (fun q hq => hf2 q (fun z => haX (by rw [← z]; exact hq)))
          have tY2 := tr_nd (tr_nd tl ha1 (fun q hq => hf1 q (fun z => hbl (by rw [← z]; exact hq)) (fun z => nlr q hq q (List.mem_cons_of_mem _ z) rfl))) ha2 (fun q hq => hf2 q (fun z => nal (by rw [← z]; exact hq)))
          have hk2 : ky G M2 ka e0.1 := by
            obtain ⟨kf, z1, z2⟩ := hk
            exact ⟨kf, ha2 _ _ (ha1 _ _ z1), z2⟩
          have hpf : (ad_L (Ll ++ (a, ka, e0) :: LX)).Perm (b0 :: ad_L (Ll ++ (a, ka, e0) :: Lr)) := by
            rw [ad_app, ad_app]
            refine List.Perm.trans (List.Perm.append_left _ (List.Perm.cons _ hpa)) ?_
            exact List.Perm.trans (List.Perm.append_left _ (List.Perm.swap _ _ _)) List.perm_middle
          have nd2 : (ad_L (Ll ++ (a, ka, e0) :: LX)).Nodup := hpf.nodup_iff.mpr (List.nodup_cons.mpr ⟨hnb0, nd0⟩)
          have hz2 : ∀ q ∈ ad_L (Ll ++ (a, ka, e0) :: LX), G.2.2.1 ≤ q := fun q hq => (List.mem_cons.mp (hpf.mem_iff.mp hq)).elim (fun z => by rw [z]; exact zb) (hz0 q)
          refine j_aload_n F d_TR_withAdded_62 rfl rfl ?_
          refine j_callS F 1 (c_TR_balanced hl hv2 hk2 tY2 tX2 (by omega) (by omega) (by omega) (by omega) nd2 hz2) wl_TR_44 wst_TR_balanced wi_TR wco_TR_balanced (by decide +kernel) ⟨by dsimp only; omega, by dsimp only; omega⟩ rfl rfl (Nat.le_of_ble_eq_true rfl) (Nat.le_refl _) (Nat.le_refl _) d_TR_withAdded_63 (fun E M1 hx => hx.elim) (fun r M3 hp => ?_)
          obtain ⟨rt2, h4, rfl, t4, z1, z2, z3, ha3, hf3⟩ := hp
          refine j_aret F hr (Or.inl ⟨_, rfl⟩) (rf_or _) (Nat.le_refl _) (Nat.le_refl _) ⟨rt2, h4, rfl, t4, by omega, by omega, fun q w hq => ha3 q w (ha2 q w (ha1 q w hq)), fun q y1 y2 => ?_⟩ d_TR_withAdded_66
          have y3 : q ∉ ad_L (Ll ++ (a, ka, e0) :: LX) := fun z => (List.mem_cons.mp (hpf.mem_iff.mp z)).elim y1 y2
          rw [ad_app] at y2
          exact (hf3 q y3).trans ((hf2 q (fun z => y2 (by rw [z]; exact List.mem_append_right _ List.mem_cons_self))).trans (hf1 q y1 (fun z => y2 (List.mem_append_right _ (List.mem_cons_of_mem _ z)))))
        · skip
          have hoc : 0 < oc e0 xb.1 xb.2.1 := hd1.mp (Int32.not_le.mp hq1)
          have hfi : fi ((Ll ++ (a, ka, e0) :: Lr).map (fun y => y.2.2)) xb.1 xb.2.1 = fi (Ll.map (fun y => y.2.2)) xb.1 xb.2.1 := by rw [hmapE, fi_left (by omega)]
          have hfl := fi_le (Ll.map (fun y => y.2.2)) xb.1 xb.2.1
          rw [List.length_map] at hfl
          rw [hfi, in_left (b0, kb, xb) hfl]
          refine j_aload_n F d_TR_withAdded_29 rfl rfl ?_
          refine j_aload_n F d_TR_withAdded_30 rfl rfl ?_
          refine j_get F hv rfl in_VE 5 (by decide) wf_TR_23 rfl d_TR_withAdded_31 ?_
          refine j_aload_n F d_TR_withAdded_34 rfl rfl ?_
          refine j_iload_n F d_TR_withAdded_35 rfl rfl ?_
          refine j_iconst F (v := 1) d_TR_withAdded_36 (by decide) ?_
          refine j_iadd F d_TR_withAdded_37 ?_
          refine j_val (y := nI (dep + 1)) (nI_1 _) ?_
          refine j_callS F 3 (ih M lc Ll g1 (dep + 1) b0 kb xb tl (by omega) (by omega) hvb hkb hbl nl (fun q hq => hz q (List.mem_append_left _ hq)) zb sl (fun y hy => hne y (hml y hy)) (fun y hy => h60 y (hml y hy)) hb60) wl_TR_29 wst_TR_withAdded wi_TR wco_TR_withAdded (by decide +kernel) ⟨by dsimp only; omega, by dsimp only; omega⟩ rfl rfl (Nat.le_of_ble_eq_true rfl) (Nat.le_refl _) (Nat.le_refl _) d_TR_withAdded_38 (fun E M1 hx => hx.elim) (fun r M1 hp => ?_)
          obtain ⟨rt, h3, rfl, t3, w1, w2, ha1, hf1⟩ := hp
          generalize hX : in_L Ll (fi (Ll.map (fun y => y.2.2)) xb.1 xb.2.1) (b0, kb, xb) = LX at t3 ⊢
          have hpm : LX.Perm ((b0, kb, xb) :: Ll) := by rw [← hX]; exact in_perm _ _ _
          have hpa : (ad_L LX).Perm (b0 :: ad_L Ll) := hpm.map _
          have haX : a ∉ ad_L LX := fun z => (List.mem_cons.mp (hpa.mem_iff.mp z)).elim (fun w => hba w.symm) nal
          have hv1 := (hf1 a (Ne.symm hba) nal).trans hv
          refine j_put F hv1 za rfl in_VE ty_VE ok_VE nm_VE 5 (by decide) wf_TR_23 rfl (ty := .object "MomentTree$Version") (by decide +kernel) (rf_nar _ _) (rf_fit _ _) (Nat.le_of_ble_eq_true rfl) d_TR_withAdded_41 ?_
          refine j_nmW (P := fun M2 => M2 a = some (vE ka e0 (nI (h + 1)) rt rc) ∧ ∀ q, q ≠ a → M2 q = M1 q) ⟨mp_Us _ _ _, fun q hq => mp_Un hq⟩ (fun M2 S2 => ?_)
          obtain ⟨hv2, hf2⟩ := S2
          have ha2 : ar_K M1 M2 := fun q w hq => (hf2 q (fun z => by rw [z, hv1] at hq; cases hq)).trans hq
          have tX2 := tr_nd t3 ha2 (fun q hq => hf2 q (fun z => haX (by rw [← z]; exact hq)))
          have tY2 := tr_nd (tr_nd tt ha1 (fun q hq => hf1 q (fun z => hbr (by rw [← z]; exact hq)) (fun z => nlr q z q (List.mem_cons_of_mem _ hq) rfl))) ha2 (fun q hq => hf2 q (fun z => nar (by rw [← z]; exact hq)))
          have hk2 : ky G M2 ka e0.1 := by
            obtain ⟨kf, z1, z2⟩ := hk
            exact ⟨kf, ha2 _ _ (ha1 _ _ z1), z2⟩
          have hpf : (ad_L (LX ++ (a, ka, e0) :: Lr)).Perm (b0 :: ad_L (Ll ++ (a, ka, e0) :: Lr)) := by
            rw [ad_app, ad_app]
            exact hpa.append_right _
          have nd2 : (ad_L (LX ++ (a, ka, e0) :: Lr)).Nodup := hpf.nodup_iff.mpr (List.nodup_cons.mpr ⟨hnb0, nd0⟩)
          have hz2 : ∀ q ∈ ad_L (LX ++ (a, ka, e0) :: Lr), G.2.2.1 ≤ q := fun q hq => (List.mem_cons.mp (hpf.mem_iff.mp hq)).elim (fun z => by rw [z]; exact zb) (hz0 q)
          refine j_goto F (tgt := 62) d_TR_withAdded_44 (by decide) ?_
          refine j_aload_n F d_TR_withAdded_62 rfl rfl ?_
          refine j_callS F 1 (c_TR_balanced hl hv2 hk2 tX2 tY2 (by omega) (by omega) (by omega) (by omega) nd2 hz2) wl_TR_44 wst_TR_balanced wi_TR wco_TR_balanced (by decide +kernel) ⟨by dsimp only; omega, by dsimp only; omega⟩ rfl rfl (Nat.le_of_ble_eq_true rfl) (Nat.le_refl _) (Nat.le_refl _) d_TR_withAdded_63 (fun E M1 hx => hx.elim) (fun r M3 hp => ?_)
          obtain ⟨rt2, h4, rfl, t4, z1, z2, z3, ha3, hf3⟩ := hp
          refine j_aret F hr (Or.inl ⟨_, rfl⟩) (rf_or _) (Nat.le_refl _) (Nat.le_refl _) ⟨rt2, h4, rfl, t4, by omega, by omega, fun q w hq => ha3 q w (ha2 q w (ha1 q w hq)), fun q y1 y2 => ?_⟩ d_TR_withAdded_66
          have y3 : q ∉ ad_L (LX ++ (a, ka, e0) :: Lr) := fun z => (List.mem_cons.mp (hpf.mem_iff.mp z)).elim y1 y2
          rw [ad_app] at y2
          exact (hf3 q y3).trans ((hf2 q (fun z => y2 (by rw [z]; exact List.mem_append_right _ List.mem_cons_self))).trans (hf1 q y1 (fun z => y2 (List.mem_append_left _ z))))
variable {M : mp_T}
set_option maxHeartbeats 4000000 in
set_option maxRecDepth 100000 in
theorem c_TR_add (hl : l.stackTraces = false) {tt b0 kb n h : Nat} {root : Option Nat} {L : List no_T} {xb : en_T} (htt : M tt = some (.inr (1, [va_rf root, .int (nI n)]))) (ztt : G.2.2.1 ≤ tt) (ht : tr G M h root L h) (hh : h ≤ 40) (hvb : M b0 = some (vE kb xb (nI 1) none none)) (hkb : ky G M kb xb.1) (hnb : b0 ∉ ad_L L) (nd : (ad_L L).Nodup) (hz : ∀ q ∈ ad_L L, G.2.2.1 ≤ q) (zb : G.2.2.1 ≤ b0) (hs : srt (L.map (fun y => y.2.2))) (hne : ∀ y ∈ L, oc y.2.2 xb.1 xb.2.1 ≠ 0) (h60 : ∀ y ∈ L, y.2.2.1.length ≤ 60) (hb60 : xb.1.length ≤ 60) : ct_C l G y_TR_add b_TR_add 2 none { frames := 50, cells := 0, slots := 0, locals := 1200 } [.ref tt, .ref b0] M (fun v M1 => v = none ∧ ∃ (root1 : Option Nat) (h1 : Nat), M1 tt = some (.inr (1, [va_rf root1, .int (nI (n + 1))])) ∧ tr G M1 h1 root1 (in_L L (fi (L.map (fun y => y.2.2)) xb.1 xb.2.1) (b0, kb, xb)) h1 ∧ ar_K M M1 ∧ ∀ q, q ≠ b0 → q ≠ tt → q ∉ ad_L L → M1 q = M q) (fun _ _ => False) := by
  refine ct_of hl (by decide +kernel) (Nat.le_of_ble_eq_true rfl) ?_
  intro p e s m args below meth c F hr hnm
  have htb : tt ≠ b0 := fun z => by rw [z, hvb] at htt; cases htt
  have htl : tt ∉ ad_L L := fun z => by
    obtain ⟨y, hy, hyt⟩ := List.mem_map.mp z
    obtain ⟨⟨w1, w2, w3, w4⟩, -⟩ := tr_no _ ht y hy
    rw [hyt, htt] at w4
    cases w4
  refine j_aload_n F d_TR_add_0 rfl rfl ?_
  refine j_aload_n F d_TR_add_1 rfl rfl ?_
  refine j_get F htt rfl in_TR 0 (by decide) wf_TR_7 rfl d_TR_add_2 ?_
  refine j_aload_n F d_TR_add_5 rfl rfl ?_
  refine j_iconst F (v := 0) d_TR_add_6 (by decide) ?_
  refine j_callS F 3 (c_TR_withAdded hl h M root L h 0 b0 kb xb ht (Nat.le_refl _) (by omega) hvb hkb hnb nd hz zb hs hne h60 hb60) wl_TR_29 wst_TR_withAdded wi_TR wco_TR_withAdded (by decide +kernel) ⟨by dsimp only; omega, by dsimp only; omega⟩ rfl rfl (Nat.le_of_ble_eq_true rfl) (Nat.le_refl _) (Nat.le_refl _) d_TR_add_7 (fun E M1 hx => hx.elim) (fun r M1 hp => ?_)
  obtain ⟨rt, h3, rfl, t3, -, -, ha1, hf1⟩ := hp
  have ht1 := (hf1 tt htb htl).trans htt
  refine j_put F ht1 ztt rfl in_TR ty_TR ok_TR nm_TR 0 (by decide) wf_TR_7 rfl (ty := .object "MomentTree$Version") (by decide +kernel) (rf_nar _ _) (rf_fit _ _) (Nat.le_of_ble_eq_true rfl) d_TR_add_10 ?_
  refine j_nmW (P := fun M2 => M2 tt = some (.inr (1, [va_rf rt, .int (nI n)])) ∧ ∀ q, q ≠ tt → M2 q = M1 q) ⟨mp_Us _ _ _, fun q hq => mp_Un hq⟩ (fun M2 S2 => ?_)
  refine j_aload_n F d_TR_add_13 rfl rfl ?_
  refine j_dup F d_TR_add_14 rfl ?_
  refine j_get F S2.1 rfl in_TR 1 (by decide) wf_TR_13 rfl d_TR_add_15 ?_
  refine j_iconst F (v := 1) d_TR_add_18 (by decide) ?_
  refine j_iadd F d_TR_add_19 ?_
  refine j_val (y := nI (n + 1)) (nI_1 _) ?_
  refine j_put F S2.1 ztt rfl in_TR ty_TR ok_TR nm_TR 1 (by decide) wf_TR_13 rfl (ty := .int) (by decide +kernel) rfl rfl (Nat.le_of_ble_eq_true rfl) d_TR_add_20 ?_
  refine j_nmW (P := fun M3 => M3 tt = some (.inr (1, [va_rf rt, .int (nI (n + 1))])) ∧ ∀ q, q ≠ tt → M3 q = M1 q) ⟨mp_Us _ _ _, fun q hq => (mp_Un hq).trans (S2.2 q hq)⟩ (fun M3 S3 => ?_)
  have ha3 : ar_K M1 M3 := fun q w hq => (S3.2 q (fun z => by rw [z, ht1] at hq; cases hq)).trans hq
  have hpm := (in_perm L (fi (L.map (fun y => y.2.2)) xb.1 xb.2.1) (b0, kb, xb)).map (fun y => y.1)
  exact j_vret F hr (Nat.le_refl _) (Nat.le_refl _) ⟨rfl, rt, h3, S3.1, tr_nd t3 ha3 (fun q hq => S3.2 q (fun z => (List.mem_cons.mp (hpm.mem_iff.mp hq)).elim (fun w => htb (z.symm.trans w)) (fun w => htl (by rw [← z]; exact w)))), fun q w hq => ha3 q w (ha1 q w hq), fun q y1 y2 y3 => (S3.2 q y2).trans (hf1 q y1 y3)⟩ d_TR_add_23
end AD1
