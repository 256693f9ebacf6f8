theorem rf_nar (C : String) (r : Option Nat) : narrow (.object C) (va_rf r) = va_rf r := by cases r <;> rfl
theorem rf_fit (C : String) (r : Option Nat) : fits (.object C) (va_rf r) = true := by cases r <;> rfl
theorem hv_keep {M M1 : mp_T} {r : Option Nat} {h : Nat} (H : hv_R M r h) (hk : ∀ c, r = some c → M1 c = M c) : hv_R M1 r h := by
  rcases H with H | ⟨a, ka, e, l, r1, rfl, hv⟩
  · exact Or.inl H
  · exact Or.inr ⟨a, ka, e, l, r1, rfl, (hk a rfl).trans hv⟩
/-- every array stays -/
def ar_K (M M1 : mp_T) : Prop := ∀ q w, M q = some (.inl w) → M1 q = some (.inl w)
theorem tr_keep {G : gv_T} {M M1 : mp_T} {d : Nat} {r : Option Nat} {L : List no_T} {h : Nat} (ht : tr G M d r L h) (hk : ∀ y ∈ L, M1 y.1 = M y.1) (ha : ar_K M M1) : tr G M1 d r L h := by
  have key : ∀ (d : Nat) (r : Option Nat) (L : List no_T) (h : Nat), tr G M d r L h → (∀ y ∈ L, M1 y.1 = M y.1) → tr G M1 d r L h := by
    intro d
    induction d with
    | zero =>
      intro r L h ht _
      cases r with
      | none => exact ht
      | some a => exact ht
    | succ d ih =>
      intro r L h ht hk
      cases r with
      | none => exact ht
      | some a =>
        obtain ⟨ka, e, l, r, Ll, Lr, hl, hr, h1, ⟨kf, h2, h3⟩, h4, h5, rfl, h6⟩ := ht
        exact ⟨ka, e, l, r, Ll, Lr, hl, hr, (hk (a, ka, e) (List.mem_append_right _ List.mem_cons_self)).trans h1, ⟨kf, ha _ _ h2, h3⟩, ih _ _ _ h4 (fun y hy => hk y (List.mem_append_left _ hy)), ih _ _ _ h5 (fun y hy => hk y (List.mem_append_right _ (List.mem_cons_of_mem _ hy))), rfl, h6⟩
  exact key d r L h ht hk
/-- two versions' cells are written, all else stays -/
def tw_P (M0 M : mp_T) (a b : Nat) (ea eb : va_E) : Prop := M a = some ea ∧ M b = some eb ∧ ∀ q, q ≠ a → q ≠ b → M q = M0 q
theorem tw_a {M0 M : mp_T} {a b : Nat} {ea eb e : va_E} (hab : a ≠ b) (h : tw_P M0 M a b ea eb) : tw_P M0 (mp_U M a e) a b e eb := ⟨mp_Us _ _ _, (mp_Un (Ne.symm hab)).trans h.2.1, fun q h1 h2 => (mp_Un h1).trans (h.2.2 q h1 h2)⟩
theorem tw_b {M0 M : mp_T} {a b : Nat} {ea eb e : va_E} (hab : a ≠ b) (h : tw_P M0 M a b ea eb) : tw_P M0 (mp_U M b e) a b ea e := ⟨(mp_Un hab).trans h.1, mp_Us _ _ _, fun q h1 h2 => (mp_Un h2).trans (h.2.2 q h1 h2)⟩
theorem tw_ar {M0 M : mp_T} {a b : Nat} {ea eb : va_E} {ka kb : Nat} {xa xb : en_T} {ha hb : Int32} {la ra lb rb : Option Nat} (h : tw_P M0 M a b ea eb) (h1 : M0 a = some (vE ka xa ha la ra)) (h2 : M0 b = some (vE kb xb hb lb rb)) : ar_K M0 M := by
  intro q w hq
  refine (h.2.2 q (fun z => ?_) (fun z => ?_)).trans hq
  · rw [z, h1] at hq; cases hq
  · rw [z, h2] at hq; cases hq
section RO1
variable {l : Launch} {G : gv_T} {M : mp_T}
set_option maxHeartbeats 4000000 in
set_option maxRecDepth 100000 in
theorem c_TR_turnedRight (hl : l.stackTraces = false) {a b0 ka kb : Nat} {xa xb : en_T} {ha hb : Int32} {r1 r2 r3 : Option Nat} {h1 h2 h3 : Nat} (hva : M a = some (vE ka xa ha (some b0) r3)) (hvb : M b0 = some (vE kb xb hb r1 r2)) (H1 : hv_R M r1 h1) (H2 : hv_R M r2 h2) (H3 : hv_R M r3 h3) (hab : a ≠ b0) (n1 : ∀ c, r1 = some c → c ≠ a ∧ c ≠ b0) (n2 : ∀ c, r2 = some c → c ≠ a ∧ c ≠ b0) (n3 : ∀ c, r3 = some c → c ≠ a ∧ c ≠ b0) (za : G.2.2.1 ≤ a) (zb : G.2.2.1 ≤ b0) (b1 : h1 ≤ 500) (b2 : h2 ≤ 500) (b3 : h3 ≤ 500) : ct_C l G y_TR_turnedRight b_TR_turnedRight 2 (some (.object "MomentTree$Version")) { frames := 2, cells := 0, slots := 0, locals := 40 } [.ref a] M (fun v M1 => v = some (.ref b0) ∧ tw_P M M1 a b0 (vE ka xa (nI (max h2 h3 + 1)) r2 r3) (vE kb xb (nI (max h1 (max h2 h3 + 1) + 1)) r1 (some a))) (fun _ _ => False) := by
  refine ct_of hl (by decide +kernel) (Nat.le_of_ble_eq_true rfl) ?_
  intro p e s m args below meth c F hr hnm
  refine j_aload_n F d_TR_turnedRight_0 rfl rfl ?_
  refine j_ifnull F (r := some a) (tgt := 11) d_TR_turnedRight_1 (by decide) (fun hx => by cases hx) (fun x hx => ?_)
  refine j_aload_n F d_TR_turnedRight_4 rfl rfl ?_
  refine j_get F hva rfl in_VE 5 (by decide) wf_TR_23 rfl d_TR_turnedRight_5 ?_
  refine j_ifnonnull F (r := some b0) (tgt := 13) d_TR_turnedRight_8 (by decide) (fun x hx => ?_) (fun hx => by cases hx)
  refine j_aload_n F d_TR_turnedRight_13 rfl rfl ?_
  refine j_get F hva rfl in_VE 5 (by decide) wf_TR_23 rfl d_TR_turnedRight_14 ?_
  refine j_astore_n F (x := b0) (lv1 := [(1, .ref b0), (0, .ref a)]) d_TR_turnedRight_17 rfl (by decide) rfl ?_
  refine j_aload_n F d_TR_turnedRight_18 rfl rfl ?_
  refine j_aload_n F d_TR_turnedRight_19 rfl rfl ?_
  refine j_get F hvb rfl in_VE 6 (by decide) wf_TR_26 rfl d_TR_turnedRight_20 ?_
  refine j_put F hva za rfl in_VE ty_VE ok_VE nm_VE 5 (by decide) wf_TR_23 rfl (ty := .object "MomentTree$Version") (by decide +kernel) (rf_nar _ _) (rf_fit _ _) (Nat.le_of_ble_eq_true rfl) d_TR_turnedRight_23 ?_
  refine j_nmW (P := fun M1 => tw_P M M1 a b0 (vE ka xa ha r2 r3) (vE kb xb hb r1 r2)) (tw_a hab ⟨hva, hvb, fun _ _ _ => rfl⟩) (fun M1 S1 => ?_)
  refine j_aload_n F d_TR_turnedRight_26 rfl rfl ?_
  refine j_aload_n F d_TR_turnedRight_27 rfl rfl ?_
  refine j_put F S1.2.1 zb rfl in_VE ty_VE ok_VE nm_VE 6 (by decide) wf_TR_26 rfl (ty := .object "MomentTree$Version") (by decide +kernel) rfl rfl (Nat.le_of_ble_eq_true rfl) d_TR_turnedRight_28 ?_
  refine j_nmW (P := fun M1 => tw_P M M1 a b0 (vE ka xa ha r2 r3) (vE kb xb hb r1 (some a))) (tw_b hab S1) (fun M2 S2 => ?_)
  refine j_aload_n F d_TR_turnedRight_31 rfl rfl ?_
  refine j_aload_n F d_TR_turnedRight_32 rfl rfl ?_
  refine j_callS F 1 (c_TR_hfs hl S2.1 (hv_keep H2 (fun c hc => S2.2.2 c (n2 c hc).1 (n2 c hc).2)) (hv_keep H3 (fun c hc => S2.2.2 c (n3 c hc).1 (n3 c hc).2)) (by omega) (by omega)) wl_TR_48 wst_TR_heightFromSides wi_TR wco_TR_heightFromSides (by decide +kernel) (by decide) rfl rfl (Nat.le_of_ble_eq_true rfl) (by decide) (by decide) d_TR_turnedRight_33 (fun E M1 hx => hx.elim) (fun r M1 hp => ?_)
  obtain ⟨rfl, rfl⟩ := hp
  refine j_put F S2.1 za rfl in_VE ty_VE ok_VE nm_VE 4 (by decide) wf_TR_52 rfl (ty := .int) (by decide +kernel) rfl rfl (Nat.le_of_ble_eq_true rfl) d_TR_turnedRight_36 ?_
  refine j_nmW (P := fun M1 => tw_P M M1 a b0 (vE ka xa (nI (max h2 h3 + 1)) r2 r3) (vE kb xb hb r1 (some a))) (tw_a hab S2) (fun M3 S3 => ?_)
  refine j_aload_n F d_TR_turnedRight_39 rfl rfl ?_
  refine j_aload_n F d_TR_turnedRight_40 rfl rfl ?_
  refine j_callS F 1 (c_TR_hfs hl S3.2.1 (hv_keep H1 (fun c hc => S3.2.2 c (n1 c hc).1 (n1 c hc).2)) (Or.inr ⟨a, _, _, _, _, rfl, S3.1⟩) (by omega) (by omega)) wl_TR_48 wst_TR_heightFromSides wi_TR wco_TR_heightFromSides (by decide +kernel) (by decide) rfl rfl (Nat.le_of_ble_eq_true rfl) (by decide) (by decide) d_TR_turnedRight_41 (fun E M1 hx => hx.elim) (fun r M1 hp => ?_)
  obtain ⟨rfl, rfl⟩ := hp
  refine j_put F S3.2.1 zb rfl in_VE ty_VE ok_VE nm_VE 4 (by decide) wf_TR_52 rfl (ty := .int) (by decide +kernel) rfl rfl (Nat.le_of_ble_eq_true rfl) d_TR_turnedRight_44 ?_
  refine j_nmW (P := fun M1 => tw_P M M1 a b0 (vE ka xa (nI (max h2 h3 + 1)) r2 r3) (vE kb xb (nI (max h1 (max h2 h3 + 1) + 1)) r1 (some a))) (tw_b hab S3) (fun M4 S4 => ?_)
  refine j_aload_n F d_TR_turnedRight_47 rfl rfl ?_
  exact j_aret F hr (Or.inl ⟨_, rfl⟩) (Or.inr ⟨_, rfl⟩) (Nat.le_refl _) (Nat.le_refl _) ⟨rfl, S4⟩ d_TR_turnedRight_48
set_option maxHeartbeats 4000000 in
set_option maxRecDepth 100000 in
theorem c_TR_turnedLeft (hl : l.stackTraces = false) {a b0 ka kb : Nat} {xa xb : en_T} {ha hb : Int32} {r1 r2 r3 : Option Nat} {h1 h2 h3 : Nat} (hva : M a = some (vE ka xa ha r3 (some b0))) (hvb : M b0 = some (vE kb xb hb r2 r1)) (H1 : hv_R M r1 h1) (H2 : hv_R M r2 h2) (H3 : hv_R M r3 h3) (hab : a ≠ b0) (n1 : ∀ c, r1 = some c → c ≠ a ∧ c ≠ b0) (n2 : ∀ c, r2 = some c → c ≠ a ∧ c ≠ b0) (n3 : ∀ c, r3 = some c → c ≠ a ∧ c ≠ b0) (za : G.2.2.1 ≤ a) (zb : G.2.2.1 ≤ b0) (b1 : h1 ≤ 500) (b2 : h2 ≤ 500) (b3 : h3 ≤ 500) : ct_C l G y_TR_turnedLeft b_TR_turnedLeft 2 (some (.object "MomentTree$Version")) { frames := 2, cells := 0, slots := 0, locals := 40 } [.ref a] M (fun v M1 => v = some (.ref b0) ∧ tw_P M M1 a b0 (vE ka xa (nI (max h3 h2 + 1)) r3 r2) (vE kb xb (nI (max (max h3 h2 + 1) h1 + 1)) (some a) r1)) (fun _ _ => False) := by
  refine ct_of hl (by decide +kernel) (Nat.le_of_ble_eq_true rfl) ?_
  intro p e s m args below meth c F hr hnm
  refine j_aload_n F d_TR_turnedLeft_0 rfl rfl ?_
  refine j_ifnull F (r := some a) (tgt := 11) d_TR_turnedLeft_1 (by decide) (fun hx => by cases hx) (fun x hx => ?_)
  refine j_aload_n F d_TR_turnedLeft_4 rfl rfl ?_
  refine j_get F hva rfl in_VE 6 (by decide) wf_TR_26 rfl d_TR_turnedLeft_5 ?_
  refine j_ifnonnull F (r := some b0) (tgt := 13) d_TR_turnedLeft_8 (by decide) (fun x hx => ?_) (fun hx => by cases hx)
  refine j_aload_n F d_TR_turnedLeft_13 rfl rfl ?_
  refine j_get F hva rfl in_VE 6 (by decide) wf_TR_26 rfl d_TR_turnedLeft_14 ?_
  refine j_astore_n F (x := b0) (lv1 := [(1, .ref b0), (0, .ref a)]) d_TR_turnedLeft_17 rfl (by decide) rfl ?_
  refine j_aload_n F d_TR_turnedLeft_18 rfl rfl ?_
  refine j_aload_n F d_TR_turnedLeft_19 rfl rfl ?_
  refine j_get F hvb rfl in_VE 5 (by decide) wf_TR_23 rfl d_TR_turnedLeft_20 ?_
  refine j_put F hva za rfl in_VE ty_VE ok_VE nm_VE 6 (by decide) wf_TR_26 rfl (ty := .object "MomentTree$Version") (by decide +kernel) (rf_nar _ _) (rf_fit _ _) (Nat.le_of_ble_eq_true rfl) d_TR_turnedLeft_23 ?_
  refine j_nmW (P := fun M1 => tw_P M M1 a b0 (vE ka xa ha r3 r2) (vE kb xb hb r2 r1)) (tw_a hab ⟨hva, hvb, fun _ _ _ => rfl⟩) (fun M1 S1 => ?_)
  refine j_aload_n F d_TR_turnedLeft_26 rfl rfl ?_
  refine j_aload_n F d_TR_turnedLeft_27 rfl rfl ?_
  refine j_put F S1.2.1 zb rfl in_VE ty_VE ok_VE nm_VE 5 (by decide) wf_TR_23 rfl (ty := .object "MomentTree$Version") (by decide +kernel) rfl rfl (Nat.le_of_ble_eq_true rfl) d_TR_turnedLeft_28 ?_
  refine j_nmW (P := fun M1 => tw_P M M1 a b0 (vE ka xa ha r3 r2) (vE kb xb hb (some a) r1)) (tw_b hab S1) (fun M2 S2 => ?_)
  refine j_aload_n F d_TR_turnedLeft_31 rfl rfl ?_
  refine j_aload_n F d_TR_turnedLeft_32 rfl rfl ?_
  refine j_callS F 1 (c_TR_hfs hl S2.1 (hv_keep H3 (fun c hc => S2.2.2 c (n3 c hc).1 (n3 c hc).2)) (hv_keep H2 (fun c hc => S2.2.2 c (n2 c hc).1 (n2 c hc).2)) (by omega) (by omega)) wl_TR_48 wst_TR_heightFromSides wi_TR wco_TR_heightFromSides (by decide +kernel) (by decide) rfl rfl (Nat.le_of_ble_eq_true rfl) (by decide) (by decide) d_TR_turnedLeft_33 (fun E M1 hx => hx.elim) (fun r M1 hp => ?_)
  obtain ⟨rfl, rfl⟩ := hp
  refine j_put F S2.1 za rfl in_VE ty_VE ok_VE nm_VE 4 (by decide) wf_TR_52 rfl (ty := .int) (by decide +kernel) rfl rfl (Nat.le_of_ble_eq_true rfl) d_TR_turnedLeft_36 ?_
  refine j_nmW (P := fun M1 => tw_P M M1 a b0 (vE ka xa (nI (max h3 h2 + 1)) r3 r2) (vE kb xb hb (some a) r1)) (tw_a hab S2) (fun M3 S3 => ?_)
  refine j_aload_n F d_TR_turnedLeft_39 rfl rfl ?_
  refine j_aload_n F d_TR_turnedLeft_40 rfl rfl ?_
  refine j_callS F 1 (c_TR_hfs hl S3.2.1 (Or.inr ⟨a, _, _, _, _, rfl, S3.1⟩) (hv_keep H1 (fun c hc => S3.2.2 c (n1 c hc).1 (n1 c hc).2)) (by omega) (by omega)) wl_TR_48 wst_TR_heightFromSides wi_TR wco_TR_heightFromSides (by decide +kernel) (by decide) rfl rfl (Nat.le_of_ble_eq_true rfl) (by decide) (by decide) d_TR_turnedLeft_41 (fun E M1 hx => hx.elim) (fun r M1 hp => ?_)
  obtain ⟨rfl, rfl⟩ := hp
  refine j_put F S3.2.1 zb rfl in_VE ty_VE ok_VE nm_VE 4 (by decide) wf_TR_52 rfl (ty := .int) (by decide +kernel) rfl rfl (Nat.le_of_ble_eq_true rfl) d_TR_turnedLeft_44 ?_
  refine j_nmW (P := fun M1 => tw_P M M1 a b0 (vE ka xa (nI (max h3 h2 + 1)) r3 r2) (vE kb xb (nI (max (max h3 h2 + 1) h1 + 1)) (some a) r1)) (tw_b hab S3) (fun M4 S4 => ?_)
  refine j_aload_n F d_TR_turnedLeft_47 rfl rfl ?_
  exact j_aret F hr (Or.inl ⟨_, rfl⟩) (Or.inr ⟨_, rfl⟩) (Nat.le_refl _) (Nat.le_refl _) ⟨rfl, S4⟩ d_TR_turnedLeft_48
/-- the versions' addresses -/
abbrev ad_L (L : List no_T) : List Nat := L.map (fun y => y.1)
theorem tr_adr {G : gv_T} {M : mp_T} {d : Nat} {c : Nat} {L : List no_T} {h : Nat} (ht : tr G M d (some c) L h) : c ∈ ad_L L := by
  cases d with
  | zero => exact ht.elim
  | succ d =>
    obtain ⟨ka, e, l, r, Ll, Lr, hl, hr, -, -, -, -, rfl, -⟩ := ht
    exact List.mem_map.mpr ⟨(c, ka, e), List.mem_append_right _ List.mem_cons_self, rfl⟩
theorem tr_nd {G : gv_T} {M M1 : mp_T} {d : Nat} {r : Option Nat} {L : List no_T} {h : Nat} (ht : tr G M d r L h) (ha : ar_K M M1) (hk : ∀ q ∈ ad_L L, M1 q = M q) : tr G M1 d r L h := tr_keep ht (fun y hy => hk y.1 (List.mem_map.mpr ⟨y, hy, rfl⟩)) ha
theorem tr_node {G : gv_T} {M : mp_T} {a ka : Nat} {e : en_T} {l r : Option Nat} {Ll Lr : List no_T} {hl hr : Nat} (h1 : M a = some (vE ka e (nI (max hl hr + 1)) l r)) (h2 : ky G M ka e.1) (tl : tr G M hl l Ll hl) (tt : tr G M hr r Lr hr) (g1 : hl ≤ hr + 1) (g2 : hr ≤ hl + 1) : tr G M (max hl hr + 1) (some a) (Ll ++ (a, ka, e) :: Lr) (max hl hr + 1) := ⟨ka, e, l, r, Ll, Lr, hl, hr, h1, h2, tr_fuel _ tl (by omega), tr_fuel _ tt (by omega), rfl, rfl, g1, g2⟩
theorem ad_app (A B : List no_T) (x : no_T) : ad_L (A ++ x :: B) = ad_L A ++ x.1 :: ad_L B := by simp [ad_L]
set_option maxHeartbeats 4000000 in
set_option maxRecDepth 100000 in
theorem c_TR_balanced (hl : l.stackTraces = false) {a ka : Nat} {e0 : en_T} {ht0 : Int32} {lc rc : Option Nat} {Ll Lr : List no_T} {h1 h2 : Nat} (hv : M a = some (vE ka e0 ht0 lc rc)) (hky : ky G M ka e0.1) (tl : tr G M h1 lc Ll h1) (tr2 : tr G M h2 rc Lr h2) (g1 : h1 ≤ h2 + 2) (g2 : h2 ≤ h1 + 2) (b1 : h1 ≤ 400) (b2 : h2 ≤ 400) (nd : (ad_L (Ll ++ (a, ka, e0) :: Lr)).Nodup) (hz : ∀ q ∈ ad_L (Ll ++ (a, ka, e0) :: Lr), G.2.2.1 ≤ q) : ct_C l G y_TR_balanced b_TR_balanced 2 (some (.object "MomentTree$Version")) { frames := 3, cells := 0, slots := 0, locals := 70 } [.ref a] M (fun v M1 => ∃ (root : Option Nat) (h : Nat), v = some (va_rf root) ∧ tr G M1 h root (Ll ++ (a, ka, e0) :: Lr) h ∧ h ≤ max h1 h2 + 1 ∧ max h1 h2 ≤ h ∧ (h1 ≤ h2 + 1 → h2 ≤ h1 + 1 → h = max h1 h2 + 1) ∧ ar_K M M1 ∧ ∀ q, q ∉ ad_L (Ll ++ (a, ka, e0) :: Lr) → M1 q = M q) (fun _ _ => False) := by
  refine ct_of hl (by decide +kernel) (Nat.le_of_ble_eq_true rfl) ?_
  intro p e s m args below meth c F hr hnm
  rw [ad_app] at nd hz
  rw [List.nodup_append] at nd
  obtain ⟨nl, nr, nlr⟩ := nd
  rw [List.nodup_cons] at nr
  obtain ⟨nar, nr⟩ := nr
  have nal : a ∉ ad_L Ll := fun z => nlr a z a List.mem_cons_self rfl
  have za : G.2.2.1 ≤ a := hz a (List.mem_append_right _ List.mem_cons_self)
  have hti : (nI h1 - nI h2).toInt = (h1 : Int) - h2 := pk_sub_toInt (by omega) (by omega)
  have c1 : (1 : Int32).toInt = 1 := by decide
  have cm1 : (-1 : Int32).toInt = -1 := by decide
  refine j_aload_n F d_TR_balanced_0 rfl rfl ?_
  refine j_aload_n F d_TR_balanced_1 rfl rfl ?_
  refine j_callS F 1 (c_TR_hfs hl hv (tr_hv tl) (tr_hv tr2) (by omega) (by omega)) wl_TR_48 wst_TR_heightFromSides wi_TR wco_TR_heightFromSides (by decide +kernel) (by decide) rfl rfl (Nat.le_of_ble_eq_true rfl) (by decide) (by decide) d_TR_balanced_2 (fun E M1 hx => hx.elim) (fun r M1 hp => ?_)
  obtain ⟨rfl, rfl⟩ := hp
  refine j_put F hv za rfl in_VE ty_VE ok_VE nm_VE 4 (by decide) wf_TR_52 rfl (ty := .int) (by decide +kernel) rfl rfl (Nat.le_of_ble_eq_true rfl) d_TR_balanced_5 ?_
  refine j_nmW (P := fun M1 => M1 a = some (vE ka e0 (nI (max h1 h2 + 1)) lc rc) ∧ ∀ q, q ≠ a → M1 q = M q) ⟨mp_Us _ _ _, fun q hq => mp_Un hq⟩ (fun M1 S1 => ?_)
  obtain ⟨hv1, hf1⟩ := S1
  have ha1 : ar_K M M1 := fun q w hq => (hf1 q (fun z => by rw [z, hv] at hq; cases hq)).trans hq
  have tl1 : tr G M1 h1 lc Ll h1 := tr_nd tl ha1 (fun q hq => hf1 q (fun z => nal (by rw [← z]; exact hq)))
  have tr1 : tr G M1 h2 rc Lr h2 := tr_nd tr2 ha1 (fun q hq => hf1 q (fun z => nar (by rw [← z]; exact hq)))
  have hky1 : ky G M1 ka e0.1 := by
    obtain ⟨kf, q1, q2⟩ := hky
    exact ⟨kf, ha1 _ _ q1, q2⟩
  have out1 : ∀ q, q ∉ ad_L (Ll ++ (a, ka, e0) :: Lr) → q ≠ a := fun q hq z => hq (by rw [ad_app, z]; exact List.mem_append_right _ List.mem_cons_self)
  refine j_aload_n F d_TR_balanced_8 rfl rfl ?_
  refine j_callS F 1 (c_TR_leaning hl hv1 (tr_hv tl1) (tr_hv tr1) (by omega) (by omega)) wl_TR_55 wst_TR_leaning wi_TR wco_TR_leaning (by decide +kernel) (by decide) rfl rfl (Nat.le_of_ble_eq_true rfl) (by decide) (by decide) d_TR_balanced_9 (fun E M1 hx => hx.elim) (fun r M1 hp => ?_)
  obtain ⟨rfl, rfl⟩ := hp
  refine j_istore_n F (lv1 := [(1, _), (0, _)]) d_TR_balanced_12 rfl (by decide) rfl ?_
  refine j_iload_n F d_TR_balanced_13 rfl rfl ?_
  refine j_iconst F (v := 1) d_TR_balanced_14 (by decide) ?_
  refine j_icmp_le F (tgt := 44) d_TR_balanced_15 (by decide) (fun hq1 => ?_) (fun hq1 => ?_)
  · skip
    have hl1 : h1 ≤ h2 + 1 := by
      rw [Int32.le_iff_toInt_le, hti, c1] at hq1
      omega
    refine j_iload_n F d_TR_balanced_44 rfl rfl ?_
    refine j_iconst F (v := -1) d_TR_balanced_45 (by decide) ?_
    refine j_icmp_ge F (tgt := 75) d_TR_balanced_46 (by decide) (fun hq2 => ?_) (fun hq2 => ?_)
    · skip
      have hl2 : h2 ≤ h1 + 1 := by
        rw [Int32.le_iff_toInt_le, hti, cm1] at hq2
        omega
      refine j_aload_n F d_TR_balanced_75 rfl rfl ?_
      exact j_aret F hr (Or.inl ⟨_, rfl⟩) (Or.inr ⟨_, rfl⟩) (Nat.le_refl _) (Nat.le_refl _) ⟨some a, max h1 h2 + 1, rfl, ⟨ka, e0, lc, rc, Ll, Lr, h1, h2, hv1, hky1, tr_fuel _ tl1 (by omega), tr_fuel _ tr1 (by omega), rfl, rfl, hl1, hl2⟩, Nat.le_refl _, by omega, fun _ _ => rfl, ha1, fun q hq => hf1 q (out1 q hq)⟩ d_TR_balanced_76
    · skip
      have hgt : h2 = h1 + 2 := by
        have : ¬ (-1 ≤ nI h1 - nI h2) := hq2
        rw [Int32.le_iff_toInt_le, hti, cm1] at this
        omega
      cases hcx : rc with
      | none =>
        rw [hcx] at tr1
        have := tr1
        cases h2 with
        | zero => omega
        | succ n => exact absurd this.2 (by omega)
      | some b0 =>
        rw [hcx] at tr1 hv1
        obtain ⟨n1, rfl⟩ : ∃ n, h2 = n + 1 := ⟨h2 - 1, by omega⟩
        obtain ⟨kb, xb, l2, r2, L1, L2, g3, g4, hvb, hkb, t3, t4, rfl, hmx, gg1, gg2⟩ := tr1
        have q3 := tr_le _ t3
        have q4 := tr_le _ t4
        have hb0 : b0 ∈ ad_L (L1 ++ (b0, kb, xb) :: L2) := List.mem_map.mpr ⟨(b0, kb, xb), List.mem_append_right _ List.mem_cons_self, rfl⟩
        have zb : G.2.2.1 ≤ b0 := hz b0 (List.mem_append_right _ (List.mem_cons_of_mem _ hb0))
        have hab : a ≠ b0 := fun z => nar (by rw [z]; exact hb0)
        rw [ad_app] at nr nar nlr
        rw [List.nodup_append] at nr
        obtain ⟨m1, m2, m12⟩ := nr
        rw [List.nodup_cons] at m2
        obtain ⟨mb2, m2⟩ := m2
        have mb1 : b0 ∉ ad_L L1 := fun z => m12 b0 z b0 List.mem_cons_self rfl
        have a1n : a ∉ ad_L L1 := fun z => nar (List.mem_append_left _ z)
        have a2n : a ∉ ad_L L2 := fun z => nar (List.mem_append_right _ (List.mem_cons_of_mem _ z))
        have hYb : b0 ∉ ad_L Ll := fun z => nlr b0 z b0 (List.mem_cons_of_mem _ (List.mem_append_right _ List.mem_cons_self)) rfl
        have hti2 : (nI g3 - nI g4).toInt = (g3 : Int) - g4 := pk_sub_toInt (by omega) (by omega)
        refine j_aload_n F d_TR_balanced_49 rfl rfl ?_
        refine j_get F hv1 rfl in_VE 6 (by decide) wf_TR_26 rfl d_TR_balanced_50 ?_
        refine j_callS F 1 (c_TR_leaning hl hvb (tr_hv t3) (tr_hv t4) (by omega) (by omega)) wl_TR_55 wst_TR_leaning wi_TR wco_TR_leaning (by decide +kernel) (by decide) rfl rfl (Nat.le_of_ble_eq_true rfl) (by decide) (by decide) d_TR_balanced_53 (fun E M1 hx => hx.elim) (fun r M1 hp => ?_)
        obtain ⟨rfl, rfl⟩ := hp
        refine j_if_le F (tgt := 70) d_TR_balanced_56 (by decide) (fun hq3 => ?_) (fun hq3 => ?_)
        · skip
          have hge : g3 ≤ g4 := by
            rw [Int32.le_iff_toInt_le, hti2] at hq3
            have : (0 : Int32).toInt = 0 := by decide
            omega
          refine j_aload_n F d_TR_balanced_70 rfl rfl ?_
          refine j_callS F 1 (c_TR_turnedLeft hl hv1 hvb (tr_hv t4) (tr_hv t3) (tr_hv tl1) hab (fun c hc => by
    have hc9 := tr_adr (by rw [hc] at t4; exact t4)
    exact ⟨fun z => a2n (by rw [← z]; exact hc9), fun z => mb2 (by rw [← z]; exact hc9)⟩) (fun c hc => by
    have hc9 := tr_adr (by rw [hc] at t3; exact t3)
    exact ⟨fun z => a1n (by rw [← z]; exact hc9), fun z => mb1 (by rw [← z]; exact hc9)⟩) (fun c hc => by
    have hc9 := tr_adr (by rw [hc] at tl1; exact tl1)
    exact ⟨fun z => nal (by rw [← z]; exact hc9), fun z => hYb (by rw [← z]; exact hc9)⟩) za zb (by omega) (by omega) (by omega)) wl_TR_58 wst_TR_turnedLeft wi_TR wco_TR_turnedLeft (by decide +kernel) (by decide) rfl rfl (Nat.le_of_ble_eq_true rfl) (by decide) (by decide) d_TR_balanced_71 (fun E M1 hx => hx.elim) (fun r M4 hp => ?_)
          obtain ⟨rfl, S4⟩ := hp
          have ha4 := tw_ar S4 hv1 hvb
          have ka4 : ky G M4 ka e0.1 := by
            obtain ⟨kf, w1, w2⟩ := hky1
            exact ⟨kf, ha4 _ _ w1, w2⟩
          have kb4 : ky G M4 kb xb.1 := by
            obtain ⟨kf, w1, w2⟩ := hkb
            exact ⟨kf, ha4 _ _ w1, w2⟩
          have tO4 := tr_nd t4 ha4 (fun q hq => S4.2.2 q (fun z => a2n (by rw [← z]; exact hq)) (fun z => mb2 (by rw [← z]; exact hq)))
          have tI4 := tr_nd t3 ha4 (fun q hq => S4.2.2 q (fun z => a1n (by rw [← z]; exact hq)) (fun z => mb1 (by rw [← z]; exact hq)))
          have tY4 := tr_nd tl1 ha4 (fun q hq => S4.2.2 q (fun z => nal (by rw [← z]; exact hq)) (fun z => hYb (by rw [← z]; exact hq)))
          have hout : ∀ q, q ∉ ad_L (Ll ++ (a, ka, e0) :: (L1 ++ (b0, kb, xb) :: L2)) → q ≠ b0 := fun q hq z => hq (by rw [z]; simp [ad_L])
          have hE : Ll ++ (a, ka, e0) :: (L1 ++ (b0, kb, xb) :: L2) = (Ll ++ (a, ka, e0) :: L1) ++ (b0, kb, xb) :: L2 := by simp
          have hfin : tr G M4 (max (max h1 g3 + 1) g4 + 1) (some b0) (Ll ++ (a, ka, e0) :: (L1 ++ (b0, kb, xb) :: L2)) (max (max h1 g3 + 1) g4 + 1) := by
            rw [hE]
            exact tr_node S4.2.1 kb4 (tr_node S4.1 ka4 (tr_fuel _ tY4 (Nat.le_refl _)) (tr_fuel _ tI4 (Nat.le_refl _)) (by omega) (by omega)) (tr_fuel _ tO4 (Nat.le_refl _)) (by omega) (by omega)
          exact j_aret F hr (Or.inl ⟨_, rfl⟩) (Or.inr ⟨_, rfl⟩) (Nat.le_refl _) (Nat.le_refl _) ⟨some b0, _, rfl, hfin, by omega, by omega, fun _ _ => by omega, fun q w hq => ha4 q w (ha1 q w hq), fun q hq => (S4.2.2 q (out1 q hq) (hout q hq)).trans (hf1 q (out1 q hq))⟩ d_TR_balanced_74
        · skip
          have hlt : g4 < g3 := by
            have : ¬ (nI g3 - nI g4 ≤ 0) := hq3
            rw [Int32.le_iff_toInt_le, hti2] at this
            have : (0 : Int32).toInt = 0 := by decide
            omega
          cases hci : l2 with
          | none =>
            rw [hci] at t3
            exfalso
            have hz0 : g3 = 0 := by
              have h9 := t3
              cases n1 <;> exact h9.2
            omega
          | some c0 =>
            rw [hci] at t3 hvb
            obtain ⟨n2, hn2⟩ : ∃ n, n1 = n + 1 := ⟨n1 - 1, by omega⟩
            rw [hn2] at t3
            obtain ⟨kc0, xc, l5, r5, L5, L6, g5, g6, hvc, hkc, t5, t6, hL5, hmx2, gh1, gh2⟩ := t3
            subst hL5
            have q5 := tr_le _ t5
            have q6 := tr_le _ t6
            have hc0 : c0 ∈ ad_L (L5 ++ (c0, kc0, xc) :: L6) := List.mem_map.mpr ⟨(c0, kc0, xc), List.mem_append_right _ List.mem_cons_self, rfl⟩
            have zc : G.2.2.1 ≤ c0 := hz c0 (by refine List.mem_append_right _ (List.mem_cons_of_mem _ ?_); rw [ad_app]; exact List.mem_append_left _ hc0)
            have hac : a ≠ c0 := fun z => a1n (by rw [z]; exact hc0)
            have hbc : b0 ≠ c0 := fun z => mb1 (by rw [z]; exact hc0)
            have cO : c0 ∉ ad_L L2 := fun z => m12 c0 hc0 c0 (List.mem_cons_of_mem _ z) rfl
            have cY : c0 ∉ ad_L Ll := fun z => nlr c0 z c0 (List.mem_cons_of_mem _ (List.mem_append_left _ hc0)) rfl
            rw [ad_app] at m1 mb1 a1n
            rw [List.nodup_append] at m1
            obtain ⟨v5, v6, v56⟩ := m1
            rw [List.nodup_cons] at v6
            obtain ⟨vc6, v6⟩ := v6
            have vc5 : c0 ∉ ad_L L5 := fun z => v56 c0 z c0 List.mem_cons_self rfl
            have a5 : a ∉ ad_L L5 := fun z => a1n (List.mem_append_left _ z)
            have a6 : a ∉ ad_L L6 := fun z => a1n (List.mem_append_right _ (List.mem_cons_of_mem _ z))
            have bb5 : b0 ∉ ad_L L5 := fun z => mb1 (List.mem_append_left _ z)
            have bb6 : b0 ∉ ad_L L6 := fun z => mb1 (List.mem_append_right _ (List.mem_cons_of_mem _ z))
            refine j_aload_n F d_TR_balanced_59 rfl rfl ?_
            refine j_aload_n F d_TR_balanced_60 rfl rfl ?_
            refine j_get F hv1 rfl in_VE 6 (by decide) wf_TR_26 rfl d_TR_balanced_61 ?_
            refine j_callS F 1 (c_TR_turnedRight hl hvb hvc (tr_hv t5) (tr_hv t6) (tr_hv t4) hbc (fun c hc => by
    have hc9 := tr_adr (by rw [hc] at t5; exact t5)
    exact ⟨fun z => bb5 (by rw [← z]; exact hc9), fun z => vc5 (by rw [← z]; exact hc9)⟩) (fun c hc => by
    have hc9 := tr_adr (by rw [hc] at t6; exact t6)
    exact ⟨fun z => bb6 (by rw [← z]; exact hc9), fun z => vc6 (by rw [← z]; exact hc9)⟩) (fun c hc => by
    have hc9 := tr_adr (by rw [hc] at t4; exact t4)
    exact ⟨fun z => mb2 (by rw [← z]; exact hc9), fun z => cO (by rw [← z]; exact hc9)⟩) zb zc (by omega) (by omega) (by omega)) wl_TR_61 wst_TR_turnedRight wi_TR wco_TR_turnedRight (by decide +kernel) (by decide) rfl rfl (Nat.le_of_ble_eq_true rfl) (by decide) (by decide) d_TR_balanced_64 (fun E M1 hx => hx.elim) (fun r M3 hp => ?_)
            obtain ⟨rfl, S3⟩ := hp
            have ha3 := tw_ar S3 hvb hvc
            have hv3 := (S3.2.2 a hab hac).trans hv1
            refine j_put F hv3 za rfl in_VE ty_VE ok_VE nm_VE 6 (by decide) wf_TR_26 rfl (ty := .object "MomentTree$Version") (by decide +kernel) rfl rfl (Nat.le_of_ble_eq_true rfl) d_TR_balanced_67 ?_
            refine j_nmW (P := fun M5 => M5 a = some (vE ka e0 (nI (max h1 (n1 + 1) + 1)) lc (some c0)) ∧ ∀ q, q ≠ a → M5 q = M3 q) ⟨mp_Us _ _ _, fun q hq => mp_Un hq⟩ (fun M5 S5 => ?_)
            obtain ⟨hv5, hf5⟩ := S5
            have ha5 : ar_K M3 M5 := fun q w hq => (hf5 q (fun z => by rw [z, hv3] at hq; cases hq)).trans hq
            have hvb5 := (hf5 b0 (Ne.symm hab)).trans S3.1
            have hvc5 := (hf5 c0 (Ne.symm hac)).trans S3.2.1
            have T : ∀ (L9 : List no_T) (r9 : Option Nat) (h9 : Nat), tr G M1 h9 r9 L9 h9 → a ∉ ad_L L9 → b0 ∉ ad_L L9 → c0 ∉ ad_L L9 → tr G M5 h9 r9 L9 h9 := fun L9 r9 h9 t9 w1 w2 w3 => tr_nd (tr_nd t9 ha3 (fun q hq => S3.2.2 q (fun z => w2 (by rw [← z]; exact hq)) (fun z => w3 (by rw [← z]; exact hq)))) ha5 (fun q hq => hf5 q (fun z => w1 (by rw [← z]; exact hq)))
            have uO := T L2 r2 g4 (tr_fuel _ t4 (Nat.le_refl _)) a2n mb2 cO
            have u5 := T L5 l5 g5 (tr_fuel _ t5 (Nat.le_refl _)) a5 bb5 vc5
            have u6 := T L6 r5 g6 (tr_fuel _ t6 (Nat.le_refl _)) a6 bb6 vc6
            have uY := T Ll lc h1 (tr_fuel _ tl1 (Nat.le_refl _)) nal hYb cY
            have kA : ky G M5 ka e0.1 := by
              obtain ⟨kf, w1, w2⟩ := hky1
              exact ⟨kf, ha5 _ _ (ha3 _ _ w1), w2⟩
            have kB : ky G M5 kb xb.1 := by
              obtain ⟨kf, w1, w2⟩ := hkb
              exact ⟨kf, ha5 _ _ (ha3 _ _ w1), w2⟩
            have kC : ky G M5 kc0 xc.1 := by
              obtain ⟨kf, w1, w2⟩ := hkc
              exact ⟨kf, ha5 _ _ (ha3 _ _ w1), w2⟩
            refine j_aload_n F d_TR_balanced_70 rfl rfl ?_
            refine j_callS F 1 (c_TR_turnedLeft hl hv5 hvc5 (Or.inr ⟨b0, _, _, _, _, rfl, hvb5⟩) (tr_hv u5) (tr_hv uY) hac (fun c hc => by cases hc; exact ⟨Ne.symm hab, hbc⟩) (fun c hc => by
    have hc9 := tr_adr (by rw [hc] at u5; exact u5)
    exact ⟨fun z => a5 (by rw [← z]; exact hc9), fun z => vc5 (by rw [← z]; exact hc9)⟩) (fun c hc => by
    have hc9 := tr_adr (by rw [hc] at uY; exact uY)
    exact ⟨fun z => nal (by rw [← z]; exact hc9), fun z => cY (by rw [← z]; exact hc9)⟩) za zc (by omega) (by omega) (by omega)) wl_TR_58 wst_TR_turnedLeft wi_TR wco_TR_turnedLeft (by decide +kernel) (by decide) rfl rfl (Nat.le_of_ble_eq_true rfl) (by decide) (by decide) d_TR_balanced_71 (fun E M1 hx => hx.elim) (fun r M6 hp => ?_)
            obtain ⟨rfl, S6⟩ := hp
            have ha6 := tw_ar S6 hv5 hvc5
            have hvb6 := (S6.2.2 b0 (Ne.symm hab) hbc).trans hvb5
            have V : ∀ (L9 : List no_T) (r9 : Option Nat) (h9 : Nat), tr G M5 h9 r9 L9 h9 → a ∉ ad_L L9 → c0 ∉ ad_L L9 → tr G M6 h9 r9 L9 h9 := fun L9 r9 h9 t9 w1 w3 => tr_nd t9 ha6 (fun q hq => S6.2.2 q (fun z => w1 (by rw [← z]; exact hq)) (fun z => w3 (by rw [← z]; exact hq)))
            have wO := V _ _ _ uO a2n cO
            have w5 := V _ _ _ u5 a5 vc5
            have w6 := V _ _ _ u6 a6 vc6
            have wY := V _ _ _ uY nal cY
            have jA : ky G M6 ka e0.1 := by
              obtain ⟨kf, z1, z2⟩ := kA
              exact ⟨kf, ha6 _ _ z1, z2⟩
            have jB : ky G M6 kb xb.1 := by
              obtain ⟨kf, z1, z2⟩ := kB
              exact ⟨kf, ha6 _ _ z1, z2⟩
            have jC : ky G M6 kc0 xc.1 := by
              obtain ⟨kf, z1, z2⟩ := kC
              exact ⟨kf, ha6 _ _ z1, z2⟩
            have hob : ∀ q, q ∉ ad_L (Ll ++ (a, ka, e0) :: ((L5 ++ (c0, kc0, xc) :: L6) ++ (b0, kb, xb) :: L2)) → q ≠ b0 := fun q hq z => hq (by rw [z]; simp [ad_L])
            have hoc : ∀ q, q ∉ ad_L (Ll ++ (a, ka, e0) :: ((L5 ++ (c0, kc0, xc) :: L6) ++ (b0, kb, xb) :: L2)) → q ≠ c0 := fun q hq z => hq (by rw [z]; simp [ad_L])
            have hE : Ll ++ (a, ka, e0) :: ((L5 ++ (c0, kc0, xc) :: L6) ++ (b0, kb, xb) :: L2) = (Ll ++ (a, ka, e0) :: L5) ++ (c0, kc0, xc) :: (L6 ++ (b0, kb, xb) :: L2) := by simp
            have hfin : tr G M6 (max (max h1 g5 + 1) (max g6 g4 + 1) + 1) (some c0) (Ll ++ (a, ka, e0) :: ((L5 ++ (c0, kc0, xc) :: L6) ++ (b0, kb, xb) :: L2)) (max (max h1 g5 + 1) (max g6 g4 + 1) + 1) := by
              rw [hE]
              exact tr_node S6.2.1 jC (tr_node S6.1 jA wY w5 (by omega) (by omega)) (tr_node hvb6 jB w6 wO (by omega) (by omega)) (by omega) (by omega)
            exact j_aret F hr (Or.inl ⟨_, rfl⟩) (Or.inr ⟨_, rfl⟩) (Nat.le_refl _) (Nat.le_refl _) ⟨some c0, _, rfl, hfin, by omega, by omega, fun _ _ => by omega, fun q w hq => ha6 q w (ha5 q w (ha3 q w (ha1 q w hq))), fun q hq => ((S6.2.2 q (out1 q hq) (hoc q hq)).trans (hf5 q (out1 q hq))).trans ((S3.2.2 q (hob q hq) (hoc q hq)).trans (hf1 q (out1 q hq)))⟩ d_TR_balanced_74
  · skip
    have hgt : h1 = h2 + 2 := by
      have : ¬ (nI h1 - nI h2 ≤ 1) := hq1
      rw [Int32.le_iff_toInt_le, hti, c1] at this
      omega
    cases hcx : lc with
    | none =>
      rw [hcx] at tl1
      have := tl1
      cases h1 with
      | zero => omega
      | succ n => exact absurd this.2 (by omega)
    | some b0 =>
      rw [hcx] at tl1 hv1
      obtain ⟨n1, rfl⟩ : ∃ n, h1 = n + 1 := ⟨h1 - 1, by omega⟩
      obtain ⟨kb, xb, l2, r2, L1, L2, g3, g4, hvb, hkb, t3, t4, rfl, hmx, gg1, gg2⟩ := tl1
      have q3 := tr_le _ t3
      have q4 := tr_le _ t4
      have hb0 : b0 ∈ ad_L (L1 ++ (b0, kb, xb) :: L2) := List.mem_map.mpr ⟨(b0, kb, xb), List.mem_append_right _ List.mem_cons_self, rfl⟩
      have zb : G.2.2.1 ≤ b0 := hz b0 (List.mem_append_left _ hb0)
      have hab : a ≠ b0 := fun z => nal (by rw [z]; exact hb0)
      rw [ad_app] at nl nal nlr
      rw [List.nodup_append] at nl
      obtain ⟨m1, m2, m12⟩ := nl
      rw [List.nodup_cons] at m2
      obtain ⟨mb2, m2⟩ := m2
      have mb1 : b0 ∉ ad_L L1 := fun z => m12 b0 z b0 List.mem_cons_self rfl
      have a1n : a ∉ ad_L L1 := fun z => nal (List.mem_append_left _ z)
      have a2n : a ∉ ad_L L2 := fun z => nal (List.mem_append_right _ (List.mem_cons_of_mem _ z))
      have hYb : b0 ∉ ad_L Lr := fun z => nlr b0 (List.mem_append_right _ List.mem_cons_self) b0 (List.mem_cons_of_mem _ z) rfl
      have hti2 : (nI g3 - nI g4).toInt = (g3 : Int) - g4 := pk_sub_toInt (by omega) (by omega)
      refine j_aload_n F d_TR_balanced_18 rfl rfl ?_
      refine j_get F hv1 rfl in_VE 5 (by decide) wf_TR_23 rfl d_TR_balanced_19 ?_
      refine j_callS F 1 (c_TR_leaning hl hvb (tr_hv t3) (tr_hv t4) (by omega) (by omega)) wl_TR_55 wst_TR_leaning wi_TR wco_TR_leaning (by decide +kernel) (by decide) rfl rfl (Nat.le_of_ble_eq_true rfl) (by decide) (by decide) d_TR_balanced_22 (fun E M1 hx => hx.elim) (fun r M1 hp => ?_)
      obtain ⟨rfl, rfl⟩ := hp
      refine j_if_ge F (tgt := 39) d_TR_balanced_25 (by decide) (fun hq3 => ?_) (fun hq3 => ?_)
      · skip
        have hge : g4 ≤ g3 := by
          rw [Int32.le_iff_toInt_le, hti2] at hq3
          have : (0 : Int32).toInt = 0 := by decide
          omega
        refine j_aload_n F d_TR_balanced_39 rfl rfl ?_
        refine j_callS F 1 (c_TR_turnedRight hl hv1 hvb (tr_hv t3) (tr_hv t4) (tr_hv tr1) hab (fun c hc => by
    have hc9 := tr_adr (by rw [hc] at t3; exact t3)
    exact ⟨fun z => a1n (by rw [← z]; exact hc9), fun z => mb1 (by rw [← z]; exact hc9)⟩) (fun c hc => by
    have hc9 := tr_adr (by rw [hc] at t4; exact t4)
    exact ⟨fun z => a2n (by rw [← z]; exact hc9), fun z => mb2 (by rw [← z]; exact hc9)⟩) (fun c hc => by
    have hc9 := tr_adr (by rw [hc] at tr1; exact tr1)
    exact ⟨fun z => nar (by rw [← z]; exact hc9), fun z => hYb (by rw [← z]; exact hc9)⟩) za zb (by omega) (by omega) (by omega)) wl_TR_61 wst_TR_turnedRight wi_TR wco_TR_turnedRight (by decide +kernel) (by decide) rfl rfl (Nat.le_of_ble_eq_true rfl) (by decide) (by decide) d_TR_balanced_40 (fun E M1 hx => hx.elim) (fun r M4 hp => ?_)
        obtain ⟨rfl, S4⟩ := hp
        have ha4 := tw_ar S4 hv1 hvb
        have ka4 : ky G M4 ka e0.1 := by
          obtain ⟨kf, w1, w2⟩ := hky1
          exact ⟨kf, ha4 _ _ w1, w2⟩
        have kb4 : ky G M4 kb xb.1 := by
          obtain ⟨kf, w1, w2⟩ := hkb
          exact ⟨kf, ha4 _ _ w1, w2⟩
        have tO4 := tr_nd t3 ha4 (fun q hq => S4.2.2 q (fun z => a1n (by rw [← z]; exact hq)) (fun z => mb1 (by rw [← z]; exact hq)))
        have tI4 := tr_nd t4 ha4 (fun q hq => S4.2.2 q (fun z => a2n (by rw [← z]; exact hq)) (fun z => mb2 (by rw [← z]; exact hq)))
        have tY4 := tr_nd tr1 ha4 (fun q hq => S4.2.2 q (fun z => nar (by rw [← z]; exact hq)) (fun z => hYb (by rw [← z]; exact hq)))
        have hout : ∀ q, q ∉ ad_L ((L1 ++ (b0, kb, xb) :: L2) ++ (a, ka, e0) :: Lr) → q ≠ b0 := fun q hq z => hq (by rw [z]; simp [ad_L])
        have hE : (L1 ++ (b0, kb, xb) :: L2) ++ (a, ka, e0) :: Lr = L1 ++ (b0, kb, xb) :: (L2 ++ (a, ka, e0) :: Lr) := by simp
        have hfin : tr G M4 (max g3 (max g4 h2 + 1) + 1) (some b0) ((L1 ++ (b0, kb, xb) :: L2) ++ (a, ka, e0) :: Lr) (max g3 (max g4 h2 + 1) + 1) := by
          rw [hE]
          exact tr_node S4.2.1 kb4 (tr_fuel _ tO4 (Nat.le_refl _)) (tr_node S4.1 ka4 (tr_fuel _ tI4 (Nat.le_refl _)) (tr_fuel _ tY4 (Nat.le_refl _)) (by omega) (by omega)) (by omega) (by omega)
        exact j_aret F hr (Or.inl ⟨_, rfl⟩) (Or.inr ⟨_, rfl⟩) (Nat.le_refl _) (Nat.le_refl _) ⟨some b0, _, rfl, hfin, by omega, by omega, fun _ _ => by omega, fun q w hq => ha4 q w (ha1 q w hq), fun q hq => (S4.2.2 q (out1 q hq) (hout q hq)).trans (hf1 q (out1 q hq))⟩ d_TR_balanced_43
      · skip
        have hlt : g3 < g4 := by
          have : ¬ (0 ≤ nI g3 - nI g4) := hq3
          rw [Int32.le_iff_toInt_le, hti2] at this
          have : (0 : Int32).toInt = 0 := by decide
          omega
        cases hci : r2 with
        | none =>
          rw [hci] at t4
          exfalso
          have hz0 : g4 = 0 := by
            have h9 := t4
            cases n1 <;> exact h9.2
          omega
        | some c0 =>
          rw [hci] at t4 hvb
          obtain ⟨n2, hn2⟩ : ∃ n, n1 = n + 1 := ⟨n1 - 1, by omega⟩
          rw [hn2] at t4
          obtain ⟨kc0, xc, l5, r5, L5, L6, g5, g6, hvc, hkc, t5, t6, hL5, hmx2, gh1, gh2⟩ := t4
          subst hL5
          have q5 := tr_le _ t5
          have q6 := tr_le _ t6
          have hc0 : c0 ∈ ad_L (L5 ++ (c0, kc0, xc) :: L6) := List.mem_map.mpr ⟨(c0, kc0, xc), List.mem_append_right _ List.mem_cons_self, rfl⟩
          have zc : G.2.2.1 ≤ c0 := hz c0 (by refine List.mem_append_left _ ?_; rw [ad_app]; exact List.mem_append_right _ (List.mem_cons_of_mem _ hc0))
          have hac : a ≠ c0 := fun z => a2n (by rw [z]; exact hc0)
          have hbc : b0 ≠ c0 := fun z => mb2 (by rw [z]; exact hc0)
          have cO : c0 ∉ ad_L L1 := fun z => m12 c0 z c0 (List.mem_cons_of_mem _ hc0) rfl
          have cY : c0 ∉ ad_L Lr := fun z => nlr c0 (List.mem_append_right _ (List.mem_cons_of_mem _ hc0)) c0 (List.mem_cons_of_mem _ z) rfl
          rw [ad_app] at m2 mb2 a2n
          rw [List.nodup_append] at m2
          obtain ⟨v5, v6, v56⟩ := m2
          rw [List.nodup_cons] at v6
          obtain ⟨vc6, v6⟩ := v6
          have vc5 : c0 ∉ ad_L L5 := fun z => v56 c0 z c0 List.mem_cons_self rfl
          have a5 : a ∉ ad_L L5 := fun z => a2n (List.mem_append_left _ z)
          have a6 : a ∉ ad_L L6 := fun z => a2n (List.mem_append_right _ (List.mem_cons_of_mem _ z))
          have bb5 : b0 ∉ ad_L L5 := fun z => mb2 (List.mem_append_left _ z)
          have bb6 : b0 ∉ ad_L L6 := fun z => mb2 (List.mem_append_right _ (List.mem_cons_of_mem _ z))
          refine j_aload_n F d_TR_balanced_28 rfl rfl ?_
          refine j_aload_n F d_TR_balanced_29 rfl rfl ?_
          refine j_get F hv1 rfl in_VE 5 (by decide) wf_TR_23 rfl d_TR_balanced_30 ?_
          refine j_callS F 1 (c_TR_turnedLeft hl hvb hvc (tr_hv t6) (tr_hv t5) (tr_hv t3) hbc (fun c hc => by
    have hc9 := tr_adr (by rw [hc] at t6; exact t6)
    exact ⟨fun z => bb6 (by rw [← z]; exact hc9), fun z => vc6 (by rw [← z]; exact hc9)⟩) (fun c hc => by
    have hc9 := tr_adr (by rw [hc] at t5; exact t5)
    exact ⟨fun z => bb5 (by rw [← z]; exact hc9), fun z => vc5 (by rw [← z]; exact hc9)⟩) (fun c hc => by
    have hc9 := tr_adr (by rw [hc] at t3; exact t3)
    exact ⟨fun z => mb1 (by rw [← z]; exact hc9), fun z => cO (by rw [← z]; exact hc9)⟩) zb zc (by omega) (by omega) (by omega)) wl_TR_58 wst_TR_turnedLeft wi_TR wco_TR_turnedLeft (by decide +kernel) (by decide) rfl rfl (Nat.le_of_ble_eq_true rfl) (by decide) (by decide) d_TR_balanced_33 (fun E M1 hx => hx.elim) (fun r M3 hp => ?_)
          obtain ⟨rfl, S3⟩ := hp
          have ha3 := tw_ar S3 hvb hvc
          have hv3 := (S3.2.2 a hab hac).trans hv1
          refine j_put F hv3 za rfl in_VE ty_VE ok_VE nm_VE 5 (by decide) wf_TR_23 rfl (ty := .object "MomentTree$Version") (by decide +kernel) rfl rfl (Nat.le_of_ble_eq_true rfl) d_TR_balanced_36 ?_
          refine j_nmW (P := fun M5 => M5 a = some (vE ka e0 (nI (max (n1 + 1) h2 + 1)) (some c0) rc) ∧ ∀ q, q ≠ a → M5 q = M3 q) ⟨mp_Us _ _ _, fun q hq => mp_Un hq⟩ (fun M5 S5 => ?_)
          obtain ⟨hv5, hf5⟩ := S5
          have ha5 : ar_K M3 M5 := fun q w hq => (hf5 q (fun z => by rw [z, hv3] at hq; cases hq)).trans hq
          have hvb5 := (hf5 b0 (Ne.symm hab)).trans S3.1
          have hvc5 := (hf5 c0 (Ne.symm hac)).trans S3.2.1
          have T : ∀ (L9 : List no_T) (r9 : Option Nat) (h9 : Nat), tr G M1 h9 r9 L9 h9 → a ∉ ad_L L9 → b0 ∉ ad_L L9 → c0 ∉ ad_L L9 → tr G M5 h9 r9 L9 h9 := fun L9 r9 h9 t9 w1 w2 w3 => tr_nd (tr_nd t9 ha3 (fun q hq => S3.2.2 q (fun z => w2 (by rw [← z]; exact hq)) (fun z => w3 (by rw [← z]; exact hq)))) ha5 (fun q hq => hf5 q (fun z => w1 (by rw [← z]; exact hq)))
          have uO := T L1 l2 g3 (tr_fuel _ t3 (Nat.le_refl _)) a1n mb1 cO
          have u5 := T L5 l5 g5 (tr_fuel _ t5 (Nat.le_refl _)) a5 bb5 vc5
          have u6 := T L6 r5 g6 (tr_fuel _ t6 (Nat.le_refl _)) a6 bb6 vc6
          have uY := T Lr rc h2 (tr_fuel _ tr1 (Nat.le_refl _)) nar hYb cY
          have kA : ky G M5 ka e0.1 := by
            obtain ⟨kf, w1, w2⟩ := hky1
            exact ⟨kf, ha5 _ _ (ha3 _ _ w1), w2⟩
          have kB : ky G M5 kb xb.1 := by
            obtain ⟨kf, w1, w2⟩ := hkb
            exact ⟨kf, ha5 _ _ (ha3 _ _ w1), w2⟩
          have kC : ky G M5 kc0 xc.1 := by
            obtain ⟨kf, w1, w2⟩ := hkc
            exact ⟨kf, ha5 _ _ (ha3 _ _ w1), w2⟩
          refine j_aload_n F d_TR_balanced_39 rfl rfl ?_
          refine j_callS F 1 (c_TR_turnedRight hl hv5 hvc5 (Or.inr ⟨b0, _, _, _, _, rfl, hvb5⟩) (tr_hv u6) (tr_hv uY) hac (fun c hc => by cases hc; exact ⟨Ne.symm hab, hbc⟩) (fun c hc => by
    have hc9 := tr_adr (by rw [hc] at u6; exact u6)
    exact ⟨fun z => a6 (by rw [← z]; exact hc9), fun z => vc6 (by rw [← z]; exact hc9)⟩) (fun c hc => by
    have hc9 := tr_adr (by rw [hc] at uY; exact uY)
    exact ⟨fun z => nar (by rw [← z]; exact hc9), fun z => cY (by rw [← z]; exact hc9)⟩) za zc (by omega) (by omega) (by omega)) wl_TR_61 wst_TR_turnedRight wi_TR wco_TR_turnedRight (by decide +kernel) (by decide) rfl rfl (Nat.le_of_ble_eq_true rfl) (by decide) (by decide) d_TR_balanced_40 (fun E M1 hx => hx.elim) (fun r M6 hp => ?_)
          obtain ⟨rfl, S6⟩ := hp
          have ha6 := tw_ar S6 hv5 hvc5
          have hvb6 := (S6.2.2 b0 (Ne.symm hab) hbc).trans hvb5
          have V : ∀ (L9 : List no_T) (r9 : Option Nat) (h9 : Nat), tr G M5 h9 r9 L9 h9 → a ∉ ad_L L9 → c0 ∉ ad_L L9 → tr G M6 h9 r9 L9 h9 := fun L9 r9 h9 t9 w1 w3 => tr_nd t9 ha6 (fun q hq => S6.2.2 q (fun z => w1 (by rw [← z]; exact hq)) (fun z => w3 (by rw [← z]; exact hq)))
          have wO := V _ _ _ uO a1n cO
          have w5 := V _ _ _ u5 a5 vc5
          have w6 := V _ _ _ u6 a6 vc6
          have wY := V _ _ _ uY nar cY
          have jA : ky G M6 ka e0.1 := by
            obtain ⟨kf, z1, z2⟩ := kA
            exact ⟨kf, ha6 _ _ z1, z2⟩
          have jB : ky G M6 kb xb.1 := by
            obtain ⟨kf, z1, z2⟩ := kB
            exact ⟨kf, ha6 _ _ z1, z2⟩
          have jC : ky G M6 kc0 xc.1 := by
            obtain ⟨kf, z1, z2⟩ := kC
            exact ⟨kf, ha6 _ _ z1, z2⟩
          have hob : ∀ q, q ∉ ad_L ((L1 ++ (b0, kb, xb) :: (L5 ++ (c0, kc0, xc) :: L6)) ++ (a, ka, e0) :: Lr) → q ≠ b0 := fun q hq z => hq (by rw [z]; simp [ad_L])
          have hoc : ∀ q, q ∉ ad_L ((L1 ++ (b0, kb, xb) :: (L5 ++ (c0, kc0, xc) :: L6)) ++ (a, ka, e0) :: Lr) → q ≠ c0 := fun q hq z => hq (by rw [z]; simp [ad_L])
          have hE : (L1 ++ (b0, kb, xb) :: (L5 ++ (c0, kc0, xc) :: L6)) ++ (a, ka, e0) :: Lr = (L1 ++ (b0, kb, xb) :: L5) ++ (c0, kc0, xc) :: (L6 ++ (a, ka, e0) :: Lr) := by simp
          have hfin : tr G M6 (max (max g3 g5 + 1) (max g6 h2 + 1) + 1) (some c0) ((L1 ++ (b0, kb, xb) :: (L5 ++ (c0, kc0, xc) :: L6)) ++ (a, ka, e0) :: Lr) (max (max g3 g5 + 1) (max g6 h2 + 1) + 1) := by
            rw [hE]
            exact tr_node S6.2.1 jC (tr_node hvb6 jB wO w5 (by omega) (by omega)) (tr_node S6.1 jA w6 wY (by omega) (by omega)) (by omega) (by omega)
          exact j_aret F hr (Or.inl ⟨_, rfl⟩) (Or.inr ⟨_, rfl⟩) (Nat.le_refl _) (Nat.le_refl _) ⟨some c0, _, rfl, hfin, by omega, by omega, fun _ _ => by omega, fun q w hq => ha6 q w (ha5 q w (ha3 q w (ha1 q w hq))), fun q hq => ((S6.2.2 q (out1 q hq) (hoc q hq)).trans (hf5 q (out1 q hq))).trans ((S3.2.2 q (hob q hq) (hoc q hq)).trans (hf1 q (out1 q hq)))⟩ d_TR_balanced_43
end RO1
