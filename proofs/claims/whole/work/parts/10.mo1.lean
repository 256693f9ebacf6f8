/-! ===== the reference: its cells ===== -/
def mo_S (G : gv_T) (M : mp_T) (h ta ke le mo pl si : Nat) (fa tl sz ap : Int32) (tf kf lf mf pf sf : Nat → Int32) : Prop :=
  M h = some (.inr (3, [.int fa, .ref ta, .int tl, .ref ke, .ref le, .ref mo, .ref pl, .ref si, .int sz, .int ap])) ∧ M ta = some (.inl (G.2.1.1, 60, .inl tf)) ∧ M ke = some (.inl (G.2.1.1, 6440, .inl kf)) ∧ M le = some (.inl (G.2.1.2.1, 161, .inl lf)) ∧ M mo = some (.inl (G.2.1.2.1, 161, .inl mf)) ∧ M pl = some (.inl (G.2.1.2.1, 161, .inl pf)) ∧ M si = some (.inl (G.2.1.2.1, 161, .inl sf)) ∧ (∀ q ∈ [h, ta, ke, le, mo, pl, si], G.2.2.1 ≤ q) ∧ [h, ta, ke, le, mo, pl, si].Nodup
/-- .. and nothing else differs from M0 -/
def mo_W (G : gv_T) (M0 M : mp_T) (h ta ke le mo pl si : Nat) (fa tl sz ap : Int32) (tf kf lf mf pf sf : Nat → Int32) : Prop := mo_S G M h ta ke le mo pl si fa tl sz ap tf kf lf mf pf sf ∧ ∀ q, q ∉ [h, ta, ke, le, mo, pl, si] → M q = M0 q
section MO1
variable {l : Launch} {G : gv_T} {M M0 : mp_T} {h ta ke le mo pl si : Nat} {fa tl sz ap : Int32} {tf kf lf mf pf sf : Nat → Int32}
theorem so_h (S : mo_S G M h ta ke le mo pl si fa tl sz ap tf kf lf mf pf sf) : M h = some (.inr (3, [.int fa, .ref ta, .int tl, .ref ke, .ref le, .ref mo, .ref pl, .ref si, .int sz, .int ap])) := S.1
theorem so_ta (S : mo_S G M h ta ke le mo pl si fa tl sz ap tf kf lf mf pf sf) : M ta = some (.inl (G.2.1.1, 60, .inl tf)) := S.2.1
theorem so_ke (S : mo_S G M h ta ke le mo pl si fa tl sz ap tf kf lf mf pf sf) : M ke = some (.inl (G.2.1.1, 6440, .inl kf)) := S.2.2.1
theorem so_le (S : mo_S G M h ta ke le mo pl si fa tl sz ap tf kf lf mf pf sf) : M le = some (.inl (G.2.1.2.1, 161, .inl lf)) := S.2.2.2.1
theorem so_mo (S : mo_S G M h ta ke le mo pl si fa tl sz ap tf kf lf mf pf sf) : M mo = some (.inl (G.2.1.2.1, 161, .inl mf)) := S.2.2.2.2.1
theorem so_pl (S : mo_S G M h ta ke le mo pl si fa tl sz ap tf kf lf mf pf sf) : M pl = some (.inl (G.2.1.2.1, 161, .inl pf)) := S.2.2.2.2.2.1
theorem so_si (S : mo_S G M h ta ke le mo pl si fa tl sz ap tf kf lf mf pf sf) : M si = some (.inl (G.2.1.2.1, 161, .inl sf)) := S.2.2.2.2.2.2.1
theorem so_z (S : mo_S G M h ta ke le mo pl si fa tl sz ap tf kf lf mf pf sf) : ∀ q ∈ [h, ta, ke, le, mo, pl, si], G.2.2.1 ≤ q := S.2.2.2.2.2.2.2.1
theorem sz_h (S : mo_S G M h ta ke le mo pl si fa tl sz ap tf kf lf mf pf sf) : G.2.2.1 ≤ h := so_z S h (by simp)
theorem sz_ta (S : mo_S G M h ta ke le mo pl si fa tl sz ap tf kf lf mf pf sf) : G.2.2.1 ≤ ta := so_z S ta (by simp)
theorem sz_ke (S : mo_S G M h ta ke le mo pl si fa tl sz ap tf kf lf mf pf sf) : G.2.2.1 ≤ ke := so_z S ke (by simp)
theorem sz_le (S : mo_S G M h ta ke le mo pl si fa tl sz ap tf kf lf mf pf sf) : G.2.2.1 ≤ le := so_z S le (by simp)
theorem sz_mo (S : mo_S G M h ta ke le mo pl si fa tl sz ap tf kf lf mf pf sf) : G.2.2.1 ≤ mo := so_z S mo (by simp)
theorem sz_pl (S : mo_S G M h ta ke le mo pl si fa tl sz ap tf kf lf mf pf sf) : G.2.2.1 ≤ pl := so_z S pl (by simp)
theorem sz_si (S : mo_S G M h ta ke le mo pl si fa tl sz ap tf kf lf mf pf sf) : G.2.2.1 ≤ si := so_z S si (by simp)
theorem mo_rf (S : mo_S G M h ta ke le mo pl si fa tl sz ap tf kf lf mf pf sf) : mo_W G M M h ta ke le mo pl si fa tl sz ap tf kf lf mf pf sf := ⟨S, fun _ _ => rfl⟩
theorem mw_fa (S : mo_W G M0 M h ta ke le mo pl si fa tl sz ap tf kf lf mf pf sf) (x : Int32) : mo_W G M0 (mp_U M h (.inr (3, [.int x, .ref ta, .int tl, .ref ke, .ref le, .ref mo, .ref pl, .ref si, .int sz, .int ap]))) h ta ke le mo pl si x tl sz ap tf kf lf mf pf sf := by
  obtain ⟨⟨s0, s1, s2, s3, s4, s5, s6, hz, nd⟩, fr⟩ := S
  have nd1 := nd
  simp only [List.nodup_cons, List.mem_cons, not_or, List.not_mem_nil, or_false, not_false_eq_true, and_true, List.nodup_nil] at nd1
  obtain ⟨⟨n01, n02, n03, n04, n05, n06⟩, ⟨n12, n13, n14, n15, n16⟩, ⟨n23, n24, n25, n26⟩, ⟨n34, n35, n36⟩, ⟨n45, n46⟩, n56⟩ := nd1
  exact ⟨⟨mp_Us _ _ _, (mp_Un (Ne.symm n01)).trans s1, (mp_Un (Ne.symm n02)).trans s2, (mp_Un (Ne.symm n03)).trans s3, (mp_Un (Ne.symm n04)).trans s4, (mp_Un (Ne.symm n05)).trans s5, (mp_Un (Ne.symm n06)).trans s6, hz, nd⟩, fun q hq => (mp_Un (fun e => hq (by rw [e]; simp))).trans (fr q hq)⟩
theorem mw_tl (S : mo_W G M0 M h ta ke le mo pl si fa tl sz ap tf kf lf mf pf sf) (x : Int32) : mo_W G M0 (mp_U M h (.inr (3, [.int fa, .ref ta, .int x, .ref ke, .ref le, .ref mo, .ref pl, .ref si, .int sz, .int ap]))) h ta ke le mo pl si fa x sz ap tf kf lf mf pf sf := by
  obtain ⟨⟨s0, s1, s2, s3, s4, s5, s6, hz, nd⟩, fr⟩ := S
  have nd1 := nd
  simp only [List.nodup_cons, List.mem_cons, not_or, List.not_mem_nil, or_false, not_false_eq_true, and_true, List.nodup_nil] at nd1
  obtain ⟨⟨n01, n02, n03, n04, n05, n06⟩, ⟨n12, n13, n14, n15, n16⟩, ⟨n23, n24, n25, n26⟩, ⟨n34, n35, n36⟩, ⟨n45, n46⟩, n56⟩ := nd1
  exact ⟨⟨mp_Us _ _ _, (mp_Un (Ne.symm n01)).trans s1, (mp_Un (Ne.symm n02)).trans s2, (mp_Un (Ne.symm n03)).trans s3, (mp_Un (Ne.symm n04)).trans s4, (mp_Un (Ne.symm n05)).trans s5, (mp_Un (Ne.symm n06)).trans s6, hz, nd⟩, fun q hq => (mp_Un (fun e => hq (by rw [e]; simp))).trans (fr q hq)⟩
theorem mw_sz (S : mo_W G M0 M h ta ke le mo pl si fa tl sz ap tf kf lf mf pf sf) (x : Int32) : mo_W G M0 (mp_U M h (.inr (3, [.int fa, .ref ta, .int tl, .ref ke, .ref le, .ref mo, .ref pl, .ref si, .int x, .int ap]))) h ta ke le mo pl si fa tl x ap tf kf lf mf pf sf := by
  obtain ⟨⟨s0, s1, s2, s3, s4, s5, s6, hz, nd⟩, fr⟩ := S
  have nd1 := nd
  simp only [List.nodup_cons, List.mem_cons, not_or, List.not_mem_nil, or_false, not_false_eq_true, and_true, List.nodup_nil] at nd1
  obtain ⟨⟨n01, n02, n03, n04, n05, n06⟩, ⟨n12, n13, n14, n15, n16⟩, ⟨n23, n24, n25, n26⟩, ⟨n34, n35, n36⟩, ⟨n45, n46⟩, n56⟩ := nd1
  exact ⟨⟨mp_Us _ _ _, (mp_Un (Ne.symm n01)).trans s1, (mp_Un (Ne.symm n02)).trans s2, (mp_Un (Ne.symm n03)).trans s3, (mp_Un (Ne.symm n04)).trans s4, (mp_Un (Ne.symm n05)).trans s5, (mp_Un (Ne.symm n06)).trans s6, hz, nd⟩, fun q hq => (mp_Un (fun e => hq (by rw [e]; simp))).trans (fr q hq)⟩
theorem mw_ap (S : mo_W G M0 M h ta ke le mo pl si fa tl sz ap tf kf lf mf pf sf) (x : Int32) : mo_W G M0 (mp_U M h (.inr (3, [.int fa, .ref ta, .int tl, .ref ke, .ref le, .ref mo, .ref pl, .ref si, .int sz, .int x]))) h ta ke le mo pl si fa tl sz x tf kf lf mf pf sf := by
  obtain ⟨⟨s0, s1, s2, s3, s4, s5, s6, hz, nd⟩, fr⟩ := S
  have nd1 := nd
  simp only [List.nodup_cons, List.mem_cons, not_or, List.not_mem_nil, or_false, not_false_eq_true, and_true, List.nodup_nil] at nd1
  obtain ⟨⟨n01, n02, n03, n04, n05, n06⟩, ⟨n12, n13, n14, n15, n16⟩, ⟨n23, n24, n25, n26⟩, ⟨n34, n35, n36⟩, ⟨n45, n46⟩, n56⟩ := nd1
  exact ⟨⟨mp_Us _ _ _, (mp_Un (Ne.symm n01)).trans s1, (mp_Un (Ne.symm n02)).trans s2, (mp_Un (Ne.symm n03)).trans s3, (mp_Un (Ne.symm n04)).trans s4, (mp_Un (Ne.symm n05)).trans s5, (mp_Un (Ne.symm n06)).trans s6, hz, nd⟩, fun q hq => (mp_Un (fun e => hq (by rw [e]; simp))).trans (fr q hq)⟩
theorem mw_tf (S : mo_W G M0 M h ta ke le mo pl si fa tl sz ap tf kf lf mf pf sf) (x : Nat → Int32) : mo_W G M0 (mp_U M ta (.inl (G.2.1.1, 60, .inl x))) h ta ke le mo pl si fa tl sz ap x kf lf mf pf sf := by
  obtain ⟨⟨s0, s1, s2, s3, s4, s5, s6, hz, nd⟩, fr⟩ := S
  have nd1 := nd
  simp only [List.nodup_cons, List.mem_cons, not_or, List.not_mem_nil, or_false, not_false_eq_true, and_true, List.nodup_nil] at nd1
  obtain ⟨⟨n01, n02, n03, n04, n05, n06⟩, ⟨n12, n13, n14, n15, n16⟩, ⟨n23, n24, n25, n26⟩, ⟨n34, n35, n36⟩, ⟨n45, n46⟩, n56⟩ := nd1
  exact ⟨⟨(mp_Un n01).trans s0, mp_Us _ _ _, (mp_Un (Ne.symm n12)).trans s2, (mp_Un (Ne.symm n13)).trans s3, (mp_Un (Ne.symm n14)).trans s4, (mp_Un (Ne.symm n15)).trans s5, (mp_Un (Ne.symm n16)).trans s6, hz, nd⟩, fun q hq => (mp_Un (fun e => hq (by rw [e]; simp))).trans (fr q hq)⟩
theorem mw_kf (S : mo_W G M0 M h ta ke le mo pl si fa tl sz ap tf kf lf mf pf sf) (x : Nat → Int32) : mo_W G M0 (mp_U M ke (.inl (G.2.1.1, 6440, .inl x))) h ta ke le mo pl si fa tl sz ap tf x lf mf pf sf := by
  obtain ⟨⟨s0, s1, s2, s3, s4, s5, s6, hz, nd⟩, fr⟩ := S
  have nd1 := nd
  simp only [List.nodup_cons, List.mem_cons, not_or, List.not_mem_nil, or_false, not_false_eq_true, and_true, List.nodup_nil] at nd1
  obtain ⟨⟨n01, n02, n03, n04, n05, n06⟩, ⟨n12, n13, n14, n15, n16⟩, ⟨n23, n24, n25, n26⟩, ⟨n34, n35, n36⟩, ⟨n45, n46⟩, n56⟩ := nd1
  exact ⟨⟨(mp_Un n02).trans s0, (mp_Un n12).trans s1, mp_Us _ _ _, (mp_Un (Ne.symm n23)).trans s3, (mp_Un (Ne.symm n24)).trans s4, (mp_Un (Ne.symm n25)).trans s5, (mp_Un (Ne.symm n26)).trans s6, hz, nd⟩, fun q hq => (mp_Un (fun e => hq (by rw [e]; simp))).trans (fr q hq)⟩
theorem mw_lf (S : mo_W G M0 M h ta ke le mo pl si fa tl sz ap tf kf lf mf pf sf) (x : Nat → Int32) : mo_W G M0 (mp_U M le (.inl (G.2.1.2.1, 161, .inl x))) h ta ke le mo pl si fa tl sz ap tf kf x mf pf sf := by
  obtain ⟨⟨s0, s1, s2, s3, s4, s5, s6, hz, nd⟩, fr⟩ := S
  have nd1 := nd
  simp only [List.nodup_cons, List.mem_cons, not_or, List.not_mem_nil, or_false, not_false_eq_true, and_true, List.nodup_nil] at nd1
  obtain ⟨⟨n01, n02, n03, n04, n05, n06⟩, ⟨n12, n13, n14, n15, n16⟩, ⟨n23, n24, n25, n26⟩, ⟨n34, n35, n36⟩, ⟨n45, n46⟩, n56⟩ := nd1
  exact ⟨⟨(mp_Un n03).trans s0, (mp_Un n13).trans s1, (mp_Un n23).trans s2, mp_Us _ _ _, (mp_Un (Ne.symm n34)).trans s4, (mp_Un (Ne.symm n35)).trans s5, (mp_Un (Ne.symm n36)).trans s6, hz, nd⟩, fun q hq => (mp_Un (fun e => hq (by rw [e]; simp))).trans (fr q hq)⟩
theorem mw_mf (S : mo_W G M0 M h ta ke le mo pl si fa tl sz ap tf kf lf mf pf sf) (x : Nat → Int32) : mo_W G M0 (mp_U M mo (.inl (G.2.1.2.1, 161, .inl x))) h ta ke le mo pl si fa tl sz ap tf kf lf x pf sf := by
  obtain ⟨⟨s0, s1, s2, s3, s4, s5, s6, hz, nd⟩, fr⟩ := S
  have nd1 := nd
  simp only [List.nodup_cons, List.mem_cons, not_or, List.not_mem_nil, or_false, not_false_eq_true, and_true, List.nodup_nil] at nd1
  obtain ⟨⟨n01, n02, n03, n04, n05, n06⟩, ⟨n12, n13, n14, n15, n16⟩, ⟨n23, n24, n25, n26⟩, ⟨n34, n35, n36⟩, ⟨n45, n46⟩, n56⟩ := nd1
  exact ⟨⟨(mp_Un n04).trans s0, (mp_Un n14).trans s1, (mp_Un n24).trans s2, (mp_Un n34).trans s3, mp_Us _ _ _, (mp_Un (Ne.symm n45)).trans s5, (mp_Un (Ne.symm n46)).trans s6, hz, nd⟩, fun q hq => (mp_Un (fun e => hq (by rw [e]; simp))).trans (fr q hq)⟩
theorem mw_pf (S : mo_W G M0 M h ta ke le mo pl si fa tl sz ap tf kf lf mf pf sf) (x : Nat → Int32) : mo_W G M0 (mp_U M pl (.inl (G.2.1.2.1, 161, .inl x))) h ta ke le mo pl si fa tl sz ap tf kf lf mf x sf := by
  obtain ⟨⟨s0, s1, s2, s3, s4, s5, s6, hz, nd⟩, fr⟩ := S
  have nd1 := nd
  simp only [List.nodup_cons, List.mem_cons, not_or, List.not_mem_nil, or_false, not_false_eq_true, and_true, List.nodup_nil] at nd1
  obtain ⟨⟨n01, n02, n03, n04, n05, n06⟩, ⟨n12, n13, n14, n15, n16⟩, ⟨n23, n24, n25, n26⟩, ⟨n34, n35, n36⟩, ⟨n45, n46⟩, n56⟩ := nd1
  exact ⟨⟨(mp_Un n05).trans s0, (mp_Un n15).trans s1, (mp_Un n25).trans s2, (mp_Un n35).trans s3, (mp_Un n45).trans s4, mp_Us _ _ _, (mp_Un (Ne.symm n56)).trans s6, hz, nd⟩, fun q hq => (mp_Un (fun e => hq (by rw [e]; simp))).trans (fr q hq)⟩
theorem mw_sf (S : mo_W G M0 M h ta ke le mo pl si fa tl sz ap tf kf lf mf pf sf) (x : Nat → Int32) : mo_W G M0 (mp_U M si (.inl (G.2.1.2.1, 161, .inl x))) h ta ke le mo pl si fa tl sz ap tf kf lf mf pf x := by
  obtain ⟨⟨s0, s1, s2, s3, s4, s5, s6, hz, nd⟩, fr⟩ := S
  have nd1 := nd
  simp only [List.nodup_cons, List.mem_cons, not_or, List.not_mem_nil, or_false, not_false_eq_true, and_true, List.nodup_nil] at nd1
  obtain ⟨⟨n01, n02, n03, n04, n05, n06⟩, ⟨n12, n13, n14, n15, n16⟩, ⟨n23, n24, n25, n26⟩, ⟨n34, n35, n36⟩, ⟨n45, n46⟩, n56⟩ := nd1
  exact ⟨⟨(mp_Un n06).trans s0, (mp_Un n16).trans s1, (mp_Un n26).trans s2, (mp_Un n36).trans s3, (mp_Un n46).trans s4, (mp_Un n56).trans s5, mp_Us _ _ _, hz, nd⟩, fun q hq => (mp_Un (fun e => hq (by rw [e]; simp))).trans (fr q hq)⟩
set_option maxHeartbeats 4000000 in
set_option maxRecDepth 100000 in
theorem c_MO_thrown (hl : l.stackTraces = false) (S : mo_S G M h ta ke le mo pl si fa tl sz ap tf kf lf mf pf sf) : ct_C l G y_MO_thrown b_MO_thrown 1 (some .int) { frames := 0, cells := 0, slots := 0, locals := 0 } [.ref h] M (fun v M1 => v = some (.int fa) ∧ M = M1) (fun _ _ => False) := by
  refine ct_of hl (by decide +kernel) (Nat.le_of_ble_eq_true rfl) ?_
  intro p e s m args below meth c F hr hnm
  refine j_aload_n F d_MO_thrown_0 rfl rfl ?_
  refine j_get F (so_h S) rfl in_MO 0 (by decide) wf_MO_33 rfl d_MO_thrown_1 ?_
  exact j_iret F hr (Nat.le_refl _) (Nat.le_refl _) ⟨rfl, rfl⟩ d_MO_thrown_4
set_option maxHeartbeats 4000000 in
set_option maxRecDepth 100000 in
theorem c_MO_fail (hl : l.stackTraces = false) (S : mo_S G M h ta ke le mo pl si fa tl sz ap tf kf lf mf pf sf) (cd : Int32) : ct_C l G y_MO_fail b_MO_fail 2 (some .int) { frames := 0, cells := 0, slots := 0, locals := 0 } [.ref h, .int cd] M (fun v M1 => v = some (.int 0) ∧ mo_W G M M1 h ta ke le mo pl si cd tl sz ap tf kf lf mf pf sf) (fun _ _ => False) := by
  refine ct_of hl (by decide +kernel) (Nat.le_of_ble_eq_true rfl) ?_
  intro p e s m args below meth c F hr hnm
  refine j_aload_n F d_MO_fail_0 rfl rfl ?_
  refine j_iload_n F d_MO_fail_1 rfl rfl ?_
  refine j_put F (so_h S) (sz_h S) rfl in_MO ty_MO ok_MO nm_MO 0 (by decide) wf_MO_33 rfl (ty := .int) (by decide +kernel) rfl rfl (Nat.le_of_ble_eq_true rfl) d_MO_fail_2 ?_
  refine j_nmW (P := fun M1 => mo_W G M M1 h ta ke le mo pl si cd tl sz ap tf kf lf mf pf sf) (mw_fa (mo_rf S) cd) (fun M1 S1 => ?_)
  refine j_iconst F (v := 0) d_MO_fail_5 (by decide) ?_
  exact j_iret F hr (Nat.le_refl _) (Nat.le_refl _) ⟨rfl, S1⟩ d_MO_fail_6
set_option maxHeartbeats 4000000 in
set_option maxRecDepth 100000 in
theorem c_MO_count (hl : l.stackTraces = false) (S : mo_S G M h ta ke le mo pl si fa tl sz ap tf kf lf mf pf sf) : ct_C l G y_MO_count b_MO_count 1 (some .int) { frames := 0, cells := 0, slots := 0, locals := 0 } [.ref h] M (fun v M1 => v = some (.int sz) ∧ mo_W G M M1 h ta ke le mo pl si 0 tl sz ap tf kf lf mf pf sf) (fun _ _ => False) := by
  refine ct_of hl (by decide +kernel) (Nat.le_of_ble_eq_true rfl) ?_
  intro p e s m args below meth c F hr hnm
  refine j_aload_n F d_MO_count_0 rfl rfl ?_
  refine j_iconst F (v := 0) d_MO_count_1 (by decide) ?_
  refine j_put F (so_h S) (sz_h S) rfl in_MO ty_MO ok_MO nm_MO 0 (by decide) wf_MO_33 rfl (ty := .int) (by decide +kernel) rfl rfl (Nat.le_of_ble_eq_true rfl) d_MO_count_2 ?_
  refine j_nmW (P := fun M1 => mo_W G M M1 h ta ke le mo pl si 0 tl sz ap tf kf lf mf pf sf) (mw_fa (mo_rf S) 0) (fun M1 S1 => ?_)
  refine j_aload_n F d_MO_count_5 rfl rfl ?_
  refine j_get F (so_h S1.1) rfl in_MO 8 (by decide) wf_MO_43 rfl d_MO_count_6 ?_
  exact j_iret F hr (Nat.le_refl _) (Nat.le_refl _) ⟨rfl, S1⟩ d_MO_count_9
end MO1
