/-- an object h with e0, and cells K that came new since M0 -/
def kn_2 (G : gv_T) (M0 M : mp_T) (h : Nat) (e0 : va_E) (K : List (Nat × va_E)) : Prop := M h = some e0 ∧ (∀ x ∈ K, M x.1 = some x.2 ∧ x.1 ≠ h ∧ G.2.2.1 ≤ x.1 ∧ M0 x.1 = none) ∧ (K.map (fun x => x.1)).Nodup ∧ ∀ q e, q ≠ h → M0 q = some e → M q = some e
theorem kn_rf {G : gv_T} {M : mp_T} {h : Nat} {e0 : va_E} (hh : M h = some e0) : kn_2 G M M h e0 [] := ⟨hh, fun x hx => (by cases hx), List.nodup_nil, fun _ _ _ h => h⟩
theorem kn_new {G : gv_T} {M0 M : mp_T} {h a : Nat} {e0 e : va_E} {K : List (Nat × va_E)} (S : kn_2 G M0 M h e0 K) (hz : G.2.2.1 ≤ a) (ha : M a = none) : kn_2 G M0 (mp_U M a e) h e0 ((a, e) :: K) := by
  obtain ⟨h1, h2, h3, h4⟩ := S
  have hah : a ≠ h := fun z => by rw [z, h1] at ha; cases ha
  have hK : ∀ x ∈ K, x.1 ≠ a := fun x hx z => by rw [← z, (h2 x hx).1] at ha; cases ha
  refine ⟨(mp_Un (Ne.symm hah)).trans h1, fun x hx => ?_, ?_, fun q e1 hq he => ?_⟩
  · rcases List.mem_cons.mp hx with z | z
    · subst z
      refine ⟨mp_Us _ _ _, hah, hz, ?_⟩
      cases h0 : M0 a with
      | none => rfl
      | some e9 => rw [h4 a e9 hah h0] at ha; cases ha
    · obtain ⟨q1, q2, q3, q4⟩ := h2 x z
      exact ⟨(mp_Un (hK x z)).trans q1, q2, q3, q4⟩
  · rw [List.map_cons, List.nodup_cons]
    refine ⟨fun z => ?_, h3⟩
    obtain ⟨x, hx, hxa⟩ := List.mem_map.mp z
    exact hK x hx hxa
  · have h9 := h4 q e1 hq he
    exact (mp_Un (fun z => by rw [z, ha] at h9; cases h9)).trans h9
theorem kn_set {G : gv_T} {M0 M : mp_T} {h : Nat} {e0 e : va_E} {K : List (Nat × va_E)} (S : kn_2 G M0 M h e0 K) : kn_2 G M0 (mp_U M h e) h e K := by
  obtain ⟨h1, h2, h3, h4⟩ := S
  exact ⟨mp_Us _ _ _, fun x hx => ⟨(mp_Un (h2 x hx).2.1).trans (h2 x hx).1, (h2 x hx).2⟩, h3, fun q e1 hq he => (mp_Un hq).trans (h4 q e1 hq he)⟩
theorem by_0 : by_Q (fun _ => 0) := fun _ => (by decide : vp_nar .byte 0 = 0)
section MO7
variable {es : List en_T} {σ : sg_T} {l : Launch} {G : gv_T} {M M0 : mp_T} {h ta ke le mo pl si : Nat} {fa tl sz ap : Int32} {tf kf lf mf pf sf : Nat → Int32}
def mo_I : va_E := .inr (3, [.int 0, .null, .int 0, .null, .null, .null, .null, .null, .int 0, .int 0])
set_option maxHeartbeats 4000000 in
set_option maxRecDepth 100000 in
theorem c_MO_init (hl : l.stackTraces = false) (hh : M h = some mo_I) (hz : G.2.2.1 ≤ h) : cn_C l G y_MO_init b_MO_init 1 { frames := 1, cells := 6, slots := 7144, locals := 20 } [.ref h] M (fun r M1 => r = none ∧ ∃ (ta ke le mo pl si : Nat), mo_A G M1 M1 h ta ke le mo pl si 0 ([], [], none) ∧ (∀ q ∈ [ta, ke, le, mo, pl, si], M q = none) ∧ ∀ q e, q ≠ h → M q = some e → M1 q = some e) := by
  refine cn_of hl (by decide +kernel) (Nat.le_of_ble_eq_true rfl) ?_
  intro p e s m args below meth c F hr hnm
  refine j_aload_n F d_MO_init_0 rfl rfl ?_
  refine j_obj F wl_MO_1 wim_JO_init wco_JO_init (by decide) (Nat.le_of_ble_eq_true rfl) d_MO_init_1 ?_
  have K0 : kn_2 G M M h mo_I [] := kn_rf hh
  refine j_aload_n F d_MO_init_4 rfl rfl ?_
  refine j_bipush F (v := 60) d_MO_init_5 (by decide) ?_
  refine j_newb F wa_byte (len := 60) (by decide) (by decide) (by decide) (by decide) (by decide) d_MO_init_7 (fun ta z_ta n_ta => ?_)
  refine j_nmW (P := fun M1 => kn_2 G M M1 h (.inr (3, [.int 0, .null, .int 0, .null, .null, .null, .null, .null, .int 0, .int 0])) [(ta, .inl (G.2.1.1, 60, .inl (fun _ => 0)))]) (kn_new K0 z_ta n_ta) (fun M1 K1 => ?_)
  refine j_putF F K1.1 hz rfl in_MO ty_MO ok_MO nm_MO 1 (by decide) wf_MO_7 rfl hnm rfl (ty := .array .byte) (by decide +kernel) rfl rfl (Nat.le_of_ble_eq_true rfl) d_MO_init_9 ?_
  refine j_nmW (P := fun M1 => kn_2 G M M1 h (.inr (3, [.int 0, .ref ta, .int 0, .null, .null, .null, .null, .null, .int 0, .int 0])) [(ta, .inl (G.2.1.1, 60, .inl (fun _ => 0)))]) (kn_set K1) (fun M2 K2 => ?_)
  refine j_aload_n F d_MO_init_12 rfl rfl ?_
  refine j_sipush F (v := 6440) d_MO_init_13 (by decide) ?_
  refine j_newb F wa_byte (len := 6440) (by decide) (by decide) (by decide) (by decide) (by decide) d_MO_init_16 (fun ke z_ke n_ke => ?_)
  refine j_nmW (P := fun M1 => kn_2 G M M1 h (.inr (3, [.int 0, .ref ta, .int 0, .null, .null, .null, .null, .null, .int 0, .int 0])) [(ke, .inl (G.2.1.1, 6440, .inl (fun _ => 0))), (ta, .inl (G.2.1.1, 60, .inl (fun _ => 0)))]) (kn_new K2 z_ke n_ke) (fun M3 K3 => ?_)
  refine j_putF F K3.1 hz rfl in_MO ty_MO ok_MO nm_MO 3 (by decide) wf_MO_13 rfl hnm rfl (ty := .array .byte) (by decide +kernel) rfl rfl (Nat.le_of_ble_eq_true rfl) d_MO_init_18 ?_
  refine j_nmW (P := fun M1 => kn_2 G M M1 h (.inr (3, [.int 0, .ref ta, .int 0, .ref ke, .null, .null, .null, .null, .int 0, .int 0])) [(ke, .inl (G.2.1.1, 6440, .inl (fun _ => 0))), (ta, .inl (G.2.1.1, 60, .inl (fun _ => 0)))]) (kn_set K3) (fun M4 K4 => ?_)
  refine j_aload_n F d_MO_init_21 rfl rfl ?_
  refine j_sipush F (v := 161) d_MO_init_22 (by decide) ?_
  refine j_newi F wa_int (len := 161) (by decide) (by decide) (by decide) (by decide) (by decide) d_MO_init_25 (fun le z_le n_le => ?_)
  refine j_nmW (P := fun M1 => kn_2 G M M1 h (.inr (3, [.int 0, .ref ta, .int 0, .ref ke, .null, .null, .null, .null, .int 0, .int 0])) [(le, .inl (G.2.1.2.1, 161, .inl (fun _ => 0))), (ke, .inl (G.2.1.1, 6440, .inl (fun _ => 0))), (ta, .inl (G.2.1.1, 60, .inl (fun _ => 0)))]) (kn_new K4 z_le n_le) (fun M5 K5 => ?_)
  refine j_putF F K5.1 hz rfl in_MO ty_MO ok_MO nm_MO 4 (by decide) wf_MO_16 rfl hnm rfl (ty := .array .int) (by decide +kernel) rfl rfl (Nat.le_of_ble_eq_true rfl) d_MO_init_27 ?_
  refine j_nmW (P := fun M1 => kn_2 G M M1 h (.inr (3, [.int 0, .ref ta, .int 0, .ref ke, .ref le, .null, .null, .null, .int 0, .int 0])) [(le, .inl (G.2.1.2.1, 161, .inl (fun _ => 0))), (ke, .inl (G.2.1.1, 6440, .inl (fun _ => 0))), (ta, .inl (G.2.1.1, 60, .inl (fun _ => 0)))]) (kn_set K5) (fun M6 K6 => ?_)
  refine j_aload_n F d_MO_init_30 rfl rfl ?_
  refine j_sipush F (v := 161) d_MO_init_31 (by decide) ?_
  refine j_newi F wa_int (len := 161) (by decide) (by decide) (by decide) (by decide) (by decide) d_MO_init_34 (fun mo z_mo n_mo => ?_)
  refine j_nmW (P := fun M1 => kn_2 G M M1 h (.inr (3, [.int 0, .ref ta, .int 0, .ref ke, .ref le, .null, .null, .null, .int 0, .int 0])) [(mo, .inl (G.2.1.2.1, 161, .inl (fun _ => 0))), (le, .inl (G.2.1.2.1, 161, .inl (fun _ => 0))), (ke, .inl (G.2.1.1, 6440, .inl (fun _ => 0))), (ta, .inl (G.2.1.1, 60, .inl (fun _ => 0)))]) (kn_new K6 z_mo n_mo) (fun M7 K7 => ?_)
  refine j_putF F K7.1 hz rfl in_MO ty_MO ok_MO nm_MO 5 (by decide) wf_MO_20 rfl hnm rfl (ty := .array .int) (by decide +kernel) rfl rfl (Nat.le_of_ble_eq_true rfl) d_MO_init_36 ?_
  refine j_nmW (P := fun M1 => kn_2 G M M1 h (.inr (3, [.int 0, .ref ta, .int 0, .ref ke, .ref le, .ref mo, .null, .null, .int 0, .int 0])) [(mo, .inl (G.2.1.2.1, 161, .inl (fun _ => 0))), (le, .inl (G.2.1.2.1, 161, .inl (fun _ => 0))), (ke, .inl (G.2.1.1, 6440, .inl (fun _ => 0))), (ta, .inl (G.2.1.1, 60, .inl (fun _ => 0)))]) (kn_set K7) (fun M8 K8 => ?_)
  refine j_aload_n F d_MO_init_39 rfl rfl ?_
  refine j_sipush F (v := 161) d_MO_init_40 (by decide) ?_
  refine j_newi F wa_int (len := 161) (by decide) (by decide) (by decide) (by decide) (by decide) d_MO_init_43 (fun pl z_pl n_pl => ?_)
  refine j_nmW (P := fun M1 => kn_2 G M M1 h (.inr (3, [.int 0, .ref ta, .int 0, .ref ke, .ref le, .ref mo, .null, .null, .int 0, .int 0])) [(pl, .inl (G.2.1.2.1, 161, .inl (fun _ => 0))), (mo, .inl (G.2.1.2.1, 161, .inl (fun _ => 0))), (le, .inl (G.2.1.2.1, 161, .inl (fun _ => 0))), (ke, .inl (G.2.1.1, 6440, .inl (fun _ => 0))), (ta, .inl (G.2.1.1, 60, .inl (fun _ => 0)))]) (kn_new K8 z_pl n_pl) (fun M9 K9 => ?_)
  refine j_putF F K9.1 hz rfl in_MO ty_MO ok_MO nm_MO 6 (by decide) wf_MO_23 rfl hnm rfl (ty := .array .int) (by decide +kernel) rfl rfl (Nat.le_of_ble_eq_true rfl) d_MO_init_45 ?_
  refine j_nmW (P := fun M1 => kn_2 G M M1 h (.inr (3, [.int 0, .ref ta, .int 0, .ref ke, .ref le, .ref mo, .ref pl, .null, .int 0, .int 0])) [(pl, .inl (G.2.1.2.1, 161, .inl (fun _ => 0))), (mo, .inl (G.2.1.2.1, 161, .inl (fun _ => 0))), (le, .inl (G.2.1.2.1, 161, .inl (fun _ => 0))), (ke, .inl (G.2.1.1, 6440, .inl (fun _ => 0))), (ta, .inl (G.2.1.1, 60, .inl (fun _ => 0)))]) (kn_set K9) (fun M10 K10 => ?_)
  refine j_aload_n F d_MO_init_48 rfl rfl ?_
  refine j_sipush F (v := 161) d_MO_init_49 (by decide) ?_
  refine j_newi F wa_int (len := 161) (by decide) (by decide) (by decide) (by decide) (by decide) d_MO_init_52 (fun si z_si n_si => ?_)
  refine j_nmW (P := fun M1 => kn_2 G M M1 h (.inr (3, [.int 0, .ref ta, .int 0, .ref ke, .ref le, .ref mo, .ref pl, .null, .int 0, .int 0])) [(si, .inl (G.2.1.2.1, 161, .inl (fun _ => 0))), (pl, .inl (G.2.1.2.1, 161, .inl (fun _ => 0))), (mo, .inl (G.2.1.2.1, 161, .inl (fun _ => 0))), (le, .inl (G.2.1.2.1, 161, .inl (fun _ => 0))), (ke, .inl (G.2.1.1, 6440, .inl (fun _ => 0))), (ta, .inl (G.2.1.1, 60, .inl (fun _ => 0)))]) (kn_new K10 z_si n_si) (fun M11 K11 => ?_)
  refine j_putF F K11.1 hz rfl in_MO ty_MO ok_MO nm_MO 7 (by decide) wf_MO_26 rfl hnm rfl (ty := .array .int) (by decide +kernel) rfl rfl (Nat.le_of_ble_eq_true rfl) d_MO_init_54 ?_
  refine j_nmW (P := fun M1 => kn_2 G M M1 h (.inr (3, [.int 0, .ref ta, .int 0, .ref ke, .ref le, .ref mo, .ref pl, .ref si, .int 0, .int 0])) [(si, .inl (G.2.1.2.1, 161, .inl (fun _ => 0))), (pl, .inl (G.2.1.2.1, 161, .inl (fun _ => 0))), (mo, .inl (G.2.1.2.1, 161, .inl (fun _ => 0))), (le, .inl (G.2.1.2.1, 161, .inl (fun _ => 0))), (ke, .inl (G.2.1.1, 6440, .inl (fun _ => 0))), (ta, .inl (G.2.1.1, 60, .inl (fun _ => 0)))]) (kn_set K11) (fun M12 K12 => ?_)
  refine j_aload_n F d_MO_init_57 rfl rfl ?_
  refine j_iconst F (v := -1) d_MO_init_58 (by decide) ?_
  refine j_put F K12.1 hz rfl in_MO ty_MO ok_MO nm_MO 9 (by decide) wf_MO_29 rfl (ty := .int) (by decide +kernel) rfl rfl (Nat.le_of_ble_eq_true rfl) d_MO_init_59 ?_
  refine j_nmW (P := fun M1 => kn_2 G M M1 h (.inr (3, [.int 0, .ref ta, .int 0, .ref ke, .ref le, .ref mo, .ref pl, .ref si, .int 0, .int (-1)])) [(si, .inl (G.2.1.2.1, 161, .inl (fun _ => 0))), (pl, .inl (G.2.1.2.1, 161, .inl (fun _ => 0))), (mo, .inl (G.2.1.2.1, 161, .inl (fun _ => 0))), (le, .inl (G.2.1.2.1, 161, .inl (fun _ => 0))), (ke, .inl (G.2.1.1, 6440, .inl (fun _ => 0))), (ta, .inl (G.2.1.1, 60, .inl (fun _ => 0)))]) (kn_set K12) (fun M13 K13 => ?_)
  obtain ⟨q1, q2, q3, q4⟩ := K13
  simp only [List.mem_cons, List.not_mem_nil, or_false, forall_eq_or_imp, forall_eq] at q2
  obtain ⟨⟨a1, a2, a3, a4⟩, ⟨b1, b2, b3, b4⟩, ⟨c1, c2, c3, c4⟩, ⟨d1, d2, d3, d4⟩, ⟨e1, e2, e3, e4⟩, ⟨f1, f2, f3, f4⟩⟩ := q2
  simp only [List.map_cons, List.map_nil, List.nodup_cons, List.mem_cons, not_or, List.not_mem_nil, or_false, not_false_eq_true, and_true, List.nodup_nil] at q3
  obtain ⟨⟨s1, s2, s3, s4, s5⟩, ⟨s6, s7, s8, s9⟩, ⟨t1, t2, t3⟩, ⟨t4, t5⟩, t6⟩ := q3
  refine j_cret F hr (Nat.le_of_ble_eq_true rfl) (Nat.le_of_ble_eq_true rfl) ⟨rfl, ta, ke, le, mo, pl, si, ⟨⟨Nat.zero_le _, fun _ h => (by cases h), Nat.zero_le _, fun _ h => (by cases h), fun _ h => (by cases h)⟩, _, _, _, _, _, _, ⟨⟨q1, f1, e1, d1, c1, b1, a1, ?_, ?_⟩, fun _ _ => rfl⟩, tp_nil _, by_0, by_0, mo_R0 _ _ _ _ _⟩, ?_, q4⟩ d_MO_init_62
  · simp only [List.mem_cons, List.not_mem_nil, or_false, forall_eq_or_imp, forall_eq]
    exact ⟨hz, f3, e3, d3, c3, b3, a3⟩
  · simp only [List.nodup_cons, List.mem_cons, not_or, List.not_mem_nil, or_false, not_false_eq_true, and_true, List.nodup_nil]
    exact ⟨⟨Ne.symm f2, Ne.symm e2, Ne.symm d2, Ne.symm c2, Ne.symm b2, Ne.symm a2⟩, ⟨Ne.symm t6, Ne.symm t5, Ne.symm t3, Ne.symm s9, Ne.symm s5⟩, ⟨Ne.symm t4, Ne.symm t2, Ne.symm s8, Ne.symm s4⟩, ⟨Ne.symm t1, Ne.symm s7, Ne.symm s3⟩, ⟨Ne.symm s6, Ne.symm s2⟩, Ne.symm s1⟩
  · simp only [List.mem_cons, List.not_mem_nil, or_false, forall_eq_or_imp, forall_eq]
    exact ⟨f4, e4, d4, c4, b4, a4⟩
end MO7
