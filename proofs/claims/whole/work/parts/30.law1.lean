/-! ===== the law's own methods: a call of the subject, its exceptions as numbers ===== -/
def po_H (G : gv_T) (M : mp_T) (B : Nat → Prop) (x o c : Nat) (v : Int64) (σ1 : sg_T) : Option Value → mp_T → Prop := fun r M1 => r = some (.int (nI c)) ∧ cl_A G M1 B x σ1 ∧ (∃ g : Nat → Int64, M1 o = some (.inl (G.2.1.2.2, 1, .inr (.inl g))) ∧ (c = 0 → g 0 = v)) ∧ ∀ q, B q → q ≠ o → M1 q = M q
theorem in0_1 : vp_in (0 : Int32) 1 := vp_in_nI (n := 0) (N := 1) (by decide) (by decide)
section LA1
variable {l : Launch} {G : gv_T} {M : mp_T} {B : Nat → Prop} {x oo : Nat} {σ : sg_T} {g : Nat → Int64}
set_option maxHeartbeats 4000000 in
set_option maxRecDepth 100000 in
theorem c_LA_feed (hl : l.stackTraces = false) (hK : K_feed l G) (A : cl_A G M B x σ) (hB : ∀ q, B q → ∃ w, M q = some w) (hBo : B oo) (ho : M oo = some (.inl (G.2.1.2.2, 1, .inr (.inl g)))) (hzo : G.2.2.1 ≤ oo) (a0 : Int32) (a1 : Int32) (a2 : Int32) (a3 : Int32) (a4 : Int32) : ct_H l G y_LA_feed b_LA_feed 8 (some .int) [(0, 16, 19, 13)] { frames := 61, cells := 3, slots := 60, locals := 1540 } [.ref x, .int a0, .int a1, .int a2, .int a3, .int a4, .ref oo] M (po_H G M B x oo (sp_feed a0 a1 a2 a3 a4 σ).1 (sp_feed a0 a1 a2 a3 a4 σ).2.1.toInt64 (sp_feed a0 a1 a2 a3 a4 σ).2.2) (fun _ _ => False) := by
  refine ctH_of hl (by decide +kernel) (Nat.le_of_ble_eq_true rfl) ?_
  intro p e s m args below meth c F hr hnm
  have A0 := A
  obtain ⟨_, _, _, _, _, _, hx0, -⟩ := A0
  refine j_aload F d_LA_feed_0 rfl ?_
  refine j_iconst F (v := 0) d_LA_feed_2 (by decide) ?_
  refine j_aload_n F d_LA_feed_3 rfl rfl ?_
  refine j_iload_n F d_LA_feed_4 rfl rfl ?_
  refine j_iload_n F d_LA_feed_5 rfl rfl ?_
  refine j_iload_n F d_LA_feed_6 rfl rfl ?_
  refine j_iload F d_LA_feed_7 rfl ?_
  refine j_iload F d_LA_feed_9 rfl ?_
  refine j_callV F 5 (hK M B x σ a0 a1 a2 a3 a4 A hB) hx0 rfl wl_LA_7 wim_MT_feed wse_MT_feed wi_MT wco_MT_feed (by decide +kernel) (by decide) rfl rfl (Nat.le_of_ble_eq_true rfl) (by decide) (by decide) d_LA_feed_11 ?_ ?_
  · skip
    intro E M1 hx
    obtain ⟨⟨i, hi, hE⟩, A1, hf⟩ := hx
    have ho1 : M1 oo = some (.inl (G.2.1.2.2, 1, .inr (.inl g))) := (hf oo hBo).trans ho
    cases i with
    | zero =>
      cases hE
      refine j_catch F [] ⟨0, 16, 19, 13⟩ [] rfl (fun z hz => by cases hz) (by decide) (by decide) wc_LA_13 (jf_sx F).2.2.2.2.2.2.2.2.2.1 (fun q9 => ?_)
      refine j_astore F (lv1 := [(7, _), (0, _), (1, _), (2, _), (3, _), (4, _), (5, _), (6, _)]) d_LA_feed_19 (by decide) rfl ?_
      refine j_iconst F (v := 1) d_LA_feed_21 (by decide) ?_
      exact j_iret F hr (by decide) (by decide) ⟨by rw [hi]; rfl, A1, ⟨g, ho1, fun z => absurd (hi.symm.trans z) (by omega)⟩, fun q hq _ => hf q hq⟩ d_LA_feed_22
    | succ i => exact absurd hE (by simp)
  · skip
    intro r M1 hp
    obtain ⟨hc0, rfl, A1, hf⟩ := hp
    have ho1 : M1 oo = some (.inl (G.2.1.2.2, 1, .inr (.inl g))) := (hf oo hBo).trans ho
    refine j_i2l F d_LA_feed_14 rfl ?_
    refine j_last F ho1 hzo in0_1 d_LA_feed_15 ?_
    refine j_goto F (tgt := 23) d_LA_feed_16 (by decide) ?_
    refine j_iconst F (v := 0) d_LA_feed_23 (by decide) ?_
    exact j_iret F hr (by decide) (by decide) ⟨by rw [hc0]; rfl, cl_mono A1 (fun q e9 hq he => (mp_Un (fun z => hq (by rw [z]; exact hBo))).trans he) (fun q hq => Or.inl hq), ⟨_, mp_Us _ _ _, fun _ => by first | rfl | (rw [show (0 : Int32).toNatClampNeg = 0 from rfl]; exact pk_uLs)⟩, fun q hq hqo => (mp_Un hqo).trans (hf q hq)⟩ d_LA_feed_24
set_option maxHeartbeats 4000000 in
set_option maxRecDepth 100000 in
theorem c_LA_end (hl : l.stackTraces = false) (hK : K_end l G) (A : cl_A G M B x σ) (hB : ∀ q, B q → ∃ w, M q = some w) (hBo : B oo) (ho : M oo = some (.inl (G.2.1.2.2, 1, .inr (.inl g)))) (hzo : G.2.2.1 ≤ oo) (a0 : Int32) : ct_H l G y_LA_end b_LA_end 4 (some .int) [(0, 9, 12, 19)] { frames := 61, cells := 3, slots := 60, locals := 1540 } [.ref x, .int a0, .ref oo] M (po_H G M B x oo (sp_end a0 σ).1 (sp_end a0 σ).2.1.toInt64 (sp_end a0 σ).2.2) (fun _ _ => False) := by
  refine ctH_of hl (by decide +kernel) (Nat.le_of_ble_eq_true rfl) ?_
  intro p e s m args below meth c F hr hnm
  have A0 := A
  obtain ⟨_, _, _, _, _, _, hx0, -⟩ := A0
  refine j_aload_n F d_LA_end_0 rfl rfl ?_
  refine j_iconst F (v := 0) d_LA_end_1 (by decide) ?_
  refine j_aload_n F d_LA_end_2 rfl rfl ?_
  refine j_iload_n F d_LA_end_3 rfl rfl ?_
  refine j_callV F 1 (hK M B x σ a0 A hB) hx0 rfl wl_LA_15 wim_MT_end wse_MT_end wi_MT wco_MT_end (by decide +kernel) (by decide) rfl rfl (Nat.le_of_ble_eq_true rfl) (by decide) (by decide) d_LA_end_4 ?_ ?_
  · skip
    intro E M1 hx
    obtain ⟨⟨i, hi, hE⟩, A1, hf⟩ := hx
    have ho1 : M1 oo = some (.inl (G.2.1.2.2, 1, .inr (.inl g))) := (hf oo hBo).trans ho
    cases i with
    | zero =>
      cases hE
      refine j_catch F [] ⟨0, 9, 12, 19⟩ [] rfl (fun z hz => by cases hz) (by decide) (by decide) wc_LA_19 (jf_sx F).2.2.2.2.2.2.2.1 (fun q9 => ?_)
      refine j_astore_n F (lv1 := [(3, _), (0, _), (1, _), (2, _)]) d_LA_end_12 rfl (by decide) rfl ?_
      refine j_iconst F (v := 1) d_LA_end_13 (by decide) ?_
      exact j_iret F hr (by decide) (by decide) ⟨by rw [hi]; rfl, A1, ⟨g, ho1, fun z => absurd (hi.symm.trans z) (by omega)⟩, fun q hq _ => hf q hq⟩ d_LA_end_14
    | succ i => exact absurd hE (by simp)
  · skip
    intro r M1 hp
    obtain ⟨hc0, rfl, A1, hf⟩ := hp
    have ho1 : M1 oo = some (.inl (G.2.1.2.2, 1, .inr (.inl g))) := (hf oo hBo).trans ho
    refine j_i2l F d_LA_end_7 rfl ?_
    refine j_last F ho1 hzo in0_1 d_LA_end_8 ?_
    refine j_goto F (tgt := 15) d_LA_end_9 (by decide) ?_
    refine j_iconst F (v := 0) d_LA_end_15 (by decide) ?_
    exact j_iret F hr (by decide) (by decide) ⟨by rw [hc0]; rfl, cl_mono A1 (fun q e9 hq he => (mp_Un (fun z => hq (by rw [z]; exact hBo))).trans he) (fun q hq => Or.inl hq), ⟨_, mp_Us _ _ _, fun _ => by first | rfl | (rw [show (0 : Int32).toNatClampNeg = 0 from rfl]; exact pk_uLs)⟩, fun q hq hqo => (mp_Un hqo).trans (hf q hq)⟩ d_LA_end_16
set_option maxHeartbeats 4000000 in
set_option maxRecDepth 100000 in
theorem c_LA_put (hl : l.stackTraces = false) (hK : K_put l G) (A : cl_A G M B x σ) (hB : ∀ q, B q → ∃ w, M q = some w) (hBo : B oo) (ho : M oo = some (.inl (G.2.1.2.2, 1, .inr (.inl g)))) (hzo : G.2.2.1 ≤ oo) (a0 : Int32) (a1 : Int32) (a2 : Int32) : ct_H l G y_LA_put b_LA_put 6 (some .int) [(0, 12, 15, 19), (0, 12, 19, 25)] { frames := 61, cells := 3, slots := 60, locals := 1540 } [.ref x, .int a0, .int a1, .int a2, .ref oo] M (po_H G M B x oo (sp_put a0 a1 a2 σ).1 (sp_put a0 a1 a2 σ).2.1.toInt64 (sp_put a0 a1 a2 σ).2.2) (fun _ _ => False) := by
  refine ctH_of hl (by decide +kernel) (Nat.le_of_ble_eq_true rfl) ?_
  intro p e s m args below meth c F hr hnm
  have A0 := A
  obtain ⟨_, _, _, _, _, _, hx0, -⟩ := A0
  refine j_aload F d_LA_put_0 rfl ?_
  refine j_iconst F (v := 0) d_LA_put_2 (by decide) ?_
  refine j_aload_n F d_LA_put_3 rfl rfl ?_
  refine j_iload_n F d_LA_put_4 rfl rfl ?_
  refine j_iload_n F d_LA_put_5 rfl rfl ?_
  refine j_iload_n F d_LA_put_6 rfl rfl ?_
  refine j_callV F 3 (hK M B x σ a0 a1 a2 A hB) hx0 rfl wl_LA_21 wim_MT_put wse_MT_put wi_MT wco_MT_put (by decide +kernel) (by decide) rfl rfl (Nat.le_of_ble_eq_true rfl) (by decide) (by decide) d_LA_put_7 ?_ ?_
  · skip
    intro E M1 hx
    obtain ⟨⟨i, hi, hE⟩, A1, hf⟩ := hx
    have ho1 : M1 oo = some (.inl (G.2.1.2.2, 1, .inr (.inl g))) := (hf oo hBo).trans ho
    cases i with
    | zero =>
      cases hE
      refine j_catch F [] ⟨0, 12, 15, 19⟩ [⟨0, 12, 19, 25⟩] rfl (fun z hz => by cases hz) (by decide) (by decide) wc_LA_19 (jf_sx F).2.2.2.2.2.2.2.1 (fun q9 => ?_)
      refine j_astore F (lv1 := [(5, _), (0, _), (1, _), (2, _), (3, _), (4, _)]) d_LA_put_15 (by decide) rfl ?_
      refine j_iconst F (v := 1) d_LA_put_17 (by decide) ?_
      exact j_iret F hr (by decide) (by decide) ⟨by rw [hi]; rfl, A1, ⟨g, ho1, fun z => absurd (hi.symm.trans z) (by omega)⟩, fun q hq _ => hf q hq⟩ d_LA_put_18
    | succ i =>
      cases i with
      | zero =>
        cases hE
        refine j_catch F [⟨0, 12, 15, 19⟩] ⟨0, 12, 19, 25⟩ [] rfl (fun z hz => by
            rcases List.mem_singleton.mp hz with rfl
            exact Or.inr ⟨by decide, _, wc_LA_19, (jf_sx F).2.2.2.2.1⟩) (by decide) (by decide) wc_LA_25 (jf_sx F).2.2.2.2.2.2.2.2.1 (fun q9 => ?_)
        refine j_astore F (lv1 := [(5, _), (0, _), (1, _), (2, _), (3, _), (4, _)]) d_LA_put_19 (by decide) rfl ?_
        refine j_iconst F (v := 2) d_LA_put_21 (by decide) ?_
        exact j_iret F hr (by decide) (by decide) ⟨by rw [hi]; rfl, A1, ⟨g, ho1, fun z => absurd (hi.symm.trans z) (by omega)⟩, fun q hq _ => hf q hq⟩ d_LA_put_22
      | succ i => exact absurd hE (by simp)
  · skip
    intro r M1 hp
    obtain ⟨hc0, rfl, A1, hf⟩ := hp
    have ho1 : M1 oo = some (.inl (G.2.1.2.2, 1, .inr (.inl g))) := (hf oo hBo).trans ho
    refine j_i2l F d_LA_put_10 rfl ?_
    refine j_last F ho1 hzo in0_1 d_LA_put_11 ?_
    refine j_goto F (tgt := 23) d_LA_put_12 (by decide) ?_
    refine j_iconst F (v := 0) d_LA_put_23 (by decide) ?_
    exact j_iret F hr (by decide) (by decide) ⟨by rw [hc0]; rfl, cl_mono A1 (fun q e9 hq he => (mp_Un (fun z => hq (by rw [z]; exact hBo))).trans he) (fun q hq => Or.inl hq), ⟨_, mp_Us _ _ _, fun _ => by first | rfl | (rw [show (0 : Int32).toNatClampNeg = 0 from rfl]; exact pk_uLs)⟩, fun q hq hqo => (mp_Un hqo).trans (hf q hq)⟩ d_LA_put_24
set_option maxHeartbeats 4000000 in
set_option maxRecDepth 100000 in
theorem c_LA_find (hl : l.stackTraces = false) (hK : K_find l G) (A : cl_A G M B x σ) (hB : ∀ q, B q → ∃ w, M q = some w) (hBo : B oo) (ho : M oo = some (.inl (G.2.1.2.2, 1, .inr (.inl g)))) (hzo : G.2.2.1 ≤ oo) (a0 : Int32) : ct_H l G y_LA_find b_LA_find 4 (some .int) [(0, 9, 12, 19), (0, 9, 15, 30)] { frames := 61, cells := 3, slots := 60, locals := 1540 } [.ref x, .int a0, .ref oo] M (po_H G M B x oo (sp_find a0 σ).1 (sp_find a0 σ).2.1.toInt64 (sp_find a0 σ).2.2) (fun _ _ => False) := by
  refine ctH_of hl (by decide +kernel) (Nat.le_of_ble_eq_true rfl) ?_
  intro p e s m args below meth c F hr hnm
  have A0 := A
  obtain ⟨_, _, _, _, _, _, hx0, -⟩ := A0
  refine j_aload_n F d_LA_find_0 rfl rfl ?_
  refine j_iconst F (v := 0) d_LA_find_1 (by decide) ?_
  refine j_aload_n F d_LA_find_2 rfl rfl ?_
  refine j_iload_n F d_LA_find_3 rfl rfl ?_
  refine j_callV F 1 (hK M B x σ a0 A hB) hx0 rfl wl_LA_27 wim_MT_find wse_MT_find wi_MT wco_MT_find (by decide +kernel) (by decide) rfl rfl (Nat.le_of_ble_eq_true rfl) (by decide) (by decide) d_LA_find_4 ?_ ?_
  · skip
    intro E M1 hx
    obtain ⟨⟨i, hi, hE⟩, A1, hf⟩ := hx
    have ho1 : M1 oo = some (.inl (G.2.1.2.2, 1, .inr (.inl g))) := (hf oo hBo).trans ho
    cases i with
    | zero =>
      cases hE
      refine j_catch F [] ⟨0, 9, 12, 19⟩ [⟨0, 9, 15, 30⟩] rfl (fun z hz => by cases hz) (by decide) (by decide) wc_LA_19 (jf_sx F).2.2.2.2.2.2.2.1 (fun q9 => ?_)
      refine j_astore_n F (lv1 := [(3, _), (0, _), (1, _), (2, _)]) d_LA_find_12 rfl (by decide) rfl ?_
      refine j_iconst F (v := 1) d_LA_find_13 (by decide) ?_
      exact j_iret F hr (by decide) (by decide) ⟨by rw [hi]; rfl, A1, ⟨g, ho1, fun z => absurd (hi.symm.trans z) (by omega)⟩, fun q hq _ => hf q hq⟩ d_LA_find_14
    | succ i =>
      cases i with
      | zero =>
        cases hE
        refine j_catch F [⟨0, 9, 12, 19⟩] ⟨0, 9, 15, 30⟩ [] rfl (fun z hz => by
            rcases List.mem_singleton.mp hz with rfl
            exact Or.inr ⟨by decide, _, wc_LA_19, (jf_sx F).2.2.2.2.2.1⟩) (by decide) (by decide) wc_LA_30 (jf_sx F).2.2.2.2.2.2.2.2.2.2.1 (fun q9 => ?_)
        refine j_astore_n F (lv1 := [(3, _), (0, _), (1, _), (2, _)]) d_LA_find_15 rfl (by decide) rfl ?_
        refine j_iconst F (v := 2) d_LA_find_16 (by decide) ?_
        exact j_iret F hr (by decide) (by decide) ⟨by rw [hi]; rfl, A1, ⟨g, ho1, fun z => absurd (hi.symm.trans z) (by omega)⟩, fun q hq _ => hf q hq⟩ d_LA_find_17
      | succ i => exact absurd hE (by simp)
  · skip
    intro r M1 hp
    obtain ⟨hc0, rfl, A1, hf⟩ := hp
    have ho1 : M1 oo = some (.inl (G.2.1.2.2, 1, .inr (.inl g))) := (hf oo hBo).trans ho
    refine j_i2l F d_LA_find_7 rfl ?_
    refine j_last F ho1 hzo in0_1 d_LA_find_8 ?_
    refine j_goto F (tgt := 18) d_LA_find_9 (by decide) ?_
    refine j_iconst F (v := 0) d_LA_find_18 (by decide) ?_
    exact j_iret F hr (by decide) (by decide) ⟨by rw [hc0]; rfl, cl_mono A1 (fun q e9 hq he => (mp_Un (fun z => hq (by rw [z]; exact hBo))).trans he) (fun q hq => Or.inl hq), ⟨_, mp_Us _ _ _, fun _ => by first | rfl | (rw [show (0 : Int32).toNatClampNeg = 0 from rfl]; exact pk_uLs)⟩, fun q hq hqo => (mp_Un hqo).trans (hf q hq)⟩ d_LA_find_19
set_option maxHeartbeats 4000000 in
set_option maxRecDepth 100000 in
theorem c_LA_seek (hl : l.stackTraces = false) (hK : K_seek l G) (A : cl_A G M B x σ) (hB : ∀ q, B q → ∃ w, M q = some w) (hBo : B oo) (ho : M oo = some (.inl (G.2.1.2.2, 1, .inr (.inl g)))) (hzo : G.2.2.1 ≤ oo) (a0 : Int32) (bb : Bool) : ct_H l G y_LA_seek b_LA_seek 5 (some .int) [(0, 10, 13, 19), (0, 10, 17, 30)] { frames := 61, cells := 3, slots := 60, locals := 1540 } [.ref x, .int a0, .int (if bb then 1 else 0), .ref oo] M (po_H G M B x oo (sp_seek a0 bb σ).1 (sp_seek a0 bb σ).2.1.toInt64 (sp_seek a0 bb σ).2.2) (fun _ _ => False) := by
  refine ctH_of hl (by decide +kernel) (Nat.le_of_ble_eq_true rfl) ?_
  intro p e s m args below meth c F hr hnm
  have A0 := A
  obtain ⟨_, _, _, _, _, _, hx0, -⟩ := A0
  refine j_aload_n F d_LA_seek_0 rfl rfl ?_
  refine j_iconst F (v := 0) d_LA_seek_1 (by decide) ?_
  refine j_aload_n F d_LA_seek_2 rfl rfl ?_
  refine j_iload_n F d_LA_seek_3 rfl rfl ?_
  refine j_iload_n F d_LA_seek_4 rfl rfl ?_
  refine j_callV F 2 (hK M B x σ a0 bb A hB) hx0 rfl wl_LA_32 wim_MT_seek wse_MT_seek wi_MT wco_MT_seek (by decide +kernel) (by decide) rfl rfl (Nat.le_of_ble_eq_true rfl) (by decide) (by decide) d_LA_seek_5 ?_ ?_
  · skip
    intro E M1 hx
    obtain ⟨⟨i, hi, hE⟩, A1, hf⟩ := hx
    have ho1 : M1 oo = some (.inl (G.2.1.2.2, 1, .inr (.inl g))) := (hf oo hBo).trans ho
    cases i with
    | zero =>
      cases hE
      refine j_catch F [] ⟨0, 10, 13, 19⟩ [⟨0, 10, 17, 30⟩] rfl (fun z hz => by cases hz) (by decide) (by decide) wc_LA_19 (jf_sx F).2.2.2.2.2.2.2.1 (fun q9 => ?_)
      refine j_astore F (lv1 := [(4, _), (0, _), (1, _), (2, _), (3, _)]) d_LA_seek_13 (by decide) rfl ?_
      refine j_iconst F (v := 1) d_LA_seek_15 (by decide) ?_
      exact j_iret F hr (by decide) (by decide) ⟨by rw [hi]; rfl, A1, ⟨g, ho1, fun z => absurd (hi.symm.trans z) (by omega)⟩, fun q hq _ => hf q hq⟩ d_LA_seek_16
    | succ i =>
      cases i with
      | zero =>
        cases hE
        refine j_catch F [⟨0, 10, 13, 19⟩] ⟨0, 10, 17, 30⟩ [] rfl (fun z hz => by
            rcases List.mem_singleton.mp hz with rfl
            exact Or.inr ⟨by decide, _, wc_LA_19, (jf_sx F).2.2.2.2.2.1⟩) (by decide) (by decide) wc_LA_30 (jf_sx F).2.2.2.2.2.2.2.2.2.2.1 (fun q9 => ?_)
        refine j_astore F (lv1 := [(4, _), (0, _), (1, _), (2, _), (3, _)]) d_LA_seek_17 (by decide) rfl ?_
        refine j_iconst F (v := 2) d_LA_seek_19 (by decide) ?_
        exact j_iret F hr (by decide) (by decide) ⟨by rw [hi]; rfl, A1, ⟨g, ho1, fun z => absurd (hi.symm.trans z) (by omega)⟩, fun q hq _ => hf q hq⟩ d_LA_seek_20
      | succ i => exact absurd hE (by simp)
  · skip
    intro r M1 hp
    obtain ⟨hc0, rfl, A1, hf⟩ := hp
    have ho1 : M1 oo = some (.inl (G.2.1.2.2, 1, .inr (.inl g))) := (hf oo hBo).trans ho
    refine j_i2l F d_LA_seek_8 rfl ?_
    refine j_last F ho1 hzo in0_1 d_LA_seek_9 ?_
    refine j_goto F (tgt := 21) d_LA_seek_10 (by decide) ?_
    refine j_iconst F (v := 0) d_LA_seek_21 (by decide) ?_
    exact j_iret F hr (by decide) (by decide) ⟨by rw [hc0]; rfl, cl_mono A1 (fun q e9 hq he => (mp_Un (fun z => hq (by rw [z]; exact hBo))).trans he) (fun q hq => Or.inl hq), ⟨_, mp_Us _ _ _, fun _ => by first | rfl | (rw [show (0 : Int32).toNatClampNeg = 0 from rfl]; exact pk_uLs)⟩, fun q hq hqo => (mp_Un hqo).trans (hf q hq)⟩ d_LA_seek_22
set_option maxHeartbeats 4000000 in
set_option maxRecDepth 100000 in
theorem c_LA_next (hl : l.stackTraces = false) (hK : K_next l G) (A : cl_A G M B x σ) (hB : ∀ q, B q → ∃ w, M q = some w) (hBo : B oo) (ho : M oo = some (.inl (G.2.1.2.2, 1, .inr (.inl g)))) (hzo : G.2.2.1 ≤ oo) : ct_H l G y_LA_next b_LA_next 3 (some .int) [(0, 8, 11, 30)] { frames := 61, cells := 3, slots := 60, locals := 1540 } [.ref x, .ref oo] M (po_H G M B x oo (sp_next σ).1 (sp_next σ).2.1.toInt64 (sp_next σ).2.2) (fun _ _ => False) := by
  refine ctH_of hl (by decide +kernel) (Nat.le_of_ble_eq_true rfl) ?_
  intro p e s m args below meth c F hr hnm
  have A0 := A
  obtain ⟨_, _, _, _, _, _, hx0, -⟩ := A0
  refine j_aload_n F d_LA_next_0 rfl rfl ?_
  refine j_iconst F (v := 0) d_LA_next_1 (by decide) ?_
  refine j_aload_n F d_LA_next_2 rfl rfl ?_
  refine j_callV F 0 (hK M B x σ  A hB) hx0 rfl wl_LA_36 wim_MT_next wse_MT_next wi_MT wco_MT_next (by decide +kernel) (by decide) rfl rfl (Nat.le_of_ble_eq_true rfl) (by decide) (by decide) d_LA_next_3 ?_ ?_
  · skip
    intro E M1 hx
    obtain ⟨⟨i, hi, hE⟩, A1, hf⟩ := hx
    have ho1 : M1 oo = some (.inl (G.2.1.2.2, 1, .inr (.inl g))) := (hf oo hBo).trans ho
    cases i with
    | zero =>
      cases hE
      refine j_catch F [] ⟨0, 8, 11, 30⟩ [] rfl (fun z hz => by cases hz) (by decide) (by decide) wc_LA_30 (jf_sx F).2.2.2.2.2.2.2.2.2.2.1 (fun q9 => ?_)
      refine j_astore_n F (lv1 := [(2, _), (0, _), (1, _)]) d_LA_next_11 rfl (by decide) rfl ?_
      refine j_iconst F (v := 1) d_LA_next_12 (by decide) ?_
      exact j_iret F hr (by decide) (by decide) ⟨by rw [hi]; rfl, A1, ⟨g, ho1, fun z => absurd (hi.symm.trans z) (by omega)⟩, fun q hq _ => hf q hq⟩ d_LA_next_13
    | succ i => exact absurd hE (by simp)
  · skip
    intro r M1 hp
    obtain ⟨hc0, rfl, A1, hf⟩ := hp
    have ho1 : M1 oo = some (.inl (G.2.1.2.2, 1, .inr (.inl g))) := (hf oo hBo).trans ho
    refine j_i2l F d_LA_next_6 rfl ?_
    refine j_last F ho1 hzo in0_1 d_LA_next_7 ?_
    refine j_goto F (tgt := 14) d_LA_next_8 (by decide) ?_
    refine j_iconst F (v := 0) d_LA_next_14 (by decide) ?_
    exact j_iret F hr (by decide) (by decide) ⟨by rw [hc0]; rfl, cl_mono A1 (fun q e9 hq he => (mp_Un (fun z => hq (by rw [z]; exact hBo))).trans he) (fun q hq => Or.inl hq), ⟨_, mp_Us _ _ _, fun _ => by first | rfl | (rw [show (0 : Int32).toNatClampNeg = 0 from rfl]; exact pk_uLs)⟩, fun q hq hqo => (mp_Un hqo).trans (hf q hq)⟩ d_LA_next_15
set_option maxHeartbeats 4000000 in
set_option maxRecDepth 100000 in
theorem c_LA_first (hl : l.stackTraces = false) (hK : K_first l G) (A : cl_A G M B x σ) (hB : ∀ q, B q → ∃ w, M q = some w) (hBo : B oo) (ho : M oo = some (.inl (G.2.1.2.2, 1, .inr (.inl g)))) (hzo : G.2.2.1 ≤ oo) : ct_H l G y_LA_first b_LA_first 3 (some .int) [(0, 8, 11, 30)] { frames := 61, cells := 3, slots := 60, locals := 1540 } [.ref x, .ref oo] M (po_H G M B x oo (sp_first σ).1 (sp_first σ).2.1.toInt64 (sp_first σ).2.2) (fun _ _ => False) := by
  refine ctH_of hl (by decide +kernel) (Nat.le_of_ble_eq_true rfl) ?_
  intro p e s m args below meth c F hr hnm
  have A0 := A
  obtain ⟨_, _, _, _, _, _, hx0, -⟩ := A0
  refine j_aload_n F d_LA_first_0 rfl rfl ?_
  refine j_iconst F (v := 0) d_LA_first_1 (by decide) ?_
  refine j_aload_n F d_LA_first_2 rfl rfl ?_
  refine j_callV F 0 (hK M B x σ  A hB) hx0 rfl wl_LA_40 wim_MT_first wse_MT_first wi_MT wco_MT_first (by decide +kernel) (by decide) rfl rfl (Nat.le_of_ble_eq_true rfl) (by decide) (by decide) d_LA_first_3 ?_ ?_
  · skip
    intro E M1 hx
    obtain ⟨⟨i, hi, hE⟩, A1, hf⟩ := hx
    have ho1 : M1 oo = some (.inl (G.2.1.2.2, 1, .inr (.inl g))) := (hf oo hBo).trans ho
    cases i with
    | zero =>
      cases hE
      refine j_catch F [] ⟨0, 8, 11, 30⟩ [] rfl (fun z hz => by cases hz) (by decide) (by decide) wc_LA_30 (jf_sx F).2.2.2.2.2.2.2.2.2.2.1 (fun q9 => ?_)
      refine j_astore_n F (lv1 := [(2, _), (0, _), (1, _)]) d_LA_first_11 rfl (by decide) rfl ?_
      refine j_iconst F (v := 1) d_LA_first_12 (by decide) ?_
      exact j_iret F hr (by decide) (by decide) ⟨by rw [hi]; rfl, A1, ⟨g, ho1, fun z => absurd (hi.symm.trans z) (by omega)⟩, fun q hq _ => hf q hq⟩ d_LA_first_13
    | succ i => exact absurd hE (by simp)
  · skip
    intro r M1 hp
    obtain ⟨hc0, rfl, A1, hf⟩ := hp
    have ho1 : M1 oo = some (.inl (G.2.1.2.2, 1, .inr (.inl g))) := (hf oo hBo).trans ho
    refine j_i2l F d_LA_first_6 rfl ?_
    refine j_last F ho1 hzo in0_1 d_LA_first_7 ?_
    refine j_goto F (tgt := 14) d_LA_first_8 (by decide) ?_
    refine j_iconst F (v := 0) d_LA_first_14 (by decide) ?_
    exact j_iret F hr (by decide) (by decide) ⟨by rw [hc0]; rfl, cl_mono A1 (fun q e9 hq he => (mp_Un (fun z => hq (by rw [z]; exact hBo))).trans he) (fun q hq => Or.inl hq), ⟨_, mp_Us _ _ _, fun _ => by first | rfl | (rw [show (0 : Int32).toNatClampNeg = 0 from rfl]; exact pk_uLs)⟩, fun q hq hqo => (mp_Un hqo).trans (hf q hq)⟩ d_LA_first_15
set_option maxHeartbeats 4000000 in
set_option maxRecDepth 100000 in
theorem c_LA_current (hl : l.stackTraces = false) (hK : K_current l G) (A : cl_A G M B x σ) (hB : ∀ q, B q → ∃ w, M q = some w) (hBo : B oo) (ho : M oo = some (.inl (G.2.1.2.2, 1, .inr (.inl g)))) (hzo : G.2.2.1 ≤ oo) (a0 : Int32) : ct_H l G y_LA_current b_LA_current 4 (some .int) [(0, 9, 12, 19), (0, 9, 15, 30)] { frames := 61, cells := 3, slots := 60, locals := 1540 } [.ref x, .int a0, .ref oo] M (po_H G M B x oo (sp_current a0 σ).1 (sp_current a0 σ).2.1.toInt64 (sp_current a0 σ).2.2) (fun _ _ => False) := by
  refine ctH_of hl (by decide +kernel) (Nat.le_of_ble_eq_true rfl) ?_
  intro p e s m args below meth c F hr hnm
  have A0 := A
  obtain ⟨_, _, _, _, _, _, hx0, -⟩ := A0
  refine j_aload_n F d_LA_current_0 rfl rfl ?_
  refine j_iconst F (v := 0) d_LA_current_1 (by decide) ?_
  refine j_aload_n F d_LA_current_2 rfl rfl ?_
  refine j_iload_n F d_LA_current_3 rfl rfl ?_
  refine j_callV F 1 (hK M B x σ a0 A hB) hx0 rfl wl_LA_43 wim_MT_current wse_MT_current wi_MT wco_MT_current (by decide +kernel) (by decide) rfl rfl (Nat.le_of_ble_eq_true rfl) (by decide) (by decide) d_LA_current_4 ?_ ?_
  · skip
    intro E M1 hx
    obtain ⟨⟨i, hi, hE⟩, A1, hf⟩ := hx
    have ho1 : M1 oo = some (.inl (G.2.1.2.2, 1, .inr (.inl g))) := (hf oo hBo).trans ho
    cases i with
    | zero =>
      cases hE
      refine j_catch F [] ⟨0, 9, 12, 19⟩ [⟨0, 9, 15, 30⟩] rfl (fun z hz => by cases hz) (by decide) (by decide) wc_LA_19 (jf_sx F).2.2.2.2.2.2.2.1 (fun q9 => ?_)
      refine j_astore_n F (lv1 := [(3, _), (0, _), (1, _), (2, _)]) d_LA_current_12 rfl (by decide) rfl ?_
      refine j_iconst F (v := 1) d_LA_current_13 (by decide) ?_
      exact j_iret F hr (by decide) (by decide) ⟨by rw [hi]; rfl, A1, ⟨g, ho1, fun z => absurd (hi.symm.trans z) (by omega)⟩, fun q hq _ => hf q hq⟩ d_LA_current_14
    | succ i =>
      cases i with
      | zero =>
        cases hE
        refine j_catch F [⟨0, 9, 12, 19⟩] ⟨0, 9, 15, 30⟩ [] rfl (fun z hz => by
            rcases List.mem_singleton.mp hz with rfl
            exact Or.inr ⟨by decide, _, wc_LA_19, (jf_sx F).2.2.2.2.2.1⟩) (by decide) (by decide) wc_LA_30 (jf_sx F).2.2.2.2.2.2.2.2.2.2.1 (fun q9 => ?_)
        refine j_astore_n F (lv1 := [(3, _), (0, _), (1, _), (2, _)]) d_LA_current_15 rfl (by decide) rfl ?_
        refine j_iconst F (v := 2) d_LA_current_16 (by decide) ?_
        exact j_iret F hr (by decide) (by decide) ⟨by rw [hi]; rfl, A1, ⟨g, ho1, fun z => absurd (hi.symm.trans z) (by omega)⟩, fun q hq _ => hf q hq⟩ d_LA_current_17
      | succ i => exact absurd hE (by simp)
  · skip
    intro r M1 hp
    obtain ⟨hc0, rfl, A1, hf⟩ := hp
    have ho1 : M1 oo = some (.inl (G.2.1.2.2, 1, .inr (.inl g))) := (hf oo hBo).trans ho
    refine j_i2l F d_LA_current_7 rfl ?_
    refine j_last F ho1 hzo in0_1 d_LA_current_8 ?_
    refine j_goto F (tgt := 18) d_LA_current_9 (by decide) ?_
    refine j_iconst F (v := 0) d_LA_current_18 (by decide) ?_
    exact j_iret F hr (by decide) (by decide) ⟨by rw [hc0]; rfl, cl_mono A1 (fun q e9 hq he => (mp_Un (fun z => hq (by rw [z]; exact hBo))).trans he) (fun q hq => Or.inl hq), ⟨_, mp_Us _ _ _, fun _ => by first | rfl | (rw [show (0 : Int32).toNatClampNeg = 0 from rfl]; exact pk_uLs)⟩, fun q hq hqo => (mp_Un hqo).trans (hf q hq)⟩ d_LA_current_19
set_option maxHeartbeats 4000000 in
set_option maxRecDepth 100000 in
theorem c_LA_word (hl : l.stackTraces = false) (hK : K_word l G) (A : cl_A G M B x σ) (hB : ∀ q, B q → ∃ w, M q = some w) (hBo : B oo) (ho : M oo = some (.inl (G.2.1.2.2, 1, .inr (.inl g)))) (hzo : G.2.2.1 ≤ oo) (a0 : Int32) : ct_H l G y_LA_word b_LA_word 4 (some .int) [(0, 8, 11, 30), (0, 8, 14, 13)] { frames := 61, cells := 3, slots := 60, locals := 1540 } [.ref x, .int a0, .ref oo] M (po_H G M B x oo (sp_word a0 σ).1 (sp_word a0 σ).2.1 (sp_word a0 σ).2.2) (fun _ _ => False) := by
  refine ctH_of hl (by decide +kernel) (Nat.le_of_ble_eq_true rfl) ?_
  intro p e s m args below meth c F hr hnm
  have A0 := A
  obtain ⟨_, _, _, _, _, _, hx0, -⟩ := A0
  refine j_aload_n F d_LA_word_0 rfl rfl ?_
  refine j_iconst F (v := 0) d_LA_word_1 (by decide) ?_
  refine j_aload_n F d_LA_word_2 rfl rfl ?_
  refine j_iload_n F d_LA_word_3 rfl rfl ?_
  refine j_callV F 1 (hK M B x σ a0 A hB) hx0 rfl wl_LA_46 wim_MT_word wse_MT_word wi_MT wco_MT_word (by decide +kernel) (by decide) rfl rfl (Nat.le_of_ble_eq_true rfl) (by decide) (by decide) d_LA_word_4 ?_ ?_
  · skip
    intro E M1 hx
    obtain ⟨⟨i, hi, hE⟩, A1, hf⟩ := hx
    have ho1 : M1 oo = some (.inl (G.2.1.2.2, 1, .inr (.inl g))) := (hf oo hBo).trans ho
    cases i with
    | zero =>
      cases hE
      refine j_catch F [] ⟨0, 8, 11, 30⟩ [⟨0, 8, 14, 13⟩] rfl (fun z hz => by cases hz) (by decide) (by decide) wc_LA_30 (jf_sx F).2.2.2.2.2.2.2.2.2.2.1 (fun q9 => ?_)
      refine j_astore_n F (lv1 := [(3, _), (0, _), (1, _), (2, _)]) d_LA_word_11 rfl (by decide) rfl ?_
      refine j_iconst F (v := 1) d_LA_word_12 (by decide) ?_
      exact j_iret F hr (by decide) (by decide) ⟨by rw [hi]; rfl, A1, ⟨g, ho1, fun z => absurd (hi.symm.trans z) (by omega)⟩, fun q hq _ => hf q hq⟩ d_LA_word_13
    | succ i =>
      cases i with
      | zero =>
        cases hE
        refine j_catch F [⟨0, 8, 11, 30⟩] ⟨0, 8, 14, 13⟩ [] rfl (fun z hz => by
            rcases List.mem_singleton.mp hz with rfl
            exact Or.inr ⟨by decide, _, wc_LA_30, (jf_sx F).2.2.2.2.2.2.1⟩) (by decide) (by decide) wc_LA_13 (jf_sx F).2.2.2.2.2.2.2.2.2.1 (fun q9 => ?_)
        refine j_astore_n F (lv1 := [(3, _), (0, _), (1, _), (2, _)]) d_LA_word_14 rfl (by decide) rfl ?_
        refine j_iconst F (v := 2) d_LA_word_15 (by decide) ?_
        exact j_iret F hr (by decide) (by decide) ⟨by rw [hi]; rfl, A1, ⟨g, ho1, fun z => absurd (hi.symm.trans z) (by omega)⟩, fun q hq _ => hf q hq⟩ d_LA_word_16
      | succ i => exact absurd hE (by simp)
  · skip
    intro r M1 hp
    obtain ⟨hc0, rfl, A1, hf⟩ := hp
    have ho1 : M1 oo = some (.inl (G.2.1.2.2, 1, .inr (.inl g))) := (hf oo hBo).trans ho
    refine j_last F ho1 hzo in0_1 d_LA_word_7 ?_
    refine j_goto F (tgt := 17) d_LA_word_8 (by decide) ?_
    refine j_iconst F (v := 0) d_LA_word_17 (by decide) ?_
    exact j_iret F hr (by decide) (by decide) ⟨by rw [hc0]; rfl, cl_mono A1 (fun q e9 hq he => (mp_Un (fun z => hq (by rw [z]; exact hBo))).trans he) (fun q hq => Or.inl hq), ⟨_, mp_Us _ _ _, fun _ => by first | rfl | (rw [show (0 : Int32).toNatClampNeg = 0 from rfl]; exact pk_uLs)⟩, fun q hq hqo => (mp_Un hqo).trans (hf q hq)⟩ d_LA_word_18
end LA1
