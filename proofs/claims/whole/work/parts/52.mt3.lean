theorem cl_reC {G : gv_T} {M M1 : mp_T} {B : Nat → Prop} {x : Nat} {σ σ1 : sg_T} {ta tt : Nat} {root : Option Nat} {L : List no_T} {tf tf1 : Nat → Int32} {h : Nat} (C : cl_C G M B x σ ta tt root L tf h)
    (hx1 : M1 x = some (xE ta (nI σ1.1.length) tt (σ1.2.2.bind (fun c => (L[c]?).map (fun y => y.1))))) (hta1 : M1 ta = some (.inl (G.2.1.1, 60, .inl tf1))) (hf : ∀ q w, q ≠ x → q ≠ ta → M q = some w → M1 q = some w) (he : σ1.2.1 = σ.2.1) (hT1 : tp_R σ1.1 tf1) (hb1 : by_Q tf1) (ok1 : sg_ok σ1) : cl_C G M1 B x σ1 ta tt root L tf1 h := by
  obtain ⟨hx, hta, htt, ht, hmap, hsr, nd, hL, hz, hB, hT, hbt, hok⟩ := C
  have hk := tr_no _ ht
  refine ⟨hx1, hta1, ?_, ?_, ?_, ?_, nd, hL, hz, hB, hT1, hb1, ok1⟩
  · rw [he]
    exact hf tt _ (fun z => by rw [z, hx] at htt; cases htt) (fun z => by rw [z, hta] at htt; cases htt) htt
  · refine tr_mono _ ht (fun y hy => ⟨fun e hq => ?_, fun e hq => ?_⟩)
    · obtain ⟨⟨w1, w2, w3, w4⟩, -⟩ := hk y hy
      exact hf _ _ (fun z => by rw [z, hx] at w4; cases w4) (fun z => by rw [z, hta] at w4; cases w4) hq
    · obtain ⟨-, kf, w4, -⟩ := hk y hy
      exact hf _ _ (fun z => by rw [z, hx] at w4; cases w4) (hL y hy).1 hq
  · rw [he]; exact hmap
  · rw [he]; exact hsr
/-- x's cell alone is written -/
theorem cl_x {G : gv_T} {M M1 : mp_T} {B : Nat → Prop} {x : Nat} {σ σ1 : sg_T} {ta tt : Nat} {root : Option Nat} {L : List no_T} {tf : Nat → Int32} {h : Nat} (C : cl_C G M B x σ ta tt root L tf h) (hx1 : M1 x = some (xE ta (nI σ1.1.length) tt (σ1.2.2.bind (fun c => (L[c]?).map (fun y => y.1))))) (hf : ∀ q w, q ≠ x → M q = some w → M1 q = some w) (he : σ1.2.1 = σ.2.1) (h1 : σ1.1 = [] ∨ σ1.1 = σ.1) (hc : ∀ c, σ1.2.2 = some c → c < σ.2.1.length) : cl_C G M1 B x σ1 ta tt root L tf h := by
  have hxt : ta ≠ x := fun z => by
    have h1 := C.1
    rw [← z, C.2.1] at h1
    cases h1
  have hT := C.2.2.2.2.2.2.2.2.2.2.1
  have ok := C.2.2.2.2.2.2.2.2.2.2.2.2
  refine cl_reC C hx1 (hf ta _ hxt C.2.1) (fun q w y1 _ y3 => hf q w y1 y3) he ?_ C.2.2.2.2.2.2.2.2.2.2.2.1 ⟨?_, ?_, by rw [he]; exact ok.2.2.1, by rw [he]; exact ok.2.2.2.1, by rw [he]; exact hc⟩
  · rcases h1 with z | z
    · rw [z]; exact tp_nil _
    · rw [z]; exact hT
  · rcases h1 with z | z
    · rw [z]; exact Nat.zero_le _
    · rw [z]; exact ok.1
  · rcases h1 with z | z
    · rw [z]; exact fun _ h => (by cases h)
    · rw [z]; exact ok.2.1
theorem sk_nx {es : List en_T} {c : Nat} {e : en_T} (hs : srt es) (he : es[c]? = some e) : sk_v es e.1 e.2.1 true = c + 1 := by
  have hcl : c < es.length := (List.getElem?_eq_some_iff.mp he).1
  have hpw := List.pairwise_iff_getElem.mp hs
  have hec : es[c] = e := by
    have := List.getElem?_eq_getElem hcl
    rw [he] at this
    exact (Option.some.inj this).symm
  refine (sk_of hs (fun i e1 hi h1 => ?_) hcl (fun e1 h1 => ?_)).symm
  · have hil : i < es.length := by omega
    rw [List.getElem?_eq_getElem hil] at h1
    cases h1
    by_cases hic : i = c
    · subst hic
      refine Or.inr ⟨rfl, ?_⟩
      rw [hec]
      have h0 : kc e.1 e.1 = 0 := by
        have := kc_neg e.1 e.1
        omega
      rw [oc_m h0, if_neg Int32.lt_irrefl, if_neg Int32.lt_irrefl]
    · have := hpw i c hil hcl (by omega)
      rw [hec] at this
      exact Or.inl this
  · have hil : c + 1 < es.length := (List.getElem?_eq_some_iff.mp h1).1
    rw [List.getElem?_eq_getElem hil] at h1
    cases h1
    have h2 := hpw c (c + 1) hcl hil (Nat.lt_succ_self _)
    rw [hec] at h2
    have h3 := (oc_anti _ _).1.mp h2
    rintro (z | z) <;> omega
theorem fi_0 {es : List en_T} (h : ∀ e ∈ es, 1 ≤ e.1.length) : fi es [] 0 = 0 := by
  cases es with
  | nil => rfl
  | cons e t =>
    have h1 := h e List.mem_cons_self
    have hk : kc e.1 [] = 1 := by
      cases he : e.1 with
      | nil => rw [he] at h1; exact absurd h1 (by decide)
      | cons a s => rfl
    have ho : oc e [] 0 = 1 := by rw [oc_k (by omega), hk]
    simp [fi, ho]
theorem sk_F (es : List en_T) (k : ke_T) (m : Int32) : sk_v es k m false = fi es k m := by unfold sk_v; rw [Bool.false_and]; rfl
theorem at_L {L : List no_T} {es : List en_T} {v : Nat} (hm : L.map (fun y => y.2.2) = es) : (L[v]? = none ∧ es.length ≤ v) ∨ ∃ y, L[v]? = some y ∧ y ∈ L ∧ es[v]? = some y.2.2 ∧ v < es.length := by
  subst hm
  cases h : L[v]? with
  | none => exact Or.inl ⟨rfl, by rw [List.length_map]; exact List.getElem?_eq_none_iff.mp h⟩
  | some y => exact Or.inr ⟨y, rfl, List.mem_of_getElem? h, by rw [List.getElem?_map, h]; rfl, by rw [List.length_map]; exact (List.getElem?_eq_some_iff.mp h).1⟩
section MT3
variable {l : Launch} {G : gv_T}
set_option maxHeartbeats 8000000 in
set_option maxRecDepth 100000 in
theorem k_seek (hl : l.stackTraces = false) : K_seek l G := by
  intro M B x σ a0 bb A hB
  refine ct_of hl (by decide +kernel) (Nat.le_of_ble_eq_true rfl) ?_
  intro p e s m args below meth c F hr hnm
  obtain ⟨ta, tt, root, L, tf, h, C⟩ := cl_open A
  have hlen := cl_len C
  have C0 := C
  obtain ⟨hx, hta, htt, ht, hmap, hsr, nd, hL, ⟨zx, zta, ztt⟩, ⟨bx, bta, btt⟩, hT, hbt, hok⟩ := C
  have ok0 := hok
  obtain ⟨ok1, ok2, ok3, ok4, ok5⟩ := hok
  have hh := tr_h ht (by omega)
  have hk40 := ky40 C0
  have hxta : ta ≠ x := fun z => by rw [z, hx] at hta; cases hta
  refine j_aload_n F d_MT_seek_0 rfl rfl ?_
  refine j_get F hx rfl in_MT 1 (by decide) wf_MT_13 rfl d_MT_seek_1 ?_
  refine j_bipush F (v := 40) d_MT_seek_4 (by decide) ?_
  refine j_icmp_le F (tgt := 17) d_MT_seek_6 (by decide) (fun hc => ?_) (fun hc => ?_)
  · skip
    have hk : σ.1.length ≤ 40 := (nI_leI (b := 40) (by omega) (by decide)).mp hc
    have hs : sp_seek a0 bb σ = go_to σ.2.1 [] 2 (sk_v σ.2.1 σ.1 a0 bb) true := if_neg (by omega)
    refine j_aload_n F d_MT_seek_17 rfl rfl ?_
    refine j_aload_n F d_MT_seek_18 rfl rfl ?_
    refine j_get F hx rfl in_MT 2 (by decide) wf_MT_20 rfl d_MT_seek_19 ?_
    refine j_aload_n F d_MT_seek_22 rfl rfl ?_
    refine j_callV F 0 (c_MT_takeTape hl hx zx hta hbt hT hk) hx rfl wl_MT_42 wim_MT_takeTape wse_MT_takeTape wi_MT wco_MT_takeTape (by decide +kernel) (by decide) rfl rfl (Nat.le_of_ble_eq_true rfl) (by decide) (by decide) d_MT_seek_23 (fun E M1 hx => hx.elim) (fun r M1 hp => ?_)
    obtain ⟨kb, rfl, zk, nk, hk1, hx1, hf1⟩ := hp
    have C1 : cl_C G M1 B x ([], σ.2) ta tt root L tf h := cl_reC C0 hx1 ((hf1 ta (fun z => by rw [z, nk] at hta; cases hta) hxta).trans hta) (fun q w y1 y2 y3 => (hf1 q (fun z => by rw [z, nk] at y3; cases y3) y1).trans y3) rfl (tp_nil _) hbt ⟨Nat.zero_le _, fun _ h => (by cases h), ok3, ok4, ok5⟩
    have fB : ∀ q, B q → M1 q = M q := fun q hq => hf1 q (fun z => by obtain ⟨w, hw⟩ := hB q hq; rw [z, nk] at hw; cases hw) (fun z => bx (by rw [← z]; exact hq))
    refine j_iload_n F d_MT_seek_26 rfl rfl ?_
    refine j_iload_n F d_MT_seek_27 rfl rfl ?_
    refine j_callV F 3 (c_TR_firstFrom hl C1.2.2.1 C1.2.2.2.1 (by omega) (fun y hy => by have := hk40 y hy; omega) (by rw [hmap]; exact hsr) (Or.inl hk1) (by omega) (mm := a0) (bb := bb)) C1.2.2.1 rfl wl_MT_46 wim_TR_firstFrom wse_TR_firstFrom wi_TR wco_TR_firstFrom (by decide +kernel) (by decide) rfl rfl (Nat.le_of_ble_eq_true rfl) (by decide) (by decide) d_MT_seek_28 (fun E M1 hx => hx.elim) (fun r M9 hp => ?_)
    obtain ⟨rfl, rfl⟩ := hp
    rw [hmap]
    rcases at_L (v := sk_v σ.2.1 σ.1 a0 bb) hmap with ⟨hv0, hv1⟩ | ⟨y, hv0, hy, hv1, hv2⟩
    · skip
      rw [hv0]
      have e0 : sp_seek a0 bb σ = (2, 0, ([], σ.2.1, none)) := hs.trans (go_no (Or.inl hv1))
      rw [e0]
      refine j_callV F 1 (c_MT_goTo0 hl hx1 zx) hx1 rfl wl_MT_82 wim_MT_goTo wse_MT_goTo wi_MT wco_MT_goTo (by decide +kernel) (by decide) rfl rfl (Nat.le_of_ble_eq_true rfl) (by decide) (by decide) d_MT_seek_31 (fun E M2 hx2 => ?_) (fun r M2 hp => hp.elim)
      obtain ⟨rfl, hx2, hf2⟩ := hx2
      exact j_out F rfl (by decide) (by decide) ⟨⟨1, rfl, rfl⟩, cl_shut (cl_x C1 (σ1 := ([], σ.2.1, none)) hx2 (fun q w y1 y3 => (hf2 q y1).trans y3) rfl (Or.inl rfl) (fun c hc => by cases hc)), fun q hq => (hf2 q (fun z => bx (by rw [← z]; exact hq))).trans (fB q hq)⟩
    · skip
      rw [hv0]
      have e0 : sp_seek a0 bb σ = (0, y.2.2.2.2.1, ([], σ.2.1, some (sk_v σ.2.1 σ.1 a0 bb))) := hs.trans (go_ok hv1)
      rw [e0]
      obtain ⟨⟨ht9, l9, r9, hv9⟩, -⟩ := tr_no _ C1.2.2.2.1 y hy
      refine j_callV F 1 (c_MT_goTo1 hl hx1 zx hv9) hx1 rfl wl_MT_82 wim_MT_goTo wse_MT_goTo wi_MT wco_MT_goTo (by decide +kernel) (by decide) rfl rfl (Nat.le_of_ble_eq_true rfl) (by decide) (by decide) d_MT_seek_31 (fun E M1 hx => hx.elim) (fun r M2 hp => ?_)
      obtain ⟨rfl, hx2, hf2⟩ := hp
      exact j_iret F hr (by decide) (by decide) ⟨rfl, rfl, cl_shut (cl_x C1 (σ1 := ([], σ.2.1, some (sk_v σ.2.1 σ.1 a0 bb))) (by rw [Option.bind_some, hv0]; exact hx2) (fun q w y1 y3 => (hf2 q y1).trans y3) rfl (Or.inl rfl) (fun c hc => by cases hc; exact hv2)), fun q hq => (hf2 q (fun z => bx (by rw [← z]; exact hq))).trans (fB q hq)⟩ d_MT_seek_34
  · skip
    have hk : 40 < σ.1.length := Nat.not_le.mp (fun z => hc ((nI_leI (b := 40) (by omega) (by decide)).mpr z))
    have e0 : sp_seek a0 bb σ = (1, 0, σ) := if_pos hk
    rw [e0]
    exact j_throw F (names := ["java/lang/RuntimeException", "java/lang/Exception"]) (by decide +kernel) (by decide +kernel) wc_MT_35 wi_IA w3_IA w4_IA (jf_sx F).2.2.2.2.2.2.2.1 wg_IA_35 rfl (by decide) (Nat.le_of_ble_eq_true rfl) (by decide) (by decide) (⟨⟨0, rfl, rfl⟩, A, fun _ _ => rfl⟩) d_MT_seek_9 d_MT_seek_12 d_MT_seek_13 d_MT_seek_16
set_option maxHeartbeats 8000000 in
set_option maxRecDepth 100000 in
theorem k_find (hl : l.stackTraces = false) : K_find l G := by
  intro M B x σ a0 A hB
  refine ct_of hl (by decide +kernel) (Nat.le_of_ble_eq_true rfl) ?_
  intro p e s m args below meth c F hr hnm
  obtain ⟨ta, tt, root, L, tf, h, C⟩ := cl_open A
  have hlen := cl_len C
  have C0 := C
  obtain ⟨hx, hta, htt, ht, hmap, hsr, nd, hL, ⟨zx, zta, ztt⟩, ⟨bx, bta, btt⟩, hT, hbt, hok⟩ := C
  have ok0 := hok
  obtain ⟨ok1, ok2, ok3, ok4, ok5⟩ := hok
  have hh := tr_h ht (by omega)
  have hk40 := ky40 C0
  have hxta : ta ≠ x := fun z => by rw [z, hx] at hta; cases hta
  refine j_aload_n F d_MT_find_0 rfl rfl ?_
  refine j_callV F 0 (c_MT_tapeIsKey hl hx ok1) hx rfl wl_MT_38 wim_MT_tapeIsKey wse_MT_tapeIsKey wi_MT wco_MT_tapeIsKey (by decide +kernel) (by decide) rfl rfl (Nat.le_of_ble_eq_true rfl) (by decide) (by decide) d_MT_find_1 (fun E M1 hx => hx.elim) (fun r M1 hp => ?_)
  obtain ⟨rfl, rfl⟩ := hp
  refine j_if_ne F (tgt := 15) d_MT_find_4 (by decide) (fun hc => ?_) (fun hc => ?_)
  · skip
    have hk : 1 ≤ σ.1.length ∧ σ.1.length ≤ 40 := by
      by_cases z : 1 ≤ σ.1.length ∧ σ.1.length ≤ 40
      · exact z
      · rw [if_neg z] at hc; exact absurd rfl hc
    have hs : sp_find a0 σ = go_to σ.2.1 [] 2 (fi σ.2.1 σ.1 a0) (of_key σ.2.1 σ.1 (fi σ.2.1 σ.1 a0)) := if_neg (by omega)
    refine j_aload_n F d_MT_find_15 rfl rfl ?_
    refine j_callV F 0 (c_MT_takeTape hl hx zx hta hbt hT hk.2) hx rfl wl_MT_42 wim_MT_takeTape wse_MT_takeTape wi_MT wco_MT_takeTape (by decide +kernel) (by decide) rfl rfl (Nat.le_of_ble_eq_true rfl) (by decide) (by decide) d_MT_find_16 (fun E M1 hx => hx.elim) (fun r M1 hp => ?_)
    obtain ⟨kb, rfl, zk, nk, hk1, hx1, hf1⟩ := hp
    have C1 : cl_C G M1 B x ([], σ.2) ta tt root L tf h := cl_reC C0 hx1 ((hf1 ta (fun z => by rw [z, nk] at hta; cases hta) hxta).trans hta) (fun q w y1 y2 y3 => (hf1 q (fun z => by rw [z, nk] at y3; cases y3) y1).trans y3) rfl (tp_nil _) hbt ⟨Nat.zero_le _, fun _ h => (by cases h), ok3, ok4, ok5⟩
    have fB : ∀ q, B q → M1 q = M q := fun q hq => hf1 q (fun z => by obtain ⟨w, hw⟩ := hB q hq; rw [z, nk] at hw; cases hw) (fun z => bx (by rw [← z]; exact hq))
    refine j_astore_n F (lv1 := [(2, _), (0, _), (1, _)]) d_MT_find_19 rfl (by decide) rfl ?_
    refine j_aload_n F d_MT_find_20 rfl rfl ?_
    refine j_get F C1.1 rfl in_MT 2 (by decide) wf_MT_20 rfl d_MT_find_21 ?_
    refine j_aload_n F d_MT_find_24 rfl rfl ?_
    refine j_iload_n F d_MT_find_25 rfl rfl ?_
    refine j_iconst F (v := 0) d_MT_find_26 (by decide) ?_
    refine j_callV F 3 (c_TR_firstFrom hl C1.2.2.1 C1.2.2.2.1 (by omega) (fun y hy => by have := hk40 y hy; omega) (by rw [hmap]; exact hsr) (Or.inl hk1) (by omega) (mm := a0) (bb := false)) C1.2.2.1 rfl wl_MT_46 wim_TR_firstFrom wse_TR_firstFrom wi_TR wco_TR_firstFrom (by decide +kernel) (by decide) rfl rfl (Nat.le_of_ble_eq_true rfl) (by decide) (by decide) d_MT_find_27 (fun E M1 hx => hx.elim) (fun r M9 hp => ?_)
    obtain ⟨rfl, rfl⟩ := hp
    rw [hmap, sk_F]
    refine j_astore_nq F (lv1 := [(3, _), (2, _), (0, _), (1, _)]) d_MT_find_30 rfl (by decide) rfl ?_
    refine j_aload_nq F d_MT_find_31 rfl rfl ?_
    rcases at_L (v := fi σ.2.1 σ.1 a0) hmap with ⟨hv0, hv1⟩ | ⟨y, hv0, hy, hv1, hv2⟩
    · skip
      rw [hv0]
      refine j_ifnull F (tgt := 50) d_MT_find_32 (by decide) (fun _ => ?_) (fun z hz => by cases hz)
      have e0 : sp_find a0 σ = (2, 0, ([], σ.2.1, none)) := hs.trans (go_no (Or.inl hv1))
      rw [e0]
      refine j_iconst F (v := 0) d_MT_find_50 (by decide) ?_
      refine j_istoreC F (lv1 := [(4, _), (3, _), (2, _), (0, _), (1, _)]) d_MT_find_51 (by decide) (by simp [rf_cat, ca_r, ca_i, ca_n]) rfl ?_
      refine j_aload_n F d_MT_find_53 rfl rfl ?_
      refine j_iload F d_MT_find_54 rfl ?_
      refine j_if_eq F (tgt := 63) d_MT_find_56 (by decide) (fun _ => ?_) (fun hq => absurd rfl hq)
      refine j_null F d_MT_find_63 ?_
      refine j_callV F 1 (c_MT_goTo0 hl hx1 zx) hx1 rfl wl_MT_82 wim_MT_goTo wse_MT_goTo wi_MT wco_MT_goTo (by decide +kernel) (by decide) rfl rfl (Nat.le_of_ble_eq_true rfl) (by decide) (by decide) d_MT_find_64 (fun E M2 hx2 => ?_) (fun r M2 hp => hp.elim)
      obtain ⟨rfl, hx2, hf2⟩ := hx2
      exact j_out F rfl (by decide) (by decide) ⟨⟨1, rfl, rfl⟩, cl_shut (cl_x C1 (σ1 := ([], σ.2.1, none)) hx2 (fun q w y1 y3 => (hf2 q y1).trans y3) rfl (Or.inl rfl) (fun c hc => by cases hc)), fun q hq => (hf2 q (fun z => bx (by rw [← z]; exact hq))).trans (fB q hq)⟩
    · skip
      rw [hv0]
      obtain ⟨⟨ht9, l9, r9, hv9⟩, hk9⟩ := tr_no _ C1.2.2.2.1 y hy
      have hy40 := hk40 y hy
      refine j_ifnull F (r := some y.1) (tgt := 50) d_MT_find_32 (by decide) (fun hz => by cases hz) (fun z hz => ?_)
      refine j_aload_n F d_MT_find_35 rfl rfl ?_
      refine j_aload_n F d_MT_find_36 rfl rfl ?_
      refine j_get F hv9 rfl in_VE 0 (by decide) wf_MT_75 rfl d_MT_find_37 ?_
      refine j_callS F 2 (c_VE_okeys hl (Or.inl hk1) (Or.inl hk9) (by omega) (by omega)) wl_MT_78 wst_VE_orderOfKeys wi_VE wco_VE_orderOfKeys (by decide +kernel) (by decide) rfl rfl (Nat.le_of_ble_eq_true rfl) (by decide) (by decide) d_MT_find_40 (fun E M1 hx => hx.elim) (fun r M9 hp => ?_)
      obtain ⟨rfl, d, rfl, hd1, hd2⟩ := hp
      have hneg := kc_neg σ.1 y.2.2.1
      refine j_if_ne F (tgt := 50) d_MT_find_43 (by decide) (fun hq3 => ?_) (fun hq3 => ?_)
      · skip
        have e0 : sp_find a0 σ = (2, 0, ([], σ.2.1, none)) := hs.trans (go_no (Or.inr (by unfold of_key; rw [hv1]; simp; intro z; exact hq3 (hd2.mpr (by omega)))))
        rw [e0]
        refine j_iconst F (v := 0) d_MT_find_50 (by decide) ?_
        refine j_istore F (lv1 := [(4, _), (3, _), (2, _), (0, _), (1, _)]) d_MT_find_51 (by decide) rfl ?_
        refine j_aload_n F d_MT_find_53 rfl rfl ?_
        refine j_iload F d_MT_find_54 rfl ?_
        refine j_if_eq F (tgt := 63) d_MT_find_56 (by decide) (fun _ => ?_) (fun hq => absurd rfl hq)
        refine j_null F d_MT_find_63 ?_
        refine j_callV F 1 (c_MT_goTo0 hl hx1 zx) hx1 rfl wl_MT_82 wim_MT_goTo wse_MT_goTo wi_MT wco_MT_goTo (by decide +kernel) (by decide) rfl rfl (Nat.le_of_ble_eq_true rfl) (by decide) (by decide) d_MT_find_64 (fun E M2 hx2 => ?_) (fun r M2 hp => hp.elim)
        obtain ⟨rfl, hx2, hf2⟩ := hx2
        exact j_out F rfl (by decide) (by decide) ⟨⟨1, rfl, rfl⟩, cl_shut (cl_x C1 (σ1 := ([], σ.2.1, none)) hx2 (fun q w y1 y3 => (hf2 q y1).trans y3) rfl (Or.inl rfl) (fun c hc => by cases hc)), fun q hq => (hf2 q (fun z => bx (by rw [← z]; exact hq))).trans (fB q hq)⟩
      · skip
        have h0 := hd2.mp hq3
        have e0 : sp_find a0 σ = (0, y.2.2.2.2.1, ([], σ.2.1, some (fi σ.2.1 σ.1 a0))) := by
          have hof : of_key σ.2.1 σ.1 (fi σ.2.1 σ.1 a0) = true := by unfold of_key; rw [hv1]; simp; omega
          rw [hs, hof]
          exact go_ok hv1
        rw [e0]
        refine j_iconst F (v := 1) d_MT_find_46 (by decide) ?_
        refine j_goto F (tgt := 51) d_MT_find_47 (by decide) ?_
        refine j_istore F (lv1 := [(4, _), (3, _), (2, _), (0, _), (1, _)]) d_MT_find_51 (by decide) rfl ?_
        refine j_aload_n F d_MT_find_53 rfl rfl ?_
        refine j_iload F d_MT_find_54 rfl ?_
        refine j_if_eq F (tgt := 63) d_MT_find_56 (by decide) (fun hq => absurd hq (by decide)) (fun _ => ?_)
        refine j_aload_n F d_MT_find_59 rfl rfl ?_
        refine j_goto F (tgt := 64) d_MT_find_60 (by decide) ?_
        refine j_callV F 1 (c_MT_goTo1 hl hx1 zx hv9) hx1 rfl wl_MT_82 wim_MT_goTo wse_MT_goTo wi_MT wco_MT_goTo (by decide +kernel) (by decide) rfl rfl (Nat.le_of_ble_eq_true rfl) (by decide) (by decide) d_MT_find_64 (fun E M1 hx => hx.elim) (fun r M2 hp => ?_)
        obtain ⟨rfl, hx2, hf2⟩ := hp
        exact j_iret F hr (by decide) (by decide) ⟨rfl, rfl, cl_shut (cl_x C1 (σ1 := ([], σ.2.1, some (fi σ.2.1 σ.1 a0))) (by rw [Option.bind_some, hv0]; exact hx2) (fun q w y1 y3 => (hf2 q y1).trans y3) rfl (Or.inl rfl) (fun c hc => by cases hc; exact hv2)), fun q hq => (hf2 q (fun z => bx (by rw [← z]; exact hq))).trans (fB q hq)⟩ d_MT_find_67
  · skip
    have hk : ¬ (1 ≤ σ.1.length ∧ σ.1.length ≤ 40) := fun z => by
      rw [if_pos z] at hc
      exact absurd hc (by decide)
    have e0 : sp_find a0 σ = (1, 0, σ) := if_pos (by omega)
    rw [e0]
    exact j_throw F (names := ["java/lang/RuntimeException", "java/lang/Exception"]) (by decide +kernel) (by decide +kernel) wc_MT_35 wi_IA w3_IA w4_IA (jf_sx F).2.2.2.2.2.2.2.1 wg_IA_35 rfl (by decide) (Nat.le_of_ble_eq_true rfl) (by decide) (by decide) (⟨⟨0, rfl, rfl⟩, A, fun _ _ => rfl⟩) d_MT_find_7 d_MT_find_10 d_MT_find_11 d_MT_find_14
set_option maxHeartbeats 8000000 in
set_option maxRecDepth 100000 in
theorem k_next (hl : l.stackTraces = false) : K_next l G := by
  intro M B x σ  A hB
  refine ct_of hl (by decide +kernel) (Nat.le_of_ble_eq_true rfl) ?_
  intro p e s m args below meth c F hr hnm
  obtain ⟨ta, tt, root, L, tf, h, C⟩ := cl_open A
  have hlen := cl_len C
  have C0 := C
  obtain ⟨hx, hta, htt, ht, hmap, hsr, nd, hL, ⟨zx, zta, ztt⟩, ⟨bx, bta, btt⟩, hT, hbt, hok⟩ := C
  have ok0 := hok
  obtain ⟨ok1, ok2, ok3, ok4, ok5⟩ := hok
  have hh := tr_h ht (by omega)
  have hk40 := ky40 C0
  have hxta : ta ≠ x := fun z => by rw [z, hx] at hta; cases hta
  refine j_aload_n F d_MT_next_0 rfl rfl ?_
  refine j_aload_n F d_MT_next_1 rfl rfl ?_
  refine j_get F hx rfl in_MT 3 (by decide) wf_MT_24 rfl d_MT_next_2 ?_
  rcases cl_cur C0 with ⟨hn1, hn2, hn3⟩ | ⟨cc0, y0, hn1, hy1, hy2, hn2, hn3⟩
  · skip
    rw [hn2]
    have e0 : sp_next σ = (1, 0, (σ.1, σ.2.1, none)) := by unfold sp_next; rw [hn1]
    rw [e0]
    refine j_ifnonnull F (tgt := 12) d_MT_next_5 (by decide) (fun z hz => by cases hz) (fun hz => ?_)
    refine j_null F d_MT_next_8 ?_
    refine j_goto F (tgt := 34) d_MT_next_9 (by decide) ?_
    refine j_callV F 1 (c_MT_goTo0 hl hx zx) hx rfl wl_MT_82 wim_MT_goTo wse_MT_goTo wi_MT wco_MT_goTo (by decide +kernel) (by decide) rfl rfl (Nat.le_of_ble_eq_true rfl) (by decide) (by decide) d_MT_next_34 (fun E M2 hx2 => ?_) (fun r M2 hp => hp.elim)
    obtain ⟨rfl, hx2, hf2⟩ := hx2
    exact j_out F rfl (by decide) (by decide) ⟨⟨0, rfl, rfl⟩, cl_shut (cl_x C0 (σ1 := (σ.1, σ.2.1, none)) hx2 (fun q w y1 y3 => (hf2 q y1).trans y3) rfl (Or.inr rfl) (fun c hc => by cases hc)), fun q hq => hf2 q (fun z => bx (by rw [← z]; exact hq))⟩
  · skip
    have hxc := hx
    rw [hn2] at hxc ⊢
    have hs : sp_next σ = go_to σ.2.1 σ.1 1 (cc0 + 1) true := by unfold sp_next; rw [hn1]
    obtain ⟨⟨ht8, l8, r8, hv8⟩, hk8⟩ := tr_no _ ht y0 hy2
    have h408 := hk40 y0 hy2
    have hec : σ.2.1[cc0]? = some y0.2.2 := by rw [← hmap, List.getElem?_map, hy1]; rfl
    refine j_ifnonnull F (r := some y0.1) (tgt := 12) d_MT_next_5 (by decide) (fun z hz => ?_) (fun hz => by cases hz)
    refine j_aload_n F d_MT_next_12 rfl rfl ?_
    refine j_get F hxc rfl in_MT 2 (by decide) wf_MT_20 rfl d_MT_next_13 ?_
    refine j_aload_n F d_MT_next_16 rfl rfl ?_
    refine j_get F hxc rfl in_MT 3 (by decide) wf_MT_24 rfl d_MT_next_17 ?_
    refine j_get F hv8 rfl in_VE 0 (by decide) wf_MT_75 rfl d_MT_next_20 ?_
    refine j_aload_n F d_MT_next_23 rfl rfl ?_
    refine j_get F hxc rfl in_MT 3 (by decide) wf_MT_24 rfl d_MT_next_24 ?_
    refine j_get F hv8 rfl in_VE 1 (by decide) wf_MT_86 rfl d_MT_next_27 ?_
    refine j_iconst F (v := 1) d_MT_next_30 (by decide) ?_
    refine j_callV F 3 (c_TR_firstFrom hl htt ht (by omega) (fun y hy => by have := hk40 y hy; omega) (by rw [hmap]; exact hsr) (Or.inl hk8) (by omega) (mm := y0.2.2.2.1) (bb := true)) htt rfl wl_MT_46 wim_TR_firstFrom wse_TR_firstFrom wi_TR wco_TR_firstFrom (by decide +kernel) (by decide) rfl rfl (Nat.le_of_ble_eq_true rfl) (by decide) (by decide) d_MT_next_31 (fun E M1 hx => hx.elim) (fun r M9 hp => ?_)
    obtain ⟨rfl, rfl⟩ := hp
    rw [hmap, sk_nx hsr hec]
    rcases at_L (v := cc0 + 1) hmap with ⟨hv0, hv1⟩ | ⟨y, hv0, hy, hv1, hv2⟩
    · skip
      rw [hv0]
      have e0 : sp_next σ = (1, 0, (σ.1, σ.2.1, none)) := hs.trans (go_no (Or.inl hv1))
      rw [e0]
      refine j_callV F 1 (c_MT_goTo0 hl hx zx) hx rfl wl_MT_82 wim_MT_goTo wse_MT_goTo wi_MT wco_MT_goTo (by decide +kernel) (by decide) rfl rfl (Nat.le_of_ble_eq_true rfl) (by decide) (by decide) d_MT_next_34 (fun E M2 hx2 => ?_) (fun r M2 hp => hp.elim)
      obtain ⟨rfl, hx2, hf2⟩ := hx2
      exact j_out F rfl (by decide) (by decide) ⟨⟨0, rfl, rfl⟩, cl_shut (cl_x C0 (σ1 := (σ.1, σ.2.1, none)) hx2 (fun q w y1 y3 => (hf2 q y1).trans y3) rfl (Or.inr rfl) (fun c hc => by cases hc)), fun q hq => (hf2 q (fun z => bx (by rw [← z]; exact hq))).trans ((fun _ _ => rfl : ∀ q, B q → M q = M q) q hq)⟩
    · skip
      rw [hv0]
      have e0 : sp_next σ = (0, y.2.2.2.2.1, (σ.1, σ.2.1, some (cc0 + 1))) := hs.trans (go_ok hv1)
      rw [e0]
      obtain ⟨⟨ht9, l9, r9, hv9⟩, -⟩ := tr_no _ C0.2.2.2.1 y hy
      refine j_callV F 1 (c_MT_goTo1 hl hx zx hv9) hx rfl wl_MT_82 wim_MT_goTo wse_MT_goTo wi_MT wco_MT_goTo (by decide +kernel) (by decide) rfl rfl (Nat.le_of_ble_eq_true rfl) (by decide) (by decide) d_MT_next_34 (fun E M1 hx => hx.elim) (fun r M2 hp => ?_)
      obtain ⟨rfl, hx2, hf2⟩ := hp
      exact j_iret F hr (by decide) (by decide) ⟨rfl, rfl, cl_shut (cl_x C0 (σ1 := (σ.1, σ.2.1, some (cc0 + 1))) (by rw [Option.bind_some, hv0]; exact hx2) (fun q w y1 y3 => (hf2 q y1).trans y3) rfl (Or.inr rfl) (fun c hc => by cases hc; exact hv2)), fun q hq => (hf2 q (fun z => bx (by rw [← z]; exact hq))).trans ((fun _ _ => rfl : ∀ q, B q → M q = M q) q hq)⟩ d_MT_next_37
set_option maxHeartbeats 8000000 in
set_option maxRecDepth 100000 in
theorem k_first (hl : l.stackTraces = false) : K_first l G := by
  intro M B x σ  A hB
  refine ct_of hl (by decide +kernel) (Nat.le_of_ble_eq_true rfl) ?_
  intro p e s m args below meth c F hr hnm
  obtain ⟨ta, tt, root, L, tf, h, C⟩ := cl_open A
  have hlen := cl_len C
  have C0 := C
  obtain ⟨hx, hta, htt, ht, hmap, hsr, nd, hL, ⟨zx, zta, ztt⟩, ⟨bx, bta, btt⟩, hT, hbt, hok⟩ := C
  have ok0 := hok
  obtain ⟨ok1, ok2, ok3, ok4, ok5⟩ := hok
  have hh := tr_h ht (by omega)
  have hk40 := ky40 C0
  have hxta : ta ≠ x := fun z => by rw [z, hx] at hta; cases hta
  refine j_aload_n F d_MT_first_0 rfl rfl ?_
  refine j_aload_n F d_MT_first_1 rfl rfl ?_
  refine j_get F hx rfl in_MT 2 (by decide) wf_MT_20 rfl d_MT_first_2 ?_
  refine j_gets F wf_MT_89 d_MT_first_5 ?_
  refine j_iconst F (v := 0) d_MT_first_8 (by decide) ?_
  refine j_iconst F (v := 0) d_MT_first_9 (by decide) ?_
  refine j_callV F 3 (c_TR_firstFrom hl htt ht (by omega) (fun y hy => by have := hk40 y hy; omega) (by rw [hmap]; exact hsr) (k := []) (Or.inr ⟨rfl, rfl⟩) (by decide) (mm := 0) (bb := false)) htt rfl wl_MT_46 wim_TR_firstFrom wse_TR_firstFrom wi_TR wco_TR_firstFrom (by decide +kernel) (by decide) rfl rfl (Nat.le_of_ble_eq_true rfl) (by decide) (by decide) d_MT_first_10 (fun E M1 hx => hx.elim) (fun r M9 hp => ?_)
  obtain ⟨rfl, rfl⟩ := hp
  rw [hmap, sk_F, fi_0 (fun e he => (ok4 e he).1)]
  rcases at_L (v := 0) hmap with ⟨hv0, hv1⟩ | ⟨y, hv0, hy, hv1, hv2⟩
  · skip
    rw [hv0]
    have e0 : sp_first σ = (1, 0, (σ.1, σ.2.1, none)) := go_no (Or.inl hv1)
    rw [e0]
    refine j_callV F 1 (c_MT_goTo0 hl hx zx) hx rfl wl_MT_82 wim_MT_goTo wse_MT_goTo wi_MT wco_MT_goTo (by decide +kernel) (by decide) rfl rfl (Nat.le_of_ble_eq_true rfl) (by decide) (by decide) d_MT_first_13 (fun E M2 hx2 => ?_) (fun r M2 hp => hp.elim)
    obtain ⟨rfl, hx2, hf2⟩ := hx2
    exact j_out F rfl (by decide) (by decide) ⟨⟨0, rfl, rfl⟩, cl_shut (cl_x C0 (σ1 := (σ.1, σ.2.1, none)) hx2 (fun q w y1 y3 => (hf2 q y1).trans y3) rfl (Or.inr rfl) (fun c hc => by cases hc)), fun q hq => (hf2 q (fun z => bx (by rw [← z]; exact hq))).trans ((fun _ _ => rfl : ∀ q, B q → M q = M q) q hq)⟩
  · skip
    rw [hv0]
    have e0 : sp_first σ = (0, y.2.2.2.2.1, (σ.1, σ.2.1, some 0)) := go_ok hv1
    rw [e0]
    obtain ⟨⟨ht9, l9, r9, hv9⟩, -⟩ := tr_no _ C0.2.2.2.1 y hy
    refine j_callV F 1 (c_MT_goTo1 hl hx zx hv9) hx rfl wl_MT_82 wim_MT_goTo wse_MT_goTo wi_MT wco_MT_goTo (by decide +kernel) (by decide) rfl rfl (Nat.le_of_ble_eq_true rfl) (by decide) (by decide) d_MT_first_13 (fun E M1 hx => hx.elim) (fun r M2 hp => ?_)
    obtain ⟨rfl, hx2, hf2⟩ := hp
    exact j_iret F hr (by decide) (by decide) ⟨rfl, rfl, cl_shut (cl_x C0 (σ1 := (σ.1, σ.2.1, some (0))) (by rw [Option.bind_some, hv0]; exact hx2) (fun q w y1 y3 => (hf2 q y1).trans y3) rfl (Or.inr rfl) (fun c hc => by cases hc; exact hv2)), fun q hq => (hf2 q (fun z => bx (by rw [← z]; exact hq))).trans ((fun _ _ => rfl : ∀ q, B q → M q = M q) q hq)⟩ d_MT_first_16
end MT3
