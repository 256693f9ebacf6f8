/-- one version's place and size -/
def mod_L (a : Nat) (p z : Int32) (w : no_T) : no_T := if w.1 = a then (w.1, w.2.1, (w.2.2.1, w.2.2.2.1, p, z)) else w
theorem mod_1 (a : Nat) (p z : Int32) (w : no_T) : (mod_L a p z w).1 = w.1 := by unfold mod_L; split <;> rfl
theorem mod_2 (a : Nat) (p z : Int32) (w : no_T) : (mod_L a p z w).2.1 = w.2.1 := by unfold mod_L; split <;> rfl
theorem tr_mod {G : gv_T} {M M1 : mp_T} {a : Nat} {p z : Int32} (hf : ∀ q, q ≠ a → M1 q = M q) (ha : ∀ ka e ht l r, M a = some (vE ka e ht l r) → M1 a = some (vE ka (e.1, e.2.1, p, z) ht l r)) (d : Nat) : ∀ {r : Option Nat} {L : List no_T} {h : Nat}, (∀ q w, M q = some (.inl w) → M1 q = some (.inl w)) → tr G M d r L h → tr G M1 d r (L.map (mod_L a p z)) h := by
  induction d with
  | zero =>
    intro r L h hk ht
    cases r with
    | none => exact ⟨by rw [ht.1]; rfl, ht.2⟩
    | some b => exact ht
  | succ d ih =>
    intro r L h hk ht
    cases r with
    | none => exact ⟨by rw [ht.1]; rfl, ht.2⟩
    | some b =>
      obtain ⟨ka, e, l, r, Ll, Lr, hl, hr, h1, ⟨kf, h2, h3⟩, h4, h5, rfl, h6⟩ := ht
      by_cases hb : b = a
      · subst hb
        exact ⟨ka, (e.1, e.2.1, p, z), l, r, Ll.map (mod_L b p z), Lr.map (mod_L b p z), hl, hr, ha _ _ _ _ _ h1, ⟨kf, hk _ _ h2, h3⟩, ih hk h4, ih hk h5, by rw [List.map_append, List.map_cons]; simp [mod_L], h6⟩
      · exact ⟨ka, e, l, r, Ll.map (mod_L a p z), Lr.map (mod_L a p z), hl, hr, (hf b hb).trans h1, ⟨kf, hk _ _ h2, h3⟩, ih hk h4, ih hk h5, by rw [List.map_append, List.map_cons]; simp [mod_L, hb], h6⟩
theorem mod_map {L : List no_T} {v : Nat} {y : no_T} (p z : Int32) (nd : (L.map (fun y => y.1)).Nodup) (hy : L[v]? = some y) : (L.map (mod_L y.1 p z)).map (fun y => y.2.2) = pu_set (L.map (fun y => y.2.2)) v p z := by
  apply List.ext_getElem?
  intro i
  rw [set_at, List.getElem?_map, List.getElem?_map, List.getElem?_map]
  cases hi : L[i]? with
  | none => split <;> rfl
  | some w =>
    have hil := (List.getElem?_eq_some_iff.mp hi).1
    have hvl := (List.getElem?_eq_some_iff.mp hy).1
    by_cases hvi : v = i
    · subst hvi
      rw [hi] at hy
      cases hy
      rw [if_pos rfl]
      simp [mod_L]
    · rw [if_neg hvi]
      have hne : w.1 ≠ y.1 := fun z => by
        have e1 := (List.getElem?_eq_some_iff.mp hi).2
        have e2 := (List.getElem?_eq_some_iff.mp hy).2
        have h9 := List.pairwise_iff_getElem.mp nd
        rcases Nat.lt_or_gt_of_ne hvi with g | g
        · exact h9 v i (by rw [List.length_map]; exact hvl) (by rw [List.length_map]; exact hil) g (by rw [List.getElem_map, List.getElem_map, e1, e2]; exact z.symm)
        · exact h9 i v (by rw [List.length_map]; exact hil) (by rw [List.length_map]; exact hvl) g (by rw [List.getElem_map, List.getElem_map, e1, e2]; exact z)
      simp [mod_L, hne]
theorem oc_same {a b : en_T} {k : ke_T} {m : Int32} (h1 : a.1 = b.1) (h2 : a.2.1 = b.2.1) : oc a k m = oc b k m := by unfold oc; rw [h1, h2]
theorem srt_set {es : List en_T} (v : Nat) (p z : Int32) (h : srt es) : srt (pu_set es v p z) := by
  unfold srt at h ⊢
  have key : ∀ e ∈ [()], True := fun _ _ => trivial
  rw [List.pairwise_iff_getElem] at h ⊢
  intro i j hi hj hij
  rw [set_len] at hi hj
  have hs : ∀ q (hq : q < es.length) (hq2 : q < (pu_set es v p z).length), (pu_set es v p z)[q].1 = es[q].1 ∧ (pu_set es v p z)[q].2.1 = es[q].2.1 := by
    intro q hq hq2
    have h9 := set_at (es := es) (v := v) (i := q) (p := p) (z := z)
    rw [List.getElem?_eq_getElem hq2, List.getElem?_eq_getElem hq] at h9
    split at h9
    · have := Option.some.inj h9
      rw [this]
      exact ⟨rfl, rfl⟩
    · have := Option.some.inj h9
      rw [this]
      exact ⟨rfl, rfl⟩
  obtain ⟨a1, a2⟩ := hs i hi (by rw [set_len]; exact hi)
  obtain ⟨b1, b2⟩ := hs j hj (by rw [set_len]; exact hj)
  rw [oc_same a1 a2, b1, b2]
  exact h i j hi hj hij
/-- what isn't before, is behind -/
theorem srt_gt {es : List en_T} {k : ke_T} {m : Int32} (hs : srt es) (hh : ¬ hit es k m = true) {j : Nat} {e : en_T} (hj : fi es k m ≤ j) (he : es[j]? = some e) : 0 < oc e k m := by
  have hjl := (List.getElem?_eq_some_iff.mp he).1
  have hvl : fi es k m < es.length := by omega
  have hv := List.getElem?_eq_getElem hvl
  have h1 := fi_at hv
  have h2 : oc es[fi es k m] k m ≠ 0 := fun z => hh ((hit_of hv).mpr z)
  by_cases hjv : j = fi es k m
  · subst hjv
    rw [hv] at he
    cases he
    omega
  · apply Int.not_le.mp
    intro z
    have h3 := (List.pairwise_iff_getElem.mp hs) (fi es k m) j hvl hjl (by omega)
    rw [List.getElem?_eq_getElem hjl] at he
    cases he
    exact h1 (oc_lt h3 z)
theorem hit_0 {es : List en_T} {k : ke_T} {m : Int32} (hs : srt es) (hh : ¬ hit es k m = true) : ∀ e ∈ es, oc e k m ≠ 0 := by
  intro e he
  obtain ⟨j, hj⟩ := List.getElem?_of_mem he
  by_cases hjv : fi es k m ≤ j
  · have := srt_gt hs hh hjv hj
    omega
  · have := fi_lt (Nat.not_le.mp hjv) hj
    omega
theorem srt_ins {es : List en_T} {x : en_T} (hs : srt es) (hh : ¬ hit es x.1 x.2.1 = true) : srt (pu_ins es (fi es x.1 x.2.1) x) := by
  have hs0 := hs
  unfold srt pu_ins
  have hsp : (es.take (fi es x.1 x.2.1) ++ es.drop (fi es x.1 x.2.1)).Pairwise (fun a b => oc a b.1 b.2.1 < 0) := by rw [List.take_append_drop]; exact hs
  rw [List.pairwise_append] at hsp
  rw [List.pairwise_append, List.pairwise_cons]
  refine ⟨hsp.1, ⟨fun b hb => ?_, hsp.2.1⟩, fun a ha b hb => ?_⟩
  · obtain ⟨j, hj⟩ := List.getElem?_of_mem hb
    rw [List.getElem?_drop] at hj
    exact (oc_anti x b).1.mpr (srt_gt hs0 hh (Nat.le_add_right _ _) hj)
  · rcases List.mem_cons.mp hb with z | z
    · subst z
      obtain ⟨j, hj⟩ := List.getElem?_of_mem ha
      rw [List.getElem?_take] at hj
      split at hj
      · rename_i hjl
        exact fi_lt hjl hj
      · cases hj
    · exact hsp.2.2 a ha b z
theorem in_cur {L : List no_T} {v : Nat} (y : no_T) (hv : v ≤ L.length) (c : Option Nat) : (pu_cur v c).bind (fun i => ((in_L L v y)[i]?).map (fun w => w.1)) = c.bind (fun i => (L[i]?).map (fun w => w.1)) := by
  cases c with
  | none => rfl
  | some i =>
    simp only [pu_cur, Option.map_some, Option.bind_some]
    have hil : ∀ j, j < v → (in_L L v y)[j]? = L[j]? := fun j hj => by
      unfold in_L
      rw [List.getElem?_append_left (by rw [List.length_take]; omega), List.getElem?_take, if_pos hj]
    have hig : ∀ j, v ≤ j → (in_L L v y)[j + 1]? = L[j]? := fun j hj => by
      unfold in_L
      rw [List.getElem?_append_right (by rw [List.length_take]; omega), List.length_take, Nat.min_eq_left hv, show j + 1 - v = (j - v) + 1 by omega, List.getElem?_cons_succ, List.getElem?_drop]
      congr 1
      omega
    by_cases hvi : v ≤ i
    · rw [if_pos hvi, hig i hvi]
    · rw [if_neg hvi, hil i (by omega)]
section MT4
variable {l : Launch} {G : gv_T}
set_option maxHeartbeats 16000000 in
set_option maxRecDepth 100000 in
theorem k_put (hl : l.stackTraces = false) : K_put l G := by
  intro M B x σ a0 a1 a2 A hB
  refine ct_of hl (by decide +kernel) (Nat.le_of_ble_eq_true rfl) ?_
  intro p e s m args below meth c F hr hnm
  obtain ⟨ta, tt, root, L, tf, h, C⟩ := cl_open A
  have hlen := cl_len C
  have C0 := C
  obtain ⟨hx, hta, htt, ht, hmap, hsr, nd, hL, ⟨zx, zta, ztt⟩, ⟨bx, bta, btt⟩, hT, hbt, hok⟩ := C
  have ok0 := hok
  obtain ⟨ok1, ok2, ok3, ok4, ok5⟩ := hok
  have hh := tr_h ht (by omega)
  have hk40 := ky40 C0
  have hxta : ta ≠ x := fun z => by rw [z, hx] at hta; cases hta
  refine j_iload_n F d_MT_put_0 rfl rfl ?_
  refine j_if_lt F (tgt := 27) d_MT_put_1 (by decide) (fun h1 => ?_) (fun h1 => ?_)
  · skip
    have e0 : sp_put a0 a1 a2 σ = (1, 0, σ) := if_pos ((pu_badE _ _ _ _).mpr (Or.inl (h1)))
    rw [e0]
    exact j_throw F (names := ["java/lang/RuntimeException", "java/lang/Exception"]) (by decide +kernel) (by decide +kernel) wc_MT_35 wi_IA w3_IA w4_IA (jf_sx F).2.2.2.2.2.2.2.1 wg_IA_35 rfl (by decide) (Nat.le_of_ble_eq_true rfl) (by decide) (by decide) (⟨⟨0, rfl, rfl⟩, A, fun _ _ => rfl⟩) d_MT_put_27 d_MT_put_30 d_MT_put_31 d_MT_put_34
  · skip
    refine j_iload_n F d_MT_put_4 rfl rfl ?_
    refine j_iconst F (v := -1) d_MT_put_5 (by decide) ?_
    refine j_icmp_lt F (tgt := 27) d_MT_put_6 (by decide) (fun h2 => ?_) (fun h2 => ?_)
    · skip
      have e0 : sp_put a0 a1 a2 σ = (1, 0, σ) := if_pos ((pu_badE _ _ _ _).mpr (Or.inr (Or.inl (h2))))
      rw [e0]
      exact j_throw F (names := ["java/lang/RuntimeException", "java/lang/Exception"]) (by decide +kernel) (by decide +kernel) wc_MT_35 wi_IA w3_IA w4_IA (jf_sx F).2.2.2.2.2.2.2.1 wg_IA_35 rfl (by decide) (Nat.le_of_ble_eq_true rfl) (by decide) (by decide) (⟨⟨0, rfl, rfl⟩, A, fun _ _ => rfl⟩) d_MT_put_27 d_MT_put_30 d_MT_put_31 d_MT_put_34
    · skip
      refine j_iload_n F d_MT_put_9 rfl rfl ?_
      refine j_if_lt F (tgt := 27) d_MT_put_10 (by decide) (fun h3 => ?_) (fun h3 => ?_)
      · skip
        have e0 : sp_put a0 a1 a2 σ = (1, 0, σ) := if_pos ((pu_badE _ _ _ _).mpr (Or.inr (Or.inr (Or.inl (h3)))))
        rw [e0]
        exact j_throw F (names := ["java/lang/RuntimeException", "java/lang/Exception"]) (by decide +kernel) (by decide +kernel) wc_MT_35 wi_IA w3_IA w4_IA (jf_sx F).2.2.2.2.2.2.2.1 wg_IA_35 rfl (by decide) (Nat.le_of_ble_eq_true rfl) (by decide) (by decide) (⟨⟨0, rfl, rfl⟩, A, fun _ _ => rfl⟩) d_MT_put_27 d_MT_put_30 d_MT_put_31 d_MT_put_34
      · skip
        refine j_iload_n F d_MT_put_13 rfl rfl ?_
        refine j_sipush F (v := 1000) d_MT_put_14 (by decide) ?_
        refine j_icmp_gt F (tgt := 27) d_MT_put_17 (by decide) (fun h4 => ?_) (fun h4 => ?_)
        · skip
          have e0 : sp_put a0 a1 a2 σ = (1, 0, σ) := if_pos ((pu_badE _ _ _ _).mpr (Or.inr (Or.inr (Or.inr (Or.inl (h4))))))
          rw [e0]
          exact j_throw F (names := ["java/lang/RuntimeException", "java/lang/Exception"]) (by decide +kernel) (by decide +kernel) wc_MT_35 wi_IA w3_IA w4_IA (jf_sx F).2.2.2.2.2.2.2.1 wg_IA_35 rfl (by decide) (Nat.le_of_ble_eq_true rfl) (by decide) (by decide) (⟨⟨0, rfl, rfl⟩, A, fun _ _ => rfl⟩) d_MT_put_27 d_MT_put_30 d_MT_put_31 d_MT_put_34
        · skip
          refine j_aload_n F d_MT_put_20 rfl rfl ?_
          refine j_callV F 0 (c_MT_tapeIsKey hl hx ok1) hx rfl wl_MT_38 wim_MT_tapeIsKey wse_MT_tapeIsKey wi_MT wco_MT_tapeIsKey (by decide +kernel) (by decide) rfl rfl (Nat.le_of_ble_eq_true rfl) (by decide) (by decide) d_MT_put_21 (fun E M1 hx => hx.elim) (fun r M1 hp => ?_)
          obtain ⟨rfl, rfl⟩ := hp
          refine j_if_ne F (tgt := 35) d_MT_put_24 (by decide) (fun h5 => ?_) (fun h5 => ?_)
          · skip
            have hk : 1 ≤ σ.1.length ∧ σ.1.length ≤ 40 := by
              by_cases z : 1 ≤ σ.1.length ∧ σ.1.length ≤ 40
              · exact z
              · rw [if_neg z] at h5; exact absurd rfl h5
            have hnb : ¬ pu_bad a0 a1 a2 σ = true := fun z => by
              rcases (pu_badE _ _ _ _).mp z with z | z | z | z | z | z
              · exact h1 z
              · exact h2 z
              · exact h3 z
              · exact h4 z
              · omega
              · omega
            have hfl := fi_le σ.2.1 σ.1 a0
            refine j_aload_n F d_MT_put_35 rfl rfl ?_
            refine j_callV F 0 (c_MT_takeTape hl hx zx hta hbt hT hk.2) hx rfl wl_MT_42 wim_MT_takeTape wse_MT_takeTape wi_MT wco_MT_takeTape (by decide +kernel) (by decide) rfl rfl (Nat.le_of_ble_eq_true rfl) (by decide) (by decide) d_MT_put_36 (fun E M1 hx => hx.elim) (fun r M1 hp => ?_)
            obtain ⟨kb, rfl, zk, nk, hk1, hx1, hf1⟩ := hp
            have C1 : cl_C G M1 B x ([], σ.2) ta tt root L tf h := cl_reC C0 hx1 ((hf1 ta (fun z => by rw [z, nk] at hta; cases hta) hxta).trans hta) (fun q w y1 y2 y3 => (hf1 q (fun z => by rw [z, nk] at y3; cases y3) y1).trans y3) rfl (tp_nil _) hbt ⟨Nat.zero_le _, fun _ h => (by cases h), ok3, ok4, ok5⟩
            have fB : ∀ q, B q → M1 q = M q := fun q hq => hf1 q (fun z => by obtain ⟨w, hw⟩ := hB q hq; rw [z, nk] at hw; cases hw) (fun z => bx (by rw [← z]; exact hq))
            have nBk : ¬ B kb := fun z => by obtain ⟨w, hw⟩ := hB kb z; rw [nk] at hw; cases hw
            refine j_astore F (lv1 := [(4, _), (0, _), (1, _), (2, _), (3, _)]) d_MT_put_39 (by decide) rfl ?_
            refine j_aload_n F d_MT_put_41 rfl rfl ?_
            refine j_get F C1.1 rfl in_MT 2 (by decide) wf_MT_20 rfl d_MT_put_42 ?_
            refine j_aload F d_MT_put_45 rfl ?_
            refine j_iload_n F d_MT_put_47 rfl rfl ?_
            refine j_iconst F (v := 0) d_MT_put_48 (by decide) ?_
            refine j_callV F 3 (c_TR_firstFrom hl C1.2.2.1 C1.2.2.2.1 (by omega) (fun y hy => by have := hk40 y hy; omega) (by rw [hmap]; exact hsr) (Or.inl hk1) (by omega) (mm := a0) (bb := false)) C1.2.2.1 rfl wl_MT_46 wim_TR_firstFrom wse_TR_firstFrom wi_TR wco_TR_firstFrom (by decide +kernel) (by decide) rfl rfl (Nat.le_of_ble_eq_true rfl) (by decide) (by decide) d_MT_put_49 (fun E M1 hx => hx.elim) (fun r M9 hp => ?_)
            obtain ⟨rfl, rfl⟩ := hp
            rw [hmap, sk_F]
            refine j_astoreq F (lv1 := [(5, _), (4, _), (0, _), (1, _), (2, _), (3, _)]) d_MT_put_52 (by decide) rfl ?_
            refine j_cut (α := Unit) (fun _ => ¬ hit σ.2.1 σ.1 a0 = true) (fun _ => M1) (fun _ => 1) (fun _ => 40) (fun _ => [(5, va_rf ((L[fi σ.2.1 σ.1 a0]?).map (fun y => y.1))), (4, .ref kb), (0, .ref x), (1, .int a0), (2, .int a1), (3, .int a2)]) 90 (fun _ => []) ?_ (fun at90 => ?_)
            · skip
              intro _ hh
              refine j_aload_n F d_MT_put_90 rfl rfl ?_
              refine j_get F C1.1 rfl in_MT 2 (by decide) wf_MT_20 rfl d_MT_put_91 ?_
              refine j_get F C1.2.2.1 rfl in_TR 1 (by decide) wf_MT_62 rfl d_MT_put_94 ?_
              refine j_sipush F (v := 160) d_MT_put_97 (by decide) ?_
              refine j_icmp_lt F (tgt := 111) d_MT_put_100 (by decide) (fun hq1 => ?_) (fun hq1 => ?_)
              · skip
                have hlt : σ.2.1.length < 160 := (nI_ltI (b := 160) (by omega) (by decide)).mp hq1
                have e0 : sp_put a0 a1 a2 σ = (0, nI (σ.2.1.length + 1), ([], pu_ins σ.2.1 (fi σ.2.1 σ.1 a0) (σ.1, a0, a1, a2), pu_cur (fi σ.2.1 σ.1 a0) σ.2.2)) := by
                  unfold sp_put
                  rw [if_neg hnb, if_neg hh, if_neg (by omega)]
                rw [e0]
                refine j_aload_n F d_MT_put_111 rfl rfl ?_
                refine j_get F C1.1 rfl in_MT 2 (by decide) wf_MT_20 rfl d_MT_put_112 ?_
                refine j_new F (ci := 2) (fs := [.null, .int 0, .int 0, .int 0, .int 0, .null, .null]) rfl in_VE ty_VE ok_VE wc_MT_51 win_VE wi_VE (fun j hj => by rcases (show j = 0 ∨ j = 1 ∨ j = 2 ∨ j = 3 ∨ j = 4 ∨ j = 5 ∨ j = 6 by omega) with rfl | rfl | rfl | rfl | rfl | rfl | rfl <;> rfl) (by decide) (by decide) d_MT_put_115 (fun b0 zb nb => ?_)
                refine j_dup F d_MT_put_118 rfl ?_
                refine j_aload F d_MT_put_119 rfl ?_
                refine j_iload_n F d_MT_put_121 rfl rfl ?_
                refine j_iload_n F d_MT_put_122 rfl rfl ?_
                refine j_iload_n F d_MT_put_123 rfl rfl ?_
                refine j_callI F 4 (c_VE_init hl (k := σ.1) (mp_Us _ _ _) zb) wl_MT_68 wim_VE_init wi_VE wco_VE_init rfl (fun v M1 h => by cases h.1) (by decide +kernel) (by decide) rfl rfl (Nat.le_of_ble_eq_true rfl) (by decide) (by decide) d_MT_put_124 (fun M3 hp => ?_)
                obtain ⟨-, hv3, hf3⟩ := hp
                have hM3 : ∀ q w, M1 q = some w → M3 q = some w := fun q w hq => by
                  have hqb : q ≠ b0 := fun z => by rw [z, nb] at hq; cases hq
                  exact (hf3 q hqb).trans ((mp_Un hqb).trans hq)
                have C3 : cl_C G M3 B x ([], σ.2) ta tt root L tf h := cl_x C1 (hM3 _ _ C1.1) (fun q w _ hq => hM3 q w hq) rfl (Or.inl rfl) ok5
                have hkb3 : ky G M3 kb σ.1 := by
                  obtain ⟨kf, w1, w2⟩ := hk1
                  exact ⟨kf, hM3 _ _ w1, w2⟩
                have hadr : ∀ q ∈ ad_L L, ∃ (ka : Nat) (e9 : en_T) (ht9 : Int32) (l9 r9 : Option Nat), M1 q = some (vE ka e9 ht9 l9 r9) := fun q hq => by
                  obtain ⟨y, hy, rfl⟩ := List.mem_map.mp hq
                  obtain ⟨⟨w1, w2, w3, w4⟩, -⟩ := tr_no _ C1.2.2.2.1 y hy
                  exact ⟨_, _, w1, w2, w3, w4⟩
                have hnb0 : b0 ∉ ad_L L := fun z => by
                  obtain ⟨_, _, _, _, _, w⟩ := hadr b0 z
                  rw [nb] at w; cases w
                have hzL : ∀ q ∈ ad_L L, G.2.2.1 ≤ q := fun q hq => by
                  obtain ⟨y, hy, rfl⟩ := List.mem_map.mp hq
                  exact (hL y hy).2.1
                have hne0 : ∀ y ∈ L, oc y.2.2 σ.1 a0 ≠ 0 := fun y hy => hit_0 hsr hh y.2.2 (by rw [← hmap]; exact List.mem_map.mpr ⟨y, hy, rfl⟩)
                refine j_callV F 1 (c_TR_add hl (xb := (σ.1, a0, a1, a2)) C3.2.2.1 ztt C3.2.2.2.1 (by omega) hv3 hkb3 hnb0 nd hzL zb (by rw [hmap]; exact hsr) hne0 (fun y hy => by have := hk40 y hy; omega) (by dsimp only; omega)) C3.2.2.1 rfl wl_MT_71 wim_TR_add wse_TR_add wi_TR wco_TR_add (by decide +kernel) (by decide) rfl rfl (Nat.le_of_ble_eq_true rfl) (by decide) (by decide) d_MT_put_127 (fun E M1 hx => hx.elim) (fun r M4 hp => ?_)
                obtain ⟨rfl, root1, h1', ht4, tr4, ha4, hf4⟩ := hp
                have xtt : x ≠ tt := fun z => by
                  have w := C1.1
                  rw [z, C1.2.2.1] at w
                  cases w
                have xb0 : x ≠ b0 := fun z => by
                  have w := C1.1
                  rw [z, nb] at w
                  cases w
                have xL : x ∉ ad_L L := fun z => by
                  obtain ⟨_, _, _, _, _, w⟩ := hadr x z
                  rw [C1.1] at w
                  cases w
                have hx4 := (hf4 x xb0 xtt xL).trans C3.1
                have hta4 := ha4 _ _ C3.2.1
                rw [hmap] at tr4
                refine j_aload_n F d_MT_put_130 rfl rfl ?_
                refine j_get F hx4 rfl in_MT 2 (by decide) wf_MT_20 rfl d_MT_put_131 ?_
                refine j_get F ht4 rfl in_TR 1 (by decide) wf_MT_62 rfl d_MT_put_134 ?_
                have hpm := in_perm L (fi σ.2.1 σ.1 a0) (b0, kb, (σ.1, a0, a1, a2))
                have hfr : ∀ q, B q → M4 q = M q := fun q hq => by
                  have q1 : q ≠ b0 := fun z => by
                    obtain ⟨w, hw⟩ := hB q hq
                    rw [← fB q hq, z, nb] at hw
                    cases hw
                  have q2 : q ≠ tt := fun z => btt (by rw [← z]; exact hq)
                  have q3 : q ∉ ad_L L := fun z => by
                    obtain ⟨y, hy, rfl⟩ := List.mem_map.mp z
                    exact (hL y hy).2.2.1 hq
                  exact (hf4 q q1 q2 q3).trans ((hf3 q q1).trans ((mp_Un q1).trans (fB q hq)))
                have nB0 : ¬ B b0 := fun z => by
                  obtain ⟨w, hw⟩ := hB b0 z
                  rw [← fB b0 z, nb] at hw
                  cases hw
                refine j_iret F hr (by decide) (by decide) ⟨rfl, rfl, ⟨ta, tt, root1, in_L L (fi σ.2.1 σ.1 a0) (b0, kb, (σ.1, a0, a1, a2)), tf, h1', ?_, hta4, ?_, tr4, ?_, ?_, ?_, ?_, ⟨zx, zta, ztt⟩, ⟨bx, bta, btt⟩, tp_nil _, hbt, ⟨Nat.zero_le _, fun _ h => (by cases h), ?_, ?_, ?_⟩⟩, hfr⟩ d_MT_put_137
                · dsimp only
                  rw [in_cur _ (by omega)]
                  exact hx4
                · dsimp only
                  rw [ins_len hfl]
                  exact ht4
                · rw [in_map, hmap]
                · exact srt_ins (x := (σ.1, a0, a1, a2)) hsr hh
                · exact (hpm.map (fun y => y.1)).nodup_iff.mpr (List.nodup_cons.mpr ⟨hnb0, nd⟩)
                · intro y hy
                  rcases List.mem_cons.mp (hpm.mem_iff.mp hy) with z | z
                  · rw [z]
                    exact ⟨fun z => (by dsimp only at z; rw [z, hta] at nk; cases nk), zb, nB0, nBk⟩
                  · exact hL y z
                · dsimp only
                  rw [ins_len hfl]
                  omega
                · intro e9 he
                  rcases ins_mem he with z | z
                  · rw [z]; exact hk
                  · exact ok4 e9 z
                · intro i hi
                  dsimp only
                  rw [ins_len hfl]
                  exact pu_cl ok5 i hi
              · skip
                have hge : σ.2.1.length = 160 := by
                  have hq1 : ¬ nI σ.2.1.length < 160 := hq1
                  have : ¬ σ.2.1.length < 160 := fun z => hq1 ((nI_ltI (b := 160) (by omega) (by decide)).mpr z)
                  omega
                have e0 : sp_put a0 a1 a2 σ = (2, 0, ([], σ.2)) := by
                  unfold sp_put
                  rw [if_neg hnb, if_neg hh, if_pos hge]
                rw [e0]
                exact j_throw F (names := ["java/lang/RuntimeException", "java/lang/Exception"]) (by decide +kernel) (by decide +kernel) wc_MT_65 wi_IS w3_IS w4_IS (jf_sx F).2.2.2.2.2.2.2.2.1 wg_IS_65 rfl (by decide) (Nat.le_of_ble_eq_true rfl) (by decide) (by decide) (⟨⟨1, rfl, rfl⟩, cl_shut C1, fB⟩) d_MT_put_103 d_MT_put_106 d_MT_put_107 d_MT_put_110
            refine j_aloadq F d_MT_put_54 rfl ?_
            rcases at_L (v := fi σ.2.1 σ.1 a0) hmap with ⟨hv0, hv1⟩ | ⟨y, hv0, hy, hv1, hv2⟩
            · skip
              rw [hv0] at at90 ⊢
              exact j_ifnull F (tgt := 90) d_MT_put_56 (by decide) (fun _ => at90 () (by rw [hit_no hv1]; decide)) (fun z hz => by cases hz)
            · skip
              rw [hv0] at at90 ⊢
              obtain ⟨⟨ht9, l9, r9, hv9⟩, hk9⟩ := tr_no _ C1.2.2.2.1 y hy
              have hy40 := hk40 y hy
              have hzy := (hL y hy).2.1
              refine j_ifnull F (r := some y.1) (tgt := 90) d_MT_put_56 (by decide) (fun hz => by cases hz) (fun z hz => ?_)
              refine j_aload F d_MT_put_59 rfl ?_
              refine j_aload F d_MT_put_61 rfl ?_
              refine j_iload_n F d_MT_put_63 rfl rfl ?_
              refine j_callV F 2 (c_VE_orderOf hl hv9 hk9 (Or.inl hk1) (by omega) (by omega) (mm := a0)) hv9 rfl wl_MT_50 wim_VE_orderOf wse_VE_orderOf wi_VE wco_VE_orderOf (by decide +kernel) (by decide) rfl rfl (Nat.le_of_ble_eq_true rfl) (by decide) (by decide) d_MT_put_64 (fun E M1 hx => hx.elim) (fun r M9 hp => ?_)
              obtain ⟨rfl, d, rfl, hd1, hd2⟩ := hp
              refine j_if_ne F (tgt := 90) d_MT_put_67 (by decide) (fun hq2 => ?_) (fun hq2 => ?_)
              · skip
                exact at90 () (fun z => hq2 (hd2.mpr ((hit_of hv1).mp z)))
              · skip
                have hh : hit σ.2.1 σ.1 a0 = true := (hit_of hv1).mpr (hd2.mp hq2)
                have e0 : sp_put a0 a1 a2 σ = (0, nI σ.2.1.length, ([], pu_set σ.2.1 (fi σ.2.1 σ.1 a0) a1 a2, σ.2.2)) := by
                  unfold sp_put
                  rw [if_neg hnb, if_pos hh]
                rw [e0]
                refine j_aload F d_MT_put_70 rfl ?_
                refine j_iload_n F d_MT_put_72 rfl rfl ?_
                refine j_put F hv9 hzy rfl in_VE ty_VE ok_VE nm_VE 2 (by decide) wf_MT_56 rfl (ty := .int) (by decide +kernel) rfl rfl (Nat.le_of_ble_eq_true rfl) d_MT_put_73 ?_
                refine j_nmW (P := fun M2 => M2 y.1 = some (vE y.2.1 (y.2.2.1, y.2.2.2.1, a1, y.2.2.2.2.2) ht9 l9 r9) ∧ ∀ q, q ≠ y.1 → M2 q = M1 q) ⟨mp_Us _ _ _, fun q hq => mp_Un hq⟩ (fun M2 S2 => ?_)
                refine j_aload F d_MT_put_76 rfl ?_
                refine j_iload_n F d_MT_put_78 rfl rfl ?_
                refine j_put F S2.1 hzy rfl in_VE ty_VE ok_VE nm_VE 3 (by decide) wf_MT_59 rfl (ty := .int) (by decide +kernel) rfl rfl (Nat.le_of_ble_eq_true rfl) d_MT_put_79 ?_
                refine j_nmW (P := fun M2 => M2 y.1 = some (vE y.2.1 (y.2.2.1, y.2.2.2.1, a1, a2) ht9 l9 r9) ∧ ∀ q, q ≠ y.1 → M2 q = M1 q) ⟨mp_Us _ _ _, fun q hq => (mp_Un hq).trans (S2.2 q hq)⟩ (fun M3 S3 => ?_)
                have xy : x ≠ y.1 := fun z => by
                  have w := C1.1
                  rw [z, hv9] at w
                  cases w
                have tty : tt ≠ y.1 := fun z => by
                  have w := C1.2.2.1
                  rw [z, hv9] at w
                  cases w
                have tay : ta ≠ y.1 := fun z => by
                  have w := C1.2.1
                  rw [z, hv9] at w
                  cases w
                have hx3 := (S3.2 x xy).trans C1.1
                have ht3 := (S3.2 tt tty).trans C1.2.2.1
                have har : ∀ q w, M1 q = some (.inl w) → M3 q = some (.inl w) := fun q w hq => (S3.2 q (fun z => by rw [z, hv9] at hq; cases hq)).trans hq
                refine j_aload_n F d_MT_put_82 rfl rfl ?_
                refine j_get F hx3 rfl in_MT 2 (by decide) wf_MT_20 rfl d_MT_put_83 ?_
                refine j_get F ht3 rfl in_TR 1 (by decide) wf_MT_62 rfl d_MT_put_86 ?_
                refine j_iret F hr (by decide) (by decide) ⟨rfl, by dsimp only, ⟨ta, tt, root, L.map (mod_L y.1 a1 a2), tf, h, ?_, (S3.2 ta tay).trans C1.2.1, ?_, tr_mod S3.2 (fun ka e9 ht l r hq => ?_) h har C1.2.2.2.1, ?_, srt_set _ _ _ hsr, ?_, ?_, ⟨zx, zta, ztt⟩, ⟨bx, bta, btt⟩, tp_nil _, hbt, ⟨Nat.zero_le _, fun _ h => (by cases h), ?_, ?_, ?_⟩⟩, fun q hq => (S3.2 q (fun z => (hL y hy).2.2.1 (by rw [← z]; exact hq))).trans (fB q hq)⟩ d_MT_put_89
                · dsimp only
                  have hce : (fun c : Nat => ((L.map (mod_L y.1 a1 a2))[c]?).map (fun y : no_T => y.1)) = (fun c : Nat => (L[c]?).map (fun y : no_T => y.1)) := by
                    funext c
                    rw [List.getElem?_map]
                    cases L[c]? with
                    | none => rfl
                    | some w => simp only [Option.map_some, mod_1]
                  rw [hce]
                  exact hx3
                · dsimp only
                  rw [set_len]
                  exact ht3
                · rw [hv9] at hq
                  have hE : vE y.2.1 y.2.2 ht9 l9 r9 = vE ka e9 ht l r := Option.some.inj hq
                  have hE1 := Sum.inr.inj hE
                  simp only [Prod.mk.injEq, List.cons.injEq, Value.ref.injEq, Value.int.injEq, and_true, true_and] at hE1
                  obtain ⟨w1, w2, -, -, w5, w6, w7⟩ := hE1
                  rw [S3.1]
                  unfold vE
                  dsimp only
                  rw [w1, w2, w5, w6, w7]
                · rw [mod_map _ _ nd hv0, hmap]
                · have hce : (L.map (mod_L y.1 a1 a2)).map (fun y => y.1) = L.map (fun y => y.1) := by
                    rw [List.map_map]
                    apply List.map_congr_left
                    intro w _
                    exact mod_1 _ _ _ w
                  rw [hce]
                  exact nd
                · intro w hw
                  obtain ⟨w0, hw0, rfl⟩ := List.mem_map.mp hw
                  rw [mod_1, mod_2]
                  exact hL w0 hw0
                · dsimp only
                  rw [set_len]
                  exact ok3
                · intro e9 he
                  obtain ⟨e8, w1, w2, -⟩ := set_mem he
                  rw [w2]
                  exact ok4 e8 w1
                · intro i hi
                  dsimp only
                  rw [set_len]
                  exact ok5 i hi
          · skip
            have hk : ¬ (1 ≤ σ.1.length ∧ σ.1.length ≤ 40) := fun z => by
              rw [if_pos z] at h5
              exact absurd h5 (by decide)
            have e0 : sp_put a0 a1 a2 σ = (1, 0, σ) := if_pos ((pu_badE _ _ _ _).mpr (by
              by_cases z : σ.1.length < 1
              · exact Or.inr (Or.inr (Or.inr (Or.inr (Or.inl z))))
              · exact Or.inr (Or.inr (Or.inr (Or.inr (Or.inr (by omega)))))))
            rw [e0]
            exact j_throw F (names := ["java/lang/RuntimeException", "java/lang/Exception"]) (by decide +kernel) (by decide +kernel) wc_MT_35 wi_IA w3_IA w4_IA (jf_sx F).2.2.2.2.2.2.2.1 wg_IA_35 rfl (by decide) (Nat.le_of_ble_eq_true rfl) (by decide) (by decide) (⟨⟨0, rfl, rfl⟩, A, fun _ _ => rfl⟩) d_MT_put_27 d_MT_put_30 d_MT_put_31 d_MT_put_34
/-- all that is asked of the subject -/
theorem K_proved (l : Launch) (hl : l.stackTraces = false) (G : gv_T) : K_all l G := ⟨k_init hl, k_feed hl, k_end hl, k_put hl, k_find hl, k_seek hl, k_next hl, k_first hl, k_current hl, k_word hl, k_clear hl, k_count hl⟩
end MT4
