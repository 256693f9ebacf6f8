/-- a version that the search passes by -/
def sk_P (k : ke_T) (m : Int32) (b : Bool) (e : en_T) : Prop := oc e k m < 0 ∨ (b = true ∧ oc e k m = 0)
theorem sk_of {es : List en_T} {k : ke_T} {m : Int32} {b : Bool} {n : Nat} (hs : srt es) (h1 : ∀ i e, i < n → es[i]? = some e → sk_P k m b e) (hn : n ≤ es.length) (h2 : ∀ e, es[n]? = some e → ¬ sk_P k m b e) : n = sk_v es k m b := by
  have hfl := fi_le es k m
  have hle : fi es k m ≤ n := by
    apply Nat.not_lt.mp
    intro z
    have hz : n < es.length := by omega
    exact h2 _ (List.getElem?_eq_getElem hz) (Or.inl (fi_lt z (List.getElem?_eq_getElem hz)))
  unfold sk_v
  by_cases hh : hit es k m = true
  · have hv := hit_le hh
    have he := List.getElem?_eq_getElem hv
    have h0 := (hit_of he).mp hh
    cases b with
    | false =>
      simp only [Bool.false_and]
      rw [if_neg (by decide)]
      apply Nat.le_antisymm _ hle
      apply Nat.not_lt.mp
      intro z
      rcases h1 _ _ z he with w | w
      · exact fi_at he w
      · cases w.1
    | true =>
      simp only [Bool.true_and]
      rw [if_pos hh]
      apply Nat.le_antisymm
      · apply Nat.not_lt.mp
        intro z
        have hz : fi es k m + 1 < es.length := by omega
        have h9 : oc es[fi es k m] es[fi es k m + 1].1 es[fi es k m + 1].2.1 < 0 := (List.pairwise_iff_getElem.mp hs) _ _ hv hz (Nat.lt_succ_self _)
        have h8 : oc es[fi es k m + 1] k m ≤ 0 := by
          rcases h1 _ _ z (List.getElem?_eq_getElem hz) with w | w
          · omega
          · omega
        have := oc_lt h9 h8
        omega
      · apply Nat.not_lt.mp
        intro z
        have hne : n = fi es k m := by omega
        rw [hne] at h2
        exact h2 _ he (Or.inr ⟨rfl, h0⟩)
  · rw [if_neg (by simp [hh])]
    apply Nat.le_antisymm _ hle
    apply Nat.not_lt.mp
    intro z
    have hv : fi es k m < es.length := by omega
    have he := List.getElem?_eq_getElem hv
    rcases h1 _ _ z he with w | w
    · exact fi_at he w
    · exact hh ((hit_of he).mpr w.2)
section FF1
variable {l : Launch} {G : gv_T} {M : mp_T}
set_option maxHeartbeats 4000000 in
set_option maxRecDepth 100000 in
theorem c_TR_firstFrom (hl : l.stackTraces = false) {tt ok : Nat} {root : Option Nat} {nv mm : Int32} {bb : Bool} {L : List no_T} {h : Nat} {k : ke_T} (htt : M tt = some (.inr (1, [va_rf root, .int nv]))) (ht : tr G M h root L h) (hh : h ≤ 40) (h60 : ∀ y ∈ L, y.2.2.1.length ≤ 60) (hs : srt (L.map (fun y => y.2.2))) (hk : ka_R G M ok k) (hk60 : k.length ≤ 60) : ct_C l G y_TR_firstFrom b_TR_firstFrom 8 (some (.object "MomentTree$Version")) { frames := 3, cells := 0, slots := 0, locals := 67 } [.ref tt, .ref ok, .int mm, .int (if bb then 1 else 0)] M (fun v M1 => M = M1 ∧ v = some (va_rf ((L[sk_v (L.map (fun y => y.2.2)) k mm bb]?).map (fun y => y.1)))) (fun _ _ => False) := by
  refine ct_of hl (by decide +kernel) (Nat.le_of_ble_eq_true rfl) ?_
  intro p e s m args below meth c F hr hnm
  refine j_null F d_TR_firstFrom_0 ?_
  refine j_astoreq F (r := none) (lv1 := [(4, va_rf none), (0, .ref tt), (1, .ref ok), (2, .int mm), (3, .int (if bb then 1 else 0))]) d_TR_firstFrom_1 (by decide) rfl ?_
  refine j_aload_n F d_TR_firstFrom_3 rfl rfl ?_
  refine j_get F htt rfl in_TR 0 (by decide) wf_TR_7 rfl d_TR_firstFrom_4 ?_
  refine j_astoreqC F (lv1 := [(5, _), (4, _), (0, _), (1, _), (2, _), (3, _)]) d_TR_firstFrom_7 (by decide) (by simp [rf_cat, ca_r, ca_i, ca_n]) rfl ?_
  refine j_iconst F (v := 0) d_TR_firstFrom_9 (by decide) ?_
  refine j_istoreC F (lv1 := [(6, _), (5, _), (4, _), (0, _), (1, _), (2, _), (3, _)]) d_TR_firstFrom_10 (by decide) (by simp [rf_cat, ca_r, ca_i, ca_n]) rfl ?_
  refine j_lv (lv1 := [(6, .int (nI 0)), (5, va_rf root), (4, va_rf none), (0, .ref tt), (1, .ref ok), (2, .int mm), (3, .int (if bb then 1 else 0))]) rfl ?_
  refine j_ind (α := Nat × Option Nat × Option Nat) (fun x => 41 - x.1) (fun _ => M) (fun _ => 0) (fun _ => 0) (fun x => [(6, .int (nI x.1)), (5, va_rf x.2.1), (4, va_rf x.2.2), (0, .ref tt), (1, .ref ok), (2, .int mm), (3, .int (if bb then 1 else 0))]) (fun _ => []) (fun x => ∃ (Lp Lc Ls : List no_T) (hc : Nat), L = Lp ++ Lc ++ Ls ∧ tr G M hc x.2.1 Lc hc ∧ x.1 + hc ≤ 40 ∧ (∀ y ∈ Lp, sk_P k mm bb y.2.2) ∧ (∀ y, Ls.head? = some y → ¬ sk_P k mm bb y.2.2) ∧ x.2.2 = Ls.head?.map (fun y => y.1)) ?_ (0, root, none) ⟨[], L, [], h, by simp, ht, by dsimp only; omega, fun y hy => (by cases hy), fun y hy => (by cases hy), rfl⟩
  intro x hx ih
  obtain ⟨dep, cat, fst⟩ := x
  obtain ⟨Lp, Lc, Ls, hc, hL, htc, hdp, hp1, hs1, hf⟩ := hx
  dsimp only at htc hdp hf ⊢
  refine j_aloadq F d_TR_firstFrom_12 rfl ?_
  cases cat with
  | none =>
    have hLc : Lc = [] := by
      cases hc <;> exact htc.1
    subst hLc
    rw [List.append_nil] at hL
    refine j_ifnull F (tgt := 74) d_TR_firstFrom_14 (by decide) (fun _ => ?_) (fun x hx => by cases hx)
    refine j_aloadq F d_TR_firstFrom_74 rfl ?_
    have hn : Lp.length = sk_v (L.map (fun y => y.2.2)) k mm bb := by
      refine sk_of hs (fun i e hi he => ?_) (by rw [hL]; simp) (fun e he => ?_)
      · rw [hL, List.map_append, List.getElem?_append_left (by simpa using hi), List.getElem?_map] at he
        cases h9 : Lp[i]? with
        | none => rw [h9] at he; cases he
        | some y => rw [h9] at he; cases he; exact hp1 y (List.mem_of_getElem? h9)
      · rw [hL, List.map_append, List.getElem?_append_right (by simp), List.length_map, Nat.sub_self, List.getElem?_map] at he
        cases h9 : Ls[0]? with
        | none => rw [h9] at he; cases he
        | some y => rw [h9] at he; cases he; exact hs1 y (by rw [List.head?_eq_getElem?]; exact h9)
    refine j_aret F hr (Or.inl ⟨_, rfl⟩) (rf_or _) (Nat.le_refl _) (Nat.le_refl _) ⟨rfl, ?_⟩ d_TR_firstFrom_76
    rw [← hn, hf, hL, List.getElem?_append_right (Nat.le_refl _), Nat.sub_self, List.head?_eq_getElem?]
  | some a =>
    cases hc with
    | zero => exact htc.elim
    | succ hc =>
      obtain ⟨ka, e0, lc, rc, Ll, Lr, h1, h2, hv, hky, htl, htr, rfl, hhc, g1, g2⟩ := htc
      have b1 := tr_le _ htl
      have b2 := tr_le _ htr
      have hmx : (a, ka, e0) ∈ L := by rw [hL]; simp
      have hx60 := h60 _ hmx
      refine j_ifnull F (r := some a) (tgt := 74) d_TR_firstFrom_14 (by decide) (fun hx => by cases hx) (fun x hx => ?_)
      refine j_iload F d_TR_firstFrom_17 rfl ?_
      refine j_bipush F (v := 40) d_TR_firstFrom_19 (by decide) ?_
      refine j_icmp_ge F (tgt := 74) d_TR_firstFrom_21 (by decide) (fun hc9 => ?_) (fun hc9 => ?_)
      · have := (nI_leI (a := 40) (by decide) (by omega)).mp hc9
        omega
      refine j_aload F d_TR_firstFrom_24 rfl ?_
      refine j_aload_n F d_TR_firstFrom_26 rfl rfl ?_
      refine j_iload_n F d_TR_firstFrom_27 rfl rfl ?_
      refine j_callV F 2 (c_VE_orderOf hl hv hky hk hx60 hk60 (mm := mm)) hv rfl wl_TR_17 wim_VE_orderOf wse_VE_orderOf wi_VE wco_VE_orderOf (by decide +kernel) (by decide) rfl rfl (Nat.le_of_ble_eq_true rfl) (by decide) (by decide) d_TR_firstFrom_28 (fun E M1 hx => hx.elim) (fun r M1 hp => ?_)
      obtain ⟨rfl, d, rfl, hd1, hd2⟩ := hp
      refine j_istore F (lv1 := [(7, _), (6, _), (5, _), (4, _), (0, _), (1, _), (2, _), (3, _)]) d_TR_firstFrom_31 (by decide) rfl ?_
      refine j_cut (α := Option Nat × Option Nat) (fun z => ∃ (Lp Lc Ls : List no_T) (h9 : Nat), L = Lp ++ Lc ++ Ls ∧ tr G M h9 z.1 Lc h9 ∧ dep + 1 + h9 ≤ 40 ∧ (∀ y ∈ Lp, sk_P k mm bb y.2.2) ∧ (∀ y, Ls.head? = some y → ¬ sk_P k mm bb y.2.2) ∧ z.2 = Ls.head?.map (fun y => y.1)) (fun _ => M) (fun _ => 0) (fun _ => 0) (fun z => [(5, va_rf z.1), (4, va_rf z.2), (7, .int d), (6, .int (nI dep)), (0, .ref tt), (1, .ref ok), (2, .int mm), (3, .int (if bb then 1 else 0))]) 68 (fun _ => []) ?_ (fun at68 => ?_)
      · skip
        intro z hz
        obtain ⟨z1, z2⟩ := z
        dsimp only
        refine j_iincC F (lv1 := [(6, _), (5, va_rf z1), (4, va_rf z2), (7, _), (0, .ref tt), (1, .ref ok), (2, .int mm), (3, .int (if bb then 1 else 0))]) d_TR_firstFrom_68 rfl (nI_1 dep) (by decide) (by simp [rf_cat, ca_r, ca_i, ca_n]) rfl ?_
        refine j_sub [0, 1, 2, 4, 5, 6, 7] rfl ?_
        refine j_goto F (tgt := 12) d_TR_firstFrom_71 (by decide) ?_
        exact ih (dep + 1, z1, z2) hz (by dsimp only; omega)
      refine j_cut (α := Unit) (fun _ => ¬ sk_P k mm bb e0) (fun _ => M) (fun _ => 0) (fun _ => 0) (fun _ => [(7, .int d), (6, .int (nI dep)), (5, .ref a), (4, va_rf fst), (0, .ref tt), (1, .ref ok), (2, .int mm), (3, .int (if bb then 1 else 0))]) 47 (fun _ => []) ?_ (fun at47 => ?_)
      · skip
        intro _ hno
        refine j_aload F d_TR_firstFrom_47 rfl ?_
        refine j_astoreq F (r := some a) (lv1 := [(4, va_rf (some a)), (7, .int d), (6, .int (nI dep)), (5, .ref a), (0, .ref tt), (1, .ref ok), (2, .int mm), (3, .int (if bb then 1 else 0))]) d_TR_firstFrom_49 (by decide) rfl ?_
        refine j_aload F d_TR_firstFrom_51 rfl ?_
        refine j_get F hv rfl in_VE 5 (by decide) wf_TR_23 rfl d_TR_firstFrom_53 ?_
        refine j_astoreqC F (lv1 := [(5, va_rf lc), (4, va_rf (some a)), (7, .int d), (6, .int (nI dep)), (0, .ref tt), (1, .ref ok), (2, .int mm), (3, .int (if bb then 1 else 0))]) d_TR_firstFrom_56 (by decide) (by simp [rf_cat, ca_r, ca_i, ca_n]) rfl ?_
        refine j_goto F (tgt := 68) d_TR_firstFrom_58 (by decide) ?_
        exact at68 (lc, some a) ⟨Lp, Ll, (a, ka, e0) :: (Lr ++ Ls), h1, by rw [hL]; simp, tr_fuel _ htl (Nat.le_refl _), by omega, hp1, fun y hy => by cases hy; exact hno, rfl⟩
      refine j_cut (α := Unit) (fun _ => sk_P k mm bb e0) (fun _ => M) (fun _ => 0) (fun _ => 0) (fun _ => [(7, .int d), (6, .int (nI dep)), (5, .ref a), (4, va_rf fst), (0, .ref tt), (1, .ref ok), (2, .int mm), (3, .int (if bb then 1 else 0))]) 61 (fun _ => []) ?_ (fun at61 => ?_)
      · skip
        intro _ hyes
        refine j_aload F d_TR_firstFrom_61 rfl ?_
        refine j_get F hv rfl in_VE 6 (by decide) wf_TR_26 rfl d_TR_firstFrom_63 ?_
        refine j_astoreqC F (lv1 := [(5, va_rf rc), (7, .int d), (6, .int (nI dep)), (4, va_rf fst), (0, .ref tt), (1, .ref ok), (2, .int mm), (3, .int (if bb then 1 else 0))]) d_TR_firstFrom_66 (by decide) (by simp [rf_cat, ca_r, ca_i, ca_n]) rfl ?_
        refine j_sub (lv1 := [(5, va_rf rc), (4, va_rf fst), (7, .int d), (6, .int (nI dep)), (0, .ref tt), (1, .ref ok), (2, .int mm), (3, .int (if bb then 1 else 0))]) [0, 3, 1, 2, 4, 5, 6, 7] rfl ?_
        have hle : oc e0 k mm ≤ 0 := by
          rcases hyes with w | w <;> omega
        refine at68 (rc, fst) ⟨Lp ++ Ll ++ [(a, ka, e0)], Lr, Ls, h2, by rw [hL]; simp, tr_fuel _ htr (Nat.le_refl _), by omega, fun y hy => ?_, hs1, hf⟩
        rcases List.mem_append.mp hy with w | w
        · rcases List.mem_append.mp w with w | w
          · exact hp1 y w
          · refine Or.inl (oc_lt ?_ hle)
            unfold srt at hs
            rw [hL, List.append_assoc, List.append_assoc, List.map_append, List.pairwise_append, List.map_append, List.pairwise_append] at hs
            exact hs.2.1.2.2 y.2.2 (List.mem_map.mpr ⟨y, w, rfl⟩) e0 (by simp)
        · rw [List.mem_singleton.mp w]; exact hyes
      refine j_iload F d_TR_firstFrom_33 rfl ?_
      refine j_if_lt F (tgt := 47) d_TR_firstFrom_35 (by decide) (fun hq1 => ?_) (fun hq1 => ?_)
      · skip
        exact at47 () (fun z => by
          have := hd1.mp hq1
          rcases z with w | w <;> omega)
      · skip
        refine j_iload F d_TR_firstFrom_38 rfl ?_
        refine j_if_ne F (tgt := 61) d_TR_firstFrom_40 (by decide) (fun hq2 => ?_) (fun hq2 => ?_)
        · skip
          exact at61 () (by
            have h1 : ¬ 0 < oc e0 k mm := fun z => hq1 (hd1.mpr z)
            have h2 : ¬ oc e0 k mm = 0 := fun z => hq2 (hd2.mpr z)
            exact Or.inl (by omega))
        · skip
          refine j_iload_n F d_TR_firstFrom_43 rfl rfl ?_
          refine j_if_ne F (tgt := 61) d_TR_firstFrom_44 (by decide) (fun hq3 => ?_) (fun hq3 => ?_)
          · skip
            exact at61 () (Or.inr ⟨by cases bb with
              | true => rfl
              | false => exact absurd rfl hq3, hd2.mp hq2⟩)
          · skip
            exact at47 () (fun z => by
              have h0 := hd2.mp hq2
              rcases z with w | w
              · omega
              · rw [w.1] at hq3
                exact absurd hq3 (by decide))
end FF1
