theorem wb_tb (n : Nat) : (lN n).toBitVec = BitVec.ofNat 64 n := rfl
theorem wb_inj {a b : Int64} (h : a.toBitVec = b.toBitVec) : a = b := Int64.toBitVec_inj.mp h
theorem wb_tn {n : Nat} (h : n < 2 ^ 64) : (lN n).toBitVec.toNat = n := by rw [wb_tb, BitVec.toNat_ofNat, Nat.mod_eq_of_lt h]
theorem wb_of (x : Int64) : ∃ n, n < 2 ^ 64 ∧ x = lN n := ⟨x.toBitVec.toNat, x.toBitVec.isLt, wb_inj (by rw [wb_tb]; simp)⟩
theorem wb_of32 (x : Int32) : ∃ n, n < 2 ^ 32 ∧ x = nI n := ⟨x.toBitVec.toNat, x.toBitVec.isLt, Int32.toBitVec_inj.mp (by show _ = BitVec.ofNat 32 _; simp)⟩
theorem wb_c : ∀ k, k < 64 → ((nI k).toInt64 &&& 63) = lN k := by decide +kernel
theorem wb_cu : ∀ k, k < 64 → ((nI k).toInt64.toUInt64 &&& Int64.toUInt64 63) = UInt64.ofNat k := by decide +kernel
theorem wb_sm : ∀ k, k < 64 → (BitVec.ofNat 64 k).smod 64 = BitVec.ofNat 64 k := by decide +kernel
theorem wb_pw {a b : Nat} (h : a ≤ b) : 2 ^ b = 2 ^ a * 2 ^ (b - a) := by rw [← Nat.pow_add]; congr 1; omega
theorem wb_lt2 {a b : Nat} (h : a < b) : 2 ^ a < 2 ^ b := Nat.pow_lt_pow_right (by decide) h
theorem wb_mod (n : Nat) : lN n = lN (n % 2 ^ 64) := wb_inj (by rw [wb_tb, wb_tb]; apply BitVec.eq_of_toNat_eq; rw [BitVec.toNat_ofNat, BitVec.toNat_ofNat, Nat.mod_mod])
theorem wb_shr {n k : Nat} (hn : n < 2 ^ 64) (hk : k < 64) : ((lN n).toUInt64 >>> ((nI k).toInt64.toUInt64 &&& Int64.toUInt64 63)).toInt64 = lN (n / 2 ^ k) := by
  rw [wb_cu k hk]
  apply wb_inj
  apply BitVec.eq_of_toNat_eq
  show ((lN n).toUInt64 >>> UInt64.ofNat k).toNat = (BitVec.ofNat 64 _).toNat
  have h1 : (UInt64.ofNat k).toNat = k := by
    show (BitVec.ofNat 64 k).toNat = k
    rw [BitVec.toNat_ofNat, Nat.mod_eq_of_lt (by omega)]
  have h2 : (lN n).toUInt64.toNat = n := wb_tn hn
  rw [UInt64.toNat_shiftRight, h1, h2, Nat.mod_eq_of_lt hk, Nat.shiftRight_eq_div_pow, BitVec.toNat_ofNat, Nat.mod_eq_of_lt (Nat.lt_of_le_of_lt (Nat.div_le_self _ _) hn)]
theorem wb_shl (n : Nat) {k : Nat} (hk : k < 64) : lN n <<< ((nI k).toInt64 &&& 63) = lN (n * 2 ^ k) := by
  rw [wb_c k hk]
  apply wb_inj
  rw [Int64.toBitVec_shiftLeft, wb_tb, wb_tb, wb_tb, wb_sm k hk]
  apply BitVec.eq_of_toNat_eq
  rw [BitVec.shiftLeft_eq', BitVec.toNat_shiftLeft, BitVec.toNat_ofNat, BitVec.toNat_ofNat, BitVec.toNat_ofNat, Nat.mod_eq_of_lt (show k < 2 ^ 64 by omega), Nat.shiftLeft_eq, Nat.mul_mod, Nat.mod_mod, ← Nat.mul_mod]
theorem wb_and {a b : Nat} (ha : a < 2 ^ 64) (hb : b < 2 ^ 64) : lN a &&& lN b = lN (a &&& b) := by
  apply wb_inj
  rw [Int64.toBitVec_and, wb_tb, wb_tb, wb_tb]
  apply BitVec.eq_of_toNat_eq
  rw [BitVec.toNat_and, BitVec.toNat_ofNat, BitVec.toNat_ofNat, BitVec.toNat_ofNat, Nat.mod_eq_of_lt ha, Nat.mod_eq_of_lt hb, Nat.mod_eq_of_lt (Nat.and_lt_two_pow _ hb)]
theorem wb_or {a b : Nat} (ha : a < 2 ^ 64) (hb : b < 2 ^ 64) : lN a ||| lN b = lN (a ||| b) := by
  apply wb_inj
  rw [Int64.toBitVec_or, wb_tb, wb_tb, wb_tb]
  apply BitVec.eq_of_toNat_eq
  rw [BitVec.toNat_or, BitVec.toNat_ofNat, BitVec.toNat_ofNat, BitVec.toNat_ofNat, Nat.mod_eq_of_lt ha, Nat.mod_eq_of_lt hb, Nat.mod_eq_of_lt (Nat.or_lt_two_pow ha hb)]
theorem wo_or (w : Int64) {b : Nat} (hb : b < 256) : w <<< ((8 : Int32).toInt64 &&& 63) ||| (nI b).toInt64 = w * 256 + (nI b).toInt64 := by
  obtain ⟨n, hn, rfl⟩ := wb_of w
  rw [nI_l (by omega), show (8 : Int32) = nI 8 from rfl, wb_shl n (k := 8) (by decide), show (256 : Int64) = lN 256 from rfl, lN_mul, lN_add, show 2 ^ 8 = 256 from rfl, wb_mod (n * 256), wb_or (Nat.mod_lt _ (by decide)) (by omega), wb_mod (n * 256 + b)]
  have h1 : n * 256 % 2 ^ 64 = 2 ^ 8 * (n % 2 ^ 56) := by
    rw [show (2 : Nat) ^ 64 = 256 * 2 ^ 56 from by decide, Nat.mul_comm n 256, Nat.mul_mod_mul_left]
  have h2 : (n * 256 + b) % 2 ^ 64 = 2 ^ 8 * (n % 2 ^ 56) + b := by
    rw [Nat.add_mod, h1, Nat.mod_eq_of_lt (show b < 2 ^ 64 by omega)]
    have h3 : n % 2 ^ 56 < 2 ^ 56 := Nat.mod_lt _ (by decide)
    have h4 : (2 : Nat) ^ 8 = 256 := by decide
    have h5 : (2 : Nat) ^ 56 = 72057594037927936 := by decide
    have h6 : (2 : Nat) ^ 64 = 18446744073709551616 := by decide
    rw [Nat.mod_eq_of_lt (by omega)]
  rw [h1, h2, Nat.two_pow_add_eq_or_of_lt (by omega)]
/-- what cl_A says, its cells by name -/
def cl_C (G : gv_T) (M : mp_T) (B : Nat → Prop) (x : Nat) (σ : sg_T) (ta tt : Nat) (root : Option Nat) (L : List no_T) (tf : Nat → Int32) (h : Nat) : Prop :=
  M x = some (xE ta (nI σ.1.length) tt (σ.2.2.bind (fun c => (L[c]?).map (fun y => y.1)))) ∧ M ta = some (.inl (G.2.1.1, 60, .inl tf)) ∧ M tt = some (.inr (1, [va_rf root, .int (nI σ.2.1.length)])) ∧
  tr G M h root L h ∧ L.map (fun y => y.2.2) = σ.2.1 ∧ srt σ.2.1 ∧ (L.map (fun y => y.1)).Nodup ∧ (∀ y ∈ L, y.2.1 ≠ ta ∧ G.2.2.1 ≤ y.1 ∧ ¬ B y.1 ∧ ¬ B y.2.1) ∧ (G.2.2.1 ≤ x ∧ G.2.2.1 ≤ ta ∧ G.2.2.1 ≤ tt) ∧ (¬ B x ∧ ¬ B ta ∧ ¬ B tt) ∧ tp_R σ.1 tf ∧ by_Q tf ∧ sg_ok σ
theorem cl_open {G : gv_T} {M : mp_T} {B : Nat → Prop} {x : Nat} {σ : sg_T} (A : cl_A G M B x σ) : ∃ (ta tt : Nat) (root : Option Nat) (L : List no_T) (tf : Nat → Int32) (h : Nat), cl_C G M B x σ ta tt root L tf h := A
theorem cl_shut {G : gv_T} {M : mp_T} {B : Nat → Prop} {x : Nat} {σ : sg_T} {ta tt : Nat} {root : Option Nat} {L : List no_T} {tf : Nat → Int32} {h : Nat} (C : cl_C G M B x σ ta tt root L tf h) : cl_A G M B x σ := ⟨ta, tt, root, L, tf, h, C⟩
/-- x's cell and the tape are written, the versions stay -/
theorem cl_re {G : gv_T} {M M1 : mp_T} {B : Nat → Prop} {x : Nat} {σ σ1 : sg_T} {ta tt : Nat} {root : Option Nat} {L : List no_T} {tf tf1 : Nat → Int32} {h : Nat} (C : cl_C G M B x σ ta tt root L tf h)
    (hx1 : M1 x = some (xE ta (nI σ1.1.length) tt (σ1.2.2.bind (fun c => (L[c]?).map (fun y => y.1))))) (hta1 : M1 ta = some (.inl (G.2.1.1, 60, .inl tf1))) (hf : ∀ q w, q ≠ x → q ≠ ta → M q = some w → M1 q = some w) (he : σ1.2.1 = σ.2.1) (hT1 : tp_R σ1.1 tf1) (hb1 : by_Q tf1) (ok1 : sg_ok σ1) : cl_A G M1 B x σ1 := by
  obtain ⟨hx, hta, htt, ht, hmap, hsr, nd, hL, hz, hB, hT, hbt, hok⟩ := C
  have hk := tr_no _ ht
  refine ⟨ta, tt, root, L, tf1, h, hx1, hta1, ?_, ?_, ?_, ?_, nd, hL, hz, hB, hT1, hb1, ok1⟩
  · rw [he]
    exact hf tt _ (fun z => by rw [z, hx] at htt; cases htt) (fun z => by rw [z, hta] at htt; cases htt) htt
  · refine tr_mono _ ht (fun y hy => ⟨fun e hq => ?_, fun e hq => ?_⟩)
    · obtain ⟨⟨w1, w2, w3, w4⟩, -⟩ := hk y hy
      exact hf _ _ (fun z => by rw [z, hx] at w4; cases w4) (fun z => by rw [z, hta] at w4; cases w4) hq
    · obtain ⟨-, kf, w4, -⟩ := hk y hy
      exact hf _ _ (fun z => by rw [z, hx] at w4; cases w4) (hL y hy).1 hq
  · rw [he]; exact hmap
  · rw [he]; exact hsr
theorem cl_len {G : gv_T} {M : mp_T} {B : Nat → Prop} {x : Nat} {σ : sg_T} {ta tt : Nat} {root : Option Nat} {L : List no_T} {tf : Nat → Int32} {h : Nat} (C : cl_C G M B x σ ta tt root L tf h) : L.length = σ.2.1.length := by
  rw [← C.2.2.2.2.1, List.length_map]
/-- the current one -/
theorem cl_cur {G : gv_T} {M : mp_T} {B : Nat → Prop} {x : Nat} {σ : sg_T} {ta tt : Nat} {root : Option Nat} {L : List no_T} {tf : Nat → Int32} {h : Nat} (C : cl_C G M B x σ ta tt root L tf h) : (σ.2.2 = none ∧ σ.2.2.bind (fun c => (L[c]?).map (fun y => y.1)) = none ∧ cu_E σ = none) ∨ ∃ (c : Nat) (y : no_T), σ.2.2 = some c ∧ L[c]? = some y ∧ y ∈ L ∧ σ.2.2.bind (fun c => (L[c]?).map (fun y => y.1)) = some y.1 ∧ cu_E σ = some y.2.2 := by
  have hlen := cl_len C
  obtain ⟨hx, hta, htt, ht, hmap, hsr, nd, hL, hz, hB, hT, hbt, hok⟩ := C
  cases hc : σ.2.2 with
  | none => exact Or.inl ⟨rfl, rfl, cu_none hc⟩
  | some c =>
    have hcl := hok.2.2.2.2 c hc
    have hy := List.getElem?_eq_getElem (l := L) (i := c) (by omega)
    refine Or.inr ⟨c, _, rfl, hy, List.mem_of_getElem? hy, by rw [Option.bind_some, hy]; rfl, ?_⟩
    rw [cu_some hc, ← hmap, List.getElem?_map, hy]
    rfl
theorem ky40 {G : gv_T} {M : mp_T} {B : Nat → Prop} {x : Nat} {σ : sg_T} {ta tt : Nat} {root : Option Nat} {L : List no_T} {tf : Nat → Int32} {h : Nat} (C : cl_C G M B x σ ta tt root L tf h) : ∀ y ∈ L, 1 ≤ y.2.2.1.length ∧ y.2.2.1.length ≤ 40 := by
  obtain ⟨-, -, -, -, hmap, -, -, -, -, -, -, -, hok⟩ := C
  intro y hy
  exact hok.2.2.2.1 y.2.2 (by rw [← hmap]; exact List.mem_map.mpr ⟨y, hy, rfl⟩)
section MT2
variable {l : Launch} {G : gv_T}
set_option maxHeartbeats 8000000 in
set_option maxRecDepth 100000 in
theorem k_init (hl : l.stackTraces = false) : K_init l G := by
  intro M x hx zx
  refine cn_of hl (by decide +kernel) (Nat.le_of_ble_eq_true rfl) ?_
  intro p e s m args below meth c F hr hnm
  refine j_aload_n F d_MT_init_0 rfl rfl ?_
  refine j_obj F wl_MT_1 wim_JO_init wco_JO_init (by decide) (Nat.le_of_ble_eq_true rfl) d_MT_init_1 ?_
  have K0 : kn_2 G M M x (.inr (0, [.null, .int 0, .null, .null])) [] := kn_rf hx
  refine j_aload_n F d_MT_init_4 rfl rfl ?_
  refine j_bipush F (v := 60) d_MT_init_5 (by decide) ?_
  refine j_newb F wa_byte (len := 60) (by decide) (by decide) (by decide) (by decide) (by decide) d_MT_init_7 (fun ta z_ta n_ta => ?_)
  refine j_nmW (P := fun M1 => kn_2 G M M1 x (.inr (0, [.null, .int 0, .null, .null])) [(ta, .inl (G.2.1.1, 60, .inl (fun _ => 0)))]) (kn_new K0 z_ta n_ta) (fun M1 K1 => ?_)
  refine j_putF F K1.1 zx rfl in_MT ty_MT ok_MT nm_MT 0 (by decide) wf_MT_9 rfl hnm rfl (ty := .array .byte) (by decide +kernel) rfl rfl (Nat.le_of_ble_eq_true rfl) d_MT_init_9 ?_
  refine j_nmW (P := fun M1 => kn_2 G M M1 x (.inr (0, [.ref ta, .int 0, .null, .null])) [(ta, .inl (G.2.1.1, 60, .inl (fun _ => 0)))]) (kn_set K1) (fun M2 K2 => ?_)
  refine j_aload_n F d_MT_init_12 rfl rfl ?_
  refine j_iconst F (v := 0) d_MT_init_13 (by decide) ?_
  refine j_put F K2.1 zx rfl in_MT ty_MT ok_MT nm_MT 1 (by decide) wf_MT_13 rfl (ty := .int) (by decide +kernel) rfl rfl (Nat.le_of_ble_eq_true rfl) d_MT_init_14 ?_
  refine j_nmW (P := fun M1 => kn_2 G M M1 x (.inr (0, [.ref ta, .int 0, .null, .null])) [(ta, .inl (G.2.1.1, 60, .inl (fun _ => 0)))]) (kn_set K2) (fun M3 K3 => ?_)
  refine j_aload_n F d_MT_init_17 rfl rfl ?_
  refine j_new F (ci := 1) (fs := [.null, .int 0]) rfl in_TR ty_TR ok_TR wc_MT_17 win_TR wi_TR (fun j hj => by rcases (show j = 0 ∨ j = 1 by omega) with rfl | rfl <;> rfl) (by decide) (by decide) d_MT_init_18 (fun tt z_tt n_tt => ?_)
  refine j_nmW (P := fun M1 => kn_2 G M M1 x (.inr (0, [.ref ta, .int 0, .null, .null])) [(tt, .inr (1, [.null, .int 0])), (ta, .inl (G.2.1.1, 60, .inl (fun _ => 0)))]) (kn_new K3 z_tt n_tt) (fun M4 K4 => ?_)
  have htt4 := (K4.2.1 _ List.mem_cons_self).1
  have hxt := (K4.2.1 _ List.mem_cons_self).2.1
  have hta4 := (K4.2.1 _ (List.mem_cons_of_mem _ List.mem_cons_self)).1
  have hxa := (K4.2.1 _ (List.mem_cons_of_mem _ List.mem_cons_self)).2.1
  refine j_dup F d_MT_init_21 rfl ?_
  refine j_callI F 0 (c_TR_init hl htt4 z_tt) wl_MT_19 wim_TR_init wi_TR wco_TR_init rfl (fun v M1 h => by cases h.1) (by decide +kernel) (by decide) rfl rfl (Nat.le_of_ble_eq_true rfl) (by decide) (by decide) d_MT_init_22 (fun M5 hp => ?_)
  obtain ⟨-, htt5, hf5⟩ := hp
  have hat : ta ≠ tt := fun z => by rw [z] at hta4; rw [htt4] at hta4; cases hta4
  have hx5 := (hf5 x (Ne.symm hxt)).trans K4.1
  have hta5 := (hf5 ta hat).trans hta4
  refine j_putF F hx5 zx rfl in_MT ty_MT ok_MT nm_MT 2 (by decide) wf_MT_20 rfl hnm rfl (ty := .object "MomentTree$Tree") (by decide +kernel) rfl rfl (Nat.le_of_ble_eq_true rfl) d_MT_init_25 ?_
  refine j_nmW (P := fun M6 => M6 x = some (.inr (0, [.ref ta, .int 0, .ref tt, .null])) ∧ ∀ q, q ≠ x → M6 q = M5 q) ⟨mp_Us _ _ _, fun q hq => mp_Un hq⟩ (fun M6 S6 => ?_)
  refine j_aload_n F d_MT_init_28 rfl rfl ?_
  refine j_null F d_MT_init_29 ?_
  refine j_put F S6.1 zx rfl in_MT ty_MT ok_MT nm_MT 3 (by decide) wf_MT_24 rfl (ty := .object "MomentTree$Version") (by decide +kernel) rfl rfl (Nat.le_of_ble_eq_true rfl) d_MT_init_30 ?_
  refine j_nmW (P := fun M7 => M7 x = some (xE ta (nI 0) tt none) ∧ ∀ q, q ≠ x → M7 q = M5 q) ⟨mp_Us _ _ _, fun q hq => (mp_Un hq).trans (S6.2 q hq)⟩ (fun M7 S7 => ?_)
  refine j_cret F hr (by decide) (by decide) ⟨rfl, ⟨ta, tt, none, [], fun _ => 0, 0, S7.1, (S7.2 ta hxa).trans hta5, (S7.2 tt hxt).trans htt5, ⟨rfl, rfl⟩, rfl, List.Pairwise.nil, List.nodup_nil, fun y hy => (by cases hy), ⟨zx, z_ta, z_tt⟩, ⟨fun z => z, fun z => z, fun z => z⟩, tp_nil _, by_0, ⟨Nat.zero_le _, fun _ h => (by cases h), Nat.zero_le _, fun _ h => (by cases h), fun _ h => (by cases h)⟩⟩, fun q e9 hq he => ?_⟩ d_MT_init_33
  have h4 := K4.2.2.2 q e9 hq he
  have hqt : q ≠ tt := fun z => by
    have := (K4.2.1 _ List.mem_cons_self).2.2.2
    dsimp only at this
    rw [z, this] at he
    cases he
  exact (S7.2 q hq).trans ((hf5 q hqt).trans h4)
set_option maxHeartbeats 8000000 in
set_option maxRecDepth 100000 in
theorem k_feed (hl : l.stackTraces = false) : K_feed l G := by
  intro M B x σ a0 a1 a2 a3 a4 A hB
  refine ct_of hl (by decide +kernel) (Nat.le_of_ble_eq_true rfl) ?_
  intro p e s m args below meth c F hr hnm
  obtain ⟨ta, tt, root, L, tf, h, C⟩ := cl_open A
  have hlen := cl_len C
  have C0 := C
  obtain ⟨hx, hta, htt, ht, hmap, hsr, nd, hL, ⟨zx, zta, ztt⟩, ⟨bx, bta, btt⟩, hT, hbt, hok⟩ := C
  have ok0 := hok
  obtain ⟨ok1, ok2, ok3, ok4, ok5⟩ := hok
  refine j_aload_n F d_MT_feed_0 rfl rfl ?_
  refine j_get F hx rfl in_MT 1 (by decide) wf_MT_13 rfl d_MT_feed_1 ?_
  refine j_bipush F (v := 40) d_MT_feed_4 (by decide) ?_
  refine j_icmp_le F (tgt := 17) d_MT_feed_6 (by decide) (fun hc => ?_) (fun hc => ?_)
  · skip
    have hk : σ.1.length ≤ 40 := (nI_leI (b := 40) (by omega) (by decide)).mp hc
    have e0 : sp_feed a0 a1 a2 a3 a4 σ = (0, nI (σ.1.length + 20), (σ.1 ++ by20 a0 a1 a2 a3 a4, σ.2)) := if_neg (by omega)
    rw [e0]
    have l4 : ∀ w, (by4 w).length = 4 := fun w => rfl
    have hxt : x ≠ ta := fun z => by rw [z, hta] at hx; cases hx
    refine j_aload_n F d_MT_feed_17 rfl rfl ?_
    refine j_iload_n F d_MT_feed_18 rfl rfl ?_
    refine j_callV F 1 (c_MT_append hl hx zx zta hta hbt hT (by first | omega | (simp only [List.length_append, l4]; omega)) a0) hx rfl wl_MT_31 wim_MT_append wse_MT_append wi_MT wco_MT_append (by decide +kernel) (by decide) rfl rfl (Nat.le_of_ble_eq_true rfl) (by decide) (by decide) d_MT_feed_19 (fun E M1 hx => hx.elim) (fun r N1 hp => ?_)
    obtain ⟨rfl, tf1, S1, T1, Q1⟩ := hp
    have X1 : N1 x = some (xE ta (nI (σ.1 ++ by4 a0).length) tt (σ.2.2.bind (fun c => (L[c]?).map (fun y => y.1)))) := by rw [List.length_append, l4]; exact S1.1
    refine j_aload_n F d_MT_feed_22 rfl rfl ?_
    refine j_iload_n F d_MT_feed_23 rfl rfl ?_
    refine j_callV F 1 (c_MT_append hl X1 zx zta S1.2.1 Q1 T1 (by first | omega | (simp only [List.length_append, l4]; omega)) a1) X1 rfl wl_MT_31 wim_MT_append wse_MT_append wi_MT wco_MT_append (by decide +kernel) (by decide) rfl rfl (Nat.le_of_ble_eq_true rfl) (by decide) (by decide) d_MT_feed_24 (fun E M1 hx => hx.elim) (fun r N2 hp => ?_)
    obtain ⟨rfl, tf2, S2, T2, Q2⟩ := hp
    have X2 : N2 x = some (xE ta (nI ((σ.1 ++ by4 a0) ++ by4 a1).length) tt (σ.2.2.bind (fun c => (L[c]?).map (fun y => y.1)))) := by rw [List.length_append, l4]; exact S2.1
    refine j_aload_n F d_MT_feed_27 rfl rfl ?_
    refine j_iload_n F d_MT_feed_28 rfl rfl ?_
    refine j_callV F 1 (c_MT_append hl X2 zx zta S2.2.1 Q2 T2 (by first | omega | (simp only [List.length_append, l4]; omega)) a2) X2 rfl wl_MT_31 wim_MT_append wse_MT_append wi_MT wco_MT_append (by decide +kernel) (by decide) rfl rfl (Nat.le_of_ble_eq_true rfl) (by decide) (by decide) d_MT_feed_29 (fun E M1 hx => hx.elim) (fun r N3 hp => ?_)
    obtain ⟨rfl, tf3, S3, T3, Q3⟩ := hp
    have X3 : N3 x = some (xE ta (nI (((σ.1 ++ by4 a0) ++ by4 a1) ++ by4 a2).length) tt (σ.2.2.bind (fun c => (L[c]?).map (fun y => y.1)))) := by rw [List.length_append, l4]; exact S3.1
    refine j_aload_n F d_MT_feed_32 rfl rfl ?_
    refine j_iload F d_MT_feed_33 rfl ?_
    refine j_callV F 1 (c_MT_append hl X3 zx zta S3.2.1 Q3 T3 (by first | omega | (simp only [List.length_append, l4]; omega)) a3) X3 rfl wl_MT_31 wim_MT_append wse_MT_append wi_MT wco_MT_append (by decide +kernel) (by decide) rfl rfl (Nat.le_of_ble_eq_true rfl) (by decide) (by decide) d_MT_feed_35 (fun E M1 hx => hx.elim) (fun r N4 hp => ?_)
    obtain ⟨rfl, tf4, S4, T4, Q4⟩ := hp
    have X4 : N4 x = some (xE ta (nI ((((σ.1 ++ by4 a0) ++ by4 a1) ++ by4 a2) ++ by4 a3).length) tt (σ.2.2.bind (fun c => (L[c]?).map (fun y => y.1)))) := by rw [List.length_append, l4]; exact S4.1
    refine j_aload_n F d_MT_feed_38 rfl rfl ?_
    refine j_iload F d_MT_feed_39 rfl ?_
    refine j_callV F 1 (c_MT_append hl X4 zx zta S4.2.1 Q4 T4 (by first | omega | (simp only [List.length_append, l4]; omega)) a4) X4 rfl wl_MT_31 wim_MT_append wse_MT_append wi_MT wco_MT_append (by decide +kernel) (by decide) rfl rfl (Nat.le_of_ble_eq_true rfl) (by decide) (by decide) d_MT_feed_41 (fun E M1 hx => hx.elim) (fun r N5 hp => ?_)
    obtain ⟨rfl, tf5, S5, T5, Q5⟩ := hp
    have X5 : N5 x = some (xE ta (nI (((((σ.1 ++ by4 a0) ++ by4 a1) ++ by4 a2) ++ by4 a3) ++ by4 a4).length) tt (σ.2.2.bind (fun c => (L[c]?).map (fun y => y.1)))) := by rw [List.length_append, l4]; exact S5.1
    refine j_aload_n F d_MT_feed_44 rfl rfl ?_
    refine j_get F X5 rfl in_MT 1 (by decide) wf_MT_13 rfl d_MT_feed_45 ?_
    have hk5 : (((((σ.1 ++ by4 a0) ++ by4 a1) ++ by4 a2) ++ by4 a3) ++ by4 a4) = σ.1 ++ by20 a0 a1 a2 a3 a4 := by rw [by20_4]; simp only [List.append_assoc]
    have hl5 : (((((σ.1 ++ by4 a0) ++ by4 a1) ++ by4 a2) ++ by4 a3) ++ by4 a4).length = σ.1.length + 20 := by simp only [List.length_append, l4]
    rw [hk5] at T5 X5
    have hfr : ∀ q, q ≠ x → q ≠ ta → N5 q = M q := fun q y1 y2 => (S5.2.2 q y1 y2).trans ((S4.2.2 q y1 y2).trans ((S3.2.2 q y1 y2).trans ((S2.2.2 q y1 y2).trans (S1.2.2 q y1 y2))))
    refine j_iret F hr (by decide) (by decide) ⟨rfl, by rw [hl5], cl_re C0 X5 S5.2.1 (fun q w y1 y2 y3 => (hfr q y1 y2).trans y3) rfl T5 Q5 ⟨?_, ?_, ok3, ok4, ok5⟩, fun q hq => hfr q (fun z => bx (by rw [← z]; exact hq)) (fun z => bta (by rw [← z]; exact hq))⟩ d_MT_feed_48
    · dsimp only
      rw [List.length_append, by20_len]
      omega
    · intro y hy
      rcases List.mem_append.mp hy with z | z
      · exact ok2 y z
      · obtain ⟨q, -, rfl⟩ := List.mem_map.mp z
        exact b1_byte _ _
  · skip
    have hk : 40 < σ.1.length := Nat.not_le.mp (fun z => hc ((nI_leI (b := 40) (by omega) (by decide)).mpr z))
    have e0 : sp_feed a0 a1 a2 a3 a4 σ = (1, 0, σ) := if_pos hk
    rw [e0]
    exact j_throw F (names := ["java/lang/RuntimeException", "java/lang/Exception"]) (by decide +kernel) (by decide +kernel) wc_MT_28 wi_IO w3_IO w4_IO (jf_sx F).2.2.2.2.2.2.2.2.2.1 wg_IO_28 rfl (by decide) (Nat.le_of_ble_eq_true rfl) (by decide) (by decide) (⟨⟨0, rfl, rfl⟩, A, fun _ _ => rfl⟩) d_MT_feed_9 d_MT_feed_12 d_MT_feed_13 d_MT_feed_16
set_option maxHeartbeats 8000000 in
set_option maxRecDepth 100000 in
theorem k_end (hl : l.stackTraces = false) : K_end l G := by
  intro M B x σ a0 A hB
  refine ct_of hl (by decide +kernel) (Nat.le_of_ble_eq_true rfl) ?_
  intro p e s m args below meth c F hr hnm
  obtain ⟨ta, tt, root, L, tf, h, C⟩ := cl_open A
  have hlen := cl_len C
  have C0 := C
  obtain ⟨hx, hta, htt, ht, hmap, hsr, nd, hL, ⟨zx, zta, ztt⟩, ⟨bx, bta, btt⟩, hT, hbt, hok⟩ := C
  have ok0 := hok
  obtain ⟨ok1, ok2, ok3, ok4, ok5⟩ := hok
  refine j_iload_n F d_MT_end_0 rfl rfl ?_
  refine j_if_lt F (tgt := 12) d_MT_end_1 (by decide) (fun hc => ?_) (fun hc => ?_)
  · skip
    have e0 : sp_end a0 σ = (1, 0, σ) := if_pos (Or.inl hc)
    rw [e0]
    exact j_throw F (names := ["java/lang/RuntimeException", "java/lang/Exception"]) (by decide +kernel) (by decide +kernel) wc_MT_35 wi_IA w3_IA w4_IA (jf_sx F).2.2.2.2.2.2.2.1 wg_IA_35 rfl (by decide) (Nat.le_of_ble_eq_true rfl) (by decide) (by decide) (⟨⟨0, rfl, rfl⟩, A, fun _ _ => rfl⟩) d_MT_end_12 d_MT_end_15 d_MT_end_16 d_MT_end_19
  · skip
    refine j_iload_n F d_MT_end_4 rfl rfl ?_
    refine j_aload_n F d_MT_end_5 rfl rfl ?_
    refine j_get F hx rfl in_MT 1 (by decide) wf_MT_13 rfl d_MT_end_6 ?_
    refine j_icmp_le F (tgt := 20) d_MT_end_9 (by decide) (fun hc2 => ?_) (fun hc2 => ?_)
    · skip
      have e0 : sp_end a0 σ = (0, a0, (σ.1.take a0.toNatClampNeg, σ.2)) := if_neg (fun z => z.elim hc (fun z => absurd hc2 (Int32.not_le.mpr z)))
      rw [e0]
      refine j_aload_n F d_MT_end_20 rfl rfl ?_
      refine j_iload_n F d_MT_end_21 rfl rfl ?_
      refine j_put F hx zx rfl in_MT ty_MT ok_MT nm_MT 1 (by decide) wf_MT_13 rfl (ty := .int) (by decide +kernel) rfl rfl (Nat.le_of_ble_eq_true rfl) d_MT_end_22 ?_
      refine j_iload_n F d_MT_end_25 rfl rfl ?_
      obtain ⟨j, hj1, rfl⟩ := nI_of hc
      have hj2 : j ≤ σ.1.length := (nI_leI hj1 (by omega)).mp hc2
      have hl9 : (σ.1.take (nI j).toNatClampNeg).length = j := by rw [nI_clamp hj1, List.length_take]; omega
      have hxt : x ≠ ta := fun z => by rw [z, hta] at hx; cases hx
      refine j_iret F hr (by decide) (by decide) ⟨rfl, rfl, cl_re C0 (σ1 := (σ.1.take (nI j).toNatClampNeg, σ.2)) ?_ ((mp_Un (Ne.symm hxt)).trans hta) (fun q w y1 y2 y3 => (mp_Un y1).trans y3) rfl (tp_take _ hT) hbt ⟨by dsimp only; omega, fun y hy => ok2 y (List.mem_of_mem_take hy), ok3, ok4, ok5⟩, fun q hq => mp_Un (fun z => bx (by rw [← z]; exact hq))⟩ d_MT_end_26
      dsimp only
      rw [hl9]
      exact mp_Us _ _ _
    · skip
      have e0 : sp_end a0 σ = (1, 0, σ) := if_pos (Or.inr (Int32.not_le.mp hc2))
      rw [e0]
      exact j_throw F (names := ["java/lang/RuntimeException", "java/lang/Exception"]) (by decide +kernel) (by decide +kernel) wc_MT_35 wi_IA w3_IA w4_IA (jf_sx F).2.2.2.2.2.2.2.1 wg_IA_35 rfl (by decide) (Nat.le_of_ble_eq_true rfl) (by decide) (by decide) (⟨⟨0, rfl, rfl⟩, A, fun _ _ => rfl⟩) d_MT_end_12 d_MT_end_15 d_MT_end_16 d_MT_end_19
set_option maxHeartbeats 8000000 in
set_option maxRecDepth 100000 in
theorem k_clear (hl : l.stackTraces = false) : K_clear l G := by
  intro M B x σ  A hB
  refine ct_of hl (by decide +kernel) (Nat.le_of_ble_eq_true rfl) ?_
  intro p e s m args below meth c F hr hnm
  obtain ⟨ta, tt, root, L, tf, h, C⟩ := cl_open A
  have hlen := cl_len C
  have C0 := C
  obtain ⟨hx, hta, htt, ht, hmap, hsr, nd, hL, ⟨zx, zta, ztt⟩, ⟨bx, bta, btt⟩, hT, hbt, hok⟩ := C
  have ok0 := hok
  obtain ⟨ok1, ok2, ok3, ok4, ok5⟩ := hok
  refine j_aload_n F d_MT_clear_0 rfl rfl ?_
  refine j_get F hx rfl in_MT 2 (by decide) wf_MT_20 rfl d_MT_clear_1 ?_
  refine j_get F htt rfl in_TR 1 (by decide) wf_MT_62 rfl d_MT_clear_4 ?_
  refine j_istore_n F (lv1 := [(1, _), (0, _)]) d_MT_clear_7 rfl (by decide) rfl ?_
  refine j_aload_n F d_MT_clear_8 rfl rfl ?_
  refine j_get F hx rfl in_MT 2 (by decide) wf_MT_20 rfl d_MT_clear_9 ?_
  refine j_callV F 0 (c_TR_empty hl htt ztt) htt rfl wl_MT_95 wim_TR_empty wse_TR_empty wi_TR wco_TR_empty (by decide +kernel) (by decide) rfl rfl (Nat.le_of_ble_eq_true rfl) (by decide) (by decide) d_MT_clear_12 (fun E M1 hx => hx.elim) (fun r M1 hp => ?_)
  obtain ⟨rfl, ht1, hf1⟩ := hp
  have hxtt : x ≠ tt := fun z => by rw [z, htt] at hx; cases hx
  have htat : ta ≠ tt := fun z => by rw [z, htt] at hta; cases hta
  have hxta : x ≠ ta := fun z => by rw [z, hta] at hx; cases hx
  have hx1 := (hf1 x hxtt).trans hx
  refine j_aload_n F d_MT_clear_15 rfl rfl ?_
  refine j_null F d_MT_clear_16 ?_
  refine j_put F hx1 zx rfl in_MT ty_MT ok_MT nm_MT 3 (by decide) wf_MT_24 rfl (ty := .object "MomentTree$Version") (by decide +kernel) rfl rfl (Nat.le_of_ble_eq_true rfl) d_MT_clear_17 ?_
  refine j_iload_n F d_MT_clear_20 rfl rfl ?_
  refine j_iret F hr (by decide) (by decide) ⟨rfl, rfl, ⟨ta, tt, none, [], tf, 0, mp_Us _ _ _, (mp_Un (Ne.symm hxta)).trans ((hf1 ta htat).trans hta), (mp_Un (Ne.symm hxtt)).trans ht1, ⟨rfl, rfl⟩, rfl, List.Pairwise.nil, List.nodup_nil, fun y hy => (by cases hy), ⟨zx, zta, ztt⟩, ⟨bx, bta, btt⟩, hT, hbt, ⟨ok1, ok2, Nat.zero_le _, fun _ h => (by cases h), fun _ h => (by cases h)⟩⟩, fun q hq => (mp_Un (fun z => bx (by rw [← z]; exact hq))).trans (hf1 q (fun z => btt (by rw [← z]; exact hq)))⟩ d_MT_clear_21
set_option maxHeartbeats 8000000 in
set_option maxRecDepth 100000 in
theorem k_count (hl : l.stackTraces = false) : K_count l G := by
  intro M B x σ  A hB
  refine ct_of hl (by decide +kernel) (Nat.le_of_ble_eq_true rfl) ?_
  intro p e s m args below meth c F hr hnm
  obtain ⟨ta, tt, root, L, tf, h, C⟩ := cl_open A
  have hlen := cl_len C
  have C0 := C
  obtain ⟨hx, hta, htt, ht, hmap, hsr, nd, hL, ⟨zx, zta, ztt⟩, ⟨bx, bta, btt⟩, hT, hbt, hok⟩ := C
  have ok0 := hok
  obtain ⟨ok1, ok2, ok3, ok4, ok5⟩ := hok
  have hh := tr_h ht (by omega)
  have hk40 := ky40 C0
  refine j_aload_n F d_MT_count_0 rfl rfl ?_
  refine j_get F hx rfl in_MT 2 (by decide) wf_MT_20 rfl d_MT_count_1 ?_
  refine j_callV F 0 (c_TR_countIfSound hl htt ht (by omega) (by omega) (fun y hy => by have := hk40 y hy; omega) (by rw [hmap]; exact hsr)) htt rfl wl_MT_98 wim_TR_countIfSound wse_TR_countIfSound wi_TR wco_TR_countIfSound (by decide +kernel) (by decide) rfl rfl (Nat.le_of_ble_eq_true rfl) (by decide) (by decide) d_MT_count_4 (fun E M1 hx => hx.elim) (fun r M1 hp => ?_)
  obtain ⟨rfl, rfl⟩ := hp
  exact j_iret F hr (by decide) (by decide) ⟨rfl, by rw [hlen], A, fun _ _ => rfl⟩ d_MT_count_7
set_option maxHeartbeats 8000000 in
set_option maxRecDepth 100000 in
theorem k_current (hl : l.stackTraces = false) : K_current l G := by
  intro M B x σ a0 A hB
  refine ct_of hl (by decide +kernel) (Nat.le_of_ble_eq_true rfl) ?_
  intro p e s m args below meth c F hr hnm
  obtain ⟨ta, tt, root, L, tf, h, C⟩ := cl_open A
  have hlen := cl_len C
  have C0 := C
  obtain ⟨hx, hta, htt, ht, hmap, hsr, nd, hL, ⟨zx, zta, ztt⟩, ⟨bx, bta, btt⟩, hT, hbt, hok⟩ := C
  have ok0 := hok
  obtain ⟨ok1, ok2, ok3, ok4, ok5⟩ := hok
  refine j_iload_n F d_MT_current_0 rfl rfl ?_
  refine j_if_lt F (tgt := 9) d_MT_current_1 (by decide) (fun hc => ?_) (fun hc => ?_)
  · skip
    have e0 : sp_current a0 σ = (1, 0, σ) := if_pos (Or.inl hc)
    rw [e0]
    exact j_throw F (names := ["java/lang/RuntimeException", "java/lang/Exception"]) (by decide +kernel) (by decide +kernel) wc_MT_35 wi_IA w3_IA w4_IA (jf_sx F).2.2.2.2.2.2.2.1 wg_IA_35 rfl (by decide) (Nat.le_of_ble_eq_true rfl) (by decide) (by decide) (⟨⟨0, rfl, rfl⟩, A, fun _ _ => rfl⟩) d_MT_current_9 d_MT_current_12 d_MT_current_13 d_MT_current_16
  · skip
    refine j_iload_n F d_MT_current_4 rfl rfl ?_
    refine j_iconst F (v := 3) d_MT_current_5 (by decide) ?_
    refine j_icmp_le F (tgt := 17) d_MT_current_6 (by decide) (fun hc2 => ?_) (fun hc2 => ?_)
    · skip
      have hs : sp_current a0 σ = match cu_E σ with
        | none => (2, 0, σ)
        | some e => (0, if a0 = 0 then e.2.1 else if a0 = 1 then e.2.2.1 else if a0 = 2 then e.2.2.2 else nI e.1.length, σ) := if_neg (fun z => z.elim hc (fun z => absurd hc2 (Int32.not_le.mpr z)))
      refine j_aload_n F d_MT_current_17 rfl rfl ?_
      refine j_get F hx rfl in_MT 3 (by decide) wf_MT_24 rfl d_MT_current_18 ?_
      rcases cl_cur C0 with ⟨hn1, hn2, hn3⟩ | ⟨cc0, y, hn1, hy1, hy2, hn2, hn3⟩
      · skip
        rw [hn2]
        have e0 : sp_current a0 σ = (2, 0, σ) := by rw [hs, hn3]
        rw [e0]
        refine j_ifnonnull F (tgt := 32) d_MT_current_21 (by decide) (fun z hz => by cases hz) (fun hz => ?_)
        exact j_throw F (names := ["java/lang/RuntimeException", "java/lang/Exception"]) (by decide +kernel) (by decide +kernel) wc_MT_92 wi_NS w3_NS w4_NS (jf_sx F).2.2.2.2.2.2.2.2.2.2.1 wg_NS_92 rfl (by decide) (Nat.le_of_ble_eq_true rfl) (by decide) (by decide) (⟨⟨1, rfl, rfl⟩, A, fun _ _ => rfl⟩) d_MT_current_24 d_MT_current_27 d_MT_current_28 d_MT_current_31
      · skip
        rw [hn2] at hx ⊢
        have e0 : sp_current a0 σ = (0, if a0 = 0 then y.2.2.2.1 else if a0 = 1 then y.2.2.2.2.1 else if a0 = 2 then y.2.2.2.2.2 else nI y.2.2.1.length, σ) := by rw [hs, hn3]
        rw [e0]
        obtain ⟨⟨ht9, l9, r9, hv⟩, kf9, hk9, -⟩ := tr_no _ ht y hy2
        refine j_ifnonnull F (r := some y.1) (tgt := 32) d_MT_current_21 (by decide) (fun z hz => ?_) (fun hz => by cases hz)
        refine j_iload_n F d_MT_current_32 rfl rfl ?_
        obtain ⟨j, hj1, rfl⟩ := nI_of hc
        have hj2 : j ≤ 3 := (nI_leI (b := 3) hj1 (by decide)).mp hc2
        have hjt : (nI j).toInt = (j : Int) := nI_toInt hj1
        by_cases hj0 : j = 0
        · skip
          subst hj0
          refine j_tableIn F (off := 27) (tgt := 60) d_MT_current_33 (by rw [hjt]; decide) (by rw [hjt]; decide) (by rw [hjt]; rfl) (by decide) ?_
          refine j_aload_n F d_MT_current_60 rfl rfl ?_
          refine j_get F hx rfl in_MT 3 (by decide) wf_MT_24 rfl d_MT_current_61 ?_
          refine j_get F hv rfl in_VE 1 (by decide) wf_MT_86 rfl d_MT_current_64 ?_
          exact j_iret F hr (by decide) (by decide) ⟨rfl, by dsimp only; rw [if_pos (show nI 0 = 0 from rfl)], A, fun _ _ => rfl⟩ d_MT_current_67
        by_cases hj1 : j = 1
        · skip
          subst hj1
          refine j_tableIn F (off := 35) (tgt := 68) d_MT_current_33 (by rw [hjt]; decide) (by rw [hjt]; decide) (by rw [hjt]; rfl) (by decide) ?_
          refine j_aload_n F d_MT_current_68 rfl rfl ?_
          refine j_get F hx rfl in_MT 3 (by decide) wf_MT_24 rfl d_MT_current_69 ?_
          refine j_get F hv rfl in_VE 2 (by decide) wf_MT_56 rfl d_MT_current_72 ?_
          exact j_iret F hr (by decide) (by decide) ⟨rfl, by dsimp only; rw [if_neg (by decide), if_pos (show nI 1 = 1 from rfl)], A, fun _ _ => rfl⟩ d_MT_current_75
        by_cases hj2 : j = 2
        · skip
          subst hj2
          refine j_tableIn F (off := 43) (tgt := 76) d_MT_current_33 (by rw [hjt]; decide) (by rw [hjt]; decide) (by rw [hjt]; rfl) (by decide) ?_
          refine j_aload_n F d_MT_current_76 rfl rfl ?_
          refine j_get F hx rfl in_MT 3 (by decide) wf_MT_24 rfl d_MT_current_77 ?_
          refine j_get F hv rfl in_VE 3 (by decide) wf_MT_59 rfl d_MT_current_80 ?_
          exact j_iret F hr (by decide) (by decide) ⟨rfl, by dsimp only; rw [if_neg (by decide), if_neg (by decide), if_pos (show nI 2 = 2 from rfl)], A, fun _ _ => rfl⟩ d_MT_current_83
        obtain rfl : j = 3 := by omega
        refine j_tableOut F (tgt := 84) d_MT_current_33 (Or.inr (by rw [hjt]; decide)) (by decide) ?_
        refine j_aload_n F d_MT_current_84 rfl rfl ?_
        refine j_get F hx rfl in_MT 3 (by decide) wf_MT_24 rfl d_MT_current_85 ?_
        refine j_get F hv rfl in_VE 0 (by decide) wf_MT_75 rfl d_MT_current_88 ?_
        refine j_blen F hk9 rfl d_MT_current_91 ?_
        exact j_iret F hr (by decide) (by decide) ⟨rfl, by dsimp only; rw [if_neg (by decide), if_neg (by decide), if_neg (by decide)]; rfl, A, fun _ _ => rfl⟩ d_MT_current_92
    · skip
      have e0 : sp_current a0 σ = (1, 0, σ) := if_pos (Or.inr (Int32.not_le.mp hc2))
      rw [e0]
      exact j_throw F (names := ["java/lang/RuntimeException", "java/lang/Exception"]) (by decide +kernel) (by decide +kernel) wc_MT_35 wi_IA w3_IA w4_IA (jf_sx F).2.2.2.2.2.2.2.1 wg_IA_35 rfl (by decide) (Nat.le_of_ble_eq_true rfl) (by decide) (by decide) (⟨⟨0, rfl, rfl⟩, A, fun _ _ => rfl⟩) d_MT_current_9 d_MT_current_12 d_MT_current_13 d_MT_current_16
set_option maxHeartbeats 8000000 in
set_option maxRecDepth 100000 in
theorem k_word (hl : l.stackTraces = false) : K_word l G := by
  intro M B x σ a0 A hB
  refine ct_of hl (by decide +kernel) (Nat.le_of_ble_eq_true rfl) ?_
  intro p e s m args below meth c F hr hnm
  obtain ⟨ta, tt, root, L, tf, h, C⟩ := cl_open A
  have hlen := cl_len C
  have C0 := C
  obtain ⟨hx, hta, htt, ht, hmap, hsr, nd, hL, ⟨zx, zta, ztt⟩, ⟨bx, bta, btt⟩, hT, hbt, hok⟩ := C
  have ok0 := hok
  obtain ⟨ok1, ok2, ok3, ok4, ok5⟩ := hok
  refine j_aload_n F d_MT_word_0 rfl rfl ?_
  refine j_get F hx rfl in_MT 3 (by decide) wf_MT_24 rfl d_MT_word_1 ?_
  rcases cl_cur C0 with ⟨hn1, hn2, hn3⟩ | ⟨cc0, y, hn1, hy1, hy2, hn2, hn3⟩
  · skip
    rw [hn2]
    have e0 : sp_word a0 σ = (1, 0, σ) := by unfold sp_word; rw [hn3]
    rw [e0]
    refine j_ifnonnull F (tgt := 15) d_MT_word_4 (by decide) (fun z hz => by cases hz) (fun hz => ?_)
    exact j_throw F (names := ["java/lang/RuntimeException", "java/lang/Exception"]) (by decide +kernel) (by decide +kernel) wc_MT_92 wi_NS w3_NS w4_NS (jf_sx F).2.2.2.2.2.2.2.2.2.2.1 wg_NS_92 rfl (by decide) (Nat.le_of_ble_eq_true rfl) (by decide) (by decide) (⟨⟨0, rfl, rfl⟩, A, fun _ _ => rfl⟩) d_MT_word_7 d_MT_word_10 d_MT_word_11 d_MT_word_14
  · skip
    rw [hn2] at hx ⊢
    have hs : sp_word a0 σ = if a0 < 0 ∨ nI y.2.2.1.length ≤ a0 then (2, 0, σ) else (0, wo_8 y.2.2.1 a0.toNatClampNeg 8, σ) := by unfold sp_word; rw [hn3]
    obtain ⟨⟨ht9, l9, r9, hv⟩, hk9⟩ := tr_no _ ht y hy2
    have hk40 := ky40 C0 y hy2
    have hka : ka_R G M y.2.1 y.2.2.1 := Or.inl hk9
    refine j_ifnonnull F (r := some y.1) (tgt := 15) d_MT_word_4 (by decide) (fun z hz => ?_) (fun hz => by cases hz)
    refine j_aload_n F d_MT_word_15 rfl rfl ?_
    refine j_get F hx rfl in_MT 3 (by decide) wf_MT_24 rfl d_MT_word_16 ?_
    refine j_get F hv rfl in_VE 0 (by decide) wf_MT_75 rfl d_MT_word_19 ?_
    refine j_astore_n F (lv1 := [(2, _), (0, _), (1, _)]) d_MT_word_22 rfl (by decide) rfl ?_
    refine j_iload_n F d_MT_word_23 rfl rfl ?_
    refine j_if_lt F (tgt := 33) d_MT_word_24 (by decide) (fun hc1 => ?_) (fun hc1 => ?_)
    · skip
      have e0 : sp_word a0 σ = (2, 0, σ) := hs.trans (if_pos (Or.inl hc1))
      rw [e0]
      exact j_throw F (names := ["java/lang/RuntimeException", "java/lang/Exception"]) (by decide +kernel) (by decide +kernel) wc_MT_28 wi_IO w3_IO w4_IO (jf_sx F).2.2.2.2.2.2.2.2.2.1 wg_IO_28 rfl (by decide) (Nat.le_of_ble_eq_true rfl) (by decide) (by decide) (⟨⟨1, rfl, rfl⟩, A, fun _ _ => rfl⟩) d_MT_word_33 d_MT_word_36 d_MT_word_37 d_MT_word_40
    · skip
      refine j_iload_n F d_MT_word_27 rfl rfl ?_
      refine j_aload_n F d_MT_word_28 rfl rfl ?_
      refine j_klen F hka d_MT_word_29 ?_
      refine j_icmp_lt F (tgt := 41) d_MT_word_30 (by decide) (fun hc2 => ?_) (fun hc2 => ?_)
      · skip
        obtain ⟨i0, hi1, rfl⟩ := nI_of hc1
        have hi2 : i0 < y.2.2.1.length := (nI_ltI (by omega) (by omega)).mp hc2
        have e0 : sp_word (nI i0) σ = (0, wo_8 y.2.2.1 i0 8, σ) := by rw [hs, if_neg (fun z => z.elim hc1 (fun z => absurd hc2 (Int32.not_lt.mpr z))), nI_clamp hi1]
        rw [e0]
        refine j_lconst F (v := 0) d_MT_word_41 (by decide) ?_
        refine j_lstore_n F (lv1 := [(3, _), (2, _), (0, _), (1, _)]) d_MT_word_42 rfl (by decide) rfl ?_
        refine j_iload_n F d_MT_word_43 rfl rfl ?_
        refine j_istore F (lv1 := [(5, _), (3, _), (2, _), (0, _), (1, _)]) d_MT_word_44 (by decide) rfl ?_
        refine j_lv (lv1 := [(5, .int (nI (i0 + 0))), (3, .long (wo_8 y.2.2.1 i0 0)), (2, .ref y.2.1), (0, .ref x), (1, .int (nI i0))]) rfl ?_
        refine j_ind (α := Nat) (fun n => 8 - n) (fun _ => M) (fun _ => 0) (fun _ => 0) (fun n => [(5, .int (nI (i0 + n))), (3, .long (wo_8 y.2.2.1 i0 n)), (2, .ref y.2.1), (0, .ref x), (1, .int (nI i0))]) (fun _ => []) (fun n => n ≤ 8) ?_ 0 (Nat.zero_le _)
        intro n hn ih
        refine j_iload F d_MT_word_46 rfl ?_
        refine j_iload_n F d_MT_word_48 rfl rfl ?_
        refine j_bipush F (v := 8) d_MT_word_49 (by decide) ?_
        refine j_iadd F d_MT_word_51 ?_
        refine j_val (y := nI (i0 + 8)) (nI_add i0 8) ?_
        refine j_icmp_ge F (tgt := 87) d_MT_word_52 (by decide) (fun hc3 => ?_) (fun hc3 => ?_)
        · skip
          have hn8 : n = 8 := by
            have := (nI_leI (a := i0 + 8) (b := i0 + n) (by omega) (by omega)).mp hc3
            omega
          subst hn8
          refine j_lload_n F d_MT_word_87 rfl rfl ?_
          exact j_lret F hr (by decide) (by decide) ⟨rfl, rfl, A, fun _ _ => rfl⟩ d_MT_word_88
        · skip
          have hn8 : n < 8 := by
            apply Nat.not_le.mp
            intro z
            exact hc3 ((nI_leI (by omega) (by omega)).mpr (by omega))
          refine j_lload_n F d_MT_word_55 rfl rfl ?_
          refine j_bipush F (v := 8) d_MT_word_56 (by decide) ?_
          refine j_lshl F d_MT_word_58 rfl ?_
          refine j_iload F d_MT_word_59 rfl ?_
          refine j_aload_n F d_MT_word_61 rfl rfl ?_
          refine j_klen F hka d_MT_word_62 ?_
          refine j_cut (α := Nat) (fun q => q < 256 ∧ wo_b y.2.2.1 (i0 + n) = nI q) (fun _ => M) (fun _ => 0) (fun _ => 0) (fun _ => [(5, .int (nI (i0 + n))), (3, .long (wo_8 y.2.2.1 i0 n)), (2, .ref y.2.1), (0, .ref x), (1, .int (nI i0))]) 78 (fun q => [.int (nI q), .long (wo_8 y.2.2.1 i0 n <<< ((8 : Int32).toInt64 &&& 63))]) ?_ (fun at78 => ?_)
          · skip
            intro q hq
            refine j_i2l F d_MT_word_78 rfl ?_
            refine j_lor F d_MT_word_79 ?_
            refine j_valL (y := wo_8 y.2.2.1 i0 (n + 1)) (by rw [wo_or _ hq.1, ← hq.2]; rfl) ?_
            refine j_lstore_n F (lv1 := [(3, _), (5, _), (2, _), (0, _), (1, _)]) d_MT_word_80 rfl (by decide) rfl ?_
            refine j_iinc F (lv1 := [(5, _), (3, _), (2, _), (0, _), (1, _)]) d_MT_word_81 rfl (nI_1 _) (by decide) rfl ?_
            refine j_goto F (tgt := 46) d_MT_word_84 (by decide) ?_
            exact ih (n + 1) hn8 (by omega)
          refine j_icmp_ge F (tgt := 77) d_MT_word_63 (by decide) (fun hc4 => ?_) (fun hc4 => ?_)
          · skip
            have hge : y.2.2.1.length ≤ i0 + n := (nI_leI (by omega) (by omega)).mp hc4
            refine j_iconst F (v := 0) d_MT_word_77 (by decide) ?_
            exact at78 0 ⟨by decide, if_neg (by omega)⟩
          · skip
            have hlt : i0 + n < y.2.2.1.length := Nat.not_le.mp (fun z => hc4 ((nI_leI (by omega) (by omega)).mpr z))
            refine j_aload_n F d_MT_word_66 rfl rfl ?_
            refine j_iload F d_MT_word_67 rfl ?_
            refine j_kald F hka hlt (by omega) d_MT_word_69 ?_
            refine j_sipush F (v := 255) d_MT_word_70 (by decide) ?_
            refine j_iand F d_MT_word_73 ?_
            refine j_val (y := nI (un (y.2.2.1.getD (i0 + n) 0))) (un_and _) ?_
            refine j_goto F (tgt := 78) d_MT_word_74 (by decide) ?_
            exact at78 _ ⟨un_lt _, if_pos hlt⟩
      · skip
        have e0 : sp_word a0 σ = (2, 0, σ) := hs.trans (if_pos (Or.inr (Int32.not_lt.mp hc2)))
        rw [e0]
        exact j_throw F (names := ["java/lang/RuntimeException", "java/lang/Exception"]) (by decide +kernel) (by decide +kernel) wc_MT_28 wi_IO w3_IO w4_IO (jf_sx F).2.2.2.2.2.2.2.2.2.1 wg_IO_28 rfl (by decide) (Nat.le_of_ble_eq_true rfl) (by decide) (by decide) (⟨⟨1, rfl, rfl⟩, A, fun _ _ => rfl⟩) d_MT_word_33 d_MT_word_36 d_MT_word_37 d_MT_word_40
end MT2
