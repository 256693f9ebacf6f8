/-! ===== what each call does to a state: (its code, its answer, the state behind it) ===== -/
def b1 (w : Int32) (i : Nat) : Int32 := (w >>> (nI (24 - 8 * i) &&& 31)).toInt8.toInt32
def se_5 (a b c d e : Int32) (q : Nat) : Int32 := if q < 1 then a else if q < 2 then b else if q < 3 then c else if q < 4 then d else e
def by20 (a b c d e : Int32) : ke_T := (List.range 20).map (fun j => b1 (se_5 a b c d e (j / 4)) (j % 4))
def sp_feed (a b c d e : Int32) (σ : sg_T) : Nat × Int32 × sg_T := if 40 < σ.1.length then (1, 0, σ) else (0, nI (σ.1.length + 20), (σ.1 ++ by20 a b c d e, σ.2))
def sp_end (n : Int32) (σ : sg_T) : Nat × Int32 × sg_T := if n < 0 ∨ nI σ.1.length < n then (1, 0, σ) else (0, n, (σ.1.take n.toNatClampNeg, σ.2))
/-- the version of that key and moment is there -/
def hit (es : List en_T) (k : ke_T) (m : Int32) : Bool := match es[fi es k m]? with
  | some e => decide (oc e k m = 0)
  | none => false
def pu_bad (m p z : Int32) (σ : sg_T) : Bool := decide (m < 0) || decide (p < -1) || decide (z < 0) || decide (1000 < z) || decide (σ.1.length < 1) || decide (40 < σ.1.length)
def pu_set (es : List en_T) (v : Nat) (p z : Int32) : List en_T := es.modify v (fun e => (e.1, e.2.1, p, z))
def pu_ins (es : List en_T) (v : Nat) (x : en_T) : List en_T := es.take v ++ x :: es.drop v
def pu_cur (v : Nat) (c : Option Nat) : Option Nat := c.map (fun i => if v ≤ i then i + 1 else i)
def sp_put (m p z : Int32) (σ : sg_T) : Nat × Int32 × sg_T :=
  if pu_bad m p z σ = true then (1, 0, σ)
  else if hit σ.2.1 σ.1 m = true then (0, nI σ.2.1.length, ([], pu_set σ.2.1 (fi σ.2.1 σ.1 m) p z, σ.2.2))
  else if σ.2.1.length = 160 then (2, 0, ([], σ.2))
  else (0, nI (σ.2.1.length + 1), ([], pu_ins σ.2.1 (fi σ.2.1 σ.1 m) (σ.1, m, p, z), pu_cur (fi σ.2.1 σ.1 m) σ.2.2))
def go_to (es : List en_T) (t : ke_T) (c : Nat) (v : Nat) (ok : Bool) : Nat × Int32 × sg_T := match es[v]? with
  | some e => if ok = true then (0, e.2.2.1, (t, es, some v)) else (c, 0, (t, es, none))
  | none => (c, 0, (t, es, none))
def of_key (es : List en_T) (k : ke_T) (v : Nat) : Bool := match es[v]? with
  | some e => decide (kc e.1 k = 0)
  | none => false
def sp_find (m : Int32) (σ : sg_T) : Nat × Int32 × sg_T := if σ.1.length < 1 ∨ 40 < σ.1.length then (1, 0, σ) else go_to σ.2.1 [] 2 (fi σ.2.1 σ.1 m) (of_key σ.2.1 σ.1 (fi σ.2.1 σ.1 m))
def sk_v (es : List en_T) (k : ke_T) (m : Int32) (b : Bool) : Nat := if (b && hit es k m) = true then fi es k m + 1 else fi es k m
def sp_seek (m : Int32) (b : Bool) (σ : sg_T) : Nat × Int32 × sg_T := if 40 < σ.1.length then (1, 0, σ) else go_to σ.2.1 [] 2 (sk_v σ.2.1 σ.1 m b) true
def sp_next (σ : sg_T) : Nat × Int32 × sg_T := match σ.2.2 with
  | some c => go_to σ.2.1 σ.1 1 (c + 1) true
  | none => (1, 0, (σ.1, σ.2.1, none))
def sp_first (σ : sg_T) : Nat × Int32 × sg_T := go_to σ.2.1 σ.1 1 0 true
def cu_E (σ : sg_T) : Option en_T := match σ.2.2 with
  | some c => σ.2.1[c]?
  | none => none
def sp_current (w : Int32) (σ : sg_T) : Nat × Int32 × sg_T := if w < 0 ∨ 3 < w then (1, 0, σ) else match cu_E σ with
  | none => (2, 0, σ)
  | some e => (0, if w = 0 then e.2.1 else if w = 1 then e.2.2.1 else if w = 2 then e.2.2.2 else nI e.1.length, σ)
def wo_b (k : ke_T) (j : Nat) : Int32 := if j < k.length then nI (un (k.getD j 0)) else 0
def wo_8 (k : ke_T) (i : Nat) : Nat → Int64
  | 0 => 0
  | n + 1 => wo_8 k i n * 256 + (wo_b k (i + n)).toInt64
def sp_word (i : Int32) (σ : sg_T) : Nat × Int64 × sg_T := match cu_E σ with
  | none => (1, 0, σ)
  | some e => if i < 0 ∨ nI e.1.length ≤ i then (2, 0, σ) else (0, wo_8 e.1 i.toNatClampNeg 8, σ)
def sp_clear (σ : sg_T) : Nat × Int32 × sg_T := (0, nI σ.2.1.length, (σ.1, [], none))
def cu_I (c : Option Nat) : Int32 := match c with
  | none => -1
  | some i => nI i
/-- what holds of every state -/
def sg_ok (σ : sg_T) : Prop := σ.1.length ≤ 60 ∧ (∀ b ∈ σ.1, vp_nar .byte b = b) ∧ σ.2.1.length ≤ 160 ∧ (∀ e ∈ σ.2.1, 1 ≤ e.1.length ∧ e.1.length ≤ 40) ∧ ∀ c, σ.2.2 = some c → c < σ.2.1.length
theorem hit_le {es : List en_T} {k : ke_T} {m : Int32} (h : hit es k m = true) : fi es k m < es.length := by
  unfold hit at h
  split at h
  · rename_i e he
    exact (List.getElem?_eq_some_iff.mp he).1
  · cases h
theorem hit_of {es : List en_T} {k : ke_T} {m : Int32} {e : en_T} (he : es[fi es k m]? = some e) : hit es k m = true ↔ oc e k m = 0 := by
  unfold hit
  rw [he]
  simp
theorem hit_no {es : List en_T} {k : ke_T} {m : Int32} (h : es.length ≤ fi es k m) : hit es k m = false := by
  unfold hit
  rw [List.getElem?_eq_none h]
theorem go_ok {es : List en_T} {t : ke_T} {c v : Nat} {e : en_T} (he : es[v]? = some e) : go_to es t c v true = (0, e.2.2.1, (t, es, some v)) := by
  unfold go_to
  rw [he]
  simp
theorem go_no {es : List en_T} {t : ke_T} {c v : Nat} {ok : Bool} (h : es.length ≤ v ∨ ok = false) : go_to es t c v ok = (c, 0, (t, es, none)) := by
  unfold go_to
  rcases h with h | h
  · rw [List.getElem?_eq_none h]
  · cases he : es[v]? with
    | none => rfl
    | some e => simp [h]
theorem by20_len (a b c d e : Int32) : (by20 a b c d e).length = 20 := by simp [by20]
theorem by20_at (a b c d e : Int32) {j : Nat} (hj : j < 20) : (by20 a b c d e).getD j 0 = b1 (se_5 a b c d e (j / 4)) (j % 4) := by
  simp [by20, List.getD_eq_getElem?_getD, hj]
theorem b1_byte (w : Int32) (i : Nat) : vp_nar .byte (b1 w i) = b1 w i := pk_vb _
