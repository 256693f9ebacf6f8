/-! ===== what the calls mean: tapes, keys, versions in their order ===== -/
abbrev ke_T : Type := List Int32
abbrev en_T : Type := ke_T × Int32 × Int32 × Int32
abbrev sg_T : Type := ke_T × List en_T × Option Nat
/-- a byte as 0 .. 255 -/
def un (b : Int32) : Nat := b.toBitVec.toNat % 256
theorem un_lt (b : Int32) : un b < 256 := Nat.mod_lt _ (by decide)
theorem un_and (b : Int32) : b &&& 255 = nI (un b) := pk_and b 8 (by decide)
/-- keys compared: by their first different bytes; a beginning before what goes on -/
def kc : ke_T → ke_T → Int
  | [], [] => 0
  | [], _ :: _ => -1
  | _ :: _, [] => 1
  | a :: s, b :: t => if un a = un b then kc s t else (un a : Int) - un b
/-- a version beside a key and a moment -/
def oc (e : en_T) (k : ke_T) (m : Int32) : Int := if kc e.1 k = 0 then (if m < e.2.1 then -1 else if e.2.1 < m then 1 else 0) else kc e.1 k
/-- how many versions come before a key and moment -/
def fi : List en_T → ke_T → Int32 → Nat
  | [], _, _ => 0
  | e :: t, k, m => if oc e k m < 0 then fi t k m + 1 else 0
theorem fi_le (es : List en_T) (k : ke_T) (m : Int32) : fi es k m ≤ es.length := by
  induction es with
  | nil => exact Nat.le_refl _
  | cons e t ih =>
    simp only [fi]
    split
    · exact Nat.succ_le_succ ih
    · exact Nat.zero_le _
theorem fi_lt {es : List en_T} {k : ke_T} {m : Int32} {i : Nat} {e : en_T} (hi : i < fi es k m) (he : es[i]? = some e) : oc e k m < 0 := by
  induction es generalizing i with
  | nil => cases he
  | cons e0 t ih =>
    simp only [fi] at hi
    split at hi
    · rename_i h0
      cases i with
      | zero => cases he; exact h0
      | succ i => exact ih (Nat.lt_of_succ_lt_succ hi) he
    · cases hi
theorem fi_at {es : List en_T} {k : ke_T} {m : Int32} {e : en_T} (he : es[fi es k m]? = some e) : ¬ oc e k m < 0 := by
  induction es with
  | nil => cases he
  | cons e0 t ih =>
    simp only [fi] at he
    split at he
    · exact ih he
    · rename_i h0
      cases he
      exact h0
/-- a number that is the least one is fi -/
theorem fi_of {es : List en_T} {k : ke_T} {m : Int32} {v : Nat} (h1 : ∀ i e, i < v → es[i]? = some e → oc e k m < 0) (hv : v ≤ es.length) (h2 : ∀ e, es[v]? = some e → ¬ oc e k m < 0) : v = fi es k m := by
  induction es generalizing v with
  | nil => simp at hv; simp [fi, hv]
  | cons e0 t ih =>
    simp only [fi]
    cases v with
    | zero =>
      rw [if_neg (h2 e0 rfl)]
    | succ v =>
      rw [if_pos (h1 0 e0 (Nat.succ_pos _) rfl)]
      congr 1
      exact ih (fun i e hi he => h1 (i + 1) e (Nat.succ_lt_succ hi) he) (Nat.le_of_succ_le_succ hv) (fun e he => h2 e he)
theorem sg_lt {a b : Nat} (ha : a < 2 ^ 30) (hb : b < 2 ^ 30) : nI a - nI b < 0 ↔ a < b := by
  rw [Int32.lt_iff_toInt_lt, pk_sub_toInt ha hb, Int32.toInt_zero]
  omega
theorem sg_eq {a b : Nat} (ha : a < 2 ^ 30) (hb : b < 2 ^ 30) : nI a - nI b = 0 ↔ a = b := by
  constructor
  · intro h
    have h1 := pk_sub_toInt ha hb
    rw [h, Int32.toInt_zero] at h1
    omega
  · intro h
    subst h
    simp
theorem kc_drop {a b : ke_T} (j : Nat) (ha : j ≤ a.length) (hb : j ≤ b.length) (h : ∀ i, i < j → un (a.getD i 0) = un (b.getD i 0)) : kc a b = kc (a.drop j) (b.drop j) := by
  induction j generalizing a b with
  | zero => rfl
  | succ j ih =>
    cases a with
    | nil => simp at ha
    | cons x s =>
      cases b with
      | nil => simp at hb
      | cons y t =>
        have h0 : un x = un y := h 0 (Nat.succ_pos _)
        simp only [kc, if_pos h0, List.drop_succ_cons]
        exact ih (by simpa using ha) (by simpa using hb) (fun i hi => by simpa using h (i + 1) (Nat.succ_lt_succ hi))
theorem kc_diff {a b : ke_T} (j : Nat) (ha : j < a.length) (hb : j < b.length) (h : ∀ i, i < j → un (a.getD i 0) = un (b.getD i 0)) (hn : un (a.getD j 0) ≠ un (b.getD j 0)) : kc a b = (un (a.getD j 0) : Int) - un (b.getD j 0) := by
  rw [kc_drop j (Nat.le_of_lt ha) (Nat.le_of_lt hb) h]
  rw [List.drop_eq_getElem_cons ha, List.drop_eq_getElem_cons hb]
  simp only [List.getD_eq_getElem?_getD, List.getElem?_eq_getElem ha, List.getElem?_eq_getElem hb, Option.getD_some] at hn ⊢
  simp [kc, hn]
theorem kc_end {a b : ke_T} (j : Nat) (ha : j ≤ a.length) (hb : j ≤ b.length) (h : ∀ i, i < j → un (a.getD i 0) = un (b.getD i 0)) (he : j = a.length ∨ j = b.length) : (kc a b < 0 ↔ a.length < b.length) ∧ (kc a b = 0 ↔ a.length = b.length) := by
  rw [kc_drop j ha hb h]
  rcases he with he | he
  · have e1 : a.drop j = [] := List.drop_eq_nil_of_le (by omega)
    rw [e1]
    cases hd : b.drop j with
    | nil =>
      have : b.length ≤ j := by simpa using hd
      constructor <;> constructor <;> intro h9 <;> first | (simp [kc] at h9; done) | (simp [kc]; done) | omega
    | cons y t =>
      have : j < b.length := by
        have h1 : (b.drop j).length = b.length - j := List.length_drop
        rw [hd] at h1
        simp at h1
        omega
      constructor <;> constructor <;> intro h9 <;> first | (simp [kc] at h9; done) | (simp [kc]; done) | omega
  · have e1 : b.drop j = [] := List.drop_eq_nil_of_le (by omega)
    rw [e1]
    cases hd : a.drop j with
    | nil =>
      have : a.length ≤ j := by simpa using hd
      constructor <;> constructor <;> intro h9 <;> first | (simp [kc] at h9; done) | (simp [kc]; done) | omega
    | cons y t =>
      have : j < a.length := by
        have h1 : (a.drop j).length = a.length - j := List.length_drop
        rw [hd] at h1
        simp at h1
        omega
      constructor <;> constructor <;> intro h9 <;> first | (simp [kc] at h9; done) | (simp [kc]; done) | omega
