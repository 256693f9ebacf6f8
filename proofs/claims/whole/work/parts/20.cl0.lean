/-! ===== the subject: what its cells are when it holds a state ===== -/
abbrev no_T : Type := Nat × Nat × en_T
/-- a version's cell -/
def vE (ka : Nat) (e : en_T) (ht : Int32) (l r : Option Nat) : va_E := .inr (2, [.ref ka, .int e.2.1, .int e.2.2.1, .int e.2.2.2, .int ht, va_rf l, va_rf r])
/-- an array that holds the key k -/
def ky (G : gv_T) (M : mp_T) (ka : Nat) (k : ke_T) : Prop := ∃ kf : Nat → Int32, M ka = some (.inl (G.2.1.1, k.length, .inl kf)) ∧ tp_R k kf
/-- a balanced tree of height h, no deeper than the first number; its versions in their order -/
def tr (G : gv_T) (M : mp_T) : Nat → Option Nat → List no_T → Nat → Prop
  | _, none, L, h => L = [] ∧ h = 0
  | 0, some _, _, _ => False
  | d + 1, some a, L, h => ∃ (ka : Nat) (e : en_T) (l r : Option Nat) (Ll Lr : List no_T) (hl hr : Nat), M a = some (vE ka e (nI h) l r) ∧ ky G M ka e.1 ∧ tr G M d l Ll hl ∧ tr G M d r Lr hr ∧ L = Ll ++ (a, ka, e) :: Lr ∧ h = max hl hr + 1 ∧ hl ≤ hr + 1 ∧ hr ≤ hl + 1
/-- the versions are in order -/
def srt (es : List en_T) : Prop := es.Pairwise (fun a b => oc a b.1 b.2.1 < 0)
/-- the object x of the subject holds the state σ; none of its cells is in B -/
def cl_A (G : gv_T) (M : mp_T) (B : Nat → Prop) (x : Nat) (σ : sg_T) : Prop := ∃ (ta tt : Nat) (root : Option Nat) (L : List no_T) (tf : Nat → Int32) (h : Nat),
  M x = some (.inr (0, [.ref ta, .int (nI σ.1.length), .ref tt, va_rf (σ.2.2.bind (fun c => (L[c]?).map (fun y => y.1)))])) ∧ M ta = some (.inl (G.2.1.1, 60, .inl tf)) ∧ M tt = some (.inr (1, [va_rf root, .int (nI σ.2.1.length)])) ∧
  tr G M h root L h ∧ L.map (fun y => y.2.2) = σ.2.1 ∧ srt σ.2.1 ∧ (L.map (fun y => y.1)).Nodup ∧ (∀ y ∈ L, y.2.1 ≠ ta ∧ G.2.2.1 ≤ y.1 ∧ ¬ B y.1 ∧ ¬ B y.2.1) ∧ (G.2.2.1 ≤ x ∧ G.2.2.1 ≤ ta ∧ G.2.2.1 ≤ tt) ∧ (¬ B x ∧ ¬ B ta ∧ ¬ B tt) ∧ tp_R σ.1 tf ∧ by_Q tf ∧ sg_ok σ
theorem ky_mono {G : gv_T} {M M1 : mp_T} {ka : Nat} {k : ke_T} (h : ky G M ka k) (hm : ∀ e, M ka = some e → M1 ka = some e) : ky G M1 ka k := by
  obtain ⟨kf, h1, h2⟩ := h
  exact ⟨kf, hm _ h1, h2⟩
theorem tr_mono {G : gv_T} {M M1 : mp_T} (d : Nat) : ∀ {r : Option Nat} {L : List no_T} {h : Nat}, tr G M d r L h → (∀ y ∈ L, (∀ e, M y.1 = some e → M1 y.1 = some e) ∧ ∀ e, M y.2.1 = some e → M1 y.2.1 = some e) → tr G M1 d r L h := by
  induction d with
  | zero =>
    intro r L h ht hm
    cases r with
    | none => exact ht
    | some a => exact ht
  | succ d ih =>
    intro r L h ht hm
    cases r with
    | none => exact ht
    | some a =>
      obtain ⟨ka, e, l, r, Ll, Lr, hl, hr, h1, h2, h3, h4, rfl, h6⟩ := ht
      have hme := hm (a, ka, e) (List.mem_append_right _ List.mem_cons_self)
      exact ⟨ka, e, l, r, Ll, Lr, hl, hr, hme.1 _ h1, ky_mono h2 hme.2, ih h3 (fun y hy => hm y (List.mem_append_left _ hy)), ih h4 (fun y hy => hm y (List.mem_append_right _ (List.mem_cons_of_mem _ hy))), rfl, h6⟩
/-- what its cells are stays, where they stay -/
theorem cl_mono {G : gv_T} {M M1 : mp_T} {B B1 : Nat → Prop} {x : Nat} {σ : sg_T} (h : cl_A G M B x σ) (hm : ∀ q e, ¬ B q → M q = some e → M1 q = some e) (hB : ∀ q, B1 q → B q ∨ M q = none) : cl_A G M1 B1 x σ := by
  obtain ⟨ta, tt, root, L, tf, hh, h1, h2, h3, h4, h5, h6, h7, h8, h9, ⟨b1, b2, b3⟩, h11⟩ := h
  have hsome : ∀ q e, ¬ B q → M q = some e → ¬ B1 q := fun q e hq he hb => by
    rcases hB q hb with z | z
    · exact hq z
    · rw [he] at z; cases z
  have key : ∀ (d : Nat) (r : Option Nat) (L : List no_T) (h : Nat), tr G M d r L h → ∀ y ∈ L, (∃ e, M y.1 = some e) ∧ ∃ e, M y.2.1 = some e := by
    intro d
    induction d with
    | zero =>
      intro r L h ht y hy
      cases r with
      | none => rw [ht.1] at hy; cases hy
      | some a => exact ht.elim
    | succ d ih =>
      intro r L h ht y hy
      cases r with
      | none => rw [ht.1] at hy; cases hy
      | some a =>
        obtain ⟨ka, e, l, r, Ll, Lr, hl, hr, q1, ⟨kf, q2, -⟩, q3, q4, rfl, q6⟩ := ht
        rcases List.mem_append.mp hy with z | z
        · exact ih _ _ _ q3 y z
        · rcases List.mem_cons.mp z with z | z
          · subst z; exact ⟨⟨_, q1⟩, _, q2⟩
          · exact ih _ _ _ q4 y z
  refine ⟨ta, tt, root, L, tf, hh, hm _ _ b1 h1, hm _ _ b2 h2, hm _ _ b3 h3, tr_mono _ h4 (fun y hy => ⟨fun e he => hm _ e (h8 y hy).2.2.1 he, fun e he => hm _ e (h8 y hy).2.2.2 he⟩), h5, h6, h7, fun y hy => ?_, h9, ⟨hsome _ _ b1 h1, hsome _ _ b2 h2, hsome _ _ b3 h3⟩, h11⟩
  obtain ⟨q1, q2, q3, q4⟩ := h8 y hy
  obtain ⟨⟨e1, he1⟩, e2, he2⟩ := key _ _ _ _ h4 y hy
  exact ⟨q1, q2, hsome _ e1 q3 he1, hsome _ e2 q4 he2⟩
/-- the room of a call of the subject -/
abbrev rm_C : Room := { frames := 60, cells := 3, slots := 60, locals := 1500 }
def po_C (G : gv_T) (M : mp_T) (B : Nat → Prop) (x : Nat) (sp : Nat × Int32 × sg_T) : Option Value → mp_T → Prop := fun r M1 => sp.1 = 0 ∧ r = some (.int sp.2.1) ∧ cl_A G M1 B x sp.2.2 ∧ ∀ q, B q → M1 q = M q
def po_L (G : gv_T) (M : mp_T) (B : Nat → Prop) (x : Nat) (sp : Nat × Int64 × sg_T) : Option Value → mp_T → Prop := fun r M1 => sp.1 = 0 ∧ r = some (.long sp.2.1) ∧ cl_A G M1 B x sp.2.2 ∧ ∀ q, B q → M1 q = M q
/-- which exception a code stands for -/
def px_C (G : gv_T) (M : mp_T) (B : Nat → Prop) (x : Nat) (c : Nat) (σ1 : sg_T) (X : List String) : String → mp_T → Prop := fun E M1 => (∃ i, c = i + 1 ∧ X[i]? = some E) ∧ cl_A G M1 B x σ1 ∧ ∀ q, B q → M1 q = M q
