/-! The pure machine: abstract heaps by planes (tag, length, ints, longs, references, how many cells, how many slots), and what it means that a heap of the machine holds one. Strings stand at 0 to 9, the script at 10, what is made from 11 on. -/
abbrev pm_H : Type := (Nat → Nat) × (Nat → Nat) × (Nat → Nat → Int32) × (Nat → Nat → Int64) × (Nat → Nat → Option Nat) × Nat × Nat
def pT (σ : pm_H) (a : Nat) : Nat := σ.1 a
def pL (σ : pm_H) (a : Nat) : Nat := σ.2.1 a
def pI (σ : pm_H) (a k : Nat) : Int32 := σ.2.2.1 a k
def pJ (σ : pm_H) (a k : Nat) : Int64 := σ.2.2.2.1 a k
def pR (σ : pm_H) (a k : Nat) : Option Nat := σ.2.2.2.2.1 a k
def pN (σ : pm_H) : Nat := σ.2.2.2.2.2.1
def pS (σ : pm_H) : Nat := σ.2.2.2.2.2.2
def uI (σ : pm_H) (a k : Nat) (v : Int32) : pm_H := (σ.1, σ.2.1, fun b j => if b = a ∧ j = k then v else σ.2.2.1 b j, σ.2.2.2)
def uJ (σ : pm_H) (a k : Nat) (v : Int64) : pm_H := (σ.1, σ.2.1, σ.2.2.1, fun b j => if b = a ∧ j = k then v else σ.2.2.2.1 b j, σ.2.2.2.2)
def uR (σ : pm_H) (a k : Nat) (v : Option Nat) : pm_H := (σ.1, σ.2.1, σ.2.2.1, σ.2.2.2.1, fun b j => if b = a ∧ j = k then v else σ.2.2.2.2.1 b j, σ.2.2.2.2.2)
/-- a new cell of tag t, length n, counted for s slots -/
def nw (σ : pm_H) (t n s : Nat) : pm_H := (fun b => if b = pN σ then t else pT σ b, fun b => if b = pN σ then n else pL σ b, fun b j => if b = pN σ then 0 else pI σ b j, fun b j => if b = pN σ then 0 else pJ σ b j, fun b j => if b = pN σ then none else pR σ b j, pN σ + 1, pS σ + s)
theorem pT_uI (σ : pm_H) (a k : Nat) (v : Int32) : pT (uI σ a k v) = pT σ := rfl
theorem pL_uI (σ : pm_H) (a k : Nat) (v : Int32) : pL (uI σ a k v) = pL σ := rfl
theorem pJ_uI (σ : pm_H) (a k : Nat) (v : Int32) : pJ (uI σ a k v) = pJ σ := rfl
theorem pR_uI (σ : pm_H) (a k : Nat) (v : Int32) : pR (uI σ a k v) = pR σ := rfl
theorem pN_uI (σ : pm_H) (a k : Nat) (v : Int32) : pN (uI σ a k v) = pN σ := rfl
theorem pS_uI (σ : pm_H) (a k : Nat) (v : Int32) : pS (uI σ a k v) = pS σ := rfl
theorem pI_uI (σ : pm_H) (a k : Nat) (v : Int32) (b j : Nat) : pI (uI σ a k v) b j = if b = a ∧ j = k then v else pI σ b j := rfl
theorem pT_uJ (σ : pm_H) (a k : Nat) (v : Int64) : pT (uJ σ a k v) = pT σ := rfl
theorem pL_uJ (σ : pm_H) (a k : Nat) (v : Int64) : pL (uJ σ a k v) = pL σ := rfl
theorem pI_uJ (σ : pm_H) (a k : Nat) (v : Int64) : pI (uJ σ a k v) = pI σ := rfl
theorem pR_uJ (σ : pm_H) (a k : Nat) (v : Int64) : pR (uJ σ a k v) = pR σ := rfl
theorem pN_uJ (σ : pm_H) (a k : Nat) (v : Int64) : pN (uJ σ a k v) = pN σ := rfl
theorem pS_uJ (σ : pm_H) (a k : Nat) (v : Int64) : pS (uJ σ a k v) = pS σ := rfl
theorem pJ_uJ (σ : pm_H) (a k : Nat) (v : Int64) (b j : Nat) : pJ (uJ σ a k v) b j = if b = a ∧ j = k then v else pJ σ b j := rfl
theorem pT_uR (σ : pm_H) (a k : Nat) (v : Option Nat) : pT (uR σ a k v) = pT σ := rfl
theorem pL_uR (σ : pm_H) (a k : Nat) (v : Option Nat) : pL (uR σ a k v) = pL σ := rfl
theorem pI_uR (σ : pm_H) (a k : Nat) (v : Option Nat) : pI (uR σ a k v) = pI σ := rfl
theorem pJ_uR (σ : pm_H) (a k : Nat) (v : Option Nat) : pJ (uR σ a k v) = pJ σ := rfl
theorem pN_uR (σ : pm_H) (a k : Nat) (v : Option Nat) : pN (uR σ a k v) = pN σ := rfl
theorem pS_uR (σ : pm_H) (a k : Nat) (v : Option Nat) : pS (uR σ a k v) = pS σ := rfl
theorem pR_uR (σ : pm_H) (a k : Nat) (v : Option Nat) (b j : Nat) : pR (uR σ a k v) b j = if b = a ∧ j = k then v else pR σ b j := rfl
theorem pT_nw (σ : pm_H) (t n s b : Nat) : pT (nw σ t n s) b = if b = pN σ then t else pT σ b := rfl
theorem pL_nw (σ : pm_H) (t n s b : Nat) : pL (nw σ t n s) b = if b = pN σ then n else pL σ b := rfl
theorem pI_nw (σ : pm_H) (t n s b j : Nat) : pI (nw σ t n s) b j = if b = pN σ then 0 else pI σ b j := rfl
theorem pJ_nw (σ : pm_H) (t n s b j : Nat) : pJ (nw σ t n s) b j = if b = pN σ then 0 else pJ σ b j := rfl
theorem pR_nw (σ : pm_H) (t n s b j : Nat) : pR (nw σ t n s) b j = if b = pN σ then none else pR σ b j := rfl
theorem pN_nw (σ : pm_H) (t n s : Nat) : pN (nw σ t n s) = pN σ + 1 := rfl
theorem pS_nw (σ : pm_H) (t n s : Nat) : pS (nw σ t n s) = pS σ + s := rfl
/-- where things are: class numbers, slots, array classes, addresses, the base, the script's length and ints -/
abbrev pm_K : Type := (Nat → ClassId) × (Nat → Nat → Nat) × (Nat → ClassId) × (Nat → Nat) × Nat × Nat × (Nat → Int32) × (Nat → Nat)
abbrev kC (K : pm_K) : Nat → ClassId := K.1
abbrev kI (K : pm_K) : Nat → Nat → Nat := K.2.1
abbrev kA (K : pm_K) : Nat → ClassId := K.2.2.1
abbrev kd (K : pm_K) : Nat → Nat := K.2.2.2.1
abbrev kB (K : pm_K) : Nat := K.2.2.2.2.1
abbrev kL (K : pm_K) : Nat := K.2.2.2.2.2.1
abbrev kX (K : pm_K) : Nat → Int32 := K.2.2.2.2.2.2.1
abbrev kV (K : pm_K) : Nat → Nat := K.2.2.2.2.2.2.2
def em (K : pm_K) (v : Value) : Value := match v with
  | .ref a => .ref (kd K a)
  | w => w
theorem em_cat (K : pm_K) (v : Value) : (em K v).category = v.category := by cases v <;> rfl
theorem em_int (K : pm_K) (x : Int32) : em K (.int x) = .int x := rfl
theorem em_long (K : pm_K) (x : Int64) : em K (.long x) = .long x := rfl
theorem em_ref (K : pm_K) (a : Nat) : em K (.ref a) = .ref (kd K a) := rfl
theorem em_null (K : pm_K) : em K .null = .null := rfl
/-- a field's type by its descriptor: 0 int, 1 boolean, 2 long, 3 reference -/
def pm_ft (d : String) : Nat := if d = "I" then 0 else if d = "Z" then 1 else if d = "J" then 2 else 3
def pm_fv (I : Nat → Int32) (J : Nat → Int64) (R : Nat → Option Nat) (ty k : Nat) : Value := if ty = 0 then .int (I k) else if ty = 1 then .int (I k) else if ty = 2 then .long (J k) else va_rf (R k)
/-- the texts of the constants -/
def pm_len : List Nat := [7, 5, 3, 8, 4, 9, 5, 5, 4, 6]
def pm_byt : List (List Int32) := [[115, 108, 101, 101, 112, 101, 114], [99, 104, 105, 108, 100], [111, 108, 100], [114, 101, 115, 116, 108, 101, 115, 115], [100, 101, 97, 102], [116, 114, 97, 118, 101, 108, 108, 101, 114], [118, 111, 105, 99, 101], [112, 117, 114, 115, 101], [111, 119, 101, 115], [97, 115, 108, 101, 101, 112]]
/-- the cell at a holds what the planes say of it -/
def pm_cc (K : pm_K) (t n : Nat) (I : Nat → Int32) (J : Nat → Int64) (R : Nat → Option Nat) (a : Nat) (H : Heap) : Prop :=
  if t = 13 then 11 ≤ a ∧ H[kd K a]? = some (arrV (kA K 0) n (fun j => .int (I j)))
  else if t = 14 then 11 ≤ a ∧ H[kd K a]? = some (arrV (kA K 1) n (fun j => .long (J j)))
  else if t = 15 then 11 ≤ a ∧ H[kd K a]? = some (arrV (kA K 2) n (fun j => em K (va_rf (R j))))
  else if t = 16 then 11 ≤ a ∧ H[kd K a]? = some (arrV (kA K 3) n (fun j => em K (va_rf (R j))))
  else if t = 17 then a < 10 ∧ n = pm_len.getD a 0 ∧ ∀ j, I j = (pm_byt.getD a []).getD j 0
  else if t = 18 then a = 10 ∧ n = kL K ∧ ∀ j, j < n → I j = kX K j
  else 11 ≤ a ∧ ∃ r : vw_C, vwCl[t]? = some r ∧ t_OB (kd K a) (kC K t) r.2.2 (kI K t) H (fun k => em K (pm_fv I J R (pm_ft (r.2.1 k).2.2.1) k))
theorem pm_cc.kept {K : pm_K} {t n : Nat} {I : Nat → Int32} {J : Nat → Int64} {R : Nat → Option Nat} {a : Nat} {H H' : Heap} (h : pm_cc K t n I J R a H) (e : H'[kd K a]? = H[kd K a]?) : pm_cc K t n I J R a H' := by
  unfold pm_cc at h ⊢
  rw [e]
  split
  · rename_i h1; rw [if_pos h1] at h; exact h
  rename_i h1; rw [if_neg h1] at h
  split
  · rename_i h2; rw [if_pos h2] at h; exact h
  rename_i h2; rw [if_neg h2] at h
  split
  · rename_i h3; rw [if_pos h3] at h; exact h
  rename_i h3; rw [if_neg h3] at h
  split
  · rename_i h4; rw [if_pos h4] at h; exact h
  rename_i h4; rw [if_neg h4] at h
  split
  · rename_i h5; rw [if_pos h5] at h; exact h
  rename_i h5; rw [if_neg h5] at h
  split
  · rename_i h6; rw [if_pos h6] at h; exact h
  rename_i h6; rw [if_neg h6] at h
  obtain ⟨h0, r, h7, h8⟩ := h
  exact ⟨h0, r, h7, h8.kept e⟩
def pm_cell (K : pm_K) (σ : pm_H) (a : Nat) (H : Heap) : Prop := pm_cc K (pT σ a) (pL σ a) (pI σ a) (pJ σ a) (pR σ a) a H
/-- the heap holds all cells -/
def pm_ok (K : pm_K) (σ : pm_H) (H : Heap) : Prop := H.size + 11 = kB K + pN σ ∧ 11 ≤ pN σ ∧ (∀ a, pN σ ≤ a → pT σ a = 99) ∧ ∀ a, a < pN σ → pm_cell K σ a H
/-- the words that hold in every state -/
def gws : List Cond := lw_tbl.filter goodWord
theorem gws_good : GoodIn gws gws := fun w h => ⟨h, good_of_word (List.mem_filter.mp h).2⟩
theorem gws_in {w : Cond} (h : w ∈ lw_tbl) (hg : goodWord w = true) : w ∈ gws := List.mem_filter.mpr ⟨h, hg⟩
theorem gws_tab {w : Cond} (i : Nat) (h : tables_1[i]? = some w) (hg : goodWord w = true) : w ∈ gws := gws_in (List.mem_append_right _ (List.mem_of_getElem? h)) hg
theorem gws_priv {w : Cond} (i : Nat) (h : (k2_sels lw_privs)[i]? = some w) (hg : goodWord w = true) : w ∈ gws := gws_in (List.mem_append_left _ (List.mem_of_getElem? h)) hg
theorem gws_cons {w : Cond} {ws : List Cond} (h : w ∈ gws) (hw : GoodIn gws ws) : GoodIn gws (w :: ws) := fun x hx => (List.mem_cons.mp hx).elim (fun e => by rw [e]; exact gws_good _ h) (hw x)
/-- the words that move only with their own rows -/
def pm_nest : List (String × Nat × MethodName) := [(RX11, 9, yX10_init), (RX11, 18, yX3_init), (RX11, 25, yX7_init), (RX11, 32, yX8_init), (RX7, 92, yX11_isOver), (RX7, 50, yX11_made), (RX3, 115, yX11_isOver), (RX10, 104, yX11_likeness)]
def pm_cast : List (String × String) := [(RX4, RX0), (RX1, RX2), (RX0, RX6), (RX2, RX6), (RX4, RX6), (RX1, RX6), (RX9, RX6)]
def pm_ncast : List (String × String) := [(RX6, RX0), (RX6, RX2), (RX6, RX4), (RX6, RX1), (RX6, RX9), (RX0, RX2), (RX0, RX4), (RX0, RX1), (RX0, RX9), (RX2, RX0), (RX2, RX4), (RX2, RX1), (RX2, RX9), (RX4, RX2), (RX4, RX1), (RX4, RX9), (RX1, RX0), (RX1, RX4), (RX1, RX9), (RX9, RX0), (RX9, RX2), (RX9, RX4), (RX9, RX1)]
def pm_txt : List (Nat × String) := [(120, "sleeper"), (122, "child"), (124, "old"), (126, "restless"), (128, "deaf"), (130, "traveller"), (132, "voice"), (133, "purse"), (134, "owes"), (136, "asleep")]
def pm_tys (K : pm_K) : List (ClassId × FieldType) := [(kA K 0, .int), (kA K 1, .long), (kA K 2, .object RX6), (kA K 3, .object RX5)]
/-- what the tables and the cells below the base say, at every state -/
def pm_kx (K : pm_K) (U : State) (H : Heap) : Prop :=
  va_K (kC K, kI K) vwCl (pm_tys K) U ∧ (∀ q ∈ pm_nest, va_Nw (.methodLinkNest q.1 q.2.1 q.2.2 RX11) U) ∧ (∀ q ∈ pm_cast, va_Nw (.castable q.1 q.2) U) ∧ (∀ q ∈ pm_ncast, va_Nc q.1 q.2 U) ∧ (va_AO RX6 U ∧ va_AO RX5 U) ∧
  (∀ (i : Nat) (q : Nat × String), pm_txt[i]? = some q → vk_R RX7 q.1 q.2 (kd K i) U) ∧ vk_S 10 pm_len pm_byt (kd K) (kV K) (fun q => kB K ≤ q) U H ∧ (va_Z "java/lang/String" "COMPACT_STRINGS" "Z" (.int 1) (fun q => kB K ≤ q) U H ∧ ∃ v : Option Nat, va_Z "jdk/internal/util/Preconditions" "SIOOBE_FORMATTER" "Ljava/util/function/BiFunction;" (va_rf v) (fun q => kB K ≤ q) U H) ∧ va_X (kd K 10) (kL K) (kX K) U H ∧
  (∀ a, a < 11 → kd K a < kB K) ∧ (∀ a, 11 ≤ a → kd K a = kB K + (a - 11)) ∧ kB K ≤ H.size
