/-! ===== reading behind writes ===== -/
def mm_wM (S : mm_S) (F : Nat → Nat → Int32) : mm_S := (F, S.2)
def mm_wR (S : mm_S) (F : Nat → Nat → Option Nat) : mm_S := (S.1, S.2.1, F, S.2.2.2)
def mm_wL (S : mm_S) (F : Nat → Nat → Int64) : mm_S := (S.1, F, S.2.2)
section HP
variable {S : mm_S} {a b k j sp dp n f : Nat}
theorem hp_MuM {x : Int32} : mm_M (mm_uM S a k x) b j = if b = a ∧ j = k then x else mm_M S b j := by
  show mm_u S.1 a (mm_u (S.1 a) k x) b j = _
  unfold mm_u
  by_cases h : b = a
  · subst h
    by_cases h2 : j = k
    · subst h2; simp
    · rw [if_pos rfl, if_neg h2, if_neg (fun h => h2 h.2)]; rfl
  · rw [if_neg h, if_neg (fun h2 => h h2.1)]; rfl
theorem hp_LuL {x : Int64} : mm_L (mm_uL S a k x) b j = if b = a ∧ j = k then x else mm_L S b j := by
  show mm_u S.2.1 a (mm_u (S.2.1 a) k x) b j = _
  unfold mm_u
  by_cases h : b = a
  · subst h
    by_cases h2 : j = k
    · subst h2; simp
    · rw [if_pos rfl, if_neg h2, if_neg (fun h => h2 h.2)]; rfl
  · rw [if_neg h, if_neg (fun h2 => h h2.1)]; rfl
theorem hp_RuR {x : Option Nat} : mm_R (mm_uR S a k x) b j = if b = a ∧ j = k then x else mm_R S b j := by
  show mm_u S.2.2.1 a (mm_u (S.2.2.1 a) k x) b j = _
  unfold mm_u
  by_cases h : b = a
  · subst h
    by_cases h2 : j = k
    · subst h2; simp
    · rw [if_pos rfl, if_neg h2, if_neg (fun h => h2 h.2)]; rfl
  · rw [if_neg h, if_neg (fun h2 => h h2.1)]; rfl
theorem hp_McpM : mm_M (mm_cpM S a k sp dp n) b j = if b = k ∧ dp ≤ j ∧ j < dp + n then mm_M S a (sp + (j - dp)) else mm_M S b j := by
  show mm_u S.1 k (va_cpy (S.1 a) (S.1 k) sp dp n) b j = _
  unfold mm_u va_cpy
  by_cases h : b = k
  · subst h
    by_cases h2 : dp ≤ j ∧ j < dp + n
    · rw [if_pos rfl, if_pos h2, if_pos ⟨rfl, h2⟩]; rfl
    · rw [if_pos rfl, if_neg h2, if_neg (fun h => h2 h.2)]; rfl
  · rw [if_neg h, if_neg (fun h2 => h h2.1)]; rfl
theorem hp_LcpL : mm_L (mm_cpL S a k sp dp n) b j = if b = k ∧ dp ≤ j ∧ j < dp + n then mm_L S a (sp + (j - dp)) else mm_L S b j := by
  show mm_u S.2.1 k (va_cpy (S.2.1 a) (S.2.1 k) sp dp n) b j = _
  unfold mm_u va_cpy
  by_cases h : b = k
  · subst h
    by_cases h2 : dp ≤ j ∧ j < dp + n
    · rw [if_pos rfl, if_pos h2, if_pos ⟨rfl, h2⟩]; rfl
    · rw [if_pos rfl, if_neg h2, if_neg (fun h => h2 h.2)]; rfl
  · rw [if_neg h, if_neg (fun h2 => h h2.1)]; rfl
theorem hp_LuM {x : Int32} : mm_L (mm_uM S a k x) = mm_L S := id rfl
theorem hp_RuM {x : Int32} : mm_R (mm_uM S a k x) = mm_R S := id rfl
theorem hp_KuM {x : Int32} : mm_K (mm_uM S a k x) = mm_K S := id rfl
theorem hp_NuM {x : Int32} : mm_N (mm_uM S a k x) = mm_N S := id rfl
theorem hp_nuM {x : Int32} : mm_n (mm_uM S a k x) = mm_n S := id rfl
theorem hp_zuM {x : Int32} : mm_z (mm_uM S a k x) = mm_z S := id rfl
theorem hp_ouM {x : Int32} : mm_obj (mm_uM S a k x) b f = mm_obj S b f := id rfl
theorem hp_auM {x : Int32} : mm_arr (mm_uM S a k x) b f = mm_arr S b f := id rfl
theorem hp_kuM {x : Int32} : mm_rk (mm_uM S a k x) b = mm_rk S b := id rfl
theorem hp_guM {x : Int32} : mm_rg (mm_uM S a k x) b j = mm_rg S b j := id rfl
theorem hp_MuL {x : Int64} : mm_M (mm_uL S a k x) = mm_M S := id rfl
theorem hp_RuL {x : Int64} : mm_R (mm_uL S a k x) = mm_R S := id rfl
theorem hp_KuL {x : Int64} : mm_K (mm_uL S a k x) = mm_K S := id rfl
theorem hp_NuL {x : Int64} : mm_N (mm_uL S a k x) = mm_N S := id rfl
theorem hp_nuL {x : Int64} : mm_n (mm_uL S a k x) = mm_n S := id rfl
theorem hp_zuL {x : Int64} : mm_z (mm_uL S a k x) = mm_z S := id rfl
theorem hp_ouL {x : Int64} : mm_obj (mm_uL S a k x) b f = mm_obj S b f := id rfl
theorem hp_auL {x : Int64} : mm_arr (mm_uL S a k x) b f = mm_arr S b f := id rfl
theorem hp_kuL {x : Int64} : mm_rk (mm_uL S a k x) b = mm_rk S b := id rfl
theorem hp_guL {x : Int64} : mm_rg (mm_uL S a k x) b j = mm_rg S b j := id rfl
theorem hp_MuR {x : Option Nat} : mm_M (mm_uR S a k x) = mm_M S := id rfl
theorem hp_LuR {x : Option Nat} : mm_L (mm_uR S a k x) = mm_L S := id rfl
theorem hp_KuR {x : Option Nat} : mm_K (mm_uR S a k x) = mm_K S := id rfl
theorem hp_NuR {x : Option Nat} : mm_N (mm_uR S a k x) = mm_N S := id rfl
theorem hp_nuR {x : Option Nat} : mm_n (mm_uR S a k x) = mm_n S := id rfl
theorem hp_zuR {x : Option Nat} : mm_z (mm_uR S a k x) = mm_z S := id rfl
theorem hp_ouR {x : Option Nat} : mm_obj (mm_uR S a k x) b f = mm_obj S b f := id rfl
theorem hp_auR {x : Option Nat} : mm_arr (mm_uR S a k x) b f = mm_arr S b f := id rfl
theorem hp_kuR {x : Option Nat} : mm_rk (mm_uR S a k x) b = mm_rk S b := id rfl
theorem hp_LcpM  : mm_L (mm_cpM S a k sp dp n) = mm_L S := id rfl
theorem hp_RcpM  : mm_R (mm_cpM S a k sp dp n) = mm_R S := id rfl
theorem hp_KcpM  : mm_K (mm_cpM S a k sp dp n) = mm_K S := id rfl
theorem hp_NcpM  : mm_N (mm_cpM S a k sp dp n) = mm_N S := id rfl
theorem hp_ncpM  : mm_n (mm_cpM S a k sp dp n) = mm_n S := id rfl
theorem hp_zcpM  : mm_z (mm_cpM S a k sp dp n) = mm_z S := id rfl
theorem hp_ocpM  : mm_obj (mm_cpM S a k sp dp n) b f = mm_obj S b f := id rfl
theorem hp_acpM  : mm_arr (mm_cpM S a k sp dp n) b f = mm_arr S b f := id rfl
theorem hp_kcpM  : mm_rk (mm_cpM S a k sp dp n) b = mm_rk S b := id rfl
theorem hp_gcpM  : mm_rg (mm_cpM S a k sp dp n) b j = mm_rg S b j := id rfl
theorem hp_McpL  : mm_M (mm_cpL S a k sp dp n) = mm_M S := id rfl
theorem hp_RcpL  : mm_R (mm_cpL S a k sp dp n) = mm_R S := id rfl
theorem hp_KcpL  : mm_K (mm_cpL S a k sp dp n) = mm_K S := id rfl
theorem hp_NcpL  : mm_N (mm_cpL S a k sp dp n) = mm_N S := id rfl
theorem hp_ncpL  : mm_n (mm_cpL S a k sp dp n) = mm_n S := id rfl
theorem hp_zcpL  : mm_z (mm_cpL S a k sp dp n) = mm_z S := id rfl
theorem hp_ocpL  : mm_obj (mm_cpL S a k sp dp n) b f = mm_obj S b f := id rfl
theorem hp_acpL  : mm_arr (mm_cpL S a k sp dp n) b f = mm_arr S b f := id rfl
theorem hp_kcpL  : mm_rk (mm_cpL S a k sp dp n) b = mm_rk S b := id rfl
theorem hp_gcpL  : mm_rg (mm_cpL S a k sp dp n) b j = mm_rg S b j := id rfl
theorem hp_MwM {F : Nat → Nat → Int32} : mm_M (mm_wM S F) = F := id rfl
theorem hp_LwM {F : Nat → Nat → Int32} : mm_L (mm_wM S F) = mm_L S := id rfl
theorem hp_RwM {F : Nat → Nat → Int32} : mm_R (mm_wM S F) = mm_R S := id rfl
theorem hp_KwM {F : Nat → Nat → Int32} : mm_K (mm_wM S F) = mm_K S := id rfl
theorem hp_NwM {F : Nat → Nat → Int32} : mm_N (mm_wM S F) = mm_N S := id rfl
theorem hp_nwM {F : Nat → Nat → Int32} : mm_n (mm_wM S F) = mm_n S := id rfl
theorem hp_zwM {F : Nat → Nat → Int32} : mm_z (mm_wM S F) = mm_z S := id rfl
theorem hp_owM {F : Nat → Nat → Int32} : mm_obj (mm_wM S F) b f = mm_obj S b f := id rfl
theorem hp_awM {F : Nat → Nat → Int32} : mm_arr (mm_wM S F) b f = mm_arr S b f := id rfl
theorem hp_kwM {F : Nat → Nat → Int32} : mm_rk (mm_wM S F) b = mm_rk S b := id rfl
theorem hp_gwM {F : Nat → Nat → Int32} : mm_rg (mm_wM S F) b j = mm_rg S b j := id rfl
theorem hp_MwR {F : Nat → Nat → Option Nat} : mm_M (mm_wR S F) = mm_M S := id rfl
theorem hp_LwR {F : Nat → Nat → Option Nat} : mm_L (mm_wR S F) = mm_L S := id rfl
theorem hp_RwR {F : Nat → Nat → Option Nat} : mm_R (mm_wR S F) = F := id rfl
theorem hp_KwR {F : Nat → Nat → Option Nat} : mm_K (mm_wR S F) = mm_K S := id rfl
theorem hp_NwR {F : Nat → Nat → Option Nat} : mm_N (mm_wR S F) = mm_N S := id rfl
theorem hp_nwR {F : Nat → Nat → Option Nat} : mm_n (mm_wR S F) = mm_n S := id rfl
theorem hp_zwR {F : Nat → Nat → Option Nat} : mm_z (mm_wR S F) = mm_z S := id rfl
theorem hp_owR {F : Nat → Nat → Option Nat} : mm_obj (mm_wR S F) b f = mm_obj S b f := id rfl
theorem hp_awR {F : Nat → Nat → Option Nat} : mm_arr (mm_wR S F) b f = mm_arr S b f := id rfl
theorem hp_kwR {F : Nat → Nat → Option Nat} : mm_rk (mm_wR S F) b = mm_rk S b := id rfl
theorem hp_MwL {F : Nat → Nat → Int64} : mm_M (mm_wL S F) = mm_M S := id rfl
theorem hp_LwL {F : Nat → Nat → Int64} : mm_L (mm_wL S F) = F := id rfl
theorem hp_RwL {F : Nat → Nat → Int64} : mm_R (mm_wL S F) = mm_R S := id rfl
theorem hp_KwL {F : Nat → Nat → Int64} : mm_K (mm_wL S F) = mm_K S := id rfl
theorem hp_NwL {F : Nat → Nat → Int64} : mm_N (mm_wL S F) = mm_N S := id rfl
theorem hp_nwL {F : Nat → Nat → Int64} : mm_n (mm_wL S F) = mm_n S := id rfl
theorem hp_zwL {F : Nat → Nat → Int64} : mm_z (mm_wL S F) = mm_z S := id rfl
theorem hp_owL {F : Nat → Nat → Int64} : mm_obj (mm_wL S F) b f = mm_obj S b f := id rfl
theorem hp_awL {F : Nat → Nat → Int64} : mm_arr (mm_wL S F) b f = mm_arr S b f := id rfl
theorem hp_kwL {F : Nat → Nat → Int64} : mm_rk (mm_wL S F) b = mm_rk S b := id rfl
theorem hp_gwL {F : Nat → Nat → Int64} : mm_rg (mm_wL S F) b j = mm_rg S b j := id rfl
theorem hp_w2M {F G : Nat → Nat → Int32} : mm_wM (mm_wM S F) G = mm_wM S G := id rfl
theorem hp_w2R {F G : Nat → Nat → Option Nat} : mm_wR (mm_wR S F) G = mm_wR S G := id rfl
theorem hp_w2L {F G : Nat → Nat → Int64} : mm_wL (mm_wL S F) G = mm_wL S G := id rfl
theorem hp_uMw {x : Int32} : mm_uM S a k x = mm_wM S (mm_M (mm_uM S a k x)) := id rfl
theorem hp_cpMw : mm_cpM S a k sp dp n = mm_wM S (mm_M (mm_cpM S a k sp dp n)) := id rfl
theorem hp_bd {v : Option Value} {f : Option Value → mm_S → mm_Res} : mm_bd (some (v, S)) f = f v S := id rfl
theorem hp_bdi {c : Prop} [Decidable c] {r s : mm_Res} {f : Option Value → mm_S → mm_Res} : mm_bd (if c then r else s) f = if c then mm_bd r f else mm_bd s f := by
  by_cases h : c
  · rw [if_pos h, if_pos h]
  · rw [if_neg h, if_neg h]
theorem hp_ts {v : Value} : (some v).toList ++ [] = [v] := id rfl
theorem hp_tn : (none : Option Value).toList ++ [] = [] := id rfl
theorem hp_tsc {v : Value} {l : List Value} : (some v).toList ++ l = v :: l := id rfl
theorem hp_tnc {l : List Value} : (none : Option Value).toList ++ l = l := id rfl
theorem hp_k1i {x : Int32} : mm_k1 (.int x) = .int x := id rfl
theorem hp_k1r {x : Nat} : mm_k1 (.ref x) = .ref x := id rfl
theorem hp_k1n : mm_k1 .null = .null := id rfl
theorem hp_inb {i n : Nat} (h : i < n) (hn : i < 2 ^ 31) : mm_inb (nI i) n = true := by
  have h1 := nI_pos hn
  have h2 := nI_clamp hn
  unfold mm_inb
  rw [h2]
  simp [h1]
  omega
theorem hp_cpok {i j n p q : Nat} (hi : i < 2 ^ 30) (hj : j < 2 ^ 30) (hn : n < 2 ^ 30) (h1 : i + n ≤ p) (h2 : j + n ≤ q) : mm_cpOk (nI i) (nI j) (nI n) p q = true := by
  have a1 := nI_pos (n := i) (by omega)
  have a2 := nI_pos (n := j) (by omega)
  have a3 := nI_pos (n := n) (by omega)
  have b1 := nI_clamp (n := i) (by omega)
  have b2 := nI_clamp (n := j) (by omega)
  have b3 := nI_clamp (n := n) (by omega)
  unfold mm_cpOk
  rw [b1, b2, b3]
  simp [a1, a2, a3]
  omega
theorem hp_rg {v : Nat} (h : mm_R S a k = some v) : mm_rg S a k = v := by
  unfold mm_rg; rw [h]; rfl
theorem hp_rs {v : Nat} (h : mm_R S a k = some v) : (mm_R S a k).isSome = true := by rw [h]; rfl
end HP
/-! ===== the heap that the constructors leave ===== -/
def mm_tK (a : Nat) : Nat := ([11, 6, 13, 13, 13, 13, 1, 16, 13, 13, 13, 13, 13, 13, 13, 1, 16, 13, 13, 13, 13, 13, 13, 13, 1, 16, 13, 13, 13, 13, 13, 13, 13, 1, 16, 13, 13, 13, 13, 13, 13, 13, 17, 6, 13, 13, 13, 13, 6, 13, 13, 13, 13, 6, 13, 13, 13, 13, 6, 13, 13, 13, 13, 6, 13, 13, 13, 13, 6, 13, 13, 13, 13, 5, 13, 18, 8, 14, 8, 14, 8, 14, 8, 14, 8, 14, 8, 14, 13, 13, 13, 13, 12, 13, 13, 13, 13, 13, 13, 13, 13, 13, 13, 13, 13, 13, 13, 13, 13, 13, 13, 13, 14, 13, 13, 13, 13, 15, 13, 13, 13, 13, 13, 13, 13, 13, 13, 13, 13, 13, 13, 13, 13, 13, 13, 13, 14] : List Nat).getD a 0
def mm_tN (a : Nat) : Nat := ([13, 10, 10, 10, 10, 100, 20, 6, 6, 18, 6, 6, 6, 12, 7, 20, 6, 6, 18, 6, 6, 6, 12, 7, 20, 6, 6, 18, 6, 6, 6, 12, 7, 20, 6, 6, 18, 6, 6, 6, 12, 7, 6, 10, 10, 10, 10, 100, 10, 10, 10, 10, 100, 10, 10, 10, 10, 100, 10, 10, 10, 10, 100, 10, 10, 10, 10, 100, 10, 10, 10, 10, 100, 4, 100, 6, 3, 60, 3, 60, 3, 60, 3, 60, 3, 60, 3, 60, 21, 6, 6, 6, 76, 6, 6, 6, 6, 6, 6, 18, 6, 12, 7, 70, 70, 70, 70, 840, 100, 20, 6, 6, 360, 24, 6, 7, 110, 110, 6, 6, 6, 6, 78, 78, 78, 65, 6, 6, 6, 6, 6, 6, 18, 6, 5, 12, 60] : List Nat).getD a 0
def mm_tR (a k : Nat) : Option Nat := match a with
  | 0 => ([some 6, some 15, some 24, some 33, some 42, some 73, some 75, some 88, some 89, some 90, some 91] : List (Option Nat)).getD k none
  | 1 => ([none, none, none, none, some 2, some 3, some 4, some 5] : List (Option Nat)).getD k none
  | 6 => ([some 7, some 8, some 9, some 10, some 11, some 12, some 13, some 14] : List (Option Nat)).getD k none
  | 15 => ([some 16, some 17, some 18, some 19, some 20, some 21, some 22, some 23] : List (Option Nat)).getD k none
  | 24 => ([some 25, some 26, some 27, some 28, some 29, some 30, some 31, some 32] : List (Option Nat)).getD k none
  | 33 => ([some 34, some 35, some 36, some 37, some 38, some 39, some 40, some 41] : List (Option Nat)).getD k none
  | 42 => ([some 43, some 48, some 53, some 58, some 63, some 68] : List (Option Nat)).getD k none
  | 43 => ([none, none, none, none, some 44, some 45, some 46, some 47] : List (Option Nat)).getD k none
  | 48 => ([none, none, none, none, some 49, some 50, some 51, some 52] : List (Option Nat)).getD k none
  | 53 => ([none, none, none, none, some 54, some 55, some 56, some 57] : List (Option Nat)).getD k none
  | 58 => ([none, none, none, none, some 59, some 60, some 61, some 62] : List (Option Nat)).getD k none
  | 63 => ([none, none, none, none, some 64, some 65, some 66, some 67] : List (Option Nat)).getD k none
  | 68 => ([none, none, none, none, some 69, some 70, some 71, some 72] : List (Option Nat)).getD k none
  | 73 => ([none, some 74] : List (Option Nat)).getD k none
  | 75 => ([some 76, some 78, some 80, some 82, some 84, some 86] : List (Option Nat)).getD k none
  | 76 => ([some 77] : List (Option Nat)).getD k none
  | 78 => ([some 79] : List (Option Nat)).getD k none
  | 80 => ([some 81] : List (Option Nat)).getD k none
  | 82 => ([some 83] : List (Option Nat)).getD k none
  | 84 => ([some 85] : List (Option Nat)).getD k none
  | 86 => ([some 87] : List (Option Nat)).getD k none
  | 92 => ([none, some 93, some 94, some 95, some 96, some 97, some 98, some 99, none, some 100, none, none, none, none, none, none, some 101, none, none, some 102, some 103, some 104, some 105, some 106, some 107, some 108, none, none, none, some 109, some 110, some 111, some 112, some 113, some 114, some 115, none, none, some 116, none, none, some 117, none, none, some 118, some 119, some 120, none, none, none, none, none, some 121, none, none, some 122, some 123, some 124, some 125, none, none, none, none, none, some 126, some 127, some 128, some 129, some 130, some 131, some 132, some 133, some 134, some 135, none, some 136] : List (Option Nat)).getD k none
  | _ => none
/-- all that never changes: kinds, lengths, references among the 137 first cells -/
def mm_W (S : mm_S) : Prop := 137 ≤ mm_n S ∧ (∀ a, a < 137 → mm_K S a = mm_tK a ∧ mm_N S a = mm_tN a) ∧ (∀ a k b, mm_tR a k = some b → mm_R S a k = some b)
section WP
variable {S : mm_S}
theorem wp_M {F : Nat → Nat → Int32} (h : mm_W S) : mm_W (mm_wM S F) := h
theorem wp_L {F : Nat → Nat → Int64} (h : mm_W S) : mm_W (mm_wL S F) := h
theorem wp_K (h : mm_W S) (a k : Nat) (ha : a < 137) (e : mm_tK a = k) : mm_K S a = k := (h.2.1 a ha).1.trans e
theorem wp_N (h : mm_W S) (a k : Nat) (ha : a < 137) (e : mm_tN a = k) : mm_N S a = k := (h.2.1 a ha).2.trans e
theorem wp_R (h : mm_W S) (a k b : Nat) (e : mm_tR a k = some b) : mm_R S a k = some b := h.2.2 a k b e
theorem wp_g (h : mm_W S) (a k b : Nat) (e : mm_tR a k = some b) : mm_rg S a k = b := hp_rg (h.2.2 a k b e)
theorem wp_s (h : mm_W S) (a k b : Nat) (e : mm_tR a k = some b) : (mm_R S a k).isSome = true := hp_rs (h.2.2 a k b e)
theorem wp_o (h : mm_W S) (a f k : Nat) (ha : a < 137) (e : mm_tK a = k) (hk : k < 13) (hf : mm_fam f k = true) : mm_obj S a f = true := by
  unfold mm_obj
  rw [wp_K h a k ha e, hf]
  have := h.1
  simp [hk]
  omega
theorem wp_a (h : mm_W S) (a k : Nat) (ha : a < 137) (e : mm_tK a = k) : mm_arr S a k = true := by
  unfold mm_arr
  rw [wp_K h a k ha e]
  have := h.1
  simp
  omega
theorem wp_q (h : mm_W S) (a k : Nat) (ha : a < 137) (e : mm_tK a = k) (hk : k < 13) : (decide (a < mm_n S) && decide (mm_K S a < 13)) = true := by
  have := h.1
  rw [wp_K h a k ha e]
  simp [hk]
  omega
theorem wp_k (h : mm_W S) (a k : Nat) (ha : a < 137) (e : mm_tK a = k) (hk : k < 13) : mm_rk S a = k := by
  unfold mm_rk
  have := h.1
  rw [if_pos (by omega), wp_K h a k ha e, if_pos hk]
def mm_dy (a : Nat) : Prop := a = 6 ∨ a = 15 ∨ a = 24 ∨ a = 33
def mm_sh (a : Nat) : Prop := a = 1 ∨ a = 43 ∨ a = 48 ∨ a = 53 ∨ a = 58 ∨ a = 63 ∨ a = 68
theorem wd_o (h : mm_W S) {a : Nat} (ha : mm_dy a) : mm_obj S a 1 = true := by
  rcases ha with rfl | rfl | rfl | rfl <;> exact wp_o h _ _ _ (by decide) rfl (by decide) rfl
theorem wd_k (h : mm_W S) {a : Nat} (ha : mm_dy a) : mm_rk S a = 1 := by
  rcases ha with rfl | rfl | rfl | rfl <;> exact wp_k h _ _ (by decide) rfl (by decide)
theorem wd_q (h : mm_W S) {a : Nat} (ha : mm_dy a) : (decide (a < mm_n S) && decide (mm_K S a < 13)) = true := by
  rcases ha with rfl | rfl | rfl | rfl <;> exact wp_q h _ _ (by decide) rfl (by decide)
theorem wd_g0 (h : mm_W S) {a : Nat} (ha : mm_dy a) : mm_rg S a 0 = a + 1 := by
  rcases ha with rfl | rfl | rfl | rfl <;> exact wp_g h _ _ _ rfl
theorem wd_s0 (h : mm_W S) {a : Nat} (ha : mm_dy a) : (mm_R S a 0).isSome = true := by
  rcases ha with rfl | rfl | rfl | rfl <;> exact wp_s h _ _ _ rfl
theorem wd_N1 (h : mm_W S) {a : Nat} (ha : mm_dy a) : mm_N S (a + 1) = 6 := by
  rcases ha with rfl | rfl | rfl | rfl <;> exact wp_N h _ _ (by decide) rfl
theorem wd_K1 (h : mm_W S) {a : Nat} (ha : mm_dy a) : mm_K S (a + 1) = 16 := by
  rcases ha with rfl | rfl | rfl | rfl <;> exact wp_K h _ _ (by decide) rfl
theorem wd_a1 (h : mm_W S) {a : Nat} (ha : mm_dy a) : (mm_arr S (a + 1) 16 || mm_arr S (a + 1) 17 || mm_arr S (a + 1) 18) = true := by
  rcases ha with rfl | rfl | rfl | rfl <;> exact (by rw [wp_a h _ 16 (by decide) rfl]; rfl)
theorem wd_g1 (h : mm_W S) {a : Nat} (ha : mm_dy a) : mm_rg S a 1 = a + 2 := by
  rcases ha with rfl | rfl | rfl | rfl <;> exact wp_g h _ _ _ rfl
theorem wd_s1 (h : mm_W S) {a : Nat} (ha : mm_dy a) : (mm_R S a 1).isSome = true := by
  rcases ha with rfl | rfl | rfl | rfl <;> exact wp_s h _ _ _ rfl
theorem wd_N2 (h : mm_W S) {a : Nat} (ha : mm_dy a) : mm_N S (a + 2) = 6 := by
  rcases ha with rfl | rfl | rfl | rfl <;> exact wp_N h _ _ (by decide) rfl
theorem wd_a2 (h : mm_W S) {a : Nat} (ha : mm_dy a) : mm_arr S (a + 2) 13 = true := by
  rcases ha with rfl | rfl | rfl | rfl <;> exact wp_a h _ _ (by decide) rfl
theorem wd_g2 (h : mm_W S) {a : Nat} (ha : mm_dy a) : mm_rg S a 2 = a + 3 := by
  rcases ha with rfl | rfl | rfl | rfl <;> exact wp_g h _ _ _ rfl
theorem wd_s2 (h : mm_W S) {a : Nat} (ha : mm_dy a) : (mm_R S a 2).isSome = true := by
  rcases ha with rfl | rfl | rfl | rfl <;> exact wp_s h _ _ _ rfl
theorem wd_N3 (h : mm_W S) {a : Nat} (ha : mm_dy a) : mm_N S (a + 3) = 18 := by
  rcases ha with rfl | rfl | rfl | rfl <;> exact wp_N h _ _ (by decide) rfl
theorem wd_a3 (h : mm_W S) {a : Nat} (ha : mm_dy a) : mm_arr S (a + 3) 13 = true := by
  rcases ha with rfl | rfl | rfl | rfl <;> exact wp_a h _ _ (by decide) rfl
theorem wd_g3 (h : mm_W S) {a : Nat} (ha : mm_dy a) : mm_rg S a 3 = a + 4 := by
  rcases ha with rfl | rfl | rfl | rfl <;> exact wp_g h _ _ _ rfl
theorem wd_s3 (h : mm_W S) {a : Nat} (ha : mm_dy a) : (mm_R S a 3).isSome = true := by
  rcases ha with rfl | rfl | rfl | rfl <;> exact wp_s h _ _ _ rfl
theorem wd_N4 (h : mm_W S) {a : Nat} (ha : mm_dy a) : mm_N S (a + 4) = 6 := by
  rcases ha with rfl | rfl | rfl | rfl <;> exact wp_N h _ _ (by decide) rfl
theorem wd_a4 (h : mm_W S) {a : Nat} (ha : mm_dy a) : mm_arr S (a + 4) 13 = true := by
  rcases ha with rfl | rfl | rfl | rfl <;> exact wp_a h _ _ (by decide) rfl
theorem wd_g4 (h : mm_W S) {a : Nat} (ha : mm_dy a) : mm_rg S a 4 = a + 5 := by
  rcases ha with rfl | rfl | rfl | rfl <;> exact wp_g h _ _ _ rfl
theorem wd_s4 (h : mm_W S) {a : Nat} (ha : mm_dy a) : (mm_R S a 4).isSome = true := by
  rcases ha with rfl | rfl | rfl | rfl <;> exact wp_s h _ _ _ rfl
theorem wd_N5 (h : mm_W S) {a : Nat} (ha : mm_dy a) : mm_N S (a + 5) = 6 := by
  rcases ha with rfl | rfl | rfl | rfl <;> exact wp_N h _ _ (by decide) rfl
theorem wd_a5 (h : mm_W S) {a : Nat} (ha : mm_dy a) : mm_arr S (a + 5) 13 = true := by
  rcases ha with rfl | rfl | rfl | rfl <;> exact wp_a h _ _ (by decide) rfl
theorem wd_g5 (h : mm_W S) {a : Nat} (ha : mm_dy a) : mm_rg S a 5 = a + 6 := by
  rcases ha with rfl | rfl | rfl | rfl <;> exact wp_g h _ _ _ rfl
theorem wd_s5 (h : mm_W S) {a : Nat} (ha : mm_dy a) : (mm_R S a 5).isSome = true := by
  rcases ha with rfl | rfl | rfl | rfl <;> exact wp_s h _ _ _ rfl
theorem wd_N6 (h : mm_W S) {a : Nat} (ha : mm_dy a) : mm_N S (a + 6) = 6 := by
  rcases ha with rfl | rfl | rfl | rfl <;> exact wp_N h _ _ (by decide) rfl
theorem wd_a6 (h : mm_W S) {a : Nat} (ha : mm_dy a) : mm_arr S (a + 6) 13 = true := by
  rcases ha with rfl | rfl | rfl | rfl <;> exact wp_a h _ _ (by decide) rfl
theorem wd_g6 (h : mm_W S) {a : Nat} (ha : mm_dy a) : mm_rg S a 6 = a + 7 := by
  rcases ha with rfl | rfl | rfl | rfl <;> exact wp_g h _ _ _ rfl
theorem wd_s6 (h : mm_W S) {a : Nat} (ha : mm_dy a) : (mm_R S a 6).isSome = true := by
  rcases ha with rfl | rfl | rfl | rfl <;> exact wp_s h _ _ _ rfl
theorem wd_N7 (h : mm_W S) {a : Nat} (ha : mm_dy a) : mm_N S (a + 7) = 12 := by
  rcases ha with rfl | rfl | rfl | rfl <;> exact wp_N h _ _ (by decide) rfl
theorem wd_a7 (h : mm_W S) {a : Nat} (ha : mm_dy a) : mm_arr S (a + 7) 13 = true := by
  rcases ha with rfl | rfl | rfl | rfl <;> exact wp_a h _ _ (by decide) rfl
theorem wd_g7 (h : mm_W S) {a : Nat} (ha : mm_dy a) : mm_rg S a 7 = a + 8 := by
  rcases ha with rfl | rfl | rfl | rfl <;> exact wp_g h _ _ _ rfl
theorem wd_s7 (h : mm_W S) {a : Nat} (ha : mm_dy a) : (mm_R S a 7).isSome = true := by
  rcases ha with rfl | rfl | rfl | rfl <;> exact wp_s h _ _ _ rfl
theorem wd_N8 (h : mm_W S) {a : Nat} (ha : mm_dy a) : mm_N S (a + 8) = 7 := by
  rcases ha with rfl | rfl | rfl | rfl <;> exact wp_N h _ _ (by decide) rfl
theorem wd_a8 (h : mm_W S) {a : Nat} (ha : mm_dy a) : mm_arr S (a + 8) 13 = true := by
  rcases ha with rfl | rfl | rfl | rfl <;> exact wp_a h _ _ (by decide) rfl
theorem ws_o (h : mm_W S) {a : Nat} (ha : mm_sh a) : mm_obj S a 6 = true := by
  rcases ha with rfl | rfl | rfl | rfl | rfl | rfl | rfl <;> exact wp_o h _ _ _ (by decide) rfl (by decide) rfl
theorem ws_k (h : mm_W S) {a : Nat} (ha : mm_sh a) : mm_rk S a = 6 := by
  rcases ha with rfl | rfl | rfl | rfl | rfl | rfl | rfl <;> exact wp_k h _ _ (by decide) rfl (by decide)
theorem ws_q (h : mm_W S) {a : Nat} (ha : mm_sh a) : (decide (a < mm_n S) && decide (mm_K S a < 13)) = true := by
  rcases ha with rfl | rfl | rfl | rfl | rfl | rfl | rfl <;> exact wp_q h _ _ (by decide) rfl (by decide)
theorem ws_g4 (h : mm_W S) {a : Nat} (ha : mm_sh a) : mm_rg S a 4 = a + 1 := by
  rcases ha with rfl | rfl | rfl | rfl | rfl | rfl | rfl <;> exact wp_g h _ _ _ rfl
theorem ws_s4 (h : mm_W S) {a : Nat} (ha : mm_sh a) : (mm_R S a 4).isSome = true := by
  rcases ha with rfl | rfl | rfl | rfl | rfl | rfl | rfl <;> exact wp_s h _ _ _ rfl
theorem ws_N1 (h : mm_W S) {a : Nat} (ha : mm_sh a) : mm_N S (a + 1) = 10 := by
  rcases ha with rfl | rfl | rfl | rfl | rfl | rfl | rfl <;> exact wp_N h _ _ (by decide) rfl
theorem ws_a1 (h : mm_W S) {a : Nat} (ha : mm_sh a) : mm_arr S (a + 1) 13 = true := by
  rcases ha with rfl | rfl | rfl | rfl | rfl | rfl | rfl <;> exact wp_a h _ _ (by decide) rfl
theorem ws_g5 (h : mm_W S) {a : Nat} (ha : mm_sh a) : mm_rg S a 5 = a + 2 := by
  rcases ha with rfl | rfl | rfl | rfl | rfl | rfl | rfl <;> exact wp_g h _ _ _ rfl
theorem ws_s5 (h : mm_W S) {a : Nat} (ha : mm_sh a) : (mm_R S a 5).isSome = true := by
  rcases ha with rfl | rfl | rfl | rfl | rfl | rfl | rfl <;> exact wp_s h _ _ _ rfl
theorem ws_N2 (h : mm_W S) {a : Nat} (ha : mm_sh a) : mm_N S (a + 2) = 10 := by
  rcases ha with rfl | rfl | rfl | rfl | rfl | rfl | rfl <;> exact wp_N h _ _ (by decide) rfl
theorem ws_a2 (h : mm_W S) {a : Nat} (ha : mm_sh a) : mm_arr S (a + 2) 13 = true := by
  rcases ha with rfl | rfl | rfl | rfl | rfl | rfl | rfl <;> exact wp_a h _ _ (by decide) rfl
theorem ws_g6 (h : mm_W S) {a : Nat} (ha : mm_sh a) : mm_rg S a 6 = a + 3 := by
  rcases ha with rfl | rfl | rfl | rfl | rfl | rfl | rfl <;> exact wp_g h _ _ _ rfl
theorem ws_s6 (h : mm_W S) {a : Nat} (ha : mm_sh a) : (mm_R S a 6).isSome = true := by
  rcases ha with rfl | rfl | rfl | rfl | rfl | rfl | rfl <;> exact wp_s h _ _ _ rfl
theorem ws_N3 (h : mm_W S) {a : Nat} (ha : mm_sh a) : mm_N S (a + 3) = 10 := by
  rcases ha with rfl | rfl | rfl | rfl | rfl | rfl | rfl <;> exact wp_N h _ _ (by decide) rfl
theorem ws_a3 (h : mm_W S) {a : Nat} (ha : mm_sh a) : mm_arr S (a + 3) 13 = true := by
  rcases ha with rfl | rfl | rfl | rfl | rfl | rfl | rfl <;> exact wp_a h _ _ (by decide) rfl
theorem ws_g7 (h : mm_W S) {a : Nat} (ha : mm_sh a) : mm_rg S a 7 = a + 4 := by
  rcases ha with rfl | rfl | rfl | rfl | rfl | rfl | rfl <;> exact wp_g h _ _ _ rfl
theorem ws_s7 (h : mm_W S) {a : Nat} (ha : mm_sh a) : (mm_R S a 7).isSome = true := by
  rcases ha with rfl | rfl | rfl | rfl | rfl | rfl | rfl <;> exact wp_s h _ _ _ rfl
theorem ws_N4 (h : mm_W S) {a : Nat} (ha : mm_sh a) : mm_N S (a + 4) = 100 := by
  rcases ha with rfl | rfl | rfl | rfl | rfl | rfl | rfl <;> exact wp_N h _ _ (by decide) rfl
theorem ws_a4 (h : mm_W S) {a : Nat} (ha : mm_sh a) : mm_arr S (a + 4) 13 = true := by
  rcases ha with rfl | rfl | rfl | rfl | rfl | rfl | rfl <;> exact wp_a h _ _ (by decide) rfl
theorem wf_o0 (h : mm_W S) : mm_obj S 0 11 = true := wp_o h _ _ _ (by decide) rfl (by decide) rfl
theorem wf_k0 (h : mm_W S) : mm_rk S 0 = 11 := wp_k h _ _ (by decide) rfl (by decide)
theorem wf_q0 (h : mm_W S) : (decide (0 < mm_n S) && decide (mm_K S 0 < 13)) = true := wp_q h _ _ (by decide) rfl (by decide)
theorem wf_g0_0 (h : mm_W S) : mm_rg S 0 0 = 6 := wp_g h _ _ _ rfl
theorem wf_s0_0 (h : mm_W S) : (mm_R S 0 0).isSome = true := wp_s h _ _ _ rfl
theorem wf_g0_1 (h : mm_W S) : mm_rg S 0 1 = 15 := wp_g h _ _ _ rfl
theorem wf_s0_1 (h : mm_W S) : (mm_R S 0 1).isSome = true := wp_s h _ _ _ rfl
theorem wf_g0_2 (h : mm_W S) : mm_rg S 0 2 = 24 := wp_g h _ _ _ rfl
theorem wf_s0_2 (h : mm_W S) : (mm_R S 0 2).isSome = true := wp_s h _ _ _ rfl
theorem wf_g0_3 (h : mm_W S) : mm_rg S 0 3 = 33 := wp_g h _ _ _ rfl
theorem wf_s0_3 (h : mm_W S) : (mm_R S 0 3).isSome = true := wp_s h _ _ _ rfl
theorem wf_g0_4 (h : mm_W S) : mm_rg S 0 4 = 42 := wp_g h _ _ _ rfl
theorem wf_s0_4 (h : mm_W S) : (mm_R S 0 4).isSome = true := wp_s h _ _ _ rfl
theorem wf_N42 (h : mm_W S) : mm_N S 42 = 6 := wp_N h _ _ (by decide) rfl
theorem wf_a42 (h : mm_W S) : (mm_arr S 42 16 || mm_arr S 42 17 || mm_arr S 42 18) = true := by rw [wp_a h _ 17 (by decide) rfl]; simp
theorem wf_g0_5 (h : mm_W S) : mm_rg S 0 5 = 73 := wp_g h _ _ _ rfl
theorem wf_s0_5 (h : mm_W S) : (mm_R S 0 5).isSome = true := wp_s h _ _ _ rfl
theorem wf_g0_6 (h : mm_W S) : mm_rg S 0 6 = 75 := wp_g h _ _ _ rfl
theorem wf_s0_6 (h : mm_W S) : (mm_R S 0 6).isSome = true := wp_s h _ _ _ rfl
theorem wf_N75 (h : mm_W S) : mm_N S 75 = 6 := wp_N h _ _ (by decide) rfl
theorem wf_a75 (h : mm_W S) : (mm_arr S 75 16 || mm_arr S 75 17 || mm_arr S 75 18) = true := by rw [wp_a h _ 18 (by decide) rfl]; simp
theorem wf_g0_7 (h : mm_W S) : mm_rg S 0 7 = 88 := wp_g h _ _ _ rfl
theorem wf_s0_7 (h : mm_W S) : (mm_R S 0 7).isSome = true := wp_s h _ _ _ rfl
theorem wf_N88 (h : mm_W S) : mm_N S 88 = 21 := wp_N h _ _ (by decide) rfl
theorem wf_a88 (h : mm_W S) : mm_arr S 88 13 = true := wp_a h _ _ (by decide) rfl
theorem wf_g0_8 (h : mm_W S) : mm_rg S 0 8 = 89 := wp_g h _ _ _ rfl
theorem wf_s0_8 (h : mm_W S) : (mm_R S 0 8).isSome = true := wp_s h _ _ _ rfl
theorem wf_N89 (h : mm_W S) : mm_N S 89 = 6 := wp_N h _ _ (by decide) rfl
theorem wf_a89 (h : mm_W S) : mm_arr S 89 13 = true := wp_a h _ _ (by decide) rfl
theorem wf_g0_9 (h : mm_W S) : mm_rg S 0 9 = 90 := wp_g h _ _ _ rfl
theorem wf_s0_9 (h : mm_W S) : (mm_R S 0 9).isSome = true := wp_s h _ _ _ rfl
theorem wf_N90 (h : mm_W S) : mm_N S 90 = 6 := wp_N h _ _ (by decide) rfl
theorem wf_a90 (h : mm_W S) : mm_arr S 90 13 = true := wp_a h _ _ (by decide) rfl
theorem wf_g0_10 (h : mm_W S) : mm_rg S 0 10 = 91 := wp_g h _ _ _ rfl
theorem wf_s0_10 (h : mm_W S) : (mm_R S 0 10).isSome = true := wp_s h _ _ _ rfl
theorem wf_N91 (h : mm_W S) : mm_N S 91 = 6 := wp_N h _ _ (by decide) rfl
theorem wf_a91 (h : mm_W S) : mm_arr S 91 13 = true := wp_a h _ _ (by decide) rfl
theorem wf_o73 (h : mm_W S) : mm_obj S 73 5 = true := wp_o h _ _ _ (by decide) rfl (by decide) rfl
theorem wf_k73 (h : mm_W S) : mm_rk S 73 = 5 := wp_k h _ _ (by decide) rfl (by decide)
theorem wf_q73 (h : mm_W S) : (decide (73 < mm_n S) && decide (mm_K S 73 < 13)) = true := wp_q h _ _ (by decide) rfl (by decide)
theorem wf_g73_1 (h : mm_W S) : mm_rg S 73 1 = 74 := wp_g h _ _ _ rfl
theorem wf_s73_1 (h : mm_W S) : (mm_R S 73 1).isSome = true := wp_s h _ _ _ rfl
theorem wf_N74 (h : mm_W S) : mm_N S 74 = 100 := wp_N h _ _ (by decide) rfl
theorem wf_a74 (h : mm_W S) : mm_arr S 74 13 = true := wp_a h _ _ (by decide) rfl
theorem wf_o92 (h : mm_W S) : mm_obj S 92 12 = true := wp_o h _ _ _ (by decide) rfl (by decide) rfl
theorem wf_k92 (h : mm_W S) : mm_rk S 92 = 12 := wp_k h _ _ (by decide) rfl (by decide)
theorem wf_q92 (h : mm_W S) : (decide (92 < mm_n S) && decide (mm_K S 92 < 13)) = true := wp_q h _ _ (by decide) rfl (by decide)
theorem wf_g92_1 (h : mm_W S) : mm_rg S 92 1 = 93 := wp_g h _ _ _ rfl
theorem wf_s92_1 (h : mm_W S) : (mm_R S 92 1).isSome = true := wp_s h _ _ _ rfl
theorem wf_N93 (h : mm_W S) : mm_N S 93 = 6 := wp_N h _ _ (by decide) rfl
theorem wf_a93 (h : mm_W S) : mm_arr S 93 13 = true := wp_a h _ _ (by decide) rfl
theorem wf_g92_2 (h : mm_W S) : mm_rg S 92 2 = 94 := wp_g h _ _ _ rfl
theorem wf_s92_2 (h : mm_W S) : (mm_R S 92 2).isSome = true := wp_s h _ _ _ rfl
theorem wf_N94 (h : mm_W S) : mm_N S 94 = 6 := wp_N h _ _ (by decide) rfl
theorem wf_a94 (h : mm_W S) : mm_arr S 94 13 = true := wp_a h _ _ (by decide) rfl
theorem wf_g92_3 (h : mm_W S) : mm_rg S 92 3 = 95 := wp_g h _ _ _ rfl
theorem wf_s92_3 (h : mm_W S) : (mm_R S 92 3).isSome = true := wp_s h _ _ _ rfl
theorem wf_N95 (h : mm_W S) : mm_N S 95 = 6 := wp_N h _ _ (by decide) rfl
theorem wf_a95 (h : mm_W S) : mm_arr S 95 13 = true := wp_a h _ _ (by decide) rfl
theorem wf_g92_4 (h : mm_W S) : mm_rg S 92 4 = 96 := wp_g h _ _ _ rfl
theorem wf_s92_4 (h : mm_W S) : (mm_R S 92 4).isSome = true := wp_s h _ _ _ rfl
theorem wf_N96 (h : mm_W S) : mm_N S 96 = 6 := wp_N h _ _ (by decide) rfl
theorem wf_a96 (h : mm_W S) : mm_arr S 96 13 = true := wp_a h _ _ (by decide) rfl
theorem wf_g92_5 (h : mm_W S) : mm_rg S 92 5 = 97 := wp_g h _ _ _ rfl
theorem wf_s92_5 (h : mm_W S) : (mm_R S 92 5).isSome = true := wp_s h _ _ _ rfl
theorem wf_N97 (h : mm_W S) : mm_N S 97 = 6 := wp_N h _ _ (by decide) rfl
theorem wf_a97 (h : mm_W S) : mm_arr S 97 13 = true := wp_a h _ _ (by decide) rfl
theorem wf_g92_6 (h : mm_W S) : mm_rg S 92 6 = 98 := wp_g h _ _ _ rfl
theorem wf_s92_6 (h : mm_W S) : (mm_R S 92 6).isSome = true := wp_s h _ _ _ rfl
theorem wf_N98 (h : mm_W S) : mm_N S 98 = 6 := wp_N h _ _ (by decide) rfl
theorem wf_a98 (h : mm_W S) : mm_arr S 98 13 = true := wp_a h _ _ (by decide) rfl
theorem wf_g92_7 (h : mm_W S) : mm_rg S 92 7 = 99 := wp_g h _ _ _ rfl
theorem wf_s92_7 (h : mm_W S) : (mm_R S 92 7).isSome = true := wp_s h _ _ _ rfl
theorem wf_N99 (h : mm_W S) : mm_N S 99 = 18 := wp_N h _ _ (by decide) rfl
theorem wf_a99 (h : mm_W S) : mm_arr S 99 13 = true := wp_a h _ _ (by decide) rfl
theorem wf_g92_9 (h : mm_W S) : mm_rg S 92 9 = 100 := wp_g h _ _ _ rfl
theorem wf_s92_9 (h : mm_W S) : (mm_R S 92 9).isSome = true := wp_s h _ _ _ rfl
theorem wf_N100 (h : mm_W S) : mm_N S 100 = 6 := wp_N h _ _ (by decide) rfl
theorem wf_a100 (h : mm_W S) : mm_arr S 100 13 = true := wp_a h _ _ (by decide) rfl
theorem wf_g92_16 (h : mm_W S) : mm_rg S 92 16 = 101 := wp_g h _ _ _ rfl
theorem wf_s92_16 (h : mm_W S) : (mm_R S 92 16).isSome = true := wp_s h _ _ _ rfl
theorem wf_N101 (h : mm_W S) : mm_N S 101 = 12 := wp_N h _ _ (by decide) rfl
theorem wf_a101 (h : mm_W S) : mm_arr S 101 13 = true := wp_a h _ _ (by decide) rfl
theorem wf_g92_19 (h : mm_W S) : mm_rg S 92 19 = 102 := wp_g h _ _ _ rfl
theorem wf_s92_19 (h : mm_W S) : (mm_R S 92 19).isSome = true := wp_s h _ _ _ rfl
theorem wf_N102 (h : mm_W S) : mm_N S 102 = 7 := wp_N h _ _ (by decide) rfl
theorem wf_a102 (h : mm_W S) : mm_arr S 102 13 = true := wp_a h _ _ (by decide) rfl
theorem wf_g92_20 (h : mm_W S) : mm_rg S 92 20 = 103 := wp_g h _ _ _ rfl
theorem wf_s92_20 (h : mm_W S) : (mm_R S 92 20).isSome = true := wp_s h _ _ _ rfl
theorem wf_N103 (h : mm_W S) : mm_N S 103 = 70 := wp_N h _ _ (by decide) rfl
theorem wf_a103 (h : mm_W S) : mm_arr S 103 13 = true := wp_a h _ _ (by decide) rfl
theorem wf_g92_21 (h : mm_W S) : mm_rg S 92 21 = 104 := wp_g h _ _ _ rfl
theorem wf_s92_21 (h : mm_W S) : (mm_R S 92 21).isSome = true := wp_s h _ _ _ rfl
theorem wf_N104 (h : mm_W S) : mm_N S 104 = 70 := wp_N h _ _ (by decide) rfl
theorem wf_a104 (h : mm_W S) : mm_arr S 104 13 = true := wp_a h _ _ (by decide) rfl
theorem wf_g92_22 (h : mm_W S) : mm_rg S 92 22 = 105 := wp_g h _ _ _ rfl
theorem wf_s92_22 (h : mm_W S) : (mm_R S 92 22).isSome = true := wp_s h _ _ _ rfl
theorem wf_N105 (h : mm_W S) : mm_N S 105 = 70 := wp_N h _ _ (by decide) rfl
theorem wf_a105 (h : mm_W S) : mm_arr S 105 13 = true := wp_a h _ _ (by decide) rfl
theorem wf_g92_23 (h : mm_W S) : mm_rg S 92 23 = 106 := wp_g h _ _ _ rfl
theorem wf_s92_23 (h : mm_W S) : (mm_R S 92 23).isSome = true := wp_s h _ _ _ rfl
theorem wf_N106 (h : mm_W S) : mm_N S 106 = 70 := wp_N h _ _ (by decide) rfl
theorem wf_a106 (h : mm_W S) : mm_arr S 106 13 = true := wp_a h _ _ (by decide) rfl
theorem wf_g92_24 (h : mm_W S) : mm_rg S 92 24 = 107 := wp_g h _ _ _ rfl
theorem wf_s92_24 (h : mm_W S) : (mm_R S 92 24).isSome = true := wp_s h _ _ _ rfl
theorem wf_N107 (h : mm_W S) : mm_N S 107 = 840 := wp_N h _ _ (by decide) rfl
theorem wf_a107 (h : mm_W S) : mm_arr S 107 13 = true := wp_a h _ _ (by decide) rfl
theorem wf_g92_25 (h : mm_W S) : mm_rg S 92 25 = 108 := wp_g h _ _ _ rfl
theorem wf_s92_25 (h : mm_W S) : (mm_R S 92 25).isSome = true := wp_s h _ _ _ rfl
theorem wf_N108 (h : mm_W S) : mm_N S 108 = 100 := wp_N h _ _ (by decide) rfl
theorem wf_a108 (h : mm_W S) : mm_arr S 108 13 = true := wp_a h _ _ (by decide) rfl
theorem wf_g92_29 (h : mm_W S) : mm_rg S 92 29 = 109 := wp_g h _ _ _ rfl
theorem wf_s92_29 (h : mm_W S) : (mm_R S 92 29).isSome = true := wp_s h _ _ _ rfl
theorem wf_N109 (h : mm_W S) : mm_N S 109 = 20 := wp_N h _ _ (by decide) rfl
theorem wf_a109 (h : mm_W S) : mm_arr S 109 13 = true := wp_a h _ _ (by decide) rfl
theorem wf_g92_30 (h : mm_W S) : mm_rg S 92 30 = 110 := wp_g h _ _ _ rfl
theorem wf_s92_30 (h : mm_W S) : (mm_R S 92 30).isSome = true := wp_s h _ _ _ rfl
theorem wf_N110 (h : mm_W S) : mm_N S 110 = 6 := wp_N h _ _ (by decide) rfl
theorem wf_a110 (h : mm_W S) : mm_arr S 110 13 = true := wp_a h _ _ (by decide) rfl
theorem wf_g92_31 (h : mm_W S) : mm_rg S 92 31 = 111 := wp_g h _ _ _ rfl
theorem wf_s92_31 (h : mm_W S) : (mm_R S 92 31).isSome = true := wp_s h _ _ _ rfl
theorem wf_N111 (h : mm_W S) : mm_N S 111 = 6 := wp_N h _ _ (by decide) rfl
theorem wf_a111 (h : mm_W S) : mm_arr S 111 13 = true := wp_a h _ _ (by decide) rfl
theorem wf_g92_32 (h : mm_W S) : mm_rg S 92 32 = 112 := wp_g h _ _ _ rfl
theorem wf_s92_32 (h : mm_W S) : (mm_R S 92 32).isSome = true := wp_s h _ _ _ rfl
theorem wf_N112 (h : mm_W S) : mm_N S 112 = 360 := wp_N h _ _ (by decide) rfl
theorem wf_a112 (h : mm_W S) : mm_arr S 112 14 = true := wp_a h _ _ (by decide) rfl
theorem wf_g92_33 (h : mm_W S) : mm_rg S 92 33 = 113 := wp_g h _ _ _ rfl
theorem wf_s92_33 (h : mm_W S) : (mm_R S 92 33).isSome = true := wp_s h _ _ _ rfl
theorem wf_N113 (h : mm_W S) : mm_N S 113 = 24 := wp_N h _ _ (by decide) rfl
theorem wf_a113 (h : mm_W S) : mm_arr S 113 13 = true := wp_a h _ _ (by decide) rfl
theorem wf_g92_34 (h : mm_W S) : mm_rg S 92 34 = 114 := wp_g h _ _ _ rfl
theorem wf_s92_34 (h : mm_W S) : (mm_R S 92 34).isSome = true := wp_s h _ _ _ rfl
theorem wf_N114 (h : mm_W S) : mm_N S 114 = 6 := wp_N h _ _ (by decide) rfl
theorem wf_a114 (h : mm_W S) : mm_arr S 114 13 = true := wp_a h _ _ (by decide) rfl
theorem wf_g92_35 (h : mm_W S) : mm_rg S 92 35 = 115 := wp_g h _ _ _ rfl
theorem wf_s92_35 (h : mm_W S) : (mm_R S 92 35).isSome = true := wp_s h _ _ _ rfl
theorem wf_N115 (h : mm_W S) : mm_N S 115 = 7 := wp_N h _ _ (by decide) rfl
theorem wf_a115 (h : mm_W S) : mm_arr S 115 13 = true := wp_a h _ _ (by decide) rfl
theorem wf_g92_38 (h : mm_W S) : mm_rg S 92 38 = 116 := wp_g h _ _ _ rfl
theorem wf_s92_38 (h : mm_W S) : (mm_R S 92 38).isSome = true := wp_s h _ _ _ rfl
theorem wf_N116 (h : mm_W S) : mm_N S 116 = 110 := wp_N h _ _ (by decide) rfl
theorem wf_a116 (h : mm_W S) : mm_arr S 116 13 = true := wp_a h _ _ (by decide) rfl
theorem wf_g92_41 (h : mm_W S) : mm_rg S 92 41 = 117 := wp_g h _ _ _ rfl
theorem wf_s92_41 (h : mm_W S) : (mm_R S 92 41).isSome = true := wp_s h _ _ _ rfl
theorem wf_N117 (h : mm_W S) : mm_N S 117 = 110 := wp_N h _ _ (by decide) rfl
theorem wf_a117 (h : mm_W S) : mm_arr S 117 15 = true := wp_a h _ _ (by decide) rfl
theorem wf_g92_44 (h : mm_W S) : mm_rg S 92 44 = 118 := wp_g h _ _ _ rfl
theorem wf_s92_44 (h : mm_W S) : (mm_R S 92 44).isSome = true := wp_s h _ _ _ rfl
theorem wf_N118 (h : mm_W S) : mm_N S 118 = 6 := wp_N h _ _ (by decide) rfl
theorem wf_a118 (h : mm_W S) : mm_arr S 118 13 = true := wp_a h _ _ (by decide) rfl
theorem wf_g92_45 (h : mm_W S) : mm_rg S 92 45 = 119 := wp_g h _ _ _ rfl
theorem wf_s92_45 (h : mm_W S) : (mm_R S 92 45).isSome = true := wp_s h _ _ _ rfl
theorem wf_N119 (h : mm_W S) : mm_N S 119 = 6 := wp_N h _ _ (by decide) rfl
theorem wf_a119 (h : mm_W S) : mm_arr S 119 13 = true := wp_a h _ _ (by decide) rfl
theorem wf_g92_46 (h : mm_W S) : mm_rg S 92 46 = 120 := wp_g h _ _ _ rfl
theorem wf_s92_46 (h : mm_W S) : (mm_R S 92 46).isSome = true := wp_s h _ _ _ rfl
theorem wf_N120 (h : mm_W S) : mm_N S 120 = 6 := wp_N h _ _ (by decide) rfl
theorem wf_a120 (h : mm_W S) : mm_arr S 120 13 = true := wp_a h _ _ (by decide) rfl
theorem wf_g92_52 (h : mm_W S) : mm_rg S 92 52 = 121 := wp_g h _ _ _ rfl
theorem wf_s92_52 (h : mm_W S) : (mm_R S 92 52).isSome = true := wp_s h _ _ _ rfl
theorem wf_N121 (h : mm_W S) : mm_N S 121 = 6 := wp_N h _ _ (by decide) rfl
theorem wf_a121 (h : mm_W S) : mm_arr S 121 13 = true := wp_a h _ _ (by decide) rfl
theorem wf_g92_55 (h : mm_W S) : mm_rg S 92 55 = 122 := wp_g h _ _ _ rfl
theorem wf_s92_55 (h : mm_W S) : (mm_R S 92 55).isSome = true := wp_s h _ _ _ rfl
theorem wf_N122 (h : mm_W S) : mm_N S 122 = 78 := wp_N h _ _ (by decide) rfl
theorem wf_a122 (h : mm_W S) : mm_arr S 122 13 = true := wp_a h _ _ (by decide) rfl
theorem wf_g92_56 (h : mm_W S) : mm_rg S 92 56 = 123 := wp_g h _ _ _ rfl
theorem wf_s92_56 (h : mm_W S) : (mm_R S 92 56).isSome = true := wp_s h _ _ _ rfl
theorem wf_N123 (h : mm_W S) : mm_N S 123 = 78 := wp_N h _ _ (by decide) rfl
theorem wf_a123 (h : mm_W S) : mm_arr S 123 13 = true := wp_a h _ _ (by decide) rfl
theorem wf_g92_57 (h : mm_W S) : mm_rg S 92 57 = 124 := wp_g h _ _ _ rfl
theorem wf_s92_57 (h : mm_W S) : (mm_R S 92 57).isSome = true := wp_s h _ _ _ rfl
theorem wf_N124 (h : mm_W S) : mm_N S 124 = 78 := wp_N h _ _ (by decide) rfl
theorem wf_a124 (h : mm_W S) : mm_arr S 124 13 = true := wp_a h _ _ (by decide) rfl
theorem wf_g92_58 (h : mm_W S) : mm_rg S 92 58 = 125 := wp_g h _ _ _ rfl
theorem wf_s92_58 (h : mm_W S) : (mm_R S 92 58).isSome = true := wp_s h _ _ _ rfl
theorem wf_N125 (h : mm_W S) : mm_N S 125 = 65 := wp_N h _ _ (by decide) rfl
theorem wf_a125 (h : mm_W S) : mm_arr S 125 13 = true := wp_a h _ _ (by decide) rfl
theorem wf_g92_64 (h : mm_W S) : mm_rg S 92 64 = 126 := wp_g h _ _ _ rfl
theorem wf_s92_64 (h : mm_W S) : (mm_R S 92 64).isSome = true := wp_s h _ _ _ rfl
theorem wf_N126 (h : mm_W S) : mm_N S 126 = 6 := wp_N h _ _ (by decide) rfl
theorem wf_a126 (h : mm_W S) : mm_arr S 126 13 = true := wp_a h _ _ (by decide) rfl
theorem wf_g92_65 (h : mm_W S) : mm_rg S 92 65 = 127 := wp_g h _ _ _ rfl
theorem wf_s92_65 (h : mm_W S) : (mm_R S 92 65).isSome = true := wp_s h _ _ _ rfl
theorem wf_N127 (h : mm_W S) : mm_N S 127 = 6 := wp_N h _ _ (by decide) rfl
theorem wf_a127 (h : mm_W S) : mm_arr S 127 13 = true := wp_a h _ _ (by decide) rfl
theorem wf_g92_66 (h : mm_W S) : mm_rg S 92 66 = 128 := wp_g h _ _ _ rfl
theorem wf_s92_66 (h : mm_W S) : (mm_R S 92 66).isSome = true := wp_s h _ _ _ rfl
theorem wf_N128 (h : mm_W S) : mm_N S 128 = 6 := wp_N h _ _ (by decide) rfl
theorem wf_a128 (h : mm_W S) : mm_arr S 128 13 = true := wp_a h _ _ (by decide) rfl
theorem wf_g92_67 (h : mm_W S) : mm_rg S 92 67 = 129 := wp_g h _ _ _ rfl
theorem wf_s92_67 (h : mm_W S) : (mm_R S 92 67).isSome = true := wp_s h _ _ _ rfl
theorem wf_N129 (h : mm_W S) : mm_N S 129 = 6 := wp_N h _ _ (by decide) rfl
theorem wf_a129 (h : mm_W S) : mm_arr S 129 13 = true := wp_a h _ _ (by decide) rfl
theorem wf_g92_68 (h : mm_W S) : mm_rg S 92 68 = 130 := wp_g h _ _ _ rfl
theorem wf_s92_68 (h : mm_W S) : (mm_R S 92 68).isSome = true := wp_s h _ _ _ rfl
theorem wf_N130 (h : mm_W S) : mm_N S 130 = 6 := wp_N h _ _ (by decide) rfl
theorem wf_a130 (h : mm_W S) : mm_arr S 130 13 = true := wp_a h _ _ (by decide) rfl
theorem wf_g92_69 (h : mm_W S) : mm_rg S 92 69 = 131 := wp_g h _ _ _ rfl
theorem wf_s92_69 (h : mm_W S) : (mm_R S 92 69).isSome = true := wp_s h _ _ _ rfl
theorem wf_N131 (h : mm_W S) : mm_N S 131 = 6 := wp_N h _ _ (by decide) rfl
theorem wf_a131 (h : mm_W S) : mm_arr S 131 13 = true := wp_a h _ _ (by decide) rfl
theorem wf_g92_70 (h : mm_W S) : mm_rg S 92 70 = 132 := wp_g h _ _ _ rfl
theorem wf_s92_70 (h : mm_W S) : (mm_R S 92 70).isSome = true := wp_s h _ _ _ rfl
theorem wf_N132 (h : mm_W S) : mm_N S 132 = 18 := wp_N h _ _ (by decide) rfl
theorem wf_a132 (h : mm_W S) : mm_arr S 132 13 = true := wp_a h _ _ (by decide) rfl
theorem wf_g92_71 (h : mm_W S) : mm_rg S 92 71 = 133 := wp_g h _ _ _ rfl
theorem wf_s92_71 (h : mm_W S) : (mm_R S 92 71).isSome = true := wp_s h _ _ _ rfl
theorem wf_N133 (h : mm_W S) : mm_N S 133 = 6 := wp_N h _ _ (by decide) rfl
theorem wf_a133 (h : mm_W S) : mm_arr S 133 13 = true := wp_a h _ _ (by decide) rfl
theorem wf_g92_72 (h : mm_W S) : mm_rg S 92 72 = 134 := wp_g h _ _ _ rfl
theorem wf_s92_72 (h : mm_W S) : (mm_R S 92 72).isSome = true := wp_s h _ _ _ rfl
theorem wf_N134 (h : mm_W S) : mm_N S 134 = 5 := wp_N h _ _ (by decide) rfl
theorem wf_a134 (h : mm_W S) : mm_arr S 134 13 = true := wp_a h _ _ (by decide) rfl
theorem wf_g92_73 (h : mm_W S) : mm_rg S 92 73 = 135 := wp_g h _ _ _ rfl
theorem wf_s92_73 (h : mm_W S) : (mm_R S 92 73).isSome = true := wp_s h _ _ _ rfl
theorem wf_N135 (h : mm_W S) : mm_N S 135 = 12 := wp_N h _ _ (by decide) rfl
theorem wf_a135 (h : mm_W S) : mm_arr S 135 13 = true := wp_a h _ _ (by decide) rfl
theorem wf_g92_75 (h : mm_W S) : mm_rg S 92 75 = 136 := wp_g h _ _ _ rfl
theorem wf_s92_75 (h : mm_W S) : (mm_R S 92 75).isSome = true := wp_s h _ _ _ rfl
theorem wf_N136 (h : mm_W S) : mm_N S 136 = 60 := wp_N h _ _ (by decide) rfl
theorem wf_a136 (h : mm_W S) : mm_arr S 136 14 = true := wp_a h _ _ (by decide) rfl
end WP
