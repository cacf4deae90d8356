/-! ===== ints as iI z with z : Int; arrays of ints as functions of Int; rows of the kit in this form ===== -/
def iI (z : Int) : Int32 := Int32.ofInt z
def rg (z : Int) : Prop := -2147483648 ≤ z ∧ z ≤ 2147483647
def rgA (f : Int → Int) : Prop := ∀ i, rg (f i)
def iA (f : Int → Int) : Nat → Int32 := fun j => iI (f (j : Int))
def uZ (f : Int → Int) (i v : Int) : Int → Int := fun j => if j = i then v else f j
abbrev SS : Type := (Nat → Int) × (Nat → Int → Int)
def sS (s : SS) (k : Nat) (v : Int) : SS := (fun j => if j = k then v else s.1 j, s.2)
def sA (s : SS) (k : Nat) (f : Int → Int) : SS := (s.1, fun j => if j = k then f else s.2 j)
def RG (s : SS) : Prop := (∀ k, rg (s.1 k)) ∧ ∀ k, rgA (s.2 k)
def cI (f g : Int → Int) (sp dp n : Int) : Int → Int := fun k => if dp ≤ k ∧ k < dp + n then f (sp + (k - dp)) else g k
theorem rgA_u {f : Int → Int} {i v : Int} (h : rgA f) (hv : rg v) : rgA (uZ f i v) := by
  intro j
  unfold uZ
  split
  · exact hv
  · exact h j
theorem rgA_c {f g : Int → Int} {sp dp n : Int} (h : rgA f) (h2 : rgA g) : rgA (cI f g sp dp n) := by
  intro j
  unfold cI
  split
  · exact h _
  · exact h2 _
theorem RG_S {s : SS} {k : Nat} {v : Int} (h : RG s) (hv : rg v) : RG (sS s k v) := by
  refine ⟨fun j => ?_, h.2⟩
  show rg (if j = k then v else s.1 j)
  split
  · exact hv
  · exact h.1 j
theorem RG_A {s : SS} {k : Nat} {f : Int → Int} (h : RG s) (hf : rgA f) : RG (sA s k f) := by
  refine ⟨h.1, fun j => ?_⟩
  show rgA (if j = k then f else s.2 j)
  split
  · exact hf
  · exact h.2 j
theorem iI_toInt {z : Int} (h : rg z) : (iI z).toInt = z := by
  unfold iI
  obtain ⟨h1, h2⟩ := h
  rw [Int32.toInt_ofInt]
  have hs : ((Int32.size : Nat) : Int) = 4294967296 := rfl
  exact Int.bmod_eq_of_le (by omega) (by omega)
theorem iI_of (x : Int32) : iI x.toInt = x := by
  unfold iI
  exact Int32.ofInt_toInt x
theorem rg_of (x : Int32) : rg x.toInt := by
  have h1 := Int32.le_toInt x
  have h2 := Int32.toInt_lt x
  unfold rg
  omega
theorem iI_add (x y : Int) : iI x + iI y = iI (x + y) := by
  unfold iI
  rw [Int32.ofInt_add]
theorem iI_sub (x y : Int) : iI x - iI y = iI (x - y) := by
  unfold iI
  rw [Int32.ofInt_sub]
theorem iI_mul (x y : Int) : iI x * iI y = iI (x * y) := by
  unfold iI
  rw [Int32.ofInt_mul]
theorem iI_lt {x y : Int} (hx : rg x) (hy : rg y) : iI x < iI y ↔ x < y := by
  rw [Int32.lt_iff_toInt_lt, iI_toInt hx, iI_toInt hy]
theorem iI_le {x y : Int} (hx : rg x) (hy : rg y) : iI x ≤ iI y ↔ x ≤ y := by
  rw [Int32.le_iff_toInt_le, iI_toInt hx, iI_toInt hy]
theorem iI_eq {x y : Int} (hx : rg x) (hy : rg y) : iI x = iI y ↔ x = y := by
  rw [← Int32.toInt_inj, iI_toInt hx, iI_toInt hy]
theorem rg_0 : rg 0 := by unfold rg; omega
theorem iI_0 : (0 : Int32) = iI 0 := rfl
theorem iI_clamp {i : Int} (h : rg i) (h0 : 0 ≤ i) : (iI i).toNatClampNeg = i.toNat := by
  show (iI i).toInt.toNat = i.toNat
  rw [iI_toInt h]
theorem iI_in {i : Int} {n : Nat} (hr : rg i) (h0 : 0 ≤ i) (h1 : i < n) : vp_in (iI i) n := by
  rw [vp_in_iff, iI_toInt hr]
  exact ⟨h0, h1⟩
theorem iA_at {f : Int → Int} {i : Int} (hr : rg i) (h0 : 0 ≤ i) : iA f (iI i).toNatClampNeg = iI (f i) := by
  rw [iI_clamp hr h0]
  unfold iA
  rw [Int.toNat_of_nonneg h0]
theorem iA_upd {f : Int → Int} {i v : Int} (hr : rg i) (h0 : 0 ≤ i) : upd (iA f) (iI i).toNatClampNeg (iI v) = iA (uZ f i v) := by
  rw [iI_clamp hr h0]
  funext j
  unfold upd iA uZ
  by_cases h : (j : Int) = i
  · rw [if_pos h, if_pos (by omega)]
  · rw [if_neg h, if_neg (by omega)]
abbrev ZG : Type := va_G × (ClassId × ClassId × ClassId)
abbrev tz (G : ZG) : List (ClassId × FieldType) := [(G.2.1, .int), (G.2.1, .int), (G.2.2.2, .object "GrantedSort$SortState")]
abbrev eI (G : ZG) (n : Nat) (f : Int → Int) : va_E := .inl (G.2.1, n, .inl (iA f))
abbrev eC (G : ZG) (n : Nat) (f : Int → Int) : va_E := .inl (G.2.2.1, n, .inl (iA f))
def sumI (f : Int → Int) : Nat → Int
  | 0 => 0
  | n + 1 => sumI f n + f (n : Int)
def chn (ne : Int → Int) (f : Int) : Nat → Int
  | 0 => f
  | n + 1 => ne (chn ne f n)
def insI (f : Int → Int) (q v : Int) : Int → Int := fun j => if j < q then f j else if j = q then v else f (j - 1)
theorem sumI_01 {f : Int → Int} (h : ∀ r, f r = 0 ∨ f r = 1) : ∀ n : Nat, 0 ≤ sumI f n ∧ sumI f n ≤ n
  | 0 => ⟨Int.le_refl 0, Int.le_refl 0⟩
  | n + 1 => by
    have h1 := sumI_01 h n
    have h2 := h (n : Int)
    rw [sumI]
    omega
def pz (c : Prop) [Decidable c] : Int := if c then 1 else 0
theorem pz_t {c : Prop} [Decidable c] (h : c) : pz c = 1 := if_pos h
theorem pz_f {c : Prop} [Decidable c] (h : ¬ c) : pz c = 0 := if_neg h
theorem pz_01 (c : Prop) [Decidable c] : pz c = 0 ∨ pz c = 1 := by
  by_cases h : c
  · exact Or.inr (pz_t h)
  · exact Or.inl (pz_f h)
theorem rg_pz (c : Prop) [Decidable c] : rg (pz c) := by
  rcases pz_01 c with h | h <;> rw [h] <;> unfold rg <;> omega
theorem nar_b {z : Int} (h : z = 0 ∨ z = 1) : narrow .boolean (.int (iI z)) = .int (iI z) := by rcases h with rfl | rfl <;> rfl
theorem rg_1 : rg 1 := by unfold rg; omega
theorem rg_2 : rg 2 := by unfold rg; omega
theorem rg_3 : rg 3 := by unfold rg; omega
theorem rg_4 : rg 4 := by unfold rg; omega
theorem rg_5 : rg 5 := by unfold rg; omega
theorem rg_6 : rg 6 := by unfold rg; omega
theorem rg_7 : rg 7 := by unfold rg; omega
theorem rg_8 : rg 8 := by unfold rg; omega
theorem rg_9 : rg 9 := by unfold rg; omega
theorem rg_10 : rg 10 := by unfold rg; omega
theorem rg_11 : rg 11 := by unfold rg; omega
theorem rg_12 : rg 12 := by unfold rg; omega
theorem rg_13 : rg 13 := by unfold rg; omega
theorem rg_14 : rg 14 := by unfold rg; omega
theorem rg_15 : rg 15 := by unfold rg; omega
theorem rg_16 : rg 16 := by unfold rg; omega
theorem rg_17 : rg 17 := by unfold rg; omega
theorem rg_18 : rg 18 := by unfold rg; omega
theorem rg_19 : rg 19 := by unfold rg; omega
theorem rg_20 : rg 20 := by unfold rg; omega
theorem rg_21 : rg 21 := by unfold rg; omega
theorem rg_22 : rg 22 := by unfold rg; omega
theorem rg_23 : rg 23 := by unfold rg; omega
theorem rg_24 : rg 24 := by unfold rg; omega
theorem rg_25 : rg 25 := by unfold rg; omega
theorem rg_26 : rg 26 := by unfold rg; omega
theorem rg_27 : rg 27 := by unfold rg; omega
theorem rg_28 : rg 28 := by unfold rg; omega
theorem rg_29 : rg 29 := by unfold rg; omega
theorem rg_30 : rg 30 := by unfold rg; omega
theorem rg_31 : rg 31 := by unfold rg; omega
theorem rg_32 : rg 32 := by unfold rg; omega
theorem rg_33 : rg 33 := by unfold rg; omega
theorem rg_34 : rg 34 := by unfold rg; omega
theorem rg_35 : rg 35 := by unfold rg; omega
theorem rg_36 : rg 36 := by unfold rg; omega
theorem rg_37 : rg 37 := by unfold rg; omega
theorem rg_38 : rg 38 := by unfold rg; omega
theorem rg_39 : rg 39 := by unfold rg; omega
theorem rg_40 : rg 40 := by unfold rg; omega
theorem rg_41 : rg 41 := by unfold rg; omega
theorem rg_42 : rg 42 := by unfold rg; omega
theorem rg_43 : rg 43 := by unfold rg; omega
theorem rg_44 : rg 44 := by unfold rg; omega
theorem rg_45 : rg 45 := by unfold rg; omega
theorem rg_46 : rg 46 := by unfold rg; omega
theorem rg_47 : rg 47 := by unfold rg; omega
theorem rg_48 : rg 48 := by unfold rg; omega
theorem rg_49 : rg 49 := by unfold rg; omega
theorem rg_50 : rg 50 := by unfold rg; omega
theorem rg_51 : rg 51 := by unfold rg; omega
theorem rg_52 : rg 52 := by unfold rg; omega
theorem rg_53 : rg 53 := by unfold rg; omega
theorem rg_54 : rg 54 := by unfold rg; omega
theorem rg_55 : rg 55 := by unfold rg; omega
theorem rg_56 : rg 56 := by unfold rg; omega
theorem rg_57 : rg 57 := by unfold rg; omega
theorem rg_58 : rg 58 := by unfold rg; omega
theorem rg_59 : rg 59 := by unfold rg; omega
theorem rg_60 : rg 60 := by unfold rg; omega
theorem rg_61 : rg 61 := by unfold rg; omega
theorem rg_62 : rg 62 := by unfold rg; omega
theorem rg_63 : rg 63 := by unfold rg; omega
theorem rg_64 : rg 64 := by unfold rg; omega
theorem rg_65 : rg 65 := by unfold rg; omega
theorem rg_66 : rg 66 := by unfold rg; omega
theorem rg_67 : rg 67 := by unfold rg; omega
theorem rg_68 : rg 68 := by unfold rg; omega
theorem rg_69 : rg 69 := by unfold rg; omega
theorem rg_70 : rg 70 := by unfold rg; omega
theorem rg_71 : rg 71 := by unfold rg; omega
theorem rg_72 : rg 72 := by unfold rg; omega
theorem rg_73 : rg 73 := by unfold rg; omega
theorem rg_74 : rg 74 := by unfold rg; omega
theorem rg_75 : rg 75 := by unfold rg; omega
theorem rg_76 : rg 76 := by unfold rg; omega
theorem rg_77 : rg 77 := by unfold rg; omega
theorem rg_78 : rg 78 := by unfold rg; omega
theorem rg_79 : rg 79 := by unfold rg; omega
theorem rg_80 : rg 80 := by unfold rg; omega
theorem rg_81 : rg 81 := by unfold rg; omega
theorem rg_82 : rg 82 := by unfold rg; omega
theorem rg_83 : rg 83 := by unfold rg; omega
theorem rg_84 : rg 84 := by unfold rg; omega
theorem rg_85 : rg 85 := by unfold rg; omega
theorem rg_86 : rg 86 := by unfold rg; omega
theorem rg_87 : rg 87 := by unfold rg; omega
theorem rg_88 : rg 88 := by unfold rg; omega
theorem rg_89 : rg 89 := by unfold rg; omega
theorem rg_90 : rg 90 := by unfold rg; omega
theorem rg_91 : rg 91 := by unfold rg; omega
theorem rg_92 : rg 92 := by unfold rg; omega
theorem rg_93 : rg 93 := by unfold rg; omega
theorem rg_94 : rg 94 := by unfold rg; omega
theorem rg_95 : rg 95 := by unfold rg; omega
theorem rg_96 : rg 96 := by unfold rg; omega
theorem rg_97 : rg 97 := by unfold rg; omega
theorem rg_98 : rg 98 := by unfold rg; omega
theorem rg_99 : rg 99 := by unfold rg; omega
theorem rg_100 : rg 100 := by unfold rg; omega
theorem rg_101 : rg 101 := by unfold rg; omega
theorem rg_102 : rg 102 := by unfold rg; omega
theorem rg_103 : rg 103 := by unfold rg; omega
theorem rg_104 : rg 104 := by unfold rg; omega
theorem rg_105 : rg 105 := by unfold rg; omega
theorem rg_106 : rg 106 := by unfold rg; omega
theorem rg_107 : rg 107 := by unfold rg; omega
theorem rg_108 : rg 108 := by unfold rg; omega
theorem rg_109 : rg 109 := by unfold rg; omega
theorem rg_110 : rg 110 := by unfold rg; omega
theorem rg_111 : rg 111 := by unfold rg; omega
theorem rg_112 : rg 112 := by unfold rg; omega
theorem rg_113 : rg 113 := by unfold rg; omega
theorem rg_114 : rg 114 := by unfold rg; omega
theorem rg_115 : rg 115 := by unfold rg; omega
theorem rg_116 : rg 116 := by unfold rg; omega
theorem rg_117 : rg 117 := by unfold rg; omega
theorem rg_118 : rg 118 := by unfold rg; omega
theorem rg_119 : rg 119 := by unfold rg; omega
theorem rg_120 : rg 120 := by unfold rg; omega
theorem rg_121 : rg 121 := by unfold rg; omega
theorem rg_122 : rg 122 := by unfold rg; omega
theorem rg_123 : rg 123 := by unfold rg; omega
theorem rg_124 : rg 124 := by unfold rg; omega
theorem rg_125 : rg 125 := by unfold rg; omega
theorem rg_126 : rg 126 := by unfold rg; omega
theorem rg_127 : rg 127 := by unfold rg; omega
theorem rg_128 : rg 128 := by unfold rg; omega
theorem rg_129 : rg 129 := by unfold rg; omega
theorem rg_130 : rg 130 := by unfold rg; omega
theorem rg_200 : rg 200 := by unfold rg; omega
theorem rg_250 : rg 250 := by unfold rg; omega
theorem rg_255 : rg 255 := by unfold rg; omega
theorem rg_360 : rg 360 := by unfold rg; omega
theorem rg_369 : rg 369 := by unfold rg; omega
theorem rg_370 : rg 370 := by unfold rg; omega
theorem rg_999 : rg 999 := by unfold rg; omega
theorem rg_1000 : rg 1000 := by unfold rg; omega
theorem rg_1110 : rg 1110 := by unfold rg; omega
theorem rg_1480 : rg 1480 := by unfold rg; omega
theorem rg_m1 : rg (-1) := by unfold rg; omega
theorem rg_m2 : rg (-2) := by unfold rg; omega
theorem rg_m3 : rg (-3) := by unfold rg; omega
theorem rg_m4 : rg (-4) := by unfold rg; omega
theorem rg_m5 : rg (-5) := by unfold rg; omega
theorem rg_m6 : rg (-6) := by unfold rg; omega
theorem rg_m7 : rg (-7) := by unfold rg; omega
theorem rg_min {x y : Int} (hx : rg x) (hy : rg y) : rg (min x y) := by unfold rg at *; omega
theorem rg_div {x y : Int} (hx : rg x) (h0 : 0 ≤ x) (hy : 0 < y) : rg (x / y) := by
  have h1 := Int.ediv_nonneg h0 (Int.le_of_lt hy)
  have h2 := Int.ediv_le_self y h0
  unfold rg at *; omega
theorem rg_mod {x y : Int} (hx : rg x) (h0 : 0 ≤ x) (hy : 0 < y) : rg (x % y) := by
  have h1 := Int.emod_nonneg x (Int.ne_of_gt hy)
  have h3 := Int.emod_add_mul_ediv x y
  have h4 := Int.mul_nonneg (Int.le_of_lt hy) (Int.ediv_nonneg h0 (Int.le_of_lt hy))
  have h2 : x % y ≤ x := by omega
  unfold rg at *; omega
def W3 (G : ZG) (a0 a1 a2 a3 : Nat) (ke co ne : Int → Int) (to : Int) : va_W := [(a0, .inr (3, [.ref a1, .ref a2, .ref a3, .int (iI to)])), (a1, eI G 120 ke), (a2, eI G 120 co), (a3, eI G 120 ne)]
def W4 (G : ZG) (a0 a1 a2 a3 : Nat) (nu fi le : Int → Int) (to : Int) : va_W := [(a0, .inr (4, [.ref a1, .ref a2, .ref a3, .int (iI to)])), (a1, eI G 120 nu), (a2, eI G 120 fi), (a3, eI G 120 le)]
def W0 (G : ZG) (a0 a1 : Nat) (cs : Int → Int) (ln : Int) : va_W := [(a0, .inr (0, [.ref a1, .int (iI ln)])), (a1, eI G 80 cs)]
def W2 (_ : ZG) (a0 : Nat) (kd fk hd va le mo : Int) : va_W := [(a0, .inr (2, [.int (iI kd), .int (iI fk), .int (iI hd), .int (iI va), .int (iI le), .int (iI mo)]))]
def W5 (G : ZG) (a : Nat → Nat) (s : SS) : va_W := [(a 0, .inr (5, [.ref (a 1), .ref (a 5), .int (iI (s.1 2)), .int (iI (s.1 3)), .int (iI (s.1 4)), .ref (a 9), .int (iI (s.1 6)), .ref (a 10), .int (iI (s.1 8)), .int (iI (s.1 9)), .int (iI (s.1 10)), .int (iI (s.1 11)), .int (iI (s.1 12)), .int (iI (s.1 13)), .int (iI (s.1 14)), .int (iI (s.1 15))])),
  (a 1, .inr (3, [.ref (a 2), .ref (a 3), .ref (a 4), .int (iI (s.1 16))])), (a 2, eI G 120 (s.2 0)), (a 3, eI G 120 (s.2 1)), (a 4, eI G 120 (s.2 2)),
  (a 5, .inr (4, [.ref (a 6), .ref (a 7), .ref (a 8), .int (iI (s.1 17))])), (a 6, eI G 120 (s.2 3)), (a 7, eI G 120 (s.2 4)), (a 8, eI G 120 (s.2 5)), (a 9, eI G 20 (s.2 9)),
  (a 10, .inr (4, [.ref (a 11), .ref (a 12), .ref (a 13), .int (iI (s.1 18))])), (a 11, eI G 120 (s.2 6)), (a 12, eI G 120 (s.2 7)), (a 13, eI G 120 (s.2 8))]
def W7 (G : ZG) (a : Nat → Nat) (s : SS) : va_W := [(a 0, .inr (7, [.ref (a 1), .ref (a 2), .int (iI (s.1 2)), .ref (a 3), .int (iI (s.1 4)), .ref (a 4), .ref (a 5), .int (iI (s.1 7)), .ref (a 6), .int (iI (s.1 9)), .int (iI (s.1 10)), .int (iI (s.1 11))])),
  (a 1, eI G 370 (s.2 0)), (a 2, eI G 1480 (s.2 1)), (a 3, eI G 370 (s.2 3)), (a 4, eI G 370 (s.2 5)), (a 5, eC G 80 (s.2 6)), (a 6, eI G 123 (s.2 8))]
def ZI (l : Launch) (G : ZG) (y : MethodName) (wsy : List Cond) (fr lo : Nat) (vs : List Value) (wc : va_W) {S : Type} (w1 : S → va_W) (post : Int → S → Prop) : Prop := ∀ sz : Nat, Met l y wsy ({ frames := fr, cells := 0, slots := 0, locals := lo }) (va_Pc vs (fun U => U.heap.size = sz ∧ va_P G.1 vwCl wc U.heap ∧ va_K G.1 vwCl (tz G) U ∧ va_D (fun _ => True) wc)) (va_Qi (fun (r : Int32) (u : S) => ∃ z : Int, r = iI z ∧ post z u) (fun u t => va_P G.1 vwCl (w1 u) t.heap ∧ va_K G.1 vwCl (tz G) t ∧ va_D (va_A wc sz) (w1 u)) (va_A wc sz)) 0 0 (va_A wc sz)
def ZV (l : Launch) (G : ZG) (y : MethodName) (wsy : List Cond) (fr lo : Nat) (vs : List Value) (wc : va_W) {S : Type} (w1 : S → va_W) (post : S → Prop) : Prop := ∀ sz : Nat, Met l y wsy ({ frames := fr, cells := 0, slots := 0, locals := lo }) (va_Pc vs (fun U => U.heap.size = sz ∧ va_P G.1 vwCl wc U.heap ∧ va_K G.1 vwCl (tz G) U ∧ va_D (fun _ => True) wc)) (va_Qv (fun (u : S) => post u) (fun u t => va_P G.1 vwCl (w1 u) t.heap ∧ va_K G.1 vwCl (tz G) t ∧ va_D (va_A wc sz) (w1 u)) (va_A wc sz)) 0 0 (va_A wc sz)
abbrev ZQi (G : ZG) (below : List Frame) (args : Array Value) (s : State) (A : Nat → Prop) {S : Type} (w1 : S → va_W) (post : Int → S → Prop) : State → Prop := MQ below (va_Qi (fun (r : Int32) (u : S) => ∃ z : Int, r = iI z ∧ post z u) (fun u t => va_P G.1 vwCl (w1 u) t.heap ∧ va_K G.1 vwCl (tz G) t ∧ va_D A (w1 u)) A) args s 0 0 A
abbrev ZQv (G : ZG) (below : List Frame) (args : Array Value) (s : State) (A : Nat → Prop) {S : Type} (w1 : S → va_W) (post : S → Prop) : State → Prop := MQ below (va_Qv (fun (u : S) => post u) (fun u t => va_P G.1 vwCl (w1 u) t.heap ∧ va_K G.1 vwCl (tz G) t ∧ va_D A (w1 u)) A) args s 0 0 A
theorem ZI.weak {l : Launch} {G : ZG} {y : MethodName} {wsy : List Cond} {fr lo : Nat} {vs : List Value} {wc : va_W} {S : Type} {w1 : S → va_W} {post post' : Int → S → Prop} (h : ∀ z u, post z u → post' z u) (hM : ZI l G y wsy fr lo vs wc w1 post) : ZI l G y wsy fr lo vs wc w1 post' := by
  intro sz p e ha hc hk s m args below hf happ hpre hx
  obtain ⟨k, o, h1, h2, h3, ⟨⟨⟨r, u, q1, ⟨z, q2, q3⟩, q4⟩, q5⟩, q6⟩⟩ := hM sz p e ha hc hk s m args below hf happ hpre hx
  exact ⟨k, o, h1, h2, h3, ⟨⟨⟨r, u, q1, ⟨z, q2, h z u q3⟩, q4⟩, q5⟩, q6⟩⟩
theorem ZV.weak {l : Launch} {G : ZG} {y : MethodName} {wsy : List Cond} {fr lo : Nat} {vs : List Value} {wc : va_W} {S : Type} {w1 : S → va_W} {post post' : S → Prop} (h : ∀ u, post u → post' u) (hM : ZV l G y wsy fr lo vs wc w1 post) : ZV l G y wsy fr lo vs wc w1 post' := by
  intro sz p e ha hc hk s m args below hf happ hpre hx
  obtain ⟨k, o, h1, h2, h3, ⟨⟨⟨u, q1, q3, q4⟩, q5⟩, q6⟩⟩ := hM sz p e ha hc hk s m args below hf happ hpre hx
  exact ⟨k, o, h1, h2, h3, ⟨⟨⟨u, q1, h u q3, q4⟩, q5⟩, q6⟩⟩
theorem zp_perm {D : va_G} {cl : List vw_C} {w w' : va_W} {H : Heap} (is : List Nat) (hs : is.map (fun i => w[i]?) = w'.map some) (h : va_P D cl w H) : va_P D cl w' H := by
  intro k q hk
  have h1 : (is.map (fun i => w[i]?))[k]? = some (some q) := by rw [hs, List.getElem?_map, hk]; rfl
  rw [List.getElem?_map] at h1
  cases hi : is[k]? with
  | none => rw [hi] at h1; cases h1
  | some i => rw [hi] at h1; exact h i q (Option.some.inj h1)
theorem ZI.fn {l : Launch} {G : ZG} {y : MethodName} {wsy : List Cond} {fr lo : Nat} {vs : List Value} {wc w1' : va_W} {S : Type} {w1 : S → va_W} {post : Int → S → Prop} {post' : Int → Unit → Prop} (h : ∀ z u, post z u → w1 u = w1' ∧ post' z ()) (hM : ZI l G y wsy fr lo vs wc w1 post) : ZI l G y wsy fr lo vs wc (fun _ : Unit => w1') post' := by
  intro sz p e ha hc hk s m args below hf happ hpre hx
  obtain ⟨k, o, h1, h2, h3, ⟨⟨⟨r, u, q1, ⟨z, q2, q3⟩, q4⟩, q5⟩, q6⟩⟩ := hM sz p e ha hc hk s m args below hf happ hpre hx
  obtain ⟨e1, e2⟩ := h z u q3
  exact ⟨k, o, h1, h2, h3, ⟨⟨⟨r, (), q1, ⟨z, q2, e2⟩, by rw [← e1]; exact q4⟩, q5⟩, q6⟩⟩
theorem ZV.fn {l : Launch} {G : ZG} {y : MethodName} {wsy : List Cond} {fr lo : Nat} {vs : List Value} {wc w1' : va_W} {S : Type} {w1 : S → va_W} {post : S → Prop} {post' : Unit → Prop} (h : ∀ u, post u → w1 u = w1' ∧ post' ()) (hM : ZV l G y wsy fr lo vs wc w1 post) : ZV l G y wsy fr lo vs wc (fun _ : Unit => w1') post' := by
  intro sz p e ha hc hk s m args below hf happ hpre hx
  obtain ⟨k, o, h1, h2, h3, ⟨⟨⟨u, q1, q3, q4⟩, q5⟩, q6⟩⟩ := hM sz p e ha hc hk s m args below hf happ hpre hx
  obtain ⟨e1, e2⟩ := h u q3
  exact ⟨k, o, h1, h2, h3, ⟨⟨⟨(), q1, e2, by rw [← e1]; exact q4⟩, q5⟩, q6⟩⟩
section ZM
variable {l : Launch} {G : ZG} {y : MethodName} {wsy ws' : List Cond} {fr lo maxL : Nat} {vs : List Value} {wc : va_W} {S : Type} {w1 : S → va_W} {cc : ByteArray} {ret : Option FieldType} {own : String} {lvs : List (Nat × Value)}
/-- a method's body, from its entry -/
theorem zm_i {post : Int → S → Prop} (hy : plainName y.cls = true) (hw : wsy = Cond.code y cc maxL ret :: ws') (hcl : y.cls = own) (hlen : (lg_sl vs).length ≤ maxL) (hlv : lv_args 0 vs = lvs)
    (body : ∀ (p : Program) (e : Env) (s : State) (m : MethodId) (args : Array Value) (below : List Frame) (meth : Method) (c : Code) (ls : Array Slot) (A : Nat → Prop), p.tables.exec = Jvm.exec → c.code = cc → meth.sig.returnType = ret → c.maxLocals = maxL → s.vm.findClass own = some m.cls → (∀ w ∈ wsy, w.before args s = true) → meth.locks = false → va_K G.1 vwCl (tz G) s → va_P G.1 vwCl wc s.heap → va_D A wc → va_S A s.heap s.heap [] → (∀ q : Nat, s.heap.size ≤ q → A q) → lv_has ls maxL lvs →
      W p l e (headSpec wsy ({ frames := fr, cells := 0, slots := 0, locals := lo })).room s m args below meth c s.heap [] 0 0 (ZQi G below args s A w1 post) (F0 m 0 ls [])) : ZI l G y wsy fr lo vs wc w1 post := by
  intro sz
  refine Met.ofW (cc := cc) (maxL := maxL) (ret := ret) hy hw ?_
  intro p e s m args below meth c s₁ B hml hv
  obtain ⟨rfl, hsz, hP, hK, hD0⟩ := hv
  subst hsz
  rw [lg_entry_eq]
  have hl := lv_entry vs (n := maxL) hlen
  rw [hlv] at hl
  have hown : s.vm.findClass own = some m.cls := by rw [← hcl]; exact findClass_of_methodNamed B.named
  exact body p e s m _ below meth c _ _ B.exec B.bytes B.returns hml hown (atoms_spec (ws := wsy) B.pre) B.notSynchronized hK hP (hD0.self (sz := s.heap.size)) va_S.rf (fun q h => Or.inr h) hl
theorem zm_v {post : S → Prop} (hy : plainName y.cls = true) (hw : wsy = Cond.code y cc maxL ret :: ws') (hcl : y.cls = own) (hlen : (lg_sl vs).length ≤ maxL) (hlv : lv_args 0 vs = lvs)
    (body : ∀ (p : Program) (e : Env) (s : State) (m : MethodId) (args : Array Value) (below : List Frame) (meth : Method) (c : Code) (ls : Array Slot) (A : Nat → Prop), p.tables.exec = Jvm.exec → c.code = cc → meth.sig.returnType = ret → c.maxLocals = maxL → s.vm.findClass own = some m.cls → (∀ w ∈ wsy, w.before args s = true) → meth.locks = false → va_K G.1 vwCl (tz G) s → va_P G.1 vwCl wc s.heap → va_D A wc → va_S A s.heap s.heap [] → (∀ q : Nat, s.heap.size ≤ q → A q) → lv_has ls maxL lvs →
      W p l e (headSpec wsy ({ frames := fr, cells := 0, slots := 0, locals := lo })).room s m args below meth c s.heap [] 0 0 (ZQv G below args s A w1 post) (F0 m 0 ls [])) : ZV l G y wsy fr lo vs wc w1 post := by
  intro sz
  refine Met.ofW (cc := cc) (maxL := maxL) (ret := ret) hy hw ?_
  intro p e s m args below meth c s₁ B hml hv
  obtain ⟨rfl, hsz, hP, hK, hD0⟩ := hv
  subst hsz
  rw [lg_entry_eq]
  have hl := lv_entry vs (n := maxL) hlen
  rw [hlv] at hl
  have hown : s.vm.findClass own = some m.cls := by rw [← hcl]; exact findClass_of_methodNamed B.named
  exact body p e s m _ below meth c _ _ B.exec B.bytes B.returns hml hown (atoms_spec (ws := wsy) B.pre) B.notSynchronized hK hP (hD0.self (sz := s.heap.size)) va_S.rf (fun q h => Or.inr h) hl
end ZM
section ZR
variable {p : Program} {l : Launch} {e : Env} {R : Room} {s : State} {m : MethodId} {args : Array Value} {below : List Frame} {meth : Method} {c : Code} {H : Heap} {locs : List Loc} {cells slots : Nat} {Q : State → Prop}
variable {cc : ByteArray} {pc : Nat} {ls : Array Slot} {rest : List Value} {A : Nat → Prop} {a : Nat} {ws : va_W} {H0 : Heap} {G : ZG}
theorem zr_iadd (hx : p.tables.exec = Jvm.exec) (hb : c.code = cc) {x y : Int} (hdg : decode cc pc = .ok (.iadd, 1)) (k : W p l e R s m args below meth c H locs cells slots Q (F0 m (pc + 1) ls (.int (iI (x + y)) :: rest))) : W p l e R s m args below meth c H locs cells slots Q (F0 m pc ls (.int (iI y) :: .int (iI x) :: rest)) := lv_iadd hx hb hdg (by rw [iI_add]; exact k)
theorem zr_isub (hx : p.tables.exec = Jvm.exec) (hb : c.code = cc) {x y : Int} (hdg : decode cc pc = .ok (.isub, 1)) (k : W p l e R s m args below meth c H locs cells slots Q (F0 m (pc + 1) ls (.int (iI (x - y)) :: rest))) : W p l e R s m args below meth c H locs cells slots Q (F0 m pc ls (.int (iI y) :: .int (iI x) :: rest)) := lv_isub hx hb hdg (by rw [iI_sub]; exact k)
theorem zr_imul (hx : p.tables.exec = Jvm.exec) (hb : c.code = cc) {x y : Int} (hdg : decode cc pc = .ok (.imul, 1)) (k : W p l e R s m args below meth c H locs cells slots Q (F0 m (pc + 1) ls (.int (iI (x * y)) :: rest))) : W p l e R s m args below meth c H locs cells slots Q (F0 m pc ls (.int (iI y) :: .int (iI x) :: rest)) := lv_imul hx hb hdg (by rw [iI_mul]; exact k)
theorem zr_iinc (hx : p.tables.exec = Jvm.exec) (hb : c.code = cc) {i nL k : Nat} {n x : Int} {lv lv' : List (Nat × Value)} (hdg : decode cc pc = .ok (.iinc i n, 3)) (h : lv_has ls nL lv) (hk : lv[k]? = some (i, .int (iI x))) (hn : i < nL) (hl : (i, Value.int (iI (x + n))) :: lv.filter (fun q => !(q.1 == i) && !(q.1 + 1 == i && q.2.category == 2)) = lv')
    (kk : ∀ ls' : Array Slot, lv_has ls' nL lv' → W p l e R s m args below meth c H locs cells slots Q (F0 m (pc + 3) ls' rest)) : W p l e R s m args below meth c H locs cells slots Q (F0 m pc ls rest) := lv_iinc (v := iI (x + n)) hx hb hdg h hk (by show iI x + iI n = _; rw [iI_add]) hn hl kk
theorem zr_if_eq (hx : p.tables.exec = Jvm.exec) (hb : c.code = cc) {x : Int} {off : Int} {tgt : Nat} (rx : rg x) (hdg : decode cc pc = .ok (.ifCond .eq off, 3)) (ht : (pc : Int) + off = (tgt : Int)) (kt : x = 0 → W p l e R s m args below meth c H locs cells slots Q (F0 m tgt ls rest)) (kf : ¬ x = 0 → W p l e R s m args below meth c H locs cells slots Q (F0 m (pc + 3) ls rest)) : W p l e R s m args below meth c H locs cells slots Q (F0 m pc ls (.int (iI x) :: rest)) := lv_if_eq hx hb hdg ht (fun q => kt ((iI_eq rx rg_0).mp (q.trans iI_0))) (fun q => kf (fun z => q (((iI_eq rx rg_0).mpr z).trans iI_0.symm)))
theorem zr_if_ne (hx : p.tables.exec = Jvm.exec) (hb : c.code = cc) {x : Int} {off : Int} {tgt : Nat} (rx : rg x) (hdg : decode cc pc = .ok (.ifCond .ne off, 3)) (ht : (pc : Int) + off = (tgt : Int)) (kt : ¬ x = 0 → W p l e R s m args below meth c H locs cells slots Q (F0 m tgt ls rest)) (kf : x = 0 → W p l e R s m args below meth c H locs cells slots Q (F0 m (pc + 3) ls rest)) : W p l e R s m args below meth c H locs cells slots Q (F0 m pc ls (.int (iI x) :: rest)) := lv_if_ne hx hb hdg ht (fun q => kt (fun z => q (((iI_eq rx rg_0).mpr z).trans iI_0.symm))) (fun q => kf ((iI_eq rx rg_0).mp (q.trans iI_0)))
theorem zr_if_lt (hx : p.tables.exec = Jvm.exec) (hb : c.code = cc) {x : Int} {off : Int} {tgt : Nat} (rx : rg x) (hdg : decode cc pc = .ok (.ifCond .lt off, 3)) (ht : (pc : Int) + off = (tgt : Int)) (kt : x < 0 → W p l e R s m args below meth c H locs cells slots Q (F0 m tgt ls rest)) (kf : ¬ x < 0 → W p l e R s m args below meth c H locs cells slots Q (F0 m (pc + 3) ls rest)) : W p l e R s m args below meth c H locs cells slots Q (F0 m pc ls (.int (iI x) :: rest)) := lv_if_lt hx hb hdg ht (fun q => kt ((iI_lt rx rg_0).mp (by rw [← iI_0]; exact q))) (fun q => kf (fun z => q (by rw [iI_0]; exact (iI_lt rx rg_0).mpr z)))
theorem zr_if_ge (hx : p.tables.exec = Jvm.exec) (hb : c.code = cc) {x : Int} {off : Int} {tgt : Nat} (rx : rg x) (hdg : decode cc pc = .ok (.ifCond .ge off, 3)) (ht : (pc : Int) + off = (tgt : Int)) (kt : ¬ x < 0 → W p l e R s m args below meth c H locs cells slots Q (F0 m tgt ls rest)) (kf : x < 0 → W p l e R s m args below meth c H locs cells slots Q (F0 m (pc + 3) ls rest)) : W p l e R s m args below meth c H locs cells slots Q (F0 m pc ls (.int (iI x) :: rest)) := lv_if_ge hx hb hdg ht (fun q => kt (by have h := (iI_le rg_0 rx).mp (by rw [← iI_0]; exact q); omega)) (fun q => kf (by by_cases z : x < 0; exact z; exact absurd (by rw [iI_0]; exact (iI_le rg_0 rx).mpr (by omega)) q))
theorem zr_if_gt (hx : p.tables.exec = Jvm.exec) (hb : c.code = cc) {x : Int} {off : Int} {tgt : Nat} (rx : rg x) (hdg : decode cc pc = .ok (.ifCond .gt off, 3)) (ht : (pc : Int) + off = (tgt : Int)) (kt : 0 < x → W p l e R s m args below meth c H locs cells slots Q (F0 m tgt ls rest)) (kf : ¬ 0 < x → W p l e R s m args below meth c H locs cells slots Q (F0 m (pc + 3) ls rest)) : W p l e R s m args below meth c H locs cells slots Q (F0 m pc ls (.int (iI x) :: rest)) := lv_if_gt hx hb hdg ht (fun q => kt ((iI_lt rg_0 rx).mp (by rw [← iI_0]; exact q))) (fun q => kf (fun z => q (by rw [iI_0]; exact (iI_lt rg_0 rx).mpr z)))
theorem zr_if_le (hx : p.tables.exec = Jvm.exec) (hb : c.code = cc) {x : Int} {off : Int} {tgt : Nat} (rx : rg x) (hdg : decode cc pc = .ok (.ifCond .le off, 3)) (ht : (pc : Int) + off = (tgt : Int)) (kt : ¬ 0 < x → W p l e R s m args below meth c H locs cells slots Q (F0 m tgt ls rest)) (kf : 0 < x → W p l e R s m args below meth c H locs cells slots Q (F0 m (pc + 3) ls rest)) : W p l e R s m args below meth c H locs cells slots Q (F0 m pc ls (.int (iI x) :: rest)) := lv_if_le hx hb hdg ht (fun q => kt (by have h := (iI_le rx rg_0).mp (by rw [← iI_0]; exact q); omega)) (fun q => kf (by by_cases z : 0 < x; exact z; exact absurd (by rw [iI_0]; exact (iI_le rx rg_0).mpr (by omega)) q))
theorem zr_icmp_eq (hx : p.tables.exec = Jvm.exec) (hb : c.code = cc) {x y : Int} {off : Int} {tgt : Nat} (rx : rg x) (ry : rg y) (hdg : decode cc pc = .ok (.if_icmp .eq off, 3)) (ht : (pc : Int) + off = (tgt : Int)) (kt : x = y → W p l e R s m args below meth c H locs cells slots Q (F0 m tgt ls rest)) (kf : ¬ x = y → W p l e R s m args below meth c H locs cells slots Q (F0 m (pc + 3) ls rest)) : W p l e R s m args below meth c H locs cells slots Q (F0 m pc ls (.int (iI y) :: .int (iI x) :: rest)) := lv_icmp_eq hx hb hdg ht (fun q => kt ((iI_eq rx ry).mp q)) (fun q => kf (fun z => q ((iI_eq rx ry).mpr z)))
theorem zr_icmp_ne (hx : p.tables.exec = Jvm.exec) (hb : c.code = cc) {x y : Int} {off : Int} {tgt : Nat} (rx : rg x) (ry : rg y) (hdg : decode cc pc = .ok (.if_icmp .ne off, 3)) (ht : (pc : Int) + off = (tgt : Int)) (kt : ¬ x = y → W p l e R s m args below meth c H locs cells slots Q (F0 m tgt ls rest)) (kf : x = y → W p l e R s m args below meth c H locs cells slots Q (F0 m (pc + 3) ls rest)) : W p l e R s m args below meth c H locs cells slots Q (F0 m pc ls (.int (iI y) :: .int (iI x) :: rest)) := lv_icmp_ne hx hb hdg ht (fun q => kt (fun z => q ((iI_eq rx ry).mpr z))) (fun q => kf ((iI_eq rx ry).mp q))
theorem zr_icmp_lt (hx : p.tables.exec = Jvm.exec) (hb : c.code = cc) {x y : Int} {off : Int} {tgt : Nat} (rx : rg x) (ry : rg y) (hdg : decode cc pc = .ok (.if_icmp .lt off, 3)) (ht : (pc : Int) + off = (tgt : Int)) (kt : x < y → W p l e R s m args below meth c H locs cells slots Q (F0 m tgt ls rest)) (kf : ¬ x < y → W p l e R s m args below meth c H locs cells slots Q (F0 m (pc + 3) ls rest)) : W p l e R s m args below meth c H locs cells slots Q (F0 m pc ls (.int (iI y) :: .int (iI x) :: rest)) := lv_icmp_lt hx hb hdg ht (fun q => kt ((iI_lt rx ry).mp q)) (fun q => kf (fun z => q ((iI_lt rx ry).mpr z)))
theorem zr_icmp_ge (hx : p.tables.exec = Jvm.exec) (hb : c.code = cc) {x y : Int} {off : Int} {tgt : Nat} (rx : rg x) (ry : rg y) (hdg : decode cc pc = .ok (.if_icmp .ge off, 3)) (ht : (pc : Int) + off = (tgt : Int)) (kt : ¬ x < y → W p l e R s m args below meth c H locs cells slots Q (F0 m tgt ls rest)) (kf : x < y → W p l e R s m args below meth c H locs cells slots Q (F0 m (pc + 3) ls rest)) : W p l e R s m args below meth c H locs cells slots Q (F0 m pc ls (.int (iI y) :: .int (iI x) :: rest)) := lv_icmp_ge hx hb hdg ht (fun q => kt (by have h := (iI_le ry rx).mp q; omega)) (fun q => kf (by by_cases z : x < y; exact z; exact absurd ((iI_le ry rx).mpr (by omega)) q))
theorem zr_icmp_gt (hx : p.tables.exec = Jvm.exec) (hb : c.code = cc) {x y : Int} {off : Int} {tgt : Nat} (rx : rg x) (ry : rg y) (hdg : decode cc pc = .ok (.if_icmp .gt off, 3)) (ht : (pc : Int) + off = (tgt : Int)) (kt : y < x → W p l e R s m args below meth c H locs cells slots Q (F0 m tgt ls rest)) (kf : ¬ y < x → W p l e R s m args below meth c H locs cells slots Q (F0 m (pc + 3) ls rest)) : W p l e R s m args below meth c H locs cells slots Q (F0 m pc ls (.int (iI y) :: .int (iI x) :: rest)) := lv_icmp_gt hx hb hdg ht (fun q => kt ((iI_lt ry rx).mp q)) (fun q => kf (fun z => q ((iI_lt ry rx).mpr z)))
theorem zr_icmp_le (hx : p.tables.exec = Jvm.exec) (hb : c.code = cc) {x y : Int} {off : Int} {tgt : Nat} (rx : rg x) (ry : rg y) (hdg : decode cc pc = .ok (.if_icmp .le off, 3)) (ht : (pc : Int) + off = (tgt : Int)) (kt : ¬ y < x → W p l e R s m args below meth c H locs cells slots Q (F0 m tgt ls rest)) (kf : y < x → W p l e R s m args below meth c H locs cells slots Q (F0 m (pc + 3) ls rest)) : W p l e R s m args below meth c H locs cells slots Q (F0 m pc ls (.int (iI y) :: .int (iI x) :: rest)) := lv_icmp_le hx hb hdg ht (fun q => kt (by have h := (iI_le rx ry).mp q; omega)) (fun q => kf (by by_cases z : y < x; exact z; exact absurd ((iI_le rx ry).mpr (by omega)) q))
theorem zr_iald (hx : p.tables.exec = Jvm.exec) (hb : c.code = cc) (hK : va_K G.1 vwCl (tz G) s) (hP : va_P G.1 vwCl ws H) (q0 : Nat) {n : Nat} {f : Int → Int} (ha : ws[q0]? = some (a, eI G n f)) {i : Int} (hr : rg i) (h0 : 0 ≤ i ∧ i < (n : Int)) (hdg : decode cc pc = .ok (.iaload, 1))
    (kk : W p l e R s m args below meth c H locs cells slots Q (F0 m (pc + 1) ls (.int (iI (f i)) :: rest))) : W p l e R s m args below meth c H locs cells slots Q (F0 m pc ls (.int (iI i) :: .ref a :: rest)) := va_iald hx hb hK hP q0 0 ha rfl (iI_in hr h0.1 h0.2) hdg (by rw [iA_at hr h0.1]; exact kk)
theorem zr_iast (hx : p.tables.exec = Jvm.exec) (hb : c.code = cc) (hK : va_K G.1 vwCl (tz G) s) (hP : va_P G.1 vwCl ws H) (hD : va_D A ws) (hS : va_S A H0 H locs) (q0 : Nat) {n : Nat} {f : Int → Int} (ha : ws[q0]? = some (a, eI G n f)) {i x : Int} (hr : rg i) (h0 : 0 ≤ i ∧ i < (n : Int)) (hdg : decode cc pc = .ok (.iastore, 1))
    (kk : ∀ (H1 : Heap) (locs1 : List Loc), va_P G.1 vwCl (ws.set q0 (a, eI G n (uZ f i x))) H1 → va_D A (ws.set q0 (a, eI G n (uZ f i x))) → va_S A H0 H1 locs1 → W p l e R s m args below meth c H1 locs1 cells slots Q (F0 m (pc + 1) ls rest)) : W p l e R s m args below meth c H locs cells slots Q (F0 m pc ls (.int (iI x) :: .int (iI i) :: .ref a :: rest)) := va_iast hx hb hK hP hD hS q0 0 ha rfl (iI_in hr h0.1 h0.2) hdg (by rw [iA_upd hr h0.1]; exact kk)
theorem zr_ifB_eq (hx : p.tables.exec = Jvm.exec) (hb : c.code = cc) {C : Prop} [Decidable C] {off : Int} {tgt : Nat} (hdg : decode cc pc = .ok (.ifCond .eq off, 3)) (ht : (pc : Int) + off = (tgt : Int)) (kt : ¬ C → W p l e R s m args below meth c H locs cells slots Q (F0 m tgt ls rest)) (kf : C → W p l e R s m args below meth c H locs cells slots Q (F0 m (pc + 3) ls rest)) : W p l e R s m args below meth c H locs cells slots Q (F0 m pc ls (.int (iI (pz C)) :: rest)) := zr_if_eq hx hb (rg_pz C) hdg ht (fun q => kt (fun z => by rw [pz_t z] at q; exact absurd q (by decide))) (fun q => kf (by by_cases z : C; exact z; exact absurd (pz_f z) q))
theorem zr_ifB_ne (hx : p.tables.exec = Jvm.exec) (hb : c.code = cc) {C : Prop} [Decidable C] {off : Int} {tgt : Nat} (hdg : decode cc pc = .ok (.ifCond .ne off, 3)) (ht : (pc : Int) + off = (tgt : Int)) (kt : C → W p l e R s m args below meth c H locs cells slots Q (F0 m tgt ls rest)) (kf : ¬ C → W p l e R s m args below meth c H locs cells slots Q (F0 m (pc + 3) ls rest)) : W p l e R s m args below meth c H locs cells slots Q (F0 m pc ls (.int (iI (pz C)) :: rest)) := zr_if_ne hx hb (rg_pz C) hdg ht (fun q => kt (by by_cases z : C; exact z; exact absurd (pz_f z) q)) (fun q => kf (fun z => by rw [pz_t z] at q; exact absurd q (by decide)))
theorem zr_i2c (hx : p.tables.exec = Jvm.exec) (hb : c.code = cc) {x : Int} (h : 0 ≤ x ∧ x < 65536) (hdg : decode cc pc = .ok (.i2c, 1)) (k : W p l e R s m args below meth c H locs cells slots Q (F0 m (pc + 1) ls (.int (iI x) :: rest))) : W p l e R s m args below meth c H locs cells slots Q (F0 m pc ls (.int (iI x) :: rest)) := lv_i2c hx hb hdg (by
  obtain ⟨q, hq⟩ : ∃ q : Nat, x = (q : Int) := ⟨x.toNat, by omega⟩
  subst hq
  show ((nI q).toUInt32 % 65536).toInt32 = nI q
  rw [pk_char, pk_tn (by omega), Nat.mod_eq_of_lt (by omega)]) k
theorem zr_tsIn (hx : p.tables.exec = Jvm.exec) (hb : c.code = cc) {dflt lo hi : Int} {offs : Array Int} {len : Nat} {x : Int} {off : Int} {tgt : Nat} (rx : rg x) (k : Nat) {v : Int} (hv : x = v) (hdg : decode cc pc = .ok (.tableswitch dflt lo hi offs, len)) (ho : (v = lo + k ∧ lo + k ≤ hi) ∧ offs[k]? = some off) (ht : (pc : Int) + off = (tgt : Int)) (kk : W p l e R s m args below meth c H locs cells slots Q (F0 m tgt ls rest)) : W p l e R s m args below meth c H locs cells slots Q (F0 m pc ls (.int (iI x) :: rest)) := lv_tableIn hx hb hdg (by rw [iI_toInt rx]; omega) (by rw [iI_toInt rx]; omega) (by rw [iI_toInt rx, show (x - lo).toNat = k by omega]; exact ho.2) ht kk
theorem zr_tsOut (hx : p.tables.exec = Jvm.exec) (hb : c.code = cc) {dflt lo hi : Int} {offs : Array Int} {len : Nat} {x : Int} {tgt : Nat} (rx : rg x) (h : x < lo ∨ hi < x) (hdg : decode cc pc = .ok (.tableswitch dflt lo hi offs, len)) (ht : (pc : Int) + dflt = (tgt : Int)) (kk : W p l e R s m args below meth c H locs cells slots Q (F0 m tgt ls rest)) : W p l e R s m args below meth c H locs cells slots Q (F0 m pc ls (.int (iI x) :: rest)) := lv_tableOut hx hb hdg (by rw [iI_toInt rx]; exact h) ht kk
theorem zr_mmin {x y : Int} (rx : rg x) (ry : rg y) (hx : p.tables.exec = Jvm.exec) (hb : c.code = cc) (hml : c.maxLocals = ls.size) {own : String} {index : Nat} (hown : s.vm.findClass own = some m.cls) (hlink : (Cond.methodLink own index Lib.Math.min.name).before args s = true) (hstat : (Cond.static Lib.Math.min.name).before args s = true) (hini : (Cond.initialized "java/lang/Math").before args s = true) (hcode : (Cond.code Lib.Math.min.name Lib.Math.min.code 2 (some .int)).before args s = true) (hframes : 1 ≤ R.frames) (hlocals : (rest.map fun v => v.category).sum + 13 ≤ R.locals) (hc : cells ≤ R.cells) (hs : slots ≤ R.slots) (hdg : decode cc pc = .ok (.invokestatic index, 3))
    (kk : W p l e R s m args below meth c H locs cells slots Q (F0 m (pc + 3) ls (.int (iI (min x y)) :: rest))) : W p l e R s m args below meth c H locs cells slots Q (F0 m pc ls (.int (iI y) :: .int (iI x) :: rest)) := va_mmin hx hb hml hown hlink hstat hini hcode hframes hlocals hc hs hdg (by
  have h9 : (if iI y < iI x then iI y else iI x) = iI (min x y) := by
    by_cases q : y < x
    · rw [if_pos ((iI_lt ry rx).mpr q), show min x y = y by omega]
    · rw [if_neg (fun z => q ((iI_lt ry rx).mp z)), show min x y = x by omega]
  rw [h9]; exact kk)
theorem zr_copy (hx : p.tables.exec = Jvm.exec) (hb : c.code = cc) (hml : c.maxLocals = ls.size) {own : String} {index : Nat} (hown : s.vm.findClass own = some m.cls) (hlink : (Cond.methodLink own index arraycopyName).before args s = true) (hnat : (Cond.native arraycopyName).before args s = true) (hstat : (Cond.static arraycopyName).before args s = true) (hini : (Cond.initialized "java/lang/System").before args s = true)
    (hK : va_K G.1 vwCl (tz G) s) (hP : va_P G.1 vwCl ws H) (hD : va_D A ws) (hS : va_S A H0 H locs) (q0 q1 : Nat) {a0 : Nat} {n0 n1 : Nat} {f g : Int → Int} (ha0 : ws[q0]? = some (a0, eI G n0 f)) (ha1 : ws[q1]? = some (a, eI G n1 g)) {sp dp n : Int} (r1 : rg sp) (r2 : rg dp) (r3 : rg n) (h : 0 ≤ sp ∧ 0 ≤ dp ∧ 0 ≤ n ∧ sp + n ≤ (n0 : Int) ∧ dp + n ≤ (n1 : Int)) (hframes : 1 ≤ R.frames) (hlocals : (rest.map fun v => v.category).sum + (nativeFrameWords "java/lang/System" "arraycopy" 5 + 11) ≤ R.locals) (hdg : decode cc pc = .ok (.invokestatic index, 3))
    (kk : ∀ (H1 : Heap) (locs1 : List Loc), va_P G.1 vwCl (ws.set q1 (a, eI G n1 (cI f g sp dp n))) H1 → va_D A (ws.set q1 (a, eI G n1 (cI f g sp dp n))) → va_S A H0 H1 locs1 → W p l e R s m args below meth c H1 locs1 cells slots Q (F0 m (pc + 3) ls rest)) : W p l e R s m args below meth c H locs cells slots Q (F0 m pc ls (.int (iI n) :: .int (iI dp) :: .ref a :: .int (iI sp) :: .ref a0 :: rest)) := by
  obtain ⟨h1, h2, h3, h4, h5⟩ := h
  refine va_copyi hx hb hml hown hlink hnat hstat hini hK hP hD hS q0 q1 0 0 ha0 ha1 rfl rfl rfl (fun z => ?_) (fun z => ?_) (fun z => ?_) ?_ ?_ (fun i _ => rfl) hframes hlocals hdg ?_
  · have := (iI_lt r1 rg_0).mp (by rw [← iI_0]; exact z); omega
  · have := (iI_lt r2 rg_0).mp (by rw [← iI_0]; exact z); omega
  · have := (iI_lt r3 rg_0).mp (by rw [← iI_0]; exact z); omega
  · rw [iI_clamp r1 h1, iI_clamp r3 h3]; omega
  · rw [iI_clamp r2 h2, iI_clamp r3 h3]; omega
  · have e : va_cpy (iA f) (iA g) (iI sp).toNatClampNeg (iI dp).toNatClampNeg (iI n).toNatClampNeg = iA (cI f g sp dp n) := by
      rw [iI_clamp r1 h1, iI_clamp r2 h2, iI_clamp r3 h3]
      funext j
      unfold va_cpy iA cI
      by_cases q : dp ≤ (j : Int) ∧ (j : Int) < dp + n
      · rw [if_pos q, if_pos (by omega)]
        congr 2
        omega
      · rw [if_neg q, if_neg (by omega)]
    rw [e]
    exact kk
theorem zr_arrV {cA : ClassId} {n : Nat} {f g : Nat → Value} (h : ∀ j, j < n → f j = g j) : arrV cA n f = arrV cA n g := by
  unfold arrV
  congr 2
  funext j
  exact h j.val j.isLt
theorem zr_copyAll (hx : p.tables.exec = Jvm.exec) (hb : c.code = cc) (hml : c.maxLocals = ls.size) {own : String} {index : Nat} (hown : s.vm.findClass own = some m.cls) (hlink : (Cond.methodLink own index arraycopyName).before args s = true) (hnat : (Cond.native arraycopyName).before args s = true) (hstat : (Cond.static arraycopyName).before args s = true) (hini : (Cond.initialized "java/lang/System").before args s = true)
    (hK : va_K G.1 vwCl (tz G) s) (hP : va_P G.1 vwCl ws H) (hD : va_D A ws) (hS : va_S A H0 H locs) (q0 q1 : Nat) {a0 : Nat} {n0 : Nat} {f g : Int → Int} (ha0 : ws[q0]? = some (a0, eI G n0 f)) (ha1 : ws[q1]? = some (a, eI G n0 g)) {nz : Int} (r3 : rg nz) (hnz : 0 ≤ nz) (hn : nz = (n0 : Int)) (hframes : 1 ≤ R.frames) (hlocals : (rest.map fun v => v.category).sum + (nativeFrameWords "java/lang/System" "arraycopy" 5 + 11) ≤ R.locals) (hdg : decode cc pc = .ok (.invokestatic index, 3))
    (kk : ∀ (H1 : Heap) (locs1 : List Loc), va_P G.1 vwCl (ws.set q1 (a, eI G n0 f)) H1 → va_D A (ws.set q1 (a, eI G n0 f)) → va_S A H0 H1 locs1 → W p l e R s m args below meth c H1 locs1 cells slots Q (F0 m (pc + 3) ls rest)) : W p l e R s m args below meth c H locs cells slots Q (F0 m pc ls (.int (iI nz) :: .int (iI 0) :: .ref a :: .int (iI 0) :: .ref a0 :: rest)) := by
  refine zr_copy hx hb hml hown hlink hnat hstat hini hK hP hD hS q0 q1 ha0 ha1 rg_0 rg_0 r3 ⟨by omega, by omega, hnz, by omega, by omega⟩ hframes hlocals hdg (fun H1 locs1 hP1 hD1 hS1 => kk H1 locs1 ?_ (hD.set ha1) hS1)
  have hl := (List.getElem?_eq_some_iff.mp ha1).1
  intro k q hk
  by_cases hkp : k = q1
  · subst hkp
    rw [List.getElem?_set_self hl] at hk
    cases hk
    have h1 := hP1 k (a, eI G n0 (cI f g 0 0 nz)) (List.getElem?_set_self hl)
    show H1[a]? = some (vp_cell _ _)
    rw [show H1[a]? = some (vp_cell G.2.1 (n0, .inl (iA (cI f g 0 0 nz)))) from h1, vp_cell_i, vp_cell_i]
    congr 1
    refine zr_arrV (fun j hj => ?_)
    show Value.int (iI _) = Value.int (iI _)
    unfold cI
    rw [if_pos (by omega)]
    congr 2
    congr 1
    omega
  · rw [List.getElem?_set_ne (Ne.symm hkp)] at hk
    exact hP1 k q (by rw [List.getElem?_set_ne (Ne.symm hkp)]; exact hk)
theorem zr_quot {x y : Int} (rx : rg x) (ry : rg y) (hx : 0 ≤ x) (hy : 0 < y) : iI x / iI y = iI (x / y) := by
  obtain ⟨a, rfl⟩ : ∃ a : Nat, x = (a : Int) := ⟨x.toNat, by omega⟩
  obtain ⟨b, rfl⟩ : ∃ b : Nat, y = (b : Int) := ⟨y.toNat, by omega⟩
  have h1 := rx.2
  have h2 := ry.2
  show nI a / nI b = _
  rw [pk_div (by omega) (by omega) (by omega)]
  show Int32.ofNat (a / b) = Int32.ofInt _
  rw [← Int.natCast_ediv]
  rfl
theorem zr_idiv {x y : Int} (hx : p.tables.exec = Jvm.exec) (hb : c.code = cc) (rx : rg x) (hy : 0 < y) (hy2 : y ≤ 2147483647) (h0 : 0 ≤ x) (hdg : decode cc pc = .ok (.idiv, 1)) (k : W p l e R s m args below meth c H locs cells slots Q (F0 m (pc + 1) ls (.int (iI (x / y)) :: rest))) : W p l e R s m args below meth c H locs cells slots Q (F0 m pc ls (.int (iI y) :: .int (iI x) :: rest)) := by
  have ry : rg y := by unfold rg; omega
  exact lv_idiv hx hb hdg (fun q => by have := (iI_eq ry rg_0).mp (q.trans iI_0); omega) (by rw [zr_quot rx ry h0 hy]; exact k)
theorem zr_irem {x y : Int} (hx : p.tables.exec = Jvm.exec) (hb : c.code = cc) (rx : rg x) (hy : 0 < y) (hy2 : y ≤ 2147483647) (h0 : 0 ≤ x) (hdg : decode cc pc = .ok (.irem, 1)) (k : W p l e R s m args below meth c H locs cells slots Q (F0 m (pc + 1) ls (.int (iI (x % y)) :: rest))) : W p l e R s m args below meth c H locs cells slots Q (F0 m pc ls (.int (iI y) :: .int (iI x) :: rest)) := by
  have ry : rg y := by unfold rg; omega
  refine lv_irem hx hb hdg (fun q => by have := (iI_eq ry rg_0).mp (q.trans iI_0); omega) ?_
  rw [zr_quot rx ry h0 hy, iI_mul, iI_sub, show x - x / y * y = x % y by rw [Int.emod_def, Int.mul_comm]]
  exact k
theorem zr_iret (hx : p.tables.exec = Jvm.exec) (hb : c.code = cc) (hr : meth.sig.returnType = some .int) (hlocks : meth.locks = false) (hK : va_K G.1 vwCl (tz G) s) {S : Type} {w1 : S → va_W} {post : Int → S → Prop} {z : Int} (u : S) (hP : va_P G.1 vwCl (w1 u) H) (hD : va_D A (w1 u)) (hS : va_S A s.heap H locs) (hdg : decode cc pc = .ok (.ireturn, 1)) (hp : post z u) : W p l e R s m args below meth c H locs 0 0 (ZQi G below args s A w1 post) (F0 m pc ls [.int (iI z)]) := W.iret hx hb hr (fun t ht hW => ⟨⟨iI z, u, rfl, ⟨z, rfl, hp⟩, by rw [ht]; exact hP, va_K.moved hW.alike hK, hD⟩, hS.F ht⟩) hS.2.2 hdg hlocks
theorem zr_zret (hx : p.tables.exec = Jvm.exec) (hb : c.code = cc) (hr : meth.sig.returnType = some .boolean) (hlocks : meth.locks = false) (hK : va_K G.1 vwCl (tz G) s) {S : Type} {w1 : S → va_W} {post : Int → S → Prop} {z : Int} (hz : z = 0 ∨ z = 1) (u : S) (hP : va_P G.1 vwCl (w1 u) H) (hD : va_D A (w1 u)) (hS : va_S A s.heap H locs) (hdg : decode cc pc = .ok (.ireturn, 1)) (hp : post z u) : W p l e R s m args below meth c H locs 0 0 (ZQi G below args s A w1 post) (F0 m pc ls [.int (iI z)]) := W.zret hx hb hr (by rcases hz with rfl | rfl <;> rfl) (fun t ht hW => ⟨⟨iI z, u, rfl, ⟨z, rfl, hp⟩, by rw [ht]; exact hP, va_K.moved hW.alike hK, hD⟩, hS.F ht⟩) hS.2.2 hdg hlocks
theorem zr_vret (hx : p.tables.exec = Jvm.exec) (hb : c.code = cc) (hr : meth.sig.returnType = none) (hlocks : meth.locks = false) (hK : va_K G.1 vwCl (tz G) s) {S : Type} {w1 : S → va_W} {post : S → Prop} (u : S) (hP : va_P G.1 vwCl (w1 u) H) (hD : va_D A (w1 u)) (hS : va_S A s.heap H locs) (hdg : decode cc pc = .ok (.return_, 1)) (hp : post u) : W p l e R s m args below meth c H locs 0 0 (ZQv G below args s A w1 post) (F0 m pc ls []) := W.vret hx hb hr (fun t ht hW => ⟨⟨u, rfl, hp, by rw [ht]; exact hP, va_K.moved hW.alike hK, hD⟩, hS.F ht⟩) hS.2.2 hdg hlocks
/-- a loop: the state σ of its head, an invariant, a measure -/
theorem zr_loop {σ : Type} (I : σ → Prop) (μ : σ → Nat) (Wd : σ → va_W) (Lv : σ → List (Nat × Value)) {nL : Nat} (x0 : σ) (h0 : I x0) (hP : va_P G.1 vwCl (Wd x0) H) (hD : va_D A (Wd x0)) (hS : va_S A H0 H locs) (hl : lv_has ls nL (Lv x0))
    (body : ∀ (x : σ) (H : Heap) (locs : List Loc) (ls : Array Slot), (∀ (x' : σ) (H' : Heap) (locs' : List Loc) (ls' : Array Slot), I x' → μ x' < μ x → va_P G.1 vwCl (Wd x') H' → va_D A (Wd x') → va_S A H0 H' locs' → lv_has ls' nL (Lv x') → W p l e R s m args below meth c H' locs' cells slots Q (F0 m pc ls' rest)) → I x → va_P G.1 vwCl (Wd x) H → va_D A (Wd x) → va_S A H0 H locs → lv_has ls nL (Lv x) → W p l e R s m args below meth c H locs cells slots Q (F0 m pc ls rest)) : W p l e R s m args below meth c H locs cells slots Q (F0 m pc ls rest) := by
  have key : ∀ (n : Nat) (x : σ) (H : Heap) (locs : List Loc) (ls : Array Slot), μ x < n → I x → va_P G.1 vwCl (Wd x) H → va_D A (Wd x) → va_S A H0 H locs → lv_has ls nL (Lv x) → W p l e R s m args below meth c H locs cells slots Q (F0 m pc ls rest) := by
    intro n
    induction n with
    | zero => intro x H locs ls h; exact absurd h (Nat.not_lt_zero _)
    | succ n ih => intro x H locs ls h hI hP hD hS hl; exact body x H locs ls (fun x' H' locs' ls' hI' hm hP' hD' hS' hl' => ih x' H' locs' ls' (by omega) hI' hP' hD' hS' hl') hI hP hD hS hl
  exact key (μ x0 + 1) x0 H locs ls (Nat.lt_succ_self _) h0 hP hD hS hl
/-- paths that come together -/
theorem zr_join (pc2 : Nat) (Wd : va_W) (Lv : List (Nat × Value)) (st2 : List Value) (φ : Prop) {nL : Nat} {st0 : List Value}
    (go : φ → ∀ (H : Heap) (locs : List Loc) (ls : Array Slot), va_P G.1 vwCl Wd H → va_D A Wd → va_S A H0 H locs → lv_has ls nL Lv → W p l e R s m args below meth c H locs cells slots Q (F0 m pc2 ls st2))
    (come : (∀ (H : Heap) (locs : List Loc) (ls : Array Slot), va_P G.1 vwCl Wd H → va_D A Wd → va_S A H0 H locs → lv_has ls nL Lv → φ → W p l e R s m args below meth c H locs cells slots Q (F0 m pc2 ls st2)) → W p l e R s m args below meth c H locs cells slots Q (F0 m pc ls st0)) : W p l e R s m args below meth c H locs cells slots Q (F0 m pc ls st0) := come (fun H locs ls a b c d e => go e H locs ls a b c d)
variable {nL n index maxL fr lo ci N q0 : Nat} {Ts wsy : List Cond} {own C : String} {y : MethodName} {bytes : ByteArray} {ret : Option FieldType} {wc : va_W} {b : Addr} {As : List Value} {S : Type} {w1 w2 : S → va_W} {T : u_T} {fs st : List Value}
theorem zb_v {b : Addr} {As : List Value} {sz : Nat} {G : ZG} {wc : va_W} : FrameBlind (va_Pc (.ref b :: As) (fun U => U.heap.size = sz ∧ va_P G.1 vwCl wc U.heap ∧ va_K G.1 vwCl (tz G) U ∧ va_D (fun _ => True) wc)) := fun a U g mk q => ⟨q.1, q.2.1, q.2.2.1, va_K.moved (u := U) (U := U.calling g mk a) (Vm.Alike.refl U.vm) q.2.2.2.1, q.2.2.2.2⟩
theorem zb_s {As : List Value} {sz : Nat} {G : ZG} {wc : va_W} : FrameBlind (va_Pc As (fun U => U.heap.size = sz ∧ va_P G.1 vwCl wc U.heap ∧ va_K G.1 vwCl (tz G) U ∧ va_D (fun _ => True) wc)) := fun a U g mk q => ⟨q.1, q.2.1, q.2.2.1, va_K.moved (u := U) (U := U.calling g mk a) (Vm.Alike.refl U.vm) q.2.2.2.1, q.2.2.2.2⟩
/-- a call of a method of an object, int answer -/
theorem zc_vi {post : Int → S → Prop} (hM : ZI l G y wsy fr lo (.ref b :: As) wc w1 post) (F : CallFix p m c cc nL s args Ts own) (cw : CallW R s args own C index y bytes maxL ret wsy ({ frames := fr, cells := 0, slots := 0, locals := lo }) 0 0 n) (hK : va_K G.1 vwCl (tz G) s) (hP : va_P G.1 vwCl ws H) (hD : va_D A ws) (hS : va_S A H0 H locs) (hA : ∀ q : Nat, H0.size ≤ q → A q) (he : ws[q0]? = some (b, .inr (ci, fs))) (hc : vwCl[ci]? = some (C, T, N)) (isC isR perm : List Nat) (hC : isC.map (fun i => ws[i]?) = wc.map some) (hCd : va_nd isC = true) (hR : isR.map (fun i => ws[i]?) = (isR.filterMap (fun i => ws[i]?)).map some) (hn : va_nd isR = true) (hdis : ∀ i ∈ isR, i ∉ isC) (hpm : ∀ u : S, perm.map (fun i => (isR.filterMap (fun i => ws[i]?) ++ w1 u)[i]?) = (w2 u).map some) (hpn : va_nd perm = true) (hAs : As.length = n) (hls : ls.size = nL) (hst : st = As.reverse ++ .ref b :: rest) (hW : 2 * 0 + (rest.map fun v => v.category).sum ≤ 8) (hdg : decode cc pc = .ok (.invokevirtual index, 3)) (hf : cells ≤ R.cells ∧ slots ≤ R.slots)
    (kk : ∀ (z : Int) (u : S) (H1 : Heap) (locs1 : List Loc), post z u → va_P G.1 vwCl (w2 u) H1 → va_D A (w2 u) → va_S A H0 H1 locs1 → W p l e R s m args below meth c H1 locs1 cells slots Q (F0 m (pc + 3) ls (.int (iI z) :: rest))) : W p l e R s m args below meth c H locs cells slots Q (F0 m pc ls st) := by
  have hF := va_free (wc := wc) hD hS hA isC hC
  refine va_calli (va_runV (As := As) (rest := rest) F (hM H.size) cw ⟨zb_v, va_recv hK hP hc he, fun U hU hW => ⟨rfl, by rw [hU], ?_, va_K.moved hW.alike hK, (hD.sub isC hCd hC).weaken (fun _ _ _ _ => trivial)⟩⟩ rfl hAs hls hst hW hdg hf) hS (fun q _ h => hF q h) hF (fun r u t H1 locs ht hvm hw hB hz1 hk1 hS => ?_)
  · rw [hU]
    intro k q hk
    have h1 : (isC.map (fun i => ws[i]?))[k]? = some (some q) := by rw [hC, List.getElem?_map, hk]; rfl
    rw [List.getElem?_map] at h1
    cases hi : isC[k]? with
    | none => rw [hi] at h1; cases h1
    | some i => rw [hi] at h1; exact hP i q (Option.some.inj h1)
  · obtain ⟨z, rfl, hp⟩ := hw
    obtain ⟨hP1, hK1, hD1⟩ := hB
    rw [ht] at hP1
    obtain ⟨hPj, hDj⟩ := va_join (wr := isR.filterMap (fun i => ws[i]?)) (w1 := w1 u) hP hD isC isR hC hR hn hdis hk1 hF hP1 hD1
    exact kk z u H1 locs hp (zp_perm perm (hpm u) hPj) (hDj.sub perm hpn (hpm u)) hS
theorem zc_vv {post : S → Prop} (hM : ZV l G y wsy fr lo (.ref b :: As) wc w1 post) (F : CallFix p m c cc nL s args Ts own) (cw : CallW R s args own C index y bytes maxL ret wsy ({ frames := fr, cells := 0, slots := 0, locals := lo }) 0 0 n) (hK : va_K G.1 vwCl (tz G) s) (hP : va_P G.1 vwCl ws H) (hD : va_D A ws) (hS : va_S A H0 H locs) (hA : ∀ q : Nat, H0.size ≤ q → A q) (he : ws[q0]? = some (b, .inr (ci, fs))) (hc : vwCl[ci]? = some (C, T, N)) (isC isR perm : List Nat) (hC : isC.map (fun i => ws[i]?) = wc.map some) (hCd : va_nd isC = true) (hR : isR.map (fun i => ws[i]?) = (isR.filterMap (fun i => ws[i]?)).map some) (hn : va_nd isR = true) (hdis : ∀ i ∈ isR, i ∉ isC) (hpm : ∀ u : S, perm.map (fun i => (isR.filterMap (fun i => ws[i]?) ++ w1 u)[i]?) = (w2 u).map some) (hpn : va_nd perm = true) (hAs : As.length = n) (hls : ls.size = nL) (hst : st = As.reverse ++ .ref b :: rest) (hW : 2 * 0 + (rest.map fun v => v.category).sum ≤ 8) (hdg : decode cc pc = .ok (.invokevirtual index, 3)) (hf : cells ≤ R.cells ∧ slots ≤ R.slots)
    (kk : ∀ (u : S) (H1 : Heap) (locs1 : List Loc), post u → va_P G.1 vwCl (w2 u) H1 → va_D A (w2 u) → va_S A H0 H1 locs1 → W p l e R s m args below meth c H1 locs1 cells slots Q (F0 m (pc + 3) ls rest)) : W p l e R s m args below meth c H locs cells slots Q (F0 m pc ls st) := by
  have hF := va_free (wc := wc) hD hS hA isC hC
  refine va_callv (va_runV (As := As) (rest := rest) F (hM H.size) cw ⟨zb_v, va_recv hK hP hc he, fun U hU hW => ⟨rfl, by rw [hU], ?_, va_K.moved hW.alike hK, (hD.sub isC hCd hC).weaken (fun _ _ _ _ => trivial)⟩⟩ rfl hAs hls hst hW hdg hf) hS (fun q _ h => hF q h) hF (fun u t H1 locs ht hvm hw hB hz1 hk1 hS => ?_)
  · rw [hU]
    intro k q hk
    have h1 : (isC.map (fun i => ws[i]?))[k]? = some (some q) := by rw [hC, List.getElem?_map, hk]; rfl
    rw [List.getElem?_map] at h1
    cases hi : isC[k]? with
    | none => rw [hi] at h1; cases h1
    | some i => rw [hi] at h1; exact hP i q (Option.some.inj h1)
  · obtain ⟨hP1, hK1, hD1⟩ := hB
    rw [ht] at hP1
    obtain ⟨hPj, hDj⟩ := va_join (wr := isR.filterMap (fun i => ws[i]?)) (w1 := w1 u) hP hD isC isR hC hR hn hdis hk1 hF hP1 hD1
    exact kk u H1 locs hw (zp_perm perm (hpm u) hPj) (hDj.sub perm hpn (hpm u)) hS
/-- a call of a static method that reads no cell, int answer -/
theorem zc_si {post : Int → Unit → Prop} (hM : ZI l G y wsy fr lo As [] (fun _ : Unit => []) post) (F : CallFix p m c cc nL s args Ts own) (cw : CallB R s args own index y bytes maxL ret wsy ({ frames := fr, cells := 0, slots := 0, locals := lo }) 0 0 n ∧ (Cond.static y).before args s = true) (hK : va_K G.1 vwCl (tz G) s) (hP : va_P G.1 vwCl ws H) (hD : va_D A ws) (hS : va_S A H0 H locs) (hA : ∀ q : Nat, H0.size ≤ q → A q) (hAs : As.length = n) (hls : ls.size = nL) (hst : st = As.reverse ++ rest) (hW : 2 * 0 + (rest.map fun v => v.category).sum ≤ 8) (hdg : decode cc pc = .ok (.invokestatic index, 3)) (hf : cells ≤ R.cells ∧ slots ≤ R.slots)
    (kk : ∀ (z : Int) (H1 : Heap) (locs1 : List Loc), post z () → va_P G.1 vwCl ws H1 → va_D A ws → va_S A H0 H1 locs1 → W p l e R s m args below meth c H1 locs1 cells slots Q (F0 m (pc + 3) ls (.int (iI z) :: rest))) : W p l e R s m args below meth c H locs cells slots Q (F0 m pc ls st) := by
  have hF := va_free (wc := []) hD hS hA [] rfl
  refine va_calli (va_runS (As := As) (rest := rest) F (hM H.size) cw ⟨zb_s, fun U hU hW => ⟨rfl, by rw [hU], fun k q hk => by simp at hk, va_K.moved hW.alike hK, ⟨fun i j p q h => by simp at h, fun k q h => by simp at h⟩⟩⟩ rfl hAs hls hst hW hdg hf) hS (fun q _ h => hF q h) hF (fun r u t H1 locs ht hvm hw hB hz1 hk1 hS => ?_)
  obtain ⟨z, rfl, hp⟩ := hw
  refine kk z H1 locs hp (hP.kept fun k q hk => hk1 q.1 (hP k q hk).lt (fun h => ?_)) hD hS
  rcases h with ⟨k2, e, h⟩ | h
  · simp at h
  · have := (hP k q hk).lt
    omega
end ZR
