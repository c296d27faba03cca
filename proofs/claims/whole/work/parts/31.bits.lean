/-! HOW MANY BITS: Integer.bitCount; min, max, floorMod -/
def ush (x n : Int32) : Int32 := (x.toUInt32 >>> (Int32.toUInt32 n &&& Int32.toUInt32 31)).toInt32
def bc1 (x : Int32) : Int32 := x - (ush x 1 &&& 1431655765)
def bc2 (x : Int32) : Int32 := (x &&& 858993459) + (ush x 2 &&& 858993459)
def bc3 (x : Int32) : Int32 := (x + ush x 4) &&& 252645135
def bc4 (x : Int32) : Int32 := x + ush x 8
def bc5 (x : Int32) : Int32 := (x + ush x 16) &&& 63
def bcV (x : Int32) : Int32 := bc5 (bc4 (bc3 (bc2 (bc1 x))))
theorem bc_dec : ∀ a, a < 128 → ∀ b, b < 64 → bcV (nI (64 * a + b)) = bitsV (nI (64 * a + b)) := by decide +kernel
theorem bt_nI {n i : Nat} (hi : i < 32) : bt (nI n) i = n.testBit i := by
  show (BitVec.ofNat 32 n).getLsbD i = _
  rw [BitVec.getLsbD_ofNat, decide_eq_true hi, Bool.true_and]
theorem small_nI {x : Int32} {k : Nat} (hk : k ≤ 31) (h : ∀ j, k ≤ j → bt x j = false) : ∃ n, n < 2 ^ k ∧ x = nI n := by
  refine ⟨x.toBitVec.toNat, Nat.lt_pow_two_of_testBit _ (fun i hi => h i hi), b_ext fun i hi => ?_⟩
  rw [bt_nI hi]
  rfl
theorem bc_small {x : Int32} (h : ∀ j, 13 ≤ j → bt x j = false) : bcV x = bitsV x := by
  obtain ⟨n, hn, rfl⟩ := small_nI (by omega) h
  have := bc_dec (n / 64) (by omega) (n % 64) (by omega)
  rwa [show 64 * (n / 64) + n % 64 = n by omega] at this
section Jdk
variable {d : Nat} {m : am_M} {post : Option Value → am_M → Prop}
theorem bc_ok {x : Int32} : Cl d 272 [.int x] m post ↔ post (some (.int (bcV x))) m := by
  rw [op_272]
  simp (disch := first | exact am_nl_i _ | exact am_nl_r _ | exact am_nl_0 | assumption | omega | (refine vi_nI ?_ ?_ <;> omega) | exact b2i_01 _ | exact Or.inl rfl | exact Or.inr rfl | (unfold vi; decide)) only [ex_272_0, ex_272_1, ex_272_2, ex_272_3, ex_272_4, ex_272_7, ex_272_8, ex_272_9, ex_272_10, ex_272_11, ex_272_14, ex_272_15, ex_272_16, ex_272_17, ex_272_18, ex_272_21, ex_272_22, ex_272_23, ex_272_24, ex_272_25, ex_272_26, ex_272_27, ex_272_28, ex_272_29, ex_272_32, ex_272_33, ex_272_34, ex_272_35, ex_272_36, ex_272_38, ex_272_39, ex_272_40, ex_272_41, ex_272_42, ex_272_43, ex_272_45, ex_272_46, ex_272_47, ex_272_48, ex_272_49, ex_272_51, ex_272_52, if_true, if_false, and_self, Option.toList_some, Option.toList_none, List.singleton_append, List.cons_append, List.nil_append, List.append_nil, nI_1, nt_e, Int32.le_refl]
  exact Iff.rfl
theorem max_ok {x y : Int32} : Cl d 274 [.int x, .int y] m post ↔ post (some (.int (if x < y then y else x))) m := by
  rw [op_274]
  simp (disch := first | exact am_nl_i _ | exact am_nl_r _ | exact am_nl_0 | assumption | omega | (refine vi_nI ?_ ?_ <;> omega) | exact b2i_01 _ | exact Or.inl rfl | exact Or.inr rfl | (unfold vi; decide)) only [ex_274_0, ex_274_1, ex_274_2, ex_274_5, ex_274_6, ex_274_9, ex_274_10, if_true, if_false, and_self, Option.toList_some, Option.toList_none, List.singleton_append, List.cons_append, List.nil_append, List.append_nil, nI_1, nt_e, Int32.le_refl]
  by_cases h : x < y
  · rw [if_pos h, if_pos h]
  · rw [if_neg h, if_neg h]
theorem min_ok {x y : Int32} : Cl d 275 [.int x, .int y] m post ↔ post (some (.int (if y < x then y else x))) m := by
  rw [op_275]
  simp (disch := first | exact am_nl_i _ | exact am_nl_r _ | exact am_nl_0 | assumption | omega | (refine vi_nI ?_ ?_ <;> omega) | exact b2i_01 _ | exact Or.inl rfl | exact Or.inr rfl | (unfold vi; decide)) only [ex_275_0, ex_275_1, ex_275_2, ex_275_5, ex_275_6, ex_275_9, ex_275_10, if_true, if_false, and_self, Option.toList_some, Option.toList_none, List.singleton_append, List.cons_append, List.nil_append, List.append_nil, nI_1, nt_e, Int32.le_refl]
  by_cases h : y < x
  · rw [if_pos h, if_pos h]
  · rw [if_neg h, if_neg h]
end Jdk
