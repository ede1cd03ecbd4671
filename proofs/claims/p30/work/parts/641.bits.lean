/-! FOUR LETTERS IN A NUMBER -/
theorem shl8 {a : Int} (h : 0 ≤ a ∧ a < 8388608) : iI a <<< (iI 8 &&& 31) = iI (a * 256) := by
  rw [show (iI 8 &&& 31 : Int32) = 8 by decide]
  apply Int32.toBitVec_inj.mp
  rw [Int32.toBitVec_shiftLeft]
  show (BitVec.ofInt 32 a) <<< (8 : Nat) = BitVec.ofInt 32 (a * 256)
  apply BitVec.eq_of_toNat_eq
  rw [BitVec.toNat_shiftLeft, BitVec.toNat_ofInt, BitVec.toNat_ofInt, Nat.shiftLeft_eq]
  omega
theorem or8 {a c : Int} (h : 0 ≤ a ∧ a < 8388608) (hc : 0 ≤ c ∧ c < 256) : iI (a * 256) ||| iI c = iI (a * 256 + c) := by
  apply Int32.toBitVec_inj.mp
  show (BitVec.ofInt 32 (a * 256)) ||| (BitVec.ofInt 32 c) = BitVec.ofInt 32 (a * 256 + c)
  apply BitVec.eq_of_toNat_eq
  rw [BitVec.toNat_or, BitVec.toNat_ofInt, BitVec.toNat_ofInt, BitVec.toNat_ofInt]
  have e1 : (a * 256 % ((2 ^ 32 : Nat) : Int)).toNat = a.toNat <<< 8 := by
    rw [Nat.shiftLeft_eq]
    omega
  have e2 : (c % ((2 ^ 32 : Nat) : Int)).toNat = c.toNat := by omega
  rw [e1, e2, ← Nat.shiftLeft_add_eq_or_of_lt (show c.toNat < 2 ^ 8 by omega), Nat.shiftLeft_eq]
  omega
theorem shR_d {v : Int} (h : 0 ≤ v ∧ v < 2147483648) : shR v 24 = v / 16777216 ∧ shR v 16 = v / 65536 ∧ shR v 8 = v / 256 ∧ shR v 0 = v := by
  have t := iI_t (z := v) ⟨by omega, by omega⟩
  have key : ∀ (k : Int) (m : Nat), ((iI k &&& 31 : Int32).toBitVec.smod 32).toNat = m → shR v k = v / ((2 ^ m : Nat) : Int) := fun k m hk => by
    unfold shR
    show ((iI v >>> (iI k &&& 31)).toBitVec).toInt = _
    rw [Int32.toBitVec_shiftRight]
    show ((iI v).toBitVec.sshiftRight (((iI k &&& 31 : Int32).toBitVec.smod 32).toNat)).toInt = _
    rw [hk, BitVec.toInt_sshiftRight, Int.shiftRight_eq_div_pow]
    show (iI v).toInt / _ = _
    rw [t]
  refine ⟨(key 24 24 (by decide)).trans rfl, (key 16 16 (by decide)).trans rfl, (key 8 8 (by decide)).trans rfl, (key 0 0 (by decide)).trans ?_⟩
  show v / 1 = v
  omega
theorem byT_c {w c : Int} (h : 0 ≤ w ∧ w < 2147483648) (hc : w % 256 = c) (h1 : c < 128) : byT w = c := by
  unfold byT
  rw [Int8.toInt_toInt32, Int32.toInt_toInt8, iI_t ⟨by omega, by omega⟩]
  show Int.bmod w 256 = c
  unfold Int.bmod
  rw [if_pos (by show w % (256 : Int) < (256 + 1) / 2; omega)]
  exact hc
section PKS
variable {f c : Int → Int} {n : Int}
/-- four letters from place r on -/
def pk4 (c : Int → Int) (r : Int) : Int := ((c r * 256 + c (r + 1)) * 256 + c (r + 2)) * 256 + c (r + 3)
theorem pk4_by (hc : ∀ j : Int, 0 ≤ c j ∧ c j < 128) (r : Int) : byT (shR (pk4 c r) 24) = c r ∧ byT (shR (pk4 c r) 16) = c (r + 1) ∧ byT (shR (pk4 c r) 8) = c (r + 2) ∧ byT (shR (pk4 c r) 0) = c (r + 3) := by
  have a0 := hc r
  have a1 := hc (r + 1)
  have a2 := hc (r + 2)
  have a3 := hc (r + 3)
  have hv : pk4 c r = c r * 16777216 + c (r + 1) * 65536 + c (r + 2) * 256 + c (r + 3) := by
    unfold pk4
    omega
  obtain ⟨e1, e2, e3, e4⟩ := shR_d (v := pk4 c r) (by omega)
  rw [e1, e2, e3, e4, hv]
  refine ⟨byT_c (by omega) (by omega) a0.2, byT_c (by omega) (by omega) a1.2, byT_c (by omega) (by omega) a2.2, byT_c (by omega) (by omega) a3.2⟩
theorem apI_o {v j : Int} (h : j < n ∨ n + 4 ≤ j) : apI f n v j = f j := by
  unfold apI
  rw [uI_n _ _ _ (by omega), uI_n _ _ _ (by omega), uI_n _ _ _ (by omega), uI_n _ _ _ (by omega)]
theorem apI_i (hc : ∀ j : Int, 0 ≤ c j ∧ c j < 128) {r j : Int} (h : 0 ≤ j ∧ j < 4) : apI f n (pk4 c r) (n + j) = c (r + j) := by
  obtain ⟨e0, e1, e2, e3⟩ := pk4_by hc r
  unfold apI
  rw [e0, e1, e2, e3]
  rcases (show j = 0 ∨ j = 1 ∨ j = 2 ∨ j = 3 by omega) with rfl | rfl | rfl | rfl
  · rw [uI_n _ _ _ (by omega), uI_n _ _ _ (by omega), uI_n _ _ _ (by omega), uI_i, if_pos (by omega), Int.add_zero]
  · rw [uI_n _ _ _ (by omega), uI_n _ _ _ (by omega), uI_s]
  · rw [uI_n _ _ _ (by omega), uI_s]
  · rw [uI_s]
theorem apA_o {a b d e g j : Int} (h : j < n) : apA f n a b d e g j = f j := by
  unfold apA
  rw [apI_o (by omega), apI_o (by omega), apI_o (by omega), apI_o (by omega), apI_o (by omega)]
theorem apA_i (hc : ∀ j : Int, 0 ≤ c j ∧ c j < 128) {r j : Int} (h : 0 ≤ j ∧ j < 20) : apA f n (pk4 c r) (pk4 c (r + 4)) (pk4 c (r + 8)) (pk4 c (r + 12)) (pk4 c (r + 16)) (n + j) = c (r + j) := by
  unfold apA
  by_cases h4 : 16 ≤ j
  · rw [show n + j = (n + 16) + (j - 16) by omega, apI_i hc (by omega)]
    congr 1
    omega
  · rw [apI_o (by omega)]
    by_cases h3 : 12 ≤ j
    · rw [show n + j = (n + 12) + (j - 12) by omega, apI_i hc (by omega)]
      congr 1
      omega
    · rw [apI_o (by omega)]
      by_cases h2 : 8 ≤ j
      · rw [show n + j = (n + 8) + (j - 8) by omega, apI_i hc (by omega)]
        congr 1
        omega
      · rw [apI_o (by omega)]
        by_cases h1 : 4 ≤ j
        · rw [show n + j = (n + 4) + (j - 4) by omega, apI_i hc (by omega)]
          congr 1
          omega
        · rw [apI_o (by omega), apI_i hc (by omega)]
/-- what was packed after k letters: the number at place j -/
def pkI (c : Int → Int) (r : Int) (m : Int) : Int := if m ≤ 0 then 0 else if m = 1 then c r else if m = 2 then c r * 256 + c (r + 1) else if m = 3 then (c r * 256 + c (r + 1)) * 256 + c (r + 2) else pk4 c r
theorem pkI_s {r m : Int} (h : 0 ≤ m ∧ m < 4) : pkI c r (m + 1) = pkI c r m * 256 + c (r + m) := by
  rcases (show m = 0 ∨ m = 1 ∨ m = 2 ∨ m = 3 by omega) with rfl | rfl | rfl | rfl
  · show c r = 0 * 256 + c (r + 0)
    rw [Int.add_zero]
    omega
  · rfl
  · rfl
  · rfl
theorem pkI_bd (hc : ∀ j : Int, 0 ≤ c j ∧ c j < 128) {r m : Int} (h : m < 4) : 0 ≤ pkI c r m ∧ pkI c r m < 8388608 := by
  have a0 := hc r
  have a1 := hc (r + 1)
  have a2 := hc (r + 2)
  unfold pkI
  split
  · decide
  · split
    · omega
    · split
      · omega
      · rw [if_pos (by omega)]
        omega
theorem pkI_4 {r m : Int} (h : 4 ≤ m) : pkI c r m = pk4 c r := by
  unfold pkI
  rw [if_neg (by omega), if_neg (by omega), if_neg (by omega), if_neg (by omega)]
theorem pkI_0 {r m : Int} (h : m ≤ 0) : pkI c r m = 0 := if_pos h
end PKS
section QSH
variable {p : Program} {l : Launch} {e : Env} {R : Room} {s : State} {m : MethodId} {args : Array Value} {below : List Frame} {meth : Method} {c : Code} {H : Heap} {locs : List Loc} {cells slots : Nat} {Q : State → Prop}
variable {cc : ByteArray} {pc : Nat} {ls : Array Slot} {rest : List Value}
theorem q_ishl8 (hx : p.tables.exec = Jvm.exec) (hb : c.code = cc) {a : Int} (h : 0 ≤ a ∧ a < 8388608) (hdg : decode cc pc = .ok (.ishl, 1)) (k : W p l e R s m args below meth c H locs cells slots Q (F0 m (pc + 1) ls (.int (iI (a * 256)) :: rest))) : W p l e R s m args below meth c H locs cells slots Q (F0 m pc ls (.int (iI 8) :: .int (iI a) :: rest)) := lv_ishl hx hb hdg (by rw [shl8 h]; exact k)
theorem q_ior8 (hx : p.tables.exec = Jvm.exec) (hb : c.code = cc) {a x : Int} (h : 0 ≤ a ∧ a < 8388608) (hc : 0 ≤ x ∧ x < 256) (hdg : decode cc pc = .ok (.ior, 1)) (k : W p l e R s m args below meth c H locs cells slots Q (F0 m (pc + 1) ls (.int (iI (a * 256 + x)) :: rest))) : W p l e R s m args below meth c H locs cells slots Q (F0 m pc ls (.int (iI x) :: .int (iI (a * 256)) :: rest)) := lv_ior hx hb hdg (by rw [or8 h hc]; exact k)
end QSH
