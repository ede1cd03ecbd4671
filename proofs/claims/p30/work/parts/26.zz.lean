/-! WHAT NOBODY WRITES: the class's static rows, literals, the words of nest mates. Written by wip/p30/mzz.py -/
def txL (i : Nat) : List Int := match i with
  | 0 => [102, 101, 101, 100, 101, 114]
  | 1 => [115, 104, 101, 101, 116]
  | 2 => [99, 111, 100, 101]
  | 3 => [97, 103, 97, 105, 110]
  | 4 => [108, 105, 109, 105, 116, 115]
  | 5 => [115, 105, 109, 112, 108, 101, 120]
  | 6 => [115, 116, 117, 99, 107]
  | 7 => [102, 101, 101, 100, 101, 114, 32]
  | 8 => [32]
  | 9 => [59]
  | 10 => [99, 111, 100, 101, 32]
  | 11 => [115, 104, 101, 101, 116, 32]
  | 12 => [32, 45]
  | 13 => [32, 115, 116, 117, 99, 107, 32]
  | 14 => [108, 105, 109, 105, 116, 115, 32]
  | _ => [32, 50, 53, 32, 53, 59]
abbrev usK (k : Int) : Int := if k = 0 then 150 else if k = 1 then 20 else if k = 2 then 30 else 5
def litR : List (String × Nat × String × Nat) := [(RX6, 77, "length out of range", 50), (RX6, 128, "what out of range", 51), (RX6, 140, "no such sheet", 52), (RX6, 173, "no such page", 53), (RX6, 184, "no such job", 54), (RX6, 257, "where out of range", 55), (RX6, 262, "picks out of range", 56), (RX6, 270, "the feeder is stopped", 57), (RX6, 279, "the feeder is not stopped", 58), (RX6, 288, "no pick that can be accepted", 59), (RX2, 54, "feeder", 10), (RX2, 82, "sheet", 11), (RX2, 91, "code", 12), (RX2, 93, "again", 13), (RX2, 98, "limits", 14), (RX2, 103, "simplex", 15), (RX2, 135, "stuck", 16), (RL, 21, "feeder ", 17), (RL, 30, " ", 18), (RL, 35, ";", 19), (RL, 37, "code ", 20), (RL, 39, "sheet ", 21), (RL, 41, " -", 22), (RL, 43, " stuck ", 23), (RL, 45, "limits ", 24), (RL, 47, " 25 5;", 25)]
theorem lt_X6_77 : (RX6, 77, "length out of range", 50) ∈ litR := List.mem_of_getElem? (i := 0) rfl
theorem lt_X6_128 : (RX6, 128, "what out of range", 51) ∈ litR := List.mem_of_getElem? (i := 1) rfl
theorem lt_X6_140 : (RX6, 140, "no such sheet", 52) ∈ litR := List.mem_of_getElem? (i := 2) rfl
theorem lt_X6_173 : (RX6, 173, "no such page", 53) ∈ litR := List.mem_of_getElem? (i := 3) rfl
theorem lt_X6_184 : (RX6, 184, "no such job", 54) ∈ litR := List.mem_of_getElem? (i := 4) rfl
theorem lt_X6_257 : (RX6, 257, "where out of range", 55) ∈ litR := List.mem_of_getElem? (i := 5) rfl
theorem lt_X6_262 : (RX6, 262, "picks out of range", 56) ∈ litR := List.mem_of_getElem? (i := 6) rfl
theorem lt_X6_270 : (RX6, 270, "the feeder is stopped", 57) ∈ litR := List.mem_of_getElem? (i := 7) rfl
theorem lt_X6_279 : (RX6, 279, "the feeder is not stopped", 58) ∈ litR := List.mem_of_getElem? (i := 8) rfl
theorem lt_X6_288 : (RX6, 288, "no pick that can be accepted", 59) ∈ litR := List.mem_of_getElem? (i := 9) rfl
theorem lt_X2_54 : (RX2, 54, "feeder", 10) ∈ litR := List.mem_of_getElem? (i := 10) rfl
theorem lt_X2_82 : (RX2, 82, "sheet", 11) ∈ litR := List.mem_of_getElem? (i := 11) rfl
theorem lt_X2_91 : (RX2, 91, "code", 12) ∈ litR := List.mem_of_getElem? (i := 12) rfl
theorem lt_X2_93 : (RX2, 93, "again", 13) ∈ litR := List.mem_of_getElem? (i := 13) rfl
theorem lt_X2_98 : (RX2, 98, "limits", 14) ∈ litR := List.mem_of_getElem? (i := 14) rfl
theorem lt_X2_103 : (RX2, 103, "simplex", 15) ∈ litR := List.mem_of_getElem? (i := 15) rfl
theorem lt_X2_135 : (RX2, 135, "stuck", 16) ∈ litR := List.mem_of_getElem? (i := 16) rfl
theorem lt_L_21 : (RL, 21, "feeder ", 17) ∈ litR := List.mem_of_getElem? (i := 17) rfl
theorem lt_L_30 : (RL, 30, " ", 18) ∈ litR := List.mem_of_getElem? (i := 18) rfl
theorem lt_L_35 : (RL, 35, ";", 19) ∈ litR := List.mem_of_getElem? (i := 19) rfl
theorem lt_L_37 : (RL, 37, "code ", 20) ∈ litR := List.mem_of_getElem? (i := 20) rfl
theorem lt_L_39 : (RL, 39, "sheet ", 21) ∈ litR := List.mem_of_getElem? (i := 21) rfl
theorem lt_L_41 : (RL, 41, " -", 22) ∈ litR := List.mem_of_getElem? (i := 22) rfl
theorem lt_L_43 : (RL, 43, " stuck ", 23) ∈ litR := List.mem_of_getElem? (i := 23) rfl
theorem lt_L_45 : (RL, 45, "limits ", 24) ∈ litR := List.mem_of_getElem? (i := 24) rfl
theorem lt_L_47 : (RL, 47, " 25 5;", 25) ∈ litR := List.mem_of_getElem? (i := 25) rfl
def ZZ (z : Nat → Nat) : ZT := fun A U H =>
  (va_Z RX6 "LEAST" "[I" (.ref (z 0)) A U H ∧ va_Z RX6 "GREATEST" "[I" (.ref (z 1)) A U H ∧ va_Z RX6 "USUAL" "[I" (.ref (z 2)) A U H ∧ va_T .int (z 0) 4 (fun j => .int (iI (loK (j : Int)))) A U H ∧ va_T .int (z 1) 4 (fun j => .int (iI (hiK (j : Int)))) A U H ∧ va_T .int (z 2) 4 (fun j => .int (iI (usK (j : Int)))) A U H) ∧
  (va_Z "java/lang/String" "COMPACT_STRINGS" "Z" (.int 1) A U H ∧ va_Zq "jdk/internal/util/Preconditions" "SIOOBE_FORMATTER" "Ljava/util/function/BiFunction;" A U H) ∧
  (∀ i : Nat, i < 16 → strO (z (10 + i)) (z (30 + i)) (txL i) A U H) ∧
  (∀ q ∈ litR, vk_R q.1 q.2.1 q.2.2.1 (z q.2.2.2) U) ∧ (∀ w ∈ nestW, va_Nw w U) ∧
  (vx_Zq Bundle.tN "UNASSIGNED_STACK" Bundle.steD A U H ∧ vx_Zq Bundle.tN "SUPPRESSED_SENTINEL" Bundle.listD A U H)
theorem nest_warm : ∀ w ∈ nestW, ∀ (s U : State), s.WarmedH U.vm → va_Nw w s → va_Nw w U := List.forall_mem_cons.mpr ⟨fun _ _ hW h => va_Nw.warmM hW h, List.forall_mem_cons.mpr ⟨fun _ _ hW h => va_Nw.warmM hW h, List.forall_mem_cons.mpr ⟨fun _ _ hW h => va_Nw.warmF hW h, List.forall_mem_cons.mpr ⟨fun _ _ hW h => va_Nw.warmM hW h, List.forall_mem_cons.mpr ⟨fun _ _ hW h => va_Nw.warmM hW h, List.forall_mem_cons.mpr ⟨fun _ _ hW h => va_Nw.warmM hW h, List.forall_mem_cons.mpr ⟨fun _ _ hW h => va_Nw.warmM hW h, List.forall_mem_cons.mpr ⟨fun _ _ hW h => va_Nw.warmM hW h, List.forall_mem_cons.mpr ⟨fun _ _ hW h => va_Nw.warmM hW h, List.forall_mem_cons.mpr ⟨fun _ _ hW h => va_Nw.warmF hW h, List.forall_mem_cons.mpr ⟨fun _ _ hW h => va_Nw.warmF hW h, List.forall_mem_cons.mpr ⟨fun _ _ hW h => va_Nw.warmF hW h, fun _ h => absurd h List.not_mem_nil⟩⟩⟩⟩⟩⟩⟩⟩⟩⟩⟩⟩
theorem nest_same : ∀ w ∈ nestW, ∀ (s U : State), s.vm = U.vm → va_Nw w s → va_Nw w U := List.forall_mem_cons.mpr ⟨fun _ _ hW h => va_Nw.same rfl hW h, List.forall_mem_cons.mpr ⟨fun _ _ hW h => va_Nw.same rfl hW h, List.forall_mem_cons.mpr ⟨fun _ _ hW h => va_Nw.same rfl hW h, List.forall_mem_cons.mpr ⟨fun _ _ hW h => va_Nw.same rfl hW h, List.forall_mem_cons.mpr ⟨fun _ _ hW h => va_Nw.same rfl hW h, List.forall_mem_cons.mpr ⟨fun _ _ hW h => va_Nw.same rfl hW h, List.forall_mem_cons.mpr ⟨fun _ _ hW h => va_Nw.same rfl hW h, List.forall_mem_cons.mpr ⟨fun _ _ hW h => va_Nw.same rfl hW h, List.forall_mem_cons.mpr ⟨fun _ _ hW h => va_Nw.same rfl hW h, List.forall_mem_cons.mpr ⟨fun _ _ hW h => va_Nw.same rfl hW h, List.forall_mem_cons.mpr ⟨fun _ _ hW h => va_Nw.same rfl hW h, List.forall_mem_cons.mpr ⟨fun _ _ hW h => va_Nw.same rfl hW h, fun _ h => absurd h List.not_mem_nil⟩⟩⟩⟩⟩⟩⟩⟩⟩⟩⟩⟩
theorem zz_al {z : Nat → Nat} {A : Nat → Prop} {u U : State} {H : Heap} (hv : u.vm.Alike U.vm) (hr : ∀ (own tx : String) (k a : Nat), vk_R own k tx a u → vk_R own k tx a U) (hn : ∀ w ∈ nestW, va_Nw w u → va_Nw w U) (h : ZZ z A u H) : ZZ z A U H := by
  obtain ⟨⟨a1, a2, a3, a4, a5, a6⟩, ⟨b1, b2⟩, c, d, e, f1, f2⟩ := h
  exact ⟨⟨va_Z.moved hv a1, va_Z.moved hv a2, va_Z.moved hv a3, va_T.moved hv a4, va_T.moved hv a5, va_T.moved hv a6⟩, ⟨va_Z.moved hv b1, va_Zq.moved hv b2⟩, fun i hi => vk_S.moved hv (c i hi), fun q hq => hr _ _ _ _ (d q hq), fun w hw => hn w hw (e w hw), vx_Zq.moved hv f1, vx_Zq.moved hv f2⟩
theorem zz_ok (z : Nat → Nat) : zOk (ZZ z) := by
  refine ⟨fun A s U H hW h => zz_al hW.alike (fun _ _ _ _ q => vk_R.warm hW q) (fun w hw q => nest_warm w hw s U hW q) h, fun A u U H hv h => zz_al (by rw [hv]; exact Vm.Alike.refl _) (fun _ _ _ _ q => vk_R.same hv q) (fun w hw q => nest_same w hw u U hv.symm q) h, fun A U H H1 h hq => ?_, fun A B U H h hq => ?_⟩
  · obtain ⟨⟨a1, a2, a3, a4, a5, a6⟩, ⟨b1, b2⟩, c, d, e, f1, f2⟩ := h
    exact ⟨⟨a1.kept hq, a2.kept hq, a3.kept hq, a4.kept hq, a5.kept hq, a6.kept hq⟩, ⟨b1.kept hq, b2.kept hq⟩, fun i hi => (c i hi).kept hq, d, e, f1.kept hq, f2.kept hq⟩
  · obtain ⟨⟨a1, a2, a3, a4, a5, a6⟩, ⟨b1, b2⟩, c, d, e, f1, f2⟩ := h
    exact ⟨⟨a1.narrow hq, a2.narrow hq, a3.narrow hq, a4.narrow hq, a5.narrow hq, a6.narrow hq⟩, ⟨b1.narrow hq, b2.narrow hq⟩, fun i hi => (c i hi).narrow hq, d, e, f1.narrow hq, f2.narrow hq⟩
theorem zz_tx (i : Nat) (hi : i < 16) : (txL i).length ≤ 100 ∧ ∀ k : Nat, k < (txL i).length → 0 ≤ (txL i).getD k 0 ∧ (txL i).getD k 0 < 128 := by
  have h : ∀ i : Nat, i < 16 → (txL i).length ≤ 100 ∧ ∀ k : Nat, k < (txL i).length → 0 ≤ (txL i).getD k 0 ∧ (txL i).getD k 0 < 128 := by decide +kernel
  exact h i hi
theorem zz_S (z : Nat → Nat) (i : Nat) (hi : i < 16) : zS (ZZ z) (z (10 + i)) (z (30 + i)) (txL i) := ⟨zz_ok z, fun A U H h => h.2.2.1 i hi, fun A U H h => h.2.1.1, fun A U H h => h.2.1.2, (zz_tx i hi).1, (zz_tx i hi).2⟩

/-- the word that stands there is L -/
abbrev isWd (f : Int → Int) (er tk ts te : Int) (L : List Int) : Prop := (er = 0 ∧ tk = 1 ∧ te - ts = (L.length : Int)) ∧ kI (fun k => f (ts + k) ≠ L.getD k.toNat 0) (L.length : Int) = 0
theorem kI_mo {q : Int → Prop} [DecidablePred q] : ∀ (m : Nat) {k : Int}, 0 ≤ k → kI q k ≤ kI q (k + m) := fun m => by
  induction m with
  | zero => intro k h; rw [show k + ((0 : Nat) : Int) = k by omega]; exact Int.le_refl _
  | succ m ih =>
    intro k h
    have z := ih h
    rw [show k + ((m + 1 : Nat) : Int) = k + (m : Int) + 1 by omega, kI_s _ (by omega)]
    have r := bI_r (c := q (k + m))
    omega
theorem kI_le {q : Int → Prop} [DecidablePred q] {k n : Int} (h : 0 ≤ k) (h2 : k ≤ n) : kI q k ≤ kI q n := by
  have z := kI_mo (q := q) (n - k).toNat h
  rw [show k + ((n - k).toNat : Int) = n by omega] at z
  exact z
