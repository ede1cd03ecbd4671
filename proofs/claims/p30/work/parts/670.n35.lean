/-! THE START: what nobody writes, out of the tables and the Statement's own words; the classes, the rows. Written by wip/p30/n35.py -/
abbrev nF : List Cond := flatC (Jvm.Cond.and given_1 narrow_1)
def pkO (i : Nat) : String := if i < 7 then RX2 else RL
def pkL (i : Nat) : Nat := ([54, 82, 91, 93, 98, 103, 135, 21, 30, 35, 37, 39, 41, 43, 45, 47] : List Nat).getD i 0
def pkF (i : Nat) : Nat := ([77, 128, 140, 173, 184, 257, 262, 270, 279, 288] : List Nat).getD i 0
theorem sn_ex : ∀ q ∈ litR, Cond.exactly (.string q.1 q.2.1) "java/lang/String" ∈ nF := by decide +kernel
theorem sn_sr : ∀ q ∈ litR, Cond.stringRef q.1 q.2.1 q.2.2.1 ∈ lw_tbl := by decide +kernel
def pkB (i : Nat) : Nat := ([370, 380, 398, 406, 415, 425, 389, 269, 280, 285, 290, 299, 309, 315, 326, 337] : List Nat).getD i 0
theorem mem_sl {l : List Cond} {b n j : Nat} {f : Nat → Cond} (h : (l.drop b).take n = (List.range n).map f) (hj : j < n) : f j ∈ l := List.mem_of_mem_drop (List.mem_of_mem_take (i := n) (h ▸ List.mem_map.mpr ⟨j, List.mem_range.mpr hj, rfl⟩))
theorem mem_4 {l : List Cond} {b : Nat} {w1 w2 w3 w4 : Cond} (h : (l.drop b).take 4 = [w1, w2, w3, w4]) : w1 ∈ l ∧ w2 ∈ l ∧ w3 ∈ l ∧ w4 ∈ l := by
  have k : ∀ w ∈ ([w1, w2, w3, w4] : List Cond), w ∈ l := fun w hw => List.mem_of_mem_drop (List.mem_of_mem_take (i := 4) (h ▸ hw))
  exact ⟨k _ (by simp), k _ (by simp), k _ (by simp), k _ (by simp)⟩
theorem sn_s3 : ∀ i : Nat, i < 16 → (nF.drop (pkB i)).take 4 = [Cond.exactly (.string (pkO i) (pkL i)) "java/lang/String", Cond.eq (.field (.string (pkO i) (pkL i)) "java/lang/String" "coder" "B") (.int 0), Cond.arrayOf (.field (.string (pkO i) (pkL i)) "java/lang/String" "value" "[B") .byte, Cond.eq (.length (.field (.string (pkO i) (pkL i)) "java/lang/String" "value" "[B")) (.int (Int32.ofNat (txL i).length))] := by decide +kernel
theorem sn_s1 : ∀ i : Nat, i < 16 → Cond.exactly (.string (pkO i) (pkL i)) "java/lang/String" ∈ nF ∧ Cond.eq (.field (.string (pkO i) (pkL i)) "java/lang/String" "coder" "B") (.int 0) ∈ nF ∧ Cond.arrayOf (.field (.string (pkO i) (pkL i)) "java/lang/String" "value" "[B") .byte ∈ nF ∧ Cond.eq (.length (.field (.string (pkO i) (pkL i)) "java/lang/String" "value" "[B")) (.int (Int32.ofNat (txL i).length)) ∈ nF := fun i hi => mem_4 (sn_s3 i hi)
theorem sn_s4 : ∀ i : Nat, i < 16 → (nF.drop (pkB i + 4)).take (txL i).length = (List.range (txL i).length).map (fun j => Cond.eq (.elem (.field (.string (pkO i) (pkL i)) "java/lang/String" "value" "[B") (.int (Int32.ofNat j))) (.int (((txL i).map iI).getD j 0))) := by decide +kernel
theorem sn_s2 : ∀ i : Nat, i < 16 → ∀ j : Nat, j < (txL i).length → Cond.eq (.elem (.field (.string (pkO i) (pkL i)) "java/lang/String" "value" "[B") (.int (Int32.ofNat j))) (.int (((txL i).map iI).getD j 0)) ∈ nF := fun i hi j hj => mem_sl (sn_s4 i hi) hj
theorem sn_xW : ∀ w ∈ xW, w ∈ lw_tbl := fun w h => of_decide_eq_true (List.all_eq_true.mp (show xW.all (fun w => decide (w ∈ lw_tbl)) = true by decide +kernel) w h)
theorem sn_no : ∀ w ∈ nestW, w.onTables = true := by decide
def adr (args : Array Value) (s : State) (own : String) (k : Nat) : Nat := match (Term.string own k).eval args s none [] s with
  | some (.ref a) => a
  | _ => 0
theorem adr_of {args : Array Value} {s : State} {own : String} {k : Nat} (h : (Cond.exactly (.string own k) "java/lang/String").before args s = true) : (Term.string own k).eval args s none [] s = some (.ref (adr args s own k)) := by
  obtain ⟨a, c, cA, kA, q1, -⟩ := Cond.exactly_spec (args := args) (first := s) (o := none) (s := s) (idx := []) (t := .string own k) (cls := "java/lang/String") h
  unfold adr
  rw [q1]
def zF (t0 t1 t2 t3 t4 : Nat) (av : Nat → Nat) (ad : String → Nat → Nat) (k : Nat) : Nat := if k = 0 then t0 else if k = 1 then t1 else if k = 2 then t2 else if k = 3 then t3 else if k = 4 then t4 else if k < 26 then ad (pkO (k - 10)) (pkL (k - 10)) else if k < 46 then av (k - 30) else ad RX6 (pkF (k - 50))
theorem zF_s {t0 t1 t2 t3 t4 : Nat} {av : Nat → Nat} {ad : String → Nat → Nat} {i : Nat} (h : i < 16) : zF t0 t1 t2 t3 t4 av ad (10 + i) = ad (pkO i) (pkL i) ∧ zF t0 t1 t2 t3 t4 av ad (30 + i) = av i := by
  constructor
  · unfold zF
    rw [if_neg (by omega), if_neg (by omega), if_neg (by omega), if_neg (by omega), if_neg (by omega), if_pos (by omega), Nat.add_sub_cancel_left]
  · unfold zF
    rw [if_neg (by omega), if_neg (by omega), if_neg (by omega), if_neg (by omega), if_neg (by omega), if_neg (by omega), if_pos (by omega), Nat.add_sub_cancel_left]
theorem zF_l {t0 t1 t2 t3 t4 : Nat} {av : Nat → Nat} {ad : String → Nat → Nat} : ∀ q ∈ litR, zF t0 t1 t2 t3 t4 av ad q.2.2.2 = ad q.1 q.2.1 := List.forall_mem_cons.mpr ⟨rfl, List.forall_mem_cons.mpr ⟨rfl, List.forall_mem_cons.mpr ⟨rfl, List.forall_mem_cons.mpr ⟨rfl, List.forall_mem_cons.mpr ⟨rfl, List.forall_mem_cons.mpr ⟨rfl, List.forall_mem_cons.mpr ⟨rfl, List.forall_mem_cons.mpr ⟨rfl, List.forall_mem_cons.mpr ⟨rfl, List.forall_mem_cons.mpr ⟨rfl, List.forall_mem_cons.mpr ⟨rfl, List.forall_mem_cons.mpr ⟨rfl, List.forall_mem_cons.mpr ⟨rfl, List.forall_mem_cons.mpr ⟨rfl, List.forall_mem_cons.mpr ⟨rfl, List.forall_mem_cons.mpr ⟨rfl, List.forall_mem_cons.mpr ⟨rfl, List.forall_mem_cons.mpr ⟨rfl, List.forall_mem_cons.mpr ⟨rfl, List.forall_mem_cons.mpr ⟨rfl, List.forall_mem_cons.mpr ⟨rfl, List.forall_mem_cons.mpr ⟨rfl, List.forall_mem_cons.mpr ⟨rfl, List.forall_mem_cons.mpr ⟨rfl, List.forall_mem_cons.mpr ⟨rfl, List.forall_mem_cons.mpr ⟨rfl, fun _ h => absurd h List.not_mem_nil⟩⟩⟩⟩⟩⟩⟩⟩⟩⟩⟩⟩⟩⟩⟩⟩⟩⟩⟩⟩⟩⟩⟩⟩⟩⟩
theorem sn_cl : ∀ q ∈ vwCl, (∀ w ∈ u_ws q.1 q.2.1 q.2.2, w ∈ gW) ∧ Cond.instantiable q.1 q.2.2 ∈ gW := List.forall_mem_cons.mpr ⟨⟨ci_X0.1, ins_X0⟩, List.forall_mem_cons.mpr ⟨⟨ci_X1.1, ins_X1⟩, List.forall_mem_cons.mpr ⟨⟨ci_X2.1, ins_X2⟩, List.forall_mem_cons.mpr ⟨⟨ci_X3.1, ins_X3⟩, List.forall_mem_cons.mpr ⟨⟨ci_X4.1, ins_X4⟩, List.forall_mem_cons.mpr ⟨⟨ci_X5.1, ins_X5⟩, List.forall_mem_cons.mpr ⟨⟨ci_X6.1, ins_X6⟩, List.forall_mem_cons.mpr ⟨⟨ci_J4.1, ins_J4⟩, fun _ h => absurd h List.not_mem_nil⟩⟩⟩⟩⟩⟩⟩⟩
section STS
variable {args : Array Value} {s : State} {A : Nat → Prop}
theorem sn_arr {n : String} {f : Int → Int} (hn : ∀ w ∈ nF, w.before args s = true) (ht : ∀ w ∈ lw_tbl, w.before args s = true) (hA : ∀ a : Nat, a < s.heap.size → ¬ A a) (h1 : Cond.arrayOf (.static RX6 n "[I") .int ∈ nF) (h2 : Cond.eq (.length (.static RX6 n "[I")) (.int (Int32.ofNat 4)) ∈ nF) (h3 : ∀ j : Nat, j < 4 → Cond.eq (.elem (.static RX6 n "[I") (.int (Int32.ofNat j))) (.int (iI (f (j : Int)))) ∈ nF) (h4 : Cond.laysStatic RX6 n "[I" ∈ lw_tbl) (h5 : Cond.initialized RX6 ∈ lw_tbl) : ∃ t : Nat, va_Z RX6 n "[I" (.ref t) A s s.heap ∧ va_T .int t 4 (fun j => .int (iI (f (j : Int)))) A s s.heap := by
  obtain ⟨t, e, hT⟩ := va_Tof (N := 4) (f := fun j => .int (iI (f (j : Int)))) (A := A) (by decide) (hn _ h1) (va_eqt (hn _ h2)) (fun j hj => va_eqt (hn _ (h3 j hj))) hA
  exact ⟨t, va_Zof (ht _ h4) (ht _ h5) e hA, hT⟩
theorem sn_dig {n : String} {f : Int → Int} (hn : ∀ w ∈ nF, w.before args s = true) (ht : ∀ w ∈ lw_tbl, w.before args s = true) (hA : ∀ a : Nat, a < s.heap.size → ¬ A a) (h1 : Cond.arrayOf (.static RJ6 n "[B") .byte ∈ nF) (h2 : Cond.eq (.length (.static RJ6 n "[B")) (.int (Int32.ofNat 100)) ∈ nF) {B : Nat} (h3 : (nF.drop B).take 100 = (List.range 100).map (fun j => Cond.eq (.elem (.static RJ6 n "[B") (.int (Int32.ofNat j))) (.int (iI (f (j : Int)))))) (h4 : Cond.laysStatic RJ6 n "[B" ∈ lw_tbl) (h5 : Cond.initialized RJ6 ∈ lw_tbl) : ∃ t : Nat, va_Z RJ6 n "[B" (.ref t) A s s.heap ∧ va_T .byte t 100 (fun j => .int (iI (f (j : Int)))) A s s.heap := by
  obtain ⟨t, e, hT⟩ := va_Tof (N := 100) (f := fun j => .int (iI (f (j : Int)))) (A := A) (by decide) (hn _ h1) (va_eqt (hn _ h2)) (fun j hj => va_eqt (hn _ (mem_sl h3 hj))) hA
  exact ⟨t, va_Zof (ht _ h4) (ht _ h5) e hA, hT⟩
theorem sn_str (hn : ∀ w ∈ nF, w.before args s = true) (hA : ∀ a : Nat, a < s.heap.size → ¬ A a) {i : Nat} (hi : i < 16) : ∃ v : Nat, strO (adr args s (pkO i) (pkL i)) v (txL i) A s s.heap := by
  obtain ⟨w1, w2, w3, w4⟩ := sn_s1 i hi
  have w5 := sn_s2 i hi
  have hL := (zz_tx i hi).1
  have e0 : ∀ k : Nat, k < 1 → k = 0 := fun k h => by omega
  obtain ⟨adK, adV, hS, hev⟩ := vk_Sof (N := 1) (tm := fun _ => Term.string (pkO i) (pkL i)) (len := [(txL i).length]) (byt := [(txL i).map iI]) (A := A) (args := args) (s := s) (fun k hk => by rw [e0 k hk]; show (txL i).length < 2 ^ 31; omega) (fun k hk => hn _ w1) (fun k hk => hn _ w2) (fun k hk => hn _ w3) (fun k hk => by rw [e0 k hk]; exact hn _ w4) (fun k hk => by rw [e0 k hk]; exact fun j hj => hn _ (w5 j hj)) (fun k j hk hj hne => absurd ((e0 k hk).trans (e0 j hj).symm) hne) hA
  have e1 : adK 0 = adr args s (pkO i) (pkL i) := by
    have h := (hev 0 Nat.one_pos).symm.trans (adr_of (hn _ w1))
    injection h with h
    injection h
  refine ⟨adV 0, fun k hk => ?_, fun k j hk hj _ => (e0 k hk).trans (e0 j hj).symm⟩
  have h := hS.1 0 Nat.one_pos
  rw [e1] at h
  rw [e0 k hk]
  exact h
theorem sn_z (hn : ∀ w ∈ nF, w.before args s = true) (ht : ∀ w ∈ lw_tbl, w.before args s = true) (hA : ∀ a : Nat, a < s.heap.size → ¬ A a) : ∃ z : Nat → Nat, ZB z A s s.heap := by
  obtain ⟨t0, z0, y0⟩ := sn_arr (n := "LEAST") (f := loK) hn ht hA (by decide +kernel) (by decide +kernel) (by decide +kernel) (by decide +kernel) (by decide +kernel)
  obtain ⟨t1, z1, y1⟩ := sn_arr (n := "GREATEST") (f := hiK) hn ht hA (by decide +kernel) (by decide +kernel) (by decide +kernel) (by decide +kernel) (by decide +kernel)
  obtain ⟨t2, z2, y2⟩ := sn_arr (n := "USUAL") (f := usK) hn ht hA (by decide +kernel) (by decide +kernel) (by decide +kernel) (by decide +kernel) (by decide +kernel)
  obtain ⟨t3, z3, y3⟩ := sn_dig (n := "DigitOnes") (B := 21) (f := fun j => 48 + j % 10) hn ht hA (by decide +kernel) (by decide +kernel) (by decide +kernel) (by decide +kernel) (by decide +kernel)
  obtain ⟨t4, z4, y4⟩ := sn_dig (n := "DigitTens") (B := 124) (f := fun j => 48 + j / 10) hn ht hA (by decide +kernel) (by decide +kernel) (by decide +kernel) (by decide +kernel) (by decide +kernel)
  have hS : ∀ i : Nat, ∃ v : Nat, i < 16 → strO (adr args s (pkO i) (pkL i)) v (txL i) A s s.heap := fun i => by
    by_cases hi : i < 16
    · obtain ⟨v, h⟩ := sn_str hn hA hi
      exact ⟨v, fun _ => h⟩
    · exact ⟨0, fun h => absurd h hi⟩
  obtain ⟨av, hav⟩ := Classical.axiomOfChoice hS
  have c1 : va_Z "java/lang/String" "COMPACT_STRINGS" "Z" (.int 1) A s s.heap := va_Zof (ht (.laysStatic "java/lang/String" "COMPACT_STRINGS" "Z") (by decide +kernel)) (ht (.initialized "java/lang/String") (by decide +kernel)) (va_eqi (hn (.eq (.static "java/lang/String" "COMPACT_STRINGS" "Z") (.int 1)) (by decide +kernel))) hA
  have c2 : va_Zq "jdk/internal/util/Preconditions" "SIOOBE_FORMATTER" "Ljava/util/function/BiFunction;" A s s.heap := va_Zqof (ht (.laysStatic "jdk/internal/util/Preconditions" "SIOOBE_FORMATTER" "Ljava/util/function/BiFunction;") (by decide +kernel)) (ht (.initialized "jdk/internal/util/Preconditions") (by decide +kernel)) (hn (.isRef (.static "jdk/internal/util/Preconditions" "SIOOBE_FORMATTER" "Ljava/util/function/BiFunction;")) (by decide +kernel)) hA
  have c3 : vx_Zq Bundle.tN "UNASSIGNED_STACK" Bundle.steD A s s.heap := vx_Zqof (ht (.laysStatic Bundle.tN "UNASSIGNED_STACK" Bundle.steD) (by decide +kernel)) (ht (.initialized Bundle.tN) (by decide +kernel)) (hn (.isRef (.static Bundle.tN "UNASSIGNED_STACK" Bundle.steD)) (by decide +kernel)) hA
  have c4 : vx_Zq Bundle.tN "SUPPRESSED_SENTINEL" Bundle.listD A s s.heap := vx_Zqof (ht (.laysStatic Bundle.tN "SUPPRESSED_SENTINEL" Bundle.listD) (by decide +kernel)) (ht (.initialized Bundle.tN) (by decide +kernel)) (hn (.isRef (.static Bundle.tN "SUPPRESSED_SENTINEL" Bundle.listD)) (by decide +kernel)) hA
  have c5 : va_Nc EIS EIA s := va_Nc.of (hn (.not (.castable EIS EIA)) (by decide +kernel))
  have c6 : va_Nc EIS EIA s := va_Nc.of (hn (.not (.castable EIS EIA)) (by decide +kernel))
  have c7 : va_AO "PageFeeder$State" s := va_AO.of (A := args) (ht (.arrayOver (.object "PageFeeder$State")) (by decide +kernel))
  have c8 : ∀ w ∈ nestW, va_Nw w s := fun w hw => va_Nw.of (sn_no w hw) (ht w (nestW_tbl w hw))
  have c9 : ∀ w ∈ xW, va_Nw w s := fun w hw => va_Nw.of (xW_ot w hw) (ht w (sn_xW w hw))
  have d1 : ∀ q ∈ litR, vk_R q.1 q.2.1 q.2.2.1 (zF t0 t1 t2 t3 t4 av (adr args s) q.2.2.2) s := by
    intro q hq
    have w1 := ht _ (sn_sr q hq)
    have w2 : (Term.string q.1 q.2.1).eval args s none [] s = some (.ref (zF t0 t1 t2 t3 t4 av (adr args s) q.2.2.2)) := by
      rw [zF_l q hq]
      exact adr_of (hn _ (sn_ex q hq))
    have w3 := vk_R.of w1 w2
    exact w3
  have d2 : ∀ i : Nat, i < 16 → strO (zF t0 t1 t2 t3 t4 av (adr args s) (10 + i)) (zF t0 t1 t2 t3 t4 av (adr args s) (30 + i)) (txL i) A s s.heap := fun i hi => by
    rw [(zF_s hi).1, (zF_s hi).2]
    exact hav i hi
  exact ⟨zF t0 t1 t2 t3 t4 av (adr args s), ⟨⟨⟨⟨z0, z1, z2, y0, y1, y2⟩, ⟨c1, c2⟩, d2, d1, c8, c3, c4⟩, c9, c5, c6⟩, c7⟩, z3, z4, y3, y4⟩
theorem sn_ar {ty : FieldType} (h : (Cond.arrayClass ty).before args s = true) : ∃ (cA : ClassId) (kA : Class) (comp : ClassId), s.vm.findClass ("[" ++ ty.toString) = some cA ∧ s.vm.classes[cA]? = some kA ∧ kA.kind = .array comp ty := Cond.arrayClass_spec h
theorem sn_K (hg : ∀ w ∈ gW, w.before args s = true) (ho : (Cond.arrayOver (.object "PageFeeder$State")).before args s = true) : ∃ (D : va_G) (cI cB cZ cS cJ : ClassId), va_K D vwCl (tyG cI cB cZ cS cJ) s := by
  have h0 : ∀ c : Nat, ∃ r : ClassId × (Nat → Nat), ∀ q : vw_C, vwCl[c]? = some q → u_Kn s q.1 q.2.1 q.2.2 r.1 r.2 := by
    intro c
    cases e : vwCl[c]? with
    | none => exact ⟨(0, fun _ => 0), fun q h => by cases h⟩
    | some q =>
      obtain ⟨h1, h2⟩ := sn_cl q (List.mem_of_getElem? e)
      obtain ⟨cC, iS, h⟩ := u_known hg h1 (hg _ h2)
      exact ⟨(cC, iS), fun q2 h3 => by cases h3; exact h⟩
  obtain ⟨r, hr⟩ := Classical.axiomOfChoice h0
  obtain ⟨cI, kI, mI, i1, i2, i3⟩ := sn_ar (ty := .int) (hg _ ac_int)
  obtain ⟨cB, kB, mB, b1, b2, b3⟩ := sn_ar (ty := .byte) (hg _ ac_byte)
  obtain ⟨cZ, kZ, mZ, z1, z2, z3⟩ := sn_ar (ty := .boolean) (hg _ ac_boolean)
  obtain ⟨mS, cS, kS, s1, -, s2, s3, s4⟩ := Cond.arrayOver_spec ho
  refine ⟨(fun c => (r c).1, fun c => (r c).2), cI, cB, cZ, cS, cI, hr, fun k q hk => ?_⟩
  rcases List.mem_cons.mp (List.mem_of_getElem? hk) with e | h
  · rw [e]; exact ⟨fun n z => ⟨(fun k h => by cases h), kI, i2, mI, i3⟩, i1⟩
  rcases List.mem_cons.mp h with e | h
  · rw [e]; exact ⟨fun n z => ⟨(fun k h => by cases h), kB, b2, mB, b3⟩, b1⟩
  rcases List.mem_cons.mp h with e | h
  · rw [e]; exact ⟨fun n z => ⟨(fun k h => by cases h), kZ, z2, mZ, z3⟩, z1⟩
  rcases List.mem_cons.mp h with e | h
  · rw [e]; exact ⟨fun n z => ⟨(fun k h => by cases h), kS, s2, mS, s3⟩, kS, mS, s2, s3, s1, s4⟩
  exact absurd h List.not_mem_nil
end STS
