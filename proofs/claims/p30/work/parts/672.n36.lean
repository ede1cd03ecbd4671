/-! FROM THE LAW'S ENTRY. Written by wip/p30/n36.py -/
set_option maxHeartbeats 4000000 in
theorem whole_start {p : Program} {e : Env} {s : State} {m : MethodId} {below : List Frame} {meth : Method} {c : Code} (l : Launch) (hflags : l.flags = flags0) {b L : Nat} {xs : Nat → Int32} (hL : L ≤ 260) (C0 : lw_At p s m meth c b L xs) : W p l e room_1 s m #[Value.ref b] below meth c s.heap [] 0 0 (lw_Z below #[Value.ref b] s) (entryFrame m ([Value.ref b] : List Value).toArray 4) := by
  obtain ⟨hx, hb, hr, hml, hown, hts0, hX, hbl, hlocks, hgv⟩ := id C0
  have hn : ∀ w ∈ nF, w.before #[Value.ref b] s = true := flat_of_before _ hgv
  have hg : ∀ w ∈ gW, w.before #[Value.ref b] s = true := gW_tbl hts0
  have hA0 : ∀ a : Nat, a < s.heap.size → ¬ AL s a := fun a h => Nat.not_le.mpr h
  obtain ⟨z, hZ⟩ := sn_z (A := AL s) hn hts0 hA0
  obtain ⟨D, cI, cB, cZ, cS, cJ, hK⟩ := sn_K hg (hts0 (.arrayOver (.object "PageFeeder$State")) (by decide +kernel))
  have hst : l.stackTraces = false := by
    unfold Launch.stackTraces
    rw [hflags]
    decide
  obtain ⟨scr, x1, x2, x3, x4, x5⟩ := hX
  have hT : va_T .int b L (fun j => .int (xs j)) (AL s) s s.heap := ⟨scr, x1, x2, x3, by rw [x4]; exact Nat.le_refl _, by rw [x4], x5, hA0 b hbl⟩
  have hl := lv_entry ([.ref b]) (n := 4) (Nat.le_of_ble_eq_true rfl)
  rw [lg_entry_eq]
  generalize (lg_sl ([.ref b]) ++ List.replicate (4 - (lg_sl ([.ref b])).length) Slot.unset).toArray = ls at hl ⊢
  have hl : lv_has ls 4 [(0, .ref b)] := hl
  refine law_all hx hb hml hown hg hK rfl (⟨hZ, hT⟩ : ZL z b L xs (AL s) s s.heap) hst hL hl (fun ws1 H1 locs1 ls1 c1 s1 h1 h2 hw => ?_)
  refine va_forget (fun q hq => hw.2.2.2.2 q hq) ?_
  refine W_wide (k := 600086) (n := 7301442) h1 h2 ?_
  rw [show iI 1 = (1 : Int32) by decide]
  exact lw_ret hx hb hr hlocks dL_law_157
