-- the law from its entry
set_option maxHeartbeats 4000000 in
theorem whole_start {p : Program} {e : Env} {s : State} {m : MethodId} {below : List Frame} {meth : Method} {c : Code} (l : Launch) (hflags : l.flags = flags0) {b L : Nat} {xs : Nat → Int32} (hL : L ≤ 260) (C0 : lw_At p s m meth c b L xs) : W p l e room_1 s m #[Value.ref b] below meth c s.heap [] 0 0 (lw_Z below #[Value.ref b] s) (entryFrame m ([Value.ref b] : List Value).toArray 7) := by
  obtain ⟨hx, hb, hr, hml, hown, hts, hX, hbl, hlocks, hgv⟩ := C0
  obtain ⟨Z, hZ, hao⟩ := kx_of (s := s.setDrawn s.drawn) (dr_words hts s.drawn)
  refine W.base ?_
  have hl := lv_entry ([.ref b]) (n := 7) (Nat.le_of_ble_eq_true rfl)
  rw [lg_entry_eq]
  have hd0 := Drawn.sameBut.refl s.drawn lw_cs
  have hscr : scrX (p, l, e, s.setDrawn s.drawn, m, #[Value.ref b], below, meth, c, lw_Z below #[Value.ref b] s, fun q => s.heap.size ≤ q, s.heap) b L xs := ⟨hX, hbl, Nat.not_le.mpr hbl⟩
  have hnew : newX (p, l, e, s.setDrawn s.drawn, m, #[Value.ref b], below, meth, c, lw_Z below #[Value.ref b] s, fun q => s.heap.size ≤ q, s.heap) := ⟨fun q h => h, hao⟩
  have hdom : va_D (fun q => s.heap.size ≤ q) ([] : va_W) := ⟨fun i j p q h => by simp at h, fun k q h => by simp at h⟩
  refine beg (Z := Z) hnew (fun A A2 => lop ⟨by decide, by decide⟩ hscr hL (fun D D2 lv => ?_) 24 0 (by decide)) ⟨hx, hb, fun w hw => dr_words hts s.drawn w (List.mem_filter.mp hw).1, hown, hZ, hml⟩ s.heap [] _ (fun k q h => by simp at h) hdom va_S.rf hl
  refine r_wid (k := 600000) (n := 7302250) (by decide) (by decide) ?_
  intro hok H locs ls hP hD hS hl2
  refine va_forget (fun q hq => hS.2.2 q hq) ?_
  exact lw_ret hd0 hx hb hr hlocks dL_law_157
