/-! DEEDS, side by side -/
theorem eqg_mof {mc : Nat} {g g' : ms_G} (h : eqg g g') : mof mc g = mof mc g' := by
  obtain ⟨a, b, c, d, e⟩ := h
  unfold mof
  rw [a, b, c, d, e]
theorem eqg_ug {ks pcs od : List Nat} {d : Nat} {g g' : ms_G} (h : eqg g g') : eqg (ms_ug ks pcs od d g) (ms_ug ks pcs od d g') := by
  obtain ⟨ps, i, c, t, b, s⟩ := g
  obtain ⟨ps', i', c', t', b', s'⟩ := g'
  obtain ⟨h1, h2, h3, h4, h5⟩ := h
  dsimp only at h1 h2 h3 h4 h5
  subst h1; subst h2; subst h3; subst h4; subst h5
  unfold ms_ug
  dsimp only
  split
  · exact ⟨rfl, rfl, rfl, rfl, rfl⟩
  · split
    · exact ⟨rfl, rfl, rfl, rfl, rfl⟩
    · split
      · exact ⟨rfl, rfl, rfl, rfl, rfl⟩
      · exact ⟨rfl, rfl, rfl, rfl, rfl⟩
theorem ms_seat_in {k pc c i e : Nat} {s : List Nat × Nat × Nat} (h : (ms_seat k pc c i s).2.1.testBit e = true) : s.2.1.testBit e = true := by
  unfold ms_seat at h
  split at h
  · exact h
  · unfold nd at h
    rw [Nat.testBit_and] at h
    simp at h
    exact h.1
theorem ms_ht_in {ks pcs : List Nat} {c e : Nat} : ∀ {L : List Nat} {s : List Nat × Nat × Nat}, (ms_ht ks pcs c L s).2.1.testBit e = true → s.2.1.testBit e = true
  | [], _, h => h
  | i :: L, s, h => by
    unfold ms_ht at h
    split at h
    · exact ms_seat_in (ms_ht_in h)
    · exact ms_ht_in h
theorem ms_ug_in {ks pcs od : List Nat} {d e : Nat} {g : ms_G} (h : (ms_ug ks pcs od d g).2.1.testBit e = true) : g.2.1.testBit e = true := by
  obtain ⟨ps, i, c, t, b, s⟩ := g
  unfold ms_ug at h
  dsimp only at h
  split at h
  · exact h
  · split at h
    · exact ms_ht_in (s := (ps, i, 0)) h
    · split at h
      · exact h
      · exact h
theorem ms_play_eq {K PC ks pcs ps : List Nat} {i c n : Nat} (h : ∀ j, j < ps.length → K.getD j 0 = ks.getD j 0 ∧ PC.getD j 0 = pcs.getD j 0) : ms_play K PC ps i c n = ms_play ks pcs ps i c n := by
  refine lx (by rw [ms_play_len, ms_play_len]) fun j hj => ?_
  rw [ms_play_len] at hj
  unfold ms_play
  rw [gr hj, gr hj]
  unfold ms_p
  rw [(h j hj).1, (h j hj).2]
theorem ms_ht_eq {K PC ks pcs : List Nat} {c : Nat} : ∀ {L : List Nat} {s : List Nat × Nat × Nat}, (∀ j, j ∈ L → K.getD j 0 = ks.getD j 0 ∧ PC.getD j 0 = pcs.getD j 0) → ms_ht K PC c L s = ms_ht ks pcs c L s
  | [], _, _ => rfl
  | i :: L, s, h => by
    have hi := h i List.mem_cons_self
    unfold ms_ht
    rw [hi.1, hi.2]
    exact ms_ht_eq (fun j hj => h j (List.mem_cons_of_mem _ hj))
theorem mof_len {mc : Nat} {g : ms_G} (h : gwf mc g) (hm : mc ≤ 6) : (mof mc g).length = 10 := by
  unfold mof
  rw [mT_len, h.1, List.length_replicate]
  omega
theorem rel_mc {s : cS} {m : mS} (h : Rel s m) : s.mn.1.length = m.mc := h.mis.1.2.1
theorem rel_act {s : cS} {m : mS} {d : Nat} {ds : List Nat} {x : Int32} {dr : List Int32} (h : Rel s m) (hdd : s.dd = (ds, x :: dr)) (hlt : ds.length < 40) (hd : d < 10 ∨ d - 10 < m.mc) :
    Rel (s.rw, s.tx, s.rm, s.rr, s.nx, s.mn, s.ru, cset s.nw (ms_ug s.mn.1 s.mn.2.1 s.mn.2.2.2.1 d (cgof s.nw)), s.ra, (ds ++ [d], dr), s.k0, s.k1, s.k2, s.fc, s.lf, s.td, s.tu, s.tl) (m.RS, m.RW, m.TS, m.TX, m.mc, m.K, m.PC, m.CU, mof m.mc (ms_ug s.mn.1 s.mn.2.1 s.mn.2.2.2.1 d (cgof s.nw)), m.AS, m.dp + 1, cpn m.BF (10 * m.dp) m.NW 0 10, m.KP, m.KT, m.ak, m.up, m.lw, m.fi, m.FS, m.he, m.rch, m.rmn, m.RM, m.RO, m.BE, m.WO) := by
  obtain ⟨g1, g2⟩ := h.gnw
  have hn := h.now
  obtain ⟨d1, d2, d3, d4, d5⟩ := h.ded
  rw [hdd] at hn d1 d2 d3 d5
  dsimp only at hn d1 d2 d3 d5
  have e1 : gof (cset s.nw (ms_ug s.mn.1 s.mn.2.1 s.mn.2.2.2.1 d (cgof s.nw))) = ms_ug s.mn.1 s.mn.2.1 s.mn.2.2.2.1 d (cgof s.nw) := rfl
  have e2 : gaf s.mn (gof s.ru) (ds ++ [d]) = ms_ug s.mn.1 s.mn.2.1 s.mn.2.2.2.1 d (gaf s.mn (gof s.ru) ds) := by unfold gaf; rw [List.foldl_append]; rfl
  have hm6 : m.mc ≤ 6 := h.mis.1.1
  refine (rel_mk (h.rws) (h.txs) (h.fnd) (h.tld) (h.frc) (h.mis) (h.gst) (⟨⟨?_, ?_, ?_⟩, ?_⟩) (?_) (⟨?_, ⟨?_, ?_⟩, ?_, ?_, ?_⟩) (h.kps) (h.rdr) (h.asd) (h.aux))
  · rw [e1]; exact ms_ug_wf g1.1
  · intro e he; exact g1.2.1 e (ms_ug_in he)
  · exact g1.2.2
  · rfl
  · rw [e1, e2]; exact eqg_ug hn
  · show m.dp + 1 = (ds ++ [d]).length; rw [List.length_append, d1]; rfl
  · show (ds ++ [d]).length ≤ 40; rw [List.length_append, List.length_singleton]; omega
  · intro y hy
    rcases List.mem_append.mp hy with hy | hy
    · exact d2.2 y hy
    · rw [List.mem_singleton.mp hy]; exact hd
  · show (ds ++ [d]).length + dr.length = 40; rw [List.length_append, List.length_singleton]; rw [List.length_cons] at d3; omega
  · show (cpn _ _ _ _ _).length = 400; rw [cpn_len]; exact d4
  · intro k hk j hj
    have hk' : k < ds.length + 1 := by have : k < (ds ++ [d]).length := hk; rw [List.length_append, List.length_singleton] at this; exact this
    show (cpn m.BF (10 * m.dp) m.NW 0 10).getD (0 + 10 * k + j) 0 = (mof m.mc (gaf s.mn (gof s.ru) ((ds ++ [d]).take k))).getD j 0
    rw [cpn_at (by rw [d1, d4]; omega), d1]
    by_cases e : k = ds.length
    · subst e
      rw [if_pos (by omega), List.take_left, ← eqg_mof hn, ← g2]
      congr 1
      omega
    · rw [if_neg (by omega), List.take_append_of_le_length (by omega)]
      exact d5 k (by omega) j hj
