/-! both fresh -/
def fmn : ms_RM := ([], [], [], [], zi 6, zi 6, zi 6, zi 6)
def fgr : ms_RR := ([], 0, 0, 0, 0, 0, zi 6)
def fS : cS := (([nm 1, nm 1, nm 1, nm 1, nm 1, nm 1], [zi 40, zi 40, zi 40, zi 40, zi 40, zi 40]), ([nm 1, nm 1, nm 1, nm 1], [zi 60, zi 60, zi 60, zi 60]), fmn, fgr, 0, fmn, fgr, fgr, fgr, ([], zi 40), (false, [], zi 40), (false, [], zi 40), (false, [], zi 40), zi 6, nI 0, nI 0, 0, 1)
def fM : mS := ([nm 1, nm 1, nm 1, nm 1, nm 1, nm 1], zi 240, [nm 1, nm 1, nm 1, nm 1], zi 240, 0, zu 6, zu 6, zu 6, zu 10, zu 10, 0, zu 400, zu 1233, zu 3, nI 0, 0, 1, nI 0, zi 6, 0, 0, 0, zu 24, zu 3, zu 3, zu 13)
theorem zi_len (n : Nat) : (zi n).length = n := List.length_replicate
theorem zu_len (n : Nat) : (zu n).length = n := List.length_replicate
theorem zc_gz (n : Nat) : zc n = gv [] (zi n) := zc_gv n
theorem f_szw {S : List Int32} {most : Nat} (h : ∀ i, i < S.length → ig S i = nm 1) : szw S most := fun i hi => Or.inl (h i hi)
theorem f_nm {n : Nat} (h : n ≤ 100) (k : Nat) (hk : k < 6) : ig [nm 1, nm 1, nm 1, nm 1, nm 1, nm 1] k = nm 1 := by
  match k, hk with
  | 0, _ => rfl
  | 1, _ => rfl
  | 2, _ => rfl
  | 3, _ => rfl
  | 4, _ => rfl
  | 5, _ => rfl
theorem f_nm4 (k : Nat) (hk : k < 4) : ig [nm 1, nm 1, nm 1, nm 1] k = nm 1 := by
  match k, hk with
  | 0, _ => rfl
  | 1, _ => rfl
  | 2, _ => rfl
  | 3, _ => rfl
theorem f_r6 : rRow 6 40 fS.rw fM.RS fM.RW := by
  refine ⟨⟨rfl, rfl, fun i hi => ?_, f_szw fun i hi => f_nm (n := 0) (by decide) i hi⟩, rfl, zi_len 240, fun k hk n hn h => ?_⟩
  · match i, hi with
    | 0, _ => rfl
    | 1, _ => rfl
    | 2, _ => rfl
    | 3, _ => rfl
    | 4, _ => rfl
    | 5, _ => rfl
  · have h2 : nm 1 = nI n := (f_nm (n := 0) (by decide) k hk).symm.trans h
    exact absurd h2.symm (by rw [nm_ne (by omega) (by omega) (by omega)]; exact fun g => g)
theorem f_r4 : rRow 4 60 fS.tx fM.TS fM.TX := by
  refine ⟨⟨rfl, rfl, fun i hi => ?_, f_szw fun i hi => f_nm4 i hi⟩, rfl, zi_len 240, fun k hk n hn h => ?_⟩
  · match i, hi with
    | 0, _ => rfl
    | 1, _ => rfl
    | 2, _ => rfl
    | 3, _ => rfl
  · have h2 : nm 1 = nI n := (f_nm4 k hk).symm.trans h
    exact absurd h2.symm (by rw [nm_ne (by omega) (by omega) (by omega)]; exact fun g => g)
theorem f_gok : gok 0 fgr := ⟨⟨rfl, fun j h => absurd h (by omega), by decide, by decide⟩, fun e h => absurd h (by show ¬ (0 : Nat).testBit e = true; rw [Nat.zero_testBit]; exact Bool.false_ne_true), by show 0 + (zi 6).length = 6; rw [zi_len]⟩
theorem f_kep (k : Nat) (KP : List Nat) (hk : k < 3) : rKep 0 fmn (gof fgr) k (false, [], zi 40) KP (zu 3) := by
  refine ⟨by show 0 + (zi 40).length = 40; rw [zi_len], ?_, fun h => absurd h Bool.false_ne_true⟩
  match k, hk with
  | 0, _ => rfl
  | 1, _ => rfl
  | 2, _ => rfl
theorem f_rel : Rel fS fM := by
  refine rel_mk f_r6 f_r4 ⟨rfl, rfl, zi_len 6⟩ rfl ⟨rfl, rfl⟩ ?_ ⟨f_gok, rfl, rfl⟩ ⟨f_gok, rfl⟩ ⟨rfl, rfl, rfl, rfl, rfl⟩ ?_ ⟨zu_len 1233, zu_len 3, f_kep 0 _ (by decide), f_kep 1 _ (by decide), f_kep 2 _ (by decide)⟩ ⟨⟨?_, ?_, ?_, ?_, ?_⟩, rfl, rfl⟩ ⟨?_, zu_len 10⟩ ⟨zu_len 24, zu_len 3, zu_len 3, zu_len 13⟩
  · refine ⟨⟨by decide, rfl, rfl, rfl, rfl, ?_, ?_, ?_, ?_⟩, ⟨zu_len 6, zu_len 6, zu_len 6, by decide, ?_, ?_, ?_⟩, ?_, List.Pairwise.nil, fun e => ⟨fun h => absurd h List.not_mem_nil, fun h => absurd h (Nat.not_lt_zero e)⟩, ?_, ?_, ?_, ?_⟩
    all_goals first | exact fun j h => absurd h (Nat.not_lt_zero j) | (show 0 + (zi 6).length = 6; rw [zi_len])
  · exact ⟨rfl, ⟨by decide, fun d h => absurd h List.not_mem_nil⟩, by show 0 + (zi 40).length = 40; rw [zi_len], zu_len 400, fun k h => absurd h (Nat.not_lt_zero k)⟩
  all_goals (show 0 + (zi 6).length = 6; rw [zi_len])
abbrev lyC (xs : List Value) (s : cS) (τ : ax_H) : ax_H := (lay xs s.rw s.tx s.rm s.rr s.nx s.mn s.ru s.nw s.ra s.dd s.k0 s.k1 s.k2 s.fc s.lf s.td s.tu s.tl τ)
abbrev lyR (P : ax_P) (m : mS) : ax_H := (mdl P m.RS m.RW m.TS m.TX m.mc m.K m.PC m.CU m.NW m.AS m.dp m.BF m.KP m.KT m.ak m.up m.lw m.fi m.FS m.he m.rch m.rmn m.RM m.RO m.BE m.WO)
def fLt : List Value := [.int 109, .int 111, .int 108, .int 100, .int 97, .int 121]
theorem c_C_fresh {xs : List Value} : ax_ev mi_C_init [.ref 2] [(20, xs), (20, fLt), (5, [.null, .null, .null, .null, .null, .null, .null, .null, .null, .null, .int (nI 0), .int (nI 0), .long 0, .long 0])] none (lyC xs fS []) := by
  have h := c_C_init (c0 := (20, xs)) (c1 := (20, fLt))
  have e : iv (List.replicate 6 (nm 1)) = iv [nm 1, nm 1, nm 1, nm 1, nm 1, nm 1] := rfl
  have e2 : iv (List.replicate 4 (nm 1)) = iv [nm 1, nm 1, nm 1, nm 1] := rfl
  exact h
