/-! the object, fresh -/
def zi (n : Nat) : List Int32 := List.replicate n 0
theorem zi_len (n : Nat) : (zi n).length = n := List.length_replicate
def fmn : ms_RM := ([], [], [], [], zi 6, zi 6, zi 6, zi 6)
def fgr : ms_RR := ([], 0, 0, 0, 0, 0, zi 6)
def fS : cS := (([nm 1, nm 1, nm 1, nm 1, nm 1, nm 1], [zi 40, zi 40, zi 40, zi 40, zi 40, zi 40]), ([nm 1, nm 1, nm 1, nm 1], [zi 60, zi 60, zi 60, zi 60]), fmn, fgr, 0, fmn, fgr, fgr, fgr, ([], zi 40), (false, [], zi 40), (false, [], zi 40), (false, [], zi 40), zi 6, nI 0, nI 0, 0, 1)
theorem f_szw {S : List Int32} {most : Nat} (h : ∀ i, i < S.length → ig S i = nm 1) : szw S most := fun i hi => Or.inl (h i hi)
theorem f_nm (k : Nat) (hk : k < 6) : ig [nm 1, nm 1, nm 1, nm 1, nm 1, nm 1] k = nm 1 := by
  match k, hk with
  | 0, _ => rfl
  | 1, _ => rfl
  | 2, _ => rfl
  | 3, _ => rfl
  | 4, _ => rfl
  | 5, _ => rfl
theorem f_nm4 (k : Nat) (hk : k < 4) : ig [nm 1, nm 1, nm 1, nm 1] k = nm 1 := by
  match k, hk with
  | 0, _ => rfl
  | 1, _ => rfl
  | 2, _ => rfl
  | 3, _ => rfl
theorem f_r6 : rRow 6 40 fS.rw := by
  refine ⟨⟨rfl, rfl, fun i hi => ?_, f_szw fun i hi => f_nm i hi⟩, trivial⟩
  match i, hi with
  | 0, _ => exact zi_len 40
  | 1, _ => exact zi_len 40
  | 2, _ => exact zi_len 40
  | 3, _ => exact zi_len 40
  | 4, _ => exact zi_len 40
  | 5, _ => exact zi_len 40
theorem f_r4 : rRow 4 60 fS.tx := by
  refine ⟨⟨rfl, rfl, fun i hi => ?_, f_szw fun i hi => f_nm4 i hi⟩, trivial⟩
  match i, hi with
  | 0, _ => exact zi_len 60
  | 1, _ => exact zi_len 60
  | 2, _ => exact zi_len 60
  | 3, _ => exact zi_len 60
theorem f_gok : gok 0 fgr := ⟨⟨rfl, fun j h => absurd h (by omega), by decide, by decide⟩, fun e h => absurd h (by show ¬ (0 : Nat).testBit e = true; rw [Nat.zero_testBit]; exact Bool.false_ne_true), by show 0 + (zi 6).length = 6; rw [zi_len]⟩
theorem f_kok : kok 0 (false, [], zi 40) := ⟨by show 0 + (zi 40).length = 40; rw [zi_len], trivial, fun h => absurd h Bool.false_ne_true⟩
theorem f_rel : Rel fS 0 := by
  refine rel_mk f_r6 f_r4 ⟨trivial, trivial, zi_len 6⟩ trivial trivial ?_ ⟨f_gok, rfl, rfl⟩ ⟨f_gok, trivial⟩ ⟨rfl, rfl, rfl, rfl, rfl⟩ ?_ ⟨trivial, trivial, f_kok, f_kok, f_kok⟩ ⟨⟨?_, ?_, ?_, ?_, ?_⟩, rfl, rfl⟩ ⟨?_, trivial⟩ trivial
  · refine ⟨⟨by decide, rfl, rfl, rfl, rfl, ?_, ?_, ?_, ?_⟩, trivial, trivial, List.nodup_nil, fun e => ⟨fun h => absurd h List.not_mem_nil, fun h => absurd h (Nat.not_lt_zero e)⟩, ?_, ?_, ?_, ?_⟩
    all_goals first | exact fun j h => absurd h (Nat.not_lt_zero j) | (show 0 + (zi 6).length = 6; rw [zi_len])
  · exact ⟨trivial, ⟨by decide, fun d h => absurd h List.not_mem_nil⟩, by show 0 + (zi 40).length = 40; rw [zi_len], trivial⟩
  all_goals (show 0 + (zi 6).length = 6; rw [zi_len])
def fLt : List Value := [.int 109, .int 111, .int 108, .int 100, .int 97, .int 121]
theorem c_C_fresh {xs : List Value} : ax_ev mi_C_init [.ref 2] [(20, xs), (20, fLt), (5, [.null, .null, .null, .null, .null, .null, .null, .null, .null, .null, .int (nI 0), .int (nI 0), .long 0, .long 0])] none (hp xs fS []) := by
  have h := c_C_init (c0 := (20, xs)) (c1 := (20, fLt))
  have e : iv (List.replicate 6 (nm 1)) = iv [nm 1, nm 1, nm 1, nm 1, nm 1, nm 1] := rfl
  have e2 : iv (List.replicate 4 (nm 1)) = iv [nm 1, nm 1, nm 1, nm 1] := rfl
  exact h
