theorem mk_X0_init (h0 : Nat) : ∃ a : Nat → Nat, h0 = a 0 := ⟨fun k => match k with | 0 => h0 | _ => 0, rfl⟩
