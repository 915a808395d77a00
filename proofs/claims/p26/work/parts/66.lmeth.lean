abbrev YL_acts : zY := (RL, cL_acts, 8, (some (.int)), 7)
set_option maxRecDepth 100000 in
theorem mL_acts : zMS yL_acts YL_acts 2 := ⟨⟨zin (i := 22) (by decide +kernel) rfl, zin (i := 416) rfl rfl, ⟨by decide +kernel, by decide +kernel, by decide +kernel⟩, by decide⟩, zin (i := 415) (by decide +kernel) rfl⟩
abbrev YL_cell : zY := (RL, cL_cell, 2, (some (.int)), 0)
set_option maxRecDepth 100000 in
theorem mL_cell : zMS yL_cell YL_cell 2 := ⟨⟨zin (i := 22) (by decide +kernel) rfl, zin (i := 411) (by decide +kernel) rfl, ⟨by decide +kernel, by decide +kernel, by decide +kernel⟩, by decide⟩, zin (i := 410) (by decide +kernel) rfl⟩
abbrev YL_hangs : zY := (RL, cL_hangs, 21, (some (.boolean)), 7)
set_option maxRecDepth 100000 in
theorem mL_hangs : zMS yL_hangs YL_hangs 1 := ⟨⟨zin (i := 22) (by decide +kernel) rfl, zin (i := 467) rfl rfl, ⟨by decide +kernel, by decide +kernel, by decide +kernel⟩, by decide⟩, zin (i := 466) (by decide +kernel) rfl⟩
abbrev YL_refuses : zY := (RL, cL_refuses, 7, (some (.boolean)), 7)
set_option maxRecDepth 100000 in
theorem mL_refuses : zMS yL_refuses YL_refuses 2 := ⟨⟨zin (i := 22) (by decide +kernel) rfl, zin (i := 556) rfl rfl, ⟨by decide +kernel, by decide +kernel, by decide +kernel⟩, by decide⟩, zin (i := 555) (by decide +kernel) rfl⟩
abbrev YL_same : zY := (RL, cL_same, 5, (some (.boolean)), 3)
set_option maxRecDepth 100000 in
theorem mL_same : zMS yL_same YL_same 2 := ⟨⟨zin (i := 22) (by decide +kernel) rfl, zin (i := 553) rfl rfl, ⟨by decide +kernel, by decide +kernel, by decide +kernel⟩, by decide⟩, zin (i := 552) (by decide +kernel) rfl⟩
