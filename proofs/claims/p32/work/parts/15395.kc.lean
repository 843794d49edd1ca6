abbrev kc_190 : Nat → Int32 := fun E => if E = 1 then Int32.ofInt 1 else if E = 0 then Int32.ofInt 2 else if E = 2 then Int32.ofInt 3 else 0
abbrev kc_191 : Nat → Int32 := fun E => if E = 1 then Int32.ofInt 1 else if E = 2 then Int32.ofInt 2 else 0
abbrev kc_192 : Nat → Int32 := fun E => if E = 1 then Int32.ofInt 1 else if E = 0 then Int32.ofInt 2 else 0
abbrev kc_193 : Nat → Int32 := fun E => if E = 1 then Int32.ofInt 1 else if E = 0 then Int32.ofInt 2 else if E = 2 then Int32.ofInt 3 else 0
abbrev kc_194 : Nat → Int32 := fun E => if E = 1 then Int32.ofInt 1 else if E = 0 then Int32.ofInt 2 else if E = 2 then Int32.ofInt 3 else 0
abbrev kc_195 : Nat → Int32 := fun E => if E = 1 then Int32.ofInt 1 else if E = 0 then Int32.ofInt 2 else 0
abbrev kc_196 : Nat → Int32 := fun E => if E = 0 then Int32.ofInt 1 else 0
abbrev kc_199 : Nat → Int32 := fun E => if E = 0 then Int32.ofInt 1 else if E = 2 then Int32.ofInt 2 else 0
