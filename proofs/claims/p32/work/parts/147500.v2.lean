/-! How many data columns there are, word for word. -/
section ZCD
variable {xs : List Int32} {g : zG} {lg : Nat} {h : zH} {D nc ns : Nat}
def zush (x y : Int32) : Int32 := (x.toUInt32 >>> (y.toUInt32 &&& Int32.toUInt32 31)).toInt32
/-- the JDK's bitCount -/
def zbca (x : Int32) : Int32 := x - (zush x (Int32.ofInt 1) &&& Int32.ofNat 1431655765)
def zbcb (a : Int32) : Int32 := (a &&& Int32.ofNat 858993459) + (zush a (Int32.ofInt 2) &&& Int32.ofNat 858993459)
def zbcc (b : Int32) : Int32 := (b + zush b (Int32.ofInt 4)) &&& Int32.ofNat 252645135
def zbcd (c : Int32) : Int32 := c + zush c (Int8.ofInt 8).toInt32
def zbce (d : Int32) : Int32 := d + zush d (Int8.ofInt 16).toInt32
def zbc (x : Int32) : Int32 := zbce (zbcd (zbcc (zbcb (zbca x)))) &&& (Int8.ofInt 63).toInt32
theorem t_229 {x : Int32} : zMs xs D 229 [.int x] h nc ns (fun o => o = (.inl (some (.int (zbc x))), h, nc, ns)) := by
  refine ⟨_, rfl, ?_⟩
  refine zEs_run 8 (L' := [some (.int (zbca x))]) rfl ?_
  refine zEs_run 10 (L' := [some (.int (zbcb (zbca x)))]) rfl ?_
  refine zEs_run 8 (L' := [some (.int (zbcc (zbcb (zbca x))))]) rfl ?_
  refine zEs_run 6 (L' := [some (.int (zbcd (zbcc (zbcb (zbca x)))))]) rfl ?_
  refine zEs_run 6 (L' := [some (.int (zbce (zbcd (zbcc (zbcb (zbca x))))))]) rfl ?_
  refine zEs_run 3 (st' := [.int (zbc x)]) rfl ?_
  exact zEs_end rfl rfl rfl
/-- how many bits of a number are 1 -/
def zwt : Nat → Nat → Nat
  | 0, _ => 0
  | f + 1, n => n % 2 + zwt f (n / 2)
theorem zbc_wt : ∀ n, n < 64 → (zbc (Int32.ofNat n)) = Int32.ofNat (zwt 6 n) := by
  have e : (List.range 64).all (fun n => decide (zbc (Int32.ofNat n) = Int32.ofNat (zwt 6 n))) = true := by decide +kernel
  exact fun n hn => of_decide_eq_true (List.all_eq_true.mp e n (List.mem_range.mpr hn))
end ZCD
section ZCE
variable {xs : List Int32} {g : zG} {lg : Nat} {h : zH} {D nc ns : Nat}
theorem zof1 (a : Nat) : Int32.ofNat a + Int32.ofInt 1 = Int32.ofNat (a + 1) := by
  rw [Int32.ofNat_add]
  rfl
theorem zofI {a : Nat} (h : a < 2147483648) : (Int32.ofNat a).toInt = (a : Int) := Int32.toInt_ofNat_of_lt h
end ZCE
section ZCF
variable {xs : List Int32} {g : zG} {lg : Nat} {h : zH} {D nc ns : Nat}
theorem zwt_0 : ∀ f, zwt f 0 = 0
  | 0 => rfl
  | f + 1 => by
    show 0 % 2 + zwt f (0 / 2) = 0
    rw [Nat.zero_div, zwt_0 f]
theorem zwt_7 : ∀ n, n < 64 → zwt 6 n < 7 := by
  have e : (List.range 64).all (fun n => decide (zwt 6 n < 7)) = true := by decide +kernel
  exact fun n hn => of_decide_eq_true (List.all_eq_true.mp e n (List.mem_range.mpr hn))
end ZCF
