def m_L_law : MD := (code, ⟨"EncoresLaw", "law", "([I)Z"⟩, 4, some .boolean)
section LAWR
variable {Sh' Sh : List SE} {d : Nat} {M : MD} {pc : Nat} {L : List (Option Value)} {st : List Value} {μ : Mem} {x : Ans} {i : Int32} {Lc : Nat} {xs : Nat → Int32}
theorem ok_scrL (n : Nat) (hd : decode M.1 pc = .ok (.arraylength, 1)) (hp : pc + 1 = n) (k : Ok (some (Lc, xs)) Sh' d M n L (.int (Int32.ofNat Lc) :: st) Sh μ x) : Ok (some (Lc, xs)) Sh' d M pc L (.ref 3000 :: st) Sh μ x := by
  subst hp
  refine Ok.goZ (fun {_ _ _ _ _ _ _ _ _ _ _ _ _ _ _ _ σ _ _} C Z hS k1 => ?_) k
  obtain ⟨hX, hbA, hbl⟩ := Z.2 _ rfl
  exact va_slen C.1 C.2.1 hX hbl hbA hS hd k1
theorem ok_scrI (n : Nat) (hd : decode M.1 pc = .ok (.iaload, 1)) (hp : pc + 1 = n) (k : Ok (some (Lc, xs)) Sh' d M n L (.int (xs i.toNatClampNeg) :: st) Sh μ x) : Ok (some (Lc, xs)) Sh' d M pc L (.int i :: .ref 3000 :: st) Sh μ (chk (inb i Lc) x) := by
  subst hp
  refine ok_chk fun hin => Ok.goZ (fun {_ _ _ _ _ _ _ _ _ _ _ _ _ _ _ _ σ _ _} C Z hS k1 => ?_) k
  obtain ⟨hX, hbA, hbl⟩ := Z.2 _ rfl
  exact va_sld C.1 C.2.1 hX hbl hbA hS (inb_in hin) hd k1
end LAWR
def f_L_law_J443 (N : Nat) (Lc : Nat) (xs : Nat → Int32)   (X : Int32 → Mem → Ans) (s3_443 : Int32) (t0_443 : Int32) (t1_443 : Int32) (m : Mem) : Ans :=
bd (f_X11_glove N t1_443 t0_443 m) fun r_443 m_443 =>
chk (inb (s3_443 + (1 : Int32)) Lc) <|
chk (inb (s3_443 + (2 : Int32)) Lc) <|
if (xs (s3_443 + (2 : Int32)).toNatClampNeg) = 0 then (bd (f_X12_glove N (xs (s3_443 + (1 : Int32)).toNatClampNeg) 0 m_443) fun r_465 m_465 =>
if r_443 = r_465 then (X (s3_443 + 6) m_465)
else (some (0, m_465)))
else (bd (f_X12_glove N (xs (s3_443 + (1 : Int32)).toNatClampNeg) 1 m_443) fun r_465 m_465 =>
if r_443 = r_465 then (X (s3_443 + 6) m_465)
else (some (0, m_465)))

def f_L_law_J492 (N : Nat) (Lc : Nat) (xs : Nat → Int32)   (X : Int32 → Mem → Ans) (s3_492 : Int32) (t0_492 : Int32) (t1_492 : Int32) (m : Mem) : Ans :=
bd (f_X11_let N t1_492 t0_492 m) fun r_492 m_492 =>
chk (inb (s3_492 + (1 : Int32)) Lc) <|
chk (inb (s3_492 + (2 : Int32)) Lc) <|
if (xs (s3_492 + (2 : Int32)).toNatClampNeg) = 0 then (bd (f_X12_let N (xs (s3_492 + (1 : Int32)).toNatClampNeg) 0 m_492) fun r_514 m_514 =>
if r_492 = r_514 then (X (s3_492 + 6) m_514)
else (some (0, m_514)))
else (bd (f_X12_let N (xs (s3_492 + (1 : Int32)).toNatClampNeg) 1 m_492) fun r_514 m_514 =>
if r_492 = r_514 then (X (s3_492 + 6) m_514)
else (some (0, m_514)))

def f_L_law_J1482 (N : Nat) (Lc : Nat) (xs : Nat → Int32)   (X : Int32 → Mem → Ans) (s3_1482 : Int32) (t0_1482 : Int32) (m : Mem) : Ans :=
bd (f_X11_image N t0_1482 m) fun r_1482 m_1482 =>
chk (inb (s3_1482 + (1 : Int32)) Lc) <|
if (xs (s3_1482 + (1 : Int32)).toNatClampNeg) = 0 then (bd (f_X12_image N 0 m_1482) fun r_1499 m_1499 =>
if r_1482 = r_1499 then (X (s3_1482 + 6) m_1499)
else (some (0, m_1499)))
else (bd (f_X12_image N 1 m_1482) fun r_1499 m_1499 =>
if r_1482 = r_1499 then (X (s3_1482 + 6) m_1499)
else (some (0, m_1499)))

def f_L_law_L18 (N : Nat) (Lc : Nat) (xs : Nat → Int32)   (X : Int32 → Mem → Ans) (s3_18 : Int32) (m : Mem) : Ans :=
if ((Int32.ofNat Lc) - (6 : Int32)) < s3_18 then (some (1, m))
else (chk (inb s3_18 Lc) <|
swt (Int32.toInt ((xs s3_18.toNatClampNeg) &&& (63 : Int32)) - (0)) [(chk (inb (s3_18 + (1 : Int32)) Lc) <|
bd (f_X11_state N (xs (s3_18 + (1 : Int32)).toNatClampNeg) m) fun r_222 m_222 =>
chk (inb (s3_18 + (1 : Int32)) Lc) <|
bd (f_X12_state N (xs (s3_18 + (1 : Int32)).toNatClampNeg) m_222) fun r_231 m_231 =>
if r_222 = r_231 then (X (s3_18 + 6) m_231)
else (some (0, m_231))),
(chk (inb (s3_18 + (1 : Int32)) Lc) <|
chk (inb (s3_18 + (2 : Int32)) Lc) <|
chk (inb (s3_18 + (3 : Int32)) Lc) <|
bd (f_X11_hearer N (xs (s3_18 + (1 : Int32)).toNatClampNeg) (xs (s3_18 + (2 : Int32)).toNatClampNeg) (xs (s3_18 + (3 : Int32)).toNatClampNeg) m) fun r_255 m_255 =>
chk (inb (s3_18 + (1 : Int32)) Lc) <|
chk (inb (s3_18 + (2 : Int32)) Lc) <|
chk (inb (s3_18 + (3 : Int32)) Lc) <|
bd (f_X12_hearer N (xs (s3_18 + (1 : Int32)).toNatClampNeg) (xs (s3_18 + (2 : Int32)).toNatClampNeg) (xs (s3_18 + (3 : Int32)).toNatClampNeg) m_255) fun r_274 m_274 =>
if r_255 = r_274 then (X (s3_18 + 6) m_274)
else (some (0, m_274))),
(chk (inb (s3_18 + (1 : Int32)) Lc) <|
chk (inb (s3_18 + (2 : Int32)) Lc) <|
chk (inb (s3_18 + (3 : Int32)) Lc) <|
bd (f_X11_deed N (xs (s3_18 + (1 : Int32)).toNatClampNeg) (xs (s3_18 + (2 : Int32)).toNatClampNeg) (xs (s3_18 + (3 : Int32)).toNatClampNeg) m) fun r_298 m_298 =>
chk (inb (s3_18 + (1 : Int32)) Lc) <|
chk (inb (s3_18 + (2 : Int32)) Lc) <|
chk (inb (s3_18 + (3 : Int32)) Lc) <|
bd (f_X12_deed N (xs (s3_18 + (1 : Int32)).toNatClampNeg) (xs (s3_18 + (2 : Int32)).toNatClampNeg) (xs (s3_18 + (3 : Int32)).toNatClampNeg) m_298) fun r_317 m_317 =>
if r_298 = r_317 then (X (s3_18 + 6) m_317)
else (some (0, m_317))),
(chk (inb (s3_18 + (1 : Int32)) Lc) <|
chk (inb (s3_18 + (2 : Int32)) Lc) <|
chk (inb (s3_18 + (3 : Int32)) Lc) <|
bd (f_X11_set N (xs (s3_18 + (1 : Int32)).toNatClampNeg) (xs (s3_18 + (2 : Int32)).toNatClampNeg) (xs (s3_18 + (3 : Int32)).toNatClampNeg) m) fun r_341 m_341 =>
chk (inb (s3_18 + (1 : Int32)) Lc) <|
chk (inb (s3_18 + (2 : Int32)) Lc) <|
chk (inb (s3_18 + (3 : Int32)) Lc) <|
bd (f_X12_set N (xs (s3_18 + (1 : Int32)).toNatClampNeg) (xs (s3_18 + (2 : Int32)).toNatClampNeg) (xs (s3_18 + (3 : Int32)).toNatClampNeg) m_341) fun r_360 m_360 =>
if r_341 = r_360 then (X (s3_18 + 6) m_360)
else (some (0, m_360))),
(chk (inb (s3_18 + (1 : Int32)) Lc) <|
bd (f_X11_perform N (xs (s3_18 + (1 : Int32)).toNatClampNeg) m) fun r_374 m_374 =>
chk (inb (s3_18 + (1 : Int32)) Lc) <|
bd (f_X12_perform N (xs (s3_18 + (1 : Int32)).toNatClampNeg) m_374) fun r_383 m_383 =>
if r_374 = r_383 then (X (s3_18 + 6) m_383)
else (some (0, m_383))),
(chk (inb (s3_18 + (1 : Int32)) Lc) <|
chk (inb (s3_18 + (2 : Int32)) Lc) <|
bd (f_X11_pay N (xs (s3_18 + (1 : Int32)).toNatClampNeg) (xs (s3_18 + (2 : Int32)).toNatClampNeg) m) fun r_402 m_402 =>
chk (inb (s3_18 + (1 : Int32)) Lc) <|
chk (inb (s3_18 + (2 : Int32)) Lc) <|
bd (f_X12_pay N (xs (s3_18 + (1 : Int32)).toNatClampNeg) (xs (s3_18 + (2 : Int32)).toNatClampNeg) m_402) fun r_416 m_416 =>
if r_402 = r_416 then (X (s3_18 + 6) m_416)
else (some (0, m_416))),
(chk (inb (s3_18 + (1 : Int32)) Lc) <|
chk (inb (s3_18 + (2 : Int32)) Lc) <|
if (xs (s3_18 + (2 : Int32)).toNatClampNeg) = 0 then (f_L_law_J443 N Lc xs  X s3_18 0 (xs (s3_18 + (1 : Int32)).toNatClampNeg) m)
else (f_L_law_J443 N Lc xs  X s3_18 1 (xs (s3_18 + (1 : Int32)).toNatClampNeg) m)),
(chk (inb (s3_18 + (1 : Int32)) Lc) <|
chk (inb (s3_18 + (2 : Int32)) Lc) <|
if (xs (s3_18 + (2 : Int32)).toNatClampNeg) = 0 then (f_L_law_J492 N Lc xs  X s3_18 0 (xs (s3_18 + (1 : Int32)).toNatClampNeg) m)
else (f_L_law_J492 N Lc xs  X s3_18 1 (xs (s3_18 + (1 : Int32)).toNatClampNeg) m)),
(chk (inb (s3_18 + (1 : Int32)) Lc) <|
bd (f_X11_evenings N (xs (s3_18 + (1 : Int32)).toNatClampNeg) m) fun r_528 m_528 =>
chk (inb (s3_18 + (1 : Int32)) Lc) <|
bd (f_X12_evenings N (xs (s3_18 + (1 : Int32)).toNatClampNeg) m_528) fun r_537 m_537 =>
if r_528 = r_537 then (X (s3_18 + 6) m_537)
else (some (0, m_537))),
(chk (inb (s3_18 + (1 : Int32)) Lc) <|
chk (inb (s3_18 + (2 : Int32)) Lc) <|
chk (inb (s3_18 + (3 : Int32)) Lc) <|
chk (inb (s3_18 + (4 : Int32)) Lc) <|
chk (inb (s3_18 + (5 : Int32)) Lc) <|
bd (f_X11_feed N (xs (s3_18 + (1 : Int32)).toNatClampNeg) (xs (s3_18 + (2 : Int32)).toNatClampNeg) (xs (s3_18 + (3 : Int32)).toNatClampNeg) (xs (s3_18 + (4 : Int32)).toNatClampNeg) (xs (s3_18 + (5 : Int32)).toNatClampNeg) m) fun r_571 m_571 =>
chk (inb (s3_18 + (1 : Int32)) Lc) <|
chk (inb (s3_18 + (2 : Int32)) Lc) <|
chk (inb (s3_18 + (3 : Int32)) Lc) <|
chk (inb (s3_18 + (4 : Int32)) Lc) <|
chk (inb (s3_18 + (5 : Int32)) Lc) <|
bd (f_X12_feed N (xs (s3_18 + (1 : Int32)).toNatClampNeg) (xs (s3_18 + (2 : Int32)).toNatClampNeg) (xs (s3_18 + (3 : Int32)).toNatClampNeg) (xs (s3_18 + (4 : Int32)).toNatClampNeg) (xs (s3_18 + (5 : Int32)).toNatClampNeg) m_571) fun r_600 m_600 =>
if r_571 = r_600 then (X (s3_18 + 6) m_600)
else (some (0, m_600))),
(chk (inb (s3_18 + (1 : Int32)) Lc) <|
bd (f_X11_end N (xs (s3_18 + (1 : Int32)).toNatClampNeg) m) fun r_614 m_614 =>
chk (inb (s3_18 + (1 : Int32)) Lc) <|
bd (f_X12_end N (xs (s3_18 + (1 : Int32)).toNatClampNeg) m_614) fun r_623 m_623 =>
if r_614 = r_623 then (X (s3_18 + 6) m_623)
else (some (0, m_623))),
(chk (inb (s3_18 + (1 : Int32)) Lc) <|
bd (f_X11_text N (xs (s3_18 + (1 : Int32)).toNatClampNeg) m) fun r_637 m_637 =>
chk (inb (s3_18 + (1 : Int32)) Lc) <|
bd (f_X12_text N (xs (s3_18 + (1 : Int32)).toNatClampNeg) m_637) fun r_646 m_646 =>
if r_637 = r_646 then (X (s3_18 + 6) m_646)
else (some (0, m_646))),
(chk (inb (s3_18 + (1 : Int32)) Lc) <|
bd (f_X11_fault N (xs (s3_18 + (1 : Int32)).toNatClampNeg) m) fun r_660 m_660 =>
chk (inb (s3_18 + (1 : Int32)) Lc) <|
bd (f_X12_fault N (xs (s3_18 + (1 : Int32)).toNatClampNeg) m_660) fun r_669 m_669 =>
if r_660 = r_669 then (X (s3_18 + 6) m_669)
else (some (0, m_669))),
(chk (inb (s3_18 + (1 : Int32)) Lc) <|
chk (inb (s3_18 + (2 : Int32)) Lc) <|
bd (f_X11_of N (xs (s3_18 + (1 : Int32)).toNatClampNeg) (xs (s3_18 + (2 : Int32)).toNatClampNeg) m) fun r_688 m_688 =>
chk (inb (s3_18 + (1 : Int32)) Lc) <|
chk (inb (s3_18 + (2 : Int32)) Lc) <|
bd (f_X12_of N (xs (s3_18 + (1 : Int32)).toNatClampNeg) (xs (s3_18 + (2 : Int32)).toNatClampNeg) m_688) fun r_702 m_702 =>
if r_688 = r_702 then (X (s3_18 + 6) m_702)
else (some (0, m_702))),
(chk (inb (s3_18 + (1 : Int32)) Lc) <|
chk (inb (s3_18 + (2 : Int32)) Lc) <|
bd (f_X11_deedOf N (xs (s3_18 + (1 : Int32)).toNatClampNeg) (xs (s3_18 + (2 : Int32)).toNatClampNeg) m) fun r_721 m_721 =>
chk (inb (s3_18 + (1 : Int32)) Lc) <|
chk (inb (s3_18 + (2 : Int32)) Lc) <|
bd (f_X12_deedOf N (xs (s3_18 + (1 : Int32)).toNatClampNeg) (xs (s3_18 + (2 : Int32)).toNatClampNeg) m_721) fun r_735 m_735 =>
if r_721 = r_735 then (X (s3_18 + 6) m_735)
else (some (0, m_735))),
(chk (inb (s3_18 + (1 : Int32)) Lc) <|
bd (f_X11_statute N (xs (s3_18 + (1 : Int32)).toNatClampNeg) m) fun r_749 m_749 =>
chk (inb (s3_18 + (1 : Int32)) Lc) <|
bd (f_X12_statute N (xs (s3_18 + (1 : Int32)).toNatClampNeg) m_749) fun r_758 m_758 =>
if r_749 = r_758 then (X (s3_18 + 6) m_758)
else (some (0, m_758))),
(chk (inb (s3_18 + (1 : Int32)) Lc) <|
chk (inb (s3_18 + (2 : Int32)) Lc) <|
bd (f_X11_book N (xs (s3_18 + (1 : Int32)).toNatClampNeg) (xs (s3_18 + (2 : Int32)).toNatClampNeg) m) fun r_777 m_777 =>
chk (inb (s3_18 + (1 : Int32)) Lc) <|
chk (inb (s3_18 + (2 : Int32)) Lc) <|
bd (f_X12_book N (xs (s3_18 + (1 : Int32)).toNatClampNeg) (xs (s3_18 + (2 : Int32)).toNatClampNeg) m_777) fun r_791 m_791 =>
if r_777 = r_791 then (X (s3_18 + 6) m_791)
else (some (0, m_791))),
(chk (inb (s3_18 + (1 : Int32)) Lc) <|
bd (f_X11_goes N (xs (s3_18 + (1 : Int32)).toNatClampNeg) m) fun r_805 m_805 =>
chk (inb (s3_18 + (1 : Int32)) Lc) <|
bd (f_X12_goes N (xs (s3_18 + (1 : Int32)).toNatClampNeg) m_805) fun r_814 m_814 =>
if r_805 = r_814 then (X (s3_18 + 6) m_814)
else (some (0, m_814))),
(chk (inb (s3_18 + (1 : Int32)) Lc) <|
chk (inb (s3_18 + (2 : Int32)) Lc) <|
bd (f_X11_settles N (xs (s3_18 + (1 : Int32)).toNatClampNeg) (xs (s3_18 + (2 : Int32)).toNatClampNeg) m) fun r_833 m_833 =>
chk (inb (s3_18 + (1 : Int32)) Lc) <|
chk (inb (s3_18 + (2 : Int32)) Lc) <|
bd (f_X12_settles N (xs (s3_18 + (1 : Int32)).toNatClampNeg) (xs (s3_18 + (2 : Int32)).toNatClampNeg) m_833) fun r_847 m_847 =>
if r_833 = r_847 then (X (s3_18 + 6) m_847)
else (some (0, m_847))),
(chk (inb (s3_18 + (1 : Int32)) Lc) <|
chk (inb (s3_18 + (2 : Int32)) Lc) <|
chk (inb (s3_18 + (3 : Int32)) Lc) <|
bd (f_X11_makes N (xs (s3_18 + (1 : Int32)).toNatClampNeg) (xs (s3_18 + (2 : Int32)).toNatClampNeg) (xs (s3_18 + (3 : Int32)).toNatClampNeg) m) fun r_871 m_871 =>
chk (inb (s3_18 + (1 : Int32)) Lc) <|
chk (inb (s3_18 + (2 : Int32)) Lc) <|
chk (inb (s3_18 + (3 : Int32)) Lc) <|
bd (f_X12_makes N (xs (s3_18 + (1 : Int32)).toNatClampNeg) (xs (s3_18 + (2 : Int32)).toNatClampNeg) (xs (s3_18 + (3 : Int32)).toNatClampNeg) m_871) fun r_890 m_890 =>
if r_871 = r_890 then (X (s3_18 + 6) m_890)
else (some (0, m_890))),
(chk (inb (s3_18 + (1 : Int32)) Lc) <|
chk (inb (s3_18 + (2 : Int32)) Lc) <|
bd (f_X11_fills N (xs (s3_18 + (1 : Int32)).toNatClampNeg) (xs (s3_18 + (2 : Int32)).toNatClampNeg) m) fun r_909 m_909 =>
chk (inb (s3_18 + (1 : Int32)) Lc) <|
chk (inb (s3_18 + (2 : Int32)) Lc) <|
bd (f_X12_fills N (xs (s3_18 + (1 : Int32)).toNatClampNeg) (xs (s3_18 + (2 : Int32)).toNatClampNeg) m_909) fun r_923 m_923 =>
if r_909 = r_923 then (X (s3_18 + 6) m_923)
else (some (0, m_923))),
(chk (inb (s3_18 + (1 : Int32)) Lc) <|
chk (inb (s3_18 + (2 : Int32)) Lc) <|
bd (f_X11_lines N (xs (s3_18 + (1 : Int32)).toNatClampNeg) (xs (s3_18 + (2 : Int32)).toNatClampNeg) m) fun r_942 m_942 =>
chk (inb (s3_18 + (1 : Int32)) Lc) <|
chk (inb (s3_18 + (2 : Int32)) Lc) <|
bd (f_X12_lines N (xs (s3_18 + (1 : Int32)).toNatClampNeg) (xs (s3_18 + (2 : Int32)).toNatClampNeg) m_942) fun r_956 m_956 =>
if r_942 = r_956 then (X (s3_18 + 6) m_956)
else (some (0, m_956))),
(chk (inb (s3_18 + (1 : Int32)) Lc) <|
chk (inb (s3_18 + (2 : Int32)) Lc) <|
bd (f_X11_claque N (xs (s3_18 + (1 : Int32)).toNatClampNeg) (xs (s3_18 + (2 : Int32)).toNatClampNeg) m) fun r_975 m_975 =>
chk (inb (s3_18 + (1 : Int32)) Lc) <|
chk (inb (s3_18 + (2 : Int32)) Lc) <|
bd (f_X12_claque N (xs (s3_18 + (1 : Int32)).toNatClampNeg) (xs (s3_18 + (2 : Int32)).toNatClampNeg) m_975) fun r_989 m_989 =>
if r_975 = r_989 then (X (s3_18 + 6) m_989)
else (some (0, m_989))),
(chk (inb (s3_18 + (1 : Int32)) Lc) <|
bd (f_X11_fits N (xs (s3_18 + (1 : Int32)).toNatClampNeg) m) fun r_1003 m_1003 =>
chk (inb (s3_18 + (1 : Int32)) Lc) <|
bd (f_X12_fits N (xs (s3_18 + (1 : Int32)).toNatClampNeg) m_1003) fun r_1012 m_1012 =>
if r_1003 = r_1012 then (X (s3_18 + 6) m_1012)
else (some (0, m_1012))),
(chk (inb (s3_18 + (1 : Int32)) Lc) <|
chk (inb (s3_18 + (2 : Int32)) Lc) <|
chk (inb (s3_18 + (3 : Int32)) Lc) <|
bd (f_X11_cuts N (xs (s3_18 + (1 : Int32)).toNatClampNeg) (xs (s3_18 + (2 : Int32)).toNatClampNeg) (xs (s3_18 + (3 : Int32)).toNatClampNeg) m) fun r_1036 m_1036 =>
chk (inb (s3_18 + (1 : Int32)) Lc) <|
chk (inb (s3_18 + (2 : Int32)) Lc) <|
chk (inb (s3_18 + (3 : Int32)) Lc) <|
bd (f_X12_cuts N (xs (s3_18 + (1 : Int32)).toNatClampNeg) (xs (s3_18 + (2 : Int32)).toNatClampNeg) (xs (s3_18 + (3 : Int32)).toNatClampNeg) m_1036) fun r_1055 m_1055 =>
if r_1036 = r_1055 then (X (s3_18 + 6) m_1055)
else (some (0, m_1055))),
(chk (inb (s3_18 + (1 : Int32)) Lc) <|
chk (inb (s3_18 + (2 : Int32)) Lc) <|
bd (f_X11_near N (xs (s3_18 + (1 : Int32)).toNatClampNeg) (xs (s3_18 + (2 : Int32)).toNatClampNeg) m) fun r_1074 m_1074 =>
chk (inb (s3_18 + (1 : Int32)) Lc) <|
chk (inb (s3_18 + (2 : Int32)) Lc) <|
bd (f_X12_near N (xs (s3_18 + (1 : Int32)).toNatClampNeg) (xs (s3_18 + (2 : Int32)).toNatClampNeg) m_1074) fun r_1088 m_1088 =>
if r_1074 = r_1088 then (X (s3_18 + 6) m_1088)
else (some (0, m_1088))),
(chk (inb (s3_18 + (1 : Int32)) Lc) <|
chk (inb (s3_18 + (2 : Int32)) Lc) <|
bd (f_X11_means N (xs (s3_18 + (1 : Int32)).toNatClampNeg) (xs (s3_18 + (2 : Int32)).toNatClampNeg) m) fun r_1107 m_1107 =>
chk (inb (s3_18 + (1 : Int32)) Lc) <|
chk (inb (s3_18 + (2 : Int32)) Lc) <|
bd (f_X12_means N (xs (s3_18 + (1 : Int32)).toNatClampNeg) (xs (s3_18 + (2 : Int32)).toNatClampNeg) m_1107) fun r_1121 m_1121 =>
if r_1107 = r_1121 then (X (s3_18 + 6) m_1121)
else (some (0, m_1121))),
(chk (inb (s3_18 + (1 : Int32)) Lc) <|
chk (inb (s3_18 + (2 : Int32)) Lc) <|
chk (inb (s3_18 + (3 : Int32)) Lc) <|
bd (f_X11_passed N (xs (s3_18 + (1 : Int32)).toNatClampNeg) (xs (s3_18 + (2 : Int32)).toNatClampNeg) (xs (s3_18 + (3 : Int32)).toNatClampNeg) m) fun r_1145 m_1145 =>
chk (inb (s3_18 + (1 : Int32)) Lc) <|
chk (inb (s3_18 + (2 : Int32)) Lc) <|
chk (inb (s3_18 + (3 : Int32)) Lc) <|
bd (f_X12_passed N (xs (s3_18 + (1 : Int32)).toNatClampNeg) (xs (s3_18 + (2 : Int32)).toNatClampNeg) (xs (s3_18 + (3 : Int32)).toNatClampNeg) m_1145) fun r_1164 m_1164 =>
if r_1145 = r_1164 then (X (s3_18 + 6) m_1164)
else (some (0, m_1164))),
(chk (inb (s3_18 + (1 : Int32)) Lc) <|
chk (inb (s3_18 + (2 : Int32)) Lc) <|
bd (f_X11_share N (xs (s3_18 + (1 : Int32)).toNatClampNeg) (xs (s3_18 + (2 : Int32)).toNatClampNeg) m) fun r_1183 m_1183 =>
chk (inb (s3_18 + (1 : Int32)) Lc) <|
chk (inb (s3_18 + (2 : Int32)) Lc) <|
bd (f_X12_share N (xs (s3_18 + (1 : Int32)).toNatClampNeg) (xs (s3_18 + (2 : Int32)).toNatClampNeg) m_1183) fun r_1197 m_1197 =>
if r_1183 = r_1197 then (X (s3_18 + 6) m_1197)
else (some (0, m_1197))),
(bd (f_X11_brides N m) fun r_1206 m_1206 =>
bd (f_X12_brides N m_1206) fun r_1210 m_1210 =>
if r_1206 = r_1210 then (X (s3_18 + 6) m_1210)
else (some (0, m_1210))),
(chk (inb (s3_18 + (1 : Int32)) Lc) <|
bd (f_X11_game N (xs (s3_18 + (1 : Int32)).toNatClampNeg) m) fun r_1224 m_1224 =>
chk (inb (s3_18 + (1 : Int32)) Lc) <|
bd (f_X12_game N (xs (s3_18 + (1 : Int32)).toNatClampNeg) m_1224) fun r_1233 m_1233 =>
if r_1224 = r_1233 then (X (s3_18 + 6) m_1233)
else (some (0, m_1233))),
(chk (inb (s3_18 + (1 : Int32)) Lc) <|
chk (inb (s3_18 + (2 : Int32)) Lc) <|
bd (f_X11_brakes N (xs (s3_18 + (1 : Int32)).toNatClampNeg) (xs (s3_18 + (2 : Int32)).toNatClampNeg) m) fun r_1252 m_1252 =>
chk (inb (s3_18 + (1 : Int32)) Lc) <|
chk (inb (s3_18 + (2 : Int32)) Lc) <|
bd (f_X12_brakes N (xs (s3_18 + (1 : Int32)).toNatClampNeg) (xs (s3_18 + (2 : Int32)).toNatClampNeg) m_1252) fun r_1266 m_1266 =>
if r_1252 = r_1266 then (X (s3_18 + 6) m_1266)
else (some (0, m_1266))),
(chk (inb (s3_18 + (1 : Int32)) Lc) <|
chk (inb (s3_18 + (2 : Int32)) Lc) <|
bd (f_X11_eager N (xs (s3_18 + (1 : Int32)).toNatClampNeg) (xs (s3_18 + (2 : Int32)).toNatClampNeg) m) fun r_1285 m_1285 =>
chk (inb (s3_18 + (1 : Int32)) Lc) <|
chk (inb (s3_18 + (2 : Int32)) Lc) <|
bd (f_X12_eager N (xs (s3_18 + (1 : Int32)).toNatClampNeg) (xs (s3_18 + (2 : Int32)).toNatClampNeg) m_1285) fun r_1299 m_1299 =>
if r_1285 = r_1299 then (X (s3_18 + 6) m_1299)
else (some (0, m_1299))),
(chk (inb (s3_18 + (1 : Int32)) Lc) <|
bd (f_X11_groups N (xs (s3_18 + (1 : Int32)).toNatClampNeg) m) fun r_1313 m_1313 =>
chk (inb (s3_18 + (1 : Int32)) Lc) <|
bd (f_X12_groups N (xs (s3_18 + (1 : Int32)).toNatClampNeg) m_1313) fun r_1322 m_1322 =>
if r_1313 = r_1322 then (X (s3_18 + 6) m_1322)
else (some (0, m_1322))),
(chk (inb (s3_18 + (1 : Int32)) Lc) <|
chk (inb (s3_18 + (2 : Int32)) Lc) <|
bd (f_X11_price N (xs (s3_18 + (1 : Int32)).toNatClampNeg) (xs (s3_18 + (2 : Int32)).toNatClampNeg) m) fun r_1341 m_1341 =>
chk (inb (s3_18 + (1 : Int32)) Lc) <|
chk (inb (s3_18 + (2 : Int32)) Lc) <|
bd (f_X12_price N (xs (s3_18 + (1 : Int32)).toNatClampNeg) (xs (s3_18 + (2 : Int32)).toNatClampNeg) m_1341) fun r_1355 m_1355 =>
if r_1341 = r_1355 then (X (s3_18 + 6) m_1355)
else (some (0, m_1355))),
(chk (inb (s3_18 + (1 : Int32)) Lc) <|
bd (f_X11_gain N (xs (s3_18 + (1 : Int32)).toNatClampNeg) m) fun r_1369 m_1369 =>
chk (inb (s3_18 + (1 : Int32)) Lc) <|
bd (f_X12_gain N (xs (s3_18 + (1 : Int32)).toNatClampNeg) m_1369) fun r_1378 m_1378 =>
if r_1369 = r_1378 then (X (s3_18 + 6) m_1378)
else (some (0, m_1378))),
(chk (inb (s3_18 + (1 : Int32)) Lc) <|
bd (f_X11_bargain N (xs (s3_18 + (1 : Int32)).toNatClampNeg) m) fun r_1392 m_1392 =>
chk (inb (s3_18 + (1 : Int32)) Lc) <|
bd (f_X12_bargain N (xs (s3_18 + (1 : Int32)).toNatClampNeg) m_1392) fun r_1401 m_1401 =>
if r_1392 = r_1401 then (X (s3_18 + 6) m_1401)
else (some (0, m_1401))),
(chk (inb (s3_18 + (1 : Int32)) Lc) <|
bd (f_X11_calm N (xs (s3_18 + (1 : Int32)).toNatClampNeg) m) fun r_1415 m_1415 =>
chk (inb (s3_18 + (1 : Int32)) Lc) <|
bd (f_X12_calm N (xs (s3_18 + (1 : Int32)).toNatClampNeg) m_1415) fun r_1424 m_1424 =>
if r_1415 = r_1424 then (X (s3_18 + 6) m_1424)
else (some (0, m_1424))),
(chk (inb (s3_18 + (1 : Int32)) Lc) <|
bd (f_X11_tires N (xs (s3_18 + (1 : Int32)).toNatClampNeg) m) fun r_1438 m_1438 =>
chk (inb (s3_18 + (1 : Int32)) Lc) <|
bd (f_X12_tires N (xs (s3_18 + (1 : Int32)).toNatClampNeg) m_1438) fun r_1447 m_1447 =>
if r_1438 = r_1447 then (X (s3_18 + 6) m_1447)
else (some (0, m_1447))),
(bd (f_X11_undo N m) fun r_1456 m_1456 =>
bd (f_X12_undo N m_1456) fun r_1460 m_1460 =>
if r_1456 = r_1460 then (X (s3_18 + 6) m_1460)
else (some (0, m_1460))),
(chk (inb (s3_18 + (1 : Int32)) Lc) <|
if (xs (s3_18 + (1 : Int32)).toNatClampNeg) = 0 then (f_L_law_J1482 N Lc xs  X s3_18 0 m)
else (f_L_law_J1482 N Lc xs  X s3_18 1 m)),
(chk (inb (s3_18 + (1 : Int32)) Lc) <|
bd (f_X11_look N (xs (s3_18 + (1 : Int32)).toNatClampNeg) m) fun r_1513 m_1513 =>
chk (inb (s3_18 + (1 : Int32)) Lc) <|
bd (f_X12_look N (xs (s3_18 + (1 : Int32)).toNatClampNeg) m_1513) fun r_1522 m_1522 =>
if r_1513 = r_1522 then (X (s3_18 + 6) m_1522)
else (some (0, m_1522)))] (X (s3_18 + 6) m))

set_option maxRecDepth 100000 in
set_option maxHeartbeats 4000000 in
theorem ok_L_law_J443 (N d : Nat) (Lc : Nat) (xs : Nat → Int32)   (X : Int32 → Mem → Ans) (hX : ∀ (k3 : Int32) (m : Mem), Ok (some (Lc, xs)) SG (d + 50) m_L_law 18 [some (.ref 3000), some (.ref 0), some (.ref 123), some (.int k3)] [] SG m (X k3 m)) (s3_443 : Int32) (t0_443 : Int32) (t1_443 : Int32) (m : Mem) : Ok (some (Lc, xs)) SG (d + 50) m_L_law 443 [some (.ref 3000), some (.ref 0), some (.ref 123), some (.int s3_443)] [.int t0_443, .int t1_443, .ref 0] SG m (f_L_law_J443 N Lc xs  X s3_443 t0_443 t1_443 m) := by
  unfold f_L_law_J443
  refine ok_callVi (np := 2) (M' := m_X11_glove) (As := [.int t1_443, .int t0_443]) (st := []) 446 dL_law_443 rfl rfl km_X11_glove ki_X11_glove kv_X11_glove ml_EncoresLaw_41 (by decide) sg_0 rfl (Nat.le_of_ble_eq_true rfl) rfl rfl rfl (Nat.le_of_ble_eq_true rfl) (c_X11_glove N (d + 44) t1_443 t0_443 m) ⟨Nat.le_refl _, Nat.le_refl _⟩ (Or.inl rfl) rfl (fun r_443 m_443 _ => ?_)
  refine ok_aload_n 447 2 dL_law_446 rfl rfl rfl ?_
  refine ok_aload_n 448 0 dL_law_447 rfl rfl rfl ?_
  refine ok_iload_n 449 3 dL_law_448 rfl rfl rfl ?_
  refine ok_iconst 450 1 dL_law_449 rfl rfl ?_
  refine ok_iadd 451 dL_law_450 rfl ?_
  refine ok_scrI 452 dL_law_451 rfl ?_
  refine ok_aload_n 453 0 dL_law_452 rfl rfl rfl ?_
  refine ok_iload_n 454 3 dL_law_453 rfl rfl rfl ?_
  refine ok_iconst 455 2 dL_law_454 rfl rfl ?_
  refine ok_iadd 456 dL_law_455 rfl ?_
  refine ok_scrI 457 dL_law_456 rfl ?_
  refine ok_if_eq 464 460 dL_law_457 (by decide) rfl (fun _ => ?_) (fun _ => ?_)
  · refine ok_iconst 465 0 dL_law_464 rfl rfl ?_
    refine ok_callVi (np := 2) (M' := m_X12_glove) (As := [.int (xs (s3_443 + (1 : Int32)).toNatClampNeg), .int 0]) (st := [.int r_443]) 468 dL_law_465 rfl rfl km_X12_glove ki_X12_glove kv_X12_glove ml_EncoresLaw_45 (by decide) sg_123 rfl (Nat.le_of_ble_eq_true rfl) rfl rfl rfl (Nat.le_of_ble_eq_true rfl) (c_X12_glove N (d + 47) (xs (s3_443 + (1 : Int32)).toNatClampNeg) 0 m_443) ⟨Nat.le_refl _, Nat.le_refl _⟩ (Or.inl rfl) rfl (fun r_465 m_465 _ => ?_)
    refine ok_icmp_eq 1530 471 dL_law_468 (by decide) rfl (fun _ => ?_) (fun _ => ?_)
    · refine ok_iinc 1533 3 6 [some (.ref 3000), some (.ref 0), some (.ref 123), some (.int (s3_443 + 6))] dL_law_1530 rfl rfl rfl (by decide) rfl ?_
      refine ok_goto 18 dL_law_1533 (by decide) ?_
      exact ok_less [some (.ref 3000), some (.ref 0), some (.ref 123), some (.int (s3_443 + 6))] (And.intro rfl (And.intro rfl (And.intro rfl (And.intro rfl (trivial))))) (hX (s3_443 + 6) m_465)
    · refine ok_iconst 472 0 dL_law_471 rfl rfl ?_
      exact ok_zretc dL_law_472 rfl rfl
  · refine ok_iconst 461 1 dL_law_460 rfl rfl ?_
    refine ok_goto 465 dL_law_461 (by decide) ?_
    refine ok_callVi (np := 2) (M' := m_X12_glove) (As := [.int (xs (s3_443 + (1 : Int32)).toNatClampNeg), .int 1]) (st := [.int r_443]) 468 dL_law_465 rfl rfl km_X12_glove ki_X12_glove kv_X12_glove ml_EncoresLaw_45 (by decide) sg_123 rfl (Nat.le_of_ble_eq_true rfl) rfl rfl rfl (Nat.le_of_ble_eq_true rfl) (c_X12_glove N (d + 47) (xs (s3_443 + (1 : Int32)).toNatClampNeg) 1 m_443) ⟨Nat.le_refl _, Nat.le_refl _⟩ (Or.inl rfl) rfl (fun r_465 m_465 _ => ?_)
    refine ok_icmp_eq 1530 471 dL_law_468 (by decide) rfl (fun _ => ?_) (fun _ => ?_)
    · refine ok_iinc 1533 3 6 [some (.ref 3000), some (.ref 0), some (.ref 123), some (.int (s3_443 + 6))] dL_law_1530 rfl rfl rfl (by decide) rfl ?_
      refine ok_goto 18 dL_law_1533 (by decide) ?_
      exact ok_less [some (.ref 3000), some (.ref 0), some (.ref 123), some (.int (s3_443 + 6))] (And.intro rfl (And.intro rfl (And.intro rfl (And.intro rfl (trivial))))) (hX (s3_443 + 6) m_465)
    · refine ok_iconst 472 0 dL_law_471 rfl rfl ?_
      exact ok_zretc dL_law_472 rfl rfl

set_option maxRecDepth 100000 in
set_option maxHeartbeats 4000000 in
theorem ok_L_law_J492 (N d : Nat) (Lc : Nat) (xs : Nat → Int32)   (X : Int32 → Mem → Ans) (hX : ∀ (k3 : Int32) (m : Mem), Ok (some (Lc, xs)) SG (d + 50) m_L_law 18 [some (.ref 3000), some (.ref 0), some (.ref 123), some (.int k3)] [] SG m (X k3 m)) (s3_492 : Int32) (t0_492 : Int32) (t1_492 : Int32) (m : Mem) : Ok (some (Lc, xs)) SG (d + 50) m_L_law 492 [some (.ref 3000), some (.ref 0), some (.ref 123), some (.int s3_492)] [.int t0_492, .int t1_492, .ref 0] SG m (f_L_law_J492 N Lc xs  X s3_492 t0_492 t1_492 m) := by
  unfold f_L_law_J492
  refine ok_callVi (np := 2) (M' := m_X11_let) (As := [.int t1_492, .int t0_492]) (st := []) 495 dL_law_492 rfl rfl km_X11_let ki_X11_let kv_X11_let ml_EncoresLaw_46 (by decide) sg_0 rfl (Nat.le_of_ble_eq_true rfl) rfl rfl rfl (Nat.le_of_ble_eq_true rfl) (c_X11_let N (d + 44) t1_492 t0_492 m) ⟨Nat.le_refl _, Nat.le_refl _⟩ (Or.inl rfl) rfl (fun r_492 m_492 _ => ?_)
  refine ok_aload_n 496 2 dL_law_495 rfl rfl rfl ?_
  refine ok_aload_n 497 0 dL_law_496 rfl rfl rfl ?_
  refine ok_iload_n 498 3 dL_law_497 rfl rfl rfl ?_
  refine ok_iconst 499 1 dL_law_498 rfl rfl ?_
  refine ok_iadd 500 dL_law_499 rfl ?_
  refine ok_scrI 501 dL_law_500 rfl ?_
  refine ok_aload_n 502 0 dL_law_501 rfl rfl rfl ?_
  refine ok_iload_n 503 3 dL_law_502 rfl rfl rfl ?_
  refine ok_iconst 504 2 dL_law_503 rfl rfl ?_
  refine ok_iadd 505 dL_law_504 rfl ?_
  refine ok_scrI 506 dL_law_505 rfl ?_
  refine ok_if_eq 513 509 dL_law_506 (by decide) rfl (fun _ => ?_) (fun _ => ?_)
  · refine ok_iconst 514 0 dL_law_513 rfl rfl ?_
    refine ok_callVi (np := 2) (M' := m_X12_let) (As := [.int (xs (s3_492 + (1 : Int32)).toNatClampNeg), .int 0]) (st := [.int r_492]) 517 dL_law_514 rfl rfl km_X12_let ki_X12_let kv_X12_let ml_EncoresLaw_49 (by decide) sg_123 rfl (Nat.le_of_ble_eq_true rfl) rfl rfl rfl (Nat.le_of_ble_eq_true rfl) (c_X12_let N (d + 47) (xs (s3_492 + (1 : Int32)).toNatClampNeg) 0 m_492) ⟨Nat.le_refl _, Nat.le_refl _⟩ (Or.inl rfl) rfl (fun r_514 m_514 _ => ?_)
    refine ok_icmp_eq 1530 520 dL_law_517 (by decide) rfl (fun _ => ?_) (fun _ => ?_)
    · refine ok_iinc 1533 3 6 [some (.ref 3000), some (.ref 0), some (.ref 123), some (.int (s3_492 + 6))] dL_law_1530 rfl rfl rfl (by decide) rfl ?_
      refine ok_goto 18 dL_law_1533 (by decide) ?_
      exact ok_less [some (.ref 3000), some (.ref 0), some (.ref 123), some (.int (s3_492 + 6))] (And.intro rfl (And.intro rfl (And.intro rfl (And.intro rfl (trivial))))) (hX (s3_492 + 6) m_514)
    · refine ok_iconst 521 0 dL_law_520 rfl rfl ?_
      exact ok_zretc dL_law_521 rfl rfl
  · refine ok_iconst 510 1 dL_law_509 rfl rfl ?_
    refine ok_goto 514 dL_law_510 (by decide) ?_
    refine ok_callVi (np := 2) (M' := m_X12_let) (As := [.int (xs (s3_492 + (1 : Int32)).toNatClampNeg), .int 1]) (st := [.int r_492]) 517 dL_law_514 rfl rfl km_X12_let ki_X12_let kv_X12_let ml_EncoresLaw_49 (by decide) sg_123 rfl (Nat.le_of_ble_eq_true rfl) rfl rfl rfl (Nat.le_of_ble_eq_true rfl) (c_X12_let N (d + 47) (xs (s3_492 + (1 : Int32)).toNatClampNeg) 1 m_492) ⟨Nat.le_refl _, Nat.le_refl _⟩ (Or.inl rfl) rfl (fun r_514 m_514 _ => ?_)
    refine ok_icmp_eq 1530 520 dL_law_517 (by decide) rfl (fun _ => ?_) (fun _ => ?_)
    · refine ok_iinc 1533 3 6 [some (.ref 3000), some (.ref 0), some (.ref 123), some (.int (s3_492 + 6))] dL_law_1530 rfl rfl rfl (by decide) rfl ?_
      refine ok_goto 18 dL_law_1533 (by decide) ?_
      exact ok_less [some (.ref 3000), some (.ref 0), some (.ref 123), some (.int (s3_492 + 6))] (And.intro rfl (And.intro rfl (And.intro rfl (And.intro rfl (trivial))))) (hX (s3_492 + 6) m_514)
    · refine ok_iconst 521 0 dL_law_520 rfl rfl ?_
      exact ok_zretc dL_law_521 rfl rfl

set_option maxRecDepth 100000 in
set_option maxHeartbeats 4000000 in
theorem ok_L_law_J1482 (N d : Nat) (Lc : Nat) (xs : Nat → Int32)   (X : Int32 → Mem → Ans) (hX : ∀ (k3 : Int32) (m : Mem), Ok (some (Lc, xs)) SG (d + 50) m_L_law 18 [some (.ref 3000), some (.ref 0), some (.ref 123), some (.int k3)] [] SG m (X k3 m)) (s3_1482 : Int32) (t0_1482 : Int32) (m : Mem) : Ok (some (Lc, xs)) SG (d + 50) m_L_law 1482 [some (.ref 3000), some (.ref 0), some (.ref 123), some (.int s3_1482)] [.int t0_1482, .ref 0] SG m (f_L_law_J1482 N Lc xs  X s3_1482 t0_1482 m) := by
  unfold f_L_law_J1482
  refine ok_callVi (np := 1) (M' := m_X11_image) (As := [.int t0_1482]) (st := []) 1485 dL_law_1482 rfl rfl km_X11_image ki_X11_image kv_X11_image ml_EncoresLaw_183 (by decide) sg_0 rfl (Nat.le_of_ble_eq_true rfl) rfl rfl rfl (Nat.le_of_ble_eq_true rfl) (c_X11_image N (d + 46) t0_1482 m) ⟨Nat.le_refl _, Nat.le_refl _⟩ (Or.inl rfl) rfl (fun r_1482 m_1482 _ => ?_)
  refine ok_aload_n 1486 2 dL_law_1485 rfl rfl rfl ?_
  refine ok_aload_n 1487 0 dL_law_1486 rfl rfl rfl ?_
  refine ok_iload_n 1488 3 dL_law_1487 rfl rfl rfl ?_
  refine ok_iconst 1489 1 dL_law_1488 rfl rfl ?_
  refine ok_iadd 1490 dL_law_1489 rfl ?_
  refine ok_scrI 1491 dL_law_1490 rfl ?_
  refine ok_if_eq 1498 1494 dL_law_1491 (by decide) rfl (fun _ => ?_) (fun _ => ?_)
  · refine ok_iconst 1499 0 dL_law_1498 rfl rfl ?_
    refine ok_callVi (np := 1) (M' := m_X12_image) (As := [.int 0]) (st := [.int r_1482]) 1502 dL_law_1499 rfl rfl km_X12_image ki_X12_image kv_X12_image ml_EncoresLaw_187 (by decide) sg_123 rfl (Nat.le_of_ble_eq_true rfl) rfl rfl rfl (Nat.le_of_ble_eq_true rfl) (c_X12_image N (d + 48) 0 m_1482) ⟨Nat.le_refl _, Nat.le_refl _⟩ (Or.inl rfl) rfl (fun r_1499 m_1499 _ => ?_)
    refine ok_icmp_eq 1530 1505 dL_law_1502 (by decide) rfl (fun _ => ?_) (fun _ => ?_)
    · refine ok_iinc 1533 3 6 [some (.ref 3000), some (.ref 0), some (.ref 123), some (.int (s3_1482 + 6))] dL_law_1530 rfl rfl rfl (by decide) rfl ?_
      refine ok_goto 18 dL_law_1533 (by decide) ?_
      exact ok_less [some (.ref 3000), some (.ref 0), some (.ref 123), some (.int (s3_1482 + 6))] (And.intro rfl (And.intro rfl (And.intro rfl (And.intro rfl (trivial))))) (hX (s3_1482 + 6) m_1499)
    · refine ok_iconst 1506 0 dL_law_1505 rfl rfl ?_
      exact ok_zretc dL_law_1506 rfl rfl
  · refine ok_iconst 1495 1 dL_law_1494 rfl rfl ?_
    refine ok_goto 1499 dL_law_1495 (by decide) ?_
    refine ok_callVi (np := 1) (M' := m_X12_image) (As := [.int 1]) (st := [.int r_1482]) 1502 dL_law_1499 rfl rfl km_X12_image ki_X12_image kv_X12_image ml_EncoresLaw_187 (by decide) sg_123 rfl (Nat.le_of_ble_eq_true rfl) rfl rfl rfl (Nat.le_of_ble_eq_true rfl) (c_X12_image N (d + 48) 1 m_1482) ⟨Nat.le_refl _, Nat.le_refl _⟩ (Or.inl rfl) rfl (fun r_1499 m_1499 _ => ?_)
    refine ok_icmp_eq 1530 1505 dL_law_1502 (by decide) rfl (fun _ => ?_) (fun _ => ?_)
    · refine ok_iinc 1533 3 6 [some (.ref 3000), some (.ref 0), some (.ref 123), some (.int (s3_1482 + 6))] dL_law_1530 rfl rfl rfl (by decide) rfl ?_
      refine ok_goto 18 dL_law_1533 (by decide) ?_
      exact ok_less [some (.ref 3000), some (.ref 0), some (.ref 123), some (.int (s3_1482 + 6))] (And.intro rfl (And.intro rfl (And.intro rfl (And.intro rfl (trivial))))) (hX (s3_1482 + 6) m_1499)
    · refine ok_iconst 1506 0 dL_law_1505 rfl rfl ?_
      exact ok_zretc dL_law_1506 rfl rfl

set_option maxRecDepth 100000 in
set_option maxHeartbeats 4000000 in
theorem ok_L_law_L18 (N d : Nat) (Lc : Nat) (xs : Nat → Int32)   : ∀ (n : Nat) (s3_18 : Int32) (m : Mem), Ok (some (Lc, xs)) SG (d + 50) m_L_law 18 [some (.ref 3000), some (.ref 0), some (.ref 123), some (.int s3_18)] [] SG m (it1 (f_L_law_L18 N Lc xs) n s3_18 m) :=
  ok_it1 (fun s3_18 => [some (.ref 3000), some (.ref 0), some (.ref 123), some (.int s3_18)]) (fun X hX s3_18 m => by
    try unfold f_L_law_L18
    refine ok_iload_n 19 3 dL_law_18 rfl rfl rfl ?_
    refine ok_aload_n 20 0 dL_law_19 rfl rfl rfl ?_
    refine ok_scrL 21 dL_law_20 rfl ?_
    refine ok_bipush 23 6 dL_law_21 rfl rfl ?_
    refine ok_isub 24 dL_law_23 rfl ?_
    refine ok_icmp_gt 1536 27 dL_law_24 (by decide) rfl (fun _ => ?_) (fun _ => ?_)
    · refine ok_iconst 1537 1 dL_law_1536 rfl rfl ?_
      exact ok_zretc dL_law_1537 rfl rfl
    · refine ok_aload_n 28 0 dL_law_27 rfl rfl rfl ?_
      refine ok_iload_n 29 3 dL_law_28 rfl rfl rfl ?_
      refine ok_scrI 30 dL_law_29 rfl ?_
      refine ok_bipush 32 63 dL_law_30 rfl rfl ?_
      refine ok_iand 33 dL_law_32 rfl ?_
      refine ok_tsw 1530 [216, 239, 282, 325, 368, 391, 424, 473, 522, 545, 608, 631, 654, 677, 710, 743, 766, 799, 822, 855, 898, 931, 964, 997, 1020, 1063, 1096, 1129, 1172, 1205, 1218, 1241, 1274, 1307, 1330, 1363, 1386, 1409, 1432, 1455, 1468, 1507] dL_law_33 (by decide) (by decide) (by decide) rfl ?_ ?_
      · refine And.intro ?_ (And.intro ?_ (And.intro ?_ (And.intro ?_ (And.intro ?_ (And.intro ?_ (And.intro ?_ (And.intro ?_ (And.intro ?_ (And.intro ?_ (And.intro ?_ (And.intro ?_ (And.intro ?_ (And.intro ?_ (And.intro ?_ (And.intro ?_ (And.intro ?_ (And.intro ?_ (And.intro ?_ (And.intro ?_ (And.intro ?_ (And.intro ?_ (And.intro ?_ (And.intro ?_ (And.intro ?_ (And.intro ?_ (And.intro ?_ (And.intro ?_ (And.intro ?_ (And.intro ?_ (And.intro ?_ (And.intro ?_ (And.intro ?_ (And.intro ?_ (And.intro ?_ (And.intro ?_ (And.intro ?_ (And.intro ?_ (And.intro ?_ (And.intro ?_ (And.intro ?_ (And.intro ?_ (trivial))))))))))))))))))))))))))))))))))))))))))
        · refine ok_aload_n 217 1 dL_law_216 rfl rfl rfl ?_
          refine ok_aload_n 218 0 dL_law_217 rfl rfl rfl ?_
          refine ok_iload_n 219 3 dL_law_218 rfl rfl rfl ?_
          refine ok_iconst 220 1 dL_law_219 rfl rfl ?_
          refine ok_iadd 221 dL_law_220 rfl ?_
          refine ok_scrI 222 dL_law_221 rfl ?_
          refine ok_callVi (np := 1) (M' := m_X11_state) (As := [.int (xs (s3_18 + (1 : Int32)).toNatClampNeg)]) (st := []) 225 dL_law_222 rfl rfl km_X11_state ki_X11_state kv_X11_state ml_EncoresLaw_13 (by decide) sg_0 rfl (Nat.le_of_ble_eq_true rfl) rfl rfl rfl (Nat.le_of_ble_eq_true rfl) (c_X11_state N (d + 47) (xs (s3_18 + (1 : Int32)).toNatClampNeg) m) ⟨Nat.le_refl _, Nat.le_refl _⟩ (Or.inl rfl) rfl (fun r_222 m_222 _ => ?_)
          refine ok_aload_n 226 2 dL_law_225 rfl rfl rfl ?_
          refine ok_aload_n 227 0 dL_law_226 rfl rfl rfl ?_
          refine ok_iload_n 228 3 dL_law_227 rfl rfl rfl ?_
          refine ok_iconst 229 1 dL_law_228 rfl rfl ?_
          refine ok_iadd 230 dL_law_229 rfl ?_
          refine ok_scrI 231 dL_law_230 rfl ?_
          refine ok_callVi (np := 1) (M' := m_X12_state) (As := [.int (xs (s3_18 + (1 : Int32)).toNatClampNeg)]) (st := [.int r_222]) 234 dL_law_231 rfl rfl km_X12_state ki_X12_state kv_X12_state ml_EncoresLaw_17 (by decide) sg_123 rfl (Nat.le_of_ble_eq_true rfl) rfl rfl rfl (Nat.le_of_ble_eq_true rfl) (c_X12_state N (d + 48) (xs (s3_18 + (1 : Int32)).toNatClampNeg) m_222) ⟨Nat.le_refl _, Nat.le_refl _⟩ (Or.inl rfl) rfl (fun r_231 m_231 _ => ?_)
          refine ok_icmp_eq 1530 237 dL_law_234 (by decide) rfl (fun _ => ?_) (fun _ => ?_)
          · refine ok_iinc 1533 3 6 [some (.ref 3000), some (.ref 0), some (.ref 123), some (.int (s3_18 + 6))] dL_law_1530 rfl rfl rfl (by decide) rfl ?_
            refine ok_goto 18 dL_law_1533 (by decide) ?_
            exact ok_less [some (.ref 3000), some (.ref 0), some (.ref 123), some (.int (s3_18 + 6))] (And.intro rfl (And.intro rfl (And.intro rfl (And.intro rfl (trivial))))) (hX (s3_18 + 6) m_231)
          · refine ok_iconst 238 0 dL_law_237 rfl rfl ?_
            exact ok_zretc dL_law_238 rfl rfl
        · refine ok_aload_n 240 1 dL_law_239 rfl rfl rfl ?_
          refine ok_aload_n 241 0 dL_law_240 rfl rfl rfl ?_
          refine ok_iload_n 242 3 dL_law_241 rfl rfl rfl ?_
          refine ok_iconst 243 1 dL_law_242 rfl rfl ?_
          refine ok_iadd 244 dL_law_243 rfl ?_
          refine ok_scrI 245 dL_law_244 rfl ?_
          refine ok_aload_n 246 0 dL_law_245 rfl rfl rfl ?_
          refine ok_iload_n 247 3 dL_law_246 rfl rfl rfl ?_
          refine ok_iconst 248 2 dL_law_247 rfl rfl ?_
          refine ok_iadd 249 dL_law_248 rfl ?_
          refine ok_scrI 250 dL_law_249 rfl ?_
          refine ok_aload_n 251 0 dL_law_250 rfl rfl rfl ?_
          refine ok_iload_n 252 3 dL_law_251 rfl rfl rfl ?_
          refine ok_iconst 253 3 dL_law_252 rfl rfl ?_
          refine ok_iadd 254 dL_law_253 rfl ?_
          refine ok_scrI 255 dL_law_254 rfl ?_
          refine ok_callVi (np := 3) (M' := m_X11_hearer) (As := [.int (xs (s3_18 + (1 : Int32)).toNatClampNeg), .int (xs (s3_18 + (2 : Int32)).toNatClampNeg), .int (xs (s3_18 + (3 : Int32)).toNatClampNeg)]) (st := []) 258 dL_law_255 rfl rfl km_X11_hearer ki_X11_hearer kv_X11_hearer ml_EncoresLaw_18 (by decide) sg_0 rfl (Nat.le_of_ble_eq_true rfl) rfl rfl rfl (Nat.le_of_ble_eq_true rfl) (c_X11_hearer N (d + 48) (xs (s3_18 + (1 : Int32)).toNatClampNeg) (xs (s3_18 + (2 : Int32)).toNatClampNeg) (xs (s3_18 + (3 : Int32)).toNatClampNeg) m) ⟨Nat.le_refl _, Nat.le_refl _⟩ (Or.inl rfl) rfl (fun r_255 m_255 _ => ?_)
          refine ok_aload_n 259 2 dL_law_258 rfl rfl rfl ?_
          refine ok_aload_n 260 0 dL_law_259 rfl rfl rfl ?_
          refine ok_iload_n 261 3 dL_law_260 rfl rfl rfl ?_
          refine ok_iconst 262 1 dL_law_261 rfl rfl ?_
          refine ok_iadd 263 dL_law_262 rfl ?_
          refine ok_scrI 264 dL_law_263 rfl ?_
          refine ok_aload_n 265 0 dL_law_264 rfl rfl rfl ?_
          refine ok_iload_n 266 3 dL_law_265 rfl rfl rfl ?_
          refine ok_iconst 267 2 dL_law_266 rfl rfl ?_
          refine ok_iadd 268 dL_law_267 rfl ?_
          refine ok_scrI 269 dL_law_268 rfl ?_
          refine ok_aload_n 270 0 dL_law_269 rfl rfl rfl ?_
          refine ok_iload_n 271 3 dL_law_270 rfl rfl rfl ?_
          refine ok_iconst 272 3 dL_law_271 rfl rfl ?_
          refine ok_iadd 273 dL_law_272 rfl ?_
          refine ok_scrI 274 dL_law_273 rfl ?_
          refine ok_callVi (np := 3) (M' := m_X12_hearer) (As := [.int (xs (s3_18 + (1 : Int32)).toNatClampNeg), .int (xs (s3_18 + (2 : Int32)).toNatClampNeg), .int (xs (s3_18 + (3 : Int32)).toNatClampNeg)]) (st := [.int r_255]) 277 dL_law_274 rfl rfl km_X12_hearer ki_X12_hearer kv_X12_hearer ml_EncoresLaw_22 (by decide) sg_123 rfl (Nat.le_of_ble_eq_true rfl) rfl rfl rfl (Nat.le_of_ble_eq_true rfl) (c_X12_hearer N (d + 48) (xs (s3_18 + (1 : Int32)).toNatClampNeg) (xs (s3_18 + (2 : Int32)).toNatClampNeg) (xs (s3_18 + (3 : Int32)).toNatClampNeg) m_255) ⟨Nat.le_refl _, Nat.le_refl _⟩ (Or.inl rfl) rfl (fun r_274 m_274 _ => ?_)
          refine ok_icmp_eq 1530 280 dL_law_277 (by decide) rfl (fun _ => ?_) (fun _ => ?_)
          · refine ok_iinc 1533 3 6 [some (.ref 3000), some (.ref 0), some (.ref 123), some (.int (s3_18 + 6))] dL_law_1530 rfl rfl rfl (by decide) rfl ?_
            refine ok_goto 18 dL_law_1533 (by decide) ?_
            exact ok_less [some (.ref 3000), some (.ref 0), some (.ref 123), some (.int (s3_18 + 6))] (And.intro rfl (And.intro rfl (And.intro rfl (And.intro rfl (trivial))))) (hX (s3_18 + 6) m_274)
          · refine ok_iconst 281 0 dL_law_280 rfl rfl ?_
            exact ok_zretc dL_law_281 rfl rfl
        · refine ok_aload_n 283 1 dL_law_282 rfl rfl rfl ?_
          refine ok_aload_n 284 0 dL_law_283 rfl rfl rfl ?_
          refine ok_iload_n 285 3 dL_law_284 rfl rfl rfl ?_
          refine ok_iconst 286 1 dL_law_285 rfl rfl ?_
          refine ok_iadd 287 dL_law_286 rfl ?_
          refine ok_scrI 288 dL_law_287 rfl ?_
          refine ok_aload_n 289 0 dL_law_288 rfl rfl rfl ?_
          refine ok_iload_n 290 3 dL_law_289 rfl rfl rfl ?_
          refine ok_iconst 291 2 dL_law_290 rfl rfl ?_
          refine ok_iadd 292 dL_law_291 rfl ?_
          refine ok_scrI 293 dL_law_292 rfl ?_
          refine ok_aload_n 294 0 dL_law_293 rfl rfl rfl ?_
          refine ok_iload_n 295 3 dL_law_294 rfl rfl rfl ?_
          refine ok_iconst 296 3 dL_law_295 rfl rfl ?_
          refine ok_iadd 297 dL_law_296 rfl ?_
          refine ok_scrI 298 dL_law_297 rfl ?_
          refine ok_callVi (np := 3) (M' := m_X11_deed) (As := [.int (xs (s3_18 + (1 : Int32)).toNatClampNeg), .int (xs (s3_18 + (2 : Int32)).toNatClampNeg), .int (xs (s3_18 + (3 : Int32)).toNatClampNeg)]) (st := []) 301 dL_law_298 rfl rfl km_X11_deed ki_X11_deed kv_X11_deed ml_EncoresLaw_23 (by decide) sg_0 rfl (Nat.le_of_ble_eq_true rfl) rfl rfl rfl (Nat.le_of_ble_eq_true rfl) (c_X11_deed N (d + 48) (xs (s3_18 + (1 : Int32)).toNatClampNeg) (xs (s3_18 + (2 : Int32)).toNatClampNeg) (xs (s3_18 + (3 : Int32)).toNatClampNeg) m) ⟨Nat.le_refl _, Nat.le_refl _⟩ (Or.inl rfl) rfl (fun r_298 m_298 _ => ?_)
          refine ok_aload_n 302 2 dL_law_301 rfl rfl rfl ?_
          refine ok_aload_n 303 0 dL_law_302 rfl rfl rfl ?_
          refine ok_iload_n 304 3 dL_law_303 rfl rfl rfl ?_
          refine ok_iconst 305 1 dL_law_304 rfl rfl ?_
          refine ok_iadd 306 dL_law_305 rfl ?_
          refine ok_scrI 307 dL_law_306 rfl ?_
          refine ok_aload_n 308 0 dL_law_307 rfl rfl rfl ?_
          refine ok_iload_n 309 3 dL_law_308 rfl rfl rfl ?_
          refine ok_iconst 310 2 dL_law_309 rfl rfl ?_
          refine ok_iadd 311 dL_law_310 rfl ?_
          refine ok_scrI 312 dL_law_311 rfl ?_
          refine ok_aload_n 313 0 dL_law_312 rfl rfl rfl ?_
          refine ok_iload_n 314 3 dL_law_313 rfl rfl rfl ?_
          refine ok_iconst 315 3 dL_law_314 rfl rfl ?_
          refine ok_iadd 316 dL_law_315 rfl ?_
          refine ok_scrI 317 dL_law_316 rfl ?_
          refine ok_callVi (np := 3) (M' := m_X12_deed) (As := [.int (xs (s3_18 + (1 : Int32)).toNatClampNeg), .int (xs (s3_18 + (2 : Int32)).toNatClampNeg), .int (xs (s3_18 + (3 : Int32)).toNatClampNeg)]) (st := [.int r_298]) 320 dL_law_317 rfl rfl km_X12_deed ki_X12_deed kv_X12_deed ml_EncoresLaw_26 (by decide) sg_123 rfl (Nat.le_of_ble_eq_true rfl) rfl rfl rfl (Nat.le_of_ble_eq_true rfl) (c_X12_deed N (d + 48) (xs (s3_18 + (1 : Int32)).toNatClampNeg) (xs (s3_18 + (2 : Int32)).toNatClampNeg) (xs (s3_18 + (3 : Int32)).toNatClampNeg) m_298) ⟨Nat.le_refl _, Nat.le_refl _⟩ (Or.inl rfl) rfl (fun r_317 m_317 _ => ?_)
          refine ok_icmp_eq 1530 323 dL_law_320 (by decide) rfl (fun _ => ?_) (fun _ => ?_)
          · refine ok_iinc 1533 3 6 [some (.ref 3000), some (.ref 0), some (.ref 123), some (.int (s3_18 + 6))] dL_law_1530 rfl rfl rfl (by decide) rfl ?_
            refine ok_goto 18 dL_law_1533 (by decide) ?_
            exact ok_less [some (.ref 3000), some (.ref 0), some (.ref 123), some (.int (s3_18 + 6))] (And.intro rfl (And.intro rfl (And.intro rfl (And.intro rfl (trivial))))) (hX (s3_18 + 6) m_317)
          · refine ok_iconst 324 0 dL_law_323 rfl rfl ?_
            exact ok_zretc dL_law_324 rfl rfl
        · refine ok_aload_n 326 1 dL_law_325 rfl rfl rfl ?_
          refine ok_aload_n 327 0 dL_law_326 rfl rfl rfl ?_
          refine ok_iload_n 328 3 dL_law_327 rfl rfl rfl ?_
          refine ok_iconst 329 1 dL_law_328 rfl rfl ?_
          refine ok_iadd 330 dL_law_329 rfl ?_
          refine ok_scrI 331 dL_law_330 rfl ?_
          refine ok_aload_n 332 0 dL_law_331 rfl rfl rfl ?_
          refine ok_iload_n 333 3 dL_law_332 rfl rfl rfl ?_
          refine ok_iconst 334 2 dL_law_333 rfl rfl ?_
          refine ok_iadd 335 dL_law_334 rfl ?_
          refine ok_scrI 336 dL_law_335 rfl ?_
          refine ok_aload_n 337 0 dL_law_336 rfl rfl rfl ?_
          refine ok_iload_n 338 3 dL_law_337 rfl rfl rfl ?_
          refine ok_iconst 339 3 dL_law_338 rfl rfl ?_
          refine ok_iadd 340 dL_law_339 rfl ?_
          refine ok_scrI 341 dL_law_340 rfl ?_
          refine ok_callVi (np := 3) (M' := m_X11_set) (As := [.int (xs (s3_18 + (1 : Int32)).toNatClampNeg), .int (xs (s3_18 + (2 : Int32)).toNatClampNeg), .int (xs (s3_18 + (3 : Int32)).toNatClampNeg)]) (st := []) 344 dL_law_341 rfl rfl km_X11_set ki_X11_set kv_X11_set ml_EncoresLaw_27 (by decide) sg_0 rfl (Nat.le_of_ble_eq_true rfl) rfl rfl rfl (Nat.le_of_ble_eq_true rfl) (c_X11_set N (d + 47) (xs (s3_18 + (1 : Int32)).toNatClampNeg) (xs (s3_18 + (2 : Int32)).toNatClampNeg) (xs (s3_18 + (3 : Int32)).toNatClampNeg) m) ⟨Nat.le_refl _, Nat.le_refl _⟩ (Or.inl rfl) rfl (fun r_341 m_341 _ => ?_)
          refine ok_aload_n 345 2 dL_law_344 rfl rfl rfl ?_
          refine ok_aload_n 346 0 dL_law_345 rfl rfl rfl ?_
          refine ok_iload_n 347 3 dL_law_346 rfl rfl rfl ?_
          refine ok_iconst 348 1 dL_law_347 rfl rfl ?_
          refine ok_iadd 349 dL_law_348 rfl ?_
          refine ok_scrI 350 dL_law_349 rfl ?_
          refine ok_aload_n 351 0 dL_law_350 rfl rfl rfl ?_
          refine ok_iload_n 352 3 dL_law_351 rfl rfl rfl ?_
          refine ok_iconst 353 2 dL_law_352 rfl rfl ?_
          refine ok_iadd 354 dL_law_353 rfl ?_
          refine ok_scrI 355 dL_law_354 rfl ?_
          refine ok_aload_n 356 0 dL_law_355 rfl rfl rfl ?_
          refine ok_iload_n 357 3 dL_law_356 rfl rfl rfl ?_
          refine ok_iconst 358 3 dL_law_357 rfl rfl ?_
          refine ok_iadd 359 dL_law_358 rfl ?_
          refine ok_scrI 360 dL_law_359 rfl ?_
          refine ok_callVi (np := 3) (M' := m_X12_set) (As := [.int (xs (s3_18 + (1 : Int32)).toNatClampNeg), .int (xs (s3_18 + (2 : Int32)).toNatClampNeg), .int (xs (s3_18 + (3 : Int32)).toNatClampNeg)]) (st := [.int r_341]) 363 dL_law_360 rfl rfl km_X12_set ki_X12_set kv_X12_set ml_EncoresLaw_31 (by decide) sg_123 rfl (Nat.le_of_ble_eq_true rfl) rfl rfl rfl (Nat.le_of_ble_eq_true rfl) (c_X12_set N (d + 46) (xs (s3_18 + (1 : Int32)).toNatClampNeg) (xs (s3_18 + (2 : Int32)).toNatClampNeg) (xs (s3_18 + (3 : Int32)).toNatClampNeg) m_341) ⟨Nat.le_refl _, Nat.le_refl _⟩ (Or.inl rfl) rfl (fun r_360 m_360 _ => ?_)
          refine ok_icmp_eq 1530 366 dL_law_363 (by decide) rfl (fun _ => ?_) (fun _ => ?_)
          · refine ok_iinc 1533 3 6 [some (.ref 3000), some (.ref 0), some (.ref 123), some (.int (s3_18 + 6))] dL_law_1530 rfl rfl rfl (by decide) rfl ?_
            refine ok_goto 18 dL_law_1533 (by decide) ?_
            exact ok_less [some (.ref 3000), some (.ref 0), some (.ref 123), some (.int (s3_18 + 6))] (And.intro rfl (And.intro rfl (And.intro rfl (And.intro rfl (trivial))))) (hX (s3_18 + 6) m_360)
          · refine ok_iconst 367 0 dL_law_366 rfl rfl ?_
            exact ok_zretc dL_law_367 rfl rfl
        · refine ok_aload_n 369 1 dL_law_368 rfl rfl rfl ?_
          refine ok_aload_n 370 0 dL_law_369 rfl rfl rfl ?_
          refine ok_iload_n 371 3 dL_law_370 rfl rfl rfl ?_
          refine ok_iconst 372 1 dL_law_371 rfl rfl ?_
          refine ok_iadd 373 dL_law_372 rfl ?_
          refine ok_scrI 374 dL_law_373 rfl ?_
          refine ok_callVi (np := 1) (M' := m_X11_perform) (As := [.int (xs (s3_18 + (1 : Int32)).toNatClampNeg)]) (st := []) 377 dL_law_374 rfl rfl km_X11_perform ki_X11_perform kv_X11_perform ml_EncoresLaw_32 (by decide) sg_0 rfl (Nat.le_of_ble_eq_true rfl) rfl rfl rfl (Nat.le_of_ble_eq_true rfl) (c_X11_perform N (d + 43) (xs (s3_18 + (1 : Int32)).toNatClampNeg) m) ⟨Nat.le_refl _, Nat.le_refl _⟩ (Or.inl rfl) rfl (fun r_374 m_374 _ => ?_)
          refine ok_aload_n 378 2 dL_law_377 rfl rfl rfl ?_
          refine ok_aload_n 379 0 dL_law_378 rfl rfl rfl ?_
          refine ok_iload_n 380 3 dL_law_379 rfl rfl rfl ?_
          refine ok_iconst 381 1 dL_law_380 rfl rfl ?_
          refine ok_iadd 382 dL_law_381 rfl ?_
          refine ok_scrI 383 dL_law_382 rfl ?_
          refine ok_callVi (np := 1) (M' := m_X12_perform) (As := [.int (xs (s3_18 + (1 : Int32)).toNatClampNeg)]) (st := [.int r_374]) 386 dL_law_383 rfl rfl km_X12_perform ki_X12_perform kv_X12_perform ml_EncoresLaw_35 (by decide) sg_123 rfl (Nat.le_of_ble_eq_true rfl) rfl rfl rfl (Nat.le_of_ble_eq_true rfl) (c_X12_perform N (d + 41) (xs (s3_18 + (1 : Int32)).toNatClampNeg) m_374) ⟨Nat.le_refl _, Nat.le_refl _⟩ (Or.inl rfl) rfl (fun r_383 m_383 _ => ?_)
          refine ok_icmp_eq 1530 389 dL_law_386 (by decide) rfl (fun _ => ?_) (fun _ => ?_)
          · refine ok_iinc 1533 3 6 [some (.ref 3000), some (.ref 0), some (.ref 123), some (.int (s3_18 + 6))] dL_law_1530 rfl rfl rfl (by decide) rfl ?_
            refine ok_goto 18 dL_law_1533 (by decide) ?_
            exact ok_less [some (.ref 3000), some (.ref 0), some (.ref 123), some (.int (s3_18 + 6))] (And.intro rfl (And.intro rfl (And.intro rfl (And.intro rfl (trivial))))) (hX (s3_18 + 6) m_383)
          · refine ok_iconst 390 0 dL_law_389 rfl rfl ?_
            exact ok_zretc dL_law_390 rfl rfl
        · refine ok_aload_n 392 1 dL_law_391 rfl rfl rfl ?_
          refine ok_aload_n 393 0 dL_law_392 rfl rfl rfl ?_
          refine ok_iload_n 394 3 dL_law_393 rfl rfl rfl ?_
          refine ok_iconst 395 1 dL_law_394 rfl rfl ?_
          refine ok_iadd 396 dL_law_395 rfl ?_
          refine ok_scrI 397 dL_law_396 rfl ?_
          refine ok_aload_n 398 0 dL_law_397 rfl rfl rfl ?_
          refine ok_iload_n 399 3 dL_law_398 rfl rfl rfl ?_
          refine ok_iconst 400 2 dL_law_399 rfl rfl ?_
          refine ok_iadd 401 dL_law_400 rfl ?_
          refine ok_scrI 402 dL_law_401 rfl ?_
          refine ok_callVi (np := 2) (M' := m_X11_pay) (As := [.int (xs (s3_18 + (1 : Int32)).toNatClampNeg), .int (xs (s3_18 + (2 : Int32)).toNatClampNeg)]) (st := []) 405 dL_law_402 rfl rfl km_X11_pay ki_X11_pay kv_X11_pay ml_EncoresLaw_36 (by decide) sg_0 rfl (Nat.le_of_ble_eq_true rfl) rfl rfl rfl (Nat.le_of_ble_eq_true rfl) (c_X11_pay N (d + 45) (xs (s3_18 + (1 : Int32)).toNatClampNeg) (xs (s3_18 + (2 : Int32)).toNatClampNeg) m) ⟨Nat.le_refl _, Nat.le_refl _⟩ (Or.inl rfl) rfl (fun r_402 m_402 _ => ?_)
          refine ok_aload_n 406 2 dL_law_405 rfl rfl rfl ?_
          refine ok_aload_n 407 0 dL_law_406 rfl rfl rfl ?_
          refine ok_iload_n 408 3 dL_law_407 rfl rfl rfl ?_
          refine ok_iconst 409 1 dL_law_408 rfl rfl ?_
          refine ok_iadd 410 dL_law_409 rfl ?_
          refine ok_scrI 411 dL_law_410 rfl ?_
          refine ok_aload_n 412 0 dL_law_411 rfl rfl rfl ?_
          refine ok_iload_n 413 3 dL_law_412 rfl rfl rfl ?_
          refine ok_iconst 414 2 dL_law_413 rfl rfl ?_
          refine ok_iadd 415 dL_law_414 rfl ?_
          refine ok_scrI 416 dL_law_415 rfl ?_
          refine ok_callVi (np := 2) (M' := m_X12_pay) (As := [.int (xs (s3_18 + (1 : Int32)).toNatClampNeg), .int (xs (s3_18 + (2 : Int32)).toNatClampNeg)]) (st := [.int r_402]) 419 dL_law_416 rfl rfl km_X12_pay ki_X12_pay kv_X12_pay ml_EncoresLaw_40 (by decide) sg_123 rfl (Nat.le_of_ble_eq_true rfl) rfl rfl rfl (Nat.le_of_ble_eq_true rfl) (c_X12_pay N (d + 47) (xs (s3_18 + (1 : Int32)).toNatClampNeg) (xs (s3_18 + (2 : Int32)).toNatClampNeg) m_402) ⟨Nat.le_refl _, Nat.le_refl _⟩ (Or.inl rfl) rfl (fun r_416 m_416 _ => ?_)
          refine ok_icmp_eq 1530 422 dL_law_419 (by decide) rfl (fun _ => ?_) (fun _ => ?_)
          · refine ok_iinc 1533 3 6 [some (.ref 3000), some (.ref 0), some (.ref 123), some (.int (s3_18 + 6))] dL_law_1530 rfl rfl rfl (by decide) rfl ?_
            refine ok_goto 18 dL_law_1533 (by decide) ?_
            exact ok_less [some (.ref 3000), some (.ref 0), some (.ref 123), some (.int (s3_18 + 6))] (And.intro rfl (And.intro rfl (And.intro rfl (And.intro rfl (trivial))))) (hX (s3_18 + 6) m_416)
          · refine ok_iconst 423 0 dL_law_422 rfl rfl ?_
            exact ok_zretc dL_law_423 rfl rfl
        · refine ok_aload_n 425 1 dL_law_424 rfl rfl rfl ?_
          refine ok_aload_n 426 0 dL_law_425 rfl rfl rfl ?_
          refine ok_iload_n 427 3 dL_law_426 rfl rfl rfl ?_
          refine ok_iconst 428 1 dL_law_427 rfl rfl ?_
          refine ok_iadd 429 dL_law_428 rfl ?_
          refine ok_scrI 430 dL_law_429 rfl ?_
          refine ok_aload_n 431 0 dL_law_430 rfl rfl rfl ?_
          refine ok_iload_n 432 3 dL_law_431 rfl rfl rfl ?_
          refine ok_iconst 433 2 dL_law_432 rfl rfl ?_
          refine ok_iadd 434 dL_law_433 rfl ?_
          refine ok_scrI 435 dL_law_434 rfl ?_
          refine ok_if_eq 442 438 dL_law_435 (by decide) rfl (fun _ => ?_) (fun _ => ?_)
          · refine ok_iconst 443 0 dL_law_442 rfl rfl ?_
            exact ok_less [some (.ref 3000), some (.ref 0), some (.ref 123), some (.int s3_18)] (And.intro rfl (And.intro rfl (And.intro rfl (And.intro rfl (trivial))))) (ok_L_law_J443 N d Lc xs   X hX s3_18 0 (xs (s3_18 + (1 : Int32)).toNatClampNeg) m)
          · refine ok_iconst 439 1 dL_law_438 rfl rfl ?_
            refine ok_goto 443 dL_law_439 (by decide) ?_
            exact ok_less [some (.ref 3000), some (.ref 0), some (.ref 123), some (.int s3_18)] (And.intro rfl (And.intro rfl (And.intro rfl (And.intro rfl (trivial))))) (ok_L_law_J443 N d Lc xs   X hX s3_18 1 (xs (s3_18 + (1 : Int32)).toNatClampNeg) m)
        · refine ok_aload_n 474 1 dL_law_473 rfl rfl rfl ?_
          refine ok_aload_n 475 0 dL_law_474 rfl rfl rfl ?_
          refine ok_iload_n 476 3 dL_law_475 rfl rfl rfl ?_
          refine ok_iconst 477 1 dL_law_476 rfl rfl ?_
          refine ok_iadd 478 dL_law_477 rfl ?_
          refine ok_scrI 479 dL_law_478 rfl ?_
          refine ok_aload_n 480 0 dL_law_479 rfl rfl rfl ?_
          refine ok_iload_n 481 3 dL_law_480 rfl rfl rfl ?_
          refine ok_iconst 482 2 dL_law_481 rfl rfl ?_
          refine ok_iadd 483 dL_law_482 rfl ?_
          refine ok_scrI 484 dL_law_483 rfl ?_
          refine ok_if_eq 491 487 dL_law_484 (by decide) rfl (fun _ => ?_) (fun _ => ?_)
          · refine ok_iconst 492 0 dL_law_491 rfl rfl ?_
            exact ok_less [some (.ref 3000), some (.ref 0), some (.ref 123), some (.int s3_18)] (And.intro rfl (And.intro rfl (And.intro rfl (And.intro rfl (trivial))))) (ok_L_law_J492 N d Lc xs   X hX s3_18 0 (xs (s3_18 + (1 : Int32)).toNatClampNeg) m)
          · refine ok_iconst 488 1 dL_law_487 rfl rfl ?_
            refine ok_goto 492 dL_law_488 (by decide) ?_
            exact ok_less [some (.ref 3000), some (.ref 0), some (.ref 123), some (.int s3_18)] (And.intro rfl (And.intro rfl (And.intro rfl (And.intro rfl (trivial))))) (ok_L_law_J492 N d Lc xs   X hX s3_18 1 (xs (s3_18 + (1 : Int32)).toNatClampNeg) m)
        · refine ok_aload_n 523 1 dL_law_522 rfl rfl rfl ?_
          refine ok_aload_n 524 0 dL_law_523 rfl rfl rfl ?_
          refine ok_iload_n 525 3 dL_law_524 rfl rfl rfl ?_
          refine ok_iconst 526 1 dL_law_525 rfl rfl ?_
          refine ok_iadd 527 dL_law_526 rfl ?_
          refine ok_scrI 528 dL_law_527 rfl ?_
          refine ok_callVi (np := 1) (M' := m_X11_evenings) (As := [.int (xs (s3_18 + (1 : Int32)).toNatClampNeg)]) (st := []) 531 dL_law_528 rfl rfl km_X11_evenings ki_X11_evenings kv_X11_evenings ml_EncoresLaw_50 (by decide) sg_0 rfl (Nat.le_of_ble_eq_true rfl) rfl rfl rfl (Nat.le_of_ble_eq_true rfl) (c_X11_evenings N (d + 42) (xs (s3_18 + (1 : Int32)).toNatClampNeg) m) ⟨Nat.le_refl _, Nat.le_refl _⟩ (Or.inl rfl) rfl (fun r_528 m_528 _ => ?_)
          refine ok_aload_n 532 2 dL_law_531 rfl rfl rfl ?_
          refine ok_aload_n 533 0 dL_law_532 rfl rfl rfl ?_
          refine ok_iload_n 534 3 dL_law_533 rfl rfl rfl ?_
          refine ok_iconst 535 1 dL_law_534 rfl rfl ?_
          refine ok_iadd 536 dL_law_535 rfl ?_
          refine ok_scrI 537 dL_law_536 rfl ?_
          refine ok_callVi (np := 1) (M' := m_X12_evenings) (As := [.int (xs (s3_18 + (1 : Int32)).toNatClampNeg)]) (st := [.int r_528]) 540 dL_law_537 rfl rfl km_X12_evenings ki_X12_evenings kv_X12_evenings ml_EncoresLaw_53 (by decide) sg_123 rfl (Nat.le_of_ble_eq_true rfl) rfl rfl rfl (Nat.le_of_ble_eq_true rfl) (c_X12_evenings N (d + 40) (xs (s3_18 + (1 : Int32)).toNatClampNeg) m_528) ⟨Nat.le_refl _, Nat.le_refl _⟩ (Or.inl rfl) rfl (fun r_537 m_537 _ => ?_)
          refine ok_icmp_eq 1530 543 dL_law_540 (by decide) rfl (fun _ => ?_) (fun _ => ?_)
          · refine ok_iinc 1533 3 6 [some (.ref 3000), some (.ref 0), some (.ref 123), some (.int (s3_18 + 6))] dL_law_1530 rfl rfl rfl (by decide) rfl ?_
            refine ok_goto 18 dL_law_1533 (by decide) ?_
            exact ok_less [some (.ref 3000), some (.ref 0), some (.ref 123), some (.int (s3_18 + 6))] (And.intro rfl (And.intro rfl (And.intro rfl (And.intro rfl (trivial))))) (hX (s3_18 + 6) m_537)
          · refine ok_iconst 544 0 dL_law_543 rfl rfl ?_
            exact ok_zretc dL_law_544 rfl rfl
        · refine ok_aload_n 546 1 dL_law_545 rfl rfl rfl ?_
          refine ok_aload_n 547 0 dL_law_546 rfl rfl rfl ?_
          refine ok_iload_n 548 3 dL_law_547 rfl rfl rfl ?_
          refine ok_iconst 549 1 dL_law_548 rfl rfl ?_
          refine ok_iadd 550 dL_law_549 rfl ?_
          refine ok_scrI 551 dL_law_550 rfl ?_
          refine ok_aload_n 552 0 dL_law_551 rfl rfl rfl ?_
          refine ok_iload_n 553 3 dL_law_552 rfl rfl rfl ?_
          refine ok_iconst 554 2 dL_law_553 rfl rfl ?_
          refine ok_iadd 555 dL_law_554 rfl ?_
          refine ok_scrI 556 dL_law_555 rfl ?_
          refine ok_aload_n 557 0 dL_law_556 rfl rfl rfl ?_
          refine ok_iload_n 558 3 dL_law_557 rfl rfl rfl ?_
          refine ok_iconst 559 3 dL_law_558 rfl rfl ?_
          refine ok_iadd 560 dL_law_559 rfl ?_
          refine ok_scrI 561 dL_law_560 rfl ?_
          refine ok_aload_n 562 0 dL_law_561 rfl rfl rfl ?_
          refine ok_iload_n 563 3 dL_law_562 rfl rfl rfl ?_
          refine ok_iconst 564 4 dL_law_563 rfl rfl ?_
          refine ok_iadd 565 dL_law_564 rfl ?_
          refine ok_scrI 566 dL_law_565 rfl ?_
          refine ok_aload_n 567 0 dL_law_566 rfl rfl rfl ?_
          refine ok_iload_n 568 3 dL_law_567 rfl rfl rfl ?_
          refine ok_iconst 569 5 dL_law_568 rfl rfl ?_
          refine ok_iadd 570 dL_law_569 rfl ?_
          refine ok_scrI 571 dL_law_570 rfl ?_
          refine ok_callVi (np := 5) (M' := m_X11_feed) (As := [.int (xs (s3_18 + (1 : Int32)).toNatClampNeg), .int (xs (s3_18 + (2 : Int32)).toNatClampNeg), .int (xs (s3_18 + (3 : Int32)).toNatClampNeg), .int (xs (s3_18 + (4 : Int32)).toNatClampNeg), .int (xs (s3_18 + (5 : Int32)).toNatClampNeg)]) (st := []) 574 dL_law_571 rfl rfl km_X11_feed ki_X11_feed kv_X11_feed ml_EncoresLaw_54 (by decide) sg_0 rfl (Nat.le_of_ble_eq_true rfl) rfl rfl rfl (Nat.le_of_ble_eq_true rfl) (c_X11_feed N (d + 48) (xs (s3_18 + (1 : Int32)).toNatClampNeg) (xs (s3_18 + (2 : Int32)).toNatClampNeg) (xs (s3_18 + (3 : Int32)).toNatClampNeg) (xs (s3_18 + (4 : Int32)).toNatClampNeg) (xs (s3_18 + (5 : Int32)).toNatClampNeg) m) ⟨Nat.le_refl _, Nat.le_refl _⟩ (Or.inl rfl) rfl (fun r_571 m_571 _ => ?_)
          refine ok_aload_n 575 2 dL_law_574 rfl rfl rfl ?_
          refine ok_aload_n 576 0 dL_law_575 rfl rfl rfl ?_
          refine ok_iload_n 577 3 dL_law_576 rfl rfl rfl ?_
          refine ok_iconst 578 1 dL_law_577 rfl rfl ?_
          refine ok_iadd 579 dL_law_578 rfl ?_
          refine ok_scrI 580 dL_law_579 rfl ?_
          refine ok_aload_n 581 0 dL_law_580 rfl rfl rfl ?_
          refine ok_iload_n 582 3 dL_law_581 rfl rfl rfl ?_
          refine ok_iconst 583 2 dL_law_582 rfl rfl ?_
          refine ok_iadd 584 dL_law_583 rfl ?_
          refine ok_scrI 585 dL_law_584 rfl ?_
          refine ok_aload_n 586 0 dL_law_585 rfl rfl rfl ?_
          refine ok_iload_n 587 3 dL_law_586 rfl rfl rfl ?_
          refine ok_iconst 588 3 dL_law_587 rfl rfl ?_
          refine ok_iadd 589 dL_law_588 rfl ?_
          refine ok_scrI 590 dL_law_589 rfl ?_
          refine ok_aload_n 591 0 dL_law_590 rfl rfl rfl ?_
          refine ok_iload_n 592 3 dL_law_591 rfl rfl rfl ?_
          refine ok_iconst 593 4 dL_law_592 rfl rfl ?_
          refine ok_iadd 594 dL_law_593 rfl ?_
          refine ok_scrI 595 dL_law_594 rfl ?_
          refine ok_aload_n 596 0 dL_law_595 rfl rfl rfl ?_
          refine ok_iload_n 597 3 dL_law_596 rfl rfl rfl ?_
          refine ok_iconst 598 5 dL_law_597 rfl rfl ?_
          refine ok_iadd 599 dL_law_598 rfl ?_
          refine ok_scrI 600 dL_law_599 rfl ?_
          refine ok_callVi (np := 5) (M' := m_X12_feed) (As := [.int (xs (s3_18 + (1 : Int32)).toNatClampNeg), .int (xs (s3_18 + (2 : Int32)).toNatClampNeg), .int (xs (s3_18 + (3 : Int32)).toNatClampNeg), .int (xs (s3_18 + (4 : Int32)).toNatClampNeg), .int (xs (s3_18 + (5 : Int32)).toNatClampNeg)]) (st := [.int r_571]) 603 dL_law_600 rfl rfl km_X12_feed ki_X12_feed kv_X12_feed ml_EncoresLaw_58 (by decide) sg_123 rfl (Nat.le_of_ble_eq_true rfl) rfl rfl rfl (Nat.le_of_ble_eq_true rfl) (c_X12_feed N (d + 49) (xs (s3_18 + (1 : Int32)).toNatClampNeg) (xs (s3_18 + (2 : Int32)).toNatClampNeg) (xs (s3_18 + (3 : Int32)).toNatClampNeg) (xs (s3_18 + (4 : Int32)).toNatClampNeg) (xs (s3_18 + (5 : Int32)).toNatClampNeg) m_571) ⟨Nat.le_refl _, Nat.le_refl _⟩ (Or.inl rfl) rfl (fun r_600 m_600 _ => ?_)
          refine ok_icmp_eq 1530 606 dL_law_603 (by decide) rfl (fun _ => ?_) (fun _ => ?_)
          · refine ok_iinc 1533 3 6 [some (.ref 3000), some (.ref 0), some (.ref 123), some (.int (s3_18 + 6))] dL_law_1530 rfl rfl rfl (by decide) rfl ?_
            refine ok_goto 18 dL_law_1533 (by decide) ?_
            exact ok_less [some (.ref 3000), some (.ref 0), some (.ref 123), some (.int (s3_18 + 6))] (And.intro rfl (And.intro rfl (And.intro rfl (And.intro rfl (trivial))))) (hX (s3_18 + 6) m_600)
          · refine ok_iconst 607 0 dL_law_606 rfl rfl ?_
            exact ok_zretc dL_law_607 rfl rfl
        · refine ok_aload_n 609 1 dL_law_608 rfl rfl rfl ?_
          refine ok_aload_n 610 0 dL_law_609 rfl rfl rfl ?_
          refine ok_iload_n 611 3 dL_law_610 rfl rfl rfl ?_
          refine ok_iconst 612 1 dL_law_611 rfl rfl ?_
          refine ok_iadd 613 dL_law_612 rfl ?_
          refine ok_scrI 614 dL_law_613 rfl ?_
          refine ok_callVi (np := 1) (M' := m_X11_end) (As := [.int (xs (s3_18 + (1 : Int32)).toNatClampNeg)]) (st := []) 617 dL_law_614 rfl rfl km_X11_end ki_X11_end kv_X11_end ml_EncoresLaw_59 (by decide) sg_0 rfl (Nat.le_of_ble_eq_true rfl) rfl rfl rfl (Nat.le_of_ble_eq_true rfl) (c_X11_end N (d + 48) (xs (s3_18 + (1 : Int32)).toNatClampNeg) m) ⟨Nat.le_refl _, Nat.le_refl _⟩ (Or.inl rfl) rfl (fun r_614 m_614 _ => ?_)
          refine ok_aload_n 618 2 dL_law_617 rfl rfl rfl ?_
          refine ok_aload_n 619 0 dL_law_618 rfl rfl rfl ?_
          refine ok_iload_n 620 3 dL_law_619 rfl rfl rfl ?_
          refine ok_iconst 621 1 dL_law_620 rfl rfl ?_
          refine ok_iadd 622 dL_law_621 rfl ?_
          refine ok_scrI 623 dL_law_622 rfl ?_
          refine ok_callVi (np := 1) (M' := m_X12_end) (As := [.int (xs (s3_18 + (1 : Int32)).toNatClampNeg)]) (st := [.int r_614]) 626 dL_law_623 rfl rfl km_X12_end ki_X12_end kv_X12_end ml_EncoresLaw_63 (by decide) sg_123 rfl (Nat.le_of_ble_eq_true rfl) rfl rfl rfl (Nat.le_of_ble_eq_true rfl) (c_X12_end N (d + 48) (xs (s3_18 + (1 : Int32)).toNatClampNeg) m_614) ⟨Nat.le_refl _, Nat.le_refl _⟩ (Or.inl rfl) rfl (fun r_623 m_623 _ => ?_)
          refine ok_icmp_eq 1530 629 dL_law_626 (by decide) rfl (fun _ => ?_) (fun _ => ?_)
          · refine ok_iinc 1533 3 6 [some (.ref 3000), some (.ref 0), some (.ref 123), some (.int (s3_18 + 6))] dL_law_1530 rfl rfl rfl (by decide) rfl ?_
            refine ok_goto 18 dL_law_1533 (by decide) ?_
            exact ok_less [some (.ref 3000), some (.ref 0), some (.ref 123), some (.int (s3_18 + 6))] (And.intro rfl (And.intro rfl (And.intro rfl (And.intro rfl (trivial))))) (hX (s3_18 + 6) m_623)
          · refine ok_iconst 630 0 dL_law_629 rfl rfl ?_
            exact ok_zretc dL_law_630 rfl rfl
        · refine ok_aload_n 632 1 dL_law_631 rfl rfl rfl ?_
          refine ok_aload_n 633 0 dL_law_632 rfl rfl rfl ?_
          refine ok_iload_n 634 3 dL_law_633 rfl rfl rfl ?_
          refine ok_iconst 635 1 dL_law_634 rfl rfl ?_
          refine ok_iadd 636 dL_law_635 rfl ?_
          refine ok_scrI 637 dL_law_636 rfl ?_
          refine ok_callVi (np := 1) (M' := m_X11_text) (As := [.int (xs (s3_18 + (1 : Int32)).toNatClampNeg)]) (st := []) 640 dL_law_637 rfl rfl km_X11_text ki_X11_text kv_X11_text ml_EncoresLaw_64 (by decide) sg_0 rfl (Nat.le_of_ble_eq_true rfl) rfl rfl rfl (Nat.le_of_ble_eq_true rfl) (c_X11_text N (d + 40) (xs (s3_18 + (1 : Int32)).toNatClampNeg) m) ⟨Nat.le_refl _, Nat.le_refl _⟩ (Or.inl rfl) rfl (fun r_637 m_637 _ => ?_)
          refine ok_aload_n 641 2 dL_law_640 rfl rfl rfl ?_
          refine ok_aload_n 642 0 dL_law_641 rfl rfl rfl ?_
          refine ok_iload_n 643 3 dL_law_642 rfl rfl rfl ?_
          refine ok_iconst 644 1 dL_law_643 rfl rfl ?_
          refine ok_iadd 645 dL_law_644 rfl ?_
          refine ok_scrI 646 dL_law_645 rfl ?_
          refine ok_callVi (np := 1) (M' := m_X12_text) (As := [.int (xs (s3_18 + (1 : Int32)).toNatClampNeg)]) (st := [.int r_637]) 649 dL_law_646 rfl rfl km_X12_text ki_X12_text kv_X12_text ml_EncoresLaw_67 (by decide) sg_123 rfl (Nat.le_of_ble_eq_true rfl) rfl rfl rfl (Nat.le_of_ble_eq_true rfl) (c_X12_text N (d + 0) (xs (s3_18 + (1 : Int32)).toNatClampNeg) m_637) ⟨Nat.le_refl _, Nat.le_refl _⟩ (Or.inl rfl) rfl (fun r_646 m_646 _ => ?_)
          refine ok_icmp_eq 1530 652 dL_law_649 (by decide) rfl (fun _ => ?_) (fun _ => ?_)
          · refine ok_iinc 1533 3 6 [some (.ref 3000), some (.ref 0), some (.ref 123), some (.int (s3_18 + 6))] dL_law_1530 rfl rfl rfl (by decide) rfl ?_
            refine ok_goto 18 dL_law_1533 (by decide) ?_
            exact ok_less [some (.ref 3000), some (.ref 0), some (.ref 123), some (.int (s3_18 + 6))] (And.intro rfl (And.intro rfl (And.intro rfl (And.intro rfl (trivial))))) (hX (s3_18 + 6) m_646)
          · refine ok_iconst 653 0 dL_law_652 rfl rfl ?_
            exact ok_zretc dL_law_653 rfl rfl
        · refine ok_aload_n 655 1 dL_law_654 rfl rfl rfl ?_
          refine ok_aload_n 656 0 dL_law_655 rfl rfl rfl ?_
          refine ok_iload_n 657 3 dL_law_656 rfl rfl rfl ?_
          refine ok_iconst 658 1 dL_law_657 rfl rfl ?_
          refine ok_iadd 659 dL_law_658 rfl ?_
          refine ok_scrI 660 dL_law_659 rfl ?_
          refine ok_callVi (np := 1) (M' := m_X11_fault) (As := [.int (xs (s3_18 + (1 : Int32)).toNatClampNeg)]) (st := []) 663 dL_law_660 rfl rfl km_X11_fault ki_X11_fault kv_X11_fault ml_EncoresLaw_68 (by decide) sg_0 rfl (Nat.le_of_ble_eq_true rfl) rfl rfl rfl (Nat.le_of_ble_eq_true rfl) (c_X11_fault N (d + 49) (xs (s3_18 + (1 : Int32)).toNatClampNeg) m) ⟨Nat.le_refl _, Nat.le_refl _⟩ (Or.inl rfl) rfl (fun r_660 m_660 _ => ?_)
          refine ok_aload_n 664 2 dL_law_663 rfl rfl rfl ?_
          refine ok_aload_n 665 0 dL_law_664 rfl rfl rfl ?_
          refine ok_iload_n 666 3 dL_law_665 rfl rfl rfl ?_
          refine ok_iconst 667 1 dL_law_666 rfl rfl ?_
          refine ok_iadd 668 dL_law_667 rfl ?_
          refine ok_scrI 669 dL_law_668 rfl ?_
          refine ok_callVi (np := 1) (M' := m_X12_fault) (As := [.int (xs (s3_18 + (1 : Int32)).toNatClampNeg)]) (st := [.int r_660]) 672 dL_law_669 rfl rfl km_X12_fault ki_X12_fault kv_X12_fault ml_EncoresLaw_71 (by decide) sg_123 rfl (Nat.le_of_ble_eq_true rfl) rfl rfl rfl (Nat.le_of_ble_eq_true rfl) (c_X12_fault N (d + 49) (xs (s3_18 + (1 : Int32)).toNatClampNeg) m_660) ⟨Nat.le_refl _, Nat.le_refl _⟩ (Or.inl rfl) rfl (fun r_669 m_669 _ => ?_)
          refine ok_icmp_eq 1530 675 dL_law_672 (by decide) rfl (fun _ => ?_) (fun _ => ?_)
          · refine ok_iinc 1533 3 6 [some (.ref 3000), some (.ref 0), some (.ref 123), some (.int (s3_18 + 6))] dL_law_1530 rfl rfl rfl (by decide) rfl ?_
            refine ok_goto 18 dL_law_1533 (by decide) ?_
            exact ok_less [some (.ref 3000), some (.ref 0), some (.ref 123), some (.int (s3_18 + 6))] (And.intro rfl (And.intro rfl (And.intro rfl (And.intro rfl (trivial))))) (hX (s3_18 + 6) m_669)
          · refine ok_iconst 676 0 dL_law_675 rfl rfl ?_
            exact ok_zretc dL_law_676 rfl rfl
        · refine ok_aload_n 678 1 dL_law_677 rfl rfl rfl ?_
          refine ok_aload_n 679 0 dL_law_678 rfl rfl rfl ?_
          refine ok_iload_n 680 3 dL_law_679 rfl rfl rfl ?_
          refine ok_iconst 681 1 dL_law_680 rfl rfl ?_
          refine ok_iadd 682 dL_law_681 rfl ?_
          refine ok_scrI 683 dL_law_682 rfl ?_
          refine ok_aload_n 684 0 dL_law_683 rfl rfl rfl ?_
          refine ok_iload_n 685 3 dL_law_684 rfl rfl rfl ?_
          refine ok_iconst 686 2 dL_law_685 rfl rfl ?_
          refine ok_iadd 687 dL_law_686 rfl ?_
          refine ok_scrI 688 dL_law_687 rfl ?_
          refine ok_callVi (np := 2) (M' := m_X11_of) (As := [.int (xs (s3_18 + (1 : Int32)).toNatClampNeg), .int (xs (s3_18 + (2 : Int32)).toNatClampNeg)]) (st := []) 691 dL_law_688 rfl rfl km_X11_of ki_X11_of kv_X11_of ml_EncoresLaw_72 (by decide) sg_0 rfl (Nat.le_of_ble_eq_true rfl) rfl rfl rfl (Nat.le_of_ble_eq_true rfl) (c_X11_of N (d + 45) (xs (s3_18 + (1 : Int32)).toNatClampNeg) (xs (s3_18 + (2 : Int32)).toNatClampNeg) m) ⟨Nat.le_refl _, Nat.le_refl _⟩ (Or.inl rfl) rfl (fun r_688 m_688 _ => ?_)
          refine ok_aload_n 692 2 dL_law_691 rfl rfl rfl ?_
          refine ok_aload_n 693 0 dL_law_692 rfl rfl rfl ?_
          refine ok_iload_n 694 3 dL_law_693 rfl rfl rfl ?_
          refine ok_iconst 695 1 dL_law_694 rfl rfl ?_
          refine ok_iadd 696 dL_law_695 rfl ?_
          refine ok_scrI 697 dL_law_696 rfl ?_
          refine ok_aload_n 698 0 dL_law_697 rfl rfl rfl ?_
          refine ok_iload_n 699 3 dL_law_698 rfl rfl rfl ?_
          refine ok_iconst 700 2 dL_law_699 rfl rfl ?_
          refine ok_iadd 701 dL_law_700 rfl ?_
          refine ok_scrI 702 dL_law_701 rfl ?_
          refine ok_callVi (np := 2) (M' := m_X12_of) (As := [.int (xs (s3_18 + (1 : Int32)).toNatClampNeg), .int (xs (s3_18 + (2 : Int32)).toNatClampNeg)]) (st := [.int r_688]) 705 dL_law_702 rfl rfl km_X12_of ki_X12_of kv_X12_of ml_EncoresLaw_76 (by decide) sg_123 rfl (Nat.le_of_ble_eq_true rfl) rfl rfl rfl (Nat.le_of_ble_eq_true rfl) (c_X12_of N (d + 44) (xs (s3_18 + (1 : Int32)).toNatClampNeg) (xs (s3_18 + (2 : Int32)).toNatClampNeg) m_688) ⟨Nat.le_refl _, Nat.le_refl _⟩ (Or.inl rfl) rfl (fun r_702 m_702 _ => ?_)
          refine ok_icmp_eq 1530 708 dL_law_705 (by decide) rfl (fun _ => ?_) (fun _ => ?_)
          · refine ok_iinc 1533 3 6 [some (.ref 3000), some (.ref 0), some (.ref 123), some (.int (s3_18 + 6))] dL_law_1530 rfl rfl rfl (by decide) rfl ?_
            refine ok_goto 18 dL_law_1533 (by decide) ?_
            exact ok_less [some (.ref 3000), some (.ref 0), some (.ref 123), some (.int (s3_18 + 6))] (And.intro rfl (And.intro rfl (And.intro rfl (And.intro rfl (trivial))))) (hX (s3_18 + 6) m_702)
          · refine ok_iconst 709 0 dL_law_708 rfl rfl ?_
            exact ok_zretc dL_law_709 rfl rfl
        · refine ok_aload_n 711 1 dL_law_710 rfl rfl rfl ?_
          refine ok_aload_n 712 0 dL_law_711 rfl rfl rfl ?_
          refine ok_iload_n 713 3 dL_law_712 rfl rfl rfl ?_
          refine ok_iconst 714 1 dL_law_713 rfl rfl ?_
          refine ok_iadd 715 dL_law_714 rfl ?_
          refine ok_scrI 716 dL_law_715 rfl ?_
          refine ok_aload_n 717 0 dL_law_716 rfl rfl rfl ?_
          refine ok_iload_n 718 3 dL_law_717 rfl rfl rfl ?_
          refine ok_iconst 719 2 dL_law_718 rfl rfl ?_
          refine ok_iadd 720 dL_law_719 rfl ?_
          refine ok_scrI 721 dL_law_720 rfl ?_
          refine ok_callVi (np := 2) (M' := m_X11_deedOf) (As := [.int (xs (s3_18 + (1 : Int32)).toNatClampNeg), .int (xs (s3_18 + (2 : Int32)).toNatClampNeg)]) (st := []) 724 dL_law_721 rfl rfl km_X11_deedOf ki_X11_deedOf kv_X11_deedOf ml_EncoresLaw_77 (by decide) sg_0 rfl (Nat.le_of_ble_eq_true rfl) rfl rfl rfl (Nat.le_of_ble_eq_true rfl) (c_X11_deedOf N (d + 45) (xs (s3_18 + (1 : Int32)).toNatClampNeg) (xs (s3_18 + (2 : Int32)).toNatClampNeg) m) ⟨Nat.le_refl _, Nat.le_refl _⟩ (Or.inl rfl) rfl (fun r_721 m_721 _ => ?_)
          refine ok_aload_n 725 2 dL_law_724 rfl rfl rfl ?_
          refine ok_aload_n 726 0 dL_law_725 rfl rfl rfl ?_
          refine ok_iload_n 727 3 dL_law_726 rfl rfl rfl ?_
          refine ok_iconst 728 1 dL_law_727 rfl rfl ?_
          refine ok_iadd 729 dL_law_728 rfl ?_
          refine ok_scrI 730 dL_law_729 rfl ?_
          refine ok_aload_n 731 0 dL_law_730 rfl rfl rfl ?_
          refine ok_iload_n 732 3 dL_law_731 rfl rfl rfl ?_
          refine ok_iconst 733 2 dL_law_732 rfl rfl ?_
          refine ok_iadd 734 dL_law_733 rfl ?_
          refine ok_scrI 735 dL_law_734 rfl ?_
          refine ok_callVi (np := 2) (M' := m_X12_deedOf) (As := [.int (xs (s3_18 + (1 : Int32)).toNatClampNeg), .int (xs (s3_18 + (2 : Int32)).toNatClampNeg)]) (st := [.int r_721]) 738 dL_law_735 rfl rfl km_X12_deedOf ki_X12_deedOf kv_X12_deedOf ml_EncoresLaw_80 (by decide) sg_123 rfl (Nat.le_of_ble_eq_true rfl) rfl rfl rfl (Nat.le_of_ble_eq_true rfl) (c_X12_deedOf N (d + 44) (xs (s3_18 + (1 : Int32)).toNatClampNeg) (xs (s3_18 + (2 : Int32)).toNatClampNeg) m_721) ⟨Nat.le_refl _, Nat.le_refl _⟩ (Or.inl rfl) rfl (fun r_735 m_735 _ => ?_)
          refine ok_icmp_eq 1530 741 dL_law_738 (by decide) rfl (fun _ => ?_) (fun _ => ?_)
          · refine ok_iinc 1533 3 6 [some (.ref 3000), some (.ref 0), some (.ref 123), some (.int (s3_18 + 6))] dL_law_1530 rfl rfl rfl (by decide) rfl ?_
            refine ok_goto 18 dL_law_1533 (by decide) ?_
            exact ok_less [some (.ref 3000), some (.ref 0), some (.ref 123), some (.int (s3_18 + 6))] (And.intro rfl (And.intro rfl (And.intro rfl (And.intro rfl (trivial))))) (hX (s3_18 + 6) m_735)
          · refine ok_iconst 742 0 dL_law_741 rfl rfl ?_
            exact ok_zretc dL_law_742 rfl rfl
        · refine ok_aload_n 744 1 dL_law_743 rfl rfl rfl ?_
          refine ok_aload_n 745 0 dL_law_744 rfl rfl rfl ?_
          refine ok_iload_n 746 3 dL_law_745 rfl rfl rfl ?_
          refine ok_iconst 747 1 dL_law_746 rfl rfl ?_
          refine ok_iadd 748 dL_law_747 rfl ?_
          refine ok_scrI 749 dL_law_748 rfl ?_
          refine ok_callVi (np := 1) (M' := m_X11_statute) (As := [.int (xs (s3_18 + (1 : Int32)).toNatClampNeg)]) (st := []) 752 dL_law_749 rfl rfl km_X11_statute ki_X11_statute kv_X11_statute ml_EncoresLaw_81 (by decide) sg_0 rfl (Nat.le_of_ble_eq_true rfl) rfl rfl rfl (Nat.le_of_ble_eq_true rfl) (c_X11_statute N (d + 46) (xs (s3_18 + (1 : Int32)).toNatClampNeg) m) ⟨Nat.le_refl _, Nat.le_refl _⟩ (Or.inl rfl) rfl (fun r_749 m_749 _ => ?_)
          refine ok_aload_n 753 2 dL_law_752 rfl rfl rfl ?_
          refine ok_aload_n 754 0 dL_law_753 rfl rfl rfl ?_
          refine ok_iload_n 755 3 dL_law_754 rfl rfl rfl ?_
          refine ok_iconst 756 1 dL_law_755 rfl rfl ?_
          refine ok_iadd 757 dL_law_756 rfl ?_
          refine ok_scrI 758 dL_law_757 rfl ?_
          refine ok_callVi (np := 1) (M' := m_X12_statute) (As := [.int (xs (s3_18 + (1 : Int32)).toNatClampNeg)]) (st := [.int r_749]) 761 dL_law_758 rfl rfl km_X12_statute ki_X12_statute kv_X12_statute ml_EncoresLaw_84 (by decide) sg_123 rfl (Nat.le_of_ble_eq_true rfl) rfl rfl rfl (Nat.le_of_ble_eq_true rfl) (c_X12_statute N (d + 47) (xs (s3_18 + (1 : Int32)).toNatClampNeg) m_749) ⟨Nat.le_refl _, Nat.le_refl _⟩ (Or.inl rfl) rfl (fun r_758 m_758 _ => ?_)
          refine ok_icmp_eq 1530 764 dL_law_761 (by decide) rfl (fun _ => ?_) (fun _ => ?_)
          · refine ok_iinc 1533 3 6 [some (.ref 3000), some (.ref 0), some (.ref 123), some (.int (s3_18 + 6))] dL_law_1530 rfl rfl rfl (by decide) rfl ?_
            refine ok_goto 18 dL_law_1533 (by decide) ?_
            exact ok_less [some (.ref 3000), some (.ref 0), some (.ref 123), some (.int (s3_18 + 6))] (And.intro rfl (And.intro rfl (And.intro rfl (And.intro rfl (trivial))))) (hX (s3_18 + 6) m_758)
          · refine ok_iconst 765 0 dL_law_764 rfl rfl ?_
            exact ok_zretc dL_law_765 rfl rfl
        · refine ok_aload_n 767 1 dL_law_766 rfl rfl rfl ?_
          refine ok_aload_n 768 0 dL_law_767 rfl rfl rfl ?_
          refine ok_iload_n 769 3 dL_law_768 rfl rfl rfl ?_
          refine ok_iconst 770 1 dL_law_769 rfl rfl ?_
          refine ok_iadd 771 dL_law_770 rfl ?_
          refine ok_scrI 772 dL_law_771 rfl ?_
          refine ok_aload_n 773 0 dL_law_772 rfl rfl rfl ?_
          refine ok_iload_n 774 3 dL_law_773 rfl rfl rfl ?_
          refine ok_iconst 775 2 dL_law_774 rfl rfl ?_
          refine ok_iadd 776 dL_law_775 rfl ?_
          refine ok_scrI 777 dL_law_776 rfl ?_
          refine ok_callVi (np := 2) (M' := m_X11_book) (As := [.int (xs (s3_18 + (1 : Int32)).toNatClampNeg), .int (xs (s3_18 + (2 : Int32)).toNatClampNeg)]) (st := []) 780 dL_law_777 rfl rfl km_X11_book ki_X11_book kv_X11_book ml_EncoresLaw_85 (by decide) sg_0 rfl (Nat.le_of_ble_eq_true rfl) rfl rfl rfl (Nat.le_of_ble_eq_true rfl) (c_X11_book N (d + 48) (xs (s3_18 + (1 : Int32)).toNatClampNeg) (xs (s3_18 + (2 : Int32)).toNatClampNeg) m) ⟨Nat.le_refl _, Nat.le_refl _⟩ (Or.inl rfl) rfl (fun r_777 m_777 _ => ?_)
          refine ok_aload_n 781 2 dL_law_780 rfl rfl rfl ?_
          refine ok_aload_n 782 0 dL_law_781 rfl rfl rfl ?_
          refine ok_iload_n 783 3 dL_law_782 rfl rfl rfl ?_
          refine ok_iconst 784 1 dL_law_783 rfl rfl ?_
          refine ok_iadd 785 dL_law_784 rfl ?_
          refine ok_scrI 786 dL_law_785 rfl ?_
          refine ok_aload_n 787 0 dL_law_786 rfl rfl rfl ?_
          refine ok_iload_n 788 3 dL_law_787 rfl rfl rfl ?_
          refine ok_iconst 789 2 dL_law_788 rfl rfl ?_
          refine ok_iadd 790 dL_law_789 rfl ?_
          refine ok_scrI 791 dL_law_790 rfl ?_
          refine ok_callVi (np := 2) (M' := m_X12_book) (As := [.int (xs (s3_18 + (1 : Int32)).toNatClampNeg), .int (xs (s3_18 + (2 : Int32)).toNatClampNeg)]) (st := [.int r_777]) 794 dL_law_791 rfl rfl km_X12_book ki_X12_book kv_X12_book ml_EncoresLaw_88 (by decide) sg_123 rfl (Nat.le_of_ble_eq_true rfl) rfl rfl rfl (Nat.le_of_ble_eq_true rfl) (c_X12_book N (d + 48) (xs (s3_18 + (1 : Int32)).toNatClampNeg) (xs (s3_18 + (2 : Int32)).toNatClampNeg) m_777) ⟨Nat.le_refl _, Nat.le_refl _⟩ (Or.inl rfl) rfl (fun r_791 m_791 _ => ?_)
          refine ok_icmp_eq 1530 797 dL_law_794 (by decide) rfl (fun _ => ?_) (fun _ => ?_)
          · refine ok_iinc 1533 3 6 [some (.ref 3000), some (.ref 0), some (.ref 123), some (.int (s3_18 + 6))] dL_law_1530 rfl rfl rfl (by decide) rfl ?_
            refine ok_goto 18 dL_law_1533 (by decide) ?_
            exact ok_less [some (.ref 3000), some (.ref 0), some (.ref 123), some (.int (s3_18 + 6))] (And.intro rfl (And.intro rfl (And.intro rfl (And.intro rfl (trivial))))) (hX (s3_18 + 6) m_791)
          · refine ok_iconst 798 0 dL_law_797 rfl rfl ?_
            exact ok_zretc dL_law_798 rfl rfl
        · refine ok_aload_n 800 1 dL_law_799 rfl rfl rfl ?_
          refine ok_aload_n 801 0 dL_law_800 rfl rfl rfl ?_
          refine ok_iload_n 802 3 dL_law_801 rfl rfl rfl ?_
          refine ok_iconst 803 1 dL_law_802 rfl rfl ?_
          refine ok_iadd 804 dL_law_803 rfl ?_
          refine ok_scrI 805 dL_law_804 rfl ?_
          refine ok_callVi (np := 1) (M' := m_X11_goes) (As := [.int (xs (s3_18 + (1 : Int32)).toNatClampNeg)]) (st := []) 808 dL_law_805 rfl rfl km_X11_goes ki_X11_goes kv_X11_goes ml_EncoresLaw_89 (by decide) sg_0 rfl (Nat.le_of_ble_eq_true rfl) rfl rfl rfl (Nat.le_of_ble_eq_true rfl) (c_X11_goes N (d + 42) (xs (s3_18 + (1 : Int32)).toNatClampNeg) m) ⟨Nat.le_refl _, Nat.le_refl _⟩ (Or.inl rfl) rfl (fun r_805 m_805 _ => ?_)
          refine ok_aload_n 809 2 dL_law_808 rfl rfl rfl ?_
          refine ok_aload_n 810 0 dL_law_809 rfl rfl rfl ?_
          refine ok_iload_n 811 3 dL_law_810 rfl rfl rfl ?_
          refine ok_iconst 812 1 dL_law_811 rfl rfl ?_
          refine ok_iadd 813 dL_law_812 rfl ?_
          refine ok_scrI 814 dL_law_813 rfl ?_
          refine ok_callVi (np := 1) (M' := m_X12_goes) (As := [.int (xs (s3_18 + (1 : Int32)).toNatClampNeg)]) (st := [.int r_805]) 817 dL_law_814 rfl rfl km_X12_goes ki_X12_goes kv_X12_goes ml_EncoresLaw_92 (by decide) sg_123 rfl (Nat.le_of_ble_eq_true rfl) rfl rfl rfl (Nat.le_of_ble_eq_true rfl) (c_X12_goes N (d + 40) (xs (s3_18 + (1 : Int32)).toNatClampNeg) m_805) ⟨Nat.le_refl _, Nat.le_refl _⟩ (Or.inl rfl) rfl (fun r_814 m_814 _ => ?_)
          refine ok_icmp_eq 1530 820 dL_law_817 (by decide) rfl (fun _ => ?_) (fun _ => ?_)
          · refine ok_iinc 1533 3 6 [some (.ref 3000), some (.ref 0), some (.ref 123), some (.int (s3_18 + 6))] dL_law_1530 rfl rfl rfl (by decide) rfl ?_
            refine ok_goto 18 dL_law_1533 (by decide) ?_
            exact ok_less [some (.ref 3000), some (.ref 0), some (.ref 123), some (.int (s3_18 + 6))] (And.intro rfl (And.intro rfl (And.intro rfl (And.intro rfl (trivial))))) (hX (s3_18 + 6) m_814)
          · refine ok_iconst 821 0 dL_law_820 rfl rfl ?_
            exact ok_zretc dL_law_821 rfl rfl
        · refine ok_aload_n 823 1 dL_law_822 rfl rfl rfl ?_
          refine ok_aload_n 824 0 dL_law_823 rfl rfl rfl ?_
          refine ok_iload_n 825 3 dL_law_824 rfl rfl rfl ?_
          refine ok_iconst 826 1 dL_law_825 rfl rfl ?_
          refine ok_iadd 827 dL_law_826 rfl ?_
          refine ok_scrI 828 dL_law_827 rfl ?_
          refine ok_aload_n 829 0 dL_law_828 rfl rfl rfl ?_
          refine ok_iload_n 830 3 dL_law_829 rfl rfl rfl ?_
          refine ok_iconst 831 2 dL_law_830 rfl rfl ?_
          refine ok_iadd 832 dL_law_831 rfl ?_
          refine ok_scrI 833 dL_law_832 rfl ?_
          refine ok_callVi (np := 2) (M' := m_X11_settles) (As := [.int (xs (s3_18 + (1 : Int32)).toNatClampNeg), .int (xs (s3_18 + (2 : Int32)).toNatClampNeg)]) (st := []) 836 dL_law_833 rfl rfl km_X11_settles ki_X11_settles kv_X11_settles ml_EncoresLaw_93 (by decide) sg_0 rfl (Nat.le_of_ble_eq_true rfl) rfl rfl rfl (Nat.le_of_ble_eq_true rfl) (c_X11_settles N (d + 43) (xs (s3_18 + (1 : Int32)).toNatClampNeg) (xs (s3_18 + (2 : Int32)).toNatClampNeg) m) ⟨Nat.le_refl _, Nat.le_refl _⟩ (Or.inl rfl) rfl (fun r_833 m_833 _ => ?_)
          refine ok_aload_n 837 2 dL_law_836 rfl rfl rfl ?_
          refine ok_aload_n 838 0 dL_law_837 rfl rfl rfl ?_
          refine ok_iload_n 839 3 dL_law_838 rfl rfl rfl ?_
          refine ok_iconst 840 1 dL_law_839 rfl rfl ?_
          refine ok_iadd 841 dL_law_840 rfl ?_
          refine ok_scrI 842 dL_law_841 rfl ?_
          refine ok_aload_n 843 0 dL_law_842 rfl rfl rfl ?_
          refine ok_iload_n 844 3 dL_law_843 rfl rfl rfl ?_
          refine ok_iconst 845 2 dL_law_844 rfl rfl ?_
          refine ok_iadd 846 dL_law_845 rfl ?_
          refine ok_scrI 847 dL_law_846 rfl ?_
          refine ok_callVi (np := 2) (M' := m_X12_settles) (As := [.int (xs (s3_18 + (1 : Int32)).toNatClampNeg), .int (xs (s3_18 + (2 : Int32)).toNatClampNeg)]) (st := [.int r_833]) 850 dL_law_847 rfl rfl km_X12_settles ki_X12_settles kv_X12_settles ml_EncoresLaw_96 (by decide) sg_123 rfl (Nat.le_of_ble_eq_true rfl) rfl rfl rfl (Nat.le_of_ble_eq_true rfl) (c_X12_settles N (d + 42) (xs (s3_18 + (1 : Int32)).toNatClampNeg) (xs (s3_18 + (2 : Int32)).toNatClampNeg) m_833) ⟨Nat.le_refl _, Nat.le_refl _⟩ (Or.inl rfl) rfl (fun r_847 m_847 _ => ?_)
          refine ok_icmp_eq 1530 853 dL_law_850 (by decide) rfl (fun _ => ?_) (fun _ => ?_)
          · refine ok_iinc 1533 3 6 [some (.ref 3000), some (.ref 0), some (.ref 123), some (.int (s3_18 + 6))] dL_law_1530 rfl rfl rfl (by decide) rfl ?_
            refine ok_goto 18 dL_law_1533 (by decide) ?_
            exact ok_less [some (.ref 3000), some (.ref 0), some (.ref 123), some (.int (s3_18 + 6))] (And.intro rfl (And.intro rfl (And.intro rfl (And.intro rfl (trivial))))) (hX (s3_18 + 6) m_847)
          · refine ok_iconst 854 0 dL_law_853 rfl rfl ?_
            exact ok_zretc dL_law_854 rfl rfl
        · refine ok_aload_n 856 1 dL_law_855 rfl rfl rfl ?_
          refine ok_aload_n 857 0 dL_law_856 rfl rfl rfl ?_
          refine ok_iload_n 858 3 dL_law_857 rfl rfl rfl ?_
          refine ok_iconst 859 1 dL_law_858 rfl rfl ?_
          refine ok_iadd 860 dL_law_859 rfl ?_
          refine ok_scrI 861 dL_law_860 rfl ?_
          refine ok_aload_n 862 0 dL_law_861 rfl rfl rfl ?_
          refine ok_iload_n 863 3 dL_law_862 rfl rfl rfl ?_
          refine ok_iconst 864 2 dL_law_863 rfl rfl ?_
          refine ok_iadd 865 dL_law_864 rfl ?_
          refine ok_scrI 866 dL_law_865 rfl ?_
          refine ok_aload_n 867 0 dL_law_866 rfl rfl rfl ?_
          refine ok_iload_n 868 3 dL_law_867 rfl rfl rfl ?_
          refine ok_iconst 869 3 dL_law_868 rfl rfl ?_
          refine ok_iadd 870 dL_law_869 rfl ?_
          refine ok_scrI 871 dL_law_870 rfl ?_
          refine ok_callVi (np := 3) (M' := m_X11_makes) (As := [.int (xs (s3_18 + (1 : Int32)).toNatClampNeg), .int (xs (s3_18 + (2 : Int32)).toNatClampNeg), .int (xs (s3_18 + (3 : Int32)).toNatClampNeg)]) (st := []) 874 dL_law_871 rfl rfl km_X11_makes ki_X11_makes kv_X11_makes ml_EncoresLaw_97 (by decide) sg_0 rfl (Nat.le_of_ble_eq_true rfl) rfl rfl rfl (Nat.le_of_ble_eq_true rfl) (c_X11_makes N (d + 42) (xs (s3_18 + (1 : Int32)).toNatClampNeg) (xs (s3_18 + (2 : Int32)).toNatClampNeg) (xs (s3_18 + (3 : Int32)).toNatClampNeg) m) ⟨Nat.le_refl _, Nat.le_refl _⟩ (Or.inl rfl) rfl (fun r_871 m_871 _ => ?_)
          refine ok_aload_n 875 2 dL_law_874 rfl rfl rfl ?_
          refine ok_aload_n 876 0 dL_law_875 rfl rfl rfl ?_
          refine ok_iload_n 877 3 dL_law_876 rfl rfl rfl ?_
          refine ok_iconst 878 1 dL_law_877 rfl rfl ?_
          refine ok_iadd 879 dL_law_878 rfl ?_
          refine ok_scrI 880 dL_law_879 rfl ?_
          refine ok_aload_n 881 0 dL_law_880 rfl rfl rfl ?_
          refine ok_iload_n 882 3 dL_law_881 rfl rfl rfl ?_
          refine ok_iconst 883 2 dL_law_882 rfl rfl ?_
          refine ok_iadd 884 dL_law_883 rfl ?_
          refine ok_scrI 885 dL_law_884 rfl ?_
          refine ok_aload_n 886 0 dL_law_885 rfl rfl rfl ?_
          refine ok_iload_n 887 3 dL_law_886 rfl rfl rfl ?_
          refine ok_iconst 888 3 dL_law_887 rfl rfl ?_
          refine ok_iadd 889 dL_law_888 rfl ?_
          refine ok_scrI 890 dL_law_889 rfl ?_
          refine ok_callVi (np := 3) (M' := m_X12_makes) (As := [.int (xs (s3_18 + (1 : Int32)).toNatClampNeg), .int (xs (s3_18 + (2 : Int32)).toNatClampNeg), .int (xs (s3_18 + (3 : Int32)).toNatClampNeg)]) (st := [.int r_871]) 893 dL_law_890 rfl rfl km_X12_makes ki_X12_makes kv_X12_makes ml_EncoresLaw_100 (by decide) sg_123 rfl (Nat.le_of_ble_eq_true rfl) rfl rfl rfl (Nat.le_of_ble_eq_true rfl) (c_X12_makes N (d + 40) (xs (s3_18 + (1 : Int32)).toNatClampNeg) (xs (s3_18 + (2 : Int32)).toNatClampNeg) (xs (s3_18 + (3 : Int32)).toNatClampNeg) m_871) ⟨Nat.le_refl _, Nat.le_refl _⟩ (Or.inl rfl) rfl (fun r_890 m_890 _ => ?_)
          refine ok_icmp_eq 1530 896 dL_law_893 (by decide) rfl (fun _ => ?_) (fun _ => ?_)
          · refine ok_iinc 1533 3 6 [some (.ref 3000), some (.ref 0), some (.ref 123), some (.int (s3_18 + 6))] dL_law_1530 rfl rfl rfl (by decide) rfl ?_
            refine ok_goto 18 dL_law_1533 (by decide) ?_
            exact ok_less [some (.ref 3000), some (.ref 0), some (.ref 123), some (.int (s3_18 + 6))] (And.intro rfl (And.intro rfl (And.intro rfl (And.intro rfl (trivial))))) (hX (s3_18 + 6) m_890)
          · refine ok_iconst 897 0 dL_law_896 rfl rfl ?_
            exact ok_zretc dL_law_897 rfl rfl
        · refine ok_aload_n 899 1 dL_law_898 rfl rfl rfl ?_
          refine ok_aload_n 900 0 dL_law_899 rfl rfl rfl ?_
          refine ok_iload_n 901 3 dL_law_900 rfl rfl rfl ?_
          refine ok_iconst 902 1 dL_law_901 rfl rfl ?_
          refine ok_iadd 903 dL_law_902 rfl ?_
          refine ok_scrI 904 dL_law_903 rfl ?_
          refine ok_aload_n 905 0 dL_law_904 rfl rfl rfl ?_
          refine ok_iload_n 906 3 dL_law_905 rfl rfl rfl ?_
          refine ok_iconst 907 2 dL_law_906 rfl rfl ?_
          refine ok_iadd 908 dL_law_907 rfl ?_
          refine ok_scrI 909 dL_law_908 rfl ?_
          refine ok_callVi (np := 2) (M' := m_X11_fills) (As := [.int (xs (s3_18 + (1 : Int32)).toNatClampNeg), .int (xs (s3_18 + (2 : Int32)).toNatClampNeg)]) (st := []) 912 dL_law_909 rfl rfl km_X11_fills ki_X11_fills kv_X11_fills ml_EncoresLaw_101 (by decide) sg_0 rfl (Nat.le_of_ble_eq_true rfl) rfl rfl rfl (Nat.le_of_ble_eq_true rfl) (c_X11_fills N (d + 46) (xs (s3_18 + (1 : Int32)).toNatClampNeg) (xs (s3_18 + (2 : Int32)).toNatClampNeg) m) ⟨Nat.le_refl _, Nat.le_refl _⟩ (Or.inl rfl) rfl (fun r_909 m_909 _ => ?_)
          refine ok_aload_n 913 2 dL_law_912 rfl rfl rfl ?_
          refine ok_aload_n 914 0 dL_law_913 rfl rfl rfl ?_
          refine ok_iload_n 915 3 dL_law_914 rfl rfl rfl ?_
          refine ok_iconst 916 1 dL_law_915 rfl rfl ?_
          refine ok_iadd 917 dL_law_916 rfl ?_
          refine ok_scrI 918 dL_law_917 rfl ?_
          refine ok_aload_n 919 0 dL_law_918 rfl rfl rfl ?_
          refine ok_iload_n 920 3 dL_law_919 rfl rfl rfl ?_
          refine ok_iconst 921 2 dL_law_920 rfl rfl ?_
          refine ok_iadd 922 dL_law_921 rfl ?_
          refine ok_scrI 923 dL_law_922 rfl ?_
          refine ok_callVi (np := 2) (M' := m_X12_fills) (As := [.int (xs (s3_18 + (1 : Int32)).toNatClampNeg), .int (xs (s3_18 + (2 : Int32)).toNatClampNeg)]) (st := [.int r_909]) 926 dL_law_923 rfl rfl km_X12_fills ki_X12_fills kv_X12_fills ml_EncoresLaw_104 (by decide) sg_123 rfl (Nat.le_of_ble_eq_true rfl) rfl rfl rfl (Nat.le_of_ble_eq_true rfl) (c_X12_fills N (d + 48) (xs (s3_18 + (1 : Int32)).toNatClampNeg) (xs (s3_18 + (2 : Int32)).toNatClampNeg) m_909) ⟨Nat.le_refl _, Nat.le_refl _⟩ (Or.inl rfl) rfl (fun r_923 m_923 _ => ?_)
          refine ok_icmp_eq 1530 929 dL_law_926 (by decide) rfl (fun _ => ?_) (fun _ => ?_)
          · refine ok_iinc 1533 3 6 [some (.ref 3000), some (.ref 0), some (.ref 123), some (.int (s3_18 + 6))] dL_law_1530 rfl rfl rfl (by decide) rfl ?_
            refine ok_goto 18 dL_law_1533 (by decide) ?_
            exact ok_less [some (.ref 3000), some (.ref 0), some (.ref 123), some (.int (s3_18 + 6))] (And.intro rfl (And.intro rfl (And.intro rfl (And.intro rfl (trivial))))) (hX (s3_18 + 6) m_923)
          · refine ok_iconst 930 0 dL_law_929 rfl rfl ?_
            exact ok_zretc dL_law_930 rfl rfl
        · refine ok_aload_n 932 1 dL_law_931 rfl rfl rfl ?_
          refine ok_aload_n 933 0 dL_law_932 rfl rfl rfl ?_
          refine ok_iload_n 934 3 dL_law_933 rfl rfl rfl ?_
          refine ok_iconst 935 1 dL_law_934 rfl rfl ?_
          refine ok_iadd 936 dL_law_935 rfl ?_
          refine ok_scrI 937 dL_law_936 rfl ?_
          refine ok_aload_n 938 0 dL_law_937 rfl rfl rfl ?_
          refine ok_iload_n 939 3 dL_law_938 rfl rfl rfl ?_
          refine ok_iconst 940 2 dL_law_939 rfl rfl ?_
          refine ok_iadd 941 dL_law_940 rfl ?_
          refine ok_scrI 942 dL_law_941 rfl ?_
          refine ok_callVi (np := 2) (M' := m_X11_lines) (As := [.int (xs (s3_18 + (1 : Int32)).toNatClampNeg), .int (xs (s3_18 + (2 : Int32)).toNatClampNeg)]) (st := []) 945 dL_law_942 rfl rfl km_X11_lines ki_X11_lines kv_X11_lines ml_EncoresLaw_105 (by decide) sg_0 rfl (Nat.le_of_ble_eq_true rfl) rfl rfl rfl (Nat.le_of_ble_eq_true rfl) (c_X11_lines N (d + 45) (xs (s3_18 + (1 : Int32)).toNatClampNeg) (xs (s3_18 + (2 : Int32)).toNatClampNeg) m) ⟨Nat.le_refl _, Nat.le_refl _⟩ (Or.inl rfl) rfl (fun r_942 m_942 _ => ?_)
          refine ok_aload_n 946 2 dL_law_945 rfl rfl rfl ?_
          refine ok_aload_n 947 0 dL_law_946 rfl rfl rfl ?_
          refine ok_iload_n 948 3 dL_law_947 rfl rfl rfl ?_
          refine ok_iconst 949 1 dL_law_948 rfl rfl ?_
          refine ok_iadd 950 dL_law_949 rfl ?_
          refine ok_scrI 951 dL_law_950 rfl ?_
          refine ok_aload_n 952 0 dL_law_951 rfl rfl rfl ?_
          refine ok_iload_n 953 3 dL_law_952 rfl rfl rfl ?_
          refine ok_iconst 954 2 dL_law_953 rfl rfl ?_
          refine ok_iadd 955 dL_law_954 rfl ?_
          refine ok_scrI 956 dL_law_955 rfl ?_
          refine ok_callVi (np := 2) (M' := m_X12_lines) (As := [.int (xs (s3_18 + (1 : Int32)).toNatClampNeg), .int (xs (s3_18 + (2 : Int32)).toNatClampNeg)]) (st := [.int r_942]) 959 dL_law_956 rfl rfl km_X12_lines ki_X12_lines kv_X12_lines ml_EncoresLaw_108 (by decide) sg_123 rfl (Nat.le_of_ble_eq_true rfl) rfl rfl rfl (Nat.le_of_ble_eq_true rfl) (c_X12_lines N (d + 47) (xs (s3_18 + (1 : Int32)).toNatClampNeg) (xs (s3_18 + (2 : Int32)).toNatClampNeg) m_942) ⟨Nat.le_refl _, Nat.le_refl _⟩ (Or.inl rfl) rfl (fun r_956 m_956 _ => ?_)
          refine ok_icmp_eq 1530 962 dL_law_959 (by decide) rfl (fun _ => ?_) (fun _ => ?_)
          · refine ok_iinc 1533 3 6 [some (.ref 3000), some (.ref 0), some (.ref 123), some (.int (s3_18 + 6))] dL_law_1530 rfl rfl rfl (by decide) rfl ?_
            refine ok_goto 18 dL_law_1533 (by decide) ?_
            exact ok_less [some (.ref 3000), some (.ref 0), some (.ref 123), some (.int (s3_18 + 6))] (And.intro rfl (And.intro rfl (And.intro rfl (And.intro rfl (trivial))))) (hX (s3_18 + 6) m_956)
          · refine ok_iconst 963 0 dL_law_962 rfl rfl ?_
            exact ok_zretc dL_law_963 rfl rfl
        · refine ok_aload_n 965 1 dL_law_964 rfl rfl rfl ?_
          refine ok_aload_n 966 0 dL_law_965 rfl rfl rfl ?_
          refine ok_iload_n 967 3 dL_law_966 rfl rfl rfl ?_
          refine ok_iconst 968 1 dL_law_967 rfl rfl ?_
          refine ok_iadd 969 dL_law_968 rfl ?_
          refine ok_scrI 970 dL_law_969 rfl ?_
          refine ok_aload_n 971 0 dL_law_970 rfl rfl rfl ?_
          refine ok_iload_n 972 3 dL_law_971 rfl rfl rfl ?_
          refine ok_iconst 973 2 dL_law_972 rfl rfl ?_
          refine ok_iadd 974 dL_law_973 rfl ?_
          refine ok_scrI 975 dL_law_974 rfl ?_
          refine ok_callVi (np := 2) (M' := m_X11_claque) (As := [.int (xs (s3_18 + (1 : Int32)).toNatClampNeg), .int (xs (s3_18 + (2 : Int32)).toNatClampNeg)]) (st := []) 978 dL_law_975 rfl rfl km_X11_claque ki_X11_claque kv_X11_claque ml_EncoresLaw_109 (by decide) sg_0 rfl (Nat.le_of_ble_eq_true rfl) rfl rfl rfl (Nat.le_of_ble_eq_true rfl) (c_X11_claque N (d + 48) (xs (s3_18 + (1 : Int32)).toNatClampNeg) (xs (s3_18 + (2 : Int32)).toNatClampNeg) m) ⟨Nat.le_refl _, Nat.le_refl _⟩ (Or.inl rfl) rfl (fun r_975 m_975 _ => ?_)
          refine ok_aload_n 979 2 dL_law_978 rfl rfl rfl ?_
          refine ok_aload_n 980 0 dL_law_979 rfl rfl rfl ?_
          refine ok_iload_n 981 3 dL_law_980 rfl rfl rfl ?_
          refine ok_iconst 982 1 dL_law_981 rfl rfl ?_
          refine ok_iadd 983 dL_law_982 rfl ?_
          refine ok_scrI 984 dL_law_983 rfl ?_
          refine ok_aload_n 985 0 dL_law_984 rfl rfl rfl ?_
          refine ok_iload_n 986 3 dL_law_985 rfl rfl rfl ?_
          refine ok_iconst 987 2 dL_law_986 rfl rfl ?_
          refine ok_iadd 988 dL_law_987 rfl ?_
          refine ok_scrI 989 dL_law_988 rfl ?_
          refine ok_callVi (np := 2) (M' := m_X12_claque) (As := [.int (xs (s3_18 + (1 : Int32)).toNatClampNeg), .int (xs (s3_18 + (2 : Int32)).toNatClampNeg)]) (st := [.int r_975]) 992 dL_law_989 rfl rfl km_X12_claque ki_X12_claque kv_X12_claque ml_EncoresLaw_112 (by decide) sg_123 rfl (Nat.le_of_ble_eq_true rfl) rfl rfl rfl (Nat.le_of_ble_eq_true rfl) (c_X12_claque N (d + 48) (xs (s3_18 + (1 : Int32)).toNatClampNeg) (xs (s3_18 + (2 : Int32)).toNatClampNeg) m_975) ⟨Nat.le_refl _, Nat.le_refl _⟩ (Or.inl rfl) rfl (fun r_989 m_989 _ => ?_)
          refine ok_icmp_eq 1530 995 dL_law_992 (by decide) rfl (fun _ => ?_) (fun _ => ?_)
          · refine ok_iinc 1533 3 6 [some (.ref 3000), some (.ref 0), some (.ref 123), some (.int (s3_18 + 6))] dL_law_1530 rfl rfl rfl (by decide) rfl ?_
            refine ok_goto 18 dL_law_1533 (by decide) ?_
            exact ok_less [some (.ref 3000), some (.ref 0), some (.ref 123), some (.int (s3_18 + 6))] (And.intro rfl (And.intro rfl (And.intro rfl (And.intro rfl (trivial))))) (hX (s3_18 + 6) m_989)
          · refine ok_iconst 996 0 dL_law_995 rfl rfl ?_
            exact ok_zretc dL_law_996 rfl rfl
        · refine ok_aload_n 998 1 dL_law_997 rfl rfl rfl ?_
          refine ok_aload_n 999 0 dL_law_998 rfl rfl rfl ?_
          refine ok_iload_n 1000 3 dL_law_999 rfl rfl rfl ?_
          refine ok_iconst 1001 1 dL_law_1000 rfl rfl ?_
          refine ok_iadd 1002 dL_law_1001 rfl ?_
          refine ok_scrI 1003 dL_law_1002 rfl ?_
          refine ok_callVi (np := 1) (M' := m_X11_fits) (As := [.int (xs (s3_18 + (1 : Int32)).toNatClampNeg)]) (st := []) 1006 dL_law_1003 rfl rfl km_X11_fits ki_X11_fits kv_X11_fits ml_EncoresLaw_113 (by decide) sg_0 rfl (Nat.le_of_ble_eq_true rfl) rfl rfl rfl (Nat.le_of_ble_eq_true rfl) (c_X11_fits N (d + 47) (xs (s3_18 + (1 : Int32)).toNatClampNeg) m) ⟨Nat.le_refl _, Nat.le_refl _⟩ (Or.inl rfl) rfl (fun r_1003 m_1003 _ => ?_)
          refine ok_aload_n 1007 2 dL_law_1006 rfl rfl rfl ?_
          refine ok_aload_n 1008 0 dL_law_1007 rfl rfl rfl ?_
          refine ok_iload_n 1009 3 dL_law_1008 rfl rfl rfl ?_
          refine ok_iconst 1010 1 dL_law_1009 rfl rfl ?_
          refine ok_iadd 1011 dL_law_1010 rfl ?_
          refine ok_scrI 1012 dL_law_1011 rfl ?_
          refine ok_callVi (np := 1) (M' := m_X12_fits) (As := [.int (xs (s3_18 + (1 : Int32)).toNatClampNeg)]) (st := [.int r_1003]) 1015 dL_law_1012 rfl rfl km_X12_fits ki_X12_fits kv_X12_fits ml_EncoresLaw_116 (by decide) sg_123 rfl (Nat.le_of_ble_eq_true rfl) rfl rfl rfl (Nat.le_of_ble_eq_true rfl) (c_X12_fits N (d + 47) (xs (s3_18 + (1 : Int32)).toNatClampNeg) m_1003) ⟨Nat.le_refl _, Nat.le_refl _⟩ (Or.inl rfl) rfl (fun r_1012 m_1012 _ => ?_)
          refine ok_icmp_eq 1530 1018 dL_law_1015 (by decide) rfl (fun _ => ?_) (fun _ => ?_)
          · refine ok_iinc 1533 3 6 [some (.ref 3000), some (.ref 0), some (.ref 123), some (.int (s3_18 + 6))] dL_law_1530 rfl rfl rfl (by decide) rfl ?_
            refine ok_goto 18 dL_law_1533 (by decide) ?_
            exact ok_less [some (.ref 3000), some (.ref 0), some (.ref 123), some (.int (s3_18 + 6))] (And.intro rfl (And.intro rfl (And.intro rfl (And.intro rfl (trivial))))) (hX (s3_18 + 6) m_1012)
          · refine ok_iconst 1019 0 dL_law_1018 rfl rfl ?_
            exact ok_zretc dL_law_1019 rfl rfl
        · refine ok_aload_n 1021 1 dL_law_1020 rfl rfl rfl ?_
          refine ok_aload_n 1022 0 dL_law_1021 rfl rfl rfl ?_
          refine ok_iload_n 1023 3 dL_law_1022 rfl rfl rfl ?_
          refine ok_iconst 1024 1 dL_law_1023 rfl rfl ?_
          refine ok_iadd 1025 dL_law_1024 rfl ?_
          refine ok_scrI 1026 dL_law_1025 rfl ?_
          refine ok_aload_n 1027 0 dL_law_1026 rfl rfl rfl ?_
          refine ok_iload_n 1028 3 dL_law_1027 rfl rfl rfl ?_
          refine ok_iconst 1029 2 dL_law_1028 rfl rfl ?_
          refine ok_iadd 1030 dL_law_1029 rfl ?_
          refine ok_scrI 1031 dL_law_1030 rfl ?_
          refine ok_aload_n 1032 0 dL_law_1031 rfl rfl rfl ?_
          refine ok_iload_n 1033 3 dL_law_1032 rfl rfl rfl ?_
          refine ok_iconst 1034 3 dL_law_1033 rfl rfl ?_
          refine ok_iadd 1035 dL_law_1034 rfl ?_
          refine ok_scrI 1036 dL_law_1035 rfl ?_
          refine ok_callVi (np := 3) (M' := m_X11_cuts) (As := [.int (xs (s3_18 + (1 : Int32)).toNatClampNeg), .int (xs (s3_18 + (2 : Int32)).toNatClampNeg), .int (xs (s3_18 + (3 : Int32)).toNatClampNeg)]) (st := []) 1039 dL_law_1036 rfl rfl km_X11_cuts ki_X11_cuts kv_X11_cuts ml_EncoresLaw_117 (by decide) sg_0 rfl (Nat.le_of_ble_eq_true rfl) rfl rfl rfl (Nat.le_of_ble_eq_true rfl) (c_X11_cuts N (d + 46) (xs (s3_18 + (1 : Int32)).toNatClampNeg) (xs (s3_18 + (2 : Int32)).toNatClampNeg) (xs (s3_18 + (3 : Int32)).toNatClampNeg) m) ⟨Nat.le_refl _, Nat.le_refl _⟩ (Or.inl rfl) rfl (fun r_1036 m_1036 _ => ?_)
          refine ok_aload_n 1040 2 dL_law_1039 rfl rfl rfl ?_
          refine ok_aload_n 1041 0 dL_law_1040 rfl rfl rfl ?_
          refine ok_iload_n 1042 3 dL_law_1041 rfl rfl rfl ?_
          refine ok_iconst 1043 1 dL_law_1042 rfl rfl ?_
          refine ok_iadd 1044 dL_law_1043 rfl ?_
          refine ok_scrI 1045 dL_law_1044 rfl ?_
          refine ok_aload_n 1046 0 dL_law_1045 rfl rfl rfl ?_
          refine ok_iload_n 1047 3 dL_law_1046 rfl rfl rfl ?_
          refine ok_iconst 1048 2 dL_law_1047 rfl rfl ?_
          refine ok_iadd 1049 dL_law_1048 rfl ?_
          refine ok_scrI 1050 dL_law_1049 rfl ?_
          refine ok_aload_n 1051 0 dL_law_1050 rfl rfl rfl ?_
          refine ok_iload_n 1052 3 dL_law_1051 rfl rfl rfl ?_
          refine ok_iconst 1053 3 dL_law_1052 rfl rfl ?_
          refine ok_iadd 1054 dL_law_1053 rfl ?_
          refine ok_scrI 1055 dL_law_1054 rfl ?_
          refine ok_callVi (np := 3) (M' := m_X12_cuts) (As := [.int (xs (s3_18 + (1 : Int32)).toNatClampNeg), .int (xs (s3_18 + (2 : Int32)).toNatClampNeg), .int (xs (s3_18 + (3 : Int32)).toNatClampNeg)]) (st := [.int r_1036]) 1058 dL_law_1055 rfl rfl km_X12_cuts ki_X12_cuts kv_X12_cuts ml_EncoresLaw_120 (by decide) sg_123 rfl (Nat.le_of_ble_eq_true rfl) rfl rfl rfl (Nat.le_of_ble_eq_true rfl) (c_X12_cuts N (d + 47) (xs (s3_18 + (1 : Int32)).toNatClampNeg) (xs (s3_18 + (2 : Int32)).toNatClampNeg) (xs (s3_18 + (3 : Int32)).toNatClampNeg) m_1036) ⟨Nat.le_refl _, Nat.le_refl _⟩ (Or.inl rfl) rfl (fun r_1055 m_1055 _ => ?_)
          refine ok_icmp_eq 1530 1061 dL_law_1058 (by decide) rfl (fun _ => ?_) (fun _ => ?_)
          · refine ok_iinc 1533 3 6 [some (.ref 3000), some (.ref 0), some (.ref 123), some (.int (s3_18 + 6))] dL_law_1530 rfl rfl rfl (by decide) rfl ?_
            refine ok_goto 18 dL_law_1533 (by decide) ?_
            exact ok_less [some (.ref 3000), some (.ref 0), some (.ref 123), some (.int (s3_18 + 6))] (And.intro rfl (And.intro rfl (And.intro rfl (And.intro rfl (trivial))))) (hX (s3_18 + 6) m_1055)
          · refine ok_iconst 1062 0 dL_law_1061 rfl rfl ?_
            exact ok_zretc dL_law_1062 rfl rfl
        · refine ok_aload_n 1064 1 dL_law_1063 rfl rfl rfl ?_
          refine ok_aload_n 1065 0 dL_law_1064 rfl rfl rfl ?_
          refine ok_iload_n 1066 3 dL_law_1065 rfl rfl rfl ?_
          refine ok_iconst 1067 1 dL_law_1066 rfl rfl ?_
          refine ok_iadd 1068 dL_law_1067 rfl ?_
          refine ok_scrI 1069 dL_law_1068 rfl ?_
          refine ok_aload_n 1070 0 dL_law_1069 rfl rfl rfl ?_
          refine ok_iload_n 1071 3 dL_law_1070 rfl rfl rfl ?_
          refine ok_iconst 1072 2 dL_law_1071 rfl rfl ?_
          refine ok_iadd 1073 dL_law_1072 rfl ?_
          refine ok_scrI 1074 dL_law_1073 rfl ?_
          refine ok_callVi (np := 2) (M' := m_X11_near) (As := [.int (xs (s3_18 + (1 : Int32)).toNatClampNeg), .int (xs (s3_18 + (2 : Int32)).toNatClampNeg)]) (st := []) 1077 dL_law_1074 rfl rfl km_X11_near ki_X11_near kv_X11_near ml_EncoresLaw_121 (by decide) sg_0 rfl (Nat.le_of_ble_eq_true rfl) rfl rfl rfl (Nat.le_of_ble_eq_true rfl) (c_X11_near N (d + 47) (xs (s3_18 + (1 : Int32)).toNatClampNeg) (xs (s3_18 + (2 : Int32)).toNatClampNeg) m) ⟨Nat.le_refl _, Nat.le_refl _⟩ (Or.inl rfl) rfl (fun r_1074 m_1074 _ => ?_)
          refine ok_aload_n 1078 2 dL_law_1077 rfl rfl rfl ?_
          refine ok_aload_n 1079 0 dL_law_1078 rfl rfl rfl ?_
          refine ok_iload_n 1080 3 dL_law_1079 rfl rfl rfl ?_
          refine ok_iconst 1081 1 dL_law_1080 rfl rfl ?_
          refine ok_iadd 1082 dL_law_1081 rfl ?_
          refine ok_scrI 1083 dL_law_1082 rfl ?_
          refine ok_aload_n 1084 0 dL_law_1083 rfl rfl rfl ?_
          refine ok_iload_n 1085 3 dL_law_1084 rfl rfl rfl ?_
          refine ok_iconst 1086 2 dL_law_1085 rfl rfl ?_
          refine ok_iadd 1087 dL_law_1086 rfl ?_
          refine ok_scrI 1088 dL_law_1087 rfl ?_
          refine ok_callVi (np := 2) (M' := m_X12_near) (As := [.int (xs (s3_18 + (1 : Int32)).toNatClampNeg), .int (xs (s3_18 + (2 : Int32)).toNatClampNeg)]) (st := [.int r_1074]) 1091 dL_law_1088 rfl rfl km_X12_near ki_X12_near kv_X12_near ml_EncoresLaw_124 (by decide) sg_123 rfl (Nat.le_of_ble_eq_true rfl) rfl rfl rfl (Nat.le_of_ble_eq_true rfl) (c_X12_near N (d + 47) (xs (s3_18 + (1 : Int32)).toNatClampNeg) (xs (s3_18 + (2 : Int32)).toNatClampNeg) m_1074) ⟨Nat.le_refl _, Nat.le_refl _⟩ (Or.inl rfl) rfl (fun r_1088 m_1088 _ => ?_)
          refine ok_icmp_eq 1530 1094 dL_law_1091 (by decide) rfl (fun _ => ?_) (fun _ => ?_)
          · refine ok_iinc 1533 3 6 [some (.ref 3000), some (.ref 0), some (.ref 123), some (.int (s3_18 + 6))] dL_law_1530 rfl rfl rfl (by decide) rfl ?_
            refine ok_goto 18 dL_law_1533 (by decide) ?_
            exact ok_less [some (.ref 3000), some (.ref 0), some (.ref 123), some (.int (s3_18 + 6))] (And.intro rfl (And.intro rfl (And.intro rfl (And.intro rfl (trivial))))) (hX (s3_18 + 6) m_1088)
          · refine ok_iconst 1095 0 dL_law_1094 rfl rfl ?_
            exact ok_zretc dL_law_1095 rfl rfl
        · refine ok_aload_n 1097 1 dL_law_1096 rfl rfl rfl ?_
          refine ok_aload_n 1098 0 dL_law_1097 rfl rfl rfl ?_
          refine ok_iload_n 1099 3 dL_law_1098 rfl rfl rfl ?_
          refine ok_iconst 1100 1 dL_law_1099 rfl rfl ?_
          refine ok_iadd 1101 dL_law_1100 rfl ?_
          refine ok_scrI 1102 dL_law_1101 rfl ?_
          refine ok_aload_n 1103 0 dL_law_1102 rfl rfl rfl ?_
          refine ok_iload_n 1104 3 dL_law_1103 rfl rfl rfl ?_
          refine ok_iconst 1105 2 dL_law_1104 rfl rfl ?_
          refine ok_iadd 1106 dL_law_1105 rfl ?_
          refine ok_scrI 1107 dL_law_1106 rfl ?_
          refine ok_callVi (np := 2) (M' := m_X11_means) (As := [.int (xs (s3_18 + (1 : Int32)).toNatClampNeg), .int (xs (s3_18 + (2 : Int32)).toNatClampNeg)]) (st := []) 1110 dL_law_1107 rfl rfl km_X11_means ki_X11_means kv_X11_means ml_EncoresLaw_125 (by decide) sg_0 rfl (Nat.le_of_ble_eq_true rfl) rfl rfl rfl (Nat.le_of_ble_eq_true rfl) (c_X11_means N (d + 48) (xs (s3_18 + (1 : Int32)).toNatClampNeg) (xs (s3_18 + (2 : Int32)).toNatClampNeg) m) ⟨Nat.le_refl _, Nat.le_refl _⟩ (Or.inl rfl) rfl (fun r_1107 m_1107 _ => ?_)
          refine ok_aload_n 1111 2 dL_law_1110 rfl rfl rfl ?_
          refine ok_aload_n 1112 0 dL_law_1111 rfl rfl rfl ?_
          refine ok_iload_n 1113 3 dL_law_1112 rfl rfl rfl ?_
          refine ok_iconst 1114 1 dL_law_1113 rfl rfl ?_
          refine ok_iadd 1115 dL_law_1114 rfl ?_
          refine ok_scrI 1116 dL_law_1115 rfl ?_
          refine ok_aload_n 1117 0 dL_law_1116 rfl rfl rfl ?_
          refine ok_iload_n 1118 3 dL_law_1117 rfl rfl rfl ?_
          refine ok_iconst 1119 2 dL_law_1118 rfl rfl ?_
          refine ok_iadd 1120 dL_law_1119 rfl ?_
          refine ok_scrI 1121 dL_law_1120 rfl ?_
          refine ok_callVi (np := 2) (M' := m_X12_means) (As := [.int (xs (s3_18 + (1 : Int32)).toNatClampNeg), .int (xs (s3_18 + (2 : Int32)).toNatClampNeg)]) (st := [.int r_1107]) 1124 dL_law_1121 rfl rfl km_X12_means ki_X12_means kv_X12_means ml_EncoresLaw_128 (by decide) sg_123 rfl (Nat.le_of_ble_eq_true rfl) rfl rfl rfl (Nat.le_of_ble_eq_true rfl) (c_X12_means N (d + 48) (xs (s3_18 + (1 : Int32)).toNatClampNeg) (xs (s3_18 + (2 : Int32)).toNatClampNeg) m_1107) ⟨Nat.le_refl _, Nat.le_refl _⟩ (Or.inl rfl) rfl (fun r_1121 m_1121 _ => ?_)
          refine ok_icmp_eq 1530 1127 dL_law_1124 (by decide) rfl (fun _ => ?_) (fun _ => ?_)
          · refine ok_iinc 1533 3 6 [some (.ref 3000), some (.ref 0), some (.ref 123), some (.int (s3_18 + 6))] dL_law_1530 rfl rfl rfl (by decide) rfl ?_
            refine ok_goto 18 dL_law_1533 (by decide) ?_
            exact ok_less [some (.ref 3000), some (.ref 0), some (.ref 123), some (.int (s3_18 + 6))] (And.intro rfl (And.intro rfl (And.intro rfl (And.intro rfl (trivial))))) (hX (s3_18 + 6) m_1121)
          · refine ok_iconst 1128 0 dL_law_1127 rfl rfl ?_
            exact ok_zretc dL_law_1128 rfl rfl
        · refine ok_aload_n 1130 1 dL_law_1129 rfl rfl rfl ?_
          refine ok_aload_n 1131 0 dL_law_1130 rfl rfl rfl ?_
          refine ok_iload_n 1132 3 dL_law_1131 rfl rfl rfl ?_
          refine ok_iconst 1133 1 dL_law_1132 rfl rfl ?_
          refine ok_iadd 1134 dL_law_1133 rfl ?_
          refine ok_scrI 1135 dL_law_1134 rfl ?_
          refine ok_aload_n 1136 0 dL_law_1135 rfl rfl rfl ?_
          refine ok_iload_n 1137 3 dL_law_1136 rfl rfl rfl ?_
          refine ok_iconst 1138 2 dL_law_1137 rfl rfl ?_
          refine ok_iadd 1139 dL_law_1138 rfl ?_
          refine ok_scrI 1140 dL_law_1139 rfl ?_
          refine ok_aload_n 1141 0 dL_law_1140 rfl rfl rfl ?_
          refine ok_iload_n 1142 3 dL_law_1141 rfl rfl rfl ?_
          refine ok_iconst 1143 3 dL_law_1142 rfl rfl ?_
          refine ok_iadd 1144 dL_law_1143 rfl ?_
          refine ok_scrI 1145 dL_law_1144 rfl ?_
          refine ok_callVi (np := 3) (M' := m_X11_passed) (As := [.int (xs (s3_18 + (1 : Int32)).toNatClampNeg), .int (xs (s3_18 + (2 : Int32)).toNatClampNeg), .int (xs (s3_18 + (3 : Int32)).toNatClampNeg)]) (st := []) 1148 dL_law_1145 rfl rfl km_X11_passed ki_X11_passed kv_X11_passed ml_EncoresLaw_129 (by decide) sg_0 rfl (Nat.le_of_ble_eq_true rfl) rfl rfl rfl (Nat.le_of_ble_eq_true rfl) (c_X11_passed N (d + 47) (xs (s3_18 + (1 : Int32)).toNatClampNeg) (xs (s3_18 + (2 : Int32)).toNatClampNeg) (xs (s3_18 + (3 : Int32)).toNatClampNeg) m) ⟨Nat.le_refl _, Nat.le_refl _⟩ (Or.inl rfl) rfl (fun r_1145 m_1145 _ => ?_)
          refine ok_aload_n 1149 2 dL_law_1148 rfl rfl rfl ?_
          refine ok_aload_n 1150 0 dL_law_1149 rfl rfl rfl ?_
          refine ok_iload_n 1151 3 dL_law_1150 rfl rfl rfl ?_
          refine ok_iconst 1152 1 dL_law_1151 rfl rfl ?_
          refine ok_iadd 1153 dL_law_1152 rfl ?_
          refine ok_scrI 1154 dL_law_1153 rfl ?_
          refine ok_aload_n 1155 0 dL_law_1154 rfl rfl rfl ?_
          refine ok_iload_n 1156 3 dL_law_1155 rfl rfl rfl ?_
          refine ok_iconst 1157 2 dL_law_1156 rfl rfl ?_
          refine ok_iadd 1158 dL_law_1157 rfl ?_
          refine ok_scrI 1159 dL_law_1158 rfl ?_
          refine ok_aload_n 1160 0 dL_law_1159 rfl rfl rfl ?_
          refine ok_iload_n 1161 3 dL_law_1160 rfl rfl rfl ?_
          refine ok_iconst 1162 3 dL_law_1161 rfl rfl ?_
          refine ok_iadd 1163 dL_law_1162 rfl ?_
          refine ok_scrI 1164 dL_law_1163 rfl ?_
          refine ok_callVi (np := 3) (M' := m_X12_passed) (As := [.int (xs (s3_18 + (1 : Int32)).toNatClampNeg), .int (xs (s3_18 + (2 : Int32)).toNatClampNeg), .int (xs (s3_18 + (3 : Int32)).toNatClampNeg)]) (st := [.int r_1145]) 1167 dL_law_1164 rfl rfl km_X12_passed ki_X12_passed kv_X12_passed ml_EncoresLaw_132 (by decide) sg_123 rfl (Nat.le_of_ble_eq_true rfl) rfl rfl rfl (Nat.le_of_ble_eq_true rfl) (c_X12_passed N (d + 47) (xs (s3_18 + (1 : Int32)).toNatClampNeg) (xs (s3_18 + (2 : Int32)).toNatClampNeg) (xs (s3_18 + (3 : Int32)).toNatClampNeg) m_1145) ⟨Nat.le_refl _, Nat.le_refl _⟩ (Or.inl rfl) rfl (fun r_1164 m_1164 _ => ?_)
          refine ok_icmp_eq 1530 1170 dL_law_1167 (by decide) rfl (fun _ => ?_) (fun _ => ?_)
          · refine ok_iinc 1533 3 6 [some (.ref 3000), some (.ref 0), some (.ref 123), some (.int (s3_18 + 6))] dL_law_1530 rfl rfl rfl (by decide) rfl ?_
            refine ok_goto 18 dL_law_1533 (by decide) ?_
            exact ok_less [some (.ref 3000), some (.ref 0), some (.ref 123), some (.int (s3_18 + 6))] (And.intro rfl (And.intro rfl (And.intro rfl (And.intro rfl (trivial))))) (hX (s3_18 + 6) m_1164)
          · refine ok_iconst 1171 0 dL_law_1170 rfl rfl ?_
            exact ok_zretc dL_law_1171 rfl rfl
        · refine ok_aload_n 1173 1 dL_law_1172 rfl rfl rfl ?_
          refine ok_aload_n 1174 0 dL_law_1173 rfl rfl rfl ?_
          refine ok_iload_n 1175 3 dL_law_1174 rfl rfl rfl ?_
          refine ok_iconst 1176 1 dL_law_1175 rfl rfl ?_
          refine ok_iadd 1177 dL_law_1176 rfl ?_
          refine ok_scrI 1178 dL_law_1177 rfl ?_
          refine ok_aload_n 1179 0 dL_law_1178 rfl rfl rfl ?_
          refine ok_iload_n 1180 3 dL_law_1179 rfl rfl rfl ?_
          refine ok_iconst 1181 2 dL_law_1180 rfl rfl ?_
          refine ok_iadd 1182 dL_law_1181 rfl ?_
          refine ok_scrI 1183 dL_law_1182 rfl ?_
          refine ok_callVi (np := 2) (M' := m_X11_share) (As := [.int (xs (s3_18 + (1 : Int32)).toNatClampNeg), .int (xs (s3_18 + (2 : Int32)).toNatClampNeg)]) (st := []) 1186 dL_law_1183 rfl rfl km_X11_share ki_X11_share kv_X11_share ml_EncoresLaw_133 (by decide) sg_0 rfl (Nat.le_of_ble_eq_true rfl) rfl rfl rfl (Nat.le_of_ble_eq_true rfl) (c_X11_share N (d + 46) (xs (s3_18 + (1 : Int32)).toNatClampNeg) (xs (s3_18 + (2 : Int32)).toNatClampNeg) m) ⟨Nat.le_refl _, Nat.le_refl _⟩ (Or.inl rfl) rfl (fun r_1183 m_1183 _ => ?_)
          refine ok_aload_n 1187 2 dL_law_1186 rfl rfl rfl ?_
          refine ok_aload_n 1188 0 dL_law_1187 rfl rfl rfl ?_
          refine ok_iload_n 1189 3 dL_law_1188 rfl rfl rfl ?_
          refine ok_iconst 1190 1 dL_law_1189 rfl rfl ?_
          refine ok_iadd 1191 dL_law_1190 rfl ?_
          refine ok_scrI 1192 dL_law_1191 rfl ?_
          refine ok_aload_n 1193 0 dL_law_1192 rfl rfl rfl ?_
          refine ok_iload_n 1194 3 dL_law_1193 rfl rfl rfl ?_
          refine ok_iconst 1195 2 dL_law_1194 rfl rfl ?_
          refine ok_iadd 1196 dL_law_1195 rfl ?_
          refine ok_scrI 1197 dL_law_1196 rfl ?_
          refine ok_callVi (np := 2) (M' := m_X12_share) (As := [.int (xs (s3_18 + (1 : Int32)).toNatClampNeg), .int (xs (s3_18 + (2 : Int32)).toNatClampNeg)]) (st := [.int r_1183]) 1200 dL_law_1197 rfl rfl km_X12_share ki_X12_share kv_X12_share ml_EncoresLaw_136 (by decide) sg_123 rfl (Nat.le_of_ble_eq_true rfl) rfl rfl rfl (Nat.le_of_ble_eq_true rfl) (c_X12_share N (d + 46) (xs (s3_18 + (1 : Int32)).toNatClampNeg) (xs (s3_18 + (2 : Int32)).toNatClampNeg) m_1183) ⟨Nat.le_refl _, Nat.le_refl _⟩ (Or.inl rfl) rfl (fun r_1197 m_1197 _ => ?_)
          refine ok_icmp_eq 1530 1203 dL_law_1200 (by decide) rfl (fun _ => ?_) (fun _ => ?_)
          · refine ok_iinc 1533 3 6 [some (.ref 3000), some (.ref 0), some (.ref 123), some (.int (s3_18 + 6))] dL_law_1530 rfl rfl rfl (by decide) rfl ?_
            refine ok_goto 18 dL_law_1533 (by decide) ?_
            exact ok_less [some (.ref 3000), some (.ref 0), some (.ref 123), some (.int (s3_18 + 6))] (And.intro rfl (And.intro rfl (And.intro rfl (And.intro rfl (trivial))))) (hX (s3_18 + 6) m_1197)
          · refine ok_iconst 1204 0 dL_law_1203 rfl rfl ?_
            exact ok_zretc dL_law_1204 rfl rfl
        · refine ok_aload_n 1206 1 dL_law_1205 rfl rfl rfl ?_
          refine ok_callVi (np := 0) (M' := m_X11_brides) (As := []) (st := []) 1209 dL_law_1206 rfl rfl km_X11_brides ki_X11_brides kv_X11_brides ml_EncoresLaw_137 (by decide) sg_0 rfl (Nat.le_of_ble_eq_true rfl) rfl rfl rfl (Nat.le_of_ble_eq_true rfl) (c_X11_brides N (d + 48) m) ⟨Nat.le_refl _, Nat.le_refl _⟩ (Or.inl rfl) rfl (fun r_1206 m_1206 _ => ?_)
          refine ok_aload_n 1210 2 dL_law_1209 rfl rfl rfl ?_
          refine ok_callVi (np := 0) (M' := m_X12_brides) (As := []) (st := [.int r_1206]) 1213 dL_law_1210 rfl rfl km_X12_brides ki_X12_brides kv_X12_brides ml_EncoresLaw_141 (by decide) sg_123 rfl (Nat.le_of_ble_eq_true rfl) rfl rfl rfl (Nat.le_of_ble_eq_true rfl) (c_X12_brides N (d + 47) m_1206) ⟨Nat.le_refl _, Nat.le_refl _⟩ (Or.inl rfl) rfl (fun r_1210 m_1210 _ => ?_)
          refine ok_icmp_eq 1530 1216 dL_law_1213 (by decide) rfl (fun _ => ?_) (fun _ => ?_)
          · refine ok_iinc 1533 3 6 [some (.ref 3000), some (.ref 0), some (.ref 123), some (.int (s3_18 + 6))] dL_law_1530 rfl rfl rfl (by decide) rfl ?_
            refine ok_goto 18 dL_law_1533 (by decide) ?_
            exact ok_less [some (.ref 3000), some (.ref 0), some (.ref 123), some (.int (s3_18 + 6))] (And.intro rfl (And.intro rfl (And.intro rfl (And.intro rfl (trivial))))) (hX (s3_18 + 6) m_1210)
          · refine ok_iconst 1217 0 dL_law_1216 rfl rfl ?_
            exact ok_zretc dL_law_1217 rfl rfl
        · refine ok_aload_n 1219 1 dL_law_1218 rfl rfl rfl ?_
          refine ok_aload_n 1220 0 dL_law_1219 rfl rfl rfl ?_
          refine ok_iload_n 1221 3 dL_law_1220 rfl rfl rfl ?_
          refine ok_iconst 1222 1 dL_law_1221 rfl rfl ?_
          refine ok_iadd 1223 dL_law_1222 rfl ?_
          refine ok_scrI 1224 dL_law_1223 rfl ?_
          refine ok_callVi (np := 1) (M' := m_X11_game) (As := [.int (xs (s3_18 + (1 : Int32)).toNatClampNeg)]) (st := []) 1227 dL_law_1224 rfl rfl km_X11_game ki_X11_game kv_X11_game ml_EncoresLaw_142 (by decide) sg_0 rfl (Nat.le_of_ble_eq_true rfl) rfl rfl rfl (Nat.le_of_ble_eq_true rfl) (c_X11_game N (d + 46) (xs (s3_18 + (1 : Int32)).toNatClampNeg) m) ⟨Nat.le_refl _, Nat.le_refl _⟩ (Or.inl rfl) rfl (fun r_1224 m_1224 _ => ?_)
          refine ok_aload_n 1228 2 dL_law_1227 rfl rfl rfl ?_
          refine ok_aload_n 1229 0 dL_law_1228 rfl rfl rfl ?_
          refine ok_iload_n 1230 3 dL_law_1229 rfl rfl rfl ?_
          refine ok_iconst 1231 1 dL_law_1230 rfl rfl ?_
          refine ok_iadd 1232 dL_law_1231 rfl ?_
          refine ok_scrI 1233 dL_law_1232 rfl ?_
          refine ok_callVi (np := 1) (M' := m_X12_game) (As := [.int (xs (s3_18 + (1 : Int32)).toNatClampNeg)]) (st := [.int r_1224]) 1236 dL_law_1233 rfl rfl km_X12_game ki_X12_game kv_X12_game ml_EncoresLaw_145 (by decide) sg_123 rfl (Nat.le_of_ble_eq_true rfl) rfl rfl rfl (Nat.le_of_ble_eq_true rfl) (c_X12_game N (d + 48) (xs (s3_18 + (1 : Int32)).toNatClampNeg) m_1224) ⟨Nat.le_refl _, Nat.le_refl _⟩ (Or.inl rfl) rfl (fun r_1233 m_1233 _ => ?_)
          refine ok_icmp_eq 1530 1239 dL_law_1236 (by decide) rfl (fun _ => ?_) (fun _ => ?_)
          · refine ok_iinc 1533 3 6 [some (.ref 3000), some (.ref 0), some (.ref 123), some (.int (s3_18 + 6))] dL_law_1530 rfl rfl rfl (by decide) rfl ?_
            refine ok_goto 18 dL_law_1533 (by decide) ?_
            exact ok_less [some (.ref 3000), some (.ref 0), some (.ref 123), some (.int (s3_18 + 6))] (And.intro rfl (And.intro rfl (And.intro rfl (And.intro rfl (trivial))))) (hX (s3_18 + 6) m_1233)
          · refine ok_iconst 1240 0 dL_law_1239 rfl rfl ?_
            exact ok_zretc dL_law_1240 rfl rfl
        · refine ok_aload_n 1242 1 dL_law_1241 rfl rfl rfl ?_
          refine ok_aload_n 1243 0 dL_law_1242 rfl rfl rfl ?_
          refine ok_iload_n 1244 3 dL_law_1243 rfl rfl rfl ?_
          refine ok_iconst 1245 1 dL_law_1244 rfl rfl ?_
          refine ok_iadd 1246 dL_law_1245 rfl ?_
          refine ok_scrI 1247 dL_law_1246 rfl ?_
          refine ok_aload_n 1248 0 dL_law_1247 rfl rfl rfl ?_
          refine ok_iload_n 1249 3 dL_law_1248 rfl rfl rfl ?_
          refine ok_iconst 1250 2 dL_law_1249 rfl rfl ?_
          refine ok_iadd 1251 dL_law_1250 rfl ?_
          refine ok_scrI 1252 dL_law_1251 rfl ?_
          refine ok_callVi (np := 2) (M' := m_X11_brakes) (As := [.int (xs (s3_18 + (1 : Int32)).toNatClampNeg), .int (xs (s3_18 + (2 : Int32)).toNatClampNeg)]) (st := []) 1255 dL_law_1252 rfl rfl km_X11_brakes ki_X11_brakes kv_X11_brakes ml_EncoresLaw_146 (by decide) sg_0 rfl (Nat.le_of_ble_eq_true rfl) rfl rfl rfl (Nat.le_of_ble_eq_true rfl) (c_X11_brakes N (d + 42) (xs (s3_18 + (1 : Int32)).toNatClampNeg) (xs (s3_18 + (2 : Int32)).toNatClampNeg) m) ⟨Nat.le_refl _, Nat.le_refl _⟩ (Or.inl rfl) rfl (fun r_1252 m_1252 _ => ?_)
          refine ok_aload_n 1256 2 dL_law_1255 rfl rfl rfl ?_
          refine ok_aload_n 1257 0 dL_law_1256 rfl rfl rfl ?_
          refine ok_iload_n 1258 3 dL_law_1257 rfl rfl rfl ?_
          refine ok_iconst 1259 1 dL_law_1258 rfl rfl ?_
          refine ok_iadd 1260 dL_law_1259 rfl ?_
          refine ok_scrI 1261 dL_law_1260 rfl ?_
          refine ok_aload_n 1262 0 dL_law_1261 rfl rfl rfl ?_
          refine ok_iload_n 1263 3 dL_law_1262 rfl rfl rfl ?_
          refine ok_iconst 1264 2 dL_law_1263 rfl rfl ?_
          refine ok_iadd 1265 dL_law_1264 rfl ?_
          refine ok_scrI 1266 dL_law_1265 rfl ?_
          refine ok_callVi (np := 2) (M' := m_X12_brakes) (As := [.int (xs (s3_18 + (1 : Int32)).toNatClampNeg), .int (xs (s3_18 + (2 : Int32)).toNatClampNeg)]) (st := [.int r_1252]) 1269 dL_law_1266 rfl rfl km_X12_brakes ki_X12_brakes kv_X12_brakes ml_EncoresLaw_149 (by decide) sg_123 rfl (Nat.le_of_ble_eq_true rfl) rfl rfl rfl (Nat.le_of_ble_eq_true rfl) (c_X12_brakes N (d + 40) (xs (s3_18 + (1 : Int32)).toNatClampNeg) (xs (s3_18 + (2 : Int32)).toNatClampNeg) m_1252) ⟨Nat.le_refl _, Nat.le_refl _⟩ (Or.inl rfl) rfl (fun r_1266 m_1266 _ => ?_)
          refine ok_icmp_eq 1530 1272 dL_law_1269 (by decide) rfl (fun _ => ?_) (fun _ => ?_)
          · refine ok_iinc 1533 3 6 [some (.ref 3000), some (.ref 0), some (.ref 123), some (.int (s3_18 + 6))] dL_law_1530 rfl rfl rfl (by decide) rfl ?_
            refine ok_goto 18 dL_law_1533 (by decide) ?_
            exact ok_less [some (.ref 3000), some (.ref 0), some (.ref 123), some (.int (s3_18 + 6))] (And.intro rfl (And.intro rfl (And.intro rfl (And.intro rfl (trivial))))) (hX (s3_18 + 6) m_1266)
          · refine ok_iconst 1273 0 dL_law_1272 rfl rfl ?_
            exact ok_zretc dL_law_1273 rfl rfl
        · refine ok_aload_n 1275 1 dL_law_1274 rfl rfl rfl ?_
          refine ok_aload_n 1276 0 dL_law_1275 rfl rfl rfl ?_
          refine ok_iload_n 1277 3 dL_law_1276 rfl rfl rfl ?_
          refine ok_iconst 1278 1 dL_law_1277 rfl rfl ?_
          refine ok_iadd 1279 dL_law_1278 rfl ?_
          refine ok_scrI 1280 dL_law_1279 rfl ?_
          refine ok_aload_n 1281 0 dL_law_1280 rfl rfl rfl ?_
          refine ok_iload_n 1282 3 dL_law_1281 rfl rfl rfl ?_
          refine ok_iconst 1283 2 dL_law_1282 rfl rfl ?_
          refine ok_iadd 1284 dL_law_1283 rfl ?_
          refine ok_scrI 1285 dL_law_1284 rfl ?_
          refine ok_callVi (np := 2) (M' := m_X11_eager) (As := [.int (xs (s3_18 + (1 : Int32)).toNatClampNeg), .int (xs (s3_18 + (2 : Int32)).toNatClampNeg)]) (st := []) 1288 dL_law_1285 rfl rfl km_X11_eager ki_X11_eager kv_X11_eager ml_EncoresLaw_150 (by decide) sg_0 rfl (Nat.le_of_ble_eq_true rfl) rfl rfl rfl (Nat.le_of_ble_eq_true rfl) (c_X11_eager N (d + 45) (xs (s3_18 + (1 : Int32)).toNatClampNeg) (xs (s3_18 + (2 : Int32)).toNatClampNeg) m) ⟨Nat.le_refl _, Nat.le_refl _⟩ (Or.inl rfl) rfl (fun r_1285 m_1285 _ => ?_)
          refine ok_aload_n 1289 2 dL_law_1288 rfl rfl rfl ?_
          refine ok_aload_n 1290 0 dL_law_1289 rfl rfl rfl ?_
          refine ok_iload_n 1291 3 dL_law_1290 rfl rfl rfl ?_
          refine ok_iconst 1292 1 dL_law_1291 rfl rfl ?_
          refine ok_iadd 1293 dL_law_1292 rfl ?_
          refine ok_scrI 1294 dL_law_1293 rfl ?_
          refine ok_aload_n 1295 0 dL_law_1294 rfl rfl rfl ?_
          refine ok_iload_n 1296 3 dL_law_1295 rfl rfl rfl ?_
          refine ok_iconst 1297 2 dL_law_1296 rfl rfl ?_
          refine ok_iadd 1298 dL_law_1297 rfl ?_
          refine ok_scrI 1299 dL_law_1298 rfl ?_
          refine ok_callVi (np := 2) (M' := m_X12_eager) (As := [.int (xs (s3_18 + (1 : Int32)).toNatClampNeg), .int (xs (s3_18 + (2 : Int32)).toNatClampNeg)]) (st := [.int r_1285]) 1302 dL_law_1299 rfl rfl km_X12_eager ki_X12_eager kv_X12_eager ml_EncoresLaw_153 (by decide) sg_123 rfl (Nat.le_of_ble_eq_true rfl) rfl rfl rfl (Nat.le_of_ble_eq_true rfl) (c_X12_eager N (d + 44) (xs (s3_18 + (1 : Int32)).toNatClampNeg) (xs (s3_18 + (2 : Int32)).toNatClampNeg) m_1285) ⟨Nat.le_refl _, Nat.le_refl _⟩ (Or.inl rfl) rfl (fun r_1299 m_1299 _ => ?_)
          refine ok_icmp_eq 1530 1305 dL_law_1302 (by decide) rfl (fun _ => ?_) (fun _ => ?_)
          · refine ok_iinc 1533 3 6 [some (.ref 3000), some (.ref 0), some (.ref 123), some (.int (s3_18 + 6))] dL_law_1530 rfl rfl rfl (by decide) rfl ?_
            refine ok_goto 18 dL_law_1533 (by decide) ?_
            exact ok_less [some (.ref 3000), some (.ref 0), some (.ref 123), some (.int (s3_18 + 6))] (And.intro rfl (And.intro rfl (And.intro rfl (And.intro rfl (trivial))))) (hX (s3_18 + 6) m_1299)
          · refine ok_iconst 1306 0 dL_law_1305 rfl rfl ?_
            exact ok_zretc dL_law_1306 rfl rfl
        · refine ok_aload_n 1308 1 dL_law_1307 rfl rfl rfl ?_
          refine ok_aload_n 1309 0 dL_law_1308 rfl rfl rfl ?_
          refine ok_iload_n 1310 3 dL_law_1309 rfl rfl rfl ?_
          refine ok_iconst 1311 1 dL_law_1310 rfl rfl ?_
          refine ok_iadd 1312 dL_law_1311 rfl ?_
          refine ok_scrI 1313 dL_law_1312 rfl ?_
          refine ok_callVi (np := 1) (M' := m_X11_groups) (As := [.int (xs (s3_18 + (1 : Int32)).toNatClampNeg)]) (st := []) 1316 dL_law_1313 rfl rfl km_X11_groups ki_X11_groups kv_X11_groups ml_EncoresLaw_154 (by decide) sg_0 rfl (Nat.le_of_ble_eq_true rfl) rfl rfl rfl (Nat.le_of_ble_eq_true rfl) (c_X11_groups N (d + 47) (xs (s3_18 + (1 : Int32)).toNatClampNeg) m) ⟨Nat.le_refl _, Nat.le_refl _⟩ (Or.inl rfl) rfl (fun r_1313 m_1313 _ => ?_)
          refine ok_aload_n 1317 2 dL_law_1316 rfl rfl rfl ?_
          refine ok_aload_n 1318 0 dL_law_1317 rfl rfl rfl ?_
          refine ok_iload_n 1319 3 dL_law_1318 rfl rfl rfl ?_
          refine ok_iconst 1320 1 dL_law_1319 rfl rfl ?_
          refine ok_iadd 1321 dL_law_1320 rfl ?_
          refine ok_scrI 1322 dL_law_1321 rfl ?_
          refine ok_callVi (np := 1) (M' := m_X12_groups) (As := [.int (xs (s3_18 + (1 : Int32)).toNatClampNeg)]) (st := [.int r_1313]) 1325 dL_law_1322 rfl rfl km_X12_groups ki_X12_groups kv_X12_groups ml_EncoresLaw_157 (by decide) sg_123 rfl (Nat.le_of_ble_eq_true rfl) rfl rfl rfl (Nat.le_of_ble_eq_true rfl) (c_X12_groups N (d + 48) (xs (s3_18 + (1 : Int32)).toNatClampNeg) m_1313) ⟨Nat.le_refl _, Nat.le_refl _⟩ (Or.inl rfl) rfl (fun r_1322 m_1322 _ => ?_)
          refine ok_icmp_eq 1530 1328 dL_law_1325 (by decide) rfl (fun _ => ?_) (fun _ => ?_)
          · refine ok_iinc 1533 3 6 [some (.ref 3000), some (.ref 0), some (.ref 123), some (.int (s3_18 + 6))] dL_law_1530 rfl rfl rfl (by decide) rfl ?_
            refine ok_goto 18 dL_law_1533 (by decide) ?_
            exact ok_less [some (.ref 3000), some (.ref 0), some (.ref 123), some (.int (s3_18 + 6))] (And.intro rfl (And.intro rfl (And.intro rfl (And.intro rfl (trivial))))) (hX (s3_18 + 6) m_1322)
          · refine ok_iconst 1329 0 dL_law_1328 rfl rfl ?_
            exact ok_zretc dL_law_1329 rfl rfl
        · refine ok_aload_n 1331 1 dL_law_1330 rfl rfl rfl ?_
          refine ok_aload_n 1332 0 dL_law_1331 rfl rfl rfl ?_
          refine ok_iload_n 1333 3 dL_law_1332 rfl rfl rfl ?_
          refine ok_iconst 1334 1 dL_law_1333 rfl rfl ?_
          refine ok_iadd 1335 dL_law_1334 rfl ?_
          refine ok_scrI 1336 dL_law_1335 rfl ?_
          refine ok_aload_n 1337 0 dL_law_1336 rfl rfl rfl ?_
          refine ok_iload_n 1338 3 dL_law_1337 rfl rfl rfl ?_
          refine ok_iconst 1339 2 dL_law_1338 rfl rfl ?_
          refine ok_iadd 1340 dL_law_1339 rfl ?_
          refine ok_scrI 1341 dL_law_1340 rfl ?_
          refine ok_callVi (np := 2) (M' := m_X11_price) (As := [.int (xs (s3_18 + (1 : Int32)).toNatClampNeg), .int (xs (s3_18 + (2 : Int32)).toNatClampNeg)]) (st := []) 1344 dL_law_1341 rfl rfl km_X11_price ki_X11_price kv_X11_price ml_EncoresLaw_158 (by decide) sg_0 rfl (Nat.le_of_ble_eq_true rfl) rfl rfl rfl (Nat.le_of_ble_eq_true rfl) (c_X11_price N (d + 45) (xs (s3_18 + (1 : Int32)).toNatClampNeg) (xs (s3_18 + (2 : Int32)).toNatClampNeg) m) ⟨Nat.le_refl _, Nat.le_refl _⟩ (Or.inl rfl) rfl (fun r_1341 m_1341 _ => ?_)
          refine ok_aload_n 1345 2 dL_law_1344 rfl rfl rfl ?_
          refine ok_aload_n 1346 0 dL_law_1345 rfl rfl rfl ?_
          refine ok_iload_n 1347 3 dL_law_1346 rfl rfl rfl ?_
          refine ok_iconst 1348 1 dL_law_1347 rfl rfl ?_
          refine ok_iadd 1349 dL_law_1348 rfl ?_
          refine ok_scrI 1350 dL_law_1349 rfl ?_
          refine ok_aload_n 1351 0 dL_law_1350 rfl rfl rfl ?_
          refine ok_iload_n 1352 3 dL_law_1351 rfl rfl rfl ?_
          refine ok_iconst 1353 2 dL_law_1352 rfl rfl ?_
          refine ok_iadd 1354 dL_law_1353 rfl ?_
          refine ok_scrI 1355 dL_law_1354 rfl ?_
          refine ok_callVi (np := 2) (M' := m_X12_price) (As := [.int (xs (s3_18 + (1 : Int32)).toNatClampNeg), .int (xs (s3_18 + (2 : Int32)).toNatClampNeg)]) (st := [.int r_1341]) 1358 dL_law_1355 rfl rfl km_X12_price ki_X12_price kv_X12_price ml_EncoresLaw_161 (by decide) sg_123 rfl (Nat.le_of_ble_eq_true rfl) rfl rfl rfl (Nat.le_of_ble_eq_true rfl) (c_X12_price N (d + 44) (xs (s3_18 + (1 : Int32)).toNatClampNeg) (xs (s3_18 + (2 : Int32)).toNatClampNeg) m_1341) ⟨Nat.le_refl _, Nat.le_refl _⟩ (Or.inl rfl) rfl (fun r_1355 m_1355 _ => ?_)
          refine ok_icmp_eq 1530 1361 dL_law_1358 (by decide) rfl (fun _ => ?_) (fun _ => ?_)
          · refine ok_iinc 1533 3 6 [some (.ref 3000), some (.ref 0), some (.ref 123), some (.int (s3_18 + 6))] dL_law_1530 rfl rfl rfl (by decide) rfl ?_
            refine ok_goto 18 dL_law_1533 (by decide) ?_
            exact ok_less [some (.ref 3000), some (.ref 0), some (.ref 123), some (.int (s3_18 + 6))] (And.intro rfl (And.intro rfl (And.intro rfl (And.intro rfl (trivial))))) (hX (s3_18 + 6) m_1355)
          · refine ok_iconst 1362 0 dL_law_1361 rfl rfl ?_
            exact ok_zretc dL_law_1362 rfl rfl
        · refine ok_aload_n 1364 1 dL_law_1363 rfl rfl rfl ?_
          refine ok_aload_n 1365 0 dL_law_1364 rfl rfl rfl ?_
          refine ok_iload_n 1366 3 dL_law_1365 rfl rfl rfl ?_
          refine ok_iconst 1367 1 dL_law_1366 rfl rfl ?_
          refine ok_iadd 1368 dL_law_1367 rfl ?_
          refine ok_scrI 1369 dL_law_1368 rfl ?_
          refine ok_callVi (np := 1) (M' := m_X11_gain) (As := [.int (xs (s3_18 + (1 : Int32)).toNatClampNeg)]) (st := []) 1372 dL_law_1369 rfl rfl km_X11_gain ki_X11_gain kv_X11_gain ml_EncoresLaw_162 (by decide) sg_0 rfl (Nat.le_of_ble_eq_true rfl) rfl rfl rfl (Nat.le_of_ble_eq_true rfl) (c_X11_gain N (d + 43) (xs (s3_18 + (1 : Int32)).toNatClampNeg) m) ⟨Nat.le_refl _, Nat.le_refl _⟩ (Or.inl rfl) rfl (fun r_1369 m_1369 _ => ?_)
          refine ok_aload_n 1373 2 dL_law_1372 rfl rfl rfl ?_
          refine ok_aload_n 1374 0 dL_law_1373 rfl rfl rfl ?_
          refine ok_iload_n 1375 3 dL_law_1374 rfl rfl rfl ?_
          refine ok_iconst 1376 1 dL_law_1375 rfl rfl ?_
          refine ok_iadd 1377 dL_law_1376 rfl ?_
          refine ok_scrI 1378 dL_law_1377 rfl ?_
          refine ok_callVi (np := 1) (M' := m_X12_gain) (As := [.int (xs (s3_18 + (1 : Int32)).toNatClampNeg)]) (st := [.int r_1369]) 1381 dL_law_1378 rfl rfl km_X12_gain ki_X12_gain kv_X12_gain ml_EncoresLaw_165 (by decide) sg_123 rfl (Nat.le_of_ble_eq_true rfl) rfl rfl rfl (Nat.le_of_ble_eq_true rfl) (c_X12_gain N (d + 41) (xs (s3_18 + (1 : Int32)).toNatClampNeg) m_1369) ⟨Nat.le_refl _, Nat.le_refl _⟩ (Or.inl rfl) rfl (fun r_1378 m_1378 _ => ?_)
          refine ok_icmp_eq 1530 1384 dL_law_1381 (by decide) rfl (fun _ => ?_) (fun _ => ?_)
          · refine ok_iinc 1533 3 6 [some (.ref 3000), some (.ref 0), some (.ref 123), some (.int (s3_18 + 6))] dL_law_1530 rfl rfl rfl (by decide) rfl ?_
            refine ok_goto 18 dL_law_1533 (by decide) ?_
            exact ok_less [some (.ref 3000), some (.ref 0), some (.ref 123), some (.int (s3_18 + 6))] (And.intro rfl (And.intro rfl (And.intro rfl (And.intro rfl (trivial))))) (hX (s3_18 + 6) m_1378)
          · refine ok_iconst 1385 0 dL_law_1384 rfl rfl ?_
            exact ok_zretc dL_law_1385 rfl rfl
        · refine ok_aload_n 1387 1 dL_law_1386 rfl rfl rfl ?_
          refine ok_aload_n 1388 0 dL_law_1387 rfl rfl rfl ?_
          refine ok_iload_n 1389 3 dL_law_1388 rfl rfl rfl ?_
          refine ok_iconst 1390 1 dL_law_1389 rfl rfl ?_
          refine ok_iadd 1391 dL_law_1390 rfl ?_
          refine ok_scrI 1392 dL_law_1391 rfl ?_
          refine ok_callVi (np := 1) (M' := m_X11_bargain) (As := [.int (xs (s3_18 + (1 : Int32)).toNatClampNeg)]) (st := []) 1395 dL_law_1392 rfl rfl km_X11_bargain ki_X11_bargain kv_X11_bargain ml_EncoresLaw_166 (by decide) sg_0 rfl (Nat.le_of_ble_eq_true rfl) rfl rfl rfl (Nat.le_of_ble_eq_true rfl) (c_X11_bargain N (d + 46) (xs (s3_18 + (1 : Int32)).toNatClampNeg) m) ⟨Nat.le_refl _, Nat.le_refl _⟩ (Or.inl rfl) rfl (fun r_1392 m_1392 _ => ?_)
          refine ok_aload_n 1396 2 dL_law_1395 rfl rfl rfl ?_
          refine ok_aload_n 1397 0 dL_law_1396 rfl rfl rfl ?_
          refine ok_iload_n 1398 3 dL_law_1397 rfl rfl rfl ?_
          refine ok_iconst 1399 1 dL_law_1398 rfl rfl ?_
          refine ok_iadd 1400 dL_law_1399 rfl ?_
          refine ok_scrI 1401 dL_law_1400 rfl ?_
          refine ok_callVi (np := 1) (M' := m_X12_bargain) (As := [.int (xs (s3_18 + (1 : Int32)).toNatClampNeg)]) (st := [.int r_1392]) 1404 dL_law_1401 rfl rfl km_X12_bargain ki_X12_bargain kv_X12_bargain ml_EncoresLaw_169 (by decide) sg_123 rfl (Nat.le_of_ble_eq_true rfl) rfl rfl rfl (Nat.le_of_ble_eq_true rfl) (c_X12_bargain N (d + 48) (xs (s3_18 + (1 : Int32)).toNatClampNeg) m_1392) ⟨Nat.le_refl _, Nat.le_refl _⟩ (Or.inl rfl) rfl (fun r_1401 m_1401 _ => ?_)
          refine ok_icmp_eq 1530 1407 dL_law_1404 (by decide) rfl (fun _ => ?_) (fun _ => ?_)
          · refine ok_iinc 1533 3 6 [some (.ref 3000), some (.ref 0), some (.ref 123), some (.int (s3_18 + 6))] dL_law_1530 rfl rfl rfl (by decide) rfl ?_
            refine ok_goto 18 dL_law_1533 (by decide) ?_
            exact ok_less [some (.ref 3000), some (.ref 0), some (.ref 123), some (.int (s3_18 + 6))] (And.intro rfl (And.intro rfl (And.intro rfl (And.intro rfl (trivial))))) (hX (s3_18 + 6) m_1401)
          · refine ok_iconst 1408 0 dL_law_1407 rfl rfl ?_
            exact ok_zretc dL_law_1408 rfl rfl
        · refine ok_aload_n 1410 1 dL_law_1409 rfl rfl rfl ?_
          refine ok_aload_n 1411 0 dL_law_1410 rfl rfl rfl ?_
          refine ok_iload_n 1412 3 dL_law_1411 rfl rfl rfl ?_
          refine ok_iconst 1413 1 dL_law_1412 rfl rfl ?_
          refine ok_iadd 1414 dL_law_1413 rfl ?_
          refine ok_scrI 1415 dL_law_1414 rfl ?_
          refine ok_callVi (np := 1) (M' := m_X11_calm) (As := [.int (xs (s3_18 + (1 : Int32)).toNatClampNeg)]) (st := []) 1418 dL_law_1415 rfl rfl km_X11_calm ki_X11_calm kv_X11_calm ml_EncoresLaw_170 (by decide) sg_0 rfl (Nat.le_of_ble_eq_true rfl) rfl rfl rfl (Nat.le_of_ble_eq_true rfl) (c_X11_calm N (d + 43) (xs (s3_18 + (1 : Int32)).toNatClampNeg) m) ⟨Nat.le_refl _, Nat.le_refl _⟩ (Or.inl rfl) rfl (fun r_1415 m_1415 _ => ?_)
          refine ok_aload_n 1419 2 dL_law_1418 rfl rfl rfl ?_
          refine ok_aload_n 1420 0 dL_law_1419 rfl rfl rfl ?_
          refine ok_iload_n 1421 3 dL_law_1420 rfl rfl rfl ?_
          refine ok_iconst 1422 1 dL_law_1421 rfl rfl ?_
          refine ok_iadd 1423 dL_law_1422 rfl ?_
          refine ok_scrI 1424 dL_law_1423 rfl ?_
          refine ok_callVi (np := 1) (M' := m_X12_calm) (As := [.int (xs (s3_18 + (1 : Int32)).toNatClampNeg)]) (st := [.int r_1415]) 1427 dL_law_1424 rfl rfl km_X12_calm ki_X12_calm kv_X12_calm ml_EncoresLaw_173 (by decide) sg_123 rfl (Nat.le_of_ble_eq_true rfl) rfl rfl rfl (Nat.le_of_ble_eq_true rfl) (c_X12_calm N (d + 41) (xs (s3_18 + (1 : Int32)).toNatClampNeg) m_1415) ⟨Nat.le_refl _, Nat.le_refl _⟩ (Or.inl rfl) rfl (fun r_1424 m_1424 _ => ?_)
          refine ok_icmp_eq 1530 1430 dL_law_1427 (by decide) rfl (fun _ => ?_) (fun _ => ?_)
          · refine ok_iinc 1533 3 6 [some (.ref 3000), some (.ref 0), some (.ref 123), some (.int (s3_18 + 6))] dL_law_1530 rfl rfl rfl (by decide) rfl ?_
            refine ok_goto 18 dL_law_1533 (by decide) ?_
            exact ok_less [some (.ref 3000), some (.ref 0), some (.ref 123), some (.int (s3_18 + 6))] (And.intro rfl (And.intro rfl (And.intro rfl (And.intro rfl (trivial))))) (hX (s3_18 + 6) m_1424)
          · refine ok_iconst 1431 0 dL_law_1430 rfl rfl ?_
            exact ok_zretc dL_law_1431 rfl rfl
        · refine ok_aload_n 1433 1 dL_law_1432 rfl rfl rfl ?_
          refine ok_aload_n 1434 0 dL_law_1433 rfl rfl rfl ?_
          refine ok_iload_n 1435 3 dL_law_1434 rfl rfl rfl ?_
          refine ok_iconst 1436 1 dL_law_1435 rfl rfl ?_
          refine ok_iadd 1437 dL_law_1436 rfl ?_
          refine ok_scrI 1438 dL_law_1437 rfl ?_
          refine ok_callVi (np := 1) (M' := m_X11_tires) (As := [.int (xs (s3_18 + (1 : Int32)).toNatClampNeg)]) (st := []) 1441 dL_law_1438 rfl rfl km_X11_tires ki_X11_tires kv_X11_tires ml_EncoresLaw_174 (by decide) sg_0 rfl (Nat.le_of_ble_eq_true rfl) rfl rfl rfl (Nat.le_of_ble_eq_true rfl) (c_X11_tires N (d + 44) (xs (s3_18 + (1 : Int32)).toNatClampNeg) m) ⟨Nat.le_refl _, Nat.le_refl _⟩ (Or.inl rfl) rfl (fun r_1438 m_1438 _ => ?_)
          refine ok_aload_n 1442 2 dL_law_1441 rfl rfl rfl ?_
          refine ok_aload_n 1443 0 dL_law_1442 rfl rfl rfl ?_
          refine ok_iload_n 1444 3 dL_law_1443 rfl rfl rfl ?_
          refine ok_iconst 1445 1 dL_law_1444 rfl rfl ?_
          refine ok_iadd 1446 dL_law_1445 rfl ?_
          refine ok_scrI 1447 dL_law_1446 rfl ?_
          refine ok_callVi (np := 1) (M' := m_X12_tires) (As := [.int (xs (s3_18 + (1 : Int32)).toNatClampNeg)]) (st := [.int r_1438]) 1450 dL_law_1447 rfl rfl km_X12_tires ki_X12_tires kv_X12_tires ml_EncoresLaw_177 (by decide) sg_123 rfl (Nat.le_of_ble_eq_true rfl) rfl rfl rfl (Nat.le_of_ble_eq_true rfl) (c_X12_tires N (d + 43) (xs (s3_18 + (1 : Int32)).toNatClampNeg) m_1438) ⟨Nat.le_refl _, Nat.le_refl _⟩ (Or.inl rfl) rfl (fun r_1447 m_1447 _ => ?_)
          refine ok_icmp_eq 1530 1453 dL_law_1450 (by decide) rfl (fun _ => ?_) (fun _ => ?_)
          · refine ok_iinc 1533 3 6 [some (.ref 3000), some (.ref 0), some (.ref 123), some (.int (s3_18 + 6))] dL_law_1530 rfl rfl rfl (by decide) rfl ?_
            refine ok_goto 18 dL_law_1533 (by decide) ?_
            exact ok_less [some (.ref 3000), some (.ref 0), some (.ref 123), some (.int (s3_18 + 6))] (And.intro rfl (And.intro rfl (And.intro rfl (And.intro rfl (trivial))))) (hX (s3_18 + 6) m_1447)
          · refine ok_iconst 1454 0 dL_law_1453 rfl rfl ?_
            exact ok_zretc dL_law_1454 rfl rfl
        · refine ok_aload_n 1456 1 dL_law_1455 rfl rfl rfl ?_
          refine ok_callVi (np := 0) (M' := m_X11_undo) (As := []) (st := []) 1459 dL_law_1456 rfl rfl km_X11_undo ki_X11_undo kv_X11_undo ml_EncoresLaw_178 (by decide) sg_0 rfl (Nat.le_of_ble_eq_true rfl) rfl rfl rfl (Nat.le_of_ble_eq_true rfl) (c_X11_undo N (d + 45) m) ⟨Nat.le_refl _, Nat.le_refl _⟩ (Or.inl rfl) rfl (fun r_1456 m_1456 _ => ?_)
          refine ok_aload_n 1460 2 dL_law_1459 rfl rfl rfl ?_
          refine ok_callVi (np := 0) (M' := m_X12_undo) (As := []) (st := [.int r_1456]) 1463 dL_law_1460 rfl rfl km_X12_undo ki_X12_undo kv_X12_undo ml_EncoresLaw_182 (by decide) sg_123 rfl (Nat.le_of_ble_eq_true rfl) rfl rfl rfl (Nat.le_of_ble_eq_true rfl) (c_X12_undo N (d + 49) m_1456) ⟨Nat.le_refl _, Nat.le_refl _⟩ (Or.inl rfl) rfl (fun r_1460 m_1460 _ => ?_)
          refine ok_icmp_eq 1530 1466 dL_law_1463 (by decide) rfl (fun _ => ?_) (fun _ => ?_)
          · refine ok_iinc 1533 3 6 [some (.ref 3000), some (.ref 0), some (.ref 123), some (.int (s3_18 + 6))] dL_law_1530 rfl rfl rfl (by decide) rfl ?_
            refine ok_goto 18 dL_law_1533 (by decide) ?_
            exact ok_less [some (.ref 3000), some (.ref 0), some (.ref 123), some (.int (s3_18 + 6))] (And.intro rfl (And.intro rfl (And.intro rfl (And.intro rfl (trivial))))) (hX (s3_18 + 6) m_1460)
          · refine ok_iconst 1467 0 dL_law_1466 rfl rfl ?_
            exact ok_zretc dL_law_1467 rfl rfl
        · refine ok_aload_n 1469 1 dL_law_1468 rfl rfl rfl ?_
          refine ok_aload_n 1470 0 dL_law_1469 rfl rfl rfl ?_
          refine ok_iload_n 1471 3 dL_law_1470 rfl rfl rfl ?_
          refine ok_iconst 1472 1 dL_law_1471 rfl rfl ?_
          refine ok_iadd 1473 dL_law_1472 rfl ?_
          refine ok_scrI 1474 dL_law_1473 rfl ?_
          refine ok_if_eq 1481 1477 dL_law_1474 (by decide) rfl (fun _ => ?_) (fun _ => ?_)
          · refine ok_iconst 1482 0 dL_law_1481 rfl rfl ?_
            exact ok_less [some (.ref 3000), some (.ref 0), some (.ref 123), some (.int s3_18)] (And.intro rfl (And.intro rfl (And.intro rfl (And.intro rfl (trivial))))) (ok_L_law_J1482 N d Lc xs   X hX s3_18 0 m)
          · refine ok_iconst 1478 1 dL_law_1477 rfl rfl ?_
            refine ok_goto 1482 dL_law_1478 (by decide) ?_
            exact ok_less [some (.ref 3000), some (.ref 0), some (.ref 123), some (.int s3_18)] (And.intro rfl (And.intro rfl (And.intro rfl (And.intro rfl (trivial))))) (ok_L_law_J1482 N d Lc xs   X hX s3_18 1 m)
        · refine ok_aload_n 1508 1 dL_law_1507 rfl rfl rfl ?_
          refine ok_aload_n 1509 0 dL_law_1508 rfl rfl rfl ?_
          refine ok_iload_n 1510 3 dL_law_1509 rfl rfl rfl ?_
          refine ok_iconst 1511 1 dL_law_1510 rfl rfl ?_
          refine ok_iadd 1512 dL_law_1511 rfl ?_
          refine ok_scrI 1513 dL_law_1512 rfl ?_
          refine ok_callVi (np := 1) (M' := m_X11_look) (As := [.int (xs (s3_18 + (1 : Int32)).toNatClampNeg)]) (st := []) 1516 dL_law_1513 rfl rfl km_X11_look ki_X11_look kv_X11_look ml_EncoresLaw_188 (by decide) sg_0 rfl (Nat.le_of_ble_eq_true rfl) rfl rfl rfl (Nat.le_of_ble_eq_true rfl) (c_X11_look N (d + 47) (xs (s3_18 + (1 : Int32)).toNatClampNeg) m) ⟨Nat.le_refl _, Nat.le_refl _⟩ (Or.inl rfl) rfl (fun r_1513 m_1513 _ => ?_)
          refine ok_aload_n 1517 2 dL_law_1516 rfl rfl rfl ?_
          refine ok_aload_n 1518 0 dL_law_1517 rfl rfl rfl ?_
          refine ok_iload_n 1519 3 dL_law_1518 rfl rfl rfl ?_
          refine ok_iconst 1520 1 dL_law_1519 rfl rfl ?_
          refine ok_iadd 1521 dL_law_1520 rfl ?_
          refine ok_scrI 1522 dL_law_1521 rfl ?_
          refine ok_callVi (np := 1) (M' := m_X12_look) (As := [.int (xs (s3_18 + (1 : Int32)).toNatClampNeg)]) (st := [.int r_1513]) 1525 dL_law_1522 rfl rfl km_X12_look ki_X12_look kv_X12_look ml_EncoresLaw_191 (by decide) sg_123 rfl (Nat.le_of_ble_eq_true rfl) rfl rfl rfl (Nat.le_of_ble_eq_true rfl) (c_X12_look N (d + 49) (xs (s3_18 + (1 : Int32)).toNatClampNeg) m_1513) ⟨Nat.le_refl _, Nat.le_refl _⟩ (Or.inl rfl) rfl (fun r_1522 m_1522 _ => ?_)
          refine ok_icmp_eq 1530 1528 dL_law_1525 (by decide) rfl (fun _ => ?_) (fun _ => ?_)
          · refine ok_iinc 1533 3 6 [some (.ref 3000), some (.ref 0), some (.ref 123), some (.int (s3_18 + 6))] dL_law_1530 rfl rfl rfl (by decide) rfl ?_
            refine ok_goto 18 dL_law_1533 (by decide) ?_
            exact ok_less [some (.ref 3000), some (.ref 0), some (.ref 123), some (.int (s3_18 + 6))] (And.intro rfl (And.intro rfl (And.intro rfl (And.intro rfl (trivial))))) (hX (s3_18 + 6) m_1522)
          · refine ok_iconst 1529 0 dL_law_1528 rfl rfl ?_
            exact ok_zretc dL_law_1529 rfl rfl
      · refine ok_iinc 1533 3 6 [some (.ref 3000), some (.ref 0), some (.ref 123), some (.int (s3_18 + 6))] dL_law_1530 rfl rfl rfl (by decide) rfl ?_
        refine ok_goto 18 dL_law_1533 (by decide) ?_
        exact ok_less [some (.ref 3000), some (.ref 0), some (.ref 123), some (.int (s3_18 + 6))] (And.intro rfl (And.intro rfl (And.intro rfl (And.intro rfl (trivial))))) (hX (s3_18 + 6) m))

def f_law (N : Nat) (Lc : Nat) (xs : Nat → Int32) (m : Mem) : Ans :=
bnd (mnew m 0) fun m0 =>
bd (gi_0 m0) fun _ m1 =>
bnd (mnew m1 123) fun m2 =>
bd (gi_67 m2) fun _ m3 =>
it1 (f_L_law_L18 N Lc xs) N 0 m3

set_option maxRecDepth 100000 in
set_option maxHeartbeats 8000000 in
theorem ok_law (N d : Nat) (Lc : Nat) (xs : Nat → Int32) (m : Mem) : Ok (some (Lc, xs)) SG (d + 50) m_L_law 0 [some (.ref 3000), none, none, none] [] [] m (f_law N Lc xs m) := by
  unfold f_law
  refine ok_new (ty := ty11) (ci := 11) 3 dL_law_0 rfl rfl kl_EncoresLaw_7 in_Encores wi_Encores (by decide) rfl ty11_ok dv_11 (by decide +kernel) (by decide +kernel) rfl (by decide +kernel) ?_
  refine ok_shape (S2 := S_1) rfl ?_
  refine ok_bndM (fun m0 => ?_)
  show Ok _ _ _ _ _ _ (.ref 0 :: _) _ _ _
  refine ok_dup 4 dL_law_3 rfl rfl ?_
  refine ok_callI (np := 0) (M' := m_X11_init) (As := []) (st := [.ref 0]) (r := 0) 7 dL_law_4 rfl rfl km_X11_init ki_X11_init ml_EncoresLaw_9 (by decide) rfl rfl rfl rfl (Nat.le_of_ble_eq_true rfl) (ci_0 (d + 45) m0) (by decide +kernel) (Or.inr (okR_of rfl)) (fun _ m1 _ => ?_)
  refine ok_astore_n 8 1 [some (.ref 3000), some (.ref 0), none, none] dL_law_7 rfl rfl (by decide) rfl ?_
  show Ok _ _ _ _ _ _ _ S_254 _ _
  refine ok_new (ty := ty12) (ci := 12) 11 dL_law_8 rfl rfl kl_EncoresLaw_10 in_EncoresModel wi_EncoresModel (by decide) rfl ty12_ok dv_12 (by decide +kernel) (by decide +kernel) rfl (by decide +kernel) ?_
  refine ok_shape (S2 := S_255) rfl ?_
  refine ok_bndM (fun m2 => ?_)
  show Ok _ _ _ _ _ _ (.ref 123 :: _) _ _ _
  refine ok_dup 12 dL_law_11 rfl rfl ?_
  refine ok_callI (np := 0) (M' := m_X12_init) (As := []) (st := [.ref 123]) (r := 123) 15 dL_law_12 rfl rfl km_X12_init ki_X12_init ml_EncoresLaw_12 (by decide) rfl rfl rfl rfl (Nat.le_of_ble_eq_true rfl) (ci_67 (d + 48) m2) (by decide +kernel) (Or.inr (okR_of rfl)) (fun _ m3 _ => ?_)
  refine ok_shape (S2 := SG) rfl ?_
  refine ok_astore_n 16 2 [some (.ref 3000), some (.ref 0), some (.ref 123), none] dL_law_15 rfl rfl (by decide) rfl ?_
  refine ok_iconst 17 0 dL_law_16 rfl rfl ?_
  refine ok_istore_n 18 3 [some (.ref 3000), some (.ref 0), some (.ref 123), some (.int 0)] dL_law_17 rfl rfl (by decide) rfl ?_
  exact ok_L_law_L18 N d Lc xs N 0 m3

